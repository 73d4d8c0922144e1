section
/-! the reference: sheets -/

def zeS (im : IM) (s n : Nat) : IM := fun k i x => if k = 50 ∧ i = 0 ∧ 40 * s ≤ x ∧ x < 40 * s + n then 0 else im k i x
theorem zeS_app (im : IM) (s n k i x : Nat) : zeS im s n k i x = if k = 50 ∧ i = 0 ∧ 40 * s ≤ x ∧ x < 40 * s + n then 0 else im k i x := rfl
theorem zeS_0 (im : IM) (s : Nat) : zeS im s 0 = im := by
  funext k i x
  rw [zeS_app, if_neg (by omega)]
theorem zeS_s (im : IM) (s n : Nat) : up (zeS im s n) 50 0 (40 * s + n) 0 = zeS im s (n + 1) := by
  funext k i x
  rw [up_app, zeS_app, zeS_app]
  by_cases h : k = 50 ∧ i = 0 ∧ x = 40 * s + n
  · rw [if_pos h, if_pos (by omega)]
  · rw [if_neg h]
    by_cases h2 : k = 50 ∧ i = 0 ∧ 40 * s ≤ x ∧ x < 40 * s + n
    · rw [if_pos h2, if_pos (by omega)]
    · rw [if_neg h2, if_neg (by omega)]
def shI3 (im : IM) (s : Nat) (sort n : Int) : IM := up (up (up im 47 0 s (if sort < 0 then 0 else 1)) 48 0 s sort) 49 0 s n
def sheetR (im : IM) (s : Nat) (sort n : Int) : IM := zeS (shI3 im s sort n) s (if sort < 0 then 0 else n.toNat)

set_option maxHeartbeats 4000000 in
theorem c_X9_sheet (l : Launch) (G : GS) (im : IM) (bt rt : Nat) (lm : IM) (s sort n : Int) (hs : ri s) (hsort : ri sort) (hn : ri n) : Cn l (XR G) yX9_sheet Y_X9_sheet [vR 30 0, vI s, vI sort, vI n] (im, rs bt rt, lm) (pI fun x m' => (¬ (((0 : Int) ≤ s ∧ (s : Int) ≤ 3) ∧ (-1 ≤ sort ∧ sort ≤ 2)) ∨ (0 ≤ sort ∧ 40 < n) → x = -2 ∧ m' = (im, rs bt rt, lm)) ∧ ((((0 : Int) ≤ s ∧ (s : Int) ≤ 3) ∧ (-1 ≤ sort ∧ sort ≤ 2)) → ¬ (0 ≤ sort ∧ 40 < n) → (0 ≤ sort ∧ n < 0 → x = -14 ∧ m' = (im, rs bt rt, lm)) ∧ (¬ (0 ≤ sort ∧ n < 0) → x = 1 ∧ m' = (sheetR im (Int.toNat s) sort n, rs bt rt, lm)))) := by
  refine cn_of (by decide) (okR G) rfl (Nat.le_of_ble_eq_true rfl) ?_
  intro M ad hMl F
  subst hMl
  have s1 := hs.1
  have s2 := hs.2
  have sort1 := hsort.1
  have sort2 := hsort.2
  have n1 := hn.1
  have n2 := hn.2
  refine wp_pad 1 ?_
  show Wp M (XR G) ad Y_X9_sheet (pI fun x m' => (¬ (((0 : Int) ≤ s ∧ (s : Int) ≤ 3) ∧ (-1 ≤ sort ∧ sort ≤ 2)) ∨ (0 ≤ sort ∧ 40 < n) → x = -2 ∧ m' = (im, rs bt rt, lm)) ∧ ((((0 : Int) ≤ s ∧ (s : Int) ≤ 3) ∧ (-1 ≤ sort ∧ sort ≤ 2)) → ¬ (0 ≤ sort ∧ 40 < n) → (0 ≤ sort ∧ n < 0 → x = -14 ∧ m' = (im, rs bt rt, lm)) ∧ (¬ (0 ≤ sort ∧ n < 0) → x = 1 ∧ m' = (sheetR im (Int.toNat s) sort n, rs bt rt, lm)))) 0 [some (vR 30 0), some (vI s), some (vI sort), some (vI n), none] [] (im, rs bt rt, lm)
  refine q_iload_n (t := 1) F dX9_sheet_0 rfl rfl rfl ?_
  refine wp_callS (t := 4) [_] F dX9_sheet_1 k_X9_isSheet st_X9_isSheet ml_X9_421 rfl rfl (Nat.le_of_ble_eq_true rfl) (by decide) (c_X9_isSheet _ G im bt rt lm s (by constructor <;> omega)) rfl (kI ?_)
  rintro x1 m' ⟨hx1, rfl⟩
  have hx1 := if01 hx1
  refine q_if_eq (t := 7) (u := 31) F dX9_sheet_4 (by first | exact hR _ _ _ | (constructor <;> omega)) (by decide) rfl (fun c4 => ?_) (fun c4 => ?_)
  · refine q_bipush (t := 33) F dX9_sheet_31 (by decide) rfl ?_
    refine q_iret F dX9_sheet_33 rfl ?_
    first
      | exact ⟨_, rfl, fun _ => ⟨rfl, rfl⟩, fun z1 z2 => absurd z1 (by omega)⟩
      | exact ⟨_, rfl, fun z => absurd z (by omega), fun _ _ => ⟨fun _ => ⟨rfl, rfl⟩, fun z => absurd (by omega) z⟩⟩
      | (have ej : j = (if sort < 0 then 0 else n.toNat) := by split <;> omega
         refine ⟨_, rfl, fun z => absurd z (by omega), fun _ _ => ⟨fun z => absurd z (by omega), fun _ => ⟨rfl, ?_⟩⟩⟩
         unfold sheetR
         (try rw [ets])
         rw [← ej])
      | omega
  · refine q_iload_n (t := 8) F dX9_sheet_7 rfl rfl rfl ?_
    refine q_i2l (t := 9) F dX9_sheet_8 (by first | exact hR _ _ _ | (constructor <;> omega)) rfl ?_
    refine q_ldc2 (t := 12) (x := -1) F dX9_sheet_9 kl_X9_471 (by decide) rfl ?_
    refine q_ldc2 (t := 15) (x := 2) F dX9_sheet_12 kl_X9_99 (by decide) rfl ?_
    refine wp_callS (t := 18) [_, _, _] F dX9_sheet_15 k_X9_in st_X9_in ml_X9_91 rfl rfl (Nat.le_of_ble_eq_true rfl) (by decide) (c_X9_in _ G _ _ _ _ _ _ _ (by constructor <;> omega) (by constructor <;> omega) (by constructor <;> omega)) rfl (kI ?_)
    rintro x15 m' ⟨hx15, rfl⟩
    have hx15 := if01 hx15
    refine q_if_eq (t := 21) (u := 31) F dX9_sheet_18 (by first | exact hR _ _ _ | (constructor <;> omega)) (by decide) rfl (fun c18 => ?_) (fun c18 => ?_)
    · refine q_bipush (t := 33) F dX9_sheet_31 (by decide) rfl ?_
      refine q_iret F dX9_sheet_33 rfl ?_
      first
        | exact ⟨_, rfl, fun _ => ⟨rfl, rfl⟩, fun z1 z2 => absurd z1 (by omega)⟩
        | exact ⟨_, rfl, fun z => absurd z (by omega), fun _ _ => ⟨fun _ => ⟨rfl, rfl⟩, fun z => absurd (by omega) z⟩⟩
        | (have ej : j = (if sort < 0 then 0 else n.toNat) := by split <;> omega
           refine ⟨_, rfl, fun z => absurd z (by omega), fun _ _ => ⟨fun z => absurd z (by omega), fun _ => ⟨rfl, ?_⟩⟩⟩
           unfold sheetR
           (try rw [ets])
           rw [← ej])
        | omega
    · refine q_iload_n (t := 22) F dX9_sheet_21 rfl rfl rfl ?_
      refine q_if_lt (t := 25) (u := 34) F dX9_sheet_22 (by first | exact hR _ _ _ | (constructor <;> omega)) (by decide) rfl (fun c22 => ?_) (fun c22 => ?_)
      · refine q_iload_n (t := 35) F dX9_sheet_34 rfl rfl rfl ?_
        refine q_if_lt (t := 38) (u := 45) F dX9_sheet_35 (by first | exact hR _ _ _ | (constructor <;> omega)) (by decide) rfl (fun c35 => ?_) (fun c35 => ?_)
        · obtain ⟨s, rfl⟩ : ∃ j : Nat, s = (j : Int) := ⟨s.toNat, by omega⟩
          have ets : ((s : Nat) : Int).toNat = s := Int.toNat_natCast s
          have hs3 : s ≤ 3 := by omega
          refine q_aload_n (t := 46) F dX9_sheet_45 rfl rfl rfl ?_
          refine g_X9_68 (t := 49) F dX9_sheet_46 rfl rfl ?_
          refine q_iload_n (t := 50) F dX9_sheet_49 rfl rfl rfl ?_
          refine q_iload_n (t := 51) F dX9_sheet_50 rfl rfl rfl ?_
          refine q_if_lt (t := 54) (u := 58) F dX9_sheet_51 (by first | exact hR _ _ _ | (constructor <;> omega)) (by decide) rfl (fun c51 => ?_) (fun c51 => ?_)
          · refine q_iconst (t := 59) F dX9_sheet_58 rfl ?_
            first | refine stN_47 (t := 60) F dX9_sheet_59 (by omega) (by omega) rfl ?_ | refine st_47 (t := 60) F dX9_sheet_59 (by omega) (by omega) (by omega) rfl ?_
            refine q_aload_n (t := 61) F dX9_sheet_60 rfl rfl rfl ?_
            refine g_X9_72 (t := 64) F dX9_sheet_61 rfl rfl ?_
            refine q_iload_n (t := 65) F dX9_sheet_64 rfl rfl rfl ?_
            refine q_iload_n (t := 66) F dX9_sheet_65 rfl rfl rfl ?_
            first | refine stN_48 (t := 67) F dX9_sheet_66 (by omega) rfl ?_ | refine st_48 (t := 67) F dX9_sheet_66 (by omega) (by omega) rfl ?_
            refine q_aload_n (t := 68) F dX9_sheet_67 rfl rfl rfl ?_
            refine g_X9_75 (t := 71) F dX9_sheet_68 rfl rfl ?_
            refine q_iload_n (t := 72) F dX9_sheet_71 rfl rfl rfl ?_
            refine q_iload_n (t := 73) F dX9_sheet_72 rfl rfl rfl ?_
            first | refine stN_49 (t := 74) F dX9_sheet_73 (by omega) rfl ?_ | refine st_49 (t := 74) F dX9_sheet_73 (by omega) (by omega) rfl ?_
            refine q_iconst (t := 75) F dX9_sheet_74 rfl ?_
            refine q_istore (t := 77) F dX9_sheet_75 (by decide) rfl rfl ?_
            have L77 : ∀ (fz : Nat) (j : Nat), 41 - j < fz → (0 ≤ sort → (j : Int) ≤ n) ∧ (sort < 0 → j = 0) → Wp M (XR G) ad Y_X9_sheet (pI fun x m' => (¬ (((0 : Int) ≤ s ∧ (s : Int) ≤ 3) ∧ (-1 ≤ sort ∧ sort ≤ 2)) ∨ (0 ≤ sort ∧ 40 < n) → x = -2 ∧ m' = (im, rs bt rt, lm)) ∧ ((((0 : Int) ≤ s ∧ (s : Int) ≤ 3) ∧ (-1 ≤ sort ∧ sort ≤ 2)) → ¬ (0 ≤ sort ∧ 40 < n) → (0 ≤ sort ∧ n < 0 → x = -14 ∧ m' = (im, rs bt rt, lm)) ∧ (¬ (0 ≤ sort ∧ n < 0) → x = 1 ∧ m' = (sheetR im (Int.toNat s) sort n, rs bt rt, lm)))) 77 [some (vR 30 0), some (vI (s : Int)), some (vI sort), some (vI n), some (vI (j : Int))] [] (zeS (shI3 im s sort n) s j, rs bt rt, lm) := by
              intro fz
              induction fz with
              | zero => intro j h; exact absurd h (Nat.not_lt_zero _)
              | succ fz ih =>
                have ih77 := ih
                intro j hmeas ⟨hj1, hj2⟩
                refine q_iload (t := 79) F dX9_sheet_77 rfl rfl ?_
                refine q_iload_n (t := 80) F dX9_sheet_79 rfl rfl rfl ?_
                refine q_icmp_ge (t := 83) (u := 106) F dX9_sheet_80 (by constructor <;> omega) (by constructor <;> omega) (by decide) rfl (fun c80 => ?_) (fun c80 => ?_)
                · refine q_iconst (t := 107) F dX9_sheet_106 rfl ?_
                  refine q_iret F dX9_sheet_107 rfl ?_
                  first
                    | exact ⟨_, rfl, fun _ => ⟨rfl, rfl⟩, fun z1 z2 => absurd z1 (by omega)⟩
                    | exact ⟨_, rfl, fun z => absurd z (by omega), fun _ _ => ⟨fun _ => ⟨rfl, rfl⟩, fun z => absurd (by omega) z⟩⟩
                    | (have ej : j = (if sort < 0 then 0 else n.toNat) := by split <;> omega
                       refine ⟨_, rfl, fun z => absurd z (by omega), fun _ _ => ⟨fun z => absurd z (by omega), fun _ => ⟨rfl, ?_⟩⟩⟩
                       unfold sheetR
                       (try rw [ets])
                       rw [← ej])
                    | omega
                · refine q_iload_n (t := 84) F dX9_sheet_83 rfl rfl rfl ?_
                  refine q_if_lt (t := 87) (u := 106) F dX9_sheet_84 (by first | exact hR _ _ _ | (constructor <;> omega)) (by decide) rfl (fun c84 => ?_) (fun c84 => ?_)
                  · refine q_iconst (t := 107) F dX9_sheet_106 rfl ?_
                    refine q_iret F dX9_sheet_107 rfl ?_
                    first
                      | exact ⟨_, rfl, fun _ => ⟨rfl, rfl⟩, fun z1 z2 => absurd z1 (by omega)⟩
                      | exact ⟨_, rfl, fun z => absurd z (by omega), fun _ _ => ⟨fun _ => ⟨rfl, rfl⟩, fun z => absurd (by omega) z⟩⟩
                      | (have ej : j = (if sort < 0 then 0 else n.toNat) := by split <;> omega
                         refine ⟨_, rfl, fun z => absurd z (by omega), fun _ _ => ⟨fun z => absurd z (by omega), fun _ => ⟨rfl, ?_⟩⟩⟩
                         unfold sheetR
                         (try rw [ets])
                         rw [← ej])
                      | omega
                  · refine q_aload_n (t := 88) F dX9_sheet_87 rfl rfl rfl ?_
                    refine g_X9_78 (t := 91) F dX9_sheet_88 rfl rfl ?_
                    refine q_bipush (t := 93) F dX9_sheet_91 (by decide) rfl ?_
                    refine q_iload_n (t := 94) F dX9_sheet_93 rfl rfl rfl ?_
                    refine q_imul (t := 95) F dX9_sheet_94 rfl ?_
                    refine q_iload (t := 97) F dX9_sheet_95 rfl rfl ?_
                    refine q_iadd (t := 98) F dX9_sheet_97 rfl ?_
                    rw [show (40 : Int) * (s : Int) + (j : Int) = ((40 * s + j : Nat) : Int) by omega]
                    refine q_iconst (t := 99) F dX9_sheet_98 rfl ?_
                    first | refine stN_50 (t := 100) F dX9_sheet_99 (by omega) rfl ?_ | refine st_50 (t := 100) F dX9_sheet_99 (by omega) (by omega) rfl ?_
                    refine q_iinc (t := 103) F dX9_sheet_100 rfl (by decide) rfl rfl ?_
                    refine q_goto (t := 77) F dX9_sheet_103 (by decide) ?_
                    rw [show (j : Int) + 1 = ((j + 1 : Nat) : Int) by omega, zeS_s]
                    exact ih77 (j + 1) (by omega) ⟨fun _ => by omega, fun z => absurd z (by omega)⟩
            have L0 := L77 _ 0 (Nat.lt_succ_self _) ⟨fun _ => by omega, fun _ => rfl⟩
            rw [zeS_0] at L0
            unfold shI3 at L0
            first
              | (rw [if_pos (by omega)] at L0; exact L0)
              | (rw [if_neg (by omega)] at L0; exact L0)
              | omega
          · refine q_iconst (t := 55) F dX9_sheet_54 rfl ?_
            refine q_goto (t := 59) F dX9_sheet_55 (by decide) ?_
            first | refine stN_47 (t := 60) F dX9_sheet_59 (by omega) (by omega) rfl ?_ | refine st_47 (t := 60) F dX9_sheet_59 (by omega) (by omega) (by omega) rfl ?_
            refine q_aload_n (t := 61) F dX9_sheet_60 rfl rfl rfl ?_
            refine g_X9_72 (t := 64) F dX9_sheet_61 rfl rfl ?_
            refine q_iload_n (t := 65) F dX9_sheet_64 rfl rfl rfl ?_
            refine q_iload_n (t := 66) F dX9_sheet_65 rfl rfl rfl ?_
            first | refine stN_48 (t := 67) F dX9_sheet_66 (by omega) rfl ?_ | refine st_48 (t := 67) F dX9_sheet_66 (by omega) (by omega) rfl ?_
            refine q_aload_n (t := 68) F dX9_sheet_67 rfl rfl rfl ?_
            refine g_X9_75 (t := 71) F dX9_sheet_68 rfl rfl ?_
            refine q_iload_n (t := 72) F dX9_sheet_71 rfl rfl rfl ?_
            refine q_iload_n (t := 73) F dX9_sheet_72 rfl rfl rfl ?_
            first | refine stN_49 (t := 74) F dX9_sheet_73 (by omega) rfl ?_ | refine st_49 (t := 74) F dX9_sheet_73 (by omega) (by omega) rfl ?_
            refine q_iconst (t := 75) F dX9_sheet_74 rfl ?_
            refine q_istore (t := 77) F dX9_sheet_75 (by decide) rfl rfl ?_
            have L77 : ∀ (fz : Nat) (j : Nat), 41 - j < fz → (0 ≤ sort → (j : Int) ≤ n) ∧ (sort < 0 → j = 0) → Wp M (XR G) ad Y_X9_sheet (pI fun x m' => (¬ (((0 : Int) ≤ s ∧ (s : Int) ≤ 3) ∧ (-1 ≤ sort ∧ sort ≤ 2)) ∨ (0 ≤ sort ∧ 40 < n) → x = -2 ∧ m' = (im, rs bt rt, lm)) ∧ ((((0 : Int) ≤ s ∧ (s : Int) ≤ 3) ∧ (-1 ≤ sort ∧ sort ≤ 2)) → ¬ (0 ≤ sort ∧ 40 < n) → (0 ≤ sort ∧ n < 0 → x = -14 ∧ m' = (im, rs bt rt, lm)) ∧ (¬ (0 ≤ sort ∧ n < 0) → x = 1 ∧ m' = (sheetR im (Int.toNat s) sort n, rs bt rt, lm)))) 77 [some (vR 30 0), some (vI (s : Int)), some (vI sort), some (vI n), some (vI (j : Int))] [] (zeS (shI3 im s sort n) s j, rs bt rt, lm) := by
              intro fz
              induction fz with
              | zero => intro j h; exact absurd h (Nat.not_lt_zero _)
              | succ fz ih =>
                have ih77 := ih
                intro j hmeas ⟨hj1, hj2⟩
                refine q_iload (t := 79) F dX9_sheet_77 rfl rfl ?_
                refine q_iload_n (t := 80) F dX9_sheet_79 rfl rfl rfl ?_
                refine q_icmp_ge (t := 83) (u := 106) F dX9_sheet_80 (by constructor <;> omega) (by constructor <;> omega) (by decide) rfl (fun c80 => ?_) (fun c80 => ?_)
                · refine q_iconst (t := 107) F dX9_sheet_106 rfl ?_
                  refine q_iret F dX9_sheet_107 rfl ?_
                  first
                    | exact ⟨_, rfl, fun _ => ⟨rfl, rfl⟩, fun z1 z2 => absurd z1 (by omega)⟩
                    | exact ⟨_, rfl, fun z => absurd z (by omega), fun _ _ => ⟨fun _ => ⟨rfl, rfl⟩, fun z => absurd (by omega) z⟩⟩
                    | (have ej : j = (if sort < 0 then 0 else n.toNat) := by split <;> omega
                       refine ⟨_, rfl, fun z => absurd z (by omega), fun _ _ => ⟨fun z => absurd z (by omega), fun _ => ⟨rfl, ?_⟩⟩⟩
                       unfold sheetR
                       (try rw [ets])
                       rw [← ej])
                    | omega
                · refine q_iload_n (t := 84) F dX9_sheet_83 rfl rfl rfl ?_
                  refine q_if_lt (t := 87) (u := 106) F dX9_sheet_84 (by first | exact hR _ _ _ | (constructor <;> omega)) (by decide) rfl (fun c84 => ?_) (fun c84 => ?_)
                  · refine q_iconst (t := 107) F dX9_sheet_106 rfl ?_
                    refine q_iret F dX9_sheet_107 rfl ?_
                    first
                      | exact ⟨_, rfl, fun _ => ⟨rfl, rfl⟩, fun z1 z2 => absurd z1 (by omega)⟩
                      | exact ⟨_, rfl, fun z => absurd z (by omega), fun _ _ => ⟨fun _ => ⟨rfl, rfl⟩, fun z => absurd (by omega) z⟩⟩
                      | (have ej : j = (if sort < 0 then 0 else n.toNat) := by split <;> omega
                         refine ⟨_, rfl, fun z => absurd z (by omega), fun _ _ => ⟨fun z => absurd z (by omega), fun _ => ⟨rfl, ?_⟩⟩⟩
                         unfold sheetR
                         (try rw [ets])
                         rw [← ej])
                      | omega
                  · refine q_aload_n (t := 88) F dX9_sheet_87 rfl rfl rfl ?_
                    refine g_X9_78 (t := 91) F dX9_sheet_88 rfl rfl ?_
                    refine q_bipush (t := 93) F dX9_sheet_91 (by decide) rfl ?_
                    refine q_iload_n (t := 94) F dX9_sheet_93 rfl rfl rfl ?_
                    refine q_imul (t := 95) F dX9_sheet_94 rfl ?_
                    refine q_iload (t := 97) F dX9_sheet_95 rfl rfl ?_
                    refine q_iadd (t := 98) F dX9_sheet_97 rfl ?_
                    rw [show (40 : Int) * (s : Int) + (j : Int) = ((40 * s + j : Nat) : Int) by omega]
                    refine q_iconst (t := 99) F dX9_sheet_98 rfl ?_
                    first | refine stN_50 (t := 100) F dX9_sheet_99 (by omega) rfl ?_ | refine st_50 (t := 100) F dX9_sheet_99 (by omega) (by omega) rfl ?_
                    refine q_iinc (t := 103) F dX9_sheet_100 rfl (by decide) rfl rfl ?_
                    refine q_goto (t := 77) F dX9_sheet_103 (by decide) ?_
                    rw [show (j : Int) + 1 = ((j + 1 : Nat) : Int) by omega, zeS_s]
                    exact ih77 (j + 1) (by omega) ⟨fun _ => by omega, fun z => absurd z (by omega)⟩
            have L0 := L77 _ 0 (Nat.lt_succ_self _) ⟨fun _ => by omega, fun _ => rfl⟩
            rw [zeS_0] at L0
            unfold shI3 at L0
            first
              | (rw [if_pos (by omega)] at L0; exact L0)
              | (rw [if_neg (by omega)] at L0; exact L0)
              | omega
        · refine q_iload_n (t := 39) F dX9_sheet_38 rfl rfl rfl ?_
          refine q_if_ge (t := 42) (u := 45) F dX9_sheet_39 (by first | exact hR _ _ _ | (constructor <;> omega)) (by decide) rfl (fun c39 => ?_) (fun c39 => ?_)
          · obtain ⟨s, rfl⟩ : ∃ j : Nat, s = (j : Int) := ⟨s.toNat, by omega⟩
            have ets : ((s : Nat) : Int).toNat = s := Int.toNat_natCast s
            have hs3 : s ≤ 3 := by omega
            refine q_aload_n (t := 46) F dX9_sheet_45 rfl rfl rfl ?_
            refine g_X9_68 (t := 49) F dX9_sheet_46 rfl rfl ?_
            refine q_iload_n (t := 50) F dX9_sheet_49 rfl rfl rfl ?_
            refine q_iload_n (t := 51) F dX9_sheet_50 rfl rfl rfl ?_
            refine q_if_lt (t := 54) (u := 58) F dX9_sheet_51 (by first | exact hR _ _ _ | (constructor <;> omega)) (by decide) rfl (fun c51 => ?_) (fun c51 => ?_)
            · refine q_iconst (t := 59) F dX9_sheet_58 rfl ?_
              first | refine stN_47 (t := 60) F dX9_sheet_59 (by omega) (by omega) rfl ?_ | refine st_47 (t := 60) F dX9_sheet_59 (by omega) (by omega) (by omega) rfl ?_
              refine q_aload_n (t := 61) F dX9_sheet_60 rfl rfl rfl ?_
              refine g_X9_72 (t := 64) F dX9_sheet_61 rfl rfl ?_
              refine q_iload_n (t := 65) F dX9_sheet_64 rfl rfl rfl ?_
              refine q_iload_n (t := 66) F dX9_sheet_65 rfl rfl rfl ?_
              first | refine stN_48 (t := 67) F dX9_sheet_66 (by omega) rfl ?_ | refine st_48 (t := 67) F dX9_sheet_66 (by omega) (by omega) rfl ?_
              refine q_aload_n (t := 68) F dX9_sheet_67 rfl rfl rfl ?_
              refine g_X9_75 (t := 71) F dX9_sheet_68 rfl rfl ?_
              refine q_iload_n (t := 72) F dX9_sheet_71 rfl rfl rfl ?_
              refine q_iload_n (t := 73) F dX9_sheet_72 rfl rfl rfl ?_
              first | refine stN_49 (t := 74) F dX9_sheet_73 (by omega) rfl ?_ | refine st_49 (t := 74) F dX9_sheet_73 (by omega) (by omega) rfl ?_
              refine q_iconst (t := 75) F dX9_sheet_74 rfl ?_
              refine q_istore (t := 77) F dX9_sheet_75 (by decide) rfl rfl ?_
              have L77 : ∀ (fz : Nat) (j : Nat), 41 - j < fz → (0 ≤ sort → (j : Int) ≤ n) ∧ (sort < 0 → j = 0) → Wp M (XR G) ad Y_X9_sheet (pI fun x m' => (¬ (((0 : Int) ≤ s ∧ (s : Int) ≤ 3) ∧ (-1 ≤ sort ∧ sort ≤ 2)) ∨ (0 ≤ sort ∧ 40 < n) → x = -2 ∧ m' = (im, rs bt rt, lm)) ∧ ((((0 : Int) ≤ s ∧ (s : Int) ≤ 3) ∧ (-1 ≤ sort ∧ sort ≤ 2)) → ¬ (0 ≤ sort ∧ 40 < n) → (0 ≤ sort ∧ n < 0 → x = -14 ∧ m' = (im, rs bt rt, lm)) ∧ (¬ (0 ≤ sort ∧ n < 0) → x = 1 ∧ m' = (sheetR im (Int.toNat s) sort n, rs bt rt, lm)))) 77 [some (vR 30 0), some (vI (s : Int)), some (vI sort), some (vI n), some (vI (j : Int))] [] (zeS (shI3 im s sort n) s j, rs bt rt, lm) := by
                intro fz
                induction fz with
                | zero => intro j h; exact absurd h (Nat.not_lt_zero _)
                | succ fz ih =>
                  have ih77 := ih
                  intro j hmeas ⟨hj1, hj2⟩
                  refine q_iload (t := 79) F dX9_sheet_77 rfl rfl ?_
                  refine q_iload_n (t := 80) F dX9_sheet_79 rfl rfl rfl ?_
                  refine q_icmp_ge (t := 83) (u := 106) F dX9_sheet_80 (by constructor <;> omega) (by constructor <;> omega) (by decide) rfl (fun c80 => ?_) (fun c80 => ?_)
                  · refine q_iconst (t := 107) F dX9_sheet_106 rfl ?_
                    refine q_iret F dX9_sheet_107 rfl ?_
                    first
                      | exact ⟨_, rfl, fun _ => ⟨rfl, rfl⟩, fun z1 z2 => absurd z1 (by omega)⟩
                      | exact ⟨_, rfl, fun z => absurd z (by omega), fun _ _ => ⟨fun _ => ⟨rfl, rfl⟩, fun z => absurd (by omega) z⟩⟩
                      | (have ej : j = (if sort < 0 then 0 else n.toNat) := by split <;> omega
                         refine ⟨_, rfl, fun z => absurd z (by omega), fun _ _ => ⟨fun z => absurd z (by omega), fun _ => ⟨rfl, ?_⟩⟩⟩
                         unfold sheetR
                         (try rw [ets])
                         rw [← ej])
                      | omega
                  · refine q_iload_n (t := 84) F dX9_sheet_83 rfl rfl rfl ?_
                    refine q_if_lt (t := 87) (u := 106) F dX9_sheet_84 (by first | exact hR _ _ _ | (constructor <;> omega)) (by decide) rfl (fun c84 => ?_) (fun c84 => ?_)
                    · refine q_iconst (t := 107) F dX9_sheet_106 rfl ?_
                      refine q_iret F dX9_sheet_107 rfl ?_
                      first
                        | exact ⟨_, rfl, fun _ => ⟨rfl, rfl⟩, fun z1 z2 => absurd z1 (by omega)⟩
                        | exact ⟨_, rfl, fun z => absurd z (by omega), fun _ _ => ⟨fun _ => ⟨rfl, rfl⟩, fun z => absurd (by omega) z⟩⟩
                        | (have ej : j = (if sort < 0 then 0 else n.toNat) := by split <;> omega
                           refine ⟨_, rfl, fun z => absurd z (by omega), fun _ _ => ⟨fun z => absurd z (by omega), fun _ => ⟨rfl, ?_⟩⟩⟩
                           unfold sheetR
                           (try rw [ets])
                           rw [← ej])
                        | omega
                    · refine q_aload_n (t := 88) F dX9_sheet_87 rfl rfl rfl ?_
                      refine g_X9_78 (t := 91) F dX9_sheet_88 rfl rfl ?_
                      refine q_bipush (t := 93) F dX9_sheet_91 (by decide) rfl ?_
                      refine q_iload_n (t := 94) F dX9_sheet_93 rfl rfl rfl ?_
                      refine q_imul (t := 95) F dX9_sheet_94 rfl ?_
                      refine q_iload (t := 97) F dX9_sheet_95 rfl rfl ?_
                      refine q_iadd (t := 98) F dX9_sheet_97 rfl ?_
                      rw [show (40 : Int) * (s : Int) + (j : Int) = ((40 * s + j : Nat) : Int) by omega]
                      refine q_iconst (t := 99) F dX9_sheet_98 rfl ?_
                      first | refine stN_50 (t := 100) F dX9_sheet_99 (by omega) rfl ?_ | refine st_50 (t := 100) F dX9_sheet_99 (by omega) (by omega) rfl ?_
                      refine q_iinc (t := 103) F dX9_sheet_100 rfl (by decide) rfl rfl ?_
                      refine q_goto (t := 77) F dX9_sheet_103 (by decide) ?_
                      rw [show (j : Int) + 1 = ((j + 1 : Nat) : Int) by omega, zeS_s]
                      exact ih77 (j + 1) (by omega) ⟨fun _ => by omega, fun z => absurd z (by omega)⟩
              have L0 := L77 _ 0 (Nat.lt_succ_self _) ⟨fun _ => by omega, fun _ => rfl⟩
              rw [zeS_0] at L0
              unfold shI3 at L0
              first
                | (rw [if_pos (by omega)] at L0; exact L0)
                | (rw [if_neg (by omega)] at L0; exact L0)
                | omega
            · refine q_iconst (t := 55) F dX9_sheet_54 rfl ?_
              refine q_goto (t := 59) F dX9_sheet_55 (by decide) ?_
              first | refine stN_47 (t := 60) F dX9_sheet_59 (by omega) (by omega) rfl ?_ | refine st_47 (t := 60) F dX9_sheet_59 (by omega) (by omega) (by omega) rfl ?_
              refine q_aload_n (t := 61) F dX9_sheet_60 rfl rfl rfl ?_
              refine g_X9_72 (t := 64) F dX9_sheet_61 rfl rfl ?_
              refine q_iload_n (t := 65) F dX9_sheet_64 rfl rfl rfl ?_
              refine q_iload_n (t := 66) F dX9_sheet_65 rfl rfl rfl ?_
              first | refine stN_48 (t := 67) F dX9_sheet_66 (by omega) rfl ?_ | refine st_48 (t := 67) F dX9_sheet_66 (by omega) (by omega) rfl ?_
              refine q_aload_n (t := 68) F dX9_sheet_67 rfl rfl rfl ?_
              refine g_X9_75 (t := 71) F dX9_sheet_68 rfl rfl ?_
              refine q_iload_n (t := 72) F dX9_sheet_71 rfl rfl rfl ?_
              refine q_iload_n (t := 73) F dX9_sheet_72 rfl rfl rfl ?_
              first | refine stN_49 (t := 74) F dX9_sheet_73 (by omega) rfl ?_ | refine st_49 (t := 74) F dX9_sheet_73 (by omega) (by omega) rfl ?_
              refine q_iconst (t := 75) F dX9_sheet_74 rfl ?_
              refine q_istore (t := 77) F dX9_sheet_75 (by decide) rfl rfl ?_
              have L77 : ∀ (fz : Nat) (j : Nat), 41 - j < fz → (0 ≤ sort → (j : Int) ≤ n) ∧ (sort < 0 → j = 0) → Wp M (XR G) ad Y_X9_sheet (pI fun x m' => (¬ (((0 : Int) ≤ s ∧ (s : Int) ≤ 3) ∧ (-1 ≤ sort ∧ sort ≤ 2)) ∨ (0 ≤ sort ∧ 40 < n) → x = -2 ∧ m' = (im, rs bt rt, lm)) ∧ ((((0 : Int) ≤ s ∧ (s : Int) ≤ 3) ∧ (-1 ≤ sort ∧ sort ≤ 2)) → ¬ (0 ≤ sort ∧ 40 < n) → (0 ≤ sort ∧ n < 0 → x = -14 ∧ m' = (im, rs bt rt, lm)) ∧ (¬ (0 ≤ sort ∧ n < 0) → x = 1 ∧ m' = (sheetR im (Int.toNat s) sort n, rs bt rt, lm)))) 77 [some (vR 30 0), some (vI (s : Int)), some (vI sort), some (vI n), some (vI (j : Int))] [] (zeS (shI3 im s sort n) s j, rs bt rt, lm) := by
                intro fz
                induction fz with
                | zero => intro j h; exact absurd h (Nat.not_lt_zero _)
                | succ fz ih =>
                  have ih77 := ih
                  intro j hmeas ⟨hj1, hj2⟩
                  refine q_iload (t := 79) F dX9_sheet_77 rfl rfl ?_
                  refine q_iload_n (t := 80) F dX9_sheet_79 rfl rfl rfl ?_
                  refine q_icmp_ge (t := 83) (u := 106) F dX9_sheet_80 (by constructor <;> omega) (by constructor <;> omega) (by decide) rfl (fun c80 => ?_) (fun c80 => ?_)
                  · refine q_iconst (t := 107) F dX9_sheet_106 rfl ?_
                    refine q_iret F dX9_sheet_107 rfl ?_
                    first
                      | exact ⟨_, rfl, fun _ => ⟨rfl, rfl⟩, fun z1 z2 => absurd z1 (by omega)⟩
                      | exact ⟨_, rfl, fun z => absurd z (by omega), fun _ _ => ⟨fun _ => ⟨rfl, rfl⟩, fun z => absurd (by omega) z⟩⟩
                      | (have ej : j = (if sort < 0 then 0 else n.toNat) := by split <;> omega
                         refine ⟨_, rfl, fun z => absurd z (by omega), fun _ _ => ⟨fun z => absurd z (by omega), fun _ => ⟨rfl, ?_⟩⟩⟩
                         unfold sheetR
                         (try rw [ets])
                         rw [← ej])
                      | omega
                  · refine q_iload_n (t := 84) F dX9_sheet_83 rfl rfl rfl ?_
                    refine q_if_lt (t := 87) (u := 106) F dX9_sheet_84 (by first | exact hR _ _ _ | (constructor <;> omega)) (by decide) rfl (fun c84 => ?_) (fun c84 => ?_)
                    · refine q_iconst (t := 107) F dX9_sheet_106 rfl ?_
                      refine q_iret F dX9_sheet_107 rfl ?_
                      first
                        | exact ⟨_, rfl, fun _ => ⟨rfl, rfl⟩, fun z1 z2 => absurd z1 (by omega)⟩
                        | exact ⟨_, rfl, fun z => absurd z (by omega), fun _ _ => ⟨fun _ => ⟨rfl, rfl⟩, fun z => absurd (by omega) z⟩⟩
                        | (have ej : j = (if sort < 0 then 0 else n.toNat) := by split <;> omega
                           refine ⟨_, rfl, fun z => absurd z (by omega), fun _ _ => ⟨fun z => absurd z (by omega), fun _ => ⟨rfl, ?_⟩⟩⟩
                           unfold sheetR
                           (try rw [ets])
                           rw [← ej])
                        | omega
                    · refine q_aload_n (t := 88) F dX9_sheet_87 rfl rfl rfl ?_
                      refine g_X9_78 (t := 91) F dX9_sheet_88 rfl rfl ?_
                      refine q_bipush (t := 93) F dX9_sheet_91 (by decide) rfl ?_
                      refine q_iload_n (t := 94) F dX9_sheet_93 rfl rfl rfl ?_
                      refine q_imul (t := 95) F dX9_sheet_94 rfl ?_
                      refine q_iload (t := 97) F dX9_sheet_95 rfl rfl ?_
                      refine q_iadd (t := 98) F dX9_sheet_97 rfl ?_
                      rw [show (40 : Int) * (s : Int) + (j : Int) = ((40 * s + j : Nat) : Int) by omega]
                      refine q_iconst (t := 99) F dX9_sheet_98 rfl ?_
                      first | refine stN_50 (t := 100) F dX9_sheet_99 (by omega) rfl ?_ | refine st_50 (t := 100) F dX9_sheet_99 (by omega) (by omega) rfl ?_
                      refine q_iinc (t := 103) F dX9_sheet_100 rfl (by decide) rfl rfl ?_
                      refine q_goto (t := 77) F dX9_sheet_103 (by decide) ?_
                      rw [show (j : Int) + 1 = ((j + 1 : Nat) : Int) by omega, zeS_s]
                      exact ih77 (j + 1) (by omega) ⟨fun _ => by omega, fun z => absurd z (by omega)⟩
              have L0 := L77 _ 0 (Nat.lt_succ_self _) ⟨fun _ => by omega, fun _ => rfl⟩
              rw [zeS_0] at L0
              unfold shI3 at L0
              first
                | (rw [if_pos (by omega)] at L0; exact L0)
                | (rw [if_neg (by omega)] at L0; exact L0)
                | omega
          · refine q_bipush (t := 44) F dX9_sheet_42 (by decide) rfl ?_
            refine q_iret F dX9_sheet_44 rfl ?_
            first
              | exact ⟨_, rfl, fun _ => ⟨rfl, rfl⟩, fun z1 z2 => absurd z1 (by omega)⟩
              | exact ⟨_, rfl, fun z => absurd z (by omega), fun _ _ => ⟨fun _ => ⟨rfl, rfl⟩, fun z => absurd (by omega) z⟩⟩
              | (have ej : j = (if sort < 0 then 0 else n.toNat) := by split <;> omega
                 refine ⟨_, rfl, fun z => absurd z (by omega), fun _ _ => ⟨fun z => absurd z (by omega), fun _ => ⟨rfl, ?_⟩⟩⟩
                 unfold sheetR
                 (try rw [ets])
                 rw [← ej])
              | omega
      · refine q_iload_n (t := 26) F dX9_sheet_25 rfl rfl rfl ?_
        refine q_bipush (t := 28) F dX9_sheet_26 (by decide) rfl ?_
        refine q_icmp_le (t := 31) (u := 34) F dX9_sheet_28 (by constructor <;> omega) (by constructor <;> omega) (by decide) rfl (fun c28 => ?_) (fun c28 => ?_)
        · refine q_iload_n (t := 35) F dX9_sheet_34 rfl rfl rfl ?_
          refine q_if_lt (t := 38) (u := 45) F dX9_sheet_35 (by first | exact hR _ _ _ | (constructor <;> omega)) (by decide) rfl (fun c35 => ?_) (fun c35 => ?_)
          · obtain ⟨s, rfl⟩ : ∃ j : Nat, s = (j : Int) := ⟨s.toNat, by omega⟩
            have ets : ((s : Nat) : Int).toNat = s := Int.toNat_natCast s
            have hs3 : s ≤ 3 := by omega
            refine q_aload_n (t := 46) F dX9_sheet_45 rfl rfl rfl ?_
            refine g_X9_68 (t := 49) F dX9_sheet_46 rfl rfl ?_
            refine q_iload_n (t := 50) F dX9_sheet_49 rfl rfl rfl ?_
            refine q_iload_n (t := 51) F dX9_sheet_50 rfl rfl rfl ?_
            refine q_if_lt (t := 54) (u := 58) F dX9_sheet_51 (by first | exact hR _ _ _ | (constructor <;> omega)) (by decide) rfl (fun c51 => ?_) (fun c51 => ?_)
            · refine q_iconst (t := 59) F dX9_sheet_58 rfl ?_
              first | refine stN_47 (t := 60) F dX9_sheet_59 (by omega) (by omega) rfl ?_ | refine st_47 (t := 60) F dX9_sheet_59 (by omega) (by omega) (by omega) rfl ?_
              refine q_aload_n (t := 61) F dX9_sheet_60 rfl rfl rfl ?_
              refine g_X9_72 (t := 64) F dX9_sheet_61 rfl rfl ?_
              refine q_iload_n (t := 65) F dX9_sheet_64 rfl rfl rfl ?_
              refine q_iload_n (t := 66) F dX9_sheet_65 rfl rfl rfl ?_
              first | refine stN_48 (t := 67) F dX9_sheet_66 (by omega) rfl ?_ | refine st_48 (t := 67) F dX9_sheet_66 (by omega) (by omega) rfl ?_
              refine q_aload_n (t := 68) F dX9_sheet_67 rfl rfl rfl ?_
              refine g_X9_75 (t := 71) F dX9_sheet_68 rfl rfl ?_
              refine q_iload_n (t := 72) F dX9_sheet_71 rfl rfl rfl ?_
              refine q_iload_n (t := 73) F dX9_sheet_72 rfl rfl rfl ?_
              first | refine stN_49 (t := 74) F dX9_sheet_73 (by omega) rfl ?_ | refine st_49 (t := 74) F dX9_sheet_73 (by omega) (by omega) rfl ?_
              refine q_iconst (t := 75) F dX9_sheet_74 rfl ?_
              refine q_istore (t := 77) F dX9_sheet_75 (by decide) rfl rfl ?_
              have L77 : ∀ (fz : Nat) (j : Nat), 41 - j < fz → (0 ≤ sort → (j : Int) ≤ n) ∧ (sort < 0 → j = 0) → Wp M (XR G) ad Y_X9_sheet (pI fun x m' => (¬ (((0 : Int) ≤ s ∧ (s : Int) ≤ 3) ∧ (-1 ≤ sort ∧ sort ≤ 2)) ∨ (0 ≤ sort ∧ 40 < n) → x = -2 ∧ m' = (im, rs bt rt, lm)) ∧ ((((0 : Int) ≤ s ∧ (s : Int) ≤ 3) ∧ (-1 ≤ sort ∧ sort ≤ 2)) → ¬ (0 ≤ sort ∧ 40 < n) → (0 ≤ sort ∧ n < 0 → x = -14 ∧ m' = (im, rs bt rt, lm)) ∧ (¬ (0 ≤ sort ∧ n < 0) → x = 1 ∧ m' = (sheetR im (Int.toNat s) sort n, rs bt rt, lm)))) 77 [some (vR 30 0), some (vI (s : Int)), some (vI sort), some (vI n), some (vI (j : Int))] [] (zeS (shI3 im s sort n) s j, rs bt rt, lm) := by
                intro fz
                induction fz with
                | zero => intro j h; exact absurd h (Nat.not_lt_zero _)
                | succ fz ih =>
                  have ih77 := ih
                  intro j hmeas ⟨hj1, hj2⟩
                  refine q_iload (t := 79) F dX9_sheet_77 rfl rfl ?_
                  refine q_iload_n (t := 80) F dX9_sheet_79 rfl rfl rfl ?_
                  refine q_icmp_ge (t := 83) (u := 106) F dX9_sheet_80 (by constructor <;> omega) (by constructor <;> omega) (by decide) rfl (fun c80 => ?_) (fun c80 => ?_)
                  · refine q_iconst (t := 107) F dX9_sheet_106 rfl ?_
                    refine q_iret F dX9_sheet_107 rfl ?_
                    first
                      | exact ⟨_, rfl, fun _ => ⟨rfl, rfl⟩, fun z1 z2 => absurd z1 (by omega)⟩
                      | exact ⟨_, rfl, fun z => absurd z (by omega), fun _ _ => ⟨fun _ => ⟨rfl, rfl⟩, fun z => absurd (by omega) z⟩⟩
                      | (have ej : j = (if sort < 0 then 0 else n.toNat) := by split <;> omega
                         refine ⟨_, rfl, fun z => absurd z (by omega), fun _ _ => ⟨fun z => absurd z (by omega), fun _ => ⟨rfl, ?_⟩⟩⟩
                         unfold sheetR
                         (try rw [ets])
                         rw [← ej])
                      | omega
                  · refine q_iload_n (t := 84) F dX9_sheet_83 rfl rfl rfl ?_
                    refine q_if_lt (t := 87) (u := 106) F dX9_sheet_84 (by first | exact hR _ _ _ | (constructor <;> omega)) (by decide) rfl (fun c84 => ?_) (fun c84 => ?_)
                    · refine q_iconst (t := 107) F dX9_sheet_106 rfl ?_
                      refine q_iret F dX9_sheet_107 rfl ?_
                      first
                        | exact ⟨_, rfl, fun _ => ⟨rfl, rfl⟩, fun z1 z2 => absurd z1 (by omega)⟩
                        | exact ⟨_, rfl, fun z => absurd z (by omega), fun _ _ => ⟨fun _ => ⟨rfl, rfl⟩, fun z => absurd (by omega) z⟩⟩
                        | (have ej : j = (if sort < 0 then 0 else n.toNat) := by split <;> omega
                           refine ⟨_, rfl, fun z => absurd z (by omega), fun _ _ => ⟨fun z => absurd z (by omega), fun _ => ⟨rfl, ?_⟩⟩⟩
                           unfold sheetR
                           (try rw [ets])
                           rw [← ej])
                        | omega
                    · refine q_aload_n (t := 88) F dX9_sheet_87 rfl rfl rfl ?_
                      refine g_X9_78 (t := 91) F dX9_sheet_88 rfl rfl ?_
                      refine q_bipush (t := 93) F dX9_sheet_91 (by decide) rfl ?_
                      refine q_iload_n (t := 94) F dX9_sheet_93 rfl rfl rfl ?_
                      refine q_imul (t := 95) F dX9_sheet_94 rfl ?_
                      refine q_iload (t := 97) F dX9_sheet_95 rfl rfl ?_
                      refine q_iadd (t := 98) F dX9_sheet_97 rfl ?_
                      rw [show (40 : Int) * (s : Int) + (j : Int) = ((40 * s + j : Nat) : Int) by omega]
                      refine q_iconst (t := 99) F dX9_sheet_98 rfl ?_
                      first | refine stN_50 (t := 100) F dX9_sheet_99 (by omega) rfl ?_ | refine st_50 (t := 100) F dX9_sheet_99 (by omega) (by omega) rfl ?_
                      refine q_iinc (t := 103) F dX9_sheet_100 rfl (by decide) rfl rfl ?_
                      refine q_goto (t := 77) F dX9_sheet_103 (by decide) ?_
                      rw [show (j : Int) + 1 = ((j + 1 : Nat) : Int) by omega, zeS_s]
                      exact ih77 (j + 1) (by omega) ⟨fun _ => by omega, fun z => absurd z (by omega)⟩
              have L0 := L77 _ 0 (Nat.lt_succ_self _) ⟨fun _ => by omega, fun _ => rfl⟩
              rw [zeS_0] at L0
              unfold shI3 at L0
              first
                | (rw [if_pos (by omega)] at L0; exact L0)
                | (rw [if_neg (by omega)] at L0; exact L0)
                | omega
            · refine q_iconst (t := 55) F dX9_sheet_54 rfl ?_
              refine q_goto (t := 59) F dX9_sheet_55 (by decide) ?_
              first | refine stN_47 (t := 60) F dX9_sheet_59 (by omega) (by omega) rfl ?_ | refine st_47 (t := 60) F dX9_sheet_59 (by omega) (by omega) (by omega) rfl ?_
              refine q_aload_n (t := 61) F dX9_sheet_60 rfl rfl rfl ?_
              refine g_X9_72 (t := 64) F dX9_sheet_61 rfl rfl ?_
              refine q_iload_n (t := 65) F dX9_sheet_64 rfl rfl rfl ?_
              refine q_iload_n (t := 66) F dX9_sheet_65 rfl rfl rfl ?_
              first | refine stN_48 (t := 67) F dX9_sheet_66 (by omega) rfl ?_ | refine st_48 (t := 67) F dX9_sheet_66 (by omega) (by omega) rfl ?_
              refine q_aload_n (t := 68) F dX9_sheet_67 rfl rfl rfl ?_
              refine g_X9_75 (t := 71) F dX9_sheet_68 rfl rfl ?_
              refine q_iload_n (t := 72) F dX9_sheet_71 rfl rfl rfl ?_
              refine q_iload_n (t := 73) F dX9_sheet_72 rfl rfl rfl ?_
              first | refine stN_49 (t := 74) F dX9_sheet_73 (by omega) rfl ?_ | refine st_49 (t := 74) F dX9_sheet_73 (by omega) (by omega) rfl ?_
              refine q_iconst (t := 75) F dX9_sheet_74 rfl ?_
              refine q_istore (t := 77) F dX9_sheet_75 (by decide) rfl rfl ?_
              have L77 : ∀ (fz : Nat) (j : Nat), 41 - j < fz → (0 ≤ sort → (j : Int) ≤ n) ∧ (sort < 0 → j = 0) → Wp M (XR G) ad Y_X9_sheet (pI fun x m' => (¬ (((0 : Int) ≤ s ∧ (s : Int) ≤ 3) ∧ (-1 ≤ sort ∧ sort ≤ 2)) ∨ (0 ≤ sort ∧ 40 < n) → x = -2 ∧ m' = (im, rs bt rt, lm)) ∧ ((((0 : Int) ≤ s ∧ (s : Int) ≤ 3) ∧ (-1 ≤ sort ∧ sort ≤ 2)) → ¬ (0 ≤ sort ∧ 40 < n) → (0 ≤ sort ∧ n < 0 → x = -14 ∧ m' = (im, rs bt rt, lm)) ∧ (¬ (0 ≤ sort ∧ n < 0) → x = 1 ∧ m' = (sheetR im (Int.toNat s) sort n, rs bt rt, lm)))) 77 [some (vR 30 0), some (vI (s : Int)), some (vI sort), some (vI n), some (vI (j : Int))] [] (zeS (shI3 im s sort n) s j, rs bt rt, lm) := by
                intro fz
                induction fz with
                | zero => intro j h; exact absurd h (Nat.not_lt_zero _)
                | succ fz ih =>
                  have ih77 := ih
                  intro j hmeas ⟨hj1, hj2⟩
                  refine q_iload (t := 79) F dX9_sheet_77 rfl rfl ?_
                  refine q_iload_n (t := 80) F dX9_sheet_79 rfl rfl rfl ?_
                  refine q_icmp_ge (t := 83) (u := 106) F dX9_sheet_80 (by constructor <;> omega) (by constructor <;> omega) (by decide) rfl (fun c80 => ?_) (fun c80 => ?_)
                  · refine q_iconst (t := 107) F dX9_sheet_106 rfl ?_
                    refine q_iret F dX9_sheet_107 rfl ?_
                    first
                      | exact ⟨_, rfl, fun _ => ⟨rfl, rfl⟩, fun z1 z2 => absurd z1 (by omega)⟩
                      | exact ⟨_, rfl, fun z => absurd z (by omega), fun _ _ => ⟨fun _ => ⟨rfl, rfl⟩, fun z => absurd (by omega) z⟩⟩
                      | (have ej : j = (if sort < 0 then 0 else n.toNat) := by split <;> omega
                         refine ⟨_, rfl, fun z => absurd z (by omega), fun _ _ => ⟨fun z => absurd z (by omega), fun _ => ⟨rfl, ?_⟩⟩⟩
                         unfold sheetR
                         (try rw [ets])
                         rw [← ej])
                      | omega
                  · refine q_iload_n (t := 84) F dX9_sheet_83 rfl rfl rfl ?_
                    refine q_if_lt (t := 87) (u := 106) F dX9_sheet_84 (by first | exact hR _ _ _ | (constructor <;> omega)) (by decide) rfl (fun c84 => ?_) (fun c84 => ?_)
                    · refine q_iconst (t := 107) F dX9_sheet_106 rfl ?_
                      refine q_iret F dX9_sheet_107 rfl ?_
                      first
                        | exact ⟨_, rfl, fun _ => ⟨rfl, rfl⟩, fun z1 z2 => absurd z1 (by omega)⟩
                        | exact ⟨_, rfl, fun z => absurd z (by omega), fun _ _ => ⟨fun _ => ⟨rfl, rfl⟩, fun z => absurd (by omega) z⟩⟩
                        | (have ej : j = (if sort < 0 then 0 else n.toNat) := by split <;> omega
                           refine ⟨_, rfl, fun z => absurd z (by omega), fun _ _ => ⟨fun z => absurd z (by omega), fun _ => ⟨rfl, ?_⟩⟩⟩
                           unfold sheetR
                           (try rw [ets])
                           rw [← ej])
                        | omega
                    · refine q_aload_n (t := 88) F dX9_sheet_87 rfl rfl rfl ?_
                      refine g_X9_78 (t := 91) F dX9_sheet_88 rfl rfl ?_
                      refine q_bipush (t := 93) F dX9_sheet_91 (by decide) rfl ?_
                      refine q_iload_n (t := 94) F dX9_sheet_93 rfl rfl rfl ?_
                      refine q_imul (t := 95) F dX9_sheet_94 rfl ?_
                      refine q_iload (t := 97) F dX9_sheet_95 rfl rfl ?_
                      refine q_iadd (t := 98) F dX9_sheet_97 rfl ?_
                      rw [show (40 : Int) * (s : Int) + (j : Int) = ((40 * s + j : Nat) : Int) by omega]
                      refine q_iconst (t := 99) F dX9_sheet_98 rfl ?_
                      first | refine stN_50 (t := 100) F dX9_sheet_99 (by omega) rfl ?_ | refine st_50 (t := 100) F dX9_sheet_99 (by omega) (by omega) rfl ?_
                      refine q_iinc (t := 103) F dX9_sheet_100 rfl (by decide) rfl rfl ?_
                      refine q_goto (t := 77) F dX9_sheet_103 (by decide) ?_
                      rw [show (j : Int) + 1 = ((j + 1 : Nat) : Int) by omega, zeS_s]
                      exact ih77 (j + 1) (by omega) ⟨fun _ => by omega, fun z => absurd z (by omega)⟩
              have L0 := L77 _ 0 (Nat.lt_succ_self _) ⟨fun _ => by omega, fun _ => rfl⟩
              rw [zeS_0] at L0
              unfold shI3 at L0
              first
                | (rw [if_pos (by omega)] at L0; exact L0)
                | (rw [if_neg (by omega)] at L0; exact L0)
                | omega
          · refine q_iload_n (t := 39) F dX9_sheet_38 rfl rfl rfl ?_
            refine q_if_ge (t := 42) (u := 45) F dX9_sheet_39 (by first | exact hR _ _ _ | (constructor <;> omega)) (by decide) rfl (fun c39 => ?_) (fun c39 => ?_)
            · obtain ⟨s, rfl⟩ : ∃ j : Nat, s = (j : Int) := ⟨s.toNat, by omega⟩
              have ets : ((s : Nat) : Int).toNat = s := Int.toNat_natCast s
              have hs3 : s ≤ 3 := by omega
              refine q_aload_n (t := 46) F dX9_sheet_45 rfl rfl rfl ?_
              refine g_X9_68 (t := 49) F dX9_sheet_46 rfl rfl ?_
              refine q_iload_n (t := 50) F dX9_sheet_49 rfl rfl rfl ?_
              refine q_iload_n (t := 51) F dX9_sheet_50 rfl rfl rfl ?_
              refine q_if_lt (t := 54) (u := 58) F dX9_sheet_51 (by first | exact hR _ _ _ | (constructor <;> omega)) (by decide) rfl (fun c51 => ?_) (fun c51 => ?_)
              · refine q_iconst (t := 59) F dX9_sheet_58 rfl ?_
                first | refine stN_47 (t := 60) F dX9_sheet_59 (by omega) (by omega) rfl ?_ | refine st_47 (t := 60) F dX9_sheet_59 (by omega) (by omega) (by omega) rfl ?_
                refine q_aload_n (t := 61) F dX9_sheet_60 rfl rfl rfl ?_
                refine g_X9_72 (t := 64) F dX9_sheet_61 rfl rfl ?_
                refine q_iload_n (t := 65) F dX9_sheet_64 rfl rfl rfl ?_
                refine q_iload_n (t := 66) F dX9_sheet_65 rfl rfl rfl ?_
                first | refine stN_48 (t := 67) F dX9_sheet_66 (by omega) rfl ?_ | refine st_48 (t := 67) F dX9_sheet_66 (by omega) (by omega) rfl ?_
                refine q_aload_n (t := 68) F dX9_sheet_67 rfl rfl rfl ?_
                refine g_X9_75 (t := 71) F dX9_sheet_68 rfl rfl ?_
                refine q_iload_n (t := 72) F dX9_sheet_71 rfl rfl rfl ?_
                refine q_iload_n (t := 73) F dX9_sheet_72 rfl rfl rfl ?_
                first | refine stN_49 (t := 74) F dX9_sheet_73 (by omega) rfl ?_ | refine st_49 (t := 74) F dX9_sheet_73 (by omega) (by omega) rfl ?_
                refine q_iconst (t := 75) F dX9_sheet_74 rfl ?_
                refine q_istore (t := 77) F dX9_sheet_75 (by decide) rfl rfl ?_
                have L77 : ∀ (fz : Nat) (j : Nat), 41 - j < fz → (0 ≤ sort → (j : Int) ≤ n) ∧ (sort < 0 → j = 0) → Wp M (XR G) ad Y_X9_sheet (pI fun x m' => (¬ (((0 : Int) ≤ s ∧ (s : Int) ≤ 3) ∧ (-1 ≤ sort ∧ sort ≤ 2)) ∨ (0 ≤ sort ∧ 40 < n) → x = -2 ∧ m' = (im, rs bt rt, lm)) ∧ ((((0 : Int) ≤ s ∧ (s : Int) ≤ 3) ∧ (-1 ≤ sort ∧ sort ≤ 2)) → ¬ (0 ≤ sort ∧ 40 < n) → (0 ≤ sort ∧ n < 0 → x = -14 ∧ m' = (im, rs bt rt, lm)) ∧ (¬ (0 ≤ sort ∧ n < 0) → x = 1 ∧ m' = (sheetR im (Int.toNat s) sort n, rs bt rt, lm)))) 77 [some (vR 30 0), some (vI (s : Int)), some (vI sort), some (vI n), some (vI (j : Int))] [] (zeS (shI3 im s sort n) s j, rs bt rt, lm) := by
                  intro fz
                  induction fz with
                  | zero => intro j h; exact absurd h (Nat.not_lt_zero _)
                  | succ fz ih =>
                    have ih77 := ih
                    intro j hmeas ⟨hj1, hj2⟩
                    refine q_iload (t := 79) F dX9_sheet_77 rfl rfl ?_
                    refine q_iload_n (t := 80) F dX9_sheet_79 rfl rfl rfl ?_
                    refine q_icmp_ge (t := 83) (u := 106) F dX9_sheet_80 (by constructor <;> omega) (by constructor <;> omega) (by decide) rfl (fun c80 => ?_) (fun c80 => ?_)
                    · refine q_iconst (t := 107) F dX9_sheet_106 rfl ?_
                      refine q_iret F dX9_sheet_107 rfl ?_
                      first
                        | exact ⟨_, rfl, fun _ => ⟨rfl, rfl⟩, fun z1 z2 => absurd z1 (by omega)⟩
                        | exact ⟨_, rfl, fun z => absurd z (by omega), fun _ _ => ⟨fun _ => ⟨rfl, rfl⟩, fun z => absurd (by omega) z⟩⟩
                        | (have ej : j = (if sort < 0 then 0 else n.toNat) := by split <;> omega
                           refine ⟨_, rfl, fun z => absurd z (by omega), fun _ _ => ⟨fun z => absurd z (by omega), fun _ => ⟨rfl, ?_⟩⟩⟩
                           unfold sheetR
                           (try rw [ets])
                           rw [← ej])
                        | omega
                    · refine q_iload_n (t := 84) F dX9_sheet_83 rfl rfl rfl ?_
                      refine q_if_lt (t := 87) (u := 106) F dX9_sheet_84 (by first | exact hR _ _ _ | (constructor <;> omega)) (by decide) rfl (fun c84 => ?_) (fun c84 => ?_)
                      · refine q_iconst (t := 107) F dX9_sheet_106 rfl ?_
                        refine q_iret F dX9_sheet_107 rfl ?_
                        first
                          | exact ⟨_, rfl, fun _ => ⟨rfl, rfl⟩, fun z1 z2 => absurd z1 (by omega)⟩
                          | exact ⟨_, rfl, fun z => absurd z (by omega), fun _ _ => ⟨fun _ => ⟨rfl, rfl⟩, fun z => absurd (by omega) z⟩⟩
                          | (have ej : j = (if sort < 0 then 0 else n.toNat) := by split <;> omega
                             refine ⟨_, rfl, fun z => absurd z (by omega), fun _ _ => ⟨fun z => absurd z (by omega), fun _ => ⟨rfl, ?_⟩⟩⟩
                             unfold sheetR
                             (try rw [ets])
                             rw [← ej])
                          | omega
                      · refine q_aload_n (t := 88) F dX9_sheet_87 rfl rfl rfl ?_
                        refine g_X9_78 (t := 91) F dX9_sheet_88 rfl rfl ?_
                        refine q_bipush (t := 93) F dX9_sheet_91 (by decide) rfl ?_
                        refine q_iload_n (t := 94) F dX9_sheet_93 rfl rfl rfl ?_
                        refine q_imul (t := 95) F dX9_sheet_94 rfl ?_
                        refine q_iload (t := 97) F dX9_sheet_95 rfl rfl ?_
                        refine q_iadd (t := 98) F dX9_sheet_97 rfl ?_
                        rw [show (40 : Int) * (s : Int) + (j : Int) = ((40 * s + j : Nat) : Int) by omega]
                        refine q_iconst (t := 99) F dX9_sheet_98 rfl ?_
                        first | refine stN_50 (t := 100) F dX9_sheet_99 (by omega) rfl ?_ | refine st_50 (t := 100) F dX9_sheet_99 (by omega) (by omega) rfl ?_
                        refine q_iinc (t := 103) F dX9_sheet_100 rfl (by decide) rfl rfl ?_
                        refine q_goto (t := 77) F dX9_sheet_103 (by decide) ?_
                        rw [show (j : Int) + 1 = ((j + 1 : Nat) : Int) by omega, zeS_s]
                        exact ih77 (j + 1) (by omega) ⟨fun _ => by omega, fun z => absurd z (by omega)⟩
                have L0 := L77 _ 0 (Nat.lt_succ_self _) ⟨fun _ => by omega, fun _ => rfl⟩
                rw [zeS_0] at L0
                unfold shI3 at L0
                first
                  | (rw [if_pos (by omega)] at L0; exact L0)
                  | (rw [if_neg (by omega)] at L0; exact L0)
                  | omega
              · refine q_iconst (t := 55) F dX9_sheet_54 rfl ?_
                refine q_goto (t := 59) F dX9_sheet_55 (by decide) ?_
                first | refine stN_47 (t := 60) F dX9_sheet_59 (by omega) (by omega) rfl ?_ | refine st_47 (t := 60) F dX9_sheet_59 (by omega) (by omega) (by omega) rfl ?_
                refine q_aload_n (t := 61) F dX9_sheet_60 rfl rfl rfl ?_
                refine g_X9_72 (t := 64) F dX9_sheet_61 rfl rfl ?_
                refine q_iload_n (t := 65) F dX9_sheet_64 rfl rfl rfl ?_
                refine q_iload_n (t := 66) F dX9_sheet_65 rfl rfl rfl ?_
                first | refine stN_48 (t := 67) F dX9_sheet_66 (by omega) rfl ?_ | refine st_48 (t := 67) F dX9_sheet_66 (by omega) (by omega) rfl ?_
                refine q_aload_n (t := 68) F dX9_sheet_67 rfl rfl rfl ?_
                refine g_X9_75 (t := 71) F dX9_sheet_68 rfl rfl ?_
                refine q_iload_n (t := 72) F dX9_sheet_71 rfl rfl rfl ?_
                refine q_iload_n (t := 73) F dX9_sheet_72 rfl rfl rfl ?_
                first | refine stN_49 (t := 74) F dX9_sheet_73 (by omega) rfl ?_ | refine st_49 (t := 74) F dX9_sheet_73 (by omega) (by omega) rfl ?_
                refine q_iconst (t := 75) F dX9_sheet_74 rfl ?_
                refine q_istore (t := 77) F dX9_sheet_75 (by decide) rfl rfl ?_
                have L77 : ∀ (fz : Nat) (j : Nat), 41 - j < fz → (0 ≤ sort → (j : Int) ≤ n) ∧ (sort < 0 → j = 0) → Wp M (XR G) ad Y_X9_sheet (pI fun x m' => (¬ (((0 : Int) ≤ s ∧ (s : Int) ≤ 3) ∧ (-1 ≤ sort ∧ sort ≤ 2)) ∨ (0 ≤ sort ∧ 40 < n) → x = -2 ∧ m' = (im, rs bt rt, lm)) ∧ ((((0 : Int) ≤ s ∧ (s : Int) ≤ 3) ∧ (-1 ≤ sort ∧ sort ≤ 2)) → ¬ (0 ≤ sort ∧ 40 < n) → (0 ≤ sort ∧ n < 0 → x = -14 ∧ m' = (im, rs bt rt, lm)) ∧ (¬ (0 ≤ sort ∧ n < 0) → x = 1 ∧ m' = (sheetR im (Int.toNat s) sort n, rs bt rt, lm)))) 77 [some (vR 30 0), some (vI (s : Int)), some (vI sort), some (vI n), some (vI (j : Int))] [] (zeS (shI3 im s sort n) s j, rs bt rt, lm) := by
                  intro fz
                  induction fz with
                  | zero => intro j h; exact absurd h (Nat.not_lt_zero _)
                  | succ fz ih =>
                    have ih77 := ih
                    intro j hmeas ⟨hj1, hj2⟩
                    refine q_iload (t := 79) F dX9_sheet_77 rfl rfl ?_
                    refine q_iload_n (t := 80) F dX9_sheet_79 rfl rfl rfl ?_
                    refine q_icmp_ge (t := 83) (u := 106) F dX9_sheet_80 (by constructor <;> omega) (by constructor <;> omega) (by decide) rfl (fun c80 => ?_) (fun c80 => ?_)
                    · refine q_iconst (t := 107) F dX9_sheet_106 rfl ?_
                      refine q_iret F dX9_sheet_107 rfl ?_
                      first
                        | exact ⟨_, rfl, fun _ => ⟨rfl, rfl⟩, fun z1 z2 => absurd z1 (by omega)⟩
                        | exact ⟨_, rfl, fun z => absurd z (by omega), fun _ _ => ⟨fun _ => ⟨rfl, rfl⟩, fun z => absurd (by omega) z⟩⟩
                        | (have ej : j = (if sort < 0 then 0 else n.toNat) := by split <;> omega
                           refine ⟨_, rfl, fun z => absurd z (by omega), fun _ _ => ⟨fun z => absurd z (by omega), fun _ => ⟨rfl, ?_⟩⟩⟩
                           unfold sheetR
                           (try rw [ets])
                           rw [← ej])
                        | omega
                    · refine q_iload_n (t := 84) F dX9_sheet_83 rfl rfl rfl ?_
                      refine q_if_lt (t := 87) (u := 106) F dX9_sheet_84 (by first | exact hR _ _ _ | (constructor <;> omega)) (by decide) rfl (fun c84 => ?_) (fun c84 => ?_)
                      · refine q_iconst (t := 107) F dX9_sheet_106 rfl ?_
                        refine q_iret F dX9_sheet_107 rfl ?_
                        first
                          | exact ⟨_, rfl, fun _ => ⟨rfl, rfl⟩, fun z1 z2 => absurd z1 (by omega)⟩
                          | exact ⟨_, rfl, fun z => absurd z (by omega), fun _ _ => ⟨fun _ => ⟨rfl, rfl⟩, fun z => absurd (by omega) z⟩⟩
                          | (have ej : j = (if sort < 0 then 0 else n.toNat) := by split <;> omega
                             refine ⟨_, rfl, fun z => absurd z (by omega), fun _ _ => ⟨fun z => absurd z (by omega), fun _ => ⟨rfl, ?_⟩⟩⟩
                             unfold sheetR
                             (try rw [ets])
                             rw [← ej])
                          | omega
                      · refine q_aload_n (t := 88) F dX9_sheet_87 rfl rfl rfl ?_
                        refine g_X9_78 (t := 91) F dX9_sheet_88 rfl rfl ?_
                        refine q_bipush (t := 93) F dX9_sheet_91 (by decide) rfl ?_
                        refine q_iload_n (t := 94) F dX9_sheet_93 rfl rfl rfl ?_
                        refine q_imul (t := 95) F dX9_sheet_94 rfl ?_
                        refine q_iload (t := 97) F dX9_sheet_95 rfl rfl ?_
                        refine q_iadd (t := 98) F dX9_sheet_97 rfl ?_
                        rw [show (40 : Int) * (s : Int) + (j : Int) = ((40 * s + j : Nat) : Int) by omega]
                        refine q_iconst (t := 99) F dX9_sheet_98 rfl ?_
                        first | refine stN_50 (t := 100) F dX9_sheet_99 (by omega) rfl ?_ | refine st_50 (t := 100) F dX9_sheet_99 (by omega) (by omega) rfl ?_
                        refine q_iinc (t := 103) F dX9_sheet_100 rfl (by decide) rfl rfl ?_
                        refine q_goto (t := 77) F dX9_sheet_103 (by decide) ?_
                        rw [show (j : Int) + 1 = ((j + 1 : Nat) : Int) by omega, zeS_s]
                        exact ih77 (j + 1) (by omega) ⟨fun _ => by omega, fun z => absurd z (by omega)⟩
                have L0 := L77 _ 0 (Nat.lt_succ_self _) ⟨fun _ => by omega, fun _ => rfl⟩
                rw [zeS_0] at L0
                unfold shI3 at L0
                first
                  | (rw [if_pos (by omega)] at L0; exact L0)
                  | (rw [if_neg (by omega)] at L0; exact L0)
                  | omega
            · refine q_bipush (t := 44) F dX9_sheet_42 (by decide) rfl ?_
              refine q_iret F dX9_sheet_44 rfl ?_
              first
                | exact ⟨_, rfl, fun _ => ⟨rfl, rfl⟩, fun z1 z2 => absurd z1 (by omega)⟩
                | exact ⟨_, rfl, fun z => absurd z (by omega), fun _ _ => ⟨fun _ => ⟨rfl, rfl⟩, fun z => absurd (by omega) z⟩⟩
                | (have ej : j = (if sort < 0 then 0 else n.toNat) := by split <;> omega
                   refine ⟨_, rfl, fun z => absurd z (by omega), fun _ _ => ⟨fun z => absurd z (by omega), fun _ => ⟨rfl, ?_⟩⟩⟩
                   unfold sheetR
                   (try rw [ets])
                   rw [← ej])
                | omega
        · refine q_bipush (t := 33) F dX9_sheet_31 (by decide) rfl ?_
          refine q_iret F dX9_sheet_33 rfl ?_
          first
            | exact ⟨_, rfl, fun _ => ⟨rfl, rfl⟩, fun z1 z2 => absurd z1 (by omega)⟩
            | exact ⟨_, rfl, fun z => absurd z (by omega), fun _ _ => ⟨fun _ => ⟨rfl, rfl⟩, fun z => absurd (by omega) z⟩⟩
            | (have ej : j = (if sort < 0 then 0 else n.toNat) := by split <;> omega
               refine ⟨_, rfl, fun z => absurd z (by omega), fun _ _ => ⟨fun z => absurd z (by omega), fun _ => ⟨rfl, ?_⟩⟩⟩
               unfold sheetR
               (try rw [ets])
               rw [← ej])
            | omega

set_option maxHeartbeats 4000000 in
theorem c_X9_cell (l : Launch) (G : GS) (im : IM) (bt rt : Nat) (lm : IM) (hR : RI im) (hSH : SH im) (s i v : Int) (hs : ri s) (hi : ri i) (hv : ri v) : Cn l (XR G) yX9_cell Y_X9_cell [vR 30 0, vI s, vI i, vI v] (im, rs bt rt, lm) (pI fun x m' => (¬ ((0 : Int) ≤ s ∧ (s : Int) ≤ 3) → x = -2 ∧ m' = (im, rs bt rt, lm)) ∧ ((0 : Int) ≤ s ∧ (s : Int) ≤ 3 → (im 47 0 (Int.toNat s) = 0 → x = -11 ∧ m' = (im, rs bt rt, lm)) ∧ (im 47 0 (Int.toNat s) = 1 → ¬ (0 ≤ i ∧ i < im 49 0 (Int.toNat s)) → x = -12 ∧ m' = (im, rs bt rt, lm)) ∧ (im 47 0 (Int.toNat s) = 1 → (0 ≤ i ∧ i < im 49 0 (Int.toNat s)) → x = 1 ∧ m' = (up im 50 0 (40 * (Int.toNat s) + i.toNat) (cutN (im 48 0 (Int.toNat s)) v), rs bt rt, lm)))) := by
  refine cn_of (by decide) (okR G) rfl (Nat.le_of_ble_eq_true rfl) ?_
  intro M ad hMl F
  subst hMl
  have s1 := hs.1
  have s2 := hs.2
  have i1 := hi.1
  have i2 := hi.2
  have v1 := hv.1
  have v2 := hv.2
  refine wp_pad 0 ?_
  show Wp M (XR G) ad Y_X9_cell (pI fun x m' => (¬ ((0 : Int) ≤ s ∧ (s : Int) ≤ 3) → x = -2 ∧ m' = (im, rs bt rt, lm)) ∧ ((0 : Int) ≤ s ∧ (s : Int) ≤ 3 → (im 47 0 (Int.toNat s) = 0 → x = -11 ∧ m' = (im, rs bt rt, lm)) ∧ (im 47 0 (Int.toNat s) = 1 → ¬ (0 ≤ i ∧ i < im 49 0 (Int.toNat s)) → x = -12 ∧ m' = (im, rs bt rt, lm)) ∧ (im 47 0 (Int.toNat s) = 1 → (0 ≤ i ∧ i < im 49 0 (Int.toNat s)) → x = 1 ∧ m' = (up im 50 0 (40 * (Int.toNat s) + i.toNat) (cutN (im 48 0 (Int.toNat s)) v), rs bt rt, lm)))) 0 [some (vR 30 0), some (vI s), some (vI i), some (vI v)] [] (im, rs bt rt, lm)
  refine q_iload_n (t := 1) F dX9_cell_0 rfl rfl rfl ?_
  refine wp_callS (t := 4) [_] F dX9_cell_1 k_X9_isSheet st_X9_isSheet ml_X9_421 rfl rfl (Nat.le_of_ble_eq_true rfl) (by decide) (c_X9_isSheet _ G im bt rt lm s (by constructor <;> omega)) rfl (kI ?_)
  rintro x1 m' ⟨hx1, rfl⟩
  have hx1 := if01 hx1
  refine q_if_ne (t := 7) (u := 10) F dX9_cell_4 (by first | exact hR _ _ _ | (constructor <;> omega)) (by decide) rfl (fun c4 => ?_) (fun c4 => ?_)
  · obtain ⟨s, rfl⟩ : ∃ j : Nat, s = (j : Int) := ⟨s.toNat, by omega⟩
    have ets : ((s : Nat) : Int).toNat = s := Int.toNat_natCast s
    have hs3 : s ≤ 3 := by omega
    have hsh := hSH s (by omega)
    refine q_aload_n (t := 11) F dX9_cell_10 rfl rfl rfl ?_
    refine g_X9_68 (t := 14) F dX9_cell_11 rfl rfl ?_
    refine q_iload_n (t := 15) F dX9_cell_14 rfl rfl rfl ?_
    first | refine ldN_47 (t := 16) F dX9_cell_15 (by omega) rfl ?_ | refine ld_47 (t := 16) F dX9_cell_15 (by omega) (by omega) rfl ?_
    try simp only [up_app, row_app, scr_app, cpy_app, Nat.reduceEqDiff, Int.reduceToNat, Int.toNat_natCast, and_true, true_and, and_false, false_and, and_self, reduceIte]
    refine q_if_ne (t := 19) (u := 22) F dX9_cell_16 (by exact hR _ _ _) (by decide) rfl (fun c16 => ?_) (fun c16 => ?_)
    · have h47 : im 47 0 s = 1 := by omega
      have hsz := hsh.2 h47
      refine q_iload_n (t := 23) F dX9_cell_22 rfl rfl rfl ?_
      refine q_i2l (t := 24) F dX9_cell_23 (by first | exact hR _ _ _ | (constructor <;> omega)) rfl ?_
      refine q_lconst (t := 25) (x := 0) F dX9_cell_24 (by decide) rfl ?_
      refine q_aload_n (t := 26) F dX9_cell_25 rfl rfl rfl ?_
      refine g_X9_75 (t := 29) F dX9_cell_26 rfl rfl ?_
      refine q_iload_n (t := 30) F dX9_cell_29 rfl rfl rfl ?_
      first | refine ldN_49 (t := 31) F dX9_cell_30 (by omega) rfl ?_ | refine ld_49 (t := 31) F dX9_cell_30 (by omega) (by omega) rfl ?_
      try simp only [up_app, row_app, scr_app, cpy_app, Nat.reduceEqDiff, Int.reduceToNat, Int.toNat_natCast, and_true, true_and, and_false, false_and, and_self, reduceIte]
      refine q_iconst (t := 32) F dX9_cell_31 rfl ?_
      refine q_isub (t := 33) F dX9_cell_32 rfl ?_
      refine q_i2l (t := 34) F dX9_cell_33 (by first | exact hR _ _ _ | (constructor <;> omega)) rfl ?_
      refine wp_callS (t := 37) [_, _, _] F dX9_cell_34 k_X9_in st_X9_in ml_X9_91 rfl rfl (Nat.le_of_ble_eq_true rfl) (by decide) (c_X9_in _ G _ _ _ _ _ _ _ (by constructor <;> omega) (by constructor <;> omega) (by constructor <;> omega)) rfl (kI ?_)
      rintro x34 m' ⟨hx34, rfl⟩
      have hx34 := if01 hx34
      refine q_if_ne (t := 40) (u := 43) F dX9_cell_37 (by first | exact hR _ _ _ | (constructor <;> omega)) (by decide) rfl (fun c37 => ?_) (fun c37 => ?_)
      · refine q_aload_n (t := 44) F dX9_cell_43 rfl rfl rfl ?_
        refine g_X9_78 (t := 47) F dX9_cell_44 rfl rfl ?_
        refine q_bipush (t := 49) F dX9_cell_47 (by decide) rfl ?_
        refine q_iload_n (t := 50) F dX9_cell_49 rfl rfl rfl ?_
        refine q_imul (t := 51) F dX9_cell_50 rfl ?_
        refine q_iload_n (t := 52) F dX9_cell_51 rfl rfl rfl ?_
        refine q_iadd (t := 53) F dX9_cell_52 rfl ?_
        rw [show (40 : Int) * (s : Int) + i = ((40 * s + i.toNat : Nat) : Int) by omega]
        refine q_aload_n (t := 54) F dX9_cell_53 rfl rfl rfl ?_
        refine g_X9_72 (t := 57) F dX9_cell_54 rfl rfl ?_
        refine q_iload_n (t := 58) F dX9_cell_57 rfl rfl rfl ?_
        first | refine ldN_48 (t := 59) F dX9_cell_58 (by omega) rfl ?_ | refine ld_48 (t := 59) F dX9_cell_58 (by omega) (by omega) rfl ?_
        try simp only [up_app, row_app, scr_app, cpy_app, Nat.reduceEqDiff, Int.reduceToNat, Int.toNat_natCast, and_true, true_and, and_false, false_and, and_self, reduceIte]
        refine q_if_ne (t := 62) (u := 67) F dX9_cell_59 (by constructor <;> omega) (by decide) rfl (fun c59 => ?_) (fun c59 => ?_)
        · refine q_aload_n (t := 68) F dX9_cell_67 rfl rfl rfl ?_
          refine g_X9_72 (t := 71) F dX9_cell_68 rfl rfl ?_
          refine q_iload_n (t := 72) F dX9_cell_71 rfl rfl rfl ?_
          first | refine ldN_48 (t := 73) F dX9_cell_72 (by omega) rfl ?_ | refine ld_48 (t := 73) F dX9_cell_72 (by omega) (by omega) rfl ?_
          try simp only [up_app, row_app, scr_app, cpy_app, Nat.reduceEqDiff, Int.reduceToNat, Int.toNat_natCast, and_true, true_and, and_false, false_and, and_self, reduceIte]
          refine q_iconst (t := 74) F dX9_cell_73 rfl ?_
          refine q_icmp_ne (t := 77) (u := 82) F dX9_cell_74 (by constructor <;> omega) (by constructor <;> omega) (by decide) rfl (fun c74 => ?_) (fun c74 => ?_)
          · refine q_iload_n (t := 83) F dX9_cell_82 rfl rfl rfl ?_
            first | refine stN_50 (t := 84) F dX9_cell_83 (by omega) rfl ?_ | refine st_50 (t := 84) F dX9_cell_83 (by omega) (by omega) rfl ?_
            refine q_iconst (t := 85) F dX9_cell_84 rfl ?_
            refine q_iret F dX9_cell_85 rfl ?_
            first
              | exact ⟨_, rfl, fun _ => ⟨rfl, rfl⟩, fun z => absurd z (by omega)⟩
              | exact ⟨_, rfl, fun z => absurd (by omega) z, fun _ => ⟨fun _ => ⟨rfl, rfl⟩, fun z => absurd z (by (try rw [ets]); omega), fun z => absurd z (by (try rw [ets]); omega)⟩⟩
              | exact ⟨_, rfl, fun z => absurd (by omega) z, fun _ => ⟨fun z => absurd z (by (try rw [ets]); omega), fun _ _ => ⟨rfl, rfl⟩, fun _ z => absurd z (by (try rw [ets]); omega)⟩⟩
              | (refine ⟨_, rfl, fun z => absurd (by omega) z, fun _ => ⟨fun z => absurd z (by (try rw [ets]); omega), fun _ z => absurd (by (try rw [ets]); omega) z, fun _ _ => ⟨rfl, ?_⟩⟩⟩
                 (try rw [ets])
                 unfold cutN
                 first
                   | rw [if_pos (by omega)]
                   | rw [if_neg (by omega), if_pos (by omega)]
                   | rw [if_neg (by omega), if_neg (by omega)])
              | omega
          · refine q_iload_n (t := 78) F dX9_cell_77 rfl rfl rfl ?_
            refine q_i2s (t := 79) F dX9_cell_78 rfl ?_
            refine q_goto (t := 83) F dX9_cell_79 (by decide) ?_
            first | refine stN_50 (t := 84) F dX9_cell_83 (by omega) rfl ?_ | refine st_50 (t := 84) F dX9_cell_83 (by omega) (by omega) rfl ?_
            refine q_iconst (t := 85) F dX9_cell_84 rfl ?_
            refine q_iret F dX9_cell_85 rfl ?_
            first
              | exact ⟨_, rfl, fun _ => ⟨rfl, rfl⟩, fun z => absurd z (by omega)⟩
              | exact ⟨_, rfl, fun z => absurd (by omega) z, fun _ => ⟨fun _ => ⟨rfl, rfl⟩, fun z => absurd z (by (try rw [ets]); omega), fun z => absurd z (by (try rw [ets]); omega)⟩⟩
              | exact ⟨_, rfl, fun z => absurd (by omega) z, fun _ => ⟨fun z => absurd z (by (try rw [ets]); omega), fun _ _ => ⟨rfl, rfl⟩, fun _ z => absurd z (by (try rw [ets]); omega)⟩⟩
              | (refine ⟨_, rfl, fun z => absurd (by omega) z, fun _ => ⟨fun z => absurd z (by (try rw [ets]); omega), fun _ z => absurd (by (try rw [ets]); omega) z, fun _ _ => ⟨rfl, ?_⟩⟩⟩
                 (try rw [ets])
                 unfold cutN
                 first
                   | rw [if_pos (by omega)]
                   | rw [if_neg (by omega), if_pos (by omega)]
                   | rw [if_neg (by omega), if_neg (by omega)])
              | omega
        · refine q_iload_n (t := 63) F dX9_cell_62 rfl rfl rfl ?_
          refine q_i2b (t := 64) F dX9_cell_63 rfl ?_
          refine q_goto (t := 83) F dX9_cell_64 (by decide) ?_
          first | refine stN_50 (t := 84) F dX9_cell_83 (by omega) rfl ?_ | refine st_50 (t := 84) F dX9_cell_83 (by omega) (by omega) rfl ?_
          refine q_iconst (t := 85) F dX9_cell_84 rfl ?_
          refine q_iret F dX9_cell_85 rfl ?_
          first
            | exact ⟨_, rfl, fun _ => ⟨rfl, rfl⟩, fun z => absurd z (by omega)⟩
            | exact ⟨_, rfl, fun z => absurd (by omega) z, fun _ => ⟨fun _ => ⟨rfl, rfl⟩, fun z => absurd z (by (try rw [ets]); omega), fun z => absurd z (by (try rw [ets]); omega)⟩⟩
            | exact ⟨_, rfl, fun z => absurd (by omega) z, fun _ => ⟨fun z => absurd z (by (try rw [ets]); omega), fun _ _ => ⟨rfl, rfl⟩, fun _ z => absurd z (by (try rw [ets]); omega)⟩⟩
            | (refine ⟨_, rfl, fun z => absurd (by omega) z, fun _ => ⟨fun z => absurd z (by (try rw [ets]); omega), fun _ z => absurd (by (try rw [ets]); omega) z, fun _ _ => ⟨rfl, ?_⟩⟩⟩
               (try rw [ets])
               unfold cutN
               first
                 | rw [if_pos (by omega)]
                 | rw [if_neg (by omega), if_pos (by omega)]
                 | rw [if_neg (by omega), if_neg (by omega)])
            | omega
      · refine q_bipush (t := 42) F dX9_cell_40 (by decide) rfl ?_
        refine q_iret F dX9_cell_42 rfl ?_
        first
          | exact ⟨_, rfl, fun _ => ⟨rfl, rfl⟩, fun z => absurd z (by omega)⟩
          | exact ⟨_, rfl, fun z => absurd (by omega) z, fun _ => ⟨fun _ => ⟨rfl, rfl⟩, fun z => absurd z (by (try rw [ets]); omega), fun z => absurd z (by (try rw [ets]); omega)⟩⟩
          | exact ⟨_, rfl, fun z => absurd (by omega) z, fun _ => ⟨fun z => absurd z (by (try rw [ets]); omega), fun _ _ => ⟨rfl, rfl⟩, fun _ z => absurd z (by (try rw [ets]); omega)⟩⟩
          | (refine ⟨_, rfl, fun z => absurd (by omega) z, fun _ => ⟨fun z => absurd z (by (try rw [ets]); omega), fun _ z => absurd (by (try rw [ets]); omega) z, fun _ _ => ⟨rfl, ?_⟩⟩⟩
             (try rw [ets])
             unfold cutN
             first
               | rw [if_pos (by omega)]
               | rw [if_neg (by omega), if_pos (by omega)]
               | rw [if_neg (by omega), if_neg (by omega)])
          | omega
    · refine q_bipush (t := 21) F dX9_cell_19 (by decide) rfl ?_
      refine q_iret F dX9_cell_21 rfl ?_
      first
        | exact ⟨_, rfl, fun _ => ⟨rfl, rfl⟩, fun z => absurd z (by omega)⟩
        | exact ⟨_, rfl, fun z => absurd (by omega) z, fun _ => ⟨fun _ => ⟨rfl, rfl⟩, fun z => absurd z (by (try rw [ets]); omega), fun z => absurd z (by (try rw [ets]); omega)⟩⟩
        | exact ⟨_, rfl, fun z => absurd (by omega) z, fun _ => ⟨fun z => absurd z (by (try rw [ets]); omega), fun _ _ => ⟨rfl, rfl⟩, fun _ z => absurd z (by (try rw [ets]); omega)⟩⟩
        | (refine ⟨_, rfl, fun z => absurd (by omega) z, fun _ => ⟨fun z => absurd z (by (try rw [ets]); omega), fun _ z => absurd (by (try rw [ets]); omega) z, fun _ _ => ⟨rfl, ?_⟩⟩⟩
           (try rw [ets])
           unfold cutN
           first
             | rw [if_pos (by omega)]
             | rw [if_neg (by omega), if_pos (by omega)]
             | rw [if_neg (by omega), if_neg (by omega)])
        | omega
  · refine q_bipush (t := 9) F dX9_cell_7 (by decide) rfl ?_
    refine q_iret F dX9_cell_9 rfl ?_
    first
      | exact ⟨_, rfl, fun _ => ⟨rfl, rfl⟩, fun z => absurd z (by omega)⟩
      | exact ⟨_, rfl, fun z => absurd (by omega) z, fun _ => ⟨fun _ => ⟨rfl, rfl⟩, fun z => absurd z (by (try rw [ets]); omega), fun z => absurd z (by (try rw [ets]); omega)⟩⟩
      | exact ⟨_, rfl, fun z => absurd (by omega) z, fun _ => ⟨fun z => absurd z (by (try rw [ets]); omega), fun _ _ => ⟨rfl, rfl⟩, fun _ z => absurd z (by (try rw [ets]); omega)⟩⟩
      | (refine ⟨_, rfl, fun z => absurd (by omega) z, fun _ => ⟨fun z => absurd z (by (try rw [ets]); omega), fun _ z => absurd (by (try rw [ets]); omega) z, fun _ _ => ⟨rfl, ?_⟩⟩⟩
         (try rw [ets])
         unfold cutN
         first
           | rw [if_pos (by omega)]
           | rw [if_neg (by omega), if_pos (by omega)]
           | rw [if_neg (by omega), if_neg (by omega)])
      | omega

theorem cpy_lo (im : IM) {k sp dp n : Nat} (h : ¬ (dp ≤ sp + n ∧ sp + n < dp + n)) : up (cpy im k 0 sp k 0 dp n) k 0 (dp + n) (cpy im k 0 sp k 0 dp n k 0 (sp + n)) = cpy im k 0 sp k 0 dp (n + 1) := by
  have e : cpy im k 0 sp k 0 dp n k 0 (sp + n) = im k 0 (sp + n) := by rw [cpy_app, if_neg (by omega)]
  rw [e]
  funext k' i s
  rw [up_app, cpy_app, cpy_app]
  by_cases h1 : k' = k ∧ i = 0 ∧ s = dp + n
  · rw [if_pos h1, if_pos (by omega), show sp + (s - dp) = sp + n by omega]
  · rw [if_neg h1]
    by_cases h2 : k' = k ∧ i = 0 ∧ dp ≤ s ∧ s < dp + n
    · rw [if_pos h2, if_pos (by omega)]
    · rw [if_neg h2, if_neg (by omega)]
theorem cpy_hi (im : IM) {k sp dp n : Nat} (h : ¬ (dp + 1 ≤ sp ∧ sp < dp + 1 + n)) : up (cpy im k 0 (sp + 1) k 0 (dp + 1) n) k 0 dp (cpy im k 0 (sp + 1) k 0 (dp + 1) n k 0 sp) = cpy im k 0 sp k 0 dp (n + 1) := by
  have e : cpy im k 0 (sp + 1) k 0 (dp + 1) n k 0 sp = im k 0 sp := by rw [cpy_app, if_neg (by omega)]
  rw [e]
  funext k' i s
  rw [up_app, cpy_app, cpy_app]
  by_cases h1 : k' = k ∧ i = 0 ∧ s = dp
  · rw [if_pos h1, if_pos (by omega), show sp + (s - dp) = sp by omega]
  · rw [if_neg h1]
    by_cases h2 : k' = k ∧ i = 0 ∧ dp + 1 ≤ s ∧ s < dp + 1 + n
    · rw [if_pos h2, if_pos (by omega), show sp + 1 + (s - (dp + 1)) = sp + (s - dp) by omega]
    · rw [if_neg h2, if_neg (by omega)]
theorem cpy_n0 (im : IM) (k sp dp : Nat) : cpy im k 0 sp k 0 dp 0 = im := by
  funext k' i s
  rw [cpy_app, if_neg (by omega)]
/-- behind m of n cells, from the end or from the start -/
def cpM (im : IM) (u : Int) (A B n m : Nat) : IM := if u = 1 then cpy im 50 0 (A + (n - m)) 50 0 (B + (n - m)) m else cpy im 50 0 A 50 0 B m

set_option maxHeartbeats 4000000 in
theorem c_X9_copy (l : Launch) (G : GS) (im : IM) (bt rt : Nat) (lm : IM) (hR : RI im) (hSH : SH im) (a i b j n : Int) (ha : ri a) (hi : ri i) (hb : ri b) (hj : ri j) (hn : ri n) : Cn l (XR G) yX9_copy Y_X9_copy [vR 30 0, vI a, vI i, vI b, vI j, vI n] (im, rs bt rt, lm) (pI fun x m' => (¬ (((0 : Int) ≤ a ∧ (a : Int) ≤ 3) ∧ (0 : Int) ≤ b ∧ (b : Int) ≤ 3) → x = -2 ∧ m' = (im, rs bt rt, lm)) ∧ ((((0 : Int) ≤ a ∧ (a : Int) ≤ 3) ∧ (0 : Int) ≤ b ∧ (b : Int) ≤ 3) → (im 47 0 (Int.toNat a) = 0 ∨ im 47 0 (Int.toNat b) = 0 → x = -11 ∧ m' = (im, rs bt rt, lm)) ∧ (im 47 0 (Int.toNat a) = 1 → im 47 0 (Int.toNat b) = 1 → (im 48 0 (Int.toNat a) ≠ im 48 0 (Int.toNat b) → x = -13 ∧ m' = (im, rs bt rt, lm)) ∧ (im 48 0 (Int.toNat a) = im 48 0 (Int.toNat b) → (¬ (((0 : Int) ≤ i ∧ (0 : Int) ≤ n ∧ (i : Int) + (n : Int) ≤ im 49 0 (Int.toNat a)) ∧ (0 : Int) ≤ j ∧ (0 : Int) ≤ n ∧ (j : Int) + (n : Int) ≤ im 49 0 (Int.toNat b)) → x = -12 ∧ m' = (im, rs bt rt, lm)) ∧ ((((0 : Int) ≤ i ∧ (0 : Int) ≤ n ∧ (i : Int) + (n : Int) ≤ im 49 0 (Int.toNat a)) ∧ (0 : Int) ≤ j ∧ (0 : Int) ≤ n ∧ (j : Int) + (n : Int) ≤ im 49 0 (Int.toNat b)) → x = n ∧ m' = (cpy im 50 0 (40 * (Int.toNat a) + (Int.toNat i)) 50 0 (40 * (Int.toNat b) + (Int.toNat j)) (Int.toNat n), rs bt rt, lm)))))) := by
  refine cn_of (by decide) (okR G) rfl (Nat.le_of_ble_eq_true rfl) ?_
  intro M ad hMl F
  subst hMl
  have a1 := ha.1
  have a2 := ha.2
  have i1 := hi.1
  have i2 := hi.2
  have b1 := hb.1
  have b2 := hb.2
  have j1 := hj.1
  have j2 := hj.2
  have n1 := hn.1
  have n2 := hn.2
  refine wp_pad 3 ?_
  show Wp M (XR G) ad Y_X9_copy (pI fun x m' => (¬ (((0 : Int) ≤ a ∧ (a : Int) ≤ 3) ∧ (0 : Int) ≤ b ∧ (b : Int) ≤ 3) → x = -2 ∧ m' = (im, rs bt rt, lm)) ∧ ((((0 : Int) ≤ a ∧ (a : Int) ≤ 3) ∧ (0 : Int) ≤ b ∧ (b : Int) ≤ 3) → (im 47 0 (Int.toNat a) = 0 ∨ im 47 0 (Int.toNat b) = 0 → x = -11 ∧ m' = (im, rs bt rt, lm)) ∧ (im 47 0 (Int.toNat a) = 1 → im 47 0 (Int.toNat b) = 1 → (im 48 0 (Int.toNat a) ≠ im 48 0 (Int.toNat b) → x = -13 ∧ m' = (im, rs bt rt, lm)) ∧ (im 48 0 (Int.toNat a) = im 48 0 (Int.toNat b) → (¬ (((0 : Int) ≤ i ∧ (0 : Int) ≤ n ∧ (i : Int) + (n : Int) ≤ im 49 0 (Int.toNat a)) ∧ (0 : Int) ≤ j ∧ (0 : Int) ≤ n ∧ (j : Int) + (n : Int) ≤ im 49 0 (Int.toNat b)) → x = -12 ∧ m' = (im, rs bt rt, lm)) ∧ ((((0 : Int) ≤ i ∧ (0 : Int) ≤ n ∧ (i : Int) + (n : Int) ≤ im 49 0 (Int.toNat a)) ∧ (0 : Int) ≤ j ∧ (0 : Int) ≤ n ∧ (j : Int) + (n : Int) ≤ im 49 0 (Int.toNat b)) → x = n ∧ m' = (cpy im 50 0 (40 * (Int.toNat a) + (Int.toNat i)) 50 0 (40 * (Int.toNat b) + (Int.toNat j)) (Int.toNat n), rs bt rt, lm)))))) 0 [some (vR 30 0), some (vI a), some (vI i), some (vI b), some (vI j), some (vI n), none, none, none] [] (im, rs bt rt, lm)
  refine q_iload_n (t := 1) F dX9_copy_0 rfl rfl rfl ?_
  refine wp_callS (t := 4) [_] F dX9_copy_1 k_X9_isSheet st_X9_isSheet ml_X9_421 rfl rfl (Nat.le_of_ble_eq_true rfl) (by decide) (c_X9_isSheet _ G im bt rt lm a (by constructor <;> omega)) rfl (kI ?_)
  rintro x1 m' ⟨hx1, rfl⟩
  have hx1 := if01 hx1
  refine q_if_eq (t := 7) (u := 14) F dX9_copy_4 (by first | exact hR _ _ _ | (constructor <;> omega)) (by decide) rfl (fun c4 => ?_) (fun c4 => ?_)
  · refine q_bipush (t := 16) F dX9_copy_14 (by decide) rfl ?_
    refine q_iret F dX9_copy_16 rfl ?_
    try simp only [Int.toNat_natCast]
    first
      | exact ⟨_, rfl, fun _ => ⟨rfl, rfl⟩, fun z => absurd z (by omega)⟩
      | exact ⟨_, rfl, fun z => absurd (by omega) z, fun _ => ⟨fun _ => ⟨rfl, rfl⟩, fun z1 z2 => by omega⟩⟩
      | exact ⟨_, rfl, fun z => absurd (by omega) z, fun _ => ⟨fun z => by omega, fun _ _ => ⟨fun _ => ⟨rfl, rfl⟩, fun z => absurd z (by omega)⟩⟩⟩
      | exact ⟨_, rfl, fun z => absurd (by omega) z, fun _ => ⟨fun z => by omega, fun _ _ => ⟨fun z => absurd (by omega) z, fun _ => ⟨fun _ => ⟨rfl, rfl⟩, fun z => by omega⟩⟩⟩⟩
      | (obtain rfl : m = n := by omega
         refine ⟨_, rfl, fun z => absurd (by omega) z, fun _ => ⟨fun z => by omega, fun _ _ => ⟨fun z => absurd (by omega) z, fun _ => ⟨fun z => absurd (by omega) z, fun _ => ⟨rfl, ?_⟩⟩⟩⟩⟩
         unfold cpM
         split
         · rw [Nat.sub_self]
           rfl
         · rfl)
      | omega
  · refine q_iload_n (t := 8) F dX9_copy_7 rfl rfl rfl ?_
    refine wp_callS (t := 11) [_] F dX9_copy_8 k_X9_isSheet st_X9_isSheet ml_X9_421 rfl rfl (Nat.le_of_ble_eq_true rfl) (by decide) (c_X9_isSheet _ G im bt rt lm b (by constructor <;> omega)) rfl (kI ?_)
    rintro x8 m' ⟨hx8, rfl⟩
    have hx8 := if01 hx8
    refine q_if_ne (t := 14) (u := 17) F dX9_copy_11 (by first | exact hR _ _ _ | (constructor <;> omega)) (by decide) rfl (fun c11 => ?_) (fun c11 => ?_)
    · obtain ⟨a, rfl⟩ : ∃ j : Nat, a = (j : Int) := ⟨a.toNat, by omega⟩
      obtain ⟨b, rfl⟩ : ∃ j : Nat, b = (j : Int) := ⟨b.toNat, by omega⟩
      have eta : ((a : Nat) : Int).toNat = a := Int.toNat_natCast a
      have etb : ((b : Nat) : Int).toNat = b := Int.toNat_natCast b
      (try rw [eta])
      (try rw [etb])
      have ha3 : a ≤ 3 := by omega
      have hb3 : b ≤ 3 := by omega
      have hsa := hSH a (by omega)
      have hsb := hSH b (by omega)
      refine q_aload_n (t := 18) F dX9_copy_17 rfl rfl rfl ?_
      refine g_X9_68 (t := 21) F dX9_copy_18 rfl rfl ?_
      refine q_iload_n (t := 22) F dX9_copy_21 rfl rfl rfl ?_
      first | refine ldN_47 (t := 23) F dX9_copy_22 (by omega) rfl ?_ | refine ld_47 (t := 23) F dX9_copy_22 (by omega) (by omega) rfl ?_
      try simp only [up_app, row_app, scr_app, cpy_app, Nat.reduceEqDiff, Int.reduceToNat, Int.toNat_natCast, and_true, true_and, and_false, false_and, and_self, reduceIte]
      refine q_if_eq (t := 26) (u := 35) F dX9_copy_23 (by exact hR _ _ _) (by decide) rfl (fun c23 => ?_) (fun c23 => ?_)
      · refine q_bipush (t := 37) F dX9_copy_35 (by decide) rfl ?_
        refine q_iret F dX9_copy_37 rfl ?_
        try simp only [Int.toNat_natCast]
        first
          | exact ⟨_, rfl, fun _ => ⟨rfl, rfl⟩, fun z => absurd z (by omega)⟩
          | exact ⟨_, rfl, fun z => absurd (by omega) z, fun _ => ⟨fun _ => ⟨rfl, rfl⟩, fun z1 z2 => by omega⟩⟩
          | exact ⟨_, rfl, fun z => absurd (by omega) z, fun _ => ⟨fun z => by omega, fun _ _ => ⟨fun _ => ⟨rfl, rfl⟩, fun z => absurd z (by omega)⟩⟩⟩
          | exact ⟨_, rfl, fun z => absurd (by omega) z, fun _ => ⟨fun z => by omega, fun _ _ => ⟨fun z => absurd (by omega) z, fun _ => ⟨fun _ => ⟨rfl, rfl⟩, fun z => by omega⟩⟩⟩⟩
          | (obtain rfl : m = n := by omega
             refine ⟨_, rfl, fun z => absurd (by omega) z, fun _ => ⟨fun z => by omega, fun _ _ => ⟨fun z => absurd (by omega) z, fun _ => ⟨fun z => absurd (by omega) z, fun _ => ⟨rfl, ?_⟩⟩⟩⟩⟩
             unfold cpM
             split
             · rw [Nat.sub_self]
               rfl
             · rfl)
          | omega
      · refine q_aload_n (t := 27) F dX9_copy_26 rfl rfl rfl ?_
        refine g_X9_68 (t := 30) F dX9_copy_27 rfl rfl ?_
        refine q_iload_n (t := 31) F dX9_copy_30 rfl rfl rfl ?_
        first | refine ldN_47 (t := 32) F dX9_copy_31 (by omega) rfl ?_ | refine ld_47 (t := 32) F dX9_copy_31 (by omega) (by omega) rfl ?_
        try simp only [up_app, row_app, scr_app, cpy_app, Nat.reduceEqDiff, Int.reduceToNat, Int.toNat_natCast, and_true, true_and, and_false, false_and, and_self, reduceIte]
        refine q_if_ne (t := 35) (u := 38) F dX9_copy_32 (by exact hR _ _ _) (by decide) rfl (fun c32 => ?_) (fun c32 => ?_)
        · have a47 : im 47 0 a = 1 := by omega
          have b47 : im 47 0 b = 1 := by omega
          have hza := hsa.2 a47
          have hzb := hsb.2 b47
          refine q_aload_n (t := 39) F dX9_copy_38 rfl rfl rfl ?_
          refine g_X9_72 (t := 42) F dX9_copy_39 rfl rfl ?_
          refine q_iload_n (t := 43) F dX9_copy_42 rfl rfl rfl ?_
          first | refine ldN_48 (t := 44) F dX9_copy_43 (by omega) rfl ?_ | refine ld_48 (t := 44) F dX9_copy_43 (by omega) (by omega) rfl ?_
          try simp only [up_app, row_app, scr_app, cpy_app, Nat.reduceEqDiff, Int.reduceToNat, Int.toNat_natCast, and_true, true_and, and_false, false_and, and_self, reduceIte]
          refine q_aload_n (t := 45) F dX9_copy_44 rfl rfl rfl ?_
          refine g_X9_72 (t := 48) F dX9_copy_45 rfl rfl ?_
          refine q_iload_n (t := 49) F dX9_copy_48 rfl rfl rfl ?_
          first | refine ldN_48 (t := 50) F dX9_copy_49 (by omega) rfl ?_ | refine ld_48 (t := 50) F dX9_copy_49 (by omega) (by omega) rfl ?_
          try simp only [up_app, row_app, scr_app, cpy_app, Nat.reduceEqDiff, Int.reduceToNat, Int.toNat_natCast, and_true, true_and, and_false, false_and, and_self, reduceIte]
          refine q_icmp_eq (t := 53) (u := 56) F dX9_copy_50 (by exact hR _ _ _) (by exact hR _ _ _) (by decide) rfl (fun c50 => ?_) (fun c50 => ?_)
          · refine q_iload (t := 58) F dX9_copy_56 rfl rfl ?_
            refine q_if_lt (t := 61) (u := 97) F dX9_copy_58 (by first | exact hR _ _ _ | (constructor <;> omega)) (by decide) rfl (fun c58 => ?_) (fun c58 => ?_)
            · refine q_bipush (t := 99) F dX9_copy_97 (by decide) rfl ?_
              refine q_iret F dX9_copy_99 rfl ?_
              try simp only [Int.toNat_natCast]
              first
                | exact ⟨_, rfl, fun _ => ⟨rfl, rfl⟩, fun z => absurd z (by omega)⟩
                | exact ⟨_, rfl, fun z => absurd (by omega) z, fun _ => ⟨fun _ => ⟨rfl, rfl⟩, fun z1 z2 => by omega⟩⟩
                | exact ⟨_, rfl, fun z => absurd (by omega) z, fun _ => ⟨fun z => by omega, fun _ _ => ⟨fun _ => ⟨rfl, rfl⟩, fun z => absurd z (by omega)⟩⟩⟩
                | exact ⟨_, rfl, fun z => absurd (by omega) z, fun _ => ⟨fun z => by omega, fun _ _ => ⟨fun z => absurd (by omega) z, fun _ => ⟨fun _ => ⟨rfl, rfl⟩, fun z => by omega⟩⟩⟩⟩
                | (obtain rfl : m = n := by omega
                   refine ⟨_, rfl, fun z => absurd (by omega) z, fun _ => ⟨fun z => by omega, fun _ _ => ⟨fun z => absurd (by omega) z, fun _ => ⟨fun z => absurd (by omega) z, fun _ => ⟨rfl, ?_⟩⟩⟩⟩⟩
                   unfold cpM
                   split
                   · rw [Nat.sub_self]
                     rfl
                   · rfl)
                | omega
            · refine q_iload_n (t := 62) F dX9_copy_61 rfl rfl rfl ?_
              refine q_if_lt (t := 65) (u := 97) F dX9_copy_62 (by first | exact hR _ _ _ | (constructor <;> omega)) (by decide) rfl (fun c62 => ?_) (fun c62 => ?_)
              · refine q_bipush (t := 99) F dX9_copy_97 (by decide) rfl ?_
                refine q_iret F dX9_copy_99 rfl ?_
                try simp only [Int.toNat_natCast]
                first
                  | exact ⟨_, rfl, fun _ => ⟨rfl, rfl⟩, fun z => absurd z (by omega)⟩
                  | exact ⟨_, rfl, fun z => absurd (by omega) z, fun _ => ⟨fun _ => ⟨rfl, rfl⟩, fun z1 z2 => by omega⟩⟩
                  | exact ⟨_, rfl, fun z => absurd (by omega) z, fun _ => ⟨fun z => by omega, fun _ _ => ⟨fun _ => ⟨rfl, rfl⟩, fun z => absurd z (by omega)⟩⟩⟩
                  | exact ⟨_, rfl, fun z => absurd (by omega) z, fun _ => ⟨fun z => by omega, fun _ _ => ⟨fun z => absurd (by omega) z, fun _ => ⟨fun _ => ⟨rfl, rfl⟩, fun z => by omega⟩⟩⟩⟩
                  | (obtain rfl : m = n := by omega
                     refine ⟨_, rfl, fun z => absurd (by omega) z, fun _ => ⟨fun z => by omega, fun _ _ => ⟨fun z => absurd (by omega) z, fun _ => ⟨fun z => absurd (by omega) z, fun _ => ⟨rfl, ?_⟩⟩⟩⟩⟩
                     unfold cpM
                     split
                     · rw [Nat.sub_self]
                       rfl
                     · rfl)
                  | omega
              · refine q_iload (t := 67) F dX9_copy_65 rfl rfl ?_
                refine q_if_lt (t := 70) (u := 97) F dX9_copy_67 (by first | exact hR _ _ _ | (constructor <;> omega)) (by decide) rfl (fun c67 => ?_) (fun c67 => ?_)
                · refine q_bipush (t := 99) F dX9_copy_97 (by decide) rfl ?_
                  refine q_iret F dX9_copy_99 rfl ?_
                  try simp only [Int.toNat_natCast]
                  first
                    | exact ⟨_, rfl, fun _ => ⟨rfl, rfl⟩, fun z => absurd z (by omega)⟩
                    | exact ⟨_, rfl, fun z => absurd (by omega) z, fun _ => ⟨fun _ => ⟨rfl, rfl⟩, fun z1 z2 => by omega⟩⟩
                    | exact ⟨_, rfl, fun z => absurd (by omega) z, fun _ => ⟨fun z => by omega, fun _ _ => ⟨fun _ => ⟨rfl, rfl⟩, fun z => absurd z (by omega)⟩⟩⟩
                    | exact ⟨_, rfl, fun z => absurd (by omega) z, fun _ => ⟨fun z => by omega, fun _ _ => ⟨fun z => absurd (by omega) z, fun _ => ⟨fun _ => ⟨rfl, rfl⟩, fun z => by omega⟩⟩⟩⟩
                    | (obtain rfl : m = n := by omega
                       refine ⟨_, rfl, fun z => absurd (by omega) z, fun _ => ⟨fun z => by omega, fun _ _ => ⟨fun z => absurd (by omega) z, fun _ => ⟨fun z => absurd (by omega) z, fun _ => ⟨rfl, ?_⟩⟩⟩⟩⟩
                       unfold cpM
                       split
                       · rw [Nat.sub_self]
                         rfl
                       · rfl)
                    | omega
                · refine q_iload_n (t := 71) F dX9_copy_70 rfl rfl rfl ?_
                  refine q_aload_n (t := 72) F dX9_copy_71 rfl rfl rfl ?_
                  refine g_X9_75 (t := 75) F dX9_copy_72 rfl rfl ?_
                  refine q_iload_n (t := 76) F dX9_copy_75 rfl rfl rfl ?_
                  first | refine ldN_49 (t := 77) F dX9_copy_76 (by omega) rfl ?_ | refine ld_49 (t := 77) F dX9_copy_76 (by omega) (by omega) rfl ?_
                  try simp only [up_app, row_app, scr_app, cpy_app, Nat.reduceEqDiff, Int.reduceToNat, Int.toNat_natCast, and_true, true_and, and_false, false_and, and_self, reduceIte]
                  refine q_iload (t := 79) F dX9_copy_77 rfl rfl ?_
                  refine q_isub (t := 80) F dX9_copy_79 rfl ?_
                  refine q_icmp_gt (t := 83) (u := 97) F dX9_copy_80 (by constructor <;> omega) (by constructor <;> omega) (by decide) rfl (fun c80 => ?_) (fun c80 => ?_)
                  · refine q_bipush (t := 99) F dX9_copy_97 (by decide) rfl ?_
                    refine q_iret F dX9_copy_99 rfl ?_
                    try simp only [Int.toNat_natCast]
                    first
                      | exact ⟨_, rfl, fun _ => ⟨rfl, rfl⟩, fun z => absurd z (by omega)⟩
                      | exact ⟨_, rfl, fun z => absurd (by omega) z, fun _ => ⟨fun _ => ⟨rfl, rfl⟩, fun z1 z2 => by omega⟩⟩
                      | exact ⟨_, rfl, fun z => absurd (by omega) z, fun _ => ⟨fun z => by omega, fun _ _ => ⟨fun _ => ⟨rfl, rfl⟩, fun z => absurd z (by omega)⟩⟩⟩
                      | exact ⟨_, rfl, fun z => absurd (by omega) z, fun _ => ⟨fun z => by omega, fun _ _ => ⟨fun z => absurd (by omega) z, fun _ => ⟨fun _ => ⟨rfl, rfl⟩, fun z => by omega⟩⟩⟩⟩
                      | (obtain rfl : m = n := by omega
                         refine ⟨_, rfl, fun z => absurd (by omega) z, fun _ => ⟨fun z => by omega, fun _ _ => ⟨fun z => absurd (by omega) z, fun _ => ⟨fun z => absurd (by omega) z, fun _ => ⟨rfl, ?_⟩⟩⟩⟩⟩
                         unfold cpM
                         split
                         · rw [Nat.sub_self]
                           rfl
                         · rfl)
                      | omega
                  · refine q_iload (t := 85) F dX9_copy_83 rfl rfl ?_
                    refine q_aload_n (t := 86) F dX9_copy_85 rfl rfl rfl ?_
                    refine g_X9_75 (t := 89) F dX9_copy_86 rfl rfl ?_
                    refine q_iload_n (t := 90) F dX9_copy_89 rfl rfl rfl ?_
                    first | refine ldN_49 (t := 91) F dX9_copy_90 (by omega) rfl ?_ | refine ld_49 (t := 91) F dX9_copy_90 (by omega) (by omega) rfl ?_
                    try simp only [up_app, row_app, scr_app, cpy_app, Nat.reduceEqDiff, Int.reduceToNat, Int.toNat_natCast, and_true, true_and, and_false, false_and, and_self, reduceIte]
                    refine q_iload (t := 93) F dX9_copy_91 rfl rfl ?_
                    refine q_isub (t := 94) F dX9_copy_93 rfl ?_
                    refine q_icmp_le (t := 97) (u := 100) F dX9_copy_94 (by constructor <;> omega) (by constructor <;> omega) (by decide) rfl (fun c94 => ?_) (fun c94 => ?_)
                    · obtain ⟨i, rfl⟩ : ∃ k : Nat, i = (k : Int) := ⟨i.toNat, by omega⟩
                      obtain ⟨j, rfl⟩ : ∃ k : Nat, j = (k : Int) := ⟨j.toNat, by omega⟩
                      obtain ⟨n, rfl⟩ : ∃ k : Nat, n = (k : Int) := ⟨n.toNat, by omega⟩
                      have eti : ((i : Nat) : Int).toNat = i := Int.toNat_natCast i
                      have etj : ((j : Nat) : Int).toNat = j := Int.toNat_natCast j
                      have etn : ((n : Nat) : Int).toNat = n := Int.toNat_natCast n
                      (try rw [eti])
                      (try rw [etj])
                      (try rw [etn])
                      refine q_iload_n (t := 101) F dX9_copy_100 rfl rfl rfl ?_
                      refine q_iload_n (t := 102) F dX9_copy_101 rfl rfl rfl ?_
                      refine q_icmp_ne (t := 105) (u := 115) F dX9_copy_102 (by constructor <;> omega) (by constructor <;> omega) (by decide) rfl (fun c102 => ?_) (fun c102 => ?_)
                      · refine q_iconst (t := 116) F dX9_copy_115 rfl ?_
                        refine q_istore (t := 118) F dX9_copy_116 (by decide) rfl rfl ?_
                        refine q_iconst (t := 119) F dX9_copy_118 rfl ?_
                        refine q_istore (t := 121) F dX9_copy_119 (by decide) rfl rfl ?_
                        have L121 : ∀ (fz : Nat) (u : Int) (m : Nat), 41 - m < fz → (m ≤ n ∧ (u = 1 ∧ a = b ∧ i < j ∨ u = 0 ∧ ¬ (a = b ∧ i < j))) → Wp M (XR G) ad Y_X9_copy (pI fun x m' => (¬ (((0 : Int) ≤ a ∧ (a : Int) ≤ 3) ∧ (0 : Int) ≤ b ∧ (b : Int) ≤ 3) → x = -2 ∧ m' = (im, rs bt rt, lm)) ∧ ((((0 : Int) ≤ a ∧ (a : Int) ≤ 3) ∧ (0 : Int) ≤ b ∧ (b : Int) ≤ 3) → (im 47 0 (Int.toNat a) = 0 ∨ im 47 0 (Int.toNat b) = 0 → x = -11 ∧ m' = (im, rs bt rt, lm)) ∧ (im 47 0 (Int.toNat a) = 1 → im 47 0 (Int.toNat b) = 1 → (im 48 0 (Int.toNat a) ≠ im 48 0 (Int.toNat b) → x = -13 ∧ m' = (im, rs bt rt, lm)) ∧ (im 48 0 (Int.toNat a) = im 48 0 (Int.toNat b) → (¬ (((0 : Int) ≤ i ∧ (0 : Int) ≤ n ∧ (i : Int) + (n : Int) ≤ im 49 0 (Int.toNat a)) ∧ (0 : Int) ≤ j ∧ (0 : Int) ≤ n ∧ (j : Int) + (n : Int) ≤ im 49 0 (Int.toNat b)) → x = -12 ∧ m' = (im, rs bt rt, lm)) ∧ ((((0 : Int) ≤ i ∧ (0 : Int) ≤ n ∧ (i : Int) + (n : Int) ≤ im 49 0 (Int.toNat a)) ∧ (0 : Int) ≤ j ∧ (0 : Int) ≤ n ∧ (j : Int) + (n : Int) ≤ im 49 0 (Int.toNat b)) → x = n ∧ m' = (cpy im 50 0 (40 * (Int.toNat a) + (Int.toNat i)) 50 0 (40 * (Int.toNat b) + (Int.toNat j)) (Int.toNat n), rs bt rt, lm)))))) 121 [some (vR 30 0), some (vI (a : Int)), some (vI (i : Int)), some (vI (b : Int)), some (vI (j : Int)), some (vI (n : Int)), some (vI u), some (vI (m : Int)), none] [] (cpM im u (40 * a + i) (40 * b + j) n m, rs bt rt, lm) := by
                          intro fz
                          induction fz with
                          | zero => intro u m h; exact absurd h (Nat.not_lt_zero _)
                          | succ fz ih =>
                            have ih121 := ih
                            intro u m hmeas ⟨hm, hu⟩
                            refine q_iload (t := 123) F dX9_copy_121 rfl rfl ?_
                            refine q_iload (t := 125) F dX9_copy_123 rfl rfl ?_
                            refine q_icmp_ge (t := 128) (u := 182) F dX9_copy_125 (by constructor <;> omega) (by constructor <;> omega) (by decide) rfl (fun c125 => ?_) (fun c125 => ?_)
                            · refine q_iload (t := 184) F dX9_copy_182 rfl rfl ?_
                              refine q_iret F dX9_copy_184 rfl ?_
                              try simp only [Int.toNat_natCast]
                              first
                                | exact ⟨_, rfl, fun _ => ⟨rfl, rfl⟩, fun z => absurd z (by omega)⟩
                                | exact ⟨_, rfl, fun z => absurd (by omega) z, fun _ => ⟨fun _ => ⟨rfl, rfl⟩, fun z1 z2 => by omega⟩⟩
                                | exact ⟨_, rfl, fun z => absurd (by omega) z, fun _ => ⟨fun z => by omega, fun _ _ => ⟨fun _ => ⟨rfl, rfl⟩, fun z => absurd z (by omega)⟩⟩⟩
                                | exact ⟨_, rfl, fun z => absurd (by omega) z, fun _ => ⟨fun z => by omega, fun _ _ => ⟨fun z => absurd (by omega) z, fun _ => ⟨fun _ => ⟨rfl, rfl⟩, fun z => by omega⟩⟩⟩⟩
                                | (obtain rfl : m = n := by omega
                                   refine ⟨_, rfl, fun z => absurd (by omega) z, fun _ => ⟨fun z => by omega, fun _ _ => ⟨fun z => absurd (by omega) z, fun _ => ⟨fun z => absurd (by omega) z, fun _ => ⟨rfl, ?_⟩⟩⟩⟩⟩
                                   unfold cpM
                                   split
                                   · rw [Nat.sub_self]
                                     rfl
                                   · rfl)
                                | omega
                            · refine q_iload (t := 130) F dX9_copy_128 rfl rfl ?_
                              refine q_if_eq (t := 133) (u := 143) F dX9_copy_130 (by constructor <;> omega) (by decide) rfl (fun c130 => ?_) (fun c130 => ?_)
                              · refine q_iload (t := 145) F dX9_copy_143 rfl rfl ?_
                                first | rw [show (n : Int) - 1 - (m : Int) = ((n - 1 - m : Nat) : Int) by omega] | skip
                                refine q_istore (t := 147) F dX9_copy_145 (by decide) rfl rfl ?_
                                refine q_aload_n (t := 148) F dX9_copy_147 rfl rfl rfl ?_
                                refine g_X9_78 (t := 151) F dX9_copy_148 rfl rfl ?_
                                refine q_bipush (t := 153) F dX9_copy_151 (by decide) rfl ?_
                                refine q_iload_n (t := 154) F dX9_copy_153 rfl rfl rfl ?_
                                refine q_imul (t := 155) F dX9_copy_154 rfl ?_
                                refine q_iload (t := 157) F dX9_copy_155 rfl rfl ?_
                                refine q_iadd (t := 158) F dX9_copy_157 rfl ?_
                                refine q_iload (t := 160) F dX9_copy_158 rfl rfl ?_
                                refine q_iadd (t := 161) F dX9_copy_160 rfl ?_
                                first | rw [show (40 : Int) * (b : Int) + (j : Int) + ((n - 1 - m : Nat) : Int) = ((40 * b + j + (n - 1 - m) : Nat) : Int) by omega] | rw [show (40 : Int) * (b : Int) + (j : Int) + (m : Int) = ((40 * b + j + m : Nat) : Int) by omega]
                                refine q_aload_n (t := 162) F dX9_copy_161 rfl rfl rfl ?_
                                refine g_X9_78 (t := 165) F dX9_copy_162 rfl rfl ?_
                                refine q_bipush (t := 167) F dX9_copy_165 (by decide) rfl ?_
                                refine q_iload_n (t := 168) F dX9_copy_167 rfl rfl rfl ?_
                                refine q_imul (t := 169) F dX9_copy_168 rfl ?_
                                refine q_iload_n (t := 170) F dX9_copy_169 rfl rfl rfl ?_
                                refine q_iadd (t := 171) F dX9_copy_170 rfl ?_
                                refine q_iload (t := 173) F dX9_copy_171 rfl rfl ?_
                                refine q_iadd (t := 174) F dX9_copy_173 rfl ?_
                                first | rw [show (40 : Int) * (a : Int) + (i : Int) + ((n - 1 - m : Nat) : Int) = ((40 * a + i + (n - 1 - m) : Nat) : Int) by omega] | rw [show (40 : Int) * (a : Int) + (i : Int) + (m : Int) = ((40 * a + i + m : Nat) : Int) by omega]
                                first | refine ldN_50 (t := 175) F dX9_copy_174 (by omega) rfl ?_ | refine ld_50 (t := 175) F dX9_copy_174 (by omega) (by omega) rfl ?_
                                try simp only [up_app, row_app, scr_app, cpy_app, Nat.reduceEqDiff, Int.reduceToNat, Int.toNat_natCast, and_true, true_and, and_false, false_and, and_self, reduceIte]
                                first | refine stN_50 (t := 176) F dX9_copy_175 (by omega) rfl ?_ | refine st_50 (t := 176) F dX9_copy_175 (by omega) (by omega) rfl ?_
                                refine q_iinc (t := 179) F dX9_copy_176 rfl (by decide) rfl rfl ?_
                                refine q_goto (t := 121) F dX9_copy_179 (by decide) ?_
                                refine wp_less 8 ?_
                                rw [show (m : Int) + 1 = ((m + 1 : Nat) : Int) by omega]
                                have h9 := ih121 u (m + 1) (by omega) ⟨by omega, hu⟩
                                unfold cpM at h9 ⊢
                                first
                                  | (rw [if_pos (by omega)] at h9 ⊢
                                     rw [show n - m = n - 1 - m + 1 by omega, show n - (m + 1) = n - 1 - m by omega] at *
                                     have e := cpy_hi im (k := 50) (sp := 40 * a + i + (n - 1 - m)) (dp := 40 * b + j + (n - 1 - m)) (n := m) (by omega)
                                     rw [← e] at h9
                                     exact h9)
                                  | (rw [if_neg (by omega)] at h9 ⊢
                                     have e := cpy_lo im (k := 50) (sp := 40 * a + i) (dp := 40 * b + j) (n := m) (by omega)
                                     rw [← e] at h9
                                     exact h9)
                                  | omega
                              · refine q_iload (t := 135) F dX9_copy_133 rfl rfl ?_
                                refine q_iconst (t := 136) F dX9_copy_135 rfl ?_
                                refine q_isub (t := 137) F dX9_copy_136 rfl ?_
                                refine q_iload (t := 139) F dX9_copy_137 rfl rfl ?_
                                refine q_isub (t := 140) F dX9_copy_139 rfl ?_
                                refine q_goto (t := 145) F dX9_copy_140 (by decide) ?_
                                first | rw [show (n : Int) - 1 - (m : Int) = ((n - 1 - m : Nat) : Int) by omega] | skip
                                refine q_istore (t := 147) F dX9_copy_145 (by decide) rfl rfl ?_
                                refine q_aload_n (t := 148) F dX9_copy_147 rfl rfl rfl ?_
                                refine g_X9_78 (t := 151) F dX9_copy_148 rfl rfl ?_
                                refine q_bipush (t := 153) F dX9_copy_151 (by decide) rfl ?_
                                refine q_iload_n (t := 154) F dX9_copy_153 rfl rfl rfl ?_
                                refine q_imul (t := 155) F dX9_copy_154 rfl ?_
                                refine q_iload (t := 157) F dX9_copy_155 rfl rfl ?_
                                refine q_iadd (t := 158) F dX9_copy_157 rfl ?_
                                refine q_iload (t := 160) F dX9_copy_158 rfl rfl ?_
                                refine q_iadd (t := 161) F dX9_copy_160 rfl ?_
                                first | rw [show (40 : Int) * (b : Int) + (j : Int) + ((n - 1 - m : Nat) : Int) = ((40 * b + j + (n - 1 - m) : Nat) : Int) by omega] | rw [show (40 : Int) * (b : Int) + (j : Int) + (m : Int) = ((40 * b + j + m : Nat) : Int) by omega]
                                refine q_aload_n (t := 162) F dX9_copy_161 rfl rfl rfl ?_
                                refine g_X9_78 (t := 165) F dX9_copy_162 rfl rfl ?_
                                refine q_bipush (t := 167) F dX9_copy_165 (by decide) rfl ?_
                                refine q_iload_n (t := 168) F dX9_copy_167 rfl rfl rfl ?_
                                refine q_imul (t := 169) F dX9_copy_168 rfl ?_
                                refine q_iload_n (t := 170) F dX9_copy_169 rfl rfl rfl ?_
                                refine q_iadd (t := 171) F dX9_copy_170 rfl ?_
                                refine q_iload (t := 173) F dX9_copy_171 rfl rfl ?_
                                refine q_iadd (t := 174) F dX9_copy_173 rfl ?_
                                first | rw [show (40 : Int) * (a : Int) + (i : Int) + ((n - 1 - m : Nat) : Int) = ((40 * a + i + (n - 1 - m) : Nat) : Int) by omega] | rw [show (40 : Int) * (a : Int) + (i : Int) + (m : Int) = ((40 * a + i + m : Nat) : Int) by omega]
                                first | refine ldN_50 (t := 175) F dX9_copy_174 (by omega) rfl ?_ | refine ld_50 (t := 175) F dX9_copy_174 (by omega) (by omega) rfl ?_
                                try simp only [up_app, row_app, scr_app, cpy_app, Nat.reduceEqDiff, Int.reduceToNat, Int.toNat_natCast, and_true, true_and, and_false, false_and, and_self, reduceIte]
                                first | refine stN_50 (t := 176) F dX9_copy_175 (by omega) rfl ?_ | refine st_50 (t := 176) F dX9_copy_175 (by omega) (by omega) rfl ?_
                                refine q_iinc (t := 179) F dX9_copy_176 rfl (by decide) rfl rfl ?_
                                refine q_goto (t := 121) F dX9_copy_179 (by decide) ?_
                                refine wp_less 8 ?_
                                rw [show (m : Int) + 1 = ((m + 1 : Nat) : Int) by omega]
                                have h9 := ih121 u (m + 1) (by omega) ⟨by omega, hu⟩
                                unfold cpM at h9 ⊢
                                first
                                  | (rw [if_pos (by omega)] at h9 ⊢
                                     rw [show n - m = n - 1 - m + 1 by omega, show n - (m + 1) = n - 1 - m by omega] at *
                                     have e := cpy_hi im (k := 50) (sp := 40 * a + i + (n - 1 - m)) (dp := 40 * b + j + (n - 1 - m)) (n := m) (by omega)
                                     rw [← e] at h9
                                     exact h9)
                                  | (rw [if_neg (by omega)] at h9 ⊢
                                     have e := cpy_lo im (k := 50) (sp := 40 * a + i) (dp := 40 * b + j) (n := m) (by omega)
                                     rw [← e] at h9
                                     exact h9)
                                  | omega
                        first
                          | (have L0 := L121 _ 1 0 (Nat.lt_succ_self _) ⟨by omega, by omega⟩
                             unfold cpM at L0
                             rw [if_pos rfl, cpy_n0] at L0
                             exact L0)
                          | (have L0 := L121 _ 0 0 (Nat.lt_succ_self _) ⟨by omega, by omega⟩
                             unfold cpM at L0
                             rw [if_neg (by omega), cpy_n0] at L0
                             exact L0)
                          | omega
                      · refine q_iload_n (t := 106) F dX9_copy_105 rfl rfl rfl ?_
                        refine q_iload (t := 108) F dX9_copy_106 rfl rfl ?_
                        refine q_icmp_ge (t := 111) (u := 115) F dX9_copy_108 (by constructor <;> omega) (by constructor <;> omega) (by decide) rfl (fun c108 => ?_) (fun c108 => ?_)
                        · refine q_iconst (t := 116) F dX9_copy_115 rfl ?_
                          refine q_istore (t := 118) F dX9_copy_116 (by decide) rfl rfl ?_
                          refine q_iconst (t := 119) F dX9_copy_118 rfl ?_
                          refine q_istore (t := 121) F dX9_copy_119 (by decide) rfl rfl ?_
                          have L121 : ∀ (fz : Nat) (u : Int) (m : Nat), 41 - m < fz → (m ≤ n ∧ (u = 1 ∧ a = b ∧ i < j ∨ u = 0 ∧ ¬ (a = b ∧ i < j))) → Wp M (XR G) ad Y_X9_copy (pI fun x m' => (¬ (((0 : Int) ≤ a ∧ (a : Int) ≤ 3) ∧ (0 : Int) ≤ b ∧ (b : Int) ≤ 3) → x = -2 ∧ m' = (im, rs bt rt, lm)) ∧ ((((0 : Int) ≤ a ∧ (a : Int) ≤ 3) ∧ (0 : Int) ≤ b ∧ (b : Int) ≤ 3) → (im 47 0 (Int.toNat a) = 0 ∨ im 47 0 (Int.toNat b) = 0 → x = -11 ∧ m' = (im, rs bt rt, lm)) ∧ (im 47 0 (Int.toNat a) = 1 → im 47 0 (Int.toNat b) = 1 → (im 48 0 (Int.toNat a) ≠ im 48 0 (Int.toNat b) → x = -13 ∧ m' = (im, rs bt rt, lm)) ∧ (im 48 0 (Int.toNat a) = im 48 0 (Int.toNat b) → (¬ (((0 : Int) ≤ i ∧ (0 : Int) ≤ n ∧ (i : Int) + (n : Int) ≤ im 49 0 (Int.toNat a)) ∧ (0 : Int) ≤ j ∧ (0 : Int) ≤ n ∧ (j : Int) + (n : Int) ≤ im 49 0 (Int.toNat b)) → x = -12 ∧ m' = (im, rs bt rt, lm)) ∧ ((((0 : Int) ≤ i ∧ (0 : Int) ≤ n ∧ (i : Int) + (n : Int) ≤ im 49 0 (Int.toNat a)) ∧ (0 : Int) ≤ j ∧ (0 : Int) ≤ n ∧ (j : Int) + (n : Int) ≤ im 49 0 (Int.toNat b)) → x = n ∧ m' = (cpy im 50 0 (40 * (Int.toNat a) + (Int.toNat i)) 50 0 (40 * (Int.toNat b) + (Int.toNat j)) (Int.toNat n), rs bt rt, lm)))))) 121 [some (vR 30 0), some (vI (a : Int)), some (vI (i : Int)), some (vI (b : Int)), some (vI (j : Int)), some (vI (n : Int)), some (vI u), some (vI (m : Int)), none] [] (cpM im u (40 * a + i) (40 * b + j) n m, rs bt rt, lm) := by
                            intro fz
                            induction fz with
                            | zero => intro u m h; exact absurd h (Nat.not_lt_zero _)
                            | succ fz ih =>
                              have ih121 := ih
                              intro u m hmeas ⟨hm, hu⟩
                              refine q_iload (t := 123) F dX9_copy_121 rfl rfl ?_
                              refine q_iload (t := 125) F dX9_copy_123 rfl rfl ?_
                              refine q_icmp_ge (t := 128) (u := 182) F dX9_copy_125 (by constructor <;> omega) (by constructor <;> omega) (by decide) rfl (fun c125 => ?_) (fun c125 => ?_)
                              · refine q_iload (t := 184) F dX9_copy_182 rfl rfl ?_
                                refine q_iret F dX9_copy_184 rfl ?_
                                try simp only [Int.toNat_natCast]
                                first
                                  | exact ⟨_, rfl, fun _ => ⟨rfl, rfl⟩, fun z => absurd z (by omega)⟩
                                  | exact ⟨_, rfl, fun z => absurd (by omega) z, fun _ => ⟨fun _ => ⟨rfl, rfl⟩, fun z1 z2 => by omega⟩⟩
                                  | exact ⟨_, rfl, fun z => absurd (by omega) z, fun _ => ⟨fun z => by omega, fun _ _ => ⟨fun _ => ⟨rfl, rfl⟩, fun z => absurd z (by omega)⟩⟩⟩
                                  | exact ⟨_, rfl, fun z => absurd (by omega) z, fun _ => ⟨fun z => by omega, fun _ _ => ⟨fun z => absurd (by omega) z, fun _ => ⟨fun _ => ⟨rfl, rfl⟩, fun z => by omega⟩⟩⟩⟩
                                  | (obtain rfl : m = n := by omega
                                     refine ⟨_, rfl, fun z => absurd (by omega) z, fun _ => ⟨fun z => by omega, fun _ _ => ⟨fun z => absurd (by omega) z, fun _ => ⟨fun z => absurd (by omega) z, fun _ => ⟨rfl, ?_⟩⟩⟩⟩⟩
                                     unfold cpM
                                     split
                                     · rw [Nat.sub_self]
                                       rfl
                                     · rfl)
                                  | omega
                              · refine q_iload (t := 130) F dX9_copy_128 rfl rfl ?_
                                refine q_if_eq (t := 133) (u := 143) F dX9_copy_130 (by constructor <;> omega) (by decide) rfl (fun c130 => ?_) (fun c130 => ?_)
                                · refine q_iload (t := 145) F dX9_copy_143 rfl rfl ?_
                                  first | rw [show (n : Int) - 1 - (m : Int) = ((n - 1 - m : Nat) : Int) by omega] | skip
                                  refine q_istore (t := 147) F dX9_copy_145 (by decide) rfl rfl ?_
                                  refine q_aload_n (t := 148) F dX9_copy_147 rfl rfl rfl ?_
                                  refine g_X9_78 (t := 151) F dX9_copy_148 rfl rfl ?_
                                  refine q_bipush (t := 153) F dX9_copy_151 (by decide) rfl ?_
                                  refine q_iload_n (t := 154) F dX9_copy_153 rfl rfl rfl ?_
                                  refine q_imul (t := 155) F dX9_copy_154 rfl ?_
                                  refine q_iload (t := 157) F dX9_copy_155 rfl rfl ?_
                                  refine q_iadd (t := 158) F dX9_copy_157 rfl ?_
                                  refine q_iload (t := 160) F dX9_copy_158 rfl rfl ?_
                                  refine q_iadd (t := 161) F dX9_copy_160 rfl ?_
                                  first | rw [show (40 : Int) * (b : Int) + (j : Int) + ((n - 1 - m : Nat) : Int) = ((40 * b + j + (n - 1 - m) : Nat) : Int) by omega] | rw [show (40 : Int) * (b : Int) + (j : Int) + (m : Int) = ((40 * b + j + m : Nat) : Int) by omega]
                                  refine q_aload_n (t := 162) F dX9_copy_161 rfl rfl rfl ?_
                                  refine g_X9_78 (t := 165) F dX9_copy_162 rfl rfl ?_
                                  refine q_bipush (t := 167) F dX9_copy_165 (by decide) rfl ?_
                                  refine q_iload_n (t := 168) F dX9_copy_167 rfl rfl rfl ?_
                                  refine q_imul (t := 169) F dX9_copy_168 rfl ?_
                                  refine q_iload_n (t := 170) F dX9_copy_169 rfl rfl rfl ?_
                                  refine q_iadd (t := 171) F dX9_copy_170 rfl ?_
                                  refine q_iload (t := 173) F dX9_copy_171 rfl rfl ?_
                                  refine q_iadd (t := 174) F dX9_copy_173 rfl ?_
                                  first | rw [show (40 : Int) * (a : Int) + (i : Int) + ((n - 1 - m : Nat) : Int) = ((40 * a + i + (n - 1 - m) : Nat) : Int) by omega] | rw [show (40 : Int) * (a : Int) + (i : Int) + (m : Int) = ((40 * a + i + m : Nat) : Int) by omega]
                                  first | refine ldN_50 (t := 175) F dX9_copy_174 (by omega) rfl ?_ | refine ld_50 (t := 175) F dX9_copy_174 (by omega) (by omega) rfl ?_
                                  try simp only [up_app, row_app, scr_app, cpy_app, Nat.reduceEqDiff, Int.reduceToNat, Int.toNat_natCast, and_true, true_and, and_false, false_and, and_self, reduceIte]
                                  first | refine stN_50 (t := 176) F dX9_copy_175 (by omega) rfl ?_ | refine st_50 (t := 176) F dX9_copy_175 (by omega) (by omega) rfl ?_
                                  refine q_iinc (t := 179) F dX9_copy_176 rfl (by decide) rfl rfl ?_
                                  refine q_goto (t := 121) F dX9_copy_179 (by decide) ?_
                                  refine wp_less 8 ?_
                                  rw [show (m : Int) + 1 = ((m + 1 : Nat) : Int) by omega]
                                  have h9 := ih121 u (m + 1) (by omega) ⟨by omega, hu⟩
                                  unfold cpM at h9 ⊢
                                  first
                                    | (rw [if_pos (by omega)] at h9 ⊢
                                       rw [show n - m = n - 1 - m + 1 by omega, show n - (m + 1) = n - 1 - m by omega] at *
                                       have e := cpy_hi im (k := 50) (sp := 40 * a + i + (n - 1 - m)) (dp := 40 * b + j + (n - 1 - m)) (n := m) (by omega)
                                       rw [← e] at h9
                                       exact h9)
                                    | (rw [if_neg (by omega)] at h9 ⊢
                                       have e := cpy_lo im (k := 50) (sp := 40 * a + i) (dp := 40 * b + j) (n := m) (by omega)
                                       rw [← e] at h9
                                       exact h9)
                                    | omega
                                · refine q_iload (t := 135) F dX9_copy_133 rfl rfl ?_
                                  refine q_iconst (t := 136) F dX9_copy_135 rfl ?_
                                  refine q_isub (t := 137) F dX9_copy_136 rfl ?_
                                  refine q_iload (t := 139) F dX9_copy_137 rfl rfl ?_
                                  refine q_isub (t := 140) F dX9_copy_139 rfl ?_
                                  refine q_goto (t := 145) F dX9_copy_140 (by decide) ?_
                                  first | rw [show (n : Int) - 1 - (m : Int) = ((n - 1 - m : Nat) : Int) by omega] | skip
                                  refine q_istore (t := 147) F dX9_copy_145 (by decide) rfl rfl ?_
                                  refine q_aload_n (t := 148) F dX9_copy_147 rfl rfl rfl ?_
                                  refine g_X9_78 (t := 151) F dX9_copy_148 rfl rfl ?_
                                  refine q_bipush (t := 153) F dX9_copy_151 (by decide) rfl ?_
                                  refine q_iload_n (t := 154) F dX9_copy_153 rfl rfl rfl ?_
                                  refine q_imul (t := 155) F dX9_copy_154 rfl ?_
                                  refine q_iload (t := 157) F dX9_copy_155 rfl rfl ?_
                                  refine q_iadd (t := 158) F dX9_copy_157 rfl ?_
                                  refine q_iload (t := 160) F dX9_copy_158 rfl rfl ?_
                                  refine q_iadd (t := 161) F dX9_copy_160 rfl ?_
                                  first | rw [show (40 : Int) * (b : Int) + (j : Int) + ((n - 1 - m : Nat) : Int) = ((40 * b + j + (n - 1 - m) : Nat) : Int) by omega] | rw [show (40 : Int) * (b : Int) + (j : Int) + (m : Int) = ((40 * b + j + m : Nat) : Int) by omega]
                                  refine q_aload_n (t := 162) F dX9_copy_161 rfl rfl rfl ?_
                                  refine g_X9_78 (t := 165) F dX9_copy_162 rfl rfl ?_
                                  refine q_bipush (t := 167) F dX9_copy_165 (by decide) rfl ?_
                                  refine q_iload_n (t := 168) F dX9_copy_167 rfl rfl rfl ?_
                                  refine q_imul (t := 169) F dX9_copy_168 rfl ?_
                                  refine q_iload_n (t := 170) F dX9_copy_169 rfl rfl rfl ?_
                                  refine q_iadd (t := 171) F dX9_copy_170 rfl ?_
                                  refine q_iload (t := 173) F dX9_copy_171 rfl rfl ?_
                                  refine q_iadd (t := 174) F dX9_copy_173 rfl ?_
                                  first | rw [show (40 : Int) * (a : Int) + (i : Int) + ((n - 1 - m : Nat) : Int) = ((40 * a + i + (n - 1 - m) : Nat) : Int) by omega] | rw [show (40 : Int) * (a : Int) + (i : Int) + (m : Int) = ((40 * a + i + m : Nat) : Int) by omega]
                                  first | refine ldN_50 (t := 175) F dX9_copy_174 (by omega) rfl ?_ | refine ld_50 (t := 175) F dX9_copy_174 (by omega) (by omega) rfl ?_
                                  try simp only [up_app, row_app, scr_app, cpy_app, Nat.reduceEqDiff, Int.reduceToNat, Int.toNat_natCast, and_true, true_and, and_false, false_and, and_self, reduceIte]
                                  first | refine stN_50 (t := 176) F dX9_copy_175 (by omega) rfl ?_ | refine st_50 (t := 176) F dX9_copy_175 (by omega) (by omega) rfl ?_
                                  refine q_iinc (t := 179) F dX9_copy_176 rfl (by decide) rfl rfl ?_
                                  refine q_goto (t := 121) F dX9_copy_179 (by decide) ?_
                                  refine wp_less 8 ?_
                                  rw [show (m : Int) + 1 = ((m + 1 : Nat) : Int) by omega]
                                  have h9 := ih121 u (m + 1) (by omega) ⟨by omega, hu⟩
                                  unfold cpM at h9 ⊢
                                  first
                                    | (rw [if_pos (by omega)] at h9 ⊢
                                       rw [show n - m = n - 1 - m + 1 by omega, show n - (m + 1) = n - 1 - m by omega] at *
                                       have e := cpy_hi im (k := 50) (sp := 40 * a + i + (n - 1 - m)) (dp := 40 * b + j + (n - 1 - m)) (n := m) (by omega)
                                       rw [← e] at h9
                                       exact h9)
                                    | (rw [if_neg (by omega)] at h9 ⊢
                                       have e := cpy_lo im (k := 50) (sp := 40 * a + i) (dp := 40 * b + j) (n := m) (by omega)
                                       rw [← e] at h9
                                       exact h9)
                                    | omega
                          first
                            | (have L0 := L121 _ 1 0 (Nat.lt_succ_self _) ⟨by omega, by omega⟩
                               unfold cpM at L0
                               rw [if_pos rfl, cpy_n0] at L0
                               exact L0)
                            | (have L0 := L121 _ 0 0 (Nat.lt_succ_self _) ⟨by omega, by omega⟩
                               unfold cpM at L0
                               rw [if_neg (by omega), cpy_n0] at L0
                               exact L0)
                            | omega
                        · refine q_iconst (t := 112) F dX9_copy_111 rfl ?_
                          refine q_goto (t := 116) F dX9_copy_112 (by decide) ?_
                          refine q_istore (t := 118) F dX9_copy_116 (by decide) rfl rfl ?_
                          refine q_iconst (t := 119) F dX9_copy_118 rfl ?_
                          refine q_istore (t := 121) F dX9_copy_119 (by decide) rfl rfl ?_
                          have L121 : ∀ (fz : Nat) (u : Int) (m : Nat), 41 - m < fz → (m ≤ n ∧ (u = 1 ∧ a = b ∧ i < j ∨ u = 0 ∧ ¬ (a = b ∧ i < j))) → Wp M (XR G) ad Y_X9_copy (pI fun x m' => (¬ (((0 : Int) ≤ a ∧ (a : Int) ≤ 3) ∧ (0 : Int) ≤ b ∧ (b : Int) ≤ 3) → x = -2 ∧ m' = (im, rs bt rt, lm)) ∧ ((((0 : Int) ≤ a ∧ (a : Int) ≤ 3) ∧ (0 : Int) ≤ b ∧ (b : Int) ≤ 3) → (im 47 0 (Int.toNat a) = 0 ∨ im 47 0 (Int.toNat b) = 0 → x = -11 ∧ m' = (im, rs bt rt, lm)) ∧ (im 47 0 (Int.toNat a) = 1 → im 47 0 (Int.toNat b) = 1 → (im 48 0 (Int.toNat a) ≠ im 48 0 (Int.toNat b) → x = -13 ∧ m' = (im, rs bt rt, lm)) ∧ (im 48 0 (Int.toNat a) = im 48 0 (Int.toNat b) → (¬ (((0 : Int) ≤ i ∧ (0 : Int) ≤ n ∧ (i : Int) + (n : Int) ≤ im 49 0 (Int.toNat a)) ∧ (0 : Int) ≤ j ∧ (0 : Int) ≤ n ∧ (j : Int) + (n : Int) ≤ im 49 0 (Int.toNat b)) → x = -12 ∧ m' = (im, rs bt rt, lm)) ∧ ((((0 : Int) ≤ i ∧ (0 : Int) ≤ n ∧ (i : Int) + (n : Int) ≤ im 49 0 (Int.toNat a)) ∧ (0 : Int) ≤ j ∧ (0 : Int) ≤ n ∧ (j : Int) + (n : Int) ≤ im 49 0 (Int.toNat b)) → x = n ∧ m' = (cpy im 50 0 (40 * (Int.toNat a) + (Int.toNat i)) 50 0 (40 * (Int.toNat b) + (Int.toNat j)) (Int.toNat n), rs bt rt, lm)))))) 121 [some (vR 30 0), some (vI (a : Int)), some (vI (i : Int)), some (vI (b : Int)), some (vI (j : Int)), some (vI (n : Int)), some (vI u), some (vI (m : Int)), none] [] (cpM im u (40 * a + i) (40 * b + j) n m, rs bt rt, lm) := by
                            intro fz
                            induction fz with
                            | zero => intro u m h; exact absurd h (Nat.not_lt_zero _)
                            | succ fz ih =>
                              have ih121 := ih
                              intro u m hmeas ⟨hm, hu⟩
                              refine q_iload (t := 123) F dX9_copy_121 rfl rfl ?_
                              refine q_iload (t := 125) F dX9_copy_123 rfl rfl ?_
                              refine q_icmp_ge (t := 128) (u := 182) F dX9_copy_125 (by constructor <;> omega) (by constructor <;> omega) (by decide) rfl (fun c125 => ?_) (fun c125 => ?_)
                              · refine q_iload (t := 184) F dX9_copy_182 rfl rfl ?_
                                refine q_iret F dX9_copy_184 rfl ?_
                                try simp only [Int.toNat_natCast]
                                first
                                  | exact ⟨_, rfl, fun _ => ⟨rfl, rfl⟩, fun z => absurd z (by omega)⟩
                                  | exact ⟨_, rfl, fun z => absurd (by omega) z, fun _ => ⟨fun _ => ⟨rfl, rfl⟩, fun z1 z2 => by omega⟩⟩
                                  | exact ⟨_, rfl, fun z => absurd (by omega) z, fun _ => ⟨fun z => by omega, fun _ _ => ⟨fun _ => ⟨rfl, rfl⟩, fun z => absurd z (by omega)⟩⟩⟩
                                  | exact ⟨_, rfl, fun z => absurd (by omega) z, fun _ => ⟨fun z => by omega, fun _ _ => ⟨fun z => absurd (by omega) z, fun _ => ⟨fun _ => ⟨rfl, rfl⟩, fun z => by omega⟩⟩⟩⟩
                                  | (obtain rfl : m = n := by omega
                                     refine ⟨_, rfl, fun z => absurd (by omega) z, fun _ => ⟨fun z => by omega, fun _ _ => ⟨fun z => absurd (by omega) z, fun _ => ⟨fun z => absurd (by omega) z, fun _ => ⟨rfl, ?_⟩⟩⟩⟩⟩
                                     unfold cpM
                                     split
                                     · rw [Nat.sub_self]
                                       rfl
                                     · rfl)
                                  | omega
                              · refine q_iload (t := 130) F dX9_copy_128 rfl rfl ?_
                                refine q_if_eq (t := 133) (u := 143) F dX9_copy_130 (by constructor <;> omega) (by decide) rfl (fun c130 => ?_) (fun c130 => ?_)
                                · refine q_iload (t := 145) F dX9_copy_143 rfl rfl ?_
                                  first | rw [show (n : Int) - 1 - (m : Int) = ((n - 1 - m : Nat) : Int) by omega] | skip
                                  refine q_istore (t := 147) F dX9_copy_145 (by decide) rfl rfl ?_
                                  refine q_aload_n (t := 148) F dX9_copy_147 rfl rfl rfl ?_
                                  refine g_X9_78 (t := 151) F dX9_copy_148 rfl rfl ?_
                                  refine q_bipush (t := 153) F dX9_copy_151 (by decide) rfl ?_
                                  refine q_iload_n (t := 154) F dX9_copy_153 rfl rfl rfl ?_
                                  refine q_imul (t := 155) F dX9_copy_154 rfl ?_
                                  refine q_iload (t := 157) F dX9_copy_155 rfl rfl ?_
                                  refine q_iadd (t := 158) F dX9_copy_157 rfl ?_
                                  refine q_iload (t := 160) F dX9_copy_158 rfl rfl ?_
                                  refine q_iadd (t := 161) F dX9_copy_160 rfl ?_
                                  first | rw [show (40 : Int) * (b : Int) + (j : Int) + ((n - 1 - m : Nat) : Int) = ((40 * b + j + (n - 1 - m) : Nat) : Int) by omega] | rw [show (40 : Int) * (b : Int) + (j : Int) + (m : Int) = ((40 * b + j + m : Nat) : Int) by omega]
                                  refine q_aload_n (t := 162) F dX9_copy_161 rfl rfl rfl ?_
                                  refine g_X9_78 (t := 165) F dX9_copy_162 rfl rfl ?_
                                  refine q_bipush (t := 167) F dX9_copy_165 (by decide) rfl ?_
                                  refine q_iload_n (t := 168) F dX9_copy_167 rfl rfl rfl ?_
                                  refine q_imul (t := 169) F dX9_copy_168 rfl ?_
                                  refine q_iload_n (t := 170) F dX9_copy_169 rfl rfl rfl ?_
                                  refine q_iadd (t := 171) F dX9_copy_170 rfl ?_
                                  refine q_iload (t := 173) F dX9_copy_171 rfl rfl ?_
                                  refine q_iadd (t := 174) F dX9_copy_173 rfl ?_
                                  first | rw [show (40 : Int) * (a : Int) + (i : Int) + ((n - 1 - m : Nat) : Int) = ((40 * a + i + (n - 1 - m) : Nat) : Int) by omega] | rw [show (40 : Int) * (a : Int) + (i : Int) + (m : Int) = ((40 * a + i + m : Nat) : Int) by omega]
                                  first | refine ldN_50 (t := 175) F dX9_copy_174 (by omega) rfl ?_ | refine ld_50 (t := 175) F dX9_copy_174 (by omega) (by omega) rfl ?_
                                  try simp only [up_app, row_app, scr_app, cpy_app, Nat.reduceEqDiff, Int.reduceToNat, Int.toNat_natCast, and_true, true_and, and_false, false_and, and_self, reduceIte]
                                  first | refine stN_50 (t := 176) F dX9_copy_175 (by omega) rfl ?_ | refine st_50 (t := 176) F dX9_copy_175 (by omega) (by omega) rfl ?_
                                  refine q_iinc (t := 179) F dX9_copy_176 rfl (by decide) rfl rfl ?_
                                  refine q_goto (t := 121) F dX9_copy_179 (by decide) ?_
                                  refine wp_less 8 ?_
                                  rw [show (m : Int) + 1 = ((m + 1 : Nat) : Int) by omega]
                                  have h9 := ih121 u (m + 1) (by omega) ⟨by omega, hu⟩
                                  unfold cpM at h9 ⊢
                                  first
                                    | (rw [if_pos (by omega)] at h9 ⊢
                                       rw [show n - m = n - 1 - m + 1 by omega, show n - (m + 1) = n - 1 - m by omega] at *
                                       have e := cpy_hi im (k := 50) (sp := 40 * a + i + (n - 1 - m)) (dp := 40 * b + j + (n - 1 - m)) (n := m) (by omega)
                                       rw [← e] at h9
                                       exact h9)
                                    | (rw [if_neg (by omega)] at h9 ⊢
                                       have e := cpy_lo im (k := 50) (sp := 40 * a + i) (dp := 40 * b + j) (n := m) (by omega)
                                       rw [← e] at h9
                                       exact h9)
                                    | omega
                                · refine q_iload (t := 135) F dX9_copy_133 rfl rfl ?_
                                  refine q_iconst (t := 136) F dX9_copy_135 rfl ?_
                                  refine q_isub (t := 137) F dX9_copy_136 rfl ?_
                                  refine q_iload (t := 139) F dX9_copy_137 rfl rfl ?_
                                  refine q_isub (t := 140) F dX9_copy_139 rfl ?_
                                  refine q_goto (t := 145) F dX9_copy_140 (by decide) ?_
                                  first | rw [show (n : Int) - 1 - (m : Int) = ((n - 1 - m : Nat) : Int) by omega] | skip
                                  refine q_istore (t := 147) F dX9_copy_145 (by decide) rfl rfl ?_
                                  refine q_aload_n (t := 148) F dX9_copy_147 rfl rfl rfl ?_
                                  refine g_X9_78 (t := 151) F dX9_copy_148 rfl rfl ?_
                                  refine q_bipush (t := 153) F dX9_copy_151 (by decide) rfl ?_
                                  refine q_iload_n (t := 154) F dX9_copy_153 rfl rfl rfl ?_
                                  refine q_imul (t := 155) F dX9_copy_154 rfl ?_
                                  refine q_iload (t := 157) F dX9_copy_155 rfl rfl ?_
                                  refine q_iadd (t := 158) F dX9_copy_157 rfl ?_
                                  refine q_iload (t := 160) F dX9_copy_158 rfl rfl ?_
                                  refine q_iadd (t := 161) F dX9_copy_160 rfl ?_
                                  first | rw [show (40 : Int) * (b : Int) + (j : Int) + ((n - 1 - m : Nat) : Int) = ((40 * b + j + (n - 1 - m) : Nat) : Int) by omega] | rw [show (40 : Int) * (b : Int) + (j : Int) + (m : Int) = ((40 * b + j + m : Nat) : Int) by omega]
                                  refine q_aload_n (t := 162) F dX9_copy_161 rfl rfl rfl ?_
                                  refine g_X9_78 (t := 165) F dX9_copy_162 rfl rfl ?_
                                  refine q_bipush (t := 167) F dX9_copy_165 (by decide) rfl ?_
                                  refine q_iload_n (t := 168) F dX9_copy_167 rfl rfl rfl ?_
                                  refine q_imul (t := 169) F dX9_copy_168 rfl ?_
                                  refine q_iload_n (t := 170) F dX9_copy_169 rfl rfl rfl ?_
                                  refine q_iadd (t := 171) F dX9_copy_170 rfl ?_
                                  refine q_iload (t := 173) F dX9_copy_171 rfl rfl ?_
                                  refine q_iadd (t := 174) F dX9_copy_173 rfl ?_
                                  first | rw [show (40 : Int) * (a : Int) + (i : Int) + ((n - 1 - m : Nat) : Int) = ((40 * a + i + (n - 1 - m) : Nat) : Int) by omega] | rw [show (40 : Int) * (a : Int) + (i : Int) + (m : Int) = ((40 * a + i + m : Nat) : Int) by omega]
                                  first | refine ldN_50 (t := 175) F dX9_copy_174 (by omega) rfl ?_ | refine ld_50 (t := 175) F dX9_copy_174 (by omega) (by omega) rfl ?_
                                  try simp only [up_app, row_app, scr_app, cpy_app, Nat.reduceEqDiff, Int.reduceToNat, Int.toNat_natCast, and_true, true_and, and_false, false_and, and_self, reduceIte]
                                  first | refine stN_50 (t := 176) F dX9_copy_175 (by omega) rfl ?_ | refine st_50 (t := 176) F dX9_copy_175 (by omega) (by omega) rfl ?_
                                  refine q_iinc (t := 179) F dX9_copy_176 rfl (by decide) rfl rfl ?_
                                  refine q_goto (t := 121) F dX9_copy_179 (by decide) ?_
                                  refine wp_less 8 ?_
                                  rw [show (m : Int) + 1 = ((m + 1 : Nat) : Int) by omega]
                                  have h9 := ih121 u (m + 1) (by omega) ⟨by omega, hu⟩
                                  unfold cpM at h9 ⊢
                                  first
                                    | (rw [if_pos (by omega)] at h9 ⊢
                                       rw [show n - m = n - 1 - m + 1 by omega, show n - (m + 1) = n - 1 - m by omega] at *
                                       have e := cpy_hi im (k := 50) (sp := 40 * a + i + (n - 1 - m)) (dp := 40 * b + j + (n - 1 - m)) (n := m) (by omega)
                                       rw [← e] at h9
                                       exact h9)
                                    | (rw [if_neg (by omega)] at h9 ⊢
                                       have e := cpy_lo im (k := 50) (sp := 40 * a + i) (dp := 40 * b + j) (n := m) (by omega)
                                       rw [← e] at h9
                                       exact h9)
                                    | omega
                          first
                            | (have L0 := L121 _ 1 0 (Nat.lt_succ_self _) ⟨by omega, by omega⟩
                               unfold cpM at L0
                               rw [if_pos rfl, cpy_n0] at L0
                               exact L0)
                            | (have L0 := L121 _ 0 0 (Nat.lt_succ_self _) ⟨by omega, by omega⟩
                               unfold cpM at L0
                               rw [if_neg (by omega), cpy_n0] at L0
                               exact L0)
                            | omega
                    · refine q_bipush (t := 99) F dX9_copy_97 (by decide) rfl ?_
                      refine q_iret F dX9_copy_99 rfl ?_
                      try simp only [Int.toNat_natCast]
                      first
                        | exact ⟨_, rfl, fun _ => ⟨rfl, rfl⟩, fun z => absurd z (by omega)⟩
                        | exact ⟨_, rfl, fun z => absurd (by omega) z, fun _ => ⟨fun _ => ⟨rfl, rfl⟩, fun z1 z2 => by omega⟩⟩
                        | exact ⟨_, rfl, fun z => absurd (by omega) z, fun _ => ⟨fun z => by omega, fun _ _ => ⟨fun _ => ⟨rfl, rfl⟩, fun z => absurd z (by omega)⟩⟩⟩
                        | exact ⟨_, rfl, fun z => absurd (by omega) z, fun _ => ⟨fun z => by omega, fun _ _ => ⟨fun z => absurd (by omega) z, fun _ => ⟨fun _ => ⟨rfl, rfl⟩, fun z => by omega⟩⟩⟩⟩
                        | (obtain rfl : m = n := by omega
                           refine ⟨_, rfl, fun z => absurd (by omega) z, fun _ => ⟨fun z => by omega, fun _ _ => ⟨fun z => absurd (by omega) z, fun _ => ⟨fun z => absurd (by omega) z, fun _ => ⟨rfl, ?_⟩⟩⟩⟩⟩
                           unfold cpM
                           split
                           · rw [Nat.sub_self]
                             rfl
                           · rfl)
                        | omega
          · refine q_bipush (t := 55) F dX9_copy_53 (by decide) rfl ?_
            refine q_iret F dX9_copy_55 rfl ?_
            try simp only [Int.toNat_natCast]
            first
              | exact ⟨_, rfl, fun _ => ⟨rfl, rfl⟩, fun z => absurd z (by omega)⟩
              | exact ⟨_, rfl, fun z => absurd (by omega) z, fun _ => ⟨fun _ => ⟨rfl, rfl⟩, fun z1 z2 => by omega⟩⟩
              | exact ⟨_, rfl, fun z => absurd (by omega) z, fun _ => ⟨fun z => by omega, fun _ _ => ⟨fun _ => ⟨rfl, rfl⟩, fun z => absurd z (by omega)⟩⟩⟩
              | exact ⟨_, rfl, fun z => absurd (by omega) z, fun _ => ⟨fun z => by omega, fun _ _ => ⟨fun z => absurd (by omega) z, fun _ => ⟨fun _ => ⟨rfl, rfl⟩, fun z => by omega⟩⟩⟩⟩
              | (obtain rfl : m = n := by omega
                 refine ⟨_, rfl, fun z => absurd (by omega) z, fun _ => ⟨fun z => by omega, fun _ _ => ⟨fun z => absurd (by omega) z, fun _ => ⟨fun z => absurd (by omega) z, fun _ => ⟨rfl, ?_⟩⟩⟩⟩⟩
                 unfold cpM
                 split
                 · rw [Nat.sub_self]
                   rfl
                 · rfl)
              | omega
        · refine q_bipush (t := 37) F dX9_copy_35 (by decide) rfl ?_
          refine q_iret F dX9_copy_37 rfl ?_
          try simp only [Int.toNat_natCast]
          first
            | exact ⟨_, rfl, fun _ => ⟨rfl, rfl⟩, fun z => absurd z (by omega)⟩
            | exact ⟨_, rfl, fun z => absurd (by omega) z, fun _ => ⟨fun _ => ⟨rfl, rfl⟩, fun z1 z2 => by omega⟩⟩
            | exact ⟨_, rfl, fun z => absurd (by omega) z, fun _ => ⟨fun z => by omega, fun _ _ => ⟨fun _ => ⟨rfl, rfl⟩, fun z => absurd z (by omega)⟩⟩⟩
            | exact ⟨_, rfl, fun z => absurd (by omega) z, fun _ => ⟨fun z => by omega, fun _ _ => ⟨fun z => absurd (by omega) z, fun _ => ⟨fun _ => ⟨rfl, rfl⟩, fun z => by omega⟩⟩⟩⟩
            | (obtain rfl : m = n := by omega
               refine ⟨_, rfl, fun z => absurd (by omega) z, fun _ => ⟨fun z => by omega, fun _ _ => ⟨fun z => absurd (by omega) z, fun _ => ⟨fun z => absurd (by omega) z, fun _ => ⟨rfl, ?_⟩⟩⟩⟩⟩
               unfold cpM
               split
               · rw [Nat.sub_self]
                 rfl
               · rfl)
            | omega
    · refine q_bipush (t := 16) F dX9_copy_14 (by decide) rfl ?_
      refine q_iret F dX9_copy_16 rfl ?_
      try simp only [Int.toNat_natCast]
      first
        | exact ⟨_, rfl, fun _ => ⟨rfl, rfl⟩, fun z => absurd z (by omega)⟩
        | exact ⟨_, rfl, fun z => absurd (by omega) z, fun _ => ⟨fun _ => ⟨rfl, rfl⟩, fun z1 z2 => by omega⟩⟩
        | exact ⟨_, rfl, fun z => absurd (by omega) z, fun _ => ⟨fun z => by omega, fun _ _ => ⟨fun _ => ⟨rfl, rfl⟩, fun z => absurd z (by omega)⟩⟩⟩
        | exact ⟨_, rfl, fun z => absurd (by omega) z, fun _ => ⟨fun z => by omega, fun _ _ => ⟨fun z => absurd (by omega) z, fun _ => ⟨fun _ => ⟨rfl, rfl⟩, fun z => by omega⟩⟩⟩⟩
        | (obtain rfl : m = n := by omega
           refine ⟨_, rfl, fun z => absurd (by omega) z, fun _ => ⟨fun z => by omega, fun _ _ => ⟨fun z => absurd (by omega) z, fun _ => ⟨fun z => absurd (by omega) z, fun _ => ⟨rfl, ?_⟩⟩⟩⟩⟩
           unfold cpM
           split
           · rw [Nat.sub_self]
             rfl
           · rfl)
        | omega
end
section
/-! the reference: people, taken, film -/

def mnA (im : IM) (a c : Int) : Int := if (0 ≤ a ∧ a ≤ 5) ∧ (0 ≤ c ∧ c ≤ 9) then (if im 30 0 12 = 5 then -4 else im 30 0 12) else -2
def mnI (im : IM) (a c : Int) : IM := if ((0 ≤ a ∧ a ≤ 5) ∧ (0 ≤ c ∧ c ≤ 9)) ∧ im 30 0 12 ≠ 5 then up (fiR (up (up im 34 0 (im 30 0 12).toNat a) 35 0 (im 30 0 12).toNat c) (10 * (im 30 0 12).toNat) 10 (-1)) 30 0 12 (im 30 0 12 + 1) else im
theorem RC_mn {im : IM} (h : RC im) (a c : Int) : RC (mnI im a c) := by
  unfold mnI
  split
  · rename_i z
    exact RC_man h z.1.1 z.1.2 z.2
  · exact h
theorem mnI_o (im : IM) (a c : Int) {k s : Nat} (hk : ¬ (k = 30 ∧ s = 12)) (h : ¬ (34 ≤ k ∧ k ≤ 36)) : mnI im a c k 0 s = im k 0 s := by
  unfold mnI
  split
  · rw [up_app, if_neg (by omega)]
    unfold fiR
    rw [if_neg (by omega), up_app, if_neg (by omega), up_app, if_neg (by omega)]
  · rfl
theorem c_manR (l : Launch) (G : GS) (im : IM) (bt rt : Nat) (lm : IM) (h : RC im) (a c : Int) (ha : ri a) (hc : ri c) : Cn l (XR G) yX9_man Y_X9_man [vR 30 0, vI a, vI c] (im, rs bt rt, lm) (pI fun x m' => x = mnA im a c ∧ m' = (mnI im a c, rs bt rt, lm)) := by
  refine (c_X9_man l G im bt rt lm h a c ha hc).mono ?_
  rintro r m' ⟨x, hr, h1, h2, h3⟩
  refine ⟨x, hr, ?_⟩
  unfold mnA mnI
  by_cases v : (0 ≤ a ∧ a ≤ 5) ∧ (0 ≤ c ∧ c ≤ 9)
  · by_cases f : im 30 0 12 = 5
    · have e := h2 v f
      rw [if_pos v, if_pos f, if_neg (fun z => z.2 f)]
      exact e
    · have e := h3 v f
      rw [if_pos v, if_neg f, if_pos ⟨v, f⟩]
      exact e
  · have e := h1 v
    rw [if_neg v, if_neg (fun z => v z.1)]
    exact e
theorem mnA_in {im : IM} (h : RC im) (a c : Int) : -4 ≤ mnA im a c ∧ mnA im a c ≤ 5 := by
  have h12 := h.2.2.2.1
  unfold mnA
  (repeat' split) <;> omega
def pplR (s : Nat) (fr : Int) : Nat → Nat → Int → IM → Int × IM
  | 0, _, c, im => (c, im)
  | f + 1, k, c, im => if 0 ≤ fr ∧ fr + 2 * k + 2 ≤ im 49 0 s then pplR s fr f (k + 1) (if 0 ≤ mnA im (im 50 0 (40 * s + fr.toNat + 2 * k)) (im 50 0 (40 * s + fr.toNat + 2 * k + 1)) then c + 1 else c) (mnI im (im 50 0 (40 * s + fr.toNat + 2 * k)) (im 50 0 (40 * s + fr.toNat + 2 * k + 1))) else (-12, im)
theorem pplR_s (s : Nat) (fr : Int) (f k : Nat) (c : Int) (im : IM) : pplR s fr (f + 1) k c im = if 0 ≤ fr ∧ fr + 2 * k + 2 ≤ im 49 0 s then pplR s fr f (k + 1) (if 0 ≤ mnA im (im 50 0 (40 * s + fr.toNat + 2 * k)) (im 50 0 (40 * s + fr.toNat + 2 * k + 1)) then c + 1 else c) (mnI im (im 50 0 (40 * s + fr.toNat + 2 * k)) (im 50 0 (40 * s + fr.toNat + 2 * k + 1))) else (-12, im) := rfl

set_option maxHeartbeats 4000000 in
theorem c_X9_people (l : Launch) (G : GS) (im : IM) (bt rt : Nat) (lm : IM) (h : RC im) (hSH : SH im) (s sort fr n : Int) (hs : ri s) (hsort : ri sort) (hfr : ri fr) (hn : ri n) : Cn l (XR G) yX9_people Y_X9_people [vR 30 0, vI s, vI sort, vI fr, vI n] (im, rs bt rt, lm) (pI fun x m' => (¬ (((0 : Int) ≤ s ∧ (s : Int) ≤ 3) ∧ (0 ≤ sort ∧ sort ≤ 2) ∧ (0 : Int) ≤ n ∧ (n : Int) ≤ 5) → x = -2 ∧ m' = (im, rs bt rt, lm)) ∧ ((((0 : Int) ≤ s ∧ (s : Int) ≤ 3) ∧ (0 ≤ sort ∧ sort ≤ 2) ∧ (0 : Int) ≤ n ∧ (n : Int) ≤ 5) → (im 47 0 (Int.toNat s) = 0 → x = -11 ∧ m' = (im, rs bt rt, lm)) ∧ (im 47 0 (Int.toNat s) = 1 → (im 48 0 (Int.toNat s) ≠ sort → x = -13 ∧ m' = (im, rs bt rt, lm)) ∧ (im 48 0 (Int.toNat s) = sort → x = (pplR (Int.toNat s) fr (Int.toNat n) 0 0 im).1 ∧ m' = ((pplR (Int.toNat s) fr (Int.toNat n) 0 0 im).2, rs bt rt, lm))))) := by
  refine cn_of (by decide) (okR G) rfl (Nat.le_of_ble_eq_true rfl) ?_
  intro M ad hMl F
  subst hMl
  have hR := h.1
  have s1 := hs.1
  have s2 := hs.2
  have sort1 := hsort.1
  have sort2 := hsort.2
  have fr1 := hfr.1
  have fr2 := hfr.2
  have n1 := hn.1
  have n2 := hn.2
  refine wp_pad 3 ?_
  show Wp M (XR G) ad Y_X9_people (pI fun x m' => (¬ (((0 : Int) ≤ s ∧ (s : Int) ≤ 3) ∧ (0 ≤ sort ∧ sort ≤ 2) ∧ (0 : Int) ≤ n ∧ (n : Int) ≤ 5) → x = -2 ∧ m' = (im, rs bt rt, lm)) ∧ ((((0 : Int) ≤ s ∧ (s : Int) ≤ 3) ∧ (0 ≤ sort ∧ sort ≤ 2) ∧ (0 : Int) ≤ n ∧ (n : Int) ≤ 5) → (im 47 0 (Int.toNat s) = 0 → x = -11 ∧ m' = (im, rs bt rt, lm)) ∧ (im 47 0 (Int.toNat s) = 1 → (im 48 0 (Int.toNat s) ≠ sort → x = -13 ∧ m' = (im, rs bt rt, lm)) ∧ (im 48 0 (Int.toNat s) = sort → x = (pplR (Int.toNat s) fr (Int.toNat n) 0 0 im).1 ∧ m' = ((pplR (Int.toNat s) fr (Int.toNat n) 0 0 im).2, rs bt rt, lm))))) 0 [some (vR 30 0), some (vI s), some (vI sort), some (vI fr), some (vI n), none, none, none] [] (im, rs bt rt, lm)
  refine q_iload_n (t := 1) F dX9_people_0 rfl rfl rfl ?_
  refine wp_callS (t := 4) [_] F dX9_people_1 k_X9_isSheet st_X9_isSheet ml_X9_421 rfl rfl (Nat.le_of_ble_eq_true rfl) (by decide) (c_X9_isSheet _ G im bt rt lm s (by constructor <;> omega)) rfl (kI ?_)
  rintro x1 m' ⟨hx1, rfl⟩
  have hx1 := if01 hx1
  refine q_if_eq (t := 7) (u := 32) F dX9_people_4 (by first | exact hR _ _ _ | (constructor <;> omega)) (by decide) rfl (fun c4 => ?_) (fun c4 => ?_)
  · refine q_bipush (t := 34) F dX9_people_32 (by decide) rfl ?_
    refine q_iret F dX9_people_34 rfl ?_
    try simp only [Int.toNat_natCast]
    first
      | exact ⟨_, rfl, fun _ => ⟨rfl, rfl⟩, fun z => absurd z (by omega)⟩
      | exact ⟨_, rfl, fun z => absurd (by omega) z, fun _ => ⟨fun _ => ⟨rfl, rfl⟩, fun z => absurd z (by (try rw [ets]); omega)⟩⟩
      | exact ⟨_, rfl, fun z => absurd (by omega) z, fun _ => ⟨fun z => absurd z (by (try rw [ets]); omega), fun _ => ⟨fun _ => ⟨rfl, rfl⟩, fun z => absurd z (by (try rw [ets]); omega)⟩⟩⟩
      | (have es := pplR_s s fr (n - k - 1) k c S
         rw [show n - k - 1 + 1 = n - k by omega, if_neg (by rw [e49]; omega), hpp] at es
         refine ⟨_, rfl, fun z => absurd (by omega) z, fun _ => ⟨fun z => absurd z (by (try rw [ets]); omega), fun _ => ⟨fun z => absurd (by (try rw [ets]); omega) z, fun _ => ?_⟩⟩⟩
         (try rw [ets])
         (try rw [etn])
         rw [es]
         exact ⟨rfl, rfl⟩)
      | (obtain rfl : k = n := by omega
         refine ⟨_, rfl, fun z => absurd (by omega) z, fun _ => ⟨fun z => absurd z (by (try rw [ets]); omega), fun _ => ⟨fun z => absurd (by (try rw [ets]); omega) z, fun _ => ?_⟩⟩⟩
         (try rw [ets])
         (try rw [etn])
         rw [← hpp, Nat.sub_self]
         exact ⟨rfl, rfl⟩)
      | omega
  · refine q_iload_n (t := 8) F dX9_people_7 rfl rfl rfl ?_
    refine q_i2l (t := 9) F dX9_people_8 (by first | exact hR _ _ _ | (constructor <;> omega)) rfl ?_
    refine q_lconst (t := 10) (x := 0) F dX9_people_9 (by decide) rfl ?_
    refine q_ldc2 (t := 13) (x := 2) F dX9_people_10 kl_X9_99 (by decide) rfl ?_
    refine wp_callS (t := 16) [_, _, _] F dX9_people_13 k_X9_in st_X9_in ml_X9_91 rfl rfl (Nat.le_of_ble_eq_true rfl) (by decide) (c_X9_in _ G _ _ _ _ _ _ _ (by constructor <;> omega) (by constructor <;> omega) (by constructor <;> omega)) rfl (kI ?_)
    rintro x13 m' ⟨hx13, rfl⟩
    have hx13 := if01 hx13
    refine q_if_eq (t := 19) (u := 32) F dX9_people_16 (by first | exact hR _ _ _ | (constructor <;> omega)) (by decide) rfl (fun c16 => ?_) (fun c16 => ?_)
    · refine q_bipush (t := 34) F dX9_people_32 (by decide) rfl ?_
      refine q_iret F dX9_people_34 rfl ?_
      try simp only [Int.toNat_natCast]
      first
        | exact ⟨_, rfl, fun _ => ⟨rfl, rfl⟩, fun z => absurd z (by omega)⟩
        | exact ⟨_, rfl, fun z => absurd (by omega) z, fun _ => ⟨fun _ => ⟨rfl, rfl⟩, fun z => absurd z (by (try rw [ets]); omega)⟩⟩
        | exact ⟨_, rfl, fun z => absurd (by omega) z, fun _ => ⟨fun z => absurd z (by (try rw [ets]); omega), fun _ => ⟨fun _ => ⟨rfl, rfl⟩, fun z => absurd z (by (try rw [ets]); omega)⟩⟩⟩
        | (have es := pplR_s s fr (n - k - 1) k c S
           rw [show n - k - 1 + 1 = n - k by omega, if_neg (by rw [e49]; omega), hpp] at es
           refine ⟨_, rfl, fun z => absurd (by omega) z, fun _ => ⟨fun z => absurd z (by (try rw [ets]); omega), fun _ => ⟨fun z => absurd (by (try rw [ets]); omega) z, fun _ => ?_⟩⟩⟩
           (try rw [ets])
           (try rw [etn])
           rw [es]
           exact ⟨rfl, rfl⟩)
        | (obtain rfl : k = n := by omega
           refine ⟨_, rfl, fun z => absurd (by omega) z, fun _ => ⟨fun z => absurd z (by (try rw [ets]); omega), fun _ => ⟨fun z => absurd (by (try rw [ets]); omega) z, fun _ => ?_⟩⟩⟩
           (try rw [ets])
           (try rw [etn])
           rw [← hpp, Nat.sub_self]
           exact ⟨rfl, rfl⟩)
        | omega
    · refine q_iload (t := 21) F dX9_people_19 rfl rfl ?_
      refine q_i2l (t := 22) F dX9_people_21 (by first | exact hR _ _ _ | (constructor <;> omega)) rfl ?_
      refine q_lconst (t := 23) (x := 0) F dX9_people_22 (by decide) rfl ?_
      refine q_ldc2 (t := 26) (x := 5) F dX9_people_23 kl_X9_123 (by decide) rfl ?_
      refine wp_callS (t := 29) [_, _, _] F dX9_people_26 k_X9_in st_X9_in ml_X9_91 rfl rfl (Nat.le_of_ble_eq_true rfl) (by decide) (c_X9_in _ G _ _ _ _ _ _ _ (by constructor <;> omega) (by constructor <;> omega) (by constructor <;> omega)) rfl (kI ?_)
      rintro x26 m' ⟨hx26, rfl⟩
      have hx26 := if01 hx26
      refine q_if_ne (t := 32) (u := 35) F dX9_people_29 (by first | exact hR _ _ _ | (constructor <;> omega)) (by decide) rfl (fun c29 => ?_) (fun c29 => ?_)
      · obtain ⟨s, rfl⟩ : ∃ j : Nat, s = (j : Int) := ⟨s.toNat, by omega⟩
        have ets : ((s : Nat) : Int).toNat = s := Int.toNat_natCast s
        have hs3 : s ≤ 3 := by omega
        have hsh := hSH s (by omega)
        refine q_aload_n (t := 36) F dX9_people_35 rfl rfl rfl ?_
        refine g_X9_68 (t := 39) F dX9_people_36 rfl rfl ?_
        refine q_iload_n (t := 40) F dX9_people_39 rfl rfl rfl ?_
        first | refine ldN_47 (t := 41) F dX9_people_40 (by omega) rfl ?_ | refine ld_47 (t := 41) F dX9_people_40 (by omega) (by omega) rfl ?_
        try simp only [up_app, row_app, scr_app, cpy_app, Nat.reduceEqDiff, Int.reduceToNat, Int.toNat_natCast, and_true, true_and, and_false, false_and, and_self, reduceIte]
        refine q_if_eq (t := 44) (u := 57) F dX9_people_41 (by exact hR _ _ _) (by decide) rfl (fun c41 => ?_) (fun c41 => ?_)
        · refine q_aload_n (t := 58) F dX9_people_57 rfl rfl rfl ?_
          refine g_X9_68 (t := 61) F dX9_people_58 rfl rfl ?_
          refine q_iload_n (t := 62) F dX9_people_61 rfl rfl rfl ?_
          first | refine ldN_47 (t := 63) F dX9_people_62 (by omega) rfl ?_ | refine ld_47 (t := 63) F dX9_people_62 (by omega) (by omega) rfl ?_
          try simp only [up_app, row_app, scr_app, cpy_app, Nat.reduceEqDiff, Int.reduceToNat, Int.toNat_natCast, and_true, true_and, and_false, false_and, and_self, reduceIte]
          refine q_if_ne (t := 66) (u := 69) F dX9_people_63 (by exact hR _ _ _) (by decide) rfl (fun c63 => ?_) (fun c63 => ?_)
          · have h47 : im 47 0 s = 1 := by omega
            have hsz := hsh.2 h47
            obtain ⟨n, rfl⟩ : ∃ j : Nat, n = (j : Int) := ⟨n.toNat, by omega⟩
            have etn : ((n : Nat) : Int).toNat = n := Int.toNat_natCast n
            refine q_iconst (t := 70) F dX9_people_69 rfl ?_
            refine q_istore (t := 72) F dX9_people_70 (by decide) rfl rfl ?_
            refine q_iconst (t := 73) F dX9_people_72 rfl ?_
            refine q_istore (t := 75) F dX9_people_73 (by decide) rfl rfl ?_
            have L75 : ∀ (fz : Nat) (k : Nat) (c : Int) (S : IM), 6 - k < fz → (k ≤ n ∧ (0 ≤ c ∧ c ≤ k) ∧ RC S ∧ S 49 0 s = im 49 0 s ∧ pplR s fr (n - k) k c S = pplR s fr n 0 0 im) → Wp M (XR G) ad Y_X9_people (pI fun x m' => (¬ (((0 : Int) ≤ s ∧ (s : Int) ≤ 3) ∧ (0 ≤ sort ∧ sort ≤ 2) ∧ (0 : Int) ≤ n ∧ (n : Int) ≤ 5) → x = -2 ∧ m' = (im, rs bt rt, lm)) ∧ ((((0 : Int) ≤ s ∧ (s : Int) ≤ 3) ∧ (0 ≤ sort ∧ sort ≤ 2) ∧ (0 : Int) ≤ n ∧ (n : Int) ≤ 5) → (im 47 0 (Int.toNat s) = 0 → x = -11 ∧ m' = (im, rs bt rt, lm)) ∧ (im 47 0 (Int.toNat s) = 1 → (im 48 0 (Int.toNat s) ≠ sort → x = -13 ∧ m' = (im, rs bt rt, lm)) ∧ (im 48 0 (Int.toNat s) = sort → x = (pplR (Int.toNat s) fr (Int.toNat n) 0 0 im).1 ∧ m' = ((pplR (Int.toNat s) fr (Int.toNat n) 0 0 im).2, rs bt rt, lm))))) 75 [some (vR 30 0), some (vI (s : Int)), some (vI sort), some (vI fr), some (vI (n : Int)), some (vI c), some (vI (k : Int)), none] [] (S, rs bt rt, lm) := by
              intro fz
              induction fz with
              | zero => intro k c S h; exact absurd h (Nat.not_lt_zero _)
              | succ fz ih =>
                have ih75 := ih
                intro k c S hmeas ⟨hk, hc, hRC, e49, hpp⟩
                refine q_iload (t := 77) F dX9_people_75 rfl rfl ?_
                refine q_iload (t := 79) F dX9_people_77 rfl rfl ?_
                refine q_icmp_ge (t := 82) (u := 158) F dX9_people_79 (by constructor <;> omega) (by constructor <;> omega) (by decide) rfl (fun c79 => ?_) (fun c79 => ?_)
                · refine q_iload (t := 160) F dX9_people_158 rfl rfl ?_
                  refine q_iret F dX9_people_160 rfl ?_
                  try simp only [Int.toNat_natCast]
                  first
                    | exact ⟨_, rfl, fun _ => ⟨rfl, rfl⟩, fun z => absurd z (by omega)⟩
                    | exact ⟨_, rfl, fun z => absurd (by omega) z, fun _ => ⟨fun _ => ⟨rfl, rfl⟩, fun z => absurd z (by (try rw [ets]); omega)⟩⟩
                    | exact ⟨_, rfl, fun z => absurd (by omega) z, fun _ => ⟨fun z => absurd z (by (try rw [ets]); omega), fun _ => ⟨fun _ => ⟨rfl, rfl⟩, fun z => absurd z (by (try rw [ets]); omega)⟩⟩⟩
                    | (have es := pplR_s s fr (n - k - 1) k c S
                       rw [show n - k - 1 + 1 = n - k by omega, if_neg (by rw [e49]; omega), hpp] at es
                       refine ⟨_, rfl, fun z => absurd (by omega) z, fun _ => ⟨fun z => absurd z (by (try rw [ets]); omega), fun _ => ⟨fun z => absurd (by (try rw [ets]); omega) z, fun _ => ?_⟩⟩⟩
                       (try rw [ets])
                       (try rw [etn])
                       rw [es]
                       exact ⟨rfl, rfl⟩)
                    | (obtain rfl : k = n := by omega
                       refine ⟨_, rfl, fun z => absurd (by omega) z, fun _ => ⟨fun z => absurd z (by (try rw [ets]); omega), fun _ => ⟨fun z => absurd (by (try rw [ets]); omega) z, fun _ => ?_⟩⟩⟩
                       (try rw [ets])
                       (try rw [etn])
                       rw [← hpp, Nat.sub_self]
                       exact ⟨rfl, rfl⟩)
                    | omega
                · refine q_iload_n (t := 83) F dX9_people_82 rfl rfl rfl ?_
                  refine q_if_lt (t := 86) (u := 103) F dX9_people_83 (by first | exact hR _ _ _ | (constructor <;> omega)) (by decide) rfl (fun c83 => ?_) (fun c83 => ?_)
                  · refine q_bipush (t := 105) F dX9_people_103 (by decide) rfl ?_
                    refine q_iret F dX9_people_105 rfl ?_
                    try simp only [Int.toNat_natCast]
                    first
                      | exact ⟨_, rfl, fun _ => ⟨rfl, rfl⟩, fun z => absurd z (by omega)⟩
                      | exact ⟨_, rfl, fun z => absurd (by omega) z, fun _ => ⟨fun _ => ⟨rfl, rfl⟩, fun z => absurd z (by (try rw [ets]); omega)⟩⟩
                      | exact ⟨_, rfl, fun z => absurd (by omega) z, fun _ => ⟨fun z => absurd z (by (try rw [ets]); omega), fun _ => ⟨fun _ => ⟨rfl, rfl⟩, fun z => absurd z (by (try rw [ets]); omega)⟩⟩⟩
                      | (have es := pplR_s s fr (n - k - 1) k c S
                         rw [show n - k - 1 + 1 = n - k by omega, if_neg (by rw [e49]; omega), hpp] at es
                         refine ⟨_, rfl, fun z => absurd (by omega) z, fun _ => ⟨fun z => absurd z (by (try rw [ets]); omega), fun _ => ⟨fun z => absurd (by (try rw [ets]); omega) z, fun _ => ?_⟩⟩⟩
                         (try rw [ets])
                         (try rw [etn])
                         rw [es]
                         exact ⟨rfl, rfl⟩)
                      | (obtain rfl : k = n := by omega
                         refine ⟨_, rfl, fun z => absurd (by omega) z, fun _ => ⟨fun z => absurd z (by (try rw [ets]); omega), fun _ => ⟨fun z => absurd (by (try rw [ets]); omega) z, fun _ => ?_⟩⟩⟩
                         (try rw [ets])
                         (try rw [etn])
                         rw [← hpp, Nat.sub_self]
                         exact ⟨rfl, rfl⟩)
                      | omega
                  · refine q_iload_n (t := 87) F dX9_people_86 rfl rfl rfl ?_
                    refine q_aload_n (t := 88) F dX9_people_87 rfl rfl rfl ?_
                    refine g_X9_75 (t := 91) F dX9_people_88 rfl rfl ?_
                    refine q_iload_n (t := 92) F dX9_people_91 rfl rfl rfl ?_
                    first | refine ldN_49 (t := 93) F dX9_people_92 (by omega) rfl ?_ | refine ld_49 (t := 93) F dX9_people_92 (by omega) (by omega) rfl ?_
                    try simp only [up_app, row_app, scr_app, cpy_app, Nat.reduceEqDiff, Int.reduceToNat, Int.toNat_natCast, and_true, true_and, and_false, false_and, and_self, reduceIte]
                    rw [e49]
                    refine q_iconst (t := 94) F dX9_people_93 rfl ?_
                    refine q_iload (t := 96) F dX9_people_94 rfl rfl ?_
                    refine q_imul (t := 97) F dX9_people_96 rfl ?_
                    refine q_isub (t := 98) F dX9_people_97 rfl ?_
                    refine q_iconst (t := 99) F dX9_people_98 rfl ?_
                    refine q_isub (t := 100) F dX9_people_99 rfl ?_
                    refine q_icmp_le (t := 103) (u := 106) F dX9_people_100 (by exact hfr) (by constructor <;> omega) (by decide) rfl (fun c100 => ?_) (fun c100 => ?_)
                    · have es := pplR_s s fr (n - k - 1) k c S
                      rw [show n - k - 1 + 1 = n - k by omega, if_pos (by rw [e49]; omega)] at es
                      refine q_bipush (t := 108) F dX9_people_106 (by decide) rfl ?_
                      refine q_iload_n (t := 109) F dX9_people_108 rfl rfl rfl ?_
                      refine q_imul (t := 110) F dX9_people_109 rfl ?_
                      refine q_iload_n (t := 111) F dX9_people_110 rfl rfl rfl ?_
                      refine q_iadd (t := 112) F dX9_people_111 rfl ?_
                      refine q_iconst (t := 113) F dX9_people_112 rfl ?_
                      refine q_iload (t := 115) F dX9_people_113 rfl rfl ?_
                      refine q_imul (t := 116) F dX9_people_115 rfl ?_
                      refine q_iadd (t := 117) F dX9_people_116 rfl ?_
                      rw [show (40 : Int) * (s : Int) + fr + 2 * (k : Int) = ((40 * s + fr.toNat + 2 * k : Nat) : Int) by omega]
                      refine q_istore (t := 119) F dX9_people_117 (by decide) rfl rfl ?_
                      refine q_iload (t := 121) F dX9_people_119 rfl rfl ?_
                      refine q_aload_n (t := 122) F dX9_people_121 rfl rfl rfl ?_
                      refine q_aload_n (t := 123) F dX9_people_122 rfl rfl rfl ?_
                      refine g_X9_78 (t := 126) F dX9_people_123 rfl rfl ?_
                      refine q_iload (t := 128) F dX9_people_126 rfl rfl ?_
                      first | refine ldN_50 (t := 129) F dX9_people_128 (by omega) rfl ?_ | refine ld_50 (t := 129) F dX9_people_128 (by omega) (by omega) rfl ?_
                      try simp only [up_app, row_app, scr_app, cpy_app, Nat.reduceEqDiff, Int.reduceToNat, Int.toNat_natCast, and_true, true_and, and_false, false_and, and_self, reduceIte]
                      refine q_aload_n (t := 130) F dX9_people_129 rfl rfl rfl ?_
                      refine g_X9_78 (t := 133) F dX9_people_130 rfl rfl ?_
                      refine q_iload (t := 135) F dX9_people_133 rfl rfl ?_
                      refine q_iconst (t := 136) F dX9_people_135 rfl ?_
                      refine q_iadd (t := 137) F dX9_people_136 rfl ?_
                      rw [show ((40 * s + fr.toNat + 2 * k : Nat) : Int) + 1 = ((40 * s + fr.toNat + 2 * k + 1 : Nat) : Int) by omega]
                      first | refine ldN_50 (t := 138) F dX9_people_137 (by omega) rfl ?_ | refine ld_50 (t := 138) F dX9_people_137 (by omega) (by omega) rfl ?_
                      try simp only [up_app, row_app, scr_app, cpy_app, Nat.reduceEqDiff, Int.reduceToNat, Int.toNat_natCast, and_true, true_and, and_false, false_and, and_self, reduceIte]
                      refine wp_callV (t := 141) [_, _] F dX9_people_138 k_X9_man v_X9_man ml_X9_473 rfl rfl rfl rfl (Nat.le_of_ble_eq_true rfl) (by decide) (m_30 (by omega)) (c_manR _ G S bt rt lm hRC _ _ (by exact hRC.1 _ _ _) (by exact hRC.1 _ _ _)) rfl (kI ?_)
                      rintro x138 m' ⟨hx138, rfl⟩
                      have hmi := mnA_in hRC (S 50 0 (40 * s + fr.toNat + 2 * k)) (S 50 0 (40 * s + fr.toNat + 2 * k + 1))
                      rw [← hx138] at hmi
                      have hRC2 := RC_mn hRC (S 50 0 (40 * s + fr.toNat + 2 * k)) (S 50 0 (40 * s + fr.toNat + 2 * k + 1))
                      refine q_if_lt (t := 144) (u := 148) F dX9_people_141 (by constructor <;> omega) (by decide) rfl (fun c141 => ?_) (fun c141 => ?_)
                      · refine q_iconst (t := 149) F dX9_people_148 rfl ?_
                        refine q_iadd (t := 150) F dX9_people_149 rfl ?_
                        refine q_istore (t := 152) F dX9_people_150 (by decide) rfl rfl ?_
                        refine q_iinc (t := 155) F dX9_people_152 rfl (by decide) rfl rfl ?_
                        refine q_goto (t := 75) F dX9_people_155 (by decide) ?_
                        refine wp_less 7 ?_
                        rw [show (k : Int) + 1 = ((k + 1 : Nat) : Int) by omega]
                        rw [← hx138] at es
                        first
                          | (exfalso; omega)
                          | (rw [if_pos (by omega)] at es
                             exact ih75 (k + 1) (c + 1) _ (by omega) ⟨by omega, by omega, hRC2, (mnI_o S _ _ (by omega) (by omega)).trans e49, by rw [show n - (k + 1) = n - k - 1 by omega, ← es]; exact hpp⟩)
                          | (rw [if_neg (by omega)] at es
                             rw [Int.add_zero]
                             exact ih75 (k + 1) c _ (by omega) ⟨by omega, by omega, hRC2, (mnI_o S _ _ (by omega) (by omega)).trans e49, by rw [show n - (k + 1) = n - k - 1 by omega, ← es]; exact hpp⟩)
                          | omega
                      · refine q_iconst (t := 145) F dX9_people_144 rfl ?_
                        refine q_goto (t := 149) F dX9_people_145 (by decide) ?_
                        refine q_iadd (t := 150) F dX9_people_149 rfl ?_
                        refine q_istore (t := 152) F dX9_people_150 (by decide) rfl rfl ?_
                        refine q_iinc (t := 155) F dX9_people_152 rfl (by decide) rfl rfl ?_
                        refine q_goto (t := 75) F dX9_people_155 (by decide) ?_
                        refine wp_less 7 ?_
                        rw [show (k : Int) + 1 = ((k + 1 : Nat) : Int) by omega]
                        rw [← hx138] at es
                        first
                          | (exfalso; omega)
                          | (rw [if_pos (by omega)] at es
                             exact ih75 (k + 1) (c + 1) _ (by omega) ⟨by omega, by omega, hRC2, (mnI_o S _ _ (by omega) (by omega)).trans e49, by rw [show n - (k + 1) = n - k - 1 by omega, ← es]; exact hpp⟩)
                          | (rw [if_neg (by omega)] at es
                             rw [Int.add_zero]
                             exact ih75 (k + 1) c _ (by omega) ⟨by omega, by omega, hRC2, (mnI_o S _ _ (by omega) (by omega)).trans e49, by rw [show n - (k + 1) = n - k - 1 by omega, ← es]; exact hpp⟩)
                          | omega
                    · refine q_bipush (t := 105) F dX9_people_103 (by decide) rfl ?_
                      refine q_iret F dX9_people_105 rfl ?_
                      try simp only [Int.toNat_natCast]
                      first
                        | exact ⟨_, rfl, fun _ => ⟨rfl, rfl⟩, fun z => absurd z (by omega)⟩
                        | exact ⟨_, rfl, fun z => absurd (by omega) z, fun _ => ⟨fun _ => ⟨rfl, rfl⟩, fun z => absurd z (by (try rw [ets]); omega)⟩⟩
                        | exact ⟨_, rfl, fun z => absurd (by omega) z, fun _ => ⟨fun z => absurd z (by (try rw [ets]); omega), fun _ => ⟨fun _ => ⟨rfl, rfl⟩, fun z => absurd z (by (try rw [ets]); omega)⟩⟩⟩
                        | (have es := pplR_s s fr (n - k - 1) k c S
                           rw [show n - k - 1 + 1 = n - k by omega, if_neg (by rw [e49]; omega), hpp] at es
                           refine ⟨_, rfl, fun z => absurd (by omega) z, fun _ => ⟨fun z => absurd z (by (try rw [ets]); omega), fun _ => ⟨fun z => absurd (by (try rw [ets]); omega) z, fun _ => ?_⟩⟩⟩
                           (try rw [ets])
                           (try rw [etn])
                           rw [es]
                           exact ⟨rfl, rfl⟩)
                        | (obtain rfl : k = n := by omega
                           refine ⟨_, rfl, fun z => absurd (by omega) z, fun _ => ⟨fun z => absurd z (by (try rw [ets]); omega), fun _ => ⟨fun z => absurd (by (try rw [ets]); omega) z, fun _ => ?_⟩⟩⟩
                           (try rw [ets])
                           (try rw [etn])
                           rw [← hpp, Nat.sub_self]
                           exact ⟨rfl, rfl⟩)
                        | omega
            exact L75 _ 0 0 im (Nat.lt_succ_self _) ⟨by omega, by omega, h, rfl, rfl⟩
          · refine q_bipush (t := 68) F dX9_people_66 (by decide) rfl ?_
            refine q_iret F dX9_people_68 rfl ?_
            try simp only [Int.toNat_natCast]
            first
              | exact ⟨_, rfl, fun _ => ⟨rfl, rfl⟩, fun z => absurd z (by omega)⟩
              | exact ⟨_, rfl, fun z => absurd (by omega) z, fun _ => ⟨fun _ => ⟨rfl, rfl⟩, fun z => absurd z (by (try rw [ets]); omega)⟩⟩
              | exact ⟨_, rfl, fun z => absurd (by omega) z, fun _ => ⟨fun z => absurd z (by (try rw [ets]); omega), fun _ => ⟨fun _ => ⟨rfl, rfl⟩, fun z => absurd z (by (try rw [ets]); omega)⟩⟩⟩
              | (have es := pplR_s s fr (n - k - 1) k c S
                 rw [show n - k - 1 + 1 = n - k by omega, if_neg (by rw [e49]; omega), hpp] at es
                 refine ⟨_, rfl, fun z => absurd (by omega) z, fun _ => ⟨fun z => absurd z (by (try rw [ets]); omega), fun _ => ⟨fun z => absurd (by (try rw [ets]); omega) z, fun _ => ?_⟩⟩⟩
                 (try rw [ets])
                 (try rw [etn])
                 rw [es]
                 exact ⟨rfl, rfl⟩)
              | (obtain rfl : k = n := by omega
                 refine ⟨_, rfl, fun z => absurd (by omega) z, fun _ => ⟨fun z => absurd z (by (try rw [ets]); omega), fun _ => ⟨fun z => absurd (by (try rw [ets]); omega) z, fun _ => ?_⟩⟩⟩
                 (try rw [ets])
                 (try rw [etn])
                 rw [← hpp, Nat.sub_self]
                 exact ⟨rfl, rfl⟩)
              | omega
        · refine q_aload_n (t := 45) F dX9_people_44 rfl rfl rfl ?_
          refine g_X9_72 (t := 48) F dX9_people_45 rfl rfl ?_
          refine q_iload_n (t := 49) F dX9_people_48 rfl rfl rfl ?_
          first | refine ldN_48 (t := 50) F dX9_people_49 (by omega) rfl ?_ | refine ld_48 (t := 50) F dX9_people_49 (by omega) (by omega) rfl ?_
          try simp only [up_app, row_app, scr_app, cpy_app, Nat.reduceEqDiff, Int.reduceToNat, Int.toNat_natCast, and_true, true_and, and_false, false_and, and_self, reduceIte]
          refine q_iload_n (t := 51) F dX9_people_50 rfl rfl rfl ?_
          refine q_icmp_eq (t := 54) (u := 57) F dX9_people_51 (by exact hR _ _ _) (by exact hsort) (by decide) rfl (fun c51 => ?_) (fun c51 => ?_)
          · refine q_aload_n (t := 58) F dX9_people_57 rfl rfl rfl ?_
            refine g_X9_68 (t := 61) F dX9_people_58 rfl rfl ?_
            refine q_iload_n (t := 62) F dX9_people_61 rfl rfl rfl ?_
            first | refine ldN_47 (t := 63) F dX9_people_62 (by omega) rfl ?_ | refine ld_47 (t := 63) F dX9_people_62 (by omega) (by omega) rfl ?_
            try simp only [up_app, row_app, scr_app, cpy_app, Nat.reduceEqDiff, Int.reduceToNat, Int.toNat_natCast, and_true, true_and, and_false, false_and, and_self, reduceIte]
            refine q_if_ne (t := 66) (u := 69) F dX9_people_63 (by exact hR _ _ _) (by decide) rfl (fun c63 => ?_) (fun c63 => ?_)
            · have h47 : im 47 0 s = 1 := by omega
              have hsz := hsh.2 h47
              obtain ⟨n, rfl⟩ : ∃ j : Nat, n = (j : Int) := ⟨n.toNat, by omega⟩
              have etn : ((n : Nat) : Int).toNat = n := Int.toNat_natCast n
              refine q_iconst (t := 70) F dX9_people_69 rfl ?_
              refine q_istore (t := 72) F dX9_people_70 (by decide) rfl rfl ?_
              refine q_iconst (t := 73) F dX9_people_72 rfl ?_
              refine q_istore (t := 75) F dX9_people_73 (by decide) rfl rfl ?_
              have L75 : ∀ (fz : Nat) (k : Nat) (c : Int) (S : IM), 6 - k < fz → (k ≤ n ∧ (0 ≤ c ∧ c ≤ k) ∧ RC S ∧ S 49 0 s = im 49 0 s ∧ pplR s fr (n - k) k c S = pplR s fr n 0 0 im) → Wp M (XR G) ad Y_X9_people (pI fun x m' => (¬ (((0 : Int) ≤ s ∧ (s : Int) ≤ 3) ∧ (0 ≤ sort ∧ sort ≤ 2) ∧ (0 : Int) ≤ n ∧ (n : Int) ≤ 5) → x = -2 ∧ m' = (im, rs bt rt, lm)) ∧ ((((0 : Int) ≤ s ∧ (s : Int) ≤ 3) ∧ (0 ≤ sort ∧ sort ≤ 2) ∧ (0 : Int) ≤ n ∧ (n : Int) ≤ 5) → (im 47 0 (Int.toNat s) = 0 → x = -11 ∧ m' = (im, rs bt rt, lm)) ∧ (im 47 0 (Int.toNat s) = 1 → (im 48 0 (Int.toNat s) ≠ sort → x = -13 ∧ m' = (im, rs bt rt, lm)) ∧ (im 48 0 (Int.toNat s) = sort → x = (pplR (Int.toNat s) fr (Int.toNat n) 0 0 im).1 ∧ m' = ((pplR (Int.toNat s) fr (Int.toNat n) 0 0 im).2, rs bt rt, lm))))) 75 [some (vR 30 0), some (vI (s : Int)), some (vI sort), some (vI fr), some (vI (n : Int)), some (vI c), some (vI (k : Int)), none] [] (S, rs bt rt, lm) := by
                intro fz
                induction fz with
                | zero => intro k c S h; exact absurd h (Nat.not_lt_zero _)
                | succ fz ih =>
                  have ih75 := ih
                  intro k c S hmeas ⟨hk, hc, hRC, e49, hpp⟩
                  refine q_iload (t := 77) F dX9_people_75 rfl rfl ?_
                  refine q_iload (t := 79) F dX9_people_77 rfl rfl ?_
                  refine q_icmp_ge (t := 82) (u := 158) F dX9_people_79 (by constructor <;> omega) (by constructor <;> omega) (by decide) rfl (fun c79 => ?_) (fun c79 => ?_)
                  · refine q_iload (t := 160) F dX9_people_158 rfl rfl ?_
                    refine q_iret F dX9_people_160 rfl ?_
                    try simp only [Int.toNat_natCast]
                    first
                      | exact ⟨_, rfl, fun _ => ⟨rfl, rfl⟩, fun z => absurd z (by omega)⟩
                      | exact ⟨_, rfl, fun z => absurd (by omega) z, fun _ => ⟨fun _ => ⟨rfl, rfl⟩, fun z => absurd z (by (try rw [ets]); omega)⟩⟩
                      | exact ⟨_, rfl, fun z => absurd (by omega) z, fun _ => ⟨fun z => absurd z (by (try rw [ets]); omega), fun _ => ⟨fun _ => ⟨rfl, rfl⟩, fun z => absurd z (by (try rw [ets]); omega)⟩⟩⟩
                      | (have es := pplR_s s fr (n - k - 1) k c S
                         rw [show n - k - 1 + 1 = n - k by omega, if_neg (by rw [e49]; omega), hpp] at es
                         refine ⟨_, rfl, fun z => absurd (by omega) z, fun _ => ⟨fun z => absurd z (by (try rw [ets]); omega), fun _ => ⟨fun z => absurd (by (try rw [ets]); omega) z, fun _ => ?_⟩⟩⟩
                         (try rw [ets])
                         (try rw [etn])
                         rw [es]
                         exact ⟨rfl, rfl⟩)
                      | (obtain rfl : k = n := by omega
                         refine ⟨_, rfl, fun z => absurd (by omega) z, fun _ => ⟨fun z => absurd z (by (try rw [ets]); omega), fun _ => ⟨fun z => absurd (by (try rw [ets]); omega) z, fun _ => ?_⟩⟩⟩
                         (try rw [ets])
                         (try rw [etn])
                         rw [← hpp, Nat.sub_self]
                         exact ⟨rfl, rfl⟩)
                      | omega
                  · refine q_iload_n (t := 83) F dX9_people_82 rfl rfl rfl ?_
                    refine q_if_lt (t := 86) (u := 103) F dX9_people_83 (by first | exact hR _ _ _ | (constructor <;> omega)) (by decide) rfl (fun c83 => ?_) (fun c83 => ?_)
                    · refine q_bipush (t := 105) F dX9_people_103 (by decide) rfl ?_
                      refine q_iret F dX9_people_105 rfl ?_
                      try simp only [Int.toNat_natCast]
                      first
                        | exact ⟨_, rfl, fun _ => ⟨rfl, rfl⟩, fun z => absurd z (by omega)⟩
                        | exact ⟨_, rfl, fun z => absurd (by omega) z, fun _ => ⟨fun _ => ⟨rfl, rfl⟩, fun z => absurd z (by (try rw [ets]); omega)⟩⟩
                        | exact ⟨_, rfl, fun z => absurd (by omega) z, fun _ => ⟨fun z => absurd z (by (try rw [ets]); omega), fun _ => ⟨fun _ => ⟨rfl, rfl⟩, fun z => absurd z (by (try rw [ets]); omega)⟩⟩⟩
                        | (have es := pplR_s s fr (n - k - 1) k c S
                           rw [show n - k - 1 + 1 = n - k by omega, if_neg (by rw [e49]; omega), hpp] at es
                           refine ⟨_, rfl, fun z => absurd (by omega) z, fun _ => ⟨fun z => absurd z (by (try rw [ets]); omega), fun _ => ⟨fun z => absurd (by (try rw [ets]); omega) z, fun _ => ?_⟩⟩⟩
                           (try rw [ets])
                           (try rw [etn])
                           rw [es]
                           exact ⟨rfl, rfl⟩)
                        | (obtain rfl : k = n := by omega
                           refine ⟨_, rfl, fun z => absurd (by omega) z, fun _ => ⟨fun z => absurd z (by (try rw [ets]); omega), fun _ => ⟨fun z => absurd (by (try rw [ets]); omega) z, fun _ => ?_⟩⟩⟩
                           (try rw [ets])
                           (try rw [etn])
                           rw [← hpp, Nat.sub_self]
                           exact ⟨rfl, rfl⟩)
                        | omega
                    · refine q_iload_n (t := 87) F dX9_people_86 rfl rfl rfl ?_
                      refine q_aload_n (t := 88) F dX9_people_87 rfl rfl rfl ?_
                      refine g_X9_75 (t := 91) F dX9_people_88 rfl rfl ?_
                      refine q_iload_n (t := 92) F dX9_people_91 rfl rfl rfl ?_
                      first | refine ldN_49 (t := 93) F dX9_people_92 (by omega) rfl ?_ | refine ld_49 (t := 93) F dX9_people_92 (by omega) (by omega) rfl ?_
                      try simp only [up_app, row_app, scr_app, cpy_app, Nat.reduceEqDiff, Int.reduceToNat, Int.toNat_natCast, and_true, true_and, and_false, false_and, and_self, reduceIte]
                      rw [e49]
                      refine q_iconst (t := 94) F dX9_people_93 rfl ?_
                      refine q_iload (t := 96) F dX9_people_94 rfl rfl ?_
                      refine q_imul (t := 97) F dX9_people_96 rfl ?_
                      refine q_isub (t := 98) F dX9_people_97 rfl ?_
                      refine q_iconst (t := 99) F dX9_people_98 rfl ?_
                      refine q_isub (t := 100) F dX9_people_99 rfl ?_
                      refine q_icmp_le (t := 103) (u := 106) F dX9_people_100 (by exact hfr) (by constructor <;> omega) (by decide) rfl (fun c100 => ?_) (fun c100 => ?_)
                      · have es := pplR_s s fr (n - k - 1) k c S
                        rw [show n - k - 1 + 1 = n - k by omega, if_pos (by rw [e49]; omega)] at es
                        refine q_bipush (t := 108) F dX9_people_106 (by decide) rfl ?_
                        refine q_iload_n (t := 109) F dX9_people_108 rfl rfl rfl ?_
                        refine q_imul (t := 110) F dX9_people_109 rfl ?_
                        refine q_iload_n (t := 111) F dX9_people_110 rfl rfl rfl ?_
                        refine q_iadd (t := 112) F dX9_people_111 rfl ?_
                        refine q_iconst (t := 113) F dX9_people_112 rfl ?_
                        refine q_iload (t := 115) F dX9_people_113 rfl rfl ?_
                        refine q_imul (t := 116) F dX9_people_115 rfl ?_
                        refine q_iadd (t := 117) F dX9_people_116 rfl ?_
                        rw [show (40 : Int) * (s : Int) + fr + 2 * (k : Int) = ((40 * s + fr.toNat + 2 * k : Nat) : Int) by omega]
                        refine q_istore (t := 119) F dX9_people_117 (by decide) rfl rfl ?_
                        refine q_iload (t := 121) F dX9_people_119 rfl rfl ?_
                        refine q_aload_n (t := 122) F dX9_people_121 rfl rfl rfl ?_
                        refine q_aload_n (t := 123) F dX9_people_122 rfl rfl rfl ?_
                        refine g_X9_78 (t := 126) F dX9_people_123 rfl rfl ?_
                        refine q_iload (t := 128) F dX9_people_126 rfl rfl ?_
                        first | refine ldN_50 (t := 129) F dX9_people_128 (by omega) rfl ?_ | refine ld_50 (t := 129) F dX9_people_128 (by omega) (by omega) rfl ?_
                        try simp only [up_app, row_app, scr_app, cpy_app, Nat.reduceEqDiff, Int.reduceToNat, Int.toNat_natCast, and_true, true_and, and_false, false_and, and_self, reduceIte]
                        refine q_aload_n (t := 130) F dX9_people_129 rfl rfl rfl ?_
                        refine g_X9_78 (t := 133) F dX9_people_130 rfl rfl ?_
                        refine q_iload (t := 135) F dX9_people_133 rfl rfl ?_
                        refine q_iconst (t := 136) F dX9_people_135 rfl ?_
                        refine q_iadd (t := 137) F dX9_people_136 rfl ?_
                        rw [show ((40 * s + fr.toNat + 2 * k : Nat) : Int) + 1 = ((40 * s + fr.toNat + 2 * k + 1 : Nat) : Int) by omega]
                        first | refine ldN_50 (t := 138) F dX9_people_137 (by omega) rfl ?_ | refine ld_50 (t := 138) F dX9_people_137 (by omega) (by omega) rfl ?_
                        try simp only [up_app, row_app, scr_app, cpy_app, Nat.reduceEqDiff, Int.reduceToNat, Int.toNat_natCast, and_true, true_and, and_false, false_and, and_self, reduceIte]
                        refine wp_callV (t := 141) [_, _] F dX9_people_138 k_X9_man v_X9_man ml_X9_473 rfl rfl rfl rfl (Nat.le_of_ble_eq_true rfl) (by decide) (m_30 (by omega)) (c_manR _ G S bt rt lm hRC _ _ (by exact hRC.1 _ _ _) (by exact hRC.1 _ _ _)) rfl (kI ?_)
                        rintro x138 m' ⟨hx138, rfl⟩
                        have hmi := mnA_in hRC (S 50 0 (40 * s + fr.toNat + 2 * k)) (S 50 0 (40 * s + fr.toNat + 2 * k + 1))
                        rw [← hx138] at hmi
                        have hRC2 := RC_mn hRC (S 50 0 (40 * s + fr.toNat + 2 * k)) (S 50 0 (40 * s + fr.toNat + 2 * k + 1))
                        refine q_if_lt (t := 144) (u := 148) F dX9_people_141 (by constructor <;> omega) (by decide) rfl (fun c141 => ?_) (fun c141 => ?_)
                        · refine q_iconst (t := 149) F dX9_people_148 rfl ?_
                          refine q_iadd (t := 150) F dX9_people_149 rfl ?_
                          refine q_istore (t := 152) F dX9_people_150 (by decide) rfl rfl ?_
                          refine q_iinc (t := 155) F dX9_people_152 rfl (by decide) rfl rfl ?_
                          refine q_goto (t := 75) F dX9_people_155 (by decide) ?_
                          refine wp_less 7 ?_
                          rw [show (k : Int) + 1 = ((k + 1 : Nat) : Int) by omega]
                          rw [← hx138] at es
                          first
                            | (exfalso; omega)
                            | (rw [if_pos (by omega)] at es
                               exact ih75 (k + 1) (c + 1) _ (by omega) ⟨by omega, by omega, hRC2, (mnI_o S _ _ (by omega) (by omega)).trans e49, by rw [show n - (k + 1) = n - k - 1 by omega, ← es]; exact hpp⟩)
                            | (rw [if_neg (by omega)] at es
                               rw [Int.add_zero]
                               exact ih75 (k + 1) c _ (by omega) ⟨by omega, by omega, hRC2, (mnI_o S _ _ (by omega) (by omega)).trans e49, by rw [show n - (k + 1) = n - k - 1 by omega, ← es]; exact hpp⟩)
                            | omega
                        · refine q_iconst (t := 145) F dX9_people_144 rfl ?_
                          refine q_goto (t := 149) F dX9_people_145 (by decide) ?_
                          refine q_iadd (t := 150) F dX9_people_149 rfl ?_
                          refine q_istore (t := 152) F dX9_people_150 (by decide) rfl rfl ?_
                          refine q_iinc (t := 155) F dX9_people_152 rfl (by decide) rfl rfl ?_
                          refine q_goto (t := 75) F dX9_people_155 (by decide) ?_
                          refine wp_less 7 ?_
                          rw [show (k : Int) + 1 = ((k + 1 : Nat) : Int) by omega]
                          rw [← hx138] at es
                          first
                            | (exfalso; omega)
                            | (rw [if_pos (by omega)] at es
                               exact ih75 (k + 1) (c + 1) _ (by omega) ⟨by omega, by omega, hRC2, (mnI_o S _ _ (by omega) (by omega)).trans e49, by rw [show n - (k + 1) = n - k - 1 by omega, ← es]; exact hpp⟩)
                            | (rw [if_neg (by omega)] at es
                               rw [Int.add_zero]
                               exact ih75 (k + 1) c _ (by omega) ⟨by omega, by omega, hRC2, (mnI_o S _ _ (by omega) (by omega)).trans e49, by rw [show n - (k + 1) = n - k - 1 by omega, ← es]; exact hpp⟩)
                            | omega
                      · refine q_bipush (t := 105) F dX9_people_103 (by decide) rfl ?_
                        refine q_iret F dX9_people_105 rfl ?_
                        try simp only [Int.toNat_natCast]
                        first
                          | exact ⟨_, rfl, fun _ => ⟨rfl, rfl⟩, fun z => absurd z (by omega)⟩
                          | exact ⟨_, rfl, fun z => absurd (by omega) z, fun _ => ⟨fun _ => ⟨rfl, rfl⟩, fun z => absurd z (by (try rw [ets]); omega)⟩⟩
                          | exact ⟨_, rfl, fun z => absurd (by omega) z, fun _ => ⟨fun z => absurd z (by (try rw [ets]); omega), fun _ => ⟨fun _ => ⟨rfl, rfl⟩, fun z => absurd z (by (try rw [ets]); omega)⟩⟩⟩
                          | (have es := pplR_s s fr (n - k - 1) k c S
                             rw [show n - k - 1 + 1 = n - k by omega, if_neg (by rw [e49]; omega), hpp] at es
                             refine ⟨_, rfl, fun z => absurd (by omega) z, fun _ => ⟨fun z => absurd z (by (try rw [ets]); omega), fun _ => ⟨fun z => absurd (by (try rw [ets]); omega) z, fun _ => ?_⟩⟩⟩
                             (try rw [ets])
                             (try rw [etn])
                             rw [es]
                             exact ⟨rfl, rfl⟩)
                          | (obtain rfl : k = n := by omega
                             refine ⟨_, rfl, fun z => absurd (by omega) z, fun _ => ⟨fun z => absurd z (by (try rw [ets]); omega), fun _ => ⟨fun z => absurd (by (try rw [ets]); omega) z, fun _ => ?_⟩⟩⟩
                             (try rw [ets])
                             (try rw [etn])
                             rw [← hpp, Nat.sub_self]
                             exact ⟨rfl, rfl⟩)
                          | omega
              exact L75 _ 0 0 im (Nat.lt_succ_self _) ⟨by omega, by omega, h, rfl, rfl⟩
            · refine q_bipush (t := 68) F dX9_people_66 (by decide) rfl ?_
              refine q_iret F dX9_people_68 rfl ?_
              try simp only [Int.toNat_natCast]
              first
                | exact ⟨_, rfl, fun _ => ⟨rfl, rfl⟩, fun z => absurd z (by omega)⟩
                | exact ⟨_, rfl, fun z => absurd (by omega) z, fun _ => ⟨fun _ => ⟨rfl, rfl⟩, fun z => absurd z (by (try rw [ets]); omega)⟩⟩
                | exact ⟨_, rfl, fun z => absurd (by omega) z, fun _ => ⟨fun z => absurd z (by (try rw [ets]); omega), fun _ => ⟨fun _ => ⟨rfl, rfl⟩, fun z => absurd z (by (try rw [ets]); omega)⟩⟩⟩
                | (have es := pplR_s s fr (n - k - 1) k c S
                   rw [show n - k - 1 + 1 = n - k by omega, if_neg (by rw [e49]; omega), hpp] at es
                   refine ⟨_, rfl, fun z => absurd (by omega) z, fun _ => ⟨fun z => absurd z (by (try rw [ets]); omega), fun _ => ⟨fun z => absurd (by (try rw [ets]); omega) z, fun _ => ?_⟩⟩⟩
                   (try rw [ets])
                   (try rw [etn])
                   rw [es]
                   exact ⟨rfl, rfl⟩)
                | (obtain rfl : k = n := by omega
                   refine ⟨_, rfl, fun z => absurd (by omega) z, fun _ => ⟨fun z => absurd z (by (try rw [ets]); omega), fun _ => ⟨fun z => absurd (by (try rw [ets]); omega) z, fun _ => ?_⟩⟩⟩
                   (try rw [ets])
                   (try rw [etn])
                   rw [← hpp, Nat.sub_self]
                   exact ⟨rfl, rfl⟩)
                | omega
          · refine q_bipush (t := 56) F dX9_people_54 (by decide) rfl ?_
            refine q_iret F dX9_people_56 rfl ?_
            try simp only [Int.toNat_natCast]
            first
              | exact ⟨_, rfl, fun _ => ⟨rfl, rfl⟩, fun z => absurd z (by omega)⟩
              | exact ⟨_, rfl, fun z => absurd (by omega) z, fun _ => ⟨fun _ => ⟨rfl, rfl⟩, fun z => absurd z (by (try rw [ets]); omega)⟩⟩
              | exact ⟨_, rfl, fun z => absurd (by omega) z, fun _ => ⟨fun z => absurd z (by (try rw [ets]); omega), fun _ => ⟨fun _ => ⟨rfl, rfl⟩, fun z => absurd z (by (try rw [ets]); omega)⟩⟩⟩
              | (have es := pplR_s s fr (n - k - 1) k c S
                 rw [show n - k - 1 + 1 = n - k by omega, if_neg (by rw [e49]; omega), hpp] at es
                 refine ⟨_, rfl, fun z => absurd (by omega) z, fun _ => ⟨fun z => absurd z (by (try rw [ets]); omega), fun _ => ⟨fun z => absurd (by (try rw [ets]); omega) z, fun _ => ?_⟩⟩⟩
                 (try rw [ets])
                 (try rw [etn])
                 rw [es]
                 exact ⟨rfl, rfl⟩)
              | (obtain rfl : k = n := by omega
                 refine ⟨_, rfl, fun z => absurd (by omega) z, fun _ => ⟨fun z => absurd z (by (try rw [ets]); omega), fun _ => ⟨fun z => absurd (by (try rw [ets]); omega) z, fun _ => ?_⟩⟩⟩
                 (try rw [ets])
                 (try rw [etn])
                 rw [← hpp, Nat.sub_self]
                 exact ⟨rfl, rfl⟩)
              | omega
      · refine q_bipush (t := 34) F dX9_people_32 (by decide) rfl ?_
        refine q_iret F dX9_people_34 rfl ?_
        try simp only [Int.toNat_natCast]
        first
          | exact ⟨_, rfl, fun _ => ⟨rfl, rfl⟩, fun z => absurd z (by omega)⟩
          | exact ⟨_, rfl, fun z => absurd (by omega) z, fun _ => ⟨fun _ => ⟨rfl, rfl⟩, fun z => absurd z (by (try rw [ets]); omega)⟩⟩
          | exact ⟨_, rfl, fun z => absurd (by omega) z, fun _ => ⟨fun z => absurd z (by (try rw [ets]); omega), fun _ => ⟨fun _ => ⟨rfl, rfl⟩, fun z => absurd z (by (try rw [ets]); omega)⟩⟩⟩
          | (have es := pplR_s s fr (n - k - 1) k c S
             rw [show n - k - 1 + 1 = n - k by omega, if_neg (by rw [e49]; omega), hpp] at es
             refine ⟨_, rfl, fun z => absurd (by omega) z, fun _ => ⟨fun z => absurd z (by (try rw [ets]); omega), fun _ => ⟨fun z => absurd (by (try rw [ets]); omega) z, fun _ => ?_⟩⟩⟩
             (try rw [ets])
             (try rw [etn])
             rw [es]
             exact ⟨rfl, rfl⟩)
          | (obtain rfl : k = n := by omega
             refine ⟨_, rfl, fun z => absurd (by omega) z, fun _ => ⟨fun z => absurd z (by (try rw [ets]); omega), fun _ => ⟨fun z => absurd (by (try rw [ets]); omega) z, fun _ => ?_⟩⟩⟩
             (try rw [ets])
             (try rw [etn])
             rw [← hpp, Nat.sub_self]
             exact ⟨rfl, rfl⟩)
          | omega

theorem ab_lt {x : Int} (h0 : 0 ≤ x) (h5 : x ≤ 5) : -1 ≤ aboveK x ∧ aboveK x < x ∨ x = 0 ∧ aboveK x = -1 := by
  unfold aboveK
  (repeat' split) <;> omega
theorem uk_s {k x : Int} (k0 : 0 ≤ k) (k5 : k ≤ 5) (x0 : 0 ≤ x) (x5 : x ≤ 5) (h : x ≠ k) : underK k 6 x = underK k 6 (aboveK x) := by
  rcases (show k = 0 ∨ k = 1 ∨ k = 2 ∨ k = 3 ∨ k = 4 ∨ k = 5 by omega) with rfl | rfl | rfl | rfl | rfl | rfl <;> rcases (show x = 0 ∨ x = 1 ∨ x = 2 ∨ x = 3 ∨ x = 4 ∨ x = 5 by omega) with rfl | rfl | rfl | rfl | rfl | rfl <;> first | exact absurd rfl h | decide
theorem uk_e {k : Int} (k0 : 0 ≤ k) (k5 : k ≤ 5) : underK k 6 k = 1 ∧ underK k 6 (-1) = 0 := by
  rcases (show k = 0 ∨ k = 1 ∨ k = 2 ∨ k = 3 ∨ k = 4 ∨ k = 5 by omega) with rfl | rfl | rfl | rfl | rfl | rfl <;> decide

set_option maxHeartbeats 4000000 in
theorem c_X9_over (l : Launch) (G : GS) (im : IM) (bt rt : Nat) (lm : IM) (x : Int) (x0 : 0 ≤ x) (x5 : x ≤ 5) : Cn l (XR G) yX9_over Y_X9_over [vI x] (im, rs bt rt, lm) (pI fun y m' => y = aboveK x ∧ m' = (im, rs bt rt, lm)) := by
  refine cn_of (by decide) (okR G) rfl (Nat.le_of_ble_eq_true rfl) ?_
  intro M ad hMl F
  subst hMl
  refine wp_pad 0 ?_
  show Wp M (XR G) ad Y_X9_over (pI fun y m' => y = aboveK x ∧ m' = (im, rs bt rt, lm)) 0 [some (vI x)] [] (im, rs bt rt, lm)
  refine q_iload_n (t := 1) F dX9_over_0 rfl rfl rfl ?_
  refine q_if_ne (t := 4) (u := 8) F dX9_over_1 (by constructor <;> omega) (by decide) rfl (fun c1 => ?_) (fun c1 => ?_)
  · refine q_iload_n (t := 9) F dX9_over_8 rfl rfl rfl ?_
    refine q_iconst (t := 10) F dX9_over_9 rfl ?_
    refine q_icmp_ne (t := 13) (u := 17) F dX9_over_10 (by constructor <;> omega) (by constructor <;> omega) (by decide) rfl (fun c10 => ?_) (fun c10 => ?_)
    · refine q_iload_n (t := 18) F dX9_over_17 rfl rfl rfl ?_
      refine q_iconst (t := 19) F dX9_over_18 rfl ?_
      refine q_icmp_ne (t := 22) (u := 26) F dX9_over_19 (by constructor <;> omega) (by constructor <;> omega) (by decide) rfl (fun c19 => ?_) (fun c19 => ?_)
      · refine q_iconst (t := 27) F dX9_over_26 rfl ?_
        refine q_iret F dX9_over_27 rfl ?_
        refine ⟨_, rfl, ?_, rfl⟩
        unfold aboveK
        (repeat' split) <;> first | rfl | (exfalso; omega)
      · refine q_iconst (t := 23) F dX9_over_22 rfl ?_
        refine q_goto (t := 27) F dX9_over_23 (by decide) ?_
        refine q_iret F dX9_over_27 rfl ?_
        refine ⟨_, rfl, ?_, rfl⟩
        unfold aboveK
        (repeat' split) <;> first | rfl | (exfalso; omega)
    · refine q_iconst (t := 14) F dX9_over_13 rfl ?_
      refine q_goto (t := 27) F dX9_over_14 (by decide) ?_
      refine q_iret F dX9_over_27 rfl ?_
      refine ⟨_, rfl, ?_, rfl⟩
      unfold aboveK
      (repeat' split) <;> first | rfl | (exfalso; omega)
  · refine q_iconst (t := 5) F dX9_over_4 rfl ?_
    refine q_goto (t := 27) F dX9_over_5 (by decide) ?_
    refine q_iret F dX9_over_27 rfl ?_
    refine ⟨_, rfl, ?_, rfl⟩
    unfold aboveK
    (repeat' split) <;> first | rfl | (exfalso; omega)

set_option maxHeartbeats 4000000 in
theorem c_X9_taken (l : Launch) (G : GS) (im : IM) (bt rt : Nat) (lm : IM) (h : RC im) (p k : Int) (hp : ri p) (hk : ri k) : Cn l (XR G) yX9_taken Y_X9_taken [vR 30 0, vI p, vI k] (im, rs bt rt, lm) (pI fun x m' => x = (if 0 ≤ k ∧ k ≤ 5 then (if (0 : Int) ≤ p ∧ p < im 30 0 12 then (if underK k 6 (im 34 0 (Int.toNat p)) = 0 then -13 else im 35 0 (Int.toNat p)) else -11) else -2) ∧ m' = (im, rs bt rt, lm)) := by
  refine cn_of (by decide) (okR G) rfl (Nat.le_of_ble_eq_true rfl) ?_
  intro M ad hMl F
  subst hMl
  have hR := h.1
  have hX := h.2.1
  have h4 := h.2.2.1
  have h12 := h.2.2.2.1
  have h7 := h.2.2.2.2.1
  have h6 := hX.2.2.1
  have h3 := hX.2.2.2.1
  have hP := h.2.2.2.2.2.2
  have hR := h.1
  have p1 := hp.1
  have p2 := hp.2
  have k1 := hk.1
  have k2 := hk.2
  refine wp_pad 1 ?_
  show Wp M (XR G) ad Y_X9_taken (pI fun x m' => x = (if 0 ≤ k ∧ k ≤ 5 then (if (0 : Int) ≤ p ∧ p < im 30 0 12 then (if underK k 6 (im 34 0 (Int.toNat p)) = 0 then -13 else im 35 0 (Int.toNat p)) else -11) else -2) ∧ m' = (im, rs bt rt, lm)) 0 [some (vR 30 0), some (vI p), some (vI k), none] [] (im, rs bt rt, lm)
  refine q_iload_n (t := 1) F dX9_taken_0 rfl rfl rfl ?_
  refine q_i2l (t := 2) F dX9_taken_1 (by first | exact hR _ _ _ | (constructor <;> omega)) rfl ?_
  refine q_lconst (t := 3) (x := 0) F dX9_taken_2 (by decide) rfl ?_
  refine q_ldc2 (t := 6) (x := 5) F dX9_taken_3 kl_X9_123 (by decide) rfl ?_
  refine wp_callS (t := 9) [_, _, _] F dX9_taken_6 k_X9_in st_X9_in ml_X9_91 rfl rfl (Nat.le_of_ble_eq_true rfl) (by decide) (c_X9_in _ G _ _ _ _ _ _ _ (by constructor <;> omega) (by constructor <;> omega) (by constructor <;> omega)) rfl (kI ?_)
  rintro x6 m' ⟨hx6, rfl⟩
  have hx6 := if01 hx6
  refine q_if_ne (t := 12) (u := 15) F dX9_taken_9 (by first | exact hR _ _ _ | (constructor <;> omega)) (by decide) rfl (fun c9 => ?_) (fun c9 => ?_)
  · refine q_aload_n (t := 16) F dX9_taken_15 rfl rfl rfl ?_
    refine q_iload_n (t := 17) F dX9_taken_16 rfl rfl rfl ?_
    refine wp_callV (t := 20) [_] F dX9_taken_17 k_X9_isOne v_X9_isOne ml_X9_101 rfl rfl rfl rfl (Nat.le_of_ble_eq_true rfl) (by decide) (m_30 (by omega)) (c_X9_isOne _ G im bt rt lm hR h12.1 h12.2 p (by constructor <;> omega)) rfl (kI ?_)
    rintro x17 m' ⟨hx17, rfl⟩
    have hx17 := if01 hx17
    refine q_if_ne (t := 23) (u := 26) F dX9_taken_20 (by first | exact hR _ _ _ | (constructor <;> omega)) (by decide) rfl (fun c20 => ?_) (fun c20 => ?_)
    · obtain ⟨p, rfl⟩ : ∃ j : Nat, p = (j : Int) := ⟨p.toNat, by omega⟩
      have etp : ((p : Nat) : Int).toNat = p := Int.toNat_natCast p
      have hpp := (h.2.2.2.2.2.2 p (by omega)).1
      refine q_aload_n (t := 27) F dX9_taken_26 rfl rfl rfl ?_
      refine g_X9_26 (t := 30) F dX9_taken_27 rfl rfl ?_
      refine q_iload_n (t := 31) F dX9_taken_30 rfl rfl rfl ?_
      first | refine ldN_34 (t := 32) F dX9_taken_31 (by omega) rfl ?_ | refine ld_34 (t := 32) F dX9_taken_31 (by omega) (by omega) rfl ?_
      try simp only [up_app, row_app, scr_app, cpy_app, Nat.reduceEqDiff, Int.reduceToNat, Int.toNat_natCast, and_true, true_and, and_false, false_and, and_self, reduceIte]
      refine q_istore_n (t := 33) F dX9_taken_32 rfl (by decide) rfl rfl ?_
      have L33 : ∀ (fz : Nat) (x : Int), (x + 1).toNat < fz → ((-1 ≤ x ∧ x ≤ 5) ∧ underK k 6 x = underK k 6 (im 34 0 p)) → Wp M (XR G) ad Y_X9_taken (pI fun x m' => x = (if 0 ≤ k ∧ k ≤ 5 then (if (0 : Int) ≤ p ∧ p < im 30 0 12 then (if underK k 6 (im 34 0 (Int.toNat p)) = 0 then -13 else im 35 0 (Int.toNat p)) else -11) else -2) ∧ m' = (im, rs bt rt, lm)) 33 [some (vR 30 0), some (vI (p : Int)), some (vI k), some (vI x)] [] (im, rs bt rt, lm) := by
        intro fz
        induction fz with
        | zero => intro x h; exact absurd h (Nat.not_lt_zero _)
        | succ fz ih =>
          have ih33 := ih
          intro x hmeas ⟨hx, hux⟩
          have huk := uk_e (k := k) (by omega) (by omega)
          refine q_iload_n (t := 34) F dX9_taken_33 rfl rfl rfl ?_
          refine q_iconst (t := 35) F dX9_taken_34 rfl ?_
          refine q_icmp_eq (t := 38) (u := 51) F dX9_taken_35 (by constructor <;> omega) (by constructor <;> omega) (by decide) rfl (fun c35 => ?_) (fun c35 => ?_)
          · refine q_iload_n (t := 52) F dX9_taken_51 rfl rfl rfl ?_
            refine q_iload_n (t := 53) F dX9_taken_52 rfl rfl rfl ?_
            refine q_icmp_ne (t := 56) (u := 65) F dX9_taken_53 (by constructor <;> omega) (by constructor <;> omega) (by decide) rfl (fun c53 => ?_) (fun c53 => ?_)
            · refine q_bipush (t := 67) F dX9_taken_65 (by decide) rfl ?_
              refine q_iret F dX9_taken_67 rfl ?_
              try simp only [Int.toNat_natCast]
              first
                | (exfalso; omega)
                | (refine ⟨_, rfl, ?_, rfl⟩
                   rw [if_neg (by omega)])
                | (refine ⟨_, rfl, ?_, rfl⟩
                   rw [if_pos (by omega), if_neg (by omega)])
                | (refine ⟨_, rfl, ?_, rfl⟩
                   have ek : x = k := by omega
                   subst ek
                   (try rw [etp])
                   rw [if_pos (by omega), if_pos (by omega), if_neg (by rw [← hux, huk.1]; omega)])
                | (refine ⟨_, rfl, ?_, rfl⟩
                   have ek : x = -1 := by omega
                   subst ek
                   (try rw [etp])
                   rw [if_pos (by omega), if_pos (by omega), if_pos (by rw [← hux, huk.2])])
                | omega
            · refine q_aload_n (t := 57) F dX9_taken_56 rfl rfl rfl ?_
              refine g_X9_29 (t := 60) F dX9_taken_57 rfl rfl ?_
              refine q_iload_n (t := 61) F dX9_taken_60 rfl rfl rfl ?_
              first | refine ldN_35 (t := 62) F dX9_taken_61 (by omega) rfl ?_ | refine ld_35 (t := 62) F dX9_taken_61 (by omega) (by omega) rfl ?_
              try simp only [up_app, row_app, scr_app, cpy_app, Nat.reduceEqDiff, Int.reduceToNat, Int.toNat_natCast, and_true, true_and, and_false, false_and, and_self, reduceIte]
              refine q_goto (t := 67) F dX9_taken_62 (by decide) ?_
              refine q_iret F dX9_taken_67 rfl ?_
              try simp only [Int.toNat_natCast]
              first
                | (exfalso; omega)
                | (refine ⟨_, rfl, ?_, rfl⟩
                   rw [if_neg (by omega)])
                | (refine ⟨_, rfl, ?_, rfl⟩
                   rw [if_pos (by omega), if_neg (by omega)])
                | (refine ⟨_, rfl, ?_, rfl⟩
                   have ek : x = k := by omega
                   subst ek
                   (try rw [etp])
                   rw [if_pos (by omega), if_pos (by omega), if_neg (by rw [← hux, huk.1]; omega)])
                | (refine ⟨_, rfl, ?_, rfl⟩
                   have ek : x = -1 := by omega
                   subst ek
                   (try rw [etp])
                   rw [if_pos (by omega), if_pos (by omega), if_pos (by rw [← hux, huk.2])])
                | omega
          · refine q_iload_n (t := 39) F dX9_taken_38 rfl rfl rfl ?_
            refine q_iload_n (t := 40) F dX9_taken_39 rfl rfl rfl ?_
            refine q_icmp_eq (t := 43) (u := 51) F dX9_taken_40 (by constructor <;> omega) (by constructor <;> omega) (by decide) rfl (fun c40 => ?_) (fun c40 => ?_)
            · refine q_iload_n (t := 52) F dX9_taken_51 rfl rfl rfl ?_
              refine q_iload_n (t := 53) F dX9_taken_52 rfl rfl rfl ?_
              refine q_icmp_ne (t := 56) (u := 65) F dX9_taken_53 (by constructor <;> omega) (by constructor <;> omega) (by decide) rfl (fun c53 => ?_) (fun c53 => ?_)
              · refine q_bipush (t := 67) F dX9_taken_65 (by decide) rfl ?_
                refine q_iret F dX9_taken_67 rfl ?_
                try simp only [Int.toNat_natCast]
                first
                  | (exfalso; omega)
                  | (refine ⟨_, rfl, ?_, rfl⟩
                     rw [if_neg (by omega)])
                  | (refine ⟨_, rfl, ?_, rfl⟩
                     rw [if_pos (by omega), if_neg (by omega)])
                  | (refine ⟨_, rfl, ?_, rfl⟩
                     have ek : x = k := by omega
                     subst ek
                     (try rw [etp])
                     rw [if_pos (by omega), if_pos (by omega), if_neg (by rw [← hux, huk.1]; omega)])
                  | (refine ⟨_, rfl, ?_, rfl⟩
                     have ek : x = -1 := by omega
                     subst ek
                     (try rw [etp])
                     rw [if_pos (by omega), if_pos (by omega), if_pos (by rw [← hux, huk.2])])
                  | omega
              · refine q_aload_n (t := 57) F dX9_taken_56 rfl rfl rfl ?_
                refine g_X9_29 (t := 60) F dX9_taken_57 rfl rfl ?_
                refine q_iload_n (t := 61) F dX9_taken_60 rfl rfl rfl ?_
                first | refine ldN_35 (t := 62) F dX9_taken_61 (by omega) rfl ?_ | refine ld_35 (t := 62) F dX9_taken_61 (by omega) (by omega) rfl ?_
                try simp only [up_app, row_app, scr_app, cpy_app, Nat.reduceEqDiff, Int.reduceToNat, Int.toNat_natCast, and_true, true_and, and_false, false_and, and_self, reduceIte]
                refine q_goto (t := 67) F dX9_taken_62 (by decide) ?_
                refine q_iret F dX9_taken_67 rfl ?_
                try simp only [Int.toNat_natCast]
                first
                  | (exfalso; omega)
                  | (refine ⟨_, rfl, ?_, rfl⟩
                     rw [if_neg (by omega)])
                  | (refine ⟨_, rfl, ?_, rfl⟩
                     rw [if_pos (by omega), if_neg (by omega)])
                  | (refine ⟨_, rfl, ?_, rfl⟩
                     have ek : x = k := by omega
                     subst ek
                     (try rw [etp])
                     rw [if_pos (by omega), if_pos (by omega), if_neg (by rw [← hux, huk.1]; omega)])
                  | (refine ⟨_, rfl, ?_, rfl⟩
                     have ek : x = -1 := by omega
                     subst ek
                     (try rw [etp])
                     rw [if_pos (by omega), if_pos (by omega), if_pos (by rw [← hux, huk.2])])
                  | omega
            · refine q_iload_n (t := 44) F dX9_taken_43 rfl rfl rfl ?_
              refine wp_callS (t := 47) [_] F dX9_taken_44 k_X9_over st_X9_over ml_X9_476 rfl rfl (Nat.le_of_ble_eq_true rfl) (by decide) (c_X9_over _ G im bt rt lm x (by omega) (by omega)) rfl (kI ?_)
              rintro x44 m' ⟨hx44, rfl⟩
              have hab := ab_lt (x := x) (by omega) (by omega)
              have hus := uk_s (k := k) (x := x) (by omega) (by omega) (by omega) (by omega) (by omega)
              refine q_istore_n (t := 48) F dX9_taken_47 rfl (by decide) rfl rfl ?_
              refine q_goto (t := 33) F dX9_taken_48 (by decide) ?_
              exact ih33 x44 (by omega) ⟨by omega, by rw [hx44, ← hus]; exact hux⟩
      exact L33 _ (im 34 0 p) (Nat.lt_succ_self _) ⟨by omega, rfl⟩
    · refine q_bipush (t := 25) F dX9_taken_23 (by decide) rfl ?_
      refine q_iret F dX9_taken_25 rfl ?_
      try simp only [Int.toNat_natCast]
      first
        | (exfalso; omega)
        | (refine ⟨_, rfl, ?_, rfl⟩
           rw [if_neg (by omega)])
        | (refine ⟨_, rfl, ?_, rfl⟩
           rw [if_pos (by omega), if_neg (by omega)])
        | (refine ⟨_, rfl, ?_, rfl⟩
           have ek : x = k := by omega
           subst ek
           (try rw [etp])
           rw [if_pos (by omega), if_pos (by omega), if_neg (by rw [← hux, huk.1]; omega)])
        | (refine ⟨_, rfl, ?_, rfl⟩
           have ek : x = -1 := by omega
           subst ek
           (try rw [etp])
           rw [if_pos (by omega), if_pos (by omega), if_pos (by rw [← hux, huk.2])])
        | omega
  · refine q_bipush (t := 14) F dX9_taken_12 (by decide) rfl ?_
    refine q_iret F dX9_taken_14 rfl ?_
    try simp only [Int.toNat_natCast]
    first
      | (exfalso; omega)
      | (refine ⟨_, rfl, ?_, rfl⟩
         rw [if_neg (by omega)])
      | (refine ⟨_, rfl, ?_, rfl⟩
         rw [if_pos (by omega), if_neg (by omega)])
      | (refine ⟨_, rfl, ?_, rfl⟩
         have ek : x = k := by omega
         subst ek
         (try rw [etp])
         rw [if_pos (by omega), if_pos (by omega), if_neg (by rw [← hux, huk.1]; omega)])
      | (refine ⟨_, rfl, ?_, rfl⟩
         have ek : x = -1 := by omega
         subst ek
         (try rw [etp])
         rw [if_pos (by omega), if_pos (by omega), if_pos (by rw [← hux, huk.2])])
      | omega

/-- n hours off, laid down on a sheet -/
def flR (im S : IM) (s p n : Nat) : IM := fun k i x => if k = 50 ∧ i = 0 ∧ 40 * s ≤ x ∧ x < 40 * s + n then whenR im 60 (10 * p + (x - 40 * s)) else S k i x
theorem flR_0 (im S : IM) (s p : Nat) : flR im S s p 0 = S := by
  funext k i x
  unfold flR
  rw [if_neg (by omega)]
theorem flR_s (im S : IM) (s p n : Nat) : up (flR im S s p n) 50 0 (40 * s + n) (whenR im 60 (10 * p + n)) = flR im S s p (n + 1) := by
  funext k i x
  rw [up_app]
  unfold flR
  by_cases h : k = 50 ∧ i = 0 ∧ x = 40 * s + n
  · rw [if_pos h, if_pos (by omega), show x - 40 * s = n by omega]
  · rw [if_neg h]
    by_cases h2 : k = 50 ∧ i = 0 ∧ 40 * s ≤ x ∧ x < 40 * s + n
    · rw [if_pos h2, if_pos (by omega)]
    · rw [if_neg h2, if_neg (by omega)]

set_option maxHeartbeats 4000000 in
theorem c_X9_film (l : Launch) (G : GS) (im : IM) (bt rt : Nat) (lm : IM) (h : RC im) (hA : AG im 1000) (h79 : im 30 0 7 ≤ 999) (s p : Int) (hs : ri s) (hp : ri p) : Cn l (XR G) yX9_film Y_X9_film [vR 30 0, vI s, vI p] (im, rs bt rt, lm) (pI fun x m' => (¬ (((0 : Int) ≤ s ∧ (s : Int) ≤ 3) ∧ ((0 : Int) ≤ p ∧ p < im 30 0 12)) → x = -2 ∧ m' = (im, rs bt rt, lm)) ∧ ((((0 : Int) ≤ s ∧ (s : Int) ≤ 3) ∧ ((0 : Int) ≤ p ∧ p < im 30 0 12)) → x = 10 ∧ ∃ im' lm', RI im' ∧ RU im 60 im' ∧ lgQ lm' lm ∧ m' = (flR im (sheetR im' (Int.toNat s) 0 10) (Int.toNat s) (Int.toNat p) 10, rs bt rt, lm'))) := by
  refine cn_of (by decide) (okR G) rfl (Nat.le_of_ble_eq_true rfl) ?_
  intro M ad hMl F
  subst hMl
  have hR := h.1
  have hX := h.2.1
  have h4 := h.2.2.1
  have h12 := h.2.2.2.1
  have h7 := h.2.2.2.2.1
  have h6 := hX.2.2.1
  have h3 := hX.2.2.2.1
  have hP := h.2.2.2.2.2.2
  have hR := h.1
  have s1 := hs.1
  have s2 := hs.2
  have p1 := hp.1
  have p2 := hp.2
  refine wp_pad 1 ?_
  show Wp M (XR G) ad Y_X9_film (pI fun x m' => (¬ (((0 : Int) ≤ s ∧ (s : Int) ≤ 3) ∧ ((0 : Int) ≤ p ∧ p < im 30 0 12)) → x = -2 ∧ m' = (im, rs bt rt, lm)) ∧ ((((0 : Int) ≤ s ∧ (s : Int) ≤ 3) ∧ ((0 : Int) ≤ p ∧ p < im 30 0 12)) → x = 10 ∧ ∃ im' lm', RI im' ∧ RU im 60 im' ∧ lgQ lm' lm ∧ m' = (flR im (sheetR im' (Int.toNat s) 0 10) (Int.toNat s) (Int.toNat p) 10, rs bt rt, lm'))) 0 [some (vR 30 0), some (vI s), some (vI p), none] [] (im, rs bt rt, lm)
  refine q_iload_n (t := 1) F dX9_film_0 rfl rfl rfl ?_
  refine wp_callS (t := 4) [_] F dX9_film_1 k_X9_isSheet st_X9_isSheet ml_X9_421 rfl rfl (Nat.le_of_ble_eq_true rfl) (by decide) (c_X9_isSheet _ G im bt rt lm s (by constructor <;> omega)) rfl (kI ?_)
  rintro x1 m' ⟨hx1, rfl⟩
  have hx1 := if01 hx1
  refine q_if_eq (t := 7) (u := 15) F dX9_film_4 (by first | exact hR _ _ _ | (constructor <;> omega)) (by decide) rfl (fun c4 => ?_) (fun c4 => ?_)
  · refine q_bipush (t := 17) F dX9_film_15 (by decide) rfl ?_
    refine q_iret F dX9_film_17 rfl ?_
    try simp only [Int.toNat_natCast]
    first
      | exact ⟨_, rfl, fun _ => ⟨rfl, rfl⟩, fun z => absurd z (by omega)⟩
      | (obtain rfl : g = 10 := by omega
         exact ⟨_, rfl, fun z => absurd (by omega) z, fun _ => ⟨rfl, im2, lm2, hR2, hU, hlg2, by first | rfl | (rw [ets, etp]) | (rw [ets]) | (rw [etp])⟩⟩)
      | omega
  · refine q_aload_n (t := 8) F dX9_film_7 rfl rfl rfl ?_
    refine q_iload_n (t := 9) F dX9_film_8 rfl rfl rfl ?_
    refine wp_callV (t := 12) [_] F dX9_film_9 k_X9_isOne v_X9_isOne ml_X9_101 rfl rfl rfl rfl (Nat.le_of_ble_eq_true rfl) (by decide) (m_30 (by omega)) (c_X9_isOne _ G im bt rt lm hR h12.1 h12.2 p (by constructor <;> omega)) rfl (kI ?_)
    rintro x9 m' ⟨hx9, rfl⟩
    have hx9 := if01 hx9
    refine q_if_ne (t := 15) (u := 18) F dX9_film_12 (by first | exact hR _ _ _ | (constructor <;> omega)) (by decide) rfl (fun c12 => ?_) (fun c12 => ?_)
    · refine q_aload_n (t := 19) F dX9_film_18 rfl rfl rfl ?_
      refine q_bipush (t := 21) F dX9_film_19 (by decide) rfl ?_
      refine wp_callV (t := 24) [_] F dX9_film_21 k_X9_runs v_X9_runs ml_X9_410 rfl rfl rfl rfl (Nat.le_of_ble_eq_true rfl) (by decide) (m_30 (by omega)) (c_X9_runs _ G im bt rt lm h hA h79 60 (by omega)) rfl (kV ?_)
      rintro m' ⟨im2, lm2, hR2, hU, hlg2, rfl⟩
      refine q_aload_n (t := 25) F dX9_film_24 rfl rfl rfl ?_
      refine q_iload_n (t := 26) F dX9_film_25 rfl rfl rfl ?_
      refine q_iconst (t := 27) F dX9_film_26 rfl ?_
      refine q_bipush (t := 29) F dX9_film_27 (by decide) rfl ?_
      refine wp_callV (t := 32) [_, _, _] F dX9_film_29 k_X9_sheet v_X9_sheet ml_X9_446 rfl rfl rfl rfl (Nat.le_of_ble_eq_true rfl) (by decide) (m_30 (by omega)) (c_X9_sheet _ G im2 bt rt lm2 s 0 10 hs (by constructor <;> omega) (by constructor <;> omega)) rfl (kI ?_)
      rintro x29 m' ⟨-, h29⟩
      obtain ⟨rfl, rfl⟩ := (h29 (by omega) (by omega)).2 (by omega)
      refine q_popI (t := 33) F dX9_film_32 rfl ?_
      obtain ⟨s, rfl⟩ : ∃ j : Nat, s = (j : Int) := ⟨s.toNat, by omega⟩
      obtain ⟨p, rfl⟩ : ∃ j : Nat, p = (j : Int) := ⟨p.toNat, by omega⟩
      have ets : ((s : Nat) : Int).toNat = s := Int.toNat_natCast s
      have etp : ((p : Nat) : Int).toNat = p := Int.toNat_natCast p
      have hw : ∀ g, g < 10 → sheetR im2 s 0 10 38 0 (10 * p + g) = whenR im 60 (10 * p + g) := fun g hg => by
        refine Eq.trans ?_ (hU.2.1 (10 * p + g) (by omega)).1
        unfold sheetR shI3
        rw [zeS_app, if_neg (by omega), up_app, if_neg (by omega), up_app, if_neg (by omega), up_app, if_neg (by omega)]
      rw [ets]
      refine q_iconst (t := 34) F dX9_film_33 rfl ?_
      refine q_istore_n (t := 35) F dX9_film_34 rfl (by decide) rfl rfl ?_
      have L35 : ∀ (fz : Nat) (g : Nat), 10 - g < fz → g ≤ 10 → Wp M (XR G) ad Y_X9_film (pI fun x m' => (¬ (((0 : Int) ≤ s ∧ (s : Int) ≤ 3) ∧ ((0 : Int) ≤ p ∧ p < im 30 0 12)) → x = -2 ∧ m' = (im, rs bt rt, lm)) ∧ ((((0 : Int) ≤ s ∧ (s : Int) ≤ 3) ∧ ((0 : Int) ≤ p ∧ p < im 30 0 12)) → x = 10 ∧ ∃ im' lm', RI im' ∧ RU im 60 im' ∧ lgQ lm' lm ∧ m' = (flR im (sheetR im' (Int.toNat s) 0 10) (Int.toNat s) (Int.toNat p) 10, rs bt rt, lm'))) 35 [some (vR 30 0), some (vI (s : Int)), some (vI (p : Int)), some (vI (g : Int))] [] (flR im (sheetR im2 s 0 10) s p g, rs bt rt, lm2) := by
        intro fz
        induction fz with
        | zero => intro g h; exact absurd h (Nat.not_lt_zero _)
        | succ fz ih =>
          have ih35 := ih
          intro g hmeas hg
          have hf38 : flR im (sheetR im2 s 0 10) s p g 38 0 (10 * p + g) = if g < 10 then whenR im 60 (10 * p + g) else flR im (sheetR im2 s 0 10) s p g 38 0 (10 * p + g) := by
            split
            · rename_i z
              rw [← hw g z]
              unfold flR
              rw [if_neg (by omega)]
            · rfl
          refine q_iload_n (t := 36) F dX9_film_35 rfl rfl rfl ?_
          refine q_bipush (t := 38) F dX9_film_36 (by decide) rfl ?_
          refine q_icmp_ge (t := 41) (u := 69) F dX9_film_38 (by constructor <;> omega) (by constructor <;> omega) (by decide) rfl (fun c38 => ?_) (fun c38 => ?_)
          · refine q_bipush (t := 71) F dX9_film_69 (by decide) rfl ?_
            refine q_iret F dX9_film_71 rfl ?_
            try simp only [Int.toNat_natCast]
            first
              | exact ⟨_, rfl, fun _ => ⟨rfl, rfl⟩, fun z => absurd z (by omega)⟩
              | (obtain rfl : g = 10 := by omega
                 exact ⟨_, rfl, fun z => absurd (by omega) z, fun _ => ⟨rfl, im2, lm2, hR2, hU, hlg2, by first | rfl | (rw [ets, etp]) | (rw [ets]) | (rw [etp])⟩⟩)
              | omega
          · refine q_aload_n (t := 42) F dX9_film_41 rfl rfl rfl ?_
            refine g_X9_78 (t := 45) F dX9_film_42 rfl rfl ?_
            refine q_bipush (t := 47) F dX9_film_45 (by decide) rfl ?_
            refine q_iload_n (t := 48) F dX9_film_47 rfl rfl rfl ?_
            refine q_imul (t := 49) F dX9_film_48 rfl ?_
            refine q_iload_n (t := 50) F dX9_film_49 rfl rfl rfl ?_
            refine q_iadd (t := 51) F dX9_film_50 rfl ?_
            refine q_aload_n (t := 52) F dX9_film_51 rfl rfl rfl ?_
            refine g_X9_38 (t := 55) F dX9_film_52 rfl rfl ?_
            refine q_bipush (t := 57) F dX9_film_55 (by decide) rfl ?_
            refine q_iload_n (t := 58) F dX9_film_57 rfl rfl rfl ?_
            refine q_imul (t := 59) F dX9_film_58 rfl ?_
            refine q_iload_n (t := 60) F dX9_film_59 rfl rfl rfl ?_
            refine q_iadd (t := 61) F dX9_film_60 rfl ?_
            rw [show (10 : Int) * (p : Int) + (g : Int) = ((10 * p + g : Nat) : Int) by omega]
            first | refine ldN_38 (t := 62) F dX9_film_61 (by omega) rfl ?_ | refine ld_38 (t := 62) F dX9_film_61 (by omega) (by omega) rfl ?_
            try simp only [up_app, row_app, scr_app, cpy_app, Nat.reduceEqDiff, Int.reduceToNat, Int.toNat_natCast, and_true, true_and, and_false, false_and, and_self, reduceIte]
            rw [hf38]
            rw [show (40 : Int) * (s : Int) + (g : Int) = ((40 * s + g : Nat) : Int) by omega]
            first | refine stN_50 (t := 63) F dX9_film_62 (by omega) rfl ?_ | refine st_50 (t := 63) F dX9_film_62 (by omega) (by omega) rfl ?_
            refine q_iinc (t := 66) F dX9_film_63 rfl (by decide) rfl rfl ?_
            refine q_goto (t := 35) F dX9_film_66 (by decide) ?_
            rw [show (g : Int) + 1 = ((g + 1 : Nat) : Int) by omega, if_pos (by omega), flR_s]
            exact ih35 (g + 1) (by omega) (by omega)
      have L0 := L35 _ 0 (Nat.lt_succ_self _) (Nat.zero_le _)
      rw [flR_0] at L0
      exact L0
    · refine q_bipush (t := 17) F dX9_film_15 (by decide) rfl ?_
      refine q_iret F dX9_film_17 rfl ?_
      try simp only [Int.toNat_natCast]
      first
        | exact ⟨_, rfl, fun _ => ⟨rfl, rfl⟩, fun z => absurd z (by omega)⟩
        | (obtain rfl : g = 10 := by omega
           exact ⟨_, rfl, fun z => absurd (by omega) z, fun _ => ⟨rfl, im2, lm2, hR2, hU, hlg2, by first | rfl | (rw [ets, etp]) | (rw [ets]) | (rw [etp])⟩⟩)
        | omega
end
section
/-! the reference: foods that are drawn -/

theorem agC.trans {a b c : IM} (h : agC a b) (h2 : agC b c) : agC a c := by
  obtain ⟨x, x3, x4, x6, x8, x12⟩ := h
  obtain ⟨y, y3, y4, y6, y8, y12⟩ := h2
  exact ⟨fun k s u v => (x k s u v).trans (y k s u v), x3.trans y3, x4.trans y4, x6.trans y6, x8.trans y8, x12.trans y12⟩
theorem agC.symm {a b : IM} (h : agC a b) : agC b a := by
  obtain ⟨x, x3, x4, x6, x8, x12⟩ := h
  exact ⟨fun k s u v => (x k s u v).symm, x3.symm, x4.symm, x6.symm, x8.symm, x12.symm⟩
theorem utR_C {a b : IM} (h : agC a b) (h7 : a 30 0 7 = b 30 0 7) (p : Nat) (w fd : Int) : utR a p w fd = utR b p w fd := by
  have hT := TR_C h
  obtain ⟨c, e3, e4, e6, e8, e12⟩ := h
  have es : stR a p = stR b p := funext fun g => c 36 _ (by omega) (by omega)
  have eg : gpR a p w fd = gpR b p w fd := by
    show takesK (a 34 0 p) (TR a 0 _) = takesK (b 34 0 p) (TR b 0 _)
    rw [es, hT, c 34 _ (by omega) (by omega), c 35 _ (by omega) (by omega), h7]
  unfold utR
  rw [eg, c 36 _ (by omega) (by omega)]
theorem agC_up {a b : IM} (h : agC a b) (k s : Nat) (x : Int) : agC (up a k 0 s x) (up b k 0 s x) := by
  obtain ⟨c, e3, e4, e6, e8, e12⟩ := h
  have hh : ∀ k' s', a k' 0 s' = b k' 0 s' → up a k 0 s x k' 0 s' = up b k 0 s x k' 0 s' := fun k' s' e => by
    rw [up_app, up_app, e]
  exact ⟨fun k' s' u v => hh k' s' (c k' s' u v), hh _ _ e3, hh _ _ e4, hh _ _ e6, hh _ _ e8, hh _ _ e12⟩
def eaI (im : IM) (p : Nat) (seed : Int) : Nat → IM
  | 0 => asideI im
  | i + 1 => spR (eaI im p seed i) (eaI im p seed i) p i (dwF seed i)
def eaN (im : IM) (p : Nat) (seed : Int) : Nat → Int
  | 0 => 0
  | i + 1 => if utR (eaI im p seed i) p i (dwF seed i) = -1 then eaN im p seed i else eaN im p seed i + 1
def hiR (im : IM) (p : Nat) (seed : Int) : Nat → Int
  | 0 => 0
  | i + 1 => if 5 ≤ eaN im p (bm (seed + i)) 16 then hiR im p seed i + 1 else hiR im p seed i
theorem eaN_s (im : IM) (p : Nat) (seed : Int) (i : Nat) : eaN im p seed (i + 1) = if utR (eaI im p seed i) p i (dwF seed i) = -1 then eaN im p seed i else eaN im p seed i + 1 := rfl
theorem hiR_s (im : IM) (p : Nat) (seed : Int) (i : Nat) : hiR im p seed (i + 1) = if 5 ≤ eaN im p (bm (seed + i)) 16 then hiR im p seed i + 1 else hiR im p seed i := rfl
theorem eaN_in (im : IM) (p : Nat) (seed : Int) (i : Nat) : 0 ≤ eaN im p seed i ∧ eaN im p seed i ≤ i := by
  induction i with
  | zero => exact ⟨Int.le_refl 0, Int.le_refl 0⟩
  | succ i ih =>
    rw [eaN_s]
    split <;> omega
theorem hiR_in (im : IM) (p : Nat) (seed : Int) (i : Nat) : 0 ≤ hiR im p seed i ∧ hiR im p seed i ≤ i := by
  induction i with
  | zero => exact ⟨Int.le_refl 0, Int.le_refl 0⟩
  | succ i ih =>
    rw [hiR_s]
    split <;> omega
theorem spR_C {a b : IM} (h : agC a b) (h7 : a 30 0 7 = b 30 0 7) (p : Nat) (w fd : Int) : agC (spR a a p w fd) (spR b b p w fd) ∧ spR a a p w fd 30 0 7 = spR b b p w fd 30 0 7 := by
  unfold spR
  rw [utR_C h h7]
  split
  · exact ⟨h, h7⟩
  · exact ⟨agC_up (agC_up h _ _ _) _ _ _, h7⟩
theorem eaI_C {a b : IM} (h : agC a b) (h7 : a 30 0 7 = b 30 0 7) (p : Nat) (seed : Int) (i : Nat) : (agC (eaI a p seed i) (eaI b p seed i) ∧ eaI a p seed i 30 0 7 = eaI b p seed i 30 0 7) ∧ eaN a p seed i = eaN b p seed i := by
  induction i with
  | zero => exact ⟨⟨((asideI_C a).trans h).trans (asideI_C b).symm, h7⟩, rfl⟩
  | succ i ih =>
    refine ⟨spR_C ih.1.1 ih.1.2 p i (dwF seed i), ?_⟩
    rw [eaN_s, eaN_s, ih.2, utR_C ih.1.1 ih.1.2]
theorem spR_ag2 {S im2 F : IM} (hS : agY S F) (h2 : agY im2 F) (p : Nat) (w fd : Int) : agY (spR S im2 p w fd) (spR F F p w fd) := by
  unfold spR
  rw [utR_ag hS]
  split
  · exact h2
  · exact (h2.up rfl).up rfl

set_option maxHeartbeats 4000000 in
theorem c_X9_eats (l : Launch) (G : GS) (im : IM) (bt rt : Nat) (lm : IM) (h : RC im) (p n : Nat) (hp : (p : Int) < im 30 0 12) (hn : n ≤ 16) (seed : Int) (hseed : ri seed) : Cn l (XR G) yX9_eats Y_X9_eats [vR 30 0, vI (p : Int), vI seed, vI (n : Int)] (im, rs bt rt, lm) (pI fun x m' => ∃ im' lm', x = eaN im p seed n ∧ RI im' ∧ agS im' im ∧ lgQ lm' lm ∧ m' = (im', rs bt rt, lm')) := by
  refine cn_of (by decide) (okR G) rfl (Nat.le_of_ble_eq_true rfl) ?_
  intro M ad hMl F
  subst hMl
  have hR := h.1
  have h12 := h.2.2.2.1
  have hRa := asideI_RI h.1
  have hRCa : RC (asideI im) := h.C hRa (asideI_C im) h.2.2.2.2.1
  refine wp_pad 3 ?_
  show Wp M (XR G) ad Y_X9_eats (pI fun x m' => ∃ im' lm', x = eaN im p seed n ∧ RI im' ∧ agS im' im ∧ lgQ lm' lm ∧ m' = (im', rs bt rt, lm')) 0 [some (vR 30 0), some (vI (p : Int)), some (vI seed), some (vI (n : Int)), none, none, none] [] (im, rs bt rt, lm)
  refine q_aload_n (t := 1) F dX9_eats_0 rfl rfl rfl ?_
  refine wp_callV (t := 4) [] F dX9_eats_1 k_X9_laysAside v_X9_laysAside ml_X9_404 rfl rfl rfl rfl (Nat.le_of_ble_eq_true rfl) (by decide) (m_30 (by omega)) (g_X9_laysAside _ G im bt rt lm hR) rfl (kV ?_)
  rintro m' rfl
  refine q_iload_n (t := 5) F dX9_eats_4 rfl rfl rfl ?_
  refine q_istore (t := 7) F dX9_eats_5 (by decide) rfl rfl ?_
  refine q_iconst (t := 8) F dX9_eats_7 rfl ?_
  refine q_istore (t := 10) F dX9_eats_8 (by decide) rfl rfl ?_
  refine q_iconst (t := 11) F dX9_eats_10 rfl ?_
  refine q_istore (t := 13) F dX9_eats_11 (by decide) rfl rfl ?_
  have L13 : ∀ (fz : Nat) (i : Nat) (S lg : IM), 17 - i < fz → (i ≤ n ∧ RI S ∧ RC S ∧ agY S (eaI im p seed i) ∧ PK im S ∧ lgQ lg lm) → Wp M (XR G) ad Y_X9_eats (pI fun x m' => ∃ im' lm', x = eaN im p seed n ∧ RI im' ∧ agS im' im ∧ lgQ lm' lm ∧ m' = (im', rs bt rt, lm')) 13 [some (vR 30 0), some (vI (p : Int)), some (vI seed), some (vI (n : Int)), some (vI (dwZ seed i)), some (vI (eaN im p seed i)), some (vI (i : Int))] [] (S, rs bt rt, lg) := by
    intro fz
    induction fz with
    | zero => intro i S lg h; exact absurd h (Nat.not_lt_zero _)
    | succ fz ih =>
      have ih13 := ih
      intro i S lg hmeas ⟨hi, hRS, hRC, hag, hpk, hlg⟩
      have hea := eaN_in im p seed i
      have hes := eaN_s im p seed i
      have e12 : S 30 0 12 = im 30 0 12 := (hpk.1 30 12 (by omega) (by omega)).trans rfl
      refine q_iload (t := 15) F dX9_eats_13 rfl rfl ?_
      refine q_iload_n (t := 16) F dX9_eats_15 rfl rfl rfl ?_
      refine q_icmp_ge (t := 19) (u := 66) F dX9_eats_16 (by constructor <;> omega) (by constructor <;> omega) (by decide) rfl (fun c16 => ?_) (fun c16 => ?_)
      · refine q_aload_n (t := 67) F dX9_eats_66 rfl rfl rfl ?_
        refine wp_callV (t := 70) [] F dX9_eats_67 k_X9_laysBack v_X9_laysBack ml_X9_407 rfl rfl rfl rfl (Nat.le_of_ble_eq_true rfl) (by decide) (m_30 (by omega)) (g_X9_laysBack _ G S bt rt lg hRS) rfl (kV ?_)
        rintro m' rfl
        refine q_iload (t := 72) F dX9_eats_70 rfl rfl ?_
        refine q_iret F dX9_eats_72 rfl ?_
        obtain rfl : i = n := by omega
        exact ⟨_, rfl, _, lg, rfl, backI_RI hRS, (backI_R hpk.1 hpk.2).S, hlg, rfl⟩
      · refine q_iload (t := 21) F dX9_eats_19 rfl rfl ?_
        refine q_ldcw (t := 24) (x := 1103515245) F dX9_eats_21 ki_X9_449 (by decide) rfl ?_
        refine q_imul (t := 25) F dX9_eats_24 rfl ?_
        refine q_sipush (t := 28) F dX9_eats_25 (by decide) rfl ?_
        refine q_iadd (t := 29) F dX9_eats_28 rfl ?_
        refine q_norm ?_
        refine q_istore (t := 31) F dX9_eats_29 (by decide) rfl rfl ?_
        refine q_iload (t := 33) F dX9_eats_31 rfl rfl ?_
        refine q_aload_n (t := 34) F dX9_eats_33 rfl rfl rfl ?_
        refine q_iload_n (t := 35) F dX9_eats_34 rfl rfl rfl ?_
        refine q_iload (t := 37) F dX9_eats_35 rfl rfl ?_
        refine q_iload (t := 39) F dX9_eats_37 rfl rfl ?_
        refine q_bipush (t := 41) F dX9_eats_39 (by decide) rfl ?_
        refine q_iushr (t := 42) F dX9_eats_41 (by omega) (by omega) rfl ?_
        rw [show (2 : Int) ^ (9 : Int).toNat = 512 from rfl]
        have hdw : 0 ≤ dwF seed i ∧ dwF seed i < 10 := by unfold dwF; omega
        refine q_bipush (t := 44) F dX9_eats_42 (by decide) rfl ?_
        refine q_irem (t := 45) F dX9_eats_44 (by constructor <;> omega) (by constructor <;> omega) (by omega) (by omega) rfl ?_
        rw [show bm (dwZ seed i * 1103515245 + 12345) % 4294967296 / 512 % 10 = dwF seed i from rfl]
        refine wp_callV (t := 48) [_, _, _] F dX9_eats_45 k_X9_speaks v_X9_speaks ml_X9_364 rfl rfl rfl rfl (Nat.le_of_ble_eq_true rfl) (by decide) (m_30 (by omega)) (c_X9_speaks _ G S bt rt lg hRC p (by rw [e12]; exact hp) (i : Int) (dwF seed i) (by constructor <;> omega) (by constructor <;> omega)) rfl (kI ?_)
        rintro x45 m' ⟨im2, lg2, hx45, hR2, hag2, hlg2, rfl⟩
        rw [utR_ag hag] at hx45
        have hut := utR_in (im := eaI im p seed i) (p := p) (w := (i : Int)) (fd := dwF seed i)
        have hrc := RC_say hRC hR2 hag2 (p := p) (w := (i : Int)) (fd := dwF seed i) (by omega)
        have hst : stepB (im 30 0 12) 0 (p : Int) (i : Int) (dwF seed i) = 1 := by
          unfold stepB
          rw [if_neg (by omega), if_neg (by omega), if_pos rfl, if_pos (by omega)]
        have hpk2 := PK_tk hpk (S1 := spR S im2 p (i : Int) (dwF seed i)) (t := 0) (by omega) h12 hst (by unfold tkR; rw [if_pos rfl, Int.toNat_natCast]; exact spR_ag hag2 _ _ _)
        have hag3 : agY (spR S im2 p (i : Int) (dwF seed i)) (eaI im p seed (i + 1)) := spR_ag2 hag (hag2.trans hag) _ _ _
        refine q_iconst (t := 49) F dX9_eats_48 rfl ?_
        refine q_icmp_ne (t := 52) (u := 56) F dX9_eats_49 (by constructor <;> omega) (by constructor <;> omega) (by decide) rfl (fun c49 => ?_) (fun c49 => ?_)
        · refine q_iconst (t := 57) F dX9_eats_56 rfl ?_
          refine q_iadd (t := 58) F dX9_eats_57 rfl ?_
          refine q_istore (t := 60) F dX9_eats_58 (by decide) rfl rfl ?_
          refine q_iinc (t := 63) F dX9_eats_60 rfl (by decide) rfl rfl ?_
          refine q_goto (t := 13) F dX9_eats_63 (by decide) ?_
          rw [show (i : Int) + 1 = ((i + 1 : Nat) : Int) by omega]
          first
            | (rw [show eaN im p seed i + 0 = eaN im p seed (i + 1) by rw [hes, if_pos (by omega), Int.add_zero]]
               exact ih13 (i + 1) _ lg2 (by omega) ⟨by omega, hrc.1, hrc, hag3, hpk2, hlg2.trans hlg⟩)
            | (rw [show eaN im p seed i + 1 = eaN im p seed (i + 1) by rw [hes, if_neg (by omega)]]
               exact ih13 (i + 1) _ lg2 (by omega) ⟨by omega, hrc.1, hrc, hag3, hpk2, hlg2.trans hlg⟩)
            | omega
        · refine q_iconst (t := 53) F dX9_eats_52 rfl ?_
          refine q_goto (t := 57) F dX9_eats_53 (by decide) ?_
          refine q_iadd (t := 58) F dX9_eats_57 rfl ?_
          refine q_istore (t := 60) F dX9_eats_58 (by decide) rfl rfl ?_
          refine q_iinc (t := 63) F dX9_eats_60 rfl (by decide) rfl rfl ?_
          refine q_goto (t := 13) F dX9_eats_63 (by decide) ?_
          rw [show (i : Int) + 1 = ((i + 1 : Nat) : Int) by omega]
          first
            | (rw [show eaN im p seed i + 0 = eaN im p seed (i + 1) by rw [hes, if_pos (by omega), Int.add_zero]]
               exact ih13 (i + 1) _ lg2 (by omega) ⟨by omega, hrc.1, hrc, hag3, hpk2, hlg2.trans hlg⟩)
            | (rw [show eaN im p seed i + 1 = eaN im p seed (i + 1) by rw [hes, if_neg (by omega)]]
               exact ih13 (i + 1) _ lg2 (by omega) ⟨by omega, hrc.1, hrc, hag3, hpk2, hlg2.trans hlg⟩)
            | omega
  exact L13 _ 0 (asideI im) lm (Nat.lt_succ_self _) ⟨by omega, hRa, hRCa, agY_rfl _, PK_0 (agY_rfl _), lgQ_rfl lm⟩

set_option maxHeartbeats 4000000 in
theorem c_X9_drawn (l : Launch) (G : GS) (im : IM) (bt rt : Nat) (lm : IM) (h : RC im) (p seed n : Int) (hp : ri p) (hseed : ri seed) (hn : ri n) : Cn l (XR G) yX9_drawn Y_X9_drawn [vR 30 0, vI p, vI seed, vI n] (im, rs bt rt, lm) (pI fun x m' => ∃ im' lm', x = (if ((0 ≤ p ∧ p < im 30 0 12) ∧ 0 ≤ n ∧ n ≤ 16) then eaN im p.toNat seed n.toNat else -2) ∧ RI im' ∧ agS im' im ∧ lgQ lm' lm ∧ m' = (im', rs bt rt, lm')) := by
  refine cn_of (by decide) (okR G) rfl (Nat.le_of_ble_eq_true rfl) ?_
  intro M ad hMl F
  subst hMl
  have hR := h.1
  have hX := h.2.1
  have h4 := h.2.2.1
  have h12 := h.2.2.2.1
  have h7 := h.2.2.2.2.1
  have h6 := hX.2.2.1
  have h3 := hX.2.2.2.1
  have hP := h.2.2.2.2.2.2
  have hR := h.1
  have p1 := hp.1
  have p2 := hp.2
  have n1 := hn.1
  have n2 := hn.2
  refine wp_pad 0 ?_
  show Wp M (XR G) ad Y_X9_drawn (pI fun x m' => ∃ im' lm', x = (if ((0 ≤ p ∧ p < im 30 0 12) ∧ 0 ≤ n ∧ n ≤ 16) then eaN im p.toNat seed n.toNat else -2) ∧ RI im' ∧ agS im' im ∧ lgQ lm' lm ∧ m' = (im', rs bt rt, lm')) 0 [some (vR 30 0), some (vI p), some (vI seed), some (vI n)] [] (im, rs bt rt, lm)
  refine q_aload_n (t := 1) F dX9_drawn_0 rfl rfl rfl ?_
  refine q_iload_n (t := 2) F dX9_drawn_1 rfl rfl rfl ?_
  refine wp_callV (t := 5) [_] F dX9_drawn_2 k_X9_isOne v_X9_isOne ml_X9_101 rfl rfl rfl rfl (Nat.le_of_ble_eq_true rfl) (by decide) (m_30 (by omega)) (c_X9_isOne _ G im bt rt lm hR h12.1 h12.2 p (by constructor <;> omega)) rfl (kI ?_)
  rintro x2 m' ⟨hx2, rfl⟩
  have hx2 := if01 hx2
  refine q_if_eq (t := 8) (u := 30) F dX9_drawn_5 (by first | exact hR _ _ _ | (constructor <;> omega)) (by decide) rfl (fun c5 => ?_) (fun c5 => ?_)
  · refine q_bipush (t := 32) F dX9_drawn_30 (by decide) rfl ?_
    refine q_iret F dX9_drawn_32 rfl ?_
    first
      | (refine ⟨_, rfl, im, lm, ?_, hR, agS_rfl im, lgQ_rfl lm, rfl⟩
         rw [if_neg (by omega)])
      | (refine ⟨_, rfl, im2, lm2, ?_, hR2, hag2, hlg2, rfl⟩
         rw [if_pos (by omega)]
         exact hx24)
      | omega
  · refine q_iload_n (t := 9) F dX9_drawn_8 rfl rfl rfl ?_
    refine q_i2l (t := 10) F dX9_drawn_9 (by first | exact hR _ _ _ | (constructor <;> omega)) rfl ?_
    refine q_lconst (t := 11) (x := 0) F dX9_drawn_10 (by decide) rfl ?_
    refine q_ldc2 (t := 14) (x := 16) F dX9_drawn_11 kl_X9_450 (by decide) rfl ?_
    refine wp_callS (t := 17) [_, _, _] F dX9_drawn_14 k_X9_in st_X9_in ml_X9_91 rfl rfl (Nat.le_of_ble_eq_true rfl) (by decide) (c_X9_in _ G _ _ _ _ _ _ _ (by constructor <;> omega) (by constructor <;> omega) (by constructor <;> omega)) rfl (kI ?_)
    rintro x14 m' ⟨hx14, rfl⟩
    have hx14 := if01 hx14
    refine q_if_eq (t := 20) (u := 30) F dX9_drawn_17 (by first | exact hR _ _ _ | (constructor <;> omega)) (by decide) rfl (fun c17 => ?_) (fun c17 => ?_)
    · refine q_bipush (t := 32) F dX9_drawn_30 (by decide) rfl ?_
      refine q_iret F dX9_drawn_32 rfl ?_
      first
        | (refine ⟨_, rfl, im, lm, ?_, hR, agS_rfl im, lgQ_rfl lm, rfl⟩
           rw [if_neg (by omega)])
        | (refine ⟨_, rfl, im2, lm2, ?_, hR2, hag2, hlg2, rfl⟩
           rw [if_pos (by omega)]
           exact hx24)
        | omega
    · refine q_aload_n (t := 21) F dX9_drawn_20 rfl rfl rfl ?_
      rw [show vI p = vI ((p.toNat : Nat) : Int) by rw [Int.toNat_of_nonneg (by omega)]]
      refine q_iload_n (t := 22) F dX9_drawn_21 rfl rfl rfl ?_
      refine q_iload_n (t := 23) F dX9_drawn_22 rfl rfl rfl ?_
      refine q_iload_n (t := 24) F dX9_drawn_23 rfl rfl rfl ?_
      rw [show vI n = vI ((n.toNat : Nat) : Int) by rw [Int.toNat_of_nonneg (by omega)]]
      try rw [show vI p = vI ((p.toNat : Nat) : Int) by rw [Int.toNat_of_nonneg (by omega)]]
      refine wp_callV (t := 27) [_, _, _] F dX9_drawn_24 k_X9_eats v_X9_eats ml_X9_452 rfl rfl rfl rfl (Nat.le_of_ble_eq_true rfl) (by decide) (m_30 (by omega)) (c_X9_eats _ G im bt rt lm h p.toNat n.toNat (by omega) (by omega) seed hseed) rfl (kI ?_)
      rintro x24 m' ⟨im2, lm2, hx24, hR2, hag2, hlg2, rfl⟩
      refine q_goto (t := 32) F dX9_drawn_27 (by decide) ?_
      refine q_iret F dX9_drawn_32 rfl ?_
      first
        | (refine ⟨_, rfl, im, lm, ?_, hR, agS_rfl im, lgQ_rfl lm, rfl⟩
           rw [if_neg (by omega)])
        | (refine ⟨_, rfl, im2, lm2, ?_, hR2, hag2, hlg2, rfl⟩
           rw [if_pos (by omega)]
           exact hx24)
        | omega

set_option maxHeartbeats 4000000 in
theorem c_X9_chance (l : Launch) (G : GS) (im : IM) (bt rt : Nat) (lm : IM) (h : RC im) (p seed n part : Int) (hp : ri p) (hseed : ri seed) (hn : ri n) (hpart : ri part) : Cn l (XR G) yX9_chance Y_X9_chance [vR 30 0, vI p, vI seed, vI n, vI part] (im, rs bt rt, lm) (pL fun x m' => ∃ im' lm', x = (if (((0 : Int) ≤ p ∧ p < im 30 0 12) ∧ ((1 : Int) ≤ n ∧ (n : Int) ≤ 20) ∧ 0 ≤ part ∧ part ≤ 1) then (if part = 0 then hiR im (Int.toNat p) seed (Int.toNat n) else n) / ((Nat.gcd (hiR im (Int.toNat p) seed (Int.toNat n)).toNat (Int.toNat n) : Nat) : Int) else -4611686018427387904) ∧ RI im' ∧ agS im' im ∧ lgQ lm' lm ∧ m' = (im', rs bt rt, lm')) := by
  refine cn_of (by decide) (okR G) rfl (Nat.le_of_ble_eq_true rfl) ?_
  intro M ad hMl F
  subst hMl
  have hR := h.1
  have hX := h.2.1
  have h4 := h.2.2.1
  have h12 := h.2.2.2.1
  have h7 := h.2.2.2.2.1
  have h6 := hX.2.2.1
  have h3 := hX.2.2.2.1
  have hP := h.2.2.2.2.2.2
  have hR := h.1
  have p1 := hp.1
  have p2 := hp.2
  have n1 := hn.1
  have n2 := hn.2
  have part1 := hpart.1
  have part2 := hpart.2
  refine wp_pad 8 ?_
  show Wp M (XR G) ad Y_X9_chance (pL fun x m' => ∃ im' lm', x = (if (((0 : Int) ≤ p ∧ p < im 30 0 12) ∧ ((1 : Int) ≤ n ∧ (n : Int) ≤ 20) ∧ 0 ≤ part ∧ part ≤ 1) then (if part = 0 then hiR im (Int.toNat p) seed (Int.toNat n) else n) / ((Nat.gcd (hiR im (Int.toNat p) seed (Int.toNat n)).toNat (Int.toNat n) : Nat) : Int) else -4611686018427387904) ∧ RI im' ∧ agS im' im ∧ lgQ lm' lm ∧ m' = (im', rs bt rt, lm')) 0 [some (vR 30 0), some (vI p), some (vI seed), some (vI n), some (vI part), none, none, none, none, none, none, none, none] [] (im, rs bt rt, lm)
  refine q_aload_n (t := 1) F dX9_chance_0 rfl rfl rfl ?_
  refine q_iload_n (t := 2) F dX9_chance_1 rfl rfl rfl ?_
  refine wp_callV (t := 5) [_] F dX9_chance_2 k_X9_isOne v_X9_isOne ml_X9_101 rfl rfl rfl rfl (Nat.le_of_ble_eq_true rfl) (by decide) (m_30 (by omega)) (c_X9_isOne _ G im bt rt lm hR h12.1 h12.2 p (by constructor <;> omega)) rfl (kI ?_)
  rintro x2 m' ⟨hx2, rfl⟩
  have hx2 := if01 hx2
  refine q_if_eq (t := 8) (u := 31) F dX9_chance_5 (by first | exact hR _ _ _ | (constructor <;> omega)) (by decide) rfl (fun c5 => ?_) (fun c5 => ?_)
  · refine q_ldc2 (t := 34) (x := -4611686018427387904) F dX9_chance_31 kl_X9_457 (by decide) rfl ?_
    refine q_lret F dX9_chance_34 rfl ?_
    try simp only [Int.toNat_natCast]
    first
      | (refine ⟨_, rfl, im, lm, ?_, hR, agS_rfl im, lgQ_rfl lm, rfl⟩
         rw [if_neg (by omega)])
      | (have ey : y = 0 := by omega
         subst ey
         refine ⟨_, rfl, S, lg, ?_, hRS, hag, hlg, rfl⟩
         rw [Nat.gcd_zero_right] at hgc
         (try rw [etp, etn])
         rw [if_pos (by first | exact hok | omega), ← hgc]
         first
           | rw [if_pos (by omega)]
           | rw [if_neg (by omega)])
      | omega
  · refine q_iload_n (t := 9) F dX9_chance_8 rfl rfl rfl ?_
    refine q_i2l (t := 10) F dX9_chance_9 (by first | exact hR _ _ _ | (constructor <;> omega)) rfl ?_
    refine q_lconst (t := 11) (x := 1) F dX9_chance_10 (by decide) rfl ?_
    refine q_ldc2 (t := 14) (x := 20) F dX9_chance_11 kl_X9_455 (by decide) rfl ?_
    refine wp_callS (t := 17) [_, _, _] F dX9_chance_14 k_X9_in st_X9_in ml_X9_91 rfl rfl (Nat.le_of_ble_eq_true rfl) (by decide) (c_X9_in _ G _ _ _ _ _ _ _ (by constructor <;> omega) (by constructor <;> omega) (by constructor <;> omega)) rfl (kI ?_)
    rintro x14 m' ⟨hx14, rfl⟩
    have hx14 := if01 hx14
    refine q_if_eq (t := 20) (u := 31) F dX9_chance_17 (by first | exact hR _ _ _ | (constructor <;> omega)) (by decide) rfl (fun c17 => ?_) (fun c17 => ?_)
    · refine q_ldc2 (t := 34) (x := -4611686018427387904) F dX9_chance_31 kl_X9_457 (by decide) rfl ?_
      refine q_lret F dX9_chance_34 rfl ?_
      try simp only [Int.toNat_natCast]
      first
        | (refine ⟨_, rfl, im, lm, ?_, hR, agS_rfl im, lgQ_rfl lm, rfl⟩
           rw [if_neg (by omega)])
        | (have ey : y = 0 := by omega
           subst ey
           refine ⟨_, rfl, S, lg, ?_, hRS, hag, hlg, rfl⟩
           rw [Nat.gcd_zero_right] at hgc
           (try rw [etp, etn])
           rw [if_pos (by first | exact hok | omega), ← hgc]
           first
             | rw [if_pos (by omega)]
             | rw [if_neg (by omega)])
        | omega
    · refine q_iload (t := 22) F dX9_chance_20 rfl rfl ?_
      refine q_i2l (t := 23) F dX9_chance_22 (by first | exact hR _ _ _ | (constructor <;> omega)) rfl ?_
      refine q_lconst (t := 24) (x := 0) F dX9_chance_23 (by decide) rfl ?_
      refine q_lconst (t := 25) (x := 1) F dX9_chance_24 (by decide) rfl ?_
      refine wp_callS (t := 28) [_, _, _] F dX9_chance_25 k_X9_in st_X9_in ml_X9_91 rfl rfl (Nat.le_of_ble_eq_true rfl) (by decide) (c_X9_in _ G _ _ _ _ _ _ _ (by constructor <;> omega) (by constructor <;> omega) (by constructor <;> omega)) rfl (kI ?_)
      rintro x25 m' ⟨hx25, rfl⟩
      have hx25 := if01 hx25
      refine q_if_ne (t := 31) (u := 35) F dX9_chance_28 (by first | exact hR _ _ _ | (constructor <;> omega)) (by decide) rfl (fun c28 => ?_) (fun c28 => ?_)
      · obtain ⟨p, rfl⟩ : ∃ j : Nat, p = (j : Int) := ⟨p.toNat, by omega⟩
        obtain ⟨n, rfl⟩ : ∃ j : Nat, n = (j : Int) := ⟨n.toNat, by omega⟩
        have hok : (((0 : Int) ≤ p ∧ (p : Int) < im 30 0 12) ∧ ((1 : Int) ≤ n ∧ (n : Int) ≤ 20) ∧ 0 ≤ part ∧ part ≤ 1) := by omega
        have etp : ((p : Nat) : Int).toNat = p := Int.toNat_natCast p
        have etn : ((n : Nat) : Int).toNat = n := Int.toNat_natCast n
        refine q_lconst (t := 36) (x := 0) F dX9_chance_35 (by decide) rfl ?_
        refine q_lstore (t := 38) F dX9_chance_36 (by decide) rfl rfl ?_
        refine q_iconst (t := 39) F dX9_chance_38 rfl ?_
        refine q_istore (t := 41) F dX9_chance_39 (by decide) rfl rfl ?_
        have L41 : ∀ (fz : Nat) (k : Nat) (S lg : IM), 21 - k < fz → (k ≤ n ∧ RI S ∧ agS S im ∧ lgQ lg lm) → Wp M (XR G) ad Y_X9_chance (pL fun x m' => ∃ im' lm', x = (if (((0 : Int) ≤ p ∧ p < im 30 0 12) ∧ ((1 : Int) ≤ n ∧ (n : Int) ≤ 20) ∧ 0 ≤ part ∧ part ≤ 1) then (if part = 0 then hiR im (Int.toNat p) seed (Int.toNat n) else n) / ((Nat.gcd (hiR im (Int.toNat p) seed (Int.toNat n)).toNat (Int.toNat n) : Nat) : Int) else -4611686018427387904) ∧ RI im' ∧ agS im' im ∧ lgQ lm' lm ∧ m' = (im', rs bt rt, lm')) 41 [some (vR 30 0), some (vI (p : Int)), some (vI seed), some (vI (n : Int)), some (vI part), some (vL (hiR im p seed k)), none, some (vI (k : Int)), none, none, none, none, none] [] (S, rs bt rt, lg) := by
          intro fz
          induction fz with
          | zero => intro k S lg h; exact absurd h (Nat.not_lt_zero _)
          | succ fz ih =>
            have ih41 := ih
            intro k S lg hmeas ⟨hk, hRS, hag, hlg⟩
            have e12 : S 30 0 12 = im 30 0 12 := hag.C.1.2.2.2.2.2
            have hhi := hiR_in im p seed k
            have hhs := hiR_s im p seed k
            refine q_iload (t := 43) F dX9_chance_41 rfl rfl ?_
            refine q_iload_n (t := 44) F dX9_chance_43 rfl rfl rfl ?_
            refine q_icmp_ge (t := 47) (u := 78) F dX9_chance_44 (by constructor <;> omega) (by constructor <;> omega) (by decide) rfl (fun c44 => ?_) (fun c44 => ?_)
            · obtain rfl : n = k := by omega
              refine q_lload (t := 80) F dX9_chance_78 rfl rfl ?_
              refine q_lstore (t := 82) F dX9_chance_80 (by decide) rfl rfl ?_
              refine q_iload_n (t := 83) F dX9_chance_82 rfl rfl rfl ?_
              refine q_i2l (t := 84) F dX9_chance_83 (by constructor <;> omega) rfl ?_
              refine q_lstore (t := 86) F dX9_chance_84 (by decide) rfl rfl ?_
              have L86 : ∀ (fz : Nat) (x y : Nat), y < fz → (x ≤ 20 ∧ y ≤ 20 ∧ Nat.gcd x y = Nat.gcd (hiR im p seed n).toNat n) → Wp M (XR G) ad Y_X9_chance (pL fun x m' => ∃ im' lm', x = (if (((0 : Int) ≤ p ∧ p < im 30 0 12) ∧ ((1 : Int) ≤ n ∧ (n : Int) ≤ 20) ∧ 0 ≤ part ∧ part ≤ 1) then (if part = 0 then hiR im (Int.toNat p) seed (Int.toNat n) else n) / ((Nat.gcd (hiR im (Int.toNat p) seed (Int.toNat n)).toNat (Int.toNat n) : Nat) : Int) else -4611686018427387904) ∧ RI im' ∧ agS im' im ∧ lgQ lm' lm ∧ m' = (im', rs bt rt, lm')) 86 [some (vR 30 0), some (vI (p : Int)), some (vI seed), some (vI (n : Int)), some (vI part), some (vL (hiR im p seed n)), none, some (vL (x : Int)), none, some (vL (y : Int)), none, none, none] [] (S, rs bt rt, lg) := by
                intro fz
                induction fz with
                | zero => intro x y h; exact absurd h (Nat.not_lt_zero _)
                | succ fz ih =>
                  have ih86 := ih
                  intro x y hmeas ⟨hx, hy, hgc⟩
                  have hgp : 0 < Nat.gcd (hiR im p seed n).toNat n := Nat.gcd_pos_of_pos_right _ (by omega)
                  have e1 : cmpI (y : Int) 0 < 0 ↔ (y : Int) < 0 := cmpI_lt
                  have e2 : 0 < cmpI (y : Int) 0 ↔ 0 < (y : Int) := cmpI_gt
                  refine q_lload (t := 88) F dX9_chance_86 rfl rfl ?_
                  refine q_lconst (t := 89) (x := 0) F dX9_chance_88 (by decide) rfl ?_
                  refine q_lcmp (t := 90) F dX9_chance_89 (by constructor <;> omega) (by constructor <;> omega) rfl ?_
                  refine q_if_eq (t := 93) (u := 111) F dX9_chance_90 (by exact cmpI_ri _ _) (by decide) rfl (fun c90 => ?_) (fun c90 => ?_)
                  · have y0 : y = 0 := by omega
                    have hx0 : 0 < x := by rw [y0, Nat.gcd_zero_right] at hgc; omega
                    refine q_iload (t := 113) F dX9_chance_111 rfl rfl ?_
                    refine q_if_ne (t := 116) (u := 124) F dX9_chance_113 (by first | exact hR _ _ _ | (constructor <;> omega)) (by decide) rfl (fun c113 => ?_) (fun c113 => ?_)
                    · refine q_iload_n (t := 125) F dX9_chance_124 rfl rfl rfl ?_
                      refine q_i2l (t := 126) F dX9_chance_125 (by constructor <;> omega) rfl ?_
                      refine q_lload (t := 128) F dX9_chance_126 rfl rfl ?_
                      refine q_ldiv (t := 129) F dX9_chance_128 (by constructor <;> omega) (by constructor <;> omega) (by omega) (by omega) rfl ?_
                      refine q_lret F dX9_chance_129 rfl ?_
                      try simp only [Int.toNat_natCast]
                      first
                        | (refine ⟨_, rfl, im, lm, ?_, hR, agS_rfl im, lgQ_rfl lm, rfl⟩
                           rw [if_neg (by omega)])
                        | (have ey : y = 0 := by omega
                           subst ey
                           refine ⟨_, rfl, S, lg, ?_, hRS, hag, hlg, rfl⟩
                           rw [Nat.gcd_zero_right] at hgc
                           (try rw [etp, etn])
                           rw [if_pos (by first | exact hok | omega), ← hgc]
                           first
                             | rw [if_pos (by omega)]
                             | rw [if_neg (by omega)])
                        | omega
                    · refine q_lload (t := 118) F dX9_chance_116 rfl rfl ?_
                      refine q_lload (t := 120) F dX9_chance_118 rfl rfl ?_
                      refine q_ldiv (t := 121) F dX9_chance_120 (by constructor <;> omega) (by constructor <;> omega) (by omega) (by omega) rfl ?_
                      refine q_goto (t := 129) F dX9_chance_121 (by decide) ?_
                      refine q_lret F dX9_chance_129 rfl ?_
                      try simp only [Int.toNat_natCast]
                      first
                        | (refine ⟨_, rfl, im, lm, ?_, hR, agS_rfl im, lgQ_rfl lm, rfl⟩
                           rw [if_neg (by omega)])
                        | (have ey : y = 0 := by omega
                           subst ey
                           refine ⟨_, rfl, S, lg, ?_, hRS, hag, hlg, rfl⟩
                           rw [Nat.gcd_zero_right] at hgc
                           (try rw [etp, etn])
                           rw [if_pos (by first | exact hok | omega), ← hgc]
                           first
                             | rw [if_pos (by omega)]
                             | rw [if_neg (by omega)])
                        | omega
                  · refine q_lload (t := 95) F dX9_chance_93 rfl rfl ?_
                    refine q_lload (t := 97) F dX9_chance_95 rfl rfl ?_
                    refine q_lrem (t := 98) F dX9_chance_97 (by constructor <;> omega) (by constructor <;> omega) (by omega) (by omega) rfl ?_
                    refine q_lstore (t := 100) F dX9_chance_98 (by decide) rfl rfl ?_
                    refine q_lload (t := 102) F dX9_chance_100 rfl rfl ?_
                    refine q_lstore (t := 104) F dX9_chance_102 (by decide) rfl rfl ?_
                    refine q_lload (t := 106) F dX9_chance_104 rfl rfl ?_
                    refine q_lstore (t := 108) F dX9_chance_106 (by decide) rfl rfl ?_
                    refine q_goto (t := 86) F dX9_chance_108 (by decide) ?_
                    refine wp_less 11 ?_
                    have hy0 : 0 < y := by omega
                    rw [show (x : Int) % (y : Int) = ((x % y : Nat) : Int) from (Int.natCast_emod x y).symm]
                    have hml := Nat.mod_lt x hy0
                    exact ih86 y (x % y) (by omega) ⟨by omega, by omega, by rw [← hgc, Nat.gcd_comm y (x % y), ← Nat.gcd_rec, Nat.gcd_comm]⟩
              have L0 := L86 _ (hiR im p seed n).toNat n (Nat.lt_succ_self _) ⟨by omega, by omega, rfl⟩
              rw [Int.toNat_of_nonneg hhi.1] at L0
              exact L0
            · refine q_lload (t := 49) F dX9_chance_47 rfl rfl ?_
              refine q_aload_n (t := 50) F dX9_chance_49 rfl rfl rfl ?_
              refine q_iload_n (t := 51) F dX9_chance_50 rfl rfl rfl ?_
              refine q_iload_n (t := 52) F dX9_chance_51 rfl rfl rfl ?_
              refine q_iload (t := 54) F dX9_chance_52 rfl rfl ?_
              refine q_iadd (t := 55) F dX9_chance_54 rfl ?_
              refine q_norm ?_
              refine q_bipush (t := 57) F dX9_chance_55 (by decide) rfl ?_
              refine wp_callV (t := 60) [_, _, _] F dX9_chance_57 k_X9_eats v_X9_eats ml_X9_452 rfl rfl rfl rfl (Nat.le_of_ble_eq_true rfl) (by decide) (m_30 (by omega)) (c_X9_eats _ G S bt rt lg (h.S hRS hag) p 16 (by rw [e12]; omega) (by omega) (bm (seed + (k : Int))) (ri_b _)) rfl (kI ?_)
              rintro x57 m' ⟨im2, lm2, hx57, hR2, hag2, hlg2, rfl⟩
              rw [(eaI_C hag.C.1 hag.C.2 p (bm (seed + (k : Int))) 16).2] at hx57
              have hea := eaN_in im p (bm (seed + (k : Int))) 16
              refine q_iconst (t := 61) F dX9_chance_60 rfl ?_
              refine q_icmp_le (t := 64) (u := 68) F dX9_chance_61 (by first | exact hR _ _ _ | (constructor <;> omega)) (by first | exact hR _ _ _ | (constructor <;> omega)) (by decide) rfl (fun c61 => ?_) (fun c61 => ?_)
              · refine q_lconst (t := 69) (x := 0) F dX9_chance_68 (by decide) rfl ?_
                refine q_ladd (t := 70) F dX9_chance_69 rfl ?_
                refine q_lstore (t := 72) F dX9_chance_70 (by decide) rfl rfl ?_
                refine q_iinc (t := 75) F dX9_chance_72 rfl (by decide) rfl rfl ?_
                refine q_goto (t := 41) F dX9_chance_75 (by decide) ?_
                rw [show (k : Int) + 1 = ((k + 1 : Nat) : Int) by omega]
                first
                  | (rw [show hiR im p seed k + 1 = hiR im p seed (k + 1) by rw [hhs, if_pos (by omega)]]
                     exact ih41 (k + 1) _ lm2 (by omega) ⟨by omega, hR2, hag2.trans hag, hlg2.trans hlg⟩)
                  | (rw [show hiR im p seed k + 0 = hiR im p seed (k + 1) by rw [hhs, if_neg (by omega), Int.add_zero]]
                     exact ih41 (k + 1) _ lm2 (by omega) ⟨by omega, hR2, hag2.trans hag, hlg2.trans hlg⟩)
                  | omega
              · refine q_lconst (t := 65) (x := 1) F dX9_chance_64 (by decide) rfl ?_
                refine q_goto (t := 69) F dX9_chance_65 (by decide) ?_
                refine q_ladd (t := 70) F dX9_chance_69 rfl ?_
                refine q_lstore (t := 72) F dX9_chance_70 (by decide) rfl rfl ?_
                refine q_iinc (t := 75) F dX9_chance_72 rfl (by decide) rfl rfl ?_
                refine q_goto (t := 41) F dX9_chance_75 (by decide) ?_
                rw [show (k : Int) + 1 = ((k + 1 : Nat) : Int) by omega]
                first
                  | (rw [show hiR im p seed k + 1 = hiR im p seed (k + 1) by rw [hhs, if_pos (by omega)]]
                     exact ih41 (k + 1) _ lm2 (by omega) ⟨by omega, hR2, hag2.trans hag, hlg2.trans hlg⟩)
                  | (rw [show hiR im p seed k + 0 = hiR im p seed (k + 1) by rw [hhs, if_neg (by omega), Int.add_zero]]
                     exact ih41 (k + 1) _ lm2 (by omega) ⟨by omega, hR2, hag2.trans hag, hlg2.trans hlg⟩)
                  | omega
        exact L41 _ 0 im lm (Nat.lt_succ_self _) ⟨by omega, hR, agS_rfl im, lgQ_rfl lm⟩
      · refine q_ldc2 (t := 34) (x := -4611686018427387904) F dX9_chance_31 kl_X9_457 (by decide) rfl ?_
        refine q_lret F dX9_chance_34 rfl ?_
        try simp only [Int.toNat_natCast]
        first
          | (refine ⟨_, rfl, im, lm, ?_, hR, agS_rfl im, lgQ_rfl lm, rfl⟩
             rw [if_neg (by omega)])
          | (have ey : y = 0 := by omega
             subst ey
             refine ⟨_, rfl, S, lg, ?_, hRS, hag, hlg, rfl⟩
             rw [Nat.gcd_zero_right] at hgc
             (try rw [etp, etn])
             rw [if_pos (by first | exact hok | omega), ← hgc]
             first
               | rw [if_pos (by omega)]
               | rw [if_neg (by omega)])
          | omega
end
section
/-! the reference: tells (what it keeps) -/

theorem agS_try {S im : IM} {k s : Nat} (v : Int) (h : agS (up S k 0 s (im k 0 s)) im) : agS (up S k 0 s v) (up im k 0 s v) := by
  intro k' s' a b
  have e := h k' s' a b
  rw [up_app] at e
  rw [up_app, up_app]
  by_cases z : k' = k ∧ 0 = 0 ∧ s' = s
  · rw [if_pos z, if_pos z]
  · rw [if_neg z] at e
    rw [if_neg z, if_neg z]
    exact e
theorem agS_bk {S S2 im : IM} {k s : Nat} {v : Int} (h : agS (up S k 0 s (im k 0 s)) im) (h2 : agS S2 (up S k 0 s v)) : agS (up S2 k 0 s (im k 0 s)) im := by
  intro k' s' a b
  have e := h k' s' a b
  have e2 := h2 k' s' a b
  rw [up_app] at e e2 ⊢
  by_cases z : k' = k ∧ 0 = 0 ∧ s' = s
  · rw [if_pos z, z.1, z.2.2]
  · rw [if_neg z] at e e2 ⊢
    exact e2.trans e
theorem agS_id {S im : IM} (k s : Nat) (h : agS S im) : agS (up S k 0 s (im k 0 s)) im := by
  intro k' s' a b
  rw [up_app]
  by_cases z : k' = k ∧ 0 = 0 ∧ s' = s
  · rw [if_pos z, z.1, z.2.2]
  · rw [if_neg z]
    exact h k' s' a b
theorem RC_ly {im : IM} (h : RC im) {what v : Int} {p : Nat} (hv : (what = 0 ∧ 0 ≤ v ∧ v ≤ 999) ∨ (what = 1 ∧ 0 ≤ v ∧ v < 16777216) ∨ (what = 2 ∧ 0 ≤ v ∧ v ≤ 9) ∨ (what = 3 ∧ 0 ≤ v ∧ v ≤ 5) ∨ (what = 4 ∧ 0 ≤ v ∧ v < im 30 0 3)) : RC (lyI im what p v) := by
  have h' := h
  obtain ⟨hR, hX, h4, h12, h7, h8, hP⟩ := h
  have h3 := hX.2.2.2.1
  rcases hv with ⟨rfl, a, b⟩ | ⟨rfl, a, b⟩ | ⟨rfl, a, b⟩ | ⟨rfl, a, b⟩ | ⟨rfl, a, b⟩
  · exact ⟨RI_up hR (by constructor <;> omega), hX.same (fun _ => rfl) (fun _ => rfl) (fun _ => rfl) rfl rfl, h4, h12, by (show 0 ≤ v ∧ v ≤ 1100); omega, h8, hP⟩
  · exact RC_bell h' ⟨a, b⟩
  · refine ⟨RI_up hR (by constructor <;> omega), hX.same (fun _ => rfl) (fun _ => rfl) (fun _ => rfl) rfl rfl, h4, h12, h7, h8, fun m hm => ?_⟩
    have e := hP m hm
    refine ⟨e.1, ?_, e.2.2⟩
    show 0 ≤ up im 35 0 p v 35 0 m ∧ up im 35 0 p v 35 0 m < 10
    rw [up_app]
    split
    · omega
    · exact e.2.1
  · refine ⟨RI_up hR (by constructor <;> omega), hX.same (fun _ => rfl) (fun _ => rfl) (fun _ => rfl) rfl rfl, h4, h12, h7, h8, fun m hm => ?_⟩
    have e := hP m hm
    refine ⟨?_, e.2.1, e.2.2⟩
    show 0 ≤ up im 34 0 p v 34 0 m ∧ up im 34 0 p v 34 0 m < 6
    rw [up_app]
    split
    · omega
    · exact e.1
  · exact RC_force h' a b
theorem AG_ly {im : IM} {x : Int} (h : AG im x) (what v : Int) (p : Nat) : AG (lyI im what p v) x := by
  intro q hq hne
  have e : ∀ k s, (k = 36 ∨ k = 37 ∨ k = 30 ∧ s = 12) → lyI im what p v k 0 s = im k 0 s := fun k s z => by
    unfold lyI
    (repeat' split) <;> rw [up_app, if_neg (by omega)]
  rw [e 30 12 (by omega)] at hq
  rw [e 36 q (by omega)] at hne
  rw [e 37 q (by omega)]
  exact h q hq hne
theorem RP_one {im : IM} {p : Nat} (h : RP im p) {k s : Nat} {v : Int} (hk : (k = 36 ∧ -1 ≤ v ∧ v < 16 ∧ im 36 0 s ≠ -1) ∨ (k = 37 ∧ 0 ≤ v ∧ v ≤ 1100)) : RP (up im k 0 s v) p := by
  obtain ⟨a, b, c⟩ := h
  have e : ∀ k', k' = 34 ∨ k' = 35 → up im k 0 s v k' 0 p = im k' 0 p := fun k' _ => by rw [up_app, if_neg (by omega)]
  refine ⟨by rw [e 34 (by omega)]; exact a, by rw [e 35 (by omega)]; exact b, fun g hg => ?_⟩
  have d := c g hg
  rcases hk with ⟨rfl, v0, v1, hs⟩ | ⟨rfl, v0, v1⟩
  · rw [up_app, up_app, if_neg (show ¬ (37 = 36 ∧ 0 = 0 ∧ 10 * p + g = s) by omega)]
    by_cases z : 36 = 36 ∧ 0 = 0 ∧ 10 * p + g = s
    · rw [if_pos z]
      rw [z.2.2] at d ⊢
      exact ⟨v0, v1, fun _ => d.2.2 hs⟩
    · rw [if_neg z]
      exact d
  · rw [up_app, if_neg (show ¬ (36 = 37 ∧ 0 = 0 ∧ 10 * p + g = s) by omega), up_app]
    refine ⟨d.1, d.2.1, fun z => ?_⟩
    split
    · omega
    · exact d.2.2 z
theorem RC_one {im : IM} (h : RC im) {k s : Nat} {v : Int} (hk : (k = 36 ∧ -1 ≤ v ∧ v < 16 ∧ im 36 0 s ≠ -1) ∨ (k = 37 ∧ 0 ≤ v ∧ v ≤ 1100)) : RC (up im k 0 s v) := by
  obtain ⟨hR, hX, h4, h12, h7, h8, hP⟩ := h
  have e : ∀ k' s', ¬ (k' = 36 ∨ k' = 37) → up im k 0 s v k' 0 s' = im k' 0 s' := fun k' s' _ => by rw [up_app, if_neg (by omega)]
  have h3 := e 30 3 (by omega)
  refine ⟨RI_up hR (by rcases hk with z | z <;> (constructor <;> omega)), hX.same (fun _ => e _ _ (by omega)) (fun _ => e _ _ (by omega)) (fun _ => e _ _ (by omega)) h3 (e _ _ (by omega)), by rw [h3, e 30 4 (by omega)]; exact h4, by rw [e 30 12 (by omega)]; exact h12, by rw [e 30 7 (by omega)]; exact h7, by rw [e 30 8 (by omega)]; exact h8, fun m hm => ?_⟩
  rw [e 30 12 (by omega)] at hm
  exact RP_one (hP m hm) hk
theorem AG_one {im : IM} (h : AG im 1000) {k s : Nat} {v : Int} (hk : (k = 36 ∧ im 36 0 s ≠ -1) ∨ (k = 37 ∧ v ≤ 1000)) : AG (up im k 0 s v) 1000 := by
  intro q hq hne
  rw [up_app, if_neg (by omega)] at hq
  have g := h q hq
  rcases hk with ⟨rfl, hs⟩ | ⟨rfl, v1⟩
  · rw [up_app, if_neg (by omega)]
    rw [up_app] at hne
    split at hne
    · rename_i z
      rw [z.2.2] at g ⊢
      exact g hs
    · exact g hne
  · rw [up_app, if_neg (by omega)] at hne
    rw [up_app]
    split
    · exact v1
    · exact g hne
/-- what is tried may stand -/
def TRY (im : IM) (k s : Nat) (v : Int) : Prop := RC (up im k 0 s v) ∧ AG (up im k 0 s v) 1000
theorem or_lt {z v : Nat} (h : z < 2 ^ v) : z ||| 2 ^ v < 2 ^ (v + 1) ∧ z ||| 0 < 2 ^ (v + 1) := by
  have h1 : 2 ^ v < 2 ^ (v + 1) := Nat.pow_lt_pow_right (by omega) (by omega)
  exact ⟨Nat.or_lt_two_pow (by omega) h1, Nat.or_lt_two_pow (by omega) (Nat.two_pow_pos _)⟩
theorem pow_le16 {v : Nat} (h : v ≤ 16) : 2 ^ v ≤ 65536 := by
  have h9 := Nat.pow_le_pow_right (n := 2) (by omega) h
  exact h9

set_option maxHeartbeats 4000000 in
theorem c_X9_firstOther (l : Launch) (G : GS) (im : IM) (bt rt : Nat) (lm : IM) (h : RC im) (hA : AG im 1000) (h79 : im 30 0 7 ≤ 999) (s p : Nat) (hs : s < 4) (hp : (p : Int) < im 30 0 12) : Cn l (XR G) yX9_firstOther Y_X9_firstOther [vR 30 0, vI (s : Int), vI (p : Int)] (im, rs bt rt, lm) (pI fun x m' => (-1 ≤ x ∧ x ≤ 9) ∧ ∃ im' lm', RI im' ∧ agS im' im ∧ lgQ lm' lm ∧ m' = (im', rs bt rt, lm')) := by
  refine cn_of (by decide) (okR G) rfl (Nat.le_of_ble_eq_true rfl) ?_
  intro M ad hMl F
  subst hMl
  have hR := h.1
  have h12 := h.2.2.2.1
  refine wp_pad 1 ?_
  show Wp M (XR G) ad Y_X9_firstOther (pI fun x m' => (-1 ≤ x ∧ x ≤ 9) ∧ ∃ im' lm', RI im' ∧ agS im' im ∧ lgQ lm' lm ∧ m' = (im', rs bt rt, lm')) 0 [some (vR 30 0), some (vI (s : Int)), some (vI (p : Int)), none] [] (im, rs bt rt, lm)
  refine q_aload_n (t := 1) F dX9_firstOther_0 rfl rfl rfl ?_
  refine q_bipush (t := 3) F dX9_firstOther_1 (by decide) rfl ?_
  refine wp_callV (t := 6) [_] F dX9_firstOther_3 k_X9_runs v_X9_runs ml_X9_410 rfl rfl rfl rfl (Nat.le_of_ble_eq_true rfl) (by decide) (m_30 (by omega)) (c_X9_runs _ G im bt rt lm h hA h79 60 (by omega)) rfl (kV ?_)
  rintro m' ⟨im2, lm2, hR2, hU, hlg2, rfl⟩
  refine q_iconst (t := 7) F dX9_firstOther_6 rfl ?_
  refine q_istore_n (t := 8) F dX9_firstOther_7 rfl (by decide) rfl rfl ?_
  have L8 : ∀ (fz : Nat) (g : Nat), 10 - g < fz → g ≤ 10 → Wp M (XR G) ad Y_X9_firstOther (pI fun x m' => (-1 ≤ x ∧ x ≤ 9) ∧ ∃ im' lm', RI im' ∧ agS im' im ∧ lgQ lm' lm ∧ m' = (im', rs bt rt, lm')) 8 [some (vR 30 0), some (vI (s : Int)), some (vI (p : Int)), some (vI (g : Int))] [] (im2, rs bt rt, lm2) := by
    intro fz
    induction fz with
    | zero => intro g h; exact absurd h (Nat.not_lt_zero _)
    | succ fz ih =>
      have ih8 := ih
      intro g hmeas hg
      refine q_iload_n (t := 9) F dX9_firstOther_8 rfl rfl rfl ?_
      refine q_bipush (t := 11) F dX9_firstOther_9 (by decide) rfl ?_
      refine q_icmp_ge (t := 14) (u := 47) F dX9_firstOther_11 (by constructor <;> omega) (by constructor <;> omega) (by decide) rfl (fun c11 => ?_) (fun c11 => ?_)
      · refine q_iconst (t := 48) F dX9_firstOther_47 rfl ?_
        refine q_iret F dX9_firstOther_48 rfl ?_
        exact ⟨_, rfl, by omega, im2, lm2, hR2, hU.1.S, hlg2, rfl⟩
      · refine q_aload_n (t := 15) F dX9_firstOther_14 rfl rfl rfl ?_
        refine g_X9_38 (t := 18) F dX9_firstOther_15 rfl rfl ?_
        refine q_bipush (t := 20) F dX9_firstOther_18 (by decide) rfl ?_
        refine q_iload_n (t := 21) F dX9_firstOther_20 rfl rfl rfl ?_
        refine q_imul (t := 22) F dX9_firstOther_21 rfl ?_
        refine q_iload_n (t := 23) F dX9_firstOther_22 rfl rfl rfl ?_
        refine q_iadd (t := 24) F dX9_firstOther_23 rfl ?_
        rw [show (10 : Int) * (p : Int) + (g : Int) = ((10 * p + g : Nat) : Int) by omega]
        first | refine ldN_38 (t := 25) F dX9_firstOther_24 (by omega) rfl ?_ | refine ld_38 (t := 25) F dX9_firstOther_24 (by omega) (by omega) rfl ?_
        try simp only [up_app, row_app, scr_app, cpy_app, Nat.reduceEqDiff, Int.reduceToNat, Int.toNat_natCast, and_true, true_and, and_false, false_and, and_self, reduceIte]
        refine q_aload_n (t := 26) F dX9_firstOther_25 rfl rfl rfl ?_
        refine g_X9_78 (t := 29) F dX9_firstOther_26 rfl rfl ?_
        refine q_bipush (t := 31) F dX9_firstOther_29 (by decide) rfl ?_
        refine q_iload_n (t := 32) F dX9_firstOther_31 rfl rfl rfl ?_
        refine q_imul (t := 33) F dX9_firstOther_32 rfl ?_
        refine q_iload_n (t := 34) F dX9_firstOther_33 rfl rfl rfl ?_
        refine q_iadd (t := 35) F dX9_firstOther_34 rfl ?_
        rw [show (40 : Int) * (s : Int) + (g : Int) = ((40 * s + g : Nat) : Int) by omega]
        first | refine ldN_50 (t := 36) F dX9_firstOther_35 (by omega) rfl ?_ | refine ld_50 (t := 36) F dX9_firstOther_35 (by omega) (by omega) rfl ?_
        try simp only [up_app, row_app, scr_app, cpy_app, Nat.reduceEqDiff, Int.reduceToNat, Int.toNat_natCast, and_true, true_and, and_false, false_and, and_self, reduceIte]
        refine q_icmp_eq (t := 39) (u := 41) F dX9_firstOther_36 (by exact hR2 _ _ _) (by exact hR2 _ _ _) (by decide) rfl (fun c36 => ?_) (fun c36 => ?_)
        · refine q_iinc (t := 44) F dX9_firstOther_41 rfl (by decide) rfl rfl ?_
          refine q_goto (t := 8) F dX9_firstOther_44 (by decide) ?_
          rw [show (g : Int) + 1 = ((g + 1 : Nat) : Int) by omega]
          exact ih8 (g + 1) (by omega) (by omega)
        · refine q_iload_n (t := 40) F dX9_firstOther_39 rfl rfl rfl ?_
          refine q_iret F dX9_firstOther_40 rfl ?_
          exact ⟨_, rfl, by omega, im2, lm2, hR2, hU.1.S, hlg2, rfl⟩
  exact L8 _ 0 (Nat.lt_succ_self _) (by omega)

set_option maxHeartbeats 4000000 in
theorem c_X9_setBy (l : Launch) (G : GS) (im : IM) (bt rt : Nat) (lm : IM) (h : RC im) (hA : AG im 1000) (h79 : im 30 0 7 ≤ 999) (s p : Nat) (hs : s < 4) (hp : (p : Int) < im 30 0 12) (sort : Int) (hso : sort = 2 ∨ sort = 3 ∨ sort = 4) (all : Nat) (hall : all ≤ 10) (k t : Nat) (hkt : k = 35 ∧ t < 5 ∨ k = 34 ∧ t < 5 ∨ k = 30 ∧ t = 4) (hly : ∀ S v, lyI S sort p v = up S k 0 t v) (htd : sort ≠ 4 → tdR im p sort = im k 0 t) (ht4 : sort = 4 → k = 30 ∧ t = 4) (htry : ∀ v : Nat, v < all → TRY im k t v) : Cn l (XR G) yX9_setBy Y_X9_setBy [vR 30 0, vI (s : Int), vI (p : Int), vI sort, vI (all : Int)] (im, rs bt rt, lm) (pI fun x m' => ri x ∧ ∃ im' lm', RI im' ∧ agS im' im ∧ lgQ lm' lm ∧ m' = (im', rs bt rt, lm')) := by
  refine cn_of (by decide) (okR G) rfl (Nat.le_of_ble_eq_true rfl) ?_
  intro M ad hMl F
  subst hMl
  have hR := h.1
  have h12 := h.2.2.2.1
  refine wp_pad 3 ?_
  show Wp M (XR G) ad Y_X9_setBy (pI fun x m' => ri x ∧ ∃ im' lm', RI im' ∧ agS im' im ∧ lgQ lm' lm ∧ m' = (im', rs bt rt, lm')) 0 [some (vR 30 0), some (vI (s : Int)), some (vI (p : Int)), some (vI sort), some (vI (all : Int)), none, none, none] [] (im, rs bt rt, lm)
  refine q_iload_n (t := 1) F dX9_setBy_0 rfl rfl rfl ?_
  refine q_iconst (t := 2) F dX9_setBy_1 rfl ?_
  refine q_icmp_ne (t := 5) (u := 12) F dX9_setBy_2 (by constructor <;> omega) (by constructor <;> omega) (by decide) rfl (fun c2 => ?_) (fun c2 => ?_)
  · refine q_aload_n (t := 13) F dX9_setBy_12 rfl rfl rfl ?_
    refine q_iload_n (t := 14) F dX9_setBy_13 rfl rfl rfl ?_
    refine q_iload_n (t := 15) F dX9_setBy_14 rfl rfl rfl ?_
    refine wp_callV (t := 18) [_, _] F dX9_setBy_15 k_X9_told v_X9_told ml_X9_109 rfl rfl rfl rfl (Nat.le_of_ble_eq_true rfl) (by decide) (m_30 (by omega)) (c_X9_told _ G im bt rt lm h (p : Int) sort (by constructor <;> omega) (by constructor <;> omega)) rfl (kI ?_)
    rintro x15 m' ⟨im1, lm1, hx15, hR1, hag1, hlg1, rfl⟩
    have hx15 := hx15.trans (htd (by omega))
    first
      | (rw [hx15])
      | (obtain ⟨hk9, ht9⟩ := ht4 (by omega)
         rw [show im 30 0 4 = im k 0 t by rw [hk9, ht9]])
    refine q_istore (t := 20) F dX9_setBy_18 (by decide) rfl rfl ?_
    refine q_iconst (t := 21) F dX9_setBy_20 rfl ?_
    refine q_istore (t := 23) F dX9_setBy_21 (by decide) rfl rfl ?_
    refine q_iconst (t := 24) F dX9_setBy_23 rfl ?_
    refine q_istore (t := 26) F dX9_setBy_24 (by decide) rfl rfl ?_
    have L26 : ∀ (fz : Nat) (v z : Nat) (S lg : IM), 11 - v < fz → (v ≤ all ∧ z < 2 ^ v ∧ RI S ∧ agS (up S k 0 t (im k 0 t)) im ∧ lgQ lg lm) → Wp M (XR G) ad Y_X9_setBy (pI fun x m' => ri x ∧ ∃ im' lm', RI im' ∧ agS im' im ∧ lgQ lm' lm ∧ m' = (im', rs bt rt, lm')) 26 [some (vR 30 0), some (vI (s : Int)), some (vI (p : Int)), some (vI sort), some (vI (all : Int)), some (vI (im k 0 t)), some (vI (z : Int)), some (vI (v : Int))] [] (S, rs bt rt, lg) := by
      intro fz
      induction fz with
      | zero => intro v z S lg h; exact absurd h (Nat.not_lt_zero _)
      | succ fz ih =>
        have ih26 := ih
        intro v z S lg hmeas ⟨hv, hz, hRS, hag, hlg⟩
        have hpw := pow_le16 (v := v) (by omega)
        have hor := or_lt hz
        refine q_iload (t := 28) F dX9_setBy_26 rfl rfl ?_
        refine q_iload (t := 30) F dX9_setBy_28 rfl rfl ?_
        refine q_icmp_ge (t := 33) (u := 70) F dX9_setBy_30 (by constructor <;> omega) (by constructor <;> omega) (by decide) rfl (fun c30 => ?_) (fun c30 => ?_)
        · refine q_aload_n (t := 71) F dX9_setBy_70 rfl rfl rfl ?_
          refine q_iload_n (t := 72) F dX9_setBy_71 rfl rfl rfl ?_
          refine q_iload_n (t := 73) F dX9_setBy_72 rfl rfl rfl ?_
          refine q_iload (t := 75) F dX9_setBy_73 rfl rfl ?_
          refine wp_callV (t := 78) [_, _, _] F dX9_setBy_75 k_X9_lays v_X9_lays ml_X9_113 rfl rfl rfl rfl (Nat.le_of_ble_eq_true rfl) (by decide) (m_30 (by omega)) (c_X9_lays _ G S bt rt lg sort (im k 0 t) p (by constructor <;> omega) (fun _ => by omega)) rfl (kV ?_)
          rintro m' rfl
          rw [hly]
          refine q_iload (t := 80) F dX9_setBy_78 rfl rfl ?_
          refine q_iret F dX9_setBy_80 rfl ?_
          exact ⟨_, rfl, by constructor <;> omega, _, lg, RI_up hRS (hR _ _ _), hag, hlg, rfl⟩
        · refine q_aload_n (t := 34) F dX9_setBy_33 rfl rfl rfl ?_
          refine q_iload_n (t := 35) F dX9_setBy_34 rfl rfl rfl ?_
          refine q_iload_n (t := 36) F dX9_setBy_35 rfl rfl rfl ?_
          refine q_iload (t := 38) F dX9_setBy_36 rfl rfl ?_
          refine wp_callV (t := 41) [_, _, _] F dX9_setBy_38 k_X9_lays v_X9_lays ml_X9_113 rfl rfl rfl rfl (Nat.le_of_ble_eq_true rfl) (by decide) (m_30 (by omega)) (c_X9_lays _ G S bt rt lg sort (v : Int) p (by constructor <;> omega) (fun _ => by omega)) rfl (kV ?_)
          rintro m' rfl
          rw [hly]
          have hag1 := agS_try (v : Int) hag
          have hRS1 : RI (up S k 0 t (v : Int)) := RI_up hRS (by constructor <;> omega)
          have hRC1 : RC (up S k 0 t (v : Int)) := (htry v (by omega)).1.S hRS1 hag1
          have hA1 : AG (up S k 0 t (v : Int)) 1000 := (htry v (by omega)).2.C hag1.C.1
          refine q_iload (t := 43) F dX9_setBy_41 rfl rfl ?_
          refine q_aload_n (t := 44) F dX9_setBy_43 rfl rfl rfl ?_
          refine q_iload_n (t := 45) F dX9_setBy_44 rfl rfl rfl ?_
          refine q_iload_n (t := 46) F dX9_setBy_45 rfl rfl rfl ?_
          refine wp_callV (t := 49) [_, _] F dX9_setBy_46 k_X9_firstOther v_X9_firstOther ml_X9_430 rfl rfl rfl rfl (Nat.le_of_ble_eq_true rfl) (by decide) (m_30 (by omega)) (c_X9_firstOther _ G (up S k 0 t (v : Int)) bt rt lg hRC1 hA1 (by rw [hag1.C.2, up_app, if_neg (by omega)]; exact h79) s p hs (by rw [hag1.C.1.2.2.2.2.2, up_app, if_neg (by omega)]; exact hp)) rfl (kI ?_)
          rintro x46 m' ⟨hx46, im2, lg2, hR2, hag2, hlg2, rfl⟩
          have hbk := agS_bk hag hag2
          refine q_iconst (t := 50) F dX9_setBy_49 rfl ?_
          refine q_icmp_ne (t := 53) (u := 57) F dX9_setBy_50 (by constructor <;> omega) (by constructor <;> omega) (by decide) rfl (fun c50 => ?_) (fun c50 => ?_)
          · refine q_iconst (t := 58) F dX9_setBy_57 rfl ?_
            refine q_iload (t := 60) F dX9_setBy_58 rfl rfl ?_
            refine q_ishl (t := 61) F dX9_setBy_60 (by omega) (by omega) rfl ?_
            first | rw [pow_cast v] | rw [pow_cast0 v]
            refine q_ior (t := 62) F dX9_setBy_61 rfl ?_
            refine q_istore (t := 64) F dX9_setBy_62 (by decide) rfl rfl ?_
            refine q_iinc (t := 67) F dX9_setBy_64 rfl (by decide) rfl rfl ?_
            refine q_goto (t := 26) F dX9_setBy_67 (by decide) ?_
            rw [show (v : Int) + 1 = ((v + 1 : Nat) : Int) by omega]
            first
              | exact ih26 (v + 1) (z ||| 2 ^ v) im2 lg2 (by omega) ⟨by omega, hor.1, hR2, hbk, hlg2.trans hlg⟩
              | exact ih26 (v + 1) (z ||| 0) im2 lg2 (by omega) ⟨by omega, hor.2, hR2, hbk, hlg2.trans hlg⟩
          · refine q_iconst (t := 54) F dX9_setBy_53 rfl ?_
            refine q_goto (t := 58) F dX9_setBy_54 (by decide) ?_
            refine q_iload (t := 60) F dX9_setBy_58 rfl rfl ?_
            refine q_ishl (t := 61) F dX9_setBy_60 (by omega) (by omega) rfl ?_
            first | rw [pow_cast v] | rw [pow_cast0 v]
            refine q_ior (t := 62) F dX9_setBy_61 rfl ?_
            refine q_istore (t := 64) F dX9_setBy_62 (by decide) rfl rfl ?_
            refine q_iinc (t := 67) F dX9_setBy_64 rfl (by decide) rfl rfl ?_
            refine q_goto (t := 26) F dX9_setBy_67 (by decide) ?_
            rw [show (v : Int) + 1 = ((v + 1 : Nat) : Int) by omega]
            first
              | exact ih26 (v + 1) (z ||| 2 ^ v) im2 lg2 (by omega) ⟨by omega, hor.1, hR2, hbk, hlg2.trans hlg⟩
              | exact ih26 (v + 1) (z ||| 0) im2 lg2 (by omega) ⟨by omega, hor.2, hR2, hbk, hlg2.trans hlg⟩
    first
      | exact L26 _ 0 0 im1 lm1 (Nat.lt_succ_self _) ⟨by omega, by decide, hR1, agS_id _ _ (hag1.O.S), hlg1⟩
      | exact L26 _ 0 0 im lm (Nat.lt_succ_self _) ⟨by omega, by decide, hR, agS_id _ _ (agS_rfl im), lgQ_rfl lm⟩
  · refine q_aload_n (t := 6) F dX9_setBy_5 rfl rfl rfl ?_
    refine g_X9_120 (t := 9) F dX9_setBy_6 rfl rfl ?_
    refine q_goto (t := 18) F dX9_setBy_9 (by decide) ?_
    first
      | (rw [hx15])
      | (obtain ⟨hk9, ht9⟩ := ht4 (by omega)
         rw [show im 30 0 4 = im k 0 t by rw [hk9, ht9]])
    refine q_istore (t := 20) F dX9_setBy_18 (by decide) rfl rfl ?_
    refine q_iconst (t := 21) F dX9_setBy_20 rfl ?_
    refine q_istore (t := 23) F dX9_setBy_21 (by decide) rfl rfl ?_
    refine q_iconst (t := 24) F dX9_setBy_23 rfl ?_
    refine q_istore (t := 26) F dX9_setBy_24 (by decide) rfl rfl ?_
    have L26 : ∀ (fz : Nat) (v z : Nat) (S lg : IM), 11 - v < fz → (v ≤ all ∧ z < 2 ^ v ∧ RI S ∧ agS (up S k 0 t (im k 0 t)) im ∧ lgQ lg lm) → Wp M (XR G) ad Y_X9_setBy (pI fun x m' => ri x ∧ ∃ im' lm', RI im' ∧ agS im' im ∧ lgQ lm' lm ∧ m' = (im', rs bt rt, lm')) 26 [some (vR 30 0), some (vI (s : Int)), some (vI (p : Int)), some (vI sort), some (vI (all : Int)), some (vI (im k 0 t)), some (vI (z : Int)), some (vI (v : Int))] [] (S, rs bt rt, lg) := by
      intro fz
      induction fz with
      | zero => intro v z S lg h; exact absurd h (Nat.not_lt_zero _)
      | succ fz ih =>
        have ih26 := ih
        intro v z S lg hmeas ⟨hv, hz, hRS, hag, hlg⟩
        have hpw := pow_le16 (v := v) (by omega)
        have hor := or_lt hz
        refine q_iload (t := 28) F dX9_setBy_26 rfl rfl ?_
        refine q_iload (t := 30) F dX9_setBy_28 rfl rfl ?_
        refine q_icmp_ge (t := 33) (u := 70) F dX9_setBy_30 (by constructor <;> omega) (by constructor <;> omega) (by decide) rfl (fun c30 => ?_) (fun c30 => ?_)
        · refine q_aload_n (t := 71) F dX9_setBy_70 rfl rfl rfl ?_
          refine q_iload_n (t := 72) F dX9_setBy_71 rfl rfl rfl ?_
          refine q_iload_n (t := 73) F dX9_setBy_72 rfl rfl rfl ?_
          refine q_iload (t := 75) F dX9_setBy_73 rfl rfl ?_
          refine wp_callV (t := 78) [_, _, _] F dX9_setBy_75 k_X9_lays v_X9_lays ml_X9_113 rfl rfl rfl rfl (Nat.le_of_ble_eq_true rfl) (by decide) (m_30 (by omega)) (c_X9_lays _ G S bt rt lg sort (im k 0 t) p (by constructor <;> omega) (fun _ => by omega)) rfl (kV ?_)
          rintro m' rfl
          rw [hly]
          refine q_iload (t := 80) F dX9_setBy_78 rfl rfl ?_
          refine q_iret F dX9_setBy_80 rfl ?_
          exact ⟨_, rfl, by constructor <;> omega, _, lg, RI_up hRS (hR _ _ _), hag, hlg, rfl⟩
        · refine q_aload_n (t := 34) F dX9_setBy_33 rfl rfl rfl ?_
          refine q_iload_n (t := 35) F dX9_setBy_34 rfl rfl rfl ?_
          refine q_iload_n (t := 36) F dX9_setBy_35 rfl rfl rfl ?_
          refine q_iload (t := 38) F dX9_setBy_36 rfl rfl ?_
          refine wp_callV (t := 41) [_, _, _] F dX9_setBy_38 k_X9_lays v_X9_lays ml_X9_113 rfl rfl rfl rfl (Nat.le_of_ble_eq_true rfl) (by decide) (m_30 (by omega)) (c_X9_lays _ G S bt rt lg sort (v : Int) p (by constructor <;> omega) (fun _ => by omega)) rfl (kV ?_)
          rintro m' rfl
          rw [hly]
          have hag1 := agS_try (v : Int) hag
          have hRS1 : RI (up S k 0 t (v : Int)) := RI_up hRS (by constructor <;> omega)
          have hRC1 : RC (up S k 0 t (v : Int)) := (htry v (by omega)).1.S hRS1 hag1
          have hA1 : AG (up S k 0 t (v : Int)) 1000 := (htry v (by omega)).2.C hag1.C.1
          refine q_iload (t := 43) F dX9_setBy_41 rfl rfl ?_
          refine q_aload_n (t := 44) F dX9_setBy_43 rfl rfl rfl ?_
          refine q_iload_n (t := 45) F dX9_setBy_44 rfl rfl rfl ?_
          refine q_iload_n (t := 46) F dX9_setBy_45 rfl rfl rfl ?_
          refine wp_callV (t := 49) [_, _] F dX9_setBy_46 k_X9_firstOther v_X9_firstOther ml_X9_430 rfl rfl rfl rfl (Nat.le_of_ble_eq_true rfl) (by decide) (m_30 (by omega)) (c_X9_firstOther _ G (up S k 0 t (v : Int)) bt rt lg hRC1 hA1 (by rw [hag1.C.2, up_app, if_neg (by omega)]; exact h79) s p hs (by rw [hag1.C.1.2.2.2.2.2, up_app, if_neg (by omega)]; exact hp)) rfl (kI ?_)
          rintro x46 m' ⟨hx46, im2, lg2, hR2, hag2, hlg2, rfl⟩
          have hbk := agS_bk hag hag2
          refine q_iconst (t := 50) F dX9_setBy_49 rfl ?_
          refine q_icmp_ne (t := 53) (u := 57) F dX9_setBy_50 (by constructor <;> omega) (by constructor <;> omega) (by decide) rfl (fun c50 => ?_) (fun c50 => ?_)
          · refine q_iconst (t := 58) F dX9_setBy_57 rfl ?_
            refine q_iload (t := 60) F dX9_setBy_58 rfl rfl ?_
            refine q_ishl (t := 61) F dX9_setBy_60 (by omega) (by omega) rfl ?_
            first | rw [pow_cast v] | rw [pow_cast0 v]
            refine q_ior (t := 62) F dX9_setBy_61 rfl ?_
            refine q_istore (t := 64) F dX9_setBy_62 (by decide) rfl rfl ?_
            refine q_iinc (t := 67) F dX9_setBy_64 rfl (by decide) rfl rfl ?_
            refine q_goto (t := 26) F dX9_setBy_67 (by decide) ?_
            rw [show (v : Int) + 1 = ((v + 1 : Nat) : Int) by omega]
            first
              | exact ih26 (v + 1) (z ||| 2 ^ v) im2 lg2 (by omega) ⟨by omega, hor.1, hR2, hbk, hlg2.trans hlg⟩
              | exact ih26 (v + 1) (z ||| 0) im2 lg2 (by omega) ⟨by omega, hor.2, hR2, hbk, hlg2.trans hlg⟩
          · refine q_iconst (t := 54) F dX9_setBy_53 rfl ?_
            refine q_goto (t := 58) F dX9_setBy_54 (by decide) ?_
            refine q_iload (t := 60) F dX9_setBy_58 rfl rfl ?_
            refine q_ishl (t := 61) F dX9_setBy_60 (by omega) (by omega) rfl ?_
            first | rw [pow_cast v] | rw [pow_cast0 v]
            refine q_ior (t := 62) F dX9_setBy_61 rfl ?_
            refine q_istore (t := 64) F dX9_setBy_62 (by decide) rfl rfl ?_
            refine q_iinc (t := 67) F dX9_setBy_64 rfl (by decide) rfl rfl ?_
            refine q_goto (t := 26) F dX9_setBy_67 (by decide) ?_
            rw [show (v : Int) + 1 = ((v + 1 : Nat) : Int) by omega]
            first
              | exact ih26 (v + 1) (z ||| 2 ^ v) im2 lg2 (by omega) ⟨by omega, hor.1, hR2, hbk, hlg2.trans hlg⟩
              | exact ih26 (v + 1) (z ||| 0) im2 lg2 (by omega) ⟨by omega, hor.2, hR2, hbk, hlg2.trans hlg⟩
    first
      | exact L26 _ 0 0 im1 lm1 (Nat.lt_succ_self _) ⟨by omega, by decide, hR1, agS_id _ _ (hag1.O.S), hlg1⟩
      | exact L26 _ 0 0 im lm (Nat.lt_succ_self _) ⟨by omega, by decide, hR, agS_id _ _ (agS_rfl im), lgQ_rfl lm⟩

set_option maxHeartbeats 4000000 in
theorem c_X9_wordsBy (l : Launch) (G : GS) (im : IM) (bt rt : Nat) (lm : IM) (h : RC im) (hA : AG im 1000) (h79 : im 30 0 7 ≤ 999) (s p q : Nat) (hs : s < 4) (hp : (p : Int) < im 30 0 12) (hq : q < 50) (hw : im 36 0 q ≠ -1) : Cn l (XR G) yX9_wordsBy Y_X9_wordsBy [vR 30 0, vI (s : Int), vI (p : Int), vI (q : Int)] (im, rs bt rt, lm) (pI fun x m' => ri x ∧ ∃ im' lm', RI im' ∧ agS im' im ∧ lgQ lm' lm ∧ m' = (im', rs bt rt, lm')) := by
  refine cn_of (by decide) (okR G) rfl (Nat.le_of_ble_eq_true rfl) ?_
  intro M ad hMl F
  subst hMl
  have hR := h.1
  have h12 := h.2.2.2.1
  refine wp_pad 3 ?_
  show Wp M (XR G) ad Y_X9_wordsBy (pI fun x m' => ri x ∧ ∃ im' lm', RI im' ∧ agS im' im ∧ lgQ lm' lm ∧ m' = (im', rs bt rt, lm')) 0 [some (vR 30 0), some (vI (s : Int)), some (vI (p : Int)), some (vI (q : Int)), none, none, none] [] (im, rs bt rt, lm)
  refine q_aload_n (t := 1) F dX9_wordsBy_0 rfl rfl rfl ?_
  refine g_X9_32 (t := 4) F dX9_wordsBy_1 rfl rfl ?_
  refine q_iload_n (t := 5) F dX9_wordsBy_4 rfl rfl rfl ?_
  first | refine ldN_36 (t := 6) F dX9_wordsBy_5 (by omega) rfl ?_ | refine ld_36 (t := 6) F dX9_wordsBy_5 (by omega) (by omega) rfl ?_
  refine q_istore (t := 8) F dX9_wordsBy_6 (by decide) rfl rfl ?_
  refine q_iconst (t := 9) F dX9_wordsBy_8 rfl ?_
  refine q_istore (t := 11) F dX9_wordsBy_9 (by decide) rfl rfl ?_
  refine q_iconst (t := 12) F dX9_wordsBy_11 rfl ?_
  refine q_istore (t := 14) F dX9_wordsBy_12 (by decide) rfl rfl ?_
  have L14 : ∀ (fz : Nat) (v z : Nat) (S lg : IM), 17 - v < fz → (v ≤ 16 ∧ z < 2 ^ v ∧ RI S ∧ agS (up S 36 0 q (im 36 0 q)) im ∧ lgQ lg lm) → Wp M (XR G) ad Y_X9_wordsBy (pI fun x m' => ri x ∧ ∃ im' lm', RI im' ∧ agS im' im ∧ lgQ lm' lm ∧ m' = (im', rs bt rt, lm')) 14 [some (vR 30 0), some (vI (s : Int)), some (vI (p : Int)), some (vI (q : Int)), some (vI (im 36 0 q)), some (vI (z : Int)), some (vI (v : Int))] [] (S, rs bt rt, lg) := by
    intro fz
    induction fz with
    | zero => intro v z S lg h; exact absurd h (Nat.not_lt_zero _)
    | succ fz ih =>
      have ih14 := ih
      intro v z S lg hmeas ⟨hv, hz, hRS, hag, hlg⟩
      have hpw := pow_le16 (v := v) (by omega)
      have hor := or_lt hz
      refine q_iload (t := 16) F dX9_wordsBy_14 rfl rfl ?_
      refine q_bipush (t := 18) F dX9_wordsBy_16 (by decide) rfl ?_
      refine q_icmp_ge (t := 21) (u := 58) F dX9_wordsBy_18 (by constructor <;> omega) (by constructor <;> omega) (by decide) rfl (fun c18 => ?_) (fun c18 => ?_)
      · refine q_aload_n (t := 59) F dX9_wordsBy_58 rfl rfl rfl ?_
        refine g_X9_32 (t := 62) F dX9_wordsBy_59 rfl rfl ?_
        refine q_iload_n (t := 63) F dX9_wordsBy_62 rfl rfl rfl ?_
        refine q_iload (t := 65) F dX9_wordsBy_63 rfl rfl ?_
        first | refine stN_36 (t := 66) F dX9_wordsBy_65 (by omega) rfl ?_ | refine st_36 (t := 66) F dX9_wordsBy_65 (by omega) (by omega) rfl ?_
        refine q_iload (t := 68) F dX9_wordsBy_66 rfl rfl ?_
        refine q_iret F dX9_wordsBy_68 rfl ?_
        exact ⟨_, rfl, by constructor <;> omega, _, lg, RI_up hRS (hR _ _ _), hag, hlg, rfl⟩
      · refine q_aload_n (t := 22) F dX9_wordsBy_21 rfl rfl rfl ?_
        refine g_X9_32 (t := 25) F dX9_wordsBy_22 rfl rfl ?_
        refine q_iload_n (t := 26) F dX9_wordsBy_25 rfl rfl rfl ?_
        refine q_iload (t := 28) F dX9_wordsBy_26 rfl rfl ?_
        first | refine stN_36 (t := 29) F dX9_wordsBy_28 (by omega) rfl ?_ | refine st_36 (t := 29) F dX9_wordsBy_28 (by omega) (by omega) rfl ?_
        have hag1 := agS_try (v : Int) hag
        have hRS1 : RI (up S 36 0 q (v : Int)) := RI_up hRS (by constructor <;> omega)
        have hRC1 : RC (up S 36 0 q (v : Int)) := (RC_one h (k := 36) (s := q) (v := (v : Int)) (Or.inl ⟨rfl, by omega, by omega, hw⟩)).S hRS1 hag1
        have hA1 : AG (up S 36 0 q (v : Int)) 1000 := (AG_one hA (k := 36) (s := q) (v := (v : Int)) (Or.inl ⟨rfl, hw⟩)).C hag1.C.1
        refine q_iload (t := 31) F dX9_wordsBy_29 rfl rfl ?_
        refine q_aload_n (t := 32) F dX9_wordsBy_31 rfl rfl rfl ?_
        refine q_iload_n (t := 33) F dX9_wordsBy_32 rfl rfl rfl ?_
        refine q_iload_n (t := 34) F dX9_wordsBy_33 rfl rfl rfl ?_
        refine wp_callV (t := 37) [_, _] F dX9_wordsBy_34 k_X9_firstOther v_X9_firstOther ml_X9_430 rfl rfl rfl rfl (Nat.le_of_ble_eq_true rfl) (by decide) (m_30 (by omega)) (c_X9_firstOther _ G (up S 36 0 q (v : Int)) bt rt lg hRC1 hA1 (by rw [hag1.C.2, up_app, if_neg (by omega)]; exact h79) s p hs (by rw [hag1.C.1.2.2.2.2.2, up_app, if_neg (by omega)]; exact hp)) rfl (kI ?_)
        rintro x34 m' ⟨hx34, im2, lg2, hR2, hag2, hlg2, rfl⟩
        have hbk := agS_bk hag hag2
        refine q_iconst (t := 38) F dX9_wordsBy_37 rfl ?_
        refine q_icmp_ne (t := 41) (u := 45) F dX9_wordsBy_38 (by constructor <;> omega) (by constructor <;> omega) (by decide) rfl (fun c38 => ?_) (fun c38 => ?_)
        · refine q_iconst (t := 46) F dX9_wordsBy_45 rfl ?_
          refine q_iload (t := 48) F dX9_wordsBy_46 rfl rfl ?_
          refine q_ishl (t := 49) F dX9_wordsBy_48 (by omega) (by omega) rfl ?_
          first | rw [pow_cast v] | rw [pow_cast0 v]
          refine q_ior (t := 50) F dX9_wordsBy_49 rfl ?_
          refine q_istore (t := 52) F dX9_wordsBy_50 (by decide) rfl rfl ?_
          refine q_iinc (t := 55) F dX9_wordsBy_52 rfl (by decide) rfl rfl ?_
          refine q_goto (t := 14) F dX9_wordsBy_55 (by decide) ?_
          rw [show (v : Int) + 1 = ((v + 1 : Nat) : Int) by omega]
          first
            | exact ih14 (v + 1) (z ||| 2 ^ v) im2 lg2 (by omega) ⟨by omega, hor.1, hR2, hbk, hlg2.trans hlg⟩
            | exact ih14 (v + 1) (z ||| 0) im2 lg2 (by omega) ⟨by omega, hor.2, hR2, hbk, hlg2.trans hlg⟩
        · refine q_iconst (t := 42) F dX9_wordsBy_41 rfl ?_
          refine q_goto (t := 46) F dX9_wordsBy_42 (by decide) ?_
          refine q_iload (t := 48) F dX9_wordsBy_46 rfl rfl ?_
          refine q_ishl (t := 49) F dX9_wordsBy_48 (by omega) (by omega) rfl ?_
          first | rw [pow_cast v] | rw [pow_cast0 v]
          refine q_ior (t := 50) F dX9_wordsBy_49 rfl ?_
          refine q_istore (t := 52) F dX9_wordsBy_50 (by decide) rfl rfl ?_
          refine q_iinc (t := 55) F dX9_wordsBy_52 rfl (by decide) rfl rfl ?_
          refine q_goto (t := 14) F dX9_wordsBy_55 (by decide) ?_
          rw [show (v : Int) + 1 = ((v + 1 : Nat) : Int) by omega]
          first
            | exact ih14 (v + 1) (z ||| 2 ^ v) im2 lg2 (by omega) ⟨by omega, hor.1, hR2, hbk, hlg2.trans hlg⟩
            | exact ih14 (v + 1) (z ||| 0) im2 lg2 (by omega) ⟨by omega, hor.2, hR2, hbk, hlg2.trans hlg⟩
  exact L14 _ 0 0 im lm (Nat.lt_succ_self _) ⟨by omega, by decide, hR, agS_id _ _ (agS_rfl im), lgQ_rfl lm⟩

set_option maxHeartbeats 4000000 in
theorem c_X9_agesBy (l : Launch) (G : GS) (im : IM) (bt rt : Nat) (lm : IM) (h : RC im) (hA : AG im 1000) (h79 : im 30 0 7 ≤ 999) (s p q : Nat) (hs : s < 4) (hp : (p : Int) < im 30 0 12) (hq : q < 50) (many : Int) (hmany : many = 0 ∨ many = 1) : Cn l (XR G) yX9_agesBy Y_X9_agesBy [vR 30 0, vI (s : Int), vI (p : Int), vI (q : Int), vI many] (im, rs bt rt, lm) (pI fun x m' => ri x ∧ ∃ im' lm', RI im' ∧ agS im' im ∧ lgQ lm' lm ∧ m' = (im', rs bt rt, lm')) := by
  refine cn_of (by decide) (okR G) rfl (Nat.le_of_ble_eq_true rfl) ?_
  intro M ad hMl F
  subst hMl
  have hR := h.1
  have h12 := h.2.2.2.1
  refine wp_pad 4 ?_
  show Wp M (XR G) ad Y_X9_agesBy (pI fun x m' => ri x ∧ ∃ im' lm', RI im' ∧ agS im' im ∧ lgQ lm' lm ∧ m' = (im', rs bt rt, lm')) 0 [some (vR 30 0), some (vI (s : Int)), some (vI (p : Int)), some (vI (q : Int)), some (vI many), none, none, none, none] [] (im, rs bt rt, lm)
  refine q_aload_n (t := 1) F dX9_agesBy_0 rfl rfl rfl ?_
  refine g_X9_35 (t := 4) F dX9_agesBy_1 rfl rfl ?_
  refine q_iload_n (t := 5) F dX9_agesBy_4 rfl rfl rfl ?_
  first | refine ldN_37 (t := 6) F dX9_agesBy_5 (by omega) rfl ?_ | refine ld_37 (t := 6) F dX9_agesBy_5 (by omega) (by omega) rfl ?_
  refine q_istore (t := 8) F dX9_agesBy_6 (by decide) rfl rfl ?_
  refine q_iconst (t := 9) F dX9_agesBy_8 rfl ?_
  refine q_istore (t := 11) F dX9_agesBy_9 (by decide) rfl rfl ?_
  refine q_iconst (t := 12) F dX9_agesBy_11 rfl ?_
  refine q_istore (t := 14) F dX9_agesBy_12 (by decide) rfl rfl ?_
  refine q_iconst (t := 15) F dX9_agesBy_14 rfl ?_
  refine q_istore (t := 17) F dX9_agesBy_15 (by decide) rfl rfl ?_
  have L17 : ∀ (fz : Nat) (v : Nat) (c le : Int) (S lg : IM), 62 - v < fz → (v ≤ 61 ∧ (0 ≤ c ∧ c ≤ v) ∧ (-1 ≤ le ∧ le ≤ 60) ∧ RI S ∧ agS (up S 37 0 q (im 37 0 q)) im ∧ lgQ lg lm) → Wp M (XR G) ad Y_X9_agesBy (pI fun x m' => ri x ∧ ∃ im' lm', RI im' ∧ agS im' im ∧ lgQ lm' lm ∧ m' = (im', rs bt rt, lm')) 17 [some (vR 30 0), some (vI (s : Int)), some (vI (p : Int)), some (vI (q : Int)), some (vI many), some (vI (im 37 0 q)), some (vI c), some (vI le), some (vI (v : Int))] [] (S, rs bt rt, lg) := by
    intro fz
    induction fz with
    | zero => intro v c le S lg h; exact absurd h (Nat.not_lt_zero _)
    | succ fz ih =>
      have ih17 := ih
      intro v c le S lg hmeas ⟨hv, hc, hle, hRS, hag, hlg⟩
      refine q_iload (t := 19) F dX9_agesBy_17 rfl rfl ?_
      refine q_bipush (t := 21) F dX9_agesBy_19 (by decide) rfl ?_
      refine q_icmp_gt (t := 24) (u := 66) F dX9_agesBy_21 (by constructor <;> omega) (by constructor <;> omega) (by decide) rfl (fun c21 => ?_) (fun c21 => ?_)
      · refine q_aload_n (t := 67) F dX9_agesBy_66 rfl rfl rfl ?_
        refine g_X9_35 (t := 70) F dX9_agesBy_67 rfl rfl ?_
        refine q_iload_n (t := 71) F dX9_agesBy_70 rfl rfl rfl ?_
        refine q_iload (t := 73) F dX9_agesBy_71 rfl rfl ?_
        first | refine stN_37 (t := 74) F dX9_agesBy_73 (by omega) rfl ?_ | refine st_37 (t := 74) F dX9_agesBy_73 (by omega) (by omega) rfl ?_
        refine q_iload (t := 76) F dX9_agesBy_74 rfl rfl ?_
        refine q_if_eq (t := 79) (u := 84) F dX9_agesBy_76 (by constructor <;> omega) (by decide) rfl (fun c76 => ?_) (fun c76 => ?_)
        · refine q_iload (t := 86) F dX9_agesBy_84 rfl rfl ?_
          refine q_iret F dX9_agesBy_86 rfl ?_
          exact ⟨_, rfl, by constructor <;> omega, _, lg, RI_up hRS (hR _ _ _), hag, hlg, rfl⟩
        · refine q_iload (t := 81) F dX9_agesBy_79 rfl rfl ?_
          refine q_goto (t := 86) F dX9_agesBy_81 (by decide) ?_
          refine q_iret F dX9_agesBy_86 rfl ?_
          exact ⟨_, rfl, by constructor <;> omega, _, lg, RI_up hRS (hR _ _ _), hag, hlg, rfl⟩
      · refine q_aload_n (t := 25) F dX9_agesBy_24 rfl rfl rfl ?_
        refine g_X9_35 (t := 28) F dX9_agesBy_25 rfl rfl ?_
        refine q_iload_n (t := 29) F dX9_agesBy_28 rfl rfl rfl ?_
        refine q_iload (t := 31) F dX9_agesBy_29 rfl rfl ?_
        first | refine stN_37 (t := 32) F dX9_agesBy_31 (by omega) rfl ?_ | refine st_37 (t := 32) F dX9_agesBy_31 (by omega) (by omega) rfl ?_
        have hag1 := agS_try (v : Int) hag
        have hRS1 : RI (up S 37 0 q (v : Int)) := RI_up hRS (by constructor <;> omega)
        have hRC1 : RC (up S 37 0 q (v : Int)) := (RC_one h (k := 37) (s := q) (v := (v : Int)) (Or.inr ⟨rfl, by omega, by omega⟩)).S hRS1 hag1
        have hA1 : AG (up S 37 0 q (v : Int)) 1000 := (AG_one hA (k := 37) (s := q) (v := (v : Int)) (Or.inr ⟨rfl, by omega⟩)).C hag1.C.1
        refine q_aload_n (t := 33) F dX9_agesBy_32 rfl rfl rfl ?_
        refine q_iload_n (t := 34) F dX9_agesBy_33 rfl rfl rfl ?_
        refine q_iload_n (t := 35) F dX9_agesBy_34 rfl rfl rfl ?_
        refine wp_callV (t := 38) [_, _] F dX9_agesBy_35 k_X9_firstOther v_X9_firstOther ml_X9_430 rfl rfl rfl rfl (Nat.le_of_ble_eq_true rfl) (by decide) (m_30 (by omega)) (c_X9_firstOther _ G (up S 37 0 q (v : Int)) bt rt lg hRC1 hA1 (by rw [hag1.C.2, up_app, if_neg (by omega)]; exact h79) s p hs (by rw [hag1.C.1.2.2.2.2.2, up_app, if_neg (by omega)]; exact hp)) rfl (kI ?_)
        rintro x35 m' ⟨hx35, im2, lg2, hR2, hag2, hlg2, rfl⟩
        have hbk := agS_bk hag hag2
        refine q_iconst (t := 39) F dX9_agesBy_38 rfl ?_
        refine q_icmp_ne (t := 42) (u := 60) F dX9_agesBy_39 (by constructor <;> omega) (by constructor <;> omega) (by decide) rfl (fun c39 => ?_) (fun c39 => ?_)
        · refine q_iinc (t := 63) F dX9_agesBy_60 rfl (by decide) rfl rfl ?_
          refine q_goto (t := 17) F dX9_agesBy_63 (by decide) ?_
          rw [show (v : Int) + 1 = ((v + 1 : Nat) : Int) by omega]
          first
            | exact ih17 (v + 1) (c + 1) (v : Int) im2 lg2 (by omega) ⟨by omega, by omega, by omega, hR2, hbk, hlg2.trans hlg⟩
            | exact ih17 (v + 1) (c + 1) le im2 lg2 (by omega) ⟨by omega, by omega, by omega, hR2, hbk, hlg2.trans hlg⟩
            | exact ih17 (v + 1) c le im2 lg2 (by omega) ⟨by omega, by omega, by omega, hR2, hbk, hlg2.trans hlg⟩
        · refine q_iinc (t := 45) F dX9_agesBy_42 rfl (by decide) rfl rfl ?_
          refine q_iload (t := 47) F dX9_agesBy_45 rfl rfl ?_
          refine q_iconst (t := 48) F dX9_agesBy_47 rfl ?_
          refine q_icmp_ne (t := 51) (u := 56) F dX9_agesBy_48 (by constructor <;> omega) (by constructor <;> omega) (by decide) rfl (fun c48 => ?_) (fun c48 => ?_)
          · refine q_iload (t := 58) F dX9_agesBy_56 rfl rfl ?_
            refine q_istore (t := 60) F dX9_agesBy_58 (by decide) rfl rfl ?_
            refine q_iinc (t := 63) F dX9_agesBy_60 rfl (by decide) rfl rfl ?_
            refine q_goto (t := 17) F dX9_agesBy_63 (by decide) ?_
            rw [show (v : Int) + 1 = ((v + 1 : Nat) : Int) by omega]
            first
              | exact ih17 (v + 1) (c + 1) (v : Int) im2 lg2 (by omega) ⟨by omega, by omega, by omega, hR2, hbk, hlg2.trans hlg⟩
              | exact ih17 (v + 1) (c + 1) le im2 lg2 (by omega) ⟨by omega, by omega, by omega, hR2, hbk, hlg2.trans hlg⟩
              | exact ih17 (v + 1) c le im2 lg2 (by omega) ⟨by omega, by omega, by omega, hR2, hbk, hlg2.trans hlg⟩
          · refine q_iload (t := 53) F dX9_agesBy_51 rfl rfl ?_
            refine q_goto (t := 58) F dX9_agesBy_53 (by decide) ?_
            refine q_istore (t := 60) F dX9_agesBy_58 (by decide) rfl rfl ?_
            refine q_iinc (t := 63) F dX9_agesBy_60 rfl (by decide) rfl rfl ?_
            refine q_goto (t := 17) F dX9_agesBy_63 (by decide) ?_
            rw [show (v : Int) + 1 = ((v + 1 : Nat) : Int) by omega]
            first
              | exact ih17 (v + 1) (c + 1) (v : Int) im2 lg2 (by omega) ⟨by omega, by omega, by omega, hR2, hbk, hlg2.trans hlg⟩
              | exact ih17 (v + 1) (c + 1) le im2 lg2 (by omega) ⟨by omega, by omega, by omega, hR2, hbk, hlg2.trans hlg⟩
              | exact ih17 (v + 1) c le im2 lg2 (by omega) ⟨by omega, by omega, by omega, hR2, hbk, hlg2.trans hlg⟩
  exact L17 _ 0 0 (-1) im lm (Nat.lt_succ_self _) ⟨by omega, by omega, by omega, hR, agS_id _ _ (agS_rfl im), lgQ_rfl lm⟩

theorem tdR_23 {im : IM} {p : Nat} (hp : (p : Int) < im 30 0 12) : tdR im p 2 = im 35 0 p ∧ tdR im p 3 = im 34 0 p := by
  have hp0 : (0 : Int) ≤ p := by omega
  constructor <;> (unfold tdR; rw [if_pos (by omega)]; (repeat (first | rw [if_pos (by omega)] | rw [if_neg (by omega)])); rw [Int.toNat_natCast])

set_option maxHeartbeats 4000000 in
theorem c_X9_tells (l : Launch) (G : GS) (im : IM) (bt rt : Nat) (lm : IM) (h : RC im) (hA : AG im 1000) (h79 : im 30 0 7 ≤ 999) (hSH : SH im) (s p what : Int) (hs : ri s) (hp : ri p) (hwhat : ri what) : Cn l (XR G) yX9_tells Y_X9_tells [vR 30 0, vI s, vI p, vI what] (im, rs bt rt, lm) (pI fun x m' => ri x ∧ ∃ im' lm', RI im' ∧ agS im' im ∧ lgQ lm' lm ∧ m' = (im', rs bt rt, lm')) := by
  refine cn_of (by decide) (okR G) rfl (Nat.le_of_ble_eq_true rfl) ?_
  intro M ad hMl F
  subst hMl
  have hR := h.1
  have hX := h.2.1
  have h4 := h.2.2.1
  have h12 := h.2.2.2.1
  have h7 := h.2.2.2.2.1
  have h6 := hX.2.2.1
  have h3 := hX.2.2.2.1
  have hP := h.2.2.2.2.2.2
  have hR := h.1
  have s1 := hs.1
  have s2 := hs.2
  have p1 := hp.1
  have p2 := hp.2
  have what1 := hwhat.1
  have what2 := hwhat.2
  refine wp_pad 1 ?_
  show Wp M (XR G) ad Y_X9_tells (pI fun x m' => ri x ∧ ∃ im' lm', RI im' ∧ agS im' im ∧ lgQ lm' lm ∧ m' = (im', rs bt rt, lm')) 0 [some (vR 30 0), some (vI s), some (vI p), some (vI what), none] [] (im, rs bt rt, lm)
  refine q_iload_n (t := 1) F dX9_tells_0 rfl rfl rfl ?_
  refine wp_callS (t := 4) [_] F dX9_tells_1 k_X9_isSheet st_X9_isSheet ml_X9_421 rfl rfl (Nat.le_of_ble_eq_true rfl) (by decide) (c_X9_isSheet _ G im bt rt lm s (by constructor <;> omega)) rfl (kI ?_)
  rintro x1 m' ⟨hx1, rfl⟩
  have hx1 := if01 hx1
  refine q_if_eq (t := 7) (u := 41) F dX9_tells_4 (by first | exact hR _ _ _ | (constructor <;> omega)) (by decide) rfl (fun c4 => ?_) (fun c4 => ?_)
  · refine q_bipush (t := 43) F dX9_tells_41 (by decide) rfl ?_
    refine q_iret F dX9_tells_43 rfl ?_
    first
      | exact ⟨_, rfl, by constructor <;> omega, im, lm, hR, agS_rfl im, lgQ_rfl lm, rfl⟩
      | exact ⟨_, rfl, by first | assumption | (constructor <;> omega), im2, lm2, hR2, hag2, hlg2, rfl⟩
  · refine q_aload_n (t := 8) F dX9_tells_7 rfl rfl rfl ?_
    refine q_iload_n (t := 9) F dX9_tells_8 rfl rfl rfl ?_
    refine wp_callV (t := 12) [_] F dX9_tells_9 k_X9_isOne v_X9_isOne ml_X9_101 rfl rfl rfl rfl (Nat.le_of_ble_eq_true rfl) (by decide) (m_30 (by omega)) (c_X9_isOne _ G im bt rt lm hR h12.1 h12.2 p (by constructor <;> omega)) rfl (kI ?_)
    rintro x9 m' ⟨hx9, rfl⟩
    have hx9 := if01 hx9
    refine q_if_eq (t := 15) (u := 41) F dX9_tells_12 (by first | exact hR _ _ _ | (constructor <;> omega)) (by decide) rfl (fun c12 => ?_) (fun c12 => ?_)
    · refine q_bipush (t := 43) F dX9_tells_41 (by decide) rfl ?_
      refine q_iret F dX9_tells_43 rfl ?_
      first
        | exact ⟨_, rfl, by constructor <;> omega, im, lm, hR, agS_rfl im, lgQ_rfl lm, rfl⟩
        | exact ⟨_, rfl, by first | assumption | (constructor <;> omega), im2, lm2, hR2, hag2, hlg2, rfl⟩
    · refine q_iload_n (t := 16) F dX9_tells_15 rfl rfl rfl ?_
      refine q_i2l (t := 17) F dX9_tells_16 (by first | exact hR _ _ _ | (constructor <;> omega)) rfl ?_
      refine q_lconst (t := 18) (x := 0) F dX9_tells_17 (by decide) rfl ?_
      refine q_ldc2 (t := 21) (x := 3) F dX9_tells_18 kl_X9_433 (by decide) rfl ?_
      refine wp_callS (t := 24) [_, _, _] F dX9_tells_21 k_X9_in st_X9_in ml_X9_91 rfl rfl (Nat.le_of_ble_eq_true rfl) (by decide) (c_X9_in _ G _ _ _ _ _ _ _ (by constructor <;> omega) (by constructor <;> omega) (by constructor <;> omega)) rfl (kI ?_)
      rintro x21 m' ⟨hx21, rfl⟩
      have hx21 := if01 hx21
      refine q_if_ne (t := 27) (u := 44) F dX9_tells_24 (by first | exact hR _ _ _ | (constructor <;> omega)) (by decide) rfl (fun c24 => ?_) (fun c24 => ?_)
      · obtain ⟨s, rfl⟩ : ∃ j : Nat, s = (j : Int) := ⟨s.toNat, by omega⟩
        obtain ⟨p, rfl⟩ : ∃ j : Nat, p = (j : Int) := ⟨p.toNat, by omega⟩
        refine q_aload_n (t := 45) F dX9_tells_44 rfl rfl rfl ?_
        refine g_X9_68 (t := 48) F dX9_tells_45 rfl rfl ?_
        refine q_iload_n (t := 49) F dX9_tells_48 rfl rfl rfl ?_
        first | refine ldN_47 (t := 50) F dX9_tells_49 (by omega) rfl ?_ | refine ld_47 (t := 50) F dX9_tells_49 (by omega) (by omega) rfl ?_
        try simp only [up_app, row_app, scr_app, cpy_app, Nat.reduceEqDiff, Int.reduceToNat, Int.toNat_natCast, and_true, true_and, and_false, false_and, and_self, reduceIte]
        refine q_if_ne (t := 53) (u := 56) F dX9_tells_50 (by exact hR _ _ _) (by decide) rfl (fun c50 => ?_) (fun c50 => ?_)
        · refine q_aload_n (t := 57) F dX9_tells_56 rfl rfl rfl ?_
          refine g_X9_75 (t := 60) F dX9_tells_57 rfl rfl ?_
          refine q_iload_n (t := 61) F dX9_tells_60 rfl rfl rfl ?_
          first | refine ldN_49 (t := 62) F dX9_tells_61 (by omega) rfl ?_ | refine ld_49 (t := 62) F dX9_tells_61 (by omega) (by omega) rfl ?_
          try simp only [up_app, row_app, scr_app, cpy_app, Nat.reduceEqDiff, Int.reduceToNat, Int.toNat_natCast, and_true, true_and, and_false, false_and, and_self, reduceIte]
          refine q_bipush (t := 64) F dX9_tells_62 (by decide) rfl ?_
          refine q_icmp_eq (t := 67) (u := 70) F dX9_tells_64 (by exact hR _ _ _) (by constructor <;> omega) (by decide) rfl (fun c64 => ?_) (fun c64 => ?_)
          · refine q_iload_n (t := 71) F dX9_tells_70 rfl rfl rfl ?_
            refine q_iconst (t := 72) F dX9_tells_71 rfl ?_
            refine q_icmp_ge (t := 75) (u := 134) F dX9_tells_72 (by first | exact hR _ _ _ | (constructor <;> omega)) (by first | exact hR _ _ _ | (constructor <;> omega)) (by decide) rfl (fun c72 => ?_) (fun c72 => ?_)
            · refine q_bipush (t := 136) F dX9_tells_134 (by decide) rfl ?_
              refine q_iload_n (t := 137) F dX9_tells_136 rfl rfl rfl ?_
              refine q_imul (t := 138) F dX9_tells_137 rfl ?_
              refine q_iload_n (t := 139) F dX9_tells_138 rfl rfl rfl ?_
              refine q_bipush (t := 141) F dX9_tells_139 (by decide) rfl ?_
              refine q_irem (t := 142) F dX9_tells_141 (by first | exact hR _ _ _ | (constructor <;> omega)) (by first | exact hR _ _ _ | (constructor <;> omega)) (by omega) (by omega) rfl ?_
              refine q_iadd (t := 143) F dX9_tells_142 rfl ?_
              rw [show (10 : Int) * (p : Int) + what % 10 = ((10 * p + (what % 10).toNat : Nat) : Int) by omega]
              refine q_istore (t := 145) F dX9_tells_143 (by decide) rfl rfl ?_
              refine q_aload_n (t := 146) F dX9_tells_145 rfl rfl rfl ?_
              refine g_X9_32 (t := 149) F dX9_tells_146 rfl rfl ?_
              refine q_iload (t := 151) F dX9_tells_149 rfl rfl ?_
              first | refine ldN_36 (t := 152) F dX9_tells_151 (by omega) rfl ?_ | refine ld_36 (t := 152) F dX9_tells_151 (by omega) (by omega) rfl ?_
              try simp only [up_app, row_app, scr_app, cpy_app, Nat.reduceEqDiff, Int.reduceToNat, Int.toNat_natCast, and_true, true_and, and_false, false_and, and_self, reduceIte]
              refine q_iconst (t := 153) F dX9_tells_152 rfl ?_
              refine q_icmp_ne (t := 156) (u := 168) F dX9_tells_153 (by first | exact hR _ _ _ | (constructor <;> omega)) (by first | exact hR _ _ _ | (constructor <;> omega)) (by decide) rfl (fun c153 => ?_) (fun c153 => ?_)
              · refine q_iload_n (t := 169) F dX9_tells_168 rfl rfl rfl ?_
                refine q_bipush (t := 171) F dX9_tells_169 (by decide) rfl ?_
                refine q_icmp_ge (t := 174) (u := 185) F dX9_tells_171 (by first | exact hR _ _ _ | (constructor <;> omega)) (by first | exact hR _ _ _ | (constructor <;> omega)) (by decide) rfl (fun c171 => ?_) (fun c171 => ?_)
                · refine q_aload_n (t := 186) F dX9_tells_185 rfl rfl rfl ?_
                  refine q_iload_n (t := 187) F dX9_tells_186 rfl rfl rfl ?_
                  refine q_iload_n (t := 188) F dX9_tells_187 rfl rfl rfl ?_
                  refine q_iload (t := 190) F dX9_tells_188 rfl rfl ?_
                  refine q_iload_n (t := 191) F dX9_tells_190 rfl rfl rfl ?_
                  refine q_bipush (t := 193) F dX9_tells_191 (by decide) rfl ?_
                  refine q_icmp_ge (t := 196) (u := 200) F dX9_tells_193 (by first | exact hR _ _ _ | (constructor <;> omega)) (by first | exact hR _ _ _ | (constructor <;> omega)) (by decide) rfl (fun c193 => ?_) (fun c193 => ?_)
                  · refine q_iconst (t := 201) F dX9_tells_200 rfl ?_
                    refine wp_callV (t := 204) [_, _, _, _] F dX9_tells_201 k_X9_agesBy v_X9_agesBy ml_X9_442 rfl rfl rfl rfl (Nat.le_of_ble_eq_true rfl) (by decide) (m_30 (by omega)) (c_X9_agesBy _ G im bt rt lm h hA h79 s p (10 * p + (what % 10).toNat) (by omega) (by omega) (by omega) _ (by omega)) rfl (kI ?_)
                    rintro x201 m' ⟨hx201, im2, lm2, hR2, hag2, hlg2, rfl⟩
                    refine q_iret F dX9_tells_204 rfl ?_
                    first
                      | exact ⟨_, rfl, by constructor <;> omega, im, lm, hR, agS_rfl im, lgQ_rfl lm, rfl⟩
                      | exact ⟨_, rfl, by first | assumption | (constructor <;> omega), im2, lm2, hR2, hag2, hlg2, rfl⟩
                  · refine q_iconst (t := 197) F dX9_tells_196 rfl ?_
                    refine q_goto (t := 201) F dX9_tells_197 (by decide) ?_
                    refine wp_callV (t := 204) [_, _, _, _] F dX9_tells_201 k_X9_agesBy v_X9_agesBy ml_X9_442 rfl rfl rfl rfl (Nat.le_of_ble_eq_true rfl) (by decide) (m_30 (by omega)) (c_X9_agesBy _ G im bt rt lm h hA h79 s p (10 * p + (what % 10).toNat) (by omega) (by omega) (by omega) _ (by omega)) rfl (kI ?_)
                    rintro x201 m' ⟨hx201, im2, lm2, hR2, hag2, hlg2, rfl⟩
                    refine q_iret F dX9_tells_204 rfl ?_
                    first
                      | exact ⟨_, rfl, by constructor <;> omega, im, lm, hR, agS_rfl im, lgQ_rfl lm, rfl⟩
                      | exact ⟨_, rfl, by first | assumption | (constructor <;> omega), im2, lm2, hR2, hag2, hlg2, rfl⟩
                · refine q_aload_n (t := 175) F dX9_tells_174 rfl rfl rfl ?_
                  refine q_iload_n (t := 176) F dX9_tells_175 rfl rfl rfl ?_
                  refine q_iload_n (t := 177) F dX9_tells_176 rfl rfl rfl ?_
                  refine q_iload (t := 179) F dX9_tells_177 rfl rfl ?_
                  refine wp_callV (t := 182) [_, _, _] F dX9_tells_179 k_X9_wordsBy v_X9_wordsBy ml_X9_439 rfl rfl rfl rfl (Nat.le_of_ble_eq_true rfl) (by decide) (m_30 (by omega)) (c_X9_wordsBy _ G im bt rt lm h hA h79 s p (10 * p + (what % 10).toNat) (by omega) (by omega) (by omega) (by omega)) rfl (kI ?_)
                  rintro x179 m' ⟨hx179, im2, lm2, hR2, hag2, hlg2, rfl⟩
                  refine q_goto (t := 204) F dX9_tells_182 (by decide) ?_
                  refine q_iret F dX9_tells_204 rfl ?_
                  first
                    | exact ⟨_, rfl, by constructor <;> omega, im, lm, hR, agS_rfl im, lgQ_rfl lm, rfl⟩
                    | exact ⟨_, rfl, by first | assumption | (constructor <;> omega), im2, lm2, hR2, hag2, hlg2, rfl⟩
              · refine q_iload_n (t := 157) F dX9_tells_156 rfl rfl rfl ?_
                refine q_bipush (t := 159) F dX9_tells_157 (by decide) rfl ?_
                refine q_icmp_ge (t := 162) (u := 166) F dX9_tells_159 (by first | exact hR _ _ _ | (constructor <;> omega)) (by first | exact hR _ _ _ | (constructor <;> omega)) (by decide) rfl (fun c159 => ?_) (fun c159 => ?_)
                · refine q_iconst (t := 167) F dX9_tells_166 rfl ?_
                  refine q_iret F dX9_tells_167 rfl ?_
                  first
                    | exact ⟨_, rfl, by constructor <;> omega, im, lm, hR, agS_rfl im, lgQ_rfl lm, rfl⟩
                    | exact ⟨_, rfl, by first | assumption | (constructor <;> omega), im2, lm2, hR2, hag2, hlg2, rfl⟩
                · refine q_iconst (t := 163) F dX9_tells_162 rfl ?_
                  refine q_goto (t := 167) F dX9_tells_163 (by decide) ?_
                  refine q_iret F dX9_tells_167 rfl ?_
                  first
                    | exact ⟨_, rfl, by constructor <;> omega, im, lm, hR, agS_rfl im, lgQ_rfl lm, rfl⟩
                    | exact ⟨_, rfl, by first | assumption | (constructor <;> omega), im2, lm2, hR2, hag2, hlg2, rfl⟩
            · refine q_iload_n (t := 76) F dX9_tells_75 rfl rfl rfl ?_
              refine q_if_ne (t := 79) (u := 88) F dX9_tells_76 (by first | exact hR _ _ _ | (constructor <;> omega)) (by decide) rfl (fun c76 => ?_) (fun c76 => ?_)
              · refine q_iload_n (t := 89) F dX9_tells_88 rfl rfl rfl ?_
                refine q_iconst (t := 90) F dX9_tells_89 rfl ?_
                refine q_icmp_ne (t := 93) (u := 105) F dX9_tells_90 (by first | exact hR _ _ _ | (constructor <;> omega)) (by first | exact hR _ _ _ | (constructor <;> omega)) (by decide) rfl (fun c90 => ?_) (fun c90 => ?_)
                · refine q_iload_n (t := 106) F dX9_tells_105 rfl rfl rfl ?_
                  refine q_iconst (t := 107) F dX9_tells_106 rfl ?_
                  refine q_icmp_ne (t := 110) (u := 122) F dX9_tells_107 (by first | exact hR _ _ _ | (constructor <;> omega)) (by first | exact hR _ _ _ | (constructor <;> omega)) (by decide) rfl (fun c107 => ?_) (fun c107 => ?_)
                  · refine q_aload_n (t := 123) F dX9_tells_122 rfl rfl rfl ?_
                    refine q_iload_n (t := 124) F dX9_tells_123 rfl rfl rfl ?_
                    refine q_iload_n (t := 125) F dX9_tells_124 rfl rfl rfl ?_
                    refine q_iconst (t := 126) F dX9_tells_125 rfl ?_
                    refine q_aload_n (t := 127) F dX9_tells_126 rfl rfl rfl ?_
                    refine g_X9_85 (t := 130) F dX9_tells_127 rfl rfl ?_
                    try simp only [up_app, row_app, scr_app, cpy_app, Nat.reduceEqDiff, Int.reduceToNat, Int.toNat_natCast, and_true, true_and, and_false, false_and, and_self, reduceIte]
                    rw [show vI (im 30 0 3) = vI (((im 30 0 3).toNat : Nat) : Int) by rw [Int.toNat_of_nonneg (by omega)]]
                    refine wp_callV (t := 133) [_, _, _, _] F dX9_tells_130 k_X9_setBy v_X9_setBy ml_X9_435 rfl rfl rfl rfl (Nat.le_of_ble_eq_true rfl) (by decide) (m_30 (by omega)) (c_X9_setBy _ G im bt rt lm h hA h79 s p (by omega) (by omega) 4 (by omega) (im 30 0 3).toNat (by omega) 30 4 (by omega) (fun S v => rfl) (fun _ => by exact absurd rfl ‹_›) (fun z => by omega) (fun v hv => ⟨RC_ly h (what := 4) (p := p) (v := (v : Int)) (by omega), AG_ly hA 4 (v : Int) p⟩)) rfl (kI ?_)
                    rintro x130 m' ⟨hx130, im2, lm2, hR2, hag2, hlg2, rfl⟩
                    refine q_iret F dX9_tells_133 rfl ?_
                    first
                      | exact ⟨_, rfl, by constructor <;> omega, im, lm, hR, agS_rfl im, lgQ_rfl lm, rfl⟩
                      | exact ⟨_, rfl, by first | assumption | (constructor <;> omega), im2, lm2, hR2, hag2, hlg2, rfl⟩
                  · refine q_aload_n (t := 111) F dX9_tells_110 rfl rfl rfl ?_
                    refine q_iload_n (t := 112) F dX9_tells_111 rfl rfl rfl ?_
                    refine q_iload_n (t := 113) F dX9_tells_112 rfl rfl rfl ?_
                    refine q_iconst (t := 114) F dX9_tells_113 rfl ?_
                    refine q_bipush (t := 116) F dX9_tells_114 (by decide) rfl ?_
                    refine wp_callV (t := 119) [_, _, _, _] F dX9_tells_116 k_X9_setBy v_X9_setBy ml_X9_435 rfl rfl rfl rfl (Nat.le_of_ble_eq_true rfl) (by decide) (m_30 (by omega)) (c_X9_setBy _ G im bt rt lm h hA h79 s p (by omega) (by omega) 2 (by omega) 10 (by omega) 35 p (by omega) (fun S v => rfl) (fun _ => (tdR_23 (by omega)).1) (fun z => by omega) (fun v hv => ⟨RC_ly h (what := 2) (p := p) (v := (v : Int)) (by omega), AG_ly hA 2 (v : Int) p⟩)) rfl (kI ?_)
                    rintro x116 m' ⟨hx116, im2, lm2, hR2, hag2, hlg2, rfl⟩
                    refine q_goto (t := 133) F dX9_tells_119 (by decide) ?_
                    refine q_iret F dX9_tells_133 rfl ?_
                    first
                      | exact ⟨_, rfl, by constructor <;> omega, im, lm, hR, agS_rfl im, lgQ_rfl lm, rfl⟩
                      | exact ⟨_, rfl, by first | assumption | (constructor <;> omega), im2, lm2, hR2, hag2, hlg2, rfl⟩
                · refine q_aload_n (t := 94) F dX9_tells_93 rfl rfl rfl ?_
                  refine q_iload_n (t := 95) F dX9_tells_94 rfl rfl rfl ?_
                  refine q_iload_n (t := 96) F dX9_tells_95 rfl rfl rfl ?_
                  refine q_iconst (t := 97) F dX9_tells_96 rfl ?_
                  refine q_bipush (t := 99) F dX9_tells_97 (by decide) rfl ?_
                  refine wp_callV (t := 102) [_, _, _, _] F dX9_tells_99 k_X9_setBy v_X9_setBy ml_X9_435 rfl rfl rfl rfl (Nat.le_of_ble_eq_true rfl) (by decide) (m_30 (by omega)) (c_X9_setBy _ G im bt rt lm h hA h79 s p (by omega) (by omega) 3 (by omega) 6 (by omega) 34 p (by omega) (fun S v => rfl) (fun _ => (tdR_23 (by omega)).2) (fun z => by omega) (fun v hv => ⟨RC_ly h (what := 3) (p := p) (v := (v : Int)) (by omega), AG_ly hA 3 (v : Int) p⟩)) rfl (kI ?_)
                  rintro x99 m' ⟨hx99, im2, lm2, hR2, hag2, hlg2, rfl⟩
                  refine q_goto (t := 133) F dX9_tells_102 (by decide) ?_
                  refine q_iret F dX9_tells_133 rfl ?_
                  first
                    | exact ⟨_, rfl, by constructor <;> omega, im, lm, hR, agS_rfl im, lgQ_rfl lm, rfl⟩
                    | exact ⟨_, rfl, by first | assumption | (constructor <;> omega), im2, lm2, hR2, hag2, hlg2, rfl⟩
              · refine q_aload_n (t := 80) F dX9_tells_79 rfl rfl rfl ?_
                refine q_iload_n (t := 81) F dX9_tells_80 rfl rfl rfl ?_
                refine q_iload_n (t := 82) F dX9_tells_81 rfl rfl rfl ?_
                refine wp_callV (t := 85) [_, _] F dX9_tells_82 k_X9_firstOther v_X9_firstOther ml_X9_430 rfl rfl rfl rfl (Nat.le_of_ble_eq_true rfl) (by decide) (m_30 (by omega)) (c_X9_firstOther _ G im bt rt lm h hA h79 s p (by omega) (by omega)) rfl (kI ?_)
                rintro x82 m' ⟨hx82, im2, lm2, hR2, hag2, hlg2, rfl⟩
                refine q_goto (t := 133) F dX9_tells_85 (by decide) ?_
                refine q_iret F dX9_tells_133 rfl ?_
                first
                  | exact ⟨_, rfl, by constructor <;> omega, im, lm, hR, agS_rfl im, lgQ_rfl lm, rfl⟩
                  | exact ⟨_, rfl, by first | assumption | (constructor <;> omega), im2, lm2, hR2, hag2, hlg2, rfl⟩
          · refine q_bipush (t := 69) F dX9_tells_67 (by decide) rfl ?_
            refine q_iret F dX9_tells_69 rfl ?_
            first
              | exact ⟨_, rfl, by constructor <;> omega, im, lm, hR, agS_rfl im, lgQ_rfl lm, rfl⟩
              | exact ⟨_, rfl, by first | assumption | (constructor <;> omega), im2, lm2, hR2, hag2, hlg2, rfl⟩
        · refine q_bipush (t := 55) F dX9_tells_53 (by decide) rfl ?_
          refine q_iret F dX9_tells_55 rfl ?_
          first
            | exact ⟨_, rfl, by constructor <;> omega, im, lm, hR, agS_rfl im, lgQ_rfl lm, rfl⟩
            | exact ⟨_, rfl, by first | assumption | (constructor <;> omega), im2, lm2, hR2, hag2, hlg2, rfl⟩
      · refine q_iload_n (t := 28) F dX9_tells_27 rfl rfl rfl ?_
        refine q_i2l (t := 29) F dX9_tells_28 (by first | exact hR _ _ _ | (constructor <;> omega)) rfl ?_
        refine q_ldc2 (t := 32) (x := 10) F dX9_tells_29 kl_X9_127 (by decide) rfl ?_
        refine q_ldc2 (t := 35) (x := 39) F dX9_tells_32 kl_X9_129 (by decide) rfl ?_
        refine wp_callS (t := 38) [_, _, _] F dX9_tells_35 k_X9_in st_X9_in ml_X9_91 rfl rfl (Nat.le_of_ble_eq_true rfl) (by decide) (c_X9_in _ G _ _ _ _ _ _ _ (by constructor <;> omega) (by constructor <;> omega) (by constructor <;> omega)) rfl (kI ?_)
        rintro x35 m' ⟨hx35, rfl⟩
        have hx35 := if01 hx35
        refine q_if_ne (t := 41) (u := 44) F dX9_tells_38 (by first | exact hR _ _ _ | (constructor <;> omega)) (by decide) rfl (fun c38 => ?_) (fun c38 => ?_)
        · obtain ⟨s, rfl⟩ : ∃ j : Nat, s = (j : Int) := ⟨s.toNat, by omega⟩
          obtain ⟨p, rfl⟩ : ∃ j : Nat, p = (j : Int) := ⟨p.toNat, by omega⟩
          refine q_aload_n (t := 45) F dX9_tells_44 rfl rfl rfl ?_
          refine g_X9_68 (t := 48) F dX9_tells_45 rfl rfl ?_
          refine q_iload_n (t := 49) F dX9_tells_48 rfl rfl rfl ?_
          first | refine ldN_47 (t := 50) F dX9_tells_49 (by omega) rfl ?_ | refine ld_47 (t := 50) F dX9_tells_49 (by omega) (by omega) rfl ?_
          try simp only [up_app, row_app, scr_app, cpy_app, Nat.reduceEqDiff, Int.reduceToNat, Int.toNat_natCast, and_true, true_and, and_false, false_and, and_self, reduceIte]
          refine q_if_ne (t := 53) (u := 56) F dX9_tells_50 (by exact hR _ _ _) (by decide) rfl (fun c50 => ?_) (fun c50 => ?_)
          · refine q_aload_n (t := 57) F dX9_tells_56 rfl rfl rfl ?_
            refine g_X9_75 (t := 60) F dX9_tells_57 rfl rfl ?_
            refine q_iload_n (t := 61) F dX9_tells_60 rfl rfl rfl ?_
            first | refine ldN_49 (t := 62) F dX9_tells_61 (by omega) rfl ?_ | refine ld_49 (t := 62) F dX9_tells_61 (by omega) (by omega) rfl ?_
            try simp only [up_app, row_app, scr_app, cpy_app, Nat.reduceEqDiff, Int.reduceToNat, Int.toNat_natCast, and_true, true_and, and_false, false_and, and_self, reduceIte]
            refine q_bipush (t := 64) F dX9_tells_62 (by decide) rfl ?_
            refine q_icmp_eq (t := 67) (u := 70) F dX9_tells_64 (by exact hR _ _ _) (by constructor <;> omega) (by decide) rfl (fun c64 => ?_) (fun c64 => ?_)
            · refine q_iload_n (t := 71) F dX9_tells_70 rfl rfl rfl ?_
              refine q_iconst (t := 72) F dX9_tells_71 rfl ?_
              refine q_icmp_ge (t := 75) (u := 134) F dX9_tells_72 (by first | exact hR _ _ _ | (constructor <;> omega)) (by first | exact hR _ _ _ | (constructor <;> omega)) (by decide) rfl (fun c72 => ?_) (fun c72 => ?_)
              · refine q_bipush (t := 136) F dX9_tells_134 (by decide) rfl ?_
                refine q_iload_n (t := 137) F dX9_tells_136 rfl rfl rfl ?_
                refine q_imul (t := 138) F dX9_tells_137 rfl ?_
                refine q_iload_n (t := 139) F dX9_tells_138 rfl rfl rfl ?_
                refine q_bipush (t := 141) F dX9_tells_139 (by decide) rfl ?_
                refine q_irem (t := 142) F dX9_tells_141 (by first | exact hR _ _ _ | (constructor <;> omega)) (by first | exact hR _ _ _ | (constructor <;> omega)) (by omega) (by omega) rfl ?_
                refine q_iadd (t := 143) F dX9_tells_142 rfl ?_
                rw [show (10 : Int) * (p : Int) + what % 10 = ((10 * p + (what % 10).toNat : Nat) : Int) by omega]
                refine q_istore (t := 145) F dX9_tells_143 (by decide) rfl rfl ?_
                refine q_aload_n (t := 146) F dX9_tells_145 rfl rfl rfl ?_
                refine g_X9_32 (t := 149) F dX9_tells_146 rfl rfl ?_
                refine q_iload (t := 151) F dX9_tells_149 rfl rfl ?_
                first | refine ldN_36 (t := 152) F dX9_tells_151 (by omega) rfl ?_ | refine ld_36 (t := 152) F dX9_tells_151 (by omega) (by omega) rfl ?_
                try simp only [up_app, row_app, scr_app, cpy_app, Nat.reduceEqDiff, Int.reduceToNat, Int.toNat_natCast, and_true, true_and, and_false, false_and, and_self, reduceIte]
                refine q_iconst (t := 153) F dX9_tells_152 rfl ?_
                refine q_icmp_ne (t := 156) (u := 168) F dX9_tells_153 (by first | exact hR _ _ _ | (constructor <;> omega)) (by first | exact hR _ _ _ | (constructor <;> omega)) (by decide) rfl (fun c153 => ?_) (fun c153 => ?_)
                · refine q_iload_n (t := 169) F dX9_tells_168 rfl rfl rfl ?_
                  refine q_bipush (t := 171) F dX9_tells_169 (by decide) rfl ?_
                  refine q_icmp_ge (t := 174) (u := 185) F dX9_tells_171 (by first | exact hR _ _ _ | (constructor <;> omega)) (by first | exact hR _ _ _ | (constructor <;> omega)) (by decide) rfl (fun c171 => ?_) (fun c171 => ?_)
                  · refine q_aload_n (t := 186) F dX9_tells_185 rfl rfl rfl ?_
                    refine q_iload_n (t := 187) F dX9_tells_186 rfl rfl rfl ?_
                    refine q_iload_n (t := 188) F dX9_tells_187 rfl rfl rfl ?_
                    refine q_iload (t := 190) F dX9_tells_188 rfl rfl ?_
                    refine q_iload_n (t := 191) F dX9_tells_190 rfl rfl rfl ?_
                    refine q_bipush (t := 193) F dX9_tells_191 (by decide) rfl ?_
                    refine q_icmp_ge (t := 196) (u := 200) F dX9_tells_193 (by first | exact hR _ _ _ | (constructor <;> omega)) (by first | exact hR _ _ _ | (constructor <;> omega)) (by decide) rfl (fun c193 => ?_) (fun c193 => ?_)
                    · refine q_iconst (t := 201) F dX9_tells_200 rfl ?_
                      refine wp_callV (t := 204) [_, _, _, _] F dX9_tells_201 k_X9_agesBy v_X9_agesBy ml_X9_442 rfl rfl rfl rfl (Nat.le_of_ble_eq_true rfl) (by decide) (m_30 (by omega)) (c_X9_agesBy _ G im bt rt lm h hA h79 s p (10 * p + (what % 10).toNat) (by omega) (by omega) (by omega) _ (by omega)) rfl (kI ?_)
                      rintro x201 m' ⟨hx201, im2, lm2, hR2, hag2, hlg2, rfl⟩
                      refine q_iret F dX9_tells_204 rfl ?_
                      first
                        | exact ⟨_, rfl, by constructor <;> omega, im, lm, hR, agS_rfl im, lgQ_rfl lm, rfl⟩
                        | exact ⟨_, rfl, by first | assumption | (constructor <;> omega), im2, lm2, hR2, hag2, hlg2, rfl⟩
                    · refine q_iconst (t := 197) F dX9_tells_196 rfl ?_
                      refine q_goto (t := 201) F dX9_tells_197 (by decide) ?_
                      refine wp_callV (t := 204) [_, _, _, _] F dX9_tells_201 k_X9_agesBy v_X9_agesBy ml_X9_442 rfl rfl rfl rfl (Nat.le_of_ble_eq_true rfl) (by decide) (m_30 (by omega)) (c_X9_agesBy _ G im bt rt lm h hA h79 s p (10 * p + (what % 10).toNat) (by omega) (by omega) (by omega) _ (by omega)) rfl (kI ?_)
                      rintro x201 m' ⟨hx201, im2, lm2, hR2, hag2, hlg2, rfl⟩
                      refine q_iret F dX9_tells_204 rfl ?_
                      first
                        | exact ⟨_, rfl, by constructor <;> omega, im, lm, hR, agS_rfl im, lgQ_rfl lm, rfl⟩
                        | exact ⟨_, rfl, by first | assumption | (constructor <;> omega), im2, lm2, hR2, hag2, hlg2, rfl⟩
                  · refine q_aload_n (t := 175) F dX9_tells_174 rfl rfl rfl ?_
                    refine q_iload_n (t := 176) F dX9_tells_175 rfl rfl rfl ?_
                    refine q_iload_n (t := 177) F dX9_tells_176 rfl rfl rfl ?_
                    refine q_iload (t := 179) F dX9_tells_177 rfl rfl ?_
                    refine wp_callV (t := 182) [_, _, _] F dX9_tells_179 k_X9_wordsBy v_X9_wordsBy ml_X9_439 rfl rfl rfl rfl (Nat.le_of_ble_eq_true rfl) (by decide) (m_30 (by omega)) (c_X9_wordsBy _ G im bt rt lm h hA h79 s p (10 * p + (what % 10).toNat) (by omega) (by omega) (by omega) (by omega)) rfl (kI ?_)
                    rintro x179 m' ⟨hx179, im2, lm2, hR2, hag2, hlg2, rfl⟩
                    refine q_goto (t := 204) F dX9_tells_182 (by decide) ?_
                    refine q_iret F dX9_tells_204 rfl ?_
                    first
                      | exact ⟨_, rfl, by constructor <;> omega, im, lm, hR, agS_rfl im, lgQ_rfl lm, rfl⟩
                      | exact ⟨_, rfl, by first | assumption | (constructor <;> omega), im2, lm2, hR2, hag2, hlg2, rfl⟩
                · refine q_iload_n (t := 157) F dX9_tells_156 rfl rfl rfl ?_
                  refine q_bipush (t := 159) F dX9_tells_157 (by decide) rfl ?_
                  refine q_icmp_ge (t := 162) (u := 166) F dX9_tells_159 (by first | exact hR _ _ _ | (constructor <;> omega)) (by first | exact hR _ _ _ | (constructor <;> omega)) (by decide) rfl (fun c159 => ?_) (fun c159 => ?_)
                  · refine q_iconst (t := 167) F dX9_tells_166 rfl ?_
                    refine q_iret F dX9_tells_167 rfl ?_
                    first
                      | exact ⟨_, rfl, by constructor <;> omega, im, lm, hR, agS_rfl im, lgQ_rfl lm, rfl⟩
                      | exact ⟨_, rfl, by first | assumption | (constructor <;> omega), im2, lm2, hR2, hag2, hlg2, rfl⟩
                  · refine q_iconst (t := 163) F dX9_tells_162 rfl ?_
                    refine q_goto (t := 167) F dX9_tells_163 (by decide) ?_
                    refine q_iret F dX9_tells_167 rfl ?_
                    first
                      | exact ⟨_, rfl, by constructor <;> omega, im, lm, hR, agS_rfl im, lgQ_rfl lm, rfl⟩
                      | exact ⟨_, rfl, by first | assumption | (constructor <;> omega), im2, lm2, hR2, hag2, hlg2, rfl⟩
              · refine q_iload_n (t := 76) F dX9_tells_75 rfl rfl rfl ?_
                refine q_if_ne (t := 79) (u := 88) F dX9_tells_76 (by first | exact hR _ _ _ | (constructor <;> omega)) (by decide) rfl (fun c76 => ?_) (fun c76 => ?_)
                · refine q_iload_n (t := 89) F dX9_tells_88 rfl rfl rfl ?_
                  refine q_iconst (t := 90) F dX9_tells_89 rfl ?_
                  refine q_icmp_ne (t := 93) (u := 105) F dX9_tells_90 (by first | exact hR _ _ _ | (constructor <;> omega)) (by first | exact hR _ _ _ | (constructor <;> omega)) (by decide) rfl (fun c90 => ?_) (fun c90 => ?_)
                  · refine q_iload_n (t := 106) F dX9_tells_105 rfl rfl rfl ?_
                    refine q_iconst (t := 107) F dX9_tells_106 rfl ?_
                    refine q_icmp_ne (t := 110) (u := 122) F dX9_tells_107 (by first | exact hR _ _ _ | (constructor <;> omega)) (by first | exact hR _ _ _ | (constructor <;> omega)) (by decide) rfl (fun c107 => ?_) (fun c107 => ?_)
                    · refine q_aload_n (t := 123) F dX9_tells_122 rfl rfl rfl ?_
                      refine q_iload_n (t := 124) F dX9_tells_123 rfl rfl rfl ?_
                      refine q_iload_n (t := 125) F dX9_tells_124 rfl rfl rfl ?_
                      refine q_iconst (t := 126) F dX9_tells_125 rfl ?_
                      refine q_aload_n (t := 127) F dX9_tells_126 rfl rfl rfl ?_
                      refine g_X9_85 (t := 130) F dX9_tells_127 rfl rfl ?_
                      try simp only [up_app, row_app, scr_app, cpy_app, Nat.reduceEqDiff, Int.reduceToNat, Int.toNat_natCast, and_true, true_and, and_false, false_and, and_self, reduceIte]
                      rw [show vI (im 30 0 3) = vI (((im 30 0 3).toNat : Nat) : Int) by rw [Int.toNat_of_nonneg (by omega)]]
                      refine wp_callV (t := 133) [_, _, _, _] F dX9_tells_130 k_X9_setBy v_X9_setBy ml_X9_435 rfl rfl rfl rfl (Nat.le_of_ble_eq_true rfl) (by decide) (m_30 (by omega)) (c_X9_setBy _ G im bt rt lm h hA h79 s p (by omega) (by omega) 4 (by omega) (im 30 0 3).toNat (by omega) 30 4 (by omega) (fun S v => rfl) (fun _ => by exact absurd rfl ‹_›) (fun z => by omega) (fun v hv => ⟨RC_ly h (what := 4) (p := p) (v := (v : Int)) (by omega), AG_ly hA 4 (v : Int) p⟩)) rfl (kI ?_)
                      rintro x130 m' ⟨hx130, im2, lm2, hR2, hag2, hlg2, rfl⟩
                      refine q_iret F dX9_tells_133 rfl ?_
                      first
                        | exact ⟨_, rfl, by constructor <;> omega, im, lm, hR, agS_rfl im, lgQ_rfl lm, rfl⟩
                        | exact ⟨_, rfl, by first | assumption | (constructor <;> omega), im2, lm2, hR2, hag2, hlg2, rfl⟩
                    · refine q_aload_n (t := 111) F dX9_tells_110 rfl rfl rfl ?_
                      refine q_iload_n (t := 112) F dX9_tells_111 rfl rfl rfl ?_
                      refine q_iload_n (t := 113) F dX9_tells_112 rfl rfl rfl ?_
                      refine q_iconst (t := 114) F dX9_tells_113 rfl ?_
                      refine q_bipush (t := 116) F dX9_tells_114 (by decide) rfl ?_
                      refine wp_callV (t := 119) [_, _, _, _] F dX9_tells_116 k_X9_setBy v_X9_setBy ml_X9_435 rfl rfl rfl rfl (Nat.le_of_ble_eq_true rfl) (by decide) (m_30 (by omega)) (c_X9_setBy _ G im bt rt lm h hA h79 s p (by omega) (by omega) 2 (by omega) 10 (by omega) 35 p (by omega) (fun S v => rfl) (fun _ => (tdR_23 (by omega)).1) (fun z => by omega) (fun v hv => ⟨RC_ly h (what := 2) (p := p) (v := (v : Int)) (by omega), AG_ly hA 2 (v : Int) p⟩)) rfl (kI ?_)
                      rintro x116 m' ⟨hx116, im2, lm2, hR2, hag2, hlg2, rfl⟩
                      refine q_goto (t := 133) F dX9_tells_119 (by decide) ?_
                      refine q_iret F dX9_tells_133 rfl ?_
                      first
                        | exact ⟨_, rfl, by constructor <;> omega, im, lm, hR, agS_rfl im, lgQ_rfl lm, rfl⟩
                        | exact ⟨_, rfl, by first | assumption | (constructor <;> omega), im2, lm2, hR2, hag2, hlg2, rfl⟩
                  · refine q_aload_n (t := 94) F dX9_tells_93 rfl rfl rfl ?_
                    refine q_iload_n (t := 95) F dX9_tells_94 rfl rfl rfl ?_
                    refine q_iload_n (t := 96) F dX9_tells_95 rfl rfl rfl ?_
                    refine q_iconst (t := 97) F dX9_tells_96 rfl ?_
                    refine q_bipush (t := 99) F dX9_tells_97 (by decide) rfl ?_
                    refine wp_callV (t := 102) [_, _, _, _] F dX9_tells_99 k_X9_setBy v_X9_setBy ml_X9_435 rfl rfl rfl rfl (Nat.le_of_ble_eq_true rfl) (by decide) (m_30 (by omega)) (c_X9_setBy _ G im bt rt lm h hA h79 s p (by omega) (by omega) 3 (by omega) 6 (by omega) 34 p (by omega) (fun S v => rfl) (fun _ => (tdR_23 (by omega)).2) (fun z => by omega) (fun v hv => ⟨RC_ly h (what := 3) (p := p) (v := (v : Int)) (by omega), AG_ly hA 3 (v : Int) p⟩)) rfl (kI ?_)
                    rintro x99 m' ⟨hx99, im2, lm2, hR2, hag2, hlg2, rfl⟩
                    refine q_goto (t := 133) F dX9_tells_102 (by decide) ?_
                    refine q_iret F dX9_tells_133 rfl ?_
                    first
                      | exact ⟨_, rfl, by constructor <;> omega, im, lm, hR, agS_rfl im, lgQ_rfl lm, rfl⟩
                      | exact ⟨_, rfl, by first | assumption | (constructor <;> omega), im2, lm2, hR2, hag2, hlg2, rfl⟩
                · refine q_aload_n (t := 80) F dX9_tells_79 rfl rfl rfl ?_
                  refine q_iload_n (t := 81) F dX9_tells_80 rfl rfl rfl ?_
                  refine q_iload_n (t := 82) F dX9_tells_81 rfl rfl rfl ?_
                  refine wp_callV (t := 85) [_, _] F dX9_tells_82 k_X9_firstOther v_X9_firstOther ml_X9_430 rfl rfl rfl rfl (Nat.le_of_ble_eq_true rfl) (by decide) (m_30 (by omega)) (c_X9_firstOther _ G im bt rt lm h hA h79 s p (by omega) (by omega)) rfl (kI ?_)
                  rintro x82 m' ⟨hx82, im2, lm2, hR2, hag2, hlg2, rfl⟩
                  refine q_goto (t := 133) F dX9_tells_85 (by decide) ?_
                  refine q_iret F dX9_tells_133 rfl ?_
                  first
                    | exact ⟨_, rfl, by constructor <;> omega, im, lm, hR, agS_rfl im, lgQ_rfl lm, rfl⟩
                    | exact ⟨_, rfl, by first | assumption | (constructor <;> omega), im2, lm2, hR2, hag2, hlg2, rfl⟩
            · refine q_bipush (t := 69) F dX9_tells_67 (by decide) rfl ?_
              refine q_iret F dX9_tells_69 rfl ?_
              first
                | exact ⟨_, rfl, by constructor <;> omega, im, lm, hR, agS_rfl im, lgQ_rfl lm, rfl⟩
                | exact ⟨_, rfl, by first | assumption | (constructor <;> omega), im2, lm2, hR2, hag2, hlg2, rfl⟩
          · refine q_bipush (t := 55) F dX9_tells_53 (by decide) rfl ?_
            refine q_iret F dX9_tells_55 rfl ?_
            first
              | exact ⟨_, rfl, by constructor <;> omega, im, lm, hR, agS_rfl im, lgQ_rfl lm, rfl⟩
              | exact ⟨_, rfl, by first | assumption | (constructor <;> omega), im2, lm2, hR2, hag2, hlg2, rfl⟩
        · refine q_bipush (t := 43) F dX9_tells_41 (by decide) rfl ?_
          refine q_iret F dX9_tells_43 rfl ?_
          first
            | exact ⟨_, rfl, by constructor <;> omega, im, lm, hR, agS_rfl im, lgQ_rfl lm, rfl⟩
            | exact ⟨_, rfl, by first | assumption | (constructor <;> omega), im2, lm2, hR2, hag2, hlg2, rfl⟩
end
