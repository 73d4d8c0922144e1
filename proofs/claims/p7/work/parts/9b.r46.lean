/-! the reference: sheets -/

def zeS (im : IM) (s n : Nat) : IM := fun k i x => if k = 50 ∧ i = 0 ∧ 40 * s ≤ x ∧ x < 40 * s + n then 0 else im k i x
theorem zeS_app (im : IM) (s n k i x : Nat) : zeS im s n k i x = if k = 50 ∧ i = 0 ∧ 40 * s ≤ x ∧ x < 40 * s + n then 0 else im k i x := rfl
theorem zeS_0 (im : IM) (s : Nat) : zeS im s 0 = im := by
  funext k i x
  rw [zeS_app, if_neg (by omega)]
theorem zeS_s (im : IM) (s n : Nat) : up (zeS im s n) 50 0 (40 * s + n) 0 = zeS im s (n + 1) := by
  funext k i x
  rw [up_app, zeS_app, zeS_app]
  by_cases h : k = 50 ∧ i = 0 ∧ x = 40 * s + n
  · rw [if_pos h, if_pos (by omega)]
  · rw [if_neg h]
    by_cases h2 : k = 50 ∧ i = 0 ∧ 40 * s ≤ x ∧ x < 40 * s + n
    · rw [if_pos h2, if_pos (by omega)]
    · rw [if_neg h2, if_neg (by omega)]
def shI3 (im : IM) (s : Nat) (sort n : Int) : IM := up (up (up im 47 0 s (if sort < 0 then 0 else 1)) 48 0 s sort) 49 0 s n
def sheetR (im : IM) (s : Nat) (sort n : Int) : IM := zeS (shI3 im s sort n) s (if sort < 0 then 0 else n.toNat)

set_option maxHeartbeats 4000000 in
theorem c_X9_sheet (l : Launch) (G : GS) (im : IM) (bt rt : Nat) (lm : IM) (s sort n : Int) (hs : ri s) (hsort : ri sort) (hn : ri n) : Cn l (XR G) yX9_sheet Y_X9_sheet [vR 30 0, vI s, vI sort, vI n] (im, rs bt rt, lm) (pI fun x m' => (¬ (((0 : Int) ≤ s ∧ (s : Int) ≤ 3) ∧ (-1 ≤ sort ∧ sort ≤ 2)) ∨ (0 ≤ sort ∧ 40 < n) → x = -2 ∧ m' = (im, rs bt rt, lm)) ∧ ((((0 : Int) ≤ s ∧ (s : Int) ≤ 3) ∧ (-1 ≤ sort ∧ sort ≤ 2)) → ¬ (0 ≤ sort ∧ 40 < n) → (0 ≤ sort ∧ n < 0 → x = -14 ∧ m' = (im, rs bt rt, lm)) ∧ (¬ (0 ≤ sort ∧ n < 0) → x = 1 ∧ m' = (sheetR im (Int.toNat s) sort n, rs bt rt, lm)))) := by
  refine cn_of (by decide) (okR G) rfl (Nat.le_of_ble_eq_true rfl) ?_
  intro M ad hMl F
  subst hMl
  have s1 := hs.1
  have s2 := hs.2
  have sort1 := hsort.1
  have sort2 := hsort.2
  have n1 := hn.1
  have n2 := hn.2
  refine wp_pad 1 ?_
  show Wp M (XR G) ad Y_X9_sheet (pI fun x m' => (¬ (((0 : Int) ≤ s ∧ (s : Int) ≤ 3) ∧ (-1 ≤ sort ∧ sort ≤ 2)) ∨ (0 ≤ sort ∧ 40 < n) → x = -2 ∧ m' = (im, rs bt rt, lm)) ∧ ((((0 : Int) ≤ s ∧ (s : Int) ≤ 3) ∧ (-1 ≤ sort ∧ sort ≤ 2)) → ¬ (0 ≤ sort ∧ 40 < n) → (0 ≤ sort ∧ n < 0 → x = -14 ∧ m' = (im, rs bt rt, lm)) ∧ (¬ (0 ≤ sort ∧ n < 0) → x = 1 ∧ m' = (sheetR im (Int.toNat s) sort n, rs bt rt, lm)))) 0 [some (vR 30 0), some (vI s), some (vI sort), some (vI n), none] [] (im, rs bt rt, lm)
  refine q_iload_n (t := 1) F dX9_sheet_0 rfl rfl rfl ?_
  refine wp_callS (t := 4) [_] F dX9_sheet_1 k_X9_isSheet st_X9_isSheet ml_X9_421 rfl rfl (Nat.le_of_ble_eq_true rfl) (by decide) (c_X9_isSheet _ G im bt rt lm s (by constructor <;> omega)) rfl (kI ?_)
  rintro x1 m' ⟨hx1, rfl⟩
  have hx1 := if01 hx1
  refine q_if_eq (t := 7) (u := 31) F dX9_sheet_4 (by first | exact hR _ _ _ | (constructor <;> omega)) (by decide) rfl (fun c4 => ?_) (fun c4 => ?_)
  · refine q_bipush (t := 33) F dX9_sheet_31 (by decide) rfl ?_
    refine q_iret F dX9_sheet_33 rfl ?_
    first
      | exact ⟨_, rfl, fun _ => ⟨rfl, rfl⟩, fun z1 z2 => absurd z1 (by omega)⟩
      | exact ⟨_, rfl, fun z => absurd z (by omega), fun _ _ => ⟨fun _ => ⟨rfl, rfl⟩, fun z => absurd (by omega) z⟩⟩
      | (have ej : j = (if sort < 0 then 0 else n.toNat) := by split <;> omega
         refine ⟨_, rfl, fun z => absurd z (by omega), fun _ _ => ⟨fun z => absurd z (by omega), fun _ => ⟨rfl, ?_⟩⟩⟩
         unfold sheetR
         (try rw [ets])
         rw [← ej])
      | omega
  · refine q_iload_n (t := 8) F dX9_sheet_7 rfl rfl rfl ?_
    refine q_i2l (t := 9) F dX9_sheet_8 (by first | exact hR _ _ _ | (constructor <;> omega)) rfl ?_
    refine q_ldc2 (t := 12) (x := -1) F dX9_sheet_9 kl_X9_471 (by decide) rfl ?_
    refine q_ldc2 (t := 15) (x := 2) F dX9_sheet_12 kl_X9_99 (by decide) rfl ?_
    refine wp_callS (t := 18) [_, _, _] F dX9_sheet_15 k_X9_in st_X9_in ml_X9_91 rfl rfl (Nat.le_of_ble_eq_true rfl) (by decide) (c_X9_in _ G _ _ _ _ _ _ _ (by constructor <;> omega) (by constructor <;> omega) (by constructor <;> omega)) rfl (kI ?_)
    rintro x15 m' ⟨hx15, rfl⟩
    have hx15 := if01 hx15
    refine q_if_eq (t := 21) (u := 31) F dX9_sheet_18 (by first | exact hR _ _ _ | (constructor <;> omega)) (by decide) rfl (fun c18 => ?_) (fun c18 => ?_)
    · refine q_bipush (t := 33) F dX9_sheet_31 (by decide) rfl ?_
      refine q_iret F dX9_sheet_33 rfl ?_
      first
        | exact ⟨_, rfl, fun _ => ⟨rfl, rfl⟩, fun z1 z2 => absurd z1 (by omega)⟩
        | exact ⟨_, rfl, fun z => absurd z (by omega), fun _ _ => ⟨fun _ => ⟨rfl, rfl⟩, fun z => absurd (by omega) z⟩⟩
        | (have ej : j = (if sort < 0 then 0 else n.toNat) := by split <;> omega
           refine ⟨_, rfl, fun z => absurd z (by omega), fun _ _ => ⟨fun z => absurd z (by omega), fun _ => ⟨rfl, ?_⟩⟩⟩
           unfold sheetR
           (try rw [ets])
           rw [← ej])
        | omega
    · refine q_iload_n (t := 22) F dX9_sheet_21 rfl rfl rfl ?_
      refine q_if_lt (t := 25) (u := 34) F dX9_sheet_22 (by first | exact hR _ _ _ | (constructor <;> omega)) (by decide) rfl (fun c22 => ?_) (fun c22 => ?_)
      · refine q_iload_n (t := 35) F dX9_sheet_34 rfl rfl rfl ?_
        refine q_if_lt (t := 38) (u := 45) F dX9_sheet_35 (by first | exact hR _ _ _ | (constructor <;> omega)) (by decide) rfl (fun c35 => ?_) (fun c35 => ?_)
        · obtain ⟨s, rfl⟩ : ∃ j : Nat, s = (j : Int) := ⟨s.toNat, by omega⟩
          have ets : ((s : Nat) : Int).toNat = s := Int.toNat_natCast s
          have hs3 : s ≤ 3 := by omega
          refine q_aload_n (t := 46) F dX9_sheet_45 rfl rfl rfl ?_
          refine g_X9_68 (t := 49) F dX9_sheet_46 rfl rfl ?_
          refine q_iload_n (t := 50) F dX9_sheet_49 rfl rfl rfl ?_
          refine q_iload_n (t := 51) F dX9_sheet_50 rfl rfl rfl ?_
          refine q_if_lt (t := 54) (u := 58) F dX9_sheet_51 (by first | exact hR _ _ _ | (constructor <;> omega)) (by decide) rfl (fun c51 => ?_) (fun c51 => ?_)
          · refine q_iconst (t := 59) F dX9_sheet_58 rfl ?_
            first | refine stN_47 (t := 60) F dX9_sheet_59 (by omega) (by omega) rfl ?_ | refine st_47 (t := 60) F dX9_sheet_59 (by omega) (by omega) (by omega) rfl ?_
            refine q_aload_n (t := 61) F dX9_sheet_60 rfl rfl rfl ?_
            refine g_X9_72 (t := 64) F dX9_sheet_61 rfl rfl ?_
            refine q_iload_n (t := 65) F dX9_sheet_64 rfl rfl rfl ?_
            refine q_iload_n (t := 66) F dX9_sheet_65 rfl rfl rfl ?_
            first | refine stN_48 (t := 67) F dX9_sheet_66 (by omega) rfl ?_ | refine st_48 (t := 67) F dX9_sheet_66 (by omega) (by omega) rfl ?_
            refine q_aload_n (t := 68) F dX9_sheet_67 rfl rfl rfl ?_
            refine g_X9_75 (t := 71) F dX9_sheet_68 rfl rfl ?_
            refine q_iload_n (t := 72) F dX9_sheet_71 rfl rfl rfl ?_
            refine q_iload_n (t := 73) F dX9_sheet_72 rfl rfl rfl ?_
            first | refine stN_49 (t := 74) F dX9_sheet_73 (by omega) rfl ?_ | refine st_49 (t := 74) F dX9_sheet_73 (by omega) (by omega) rfl ?_
            refine q_iconst (t := 75) F dX9_sheet_74 rfl ?_
            refine q_istore (t := 77) F dX9_sheet_75 (by decide) rfl rfl ?_
            have L77 : ∀ (fz : Nat) (j : Nat), 41 - j < fz → (0 ≤ sort → (j : Int) ≤ n) ∧ (sort < 0 → j = 0) → Wp M (XR G) ad Y_X9_sheet (pI fun x m' => (¬ (((0 : Int) ≤ s ∧ (s : Int) ≤ 3) ∧ (-1 ≤ sort ∧ sort ≤ 2)) ∨ (0 ≤ sort ∧ 40 < n) → x = -2 ∧ m' = (im, rs bt rt, lm)) ∧ ((((0 : Int) ≤ s ∧ (s : Int) ≤ 3) ∧ (-1 ≤ sort ∧ sort ≤ 2)) → ¬ (0 ≤ sort ∧ 40 < n) → (0 ≤ sort ∧ n < 0 → x = -14 ∧ m' = (im, rs bt rt, lm)) ∧ (¬ (0 ≤ sort ∧ n < 0) → x = 1 ∧ m' = (sheetR im (Int.toNat s) sort n, rs bt rt, lm)))) 77 [some (vR 30 0), some (vI (s : Int)), some (vI sort), some (vI n), some (vI (j : Int))] [] (zeS (shI3 im s sort n) s j, rs bt rt, lm) := by
              intro fz
              induction fz with
              | zero => intro j h; exact absurd h (Nat.not_lt_zero _)
              | succ fz ih =>
                have ih77 := ih
                intro j hmeas ⟨hj1, hj2⟩
                refine q_iload (t := 79) F dX9_sheet_77 rfl rfl ?_
                refine q_iload_n (t := 80) F dX9_sheet_79 rfl rfl rfl ?_
                refine q_icmp_ge (t := 83) (u := 106) F dX9_sheet_80 (by constructor <;> omega) (by constructor <;> omega) (by decide) rfl (fun c80 => ?_) (fun c80 => ?_)
                · refine q_iconst (t := 107) F dX9_sheet_106 rfl ?_
                  refine q_iret F dX9_sheet_107 rfl ?_
                  first
                    | exact ⟨_, rfl, fun _ => ⟨rfl, rfl⟩, fun z1 z2 => absurd z1 (by omega)⟩
                    | exact ⟨_, rfl, fun z => absurd z (by omega), fun _ _ => ⟨fun _ => ⟨rfl, rfl⟩, fun z => absurd (by omega) z⟩⟩
                    | (have ej : j = (if sort < 0 then 0 else n.toNat) := by split <;> omega
                       refine ⟨_, rfl, fun z => absurd z (by omega), fun _ _ => ⟨fun z => absurd z (by omega), fun _ => ⟨rfl, ?_⟩⟩⟩
                       unfold sheetR
                       (try rw [ets])
                       rw [← ej])
                    | omega
                · refine q_iload_n (t := 84) F dX9_sheet_83 rfl rfl rfl ?_
                  refine q_if_lt (t := 87) (u := 106) F dX9_sheet_84 (by first | exact hR _ _ _ | (constructor <;> omega)) (by decide) rfl (fun c84 => ?_) (fun c84 => ?_)
                  · refine q_iconst (t := 107) F dX9_sheet_106 rfl ?_
                    refine q_iret F dX9_sheet_107 rfl ?_
                    first
                      | exact ⟨_, rfl, fun _ => ⟨rfl, rfl⟩, fun z1 z2 => absurd z1 (by omega)⟩
                      | exact ⟨_, rfl, fun z => absurd z (by omega), fun _ _ => ⟨fun _ => ⟨rfl, rfl⟩, fun z => absurd (by omega) z⟩⟩
                      | (have ej : j = (if sort < 0 then 0 else n.toNat) := by split <;> omega
                         refine ⟨_, rfl, fun z => absurd z (by omega), fun _ _ => ⟨fun z => absurd z (by omega), fun _ => ⟨rfl, ?_⟩⟩⟩
                         unfold sheetR
                         (try rw [ets])
                         rw [← ej])
                      | omega
                  · refine q_aload_n (t := 88) F dX9_sheet_87 rfl rfl rfl ?_
                    refine g_X9_78 (t := 91) F dX9_sheet_88 rfl rfl ?_
                    refine q_bipush (t := 93) F dX9_sheet_91 (by decide) rfl ?_
                    refine q_iload_n (t := 94) F dX9_sheet_93 rfl rfl rfl ?_
                    refine q_imul (t := 95) F dX9_sheet_94 rfl ?_
                    refine q_iload (t := 97) F dX9_sheet_95 rfl rfl ?_
                    refine q_iadd (t := 98) F dX9_sheet_97 rfl ?_
                    rw [show (40 : Int) * (s : Int) + (j : Int) = ((40 * s + j : Nat) : Int) by omega]
                    refine q_iconst (t := 99) F dX9_sheet_98 rfl ?_
                    first | refine stN_50 (t := 100) F dX9_sheet_99 (by omega) rfl ?_ | refine st_50 (t := 100) F dX9_sheet_99 (by omega) (by omega) rfl ?_
                    refine q_iinc (t := 103) F dX9_sheet_100 rfl (by decide) rfl rfl ?_
                    refine q_goto (t := 77) F dX9_sheet_103 (by decide) ?_
                    rw [show (j : Int) + 1 = ((j + 1 : Nat) : Int) by omega, zeS_s]
                    exact ih77 (j + 1) (by omega) ⟨fun _ => by omega, fun z => absurd z (by omega)⟩
            have L0 := L77 _ 0 (Nat.lt_succ_self _) ⟨fun _ => by omega, fun _ => rfl⟩
            rw [zeS_0] at L0
            unfold shI3 at L0
            first
              | (rw [if_pos (by omega)] at L0; exact L0)
              | (rw [if_neg (by omega)] at L0; exact L0)
              | omega
          · refine q_iconst (t := 55) F dX9_sheet_54 rfl ?_
            refine q_goto (t := 59) F dX9_sheet_55 (by decide) ?_
            first | refine stN_47 (t := 60) F dX9_sheet_59 (by omega) (by omega) rfl ?_ | refine st_47 (t := 60) F dX9_sheet_59 (by omega) (by omega) (by omega) rfl ?_
            refine q_aload_n (t := 61) F dX9_sheet_60 rfl rfl rfl ?_
            refine g_X9_72 (t := 64) F dX9_sheet_61 rfl rfl ?_
            refine q_iload_n (t := 65) F dX9_sheet_64 rfl rfl rfl ?_
            refine q_iload_n (t := 66) F dX9_sheet_65 rfl rfl rfl ?_
            first | refine stN_48 (t := 67) F dX9_sheet_66 (by omega) rfl ?_ | refine st_48 (t := 67) F dX9_sheet_66 (by omega) (by omega) rfl ?_
            refine q_aload_n (t := 68) F dX9_sheet_67 rfl rfl rfl ?_
            refine g_X9_75 (t := 71) F dX9_sheet_68 rfl rfl ?_
            refine q_iload_n (t := 72) F dX9_sheet_71 rfl rfl rfl ?_
            refine q_iload_n (t := 73) F dX9_sheet_72 rfl rfl rfl ?_
            first | refine stN_49 (t := 74) F dX9_sheet_73 (by omega) rfl ?_ | refine st_49 (t := 74) F dX9_sheet_73 (by omega) (by omega) rfl ?_
            refine q_iconst (t := 75) F dX9_sheet_74 rfl ?_
            refine q_istore (t := 77) F dX9_sheet_75 (by decide) rfl rfl ?_
            have L77 : ∀ (fz : Nat) (j : Nat), 41 - j < fz → (0 ≤ sort → (j : Int) ≤ n) ∧ (sort < 0 → j = 0) → Wp M (XR G) ad Y_X9_sheet (pI fun x m' => (¬ (((0 : Int) ≤ s ∧ (s : Int) ≤ 3) ∧ (-1 ≤ sort ∧ sort ≤ 2)) ∨ (0 ≤ sort ∧ 40 < n) → x = -2 ∧ m' = (im, rs bt rt, lm)) ∧ ((((0 : Int) ≤ s ∧ (s : Int) ≤ 3) ∧ (-1 ≤ sort ∧ sort ≤ 2)) → ¬ (0 ≤ sort ∧ 40 < n) → (0 ≤ sort ∧ n < 0 → x = -14 ∧ m' = (im, rs bt rt, lm)) ∧ (¬ (0 ≤ sort ∧ n < 0) → x = 1 ∧ m' = (sheetR im (Int.toNat s) sort n, rs bt rt, lm)))) 77 [some (vR 30 0), some (vI (s : Int)), some (vI sort), some (vI n), some (vI (j : Int))] [] (zeS (shI3 im s sort n) s j, rs bt rt, lm) := by
              intro fz
              induction fz with
              | zero => intro j h; exact absurd h (Nat.not_lt_zero _)
              | succ fz ih =>
                have ih77 := ih
                intro j hmeas ⟨hj1, hj2⟩
                refine q_iload (t := 79) F dX9_sheet_77 rfl rfl ?_
                refine q_iload_n (t := 80) F dX9_sheet_79 rfl rfl rfl ?_
                refine q_icmp_ge (t := 83) (u := 106) F dX9_sheet_80 (by constructor <;> omega) (by constructor <;> omega) (by decide) rfl (fun c80 => ?_) (fun c80 => ?_)
                · refine q_iconst (t := 107) F dX9_sheet_106 rfl ?_
                  refine q_iret F dX9_sheet_107 rfl ?_
                  first
                    | exact ⟨_, rfl, fun _ => ⟨rfl, rfl⟩, fun z1 z2 => absurd z1 (by omega)⟩
                    | exact ⟨_, rfl, fun z => absurd z (by omega), fun _ _ => ⟨fun _ => ⟨rfl, rfl⟩, fun z => absurd (by omega) z⟩⟩
                    | (have ej : j = (if sort < 0 then 0 else n.toNat) := by split <;> omega
                       refine ⟨_, rfl, fun z => absurd z (by omega), fun _ _ => ⟨fun z => absurd z (by omega), fun _ => ⟨rfl, ?_⟩⟩⟩
                       unfold sheetR
                       (try rw [ets])
                       rw [← ej])
                    | omega
                · refine q_iload_n (t := 84) F dX9_sheet_83 rfl rfl rfl ?_
                  refine q_if_lt (t := 87) (u := 106) F dX9_sheet_84 (by first | exact hR _ _ _ | (constructor <;> omega)) (by decide) rfl (fun c84 => ?_) (fun c84 => ?_)
                  · refine q_iconst (t := 107) F dX9_sheet_106 rfl ?_
                    refine q_iret F dX9_sheet_107 rfl ?_
                    first
                      | exact ⟨_, rfl, fun _ => ⟨rfl, rfl⟩, fun z1 z2 => absurd z1 (by omega)⟩
                      | exact ⟨_, rfl, fun z => absurd z (by omega), fun _ _ => ⟨fun _ => ⟨rfl, rfl⟩, fun z => absurd (by omega) z⟩⟩
                      | (have ej : j = (if sort < 0 then 0 else n.toNat) := by split <;> omega
                         refine ⟨_, rfl, fun z => absurd z (by omega), fun _ _ => ⟨fun z => absurd z (by omega), fun _ => ⟨rfl, ?_⟩⟩⟩
                         unfold sheetR
                         (try rw [ets])
                         rw [← ej])
                      | omega
                  · refine q_aload_n (t := 88) F dX9_sheet_87 rfl rfl rfl ?_
                    refine g_X9_78 (t := 91) F dX9_sheet_88 rfl rfl ?_
                    refine q_bipush (t := 93) F dX9_sheet_91 (by decide) rfl ?_
                    refine q_iload_n (t := 94) F dX9_sheet_93 rfl rfl rfl ?_
                    refine q_imul (t := 95) F dX9_sheet_94 rfl ?_
                    refine q_iload (t := 97) F dX9_sheet_95 rfl rfl ?_
                    refine q_iadd (t := 98) F dX9_sheet_97 rfl ?_
                    rw [show (40 : Int) * (s : Int) + (j : Int) = ((40 * s + j : Nat) : Int) by omega]
                    refine q_iconst (t := 99) F dX9_sheet_98 rfl ?_
                    first | refine stN_50 (t := 100) F dX9_sheet_99 (by omega) rfl ?_ | refine st_50 (t := 100) F dX9_sheet_99 (by omega) (by omega) rfl ?_
                    refine q_iinc (t := 103) F dX9_sheet_100 rfl (by decide) rfl rfl ?_
                    refine q_goto (t := 77) F dX9_sheet_103 (by decide) ?_
                    rw [show (j : Int) + 1 = ((j + 1 : Nat) : Int) by omega, zeS_s]
                    exact ih77 (j + 1) (by omega) ⟨fun _ => by omega, fun z => absurd z (by omega)⟩
            have L0 := L77 _ 0 (Nat.lt_succ_self _) ⟨fun _ => by omega, fun _ => rfl⟩
            rw [zeS_0] at L0
            unfold shI3 at L0
            first
              | (rw [if_pos (by omega)] at L0; exact L0)
              | (rw [if_neg (by omega)] at L0; exact L0)
              | omega
        · refine q_iload_n (t := 39) F dX9_sheet_38 rfl rfl rfl ?_
          refine q_if_ge (t := 42) (u := 45) F dX9_sheet_39 (by first | exact hR _ _ _ | (constructor <;> omega)) (by decide) rfl (fun c39 => ?_) (fun c39 => ?_)
          · obtain ⟨s, rfl⟩ : ∃ j : Nat, s = (j : Int) := ⟨s.toNat, by omega⟩
            have ets : ((s : Nat) : Int).toNat = s := Int.toNat_natCast s
            have hs3 : s ≤ 3 := by omega
            refine q_aload_n (t := 46) F dX9_sheet_45 rfl rfl rfl ?_
            refine g_X9_68 (t := 49) F dX9_sheet_46 rfl rfl ?_
            refine q_iload_n (t := 50) F dX9_sheet_49 rfl rfl rfl ?_
            refine q_iload_n (t := 51) F dX9_sheet_50 rfl rfl rfl ?_
            refine q_if_lt (t := 54) (u := 58) F dX9_sheet_51 (by first | exact hR _ _ _ | (constructor <;> omega)) (by decide) rfl (fun c51 => ?_) (fun c51 => ?_)
            · refine q_iconst (t := 59) F dX9_sheet_58 rfl ?_
              first | refine stN_47 (t := 60) F dX9_sheet_59 (by omega) (by omega) rfl ?_ | refine st_47 (t := 60) F dX9_sheet_59 (by omega) (by omega) (by omega) rfl ?_
              refine q_aload_n (t := 61) F dX9_sheet_60 rfl rfl rfl ?_
              refine g_X9_72 (t := 64) F dX9_sheet_61 rfl rfl ?_
              refine q_iload_n (t := 65) F dX9_sheet_64 rfl rfl rfl ?_
              refine q_iload_n (t := 66) F dX9_sheet_65 rfl rfl rfl ?_
              first | refine stN_48 (t := 67) F dX9_sheet_66 (by omega) rfl ?_ | refine st_48 (t := 67) F dX9_sheet_66 (by omega) (by omega) rfl ?_
              refine q_aload_n (t := 68) F dX9_sheet_67 rfl rfl rfl ?_
              refine g_X9_75 (t := 71) F dX9_sheet_68 rfl rfl ?_
              refine q_iload_n (t := 72) F dX9_sheet_71 rfl rfl rfl ?_
              refine q_iload_n (t := 73) F dX9_sheet_72 rfl rfl rfl ?_
              first | refine stN_49 (t := 74) F dX9_sheet_73 (by omega) rfl ?_ | refine st_49 (t := 74) F dX9_sheet_73 (by omega) (by omega) rfl ?_
              refine q_iconst (t := 75) F dX9_sheet_74 rfl ?_
              refine q_istore (t := 77) F dX9_sheet_75 (by decide) rfl rfl ?_
              have L77 : ∀ (fz : Nat) (j : Nat), 41 - j < fz → (0 ≤ sort → (j : Int) ≤ n) ∧ (sort < 0 → j = 0) → Wp M (XR G) ad Y_X9_sheet (pI fun x m' => (¬ (((0 : Int) ≤ s ∧ (s : Int) ≤ 3) ∧ (-1 ≤ sort ∧ sort ≤ 2)) ∨ (0 ≤ sort ∧ 40 < n) → x = -2 ∧ m' = (im, rs bt rt, lm)) ∧ ((((0 : Int) ≤ s ∧ (s : Int) ≤ 3) ∧ (-1 ≤ sort ∧ sort ≤ 2)) → ¬ (0 ≤ sort ∧ 40 < n) → (0 ≤ sort ∧ n < 0 → x = -14 ∧ m' = (im, rs bt rt, lm)) ∧ (¬ (0 ≤ sort ∧ n < 0) → x = 1 ∧ m' = (sheetR im (Int.toNat s) sort n, rs bt rt, lm)))) 77 [some (vR 30 0), some (vI (s : Int)), some (vI sort), some (vI n), some (vI (j : Int))] [] (zeS (shI3 im s sort n) s j, rs bt rt, lm) := by
                intro fz
                induction fz with
                | zero => intro j h; exact absurd h (Nat.not_lt_zero _)
                | succ fz ih =>
                  have ih77 := ih
                  intro j hmeas ⟨hj1, hj2⟩
                  refine q_iload (t := 79) F dX9_sheet_77 rfl rfl ?_
                  refine q_iload_n (t := 80) F dX9_sheet_79 rfl rfl rfl ?_
                  refine q_icmp_ge (t := 83) (u := 106) F dX9_sheet_80 (by constructor <;> omega) (by constructor <;> omega) (by decide) rfl (fun c80 => ?_) (fun c80 => ?_)
                  · refine q_iconst (t := 107) F dX9_sheet_106 rfl ?_
                    refine q_iret F dX9_sheet_107 rfl ?_
                    first
                      | exact ⟨_, rfl, fun _ => ⟨rfl, rfl⟩, fun z1 z2 => absurd z1 (by omega)⟩
                      | exact ⟨_, rfl, fun z => absurd z (by omega), fun _ _ => ⟨fun _ => ⟨rfl, rfl⟩, fun z => absurd (by omega) z⟩⟩
                      | (have ej : j = (if sort < 0 then 0 else n.toNat) := by split <;> omega
                         refine ⟨_, rfl, fun z => absurd z (by omega), fun _ _ => ⟨fun z => absurd z (by omega), fun _ => ⟨rfl, ?_⟩⟩⟩
                         unfold sheetR
                         (try rw [ets])
                         rw [← ej])
                      | omega
                  · refine q_iload_n (t := 84) F dX9_sheet_83 rfl rfl rfl ?_
                    refine q_if_lt (t := 87) (u := 106) F dX9_sheet_84 (by first | exact hR _ _ _ | (constructor <;> omega)) (by decide) rfl (fun c84 => ?_) (fun c84 => ?_)
                    · refine q_iconst (t := 107) F dX9_sheet_106 rfl ?_
                      refine q_iret F dX9_sheet_107 rfl ?_
                      first
                        | exact ⟨_, rfl, fun _ => ⟨rfl, rfl⟩, fun z1 z2 => absurd z1 (by omega)⟩
                        | exact ⟨_, rfl, fun z => absurd z (by omega), fun _ _ => ⟨fun _ => ⟨rfl, rfl⟩, fun z => absurd (by omega) z⟩⟩
                        | (have ej : j = (if sort < 0 then 0 else n.toNat) := by split <;> omega
                           refine ⟨_, rfl, fun z => absurd z (by omega), fun _ _ => ⟨fun z => absurd z (by omega), fun _ => ⟨rfl, ?_⟩⟩⟩
                           unfold sheetR
                           (try rw [ets])
                           rw [← ej])
                        | omega
                    · refine q_aload_n (t := 88) F dX9_sheet_87 rfl rfl rfl ?_
                      refine g_X9_78 (t := 91) F dX9_sheet_88 rfl rfl ?_
                      refine q_bipush (t := 93) F dX9_sheet_91 (by decide) rfl ?_
                      refine q_iload_n (t := 94) F dX9_sheet_93 rfl rfl rfl ?_
                      refine q_imul (t := 95) F dX9_sheet_94 rfl ?_
                      refine q_iload (t := 97) F dX9_sheet_95 rfl rfl ?_
                      refine q_iadd (t := 98) F dX9_sheet_97 rfl ?_
                      rw [show (40 : Int) * (s : Int) + (j : Int) = ((40 * s + j : Nat) : Int) by omega]
                      refine q_iconst (t := 99) F dX9_sheet_98 rfl ?_
                      first | refine stN_50 (t := 100) F dX9_sheet_99 (by omega) rfl ?_ | refine st_50 (t := 100) F dX9_sheet_99 (by omega) (by omega) rfl ?_
                      refine q_iinc (t := 103) F dX9_sheet_100 rfl (by decide) rfl rfl ?_
                      refine q_goto (t := 77) F dX9_sheet_103 (by decide) ?_
                      rw [show (j : Int) + 1 = ((j + 1 : Nat) : Int) by omega, zeS_s]
                      exact ih77 (j + 1) (by omega) ⟨fun _ => by omega, fun z => absurd z (by omega)⟩
              have L0 := L77 _ 0 (Nat.lt_succ_self _) ⟨fun _ => by omega, fun _ => rfl⟩
              rw [zeS_0] at L0
              unfold shI3 at L0
              first
                | (rw [if_pos (by omega)] at L0; exact L0)
                | (rw [if_neg (by omega)] at L0; exact L0)
                | omega
            · refine q_iconst (t := 55) F dX9_sheet_54 rfl ?_
              refine q_goto (t := 59) F dX9_sheet_55 (by decide) ?_
              first | refine stN_47 (t := 60) F dX9_sheet_59 (by omega) (by omega) rfl ?_ | refine st_47 (t := 60) F dX9_sheet_59 (by omega) (by omega) (by omega) rfl ?_
              refine q_aload_n (t := 61) F dX9_sheet_60 rfl rfl rfl ?_
              refine g_X9_72 (t := 64) F dX9_sheet_61 rfl rfl ?_
              refine q_iload_n (t := 65) F dX9_sheet_64 rfl rfl rfl ?_
              refine q_iload_n (t := 66) F dX9_sheet_65 rfl rfl rfl ?_
              first | refine stN_48 (t := 67) F dX9_sheet_66 (by omega) rfl ?_ | refine st_48 (t := 67) F dX9_sheet_66 (by omega) (by omega) rfl ?_
              refine q_aload_n (t := 68) F dX9_sheet_67 rfl rfl rfl ?_
              refine g_X9_75 (t := 71) F dX9_sheet_68 rfl rfl ?_
              refine q_iload_n (t := 72) F dX9_sheet_71 rfl rfl rfl ?_
              refine q_iload_n (t := 73) F dX9_sheet_72 rfl rfl rfl ?_
              first | refine stN_49 (t := 74) F dX9_sheet_73 (by omega) rfl ?_ | refine st_49 (t := 74) F dX9_sheet_73 (by omega) (by omega) rfl ?_
              refine q_iconst (t := 75) F dX9_sheet_74 rfl ?_
              refine q_istore (t := 77) F dX9_sheet_75 (by decide) rfl rfl ?_
              have L77 : ∀ (fz : Nat) (j : Nat), 41 - j < fz → (0 ≤ sort → (j : Int) ≤ n) ∧ (sort < 0 → j = 0) → Wp M (XR G) ad Y_X9_sheet (pI fun x m' => (¬ (((0 : Int) ≤ s ∧ (s : Int) ≤ 3) ∧ (-1 ≤ sort ∧ sort ≤ 2)) ∨ (0 ≤ sort ∧ 40 < n) → x = -2 ∧ m' = (im, rs bt rt, lm)) ∧ ((((0 : Int) ≤ s ∧ (s : Int) ≤ 3) ∧ (-1 ≤ sort ∧ sort ≤ 2)) → ¬ (0 ≤ sort ∧ 40 < n) → (0 ≤ sort ∧ n < 0 → x = -14 ∧ m' = (im, rs bt rt, lm)) ∧ (¬ (0 ≤ sort ∧ n < 0) → x = 1 ∧ m' = (sheetR im (Int.toNat s) sort n, rs bt rt, lm)))) 77 [some (vR 30 0), some (vI (s : Int)), some (vI sort), some (vI n), some (vI (j : Int))] [] (zeS (shI3 im s sort n) s j, rs bt rt, lm) := by
                intro fz
                induction fz with
                | zero => intro j h; exact absurd h (Nat.not_lt_zero _)
                | succ fz ih =>
                  have ih77 := ih
                  intro j hmeas ⟨hj1, hj2⟩
                  refine q_iload (t := 79) F dX9_sheet_77 rfl rfl ?_
                  refine q_iload_n (t := 80) F dX9_sheet_79 rfl rfl rfl ?_
                  refine q_icmp_ge (t := 83) (u := 106) F dX9_sheet_80 (by constructor <;> omega) (by constructor <;> omega) (by decide) rfl (fun c80 => ?_) (fun c80 => ?_)
                  · refine q_iconst (t := 107) F dX9_sheet_106 rfl ?_
                    refine q_iret F dX9_sheet_107 rfl ?_
                    first
                      | exact ⟨_, rfl, fun _ => ⟨rfl, rfl⟩, fun z1 z2 => absurd z1 (by omega)⟩
                      | exact ⟨_, rfl, fun z => absurd z (by omega), fun _ _ => ⟨fun _ => ⟨rfl, rfl⟩, fun z => absurd (by omega) z⟩⟩
                      | (have ej : j = (if sort < 0 then 0 else n.toNat) := by split <;> omega
                         refine ⟨_, rfl, fun z => absurd z (by omega), fun _ _ => ⟨fun z => absurd z (by omega), fun _ => ⟨rfl, ?_⟩⟩⟩
                         unfold sheetR
                         (try rw [ets])
                         rw [← ej])
                      | omega
                  · refine q_iload_n (t := 84) F dX9_sheet_83 rfl rfl rfl ?_
                    refine q_if_lt (t := 87) (u := 106) F dX9_sheet_84 (by first | exact hR _ _ _ | (constructor <;> omega)) (by decide) rfl (fun c84 => ?_) (fun c84 => ?_)
                    · refine q_iconst (t := 107) F dX9_sheet_106 rfl ?_
                      refine q_iret F dX9_sheet_107 rfl ?_
                      first
                        | exact ⟨_, rfl, fun _ => ⟨rfl, rfl⟩, fun z1 z2 => absurd z1 (by omega)⟩
                        | exact ⟨_, rfl, fun z => absurd z (by omega), fun _ _ => ⟨fun _ => ⟨rfl, rfl⟩, fun z => absurd (by omega) z⟩⟩
                        | (have ej : j = (if sort < 0 then 0 else n.toNat) := by split <;> omega
                           refine ⟨_, rfl, fun z => absurd z (by omega), fun _ _ => ⟨fun z => absurd z (by omega), fun _ => ⟨rfl, ?_⟩⟩⟩
                           unfold sheetR
                           (try rw [ets])
                           rw [← ej])
                        | omega
                    · refine q_aload_n (t := 88) F dX9_sheet_87 rfl rfl rfl ?_
                      refine g_X9_78 (t := 91) F dX9_sheet_88 rfl rfl ?_
                      refine q_bipush (t := 93) F dX9_sheet_91 (by decide) rfl ?_
                      refine q_iload_n (t := 94) F dX9_sheet_93 rfl rfl rfl ?_
                      refine q_imul (t := 95) F dX9_sheet_94 rfl ?_
                      refine q_iload (t := 97) F dX9_sheet_95 rfl rfl ?_
                      refine q_iadd (t := 98) F dX9_sheet_97 rfl ?_
                      rw [show (40 : Int) * (s : Int) + (j : Int) = ((40 * s + j : Nat) : Int) by omega]
                      refine q_iconst (t := 99) F dX9_sheet_98 rfl ?_
                      first | refine stN_50 (t := 100) F dX9_sheet_99 (by omega) rfl ?_ | refine st_50 (t := 100) F dX9_sheet_99 (by omega) (by omega) rfl ?_
                      refine q_iinc (t := 103) F dX9_sheet_100 rfl (by decide) rfl rfl ?_
                      refine q_goto (t := 77) F dX9_sheet_103 (by decide) ?_
                      rw [show (j : Int) + 1 = ((j + 1 : Nat) : Int) by omega, zeS_s]
                      exact ih77 (j + 1) (by omega) ⟨fun _ => by omega, fun z => absurd z (by omega)⟩
              have L0 := L77 _ 0 (Nat.lt_succ_self _) ⟨fun _ => by omega, fun _ => rfl⟩
              rw [zeS_0] at L0
              unfold shI3 at L0
              first
                | (rw [if_pos (by omega)] at L0; exact L0)
                | (rw [if_neg (by omega)] at L0; exact L0)
                | omega
          · refine q_bipush (t := 44) F dX9_sheet_42 (by decide) rfl ?_
            refine q_iret F dX9_sheet_44 rfl ?_
            first
              | exact ⟨_, rfl, fun _ => ⟨rfl, rfl⟩, fun z1 z2 => absurd z1 (by omega)⟩
              | exact ⟨_, rfl, fun z => absurd z (by omega), fun _ _ => ⟨fun _ => ⟨rfl, rfl⟩, fun z => absurd (by omega) z⟩⟩
              | (have ej : j = (if sort < 0 then 0 else n.toNat) := by split <;> omega
                 refine ⟨_, rfl, fun z => absurd z (by omega), fun _ _ => ⟨fun z => absurd z (by omega), fun _ => ⟨rfl, ?_⟩⟩⟩
                 unfold sheetR
                 (try rw [ets])
                 rw [← ej])
              | omega
      · refine q_iload_n (t := 26) F dX9_sheet_25 rfl rfl rfl ?_
        refine q_bipush (t := 28) F dX9_sheet_26 (by decide) rfl ?_
        refine q_icmp_le (t := 31) (u := 34) F dX9_sheet_28 (by constructor <;> omega) (by constructor <;> omega) (by decide) rfl (fun c28 => ?_) (fun c28 => ?_)
        · refine q_iload_n (t := 35) F dX9_sheet_34 rfl rfl rfl ?_
          refine q_if_lt (t := 38) (u := 45) F dX9_sheet_35 (by first | exact hR _ _ _ | (constructor <;> omega)) (by decide) rfl (fun c35 => ?_) (fun c35 => ?_)
          · obtain ⟨s, rfl⟩ : ∃ j : Nat, s = (j : Int) := ⟨s.toNat, by omega⟩
            have ets : ((s : Nat) : Int).toNat = s := Int.toNat_natCast s
            have hs3 : s ≤ 3 := by omega
            refine q_aload_n (t := 46) F dX9_sheet_45 rfl rfl rfl ?_
            refine g_X9_68 (t := 49) F dX9_sheet_46 rfl rfl ?_
            refine q_iload_n (t := 50) F dX9_sheet_49 rfl rfl rfl ?_
            refine q_iload_n (t := 51) F dX9_sheet_50 rfl rfl rfl ?_
            refine q_if_lt (t := 54) (u := 58) F dX9_sheet_51 (by first | exact hR _ _ _ | (constructor <;> omega)) (by decide) rfl (fun c51 => ?_) (fun c51 => ?_)
            · refine q_iconst (t := 59) F dX9_sheet_58 rfl ?_
              first | refine stN_47 (t := 60) F dX9_sheet_59 (by omega) (by omega) rfl ?_ | refine st_47 (t := 60) F dX9_sheet_59 (by omega) (by omega) (by omega) rfl ?_
              refine q_aload_n (t := 61) F dX9_sheet_60 rfl rfl rfl ?_
              refine g_X9_72 (t := 64) F dX9_sheet_61 rfl rfl ?_
              refine q_iload_n (t := 65) F dX9_sheet_64 rfl rfl rfl ?_
              refine q_iload_n (t := 66) F dX9_sheet_65 rfl rfl rfl ?_
              first | refine stN_48 (t := 67) F dX9_sheet_66 (by omega) rfl ?_ | refine st_48 (t := 67) F dX9_sheet_66 (by omega) (by omega) rfl ?_
              refine q_aload_n (t := 68) F dX9_sheet_67 rfl rfl rfl ?_
              refine g_X9_75 (t := 71) F dX9_sheet_68 rfl rfl ?_
              refine q_iload_n (t := 72) F dX9_sheet_71 rfl rfl rfl ?_
              refine q_iload_n (t := 73) F dX9_sheet_72 rfl rfl rfl ?_
              first | refine stN_49 (t := 74) F dX9_sheet_73 (by omega) rfl ?_ | refine st_49 (t := 74) F dX9_sheet_73 (by omega) (by omega) rfl ?_
              refine q_iconst (t := 75) F dX9_sheet_74 rfl ?_
              refine q_istore (t := 77) F dX9_sheet_75 (by decide) rfl rfl ?_
              have L77 : ∀ (fz : Nat) (j : Nat), 41 - j < fz → (0 ≤ sort → (j : Int) ≤ n) ∧ (sort < 0 → j = 0) → Wp M (XR G) ad Y_X9_sheet (pI fun x m' => (¬ (((0 : Int) ≤ s ∧ (s : Int) ≤ 3) ∧ (-1 ≤ sort ∧ sort ≤ 2)) ∨ (0 ≤ sort ∧ 40 < n) → x = -2 ∧ m' = (im, rs bt rt, lm)) ∧ ((((0 : Int) ≤ s ∧ (s : Int) ≤ 3) ∧ (-1 ≤ sort ∧ sort ≤ 2)) → ¬ (0 ≤ sort ∧ 40 < n) → (0 ≤ sort ∧ n < 0 → x = -14 ∧ m' = (im, rs bt rt, lm)) ∧ (¬ (0 ≤ sort ∧ n < 0) → x = 1 ∧ m' = (sheetR im (Int.toNat s) sort n, rs bt rt, lm)))) 77 [some (vR 30 0), some (vI (s : Int)), some (vI sort), some (vI n), some (vI (j : Int))] [] (zeS (shI3 im s sort n) s j, rs bt rt, lm) := by
                intro fz
                induction fz with
                | zero => intro j h; exact absurd h (Nat.not_lt_zero _)
                | succ fz ih =>
                  have ih77 := ih
                  intro j hmeas ⟨hj1, hj2⟩
                  refine q_iload (t := 79) F dX9_sheet_77 rfl rfl ?_
                  refine q_iload_n (t := 80) F dX9_sheet_79 rfl rfl rfl ?_
                  refine q_icmp_ge (t := 83) (u := 106) F dX9_sheet_80 (by constructor <;> omega) (by constructor <;> omega) (by decide) rfl (fun c80 => ?_) (fun c80 => ?_)
                  · refine q_iconst (t := 107) F dX9_sheet_106 rfl ?_
                    refine q_iret F dX9_sheet_107 rfl ?_
                    first
                      | exact ⟨_, rfl, fun _ => ⟨rfl, rfl⟩, fun z1 z2 => absurd z1 (by omega)⟩
                      | exact ⟨_, rfl, fun z => absurd z (by omega), fun _ _ => ⟨fun _ => ⟨rfl, rfl⟩, fun z => absurd (by omega) z⟩⟩
                      | (have ej : j = (if sort < 0 then 0 else n.toNat) := by split <;> omega
                         refine ⟨_, rfl, fun z => absurd z (by omega), fun _ _ => ⟨fun z => absurd z (by omega), fun _ => ⟨rfl, ?_⟩⟩⟩
                         unfold sheetR
                         (try rw [ets])
                         rw [← ej])
                      | omega
                  · refine q_iload_n (t := 84) F dX9_sheet_83 rfl rfl rfl ?_
                    refine q_if_lt (t := 87) (u := 106) F dX9_sheet_84 (by first | exact hR _ _ _ | (constructor <;> omega)) (by decide) rfl (fun c84 => ?_) (fun c84 => ?_)
                    · refine q_iconst (t := 107) F dX9_sheet_106 rfl ?_
                      refine q_iret F dX9_sheet_107 rfl ?_
                      first
                        | exact ⟨_, rfl, fun _ => ⟨rfl, rfl⟩, fun z1 z2 => absurd z1 (by omega)⟩
                        | exact ⟨_, rfl, fun z => absurd z (by omega), fun _ _ => ⟨fun _ => ⟨rfl, rfl⟩, fun z => absurd (by omega) z⟩⟩
                        | (have ej : j = (if sort < 0 then 0 else n.toNat) := by split <;> omega
                           refine ⟨_, rfl, fun z => absurd z (by omega), fun _ _ => ⟨fun z => absurd z (by omega), fun _ => ⟨rfl, ?_⟩⟩⟩
                           unfold sheetR
                           (try rw [ets])
                           rw [← ej])
                        | omega
                    · refine q_aload_n (t := 88) F dX9_sheet_87 rfl rfl rfl ?_
                      refine g_X9_78 (t := 91) F dX9_sheet_88 rfl rfl ?_
                      refine q_bipush (t := 93) F dX9_sheet_91 (by decide) rfl ?_
                      refine q_iload_n (t := 94) F dX9_sheet_93 rfl rfl rfl ?_
                      refine q_imul (t := 95) F dX9_sheet_94 rfl ?_
                      refine q_iload (t := 97) F dX9_sheet_95 rfl rfl ?_
                      refine q_iadd (t := 98) F dX9_sheet_97 rfl ?_
                      rw [show (40 : Int) * (s : Int) + (j : Int) = ((40 * s + j : Nat) : Int) by omega]
                      refine q_iconst (t := 99) F dX9_sheet_98 rfl ?_
                      first | refine stN_50 (t := 100) F dX9_sheet_99 (by omega) rfl ?_ | refine st_50 (t := 100) F dX9_sheet_99 (by omega) (by omega) rfl ?_
                      refine q_iinc (t := 103) F dX9_sheet_100 rfl (by decide) rfl rfl ?_
                      refine q_goto (t := 77) F dX9_sheet_103 (by decide) ?_
                      rw [show (j : Int) + 1 = ((j + 1 : Nat) : Int) by omega, zeS_s]
                      exact ih77 (j + 1) (by omega) ⟨fun _ => by omega, fun z => absurd z (by omega)⟩
              have L0 := L77 _ 0 (Nat.lt_succ_self _) ⟨fun _ => by omega, fun _ => rfl⟩
              rw [zeS_0] at L0
              unfold shI3 at L0
              first
                | (rw [if_pos (by omega)] at L0; exact L0)
                | (rw [if_neg (by omega)] at L0; exact L0)
                | omega
            · refine q_iconst (t := 55) F dX9_sheet_54 rfl ?_
              refine q_goto (t := 59) F dX9_sheet_55 (by decide) ?_
              first | refine stN_47 (t := 60) F dX9_sheet_59 (by omega) (by omega) rfl ?_ | refine st_47 (t := 60) F dX9_sheet_59 (by omega) (by omega) (by omega) rfl ?_
              refine q_aload_n (t := 61) F dX9_sheet_60 rfl rfl rfl ?_
              refine g_X9_72 (t := 64) F dX9_sheet_61 rfl rfl ?_
              refine q_iload_n (t := 65) F dX9_sheet_64 rfl rfl rfl ?_
              refine q_iload_n (t := 66) F dX9_sheet_65 rfl rfl rfl ?_
              first | refine stN_48 (t := 67) F dX9_sheet_66 (by omega) rfl ?_ | refine st_48 (t := 67) F dX9_sheet_66 (by omega) (by omega) rfl ?_
              refine q_aload_n (t := 68) F dX9_sheet_67 rfl rfl rfl ?_
              refine g_X9_75 (t := 71) F dX9_sheet_68 rfl rfl ?_
              refine q_iload_n (t := 72) F dX9_sheet_71 rfl rfl rfl ?_
              refine q_iload_n (t := 73) F dX9_sheet_72 rfl rfl rfl ?_
              first | refine stN_49 (t := 74) F dX9_sheet_73 (by omega) rfl ?_ | refine st_49 (t := 74) F dX9_sheet_73 (by omega) (by omega) rfl ?_
              refine q_iconst (t := 75) F dX9_sheet_74 rfl ?_
              refine q_istore (t := 77) F dX9_sheet_75 (by decide) rfl rfl ?_
              have L77 : ∀ (fz : Nat) (j : Nat), 41 - j < fz → (0 ≤ sort → (j : Int) ≤ n) ∧ (sort < 0 → j = 0) → Wp M (XR G) ad Y_X9_sheet (pI fun x m' => (¬ (((0 : Int) ≤ s ∧ (s : Int) ≤ 3) ∧ (-1 ≤ sort ∧ sort ≤ 2)) ∨ (0 ≤ sort ∧ 40 < n) → x = -2 ∧ m' = (im, rs bt rt, lm)) ∧ ((((0 : Int) ≤ s ∧ (s : Int) ≤ 3) ∧ (-1 ≤ sort ∧ sort ≤ 2)) → ¬ (0 ≤ sort ∧ 40 < n) → (0 ≤ sort ∧ n < 0 → x = -14 ∧ m' = (im, rs bt rt, lm)) ∧ (¬ (0 ≤ sort ∧ n < 0) → x = 1 ∧ m' = (sheetR im (Int.toNat s) sort n, rs bt rt, lm)))) 77 [some (vR 30 0), some (vI (s : Int)), some (vI sort), some (vI n), some (vI (j : Int))] [] (zeS (shI3 im s sort n) s j, rs bt rt, lm) := by
                intro fz
                induction fz with
                | zero => intro j h; exact absurd h (Nat.not_lt_zero _)
                | succ fz ih =>
                  have ih77 := ih
                  intro j hmeas ⟨hj1, hj2⟩
                  refine q_iload (t := 79) F dX9_sheet_77 rfl rfl ?_
                  refine q_iload_n (t := 80) F dX9_sheet_79 rfl rfl rfl ?_
                  refine q_icmp_ge (t := 83) (u := 106) F dX9_sheet_80 (by constructor <;> omega) (by constructor <;> omega) (by decide) rfl (fun c80 => ?_) (fun c80 => ?_)
                  · refine q_iconst (t := 107) F dX9_sheet_106 rfl ?_
                    refine q_iret F dX9_sheet_107 rfl ?_
                    first
                      | exact ⟨_, rfl, fun _ => ⟨rfl, rfl⟩, fun z1 z2 => absurd z1 (by omega)⟩
                      | exact ⟨_, rfl, fun z => absurd z (by omega), fun _ _ => ⟨fun _ => ⟨rfl, rfl⟩, fun z => absurd (by omega) z⟩⟩
                      | (have ej : j = (if sort < 0 then 0 else n.toNat) := by split <;> omega
                         refine ⟨_, rfl, fun z => absurd z (by omega), fun _ _ => ⟨fun z => absurd z (by omega), fun _ => ⟨rfl, ?_⟩⟩⟩
                         unfold sheetR
                         (try rw [ets])
                         rw [← ej])
                      | omega
                  · refine q_iload_n (t := 84) F dX9_sheet_83 rfl rfl rfl ?_
                    refine q_if_lt (t := 87) (u := 106) F dX9_sheet_84 (by first | exact hR _ _ _ | (constructor <;> omega)) (by decide) rfl (fun c84 => ?_) (fun c84 => ?_)
                    · refine q_iconst (t := 107) F dX9_sheet_106 rfl ?_
                      refine q_iret F dX9_sheet_107 rfl ?_
                      first
                        | exact ⟨_, rfl, fun _ => ⟨rfl, rfl⟩, fun z1 z2 => absurd z1 (by omega)⟩
                        | exact ⟨_, rfl, fun z => absurd z (by omega), fun _ _ => ⟨fun _ => ⟨rfl, rfl⟩, fun z => absurd (by omega) z⟩⟩
                        | (have ej : j = (if sort < 0 then 0 else n.toNat) := by split <;> omega
                           refine ⟨_, rfl, fun z => absurd z (by omega), fun _ _ => ⟨fun z => absurd z (by omega), fun _ => ⟨rfl, ?_⟩⟩⟩
                           unfold sheetR
                           (try rw [ets])
                           rw [← ej])
                        | omega
                    · refine q_aload_n (t := 88) F dX9_sheet_87 rfl rfl rfl ?_
                      refine g_X9_78 (t := 91) F dX9_sheet_88 rfl rfl ?_
                      refine q_bipush (t := 93) F dX9_sheet_91 (by decide) rfl ?_
                      refine q_iload_n (t := 94) F dX9_sheet_93 rfl rfl rfl ?_
                      refine q_imul (t := 95) F dX9_sheet_94 rfl ?_
                      refine q_iload (t := 97) F dX9_sheet_95 rfl rfl ?_
                      refine q_iadd (t := 98) F dX9_sheet_97 rfl ?_
                      rw [show (40 : Int) * (s : Int) + (j : Int) = ((40 * s + j : Nat) : Int) by omega]
                      refine q_iconst (t := 99) F dX9_sheet_98 rfl ?_
                      first | refine stN_50 (t := 100) F dX9_sheet_99 (by omega) rfl ?_ | refine st_50 (t := 100) F dX9_sheet_99 (by omega) (by omega) rfl ?_
                      refine q_iinc (t := 103) F dX9_sheet_100 rfl (by decide) rfl rfl ?_
                      refine q_goto (t := 77) F dX9_sheet_103 (by decide) ?_
                      rw [show (j : Int) + 1 = ((j + 1 : Nat) : Int) by omega, zeS_s]
                      exact ih77 (j + 1) (by omega) ⟨fun _ => by omega, fun z => absurd z (by omega)⟩
              have L0 := L77 _ 0 (Nat.lt_succ_self _) ⟨fun _ => by omega, fun _ => rfl⟩
              rw [zeS_0] at L0
              unfold shI3 at L0
              first
                | (rw [if_pos (by omega)] at L0; exact L0)
                | (rw [if_neg (by omega)] at L0; exact L0)
                | omega
          · refine q_iload_n (t := 39) F dX9_sheet_38 rfl rfl rfl ?_
            refine q_if_ge (t := 42) (u := 45) F dX9_sheet_39 (by first | exact hR _ _ _ | (constructor <;> omega)) (by decide) rfl (fun c39 => ?_) (fun c39 => ?_)
            · obtain ⟨s, rfl⟩ : ∃ j : Nat, s = (j : Int) := ⟨s.toNat, by omega⟩
              have ets : ((s : Nat) : Int).toNat = s := Int.toNat_natCast s
              have hs3 : s ≤ 3 := by omega
              refine q_aload_n (t := 46) F dX9_sheet_45 rfl rfl rfl ?_
              refine g_X9_68 (t := 49) F dX9_sheet_46 rfl rfl ?_
              refine q_iload_n (t := 50) F dX9_sheet_49 rfl rfl rfl ?_
              refine q_iload_n (t := 51) F dX9_sheet_50 rfl rfl rfl ?_
              refine q_if_lt (t := 54) (u := 58) F dX9_sheet_51 (by first | exact hR _ _ _ | (constructor <;> omega)) (by decide) rfl (fun c51 => ?_) (fun c51 => ?_)
              · refine q_iconst (t := 59) F dX9_sheet_58 rfl ?_
                first | refine stN_47 (t := 60) F dX9_sheet_59 (by omega) (by omega) rfl ?_ | refine st_47 (t := 60) F dX9_sheet_59 (by omega) (by omega) (by omega) rfl ?_
                refine q_aload_n (t := 61) F dX9_sheet_60 rfl rfl rfl ?_
                refine g_X9_72 (t := 64) F dX9_sheet_61 rfl rfl ?_
                refine q_iload_n (t := 65) F dX9_sheet_64 rfl rfl rfl ?_
                refine q_iload_n (t := 66) F dX9_sheet_65 rfl rfl rfl ?_
                first | refine stN_48 (t := 67) F dX9_sheet_66 (by omega) rfl ?_ | refine st_48 (t := 67) F dX9_sheet_66 (by omega) (by omega) rfl ?_
                refine q_aload_n (t := 68) F dX9_sheet_67 rfl rfl rfl ?_
                refine g_X9_75 (t := 71) F dX9_sheet_68 rfl rfl ?_
                refine q_iload_n (t := 72) F dX9_sheet_71 rfl rfl rfl ?_
                refine q_iload_n (t := 73) F dX9_sheet_72 rfl rfl rfl ?_
                first | refine stN_49 (t := 74) F dX9_sheet_73 (by omega) rfl ?_ | refine st_49 (t := 74) F dX9_sheet_73 (by omega) (by omega) rfl ?_
                refine q_iconst (t := 75) F dX9_sheet_74 rfl ?_
                refine q_istore (t := 77) F dX9_sheet_75 (by decide) rfl rfl ?_
                have L77 : ∀ (fz : Nat) (j : Nat), 41 - j < fz → (0 ≤ sort → (j : Int) ≤ n) ∧ (sort < 0 → j = 0) → Wp M (XR G) ad Y_X9_sheet (pI fun x m' => (¬ (((0 : Int) ≤ s ∧ (s : Int) ≤ 3) ∧ (-1 ≤ sort ∧ sort ≤ 2)) ∨ (0 ≤ sort ∧ 40 < n) → x = -2 ∧ m' = (im, rs bt rt, lm)) ∧ ((((0 : Int) ≤ s ∧ (s : Int) ≤ 3) ∧ (-1 ≤ sort ∧ sort ≤ 2)) → ¬ (0 ≤ sort ∧ 40 < n) → (0 ≤ sort ∧ n < 0 → x = -14 ∧ m' = (im, rs bt rt, lm)) ∧ (¬ (0 ≤ sort ∧ n < 0) → x = 1 ∧ m' = (sheetR im (Int.toNat s) sort n, rs bt rt, lm)))) 77 [some (vR 30 0), some (vI (s : Int)), some (vI sort), some (vI n), some (vI (j : Int))] [] (zeS (shI3 im s sort n) s j, rs bt rt, lm) := by
                  intro fz
                  induction fz with
                  | zero => intro j h; exact absurd h (Nat.not_lt_zero _)
                  | succ fz ih =>
                    have ih77 := ih
                    intro j hmeas ⟨hj1, hj2⟩
                    refine q_iload (t := 79) F dX9_sheet_77 rfl rfl ?_
                    refine q_iload_n (t := 80) F dX9_sheet_79 rfl rfl rfl ?_
                    refine q_icmp_ge (t := 83) (u := 106) F dX9_sheet_80 (by constructor <;> omega) (by constructor <;> omega) (by decide) rfl (fun c80 => ?_) (fun c80 => ?_)
                    · refine q_iconst (t := 107) F dX9_sheet_106 rfl ?_
                      refine q_iret F dX9_sheet_107 rfl ?_
                      first
                        | exact ⟨_, rfl, fun _ => ⟨rfl, rfl⟩, fun z1 z2 => absurd z1 (by omega)⟩
                        | exact ⟨_, rfl, fun z => absurd z (by omega), fun _ _ => ⟨fun _ => ⟨rfl, rfl⟩, fun z => absurd (by omega) z⟩⟩
                        | (have ej : j = (if sort < 0 then 0 else n.toNat) := by split <;> omega
                           refine ⟨_, rfl, fun z => absurd z (by omega), fun _ _ => ⟨fun z => absurd z (by omega), fun _ => ⟨rfl, ?_⟩⟩⟩
                           unfold sheetR
                           (try rw [ets])
                           rw [← ej])
                        | omega
                    · refine q_iload_n (t := 84) F dX9_sheet_83 rfl rfl rfl ?_
                      refine q_if_lt (t := 87) (u := 106) F dX9_sheet_84 (by first | exact hR _ _ _ | (constructor <;> omega)) (by decide) rfl (fun c84 => ?_) (fun c84 => ?_)
                      · refine q_iconst (t := 107) F dX9_sheet_106 rfl ?_
                        refine q_iret F dX9_sheet_107 rfl ?_
                        first
                          | exact ⟨_, rfl, fun _ => ⟨rfl, rfl⟩, fun z1 z2 => absurd z1 (by omega)⟩
                          | exact ⟨_, rfl, fun z => absurd z (by omega), fun _ _ => ⟨fun _ => ⟨rfl, rfl⟩, fun z => absurd (by omega) z⟩⟩
                          | (have ej : j = (if sort < 0 then 0 else n.toNat) := by split <;> omega
                             refine ⟨_, rfl, fun z => absurd z (by omega), fun _ _ => ⟨fun z => absurd z (by omega), fun _ => ⟨rfl, ?_⟩⟩⟩
                             unfold sheetR
                             (try rw [ets])
                             rw [← ej])
                          | omega
                      · refine q_aload_n (t := 88) F dX9_sheet_87 rfl rfl rfl ?_
                        refine g_X9_78 (t := 91) F dX9_sheet_88 rfl rfl ?_
                        refine q_bipush (t := 93) F dX9_sheet_91 (by decide) rfl ?_
                        refine q_iload_n (t := 94) F dX9_sheet_93 rfl rfl rfl ?_
                        refine q_imul (t := 95) F dX9_sheet_94 rfl ?_
                        refine q_iload (t := 97) F dX9_sheet_95 rfl rfl ?_
                        refine q_iadd (t := 98) F dX9_sheet_97 rfl ?_
                        rw [show (40 : Int) * (s : Int) + (j : Int) = ((40 * s + j : Nat) : Int) by omega]
                        refine q_iconst (t := 99) F dX9_sheet_98 rfl ?_
                        first | refine stN_50 (t := 100) F dX9_sheet_99 (by omega) rfl ?_ | refine st_50 (t := 100) F dX9_sheet_99 (by omega) (by omega) rfl ?_
                        refine q_iinc (t := 103) F dX9_sheet_100 rfl (by decide) rfl rfl ?_
                        refine q_goto (t := 77) F dX9_sheet_103 (by decide) ?_
                        rw [show (j : Int) + 1 = ((j + 1 : Nat) : Int) by omega, zeS_s]
                        exact ih77 (j + 1) (by omega) ⟨fun _ => by omega, fun z => absurd z (by omega)⟩
                have L0 := L77 _ 0 (Nat.lt_succ_self _) ⟨fun _ => by omega, fun _ => rfl⟩
                rw [zeS_0] at L0
                unfold shI3 at L0
                first
                  | (rw [if_pos (by omega)] at L0; exact L0)
                  | (rw [if_neg (by omega)] at L0; exact L0)
                  | omega
              · refine q_iconst (t := 55) F dX9_sheet_54 rfl ?_
                refine q_goto (t := 59) F dX9_sheet_55 (by decide) ?_
                first | refine stN_47 (t := 60) F dX9_sheet_59 (by omega) (by omega) rfl ?_ | refine st_47 (t := 60) F dX9_sheet_59 (by omega) (by omega) (by omega) rfl ?_
                refine q_aload_n (t := 61) F dX9_sheet_60 rfl rfl rfl ?_
                refine g_X9_72 (t := 64) F dX9_sheet_61 rfl rfl ?_
                refine q_iload_n (t := 65) F dX9_sheet_64 rfl rfl rfl ?_
                refine q_iload_n (t := 66) F dX9_sheet_65 rfl rfl rfl ?_
                first | refine stN_48 (t := 67) F dX9_sheet_66 (by omega) rfl ?_ | refine st_48 (t := 67) F dX9_sheet_66 (by omega) (by omega) rfl ?_
                refine q_aload_n (t := 68) F dX9_sheet_67 rfl rfl rfl ?_
                refine g_X9_75 (t := 71) F dX9_sheet_68 rfl rfl ?_
                refine q_iload_n (t := 72) F dX9_sheet_71 rfl rfl rfl ?_
                refine q_iload_n (t := 73) F dX9_sheet_72 rfl rfl rfl ?_
                first | refine stN_49 (t := 74) F dX9_sheet_73 (by omega) rfl ?_ | refine st_49 (t := 74) F dX9_sheet_73 (by omega) (by omega) rfl ?_
                refine q_iconst (t := 75) F dX9_sheet_74 rfl ?_
                refine q_istore (t := 77) F dX9_sheet_75 (by decide) rfl rfl ?_
                have L77 : ∀ (fz : Nat) (j : Nat), 41 - j < fz → (0 ≤ sort → (j : Int) ≤ n) ∧ (sort < 0 → j = 0) → Wp M (XR G) ad Y_X9_sheet (pI fun x m' => (¬ (((0 : Int) ≤ s ∧ (s : Int) ≤ 3) ∧ (-1 ≤ sort ∧ sort ≤ 2)) ∨ (0 ≤ sort ∧ 40 < n) → x = -2 ∧ m' = (im, rs bt rt, lm)) ∧ ((((0 : Int) ≤ s ∧ (s : Int) ≤ 3) ∧ (-1 ≤ sort ∧ sort ≤ 2)) → ¬ (0 ≤ sort ∧ 40 < n) → (0 ≤ sort ∧ n < 0 → x = -14 ∧ m' = (im, rs bt rt, lm)) ∧ (¬ (0 ≤ sort ∧ n < 0) → x = 1 ∧ m' = (sheetR im (Int.toNat s) sort n, rs bt rt, lm)))) 77 [some (vR 30 0), some (vI (s : Int)), some (vI sort), some (vI n), some (vI (j : Int))] [] (zeS (shI3 im s sort n) s j, rs bt rt, lm) := by
                  intro fz
                  induction fz with
                  | zero => intro j h; exact absurd h (Nat.not_lt_zero _)
                  | succ fz ih =>
                    have ih77 := ih
                    intro j hmeas ⟨hj1, hj2⟩
                    refine q_iload (t := 79) F dX9_sheet_77 rfl rfl ?_
                    refine q_iload_n (t := 80) F dX9_sheet_79 rfl rfl rfl ?_
                    refine q_icmp_ge (t := 83) (u := 106) F dX9_sheet_80 (by constructor <;> omega) (by constructor <;> omega) (by decide) rfl (fun c80 => ?_) (fun c80 => ?_)
                    · refine q_iconst (t := 107) F dX9_sheet_106 rfl ?_
                      refine q_iret F dX9_sheet_107 rfl ?_
                      first
                        | exact ⟨_, rfl, fun _ => ⟨rfl, rfl⟩, fun z1 z2 => absurd z1 (by omega)⟩
                        | exact ⟨_, rfl, fun z => absurd z (by omega), fun _ _ => ⟨fun _ => ⟨rfl, rfl⟩, fun z => absurd (by omega) z⟩⟩
                        | (have ej : j = (if sort < 0 then 0 else n.toNat) := by split <;> omega
                           refine ⟨_, rfl, fun z => absurd z (by omega), fun _ _ => ⟨fun z => absurd z (by omega), fun _ => ⟨rfl, ?_⟩⟩⟩
                           unfold sheetR
                           (try rw [ets])
                           rw [← ej])
                        | omega
                    · refine q_iload_n (t := 84) F dX9_sheet_83 rfl rfl rfl ?_
                      refine q_if_lt (t := 87) (u := 106) F dX9_sheet_84 (by first | exact hR _ _ _ | (constructor <;> omega)) (by decide) rfl (fun c84 => ?_) (fun c84 => ?_)
                      · refine q_iconst (t := 107) F dX9_sheet_106 rfl ?_
                        refine q_iret F dX9_sheet_107 rfl ?_
                        first
                          | exact ⟨_, rfl, fun _ => ⟨rfl, rfl⟩, fun z1 z2 => absurd z1 (by omega)⟩
                          | exact ⟨_, rfl, fun z => absurd z (by omega), fun _ _ => ⟨fun _ => ⟨rfl, rfl⟩, fun z => absurd (by omega) z⟩⟩
                          | (have ej : j = (if sort < 0 then 0 else n.toNat) := by split <;> omega
                             refine ⟨_, rfl, fun z => absurd z (by omega), fun _ _ => ⟨fun z => absurd z (by omega), fun _ => ⟨rfl, ?_⟩⟩⟩
                             unfold sheetR
                             (try rw [ets])
                             rw [← ej])
                          | omega
                      · refine q_aload_n (t := 88) F dX9_sheet_87 rfl rfl rfl ?_
                        refine g_X9_78 (t := 91) F dX9_sheet_88 rfl rfl ?_
                        refine q_bipush (t := 93) F dX9_sheet_91 (by decide) rfl ?_
                        refine q_iload_n (t := 94) F dX9_sheet_93 rfl rfl rfl ?_
                        refine q_imul (t := 95) F dX9_sheet_94 rfl ?_
                        refine q_iload (t := 97) F dX9_sheet_95 rfl rfl ?_
                        refine q_iadd (t := 98) F dX9_sheet_97 rfl ?_
                        rw [show (40 : Int) * (s : Int) + (j : Int) = ((40 * s + j : Nat) : Int) by omega]
                        refine q_iconst (t := 99) F dX9_sheet_98 rfl ?_
                        first | refine stN_50 (t := 100) F dX9_sheet_99 (by omega) rfl ?_ | refine st_50 (t := 100) F dX9_sheet_99 (by omega) (by omega) rfl ?_
                        refine q_iinc (t := 103) F dX9_sheet_100 rfl (by decide) rfl rfl ?_
                        refine q_goto (t := 77) F dX9_sheet_103 (by decide) ?_
                        rw [show (j : Int) + 1 = ((j + 1 : Nat) : Int) by omega, zeS_s]
                        exact ih77 (j + 1) (by omega) ⟨fun _ => by omega, fun z => absurd z (by omega)⟩
                have L0 := L77 _ 0 (Nat.lt_succ_self _) ⟨fun _ => by omega, fun _ => rfl⟩
                rw [zeS_0] at L0
                unfold shI3 at L0
                first
                  | (rw [if_pos (by omega)] at L0; exact L0)
                  | (rw [if_neg (by omega)] at L0; exact L0)
                  | omega
            · refine q_bipush (t := 44) F dX9_sheet_42 (by decide) rfl ?_
              refine q_iret F dX9_sheet_44 rfl ?_
              first
                | exact ⟨_, rfl, fun _ => ⟨rfl, rfl⟩, fun z1 z2 => absurd z1 (by omega)⟩
                | exact ⟨_, rfl, fun z => absurd z (by omega), fun _ _ => ⟨fun _ => ⟨rfl, rfl⟩, fun z => absurd (by omega) z⟩⟩
                | (have ej : j = (if sort < 0 then 0 else n.toNat) := by split <;> omega
                   refine ⟨_, rfl, fun z => absurd z (by omega), fun _ _ => ⟨fun z => absurd z (by omega), fun _ => ⟨rfl, ?_⟩⟩⟩
                   unfold sheetR
                   (try rw [ets])
                   rw [← ej])
                | omega
        · refine q_bipush (t := 33) F dX9_sheet_31 (by decide) rfl ?_
          refine q_iret F dX9_sheet_33 rfl ?_
          first
            | exact ⟨_, rfl, fun _ => ⟨rfl, rfl⟩, fun z1 z2 => absurd z1 (by omega)⟩
            | exact ⟨_, rfl, fun z => absurd z (by omega), fun _ _ => ⟨fun _ => ⟨rfl, rfl⟩, fun z => absurd (by omega) z⟩⟩
            | (have ej : j = (if sort < 0 then 0 else n.toNat) := by split <;> omega
               refine ⟨_, rfl, fun z => absurd z (by omega), fun _ _ => ⟨fun z => absurd z (by omega), fun _ => ⟨rfl, ?_⟩⟩⟩
               unfold sheetR
               (try rw [ets])
               rw [← ej])
            | omega

set_option maxHeartbeats 4000000 in
theorem c_X9_cell (l : Launch) (G : GS) (im : IM) (bt rt : Nat) (lm : IM) (hR : RI im) (hSH : SH im) (s i v : Int) (hs : ri s) (hi : ri i) (hv : ri v) : Cn l (XR G) yX9_cell Y_X9_cell [vR 30 0, vI s, vI i, vI v] (im, rs bt rt, lm) (pI fun x m' => (¬ ((0 : Int) ≤ s ∧ (s : Int) ≤ 3) → x = -2 ∧ m' = (im, rs bt rt, lm)) ∧ ((0 : Int) ≤ s ∧ (s : Int) ≤ 3 → (im 47 0 (Int.toNat s) = 0 → x = -11 ∧ m' = (im, rs bt rt, lm)) ∧ (im 47 0 (Int.toNat s) = 1 → ¬ (0 ≤ i ∧ i < im 49 0 (Int.toNat s)) → x = -12 ∧ m' = (im, rs bt rt, lm)) ∧ (im 47 0 (Int.toNat s) = 1 → (0 ≤ i ∧ i < im 49 0 (Int.toNat s)) → x = 1 ∧ m' = (up im 50 0 (40 * (Int.toNat s) + i.toNat) (cutN (im 48 0 (Int.toNat s)) v), rs bt rt, lm)))) := by
  refine cn_of (by decide) (okR G) rfl (Nat.le_of_ble_eq_true rfl) ?_
  intro M ad hMl F
  subst hMl
  have s1 := hs.1
  have s2 := hs.2
  have i1 := hi.1
  have i2 := hi.2
  have v1 := hv.1
  have v2 := hv.2
  refine wp_pad 0 ?_
  show Wp M (XR G) ad Y_X9_cell (pI fun x m' => (¬ ((0 : Int) ≤ s ∧ (s : Int) ≤ 3) → x = -2 ∧ m' = (im, rs bt rt, lm)) ∧ ((0 : Int) ≤ s ∧ (s : Int) ≤ 3 → (im 47 0 (Int.toNat s) = 0 → x = -11 ∧ m' = (im, rs bt rt, lm)) ∧ (im 47 0 (Int.toNat s) = 1 → ¬ (0 ≤ i ∧ i < im 49 0 (Int.toNat s)) → x = -12 ∧ m' = (im, rs bt rt, lm)) ∧ (im 47 0 (Int.toNat s) = 1 → (0 ≤ i ∧ i < im 49 0 (Int.toNat s)) → x = 1 ∧ m' = (up im 50 0 (40 * (Int.toNat s) + i.toNat) (cutN (im 48 0 (Int.toNat s)) v), rs bt rt, lm)))) 0 [some (vR 30 0), some (vI s), some (vI i), some (vI v)] [] (im, rs bt rt, lm)
  refine q_iload_n (t := 1) F dX9_cell_0 rfl rfl rfl ?_
  refine wp_callS (t := 4) [_] F dX9_cell_1 k_X9_isSheet st_X9_isSheet ml_X9_421 rfl rfl (Nat.le_of_ble_eq_true rfl) (by decide) (c_X9_isSheet _ G im bt rt lm s (by constructor <;> omega)) rfl (kI ?_)
  rintro x1 m' ⟨hx1, rfl⟩
  have hx1 := if01 hx1
  refine q_if_ne (t := 7) (u := 10) F dX9_cell_4 (by first | exact hR _ _ _ | (constructor <;> omega)) (by decide) rfl (fun c4 => ?_) (fun c4 => ?_)
  · obtain ⟨s, rfl⟩ : ∃ j : Nat, s = (j : Int) := ⟨s.toNat, by omega⟩
    have ets : ((s : Nat) : Int).toNat = s := Int.toNat_natCast s
    have hs3 : s ≤ 3 := by omega
    have hsh := hSH s (by omega)
    refine q_aload_n (t := 11) F dX9_cell_10 rfl rfl rfl ?_
    refine g_X9_68 (t := 14) F dX9_cell_11 rfl rfl ?_
    refine q_iload_n (t := 15) F dX9_cell_14 rfl rfl rfl ?_
    first | refine ldN_47 (t := 16) F dX9_cell_15 (by omega) rfl ?_ | refine ld_47 (t := 16) F dX9_cell_15 (by omega) (by omega) rfl ?_
    try simp only [up_app, row_app, scr_app, cpy_app, Nat.reduceEqDiff, Int.reduceToNat, Int.toNat_natCast, and_true, true_and, and_false, false_and, and_self, reduceIte]
    refine q_if_ne (t := 19) (u := 22) F dX9_cell_16 (by exact hR _ _ _) (by decide) rfl (fun c16 => ?_) (fun c16 => ?_)
    · have h47 : im 47 0 s = 1 := by omega
      have hsz := hsh.2 h47
      refine q_iload_n (t := 23) F dX9_cell_22 rfl rfl rfl ?_
      refine q_i2l (t := 24) F dX9_cell_23 (by first | exact hR _ _ _ | (constructor <;> omega)) rfl ?_
      refine q_lconst (t := 25) (x := 0) F dX9_cell_24 (by decide) rfl ?_
      refine q_aload_n (t := 26) F dX9_cell_25 rfl rfl rfl ?_
      refine g_X9_75 (t := 29) F dX9_cell_26 rfl rfl ?_
      refine q_iload_n (t := 30) F dX9_cell_29 rfl rfl rfl ?_
      first | refine ldN_49 (t := 31) F dX9_cell_30 (by omega) rfl ?_ | refine ld_49 (t := 31) F dX9_cell_30 (by omega) (by omega) rfl ?_
      try simp only [up_app, row_app, scr_app, cpy_app, Nat.reduceEqDiff, Int.reduceToNat, Int.toNat_natCast, and_true, true_and, and_false, false_and, and_self, reduceIte]
      refine q_iconst (t := 32) F dX9_cell_31 rfl ?_
      refine q_isub (t := 33) F dX9_cell_32 rfl ?_
      refine q_i2l (t := 34) F dX9_cell_33 (by first | exact hR _ _ _ | (constructor <;> omega)) rfl ?_
      refine wp_callS (t := 37) [_, _, _] F dX9_cell_34 k_X9_in st_X9_in ml_X9_91 rfl rfl (Nat.le_of_ble_eq_true rfl) (by decide) (c_X9_in _ G _ _ _ _ _ _ _ (by constructor <;> omega) (by constructor <;> omega) (by constructor <;> omega)) rfl (kI ?_)
      rintro x34 m' ⟨hx34, rfl⟩
      have hx34 := if01 hx34
      refine q_if_ne (t := 40) (u := 43) F dX9_cell_37 (by first | exact hR _ _ _ | (constructor <;> omega)) (by decide) rfl (fun c37 => ?_) (fun c37 => ?_)
      · refine q_aload_n (t := 44) F dX9_cell_43 rfl rfl rfl ?_
        refine g_X9_78 (t := 47) F dX9_cell_44 rfl rfl ?_
        refine q_bipush (t := 49) F dX9_cell_47 (by decide) rfl ?_
        refine q_iload_n (t := 50) F dX9_cell_49 rfl rfl rfl ?_
        refine q_imul (t := 51) F dX9_cell_50 rfl ?_
        refine q_iload_n (t := 52) F dX9_cell_51 rfl rfl rfl ?_
        refine q_iadd (t := 53) F dX9_cell_52 rfl ?_
        rw [show (40 : Int) * (s : Int) + i = ((40 * s + i.toNat : Nat) : Int) by omega]
        refine q_aload_n (t := 54) F dX9_cell_53 rfl rfl rfl ?_
        refine g_X9_72 (t := 57) F dX9_cell_54 rfl rfl ?_
        refine q_iload_n (t := 58) F dX9_cell_57 rfl rfl rfl ?_
        first | refine ldN_48 (t := 59) F dX9_cell_58 (by omega) rfl ?_ | refine ld_48 (t := 59) F dX9_cell_58 (by omega) (by omega) rfl ?_
        try simp only [up_app, row_app, scr_app, cpy_app, Nat.reduceEqDiff, Int.reduceToNat, Int.toNat_natCast, and_true, true_and, and_false, false_and, and_self, reduceIte]
        refine q_if_ne (t := 62) (u := 67) F dX9_cell_59 (by constructor <;> omega) (by decide) rfl (fun c59 => ?_) (fun c59 => ?_)
        · refine q_aload_n (t := 68) F dX9_cell_67 rfl rfl rfl ?_
          refine g_X9_72 (t := 71) F dX9_cell_68 rfl rfl ?_
          refine q_iload_n (t := 72) F dX9_cell_71 rfl rfl rfl ?_
          first | refine ldN_48 (t := 73) F dX9_cell_72 (by omega) rfl ?_ | refine ld_48 (t := 73) F dX9_cell_72 (by omega) (by omega) rfl ?_
          try simp only [up_app, row_app, scr_app, cpy_app, Nat.reduceEqDiff, Int.reduceToNat, Int.toNat_natCast, and_true, true_and, and_false, false_and, and_self, reduceIte]
          refine q_iconst (t := 74) F dX9_cell_73 rfl ?_
          refine q_icmp_ne (t := 77) (u := 82) F dX9_cell_74 (by constructor <;> omega) (by constructor <;> omega) (by decide) rfl (fun c74 => ?_) (fun c74 => ?_)
          · refine q_iload_n (t := 83) F dX9_cell_82 rfl rfl rfl ?_
            first | refine stN_50 (t := 84) F dX9_cell_83 (by omega) rfl ?_ | refine st_50 (t := 84) F dX9_cell_83 (by omega) (by omega) rfl ?_
            refine q_iconst (t := 85) F dX9_cell_84 rfl ?_
            refine q_iret F dX9_cell_85 rfl ?_
            first
              | exact ⟨_, rfl, fun _ => ⟨rfl, rfl⟩, fun z => absurd z (by omega)⟩
              | exact ⟨_, rfl, fun z => absurd (by omega) z, fun _ => ⟨fun _ => ⟨rfl, rfl⟩, fun z => absurd z (by (try rw [ets]); omega), fun z => absurd z (by (try rw [ets]); omega)⟩⟩
              | exact ⟨_, rfl, fun z => absurd (by omega) z, fun _ => ⟨fun z => absurd z (by (try rw [ets]); omega), fun _ _ => ⟨rfl, rfl⟩, fun _ z => absurd z (by (try rw [ets]); omega)⟩⟩
              | (refine ⟨_, rfl, fun z => absurd (by omega) z, fun _ => ⟨fun z => absurd z (by (try rw [ets]); omega), fun _ z => absurd (by (try rw [ets]); omega) z, fun _ _ => ⟨rfl, ?_⟩⟩⟩
                 (try rw [ets])
                 unfold cutN
                 first
                   | rw [if_pos (by omega)]
                   | rw [if_neg (by omega), if_pos (by omega)]
                   | rw [if_neg (by omega), if_neg (by omega)])
              | omega
          · refine q_iload_n (t := 78) F dX9_cell_77 rfl rfl rfl ?_
            refine q_i2s (t := 79) F dX9_cell_78 rfl ?_
            refine q_goto (t := 83) F dX9_cell_79 (by decide) ?_
            first | refine stN_50 (t := 84) F dX9_cell_83 (by omega) rfl ?_ | refine st_50 (t := 84) F dX9_cell_83 (by omega) (by omega) rfl ?_
            refine q_iconst (t := 85) F dX9_cell_84 rfl ?_
            refine q_iret F dX9_cell_85 rfl ?_
            first
              | exact ⟨_, rfl, fun _ => ⟨rfl, rfl⟩, fun z => absurd z (by omega)⟩
              | exact ⟨_, rfl, fun z => absurd (by omega) z, fun _ => ⟨fun _ => ⟨rfl, rfl⟩, fun z => absurd z (by (try rw [ets]); omega), fun z => absurd z (by (try rw [ets]); omega)⟩⟩
              | exact ⟨_, rfl, fun z => absurd (by omega) z, fun _ => ⟨fun z => absurd z (by (try rw [ets]); omega), fun _ _ => ⟨rfl, rfl⟩, fun _ z => absurd z (by (try rw [ets]); omega)⟩⟩
              | (refine ⟨_, rfl, fun z => absurd (by omega) z, fun _ => ⟨fun z => absurd z (by (try rw [ets]); omega), fun _ z => absurd (by (try rw [ets]); omega) z, fun _ _ => ⟨rfl, ?_⟩⟩⟩
                 (try rw [ets])
                 unfold cutN
                 first
                   | rw [if_pos (by omega)]
                   | rw [if_neg (by omega), if_pos (by omega)]
                   | rw [if_neg (by omega), if_neg (by omega)])
              | omega
        · refine q_iload_n (t := 63) F dX9_cell_62 rfl rfl rfl ?_
          refine q_i2b (t := 64) F dX9_cell_63 rfl ?_
          refine q_goto (t := 83) F dX9_cell_64 (by decide) ?_
          first | refine stN_50 (t := 84) F dX9_cell_83 (by omega) rfl ?_ | refine st_50 (t := 84) F dX9_cell_83 (by omega) (by omega) rfl ?_
          refine q_iconst (t := 85) F dX9_cell_84 rfl ?_
          refine q_iret F dX9_cell_85 rfl ?_
          first
            | exact ⟨_, rfl, fun _ => ⟨rfl, rfl⟩, fun z => absurd z (by omega)⟩
            | exact ⟨_, rfl, fun z => absurd (by omega) z, fun _ => ⟨fun _ => ⟨rfl, rfl⟩, fun z => absurd z (by (try rw [ets]); omega), fun z => absurd z (by (try rw [ets]); omega)⟩⟩
            | exact ⟨_, rfl, fun z => absurd (by omega) z, fun _ => ⟨fun z => absurd z (by (try rw [ets]); omega), fun _ _ => ⟨rfl, rfl⟩, fun _ z => absurd z (by (try rw [ets]); omega)⟩⟩
            | (refine ⟨_, rfl, fun z => absurd (by omega) z, fun _ => ⟨fun z => absurd z (by (try rw [ets]); omega), fun _ z => absurd (by (try rw [ets]); omega) z, fun _ _ => ⟨rfl, ?_⟩⟩⟩
               (try rw [ets])
               unfold cutN
               first
                 | rw [if_pos (by omega)]
                 | rw [if_neg (by omega), if_pos (by omega)]
                 | rw [if_neg (by omega), if_neg (by omega)])
            | omega
      · refine q_bipush (t := 42) F dX9_cell_40 (by decide) rfl ?_
        refine q_iret F dX9_cell_42 rfl ?_
        first
          | exact ⟨_, rfl, fun _ => ⟨rfl, rfl⟩, fun z => absurd z (by omega)⟩
          | exact ⟨_, rfl, fun z => absurd (by omega) z, fun _ => ⟨fun _ => ⟨rfl, rfl⟩, fun z => absurd z (by (try rw [ets]); omega), fun z => absurd z (by (try rw [ets]); omega)⟩⟩
          | exact ⟨_, rfl, fun z => absurd (by omega) z, fun _ => ⟨fun z => absurd z (by (try rw [ets]); omega), fun _ _ => ⟨rfl, rfl⟩, fun _ z => absurd z (by (try rw [ets]); omega)⟩⟩
          | (refine ⟨_, rfl, fun z => absurd (by omega) z, fun _ => ⟨fun z => absurd z (by (try rw [ets]); omega), fun _ z => absurd (by (try rw [ets]); omega) z, fun _ _ => ⟨rfl, ?_⟩⟩⟩
             (try rw [ets])
             unfold cutN
             first
               | rw [if_pos (by omega)]
               | rw [if_neg (by omega), if_pos (by omega)]
               | rw [if_neg (by omega), if_neg (by omega)])
          | omega
    · refine q_bipush (t := 21) F dX9_cell_19 (by decide) rfl ?_
      refine q_iret F dX9_cell_21 rfl ?_
      first
        | exact ⟨_, rfl, fun _ => ⟨rfl, rfl⟩, fun z => absurd z (by omega)⟩
        | exact ⟨_, rfl, fun z => absurd (by omega) z, fun _ => ⟨fun _ => ⟨rfl, rfl⟩, fun z => absurd z (by (try rw [ets]); omega), fun z => absurd z (by (try rw [ets]); omega)⟩⟩
        | exact ⟨_, rfl, fun z => absurd (by omega) z, fun _ => ⟨fun z => absurd z (by (try rw [ets]); omega), fun _ _ => ⟨rfl, rfl⟩, fun _ z => absurd z (by (try rw [ets]); omega)⟩⟩
        | (refine ⟨_, rfl, fun z => absurd (by omega) z, fun _ => ⟨fun z => absurd z (by (try rw [ets]); omega), fun _ z => absurd (by (try rw [ets]); omega) z, fun _ _ => ⟨rfl, ?_⟩⟩⟩
           (try rw [ets])
           unfold cutN
           first
             | rw [if_pos (by omega)]
             | rw [if_neg (by omega), if_pos (by omega)]
             | rw [if_neg (by omega), if_neg (by omega)])
        | omega
  · refine q_bipush (t := 9) F dX9_cell_7 (by decide) rfl ?_
    refine q_iret F dX9_cell_9 rfl ?_
    first
      | exact ⟨_, rfl, fun _ => ⟨rfl, rfl⟩, fun z => absurd z (by omega)⟩
      | exact ⟨_, rfl, fun z => absurd (by omega) z, fun _ => ⟨fun _ => ⟨rfl, rfl⟩, fun z => absurd z (by (try rw [ets]); omega), fun z => absurd z (by (try rw [ets]); omega)⟩⟩
      | exact ⟨_, rfl, fun z => absurd (by omega) z, fun _ => ⟨fun z => absurd z (by (try rw [ets]); omega), fun _ _ => ⟨rfl, rfl⟩, fun _ z => absurd z (by (try rw [ets]); omega)⟩⟩
      | (refine ⟨_, rfl, fun z => absurd (by omega) z, fun _ => ⟨fun z => absurd z (by (try rw [ets]); omega), fun _ z => absurd (by (try rw [ets]); omega) z, fun _ _ => ⟨rfl, ?_⟩⟩⟩
         (try rw [ets])
         unfold cutN
         first
           | rw [if_pos (by omega)]
           | rw [if_neg (by omega), if_pos (by omega)]
           | rw [if_neg (by omega), if_neg (by omega)])
      | omega

theorem cpy_lo (im : IM) {k sp dp n : Nat} (h : ¬ (dp ≤ sp + n ∧ sp + n < dp + n)) : up (cpy im k 0 sp k 0 dp n) k 0 (dp + n) (cpy im k 0 sp k 0 dp n k 0 (sp + n)) = cpy im k 0 sp k 0 dp (n + 1) := by
  have e : cpy im k 0 sp k 0 dp n k 0 (sp + n) = im k 0 (sp + n) := by rw [cpy_app, if_neg (by omega)]
  rw [e]
  funext k' i s
  rw [up_app, cpy_app, cpy_app]
  by_cases h1 : k' = k ∧ i = 0 ∧ s = dp + n
  · rw [if_pos h1, if_pos (by omega), show sp + (s - dp) = sp + n by omega]
  · rw [if_neg h1]
    by_cases h2 : k' = k ∧ i = 0 ∧ dp ≤ s ∧ s < dp + n
    · rw [if_pos h2, if_pos (by omega)]
    · rw [if_neg h2, if_neg (by omega)]
theorem cpy_hi (im : IM) {k sp dp n : Nat} (h : ¬ (dp + 1 ≤ sp ∧ sp < dp + 1 + n)) : up (cpy im k 0 (sp + 1) k 0 (dp + 1) n) k 0 dp (cpy im k 0 (sp + 1) k 0 (dp + 1) n k 0 sp) = cpy im k 0 sp k 0 dp (n + 1) := by
  have e : cpy im k 0 (sp + 1) k 0 (dp + 1) n k 0 sp = im k 0 sp := by rw [cpy_app, if_neg (by omega)]
  rw [e]
  funext k' i s
  rw [up_app, cpy_app, cpy_app]
  by_cases h1 : k' = k ∧ i = 0 ∧ s = dp
  · rw [if_pos h1, if_pos (by omega), show sp + (s - dp) = sp by omega]
  · rw [if_neg h1]
    by_cases h2 : k' = k ∧ i = 0 ∧ dp + 1 ≤ s ∧ s < dp + 1 + n
    · rw [if_pos h2, if_pos (by omega), show sp + 1 + (s - (dp + 1)) = sp + (s - dp) by omega]
    · rw [if_neg h2, if_neg (by omega)]
theorem cpy_n0 (im : IM) (k sp dp : Nat) : cpy im k 0 sp k 0 dp 0 = im := by
  funext k' i s
  rw [cpy_app, if_neg (by omega)]
/-- behind m of n cells, from the end or from the start -/
def cpM (im : IM) (u : Int) (A B n m : Nat) : IM := if u = 1 then cpy im 50 0 (A + (n - m)) 50 0 (B + (n - m)) m else cpy im 50 0 A 50 0 B m

set_option maxHeartbeats 4000000 in
theorem c_X9_copy (l : Launch) (G : GS) (im : IM) (bt rt : Nat) (lm : IM) (hR : RI im) (hSH : SH im) (a i b j n : Int) (ha : ri a) (hi : ri i) (hb : ri b) (hj : ri j) (hn : ri n) : Cn l (XR G) yX9_copy Y_X9_copy [vR 30 0, vI a, vI i, vI b, vI j, vI n] (im, rs bt rt, lm) (pI fun x m' => (¬ (((0 : Int) ≤ a ∧ (a : Int) ≤ 3) ∧ (0 : Int) ≤ b ∧ (b : Int) ≤ 3) → x = -2 ∧ m' = (im, rs bt rt, lm)) ∧ ((((0 : Int) ≤ a ∧ (a : Int) ≤ 3) ∧ (0 : Int) ≤ b ∧ (b : Int) ≤ 3) → (im 47 0 (Int.toNat a) = 0 ∨ im 47 0 (Int.toNat b) = 0 → x = -11 ∧ m' = (im, rs bt rt, lm)) ∧ (im 47 0 (Int.toNat a) = 1 → im 47 0 (Int.toNat b) = 1 → (im 48 0 (Int.toNat a) ≠ im 48 0 (Int.toNat b) → x = -13 ∧ m' = (im, rs bt rt, lm)) ∧ (im 48 0 (Int.toNat a) = im 48 0 (Int.toNat b) → (¬ (((0 : Int) ≤ i ∧ (0 : Int) ≤ n ∧ (i : Int) + (n : Int) ≤ im 49 0 (Int.toNat a)) ∧ (0 : Int) ≤ j ∧ (0 : Int) ≤ n ∧ (j : Int) + (n : Int) ≤ im 49 0 (Int.toNat b)) → x = -12 ∧ m' = (im, rs bt rt, lm)) ∧ ((((0 : Int) ≤ i ∧ (0 : Int) ≤ n ∧ (i : Int) + (n : Int) ≤ im 49 0 (Int.toNat a)) ∧ (0 : Int) ≤ j ∧ (0 : Int) ≤ n ∧ (j : Int) + (n : Int) ≤ im 49 0 (Int.toNat b)) → x = n ∧ m' = (cpy im 50 0 (40 * (Int.toNat a) + (Int.toNat i)) 50 0 (40 * (Int.toNat b) + (Int.toNat j)) (Int.toNat n), rs bt rt, lm)))))) := by
  refine cn_of (by decide) (okR G) rfl (Nat.le_of_ble_eq_true rfl) ?_
  intro M ad hMl F
  subst hMl
  have a1 := ha.1
  have a2 := ha.2
  have i1 := hi.1
  have i2 := hi.2
  have b1 := hb.1
  have b2 := hb.2
  have j1 := hj.1
  have j2 := hj.2
  have n1 := hn.1
  have n2 := hn.2
  refine wp_pad 3 ?_
  show Wp M (XR G) ad Y_X9_copy (pI fun x m' => (¬ (((0 : Int) ≤ a ∧ (a : Int) ≤ 3) ∧ (0 : Int) ≤ b ∧ (b : Int) ≤ 3) → x = -2 ∧ m' = (im, rs bt rt, lm)) ∧ ((((0 : Int) ≤ a ∧ (a : Int) ≤ 3) ∧ (0 : Int) ≤ b ∧ (b : Int) ≤ 3) → (im 47 0 (Int.toNat a) = 0 ∨ im 47 0 (Int.toNat b) = 0 → x = -11 ∧ m' = (im, rs bt rt, lm)) ∧ (im 47 0 (Int.toNat a) = 1 → im 47 0 (Int.toNat b) = 1 → (im 48 0 (Int.toNat a) ≠ im 48 0 (Int.toNat b) → x = -13 ∧ m' = (im, rs bt rt, lm)) ∧ (im 48 0 (Int.toNat a) = im 48 0 (Int.toNat b) → (¬ (((0 : Int) ≤ i ∧ (0 : Int) ≤ n ∧ (i : Int) + (n : Int) ≤ im 49 0 (Int.toNat a)) ∧ (0 : Int) ≤ j ∧ (0 : Int) ≤ n ∧ (j : Int) + (n : Int) ≤ im 49 0 (Int.toNat b)) → x = -12 ∧ m' = (im, rs bt rt, lm)) ∧ ((((0 : Int) ≤ i ∧ (0 : Int) ≤ n ∧ (i : Int) + (n : Int) ≤ im 49 0 (Int.toNat a)) ∧ (0 : Int) ≤ j ∧ (0 : Int) ≤ n ∧ (j : Int) + (n : Int) ≤ im 49 0 (Int.toNat b)) → x = n ∧ m' = (cpy im 50 0 (40 * (Int.toNat a) + (Int.toNat i)) 50 0 (40 * (Int.toNat b) + (Int.toNat j)) (Int.toNat n), rs bt rt, lm)))))) 0 [some (vR 30 0), some (vI a), some (vI i), some (vI b), some (vI j), some (vI n), none, none, none] [] (im, rs bt rt, lm)
  refine q_iload_n (t := 1) F dX9_copy_0 rfl rfl rfl ?_
  refine wp_callS (t := 4) [_] F dX9_copy_1 k_X9_isSheet st_X9_isSheet ml_X9_421 rfl rfl (Nat.le_of_ble_eq_true rfl) (by decide) (c_X9_isSheet _ G im bt rt lm a (by constructor <;> omega)) rfl (kI ?_)
  rintro x1 m' ⟨hx1, rfl⟩
  have hx1 := if01 hx1
  refine q_if_eq (t := 7) (u := 14) F dX9_copy_4 (by first | exact hR _ _ _ | (constructor <;> omega)) (by decide) rfl (fun c4 => ?_) (fun c4 => ?_)
  · refine q_bipush (t := 16) F dX9_copy_14 (by decide) rfl ?_
    refine q_iret F dX9_copy_16 rfl ?_
    try simp only [Int.toNat_natCast]
    first
      | exact ⟨_, rfl, fun _ => ⟨rfl, rfl⟩, fun z => absurd z (by omega)⟩
      | exact ⟨_, rfl, fun z => absurd (by omega) z, fun _ => ⟨fun _ => ⟨rfl, rfl⟩, fun z1 z2 => by omega⟩⟩
      | exact ⟨_, rfl, fun z => absurd (by omega) z, fun _ => ⟨fun z => by omega, fun _ _ => ⟨fun _ => ⟨rfl, rfl⟩, fun z => absurd z (by omega)⟩⟩⟩
      | exact ⟨_, rfl, fun z => absurd (by omega) z, fun _ => ⟨fun z => by omega, fun _ _ => ⟨fun z => absurd (by omega) z, fun _ => ⟨fun _ => ⟨rfl, rfl⟩, fun z => by omega⟩⟩⟩⟩
      | (obtain rfl : m = n := by omega
         refine ⟨_, rfl, fun z => absurd (by omega) z, fun _ => ⟨fun z => by omega, fun _ _ => ⟨fun z => absurd (by omega) z, fun _ => ⟨fun z => absurd (by omega) z, fun _ => ⟨rfl, ?_⟩⟩⟩⟩⟩
         unfold cpM
         split
         · rw [Nat.sub_self]
           rfl
         · rfl)
      | omega
  · refine q_iload_n (t := 8) F dX9_copy_7 rfl rfl rfl ?_
    refine wp_callS (t := 11) [_] F dX9_copy_8 k_X9_isSheet st_X9_isSheet ml_X9_421 rfl rfl (Nat.le_of_ble_eq_true rfl) (by decide) (c_X9_isSheet _ G im bt rt lm b (by constructor <;> omega)) rfl (kI ?_)
    rintro x8 m' ⟨hx8, rfl⟩
    have hx8 := if01 hx8
    refine q_if_ne (t := 14) (u := 17) F dX9_copy_11 (by first | exact hR _ _ _ | (constructor <;> omega)) (by decide) rfl (fun c11 => ?_) (fun c11 => ?_)
    · obtain ⟨a, rfl⟩ : ∃ j : Nat, a = (j : Int) := ⟨a.toNat, by omega⟩
      obtain ⟨b, rfl⟩ : ∃ j : Nat, b = (j : Int) := ⟨b.toNat, by omega⟩
      have eta : ((a : Nat) : Int).toNat = a := Int.toNat_natCast a
      have etb : ((b : Nat) : Int).toNat = b := Int.toNat_natCast b
      (try rw [eta])
      (try rw [etb])
      have ha3 : a ≤ 3 := by omega
      have hb3 : b ≤ 3 := by omega
      have hsa := hSH a (by omega)
      have hsb := hSH b (by omega)
      refine q_aload_n (t := 18) F dX9_copy_17 rfl rfl rfl ?_
      refine g_X9_68 (t := 21) F dX9_copy_18 rfl rfl ?_
      refine q_iload_n (t := 22) F dX9_copy_21 rfl rfl rfl ?_
      first | refine ldN_47 (t := 23) F dX9_copy_22 (by omega) rfl ?_ | refine ld_47 (t := 23) F dX9_copy_22 (by omega) (by omega) rfl ?_
      try simp only [up_app, row_app, scr_app, cpy_app, Nat.reduceEqDiff, Int.reduceToNat, Int.toNat_natCast, and_true, true_and, and_false, false_and, and_self, reduceIte]
      refine q_if_eq (t := 26) (u := 35) F dX9_copy_23 (by exact hR _ _ _) (by decide) rfl (fun c23 => ?_) (fun c23 => ?_)
      · refine q_bipush (t := 37) F dX9_copy_35 (by decide) rfl ?_
        refine q_iret F dX9_copy_37 rfl ?_
        try simp only [Int.toNat_natCast]
        first
          | exact ⟨_, rfl, fun _ => ⟨rfl, rfl⟩, fun z => absurd z (by omega)⟩
          | exact ⟨_, rfl, fun z => absurd (by omega) z, fun _ => ⟨fun _ => ⟨rfl, rfl⟩, fun z1 z2 => by omega⟩⟩
          | exact ⟨_, rfl, fun z => absurd (by omega) z, fun _ => ⟨fun z => by omega, fun _ _ => ⟨fun _ => ⟨rfl, rfl⟩, fun z => absurd z (by omega)⟩⟩⟩
          | exact ⟨_, rfl, fun z => absurd (by omega) z, fun _ => ⟨fun z => by omega, fun _ _ => ⟨fun z => absurd (by omega) z, fun _ => ⟨fun _ => ⟨rfl, rfl⟩, fun z => by omega⟩⟩⟩⟩
          | (obtain rfl : m = n := by omega
             refine ⟨_, rfl, fun z => absurd (by omega) z, fun _ => ⟨fun z => by omega, fun _ _ => ⟨fun z => absurd (by omega) z, fun _ => ⟨fun z => absurd (by omega) z, fun _ => ⟨rfl, ?_⟩⟩⟩⟩⟩
             unfold cpM
             split
             · rw [Nat.sub_self]
               rfl
             · rfl)
          | omega
      · refine q_aload_n (t := 27) F dX9_copy_26 rfl rfl rfl ?_
        refine g_X9_68 (t := 30) F dX9_copy_27 rfl rfl ?_
        refine q_iload_n (t := 31) F dX9_copy_30 rfl rfl rfl ?_
        first | refine ldN_47 (t := 32) F dX9_copy_31 (by omega) rfl ?_ | refine ld_47 (t := 32) F dX9_copy_31 (by omega) (by omega) rfl ?_
        try simp only [up_app, row_app, scr_app, cpy_app, Nat.reduceEqDiff, Int.reduceToNat, Int.toNat_natCast, and_true, true_and, and_false, false_and, and_self, reduceIte]
        refine q_if_ne (t := 35) (u := 38) F dX9_copy_32 (by exact hR _ _ _) (by decide) rfl (fun c32 => ?_) (fun c32 => ?_)
        · have a47 : im 47 0 a = 1 := by omega
          have b47 : im 47 0 b = 1 := by omega
          have hza := hsa.2 a47
          have hzb := hsb.2 b47
          refine q_aload_n (t := 39) F dX9_copy_38 rfl rfl rfl ?_
          refine g_X9_72 (t := 42) F dX9_copy_39 rfl rfl ?_
          refine q_iload_n (t := 43) F dX9_copy_42 rfl rfl rfl ?_
          first | refine ldN_48 (t := 44) F dX9_copy_43 (by omega) rfl ?_ | refine ld_48 (t := 44) F dX9_copy_43 (by omega) (by omega) rfl ?_
          try simp only [up_app, row_app, scr_app, cpy_app, Nat.reduceEqDiff, Int.reduceToNat, Int.toNat_natCast, and_true, true_and, and_false, false_and, and_self, reduceIte]
          refine q_aload_n (t := 45) F dX9_copy_44 rfl rfl rfl ?_
          refine g_X9_72 (t := 48) F dX9_copy_45 rfl rfl ?_
          refine q_iload_n (t := 49) F dX9_copy_48 rfl rfl rfl ?_
          first | refine ldN_48 (t := 50) F dX9_copy_49 (by omega) rfl ?_ | refine ld_48 (t := 50) F dX9_copy_49 (by omega) (by omega) rfl ?_
          try simp only [up_app, row_app, scr_app, cpy_app, Nat.reduceEqDiff, Int.reduceToNat, Int.toNat_natCast, and_true, true_and, and_false, false_and, and_self, reduceIte]
          refine q_icmp_eq (t := 53) (u := 56) F dX9_copy_50 (by exact hR _ _ _) (by exact hR _ _ _) (by decide) rfl (fun c50 => ?_) (fun c50 => ?_)
          · refine q_iload (t := 58) F dX9_copy_56 rfl rfl ?_
            refine q_if_lt (t := 61) (u := 97) F dX9_copy_58 (by first | exact hR _ _ _ | (constructor <;> omega)) (by decide) rfl (fun c58 => ?_) (fun c58 => ?_)
            · refine q_bipush (t := 99) F dX9_copy_97 (by decide) rfl ?_
              refine q_iret F dX9_copy_99 rfl ?_
              try simp only [Int.toNat_natCast]
              first
                | exact ⟨_, rfl, fun _ => ⟨rfl, rfl⟩, fun z => absurd z (by omega)⟩
                | exact ⟨_, rfl, fun z => absurd (by omega) z, fun _ => ⟨fun _ => ⟨rfl, rfl⟩, fun z1 z2 => by omega⟩⟩
                | exact ⟨_, rfl, fun z => absurd (by omega) z, fun _ => ⟨fun z => by omega, fun _ _ => ⟨fun _ => ⟨rfl, rfl⟩, fun z => absurd z (by omega)⟩⟩⟩
                | exact ⟨_, rfl, fun z => absurd (by omega) z, fun _ => ⟨fun z => by omega, fun _ _ => ⟨fun z => absurd (by omega) z, fun _ => ⟨fun _ => ⟨rfl, rfl⟩, fun z => by omega⟩⟩⟩⟩
                | (obtain rfl : m = n := by omega
                   refine ⟨_, rfl, fun z => absurd (by omega) z, fun _ => ⟨fun z => by omega, fun _ _ => ⟨fun z => absurd (by omega) z, fun _ => ⟨fun z => absurd (by omega) z, fun _ => ⟨rfl, ?_⟩⟩⟩⟩⟩
                   unfold cpM
                   split
                   · rw [Nat.sub_self]
                     rfl
                   · rfl)
                | omega
            · refine q_iload_n (t := 62) F dX9_copy_61 rfl rfl rfl ?_
              refine q_if_lt (t := 65) (u := 97) F dX9_copy_62 (by first | exact hR _ _ _ | (constructor <;> omega)) (by decide) rfl (fun c62 => ?_) (fun c62 => ?_)
              · refine q_bipush (t := 99) F dX9_copy_97 (by decide) rfl ?_
                refine q_iret F dX9_copy_99 rfl ?_
                try simp only [Int.toNat_natCast]
                first
                  | exact ⟨_, rfl, fun _ => ⟨rfl, rfl⟩, fun z => absurd z (by omega)⟩
                  | exact ⟨_, rfl, fun z => absurd (by omega) z, fun _ => ⟨fun _ => ⟨rfl, rfl⟩, fun z1 z2 => by omega⟩⟩
                  | exact ⟨_, rfl, fun z => absurd (by omega) z, fun _ => ⟨fun z => by omega, fun _ _ => ⟨fun _ => ⟨rfl, rfl⟩, fun z => absurd z (by omega)⟩⟩⟩
                  | exact ⟨_, rfl, fun z => absurd (by omega) z, fun _ => ⟨fun z => by omega, fun _ _ => ⟨fun z => absurd (by omega) z, fun _ => ⟨fun _ => ⟨rfl, rfl⟩, fun z => by omega⟩⟩⟩⟩
                  | (obtain rfl : m = n := by omega
                     refine ⟨_, rfl, fun z => absurd (by omega) z, fun _ => ⟨fun z => by omega, fun _ _ => ⟨fun z => absurd (by omega) z, fun _ => ⟨fun z => absurd (by omega) z, fun _ => ⟨rfl, ?_⟩⟩⟩⟩⟩
                     unfold cpM
                     split
                     · rw [Nat.sub_self]
                       rfl
                     · rfl)
                  | omega
              · refine q_iload (t := 67) F dX9_copy_65 rfl rfl ?_
                refine q_if_lt (t := 70) (u := 97) F dX9_copy_67 (by first | exact hR _ _ _ | (constructor <;> omega)) (by decide) rfl (fun c67 => ?_) (fun c67 => ?_)
                · refine q_bipush (t := 99) F dX9_copy_97 (by decide) rfl ?_
                  refine q_iret F dX9_copy_99 rfl ?_
                  try simp only [Int.toNat_natCast]
                  first
                    | exact ⟨_, rfl, fun _ => ⟨rfl, rfl⟩, fun z => absurd z (by omega)⟩
                    | exact ⟨_, rfl, fun z => absurd (by omega) z, fun _ => ⟨fun _ => ⟨rfl, rfl⟩, fun z1 z2 => by omega⟩⟩
                    | exact ⟨_, rfl, fun z => absurd (by omega) z, fun _ => ⟨fun z => by omega, fun _ _ => ⟨fun _ => ⟨rfl, rfl⟩, fun z => absurd z (by omega)⟩⟩⟩
                    | exact ⟨_, rfl, fun z => absurd (by omega) z, fun _ => ⟨fun z => by omega, fun _ _ => ⟨fun z => absurd (by omega) z, fun _ => ⟨fun _ => ⟨rfl, rfl⟩, fun z => by omega⟩⟩⟩⟩
                    | (obtain rfl : m = n := by omega
                       refine ⟨_, rfl, fun z => absurd (by omega) z, fun _ => ⟨fun z => by omega, fun _ _ => ⟨fun z => absurd (by omega) z, fun _ => ⟨fun z => absurd (by omega) z, fun _ => ⟨rfl, ?_⟩⟩⟩⟩⟩
                       unfold cpM
                       split
                       · rw [Nat.sub_self]
                         rfl
                       · rfl)
                    | omega
                · refine q_iload_n (t := 71) F dX9_copy_70 rfl rfl rfl ?_
                  refine q_aload_n (t := 72) F dX9_copy_71 rfl rfl rfl ?_
                  refine g_X9_75 (t := 75) F dX9_copy_72 rfl rfl ?_
                  refine q_iload_n (t := 76) F dX9_copy_75 rfl rfl rfl ?_
                  first | refine ldN_49 (t := 77) F dX9_copy_76 (by omega) rfl ?_ | refine ld_49 (t := 77) F dX9_copy_76 (by omega) (by omega) rfl ?_
                  try simp only [up_app, row_app, scr_app, cpy_app, Nat.reduceEqDiff, Int.reduceToNat, Int.toNat_natCast, and_true, true_and, and_false, false_and, and_self, reduceIte]
                  refine q_iload (t := 79) F dX9_copy_77 rfl rfl ?_
                  refine q_isub (t := 80) F dX9_copy_79 rfl ?_
                  refine q_icmp_gt (t := 83) (u := 97) F dX9_copy_80 (by constructor <;> omega) (by constructor <;> omega) (by decide) rfl (fun c80 => ?_) (fun c80 => ?_)
                  · refine q_bipush (t := 99) F dX9_copy_97 (by decide) rfl ?_
                    refine q_iret F dX9_copy_99 rfl ?_
                    try simp only [Int.toNat_natCast]
                    first
                      | exact ⟨_, rfl, fun _ => ⟨rfl, rfl⟩, fun z => absurd z (by omega)⟩
                      | exact ⟨_, rfl, fun z => absurd (by omega) z, fun _ => ⟨fun _ => ⟨rfl, rfl⟩, fun z1 z2 => by omega⟩⟩
                      | exact ⟨_, rfl, fun z => absurd (by omega) z, fun _ => ⟨fun z => by omega, fun _ _ => ⟨fun _ => ⟨rfl, rfl⟩, fun z => absurd z (by omega)⟩⟩⟩
                      | exact ⟨_, rfl, fun z => absurd (by omega) z, fun _ => ⟨fun z => by omega, fun _ _ => ⟨fun z => absurd (by omega) z, fun _ => ⟨fun _ => ⟨rfl, rfl⟩, fun z => by omega⟩⟩⟩⟩
                      | (obtain rfl : m = n := by omega
                         refine ⟨_, rfl, fun z => absurd (by omega) z, fun _ => ⟨fun z => by omega, fun _ _ => ⟨fun z => absurd (by omega) z, fun _ => ⟨fun z => absurd (by omega) z, fun _ => ⟨rfl, ?_⟩⟩⟩⟩⟩
                         unfold cpM
                         split
                         · rw [Nat.sub_self]
                           rfl
                         · rfl)
                      | omega
                  · refine q_iload (t := 85) F dX9_copy_83 rfl rfl ?_
                    refine q_aload_n (t := 86) F dX9_copy_85 rfl rfl rfl ?_
                    refine g_X9_75 (t := 89) F dX9_copy_86 rfl rfl ?_
                    refine q_iload_n (t := 90) F dX9_copy_89 rfl rfl rfl ?_
                    first | refine ldN_49 (t := 91) F dX9_copy_90 (by omega) rfl ?_ | refine ld_49 (t := 91) F dX9_copy_90 (by omega) (by omega) rfl ?_
                    try simp only [up_app, row_app, scr_app, cpy_app, Nat.reduceEqDiff, Int.reduceToNat, Int.toNat_natCast, and_true, true_and, and_false, false_and, and_self, reduceIte]
                    refine q_iload (t := 93) F dX9_copy_91 rfl rfl ?_
                    refine q_isub (t := 94) F dX9_copy_93 rfl ?_
                    refine q_icmp_le (t := 97) (u := 100) F dX9_copy_94 (by constructor <;> omega) (by constructor <;> omega) (by decide) rfl (fun c94 => ?_) (fun c94 => ?_)
                    · obtain ⟨i, rfl⟩ : ∃ k : Nat, i = (k : Int) := ⟨i.toNat, by omega⟩
                      obtain ⟨j, rfl⟩ : ∃ k : Nat, j = (k : Int) := ⟨j.toNat, by omega⟩
                      obtain ⟨n, rfl⟩ : ∃ k : Nat, n = (k : Int) := ⟨n.toNat, by omega⟩
                      have eti : ((i : Nat) : Int).toNat = i := Int.toNat_natCast i
                      have etj : ((j : Nat) : Int).toNat = j := Int.toNat_natCast j
                      have etn : ((n : Nat) : Int).toNat = n := Int.toNat_natCast n
                      (try rw [eti])
                      (try rw [etj])
                      (try rw [etn])
                      refine q_iload_n (t := 101) F dX9_copy_100 rfl rfl rfl ?_
                      refine q_iload_n (t := 102) F dX9_copy_101 rfl rfl rfl ?_
                      refine q_icmp_ne (t := 105) (u := 115) F dX9_copy_102 (by constructor <;> omega) (by constructor <;> omega) (by decide) rfl (fun c102 => ?_) (fun c102 => ?_)
                      · refine q_iconst (t := 116) F dX9_copy_115 rfl ?_
                        refine q_istore (t := 118) F dX9_copy_116 (by decide) rfl rfl ?_
                        refine q_iconst (t := 119) F dX9_copy_118 rfl ?_
                        refine q_istore (t := 121) F dX9_copy_119 (by decide) rfl rfl ?_
                        have L121 : ∀ (fz : Nat) (u : Int) (m : Nat), 41 - m < fz → (m ≤ n ∧ (u = 1 ∧ a = b ∧ i < j ∨ u = 0 ∧ ¬ (a = b ∧ i < j))) → Wp M (XR G) ad Y_X9_copy (pI fun x m' => (¬ (((0 : Int) ≤ a ∧ (a : Int) ≤ 3) ∧ (0 : Int) ≤ b ∧ (b : Int) ≤ 3) → x = -2 ∧ m' = (im, rs bt rt, lm)) ∧ ((((0 : Int) ≤ a ∧ (a : Int) ≤ 3) ∧ (0 : Int) ≤ b ∧ (b : Int) ≤ 3) → (im 47 0 (Int.toNat a) = 0 ∨ im 47 0 (Int.toNat b) = 0 → x = -11 ∧ m' = (im, rs bt rt, lm)) ∧ (im 47 0 (Int.toNat a) = 1 → im 47 0 (Int.toNat b) = 1 → (im 48 0 (Int.toNat a) ≠ im 48 0 (Int.toNat b) → x = -13 ∧ m' = (im, rs bt rt, lm)) ∧ (im 48 0 (Int.toNat a) = im 48 0 (Int.toNat b) → (¬ (((0 : Int) ≤ i ∧ (0 : Int) ≤ n ∧ (i : Int) + (n : Int) ≤ im 49 0 (Int.toNat a)) ∧ (0 : Int) ≤ j ∧ (0 : Int) ≤ n ∧ (j : Int) + (n : Int) ≤ im 49 0 (Int.toNat b)) → x = -12 ∧ m' = (im, rs bt rt, lm)) ∧ ((((0 : Int) ≤ i ∧ (0 : Int) ≤ n ∧ (i : Int) + (n : Int) ≤ im 49 0 (Int.toNat a)) ∧ (0 : Int) ≤ j ∧ (0 : Int) ≤ n ∧ (j : Int) + (n : Int) ≤ im 49 0 (Int.toNat b)) → x = n ∧ m' = (cpy im 50 0 (40 * (Int.toNat a) + (Int.toNat i)) 50 0 (40 * (Int.toNat b) + (Int.toNat j)) (Int.toNat n), rs bt rt, lm)))))) 121 [some (vR 30 0), some (vI (a : Int)), some (vI (i : Int)), some (vI (b : Int)), some (vI (j : Int)), some (vI (n : Int)), some (vI u), some (vI (m : Int)), none] [] (cpM im u (40 * a + i) (40 * b + j) n m, rs bt rt, lm) := by
                          intro fz
                          induction fz with
                          | zero => intro u m h; exact absurd h (Nat.not_lt_zero _)
                          | succ fz ih =>
                            have ih121 := ih
                            intro u m hmeas ⟨hm, hu⟩
                            refine q_iload (t := 123) F dX9_copy_121 rfl rfl ?_
                            refine q_iload (t := 125) F dX9_copy_123 rfl rfl ?_
                            refine q_icmp_ge (t := 128) (u := 182) F dX9_copy_125 (by constructor <;> omega) (by constructor <;> omega) (by decide) rfl (fun c125 => ?_) (fun c125 => ?_)
                            · refine q_iload (t := 184) F dX9_copy_182 rfl rfl ?_
                              refine q_iret F dX9_copy_184 rfl ?_
                              try simp only [Int.toNat_natCast]
                              first
                                | exact ⟨_, rfl, fun _ => ⟨rfl, rfl⟩, fun z => absurd z (by omega)⟩
                                | exact ⟨_, rfl, fun z => absurd (by omega) z, fun _ => ⟨fun _ => ⟨rfl, rfl⟩, fun z1 z2 => by omega⟩⟩
                                | exact ⟨_, rfl, fun z => absurd (by omega) z, fun _ => ⟨fun z => by omega, fun _ _ => ⟨fun _ => ⟨rfl, rfl⟩, fun z => absurd z (by omega)⟩⟩⟩
                                | exact ⟨_, rfl, fun z => absurd (by omega) z, fun _ => ⟨fun z => by omega, fun _ _ => ⟨fun z => absurd (by omega) z, fun _ => ⟨fun _ => ⟨rfl, rfl⟩, fun z => by omega⟩⟩⟩⟩
                                | (obtain rfl : m = n := by omega
                                   refine ⟨_, rfl, fun z => absurd (by omega) z, fun _ => ⟨fun z => by omega, fun _ _ => ⟨fun z => absurd (by omega) z, fun _ => ⟨fun z => absurd (by omega) z, fun _ => ⟨rfl, ?_⟩⟩⟩⟩⟩
                                   unfold cpM
                                   split
                                   · rw [Nat.sub_self]
                                     rfl
                                   · rfl)
                                | omega
                            · refine q_iload (t := 130) F dX9_copy_128 rfl rfl ?_
                              refine q_if_eq (t := 133) (u := 143) F dX9_copy_130 (by constructor <;> omega) (by decide) rfl (fun c130 => ?_) (fun c130 => ?_)
                              · refine q_iload (t := 145) F dX9_copy_143 rfl rfl ?_
                                first | rw [show (n : Int) - 1 - (m : Int) = ((n - 1 - m : Nat) : Int) by omega] | skip
                                refine q_istore (t := 147) F dX9_copy_145 (by decide) rfl rfl ?_
                                refine q_aload_n (t := 148) F dX9_copy_147 rfl rfl rfl ?_
                                refine g_X9_78 (t := 151) F dX9_copy_148 rfl rfl ?_
                                refine q_bipush (t := 153) F dX9_copy_151 (by decide) rfl ?_
                                refine q_iload_n (t := 154) F dX9_copy_153 rfl rfl rfl ?_
                                refine q_imul (t := 155) F dX9_copy_154 rfl ?_
                                refine q_iload (t := 157) F dX9_copy_155 rfl rfl ?_
                                refine q_iadd (t := 158) F dX9_copy_157 rfl ?_
                                refine q_iload (t := 160) F dX9_copy_158 rfl rfl ?_
                                refine q_iadd (t := 161) F dX9_copy_160 rfl ?_
                                first | rw [show (40 : Int) * (b : Int) + (j : Int) + ((n - 1 - m : Nat) : Int) = ((40 * b + j + (n - 1 - m) : Nat) : Int) by omega] | rw [show (40 : Int) * (b : Int) + (j : Int) + (m : Int) = ((40 * b + j + m : Nat) : Int) by omega]
                                refine q_aload_n (t := 162) F dX9_copy_161 rfl rfl rfl ?_
                                refine g_X9_78 (t := 165) F dX9_copy_162 rfl rfl ?_
                                refine q_bipush (t := 167) F dX9_copy_165 (by decide) rfl ?_
                                refine q_iload_n (t := 168) F dX9_copy_167 rfl rfl rfl ?_
                                refine q_imul (t := 169) F dX9_copy_168 rfl ?_
                                refine q_iload_n (t := 170) F dX9_copy_169 rfl rfl rfl ?_
                                refine q_iadd (t := 171) F dX9_copy_170 rfl ?_
                                refine q_iload (t := 173) F dX9_copy_171 rfl rfl ?_
                                refine q_iadd (t := 174) F dX9_copy_173 rfl ?_
                                first | rw [show (40 : Int) * (a : Int) + (i : Int) + ((n - 1 - m : Nat) : Int) = ((40 * a + i + (n - 1 - m) : Nat) : Int) by omega] | rw [show (40 : Int) * (a : Int) + (i : Int) + (m : Int) = ((40 * a + i + m : Nat) : Int) by omega]
                                first | refine ldN_50 (t := 175) F dX9_copy_174 (by omega) rfl ?_ | refine ld_50 (t := 175) F dX9_copy_174 (by omega) (by omega) rfl ?_
                                try simp only [up_app, row_app, scr_app, cpy_app, Nat.reduceEqDiff, Int.reduceToNat, Int.toNat_natCast, and_true, true_and, and_false, false_and, and_self, reduceIte]
                                first | refine stN_50 (t := 176) F dX9_copy_175 (by omega) rfl ?_ | refine st_50 (t := 176) F dX9_copy_175 (by omega) (by omega) rfl ?_
                                refine q_iinc (t := 179) F dX9_copy_176 rfl (by decide) rfl rfl ?_
                                refine q_goto (t := 121) F dX9_copy_179 (by decide) ?_
                                refine wp_less 8 ?_
                                rw [show (m : Int) + 1 = ((m + 1 : Nat) : Int) by omega]
                                have h9 := ih121 u (m + 1) (by omega) ⟨by omega, hu⟩
                                unfold cpM at h9 ⊢
                                first
                                  | (rw [if_pos (by omega)] at h9 ⊢
                                     rw [show n - m = n - 1 - m + 1 by omega, show n - (m + 1) = n - 1 - m by omega] at *
                                     have e := cpy_hi im (k := 50) (sp := 40 * a + i + (n - 1 - m)) (dp := 40 * b + j + (n - 1 - m)) (n := m) (by omega)
                                     rw [← e] at h9
                                     exact h9)
                                  | (rw [if_neg (by omega)] at h9 ⊢
                                     have e := cpy_lo im (k := 50) (sp := 40 * a + i) (dp := 40 * b + j) (n := m) (by omega)
                                     rw [← e] at h9
                                     exact h9)
                                  | omega
                              · refine q_iload (t := 135) F dX9_copy_133 rfl rfl ?_
                                refine q_iconst (t := 136) F dX9_copy_135 rfl ?_
                                refine q_isub (t := 137) F dX9_copy_136 rfl ?_
                                refine q_iload (t := 139) F dX9_copy_137 rfl rfl ?_
                                refine q_isub (t := 140) F dX9_copy_139 rfl ?_
                                refine q_goto (t := 145) F dX9_copy_140 (by decide) ?_
                                first | rw [show (n : Int) - 1 - (m : Int) = ((n - 1 - m : Nat) : Int) by omega] | skip
                                refine q_istore (t := 147) F dX9_copy_145 (by decide) rfl rfl ?_
                                refine q_aload_n (t := 148) F dX9_copy_147 rfl rfl rfl ?_
                                refine g_X9_78 (t := 151) F dX9_copy_148 rfl rfl ?_
                                refine q_bipush (t := 153) F dX9_copy_151 (by decide) rfl ?_
                                refine q_iload_n (t := 154) F dX9_copy_153 rfl rfl rfl ?_
                                refine q_imul (t := 155) F dX9_copy_154 rfl ?_
                                refine q_iload (t := 157) F dX9_copy_155 rfl rfl ?_
                                refine q_iadd (t := 158) F dX9_copy_157 rfl ?_
                                refine q_iload (t := 160) F dX9_copy_158 rfl rfl ?_
                                refine q_iadd (t := 161) F dX9_copy_160 rfl ?_
                                first | rw [show (40 : Int) * (b : Int) + (j : Int) + ((n - 1 - m : Nat) : Int) = ((40 * b + j + (n - 1 - m) : Nat) : Int) by omega] | rw [show (40 : Int) * (b : Int) + (j : Int) + (m : Int) = ((40 * b + j + m : Nat) : Int) by omega]
                                refine q_aload_n (t := 162) F dX9_copy_161 rfl rfl rfl ?_
                                refine g_X9_78 (t := 165) F dX9_copy_162 rfl rfl ?_
                                refine q_bipush (t := 167) F dX9_copy_165 (by decide) rfl ?_
                                refine q_iload_n (t := 168) F dX9_copy_167 rfl rfl rfl ?_
                                refine q_imul (t := 169) F dX9_copy_168 rfl ?_
                                refine q_iload_n (t := 170) F dX9_copy_169 rfl rfl rfl ?_
                                refine q_iadd (t := 171) F dX9_copy_170 rfl ?_
                                refine q_iload (t := 173) F dX9_copy_171 rfl rfl ?_
                                refine q_iadd (t := 174) F dX9_copy_173 rfl ?_
                                first | rw [show (40 : Int) * (a : Int) + (i : Int) + ((n - 1 - m : Nat) : Int) = ((40 * a + i + (n - 1 - m) : Nat) : Int) by omega] | rw [show (40 : Int) * (a : Int) + (i : Int) + (m : Int) = ((40 * a + i + m : Nat) : Int) by omega]
                                first | refine ldN_50 (t := 175) F dX9_copy_174 (by omega) rfl ?_ | refine ld_50 (t := 175) F dX9_copy_174 (by omega) (by omega) rfl ?_
                                try simp only [up_app, row_app, scr_app, cpy_app, Nat.reduceEqDiff, Int.reduceToNat, Int.toNat_natCast, and_true, true_and, and_false, false_and, and_self, reduceIte]
                                first | refine stN_50 (t := 176) F dX9_copy_175 (by omega) rfl ?_ | refine st_50 (t := 176) F dX9_copy_175 (by omega) (by omega) rfl ?_
                                refine q_iinc (t := 179) F dX9_copy_176 rfl (by decide) rfl rfl ?_
                                refine q_goto (t := 121) F dX9_copy_179 (by decide) ?_
                                refine wp_less 8 ?_
                                rw [show (m : Int) + 1 = ((m + 1 : Nat) : Int) by omega]
                                have h9 := ih121 u (m + 1) (by omega) ⟨by omega, hu⟩
                                unfold cpM at h9 ⊢
                                first
                                  | (rw [if_pos (by omega)] at h9 ⊢
                                     rw [show n - m = n - 1 - m + 1 by omega, show n - (m + 1) = n - 1 - m by omega] at *
                                     have e := cpy_hi im (k := 50) (sp := 40 * a + i + (n - 1 - m)) (dp := 40 * b + j + (n - 1 - m)) (n := m) (by omega)
                                     rw [← e] at h9
                                     exact h9)
                                  | (rw [if_neg (by omega)] at h9 ⊢
                                     have e := cpy_lo im (k := 50) (sp := 40 * a + i) (dp := 40 * b + j) (n := m) (by omega)
                                     rw [← e] at h9
                                     exact h9)
                                  | omega
                        first
                          | (have L0 := L121 _ 1 0 (Nat.lt_succ_self _) ⟨by omega, by omega⟩
                             unfold cpM at L0
                             rw [if_pos rfl, cpy_n0] at L0
                             exact L0)
                          | (have L0 := L121 _ 0 0 (Nat.lt_succ_self _) ⟨by omega, by omega⟩
                             unfold cpM at L0
                             rw [if_neg (by omega), cpy_n0] at L0
                             exact L0)
                          | omega
                      · refine q_iload_n (t := 106) F dX9_copy_105 rfl rfl rfl ?_
                        refine q_iload (t := 108) F dX9_copy_106 rfl rfl ?_
                        refine q_icmp_ge (t := 111) (u := 115) F dX9_copy_108 (by constructor <;> omega) (by constructor <;> omega) (by decide) rfl (fun c108 => ?_) (fun c108 => ?_)
                        · refine q_iconst (t := 116) F dX9_copy_115 rfl ?_
                          refine q_istore (t := 118) F dX9_copy_116 (by decide) rfl rfl ?_
                          refine q_iconst (t := 119) F dX9_copy_118 rfl ?_
                          refine q_istore (t := 121) F dX9_copy_119 (by decide) rfl rfl ?_
                          have L121 : ∀ (fz : Nat) (u : Int) (m : Nat), 41 - m < fz → (m ≤ n ∧ (u = 1 ∧ a = b ∧ i < j ∨ u = 0 ∧ ¬ (a = b ∧ i < j))) → Wp M (XR G) ad Y_X9_copy (pI fun x m' => (¬ (((0 : Int) ≤ a ∧ (a : Int) ≤ 3) ∧ (0 : Int) ≤ b ∧ (b : Int) ≤ 3) → x = -2 ∧ m' = (im, rs bt rt, lm)) ∧ ((((0 : Int) ≤ a ∧ (a : Int) ≤ 3) ∧ (0 : Int) ≤ b ∧ (b : Int) ≤ 3) → (im 47 0 (Int.toNat a) = 0 ∨ im 47 0 (Int.toNat b) = 0 → x = -11 ∧ m' = (im, rs bt rt, lm)) ∧ (im 47 0 (Int.toNat a) = 1 → im 47 0 (Int.toNat b) = 1 → (im 48 0 (Int.toNat a) ≠ im 48 0 (Int.toNat b) → x = -13 ∧ m' = (im, rs bt rt, lm)) ∧ (im 48 0 (Int.toNat a) = im 48 0 (Int.toNat b) → (¬ (((0 : Int) ≤ i ∧ (0 : Int) ≤ n ∧ (i : Int) + (n : Int) ≤ im 49 0 (Int.toNat a)) ∧ (0 : Int) ≤ j ∧ (0 : Int) ≤ n ∧ (j : Int) + (n : Int) ≤ im 49 0 (Int.toNat b)) → x = -12 ∧ m' = (im, rs bt rt, lm)) ∧ ((((0 : Int) ≤ i ∧ (0 : Int) ≤ n ∧ (i : Int) + (n : Int) ≤ im 49 0 (Int.toNat a)) ∧ (0 : Int) ≤ j ∧ (0 : Int) ≤ n ∧ (j : Int) + (n : Int) ≤ im 49 0 (Int.toNat b)) → x = n ∧ m' = (cpy im 50 0 (40 * (Int.toNat a) + (Int.toNat i)) 50 0 (40 * (Int.toNat b) + (Int.toNat j)) (Int.toNat n), rs bt rt, lm)))))) 121 [some (vR 30 0), some (vI (a : Int)), some (vI (i : Int)), some (vI (b : Int)), some (vI (j : Int)), some (vI (n : Int)), some (vI u), some (vI (m : Int)), none] [] (cpM im u (40 * a + i) (40 * b + j) n m, rs bt rt, lm) := by
                            intro fz
                            induction fz with
                            | zero => intro u m h; exact absurd h (Nat.not_lt_zero _)
                            | succ fz ih =>
                              have ih121 := ih
                              intro u m hmeas ⟨hm, hu⟩
                              refine q_iload (t := 123) F dX9_copy_121 rfl rfl ?_
                              refine q_iload (t := 125) F dX9_copy_123 rfl rfl ?_
                              refine q_icmp_ge (t := 128) (u := 182) F dX9_copy_125 (by constructor <;> omega) (by constructor <;> omega) (by decide) rfl (fun c125 => ?_) (fun c125 => ?_)
                              · refine q_iload (t := 184) F dX9_copy_182 rfl rfl ?_
                                refine q_iret F dX9_copy_184 rfl ?_
                                try simp only [Int.toNat_natCast]
                                first
                                  | exact ⟨_, rfl, fun _ => ⟨rfl, rfl⟩, fun z => absurd z (by omega)⟩
                                  | exact ⟨_, rfl, fun z => absurd (by omega) z, fun _ => ⟨fun _ => ⟨rfl, rfl⟩, fun z1 z2 => by omega⟩⟩
                                  | exact ⟨_, rfl, fun z => absurd (by omega) z, fun _ => ⟨fun z => by omega, fun _ _ => ⟨fun _ => ⟨rfl, rfl⟩, fun z => absurd z (by omega)⟩⟩⟩
                                  | exact ⟨_, rfl, fun z => absurd (by omega) z, fun _ => ⟨fun z => by omega, fun _ _ => ⟨fun z => absurd (by omega) z, fun _ => ⟨fun _ => ⟨rfl, rfl⟩, fun z => by omega⟩⟩⟩⟩
                                  | (obtain rfl : m = n := by omega
                                     refine ⟨_, rfl, fun z => absurd (by omega) z, fun _ => ⟨fun z => by omega, fun _ _ => ⟨fun z => absurd (by omega) z, fun _ => ⟨fun z => absurd (by omega) z, fun _ => ⟨rfl, ?_⟩⟩⟩⟩⟩
                                     unfold cpM
                                     split
                                     · rw [Nat.sub_self]
                                       rfl
                                     · rfl)
                                  | omega
                              · refine q_iload (t := 130) F dX9_copy_128 rfl rfl ?_
                                refine q_if_eq (t := 133) (u := 143) F dX9_copy_130 (by constructor <;> omega) (by decide) rfl (fun c130 => ?_) (fun c130 => ?_)
                                · refine q_iload (t := 145) F dX9_copy_143 rfl rfl ?_
                                  first | rw [show (n : Int) - 1 - (m : Int) = ((n - 1 - m : Nat) : Int) by omega] | skip
                                  refine q_istore (t := 147) F dX9_copy_145 (by decide) rfl rfl ?_
                                  refine q_aload_n (t := 148) F dX9_copy_147 rfl rfl rfl ?_
                                  refine g_X9_78 (t := 151) F dX9_copy_148 rfl rfl ?_
                                  refine q_bipush (t := 153) F dX9_copy_151 (by decide) rfl ?_
                                  refine q_iload_n (t := 154) F dX9_copy_153 rfl rfl rfl ?_
                                  refine q_imul (t := 155) F dX9_copy_154 rfl ?_
                                  refine q_iload (t := 157) F dX9_copy_155 rfl rfl ?_
                                  refine q_iadd (t := 158) F dX9_copy_157 rfl ?_
                                  refine q_iload (t := 160) F dX9_copy_158 rfl rfl ?_
                                  refine q_iadd (t := 161) F dX9_copy_160 rfl ?_
                                  first | rw [show (40 : Int) * (b : Int) + (j : Int) + ((n - 1 - m : Nat) : Int) = ((40 * b + j + (n - 1 - m) : Nat) : Int) by omega] | rw [show (40 : Int) * (b : Int) + (j : Int) + (m : Int) = ((40 * b + j + m : Nat) : Int) by omega]
                                  refine q_aload_n (t := 162) F dX9_copy_161 rfl rfl rfl ?_
                                  refine g_X9_78 (t := 165) F dX9_copy_162 rfl rfl ?_
                                  refine q_bipush (t := 167) F dX9_copy_165 (by decide) rfl ?_
                                  refine q_iload_n (t := 168) F dX9_copy_167 rfl rfl rfl ?_
                                  refine q_imul (t := 169) F dX9_copy_168 rfl ?_
                                  refine q_iload_n (t := 170) F dX9_copy_169 rfl rfl rfl ?_
                                  refine q_iadd (t := 171) F dX9_copy_170 rfl ?_
                                  refine q_iload (t := 173) F dX9_copy_171 rfl rfl ?_
                                  refine q_iadd (t := 174) F dX9_copy_173 rfl ?_
                                  first | rw [show (40 : Int) * (a : Int) + (i : Int) + ((n - 1 - m : Nat) : Int) = ((40 * a + i + (n - 1 - m) : Nat) : Int) by omega] | rw [show (40 : Int) * (a : Int) + (i : Int) + (m : Int) = ((40 * a + i + m : Nat) : Int) by omega]
                                  first | refine ldN_50 (t := 175) F dX9_copy_174 (by omega) rfl ?_ | refine ld_50 (t := 175) F dX9_copy_174 (by omega) (by omega) rfl ?_
                                  try simp only [up_app, row_app, scr_app, cpy_app, Nat.reduceEqDiff, Int.reduceToNat, Int.toNat_natCast, and_true, true_and, and_false, false_and, and_self, reduceIte]
                                  first | refine stN_50 (t := 176) F dX9_copy_175 (by omega) rfl ?_ | refine st_50 (t := 176) F dX9_copy_175 (by omega) (by omega) rfl ?_
                                  refine q_iinc (t := 179) F dX9_copy_176 rfl (by decide) rfl rfl ?_
                                  refine q_goto (t := 121) F dX9_copy_179 (by decide) ?_
                                  refine wp_less 8 ?_
                                  rw [show (m : Int) + 1 = ((m + 1 : Nat) : Int) by omega]
                                  have h9 := ih121 u (m + 1) (by omega) ⟨by omega, hu⟩
                                  unfold cpM at h9 ⊢
                                  first
                                    | (rw [if_pos (by omega)] at h9 ⊢
                                       rw [show n - m = n - 1 - m + 1 by omega, show n - (m + 1) = n - 1 - m by omega] at *
                                       have e := cpy_hi im (k := 50) (sp := 40 * a + i + (n - 1 - m)) (dp := 40 * b + j + (n - 1 - m)) (n := m) (by omega)
                                       rw [← e] at h9
                                       exact h9)
                                    | (rw [if_neg (by omega)] at h9 ⊢
                                       have e := cpy_lo im (k := 50) (sp := 40 * a + i) (dp := 40 * b + j) (n := m) (by omega)
                                       rw [← e] at h9
                                       exact h9)
                                    | omega
                                · refine q_iload (t := 135) F dX9_copy_133 rfl rfl ?_
                                  refine q_iconst (t := 136) F dX9_copy_135 rfl ?_
                                  refine q_isub (t := 137) F dX9_copy_136 rfl ?_
                                  refine q_iload (t := 139) F dX9_copy_137 rfl rfl ?_
                                  refine q_isub (t := 140) F dX9_copy_139 rfl ?_
                                  refine q_goto (t := 145) F dX9_copy_140 (by decide) ?_
                                  first | rw [show (n : Int) - 1 - (m : Int) = ((n - 1 - m : Nat) : Int) by omega] | skip
                                  refine q_istore (t := 147) F dX9_copy_145 (by decide) rfl rfl ?_
                                  refine q_aload_n (t := 148) F dX9_copy_147 rfl rfl rfl ?_
                                  refine g_X9_78 (t := 151) F dX9_copy_148 rfl rfl ?_
                                  refine q_bipush (t := 153) F dX9_copy_151 (by decide) rfl ?_
                                  refine q_iload_n (t := 154) F dX9_copy_153 rfl rfl rfl ?_
                                  refine q_imul (t := 155) F dX9_copy_154 rfl ?_
                                  refine q_iload (t := 157) F dX9_copy_155 rfl rfl ?_
                                  refine q_iadd (t := 158) F dX9_copy_157 rfl ?_
                                  refine q_iload (t := 160) F dX9_copy_158 rfl rfl ?_
                                  refine q_iadd (t := 161) F dX9_copy_160 rfl ?_
                                  first | rw [show (40 : Int) * (b : Int) + (j : Int) + ((n - 1 - m : Nat) : Int) = ((40 * b + j + (n - 1 - m) : Nat) : Int) by omega] | rw [show (40 : Int) * (b : Int) + (j : Int) + (m : Int) = ((40 * b + j + m : Nat) : Int) by omega]
                                  refine q_aload_n (t := 162) F dX9_copy_161 rfl rfl rfl ?_
                                  refine g_X9_78 (t := 165) F dX9_copy_162 rfl rfl ?_
                                  refine q_bipush (t := 167) F dX9_copy_165 (by decide) rfl ?_
                                  refine q_iload_n (t := 168) F dX9_copy_167 rfl rfl rfl ?_
                                  refine q_imul (t := 169) F dX9_copy_168 rfl ?_
                                  refine q_iload_n (t := 170) F dX9_copy_169 rfl rfl rfl ?_
                                  refine q_iadd (t := 171) F dX9_copy_170 rfl ?_
                                  refine q_iload (t := 173) F dX9_copy_171 rfl rfl ?_
                                  refine q_iadd (t := 174) F dX9_copy_173 rfl ?_
                                  first | rw [show (40 : Int) * (a : Int) + (i : Int) + ((n - 1 - m : Nat) : Int) = ((40 * a + i + (n - 1 - m) : Nat) : Int) by omega] | rw [show (40 : Int) * (a : Int) + (i : Int) + (m : Int) = ((40 * a + i + m : Nat) : Int) by omega]
                                  first | refine ldN_50 (t := 175) F dX9_copy_174 (by omega) rfl ?_ | refine ld_50 (t := 175) F dX9_copy_174 (by omega) (by omega) rfl ?_
                                  try simp only [up_app, row_app, scr_app, cpy_app, Nat.reduceEqDiff, Int.reduceToNat, Int.toNat_natCast, and_true, true_and, and_false, false_and, and_self, reduceIte]
                                  first | refine stN_50 (t := 176) F dX9_copy_175 (by omega) rfl ?_ | refine st_50 (t := 176) F dX9_copy_175 (by omega) (by omega) rfl ?_
                                  refine q_iinc (t := 179) F dX9_copy_176 rfl (by decide) rfl rfl ?_
                                  refine q_goto (t := 121) F dX9_copy_179 (by decide) ?_
                                  refine wp_less 8 ?_
                                  rw [show (m : Int) + 1 = ((m + 1 : Nat) : Int) by omega]
                                  have h9 := ih121 u (m + 1) (by omega) ⟨by omega, hu⟩
                                  unfold cpM at h9 ⊢
                                  first
                                    | (rw [if_pos (by omega)] at h9 ⊢
                                       rw [show n - m = n - 1 - m + 1 by omega, show n - (m + 1) = n - 1 - m by omega] at *
                                       have e := cpy_hi im (k := 50) (sp := 40 * a + i + (n - 1 - m)) (dp := 40 * b + j + (n - 1 - m)) (n := m) (by omega)
                                       rw [← e] at h9
                                       exact h9)
                                    | (rw [if_neg (by omega)] at h9 ⊢
                                       have e := cpy_lo im (k := 50) (sp := 40 * a + i) (dp := 40 * b + j) (n := m) (by omega)
                                       rw [← e] at h9
                                       exact h9)
                                    | omega
                          first
                            | (have L0 := L121 _ 1 0 (Nat.lt_succ_self _) ⟨by omega, by omega⟩
                               unfold cpM at L0
                               rw [if_pos rfl, cpy_n0] at L0
                               exact L0)
                            | (have L0 := L121 _ 0 0 (Nat.lt_succ_self _) ⟨by omega, by omega⟩
                               unfold cpM at L0
                               rw [if_neg (by omega), cpy_n0] at L0
                               exact L0)
                            | omega
                        · refine q_iconst (t := 112) F dX9_copy_111 rfl ?_
                          refine q_goto (t := 116) F dX9_copy_112 (by decide) ?_
                          refine q_istore (t := 118) F dX9_copy_116 (by decide) rfl rfl ?_
                          refine q_iconst (t := 119) F dX9_copy_118 rfl ?_
                          refine q_istore (t := 121) F dX9_copy_119 (by decide) rfl rfl ?_
                          have L121 : ∀ (fz : Nat) (u : Int) (m : Nat), 41 - m < fz → (m ≤ n ∧ (u = 1 ∧ a = b ∧ i < j ∨ u = 0 ∧ ¬ (a = b ∧ i < j))) → Wp M (XR G) ad Y_X9_copy (pI fun x m' => (¬ (((0 : Int) ≤ a ∧ (a : Int) ≤ 3) ∧ (0 : Int) ≤ b ∧ (b : Int) ≤ 3) → x = -2 ∧ m' = (im, rs bt rt, lm)) ∧ ((((0 : Int) ≤ a ∧ (a : Int) ≤ 3) ∧ (0 : Int) ≤ b ∧ (b : Int) ≤ 3) → (im 47 0 (Int.toNat a) = 0 ∨ im 47 0 (Int.toNat b) = 0 → x = -11 ∧ m' = (im, rs bt rt, lm)) ∧ (im 47 0 (Int.toNat a) = 1 → im 47 0 (Int.toNat b) = 1 → (im 48 0 (Int.toNat a) ≠ im 48 0 (Int.toNat b) → x = -13 ∧ m' = (im, rs bt rt, lm)) ∧ (im 48 0 (Int.toNat a) = im 48 0 (Int.toNat b) → (¬ (((0 : Int) ≤ i ∧ (0 : Int) ≤ n ∧ (i : Int) + (n : Int) ≤ im 49 0 (Int.toNat a)) ∧ (0 : Int) ≤ j ∧ (0 : Int) ≤ n ∧ (j : Int) + (n : Int) ≤ im 49 0 (Int.toNat b)) → x = -12 ∧ m' = (im, rs bt rt, lm)) ∧ ((((0 : Int) ≤ i ∧ (0 : Int) ≤ n ∧ (i : Int) + (n : Int) ≤ im 49 0 (Int.toNat a)) ∧ (0 : Int) ≤ j ∧ (0 : Int) ≤ n ∧ (j : Int) + (n : Int) ≤ im 49 0 (Int.toNat b)) → x = n ∧ m' = (cpy im 50 0 (40 * (Int.toNat a) + (Int.toNat i)) 50 0 (40 * (Int.toNat b) + (Int.toNat j)) (Int.toNat n), rs bt rt, lm)))))) 121 [some (vR 30 0), some (vI (a : Int)), some (vI (i : Int)), some (vI (b : Int)), some (vI (j : Int)), some (vI (n : Int)), some (vI u), some (vI (m : Int)), none] [] (cpM im u (40 * a + i) (40 * b + j) n m, rs bt rt, lm) := by
                            intro fz
                            induction fz with
                            | zero => intro u m h; exact absurd h (Nat.not_lt_zero _)
                            | succ fz ih =>
                              have ih121 := ih
                              intro u m hmeas ⟨hm, hu⟩
                              refine q_iload (t := 123) F dX9_copy_121 rfl rfl ?_
                              refine q_iload (t := 125) F dX9_copy_123 rfl rfl ?_
                              refine q_icmp_ge (t := 128) (u := 182) F dX9_copy_125 (by constructor <;> omega) (by constructor <;> omega) (by decide) rfl (fun c125 => ?_) (fun c125 => ?_)
                              · refine q_iload (t := 184) F dX9_copy_182 rfl rfl ?_
                                refine q_iret F dX9_copy_184 rfl ?_
                                try simp only [Int.toNat_natCast]
                                first
                                  | exact ⟨_, rfl, fun _ => ⟨rfl, rfl⟩, fun z => absurd z (by omega)⟩
                                  | exact ⟨_, rfl, fun z => absurd (by omega) z, fun _ => ⟨fun _ => ⟨rfl, rfl⟩, fun z1 z2 => by omega⟩⟩
                                  | exact ⟨_, rfl, fun z => absurd (by omega) z, fun _ => ⟨fun z => by omega, fun _ _ => ⟨fun _ => ⟨rfl, rfl⟩, fun z => absurd z (by omega)⟩⟩⟩
                                  | exact ⟨_, rfl, fun z => absurd (by omega) z, fun _ => ⟨fun z => by omega, fun _ _ => ⟨fun z => absurd (by omega) z, fun _ => ⟨fun _ => ⟨rfl, rfl⟩, fun z => by omega⟩⟩⟩⟩
                                  | (obtain rfl : m = n := by omega
                                     refine ⟨_, rfl, fun z => absurd (by omega) z, fun _ => ⟨fun z => by omega, fun _ _ => ⟨fun z => absurd (by omega) z, fun _ => ⟨fun z => absurd (by omega) z, fun _ => ⟨rfl, ?_⟩⟩⟩⟩⟩
                                     unfold cpM
                                     split
                                     · rw [Nat.sub_self]
                                       rfl
                                     · rfl)
                                  | omega
                              · refine q_iload (t := 130) F dX9_copy_128 rfl rfl ?_
                                refine q_if_eq (t := 133) (u := 143) F dX9_copy_130 (by constructor <;> omega) (by decide) rfl (fun c130 => ?_) (fun c130 => ?_)
                                · refine q_iload (t := 145) F dX9_copy_143 rfl rfl ?_
                                  first | rw [show (n : Int) - 1 - (m : Int) = ((n - 1 - m : Nat) : Int) by omega] | skip
                                  refine q_istore (t := 147) F dX9_copy_145 (by decide) rfl rfl ?_
                                  refine q_aload_n (t := 148) F dX9_copy_147 rfl rfl rfl ?_
                                  refine g_X9_78 (t := 151) F dX9_copy_148 rfl rfl ?_
                                  refine q_bipush (t := 153) F dX9_copy_151 (by decide) rfl ?_
                                  refine q_iload_n (t := 154) F dX9_copy_153 rfl rfl rfl ?_
                                  refine q_imul (t := 155) F dX9_copy_154 rfl ?_
                                  refine q_iload (t := 157) F dX9_copy_155 rfl rfl ?_
                                  refine q_iadd (t := 158) F dX9_copy_157 rfl ?_
                                  refine q_iload (t := 160) F dX9_copy_158 rfl rfl ?_
                                  refine q_iadd (t := 161) F dX9_copy_160 rfl ?_
                                  first | rw [show (40 : Int) * (b : Int) + (j : Int) + ((n - 1 - m : Nat) : Int) = ((40 * b + j + (n - 1 - m) : Nat) : Int) by omega] | rw [show (40 : Int) * (b : Int) + (j : Int) + (m : Int) = ((40 * b + j + m : Nat) : Int) by omega]
                                  refine q_aload_n (t := 162) F dX9_copy_161 rfl rfl rfl ?_
                                  refine g_X9_78 (t := 165) F dX9_copy_162 rfl rfl ?_
                                  refine q_bipush (t := 167) F dX9_copy_165 (by decide) rfl ?_
                                  refine q_iload_n (t := 168) F dX9_copy_167 rfl rfl rfl ?_
                                  refine q_imul (t := 169) F dX9_copy_168 rfl ?_
                                  refine q_iload_n (t := 170) F dX9_copy_169 rfl rfl rfl ?_
                                  refine q_iadd (t := 171) F dX9_copy_170 rfl ?_
                                  refine q_iload (t := 173) F dX9_copy_171 rfl rfl ?_
                                  refine q_iadd (t := 174) F dX9_copy_173 rfl ?_
                                  first | rw [show (40 : Int) * (a : Int) + (i : Int) + ((n - 1 - m : Nat) : Int) = ((40 * a + i + (n - 1 - m) : Nat) : Int) by omega] | rw [show (40 : Int) * (a : Int) + (i : Int) + (m : Int) = ((40 * a + i + m : Nat) : Int) by omega]
                                  first | refine ldN_50 (t := 175) F dX9_copy_174 (by omega) rfl ?_ | refine ld_50 (t := 175) F dX9_copy_174 (by omega) (by omega) rfl ?_
                                  try simp only [up_app, row_app, scr_app, cpy_app, Nat.reduceEqDiff, Int.reduceToNat, Int.toNat_natCast, and_true, true_and, and_false, false_and, and_self, reduceIte]
                                  first | refine stN_50 (t := 176) F dX9_copy_175 (by omega) rfl ?_ | refine st_50 (t := 176) F dX9_copy_175 (by omega) (by omega) rfl ?_
                                  refine q_iinc (t := 179) F dX9_copy_176 rfl (by decide) rfl rfl ?_
                                  refine q_goto (t := 121) F dX9_copy_179 (by decide) ?_
                                  refine wp_less 8 ?_
                                  rw [show (m : Int) + 1 = ((m + 1 : Nat) : Int) by omega]
                                  have h9 := ih121 u (m + 1) (by omega) ⟨by omega, hu⟩
                                  unfold cpM at h9 ⊢
                                  first
                                    | (rw [if_pos (by omega)] at h9 ⊢
                                       rw [show n - m = n - 1 - m + 1 by omega, show n - (m + 1) = n - 1 - m by omega] at *
                                       have e := cpy_hi im (k := 50) (sp := 40 * a + i + (n - 1 - m)) (dp := 40 * b + j + (n - 1 - m)) (n := m) (by omega)
                                       rw [← e] at h9
                                       exact h9)
                                    | (rw [if_neg (by omega)] at h9 ⊢
                                       have e := cpy_lo im (k := 50) (sp := 40 * a + i) (dp := 40 * b + j) (n := m) (by omega)
                                       rw [← e] at h9
                                       exact h9)
                                    | omega
                                · refine q_iload (t := 135) F dX9_copy_133 rfl rfl ?_
                                  refine q_iconst (t := 136) F dX9_copy_135 rfl ?_
                                  refine q_isub (t := 137) F dX9_copy_136 rfl ?_
                                  refine q_iload (t := 139) F dX9_copy_137 rfl rfl ?_
                                  refine q_isub (t := 140) F dX9_copy_139 rfl ?_
                                  refine q_goto (t := 145) F dX9_copy_140 (by decide) ?_
                                  first | rw [show (n : Int) - 1 - (m : Int) = ((n - 1 - m : Nat) : Int) by omega] | skip
                                  refine q_istore (t := 147) F dX9_copy_145 (by decide) rfl rfl ?_
                                  refine q_aload_n (t := 148) F dX9_copy_147 rfl rfl rfl ?_
                                  refine g_X9_78 (t := 151) F dX9_copy_148 rfl rfl ?_
                                  refine q_bipush (t := 153) F dX9_copy_151 (by decide) rfl ?_
                                  refine q_iload_n (t := 154) F dX9_copy_153 rfl rfl rfl ?_
                                  refine q_imul (t := 155) F dX9_copy_154 rfl ?_
                                  refine q_iload (t := 157) F dX9_copy_155 rfl rfl ?_
                                  refine q_iadd (t := 158) F dX9_copy_157 rfl ?_
                                  refine q_iload (t := 160) F dX9_copy_158 rfl rfl ?_
                                  refine q_iadd (t := 161) F dX9_copy_160 rfl ?_
                                  first | rw [show (40 : Int) * (b : Int) + (j : Int) + ((n - 1 - m : Nat) : Int) = ((40 * b + j + (n - 1 - m) : Nat) : Int) by omega] | rw [show (40 : Int) * (b : Int) + (j : Int) + (m : Int) = ((40 * b + j + m : Nat) : Int) by omega]
                                  refine q_aload_n (t := 162) F dX9_copy_161 rfl rfl rfl ?_
                                  refine g_X9_78 (t := 165) F dX9_copy_162 rfl rfl ?_
                                  refine q_bipush (t := 167) F dX9_copy_165 (by decide) rfl ?_
                                  refine q_iload_n (t := 168) F dX9_copy_167 rfl rfl rfl ?_
                                  refine q_imul (t := 169) F dX9_copy_168 rfl ?_
                                  refine q_iload_n (t := 170) F dX9_copy_169 rfl rfl rfl ?_
                                  refine q_iadd (t := 171) F dX9_copy_170 rfl ?_
                                  refine q_iload (t := 173) F dX9_copy_171 rfl rfl ?_
                                  refine q_iadd (t := 174) F dX9_copy_173 rfl ?_
                                  first | rw [show (40 : Int) * (a : Int) + (i : Int) + ((n - 1 - m : Nat) : Int) = ((40 * a + i + (n - 1 - m) : Nat) : Int) by omega] | rw [show (40 : Int) * (a : Int) + (i : Int) + (m : Int) = ((40 * a + i + m : Nat) : Int) by omega]
                                  first | refine ldN_50 (t := 175) F dX9_copy_174 (by omega) rfl ?_ | refine ld_50 (t := 175) F dX9_copy_174 (by omega) (by omega) rfl ?_
                                  try simp only [up_app, row_app, scr_app, cpy_app, Nat.reduceEqDiff, Int.reduceToNat, Int.toNat_natCast, and_true, true_and, and_false, false_and, and_self, reduceIte]
                                  first | refine stN_50 (t := 176) F dX9_copy_175 (by omega) rfl ?_ | refine st_50 (t := 176) F dX9_copy_175 (by omega) (by omega) rfl ?_
                                  refine q_iinc (t := 179) F dX9_copy_176 rfl (by decide) rfl rfl ?_
                                  refine q_goto (t := 121) F dX9_copy_179 (by decide) ?_
                                  refine wp_less 8 ?_
                                  rw [show (m : Int) + 1 = ((m + 1 : Nat) : Int) by omega]
                                  have h9 := ih121 u (m + 1) (by omega) ⟨by omega, hu⟩
                                  unfold cpM at h9 ⊢
                                  first
                                    | (rw [if_pos (by omega)] at h9 ⊢
                                       rw [show n - m = n - 1 - m + 1 by omega, show n - (m + 1) = n - 1 - m by omega] at *
                                       have e := cpy_hi im (k := 50) (sp := 40 * a + i + (n - 1 - m)) (dp := 40 * b + j + (n - 1 - m)) (n := m) (by omega)
                                       rw [← e] at h9
                                       exact h9)
                                    | (rw [if_neg (by omega)] at h9 ⊢
                                       have e := cpy_lo im (k := 50) (sp := 40 * a + i) (dp := 40 * b + j) (n := m) (by omega)
                                       rw [← e] at h9
                                       exact h9)
                                    | omega
                          first
                            | (have L0 := L121 _ 1 0 (Nat.lt_succ_self _) ⟨by omega, by omega⟩
                               unfold cpM at L0
                               rw [if_pos rfl, cpy_n0] at L0
                               exact L0)
                            | (have L0 := L121 _ 0 0 (Nat.lt_succ_self _) ⟨by omega, by omega⟩
                               unfold cpM at L0
                               rw [if_neg (by omega), cpy_n0] at L0
                               exact L0)
                            | omega
                    · refine q_bipush (t := 99) F dX9_copy_97 (by decide) rfl ?_
                      refine q_iret F dX9_copy_99 rfl ?_
                      try simp only [Int.toNat_natCast]
                      first
                        | exact ⟨_, rfl, fun _ => ⟨rfl, rfl⟩, fun z => absurd z (by omega)⟩
                        | exact ⟨_, rfl, fun z => absurd (by omega) z, fun _ => ⟨fun _ => ⟨rfl, rfl⟩, fun z1 z2 => by omega⟩⟩
                        | exact ⟨_, rfl, fun z => absurd (by omega) z, fun _ => ⟨fun z => by omega, fun _ _ => ⟨fun _ => ⟨rfl, rfl⟩, fun z => absurd z (by omega)⟩⟩⟩
                        | exact ⟨_, rfl, fun z => absurd (by omega) z, fun _ => ⟨fun z => by omega, fun _ _ => ⟨fun z => absurd (by omega) z, fun _ => ⟨fun _ => ⟨rfl, rfl⟩, fun z => by omega⟩⟩⟩⟩
                        | (obtain rfl : m = n := by omega
                           refine ⟨_, rfl, fun z => absurd (by omega) z, fun _ => ⟨fun z => by omega, fun _ _ => ⟨fun z => absurd (by omega) z, fun _ => ⟨fun z => absurd (by omega) z, fun _ => ⟨rfl, ?_⟩⟩⟩⟩⟩
                           unfold cpM
                           split
                           · rw [Nat.sub_self]
                             rfl
                           · rfl)
                        | omega
          · refine q_bipush (t := 55) F dX9_copy_53 (by decide) rfl ?_
            refine q_iret F dX9_copy_55 rfl ?_
            try simp only [Int.toNat_natCast]
            first
              | exact ⟨_, rfl, fun _ => ⟨rfl, rfl⟩, fun z => absurd z (by omega)⟩
              | exact ⟨_, rfl, fun z => absurd (by omega) z, fun _ => ⟨fun _ => ⟨rfl, rfl⟩, fun z1 z2 => by omega⟩⟩
              | exact ⟨_, rfl, fun z => absurd (by omega) z, fun _ => ⟨fun z => by omega, fun _ _ => ⟨fun _ => ⟨rfl, rfl⟩, fun z => absurd z (by omega)⟩⟩⟩
              | exact ⟨_, rfl, fun z => absurd (by omega) z, fun _ => ⟨fun z => by omega, fun _ _ => ⟨fun z => absurd (by omega) z, fun _ => ⟨fun _ => ⟨rfl, rfl⟩, fun z => by omega⟩⟩⟩⟩
              | (obtain rfl : m = n := by omega
                 refine ⟨_, rfl, fun z => absurd (by omega) z, fun _ => ⟨fun z => by omega, fun _ _ => ⟨fun z => absurd (by omega) z, fun _ => ⟨fun z => absurd (by omega) z, fun _ => ⟨rfl, ?_⟩⟩⟩⟩⟩
                 unfold cpM
                 split
                 · rw [Nat.sub_self]
                   rfl
                 · rfl)
              | omega
        · refine q_bipush (t := 37) F dX9_copy_35 (by decide) rfl ?_
          refine q_iret F dX9_copy_37 rfl ?_
          try simp only [Int.toNat_natCast]
          first
            | exact ⟨_, rfl, fun _ => ⟨rfl, rfl⟩, fun z => absurd z (by omega)⟩
            | exact ⟨_, rfl, fun z => absurd (by omega) z, fun _ => ⟨fun _ => ⟨rfl, rfl⟩, fun z1 z2 => by omega⟩⟩
            | exact ⟨_, rfl, fun z => absurd (by omega) z, fun _ => ⟨fun z => by omega, fun _ _ => ⟨fun _ => ⟨rfl, rfl⟩, fun z => absurd z (by omega)⟩⟩⟩
            | exact ⟨_, rfl, fun z => absurd (by omega) z, fun _ => ⟨fun z => by omega, fun _ _ => ⟨fun z => absurd (by omega) z, fun _ => ⟨fun _ => ⟨rfl, rfl⟩, fun z => by omega⟩⟩⟩⟩
            | (obtain rfl : m = n := by omega
               refine ⟨_, rfl, fun z => absurd (by omega) z, fun _ => ⟨fun z => by omega, fun _ _ => ⟨fun z => absurd (by omega) z, fun _ => ⟨fun z => absurd (by omega) z, fun _ => ⟨rfl, ?_⟩⟩⟩⟩⟩
               unfold cpM
               split
               · rw [Nat.sub_self]
                 rfl
               · rfl)
            | omega
    · refine q_bipush (t := 16) F dX9_copy_14 (by decide) rfl ?_
      refine q_iret F dX9_copy_16 rfl ?_
      try simp only [Int.toNat_natCast]
      first
        | exact ⟨_, rfl, fun _ => ⟨rfl, rfl⟩, fun z => absurd z (by omega)⟩
        | exact ⟨_, rfl, fun z => absurd (by omega) z, fun _ => ⟨fun _ => ⟨rfl, rfl⟩, fun z1 z2 => by omega⟩⟩
        | exact ⟨_, rfl, fun z => absurd (by omega) z, fun _ => ⟨fun z => by omega, fun _ _ => ⟨fun _ => ⟨rfl, rfl⟩, fun z => absurd z (by omega)⟩⟩⟩
        | exact ⟨_, rfl, fun z => absurd (by omega) z, fun _ => ⟨fun z => by omega, fun _ _ => ⟨fun z => absurd (by omega) z, fun _ => ⟨fun _ => ⟨rfl, rfl⟩, fun z => by omega⟩⟩⟩⟩
        | (obtain rfl : m = n := by omega
           refine ⟨_, rfl, fun z => absurd (by omega) z, fun _ => ⟨fun z => by omega, fun _ _ => ⟨fun z => absurd (by omega) z, fun _ => ⟨fun z => absurd (by omega) z, fun _ => ⟨rfl, ?_⟩⟩⟩⟩⟩
           unfold cpM
           split
           · rw [Nat.sub_self]
             rfl
           · rfl)
        | omega
