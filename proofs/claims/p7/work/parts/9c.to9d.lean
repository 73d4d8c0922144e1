section
/-! the reference: people, taken, film -/

def mnA (im : IM) (a c : Int) : Int := if (0 ≤ a ∧ a ≤ 5) ∧ (0 ≤ c ∧ c ≤ 9) then (if im 30 0 12 = 5 then -4 else im 30 0 12) else -2
def mnI (im : IM) (a c : Int) : IM := if ((0 ≤ a ∧ a ≤ 5) ∧ (0 ≤ c ∧ c ≤ 9)) ∧ im 30 0 12 ≠ 5 then up (fiR (up (up im 34 0 (im 30 0 12).toNat a) 35 0 (im 30 0 12).toNat c) (10 * (im 30 0 12).toNat) 10 (-1)) 30 0 12 (im 30 0 12 + 1) else im
theorem RC_mn {im : IM} (h : RC im) (a c : Int) : RC (mnI im a c) := by
  unfold mnI
  split
  · rename_i z
    exact RC_man h z.1.1 z.1.2 z.2
  · exact h
theorem mnI_o (im : IM) (a c : Int) {k s : Nat} (hk : ¬ (k = 30 ∧ s = 12)) (h : ¬ (34 ≤ k ∧ k ≤ 36)) : mnI im a c k 0 s = im k 0 s := by
  unfold mnI
  split
  · rw [up_app, if_neg (by omega)]
    unfold fiR
    rw [if_neg (by omega), up_app, if_neg (by omega), up_app, if_neg (by omega)]
  · rfl
theorem c_manR (l : Launch) (G : GS) (im : IM) (bt rt : Nat) (lm : IM) (h : RC im) (a c : Int) (ha : ri a) (hc : ri c) : Cn l (XR G) yX9_man Y_X9_man [vR 30 0, vI a, vI c] (im, rs bt rt, lm) (pI fun x m' => x = mnA im a c ∧ m' = (mnI im a c, rs bt rt, lm)) := by
  refine (c_X9_man l G im bt rt lm h a c ha hc).mono ?_
  rintro r m' ⟨x, hr, h1, h2, h3⟩
  refine ⟨x, hr, ?_⟩
  unfold mnA mnI
  by_cases v : (0 ≤ a ∧ a ≤ 5) ∧ (0 ≤ c ∧ c ≤ 9)
  · by_cases f : im 30 0 12 = 5
    · have e := h2 v f
      rw [if_pos v, if_pos f, if_neg (fun z => z.2 f)]
      exact e
    · have e := h3 v f
      rw [if_pos v, if_neg f, if_pos ⟨v, f⟩]
      exact e
  · have e := h1 v
    rw [if_neg v, if_neg (fun z => v z.1)]
    exact e
theorem mnA_in {im : IM} (h : RC im) (a c : Int) : -4 ≤ mnA im a c ∧ mnA im a c ≤ 5 := by
  have h12 := h.2.2.2.1
  unfold mnA
  (repeat' split) <;> omega
def pplR (s : Nat) (fr : Int) : Nat → Nat → Int → IM → Int × IM
  | 0, _, c, im => (c, im)
  | f + 1, k, c, im => if 0 ≤ fr ∧ fr + 2 * k + 2 ≤ im 49 0 s then pplR s fr f (k + 1) (if 0 ≤ mnA im (im 50 0 (40 * s + fr.toNat + 2 * k)) (im 50 0 (40 * s + fr.toNat + 2 * k + 1)) then c + 1 else c) (mnI im (im 50 0 (40 * s + fr.toNat + 2 * k)) (im 50 0 (40 * s + fr.toNat + 2 * k + 1))) else (-12, im)
theorem pplR_s (s : Nat) (fr : Int) (f k : Nat) (c : Int) (im : IM) : pplR s fr (f + 1) k c im = if 0 ≤ fr ∧ fr + 2 * k + 2 ≤ im 49 0 s then pplR s fr f (k + 1) (if 0 ≤ mnA im (im 50 0 (40 * s + fr.toNat + 2 * k)) (im 50 0 (40 * s + fr.toNat + 2 * k + 1)) then c + 1 else c) (mnI im (im 50 0 (40 * s + fr.toNat + 2 * k)) (im 50 0 (40 * s + fr.toNat + 2 * k + 1))) else (-12, im) := rfl

set_option maxHeartbeats 4000000 in
theorem c_X9_people (l : Launch) (G : GS) (im : IM) (bt rt : Nat) (lm : IM) (h : RC im) (hSH : SH im) (s sort fr n : Int) (hs : ri s) (hsort : ri sort) (hfr : ri fr) (hn : ri n) : Cn l (XR G) yX9_people Y_X9_people [vR 30 0, vI s, vI sort, vI fr, vI n] (im, rs bt rt, lm) (pI fun x m' => (¬ (((0 : Int) ≤ s ∧ (s : Int) ≤ 3) ∧ (0 ≤ sort ∧ sort ≤ 2) ∧ (0 : Int) ≤ n ∧ (n : Int) ≤ 5) → x = -2 ∧ m' = (im, rs bt rt, lm)) ∧ ((((0 : Int) ≤ s ∧ (s : Int) ≤ 3) ∧ (0 ≤ sort ∧ sort ≤ 2) ∧ (0 : Int) ≤ n ∧ (n : Int) ≤ 5) → (im 47 0 (Int.toNat s) = 0 → x = -11 ∧ m' = (im, rs bt rt, lm)) ∧ (im 47 0 (Int.toNat s) = 1 → (im 48 0 (Int.toNat s) ≠ sort → x = -13 ∧ m' = (im, rs bt rt, lm)) ∧ (im 48 0 (Int.toNat s) = sort → x = (pplR (Int.toNat s) fr (Int.toNat n) 0 0 im).1 ∧ m' = ((pplR (Int.toNat s) fr (Int.toNat n) 0 0 im).2, rs bt rt, lm))))) := by
  refine cn_of (by decide) (okR G) rfl (Nat.le_of_ble_eq_true rfl) ?_
  intro M ad hMl F
  subst hMl
  have hR := h.1
  have s1 := hs.1
  have s2 := hs.2
  have sort1 := hsort.1
  have sort2 := hsort.2
  have fr1 := hfr.1
  have fr2 := hfr.2
  have n1 := hn.1
  have n2 := hn.2
  refine wp_pad 3 ?_
  show Wp M (XR G) ad Y_X9_people (pI fun x m' => (¬ (((0 : Int) ≤ s ∧ (s : Int) ≤ 3) ∧ (0 ≤ sort ∧ sort ≤ 2) ∧ (0 : Int) ≤ n ∧ (n : Int) ≤ 5) → x = -2 ∧ m' = (im, rs bt rt, lm)) ∧ ((((0 : Int) ≤ s ∧ (s : Int) ≤ 3) ∧ (0 ≤ sort ∧ sort ≤ 2) ∧ (0 : Int) ≤ n ∧ (n : Int) ≤ 5) → (im 47 0 (Int.toNat s) = 0 → x = -11 ∧ m' = (im, rs bt rt, lm)) ∧ (im 47 0 (Int.toNat s) = 1 → (im 48 0 (Int.toNat s) ≠ sort → x = -13 ∧ m' = (im, rs bt rt, lm)) ∧ (im 48 0 (Int.toNat s) = sort → x = (pplR (Int.toNat s) fr (Int.toNat n) 0 0 im).1 ∧ m' = ((pplR (Int.toNat s) fr (Int.toNat n) 0 0 im).2, rs bt rt, lm))))) 0 [some (vR 30 0), some (vI s), some (vI sort), some (vI fr), some (vI n), none, none, none] [] (im, rs bt rt, lm)
  refine q_iload_n (t := 1) F dX9_people_0 rfl rfl rfl ?_
  refine wp_callS (t := 4) [_] F dX9_people_1 k_X9_isSheet st_X9_isSheet ml_X9_421 rfl rfl (Nat.le_of_ble_eq_true rfl) (by decide) (c_X9_isSheet _ G im bt rt lm s (by constructor <;> omega)) rfl (kI ?_)
  rintro x1 m' ⟨hx1, rfl⟩
  have hx1 := if01 hx1
  refine q_if_eq (t := 7) (u := 32) F dX9_people_4 (by first | exact hR _ _ _ | (constructor <;> omega)) (by decide) rfl (fun c4 => ?_) (fun c4 => ?_)
  · refine q_bipush (t := 34) F dX9_people_32 (by decide) rfl ?_
    refine q_iret F dX9_people_34 rfl ?_
    try simp only [Int.toNat_natCast]
    first
      | exact ⟨_, rfl, fun _ => ⟨rfl, rfl⟩, fun z => absurd z (by omega)⟩
      | exact ⟨_, rfl, fun z => absurd (by omega) z, fun _ => ⟨fun _ => ⟨rfl, rfl⟩, fun z => absurd z (by (try rw [ets]); omega)⟩⟩
      | exact ⟨_, rfl, fun z => absurd (by omega) z, fun _ => ⟨fun z => absurd z (by (try rw [ets]); omega), fun _ => ⟨fun _ => ⟨rfl, rfl⟩, fun z => absurd z (by (try rw [ets]); omega)⟩⟩⟩
      | (have es := pplR_s s fr (n - k - 1) k c S
         rw [show n - k - 1 + 1 = n - k by omega, if_neg (by rw [e49]; omega), hpp] at es
         refine ⟨_, rfl, fun z => absurd (by omega) z, fun _ => ⟨fun z => absurd z (by (try rw [ets]); omega), fun _ => ⟨fun z => absurd (by (try rw [ets]); omega) z, fun _ => ?_⟩⟩⟩
         (try rw [ets])
         (try rw [etn])
         rw [es]
         exact ⟨rfl, rfl⟩)
      | (obtain rfl : k = n := by omega
         refine ⟨_, rfl, fun z => absurd (by omega) z, fun _ => ⟨fun z => absurd z (by (try rw [ets]); omega), fun _ => ⟨fun z => absurd (by (try rw [ets]); omega) z, fun _ => ?_⟩⟩⟩
         (try rw [ets])
         (try rw [etn])
         rw [← hpp, Nat.sub_self]
         exact ⟨rfl, rfl⟩)
      | omega
  · refine q_iload_n (t := 8) F dX9_people_7 rfl rfl rfl ?_
    refine q_i2l (t := 9) F dX9_people_8 (by first | exact hR _ _ _ | (constructor <;> omega)) rfl ?_
    refine q_lconst (t := 10) (x := 0) F dX9_people_9 (by decide) rfl ?_
    refine q_ldc2 (t := 13) (x := 2) F dX9_people_10 kl_X9_99 (by decide) rfl ?_
    refine wp_callS (t := 16) [_, _, _] F dX9_people_13 k_X9_in st_X9_in ml_X9_91 rfl rfl (Nat.le_of_ble_eq_true rfl) (by decide) (c_X9_in _ G _ _ _ _ _ _ _ (by constructor <;> omega) (by constructor <;> omega) (by constructor <;> omega)) rfl (kI ?_)
    rintro x13 m' ⟨hx13, rfl⟩
    have hx13 := if01 hx13
    refine q_if_eq (t := 19) (u := 32) F dX9_people_16 (by first | exact hR _ _ _ | (constructor <;> omega)) (by decide) rfl (fun c16 => ?_) (fun c16 => ?_)
    · refine q_bipush (t := 34) F dX9_people_32 (by decide) rfl ?_
      refine q_iret F dX9_people_34 rfl ?_
      try simp only [Int.toNat_natCast]
      first
        | exact ⟨_, rfl, fun _ => ⟨rfl, rfl⟩, fun z => absurd z (by omega)⟩
        | exact ⟨_, rfl, fun z => absurd (by omega) z, fun _ => ⟨fun _ => ⟨rfl, rfl⟩, fun z => absurd z (by (try rw [ets]); omega)⟩⟩
        | exact ⟨_, rfl, fun z => absurd (by omega) z, fun _ => ⟨fun z => absurd z (by (try rw [ets]); omega), fun _ => ⟨fun _ => ⟨rfl, rfl⟩, fun z => absurd z (by (try rw [ets]); omega)⟩⟩⟩
        | (have es := pplR_s s fr (n - k - 1) k c S
           rw [show n - k - 1 + 1 = n - k by omega, if_neg (by rw [e49]; omega), hpp] at es
           refine ⟨_, rfl, fun z => absurd (by omega) z, fun _ => ⟨fun z => absurd z (by (try rw [ets]); omega), fun _ => ⟨fun z => absurd (by (try rw [ets]); omega) z, fun _ => ?_⟩⟩⟩
           (try rw [ets])
           (try rw [etn])
           rw [es]
           exact ⟨rfl, rfl⟩)
        | (obtain rfl : k = n := by omega
           refine ⟨_, rfl, fun z => absurd (by omega) z, fun _ => ⟨fun z => absurd z (by (try rw [ets]); omega), fun _ => ⟨fun z => absurd (by (try rw [ets]); omega) z, fun _ => ?_⟩⟩⟩
           (try rw [ets])
           (try rw [etn])
           rw [← hpp, Nat.sub_self]
           exact ⟨rfl, rfl⟩)
        | omega
    · refine q_iload (t := 21) F dX9_people_19 rfl rfl ?_
      refine q_i2l (t := 22) F dX9_people_21 (by first | exact hR _ _ _ | (constructor <;> omega)) rfl ?_
      refine q_lconst (t := 23) (x := 0) F dX9_people_22 (by decide) rfl ?_
      refine q_ldc2 (t := 26) (x := 5) F dX9_people_23 kl_X9_123 (by decide) rfl ?_
      refine wp_callS (t := 29) [_, _, _] F dX9_people_26 k_X9_in st_X9_in ml_X9_91 rfl rfl (Nat.le_of_ble_eq_true rfl) (by decide) (c_X9_in _ G _ _ _ _ _ _ _ (by constructor <;> omega) (by constructor <;> omega) (by constructor <;> omega)) rfl (kI ?_)
      rintro x26 m' ⟨hx26, rfl⟩
      have hx26 := if01 hx26
      refine q_if_ne (t := 32) (u := 35) F dX9_people_29 (by first | exact hR _ _ _ | (constructor <;> omega)) (by decide) rfl (fun c29 => ?_) (fun c29 => ?_)
      · obtain ⟨s, rfl⟩ : ∃ j : Nat, s = (j : Int) := ⟨s.toNat, by omega⟩
        have ets : ((s : Nat) : Int).toNat = s := Int.toNat_natCast s
        have hs3 : s ≤ 3 := by omega
        have hsh := hSH s (by omega)
        refine q_aload_n (t := 36) F dX9_people_35 rfl rfl rfl ?_
        refine g_X9_68 (t := 39) F dX9_people_36 rfl rfl ?_
        refine q_iload_n (t := 40) F dX9_people_39 rfl rfl rfl ?_
        first | refine ldN_47 (t := 41) F dX9_people_40 (by omega) rfl ?_ | refine ld_47 (t := 41) F dX9_people_40 (by omega) (by omega) rfl ?_
        try simp only [up_app, row_app, scr_app, cpy_app, Nat.reduceEqDiff, Int.reduceToNat, Int.toNat_natCast, and_true, true_and, and_false, false_and, and_self, reduceIte]
        refine q_if_eq (t := 44) (u := 57) F dX9_people_41 (by exact hR _ _ _) (by decide) rfl (fun c41 => ?_) (fun c41 => ?_)
        · refine q_aload_n (t := 58) F dX9_people_57 rfl rfl rfl ?_
          refine g_X9_68 (t := 61) F dX9_people_58 rfl rfl ?_
          refine q_iload_n (t := 62) F dX9_people_61 rfl rfl rfl ?_
          first | refine ldN_47 (t := 63) F dX9_people_62 (by omega) rfl ?_ | refine ld_47 (t := 63) F dX9_people_62 (by omega) (by omega) rfl ?_
          try simp only [up_app, row_app, scr_app, cpy_app, Nat.reduceEqDiff, Int.reduceToNat, Int.toNat_natCast, and_true, true_and, and_false, false_and, and_self, reduceIte]
          refine q_if_ne (t := 66) (u := 69) F dX9_people_63 (by exact hR _ _ _) (by decide) rfl (fun c63 => ?_) (fun c63 => ?_)
          · have h47 : im 47 0 s = 1 := by omega
            have hsz := hsh.2 h47
            obtain ⟨n, rfl⟩ : ∃ j : Nat, n = (j : Int) := ⟨n.toNat, by omega⟩
            have etn : ((n : Nat) : Int).toNat = n := Int.toNat_natCast n
            refine q_iconst (t := 70) F dX9_people_69 rfl ?_
            refine q_istore (t := 72) F dX9_people_70 (by decide) rfl rfl ?_
            refine q_iconst (t := 73) F dX9_people_72 rfl ?_
            refine q_istore (t := 75) F dX9_people_73 (by decide) rfl rfl ?_
            have L75 : ∀ (fz : Nat) (k : Nat) (c : Int) (S : IM), 6 - k < fz → (k ≤ n ∧ (0 ≤ c ∧ c ≤ k) ∧ RC S ∧ S 49 0 s = im 49 0 s ∧ pplR s fr (n - k) k c S = pplR s fr n 0 0 im) → Wp M (XR G) ad Y_X9_people (pI fun x m' => (¬ (((0 : Int) ≤ s ∧ (s : Int) ≤ 3) ∧ (0 ≤ sort ∧ sort ≤ 2) ∧ (0 : Int) ≤ n ∧ (n : Int) ≤ 5) → x = -2 ∧ m' = (im, rs bt rt, lm)) ∧ ((((0 : Int) ≤ s ∧ (s : Int) ≤ 3) ∧ (0 ≤ sort ∧ sort ≤ 2) ∧ (0 : Int) ≤ n ∧ (n : Int) ≤ 5) → (im 47 0 (Int.toNat s) = 0 → x = -11 ∧ m' = (im, rs bt rt, lm)) ∧ (im 47 0 (Int.toNat s) = 1 → (im 48 0 (Int.toNat s) ≠ sort → x = -13 ∧ m' = (im, rs bt rt, lm)) ∧ (im 48 0 (Int.toNat s) = sort → x = (pplR (Int.toNat s) fr (Int.toNat n) 0 0 im).1 ∧ m' = ((pplR (Int.toNat s) fr (Int.toNat n) 0 0 im).2, rs bt rt, lm))))) 75 [some (vR 30 0), some (vI (s : Int)), some (vI sort), some (vI fr), some (vI (n : Int)), some (vI c), some (vI (k : Int)), none] [] (S, rs bt rt, lm) := by
              intro fz
              induction fz with
              | zero => intro k c S h; exact absurd h (Nat.not_lt_zero _)
              | succ fz ih =>
                have ih75 := ih
                intro k c S hmeas ⟨hk, hc, hRC, e49, hpp⟩
                refine q_iload (t := 77) F dX9_people_75 rfl rfl ?_
                refine q_iload (t := 79) F dX9_people_77 rfl rfl ?_
                refine q_icmp_ge (t := 82) (u := 158) F dX9_people_79 (by constructor <;> omega) (by constructor <;> omega) (by decide) rfl (fun c79 => ?_) (fun c79 => ?_)
                · refine q_iload (t := 160) F dX9_people_158 rfl rfl ?_
                  refine q_iret F dX9_people_160 rfl ?_
                  try simp only [Int.toNat_natCast]
                  first
                    | exact ⟨_, rfl, fun _ => ⟨rfl, rfl⟩, fun z => absurd z (by omega)⟩
                    | exact ⟨_, rfl, fun z => absurd (by omega) z, fun _ => ⟨fun _ => ⟨rfl, rfl⟩, fun z => absurd z (by (try rw [ets]); omega)⟩⟩
                    | exact ⟨_, rfl, fun z => absurd (by omega) z, fun _ => ⟨fun z => absurd z (by (try rw [ets]); omega), fun _ => ⟨fun _ => ⟨rfl, rfl⟩, fun z => absurd z (by (try rw [ets]); omega)⟩⟩⟩
                    | (have es := pplR_s s fr (n - k - 1) k c S
                       rw [show n - k - 1 + 1 = n - k by omega, if_neg (by rw [e49]; omega), hpp] at es
                       refine ⟨_, rfl, fun z => absurd (by omega) z, fun _ => ⟨fun z => absurd z (by (try rw [ets]); omega), fun _ => ⟨fun z => absurd (by (try rw [ets]); omega) z, fun _ => ?_⟩⟩⟩
                       (try rw [ets])
                       (try rw [etn])
                       rw [es]
                       exact ⟨rfl, rfl⟩)
                    | (obtain rfl : k = n := by omega
                       refine ⟨_, rfl, fun z => absurd (by omega) z, fun _ => ⟨fun z => absurd z (by (try rw [ets]); omega), fun _ => ⟨fun z => absurd (by (try rw [ets]); omega) z, fun _ => ?_⟩⟩⟩
                       (try rw [ets])
                       (try rw [etn])
                       rw [← hpp, Nat.sub_self]
                       exact ⟨rfl, rfl⟩)
                    | omega
                · refine q_iload_n (t := 83) F dX9_people_82 rfl rfl rfl ?_
                  refine q_if_lt (t := 86) (u := 103) F dX9_people_83 (by first | exact hR _ _ _ | (constructor <;> omega)) (by decide) rfl (fun c83 => ?_) (fun c83 => ?_)
                  · refine q_bipush (t := 105) F dX9_people_103 (by decide) rfl ?_
                    refine q_iret F dX9_people_105 rfl ?_
                    try simp only [Int.toNat_natCast]
                    first
                      | exact ⟨_, rfl, fun _ => ⟨rfl, rfl⟩, fun z => absurd z (by omega)⟩
                      | exact ⟨_, rfl, fun z => absurd (by omega) z, fun _ => ⟨fun _ => ⟨rfl, rfl⟩, fun z => absurd z (by (try rw [ets]); omega)⟩⟩
                      | exact ⟨_, rfl, fun z => absurd (by omega) z, fun _ => ⟨fun z => absurd z (by (try rw [ets]); omega), fun _ => ⟨fun _ => ⟨rfl, rfl⟩, fun z => absurd z (by (try rw [ets]); omega)⟩⟩⟩
                      | (have es := pplR_s s fr (n - k - 1) k c S
                         rw [show n - k - 1 + 1 = n - k by omega, if_neg (by rw [e49]; omega), hpp] at es
                         refine ⟨_, rfl, fun z => absurd (by omega) z, fun _ => ⟨fun z => absurd z (by (try rw [ets]); omega), fun _ => ⟨fun z => absurd (by (try rw [ets]); omega) z, fun _ => ?_⟩⟩⟩
                         (try rw [ets])
                         (try rw [etn])
                         rw [es]
                         exact ⟨rfl, rfl⟩)
                      | (obtain rfl : k = n := by omega
                         refine ⟨_, rfl, fun z => absurd (by omega) z, fun _ => ⟨fun z => absurd z (by (try rw [ets]); omega), fun _ => ⟨fun z => absurd (by (try rw [ets]); omega) z, fun _ => ?_⟩⟩⟩
                         (try rw [ets])
                         (try rw [etn])
                         rw [← hpp, Nat.sub_self]
                         exact ⟨rfl, rfl⟩)
                      | omega
                  · refine q_iload_n (t := 87) F dX9_people_86 rfl rfl rfl ?_
                    refine q_aload_n (t := 88) F dX9_people_87 rfl rfl rfl ?_
                    refine g_X9_75 (t := 91) F dX9_people_88 rfl rfl ?_
                    refine q_iload_n (t := 92) F dX9_people_91 rfl rfl rfl ?_
                    first | refine ldN_49 (t := 93) F dX9_people_92 (by omega) rfl ?_ | refine ld_49 (t := 93) F dX9_people_92 (by omega) (by omega) rfl ?_
                    try simp only [up_app, row_app, scr_app, cpy_app, Nat.reduceEqDiff, Int.reduceToNat, Int.toNat_natCast, and_true, true_and, and_false, false_and, and_self, reduceIte]
                    rw [e49]
                    refine q_iconst (t := 94) F dX9_people_93 rfl ?_
                    refine q_iload (t := 96) F dX9_people_94 rfl rfl ?_
                    refine q_imul (t := 97) F dX9_people_96 rfl ?_
                    refine q_isub (t := 98) F dX9_people_97 rfl ?_
                    refine q_iconst (t := 99) F dX9_people_98 rfl ?_
                    refine q_isub (t := 100) F dX9_people_99 rfl ?_
                    refine q_icmp_le (t := 103) (u := 106) F dX9_people_100 (by exact hfr) (by constructor <;> omega) (by decide) rfl (fun c100 => ?_) (fun c100 => ?_)
                    · have es := pplR_s s fr (n - k - 1) k c S
                      rw [show n - k - 1 + 1 = n - k by omega, if_pos (by rw [e49]; omega)] at es
                      refine q_bipush (t := 108) F dX9_people_106 (by decide) rfl ?_
                      refine q_iload_n (t := 109) F dX9_people_108 rfl rfl rfl ?_
                      refine q_imul (t := 110) F dX9_people_109 rfl ?_
                      refine q_iload_n (t := 111) F dX9_people_110 rfl rfl rfl ?_
                      refine q_iadd (t := 112) F dX9_people_111 rfl ?_
                      refine q_iconst (t := 113) F dX9_people_112 rfl ?_
                      refine q_iload (t := 115) F dX9_people_113 rfl rfl ?_
                      refine q_imul (t := 116) F dX9_people_115 rfl ?_
                      refine q_iadd (t := 117) F dX9_people_116 rfl ?_
                      rw [show (40 : Int) * (s : Int) + fr + 2 * (k : Int) = ((40 * s + fr.toNat + 2 * k : Nat) : Int) by omega]
                      refine q_istore (t := 119) F dX9_people_117 (by decide) rfl rfl ?_
                      refine q_iload (t := 121) F dX9_people_119 rfl rfl ?_
                      refine q_aload_n (t := 122) F dX9_people_121 rfl rfl rfl ?_
                      refine q_aload_n (t := 123) F dX9_people_122 rfl rfl rfl ?_
                      refine g_X9_78 (t := 126) F dX9_people_123 rfl rfl ?_
                      refine q_iload (t := 128) F dX9_people_126 rfl rfl ?_
                      first | refine ldN_50 (t := 129) F dX9_people_128 (by omega) rfl ?_ | refine ld_50 (t := 129) F dX9_people_128 (by omega) (by omega) rfl ?_
                      try simp only [up_app, row_app, scr_app, cpy_app, Nat.reduceEqDiff, Int.reduceToNat, Int.toNat_natCast, and_true, true_and, and_false, false_and, and_self, reduceIte]
                      refine q_aload_n (t := 130) F dX9_people_129 rfl rfl rfl ?_
                      refine g_X9_78 (t := 133) F dX9_people_130 rfl rfl ?_
                      refine q_iload (t := 135) F dX9_people_133 rfl rfl ?_
                      refine q_iconst (t := 136) F dX9_people_135 rfl ?_
                      refine q_iadd (t := 137) F dX9_people_136 rfl ?_
                      rw [show ((40 * s + fr.toNat + 2 * k : Nat) : Int) + 1 = ((40 * s + fr.toNat + 2 * k + 1 : Nat) : Int) by omega]
                      first | refine ldN_50 (t := 138) F dX9_people_137 (by omega) rfl ?_ | refine ld_50 (t := 138) F dX9_people_137 (by omega) (by omega) rfl ?_
                      try simp only [up_app, row_app, scr_app, cpy_app, Nat.reduceEqDiff, Int.reduceToNat, Int.toNat_natCast, and_true, true_and, and_false, false_and, and_self, reduceIte]
                      refine wp_callV (t := 141) [_, _] F dX9_people_138 k_X9_man v_X9_man ml_X9_473 rfl rfl rfl rfl (Nat.le_of_ble_eq_true rfl) (by decide) (m_30 (by omega)) (c_manR _ G S bt rt lm hRC _ _ (by exact hRC.1 _ _ _) (by exact hRC.1 _ _ _)) rfl (kI ?_)
                      rintro x138 m' ⟨hx138, rfl⟩
                      have hmi := mnA_in hRC (S 50 0 (40 * s + fr.toNat + 2 * k)) (S 50 0 (40 * s + fr.toNat + 2 * k + 1))
                      rw [← hx138] at hmi
                      have hRC2 := RC_mn hRC (S 50 0 (40 * s + fr.toNat + 2 * k)) (S 50 0 (40 * s + fr.toNat + 2 * k + 1))
                      refine q_if_lt (t := 144) (u := 148) F dX9_people_141 (by constructor <;> omega) (by decide) rfl (fun c141 => ?_) (fun c141 => ?_)
                      · refine q_iconst (t := 149) F dX9_people_148 rfl ?_
                        refine q_iadd (t := 150) F dX9_people_149 rfl ?_
                        refine q_istore (t := 152) F dX9_people_150 (by decide) rfl rfl ?_
                        refine q_iinc (t := 155) F dX9_people_152 rfl (by decide) rfl rfl ?_
                        refine q_goto (t := 75) F dX9_people_155 (by decide) ?_
                        refine wp_less 7 ?_
                        rw [show (k : Int) + 1 = ((k + 1 : Nat) : Int) by omega]
                        rw [← hx138] at es
                        first
                          | (exfalso; omega)
                          | (rw [if_pos (by omega)] at es
                             exact ih75 (k + 1) (c + 1) _ (by omega) ⟨by omega, by omega, hRC2, (mnI_o S _ _ (by omega) (by omega)).trans e49, by rw [show n - (k + 1) = n - k - 1 by omega, ← es]; exact hpp⟩)
                          | (rw [if_neg (by omega)] at es
                             rw [Int.add_zero]
                             exact ih75 (k + 1) c _ (by omega) ⟨by omega, by omega, hRC2, (mnI_o S _ _ (by omega) (by omega)).trans e49, by rw [show n - (k + 1) = n - k - 1 by omega, ← es]; exact hpp⟩)
                          | omega
                      · refine q_iconst (t := 145) F dX9_people_144 rfl ?_
                        refine q_goto (t := 149) F dX9_people_145 (by decide) ?_
                        refine q_iadd (t := 150) F dX9_people_149 rfl ?_
                        refine q_istore (t := 152) F dX9_people_150 (by decide) rfl rfl ?_
                        refine q_iinc (t := 155) F dX9_people_152 rfl (by decide) rfl rfl ?_
                        refine q_goto (t := 75) F dX9_people_155 (by decide) ?_
                        refine wp_less 7 ?_
                        rw [show (k : Int) + 1 = ((k + 1 : Nat) : Int) by omega]
                        rw [← hx138] at es
                        first
                          | (exfalso; omega)
                          | (rw [if_pos (by omega)] at es
                             exact ih75 (k + 1) (c + 1) _ (by omega) ⟨by omega, by omega, hRC2, (mnI_o S _ _ (by omega) (by omega)).trans e49, by rw [show n - (k + 1) = n - k - 1 by omega, ← es]; exact hpp⟩)
                          | (rw [if_neg (by omega)] at es
                             rw [Int.add_zero]
                             exact ih75 (k + 1) c _ (by omega) ⟨by omega, by omega, hRC2, (mnI_o S _ _ (by omega) (by omega)).trans e49, by rw [show n - (k + 1) = n - k - 1 by omega, ← es]; exact hpp⟩)
                          | omega
                    · refine q_bipush (t := 105) F dX9_people_103 (by decide) rfl ?_
                      refine q_iret F dX9_people_105 rfl ?_
                      try simp only [Int.toNat_natCast]
                      first
                        | exact ⟨_, rfl, fun _ => ⟨rfl, rfl⟩, fun z => absurd z (by omega)⟩
                        | exact ⟨_, rfl, fun z => absurd (by omega) z, fun _ => ⟨fun _ => ⟨rfl, rfl⟩, fun z => absurd z (by (try rw [ets]); omega)⟩⟩
                        | exact ⟨_, rfl, fun z => absurd (by omega) z, fun _ => ⟨fun z => absurd z (by (try rw [ets]); omega), fun _ => ⟨fun _ => ⟨rfl, rfl⟩, fun z => absurd z (by (try rw [ets]); omega)⟩⟩⟩
                        | (have es := pplR_s s fr (n - k - 1) k c S
                           rw [show n - k - 1 + 1 = n - k by omega, if_neg (by rw [e49]; omega), hpp] at es
                           refine ⟨_, rfl, fun z => absurd (by omega) z, fun _ => ⟨fun z => absurd z (by (try rw [ets]); omega), fun _ => ⟨fun z => absurd (by (try rw [ets]); omega) z, fun _ => ?_⟩⟩⟩
                           (try rw [ets])
                           (try rw [etn])
                           rw [es]
                           exact ⟨rfl, rfl⟩)
                        | (obtain rfl : k = n := by omega
                           refine ⟨_, rfl, fun z => absurd (by omega) z, fun _ => ⟨fun z => absurd z (by (try rw [ets]); omega), fun _ => ⟨fun z => absurd (by (try rw [ets]); omega) z, fun _ => ?_⟩⟩⟩
                           (try rw [ets])
                           (try rw [etn])
                           rw [← hpp, Nat.sub_self]
                           exact ⟨rfl, rfl⟩)
                        | omega
            exact L75 _ 0 0 im (Nat.lt_succ_self _) ⟨by omega, by omega, h, rfl, rfl⟩
          · refine q_bipush (t := 68) F dX9_people_66 (by decide) rfl ?_
            refine q_iret F dX9_people_68 rfl ?_
            try simp only [Int.toNat_natCast]
            first
              | exact ⟨_, rfl, fun _ => ⟨rfl, rfl⟩, fun z => absurd z (by omega)⟩
              | exact ⟨_, rfl, fun z => absurd (by omega) z, fun _ => ⟨fun _ => ⟨rfl, rfl⟩, fun z => absurd z (by (try rw [ets]); omega)⟩⟩
              | exact ⟨_, rfl, fun z => absurd (by omega) z, fun _ => ⟨fun z => absurd z (by (try rw [ets]); omega), fun _ => ⟨fun _ => ⟨rfl, rfl⟩, fun z => absurd z (by (try rw [ets]); omega)⟩⟩⟩
              | (have es := pplR_s s fr (n - k - 1) k c S
                 rw [show n - k - 1 + 1 = n - k by omega, if_neg (by rw [e49]; omega), hpp] at es
                 refine ⟨_, rfl, fun z => absurd (by omega) z, fun _ => ⟨fun z => absurd z (by (try rw [ets]); omega), fun _ => ⟨fun z => absurd (by (try rw [ets]); omega) z, fun _ => ?_⟩⟩⟩
                 (try rw [ets])
                 (try rw [etn])
                 rw [es]
                 exact ⟨rfl, rfl⟩)
              | (obtain rfl : k = n := by omega
                 refine ⟨_, rfl, fun z => absurd (by omega) z, fun _ => ⟨fun z => absurd z (by (try rw [ets]); omega), fun _ => ⟨fun z => absurd (by (try rw [ets]); omega) z, fun _ => ?_⟩⟩⟩
                 (try rw [ets])
                 (try rw [etn])
                 rw [← hpp, Nat.sub_self]
                 exact ⟨rfl, rfl⟩)
              | omega
        · refine q_aload_n (t := 45) F dX9_people_44 rfl rfl rfl ?_
          refine g_X9_72 (t := 48) F dX9_people_45 rfl rfl ?_
          refine q_iload_n (t := 49) F dX9_people_48 rfl rfl rfl ?_
          first | refine ldN_48 (t := 50) F dX9_people_49 (by omega) rfl ?_ | refine ld_48 (t := 50) F dX9_people_49 (by omega) (by omega) rfl ?_
          try simp only [up_app, row_app, scr_app, cpy_app, Nat.reduceEqDiff, Int.reduceToNat, Int.toNat_natCast, and_true, true_and, and_false, false_and, and_self, reduceIte]
          refine q_iload_n (t := 51) F dX9_people_50 rfl rfl rfl ?_
          refine q_icmp_eq (t := 54) (u := 57) F dX9_people_51 (by exact hR _ _ _) (by exact hsort) (by decide) rfl (fun c51 => ?_) (fun c51 => ?_)
          · refine q_aload_n (t := 58) F dX9_people_57 rfl rfl rfl ?_
            refine g_X9_68 (t := 61) F dX9_people_58 rfl rfl ?_
            refine q_iload_n (t := 62) F dX9_people_61 rfl rfl rfl ?_
            first | refine ldN_47 (t := 63) F dX9_people_62 (by omega) rfl ?_ | refine ld_47 (t := 63) F dX9_people_62 (by omega) (by omega) rfl ?_
            try simp only [up_app, row_app, scr_app, cpy_app, Nat.reduceEqDiff, Int.reduceToNat, Int.toNat_natCast, and_true, true_and, and_false, false_and, and_self, reduceIte]
            refine q_if_ne (t := 66) (u := 69) F dX9_people_63 (by exact hR _ _ _) (by decide) rfl (fun c63 => ?_) (fun c63 => ?_)
            · have h47 : im 47 0 s = 1 := by omega
              have hsz := hsh.2 h47
              obtain ⟨n, rfl⟩ : ∃ j : Nat, n = (j : Int) := ⟨n.toNat, by omega⟩
              have etn : ((n : Nat) : Int).toNat = n := Int.toNat_natCast n
              refine q_iconst (t := 70) F dX9_people_69 rfl ?_
              refine q_istore (t := 72) F dX9_people_70 (by decide) rfl rfl ?_
              refine q_iconst (t := 73) F dX9_people_72 rfl ?_
              refine q_istore (t := 75) F dX9_people_73 (by decide) rfl rfl ?_
              have L75 : ∀ (fz : Nat) (k : Nat) (c : Int) (S : IM), 6 - k < fz → (k ≤ n ∧ (0 ≤ c ∧ c ≤ k) ∧ RC S ∧ S 49 0 s = im 49 0 s ∧ pplR s fr (n - k) k c S = pplR s fr n 0 0 im) → Wp M (XR G) ad Y_X9_people (pI fun x m' => (¬ (((0 : Int) ≤ s ∧ (s : Int) ≤ 3) ∧ (0 ≤ sort ∧ sort ≤ 2) ∧ (0 : Int) ≤ n ∧ (n : Int) ≤ 5) → x = -2 ∧ m' = (im, rs bt rt, lm)) ∧ ((((0 : Int) ≤ s ∧ (s : Int) ≤ 3) ∧ (0 ≤ sort ∧ sort ≤ 2) ∧ (0 : Int) ≤ n ∧ (n : Int) ≤ 5) → (im 47 0 (Int.toNat s) = 0 → x = -11 ∧ m' = (im, rs bt rt, lm)) ∧ (im 47 0 (Int.toNat s) = 1 → (im 48 0 (Int.toNat s) ≠ sort → x = -13 ∧ m' = (im, rs bt rt, lm)) ∧ (im 48 0 (Int.toNat s) = sort → x = (pplR (Int.toNat s) fr (Int.toNat n) 0 0 im).1 ∧ m' = ((pplR (Int.toNat s) fr (Int.toNat n) 0 0 im).2, rs bt rt, lm))))) 75 [some (vR 30 0), some (vI (s : Int)), some (vI sort), some (vI fr), some (vI (n : Int)), some (vI c), some (vI (k : Int)), none] [] (S, rs bt rt, lm) := by
                intro fz
                induction fz with
                | zero => intro k c S h; exact absurd h (Nat.not_lt_zero _)
                | succ fz ih =>
                  have ih75 := ih
                  intro k c S hmeas ⟨hk, hc, hRC, e49, hpp⟩
                  refine q_iload (t := 77) F dX9_people_75 rfl rfl ?_
                  refine q_iload (t := 79) F dX9_people_77 rfl rfl ?_
                  refine q_icmp_ge (t := 82) (u := 158) F dX9_people_79 (by constructor <;> omega) (by constructor <;> omega) (by decide) rfl (fun c79 => ?_) (fun c79 => ?_)
                  · refine q_iload (t := 160) F dX9_people_158 rfl rfl ?_
                    refine q_iret F dX9_people_160 rfl ?_
                    try simp only [Int.toNat_natCast]
                    first
                      | exact ⟨_, rfl, fun _ => ⟨rfl, rfl⟩, fun z => absurd z (by omega)⟩
                      | exact ⟨_, rfl, fun z => absurd (by omega) z, fun _ => ⟨fun _ => ⟨rfl, rfl⟩, fun z => absurd z (by (try rw [ets]); omega)⟩⟩
                      | exact ⟨_, rfl, fun z => absurd (by omega) z, fun _ => ⟨fun z => absurd z (by (try rw [ets]); omega), fun _ => ⟨fun _ => ⟨rfl, rfl⟩, fun z => absurd z (by (try rw [ets]); omega)⟩⟩⟩
                      | (have es := pplR_s s fr (n - k - 1) k c S
                         rw [show n - k - 1 + 1 = n - k by omega, if_neg (by rw [e49]; omega), hpp] at es
                         refine ⟨_, rfl, fun z => absurd (by omega) z, fun _ => ⟨fun z => absurd z (by (try rw [ets]); omega), fun _ => ⟨fun z => absurd (by (try rw [ets]); omega) z, fun _ => ?_⟩⟩⟩
                         (try rw [ets])
                         (try rw [etn])
                         rw [es]
                         exact ⟨rfl, rfl⟩)
                      | (obtain rfl : k = n := by omega
                         refine ⟨_, rfl, fun z => absurd (by omega) z, fun _ => ⟨fun z => absurd z (by (try rw [ets]); omega), fun _ => ⟨fun z => absurd (by (try rw [ets]); omega) z, fun _ => ?_⟩⟩⟩
                         (try rw [ets])
                         (try rw [etn])
                         rw [← hpp, Nat.sub_self]
                         exact ⟨rfl, rfl⟩)
                      | omega
                  · refine q_iload_n (t := 83) F dX9_people_82 rfl rfl rfl ?_
                    refine q_if_lt (t := 86) (u := 103) F dX9_people_83 (by first | exact hR _ _ _ | (constructor <;> omega)) (by decide) rfl (fun c83 => ?_) (fun c83 => ?_)
                    · refine q_bipush (t := 105) F dX9_people_103 (by decide) rfl ?_
                      refine q_iret F dX9_people_105 rfl ?_
                      try simp only [Int.toNat_natCast]
                      first
                        | exact ⟨_, rfl, fun _ => ⟨rfl, rfl⟩, fun z => absurd z (by omega)⟩
                        | exact ⟨_, rfl, fun z => absurd (by omega) z, fun _ => ⟨fun _ => ⟨rfl, rfl⟩, fun z => absurd z (by (try rw [ets]); omega)⟩⟩
                        | exact ⟨_, rfl, fun z => absurd (by omega) z, fun _ => ⟨fun z => absurd z (by (try rw [ets]); omega), fun _ => ⟨fun _ => ⟨rfl, rfl⟩, fun z => absurd z (by (try rw [ets]); omega)⟩⟩⟩
                        | (have es := pplR_s s fr (n - k - 1) k c S
                           rw [show n - k - 1 + 1 = n - k by omega, if_neg (by rw [e49]; omega), hpp] at es
                           refine ⟨_, rfl, fun z => absurd (by omega) z, fun _ => ⟨fun z => absurd z (by (try rw [ets]); omega), fun _ => ⟨fun z => absurd (by (try rw [ets]); omega) z, fun _ => ?_⟩⟩⟩
                           (try rw [ets])
                           (try rw [etn])
                           rw [es]
                           exact ⟨rfl, rfl⟩)
                        | (obtain rfl : k = n := by omega
                           refine ⟨_, rfl, fun z => absurd (by omega) z, fun _ => ⟨fun z => absurd z (by (try rw [ets]); omega), fun _ => ⟨fun z => absurd (by (try rw [ets]); omega) z, fun _ => ?_⟩⟩⟩
                           (try rw [ets])
                           (try rw [etn])
                           rw [← hpp, Nat.sub_self]
                           exact ⟨rfl, rfl⟩)
                        | omega
                    · refine q_iload_n (t := 87) F dX9_people_86 rfl rfl rfl ?_
                      refine q_aload_n (t := 88) F dX9_people_87 rfl rfl rfl ?_
                      refine g_X9_75 (t := 91) F dX9_people_88 rfl rfl ?_
                      refine q_iload_n (t := 92) F dX9_people_91 rfl rfl rfl ?_
                      first | refine ldN_49 (t := 93) F dX9_people_92 (by omega) rfl ?_ | refine ld_49 (t := 93) F dX9_people_92 (by omega) (by omega) rfl ?_
                      try simp only [up_app, row_app, scr_app, cpy_app, Nat.reduceEqDiff, Int.reduceToNat, Int.toNat_natCast, and_true, true_and, and_false, false_and, and_self, reduceIte]
                      rw [e49]
                      refine q_iconst (t := 94) F dX9_people_93 rfl ?_
                      refine q_iload (t := 96) F dX9_people_94 rfl rfl ?_
                      refine q_imul (t := 97) F dX9_people_96 rfl ?_
                      refine q_isub (t := 98) F dX9_people_97 rfl ?_
                      refine q_iconst (t := 99) F dX9_people_98 rfl ?_
                      refine q_isub (t := 100) F dX9_people_99 rfl ?_
                      refine q_icmp_le (t := 103) (u := 106) F dX9_people_100 (by exact hfr) (by constructor <;> omega) (by decide) rfl (fun c100 => ?_) (fun c100 => ?_)
                      · have es := pplR_s s fr (n - k - 1) k c S
                        rw [show n - k - 1 + 1 = n - k by omega, if_pos (by rw [e49]; omega)] at es
                        refine q_bipush (t := 108) F dX9_people_106 (by decide) rfl ?_
                        refine q_iload_n (t := 109) F dX9_people_108 rfl rfl rfl ?_
                        refine q_imul (t := 110) F dX9_people_109 rfl ?_
                        refine q_iload_n (t := 111) F dX9_people_110 rfl rfl rfl ?_
                        refine q_iadd (t := 112) F dX9_people_111 rfl ?_
                        refine q_iconst (t := 113) F dX9_people_112 rfl ?_
                        refine q_iload (t := 115) F dX9_people_113 rfl rfl ?_
                        refine q_imul (t := 116) F dX9_people_115 rfl ?_
                        refine q_iadd (t := 117) F dX9_people_116 rfl ?_
                        rw [show (40 : Int) * (s : Int) + fr + 2 * (k : Int) = ((40 * s + fr.toNat + 2 * k : Nat) : Int) by omega]
                        refine q_istore (t := 119) F dX9_people_117 (by decide) rfl rfl ?_
                        refine q_iload (t := 121) F dX9_people_119 rfl rfl ?_
                        refine q_aload_n (t := 122) F dX9_people_121 rfl rfl rfl ?_
                        refine q_aload_n (t := 123) F dX9_people_122 rfl rfl rfl ?_
                        refine g_X9_78 (t := 126) F dX9_people_123 rfl rfl ?_
                        refine q_iload (t := 128) F dX9_people_126 rfl rfl ?_
                        first | refine ldN_50 (t := 129) F dX9_people_128 (by omega) rfl ?_ | refine ld_50 (t := 129) F dX9_people_128 (by omega) (by omega) rfl ?_
                        try simp only [up_app, row_app, scr_app, cpy_app, Nat.reduceEqDiff, Int.reduceToNat, Int.toNat_natCast, and_true, true_and, and_false, false_and, and_self, reduceIte]
                        refine q_aload_n (t := 130) F dX9_people_129 rfl rfl rfl ?_
                        refine g_X9_78 (t := 133) F dX9_people_130 rfl rfl ?_
                        refine q_iload (t := 135) F dX9_people_133 rfl rfl ?_
                        refine q_iconst (t := 136) F dX9_people_135 rfl ?_
                        refine q_iadd (t := 137) F dX9_people_136 rfl ?_
                        rw [show ((40 * s + fr.toNat + 2 * k : Nat) : Int) + 1 = ((40 * s + fr.toNat + 2 * k + 1 : Nat) : Int) by omega]
                        first | refine ldN_50 (t := 138) F dX9_people_137 (by omega) rfl ?_ | refine ld_50 (t := 138) F dX9_people_137 (by omega) (by omega) rfl ?_
                        try simp only [up_app, row_app, scr_app, cpy_app, Nat.reduceEqDiff, Int.reduceToNat, Int.toNat_natCast, and_true, true_and, and_false, false_and, and_self, reduceIte]
                        refine wp_callV (t := 141) [_, _] F dX9_people_138 k_X9_man v_X9_man ml_X9_473 rfl rfl rfl rfl (Nat.le_of_ble_eq_true rfl) (by decide) (m_30 (by omega)) (c_manR _ G S bt rt lm hRC _ _ (by exact hRC.1 _ _ _) (by exact hRC.1 _ _ _)) rfl (kI ?_)
                        rintro x138 m' ⟨hx138, rfl⟩
                        have hmi := mnA_in hRC (S 50 0 (40 * s + fr.toNat + 2 * k)) (S 50 0 (40 * s + fr.toNat + 2 * k + 1))
                        rw [← hx138] at hmi
                        have hRC2 := RC_mn hRC (S 50 0 (40 * s + fr.toNat + 2 * k)) (S 50 0 (40 * s + fr.toNat + 2 * k + 1))
                        refine q_if_lt (t := 144) (u := 148) F dX9_people_141 (by constructor <;> omega) (by decide) rfl (fun c141 => ?_) (fun c141 => ?_)
                        · refine q_iconst (t := 149) F dX9_people_148 rfl ?_
                          refine q_iadd (t := 150) F dX9_people_149 rfl ?_
                          refine q_istore (t := 152) F dX9_people_150 (by decide) rfl rfl ?_
                          refine q_iinc (t := 155) F dX9_people_152 rfl (by decide) rfl rfl ?_
                          refine q_goto (t := 75) F dX9_people_155 (by decide) ?_
                          refine wp_less 7 ?_
                          rw [show (k : Int) + 1 = ((k + 1 : Nat) : Int) by omega]
                          rw [← hx138] at es
                          first
                            | (exfalso; omega)
                            | (rw [if_pos (by omega)] at es
                               exact ih75 (k + 1) (c + 1) _ (by omega) ⟨by omega, by omega, hRC2, (mnI_o S _ _ (by omega) (by omega)).trans e49, by rw [show n - (k + 1) = n - k - 1 by omega, ← es]; exact hpp⟩)
                            | (rw [if_neg (by omega)] at es
                               rw [Int.add_zero]
                               exact ih75 (k + 1) c _ (by omega) ⟨by omega, by omega, hRC2, (mnI_o S _ _ (by omega) (by omega)).trans e49, by rw [show n - (k + 1) = n - k - 1 by omega, ← es]; exact hpp⟩)
                            | omega
                        · refine q_iconst (t := 145) F dX9_people_144 rfl ?_
                          refine q_goto (t := 149) F dX9_people_145 (by decide) ?_
                          refine q_iadd (t := 150) F dX9_people_149 rfl ?_
                          refine q_istore (t := 152) F dX9_people_150 (by decide) rfl rfl ?_
                          refine q_iinc (t := 155) F dX9_people_152 rfl (by decide) rfl rfl ?_
                          refine q_goto (t := 75) F dX9_people_155 (by decide) ?_
                          refine wp_less 7 ?_
                          rw [show (k : Int) + 1 = ((k + 1 : Nat) : Int) by omega]
                          rw [← hx138] at es
                          first
                            | (exfalso; omega)
                            | (rw [if_pos (by omega)] at es
                               exact ih75 (k + 1) (c + 1) _ (by omega) ⟨by omega, by omega, hRC2, (mnI_o S _ _ (by omega) (by omega)).trans e49, by rw [show n - (k + 1) = n - k - 1 by omega, ← es]; exact hpp⟩)
                            | (rw [if_neg (by omega)] at es
                               rw [Int.add_zero]
                               exact ih75 (k + 1) c _ (by omega) ⟨by omega, by omega, hRC2, (mnI_o S _ _ (by omega) (by omega)).trans e49, by rw [show n - (k + 1) = n - k - 1 by omega, ← es]; exact hpp⟩)
                            | omega
                      · refine q_bipush (t := 105) F dX9_people_103 (by decide) rfl ?_
                        refine q_iret F dX9_people_105 rfl ?_
                        try simp only [Int.toNat_natCast]
                        first
                          | exact ⟨_, rfl, fun _ => ⟨rfl, rfl⟩, fun z => absurd z (by omega)⟩
                          | exact ⟨_, rfl, fun z => absurd (by omega) z, fun _ => ⟨fun _ => ⟨rfl, rfl⟩, fun z => absurd z (by (try rw [ets]); omega)⟩⟩
                          | exact ⟨_, rfl, fun z => absurd (by omega) z, fun _ => ⟨fun z => absurd z (by (try rw [ets]); omega), fun _ => ⟨fun _ => ⟨rfl, rfl⟩, fun z => absurd z (by (try rw [ets]); omega)⟩⟩⟩
                          | (have es := pplR_s s fr (n - k - 1) k c S
                             rw [show n - k - 1 + 1 = n - k by omega, if_neg (by rw [e49]; omega), hpp] at es
                             refine ⟨_, rfl, fun z => absurd (by omega) z, fun _ => ⟨fun z => absurd z (by (try rw [ets]); omega), fun _ => ⟨fun z => absurd (by (try rw [ets]); omega) z, fun _ => ?_⟩⟩⟩
                             (try rw [ets])
                             (try rw [etn])
                             rw [es]
                             exact ⟨rfl, rfl⟩)
                          | (obtain rfl : k = n := by omega
                             refine ⟨_, rfl, fun z => absurd (by omega) z, fun _ => ⟨fun z => absurd z (by (try rw [ets]); omega), fun _ => ⟨fun z => absurd (by (try rw [ets]); omega) z, fun _ => ?_⟩⟩⟩
                             (try rw [ets])
                             (try rw [etn])
                             rw [← hpp, Nat.sub_self]
                             exact ⟨rfl, rfl⟩)
                          | omega
              exact L75 _ 0 0 im (Nat.lt_succ_self _) ⟨by omega, by omega, h, rfl, rfl⟩
            · refine q_bipush (t := 68) F dX9_people_66 (by decide) rfl ?_
              refine q_iret F dX9_people_68 rfl ?_
              try simp only [Int.toNat_natCast]
              first
                | exact ⟨_, rfl, fun _ => ⟨rfl, rfl⟩, fun z => absurd z (by omega)⟩
                | exact ⟨_, rfl, fun z => absurd (by omega) z, fun _ => ⟨fun _ => ⟨rfl, rfl⟩, fun z => absurd z (by (try rw [ets]); omega)⟩⟩
                | exact ⟨_, rfl, fun z => absurd (by omega) z, fun _ => ⟨fun z => absurd z (by (try rw [ets]); omega), fun _ => ⟨fun _ => ⟨rfl, rfl⟩, fun z => absurd z (by (try rw [ets]); omega)⟩⟩⟩
                | (have es := pplR_s s fr (n - k - 1) k c S
                   rw [show n - k - 1 + 1 = n - k by omega, if_neg (by rw [e49]; omega), hpp] at es
                   refine ⟨_, rfl, fun z => absurd (by omega) z, fun _ => ⟨fun z => absurd z (by (try rw [ets]); omega), fun _ => ⟨fun z => absurd (by (try rw [ets]); omega) z, fun _ => ?_⟩⟩⟩
                   (try rw [ets])
                   (try rw [etn])
                   rw [es]
                   exact ⟨rfl, rfl⟩)
                | (obtain rfl : k = n := by omega
                   refine ⟨_, rfl, fun z => absurd (by omega) z, fun _ => ⟨fun z => absurd z (by (try rw [ets]); omega), fun _ => ⟨fun z => absurd (by (try rw [ets]); omega) z, fun _ => ?_⟩⟩⟩
                   (try rw [ets])
                   (try rw [etn])
                   rw [← hpp, Nat.sub_self]
                   exact ⟨rfl, rfl⟩)
                | omega
          · refine q_bipush (t := 56) F dX9_people_54 (by decide) rfl ?_
            refine q_iret F dX9_people_56 rfl ?_
            try simp only [Int.toNat_natCast]
            first
              | exact ⟨_, rfl, fun _ => ⟨rfl, rfl⟩, fun z => absurd z (by omega)⟩
              | exact ⟨_, rfl, fun z => absurd (by omega) z, fun _ => ⟨fun _ => ⟨rfl, rfl⟩, fun z => absurd z (by (try rw [ets]); omega)⟩⟩
              | exact ⟨_, rfl, fun z => absurd (by omega) z, fun _ => ⟨fun z => absurd z (by (try rw [ets]); omega), fun _ => ⟨fun _ => ⟨rfl, rfl⟩, fun z => absurd z (by (try rw [ets]); omega)⟩⟩⟩
              | (have es := pplR_s s fr (n - k - 1) k c S
                 rw [show n - k - 1 + 1 = n - k by omega, if_neg (by rw [e49]; omega), hpp] at es
                 refine ⟨_, rfl, fun z => absurd (by omega) z, fun _ => ⟨fun z => absurd z (by (try rw [ets]); omega), fun _ => ⟨fun z => absurd (by (try rw [ets]); omega) z, fun _ => ?_⟩⟩⟩
                 (try rw [ets])
                 (try rw [etn])
                 rw [es]
                 exact ⟨rfl, rfl⟩)
              | (obtain rfl : k = n := by omega
                 refine ⟨_, rfl, fun z => absurd (by omega) z, fun _ => ⟨fun z => absurd z (by (try rw [ets]); omega), fun _ => ⟨fun z => absurd (by (try rw [ets]); omega) z, fun _ => ?_⟩⟩⟩
                 (try rw [ets])
                 (try rw [etn])
                 rw [← hpp, Nat.sub_self]
                 exact ⟨rfl, rfl⟩)
              | omega
      · refine q_bipush (t := 34) F dX9_people_32 (by decide) rfl ?_
        refine q_iret F dX9_people_34 rfl ?_
        try simp only [Int.toNat_natCast]
        first
          | exact ⟨_, rfl, fun _ => ⟨rfl, rfl⟩, fun z => absurd z (by omega)⟩
          | exact ⟨_, rfl, fun z => absurd (by omega) z, fun _ => ⟨fun _ => ⟨rfl, rfl⟩, fun z => absurd z (by (try rw [ets]); omega)⟩⟩
          | exact ⟨_, rfl, fun z => absurd (by omega) z, fun _ => ⟨fun z => absurd z (by (try rw [ets]); omega), fun _ => ⟨fun _ => ⟨rfl, rfl⟩, fun z => absurd z (by (try rw [ets]); omega)⟩⟩⟩
          | (have es := pplR_s s fr (n - k - 1) k c S
             rw [show n - k - 1 + 1 = n - k by omega, if_neg (by rw [e49]; omega), hpp] at es
             refine ⟨_, rfl, fun z => absurd (by omega) z, fun _ => ⟨fun z => absurd z (by (try rw [ets]); omega), fun _ => ⟨fun z => absurd (by (try rw [ets]); omega) z, fun _ => ?_⟩⟩⟩
             (try rw [ets])
             (try rw [etn])
             rw [es]
             exact ⟨rfl, rfl⟩)
          | (obtain rfl : k = n := by omega
             refine ⟨_, rfl, fun z => absurd (by omega) z, fun _ => ⟨fun z => absurd z (by (try rw [ets]); omega), fun _ => ⟨fun z => absurd (by (try rw [ets]); omega) z, fun _ => ?_⟩⟩⟩
             (try rw [ets])
             (try rw [etn])
             rw [← hpp, Nat.sub_self]
             exact ⟨rfl, rfl⟩)
          | omega

theorem ab_lt {x : Int} (h0 : 0 ≤ x) (h5 : x ≤ 5) : -1 ≤ aboveK x ∧ aboveK x < x ∨ x = 0 ∧ aboveK x = -1 := by
  unfold aboveK
  (repeat' split) <;> omega
theorem uk_s {k x : Int} (k0 : 0 ≤ k) (k5 : k ≤ 5) (x0 : 0 ≤ x) (x5 : x ≤ 5) (h : x ≠ k) : underK k 6 x = underK k 6 (aboveK x) := by
  rcases (show k = 0 ∨ k = 1 ∨ k = 2 ∨ k = 3 ∨ k = 4 ∨ k = 5 by omega) with rfl | rfl | rfl | rfl | rfl | rfl <;> rcases (show x = 0 ∨ x = 1 ∨ x = 2 ∨ x = 3 ∨ x = 4 ∨ x = 5 by omega) with rfl | rfl | rfl | rfl | rfl | rfl <;> first | exact absurd rfl h | decide
theorem uk_e {k : Int} (k0 : 0 ≤ k) (k5 : k ≤ 5) : underK k 6 k = 1 ∧ underK k 6 (-1) = 0 := by
  rcases (show k = 0 ∨ k = 1 ∨ k = 2 ∨ k = 3 ∨ k = 4 ∨ k = 5 by omega) with rfl | rfl | rfl | rfl | rfl | rfl <;> decide

set_option maxHeartbeats 4000000 in
theorem c_X9_over (l : Launch) (G : GS) (im : IM) (bt rt : Nat) (lm : IM) (x : Int) (x0 : 0 ≤ x) (x5 : x ≤ 5) : Cn l (XR G) yX9_over Y_X9_over [vI x] (im, rs bt rt, lm) (pI fun y m' => y = aboveK x ∧ m' = (im, rs bt rt, lm)) := by
  refine cn_of (by decide) (okR G) rfl (Nat.le_of_ble_eq_true rfl) ?_
  intro M ad hMl F
  subst hMl
  refine wp_pad 0 ?_
  show Wp M (XR G) ad Y_X9_over (pI fun y m' => y = aboveK x ∧ m' = (im, rs bt rt, lm)) 0 [some (vI x)] [] (im, rs bt rt, lm)
  refine q_iload_n (t := 1) F dX9_over_0 rfl rfl rfl ?_
  refine q_if_ne (t := 4) (u := 8) F dX9_over_1 (by constructor <;> omega) (by decide) rfl (fun c1 => ?_) (fun c1 => ?_)
  · refine q_iload_n (t := 9) F dX9_over_8 rfl rfl rfl ?_
    refine q_iconst (t := 10) F dX9_over_9 rfl ?_
    refine q_icmp_ne (t := 13) (u := 17) F dX9_over_10 (by constructor <;> omega) (by constructor <;> omega) (by decide) rfl (fun c10 => ?_) (fun c10 => ?_)
    · refine q_iload_n (t := 18) F dX9_over_17 rfl rfl rfl ?_
      refine q_iconst (t := 19) F dX9_over_18 rfl ?_
      refine q_icmp_ne (t := 22) (u := 26) F dX9_over_19 (by constructor <;> omega) (by constructor <;> omega) (by decide) rfl (fun c19 => ?_) (fun c19 => ?_)
      · refine q_iconst (t := 27) F dX9_over_26 rfl ?_
        refine q_iret F dX9_over_27 rfl ?_
        refine ⟨_, rfl, ?_, rfl⟩
        unfold aboveK
        (repeat' split) <;> first | rfl | (exfalso; omega)
      · refine q_iconst (t := 23) F dX9_over_22 rfl ?_
        refine q_goto (t := 27) F dX9_over_23 (by decide) ?_
        refine q_iret F dX9_over_27 rfl ?_
        refine ⟨_, rfl, ?_, rfl⟩
        unfold aboveK
        (repeat' split) <;> first | rfl | (exfalso; omega)
    · refine q_iconst (t := 14) F dX9_over_13 rfl ?_
      refine q_goto (t := 27) F dX9_over_14 (by decide) ?_
      refine q_iret F dX9_over_27 rfl ?_
      refine ⟨_, rfl, ?_, rfl⟩
      unfold aboveK
      (repeat' split) <;> first | rfl | (exfalso; omega)
  · refine q_iconst (t := 5) F dX9_over_4 rfl ?_
    refine q_goto (t := 27) F dX9_over_5 (by decide) ?_
    refine q_iret F dX9_over_27 rfl ?_
    refine ⟨_, rfl, ?_, rfl⟩
    unfold aboveK
    (repeat' split) <;> first | rfl | (exfalso; omega)

set_option maxHeartbeats 4000000 in
theorem c_X9_taken (l : Launch) (G : GS) (im : IM) (bt rt : Nat) (lm : IM) (h : RC im) (p k : Int) (hp : ri p) (hk : ri k) : Cn l (XR G) yX9_taken Y_X9_taken [vR 30 0, vI p, vI k] (im, rs bt rt, lm) (pI fun x m' => x = (if 0 ≤ k ∧ k ≤ 5 then (if (0 : Int) ≤ p ∧ p < im 30 0 12 then (if underK k 6 (im 34 0 (Int.toNat p)) = 0 then -13 else im 35 0 (Int.toNat p)) else -11) else -2) ∧ m' = (im, rs bt rt, lm)) := by
  refine cn_of (by decide) (okR G) rfl (Nat.le_of_ble_eq_true rfl) ?_
  intro M ad hMl F
  subst hMl
  have hR := h.1
  have hX := h.2.1
  have h4 := h.2.2.1
  have h12 := h.2.2.2.1
  have h7 := h.2.2.2.2.1
  have h6 := hX.2.2.1
  have h3 := hX.2.2.2.1
  have hP := h.2.2.2.2.2.2
  have hR := h.1
  have p1 := hp.1
  have p2 := hp.2
  have k1 := hk.1
  have k2 := hk.2
  refine wp_pad 1 ?_
  show Wp M (XR G) ad Y_X9_taken (pI fun x m' => x = (if 0 ≤ k ∧ k ≤ 5 then (if (0 : Int) ≤ p ∧ p < im 30 0 12 then (if underK k 6 (im 34 0 (Int.toNat p)) = 0 then -13 else im 35 0 (Int.toNat p)) else -11) else -2) ∧ m' = (im, rs bt rt, lm)) 0 [some (vR 30 0), some (vI p), some (vI k), none] [] (im, rs bt rt, lm)
  refine q_iload_n (t := 1) F dX9_taken_0 rfl rfl rfl ?_
  refine q_i2l (t := 2) F dX9_taken_1 (by first | exact hR _ _ _ | (constructor <;> omega)) rfl ?_
  refine q_lconst (t := 3) (x := 0) F dX9_taken_2 (by decide) rfl ?_
  refine q_ldc2 (t := 6) (x := 5) F dX9_taken_3 kl_X9_123 (by decide) rfl ?_
  refine wp_callS (t := 9) [_, _, _] F dX9_taken_6 k_X9_in st_X9_in ml_X9_91 rfl rfl (Nat.le_of_ble_eq_true rfl) (by decide) (c_X9_in _ G _ _ _ _ _ _ _ (by constructor <;> omega) (by constructor <;> omega) (by constructor <;> omega)) rfl (kI ?_)
  rintro x6 m' ⟨hx6, rfl⟩
  have hx6 := if01 hx6
  refine q_if_ne (t := 12) (u := 15) F dX9_taken_9 (by first | exact hR _ _ _ | (constructor <;> omega)) (by decide) rfl (fun c9 => ?_) (fun c9 => ?_)
  · refine q_aload_n (t := 16) F dX9_taken_15 rfl rfl rfl ?_
    refine q_iload_n (t := 17) F dX9_taken_16 rfl rfl rfl ?_
    refine wp_callV (t := 20) [_] F dX9_taken_17 k_X9_isOne v_X9_isOne ml_X9_101 rfl rfl rfl rfl (Nat.le_of_ble_eq_true rfl) (by decide) (m_30 (by omega)) (c_X9_isOne _ G im bt rt lm hR h12.1 h12.2 p (by constructor <;> omega)) rfl (kI ?_)
    rintro x17 m' ⟨hx17, rfl⟩
    have hx17 := if01 hx17
    refine q_if_ne (t := 23) (u := 26) F dX9_taken_20 (by first | exact hR _ _ _ | (constructor <;> omega)) (by decide) rfl (fun c20 => ?_) (fun c20 => ?_)
    · obtain ⟨p, rfl⟩ : ∃ j : Nat, p = (j : Int) := ⟨p.toNat, by omega⟩
      have etp : ((p : Nat) : Int).toNat = p := Int.toNat_natCast p
      have hpp := (h.2.2.2.2.2.2 p (by omega)).1
      refine q_aload_n (t := 27) F dX9_taken_26 rfl rfl rfl ?_
      refine g_X9_26 (t := 30) F dX9_taken_27 rfl rfl ?_
      refine q_iload_n (t := 31) F dX9_taken_30 rfl rfl rfl ?_
      first | refine ldN_34 (t := 32) F dX9_taken_31 (by omega) rfl ?_ | refine ld_34 (t := 32) F dX9_taken_31 (by omega) (by omega) rfl ?_
      try simp only [up_app, row_app, scr_app, cpy_app, Nat.reduceEqDiff, Int.reduceToNat, Int.toNat_natCast, and_true, true_and, and_false, false_and, and_self, reduceIte]
      refine q_istore_n (t := 33) F dX9_taken_32 rfl (by decide) rfl rfl ?_
      have L33 : ∀ (fz : Nat) (x : Int), (x + 1).toNat < fz → ((-1 ≤ x ∧ x ≤ 5) ∧ underK k 6 x = underK k 6 (im 34 0 p)) → Wp M (XR G) ad Y_X9_taken (pI fun x m' => x = (if 0 ≤ k ∧ k ≤ 5 then (if (0 : Int) ≤ p ∧ p < im 30 0 12 then (if underK k 6 (im 34 0 (Int.toNat p)) = 0 then -13 else im 35 0 (Int.toNat p)) else -11) else -2) ∧ m' = (im, rs bt rt, lm)) 33 [some (vR 30 0), some (vI (p : Int)), some (vI k), some (vI x)] [] (im, rs bt rt, lm) := by
        intro fz
        induction fz with
        | zero => intro x h; exact absurd h (Nat.not_lt_zero _)
        | succ fz ih =>
          have ih33 := ih
          intro x hmeas ⟨hx, hux⟩
          have huk := uk_e (k := k) (by omega) (by omega)
          refine q_iload_n (t := 34) F dX9_taken_33 rfl rfl rfl ?_
          refine q_iconst (t := 35) F dX9_taken_34 rfl ?_
          refine q_icmp_eq (t := 38) (u := 51) F dX9_taken_35 (by constructor <;> omega) (by constructor <;> omega) (by decide) rfl (fun c35 => ?_) (fun c35 => ?_)
          · refine q_iload_n (t := 52) F dX9_taken_51 rfl rfl rfl ?_
            refine q_iload_n (t := 53) F dX9_taken_52 rfl rfl rfl ?_
            refine q_icmp_ne (t := 56) (u := 65) F dX9_taken_53 (by constructor <;> omega) (by constructor <;> omega) (by decide) rfl (fun c53 => ?_) (fun c53 => ?_)
            · refine q_bipush (t := 67) F dX9_taken_65 (by decide) rfl ?_
              refine q_iret F dX9_taken_67 rfl ?_
              try simp only [Int.toNat_natCast]
              first
                | (exfalso; omega)
                | (refine ⟨_, rfl, ?_, rfl⟩
                   rw [if_neg (by omega)])
                | (refine ⟨_, rfl, ?_, rfl⟩
                   rw [if_pos (by omega), if_neg (by omega)])
                | (refine ⟨_, rfl, ?_, rfl⟩
                   have ek : x = k := by omega
                   subst ek
                   (try rw [etp])
                   rw [if_pos (by omega), if_pos (by omega), if_neg (by rw [← hux, huk.1]; omega)])
                | (refine ⟨_, rfl, ?_, rfl⟩
                   have ek : x = -1 := by omega
                   subst ek
                   (try rw [etp])
                   rw [if_pos (by omega), if_pos (by omega), if_pos (by rw [← hux, huk.2])])
                | omega
            · refine q_aload_n (t := 57) F dX9_taken_56 rfl rfl rfl ?_
              refine g_X9_29 (t := 60) F dX9_taken_57 rfl rfl ?_
              refine q_iload_n (t := 61) F dX9_taken_60 rfl rfl rfl ?_
              first | refine ldN_35 (t := 62) F dX9_taken_61 (by omega) rfl ?_ | refine ld_35 (t := 62) F dX9_taken_61 (by omega) (by omega) rfl ?_
              try simp only [up_app, row_app, scr_app, cpy_app, Nat.reduceEqDiff, Int.reduceToNat, Int.toNat_natCast, and_true, true_and, and_false, false_and, and_self, reduceIte]
              refine q_goto (t := 67) F dX9_taken_62 (by decide) ?_
              refine q_iret F dX9_taken_67 rfl ?_
              try simp only [Int.toNat_natCast]
              first
                | (exfalso; omega)
                | (refine ⟨_, rfl, ?_, rfl⟩
                   rw [if_neg (by omega)])
                | (refine ⟨_, rfl, ?_, rfl⟩
                   rw [if_pos (by omega), if_neg (by omega)])
                | (refine ⟨_, rfl, ?_, rfl⟩
                   have ek : x = k := by omega
                   subst ek
                   (try rw [etp])
                   rw [if_pos (by omega), if_pos (by omega), if_neg (by rw [← hux, huk.1]; omega)])
                | (refine ⟨_, rfl, ?_, rfl⟩
                   have ek : x = -1 := by omega
                   subst ek
                   (try rw [etp])
                   rw [if_pos (by omega), if_pos (by omega), if_pos (by rw [← hux, huk.2])])
                | omega
          · refine q_iload_n (t := 39) F dX9_taken_38 rfl rfl rfl ?_
            refine q_iload_n (t := 40) F dX9_taken_39 rfl rfl rfl ?_
            refine q_icmp_eq (t := 43) (u := 51) F dX9_taken_40 (by constructor <;> omega) (by constructor <;> omega) (by decide) rfl (fun c40 => ?_) (fun c40 => ?_)
            · refine q_iload_n (t := 52) F dX9_taken_51 rfl rfl rfl ?_
              refine q_iload_n (t := 53) F dX9_taken_52 rfl rfl rfl ?_
              refine q_icmp_ne (t := 56) (u := 65) F dX9_taken_53 (by constructor <;> omega) (by constructor <;> omega) (by decide) rfl (fun c53 => ?_) (fun c53 => ?_)
              · refine q_bipush (t := 67) F dX9_taken_65 (by decide) rfl ?_
                refine q_iret F dX9_taken_67 rfl ?_
                try simp only [Int.toNat_natCast]
                first
                  | (exfalso; omega)
                  | (refine ⟨_, rfl, ?_, rfl⟩
                     rw [if_neg (by omega)])
                  | (refine ⟨_, rfl, ?_, rfl⟩
                     rw [if_pos (by omega), if_neg (by omega)])
                  | (refine ⟨_, rfl, ?_, rfl⟩
                     have ek : x = k := by omega
                     subst ek
                     (try rw [etp])
                     rw [if_pos (by omega), if_pos (by omega), if_neg (by rw [← hux, huk.1]; omega)])
                  | (refine ⟨_, rfl, ?_, rfl⟩
                     have ek : x = -1 := by omega
                     subst ek
                     (try rw [etp])
                     rw [if_pos (by omega), if_pos (by omega), if_pos (by rw [← hux, huk.2])])
                  | omega
              · refine q_aload_n (t := 57) F dX9_taken_56 rfl rfl rfl ?_
                refine g_X9_29 (t := 60) F dX9_taken_57 rfl rfl ?_
                refine q_iload_n (t := 61) F dX9_taken_60 rfl rfl rfl ?_
                first | refine ldN_35 (t := 62) F dX9_taken_61 (by omega) rfl ?_ | refine ld_35 (t := 62) F dX9_taken_61 (by omega) (by omega) rfl ?_
                try simp only [up_app, row_app, scr_app, cpy_app, Nat.reduceEqDiff, Int.reduceToNat, Int.toNat_natCast, and_true, true_and, and_false, false_and, and_self, reduceIte]
                refine q_goto (t := 67) F dX9_taken_62 (by decide) ?_
                refine q_iret F dX9_taken_67 rfl ?_
                try simp only [Int.toNat_natCast]
                first
                  | (exfalso; omega)
                  | (refine ⟨_, rfl, ?_, rfl⟩
                     rw [if_neg (by omega)])
                  | (refine ⟨_, rfl, ?_, rfl⟩
                     rw [if_pos (by omega), if_neg (by omega)])
                  | (refine ⟨_, rfl, ?_, rfl⟩
                     have ek : x = k := by omega
                     subst ek
                     (try rw [etp])
                     rw [if_pos (by omega), if_pos (by omega), if_neg (by rw [← hux, huk.1]; omega)])
                  | (refine ⟨_, rfl, ?_, rfl⟩
                     have ek : x = -1 := by omega
                     subst ek
                     (try rw [etp])
                     rw [if_pos (by omega), if_pos (by omega), if_pos (by rw [← hux, huk.2])])
                  | omega
            · refine q_iload_n (t := 44) F dX9_taken_43 rfl rfl rfl ?_
              refine wp_callS (t := 47) [_] F dX9_taken_44 k_X9_over st_X9_over ml_X9_476 rfl rfl (Nat.le_of_ble_eq_true rfl) (by decide) (c_X9_over _ G im bt rt lm x (by omega) (by omega)) rfl (kI ?_)
              rintro x44 m' ⟨hx44, rfl⟩
              have hab := ab_lt (x := x) (by omega) (by omega)
              have hus := uk_s (k := k) (x := x) (by omega) (by omega) (by omega) (by omega) (by omega)
              refine q_istore_n (t := 48) F dX9_taken_47 rfl (by decide) rfl rfl ?_
              refine q_goto (t := 33) F dX9_taken_48 (by decide) ?_
              exact ih33 x44 (by omega) ⟨by omega, by rw [hx44, ← hus]; exact hux⟩
      exact L33 _ (im 34 0 p) (Nat.lt_succ_self _) ⟨by omega, rfl⟩
    · refine q_bipush (t := 25) F dX9_taken_23 (by decide) rfl ?_
      refine q_iret F dX9_taken_25 rfl ?_
      try simp only [Int.toNat_natCast]
      first
        | (exfalso; omega)
        | (refine ⟨_, rfl, ?_, rfl⟩
           rw [if_neg (by omega)])
        | (refine ⟨_, rfl, ?_, rfl⟩
           rw [if_pos (by omega), if_neg (by omega)])
        | (refine ⟨_, rfl, ?_, rfl⟩
           have ek : x = k := by omega
           subst ek
           (try rw [etp])
           rw [if_pos (by omega), if_pos (by omega), if_neg (by rw [← hux, huk.1]; omega)])
        | (refine ⟨_, rfl, ?_, rfl⟩
           have ek : x = -1 := by omega
           subst ek
           (try rw [etp])
           rw [if_pos (by omega), if_pos (by omega), if_pos (by rw [← hux, huk.2])])
        | omega
  · refine q_bipush (t := 14) F dX9_taken_12 (by decide) rfl ?_
    refine q_iret F dX9_taken_14 rfl ?_
    try simp only [Int.toNat_natCast]
    first
      | (exfalso; omega)
      | (refine ⟨_, rfl, ?_, rfl⟩
         rw [if_neg (by omega)])
      | (refine ⟨_, rfl, ?_, rfl⟩
         rw [if_pos (by omega), if_neg (by omega)])
      | (refine ⟨_, rfl, ?_, rfl⟩
         have ek : x = k := by omega
         subst ek
         (try rw [etp])
         rw [if_pos (by omega), if_pos (by omega), if_neg (by rw [← hux, huk.1]; omega)])
      | (refine ⟨_, rfl, ?_, rfl⟩
         have ek : x = -1 := by omega
         subst ek
         (try rw [etp])
         rw [if_pos (by omega), if_pos (by omega), if_pos (by rw [← hux, huk.2])])
      | omega

/-- n hours off, laid down on a sheet -/
def flR (im S : IM) (s p n : Nat) : IM := fun k i x => if k = 50 ∧ i = 0 ∧ 40 * s ≤ x ∧ x < 40 * s + n then whenR im 60 (10 * p + (x - 40 * s)) else S k i x
theorem flR_0 (im S : IM) (s p : Nat) : flR im S s p 0 = S := by
  funext k i x
  unfold flR
  rw [if_neg (by omega)]
theorem flR_s (im S : IM) (s p n : Nat) : up (flR im S s p n) 50 0 (40 * s + n) (whenR im 60 (10 * p + n)) = flR im S s p (n + 1) := by
  funext k i x
  rw [up_app]
  unfold flR
  by_cases h : k = 50 ∧ i = 0 ∧ x = 40 * s + n
  · rw [if_pos h, if_pos (by omega), show x - 40 * s = n by omega]
  · rw [if_neg h]
    by_cases h2 : k = 50 ∧ i = 0 ∧ 40 * s ≤ x ∧ x < 40 * s + n
    · rw [if_pos h2, if_pos (by omega)]
    · rw [if_neg h2, if_neg (by omega)]

set_option maxHeartbeats 4000000 in
theorem c_X9_film (l : Launch) (G : GS) (im : IM) (bt rt : Nat) (lm : IM) (h : RC im) (hA : AG im 1000) (h79 : im 30 0 7 ≤ 999) (s p : Int) (hs : ri s) (hp : ri p) : Cn l (XR G) yX9_film Y_X9_film [vR 30 0, vI s, vI p] (im, rs bt rt, lm) (pI fun x m' => (¬ (((0 : Int) ≤ s ∧ (s : Int) ≤ 3) ∧ ((0 : Int) ≤ p ∧ p < im 30 0 12)) → x = -2 ∧ m' = (im, rs bt rt, lm)) ∧ ((((0 : Int) ≤ s ∧ (s : Int) ≤ 3) ∧ ((0 : Int) ≤ p ∧ p < im 30 0 12)) → x = 10 ∧ ∃ im' lm', RI im' ∧ RU im 60 im' ∧ lgQ lm' lm ∧ m' = (flR im (sheetR im' (Int.toNat s) 0 10) (Int.toNat s) (Int.toNat p) 10, rs bt rt, lm'))) := by
  refine cn_of (by decide) (okR G) rfl (Nat.le_of_ble_eq_true rfl) ?_
  intro M ad hMl F
  subst hMl
  have hR := h.1
  have hX := h.2.1
  have h4 := h.2.2.1
  have h12 := h.2.2.2.1
  have h7 := h.2.2.2.2.1
  have h6 := hX.2.2.1
  have h3 := hX.2.2.2.1
  have hP := h.2.2.2.2.2.2
  have hR := h.1
  have s1 := hs.1
  have s2 := hs.2
  have p1 := hp.1
  have p2 := hp.2
  refine wp_pad 1 ?_
  show Wp M (XR G) ad Y_X9_film (pI fun x m' => (¬ (((0 : Int) ≤ s ∧ (s : Int) ≤ 3) ∧ ((0 : Int) ≤ p ∧ p < im 30 0 12)) → x = -2 ∧ m' = (im, rs bt rt, lm)) ∧ ((((0 : Int) ≤ s ∧ (s : Int) ≤ 3) ∧ ((0 : Int) ≤ p ∧ p < im 30 0 12)) → x = 10 ∧ ∃ im' lm', RI im' ∧ RU im 60 im' ∧ lgQ lm' lm ∧ m' = (flR im (sheetR im' (Int.toNat s) 0 10) (Int.toNat s) (Int.toNat p) 10, rs bt rt, lm'))) 0 [some (vR 30 0), some (vI s), some (vI p), none] [] (im, rs bt rt, lm)
  refine q_iload_n (t := 1) F dX9_film_0 rfl rfl rfl ?_
  refine wp_callS (t := 4) [_] F dX9_film_1 k_X9_isSheet st_X9_isSheet ml_X9_421 rfl rfl (Nat.le_of_ble_eq_true rfl) (by decide) (c_X9_isSheet _ G im bt rt lm s (by constructor <;> omega)) rfl (kI ?_)
  rintro x1 m' ⟨hx1, rfl⟩
  have hx1 := if01 hx1
  refine q_if_eq (t := 7) (u := 15) F dX9_film_4 (by first | exact hR _ _ _ | (constructor <;> omega)) (by decide) rfl (fun c4 => ?_) (fun c4 => ?_)
  · refine q_bipush (t := 17) F dX9_film_15 (by decide) rfl ?_
    refine q_iret F dX9_film_17 rfl ?_
    try simp only [Int.toNat_natCast]
    first
      | exact ⟨_, rfl, fun _ => ⟨rfl, rfl⟩, fun z => absurd z (by omega)⟩
      | (obtain rfl : g = 10 := by omega
         exact ⟨_, rfl, fun z => absurd (by omega) z, fun _ => ⟨rfl, im2, lm2, hR2, hU, hlg2, by first | rfl | (rw [ets, etp]) | (rw [ets]) | (rw [etp])⟩⟩)
      | omega
  · refine q_aload_n (t := 8) F dX9_film_7 rfl rfl rfl ?_
    refine q_iload_n (t := 9) F dX9_film_8 rfl rfl rfl ?_
    refine wp_callV (t := 12) [_] F dX9_film_9 k_X9_isOne v_X9_isOne ml_X9_101 rfl rfl rfl rfl (Nat.le_of_ble_eq_true rfl) (by decide) (m_30 (by omega)) (c_X9_isOne _ G im bt rt lm hR h12.1 h12.2 p (by constructor <;> omega)) rfl (kI ?_)
    rintro x9 m' ⟨hx9, rfl⟩
    have hx9 := if01 hx9
    refine q_if_ne (t := 15) (u := 18) F dX9_film_12 (by first | exact hR _ _ _ | (constructor <;> omega)) (by decide) rfl (fun c12 => ?_) (fun c12 => ?_)
    · refine q_aload_n (t := 19) F dX9_film_18 rfl rfl rfl ?_
      refine q_bipush (t := 21) F dX9_film_19 (by decide) rfl ?_
      refine wp_callV (t := 24) [_] F dX9_film_21 k_X9_runs v_X9_runs ml_X9_410 rfl rfl rfl rfl (Nat.le_of_ble_eq_true rfl) (by decide) (m_30 (by omega)) (c_X9_runs _ G im bt rt lm h hA h79 60 (by omega)) rfl (kV ?_)
      rintro m' ⟨im2, lm2, hR2, hU, hlg2, rfl⟩
      refine q_aload_n (t := 25) F dX9_film_24 rfl rfl rfl ?_
      refine q_iload_n (t := 26) F dX9_film_25 rfl rfl rfl ?_
      refine q_iconst (t := 27) F dX9_film_26 rfl ?_
      refine q_bipush (t := 29) F dX9_film_27 (by decide) rfl ?_
      refine wp_callV (t := 32) [_, _, _] F dX9_film_29 k_X9_sheet v_X9_sheet ml_X9_446 rfl rfl rfl rfl (Nat.le_of_ble_eq_true rfl) (by decide) (m_30 (by omega)) (c_X9_sheet _ G im2 bt rt lm2 s 0 10 hs (by constructor <;> omega) (by constructor <;> omega)) rfl (kI ?_)
      rintro x29 m' ⟨-, h29⟩
      obtain ⟨rfl, rfl⟩ := (h29 (by omega) (by omega)).2 (by omega)
      refine q_popI (t := 33) F dX9_film_32 rfl ?_
      obtain ⟨s, rfl⟩ : ∃ j : Nat, s = (j : Int) := ⟨s.toNat, by omega⟩
      obtain ⟨p, rfl⟩ : ∃ j : Nat, p = (j : Int) := ⟨p.toNat, by omega⟩
      have ets : ((s : Nat) : Int).toNat = s := Int.toNat_natCast s
      have etp : ((p : Nat) : Int).toNat = p := Int.toNat_natCast p
      have hw : ∀ g, g < 10 → sheetR im2 s 0 10 38 0 (10 * p + g) = whenR im 60 (10 * p + g) := fun g hg => by
        refine Eq.trans ?_ (hU.2.1 (10 * p + g) (by omega)).1
        unfold sheetR shI3
        rw [zeS_app, if_neg (by omega), up_app, if_neg (by omega), up_app, if_neg (by omega), up_app, if_neg (by omega)]
      rw [ets]
      refine q_iconst (t := 34) F dX9_film_33 rfl ?_
      refine q_istore_n (t := 35) F dX9_film_34 rfl (by decide) rfl rfl ?_
      have L35 : ∀ (fz : Nat) (g : Nat), 10 - g < fz → g ≤ 10 → Wp M (XR G) ad Y_X9_film (pI fun x m' => (¬ (((0 : Int) ≤ s ∧ (s : Int) ≤ 3) ∧ ((0 : Int) ≤ p ∧ p < im 30 0 12)) → x = -2 ∧ m' = (im, rs bt rt, lm)) ∧ ((((0 : Int) ≤ s ∧ (s : Int) ≤ 3) ∧ ((0 : Int) ≤ p ∧ p < im 30 0 12)) → x = 10 ∧ ∃ im' lm', RI im' ∧ RU im 60 im' ∧ lgQ lm' lm ∧ m' = (flR im (sheetR im' (Int.toNat s) 0 10) (Int.toNat s) (Int.toNat p) 10, rs bt rt, lm'))) 35 [some (vR 30 0), some (vI (s : Int)), some (vI (p : Int)), some (vI (g : Int))] [] (flR im (sheetR im2 s 0 10) s p g, rs bt rt, lm2) := by
        intro fz
        induction fz with
        | zero => intro g h; exact absurd h (Nat.not_lt_zero _)
        | succ fz ih =>
          have ih35 := ih
          intro g hmeas hg
          have hf38 : flR im (sheetR im2 s 0 10) s p g 38 0 (10 * p + g) = if g < 10 then whenR im 60 (10 * p + g) else flR im (sheetR im2 s 0 10) s p g 38 0 (10 * p + g) := by
            split
            · rename_i z
              rw [← hw g z]
              unfold flR
              rw [if_neg (by omega)]
            · rfl
          refine q_iload_n (t := 36) F dX9_film_35 rfl rfl rfl ?_
          refine q_bipush (t := 38) F dX9_film_36 (by decide) rfl ?_
          refine q_icmp_ge (t := 41) (u := 69) F dX9_film_38 (by constructor <;> omega) (by constructor <;> omega) (by decide) rfl (fun c38 => ?_) (fun c38 => ?_)
          · refine q_bipush (t := 71) F dX9_film_69 (by decide) rfl ?_
            refine q_iret F dX9_film_71 rfl ?_
            try simp only [Int.toNat_natCast]
            first
              | exact ⟨_, rfl, fun _ => ⟨rfl, rfl⟩, fun z => absurd z (by omega)⟩
              | (obtain rfl : g = 10 := by omega
                 exact ⟨_, rfl, fun z => absurd (by omega) z, fun _ => ⟨rfl, im2, lm2, hR2, hU, hlg2, by first | rfl | (rw [ets, etp]) | (rw [ets]) | (rw [etp])⟩⟩)
              | omega
          · refine q_aload_n (t := 42) F dX9_film_41 rfl rfl rfl ?_
            refine g_X9_78 (t := 45) F dX9_film_42 rfl rfl ?_
            refine q_bipush (t := 47) F dX9_film_45 (by decide) rfl ?_
            refine q_iload_n (t := 48) F dX9_film_47 rfl rfl rfl ?_
            refine q_imul (t := 49) F dX9_film_48 rfl ?_
            refine q_iload_n (t := 50) F dX9_film_49 rfl rfl rfl ?_
            refine q_iadd (t := 51) F dX9_film_50 rfl ?_
            refine q_aload_n (t := 52) F dX9_film_51 rfl rfl rfl ?_
            refine g_X9_38 (t := 55) F dX9_film_52 rfl rfl ?_
            refine q_bipush (t := 57) F dX9_film_55 (by decide) rfl ?_
            refine q_iload_n (t := 58) F dX9_film_57 rfl rfl rfl ?_
            refine q_imul (t := 59) F dX9_film_58 rfl ?_
            refine q_iload_n (t := 60) F dX9_film_59 rfl rfl rfl ?_
            refine q_iadd (t := 61) F dX9_film_60 rfl ?_
            rw [show (10 : Int) * (p : Int) + (g : Int) = ((10 * p + g : Nat) : Int) by omega]
            first | refine ldN_38 (t := 62) F dX9_film_61 (by omega) rfl ?_ | refine ld_38 (t := 62) F dX9_film_61 (by omega) (by omega) rfl ?_
            try simp only [up_app, row_app, scr_app, cpy_app, Nat.reduceEqDiff, Int.reduceToNat, Int.toNat_natCast, and_true, true_and, and_false, false_and, and_self, reduceIte]
            rw [hf38]
            rw [show (40 : Int) * (s : Int) + (g : Int) = ((40 * s + g : Nat) : Int) by omega]
            first | refine stN_50 (t := 63) F dX9_film_62 (by omega) rfl ?_ | refine st_50 (t := 63) F dX9_film_62 (by omega) (by omega) rfl ?_
            refine q_iinc (t := 66) F dX9_film_63 rfl (by decide) rfl rfl ?_
            refine q_goto (t := 35) F dX9_film_66 (by decide) ?_
            rw [show (g : Int) + 1 = ((g + 1 : Nat) : Int) by omega, if_pos (by omega), flR_s]
            exact ih35 (g + 1) (by omega) (by omega)
      have L0 := L35 _ 0 (Nat.lt_succ_self _) (Nat.zero_le _)
      rw [flR_0] at L0
      exact L0
    · refine q_bipush (t := 17) F dX9_film_15 (by decide) rfl ?_
      refine q_iret F dX9_film_17 rfl ?_
      try simp only [Int.toNat_natCast]
      first
        | exact ⟨_, rfl, fun _ => ⟨rfl, rfl⟩, fun z => absurd z (by omega)⟩
        | (obtain rfl : g = 10 := by omega
           exact ⟨_, rfl, fun z => absurd (by omega) z, fun _ => ⟨rfl, im2, lm2, hR2, hU, hlg2, by first | rfl | (rw [ets, etp]) | (rw [ets]) | (rw [etp])⟩⟩)
        | omega
end
section
/-! the reference: foods that are drawn -/

theorem agC.trans {a b c : IM} (h : agC a b) (h2 : agC b c) : agC a c := by
  obtain ⟨x, x3, x4, x6, x8, x12⟩ := h
  obtain ⟨y, y3, y4, y6, y8, y12⟩ := h2
  exact ⟨fun k s u v => (x k s u v).trans (y k s u v), x3.trans y3, x4.trans y4, x6.trans y6, x8.trans y8, x12.trans y12⟩
theorem agC.symm {a b : IM} (h : agC a b) : agC b a := by
  obtain ⟨x, x3, x4, x6, x8, x12⟩ := h
  exact ⟨fun k s u v => (x k s u v).symm, x3.symm, x4.symm, x6.symm, x8.symm, x12.symm⟩
theorem utR_C {a b : IM} (h : agC a b) (h7 : a 30 0 7 = b 30 0 7) (p : Nat) (w fd : Int) : utR a p w fd = utR b p w fd := by
  have hT := TR_C h
  obtain ⟨c, e3, e4, e6, e8, e12⟩ := h
  have es : stR a p = stR b p := funext fun g => c 36 _ (by omega) (by omega)
  have eg : gpR a p w fd = gpR b p w fd := by
    show takesK (a 34 0 p) (TR a 0 _) = takesK (b 34 0 p) (TR b 0 _)
    rw [es, hT, c 34 _ (by omega) (by omega), c 35 _ (by omega) (by omega), h7]
  unfold utR
  rw [eg, c 36 _ (by omega) (by omega)]
theorem agC_up {a b : IM} (h : agC a b) (k s : Nat) (x : Int) : agC (up a k 0 s x) (up b k 0 s x) := by
  obtain ⟨c, e3, e4, e6, e8, e12⟩ := h
  have hh : ∀ k' s', a k' 0 s' = b k' 0 s' → up a k 0 s x k' 0 s' = up b k 0 s x k' 0 s' := fun k' s' e => by
    rw [up_app, up_app, e]
  exact ⟨fun k' s' u v => hh k' s' (c k' s' u v), hh _ _ e3, hh _ _ e4, hh _ _ e6, hh _ _ e8, hh _ _ e12⟩
def eaI (im : IM) (p : Nat) (seed : Int) : Nat → IM
  | 0 => asideI im
  | i + 1 => spR (eaI im p seed i) (eaI im p seed i) p i (dwF seed i)
def eaN (im : IM) (p : Nat) (seed : Int) : Nat → Int
  | 0 => 0
  | i + 1 => if utR (eaI im p seed i) p i (dwF seed i) = -1 then eaN im p seed i else eaN im p seed i + 1
def hiR (im : IM) (p : Nat) (seed : Int) : Nat → Int
  | 0 => 0
  | i + 1 => if 5 ≤ eaN im p (bm (seed + i)) 16 then hiR im p seed i + 1 else hiR im p seed i
theorem eaN_s (im : IM) (p : Nat) (seed : Int) (i : Nat) : eaN im p seed (i + 1) = if utR (eaI im p seed i) p i (dwF seed i) = -1 then eaN im p seed i else eaN im p seed i + 1 := rfl
theorem hiR_s (im : IM) (p : Nat) (seed : Int) (i : Nat) : hiR im p seed (i + 1) = if 5 ≤ eaN im p (bm (seed + i)) 16 then hiR im p seed i + 1 else hiR im p seed i := rfl
theorem eaN_in (im : IM) (p : Nat) (seed : Int) (i : Nat) : 0 ≤ eaN im p seed i ∧ eaN im p seed i ≤ i := by
  induction i with
  | zero => exact ⟨Int.le_refl 0, Int.le_refl 0⟩
  | succ i ih =>
    rw [eaN_s]
    split <;> omega
theorem hiR_in (im : IM) (p : Nat) (seed : Int) (i : Nat) : 0 ≤ hiR im p seed i ∧ hiR im p seed i ≤ i := by
  induction i with
  | zero => exact ⟨Int.le_refl 0, Int.le_refl 0⟩
  | succ i ih =>
    rw [hiR_s]
    split <;> omega
theorem spR_C {a b : IM} (h : agC a b) (h7 : a 30 0 7 = b 30 0 7) (p : Nat) (w fd : Int) : agC (spR a a p w fd) (spR b b p w fd) ∧ spR a a p w fd 30 0 7 = spR b b p w fd 30 0 7 := by
  unfold spR
  rw [utR_C h h7]
  split
  · exact ⟨h, h7⟩
  · exact ⟨agC_up (agC_up h _ _ _) _ _ _, h7⟩
theorem eaI_C {a b : IM} (h : agC a b) (h7 : a 30 0 7 = b 30 0 7) (p : Nat) (seed : Int) (i : Nat) : (agC (eaI a p seed i) (eaI b p seed i) ∧ eaI a p seed i 30 0 7 = eaI b p seed i 30 0 7) ∧ eaN a p seed i = eaN b p seed i := by
  induction i with
  | zero => exact ⟨⟨((asideI_C a).trans h).trans (asideI_C b).symm, h7⟩, rfl⟩
  | succ i ih =>
    refine ⟨spR_C ih.1.1 ih.1.2 p i (dwF seed i), ?_⟩
    rw [eaN_s, eaN_s, ih.2, utR_C ih.1.1 ih.1.2]
theorem spR_ag2 {S im2 F : IM} (hS : agY S F) (h2 : agY im2 F) (p : Nat) (w fd : Int) : agY (spR S im2 p w fd) (spR F F p w fd) := by
  unfold spR
  rw [utR_ag hS]
  split
  · exact h2
  · exact (h2.up rfl).up rfl

set_option maxHeartbeats 4000000 in
theorem c_X9_eats (l : Launch) (G : GS) (im : IM) (bt rt : Nat) (lm : IM) (h : RC im) (p n : Nat) (hp : (p : Int) < im 30 0 12) (hn : n ≤ 16) (seed : Int) (hseed : ri seed) : Cn l (XR G) yX9_eats Y_X9_eats [vR 30 0, vI (p : Int), vI seed, vI (n : Int)] (im, rs bt rt, lm) (pI fun x m' => ∃ im' lm', x = eaN im p seed n ∧ RI im' ∧ agS im' im ∧ lgQ lm' lm ∧ m' = (im', rs bt rt, lm')) := by
  refine cn_of (by decide) (okR G) rfl (Nat.le_of_ble_eq_true rfl) ?_
  intro M ad hMl F
  subst hMl
  have hR := h.1
  have h12 := h.2.2.2.1
  have hRa := asideI_RI h.1
  have hRCa : RC (asideI im) := h.C hRa (asideI_C im) h.2.2.2.2.1
  refine wp_pad 3 ?_
  show Wp M (XR G) ad Y_X9_eats (pI fun x m' => ∃ im' lm', x = eaN im p seed n ∧ RI im' ∧ agS im' im ∧ lgQ lm' lm ∧ m' = (im', rs bt rt, lm')) 0 [some (vR 30 0), some (vI (p : Int)), some (vI seed), some (vI (n : Int)), none, none, none] [] (im, rs bt rt, lm)
  refine q_aload_n (t := 1) F dX9_eats_0 rfl rfl rfl ?_
  refine wp_callV (t := 4) [] F dX9_eats_1 k_X9_laysAside v_X9_laysAside ml_X9_404 rfl rfl rfl rfl (Nat.le_of_ble_eq_true rfl) (by decide) (m_30 (by omega)) (g_X9_laysAside _ G im bt rt lm hR) rfl (kV ?_)
  rintro m' rfl
  refine q_iload_n (t := 5) F dX9_eats_4 rfl rfl rfl ?_
  refine q_istore (t := 7) F dX9_eats_5 (by decide) rfl rfl ?_
  refine q_iconst (t := 8) F dX9_eats_7 rfl ?_
  refine q_istore (t := 10) F dX9_eats_8 (by decide) rfl rfl ?_
  refine q_iconst (t := 11) F dX9_eats_10 rfl ?_
  refine q_istore (t := 13) F dX9_eats_11 (by decide) rfl rfl ?_
  have L13 : ∀ (fz : Nat) (i : Nat) (S lg : IM), 17 - i < fz → (i ≤ n ∧ RI S ∧ RC S ∧ agY S (eaI im p seed i) ∧ PK im S ∧ lgQ lg lm) → Wp M (XR G) ad Y_X9_eats (pI fun x m' => ∃ im' lm', x = eaN im p seed n ∧ RI im' ∧ agS im' im ∧ lgQ lm' lm ∧ m' = (im', rs bt rt, lm')) 13 [some (vR 30 0), some (vI (p : Int)), some (vI seed), some (vI (n : Int)), some (vI (dwZ seed i)), some (vI (eaN im p seed i)), some (vI (i : Int))] [] (S, rs bt rt, lg) := by
    intro fz
    induction fz with
    | zero => intro i S lg h; exact absurd h (Nat.not_lt_zero _)
    | succ fz ih =>
      have ih13 := ih
      intro i S lg hmeas ⟨hi, hRS, hRC, hag, hpk, hlg⟩
      have hea := eaN_in im p seed i
      have hes := eaN_s im p seed i
      have e12 : S 30 0 12 = im 30 0 12 := (hpk.1 30 12 (by omega) (by omega)).trans rfl
      refine q_iload (t := 15) F dX9_eats_13 rfl rfl ?_
      refine q_iload_n (t := 16) F dX9_eats_15 rfl rfl rfl ?_
      refine q_icmp_ge (t := 19) (u := 66) F dX9_eats_16 (by constructor <;> omega) (by constructor <;> omega) (by decide) rfl (fun c16 => ?_) (fun c16 => ?_)
      · refine q_aload_n (t := 67) F dX9_eats_66 rfl rfl rfl ?_
        refine wp_callV (t := 70) [] F dX9_eats_67 k_X9_laysBack v_X9_laysBack ml_X9_407 rfl rfl rfl rfl (Nat.le_of_ble_eq_true rfl) (by decide) (m_30 (by omega)) (g_X9_laysBack _ G S bt rt lg hRS) rfl (kV ?_)
        rintro m' rfl
        refine q_iload (t := 72) F dX9_eats_70 rfl rfl ?_
        refine q_iret F dX9_eats_72 rfl ?_
        obtain rfl : i = n := by omega
        exact ⟨_, rfl, _, lg, rfl, backI_RI hRS, (backI_R hpk.1 hpk.2).S, hlg, rfl⟩
      · refine q_iload (t := 21) F dX9_eats_19 rfl rfl ?_
        refine q_ldcw (t := 24) (x := 1103515245) F dX9_eats_21 ki_X9_449 (by decide) rfl ?_
        refine q_imul (t := 25) F dX9_eats_24 rfl ?_
        refine q_sipush (t := 28) F dX9_eats_25 (by decide) rfl ?_
        refine q_iadd (t := 29) F dX9_eats_28 rfl ?_
        refine q_norm ?_
        refine q_istore (t := 31) F dX9_eats_29 (by decide) rfl rfl ?_
        refine q_iload (t := 33) F dX9_eats_31 rfl rfl ?_
        refine q_aload_n (t := 34) F dX9_eats_33 rfl rfl rfl ?_
        refine q_iload_n (t := 35) F dX9_eats_34 rfl rfl rfl ?_
        refine q_iload (t := 37) F dX9_eats_35 rfl rfl ?_
        refine q_iload (t := 39) F dX9_eats_37 rfl rfl ?_
        refine q_bipush (t := 41) F dX9_eats_39 (by decide) rfl ?_
        refine q_iushr (t := 42) F dX9_eats_41 (by omega) (by omega) rfl ?_
        rw [show (2 : Int) ^ (9 : Int).toNat = 512 from rfl]
        have hdw : 0 ≤ dwF seed i ∧ dwF seed i < 10 := by unfold dwF; omega
        refine q_bipush (t := 44) F dX9_eats_42 (by decide) rfl ?_
        refine q_irem (t := 45) F dX9_eats_44 (by constructor <;> omega) (by constructor <;> omega) (by omega) (by omega) rfl ?_
        rw [show bm (dwZ seed i * 1103515245 + 12345) % 4294967296 / 512 % 10 = dwF seed i from rfl]
        refine wp_callV (t := 48) [_, _, _] F dX9_eats_45 k_X9_speaks v_X9_speaks ml_X9_364 rfl rfl rfl rfl (Nat.le_of_ble_eq_true rfl) (by decide) (m_30 (by omega)) (c_X9_speaks _ G S bt rt lg hRC p (by rw [e12]; exact hp) (i : Int) (dwF seed i) (by constructor <;> omega) (by constructor <;> omega)) rfl (kI ?_)
        rintro x45 m' ⟨im2, lg2, hx45, hR2, hag2, hlg2, rfl⟩
        rw [utR_ag hag] at hx45
        have hut := utR_in (im := eaI im p seed i) (p := p) (w := (i : Int)) (fd := dwF seed i)
        have hrc := RC_say hRC hR2 hag2 (p := p) (w := (i : Int)) (fd := dwF seed i) (by omega)
        have hst : stepB (im 30 0 12) 0 (p : Int) (i : Int) (dwF seed i) = 1 := by
          unfold stepB
          rw [if_neg (by omega), if_neg (by omega), if_pos rfl, if_pos (by omega)]
        have hpk2 := PK_tk hpk (S1 := spR S im2 p (i : Int) (dwF seed i)) (t := 0) (by omega) h12 hst (by unfold tkR; rw [if_pos rfl, Int.toNat_natCast]; exact spR_ag hag2 _ _ _)
        have hag3 : agY (spR S im2 p (i : Int) (dwF seed i)) (eaI im p seed (i + 1)) := spR_ag2 hag (hag2.trans hag) _ _ _
        refine q_iconst (t := 49) F dX9_eats_48 rfl ?_
        refine q_icmp_ne (t := 52) (u := 56) F dX9_eats_49 (by constructor <;> omega) (by constructor <;> omega) (by decide) rfl (fun c49 => ?_) (fun c49 => ?_)
        · refine q_iconst (t := 57) F dX9_eats_56 rfl ?_
          refine q_iadd (t := 58) F dX9_eats_57 rfl ?_
          refine q_istore (t := 60) F dX9_eats_58 (by decide) rfl rfl ?_
          refine q_iinc (t := 63) F dX9_eats_60 rfl (by decide) rfl rfl ?_
          refine q_goto (t := 13) F dX9_eats_63 (by decide) ?_
          rw [show (i : Int) + 1 = ((i + 1 : Nat) : Int) by omega]
          first
            | (rw [show eaN im p seed i + 0 = eaN im p seed (i + 1) by rw [hes, if_pos (by omega), Int.add_zero]]
               exact ih13 (i + 1) _ lg2 (by omega) ⟨by omega, hrc.1, hrc, hag3, hpk2, hlg2.trans hlg⟩)
            | (rw [show eaN im p seed i + 1 = eaN im p seed (i + 1) by rw [hes, if_neg (by omega)]]
               exact ih13 (i + 1) _ lg2 (by omega) ⟨by omega, hrc.1, hrc, hag3, hpk2, hlg2.trans hlg⟩)
            | omega
        · refine q_iconst (t := 53) F dX9_eats_52 rfl ?_
          refine q_goto (t := 57) F dX9_eats_53 (by decide) ?_
          refine q_iadd (t := 58) F dX9_eats_57 rfl ?_
          refine q_istore (t := 60) F dX9_eats_58 (by decide) rfl rfl ?_
          refine q_iinc (t := 63) F dX9_eats_60 rfl (by decide) rfl rfl ?_
          refine q_goto (t := 13) F dX9_eats_63 (by decide) ?_
          rw [show (i : Int) + 1 = ((i + 1 : Nat) : Int) by omega]
          first
            | (rw [show eaN im p seed i + 0 = eaN im p seed (i + 1) by rw [hes, if_pos (by omega), Int.add_zero]]
               exact ih13 (i + 1) _ lg2 (by omega) ⟨by omega, hrc.1, hrc, hag3, hpk2, hlg2.trans hlg⟩)
            | (rw [show eaN im p seed i + 1 = eaN im p seed (i + 1) by rw [hes, if_neg (by omega)]]
               exact ih13 (i + 1) _ lg2 (by omega) ⟨by omega, hrc.1, hrc, hag3, hpk2, hlg2.trans hlg⟩)
            | omega
  exact L13 _ 0 (asideI im) lm (Nat.lt_succ_self _) ⟨by omega, hRa, hRCa, agY_rfl _, PK_0 (agY_rfl _), lgQ_rfl lm⟩

set_option maxHeartbeats 4000000 in
theorem c_X9_drawn (l : Launch) (G : GS) (im : IM) (bt rt : Nat) (lm : IM) (h : RC im) (p seed n : Int) (hp : ri p) (hseed : ri seed) (hn : ri n) : Cn l (XR G) yX9_drawn Y_X9_drawn [vR 30 0, vI p, vI seed, vI n] (im, rs bt rt, lm) (pI fun x m' => ∃ im' lm', x = (if ((0 ≤ p ∧ p < im 30 0 12) ∧ 0 ≤ n ∧ n ≤ 16) then eaN im p.toNat seed n.toNat else -2) ∧ RI im' ∧ agS im' im ∧ lgQ lm' lm ∧ m' = (im', rs bt rt, lm')) := by
  refine cn_of (by decide) (okR G) rfl (Nat.le_of_ble_eq_true rfl) ?_
  intro M ad hMl F
  subst hMl
  have hR := h.1
  have hX := h.2.1
  have h4 := h.2.2.1
  have h12 := h.2.2.2.1
  have h7 := h.2.2.2.2.1
  have h6 := hX.2.2.1
  have h3 := hX.2.2.2.1
  have hP := h.2.2.2.2.2.2
  have hR := h.1
  have p1 := hp.1
  have p2 := hp.2
  have n1 := hn.1
  have n2 := hn.2
  refine wp_pad 0 ?_
  show Wp M (XR G) ad Y_X9_drawn (pI fun x m' => ∃ im' lm', x = (if ((0 ≤ p ∧ p < im 30 0 12) ∧ 0 ≤ n ∧ n ≤ 16) then eaN im p.toNat seed n.toNat else -2) ∧ RI im' ∧ agS im' im ∧ lgQ lm' lm ∧ m' = (im', rs bt rt, lm')) 0 [some (vR 30 0), some (vI p), some (vI seed), some (vI n)] [] (im, rs bt rt, lm)
  refine q_aload_n (t := 1) F dX9_drawn_0 rfl rfl rfl ?_
  refine q_iload_n (t := 2) F dX9_drawn_1 rfl rfl rfl ?_
  refine wp_callV (t := 5) [_] F dX9_drawn_2 k_X9_isOne v_X9_isOne ml_X9_101 rfl rfl rfl rfl (Nat.le_of_ble_eq_true rfl) (by decide) (m_30 (by omega)) (c_X9_isOne _ G im bt rt lm hR h12.1 h12.2 p (by constructor <;> omega)) rfl (kI ?_)
  rintro x2 m' ⟨hx2, rfl⟩
  have hx2 := if01 hx2
  refine q_if_eq (t := 8) (u := 30) F dX9_drawn_5 (by first | exact hR _ _ _ | (constructor <;> omega)) (by decide) rfl (fun c5 => ?_) (fun c5 => ?_)
  · refine q_bipush (t := 32) F dX9_drawn_30 (by decide) rfl ?_
    refine q_iret F dX9_drawn_32 rfl ?_
    first
      | (refine ⟨_, rfl, im, lm, ?_, hR, agS_rfl im, lgQ_rfl lm, rfl⟩
         rw [if_neg (by omega)])
      | (refine ⟨_, rfl, im2, lm2, ?_, hR2, hag2, hlg2, rfl⟩
         rw [if_pos (by omega)]
         exact hx24)
      | omega
  · refine q_iload_n (t := 9) F dX9_drawn_8 rfl rfl rfl ?_
    refine q_i2l (t := 10) F dX9_drawn_9 (by first | exact hR _ _ _ | (constructor <;> omega)) rfl ?_
    refine q_lconst (t := 11) (x := 0) F dX9_drawn_10 (by decide) rfl ?_
    refine q_ldc2 (t := 14) (x := 16) F dX9_drawn_11 kl_X9_450 (by decide) rfl ?_
    refine wp_callS (t := 17) [_, _, _] F dX9_drawn_14 k_X9_in st_X9_in ml_X9_91 rfl rfl (Nat.le_of_ble_eq_true rfl) (by decide) (c_X9_in _ G _ _ _ _ _ _ _ (by constructor <;> omega) (by constructor <;> omega) (by constructor <;> omega)) rfl (kI ?_)
    rintro x14 m' ⟨hx14, rfl⟩
    have hx14 := if01 hx14
    refine q_if_eq (t := 20) (u := 30) F dX9_drawn_17 (by first | exact hR _ _ _ | (constructor <;> omega)) (by decide) rfl (fun c17 => ?_) (fun c17 => ?_)
    · refine q_bipush (t := 32) F dX9_drawn_30 (by decide) rfl ?_
      refine q_iret F dX9_drawn_32 rfl ?_
      first
        | (refine ⟨_, rfl, im, lm, ?_, hR, agS_rfl im, lgQ_rfl lm, rfl⟩
           rw [if_neg (by omega)])
        | (refine ⟨_, rfl, im2, lm2, ?_, hR2, hag2, hlg2, rfl⟩
           rw [if_pos (by omega)]
           exact hx24)
        | omega
    · refine q_aload_n (t := 21) F dX9_drawn_20 rfl rfl rfl ?_
      rw [show vI p = vI ((p.toNat : Nat) : Int) by rw [Int.toNat_of_nonneg (by omega)]]
      refine q_iload_n (t := 22) F dX9_drawn_21 rfl rfl rfl ?_
      refine q_iload_n (t := 23) F dX9_drawn_22 rfl rfl rfl ?_
      refine q_iload_n (t := 24) F dX9_drawn_23 rfl rfl rfl ?_
      rw [show vI n = vI ((n.toNat : Nat) : Int) by rw [Int.toNat_of_nonneg (by omega)]]
      try rw [show vI p = vI ((p.toNat : Nat) : Int) by rw [Int.toNat_of_nonneg (by omega)]]
      refine wp_callV (t := 27) [_, _, _] F dX9_drawn_24 k_X9_eats v_X9_eats ml_X9_452 rfl rfl rfl rfl (Nat.le_of_ble_eq_true rfl) (by decide) (m_30 (by omega)) (c_X9_eats _ G im bt rt lm h p.toNat n.toNat (by omega) (by omega) seed hseed) rfl (kI ?_)
      rintro x24 m' ⟨im2, lm2, hx24, hR2, hag2, hlg2, rfl⟩
      refine q_goto (t := 32) F dX9_drawn_27 (by decide) ?_
      refine q_iret F dX9_drawn_32 rfl ?_
      first
        | (refine ⟨_, rfl, im, lm, ?_, hR, agS_rfl im, lgQ_rfl lm, rfl⟩
           rw [if_neg (by omega)])
        | (refine ⟨_, rfl, im2, lm2, ?_, hR2, hag2, hlg2, rfl⟩
           rw [if_pos (by omega)]
           exact hx24)
        | omega

set_option maxHeartbeats 4000000 in
theorem c_X9_chance (l : Launch) (G : GS) (im : IM) (bt rt : Nat) (lm : IM) (h : RC im) (p seed n part : Int) (hp : ri p) (hseed : ri seed) (hn : ri n) (hpart : ri part) : Cn l (XR G) yX9_chance Y_X9_chance [vR 30 0, vI p, vI seed, vI n, vI part] (im, rs bt rt, lm) (pL fun x m' => ∃ im' lm', x = (if (((0 : Int) ≤ p ∧ p < im 30 0 12) ∧ ((1 : Int) ≤ n ∧ (n : Int) ≤ 20) ∧ 0 ≤ part ∧ part ≤ 1) then (if part = 0 then hiR im (Int.toNat p) seed (Int.toNat n) else n) / ((Nat.gcd (hiR im (Int.toNat p) seed (Int.toNat n)).toNat (Int.toNat n) : Nat) : Int) else -4611686018427387904) ∧ RI im' ∧ agS im' im ∧ lgQ lm' lm ∧ m' = (im', rs bt rt, lm')) := by
  refine cn_of (by decide) (okR G) rfl (Nat.le_of_ble_eq_true rfl) ?_
  intro M ad hMl F
  subst hMl
  have hR := h.1
  have hX := h.2.1
  have h4 := h.2.2.1
  have h12 := h.2.2.2.1
  have h7 := h.2.2.2.2.1
  have h6 := hX.2.2.1
  have h3 := hX.2.2.2.1
  have hP := h.2.2.2.2.2.2
  have hR := h.1
  have p1 := hp.1
  have p2 := hp.2
  have n1 := hn.1
  have n2 := hn.2
  have part1 := hpart.1
  have part2 := hpart.2
  refine wp_pad 8 ?_
  show Wp M (XR G) ad Y_X9_chance (pL fun x m' => ∃ im' lm', x = (if (((0 : Int) ≤ p ∧ p < im 30 0 12) ∧ ((1 : Int) ≤ n ∧ (n : Int) ≤ 20) ∧ 0 ≤ part ∧ part ≤ 1) then (if part = 0 then hiR im (Int.toNat p) seed (Int.toNat n) else n) / ((Nat.gcd (hiR im (Int.toNat p) seed (Int.toNat n)).toNat (Int.toNat n) : Nat) : Int) else -4611686018427387904) ∧ RI im' ∧ agS im' im ∧ lgQ lm' lm ∧ m' = (im', rs bt rt, lm')) 0 [some (vR 30 0), some (vI p), some (vI seed), some (vI n), some (vI part), none, none, none, none, none, none, none, none] [] (im, rs bt rt, lm)
  refine q_aload_n (t := 1) F dX9_chance_0 rfl rfl rfl ?_
  refine q_iload_n (t := 2) F dX9_chance_1 rfl rfl rfl ?_
  refine wp_callV (t := 5) [_] F dX9_chance_2 k_X9_isOne v_X9_isOne ml_X9_101 rfl rfl rfl rfl (Nat.le_of_ble_eq_true rfl) (by decide) (m_30 (by omega)) (c_X9_isOne _ G im bt rt lm hR h12.1 h12.2 p (by constructor <;> omega)) rfl (kI ?_)
  rintro x2 m' ⟨hx2, rfl⟩
  have hx2 := if01 hx2
  refine q_if_eq (t := 8) (u := 31) F dX9_chance_5 (by first | exact hR _ _ _ | (constructor <;> omega)) (by decide) rfl (fun c5 => ?_) (fun c5 => ?_)
  · refine q_ldc2 (t := 34) (x := -4611686018427387904) F dX9_chance_31 kl_X9_457 (by decide) rfl ?_
    refine q_lret F dX9_chance_34 rfl ?_
    try simp only [Int.toNat_natCast]
    first
      | (refine ⟨_, rfl, im, lm, ?_, hR, agS_rfl im, lgQ_rfl lm, rfl⟩
         rw [if_neg (by omega)])
      | (have ey : y = 0 := by omega
         subst ey
         refine ⟨_, rfl, S, lg, ?_, hRS, hag, hlg, rfl⟩
         rw [Nat.gcd_zero_right] at hgc
         (try rw [etp, etn])
         rw [if_pos (by omega), ← hgc]
         first
           | rw [if_pos (by omega)]
           | rw [if_neg (by omega)])
      | omega
  · refine q_iload_n (t := 9) F dX9_chance_8 rfl rfl rfl ?_
    refine q_i2l (t := 10) F dX9_chance_9 (by first | exact hR _ _ _ | (constructor <;> omega)) rfl ?_
    refine q_lconst (t := 11) (x := 1) F dX9_chance_10 (by decide) rfl ?_
    refine q_ldc2 (t := 14) (x := 20) F dX9_chance_11 kl_X9_455 (by decide) rfl ?_
    refine wp_callS (t := 17) [_, _, _] F dX9_chance_14 k_X9_in st_X9_in ml_X9_91 rfl rfl (Nat.le_of_ble_eq_true rfl) (by decide) (c_X9_in _ G _ _ _ _ _ _ _ (by constructor <;> omega) (by constructor <;> omega) (by constructor <;> omega)) rfl (kI ?_)
    rintro x14 m' ⟨hx14, rfl⟩
    have hx14 := if01 hx14
    refine q_if_eq (t := 20) (u := 31) F dX9_chance_17 (by first | exact hR _ _ _ | (constructor <;> omega)) (by decide) rfl (fun c17 => ?_) (fun c17 => ?_)
    · refine q_ldc2 (t := 34) (x := -4611686018427387904) F dX9_chance_31 kl_X9_457 (by decide) rfl ?_
      refine q_lret F dX9_chance_34 rfl ?_
      try simp only [Int.toNat_natCast]
      first
        | (refine ⟨_, rfl, im, lm, ?_, hR, agS_rfl im, lgQ_rfl lm, rfl⟩
           rw [if_neg (by omega)])
        | (have ey : y = 0 := by omega
           subst ey
           refine ⟨_, rfl, S, lg, ?_, hRS, hag, hlg, rfl⟩
           rw [Nat.gcd_zero_right] at hgc
           (try rw [etp, etn])
           rw [if_pos (by omega), ← hgc]
           first
             | rw [if_pos (by omega)]
             | rw [if_neg (by omega)])
        | omega
    · refine q_iload (t := 22) F dX9_chance_20 rfl rfl ?_
      refine q_i2l (t := 23) F dX9_chance_22 (by first | exact hR _ _ _ | (constructor <;> omega)) rfl ?_
      refine q_lconst (t := 24) (x := 0) F dX9_chance_23 (by decide) rfl ?_
      refine q_lconst (t := 25) (x := 1) F dX9_chance_24 (by decide) rfl ?_
      refine wp_callS (t := 28) [_, _, _] F dX9_chance_25 k_X9_in st_X9_in ml_X9_91 rfl rfl (Nat.le_of_ble_eq_true rfl) (by decide) (c_X9_in _ G _ _ _ _ _ _ _ (by constructor <;> omega) (by constructor <;> omega) (by constructor <;> omega)) rfl (kI ?_)
      rintro x25 m' ⟨hx25, rfl⟩
      have hx25 := if01 hx25
      refine q_if_ne (t := 31) (u := 35) F dX9_chance_28 (by first | exact hR _ _ _ | (constructor <;> omega)) (by decide) rfl (fun c28 => ?_) (fun c28 => ?_)
      · obtain ⟨p, rfl⟩ : ∃ j : Nat, p = (j : Int) := ⟨p.toNat, by omega⟩
        obtain ⟨n, rfl⟩ : ∃ j : Nat, n = (j : Int) := ⟨n.toNat, by omega⟩
        have etp : ((p : Nat) : Int).toNat = p := Int.toNat_natCast p
        have etn : ((n : Nat) : Int).toNat = n := Int.toNat_natCast n
        refine q_lconst (t := 36) (x := 0) F dX9_chance_35 (by decide) rfl ?_
        refine q_lstore (t := 38) F dX9_chance_36 (by decide) rfl rfl ?_
        refine q_iconst (t := 39) F dX9_chance_38 rfl ?_
        refine q_istore (t := 41) F dX9_chance_39 (by decide) rfl rfl ?_
        have L41 : ∀ (fz : Nat) (k : Nat) (S lg : IM), 21 - k < fz → (k ≤ n ∧ RI S ∧ agS S im ∧ lgQ lg lm) → Wp M (XR G) ad Y_X9_chance (pL fun x m' => ∃ im' lm', x = (if (((0 : Int) ≤ p ∧ p < im 30 0 12) ∧ ((1 : Int) ≤ n ∧ (n : Int) ≤ 20) ∧ 0 ≤ part ∧ part ≤ 1) then (if part = 0 then hiR im (Int.toNat p) seed (Int.toNat n) else n) / ((Nat.gcd (hiR im (Int.toNat p) seed (Int.toNat n)).toNat (Int.toNat n) : Nat) : Int) else -4611686018427387904) ∧ RI im' ∧ agS im' im ∧ lgQ lm' lm ∧ m' = (im', rs bt rt, lm')) 41 [some (vR 30 0), some (vI (p : Int)), some (vI seed), some (vI (n : Int)), some (vI part), some (vL (hiR im p seed k)), none, some (vI (k : Int)), none, none, none, none, none] [] (S, rs bt rt, lg) := by
          intro fz
          induction fz with
          | zero => intro k S lg h; exact absurd h (Nat.not_lt_zero _)
          | succ fz ih =>
            have ih41 := ih
            intro k S lg hmeas ⟨hk, hRS, hag, hlg⟩
            have e12 : S 30 0 12 = im 30 0 12 := hag.C.1.2.2.2.2.2
            have hhi := hiR_in im p seed k
            have hhs := hiR_s im p seed k
            refine q_iload (t := 43) F dX9_chance_41 rfl rfl ?_
            refine q_iload_n (t := 44) F dX9_chance_43 rfl rfl rfl ?_
            refine q_icmp_ge (t := 47) (u := 78) F dX9_chance_44 (by constructor <;> omega) (by constructor <;> omega) (by decide) rfl (fun c44 => ?_) (fun c44 => ?_)
            · obtain rfl : n = k := by omega
              refine q_lload (t := 80) F dX9_chance_78 rfl rfl ?_
              refine q_lstore (t := 82) F dX9_chance_80 (by decide) rfl rfl ?_
              refine q_iload_n (t := 83) F dX9_chance_82 rfl rfl rfl ?_
              refine q_i2l (t := 84) F dX9_chance_83 (by constructor <;> omega) rfl ?_
              refine q_lstore (t := 86) F dX9_chance_84 (by decide) rfl rfl ?_
              have L86 : ∀ (fz : Nat) (x y : Nat), y < fz → (x ≤ 20 ∧ y ≤ 20 ∧ Nat.gcd x y = Nat.gcd (hiR im p seed n).toNat n) → Wp M (XR G) ad Y_X9_chance (pL fun x m' => ∃ im' lm', x = (if (((0 : Int) ≤ p ∧ p < im 30 0 12) ∧ ((1 : Int) ≤ n ∧ (n : Int) ≤ 20) ∧ 0 ≤ part ∧ part ≤ 1) then (if part = 0 then hiR im (Int.toNat p) seed (Int.toNat n) else n) / ((Nat.gcd (hiR im (Int.toNat p) seed (Int.toNat n)).toNat (Int.toNat n) : Nat) : Int) else -4611686018427387904) ∧ RI im' ∧ agS im' im ∧ lgQ lm' lm ∧ m' = (im', rs bt rt, lm')) 86 [some (vR 30 0), some (vI (p : Int)), some (vI seed), some (vI (n : Int)), some (vI part), some (vL (hiR im p seed n)), none, some (vL (x : Int)), none, some (vL (y : Int)), none, none, none] [] (S, rs bt rt, lg) := by
                intro fz
                induction fz with
                | zero => intro x y h; exact absurd h (Nat.not_lt_zero _)
                | succ fz ih =>
                  have ih86 := ih
                  intro x y hmeas ⟨hx, hy, hgc⟩
                  have hgp : 0 < Nat.gcd (hiR im p seed n).toNat n := Nat.gcd_pos_of_pos_right _ (by omega)
                  have e1 : cmpI (y : Int) 0 < 0 ↔ (y : Int) < 0 := cmpI_lt
                  have e2 : 0 < cmpI (y : Int) 0 ↔ 0 < (y : Int) := cmpI_gt
                  refine q_lload (t := 88) F dX9_chance_86 rfl rfl ?_
                  refine q_lconst (t := 89) (x := 0) F dX9_chance_88 (by decide) rfl ?_
                  refine q_lcmp (t := 90) F dX9_chance_89 (by constructor <;> omega) (by constructor <;> omega) rfl ?_
                  refine q_if_eq (t := 93) (u := 111) F dX9_chance_90 (by exact cmpI_ri _ _) (by decide) rfl (fun c90 => ?_) (fun c90 => ?_)
                  · have y0 : y = 0 := by omega
                    have hx0 : 0 < x := by rw [y0, Nat.gcd_zero_right] at hgc; omega
                    refine q_iload (t := 113) F dX9_chance_111 rfl rfl ?_
                    refine q_if_ne (t := 116) (u := 124) F dX9_chance_113 (by first | exact hR _ _ _ | (constructor <;> omega)) (by decide) rfl (fun c113 => ?_) (fun c113 => ?_)
                    · refine q_iload_n (t := 125) F dX9_chance_124 rfl rfl rfl ?_
                      refine q_i2l (t := 126) F dX9_chance_125 (by constructor <;> omega) rfl ?_
                      refine q_lload (t := 128) F dX9_chance_126 rfl rfl ?_
                      refine q_ldiv (t := 129) F dX9_chance_128 (by constructor <;> omega) (by constructor <;> omega) (by omega) (by omega) rfl ?_
                      refine q_lret F dX9_chance_129 rfl ?_
                      try simp only [Int.toNat_natCast]
                      first
                        | (refine ⟨_, rfl, im, lm, ?_, hR, agS_rfl im, lgQ_rfl lm, rfl⟩
                           rw [if_neg (by omega)])
                        | (have ey : y = 0 := by omega
                           subst ey
                           refine ⟨_, rfl, S, lg, ?_, hRS, hag, hlg, rfl⟩
                           rw [Nat.gcd_zero_right] at hgc
                           (try rw [etp, etn])
                           rw [if_pos (by omega), ← hgc]
                           first
                             | rw [if_pos (by omega)]
                             | rw [if_neg (by omega)])
                        | omega
                    · refine q_lload (t := 118) F dX9_chance_116 rfl rfl ?_
                      refine q_lload (t := 120) F dX9_chance_118 rfl rfl ?_
                      refine q_ldiv (t := 121) F dX9_chance_120 (by constructor <;> omega) (by constructor <;> omega) (by omega) (by omega) rfl ?_
                      refine q_goto (t := 129) F dX9_chance_121 (by decide) ?_
                      refine q_lret F dX9_chance_129 rfl ?_
                      try simp only [Int.toNat_natCast]
                      first
                        | (refine ⟨_, rfl, im, lm, ?_, hR, agS_rfl im, lgQ_rfl lm, rfl⟩
                           rw [if_neg (by omega)])
                        | (have ey : y = 0 := by omega
                           subst ey
                           refine ⟨_, rfl, S, lg, ?_, hRS, hag, hlg, rfl⟩
                           rw [Nat.gcd_zero_right] at hgc
                           (try rw [etp, etn])
                           rw [if_pos (by omega), ← hgc]
                           first
                             | rw [if_pos (by omega)]
                             | rw [if_neg (by omega)])
                        | omega
                  · refine q_lload (t := 95) F dX9_chance_93 rfl rfl ?_
                    refine q_lload (t := 97) F dX9_chance_95 rfl rfl ?_
                    refine q_lrem (t := 98) F dX9_chance_97 (by constructor <;> omega) (by constructor <;> omega) (by omega) (by omega) rfl ?_
                    refine q_lstore (t := 100) F dX9_chance_98 (by decide) rfl rfl ?_
                    refine q_lload (t := 102) F dX9_chance_100 rfl rfl ?_
                    refine q_lstore (t := 104) F dX9_chance_102 (by decide) rfl rfl ?_
                    refine q_lload (t := 106) F dX9_chance_104 rfl rfl ?_
                    refine q_lstore (t := 108) F dX9_chance_106 (by decide) rfl rfl ?_
                    refine q_goto (t := 86) F dX9_chance_108 (by decide) ?_
                    refine wp_less 11 ?_
                    have hy0 : 0 < y := by omega
                    rw [show (x : Int) % (y : Int) = ((x % y : Nat) : Int) from (Int.natCast_emod x y).symm]
                    have hml := Nat.mod_lt x hy0
                    exact ih86 y (x % y) (by omega) ⟨by omega, by omega, by rw [← hgc, Nat.gcd_comm y (x % y), ← Nat.gcd_rec, Nat.gcd_comm]⟩
              have L0 := L86 _ (hiR im p seed n).toNat n (Nat.lt_succ_self _) ⟨by omega, by omega, rfl⟩
              rw [Int.toNat_of_nonneg hhi.1] at L0
              exact L0
            · refine q_lload (t := 49) F dX9_chance_47 rfl rfl ?_
              refine q_aload_n (t := 50) F dX9_chance_49 rfl rfl rfl ?_
              refine q_iload_n (t := 51) F dX9_chance_50 rfl rfl rfl ?_
              refine q_iload_n (t := 52) F dX9_chance_51 rfl rfl rfl ?_
              refine q_iload (t := 54) F dX9_chance_52 rfl rfl ?_
              refine q_iadd (t := 55) F dX9_chance_54 rfl ?_
              refine q_norm ?_
              refine q_bipush (t := 57) F dX9_chance_55 (by decide) rfl ?_
              refine wp_callV (t := 60) [_, _, _] F dX9_chance_57 k_X9_eats v_X9_eats ml_X9_452 rfl rfl rfl rfl (Nat.le_of_ble_eq_true rfl) (by decide) (m_30 (by omega)) (c_X9_eats _ G S bt rt lg (h.S hRS hag) p 16 (by rw [e12]; omega) (by omega) (bm (seed + (k : Int))) (ri_b _)) rfl (kI ?_)
              rintro x57 m' ⟨im2, lm2, hx57, hR2, hag2, hlg2, rfl⟩
              rw [(eaI_C hag.C.1 hag.C.2 p (bm (seed + (k : Int))) 16).2] at hx57
              have hea := eaN_in im p (bm (seed + (k : Int))) 16
              refine q_iconst (t := 61) F dX9_chance_60 rfl ?_
              refine q_icmp_le (t := 64) (u := 68) F dX9_chance_61 (by first | exact hR _ _ _ | (constructor <;> omega)) (by first | exact hR _ _ _ | (constructor <;> omega)) (by decide) rfl (fun c61 => ?_) (fun c61 => ?_)
              · refine q_lconst (t := 69) (x := 0) F dX9_chance_68 (by decide) rfl ?_
                refine q_ladd (t := 70) F dX9_chance_69 rfl ?_
                refine q_lstore (t := 72) F dX9_chance_70 (by decide) rfl rfl ?_
                refine q_iinc (t := 75) F dX9_chance_72 rfl (by decide) rfl rfl ?_
                refine q_goto (t := 41) F dX9_chance_75 (by decide) ?_
                rw [show (k : Int) + 1 = ((k + 1 : Nat) : Int) by omega]
                first
                  | (rw [show hiR im p seed k + 1 = hiR im p seed (k + 1) by rw [hhs, if_pos (by omega)]]
                     exact ih41 (k + 1) _ lm2 (by omega) ⟨by omega, hR2, hag2.trans hag, hlg2.trans hlg⟩)
                  | (rw [show hiR im p seed k + 0 = hiR im p seed (k + 1) by rw [hhs, if_neg (by omega), Int.add_zero]]
                     exact ih41 (k + 1) _ lm2 (by omega) ⟨by omega, hR2, hag2.trans hag, hlg2.trans hlg⟩)
                  | omega
              · refine q_lconst (t := 65) (x := 1) F dX9_chance_64 (by decide) rfl ?_
                refine q_goto (t := 69) F dX9_chance_65 (by decide) ?_
                refine q_ladd (t := 70) F dX9_chance_69 rfl ?_
                refine q_lstore (t := 72) F dX9_chance_70 (by decide) rfl rfl ?_
                refine q_iinc (t := 75) F dX9_chance_72 rfl (by decide) rfl rfl ?_
                refine q_goto (t := 41) F dX9_chance_75 (by decide) ?_
                rw [show (k : Int) + 1 = ((k + 1 : Nat) : Int) by omega]
                first
                  | (rw [show hiR im p seed k + 1 = hiR im p seed (k + 1) by rw [hhs, if_pos (by omega)]]
                     exact ih41 (k + 1) _ lm2 (by omega) ⟨by omega, hR2, hag2.trans hag, hlg2.trans hlg⟩)
                  | (rw [show hiR im p seed k + 0 = hiR im p seed (k + 1) by rw [hhs, if_neg (by omega), Int.add_zero]]
                     exact ih41 (k + 1) _ lm2 (by omega) ⟨by omega, hR2, hag2.trans hag, hlg2.trans hlg⟩)
                  | omega
        exact L41 _ 0 im lm (Nat.lt_succ_self _) ⟨by omega, hR, agS_rfl im, lgQ_rfl lm⟩
      · refine q_ldc2 (t := 34) (x := -4611686018427387904) F dX9_chance_31 kl_X9_457 (by decide) rfl ?_
        refine q_lret F dX9_chance_34 rfl ?_
        try simp only [Int.toNat_natCast]
        first
          | (refine ⟨_, rfl, im, lm, ?_, hR, agS_rfl im, lgQ_rfl lm, rfl⟩
             rw [if_neg (by omega)])
          | (have ey : y = 0 := by omega
             subst ey
             refine ⟨_, rfl, S, lg, ?_, hRS, hag, hlg, rfl⟩
             rw [Nat.gcd_zero_right] at hgc
             (try rw [etp, etn])
             rw [if_pos (by omega), ← hgc]
             first
               | rw [if_pos (by omega)]
               | rw [if_neg (by omega)])
          | omega
end
