/-! the reference: foods, best, few -/

theorem utR_ag {S im : IM} (h : agY S im) (p : Nat) (w fd : Int) : utR S p w fd = utR im p w fd := by
  have es : stR S p = stR im p := funext fun g => h 36 0 _ (by omega)
  have eg : gpR S p w fd = gpR im p w fd := by
    unfold gpR
    rw [es, sayR_ag h, h 34 0 _ (by omega), h 35 0 _ (by omega), h 30 0 4 (by omega), h 30 0 7 (by omega)]
  unfold utR
  rw [eg, h 36 0 _ (by omega)]
def alR (im : IM) : Nat → Int := smF (fun p => cntW (stR im p) 10)
def fdR (im : IM) (p : Nat) (w gap : Int) : Nat → Nat
  | 0 => 0
  | f + 1 => if utR im p w f = gap then fdR im p w gap f ||| 2 ^ f else fdR im p w gap f
theorem fdR_s (im : IM) (p : Nat) (w gap : Int) (f : Nat) : fdR im p w gap (f + 1) = if utR im p w f = gap then fdR im p w gap f ||| 2 ^ f else fdR im p w gap f := rfl
theorem pow_cast0 (g : Nat) : (0 : Int) * 2 ^ (g : Int).toNat = ((0 : Nat) : Int) := by
  rw [Int.zero_mul]
  rfl
theorem dB_lim {f : Nat → Int} (h : ∀ q, 0 ≤ f q ∧ f q ≤ 700) (n : Nat) : (0 ≤ (dB f n).2 ∧ (dB f n).2 ≤ 700) ∧ -1 ≤ (dB f n).1 ∧ (dB f n).1 < n ∧ ((dB f n).1 = -1 → (dB f n).2 = 0) ∧ ((dB f n).1 ≠ -1 → (dB f n).2 = f (dB f n).1.toNat) := by
  induction n with
  | zero => exact ⟨⟨Int.le_refl 0, by show (0 : Int) ≤ 700; omega⟩, by show (-1 : Int) ≤ -1; omega, by show (-1 : Int) < 0; omega, fun _ => rfl, fun z => absurd rfl z⟩
  | succ n ih =>
    rw [dB_s]
    have := h n
    split
    · exact ⟨this, by show (-1 : Int) ≤ n; omega, by show (n : Int) < ((n + 1 : Nat) : Int); omega, fun z => absurd z (by show (n : Int) ≠ -1; omega), fun _ => rfl⟩
    · obtain ⟨a, b, c, d, e⟩ := ih
      exact ⟨a, b, by omega, d, e⟩
theorem dB_ext {f : Nat → Int} (h : ∀ q, 0 ≤ f q ∧ f q ≤ 700) {N : Nat} (m : Nat) (hz : ∀ q, N ≤ q → f q = 0) : dB f (N + m) = dB f N := by
  induction m with
  | zero => rfl
  | succ m ih =>
    rw [show N + (m + 1) = N + m + 1 by omega, dB_s, ih, if_neg (by rw [hz (N + m) (by omega)]; have := (dB_lim h N).1.1; omega)]
theorem bit_cost (b g : Nat) (c : Int) : ((b : Int) / 2 ^ g % 2) * c = if b.testBit g = true then c else 0 := by
  have e : (b : Int) / 2 ^ g % 2 = ((b / 2 ^ g % 2 : Nat) : Int) := by
    rw [Int.natCast_emod, Int.natCast_ediv, Int.natCast_pow]
    rfl
  rw [e, Nat.testBit_eq_decide_div_mod_eq]
  rcases Nat.mod_two_eq_zero_or_one (b / 2 ^ g) with h | h <;> rw [h] <;> simp
theorem bcF_and : ∀ x, x < 1024 → x ≠ 0 → bcF (x &&& (x - 1)) + 1 = bcF x := by decide +kernel
theorem pop_and : ∀ x, x < 1024 → x ≠ 0 → pop (x &&& (x - 1)) + 1 = pop x := by
  intro x h1 h2
  rw [← bcF_pop x h1, ← bcF_pop _ (Nat.lt_of_le_of_lt Nat.and_le_left h1), ← bcF_and x h1 h2]
  omega
theorem RU.e {im a : IM} {n : Nat} (h : RU im n a) : a 30 0 12 = im 30 0 12 := h.1 30 12 (by omega) (by omega)

set_option maxHeartbeats 4000000 in
theorem c_X9_stuckAll (l : Launch) (G : GS) (im : IM) (bt rt : Nat) (lm : IM) (h : RC im) : Cn l (XR G) yX9_stuckAll Y_X9_stuckAll [vR 30 0] (im, rs bt rt, lm) (pI fun x m' => x = alR im (im 30 0 12).toNat ∧ m' = (im, rs bt rt, lm)) := by
  refine cn_of (by decide) (okR G) rfl (Nat.le_of_ble_eq_true rfl) ?_
  intro M ad hMl F
  subst hMl
  have hR := h.1
  have h12 := h.2.2.2.1
  have hb := fun N => smF_in (f := fun p => cntW (stR im p) 10) (a := 0) (b := 10) (N := N) (fun p _ => by have := cntW_in (stR im p) 10; omega) (by omega) (by omega)
  refine wp_pad 2 ?_
  show Wp M (XR G) ad Y_X9_stuckAll (pI fun x m' => x = alR im (im 30 0 12).toNat ∧ m' = (im, rs bt rt, lm)) 0 [some (vR 30 0), none, none] [] (im, rs bt rt, lm)
  refine q_iconst (t := 1) F dX9_stuckAll_0 rfl ?_
  refine q_istore_n (t := 2) F dX9_stuckAll_1 rfl (by decide) rfl rfl ?_
  refine q_iconst (t := 3) F dX9_stuckAll_2 rfl ?_
  refine q_istore_n (t := 4) F dX9_stuckAll_3 rfl (by decide) rfl rfl ?_
  have L4 : ∀ (fz : Nat) (p : Nat), 5 - p < fz → (p : Int) ≤ im 30 0 12 → Wp M (XR G) ad Y_X9_stuckAll (pI fun x m' => x = alR im (im 30 0 12).toNat ∧ m' = (im, rs bt rt, lm)) 4 [some (vR 30 0), some (vI (alR im p)), some (vI (p : Int))] [] (im, rs bt rt, lm) := by
    intro fz
    induction fz with
    | zero => intro p h; exact absurd h (Nat.not_lt_zero _)
    | succ fz ih =>
      have ih4 := ih
      intro p hmeas hp
      have hbp := hb p
      have ha : alR im p = smF (fun p => cntW (stR im p) 10) p := rfl
      refine q_iload_n (t := 5) F dX9_stuckAll_4 rfl rfl rfl ?_
      refine q_aload_n (t := 6) F dX9_stuckAll_5 rfl rfl rfl ?_
      refine g_X9_88 (t := 9) F dX9_stuckAll_6 rfl rfl ?_
      refine q_icmp_ge (t := 12) (u := 26) F dX9_stuckAll_9 (by first | exact hR _ _ _ | (constructor <;> omega)) (by first | exact hR _ _ _ | (constructor <;> omega)) (by decide) rfl (fun c9 => ?_) (fun c9 => ?_)
      · refine q_iload_n (t := 27) F dX9_stuckAll_26 rfl rfl rfl ?_
        refine q_iret F dX9_stuckAll_27 rfl ?_
        obtain rfl : p = (im 30 0 12).toNat := by omega
        exact ⟨_, rfl, rfl, rfl⟩
      · refine q_iload_n (t := 13) F dX9_stuckAll_12 rfl rfl rfl ?_
        refine q_aload_n (t := 14) F dX9_stuckAll_13 rfl rfl rfl ?_
        refine q_iload_n (t := 15) F dX9_stuckAll_14 rfl rfl rfl ?_
        refine wp_callV (t := 18) [_] F dX9_stuckAll_15 k_X9_stuckOf v_X9_stuckOf ml_X9_131 rfl rfl rfl rfl (Nat.le_of_ble_eq_true rfl) (by decide) (m_30 (by omega)) (c_X9_stuckOf _ G im bt rt lm hR p (by omega)) rfl (kI ?_)
        rintro x15 m' ⟨rfl, rfl⟩
        refine q_iadd (t := 19) F dX9_stuckAll_18 rfl ?_
        refine q_istore_n (t := 20) F dX9_stuckAll_19 rfl (by decide) rfl rfl ?_
        refine q_iinc (t := 23) F dX9_stuckAll_20 rfl (by decide) rfl rfl ?_
        refine q_goto (t := 4) F dX9_stuckAll_23 (by decide) ?_
        rw [show (p : Int) + 1 = ((p + 1 : Nat) : Int) by omega]
        exact ih4 (p + 1) (by omega) (by omega)
  exact L4 _ 0 (Nat.lt_succ_self _) (by omega)

set_option maxHeartbeats 4000000 in
theorem c_X9_foods (l : Launch) (G : GS) (im : IM) (bt rt : Nat) (lm : IM) (h : RC im) (p w g : Int) (hp : ri p) (hw : ri w) (hg : ri g) : Cn l (XR G) yX9_foods Y_X9_foods [vR 30 0, vI p, vI w, vI g] (im, rs bt rt, lm) (pI fun x m' => ∃ im' lm', x = (if (0 ≤ p ∧ p < im 30 0 12) ∧ (0 ≤ w ∧ w ≤ 15) ∧ (0 ≤ g ∧ g ≤ 9) then ((fdR im p.toNat w g 10 : Nat) : Int) else -2) ∧ RI im' ∧ agY im' im ∧ lgQ lm' lm ∧ m' = (im', rs bt rt, lm')) := by
  refine cn_of (by decide) (okR G) rfl (Nat.le_of_ble_eq_true rfl) ?_
  intro M ad hMl F
  subst hMl
  have hR := h.1
  have hX := h.2.1
  have h4 := h.2.2.1
  have h12 := h.2.2.2.1
  have h7 := h.2.2.2.2.1
  have h6 := hX.2.2.1
  have h3 := hX.2.2.2.1
  have hP := h.2.2.2.2.2.2
  have hR := h.1
  have p1 := hp.1
  have p2 := hp.2
  have w1 := hw.1
  have w2 := hw.2
  have g1 := hg.1
  have g2 := hg.2
  refine wp_pad 2 ?_
  show Wp M (XR G) ad Y_X9_foods (pI fun x m' => ∃ im' lm', x = (if (0 ≤ p ∧ p < im 30 0 12) ∧ (0 ≤ w ∧ w ≤ 15) ∧ (0 ≤ g ∧ g ≤ 9) then ((fdR im p.toNat w g 10 : Nat) : Int) else -2) ∧ RI im' ∧ agY im' im ∧ lgQ lm' lm ∧ m' = (im', rs bt rt, lm')) 0 [some (vR 30 0), some (vI p), some (vI w), some (vI g), none, none] [] (im, rs bt rt, lm)
  refine q_aload_n (t := 1) F dX9_foods_0 rfl rfl rfl ?_
  refine q_iload_n (t := 2) F dX9_foods_1 rfl rfl rfl ?_
  refine wp_callV (t := 5) [_] F dX9_foods_2 k_X9_isOne v_X9_isOne ml_X9_101 rfl rfl rfl rfl (Nat.le_of_ble_eq_true rfl) (by decide) (m_30 (by omega)) (c_X9_isOne _ G im bt rt lm hR h12.1 h12.2 p (by constructor <;> omega)) rfl (kI ?_)
  rintro x2 m' ⟨hx2, rfl⟩
  have hx2 := if01 hx2
  refine q_if_eq (t := 8) (u := 22) F dX9_foods_5 (by first | exact hR _ _ _ | (constructor <;> omega)) (by decide) rfl (fun c5 => ?_) (fun c5 => ?_)
  · refine q_bipush (t := 24) F dX9_foods_22 (by decide) rfl ?_
    refine q_iret F dX9_foods_24 rfl ?_
    first
      | (refine ⟨_, rfl, im, lm, ?_, hR, agY_rfl im, lgQ_rfl lm, rfl⟩
         rw [if_neg (by omega)])
      | (obtain rfl : f = 10 := by omega
         refine ⟨_, rfl, S, lg, ?_, hRS, hag, hlg, rfl⟩
         rw [if_pos (by omega)])
  · refine q_iload_n (t := 9) F dX9_foods_8 rfl rfl rfl ?_
    refine wp_callS (t := 12) [_] F dX9_foods_9 k_X9_isWord st_X9_isWord ml_X9_141 rfl rfl (Nat.le_of_ble_eq_true rfl) (by decide) (c_X9_isWord _ G im bt rt lm w (by constructor <;> omega)) rfl (kI ?_)
    rintro x9 m' ⟨hx9, rfl⟩
    have hx9 := if01 hx9
    refine q_if_eq (t := 15) (u := 22) F dX9_foods_12 (by first | exact hR _ _ _ | (constructor <;> omega)) (by decide) rfl (fun c12 => ?_) (fun c12 => ?_)
    · refine q_bipush (t := 24) F dX9_foods_22 (by decide) rfl ?_
      refine q_iret F dX9_foods_24 rfl ?_
      first
        | (refine ⟨_, rfl, im, lm, ?_, hR, agY_rfl im, lgQ_rfl lm, rfl⟩
           rw [if_neg (by omega)])
        | (obtain rfl : f = 10 := by omega
           refine ⟨_, rfl, S, lg, ?_, hRS, hag, hlg, rfl⟩
           rw [if_pos (by omega)])
    · refine q_iload_n (t := 16) F dX9_foods_15 rfl rfl rfl ?_
      refine wp_callS (t := 19) [_] F dX9_foods_16 k_X9_isGap st_X9_isGap ml_X9_138 rfl rfl (Nat.le_of_ble_eq_true rfl) (by decide) (c_X9_isGap _ G im bt rt lm g (by constructor <;> omega)) rfl (kI ?_)
      rintro x16 m' ⟨hx16, rfl⟩
      have hx16 := if01 hx16
      refine q_if_ne (t := 22) (u := 25) F dX9_foods_19 (by first | exact hR _ _ _ | (constructor <;> omega)) (by decide) rfl (fun c19 => ?_) (fun c19 => ?_)
      · refine q_iconst (t := 26) F dX9_foods_25 rfl ?_
        refine q_istore (t := 28) F dX9_foods_26 (by decide) rfl rfl ?_
        refine q_iconst (t := 29) F dX9_foods_28 rfl ?_
        refine q_istore (t := 31) F dX9_foods_29 (by decide) rfl rfl ?_
        have L31 : ∀ (fz : Nat) (f : Nat) (S lg : IM), 10 - f < fz → (f ≤ 10 ∧ RI S ∧ agY S im ∧ lgQ lg lm) → Wp M (XR G) ad Y_X9_foods (pI fun x m' => ∃ im' lm', x = (if (0 ≤ p ∧ p < im 30 0 12) ∧ (0 ≤ w ∧ w ≤ 15) ∧ (0 ≤ g ∧ g ≤ 9) then ((fdR im p.toNat w g 10 : Nat) : Int) else -2) ∧ RI im' ∧ agY im' im ∧ lgQ lm' lm ∧ m' = (im', rs bt rt, lm')) 31 [some (vR 30 0), some (vI p), some (vI w), some (vI g), some (vI ((fdR im p.toNat w g f : Nat) : Int)), some (vI (f : Int))] [] (S, rs bt rt, lg) := by
          intro fz
          induction fz with
          | zero => intro f S lg h; exact absurd h (Nat.not_lt_zero _)
          | succ fz ih =>
            have ih31 := ih
            intro f S lg hmeas ⟨hf, hRS, hag, hlg⟩
            refine q_iload (t := 33) F dX9_foods_31 rfl rfl ?_
            refine q_bipush (t := 35) F dX9_foods_33 (by decide) rfl ?_
            refine q_icmp_ge (t := 38) (u := 69) F dX9_foods_35 (by first | exact hR _ _ _ | (constructor <;> omega)) (by first | exact hR _ _ _ | (constructor <;> omega)) (by decide) rfl (fun c35 => ?_) (fun c35 => ?_)
            · refine q_iload (t := 71) F dX9_foods_69 rfl rfl ?_
              refine q_iret F dX9_foods_71 rfl ?_
              first
                | (refine ⟨_, rfl, im, lm, ?_, hR, agY_rfl im, lgQ_rfl lm, rfl⟩
                   rw [if_neg (by omega)])
                | (obtain rfl : f = 10 := by omega
                   refine ⟨_, rfl, S, lg, ?_, hRS, hag, hlg, rfl⟩
                   rw [if_pos (by omega)])
            · refine q_iload (t := 40) F dX9_foods_38 rfl rfl ?_
              refine q_aload_n (t := 41) F dX9_foods_40 rfl rfl rfl ?_
              refine q_iload_n (t := 42) F dX9_foods_41 rfl rfl rfl ?_
              refine q_iload_n (t := 43) F dX9_foods_42 rfl rfl rfl ?_
              refine q_iload (t := 45) F dX9_foods_43 rfl rfl ?_
              rw [show vI p = vI ((p.toNat : Nat) : Int) by rw [Int.toNat_of_nonneg (by omega)]]
              refine wp_callV (t := 48) [_, _, _] F dX9_foods_45 k_X9_wouldStick v_X9_wouldStick ml_X9_361 rfl rfl rfl rfl (Nat.le_of_ble_eq_true rfl) (by decide) (m_30 (by omega)) (c_X9_wouldStick _ G S bt rt lg (h.ag hRS hag) p.toNat (by rw [hag 30 0 12 (by omega)]; omega) w (f : Int) hw (by constructor <;> omega)) rfl (kI ?_)
              rintro x45 m' ⟨im2, lm2, hx45, hR2, hag2, hlg2, rfl⟩
              rw [show vI ((p.toNat : Nat) : Int) = vI p by rw [Int.toNat_of_nonneg (by omega)]]
              rw [utR_ag hag] at hx45
              have hut := utR_in (im := im) (p := p.toNat) (w := w) (fd := (f : Int))
              refine q_iload_n (t := 49) F dX9_foods_48 rfl rfl rfl ?_
              refine q_icmp_ne (t := 52) (u := 56) F dX9_foods_49 (by constructor <;> omega) (by constructor <;> omega) (by decide) rfl (fun c49 => ?_) (fun c49 => ?_)
              · refine q_iconst (t := 57) F dX9_foods_56 rfl ?_
                refine q_iload (t := 59) F dX9_foods_57 rfl rfl ?_
                refine q_ishl (t := 60) F dX9_foods_59 (by omega) (by omega) rfl ?_
                first | rw [pow_cast f] | rw [pow_cast0 f]
                refine q_ior (t := 61) F dX9_foods_60 rfl ?_
                refine q_istore (t := 63) F dX9_foods_61 (by decide) rfl rfl ?_
                refine q_iinc (t := 66) F dX9_foods_63 rfl (by decide) rfl rfl ?_
                refine q_goto (t := 31) F dX9_foods_66 (by decide) ?_
                rw [show (f : Int) + 1 = ((f + 1 : Nat) : Int) by omega]
                first
                  | (rw [show fdR im p.toNat w g f ||| 2 ^ f = fdR im p.toNat w g (f + 1) from by rw [fdR_s, if_pos (by omega)]]
                     exact ih31 (f + 1) im2 lm2 (by omega) ⟨by omega, hR2, hag2.trans hag, hlg2.trans hlg⟩)
                  | (rw [show fdR im p.toNat w g f ||| 0 = fdR im p.toNat w g (f + 1) from by rw [fdR_s, if_neg (by omega), Nat.or_zero]]
                     exact ih31 (f + 1) im2 lm2 (by omega) ⟨by omega, hR2, hag2.trans hag, hlg2.trans hlg⟩)
              · refine q_iconst (t := 53) F dX9_foods_52 rfl ?_
                refine q_goto (t := 57) F dX9_foods_53 (by decide) ?_
                refine q_iload (t := 59) F dX9_foods_57 rfl rfl ?_
                refine q_ishl (t := 60) F dX9_foods_59 (by omega) (by omega) rfl ?_
                first | rw [pow_cast f] | rw [pow_cast0 f]
                refine q_ior (t := 61) F dX9_foods_60 rfl ?_
                refine q_istore (t := 63) F dX9_foods_61 (by decide) rfl rfl ?_
                refine q_iinc (t := 66) F dX9_foods_63 rfl (by decide) rfl rfl ?_
                refine q_goto (t := 31) F dX9_foods_66 (by decide) ?_
                rw [show (f : Int) + 1 = ((f + 1 : Nat) : Int) by omega]
                first
                  | (rw [show fdR im p.toNat w g f ||| 2 ^ f = fdR im p.toNat w g (f + 1) from by rw [fdR_s, if_pos (by omega)]]
                     exact ih31 (f + 1) im2 lm2 (by omega) ⟨by omega, hR2, hag2.trans hag, hlg2.trans hlg⟩)
                  | (rw [show fdR im p.toNat w g f ||| 0 = fdR im p.toNat w g (f + 1) from by rw [fdR_s, if_neg (by omega), Nat.or_zero]]
                     exact ih31 (f + 1) im2 lm2 (by omega) ⟨by omega, hR2, hag2.trans hag, hlg2.trans hlg⟩)
        exact L31 _ 0 im lm (Nat.lt_succ_self _) ⟨by omega, hR, agY_rfl im, lgQ_rfl lm⟩
      · refine q_bipush (t := 24) F dX9_foods_22 (by decide) rfl ?_
        refine q_iret F dX9_foods_24 rfl ?_
        first
          | (refine ⟨_, rfl, im, lm, ?_, hR, agY_rfl im, lgQ_rfl lm, rfl⟩
             rw [if_neg (by omega)])
          | (obtain rfl : f = 10 := by omega
             refine ⟨_, rfl, S, lg, ?_, hRS, hag, hlg, rfl⟩
             rw [if_pos (by omega)])

set_option maxHeartbeats 4000000 in
theorem c_X9_best (l : Launch) (G : GS) (im : IM) (bt rt : Nat) (lm : IM) (h : RC im) (hA : AG im 1000) (h79 : im 30 0 7 ≤ 999) (n what : Int) (hn : ri n) (hwhat : ri what) : Cn l (XR G) yX9_best Y_X9_best [vR 30 0, vI n, vI what] (im, rs bt rt, lm) (pI fun x m' => (¬ ((0 ≤ n ∧ n ≤ 60) ∧ 0 ≤ what ∧ what ≤ 1) → x = -2 ∧ m' = (im, rs bt rt, lm)) ∧ ((0 ≤ n ∧ n ≤ 60) ∧ 0 ≤ what ∧ what ≤ 1 → ∃ im' lm', x = (if what = 0 then (dB (costR im n.toNat) 50).1 else smF (costR im n.toNat) 50 - (dB (costR im n.toNat) 50).2) ∧ RI im' ∧ RU im n.toNat im' ∧ lgQ lm' lm ∧ m' = (im', rs bt rt, lm'))) := by
  refine cn_of (by decide) (okR G) rfl (Nat.le_of_ble_eq_true rfl) ?_
  intro M ad hMl F
  subst hMl
  have hR := h.1
  have hX := h.2.1
  have h4 := h.2.2.1
  have h12 := h.2.2.2.1
  have h7 := h.2.2.2.2.1
  have h6 := hX.2.2.1
  have h3 := hX.2.2.2.1
  have hP := h.2.2.2.2.2.2
  have hR := h.1
  have n1 := hn.1
  have n2 := hn.2
  have what1 := hwhat.1
  have what2 := hwhat.2
  refine wp_pad 4 ?_
  show Wp M (XR G) ad Y_X9_best (pI fun x m' => (¬ ((0 ≤ n ∧ n ≤ 60) ∧ 0 ≤ what ∧ what ≤ 1) → x = -2 ∧ m' = (im, rs bt rt, lm)) ∧ ((0 ≤ n ∧ n ≤ 60) ∧ 0 ≤ what ∧ what ≤ 1 → ∃ im' lm', x = (if what = 0 then (dB (costR im n.toNat) 50).1 else smF (costR im n.toNat) 50 - (dB (costR im n.toNat) 50).2) ∧ RI im' ∧ RU im n.toNat im' ∧ lgQ lm' lm ∧ m' = (im', rs bt rt, lm'))) 0 [some (vR 30 0), some (vI n), some (vI what), none, none, none, none] [] (im, rs bt rt, lm)
  refine q_iload_n (t := 1) F dX9_best_0 rfl rfl rfl ?_
  refine q_i2l (t := 2) F dX9_best_1 (by first | exact hR _ _ _ | (constructor <;> omega)) rfl ?_
  refine q_lconst (t := 3) (x := 0) F dX9_best_2 (by decide) rfl ?_
  refine q_ldc2 (t := 6) (x := 60) F dX9_best_3 kl_X9_242 (by decide) rfl ?_
  refine wp_callS (t := 9) [_, _, _] F dX9_best_6 k_X9_in st_X9_in ml_X9_91 rfl rfl (Nat.le_of_ble_eq_true rfl) (by decide) (c_X9_in _ G _ _ _ _ _ _ _ (by constructor <;> omega) (by constructor <;> omega) (by constructor <;> omega)) rfl (kI ?_)
  rintro x6 m' ⟨hx6, rfl⟩
  have hx6 := if01 hx6
  refine q_if_eq (t := 12) (u := 22) F dX9_best_9 (by first | exact hR _ _ _ | (constructor <;> omega)) (by decide) rfl (fun c9 => ?_) (fun c9 => ?_)
  · refine q_bipush (t := 24) F dX9_best_22 (by decide) rfl ?_
    refine q_iret F dX9_best_24 rfl ?_
    first
      | exact ⟨_, rfl, fun _ => ⟨rfl, rfl⟩, fun z => absurd z (by omega)⟩
      | (refine ⟨_, rfl, fun z => absurd (by omega) z, fun _ => ⟨im2, lm2, ?_, hR2, hU, hlg2, rfl⟩⟩
         have ex := dB_ext (f := costR im n.toNat) hcs.1 (N := q) (50 - q) (fun j hj => by unfold costR; rw [if_pos (by unfold whenR; rw [if_neg (by omega)])])
         rw [show q + (50 - q) = 50 by omega] at ex
         rw [ex]
         first
           | (rw [if_pos (by omega)])
           | (rw [if_neg (by omega)]))
  · refine q_iload_n (t := 13) F dX9_best_12 rfl rfl rfl ?_
    refine q_i2l (t := 14) F dX9_best_13 (by first | exact hR _ _ _ | (constructor <;> omega)) rfl ?_
    refine q_lconst (t := 15) (x := 0) F dX9_best_14 (by decide) rfl ?_
    refine q_lconst (t := 16) (x := 1) F dX9_best_15 (by decide) rfl ?_
    refine wp_callS (t := 19) [_, _, _] F dX9_best_16 k_X9_in st_X9_in ml_X9_91 rfl rfl (Nat.le_of_ble_eq_true rfl) (by decide) (c_X9_in _ G _ _ _ _ _ _ _ (by constructor <;> omega) (by constructor <;> omega) (by constructor <;> omega)) rfl (kI ?_)
    rintro x16 m' ⟨hx16, rfl⟩
    have hx16 := if01 hx16
    refine q_if_ne (t := 22) (u := 25) F dX9_best_19 (by first | exact hR _ _ _ | (constructor <;> omega)) (by decide) rfl (fun c19 => ?_) (fun c19 => ?_)
    · refine q_aload_n (t := 26) F dX9_best_25 rfl rfl rfl ?_
      refine q_iload_n (t := 27) F dX9_best_26 rfl rfl rfl ?_
      rw [show vI n = vI ((n.toNat : Nat) : Int) by rw [Int.toNat_of_nonneg (by omega)]]
      refine wp_callV (t := 30) [_] F dX9_best_27 k_X9_runs v_X9_runs ml_X9_410 rfl rfl rfl rfl (Nat.le_of_ble_eq_true rfl) (by decide) (m_30 (by omega)) (c_X9_runs _ G im bt rt lm h hA h79 n.toNat (by omega)) rfl (kV ?_)
      rintro m' ⟨im2, lm2, hR2, hU, hlg2, rfl⟩
      rw [show vI ((n.toNat : Nat) : Int) = vI n by rw [Int.toNat_of_nonneg (by omega)]]
      have hcs := hU.cost h
      have e40 := hU.2.2.1
      have e12 := hU.e
      have hdb := fun q => dB_lim hcs.1 q
      refine q_aload_n (t := 31) F dX9_best_30 rfl rfl rfl ?_
      refine g_X9_401 (t := 34) F dX9_best_31 rfl rfl ?_
      try simp only [up_app, row_app, scr_app, cpy_app, Nat.reduceEqDiff, Int.reduceToNat, Int.toNat_natCast, and_true, true_and, and_false, false_and, and_self, reduceIte]
      rw [e40]
      refine q_istore_n (t := 35) F dX9_best_34 rfl (by decide) rfl rfl ?_
      refine q_iload_n (t := 36) F dX9_best_35 rfl rfl rfl ?_
      refine q_istore (t := 38) F dX9_best_36 (by decide) rfl rfl ?_
      refine q_iconst (t := 39) F dX9_best_38 rfl ?_
      refine q_istore (t := 41) F dX9_best_39 (by decide) rfl rfl ?_
      refine q_iconst (t := 42) F dX9_best_41 rfl ?_
      refine q_istore (t := 44) F dX9_best_42 (by decide) rfl rfl ?_
      have L44 : ∀ (fz : Nat) (q : Nat), 51 - q < fz → (q : Int) ≤ 10 * im 30 0 12 → Wp M (XR G) ad Y_X9_best (pI fun x m' => (¬ ((0 ≤ n ∧ n ≤ 60) ∧ 0 ≤ what ∧ what ≤ 1) → x = -2 ∧ m' = (im, rs bt rt, lm)) ∧ ((0 ≤ n ∧ n ≤ 60) ∧ 0 ≤ what ∧ what ≤ 1 → ∃ im' lm', x = (if what = 0 then (dB (costR im n.toNat) 50).1 else smF (costR im n.toNat) 50 - (dB (costR im n.toNat) 50).2) ∧ RI im' ∧ RU im n.toNat im' ∧ lgQ lm' lm ∧ m' = (im', rs bt rt, lm'))) 44 [some (vR 30 0), some (vI n), some (vI what), some (vI (smF (costR im n.toNat) 50)), some (vI (smF (costR im n.toNat) 50 - (dB (costR im n.toNat) q).2)), some (vI (dB (costR im n.toNat) q).1), some (vI (q : Int))] [] (im2, rs bt rt, lm2) := by
        intro fz
        induction fz with
        | zero => intro q h; exact absurd h (Nat.not_lt_zero _)
        | succ fz ih =>
          have ih44 := ih
          intro q hmeas hq
          have hdq := hdb q
          have hcq := hcs.1 q
          have hds := dB_s (costR im n.toNat) q
          refine q_iload (t := 46) F dX9_best_44 rfl rfl ?_
          refine q_bipush (t := 48) F dX9_best_46 (by decide) rfl ?_
          refine q_aload_n (t := 49) F dX9_best_48 rfl rfl rfl ?_
          refine g_X9_88 (t := 52) F dX9_best_49 rfl rfl ?_
          try simp only [up_app, row_app, scr_app, cpy_app, Nat.reduceEqDiff, Int.reduceToNat, Int.toNat_natCast, and_true, true_and, and_false, false_and, and_self, reduceIte]
          rw [e12]
          refine q_imul (t := 53) F dX9_best_52 rfl ?_
          refine q_icmp_ge (t := 56) (u := 91) F dX9_best_53 (by first | exact hR _ _ _ | (constructor <;> omega)) (by first | exact hR _ _ _ | (constructor <;> omega)) (by decide) rfl (fun c53 => ?_) (fun c53 => ?_)
          · refine q_iload_n (t := 92) F dX9_best_91 rfl rfl rfl ?_
            refine q_if_ne (t := 95) (u := 100) F dX9_best_92 (by first | exact hR _ _ _ | (constructor <;> omega)) (by decide) rfl (fun c92 => ?_) (fun c92 => ?_)
            · refine q_iload (t := 102) F dX9_best_100 rfl rfl ?_
              refine q_iret F dX9_best_102 rfl ?_
              first
                | exact ⟨_, rfl, fun _ => ⟨rfl, rfl⟩, fun z => absurd z (by omega)⟩
                | (refine ⟨_, rfl, fun z => absurd (by omega) z, fun _ => ⟨im2, lm2, ?_, hR2, hU, hlg2, rfl⟩⟩
                   have ex := dB_ext (f := costR im n.toNat) hcs.1 (N := q) (50 - q) (fun j hj => by unfold costR; rw [if_pos (by unfold whenR; rw [if_neg (by omega)])])
                   rw [show q + (50 - q) = 50 by omega] at ex
                   rw [ex]
                   first
                     | (rw [if_pos (by omega)])
                     | (rw [if_neg (by omega)]))
            · refine q_iload (t := 97) F dX9_best_95 rfl rfl ?_
              refine q_goto (t := 102) F dX9_best_97 (by decide) ?_
              refine q_iret F dX9_best_102 rfl ?_
              first
                | exact ⟨_, rfl, fun _ => ⟨rfl, rfl⟩, fun z => absurd z (by omega)⟩
                | (refine ⟨_, rfl, fun z => absurd (by omega) z, fun _ => ⟨im2, lm2, ?_, hR2, hU, hlg2, rfl⟩⟩
                   have ex := dB_ext (f := costR im n.toNat) hcs.1 (N := q) (50 - q) (fun j hj => by unfold costR; rw [if_pos (by unfold whenR; rw [if_neg (by omega)])])
                   rw [show q + (50 - q) = 50 by omega] at ex
                   rw [ex]
                   first
                     | (rw [if_pos (by omega)])
                     | (rw [if_neg (by omega)]))
          · refine q_iload_n (t := 57) F dX9_best_56 rfl rfl rfl ?_
            refine q_aload_n (t := 58) F dX9_best_57 rfl rfl rfl ?_
            refine g_X9_41 (t := 61) F dX9_best_58 rfl rfl ?_
            refine q_iload (t := 63) F dX9_best_61 rfl rfl ?_
            first | refine ldN_39 (t := 64) F dX9_best_63 (by omega) rfl ?_ | refine ld_39 (t := 64) F dX9_best_63 (by omega) (by omega) rfl ?_
            try simp only [up_app, row_app, scr_app, cpy_app, Nat.reduceEqDiff, Int.reduceToNat, Int.toNat_natCast, and_true, true_and, and_false, false_and, and_self, reduceIte]
            rw [(hU.2.1 q (by omega)).2]
            refine q_isub (t := 65) F dX9_best_64 rfl ?_
            refine q_iload (t := 67) F dX9_best_65 rfl rfl ?_
            refine q_icmp_ge (t := 70) (u := 85) F dX9_best_67 (by constructor <;> omega) (by constructor <;> omega) (by decide) rfl (fun c67 => ?_) (fun c67 => ?_)
            · refine q_iinc (t := 88) F dX9_best_85 rfl (by decide) rfl rfl ?_
              refine q_goto (t := 44) F dX9_best_88 (by decide) ?_
              rw [show (q : Int) + 1 = ((q + 1 : Nat) : Int) by omega]
              first
                | (have e : dB (costR im n.toNat) (q + 1) = ((q : Int), costR im n.toNat q) := by rw [hds, if_pos (by omega)]
                   have h9 := ih44 (q + 1) (by omega) (by omega)
                   rw [e] at h9
                   exact h9)
                | (have e : dB (costR im n.toNat) (q + 1) = dB (costR im n.toNat) q := by rw [hds, if_neg (by omega)]
                   have h9 := ih44 (q + 1) (by omega) (by omega)
                   rw [e] at h9
                   exact h9)
            · refine q_iload (t := 72) F dX9_best_70 rfl rfl ?_
              refine q_istore (t := 74) F dX9_best_72 (by decide) rfl rfl ?_
              refine q_iload_n (t := 75) F dX9_best_74 rfl rfl rfl ?_
              refine q_aload_n (t := 76) F dX9_best_75 rfl rfl rfl ?_
              refine g_X9_41 (t := 79) F dX9_best_76 rfl rfl ?_
              refine q_iload (t := 81) F dX9_best_79 rfl rfl ?_
              first | refine ldN_39 (t := 82) F dX9_best_81 (by omega) rfl ?_ | refine ld_39 (t := 82) F dX9_best_81 (by omega) (by omega) rfl ?_
              try simp only [up_app, row_app, scr_app, cpy_app, Nat.reduceEqDiff, Int.reduceToNat, Int.toNat_natCast, and_true, true_and, and_false, false_and, and_self, reduceIte]
              rw [(hU.2.1 q (by omega)).2]
              refine q_isub (t := 83) F dX9_best_82 rfl ?_
              refine q_istore (t := 85) F dX9_best_83 (by decide) rfl rfl ?_
              refine q_iinc (t := 88) F dX9_best_85 rfl (by decide) rfl rfl ?_
              refine q_goto (t := 44) F dX9_best_88 (by decide) ?_
              rw [show (q : Int) + 1 = ((q + 1 : Nat) : Int) by omega]
              first
                | (have e : dB (costR im n.toNat) (q + 1) = ((q : Int), costR im n.toNat q) := by rw [hds, if_pos (by omega)]
                   have h9 := ih44 (q + 1) (by omega) (by omega)
                   rw [e] at h9
                   exact h9)
                | (have e : dB (costR im n.toNat) (q + 1) = dB (costR im n.toNat) q := by rw [hds, if_neg (by omega)]
                   have h9 := ih44 (q + 1) (by omega) (by omega)
                   rw [e] at h9
                   exact h9)
      have L0 := L44 _ 0 (Nat.lt_succ_self _) (by omega)
      rw [show (dB (costR im n.toNat) 0).2 = 0 from rfl, Int.sub_zero] at L0
      exact L0
    · refine q_bipush (t := 24) F dX9_best_22 (by decide) rfl ?_
      refine q_iret F dX9_best_24 rfl ?_
      first
        | exact ⟨_, rfl, fun _ => ⟨rfl, rfl⟩, fun z => absurd z (by omega)⟩
        | (refine ⟨_, rfl, fun z => absurd (by omega) z, fun _ => ⟨im2, lm2, ?_, hR2, hU, hlg2, rfl⟩⟩
           have ex := dB_ext (f := costR im n.toNat) hcs.1 (N := q) (50 - q) (fun j hj => by unfold costR; rw [if_pos (by unfold whenR; rw [if_neg (by omega)])])
           rw [show q + (50 - q) = 50 by omega] at ex
           rw [ex]
           first
             | (rw [if_pos (by omega)])
             | (rw [if_neg (by omega)]))

set_option maxHeartbeats 4000000 in
theorem c_X9_bitsOf (l : Launch) (G : GS) (im : IM) (bt rt : Nat) (lm : IM) (v : Nat) (hv : v < 1024) : Cn l (XR G) yX9_bitsOf Y_X9_bitsOf [vI (v : Int)] (im, rs bt rt, lm) (pI fun x m' => x = pop v ∧ m' = (im, rs bt rt, lm)) := by
  refine cn_of (by decide) (okR G) rfl (Nat.le_of_ble_eq_true rfl) ?_
  intro M ad hMl F
  subst hMl
  refine wp_pad 2 ?_
  show Wp M (XR G) ad Y_X9_bitsOf (pI fun x m' => x = pop v ∧ m' = (im, rs bt rt, lm)) 0 [some (vI (v : Int)), none, none] [] (im, rs bt rt, lm)
  refine q_iconst (t := 1) F dX9_bitsOf_0 rfl ?_
  refine q_istore_n (t := 2) F dX9_bitsOf_1 rfl (by decide) rfl rfl ?_
  refine q_iload_n (t := 3) F dX9_bitsOf_2 rfl rfl rfl ?_
  refine q_istore_n (t := 4) F dX9_bitsOf_3 rfl (by decide) rfl rfl ?_
  have L4 : ∀ (fz : Nat) (b : Nat), b < fz → b < 1024 → Wp M (XR G) ad Y_X9_bitsOf (pI fun x m' => x = pop v ∧ m' = (im, rs bt rt, lm)) 4 [some (vI (v : Int)), some (vI (pop v - pop b)), some (vI (b : Int))] [] (im, rs bt rt, lm) := by
    intro fz
    induction fz with
    | zero => intro b h; exact absurd h (Nat.not_lt_zero _)
    | succ fz ih =>
      have ih4 := ih
      intro b hmeas hb
      have hpb := pop_in b
      have hpv := pop_in v
      refine q_iload_n (t := 5) F dX9_bitsOf_4 rfl rfl rfl ?_
      refine q_if_eq (t := 8) (u := 20) F dX9_bitsOf_5 (by first | exact hR _ _ _ | (constructor <;> omega)) (by decide) rfl (fun c5 => ?_) (fun c5 => ?_)
      · refine q_iload_n (t := 21) F dX9_bitsOf_20 rfl rfl rfl ?_
        refine q_iret F dX9_bitsOf_21 rfl ?_
        obtain rfl : b = 0 := by omega
        exact ⟨_, rfl, by rw [show pop 0 = 0 from rfl, Int.sub_zero], rfl⟩
      · refine q_iinc (t := 11) F dX9_bitsOf_8 rfl (by decide) rfl rfl ?_
        refine q_iload_n (t := 12) F dX9_bitsOf_11 rfl rfl rfl ?_
        refine q_iload_n (t := 13) F dX9_bitsOf_12 rfl rfl rfl ?_
        refine q_iconst (t := 14) F dX9_bitsOf_13 rfl ?_
        refine q_isub (t := 15) F dX9_bitsOf_14 rfl ?_
        rw [show (b : Int) - 1 = ((b - 1 : Nat) : Int) by omega]
        refine q_iand (t := 16) F dX9_bitsOf_15 rfl ?_
        refine q_istore_n (t := 17) F dX9_bitsOf_16 rfl (by decide) rfl rfl ?_
        refine q_goto (t := 4) F dX9_bitsOf_17 (by decide) ?_
        have hz : b ≠ 0 := by omega
        have e := pop_and b hb hz
        have hle := Nat.and_le_right (n := b) (m := b - 1)
        rw [show pop v - pop b + 1 = pop v - pop (b &&& (b - 1)) by omega]
        exact ih4 (b &&& (b - 1)) (by omega) (by omega)
  have L0 := L4 _ v (Nat.lt_succ_self _) hv
  rw [Int.sub_self] at L0
  exact L0

set_option maxHeartbeats 4000000 in
theorem c_X9_few (l : Launch) (G : GS) (im : IM) (bt rt : Nat) (lm : IM) (h : RC im) (hA : AG im 1000) (h79 : im 30 0 7 ≤ 999) (p n e : Int) (hp : ri p) (hn : ri n) (he : ri e) : Cn l (XR G) yX9_few Y_X9_few [vR 30 0, vI p, vI n, vI e] (im, rs bt rt, lm) (pI fun x m' => (¬ ((0 ≤ p ∧ p < im 30 0 12) ∧ (0 ≤ n ∧ n ≤ 60) ∧ 0 ≤ e ∧ e ≤ 9999) → x = -2 ∧ m' = (im, rs bt rt, lm)) ∧ ((0 ≤ p ∧ p < im 30 0 12) ∧ (0 ≤ n ∧ n ≤ 60) ∧ 0 ≤ e ∧ e ≤ 9999 → ∃ im' lm', x = fwB (smF (costR im n.toNat) 50) (fun g => costR im n.toNat (10 * p.toNat + g)) e 1024 ∧ RI im' ∧ RU im n.toNat im' ∧ lgQ lm' lm ∧ m' = (im', rs bt rt, lm'))) := by
  refine cn_of (by decide) (okR G) rfl (Nat.le_of_ble_eq_true rfl) ?_
  intro M ad hMl F
  subst hMl
  have hR := h.1
  have hX := h.2.1
  have h4 := h.2.2.1
  have h12 := h.2.2.2.1
  have h7 := h.2.2.2.2.1
  have h6 := hX.2.2.1
  have h3 := hX.2.2.2.1
  have hP := h.2.2.2.2.2.2
  have hR := h.1
  have p1 := hp.1
  have p2 := hp.2
  have n1 := hn.1
  have n2 := hn.2
  have e1 := he.1
  have e2 := he.2
  refine wp_pad 4 ?_
  show Wp M (XR G) ad Y_X9_few (pI fun x m' => (¬ ((0 ≤ p ∧ p < im 30 0 12) ∧ (0 ≤ n ∧ n ≤ 60) ∧ 0 ≤ e ∧ e ≤ 9999) → x = -2 ∧ m' = (im, rs bt rt, lm)) ∧ ((0 ≤ p ∧ p < im 30 0 12) ∧ (0 ≤ n ∧ n ≤ 60) ∧ 0 ≤ e ∧ e ≤ 9999 → ∃ im' lm', x = fwB (smF (costR im n.toNat) 50) (fun g => costR im n.toNat (10 * p.toNat + g)) e 1024 ∧ RI im' ∧ RU im n.toNat im' ∧ lgQ lm' lm ∧ m' = (im', rs bt rt, lm'))) 0 [some (vR 30 0), some (vI p), some (vI n), some (vI e), none, none, none, none] [] (im, rs bt rt, lm)
  refine q_aload_n (t := 1) F dX9_few_0 rfl rfl rfl ?_
  refine q_iload_n (t := 2) F dX9_few_1 rfl rfl rfl ?_
  refine wp_callV (t := 5) [_] F dX9_few_2 k_X9_isOne v_X9_isOne ml_X9_101 rfl rfl rfl rfl (Nat.le_of_ble_eq_true rfl) (by decide) (m_30 (by omega)) (c_X9_isOne _ G im bt rt lm hR h12.1 h12.2 p (by constructor <;> omega)) rfl (kI ?_)
  rintro x2 m' ⟨hx2, rfl⟩
  have hx2 := if01 hx2
  refine q_if_eq (t := 8) (u := 32) F dX9_few_5 (by first | exact hR _ _ _ | (constructor <;> omega)) (by decide) rfl (fun c5 => ?_) (fun c5 => ?_)
  · refine q_bipush (t := 34) F dX9_few_32 (by decide) rfl ?_
    refine q_iret F dX9_few_34 rfl ?_
    first
      | exact ⟨_, rfl, fun _ => ⟨rfl, rfl⟩, fun z => absurd z (by omega)⟩
      | (obtain rfl : b = 1024 := by omega
         exact ⟨_, rfl, fun z => absurd (by omega) z, fun _ => ⟨im2, lm2, rfl, hR2, hU, hlg2, rfl⟩⟩)
  · refine q_iload_n (t := 9) F dX9_few_8 rfl rfl rfl ?_
    refine q_i2l (t := 10) F dX9_few_9 (by first | exact hR _ _ _ | (constructor <;> omega)) rfl ?_
    refine q_lconst (t := 11) (x := 0) F dX9_few_10 (by decide) rfl ?_
    refine q_ldc2 (t := 14) (x := 60) F dX9_few_11 kl_X9_242 (by decide) rfl ?_
    refine wp_callS (t := 17) [_, _, _] F dX9_few_14 k_X9_in st_X9_in ml_X9_91 rfl rfl (Nat.le_of_ble_eq_true rfl) (by decide) (c_X9_in _ G _ _ _ _ _ _ _ (by constructor <;> omega) (by constructor <;> omega) (by constructor <;> omega)) rfl (kI ?_)
    rintro x14 m' ⟨hx14, rfl⟩
    have hx14 := if01 hx14
    refine q_if_eq (t := 20) (u := 32) F dX9_few_17 (by first | exact hR _ _ _ | (constructor <;> omega)) (by decide) rfl (fun c17 => ?_) (fun c17 => ?_)
    · refine q_bipush (t := 34) F dX9_few_32 (by decide) rfl ?_
      refine q_iret F dX9_few_34 rfl ?_
      first
        | exact ⟨_, rfl, fun _ => ⟨rfl, rfl⟩, fun z => absurd z (by omega)⟩
        | (obtain rfl : b = 1024 := by omega
           exact ⟨_, rfl, fun z => absurd (by omega) z, fun _ => ⟨im2, lm2, rfl, hR2, hU, hlg2, rfl⟩⟩)
    · refine q_iload_n (t := 21) F dX9_few_20 rfl rfl rfl ?_
      refine q_i2l (t := 22) F dX9_few_21 (by first | exact hR _ _ _ | (constructor <;> omega)) rfl ?_
      refine q_lconst (t := 23) (x := 0) F dX9_few_22 (by decide) rfl ?_
      refine q_ldc2 (t := 26) (x := 9999) F dX9_few_23 kl_X9_413 (by decide) rfl ?_
      refine wp_callS (t := 29) [_, _, _] F dX9_few_26 k_X9_in st_X9_in ml_X9_91 rfl rfl (Nat.le_of_ble_eq_true rfl) (by decide) (c_X9_in _ G _ _ _ _ _ _ _ (by constructor <;> omega) (by constructor <;> omega) (by constructor <;> omega)) rfl (kI ?_)
      rintro x26 m' ⟨hx26, rfl⟩
      have hx26 := if01 hx26
      refine q_if_ne (t := 32) (u := 35) F dX9_few_29 (by first | exact hR _ _ _ | (constructor <;> omega)) (by decide) rfl (fun c29 => ?_) (fun c29 => ?_)
      · refine q_aload_n (t := 36) F dX9_few_35 rfl rfl rfl ?_
        refine q_iload_n (t := 37) F dX9_few_36 rfl rfl rfl ?_
        rw [show vI n = vI ((n.toNat : Nat) : Int) by rw [Int.toNat_of_nonneg (by omega)]]
        refine wp_callV (t := 40) [_] F dX9_few_37 k_X9_runs v_X9_runs ml_X9_410 rfl rfl rfl rfl (Nat.le_of_ble_eq_true rfl) (by decide) (m_30 (by omega)) (c_X9_runs _ G im bt rt lm h hA h79 n.toNat (by omega)) rfl (kV ?_)
        rintro m' ⟨im2, lm2, hR2, hU, hlg2, rfl⟩
        rw [show vI ((n.toNat : Nat) : Int) = vI n by rw [Int.toNat_of_nonneg (by omega)]]
        have hcs := hU.cost h
        have e40 := hU.2.2.1
        have e12 := hU.e
        have hsv := fun b k hk => svF_in (c := (fun g => costR im n.toNat (10 * p.toNat + g))) (fun g _ => hcs.1 (10 * p.toNat + g)) b k hk
        refine q_iconst (t := 41) F dX9_few_40 rfl ?_
        refine q_istore (t := 43) F dX9_few_41 (by decide) rfl rfl ?_
        refine q_iconst (t := 44) F dX9_few_43 rfl ?_
        refine q_istore (t := 46) F dX9_few_44 (by decide) rfl rfl ?_
        have L46 : ∀ (fz : Nat) (b : Nat), 1024 - b < fz → b ≤ 1024 → Wp M (XR G) ad Y_X9_few (pI fun x m' => (¬ ((0 ≤ p ∧ p < im 30 0 12) ∧ (0 ≤ n ∧ n ≤ 60) ∧ 0 ≤ e ∧ e ≤ 9999) → x = -2 ∧ m' = (im, rs bt rt, lm)) ∧ ((0 ≤ p ∧ p < im 30 0 12) ∧ (0 ≤ n ∧ n ≤ 60) ∧ 0 ≤ e ∧ e ≤ 9999 → ∃ im' lm', x = fwB (smF (costR im n.toNat) 50) (fun g => costR im n.toNat (10 * p.toNat + g)) e 1024 ∧ RI im' ∧ RU im n.toNat im' ∧ lgQ lm' lm ∧ m' = (im', rs bt rt, lm'))) 46 [some (vR 30 0), some (vI p), some (vI n), some (vI e), some (vI (fwB (smF (costR im n.toNat) 50) (fun g => costR im n.toNat (10 * p.toNat + g)) e b)), some (vI (b : Int)), none, none] [] (im2, rs bt rt, lm2) := by
          intro fz
          induction fz with
          | zero => intro b h; exact absurd h (Nat.not_lt_zero _)
          | succ fz ih =>
            have ih46 := ih
            intro b hmeas hb
            have hfw := fwB_in (smF (costR im n.toNat) 50) (fun g => costR im n.toNat (10 * p.toNat + g)) e b
            have hfs := fwB_s (smF (costR im n.toNat) 50) (fun g => costR im n.toNat (10 * p.toNat + g)) e b
            have hpb := pop_in b
            have hpf := pop_in (fwB (smF (costR im n.toNat) 50) (fun g => costR im n.toNat (10 * p.toNat + g)) e b).toNat
            have hs10 := hsv b 10 (Nat.le_refl 10)
            refine q_iload (t := 48) F dX9_few_46 rfl rfl ?_
            refine q_sipush (t := 51) F dX9_few_48 (by decide) rfl ?_
            refine q_icmp_ge (t := 54) (u := 136) F dX9_few_51 (by first | exact hR _ _ _ | (constructor <;> omega)) (by first | exact hR _ _ _ | (constructor <;> omega)) (by decide) rfl (fun c51 => ?_) (fun c51 => ?_)
            · refine q_iload (t := 138) F dX9_few_136 rfl rfl ?_
              refine q_iret F dX9_few_138 rfl ?_
              first
                | exact ⟨_, rfl, fun _ => ⟨rfl, rfl⟩, fun z => absurd z (by omega)⟩
                | (obtain rfl : b = 1024 := by omega
                   exact ⟨_, rfl, fun z => absurd (by omega) z, fun _ => ⟨im2, lm2, rfl, hR2, hU, hlg2, rfl⟩⟩)
            · refine q_aload_n (t := 55) F dX9_few_54 rfl rfl rfl ?_
              refine g_X9_401 (t := 58) F dX9_few_55 rfl rfl ?_
              try simp only [up_app, row_app, scr_app, cpy_app, Nat.reduceEqDiff, Int.reduceToNat, Int.toNat_natCast, and_true, true_and, and_false, false_and, and_self, reduceIte]
              rw [e40]
              refine q_istore (t := 60) F dX9_few_58 (by decide) rfl rfl ?_
              refine q_iconst (t := 61) F dX9_few_60 rfl ?_
              refine q_istore (t := 63) F dX9_few_61 (by decide) rfl rfl ?_
              have L63 : ∀ (fz : Nat) (g : Nat), 10 - g < fz → g ≤ 10 → Wp M (XR G) ad Y_X9_few (pI fun x m' => (¬ ((0 ≤ p ∧ p < im 30 0 12) ∧ (0 ≤ n ∧ n ≤ 60) ∧ 0 ≤ e ∧ e ≤ 9999) → x = -2 ∧ m' = (im, rs bt rt, lm)) ∧ ((0 ≤ p ∧ p < im 30 0 12) ∧ (0 ≤ n ∧ n ≤ 60) ∧ 0 ≤ e ∧ e ≤ 9999 → ∃ im' lm', x = fwB (smF (costR im n.toNat) 50) (fun g => costR im n.toNat (10 * p.toNat + g)) e 1024 ∧ RI im' ∧ RU im n.toNat im' ∧ lgQ lm' lm ∧ m' = (im', rs bt rt, lm'))) 63 [some (vR 30 0), some (vI p), some (vI n), some (vI e), some (vI (fwB (smF (costR im n.toNat) 50) (fun g => costR im n.toNat (10 * p.toNat + g)) e b)), some (vI (b : Int)), some (vI (smF (costR im n.toNat) 50 - svF (fun g => costR im n.toNat (10 * p.toNat + g)) b g)), some (vI (g : Int))] [] (im2, rs bt rt, lm2) := by
                intro fz
                induction fz with
                | zero => intro g h; exact absurd h (Nat.not_lt_zero _)
                | succ fz ih =>
                  have ih63 := ih
                  intro g hmeas hg
                  have hsg := hsv b g hg
                  have hss : svF (fun g => costR im n.toNat (10 * p.toNat + g)) b (g + 1) = svF (fun g => costR im n.toNat (10 * p.toNat + g)) b g + (if b.testBit g = true then costR im n.toNat (10 * p.toNat + g) else 0) := rfl
                  refine q_iload (t := 65) F dX9_few_63 rfl rfl ?_
                  refine q_bipush (t := 67) F dX9_few_65 (by decide) rfl ?_
                  refine q_icmp_ge (t := 70) (u := 101) F dX9_few_67 (by first | exact hR _ _ _ | (constructor <;> omega)) (by first | exact hR _ _ _ | (constructor <;> omega)) (by decide) rfl (fun c67 => ?_) (fun c67 => ?_)
                  · obtain rfl : g = 10 := by omega
                    refine q_iload (t := 103) F dX9_few_101 rfl rfl ?_
                    refine q_iload_n (t := 104) F dX9_few_103 rfl rfl rfl ?_
                    refine q_icmp_gt (t := 107) (u := 130) F dX9_few_104 (by constructor <;> omega) (by constructor <;> omega) (by decide) rfl (fun c104 => ?_) (fun c104 => ?_)
                    · refine q_iinc (t := 133) F dX9_few_130 rfl (by decide) rfl rfl ?_
                      refine q_goto (t := 46) F dX9_few_133 (by decide) ?_
                      refine wp_less 7 ?_
                      refine wp_less 6 ?_
                      rw [show (b : Int) + 1 = ((b + 1 : Nat) : Int) by omega]
                      first
                        | (have e9 : fwB (smF (costR im n.toNat) 50) (fun g => costR im n.toNat (10 * p.toNat + g)) e (b + 1) = b := by rw [hfs, if_neg (by omega), if_pos (by omega)]
                           have h9 := ih46 (b + 1) (by omega) (by omega)
                           rw [e9] at h9
                           exact h9)
                        | (have e9 : fwB (smF (costR im n.toNat) 50) (fun g => costR im n.toNat (10 * p.toNat + g)) e (b + 1) = fwB (smF (costR im n.toNat) 50) (fun g => costR im n.toNat (10 * p.toNat + g)) e b := by first | rw [hfs, if_pos (by omega)] | rw [hfs, if_neg (by omega), if_neg (by omega)]
                           have h9 := ih46 (b + 1) (by omega) (by omega)
                           rw [e9] at h9
                           exact h9)
                    · refine q_iload (t := 109) F dX9_few_107 rfl rfl ?_
                      refine q_iconst (t := 110) F dX9_few_109 rfl ?_
                      refine q_icmp_eq (t := 113) (u := 126) F dX9_few_110 (by first | exact hR _ _ _ | (constructor <;> omega)) (by first | exact hR _ _ _ | (constructor <;> omega)) (by decide) rfl (fun c110 => ?_) (fun c110 => ?_)
                      · refine q_iload (t := 128) F dX9_few_126 rfl rfl ?_
                        refine q_istore (t := 130) F dX9_few_128 (by decide) rfl rfl ?_
                        refine q_iinc (t := 133) F dX9_few_130 rfl (by decide) rfl rfl ?_
                        refine q_goto (t := 46) F dX9_few_133 (by decide) ?_
                        refine wp_less 7 ?_
                        refine wp_less 6 ?_
                        rw [show (b : Int) + 1 = ((b + 1 : Nat) : Int) by omega]
                        first
                          | (have e9 : fwB (smF (costR im n.toNat) 50) (fun g => costR im n.toNat (10 * p.toNat + g)) e (b + 1) = b := by rw [hfs, if_neg (by omega), if_pos (by omega)]
                             have h9 := ih46 (b + 1) (by omega) (by omega)
                             rw [e9] at h9
                             exact h9)
                          | (have e9 : fwB (smF (costR im n.toNat) 50) (fun g => costR im n.toNat (10 * p.toNat + g)) e (b + 1) = fwB (smF (costR im n.toNat) 50) (fun g => costR im n.toNat (10 * p.toNat + g)) e b := by first | rw [hfs, if_pos (by omega)] | rw [hfs, if_neg (by omega), if_neg (by omega)]
                             have h9 := ih46 (b + 1) (by omega) (by omega)
                             rw [e9] at h9
                             exact h9)
                      · refine q_iload (t := 115) F dX9_few_113 rfl rfl ?_
                        refine wp_callS (t := 118) [_] F dX9_few_115 k_X9_bitsOf st_X9_bitsOf ml_X9_415 rfl rfl (Nat.le_of_ble_eq_true rfl) (by decide) (c_X9_bitsOf _ G im2 bt rt lm2 b (by omega)) rfl (kI ?_)
                        rintro x115 m' ⟨rfl, rfl⟩
                        refine q_iload (t := 120) F dX9_few_118 rfl rfl ?_
                        rw [show vI (fwB (smF (costR im n.toNat) 50) (fun g => costR im n.toNat (10 * p.toNat + g)) e b) = vI (((fwB (smF (costR im n.toNat) 50) (fun g => costR im n.toNat (10 * p.toNat + g)) e b).toNat : Nat) : Int) by rw [Int.toNat_of_nonneg (by omega)]]
                        refine wp_callS (t := 123) [_] F dX9_few_120 k_X9_bitsOf st_X9_bitsOf ml_X9_415 rfl rfl (Nat.le_of_ble_eq_true rfl) (by decide) (c_X9_bitsOf _ G im2 bt rt lm2 (fwB (smF (costR im n.toNat) 50) (fun g => costR im n.toNat (10 * p.toNat + g)) e b).toNat (by omega)) rfl (kI ?_)
                        rintro x120 m' ⟨rfl, rfl⟩
                        rw [show vI (((fwB (smF (costR im n.toNat) 50) (fun g => costR im n.toNat (10 * p.toNat + g)) e b).toNat : Nat) : Int) = vI (fwB (smF (costR im n.toNat) 50) (fun g => costR im n.toNat (10 * p.toNat + g)) e b) by rw [Int.toNat_of_nonneg (by omega)]]
                        refine q_icmp_ge (t := 126) (u := 130) F dX9_few_123 (by first | exact hR _ _ _ | (constructor <;> omega)) (by first | exact hR _ _ _ | (constructor <;> omega)) (by decide) rfl (fun c123 => ?_) (fun c123 => ?_)
                        · refine q_iinc (t := 133) F dX9_few_130 rfl (by decide) rfl rfl ?_
                          refine q_goto (t := 46) F dX9_few_133 (by decide) ?_
                          refine wp_less 7 ?_
                          refine wp_less 6 ?_
                          rw [show (b : Int) + 1 = ((b + 1 : Nat) : Int) by omega]
                          first
                            | (have e9 : fwB (smF (costR im n.toNat) 50) (fun g => costR im n.toNat (10 * p.toNat + g)) e (b + 1) = b := by rw [hfs, if_neg (by omega), if_pos (by omega)]
                               have h9 := ih46 (b + 1) (by omega) (by omega)
                               rw [e9] at h9
                               exact h9)
                            | (have e9 : fwB (smF (costR im n.toNat) 50) (fun g => costR im n.toNat (10 * p.toNat + g)) e (b + 1) = fwB (smF (costR im n.toNat) 50) (fun g => costR im n.toNat (10 * p.toNat + g)) e b := by first | rw [hfs, if_pos (by omega)] | rw [hfs, if_neg (by omega), if_neg (by omega)]
                               have h9 := ih46 (b + 1) (by omega) (by omega)
                               rw [e9] at h9
                               exact h9)
                        · refine q_iload (t := 128) F dX9_few_126 rfl rfl ?_
                          refine q_istore (t := 130) F dX9_few_128 (by decide) rfl rfl ?_
                          refine q_iinc (t := 133) F dX9_few_130 rfl (by decide) rfl rfl ?_
                          refine q_goto (t := 46) F dX9_few_133 (by decide) ?_
                          refine wp_less 7 ?_
                          refine wp_less 6 ?_
                          rw [show (b : Int) + 1 = ((b + 1 : Nat) : Int) by omega]
                          first
                            | (have e9 : fwB (smF (costR im n.toNat) 50) (fun g => costR im n.toNat (10 * p.toNat + g)) e (b + 1) = b := by rw [hfs, if_neg (by omega), if_pos (by omega)]
                               have h9 := ih46 (b + 1) (by omega) (by omega)
                               rw [e9] at h9
                               exact h9)
                            | (have e9 : fwB (smF (costR im n.toNat) 50) (fun g => costR im n.toNat (10 * p.toNat + g)) e (b + 1) = fwB (smF (costR im n.toNat) 50) (fun g => costR im n.toNat (10 * p.toNat + g)) e b := by first | rw [hfs, if_pos (by omega)] | rw [hfs, if_neg (by omega), if_neg (by omega)]
                               have h9 := ih46 (b + 1) (by omega) (by omega)
                               rw [e9] at h9
                               exact h9)
                  · refine q_iload (t := 72) F dX9_few_70 rfl rfl ?_
                    refine q_iload (t := 74) F dX9_few_72 rfl rfl ?_
                    refine q_iload (t := 76) F dX9_few_74 rfl rfl ?_
                    refine q_ishr (t := 77) F dX9_few_76 (by constructor <;> omega) (by omega) (by omega) (by omega) rfl ?_
                    refine q_iconst (t := 78) F dX9_few_77 rfl ?_
                    refine q_iand1 (t := 79) F dX9_few_78 rfl ?_
                    have hbz : 0 ≤ (b : Int) / 2 ^ (g : Int).toNat % 2 ∧ (b : Int) / 2 ^ (g : Int).toNat % 2 ≤ 1 := by omega
                    refine q_aload_n (t := 80) F dX9_few_79 rfl rfl rfl ?_
                    refine g_X9_41 (t := 83) F dX9_few_80 rfl rfl ?_
                    refine q_bipush (t := 85) F dX9_few_83 (by decide) rfl ?_
                    refine q_iload_n (t := 86) F dX9_few_85 rfl rfl rfl ?_
                    refine q_imul (t := 87) F dX9_few_86 rfl ?_
                    refine q_iload (t := 89) F dX9_few_87 rfl rfl ?_
                    refine q_iadd (t := 90) F dX9_few_89 rfl ?_
                    rw [show (10 : Int) * p + (g : Int) = ((10 * p.toNat + g : Nat) : Int) by omega]
                    first | refine ldN_39 (t := 91) F dX9_few_90 (by omega) rfl ?_ | refine ld_39 (t := 91) F dX9_few_90 (by omega) (by omega) rfl ?_
                    try simp only [up_app, row_app, scr_app, cpy_app, Nat.reduceEqDiff, Int.reduceToNat, Int.toNat_natCast, and_true, true_and, and_false, false_and, and_self, reduceIte]
                    rw [(hU.2.1 (10 * p.toNat + g) (by omega)).2]
                    refine q_imul (t := 92) F dX9_few_91 rfl ?_
                    first | rw [bit_cost b g] | rw [Int.toNat_natCast, bit_cost b g]
                    refine q_isub (t := 93) F dX9_few_92 rfl ?_
                    refine q_istore (t := 95) F dX9_few_93 (by decide) rfl rfl ?_
                    refine q_iinc (t := 98) F dX9_few_95 rfl (by decide) rfl rfl ?_
                    refine q_goto (t := 63) F dX9_few_98 (by decide) ?_
                    rw [show (g : Int) + 1 = ((g + 1 : Nat) : Int) by omega]
                    rw [show smF (costR im n.toNat) 50 - svF (fun g => costR im n.toNat (10 * p.toNat + g)) b g - (if b.testBit g = true then costR im n.toNat (10 * p.toNat + g) else 0) = smF (costR im n.toNat) 50 - svF (fun g => costR im n.toNat (10 * p.toNat + g)) b (g + 1) by rw [hss]; omega]
                    exact ih63 (g + 1) (by omega) (by omega)
              have L0 := L63 _ 0 (Nat.lt_succ_self _) (by omega)
              rw [show svF (fun g => costR im n.toNat (10 * p.toNat + g)) b 0 = 0 from rfl, Int.sub_zero] at L0
              exact L0
        exact L46 _ 0 (Nat.lt_succ_self _) (by omega)
      · refine q_bipush (t := 34) F dX9_few_32 (by decide) rfl ?_
        refine q_iret F dX9_few_34 rfl ?_
        first
          | exact ⟨_, rfl, fun _ => ⟨rfl, rfl⟩, fun z => absurd z (by omega)⟩
          | (obtain rfl : b = 1024 := by omega
             exact ⟨_, rfl, fun z => absurd (by omega) z, fun _ => ⟨im2, lm2, rfl, hR2, hU, hlg2, rfl⟩⟩)
