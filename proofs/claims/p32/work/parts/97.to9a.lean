section
/-! the reference: foods, best, few -/

theorem utR_ag {S im : IM} (h : agY S im) (p : Nat) (w fd : Int) : utR S p w fd = utR im p w fd := by
  have es : stR S p = stR im p := funext fun g => h 36 0 _ (by omega)
  have eg : gpR S p w fd = gpR im p w fd := by
    unfold gpR
    rw [es, sayR_ag h, h 34 0 _ (by omega), h 35 0 _ (by omega), h 30 0 4 (by omega), h 30 0 7 (by omega)]
  unfold utR
  rw [eg, h 36 0 _ (by omega)]
def alR (im : IM) : Nat → Int := smF (fun p => cntW (stR im p) 10)
def fdR (im : IM) (p : Nat) (w gap : Int) : Nat → Nat
  | 0 => 0
  | f + 1 => if utR im p w f = gap then fdR im p w gap f ||| 2 ^ f else fdR im p w gap f
theorem fdR_s (im : IM) (p : Nat) (w gap : Int) (f : Nat) : fdR im p w gap (f + 1) = if utR im p w f = gap then fdR im p w gap f ||| 2 ^ f else fdR im p w gap f := rfl
theorem pow_cast0 (g : Nat) : (0 : Int) * 2 ^ (g : Int).toNat = ((0 : Nat) : Int) := by
  rw [Int.zero_mul]
  rfl
theorem dB_lim {f : Nat → Int} (h : ∀ q, 0 ≤ f q ∧ f q ≤ 700) (n : Nat) : (0 ≤ (dB f n).2 ∧ (dB f n).2 ≤ 700) ∧ -1 ≤ (dB f n).1 ∧ (dB f n).1 < n ∧ ((dB f n).1 = -1 → (dB f n).2 = 0) ∧ ((dB f n).1 ≠ -1 → (dB f n).2 = f (dB f n).1.toNat) := by
  induction n with
  | zero => exact ⟨⟨Int.le_refl 0, by show (0 : Int) ≤ 700; omega⟩, by show (-1 : Int) ≤ -1; omega, by show (-1 : Int) < 0; omega, fun _ => rfl, fun z => absurd rfl z⟩
  | succ n ih =>
    rw [dB_s]
    have := h n
    split
    · exact ⟨this, by show (-1 : Int) ≤ n; omega, by show (n : Int) < ((n + 1 : Nat) : Int); omega, fun z => absurd z (by show (n : Int) ≠ -1; omega), fun _ => rfl⟩
    · obtain ⟨a, b, c, d, e⟩ := ih
      exact ⟨a, b, by omega, d, e⟩
theorem dB_ext {f : Nat → Int} (h : ∀ q, 0 ≤ f q ∧ f q ≤ 700) {N : Nat} (m : Nat) (hz : ∀ q, N ≤ q → f q = 0) : dB f (N + m) = dB f N := by
  induction m with
  | zero => rfl
  | succ m ih =>
    rw [show N + (m + 1) = N + m + 1 by omega, dB_s, ih, if_neg (by rw [hz (N + m) (by omega)]; have := (dB_lim h N).1.1; omega)]
theorem bit_cost (b g : Nat) (c : Int) : ((b : Int) / 2 ^ g % 2) * c = if b.testBit g = true then c else 0 := by
  have e : (b : Int) / 2 ^ g % 2 = ((b / 2 ^ g % 2 : Nat) : Int) := by
    rw [Int.natCast_emod, Int.natCast_ediv, Int.natCast_pow]
    rfl
  rw [e, Nat.testBit_eq_decide_div_mod_eq]
  rcases Nat.mod_two_eq_zero_or_one (b / 2 ^ g) with h | h <;> rw [h] <;> simp
theorem bcF_and : ∀ x, x < 1024 → x ≠ 0 → bcF (x &&& (x - 1)) + 1 = bcF x := by decide +kernel
theorem pop_and : ∀ x, x < 1024 → x ≠ 0 → pop (x &&& (x - 1)) + 1 = pop x := by
  intro x h1 h2
  rw [← bcF_pop x h1, ← bcF_pop _ (Nat.lt_of_le_of_lt Nat.and_le_left h1), ← bcF_and x h1 h2]
  omega
theorem RU.e {im a : IM} {n : Nat} (h : RU im n a) : a 30 0 12 = im 30 0 12 := h.1 30 12 (by omega) (by omega)

set_option maxHeartbeats 4000000 in
theorem c_X9_stuckAll (l : Launch) (G : GS) (im : IM) (bt rt : Nat) (lm : IM) (h : RC im) : Cn l (XR G) yX9_stuckAll Y_X9_stuckAll [vR 30 0] (im, rs bt rt, lm) (pI fun x m' => x = alR im (im 30 0 12).toNat ∧ m' = (im, rs bt rt, lm)) := by
  refine cn_of (by decide) (okR G) rfl (Nat.le_of_ble_eq_true rfl) ?_
  intro M ad hMl F
  subst hMl
  have hR := h.1
  have h12 := h.2.2.2.1
  have hb := fun N => smF_in (f := fun p => cntW (stR im p) 10) (a := 0) (b := 10) (N := N) (fun p _ => by have := cntW_in (stR im p) 10; omega) (by omega) (by omega)
  refine wp_pad 2 ?_
  show Wp M (XR G) ad Y_X9_stuckAll (pI fun x m' => x = alR im (im 30 0 12).toNat ∧ m' = (im, rs bt rt, lm)) 0 [some (vR 30 0), none, none] [] (im, rs bt rt, lm)
  refine q_iconst (t := 1) F dX9_stuckAll_0 rfl ?_
  refine q_istore_n (t := 2) F dX9_stuckAll_1 rfl (by decide) rfl rfl ?_
  refine q_iconst (t := 3) F dX9_stuckAll_2 rfl ?_
  refine q_istore_n (t := 4) F dX9_stuckAll_3 rfl (by decide) rfl rfl ?_
  have L4 : ∀ (fz : Nat) (p : Nat), 5 - p < fz → (p : Int) ≤ im 30 0 12 → Wp M (XR G) ad Y_X9_stuckAll (pI fun x m' => x = alR im (im 30 0 12).toNat ∧ m' = (im, rs bt rt, lm)) 4 [some (vR 30 0), some (vI (alR im p)), some (vI (p : Int))] [] (im, rs bt rt, lm) := by
    intro fz
    induction fz with
    | zero => intro p h; exact absurd h (Nat.not_lt_zero _)
    | succ fz ih =>
      have ih4 := ih
      intro p hmeas hp
      have hbp := hb p
      have ha : alR im p = smF (fun p => cntW (stR im p) 10) p := rfl
      refine q_iload_n (t := 5) F dX9_stuckAll_4 rfl rfl rfl ?_
      refine q_aload_n (t := 6) F dX9_stuckAll_5 rfl rfl rfl ?_
      refine g_X9_88 (t := 9) F dX9_stuckAll_6 rfl rfl ?_
      refine q_icmp_ge (t := 12) (u := 26) F dX9_stuckAll_9 (by first | exact hR _ _ _ | (constructor <;> omega)) (by first | exact hR _ _ _ | (constructor <;> omega)) (by decide) rfl (fun c9 => ?_) (fun c9 => ?_)
      · refine q_iload_n (t := 27) F dX9_stuckAll_26 rfl rfl rfl ?_
        refine q_iret F dX9_stuckAll_27 rfl ?_
        obtain rfl : p = (im 30 0 12).toNat := by omega
        exact ⟨_, rfl, rfl, rfl⟩
      · refine q_iload_n (t := 13) F dX9_stuckAll_12 rfl rfl rfl ?_
        refine q_aload_n (t := 14) F dX9_stuckAll_13 rfl rfl rfl ?_
        refine q_iload_n (t := 15) F dX9_stuckAll_14 rfl rfl rfl ?_
        refine wp_callV (t := 18) [_] F dX9_stuckAll_15 k_X9_stuckOf v_X9_stuckOf ml_X9_131 rfl rfl rfl rfl (Nat.le_of_ble_eq_true rfl) (by decide) (m_30 (by omega)) (c_X9_stuckOf _ G im bt rt lm hR p (by omega)) rfl (kI ?_)
        rintro x15 m' ⟨rfl, rfl⟩
        refine q_iadd (t := 19) F dX9_stuckAll_18 rfl ?_
        refine q_istore_n (t := 20) F dX9_stuckAll_19 rfl (by decide) rfl rfl ?_
        refine q_iinc (t := 23) F dX9_stuckAll_20 rfl (by decide) rfl rfl ?_
        refine q_goto (t := 4) F dX9_stuckAll_23 (by decide) ?_
        rw [show (p : Int) + 1 = ((p + 1 : Nat) : Int) by omega]
        exact ih4 (p + 1) (by omega) (by omega)
  exact L4 _ 0 (Nat.lt_succ_self _) (by omega)

set_option maxHeartbeats 4000000 in
theorem c_X9_foods (l : Launch) (G : GS) (im : IM) (bt rt : Nat) (lm : IM) (h : RC im) (p w g : Int) (hp : ri p) (hw : ri w) (hg : ri g) : Cn l (XR G) yX9_foods Y_X9_foods [vR 30 0, vI p, vI w, vI g] (im, rs bt rt, lm) (pI fun x m' => ∃ im' lm', x = (if (0 ≤ p ∧ p < im 30 0 12) ∧ (0 ≤ w ∧ w ≤ 15) ∧ (0 ≤ g ∧ g ≤ 9) then ((fdR im p.toNat w g 10 : Nat) : Int) else -2) ∧ RI im' ∧ agY im' im ∧ lgQ lm' lm ∧ m' = (im', rs bt rt, lm')) := by
  refine cn_of (by decide) (okR G) rfl (Nat.le_of_ble_eq_true rfl) ?_
  intro M ad hMl F
  subst hMl
  have hR := h.1
  have hX := h.2.1
  have h4 := h.2.2.1
  have h12 := h.2.2.2.1
  have h7 := h.2.2.2.2.1
  have h6 := hX.2.2.1
  have h3 := hX.2.2.2.1
  have hP := h.2.2.2.2.2.2
  have hR := h.1
  have p1 := hp.1
  have p2 := hp.2
  have w1 := hw.1
  have w2 := hw.2
  have g1 := hg.1
  have g2 := hg.2
  refine wp_pad 2 ?_
  show Wp M (XR G) ad Y_X9_foods (pI fun x m' => ∃ im' lm', x = (if (0 ≤ p ∧ p < im 30 0 12) ∧ (0 ≤ w ∧ w ≤ 15) ∧ (0 ≤ g ∧ g ≤ 9) then ((fdR im p.toNat w g 10 : Nat) : Int) else -2) ∧ RI im' ∧ agY im' im ∧ lgQ lm' lm ∧ m' = (im', rs bt rt, lm')) 0 [some (vR 30 0), some (vI p), some (vI w), some (vI g), none, none] [] (im, rs bt rt, lm)
  refine q_aload_n (t := 1) F dX9_foods_0 rfl rfl rfl ?_
  refine q_iload_n (t := 2) F dX9_foods_1 rfl rfl rfl ?_
  refine wp_callV (t := 5) [_] F dX9_foods_2 k_X9_isOne v_X9_isOne ml_X9_101 rfl rfl rfl rfl (Nat.le_of_ble_eq_true rfl) (by decide) (m_30 (by omega)) (c_X9_isOne _ G im bt rt lm hR h12.1 h12.2 p (by constructor <;> omega)) rfl (kI ?_)
  rintro x2 m' ⟨hx2, rfl⟩
  have hx2 := if01 hx2
  refine q_if_eq (t := 8) (u := 22) F dX9_foods_5 (by first | exact hR _ _ _ | (constructor <;> omega)) (by decide) rfl (fun c5 => ?_) (fun c5 => ?_)
  · refine q_bipush (t := 24) F dX9_foods_22 (by decide) rfl ?_
    refine q_iret F dX9_foods_24 rfl ?_
    first
      | (refine ⟨_, rfl, im, lm, ?_, hR, agY_rfl im, lgQ_rfl lm, rfl⟩
         rw [if_neg (by omega)])
      | (obtain rfl : f = 10 := by omega
         refine ⟨_, rfl, S, lg, ?_, hRS, hag, hlg, rfl⟩
         rw [if_pos (by omega)])
  · refine q_iload_n (t := 9) F dX9_foods_8 rfl rfl rfl ?_
    refine wp_callS (t := 12) [_] F dX9_foods_9 k_X9_isWord st_X9_isWord ml_X9_141 rfl rfl (Nat.le_of_ble_eq_true rfl) (by decide) (c_X9_isWord _ G im bt rt lm w (by constructor <;> omega)) rfl (kI ?_)
    rintro x9 m' ⟨hx9, rfl⟩
    have hx9 := if01 hx9
    refine q_if_eq (t := 15) (u := 22) F dX9_foods_12 (by first | exact hR _ _ _ | (constructor <;> omega)) (by decide) rfl (fun c12 => ?_) (fun c12 => ?_)
    · refine q_bipush (t := 24) F dX9_foods_22 (by decide) rfl ?_
      refine q_iret F dX9_foods_24 rfl ?_
      first
        | (refine ⟨_, rfl, im, lm, ?_, hR, agY_rfl im, lgQ_rfl lm, rfl⟩
           rw [if_neg (by omega)])
        | (obtain rfl : f = 10 := by omega
           refine ⟨_, rfl, S, lg, ?_, hRS, hag, hlg, rfl⟩
           rw [if_pos (by omega)])
    · refine q_iload_n (t := 16) F dX9_foods_15 rfl rfl rfl ?_
      refine wp_callS (t := 19) [_] F dX9_foods_16 k_X9_isGap st_X9_isGap ml_X9_138 rfl rfl (Nat.le_of_ble_eq_true rfl) (by decide) (c_X9_isGap _ G im bt rt lm g (by constructor <;> omega)) rfl (kI ?_)
      rintro x16 m' ⟨hx16, rfl⟩
      have hx16 := if01 hx16
      refine q_if_ne (t := 22) (u := 25) F dX9_foods_19 (by first | exact hR _ _ _ | (constructor <;> omega)) (by decide) rfl (fun c19 => ?_) (fun c19 => ?_)
      · refine q_iconst (t := 26) F dX9_foods_25 rfl ?_
        refine q_istore (t := 28) F dX9_foods_26 (by decide) rfl rfl ?_
        refine q_iconst (t := 29) F dX9_foods_28 rfl ?_
        refine q_istore (t := 31) F dX9_foods_29 (by decide) rfl rfl ?_
        have L31 : ∀ (fz : Nat) (f : Nat) (S lg : IM), 10 - f < fz → (f ≤ 10 ∧ RI S ∧ agY S im ∧ lgQ lg lm) → Wp M (XR G) ad Y_X9_foods (pI fun x m' => ∃ im' lm', x = (if (0 ≤ p ∧ p < im 30 0 12) ∧ (0 ≤ w ∧ w ≤ 15) ∧ (0 ≤ g ∧ g ≤ 9) then ((fdR im p.toNat w g 10 : Nat) : Int) else -2) ∧ RI im' ∧ agY im' im ∧ lgQ lm' lm ∧ m' = (im', rs bt rt, lm')) 31 [some (vR 30 0), some (vI p), some (vI w), some (vI g), some (vI ((fdR im p.toNat w g f : Nat) : Int)), some (vI (f : Int))] [] (S, rs bt rt, lg) := by
          intro fz
          induction fz with
          | zero => intro f S lg h; exact absurd h (Nat.not_lt_zero _)
          | succ fz ih =>
            have ih31 := ih
            intro f S lg hmeas ⟨hf, hRS, hag, hlg⟩
            refine q_iload (t := 33) F dX9_foods_31 rfl rfl ?_
            refine q_bipush (t := 35) F dX9_foods_33 (by decide) rfl ?_
            refine q_icmp_ge (t := 38) (u := 69) F dX9_foods_35 (by first | exact hR _ _ _ | (constructor <;> omega)) (by first | exact hR _ _ _ | (constructor <;> omega)) (by decide) rfl (fun c35 => ?_) (fun c35 => ?_)
            · refine q_iload (t := 71) F dX9_foods_69 rfl rfl ?_
              refine q_iret F dX9_foods_71 rfl ?_
              first
                | (refine ⟨_, rfl, im, lm, ?_, hR, agY_rfl im, lgQ_rfl lm, rfl⟩
                   rw [if_neg (by omega)])
                | (obtain rfl : f = 10 := by omega
                   refine ⟨_, rfl, S, lg, ?_, hRS, hag, hlg, rfl⟩
                   rw [if_pos (by omega)])
            · refine q_iload (t := 40) F dX9_foods_38 rfl rfl ?_
              refine q_aload_n (t := 41) F dX9_foods_40 rfl rfl rfl ?_
              refine q_iload_n (t := 42) F dX9_foods_41 rfl rfl rfl ?_
              refine q_iload_n (t := 43) F dX9_foods_42 rfl rfl rfl ?_
              refine q_iload (t := 45) F dX9_foods_43 rfl rfl ?_
              rw [show vI p = vI ((p.toNat : Nat) : Int) by rw [Int.toNat_of_nonneg (by omega)]]
              refine wp_callV (t := 48) [_, _, _] F dX9_foods_45 k_X9_wouldStick v_X9_wouldStick ml_X9_361 rfl rfl rfl rfl (Nat.le_of_ble_eq_true rfl) (by decide) (m_30 (by omega)) (c_X9_wouldStick _ G S bt rt lg (h.ag hRS hag) p.toNat (by rw [hag 30 0 12 (by omega)]; omega) w (f : Int) hw (by constructor <;> omega)) rfl (kI ?_)
              rintro x45 m' ⟨im2, lm2, hx45, hR2, hag2, hlg2, rfl⟩
              rw [show vI ((p.toNat : Nat) : Int) = vI p by rw [Int.toNat_of_nonneg (by omega)]]
              rw [utR_ag hag] at hx45
              have hut := utR_in (im := im) (p := p.toNat) (w := w) (fd := (f : Int))
              refine q_iload_n (t := 49) F dX9_foods_48 rfl rfl rfl ?_
              refine q_icmp_ne (t := 52) (u := 56) F dX9_foods_49 (by constructor <;> omega) (by constructor <;> omega) (by decide) rfl (fun c49 => ?_) (fun c49 => ?_)
              · refine q_iconst (t := 57) F dX9_foods_56 rfl ?_
                refine q_iload (t := 59) F dX9_foods_57 rfl rfl ?_
                refine q_ishl (t := 60) F dX9_foods_59 (by omega) (by omega) rfl ?_
                first | rw [pow_cast f] | rw [pow_cast0 f]
                refine q_ior (t := 61) F dX9_foods_60 rfl ?_
                refine q_istore (t := 63) F dX9_foods_61 (by decide) rfl rfl ?_
                refine q_iinc (t := 66) F dX9_foods_63 rfl (by decide) rfl rfl ?_
                refine q_goto (t := 31) F dX9_foods_66 (by decide) ?_
                rw [show (f : Int) + 1 = ((f + 1 : Nat) : Int) by omega]
                first
                  | (rw [show fdR im p.toNat w g f ||| 2 ^ f = fdR im p.toNat w g (f + 1) from by rw [fdR_s, if_pos (by omega)]]
                     exact ih31 (f + 1) im2 lm2 (by omega) ⟨by omega, hR2, hag2.trans hag, hlg2.trans hlg⟩)
                  | (rw [show fdR im p.toNat w g f ||| 0 = fdR im p.toNat w g (f + 1) from by rw [fdR_s, if_neg (by omega), Nat.or_zero]]
                     exact ih31 (f + 1) im2 lm2 (by omega) ⟨by omega, hR2, hag2.trans hag, hlg2.trans hlg⟩)
              · refine q_iconst (t := 53) F dX9_foods_52 rfl ?_
                refine q_goto (t := 57) F dX9_foods_53 (by decide) ?_
                refine q_iload (t := 59) F dX9_foods_57 rfl rfl ?_
                refine q_ishl (t := 60) F dX9_foods_59 (by omega) (by omega) rfl ?_
                first | rw [pow_cast f] | rw [pow_cast0 f]
                refine q_ior (t := 61) F dX9_foods_60 rfl ?_
                refine q_istore (t := 63) F dX9_foods_61 (by decide) rfl rfl ?_
                refine q_iinc (t := 66) F dX9_foods_63 rfl (by decide) rfl rfl ?_
                refine q_goto (t := 31) F dX9_foods_66 (by decide) ?_
                rw [show (f : Int) + 1 = ((f + 1 : Nat) : Int) by omega]
                first
                  | (rw [show fdR im p.toNat w g f ||| 2 ^ f = fdR im p.toNat w g (f + 1) from by rw [fdR_s, if_pos (by omega)]]
                     exact ih31 (f + 1) im2 lm2 (by omega) ⟨by omega, hR2, hag2.trans hag, hlg2.trans hlg⟩)
                  | (rw [show fdR im p.toNat w g f ||| 0 = fdR im p.toNat w g (f + 1) from by rw [fdR_s, if_neg (by omega), Nat.or_zero]]
                     exact ih31 (f + 1) im2 lm2 (by omega) ⟨by omega, hR2, hag2.trans hag, hlg2.trans hlg⟩)
        exact L31 _ 0 im lm (Nat.lt_succ_self _) ⟨by omega, hR, agY_rfl im, lgQ_rfl lm⟩
      · refine q_bipush (t := 24) F dX9_foods_22 (by decide) rfl ?_
        refine q_iret F dX9_foods_24 rfl ?_
        first
          | (refine ⟨_, rfl, im, lm, ?_, hR, agY_rfl im, lgQ_rfl lm, rfl⟩
             rw [if_neg (by omega)])
          | (obtain rfl : f = 10 := by omega
             refine ⟨_, rfl, S, lg, ?_, hRS, hag, hlg, rfl⟩
             rw [if_pos (by omega)])

set_option maxHeartbeats 4000000 in
theorem c_X9_best (l : Launch) (G : GS) (im : IM) (bt rt : Nat) (lm : IM) (h : RC im) (hA : AG im 1000) (h79 : im 30 0 7 ≤ 999) (n what : Int) (hn : ri n) (hwhat : ri what) : Cn l (XR G) yX9_best Y_X9_best [vR 30 0, vI n, vI what] (im, rs bt rt, lm) (pI fun x m' => (¬ ((0 ≤ n ∧ n ≤ 60) ∧ 0 ≤ what ∧ what ≤ 1) → x = -2 ∧ m' = (im, rs bt rt, lm)) ∧ ((0 ≤ n ∧ n ≤ 60) ∧ 0 ≤ what ∧ what ≤ 1 → ∃ im' lm', x = (if what = 0 then (dB (costR im n.toNat) 50).1 else smF (costR im n.toNat) 50 - (dB (costR im n.toNat) 50).2) ∧ RI im' ∧ RU im n.toNat im' ∧ lgQ lm' lm ∧ m' = (im', rs bt rt, lm'))) := by
  refine cn_of (by decide) (okR G) rfl (Nat.le_of_ble_eq_true rfl) ?_
  intro M ad hMl F
  subst hMl
  have hR := h.1
  have hX := h.2.1
  have h4 := h.2.2.1
  have h12 := h.2.2.2.1
  have h7 := h.2.2.2.2.1
  have h6 := hX.2.2.1
  have h3 := hX.2.2.2.1
  have hP := h.2.2.2.2.2.2
  have hR := h.1
  have n1 := hn.1
  have n2 := hn.2
  have what1 := hwhat.1
  have what2 := hwhat.2
  refine wp_pad 4 ?_
  show Wp M (XR G) ad Y_X9_best (pI fun x m' => (¬ ((0 ≤ n ∧ n ≤ 60) ∧ 0 ≤ what ∧ what ≤ 1) → x = -2 ∧ m' = (im, rs bt rt, lm)) ∧ ((0 ≤ n ∧ n ≤ 60) ∧ 0 ≤ what ∧ what ≤ 1 → ∃ im' lm', x = (if what = 0 then (dB (costR im n.toNat) 50).1 else smF (costR im n.toNat) 50 - (dB (costR im n.toNat) 50).2) ∧ RI im' ∧ RU im n.toNat im' ∧ lgQ lm' lm ∧ m' = (im', rs bt rt, lm'))) 0 [some (vR 30 0), some (vI n), some (vI what), none, none, none, none] [] (im, rs bt rt, lm)
  refine q_iload_n (t := 1) F dX9_best_0 rfl rfl rfl ?_
  refine q_i2l (t := 2) F dX9_best_1 (by first | exact hR _ _ _ | (constructor <;> omega)) rfl ?_
  refine q_lconst (t := 3) (x := 0) F dX9_best_2 (by decide) rfl ?_
  refine q_ldc2 (t := 6) (x := 60) F dX9_best_3 kl_X9_242 (by decide) rfl ?_
  refine wp_callS (t := 9) [_, _, _] F dX9_best_6 k_X9_in st_X9_in ml_X9_91 rfl rfl (Nat.le_of_ble_eq_true rfl) (by decide) (c_X9_in _ G _ _ _ _ _ _ _ (by constructor <;> omega) (by constructor <;> omega) (by constructor <;> omega)) rfl (kI ?_)
  rintro x6 m' ⟨hx6, rfl⟩
  have hx6 := if01 hx6
  refine q_if_eq (t := 12) (u := 22) F dX9_best_9 (by first | exact hR _ _ _ | (constructor <;> omega)) (by decide) rfl (fun c9 => ?_) (fun c9 => ?_)
  · refine q_bipush (t := 24) F dX9_best_22 (by decide) rfl ?_
    refine q_iret F dX9_best_24 rfl ?_
    first
      | exact ⟨_, rfl, fun _ => ⟨rfl, rfl⟩, fun z => absurd z (by omega)⟩
      | (refine ⟨_, rfl, fun z => absurd (by omega) z, fun _ => ⟨im2, lm2, ?_, hR2, hU, hlg2, rfl⟩⟩
         have ex := dB_ext (f := costR im n.toNat) hcs.1 (N := q) (50 - q) (fun j hj => by unfold costR; rw [if_pos (by unfold whenR; rw [if_neg (by omega)])])
         rw [show q + (50 - q) = 50 by omega] at ex
         rw [ex]
         first
           | (rw [if_pos (by omega)])
           | (rw [if_neg (by omega)]))
  · refine q_iload_n (t := 13) F dX9_best_12 rfl rfl rfl ?_
    refine q_i2l (t := 14) F dX9_best_13 (by first | exact hR _ _ _ | (constructor <;> omega)) rfl ?_
    refine q_lconst (t := 15) (x := 0) F dX9_best_14 (by decide) rfl ?_
    refine q_lconst (t := 16) (x := 1) F dX9_best_15 (by decide) rfl ?_
    refine wp_callS (t := 19) [_, _, _] F dX9_best_16 k_X9_in st_X9_in ml_X9_91 rfl rfl (Nat.le_of_ble_eq_true rfl) (by decide) (c_X9_in _ G _ _ _ _ _ _ _ (by constructor <;> omega) (by constructor <;> omega) (by constructor <;> omega)) rfl (kI ?_)
    rintro x16 m' ⟨hx16, rfl⟩
    have hx16 := if01 hx16
    refine q_if_ne (t := 22) (u := 25) F dX9_best_19 (by first | exact hR _ _ _ | (constructor <;> omega)) (by decide) rfl (fun c19 => ?_) (fun c19 => ?_)
    · refine q_aload_n (t := 26) F dX9_best_25 rfl rfl rfl ?_
      refine q_iload_n (t := 27) F dX9_best_26 rfl rfl rfl ?_
      rw [show vI n = vI ((n.toNat : Nat) : Int) by rw [Int.toNat_of_nonneg (by omega)]]
      refine wp_callV (t := 30) [_] F dX9_best_27 k_X9_runs v_X9_runs ml_X9_410 rfl rfl rfl rfl (Nat.le_of_ble_eq_true rfl) (by decide) (m_30 (by omega)) (c_X9_runs _ G im bt rt lm h hA h79 n.toNat (by omega)) rfl (kV ?_)
      rintro m' ⟨im2, lm2, hR2, hU, hlg2, rfl⟩
      rw [show vI ((n.toNat : Nat) : Int) = vI n by rw [Int.toNat_of_nonneg (by omega)]]
      have hcs := hU.cost h
      have e40 := hU.2.2.1
      have e12 := hU.e
      have hdb := fun q => dB_lim hcs.1 q
      refine q_aload_n (t := 31) F dX9_best_30 rfl rfl rfl ?_
      refine g_X9_401 (t := 34) F dX9_best_31 rfl rfl ?_
      try simp only [up_app, row_app, scr_app, cpy_app, Nat.reduceEqDiff, Int.reduceToNat, Int.toNat_natCast, and_true, true_and, and_false, false_and, and_self, reduceIte]
      rw [e40]
      refine q_istore_n (t := 35) F dX9_best_34 rfl (by decide) rfl rfl ?_
      refine q_iload_n (t := 36) F dX9_best_35 rfl rfl rfl ?_
      refine q_istore (t := 38) F dX9_best_36 (by decide) rfl rfl ?_
      refine q_iconst (t := 39) F dX9_best_38 rfl ?_
      refine q_istore (t := 41) F dX9_best_39 (by decide) rfl rfl ?_
      refine q_iconst (t := 42) F dX9_best_41 rfl ?_
      refine q_istore (t := 44) F dX9_best_42 (by decide) rfl rfl ?_
      have L44 : ∀ (fz : Nat) (q : Nat), 51 - q < fz → (q : Int) ≤ 10 * im 30 0 12 → Wp M (XR G) ad Y_X9_best (pI fun x m' => (¬ ((0 ≤ n ∧ n ≤ 60) ∧ 0 ≤ what ∧ what ≤ 1) → x = -2 ∧ m' = (im, rs bt rt, lm)) ∧ ((0 ≤ n ∧ n ≤ 60) ∧ 0 ≤ what ∧ what ≤ 1 → ∃ im' lm', x = (if what = 0 then (dB (costR im n.toNat) 50).1 else smF (costR im n.toNat) 50 - (dB (costR im n.toNat) 50).2) ∧ RI im' ∧ RU im n.toNat im' ∧ lgQ lm' lm ∧ m' = (im', rs bt rt, lm'))) 44 [some (vR 30 0), some (vI n), some (vI what), some (vI (smF (costR im n.toNat) 50)), some (vI (smF (costR im n.toNat) 50 - (dB (costR im n.toNat) q).2)), some (vI (dB (costR im n.toNat) q).1), some (vI (q : Int))] [] (im2, rs bt rt, lm2) := by
        intro fz
        induction fz with
        | zero => intro q h; exact absurd h (Nat.not_lt_zero _)
        | succ fz ih =>
          have ih44 := ih
          intro q hmeas hq
          have hdq := hdb q
          have hcq := hcs.1 q
          have hds := dB_s (costR im n.toNat) q
          refine q_iload (t := 46) F dX9_best_44 rfl rfl ?_
          refine q_bipush (t := 48) F dX9_best_46 (by decide) rfl ?_
          refine q_aload_n (t := 49) F dX9_best_48 rfl rfl rfl ?_
          refine g_X9_88 (t := 52) F dX9_best_49 rfl rfl ?_
          try simp only [up_app, row_app, scr_app, cpy_app, Nat.reduceEqDiff, Int.reduceToNat, Int.toNat_natCast, and_true, true_and, and_false, false_and, and_self, reduceIte]
          rw [e12]
          refine q_imul (t := 53) F dX9_best_52 rfl ?_
          refine q_icmp_ge (t := 56) (u := 91) F dX9_best_53 (by first | exact hR _ _ _ | (constructor <;> omega)) (by first | exact hR _ _ _ | (constructor <;> omega)) (by decide) rfl (fun c53 => ?_) (fun c53 => ?_)
          · refine q_iload_n (t := 92) F dX9_best_91 rfl rfl rfl ?_
            refine q_if_ne (t := 95) (u := 100) F dX9_best_92 (by first | exact hR _ _ _ | (constructor <;> omega)) (by decide) rfl (fun c92 => ?_) (fun c92 => ?_)
            · refine q_iload (t := 102) F dX9_best_100 rfl rfl ?_
              refine q_iret F dX9_best_102 rfl ?_
              first
                | exact ⟨_, rfl, fun _ => ⟨rfl, rfl⟩, fun z => absurd z (by omega)⟩
                | (refine ⟨_, rfl, fun z => absurd (by omega) z, fun _ => ⟨im2, lm2, ?_, hR2, hU, hlg2, rfl⟩⟩
                   have ex := dB_ext (f := costR im n.toNat) hcs.1 (N := q) (50 - q) (fun j hj => by unfold costR; rw [if_pos (by unfold whenR; rw [if_neg (by omega)])])
                   rw [show q + (50 - q) = 50 by omega] at ex
                   rw [ex]
                   first
                     | (rw [if_pos (by omega)])
                     | (rw [if_neg (by omega)]))
            · refine q_iload (t := 97) F dX9_best_95 rfl rfl ?_
              refine q_goto (t := 102) F dX9_best_97 (by decide) ?_
              refine q_iret F dX9_best_102 rfl ?_
              first
                | exact ⟨_, rfl, fun _ => ⟨rfl, rfl⟩, fun z => absurd z (by omega)⟩
                | (refine ⟨_, rfl, fun z => absurd (by omega) z, fun _ => ⟨im2, lm2, ?_, hR2, hU, hlg2, rfl⟩⟩
                   have ex := dB_ext (f := costR im n.toNat) hcs.1 (N := q) (50 - q) (fun j hj => by unfold costR; rw [if_pos (by unfold whenR; rw [if_neg (by omega)])])
                   rw [show q + (50 - q) = 50 by omega] at ex
                   rw [ex]
                   first
                     | (rw [if_pos (by omega)])
                     | (rw [if_neg (by omega)]))
          · refine q_iload_n (t := 57) F dX9_best_56 rfl rfl rfl ?_
            refine q_aload_n (t := 58) F dX9_best_57 rfl rfl rfl ?_
            refine g_X9_41 (t := 61) F dX9_best_58 rfl rfl ?_
            refine q_iload (t := 63) F dX9_best_61 rfl rfl ?_
            first | refine ldN_39 (t := 64) F dX9_best_63 (by omega) rfl ?_ | refine ld_39 (t := 64) F dX9_best_63 (by omega) (by omega) rfl ?_
            try simp only [up_app, row_app, scr_app, cpy_app, Nat.reduceEqDiff, Int.reduceToNat, Int.toNat_natCast, and_true, true_and, and_false, false_and, and_self, reduceIte]
            rw [(hU.2.1 q (by omega)).2]
            refine q_isub (t := 65) F dX9_best_64 rfl ?_
            refine q_iload (t := 67) F dX9_best_65 rfl rfl ?_
            refine q_icmp_ge (t := 70) (u := 85) F dX9_best_67 (by constructor <;> omega) (by constructor <;> omega) (by decide) rfl (fun c67 => ?_) (fun c67 => ?_)
            · refine q_iinc (t := 88) F dX9_best_85 rfl (by decide) rfl rfl ?_
              refine q_goto (t := 44) F dX9_best_88 (by decide) ?_
              rw [show (q : Int) + 1 = ((q + 1 : Nat) : Int) by omega]
              first
                | (have e : dB (costR im n.toNat) (q + 1) = ((q : Int), costR im n.toNat q) := by rw [hds, if_pos (by omega)]
                   have h9 := ih44 (q + 1) (by omega) (by omega)
                   rw [e] at h9
                   exact h9)
                | (have e : dB (costR im n.toNat) (q + 1) = dB (costR im n.toNat) q := by rw [hds, if_neg (by omega)]
                   have h9 := ih44 (q + 1) (by omega) (by omega)
                   rw [e] at h9
                   exact h9)
            · refine q_iload (t := 72) F dX9_best_70 rfl rfl ?_
              refine q_istore (t := 74) F dX9_best_72 (by decide) rfl rfl ?_
              refine q_iload_n (t := 75) F dX9_best_74 rfl rfl rfl ?_
              refine q_aload_n (t := 76) F dX9_best_75 rfl rfl rfl ?_
              refine g_X9_41 (t := 79) F dX9_best_76 rfl rfl ?_
              refine q_iload (t := 81) F dX9_best_79 rfl rfl ?_
              first | refine ldN_39 (t := 82) F dX9_best_81 (by omega) rfl ?_ | refine ld_39 (t := 82) F dX9_best_81 (by omega) (by omega) rfl ?_
              try simp only [up_app, row_app, scr_app, cpy_app, Nat.reduceEqDiff, Int.reduceToNat, Int.toNat_natCast, and_true, true_and, and_false, false_and, and_self, reduceIte]
              rw [(hU.2.1 q (by omega)).2]
              refine q_isub (t := 83) F dX9_best_82 rfl ?_
              refine q_istore (t := 85) F dX9_best_83 (by decide) rfl rfl ?_
              refine q_iinc (t := 88) F dX9_best_85 rfl (by decide) rfl rfl ?_
              refine q_goto (t := 44) F dX9_best_88 (by decide) ?_
              rw [show (q : Int) + 1 = ((q + 1 : Nat) : Int) by omega]
              first
                | (have e : dB (costR im n.toNat) (q + 1) = ((q : Int), costR im n.toNat q) := by rw [hds, if_pos (by omega)]
                   have h9 := ih44 (q + 1) (by omega) (by omega)
                   rw [e] at h9
                   exact h9)
                | (have e : dB (costR im n.toNat) (q + 1) = dB (costR im n.toNat) q := by rw [hds, if_neg (by omega)]
                   have h9 := ih44 (q + 1) (by omega) (by omega)
                   rw [e] at h9
                   exact h9)
      have L0 := L44 _ 0 (Nat.lt_succ_self _) (by omega)
      rw [show (dB (costR im n.toNat) 0).2 = 0 from rfl, Int.sub_zero] at L0
      exact L0
    · refine q_bipush (t := 24) F dX9_best_22 (by decide) rfl ?_
      refine q_iret F dX9_best_24 rfl ?_
      first
        | exact ⟨_, rfl, fun _ => ⟨rfl, rfl⟩, fun z => absurd z (by omega)⟩
        | (refine ⟨_, rfl, fun z => absurd (by omega) z, fun _ => ⟨im2, lm2, ?_, hR2, hU, hlg2, rfl⟩⟩
           have ex := dB_ext (f := costR im n.toNat) hcs.1 (N := q) (50 - q) (fun j hj => by unfold costR; rw [if_pos (by unfold whenR; rw [if_neg (by omega)])])
           rw [show q + (50 - q) = 50 by omega] at ex
           rw [ex]
           first
             | (rw [if_pos (by omega)])
             | (rw [if_neg (by omega)]))

set_option maxHeartbeats 4000000 in
theorem c_X9_bitsOf (l : Launch) (G : GS) (im : IM) (bt rt : Nat) (lm : IM) (v : Nat) (hv : v < 1024) : Cn l (XR G) yX9_bitsOf Y_X9_bitsOf [vI (v : Int)] (im, rs bt rt, lm) (pI fun x m' => x = pop v ∧ m' = (im, rs bt rt, lm)) := by
  refine cn_of (by decide) (okR G) rfl (Nat.le_of_ble_eq_true rfl) ?_
  intro M ad hMl F
  subst hMl
  refine wp_pad 2 ?_
  show Wp M (XR G) ad Y_X9_bitsOf (pI fun x m' => x = pop v ∧ m' = (im, rs bt rt, lm)) 0 [some (vI (v : Int)), none, none] [] (im, rs bt rt, lm)
  refine q_iconst (t := 1) F dX9_bitsOf_0 rfl ?_
  refine q_istore_n (t := 2) F dX9_bitsOf_1 rfl (by decide) rfl rfl ?_
  refine q_iload_n (t := 3) F dX9_bitsOf_2 rfl rfl rfl ?_
  refine q_istore_n (t := 4) F dX9_bitsOf_3 rfl (by decide) rfl rfl ?_
  have L4 : ∀ (fz : Nat) (b : Nat), b < fz → b < 1024 → Wp M (XR G) ad Y_X9_bitsOf (pI fun x m' => x = pop v ∧ m' = (im, rs bt rt, lm)) 4 [some (vI (v : Int)), some (vI (pop v - pop b)), some (vI (b : Int))] [] (im, rs bt rt, lm) := by
    intro fz
    induction fz with
    | zero => intro b h; exact absurd h (Nat.not_lt_zero _)
    | succ fz ih =>
      have ih4 := ih
      intro b hmeas hb
      have hpb := pop_in b
      have hpv := pop_in v
      refine q_iload_n (t := 5) F dX9_bitsOf_4 rfl rfl rfl ?_
      refine q_if_eq (t := 8) (u := 20) F dX9_bitsOf_5 (by first | exact hR _ _ _ | (constructor <;> omega)) (by decide) rfl (fun c5 => ?_) (fun c5 => ?_)
      · refine q_iload_n (t := 21) F dX9_bitsOf_20 rfl rfl rfl ?_
        refine q_iret F dX9_bitsOf_21 rfl ?_
        obtain rfl : b = 0 := by omega
        exact ⟨_, rfl, by rw [show pop 0 = 0 from rfl, Int.sub_zero], rfl⟩
      · refine q_iinc (t := 11) F dX9_bitsOf_8 rfl (by decide) rfl rfl ?_
        refine q_iload_n (t := 12) F dX9_bitsOf_11 rfl rfl rfl ?_
        refine q_iload_n (t := 13) F dX9_bitsOf_12 rfl rfl rfl ?_
        refine q_iconst (t := 14) F dX9_bitsOf_13 rfl ?_
        refine q_isub (t := 15) F dX9_bitsOf_14 rfl ?_
        rw [show (b : Int) - 1 = ((b - 1 : Nat) : Int) by omega]
        refine q_iand (t := 16) F dX9_bitsOf_15 rfl ?_
        refine q_istore_n (t := 17) F dX9_bitsOf_16 rfl (by decide) rfl rfl ?_
        refine q_goto (t := 4) F dX9_bitsOf_17 (by decide) ?_
        have hz : b ≠ 0 := by omega
        have e := pop_and b hb hz
        have hle := Nat.and_le_right (n := b) (m := b - 1)
        rw [show pop v - pop b + 1 = pop v - pop (b &&& (b - 1)) by omega]
        exact ih4 (b &&& (b - 1)) (by omega) (by omega)
  have L0 := L4 _ v (Nat.lt_succ_self _) hv
  rw [Int.sub_self] at L0
  exact L0

set_option maxHeartbeats 4000000 in
theorem c_X9_few (l : Launch) (G : GS) (im : IM) (bt rt : Nat) (lm : IM) (h : RC im) (hA : AG im 1000) (h79 : im 30 0 7 ≤ 999) (p n e : Int) (hp : ri p) (hn : ri n) (he : ri e) : Cn l (XR G) yX9_few Y_X9_few [vR 30 0, vI p, vI n, vI e] (im, rs bt rt, lm) (pI fun x m' => (¬ ((0 ≤ p ∧ p < im 30 0 12) ∧ (0 ≤ n ∧ n ≤ 60) ∧ 0 ≤ e ∧ e ≤ 9999) → x = -2 ∧ m' = (im, rs bt rt, lm)) ∧ ((0 ≤ p ∧ p < im 30 0 12) ∧ (0 ≤ n ∧ n ≤ 60) ∧ 0 ≤ e ∧ e ≤ 9999 → ∃ im' lm', x = fwB (smF (costR im n.toNat) 50) (fun g => costR im n.toNat (10 * p.toNat + g)) e 1024 ∧ RI im' ∧ RU im n.toNat im' ∧ lgQ lm' lm ∧ m' = (im', rs bt rt, lm'))) := by
  refine cn_of (by decide) (okR G) rfl (Nat.le_of_ble_eq_true rfl) ?_
  intro M ad hMl F
  subst hMl
  have hR := h.1
  have hX := h.2.1
  have h4 := h.2.2.1
  have h12 := h.2.2.2.1
  have h7 := h.2.2.2.2.1
  have h6 := hX.2.2.1
  have h3 := hX.2.2.2.1
  have hP := h.2.2.2.2.2.2
  have hR := h.1
  have p1 := hp.1
  have p2 := hp.2
  have n1 := hn.1
  have n2 := hn.2
  have e1 := he.1
  have e2 := he.2
  refine wp_pad 4 ?_
  show Wp M (XR G) ad Y_X9_few (pI fun x m' => (¬ ((0 ≤ p ∧ p < im 30 0 12) ∧ (0 ≤ n ∧ n ≤ 60) ∧ 0 ≤ e ∧ e ≤ 9999) → x = -2 ∧ m' = (im, rs bt rt, lm)) ∧ ((0 ≤ p ∧ p < im 30 0 12) ∧ (0 ≤ n ∧ n ≤ 60) ∧ 0 ≤ e ∧ e ≤ 9999 → ∃ im' lm', x = fwB (smF (costR im n.toNat) 50) (fun g => costR im n.toNat (10 * p.toNat + g)) e 1024 ∧ RI im' ∧ RU im n.toNat im' ∧ lgQ lm' lm ∧ m' = (im', rs bt rt, lm'))) 0 [some (vR 30 0), some (vI p), some (vI n), some (vI e), none, none, none, none] [] (im, rs bt rt, lm)
  refine q_aload_n (t := 1) F dX9_few_0 rfl rfl rfl ?_
  refine q_iload_n (t := 2) F dX9_few_1 rfl rfl rfl ?_
  refine wp_callV (t := 5) [_] F dX9_few_2 k_X9_isOne v_X9_isOne ml_X9_101 rfl rfl rfl rfl (Nat.le_of_ble_eq_true rfl) (by decide) (m_30 (by omega)) (c_X9_isOne _ G im bt rt lm hR h12.1 h12.2 p (by constructor <;> omega)) rfl (kI ?_)
  rintro x2 m' ⟨hx2, rfl⟩
  have hx2 := if01 hx2
  refine q_if_eq (t := 8) (u := 32) F dX9_few_5 (by first | exact hR _ _ _ | (constructor <;> omega)) (by decide) rfl (fun c5 => ?_) (fun c5 => ?_)
  · refine q_bipush (t := 34) F dX9_few_32 (by decide) rfl ?_
    refine q_iret F dX9_few_34 rfl ?_
    first
      | exact ⟨_, rfl, fun _ => ⟨rfl, rfl⟩, fun z => absurd z (by omega)⟩
      | (obtain rfl : b = 1024 := by omega
         exact ⟨_, rfl, fun z => absurd (by omega) z, fun _ => ⟨im2, lm2, rfl, hR2, hU, hlg2, rfl⟩⟩)
  · refine q_iload_n (t := 9) F dX9_few_8 rfl rfl rfl ?_
    refine q_i2l (t := 10) F dX9_few_9 (by first | exact hR _ _ _ | (constructor <;> omega)) rfl ?_
    refine q_lconst (t := 11) (x := 0) F dX9_few_10 (by decide) rfl ?_
    refine q_ldc2 (t := 14) (x := 60) F dX9_few_11 kl_X9_242 (by decide) rfl ?_
    refine wp_callS (t := 17) [_, _, _] F dX9_few_14 k_X9_in st_X9_in ml_X9_91 rfl rfl (Nat.le_of_ble_eq_true rfl) (by decide) (c_X9_in _ G _ _ _ _ _ _ _ (by constructor <;> omega) (by constructor <;> omega) (by constructor <;> omega)) rfl (kI ?_)
    rintro x14 m' ⟨hx14, rfl⟩
    have hx14 := if01 hx14
    refine q_if_eq (t := 20) (u := 32) F dX9_few_17 (by first | exact hR _ _ _ | (constructor <;> omega)) (by decide) rfl (fun c17 => ?_) (fun c17 => ?_)
    · refine q_bipush (t := 34) F dX9_few_32 (by decide) rfl ?_
      refine q_iret F dX9_few_34 rfl ?_
      first
        | exact ⟨_, rfl, fun _ => ⟨rfl, rfl⟩, fun z => absurd z (by omega)⟩
        | (obtain rfl : b = 1024 := by omega
           exact ⟨_, rfl, fun z => absurd (by omega) z, fun _ => ⟨im2, lm2, rfl, hR2, hU, hlg2, rfl⟩⟩)
    · refine q_iload_n (t := 21) F dX9_few_20 rfl rfl rfl ?_
      refine q_i2l (t := 22) F dX9_few_21 (by first | exact hR _ _ _ | (constructor <;> omega)) rfl ?_
      refine q_lconst (t := 23) (x := 0) F dX9_few_22 (by decide) rfl ?_
      refine q_ldc2 (t := 26) (x := 9999) F dX9_few_23 kl_X9_413 (by decide) rfl ?_
      refine wp_callS (t := 29) [_, _, _] F dX9_few_26 k_X9_in st_X9_in ml_X9_91 rfl rfl (Nat.le_of_ble_eq_true rfl) (by decide) (c_X9_in _ G _ _ _ _ _ _ _ (by constructor <;> omega) (by constructor <;> omega) (by constructor <;> omega)) rfl (kI ?_)
      rintro x26 m' ⟨hx26, rfl⟩
      have hx26 := if01 hx26
      refine q_if_ne (t := 32) (u := 35) F dX9_few_29 (by first | exact hR _ _ _ | (constructor <;> omega)) (by decide) rfl (fun c29 => ?_) (fun c29 => ?_)
      · refine q_aload_n (t := 36) F dX9_few_35 rfl rfl rfl ?_
        refine q_iload_n (t := 37) F dX9_few_36 rfl rfl rfl ?_
        rw [show vI n = vI ((n.toNat : Nat) : Int) by rw [Int.toNat_of_nonneg (by omega)]]
        refine wp_callV (t := 40) [_] F dX9_few_37 k_X9_runs v_X9_runs ml_X9_410 rfl rfl rfl rfl (Nat.le_of_ble_eq_true rfl) (by decide) (m_30 (by omega)) (c_X9_runs _ G im bt rt lm h hA h79 n.toNat (by omega)) rfl (kV ?_)
        rintro m' ⟨im2, lm2, hR2, hU, hlg2, rfl⟩
        rw [show vI ((n.toNat : Nat) : Int) = vI n by rw [Int.toNat_of_nonneg (by omega)]]
        have hcs := hU.cost h
        have e40 := hU.2.2.1
        have e12 := hU.e
        have hsv := fun b k hk => svF_in (c := (fun g => costR im n.toNat (10 * p.toNat + g))) (fun g _ => hcs.1 (10 * p.toNat + g)) b k hk
        refine q_iconst (t := 41) F dX9_few_40 rfl ?_
        refine q_istore (t := 43) F dX9_few_41 (by decide) rfl rfl ?_
        refine q_iconst (t := 44) F dX9_few_43 rfl ?_
        refine q_istore (t := 46) F dX9_few_44 (by decide) rfl rfl ?_
        have L46 : ∀ (fz : Nat) (b : Nat), 1024 - b < fz → b ≤ 1024 → Wp M (XR G) ad Y_X9_few (pI fun x m' => (¬ ((0 ≤ p ∧ p < im 30 0 12) ∧ (0 ≤ n ∧ n ≤ 60) ∧ 0 ≤ e ∧ e ≤ 9999) → x = -2 ∧ m' = (im, rs bt rt, lm)) ∧ ((0 ≤ p ∧ p < im 30 0 12) ∧ (0 ≤ n ∧ n ≤ 60) ∧ 0 ≤ e ∧ e ≤ 9999 → ∃ im' lm', x = fwB (smF (costR im n.toNat) 50) (fun g => costR im n.toNat (10 * p.toNat + g)) e 1024 ∧ RI im' ∧ RU im n.toNat im' ∧ lgQ lm' lm ∧ m' = (im', rs bt rt, lm'))) 46 [some (vR 30 0), some (vI p), some (vI n), some (vI e), some (vI (fwB (smF (costR im n.toNat) 50) (fun g => costR im n.toNat (10 * p.toNat + g)) e b)), some (vI (b : Int)), none, none] [] (im2, rs bt rt, lm2) := by
          intro fz
          induction fz with
          | zero => intro b h; exact absurd h (Nat.not_lt_zero _)
          | succ fz ih =>
            have ih46 := ih
            intro b hmeas hb
            have hfw := fwB_in (smF (costR im n.toNat) 50) (fun g => costR im n.toNat (10 * p.toNat + g)) e b
            have hfs := fwB_s (smF (costR im n.toNat) 50) (fun g => costR im n.toNat (10 * p.toNat + g)) e b
            have hpb := pop_in b
            have hpf := pop_in (fwB (smF (costR im n.toNat) 50) (fun g => costR im n.toNat (10 * p.toNat + g)) e b).toNat
            have hs10 := hsv b 10 (Nat.le_refl 10)
            refine q_iload (t := 48) F dX9_few_46 rfl rfl ?_
            refine q_sipush (t := 51) F dX9_few_48 (by decide) rfl ?_
            refine q_icmp_ge (t := 54) (u := 136) F dX9_few_51 (by first | exact hR _ _ _ | (constructor <;> omega)) (by first | exact hR _ _ _ | (constructor <;> omega)) (by decide) rfl (fun c51 => ?_) (fun c51 => ?_)
            · refine q_iload (t := 138) F dX9_few_136 rfl rfl ?_
              refine q_iret F dX9_few_138 rfl ?_
              first
                | exact ⟨_, rfl, fun _ => ⟨rfl, rfl⟩, fun z => absurd z (by omega)⟩
                | (obtain rfl : b = 1024 := by omega
                   exact ⟨_, rfl, fun z => absurd (by omega) z, fun _ => ⟨im2, lm2, rfl, hR2, hU, hlg2, rfl⟩⟩)
            · refine q_aload_n (t := 55) F dX9_few_54 rfl rfl rfl ?_
              refine g_X9_401 (t := 58) F dX9_few_55 rfl rfl ?_
              try simp only [up_app, row_app, scr_app, cpy_app, Nat.reduceEqDiff, Int.reduceToNat, Int.toNat_natCast, and_true, true_and, and_false, false_and, and_self, reduceIte]
              rw [e40]
              refine q_istore (t := 60) F dX9_few_58 (by decide) rfl rfl ?_
              refine q_iconst (t := 61) F dX9_few_60 rfl ?_
              refine q_istore (t := 63) F dX9_few_61 (by decide) rfl rfl ?_
              have L63 : ∀ (fz : Nat) (g : Nat), 10 - g < fz → g ≤ 10 → Wp M (XR G) ad Y_X9_few (pI fun x m' => (¬ ((0 ≤ p ∧ p < im 30 0 12) ∧ (0 ≤ n ∧ n ≤ 60) ∧ 0 ≤ e ∧ e ≤ 9999) → x = -2 ∧ m' = (im, rs bt rt, lm)) ∧ ((0 ≤ p ∧ p < im 30 0 12) ∧ (0 ≤ n ∧ n ≤ 60) ∧ 0 ≤ e ∧ e ≤ 9999 → ∃ im' lm', x = fwB (smF (costR im n.toNat) 50) (fun g => costR im n.toNat (10 * p.toNat + g)) e 1024 ∧ RI im' ∧ RU im n.toNat im' ∧ lgQ lm' lm ∧ m' = (im', rs bt rt, lm'))) 63 [some (vR 30 0), some (vI p), some (vI n), some (vI e), some (vI (fwB (smF (costR im n.toNat) 50) (fun g => costR im n.toNat (10 * p.toNat + g)) e b)), some (vI (b : Int)), some (vI (smF (costR im n.toNat) 50 - svF (fun g => costR im n.toNat (10 * p.toNat + g)) b g)), some (vI (g : Int))] [] (im2, rs bt rt, lm2) := by
                intro fz
                induction fz with
                | zero => intro g h; exact absurd h (Nat.not_lt_zero _)
                | succ fz ih =>
                  have ih63 := ih
                  intro g hmeas hg
                  have hsg := hsv b g hg
                  have hss : svF (fun g => costR im n.toNat (10 * p.toNat + g)) b (g + 1) = svF (fun g => costR im n.toNat (10 * p.toNat + g)) b g + (if b.testBit g = true then costR im n.toNat (10 * p.toNat + g) else 0) := rfl
                  refine q_iload (t := 65) F dX9_few_63 rfl rfl ?_
                  refine q_bipush (t := 67) F dX9_few_65 (by decide) rfl ?_
                  refine q_icmp_ge (t := 70) (u := 101) F dX9_few_67 (by first | exact hR _ _ _ | (constructor <;> omega)) (by first | exact hR _ _ _ | (constructor <;> omega)) (by decide) rfl (fun c67 => ?_) (fun c67 => ?_)
                  · obtain rfl : g = 10 := by omega
                    refine q_iload (t := 103) F dX9_few_101 rfl rfl ?_
                    refine q_iload_n (t := 104) F dX9_few_103 rfl rfl rfl ?_
                    refine q_icmp_gt (t := 107) (u := 130) F dX9_few_104 (by constructor <;> omega) (by constructor <;> omega) (by decide) rfl (fun c104 => ?_) (fun c104 => ?_)
                    · refine q_iinc (t := 133) F dX9_few_130 rfl (by decide) rfl rfl ?_
                      refine q_goto (t := 46) F dX9_few_133 (by decide) ?_
                      refine wp_less 7 ?_
                      refine wp_less 6 ?_
                      rw [show (b : Int) + 1 = ((b + 1 : Nat) : Int) by omega]
                      first
                        | (have e9 : fwB (smF (costR im n.toNat) 50) (fun g => costR im n.toNat (10 * p.toNat + g)) e (b + 1) = b := by rw [hfs, if_neg (by omega), if_pos (by omega)]
                           have h9 := ih46 (b + 1) (by omega) (by omega)
                           rw [e9] at h9
                           exact h9)
                        | (have e9 : fwB (smF (costR im n.toNat) 50) (fun g => costR im n.toNat (10 * p.toNat + g)) e (b + 1) = fwB (smF (costR im n.toNat) 50) (fun g => costR im n.toNat (10 * p.toNat + g)) e b := by first | rw [hfs, if_pos (by omega)] | rw [hfs, if_neg (by omega), if_neg (by omega)]
                           have h9 := ih46 (b + 1) (by omega) (by omega)
                           rw [e9] at h9
                           exact h9)
                    · refine q_iload (t := 109) F dX9_few_107 rfl rfl ?_
                      refine q_iconst (t := 110) F dX9_few_109 rfl ?_
                      refine q_icmp_eq (t := 113) (u := 126) F dX9_few_110 (by first | exact hR _ _ _ | (constructor <;> omega)) (by first | exact hR _ _ _ | (constructor <;> omega)) (by decide) rfl (fun c110 => ?_) (fun c110 => ?_)
                      · refine q_iload (t := 128) F dX9_few_126 rfl rfl ?_
                        refine q_istore (t := 130) F dX9_few_128 (by decide) rfl rfl ?_
                        refine q_iinc (t := 133) F dX9_few_130 rfl (by decide) rfl rfl ?_
                        refine q_goto (t := 46) F dX9_few_133 (by decide) ?_
                        refine wp_less 7 ?_
                        refine wp_less 6 ?_
                        rw [show (b : Int) + 1 = ((b + 1 : Nat) : Int) by omega]
                        first
                          | (have e9 : fwB (smF (costR im n.toNat) 50) (fun g => costR im n.toNat (10 * p.toNat + g)) e (b + 1) = b := by rw [hfs, if_neg (by omega), if_pos (by omega)]
                             have h9 := ih46 (b + 1) (by omega) (by omega)
                             rw [e9] at h9
                             exact h9)
                          | (have e9 : fwB (smF (costR im n.toNat) 50) (fun g => costR im n.toNat (10 * p.toNat + g)) e (b + 1) = fwB (smF (costR im n.toNat) 50) (fun g => costR im n.toNat (10 * p.toNat + g)) e b := by first | rw [hfs, if_pos (by omega)] | rw [hfs, if_neg (by omega), if_neg (by omega)]
                             have h9 := ih46 (b + 1) (by omega) (by omega)
                             rw [e9] at h9
                             exact h9)
                      · refine q_iload (t := 115) F dX9_few_113 rfl rfl ?_
                        refine wp_callS (t := 118) [_] F dX9_few_115 k_X9_bitsOf st_X9_bitsOf ml_X9_415 rfl rfl (Nat.le_of_ble_eq_true rfl) (by decide) (c_X9_bitsOf _ G im2 bt rt lm2 b (by omega)) rfl (kI ?_)
                        rintro x115 m' ⟨rfl, rfl⟩
                        refine q_iload (t := 120) F dX9_few_118 rfl rfl ?_
                        rw [show vI (fwB (smF (costR im n.toNat) 50) (fun g => costR im n.toNat (10 * p.toNat + g)) e b) = vI (((fwB (smF (costR im n.toNat) 50) (fun g => costR im n.toNat (10 * p.toNat + g)) e b).toNat : Nat) : Int) by rw [Int.toNat_of_nonneg (by omega)]]
                        refine wp_callS (t := 123) [_] F dX9_few_120 k_X9_bitsOf st_X9_bitsOf ml_X9_415 rfl rfl (Nat.le_of_ble_eq_true rfl) (by decide) (c_X9_bitsOf _ G im2 bt rt lm2 (fwB (smF (costR im n.toNat) 50) (fun g => costR im n.toNat (10 * p.toNat + g)) e b).toNat (by omega)) rfl (kI ?_)
                        rintro x120 m' ⟨rfl, rfl⟩
                        rw [show vI (((fwB (smF (costR im n.toNat) 50) (fun g => costR im n.toNat (10 * p.toNat + g)) e b).toNat : Nat) : Int) = vI (fwB (smF (costR im n.toNat) 50) (fun g => costR im n.toNat (10 * p.toNat + g)) e b) by rw [Int.toNat_of_nonneg (by omega)]]
                        refine q_icmp_ge (t := 126) (u := 130) F dX9_few_123 (by first | exact hR _ _ _ | (constructor <;> omega)) (by first | exact hR _ _ _ | (constructor <;> omega)) (by decide) rfl (fun c123 => ?_) (fun c123 => ?_)
                        · refine q_iinc (t := 133) F dX9_few_130 rfl (by decide) rfl rfl ?_
                          refine q_goto (t := 46) F dX9_few_133 (by decide) ?_
                          refine wp_less 7 ?_
                          refine wp_less 6 ?_
                          rw [show (b : Int) + 1 = ((b + 1 : Nat) : Int) by omega]
                          first
                            | (have e9 : fwB (smF (costR im n.toNat) 50) (fun g => costR im n.toNat (10 * p.toNat + g)) e (b + 1) = b := by rw [hfs, if_neg (by omega), if_pos (by omega)]
                               have h9 := ih46 (b + 1) (by omega) (by omega)
                               rw [e9] at h9
                               exact h9)
                            | (have e9 : fwB (smF (costR im n.toNat) 50) (fun g => costR im n.toNat (10 * p.toNat + g)) e (b + 1) = fwB (smF (costR im n.toNat) 50) (fun g => costR im n.toNat (10 * p.toNat + g)) e b := by first | rw [hfs, if_pos (by omega)] | rw [hfs, if_neg (by omega), if_neg (by omega)]
                               have h9 := ih46 (b + 1) (by omega) (by omega)
                               rw [e9] at h9
                               exact h9)
                        · refine q_iload (t := 128) F dX9_few_126 rfl rfl ?_
                          refine q_istore (t := 130) F dX9_few_128 (by decide) rfl rfl ?_
                          refine q_iinc (t := 133) F dX9_few_130 rfl (by decide) rfl rfl ?_
                          refine q_goto (t := 46) F dX9_few_133 (by decide) ?_
                          refine wp_less 7 ?_
                          refine wp_less 6 ?_
                          rw [show (b : Int) + 1 = ((b + 1 : Nat) : Int) by omega]
                          first
                            | (have e9 : fwB (smF (costR im n.toNat) 50) (fun g => costR im n.toNat (10 * p.toNat + g)) e (b + 1) = b := by rw [hfs, if_neg (by omega), if_pos (by omega)]
                               have h9 := ih46 (b + 1) (by omega) (by omega)
                               rw [e9] at h9
                               exact h9)
                            | (have e9 : fwB (smF (costR im n.toNat) 50) (fun g => costR im n.toNat (10 * p.toNat + g)) e (b + 1) = fwB (smF (costR im n.toNat) 50) (fun g => costR im n.toNat (10 * p.toNat + g)) e b := by first | rw [hfs, if_pos (by omega)] | rw [hfs, if_neg (by omega), if_neg (by omega)]
                               have h9 := ih46 (b + 1) (by omega) (by omega)
                               rw [e9] at h9
                               exact h9)
                  · refine q_iload (t := 72) F dX9_few_70 rfl rfl ?_
                    refine q_iload (t := 74) F dX9_few_72 rfl rfl ?_
                    refine q_iload (t := 76) F dX9_few_74 rfl rfl ?_
                    refine q_ishr (t := 77) F dX9_few_76 (by constructor <;> omega) (by omega) (by omega) (by omega) rfl ?_
                    refine q_iconst (t := 78) F dX9_few_77 rfl ?_
                    refine q_iand1 (t := 79) F dX9_few_78 rfl ?_
                    have hbz : 0 ≤ (b : Int) / 2 ^ (g : Int).toNat % 2 ∧ (b : Int) / 2 ^ (g : Int).toNat % 2 ≤ 1 := by omega
                    refine q_aload_n (t := 80) F dX9_few_79 rfl rfl rfl ?_
                    refine g_X9_41 (t := 83) F dX9_few_80 rfl rfl ?_
                    refine q_bipush (t := 85) F dX9_few_83 (by decide) rfl ?_
                    refine q_iload_n (t := 86) F dX9_few_85 rfl rfl rfl ?_
                    refine q_imul (t := 87) F dX9_few_86 rfl ?_
                    refine q_iload (t := 89) F dX9_few_87 rfl rfl ?_
                    refine q_iadd (t := 90) F dX9_few_89 rfl ?_
                    rw [show (10 : Int) * p + (g : Int) = ((10 * p.toNat + g : Nat) : Int) by omega]
                    first | refine ldN_39 (t := 91) F dX9_few_90 (by omega) rfl ?_ | refine ld_39 (t := 91) F dX9_few_90 (by omega) (by omega) rfl ?_
                    try simp only [up_app, row_app, scr_app, cpy_app, Nat.reduceEqDiff, Int.reduceToNat, Int.toNat_natCast, and_true, true_and, and_false, false_and, and_self, reduceIte]
                    rw [(hU.2.1 (10 * p.toNat + g) (by omega)).2]
                    refine q_imul (t := 92) F dX9_few_91 rfl ?_
                    first | rw [bit_cost b g] | rw [Int.toNat_natCast, bit_cost b g]
                    refine q_isub (t := 93) F dX9_few_92 rfl ?_
                    refine q_istore (t := 95) F dX9_few_93 (by decide) rfl rfl ?_
                    refine q_iinc (t := 98) F dX9_few_95 rfl (by decide) rfl rfl ?_
                    refine q_goto (t := 63) F dX9_few_98 (by decide) ?_
                    rw [show (g : Int) + 1 = ((g + 1 : Nat) : Int) by omega]
                    rw [show smF (costR im n.toNat) 50 - svF (fun g => costR im n.toNat (10 * p.toNat + g)) b g - (if b.testBit g = true then costR im n.toNat (10 * p.toNat + g) else 0) = smF (costR im n.toNat) 50 - svF (fun g => costR im n.toNat (10 * p.toNat + g)) b (g + 1) by rw [hss]; omega]
                    exact ih63 (g + 1) (by omega) (by omega)
              have L0 := L63 _ 0 (Nat.lt_succ_self _) (by omega)
              rw [show svF (fun g => costR im n.toNat (10 * p.toNat + g)) b 0 = 0 from rfl, Int.sub_zero] at L0
              exact L0
        exact L46 _ 0 (Nat.lt_succ_self _) (by omega)
      · refine q_bipush (t := 34) F dX9_few_32 (by decide) rfl ?_
        refine q_iret F dX9_few_34 rfl ?_
        first
          | exact ⟨_, rfl, fun _ => ⟨rfl, rfl⟩, fun z => absurd z (by omega)⟩
          | (obtain rfl : b = 1024 := by omega
             exact ⟨_, rfl, fun z => absurd (by omega) z, fun _ => ⟨im2, lm2, rfl, hR2, hU, hlg2, rfl⟩⟩)
end
section
/-! the reference: kissing, church -/

/-- all but what a call that only asks may leave another -/
def agS (a b : IM) : Prop := ∀ k s, ¬ (38 ≤ k ∧ k ≤ 43) → ¬ (k = 30 ∧ (15 ≤ s ∧ s ≤ 33 ∨ 38 ≤ s ∧ s ≤ 40)) → a k 0 s = b k 0 s
theorem agS_rfl (a : IM) : agS a a := fun _ _ _ _ => rfl
theorem agS.trans {a b c : IM} (h : agS a b) (h2 : agS b c) : agS a c := fun k s x y => (h k s x y).trans (h2 k s x y)
theorem agO.S {a b : IM} (h : agO a b) : agS a b := fun k s x y => h k s (by omega) y
theorem agS.C {a b : IM} (h : agS a b) : agC a b ∧ a 30 0 7 = b 30 0 7 := ⟨⟨fun k s _ _ => h k s (by omega) (by omega), h 30 3 (by omega) (by omega), h 30 4 (by omega) (by omega), h 30 6 (by omega) (by omega), h 30 8 (by omega) (by omega), h 30 12 (by omega) (by omega)⟩, h 30 7 (by omega) (by omega)⟩
theorem RC.S {a b : IM} (h : RC b) (hR : RI a) (ha : agS a b) : RC a := h.C hR ha.C.1 (by rw [ha.C.2]; exact h.2.2.2.2.1)
theorem hnR_C {a b : IM} (h : agC a b) (p q n : Nat) : agC (hnR a p q n) (hnR b p q n) := by
  obtain ⟨c, e3, e4, e6, e8, e12⟩ := h
  refine ⟨fun k s h1 h2 => ?_, e3, e4, e6, e8, e12⟩
  unfold hnR
  rw [c 36 _ (by omega) (by omega), c 36 _ (by omega) (by omega), c k s h1 h2]
theorem AG_hn {im : IM} (h : AG im 1000) (p q : Nat) : AG (hnR im p q 10) 1000 := by
  intro m hm hne
  have hm : (m : Int) < 10 * im 30 0 12 := hm
  have g := h m hm
  unfold hnR at hne ⊢
  (repeat' split at hne) <;> (repeat' split) <;> first | exact g hne | omega | (exfalso; omega)
def skR (im : IM) (n p q : Nat) : Int := smF (costR (hnR im p q 10) n) 50
def kxI (im : IM) (n p : Nat) (z : Int × Int) : Nat → Int × Int
  | 0 => z
  | b + 1 => if p ≠ b ∧ skR im n p b < (kxI im n p z b).2 then ((p : Int) * 10 + b, skR im n p b) else kxI im n p z b
def kxO (im : IM) (n sz : Nat) : Nat → Int × Int
  | 0 => (-1, smF (costR im n) 50)
  | p + 1 => kxI im n p (kxO im n sz p) sz
theorem kxI_s (im : IM) (n p : Nat) (z : Int × Int) (b : Nat) : kxI im n p z (b + 1) = if p ≠ b ∧ skR im n p b < (kxI im n p z b).2 then ((p : Int) * 10 + b, skR im n p b) else kxI im n p z b := rfl
theorem cost_in {im : IM} (h : RC im) (n : Nat) : (∀ q, 0 ≤ costR im n q ∧ costR im n q ≤ 700) ∧ (0 ≤ smF (costR im n) 50 ∧ smF (costR im n) 50 ≤ 35000) := by
  have hP := h.2.2.2.2.2.2
  have hc : ∀ q, 0 ≤ costR im n q ∧ costR im n q ≤ 700 := fun q => by
    unfold costR
    split
    · omega
    · rename_i z
      have hq2 : ((q / 10 : Nat) : Int) < im 30 0 12 := Decidable.byContradiction fun y => z (by unfold whenR; rw [if_neg y])
      exact beT_in (hP (q / 10) hq2).2.1 _
  have := smF_in (f := costR im n) (a := 0) (b := 700) (N := 50) (fun q _ => hc q) (by omega) (by omega)
  exact ⟨hc, by omega, by omega⟩
theorem skR_in {im : IM} (h : RC im) {n p q : Nat} (hp : (p : Int) < im 30 0 12) (hq : (q : Int) < im 30 0 12) : 0 ≤ skR im n p q ∧ skR im n p q ≤ 35000 := (cost_in (RC_hn h hp hq) n).2
theorem kxI_in {im : IM} (h : RC im) {n p : Nat} (hp : (p : Int) < im 30 0 12) {z : Int × Int} (hz : 0 ≤ z.2 ∧ z.2 ≤ 35000) (b : Nat) (hb : (b : Int) ≤ im 30 0 12) : 0 ≤ (kxI im n p z b).2 ∧ (kxI im n p z b).2 ≤ 35000 := by
  induction b with
  | zero => exact hz
  | succ b ih =>
    rw [kxI_s]
    split
    · exact skR_in h hp (by omega)
    · exact ih (by omega)
theorem kxO_in {im : IM} (h : RC im) {n sz : Nat} (hz : (sz : Int) ≤ im 30 0 12) (p : Nat) (hp : (p : Int) ≤ im 30 0 12) : 0 ≤ (kxO im n sz p).2 ∧ (kxO im n sz p).2 ≤ 35000 := by
  induction p with
  | zero => exact (cost_in h n).2
  | succ p ih => exact kxI_in h (by omega) (ih (by omega)) sz hz
theorem cp2_C (im : IM) {a b c d n : Nat} (ha : 37 < a) (hc : 37 < c) : agC (cp2 im a b c d n) im := by
  have e : ∀ k s, k ≤ 37 → cp2 im a b c d n k 0 s = im k 0 s := fun k s _ => by rw [cp2_app, if_neg (by omega), if_neg (by omega)]
  exact ⟨fun k s _ h => e k s h, e 30 3 (by omega), e 30 4 (by omega), e 30 6 (by omega), e 30 8 (by omega), e 30 12 (by omega)⟩

set_option maxHeartbeats 4000000 in
theorem c_X9_shameByKiss (l : Launch) (G : GS) (im : IM) (bt rt : Nat) (lm : IM) (h : RC im) (hA : AG im 1000) (h79 : im 30 0 7 ≤ 999) (p q n : Nat) (hp : (p : Int) < im 30 0 12) (hq : (q : Int) < im 30 0 12) (hpq : p ≠ q) (hn : n ≤ 60) : Cn l (XR G) yX9_shameByKiss Y_X9_shameByKiss [vR 30 0, vI (p : Int), vI (q : Int), vI (n : Int)] (im, rs bt rt, lm) (pI fun x m' => ∃ im' lm', x = skR im n p q ∧ RI im' ∧ agS im' im ∧ lgQ lm' lm ∧ m' = (im', rs bt rt, lm')) := by
  refine cn_of (by decide) (okR G) rfl (Nat.le_of_ble_eq_true rfl) ?_
  intro M ad hMl F
  subst hMl
  have hR := h.1
  have h12 := h.2.2.2.1
  have hC1 : agC (cp2 im 42 36 43 37 50) im := cp2_C im (by omega) (by omega)
  have hR1 := cp2_RI hR 42 36 43 37 50
  have hRC1 : RC (cp2 im 42 36 43 37 50) := h.C hR1 hC1 h.2.2.2.2.1
  have hA1 : AG (cp2 im 42 36 43 37 50) 1000 := hA.C hC1
  have hRC2 : RC (hnR (cp2 im 42 36 43 37 50) p q 10) := RC_hn hRC1 hp hq
  have hA2 : AG (hnR (cp2 im 42 36 43 37 50) p q 10) 1000 := AG_hn hA1 p q
  have hC2 := hnR_C hC1 p q 10
  have eW := when_C hC2 rfl
  refine wp_pad 1 ?_
  show Wp M (XR G) ad Y_X9_shameByKiss (pI fun x m' => ∃ im' lm', x = skR im n p q ∧ RI im' ∧ agS im' im ∧ lgQ lm' lm ∧ m' = (im', rs bt rt, lm')) 0 [some (vR 30 0), some (vI (p : Int)), some (vI (q : Int)), some (vI (n : Int)), none] [] (im, rs bt rt, lm)
  refine q_iconst (t := 1) F dX9_shameByKiss_0 rfl ?_
  refine q_istore (t := 3) F dX9_shameByKiss_1 (by decide) rfl rfl ?_
  have L3 : ∀ (fz : Nat) (m : Nat), 50 - m < fz → m ≤ 50 → Wp M (XR G) ad Y_X9_shameByKiss (pI fun x m' => ∃ im' lm', x = skR im n p q ∧ RI im' ∧ agS im' im ∧ lgQ lm' lm ∧ m' = (im', rs bt rt, lm')) 3 [some (vR 30 0), some (vI (p : Int)), some (vI (q : Int)), some (vI (n : Int)), some (vI (m : Int))] [] (cp2 im 42 36 43 37 m, rs bt rt, lm) := by
    intro fz
    induction fz with
    | zero => intro m h; exact absurd h (Nat.not_lt_zero _)
    | succ fz ih =>
      have ih3 := ih
      intro m hmeas hm
      have c36 : cp2 im 42 36 43 37 m 36 0 m = im 36 0 m := rfl
      have c37 : cp2 im 42 36 43 37 m 37 0 m = im 37 0 m := rfl
      refine q_iload (t := 5) F dX9_shameByKiss_3 rfl rfl ?_
      refine q_bipush (t := 7) F dX9_shameByKiss_5 (by decide) rfl ?_
      refine q_icmp_ge (t := 10) (u := 44) F dX9_shameByKiss_7 (by constructor <;> omega) (by constructor <;> omega) (by decide) rfl (fun c7 => ?_) (fun c7 => ?_)
      · obtain rfl : m = 50 := by omega
        refine q_aload_n (t := 45) F dX9_shameByKiss_44 rfl rfl rfl ?_
        refine q_iload_n (t := 46) F dX9_shameByKiss_45 rfl rfl rfl ?_
        refine q_iload_n (t := 47) F dX9_shameByKiss_46 rfl rfl rfl ?_
        refine wp_callV (t := 50) [_, _] F dX9_shameByKiss_47 k_X9_hands v_X9_hands ml_X9_367 rfl rfl rfl rfl (Nat.le_of_ble_eq_true rfl) (by decide) (m_30 (by omega)) (c_X9_hands _ G (cp2 im 42 36 43 37 50) bt rt lm hR1 p q (by omega) (by omega) hpq) rfl (kI ?_)
        rintro x47 m' ⟨hx47, rfl⟩
        refine q_popI (t := 51) F dX9_shameByKiss_50 rfl ?_
        refine q_aload_n (t := 52) F dX9_shameByKiss_51 rfl rfl rfl ?_
        refine q_iload_n (t := 53) F dX9_shameByKiss_52 rfl rfl rfl ?_
        refine wp_callV (t := 56) [_] F dX9_shameByKiss_53 k_X9_runs v_X9_runs ml_X9_410 rfl rfl rfl rfl (Nat.le_of_ble_eq_true rfl) (by decide) (m_30 (by omega)) (c_X9_runs _ G (hnR (cp2 im 42 36 43 37 50) p q 10) bt rt lm hRC2 hA2 h79 n hn) rfl (kV ?_)
        rintro m' ⟨im2, lm2, hR2, hU, hlg2, rfl⟩
        refine q_iconst (t := 57) F dX9_shameByKiss_56 rfl ?_
        refine q_istore (t := 59) F dX9_shameByKiss_57 (by decide) rfl rfl ?_
        have L59 : ∀ (fz : Nat) (m : Nat), 50 - m < fz → m ≤ 50 → Wp M (XR G) ad Y_X9_shameByKiss (pI fun x m' => ∃ im' lm', x = skR im n p q ∧ RI im' ∧ agS im' im ∧ lgQ lm' lm ∧ m' = (im', rs bt rt, lm')) 59 [some (vR 30 0), some (vI (p : Int)), some (vI (q : Int)), some (vI (n : Int)), some (vI (m : Int))] [] (cp2 im2 36 42 37 43 m, rs bt rt, lm2) := by
          intro fz
          induction fz with
          | zero => intro m h; exact absurd h (Nat.not_lt_zero _)
          | succ fz ih =>
            have ih59 := ih
            intro m hmeas hm
            have c42 : cp2 im2 36 42 37 43 m 42 0 m = im2 42 0 m := rfl
            have c43 : cp2 im2 36 42 37 43 m 43 0 m = im2 43 0 m := rfl
            have c40 : cp2 im2 36 42 37 43 m 30 0 40 = im2 30 0 40 := rfl
            refine q_iload (t := 61) F dX9_shameByKiss_59 rfl rfl ?_
            refine q_bipush (t := 63) F dX9_shameByKiss_61 (by decide) rfl ?_
            refine q_icmp_ge (t := 66) (u := 100) F dX9_shameByKiss_63 (by constructor <;> omega) (by constructor <;> omega) (by decide) rfl (fun c63 => ?_) (fun c63 => ?_)
            · refine q_aload_n (t := 101) F dX9_shameByKiss_100 rfl rfl rfl ?_
              refine g_X9_401 (t := 104) F dX9_shameByKiss_101 rfl rfl ?_
              try simp only [up_app, row_app, scr_app, cpy_app, Nat.reduceEqDiff, Int.reduceToNat, Int.toNat_natCast, and_true, true_and, and_false, false_and, and_self, reduceIte]
              rw [c40]
              refine q_iret F dX9_shameByKiss_104 rfl ?_
              obtain rfl : m = 50 := by omega
              refine ⟨_, rfl, _, lm2, ?_, cp2_RI hR2 36 42 37 43 50, fun k s a b => ?_, hlg2, rfl⟩
              · rw [hU.2.2.1, eW.2.1]
                rfl
              · have e42 : ∀ s, s < 50 → im2 42 0 s = im 36 0 s := fun s hs => by
                  rw [hU.1 42 s (by omega) (by omega)]
                  unfold hnR
                  rw [if_neg (by omega), if_neg (by omega), cp2_app, if_pos ⟨rfl, rfl, hs⟩]
                have e43 : ∀ s, s < 50 → im2 43 0 s = im 37 0 s := fun s hs => by
                  rw [hU.1 43 s (by omega) (by omega)]
                  unfold hnR
                  rw [if_neg (by omega), if_neg (by omega), cp2_app, if_neg (by omega), if_pos ⟨rfl, rfl, hs⟩]
                rw [cp2_app]
                split
                · rename_i z
                  rw [e42 s z.2.2, z.1]
                · split
                  · rename_i z
                    rw [e43 s z.2.2, z.1]
                  · rw [hU.1 k s (by omega) (by omega)]
                    unfold hnR
                    rw [if_neg (by omega), if_neg (by omega), cp2_app, if_neg (by omega), if_neg (by omega)]
            · refine q_aload_n (t := 67) F dX9_shameByKiss_66 rfl rfl rfl ?_
              refine g_X9_32 (t := 70) F dX9_shameByKiss_67 rfl rfl ?_
              refine q_iload (t := 72) F dX9_shameByKiss_70 rfl rfl ?_
              refine q_aload_n (t := 73) F dX9_shameByKiss_72 rfl rfl rfl ?_
              refine g_X9_50 (t := 76) F dX9_shameByKiss_73 rfl rfl ?_
              refine q_iload (t := 78) F dX9_shameByKiss_76 rfl rfl ?_
              first | refine ldN_42 (t := 79) F dX9_shameByKiss_78 (by omega) rfl ?_ | refine ld_42 (t := 79) F dX9_shameByKiss_78 (by omega) (by omega) rfl ?_
              try simp only [up_app, row_app, scr_app, cpy_app, Nat.reduceEqDiff, Int.reduceToNat, Int.toNat_natCast, and_true, true_and, and_false, false_and, and_self, reduceIte]
              rw [c42]
              first | refine stN_36 (t := 80) F dX9_shameByKiss_79 (by omega) rfl ?_ | refine st_36 (t := 80) F dX9_shameByKiss_79 (by omega) (by omega) rfl ?_
              refine q_aload_n (t := 81) F dX9_shameByKiss_80 rfl rfl rfl ?_
              refine g_X9_35 (t := 84) F dX9_shameByKiss_81 rfl rfl ?_
              refine q_iload (t := 86) F dX9_shameByKiss_84 rfl rfl ?_
              refine q_aload_n (t := 87) F dX9_shameByKiss_86 rfl rfl rfl ?_
              refine g_X9_53 (t := 90) F dX9_shameByKiss_87 rfl rfl ?_
              refine q_iload (t := 92) F dX9_shameByKiss_90 rfl rfl ?_
              first | refine ldN_43 (t := 93) F dX9_shameByKiss_92 (by omega) rfl ?_ | refine ld_43 (t := 93) F dX9_shameByKiss_92 (by omega) (by omega) rfl ?_
              try simp only [up_app, row_app, scr_app, cpy_app, Nat.reduceEqDiff, Int.reduceToNat, Int.toNat_natCast, and_true, true_and, and_false, false_and, and_self, reduceIte]
              rw [c43]
              first | refine stN_37 (t := 94) F dX9_shameByKiss_93 (by omega) rfl ?_ | refine st_37 (t := 94) F dX9_shameByKiss_93 (by omega) (by omega) rfl ?_
              refine q_iinc (t := 97) F dX9_shameByKiss_94 rfl (by decide) rfl rfl ?_
              refine q_goto (t := 59) F dX9_shameByKiss_97 (by decide) ?_
              rw [show (m : Int) + 1 = ((m + 1 : Nat) : Int) by omega, cp2_s im2 m (by omega)]
              exact ih59 (m + 1) (by omega) (by omega)
        have L0 := L59 _ 0 (Nat.lt_succ_self _) (Nat.zero_le _)
        rw [cp2_0] at L0
        exact L0
      · refine q_aload_n (t := 11) F dX9_shameByKiss_10 rfl rfl rfl ?_
        refine g_X9_50 (t := 14) F dX9_shameByKiss_11 rfl rfl ?_
        refine q_iload (t := 16) F dX9_shameByKiss_14 rfl rfl ?_
        refine q_aload_n (t := 17) F dX9_shameByKiss_16 rfl rfl rfl ?_
        refine g_X9_32 (t := 20) F dX9_shameByKiss_17 rfl rfl ?_
        refine q_iload (t := 22) F dX9_shameByKiss_20 rfl rfl ?_
        first | refine ldN_36 (t := 23) F dX9_shameByKiss_22 (by omega) rfl ?_ | refine ld_36 (t := 23) F dX9_shameByKiss_22 (by omega) (by omega) rfl ?_
        rw [c36]
        first | refine stN_42 (t := 24) F dX9_shameByKiss_23 (by omega) rfl ?_ | refine st_42 (t := 24) F dX9_shameByKiss_23 (by omega) (by omega) rfl ?_
        refine q_aload_n (t := 25) F dX9_shameByKiss_24 rfl rfl rfl ?_
        refine g_X9_53 (t := 28) F dX9_shameByKiss_25 rfl rfl ?_
        refine q_iload (t := 30) F dX9_shameByKiss_28 rfl rfl ?_
        refine q_aload_n (t := 31) F dX9_shameByKiss_30 rfl rfl rfl ?_
        refine g_X9_35 (t := 34) F dX9_shameByKiss_31 rfl rfl ?_
        refine q_iload (t := 36) F dX9_shameByKiss_34 rfl rfl ?_
        first | refine ldN_37 (t := 37) F dX9_shameByKiss_36 (by omega) rfl ?_ | refine ld_37 (t := 37) F dX9_shameByKiss_36 (by omega) (by omega) rfl ?_
        try simp only [up_app, row_app, scr_app, cpy_app, Nat.reduceEqDiff, Int.reduceToNat, Int.toNat_natCast, and_true, true_and, and_false, false_and, and_self, reduceIte]
        rw [c37]
        first | refine stN_43 (t := 38) F dX9_shameByKiss_37 (by omega) rfl ?_ | refine st_43 (t := 38) F dX9_shameByKiss_37 (by omega) (by omega) rfl ?_
        refine q_iinc (t := 41) F dX9_shameByKiss_38 rfl (by decide) rfl rfl ?_
        refine q_goto (t := 3) F dX9_shameByKiss_41 (by decide) ?_
        rw [show (m : Int) + 1 = ((m + 1 : Nat) : Int) by omega, cp2_s im m (by omega)]
        exact ih3 (m + 1) (by omega) (by omega)
  have L0 := L3 _ 0 (Nat.lt_succ_self _) (Nat.zero_le _)
  rw [cp2_0] at L0
  exact L0

set_option maxHeartbeats 4000000 in
theorem c_X9_kissing (l : Launch) (G : GS) (im : IM) (bt rt : Nat) (lm : IM) (h : RC im) (hA : AG im 1000) (h79 : im 30 0 7 ≤ 999) (n what : Int) (hn : ri n) (hwhat : ri what) : Cn l (XR G) yX9_kissing Y_X9_kissing [vR 30 0, vI n, vI what] (im, rs bt rt, lm) (pI fun x m' => ∃ im' lm', x = (if (0 ≤ n ∧ n ≤ 60) ∧ 0 ≤ what ∧ what ≤ 1 then (if what = 0 then (kxO im n.toNat (im 30 0 12).toNat (im 30 0 12).toNat).1 else (kxO im n.toNat (im 30 0 12).toNat (im 30 0 12).toNat).2) else -2) ∧ RI im' ∧ agS im' im ∧ lgQ lm' lm ∧ m' = (im', rs bt rt, lm')) := by
  refine cn_of (by decide) (okR G) rfl (Nat.le_of_ble_eq_true rfl) ?_
  intro M ad hMl F
  subst hMl
  have hR := h.1
  have hX := h.2.1
  have h4 := h.2.2.1
  have h12 := h.2.2.2.1
  have h7 := h.2.2.2.2.1
  have h6 := hX.2.2.1
  have h3 := hX.2.2.2.1
  have hP := h.2.2.2.2.2.2
  have hR := h.1
  have n1 := hn.1
  have n2 := hn.2
  have what1 := hwhat.1
  have what2 := hwhat.2
  refine wp_pad 5 ?_
  show Wp M (XR G) ad Y_X9_kissing (pI fun x m' => ∃ im' lm', x = (if (0 ≤ n ∧ n ≤ 60) ∧ 0 ≤ what ∧ what ≤ 1 then (if what = 0 then (kxO im n.toNat (im 30 0 12).toNat (im 30 0 12).toNat).1 else (kxO im n.toNat (im 30 0 12).toNat (im 30 0 12).toNat).2) else -2) ∧ RI im' ∧ agS im' im ∧ lgQ lm' lm ∧ m' = (im', rs bt rt, lm')) 0 [some (vR 30 0), some (vI n), some (vI what), none, none, none, none, none] [] (im, rs bt rt, lm)
  refine q_iload_n (t := 1) F dX9_kissing_0 rfl rfl rfl ?_
  refine q_i2l (t := 2) F dX9_kissing_1 (by first | exact hR _ _ _ | (constructor <;> omega)) rfl ?_
  refine q_lconst (t := 3) (x := 0) F dX9_kissing_2 (by decide) rfl ?_
  refine q_ldc2 (t := 6) (x := 60) F dX9_kissing_3 kl_X9_242 (by decide) rfl ?_
  refine wp_callS (t := 9) [_, _, _] F dX9_kissing_6 k_X9_in st_X9_in ml_X9_91 rfl rfl (Nat.le_of_ble_eq_true rfl) (by decide) (c_X9_in _ G _ _ _ _ _ _ _ (by constructor <;> omega) (by constructor <;> omega) (by constructor <;> omega)) rfl (kI ?_)
  rintro x6 m' ⟨hx6, rfl⟩
  have hx6 := if01 hx6
  refine q_if_eq (t := 12) (u := 22) F dX9_kissing_9 (by first | exact hR _ _ _ | (constructor <;> omega)) (by decide) rfl (fun c9 => ?_) (fun c9 => ?_)
  · refine q_bipush (t := 24) F dX9_kissing_22 (by decide) rfl ?_
    refine q_iret F dX9_kissing_24 rfl ?_
    first
      | (refine ⟨_, rfl, im, lm, ?_, hR, agS_rfl im, lgQ_rfl lm, rfl⟩
         rw [if_neg (by omega)])
      | (obtain rfl : p = (im 30 0 12).toNat := by omega
         refine ⟨_, rfl, S, lg, ?_, hRS, hag, hlg, rfl⟩
         rw [if_pos (by omega)]
         first
           | rw [if_pos (by omega)]
           | rw [if_neg (by omega)])
  · refine q_iload_n (t := 13) F dX9_kissing_12 rfl rfl rfl ?_
    refine q_i2l (t := 14) F dX9_kissing_13 (by first | exact hR _ _ _ | (constructor <;> omega)) rfl ?_
    refine q_lconst (t := 15) (x := 0) F dX9_kissing_14 (by decide) rfl ?_
    refine q_lconst (t := 16) (x := 1) F dX9_kissing_15 (by decide) rfl ?_
    refine wp_callS (t := 19) [_, _, _] F dX9_kissing_16 k_X9_in st_X9_in ml_X9_91 rfl rfl (Nat.le_of_ble_eq_true rfl) (by decide) (c_X9_in _ G _ _ _ _ _ _ _ (by constructor <;> omega) (by constructor <;> omega) (by constructor <;> omega)) rfl (kI ?_)
    rintro x16 m' ⟨hx16, rfl⟩
    have hx16 := if01 hx16
    refine q_if_ne (t := 22) (u := 25) F dX9_kissing_19 (by first | exact hR _ _ _ | (constructor <;> omega)) (by decide) rfl (fun c19 => ?_) (fun c19 => ?_)
    · refine q_aload_n (t := 26) F dX9_kissing_25 rfl rfl rfl ?_
      refine q_iload_n (t := 27) F dX9_kissing_26 rfl rfl rfl ?_
      rw [show vI n = vI ((n.toNat : Nat) : Int) by rw [Int.toNat_of_nonneg (by omega)]]
      refine wp_callV (t := 30) [_] F dX9_kissing_27 k_X9_runs v_X9_runs ml_X9_410 rfl rfl rfl rfl (Nat.le_of_ble_eq_true rfl) (by decide) (m_30 (by omega)) (c_X9_runs _ G im bt rt lm h hA h79 n.toNat (by omega)) rfl (kV ?_)
      rintro m' ⟨im2, lm2, hR2, hU, hlg2, rfl⟩
      rw [show vI ((n.toNat : Nat) : Int) = vI n by rw [Int.toNat_of_nonneg (by omega)]]
      have hag2 := hU.1.S
      have e40 := hU.2.2.1
      have e12b : im2 30 0 12 = im 30 0 12 := hU.e
      refine q_aload_n (t := 31) F dX9_kissing_30 rfl rfl rfl ?_
      refine g_X9_401 (t := 34) F dX9_kissing_31 rfl rfl ?_
      try simp only [up_app, row_app, scr_app, cpy_app, Nat.reduceEqDiff, Int.reduceToNat, Int.toNat_natCast, and_true, true_and, and_false, false_and, and_self, reduceIte]
      rw [e40]
      refine q_istore_n (t := 35) F dX9_kissing_34 rfl (by decide) rfl rfl ?_
      refine q_iconst (t := 36) F dX9_kissing_35 rfl ?_
      refine q_istore (t := 38) F dX9_kissing_36 (by decide) rfl rfl ?_
      refine q_iconst (t := 39) F dX9_kissing_38 rfl ?_
      refine q_istore (t := 41) F dX9_kissing_39 (by decide) rfl rfl ?_
      have L41 : ∀ (fz : Nat) (p : Nat) (S lg : IM), 6 - p < fz → ((p : Int) ≤ im 30 0 12 ∧ RI S ∧ agS S im ∧ lgQ lg lm) → Wp M (XR G) ad Y_X9_kissing (pI fun x m' => ∃ im' lm', x = (if (0 ≤ n ∧ n ≤ 60) ∧ 0 ≤ what ∧ what ≤ 1 then (if what = 0 then (kxO im n.toNat (im 30 0 12).toNat (im 30 0 12).toNat).1 else (kxO im n.toNat (im 30 0 12).toNat (im 30 0 12).toNat).2) else -2) ∧ RI im' ∧ agS im' im ∧ lgQ lm' lm ∧ m' = (im', rs bt rt, lm')) 41 [some (vR 30 0), some (vI n), some (vI what), some (vI (kxO im n.toNat (im 30 0 12).toNat p).2), some (vI (kxO im n.toNat (im 30 0 12).toNat p).1), some (vI (p : Int)), none, none] [] (S, rs bt rt, lg) := by
        intro fz
        induction fz with
        | zero => intro p S lg h; exact absurd h (Nat.not_lt_zero _)
        | succ fz ih =>
          have ih41 := ih
          intro p S lg hmeas ⟨hp, hRS, hag, hlg⟩
          have e12 : S 30 0 12 = im 30 0 12 := hag.C.1.2.2.2.2.2
          have hko := kxO_in h (n := n.toNat) (sz := (im 30 0 12).toNat) (by omega) p hp
          refine q_iload (t := 43) F dX9_kissing_41 rfl rfl ?_
          refine q_aload_n (t := 44) F dX9_kissing_43 rfl rfl rfl ?_
          refine g_X9_88 (t := 47) F dX9_kissing_44 rfl rfl ?_
          try simp only [up_app, row_app, scr_app, cpy_app, Nat.reduceEqDiff, Int.reduceToNat, Int.toNat_natCast, and_true, true_and, and_false, false_and, and_self, reduceIte]
          rw [e12]
          refine q_icmp_ge (t := 50) (u := 115) F dX9_kissing_47 (by constructor <;> omega) (by constructor <;> omega) (by decide) rfl (fun c47 => ?_) (fun c47 => ?_)
          · refine q_iload_n (t := 116) F dX9_kissing_115 rfl rfl rfl ?_
            refine q_if_ne (t := 119) (u := 124) F dX9_kissing_116 (by first | exact hR _ _ _ | (constructor <;> omega)) (by decide) rfl (fun c116 => ?_) (fun c116 => ?_)
            · refine q_iload_n (t := 125) F dX9_kissing_124 rfl rfl rfl ?_
              refine q_iret F dX9_kissing_125 rfl ?_
              first
                | (refine ⟨_, rfl, im, lm, ?_, hR, agS_rfl im, lgQ_rfl lm, rfl⟩
                   rw [if_neg (by omega)])
                | (obtain rfl : p = (im 30 0 12).toNat := by omega
                   refine ⟨_, rfl, S, lg, ?_, hRS, hag, hlg, rfl⟩
                   rw [if_pos (by omega)]
                   first
                     | rw [if_pos (by omega)]
                     | rw [if_neg (by omega)])
            · refine q_iload (t := 121) F dX9_kissing_119 rfl rfl ?_
              refine q_goto (t := 125) F dX9_kissing_121 (by decide) ?_
              refine q_iret F dX9_kissing_125 rfl ?_
              first
                | (refine ⟨_, rfl, im, lm, ?_, hR, agS_rfl im, lgQ_rfl lm, rfl⟩
                   rw [if_neg (by omega)])
                | (obtain rfl : p = (im 30 0 12).toNat := by omega
                   refine ⟨_, rfl, S, lg, ?_, hRS, hag, hlg, rfl⟩
                   rw [if_pos (by omega)]
                   first
                     | rw [if_pos (by omega)]
                     | rw [if_neg (by omega)])
          · refine q_iconst (t := 51) F dX9_kissing_50 rfl ?_
            refine q_istore (t := 53) F dX9_kissing_51 (by decide) rfl rfl ?_
            have L53 : ∀ (fz : Nat) (b : Nat) (S lg : IM), 6 - b < fz → ((b : Int) ≤ im 30 0 12 ∧ RI S ∧ agS S im ∧ lgQ lg lm) → Wp M (XR G) ad Y_X9_kissing (pI fun x m' => ∃ im' lm', x = (if (0 ≤ n ∧ n ≤ 60) ∧ 0 ≤ what ∧ what ≤ 1 then (if what = 0 then (kxO im n.toNat (im 30 0 12).toNat (im 30 0 12).toNat).1 else (kxO im n.toNat (im 30 0 12).toNat (im 30 0 12).toNat).2) else -2) ∧ RI im' ∧ agS im' im ∧ lgQ lm' lm ∧ m' = (im', rs bt rt, lm')) 53 [some (vR 30 0), some (vI n), some (vI what), some (vI (kxI im n.toNat p (kxO im n.toNat (im 30 0 12).toNat p) b).2), some (vI (kxI im n.toNat p (kxO im n.toNat (im 30 0 12).toNat p) b).1), some (vI (p : Int)), some (vI (b : Int)), none] [] (S, rs bt rt, lg) := by
              intro fz
              induction fz with
              | zero => intro b S lg h; exact absurd h (Nat.not_lt_zero _)
              | succ fz ih =>
                have ih53 := ih
                intro b S lg hmeas ⟨hb, hRS, hag, hlg⟩
                have e12 : S 30 0 12 = im 30 0 12 := hag.C.1.2.2.2.2.2
                have hki := kxI_in h (n := n.toNat) (p := p) (by omega) hko b hb
                have hks := kxI_s im n.toNat p (kxO im n.toNat (im 30 0 12).toNat p) b
                refine q_iload (t := 55) F dX9_kissing_53 rfl rfl ?_
                refine q_aload_n (t := 56) F dX9_kissing_55 rfl rfl rfl ?_
                refine g_X9_88 (t := 59) F dX9_kissing_56 rfl rfl ?_
                try simp only [up_app, row_app, scr_app, cpy_app, Nat.reduceEqDiff, Int.reduceToNat, Int.toNat_natCast, and_true, true_and, and_false, false_and, and_self, reduceIte]
                rw [e12]
                refine q_icmp_ge (t := 62) (u := 109) F dX9_kissing_59 (by constructor <;> omega) (by constructor <;> omega) (by decide) rfl (fun c59 => ?_) (fun c59 => ?_)
                · refine q_iinc (t := 112) F dX9_kissing_109 rfl (by decide) rfl rfl ?_
                  refine q_goto (t := 41) F dX9_kissing_112 (by decide) ?_
                  refine wp_less 7 ?_
                  refine wp_less 6 ?_
                  obtain rfl : b = (im 30 0 12).toNat := by omega
                  rw [show (p : Int) + 1 = ((p + 1 : Nat) : Int) by omega]
                  exact ih41 (p + 1) S lg (by omega) ⟨by omega, hRS, hag, hlg⟩
                · refine q_iload (t := 64) F dX9_kissing_62 rfl rfl ?_
                  refine q_iload (t := 66) F dX9_kissing_64 rfl rfl ?_
                  refine q_icmp_ne (t := 69) (u := 73) F dX9_kissing_66 (by constructor <;> omega) (by constructor <;> omega) (by decide) rfl (fun c66 => ?_) (fun c66 => ?_)
                  · refine q_aload_n (t := 74) F dX9_kissing_73 rfl rfl rfl ?_
                    refine q_iload (t := 76) F dX9_kissing_74 rfl rfl ?_
                    refine q_iload (t := 78) F dX9_kissing_76 rfl rfl ?_
                    refine q_iload_n (t := 79) F dX9_kissing_78 rfl rfl rfl ?_
                    rw [show vI n = vI ((n.toNat : Nat) : Int) by rw [Int.toNat_of_nonneg (by omega)]]
                    refine wp_callV (t := 82) [_, _, _] F dX9_kissing_79 k_X9_shameByKiss v_X9_shameByKiss ml_X9_418 rfl rfl rfl rfl (Nat.le_of_ble_eq_true rfl) (by decide) (m_30 (by omega)) (c_X9_shameByKiss _ G S bt rt lg (h.S hRS hag) (hA.C hag.C.1) (by rw [hag.C.2]; exact h79) p b n.toNat (by rw [e12]; omega) (by rw [e12]; omega) (by omega) (by omega)) rfl (kI ?_)
                    rintro x79 m' ⟨im3, lm3, hx79, hR3, hag3, hlg3, rfl⟩
                    rw [show vI ((n.toNat : Nat) : Int) = vI n by rw [Int.toNat_of_nonneg (by omega)]]
                    rw [show skR S n.toNat p b = skR im n.toNat p b from by unfold skR; rw [(when_C (hnR_C hag.C.1 p b 10) hag.C.2).2.1]] at hx79
                    have hk3 := skR_in h (n := n.toNat) (p := p) (q := b) (by omega) (by omega)
                    have hag3 := hag3.trans hag
                    have hlg3 := hlg3.trans hlg
                    refine q_istore (t := 84) F dX9_kissing_82 (by decide) rfl rfl ?_
                    refine q_iload (t := 86) F dX9_kissing_84 rfl rfl ?_
                    refine q_iload_n (t := 87) F dX9_kissing_86 rfl rfl rfl ?_
                    refine q_icmp_ge (t := 90) (u := 103) F dX9_kissing_87 (by constructor <;> omega) (by constructor <;> omega) (by decide) rfl (fun c87 => ?_) (fun c87 => ?_)
                    · refine q_iinc (t := 106) F dX9_kissing_103 rfl (by decide) rfl rfl ?_
                      refine q_goto (t := 53) F dX9_kissing_106 (by decide) ?_
                      refine wp_less 7 ?_
                      rw [show (b : Int) + 1 = ((b + 1 : Nat) : Int) by omega]
                      first
                        | (exfalso; omega)
                        | (have e9 : kxI im n.toNat p (kxO im n.toNat (im 30 0 12).toNat p) (b + 1) = ((p : Int) * 10 + b, skR im n.toNat p b) := by rw [hks, if_pos ⟨by omega, by omega⟩]
                           have h9 := ih53 (b + 1) im3 lm3 (by omega) ⟨by omega, hR3, hag3, hlg3⟩
                           rw [e9] at h9
                           rw [hx79, Int.mul_comm 10 (p : Int)]
                           exact h9)
                        | (have e9 : kxI im n.toNat p (kxO im n.toNat (im 30 0 12).toNat p) (b + 1) = kxI im n.toNat p (kxO im n.toNat (im 30 0 12).toNat p) b := by rw [hks, if_neg (by omega)]
                           have h9 := ih53 (b + 1) im3 lm3 (by omega) ⟨by omega, hR3, hag3, hlg3⟩
                           rw [e9] at h9
                           exact h9)
                        | (have e9 : kxI im n.toNat p (kxO im n.toNat (im 30 0 12).toNat p) (b + 1) = kxI im n.toNat p (kxO im n.toNat (im 30 0 12).toNat p) b := by rw [hks, if_neg (by omega)]
                           have h9 := ih53 (b + 1) S lg (by omega) ⟨by omega, hRS, hag, hlg⟩
                           rw [e9] at h9
                           exact h9)
                    · refine q_bipush (t := 92) F dX9_kissing_90 (by decide) rfl ?_
                      refine q_iload (t := 94) F dX9_kissing_92 rfl rfl ?_
                      refine q_imul (t := 95) F dX9_kissing_94 rfl ?_
                      refine q_iload (t := 97) F dX9_kissing_95 rfl rfl ?_
                      refine q_iadd (t := 98) F dX9_kissing_97 rfl ?_
                      refine q_istore (t := 100) F dX9_kissing_98 (by decide) rfl rfl ?_
                      refine q_iload (t := 102) F dX9_kissing_100 rfl rfl ?_
                      refine q_istore_n (t := 103) F dX9_kissing_102 rfl (by decide) rfl rfl ?_
                      refine q_iinc (t := 106) F dX9_kissing_103 rfl (by decide) rfl rfl ?_
                      refine q_goto (t := 53) F dX9_kissing_106 (by decide) ?_
                      refine wp_less 7 ?_
                      rw [show (b : Int) + 1 = ((b + 1 : Nat) : Int) by omega]
                      first
                        | (exfalso; omega)
                        | (have e9 : kxI im n.toNat p (kxO im n.toNat (im 30 0 12).toNat p) (b + 1) = ((p : Int) * 10 + b, skR im n.toNat p b) := by rw [hks, if_pos ⟨by omega, by omega⟩]
                           have h9 := ih53 (b + 1) im3 lm3 (by omega) ⟨by omega, hR3, hag3, hlg3⟩
                           rw [e9] at h9
                           rw [hx79, Int.mul_comm 10 (p : Int)]
                           exact h9)
                        | (have e9 : kxI im n.toNat p (kxO im n.toNat (im 30 0 12).toNat p) (b + 1) = kxI im n.toNat p (kxO im n.toNat (im 30 0 12).toNat p) b := by rw [hks, if_neg (by omega)]
                           have h9 := ih53 (b + 1) im3 lm3 (by omega) ⟨by omega, hR3, hag3, hlg3⟩
                           rw [e9] at h9
                           exact h9)
                        | (have e9 : kxI im n.toNat p (kxO im n.toNat (im 30 0 12).toNat p) (b + 1) = kxI im n.toNat p (kxO im n.toNat (im 30 0 12).toNat p) b := by rw [hks, if_neg (by omega)]
                           have h9 := ih53 (b + 1) S lg (by omega) ⟨by omega, hRS, hag, hlg⟩
                           rw [e9] at h9
                           exact h9)
                  · refine q_iload_n (t := 70) F dX9_kissing_69 rfl rfl rfl ?_
                    refine q_goto (t := 82) F dX9_kissing_70 (by decide) ?_
                    refine q_istore (t := 84) F dX9_kissing_82 (by decide) rfl rfl ?_
                    refine q_iload (t := 86) F dX9_kissing_84 rfl rfl ?_
                    refine q_iload_n (t := 87) F dX9_kissing_86 rfl rfl rfl ?_
                    refine q_icmp_ge (t := 90) (u := 103) F dX9_kissing_87 (by constructor <;> omega) (by constructor <;> omega) (by decide) rfl (fun c87 => ?_) (fun c87 => ?_)
                    · refine q_iinc (t := 106) F dX9_kissing_103 rfl (by decide) rfl rfl ?_
                      refine q_goto (t := 53) F dX9_kissing_106 (by decide) ?_
                      refine wp_less 7 ?_
                      rw [show (b : Int) + 1 = ((b + 1 : Nat) : Int) by omega]
                      first
                        | (exfalso; omega)
                        | (have e9 : kxI im n.toNat p (kxO im n.toNat (im 30 0 12).toNat p) (b + 1) = ((p : Int) * 10 + b, skR im n.toNat p b) := by rw [hks, if_pos ⟨by omega, by omega⟩]
                           have h9 := ih53 (b + 1) im3 lm3 (by omega) ⟨by omega, hR3, hag3, hlg3⟩
                           rw [e9] at h9
                           rw [hx79, Int.mul_comm 10 (p : Int)]
                           exact h9)
                        | (have e9 : kxI im n.toNat p (kxO im n.toNat (im 30 0 12).toNat p) (b + 1) = kxI im n.toNat p (kxO im n.toNat (im 30 0 12).toNat p) b := by rw [hks, if_neg (by omega)]
                           have h9 := ih53 (b + 1) im3 lm3 (by omega) ⟨by omega, hR3, hag3, hlg3⟩
                           rw [e9] at h9
                           exact h9)
                        | (have e9 : kxI im n.toNat p (kxO im n.toNat (im 30 0 12).toNat p) (b + 1) = kxI im n.toNat p (kxO im n.toNat (im 30 0 12).toNat p) b := by rw [hks, if_neg (by omega)]
                           have h9 := ih53 (b + 1) S lg (by omega) ⟨by omega, hRS, hag, hlg⟩
                           rw [e9] at h9
                           exact h9)
                    · refine q_bipush (t := 92) F dX9_kissing_90 (by decide) rfl ?_
                      refine q_iload (t := 94) F dX9_kissing_92 rfl rfl ?_
                      refine q_imul (t := 95) F dX9_kissing_94 rfl ?_
                      refine q_iload (t := 97) F dX9_kissing_95 rfl rfl ?_
                      refine q_iadd (t := 98) F dX9_kissing_97 rfl ?_
                      refine q_istore (t := 100) F dX9_kissing_98 (by decide) rfl rfl ?_
                      refine q_iload (t := 102) F dX9_kissing_100 rfl rfl ?_
                      refine q_istore_n (t := 103) F dX9_kissing_102 rfl (by decide) rfl rfl ?_
                      refine q_iinc (t := 106) F dX9_kissing_103 rfl (by decide) rfl rfl ?_
                      refine q_goto (t := 53) F dX9_kissing_106 (by decide) ?_
                      refine wp_less 7 ?_
                      rw [show (b : Int) + 1 = ((b + 1 : Nat) : Int) by omega]
                      first
                        | (exfalso; omega)
                        | (have e9 : kxI im n.toNat p (kxO im n.toNat (im 30 0 12).toNat p) (b + 1) = ((p : Int) * 10 + b, skR im n.toNat p b) := by rw [hks, if_pos ⟨by omega, by omega⟩]
                           have h9 := ih53 (b + 1) im3 lm3 (by omega) ⟨by omega, hR3, hag3, hlg3⟩
                           rw [e9] at h9
                           rw [hx79, Int.mul_comm 10 (p : Int)]
                           exact h9)
                        | (have e9 : kxI im n.toNat p (kxO im n.toNat (im 30 0 12).toNat p) (b + 1) = kxI im n.toNat p (kxO im n.toNat (im 30 0 12).toNat p) b := by rw [hks, if_neg (by omega)]
                           have h9 := ih53 (b + 1) im3 lm3 (by omega) ⟨by omega, hR3, hag3, hlg3⟩
                           rw [e9] at h9
                           exact h9)
                        | (have e9 : kxI im n.toNat p (kxO im n.toNat (im 30 0 12).toNat p) (b + 1) = kxI im n.toNat p (kxO im n.toNat (im 30 0 12).toNat p) b := by rw [hks, if_neg (by omega)]
                           have h9 := ih53 (b + 1) S lg (by omega) ⟨by omega, hRS, hag, hlg⟩
                           rw [e9] at h9
                           exact h9)
            exact L53 _ 0 S lg (Nat.lt_succ_self _) ⟨by omega, hRS, hag, hlg⟩
      exact L41 _ 0 im2 lm2 (Nat.lt_succ_self _) ⟨by omega, hR2, hag2, hlg2⟩
    · refine q_bipush (t := 24) F dX9_kissing_22 (by decide) rfl ?_
      refine q_iret F dX9_kissing_24 rfl ?_
      first
        | (refine ⟨_, rfl, im, lm, ?_, hR, agS_rfl im, lgQ_rfl lm, rfl⟩
           rw [if_neg (by omega)])
        | (obtain rfl : p = (im 30 0 12).toNat := by omega
           refine ⟨_, rfl, S, lg, ?_, hRS, hag, hlg, rfl⟩
           rw [if_pos (by omega)]
           first
             | rw [if_pos (by omega)]
             | rw [if_neg (by omega)])

def chV (im : IM) (n h : Nat) : Int := smF (costR (up im 30 0 8 ((2 ^ h : Nat) : Int)) n) 50
theorem RC_bell {im : IM} (h : RC im) {v : Int} (hv : 0 ≤ v ∧ v < 16777216) : RC (up im 30 0 8 v) := by
  obtain ⟨hR, hX, h4, h12, h7, h8, hP⟩ := h
  exact ⟨RI_up hR (by constructor <;> omega), hX.same (fun _ => rfl) (fun _ => rfl) (fun _ => rfl) rfl rfl, h4, h12, h7, hv, hP⟩
theorem pow_24 {h : Nat} (hh : h < 24) : 2 ^ h < 16777216 := by
  have := Nat.pow_lt_pow_right (a := 2) (by omega) hh
  exact this

set_option maxHeartbeats 4000000 in
theorem c_X9_church (l : Launch) (G : GS) (im : IM) (bt rt : Nat) (lm : IM) (h : RC im) (hA : AG im 1000) (h79 : im 30 0 7 ≤ 999) (n what : Int) (hn : ri n) (hwhat : ri what) : Cn l (XR G) yX9_church Y_X9_church [vR 30 0, vI n, vI what] (im, rs bt rt, lm) (pI fun x m' => ∃ im' lm', x = (if (0 ≤ n ∧ n ≤ 60) ∧ 0 ≤ what ∧ what ≤ 1 then (if what = 0 then ((lst (chV im n.toNat) 24 : Nat) : Int) else chV im n.toNat (lst (chV im n.toNat) 24)) else -2) ∧ RI im' ∧ agS im' im ∧ lgQ lm' lm ∧ m' = (im', rs bt rt, lm')) := by
  refine cn_of (by decide) (okR G) rfl (Nat.le_of_ble_eq_true rfl) ?_
  intro M ad hMl F
  subst hMl
  have hR := h.1
  have hX := h.2.1
  have h4 := h.2.2.1
  have h12 := h.2.2.2.1
  have h7 := h.2.2.2.2.1
  have h6 := hX.2.2.1
  have h3 := hX.2.2.2.1
  have hP := h.2.2.2.2.2.2
  have hR := h.1
  have n1 := hn.1
  have n2 := hn.2
  have what1 := hwhat.1
  have what2 := hwhat.2
  refine wp_pad 4 ?_
  show Wp M (XR G) ad Y_X9_church (pI fun x m' => ∃ im' lm', x = (if (0 ≤ n ∧ n ≤ 60) ∧ 0 ≤ what ∧ what ≤ 1 then (if what = 0 then ((lst (chV im n.toNat) 24 : Nat) : Int) else chV im n.toNat (lst (chV im n.toNat) 24)) else -2) ∧ RI im' ∧ agS im' im ∧ lgQ lm' lm ∧ m' = (im', rs bt rt, lm')) 0 [some (vR 30 0), some (vI n), some (vI what), none, none, none, none] [] (im, rs bt rt, lm)
  refine q_iload_n (t := 1) F dX9_church_0 rfl rfl rfl ?_
  refine q_i2l (t := 2) F dX9_church_1 (by first | exact hR _ _ _ | (constructor <;> omega)) rfl ?_
  refine q_lconst (t := 3) (x := 0) F dX9_church_2 (by decide) rfl ?_
  refine q_ldc2 (t := 6) (x := 60) F dX9_church_3 kl_X9_242 (by decide) rfl ?_
  refine wp_callS (t := 9) [_, _, _] F dX9_church_6 k_X9_in st_X9_in ml_X9_91 rfl rfl (Nat.le_of_ble_eq_true rfl) (by decide) (c_X9_in _ G _ _ _ _ _ _ _ (by constructor <;> omega) (by constructor <;> omega) (by constructor <;> omega)) rfl (kI ?_)
  rintro x6 m' ⟨hx6, rfl⟩
  have hx6 := if01 hx6
  refine q_if_eq (t := 12) (u := 22) F dX9_church_9 (by first | exact hR _ _ _ | (constructor <;> omega)) (by decide) rfl (fun c9 => ?_) (fun c9 => ?_)
  · refine q_bipush (t := 24) F dX9_church_22 (by decide) rfl ?_
    refine q_iret F dX9_church_24 rfl ?_
    first
      | (refine ⟨_, rfl, im, lm, ?_, hR, agS_rfl im, lgQ_rfl lm, rfl⟩
         rw [if_neg (by omega)])
      | (obtain rfl : i = 24 := by omega
         have e1 := hs (by omega)
         refine ⟨_, rfl, _, lg, ?_, RI_up hRS (hR 30 0 8), hag, hlg, rfl⟩
         rw [if_pos (by omega)]
         first
           | (rw [if_pos (by omega)]; exact e1.1)
           | (rw [if_neg (by omega)]; exact e1.2))
  · refine q_iload_n (t := 13) F dX9_church_12 rfl rfl rfl ?_
    refine q_i2l (t := 14) F dX9_church_13 (by first | exact hR _ _ _ | (constructor <;> omega)) rfl ?_
    refine q_lconst (t := 15) (x := 0) F dX9_church_14 (by decide) rfl ?_
    refine q_lconst (t := 16) (x := 1) F dX9_church_15 (by decide) rfl ?_
    refine wp_callS (t := 19) [_, _, _] F dX9_church_16 k_X9_in st_X9_in ml_X9_91 rfl rfl (Nat.le_of_ble_eq_true rfl) (by decide) (c_X9_in _ G _ _ _ _ _ _ _ (by constructor <;> omega) (by constructor <;> omega) (by constructor <;> omega)) rfl (kI ?_)
    rintro x16 m' ⟨hx16, rfl⟩
    have hx16 := if01 hx16
    refine q_if_ne (t := 22) (u := 25) F dX9_church_19 (by first | exact hR _ _ _ | (constructor <;> omega)) (by decide) rfl (fun c19 => ?_) (fun c19 => ?_)
    · refine q_aload_n (t := 26) F dX9_church_25 rfl rfl rfl ?_
      refine g_X9_23 (t := 29) F dX9_church_26 rfl rfl ?_
      try simp only [up_app, row_app, scr_app, cpy_app, Nat.reduceEqDiff, Int.reduceToNat, Int.toNat_natCast, and_true, true_and, and_false, false_and, and_self, reduceIte]
      refine q_istore_n (t := 30) F dX9_church_29 rfl (by decide) rfl rfl ?_
      refine q_iconst (t := 31) F dX9_church_30 rfl ?_
      refine q_istore (t := 33) F dX9_church_31 (by decide) rfl rfl ?_
      refine q_iconst (t := 34) F dX9_church_33 rfl ?_
      refine q_istore (t := 36) F dX9_church_34 (by decide) rfl rfl ?_
      refine q_iconst (t := 37) F dX9_church_36 rfl ?_
      refine q_istore (t := 39) F dX9_church_37 (by decide) rfl rfl ?_
      have L39 : ∀ (fz : Nat) (i : Nat) (fo le : Int) (S lg : IM), 24 - i < fz → (i ≤ 24 ∧ (i = 0 → fo = -1 ∧ le = 0) ∧ (0 < i → fo = (lst (chV im n.toNat) i : Nat) ∧ le = chV im n.toNat (lst (chV im n.toNat) i)) ∧ (0 ≤ le ∧ le ≤ 35000) ∧ RI S ∧ agS (up S 30 0 8 (im 30 0 8)) im ∧ lgQ lg lm) → Wp M (XR G) ad Y_X9_church (pI fun x m' => ∃ im' lm', x = (if (0 ≤ n ∧ n ≤ 60) ∧ 0 ≤ what ∧ what ≤ 1 then (if what = 0 then ((lst (chV im n.toNat) 24 : Nat) : Int) else chV im n.toNat (lst (chV im n.toNat) 24)) else -2) ∧ RI im' ∧ agS im' im ∧ lgQ lm' lm ∧ m' = (im', rs bt rt, lm')) 39 [some (vR 30 0), some (vI n), some (vI what), some (vI (im 30 0 8)), some (vI fo), some (vI le), some (vI (i : Int))] [] (S, rs bt rt, lg) := by
        intro fz
        induction fz with
        | zero => intro i fo le S lg h; exact absurd h (Nat.not_lt_zero _)
        | succ fz ih =>
          have ih39 := ih
          intro i fo le S lg hmeas ⟨hi, hz, hs, hle, hRS, hag, hlg⟩
          have hls := lst_s (chV im n.toNat) i
          have hli : 0 < i → lst (chV im n.toNat) i < i := lst_in (chV im n.toNat) i
          refine q_iload (t := 41) F dX9_church_39 rfl rfl ?_
          refine q_bipush (t := 43) F dX9_church_41 (by decide) rfl ?_
          refine q_icmp_ge (t := 46) (u := 90) F dX9_church_43 (by constructor <;> omega) (by constructor <;> omega) (by decide) rfl (fun c43 => ?_) (fun c43 => ?_)
          · refine q_aload_n (t := 91) F dX9_church_90 rfl rfl rfl ?_
            refine q_iload_n (t := 92) F dX9_church_91 rfl rfl rfl ?_
            refine p_X9_23 (t := 95) F dX9_church_92 rfl rfl ?_
            refine q_iload_n (t := 96) F dX9_church_95 rfl rfl rfl ?_
            refine q_if_ne (t := 99) (u := 104) F dX9_church_96 (by first | exact hR _ _ _ | (constructor <;> omega)) (by decide) rfl (fun c96 => ?_) (fun c96 => ?_)
            · refine q_iload (t := 106) F dX9_church_104 rfl rfl ?_
              refine q_iret F dX9_church_106 rfl ?_
              first
                | (refine ⟨_, rfl, im, lm, ?_, hR, agS_rfl im, lgQ_rfl lm, rfl⟩
                   rw [if_neg (by omega)])
                | (obtain rfl : i = 24 := by omega
                   have e1 := hs (by omega)
                   refine ⟨_, rfl, _, lg, ?_, RI_up hRS (hR 30 0 8), hag, hlg, rfl⟩
                   rw [if_pos (by omega)]
                   first
                     | (rw [if_pos (by omega)]; exact e1.1)
                     | (rw [if_neg (by omega)]; exact e1.2))
            · refine q_iload (t := 101) F dX9_church_99 rfl rfl ?_
              refine q_goto (t := 106) F dX9_church_101 (by decide) ?_
              refine q_iret F dX9_church_106 rfl ?_
              first
                | (refine ⟨_, rfl, im, lm, ?_, hR, agS_rfl im, lgQ_rfl lm, rfl⟩
                   rw [if_neg (by omega)])
                | (obtain rfl : i = 24 := by omega
                   have e1 := hs (by omega)
                   refine ⟨_, rfl, _, lg, ?_, RI_up hRS (hR 30 0 8), hag, hlg, rfl⟩
                   rw [if_pos (by omega)]
                   first
                     | (rw [if_pos (by omega)]; exact e1.1)
                     | (rw [if_neg (by omega)]; exact e1.2))
          · refine q_aload_n (t := 47) F dX9_church_46 rfl rfl rfl ?_
            refine q_iconst (t := 48) F dX9_church_47 rfl ?_
            refine q_iload (t := 50) F dX9_church_48 rfl rfl ?_
            refine q_ishl (t := 51) F dX9_church_50 (by omega) (by omega) rfl ?_
            rw [pow_cast i]
            refine p_X9_23 (t := 54) F dX9_church_51 rfl rfl ?_
            have hpw := Int.ofNat_lt.mpr (pow_24 (h := i) (by omega))
            have hpz : (0 : Int) ≤ ((2 ^ i : Nat) : Int) := Int.natCast_nonneg _
            have hS8 : agS (up S 30 0 8 ((2 ^ i : Nat) : Int)) (up im 30 0 8 ((2 ^ i : Nat) : Int)) := fun k s a b => by
              rw [up_app, up_app]
              split
              · rfl
              · rename_i z
                have z2 := hag k s a b
                rw [up_app, if_neg z] at z2
                exact z2
            have hRC1 : RC (up S 30 0 8 ((2 ^ i : Nat) : Int)) := (RC_bell h (v := ((2 ^ i : Nat) : Int)) (by omega)).S (RI_up hRS (by constructor <;> omega)) hS8
            have eW := when_C hS8.C.1 hS8.C.2
            have hC1 : agC (up S 30 0 8 ((2 ^ i : Nat) : Int)) (up S 30 0 8 ((2 ^ i : Nat) : Int)) := ⟨fun _ _ _ _ => rfl, rfl, rfl, rfl, rfl, rfl⟩
            have e7 : S 30 0 7 = im 30 0 7 := hag 30 7 (by omega) (by omega)
            have hA : AG (up S 30 0 8 ((2 ^ i : Nat) : Int)) 1000 := fun q hq hne => by
              have e36 : S 36 0 q = im 36 0 q := hag 36 q (by omega) (by omega)
              have e37 : S 37 0 q = im 37 0 q := hag 37 q (by omega) (by omega)
              have e12 : S 30 0 12 = im 30 0 12 := hag 30 12 (by omega) (by omega)
              rw [up_app, if_neg (by omega)] at hq hne ⊢
              rw [e37]
              exact hA q (by rw [← e12]; exact hq) (by rw [← e36]; exact hne)
            have hch := (cost_in (RC_bell h (v := ((2 ^ i : Nat) : Int)) (by omega)) n.toNat).2
            have hci : chV im n.toNat i = smF (costR (up im 30 0 8 ((2 ^ i : Nat) : Int)) n.toNat) 50 := rfl
            refine q_aload_n (t := 55) F dX9_church_54 rfl rfl rfl ?_
            refine q_iload_n (t := 56) F dX9_church_55 rfl rfl rfl ?_
            rw [show vI n = vI ((n.toNat : Nat) : Int) by rw [Int.toNat_of_nonneg (by omega)]]
            refine wp_callV (t := 59) [_] F dX9_church_56 k_X9_runs v_X9_runs ml_X9_410 rfl rfl rfl rfl (Nat.le_of_ble_eq_true rfl) (by decide) (m_30 (by omega)) (c_X9_runs _ G (up S 30 0 8 ((2 ^ i : Nat) : Int)) bt rt lg hRC1 (hA.C hC1) (by rw [up_app, if_neg (by omega), e7]; exact h79) n.toNat (by omega)) rfl (kV ?_)
            rintro m' ⟨im2, lm2, hR2, hU, hlg2, rfl⟩
            rw [show vI ((n.toNat : Nat) : Int) = vI n by rw [Int.toNat_of_nonneg (by omega)]]
            have e40 : im2 30 0 40 = chV im n.toNat i := by rw [hU.2.2.1, eW.2.1]; rfl
            have hlg2 := hlg2.trans hlg
            have hag2 : agS (up im2 30 0 8 (im 30 0 8)) im := fun k s a b => by
              rw [up_app]
              split
              · rename_i z; rw [z.1, z.2.2]
              · rename_i z
                rw [hU.1 k s (by omega) b, up_app, if_neg z]
                have z2 := hag k s a b
                rw [up_app, if_neg z] at z2
                exact z2
            refine q_iload (t := 61) F dX9_church_59 rfl rfl ?_
            refine q_iconst (t := 62) F dX9_church_61 rfl ?_
            refine q_icmp_eq (t := 65) (u := 74) F dX9_church_62 (by by_cases i0 : i = 0; (· have := hz i0; constructor <;> omega); (· have := hs (by omega); have := hli (by omega); constructor <;> omega)) (by constructor <;> omega) (by decide) rfl (fun c62 => ?_) (fun c62 => ?_)
            · refine q_iload (t := 76) F dX9_church_74 rfl rfl ?_
              refine q_istore (t := 78) F dX9_church_76 (by decide) rfl rfl ?_
              refine q_aload_n (t := 79) F dX9_church_78 rfl rfl rfl ?_
              refine g_X9_401 (t := 82) F dX9_church_79 rfl rfl ?_
              try simp only [up_app, row_app, scr_app, cpy_app, Nat.reduceEqDiff, Int.reduceToNat, Int.toNat_natCast, and_true, true_and, and_false, false_and, and_self, reduceIte]
              rw [e40]
              refine q_istore (t := 84) F dX9_church_82 (by decide) rfl rfl ?_
              refine q_iinc (t := 87) F dX9_church_84 rfl (by decide) rfl rfl ?_
              refine q_goto (t := 39) F dX9_church_87 (by decide) ?_
              rw [show (i : Int) + 1 = ((i + 1 : Nat) : Int) by omega]
              first
                | (refine ih39 (i + 1) (i : Int) (chV im n.toNat i) im2 lm2 (by omega) ⟨by omega, fun z => absurd z (by omega), fun _ => ?_, by omega, hR2, hag2, hlg2⟩
                   by_cases i0 : i = 0
                   · subst i0
                     have e0 : lst (chV im n.toNat) 1 = 0 := by have := lst_in (chV im n.toNat) 1 (by omega); omega
                     rw [e0]
                     exact ⟨rfl, rfl⟩
                   · have e1 := hs (by omega)
                     have e9 : lst (chV im n.toNat) (i + 1) = i := by rw [hls, if_pos (by omega)]
                     rw [e9]
                     exact ⟨rfl, rfl⟩)
                | (refine ih39 (i + 1) fo le im2 lm2 (by omega) ⟨by omega, fun z => absurd z (by omega), fun _ => ?_, hle, hR2, hag2, hlg2⟩
                   by_cases i0 : i = 0
                   · exact absurd (hz i0).1 (by omega)
                   · have e1 := hs (by omega)
                     have e9 : lst (chV im n.toNat) (i + 1) = lst (chV im n.toNat) i := by rw [hls, if_neg (by omega)]
                     rw [e9]
                     exact e1)
            · refine q_aload_n (t := 66) F dX9_church_65 rfl rfl rfl ?_
              refine g_X9_401 (t := 69) F dX9_church_66 rfl rfl ?_
              try simp only [up_app, row_app, scr_app, cpy_app, Nat.reduceEqDiff, Int.reduceToNat, Int.toNat_natCast, and_true, true_and, and_false, false_and, and_self, reduceIte]
              rw [e40]
              refine q_iload (t := 71) F dX9_church_69 rfl rfl ?_
              refine q_icmp_ge (t := 74) (u := 84) F dX9_church_71 (by constructor <;> omega) (by constructor <;> omega) (by decide) rfl (fun c71 => ?_) (fun c71 => ?_)
              · refine q_iinc (t := 87) F dX9_church_84 rfl (by decide) rfl rfl ?_
                refine q_goto (t := 39) F dX9_church_87 (by decide) ?_
                rw [show (i : Int) + 1 = ((i + 1 : Nat) : Int) by omega]
                first
                  | (refine ih39 (i + 1) (i : Int) (chV im n.toNat i) im2 lm2 (by omega) ⟨by omega, fun z => absurd z (by omega), fun _ => ?_, by omega, hR2, hag2, hlg2⟩
                     by_cases i0 : i = 0
                     · subst i0
                       have e0 : lst (chV im n.toNat) 1 = 0 := by have := lst_in (chV im n.toNat) 1 (by omega); omega
                       rw [e0]
                       exact ⟨rfl, rfl⟩
                     · have e1 := hs (by omega)
                       have e9 : lst (chV im n.toNat) (i + 1) = i := by rw [hls, if_pos (by omega)]
                       rw [e9]
                       exact ⟨rfl, rfl⟩)
                  | (refine ih39 (i + 1) fo le im2 lm2 (by omega) ⟨by omega, fun z => absurd z (by omega), fun _ => ?_, hle, hR2, hag2, hlg2⟩
                     by_cases i0 : i = 0
                     · exact absurd (hz i0).1 (by omega)
                     · have e1 := hs (by omega)
                       have e9 : lst (chV im n.toNat) (i + 1) = lst (chV im n.toNat) i := by rw [hls, if_neg (by omega)]
                       rw [e9]
                       exact e1)
              · refine q_iload (t := 76) F dX9_church_74 rfl rfl ?_
                refine q_istore (t := 78) F dX9_church_76 (by decide) rfl rfl ?_
                refine q_aload_n (t := 79) F dX9_church_78 rfl rfl rfl ?_
                refine g_X9_401 (t := 82) F dX9_church_79 rfl rfl ?_
                try simp only [up_app, row_app, scr_app, cpy_app, Nat.reduceEqDiff, Int.reduceToNat, Int.toNat_natCast, and_true, true_and, and_false, false_and, and_self, reduceIte]
                rw [e40]
                refine q_istore (t := 84) F dX9_church_82 (by decide) rfl rfl ?_
                refine q_iinc (t := 87) F dX9_church_84 rfl (by decide) rfl rfl ?_
                refine q_goto (t := 39) F dX9_church_87 (by decide) ?_
                rw [show (i : Int) + 1 = ((i + 1 : Nat) : Int) by omega]
                first
                  | (refine ih39 (i + 1) (i : Int) (chV im n.toNat i) im2 lm2 (by omega) ⟨by omega, fun z => absurd z (by omega), fun _ => ?_, by omega, hR2, hag2, hlg2⟩
                     by_cases i0 : i = 0
                     · subst i0
                       have e0 : lst (chV im n.toNat) 1 = 0 := by have := lst_in (chV im n.toNat) 1 (by omega); omega
                       rw [e0]
                       exact ⟨rfl, rfl⟩
                     · have e1 := hs (by omega)
                       have e9 : lst (chV im n.toNat) (i + 1) = i := by rw [hls, if_pos (by omega)]
                       rw [e9]
                       exact ⟨rfl, rfl⟩)
                  | (refine ih39 (i + 1) fo le im2 lm2 (by omega) ⟨by omega, fun z => absurd z (by omega), fun _ => ?_, hle, hR2, hag2, hlg2⟩
                     by_cases i0 : i = 0
                     · exact absurd (hz i0).1 (by omega)
                     · have e1 := hs (by omega)
                       have e9 : lst (chV im n.toNat) (i + 1) = lst (chV im n.toNat) i := by rw [hls, if_neg (by omega)]
                       rw [e9]
                       exact e1)
      refine L39 _ 0 (-1) 0 im lm (Nat.lt_succ_self _) ⟨by omega, fun _ => ⟨rfl, rfl⟩, fun z => absurd z (by omega), by omega, hR, fun k s a b => ?_, lgQ_rfl lm⟩
      rw [up_app]
      split
      · rename_i z; rw [z.1, z.2.2]
      · rfl
    · refine q_bipush (t := 24) F dX9_church_22 (by decide) rfl ?_
      refine q_iret F dX9_church_24 rfl ?_
      first
        | (refine ⟨_, rfl, im, lm, ?_, hR, agS_rfl im, lgQ_rfl lm, rfl⟩
           rw [if_neg (by omega)])
        | (obtain rfl : i = 24 := by omega
           have e1 := hs (by omega)
           refine ⟨_, rfl, _, lg, ?_, RI_up hRS (hR 30 0 8), hag, hlg, rfl⟩
           rw [if_pos (by omega)]
           first
             | (rw [if_pos (by omega)]; exact e1.1)
             | (rw [if_neg (by omega)]; exact e1.2))
end
section
/-! the reference: plan -/

def SH (im : IM) : Prop := ∀ j, j < 4 → (im 47 0 j = 0 ∨ im 47 0 j = 1) ∧ (im 47 0 j = 1 → (0 ≤ im 48 0 j ∧ im 48 0 j ≤ 2) ∧ 0 ≤ im 49 0 j ∧ im 49 0 j ≤ 40)
abbrev okP (im : IM) (s : Nat) : Prop := im 49 0 s % 4 = 0 ∧ ∀ k, k < (im 49 0 s / 4).toNat → stepB (im 30 0 12) (im 50 0 (40 * s + 4 * k)) (im 50 0 (40 * s + 4 * k + 1)) (im 50 0 (40 * s + 4 * k + 2)) (im 50 0 (40 * s + 4 * k + 3)) = 1
def tkR (S : IM) (act who f g t : Int) : IM := if act = 0 then spR S S who.toNat f g else if act = 1 then up S 36 0 (10 * who.toNat + f.toNat) (-1) else if act = 2 then hnR S who.toNat f.toNat 10 else up (lvN S t (10 * S 30 0 12).toNat) 30 0 7 (S 30 0 7 + 1)
def plS (im : IM) (s : Nat) : Nat → IM → Prop
  | 0, S => agY S (asideI im)
  | k + 1, S => ∃ S0, plS im s k S0 ∧ agY S (tkR S0 (im 50 0 (40 * s + 4 * k)) (im 50 0 (40 * s + 4 * k + 1)) (im 50 0 (40 * s + 4 * k + 2)) (im 50 0 (40 * s + 4 * k + 3)) ((4 * k : Nat) : Int))
/-- what a plan goes through is within what is laid back -/
def PK (im S : IM) : Prop := (∀ k s, ¬ (36 ≤ k ∧ k ≤ 39) → ¬ (k = 30 ∧ (s = 7 ∨ s = 9 ∨ 15 ≤ s ∧ s ≤ 33)) → S k 0 s = asideI im k 0 s) ∧ (∀ k s, (k = 36 ∨ k = 37) → 50 ≤ s → S k 0 s = im k 0 s)
theorem PK_tk {im S S1 : IM} {act who f g t : Int} (hS : PK im S) (ht : t ≠ -1) (h12 : 0 ≤ im 30 0 12 ∧ im 30 0 12 ≤ 5) (hst : stepB (im 30 0 12) act who f g = 1) (ha : agY S1 (tkR S act who f g t)) : PK im S1 := by
  have e12 : S 30 0 12 = im 30 0 12 := hS.1 30 12 (by omega) (by omega)
  have hL := LV_N S ht (10 * S 30 0 12).toNat
  have hu := utR_in (im := S) (p := who.toNat) (w := f) (fd := g)
  have hs : act = 3 ∨ (0 ≤ who ∧ who < 5) ∧ (act = 0 ∨ (act = 1 ∧ 0 ≤ f ∧ f < 10) ∨ (act = 2 ∧ 0 ≤ f ∧ f < 5)) := by
    unfold stepB at hst
    (repeat' split at hst) <;> omega
  have key : (∀ k s, ¬ (36 ≤ k ∧ k ≤ 39) → ¬ (k = 30 ∧ (s = 7 ∨ s = 9 ∨ 15 ≤ s ∧ s ≤ 33)) → tkR S act who f g t k 0 s = S k 0 s) ∧ (∀ k s, (k = 36 ∨ k = 37) → 50 ≤ s → tkR S act who f g t k 0 s = S k 0 s) := by
    unfold tkR
    by_cases a0 : act = 0
    · rw [if_pos a0]
      unfold spR
      by_cases u : utR S who.toNat f g = -1
      · rw [if_pos u]
        exact ⟨fun _ _ _ _ => rfl, fun _ _ _ _ => rfl⟩
      · rw [if_neg u]
        refine ⟨fun k s h1 h2 => ?_, fun k s h1 h2 => ?_⟩ <;> rw [up_app, if_neg (by omega), up_app, if_neg (by omega)]
    · rw [if_neg a0]
      by_cases a1 : act = 1
      · rw [if_pos a1]
        refine ⟨fun k s h1 h2 => ?_, fun k s h1 h2 => ?_⟩ <;> rw [up_app, if_neg (by omega)]
      · rw [if_neg a1]
        by_cases a2 : act = 2
        · rw [if_pos a2]
          refine ⟨fun k s h1 h2 => ?_, fun k s h1 h2 => ?_⟩ <;> (unfold hnR; rw [if_neg (by omega), if_neg (by omega)])
        · rw [if_neg a2]
          refine ⟨fun k s h1 h2 => ?_, fun k s h1 h2 => ?_⟩
          · rw [up_app, if_neg (by omega)]
            exact hL.1 k 0 s h1 (by omega)
          · rw [up_app, if_neg (by omega)]
            have l := hL.2.1 s (by omega)
            rcases h1 with rfl | rfl
            · exact l.1
            · exact l.2.1
  exact ⟨fun k s h1 h2 => ((ha k 0 s (by omega)).trans (key.1 k s h1 h2)).trans (hS.1 k s h1 h2), fun k s h1 h2 => ((ha k 0 s (by omega)).trans (key.2 k s h1 h2)).trans (hS.2 k s h1 h2)⟩
theorem AG_say {im im2 : IM} (h : AG im 1000) (hag : agY im2 im) (p : Nat) (w fd : Int) : AG (spR im im2 p w fd) 1000 := by
  have h2 : AG im2 1000 := h.C (hag.O.C).1
  unfold spR
  split
  · exact h2
  · intro q hq hne
    have hq : (q : Int) < 10 * im2 30 0 12 := hq
    have g := h2 q hq
    rw [up_app]
    split
    · omega
    · rename_i z
      rw [up_app, if_neg (by omega), up_app, if_neg (by omega)] at hne
      rw [up_app, if_neg (by omega)]
      exact g hne
theorem AG_out {im : IM} (h : AG im 1000) (s : Nat) : AG (up im 36 0 s (-1)) 1000 := by
  intro q hq hne
  have hq : (q : Int) < 10 * im 30 0 12 := hq
  have g := h q hq
  rw [up_app] at hne
  rw [up_app, if_neg (by omega)]
  split at hne
  · exact absurd rfl hne
  · exact g hne
theorem spR_ag {im im2 : IM} (h : agY im2 im) (p : Nat) (w fd : Int) : agY (spR im im2 p w fd) (spR im im p w fd) := by
  unfold spR
  split
  · exact h
  · exact (h.up rfl).up rfl
theorem PK_0 {im S : IM} (h : agY S (asideI im)) : PK im S := ⟨fun k s h1 h2 => h k 0 s (by omega), fun k s h1 h2 => (h k 0 s (by omega)).trans (asideI_c im (by omega) (by omega))⟩

set_option maxHeartbeats 4000000 in
theorem c_X9_isRow (l : Launch) (G : GS) (im : IM) (bt rt : Nat) (lm : IM) (h : RC im) (q : Nat) (hq : q + 3 < 160) (a w f g : Int) (ha : im 50 0 q = a) (hw : im 50 0 (q + 1) = w) (hf : im 50 0 (q + 2) = f) (hg : im 50 0 (q + 3) = g) : Cn l (XR G) yX9_isRow Y_X9_isRow [vR 30 0, vI (q : Int)] (im, rs bt rt, lm) (pI fun x m' => x = stepB (im 30 0 12) a w f g ∧ m' = (im, rs bt rt, lm)) := by
  refine cn_of (by decide) (okR G) rfl (Nat.le_of_ble_eq_true rfl) ?_
  intro M ad hMl F
  subst hMl
  have hR := h.1
  have h12 := h.2.2.2.1
  have hA : ri a := ha ▸ hR 50 0 q
  have hW : ri w := hw ▸ hR 50 0 (q + 1)
  have hF : ri f := hf ▸ hR 50 0 (q + 2)
  have hG : ri g := hg ▸ hR 50 0 (q + 3)
  have hA1 := hA.1
  have hA2 := hA.2
  have hW1 := hW.1
  have hW2 := hW.2
  have hF1 := hF.1
  have hF2 := hF.2
  have hG1 := hG.1
  have hG2 := hG.2
  refine wp_pad 4 ?_
  show Wp M (XR G) ad Y_X9_isRow (pI fun x m' => x = stepB (im 30 0 12) a w f g ∧ m' = (im, rs bt rt, lm)) 0 [some (vR 30 0), some (vI (q : Int)), none, none, none, none] [] (im, rs bt rt, lm)
  refine q_aload_n (t := 1) F dX9_isRow_0 rfl rfl rfl ?_
  refine g_X9_78 (t := 4) F dX9_isRow_1 rfl rfl ?_
  refine q_iload_n (t := 5) F dX9_isRow_4 rfl rfl rfl ?_
  first | refine ldN_50 (t := 6) F dX9_isRow_5 (by omega) rfl ?_ | refine ld_50 (t := 6) F dX9_isRow_5 (by omega) (by omega) rfl ?_
  rw [ha]
  refine q_istore_n (t := 7) F dX9_isRow_6 rfl (by decide) rfl rfl ?_
  refine q_aload_n (t := 8) F dX9_isRow_7 rfl rfl rfl ?_
  refine g_X9_78 (t := 11) F dX9_isRow_8 rfl rfl ?_
  refine q_iload_n (t := 12) F dX9_isRow_11 rfl rfl rfl ?_
  refine q_iconst (t := 13) F dX9_isRow_12 rfl ?_
  refine q_iadd (t := 14) F dX9_isRow_13 rfl ?_
  rw [show (q : Int) + 1 = ((q + 1 : Nat) : Int) by omega]
  first | refine ldN_50 (t := 15) F dX9_isRow_14 (by omega) rfl ?_ | refine ld_50 (t := 15) F dX9_isRow_14 (by omega) (by omega) rfl ?_
  rw [hw]
  refine q_istore_n (t := 16) F dX9_isRow_15 rfl (by decide) rfl rfl ?_
  refine q_aload_n (t := 17) F dX9_isRow_16 rfl rfl rfl ?_
  refine g_X9_78 (t := 20) F dX9_isRow_17 rfl rfl ?_
  refine q_iload_n (t := 21) F dX9_isRow_20 rfl rfl rfl ?_
  refine q_iconst (t := 22) F dX9_isRow_21 rfl ?_
  refine q_iadd (t := 23) F dX9_isRow_22 rfl ?_
  rw [show (q : Int) + 2 = ((q + 2 : Nat) : Int) by omega]
  first | refine ldN_50 (t := 24) F dX9_isRow_23 (by omega) rfl ?_ | refine ld_50 (t := 24) F dX9_isRow_23 (by omega) (by omega) rfl ?_
  rw [hf]
  refine q_istore (t := 26) F dX9_isRow_24 (by decide) rfl rfl ?_
  refine q_aload_n (t := 27) F dX9_isRow_26 rfl rfl rfl ?_
  refine g_X9_78 (t := 30) F dX9_isRow_27 rfl rfl ?_
  refine q_iload_n (t := 31) F dX9_isRow_30 rfl rfl rfl ?_
  refine q_iconst (t := 32) F dX9_isRow_31 rfl ?_
  refine q_iadd (t := 33) F dX9_isRow_32 rfl ?_
  rw [show (q : Int) + 3 = ((q + 3 : Nat) : Int) by omega]
  first | refine ldN_50 (t := 34) F dX9_isRow_33 (by omega) rfl ?_ | refine ld_50 (t := 34) F dX9_isRow_33 (by omega) (by omega) rfl ?_
  rw [hg]
  refine q_istore (t := 36) F dX9_isRow_34 (by decide) rfl rfl ?_
  refine q_iload_n (t := 37) F dX9_isRow_36 rfl rfl rfl ?_
  refine q_iconst (t := 38) F dX9_isRow_37 rfl ?_
  refine q_icmp_ne (t := 41) (u := 61) F dX9_isRow_38 (by constructor <;> omega) (by constructor <;> omega) (by decide) rfl (fun c38 => ?_) (fun c38 => ?_)
  · refine q_iload_n (t := 62) F dX9_isRow_61 rfl rfl rfl ?_
    refine q_i2l (t := 63) F dX9_isRow_62 (by first | exact hR _ _ _ | (constructor <;> omega)) rfl ?_
    refine q_lconst (t := 64) (x := 0) F dX9_isRow_63 (by decide) rfl ?_
    refine q_ldc2 (t := 67) (x := 2) F dX9_isRow_64 kl_X9_99 (by decide) rfl ?_
    refine wp_callS (t := 70) [_, _, _] F dX9_isRow_67 k_X9_in st_X9_in ml_X9_91 rfl rfl (Nat.le_of_ble_eq_true rfl) (by decide) (c_X9_in _ G _ _ _ _ _ _ _ (by constructor <;> omega) (by constructor <;> omega) (by constructor <;> omega)) rfl (kI ?_)
    rintro x67 m' ⟨hx67, rfl⟩
    have hx67 := if01 hx67
    refine q_if_eq (t := 73) (u := 81) F dX9_isRow_70 (by first | exact hR _ _ _ | (constructor <;> omega)) (by decide) rfl (fun c70 => ?_) (fun c70 => ?_)
    · refine q_iconst (t := 82) F dX9_isRow_81 rfl ?_
      refine q_zret F dX9_isRow_82 rfl (by decide) ?_
      refine ⟨_, rfl, ?_, rfl⟩
      unfold stepB
      (repeat' split) <;> first | rfl | (exfalso; omega)
    · refine q_aload_n (t := 74) F dX9_isRow_73 rfl rfl rfl ?_
      refine q_iload_n (t := 75) F dX9_isRow_74 rfl rfl rfl ?_
      refine wp_callV (t := 78) [_] F dX9_isRow_75 k_X9_isOne v_X9_isOne ml_X9_101 rfl rfl rfl rfl (Nat.le_of_ble_eq_true rfl) (by decide) (m_30 (by omega)) (c_X9_isOne _ G im bt rt lm hR h12.1 h12.2 w (by constructor <;> omega)) rfl (kI ?_)
      rintro x75 m' ⟨hx75, rfl⟩
      have hx75 := if01 hx75
      refine q_if_ne (t := 81) (u := 83) F dX9_isRow_78 (by first | exact hR _ _ _ | (constructor <;> omega)) (by decide) rfl (fun c78 => ?_) (fun c78 => ?_)
      · refine q_iload_n (t := 84) F dX9_isRow_83 rfl rfl rfl ?_
        refine q_if_ne (t := 87) (u := 116) F dX9_isRow_84 (by first | exact hR _ _ _ | (constructor <;> omega)) (by decide) rfl (fun c84 => ?_) (fun c84 => ?_)
        · refine q_iload (t := 118) F dX9_isRow_116 rfl rfl ?_
          refine q_if_ne (t := 121) (u := 156) F dX9_isRow_118 (by first | exact hR _ _ _ | (constructor <;> omega)) (by decide) rfl (fun c118 => ?_) (fun c118 => ?_)
          · refine q_iconst (t := 157) F dX9_isRow_156 rfl ?_
            refine q_zret F dX9_isRow_157 rfl (by decide) ?_
            refine ⟨_, rfl, ?_, rfl⟩
            unfold stepB
            (repeat' split) <;> first | rfl | (exfalso; omega)
          · refine q_iload_n (t := 122) F dX9_isRow_121 rfl rfl rfl ?_
            refine q_iconst (t := 123) F dX9_isRow_122 rfl ?_
            refine q_icmp_ne (t := 126) (u := 137) F dX9_isRow_123 (by constructor <;> omega) (by constructor <;> omega) (by decide) rfl (fun c123 => ?_) (fun c123 => ?_)
            · refine q_aload_n (t := 138) F dX9_isRow_137 rfl rfl rfl ?_
              refine q_iload (t := 140) F dX9_isRow_138 rfl rfl ?_
              refine wp_callV (t := 143) [_] F dX9_isRow_140 k_X9_isOne v_X9_isOne ml_X9_101 rfl rfl rfl rfl (Nat.le_of_ble_eq_true rfl) (by decide) (m_30 (by omega)) (c_X9_isOne _ G im bt rt lm hR h12.1 h12.2 f (by constructor <;> omega)) rfl (kI ?_)
              rintro x140 m' ⟨hx140, rfl⟩
              have hx140 := if01 hx140
              refine q_if_eq (t := 146) (u := 156) F dX9_isRow_143 (by first | exact hR _ _ _ | (constructor <;> omega)) (by decide) rfl (fun c143 => ?_) (fun c143 => ?_)
              · refine q_iconst (t := 157) F dX9_isRow_156 rfl ?_
                refine q_zret F dX9_isRow_157 rfl (by decide) ?_
                refine ⟨_, rfl, ?_, rfl⟩
                unfold stepB
                (repeat' split) <;> first | rfl | (exfalso; omega)
              · refine q_iload (t := 148) F dX9_isRow_146 rfl rfl ?_
                refine q_iload_n (t := 149) F dX9_isRow_148 rfl rfl rfl ?_
                refine q_icmp_eq (t := 152) (u := 156) F dX9_isRow_149 (by constructor <;> omega) (by constructor <;> omega) (by decide) rfl (fun c149 => ?_) (fun c149 => ?_)
                · refine q_iconst (t := 157) F dX9_isRow_156 rfl ?_
                  refine q_zret F dX9_isRow_157 rfl (by decide) ?_
                  refine ⟨_, rfl, ?_, rfl⟩
                  unfold stepB
                  (repeat' split) <;> first | rfl | (exfalso; omega)
                · refine q_iconst (t := 153) F dX9_isRow_152 rfl ?_
                  refine q_goto (t := 157) F dX9_isRow_153 (by decide) ?_
                  refine q_zret F dX9_isRow_157 rfl (by decide) ?_
                  refine ⟨_, rfl, ?_, rfl⟩
                  unfold stepB
                  (repeat' split) <;> first | rfl | (exfalso; omega)
            · refine q_iload (t := 128) F dX9_isRow_126 rfl rfl ?_
              refine wp_callS (t := 131) [_] F dX9_isRow_128 k_X9_isGap st_X9_isGap ml_X9_138 rfl rfl (Nat.le_of_ble_eq_true rfl) (by decide) (c_X9_isGap _ G im bt rt lm f (by constructor <;> omega)) rfl (kI ?_)
              rintro x128 m' ⟨hx128, rfl⟩
              have hx128 := if01 hx128
              refine q_if_eq (t := 134) (u := 156) F dX9_isRow_131 (by first | exact hR _ _ _ | (constructor <;> omega)) (by decide) rfl (fun c131 => ?_) (fun c131 => ?_)
              · refine q_iconst (t := 157) F dX9_isRow_156 rfl ?_
                refine q_zret F dX9_isRow_157 rfl (by decide) ?_
                refine ⟨_, rfl, ?_, rfl⟩
                unfold stepB
                (repeat' split) <;> first | rfl | (exfalso; omega)
              · refine q_goto (t := 152) F dX9_isRow_134 (by decide) ?_
                refine q_iconst (t := 153) F dX9_isRow_152 rfl ?_
                refine q_goto (t := 157) F dX9_isRow_153 (by decide) ?_
                refine q_zret F dX9_isRow_157 rfl (by decide) ?_
                refine ⟨_, rfl, ?_, rfl⟩
                unfold stepB
                (repeat' split) <;> first | rfl | (exfalso; omega)
        · refine q_iload (t := 89) F dX9_isRow_87 rfl rfl ?_
          refine wp_callS (t := 92) [_] F dX9_isRow_89 k_X9_isWord st_X9_isWord ml_X9_141 rfl rfl (Nat.le_of_ble_eq_true rfl) (by decide) (c_X9_isWord _ G im bt rt lm f (by constructor <;> omega)) rfl (kI ?_)
          rintro x89 m' ⟨hx89, rfl⟩
          have hx89 := if01 hx89
          refine q_if_eq (t := 95) (u := 112) F dX9_isRow_92 (by first | exact hR _ _ _ | (constructor <;> omega)) (by decide) rfl (fun c92 => ?_) (fun c92 => ?_)
          · refine q_iconst (t := 113) F dX9_isRow_112 rfl ?_
            refine q_goto (t := 157) F dX9_isRow_113 (by decide) ?_
            refine q_zret F dX9_isRow_157 rfl (by decide) ?_
            refine ⟨_, rfl, ?_, rfl⟩
            unfold stepB
            (repeat' split) <;> first | rfl | (exfalso; omega)
          · refine q_iload (t := 97) F dX9_isRow_95 rfl rfl ?_
            refine q_i2l (t := 98) F dX9_isRow_97 (by first | exact hR _ _ _ | (constructor <;> omega)) rfl ?_
            refine q_lconst (t := 99) (x := 0) F dX9_isRow_98 (by decide) rfl ?_
            refine q_ldc2 (t := 102) (x := 9) F dX9_isRow_99 kl_X9_95 (by decide) rfl ?_
            refine wp_callS (t := 105) [_, _, _] F dX9_isRow_102 k_X9_in st_X9_in ml_X9_91 rfl rfl (Nat.le_of_ble_eq_true rfl) (by decide) (c_X9_in _ G _ _ _ _ _ _ _ (by constructor <;> omega) (by constructor <;> omega) (by constructor <;> omega)) rfl (kI ?_)
            rintro x102 m' ⟨hx102, rfl⟩
            have hx102 := if01 hx102
            refine q_if_eq (t := 108) (u := 112) F dX9_isRow_105 (by first | exact hR _ _ _ | (constructor <;> omega)) (by decide) rfl (fun c105 => ?_) (fun c105 => ?_)
            · refine q_iconst (t := 113) F dX9_isRow_112 rfl ?_
              refine q_goto (t := 157) F dX9_isRow_113 (by decide) ?_
              refine q_zret F dX9_isRow_157 rfl (by decide) ?_
              refine ⟨_, rfl, ?_, rfl⟩
              unfold stepB
              (repeat' split) <;> first | rfl | (exfalso; omega)
            · refine q_iconst (t := 109) F dX9_isRow_108 rfl ?_
              refine q_goto (t := 157) F dX9_isRow_109 (by decide) ?_
              refine q_zret F dX9_isRow_157 rfl (by decide) ?_
              refine ⟨_, rfl, ?_, rfl⟩
              unfold stepB
              (repeat' split) <;> first | rfl | (exfalso; omega)
      · refine q_iconst (t := 82) F dX9_isRow_81 rfl ?_
        refine q_zret F dX9_isRow_82 rfl (by decide) ?_
        refine ⟨_, rfl, ?_, rfl⟩
        unfold stepB
        (repeat' split) <;> first | rfl | (exfalso; omega)
  · refine q_iload_n (t := 42) F dX9_isRow_41 rfl rfl rfl ?_
    refine q_if_ne (t := 45) (u := 59) F dX9_isRow_42 (by first | exact hR _ _ _ | (constructor <;> omega)) (by decide) rfl (fun c42 => ?_) (fun c42 => ?_)
    · refine q_iconst (t := 60) F dX9_isRow_59 rfl ?_
      refine q_zret F dX9_isRow_60 rfl (by decide) ?_
      refine ⟨_, rfl, ?_, rfl⟩
      unfold stepB
      (repeat' split) <;> first | rfl | (exfalso; omega)
    · refine q_iload (t := 47) F dX9_isRow_45 rfl rfl ?_
      refine q_if_ne (t := 50) (u := 59) F dX9_isRow_47 (by first | exact hR _ _ _ | (constructor <;> omega)) (by decide) rfl (fun c47 => ?_) (fun c47 => ?_)
      · refine q_iconst (t := 60) F dX9_isRow_59 rfl ?_
        refine q_zret F dX9_isRow_60 rfl (by decide) ?_
        refine ⟨_, rfl, ?_, rfl⟩
        unfold stepB
        (repeat' split) <;> first | rfl | (exfalso; omega)
      · refine q_iload (t := 52) F dX9_isRow_50 rfl rfl ?_
        refine q_if_ne (t := 55) (u := 59) F dX9_isRow_52 (by first | exact hR _ _ _ | (constructor <;> omega)) (by decide) rfl (fun c52 => ?_) (fun c52 => ?_)
        · refine q_iconst (t := 60) F dX9_isRow_59 rfl ?_
          refine q_zret F dX9_isRow_60 rfl (by decide) ?_
          refine ⟨_, rfl, ?_, rfl⟩
          unfold stepB
          (repeat' split) <;> first | rfl | (exfalso; omega)
        · refine q_iconst (t := 56) F dX9_isRow_55 rfl ?_
          refine q_goto (t := 60) F dX9_isRow_56 (by decide) ?_
          refine q_zret F dX9_isRow_60 rfl (by decide) ?_
          refine ⟨_, rfl, ?_, rfl⟩
          unfold stepB
          (repeat' split) <;> first | rfl | (exfalso; omega)

set_option maxHeartbeats 4000000 in
theorem c_X9_plan (l : Launch) (G : GS) (im : IM) (bt rt : Nat) (lm : IM) (h : RC im) (hA : AG im 1000) (h79 : im 30 0 7 ≤ 999) (hSH : SH im) (s what : Int) (hs : ri s) (hwhat : ri what) : Cn l (XR G) yX9_plan Y_X9_plan [vR 30 0, vI s, vI what] (im, rs bt rt, lm) (pI fun x m' => ∃ im' lm', (¬ (((0 : Int) ≤ s ∧ (s : Int) ≤ 3) ∧ 0 ≤ what ∧ what ≤ 1) → x = -2) ∧ (((0 : Int) ≤ s ∧ (s : Int) ≤ 3) ∧ 0 ≤ what ∧ what ≤ 1 → (im 47 0 (Int.toNat s) = 0 → x = -11) ∧ (im 47 0 (Int.toNat s) = 1 → ¬ okP im (Int.toNat s) → x = -2) ∧ (im 47 0 (Int.toNat s) = 1 → okP im (Int.toNat s) → ∃ S, plS im (Int.toNat s) (im 49 0 (Int.toNat s) / 4).toNat S ∧ x = (if what = 0 then bm (S 30 0 9 - im 30 0 9) else alR S (im 30 0 12).toNat))) ∧ RI im' ∧ agS im' im ∧ lgQ lm' lm ∧ m' = (im', rs bt rt, lm')) := by
  refine cn_of (by decide) (okR G) rfl (Nat.le_of_ble_eq_true rfl) ?_
  intro M ad hMl F
  subst hMl
  have hR := h.1
  have hX := h.2.1
  have h4 := h.2.2.1
  have h12 := h.2.2.2.1
  have h7 := h.2.2.2.2.1
  have h6 := hX.2.2.1
  have h3 := hX.2.2.2.1
  have hP := h.2.2.2.2.2.2
  have hR := h.1
  have s1 := hs.1
  have s2 := hs.2
  have what1 := hwhat.1
  have what2 := hwhat.2
  have hRa := asideI_RI h.1
  have hRCa : RC (asideI im) := h.C hRa (asideI_C im) h.2.2.2.2.1
  have hAa : AG (asideI im) 1000 := hA.C (asideI_C im)
  have ea7 : asideI im 30 0 7 = im 30 0 7 := rfl
  refine wp_pad 2 ?_
  show Wp M (XR G) ad Y_X9_plan (pI fun x m' => ∃ im' lm', (¬ (((0 : Int) ≤ s ∧ (s : Int) ≤ 3) ∧ 0 ≤ what ∧ what ≤ 1) → x = -2) ∧ (((0 : Int) ≤ s ∧ (s : Int) ≤ 3) ∧ 0 ≤ what ∧ what ≤ 1 → (im 47 0 (Int.toNat s) = 0 → x = -11) ∧ (im 47 0 (Int.toNat s) = 1 → ¬ okP im (Int.toNat s) → x = -2) ∧ (im 47 0 (Int.toNat s) = 1 → okP im (Int.toNat s) → ∃ S, plS im (Int.toNat s) (im 49 0 (Int.toNat s) / 4).toNat S ∧ x = (if what = 0 then bm (S 30 0 9 - im 30 0 9) else alR S (im 30 0 12).toNat))) ∧ RI im' ∧ agS im' im ∧ lgQ lm' lm ∧ m' = (im', rs bt rt, lm')) 0 [some (vR 30 0), some (vI s), some (vI what), none, none] [] (im, rs bt rt, lm)
  refine q_iload_n (t := 1) F dX9_plan_0 rfl rfl rfl ?_
  refine wp_callS (t := 4) [_] F dX9_plan_1 k_X9_isSheet st_X9_isSheet ml_X9_421 rfl rfl (Nat.le_of_ble_eq_true rfl) (by decide) (c_X9_isSheet _ G im bt rt lm s hs) rfl (kI ?_)
  rintro x1 m' ⟨hx1, rfl⟩
  have hx1 := if01 hx1
  refine q_if_eq (t := 7) (u := 17) F dX9_plan_4 (by first | exact hR _ _ _ | (constructor <;> omega)) (by decide) rfl (fun c4 => ?_) (fun c4 => ?_)
  · refine q_bipush (t := 19) F dX9_plan_17 (by decide) rfl ?_
    refine q_iret F dX9_plan_19 rfl ?_
    first
      | exact ⟨_, rfl, im, lm, fun _ => rfl, fun z => absurd z (by omega), hR, agS_rfl im, lgQ_rfl lm, rfl⟩
      | exact ⟨_, rfl, im, lm, fun z => absurd (by omega) z, fun _ => ⟨fun _ => rfl, fun z => absurd z (by (try rw [ets]); omega), fun z => absurd z (by (try rw [ets]); omega)⟩, hR, agS_rfl im, lgQ_rfl lm, rfl⟩
      | exact ⟨_, rfl, im, lm, fun z => absurd (by omega) z, fun _ => ⟨fun z => absurd z (by (try rw [ets]); omega), fun _ _ => rfl, fun _ z => absurd z.1 (by (try rw [ets]); omega)⟩, hR, agS_rfl im, lgQ_rfl lm, rfl⟩
      | exact ⟨_, rfl, im, lm, fun z => absurd (by omega) z, fun _ => ⟨fun z => absurd z (by (try rw [ets]); omega), fun _ _ => rfl, fun _ z => by (try rw [ets] at z); have := z.2 k (by omega); omega⟩, hR, agS_rfl im, lgQ_rfl lm, rfl⟩
      | (have ek : (im 49 0 s / 4).toNat = k := by omega
         have e39 : S 30 0 39 = im 30 0 9 := (hpk.1 30 39 (by omega) (by omega)).trans rfl
         refine ⟨_, rfl, _, lg, fun z => absurd (by omega) z, fun _ => ⟨fun z => absurd z (by (try rw [ets]); omega), fun _ z => absurd (by (try rw [ets]); exact hok) z, fun _ _ => ⟨S, by (try rw [ets]); rw [ek]; exact hpl, ?_⟩⟩, backI_RI hRS, (backI_R hpk.1 hpk.2).S, hlg, rfl⟩
         first
           | (rw [if_pos (by omega)]
              show bm (S 30 0 9 - S 30 0 39) = _
              rw [e39])
           | (rw [if_neg (by omega), hx240, e12]))
  · refine q_iload_n (t := 8) F dX9_plan_7 rfl rfl rfl ?_
    refine q_i2l (t := 9) F dX9_plan_8 (by first | exact hR _ _ _ | (constructor <;> omega)) rfl ?_
    refine q_lconst (t := 10) (x := 0) F dX9_plan_9 (by decide) rfl ?_
    refine q_lconst (t := 11) (x := 1) F dX9_plan_10 (by decide) rfl ?_
    refine wp_callS (t := 14) [_, _, _] F dX9_plan_11 k_X9_in st_X9_in ml_X9_91 rfl rfl (Nat.le_of_ble_eq_true rfl) (by decide) (c_X9_in _ G _ _ _ _ _ _ _ (by constructor <;> omega) (by constructor <;> omega) (by constructor <;> omega)) rfl (kI ?_)
    rintro x11 m' ⟨hx11, rfl⟩
    have hx11 := if01 hx11
    refine q_if_ne (t := 17) (u := 20) F dX9_plan_14 (by first | exact hR _ _ _ | (constructor <;> omega)) (by decide) rfl (fun c14 => ?_) (fun c14 => ?_)
    · obtain ⟨s, rfl⟩ : ∃ j : Nat, s = (j : Int) := ⟨s.toNat, by omega⟩
      have hsh := hSH s (by omega)
      have ets : ((s : Nat) : Int).toNat = s := Int.toNat_natCast s
      refine q_aload_n (t := 21) F dX9_plan_20 rfl rfl rfl ?_
      refine g_X9_68 (t := 24) F dX9_plan_21 rfl rfl ?_
      refine q_iload_n (t := 25) F dX9_plan_24 rfl rfl rfl ?_
      first | refine ldN_47 (t := 26) F dX9_plan_25 (by omega) rfl ?_ | refine ld_47 (t := 26) F dX9_plan_25 (by omega) (by omega) rfl ?_
      try simp only [up_app, row_app, scr_app, cpy_app, Nat.reduceEqDiff, Int.reduceToNat, Int.toNat_natCast, and_true, true_and, and_false, false_and, and_self, reduceIte]
      refine q_if_ne (t := 29) (u := 32) F dX9_plan_26 (by first | exact hR _ _ _ | (constructor <;> omega)) (by decide) rfl (fun c26 => ?_) (fun c26 => ?_)
      · have h47 : im 47 0 s = 1 := by omega
        have hsz := (hsh.2 h47).2
        refine q_aload_n (t := 33) F dX9_plan_32 rfl rfl rfl ?_
        refine g_X9_75 (t := 36) F dX9_plan_33 rfl rfl ?_
        refine q_iload_n (t := 37) F dX9_plan_36 rfl rfl rfl ?_
        first | refine ldN_49 (t := 38) F dX9_plan_37 (by omega) rfl ?_ | refine ld_49 (t := 38) F dX9_plan_37 (by omega) (by omega) rfl ?_
        try simp only [up_app, row_app, scr_app, cpy_app, Nat.reduceEqDiff, Int.reduceToNat, Int.toNat_natCast, and_true, true_and, and_false, false_and, and_self, reduceIte]
        refine q_iconst (t := 39) F dX9_plan_38 rfl ?_
        refine q_irem (t := 40) F dX9_plan_39 (by first | exact hR _ _ _ | (constructor <;> omega)) (by first | exact hR _ _ _ | (constructor <;> omega)) (by omega) (by omega) rfl ?_
        refine q_if_eq (t := 43) (u := 46) F dX9_plan_40 (by constructor <;> omega) (by decide) rfl (fun c40 => ?_) (fun c40 => ?_)
        · refine q_iconst (t := 47) F dX9_plan_46 rfl ?_
          refine q_istore_n (t := 48) F dX9_plan_47 rfl (by decide) rfl rfl ?_
          have L48 : ∀ (fz : Nat) (k : Nat), 11 - k < fz → (((4 * k : Nat) : Int) ≤ im 49 0 s ∧ ∀ j, j < k → stepB (im 30 0 12) (im 50 0 (40 * s + 4 * j)) (im 50 0 (40 * s + 4 * j + 1)) (im 50 0 (40 * s + 4 * j + 2)) (im 50 0 (40 * s + 4 * j + 3)) = 1) → Wp M (XR G) ad Y_X9_plan (pI fun x m' => ∃ im' lm', (¬ (((0 : Int) ≤ s ∧ (s : Int) ≤ 3) ∧ 0 ≤ what ∧ what ≤ 1) → x = -2) ∧ (((0 : Int) ≤ s ∧ (s : Int) ≤ 3) ∧ 0 ≤ what ∧ what ≤ 1 → (im 47 0 (Int.toNat s) = 0 → x = -11) ∧ (im 47 0 (Int.toNat s) = 1 → ¬ okP im (Int.toNat s) → x = -2) ∧ (im 47 0 (Int.toNat s) = 1 → okP im (Int.toNat s) → ∃ S, plS im (Int.toNat s) (im 49 0 (Int.toNat s) / 4).toNat S ∧ x = (if what = 0 then bm (S 30 0 9 - im 30 0 9) else alR S (im 30 0 12).toNat))) ∧ RI im' ∧ agS im' im ∧ lgQ lm' lm ∧ m' = (im', rs bt rt, lm')) 48 [some (vR 30 0), some (vI (s : Int)), some (vI what), some (vI ((4 * k : Nat) : Int)), none] [] (im, rs bt rt, lm) := by
            intro fz
            induction fz with
            | zero => intro k h; exact absurd h (Nat.not_lt_zero _)
            | succ fz ih =>
              have ih48 := ih
              intro k hmeas ⟨hk, hall⟩
              refine q_iload_n (t := 49) F dX9_plan_48 rfl rfl rfl ?_
              refine q_aload_n (t := 50) F dX9_plan_49 rfl rfl rfl ?_
              refine g_X9_75 (t := 53) F dX9_plan_50 rfl rfl ?_
              refine q_iload_n (t := 54) F dX9_plan_53 rfl rfl rfl ?_
              first | refine ldN_49 (t := 55) F dX9_plan_54 (by omega) rfl ?_ | refine ld_49 (t := 55) F dX9_plan_54 (by omega) (by omega) rfl ?_
              try simp only [up_app, row_app, scr_app, cpy_app, Nat.reduceEqDiff, Int.reduceToNat, Int.toNat_natCast, and_true, true_and, and_false, false_and, and_self, reduceIte]
              refine q_icmp_ge (t := 58) (u := 80) F dX9_plan_55 (by constructor <;> omega) (by constructor <;> omega) (by decide) rfl (fun c55 => ?_) (fun c55 => ?_)
              · have hok : okP im s := ⟨by omega, fun j hj => hall j (by omega)⟩
                refine q_aload_n (t := 81) F dX9_plan_80 rfl rfl rfl ?_
                refine wp_callV (t := 84) [] F dX9_plan_81 k_X9_laysAside v_X9_laysAside ml_X9_404 rfl rfl rfl rfl (Nat.le_of_ble_eq_true rfl) (by decide) (m_30 (by omega)) (g_X9_laysAside _ G im bt rt lm hR) rfl (kV ?_)
                rintro m' rfl
                refine q_iconst (t := 85) F dX9_plan_84 rfl ?_
                refine q_istore_n (t := 86) F dX9_plan_85 rfl (by decide) rfl rfl ?_
                have L86 : ∀ (fz : Nat) (k : Nat) (S lg : IM), 11 - k < fz → (((4 * k : Nat) : Int) ≤ im 49 0 s ∧ RI S ∧ RC S ∧ AG S 1000 ∧ S 30 0 7 ≤ im 30 0 7 + k ∧ plS im s k S ∧ PK im S ∧ lgQ lg lm) → Wp M (XR G) ad Y_X9_plan (pI fun x m' => ∃ im' lm', (¬ (((0 : Int) ≤ s ∧ (s : Int) ≤ 3) ∧ 0 ≤ what ∧ what ≤ 1) → x = -2) ∧ (((0 : Int) ≤ s ∧ (s : Int) ≤ 3) ∧ 0 ≤ what ∧ what ≤ 1 → (im 47 0 (Int.toNat s) = 0 → x = -11) ∧ (im 47 0 (Int.toNat s) = 1 → ¬ okP im (Int.toNat s) → x = -2) ∧ (im 47 0 (Int.toNat s) = 1 → okP im (Int.toNat s) → ∃ S, plS im (Int.toNat s) (im 49 0 (Int.toNat s) / 4).toNat S ∧ x = (if what = 0 then bm (S 30 0 9 - im 30 0 9) else alR S (im 30 0 12).toNat))) ∧ RI im' ∧ agS im' im ∧ lgQ lm' lm ∧ m' = (im', rs bt rt, lm')) 86 [some (vR 30 0), some (vI (s : Int)), some (vI what), some (vI ((4 * k : Nat) : Int)), none] [] (S, rs bt rt, lg) := by
                  intro fz
                  induction fz with
                  | zero => intro k S lg h; exact absurd h (Nat.not_lt_zero _)
                  | succ fz ih =>
                    have ih86 := ih
                    intro k S lg hmeas ⟨hk, hRS, hRC, hAS, hh7, hpl, hpk, hlg⟩
                    have e49 : S 49 0 s = im 49 0 s := (hpk.1 49 s (by omega) (by omega)).trans (asideI_c im (by omega) (by omega))
                    have e50 : ∀ x, S 50 0 x = im 50 0 x := fun x => (hpk.1 50 x (by omega) (by omega)).trans (asideI_c im (by omega) (by omega))
                    have e12 : S 30 0 12 = im 30 0 12 := (hpk.1 30 12 (by omega) (by omega)).trans (asideI_c im (by omega) (by omega))
                    refine q_iload_n (t := 87) F dX9_plan_86 rfl rfl rfl ?_
                    refine q_aload_n (t := 88) F dX9_plan_87 rfl rfl rfl ?_
                    refine g_X9_75 (t := 91) F dX9_plan_88 rfl rfl ?_
                    refine q_iload_n (t := 92) F dX9_plan_91 rfl rfl rfl ?_
                    first | refine ldN_49 (t := 93) F dX9_plan_92 (by omega) rfl ?_ | refine ld_49 (t := 93) F dX9_plan_92 (by omega) (by omega) rfl ?_
                    try simp only [up_app, row_app, scr_app, cpy_app, Nat.reduceEqDiff, Int.reduceToNat, Int.toNat_natCast, and_true, true_and, and_false, false_and, and_self, reduceIte]
                    rw [e49]
                    refine q_icmp_ge (t := 96) (u := 239) F dX9_plan_93 (by constructor <;> omega) (by constructor <;> omega) (by decide) rfl (fun c93 => ?_) (fun c93 => ?_)
                    · refine q_aload_n (t := 240) F dX9_plan_239 rfl rfl rfl ?_
                      refine wp_callV (t := 243) [] F dX9_plan_240 k_X9_stuckAll v_X9_stuckAll ml_X9_427 rfl rfl rfl rfl (Nat.le_of_ble_eq_true rfl) (by decide) (m_30 (by omega)) (c_X9_stuckAll _ G S bt rt lg hRC) rfl (kI ?_)
                      rintro x240 m' ⟨hx240, rfl⟩
                      refine q_istore_n (t := 244) F dX9_plan_243 rfl (by decide) rfl rfl ?_
                      refine q_aload_n (t := 245) F dX9_plan_244 rfl rfl rfl ?_
                      refine wp_callV (t := 248) [] F dX9_plan_245 k_X9_laysBack v_X9_laysBack ml_X9_407 rfl rfl rfl rfl (Nat.le_of_ble_eq_true rfl) (by decide) (m_30 (by omega)) (g_X9_laysBack _ G S bt rt lg hRS) rfl (kV ?_)
                      rintro m' rfl
                      refine q_iload_n (t := 249) F dX9_plan_248 rfl rfl rfl ?_
                      refine q_if_ne (t := 252) (u := 259) F dX9_plan_249 (by first | exact hR _ _ _ | (constructor <;> omega)) (by decide) rfl (fun c249 => ?_) (fun c249 => ?_)
                      · refine q_iload_n (t := 260) F dX9_plan_259 rfl rfl rfl ?_
                        refine q_iret F dX9_plan_260 rfl ?_
                        first
                          | exact ⟨_, rfl, im, lm, fun _ => rfl, fun z => absurd z (by omega), hR, agS_rfl im, lgQ_rfl lm, rfl⟩
                          | exact ⟨_, rfl, im, lm, fun z => absurd (by omega) z, fun _ => ⟨fun _ => rfl, fun z => absurd z (by (try rw [ets]); omega), fun z => absurd z (by (try rw [ets]); omega)⟩, hR, agS_rfl im, lgQ_rfl lm, rfl⟩
                          | exact ⟨_, rfl, im, lm, fun z => absurd (by omega) z, fun _ => ⟨fun z => absurd z (by (try rw [ets]); omega), fun _ _ => rfl, fun _ z => absurd z.1 (by (try rw [ets]); omega)⟩, hR, agS_rfl im, lgQ_rfl lm, rfl⟩
                          | exact ⟨_, rfl, im, lm, fun z => absurd (by omega) z, fun _ => ⟨fun z => absurd z (by (try rw [ets]); omega), fun _ _ => rfl, fun _ z => by (try rw [ets] at z); have := z.2 k (by omega); omega⟩, hR, agS_rfl im, lgQ_rfl lm, rfl⟩
                          | (have ek : (im 49 0 s / 4).toNat = k := by omega
                             have e39 : S 30 0 39 = im 30 0 9 := (hpk.1 30 39 (by omega) (by omega)).trans rfl
                             refine ⟨_, rfl, _, lg, fun z => absurd (by omega) z, fun _ => ⟨fun z => absurd z (by (try rw [ets]); omega), fun _ z => absurd (by (try rw [ets]); exact hok) z, fun _ _ => ⟨S, by (try rw [ets]); rw [ek]; exact hpl, ?_⟩⟩, backI_RI hRS, (backI_R hpk.1 hpk.2).S, hlg, rfl⟩
                             first
                               | (rw [if_pos (by omega)]
                                  show bm (S 30 0 9 - S 30 0 39) = _
                                  rw [e39])
                               | (rw [if_neg (by omega), hx240, e12]))
                      · refine q_aload_n (t := 253) F dX9_plan_252 rfl rfl rfl ?_
                        refine g_X9_401 (t := 256) F dX9_plan_253 rfl rfl ?_
                        try simp only [up_app, row_app, scr_app, cpy_app, Nat.reduceEqDiff, Int.reduceToNat, Int.toNat_natCast, and_true, true_and, and_false, false_and, and_self, reduceIte]
                        refine q_goto (t := 260) F dX9_plan_256 (by decide) ?_
                        refine q_iret F dX9_plan_260 rfl ?_
                        first
                          | exact ⟨_, rfl, im, lm, fun _ => rfl, fun z => absurd z (by omega), hR, agS_rfl im, lgQ_rfl lm, rfl⟩
                          | exact ⟨_, rfl, im, lm, fun z => absurd (by omega) z, fun _ => ⟨fun _ => rfl, fun z => absurd z (by (try rw [ets]); omega), fun z => absurd z (by (try rw [ets]); omega)⟩, hR, agS_rfl im, lgQ_rfl lm, rfl⟩
                          | exact ⟨_, rfl, im, lm, fun z => absurd (by omega) z, fun _ => ⟨fun z => absurd z (by (try rw [ets]); omega), fun _ _ => rfl, fun _ z => absurd z.1 (by (try rw [ets]); omega)⟩, hR, agS_rfl im, lgQ_rfl lm, rfl⟩
                          | exact ⟨_, rfl, im, lm, fun z => absurd (by omega) z, fun _ => ⟨fun z => absurd z (by (try rw [ets]); omega), fun _ _ => rfl, fun _ z => by (try rw [ets] at z); have := z.2 k (by omega); omega⟩, hR, agS_rfl im, lgQ_rfl lm, rfl⟩
                          | (have ek : (im 49 0 s / 4).toNat = k := by omega
                             have e39 : S 30 0 39 = im 30 0 9 := (hpk.1 30 39 (by omega) (by omega)).trans rfl
                             refine ⟨_, rfl, _, lg, fun z => absurd (by omega) z, fun _ => ⟨fun z => absurd z (by (try rw [ets]); omega), fun _ z => absurd (by (try rw [ets]); exact hok) z, fun _ _ => ⟨S, by (try rw [ets]); rw [ek]; exact hpl, ?_⟩⟩, backI_RI hRS, (backI_R hpk.1 hpk.2).S, hlg, rfl⟩
                             first
                               | (rw [if_pos (by omega)]
                                  show bm (S 30 0 9 - S 30 0 39) = _
                                  rw [e39])
                               | (rw [if_neg (by omega), hx240, e12]))
                    · have hk40 : 4 * k + 4 ≤ 40 := by omega
                      have hst := hok.2 k (by omega)
                      obtain ⟨a, hi0⟩ : ∃ z, z = im 50 0 (40 * s + 4 * k) := ⟨_, rfl⟩
                      obtain ⟨who, hi1⟩ : ∃ z, z = im 50 0 (40 * s + 4 * k + 1) := ⟨_, rfl⟩
                      obtain ⟨f, hi2⟩ : ∃ z, z = im 50 0 (40 * s + 4 * k + 2) := ⟨_, rfl⟩
                      obtain ⟨g, hi3⟩ : ∃ z, z = im 50 0 (40 * s + 4 * k + 3) := ⟨_, rfl⟩
                      have hps : ∀ S2, agY S2 (tkR S a who f g ((4 * k : Nat) : Int)) → plS im s (k + 1) S2 := fun S2 z => ⟨S, hpl, by rw [← hi0, ← hi1, ← hi2, ← hi3]; exact z⟩
                      rw [← hi0, ← hi1, ← hi2, ← hi3] at hst
                      have hra : ri a := hi0 ▸ hR 50 0 _
                      have hra1 := hra.1
                      have hra2 := hra.2
                      have hpk2 := fun S2 (z : agY S2 (tkR S a who f g ((4 * k : Nat) : Int))) => PK_tk hpk (t := ((4 * k : Nat) : Int)) (by omega) h12 hst z
                      refine q_bipush (t := 98) F dX9_plan_96 (by decide) rfl ?_
                      refine q_iload_n (t := 99) F dX9_plan_98 rfl rfl rfl ?_
                      refine q_imul (t := 100) F dX9_plan_99 rfl ?_
                      refine q_iload_n (t := 101) F dX9_plan_100 rfl rfl rfl ?_
                      refine q_iadd (t := 102) F dX9_plan_101 rfl ?_
                      rw [show (40 : Int) * (s : Int) + ((4 * k : Nat) : Int) = ((40 * s + 4 * k : Nat) : Int) by omega]
                      refine q_istore (t := 104) F dX9_plan_102 (by decide) rfl rfl ?_
                      refine q_aload_n (t := 105) F dX9_plan_104 rfl rfl rfl ?_
                      refine g_X9_78 (t := 108) F dX9_plan_105 rfl rfl ?_
                      refine q_iload (t := 110) F dX9_plan_108 rfl rfl ?_
                      first | refine ldN_50 (t := 111) F dX9_plan_110 (by omega) rfl ?_ | refine ld_50 (t := 111) F dX9_plan_110 (by omega) (by omega) rfl ?_
                      try simp only [up_app, row_app, scr_app, cpy_app, Nat.reduceEqDiff, Int.reduceToNat, Int.toNat_natCast, and_true, true_and, and_false, false_and, and_self, reduceIte]
                      rw [e50, ← hi0]
                      refine q_if_ne (t := 114) (u := 149) F dX9_plan_111 (by first | exact hR _ _ _ | (constructor <;> omega)) (by decide) rfl (fun c111 => ?_) (fun c111 => ?_)
                      · refine q_aload_n (t := 150) F dX9_plan_149 rfl rfl rfl ?_
                        refine g_X9_78 (t := 153) F dX9_plan_150 rfl rfl ?_
                        refine q_iload (t := 155) F dX9_plan_153 rfl rfl ?_
                        first | refine ldN_50 (t := 156) F dX9_plan_155 (by omega) rfl ?_ | refine ld_50 (t := 156) F dX9_plan_155 (by omega) (by omega) rfl ?_
                        try simp only [up_app, row_app, scr_app, cpy_app, Nat.reduceEqDiff, Int.reduceToNat, Int.toNat_natCast, and_true, true_and, and_false, false_and, and_self, reduceIte]
                        rw [e50, ← hi0]
                        refine q_iconst (t := 157) F dX9_plan_156 rfl ?_
                        refine q_icmp_ne (t := 160) (u := 191) F dX9_plan_157 (by constructor <;> omega) (by constructor <;> omega) (by decide) rfl (fun c157 => ?_) (fun c157 => ?_)
                        · refine q_aload_n (t := 192) F dX9_plan_191 rfl rfl rfl ?_
                          refine g_X9_78 (t := 195) F dX9_plan_192 rfl rfl ?_
                          refine q_iload (t := 197) F dX9_plan_195 rfl rfl ?_
                          first | refine ldN_50 (t := 198) F dX9_plan_197 (by omega) rfl ?_ | refine ld_50 (t := 198) F dX9_plan_197 (by omega) (by omega) rfl ?_
                          try simp only [up_app, row_app, scr_app, cpy_app, Nat.reduceEqDiff, Int.reduceToNat, Int.toNat_natCast, and_true, true_and, and_false, false_and, and_self, reduceIte]
                          rw [e50, ← hi0]
                          refine q_iconst (t := 199) F dX9_plan_198 rfl ?_
                          refine q_icmp_ne (t := 202) (u := 228) F dX9_plan_199 (by constructor <;> omega) (by constructor <;> omega) (by decide) rfl (fun c199 => ?_) (fun c199 => ?_)
                          · refine q_aload_n (t := 229) F dX9_plan_228 rfl rfl rfl ?_
                            refine q_iload_n (t := 230) F dX9_plan_229 rfl rfl rfl ?_
                            refine wp_callV (t := 233) [_] F dX9_plan_230 k_X9_lives v_X9_lives ml_X9_391 rfl rfl rfl rfl (Nat.le_of_ble_eq_true rfl) (by decide) (m_30 (by omega)) (c_X9_lives _ G S bt rt lg hRC hAS ((4 * k : Nat) : Int) (by constructor <;> omega) (by omega)) rfl (kV ?_)
                            rintro m' ⟨im2, lg2, hR2, hag2, hlg2, rfl⟩
                            have hk := RC_hr (t := ((4 * k : Nat) : Int)) (by omega) hRC hAS (by omega) hR2 hag2
                            refine q_iinc (t := 236) F dX9_plan_233 rfl (by decide) rfl rfl ?_
                            refine q_goto (t := 86) F dX9_plan_236 (by decide) ?_
                            refine wp_less 4 ?_
                            rw [show ((4 * k : Nat) : Int) + 4 = ((4 * (k + 1) : Nat) : Int) by omega]
                            first
                              | (have ek : agY (spR S im2 who.toNat f g) (tkR S a who f g ((4 * k : Nat) : Int)) := by
                                   unfold tkR
                                   rw [if_pos (by omega)]
                                   exact spR_ag hag2 _ _ _
                                 have hrc := RC_say hRC hR2 hag2 (p := who.toNat) (w := f) (fd := g) (by omega)
                                 exact ih86 (k + 1) _ lg2 (by omega) ⟨by omega, hrc.1, hrc, AG_say hAS hag2 _ _ _, by (have e7 : spR S im2 who.toNat f g 30 0 7 = S 30 0 7 := by unfold spR; split <;> exact hag2 30 0 7 (by omega)); rw [e7]; omega, hps _ ek, hpk2 _ ek, hlg2.trans hlg⟩)
                              | (have ek : agY (up S 36 0 (10 * who.toNat + f.toNat) (-1)) (tkR S a who f g ((4 * k : Nat) : Int)) := by
                                   unfold tkR
                                   rw [if_neg (by omega), if_pos (by omega)]
                                   exact agY_rfl _
                                 have hrc := RC_out hRC (s := 10 * who.toNat + f.toNat)
                                 exact ih86 (k + 1) _ lg (by omega) ⟨by omega, hrc.1, hrc, AG_out hAS _, by (show S 30 0 7 ≤ _); omega, hps _ ek, hpk2 _ ek, hlg⟩)
                              | (have ek : agY (hnR S who.toNat f.toNat 10) (tkR S a who f g ((4 * k : Nat) : Int)) := by
                                   unfold tkR
                                   rw [if_neg (by omega), if_neg (by omega), if_pos (by omega)]
                                   exact agY_rfl _
                                 have hrc := RC_hn hRC (p := who.toNat) (q := f.toNat) (by omega) (by omega)
                                 exact ih86 (k + 1) _ lg (by omega) ⟨by omega, hrc.1, hrc, AG_hn hAS _ _, by (show S 30 0 7 ≤ _); omega, hps _ ek, hpk2 _ ek, hlg⟩)
                              | (have ek : agY im2 (tkR S a who f g ((4 * k : Nat) : Int)) := by
                                   unfold tkR
                                   rw [if_neg (by omega), if_neg (by omega), if_neg (by omega)]
                                   exact hag2
                                 have e7 : im2 30 0 7 = S 30 0 7 + 1 := (hag2 30 0 7 (by omega)).trans (by rw [up_app, if_pos ⟨rfl, rfl, rfl⟩])
                                 exact ih86 (k + 1) _ lg2 (by omega) ⟨by omega, hR2, hk.1, hk.2, by omega, hps _ ek, hpk2 _ ek, hlg2.trans hlg⟩)
                          · have hqq : (0 ≤ who ∧ who < im 30 0 12) ∧ (0 ≤ f ∧ f < im 30 0 12) ∧ f ≠ who := by
                              unfold stepB at hst
                              (repeat' split at hst) <;> omega
                            refine q_aload_n (t := 203) F dX9_plan_202 rfl rfl rfl ?_
                            refine q_aload_n (t := 204) F dX9_plan_203 rfl rfl rfl ?_
                            refine g_X9_78 (t := 207) F dX9_plan_204 rfl rfl ?_
                            refine q_iload (t := 209) F dX9_plan_207 rfl rfl ?_
                            refine q_iconst (t := 210) F dX9_plan_209 rfl ?_
                            refine q_iadd (t := 211) F dX9_plan_210 rfl ?_
                            rw [show ((40 * s + 4 * k : Nat) : Int) + 1 = ((40 * s + 4 * k + 1 : Nat) : Int) by omega]
                            first | refine ldN_50 (t := 212) F dX9_plan_211 (by omega) rfl ?_ | refine ld_50 (t := 212) F dX9_plan_211 (by omega) (by omega) rfl ?_
                            try simp only [up_app, row_app, scr_app, cpy_app, Nat.reduceEqDiff, Int.reduceToNat, Int.toNat_natCast, and_true, true_and, and_false, false_and, and_self, reduceIte]
                            rw [e50, ← hi1]
                            rw [show vI who = vI ((who.toNat : Nat) : Int) by rw [Int.toNat_of_nonneg (by omega)]]
                            refine q_aload_n (t := 213) F dX9_plan_212 rfl rfl rfl ?_
                            refine g_X9_78 (t := 216) F dX9_plan_213 rfl rfl ?_
                            refine q_iload (t := 218) F dX9_plan_216 rfl rfl ?_
                            refine q_iconst (t := 219) F dX9_plan_218 rfl ?_
                            refine q_iadd (t := 220) F dX9_plan_219 rfl ?_
                            rw [show ((40 * s + 4 * k : Nat) : Int) + 2 = ((40 * s + 4 * k + 2 : Nat) : Int) by omega]
                            first | refine ldN_50 (t := 221) F dX9_plan_220 (by omega) rfl ?_ | refine ld_50 (t := 221) F dX9_plan_220 (by omega) (by omega) rfl ?_
                            try simp only [up_app, row_app, scr_app, cpy_app, Nat.reduceEqDiff, Int.reduceToNat, Int.toNat_natCast, and_true, true_and, and_false, false_and, and_self, reduceIte]
                            rw [e50, ← hi2]
                            rw [show vI f = vI ((f.toNat : Nat) : Int) by rw [Int.toNat_of_nonneg (by omega)]]
                            refine wp_callV (t := 224) [_, _] F dX9_plan_221 k_X9_hands v_X9_hands ml_X9_367 rfl rfl rfl rfl (Nat.le_of_ble_eq_true rfl) (by decide) (m_30 (by omega)) (c_X9_hands _ G S bt rt lg hRS who.toNat f.toNat (by omega) (by omega) (by omega)) rfl (kI ?_)
                            rintro x221 m' ⟨hx221, rfl⟩
                            refine q_popI (t := 225) F dX9_plan_224 rfl ?_
                            refine q_goto (t := 233) F dX9_plan_225 (by decide) ?_
                            refine q_iinc (t := 236) F dX9_plan_233 rfl (by decide) rfl rfl ?_
                            refine q_goto (t := 86) F dX9_plan_236 (by decide) ?_
                            refine wp_less 4 ?_
                            rw [show ((4 * k : Nat) : Int) + 4 = ((4 * (k + 1) : Nat) : Int) by omega]
                            first
                              | (have ek : agY (spR S im2 who.toNat f g) (tkR S a who f g ((4 * k : Nat) : Int)) := by
                                   unfold tkR
                                   rw [if_pos (by omega)]
                                   exact spR_ag hag2 _ _ _
                                 have hrc := RC_say hRC hR2 hag2 (p := who.toNat) (w := f) (fd := g) (by omega)
                                 exact ih86 (k + 1) _ lg2 (by omega) ⟨by omega, hrc.1, hrc, AG_say hAS hag2 _ _ _, by (have e7 : spR S im2 who.toNat f g 30 0 7 = S 30 0 7 := by unfold spR; split <;> exact hag2 30 0 7 (by omega)); rw [e7]; omega, hps _ ek, hpk2 _ ek, hlg2.trans hlg⟩)
                              | (have ek : agY (up S 36 0 (10 * who.toNat + f.toNat) (-1)) (tkR S a who f g ((4 * k : Nat) : Int)) := by
                                   unfold tkR
                                   rw [if_neg (by omega), if_pos (by omega)]
                                   exact agY_rfl _
                                 have hrc := RC_out hRC (s := 10 * who.toNat + f.toNat)
                                 exact ih86 (k + 1) _ lg (by omega) ⟨by omega, hrc.1, hrc, AG_out hAS _, by (show S 30 0 7 ≤ _); omega, hps _ ek, hpk2 _ ek, hlg⟩)
                              | (have ek : agY (hnR S who.toNat f.toNat 10) (tkR S a who f g ((4 * k : Nat) : Int)) := by
                                   unfold tkR
                                   rw [if_neg (by omega), if_neg (by omega), if_pos (by omega)]
                                   exact agY_rfl _
                                 have hrc := RC_hn hRC (p := who.toNat) (q := f.toNat) (by omega) (by omega)
                                 exact ih86 (k + 1) _ lg (by omega) ⟨by omega, hrc.1, hrc, AG_hn hAS _ _, by (show S 30 0 7 ≤ _); omega, hps _ ek, hpk2 _ ek, hlg⟩)
                              | (have ek : agY im2 (tkR S a who f g ((4 * k : Nat) : Int)) := by
                                   unfold tkR
                                   rw [if_neg (by omega), if_neg (by omega), if_neg (by omega)]
                                   exact hag2
                                 have e7 : im2 30 0 7 = S 30 0 7 + 1 := (hag2 30 0 7 (by omega)).trans (by rw [up_app, if_pos ⟨rfl, rfl, rfl⟩])
                                 exact ih86 (k + 1) _ lg2 (by omega) ⟨by omega, hR2, hk.1, hk.2, by omega, hps _ ek, hpk2 _ ek, hlg2.trans hlg⟩)
                        · have hqq : (0 ≤ who ∧ who < im 30 0 12) ∧ (0 ≤ f ∧ f < 10) := by
                            unfold stepB at hst
                            (repeat' split at hst) <;> omega
                          refine q_aload_n (t := 161) F dX9_plan_160 rfl rfl rfl ?_
                          refine g_X9_32 (t := 164) F dX9_plan_161 rfl rfl ?_
                          refine q_bipush (t := 166) F dX9_plan_164 (by decide) rfl ?_
                          refine q_aload_n (t := 167) F dX9_plan_166 rfl rfl rfl ?_
                          refine g_X9_78 (t := 170) F dX9_plan_167 rfl rfl ?_
                          refine q_iload (t := 172) F dX9_plan_170 rfl rfl ?_
                          refine q_iconst (t := 173) F dX9_plan_172 rfl ?_
                          refine q_iadd (t := 174) F dX9_plan_173 rfl ?_
                          rw [show ((40 * s + 4 * k : Nat) : Int) + 1 = ((40 * s + 4 * k + 1 : Nat) : Int) by omega]
                          first | refine ldN_50 (t := 175) F dX9_plan_174 (by omega) rfl ?_ | refine ld_50 (t := 175) F dX9_plan_174 (by omega) (by omega) rfl ?_
                          try simp only [up_app, row_app, scr_app, cpy_app, Nat.reduceEqDiff, Int.reduceToNat, Int.toNat_natCast, and_true, true_and, and_false, false_and, and_self, reduceIte]
                          rw [e50, ← hi1]
                          refine q_imul (t := 176) F dX9_plan_175 rfl ?_
                          refine q_aload_n (t := 177) F dX9_plan_176 rfl rfl rfl ?_
                          refine g_X9_78 (t := 180) F dX9_plan_177 rfl rfl ?_
                          refine q_iload (t := 182) F dX9_plan_180 rfl rfl ?_
                          refine q_iconst (t := 183) F dX9_plan_182 rfl ?_
                          refine q_iadd (t := 184) F dX9_plan_183 rfl ?_
                          rw [show ((40 * s + 4 * k : Nat) : Int) + 2 = ((40 * s + 4 * k + 2 : Nat) : Int) by omega]
                          first | refine ldN_50 (t := 185) F dX9_plan_184 (by omega) rfl ?_ | refine ld_50 (t := 185) F dX9_plan_184 (by omega) (by omega) rfl ?_
                          try simp only [up_app, row_app, scr_app, cpy_app, Nat.reduceEqDiff, Int.reduceToNat, Int.toNat_natCast, and_true, true_and, and_false, false_and, and_self, reduceIte]
                          rw [e50, ← hi2]
                          refine q_iadd (t := 186) F dX9_plan_185 rfl ?_
                          refine q_iconst (t := 187) F dX9_plan_186 rfl ?_
                          rw [show (10 : Int) * who + f = ((10 * who.toNat + f.toNat : Nat) : Int) by omega]
                          first | refine stN_36 (t := 188) F dX9_plan_187 (by omega) rfl ?_ | refine st_36 (t := 188) F dX9_plan_187 (by omega) (by omega) rfl ?_
                          refine q_goto (t := 233) F dX9_plan_188 (by decide) ?_
                          refine q_iinc (t := 236) F dX9_plan_233 rfl (by decide) rfl rfl ?_
                          refine q_goto (t := 86) F dX9_plan_236 (by decide) ?_
                          refine wp_less 4 ?_
                          rw [show ((4 * k : Nat) : Int) + 4 = ((4 * (k + 1) : Nat) : Int) by omega]
                          first
                            | (have ek : agY (spR S im2 who.toNat f g) (tkR S a who f g ((4 * k : Nat) : Int)) := by
                                 unfold tkR
                                 rw [if_pos (by omega)]
                                 exact spR_ag hag2 _ _ _
                               have hrc := RC_say hRC hR2 hag2 (p := who.toNat) (w := f) (fd := g) (by omega)
                               exact ih86 (k + 1) _ lg2 (by omega) ⟨by omega, hrc.1, hrc, AG_say hAS hag2 _ _ _, by (have e7 : spR S im2 who.toNat f g 30 0 7 = S 30 0 7 := by unfold spR; split <;> exact hag2 30 0 7 (by omega)); rw [e7]; omega, hps _ ek, hpk2 _ ek, hlg2.trans hlg⟩)
                            | (have ek : agY (up S 36 0 (10 * who.toNat + f.toNat) (-1)) (tkR S a who f g ((4 * k : Nat) : Int)) := by
                                 unfold tkR
                                 rw [if_neg (by omega), if_pos (by omega)]
                                 exact agY_rfl _
                               have hrc := RC_out hRC (s := 10 * who.toNat + f.toNat)
                               exact ih86 (k + 1) _ lg (by omega) ⟨by omega, hrc.1, hrc, AG_out hAS _, by (show S 30 0 7 ≤ _); omega, hps _ ek, hpk2 _ ek, hlg⟩)
                            | (have ek : agY (hnR S who.toNat f.toNat 10) (tkR S a who f g ((4 * k : Nat) : Int)) := by
                                 unfold tkR
                                 rw [if_neg (by omega), if_neg (by omega), if_pos (by omega)]
                                 exact agY_rfl _
                               have hrc := RC_hn hRC (p := who.toNat) (q := f.toNat) (by omega) (by omega)
                               exact ih86 (k + 1) _ lg (by omega) ⟨by omega, hrc.1, hrc, AG_hn hAS _ _, by (show S 30 0 7 ≤ _); omega, hps _ ek, hpk2 _ ek, hlg⟩)
                            | (have ek : agY im2 (tkR S a who f g ((4 * k : Nat) : Int)) := by
                                 unfold tkR
                                 rw [if_neg (by omega), if_neg (by omega), if_neg (by omega)]
                                 exact hag2
                               have e7 : im2 30 0 7 = S 30 0 7 + 1 := (hag2 30 0 7 (by omega)).trans (by rw [up_app, if_pos ⟨rfl, rfl, rfl⟩])
                               exact ih86 (k + 1) _ lg2 (by omega) ⟨by omega, hR2, hk.1, hk.2, by omega, hps _ ek, hpk2 _ ek, hlg2.trans hlg⟩)
                      · have hqq : (0 ≤ who ∧ who < im 30 0 12) ∧ (0 ≤ f ∧ f < 16) ∧ 0 ≤ g ∧ g < 10 := by
                          unfold stepB at hst
                          (repeat' split at hst) <;> omega
                        refine q_aload_n (t := 115) F dX9_plan_114 rfl rfl rfl ?_
                        refine q_aload_n (t := 116) F dX9_plan_115 rfl rfl rfl ?_
                        refine g_X9_78 (t := 119) F dX9_plan_116 rfl rfl ?_
                        refine q_iload (t := 121) F dX9_plan_119 rfl rfl ?_
                        refine q_iconst (t := 122) F dX9_plan_121 rfl ?_
                        refine q_iadd (t := 123) F dX9_plan_122 rfl ?_
                        rw [show ((40 * s + 4 * k : Nat) : Int) + 1 = ((40 * s + 4 * k + 1 : Nat) : Int) by omega]
                        first | refine ldN_50 (t := 124) F dX9_plan_123 (by omega) rfl ?_ | refine ld_50 (t := 124) F dX9_plan_123 (by omega) (by omega) rfl ?_
                        try simp only [up_app, row_app, scr_app, cpy_app, Nat.reduceEqDiff, Int.reduceToNat, Int.toNat_natCast, and_true, true_and, and_false, false_and, and_self, reduceIte]
                        rw [e50, ← hi1]
                        refine q_aload_n (t := 125) F dX9_plan_124 rfl rfl rfl ?_
                        refine g_X9_78 (t := 128) F dX9_plan_125 rfl rfl ?_
                        refine q_iload (t := 130) F dX9_plan_128 rfl rfl ?_
                        refine q_iconst (t := 131) F dX9_plan_130 rfl ?_
                        refine q_iadd (t := 132) F dX9_plan_131 rfl ?_
                        rw [show ((40 * s + 4 * k : Nat) : Int) + 2 = ((40 * s + 4 * k + 2 : Nat) : Int) by omega]
                        first | refine ldN_50 (t := 133) F dX9_plan_132 (by omega) rfl ?_ | refine ld_50 (t := 133) F dX9_plan_132 (by omega) (by omega) rfl ?_
                        try simp only [up_app, row_app, scr_app, cpy_app, Nat.reduceEqDiff, Int.reduceToNat, Int.toNat_natCast, and_true, true_and, and_false, false_and, and_self, reduceIte]
                        rw [e50, ← hi2]
                        refine q_aload_n (t := 134) F dX9_plan_133 rfl rfl rfl ?_
                        refine g_X9_78 (t := 137) F dX9_plan_134 rfl rfl ?_
                        refine q_iload (t := 139) F dX9_plan_137 rfl rfl ?_
                        refine q_iconst (t := 140) F dX9_plan_139 rfl ?_
                        refine q_iadd (t := 141) F dX9_plan_140 rfl ?_
                        rw [show ((40 * s + 4 * k : Nat) : Int) + 3 = ((40 * s + 4 * k + 3 : Nat) : Int) by omega]
                        first | refine ldN_50 (t := 142) F dX9_plan_141 (by omega) rfl ?_ | refine ld_50 (t := 142) F dX9_plan_141 (by omega) (by omega) rfl ?_
                        try simp only [up_app, row_app, scr_app, cpy_app, Nat.reduceEqDiff, Int.reduceToNat, Int.toNat_natCast, and_true, true_and, and_false, false_and, and_self, reduceIte]
                        rw [e50, ← hi3]
                        rw [show vI who = vI ((who.toNat : Nat) : Int) by rw [Int.toNat_of_nonneg (by omega)]]
                        refine wp_callV (t := 145) [_, _, _] F dX9_plan_142 k_X9_speaks v_X9_speaks ml_X9_364 rfl rfl rfl rfl (Nat.le_of_ble_eq_true rfl) (by decide) (m_30 (by omega)) (c_X9_speaks _ G S bt rt lg hRC who.toNat (by omega) f g (by constructor <;> omega) (by constructor <;> omega)) rfl (kI ?_)
                        rintro x142 m' ⟨im2, lg2, hx142, hR2, hag2, hlg2, rfl⟩
                        refine q_popI (t := 146) F dX9_plan_145 rfl ?_
                        refine q_goto (t := 233) F dX9_plan_146 (by decide) ?_
                        refine q_iinc (t := 236) F dX9_plan_233 rfl (by decide) rfl rfl ?_
                        refine q_goto (t := 86) F dX9_plan_236 (by decide) ?_
                        refine wp_less 4 ?_
                        rw [show ((4 * k : Nat) : Int) + 4 = ((4 * (k + 1) : Nat) : Int) by omega]
                        first
                          | (have ek : agY (spR S im2 who.toNat f g) (tkR S a who f g ((4 * k : Nat) : Int)) := by
                               unfold tkR
                               rw [if_pos (by omega)]
                               exact spR_ag hag2 _ _ _
                             have hrc := RC_say hRC hR2 hag2 (p := who.toNat) (w := f) (fd := g) (by omega)
                             exact ih86 (k + 1) _ lg2 (by omega) ⟨by omega, hrc.1, hrc, AG_say hAS hag2 _ _ _, by (have e7 : spR S im2 who.toNat f g 30 0 7 = S 30 0 7 := by unfold spR; split <;> exact hag2 30 0 7 (by omega)); rw [e7]; omega, hps _ ek, hpk2 _ ek, hlg2.trans hlg⟩)
                          | (have ek : agY (up S 36 0 (10 * who.toNat + f.toNat) (-1)) (tkR S a who f g ((4 * k : Nat) : Int)) := by
                               unfold tkR
                               rw [if_neg (by omega), if_pos (by omega)]
                               exact agY_rfl _
                             have hrc := RC_out hRC (s := 10 * who.toNat + f.toNat)
                             exact ih86 (k + 1) _ lg (by omega) ⟨by omega, hrc.1, hrc, AG_out hAS _, by (show S 30 0 7 ≤ _); omega, hps _ ek, hpk2 _ ek, hlg⟩)
                          | (have ek : agY (hnR S who.toNat f.toNat 10) (tkR S a who f g ((4 * k : Nat) : Int)) := by
                               unfold tkR
                               rw [if_neg (by omega), if_neg (by omega), if_pos (by omega)]
                               exact agY_rfl _
                             have hrc := RC_hn hRC (p := who.toNat) (q := f.toNat) (by omega) (by omega)
                             exact ih86 (k + 1) _ lg (by omega) ⟨by omega, hrc.1, hrc, AG_hn hAS _ _, by (show S 30 0 7 ≤ _); omega, hps _ ek, hpk2 _ ek, hlg⟩)
                          | (have ek : agY im2 (tkR S a who f g ((4 * k : Nat) : Int)) := by
                               unfold tkR
                               rw [if_neg (by omega), if_neg (by omega), if_neg (by omega)]
                               exact hag2
                             have e7 : im2 30 0 7 = S 30 0 7 + 1 := (hag2 30 0 7 (by omega)).trans (by rw [up_app, if_pos ⟨rfl, rfl, rfl⟩])
                             exact ih86 (k + 1) _ lg2 (by omega) ⟨by omega, hR2, hk.1, hk.2, by omega, hps _ ek, hpk2 _ ek, hlg2.trans hlg⟩)
                exact L86 _ 0 (asideI im) lm (Nat.lt_succ_self _) ⟨by omega, hRa, hRCa, hAa, by omega, agY_rfl _, PK_0 (agY_rfl _), lgQ_rfl lm⟩
              · refine q_aload_n (t := 59) F dX9_plan_58 rfl rfl rfl ?_
                refine q_bipush (t := 61) F dX9_plan_59 (by decide) rfl ?_
                refine q_iload_n (t := 62) F dX9_plan_61 rfl rfl rfl ?_
                refine q_imul (t := 63) F dX9_plan_62 rfl ?_
                refine q_iload_n (t := 64) F dX9_plan_63 rfl rfl rfl ?_
                refine q_iadd (t := 65) F dX9_plan_64 rfl ?_
                rw [show (40 : Int) * (s : Int) + ((4 * k : Nat) : Int) = ((40 * s + 4 * k : Nat) : Int) by omega]
                refine wp_callV (t := 68) [_] F dX9_plan_65 k_X9_isRow v_X9_isRow ml_X9_424 rfl rfl rfl rfl (Nat.le_of_ble_eq_true rfl) (by decide) (m_30 (by omega)) (c_X9_isRow _ G im bt rt lm h (40 * s + 4 * k) (by omega) _ _ _ _ rfl rfl rfl rfl) rfl (kI ?_)
                rintro x65 m' ⟨hx65, rfl⟩
                have hx65b := stepB_in (im 30 0 12) (im 50 0 (40 * s + 4 * k)) (im 50 0 (40 * s + 4 * k + 1)) (im 50 0 (40 * s + 4 * k + 2)) (im 50 0 (40 * s + 4 * k + 3))
                rw [← hx65] at hx65b
                refine q_if_ne (t := 71) (u := 74) F dX9_plan_68 (by first | exact hR _ _ _ | (constructor <;> omega)) (by decide) rfl (fun c68 => ?_) (fun c68 => ?_)
                · refine q_iinc (t := 77) F dX9_plan_74 rfl (by decide) rfl rfl ?_
                  refine q_goto (t := 48) F dX9_plan_77 (by decide) ?_
                  rw [show ((4 * k : Nat) : Int) + 4 = ((4 * (k + 1) : Nat) : Int) by omega]
                  refine ih48 (k + 1) (by omega) ⟨by omega, fun j hj => ?_⟩
                  by_cases e : j = k
                  · rw [e, ← hx65]
                    omega
                  · exact hall j (by omega)
                · refine q_bipush (t := 73) F dX9_plan_71 (by decide) rfl ?_
                  refine q_iret F dX9_plan_73 rfl ?_
                  first
                    | exact ⟨_, rfl, im, lm, fun _ => rfl, fun z => absurd z (by omega), hR, agS_rfl im, lgQ_rfl lm, rfl⟩
                    | exact ⟨_, rfl, im, lm, fun z => absurd (by omega) z, fun _ => ⟨fun _ => rfl, fun z => absurd z (by (try rw [ets]); omega), fun z => absurd z (by (try rw [ets]); omega)⟩, hR, agS_rfl im, lgQ_rfl lm, rfl⟩
                    | exact ⟨_, rfl, im, lm, fun z => absurd (by omega) z, fun _ => ⟨fun z => absurd z (by (try rw [ets]); omega), fun _ _ => rfl, fun _ z => absurd z.1 (by (try rw [ets]); omega)⟩, hR, agS_rfl im, lgQ_rfl lm, rfl⟩
                    | exact ⟨_, rfl, im, lm, fun z => absurd (by omega) z, fun _ => ⟨fun z => absurd z (by (try rw [ets]); omega), fun _ _ => rfl, fun _ z => by (try rw [ets] at z); have := z.2 k (by omega); omega⟩, hR, agS_rfl im, lgQ_rfl lm, rfl⟩
                    | (have ek : (im 49 0 s / 4).toNat = k := by omega
                       have e39 : S 30 0 39 = im 30 0 9 := (hpk.1 30 39 (by omega) (by omega)).trans rfl
                       refine ⟨_, rfl, _, lg, fun z => absurd (by omega) z, fun _ => ⟨fun z => absurd z (by (try rw [ets]); omega), fun _ z => absurd (by (try rw [ets]); exact hok) z, fun _ _ => ⟨S, by (try rw [ets]); rw [ek]; exact hpl, ?_⟩⟩, backI_RI hRS, (backI_R hpk.1 hpk.2).S, hlg, rfl⟩
                       first
                         | (rw [if_pos (by omega)]
                            show bm (S 30 0 9 - S 30 0 39) = _
                            rw [e39])
                         | (rw [if_neg (by omega), hx240, e12]))
          exact L48 _ 0 (Nat.lt_succ_self _) ⟨by omega, fun j hj => absurd hj (Nat.not_lt_zero j)⟩
        · refine q_bipush (t := 45) F dX9_plan_43 (by decide) rfl ?_
          refine q_iret F dX9_plan_45 rfl ?_
          first
            | exact ⟨_, rfl, im, lm, fun _ => rfl, fun z => absurd z (by omega), hR, agS_rfl im, lgQ_rfl lm, rfl⟩
            | exact ⟨_, rfl, im, lm, fun z => absurd (by omega) z, fun _ => ⟨fun _ => rfl, fun z => absurd z (by (try rw [ets]); omega), fun z => absurd z (by (try rw [ets]); omega)⟩, hR, agS_rfl im, lgQ_rfl lm, rfl⟩
            | exact ⟨_, rfl, im, lm, fun z => absurd (by omega) z, fun _ => ⟨fun z => absurd z (by (try rw [ets]); omega), fun _ _ => rfl, fun _ z => absurd z.1 (by (try rw [ets]); omega)⟩, hR, agS_rfl im, lgQ_rfl lm, rfl⟩
            | exact ⟨_, rfl, im, lm, fun z => absurd (by omega) z, fun _ => ⟨fun z => absurd z (by (try rw [ets]); omega), fun _ _ => rfl, fun _ z => by (try rw [ets] at z); have := z.2 k (by omega); omega⟩, hR, agS_rfl im, lgQ_rfl lm, rfl⟩
            | (have ek : (im 49 0 s / 4).toNat = k := by omega
               have e39 : S 30 0 39 = im 30 0 9 := (hpk.1 30 39 (by omega) (by omega)).trans rfl
               refine ⟨_, rfl, _, lg, fun z => absurd (by omega) z, fun _ => ⟨fun z => absurd z (by (try rw [ets]); omega), fun _ z => absurd (by (try rw [ets]); exact hok) z, fun _ _ => ⟨S, by (try rw [ets]); rw [ek]; exact hpl, ?_⟩⟩, backI_RI hRS, (backI_R hpk.1 hpk.2).S, hlg, rfl⟩
               first
                 | (rw [if_pos (by omega)]
                    show bm (S 30 0 9 - S 30 0 39) = _
                    rw [e39])
                 | (rw [if_neg (by omega), hx240, e12]))
      · refine q_bipush (t := 31) F dX9_plan_29 (by decide) rfl ?_
        refine q_iret F dX9_plan_31 rfl ?_
        first
          | exact ⟨_, rfl, im, lm, fun _ => rfl, fun z => absurd z (by omega), hR, agS_rfl im, lgQ_rfl lm, rfl⟩
          | exact ⟨_, rfl, im, lm, fun z => absurd (by omega) z, fun _ => ⟨fun _ => rfl, fun z => absurd z (by (try rw [ets]); omega), fun z => absurd z (by (try rw [ets]); omega)⟩, hR, agS_rfl im, lgQ_rfl lm, rfl⟩
          | exact ⟨_, rfl, im, lm, fun z => absurd (by omega) z, fun _ => ⟨fun z => absurd z (by (try rw [ets]); omega), fun _ _ => rfl, fun _ z => absurd z.1 (by (try rw [ets]); omega)⟩, hR, agS_rfl im, lgQ_rfl lm, rfl⟩
          | exact ⟨_, rfl, im, lm, fun z => absurd (by omega) z, fun _ => ⟨fun z => absurd z (by (try rw [ets]); omega), fun _ _ => rfl, fun _ z => by (try rw [ets] at z); have := z.2 k (by omega); omega⟩, hR, agS_rfl im, lgQ_rfl lm, rfl⟩
          | (have ek : (im 49 0 s / 4).toNat = k := by omega
             have e39 : S 30 0 39 = im 30 0 9 := (hpk.1 30 39 (by omega) (by omega)).trans rfl
             refine ⟨_, rfl, _, lg, fun z => absurd (by omega) z, fun _ => ⟨fun z => absurd z (by (try rw [ets]); omega), fun _ z => absurd (by (try rw [ets]); exact hok) z, fun _ _ => ⟨S, by (try rw [ets]); rw [ek]; exact hpl, ?_⟩⟩, backI_RI hRS, (backI_R hpk.1 hpk.2).S, hlg, rfl⟩
             first
               | (rw [if_pos (by omega)]
                  show bm (S 30 0 9 - S 30 0 39) = _
                  rw [e39])
               | (rw [if_neg (by omega), hx240, e12]))
    · refine q_bipush (t := 19) F dX9_plan_17 (by decide) rfl ?_
      refine q_iret F dX9_plan_19 rfl ?_
      first
        | exact ⟨_, rfl, im, lm, fun _ => rfl, fun z => absurd z (by omega), hR, agS_rfl im, lgQ_rfl lm, rfl⟩
        | exact ⟨_, rfl, im, lm, fun z => absurd (by omega) z, fun _ => ⟨fun _ => rfl, fun z => absurd z (by (try rw [ets]); omega), fun z => absurd z (by (try rw [ets]); omega)⟩, hR, agS_rfl im, lgQ_rfl lm, rfl⟩
        | exact ⟨_, rfl, im, lm, fun z => absurd (by omega) z, fun _ => ⟨fun z => absurd z (by (try rw [ets]); omega), fun _ _ => rfl, fun _ z => absurd z.1 (by (try rw [ets]); omega)⟩, hR, agS_rfl im, lgQ_rfl lm, rfl⟩
        | exact ⟨_, rfl, im, lm, fun z => absurd (by omega) z, fun _ => ⟨fun z => absurd z (by (try rw [ets]); omega), fun _ _ => rfl, fun _ z => by (try rw [ets] at z); have := z.2 k (by omega); omega⟩, hR, agS_rfl im, lgQ_rfl lm, rfl⟩
        | (have ek : (im 49 0 s / 4).toNat = k := by omega
           have e39 : S 30 0 39 = im 30 0 9 := (hpk.1 30 39 (by omega) (by omega)).trans rfl
           refine ⟨_, rfl, _, lg, fun z => absurd (by omega) z, fun _ => ⟨fun z => absurd z (by (try rw [ets]); omega), fun _ z => absurd (by (try rw [ets]); exact hok) z, fun _ _ => ⟨S, by (try rw [ets]); rw [ek]; exact hpl, ?_⟩⟩, backI_RI hRS, (backI_R hpk.1 hpk.2).S, hlg, rfl⟩
           first
             | (rw [if_pos (by omega)]
                show bm (S 30 0 9 - S 30 0 39) = _
                rw [e39])
             | (rw [if_neg (by omega), hx240, e12]))
end
section
/-! the reference: set, fill, count, image, back -/

def lyI (im : IM) (what : Int) (p : Nat) (v : Int) : IM := if what = 0 then up im 30 0 7 v else if what = 1 then up im 30 0 8 v else if what = 2 then up im 35 0 p v else if what = 3 then up im 34 0 p v else up im 30 0 4 v
/-- one row laid over by another -/
def cp1 (im : IM) (a b n : Nat) : IM := fun k i s => if k = a ∧ i = 0 ∧ s < n then im b 0 s else im k i s
theorem cp1_app (im : IM) (a b n k i s : Nat) : cp1 im a b n k i s = if k = a ∧ i = 0 ∧ s < n then im b 0 s else im k i s := rfl
theorem cp1_0 (im : IM) (a b : Nat) : cp1 im a b 0 = im := by
  funext k i s
  rw [cp1_app, if_neg (by omega)]
theorem cp1_s (im : IM) (a b n : Nat) : up (cp1 im a b n) a 0 n (im b 0 n) = cp1 im a b (n + 1) := by
  funext k i s
  rw [up_app, cp1_app, cp1_app]
  by_cases hs : s = n
  · subst hs
    by_cases hi : k = a ∧ i = 0
    · rw [if_pos ⟨hi.1, hi.2, rfl⟩, if_pos ⟨hi.1, hi.2, by omega⟩]
    · rw [if_neg (by omega), if_neg (by omega), if_neg (by omega)]
  · rw [if_neg (by omega)]
    have e : (s < n + 1) = (s < n) := propext ⟨fun z => by omega, fun z => by omega⟩
    simp only [e]
theorem cp1_RI {im : IM} (h : RI im) (a b n : Nat) : RI (cp1 im a b n) := by
  intro k i s
  rw [cp1_app]
  split <;> exact h _ _ _

set_option maxHeartbeats 4000000 in
theorem c_X9_lays (l : Launch) (G : GS) (im : IM) (bt rt : Nat) (lm : IM) (what v : Int) (p : Nat) (hwhat : ri what) (hp : what = 2 ∨ what = 3 → p < 5) : Cn l (XR G) yX9_lays Y_X9_lays [vR 30 0, vI what, vI (p : Int), vI v] (im, rs bt rt, lm) (pV fun m' => m' = (lyI im what p v, rs bt rt, lm)) := by
  refine cn_of (by decide) (okR G) rfl (Nat.le_of_ble_eq_true rfl) ?_
  intro M ad hMl F
  subst hMl
  have hwhat1 := hwhat.1
  have hwhat2 := hwhat.2
  refine wp_pad 0 ?_
  show Wp M (XR G) ad Y_X9_lays (pV fun m' => m' = (lyI im what p v, rs bt rt, lm)) 0 [some (vR 30 0), some (vI what), some (vI (p : Int)), some (vI v)] [] (im, rs bt rt, lm)
  refine q_iload_n (t := 1) F dX9_lays_0 rfl rfl rfl ?_
  refine q_if_ne (t := 4) (u := 12) F dX9_lays_1 (by first | exact hR _ _ _ | (constructor <;> omega)) (by decide) rfl (fun c1 => ?_) (fun c1 => ?_)
  · refine q_iload_n (t := 13) F dX9_lays_12 rfl rfl rfl ?_
    refine q_iconst (t := 14) F dX9_lays_13 rfl ?_
    refine q_icmp_ne (t := 17) (u := 25) F dX9_lays_14 (by first | exact hR _ _ _ | (constructor <;> omega)) (by first | exact hR _ _ _ | (constructor <;> omega)) (by decide) rfl (fun c14 => ?_) (fun c14 => ?_)
    · refine q_iload_n (t := 26) F dX9_lays_25 rfl rfl rfl ?_
      refine q_iconst (t := 27) F dX9_lays_26 rfl ?_
      refine q_icmp_ne (t := 30) (u := 40) F dX9_lays_27 (by first | exact hR _ _ _ | (constructor <;> omega)) (by first | exact hR _ _ _ | (constructor <;> omega)) (by decide) rfl (fun c27 => ?_) (fun c27 => ?_)
      · refine q_iload_n (t := 41) F dX9_lays_40 rfl rfl rfl ?_
        refine q_iconst (t := 42) F dX9_lays_41 rfl ?_
        refine q_icmp_ne (t := 45) (u := 55) F dX9_lays_42 (by first | exact hR _ _ _ | (constructor <;> omega)) (by first | exact hR _ _ _ | (constructor <;> omega)) (by decide) rfl (fun c42 => ?_) (fun c42 => ?_)
        · refine q_aload_n (t := 56) F dX9_lays_55 rfl rfl rfl ?_
          refine q_iload_n (t := 57) F dX9_lays_56 rfl rfl rfl ?_
          refine p_X9_120 (t := 60) F dX9_lays_57 rfl rfl ?_
          refine q_vret F dX9_lays_60 rfl ?_
          refine ⟨rfl, ?_⟩
          unfold lyI
          first
            | rw [if_pos (by omega)]
            | rw [if_neg (by omega), if_pos (by omega)]
            | rw [if_neg (by omega), if_neg (by omega), if_pos (by omega)]
            | rw [if_neg (by omega), if_neg (by omega), if_neg (by omega), if_pos (by omega)]
            | rw [if_neg (by omega), if_neg (by omega), if_neg (by omega), if_neg (by omega)]
        · refine q_aload_n (t := 46) F dX9_lays_45 rfl rfl rfl ?_
          refine g_X9_26 (t := 49) F dX9_lays_46 rfl rfl ?_
          refine q_iload_n (t := 50) F dX9_lays_49 rfl rfl rfl ?_
          refine q_iload_n (t := 51) F dX9_lays_50 rfl rfl rfl ?_
          first | refine stN_34 (t := 52) F dX9_lays_51 (by omega) rfl ?_ | refine st_34 (t := 52) F dX9_lays_51 (by omega) (by omega) rfl ?_
          refine q_goto (t := 60) F dX9_lays_52 (by decide) ?_
          refine q_vret F dX9_lays_60 rfl ?_
          refine ⟨rfl, ?_⟩
          unfold lyI
          first
            | rw [if_pos (by omega)]
            | rw [if_neg (by omega), if_pos (by omega)]
            | rw [if_neg (by omega), if_neg (by omega), if_pos (by omega)]
            | rw [if_neg (by omega), if_neg (by omega), if_neg (by omega), if_pos (by omega)]
            | rw [if_neg (by omega), if_neg (by omega), if_neg (by omega), if_neg (by omega)]
      · refine q_aload_n (t := 31) F dX9_lays_30 rfl rfl rfl ?_
        refine g_X9_29 (t := 34) F dX9_lays_31 rfl rfl ?_
        refine q_iload_n (t := 35) F dX9_lays_34 rfl rfl rfl ?_
        refine q_iload_n (t := 36) F dX9_lays_35 rfl rfl rfl ?_
        first | refine stN_35 (t := 37) F dX9_lays_36 (by omega) rfl ?_ | refine st_35 (t := 37) F dX9_lays_36 (by omega) (by omega) rfl ?_
        refine q_goto (t := 60) F dX9_lays_37 (by decide) ?_
        refine q_vret F dX9_lays_60 rfl ?_
        refine ⟨rfl, ?_⟩
        unfold lyI
        first
          | rw [if_pos (by omega)]
          | rw [if_neg (by omega), if_pos (by omega)]
          | rw [if_neg (by omega), if_neg (by omega), if_pos (by omega)]
          | rw [if_neg (by omega), if_neg (by omega), if_neg (by omega), if_pos (by omega)]
          | rw [if_neg (by omega), if_neg (by omega), if_neg (by omega), if_neg (by omega)]
    · refine q_aload_n (t := 18) F dX9_lays_17 rfl rfl rfl ?_
      refine q_iload_n (t := 19) F dX9_lays_18 rfl rfl rfl ?_
      refine p_X9_23 (t := 22) F dX9_lays_19 rfl rfl ?_
      refine q_goto (t := 60) F dX9_lays_22 (by decide) ?_
      refine q_vret F dX9_lays_60 rfl ?_
      refine ⟨rfl, ?_⟩
      unfold lyI
      first
        | rw [if_pos (by omega)]
        | rw [if_neg (by omega), if_pos (by omega)]
        | rw [if_neg (by omega), if_neg (by omega), if_pos (by omega)]
        | rw [if_neg (by omega), if_neg (by omega), if_neg (by omega), if_pos (by omega)]
        | rw [if_neg (by omega), if_neg (by omega), if_neg (by omega), if_neg (by omega)]
  · refine q_aload_n (t := 5) F dX9_lays_4 rfl rfl rfl ?_
    refine q_iload_n (t := 6) F dX9_lays_5 rfl rfl rfl ?_
    refine p_X9_117 (t := 9) F dX9_lays_6 rfl rfl ?_
    refine q_goto (t := 60) F dX9_lays_9 (by decide) ?_
    refine q_vret F dX9_lays_60 rfl ?_
    refine ⟨rfl, ?_⟩
    unfold lyI
    first
      | rw [if_pos (by omega)]
      | rw [if_neg (by omega), if_pos (by omega)]
      | rw [if_neg (by omega), if_neg (by omega), if_pos (by omega)]
      | rw [if_neg (by omega), if_neg (by omega), if_neg (by omega), if_pos (by omega)]
      | rw [if_neg (by omega), if_neg (by omega), if_neg (by omega), if_neg (by omega)]

set_option maxHeartbeats 4000000 in
theorem g_X9_lays (l : Launch) (G : GS) (im : IM) (bt rt : Nat) (lm : IM) (what v of : Int) (hwhat : ri what) (hp : ¬ (what = 2 ∨ what = 3)) : Cn l (XR G) yX9_lays Y_X9_lays [vR 30 0, vI what, vI of, vI v] (im, rs bt rt, lm) (pV fun m' => m' = (lyI im what of.toNat v, rs bt rt, lm)) := by
  refine cn_of (by decide) (okR G) rfl (Nat.le_of_ble_eq_true rfl) ?_
  intro M ad hMl F
  subst hMl
  have hwhat1 := hwhat.1
  have hwhat2 := hwhat.2
  refine wp_pad 0 ?_
  show Wp M (XR G) ad Y_X9_lays (pV fun m' => m' = (lyI im what of.toNat v, rs bt rt, lm)) 0 [some (vR 30 0), some (vI what), some (vI of), some (vI v)] [] (im, rs bt rt, lm)
  refine q_iload_n (t := 1) F dX9_lays_0 rfl rfl rfl ?_
  refine q_if_ne (t := 4) (u := 12) F dX9_lays_1 (by first | exact hR _ _ _ | (constructor <;> omega)) (by decide) rfl (fun c1 => ?_) (fun c1 => ?_)
  · refine q_iload_n (t := 13) F dX9_lays_12 rfl rfl rfl ?_
    refine q_iconst (t := 14) F dX9_lays_13 rfl ?_
    refine q_icmp_ne (t := 17) (u := 25) F dX9_lays_14 (by first | exact hR _ _ _ | (constructor <;> omega)) (by first | exact hR _ _ _ | (constructor <;> omega)) (by decide) rfl (fun c14 => ?_) (fun c14 => ?_)
    · refine q_iload_n (t := 26) F dX9_lays_25 rfl rfl rfl ?_
      refine q_iconst (t := 27) F dX9_lays_26 rfl ?_
      refine q_icmp_ne (t := 30) (u := 40) F dX9_lays_27 (by first | exact hR _ _ _ | (constructor <;> omega)) (by first | exact hR _ _ _ | (constructor <;> omega)) (by decide) rfl (fun c27 => ?_) (fun c27 => ?_)
      · refine q_iload_n (t := 41) F dX9_lays_40 rfl rfl rfl ?_
        refine q_iconst (t := 42) F dX9_lays_41 rfl ?_
        refine q_icmp_ne (t := 45) (u := 55) F dX9_lays_42 (by first | exact hR _ _ _ | (constructor <;> omega)) (by first | exact hR _ _ _ | (constructor <;> omega)) (by decide) rfl (fun c42 => ?_) (fun c42 => ?_)
        · refine q_aload_n (t := 56) F dX9_lays_55 rfl rfl rfl ?_
          refine q_iload_n (t := 57) F dX9_lays_56 rfl rfl rfl ?_
          refine p_X9_120 (t := 60) F dX9_lays_57 rfl rfl ?_
          refine q_vret F dX9_lays_60 rfl ?_
          first
            | (exfalso; omega)
            | (refine ⟨rfl, ?_⟩
               unfold lyI
               first
                 | rw [if_pos (by omega)]
                 | rw [if_neg (by omega), if_pos (by omega)]
                 | rw [if_neg (by omega), if_neg (by omega), if_neg (by omega), if_neg (by omega)])
        · refine q_aload_n (t := 46) F dX9_lays_45 rfl rfl rfl ?_
          refine g_X9_26 (t := 49) F dX9_lays_46 rfl rfl ?_
          refine q_iload_n (t := 50) F dX9_lays_49 rfl rfl rfl ?_
          refine q_iload_n (t := 51) F dX9_lays_50 rfl rfl rfl ?_
          refine st_34 (t := 52) F dX9_lays_51 (by omega) (by omega) rfl ?_
          refine q_goto (t := 60) F dX9_lays_52 (by decide) ?_
          refine q_vret F dX9_lays_60 rfl ?_
          first
            | (exfalso; omega)
            | (refine ⟨rfl, ?_⟩
               unfold lyI
               first
                 | rw [if_pos (by omega)]
                 | rw [if_neg (by omega), if_pos (by omega)]
                 | rw [if_neg (by omega), if_neg (by omega), if_neg (by omega), if_neg (by omega)])
      · refine q_aload_n (t := 31) F dX9_lays_30 rfl rfl rfl ?_
        refine g_X9_29 (t := 34) F dX9_lays_31 rfl rfl ?_
        refine q_iload_n (t := 35) F dX9_lays_34 rfl rfl rfl ?_
        refine q_iload_n (t := 36) F dX9_lays_35 rfl rfl rfl ?_
        refine st_35 (t := 37) F dX9_lays_36 (by omega) (by omega) rfl ?_
        refine q_goto (t := 60) F dX9_lays_37 (by decide) ?_
        refine q_vret F dX9_lays_60 rfl ?_
        first
          | (exfalso; omega)
          | (refine ⟨rfl, ?_⟩
             unfold lyI
             first
               | rw [if_pos (by omega)]
               | rw [if_neg (by omega), if_pos (by omega)]
               | rw [if_neg (by omega), if_neg (by omega), if_neg (by omega), if_neg (by omega)])
    · refine q_aload_n (t := 18) F dX9_lays_17 rfl rfl rfl ?_
      refine q_iload_n (t := 19) F dX9_lays_18 rfl rfl rfl ?_
      refine p_X9_23 (t := 22) F dX9_lays_19 rfl rfl ?_
      refine q_goto (t := 60) F dX9_lays_22 (by decide) ?_
      refine q_vret F dX9_lays_60 rfl ?_
      first
        | (exfalso; omega)
        | (refine ⟨rfl, ?_⟩
           unfold lyI
           first
             | rw [if_pos (by omega)]
             | rw [if_neg (by omega), if_pos (by omega)]
             | rw [if_neg (by omega), if_neg (by omega), if_neg (by omega), if_neg (by omega)])
  · refine q_aload_n (t := 5) F dX9_lays_4 rfl rfl rfl ?_
    refine q_iload_n (t := 6) F dX9_lays_5 rfl rfl rfl ?_
    refine p_X9_117 (t := 9) F dX9_lays_6 rfl rfl ?_
    refine q_goto (t := 60) F dX9_lays_9 (by decide) ?_
    refine q_vret F dX9_lays_60 rfl ?_
    first
      | (exfalso; omega)
      | (refine ⟨rfl, ?_⟩
         unfold lyI
         first
           | rw [if_pos (by omega)]
           | rw [if_neg (by omega), if_pos (by omega)]
           | rw [if_neg (by omega), if_neg (by omega), if_neg (by omega), if_neg (by omega)])

theorem c_lays2 (l : Launch) (G : GS) (im : IM) (bt rt : Nat) (lm : IM) (what v of : Int) (hwhat : ri what) (hp : what = 2 ∨ what = 3 → 0 ≤ of ∧ of < 5) : Cn l (XR G) yX9_lays Y_X9_lays [vR 30 0, vI what, vI of, vI v] (im, rs bt rt, lm) (pV fun m' => m' = (lyI im what of.toNat v, rs bt rt, lm)) := by
  by_cases w : what = 2 ∨ what = 3
  · have hc := c_X9_lays l G im bt rt lm what v of.toNat hwhat (fun _ => by omega)
    rw [Int.toNat_of_nonneg (by omega)] at hc
    exact hc
  · exact g_X9_lays l G im bt rt lm what v of hwhat w

set_option maxHeartbeats 4000000 in
theorem c_X9_set (l : Launch) (G : GS) (im : IM) (bt rt : Nat) (lm : IM) (h : RC im) (what of v : Int) (hwhat : ri what) (hof : ri of) (hv : ri v) : Cn l (XR G) yX9_set Y_X9_set [vR 30 0, vI what, vI of, vI v] (im, rs bt rt, lm) (pI fun x m' => (¬ ((what = 0 ∧ 0 ≤ v ∧ v ≤ 999) ∨ (what = 1 ∧ 0 ≤ v ∧ v ≤ 16777215) ∨ (what = 2 ∧ (0 ≤ of ∧ of < im 30 0 12) ∧ 0 ≤ v ∧ v ≤ 9)) → x = -2 ∧ m' = (im, rs bt rt, lm)) ∧ (((what = 0 ∧ 0 ≤ v ∧ v ≤ 999) ∨ (what = 1 ∧ 0 ≤ v ∧ v ≤ 16777215) ∨ (what = 2 ∧ (0 ≤ of ∧ of < im 30 0 12) ∧ 0 ≤ v ∧ v ≤ 9)) → ∃ im' lm', x = tdR im of what ∧ RI im' ∧ agY im' im ∧ lgQ lm' lm ∧ m' = (lyI im' what of.toNat v, rs bt rt, lm'))) := by
  refine cn_of (by decide) (okR G) rfl (Nat.le_of_ble_eq_true rfl) ?_
  intro M ad hMl F
  subst hMl
  have hR := h.1
  have hX := h.2.1
  have h4 := h.2.2.1
  have h12 := h.2.2.2.1
  have h7 := h.2.2.2.2.1
  have h6 := hX.2.2.1
  have h3 := hX.2.2.2.1
  have hP := h.2.2.2.2.2.2
  have hR := h.1
  have what1 := hwhat.1
  have what2 := hwhat.2
  have of1 := hof.1
  have of2 := hof.2
  have v1 := hv.1
  have v2 := hv.2
  refine wp_pad 1 ?_
  show Wp M (XR G) ad Y_X9_set (pI fun x m' => (¬ ((what = 0 ∧ 0 ≤ v ∧ v ≤ 999) ∨ (what = 1 ∧ 0 ≤ v ∧ v ≤ 16777215) ∨ (what = 2 ∧ (0 ≤ of ∧ of < im 30 0 12) ∧ 0 ≤ v ∧ v ≤ 9)) → x = -2 ∧ m' = (im, rs bt rt, lm)) ∧ (((what = 0 ∧ 0 ≤ v ∧ v ≤ 999) ∨ (what = 1 ∧ 0 ≤ v ∧ v ≤ 16777215) ∨ (what = 2 ∧ (0 ≤ of ∧ of < im 30 0 12) ∧ 0 ≤ v ∧ v ≤ 9)) → ∃ im' lm', x = tdR im of what ∧ RI im' ∧ agY im' im ∧ lgQ lm' lm ∧ m' = (lyI im' what of.toNat v, rs bt rt, lm'))) 0 [some (vR 30 0), some (vI what), some (vI of), some (vI v), none] [] (im, rs bt rt, lm)
  refine q_iload_n (t := 1) F dX9_set_0 rfl rfl rfl ?_
  refine q_i2l (t := 2) F dX9_set_1 (by first | exact hR _ _ _ | (constructor <;> omega)) rfl ?_
  refine q_lconst (t := 3) (x := 0) F dX9_set_2 (by decide) rfl ?_
  refine q_ldc2 (t := 6) (x := 2) F dX9_set_3 kl_X9_99 (by decide) rfl ?_
  refine wp_callS (t := 9) [_, _, _] F dX9_set_6 k_X9_in st_X9_in ml_X9_91 rfl rfl (Nat.le_of_ble_eq_true rfl) (by decide) (c_X9_in _ G _ _ _ _ _ _ _ (by constructor <;> omega) (by constructor <;> omega) (by constructor <;> omega)) rfl (kI ?_)
  rintro x6 m' ⟨hx6, rfl⟩
  have hx6 := if01 hx6
  refine q_if_eq (t := 12) (u := 58) F dX9_set_9 (by first | exact hR _ _ _ | (constructor <;> omega)) (by decide) rfl (fun c9 => ?_) (fun c9 => ?_)
  · refine q_bipush (t := 60) F dX9_set_58 (by decide) rfl ?_
    refine q_iret F dX9_set_60 rfl ?_
    first
      | exact ⟨_, rfl, fun _ => ⟨rfl, rfl⟩, fun z => absurd z (by omega)⟩
      | exact ⟨_, rfl, fun z => absurd (by first | exact Or.inr (Or.inr ⟨by omega, by omega, by omega⟩) | exact Or.inr (Or.inl ⟨by omega, by omega, by omega⟩) | exact Or.inl ⟨by omega, by omega, by omega⟩ | omega) z, fun _ => ⟨im2, lm2, hx64, hR2, hag2, hlg2, rfl⟩⟩
      | omega
  · refine q_iload_n (t := 13) F dX9_set_12 rfl rfl rfl ?_
    refine q_iconst (t := 14) F dX9_set_13 rfl ?_
    refine q_icmp_ne (t := 17) (u := 25) F dX9_set_14 (by constructor <;> omega) (by constructor <;> omega) (by decide) rfl (fun c14 => ?_) (fun c14 => ?_)
    · refine q_iload_n (t := 26) F dX9_set_25 rfl rfl rfl ?_
      refine q_i2l (t := 27) F dX9_set_26 (by first | exact hR _ _ _ | (constructor <;> omega)) rfl ?_
      refine q_lconst (t := 28) (x := 0) F dX9_set_27 (by decide) rfl ?_
      refine q_iload_n (t := 29) F dX9_set_28 rfl rfl rfl ?_
      refine q_if_ne (t := 32) (u := 38) F dX9_set_29 (by first | exact hR _ _ _ | (constructor <;> omega)) (by decide) rfl (fun c29 => ?_) (fun c29 => ?_)
      · refine q_iload_n (t := 39) F dX9_set_38 rfl rfl rfl ?_
        refine q_iconst (t := 40) F dX9_set_39 rfl ?_
        refine q_icmp_ne (t := 43) (u := 49) F dX9_set_40 (by first | exact hR _ _ _ | (constructor <;> omega)) (by first | exact hR _ _ _ | (constructor <;> omega)) (by decide) rfl (fun c40 => ?_) (fun c40 => ?_)
        · refine q_ldc2 (t := 52) (x := 9) F dX9_set_49 kl_X9_95 (by decide) rfl ?_
          refine wp_callS (t := 55) [_, _, _] F dX9_set_52 k_X9_in st_X9_in ml_X9_91 rfl rfl (Nat.le_of_ble_eq_true rfl) (by decide) (c_X9_in _ G _ _ _ _ _ _ _ (by constructor <;> omega) (by constructor <;> omega) (by constructor <;> omega)) rfl (kI ?_)
          rintro x52 m' ⟨hx52, rfl⟩
          have hx52 := if01 hx52
          refine q_if_ne (t := 58) (u := 61) F dX9_set_55 (by first | exact hR _ _ _ | (constructor <;> omega)) (by decide) rfl (fun c55 => ?_) (fun c55 => ?_)
          · refine q_aload_n (t := 62) F dX9_set_61 rfl rfl rfl ?_
            refine q_iload_n (t := 63) F dX9_set_62 rfl rfl rfl ?_
            refine q_iload_n (t := 64) F dX9_set_63 rfl rfl rfl ?_
            refine wp_callV (t := 67) [_, _] F dX9_set_64 k_X9_told v_X9_told ml_X9_109 rfl rfl rfl rfl (Nat.le_of_ble_eq_true rfl) (by decide) (m_30 (by omega)) (c_X9_told _ G im bt rt lm h of what hof hwhat) rfl (kI ?_)
            rintro x64 m' ⟨im2, lm2, hx64, hR2, hag2, hlg2, rfl⟩
            refine q_istore (t := 69) F dX9_set_67 (by decide) rfl rfl ?_
            refine q_aload_n (t := 70) F dX9_set_69 rfl rfl rfl ?_
            refine q_iload_n (t := 71) F dX9_set_70 rfl rfl rfl ?_
            refine q_iload_n (t := 72) F dX9_set_71 rfl rfl rfl ?_
            refine q_iload_n (t := 73) F dX9_set_72 rfl rfl rfl ?_
            refine wp_callV (t := 76) [_, _, _] F dX9_set_73 k_X9_lays v_X9_lays ml_X9_113 rfl rfl rfl rfl (Nat.le_of_ble_eq_true rfl) (by decide) (m_30 (by omega)) (c_lays2 _ G im2 bt rt lm2 what v of hwhat (fun _ => by omega)) rfl (kV ?_)
            rintro m' rfl
            refine q_iload (t := 78) F dX9_set_76 rfl rfl ?_
            refine q_iret F dX9_set_78 rfl ?_
            first
              | exact ⟨_, rfl, fun _ => ⟨rfl, rfl⟩, fun z => absurd z (by omega)⟩
              | exact ⟨_, rfl, fun z => absurd (by first | exact Or.inr (Or.inr ⟨by omega, by omega, by omega⟩) | exact Or.inr (Or.inl ⟨by omega, by omega, by omega⟩) | exact Or.inl ⟨by omega, by omega, by omega⟩ | omega) z, fun _ => ⟨im2, lm2, hx64, hR2, hag2, hlg2, rfl⟩⟩
              | omega
          · refine q_bipush (t := 60) F dX9_set_58 (by decide) rfl ?_
            refine q_iret F dX9_set_60 rfl ?_
            first
              | exact ⟨_, rfl, fun _ => ⟨rfl, rfl⟩, fun z => absurd z (by omega)⟩
              | exact ⟨_, rfl, fun z => absurd (by first | exact Or.inr (Or.inr ⟨by omega, by omega, by omega⟩) | exact Or.inr (Or.inl ⟨by omega, by omega, by omega⟩) | exact Or.inl ⟨by omega, by omega, by omega⟩ | omega) z, fun _ => ⟨im2, lm2, hx64, hR2, hag2, hlg2, rfl⟩⟩
              | omega
        · refine q_ldc2 (t := 46) (x := 16777215) F dX9_set_43 kl_X9_107 (by decide) rfl ?_
          refine q_goto (t := 52) F dX9_set_46 (by decide) ?_
          refine wp_callS (t := 55) [_, _, _] F dX9_set_52 k_X9_in st_X9_in ml_X9_91 rfl rfl (Nat.le_of_ble_eq_true rfl) (by decide) (c_X9_in _ G _ _ _ _ _ _ _ (by constructor <;> omega) (by constructor <;> omega) (by constructor <;> omega)) rfl (kI ?_)
          rintro x52 m' ⟨hx52, rfl⟩
          have hx52 := if01 hx52
          refine q_if_ne (t := 58) (u := 61) F dX9_set_55 (by first | exact hR _ _ _ | (constructor <;> omega)) (by decide) rfl (fun c55 => ?_) (fun c55 => ?_)
          · refine q_aload_n (t := 62) F dX9_set_61 rfl rfl rfl ?_
            refine q_iload_n (t := 63) F dX9_set_62 rfl rfl rfl ?_
            refine q_iload_n (t := 64) F dX9_set_63 rfl rfl rfl ?_
            refine wp_callV (t := 67) [_, _] F dX9_set_64 k_X9_told v_X9_told ml_X9_109 rfl rfl rfl rfl (Nat.le_of_ble_eq_true rfl) (by decide) (m_30 (by omega)) (c_X9_told _ G im bt rt lm h of what hof hwhat) rfl (kI ?_)
            rintro x64 m' ⟨im2, lm2, hx64, hR2, hag2, hlg2, rfl⟩
            refine q_istore (t := 69) F dX9_set_67 (by decide) rfl rfl ?_
            refine q_aload_n (t := 70) F dX9_set_69 rfl rfl rfl ?_
            refine q_iload_n (t := 71) F dX9_set_70 rfl rfl rfl ?_
            refine q_iload_n (t := 72) F dX9_set_71 rfl rfl rfl ?_
            refine q_iload_n (t := 73) F dX9_set_72 rfl rfl rfl ?_
            refine wp_callV (t := 76) [_, _, _] F dX9_set_73 k_X9_lays v_X9_lays ml_X9_113 rfl rfl rfl rfl (Nat.le_of_ble_eq_true rfl) (by decide) (m_30 (by omega)) (c_lays2 _ G im2 bt rt lm2 what v of hwhat (fun _ => by omega)) rfl (kV ?_)
            rintro m' rfl
            refine q_iload (t := 78) F dX9_set_76 rfl rfl ?_
            refine q_iret F dX9_set_78 rfl ?_
            first
              | exact ⟨_, rfl, fun _ => ⟨rfl, rfl⟩, fun z => absurd z (by omega)⟩
              | exact ⟨_, rfl, fun z => absurd (by first | exact Or.inr (Or.inr ⟨by omega, by omega, by omega⟩) | exact Or.inr (Or.inl ⟨by omega, by omega, by omega⟩) | exact Or.inl ⟨by omega, by omega, by omega⟩ | omega) z, fun _ => ⟨im2, lm2, hx64, hR2, hag2, hlg2, rfl⟩⟩
              | omega
          · refine q_bipush (t := 60) F dX9_set_58 (by decide) rfl ?_
            refine q_iret F dX9_set_60 rfl ?_
            first
              | exact ⟨_, rfl, fun _ => ⟨rfl, rfl⟩, fun z => absurd z (by omega)⟩
              | exact ⟨_, rfl, fun z => absurd (by first | exact Or.inr (Or.inr ⟨by omega, by omega, by omega⟩) | exact Or.inr (Or.inl ⟨by omega, by omega, by omega⟩) | exact Or.inl ⟨by omega, by omega, by omega⟩ | omega) z, fun _ => ⟨im2, lm2, hx64, hR2, hag2, hlg2, rfl⟩⟩
              | omega
      · refine q_ldc2 (t := 35) (x := 999) F dX9_set_32 kl_X9_105 (by decide) rfl ?_
        refine q_goto (t := 52) F dX9_set_35 (by decide) ?_
        refine wp_callS (t := 55) [_, _, _] F dX9_set_52 k_X9_in st_X9_in ml_X9_91 rfl rfl (Nat.le_of_ble_eq_true rfl) (by decide) (c_X9_in _ G _ _ _ _ _ _ _ (by constructor <;> omega) (by constructor <;> omega) (by constructor <;> omega)) rfl (kI ?_)
        rintro x52 m' ⟨hx52, rfl⟩
        have hx52 := if01 hx52
        refine q_if_ne (t := 58) (u := 61) F dX9_set_55 (by first | exact hR _ _ _ | (constructor <;> omega)) (by decide) rfl (fun c55 => ?_) (fun c55 => ?_)
        · refine q_aload_n (t := 62) F dX9_set_61 rfl rfl rfl ?_
          refine q_iload_n (t := 63) F dX9_set_62 rfl rfl rfl ?_
          refine q_iload_n (t := 64) F dX9_set_63 rfl rfl rfl ?_
          refine wp_callV (t := 67) [_, _] F dX9_set_64 k_X9_told v_X9_told ml_X9_109 rfl rfl rfl rfl (Nat.le_of_ble_eq_true rfl) (by decide) (m_30 (by omega)) (c_X9_told _ G im bt rt lm h of what hof hwhat) rfl (kI ?_)
          rintro x64 m' ⟨im2, lm2, hx64, hR2, hag2, hlg2, rfl⟩
          refine q_istore (t := 69) F dX9_set_67 (by decide) rfl rfl ?_
          refine q_aload_n (t := 70) F dX9_set_69 rfl rfl rfl ?_
          refine q_iload_n (t := 71) F dX9_set_70 rfl rfl rfl ?_
          refine q_iload_n (t := 72) F dX9_set_71 rfl rfl rfl ?_
          refine q_iload_n (t := 73) F dX9_set_72 rfl rfl rfl ?_
          refine wp_callV (t := 76) [_, _, _] F dX9_set_73 k_X9_lays v_X9_lays ml_X9_113 rfl rfl rfl rfl (Nat.le_of_ble_eq_true rfl) (by decide) (m_30 (by omega)) (c_lays2 _ G im2 bt rt lm2 what v of hwhat (fun _ => by omega)) rfl (kV ?_)
          rintro m' rfl
          refine q_iload (t := 78) F dX9_set_76 rfl rfl ?_
          refine q_iret F dX9_set_78 rfl ?_
          first
            | exact ⟨_, rfl, fun _ => ⟨rfl, rfl⟩, fun z => absurd z (by omega)⟩
            | exact ⟨_, rfl, fun z => absurd (by first | exact Or.inr (Or.inr ⟨by omega, by omega, by omega⟩) | exact Or.inr (Or.inl ⟨by omega, by omega, by omega⟩) | exact Or.inl ⟨by omega, by omega, by omega⟩ | omega) z, fun _ => ⟨im2, lm2, hx64, hR2, hag2, hlg2, rfl⟩⟩
            | omega
        · refine q_bipush (t := 60) F dX9_set_58 (by decide) rfl ?_
          refine q_iret F dX9_set_60 rfl ?_
          first
            | exact ⟨_, rfl, fun _ => ⟨rfl, rfl⟩, fun z => absurd z (by omega)⟩
            | exact ⟨_, rfl, fun z => absurd (by first | exact Or.inr (Or.inr ⟨by omega, by omega, by omega⟩) | exact Or.inr (Or.inl ⟨by omega, by omega, by omega⟩) | exact Or.inl ⟨by omega, by omega, by omega⟩ | omega) z, fun _ => ⟨im2, lm2, hx64, hR2, hag2, hlg2, rfl⟩⟩
            | omega
    · refine q_aload_n (t := 18) F dX9_set_17 rfl rfl rfl ?_
      refine q_iload_n (t := 19) F dX9_set_18 rfl rfl rfl ?_
      refine wp_callV (t := 22) [_] F dX9_set_19 k_X9_isOne v_X9_isOne ml_X9_101 rfl rfl rfl rfl (Nat.le_of_ble_eq_true rfl) (by decide) (m_30 (by omega)) (c_X9_isOne _ G im bt rt lm hR h12.1 h12.2 of (by constructor <;> omega)) rfl (kI ?_)
      rintro x19 m' ⟨hx19, rfl⟩
      have hx19 := if01 hx19
      refine q_if_eq (t := 25) (u := 58) F dX9_set_22 (by first | exact hR _ _ _ | (constructor <;> omega)) (by decide) rfl (fun c22 => ?_) (fun c22 => ?_)
      · refine q_bipush (t := 60) F dX9_set_58 (by decide) rfl ?_
        refine q_iret F dX9_set_60 rfl ?_
        first
          | exact ⟨_, rfl, fun _ => ⟨rfl, rfl⟩, fun z => absurd z (by omega)⟩
          | exact ⟨_, rfl, fun z => absurd (by first | exact Or.inr (Or.inr ⟨by omega, by omega, by omega⟩) | exact Or.inr (Or.inl ⟨by omega, by omega, by omega⟩) | exact Or.inl ⟨by omega, by omega, by omega⟩ | omega) z, fun _ => ⟨im2, lm2, hx64, hR2, hag2, hlg2, rfl⟩⟩
          | omega
      · refine q_iload_n (t := 26) F dX9_set_25 rfl rfl rfl ?_
        refine q_i2l (t := 27) F dX9_set_26 (by first | exact hR _ _ _ | (constructor <;> omega)) rfl ?_
        refine q_lconst (t := 28) (x := 0) F dX9_set_27 (by decide) rfl ?_
        refine q_iload_n (t := 29) F dX9_set_28 rfl rfl rfl ?_
        refine q_if_ne (t := 32) (u := 38) F dX9_set_29 (by first | exact hR _ _ _ | (constructor <;> omega)) (by decide) rfl (fun c29 => ?_) (fun c29 => ?_)
        · refine q_iload_n (t := 39) F dX9_set_38 rfl rfl rfl ?_
          refine q_iconst (t := 40) F dX9_set_39 rfl ?_
          refine q_icmp_ne (t := 43) (u := 49) F dX9_set_40 (by first | exact hR _ _ _ | (constructor <;> omega)) (by first | exact hR _ _ _ | (constructor <;> omega)) (by decide) rfl (fun c40 => ?_) (fun c40 => ?_)
          · refine q_ldc2 (t := 52) (x := 9) F dX9_set_49 kl_X9_95 (by decide) rfl ?_
            refine wp_callS (t := 55) [_, _, _] F dX9_set_52 k_X9_in st_X9_in ml_X9_91 rfl rfl (Nat.le_of_ble_eq_true rfl) (by decide) (c_X9_in _ G _ _ _ _ _ _ _ (by constructor <;> omega) (by constructor <;> omega) (by constructor <;> omega)) rfl (kI ?_)
            rintro x52 m' ⟨hx52, rfl⟩
            have hx52 := if01 hx52
            refine q_if_ne (t := 58) (u := 61) F dX9_set_55 (by first | exact hR _ _ _ | (constructor <;> omega)) (by decide) rfl (fun c55 => ?_) (fun c55 => ?_)
            · refine q_aload_n (t := 62) F dX9_set_61 rfl rfl rfl ?_
              refine q_iload_n (t := 63) F dX9_set_62 rfl rfl rfl ?_
              refine q_iload_n (t := 64) F dX9_set_63 rfl rfl rfl ?_
              refine wp_callV (t := 67) [_, _] F dX9_set_64 k_X9_told v_X9_told ml_X9_109 rfl rfl rfl rfl (Nat.le_of_ble_eq_true rfl) (by decide) (m_30 (by omega)) (c_X9_told _ G im bt rt lm h of what hof hwhat) rfl (kI ?_)
              rintro x64 m' ⟨im2, lm2, hx64, hR2, hag2, hlg2, rfl⟩
              refine q_istore (t := 69) F dX9_set_67 (by decide) rfl rfl ?_
              refine q_aload_n (t := 70) F dX9_set_69 rfl rfl rfl ?_
              refine q_iload_n (t := 71) F dX9_set_70 rfl rfl rfl ?_
              refine q_iload_n (t := 72) F dX9_set_71 rfl rfl rfl ?_
              refine q_iload_n (t := 73) F dX9_set_72 rfl rfl rfl ?_
              refine wp_callV (t := 76) [_, _, _] F dX9_set_73 k_X9_lays v_X9_lays ml_X9_113 rfl rfl rfl rfl (Nat.le_of_ble_eq_true rfl) (by decide) (m_30 (by omega)) (c_lays2 _ G im2 bt rt lm2 what v of hwhat (fun _ => by omega)) rfl (kV ?_)
              rintro m' rfl
              refine q_iload (t := 78) F dX9_set_76 rfl rfl ?_
              refine q_iret F dX9_set_78 rfl ?_
              first
                | exact ⟨_, rfl, fun _ => ⟨rfl, rfl⟩, fun z => absurd z (by omega)⟩
                | exact ⟨_, rfl, fun z => absurd (by first | exact Or.inr (Or.inr ⟨by omega, by omega, by omega⟩) | exact Or.inr (Or.inl ⟨by omega, by omega, by omega⟩) | exact Or.inl ⟨by omega, by omega, by omega⟩ | omega) z, fun _ => ⟨im2, lm2, hx64, hR2, hag2, hlg2, rfl⟩⟩
                | omega
            · refine q_bipush (t := 60) F dX9_set_58 (by decide) rfl ?_
              refine q_iret F dX9_set_60 rfl ?_
              first
                | exact ⟨_, rfl, fun _ => ⟨rfl, rfl⟩, fun z => absurd z (by omega)⟩
                | exact ⟨_, rfl, fun z => absurd (by first | exact Or.inr (Or.inr ⟨by omega, by omega, by omega⟩) | exact Or.inr (Or.inl ⟨by omega, by omega, by omega⟩) | exact Or.inl ⟨by omega, by omega, by omega⟩ | omega) z, fun _ => ⟨im2, lm2, hx64, hR2, hag2, hlg2, rfl⟩⟩
                | omega
          · refine q_ldc2 (t := 46) (x := 16777215) F dX9_set_43 kl_X9_107 (by decide) rfl ?_
            refine q_goto (t := 52) F dX9_set_46 (by decide) ?_
            refine wp_callS (t := 55) [_, _, _] F dX9_set_52 k_X9_in st_X9_in ml_X9_91 rfl rfl (Nat.le_of_ble_eq_true rfl) (by decide) (c_X9_in _ G _ _ _ _ _ _ _ (by constructor <;> omega) (by constructor <;> omega) (by constructor <;> omega)) rfl (kI ?_)
            rintro x52 m' ⟨hx52, rfl⟩
            have hx52 := if01 hx52
            refine q_if_ne (t := 58) (u := 61) F dX9_set_55 (by first | exact hR _ _ _ | (constructor <;> omega)) (by decide) rfl (fun c55 => ?_) (fun c55 => ?_)
            · refine q_aload_n (t := 62) F dX9_set_61 rfl rfl rfl ?_
              refine q_iload_n (t := 63) F dX9_set_62 rfl rfl rfl ?_
              refine q_iload_n (t := 64) F dX9_set_63 rfl rfl rfl ?_
              refine wp_callV (t := 67) [_, _] F dX9_set_64 k_X9_told v_X9_told ml_X9_109 rfl rfl rfl rfl (Nat.le_of_ble_eq_true rfl) (by decide) (m_30 (by omega)) (c_X9_told _ G im bt rt lm h of what hof hwhat) rfl (kI ?_)
              rintro x64 m' ⟨im2, lm2, hx64, hR2, hag2, hlg2, rfl⟩
              refine q_istore (t := 69) F dX9_set_67 (by decide) rfl rfl ?_
              refine q_aload_n (t := 70) F dX9_set_69 rfl rfl rfl ?_
              refine q_iload_n (t := 71) F dX9_set_70 rfl rfl rfl ?_
              refine q_iload_n (t := 72) F dX9_set_71 rfl rfl rfl ?_
              refine q_iload_n (t := 73) F dX9_set_72 rfl rfl rfl ?_
              refine wp_callV (t := 76) [_, _, _] F dX9_set_73 k_X9_lays v_X9_lays ml_X9_113 rfl rfl rfl rfl (Nat.le_of_ble_eq_true rfl) (by decide) (m_30 (by omega)) (c_lays2 _ G im2 bt rt lm2 what v of hwhat (fun _ => by omega)) rfl (kV ?_)
              rintro m' rfl
              refine q_iload (t := 78) F dX9_set_76 rfl rfl ?_
              refine q_iret F dX9_set_78 rfl ?_
              first
                | exact ⟨_, rfl, fun _ => ⟨rfl, rfl⟩, fun z => absurd z (by omega)⟩
                | exact ⟨_, rfl, fun z => absurd (by first | exact Or.inr (Or.inr ⟨by omega, by omega, by omega⟩) | exact Or.inr (Or.inl ⟨by omega, by omega, by omega⟩) | exact Or.inl ⟨by omega, by omega, by omega⟩ | omega) z, fun _ => ⟨im2, lm2, hx64, hR2, hag2, hlg2, rfl⟩⟩
                | omega
            · refine q_bipush (t := 60) F dX9_set_58 (by decide) rfl ?_
              refine q_iret F dX9_set_60 rfl ?_
              first
                | exact ⟨_, rfl, fun _ => ⟨rfl, rfl⟩, fun z => absurd z (by omega)⟩
                | exact ⟨_, rfl, fun z => absurd (by first | exact Or.inr (Or.inr ⟨by omega, by omega, by omega⟩) | exact Or.inr (Or.inl ⟨by omega, by omega, by omega⟩) | exact Or.inl ⟨by omega, by omega, by omega⟩ | omega) z, fun _ => ⟨im2, lm2, hx64, hR2, hag2, hlg2, rfl⟩⟩
                | omega
        · refine q_ldc2 (t := 35) (x := 999) F dX9_set_32 kl_X9_105 (by decide) rfl ?_
          refine q_goto (t := 52) F dX9_set_35 (by decide) ?_
          refine wp_callS (t := 55) [_, _, _] F dX9_set_52 k_X9_in st_X9_in ml_X9_91 rfl rfl (Nat.le_of_ble_eq_true rfl) (by decide) (c_X9_in _ G _ _ _ _ _ _ _ (by constructor <;> omega) (by constructor <;> omega) (by constructor <;> omega)) rfl (kI ?_)
          rintro x52 m' ⟨hx52, rfl⟩
          have hx52 := if01 hx52
          refine q_if_ne (t := 58) (u := 61) F dX9_set_55 (by first | exact hR _ _ _ | (constructor <;> omega)) (by decide) rfl (fun c55 => ?_) (fun c55 => ?_)
          · refine q_aload_n (t := 62) F dX9_set_61 rfl rfl rfl ?_
            refine q_iload_n (t := 63) F dX9_set_62 rfl rfl rfl ?_
            refine q_iload_n (t := 64) F dX9_set_63 rfl rfl rfl ?_
            refine wp_callV (t := 67) [_, _] F dX9_set_64 k_X9_told v_X9_told ml_X9_109 rfl rfl rfl rfl (Nat.le_of_ble_eq_true rfl) (by decide) (m_30 (by omega)) (c_X9_told _ G im bt rt lm h of what hof hwhat) rfl (kI ?_)
            rintro x64 m' ⟨im2, lm2, hx64, hR2, hag2, hlg2, rfl⟩
            refine q_istore (t := 69) F dX9_set_67 (by decide) rfl rfl ?_
            refine q_aload_n (t := 70) F dX9_set_69 rfl rfl rfl ?_
            refine q_iload_n (t := 71) F dX9_set_70 rfl rfl rfl ?_
            refine q_iload_n (t := 72) F dX9_set_71 rfl rfl rfl ?_
            refine q_iload_n (t := 73) F dX9_set_72 rfl rfl rfl ?_
            refine wp_callV (t := 76) [_, _, _] F dX9_set_73 k_X9_lays v_X9_lays ml_X9_113 rfl rfl rfl rfl (Nat.le_of_ble_eq_true rfl) (by decide) (m_30 (by omega)) (c_lays2 _ G im2 bt rt lm2 what v of hwhat (fun _ => by omega)) rfl (kV ?_)
            rintro m' rfl
            refine q_iload (t := 78) F dX9_set_76 rfl rfl ?_
            refine q_iret F dX9_set_78 rfl ?_
            first
              | exact ⟨_, rfl, fun _ => ⟨rfl, rfl⟩, fun z => absurd z (by omega)⟩
              | exact ⟨_, rfl, fun z => absurd (by first | exact Or.inr (Or.inr ⟨by omega, by omega, by omega⟩) | exact Or.inr (Or.inl ⟨by omega, by omega, by omega⟩) | exact Or.inl ⟨by omega, by omega, by omega⟩ | omega) z, fun _ => ⟨im2, lm2, hx64, hR2, hag2, hlg2, rfl⟩⟩
              | omega
          · refine q_bipush (t := 60) F dX9_set_58 (by decide) rfl ?_
            refine q_iret F dX9_set_60 rfl ?_
            first
              | exact ⟨_, rfl, fun _ => ⟨rfl, rfl⟩, fun z => absurd z (by omega)⟩
              | exact ⟨_, rfl, fun z => absurd (by first | exact Or.inr (Or.inr ⟨by omega, by omega, by omega⟩) | exact Or.inr (Or.inl ⟨by omega, by omega, by omega⟩) | exact Or.inl ⟨by omega, by omega, by omega⟩ | omega) z, fun _ => ⟨im2, lm2, hx64, hR2, hag2, hlg2, rfl⟩⟩
              | omega

set_option maxHeartbeats 4000000 in
theorem c_X9_fill (l : Launch) (G : GS) (im : IM) (bt rt : Nat) (lm : IM) (h : RC im) (p g w hr : Int) (hp : ri p) (hg : ri g) (hw : ri w) (hhr : ri hr) : Cn l (XR G) yX9_fill Y_X9_fill [vR 30 0, vI p, vI g, vI w, vI hr] (im, rs bt rt, lm) (pI fun x m' => (¬ ((0 ≤ p ∧ p < im 30 0 12) ∧ (0 ≤ g ∧ g ≤ 9) ∧ (-1 ≤ w ∧ w ≤ 15) ∧ 0 ≤ hr ∧ hr ≤ 999) → x = -2 ∧ m' = (im, rs bt rt, lm)) ∧ (((0 ≤ p ∧ p < im 30 0 12) ∧ (0 ≤ g ∧ g ≤ 9) ∧ (-1 ≤ w ∧ w ≤ 15) ∧ 0 ≤ hr ∧ hr ≤ 999) → x = im 36 0 (10 * p.toNat + g.toNat) ∧ m' = (up (up im 36 0 (10 * p.toNat + g.toNat) w) 37 0 (10 * p.toNat + g.toNat) hr, rs bt rt, lm))) := by
  refine cn_of (by decide) (okR G) rfl (Nat.le_of_ble_eq_true rfl) ?_
  intro M ad hMl F
  subst hMl
  have hR := h.1
  have hX := h.2.1
  have h4 := h.2.2.1
  have h12 := h.2.2.2.1
  have h7 := h.2.2.2.2.1
  have h6 := hX.2.2.1
  have h3 := hX.2.2.2.1
  have hP := h.2.2.2.2.2.2
  have hR := h.1
  have p1 := hp.1
  have p2 := hp.2
  have g1 := hg.1
  have g2 := hg.2
  have w1 := hw.1
  have w2 := hw.2
  have hr1 := hhr.1
  have hr2 := hhr.2
  refine wp_pad 2 ?_
  show Wp M (XR G) ad Y_X9_fill (pI fun x m' => (¬ ((0 ≤ p ∧ p < im 30 0 12) ∧ (0 ≤ g ∧ g ≤ 9) ∧ (-1 ≤ w ∧ w ≤ 15) ∧ 0 ≤ hr ∧ hr ≤ 999) → x = -2 ∧ m' = (im, rs bt rt, lm)) ∧ (((0 ≤ p ∧ p < im 30 0 12) ∧ (0 ≤ g ∧ g ≤ 9) ∧ (-1 ≤ w ∧ w ≤ 15) ∧ 0 ≤ hr ∧ hr ≤ 999) → x = im 36 0 (10 * p.toNat + g.toNat) ∧ m' = (up (up im 36 0 (10 * p.toNat + g.toNat) w) 37 0 (10 * p.toNat + g.toNat) hr, rs bt rt, lm))) 0 [some (vR 30 0), some (vI p), some (vI g), some (vI w), some (vI hr), none, none] [] (im, rs bt rt, lm)
  refine q_aload_n (t := 1) F dX9_fill_0 rfl rfl rfl ?_
  refine q_iload_n (t := 2) F dX9_fill_1 rfl rfl rfl ?_
  refine wp_callV (t := 5) [_] F dX9_fill_2 k_X9_isOne v_X9_isOne ml_X9_101 rfl rfl rfl rfl (Nat.le_of_ble_eq_true rfl) (by decide) (m_30 (by omega)) (c_X9_isOne _ G im bt rt lm hR h12.1 h12.2 p (by constructor <;> omega)) rfl (kI ?_)
  rintro x2 m' ⟨hx2, rfl⟩
  have hx2 := if01 hx2
  refine q_if_eq (t := 8) (u := 40) F dX9_fill_5 (by first | exact hR _ _ _ | (constructor <;> omega)) (by decide) rfl (fun c5 => ?_) (fun c5 => ?_)
  · refine q_bipush (t := 42) F dX9_fill_40 (by decide) rfl ?_
    refine q_iret F dX9_fill_42 rfl ?_
    first
      | exact ⟨_, rfl, fun _ => ⟨rfl, rfl⟩, fun z => absurd z (by omega)⟩
      | exact ⟨_, rfl, fun z => absurd (by omega) z, fun _ => ⟨rfl, rfl⟩⟩
      | omega
  · refine q_iload_n (t := 9) F dX9_fill_8 rfl rfl rfl ?_
    refine wp_callS (t := 12) [_] F dX9_fill_9 k_X9_isGap st_X9_isGap ml_X9_138 rfl rfl (Nat.le_of_ble_eq_true rfl) (by decide) (c_X9_isGap _ G im bt rt lm g (by constructor <;> omega)) rfl (kI ?_)
    rintro x9 m' ⟨hx9, rfl⟩
    have hx9 := if01 hx9
    refine q_if_eq (t := 15) (u := 40) F dX9_fill_12 (by first | exact hR _ _ _ | (constructor <;> omega)) (by decide) rfl (fun c12 => ?_) (fun c12 => ?_)
    · refine q_bipush (t := 42) F dX9_fill_40 (by decide) rfl ?_
      refine q_iret F dX9_fill_42 rfl ?_
      first
        | exact ⟨_, rfl, fun _ => ⟨rfl, rfl⟩, fun z => absurd z (by omega)⟩
        | exact ⟨_, rfl, fun z => absurd (by omega) z, fun _ => ⟨rfl, rfl⟩⟩
        | omega
    · refine q_iload_n (t := 16) F dX9_fill_15 rfl rfl rfl ?_
      refine q_iconst (t := 17) F dX9_fill_16 rfl ?_
      refine q_icmp_eq (t := 20) (u := 27) F dX9_fill_17 (by constructor <;> omega) (by constructor <;> omega) (by decide) rfl (fun c17 => ?_) (fun c17 => ?_)
      · refine q_iload (t := 29) F dX9_fill_27 rfl rfl ?_
        refine q_i2l (t := 30) F dX9_fill_29 (by first | exact hR _ _ _ | (constructor <;> omega)) rfl ?_
        refine q_lconst (t := 31) (x := 0) F dX9_fill_30 (by decide) rfl ?_
        refine q_ldc2 (t := 34) (x := 999) F dX9_fill_31 kl_X9_105 (by decide) rfl ?_
        refine wp_callS (t := 37) [_, _, _] F dX9_fill_34 k_X9_in st_X9_in ml_X9_91 rfl rfl (Nat.le_of_ble_eq_true rfl) (by decide) (c_X9_in _ G _ _ _ _ _ _ _ (by constructor <;> omega) (by constructor <;> omega) (by constructor <;> omega)) rfl (kI ?_)
        rintro x34 m' ⟨hx34, rfl⟩
        have hx34 := if01 hx34
        refine q_if_ne (t := 40) (u := 43) F dX9_fill_37 (by first | exact hR _ _ _ | (constructor <;> omega)) (by decide) rfl (fun c37 => ?_) (fun c37 => ?_)
        · refine q_bipush (t := 45) F dX9_fill_43 (by decide) rfl ?_
          refine q_iload_n (t := 46) F dX9_fill_45 rfl rfl rfl ?_
          refine q_imul (t := 47) F dX9_fill_46 rfl ?_
          refine q_iload_n (t := 48) F dX9_fill_47 rfl rfl rfl ?_
          refine q_iadd (t := 49) F dX9_fill_48 rfl ?_
          rw [show (10 : Int) * p + g = (((10 * p.toNat + g.toNat) : Nat) : Int) by omega]
          refine q_istore (t := 51) F dX9_fill_49 (by decide) rfl rfl ?_
          refine q_aload_n (t := 52) F dX9_fill_51 rfl rfl rfl ?_
          refine g_X9_32 (t := 55) F dX9_fill_52 rfl rfl ?_
          refine q_iload (t := 57) F dX9_fill_55 rfl rfl ?_
          first | refine ldN_36 (t := 58) F dX9_fill_57 (by omega) rfl ?_ | refine ld_36 (t := 58) F dX9_fill_57 (by omega) (by omega) rfl ?_
          try simp only [up_app, row_app, scr_app, cpy_app, Nat.reduceEqDiff, Int.reduceToNat, Int.toNat_natCast, and_true, true_and, and_false, false_and, and_self, reduceIte]
          refine q_istore (t := 60) F dX9_fill_58 (by decide) rfl rfl ?_
          refine q_aload_n (t := 61) F dX9_fill_60 rfl rfl rfl ?_
          refine g_X9_32 (t := 64) F dX9_fill_61 rfl rfl ?_
          refine q_iload (t := 66) F dX9_fill_64 rfl rfl ?_
          refine q_iload_n (t := 67) F dX9_fill_66 rfl rfl rfl ?_
          first | refine stN_36 (t := 68) F dX9_fill_67 (by omega) rfl ?_ | refine st_36 (t := 68) F dX9_fill_67 (by omega) (by omega) rfl ?_
          refine q_aload_n (t := 69) F dX9_fill_68 rfl rfl rfl ?_
          refine g_X9_35 (t := 72) F dX9_fill_69 rfl rfl ?_
          refine q_iload (t := 74) F dX9_fill_72 rfl rfl ?_
          refine q_iload (t := 76) F dX9_fill_74 rfl rfl ?_
          first | refine stN_37 (t := 77) F dX9_fill_76 (by omega) rfl ?_ | refine st_37 (t := 77) F dX9_fill_76 (by omega) (by omega) rfl ?_
          refine q_iload (t := 79) F dX9_fill_77 rfl rfl ?_
          refine q_iret F dX9_fill_79 rfl ?_
          first
            | exact ⟨_, rfl, fun _ => ⟨rfl, rfl⟩, fun z => absurd z (by omega)⟩
            | exact ⟨_, rfl, fun z => absurd (by omega) z, fun _ => ⟨rfl, rfl⟩⟩
            | omega
        · refine q_bipush (t := 42) F dX9_fill_40 (by decide) rfl ?_
          refine q_iret F dX9_fill_42 rfl ?_
          first
            | exact ⟨_, rfl, fun _ => ⟨rfl, rfl⟩, fun z => absurd z (by omega)⟩
            | exact ⟨_, rfl, fun z => absurd (by omega) z, fun _ => ⟨rfl, rfl⟩⟩
            | omega
      · refine q_iload_n (t := 21) F dX9_fill_20 rfl rfl rfl ?_
        refine wp_callS (t := 24) [_] F dX9_fill_21 k_X9_isWord st_X9_isWord ml_X9_141 rfl rfl (Nat.le_of_ble_eq_true rfl) (by decide) (c_X9_isWord _ G im bt rt lm w (by constructor <;> omega)) rfl (kI ?_)
        rintro x21 m' ⟨hx21, rfl⟩
        have hx21 := if01 hx21
        refine q_if_eq (t := 27) (u := 40) F dX9_fill_24 (by first | exact hR _ _ _ | (constructor <;> omega)) (by decide) rfl (fun c24 => ?_) (fun c24 => ?_)
        · refine q_bipush (t := 42) F dX9_fill_40 (by decide) rfl ?_
          refine q_iret F dX9_fill_42 rfl ?_
          first
            | exact ⟨_, rfl, fun _ => ⟨rfl, rfl⟩, fun z => absurd z (by omega)⟩
            | exact ⟨_, rfl, fun z => absurd (by omega) z, fun _ => ⟨rfl, rfl⟩⟩
            | omega
        · refine q_iload (t := 29) F dX9_fill_27 rfl rfl ?_
          refine q_i2l (t := 30) F dX9_fill_29 (by first | exact hR _ _ _ | (constructor <;> omega)) rfl ?_
          refine q_lconst (t := 31) (x := 0) F dX9_fill_30 (by decide) rfl ?_
          refine q_ldc2 (t := 34) (x := 999) F dX9_fill_31 kl_X9_105 (by decide) rfl ?_
          refine wp_callS (t := 37) [_, _, _] F dX9_fill_34 k_X9_in st_X9_in ml_X9_91 rfl rfl (Nat.le_of_ble_eq_true rfl) (by decide) (c_X9_in _ G _ _ _ _ _ _ _ (by constructor <;> omega) (by constructor <;> omega) (by constructor <;> omega)) rfl (kI ?_)
          rintro x34 m' ⟨hx34, rfl⟩
          have hx34 := if01 hx34
          refine q_if_ne (t := 40) (u := 43) F dX9_fill_37 (by first | exact hR _ _ _ | (constructor <;> omega)) (by decide) rfl (fun c37 => ?_) (fun c37 => ?_)
          · refine q_bipush (t := 45) F dX9_fill_43 (by decide) rfl ?_
            refine q_iload_n (t := 46) F dX9_fill_45 rfl rfl rfl ?_
            refine q_imul (t := 47) F dX9_fill_46 rfl ?_
            refine q_iload_n (t := 48) F dX9_fill_47 rfl rfl rfl ?_
            refine q_iadd (t := 49) F dX9_fill_48 rfl ?_
            rw [show (10 : Int) * p + g = (((10 * p.toNat + g.toNat) : Nat) : Int) by omega]
            refine q_istore (t := 51) F dX9_fill_49 (by decide) rfl rfl ?_
            refine q_aload_n (t := 52) F dX9_fill_51 rfl rfl rfl ?_
            refine g_X9_32 (t := 55) F dX9_fill_52 rfl rfl ?_
            refine q_iload (t := 57) F dX9_fill_55 rfl rfl ?_
            first | refine ldN_36 (t := 58) F dX9_fill_57 (by omega) rfl ?_ | refine ld_36 (t := 58) F dX9_fill_57 (by omega) (by omega) rfl ?_
            try simp only [up_app, row_app, scr_app, cpy_app, Nat.reduceEqDiff, Int.reduceToNat, Int.toNat_natCast, and_true, true_and, and_false, false_and, and_self, reduceIte]
            refine q_istore (t := 60) F dX9_fill_58 (by decide) rfl rfl ?_
            refine q_aload_n (t := 61) F dX9_fill_60 rfl rfl rfl ?_
            refine g_X9_32 (t := 64) F dX9_fill_61 rfl rfl ?_
            refine q_iload (t := 66) F dX9_fill_64 rfl rfl ?_
            refine q_iload_n (t := 67) F dX9_fill_66 rfl rfl rfl ?_
            first | refine stN_36 (t := 68) F dX9_fill_67 (by omega) rfl ?_ | refine st_36 (t := 68) F dX9_fill_67 (by omega) (by omega) rfl ?_
            refine q_aload_n (t := 69) F dX9_fill_68 rfl rfl rfl ?_
            refine g_X9_35 (t := 72) F dX9_fill_69 rfl rfl ?_
            refine q_iload (t := 74) F dX9_fill_72 rfl rfl ?_
            refine q_iload (t := 76) F dX9_fill_74 rfl rfl ?_
            first | refine stN_37 (t := 77) F dX9_fill_76 (by omega) rfl ?_ | refine st_37 (t := 77) F dX9_fill_76 (by omega) (by omega) rfl ?_
            refine q_iload (t := 79) F dX9_fill_77 rfl rfl ?_
            refine q_iret F dX9_fill_79 rfl ?_
            first
              | exact ⟨_, rfl, fun _ => ⟨rfl, rfl⟩, fun z => absurd z (by omega)⟩
              | exact ⟨_, rfl, fun z => absurd (by omega) z, fun _ => ⟨rfl, rfl⟩⟩
              | omega
          · refine q_bipush (t := 42) F dX9_fill_40 (by decide) rfl ?_
            refine q_iret F dX9_fill_42 rfl ?_
            first
              | exact ⟨_, rfl, fun _ => ⟨rfl, rfl⟩, fun z => absurd z (by omega)⟩
              | exact ⟨_, rfl, fun z => absurd (by omega) z, fun _ => ⟨rfl, rfl⟩⟩
              | omega

def cuR (im : IM) (what : Int) : Int := if what = 0 then im 30 0 12 else if what = 1 then alR im (im 30 0 12).toNat else if what = 2 then im 30 0 9 else if what = 3 then im 30 0 3 else if what = 4 then im 30 0 6 else if what = 5 then im 30 0 4 else -2
set_option maxHeartbeats 4000000 in
theorem c_X9_count (l : Launch) (G : GS) (im : IM) (bt rt : Nat) (lm : IM) (h : RC im) (what : Int) (hwhat : ri what) : Cn l (XR G) yX9_count Y_X9_count [vR 30 0, vI what] (im, rs bt rt, lm) (pI fun x m' => x = cuR im what ∧ m' = (im, rs bt rt, lm)) := by
  refine cn_of (by decide) (okR G) rfl (Nat.le_of_ble_eq_true rfl) ?_
  intro M ad hMl F
  subst hMl
  have hR := h.1
  have hX := h.2.1
  have h4 := h.2.2.1
  have h12 := h.2.2.2.1
  have h7 := h.2.2.2.2.1
  have h6 := hX.2.2.1
  have h3 := hX.2.2.2.1
  have hP := h.2.2.2.2.2.2
  have hR := h.1
  have what1 := hwhat.1
  have what2 := hwhat.2
  refine wp_pad 0 ?_
  show Wp M (XR G) ad Y_X9_count (pI fun x m' => x = cuR im what ∧ m' = (im, rs bt rt, lm)) 0 [some (vR 30 0), some (vI what)] [] (im, rs bt rt, lm)
  refine q_iload_n (t := 1) F dX9_count_0 rfl rfl rfl ?_
  refine q_if_ne (t := 4) (u := 11) F dX9_count_1 (by first | exact hR _ _ _ | (constructor <;> omega)) (by decide) rfl (fun c1 => ?_) (fun c1 => ?_)
  · refine q_iload_n (t := 12) F dX9_count_11 rfl rfl rfl ?_
    refine q_iconst (t := 13) F dX9_count_12 rfl ?_
    refine q_icmp_ne (t := 16) (u := 23) F dX9_count_13 (by constructor <;> omega) (by constructor <;> omega) (by decide) rfl (fun c13 => ?_) (fun c13 => ?_)
    · refine q_iload_n (t := 24) F dX9_count_23 rfl rfl rfl ?_
      refine q_iconst (t := 25) F dX9_count_24 rfl ?_
      refine q_icmp_ne (t := 28) (u := 35) F dX9_count_25 (by constructor <;> omega) (by constructor <;> omega) (by decide) rfl (fun c25 => ?_) (fun c25 => ?_)
      · refine q_iload_n (t := 36) F dX9_count_35 rfl rfl rfl ?_
        refine q_iconst (t := 37) F dX9_count_36 rfl ?_
        refine q_icmp_ne (t := 40) (u := 47) F dX9_count_37 (by constructor <;> omega) (by constructor <;> omega) (by decide) rfl (fun c37 => ?_) (fun c37 => ?_)
        · refine q_iload_n (t := 48) F dX9_count_47 rfl rfl rfl ?_
          refine q_iconst (t := 49) F dX9_count_48 rfl ?_
          refine q_icmp_ne (t := 52) (u := 59) F dX9_count_49 (by constructor <;> omega) (by constructor <;> omega) (by decide) rfl (fun c49 => ?_) (fun c49 => ?_)
          · refine q_iload_n (t := 60) F dX9_count_59 rfl rfl rfl ?_
            refine q_iconst (t := 61) F dX9_count_60 rfl ?_
            refine q_icmp_ne (t := 64) (u := 71) F dX9_count_61 (by constructor <;> omega) (by constructor <;> omega) (by decide) rfl (fun c61 => ?_) (fun c61 => ?_)
            · refine q_bipush (t := 73) F dX9_count_71 (by decide) rfl ?_
              refine q_iret F dX9_count_73 rfl ?_
              refine ⟨_, rfl, ?_, rfl⟩
              unfold cuR
              first
                | rw [if_pos (by omega)]
                | rw [if_neg (by omega), if_pos (by omega)]
                | rw [if_neg (by omega), if_neg (by omega), if_pos (by omega)]
                | rw [if_neg (by omega), if_neg (by omega), if_neg (by omega), if_pos (by omega)]
                | rw [if_neg (by omega), if_neg (by omega), if_neg (by omega), if_neg (by omega), if_pos (by omega)]
                | rw [if_neg (by omega), if_neg (by omega), if_neg (by omega), if_neg (by omega), if_neg (by omega), if_pos (by omega)]
                | rw [if_neg (by omega), if_neg (by omega), if_neg (by omega), if_neg (by omega), if_neg (by omega), if_neg (by omega)]
            · refine q_aload_n (t := 65) F dX9_count_64 rfl rfl rfl ?_
              refine g_X9_120 (t := 68) F dX9_count_65 rfl rfl ?_
              refine q_goto (t := 73) F dX9_count_68 (by decide) ?_
              refine q_iret F dX9_count_73 rfl ?_
              refine ⟨_, rfl, ?_, rfl⟩
              unfold cuR
              first
                | rw [if_pos (by omega)]
                | rw [if_neg (by omega), if_pos (by omega)]
                | rw [if_neg (by omega), if_neg (by omega), if_pos (by omega)]
                | rw [if_neg (by omega), if_neg (by omega), if_neg (by omega), if_pos (by omega)]
                | rw [if_neg (by omega), if_neg (by omega), if_neg (by omega), if_neg (by omega), if_pos (by omega)]
                | rw [if_neg (by omega), if_neg (by omega), if_neg (by omega), if_neg (by omega), if_neg (by omega), if_pos (by omega)]
                | rw [if_neg (by omega), if_neg (by omega), if_neg (by omega), if_neg (by omega), if_neg (by omega), if_neg (by omega)]
          · refine q_aload_n (t := 53) F dX9_count_52 rfl rfl rfl ?_
            refine g_X9_146 (t := 56) F dX9_count_53 rfl rfl ?_
            refine q_goto (t := 73) F dX9_count_56 (by decide) ?_
            refine q_iret F dX9_count_73 rfl ?_
            refine ⟨_, rfl, ?_, rfl⟩
            unfold cuR
            first
              | rw [if_pos (by omega)]
              | rw [if_neg (by omega), if_pos (by omega)]
              | rw [if_neg (by omega), if_neg (by omega), if_pos (by omega)]
              | rw [if_neg (by omega), if_neg (by omega), if_neg (by omega), if_pos (by omega)]
              | rw [if_neg (by omega), if_neg (by omega), if_neg (by omega), if_neg (by omega), if_pos (by omega)]
              | rw [if_neg (by omega), if_neg (by omega), if_neg (by omega), if_neg (by omega), if_neg (by omega), if_pos (by omega)]
              | rw [if_neg (by omega), if_neg (by omega), if_neg (by omega), if_neg (by omega), if_neg (by omega), if_neg (by omega)]
        · refine q_aload_n (t := 41) F dX9_count_40 rfl rfl rfl ?_
          refine g_X9_85 (t := 44) F dX9_count_41 rfl rfl ?_
          refine q_goto (t := 73) F dX9_count_44 (by decide) ?_
          refine q_iret F dX9_count_73 rfl ?_
          refine ⟨_, rfl, ?_, rfl⟩
          unfold cuR
          first
            | rw [if_pos (by omega)]
            | rw [if_neg (by omega), if_pos (by omega)]
            | rw [if_neg (by omega), if_neg (by omega), if_pos (by omega)]
            | rw [if_neg (by omega), if_neg (by omega), if_neg (by omega), if_pos (by omega)]
            | rw [if_neg (by omega), if_neg (by omega), if_neg (by omega), if_neg (by omega), if_pos (by omega)]
            | rw [if_neg (by omega), if_neg (by omega), if_neg (by omega), if_neg (by omega), if_neg (by omega), if_pos (by omega)]
            | rw [if_neg (by omega), if_neg (by omega), if_neg (by omega), if_neg (by omega), if_neg (by omega), if_neg (by omega)]
      · refine q_aload_n (t := 29) F dX9_count_28 rfl rfl rfl ?_
        refine g_X9_385 (t := 32) F dX9_count_29 rfl rfl ?_
        refine q_goto (t := 73) F dX9_count_32 (by decide) ?_
        refine q_iret F dX9_count_73 rfl ?_
        refine ⟨_, rfl, ?_, rfl⟩
        unfold cuR
        first
          | rw [if_pos (by omega)]
          | rw [if_neg (by omega), if_pos (by omega)]
          | rw [if_neg (by omega), if_neg (by omega), if_pos (by omega)]
          | rw [if_neg (by omega), if_neg (by omega), if_neg (by omega), if_pos (by omega)]
          | rw [if_neg (by omega), if_neg (by omega), if_neg (by omega), if_neg (by omega), if_pos (by omega)]
          | rw [if_neg (by omega), if_neg (by omega), if_neg (by omega), if_neg (by omega), if_neg (by omega), if_pos (by omega)]
          | rw [if_neg (by omega), if_neg (by omega), if_neg (by omega), if_neg (by omega), if_neg (by omega), if_neg (by omega)]
    · refine q_aload_n (t := 17) F dX9_count_16 rfl rfl rfl ?_
      refine wp_callV (t := 20) [] F dX9_count_17 k_X9_stuckAll v_X9_stuckAll ml_X9_427 rfl rfl rfl rfl (Nat.le_of_ble_eq_true rfl) (by decide) (m_30 (by omega)) (c_X9_stuckAll _ G im bt rt lm h) rfl (kI ?_)
      rintro x17 m' ⟨rfl, rfl⟩
      refine q_goto (t := 73) F dX9_count_20 (by decide) ?_
      refine q_iret F dX9_count_73 rfl ?_
      refine ⟨_, rfl, ?_, rfl⟩
      unfold cuR
      first
        | rw [if_pos (by omega)]
        | rw [if_neg (by omega), if_pos (by omega)]
        | rw [if_neg (by omega), if_neg (by omega), if_pos (by omega)]
        | rw [if_neg (by omega), if_neg (by omega), if_neg (by omega), if_pos (by omega)]
        | rw [if_neg (by omega), if_neg (by omega), if_neg (by omega), if_neg (by omega), if_pos (by omega)]
        | rw [if_neg (by omega), if_neg (by omega), if_neg (by omega), if_neg (by omega), if_neg (by omega), if_pos (by omega)]
        | rw [if_neg (by omega), if_neg (by omega), if_neg (by omega), if_neg (by omega), if_neg (by omega), if_neg (by omega)]
  · refine q_aload_n (t := 5) F dX9_count_4 rfl rfl rfl ?_
    refine g_X9_88 (t := 8) F dX9_count_5 rfl rfl ?_
    refine q_goto (t := 73) F dX9_count_8 (by decide) ?_
    refine q_iret F dX9_count_73 rfl ?_
    refine ⟨_, rfl, ?_, rfl⟩
    unfold cuR
    first
      | rw [if_pos (by omega)]
      | rw [if_neg (by omega), if_pos (by omega)]
      | rw [if_neg (by omega), if_neg (by omega), if_pos (by omega)]
      | rw [if_neg (by omega), if_neg (by omega), if_neg (by omega), if_pos (by omega)]
      | rw [if_neg (by omega), if_neg (by omega), if_neg (by omega), if_neg (by omega), if_pos (by omega)]
      | rw [if_neg (by omega), if_neg (by omega), if_neg (by omega), if_neg (by omega), if_neg (by omega), if_pos (by omega)]
      | rw [if_neg (by omega), if_neg (by omega), if_neg (by omega), if_neg (by omega), if_neg (by omega), if_neg (by omega)]

def imgI (im : IM) : IM := up (up (up (up (up (cp2 (cp1 im 44 35 5) 45 36 46 37 50) 30 0 46 (im 30 0 12)) 30 0 47 (im 30 0 7)) 30 0 48 (im 30 0 8)) 30 0 49 (im 30 0 9)) 30 0 50 (im 30 0 4)
set_option maxHeartbeats 4000000 in
theorem c_X9_image (l : Launch) (G : GS) (im : IM) (bt rt : Nat) (lm : IM) (hR : RI im) : Cn l (XR G) yX9_image Y_X9_image [vR 30 0] (im, rs bt rt, lm) (pI fun x m' => x = im 30 0 12 ∧ m' = (imgI im, rs bt rt, lm)) := by
  refine cn_of (by decide) (okR G) rfl (Nat.le_of_ble_eq_true rfl) ?_
  intro M ad hMl F
  subst hMl
  refine wp_pad 1 ?_
  show Wp M (XR G) ad Y_X9_image (pI fun x m' => x = im 30 0 12 ∧ m' = (imgI im, rs bt rt, lm)) 0 [some (vR 30 0), none] [] (im, rs bt rt, lm)
  refine q_iconst (t := 1) F dX9_image_0 rfl ?_
  refine q_istore_n (t := 2) F dX9_image_1 rfl (by decide) rfl rfl ?_
  have L2 : ∀ (fz : Nat) (n : Nat), 5 - n < fz → n ≤ 5 → Wp M (XR G) ad Y_X9_image (pI fun x m' => x = im 30 0 12 ∧ m' = (imgI im, rs bt rt, lm)) 2 [some (vR 30 0), some (vI (n : Int))] [] (cp1 im 44 35 n, rs bt rt, lm) := by
    intro fz
    induction fz with
    | zero => intro n h; exact absurd h (Nat.not_lt_zero _)
    | succ fz ih =>
      have ih2 := ih
      intro n hmeas hn
      have c35 : cp1 im 44 35 n 35 0 n = im 35 0 n := rfl
      refine q_iload_n (t := 3) F dX9_image_2 rfl rfl rfl ?_
      refine q_iconst (t := 4) F dX9_image_3 rfl ?_
      refine q_icmp_ge (t := 7) (u := 25) F dX9_image_4 (by constructor <;> omega) (by constructor <;> omega) (by decide) rfl (fun c4 => ?_) (fun c4 => ?_)
      · obtain rfl : n = 5 := by omega
        refine q_iconst (t := 26) F dX9_image_25 rfl ?_
        refine q_istore_n (t := 27) F dX9_image_26 rfl (by decide) rfl rfl ?_
        have L27 : ∀ (fz : Nat) (n : Nat), 50 - n < fz → n ≤ 50 → Wp M (XR G) ad Y_X9_image (pI fun x m' => x = im 30 0 12 ∧ m' = (imgI im, rs bt rt, lm)) 27 [some (vR 30 0), some (vI (n : Int))] [] (cp2 (cp1 im 44 35 5) 45 36 46 37 n, rs bt rt, lm) := by
          intro fz
          induction fz with
          | zero => intro n h; exact absurd h (Nat.not_lt_zero _)
          | succ fz ih =>
            have ih27 := ih
            intro n hmeas hn
            have c36 : cp2 (cp1 im 44 35 5) 45 36 46 37 n 36 0 n = (cp1 im 44 35 5) 36 0 n := rfl
            have c37 : cp2 (cp1 im 44 35 5) 45 36 46 37 n 37 0 n = (cp1 im 44 35 5) 37 0 n := rfl
            have d12 : cp2 (cp1 im 44 35 5) 45 36 46 37 n 30 0 12 = im 30 0 12 := rfl
            have d7 : cp2 (cp1 im 44 35 5) 45 36 46 37 n 30 0 7 = im 30 0 7 := rfl
            have d8 : cp2 (cp1 im 44 35 5) 45 36 46 37 n 30 0 8 = im 30 0 8 := rfl
            have d9 : cp2 (cp1 im 44 35 5) 45 36 46 37 n 30 0 9 = im 30 0 9 := rfl
            have d4 : cp2 (cp1 im 44 35 5) 45 36 46 37 n 30 0 4 = im 30 0 4 := rfl
            refine q_iload_n (t := 28) F dX9_image_27 rfl rfl rfl ?_
            refine q_bipush (t := 30) F dX9_image_28 (by decide) rfl ?_
            refine q_icmp_ge (t := 33) (u := 63) F dX9_image_30 (by constructor <;> omega) (by constructor <;> omega) (by decide) rfl (fun c30 => ?_) (fun c30 => ?_)
            · refine q_aload_n (t := 64) F dX9_image_63 rfl rfl rfl ?_
              refine q_aload_n (t := 65) F dX9_image_64 rfl rfl rfl ?_
              refine g_X9_88 (t := 68) F dX9_image_65 rfl rfl ?_
              rw [d12]
              refine p_X9_65 (t := 71) F dX9_image_68 rfl rfl ?_
              refine q_aload_n (t := 72) F dX9_image_71 rfl rfl rfl ?_
              refine q_aload_n (t := 73) F dX9_image_72 rfl rfl rfl ?_
              refine g_X9_117 (t := 76) F dX9_image_73 rfl rfl ?_
              try simp only [up_app, row_app, scr_app, cpy_app, Nat.reduceEqDiff, Int.reduceToNat, Int.toNat_natCast, and_true, true_and, and_false, false_and, and_self, reduceIte]
              rw [d7]
              refine p_X9_459 (t := 79) F dX9_image_76 rfl rfl ?_
              refine q_aload_n (t := 80) F dX9_image_79 rfl rfl rfl ?_
              refine q_aload_n (t := 81) F dX9_image_80 rfl rfl rfl ?_
              refine g_X9_23 (t := 84) F dX9_image_81 rfl rfl ?_
              try simp only [up_app, row_app, scr_app, cpy_app, Nat.reduceEqDiff, Int.reduceToNat, Int.toNat_natCast, and_true, true_and, and_false, false_and, and_self, reduceIte]
              rw [d8]
              refine p_X9_462 (t := 87) F dX9_image_84 rfl rfl ?_
              refine q_aload_n (t := 88) F dX9_image_87 rfl rfl rfl ?_
              refine q_aload_n (t := 89) F dX9_image_88 rfl rfl rfl ?_
              refine g_X9_385 (t := 92) F dX9_image_89 rfl rfl ?_
              try simp only [up_app, row_app, scr_app, cpy_app, Nat.reduceEqDiff, Int.reduceToNat, Int.toNat_natCast, and_true, true_and, and_false, false_and, and_self, reduceIte]
              rw [d9]
              refine p_X9_465 (t := 95) F dX9_image_92 rfl rfl ?_
              refine q_aload_n (t := 96) F dX9_image_95 rfl rfl rfl ?_
              refine q_aload_n (t := 97) F dX9_image_96 rfl rfl rfl ?_
              refine g_X9_120 (t := 100) F dX9_image_97 rfl rfl ?_
              try simp only [up_app, row_app, scr_app, cpy_app, Nat.reduceEqDiff, Int.reduceToNat, Int.toNat_natCast, and_true, true_and, and_false, false_and, and_self, reduceIte]
              rw [d4]
              refine p_X9_468 (t := 103) F dX9_image_100 rfl rfl ?_
              refine q_aload_n (t := 104) F dX9_image_103 rfl rfl rfl ?_
              refine g_X9_88 (t := 107) F dX9_image_104 rfl rfl ?_
              try simp only [up_app, row_app, scr_app, cpy_app, Nat.reduceEqDiff, Int.reduceToNat, Int.toNat_natCast, and_true, true_and, and_false, false_and, and_self, reduceIte]
              rw [d12]
              refine q_iret F dX9_image_107 rfl ?_
              obtain rfl : n = 50 := by omega
              exact ⟨_, rfl, rfl, rfl⟩
            · refine q_aload_n (t := 34) F dX9_image_33 rfl rfl rfl ?_
              refine g_X9_59 (t := 37) F dX9_image_34 rfl rfl ?_
              refine q_iload_n (t := 38) F dX9_image_37 rfl rfl rfl ?_
              refine q_aload_n (t := 39) F dX9_image_38 rfl rfl rfl ?_
              refine g_X9_32 (t := 42) F dX9_image_39 rfl rfl ?_
              refine q_iload_n (t := 43) F dX9_image_42 rfl rfl rfl ?_
              first | refine ldN_36 (t := 44) F dX9_image_43 (by omega) rfl ?_ | refine ld_36 (t := 44) F dX9_image_43 (by omega) (by omega) rfl ?_
              rw [c36]
              first | refine stN_45 (t := 45) F dX9_image_44 (by omega) rfl ?_ | refine st_45 (t := 45) F dX9_image_44 (by omega) (by omega) rfl ?_
              refine q_aload_n (t := 46) F dX9_image_45 rfl rfl rfl ?_
              refine g_X9_62 (t := 49) F dX9_image_46 rfl rfl ?_
              refine q_iload_n (t := 50) F dX9_image_49 rfl rfl rfl ?_
              refine q_aload_n (t := 51) F dX9_image_50 rfl rfl rfl ?_
              refine g_X9_35 (t := 54) F dX9_image_51 rfl rfl ?_
              refine q_iload_n (t := 55) F dX9_image_54 rfl rfl rfl ?_
              first | refine ldN_37 (t := 56) F dX9_image_55 (by omega) rfl ?_ | refine ld_37 (t := 56) F dX9_image_55 (by omega) (by omega) rfl ?_
              try simp only [up_app, row_app, scr_app, cpy_app, Nat.reduceEqDiff, Int.reduceToNat, Int.toNat_natCast, and_true, true_and, and_false, false_and, and_self, reduceIte]
              rw [c37]
              first | refine stN_46 (t := 57) F dX9_image_56 (by omega) rfl ?_ | refine st_46 (t := 57) F dX9_image_56 (by omega) (by omega) rfl ?_
              refine q_iinc (t := 60) F dX9_image_57 rfl (by decide) rfl rfl ?_
              refine q_goto (t := 27) F dX9_image_60 (by decide) ?_
              rw [show (n : Int) + 1 = ((n + 1 : Nat) : Int) by omega, cp2_s (cp1 im 44 35 5) n (by omega)]
              exact ih27 (n + 1) (by omega) (by omega)
        have L0 := L27 _ 0 (Nat.lt_succ_self _) (Nat.zero_le _)
        rw [cp2_0] at L0
        exact L0
      · refine q_aload_n (t := 8) F dX9_image_7 rfl rfl rfl ?_
        refine g_X9_56 (t := 11) F dX9_image_8 rfl rfl ?_
        refine q_iload_n (t := 12) F dX9_image_11 rfl rfl rfl ?_
        refine q_aload_n (t := 13) F dX9_image_12 rfl rfl rfl ?_
        refine g_X9_29 (t := 16) F dX9_image_13 rfl rfl ?_
        refine q_iload_n (t := 17) F dX9_image_16 rfl rfl rfl ?_
        first | refine ldN_35 (t := 18) F dX9_image_17 (by omega) rfl ?_ | refine ld_35 (t := 18) F dX9_image_17 (by omega) (by omega) rfl ?_
        rw [c35]
        first | refine stN_44 (t := 19) F dX9_image_18 (by omega) rfl ?_ | refine st_44 (t := 19) F dX9_image_18 (by omega) (by omega) rfl ?_
        refine q_iinc (t := 22) F dX9_image_19 rfl (by decide) rfl rfl ?_
        refine q_goto (t := 2) F dX9_image_22 (by decide) ?_
        rw [show (n : Int) + 1 = ((n + 1 : Nat) : Int) by omega, cp1_s im 44 35 n]
        exact ih2 (n + 1) (by omega) (by omega)
  have L0 := L2 _ 0 (Nat.lt_succ_self _) (Nat.zero_le _)
  rw [cp1_0] at L0
  exact L0

def bckI (im : IM) : IM := up (up (up (up (up (cp2 (cp1 im 35 44 5) 36 45 37 46 50) 30 0 12 (im 30 0 46)) 30 0 7 (im 30 0 47)) 30 0 8 (im 30 0 48)) 30 0 9 (im 30 0 49)) 30 0 4 (im 30 0 50)
set_option maxHeartbeats 4000000 in
theorem c_X9_back (l : Launch) (G : GS) (im : IM) (bt rt : Nat) (lm : IM) (hR : RI im) : Cn l (XR G) yX9_back Y_X9_back [vR 30 0] (im, rs bt rt, lm) (pI fun x m' => (im 30 0 46 = -1 → x = -3 ∧ m' = (im, rs bt rt, lm)) ∧ (im 30 0 46 ≠ -1 → x = im 30 0 46 ∧ m' = (bckI im, rs bt rt, lm))) := by
  refine cn_of (by decide) (okR G) rfl (Nat.le_of_ble_eq_true rfl) ?_
  intro M ad hMl F
  subst hMl
  refine wp_pad 1 ?_
  show Wp M (XR G) ad Y_X9_back (pI fun x m' => (im 30 0 46 = -1 → x = -3 ∧ m' = (im, rs bt rt, lm)) ∧ (im 30 0 46 ≠ -1 → x = im 30 0 46 ∧ m' = (bckI im, rs bt rt, lm))) 0 [some (vR 30 0), none] [] (im, rs bt rt, lm)
  refine q_aload_n (t := 1) F dX9_back_0 rfl rfl rfl ?_
  refine g_X9_65 (t := 4) F dX9_back_1 rfl rfl ?_
  refine q_iconst (t := 5) F dX9_back_4 rfl ?_
  refine q_icmp_ne (t := 8) (u := 11) F dX9_back_5 (by exact hR _ _ _) (by constructor <;> omega) (by decide) rfl (fun c5 => ?_) (fun c5 => ?_)
  · refine q_iconst (t := 12) F dX9_back_11 rfl ?_
    refine q_istore_n (t := 13) F dX9_back_12 rfl (by decide) rfl rfl ?_
    have L13 : ∀ (fz : Nat) (n : Nat), 5 - n < fz → n ≤ 5 → Wp M (XR G) ad Y_X9_back (pI fun x m' => (im 30 0 46 = -1 → x = -3 ∧ m' = (im, rs bt rt, lm)) ∧ (im 30 0 46 ≠ -1 → x = im 30 0 46 ∧ m' = (bckI im, rs bt rt, lm))) 13 [some (vR 30 0), some (vI (n : Int))] [] (cp1 im 35 44 n, rs bt rt, lm) := by
      intro fz
      induction fz with
      | zero => intro n h; exact absurd h (Nat.not_lt_zero _)
      | succ fz ih =>
        have ih13 := ih
        intro n hmeas hn
        have c35 : cp1 im 35 44 n 44 0 n = im 44 0 n := rfl
        refine q_iload_n (t := 14) F dX9_back_13 rfl rfl rfl ?_
        refine q_iconst (t := 15) F dX9_back_14 rfl ?_
        refine q_icmp_ge (t := 18) (u := 36) F dX9_back_15 (by constructor <;> omega) (by constructor <;> omega) (by decide) rfl (fun c15 => ?_) (fun c15 => ?_)
        · obtain rfl : n = 5 := by omega
          refine q_iconst (t := 37) F dX9_back_36 rfl ?_
          refine q_istore_n (t := 38) F dX9_back_37 rfl (by decide) rfl rfl ?_
          have L38 : ∀ (fz : Nat) (n : Nat), 50 - n < fz → n ≤ 50 → Wp M (XR G) ad Y_X9_back (pI fun x m' => (im 30 0 46 = -1 → x = -3 ∧ m' = (im, rs bt rt, lm)) ∧ (im 30 0 46 ≠ -1 → x = im 30 0 46 ∧ m' = (bckI im, rs bt rt, lm))) 38 [some (vR 30 0), some (vI (n : Int))] [] (cp2 (cp1 im 35 44 5) 36 45 37 46 n, rs bt rt, lm) := by
            intro fz
            induction fz with
            | zero => intro n h; exact absurd h (Nat.not_lt_zero _)
            | succ fz ih =>
              have ih38 := ih
              intro n hmeas hn
              have c36 : cp2 (cp1 im 35 44 5) 36 45 37 46 n 45 0 n = (cp1 im 35 44 5) 45 0 n := rfl
              have c37 : cp2 (cp1 im 35 44 5) 36 45 37 46 n 46 0 n = (cp1 im 35 44 5) 46 0 n := rfl
              have d46 : cp2 (cp1 im 35 44 5) 36 45 37 46 n 30 0 46 = im 30 0 46 := rfl
              have d47 : cp2 (cp1 im 35 44 5) 36 45 37 46 n 30 0 47 = im 30 0 47 := rfl
              have d48 : cp2 (cp1 im 35 44 5) 36 45 37 46 n 30 0 48 = im 30 0 48 := rfl
              have d49 : cp2 (cp1 im 35 44 5) 36 45 37 46 n 30 0 49 = im 30 0 49 := rfl
              have d50 : cp2 (cp1 im 35 44 5) 36 45 37 46 n 30 0 50 = im 30 0 50 := rfl
              refine q_iload_n (t := 39) F dX9_back_38 rfl rfl rfl ?_
              refine q_bipush (t := 41) F dX9_back_39 (by decide) rfl ?_
              refine q_icmp_ge (t := 44) (u := 74) F dX9_back_41 (by constructor <;> omega) (by constructor <;> omega) (by decide) rfl (fun c41 => ?_) (fun c41 => ?_)
              · refine q_aload_n (t := 75) F dX9_back_74 rfl rfl rfl ?_
                refine q_aload_n (t := 76) F dX9_back_75 rfl rfl rfl ?_
                refine g_X9_65 (t := 79) F dX9_back_76 rfl rfl ?_
                rw [d46]
                refine p_X9_88 (t := 82) F dX9_back_79 rfl rfl ?_
                refine q_aload_n (t := 83) F dX9_back_82 rfl rfl rfl ?_
                refine q_aload_n (t := 84) F dX9_back_83 rfl rfl rfl ?_
                refine g_X9_459 (t := 87) F dX9_back_84 rfl rfl ?_
                try simp only [up_app, row_app, scr_app, cpy_app, Nat.reduceEqDiff, Int.reduceToNat, Int.toNat_natCast, and_true, true_and, and_false, false_and, and_self, reduceIte]
                rw [d47]
                refine p_X9_117 (t := 90) F dX9_back_87 rfl rfl ?_
                refine q_aload_n (t := 91) F dX9_back_90 rfl rfl rfl ?_
                refine q_aload_n (t := 92) F dX9_back_91 rfl rfl rfl ?_
                refine g_X9_462 (t := 95) F dX9_back_92 rfl rfl ?_
                try simp only [up_app, row_app, scr_app, cpy_app, Nat.reduceEqDiff, Int.reduceToNat, Int.toNat_natCast, and_true, true_and, and_false, false_and, and_self, reduceIte]
                rw [d48]
                refine p_X9_23 (t := 98) F dX9_back_95 rfl rfl ?_
                refine q_aload_n (t := 99) F dX9_back_98 rfl rfl rfl ?_
                refine q_aload_n (t := 100) F dX9_back_99 rfl rfl rfl ?_
                refine g_X9_465 (t := 103) F dX9_back_100 rfl rfl ?_
                try simp only [up_app, row_app, scr_app, cpy_app, Nat.reduceEqDiff, Int.reduceToNat, Int.toNat_natCast, and_true, true_and, and_false, false_and, and_self, reduceIte]
                rw [d49]
                refine p_X9_385 (t := 106) F dX9_back_103 rfl rfl ?_
                refine q_aload_n (t := 107) F dX9_back_106 rfl rfl rfl ?_
                refine q_aload_n (t := 108) F dX9_back_107 rfl rfl rfl ?_
                refine g_X9_468 (t := 111) F dX9_back_108 rfl rfl ?_
                try simp only [up_app, row_app, scr_app, cpy_app, Nat.reduceEqDiff, Int.reduceToNat, Int.toNat_natCast, and_true, true_and, and_false, false_and, and_self, reduceIte]
                rw [d50]
                refine p_X9_120 (t := 114) F dX9_back_111 rfl rfl ?_
                refine q_aload_n (t := 115) F dX9_back_114 rfl rfl rfl ?_
                refine g_X9_88 (t := 118) F dX9_back_115 rfl rfl ?_
                try simp only [up_app, row_app, scr_app, cpy_app, Nat.reduceEqDiff, Int.reduceToNat, Int.toNat_natCast, and_true, true_and, and_false, false_and, and_self, reduceIte]
                refine q_iret F dX9_back_118 rfl ?_
                first
                  | exact ⟨_, rfl, fun _ => ⟨rfl, rfl⟩, fun z => absurd (by omega) z⟩
                  | (obtain rfl : n = 50 := by omega
                     exact ⟨_, rfl, fun z => absurd z (by omega), fun _ => ⟨rfl, rfl⟩⟩)
                  | omega
              · refine q_aload_n (t := 45) F dX9_back_44 rfl rfl rfl ?_
                refine g_X9_32 (t := 48) F dX9_back_45 rfl rfl ?_
                refine q_iload_n (t := 49) F dX9_back_48 rfl rfl rfl ?_
                refine q_aload_n (t := 50) F dX9_back_49 rfl rfl rfl ?_
                refine g_X9_59 (t := 53) F dX9_back_50 rfl rfl ?_
                refine q_iload_n (t := 54) F dX9_back_53 rfl rfl rfl ?_
                first | refine ldN_45 (t := 55) F dX9_back_54 (by omega) rfl ?_ | refine ld_45 (t := 55) F dX9_back_54 (by omega) (by omega) rfl ?_
                rw [c36]
                first | refine stN_36 (t := 56) F dX9_back_55 (by omega) rfl ?_ | refine st_36 (t := 56) F dX9_back_55 (by omega) (by omega) rfl ?_
                refine q_aload_n (t := 57) F dX9_back_56 rfl rfl rfl ?_
                refine g_X9_35 (t := 60) F dX9_back_57 rfl rfl ?_
                refine q_iload_n (t := 61) F dX9_back_60 rfl rfl rfl ?_
                refine q_aload_n (t := 62) F dX9_back_61 rfl rfl rfl ?_
                refine g_X9_62 (t := 65) F dX9_back_62 rfl rfl ?_
                refine q_iload_n (t := 66) F dX9_back_65 rfl rfl rfl ?_
                first | refine ldN_46 (t := 67) F dX9_back_66 (by omega) rfl ?_ | refine ld_46 (t := 67) F dX9_back_66 (by omega) (by omega) rfl ?_
                try simp only [up_app, row_app, scr_app, cpy_app, Nat.reduceEqDiff, Int.reduceToNat, Int.toNat_natCast, and_true, true_and, and_false, false_and, and_self, reduceIte]
                rw [c37]
                first | refine stN_37 (t := 68) F dX9_back_67 (by omega) rfl ?_ | refine st_37 (t := 68) F dX9_back_67 (by omega) (by omega) rfl ?_
                refine q_iinc (t := 71) F dX9_back_68 rfl (by decide) rfl rfl ?_
                refine q_goto (t := 38) F dX9_back_71 (by decide) ?_
                rw [show (n : Int) + 1 = ((n + 1 : Nat) : Int) by omega, cp2_s (cp1 im 35 44 5) n (by omega)]
                exact ih38 (n + 1) (by omega) (by omega)
          have L0 := L38 _ 0 (Nat.lt_succ_self _) (Nat.zero_le _)
          rw [cp2_0] at L0
          exact L0
        · refine q_aload_n (t := 19) F dX9_back_18 rfl rfl rfl ?_
          refine g_X9_29 (t := 22) F dX9_back_19 rfl rfl ?_
          refine q_iload_n (t := 23) F dX9_back_22 rfl rfl rfl ?_
          refine q_aload_n (t := 24) F dX9_back_23 rfl rfl rfl ?_
          refine g_X9_56 (t := 27) F dX9_back_24 rfl rfl ?_
          refine q_iload_n (t := 28) F dX9_back_27 rfl rfl rfl ?_
          first | refine ldN_44 (t := 29) F dX9_back_28 (by omega) rfl ?_ | refine ld_44 (t := 29) F dX9_back_28 (by omega) (by omega) rfl ?_
          rw [c35]
          first | refine stN_35 (t := 30) F dX9_back_29 (by omega) rfl ?_ | refine st_35 (t := 30) F dX9_back_29 (by omega) (by omega) rfl ?_
          refine q_iinc (t := 33) F dX9_back_30 rfl (by decide) rfl rfl ?_
          refine q_goto (t := 13) F dX9_back_33 (by decide) ?_
          rw [show (n : Int) + 1 = ((n + 1 : Nat) : Int) by omega, cp1_s im 35 44 n]
          exact ih13 (n + 1) (by omega) (by omega)
    have L0 := L13 _ 0 (Nat.lt_succ_self _) (Nat.zero_le _)
    rw [cp1_0] at L0
    exact L0
  · refine q_bipush (t := 10) F dX9_back_8 (by decide) rfl ?_
    refine q_iret F dX9_back_10 rfl ?_
    first
      | exact ⟨_, rfl, fun _ => ⟨rfl, rfl⟩, fun z => absurd (by omega) z⟩
      | (obtain rfl : n = 50 := by omega
         exact ⟨_, rfl, fun z => absurd z (by omega), fun _ => ⟨rfl, rfl⟩⟩)
      | omega
end
