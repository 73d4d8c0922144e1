/-! the reference: runs, run, off: the walks -/

set_option maxHeartbeats 4000000 in
theorem c_X9_runs (l : Launch) (G : GS) (im : IM) (bt rt : Nat) (lm : IM) (h : RC im) (hA : AG im 1000) (h7 : im 30 0 7 ≤ 999) (n : Nat) (hn : n ≤ 60) : Cn l (XR G) yX9_runs Y_X9_runs [vR 30 0, vI (n : Int)] (im, rs bt rt, lm) (pV fun m' => ∃ im' lm', RI im' ∧ RU im n im' ∧ lgQ lm' lm ∧ m' = (im', rs bt rt, lm')) := by
  refine cn_of (by decide) (okR G) rfl (Nat.le_of_ble_eq_true rfl) ?_
  intro M ad hMl F
  subst hMl
  have hR := h.1
  have hRa := asideI_RI h.1
  have hRCa : RC (asideI im) := h.C hRa (asideI_C im) h.2.2.2.2.1
  have hAa : AG (asideI im) 1000 := hA.C (asideI_C im)
  have h70 := h.2.2.2.2.1
  have h12 := h.2.2.2.1
  have hN0 := asideI_RN h
  have ea7 : asideI im 30 0 7 = im 30 0 7 := rfl
  have ea12 : asideI im 30 0 12 = im 30 0 12 := rfl
  refine wp_pad 1 ?_
  show Wp M (XR G) ad Y_X9_runs (pV fun m' => ∃ im' lm', RI im' ∧ RU im n im' ∧ lgQ lm' lm ∧ m' = (im', rs bt rt, lm')) 0 [some (vR 30 0), some (vI (n : Int)), none] [] (im, rs bt rt, lm)
  refine q_aload_n (t := 1) F dX9_runs_0 rfl rfl rfl ?_
  refine wp_callV (t := 4) [] F dX9_runs_1 k_X9_laysAside v_X9_laysAside ml_X9_404 rfl rfl rfl rfl (Nat.le_of_ble_eq_true rfl) (by decide) (m_30 (by omega)) (g_X9_laysAside _ G im bt rt lm hR) rfl (kV ?_)
  rintro m' rfl
  refine q_iconst (t := 5) F dX9_runs_4 rfl ?_
  refine q_istore_n (t := 6) F dX9_runs_5 rfl (by decide) rfl rfl ?_
  have L6 : ∀ (fz : Nat) (t : Nat) (S lg : IM), 61 - t < fz → (t ≤ n ∧ RI S ∧ RC S ∧ AG S 1000 ∧ RN (asideI im) t S ∧ lgQ lg lm) → Wp M (XR G) ad Y_X9_runs (pV fun m' => ∃ im' lm', RI im' ∧ RU im n im' ∧ lgQ lm' lm ∧ m' = (im', rs bt rt, lm')) 6 [some (vR 30 0), some (vI (n : Int)), some (vI (t : Int))] [] (S, rs bt rt, lg) := by
    intro fz
    induction fz with
    | zero => intro t S lg h; exact absurd h (Nat.not_lt_zero _)
    | succ fz ih =>
      have ih6 := ih
      intro t S lg hmeas ⟨ht, hR, hRC, hAS, hN, hlg⟩
      refine q_iload_n (t := 7) F dX9_runs_6 rfl rfl rfl ?_
      refine q_iload_n (t := 8) F dX9_runs_7 rfl rfl rfl ?_
      refine q_icmp_ge (t := 11) (u := 22) F dX9_runs_8 (by constructor <;> omega) (by constructor <;> omega) (by decide) rfl (fun c8 => ?_) (fun c8 => ?_)
      · refine q_aload_n (t := 23) F dX9_runs_22 rfl rfl rfl ?_
        refine wp_callV (t := 26) [] F dX9_runs_23 k_X9_laysBack v_X9_laysBack ml_X9_407 rfl rfl rfl rfl (Nat.le_of_ble_eq_true rfl) (by decide) (m_30 (by omega)) (g_X9_laysBack _ G S bt rt lg hR) rfl (kV ?_)
        rintro m' rfl
        refine q_vret F dX9_runs_26 rfl ?_
        obtain rfl : t = n := by omega
        exact ⟨rfl, _, lg, backI_RI hR, RU_of h hN (fun k s hk hs => asideI_c im (by omega) (by omega)), hlg, rfl⟩
      · refine q_aload_n (t := 12) F dX9_runs_11 rfl rfl rfl ?_
        refine q_iload_n (t := 13) F dX9_runs_12 rfl rfl rfl ?_
        refine wp_callV (t := 16) [_] F dX9_runs_13 k_X9_lives v_X9_lives ml_X9_391 rfl rfl rfl rfl (Nat.le_of_ble_eq_true rfl) (by decide) (m_30 (by omega)) (c_X9_lives _ G S bt rt lg hRC hAS (t : Int) (by constructor <;> omega) (by omega)) rfl (kV ?_)
        rintro m' ⟨im2, lg2, hR2, hag2, hlg2, rfl⟩
        have eS12 : S 30 0 12 = im 30 0 12 := (hN.1 30 0 12 (by omega) (by omega)).trans ea12
        have eS7 := hN.2.1
        have hk := RC_hr (t := (t : Int)) (by omega) hRC hAS (by omega) hR2 hag2
        have hN2 : RN (asideI im) (t + 1) im2 := (RN_s (F1 := lvN S (t : Int) (10 * S 30 0 12).toNat) (by rw [ea12]; exact h12) hN (by rw [ea12, ← eS12]; exact LV_N S (t := (t : Int)) (by omega) _)).ag hag2
        refine q_iinc (t := 19) F dX9_runs_16 rfl (by decide) rfl rfl ?_
        refine q_goto (t := 6) F dX9_runs_19 (by decide) ?_
        rw [show (t : Int) + 1 = ((t + 1 : Nat) : Int) by omega]
        exact ih6 (t + 1) im2 lg2 (by omega) ⟨by omega, hR2, hk.1, hk.2, hN2, hlg2.trans hlg⟩
  exact L6 _ 0 (asideI im) lm (Nat.lt_succ_self _) ⟨by omega, hRa, hRCa, hAa, hN0, lgQ_rfl lm⟩

set_option maxHeartbeats 4000000 in
theorem c_X9_run (l : Launch) (G : GS) (im : IM) (bt rt : Nat) (lm : IM) (h : RC im) (hA : AG im 1000) (h79 : im 30 0 7 ≤ 999) (n what : Int) (hn : ri n) (hwhat : ri what) : Cn l (XR G) yX9_run Y_X9_run [vR 30 0, vI n, vI what] (im, rs bt rt, lm) (pI fun x m' => (¬ ((0 ≤ n ∧ n ≤ 60) ∧ 0 ≤ what ∧ what ≤ 4) → x = -2 ∧ m' = (im, rs bt rt, lm)) ∧ ((0 ≤ n ∧ n ≤ 60) ∧ 0 ≤ what ∧ what ≤ 4 → ∃ im' lm', x = (if what = 0 then im' 30 0 40 else if what = 1 then im' 30 0 30 else if what = 2 then im' 30 0 31 else if what = 3 then im' 30 0 32 else im' 30 0 33) ∧ RI im' ∧ RU im n.toNat im' ∧ lgQ lm' lm ∧ m' = (im', rs bt rt, lm'))) := by
  refine cn_of (by decide) (okR G) rfl (Nat.le_of_ble_eq_true rfl) ?_
  intro M ad hMl F
  subst hMl
  have hR := h.1
  have hX := h.2.1
  have h4 := h.2.2.1
  have h12 := h.2.2.2.1
  have h7 := h.2.2.2.2.1
  have h6 := hX.2.2.1
  have h3 := hX.2.2.2.1
  have hP := h.2.2.2.2.2.2
  have hR := h.1
  have n1 := hn.1
  have n2 := hn.2
  have what1 := hwhat.1
  have what2 := hwhat.2
  refine wp_pad 0 ?_
  show Wp M (XR G) ad Y_X9_run (pI fun x m' => (¬ ((0 ≤ n ∧ n ≤ 60) ∧ 0 ≤ what ∧ what ≤ 4) → x = -2 ∧ m' = (im, rs bt rt, lm)) ∧ ((0 ≤ n ∧ n ≤ 60) ∧ 0 ≤ what ∧ what ≤ 4 → ∃ im' lm', x = (if what = 0 then im' 30 0 40 else if what = 1 then im' 30 0 30 else if what = 2 then im' 30 0 31 else if what = 3 then im' 30 0 32 else im' 30 0 33) ∧ RI im' ∧ RU im n.toNat im' ∧ lgQ lm' lm ∧ m' = (im', rs bt rt, lm'))) 0 [some (vR 30 0), some (vI n), some (vI what)] [] (im, rs bt rt, lm)
  refine q_iload_n (t := 1) F dX9_run_0 rfl rfl rfl ?_
  refine q_i2l (t := 2) F dX9_run_1 (by first | exact hR _ _ _ | (constructor <;> omega)) rfl ?_
  refine q_lconst (t := 3) (x := 0) F dX9_run_2 (by decide) rfl ?_
  refine q_ldc2 (t := 6) (x := 60) F dX9_run_3 kl_X9_242 (by decide) rfl ?_
  refine wp_callS (t := 9) [_, _, _] F dX9_run_6 k_X9_in st_X9_in ml_X9_91 rfl rfl (Nat.le_of_ble_eq_true rfl) (by decide) (c_X9_in _ G _ _ _ _ _ _ _ (by constructor <;> omega) (by constructor <;> omega) (by constructor <;> omega)) rfl (kI ?_)
  rintro x6 m' ⟨hx6, rfl⟩
  have hx6 := if01 hx6
  refine q_if_eq (t := 12) (u := 24) F dX9_run_9 (by first | exact hR _ _ _ | (constructor <;> omega)) (by decide) rfl (fun c9 => ?_) (fun c9 => ?_)
  · refine q_bipush (t := 26) F dX9_run_24 (by decide) rfl ?_
    refine q_iret F dX9_run_26 rfl ?_
    first
      | exact ⟨_, rfl, fun _ => ⟨rfl, rfl⟩, fun z => absurd z (by omega)⟩
      | (refine ⟨_, rfl, fun z => absurd (by omega) z, fun _ => ⟨im2, lm2, ?_, hR2, hU, hlg2, rfl⟩⟩
         (repeat' split) <;> first | rfl | (exfalso; omega))
  · refine q_iload_n (t := 13) F dX9_run_12 rfl rfl rfl ?_
    refine q_i2l (t := 14) F dX9_run_13 (by first | exact hR _ _ _ | (constructor <;> omega)) rfl ?_
    refine q_lconst (t := 15) (x := 0) F dX9_run_14 (by decide) rfl ?_
    refine q_ldc2 (t := 18) (x := 4) F dX9_run_15 kl_X9_125 (by decide) rfl ?_
    refine wp_callS (t := 21) [_, _, _] F dX9_run_18 k_X9_in st_X9_in ml_X9_91 rfl rfl (Nat.le_of_ble_eq_true rfl) (by decide) (c_X9_in _ G _ _ _ _ _ _ _ (by constructor <;> omega) (by constructor <;> omega) (by constructor <;> omega)) rfl (kI ?_)
    rintro x18 m' ⟨hx18, rfl⟩
    have hx18 := if01 hx18
    refine q_if_ne (t := 24) (u := 27) F dX9_run_21 (by first | exact hR _ _ _ | (constructor <;> omega)) (by decide) rfl (fun c21 => ?_) (fun c21 => ?_)
    · refine q_aload_n (t := 28) F dX9_run_27 rfl rfl rfl ?_
      refine q_iload_n (t := 29) F dX9_run_28 rfl rfl rfl ?_
      rw [show vI n = vI ((n.toNat : Nat) : Int) by rw [Int.toNat_of_nonneg (by omega)]]
      refine wp_callV (t := 32) [_] F dX9_run_29 k_X9_runs v_X9_runs ml_X9_410 rfl rfl rfl rfl (Nat.le_of_ble_eq_true rfl) (by decide) (m_30 (by omega)) (c_X9_runs _ G im bt rt lm h hA h79 n.toNat (by omega)) rfl (kV ?_)
      rintro m' ⟨im2, lm2, hR2, hU, hlg2, rfl⟩
      rw [show vI ((n.toNat : Nat) : Int) = vI n by rw [Int.toNat_of_nonneg (by omega)]]
      refine q_iload_n (t := 33) F dX9_run_32 rfl rfl rfl ?_
      refine q_iconst (t := 34) F dX9_run_33 rfl ?_
      refine q_icmp_ge (t := 37) (u := 53) F dX9_run_34 (by first | exact hR _ _ _ | (constructor <;> omega)) (by first | exact hR _ _ _ | (constructor <;> omega)) (by decide) rfl (fun c34 => ?_) (fun c34 => ?_)
      · refine q_iload_n (t := 54) F dX9_run_53 rfl rfl rfl ?_
        refine q_iconst (t := 55) F dX9_run_54 rfl ?_
        refine q_icmp_ne (t := 58) (u := 65) F dX9_run_55 (by first | exact hR _ _ _ | (constructor <;> omega)) (by first | exact hR _ _ _ | (constructor <;> omega)) (by decide) rfl (fun c55 => ?_) (fun c55 => ?_)
        · refine q_iload_n (t := 66) F dX9_run_65 rfl rfl rfl ?_
          refine q_iconst (t := 67) F dX9_run_66 rfl ?_
          refine q_icmp_ne (t := 70) (u := 77) F dX9_run_67 (by first | exact hR _ _ _ | (constructor <;> omega)) (by first | exact hR _ _ _ | (constructor <;> omega)) (by decide) rfl (fun c67 => ?_) (fun c67 => ?_)
          · refine q_aload_n (t := 78) F dX9_run_77 rfl rfl rfl ?_
            refine g_X9_379 (t := 81) F dX9_run_78 rfl rfl ?_
            try simp only [up_app, row_app, scr_app, cpy_app, Nat.reduceEqDiff, Int.reduceToNat, Int.toNat_natCast, and_true, true_and, and_false, false_and, and_self, reduceIte]
            refine q_iret F dX9_run_81 rfl ?_
            first
              | exact ⟨_, rfl, fun _ => ⟨rfl, rfl⟩, fun z => absurd z (by omega)⟩
              | (refine ⟨_, rfl, fun z => absurd (by omega) z, fun _ => ⟨im2, lm2, ?_, hR2, hU, hlg2, rfl⟩⟩
                 (repeat' split) <;> first | rfl | (exfalso; omega))
          · refine q_aload_n (t := 71) F dX9_run_70 rfl rfl rfl ?_
            refine g_X9_376 (t := 74) F dX9_run_71 rfl rfl ?_
            try simp only [up_app, row_app, scr_app, cpy_app, Nat.reduceEqDiff, Int.reduceToNat, Int.toNat_natCast, and_true, true_and, and_false, false_and, and_self, reduceIte]
            refine q_goto (t := 81) F dX9_run_74 (by decide) ?_
            refine q_iret F dX9_run_81 rfl ?_
            first
              | exact ⟨_, rfl, fun _ => ⟨rfl, rfl⟩, fun z => absurd z (by omega)⟩
              | (refine ⟨_, rfl, fun z => absurd (by omega) z, fun _ => ⟨im2, lm2, ?_, hR2, hU, hlg2, rfl⟩⟩
                 (repeat' split) <;> first | rfl | (exfalso; omega))
        · refine q_aload_n (t := 59) F dX9_run_58 rfl rfl rfl ?_
          refine g_X9_373 (t := 62) F dX9_run_59 rfl rfl ?_
          try simp only [up_app, row_app, scr_app, cpy_app, Nat.reduceEqDiff, Int.reduceToNat, Int.toNat_natCast, and_true, true_and, and_false, false_and, and_self, reduceIte]
          refine q_goto (t := 81) F dX9_run_62 (by decide) ?_
          refine q_iret F dX9_run_81 rfl ?_
          first
            | exact ⟨_, rfl, fun _ => ⟨rfl, rfl⟩, fun z => absurd z (by omega)⟩
            | (refine ⟨_, rfl, fun z => absurd (by omega) z, fun _ => ⟨im2, lm2, ?_, hR2, hU, hlg2, rfl⟩⟩
               (repeat' split) <;> first | rfl | (exfalso; omega))
      · refine q_iload_n (t := 38) F dX9_run_37 rfl rfl rfl ?_
        refine q_if_ne (t := 41) (u := 48) F dX9_run_38 (by first | exact hR _ _ _ | (constructor <;> omega)) (by decide) rfl (fun c38 => ?_) (fun c38 => ?_)
        · refine q_aload_n (t := 49) F dX9_run_48 rfl rfl rfl ?_
          refine g_X9_370 (t := 52) F dX9_run_49 rfl rfl ?_
          try simp only [up_app, row_app, scr_app, cpy_app, Nat.reduceEqDiff, Int.reduceToNat, Int.toNat_natCast, and_true, true_and, and_false, false_and, and_self, reduceIte]
          refine q_iret F dX9_run_52 rfl ?_
          first
            | exact ⟨_, rfl, fun _ => ⟨rfl, rfl⟩, fun z => absurd z (by omega)⟩
            | (refine ⟨_, rfl, fun z => absurd (by omega) z, fun _ => ⟨im2, lm2, ?_, hR2, hU, hlg2, rfl⟩⟩
               (repeat' split) <;> first | rfl | (exfalso; omega))
        · refine q_aload_n (t := 42) F dX9_run_41 rfl rfl rfl ?_
          refine g_X9_401 (t := 45) F dX9_run_42 rfl rfl ?_
          try simp only [up_app, row_app, scr_app, cpy_app, Nat.reduceEqDiff, Int.reduceToNat, Int.toNat_natCast, and_true, true_and, and_false, false_and, and_self, reduceIte]
          refine q_goto (t := 52) F dX9_run_45 (by decide) ?_
          refine q_iret F dX9_run_52 rfl ?_
          first
            | exact ⟨_, rfl, fun _ => ⟨rfl, rfl⟩, fun z => absurd z (by omega)⟩
            | (refine ⟨_, rfl, fun z => absurd (by omega) z, fun _ => ⟨im2, lm2, ?_, hR2, hU, hlg2, rfl⟩⟩
               (repeat' split) <;> first | rfl | (exfalso; omega))
    · refine q_bipush (t := 26) F dX9_run_24 (by decide) rfl ?_
      refine q_iret F dX9_run_26 rfl ?_
      first
        | exact ⟨_, rfl, fun _ => ⟨rfl, rfl⟩, fun z => absurd z (by omega)⟩
        | (refine ⟨_, rfl, fun z => absurd (by omega) z, fun _ => ⟨im2, lm2, ?_, hR2, hU, hlg2, rfl⟩⟩
           (repeat' split) <;> first | rfl | (exfalso; omega))

set_option maxHeartbeats 4000000 in
theorem c_X9_off (l : Launch) (G : GS) (im : IM) (bt rt : Nat) (lm : IM) (h : RC im) (hA : AG im 1000) (h79 : im 30 0 7 ≤ 999) (p g n : Int) (hp : ri p) (hg : ri g) (hn : ri n) : Cn l (XR G) yX9_off Y_X9_off [vR 30 0, vI p, vI g, vI n] (im, rs bt rt, lm) (pI fun x m' => (¬ ((0 ≤ p ∧ p < im 30 0 12) ∧ (0 ≤ g ∧ g ≤ 9) ∧ 0 ≤ n ∧ n ≤ 60) → x = -2 ∧ m' = (im, rs bt rt, lm)) ∧ ((0 ≤ p ∧ p < im 30 0 12) ∧ (0 ≤ g ∧ g ≤ 9) ∧ 0 ≤ n ∧ n ≤ 60 → ∃ im' lm', x = whenR im n.toNat (10 * p.toNat + g.toNat) ∧ RI im' ∧ RU im n.toNat im' ∧ lgQ lm' lm ∧ m' = (im', rs bt rt, lm'))) := by
  refine cn_of (by decide) (okR G) rfl (Nat.le_of_ble_eq_true rfl) ?_
  intro M ad hMl F
  subst hMl
  have hR := h.1
  have hX := h.2.1
  have h4 := h.2.2.1
  have h12 := h.2.2.2.1
  have h7 := h.2.2.2.2.1
  have h6 := hX.2.2.1
  have h3 := hX.2.2.2.1
  have hP := h.2.2.2.2.2.2
  have hR := h.1
  have p1 := hp.1
  have p2 := hp.2
  have g1 := hg.1
  have g2 := hg.2
  have n1 := hn.1
  have n2 := hn.2
  refine wp_pad 0 ?_
  show Wp M (XR G) ad Y_X9_off (pI fun x m' => (¬ ((0 ≤ p ∧ p < im 30 0 12) ∧ (0 ≤ g ∧ g ≤ 9) ∧ 0 ≤ n ∧ n ≤ 60) → x = -2 ∧ m' = (im, rs bt rt, lm)) ∧ ((0 ≤ p ∧ p < im 30 0 12) ∧ (0 ≤ g ∧ g ≤ 9) ∧ 0 ≤ n ∧ n ≤ 60 → ∃ im' lm', x = whenR im n.toNat (10 * p.toNat + g.toNat) ∧ RI im' ∧ RU im n.toNat im' ∧ lgQ lm' lm ∧ m' = (im', rs bt rt, lm'))) 0 [some (vR 30 0), some (vI p), some (vI g), some (vI n)] [] (im, rs bt rt, lm)
  refine q_aload_n (t := 1) F dX9_off_0 rfl rfl rfl ?_
  refine q_iload_n (t := 2) F dX9_off_1 rfl rfl rfl ?_
  refine wp_callV (t := 5) [_] F dX9_off_2 k_X9_isOne v_X9_isOne ml_X9_101 rfl rfl rfl rfl (Nat.le_of_ble_eq_true rfl) (by decide) (m_30 (by omega)) (c_X9_isOne _ G im bt rt lm hR h12.1 h12.2 p (by constructor <;> omega)) rfl (kI ?_)
  rintro x2 m' ⟨hx2, rfl⟩
  have hx2 := if01 hx2
  refine q_if_eq (t := 8) (u := 27) F dX9_off_5 (by first | exact hR _ _ _ | (constructor <;> omega)) (by decide) rfl (fun c5 => ?_) (fun c5 => ?_)
  · refine q_bipush (t := 29) F dX9_off_27 (by decide) rfl ?_
    refine q_iret F dX9_off_29 rfl ?_
    first
      | exact ⟨_, rfl, fun _ => ⟨rfl, rfl⟩, fun z => absurd z (by omega)⟩
      | (refine ⟨_, rfl, fun z => absurd (by omega) z, fun _ => ⟨im2, lm2, ?_, hR2, hU, hlg2, rfl⟩⟩
         exact (hU.2.1 (10 * p.toNat + g.toNat) (by omega)).1)
  · refine q_iload_n (t := 9) F dX9_off_8 rfl rfl rfl ?_
    refine wp_callS (t := 12) [_] F dX9_off_9 k_X9_isGap st_X9_isGap ml_X9_138 rfl rfl (Nat.le_of_ble_eq_true rfl) (by decide) (c_X9_isGap _ G im bt rt lm g (by constructor <;> omega)) rfl (kI ?_)
    rintro x9 m' ⟨hx9, rfl⟩
    have hx9 := if01 hx9
    refine q_if_eq (t := 15) (u := 27) F dX9_off_12 (by first | exact hR _ _ _ | (constructor <;> omega)) (by decide) rfl (fun c12 => ?_) (fun c12 => ?_)
    · refine q_bipush (t := 29) F dX9_off_27 (by decide) rfl ?_
      refine q_iret F dX9_off_29 rfl ?_
      first
        | exact ⟨_, rfl, fun _ => ⟨rfl, rfl⟩, fun z => absurd z (by omega)⟩
        | (refine ⟨_, rfl, fun z => absurd (by omega) z, fun _ => ⟨im2, lm2, ?_, hR2, hU, hlg2, rfl⟩⟩
           exact (hU.2.1 (10 * p.toNat + g.toNat) (by omega)).1)
    · refine q_iload_n (t := 16) F dX9_off_15 rfl rfl rfl ?_
      refine q_i2l (t := 17) F dX9_off_16 (by first | exact hR _ _ _ | (constructor <;> omega)) rfl ?_
      refine q_lconst (t := 18) (x := 0) F dX9_off_17 (by decide) rfl ?_
      refine q_ldc2 (t := 21) (x := 60) F dX9_off_18 kl_X9_242 (by decide) rfl ?_
      refine wp_callS (t := 24) [_, _, _] F dX9_off_21 k_X9_in st_X9_in ml_X9_91 rfl rfl (Nat.le_of_ble_eq_true rfl) (by decide) (c_X9_in _ G _ _ _ _ _ _ _ (by constructor <;> omega) (by constructor <;> omega) (by constructor <;> omega)) rfl (kI ?_)
      rintro x21 m' ⟨hx21, rfl⟩
      have hx21 := if01 hx21
      refine q_if_ne (t := 27) (u := 30) F dX9_off_24 (by first | exact hR _ _ _ | (constructor <;> omega)) (by decide) rfl (fun c24 => ?_) (fun c24 => ?_)
      · refine q_aload_n (t := 31) F dX9_off_30 rfl rfl rfl ?_
        refine q_iload_n (t := 32) F dX9_off_31 rfl rfl rfl ?_
        rw [show vI n = vI ((n.toNat : Nat) : Int) by rw [Int.toNat_of_nonneg (by omega)]]
        refine wp_callV (t := 35) [_] F dX9_off_32 k_X9_runs v_X9_runs ml_X9_410 rfl rfl rfl rfl (Nat.le_of_ble_eq_true rfl) (by decide) (m_30 (by omega)) (c_X9_runs _ G im bt rt lm h hA h79 n.toNat (by omega)) rfl (kV ?_)
        rintro m' ⟨im2, lm2, hR2, hU, hlg2, rfl⟩
        rw [show vI ((n.toNat : Nat) : Int) = vI n by rw [Int.toNat_of_nonneg (by omega)]]
        refine q_aload_n (t := 36) F dX9_off_35 rfl rfl rfl ?_
        refine g_X9_38 (t := 39) F dX9_off_36 rfl rfl ?_
        refine q_bipush (t := 41) F dX9_off_39 (by decide) rfl ?_
        refine q_iload_n (t := 42) F dX9_off_41 rfl rfl rfl ?_
        refine q_imul (t := 43) F dX9_off_42 rfl ?_
        refine q_iload_n (t := 44) F dX9_off_43 rfl rfl rfl ?_
        refine q_iadd (t := 45) F dX9_off_44 rfl ?_
        rw [show (10 : Int) * p + g = ((10 * p.toNat + g.toNat : Nat) : Int) by omega]
        first | refine ldN_38 (t := 46) F dX9_off_45 (by omega) rfl ?_ | refine ld_38 (t := 46) F dX9_off_45 (by omega) (by omega) rfl ?_
        try simp only [up_app, row_app, scr_app, cpy_app, Nat.reduceEqDiff, Int.reduceToNat, Int.toNat_natCast, and_true, true_and, and_false, false_and, and_self, reduceIte]
        refine q_iret F dX9_off_46 rfl ?_
        first
          | exact ⟨_, rfl, fun _ => ⟨rfl, rfl⟩, fun z => absurd z (by omega)⟩
          | (refine ⟨_, rfl, fun z => absurd (by omega) z, fun _ => ⟨im2, lm2, ?_, hR2, hU, hlg2, rfl⟩⟩
             exact (hU.2.1 (10 * p.toNat + g.toNat) (by omega)).1)
      · refine q_bipush (t := 29) F dX9_off_27 (by decide) rfl ?_
        refine q_iret F dX9_off_29 rfl ?_
        first
          | exact ⟨_, rfl, fun _ => ⟨rfl, rfl⟩, fun z => absurd z (by omega)⟩
          | (refine ⟨_, rfl, fun z => absurd (by omega) z, fun _ => ⟨im2, lm2, ?_, hR2, hU, hlg2, rfl⟩⟩
             exact (hU.2.1 (10 * p.toNat + g.toNat) (by omega)).1)
