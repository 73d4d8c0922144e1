section
/-! THE CLASS'S STATE: what later calls can see -/
def per (k i s : Nat) : Prop := k ≠ 5 ∧ ¬ (9 ≤ k ∧ k ≤ 13) ∧ k ≠ 16 ∧ k ≠ 17 ∧ k ≠ 20 ∧ ¬ (k = 18 ∧ i = 1) ∧ ¬ (21 ≤ k ∧ k ≤ 23 ∧ 5 ≤ i ∧ i < 10) ∧ ¬ (k = 14 ∧ s ≠ 1)
/-- two memories that later calls can't tell apart -/
def agP (a b : IM) : Prop := (∀ k i s, per k i s → a k i s = b k i s) ∧ a 13 0 0 = b 13 0 0
theorem agP_rfl (a : IM) : agP a a := ⟨fun _ _ _ _ => rfl, rfl⟩
theorem agP.trans {a b c : IM} (h : agP a b) (h2 : agP b c) : agP a c := ⟨fun k i s hp => (h.1 k i s hp).trans (h2.1 k i s hp), h.2.trans h2.2⟩
theorem agP_of {a b : IM} (h : ag [5, 9, 10, 11, 12, 16, 17, 20] a b) : agP a b := by
  refine ⟨fun k i s hp => ?_, h 13 (by decide) 0 0⟩
  refine h k ?_ i s
  unfold per at hp
  simp only [List.mem_cons, List.not_mem_nil, or_false]
  omega
theorem agP_of13 {a b : IM} (h : ag [5, 9, 10, 11, 12, 13, 16, 17, 20] a b) (h2 : a 13 0 0 = b 13 0 0) : agP a b := by
  refine ⟨fun k i s hp => ?_, h2⟩
  refine h k ?_ i s
  unfold per at hp
  simp only [List.mem_cons, List.not_mem_nil, or_false]
  omega
/-- the class is in order -/
def SC (im : IM) : Prop := RI im ∧ WI im 0 ∧ im 18 0 4 ≤ 999 ∧ (1 ≤ im 0 0 8 ∧ im 0 0 8 ≤ 6) ∧ im 18 0 7 < im 0 0 8 ∧ (∀ j : Nat, (j : Int) < im 0 0 8 → goodT im j) ∧ im 13 0 0 = 0 ∧ (0 ≤ im 14 0 1 ∧ im 14 0 1 ≤ 160) ∧ (∀ j, j < 4 → -1 ≤ im 7 j 1 ∧ im 7 j 1 ≤ 2 ∧ 0 ≤ im 7 j 2 ∧ im 7 j 2 ≤ 40) ∧ ((im 0 0 9 = 0 ∨ im 0 0 9 = 1) ∧ (im 0 0 9 = 1 → WI im 2 ∧ im 18 2 4 ≤ 999 ∧ im 18 2 7 < im 0 0 8)) ∧ (∀ i, i < 160 → 0 ≤ im 15 0 i ∧ im 15 0 i ≤ 255)
/-- behind a call: what it keeps -/
def stC (lm F : IM) (m' : Mem) : Prop := ∃ im' bt' rt', bt' < 6 ∧ rt' < 6 ∧ RI im' ∧ agP im' F ∧ m' = (im', rs bt' rt', lm)
theorem if01 {c : Prop} [Decidable c] {x : Int} (h : x = if c then 1 else 0) : (x = 1 ∧ c) ∨ (x = 0 ∧ ¬ c) := by
  by_cases hc : c
  · left; rw [if_pos hc] at h; exact ⟨h, hc⟩
  · right; rw [if_neg hc] at h; exact ⟨h, hc⟩

def setA (im : IM) (what of v : Int) : Int := if what = 0 then (if 0 ≤ v ∧ v ≤ 999 then im 18 0 4 else -2) else if what = 1 then (if 0 ≤ v ∧ v < 16777216 then im 18 0 5 else -2) else if what = 2 ∧ (0 ≤ of ∧ of < im 18 0 3) ∧ 0 ≤ v ∧ v < 10 then im 21 (5 * 0 + of.toNat) 1 else -2
def setM (im : IM) (what of v : Int) : IM := if what = 0 then (if 0 ≤ v ∧ v ≤ 999 then up im 18 0 4 v else im) else if what = 1 then (if 0 ≤ v ∧ v < 16777216 then up im 18 0 5 v else im) else if what = 2 ∧ (0 ≤ of ∧ of < im 18 0 3) ∧ 0 ≤ v ∧ v < 10 then up im 21 (5 * 0 + of.toNat) 1 v else im

set_option maxHeartbeats 4000000 in
theorem c_X8_setHour (l : Launch) (G : GS) (im : IM) (bt rt : Nat) (lm : IM) (v : Int) (hv : ri v) : Cn l (XC G) yX8_setHour Y_X8_setHour [vR 0 0, vI v] (im, rs bt rt, lm) (pI fun x m' => x = (if 0 ≤ v ∧ v ≤ 999 then im 18 0 4 else -2) ∧ m' = ((if 0 ≤ v ∧ v ≤ 999 then up im 18 0 4 v else im), rs bt rt, lm)) := by
  refine cn_of (by decide) (okC G) rfl (Nat.le_of_ble_eq_true rfl) ?_
  intro M ad hMl F
  subst hMl
  have hv1 := hv.1
  have hv2 := hv.2
  refine wp_pad 1 ?_
  show Wp M (XC G) ad Y_X8_setHour (pI fun x m' => x = (if 0 ≤ v ∧ v ≤ 999 then im 18 0 4 else -2) ∧ m' = ((if 0 ≤ v ∧ v ≤ 999 then up im 18 0 4 v else im), rs bt rt, lm)) 0 [some (vR 0 0), some (vI v), none] [] (im, rs bt rt, lm)
  refine q_iload_n (t := 1) F dX8_setHour_0 rfl rfl rfl ?_
  refine q_if_lt (t := 4) (u := 11) F dX8_setHour_1 (by first | exact hR _ _ _ | (constructor <;> omega)) (by decide) rfl (fun c1 => ?_) (fun c1 => ?_)
  · refine q_bipush (t := 13) F dX8_setHour_11 (by decide) rfl ?_
    refine q_iret F dX8_setHour_13 rfl ?_
    first | exact ⟨_, rfl, by rw [if_pos (by omega)], by rw [if_pos (by omega)]⟩ | exact ⟨_, rfl, by rw [if_neg (by omega)], by rw [if_neg (by omega)]⟩
  · refine q_iload_n (t := 5) F dX8_setHour_4 rfl rfl rfl ?_
    refine q_sipush (t := 8) F dX8_setHour_5 (by decide) rfl ?_
    refine q_icmp_le (t := 11) (u := 14) F dX8_setHour_8 (by first | exact hR _ _ _ | (constructor <;> omega)) (by first | exact hR _ _ _ | (constructor <;> omega)) (by decide) rfl (fun c8 => ?_) (fun c8 => ?_)
    · refine q_aload_n (t := 15) F dX8_setHour_14 rfl rfl rfl ?_
      refine g_X8_51 (t := 18) F dX8_setHour_15 rfl rfl ?_
      refine g_X8_108 (t := 21) F dX8_setHour_18 rfl (by omega) rfl ?_
      refine q_istore_n (t := 22) F dX8_setHour_21 rfl (by decide) rfl rfl ?_
      refine q_aload_n (t := 23) F dX8_setHour_22 rfl rfl rfl ?_
      refine g_X8_51 (t := 26) F dX8_setHour_23 rfl rfl ?_
      refine q_iload_n (t := 27) F dX8_setHour_26 rfl rfl rfl ?_
      refine p_X8_108 (t := 30) F dX8_setHour_27 rfl (by omega) rfl ?_
      refine q_iload_n (t := 31) F dX8_setHour_30 rfl rfl rfl ?_
      refine q_iret F dX8_setHour_31 rfl ?_
      first | exact ⟨_, rfl, by rw [if_pos (by omega)], by rw [if_pos (by omega)]⟩ | exact ⟨_, rfl, by rw [if_neg (by omega)], by rw [if_neg (by omega)]⟩
    · refine q_bipush (t := 13) F dX8_setHour_11 (by decide) rfl ?_
      refine q_iret F dX8_setHour_13 rfl ?_
      first | exact ⟨_, rfl, by rw [if_pos (by omega)], by rw [if_pos (by omega)]⟩ | exact ⟨_, rfl, by rw [if_neg (by omega)], by rw [if_neg (by omega)]⟩

set_option maxHeartbeats 4000000 in
theorem c_X8_setChurch (l : Launch) (G : GS) (im : IM) (bt rt : Nat) (lm : IM) (v : Int) (hv : ri v) : Cn l (XC G) yX8_setChurch Y_X8_setChurch [vR 0 0, vI v] (im, rs bt rt, lm) (pI fun x m' => x = (if 0 ≤ v ∧ v < 16777216 then im 18 0 5 else -2) ∧ m' = ((if 0 ≤ v ∧ v < 16777216 then up im 18 0 5 v else im), rs bt rt, lm)) := by
  refine cn_of (by decide) (okC G) rfl (Nat.le_of_ble_eq_true rfl) ?_
  intro M ad hMl F
  subst hMl
  have hv1 := hv.1
  have hv2 := hv.2
  refine wp_pad 1 ?_
  show Wp M (XC G) ad Y_X8_setChurch (pI fun x m' => x = (if 0 ≤ v ∧ v < 16777216 then im 18 0 5 else -2) ∧ m' = ((if 0 ≤ v ∧ v < 16777216 then up im 18 0 5 v else im), rs bt rt, lm)) 0 [some (vR 0 0), some (vI v), none] [] (im, rs bt rt, lm)
  refine q_iload_n (t := 1) F dX8_setChurch_0 rfl rfl rfl ?_
  refine q_ldc (t := 3) (x := 16777216) F dX8_setChurch_1 ki_X8_111 (by decide) rfl ?_
  refine wp_callS (t := 6) [_, _] F dX8_setChurch_3 k_X8_within st_X8_within ml_X8_95 rfl rfl (Nat.le_of_ble_eq_true rfl) (by decide) (c_X8_within _ G _ bt rt lm v 16777216 hv (by constructor <;> omega)) rfl (kI ?_)
  rintro x3 m' ⟨hx3, rfl⟩
  have hx3 := if01 hx3
  refine q_if_ne (t := 9) (u := 12) F dX8_setChurch_6 (by first | exact hR _ _ _ | (constructor <;> omega)) (by decide) rfl (fun c6 => ?_) (fun c6 => ?_)
  · refine q_aload_n (t := 13) F dX8_setChurch_12 rfl rfl rfl ?_
    refine g_X8_51 (t := 16) F dX8_setChurch_13 rfl rfl ?_
    refine g_X8_112 (t := 19) F dX8_setChurch_16 rfl (by omega) rfl ?_
    try simp only [up_app, row_app, scr_app, cpy_app, Nat.reduceEqDiff, Int.reduceToNat, Int.toNat_natCast, and_true, true_and, and_false, false_and, and_self, reduceIte]
    refine q_istore_n (t := 20) F dX8_setChurch_19 rfl (by decide) rfl rfl ?_
    refine q_aload_n (t := 21) F dX8_setChurch_20 rfl rfl rfl ?_
    refine g_X8_51 (t := 24) F dX8_setChurch_21 rfl rfl ?_
    refine q_iload_n (t := 25) F dX8_setChurch_24 rfl rfl rfl ?_
    refine p_X8_112 (t := 28) F dX8_setChurch_25 rfl (by omega) rfl ?_
    refine q_iload_n (t := 29) F dX8_setChurch_28 rfl rfl rfl ?_
    refine q_iret F dX8_setChurch_29 rfl ?_
    first | exact ⟨_, rfl, by rw [if_pos (by omega)], by rw [if_pos (by omega)]⟩ | exact ⟨_, rfl, by rw [if_neg (by omega)], by rw [if_neg (by omega)]⟩
  · refine q_bipush (t := 11) F dX8_setChurch_9 (by decide) rfl ?_
    refine q_iret F dX8_setChurch_11 rfl ?_
    first | exact ⟨_, rfl, by rw [if_pos (by omega)], by rw [if_pos (by omega)]⟩ | exact ⟨_, rfl, by rw [if_neg (by omega)], by rw [if_neg (by omega)]⟩

set_option maxHeartbeats 4000000 in
theorem c_X8_set (l : Launch) (G : GS) (im : IM) (bt rt : Nat) (lm : IM) (hbt : bt < 6) (hrt : rt < 6) (hS : SC im) (what : Int) (of : Int) (v : Int) (hwhat : ri what) (hof : ri of) (hv : ri v) : Cn l (XC G) yX8_set Y_X8_set [vR 0 0, vI what, vI of, vI v] (im, rs bt rt, lm) (pI fun x m' => x = setA im what of v ∧ stC lm (setM im what of v) m') := by
  refine cn_of (by decide) (okC G) rfl (Nat.le_of_ble_eq_true rfl) ?_
  intro M ad hMl F
  subst hMl
  obtain ⟨hR, hW, hh, htc, hru, hgt, hz, hrd, hsh, him, htp⟩ := hS
  have w1 := hW.1
  have w2 := hW.2.1
  have w3 := hW.2.2.1
  have w4 := hW.2.2.2.1
  have w5 := hW.2.2.2.2.1
  have hwhat1 := hwhat.1
  have hwhat2 := hwhat.2
  have hof1 := hof.1
  have hof2 := hof.2
  have hv1 := hv.1
  have hv2 := hv.2
  refine wp_pad 2 ?_
  show Wp M (XC G) ad Y_X8_set (pI fun x m' => x = setA im what of v ∧ stC lm (setM im what of v) m') 0 [some (vR 0 0), some (vI what), some (vI of), some (vI v), none, none] [] (im, rs bt rt, lm)
  refine q_iload_n (t := 1) F dX8_set_0 rfl rfl rfl ?_
  refine q_if_ne (t := 4) (u := 10) F dX8_set_1 (by first | exact hR _ _ _ | (constructor <;> omega)) (by decide) rfl (fun c1 => ?_) (fun c1 => ?_)
  · refine q_iload_n (t := 11) F dX8_set_10 rfl rfl rfl ?_
    refine q_iconst (t := 12) F dX8_set_11 rfl ?_
    refine q_icmp_ne (t := 15) (u := 21) F dX8_set_12 (by first | exact hR _ _ _ | (constructor <;> omega)) (by first | exact hR _ _ _ | (constructor <;> omega)) (by decide) rfl (fun c12 => ?_) (fun c12 => ?_)
    · refine q_iload_n (t := 22) F dX8_set_21 rfl rfl rfl ?_
      refine q_iconst (t := 23) F dX8_set_22 rfl ?_
      refine q_icmp_ne (t := 26) (u := 43) F dX8_set_23 (by first | exact hR _ _ _ | (constructor <;> omega)) (by first | exact hR _ _ _ | (constructor <;> omega)) (by decide) rfl (fun c23 => ?_) (fun c23 => ?_)
      · refine q_bipush (t := 45) F dX8_set_43 (by decide) rfl ?_
        refine q_iret F dX8_set_45 rfl ?_
        refine ⟨_, rfl, ?_, _, bt, rt, hbt, hrt, (by repeat' first | exact hR | refine RI_up ?_ ?_ | assumption | exact hR _ _ _ | (constructor <;> omega)), ?_, rfl⟩
        · unfold setA
          (repeat' split) <;> omega
        · unfold setM
          (repeat' split) <;> first | exact agP_rfl _ | (exfalso; omega)
      · refine q_aload_n (t := 27) F dX8_set_26 rfl rfl rfl ?_
        refine q_iload_n (t := 28) F dX8_set_27 rfl rfl rfl ?_
        refine wp_callV (t := 31) [_] F dX8_set_28 k_X8_isOne v_X8_isOne ml_X8_91 rfl rfl rfl rfl (Nat.le_of_ble_eq_true rfl) (by decide) (m_0 (by omega)) (c_X8_isOne _ G _ bt rt lm of hof hR) rfl (kI ?_)
        rintro x28 m' ⟨hx28, rfl⟩
        have hx28 := if01 hx28
        refine q_if_eq (t := 34) (u := 43) F dX8_set_31 (by first | exact hR _ _ _ | (constructor <;> omega)) (by decide) rfl (fun c31 => ?_) (fun c31 => ?_)
        · refine q_bipush (t := 45) F dX8_set_43 (by decide) rfl ?_
          refine q_iret F dX8_set_45 rfl ?_
          refine ⟨_, rfl, ?_, _, bt, rt, hbt, hrt, (by repeat' first | exact hR | refine RI_up ?_ ?_ | assumption | exact hR _ _ _ | (constructor <;> omega)), ?_, rfl⟩
          · unfold setA
            (repeat' split) <;> omega
          · unfold setM
            (repeat' split) <;> first | exact agP_rfl _ | (exfalso; omega)
        · refine q_iload_n (t := 35) F dX8_set_34 rfl rfl rfl ?_
          refine q_bipush (t := 37) F dX8_set_35 (by decide) rfl ?_
          refine wp_callS (t := 40) [_, _] F dX8_set_37 k_X8_within st_X8_within ml_X8_95 rfl rfl (Nat.le_of_ble_eq_true rfl) (by decide) (c_X8_within _ G _ bt rt lm v 10 hv (by constructor <;> omega)) rfl (kI ?_)
          rintro x37 m' ⟨hx37, rfl⟩
          have hx37 := if01 hx37
          refine q_if_ne (t := 43) (u := 46) F dX8_set_40 (by first | exact hR _ _ _ | (constructor <;> omega)) (by decide) rfl (fun c40 => ?_) (fun c40 => ?_)
          · refine q_aload_n (t := 47) F dX8_set_46 rfl rfl rfl ?_
            refine g_X8_51 (t := 50) F dX8_set_47 rfl rfl ?_
            refine g_X8_99 (t := 53) F dX8_set_50 rfl (by omega) rfl ?_
            refine q_iload_n (t := 54) F dX8_set_53 rfl rfl rfl ?_
            refine la_19 (t := 55) F dX8_set_54 (by omega) (by omega) (by omega) rfl ?_
            refine q_astore (t := 57) F dX8_set_55 (by decide) rfl rfl ?_
            refine q_aload (t := 59) F dX8_set_57 rfl rfl ?_
            refine g_X8_103 (t := 62) F dX8_set_59 rfl (by omega) rfl ?_
            try simp only [up_app, row_app, scr_app, cpy_app, Nat.reduceEqDiff, Int.reduceToNat, Int.toNat_natCast, and_true, true_and, and_false, false_and, and_self, reduceIte]
            refine q_istore (t := 64) F dX8_set_62 (by decide) rfl rfl ?_
            refine q_aload (t := 66) F dX8_set_64 rfl rfl ?_
            refine q_iload_n (t := 67) F dX8_set_66 rfl rfl rfl ?_
            refine p_X8_103 (t := 70) F dX8_set_67 rfl (by omega) rfl ?_
            refine q_iload (t := 72) F dX8_set_70 rfl rfl ?_
            refine q_iret F dX8_set_72 rfl ?_
            refine ⟨_, rfl, ?_, _, bt, rt, hbt, hrt, (by repeat' first | exact hR | refine RI_up ?_ ?_ | assumption | exact hR _ _ _ | (constructor <;> omega)), ?_, rfl⟩
            · unfold setA
              (repeat' split) <;> omega
            · unfold setM
              (repeat' split) <;> first | exact agP_rfl _ | (exfalso; omega)
          · refine q_bipush (t := 45) F dX8_set_43 (by decide) rfl ?_
            refine q_iret F dX8_set_45 rfl ?_
            refine ⟨_, rfl, ?_, _, bt, rt, hbt, hrt, (by repeat' first | exact hR | refine RI_up ?_ ?_ | assumption | exact hR _ _ _ | (constructor <;> omega)), ?_, rfl⟩
            · unfold setA
              (repeat' split) <;> omega
            · unfold setM
              (repeat' split) <;> first | exact agP_rfl _ | (exfalso; omega)
    · refine q_aload_n (t := 16) F dX8_set_15 rfl rfl rfl ?_
      refine q_iload_n (t := 17) F dX8_set_16 rfl rfl rfl ?_
      refine wp_callV (t := 20) [_] F dX8_set_17 k_X8_setChurch v_X8_setChurch ml_X8_88 rfl rfl rfl rfl (Nat.le_of_ble_eq_true rfl) (by decide) (m_0 (by omega)) (c_X8_setChurch _ G im bt rt lm v hv) rfl (kI ?_)
      rintro x17 m' ⟨rfl, rfl⟩
      refine q_iret F dX8_set_20 rfl ?_
      refine ⟨_, rfl, ?_, _, bt, rt, hbt, hrt, (by split <;> first | exact RI_up hR hv | exact hR), ?_, rfl⟩
      · unfold setA
        (repeat' split) <;> omega
      · unfold setM
        (repeat' split) <;> first | exact agP_rfl _ | (exfalso; omega)
  · refine q_aload_n (t := 5) F dX8_set_4 rfl rfl rfl ?_
    refine q_iload_n (t := 6) F dX8_set_5 rfl rfl rfl ?_
    refine wp_callV (t := 9) [_] F dX8_set_6 k_X8_setHour v_X8_setHour ml_X8_85 rfl rfl rfl rfl (Nat.le_of_ble_eq_true rfl) (by decide) (m_0 (by omega)) (c_X8_setHour _ G im bt rt lm v hv) rfl (kI ?_)
    rintro x6 m' ⟨rfl, rfl⟩
    refine q_iret F dX8_set_9 rfl ?_
    refine ⟨_, rfl, ?_, _, bt, rt, hbt, hrt, (by split <;> first | exact RI_up hR hv | exact hR), ?_, rfl⟩
    · unfold setA
      (repeat' split) <;> omega
    · unfold setM
      (repeat' split) <;> first | exact agP_rfl _ | (exfalso; omega)

def manA (im : IM) (kind number : Int) : Int := if (0 ≤ kind ∧ kind < 6) ∧ 0 ≤ number ∧ number < 10 then (if 5 ≤ im 18 0 3 then -4 else im 18 0 3) else -2
def manM (im : IM) (kind number : Int) : IM := if ((0 ≤ kind ∧ kind < 6) ∧ 0 ≤ number ∧ number < 10) ∧ im 18 0 3 < 5 then welM im 0 kind number else im

set_option maxHeartbeats 4000000 in
theorem c_X8_man (l : Launch) (G : GS) (im : IM) (bt rt : Nat) (lm : IM) (hbt : bt < 6) (hrt : rt < 6) (hS : SC im) (kind : Int) (number : Int) (hkind : ri kind) (hnumber : ri number) : Cn l (XC G) yX8_man Y_X8_man [vR 0 0, vI kind, vI number] (im, rs bt rt, lm) (pI fun x m' => x = manA im kind number ∧ stC lm (manM im kind number) m') := by
  refine cn_of (by decide) (okC G) rfl (Nat.le_of_ble_eq_true rfl) ?_
  intro M ad hMl F
  subst hMl
  obtain ⟨hR, hW, hh, htc, hru, hgt, hz, hrd, hsh, him, htp⟩ := hS
  have w1 := hW.1
  have w2 := hW.2.1
  have w3 := hW.2.2.1
  have w4 := hW.2.2.2.1
  have w5 := hW.2.2.2.2.1
  have hkind1 := hkind.1
  have hkind2 := hkind.2
  have hnumber1 := hnumber.1
  have hnumber2 := hnumber.2
  refine wp_pad 0 ?_
  show Wp M (XC G) ad Y_X8_man (pI fun x m' => x = manA im kind number ∧ stC lm (manM im kind number) m') 0 [some (vR 0 0), some (vI kind), some (vI number)] [] (im, rs bt rt, lm)
  refine q_iload_n (t := 1) F dX8_man_0 rfl rfl rfl ?_
  refine q_bipush (t := 3) F dX8_man_1 (by decide) rfl ?_
  refine wp_callS (t := 6) [_, _] F dX8_man_3 k_X8_within st_X8_within ml_X8_95 rfl rfl (Nat.le_of_ble_eq_true rfl) (by decide) (c_X8_within _ G _ bt rt lm kind 6 hkind (by constructor <;> omega)) rfl (kI ?_)
  rintro x3 m' ⟨hx3, rfl⟩
  have hx3 := if01 hx3
  refine q_if_eq (t := 9) (u := 18) F dX8_man_6 (by first | exact hR _ _ _ | (constructor <;> omega)) (by decide) rfl (fun c6 => ?_) (fun c6 => ?_)
  · refine q_bipush (t := 20) F dX8_man_18 (by decide) rfl ?_
    refine q_iret F dX8_man_20 rfl ?_
    refine ⟨_, rfl, ?_, _, bt, rt, hbt, hrt, (by repeat' first | exact hR | refine RI_up ?_ ?_ | assumption | exact hR _ _ _ | (constructor <;> omega)), ?_, rfl⟩
    · unfold manA
      (repeat' split) <;> omega
    · unfold manM
      (repeat' split) <;> first | exact agP_rfl _ | (exfalso; omega)
  · refine q_iload_n (t := 10) F dX8_man_9 rfl rfl rfl ?_
    refine q_bipush (t := 12) F dX8_man_10 (by decide) rfl ?_
    refine wp_callS (t := 15) [_, _] F dX8_man_12 k_X8_within st_X8_within ml_X8_95 rfl rfl (Nat.le_of_ble_eq_true rfl) (by decide) (c_X8_within _ G _ bt rt lm number 10 hnumber (by constructor <;> omega)) rfl (kI ?_)
    rintro x12 m' ⟨hx12, rfl⟩
    have hx12 := if01 hx12
    refine q_if_ne (t := 18) (u := 21) F dX8_man_15 (by first | exact hR _ _ _ | (constructor <;> omega)) (by decide) rfl (fun c15 => ?_) (fun c15 => ?_)
    · refine q_aload_n (t := 22) F dX8_man_21 rfl rfl rfl ?_
      refine g_X8_51 (t := 25) F dX8_man_22 rfl rfl ?_
      refine g_X8_115 (t := 28) F dX8_man_25 rfl (by omega) rfl ?_
      try simp only [up_app, row_app, scr_app, cpy_app, Nat.reduceEqDiff, Int.reduceToNat, Int.toNat_natCast, and_true, true_and, and_false, false_and, and_self, reduceIte]
      refine q_iconst (t := 29) F dX8_man_28 rfl ?_
      refine q_icmp_lt (t := 32) (u := 35) F dX8_man_29 (by first | exact hR _ _ _ | (constructor <;> omega)) (by first | exact hR _ _ _ | (constructor <;> omega)) (by decide) rfl (fun c29 => ?_) (fun c29 => ?_)
      · refine q_aload_n (t := 36) F dX8_man_35 rfl rfl rfl ?_
        refine g_X8_51 (t := 39) F dX8_man_36 rfl rfl ?_
        refine q_iload_n (t := 40) F dX8_man_39 rfl rfl rfl ?_
        refine q_iload_n (t := 41) F dX8_man_40 rfl rfl rfl ?_
        refine wp_callV (t := 44) [_, _] F dX8_man_41 k_X7_welcome v_X7_welcome ml_X8_118 rfl rfl rfl rfl (Nat.le_of_ble_eq_true rfl) (by decide) (m_18 (by omega)) (c_X7_welcome _ G im bt rt lm 0 (by omega) kind number w1.1 (by omega)) rfl (kI ?_)
        rintro x41 m' ⟨rfl, rfl⟩
        refine q_iret F dX8_man_44 rfl ?_
        refine ⟨_, rfl, ?_, _, bt, rt, hbt, hrt, (by unfold welM; exact RI_up (RI_fl (RI_up (RI_up hR hkind) hnumber) (by constructor <;> omega)) (by constructor <;> omega)), ?_, rfl⟩
        · unfold manA
          (repeat' split) <;> omega
        · unfold manM
          (repeat' split) <;> first | exact agP_rfl _ | (exfalso; omega)
      · refine q_bipush (t := 34) F dX8_man_32 (by decide) rfl ?_
        refine q_iret F dX8_man_34 rfl ?_
        refine ⟨_, rfl, ?_, _, bt, rt, hbt, hrt, (by repeat' first | exact hR | refine RI_up ?_ ?_ | assumption | exact hR _ _ _ | (constructor <;> omega)), ?_, rfl⟩
        · unfold manA
          (repeat' split) <;> omega
        · unfold manM
          (repeat' split) <;> first | exact agP_rfl _ | (exfalso; omega)
    · refine q_bipush (t := 20) F dX8_man_18 (by decide) rfl ?_
      refine q_iret F dX8_man_20 rfl ?_
      refine ⟨_, rfl, ?_, _, bt, rt, hbt, hrt, (by repeat' first | exact hR | refine RI_up ?_ ?_ | assumption | exact hR _ _ _ | (constructor <;> omega)), ?_, rfl⟩
      · unfold manA
        (repeat' split) <;> omega
      · unfold manM
        (repeat' split) <;> first | exact agP_rfl _ | (exfalso; omega)

def tgA (im : IM) (p gap side : Int) : Int := if side = 1 ∨ im 22 (5 * 0 + p.toNat) gap.toNat = -1 then im 22 (5 * 0 + p.toNat) gap.toNat else if side = 2 then im 23 (5 * 0 + p.toNat) gap.toNat else hoK (tellV im (im 18 0 7).toNat) (im 21 (5 * 0 + p.toNat) 0) (im 21 (5 * 0 + p.toNat) 1) (im 22 (5 * 0 + p.toNat) gap.toNat) gap.toNat (im 18 0 4) (im 23 (5 * 0 + p.toNat) gap.toNat)
def toldA (im : IM) (of what : Int) : Int := if what = 0 then im 18 0 4 else if what = 1 then im 18 0 5 else if 0 ≤ of ∧ of < im 18 0 3 then (if what = 2 then im 21 (5 * 0 + of.toNat) 1 else if what = 3 then im 21 (5 * 0 + of.toNat) 0 else if what = 4 then cntW (im 22 (5 * 0 + of.toNat)) 10 else if what < 10 ∨ 39 < what then -2 else tgA im of (what % 10) (what / 10)) else -2
theorem holdsB_K (im : IM) (j : Nat) (x y : Int) (h1 : im 17 0 1 = 0) : holdsB im j x y = hoK (tellV im j) (im 16 0 2) (im 17 0 3) (im 17 0 0) (im 17 0 4) y x := by
  unfold holdsB hoK
  rw [tellV_nm (nmB_P im _ _ h1)]
theorem look_holds (im : IM) (w man gap : Nat) (x y : Int) : holdsB (lookM im w man gap) (im 18 w 7).toNat x y = hoK (tellV im (im 18 w 7).toNat) (im 21 (5 * w + man) 0) (im 21 (5 * w + man) 1) (im 22 (5 * w + man) gap) gap y x := by
  rw [holdsB_K _ _ _ _ rfl]
  rw [show tellV (lookM im w man gap) (im 18 w 7).toNat = tellV im (im 18 w 7).toNat from tellV_fun (fun s => rfl) (fun s => rfl)]
  rfl

set_option maxHeartbeats 4000000 in
theorem c_X8_toldOfGap (l : Launch) (G : GS) (im : IM) (bt rt : Nat) (lm : IM) (hbt : bt < 6) (hrt : rt < 6) (hS : SC im) (p g : Nat) (hp : (p : Int) < im 18 0 3) (hg : g < 10) (side : Int) (hside : ri side) : Cn l (XC G) yX8_toldOfGap Y_X8_toldOfGap [vR 0 0, vI (p : Int), vI (g : Int), vI side] (im, rs bt rt, lm) (pI fun x m' => x = tgA im p g side ∧ stC lm im m') := by
  refine cn_of (by decide) (okC G) rfl (Nat.le_of_ble_eq_true rfl) ?_
  intro M ad hMl F
  subst hMl
  obtain ⟨hR, hW, hh, htc, hru, hgt, hz, hrd, hsh, him, htp⟩ := hS
  have w1 := hW.1
  have w2 := hW.2.1
  have w3 := hW.2.2.1
  have w4 := hW.2.2.2.1
  have w5 := hW.2.2.2.2.1
  have hs1 := hside.1
  have hs2 := hside.2
  obtain ⟨r0, r1, hT, k0, k1, n0, n1, hga, hh0, hh1, hm5⟩ := cell_of hW hp
  refine wp_pad 1 ?_
  show Wp M (XC G) ad Y_X8_toldOfGap (pI fun x m' => x = tgA im p g side ∧ stC lm im m') 0 [some (vR 0 0), some (vI (p : Int)), some (vI (g : Int)), some (vI side), none] [] (im, rs bt rt, lm)
  refine q_aload_n (t := 1) F dX8_toldOfGap_0 rfl rfl rfl ?_
  refine g_X8_51 (t := 4) F dX8_toldOfGap_1 rfl rfl ?_
  refine g_X8_99 (t := 7) F dX8_toldOfGap_4 rfl (by omega) rfl ?_
  refine q_iload_n (t := 8) F dX8_toldOfGap_7 rfl rfl rfl ?_
  first | refine laN_19 (t := 9) F dX8_toldOfGap_8 (by omega) (by omega) rfl ?_ | refine la_19 (t := 9) F dX8_toldOfGap_8 (by omega) (by omega) (by omega) rfl ?_
  refine q_astore (t := 11) F dX8_toldOfGap_9 (by decide) rfl rfl ?_
  refine q_iload_n (t := 12) F dX8_toldOfGap_11 rfl rfl rfl ?_
  refine q_iconst (t := 13) F dX8_toldOfGap_12 rfl ?_
  refine q_icmp_eq (t := 16) (u := 27) F dX8_toldOfGap_13 (by first | exact hR _ _ _ | (constructor <;> omega)) (by first | exact hR _ _ _ | (constructor <;> omega)) (by decide) rfl (fun c13 => ?_) (fun c13 => ?_)
  · refine q_aload (t := 29) F dX8_toldOfGap_27 rfl rfl ?_
    refine g_X8_132 (t := 32) F dX8_toldOfGap_29 rfl (by omega) rfl ?_
    refine q_iload_n (t := 33) F dX8_toldOfGap_32 rfl rfl rfl ?_
    first | refine ldN_22 (t := 34) F dX8_toldOfGap_33 (by omega) (by omega) rfl ?_ | refine ld_22 (t := 34) F dX8_toldOfGap_33 (by omega) (by omega) (by omega) rfl ?_
    refine q_iret F dX8_toldOfGap_34 rfl ?_
    refine ⟨_, rfl, ?_, _, bt, rt, hbt, hrt, hR, agP_rfl _, rfl⟩
    unfold tgA
    simp only [Int.toNat_natCast]
    rw [if_pos (by omega)]
  · refine q_aload (t := 18) F dX8_toldOfGap_16 rfl rfl ?_
    refine g_X8_132 (t := 21) F dX8_toldOfGap_18 rfl (by omega) rfl ?_
    refine q_iload_n (t := 22) F dX8_toldOfGap_21 rfl rfl rfl ?_
    first | refine ldN_22 (t := 23) F dX8_toldOfGap_22 (by omega) (by omega) rfl ?_ | refine ld_22 (t := 23) F dX8_toldOfGap_22 (by omega) (by omega) (by omega) rfl ?_
    refine q_iconst (t := 24) F dX8_toldOfGap_23 rfl ?_
    refine q_icmp_ne (t := 27) (u := 35) F dX8_toldOfGap_24 (by first | exact hR _ _ _ | (constructor <;> omega)) (by first | exact hR _ _ _ | (constructor <;> omega)) (by decide) rfl (fun c24 => ?_) (fun c24 => ?_)
    · refine q_iload_n (t := 36) F dX8_toldOfGap_35 rfl rfl rfl ?_
      refine q_iconst (t := 37) F dX8_toldOfGap_36 rfl ?_
      refine q_icmp_ne (t := 40) (u := 48) F dX8_toldOfGap_37 (by first | exact hR _ _ _ | (constructor <;> omega)) (by first | exact hR _ _ _ | (constructor <;> omega)) (by decide) rfl (fun c37 => ?_) (fun c37 => ?_)
      · refine q_aload_n (t := 49) F dX8_toldOfGap_48 rfl rfl rfl ?_
        refine g_X8_42 (t := 52) F dX8_toldOfGap_49 rfl rfl ?_
        refine q_aload_n (t := 53) F dX8_toldOfGap_52 rfl rfl rfl ?_
        refine g_X8_51 (t := 56) F dX8_toldOfGap_53 rfl rfl ?_
        refine q_iload_n (t := 57) F dX8_toldOfGap_56 rfl rfl rfl ?_
        refine q_iload_n (t := 58) F dX8_toldOfGap_57 rfl rfl rfl ?_
        refine wp_callV (t := 61) [_, _, _] F dX8_toldOfGap_58 k_X0_look v_X0_look ml_X8_139 rfl rfl rfl rfl (Nat.le_of_ble_eq_true rfl) (by decide) (m_16 (by omega)) (c_X0_look _ G im bt rt lm 0 p g (by omega) hm5 hg r0 r1) rfl (kV ?_)
        rintro m' rfl
        have hRl := RI_look (w := 0) (p := p) (g := g) hR hg
        have hb4 : (im 18 0 7).toNat < 6 := by omega
        refine q_aload_n (t := 62) F dX8_toldOfGap_61 rfl rfl rfl ?_
        refine g_X8_42 (t := 65) F dX8_toldOfGap_62 rfl rfl ?_
        refine q_aload (t := 67) F dX8_toldOfGap_65 rfl rfl ?_
        refine g_X8_136 (t := 70) F dX8_toldOfGap_67 rfl (by omega) rfl ?_
        refine q_iload_n (t := 71) F dX8_toldOfGap_70 rfl rfl rfl ?_
        first | refine ldN_23 (t := 72) F dX8_toldOfGap_71 (by omega) (by omega) rfl ?_ | refine ld_23 (t := 72) F dX8_toldOfGap_71 (by omega) (by omega) (by omega) rfl ?_
        try simp only [up_app, row_app, scr_app, cpy_app, Nat.reduceEqDiff, Int.reduceToNat, Int.toNat_natCast, and_true, true_and, and_false, false_and, and_self, reduceIte]
        refine q_aload_n (t := 73) F dX8_toldOfGap_72 rfl rfl rfl ?_
        refine g_X8_51 (t := 76) F dX8_toldOfGap_73 rfl rfl ?_
        refine g_X8_108 (t := 79) F dX8_toldOfGap_76 rfl (by omega) rfl ?_
        try simp only [up_app, row_app, scr_app, cpy_app, Nat.reduceEqDiff, Int.reduceToNat, Int.toNat_natCast, and_true, true_and, and_false, false_and, and_self, reduceIte]
        rw [show lookM im 0 p g 23 (5 * 0 + p) g = im 23 (5 * 0 + p) g from rfl, show lookM im 0 p g 18 0 4 = im 18 0 4 from rfl]
        refine wp_callV (t := 82) [_, _] F dX8_toldOfGap_79 k_X0_holds v_X0_holds ml_X8_143 rfl rfl rfl rfl (Nat.le_of_ble_eq_true rfl) (by decide) (m_16 (by omega)) (c_X0_holds _ G (lookM im 0 p g) (im 18 0 7).toNat rt lm (im 23 (5 * 0 + p) g) (im 18 0 4) (hR _ _ _) (hR _ _ _) hb4 hRl (goodT_congr (fun s => rfl) (fun s => rfl) hT) k0 k1 n0 n1) rfl (kI ?_)
        rintro x79 m' ⟨hx, hgb⟩
        obtain ⟨im3, hR3, hag3, rfl⟩ := garb_ag hgb hRl
        rw [look_holds] at hx
        refine q_iret F dX8_toldOfGap_82 rfl ?_
        refine ⟨_, rfl, ?_, _, _, rt, hb4, hrt, hR3, agP_of ((hag3.mono (by decide)).trans ((look_ag im 0 p g).mono (by decide))), rfl⟩
        unfold tgA
        simp only [Int.toNat_natCast]
        rw [if_neg (by omega), if_neg (by omega), hx]
      · refine q_aload (t := 42) F dX8_toldOfGap_40 rfl rfl ?_
        refine g_X8_136 (t := 45) F dX8_toldOfGap_42 rfl (by omega) rfl ?_
        refine q_iload_n (t := 46) F dX8_toldOfGap_45 rfl rfl rfl ?_
        first | refine ldN_23 (t := 47) F dX8_toldOfGap_46 (by omega) (by omega) rfl ?_ | refine ld_23 (t := 47) F dX8_toldOfGap_46 (by omega) (by omega) (by omega) rfl ?_
        refine q_iret F dX8_toldOfGap_47 rfl ?_
        refine ⟨_, rfl, ?_, _, bt, rt, hbt, hrt, hR, agP_rfl _, rfl⟩
        unfold tgA
        simp only [Int.toNat_natCast]
        rw [if_neg (by omega), if_pos (by omega)]
    · refine q_aload (t := 29) F dX8_toldOfGap_27 rfl rfl ?_
      refine g_X8_132 (t := 32) F dX8_toldOfGap_29 rfl (by omega) rfl ?_
      refine q_iload_n (t := 33) F dX8_toldOfGap_32 rfl rfl rfl ?_
      first | refine ldN_22 (t := 34) F dX8_toldOfGap_33 (by omega) (by omega) rfl ?_ | refine ld_22 (t := 34) F dX8_toldOfGap_33 (by omega) (by omega) (by omega) rfl ?_
      refine q_iret F dX8_toldOfGap_34 rfl ?_
      refine ⟨_, rfl, ?_, _, bt, rt, hbt, hrt, hR, agP_rfl _, rfl⟩
      unfold tgA
      simp only [Int.toNat_natCast]
      rw [if_pos (by omega)]

set_option maxHeartbeats 4000000 in
theorem c_X8_told (l : Launch) (G : GS) (im : IM) (bt rt : Nat) (lm : IM) (hbt : bt < 6) (hrt : rt < 6) (hS : SC im) (of : Int) (what : Int) (hof : ri of) (hwhat : ri what) : Cn l (XC G) yX8_told Y_X8_told [vR 0 0, vI of, vI what] (im, rs bt rt, lm) (pI fun x m' => x = toldA im of what ∧ stC lm im m') := by
  refine cn_of (by decide) (okC G) rfl (Nat.le_of_ble_eq_true rfl) ?_
  intro M ad hMl F
  subst hMl
  obtain ⟨hR, hW, hh, htc, hru, hgt, hz, hrd, hsh, him, htp⟩ := hS
  have w1 := hW.1
  have w2 := hW.2.1
  have w3 := hW.2.2.1
  have w4 := hW.2.2.2.1
  have w5 := hW.2.2.2.2.1
  have hof1 := hof.1
  have hof2 := hof.2
  have hwhat1 := hwhat.1
  have hwhat2 := hwhat.2
  refine wp_pad 1 ?_
  show Wp M (XC G) ad Y_X8_told (pI fun x m' => x = toldA im of what ∧ stC lm im m') 0 [some (vR 0 0), some (vI of), some (vI what), none] [] (im, rs bt rt, lm)
  refine q_iload_n (t := 1) F dX8_told_0 rfl rfl rfl ?_
  refine q_if_ne (t := 4) (u := 12) F dX8_told_1 (by first | exact hR _ _ _ | (constructor <;> omega)) (by decide) rfl (fun c1 => ?_) (fun c1 => ?_)
  · refine q_iload_n (t := 13) F dX8_told_12 rfl rfl rfl ?_
    refine q_iconst (t := 14) F dX8_told_13 rfl ?_
    refine q_icmp_ne (t := 17) (u := 25) F dX8_told_14 (by first | exact hR _ _ _ | (constructor <;> omega)) (by first | exact hR _ _ _ | (constructor <;> omega)) (by decide) rfl (fun c14 => ?_) (fun c14 => ?_)
    · refine q_aload_n (t := 26) F dX8_told_25 rfl rfl rfl ?_
      refine q_iload_n (t := 27) F dX8_told_26 rfl rfl rfl ?_
      refine wp_callV (t := 30) [_] F dX8_told_27 k_X8_isOne v_X8_isOne ml_X8_91 rfl rfl rfl rfl (Nat.le_of_ble_eq_true rfl) (by decide) (m_0 (by omega)) (c_X8_isOne _ G _ bt rt lm of hof hR) rfl (kI ?_)
      rintro x27 m' ⟨hx27, rfl⟩
      have hx27 := if01 hx27
      refine q_if_ne (t := 33) (u := 36) F dX8_told_30 (by first | exact hR _ _ _ | (constructor <;> omega)) (by decide) rfl (fun c30 => ?_) (fun c30 => ?_)
      · refine q_aload_n (t := 37) F dX8_told_36 rfl rfl rfl ?_
        refine g_X8_51 (t := 40) F dX8_told_37 rfl rfl ?_
        refine g_X8_99 (t := 43) F dX8_told_40 rfl (by omega) rfl ?_
        refine q_iload_n (t := 44) F dX8_told_43 rfl rfl rfl ?_
        refine la_19 (t := 45) F dX8_told_44 (by omega) (by omega) (by omega) rfl ?_
        refine q_astore_n (t := 46) F dX8_told_45 rfl (by decide) rfl rfl ?_
        refine q_iload_n (t := 47) F dX8_told_46 rfl rfl rfl ?_
        refine q_iconst (t := 48) F dX8_told_47 rfl ?_
        refine q_icmp_ne (t := 51) (u := 56) F dX8_told_48 (by first | exact hR _ _ _ | (constructor <;> omega)) (by first | exact hR _ _ _ | (constructor <;> omega)) (by decide) rfl (fun c48 => ?_) (fun c48 => ?_)
        · refine q_iload_n (t := 57) F dX8_told_56 rfl rfl rfl ?_
          refine q_iconst (t := 58) F dX8_told_57 rfl ?_
          refine q_icmp_ne (t := 61) (u := 66) F dX8_told_58 (by first | exact hR _ _ _ | (constructor <;> omega)) (by first | exact hR _ _ _ | (constructor <;> omega)) (by decide) rfl (fun c58 => ?_) (fun c58 => ?_)
          · refine q_iload_n (t := 67) F dX8_told_66 rfl rfl rfl ?_
            refine q_iconst (t := 68) F dX8_told_67 rfl ?_
            refine q_icmp_ne (t := 71) (u := 76) F dX8_told_68 (by first | exact hR _ _ _ | (constructor <;> omega)) (by first | exact hR _ _ _ | (constructor <;> omega)) (by decide) rfl (fun c68 => ?_) (fun c68 => ?_)
            · refine q_iload_n (t := 77) F dX8_told_76 rfl rfl rfl ?_
              refine q_bipush (t := 79) F dX8_told_77 (by decide) rfl ?_
              refine q_icmp_lt (t := 82) (u := 88) F dX8_told_79 (by first | exact hR _ _ _ | (constructor <;> omega)) (by first | exact hR _ _ _ | (constructor <;> omega)) (by decide) rfl (fun c79 => ?_) (fun c79 => ?_)
              · refine q_bipush (t := 90) F dX8_told_88 (by decide) rfl ?_
                refine q_iret F dX8_told_90 rfl ?_
                refine ⟨_, rfl, ?_, _, bt, rt, hbt, hrt, (by repeat' first | exact hR | refine RI_up ?_ ?_ | assumption | exact hR _ _ _ | (constructor <;> omega)), ?_, rfl⟩
                · unfold toldA
                  (repeat' split) <;> omega
                · exact agP_rfl _
              · refine q_iload_n (t := 83) F dX8_told_82 rfl rfl rfl ?_
                refine q_bipush (t := 85) F dX8_told_83 (by decide) rfl ?_
                refine q_icmp_le (t := 88) (u := 91) F dX8_told_85 (by first | exact hR _ _ _ | (constructor <;> omega)) (by first | exact hR _ _ _ | (constructor <;> omega)) (by decide) rfl (fun c85 => ?_) (fun c85 => ?_)
                · refine q_aload_n (t := 92) F dX8_told_91 rfl rfl rfl ?_
                  refine q_iload_n (t := 93) F dX8_told_92 rfl rfl rfl ?_
                  refine q_iload_n (t := 94) F dX8_told_93 rfl rfl rfl ?_
                  refine q_bipush (t := 96) F dX8_told_94 (by decide) rfl ?_
                  refine q_irem (t := 97) F dX8_told_96 (by first | exact hR _ _ _ | (constructor <;> omega)) (by first | exact hR _ _ _ | (constructor <;> omega)) (by omega) (by omega) rfl ?_
                  refine q_iload_n (t := 98) F dX8_told_97 rfl rfl rfl ?_
                  refine q_bipush (t := 100) F dX8_told_98 (by decide) rfl ?_
                  refine q_idiv (t := 101) F dX8_told_100 (by first | exact hR _ _ _ | (constructor <;> omega)) (by first | exact hR _ _ _ | (constructor <;> omega)) (by omega) (by omega) rfl ?_
                  rw [show of = ((of.toNat : Nat) : Int) by omega, show what % 10 = (((what % 10).toNat : Nat) : Int) by omega]
                  refine wp_callV (t := 104) [_, _, _] F dX8_told_101 k_X8_toldOfGap v_X8_toldOfGap ml_X8_128 rfl rfl rfl rfl (Nat.le_of_ble_eq_true rfl) (by decide) (m_0 (by omega)) (c_X8_toldOfGap _ G im bt rt lm hbt hrt ⟨hR, hW, hh, htc, hru, hgt, hz, hrd, hsh, him, htp⟩ of.toNat (what % 10).toNat (by omega) (by omega) (what / 10) (by constructor <;> omega)) rfl (kI ?_)
                  rintro x101 m' ⟨hx, hst⟩
                  refine q_iret F dX8_told_104 rfl ?_
                  refine ⟨_, rfl, ?_, hst⟩
                  rw [hx]
                  unfold toldA
                  rw [if_neg (by omega), if_neg (by omega), if_pos (by omega), if_neg (by omega), if_neg (by omega), if_neg (by omega), if_neg (by omega)]
                  unfold tgA
                  simp only [Int.toNat_natCast]
                · refine q_bipush (t := 90) F dX8_told_88 (by decide) rfl ?_
                  refine q_iret F dX8_told_90 rfl ?_
                  refine ⟨_, rfl, ?_, _, bt, rt, hbt, hrt, (by repeat' first | exact hR | refine RI_up ?_ ?_ | assumption | exact hR _ _ _ | (constructor <;> omega)), ?_, rfl⟩
                  · unfold toldA
                    (repeat' split) <;> omega
                  · exact agP_rfl _
            · refine q_aload_n (t := 72) F dX8_told_71 rfl rfl rfl ?_
              refine wp_callV (t := 75) [] F dX8_told_72 k_X3_stuckInAll v_X3_stuckInAll ml_X8_125 rfl rfl rfl rfl (Nat.le_of_ble_eq_true rfl) (by decide) (m_21 (by omega)) (c_X3_stuckInAll _ G im bt rt lm (5 * 0 + of.toNat) (by omega) hR) rfl (kI ?_)
              rintro x72 m' ⟨rfl, rfl⟩
              refine q_iret F dX8_told_75 rfl ?_
              refine ⟨_, rfl, ?_, _, bt, rt, hbt, hrt, (by repeat' first | exact hR | refine RI_up ?_ ?_ | assumption | exact hR _ _ _ | (constructor <;> omega)), ?_, rfl⟩
              · unfold toldA
                (repeat' split) <;> omega
              · exact agP_rfl _
          · refine q_aload_n (t := 62) F dX8_told_61 rfl rfl rfl ?_
            refine g_X8_122 (t := 65) F dX8_told_62 rfl (by omega) rfl ?_
            try simp only [up_app, row_app, scr_app, cpy_app, Nat.reduceEqDiff, Int.reduceToNat, Int.toNat_natCast, and_true, true_and, and_false, false_and, and_self, reduceIte]
            refine q_iret F dX8_told_65 rfl ?_
            refine ⟨_, rfl, ?_, _, bt, rt, hbt, hrt, (by repeat' first | exact hR | refine RI_up ?_ ?_ | assumption | exact hR _ _ _ | (constructor <;> omega)), ?_, rfl⟩
            · unfold toldA
              (repeat' split) <;> omega
            · exact agP_rfl _
        · refine q_aload_n (t := 52) F dX8_told_51 rfl rfl rfl ?_
          refine g_X8_103 (t := 55) F dX8_told_52 rfl (by omega) rfl ?_
          try simp only [up_app, row_app, scr_app, cpy_app, Nat.reduceEqDiff, Int.reduceToNat, Int.toNat_natCast, and_true, true_and, and_false, false_and, and_self, reduceIte]
          refine q_iret F dX8_told_55 rfl ?_
          refine ⟨_, rfl, ?_, _, bt, rt, hbt, hrt, (by repeat' first | exact hR | refine RI_up ?_ ?_ | assumption | exact hR _ _ _ | (constructor <;> omega)), ?_, rfl⟩
          · unfold toldA
            (repeat' split) <;> omega
          · exact agP_rfl _
      · refine q_bipush (t := 35) F dX8_told_33 (by decide) rfl ?_
        refine q_iret F dX8_told_35 rfl ?_
        refine ⟨_, rfl, ?_, _, bt, rt, hbt, hrt, (by repeat' first | exact hR | refine RI_up ?_ ?_ | assumption | exact hR _ _ _ | (constructor <;> omega)), ?_, rfl⟩
        · unfold toldA
          (repeat' split) <;> omega
        · exact agP_rfl _
    · refine q_aload_n (t := 18) F dX8_told_17 rfl rfl rfl ?_
      refine g_X8_51 (t := 21) F dX8_told_18 rfl rfl ?_
      refine g_X8_112 (t := 24) F dX8_told_21 rfl (by omega) rfl ?_
      refine q_iret F dX8_told_24 rfl ?_
      refine ⟨_, rfl, ?_, _, bt, rt, hbt, hrt, (by repeat' first | exact hR | refine RI_up ?_ ?_ | assumption | exact hR _ _ _ | (constructor <;> omega)), ?_, rfl⟩
      · unfold toldA
        (repeat' split) <;> omega
      · exact agP_rfl _
  · refine q_aload_n (t := 5) F dX8_told_4 rfl rfl rfl ?_
    refine g_X8_51 (t := 8) F dX8_told_5 rfl rfl ?_
    refine g_X8_108 (t := 11) F dX8_told_8 rfl (by omega) rfl ?_
    refine q_iret F dX8_told_11 rfl ?_
    refine ⟨_, rfl, ?_, _, bt, rt, hbt, hrt, (by repeat' first | exact hR | refine RI_up ?_ ?_ | assumption | exact hR _ _ _ | (constructor <;> omega)), ?_, rfl⟩
    · unfold toldA
      (repeat' split) <;> omega
    · exact agP_rfl _

def fillA (im : IM) (man gap w hours : Int) : Int := if (0 ≤ man ∧ man < im 18 0 3) ∧ (0 ≤ gap ∧ gap < 10) ∧ (-1 ≤ w ∧ w < 16) ∧ 0 ≤ hours ∧ hours ≤ 999 then im 22 (5 * 0 + man.toNat) gap.toNat else -2
def fillM (im : IM) (man gap w hours : Int) : IM := if (0 ≤ man ∧ man < im 18 0 3) ∧ (0 ≤ gap ∧ gap < 10) ∧ (-1 ≤ w ∧ w < 16) ∧ 0 ≤ hours ∧ hours ≤ 999 then up (up im 22 (5 * 0 + man.toNat) gap.toNat w) 23 (5 * 0 + man.toNat) gap.toNat hours else im

set_option maxHeartbeats 4000000 in
theorem c_X8_fill (l : Launch) (G : GS) (im : IM) (bt rt : Nat) (lm : IM) (hbt : bt < 6) (hrt : rt < 6) (hS : SC im) (man : Int) (gap : Int) (w : Int) (hours : Int) (hman : ri man) (hgap : ri gap) (hw : ri w) (hhours : ri hours) : Cn l (XC G) yX8_fill Y_X8_fill [vR 0 0, vI man, vI gap, vI w, vI hours] (im, rs bt rt, lm) (pI fun x m' => x = fillA im man gap w hours ∧ stC lm (fillM im man gap w hours) m') := by
  refine cn_of (by decide) (okC G) rfl (Nat.le_of_ble_eq_true rfl) ?_
  intro M ad hMl F
  subst hMl
  obtain ⟨hR, hW, hh, htc, hru, hgt, hz, hrd, hsh, him, htp⟩ := hS
  have w1 := hW.1
  have w2 := hW.2.1
  have w3 := hW.2.2.1
  have w4 := hW.2.2.2.1
  have w5 := hW.2.2.2.2.1
  have hman1 := hman.1
  have hman2 := hman.2
  have hgap1 := hgap.1
  have hgap2 := hgap.2
  have hw1 := hw.1
  have hw2 := hw.2
  have hhours1 := hhours.1
  have hhours2 := hhours.2
  refine wp_pad 2 ?_
  show Wp M (XC G) ad Y_X8_fill (pI fun x m' => x = fillA im man gap w hours ∧ stC lm (fillM im man gap w hours) m') 0 [some (vR 0 0), some (vI man), some (vI gap), some (vI w), some (vI hours), none, none] [] (im, rs bt rt, lm)
  refine q_aload_n (t := 1) F dX8_fill_0 rfl rfl rfl ?_
  refine q_iload_n (t := 2) F dX8_fill_1 rfl rfl rfl ?_
  refine wp_callV (t := 5) [_] F dX8_fill_2 k_X8_isOne v_X8_isOne ml_X8_91 rfl rfl rfl rfl (Nat.le_of_ble_eq_true rfl) (by decide) (m_0 (by omega)) (c_X8_isOne _ G _ bt rt lm man hman hR) rfl (kI ?_)
  rintro x2 m' ⟨hx2, rfl⟩
  have hx2 := if01 hx2
  refine q_if_eq (t := 8) (u := 17) F dX8_fill_5 (by first | exact hR _ _ _ | (constructor <;> omega)) (by decide) rfl (fun c5 => ?_) (fun c5 => ?_)
  · refine q_bipush (t := 19) F dX8_fill_17 (by decide) rfl ?_
    refine q_iret F dX8_fill_19 rfl ?_
    refine ⟨_, rfl, ?_, _, bt, rt, hbt, hrt, (by repeat' first | exact hR | refine RI_up ?_ ?_ | assumption | exact hR _ _ _ | (constructor <;> omega)), ?_, rfl⟩
    · unfold fillA
      (repeat' split) <;> omega
    · unfold fillM
      (repeat' split) <;> first | exact agP_rfl _ | (exfalso; omega)
  · refine q_iload_n (t := 9) F dX8_fill_8 rfl rfl rfl ?_
    refine q_bipush (t := 11) F dX8_fill_9 (by decide) rfl ?_
    refine wp_callS (t := 14) [_, _] F dX8_fill_11 k_X8_within st_X8_within ml_X8_95 rfl rfl (Nat.le_of_ble_eq_true rfl) (by decide) (c_X8_within _ G _ bt rt lm gap 10 hgap (by constructor <;> omega)) rfl (kI ?_)
    rintro x11 m' ⟨hx11, rfl⟩
    have hx11 := if01 hx11
    refine q_if_ne (t := 17) (u := 20) F dX8_fill_14 (by first | exact hR _ _ _ | (constructor <;> omega)) (by decide) rfl (fun c14 => ?_) (fun c14 => ?_)
    · refine q_iload_n (t := 21) F dX8_fill_20 rfl rfl rfl ?_
      refine q_iconst (t := 22) F dX8_fill_21 rfl ?_
      refine q_icmp_eq (t := 25) (u := 37) F dX8_fill_22 (by first | exact hR _ _ _ | (constructor <;> omega)) (by first | exact hR _ _ _ | (constructor <;> omega)) (by decide) rfl (fun c22 => ?_) (fun c22 => ?_)
      · refine q_iload (t := 39) F dX8_fill_37 rfl rfl ?_
        refine q_if_lt (t := 42) (u := 50) F dX8_fill_39 (by first | exact hR _ _ _ | (constructor <;> omega)) (by decide) rfl (fun c39 => ?_) (fun c39 => ?_)
        · refine q_bipush (t := 52) F dX8_fill_50 (by decide) rfl ?_
          refine q_iret F dX8_fill_52 rfl ?_
          refine ⟨_, rfl, ?_, _, bt, rt, hbt, hrt, (by repeat' first | exact hR | refine RI_up ?_ ?_ | assumption | exact hR _ _ _ | (constructor <;> omega)), ?_, rfl⟩
          · unfold fillA
            (repeat' split) <;> omega
          · unfold fillM
            (repeat' split) <;> first | exact agP_rfl _ | (exfalso; omega)
        · refine q_iload (t := 44) F dX8_fill_42 rfl rfl ?_
          refine q_sipush (t := 47) F dX8_fill_44 (by decide) rfl ?_
          refine q_icmp_le (t := 50) (u := 53) F dX8_fill_47 (by first | exact hR _ _ _ | (constructor <;> omega)) (by first | exact hR _ _ _ | (constructor <;> omega)) (by decide) rfl (fun c47 => ?_) (fun c47 => ?_)
          · refine q_aload_n (t := 54) F dX8_fill_53 rfl rfl rfl ?_
            refine g_X8_51 (t := 57) F dX8_fill_54 rfl rfl ?_
            refine g_X8_99 (t := 60) F dX8_fill_57 rfl (by omega) rfl ?_
            refine q_iload_n (t := 61) F dX8_fill_60 rfl rfl rfl ?_
            refine la_19 (t := 62) F dX8_fill_61 (by omega) (by omega) (by omega) rfl ?_
            refine q_astore (t := 64) F dX8_fill_62 (by decide) rfl rfl ?_
            refine q_aload (t := 66) F dX8_fill_64 rfl rfl ?_
            refine g_X8_132 (t := 69) F dX8_fill_66 rfl (by omega) rfl ?_
            refine q_iload_n (t := 70) F dX8_fill_69 rfl rfl rfl ?_
            refine ld_22 (t := 71) F dX8_fill_70 (by omega) (by omega) (by omega) rfl ?_
            try simp only [up_app, row_app, scr_app, cpy_app, Nat.reduceEqDiff, Int.reduceToNat, Int.toNat_natCast, and_true, true_and, and_false, false_and, and_self, reduceIte]
            refine q_istore (t := 73) F dX8_fill_71 (by decide) rfl rfl ?_
            refine q_aload (t := 75) F dX8_fill_73 rfl rfl ?_
            refine g_X8_132 (t := 78) F dX8_fill_75 rfl (by omega) rfl ?_
            refine q_iload_n (t := 79) F dX8_fill_78 rfl rfl rfl ?_
            refine q_iload_n (t := 80) F dX8_fill_79 rfl rfl rfl ?_
            refine st_22 (t := 81) F dX8_fill_80 (by omega) (by omega) (by omega) rfl ?_
            refine q_aload (t := 83) F dX8_fill_81 rfl rfl ?_
            refine g_X8_136 (t := 86) F dX8_fill_83 rfl (by omega) rfl ?_
            refine q_iload_n (t := 87) F dX8_fill_86 rfl rfl rfl ?_
            refine q_iload (t := 89) F dX8_fill_87 rfl rfl ?_
            refine st_23 (t := 90) F dX8_fill_89 (by omega) (by omega) (by omega) rfl ?_
            refine q_iload (t := 92) F dX8_fill_90 rfl rfl ?_
            refine q_iret F dX8_fill_92 rfl ?_
            refine ⟨_, rfl, ?_, _, bt, rt, hbt, hrt, (by repeat' first | exact hR | refine RI_up ?_ ?_ | assumption | exact hR _ _ _ | (constructor <;> omega)), ?_, rfl⟩
            · unfold fillA
              (repeat' split) <;> omega
            · unfold fillM
              (repeat' split) <;> first | exact agP_rfl _ | (exfalso; omega)
          · refine q_bipush (t := 52) F dX8_fill_50 (by decide) rfl ?_
            refine q_iret F dX8_fill_52 rfl ?_
            refine ⟨_, rfl, ?_, _, bt, rt, hbt, hrt, (by repeat' first | exact hR | refine RI_up ?_ ?_ | assumption | exact hR _ _ _ | (constructor <;> omega)), ?_, rfl⟩
            · unfold fillA
              (repeat' split) <;> omega
            · unfold fillM
              (repeat' split) <;> first | exact agP_rfl _ | (exfalso; omega)
      · refine q_iload_n (t := 26) F dX8_fill_25 rfl rfl rfl ?_
        refine q_bipush (t := 28) F dX8_fill_26 (by decide) rfl ?_
        refine wp_callS (t := 31) [_, _] F dX8_fill_28 k_X8_within st_X8_within ml_X8_95 rfl rfl (Nat.le_of_ble_eq_true rfl) (by decide) (c_X8_within _ G _ bt rt lm w 16 hw (by constructor <;> omega)) rfl (kI ?_)
        rintro x28 m' ⟨hx28, rfl⟩
        have hx28 := if01 hx28
        refine q_if_ne (t := 34) (u := 37) F dX8_fill_31 (by first | exact hR _ _ _ | (constructor <;> omega)) (by decide) rfl (fun c31 => ?_) (fun c31 => ?_)
        · refine q_iload (t := 39) F dX8_fill_37 rfl rfl ?_
          refine q_if_lt (t := 42) (u := 50) F dX8_fill_39 (by first | exact hR _ _ _ | (constructor <;> omega)) (by decide) rfl (fun c39 => ?_) (fun c39 => ?_)
          · refine q_bipush (t := 52) F dX8_fill_50 (by decide) rfl ?_
            refine q_iret F dX8_fill_52 rfl ?_
            refine ⟨_, rfl, ?_, _, bt, rt, hbt, hrt, (by repeat' first | exact hR | refine RI_up ?_ ?_ | assumption | exact hR _ _ _ | (constructor <;> omega)), ?_, rfl⟩
            · unfold fillA
              (repeat' split) <;> omega
            · unfold fillM
              (repeat' split) <;> first | exact agP_rfl _ | (exfalso; omega)
          · refine q_iload (t := 44) F dX8_fill_42 rfl rfl ?_
            refine q_sipush (t := 47) F dX8_fill_44 (by decide) rfl ?_
            refine q_icmp_le (t := 50) (u := 53) F dX8_fill_47 (by first | exact hR _ _ _ | (constructor <;> omega)) (by first | exact hR _ _ _ | (constructor <;> omega)) (by decide) rfl (fun c47 => ?_) (fun c47 => ?_)
            · refine q_aload_n (t := 54) F dX8_fill_53 rfl rfl rfl ?_
              refine g_X8_51 (t := 57) F dX8_fill_54 rfl rfl ?_
              refine g_X8_99 (t := 60) F dX8_fill_57 rfl (by omega) rfl ?_
              refine q_iload_n (t := 61) F dX8_fill_60 rfl rfl rfl ?_
              refine la_19 (t := 62) F dX8_fill_61 (by omega) (by omega) (by omega) rfl ?_
              refine q_astore (t := 64) F dX8_fill_62 (by decide) rfl rfl ?_
              refine q_aload (t := 66) F dX8_fill_64 rfl rfl ?_
              refine g_X8_132 (t := 69) F dX8_fill_66 rfl (by omega) rfl ?_
              refine q_iload_n (t := 70) F dX8_fill_69 rfl rfl rfl ?_
              refine ld_22 (t := 71) F dX8_fill_70 (by omega) (by omega) (by omega) rfl ?_
              try simp only [up_app, row_app, scr_app, cpy_app, Nat.reduceEqDiff, Int.reduceToNat, Int.toNat_natCast, and_true, true_and, and_false, false_and, and_self, reduceIte]
              refine q_istore (t := 73) F dX8_fill_71 (by decide) rfl rfl ?_
              refine q_aload (t := 75) F dX8_fill_73 rfl rfl ?_
              refine g_X8_132 (t := 78) F dX8_fill_75 rfl (by omega) rfl ?_
              refine q_iload_n (t := 79) F dX8_fill_78 rfl rfl rfl ?_
              refine q_iload_n (t := 80) F dX8_fill_79 rfl rfl rfl ?_
              refine st_22 (t := 81) F dX8_fill_80 (by omega) (by omega) (by omega) rfl ?_
              refine q_aload (t := 83) F dX8_fill_81 rfl rfl ?_
              refine g_X8_136 (t := 86) F dX8_fill_83 rfl (by omega) rfl ?_
              refine q_iload_n (t := 87) F dX8_fill_86 rfl rfl rfl ?_
              refine q_iload (t := 89) F dX8_fill_87 rfl rfl ?_
              refine st_23 (t := 90) F dX8_fill_89 (by omega) (by omega) (by omega) rfl ?_
              refine q_iload (t := 92) F dX8_fill_90 rfl rfl ?_
              refine q_iret F dX8_fill_92 rfl ?_
              refine ⟨_, rfl, ?_, _, bt, rt, hbt, hrt, (by repeat' first | exact hR | refine RI_up ?_ ?_ | assumption | exact hR _ _ _ | (constructor <;> omega)), ?_, rfl⟩
              · unfold fillA
                (repeat' split) <;> omega
              · unfold fillM
                (repeat' split) <;> first | exact agP_rfl _ | (exfalso; omega)
            · refine q_bipush (t := 52) F dX8_fill_50 (by decide) rfl ?_
              refine q_iret F dX8_fill_52 rfl ?_
              refine ⟨_, rfl, ?_, _, bt, rt, hbt, hrt, (by repeat' first | exact hR | refine RI_up ?_ ?_ | assumption | exact hR _ _ _ | (constructor <;> omega)), ?_, rfl⟩
              · unfold fillA
                (repeat' split) <;> omega
              · unfold fillM
                (repeat' split) <;> first | exact agP_rfl _ | (exfalso; omega)
        · refine q_bipush (t := 36) F dX8_fill_34 (by decide) rfl ?_
          refine q_iret F dX8_fill_36 rfl ?_
          refine ⟨_, rfl, ?_, _, bt, rt, hbt, hrt, (by repeat' first | exact hR | refine RI_up ?_ ?_ | assumption | exact hR _ _ _ | (constructor <;> omega)), ?_, rfl⟩
          · unfold fillA
            (repeat' split) <;> omega
          · unfold fillM
            (repeat' split) <;> first | exact agP_rfl _ | (exfalso; omega)
    · refine q_bipush (t := 19) F dX8_fill_17 (by decide) rfl ?_
      refine q_iret F dX8_fill_19 rfl ?_
      refine ⟨_, rfl, ?_, _, bt, rt, hbt, hrt, (by repeat' first | exact hR | refine RI_up ?_ ?_ | assumption | exact hR _ _ _ | (constructor <;> omega)), ?_, rfl⟩
      · unfold fillA
        (repeat' split) <;> omega
      · unfold fillM
        (repeat' split) <;> first | exact agP_rfl _ | (exfalso; omega)

def feedA (im : IM) (letter : Int) : Int := if 0 ≤ letter ∧ letter < 256 then (if 160 ≤ im 14 0 1 then -4 else im 14 0 1 + 1) else -2
def feedM (im : IM) (letter : Int) : IM := if (0 ≤ letter ∧ letter < 256) ∧ im 14 0 1 < 160 then up (up im 15 0 (im 14 0 1).toNat letter) 14 0 1 (im 14 0 1 + 1) else im

set_option maxHeartbeats 4000000 in
theorem c_X4_put (l : Launch) (G : GS) (im : IM) (bt rt : Nat) (lm : IM) (hR : RI im) (z0 : 0 ≤ im 14 0 1) (z1 : im 14 0 1 ≤ 160) (letter : Int) : Cn l (XC G) yX4_put Y_X4_put [vR 14 0, vI letter] (im, rs bt rt, lm) (pI fun x m' => x = (if im 14 0 1 < 160 then im 14 0 1 + 1 else im 14 0 1) ∧ m' = ((if im 14 0 1 < 160 then up (up im 15 0 (im 14 0 1).toNat letter) 14 0 1 (im 14 0 1 + 1) else im), rs bt rt, lm)) := by
  refine cn_of (by decide) (okC G) rfl (Nat.le_of_ble_eq_true rfl) ?_
  intro M ad hMl F
  subst hMl
  refine wp_pad 0 ?_
  show Wp M (XC G) ad Y_X4_put (pI fun x m' => x = (if im 14 0 1 < 160 then im 14 0 1 + 1 else im 14 0 1) ∧ m' = ((if im 14 0 1 < 160 then up (up im 15 0 (im 14 0 1).toNat letter) 14 0 1 (im 14 0 1 + 1) else im), rs bt rt, lm)) 0 [some (vR 14 0), some (vI letter)] [] (im, rs bt rt, lm)
  refine q_aload_n (t := 1) F dX4_put_0 rfl rfl rfl ?_
  refine g_X4_19 (t := 4) F dX4_put_1 rfl rfl ?_
  refine q_sipush (t := 7) F dX4_put_4 (by decide) rfl ?_
  refine q_icmp_ge (t := 10) (u := 30) F dX4_put_7 (by first | exact hR _ _ _ | (constructor <;> omega)) (by first | exact hR _ _ _ | (constructor <;> omega)) (by decide) rfl (fun c7 => ?_) (fun c7 => ?_)
  · refine q_aload_n (t := 31) F dX4_put_30 rfl rfl rfl ?_
    refine g_X4_19 (t := 34) F dX4_put_31 rfl rfl ?_
    refine q_iret F dX4_put_34 rfl ?_
    first | exact ⟨_, rfl, by rw [if_pos (by omega)], by rw [if_pos (by omega)]⟩ | exact ⟨_, rfl, by rw [if_neg (by omega)], by rw [if_neg (by omega)]⟩
  · refine q_aload_n (t := 11) F dX4_put_10 rfl rfl rfl ?_
    refine g_X4_9 (t := 14) F dX4_put_11 rfl rfl ?_
    refine q_aload_n (t := 15) F dX4_put_14 rfl rfl rfl ?_
    refine g_X4_19 (t := 18) F dX4_put_15 rfl rfl ?_
    refine q_iload_n (t := 19) F dX4_put_18 rfl rfl rfl ?_
    refine st_15 (t := 20) F dX4_put_19 (by omega) (by omega) rfl ?_
    refine q_aload_n (t := 21) F dX4_put_20 rfl rfl rfl ?_
    refine q_dupR (t := 22) F dX4_put_21 rfl ?_
    refine g_X4_19 (t := 25) F dX4_put_22 rfl rfl ?_
    try simp only [up_app, row_app, scr_app, cpy_app, Nat.reduceEqDiff, Int.reduceToNat, Int.toNat_natCast, and_true, true_and, and_false, false_and, and_self, reduceIte]
    refine q_iconst (t := 26) F dX4_put_25 rfl ?_
    refine q_iadd (t := 27) F dX4_put_26 rfl ?_
    refine p_X4_19 (t := 30) F dX4_put_27 rfl rfl ?_
    refine q_aload_n (t := 31) F dX4_put_30 rfl rfl rfl ?_
    refine g_X4_19 (t := 34) F dX4_put_31 rfl rfl ?_
    try simp only [up_app, row_app, scr_app, cpy_app, Nat.reduceEqDiff, Int.reduceToNat, Int.toNat_natCast, and_true, true_and, and_false, false_and, and_self, reduceIte]
    refine q_iret F dX4_put_34 rfl ?_
    first | exact ⟨_, rfl, by rw [if_pos (by omega)], by rw [if_pos (by omega)]⟩ | exact ⟨_, rfl, by rw [if_neg (by omega)], by rw [if_neg (by omega)]⟩

set_option maxHeartbeats 4000000 in
theorem c_X8_feed (l : Launch) (G : GS) (im : IM) (bt rt : Nat) (lm : IM) (hbt : bt < 6) (hrt : rt < 6) (hS : SC im) (letter : Int) (hletter : ri letter) : Cn l (XC G) yX8_feed Y_X8_feed [vR 0 0, vI letter] (im, rs bt rt, lm) (pI fun x m' => x = feedA im letter ∧ stC lm (feedM im letter) m') := by
  refine cn_of (by decide) (okC G) rfl (Nat.le_of_ble_eq_true rfl) ?_
  intro M ad hMl F
  subst hMl
  obtain ⟨hR, hW, hh, htc, hru, hgt, hz, hrd, hsh, him, htp⟩ := hS
  have w1 := hW.1
  have w2 := hW.2.1
  have w3 := hW.2.2.1
  have w4 := hW.2.2.2.1
  have w5 := hW.2.2.2.2.1
  have hletter1 := hletter.1
  have hletter2 := hletter.2
  refine wp_pad 0 ?_
  show Wp M (XC G) ad Y_X8_feed (pI fun x m' => x = feedA im letter ∧ stC lm (feedM im letter) m') 0 [some (vR 0 0), some (vI letter)] [] (im, rs bt rt, lm)
  refine q_iload_n (t := 1) F dX8_feed_0 rfl rfl rfl ?_
  refine q_sipush (t := 4) F dX8_feed_1 (by decide) rfl ?_
  refine wp_callS (t := 7) [_, _] F dX8_feed_4 k_X8_within st_X8_within ml_X8_95 rfl rfl (Nat.le_of_ble_eq_true rfl) (by decide) (c_X8_within _ G _ bt rt lm letter 256 hletter (by constructor <;> omega)) rfl (kI ?_)
  rintro x4 m' ⟨hx4, rfl⟩
  have hx4 := if01 hx4
  refine q_if_ne (t := 10) (u := 13) F dX8_feed_7 (by first | exact hR _ _ _ | (constructor <;> omega)) (by decide) rfl (fun c7 => ?_) (fun c7 => ?_)
  · refine q_aload_n (t := 14) F dX8_feed_13 rfl rfl rfl ?_
    refine g_X8_35 (t := 17) F dX8_feed_14 rfl rfl ?_
    refine g_X8_146 (t := 20) F dX8_feed_17 rfl rfl ?_
    try simp only [up_app, row_app, scr_app, cpy_app, Nat.reduceEqDiff, Int.reduceToNat, Int.toNat_natCast, and_true, true_and, and_false, false_and, and_self, reduceIte]
    refine q_sipush (t := 23) F dX8_feed_20 (by decide) rfl ?_
    refine q_icmp_lt (t := 26) (u := 29) F dX8_feed_23 (by first | exact hR _ _ _ | (constructor <;> omega)) (by first | exact hR _ _ _ | (constructor <;> omega)) (by decide) rfl (fun c23 => ?_) (fun c23 => ?_)
    · refine q_aload_n (t := 30) F dX8_feed_29 rfl rfl rfl ?_
      refine g_X8_35 (t := 33) F dX8_feed_30 rfl rfl ?_
      refine q_iload_n (t := 34) F dX8_feed_33 rfl rfl rfl ?_
      refine wp_callV (t := 37) [_] F dX8_feed_34 k_X4_put v_X4_put ml_X8_73 rfl rfl rfl rfl (Nat.le_of_ble_eq_true rfl) (by decide) (m_14 (by omega)) (c_X4_put _ G im bt rt lm hR hrd.1 hrd.2 letter) rfl (kI ?_)
      rintro x34 m' ⟨rfl, rfl⟩
      rw [if_pos (show im 14 0 1 < 160 by omega), if_pos (show im 14 0 1 < 160 by omega)]
      refine q_iret F dX8_feed_37 rfl ?_
      refine ⟨_, rfl, ?_, _, bt, rt, hbt, hrt, (by repeat' first | exact hR | refine RI_up ?_ ?_ | assumption | exact hR _ _ _ | (constructor <;> omega)), ?_, rfl⟩
      · unfold feedA
        (repeat' split) <;> omega
      · unfold feedM
        (repeat' split) <;> first | exact agP_rfl _ | (exfalso; omega)
    · refine q_bipush (t := 28) F dX8_feed_26 (by decide) rfl ?_
      refine q_iret F dX8_feed_28 rfl ?_
      refine ⟨_, rfl, ?_, _, bt, rt, hbt, hrt, (by repeat' first | exact hR | refine RI_up ?_ ?_ | assumption | exact hR _ _ _ | (constructor <;> omega)), ?_, rfl⟩
      · unfold feedA
        (repeat' split) <;> omega
      · unfold feedM
        (repeat' split) <;> first | exact agP_rfl _ | (exfalso; omega)
  · refine q_bipush (t := 12) F dX8_feed_10 (by decide) rfl ?_
    refine q_iret F dX8_feed_12 rfl ?_
    refine ⟨_, rfl, ?_, _, bt, rt, hbt, hrt, (by repeat' first | exact hR | refine RI_up ?_ ?_ | assumption | exact hR _ _ _ | (constructor <;> omega)), ?_, rfl⟩
    · unfold feedA
      (repeat' split) <;> omega
    · unfold feedM
      (repeat' split) <;> first | exact agP_rfl _ | (exfalso; omega)

def forceA (im : IM) (text : Int) : Int := if 0 ≤ text ∧ text < im 0 0 8 then im 18 0 7 else -2
def forceM (im : IM) (text : Int) : IM := if 0 ≤ text ∧ text < im 0 0 8 then up im 18 0 7 text else im

set_option maxHeartbeats 4000000 in
theorem c_X8_force (l : Launch) (G : GS) (im : IM) (bt rt : Nat) (lm : IM) (hbt : bt < 6) (hrt : rt < 6) (hS : SC im) (text : Int) (htext : ri text) : Cn l (XC G) yX8_force Y_X8_force [vR 0 0, vI text] (im, rs bt rt, lm) (pI fun x m' => x = forceA im text ∧ stC lm (forceM im text) m') := by
  refine cn_of (by decide) (okC G) rfl (Nat.le_of_ble_eq_true rfl) ?_
  intro M ad hMl F
  subst hMl
  obtain ⟨hR, hW, hh, htc, hru, hgt, hz, hrd, hsh, him, htp⟩ := hS
  have w1 := hW.1
  have w2 := hW.2.1
  have w3 := hW.2.2.1
  have w4 := hW.2.2.2.1
  have w5 := hW.2.2.2.2.1
  have htext1 := htext.1
  have htext2 := htext.2
  refine wp_pad 1 ?_
  show Wp M (XC G) ad Y_X8_force (pI fun x m' => x = forceA im text ∧ stC lm (forceM im text) m') 0 [some (vR 0 0), some (vI text), none] [] (im, rs bt rt, lm)
  refine q_iload_n (t := 1) F dX8_force_0 rfl rfl rfl ?_
  refine q_aload_n (t := 2) F dX8_force_1 rfl rfl rfl ?_
  refine g_X8_81 (t := 5) F dX8_force_2 rfl rfl ?_
  refine wp_callS (t := 8) [_, _] F dX8_force_5 k_X8_within st_X8_within ml_X8_95 rfl rfl (Nat.le_of_ble_eq_true rfl) (by decide) (c_X8_within _ G _ bt rt lm text (im 0 0 8) htext (hR _ _ _)) rfl (kI ?_)
  rintro x5 m' ⟨hx5, rfl⟩
  have hx5 := if01 hx5
  refine q_if_ne (t := 11) (u := 14) F dX8_force_8 (by first | exact hR _ _ _ | (constructor <;> omega)) (by decide) rfl (fun c8 => ?_) (fun c8 => ?_)
  · refine q_aload_n (t := 15) F dX8_force_14 rfl rfl rfl ?_
    refine g_X8_51 (t := 18) F dX8_force_15 rfl rfl ?_
    refine g_X8_147 (t := 21) F dX8_force_18 rfl (by omega) rfl ?_
    try simp only [up_app, row_app, scr_app, cpy_app, Nat.reduceEqDiff, Int.reduceToNat, Int.toNat_natCast, and_true, true_and, and_false, false_and, and_self, reduceIte]
    refine q_istore_n (t := 22) F dX8_force_21 rfl (by decide) rfl rfl ?_
    refine q_aload_n (t := 23) F dX8_force_22 rfl rfl rfl ?_
    refine g_X8_51 (t := 26) F dX8_force_23 rfl rfl ?_
    refine q_iload_n (t := 27) F dX8_force_26 rfl rfl rfl ?_
    refine p_X8_147 (t := 30) F dX8_force_27 rfl (by omega) rfl ?_
    refine q_iload_n (t := 31) F dX8_force_30 rfl rfl rfl ?_
    refine q_iret F dX8_force_31 rfl ?_
    refine ⟨_, rfl, ?_, _, bt, rt, hbt, hrt, (by repeat' first | exact hR | refine RI_up ?_ ?_ | assumption | exact hR _ _ _ | (constructor <;> omega)), ?_, rfl⟩
    · unfold forceA
      (repeat' split) <;> omega
    · unfold forceM
      (repeat' split) <;> first | exact agP_rfl _ | (exfalso; omega)
  · refine q_bipush (t := 13) F dX8_force_11 (by decide) rfl ?_
    refine q_iret F dX8_force_13 rfl ?_
    refine ⟨_, rfl, ?_, _, bt, rt, hbt, hrt, (by repeat' first | exact hR | refine RI_up ?_ ?_ | assumption | exact hR _ _ _ | (constructor <;> omega)), ?_, rfl⟩
    · unfold forceA
      (repeat' split) <;> omega
    · unfold forceM
      (repeat' split) <;> first | exact agP_rfl _ | (exfalso; omega)

def sayA (im : IM) (man w food : Int) : Int := if (0 ≤ man ∧ man < im 18 0 3) ∧ (0 ≤ w ∧ w < 16) ∧ 0 ≤ food ∧ food < 10 then uttW im 0 man.toNat w food else -2
def sayM (im : IM) (man w food : Int) : IM := if (0 ≤ man ∧ man < im 18 0 3) ∧ (0 ≤ w ∧ w < 16) ∧ 0 ≤ food ∧ food < 10 then uttM im 0 man.toNat w food else im

set_option maxHeartbeats 4000000 in
theorem c_X8_say (l : Launch) (G : GS) (im : IM) (bt rt : Nat) (lm : IM) (hbt : bt < 6) (hrt : rt < 6) (hS : SC im) (man : Int) (w : Int) (food : Int) (hman : ri man) (hw : ri w) (hfood : ri food) : Cn l (XC G) yX8_say Y_X8_say [vR 0 0, vI man, vI w, vI food] (im, rs bt rt, lm) (pI fun x m' => x = sayA im man w food ∧ stC lm (sayM im man w food) m') := by
  refine cn_of (by decide) (okC G) rfl (Nat.le_of_ble_eq_true rfl) ?_
  intro M ad hMl F
  subst hMl
  obtain ⟨hR, hW, hh, htc, hru, hgt, hz, hrd, hsh, him, htp⟩ := hS
  have w1 := hW.1
  have w2 := hW.2.1
  have w3 := hW.2.2.1
  have w4 := hW.2.2.2.1
  have w5 := hW.2.2.2.2.1
  have hman1 := hman.1
  have hman2 := hman.2
  have hw1 := hw.1
  have hw2 := hw.2
  have hfood1 := hfood.1
  have hfood2 := hfood.2
  refine wp_pad 0 ?_
  show Wp M (XC G) ad Y_X8_say (pI fun x m' => x = sayA im man w food ∧ stC lm (sayM im man w food) m') 0 [some (vR 0 0), some (vI man), some (vI w), some (vI food)] [] (im, rs bt rt, lm)
  refine q_aload_n (t := 1) F dX8_say_0 rfl rfl rfl ?_
  refine q_iload_n (t := 2) F dX8_say_1 rfl rfl rfl ?_
  refine wp_callV (t := 5) [_] F dX8_say_2 k_X8_isOne v_X8_isOne ml_X8_91 rfl rfl rfl rfl (Nat.le_of_ble_eq_true rfl) (by decide) (m_0 (by omega)) (c_X8_isOne _ G _ bt rt lm man hman hR) rfl (kI ?_)
  rintro x2 m' ⟨hx2, rfl⟩
  have hx2 := if01 hx2
  refine q_if_eq (t := 8) (u := 26) F dX8_say_5 (by first | exact hR _ _ _ | (constructor <;> omega)) (by decide) rfl (fun c5 => ?_) (fun c5 => ?_)
  · refine q_bipush (t := 28) F dX8_say_26 (by decide) rfl ?_
    refine q_iret F dX8_say_28 rfl ?_
    refine ⟨_, rfl, ?_, _, bt, rt, hbt, hrt, (by repeat' first | exact hR | refine RI_up ?_ ?_ | assumption | exact hR _ _ _ | (constructor <;> omega)), ?_, rfl⟩
    · unfold sayA
      (repeat' split) <;> omega
    · unfold sayM
      (repeat' split) <;> first | exact agP_rfl _ | (exfalso; omega)
  · refine q_iload_n (t := 9) F dX8_say_8 rfl rfl rfl ?_
    refine q_bipush (t := 11) F dX8_say_9 (by decide) rfl ?_
    refine wp_callS (t := 14) [_, _] F dX8_say_11 k_X8_within st_X8_within ml_X8_95 rfl rfl (Nat.le_of_ble_eq_true rfl) (by decide) (c_X8_within _ G _ bt rt lm w 16 hw (by constructor <;> omega)) rfl (kI ?_)
    rintro x11 m' ⟨hx11, rfl⟩
    have hx11 := if01 hx11
    refine q_if_eq (t := 17) (u := 26) F dX8_say_14 (by first | exact hR _ _ _ | (constructor <;> omega)) (by decide) rfl (fun c14 => ?_) (fun c14 => ?_)
    · refine q_bipush (t := 28) F dX8_say_26 (by decide) rfl ?_
      refine q_iret F dX8_say_28 rfl ?_
      refine ⟨_, rfl, ?_, _, bt, rt, hbt, hrt, (by repeat' first | exact hR | refine RI_up ?_ ?_ | assumption | exact hR _ _ _ | (constructor <;> omega)), ?_, rfl⟩
      · unfold sayA
        (repeat' split) <;> omega
      · unfold sayM
        (repeat' split) <;> first | exact agP_rfl _ | (exfalso; omega)
    · refine q_iload_n (t := 18) F dX8_say_17 rfl rfl rfl ?_
      refine q_bipush (t := 20) F dX8_say_18 (by decide) rfl ?_
      refine wp_callS (t := 23) [_, _] F dX8_say_20 k_X8_within st_X8_within ml_X8_95 rfl rfl (Nat.le_of_ble_eq_true rfl) (by decide) (c_X8_within _ G _ bt rt lm food 10 hfood (by constructor <;> omega)) rfl (kI ?_)
      rintro x20 m' ⟨hx20, rfl⟩
      have hx20 := if01 hx20
      refine q_if_ne (t := 26) (u := 29) F dX8_say_23 (by first | exact hR _ _ _ | (constructor <;> omega)) (by decide) rfl (fun c23 => ?_) (fun c23 => ?_)
      · refine q_aload_n (t := 30) F dX8_say_29 rfl rfl rfl ?_
        refine g_X8_51 (t := 33) F dX8_say_30 rfl rfl ?_
        refine q_iload_n (t := 34) F dX8_say_33 rfl rfl rfl ?_
        refine q_iload_n (t := 35) F dX8_say_34 rfl rfl rfl ?_
        refine q_iload_n (t := 36) F dX8_say_35 rfl rfl rfl ?_
        rw [show man = ((man.toNat : Nat) : Int) by omega]
        refine wp_callV (t := 39) [_, _, _] F dX8_say_36 k_X7_utter v_X7_utter ml_X8_150 rfl rfl rfl rfl (Nat.le_of_ble_eq_true rfl) (by decide) (m_18 (by omega)) (c_X7_utter _ G im bt rt lm 0 (by omega) hR hW man.toNat (by omega) w food (by omega) hfood) rfl (kI ?_)
        rintro x36 m' ⟨hx, im2, hR2, hag2, rfl⟩
        refine q_iret F dX8_say_39 rfl ?_
        refine ⟨_, rfl, ?_, im2, bt, rt, hbt, hrt, hR2, ?_, rfl⟩
        · unfold sayA
          rw [if_pos (by omega), hx]
          try rw [Int.toNat_natCast]
        · unfold sayM
          rw [if_pos (by omega)]
          try rw [Int.toNat_natCast]
          exact agP_of (hag2.mono (by decide))
      · refine q_bipush (t := 28) F dX8_say_26 (by decide) rfl ?_
        refine q_iret F dX8_say_28 rfl ?_
        refine ⟨_, rfl, ?_, _, bt, rt, hbt, hrt, (by repeat' first | exact hR | refine RI_up ?_ ?_ | assumption | exact hR _ _ _ | (constructor <;> omega)), ?_, rfl⟩
        · unfold sayA
          (repeat' split) <;> omega
        · unfold sayM
          (repeat' split) <;> first | exact agP_rfl _ | (exfalso; omega)

def flossA (im : IM) (man gap : Int) : Int := if (0 ≤ man ∧ man < im 18 0 3) ∧ 0 ≤ gap ∧ gap < 10 then im 22 (5 * 0 + man.toNat) gap.toNat else -2
def flossM (im : IM) (man gap : Int) : IM := if (0 ≤ man ∧ man < im 18 0 3) ∧ 0 ≤ gap ∧ gap < 10 then up im 22 (5 * 0 + man.toNat) gap.toNat (-1) else im

set_option maxHeartbeats 4000000 in
theorem c_X8_floss (l : Launch) (G : GS) (im : IM) (bt rt : Nat) (lm : IM) (hbt : bt < 6) (hrt : rt < 6) (hS : SC im) (man : Int) (gap : Int) (hman : ri man) (hgap : ri gap) : Cn l (XC G) yX8_floss Y_X8_floss [vR 0 0, vI man, vI gap] (im, rs bt rt, lm) (pI fun x m' => x = flossA im man gap ∧ stC lm (flossM im man gap) m') := by
  refine cn_of (by decide) (okC G) rfl (Nat.le_of_ble_eq_true rfl) ?_
  intro M ad hMl F
  subst hMl
  obtain ⟨hR, hW, hh, htc, hru, hgt, hz, hrd, hsh, him, htp⟩ := hS
  have w1 := hW.1
  have w2 := hW.2.1
  have w3 := hW.2.2.1
  have w4 := hW.2.2.2.1
  have w5 := hW.2.2.2.2.1
  have hman1 := hman.1
  have hman2 := hman.2
  have hgap1 := hgap.1
  have hgap2 := hgap.2
  refine wp_pad 0 ?_
  show Wp M (XC G) ad Y_X8_floss (pI fun x m' => x = flossA im man gap ∧ stC lm (flossM im man gap) m') 0 [some (vR 0 0), some (vI man), some (vI gap)] [] (im, rs bt rt, lm)
  refine q_aload_n (t := 1) F dX8_floss_0 rfl rfl rfl ?_
  refine q_iload_n (t := 2) F dX8_floss_1 rfl rfl rfl ?_
  refine wp_callV (t := 5) [_] F dX8_floss_2 k_X8_isOne v_X8_isOne ml_X8_91 rfl rfl rfl rfl (Nat.le_of_ble_eq_true rfl) (by decide) (m_0 (by omega)) (c_X8_isOne _ G _ bt rt lm man hman hR) rfl (kI ?_)
  rintro x2 m' ⟨hx2, rfl⟩
  have hx2 := if01 hx2
  refine q_if_eq (t := 8) (u := 17) F dX8_floss_5 (by first | exact hR _ _ _ | (constructor <;> omega)) (by decide) rfl (fun c5 => ?_) (fun c5 => ?_)
  · refine q_bipush (t := 19) F dX8_floss_17 (by decide) rfl ?_
    refine q_iret F dX8_floss_19 rfl ?_
    refine ⟨_, rfl, ?_, _, bt, rt, hbt, hrt, (by repeat' first | exact hR | refine RI_up ?_ ?_ | assumption | exact hR _ _ _ | (constructor <;> omega)), ?_, rfl⟩
    · unfold flossA
      (repeat' split) <;> omega
    · unfold flossM
      (repeat' split) <;> first | exact agP_rfl _ | (exfalso; omega)
  · refine q_iload_n (t := 9) F dX8_floss_8 rfl rfl rfl ?_
    refine q_bipush (t := 11) F dX8_floss_9 (by decide) rfl ?_
    refine wp_callS (t := 14) [_, _] F dX8_floss_11 k_X8_within st_X8_within ml_X8_95 rfl rfl (Nat.le_of_ble_eq_true rfl) (by decide) (c_X8_within _ G _ bt rt lm gap 10 hgap (by constructor <;> omega)) rfl (kI ?_)
    rintro x11 m' ⟨hx11, rfl⟩
    have hx11 := if01 hx11
    refine q_if_ne (t := 17) (u := 20) F dX8_floss_14 (by first | exact hR _ _ _ | (constructor <;> omega)) (by decide) rfl (fun c14 => ?_) (fun c14 => ?_)
    · refine q_aload_n (t := 21) F dX8_floss_20 rfl rfl rfl ?_
      refine g_X8_51 (t := 24) F dX8_floss_21 rfl rfl ?_
      refine g_X8_99 (t := 27) F dX8_floss_24 rfl (by omega) rfl ?_
      refine q_iload_n (t := 28) F dX8_floss_27 rfl rfl rfl ?_
      refine la_19 (t := 29) F dX8_floss_28 (by omega) (by omega) (by omega) rfl ?_
      refine q_iload_n (t := 30) F dX8_floss_29 rfl rfl rfl ?_
      rw [show gap = ((gap.toNat : Nat) : Int) by omega]
      refine wp_callV (t := 33) [_] F dX8_floss_30 k_X3_empty v_X3_empty ml_X8_153 rfl rfl rfl rfl (Nat.le_of_ble_eq_true rfl) (by decide) (m_21 (by omega)) (c_X3_empty _ G im bt rt lm (5 * 0 + man.toNat) (by omega) gap.toNat (by omega)) rfl (kI ?_)
      rintro x30 m' ⟨rfl, rfl⟩
      refine q_iret F dX8_floss_33 rfl ?_
      refine ⟨_, rfl, ?_, _, bt, rt, hbt, hrt, RI_up hR (by constructor <;> omega), ?_, rfl⟩
      · unfold flossA
        rw [if_pos (by omega)]
        try simp only [Int.toNat_natCast]
      · unfold flossM
        rw [if_pos (by omega)]
        try simp only [Int.toNat_natCast]
        exact agP_rfl _
    · refine q_bipush (t := 19) F dX8_floss_17 (by decide) rfl ?_
      refine q_iret F dX8_floss_19 rfl ?_
      refine ⟨_, rfl, ?_, _, bt, rt, hbt, hrt, (by repeat' first | exact hR | refine RI_up ?_ ?_ | assumption | exact hR _ _ _ | (constructor <;> omega)), ?_, rfl⟩
      · unfold flossA
        (repeat' split) <;> omega
      · unfold flossM
        (repeat' split) <;> first | exact agP_rfl _ | (exfalso; omega)

def kissA (im : IM) (man other : Int) : Int := if (0 ≤ man ∧ man < im 18 0 3) ∧ (0 ≤ other ∧ other < im 18 0 3) ∧ man ≠ other then hndN im (5 * 0 + man.toNat) (5 * 0 + other.toNat) 10 else -2
def kissM (im : IM) (man other : Int) : IM := if (0 ≤ man ∧ man < im 18 0 3) ∧ (0 ≤ other ∧ other < im 18 0 3) ∧ man ≠ other then hnd im (5 * 0 + man.toNat) (5 * 0 + other.toNat) 10 else im

set_option maxHeartbeats 4000000 in
theorem c_X8_kiss (l : Launch) (G : GS) (im : IM) (bt rt : Nat) (lm : IM) (hbt : bt < 6) (hrt : rt < 6) (hS : SC im) (man : Int) (other : Int) (hman : ri man) (hother : ri other) : Cn l (XC G) yX8_kiss Y_X8_kiss [vR 0 0, vI man, vI other] (im, rs bt rt, lm) (pI fun x m' => x = kissA im man other ∧ stC lm (kissM im man other) m') := by
  refine cn_of (by decide) (okC G) rfl (Nat.le_of_ble_eq_true rfl) ?_
  intro M ad hMl F
  subst hMl
  obtain ⟨hR, hW, hh, htc, hru, hgt, hz, hrd, hsh, him, htp⟩ := hS
  have w1 := hW.1
  have w2 := hW.2.1
  have w3 := hW.2.2.1
  have w4 := hW.2.2.2.1
  have w5 := hW.2.2.2.2.1
  have hman1 := hman.1
  have hman2 := hman.2
  have hother1 := hother.1
  have hother2 := hother.2
  refine wp_pad 0 ?_
  show Wp M (XC G) ad Y_X8_kiss (pI fun x m' => x = kissA im man other ∧ stC lm (kissM im man other) m') 0 [some (vR 0 0), some (vI man), some (vI other)] [] (im, rs bt rt, lm)
  refine q_aload_n (t := 1) F dX8_kiss_0 rfl rfl rfl ?_
  refine q_iload_n (t := 2) F dX8_kiss_1 rfl rfl rfl ?_
  refine wp_callV (t := 5) [_] F dX8_kiss_2 k_X8_isOne v_X8_isOne ml_X8_91 rfl rfl rfl rfl (Nat.le_of_ble_eq_true rfl) (by decide) (m_0 (by omega)) (c_X8_isOne _ G _ bt rt lm man hman hR) rfl (kI ?_)
  rintro x2 m' ⟨hx2, rfl⟩
  have hx2 := if01 hx2
  refine q_if_eq (t := 8) (u := 21) F dX8_kiss_5 (by first | exact hR _ _ _ | (constructor <;> omega)) (by decide) rfl (fun c5 => ?_) (fun c5 => ?_)
  · refine q_bipush (t := 23) F dX8_kiss_21 (by decide) rfl ?_
    refine q_iret F dX8_kiss_23 rfl ?_
    refine ⟨_, rfl, ?_, _, bt, rt, hbt, hrt, (by repeat' first | exact hR | refine RI_up ?_ ?_ | assumption | exact hR _ _ _ | (constructor <;> omega)), ?_, rfl⟩
    · unfold kissA
      (repeat' split) <;> omega
    · unfold kissM
      (repeat' split) <;> first | exact agP_rfl _ | (exfalso; omega)
  · refine q_aload_n (t := 9) F dX8_kiss_8 rfl rfl rfl ?_
    refine q_iload_n (t := 10) F dX8_kiss_9 rfl rfl rfl ?_
    refine wp_callV (t := 13) [_] F dX8_kiss_10 k_X8_isOne v_X8_isOne ml_X8_91 rfl rfl rfl rfl (Nat.le_of_ble_eq_true rfl) (by decide) (m_0 (by omega)) (c_X8_isOne _ G _ bt rt lm other hother hR) rfl (kI ?_)
    rintro x10 m' ⟨hx10, rfl⟩
    have hx10 := if01 hx10
    refine q_if_eq (t := 16) (u := 21) F dX8_kiss_13 (by first | exact hR _ _ _ | (constructor <;> omega)) (by decide) rfl (fun c13 => ?_) (fun c13 => ?_)
    · refine q_bipush (t := 23) F dX8_kiss_21 (by decide) rfl ?_
      refine q_iret F dX8_kiss_23 rfl ?_
      refine ⟨_, rfl, ?_, _, bt, rt, hbt, hrt, (by repeat' first | exact hR | refine RI_up ?_ ?_ | assumption | exact hR _ _ _ | (constructor <;> omega)), ?_, rfl⟩
      · unfold kissA
        (repeat' split) <;> omega
      · unfold kissM
        (repeat' split) <;> first | exact agP_rfl _ | (exfalso; omega)
    · refine q_iload_n (t := 17) F dX8_kiss_16 rfl rfl rfl ?_
      refine q_iload_n (t := 18) F dX8_kiss_17 rfl rfl rfl ?_
      refine q_icmp_ne (t := 21) (u := 24) F dX8_kiss_18 (by first | exact hR _ _ _ | (constructor <;> omega)) (by first | exact hR _ _ _ | (constructor <;> omega)) (by decide) rfl (fun c18 => ?_) (fun c18 => ?_)
      · refine q_aload_n (t := 25) F dX8_kiss_24 rfl rfl rfl ?_
        refine g_X8_51 (t := 28) F dX8_kiss_25 rfl rfl ?_
        refine q_iload_n (t := 29) F dX8_kiss_28 rfl rfl rfl ?_
        refine q_iload_n (t := 30) F dX8_kiss_29 rfl rfl rfl ?_
        rw [show man = ((man.toNat : Nat) : Int) by omega, show other = ((other.toNat : Nat) : Int) by omega]
        refine wp_callV (t := 33) [_, _] F dX8_kiss_30 k_X7_handOn v_X7_handOn ml_X8_156 rfl rfl rfl rfl (Nat.le_of_ble_eq_true rfl) (by decide) (m_18 (by omega)) (c_X7_handOn _ G im bt rt lm 0 (by omega) hR man.toNat other.toNat (by omega) (by omega) (by omega)) rfl (kI ?_)
        rintro x30 m' ⟨rfl, rfl⟩
        refine q_iret F dX8_kiss_33 rfl ?_
        refine ⟨_, rfl, ?_, _, bt, rt, hbt, hrt, RI_hnd hR, ?_, rfl⟩
        · unfold kissA
          rw [if_pos (by omega)]
          try simp only [Int.toNat_natCast]
        · unfold kissM
          rw [if_pos (by omega)]
          try simp only [Int.toNat_natCast]
          exact agP_rfl _
      · refine q_bipush (t := 23) F dX8_kiss_21 (by decide) rfl ?_
        refine q_iret F dX8_kiss_23 rfl ?_
        refine ⟨_, rfl, ?_, _, bt, rt, hbt, hrt, (by repeat' first | exact hR | refine RI_up ?_ ?_ | assumption | exact hR _ _ _ | (constructor <;> omega)), ?_, rfl⟩
        · unfold kissA
          (repeat' split) <;> omega
        · unfold kissM
          (repeat' split) <;> first | exact agP_rfl _ | (exfalso; omega)

def liveA (im : IM) : Int := if 999 ≤ im 18 0 4 then -3 else cntO im 0 (10 * (im 18 0 3).toNat)
def liveM (im : IM) : IM := if 999 ≤ im 18 0 4 then im else up (pasM im 0 (10 * (im 18 0 3).toNat)) 18 0 4 (im 18 0 4 + 1)

set_option maxHeartbeats 4000000 in
theorem c_X8_live (l : Launch) (G : GS) (im : IM) (bt rt : Nat) (lm : IM) (hbt : bt < 6) (hrt : rt < 6) (hS : SC im) : Cn l (XC G) yX8_live Y_X8_live [vR 0 0] (im, rs bt rt, lm) (pI fun x m' => x = liveA im  ∧ stC lm (liveM im ) m') := by
  refine cn_of (by decide) (okC G) rfl (Nat.le_of_ble_eq_true rfl) ?_
  intro M ad hMl F
  subst hMl
  obtain ⟨hR, hW, hh, htc, hru, hgt, hz, hrd, hsh, him, htp⟩ := hS
  have w1 := hW.1
  have w2 := hW.2.1
  have w3 := hW.2.2.1
  have w4 := hW.2.2.2.1
  have w5 := hW.2.2.2.2.1
  refine wp_pad 0 ?_
  show Wp M (XC G) ad Y_X8_live (pI fun x m' => x = liveA im  ∧ stC lm (liveM im ) m') 0 [some (vR 0 0)] [] (im, rs bt rt, lm)
  refine q_aload_n (t := 1) F dX8_live_0 rfl rfl rfl ?_
  refine g_X8_51 (t := 4) F dX8_live_1 rfl rfl ?_
  refine g_X8_108 (t := 7) F dX8_live_4 rfl (by omega) rfl ?_
  refine q_sipush (t := 10) F dX8_live_7 (by decide) rfl ?_
  refine q_icmp_lt (t := 13) (u := 16) F dX8_live_10 (by first | exact hR _ _ _ | (constructor <;> omega)) (by first | exact hR _ _ _ | (constructor <;> omega)) (by decide) rfl (fun c10 => ?_) (fun c10 => ?_)
  · refine q_aload_n (t := 17) F dX8_live_16 rfl rfl rfl ?_
    refine g_X8_51 (t := 20) F dX8_live_17 rfl rfl ?_
    refine q_aload_n (t := 21) F dX8_live_20 rfl rfl rfl ?_
    refine g_X8_42 (t := 24) F dX8_live_21 rfl rfl ?_
    refine wp_callV (t := 27) [_] F dX8_live_24 k_X7_pass v_X7_pass ml_X8_159 rfl rfl rfl rfl (Nat.le_of_ble_eq_true rfl) (by decide) (m_18 (by omega)) (c_X7_pass _ G im bt rt lm 0 (by omega) hbt hR hW) rfl (kI ?_)
    rintro x24 m' ⟨hx, im2, bt2, hbt2, hR2, hag2, rfl⟩
    refine q_iret F dX8_live_27 rfl ?_
    refine ⟨_, rfl, by unfold liveA; rw [if_neg (by omega)]; exact hx, im2, bt2, rt, hbt2, hrt, hR2, ?_, rfl⟩
    unfold liveM
    rw [if_neg (by omega)]
    exact agP_of (hag2.mono (by decide))
  · refine q_bipush (t := 15) F dX8_live_13 (by decide) rfl ?_
    refine q_iret F dX8_live_15 rfl ?_
    refine ⟨_, rfl, ?_, _, bt, rt, hbt, hrt, (by repeat' first | exact hR | refine RI_up ?_ ?_ | assumption | exact hR _ _ _ | (constructor <;> omega)), ?_, rfl⟩
    · unfold liveA
      (repeat' split) <;> omega
    · unfold liveM
      (repeat' split) <;> first | exact agP_rfl _ | (exfalso; omega)
end
section
/-! run, off, foods, best, few -/
def runA (im : IM) (n what : Int) : Int := if (0 ≤ n ∧ n ≤ 60) ∧ 0 ≤ what ∧ what < 5 then (if what = 0 then sumF im 0 n.toNat 50 else if what = 1 then cntF im 0 n.toNat 50 else if firstF im 0 n.toNat 50 = -1 then -1 else if what = 2 then im 22 (5 * 0 + (firstF im 0 n.toNat 50 / 10).toNat) (firstF im 0 n.toNat 50 % 10).toNat else if what = 3 then firstF im 0 n.toNat 50 / 10 else whenF im 0 n.toNat (firstF im 0 n.toNat 50).toNat) else -2
theorem FI_agP {im im2 : IM} {w n N : Nat} (h : FI im im2 w n N) : agP im2 im := agP_of (h.1.mono (by decide))

set_option maxHeartbeats 4000000 in
theorem c_X8_run (l : Launch) (G : GS) (im : IM) (bt rt : Nat) (lm : IM) (hbt : bt < 6) (hrt : rt < 6) (hS : SC im) (n : Int) (what : Int) (hn : ri n) (hwhat : ri what) : Cn l (XC G) yX8_run Y_X8_run [vR 0 0, vI n, vI what] (im, rs bt rt, lm) (pI fun x m' => x = runA im n what ∧ stC lm im m') := by
  refine cn_of (by decide) (okC G) rfl (Nat.le_of_ble_eq_true rfl) ?_
  intro M ad hMl F
  subst hMl
  obtain ⟨hR, hW, hh, htc, hru, hgt, hz, hrd, hsh, him, htp⟩ := hS
  have w1 := hW.1
  have w2 := hW.2.1
  have w3 := hW.2.2.1
  have w4 := hW.2.2.2.1
  have w5 := hW.2.2.2.2.1
  have hn1 := hn.1
  have hn2 := hn.2
  have hwhat1 := hwhat.1
  have hwhat2 := hwhat.2
  refine wp_pad 1 ?_
  show Wp M (XC G) ad Y_X8_run (pI fun x m' => x = runA im n what ∧ stC lm im m') 0 [some (vR 0 0), some (vI n), some (vI what), none] [] (im, rs bt rt, lm)
  refine q_iload_n (t := 1) F dX8_run_0 rfl rfl rfl ?_
  refine wp_callS (t := 4) [_] F dX8_run_1 k_X8_isSpan st_X8_isSpan ml_X8_163 rfl rfl (Nat.le_of_ble_eq_true rfl) (by decide) (c_X8_isSpan _ G _ bt rt lm n hn) rfl (kI ?_)
  rintro x1 m' ⟨hx1, rfl⟩
  have hx1 := if01 hx1
  refine q_if_eq (t := 7) (u := 15) F dX8_run_4 (by first | exact hR _ _ _ | (constructor <;> omega)) (by decide) rfl (fun c4 => ?_) (fun c4 => ?_)
  · refine q_bipush (t := 17) F dX8_run_15 (by decide) rfl ?_
    refine q_iret F dX8_run_17 rfl ?_
    refine ⟨_, rfl, ?_, _, bt, rt, hbt, hrt, (by repeat' first | exact hR | refine RI_up ?_ ?_ | assumption | exact hR _ _ _ | (constructor <;> omega)), ?_, rfl⟩
    · unfold runA
      (repeat' split) <;> omega
    · exact agP_rfl _
  · refine q_iload_n (t := 8) F dX8_run_7 rfl rfl rfl ?_
    refine q_iconst (t := 9) F dX8_run_8 rfl ?_
    refine wp_callS (t := 12) [_, _] F dX8_run_9 k_X8_within st_X8_within ml_X8_95 rfl rfl (Nat.le_of_ble_eq_true rfl) (by decide) (c_X8_within _ G _ bt rt lm what 5 hwhat (by constructor <;> omega)) rfl (kI ?_)
    rintro x9 m' ⟨hx9, rfl⟩
    have hx9 := if01 hx9
    refine q_if_ne (t := 15) (u := 18) F dX8_run_12 (by first | exact hR _ _ _ | (constructor <;> omega)) (by decide) rfl (fun c12 => ?_) (fun c12 => ?_)
    · obtain ⟨n, rfl⟩ : ∃ k : Nat, n = (k : Int) := ⟨n.toNat, by omega⟩
      refine q_aload_n (t := 19) F dX8_run_18 rfl rfl rfl ?_
      refine g_X8_24 (t := 22) F dX8_run_19 rfl rfl ?_
      refine q_aload_n (t := 23) F dX8_run_22 rfl rfl rfl ?_
      refine g_X8_51 (t := 26) F dX8_run_23 rfl rfl ?_
      refine q_aload_n (t := 27) F dX8_run_26 rfl rfl rfl ?_
      refine g_X8_42 (t := 30) F dX8_run_27 rfl rfl ?_
      refine q_iload_n (t := 31) F dX8_run_30 rfl rfl rfl ?_
      refine wp_callV (t := 34) [_, _, _] F dX8_run_31 k_X1_look v_X1_look ml_X8_166 rfl rfl rfl rfl (Nat.le_of_ble_eq_true rfl) (by decide) (m_9 (by omega)) (c_X1_look _ G im bt rt lm 0 (by omega) hbt hR hW n (by omega)) rfl (kV ?_)
      rintro m' ⟨im2, bt2, hbt2, hR2, hFI, rfl⟩
      have hq1 : im2 9 0 4 = sumF im 0 n 50 := hFI.2.2.1
      have hq2 : im2 9 0 5 = cntF im 0 n 50 := hFI.2.2.2.1
      have hq3 : im2 9 0 6 = firstF im 0 n 50 := hFI.2.2.2.2
      have hq4 := firstF_in im 0 n 50
      have hq5 := sumF_in (n := n) hW 50
      refine q_iload_n (t := 35) F dX8_run_34 rfl rfl rfl ?_
      refine q_if_ne (t := 38) (u := 46) F dX8_run_35 (by first | exact hR _ _ _ | (constructor <;> omega)) (by decide) rfl (fun c35 => ?_) (fun c35 => ?_)
      · refine q_iload_n (t := 47) F dX8_run_46 rfl rfl rfl ?_
        refine q_iconst (t := 48) F dX8_run_47 rfl ?_
        refine q_icmp_ne (t := 51) (u := 59) F dX8_run_48 (by first | exact hR _ _ _ | (constructor <;> omega)) (by first | exact hR _ _ _ | (constructor <;> omega)) (by decide) rfl (fun c48 => ?_) (fun c48 => ?_)
        · refine q_aload_n (t := 60) F dX8_run_59 rfl rfl rfl ?_
          refine g_X8_24 (t := 63) F dX8_run_60 rfl rfl ?_
          refine g_X8_175 (t := 66) F dX8_run_63 rfl rfl ?_
          try simp only [up_app, row_app, scr_app, cpy_app, Nat.reduceEqDiff, Int.reduceToNat, Int.toNat_natCast, and_true, true_and, and_false, false_and, and_self, reduceIte]
          refine q_istore_n (t := 67) F dX8_run_66 rfl (by decide) rfl rfl ?_
          refine q_iload_n (t := 68) F dX8_run_67 rfl rfl rfl ?_
          refine q_bipush (t := 70) F dX8_run_68 (by decide) rfl ?_
          refine wp_callS (t := 73) [_, _] F dX8_run_70 k_X8_within st_X8_within ml_X8_95 rfl rfl (Nat.le_of_ble_eq_true rfl) (by decide) (c_X8_within _ G _ _ rt lm (im2 9 0 6) 50 (hR2 _ _ _) (by constructor <;> omega)) rfl (kI ?_)
          rintro x70 m' ⟨hx70, rfl⟩
          have hx70 := if01 hx70
          refine q_if_ne (t := 76) (u := 78) F dX8_run_73 (by first | exact hR _ _ _ | (constructor <;> omega)) (by decide) rfl (fun c73 => ?_) (fun c73 => ?_)
          · refine q_iload_n (t := 79) F dX8_run_78 rfl rfl rfl ?_
            refine q_iconst (t := 80) F dX8_run_79 rfl ?_
            refine q_icmp_ne (t := 83) (u := 104) F dX8_run_80 (by first | exact hR _ _ _ | (constructor <;> omega)) (by first | exact hR _ _ _ | (constructor <;> omega)) (by decide) rfl (fun c80 => ?_) (fun c80 => ?_)
            · refine q_iload_n (t := 105) F dX8_run_104 rfl rfl rfl ?_
              refine q_iconst (t := 106) F dX8_run_105 rfl ?_
              refine q_icmp_ne (t := 109) (u := 116) F dX8_run_106 (by first | exact hR _ _ _ | (constructor <;> omega)) (by first | exact hR _ _ _ | (constructor <;> omega)) (by decide) rfl (fun c106 => ?_) (fun c106 => ?_)
              · refine q_aload_n (t := 117) F dX8_run_116 rfl rfl rfl ?_
                refine g_X8_24 (t := 120) F dX8_run_117 rfl rfl ?_
                refine g_X8_178 (t := 123) F dX8_run_120 rfl rfl ?_
                refine q_iload_n (t := 124) F dX8_run_123 rfl rfl rfl ?_
                refine ld_10 (t := 125) F dX8_run_124 (by omega) (by omega) rfl ?_
                try simp only [up_app, row_app, scr_app, cpy_app, Nat.reduceEqDiff, Int.reduceToNat, Int.toNat_natCast, and_true, true_and, and_false, false_and, and_self, reduceIte]
                refine q_iret F dX8_run_125 rfl ?_
                refine ⟨_, rfl, ?_, im2, bt2, rt, hbt2, hrt, hR2, FI_agP hFI, rfl⟩
                unfold runA
                try simp only [Int.toNat_natCast]
                first
                  | (rw [if_pos (by omega), if_neg (by omega), if_neg (by omega), if_neg (by omega), if_neg (by omega), if_pos (by omega), hq3])
                  | (rw [if_pos (by omega), if_neg (by omega), if_neg (by omega), if_neg (by omega), if_neg (by omega), if_neg (by omega), hq3]
                     exact (hFI.2.1 _ (by omega)).1)
              · refine q_iload_n (t := 110) F dX8_run_109 rfl rfl rfl ?_
                refine q_bipush (t := 112) F dX8_run_110 (by decide) rfl ?_
                refine q_idiv (t := 113) F dX8_run_112 (by exact hR2 _ _ _) (by constructor <;> omega) (by omega) (by omega) rfl ?_
                refine q_goto (t := 125) F dX8_run_113 (by decide) ?_
                refine q_iret F dX8_run_125 rfl ?_
                refine ⟨_, rfl, ?_, im2, bt2, rt, hbt2, hrt, hR2, FI_agP hFI, rfl⟩
                unfold runA
                try simp only [Int.toNat_natCast]
                first
                  | (rw [if_pos (by omega), if_neg (by omega), if_neg (by omega), if_neg (by omega), if_neg (by omega), if_pos (by omega), hq3])
                  | (rw [if_pos (by omega), if_neg (by omega), if_neg (by omega), if_neg (by omega), if_neg (by omega), if_neg (by omega), hq3]
                     exact (hFI.2.1 _ (by omega)).1)
            · refine q_aload_n (t := 84) F dX8_run_83 rfl rfl rfl ?_
              refine g_X8_51 (t := 87) F dX8_run_84 rfl rfl ?_
              refine g_X8_99 (t := 90) F dX8_run_87 rfl (by omega) rfl ?_
              refine q_iload_n (t := 91) F dX8_run_90 rfl rfl rfl ?_
              refine q_bipush (t := 93) F dX8_run_91 (by decide) rfl ?_
              refine q_idiv (t := 94) F dX8_run_93 (by exact hR2 _ _ _) (by constructor <;> omega) (by omega) (by omega) rfl ?_
              refine la_19 (t := 95) F dX8_run_94 (by omega) (by omega) (by omega) rfl ?_
              refine g_X8_132 (t := 98) F dX8_run_95 rfl (by omega) rfl ?_
              refine q_iload_n (t := 99) F dX8_run_98 rfl rfl rfl ?_
              refine q_bipush (t := 101) F dX8_run_99 (by decide) rfl ?_
              refine q_irem (t := 102) F dX8_run_101 (by exact hR2 _ _ _) (by constructor <;> omega) (by omega) (by omega) rfl ?_
              refine ld_22 (t := 103) F dX8_run_102 (by omega) (by omega) (by omega) rfl ?_
              try simp only [up_app, row_app, scr_app, cpy_app, Nat.reduceEqDiff, Int.reduceToNat, Int.toNat_natCast, and_true, true_and, and_false, false_and, and_self, reduceIte]
              refine q_iret F dX8_run_103 rfl ?_
              refine ⟨_, rfl, ?_, im2, bt2, rt, hbt2, hrt, hR2, FI_agP hFI, rfl⟩
              unfold runA
              try simp only [Int.toNat_natCast]
              rw [if_pos (by omega), if_neg (by omega), if_neg (by omega), if_neg (by omega), if_pos (by omega), hq3]
              exact hFI.1 22 (by decide) _ _
          · refine q_iconst (t := 77) F dX8_run_76 rfl ?_
            refine q_iret F dX8_run_77 rfl ?_
            refine ⟨_, rfl, ?_, im2, bt2, rt, hbt2, hrt, hR2, FI_agP hFI, rfl⟩
            unfold runA
            try simp only [Int.toNat_natCast]
            rw [if_pos (by omega), if_neg (by omega), if_neg (by omega), if_pos (by omega)]
        · refine q_aload_n (t := 52) F dX8_run_51 rfl rfl rfl ?_
          refine g_X8_24 (t := 55) F dX8_run_52 rfl rfl ?_
          refine g_X8_172 (t := 58) F dX8_run_55 rfl rfl ?_
          try simp only [up_app, row_app, scr_app, cpy_app, Nat.reduceEqDiff, Int.reduceToNat, Int.toNat_natCast, and_true, true_and, and_false, false_and, and_self, reduceIte]
          refine q_iret F dX8_run_58 rfl ?_
          refine ⟨_, rfl, ?_, im2, bt2, rt, hbt2, hrt, hR2, FI_agP hFI, rfl⟩
          unfold runA
          try simp only [Int.toNat_natCast]
          rw [if_pos (by omega), if_neg (by omega), if_pos (by omega), hq2]
      · refine q_aload_n (t := 39) F dX8_run_38 rfl rfl rfl ?_
        refine g_X8_24 (t := 42) F dX8_run_39 rfl rfl ?_
        refine g_X8_169 (t := 45) F dX8_run_42 rfl rfl ?_
        try simp only [up_app, row_app, scr_app, cpy_app, Nat.reduceEqDiff, Int.reduceToNat, Int.toNat_natCast, and_true, true_and, and_false, false_and, and_self, reduceIte]
        refine q_iret F dX8_run_45 rfl ?_
        refine ⟨_, rfl, ?_, im2, bt2, rt, hbt2, hrt, hR2, FI_agP hFI, rfl⟩
        unfold runA
        try simp only [Int.toNat_natCast]
        rw [if_pos (by omega), if_pos (by omega), hq1]
    · refine q_bipush (t := 17) F dX8_run_15 (by decide) rfl ?_
      refine q_iret F dX8_run_17 rfl ?_
      refine ⟨_, rfl, ?_, _, bt, rt, hbt, hrt, (by repeat' first | exact hR | refine RI_up ?_ ?_ | assumption | exact hR _ _ _ | (constructor <;> omega)), ?_, rfl⟩
      · unfold runA
        (repeat' split) <;> omega
      · exact agP_rfl _

def offA (im : IM) (man gap n : Int) : Int := if (0 ≤ man ∧ man < im 18 0 3) ∧ (0 ≤ gap ∧ gap < 10) ∧ 0 ≤ n ∧ n ≤ 60 then goesW im 0 man.toNat gap.toNat n.toNat else -2

set_option maxHeartbeats 4000000 in
theorem c_X8_off (l : Launch) (G : GS) (im : IM) (bt rt : Nat) (lm : IM) (hbt : bt < 6) (hrt : rt < 6) (hS : SC im) (man : Int) (gap : Int) (n : Int) (hman : ri man) (hgap : ri gap) (hn : ri n) : Cn l (XC G) yX8_off Y_X8_off [vR 0 0, vI man, vI gap, vI n] (im, rs bt rt, lm) (pI fun x m' => x = offA im man gap n ∧ stC lm im m') := by
  refine cn_of (by decide) (okC G) rfl (Nat.le_of_ble_eq_true rfl) ?_
  intro M ad hMl F
  subst hMl
  obtain ⟨hR, hW, hh, htc, hru, hgt, hz, hrd, hsh, him, htp⟩ := hS
  have w1 := hW.1
  have w2 := hW.2.1
  have w3 := hW.2.2.1
  have w4 := hW.2.2.2.1
  have w5 := hW.2.2.2.2.1
  have hman1 := hman.1
  have hman2 := hman.2
  have hgap1 := hgap.1
  have hgap2 := hgap.2
  have hn1 := hn.1
  have hn2 := hn.2
  refine wp_pad 0 ?_
  show Wp M (XC G) ad Y_X8_off (pI fun x m' => x = offA im man gap n ∧ stC lm im m') 0 [some (vR 0 0), some (vI man), some (vI gap), some (vI n)] [] (im, rs bt rt, lm)
  refine q_aload_n (t := 1) F dX8_off_0 rfl rfl rfl ?_
  refine q_iload_n (t := 2) F dX8_off_1 rfl rfl rfl ?_
  refine wp_callV (t := 5) [_] F dX8_off_2 k_X8_isOne v_X8_isOne ml_X8_91 rfl rfl rfl rfl (Nat.le_of_ble_eq_true rfl) (by decide) (m_0 (by omega)) (c_X8_isOne _ G _ bt rt lm man hman hR) rfl (kI ?_)
  rintro x2 m' ⟨hx2, rfl⟩
  have hx2 := if01 hx2
  refine q_if_eq (t := 8) (u := 24) F dX8_off_5 (by first | exact hR _ _ _ | (constructor <;> omega)) (by decide) rfl (fun c5 => ?_) (fun c5 => ?_)
  · refine q_bipush (t := 26) F dX8_off_24 (by decide) rfl ?_
    refine q_iret F dX8_off_26 rfl ?_
    refine ⟨_, rfl, ?_, _, bt, rt, hbt, hrt, (by repeat' first | exact hR | refine RI_up ?_ ?_ | assumption | exact hR _ _ _ | (constructor <;> omega)), ?_, rfl⟩
    · unfold offA
      (repeat' split) <;> omega
    · exact agP_rfl _
  · refine q_iload_n (t := 9) F dX8_off_8 rfl rfl rfl ?_
    refine q_bipush (t := 11) F dX8_off_9 (by decide) rfl ?_
    refine wp_callS (t := 14) [_, _] F dX8_off_11 k_X8_within st_X8_within ml_X8_95 rfl rfl (Nat.le_of_ble_eq_true rfl) (by decide) (c_X8_within _ G _ bt rt lm gap 10 hgap (by constructor <;> omega)) rfl (kI ?_)
    rintro x11 m' ⟨hx11, rfl⟩
    have hx11 := if01 hx11
    refine q_if_eq (t := 17) (u := 24) F dX8_off_14 (by first | exact hR _ _ _ | (constructor <;> omega)) (by decide) rfl (fun c14 => ?_) (fun c14 => ?_)
    · refine q_bipush (t := 26) F dX8_off_24 (by decide) rfl ?_
      refine q_iret F dX8_off_26 rfl ?_
      refine ⟨_, rfl, ?_, _, bt, rt, hbt, hrt, (by repeat' first | exact hR | refine RI_up ?_ ?_ | assumption | exact hR _ _ _ | (constructor <;> omega)), ?_, rfl⟩
      · unfold offA
        (repeat' split) <;> omega
      · exact agP_rfl _
    · refine q_iload_n (t := 18) F dX8_off_17 rfl rfl rfl ?_
      refine wp_callS (t := 21) [_] F dX8_off_18 k_X8_isSpan st_X8_isSpan ml_X8_163 rfl rfl (Nat.le_of_ble_eq_true rfl) (by decide) (c_X8_isSpan _ G _ bt rt lm n hn) rfl (kI ?_)
      rintro x18 m' ⟨hx18, rfl⟩
      have hx18 := if01 hx18
      refine q_if_ne (t := 24) (u := 27) F dX8_off_21 (by first | exact hR _ _ _ | (constructor <;> omega)) (by decide) rfl (fun c21 => ?_) (fun c21 => ?_)
      · obtain ⟨man, rfl⟩ : ∃ k : Nat, man = (k : Int) := ⟨man.toNat, by omega⟩
        obtain ⟨gap, rfl⟩ : ∃ k : Nat, gap = (k : Int) := ⟨gap.toNat, by omega⟩
        obtain ⟨n, rfl⟩ : ∃ k : Nat, n = (k : Int) := ⟨n.toNat, by omega⟩
        obtain ⟨r0, r1, hT, k0, k1, n0, n1, hga, hh0, hh1, hm5⟩ := cell_of hW (man := man) (by omega)
        refine q_aload_n (t := 28) F dX8_off_27 rfl rfl rfl ?_
        refine g_X8_42 (t := 31) F dX8_off_28 rfl rfl ?_
        refine q_aload_n (t := 32) F dX8_off_31 rfl rfl rfl ?_
        refine g_X8_51 (t := 35) F dX8_off_32 rfl rfl ?_
        refine q_iload_n (t := 36) F dX8_off_35 rfl rfl rfl ?_
        refine q_iload_n (t := 37) F dX8_off_36 rfl rfl rfl ?_
        refine wp_callV (t := 40) [_, _, _] F dX8_off_37 k_X0_look v_X0_look ml_X8_139 rfl rfl rfl rfl (Nat.le_of_ble_eq_true rfl) (by decide) (m_16 (by omega)) (c_X0_look _ G im bt rt lm 0 man gap (by omega) hm5 (by omega) r0 r1) rfl (kV ?_)
        rintro m' rfl
        have hRl := RI_look (w := 0) (p := man) (g := gap) hR (by omega)
        have hb4 : (im 18 0 7).toNat < 6 := by omega
        refine q_aload_n (t := 41) F dX8_off_40 rfl rfl rfl ?_
        refine g_X8_42 (t := 44) F dX8_off_41 rfl rfl ?_
        refine q_iload_n (t := 45) F dX8_off_44 rfl rfl rfl ?_
        refine wp_callV (t := 48) [_] F dX8_off_45 k_X0_goesOffIn v_X0_goesOffIn ml_X8_181 rfl rfl rfl rfl (Nat.le_of_ble_eq_true rfl) (by decide) (m_16 (by omega)) (c_X0_goesOffIn _ G (lookM im 0 man gap) (im 18 0 7).toNat rt lm n (by omega) hb4 hRl (goodT_congr (fun s => rfl) (fun s => rfl) hT) k0 k1 n0 n1 (hga gap (by omega)) hh0 hh1) rfl (kI ?_)
        rintro x45 m' ⟨hx, hgb⟩
        obtain ⟨im3, hR3, hag3, rfl⟩ := garb_ag hgb hRl
        rw [look_goes] at hx
        refine q_iret F dX8_off_48 rfl ?_
        refine ⟨_, rfl, ?_, im3, _, rt, hb4, hrt, hR3, agP_of ((hag3.mono (by decide)).trans ((look_ag im 0 man gap).mono (by decide))), rfl⟩
        unfold offA
        simp only [Int.toNat_natCast]
        rw [if_pos (by omega), hx]
      · refine q_bipush (t := 26) F dX8_off_24 (by decide) rfl ?_
        refine q_iret F dX8_off_26 rfl ?_
        refine ⟨_, rfl, ?_, _, bt, rt, hbt, hrt, (by repeat' first | exact hR | refine RI_up ?_ ?_ | assumption | exact hR _ _ _ | (constructor <;> omega)), ?_, rfl⟩
        · unfold offA
          (repeat' split) <;> omega
        · exact agP_rfl _

def fdF (im : IM) (man : Nat) (w gap : Int) : Nat → Nat
  | 0 => 0
  | f + 1 => if takesW im 0 man w f = gap then fdF im man w gap f ||| 2 ^ f else fdF im man w gap f
theorem fdF_s (im : IM) (man : Nat) (w gap : Int) (f : Nat) : fdF im man w gap (f + 1) = if takesW im 0 man w f = gap then fdF im man w gap f ||| 2 ^ f else fdF im man w gap f := rfl
def foodsA (im : IM) (man w gap : Int) : Int := if (0 ≤ man ∧ man < im 18 0 3) ∧ (0 ≤ w ∧ w < 16) ∧ 0 ≤ gap ∧ gap < 10 then (if im 22 (5 * 0 + man.toNat) gap.toNat = -1 then ((fdF im man.toNat w gap 10 : Nat) : Int) else 0) else -2
theorem pow_cast (g : Nat) : (1 : Int) * 2 ^ (g : Int).toNat = ((2 ^ g : Nat) : Int) := by
  rw [Int.toNat_natCast, Int.one_mul]
  exact (Int.natCast_pow 2 g).symm

set_option maxHeartbeats 4000000 in
theorem c_X8_foods (l : Launch) (G : GS) (im : IM) (bt rt : Nat) (lm : IM) (hbt : bt < 6) (hrt : rt < 6) (hS : SC im) (man : Int) (w : Int) (gap : Int) (hman : ri man) (hw : ri w) (hgap : ri gap) : Cn l (XC G) yX8_foods Y_X8_foods [vR 0 0, vI man, vI w, vI gap] (im, rs bt rt, lm) (pI fun x m' => x = foodsA im man w gap ∧ stC lm im m') := by
  refine cn_of (by decide) (okC G) rfl (Nat.le_of_ble_eq_true rfl) ?_
  intro M ad hMl F
  subst hMl
  obtain ⟨hR, hW, hh, htc, hru, hgt, hz, hrd, hsh, him, htp⟩ := hS
  have w1 := hW.1
  have w2 := hW.2.1
  have w3 := hW.2.2.1
  have w4 := hW.2.2.2.1
  have w5 := hW.2.2.2.2.1
  have hman1 := hman.1
  have hman2 := hman.2
  have hw1 := hw.1
  have hw2 := hw.2
  have hgap1 := hgap.1
  have hgap2 := hgap.2
  refine wp_pad 2 ?_
  show Wp M (XC G) ad Y_X8_foods (pI fun x m' => x = foodsA im man w gap ∧ stC lm im m') 0 [some (vR 0 0), some (vI man), some (vI w), some (vI gap), none, none] [] (im, rs bt rt, lm)
  refine q_aload_n (t := 1) F dX8_foods_0 rfl rfl rfl ?_
  refine q_iload_n (t := 2) F dX8_foods_1 rfl rfl rfl ?_
  refine wp_callV (t := 5) [_] F dX8_foods_2 k_X8_isOne v_X8_isOne ml_X8_91 rfl rfl rfl rfl (Nat.le_of_ble_eq_true rfl) (by decide) (m_0 (by omega)) (c_X8_isOne _ G _ bt rt lm man hman hR) rfl (kI ?_)
  rintro x2 m' ⟨hx2, rfl⟩
  have hx2 := if01 hx2
  refine q_if_eq (t := 8) (u := 26) F dX8_foods_5 (by first | exact hR _ _ _ | (constructor <;> omega)) (by decide) rfl (fun c5 => ?_) (fun c5 => ?_)
  · refine q_bipush (t := 28) F dX8_foods_26 (by decide) rfl ?_
    refine q_iret F dX8_foods_28 rfl ?_
    refine ⟨_, rfl, ?_, _, bt, rt, hbt, hrt, (by repeat' first | exact hR | refine RI_up ?_ ?_ | assumption | exact hR _ _ _ | (constructor <;> omega)), ?_, rfl⟩
    · unfold foodsA
      (repeat' split) <;> omega
    · exact agP_rfl _
  · refine q_iload_n (t := 9) F dX8_foods_8 rfl rfl rfl ?_
    refine q_bipush (t := 11) F dX8_foods_9 (by decide) rfl ?_
    refine wp_callS (t := 14) [_, _] F dX8_foods_11 k_X8_within st_X8_within ml_X8_95 rfl rfl (Nat.le_of_ble_eq_true rfl) (by decide) (c_X8_within _ G _ bt rt lm w 16 hw (by constructor <;> omega)) rfl (kI ?_)
    rintro x11 m' ⟨hx11, rfl⟩
    have hx11 := if01 hx11
    refine q_if_eq (t := 17) (u := 26) F dX8_foods_14 (by first | exact hR _ _ _ | (constructor <;> omega)) (by decide) rfl (fun c14 => ?_) (fun c14 => ?_)
    · refine q_bipush (t := 28) F dX8_foods_26 (by decide) rfl ?_
      refine q_iret F dX8_foods_28 rfl ?_
      refine ⟨_, rfl, ?_, _, bt, rt, hbt, hrt, (by repeat' first | exact hR | refine RI_up ?_ ?_ | assumption | exact hR _ _ _ | (constructor <;> omega)), ?_, rfl⟩
      · unfold foodsA
        (repeat' split) <;> omega
      · exact agP_rfl _
    · refine q_iload_n (t := 18) F dX8_foods_17 rfl rfl rfl ?_
      refine q_bipush (t := 20) F dX8_foods_18 (by decide) rfl ?_
      refine wp_callS (t := 23) [_, _] F dX8_foods_20 k_X8_within st_X8_within ml_X8_95 rfl rfl (Nat.le_of_ble_eq_true rfl) (by decide) (c_X8_within _ G _ bt rt lm gap 10 hgap (by constructor <;> omega)) rfl (kI ?_)
      rintro x20 m' ⟨hx20, rfl⟩
      have hx20 := if01 hx20
      refine q_if_ne (t := 26) (u := 29) F dX8_foods_23 (by first | exact hR _ _ _ | (constructor <;> omega)) (by decide) rfl (fun c23 => ?_) (fun c23 => ?_)
      · obtain ⟨man, rfl⟩ : ∃ k : Nat, man = (k : Int) := ⟨man.toNat, by omega⟩
        obtain ⟨gap, rfl⟩ : ∃ k : Nat, gap = (k : Int) := ⟨gap.toNat, by omega⟩
        refine q_aload_n (t := 30) F dX8_foods_29 rfl rfl rfl ?_
        refine g_X8_51 (t := 33) F dX8_foods_30 rfl rfl ?_
        refine g_X8_99 (t := 36) F dX8_foods_33 rfl (by omega) rfl ?_
        refine q_iload_n (t := 37) F dX8_foods_36 rfl rfl rfl ?_
        first | refine laN_19 (t := 38) F dX8_foods_37 (by omega) (by omega) rfl ?_ | refine la_19 (t := 38) F dX8_foods_37 (by omega) (by omega) (by omega) rfl ?_
        refine g_X8_132 (t := 41) F dX8_foods_38 rfl (by omega) rfl ?_
        refine q_iload_n (t := 42) F dX8_foods_41 rfl rfl rfl ?_
        first | refine ldN_22 (t := 43) F dX8_foods_42 (by omega) (by omega) rfl ?_ | refine ld_22 (t := 43) F dX8_foods_42 (by omega) (by omega) (by omega) rfl ?_
        try simp only [up_app, row_app, scr_app, cpy_app, Nat.reduceEqDiff, Int.reduceToNat, Int.toNat_natCast, and_true, true_and, and_false, false_and, and_self, reduceIte]
        refine q_iconst (t := 44) F dX8_foods_43 rfl ?_
        refine q_icmp_eq (t := 47) (u := 49) F dX8_foods_44 (by first | exact hR _ _ _ | (constructor <;> omega)) (by first | exact hR _ _ _ | (constructor <;> omega)) (by decide) rfl (fun c44 => ?_) (fun c44 => ?_)
        · refine q_iconst (t := 50) F dX8_foods_49 rfl ?_
          refine q_istore (t := 52) F dX8_foods_50 (by decide) rfl rfl ?_
          refine q_iconst (t := 53) F dX8_foods_52 rfl ?_
          refine q_istore (t := 55) F dX8_foods_53 (by decide) rfl rfl ?_
          have L55 : ∀ (fz : Nat) (f : Nat) (im2 : IM), 10 - f < fz → f ≤ 10 → RI im2 → ag [5, 20] im2 im → Wp M (XC G) ad Y_X8_foods (pI fun x m' => x = foodsA im man w gap ∧ stC lm im m') 55 [some (vR 0 0), some (vI (man : Int)), some (vI w), some (vI (gap : Int)), some (vI ((fdF im man w gap f : Nat) : Int)), some (vI (f : Int))] [] (im2, rs bt rt, lm) := by
            intro fz
            induction fz with
            | zero => intro f im2 h; exact absurd h (Nat.not_lt_zero _)
            | succ fz ih =>
              have ih55 := ih
              intro f im2 hmeas hf hR2 hag2
              have hW2 := WI_ag hag2 (by decide) (by decide) (by decide) (by decide) (by decide) (by decide) hW
              have e3 : im2 18 0 3 = im 18 0 3 := hag2 18 (by decide) 0 3
              refine q_iload (t := 57) F dX8_foods_55 rfl rfl ?_
              refine q_bipush (t := 59) F dX8_foods_57 (by decide) rfl ?_
              refine q_icmp_ge (t := 62) (u := 92) F dX8_foods_59 (by first | exact hR _ _ _ | (constructor <;> omega)) (by first | exact hR _ _ _ | (constructor <;> omega)) (by decide) rfl (fun c59 => ?_) (fun c59 => ?_)
              · refine q_iload (t := 94) F dX8_foods_92 rfl rfl ?_
                refine q_iret F dX8_foods_94 rfl ?_
                refine ⟨_, rfl, ?_, im2, bt, rt, hbt, hrt, hR2, agP_of (hag2.mono (by decide)), rfl⟩
                unfold foodsA
                simp only [Int.toNat_natCast]
                rw [if_pos (by omega), if_pos (by omega), show f = 10 by omega]
              · refine q_aload_n (t := 63) F dX8_foods_62 rfl rfl rfl ?_
                refine g_X8_51 (t := 66) F dX8_foods_63 rfl rfl ?_
                refine q_iload_n (t := 67) F dX8_foods_66 rfl rfl rfl ?_
                refine q_iload_n (t := 68) F dX8_foods_67 rfl rfl rfl ?_
                refine q_iload (t := 70) F dX8_foods_68 rfl rfl ?_
                refine wp_callV (t := 73) [_, _, _] F dX8_foods_70 k_X7_takes v_X7_takes ml_X8_184 rfl rfl rfl rfl (Nat.le_of_ble_eq_true rfl) (by decide) (m_18 (by omega)) (c_X7_takes _ G im2 bt rt lm 0 (by omega) hR2 hW2 man (by rw [e3]; omega) w f hw (by constructor <;> omega)) rfl (kI ?_)
                rintro x70 m' ⟨hx, im3, hR3, hag3, rfl⟩
                rw [takesW_ag hag2 (by decide) (by decide) (by decide) (by decide) (by decide)] at hx
                have htk := takesW_in im 0 man w f
                refine q_iload_n (t := 74) F dX8_foods_73 rfl rfl rfl ?_
                refine q_icmp_ne (t := 77) (u := 86) F dX8_foods_74 (by constructor <;> omega) (by constructor <;> omega) (by decide) rfl (fun c74 => ?_) (fun c74 => ?_)
                · refine q_iinc (t := 89) F dX8_foods_86 rfl (by decide) rfl rfl ?_
                  refine q_goto (t := 55) F dX8_foods_89 (by decide) ?_
                  have hag4 := hag3.trans hag2
                  first
                    | (rw [show (fdF im man w gap f ||| 2 ^ f) = fdF im man w gap (f + 1) from by rw [fdF_s, if_pos (by omega)]]
                       exact ih55 (f + 1) im3 (by omega) (by omega) hR3 hag4)
                    | (rw [show fdF im man w gap f = fdF im man w gap (f + 1) from by rw [fdF_s, if_neg (by omega)]]
                       exact ih55 (f + 1) im3 (by omega) (by omega) hR3 hag4)
                · refine q_iload (t := 79) F dX8_foods_77 rfl rfl ?_
                  refine q_iconst (t := 80) F dX8_foods_79 rfl ?_
                  refine q_iload (t := 82) F dX8_foods_80 rfl rfl ?_
                  refine q_ishl (t := 83) F dX8_foods_82 (by omega) (by omega) rfl ?_
                  rw [pow_cast]
                  refine q_ior (t := 84) F dX8_foods_83 rfl ?_
                  refine q_istore (t := 86) F dX8_foods_84 (by decide) rfl rfl ?_
                  refine q_iinc (t := 89) F dX8_foods_86 rfl (by decide) rfl rfl ?_
                  refine q_goto (t := 55) F dX8_foods_89 (by decide) ?_
                  have hag4 := hag3.trans hag2
                  first
                    | (rw [show (fdF im man w gap f ||| 2 ^ f) = fdF im man w gap (f + 1) from by rw [fdF_s, if_pos (by omega)]]
                       exact ih55 (f + 1) im3 (by omega) (by omega) hR3 hag4)
                    | (rw [show fdF im man w gap f = fdF im man w gap (f + 1) from by rw [fdF_s, if_neg (by omega)]]
                       exact ih55 (f + 1) im3 (by omega) (by omega) hR3 hag4)
          exact L55 _ 0 im (Nat.lt_succ_self _) (by omega) hR (ag_rfl _ _)
        · refine q_iconst (t := 48) F dX8_foods_47 rfl ?_
          refine q_iret F dX8_foods_48 rfl ?_
          refine ⟨_, rfl, ?_, _, bt, rt, hbt, hrt, hR, agP_rfl _, rfl⟩
          unfold foodsA
          simp only [Int.toNat_natCast]
          rw [if_pos (by omega), if_neg (by omega)]
      · refine q_bipush (t := 28) F dX8_foods_26 (by decide) rfl ?_
        refine q_iret F dX8_foods_28 rfl ?_
        refine ⟨_, rfl, ?_, _, bt, rt, hbt, hrt, (by repeat' first | exact hR | refine RI_up ?_ ?_ | assumption | exact hR _ _ _ | (constructor <;> omega)), ?_, rfl⟩
        · unfold foodsA
          (repeat' split) <;> omega
        · exact agP_rfl _

theorem dB_congr {f g : Nat → Int} (n : Nat) (h : ∀ k, k < n → f k = g k) : dB f n = dB g n := by
  induction n with
  | zero => rfl
  | succ n ih =>
    rw [dB_s, dB_s, ih (fun k hk => h k (by omega)), h n (by omega)]
def bestA (im : IM) (n what : Int) : Int := if (0 ≤ n ∧ n ≤ 60) ∧ 0 ≤ what ∧ what < 2 then (if what = 0 then (dB (costF im 0 n.toNat) 50).1 else if (dB (costF im 0 n.toNat) 50).1 = -1 then sumF im 0 n.toNat 50 else sumF im 0 n.toNat 50 - costF im 0 n.toNat (dB (costF im 0 n.toNat) 50).1.toNat) else -2

set_option maxHeartbeats 4000000 in
theorem c_X8_best (l : Launch) (G : GS) (im : IM) (bt rt : Nat) (lm : IM) (hbt : bt < 6) (hrt : rt < 6) (hS : SC im) (n : Int) (what : Int) (hn : ri n) (hwhat : ri what) : Cn l (XC G) yX8_best Y_X8_best [vR 0 0, vI n, vI what] (im, rs bt rt, lm) (pI fun x m' => x = bestA im n what ∧ stC lm im m') := by
  refine cn_of (by decide) (okC G) rfl (Nat.le_of_ble_eq_true rfl) ?_
  intro M ad hMl F
  subst hMl
  obtain ⟨hR, hW, hh, htc, hru, hgt, hz, hrd, hsh, him, htp⟩ := hS
  have w1 := hW.1
  have w2 := hW.2.1
  have w3 := hW.2.2.1
  have w4 := hW.2.2.2.1
  have w5 := hW.2.2.2.2.1
  have hn1 := hn.1
  have hn2 := hn.2
  have hwhat1 := hwhat.1
  have hwhat2 := hwhat.2
  refine wp_pad 1 ?_
  show Wp M (XC G) ad Y_X8_best (pI fun x m' => x = bestA im n what ∧ stC lm im m') 0 [some (vR 0 0), some (vI n), some (vI what), none] [] (im, rs bt rt, lm)
  refine q_iload_n (t := 1) F dX8_best_0 rfl rfl rfl ?_
  refine wp_callS (t := 4) [_] F dX8_best_1 k_X8_isSpan st_X8_isSpan ml_X8_163 rfl rfl (Nat.le_of_ble_eq_true rfl) (by decide) (c_X8_isSpan _ G _ bt rt lm n hn) rfl (kI ?_)
  rintro x1 m' ⟨hx1, rfl⟩
  have hx1 := if01 hx1
  refine q_if_eq (t := 7) (u := 15) F dX8_best_4 (by first | exact hR _ _ _ | (constructor <;> omega)) (by decide) rfl (fun c4 => ?_) (fun c4 => ?_)
  · refine q_bipush (t := 17) F dX8_best_15 (by decide) rfl ?_
    refine q_iret F dX8_best_17 rfl ?_
    refine ⟨_, rfl, ?_, _, bt, rt, hbt, hrt, (by repeat' first | exact hR | refine RI_up ?_ ?_ | assumption | exact hR _ _ _ | (constructor <;> omega)), ?_, rfl⟩
    · unfold bestA
      (repeat' split) <;> omega
    · exact agP_rfl _
  · refine q_iload_n (t := 8) F dX8_best_7 rfl rfl rfl ?_
    refine q_iconst (t := 9) F dX8_best_8 rfl ?_
    refine wp_callS (t := 12) [_, _] F dX8_best_9 k_X8_within st_X8_within ml_X8_95 rfl rfl (Nat.le_of_ble_eq_true rfl) (by decide) (c_X8_within _ G _ bt rt lm what 2 hwhat (by constructor <;> omega)) rfl (kI ?_)
    rintro x9 m' ⟨hx9, rfl⟩
    have hx9 := if01 hx9
    refine q_if_ne (t := 15) (u := 18) F dX8_best_12 (by first | exact hR _ _ _ | (constructor <;> omega)) (by decide) rfl (fun c12 => ?_) (fun c12 => ?_)
    · obtain ⟨n, rfl⟩ : ∃ k : Nat, n = (k : Int) := ⟨n.toNat, by omega⟩
      refine q_aload_n (t := 19) F dX8_best_18 rfl rfl rfl ?_
      refine g_X8_24 (t := 22) F dX8_best_19 rfl rfl ?_
      refine q_aload_n (t := 23) F dX8_best_22 rfl rfl rfl ?_
      refine g_X8_51 (t := 26) F dX8_best_23 rfl rfl ?_
      refine q_aload_n (t := 27) F dX8_best_26 rfl rfl rfl ?_
      refine g_X8_42 (t := 30) F dX8_best_27 rfl rfl ?_
      refine q_iload_n (t := 31) F dX8_best_30 rfl rfl rfl ?_
      refine wp_callV (t := 34) [_, _, _] F dX8_best_31 k_X1_look v_X1_look ml_X8_166 rfl rfl rfl rfl (Nat.le_of_ble_eq_true rfl) (by decide) (m_9 (by omega)) (c_X1_look _ G im bt rt lm 0 (by omega) hbt hR hW n (by omega)) rfl (kV ?_)
      rintro m' ⟨im2, bt2, hbt2, hR2, hFI, rfl⟩
      have hq1 : im2 9 0 4 = sumF im 0 n 50 := hFI.2.2.1
      have hq2 : im2 9 0 5 = cntF im 0 n 50 := hFI.2.2.2.1
      have hq3 : im2 9 0 6 = firstF im 0 n 50 := hFI.2.2.2.2
      have hq4 := firstF_in im 0 n 50
      have hq5 := sumF_in (n := n) hW 50
      refine q_aload_n (t := 35) F dX8_best_34 rfl rfl rfl ?_
      refine g_X8_24 (t := 38) F dX8_best_35 rfl rfl ?_
      refine wp_callV (t := 41) [] F dX8_best_38 k_X1_dearest v_X1_dearest ml_X8_187 rfl rfl rfl rfl (Nat.le_of_ble_eq_true rfl) (by decide) (m_9 (by omega)) (c_X1_dearest _ G im2 bt2 rt lm hR2) rfl (kI ?_)
      rintro x38 m' ⟨hx, rfl⟩
      rw [dB_congr 50 (fun k hk => (hFI.2.1 k hk).2)] at hx
      have hdi := dB_in (costF im 0 n) 50
      subst hx
      refine q_istore_n (t := 42) F dX8_best_41 rfl (by decide) rfl rfl ?_
      refine q_iload_n (t := 43) F dX8_best_42 rfl rfl rfl ?_
      refine q_if_ne (t := 46) (u := 48) F dX8_best_43 (by first | exact hR _ _ _ | (constructor <;> omega)) (by decide) rfl (fun c43 => ?_) (fun c43 => ?_)
      · refine q_iload_n (t := 49) F dX8_best_48 rfl rfl rfl ?_
        refine q_iconst (t := 50) F dX8_best_49 rfl ?_
        refine q_icmp_ne (t := 53) (u := 63) F dX8_best_50 (by first | exact hR _ _ _ | (constructor <;> omega)) (by first | exact hR _ _ _ | (constructor <;> omega)) (by decide) rfl (fun c50 => ?_) (fun c50 => ?_)
        · refine q_aload_n (t := 64) F dX8_best_63 rfl rfl rfl ?_
          refine g_X8_24 (t := 67) F dX8_best_64 rfl rfl ?_
          refine g_X8_169 (t := 70) F dX8_best_67 rfl rfl ?_
          try simp only [up_app, row_app, scr_app, cpy_app, Nat.reduceEqDiff, Int.reduceToNat, Int.toNat_natCast, and_true, true_and, and_false, false_and, and_self, reduceIte]
          refine q_aload_n (t := 71) F dX8_best_70 rfl rfl rfl ?_
          refine g_X8_24 (t := 74) F dX8_best_71 rfl rfl ?_
          refine g_X8_190 (t := 77) F dX8_best_74 rfl rfl ?_
          refine q_iload_n (t := 78) F dX8_best_77 rfl rfl rfl ?_
          refine ld_11 (t := 79) F dX8_best_78 (by omega) (by omega) rfl ?_
          try simp only [up_app, row_app, scr_app, cpy_app, Nat.reduceEqDiff, Int.reduceToNat, Int.toNat_natCast, and_true, true_and, and_false, false_and, and_self, reduceIte]
          refine q_isub (t := 80) F dX8_best_79 rfl ?_
          refine q_iret F dX8_best_80 rfl ?_
          refine ⟨_, rfl, ?_, im2, bt2, rt, hbt2, hrt, hR2, FI_agP hFI, rfl⟩
          unfold bestA
          try simp only [Int.toNat_natCast]
          first
            | (rw [if_pos (by omega), if_neg (by omega), if_pos (by omega), hq1])
            | (rw [if_pos (by omega), if_neg (by omega), if_neg (by omega), hq1, (hFI.2.1 _ (by omega)).2])
        · refine q_aload_n (t := 54) F dX8_best_53 rfl rfl rfl ?_
          refine g_X8_24 (t := 57) F dX8_best_54 rfl rfl ?_
          refine g_X8_169 (t := 60) F dX8_best_57 rfl rfl ?_
          try simp only [up_app, row_app, scr_app, cpy_app, Nat.reduceEqDiff, Int.reduceToNat, Int.toNat_natCast, and_true, true_and, and_false, false_and, and_self, reduceIte]
          refine q_goto (t := 80) F dX8_best_60 (by decide) ?_
          refine q_iret F dX8_best_80 rfl ?_
          refine ⟨_, rfl, ?_, im2, bt2, rt, hbt2, hrt, hR2, FI_agP hFI, rfl⟩
          unfold bestA
          try simp only [Int.toNat_natCast]
          first
            | (rw [if_pos (by omega), if_neg (by omega), if_pos (by omega), hq1])
            | (rw [if_pos (by omega), if_neg (by omega), if_neg (by omega), hq1, (hFI.2.1 _ (by omega)).2])
      · refine q_iload_n (t := 47) F dX8_best_46 rfl rfl rfl ?_
        refine q_iret F dX8_best_47 rfl ?_
        refine ⟨_, rfl, ?_, im2, bt2, rt, hbt2, hrt, hR2, FI_agP hFI, rfl⟩
        unfold bestA
        try simp only [Int.toNat_natCast]
        rw [if_pos (by omega), if_pos (by omega)]
    · refine q_bipush (t := 17) F dX8_best_15 (by decide) rfl ?_
      refine q_iret F dX8_best_17 rfl ?_
      refine ⟨_, rfl, ?_, _, bt, rt, hbt, hrt, (by repeat' first | exact hR | refine RI_up ?_ ?_ | assumption | exact hR _ _ _ | (constructor <;> omega)), ?_, rfl⟩
      · unfold bestA
        (repeat' split) <;> omega
      · exact agP_rfl _

theorem svF_congr {f g : Nat → Int} (b n : Nat) (h : ∀ k, k < n → f k = g k) : svF f b n = svF g b n := by
  induction n with
  | zero => rfl
  | succ n ih =>
    show svF f b n + _ = svF g b n + _
    rw [ih (fun k hk => h k (by omega)), h n (by omega)]
theorem fwB_congr {S e : Int} {f g : Nat → Int} (h : ∀ k, k < 10 → f k = g k) (b : Nat) : fwB S f e b = fwB S g e b := by
  induction b with
  | zero => rfl
  | succ b ih => rw [fwB_s, fwB_s, ih, svF_congr b 10 h]
def fewA (im : IM) (man n e : Int) : Int := if (0 ≤ man ∧ man < im 18 0 3) ∧ (0 ≤ n ∧ n ≤ 60) ∧ 0 ≤ e ∧ e ≤ 9999 then fwB (sumF im 0 n.toNat 50) (fun g => costF im 0 n.toNat (10 * man.toNat + g)) e 1024 else -2

set_option maxHeartbeats 4000000 in
theorem c_X8_few (l : Launch) (G : GS) (im : IM) (bt rt : Nat) (lm : IM) (hbt : bt < 6) (hrt : rt < 6) (hS : SC im) (man : Int) (n : Int) (e : Int) (hman : ri man) (hn : ri n) (he : ri e) : Cn l (XC G) yX8_few Y_X8_few [vR 0 0, vI man, vI n, vI e] (im, rs bt rt, lm) (pI fun x m' => x = fewA im man n e ∧ stC lm im m') := by
  refine cn_of (by decide) (okC G) rfl (Nat.le_of_ble_eq_true rfl) ?_
  intro M ad hMl F
  subst hMl
  obtain ⟨hR, hW, hh, htc, hru, hgt, hz, hrd, hsh, him, htp⟩ := hS
  have w1 := hW.1
  have w2 := hW.2.1
  have w3 := hW.2.2.1
  have w4 := hW.2.2.2.1
  have w5 := hW.2.2.2.2.1
  have hman1 := hman.1
  have hman2 := hman.2
  have hn1 := hn.1
  have hn2 := hn.2
  have he1 := he.1
  have he2 := he.2
  refine wp_pad 0 ?_
  show Wp M (XC G) ad Y_X8_few (pI fun x m' => x = fewA im man n e ∧ stC lm im m') 0 [some (vR 0 0), some (vI man), some (vI n), some (vI e)] [] (im, rs bt rt, lm)
  refine q_aload_n (t := 1) F dX8_few_0 rfl rfl rfl ?_
  refine q_iload_n (t := 2) F dX8_few_1 rfl rfl rfl ?_
  refine wp_callV (t := 5) [_] F dX8_few_2 k_X8_isOne v_X8_isOne ml_X8_91 rfl rfl rfl rfl (Nat.le_of_ble_eq_true rfl) (by decide) (m_0 (by omega)) (c_X8_isOne _ G _ bt rt lm man hman hR) rfl (kI ?_)
  rintro x2 m' ⟨hx2, rfl⟩
  have hx2 := if01 hx2
  refine q_if_eq (t := 8) (u := 26) F dX8_few_5 (by first | exact hR _ _ _ | (constructor <;> omega)) (by decide) rfl (fun c5 => ?_) (fun c5 => ?_)
  · refine q_bipush (t := 28) F dX8_few_26 (by decide) rfl ?_
    refine q_iret F dX8_few_28 rfl ?_
    refine ⟨_, rfl, ?_, _, bt, rt, hbt, hrt, (by repeat' first | exact hR | refine RI_up ?_ ?_ | assumption | exact hR _ _ _ | (constructor <;> omega)), ?_, rfl⟩
    · unfold fewA
      (repeat' split) <;> omega
    · exact agP_rfl _
  · refine q_iload_n (t := 9) F dX8_few_8 rfl rfl rfl ?_
    refine wp_callS (t := 12) [_] F dX8_few_9 k_X8_isSpan st_X8_isSpan ml_X8_163 rfl rfl (Nat.le_of_ble_eq_true rfl) (by decide) (c_X8_isSpan _ G _ bt rt lm n hn) rfl (kI ?_)
    rintro x9 m' ⟨hx9, rfl⟩
    have hx9 := if01 hx9
    refine q_if_eq (t := 15) (u := 26) F dX8_few_12 (by first | exact hR _ _ _ | (constructor <;> omega)) (by decide) rfl (fun c12 => ?_) (fun c12 => ?_)
    · refine q_bipush (t := 28) F dX8_few_26 (by decide) rfl ?_
      refine q_iret F dX8_few_28 rfl ?_
      refine ⟨_, rfl, ?_, _, bt, rt, hbt, hrt, (by repeat' first | exact hR | refine RI_up ?_ ?_ | assumption | exact hR _ _ _ | (constructor <;> omega)), ?_, rfl⟩
      · unfold fewA
        (repeat' split) <;> omega
      · exact agP_rfl _
    · refine q_iload_n (t := 16) F dX8_few_15 rfl rfl rfl ?_
      refine q_if_lt (t := 19) (u := 26) F dX8_few_16 (by first | exact hR _ _ _ | (constructor <;> omega)) (by decide) rfl (fun c16 => ?_) (fun c16 => ?_)
      · refine q_bipush (t := 28) F dX8_few_26 (by decide) rfl ?_
        refine q_iret F dX8_few_28 rfl ?_
        refine ⟨_, rfl, ?_, _, bt, rt, hbt, hrt, (by repeat' first | exact hR | refine RI_up ?_ ?_ | assumption | exact hR _ _ _ | (constructor <;> omega)), ?_, rfl⟩
        · unfold fewA
          (repeat' split) <;> omega
        · exact agP_rfl _
      · refine q_iload_n (t := 20) F dX8_few_19 rfl rfl rfl ?_
        refine q_sipush (t := 23) F dX8_few_20 (by decide) rfl ?_
        refine q_icmp_le (t := 26) (u := 29) F dX8_few_23 (by first | exact hR _ _ _ | (constructor <;> omega)) (by first | exact hR _ _ _ | (constructor <;> omega)) (by decide) rfl (fun c23 => ?_) (fun c23 => ?_)
        · obtain ⟨man, rfl⟩ : ∃ k : Nat, man = (k : Int) := ⟨man.toNat, by omega⟩
          obtain ⟨n, rfl⟩ : ∃ k : Nat, n = (k : Int) := ⟨n.toNat, by omega⟩
          refine q_aload_n (t := 30) F dX8_few_29 rfl rfl rfl ?_
          refine g_X8_24 (t := 33) F dX8_few_30 rfl rfl ?_
          refine q_aload_n (t := 34) F dX8_few_33 rfl rfl rfl ?_
          refine g_X8_51 (t := 37) F dX8_few_34 rfl rfl ?_
          refine q_aload_n (t := 38) F dX8_few_37 rfl rfl rfl ?_
          refine g_X8_42 (t := 41) F dX8_few_38 rfl rfl ?_
          refine q_iload_n (t := 42) F dX8_few_41 rfl rfl rfl ?_
          refine wp_callV (t := 45) [_, _, _] F dX8_few_42 k_X1_look v_X1_look ml_X8_166 rfl rfl rfl rfl (Nat.le_of_ble_eq_true rfl) (by decide) (m_9 (by omega)) (c_X1_look _ G im bt rt lm 0 (by omega) hbt hR hW n (by omega)) rfl (kV ?_)
          rintro m' ⟨im2, bt2, hbt2, hR2, hFI, rfl⟩
          have hq1 : im2 9 0 4 = sumF im 0 n 50 := hFI.2.2.1
          have hq2 : im2 9 0 5 = cntF im 0 n 50 := hFI.2.2.2.1
          have hq3 : im2 9 0 6 = firstF im 0 n 50 := hFI.2.2.2.2
          have hq4 := firstF_in im 0 n 50
          have hq5 := sumF_in (n := n) hW 50
          refine q_aload_n (t := 46) F dX8_few_45 rfl rfl rfl ?_
          refine g_X8_24 (t := 49) F dX8_few_46 rfl rfl ?_
          refine q_iload_n (t := 50) F dX8_few_49 rfl rfl rfl ?_
          refine q_iload_n (t := 51) F dX8_few_50 rfl rfl rfl ?_
          refine wp_callV (t := 54) [_, _] F dX8_few_51 k_X1_fewest v_X1_fewest ml_X8_193 rfl rfl rfl rfl (Nat.le_of_ble_eq_true rfl) (by decide) (m_9 (by omega)) (c_X1_fewest _ G im2 bt2 rt lm hR2 man (by omega) e (fun g hg => by rw [(hFI.2.1 _ (show 10 * man + g < 50 by omega)).2]; exact costF_in hW _) (by omega) (by omega) (by omega) (by omega) ((hFI.1 13 (by decide) 0 0).trans hz)) rfl (kI ?_)
          rintro x51 m' ⟨hx, im3, hR3, hz3, hag3, rfl⟩
          rw [hq1, fwB_congr (fun g hg => (hFI.2.1 (10 * man + g) (by omega)).2)] at hx
          refine q_iret F dX8_few_54 rfl ?_
          refine ⟨_, rfl, ?_, im3, bt2, rt, hbt2, hrt, hR3, agP_of13 ((hag3.mono (by decide)).trans (hFI.1.mono (by decide))) (hz3.trans hz.symm), rfl⟩
          unfold fewA
          try simp only [Int.toNat_natCast]
          rw [if_pos (by omega), hx]
        · refine q_bipush (t := 28) F dX8_few_26 (by decide) rfl ?_
          refine q_iret F dX8_few_28 rfl ?_
          refine ⟨_, rfl, ?_, _, bt, rt, hbt, hrt, (by repeat' first | exact hR | refine RI_up ?_ ?_ | assumption | exact hR _ _ _ | (constructor <;> omega)), ?_, rfl⟩
          · unfold fewA
            (repeat' split) <;> omega
          · exact agP_rfl _
end
section
/-! kissing -/
/-- in which of n HOURS a WORD that comes over would go off -/
def laterK (im : IM) (n a b g : Nat) : Int := goK (tellV im (im 18 0 7).toNat) (im 21 (5 * 0 + b) 0) (im 21 (5 * 0 + b) 1) (im 22 (5 * 0 + a) g) 0 g (im 18 0 4) n
def badK (im : IM) (n a b g : Nat) : Int := beK (tellV im (im 18 0 7).toNat) (im 21 (5 * 0 + b) 0) (im 21 (5 * 0 + b) 1) (im 22 (5 * 0 + a) g) 0 g (im 18 0 4) (laterK im n a b g) (chI (im 18 0 5) (im 18 0 4 + laterK im n a b g))
def skF (im : IM) (n a b : Nat) : Nat → Int
  | 0 => sumF im 0 n 50
  | g + 1 => if im 22 (5 * 0 + a) g ≠ -1 ∧ im 22 (5 * 0 + b) g = -1 then skF im n a b g + (if laterK im n a b g = -1 then 0 else badK im n a b g) - costF im 0 n (10 * a + g) else skF im n a b g
theorem skF_s (im : IM) (n a b g : Nat) : skF im n a b (g + 1) = if im 22 (5 * 0 + a) g ≠ -1 ∧ im 22 (5 * 0 + b) g = -1 then skF im n a b g + (if laterK im n a b g = -1 then 0 else badK im n a b g) - costF im 0 n (10 * a + g) else skF im n a b g := rfl
theorem laterK_in (im : IM) (n a b g : Nat) : laterK im n a b g = -1 ∨ 0 ≤ laterK im n a b g ∧ laterK im n a b g < n := by
  unfold laterK goK
  split
  · exact Or.inl rfl
  · have := findF_in (offK (tellV im (im 18 0 7).toNat) (im 21 (5 * 0 + b) 0) (im 21 (5 * 0 + b) 1) (im 22 (5 * 0 + a) g) 0 g (im 18 0 4)) n 0
    omega
theorem skF_in {im : IM} (hW : WI im 0) {n a b : Nat} (hb : (b : Int) < im 18 0 3) (g : Nat) : -700 * (g : Int) ≤ skF im n a b g ∧ skF im n a b g ≤ 35000 + 700 * g := by
  induction g with
  | zero =>
    have := sumF_in (n := n) hW 50
    show _ ≤ sumF im 0 n 50 ∧ sumF im 0 n 50 ≤ _
    omega
  | succ g ih =>
    have h1 := costF_in (n := n) hW (10 * a + g)
    have hp := (hW.2.2.2.2.2 b hb).2.1
    have h2 : 0 ≤ badK im n a b g ∧ badK im n a b g ≤ 700 := beK_in (fun a b => tellV_in _ _ _ _) hp.1 hp.2
    rw [skF_s]
    split
    · split <;> omega
    · omega

set_option maxHeartbeats 4000000 in
theorem c_X8_shameAfterKiss (l : Launch) (G : GS) (im im0 : IM) (bt rt : Nat) (lm : IM) (hbt : bt < 6) (hR : RI im) (hW : WI im0 0) (n a b : Nat) (hn : n ≤ 60) (ha : (a : Int) < im0 18 0 3) (hb : (b : Int) < im0 18 0 3) (hFI : FI im0 im 0 n 50) : Cn l (XC G) yX8_shameAfterKiss Y_X8_shameAfterKiss [vR 0 0, vI (a : Int), vI (b : Int), vI (n : Int)] (im, rs bt rt, lm) (pI fun x m' => x = skF im0 n a b 10 ∧ ∃ im' bt', bt' < 6 ∧ RI im' ∧ ag [5, 16, 17] im' im ∧ m' = (im', rs bt' rt, lm)) := by
  refine cn_of (by decide) (okC G) rfl (Nat.le_of_ble_eq_true rfl) ?_
  intro M ad hMl F
  subst hMl
  have w1 := hW.1
  have hWm := WI_ag hFI.1 (by decide) (by decide) (by decide) (by decide) (by decide) (by decide) hW
  have e3m : im 18 0 3 = im0 18 0 3 := hFI.1 18 (by decide) 0 3
  refine wp_pad 4 ?_
  show Wp M (XC G) ad Y_X8_shameAfterKiss (pI fun x m' => x = skF im0 n a b 10 ∧ ∃ im' bt', bt' < 6 ∧ RI im' ∧ ag [5, 16, 17] im' im ∧ m' = (im', rs bt' rt, lm)) 0 [some (vR 0 0), some (vI (a : Int)), some (vI (b : Int)), some (vI (n : Int)), none, none, none, none] [] (im, rs bt rt, lm)
  refine q_aload_n (t := 1) F dX8_shameAfterKiss_0 rfl rfl rfl ?_
  refine g_X8_24 (t := 4) F dX8_shameAfterKiss_1 rfl rfl ?_
  refine g_X8_169 (t := 7) F dX8_shameAfterKiss_4 rfl rfl ?_
  refine q_istore (t := 9) F dX8_shameAfterKiss_7 (by decide) rfl rfl ?_
  refine q_iconst (t := 10) F dX8_shameAfterKiss_9 rfl ?_
  refine q_istore (t := 12) F dX8_shameAfterKiss_10 (by decide) rfl rfl ?_
  have L12 : ∀ (fz : Nat) (g : Nat) (im2 : IM) (bt2 : Nat), 10 - g < fz → g ≤ 10 → bt2 < 6 → RI im2 → ag [5, 16, 17] im2 im → Wp M (XC G) ad Y_X8_shameAfterKiss (pI fun x m' => x = skF im0 n a b 10 ∧ ∃ im' bt', bt' < 6 ∧ RI im' ∧ ag [5, 16, 17] im' im ∧ m' = (im', rs bt' rt, lm)) 12 [some (vR 0 0), some (vI (a : Int)), some (vI (b : Int)), some (vI (n : Int)), some (vI (skF im0 n a b g)), some (vI (g : Int)), none, none] [] (im2, rs bt2 rt, lm) := by
    intro fz
    induction fz with
    | zero => intro g im2 bt2 h; exact absurd h (Nat.not_lt_zero _)
    | succ fz ih =>
      have ih12 := ih
      intro g im2 bt2 hmeas hg hbt2 hR2 hag2
      have hsk := skF_in hW (n := n) (a := a) hb g
      have hagO : ag [5, 9, 10, 11, 16, 17] im2 im0 := (hag2.mono (by decide)).trans hFI.1
      have e22 : ∀ i s, im2 22 i s = im0 22 i s := fun i s => hagO 22 (by decide) i s
      have e3 : im2 18 0 3 = im0 18 0 3 := hagO 18 (by decide) 0 3
      refine q_iload (t := 14) F dX8_shameAfterKiss_12 rfl rfl ?_
      refine q_bipush (t := 16) F dX8_shameAfterKiss_14 (by decide) rfl ?_
      refine q_icmp_ge (t := 19) (u := 162) F dX8_shameAfterKiss_16 (by first | exact hR _ _ _ | (constructor <;> omega)) (by first | exact hR _ _ _ | (constructor <;> omega)) (by decide) rfl (fun c16 => ?_) (fun c16 => ?_)
      · refine q_iload (t := 164) F dX8_shameAfterKiss_162 rfl rfl ?_
        refine q_iret F dX8_shameAfterKiss_164 rfl ?_
        exact ⟨_, rfl, by rw [show g = 10 by omega], im2, bt2, hbt2, hR2, hag2, rfl⟩
      · refine q_aload_n (t := 20) F dX8_shameAfterKiss_19 rfl rfl rfl ?_
        refine g_X8_51 (t := 23) F dX8_shameAfterKiss_20 rfl rfl ?_
        refine g_X8_99 (t := 26) F dX8_shameAfterKiss_23 rfl (by omega) rfl ?_
        refine q_iload_n (t := 27) F dX8_shameAfterKiss_26 rfl rfl rfl ?_
        first | refine laN_19 (t := 28) F dX8_shameAfterKiss_27 (by omega) (by omega) rfl ?_ | refine la_19 (t := 28) F dX8_shameAfterKiss_27 (by omega) (by omega) (by omega) rfl ?_
        refine g_X8_132 (t := 31) F dX8_shameAfterKiss_28 rfl (by omega) rfl ?_
        refine q_iload (t := 33) F dX8_shameAfterKiss_31 rfl rfl ?_
        first | refine ldN_22 (t := 34) F dX8_shameAfterKiss_33 (by omega) (by omega) rfl ?_ | refine ld_22 (t := 34) F dX8_shameAfterKiss_33 (by omega) (by omega) (by omega) rfl ?_
        rw [e22]
        refine q_istore (t := 36) F dX8_shameAfterKiss_34 (by decide) rfl rfl ?_
        refine q_iload (t := 38) F dX8_shameAfterKiss_36 rfl rfl ?_
        refine q_iconst (t := 39) F dX8_shameAfterKiss_38 rfl ?_
        refine q_icmp_eq (t := 42) (u := 156) F dX8_shameAfterKiss_39 (by rw [← e22]; exact hR2 _ _ _) (by constructor <;> omega) (by decide) rfl (fun c39 => ?_) (fun c39 => ?_)
        · refine q_iinc (t := 159) F dX8_shameAfterKiss_156 rfl (by decide) rfl rfl ?_
          refine q_goto (t := 12) F dX8_shameAfterKiss_159 (by decide) ?_
          refine wp_less 6 ?_
          refine wp_less 7 ?_
          first
            | (rw [show skF im0 n a b g = skF im0 n a b (g + 1) from by rw [skF_s, if_neg (by omega)]]
               exact ih12 (g + 1) _ _ (by omega) (by omega) hbt2 hR2 hag2)
            | (rw [show skF im0 n a b g + badK im0 n a b g - costF im0 0 n (10 * a + g) = skF im0 n a b (g + 1) from by rw [skF_s, if_pos (by omega), if_neg (by omega)]]
               exact ih12 (g + 1) _ _ (by omega) (by omega) hb4 hR6 hag6)
            | (rw [show skF im0 n a b g - costF im0 0 n (10 * a + g) = skF im0 n a b (g + 1) from by rw [skF_s, if_pos (by omega), if_pos (by omega)]; omega]
               exact ih12 (g + 1) _ _ (by omega) (by omega) hb4 hR5 hag5)
        · refine q_aload_n (t := 43) F dX8_shameAfterKiss_42 rfl rfl rfl ?_
          refine g_X8_51 (t := 46) F dX8_shameAfterKiss_43 rfl rfl ?_
          refine g_X8_99 (t := 49) F dX8_shameAfterKiss_46 rfl (by omega) rfl ?_
          refine q_iload_n (t := 50) F dX8_shameAfterKiss_49 rfl rfl rfl ?_
          first | refine laN_19 (t := 51) F dX8_shameAfterKiss_50 (by omega) (by omega) rfl ?_ | refine la_19 (t := 51) F dX8_shameAfterKiss_50 (by omega) (by omega) (by omega) rfl ?_
          refine g_X8_132 (t := 54) F dX8_shameAfterKiss_51 rfl (by omega) rfl ?_
          refine q_iload (t := 56) F dX8_shameAfterKiss_54 rfl rfl ?_
          first | refine ldN_22 (t := 57) F dX8_shameAfterKiss_56 (by omega) (by omega) rfl ?_ | refine ld_22 (t := 57) F dX8_shameAfterKiss_56 (by omega) (by omega) (by omega) rfl ?_
          rw [e22]
          refine q_iconst (t := 58) F dX8_shameAfterKiss_57 rfl ?_
          refine q_icmp_eq (t := 61) (u := 64) F dX8_shameAfterKiss_58 (by rw [← e22]; exact hR2 _ _ _) (by constructor <;> omega) (by decide) rfl (fun c58 => ?_) (fun c58 => ?_)
          · have hWB := WI_ag hagO (by decide) (by decide) (by decide) (by decide) (by decide) (by decide) hW
            have hmB : (b : Int) < im2 18 0 3 := by omega
            obtain ⟨r0, r1, hT, k0, k1, n0, n1, hga, hh0, hh1, hm5⟩ := cell_of hWB hmB
            have e18 : ∀ s, im2 18 0 s = im0 18 0 s := fun s => hagO 18 (by decide) 0 s
            have e21 : ∀ s, im2 21 (5 * 0 + b) s = im0 21 (5 * 0 + b) s := fun s => hagO 21 (by decide) _ s
            have eT : tellV im2 (im2 18 0 7).toNat = tellV im0 (im0 18 0 7).toNat := by
              rw [e18]
              exact tellV_fun (fun s => hagO 3 (by decide) _ s) (fun s => hagO 4 (by decide) _ s)
            obtain ⟨wd, hwd⟩ : ∃ wd, wd = im0 22 (5 * 0 + a) g := ⟨_, rfl⟩
            have hwr : ri wd := by rw [hwd, ← e22]; exact hR2 _ _ _
            rw [← hwd]
            refine q_aload_n (t := 65) F dX8_shameAfterKiss_64 rfl rfl rfl ?_
            refine g_X8_42 (t := 68) F dX8_shameAfterKiss_65 rfl rfl ?_
            refine q_aload_n (t := 69) F dX8_shameAfterKiss_68 rfl rfl rfl ?_
            refine g_X8_51 (t := 72) F dX8_shameAfterKiss_69 rfl rfl ?_
            refine q_iload_n (t := 73) F dX8_shameAfterKiss_72 rfl rfl rfl ?_
            refine q_iload (t := 75) F dX8_shameAfterKiss_73 rfl rfl ?_
            refine wp_callV (t := 78) [_, _, _] F dX8_shameAfterKiss_75 k_X0_look v_X0_look ml_X8_139 rfl rfl rfl rfl (Nat.le_of_ble_eq_true rfl) (by decide) (m_16 (by omega)) (c_X0_look _ G im2 bt2 rt lm 0 b g (by omega) hm5 (by omega) r0 r1) rfl (kV ?_)
            rintro m' rfl
            have hRl := RI_look (w := 0) (p := b) (g := g) hR2 (by omega)
            have hb4 : (im2 18 0 7).toNat < 6 := by omega
            refine q_aload_n (t := 79) F dX8_shameAfterKiss_78 rfl rfl rfl ?_
            refine g_X8_42 (t := 82) F dX8_shameAfterKiss_79 rfl rfl ?_
            refine g_X8_199 (t := 85) F dX8_shameAfterKiss_82 rfl rfl ?_
            refine q_iconst (t := 86) F dX8_shameAfterKiss_85 rfl ?_
            refine q_iload (t := 88) F dX8_shameAfterKiss_86 rfl rfl ?_
            refine stN_17 (t := 89) (j := 0) F dX8_shameAfterKiss_88 (by omega) rfl ?_
            refine q_aload_n (t := 90) F dX8_shameAfterKiss_89 rfl rfl rfl ?_
            refine g_X8_42 (t := 93) F dX8_shameAfterKiss_90 rfl rfl ?_
            refine q_iconst (t := 94) F dX8_shameAfterKiss_93 rfl ?_
            refine p_X8_202 (t := 97) F dX8_shameAfterKiss_94 rfl rfl ?_
            refine q_aload_n (t := 98) F dX8_shameAfterKiss_97 rfl rfl rfl ?_
            refine g_X8_42 (t := 101) F dX8_shameAfterKiss_98 rfl rfl ?_
            refine q_iload_n (t := 102) F dX8_shameAfterKiss_101 rfl rfl rfl ?_
            obtain ⟨L, hLd⟩ : ∃ L, L = up (up (lookM im2 0 b g) 17 0 0 wd) 16 0 3 0 := ⟨_, rfl⟩
            rw [← hLd]
            have hRL : RI L := by rw [hLd]; exact RI_up (RI_up hRl hwr) (by constructor <;> omega)
            have hagL : ag [5, 16, 17] L im := by
              rw [hLd]
              exact ag_up (ag_up (((look_ag im2 0 b g).mono (by decide)).trans hag2) (by decide)) (by decide)
            have hTL : goodT L (im2 18 0 7).toNat := by rw [hLd]; exact goodT_congr (fun s => rfl) (fun s => rfl) hT
            have hgoL : goesB L (im2 18 0 7).toNat n = laterK im0 n a b g := by
              rw [hLd, goesB_K _ _ _ rfl]
              unfold laterK
              rw [← eT, ← e21, ← e21, ← e18, ← hwd]
              rw [show tellV (up (up (lookM im2 0 b g) 17 0 0 wd) 16 0 3 0) (im2 18 0 7).toNat = tellV im2 (im2 18 0 7).toNat from tellV_fun (fun s => rfl) (fun s => rfl)]
              rfl
            have hbeL : ∀ x c, bearsB L (im2 18 0 7).toNat x c = beK (tellV im0 (im0 18 0 7).toNat) (im0 21 (5 * 0 + b) 0) (im0 21 (5 * 0 + b) 1) wd 0 g (im0 18 0 4) x c := by
              intro x c
              rw [hLd, bearsB_K _ _ _ _ rfl, ← eT, ← e21, ← e21, ← e18]
              rw [show tellV (up (up (lookM im2 0 b g) 17 0 0 wd) 16 0 3 0) (im2 18 0 7).toNat = tellV im2 (im2 18 0 7).toNat from tellV_fun (fun s => rfl) (fun s => rfl)]
              rfl
            have hk0 : 0 ≤ L 16 0 2 := by rw [hLd]; exact k0
            have hk1 : L 16 0 2 < 6 := by rw [hLd]; exact k1
            have hn0 : 0 ≤ L 17 0 3 := by rw [hLd]; exact n0
            have hn1 : L 17 0 3 < 10 := by rw [hLd]; exact n1
            have ha3 : L 16 0 3 = 0 := by rw [hLd]; rfl
            have hh4 : L 16 0 4 = im2 18 0 4 := by rw [hLd]; rfl
            refine wp_callV (t := 105) [_] F dX8_shameAfterKiss_102 k_X0_goesOffIn v_X0_goesOffIn ml_X8_181 rfl rfl rfl rfl (Nat.le_of_ble_eq_true rfl) (by decide) (m_16 (by omega)) (c_X0_goesOffIn _ G L (im2 18 0 7).toNat rt lm n hn hb4 hRL hTL hk0 hk1 hn0 hn1 (fun _ => by omega) (by omega) (by omega)) rfl (kI ?_)
            rintro x m' ⟨hx, xa, xb, xg, hxa, hxb, hxg, rfl⟩
            rw [hgoL] at hx
            subst hx
            have hli := laterK_in im0 n a b g
            have hR5 := RI_scr hRL hxa hxb hxg
            have hag5 : ag [5, 16, 17] (scr L xa xb xg) im := ((scr_ag _ _ _ _).mono (by decide)).trans hagL
            have hco : ∀ s, L 11 0 s = im 11 0 s := fun s => hagL 11 (by decide) 0 s
            refine q_istore (t := 107) F dX8_shameAfterKiss_105 (by decide) rfl rfl ?_
            refine q_iload (t := 109) F dX8_shameAfterKiss_107 rfl rfl ?_
            refine q_iconst (t := 110) F dX8_shameAfterKiss_109 rfl ?_
            refine q_icmp_eq (t := 113) (u := 136) F dX8_shameAfterKiss_110 (by constructor <;> omega) (by constructor <;> omega) (by decide) rfl (fun c110 => ?_) (fun c110 => ?_)
            · refine q_iload (t := 138) F dX8_shameAfterKiss_136 rfl rfl ?_
              refine q_aload_n (t := 139) F dX8_shameAfterKiss_138 rfl rfl rfl ?_
              refine g_X8_24 (t := 142) F dX8_shameAfterKiss_139 rfl rfl ?_
              refine g_X8_190 (t := 145) F dX8_shameAfterKiss_142 rfl rfl ?_
              refine q_iload_n (t := 146) F dX8_shameAfterKiss_145 rfl rfl rfl ?_
              refine q_bipush (t := 148) F dX8_shameAfterKiss_146 (by decide) rfl ?_
              refine q_imul (t := 149) F dX8_shameAfterKiss_148 rfl ?_
              refine q_iload (t := 151) F dX8_shameAfterKiss_149 rfl rfl ?_
              refine q_iadd (t := 152) F dX8_shameAfterKiss_151 rfl ?_
              rw [show (a : Int) * 10 + (g : Int) = ((10 * a + g : Nat) : Int) by omega]
              first | refine ldN_11 (t := 153) F dX8_shameAfterKiss_152 (by omega) rfl ?_ | refine ld_11 (t := 153) F dX8_shameAfterKiss_152 (by omega) (by omega) rfl ?_
              try simp only [up_app, row_app, scr_app, cpy_app, Nat.reduceEqDiff, Int.reduceToNat, Int.toNat_natCast, and_true, true_and, and_false, false_and, and_self, reduceIte]
              rw [hco, (hFI.2.1 (10 * a + g) (by omega)).2]
              refine q_isub (t := 154) F dX8_shameAfterKiss_153 rfl ?_
              refine q_istore (t := 156) F dX8_shameAfterKiss_154 (by decide) rfl rfl ?_
              refine q_iinc (t := 159) F dX8_shameAfterKiss_156 rfl (by decide) rfl rfl ?_
              refine q_goto (t := 12) F dX8_shameAfterKiss_159 (by decide) ?_
              refine wp_less 6 ?_
              refine wp_less 7 ?_
              first
                | (rw [show skF im0 n a b g = skF im0 n a b (g + 1) from by rw [skF_s, if_neg (by omega)]]
                   exact ih12 (g + 1) _ _ (by omega) (by omega) hbt2 hR2 hag2)
                | (rw [show skF im0 n a b g + badK im0 n a b g - costF im0 0 n (10 * a + g) = skF im0 n a b (g + 1) from by rw [skF_s, if_pos (by omega), if_neg (by omega)]]
                   exact ih12 (g + 1) _ _ (by omega) (by omega) hb4 hR6 hag6)
                | (rw [show skF im0 n a b g - costF im0 0 n (10 * a + g) = skF im0 n a b (g + 1) from by rw [skF_s, if_pos (by omega), if_pos (by omega)]; omega]
                   exact ih12 (g + 1) _ _ (by omega) (by omega) hb4 hR5 hag5)
            · refine q_iload (t := 115) F dX8_shameAfterKiss_113 rfl rfl ?_
              refine q_aload_n (t := 116) F dX8_shameAfterKiss_115 rfl rfl rfl ?_
              refine g_X8_42 (t := 119) F dX8_shameAfterKiss_116 rfl rfl ?_
              refine q_iload (t := 121) F dX8_shameAfterKiss_119 rfl rfl ?_
              refine q_aload_n (t := 122) F dX8_shameAfterKiss_121 rfl rfl rfl ?_
              refine g_X8_51 (t := 125) F dX8_shameAfterKiss_122 rfl rfl ?_
              refine q_iload (t := 127) F dX8_shameAfterKiss_125 rfl rfl ?_
              refine wp_callV (t := 130) [_] F dX8_shameAfterKiss_127 k_X7_isChurchIn v_X7_isChurchIn ml_X8_204 rfl rfl rfl rfl (Nat.le_of_ble_eq_true rfl) (by decide) (m_18 (by omega)) (c_X7_isChurchIn _ G (scr L xa xb xg) _ rt lm 0 (by omega) (laterK im0 n a b g) (by omega) (by omega) (by rw [hag5 18 (by decide), ← hag2 18 (by decide)]; exact hh0) (by rw [hag5 18 (by decide), ← hag2 18 (by decide)]; exact hh1)) rfl (kI ?_)
              rintro x m' ⟨rfl, rfl⟩
              have hch : chI (scr L xa xb xg 18 0 5) (scr L xa xb xg 18 0 4 + laterK im0 n a b g) = chI (im0 18 0 5) (im0 18 0 4 + laterK im0 n a b g) := by
                rw [hag5 18 (by decide), hag5 18 (by decide), hFI.1 18 (by decide), hFI.1 18 (by decide)]
              rw [hch]
              have hci := chI_in (im0 18 0 5) (im0 18 0 4 + laterK im0 n a b g)
              refine wp_callV (t := 133) [_, _] F dX8_shameAfterKiss_130 k_X0_bears v_X0_bears ml_X8_207 rfl rfl rfl rfl (Nat.le_of_ble_eq_true rfl) (by decide) (m_16 (by omega)) (c_X0_bears _ G (scr L xa xb xg) (im2 18 0 7).toNat rt lm (laterK im0 n a b g) (chI (im0 18 0 5) (im0 18 0 4 + laterK im0 n a b g)) (by omega) (by omega) hci.1 hci.2 hb4 hR5 (goodT_scr hTL) hk0 hk1 hn0 hn1 (show 0 ≤ L 16 0 3 ∧ L 16 0 3 ≤ 3000 by omega) (show 0 ≤ L 16 0 4 by omega) (show L 16 0 4 ≤ 3000 by omega)) rfl (kI ?_)
              rintro x m' ⟨hx, ya, yb, yg, hya, hyb, hyg, rfl⟩
              rw [bearsB_scr, hbeL] at hx
              have hxb : x = badK im0 n a b g := by
                rw [hx]
                unfold badK
                rw [← hwd]
              rw [hxb, scr_scr]
              have hR6 := RI_scr hRL hya hyb hyg
              have hag6 : ag [5, 16, 17] (scr L ya yb yg) im := ((scr_ag _ _ _ _).mono (by decide)).trans hagL
              refine q_iadd (t := 134) F dX8_shameAfterKiss_133 rfl ?_
              refine q_istore (t := 136) F dX8_shameAfterKiss_134 (by decide) rfl rfl ?_
              refine q_iload (t := 138) F dX8_shameAfterKiss_136 rfl rfl ?_
              refine q_aload_n (t := 139) F dX8_shameAfterKiss_138 rfl rfl rfl ?_
              refine g_X8_24 (t := 142) F dX8_shameAfterKiss_139 rfl rfl ?_
              refine g_X8_190 (t := 145) F dX8_shameAfterKiss_142 rfl rfl ?_
              refine q_iload_n (t := 146) F dX8_shameAfterKiss_145 rfl rfl rfl ?_
              refine q_bipush (t := 148) F dX8_shameAfterKiss_146 (by decide) rfl ?_
              refine q_imul (t := 149) F dX8_shameAfterKiss_148 rfl ?_
              refine q_iload (t := 151) F dX8_shameAfterKiss_149 rfl rfl ?_
              refine q_iadd (t := 152) F dX8_shameAfterKiss_151 rfl ?_
              rw [show (a : Int) * 10 + (g : Int) = ((10 * a + g : Nat) : Int) by omega]
              first | refine ldN_11 (t := 153) F dX8_shameAfterKiss_152 (by omega) rfl ?_ | refine ld_11 (t := 153) F dX8_shameAfterKiss_152 (by omega) (by omega) rfl ?_
              try simp only [up_app, row_app, scr_app, cpy_app, Nat.reduceEqDiff, Int.reduceToNat, Int.toNat_natCast, and_true, true_and, and_false, false_and, and_self, reduceIte]
              rw [hco, (hFI.2.1 (10 * a + g) (by omega)).2]
              refine q_isub (t := 154) F dX8_shameAfterKiss_153 rfl ?_
              refine q_istore (t := 156) F dX8_shameAfterKiss_154 (by decide) rfl rfl ?_
              refine q_iinc (t := 159) F dX8_shameAfterKiss_156 rfl (by decide) rfl rfl ?_
              refine q_goto (t := 12) F dX8_shameAfterKiss_159 (by decide) ?_
              refine wp_less 6 ?_
              refine wp_less 7 ?_
              first
                | (rw [show skF im0 n a b g = skF im0 n a b (g + 1) from by rw [skF_s, if_neg (by omega)]]
                   exact ih12 (g + 1) _ _ (by omega) (by omega) hbt2 hR2 hag2)
                | (rw [show skF im0 n a b g + badK im0 n a b g - costF im0 0 n (10 * a + g) = skF im0 n a b (g + 1) from by rw [skF_s, if_pos (by omega), if_neg (by omega)]]
                   exact ih12 (g + 1) _ _ (by omega) (by omega) hb4 hR6 hag6)
                | (rw [show skF im0 n a b g - costF im0 0 n (10 * a + g) = skF im0 n a b (g + 1) from by rw [skF_s, if_pos (by omega), if_pos (by omega)]; omega]
                   exact ih12 (g + 1) _ _ (by omega) (by omega) hb4 hR5 hag5)
          · refine q_goto (t := 156) F dX8_shameAfterKiss_61 (by decide) ?_
            refine q_iinc (t := 159) F dX8_shameAfterKiss_156 rfl (by decide) rfl rfl ?_
            refine q_goto (t := 12) F dX8_shameAfterKiss_159 (by decide) ?_
            refine wp_less 6 ?_
            refine wp_less 7 ?_
            first
              | (rw [show skF im0 n a b g = skF im0 n a b (g + 1) from by rw [skF_s, if_neg (by omega)]]
                 exact ih12 (g + 1) _ _ (by omega) (by omega) hbt2 hR2 hag2)
              | (rw [show skF im0 n a b g + badK im0 n a b g - costF im0 0 n (10 * a + g) = skF im0 n a b (g + 1) from by rw [skF_s, if_pos (by omega), if_neg (by omega)]]
                 exact ih12 (g + 1) _ _ (by omega) (by omega) hb4 hR6 hag6)
              | (rw [show skF im0 n a b g - costF im0 0 n (10 * a + g) = skF im0 n a b (g + 1) from by rw [skF_s, if_pos (by omega), if_pos (by omega)]; omega]
                 exact ih12 (g + 1) _ _ (by omega) (by omega) hb4 hR5 hag5)
  have e0 : im 9 0 4 = skF im0 n a b 0 := hFI.2.2.1
  rw [e0]
  exact L12 _ 0 im bt (Nat.lt_succ_self _) (by omega) hbt hR (ag_rfl _ _)

/-- kissing: with one, the first of the others -/
def kI' (im : IM) (n a : Nat) (q : Int × Int) : Nat → Int × Int
  | 0 => q
  | b + 1 => if a ≠ b ∧ skF im n a b 10 < (kI' im n a q b).2 then ((a : Int) * 10 + b, skF im n a b 10) else kI' im n a q b
def kO (im : IM) (n sz : Nat) : Nat → Int × Int
  | 0 => (-1, sumF im 0 n 50)
  | a + 1 => kI' im n a (kO im n sz a) sz
theorem kI'_s (im : IM) (n a : Nat) (q : Int × Int) (b : Nat) : kI' im n a q (b + 1) = if a ≠ b ∧ skF im n a b 10 < (kI' im n a q b).2 then ((a : Int) * 10 + b, skF im n a b 10) else kI' im n a q b := rfl
theorem kI'_in {im : IM} (hW : WI im 0) {n a : Nat} {q : Int × Int} (hq : -7000 ≤ q.2 ∧ q.2 ≤ 42000) (b : Nat) (hb : (b : Int) ≤ im 18 0 3) : -7000 ≤ (kI' im n a q b).2 ∧ (kI' im n a q b).2 ≤ 42000 := by
  induction b with
  | zero => exact hq
  | succ b ih =>
    rw [kI'_s]
    have := ih (by omega)
    have h2 := skF_in hW (n := n) (a := a) (b := b) (by omega) 10
    split
    · show -7000 ≤ skF im n a b 10 ∧ skF im n a b 10 ≤ 42000
      omega
    · exact this
theorem kO_in {im : IM} (hW : WI im 0) {n sz : Nat} (hz : (sz : Int) ≤ im 18 0 3) (a : Nat) : -7000 ≤ (kO im n sz a).2 ∧ (kO im n sz a).2 ≤ 42000 := by
  induction a with
  | zero =>
    have := sumF_in (n := n) hW 50
    show -7000 ≤ sumF im 0 n 50 ∧ sumF im 0 n 50 ≤ 42000
    omega
  | succ a ih => exact kI'_in hW ih sz hz
def kissingA (im : IM) (n what : Int) : Int := if (0 ≤ n ∧ n ≤ 60) ∧ 0 ≤ what ∧ what < 2 then (if what = 0 then (kO im n.toNat (im 18 0 3).toNat (im 18 0 3).toNat).1 else (kO im n.toNat (im 18 0 3).toNat (im 18 0 3).toNat).2) else -2

theorem FI_ag3 {im im2 im3 : IM} {w n N : Nat} (h : FI im im2 w n N) (h3 : ag [5, 16, 17] im3 im2) : FI im im3 w n N := by
  obtain ⟨g1, g2, g3, g4, g5⟩ := h
  refine ⟨(h3.mono (by decide)).trans g1, fun M hM => ?_, ?_, ?_, ?_⟩
  · rw [h3 10 (by decide), h3 11 (by decide)]; exact g2 M hM
  · rw [h3 9 (by decide)]; exact g3
  · rw [h3 9 (by decide)]; exact g4
  · rw [h3 9 (by decide)]; exact g5

set_option maxHeartbeats 4000000 in
theorem c_X8_kissing (l : Launch) (G : GS) (im : IM) (bt rt : Nat) (lm : IM) (hbt : bt < 6) (hrt : rt < 6) (hS : SC im) (n what : Int) (hn : ri n) (hwhat : ri what) : Cn l (XC G) yX8_kissing Y_X8_kissing [vR 0 0, vI n, vI what] (im, rs bt rt, lm) (pI fun x m' => x = kissingA im n what ∧ stC lm im m') := by
  refine cn_of (by decide) (okC G) rfl (Nat.le_of_ble_eq_true rfl) ?_
  intro M ad hMl F
  subst hMl
  obtain ⟨hR, hW, hh, htc, hru, hgt, hz, hrd, hsh, him, htp⟩ := hS
  have w1 := hW.1
  have w2 := hW.2.1
  have w3 := hW.2.2.1
  have w4 := hW.2.2.2.1
  have w5 := hW.2.2.2.2.1
  have hn1 := hn.1
  have hn2 := hn.2
  have hwhat1 := hwhat.1
  have hwhat2 := hwhat.2
  refine wp_pad 5 ?_
  show Wp M (XC G) ad Y_X8_kissing (pI fun x m' => x = kissingA im n what ∧ stC lm im m') 0 [some (vR 0 0), some (vI n), some (vI what), none, none, none, none, none] [] (im, rs bt rt, lm)
  refine q_iload_n (t := 1) F dX8_kissing_0 rfl rfl rfl ?_
  refine wp_callS (t := 4) [_] F dX8_kissing_1 k_X8_isSpan st_X8_isSpan ml_X8_163 rfl rfl (Nat.le_of_ble_eq_true rfl) (by decide) (c_X8_isSpan _ G _ bt rt lm n hn) rfl (kI ?_)
  rintro x1 m' ⟨hx1, rfl⟩
  have hx1 := if01 hx1
  refine q_if_eq (t := 7) (u := 15) F dX8_kissing_4 (by first | exact hR _ _ _ | (constructor <;> omega)) (by decide) rfl (fun c4 => ?_) (fun c4 => ?_)
  · refine q_bipush (t := 17) F dX8_kissing_15 (by decide) rfl ?_
    refine q_iret F dX8_kissing_17 rfl ?_
    refine ⟨_, rfl, ?_, _, bt, rt, hbt, hrt, (by repeat' first | exact hR | refine RI_up ?_ ?_ | assumption | exact hR _ _ _ | (constructor <;> omega)), ?_, rfl⟩
    · unfold kissingA
      (repeat' split) <;> omega
    · exact agP_rfl _
  · refine q_iload_n (t := 8) F dX8_kissing_7 rfl rfl rfl ?_
    refine q_iconst (t := 9) F dX8_kissing_8 rfl ?_
    refine wp_callS (t := 12) [_, _] F dX8_kissing_9 k_X8_within st_X8_within ml_X8_95 rfl rfl (Nat.le_of_ble_eq_true rfl) (by decide) (c_X8_within _ G _ bt rt lm what 2 hwhat (by constructor <;> omega)) rfl (kI ?_)
    rintro x9 m' ⟨hx9, rfl⟩
    have hx9 := if01 hx9
    refine q_if_ne (t := 15) (u := 18) F dX8_kissing_12 (by first | exact hR _ _ _ | (constructor <;> omega)) (by decide) rfl (fun c12 => ?_) (fun c12 => ?_)
    · obtain ⟨n, rfl⟩ : ∃ k : Nat, n = (k : Int) := ⟨n.toNat, by omega⟩
      refine q_aload_n (t := 19) F dX8_kissing_18 rfl rfl rfl ?_
      refine g_X8_24 (t := 22) F dX8_kissing_19 rfl rfl ?_
      refine q_aload_n (t := 23) F dX8_kissing_22 rfl rfl rfl ?_
      refine g_X8_51 (t := 26) F dX8_kissing_23 rfl rfl ?_
      refine q_aload_n (t := 27) F dX8_kissing_26 rfl rfl rfl ?_
      refine g_X8_42 (t := 30) F dX8_kissing_27 rfl rfl ?_
      refine q_iload_n (t := 31) F dX8_kissing_30 rfl rfl rfl ?_
      refine wp_callV (t := 34) [_, _, _] F dX8_kissing_31 k_X1_look v_X1_look ml_X8_166 rfl rfl rfl rfl (Nat.le_of_ble_eq_true rfl) (by decide) (m_9 (by omega)) (c_X1_look _ G im bt rt lm 0 (by omega) hbt hR hW n (by omega)) rfl (kV ?_)
      rintro m' ⟨imF, btF, hbtF, hRF, hFI, rfl⟩
      have hq1 : imF 9 0 4 = sumF im 0 n 50 := hFI.2.2.1
      obtain ⟨sz, hsz⟩ : ∃ sz : Nat, im 18 0 3 = sz := ⟨(im 18 0 3).toNat, by omega⟩
      have hszN : (im 18 0 3).toNat = sz := by omega
      refine q_iconst (t := 35) F dX8_kissing_34 rfl ?_
      refine q_istore_n (t := 36) F dX8_kissing_35 rfl (by decide) rfl rfl ?_
      refine q_aload_n (t := 37) F dX8_kissing_36 rfl rfl rfl ?_
      refine g_X8_24 (t := 40) F dX8_kissing_37 rfl rfl ?_
      refine g_X8_169 (t := 43) F dX8_kissing_40 rfl rfl ?_
      try simp only [up_app, row_app, scr_app, cpy_app, Nat.reduceEqDiff, Int.reduceToNat, Int.toNat_natCast, and_true, true_and, and_false, false_and, and_self, reduceIte]
      refine q_istore (t := 45) F dX8_kissing_43 (by decide) rfl rfl ?_
      refine q_iconst (t := 46) F dX8_kissing_45 rfl ?_
      refine q_istore (t := 48) F dX8_kissing_46 (by decide) rfl rfl ?_
      have L48 : ∀ (fz : Nat) (a : Nat) (im2 : IM) (bt2 : Nat), sz - a < fz → a ≤ sz → bt2 < 6 → RI im2 → ag [5, 16, 17] im2 imF → Wp M (XC G) ad Y_X8_kissing (pI fun x m' => x = kissingA im n what ∧ stC lm im m') 48 [some (vR 0 0), some (vI (n : Int)), some (vI what), some (vI (kO im n sz a).1), some (vI (kO im n sz a).2), some (vI (a : Int)), none, none] [] (im2, rs bt2 rt, lm) := by
        intro fz
        induction fz with
        | zero => intro a im2 bt2 h; exact absurd h (Nat.not_lt_zero _)
        | succ fz ih =>
          have ih48 := ih
          intro a im2 bt2 hmeas ha hbt2 hR2 hag2
          have e3 : im2 18 0 3 = sz := by rw [hag2 18 (by decide), hFI.1 18 (by decide), hsz]
          have hko := kO_in hW (n := n) (sz := sz) (by omega) a
          refine q_iload (t := 50) F dX8_kissing_48 rfl rfl ?_
          refine q_aload_n (t := 51) F dX8_kissing_50 rfl rfl rfl ?_
          refine g_X8_51 (t := 54) F dX8_kissing_51 rfl rfl ?_
          refine g_X8_115 (t := 57) F dX8_kissing_54 rfl (by omega) rfl ?_
          try simp only [up_app, row_app, scr_app, cpy_app, Nat.reduceEqDiff, Int.reduceToNat, Int.toNat_natCast, and_true, true_and, and_false, false_and, and_self, reduceIte]
          refine q_icmp_ge (t := 60) (u := 128) F dX8_kissing_57 (by constructor <;> omega) (by exact hR2 _ _ _) (by decide) rfl (fun c57 => ?_) (fun c57 => ?_)
          · refine q_iload_n (t := 129) F dX8_kissing_128 rfl rfl rfl ?_
            refine q_if_ne (t := 132) (u := 136) F dX8_kissing_129 (by first | exact hR _ _ _ | (constructor <;> omega)) (by decide) rfl (fun c129 => ?_) (fun c129 => ?_)
            · refine q_iload (t := 138) F dX8_kissing_136 rfl rfl ?_
              refine q_iret F dX8_kissing_138 rfl ?_
              have ea : a = sz := by omega
              subst ea
              refine ⟨_, rfl, ?_, im2, bt2, rt, hbt2, hrt, hR2, agP_of ((hag2.mono (by decide)).trans (hFI.1.mono (by decide))), rfl⟩
              unfold kissingA
              simp only [Int.toNat_natCast]
              first
                | (rw [if_pos (by omega), if_pos (by omega), hszN])
                | (rw [if_pos (by omega), if_neg (by omega), hszN])
            · refine q_iload_n (t := 133) F dX8_kissing_132 rfl rfl rfl ?_
              refine q_goto (t := 138) F dX8_kissing_133 (by decide) ?_
              refine q_iret F dX8_kissing_138 rfl ?_
              have ea : a = sz := by omega
              subst ea
              refine ⟨_, rfl, ?_, im2, bt2, rt, hbt2, hrt, hR2, agP_of ((hag2.mono (by decide)).trans (hFI.1.mono (by decide))), rfl⟩
              unfold kissingA
              simp only [Int.toNat_natCast]
              first
                | (rw [if_pos (by omega), if_pos (by omega), hszN])
                | (rw [if_pos (by omega), if_neg (by omega), hszN])
          · refine q_iconst (t := 61) F dX8_kissing_60 rfl ?_
            refine q_istore (t := 63) F dX8_kissing_61 (by decide) rfl rfl ?_
            have L63 : ∀ (fz : Nat) (b : Nat) (im2 : IM) (bt2 : Nat), sz - b < fz → b ≤ sz → bt2 < 6 → RI im2 → ag [5, 16, 17] im2 imF → Wp M (XC G) ad Y_X8_kissing (pI fun x m' => x = kissingA im n what ∧ stC lm im m') 63 [some (vR 0 0), some (vI (n : Int)), some (vI what), some (vI (kI' im n a (kO im n sz a) b).1), some (vI (kI' im n a (kO im n sz a) b).2), some (vI (a : Int)), some (vI (b : Int)), none] [] (im2, rs bt2 rt, lm) := by
              intro fz
              induction fz with
              | zero => intro b im2 bt2 h; exact absurd h (Nat.not_lt_zero _)
              | succ fz ih =>
                have ih63 := ih
                intro b im2 bt2 hmeas hb hbt2 hR2 hag2
                have e3 : im2 18 0 3 = sz := by rw [hag2 18 (by decide), hFI.1 18 (by decide), hsz]
                have hki := kI'_in hW (n := n) (a := a) hko b (by omega)
                have hFI2 : FI im im2 0 n 50 := FI_ag3 hFI hag2
                refine q_iload (t := 65) F dX8_kissing_63 rfl rfl ?_
                refine q_aload_n (t := 66) F dX8_kissing_65 rfl rfl rfl ?_
                refine g_X8_51 (t := 69) F dX8_kissing_66 rfl rfl ?_
                refine g_X8_115 (t := 72) F dX8_kissing_69 rfl (by omega) rfl ?_
                try simp only [up_app, row_app, scr_app, cpy_app, Nat.reduceEqDiff, Int.reduceToNat, Int.toNat_natCast, and_true, true_and, and_false, false_and, and_self, reduceIte]
                refine q_icmp_ge (t := 75) (u := 122) F dX8_kissing_72 (by constructor <;> omega) (by exact hR2 _ _ _) (by decide) rfl (fun c72 => ?_) (fun c72 => ?_)
                · refine q_iinc (t := 125) F dX8_kissing_122 rfl (by decide) rfl rfl ?_
                  refine q_goto (t := 48) F dX8_kissing_125 (by decide) ?_
                  refine wp_less 6 ?_
                  refine wp_less 7 ?_
                  obtain rfl : b = sz := by omega
                  exact ih48 (a + 1) im2 bt2 (by omega) (by omega) hbt2 hR2 hag2
                · refine q_iload (t := 77) F dX8_kissing_75 rfl rfl ?_
                  refine q_iload (t := 79) F dX8_kissing_77 rfl rfl ?_
                  refine q_icmp_ne (t := 82) (u := 85) F dX8_kissing_79 (by first | exact hR _ _ _ | (constructor <;> omega)) (by first | exact hR _ _ _ | (constructor <;> omega)) (by decide) rfl (fun c79 => ?_) (fun c79 => ?_)
                  · refine q_aload_n (t := 86) F dX8_kissing_85 rfl rfl rfl ?_
                    refine q_iload (t := 88) F dX8_kissing_86 rfl rfl ?_
                    refine q_iload (t := 90) F dX8_kissing_88 rfl rfl ?_
                    refine q_iload_n (t := 91) F dX8_kissing_90 rfl rfl rfl ?_
                    refine wp_callV (t := 94) [_, _, _] F dX8_kissing_91 k_X8_shameAfterKiss v_X8_shameAfterKiss ml_X8_196 rfl rfl rfl rfl (Nat.le_of_ble_eq_true rfl) (by decide) (m_0 (by omega)) (c_X8_shameAfterKiss _ G im2 im bt2 rt lm hbt2 hR2 hW n a b (by omega) (by omega) (by omega) hFI2) rfl (kI ?_)
                    rintro x m' ⟨rfl, im3, bt3, hbt3, hR3, hag3, rfl⟩
                    have hag4 := hag3.trans hag2
                    have hsk := skF_in hW (n := n) (a := a) (b := b) (by omega) 10
                    refine q_istore (t := 96) F dX8_kissing_94 (by decide) rfl rfl ?_
                    refine q_iload (t := 98) F dX8_kissing_96 rfl rfl ?_
                    refine q_iload (t := 100) F dX8_kissing_98 rfl rfl ?_
                    refine q_icmp_ge (t := 103) (u := 116) F dX8_kissing_100 (by first | exact hR _ _ _ | (constructor <;> omega)) (by first | exact hR _ _ _ | (constructor <;> omega)) (by decide) rfl (fun c100 => ?_) (fun c100 => ?_)
                    · refine q_iinc (t := 119) F dX8_kissing_116 rfl (by decide) rfl rfl ?_
                      refine q_goto (t := 63) F dX8_kissing_119 (by decide) ?_
                      refine wp_less 7 ?_
                      first
                        | (have e9 : kI' im n a (kO im n sz a) (b + 1) = ((a : Int) * 10 + b, skF im n a b 10) := by rw [kI'_s, if_pos ⟨by omega, by omega⟩]
                           have h := ih63 (b + 1) im3 bt3 (by omega) (by omega) hbt3 hR3 hag4
                           rw [e9] at h
                           exact h)
                        | (have e9 : kI' im n a (kO im n sz a) (b + 1) = kI' im n a (kO im n sz a) b := by rw [kI'_s, if_neg (by omega)]
                           have h := ih63 (b + 1) im3 bt3 (by omega) (by omega) hbt3 hR3 hag4
                           rw [e9] at h
                           exact h)
                        | (have e9 : kI' im n a (kO im n sz a) (b + 1) = kI' im n a (kO im n sz a) b := by rw [kI'_s, if_neg (by omega)]
                           have h := ih63 (b + 1) im2 bt2 (by omega) (by omega) hbt2 hR2 hag2
                           rw [e9] at h
                           exact h)
                    · refine q_iload (t := 105) F dX8_kissing_103 rfl rfl ?_
                      refine q_istore (t := 107) F dX8_kissing_105 (by decide) rfl rfl ?_
                      refine q_iload (t := 109) F dX8_kissing_107 rfl rfl ?_
                      refine q_bipush (t := 111) F dX8_kissing_109 (by decide) rfl ?_
                      refine q_imul (t := 112) F dX8_kissing_111 rfl ?_
                      refine q_iload (t := 114) F dX8_kissing_112 rfl rfl ?_
                      refine q_iadd (t := 115) F dX8_kissing_114 rfl ?_
                      refine q_istore_n (t := 116) F dX8_kissing_115 rfl (by decide) rfl rfl ?_
                      refine q_iinc (t := 119) F dX8_kissing_116 rfl (by decide) rfl rfl ?_
                      refine q_goto (t := 63) F dX8_kissing_119 (by decide) ?_
                      refine wp_less 7 ?_
                      first
                        | (have e9 : kI' im n a (kO im n sz a) (b + 1) = ((a : Int) * 10 + b, skF im n a b 10) := by rw [kI'_s, if_pos ⟨by omega, by omega⟩]
                           have h := ih63 (b + 1) im3 bt3 (by omega) (by omega) hbt3 hR3 hag4
                           rw [e9] at h
                           exact h)
                        | (have e9 : kI' im n a (kO im n sz a) (b + 1) = kI' im n a (kO im n sz a) b := by rw [kI'_s, if_neg (by omega)]
                           have h := ih63 (b + 1) im3 bt3 (by omega) (by omega) hbt3 hR3 hag4
                           rw [e9] at h
                           exact h)
                        | (have e9 : kI' im n a (kO im n sz a) (b + 1) = kI' im n a (kO im n sz a) b := by rw [kI'_s, if_neg (by omega)]
                           have h := ih63 (b + 1) im2 bt2 (by omega) (by omega) hbt2 hR2 hag2
                           rw [e9] at h
                           exact h)
                  · refine q_goto (t := 116) F dX8_kissing_82 (by decide) ?_
                    refine q_iinc (t := 119) F dX8_kissing_116 rfl (by decide) rfl rfl ?_
                    refine q_goto (t := 63) F dX8_kissing_119 (by decide) ?_
                    refine wp_less 7 ?_
                    first
                      | (have e9 : kI' im n a (kO im n sz a) (b + 1) = ((a : Int) * 10 + b, skF im n a b 10) := by rw [kI'_s, if_pos ⟨by omega, by omega⟩]
                         have h := ih63 (b + 1) im3 bt3 (by omega) (by omega) hbt3 hR3 hag4
                         rw [e9] at h
                         exact h)
                      | (have e9 : kI' im n a (kO im n sz a) (b + 1) = kI' im n a (kO im n sz a) b := by rw [kI'_s, if_neg (by omega)]
                         have h := ih63 (b + 1) im3 bt3 (by omega) (by omega) hbt3 hR3 hag4
                         rw [e9] at h
                         exact h)
                      | (have e9 : kI' im n a (kO im n sz a) (b + 1) = kI' im n a (kO im n sz a) b := by rw [kI'_s, if_neg (by omega)]
                         have h := ih63 (b + 1) im2 bt2 (by omega) (by omega) hbt2 hR2 hag2
                         rw [e9] at h
                         exact h)
            exact L63 _ 0 im2 bt2 (Nat.lt_succ_self _) (by omega) hbt2 hR2 hag2
      rw [hq1]
      exact L48 _ 0 imF btF (Nat.lt_succ_self _) (by omega) hbtF hRF (ag_rfl _ _)
    · refine q_bipush (t := 17) F dX8_kissing_15 (by decide) rfl ?_
      refine q_iret F dX8_kissing_17 rfl ?_
      refine ⟨_, rfl, ?_, _, bt, rt, hbt, hrt, (by repeat' first | exact hR | refine RI_up ?_ ?_ | assumption | exact hR _ _ _ | (constructor <;> omega)), ?_, rfl⟩
      · unfold kissingA
        (repeat' split) <;> omega
      · exact agP_rfl _
end
section
/-! church -/
def b0F (im : IM) (n N : Nat) (c : Int) : Int := bearsW im 0 (N / 10) (N % 10) (whenF im 0 n N) c
def elsF (im : IM) (n : Nat) : Nat → Int
  | 0 => 0
  | N + 1 => if whenF im 0 n N = -1 then elsF im n N else elsF im n N + b0F im n N 0
def byF (im : IM) (n i : Nat) : Nat → Int
  | 0 => 0
  | N + 1 => if whenF im 0 n N ≠ -1 ∧ (im 18 0 4 + whenF im 0 n N) % 24 = i then byF im n i N + (b0F im n N 1 - b0F im n N 0) else byF im n i N
theorem byF_s (im : IM) (n i N : Nat) : byF im n i (N + 1) = if whenF im 0 n N ≠ -1 ∧ (im 18 0 4 + whenF im 0 n N) % 24 = i then byF im n i N + (b0F im n N 1 - b0F im n N 0) else byF im n i N := rfl
theorem elsF_s (im : IM) (n N : Nat) : elsF im n (N + 1) = if whenF im 0 n N = -1 then elsF im n N else elsF im n N + b0F im n N 0 := rfl
theorem whenF_ok {im : IM} {n N : Nat} (h : whenF im 0 n N ≠ -1) : ((N / 10 : Nat) : Int) < im 18 0 3 ∧ im 22 (5 * 0 + N / 10) (N % 10) ≠ -1 := by
  by_cases hm : ((N / 10 : Nat) : Int) < im 18 0 3
  · refine ⟨hm, fun z => h ?_⟩
    unfold whenF
    rw [if_pos hm]
    exact goesW_none z
  · exact absurd (by unfold whenF; rw [if_neg hm]) h
theorem b0F_in {im : IM} (hW : WI im 0) {n N : Nat} (h : whenF im 0 n N ≠ -1) (c : Int) : 0 ≤ b0F im n N c ∧ b0F im n N c ≤ 700 := bearsW_in hW (whenF_ok h).1 _ _ _
theorem elsF_in {im : IM} (hW : WI im 0) (n N : Nat) : 0 ≤ elsF im n N ∧ elsF im n N ≤ 700 * N := by
  induction N with
  | zero => exact ⟨Int.le_refl 0, Int.le_refl 0⟩
  | succ N ih =>
    rw [elsF_s]
    split
    · omega
    · have := b0F_in hW (by assumption) 0
      omega
theorem byF_in {im : IM} (hW : WI im 0) (n i N : Nat) : -700 * (N : Int) ≤ byF im n i N ∧ byF im n i N ≤ 700 * N := by
  induction N with
  | zero => exact ⟨Int.le_refl 0, Int.le_refl 0⟩
  | succ N ih =>
    rw [byF_s]
    split
    · rename_i h
      have h1 := b0F_in hW h.1 0
      have h2 := b0F_in hW h.1 1
      omega
    · omega

set_option maxHeartbeats 4000000 in
theorem c_X1_lookAtChurch (l : Launch) (G : GS) (im im0 : IM) (bt rt : Nat) (lm : IM) (hbt : bt < 6) (hR : RI im) (hW : WI im0 0) (n : Nat) (hn : n ≤ 60) (hFI : FI im0 im 0 n 50) : Cn l (XC G) yX1_lookAtChurch Y_X1_lookAtChurch [vR 9 0, vR 18 0, vR 16 0] (im, rs bt rt, lm) (pV fun m' => ∃ im' bt', bt' < 6 ∧ RI im' ∧ ag [5, 12, 16, 17] im' im ∧ (∀ i, i < 24 → im' 12 0 i = elsF im0 n 50 + byF im0 n i 50) ∧ m' = (im', rs bt' rt, lm)) := by
  refine cn_of (by decide) (okC G) rfl (Nat.le_of_ble_eq_true rfl) ?_
  intro M ad hMl F
  subst hMl
  have hh0g := hW.2.1
  refine wp_pad 3 ?_
  show Wp M (XC G) ad Y_X1_lookAtChurch (pV fun m' => ∃ im' bt', bt' < 6 ∧ RI im' ∧ ag [5, 12, 16, 17] im' im ∧ (∀ i, i < 24 → im' 12 0 i = elsF im0 n 50 + byF im0 n i 50) ∧ m' = (im', rs bt' rt, lm)) 0 [some (vR 9 0), some (vR 18 0), some (vR 16 0), none, none, none] [] (im, rs bt rt, lm)
  refine q_iconst (t := 1) F dX1_lookAtChurch_0 rfl ?_
  refine q_istore_n (t := 2) F dX1_lookAtChurch_1 rfl (by decide) rfl rfl ?_
  refine q_iconst (t := 3) F dX1_lookAtChurch_2 rfl ?_
  refine q_istore (t := 5) F dX1_lookAtChurch_3 (by decide) rfl rfl ?_
  have L5 : ∀ (fz : Nat) (i : Nat), 24 - i < fz → i ≤ 24 → Wp M (XC G) ad Y_X1_lookAtChurch (pV fun m' => ∃ im' bt', bt' < 6 ∧ RI im' ∧ ag [5, 12, 16, 17] im' im ∧ (∀ i, i < 24 → im' 12 0 i = elsF im0 n 50 + byF im0 n i 50) ∧ m' = (im', rs bt' rt, lm)) 5 [some (vR 9 0), some (vR 18 0), some (vR 16 0), some (vI 0), some (vI (i : Int)), none] [] (fl im 12 0 i 0, rs bt rt, lm) := by
    intro fz
    induction fz with
    | zero => intro i h; exact absurd h (Nat.not_lt_zero _)
    | succ fz ih =>
      have ih5 := ih
      intro i hmeas hi
      refine q_iload (t := 7) F dX1_lookAtChurch_5 rfl rfl ?_
      refine q_bipush (t := 9) F dX1_lookAtChurch_7 (by decide) rfl ?_
      refine q_icmp_ge (t := 12) (u := 26) F dX1_lookAtChurch_9 (by first | exact hR _ _ _ | (constructor <;> omega)) (by first | exact hR _ _ _ | (constructor <;> omega)) (by decide) rfl (fun c9 => ?_) (fun c9 => ?_)
      · refine q_iconst (t := 27) F dX1_lookAtChurch_26 rfl ?_
        refine q_istore (t := 29) F dX1_lookAtChurch_27 (by decide) rfl rfl ?_
        have L29 : ∀ (fz : Nat) (N : Nat) (im2 : IM) (bt2 : Nat), 50 - N < fz → N ≤ 50 → bt2 < 6 → RI im2 → ag [5, 12, 16, 17] im2 im → (∀ i, i < 24 → im2 12 0 i = byF im0 n i N) → Wp M (XC G) ad Y_X1_lookAtChurch (pV fun m' => ∃ im' bt', bt' < 6 ∧ RI im' ∧ ag [5, 12, 16, 17] im' im ∧ (∀ i, i < 24 → im' 12 0 i = elsF im0 n 50 + byF im0 n i 50) ∧ m' = (im', rs bt' rt, lm)) 29 [some (vR 9 0), some (vR 18 0), some (vR 16 0), some (vI (elsF im0 n N)), some (vI (N : Int)), none] [] (im2, rs bt2 rt, lm) := by
          intro fz
          induction fz with
          | zero => intro N im2 bt2 h; exact absurd h (Nat.not_lt_zero _)
          | succ fz ih =>
            have ih29 := ih
            intro N im2 bt2 hmeas hN hbt2 hR2 hagm hby
            have hag2 : ag [5, 9, 10, 11, 12, 16, 17] im2 im0 := (hagm.mono (by decide)).trans (hFI.1.mono (by decide))
            have hel := elsF_in hW n N
            have hwi0 := whenF_in im0 0 n N
            refine q_iload (t := 31) F dX1_lookAtChurch_29 rfl rfl ?_
            refine q_bipush (t := 33) F dX1_lookAtChurch_31 (by decide) rfl ?_
            refine q_icmp_ge (t := 36) (u := 128) F dX1_lookAtChurch_33 (by first | exact hR _ _ _ | (constructor <;> omega)) (by first | exact hR _ _ _ | (constructor <;> omega)) (by decide) rfl (fun c33 => ?_) (fun c33 => ?_)
            · refine q_iconst (t := 129) F dX1_lookAtChurch_128 rfl ?_
              refine q_istore (t := 131) F dX1_lookAtChurch_129 (by decide) rfl rfl ?_
              have L131 : ∀ (fz : Nat) (i : Nat) (im3 : IM), 24 - i < fz → i ≤ 24 → RI im3 → ag [5, 12, 16, 17] im3 im → (∀ j, j < 24 → im3 12 0 j = if j < i then elsF im0 n 50 + byF im0 n j 50 else byF im0 n j 50) → Wp M (XC G) ad Y_X1_lookAtChurch (pV fun m' => ∃ im' bt', bt' < 6 ∧ RI im' ∧ ag [5, 12, 16, 17] im' im ∧ (∀ i, i < 24 → im' 12 0 i = elsF im0 n 50 + byF im0 n i 50) ∧ m' = (im', rs bt' rt, lm)) 131 [some (vR 9 0), some (vR 18 0), some (vR 16 0), some (vI (elsF im0 n 50)), some (vI (i : Int)), none] [] (im3, rs bt2 rt, lm) := by
                intro fz
                induction fz with
                | zero => intro i im3 h; exact absurd h (Nat.not_lt_zero _)
                | succ fz ih =>
                  have ih131 := ih
                  intro i im3 hmeas hi hR3 hag3 hby3
                  have hbi := byF_in hW n i 50
                  have hel5 := elsF_in hW n 50
                  refine q_iload (t := 133) F dX1_lookAtChurch_131 rfl rfl ?_
                  refine q_bipush (t := 135) F dX1_lookAtChurch_133 (by decide) rfl ?_
                  refine q_icmp_ge (t := 138) (u := 155) F dX1_lookAtChurch_135 (by first | exact hR _ _ _ | (constructor <;> omega)) (by first | exact hR _ _ _ | (constructor <;> omega)) (by decide) rfl (fun c135 => ?_) (fun c135 => ?_)
                  · refine q_vret F dX1_lookAtChurch_155 rfl ?_
                    obtain rfl : i = 24 := by omega
                    exact ⟨rfl, im3, bt2, hbt2, hR3, hag3, fun j hj => by rw [hby3 j hj, if_pos hj], rfl⟩
                  · refine q_aload_n (t := 139) F dX1_lookAtChurch_138 rfl rfl rfl ?_
                    refine g_X1_18 (t := 142) F dX1_lookAtChurch_139 rfl rfl ?_
                    refine q_iload (t := 144) F dX1_lookAtChurch_142 rfl rfl ?_
                    refine q_dup2 (t := 145) F dX1_lookAtChurch_144 rfl ?_
                    first | refine ldN_12 (t := 146) F dX1_lookAtChurch_145 (by omega) rfl ?_ | refine ld_12 (t := 146) F dX1_lookAtChurch_145 (by omega) (by omega) rfl ?_
                    refine q_iload_n (t := 147) F dX1_lookAtChurch_146 rfl rfl rfl ?_
                    refine q_iadd (t := 148) F dX1_lookAtChurch_147 rfl ?_
                    first | refine stN_12 (t := 149) F dX1_lookAtChurch_148 (by omega) rfl ?_ | refine st_12 (t := 149) F dX1_lookAtChurch_148 (by omega) (by omega) rfl ?_
                    refine q_iinc (t := 152) F dX1_lookAtChurch_149 rfl (by decide) rfl rfl ?_
                    refine q_goto (t := 131) F dX1_lookAtChurch_152 (by decide) ?_
                    refine ih131 (i + 1) _ (by omega) (by omega) (RI_up hR3 (by rw [hby3 i (by omega), if_neg (by omega)]; constructor <;> omega)) (ag_up hag3 (by decide)) (fun j hj => ?_)
                    rw [up_app]
                    by_cases hji : j = i
                    · rw [if_pos ⟨rfl, rfl, hji⟩, hji, if_pos (by omega), hby3 i (by omega), if_neg (by omega), Int.add_comm]
                    · rw [if_neg (fun z => hji z.2.2), hby3 j hj]
                      by_cases hlt : j < i
                      · rw [if_pos hlt, if_pos (by omega)]
                      · rw [if_neg hlt, if_neg (by omega)]
              obtain rfl : N = 50 := by omega
              exact L131 _ 0 im2 (Nat.lt_succ_self _) (by omega) hR2 hagm (fun j hj => by rw [if_neg (by omega)]; exact hby j hj)
            · refine q_aload_n (t := 37) F dX1_lookAtChurch_36 rfl rfl rfl ?_
              refine g_X1_9 (t := 40) F dX1_lookAtChurch_37 rfl rfl ?_
              refine q_iload (t := 42) F dX1_lookAtChurch_40 rfl rfl ?_
              first | refine ldN_10 (t := 43) F dX1_lookAtChurch_42 (by omega) rfl ?_ | refine ld_10 (t := 43) F dX1_lookAtChurch_42 (by omega) (by omega) rfl ?_
              rw [show im2 10 0 N = whenF im0 0 n N from (hagm 10 (by decide) 0 N).trans (hFI.2.1 N (by omega)).1]
              refine q_iconst (t := 44) F dX1_lookAtChurch_43 rfl ?_
              refine q_icmp_ne (t := 47) (u := 50) F dX1_lookAtChurch_44 (by first | exact hR _ _ _ | (constructor <;> omega)) (by first | exact hR _ _ _ | (constructor <;> omega)) (by decide) rfl (fun c44 => ?_) (fun c44 => ?_)
              · refine q_aload_n (t := 51) F dX1_lookAtChurch_50 rfl rfl rfl ?_
                refine q_aload_n (t := 52) F dX1_lookAtChurch_51 rfl rfl rfl ?_
                refine q_iload (t := 54) F dX1_lookAtChurch_52 rfl rfl ?_
                refine q_bipush (t := 56) F dX1_lookAtChurch_54 (by decide) rfl ?_
                refine q_idiv (t := 57) F dX1_lookAtChurch_56 (by first | exact hR _ _ _ | (constructor <;> omega)) (by first | exact hR _ _ _ | (constructor <;> omega)) (by omega) (by omega) rfl ?_
                refine q_iload (t := 59) F dX1_lookAtChurch_57 rfl rfl ?_
                refine q_bipush (t := 61) F dX1_lookAtChurch_59 (by decide) rfl ?_
                refine q_irem (t := 62) F dX1_lookAtChurch_61 (by first | exact hR _ _ _ | (constructor <;> omega)) (by first | exact hR _ _ _ | (constructor <;> omega)) (by omega) (by omega) rfl ?_
                rw [show (N : Int) / 10 = ((N / 10 : Nat) : Int) by omega, show (N : Int) % 10 = ((N % 10 : Nat) : Int) by omega]
                have hok := whenF_ok c44
                have hWB := WI_ag hag2 (by decide) (by decide) (by decide) (by decide) (by decide) (by decide) hW
                have hmB : ((N / 10 : Nat) : Int) < im2 18 0 3 := by rw [hag2 18 (by decide)]; exact hok.1
                obtain ⟨r0, r1, hT, k0, k1, n0, n1, hga, hh0, hh1, hm5⟩ := cell_of hWB hmB
                have hwne : im2 22 (5 * 0 + N / 10) (N % 10) ≠ -1 := by rw [hag2 22 (by decide)]; exact hok.2
                have hbeB : ∀ x c, bearsW im2 0 (N / 10) (N % 10) x c = bearsW im0 0 (N / 10) (N % 10) x c := fun x c => bearsW_ag hag2 (by decide) (by decide) (by decide) (by decide) (by decide) (by decide) _ _ _ _ _
                have hwi := whenF_in im0 0 n N
                have hbb0 := b0F_in hW c44 0
                have hbb1 := b0F_in hW c44 1
                obtain ⟨wn, hwn⟩ : ∃ wn, wn = whenF im0 0 n N := ⟨_, rfl⟩
                have e4 : im2 18 0 4 = im0 18 0 4 := hag2 18 (by decide) 0 4
                refine wp_callV (t := 65) [_, _, _] F dX1_lookAtChurch_62 k_X0_look v_X0_look ml_X1_39 rfl rfl rfl rfl (Nat.le_of_ble_eq_true rfl) (by decide) (m_16 (by omega)) (c_X0_look _ G im2 bt2 rt lm 0 (N / 10) (N % 10) (by omega) hm5 (by omega) r0 r1) rfl (kV ?_)
                rintro m' rfl
                have hRl := RI_look (w := 0) (p := N / 10) (g := N % 10) hR2 (by omega)
                have hb4 : (im2 18 0 7).toNat < 6 := by omega
                refine q_aload_n (t := 66) F dX1_lookAtChurch_65 rfl rfl rfl ?_
                refine q_aload_n (t := 67) F dX1_lookAtChurch_66 rfl rfl rfl ?_
                refine g_X1_9 (t := 70) F dX1_lookAtChurch_67 rfl rfl ?_
                refine q_iload (t := 72) F dX1_lookAtChurch_70 rfl rfl ?_
                first | refine ldN_10 (t := 73) F dX1_lookAtChurch_72 (by omega) rfl ?_ | refine ld_10 (t := 73) F dX1_lookAtChurch_72 (by omega) (by omega) rfl ?_
                try simp only [up_app, row_app, scr_app, cpy_app, Nat.reduceEqDiff, Int.reduceToNat, Int.toNat_natCast, and_true, true_and, and_false, false_and, and_self, reduceIte]
                rw [show lookM im2 0 (N / 10) (N % 10) 10 0 N = wn from by rw [hwn]; exact (hagm 10 (by decide) 0 N).trans (hFI.2.1 N (by omega)).1]
                refine q_iconst (t := 74) F dX1_lookAtChurch_73 rfl ?_
                refine wp_callV (t := 77) [_, _] F dX1_lookAtChurch_74 k_X0_bears v_X0_bears ml_X1_53 rfl rfl rfl rfl (Nat.le_of_ble_eq_true rfl) (by decide) (m_16 (by omega)) (c_X0_bears _ G (lookM im2 0 (N / 10) (N % 10)) (im2 18 0 7).toNat rt lm wn 0 (by omega) (by omega) (by omega) (by omega) hb4 hRl (goodT_congr (fun s => rfl) (fun s => rfl) hT) k0 k1 n0 n1 (hga _ (by omega) hwne) hh0 hh1) rfl (kI ?_)
                rintro x m' ⟨hx, xa, xb, xg, hxa, hxb, hxg, rfl⟩
                rw [look_bears, hbeB] at hx
                have hxe : x = b0F im0 n N 0 := by rw [hx, hwn]; rfl
                rw [hxe]
                have hR5 := RI_scr hRl hxa hxb hxg
                have hel2 := elsF_in hW n N
                refine q_istore (t := 79) F dX1_lookAtChurch_77 (by decide) rfl rfl ?_
                refine q_iload_n (t := 80) F dX1_lookAtChurch_79 rfl rfl rfl ?_
                refine q_iload (t := 82) F dX1_lookAtChurch_80 rfl rfl ?_
                refine q_iadd (t := 83) F dX1_lookAtChurch_82 rfl ?_
                refine q_istore_n (t := 84) F dX1_lookAtChurch_83 rfl (by decide) rfl rfl ?_
                refine q_aload_n (t := 85) F dX1_lookAtChurch_84 rfl rfl rfl ?_
                refine g_X1_18 (t := 88) F dX1_lookAtChurch_85 rfl rfl ?_
                refine q_aload_n (t := 89) F dX1_lookAtChurch_88 rfl rfl rfl ?_
                refine g_X1_61 (t := 92) F dX1_lookAtChurch_89 rfl (by omega) rfl ?_
                try simp only [up_app, row_app, scr_app, cpy_app, Nat.reduceEqDiff, Int.reduceToNat, Int.toNat_natCast, and_true, true_and, and_false, false_and, and_self, reduceIte]
                refine q_aload_n (t := 93) F dX1_lookAtChurch_92 rfl rfl rfl ?_
                refine g_X1_9 (t := 96) F dX1_lookAtChurch_93 rfl rfl ?_
                refine q_iload (t := 98) F dX1_lookAtChurch_96 rfl rfl ?_
                first | refine ldN_10 (t := 99) F dX1_lookAtChurch_98 (by omega) rfl ?_ | refine ld_10 (t := 99) F dX1_lookAtChurch_98 (by omega) (by omega) rfl ?_
                try simp only [up_app, row_app, scr_app, cpy_app, Nat.reduceEqDiff, Int.reduceToNat, Int.toNat_natCast, and_true, true_and, and_false, false_and, and_self, reduceIte]
                rw [show lookM im2 0 (N / 10) (N % 10) 10 0 N = wn from by rw [hwn]; exact (hagm 10 (by decide) 0 N).trans (hFI.2.1 N (by omega)).1, show lookM im2 0 (N / 10) (N % 10) 18 0 4 = im0 18 0 4 from e4]
                refine q_iadd (t := 100) F dX1_lookAtChurch_99 rfl ?_
                refine q_bipush (t := 102) F dX1_lookAtChurch_100 (by decide) rfl ?_
                refine q_irem (t := 103) F dX1_lookAtChurch_102 (by first | exact hR _ _ _ | (constructor <;> omega)) (by first | exact hR _ _ _ | (constructor <;> omega)) (by omega) (by omega) rfl ?_
                refine q_dup2 (t := 104) F dX1_lookAtChurch_103 rfl ?_
                refine ld_12 (t := 105) F dX1_lookAtChurch_104 (by omega) (by omega) rfl ?_
                try simp only [up_app, row_app, scr_app, cpy_app, Nat.reduceEqDiff, Int.reduceToNat, Int.toNat_natCast, and_true, true_and, and_false, false_and, and_self, reduceIte]
                refine q_aload_n (t := 106) F dX1_lookAtChurch_105 rfl rfl rfl ?_
                refine q_aload_n (t := 107) F dX1_lookAtChurch_106 rfl rfl rfl ?_
                refine g_X1_9 (t := 110) F dX1_lookAtChurch_107 rfl rfl ?_
                refine q_iload (t := 112) F dX1_lookAtChurch_110 rfl rfl ?_
                first | refine ldN_10 (t := 113) F dX1_lookAtChurch_112 (by omega) rfl ?_ | refine ld_10 (t := 113) F dX1_lookAtChurch_112 (by omega) (by omega) rfl ?_
                try simp only [up_app, row_app, scr_app, cpy_app, Nat.reduceEqDiff, Int.reduceToNat, Int.toNat_natCast, and_true, true_and, and_false, false_and, and_self, reduceIte]
                rw [show lookM im2 0 (N / 10) (N % 10) 10 0 N = wn from by rw [hwn]; exact (hagm 10 (by decide) 0 N).trans (hFI.2.1 N (by omega)).1]
                refine q_iconst (t := 114) F dX1_lookAtChurch_113 rfl ?_
                refine wp_callV (t := 117) [_, _] F dX1_lookAtChurch_114 k_X0_bears v_X0_bears ml_X1_53 rfl rfl rfl rfl (Nat.le_of_ble_eq_true rfl) (by decide) (m_16 (by omega)) (c_X0_bears _ G (scr (lookM im2 0 (N / 10) (N % 10)) xa xb xg) (im2 18 0 7).toNat rt lm wn 1 (by omega) (by omega) (by omega) (by omega) hb4 hR5 (goodT_scr (goodT_congr (fun s => rfl) (fun s => rfl) hT)) k0 k1 n0 n1 (hga _ (by omega) hwne) hh0 hh1) rfl (kI ?_)
                rintro y m' ⟨hy, ya, yb, yg, hya, hyb, hyg, rfl⟩
                rw [bearsB_scr, look_bears, hbeB] at hy
                have hye : y = b0F im0 n N 1 := by rw [hy, hwn]; rfl
                rw [hye, scr_scr]
                have hR6 := RI_scr hRl hya hyb hyg
                have hag6 : ag [5, 12, 16, 17] (scr (lookM im2 0 (N / 10) (N % 10)) ya yb yg) im := ((scr_ag _ _ _ _).mono (by decide)).trans (((look_ag im2 0 _ _).mono (by decide)).trans hagm)
                have hag6b : ∀ s, scr (lookM im2 0 (N / 10) (N % 10)) ya yb yg 12 0 s = im2 12 0 s := fun s => rfl
                have hbyw := byF_in hW n ((im0 18 0 4 + wn) % 24).toNat N
                have hbyv := hby ((im0 18 0 4 + wn) % 24).toNat (by omega)
                rw [show lookM im2 0 (N / 10) (N % 10) 12 0 ((im0 18 0 4 + wn) % 24).toNat = im2 12 0 ((im0 18 0 4 + wn) % 24).toNat from rfl]
                refine q_iload (t := 119) F dX1_lookAtChurch_117 rfl rfl ?_
                refine q_isub (t := 120) F dX1_lookAtChurch_119 rfl ?_
                refine q_iadd (t := 121) F dX1_lookAtChurch_120 rfl ?_
                refine st_12 (t := 122) F dX1_lookAtChurch_121 (by omega) (by omega) rfl ?_
                refine q_iinc (t := 125) F dX1_lookAtChurch_122 rfl (by decide) rfl rfl ?_
                refine q_goto (t := 29) F dX1_lookAtChurch_125 (by decide) ?_
                refine wp_less 5 ?_
                first
                  | (rw [show elsF im0 n N = elsF im0 n (N + 1) from by rw [elsF_s, if_pos c44]]
                     refine ih29 (N + 1) im2 bt2 (by omega) (by omega) hbt2 hR2 hagm (fun i hi => ?_)
                     rw [hby i hi, byF_s, if_neg (fun z => z.1 c44)])
                  | (rw [show elsF im0 n N + b0F im0 n N 0 = elsF im0 n (N + 1) from by rw [elsF_s, if_neg c44]]
                     refine ih29 (N + 1) _ _ (by omega) (by omega) hb4 (RI_up hR6 (by constructor <;> omega)) (ag_up hag6 (by decide)) (fun i hi => ?_)
                     rw [up_app, byF_s]
                     by_cases hii : i = ((im0 18 0 4 + wn) % 24).toNat
                     · rw [if_pos ⟨rfl, rfl, hii⟩, if_pos ⟨c44, by rw [← hwn]; omega⟩, hby _ (by omega), hii]
                     · rw [if_neg (fun z => hii z.2.2), if_neg (by rw [← hwn]; omega), hag6b i, hby i hi])
              · refine q_goto (t := 122) F dX1_lookAtChurch_47 (by decide) ?_
                refine q_iinc (t := 125) F dX1_lookAtChurch_122 rfl (by decide) rfl rfl ?_
                refine q_goto (t := 29) F dX1_lookAtChurch_125 (by decide) ?_
                refine wp_less 5 ?_
                first
                  | (rw [show elsF im0 n N = elsF im0 n (N + 1) from by rw [elsF_s, if_pos c44]]
                     refine ih29 (N + 1) im2 bt2 (by omega) (by omega) hbt2 hR2 hagm (fun i hi => ?_)
                     rw [hby i hi, byF_s, if_neg (fun z => z.1 c44)])
                  | (rw [show elsF im0 n N + b0F im0 n N 0 = elsF im0 n (N + 1) from by rw [elsF_s, if_neg c44]]
                     refine ih29 (N + 1) _ _ (by omega) (by omega) hb4 (RI_up hR6 (by constructor <;> omega)) (ag_up hag6 (by decide)) (fun i hi => ?_)
                     rw [up_app, byF_s]
                     by_cases hii : i = ((im0 18 0 4 + wn) % 24).toNat
                     · rw [if_pos ⟨rfl, rfl, hii⟩, if_pos ⟨c44, by rw [← hwn]; omega⟩, hby _ (by omega), hii]
                     · rw [if_neg (fun z => hii z.2.2), if_neg (by rw [← hwn]; omega), hag6b i, hby i hi])
        obtain rfl : i = 24 := by omega
        refine L29 _ 0 _ bt (Nat.lt_succ_self _) (by omega) hbt (RI_fl hR (by constructor <;> omega)) ?_ (fun j hj => by rw [fl_app, if_pos ⟨rfl, rfl, hj⟩]; rfl)
        intro k hk i s
        rw [fl_app, if_neg (fun z => hk (by rw [z.1]; decide))]
      · refine q_aload_n (t := 13) F dX1_lookAtChurch_12 rfl rfl rfl ?_
        refine g_X1_18 (t := 16) F dX1_lookAtChurch_13 rfl rfl ?_
        refine q_iload (t := 18) F dX1_lookAtChurch_16 rfl rfl ?_
        refine q_iconst (t := 19) F dX1_lookAtChurch_18 rfl ?_
        first | refine stN_12 (t := 20) F dX1_lookAtChurch_19 (by omega) rfl ?_ | refine st_12 (t := 20) F dX1_lookAtChurch_19 (by omega) (by omega) rfl ?_
        refine q_iinc (t := 23) F dX1_lookAtChurch_20 rfl (by decide) rfl rfl ?_
        refine q_goto (t := 5) F dX1_lookAtChurch_23 (by decide) ?_
        rw [fl_s]
        exact ih5 (i + 1) (by omega) (by omega)
  have h := L5 _ 0 (Nat.lt_succ_self _) (by omega)
  rw [fl_0] at h
  exact h

/-- the first least -/
def lst (f : Nat → Int) : Nat → Nat
  | 0 => 0
  | i + 1 => if f i < f (lst f i) then i else lst f i
theorem lst_s (f : Nat → Int) (i : Nat) : lst f (i + 1) = if f i < f (lst f i) then i else lst f i := rfl
theorem lst_in (f : Nat → Int) (i : Nat) (h : 0 < i) : lst f i < i := by
  induction i with
  | zero => omega
  | succ i ih =>
    rw [lst_s]
    split
    · omega
    · by_cases hi : i = 0
      · subst hi; show (0 : Nat) < 1; omega
      · have := ih (by omega); omega
theorem lst_congr {f g : Nat → Int} (n : Nat) (h : ∀ k, k < n → f k = g k) : lst f n = lst g n := by
  induction n with
  | zero => rfl
  | succ n ih =>
    by_cases hn : n = 0
    · subst hn; rw [lst_s, lst_s]; rw [ih (fun k hk => h k (by omega)), h 0 (by omega)]
      by_cases h0 : lst g 0 = 0
      · rw [h0, h 0 (by omega)]
      · exact absurd rfl h0
    · have := lst_in g n (by omega)
      rw [lst_s, lst_s, ih (fun k hk => h k (by omega)), h n (by omega), h _ (by omega)]
def chF (im : IM) (n i : Nat) : Int := elsF im n 50 + byF im n i 50
def churchA (im : IM) (n what : Int) : Int := if (0 ≤ n ∧ n ≤ 60) ∧ 0 ≤ what ∧ what < 2 then (if what = 0 then ((lst (chF im n.toNat) 24 : Nat) : Int) else chF im n.toNat (lst (chF im n.toNat) 24)) else -2

set_option maxHeartbeats 4000000 in
theorem c_X8_church (l : Launch) (G : GS) (im : IM) (bt rt : Nat) (lm : IM) (hbt : bt < 6) (hrt : rt < 6) (hS : SC im) (n : Int) (what : Int) (hn : ri n) (hwhat : ri what) : Cn l (XC G) yX8_church Y_X8_church [vR 0 0, vI n, vI what] (im, rs bt rt, lm) (pI fun x m' => x = churchA im n what ∧ stC lm im m') := by
  refine cn_of (by decide) (okC G) rfl (Nat.le_of_ble_eq_true rfl) ?_
  intro M ad hMl F
  subst hMl
  obtain ⟨hR, hW, hh, htc, hru, hgt, hz, hrd, hsh, him, htp⟩ := hS
  have w1 := hW.1
  have w2 := hW.2.1
  have w3 := hW.2.2.1
  have w4 := hW.2.2.2.1
  have w5 := hW.2.2.2.2.1
  have hn1 := hn.1
  have hn2 := hn.2
  have hwhat1 := hwhat.1
  have hwhat2 := hwhat.2
  refine wp_pad 2 ?_
  show Wp M (XC G) ad Y_X8_church (pI fun x m' => x = churchA im n what ∧ stC lm im m') 0 [some (vR 0 0), some (vI n), some (vI what), none, none] [] (im, rs bt rt, lm)
  refine q_iload_n (t := 1) F dX8_church_0 rfl rfl rfl ?_
  refine wp_callS (t := 4) [_] F dX8_church_1 k_X8_isSpan st_X8_isSpan ml_X8_163 rfl rfl (Nat.le_of_ble_eq_true rfl) (by decide) (c_X8_isSpan _ G _ bt rt lm n hn) rfl (kI ?_)
  rintro x1 m' ⟨hx1, rfl⟩
  have hx1 := if01 hx1
  refine q_if_eq (t := 7) (u := 15) F dX8_church_4 (by first | exact hR _ _ _ | (constructor <;> omega)) (by decide) rfl (fun c4 => ?_) (fun c4 => ?_)
  · refine q_bipush (t := 17) F dX8_church_15 (by decide) rfl ?_
    refine q_iret F dX8_church_17 rfl ?_
    refine ⟨_, rfl, ?_, _, bt, rt, hbt, hrt, (by repeat' first | exact hR | refine RI_up ?_ ?_ | assumption | exact hR _ _ _ | (constructor <;> omega)), ?_, rfl⟩
    · unfold churchA
      (repeat' split) <;> omega
    · exact agP_rfl _
  · refine q_iload_n (t := 8) F dX8_church_7 rfl rfl rfl ?_
    refine q_iconst (t := 9) F dX8_church_8 rfl ?_
    refine wp_callS (t := 12) [_, _] F dX8_church_9 k_X8_within st_X8_within ml_X8_95 rfl rfl (Nat.le_of_ble_eq_true rfl) (by decide) (c_X8_within _ G _ bt rt lm what 2 hwhat (by constructor <;> omega)) rfl (kI ?_)
    rintro x9 m' ⟨hx9, rfl⟩
    have hx9 := if01 hx9
    refine q_if_ne (t := 15) (u := 18) F dX8_church_12 (by first | exact hR _ _ _ | (constructor <;> omega)) (by decide) rfl (fun c12 => ?_) (fun c12 => ?_)
    · obtain ⟨n, rfl⟩ : ∃ k : Nat, n = (k : Int) := ⟨n.toNat, by omega⟩
      refine q_aload_n (t := 19) F dX8_church_18 rfl rfl rfl ?_
      refine g_X8_24 (t := 22) F dX8_church_19 rfl rfl ?_
      refine q_aload_n (t := 23) F dX8_church_22 rfl rfl rfl ?_
      refine g_X8_51 (t := 26) F dX8_church_23 rfl rfl ?_
      refine q_aload_n (t := 27) F dX8_church_26 rfl rfl rfl ?_
      refine g_X8_42 (t := 30) F dX8_church_27 rfl rfl ?_
      refine q_iload_n (t := 31) F dX8_church_30 rfl rfl rfl ?_
      refine wp_callV (t := 34) [_, _, _] F dX8_church_31 k_X1_look v_X1_look ml_X8_166 rfl rfl rfl rfl (Nat.le_of_ble_eq_true rfl) (by decide) (m_9 (by omega)) (c_X1_look _ G im bt rt lm 0 (by omega) hbt hR hW n (by omega)) rfl (kV ?_)
      rintro m' ⟨imF, btF, hbtF, hRF, hFI, rfl⟩
      refine q_aload_n (t := 35) F dX8_church_34 rfl rfl rfl ?_
      refine g_X8_24 (t := 38) F dX8_church_35 rfl rfl ?_
      refine q_aload_n (t := 39) F dX8_church_38 rfl rfl rfl ?_
      refine g_X8_51 (t := 42) F dX8_church_39 rfl rfl ?_
      refine q_aload_n (t := 43) F dX8_church_42 rfl rfl rfl ?_
      refine g_X8_42 (t := 46) F dX8_church_43 rfl rfl ?_
      refine wp_callV (t := 49) [_, _] F dX8_church_46 k_X1_lookAtChurch v_X1_lookAtChurch ml_X8_211 rfl rfl rfl rfl (Nat.le_of_ble_eq_true rfl) (by decide) (m_9 (by omega)) (c_X1_lookAtChurch _ G imF im btF rt lm hbtF hRF hW n (by omega) hFI) rfl (kV ?_)
      rintro m' ⟨im2, bt2, hbt2, hR2, hag2, hby, rfl⟩
      refine q_iconst (t := 50) F dX8_church_49 rfl ?_
      refine q_istore_n (t := 51) F dX8_church_50 rfl (by decide) rfl rfl ?_
      refine q_iconst (t := 52) F dX8_church_51 rfl ?_
      refine q_istore (t := 54) F dX8_church_52 (by decide) rfl rfl ?_
      have L54 : ∀ (fz : Nat) (i : Nat), 24 - i < fz → 1 ≤ i → i ≤ 24 → Wp M (XC G) ad Y_X8_church (pI fun x m' => x = churchA im n what ∧ stC lm im m') 54 [some (vR 0 0), some (vI (n : Int)), some (vI what), some (vI ((lst (im2 12 0) i : Nat) : Int)), some (vI (i : Int))] [] (im2, rs bt2 rt, lm) := by
        intro fz
        induction fz with
        | zero => intro i h; exact absurd h (Nat.not_lt_zero _)
        | succ fz ih =>
          have ih54 := ih
          intro i hmeas hi1 hi
          have hli := lst_in (im2 12 0) i (by omega)
          refine q_iload (t := 56) F dX8_church_54 rfl rfl ?_
          refine q_bipush (t := 58) F dX8_church_56 (by decide) rfl ?_
          refine q_icmp_ge (t := 61) (u := 92) F dX8_church_58 (by first | exact hR _ _ _ | (constructor <;> omega)) (by first | exact hR _ _ _ | (constructor <;> omega)) (by decide) rfl (fun c58 => ?_) (fun c58 => ?_)
          · refine q_iload_n (t := 93) F dX8_church_92 rfl rfl rfl ?_
            refine q_if_ne (t := 96) (u := 100) F dX8_church_93 (by first | exact hR _ _ _ | (constructor <;> omega)) (by decide) rfl (fun c93 => ?_) (fun c93 => ?_)
            · refine q_aload_n (t := 101) F dX8_church_100 rfl rfl rfl ?_
              refine g_X8_24 (t := 104) F dX8_church_101 rfl rfl ?_
              refine g_X8_215 (t := 107) F dX8_church_104 rfl rfl ?_
              refine q_iload_n (t := 108) F dX8_church_107 rfl rfl rfl ?_
              first | refine ldN_12 (t := 109) F dX8_church_108 (by omega) rfl ?_ | refine ld_12 (t := 109) F dX8_church_108 (by omega) (by omega) rfl ?_
              try simp only [up_app, row_app, scr_app, cpy_app, Nat.reduceEqDiff, Int.reduceToNat, Int.toNat_natCast, and_true, true_and, and_false, false_and, and_self, reduceIte]
              refine q_iret F dX8_church_109 rfl ?_
              obtain rfl : i = 24 := by omega
              refine ⟨_, rfl, ?_, im2, bt2, rt, hbt2, hrt, hR2, agP_of ((hag2.mono (by decide)).trans (hFI.1.mono (by decide))), rfl⟩
              unfold churchA
              simp only [Int.toNat_natCast]
              have hlc : lst (im2 12 0) 24 = lst (chF im n) 24 := lst_congr 24 (fun k hk => hby k hk)
              have hli2 := lst_in (chF im n) 24 (by omega)
              first
                | (rw [if_pos (by omega), if_pos (by omega), hlc])
                | (rw [if_pos (by omega), if_neg (by omega), hlc, hby _ hli2]; rfl)
            · refine q_iload_n (t := 97) F dX8_church_96 rfl rfl rfl ?_
              refine q_goto (t := 109) F dX8_church_97 (by decide) ?_
              refine q_iret F dX8_church_109 rfl ?_
              obtain rfl : i = 24 := by omega
              refine ⟨_, rfl, ?_, im2, bt2, rt, hbt2, hrt, hR2, agP_of ((hag2.mono (by decide)).trans (hFI.1.mono (by decide))), rfl⟩
              unfold churchA
              simp only [Int.toNat_natCast]
              have hlc : lst (im2 12 0) 24 = lst (chF im n) 24 := lst_congr 24 (fun k hk => hby k hk)
              have hli2 := lst_in (chF im n) 24 (by omega)
              first
                | (rw [if_pos (by omega), if_pos (by omega), hlc])
                | (rw [if_pos (by omega), if_neg (by omega), hlc, hby _ hli2]; rfl)
          · refine q_aload_n (t := 62) F dX8_church_61 rfl rfl rfl ?_
            refine g_X8_24 (t := 65) F dX8_church_62 rfl rfl ?_
            refine g_X8_215 (t := 68) F dX8_church_65 rfl rfl ?_
            refine q_iload (t := 70) F dX8_church_68 rfl rfl ?_
            first | refine ldN_12 (t := 71) F dX8_church_70 (by omega) rfl ?_ | refine ld_12 (t := 71) F dX8_church_70 (by omega) (by omega) rfl ?_
            try simp only [up_app, row_app, scr_app, cpy_app, Nat.reduceEqDiff, Int.reduceToNat, Int.toNat_natCast, and_true, true_and, and_false, false_and, and_self, reduceIte]
            refine q_aload_n (t := 72) F dX8_church_71 rfl rfl rfl ?_
            refine g_X8_24 (t := 75) F dX8_church_72 rfl rfl ?_
            refine g_X8_215 (t := 78) F dX8_church_75 rfl rfl ?_
            refine q_iload_n (t := 79) F dX8_church_78 rfl rfl rfl ?_
            first | refine ldN_12 (t := 80) F dX8_church_79 (by omega) rfl ?_ | refine ld_12 (t := 80) F dX8_church_79 (by omega) (by omega) rfl ?_
            try simp only [up_app, row_app, scr_app, cpy_app, Nat.reduceEqDiff, Int.reduceToNat, Int.toNat_natCast, and_true, true_and, and_false, false_and, and_self, reduceIte]
            refine q_icmp_ge (t := 83) (u := 86) F dX8_church_80 (by exact hR2 _ _ _) (by exact hR2 _ _ _) (by decide) rfl (fun c80 => ?_) (fun c80 => ?_)
            · refine q_iinc (t := 89) F dX8_church_86 rfl (by decide) rfl rfl ?_
              refine q_goto (t := 54) F dX8_church_89 (by decide) ?_
              first
                | (have e9 : lst (im2 12 0) (i + 1) = i := by rw [lst_s, if_pos c80]
                   have h := ih54 (i + 1) (by omega) (by omega) (by omega)
                   rw [e9] at h
                   exact h)
                | (have e9 : lst (im2 12 0) (i + 1) = lst (im2 12 0) i := by rw [lst_s, if_neg (by omega)]
                   have h := ih54 (i + 1) (by omega) (by omega) (by omega)
                   rw [e9] at h
                   exact h)
            · refine q_iload (t := 85) F dX8_church_83 rfl rfl ?_
              refine q_istore_n (t := 86) F dX8_church_85 rfl (by decide) rfl rfl ?_
              refine q_iinc (t := 89) F dX8_church_86 rfl (by decide) rfl rfl ?_
              refine q_goto (t := 54) F dX8_church_89 (by decide) ?_
              first
                | (have e9 : lst (im2 12 0) (i + 1) = i := by rw [lst_s, if_pos c80]
                   have h := ih54 (i + 1) (by omega) (by omega) (by omega)
                   rw [e9] at h
                   exact h)
                | (have e9 : lst (im2 12 0) (i + 1) = lst (im2 12 0) i := by rw [lst_s, if_neg (by omega)]
                   have h := ih54 (i + 1) (by omega) (by omega) (by omega)
                   rw [e9] at h
                   exact h)
      have e1 : lst (im2 12 0) 1 = 0 := by (rw [lst_s]; split <;> rfl)
      have h := L54 _ 1 (Nat.lt_succ_self _) (by omega) (by omega)
      rw [e1] at h
      exact h
    · refine q_bipush (t := 17) F dX8_church_15 (by decide) rfl ?_
      refine q_iret F dX8_church_17 rfl ?_
      refine ⟨_, rfl, ?_, _, bt, rt, hbt, hrt, (by repeat' first | exact hR | refine RI_up ?_ ?_ | assumption | exact hR _ _ _ | (constructor <;> omega)), ?_, rfl⟩
      · unfold churchA
        (repeat' split) <;> omega
      · exact agP_rfl _
end
section
/-! what a world's deeds keep -/
abbrev lS : List Nat := [5, 16, 17, 20]
theorem uttW_ag {a b : IM} (h : ag lS a b) (w man : Nat) (word food : Int) : uttW a w man word food = uttW b w man word food := by
  unfold uttW
  rw [takesW_ag h (by decide) (by decide) (by decide) (by decide) (by decide), h 22 (by decide)]
theorem uttM_ag {a b : IM} (h : ag lS a b) (w man : Nat) (word food : Int) : ag lS (uttM a w man word food) (uttM b w man word food) := by
  unfold uttM
  rw [uttW_ag h]
  split
  · exact h
  · exact ag_upup (ag_upup h)
theorem hnd_ag {a b : IM} (h : ag lS a b) (p q n : Nat) : ag lS (hnd a p q n) (hnd b p q n) := by
  intro k hk i s
  rw [hnd_app, hnd_app]
  simp only [h 22 (by decide), h k hk]
theorem shP_ag {a b : IM} (h : ag lS a b) (w N : Nat) : shP a w N = shP b w N := by
  induction N with
  | zero => exact h 18 (by decide) w 6
  | succ N ih =>
    show (if goesW a w (N / 10) (N % 10) 1 = -1 then shP a w N else bm (shP a w N + badP a w N)) = (if goesW b w (N / 10) (N % 10) 1 = -1 then shP b w N else bm (shP b w N + badP b w N))
    unfold badP
    rw [ih, goesW_ag h (by decide) (by decide) (by decide) (by decide) (by decide) (by decide), bearsW_ag h (by decide) (by decide) (by decide) (by decide) (by decide) (by decide), h 18 (by decide), h 18 (by decide)]
theorem pasM_ag {a b : IM} (h : ag lS a b) (w N : Nat) : ag lS (pasM a w N) (pasM b w N) := by
  intro k hk i s
  rw [pasM_app, pasM_app, shP_ag h, goesW_ag h (by decide) (by decide) (by decide) (by decide) (by decide) (by decide), h k hk, h 23 (by decide)]
theorem WI_cells {a b : IM} {w : Nat} (hW : WI b w) (h18 : ∀ s, s = 3 ∨ s = 5 ∨ s = 7 → a 18 w s = b 18 w s) (hh : 0 ≤ a 18 w 4 ∧ a 18 w 4 ≤ 1100) (h21 : ∀ p s, p < 5 → a 21 (5 * w + p) s = b 21 (5 * w + p) s) (t3 : ∀ j s, a 3 j s = b 3 j s) (t4 : ∀ j s, a 4 j s = b 4 j s) (hc : ∀ p g : Nat, p < 5 → (p : Int) < b 18 w 3 → g < 10 → -1 ≤ a 22 (5 * w + p) g ∧ a 22 (5 * w + p) g < 16 ∧ (a 22 (5 * w + p) g ≠ -1 → 0 ≤ a 23 (5 * w + p) g ∧ a 23 (5 * w + p) g ≤ 1100)) : WI a w := by
  have w1 := hW.1
  refine ⟨by rw [h18 3 (by omega)]; exact hW.1, hh, by rw [h18 5 (by omega)]; exact hW.2.2.1, by rw [h18 7 (by omega)]; exact hW.2.2.2.1, ?_, fun p hp => ?_⟩
  · rw [h18 7 (by omega)]
    exact goodT_congr (fun s => t3 _ s) (fun s => t4 _ s) hW.2.2.2.2.1
  · rw [h18 3 (by omega)] at hp
    have hq := hW.2.2.2.2.2 p hp
    refine ⟨by rw [h21 p 0 (by omega)]; exact hq.1, by rw [h21 p 1 (by omega)]; exact hq.2.1, fun g hg => hc p g (by omega) hp hg⟩
theorem utt_WI {im : IM} {w man : Nat} {word food : Int} (hW : WI im w) (hwo : 0 ≤ word ∧ word < 16) : WI (uttM im w man word food) w := by
  unfold uttM
  split
  · exact hW
  · refine WI_cells hW (fun s _ => rfl) hW.2.1 (fun p s _ => rfl) (fun j s => rfl) (fun j s => rfl) (fun p g h5 hp hg => ?_)
    have hb := (hW.2.2.2.2.2 p hp).2.2 g hg
    simp only [up_app]
    (repeat' split) <;> omega
theorem flo_WI {im : IM} {w man gap : Nat} (hW : WI im w) : WI (up im 22 (5 * w + man) gap (-1)) w := by
  refine WI_cells hW (fun s _ => rfl) hW.2.1 (fun p s _ => rfl) (fun j s => rfl) (fun j s => rfl) (fun p g h5 hp hg => ?_)
  have hb := (hW.2.2.2.2.2 p hp).2.2 g hg
  simp only [up_app]
  (repeat' split) <;> omega
theorem hnd_k (im : IM) (p q n : Nat) {k : Nat} (h : k ≠ 22) (h2 : k ≠ 23) (i s : Nat) : hnd im p q n k i s = im k i s := by
  rw [hnd_app]
  (repeat' split) <;> first | rfl | omega
theorem hnd_WI {im : IM} {w a b : Nat} (hW : WI im w) (ha : (a : Int) < im 18 w 3) : WI (hnd im (5 * w + a) (5 * w + b) 10) w := by
  refine WI_cells hW (fun s _ => hnd_k _ _ _ _ (by decide) (by decide) _ _) (by rw [hnd_k _ _ _ _ (by decide) (by decide)]; exact hW.2.1) (fun p s _ => hnd_k _ _ _ _ (by decide) (by decide) _ _) (fun j s => hnd_k _ _ _ _ (by decide) (by decide) _ _) (fun j s => hnd_k _ _ _ _ (by decide) (by decide) _ _) (fun p g h5 hp hg => ?_)
  have hb := (hW.2.2.2.2.2 p hp).2.2 g hg
  have ha2 := (hW.2.2.2.2.2 a ha).2.2 g hg
  rw [hnd_app, hnd_app]
  (repeat' split) <;> omega
theorem goes1 {im : IM} {w man gap : Nat} (n0 : 0 ≤ im 21 (5 * w + man) 1) (n1 : im 21 (5 * w + man) 1 < 10) (h : goesW im w man gap 1 = -1) : im 22 (5 * w + man) gap = -1 ∨ im 23 (5 * w + man) gap + 1 < 108 := by
  unfold goesW goK at h
  split at h
  · left; assumption
  · right
    rw [findF_s] at h
    split at h
    · exact absurd h (by decide)
    · rename_i h2
      unfold offK hoK at h2
      have := (holdsK_in (k := im 21 (5 * w + man) 0) n0 n1 (tellV_in im (im 18 w 7).toNat 1 (nmP (im 22 (5 * w + man) gap) (im 18 w 4 + ((0 : Nat) : Int)) (im 21 (5 * w + man) 1) gap (im 23 (5 * w + man) gap + ((0 : Nat) : Int) + 1))).1 (tellV_in _ _ _ _).2).2
      rw [decide_eq_true_eq] at h2
      omega
theorem pas_WI {im : IM} {w N : Nat} (hW : WI im w) (hh : im 18 w 4 < 1100) : WI (up (pasM im w N) 18 w 4 (im 18 w 4 + 1)) w := by
  have w2 := hW.2.1
  refine WI_cells hW (fun s hs => ?_) ?_ (fun p s _ => ?_) (fun j s => ?_) (fun j s => ?_) (fun p g h5 hp hg => ?_)
  · rw [up_app, if_neg (by omega), pasM_18 _ _ _ (by omega)]
  · rw [up_app, if_pos ⟨rfl, rfl, rfl⟩]; omega
  · rw [up_app, if_neg (by omega), pasM_k _ _ _ (by decide) (by decide) (by decide)]
  · rw [up_app, if_neg (by omega), pasM_k _ _ _ (by decide) (by decide) (by decide)]
  · rw [up_app, if_neg (by omega), pasM_k _ _ _ (by decide) (by decide) (by decide)]
  · have hq := hW.2.2.2.2.2 p hp
    have hb := hq.2.2 g hg
    have h1 := goes1 (gap := g) hq.2.1.1 hq.2.1.2
    rw [up_app, if_neg (by omega), up_app, if_neg (by omega), pasM_app, pasM_app, show 5 * w + p - 5 * w = p by omega]
    by_cases hg1 : goesW im w p g 1 = -1
    · simp only [if_pos hg1]
      have h2 := h1 hg1
      have hbm : im 22 (5 * w + p) g ≠ -1 → bm (im 23 (5 * w + p) g + 1) = im 23 (5 * w + p) g + 1 := by
        intro hne
        unfold bm
        have := hb.2.2 hne
        rw [Int.bmod_eq_emod]
        split <;> omega
      (repeat' split) <;> first | omega | (refine ⟨hb.1, hb.2.1, fun hne => ?_⟩; rw [hbm hne]; have := hb.2.2 hne; omega)
    · simp only [if_neg hg1]
      (repeat' split) <;> omega
theorem bec_18 {im : IM} {w v n s : Nat} (h : 3 ≤ s ∧ s ≤ 7) : becP im w v n 18 w s = im 18 v s := by
  rw [becP_app, if_pos (by omega)]
theorem bec_c {im : IM} {w v n p k s : Nat} (h : k = 21 ∧ s < 2 ∨ k = 22 ∧ s < 10 ∨ k = 23 ∧ s < 10) (hp : p < n) : becP im w v n k (5 * w + p) s = im k (5 * v + p) s := by
  rw [becP_app, if_neg (by omega), if_pos (by omega), show 5 * w + p - 5 * w = p by omega]
theorem bec_k {im : IM} {w v n k : Nat} (h : k ≠ 18 ∧ k ≠ 21 ∧ k ≠ 22 ∧ k ≠ 23) (i s : Nat) : becP im w v n k i s = im k i s := by
  rw [becP_app, if_neg (by omega), if_neg (by omega)]
theorem bec_WI {im : IM} {w v : Nat} (hW : WI im v) : WI (becM im w v) w := by
  unfold becM
  have w1 := hW.1
  refine ⟨?_, ?_, ?_, ?_, ?_, fun p hp => ?_⟩
  · rw [bec_18 (by omega)]; exact hW.1
  · rw [bec_18 (by omega)]; exact hW.2.1
  · rw [bec_18 (by omega)]; exact hW.2.2.1
  · rw [bec_18 (by omega)]; exact hW.2.2.2.1
  · rw [bec_18 (by omega)]
    exact goodT_congr (fun s => bec_k (by omega) _ _) (fun s => bec_k (by omega) _ _) hW.2.2.2.2.1
  · rw [bec_18 (by omega)] at hp
    have hq := hW.2.2.2.2.2 p hp
    refine ⟨?_, ?_, fun g hg => ?_⟩
    · rw [bec_c (by omega) (by omega)]; exact hq.1
    · rw [bec_c (by omega) (by omega)]; exact hq.2.1
    · rw [bec_c (by omega) (by omega), bec_c (by omega) (by omega)]; exact hq.2.2 g hg
/-! steps of a plan -/
def stepB (z act who f s : Int) : Int := if act = 3 then (if who = 0 ∧ f = 0 ∧ s = 0 then 1 else 0) else if ¬ (0 ≤ who ∧ who < z) then 0 else if act = 0 then (if (0 ≤ f ∧ f < 16) ∧ 0 ≤ s ∧ s < 10 then 1 else 0) else if act = 1 then (if (0 ≤ f ∧ f < 10) ∧ s = 0 then 1 else 0) else if act = 2 ∧ (0 ≤ f ∧ f < z) ∧ f ≠ who ∧ s = 0 then 1 else 0
def takM (im : IM) (act who f s : Int) : IM := if act = 0 then uttM im 1 who.toNat f s else if act = 1 then up im 22 (5 * 1 + who.toNat) f.toNat (-1) else if act = 2 then hnd im (5 * 1 + who.toNat) (5 * 1 + f.toNat) 10 else up (pasM im 1 (10 * (im 18 1 3).toNat)) 18 1 4 (im 18 1 4 + 1)
theorem takM_ag {a b : IM} (h : ag lS a b) (act who f s : Int) : ag lS (takM a act who f s) (takM b act who f s) := by
  unfold takM
  rw [h 18 (by decide) 1 3, h 18 (by decide) 1 4]
  split
  · exact uttM_ag h _ _ _ _
  split
  · exact ag_upup h
  split
  · exact hnd_ag h _ _ _
  · exact ag_upup (pasM_ag h _ _)
theorem takM_WI {im : IM} {act who f s : Int} (hW : WI im 1) (hh : im 18 1 4 < 1100) (hs : stepB (im 18 1 3) act who f s = 1) : WI (takM im act who f s) 1 := by
  unfold stepB at hs
  unfold takM
  split
  · refine utt_WI hW ?_
    subst act
    rw [if_neg (by decide)] at hs
    (repeat' split at hs) <;> omega
  split
  · exact flo_WI hW
  split
  · refine hnd_WI hW ?_
    have := hW.1
    (repeat' split at hs) <;> omega
  · exact pas_WI hW hh
theorem utt_o (im : IM) (w man : Nat) (word food : Int) {k i s : Nat} (h : ¬ ((k = 22 ∨ k = 23) ∧ i = 5 * w + man)) : uttM im w man word food k i s = im k i s := by
  unfold uttM
  split
  · rfl
  · rw [up_app, if_neg (by omega), up_app, if_neg (by omega)]
theorem hnd_o (im : IM) (p q n : Nat) {k i s : Nat} (h : ¬ ((k = 22 ∨ k = 23) ∧ (i = p ∨ i = q))) : hnd im p q n k i s = im k i s := by
  rw [hnd_app]
  (repeat' split) <;> first | rfl | omega
theorem pasM_o (im : IM) (w N : Nat) {k i s : Nat} (hN : N ≤ 50) (h : ¬ ((k = 22 ∨ k = 23) ∧ 5 * w ≤ i ∧ i < 5 * w + 5)) (h2 : ¬ (k = 18 ∧ i = w ∧ s = 6)) : pasM im w N k i s = im k i s := by
  rw [pasM_app, if_neg (by omega), if_neg h2]
theorem takM_agP {im : IM} {act who f s : Int} (hW : WI im 1) (hs : stepB (im 18 1 3) act who f s = 1) : agP (takM im act who f s) im := by
  have w1 := hW.1
  unfold stepB at hs
  have h : ∀ k i t, ¬ (k = 18 ∧ i = 1) → ¬ (21 ≤ k ∧ k ≤ 23 ∧ 5 ≤ i ∧ i < 10) → takM im act who f s k i t = im k i t := by
    intro k i t hk1 hk2
    unfold takM
    split
    · refine utt_o _ _ _ _ _ ?_
      rw [if_neg (by omega)] at hs
      (repeat' split at hs) <;> omega
    split
    · rw [up_app, if_neg]
      rw [if_neg (by omega)] at hs
      (repeat' split at hs) <;> omega
    split
    · refine hnd_o _ _ _ _ ?_
      rw [if_neg (by omega)] at hs
      (repeat' split at hs) <;> omega
    · rw [up_app, if_neg (by omega), pasM_o _ _ _ (by omega) (by omega) (by omega)]
  refine ⟨fun k i t hp => h k i t ?_ ?_, h 13 0 0 (by decide) (by decide)⟩
  · unfold per at hp; omega
  · unfold per at hp; omega
theorem takM_18 {im : IM} {act who f s : Int} : takM im act who f s 18 1 3 = im 18 1 3 ∧ takM im act who f s 18 1 4 ≤ (if im 18 1 4 + 1 ≤ im 18 1 4 then im 18 1 4 else im 18 1 4 + 1) := by
  rw [if_neg (by omega)]
  unfold takM
  split
  · rw [utt_o _ _ _ _ _ (by omega), utt_o _ _ _ _ _ (by omega)]; omega
  split
  · rw [up_app, if_neg (by omega), up_app, if_neg (by omega)]; omega
  split
  · rw [hnd_o _ _ _ _ (by omega), hnd_o _ _ _ _ (by omega)]; omega
  · rw [up_app, if_neg (by omega), up_app, if_pos ⟨rfl, rfl, rfl⟩, pasM_18 _ _ _ (by decide)]; omega

set_option maxHeartbeats 4000000 in
theorem c_X8_isStep (l : Launch) (G : GS) (im : IM) (bt rt : Nat) (lm : IM) (hR : RI im) (act who f s : Int) (hact : ri act) (hwho : ri who) (hf : ri f) (hs : ri s) : Cn l (XC G) yX8_isStep Y_X8_isStep [vR 0 0, vI act, vI who, vI f, vI s] (im, rs bt rt, lm) (pI fun x m' => x = stepB (im 18 0 3) act who f s ∧ m' = (im, rs bt rt, lm)) := by
  refine cn_of (by decide) (okC G) rfl (Nat.le_of_ble_eq_true rfl) ?_
  intro M ad hMl F
  subst hMl
  have hact1 := hact.1
  have hact2 := hact.2
  have hwho1 := hwho.1
  have hwho2 := hwho.2
  have hf1 := hf.1
  have hf2 := hf.2
  have hs1 := hs.1
  have hs2 := hs.2
  refine wp_pad 0 ?_
  show Wp M (XC G) ad Y_X8_isStep (pI fun x m' => x = stepB (im 18 0 3) act who f s ∧ m' = (im, rs bt rt, lm)) 0 [some (vR 0 0), some (vI act), some (vI who), some (vI f), some (vI s)] [] (im, rs bt rt, lm)
  refine q_iload_n (t := 1) F dX8_isStep_0 rfl rfl rfl ?_
  refine q_iconst (t := 2) F dX8_isStep_1 rfl ?_
  refine q_icmp_ne (t := 5) (u := 24) F dX8_isStep_2 (by first | exact hR _ _ _ | (constructor <;> omega)) (by first | exact hR _ _ _ | (constructor <;> omega)) (by decide) rfl (fun c2 => ?_) (fun c2 => ?_)
  · refine q_aload_n (t := 25) F dX8_isStep_24 rfl rfl rfl ?_
    refine q_iload_n (t := 26) F dX8_isStep_25 rfl rfl rfl ?_
    refine wp_callV (t := 29) [_] F dX8_isStep_26 k_X8_isOne v_X8_isOne ml_X8_91 rfl rfl rfl rfl (Nat.le_of_ble_eq_true rfl) (by decide) (m_0 (by omega)) (c_X8_isOne _ G _ bt rt lm who hwho hR) rfl (kI ?_)
    rintro x26 m' ⟨hx26, rfl⟩
    have hx26 := if01 hx26
    refine q_if_ne (t := 32) (u := 34) F dX8_isStep_29 (by first | exact hR _ _ _ | (constructor <;> omega)) (by decide) rfl (fun c29 => ?_) (fun c29 => ?_)
    · refine q_iload_n (t := 35) F dX8_isStep_34 rfl rfl rfl ?_
      refine q_if_ne (t := 38) (u := 63) F dX8_isStep_35 (by first | exact hR _ _ _ | (constructor <;> omega)) (by decide) rfl (fun c35 => ?_) (fun c35 => ?_)
      · refine q_iload_n (t := 64) F dX8_isStep_63 rfl rfl rfl ?_
        refine q_iconst (t := 65) F dX8_isStep_64 rfl ?_
        refine q_icmp_ne (t := 68) (u := 88) F dX8_isStep_65 (by first | exact hR _ _ _ | (constructor <;> omega)) (by first | exact hR _ _ _ | (constructor <;> omega)) (by decide) rfl (fun c65 => ?_) (fun c65 => ?_)
        · refine q_iload_n (t := 89) F dX8_isStep_88 rfl rfl rfl ?_
          refine q_iconst (t := 90) F dX8_isStep_89 rfl ?_
          refine q_icmp_ne (t := 93) (u := 115) F dX8_isStep_90 (by first | exact hR _ _ _ | (constructor <;> omega)) (by first | exact hR _ _ _ | (constructor <;> omega)) (by decide) rfl (fun c90 => ?_) (fun c90 => ?_)
          · refine q_iconst (t := 116) F dX8_isStep_115 rfl ?_
            refine q_zret F dX8_isStep_116 rfl (by decide) ?_
            refine ⟨_, rfl, ?_, rfl⟩
            unfold stepB
            (repeat' split) <;> omega
          · refine q_aload_n (t := 94) F dX8_isStep_93 rfl rfl rfl ?_
            refine q_iload_n (t := 95) F dX8_isStep_94 rfl rfl rfl ?_
            refine wp_callV (t := 98) [_] F dX8_isStep_95 k_X8_isOne v_X8_isOne ml_X8_91 rfl rfl rfl rfl (Nat.le_of_ble_eq_true rfl) (by decide) (m_0 (by omega)) (c_X8_isOne _ G _ bt rt lm f hf hR) rfl (kI ?_)
            rintro x95 m' ⟨hx95, rfl⟩
            have hx95 := if01 hx95
            refine q_if_eq (t := 101) (u := 115) F dX8_isStep_98 (by first | exact hR _ _ _ | (constructor <;> omega)) (by decide) rfl (fun c98 => ?_) (fun c98 => ?_)
            · refine q_iconst (t := 116) F dX8_isStep_115 rfl ?_
              refine q_zret F dX8_isStep_116 rfl (by decide) ?_
              refine ⟨_, rfl, ?_, rfl⟩
              unfold stepB
              (repeat' split) <;> omega
            · refine q_iload_n (t := 102) F dX8_isStep_101 rfl rfl rfl ?_
              refine q_iload_n (t := 103) F dX8_isStep_102 rfl rfl rfl ?_
              refine q_icmp_eq (t := 106) (u := 115) F dX8_isStep_103 (by first | exact hR _ _ _ | (constructor <;> omega)) (by first | exact hR _ _ _ | (constructor <;> omega)) (by decide) rfl (fun c103 => ?_) (fun c103 => ?_)
              · refine q_iconst (t := 116) F dX8_isStep_115 rfl ?_
                refine q_zret F dX8_isStep_116 rfl (by decide) ?_
                refine ⟨_, rfl, ?_, rfl⟩
                unfold stepB
                (repeat' split) <;> omega
              · refine q_iload (t := 108) F dX8_isStep_106 rfl rfl ?_
                refine q_if_ne (t := 111) (u := 115) F dX8_isStep_108 (by first | exact hR _ _ _ | (constructor <;> omega)) (by decide) rfl (fun c108 => ?_) (fun c108 => ?_)
                · refine q_iconst (t := 116) F dX8_isStep_115 rfl ?_
                  refine q_zret F dX8_isStep_116 rfl (by decide) ?_
                  refine ⟨_, rfl, ?_, rfl⟩
                  unfold stepB
                  (repeat' split) <;> omega
                · refine q_iconst (t := 112) F dX8_isStep_111 rfl ?_
                  refine q_goto (t := 116) F dX8_isStep_112 (by decide) ?_
                  refine q_zret F dX8_isStep_116 rfl (by decide) ?_
                  refine ⟨_, rfl, ?_, rfl⟩
                  unfold stepB
                  (repeat' split) <;> omega
        · refine q_iload_n (t := 69) F dX8_isStep_68 rfl rfl rfl ?_
          refine q_bipush (t := 71) F dX8_isStep_69 (by decide) rfl ?_
          refine wp_callS (t := 74) [_, _] F dX8_isStep_71 k_X8_within st_X8_within ml_X8_95 rfl rfl (Nat.le_of_ble_eq_true rfl) (by decide) (c_X8_within _ G _ bt rt lm f 10 hf (by constructor <;> omega)) rfl (kI ?_)
          rintro x71 m' ⟨hx71, rfl⟩
          have hx71 := if01 hx71
          refine q_if_eq (t := 77) (u := 86) F dX8_isStep_74 (by first | exact hR _ _ _ | (constructor <;> omega)) (by decide) rfl (fun c74 => ?_) (fun c74 => ?_)
          · refine q_iconst (t := 87) F dX8_isStep_86 rfl ?_
            refine q_zret F dX8_isStep_87 rfl (by decide) ?_
            refine ⟨_, rfl, ?_, rfl⟩
            unfold stepB
            (repeat' split) <;> omega
          · refine q_iload (t := 79) F dX8_isStep_77 rfl rfl ?_
            refine q_if_ne (t := 82) (u := 86) F dX8_isStep_79 (by first | exact hR _ _ _ | (constructor <;> omega)) (by decide) rfl (fun c79 => ?_) (fun c79 => ?_)
            · refine q_iconst (t := 87) F dX8_isStep_86 rfl ?_
              refine q_zret F dX8_isStep_87 rfl (by decide) ?_
              refine ⟨_, rfl, ?_, rfl⟩
              unfold stepB
              (repeat' split) <;> omega
            · refine q_iconst (t := 83) F dX8_isStep_82 rfl ?_
              refine q_goto (t := 87) F dX8_isStep_83 (by decide) ?_
              refine q_zret F dX8_isStep_87 rfl (by decide) ?_
              refine ⟨_, rfl, ?_, rfl⟩
              unfold stepB
              (repeat' split) <;> omega
      · refine q_iload_n (t := 39) F dX8_isStep_38 rfl rfl rfl ?_
        refine q_bipush (t := 41) F dX8_isStep_39 (by decide) rfl ?_
        refine wp_callS (t := 44) [_, _] F dX8_isStep_41 k_X8_within st_X8_within ml_X8_95 rfl rfl (Nat.le_of_ble_eq_true rfl) (by decide) (c_X8_within _ G _ bt rt lm f 16 hf (by constructor <;> omega)) rfl (kI ?_)
        rintro x41 m' ⟨hx41, rfl⟩
        have hx41 := if01 hx41
        refine q_if_eq (t := 47) (u := 61) F dX8_isStep_44 (by first | exact hR _ _ _ | (constructor <;> omega)) (by decide) rfl (fun c44 => ?_) (fun c44 => ?_)
        · refine q_iconst (t := 62) F dX8_isStep_61 rfl ?_
          refine q_zret F dX8_isStep_62 rfl (by decide) ?_
          refine ⟨_, rfl, ?_, rfl⟩
          unfold stepB
          (repeat' split) <;> omega
        · refine q_iload (t := 49) F dX8_isStep_47 rfl rfl ?_
          refine q_bipush (t := 51) F dX8_isStep_49 (by decide) rfl ?_
          refine wp_callS (t := 54) [_, _] F dX8_isStep_51 k_X8_within st_X8_within ml_X8_95 rfl rfl (Nat.le_of_ble_eq_true rfl) (by decide) (c_X8_within _ G _ bt rt lm s 10 hs (by constructor <;> omega)) rfl (kI ?_)
          rintro x51 m' ⟨hx51, rfl⟩
          have hx51 := if01 hx51
          refine q_if_eq (t := 57) (u := 61) F dX8_isStep_54 (by first | exact hR _ _ _ | (constructor <;> omega)) (by decide) rfl (fun c54 => ?_) (fun c54 => ?_)
          · refine q_iconst (t := 62) F dX8_isStep_61 rfl ?_
            refine q_zret F dX8_isStep_62 rfl (by decide) ?_
            refine ⟨_, rfl, ?_, rfl⟩
            unfold stepB
            (repeat' split) <;> omega
          · refine q_iconst (t := 58) F dX8_isStep_57 rfl ?_
            refine q_goto (t := 62) F dX8_isStep_58 (by decide) ?_
            refine q_zret F dX8_isStep_62 rfl (by decide) ?_
            refine ⟨_, rfl, ?_, rfl⟩
            unfold stepB
            (repeat' split) <;> omega
    · refine q_iconst (t := 33) F dX8_isStep_32 rfl ?_
      refine q_zret F dX8_isStep_33 rfl (by decide) ?_
      refine ⟨_, rfl, ?_, rfl⟩
      unfold stepB
      (repeat' split) <;> omega
  · refine q_iload_n (t := 6) F dX8_isStep_5 rfl rfl rfl ?_
    refine q_if_ne (t := 9) (u := 22) F dX8_isStep_6 (by first | exact hR _ _ _ | (constructor <;> omega)) (by decide) rfl (fun c6 => ?_) (fun c6 => ?_)
    · refine q_iconst (t := 23) F dX8_isStep_22 rfl ?_
      refine q_zret F dX8_isStep_23 rfl (by decide) ?_
      refine ⟨_, rfl, ?_, rfl⟩
      unfold stepB
      (repeat' split) <;> omega
    · refine q_iload_n (t := 10) F dX8_isStep_9 rfl rfl rfl ?_
      refine q_if_ne (t := 13) (u := 22) F dX8_isStep_10 (by first | exact hR _ _ _ | (constructor <;> omega)) (by decide) rfl (fun c10 => ?_) (fun c10 => ?_)
      · refine q_iconst (t := 23) F dX8_isStep_22 rfl ?_
        refine q_zret F dX8_isStep_23 rfl (by decide) ?_
        refine ⟨_, rfl, ?_, rfl⟩
        unfold stepB
        (repeat' split) <;> omega
      · refine q_iload (t := 15) F dX8_isStep_13 rfl rfl ?_
        refine q_if_ne (t := 18) (u := 22) F dX8_isStep_15 (by first | exact hR _ _ _ | (constructor <;> omega)) (by decide) rfl (fun c15 => ?_) (fun c15 => ?_)
        · refine q_iconst (t := 23) F dX8_isStep_22 rfl ?_
          refine q_zret F dX8_isStep_23 rfl (by decide) ?_
          refine ⟨_, rfl, ?_, rfl⟩
          unfold stepB
          (repeat' split) <;> omega
        · refine q_iconst (t := 19) F dX8_isStep_18 rfl ?_
          refine q_goto (t := 23) F dX8_isStep_19 (by decide) ?_
          refine q_zret F dX8_isStep_23 rfl (by decide) ?_
          refine ⟨_, rfl, ?_, rfl⟩
          unfold stepB
          (repeat' split) <;> omega

set_option maxHeartbeats 4000000 in
theorem c_X8_take (l : Launch) (G : GS) (im : IM) (bt rt : Nat) (lm : IM) (hbt : bt < 6) (hR : RI im) (hW : WI im 1) (act who f s : Int) (hact : ri act) (hwho : ri who) (hf : ri f) (hs : ri s) (hst : stepB (im 18 1 3) act who f s = 1) : Cn l (XC G) yX8_take Y_X8_take [vR 0 0, vI act, vI who, vI f, vI s] (im, rs bt rt, lm) (pV fun m' => ∃ im' bt', bt' < 6 ∧ RI im' ∧ ag lS im' (takM im act who f s) ∧ m' = (im', rs bt' rt, lm)) := by
  refine cn_of (by decide) (okC G) rfl (Nat.le_of_ble_eq_true rfl) ?_
  intro M ad hMl F
  subst hMl
  have hact1 := hact.1
  have hact2 := hact.2
  have hwho1 := hwho.1
  have hwho2 := hwho.2
  have hf1 := hf.1
  have hf2 := hf.2
  have hs1 := hs.1
  have hs2 := hs.2
  have w1 := hW.1
  have hst2 := hst
  unfold stepB at hst2
  refine wp_pad 0 ?_
  show Wp M (XC G) ad Y_X8_take (pV fun m' => ∃ im' bt', bt' < 6 ∧ RI im' ∧ ag lS im' (takM im act who f s) ∧ m' = (im', rs bt' rt, lm)) 0 [some (vR 0 0), some (vI act), some (vI who), some (vI f), some (vI s)] [] (im, rs bt rt, lm)
  refine q_iload_n (t := 1) F dX8_take_0 rfl rfl rfl ?_
  refine q_if_ne (t := 4) (u := 19) F dX8_take_1 (by first | exact hR _ _ _ | (constructor <;> omega)) (by decide) rfl (fun c1 => ?_) (fun c1 => ?_)
  · refine q_iload_n (t := 20) F dX8_take_19 rfl rfl rfl ?_
    refine q_iconst (t := 21) F dX8_take_20 rfl ?_
    refine q_icmp_ne (t := 24) (u := 41) F dX8_take_21 (by first | exact hR _ _ _ | (constructor <;> omega)) (by first | exact hR _ _ _ | (constructor <;> omega)) (by decide) rfl (fun c21 => ?_) (fun c21 => ?_)
    · refine q_iload_n (t := 42) F dX8_take_41 rfl rfl rfl ?_
      refine q_iconst (t := 43) F dX8_take_42 rfl ?_
      refine q_icmp_ne (t := 46) (u := 59) F dX8_take_43 (by first | exact hR _ _ _ | (constructor <;> omega)) (by first | exact hR _ _ _ | (constructor <;> omega)) (by decide) rfl (fun c43 => ?_) (fun c43 => ?_)
      · refine q_aload_n (t := 60) F dX8_take_59 rfl rfl rfl ?_
        refine g_X8_55 (t := 63) F dX8_take_60 rfl rfl ?_
        refine q_aload_n (t := 64) F dX8_take_63 rfl rfl rfl ?_
        refine g_X8_42 (t := 67) F dX8_take_64 rfl rfl ?_
        refine wp_callV (t := 70) [_] F dX8_take_67 k_X7_pass v_X7_pass ml_X8_159 rfl rfl rfl rfl (Nat.le_of_ble_eq_true rfl) (by decide) (m_18 (by omega)) (c_X7_pass _ G im bt rt lm 1 (by omega) hbt hR hW) rfl (kI ?_)
        rintro x67 m' ⟨hx, im2, bt2, hbt2, hR2, hag2, rfl⟩
        refine q_popI (t := 71) F dX8_take_70 rfl ?_
        refine q_vret F dX8_take_71 rfl ?_
        first
          | (refine ⟨rfl, im2, bt, hbt, hR2, ?_, rfl⟩
             unfold takM
             rw [if_pos (by omega)]
             try rw [Int.toNat_natCast]
             exact hag2.mono (by decide))
          | (refine ⟨rfl, _, bt, hbt, RI_up hR (by constructor <;> omega), ?_, rfl⟩
             unfold takM
             rw [if_neg (by omega), if_pos (by omega)]
             try simp only [Int.toNat_natCast]
             exact ag_rfl _ _)
          | (refine ⟨rfl, _, bt, hbt, RI_hnd hR, ?_, rfl⟩
             unfold takM
             rw [if_neg (by omega), if_neg (by omega), if_pos (by omega)]
             try simp only [Int.toNat_natCast]
             exact ag_rfl _ _)
          | (refine ⟨rfl, im2, bt2, hbt2, hR2, ?_, rfl⟩
             unfold takM
             rw [if_neg (by omega), if_neg (by omega), if_neg (by omega)]
             exact hag2.mono (by decide))
      · refine q_aload_n (t := 47) F dX8_take_46 rfl rfl rfl ?_
        refine g_X8_55 (t := 50) F dX8_take_47 rfl rfl ?_
        refine q_iload_n (t := 51) F dX8_take_50 rfl rfl rfl ?_
        refine q_iload_n (t := 52) F dX8_take_51 rfl rfl rfl ?_
        have g1 : (0 ≤ who ∧ who < im 18 1 3) ∧ (0 ≤ f ∧ f < im 18 1 3) ∧ f ≠ who := by (repeat' split at hst2) <;> omega
        rw [show f = ((f.toNat : Nat) : Int) by omega, show who = ((who.toNat : Nat) : Int) by omega]
        refine wp_callV (t := 55) [_, _] F dX8_take_52 k_X7_handOn v_X7_handOn ml_X8_156 rfl rfl rfl rfl (Nat.le_of_ble_eq_true rfl) (by decide) (m_18 (by omega)) (c_X7_handOn _ G im bt rt lm 1 (by omega) hR who.toNat f.toNat (by omega) (by omega) (by omega)) rfl (kI ?_)
        rintro x52 m' ⟨rfl, rfl⟩
        refine q_popI (t := 56) F dX8_take_55 rfl ?_
        refine q_goto (t := 71) F dX8_take_56 (by decide) ?_
        refine q_vret F dX8_take_71 rfl ?_
        first
          | (refine ⟨rfl, im2, bt, hbt, hR2, ?_, rfl⟩
             unfold takM
             rw [if_pos (by omega)]
             try rw [Int.toNat_natCast]
             exact hag2.mono (by decide))
          | (refine ⟨rfl, _, bt, hbt, RI_up hR (by constructor <;> omega), ?_, rfl⟩
             unfold takM
             rw [if_neg (by omega), if_pos (by omega)]
             try simp only [Int.toNat_natCast]
             exact ag_rfl _ _)
          | (refine ⟨rfl, _, bt, hbt, RI_hnd hR, ?_, rfl⟩
             unfold takM
             rw [if_neg (by omega), if_neg (by omega), if_pos (by omega)]
             try simp only [Int.toNat_natCast]
             exact ag_rfl _ _)
          | (refine ⟨rfl, im2, bt2, hbt2, hR2, ?_, rfl⟩
             unfold takM
             rw [if_neg (by omega), if_neg (by omega), if_neg (by omega)]
             exact hag2.mono (by decide))
    · refine q_aload_n (t := 25) F dX8_take_24 rfl rfl rfl ?_
      refine g_X8_55 (t := 28) F dX8_take_25 rfl rfl ?_
      refine g_X8_99 (t := 31) F dX8_take_28 rfl (by omega) rfl ?_
      refine q_iload_n (t := 32) F dX8_take_31 rfl rfl rfl ?_
      have g1 : (0 ≤ who ∧ who < im 18 1 3) ∧ (0 ≤ f ∧ f < 10) := by (repeat' split at hst2) <;> omega
      refine la_19 (t := 33) F dX8_take_32 (by omega) (by omega) (by omega) rfl ?_
      refine q_iload_n (t := 34) F dX8_take_33 rfl rfl rfl ?_
      have g1 : (0 ≤ who ∧ who < im 18 1 3) ∧ (0 ≤ f ∧ f < 10) := by (repeat' split at hst2) <;> omega
      rw [show f = ((f.toNat : Nat) : Int) by omega]
      refine wp_callV (t := 37) [_] F dX8_take_34 k_X3_empty v_X3_empty ml_X8_153 rfl rfl rfl rfl (Nat.le_of_ble_eq_true rfl) (by decide) (m_21 (by omega)) (c_X3_empty _ G im bt rt lm (5 * 1 + who.toNat) (by omega) f.toNat (by omega)) rfl (kI ?_)
      rintro x34 m' ⟨rfl, rfl⟩
      refine q_popI (t := 38) F dX8_take_37 rfl ?_
      refine q_goto (t := 71) F dX8_take_38 (by decide) ?_
      refine q_vret F dX8_take_71 rfl ?_
      first
        | (refine ⟨rfl, im2, bt, hbt, hR2, ?_, rfl⟩
           unfold takM
           rw [if_pos (by omega)]
           try rw [Int.toNat_natCast]
           exact hag2.mono (by decide))
        | (refine ⟨rfl, _, bt, hbt, RI_up hR (by constructor <;> omega), ?_, rfl⟩
           unfold takM
           rw [if_neg (by omega), if_pos (by omega)]
           try simp only [Int.toNat_natCast]
           exact ag_rfl _ _)
        | (refine ⟨rfl, _, bt, hbt, RI_hnd hR, ?_, rfl⟩
           unfold takM
           rw [if_neg (by omega), if_neg (by omega), if_pos (by omega)]
           try simp only [Int.toNat_natCast]
           exact ag_rfl _ _)
        | (refine ⟨rfl, im2, bt2, hbt2, hR2, ?_, rfl⟩
           unfold takM
           rw [if_neg (by omega), if_neg (by omega), if_neg (by omega)]
           exact hag2.mono (by decide))
  · refine q_aload_n (t := 5) F dX8_take_4 rfl rfl rfl ?_
    refine g_X8_55 (t := 8) F dX8_take_5 rfl rfl ?_
    refine q_iload_n (t := 9) F dX8_take_8 rfl rfl rfl ?_
    refine q_iload_n (t := 10) F dX8_take_9 rfl rfl rfl ?_
    refine q_iload (t := 12) F dX8_take_10 rfl rfl ?_
    have g1 : (0 ≤ who ∧ who < im 18 1 3) ∧ (0 ≤ f ∧ f < 16) := by (repeat' split at hst2) <;> omega
    rw [show who = ((who.toNat : Nat) : Int) by omega]
    refine wp_callV (t := 15) [_, _, _] F dX8_take_12 k_X7_utter v_X7_utter ml_X8_150 rfl rfl rfl rfl (Nat.le_of_ble_eq_true rfl) (by decide) (m_18 (by omega)) (c_X7_utter _ G im bt rt lm 1 (by omega) hR hW who.toNat (by omega) f s g1.2 hs) rfl (kI ?_)
    rintro x12 m' ⟨hx, im2, hR2, hag2, rfl⟩
    refine q_popI (t := 16) F dX8_take_15 rfl ?_
    refine q_goto (t := 71) F dX8_take_16 (by decide) ?_
    refine q_vret F dX8_take_71 rfl ?_
    first
      | (refine ⟨rfl, im2, bt, hbt, hR2, ?_, rfl⟩
         unfold takM
         rw [if_pos (by omega)]
         try rw [Int.toNat_natCast]
         exact hag2.mono (by decide))
      | (refine ⟨rfl, _, bt, hbt, RI_up hR (by constructor <;> omega), ?_, rfl⟩
         unfold takM
         rw [if_neg (by omega), if_pos (by omega)]
         try simp only [Int.toNat_natCast]
         exact ag_rfl _ _)
      | (refine ⟨rfl, _, bt, hbt, RI_hnd hR, ?_, rfl⟩
         unfold takM
         rw [if_neg (by omega), if_neg (by omega), if_pos (by omega)]
         try simp only [Int.toNat_natCast]
         exact ag_rfl _ _)
      | (refine ⟨rfl, im2, bt2, hbt2, hR2, ?_, rfl⟩
         unfold takM
         rw [if_neg (by omega), if_neg (by omega), if_neg (by omega)]
         exact hag2.mono (by decide))

abbrev okA (im : IM) (j : Nat) : Prop := im 7 j 2 % 4 = 0 ∧ ∀ k, k < (im 7 j 2 / 4).toNat → stepB (im 18 0 3) (im 8 j (4 * k)) (im 8 j (4 * k + 1)) (im 8 j (4 * k + 2)) (im 8 j (4 * k + 3)) = 1
/-- the world that is thought of, behind so many steps -/
def plM (im : IM) (j : Nat) : Nat → IM
  | 0 => up (becM im 1 0) 18 1 6 0
  | k + 1 => takM (plM im j k) (im 8 j (4 * k)) (im 8 j (4 * k + 1)) (im 8 j (4 * k + 2)) (im 8 j (4 * k + 3))
theorem plM_s (im : IM) (j k : Nat) : plM im j (k + 1) = takM (plM im j k) (im 8 j (4 * k)) (im 8 j (4 * k + 1)) (im 8 j (4 * k + 2)) (im 8 j (4 * k + 3)) := rfl
def planA (im : IM) (sheet what : Int) : Int := if (0 ≤ sheet ∧ sheet < 4) ∧ 0 ≤ what ∧ what < 2 then (if im 7 sheet.toNat 1 = -1 then -11 else if okA im sheet.toNat then (if what = 0 then plM im sheet.toNat (im 7 sheet.toNat 2 / 4).toNat 18 1 6 else cntA (plM im sheet.toNat (im 7 sheet.toNat 2 / 4).toNat) 1 (im 18 0 3).toNat) else -2) else -2

theorem stepB_in (z act who f s : Int) : stepB z act who f s = 0 ∨ stepB z act who f s = 1 := by
  unfold stepB
  (repeat' split) <;> first | exact Or.inl rfl | exact Or.inr rfl
theorem stepB_01 {z act who f s : Int} (h : ¬ stepB z act who f s = 1) : stepB z act who f s = 0 := by
  rcases stepB_in z act who f s with h2 | h2
  · exact h2
  · exact absurd h2 h

set_option maxHeartbeats 4000000 in
theorem c_X8_isPlan (l : Launch) (G : GS) (im : IM) (bt rt : Nat) (lm : IM) (hR : RI im) (j : Nat) (hj : j < 4) (z0 : 0 ≤ im 7 j 2) (z1 : im 7 j 2 ≤ 40) : Cn l (XC G) yX8_isPlan Y_X8_isPlan [vR 0 0, vR 7 j] (im, rs bt rt, lm) (pI fun x m' => (x = 1 ∧ okA im j ∨ x = 0 ∧ ¬ okA im j) ∧ m' = (im, rs bt rt, lm)) := by
  refine cn_of (by decide) (okC G) rfl (Nat.le_of_ble_eq_true rfl) ?_
  intro M ad hMl F
  subst hMl
  refine wp_pad 1 ?_
  show Wp M (XC G) ad Y_X8_isPlan (pI fun x m' => (x = 1 ∧ okA im j ∨ x = 0 ∧ ¬ okA im j) ∧ m' = (im, rs bt rt, lm)) 0 [some (vR 0 0), some (vR 7 j), none] [] (im, rs bt rt, lm)
  refine q_aload_n (t := 1) F dX8_isPlan_0 rfl rfl rfl ?_
  refine g_X8_231 (t := 4) F dX8_isPlan_1 rfl (by omega) rfl ?_
  refine q_iconst (t := 5) F dX8_isPlan_4 rfl ?_
  refine q_irem (t := 6) F dX8_isPlan_5 (by first | exact hR _ _ _ | (constructor <;> omega)) (by first | exact hR _ _ _ | (constructor <;> omega)) (by omega) (by omega) rfl ?_
  refine q_if_eq (t := 9) (u := 11) F dX8_isPlan_6 (by first | exact hR _ _ _ | (constructor <;> omega)) (by decide) rfl (fun c6 => ?_) (fun c6 => ?_)
  · refine q_iconst (t := 12) F dX8_isPlan_11 rfl ?_
    refine q_istore_n (t := 13) F dX8_isPlan_12 rfl (by decide) rfl rfl ?_
    have L13 : ∀ (fz : Nat) (k : Nat), 10 - k < fz → 4 * (k : Int) ≤ im 7 j 2 → (∀ q, q < k → stepB (im 18 0 3) (im 8 j (4 * q)) (im 8 j (4 * q + 1)) (im 8 j (4 * q + 2)) (im 8 j (4 * q + 3)) = 1) → Wp M (XC G) ad Y_X8_isPlan (pI fun x m' => (x = 1 ∧ okA im j ∨ x = 0 ∧ ¬ okA im j) ∧ m' = (im, rs bt rt, lm)) 13 [some (vR 0 0), some (vR 7 j), some (vI (4 * (k : Int)))] [] (im, rs bt rt, lm) := by
      intro fz
      induction fz with
      | zero => intro k h; exact absurd h (Nat.not_lt_zero _)
      | succ fz ih =>
        have ih13 := ih
        intro k hmeas hk hq
        refine q_iload_n (t := 14) F dX8_isPlan_13 rfl rfl rfl ?_
        refine q_iconst (t := 15) F dX8_isPlan_14 rfl ?_
        refine q_iadd (t := 16) F dX8_isPlan_15 rfl ?_
        refine q_aload_n (t := 17) F dX8_isPlan_16 rfl rfl rfl ?_
        refine g_X8_231 (t := 20) F dX8_isPlan_17 rfl (by omega) rfl ?_
        refine q_icmp_gt (t := 23) (u := 68) F dX8_isPlan_20 (by constructor <;> omega) (by exact hR _ _ _) (by decide) rfl (fun c20 => ?_) (fun c20 => ?_)
        · refine q_iconst (t := 69) F dX8_isPlan_68 rfl ?_
          refine q_zret F dX8_isPlan_69 rfl (by decide) ?_
          exact ⟨_, rfl, Or.inl ⟨rfl, by omega, fun q hq2 => hq q (by omega)⟩, rfl⟩
        · refine q_aload_n (t := 24) F dX8_isPlan_23 rfl rfl rfl ?_
          refine q_aload_n (t := 25) F dX8_isPlan_24 rfl rfl rfl ?_
          refine g_X8_232 (t := 28) F dX8_isPlan_25 rfl (by omega) rfl ?_
          refine q_iload_n (t := 29) F dX8_isPlan_28 rfl rfl rfl ?_
          rw [show (4 * (k : Int)) = ((4 * k : Nat) : Int) by omega]
          first | refine ldN_8 (t := 30) F dX8_isPlan_29 (by omega) (by omega) rfl ?_ | refine ld_8 (t := 30) F dX8_isPlan_29 (by omega) (by omega) (by omega) rfl ?_
          refine q_aload_n (t := 31) F dX8_isPlan_30 rfl rfl rfl ?_
          refine g_X8_232 (t := 34) F dX8_isPlan_31 rfl (by omega) rfl ?_
          refine q_iload_n (t := 35) F dX8_isPlan_34 rfl rfl rfl ?_
          refine q_iconst (t := 36) F dX8_isPlan_35 rfl ?_
          refine q_iadd (t := 37) F dX8_isPlan_36 rfl ?_
          rw [show ((4 * k : Nat) : Int) + 1 = ((4 * k + 1 : Nat) : Int) by omega]
          first | refine ldN_8 (t := 38) F dX8_isPlan_37 (by omega) (by omega) rfl ?_ | refine ld_8 (t := 38) F dX8_isPlan_37 (by omega) (by omega) (by omega) rfl ?_
          refine q_aload_n (t := 39) F dX8_isPlan_38 rfl rfl rfl ?_
          refine g_X8_232 (t := 42) F dX8_isPlan_39 rfl (by omega) rfl ?_
          refine q_iload_n (t := 43) F dX8_isPlan_42 rfl rfl rfl ?_
          refine q_iconst (t := 44) F dX8_isPlan_43 rfl ?_
          refine q_iadd (t := 45) F dX8_isPlan_44 rfl ?_
          rw [show ((4 * k : Nat) : Int) + 2 = ((4 * k + 2 : Nat) : Int) by omega]
          first | refine ldN_8 (t := 46) F dX8_isPlan_45 (by omega) (by omega) rfl ?_ | refine ld_8 (t := 46) F dX8_isPlan_45 (by omega) (by omega) (by omega) rfl ?_
          refine q_aload_n (t := 47) F dX8_isPlan_46 rfl rfl rfl ?_
          refine g_X8_232 (t := 50) F dX8_isPlan_47 rfl (by omega) rfl ?_
          refine q_iload_n (t := 51) F dX8_isPlan_50 rfl rfl rfl ?_
          refine q_iconst (t := 52) F dX8_isPlan_51 rfl ?_
          refine q_iadd (t := 53) F dX8_isPlan_52 rfl ?_
          rw [show ((4 * k : Nat) : Int) + 3 = ((4 * k + 3 : Nat) : Int) by omega]
          first | refine ldN_8 (t := 54) F dX8_isPlan_53 (by omega) (by omega) rfl ?_ | refine ld_8 (t := 54) F dX8_isPlan_53 (by omega) (by omega) (by omega) rfl ?_
          refine wp_callV (t := 57) [_, _, _, _] F dX8_isPlan_54 k_X8_isStep v_X8_isStep ml_X8_240 rfl rfl rfl rfl (Nat.le_of_ble_eq_true rfl) (by decide) (m_0 (by omega)) (c_X8_isStep _ G im bt rt lm hR (im 8 j (4 * k)) (im 8 j (4 * k + 1)) (im 8 j (4 * k + 2)) (im 8 j (4 * k + 3)) (hR _ _ _) (hR _ _ _) (hR _ _ _) (hR _ _ _)) rfl (kI ?_)
          rintro x54 m' ⟨rfl, rfl⟩
          refine q_if_ne (t := 60) (u := 62) F dX8_isPlan_57 (by rcases stepB_in (im 18 0 3) (im 8 j (4 * k)) (im 8 j (4 * k + 1)) (im 8 j (4 * k + 2)) (im 8 j (4 * k + 3)) with h | h <;> rw [h] <;> (constructor <;> omega)) (by decide) rfl (fun c57 => ?_) (fun c57 => ?_)
          · refine q_iinc (t := 65) F dX8_isPlan_62 rfl (by decide) rfl rfl ?_
            refine q_goto (t := 13) F dX8_isPlan_65 (by decide) ?_
            rw [show ((4 * k : Nat) : Int) + 4 = 4 * ((k + 1 : Nat) : Int) by omega]
            refine ih13 (k + 1) (by omega) (by omega) (fun q hq2 => ?_)
            by_cases hqk : q = k
            · subst hqk; by_cases h1 : stepB (im 18 0 3) (im 8 j (4 * q)) (im 8 j (4 * q + 1)) (im 8 j (4 * q + 2)) (im 8 j (4 * q + 3)) = 1
              · exact h1
              · exact absurd (stepB_01 h1) c57
            · exact hq q (by omega)
          · refine q_iconst (t := 61) F dX8_isPlan_60 rfl ?_
            refine q_zret F dX8_isPlan_61 rfl (by decide) ?_
            exact ⟨_, rfl, Or.inr ⟨rfl, fun h => by have := h.2 k (by omega); omega⟩, rfl⟩
    exact L13 _ 0 (Nat.lt_succ_self _) (by omega) (fun q hq => absurd hq (Nat.not_lt_zero _))
  · refine q_iconst (t := 10) F dX8_isPlan_9 rfl ?_
    refine q_zret F dX8_isPlan_10 rfl (by decide) ?_
    exact ⟨_, rfl, Or.inr ⟨rfl, fun h => by have := h.1; omega⟩, rfl⟩

theorem cntA_ag {a b : IM} (h : ∀ p s, a 22 p s = b 22 p s) (w n : Nat) : cntA a w n = cntA b w n := by
  induction n with
  | zero => rfl
  | succ n ih =>
    show cntA a w n + cntW (a 22 (5 * w + n)) 10 = cntA b w n + cntW (b 22 (5 * w + n)) 10
    rw [ih, show a 22 (5 * w + n) = b 22 (5 * w + n) from funext (h _)]

set_option maxHeartbeats 4000000 in
theorem c_X8_plan (l : Launch) (G : GS) (im : IM) (bt rt : Nat) (lm : IM) (hbt : bt < 6) (hrt : rt < 6) (hS : SC im) (sheet : Int) (what : Int) (hsheet : ri sheet) (hwhat : ri what) : Cn l (XC G) yX8_plan Y_X8_plan [vR 0 0, vI sheet, vI what] (im, rs bt rt, lm) (pI fun x m' => x = planA im sheet what ∧ stC lm im m') := by
  refine cn_of (by decide) (okC G) rfl (Nat.le_of_ble_eq_true rfl) ?_
  intro M ad hMl F
  subst hMl
  obtain ⟨hR, hW, hh, htc, hru, hgt, hz, hrd, hsh, him, htp⟩ := hS
  have w1 := hW.1
  have w2 := hW.2.1
  have w3 := hW.2.2.1
  have w4 := hW.2.2.2.1
  have w5 := hW.2.2.2.2.1
  have hsheet1 := hsheet.1
  have hsheet2 := hsheet.2
  have hwhat1 := hwhat.1
  have hwhat2 := hwhat.2
  refine wp_pad 2 ?_
  show Wp M (XC G) ad Y_X8_plan (pI fun x m' => x = planA im sheet what ∧ stC lm im m') 0 [some (vR 0 0), some (vI sheet), some (vI what), none, none] [] (im, rs bt rt, lm)
  refine q_iload_n (t := 1) F dX8_plan_0 rfl rfl rfl ?_
  refine q_iconst (t := 2) F dX8_plan_1 rfl ?_
  refine wp_callS (t := 5) [_, _] F dX8_plan_2 k_X8_within st_X8_within ml_X8_95 rfl rfl (Nat.le_of_ble_eq_true rfl) (by decide) (c_X8_within _ G _ bt rt lm sheet 4 hsheet (by constructor <;> omega)) rfl (kI ?_)
  rintro x2 m' ⟨hx2, rfl⟩
  have hx2 := if01 hx2
  refine q_if_eq (t := 8) (u := 16) F dX8_plan_5 (by first | exact hR _ _ _ | (constructor <;> omega)) (by decide) rfl (fun c5 => ?_) (fun c5 => ?_)
  · refine q_bipush (t := 18) F dX8_plan_16 (by decide) rfl ?_
    refine q_iret F dX8_plan_18 rfl ?_
    refine ⟨_, rfl, ?_, _, bt, rt, hbt, hrt, (by repeat' first | exact hR | refine RI_up ?_ ?_ | assumption | exact hR _ _ _ | (constructor <;> omega)), ?_, rfl⟩
    · unfold planA
      (repeat' split) <;> omega
    · exact agP_rfl _
  · refine q_iload_n (t := 9) F dX8_plan_8 rfl rfl rfl ?_
    refine q_iconst (t := 10) F dX8_plan_9 rfl ?_
    refine wp_callS (t := 13) [_, _] F dX8_plan_10 k_X8_within st_X8_within ml_X8_95 rfl rfl (Nat.le_of_ble_eq_true rfl) (by decide) (c_X8_within _ G _ bt rt lm what 2 hwhat (by constructor <;> omega)) rfl (kI ?_)
    rintro x10 m' ⟨hx10, rfl⟩
    have hx10 := if01 hx10
    refine q_if_ne (t := 16) (u := 19) F dX8_plan_13 (by first | exact hR _ _ _ | (constructor <;> omega)) (by decide) rfl (fun c13 => ?_) (fun c13 => ?_)
    · refine q_aload_n (t := 20) F dX8_plan_19 rfl rfl rfl ?_
      refine g_X8_17 (t := 23) F dX8_plan_20 rfl rfl ?_
      refine q_iload_n (t := 24) F dX8_plan_23 rfl rfl rfl ?_
      obtain ⟨sheet, rfl⟩ : ∃ k : Nat, sheet = (k : Int) := ⟨sheet.toNat, by omega⟩
      have hj : sheet < 4 := by omega
      have hs4 := hsh sheet hj
      first | refine laN_6 (t := 25) F dX8_plan_24 (by omega) rfl ?_ | refine la_6 (t := 25) F dX8_plan_24 (by omega) (by omega) rfl ?_
      refine q_astore_n (t := 26) F dX8_plan_25 rfl (by decide) rfl rfl ?_
      refine q_aload_n (t := 27) F dX8_plan_26 rfl rfl rfl ?_
      refine wp_callV (t := 30) [] F dX8_plan_27 k_X5_isMissing v_X5_isMissing ml_X8_218 rfl rfl rfl rfl (Nat.le_of_ble_eq_true rfl) (by decide) (m_7 (by omega)) (c_X5_isMissing _ G im bt rt lm sheet hj hR) rfl (kI ?_)
      rintro x27 m' ⟨hx27, rfl⟩
      have hx27 := if01 hx27
      refine q_if_eq (t := 33) (u := 36) F dX8_plan_30 (by constructor <;> omega) (by decide) rfl (fun c30 => ?_) (fun c30 => ?_)
      · refine q_aload_n (t := 37) F dX8_plan_36 rfl rfl rfl ?_
        refine q_aload_n (t := 38) F dX8_plan_37 rfl rfl rfl ?_
        refine wp_callV (t := 41) [_] F dX8_plan_38 k_X8_isPlan v_X8_isPlan ml_X8_222 rfl rfl rfl rfl (Nat.le_of_ble_eq_true rfl) (by decide) (m_0 (by omega)) (c_X8_isPlan _ G im bt rt lm hR sheet hj hs4.2.2.1 hs4.2.2.2) rfl (kI ?_)
        rintro x38 m' ⟨hx38, rfl⟩
        refine q_if_ne (t := 44) (u := 47) F dX8_plan_41 (by constructor <;> omega) (by decide) rfl (fun c41 => ?_) (fun c41 => ?_)
        · refine q_aload_n (t := 48) F dX8_plan_47 rfl rfl rfl ?_
          refine g_X8_55 (t := 51) F dX8_plan_48 rfl rfl ?_
          refine q_aload_n (t := 52) F dX8_plan_51 rfl rfl rfl ?_
          refine g_X8_51 (t := 55) F dX8_plan_52 rfl rfl ?_
          refine wp_callV (t := 58) [_] F dX8_plan_55 k_X7_become v_X7_become ml_X8_226 rfl rfl rfl rfl (Nat.le_of_ble_eq_true rfl) (by decide) (m_18 (by omega)) (c_X7_become _ G im bt rt lm 1 0 (by omega) (by omega) (by omega) hR w1.1 w1.2) rfl (kV ?_)
          rintro m' rfl
          have hok : okA im sheet := by
            rcases hx38 with h | h
            · exact h.2
            · omega
          have hWb : WI (up (becM im 1 0) 18 1 6 0) 1 := WI_cells (bec_WI hW) (fun s hs => by rw [up_app, if_neg (by omega)]) (by rw [up_app, if_neg (by omega)]; exact (bec_WI hW).2.1) (fun p s _ => rfl) (fun j s => rfl) (fun j s => rfl) (fun p g h5 hp hg => ((bec_WI hW).2.2.2.2.2 p hp).2.2 g hg)
          have hRb : RI (up (becM im 1 0) 18 1 6 0) := RI_up (RI_bec hR) (by constructor <;> omega)
          have hPb : agP (up (becM im 1 0) 18 1 6 0) im := by
            refine ⟨fun k i t hp => ?_, ?_⟩
            · rw [up_app, if_neg (by unfold per at hp; omega)]
              unfold becM
              rw [becP_app, if_neg (by unfold per at hp; omega), if_neg (by unfold per at hp; omega)]
            · rw [up_app, if_neg (by omega)]
              exact bec_k (by omega) _ _
          refine q_aload_n (t := 59) F dX8_plan_58 rfl rfl rfl ?_
          refine g_X8_55 (t := 62) F dX8_plan_59 rfl rfl ?_
          refine q_iconst (t := 63) F dX8_plan_62 rfl ?_
          refine p_X8_230 (t := 66) F dX8_plan_63 rfl (by omega) rfl ?_
          refine q_iconst (t := 67) F dX8_plan_66 rfl ?_
          refine q_istore (t := 69) F dX8_plan_67 (by decide) rfl rfl ?_
          have L69 : ∀ (fz : Nat) (k : Nat) (im2 : IM) (bt2 : Nat), 10 - k < fz → 4 * (k : Int) ≤ im 7 sheet 2 → bt2 < 6 → RI im2 → WI im2 1 → im2 18 1 3 = im 18 0 3 → im2 18 1 4 ≤ 999 + k → ag lS im2 (plM im sheet k) → agP im2 im → Wp M (XC G) ad Y_X8_plan (pI fun x m' => x = planA im sheet what ∧ stC lm im m') 69 [some (vR 0 0), some (vI (sheet : Int)), some (vI what), some (vR 7 sheet), some (vI (4 * (k : Int)))] [] (im2, rs bt2 rt, lm) := by
            intro fz
            induction fz with
            | zero => intro k im2 bt2 h; exact absurd h (Nat.not_lt_zero _)
            | succ fz ih =>
              have ih69 := ih
              intro k im2 bt2 hmeas hk hbt2 hR2 hW2 hz2 hh2 hag2 hP2
              have e8 : ∀ s, im2 8 sheet s = im 8 sheet s := fun s => hP2.1 8 sheet s (by unfold per; omega)
              have e7 : im2 7 sheet 2 = im 7 sheet 2 := hP2.1 7 sheet 2 (by unfold per; omega)
              refine q_iload (t := 71) F dX8_plan_69 rfl rfl ?_
              refine q_iconst (t := 72) F dX8_plan_71 rfl ?_
              refine q_iadd (t := 73) F dX8_plan_72 rfl ?_
              refine q_aload_n (t := 74) F dX8_plan_73 rfl rfl rfl ?_
              refine g_X8_231 (t := 77) F dX8_plan_74 rfl (by omega) rfl ?_
              try simp only [up_app, row_app, scr_app, cpy_app, Nat.reduceEqDiff, Int.reduceToNat, Int.toNat_natCast, and_true, true_and, and_false, false_and, and_self, reduceIte]
              refine q_icmp_gt (t := 80) (u := 124) F dX8_plan_77 (by constructor <;> omega) (by exact hR2 _ _ _) (by decide) rfl (fun c77 => ?_) (fun c77 => ?_)
              · refine q_iload_n (t := 125) F dX8_plan_124 rfl rfl rfl ?_
                refine q_if_ne (t := 128) (u := 138) F dX8_plan_125 (by first | exact hR _ _ _ | (constructor <;> omega)) (by decide) rfl (fun c125 => ?_) (fun c125 => ?_)
                · refine q_aload_n (t := 139) F dX8_plan_138 rfl rfl rfl ?_
                  refine g_X8_55 (t := 142) F dX8_plan_139 rfl rfl ?_
                  refine wp_callV (t := 145) [] F dX8_plan_142 k_X7_stuckInAll v_X7_stuckInAll ml_X8_239 rfl rfl rfl rfl (Nat.le_of_ble_eq_true rfl) (by decide) (m_18 (by omega)) (c_X7_stuckInAll _ G im2 bt2 rt lm 1 (by omega) hR2 (by omega) (by omega)) rfl (kI ?_)
                  rintro x142 m' ⟨rfl, rfl⟩
                  refine q_iret F dX8_plan_145 rfl ?_
                  refine ⟨_, rfl, ?_, im2, bt2, rt, hbt2, hrt, hR2, hP2, rfl⟩
                  have hkk : (im 7 sheet 2 / 4).toNat = k := by have := hok.1; omega
                  unfold planA
                  simp only [Int.toNat_natCast]
                  first
                    | (rw [if_pos (by omega), if_neg (by omega), if_pos hok, if_pos (by omega), hkk]
                       exact hag2 18 (by decide) 1 6)
                    | (rw [if_pos (by omega), if_neg (by omega), if_pos hok, if_neg (by omega), hkk, hz2]
                       exact cntA_ag (fun p s => hag2 22 (by decide) p s) _ _)
                · refine q_aload_n (t := 129) F dX8_plan_128 rfl rfl rfl ?_
                  refine g_X8_55 (t := 132) F dX8_plan_129 rfl rfl ?_
                  refine g_X8_230 (t := 135) F dX8_plan_132 rfl (by omega) rfl ?_
                  try simp only [up_app, row_app, scr_app, cpy_app, Nat.reduceEqDiff, Int.reduceToNat, Int.toNat_natCast, and_true, true_and, and_false, false_and, and_self, reduceIte]
                  refine q_goto (t := 145) F dX8_plan_135 (by decide) ?_
                  refine q_iret F dX8_plan_145 rfl ?_
                  refine ⟨_, rfl, ?_, im2, bt2, rt, hbt2, hrt, hR2, hP2, rfl⟩
                  have hkk : (im 7 sheet 2 / 4).toNat = k := by have := hok.1; omega
                  unfold planA
                  simp only [Int.toNat_natCast]
                  first
                    | (rw [if_pos (by omega), if_neg (by omega), if_pos hok, if_pos (by omega), hkk]
                       exact hag2 18 (by decide) 1 6)
                    | (rw [if_pos (by omega), if_neg (by omega), if_pos hok, if_neg (by omega), hkk, hz2]
                       exact cntA_ag (fun p s => hag2 22 (by decide) p s) _ _)
              · refine q_aload_n (t := 81) F dX8_plan_80 rfl rfl rfl ?_
                refine q_aload_n (t := 82) F dX8_plan_81 rfl rfl rfl ?_
                refine g_X8_232 (t := 85) F dX8_plan_82 rfl (by omega) rfl ?_
                refine q_iload (t := 87) F dX8_plan_85 rfl rfl ?_
                rw [show (4 * (k : Int)) = ((4 * k : Nat) : Int) by omega]
                first | refine ldN_8 (t := 88) F dX8_plan_87 (by omega) (by omega) rfl ?_ | refine ld_8 (t := 88) F dX8_plan_87 (by omega) (by omega) (by omega) rfl ?_
                try simp only [up_app, row_app, scr_app, cpy_app, Nat.reduceEqDiff, Int.reduceToNat, Int.toNat_natCast, and_true, true_and, and_false, false_and, and_self, reduceIte]
                rw [e8 (4 * k)]
                refine q_aload_n (t := 89) F dX8_plan_88 rfl rfl rfl ?_
                refine g_X8_232 (t := 92) F dX8_plan_89 rfl (by omega) rfl ?_
                refine q_iload (t := 94) F dX8_plan_92 rfl rfl ?_
                refine q_iconst (t := 95) F dX8_plan_94 rfl ?_
                refine q_iadd (t := 96) F dX8_plan_95 rfl ?_
                rw [show ((4 * k : Nat) : Int) + 1 = ((4 * k + 1 : Nat) : Int) by omega]
                first | refine ldN_8 (t := 97) F dX8_plan_96 (by omega) (by omega) rfl ?_ | refine ld_8 (t := 97) F dX8_plan_96 (by omega) (by omega) (by omega) rfl ?_
                try simp only [up_app, row_app, scr_app, cpy_app, Nat.reduceEqDiff, Int.reduceToNat, Int.toNat_natCast, and_true, true_and, and_false, false_and, and_self, reduceIte]
                rw [e8 (4 * k + 1)]
                refine q_aload_n (t := 98) F dX8_plan_97 rfl rfl rfl ?_
                refine g_X8_232 (t := 101) F dX8_plan_98 rfl (by omega) rfl ?_
                refine q_iload (t := 103) F dX8_plan_101 rfl rfl ?_
                refine q_iconst (t := 104) F dX8_plan_103 rfl ?_
                refine q_iadd (t := 105) F dX8_plan_104 rfl ?_
                rw [show ((4 * k : Nat) : Int) + 2 = ((4 * k + 2 : Nat) : Int) by omega]
                first | refine ldN_8 (t := 106) F dX8_plan_105 (by omega) (by omega) rfl ?_ | refine ld_8 (t := 106) F dX8_plan_105 (by omega) (by omega) (by omega) rfl ?_
                try simp only [up_app, row_app, scr_app, cpy_app, Nat.reduceEqDiff, Int.reduceToNat, Int.toNat_natCast, and_true, true_and, and_false, false_and, and_self, reduceIte]
                rw [e8 (4 * k + 2)]
                refine q_aload_n (t := 107) F dX8_plan_106 rfl rfl rfl ?_
                refine g_X8_232 (t := 110) F dX8_plan_107 rfl (by omega) rfl ?_
                refine q_iload (t := 112) F dX8_plan_110 rfl rfl ?_
                refine q_iconst (t := 113) F dX8_plan_112 rfl ?_
                refine q_iadd (t := 114) F dX8_plan_113 rfl ?_
                rw [show ((4 * k : Nat) : Int) + 3 = ((4 * k + 3 : Nat) : Int) by omega]
                first | refine ldN_8 (t := 115) F dX8_plan_114 (by omega) (by omega) rfl ?_ | refine ld_8 (t := 115) F dX8_plan_114 (by omega) (by omega) (by omega) rfl ?_
                try simp only [up_app, row_app, scr_app, cpy_app, Nat.reduceEqDiff, Int.reduceToNat, Int.toNat_natCast, and_true, true_and, and_false, false_and, and_self, reduceIte]
                rw [e8 (4 * k + 3)]
                have hst : stepB (im2 18 1 3) (im 8 sheet (4 * k)) (im 8 sheet (4 * k + 1)) (im 8 sheet (4 * k + 2)) (im 8 sheet (4 * k + 3)) = 1 := by rw [hz2]; exact hok.2 k (by omega)
                refine wp_callV (t := 118) [_, _, _, _] F dX8_plan_115 k_X8_take v_X8_take ml_X8_235 rfl rfl rfl rfl (Nat.le_of_ble_eq_true rfl) (by decide) (m_0 (by omega)) (c_X8_take _ G im2 bt2 rt lm hbt2 hR2 hW2 (im 8 sheet (4 * k)) (im 8 sheet (4 * k + 1)) (im 8 sheet (4 * k + 2)) (im 8 sheet (4 * k + 3)) (hR _ _ _) (hR _ _ _) (hR _ _ _) (hR _ _ _) hst) rfl (kV ?_)
                rintro m' ⟨im3, bt3, hbt3, hR3, hag3, rfl⟩
                refine q_iinc (t := 121) F dX8_plan_118 rfl (by decide) rfl rfl ?_
                refine q_goto (t := 69) F dX8_plan_121 (by decide) ?_
                rw [show ((4 * k : Nat) : Int) + 4 = 4 * ((k + 1 : Nat) : Int) by omega]
                have ht := @takM_18 im2 (im 8 sheet (4 * k)) (im 8 sheet (4 * k + 1)) (im 8 sheet (4 * k + 2)) (im 8 sheet (4 * k + 3))
                refine ih69 (k + 1) im3 bt3 (by omega) (by omega) hbt3 hR3 (WI_ag hag3 (by decide) (by decide) (by decide) (by decide) (by decide) (by decide) (takM_WI hW2 (by omega) hst)) ?_ ?_ ?_ ?_
                · rw [hag3 18 (by decide), ht.1, hz2]
                · rw [hag3 18 (by decide)]
                  have := ht.2
                  rw [if_neg (by omega)] at this
                  omega
                · rw [plM_s]
                  exact hag3.trans (takM_ag hag2 _ _ _ _)
                · exact (agP_of (hag3.mono (by decide))).trans ((takM_agP hW2 hst).trans hP2)
          exact L69 _ 0 (up (becM im 1 0) 18 1 6 0) bt (Nat.lt_succ_self _) (by omega) hbt hRb hWb (by rw [up_app, if_neg (by omega)]; exact bec_18 (by omega)) (by rw [up_app, if_neg (by omega), show becM im 1 0 18 1 4 = im 18 0 4 from bec_18 (by omega)]; omega) (ag_rfl _ _) hPb
        · refine q_bipush (t := 46) F dX8_plan_44 (by decide) rfl ?_
          refine q_iret F dX8_plan_46 rfl ?_
          refine ⟨_, rfl, ?_, _, bt, rt, hbt, hrt, hR, agP_rfl _, rfl⟩
          have hnok : ¬ okA im sheet := by
            rcases hx38 with h | h
            · omega
            · exact h.2
          unfold planA
          rw [if_pos (by omega), if_neg (by rw [Int.toNat_natCast]; omega), if_neg (by rw [Int.toNat_natCast]; exact hnok)]
      · refine q_bipush (t := 35) F dX8_plan_33 (by decide) rfl ?_
        refine q_iret F dX8_plan_35 rfl ?_
        refine ⟨_, rfl, ?_, _, bt, rt, hbt, hrt, hR, agP_rfl _, rfl⟩
        unfold planA
        rw [if_pos (by omega), if_pos (by rw [Int.toNat_natCast]; omega)]
    · refine q_bipush (t := 18) F dX8_plan_16 (by decide) rfl ?_
      refine q_iret F dX8_plan_18 rfl ?_
      refine ⟨_, rfl, ?_, _, bt, rt, hbt, hrt, (by repeat' first | exact hR | refine RI_up ?_ ?_ | assumption | exact hR _ _ _ | (constructor <;> omega)), ?_, rfl⟩
      · unfold planA
        (repeat' split) <;> omega
      · exact agP_rfl _
end
