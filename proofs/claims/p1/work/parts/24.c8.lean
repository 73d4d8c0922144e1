/-! THE CLASS'S STATE: what later calls can see -/
def per (k i s : Nat) : Prop := k ≠ 5 ∧ ¬ (9 ≤ k ∧ k ≤ 13) ∧ k ≠ 16 ∧ k ≠ 17 ∧ k ≠ 20 ∧ ¬ (k = 18 ∧ i = 1) ∧ ¬ (21 ≤ k ∧ k ≤ 23 ∧ 5 ≤ i ∧ i < 10) ∧ ¬ (k = 14 ∧ s ≠ 1)
/-- two memories that later calls can't tell apart -/
def agP (a b : IM) : Prop := (∀ k i s, per k i s → a k i s = b k i s) ∧ a 13 0 0 = b 13 0 0
theorem agP_rfl (a : IM) : agP a a := ⟨fun _ _ _ _ => rfl, rfl⟩
theorem agP.trans {a b c : IM} (h : agP a b) (h2 : agP b c) : agP a c := ⟨fun k i s hp => (h.1 k i s hp).trans (h2.1 k i s hp), h.2.trans h2.2⟩
theorem agP_of {a b : IM} (h : ag [5, 9, 10, 11, 12, 16, 17, 20] a b) : agP a b := by
  refine ⟨fun k i s hp => ?_, h 13 (by decide) 0 0⟩
  refine h k ?_ i s
  unfold per at hp
  simp only [List.mem_cons, List.not_mem_nil, or_false]
  omega
theorem agP_of13 {a b : IM} (h : ag [5, 9, 10, 11, 12, 13, 16, 17, 20] a b) (h2 : a 13 0 0 = b 13 0 0) : agP a b := by
  refine ⟨fun k i s hp => ?_, h2⟩
  refine h k ?_ i s
  unfold per at hp
  simp only [List.mem_cons, List.not_mem_nil, or_false]
  omega
/-- the class is in order -/
def SC (im : IM) : Prop := RI im ∧ WI im 0 ∧ im 18 0 4 ≤ 999 ∧ (1 ≤ im 0 0 8 ∧ im 0 0 8 ≤ 6) ∧ im 18 0 7 < im 0 0 8 ∧ (∀ j : Nat, (j : Int) < im 0 0 8 → goodT im j) ∧ im 13 0 0 = 0 ∧ (0 ≤ im 14 0 1 ∧ im 14 0 1 ≤ 160) ∧ (∀ j, j < 4 → -1 ≤ im 7 j 1 ∧ im 7 j 1 ≤ 2 ∧ 0 ≤ im 7 j 2 ∧ im 7 j 2 ≤ 40) ∧ ((im 0 0 9 = 0 ∨ im 0 0 9 = 1) ∧ (im 0 0 9 = 1 → WI im 2 ∧ im 18 2 4 ≤ 999 ∧ im 18 2 7 < im 0 0 8)) ∧ (∀ i, i < 160 → 0 ≤ im 15 0 i ∧ im 15 0 i ≤ 255)
/-- behind a call: what it keeps -/
def stC (lm F : IM) (m' : Mem) : Prop := ∃ im' bt' rt', bt' < 6 ∧ rt' < 6 ∧ RI im' ∧ agP im' F ∧ m' = (im', rs bt' rt', lm)
theorem if01 {c : Prop} [Decidable c] {x : Int} (h : x = if c then 1 else 0) : (x = 1 ∧ c) ∨ (x = 0 ∧ ¬ c) := by
  by_cases hc : c
  · left; rw [if_pos hc] at h; exact ⟨h, hc⟩
  · right; rw [if_neg hc] at h; exact ⟨h, hc⟩

def setA (im : IM) (what of v : Int) : Int := if what = 0 then (if 0 ≤ v ∧ v ≤ 999 then im 18 0 4 else -2) else if what = 1 then (if 0 ≤ v ∧ v < 16777216 then im 18 0 5 else -2) else if what = 2 ∧ (0 ≤ of ∧ of < im 18 0 3) ∧ 0 ≤ v ∧ v < 10 then im 21 (5 * 0 + of.toNat) 1 else -2
def setM (im : IM) (what of v : Int) : IM := if what = 0 then (if 0 ≤ v ∧ v ≤ 999 then up im 18 0 4 v else im) else if what = 1 then (if 0 ≤ v ∧ v < 16777216 then up im 18 0 5 v else im) else if what = 2 ∧ (0 ≤ of ∧ of < im 18 0 3) ∧ 0 ≤ v ∧ v < 10 then up im 21 (5 * 0 + of.toNat) 1 v else im

set_option maxHeartbeats 4000000 in
theorem c_X8_setHour (l : Launch) (G : GS) (im : IM) (bt rt : Nat) (lm : IM) (v : Int) (hv : ri v) : Cn l (XC G) yX8_setHour Y_X8_setHour [vR 0 0, vI v] (im, rs bt rt, lm) (pI fun x m' => x = (if 0 ≤ v ∧ v ≤ 999 then im 18 0 4 else -2) ∧ m' = ((if 0 ≤ v ∧ v ≤ 999 then up im 18 0 4 v else im), rs bt rt, lm)) := by
  refine cn_of (by decide) (okC G) rfl (Nat.le_of_ble_eq_true rfl) ?_
  intro M ad hMl F
  subst hMl
  have hv1 := hv.1
  have hv2 := hv.2
  refine wp_pad 1 ?_
  show Wp M (XC G) ad Y_X8_setHour (pI fun x m' => x = (if 0 ≤ v ∧ v ≤ 999 then im 18 0 4 else -2) ∧ m' = ((if 0 ≤ v ∧ v ≤ 999 then up im 18 0 4 v else im), rs bt rt, lm)) 0 [some (vR 0 0), some (vI v), none] [] (im, rs bt rt, lm)
  refine q_iload_n (t := 1) F dX8_setHour_0 rfl rfl rfl ?_
  refine q_if_lt (t := 4) (u := 11) F dX8_setHour_1 (by first | exact hR _ _ _ | (constructor <;> omega)) (by decide) rfl (fun c1 => ?_) (fun c1 => ?_)
  · refine q_bipush (t := 13) F dX8_setHour_11 (by decide) rfl ?_
    refine q_iret F dX8_setHour_13 rfl ?_
    first | exact ⟨_, rfl, by rw [if_pos (by omega)], by rw [if_pos (by omega)]⟩ | exact ⟨_, rfl, by rw [if_neg (by omega)], by rw [if_neg (by omega)]⟩
  · refine q_iload_n (t := 5) F dX8_setHour_4 rfl rfl rfl ?_
    refine q_sipush (t := 8) F dX8_setHour_5 (by decide) rfl ?_
    refine q_icmp_le (t := 11) (u := 14) F dX8_setHour_8 (by first | exact hR _ _ _ | (constructor <;> omega)) (by first | exact hR _ _ _ | (constructor <;> omega)) (by decide) rfl (fun c8 => ?_) (fun c8 => ?_)
    · refine q_aload_n (t := 15) F dX8_setHour_14 rfl rfl rfl ?_
      refine g_X8_51 (t := 18) F dX8_setHour_15 rfl rfl ?_
      refine g_X8_108 (t := 21) F dX8_setHour_18 rfl (by omega) rfl ?_
      refine q_istore_n (t := 22) F dX8_setHour_21 rfl (by decide) rfl rfl ?_
      refine q_aload_n (t := 23) F dX8_setHour_22 rfl rfl rfl ?_
      refine g_X8_51 (t := 26) F dX8_setHour_23 rfl rfl ?_
      refine q_iload_n (t := 27) F dX8_setHour_26 rfl rfl rfl ?_
      refine p_X8_108 (t := 30) F dX8_setHour_27 rfl (by omega) rfl ?_
      refine q_iload_n (t := 31) F dX8_setHour_30 rfl rfl rfl ?_
      refine q_iret F dX8_setHour_31 rfl ?_
      first | exact ⟨_, rfl, by rw [if_pos (by omega)], by rw [if_pos (by omega)]⟩ | exact ⟨_, rfl, by rw [if_neg (by omega)], by rw [if_neg (by omega)]⟩
    · refine q_bipush (t := 13) F dX8_setHour_11 (by decide) rfl ?_
      refine q_iret F dX8_setHour_13 rfl ?_
      first | exact ⟨_, rfl, by rw [if_pos (by omega)], by rw [if_pos (by omega)]⟩ | exact ⟨_, rfl, by rw [if_neg (by omega)], by rw [if_neg (by omega)]⟩

set_option maxHeartbeats 4000000 in
theorem c_X8_setChurch (l : Launch) (G : GS) (im : IM) (bt rt : Nat) (lm : IM) (v : Int) (hv : ri v) : Cn l (XC G) yX8_setChurch Y_X8_setChurch [vR 0 0, vI v] (im, rs bt rt, lm) (pI fun x m' => x = (if 0 ≤ v ∧ v < 16777216 then im 18 0 5 else -2) ∧ m' = ((if 0 ≤ v ∧ v < 16777216 then up im 18 0 5 v else im), rs bt rt, lm)) := by
  refine cn_of (by decide) (okC G) rfl (Nat.le_of_ble_eq_true rfl) ?_
  intro M ad hMl F
  subst hMl
  have hv1 := hv.1
  have hv2 := hv.2
  refine wp_pad 1 ?_
  show Wp M (XC G) ad Y_X8_setChurch (pI fun x m' => x = (if 0 ≤ v ∧ v < 16777216 then im 18 0 5 else -2) ∧ m' = ((if 0 ≤ v ∧ v < 16777216 then up im 18 0 5 v else im), rs bt rt, lm)) 0 [some (vR 0 0), some (vI v), none] [] (im, rs bt rt, lm)
  refine q_iload_n (t := 1) F dX8_setChurch_0 rfl rfl rfl ?_
  refine q_ldc (t := 3) (x := 16777216) F dX8_setChurch_1 ki_X8_111 (by decide) rfl ?_
  refine wp_callS (t := 6) [_, _] F dX8_setChurch_3 k_X8_within st_X8_within ml_X8_95 rfl rfl (Nat.le_of_ble_eq_true rfl) (by decide) (c_X8_within _ G _ bt rt lm v 16777216 hv (by constructor <;> omega)) rfl (kI ?_)
  rintro x3 m' ⟨hx3, rfl⟩
  have hx3 := if01 hx3
  refine q_if_ne (t := 9) (u := 12) F dX8_setChurch_6 (by first | exact hR _ _ _ | (constructor <;> omega)) (by decide) rfl (fun c6 => ?_) (fun c6 => ?_)
  · refine q_aload_n (t := 13) F dX8_setChurch_12 rfl rfl rfl ?_
    refine g_X8_51 (t := 16) F dX8_setChurch_13 rfl rfl ?_
    refine g_X8_112 (t := 19) F dX8_setChurch_16 rfl (by omega) rfl ?_
    try simp only [up_app, row_app, scr_app, cpy_app, Nat.reduceEqDiff, Int.reduceToNat, Int.toNat_natCast, and_true, true_and, and_false, false_and, and_self, reduceIte]
    refine q_istore_n (t := 20) F dX8_setChurch_19 rfl (by decide) rfl rfl ?_
    refine q_aload_n (t := 21) F dX8_setChurch_20 rfl rfl rfl ?_
    refine g_X8_51 (t := 24) F dX8_setChurch_21 rfl rfl ?_
    refine q_iload_n (t := 25) F dX8_setChurch_24 rfl rfl rfl ?_
    refine p_X8_112 (t := 28) F dX8_setChurch_25 rfl (by omega) rfl ?_
    refine q_iload_n (t := 29) F dX8_setChurch_28 rfl rfl rfl ?_
    refine q_iret F dX8_setChurch_29 rfl ?_
    first | exact ⟨_, rfl, by rw [if_pos (by omega)], by rw [if_pos (by omega)]⟩ | exact ⟨_, rfl, by rw [if_neg (by omega)], by rw [if_neg (by omega)]⟩
  · refine q_bipush (t := 11) F dX8_setChurch_9 (by decide) rfl ?_
    refine q_iret F dX8_setChurch_11 rfl ?_
    first | exact ⟨_, rfl, by rw [if_pos (by omega)], by rw [if_pos (by omega)]⟩ | exact ⟨_, rfl, by rw [if_neg (by omega)], by rw [if_neg (by omega)]⟩

set_option maxHeartbeats 4000000 in
theorem c_X8_set (l : Launch) (G : GS) (im : IM) (bt rt : Nat) (lm : IM) (hbt : bt < 6) (hrt : rt < 6) (hS : SC im) (what : Int) (of : Int) (v : Int) (hwhat : ri what) (hof : ri of) (hv : ri v) : Cn l (XC G) yX8_set Y_X8_set [vR 0 0, vI what, vI of, vI v] (im, rs bt rt, lm) (pI fun x m' => x = setA im what of v ∧ stC lm (setM im what of v) m') := by
  refine cn_of (by decide) (okC G) rfl (Nat.le_of_ble_eq_true rfl) ?_
  intro M ad hMl F
  subst hMl
  obtain ⟨hR, hW, hh, htc, hru, hgt, hz, hrd, hsh, him, htp⟩ := hS
  have w1 := hW.1
  have w2 := hW.2.1
  have w3 := hW.2.2.1
  have w4 := hW.2.2.2.1
  have w5 := hW.2.2.2.2.1
  have hwhat1 := hwhat.1
  have hwhat2 := hwhat.2
  have hof1 := hof.1
  have hof2 := hof.2
  have hv1 := hv.1
  have hv2 := hv.2
  refine wp_pad 2 ?_
  show Wp M (XC G) ad Y_X8_set (pI fun x m' => x = setA im what of v ∧ stC lm (setM im what of v) m') 0 [some (vR 0 0), some (vI what), some (vI of), some (vI v), none, none] [] (im, rs bt rt, lm)
  refine q_iload_n (t := 1) F dX8_set_0 rfl rfl rfl ?_
  refine q_if_ne (t := 4) (u := 10) F dX8_set_1 (by first | exact hR _ _ _ | (constructor <;> omega)) (by decide) rfl (fun c1 => ?_) (fun c1 => ?_)
  · refine q_iload_n (t := 11) F dX8_set_10 rfl rfl rfl ?_
    refine q_iconst (t := 12) F dX8_set_11 rfl ?_
    refine q_icmp_ne (t := 15) (u := 21) F dX8_set_12 (by first | exact hR _ _ _ | (constructor <;> omega)) (by first | exact hR _ _ _ | (constructor <;> omega)) (by decide) rfl (fun c12 => ?_) (fun c12 => ?_)
    · refine q_iload_n (t := 22) F dX8_set_21 rfl rfl rfl ?_
      refine q_iconst (t := 23) F dX8_set_22 rfl ?_
      refine q_icmp_ne (t := 26) (u := 43) F dX8_set_23 (by first | exact hR _ _ _ | (constructor <;> omega)) (by first | exact hR _ _ _ | (constructor <;> omega)) (by decide) rfl (fun c23 => ?_) (fun c23 => ?_)
      · refine q_bipush (t := 45) F dX8_set_43 (by decide) rfl ?_
        refine q_iret F dX8_set_45 rfl ?_
        refine ⟨_, rfl, ?_, _, bt, rt, hbt, hrt, (by repeat' first | exact hR | refine RI_up ?_ ?_ | assumption | exact hR _ _ _ | (constructor <;> omega)), ?_, rfl⟩
        · unfold setA
          (repeat' split) <;> omega
        · unfold setM
          (repeat' split) <;> first | exact agP_rfl _ | (exfalso; omega)
      · refine q_aload_n (t := 27) F dX8_set_26 rfl rfl rfl ?_
        refine q_iload_n (t := 28) F dX8_set_27 rfl rfl rfl ?_
        refine wp_callV (t := 31) [_] F dX8_set_28 k_X8_isOne v_X8_isOne ml_X8_91 rfl rfl rfl rfl (Nat.le_of_ble_eq_true rfl) (by decide) (m_0 (by omega)) (c_X8_isOne _ G _ bt rt lm of hof hR) rfl (kI ?_)
        rintro x28 m' ⟨hx28, rfl⟩
        have hx28 := if01 hx28
        refine q_if_eq (t := 34) (u := 43) F dX8_set_31 (by first | exact hR _ _ _ | (constructor <;> omega)) (by decide) rfl (fun c31 => ?_) (fun c31 => ?_)
        · refine q_bipush (t := 45) F dX8_set_43 (by decide) rfl ?_
          refine q_iret F dX8_set_45 rfl ?_
          refine ⟨_, rfl, ?_, _, bt, rt, hbt, hrt, (by repeat' first | exact hR | refine RI_up ?_ ?_ | assumption | exact hR _ _ _ | (constructor <;> omega)), ?_, rfl⟩
          · unfold setA
            (repeat' split) <;> omega
          · unfold setM
            (repeat' split) <;> first | exact agP_rfl _ | (exfalso; omega)
        · refine q_iload_n (t := 35) F dX8_set_34 rfl rfl rfl ?_
          refine q_bipush (t := 37) F dX8_set_35 (by decide) rfl ?_
          refine wp_callS (t := 40) [_, _] F dX8_set_37 k_X8_within st_X8_within ml_X8_95 rfl rfl (Nat.le_of_ble_eq_true rfl) (by decide) (c_X8_within _ G _ bt rt lm v 10 hv (by constructor <;> omega)) rfl (kI ?_)
          rintro x37 m' ⟨hx37, rfl⟩
          have hx37 := if01 hx37
          refine q_if_ne (t := 43) (u := 46) F dX8_set_40 (by first | exact hR _ _ _ | (constructor <;> omega)) (by decide) rfl (fun c40 => ?_) (fun c40 => ?_)
          · refine q_aload_n (t := 47) F dX8_set_46 rfl rfl rfl ?_
            refine g_X8_51 (t := 50) F dX8_set_47 rfl rfl ?_
            refine g_X8_99 (t := 53) F dX8_set_50 rfl (by omega) rfl ?_
            refine q_iload_n (t := 54) F dX8_set_53 rfl rfl rfl ?_
            refine la_19 (t := 55) F dX8_set_54 (by omega) (by omega) (by omega) rfl ?_
            refine q_astore (t := 57) F dX8_set_55 (by decide) rfl rfl ?_
            refine q_aload (t := 59) F dX8_set_57 rfl rfl ?_
            refine g_X8_103 (t := 62) F dX8_set_59 rfl (by omega) rfl ?_
            try simp only [up_app, row_app, scr_app, cpy_app, Nat.reduceEqDiff, Int.reduceToNat, Int.toNat_natCast, and_true, true_and, and_false, false_and, and_self, reduceIte]
            refine q_istore (t := 64) F dX8_set_62 (by decide) rfl rfl ?_
            refine q_aload (t := 66) F dX8_set_64 rfl rfl ?_
            refine q_iload_n (t := 67) F dX8_set_66 rfl rfl rfl ?_
            refine p_X8_103 (t := 70) F dX8_set_67 rfl (by omega) rfl ?_
            refine q_iload (t := 72) F dX8_set_70 rfl rfl ?_
            refine q_iret F dX8_set_72 rfl ?_
            refine ⟨_, rfl, ?_, _, bt, rt, hbt, hrt, (by repeat' first | exact hR | refine RI_up ?_ ?_ | assumption | exact hR _ _ _ | (constructor <;> omega)), ?_, rfl⟩
            · unfold setA
              (repeat' split) <;> omega
            · unfold setM
              (repeat' split) <;> first | exact agP_rfl _ | (exfalso; omega)
          · refine q_bipush (t := 45) F dX8_set_43 (by decide) rfl ?_
            refine q_iret F dX8_set_45 rfl ?_
            refine ⟨_, rfl, ?_, _, bt, rt, hbt, hrt, (by repeat' first | exact hR | refine RI_up ?_ ?_ | assumption | exact hR _ _ _ | (constructor <;> omega)), ?_, rfl⟩
            · unfold setA
              (repeat' split) <;> omega
            · unfold setM
              (repeat' split) <;> first | exact agP_rfl _ | (exfalso; omega)
    · refine q_aload_n (t := 16) F dX8_set_15 rfl rfl rfl ?_
      refine q_iload_n (t := 17) F dX8_set_16 rfl rfl rfl ?_
      refine wp_callV (t := 20) [_] F dX8_set_17 k_X8_setChurch v_X8_setChurch ml_X8_88 rfl rfl rfl rfl (Nat.le_of_ble_eq_true rfl) (by decide) (m_0 (by omega)) (c_X8_setChurch _ G im bt rt lm v hv) rfl (kI ?_)
      rintro x17 m' ⟨rfl, rfl⟩
      refine q_iret F dX8_set_20 rfl ?_
      refine ⟨_, rfl, ?_, _, bt, rt, hbt, hrt, (by split <;> first | exact RI_up hR hv | exact hR), ?_, rfl⟩
      · unfold setA
        (repeat' split) <;> omega
      · unfold setM
        (repeat' split) <;> first | exact agP_rfl _ | (exfalso; omega)
  · refine q_aload_n (t := 5) F dX8_set_4 rfl rfl rfl ?_
    refine q_iload_n (t := 6) F dX8_set_5 rfl rfl rfl ?_
    refine wp_callV (t := 9) [_] F dX8_set_6 k_X8_setHour v_X8_setHour ml_X8_85 rfl rfl rfl rfl (Nat.le_of_ble_eq_true rfl) (by decide) (m_0 (by omega)) (c_X8_setHour _ G im bt rt lm v hv) rfl (kI ?_)
    rintro x6 m' ⟨rfl, rfl⟩
    refine q_iret F dX8_set_9 rfl ?_
    refine ⟨_, rfl, ?_, _, bt, rt, hbt, hrt, (by split <;> first | exact RI_up hR hv | exact hR), ?_, rfl⟩
    · unfold setA
      (repeat' split) <;> omega
    · unfold setM
      (repeat' split) <;> first | exact agP_rfl _ | (exfalso; omega)

def manA (im : IM) (kind number : Int) : Int := if (0 ≤ kind ∧ kind < 6) ∧ 0 ≤ number ∧ number < 10 then (if 5 ≤ im 18 0 3 then -4 else im 18 0 3) else -2
def manM (im : IM) (kind number : Int) : IM := if ((0 ≤ kind ∧ kind < 6) ∧ 0 ≤ number ∧ number < 10) ∧ im 18 0 3 < 5 then welM im 0 kind number else im

set_option maxHeartbeats 4000000 in
theorem c_X8_man (l : Launch) (G : GS) (im : IM) (bt rt : Nat) (lm : IM) (hbt : bt < 6) (hrt : rt < 6) (hS : SC im) (kind : Int) (number : Int) (hkind : ri kind) (hnumber : ri number) : Cn l (XC G) yX8_man Y_X8_man [vR 0 0, vI kind, vI number] (im, rs bt rt, lm) (pI fun x m' => x = manA im kind number ∧ stC lm (manM im kind number) m') := by
  refine cn_of (by decide) (okC G) rfl (Nat.le_of_ble_eq_true rfl) ?_
  intro M ad hMl F
  subst hMl
  obtain ⟨hR, hW, hh, htc, hru, hgt, hz, hrd, hsh, him, htp⟩ := hS
  have w1 := hW.1
  have w2 := hW.2.1
  have w3 := hW.2.2.1
  have w4 := hW.2.2.2.1
  have w5 := hW.2.2.2.2.1
  have hkind1 := hkind.1
  have hkind2 := hkind.2
  have hnumber1 := hnumber.1
  have hnumber2 := hnumber.2
  refine wp_pad 0 ?_
  show Wp M (XC G) ad Y_X8_man (pI fun x m' => x = manA im kind number ∧ stC lm (manM im kind number) m') 0 [some (vR 0 0), some (vI kind), some (vI number)] [] (im, rs bt rt, lm)
  refine q_iload_n (t := 1) F dX8_man_0 rfl rfl rfl ?_
  refine q_bipush (t := 3) F dX8_man_1 (by decide) rfl ?_
  refine wp_callS (t := 6) [_, _] F dX8_man_3 k_X8_within st_X8_within ml_X8_95 rfl rfl (Nat.le_of_ble_eq_true rfl) (by decide) (c_X8_within _ G _ bt rt lm kind 6 hkind (by constructor <;> omega)) rfl (kI ?_)
  rintro x3 m' ⟨hx3, rfl⟩
  have hx3 := if01 hx3
  refine q_if_eq (t := 9) (u := 18) F dX8_man_6 (by first | exact hR _ _ _ | (constructor <;> omega)) (by decide) rfl (fun c6 => ?_) (fun c6 => ?_)
  · refine q_bipush (t := 20) F dX8_man_18 (by decide) rfl ?_
    refine q_iret F dX8_man_20 rfl ?_
    refine ⟨_, rfl, ?_, _, bt, rt, hbt, hrt, (by repeat' first | exact hR | refine RI_up ?_ ?_ | assumption | exact hR _ _ _ | (constructor <;> omega)), ?_, rfl⟩
    · unfold manA
      (repeat' split) <;> omega
    · unfold manM
      (repeat' split) <;> first | exact agP_rfl _ | (exfalso; omega)
  · refine q_iload_n (t := 10) F dX8_man_9 rfl rfl rfl ?_
    refine q_bipush (t := 12) F dX8_man_10 (by decide) rfl ?_
    refine wp_callS (t := 15) [_, _] F dX8_man_12 k_X8_within st_X8_within ml_X8_95 rfl rfl (Nat.le_of_ble_eq_true rfl) (by decide) (c_X8_within _ G _ bt rt lm number 10 hnumber (by constructor <;> omega)) rfl (kI ?_)
    rintro x12 m' ⟨hx12, rfl⟩
    have hx12 := if01 hx12
    refine q_if_ne (t := 18) (u := 21) F dX8_man_15 (by first | exact hR _ _ _ | (constructor <;> omega)) (by decide) rfl (fun c15 => ?_) (fun c15 => ?_)
    · refine q_aload_n (t := 22) F dX8_man_21 rfl rfl rfl ?_
      refine g_X8_51 (t := 25) F dX8_man_22 rfl rfl ?_
      refine g_X8_115 (t := 28) F dX8_man_25 rfl (by omega) rfl ?_
      try simp only [up_app, row_app, scr_app, cpy_app, Nat.reduceEqDiff, Int.reduceToNat, Int.toNat_natCast, and_true, true_and, and_false, false_and, and_self, reduceIte]
      refine q_iconst (t := 29) F dX8_man_28 rfl ?_
      refine q_icmp_lt (t := 32) (u := 35) F dX8_man_29 (by first | exact hR _ _ _ | (constructor <;> omega)) (by first | exact hR _ _ _ | (constructor <;> omega)) (by decide) rfl (fun c29 => ?_) (fun c29 => ?_)
      · refine q_aload_n (t := 36) F dX8_man_35 rfl rfl rfl ?_
        refine g_X8_51 (t := 39) F dX8_man_36 rfl rfl ?_
        refine q_iload_n (t := 40) F dX8_man_39 rfl rfl rfl ?_
        refine q_iload_n (t := 41) F dX8_man_40 rfl rfl rfl ?_
        refine wp_callV (t := 44) [_, _] F dX8_man_41 k_X7_welcome v_X7_welcome ml_X8_118 rfl rfl rfl rfl (Nat.le_of_ble_eq_true rfl) (by decide) (m_18 (by omega)) (c_X7_welcome _ G im bt rt lm 0 (by omega) kind number w1.1 (by omega)) rfl (kI ?_)
        rintro x41 m' ⟨rfl, rfl⟩
        refine q_iret F dX8_man_44 rfl ?_
        refine ⟨_, rfl, ?_, _, bt, rt, hbt, hrt, (by unfold welM; exact RI_up (RI_fl (RI_up (RI_up hR hkind) hnumber) (by constructor <;> omega)) (by constructor <;> omega)), ?_, rfl⟩
        · unfold manA
          (repeat' split) <;> omega
        · unfold manM
          (repeat' split) <;> first | exact agP_rfl _ | (exfalso; omega)
      · refine q_bipush (t := 34) F dX8_man_32 (by decide) rfl ?_
        refine q_iret F dX8_man_34 rfl ?_
        refine ⟨_, rfl, ?_, _, bt, rt, hbt, hrt, (by repeat' first | exact hR | refine RI_up ?_ ?_ | assumption | exact hR _ _ _ | (constructor <;> omega)), ?_, rfl⟩
        · unfold manA
          (repeat' split) <;> omega
        · unfold manM
          (repeat' split) <;> first | exact agP_rfl _ | (exfalso; omega)
    · refine q_bipush (t := 20) F dX8_man_18 (by decide) rfl ?_
      refine q_iret F dX8_man_20 rfl ?_
      refine ⟨_, rfl, ?_, _, bt, rt, hbt, hrt, (by repeat' first | exact hR | refine RI_up ?_ ?_ | assumption | exact hR _ _ _ | (constructor <;> omega)), ?_, rfl⟩
      · unfold manA
        (repeat' split) <;> omega
      · unfold manM
        (repeat' split) <;> first | exact agP_rfl _ | (exfalso; omega)

def tgA (im : IM) (p gap side : Int) : Int := if side = 1 ∨ im 22 (5 * 0 + p.toNat) gap.toNat = -1 then im 22 (5 * 0 + p.toNat) gap.toNat else if side = 2 then im 23 (5 * 0 + p.toNat) gap.toNat else hoK (tellV im (im 18 0 7).toNat) (im 21 (5 * 0 + p.toNat) 0) (im 21 (5 * 0 + p.toNat) 1) (im 22 (5 * 0 + p.toNat) gap.toNat) gap.toNat (im 18 0 4) (im 23 (5 * 0 + p.toNat) gap.toNat)
def toldA (im : IM) (of what : Int) : Int := if what = 0 then im 18 0 4 else if what = 1 then im 18 0 5 else if 0 ≤ of ∧ of < im 18 0 3 then (if what = 2 then im 21 (5 * 0 + of.toNat) 1 else if what = 3 then im 21 (5 * 0 + of.toNat) 0 else if what = 4 then cntW (im 22 (5 * 0 + of.toNat)) 10 else if what < 10 ∨ 39 < what then -2 else tgA im of (what % 10) (what / 10)) else -2
theorem holdsB_K (im : IM) (j : Nat) (x y : Int) (h1 : im 17 0 1 = 0) : holdsB im j x y = hoK (tellV im j) (im 16 0 2) (im 17 0 3) (im 17 0 0) (im 17 0 4) y x := by
  unfold holdsB hoK
  rw [tellV_nm (nmB_P im _ _ h1)]
theorem look_holds (im : IM) (w man gap : Nat) (x y : Int) : holdsB (lookM im w man gap) (im 18 w 7).toNat x y = hoK (tellV im (im 18 w 7).toNat) (im 21 (5 * w + man) 0) (im 21 (5 * w + man) 1) (im 22 (5 * w + man) gap) gap y x := by
  rw [holdsB_K _ _ _ _ rfl]
  rw [show tellV (lookM im w man gap) (im 18 w 7).toNat = tellV im (im 18 w 7).toNat from tellV_fun (fun s => rfl) (fun s => rfl)]
  rfl

set_option maxHeartbeats 4000000 in
theorem c_X8_toldOfGap (l : Launch) (G : GS) (im : IM) (bt rt : Nat) (lm : IM) (hbt : bt < 6) (hrt : rt < 6) (hS : SC im) (p g : Nat) (hp : (p : Int) < im 18 0 3) (hg : g < 10) (side : Int) (hside : ri side) : Cn l (XC G) yX8_toldOfGap Y_X8_toldOfGap [vR 0 0, vI (p : Int), vI (g : Int), vI side] (im, rs bt rt, lm) (pI fun x m' => x = tgA im p g side ∧ stC lm im m') := by
  refine cn_of (by decide) (okC G) rfl (Nat.le_of_ble_eq_true rfl) ?_
  intro M ad hMl F
  subst hMl
  obtain ⟨hR, hW, hh, htc, hru, hgt, hz, hrd, hsh, him, htp⟩ := hS
  have w1 := hW.1
  have w2 := hW.2.1
  have w3 := hW.2.2.1
  have w4 := hW.2.2.2.1
  have w5 := hW.2.2.2.2.1
  have hs1 := hside.1
  have hs2 := hside.2
  obtain ⟨r0, r1, hT, k0, k1, n0, n1, hga, hh0, hh1, hm5⟩ := cell_of hW hp
  refine wp_pad 1 ?_
  show Wp M (XC G) ad Y_X8_toldOfGap (pI fun x m' => x = tgA im p g side ∧ stC lm im m') 0 [some (vR 0 0), some (vI (p : Int)), some (vI (g : Int)), some (vI side), none] [] (im, rs bt rt, lm)
  refine q_aload_n (t := 1) F dX8_toldOfGap_0 rfl rfl rfl ?_
  refine g_X8_51 (t := 4) F dX8_toldOfGap_1 rfl rfl ?_
  refine g_X8_99 (t := 7) F dX8_toldOfGap_4 rfl (by omega) rfl ?_
  refine q_iload_n (t := 8) F dX8_toldOfGap_7 rfl rfl rfl ?_
  first | refine laN_19 (t := 9) F dX8_toldOfGap_8 (by omega) (by omega) rfl ?_ | refine la_19 (t := 9) F dX8_toldOfGap_8 (by omega) (by omega) (by omega) rfl ?_
  refine q_astore (t := 11) F dX8_toldOfGap_9 (by decide) rfl rfl ?_
  refine q_iload_n (t := 12) F dX8_toldOfGap_11 rfl rfl rfl ?_
  refine q_iconst (t := 13) F dX8_toldOfGap_12 rfl ?_
  refine q_icmp_eq (t := 16) (u := 27) F dX8_toldOfGap_13 (by first | exact hR _ _ _ | (constructor <;> omega)) (by first | exact hR _ _ _ | (constructor <;> omega)) (by decide) rfl (fun c13 => ?_) (fun c13 => ?_)
  · refine q_aload (t := 29) F dX8_toldOfGap_27 rfl rfl ?_
    refine g_X8_132 (t := 32) F dX8_toldOfGap_29 rfl (by omega) rfl ?_
    refine q_iload_n (t := 33) F dX8_toldOfGap_32 rfl rfl rfl ?_
    first | refine ldN_22 (t := 34) F dX8_toldOfGap_33 (by omega) (by omega) rfl ?_ | refine ld_22 (t := 34) F dX8_toldOfGap_33 (by omega) (by omega) (by omega) rfl ?_
    refine q_iret F dX8_toldOfGap_34 rfl ?_
    refine ⟨_, rfl, ?_, _, bt, rt, hbt, hrt, hR, agP_rfl _, rfl⟩
    unfold tgA
    simp only [Int.toNat_natCast]
    rw [if_pos (by omega)]
  · refine q_aload (t := 18) F dX8_toldOfGap_16 rfl rfl ?_
    refine g_X8_132 (t := 21) F dX8_toldOfGap_18 rfl (by omega) rfl ?_
    refine q_iload_n (t := 22) F dX8_toldOfGap_21 rfl rfl rfl ?_
    first | refine ldN_22 (t := 23) F dX8_toldOfGap_22 (by omega) (by omega) rfl ?_ | refine ld_22 (t := 23) F dX8_toldOfGap_22 (by omega) (by omega) (by omega) rfl ?_
    refine q_iconst (t := 24) F dX8_toldOfGap_23 rfl ?_
    refine q_icmp_ne (t := 27) (u := 35) F dX8_toldOfGap_24 (by first | exact hR _ _ _ | (constructor <;> omega)) (by first | exact hR _ _ _ | (constructor <;> omega)) (by decide) rfl (fun c24 => ?_) (fun c24 => ?_)
    · refine q_iload_n (t := 36) F dX8_toldOfGap_35 rfl rfl rfl ?_
      refine q_iconst (t := 37) F dX8_toldOfGap_36 rfl ?_
      refine q_icmp_ne (t := 40) (u := 48) F dX8_toldOfGap_37 (by first | exact hR _ _ _ | (constructor <;> omega)) (by first | exact hR _ _ _ | (constructor <;> omega)) (by decide) rfl (fun c37 => ?_) (fun c37 => ?_)
      · refine q_aload_n (t := 49) F dX8_toldOfGap_48 rfl rfl rfl ?_
        refine g_X8_42 (t := 52) F dX8_toldOfGap_49 rfl rfl ?_
        refine q_aload_n (t := 53) F dX8_toldOfGap_52 rfl rfl rfl ?_
        refine g_X8_51 (t := 56) F dX8_toldOfGap_53 rfl rfl ?_
        refine q_iload_n (t := 57) F dX8_toldOfGap_56 rfl rfl rfl ?_
        refine q_iload_n (t := 58) F dX8_toldOfGap_57 rfl rfl rfl ?_
        refine wp_callV (t := 61) [_, _, _] F dX8_toldOfGap_58 k_X0_look v_X0_look ml_X8_139 rfl rfl rfl rfl (Nat.le_of_ble_eq_true rfl) (by decide) (m_16 (by omega)) (c_X0_look _ G im bt rt lm 0 p g (by omega) hm5 hg r0 r1) rfl (kV ?_)
        rintro m' rfl
        have hRl := RI_look (w := 0) (p := p) (g := g) hR hg
        have hb4 : (im 18 0 7).toNat < 6 := by omega
        refine q_aload_n (t := 62) F dX8_toldOfGap_61 rfl rfl rfl ?_
        refine g_X8_42 (t := 65) F dX8_toldOfGap_62 rfl rfl ?_
        refine q_aload (t := 67) F dX8_toldOfGap_65 rfl rfl ?_
        refine g_X8_136 (t := 70) F dX8_toldOfGap_67 rfl (by omega) rfl ?_
        refine q_iload_n (t := 71) F dX8_toldOfGap_70 rfl rfl rfl ?_
        first | refine ldN_23 (t := 72) F dX8_toldOfGap_71 (by omega) (by omega) rfl ?_ | refine ld_23 (t := 72) F dX8_toldOfGap_71 (by omega) (by omega) (by omega) rfl ?_
        try simp only [up_app, row_app, scr_app, cpy_app, Nat.reduceEqDiff, Int.reduceToNat, Int.toNat_natCast, and_true, true_and, and_false, false_and, and_self, reduceIte]
        refine q_aload_n (t := 73) F dX8_toldOfGap_72 rfl rfl rfl ?_
        refine g_X8_51 (t := 76) F dX8_toldOfGap_73 rfl rfl ?_
        refine g_X8_108 (t := 79) F dX8_toldOfGap_76 rfl (by omega) rfl ?_
        try simp only [up_app, row_app, scr_app, cpy_app, Nat.reduceEqDiff, Int.reduceToNat, Int.toNat_natCast, and_true, true_and, and_false, false_and, and_self, reduceIte]
        rw [show lookM im 0 p g 23 (5 * 0 + p) g = im 23 (5 * 0 + p) g from rfl, show lookM im 0 p g 18 0 4 = im 18 0 4 from rfl]
        refine wp_callV (t := 82) [_, _] F dX8_toldOfGap_79 k_X0_holds v_X0_holds ml_X8_143 rfl rfl rfl rfl (Nat.le_of_ble_eq_true rfl) (by decide) (m_16 (by omega)) (c_X0_holds _ G (lookM im 0 p g) (im 18 0 7).toNat rt lm (im 23 (5 * 0 + p) g) (im 18 0 4) (hR _ _ _) (hR _ _ _) hb4 hRl (goodT_congr (fun s => rfl) (fun s => rfl) hT) k0 k1 n0 n1) rfl (kI ?_)
        rintro x79 m' ⟨hx, hgb⟩
        obtain ⟨im3, hR3, hag3, rfl⟩ := garb_ag hgb hRl
        rw [look_holds] at hx
        refine q_iret F dX8_toldOfGap_82 rfl ?_
        refine ⟨_, rfl, ?_, _, _, rt, hb4, hrt, hR3, agP_of ((hag3.mono (by decide)).trans ((look_ag im 0 p g).mono (by decide))), rfl⟩
        unfold tgA
        simp only [Int.toNat_natCast]
        rw [if_neg (by omega), if_neg (by omega), hx]
      · refine q_aload (t := 42) F dX8_toldOfGap_40 rfl rfl ?_
        refine g_X8_136 (t := 45) F dX8_toldOfGap_42 rfl (by omega) rfl ?_
        refine q_iload_n (t := 46) F dX8_toldOfGap_45 rfl rfl rfl ?_
        first | refine ldN_23 (t := 47) F dX8_toldOfGap_46 (by omega) (by omega) rfl ?_ | refine ld_23 (t := 47) F dX8_toldOfGap_46 (by omega) (by omega) (by omega) rfl ?_
        refine q_iret F dX8_toldOfGap_47 rfl ?_
        refine ⟨_, rfl, ?_, _, bt, rt, hbt, hrt, hR, agP_rfl _, rfl⟩
        unfold tgA
        simp only [Int.toNat_natCast]
        rw [if_neg (by omega), if_pos (by omega)]
    · refine q_aload (t := 29) F dX8_toldOfGap_27 rfl rfl ?_
      refine g_X8_132 (t := 32) F dX8_toldOfGap_29 rfl (by omega) rfl ?_
      refine q_iload_n (t := 33) F dX8_toldOfGap_32 rfl rfl rfl ?_
      first | refine ldN_22 (t := 34) F dX8_toldOfGap_33 (by omega) (by omega) rfl ?_ | refine ld_22 (t := 34) F dX8_toldOfGap_33 (by omega) (by omega) (by omega) rfl ?_
      refine q_iret F dX8_toldOfGap_34 rfl ?_
      refine ⟨_, rfl, ?_, _, bt, rt, hbt, hrt, hR, agP_rfl _, rfl⟩
      unfold tgA
      simp only [Int.toNat_natCast]
      rw [if_pos (by omega)]

set_option maxHeartbeats 4000000 in
theorem c_X8_told (l : Launch) (G : GS) (im : IM) (bt rt : Nat) (lm : IM) (hbt : bt < 6) (hrt : rt < 6) (hS : SC im) (of : Int) (what : Int) (hof : ri of) (hwhat : ri what) : Cn l (XC G) yX8_told Y_X8_told [vR 0 0, vI of, vI what] (im, rs bt rt, lm) (pI fun x m' => x = toldA im of what ∧ stC lm im m') := by
  refine cn_of (by decide) (okC G) rfl (Nat.le_of_ble_eq_true rfl) ?_
  intro M ad hMl F
  subst hMl
  obtain ⟨hR, hW, hh, htc, hru, hgt, hz, hrd, hsh, him, htp⟩ := hS
  have w1 := hW.1
  have w2 := hW.2.1
  have w3 := hW.2.2.1
  have w4 := hW.2.2.2.1
  have w5 := hW.2.2.2.2.1
  have hof1 := hof.1
  have hof2 := hof.2
  have hwhat1 := hwhat.1
  have hwhat2 := hwhat.2
  refine wp_pad 1 ?_
  show Wp M (XC G) ad Y_X8_told (pI fun x m' => x = toldA im of what ∧ stC lm im m') 0 [some (vR 0 0), some (vI of), some (vI what), none] [] (im, rs bt rt, lm)
  refine q_iload_n (t := 1) F dX8_told_0 rfl rfl rfl ?_
  refine q_if_ne (t := 4) (u := 12) F dX8_told_1 (by first | exact hR _ _ _ | (constructor <;> omega)) (by decide) rfl (fun c1 => ?_) (fun c1 => ?_)
  · refine q_iload_n (t := 13) F dX8_told_12 rfl rfl rfl ?_
    refine q_iconst (t := 14) F dX8_told_13 rfl ?_
    refine q_icmp_ne (t := 17) (u := 25) F dX8_told_14 (by first | exact hR _ _ _ | (constructor <;> omega)) (by first | exact hR _ _ _ | (constructor <;> omega)) (by decide) rfl (fun c14 => ?_) (fun c14 => ?_)
    · refine q_aload_n (t := 26) F dX8_told_25 rfl rfl rfl ?_
      refine q_iload_n (t := 27) F dX8_told_26 rfl rfl rfl ?_
      refine wp_callV (t := 30) [_] F dX8_told_27 k_X8_isOne v_X8_isOne ml_X8_91 rfl rfl rfl rfl (Nat.le_of_ble_eq_true rfl) (by decide) (m_0 (by omega)) (c_X8_isOne _ G _ bt rt lm of hof hR) rfl (kI ?_)
      rintro x27 m' ⟨hx27, rfl⟩
      have hx27 := if01 hx27
      refine q_if_ne (t := 33) (u := 36) F dX8_told_30 (by first | exact hR _ _ _ | (constructor <;> omega)) (by decide) rfl (fun c30 => ?_) (fun c30 => ?_)
      · refine q_aload_n (t := 37) F dX8_told_36 rfl rfl rfl ?_
        refine g_X8_51 (t := 40) F dX8_told_37 rfl rfl ?_
        refine g_X8_99 (t := 43) F dX8_told_40 rfl (by omega) rfl ?_
        refine q_iload_n (t := 44) F dX8_told_43 rfl rfl rfl ?_
        refine la_19 (t := 45) F dX8_told_44 (by omega) (by omega) (by omega) rfl ?_
        refine q_astore_n (t := 46) F dX8_told_45 rfl (by decide) rfl rfl ?_
        refine q_iload_n (t := 47) F dX8_told_46 rfl rfl rfl ?_
        refine q_iconst (t := 48) F dX8_told_47 rfl ?_
        refine q_icmp_ne (t := 51) (u := 56) F dX8_told_48 (by first | exact hR _ _ _ | (constructor <;> omega)) (by first | exact hR _ _ _ | (constructor <;> omega)) (by decide) rfl (fun c48 => ?_) (fun c48 => ?_)
        · refine q_iload_n (t := 57) F dX8_told_56 rfl rfl rfl ?_
          refine q_iconst (t := 58) F dX8_told_57 rfl ?_
          refine q_icmp_ne (t := 61) (u := 66) F dX8_told_58 (by first | exact hR _ _ _ | (constructor <;> omega)) (by first | exact hR _ _ _ | (constructor <;> omega)) (by decide) rfl (fun c58 => ?_) (fun c58 => ?_)
          · refine q_iload_n (t := 67) F dX8_told_66 rfl rfl rfl ?_
            refine q_iconst (t := 68) F dX8_told_67 rfl ?_
            refine q_icmp_ne (t := 71) (u := 76) F dX8_told_68 (by first | exact hR _ _ _ | (constructor <;> omega)) (by first | exact hR _ _ _ | (constructor <;> omega)) (by decide) rfl (fun c68 => ?_) (fun c68 => ?_)
            · refine q_iload_n (t := 77) F dX8_told_76 rfl rfl rfl ?_
              refine q_bipush (t := 79) F dX8_told_77 (by decide) rfl ?_
              refine q_icmp_lt (t := 82) (u := 88) F dX8_told_79 (by first | exact hR _ _ _ | (constructor <;> omega)) (by first | exact hR _ _ _ | (constructor <;> omega)) (by decide) rfl (fun c79 => ?_) (fun c79 => ?_)
              · refine q_bipush (t := 90) F dX8_told_88 (by decide) rfl ?_
                refine q_iret F dX8_told_90 rfl ?_
                refine ⟨_, rfl, ?_, _, bt, rt, hbt, hrt, (by repeat' first | exact hR | refine RI_up ?_ ?_ | assumption | exact hR _ _ _ | (constructor <;> omega)), ?_, rfl⟩
                · unfold toldA
                  (repeat' split) <;> omega
                · exact agP_rfl _
              · refine q_iload_n (t := 83) F dX8_told_82 rfl rfl rfl ?_
                refine q_bipush (t := 85) F dX8_told_83 (by decide) rfl ?_
                refine q_icmp_le (t := 88) (u := 91) F dX8_told_85 (by first | exact hR _ _ _ | (constructor <;> omega)) (by first | exact hR _ _ _ | (constructor <;> omega)) (by decide) rfl (fun c85 => ?_) (fun c85 => ?_)
                · refine q_aload_n (t := 92) F dX8_told_91 rfl rfl rfl ?_
                  refine q_iload_n (t := 93) F dX8_told_92 rfl rfl rfl ?_
                  refine q_iload_n (t := 94) F dX8_told_93 rfl rfl rfl ?_
                  refine q_bipush (t := 96) F dX8_told_94 (by decide) rfl ?_
                  refine q_irem (t := 97) F dX8_told_96 (by first | exact hR _ _ _ | (constructor <;> omega)) (by first | exact hR _ _ _ | (constructor <;> omega)) (by omega) (by omega) rfl ?_
                  refine q_iload_n (t := 98) F dX8_told_97 rfl rfl rfl ?_
                  refine q_bipush (t := 100) F dX8_told_98 (by decide) rfl ?_
                  refine q_idiv (t := 101) F dX8_told_100 (by first | exact hR _ _ _ | (constructor <;> omega)) (by first | exact hR _ _ _ | (constructor <;> omega)) (by omega) (by omega) rfl ?_
                  rw [show of = ((of.toNat : Nat) : Int) by omega, show what % 10 = (((what % 10).toNat : Nat) : Int) by omega]
                  refine wp_callV (t := 104) [_, _, _] F dX8_told_101 k_X8_toldOfGap v_X8_toldOfGap ml_X8_128 rfl rfl rfl rfl (Nat.le_of_ble_eq_true rfl) (by decide) (m_0 (by omega)) (c_X8_toldOfGap _ G im bt rt lm hbt hrt ⟨hR, hW, hh, htc, hru, hgt, hz, hrd, hsh, him, htp⟩ of.toNat (what % 10).toNat (by omega) (by omega) (what / 10) (by constructor <;> omega)) rfl (kI ?_)
                  rintro x101 m' ⟨hx, hst⟩
                  refine q_iret F dX8_told_104 rfl ?_
                  refine ⟨_, rfl, ?_, hst⟩
                  rw [hx]
                  unfold toldA
                  rw [if_neg (by omega), if_neg (by omega), if_pos (by omega), if_neg (by omega), if_neg (by omega), if_neg (by omega), if_neg (by omega)]
                  unfold tgA
                  simp only [Int.toNat_natCast]
                · refine q_bipush (t := 90) F dX8_told_88 (by decide) rfl ?_
                  refine q_iret F dX8_told_90 rfl ?_
                  refine ⟨_, rfl, ?_, _, bt, rt, hbt, hrt, (by repeat' first | exact hR | refine RI_up ?_ ?_ | assumption | exact hR _ _ _ | (constructor <;> omega)), ?_, rfl⟩
                  · unfold toldA
                    (repeat' split) <;> omega
                  · exact agP_rfl _
            · refine q_aload_n (t := 72) F dX8_told_71 rfl rfl rfl ?_
              refine wp_callV (t := 75) [] F dX8_told_72 k_X3_stuckInAll v_X3_stuckInAll ml_X8_125 rfl rfl rfl rfl (Nat.le_of_ble_eq_true rfl) (by decide) (m_21 (by omega)) (c_X3_stuckInAll _ G im bt rt lm (5 * 0 + of.toNat) (by omega) hR) rfl (kI ?_)
              rintro x72 m' ⟨rfl, rfl⟩
              refine q_iret F dX8_told_75 rfl ?_
              refine ⟨_, rfl, ?_, _, bt, rt, hbt, hrt, (by repeat' first | exact hR | refine RI_up ?_ ?_ | assumption | exact hR _ _ _ | (constructor <;> omega)), ?_, rfl⟩
              · unfold toldA
                (repeat' split) <;> omega
              · exact agP_rfl _
          · refine q_aload_n (t := 62) F dX8_told_61 rfl rfl rfl ?_
            refine g_X8_122 (t := 65) F dX8_told_62 rfl (by omega) rfl ?_
            try simp only [up_app, row_app, scr_app, cpy_app, Nat.reduceEqDiff, Int.reduceToNat, Int.toNat_natCast, and_true, true_and, and_false, false_and, and_self, reduceIte]
            refine q_iret F dX8_told_65 rfl ?_
            refine ⟨_, rfl, ?_, _, bt, rt, hbt, hrt, (by repeat' first | exact hR | refine RI_up ?_ ?_ | assumption | exact hR _ _ _ | (constructor <;> omega)), ?_, rfl⟩
            · unfold toldA
              (repeat' split) <;> omega
            · exact agP_rfl _
        · refine q_aload_n (t := 52) F dX8_told_51 rfl rfl rfl ?_
          refine g_X8_103 (t := 55) F dX8_told_52 rfl (by omega) rfl ?_
          try simp only [up_app, row_app, scr_app, cpy_app, Nat.reduceEqDiff, Int.reduceToNat, Int.toNat_natCast, and_true, true_and, and_false, false_and, and_self, reduceIte]
          refine q_iret F dX8_told_55 rfl ?_
          refine ⟨_, rfl, ?_, _, bt, rt, hbt, hrt, (by repeat' first | exact hR | refine RI_up ?_ ?_ | assumption | exact hR _ _ _ | (constructor <;> omega)), ?_, rfl⟩
          · unfold toldA
            (repeat' split) <;> omega
          · exact agP_rfl _
      · refine q_bipush (t := 35) F dX8_told_33 (by decide) rfl ?_
        refine q_iret F dX8_told_35 rfl ?_
        refine ⟨_, rfl, ?_, _, bt, rt, hbt, hrt, (by repeat' first | exact hR | refine RI_up ?_ ?_ | assumption | exact hR _ _ _ | (constructor <;> omega)), ?_, rfl⟩
        · unfold toldA
          (repeat' split) <;> omega
        · exact agP_rfl _
    · refine q_aload_n (t := 18) F dX8_told_17 rfl rfl rfl ?_
      refine g_X8_51 (t := 21) F dX8_told_18 rfl rfl ?_
      refine g_X8_112 (t := 24) F dX8_told_21 rfl (by omega) rfl ?_
      refine q_iret F dX8_told_24 rfl ?_
      refine ⟨_, rfl, ?_, _, bt, rt, hbt, hrt, (by repeat' first | exact hR | refine RI_up ?_ ?_ | assumption | exact hR _ _ _ | (constructor <;> omega)), ?_, rfl⟩
      · unfold toldA
        (repeat' split) <;> omega
      · exact agP_rfl _
  · refine q_aload_n (t := 5) F dX8_told_4 rfl rfl rfl ?_
    refine g_X8_51 (t := 8) F dX8_told_5 rfl rfl ?_
    refine g_X8_108 (t := 11) F dX8_told_8 rfl (by omega) rfl ?_
    refine q_iret F dX8_told_11 rfl ?_
    refine ⟨_, rfl, ?_, _, bt, rt, hbt, hrt, (by repeat' first | exact hR | refine RI_up ?_ ?_ | assumption | exact hR _ _ _ | (constructor <;> omega)), ?_, rfl⟩
    · unfold toldA
      (repeat' split) <;> omega
    · exact agP_rfl _

def okF (im : IM) (man gap w hours : Int) : Prop := (0 ≤ man ∧ man < im 18 0 3) ∧ (0 ≤ gap ∧ gap < 10) ∧ (-1 ≤ w ∧ w < 16) ∧ 0 ≤ hours ∧ hours ≤ 999
def fillA (im : IM) (man gap w hours : Int) : Int := if (0 ≤ man ∧ man < im 18 0 3) ∧ (0 ≤ gap ∧ gap < 10) ∧ (-1 ≤ w ∧ w < 16) ∧ 0 ≤ hours ∧ hours ≤ 999 then im 22 (5 * 0 + man.toNat) gap.toNat else -2
def fillM (im : IM) (man gap w hours : Int) : IM := if (0 ≤ man ∧ man < im 18 0 3) ∧ (0 ≤ gap ∧ gap < 10) ∧ (-1 ≤ w ∧ w < 16) ∧ 0 ≤ hours ∧ hours ≤ 999 then up (up im 22 (5 * 0 + man.toNat) gap.toNat w) 23 (5 * 0 + man.toNat) gap.toNat hours else im

set_option maxHeartbeats 4000000 in
theorem c_X8_fill (l : Launch) (G : GS) (im : IM) (bt rt : Nat) (lm : IM) (hbt : bt < 6) (hrt : rt < 6) (hS : SC im) (man : Int) (gap : Int) (w : Int) (hours : Int) (hman : ri man) (hgap : ri gap) (hw : ri w) (hhours : ri hours) : Cn l (XC G) yX8_fill Y_X8_fill [vR 0 0, vI man, vI gap, vI w, vI hours] (im, rs bt rt, lm) (pI fun x m' => x = fillA im man gap w hours ∧ stC lm (fillM im man gap w hours) m') := by
  refine cn_of (by decide) (okC G) rfl (Nat.le_of_ble_eq_true rfl) ?_
  intro M ad hMl F
  subst hMl
  obtain ⟨hR, hW, hh, htc, hru, hgt, hz, hrd, hsh, him, htp⟩ := hS
  have w1 := hW.1
  have w2 := hW.2.1
  have w3 := hW.2.2.1
  have w4 := hW.2.2.2.1
  have w5 := hW.2.2.2.2.1
  have hman1 := hman.1
  have hman2 := hman.2
  have hgap1 := hgap.1
  have hgap2 := hgap.2
  have hw1 := hw.1
  have hw2 := hw.2
  have hhours1 := hhours.1
  have hhours2 := hhours.2
  refine wp_pad 2 ?_
  show Wp M (XC G) ad Y_X8_fill (pI fun x m' => x = fillA im man gap w hours ∧ stC lm (fillM im man gap w hours) m') 0 [some (vR 0 0), some (vI man), some (vI gap), some (vI w), some (vI hours), none, none] [] (im, rs bt rt, lm)
  refine q_aload_n (t := 1) F dX8_fill_0 rfl rfl rfl ?_
  refine q_iload_n (t := 2) F dX8_fill_1 rfl rfl rfl ?_
  refine wp_callV (t := 5) [_] F dX8_fill_2 k_X8_isOne v_X8_isOne ml_X8_91 rfl rfl rfl rfl (Nat.le_of_ble_eq_true rfl) (by decide) (m_0 (by omega)) (c_X8_isOne _ G _ bt rt lm man hman hR) rfl (kI ?_)
  rintro x2 m' ⟨hx2, rfl⟩
  have hx2 := if01 hx2
  refine q_if_eq (t := 8) (u := 17) F dX8_fill_5 (by first | exact hR _ _ _ | (constructor <;> omega)) (by decide) rfl (fun c5 => ?_) (fun c5 => ?_)
  · refine q_bipush (t := 19) F dX8_fill_17 (by decide) rfl ?_
    refine q_iret F dX8_fill_19 rfl ?_
    refine ⟨_, rfl, ?_, _, bt, rt, hbt, hrt, (by repeat' first | exact hR | refine RI_up ?_ ?_ | assumption | exact hR _ _ _ | (constructor <;> omega)), ?_, rfl⟩
    · unfold fillA
      (repeat' split) <;> omega
    · unfold fillM
      (repeat' split) <;> first | exact agP_rfl _ | (exfalso; omega)
  · refine q_iload_n (t := 9) F dX8_fill_8 rfl rfl rfl ?_
    refine q_bipush (t := 11) F dX8_fill_9 (by decide) rfl ?_
    refine wp_callS (t := 14) [_, _] F dX8_fill_11 k_X8_within st_X8_within ml_X8_95 rfl rfl (Nat.le_of_ble_eq_true rfl) (by decide) (c_X8_within _ G _ bt rt lm gap 10 hgap (by constructor <;> omega)) rfl (kI ?_)
    rintro x11 m' ⟨hx11, rfl⟩
    have hx11 := if01 hx11
    refine q_if_ne (t := 17) (u := 20) F dX8_fill_14 (by first | exact hR _ _ _ | (constructor <;> omega)) (by decide) rfl (fun c14 => ?_) (fun c14 => ?_)
    · refine q_iload_n (t := 21) F dX8_fill_20 rfl rfl rfl ?_
      refine q_iconst (t := 22) F dX8_fill_21 rfl ?_
      refine q_icmp_eq (t := 25) (u := 37) F dX8_fill_22 (by first | exact hR _ _ _ | (constructor <;> omega)) (by first | exact hR _ _ _ | (constructor <;> omega)) (by decide) rfl (fun c22 => ?_) (fun c22 => ?_)
      · refine q_iload (t := 39) F dX8_fill_37 rfl rfl ?_
        refine q_if_lt (t := 42) (u := 50) F dX8_fill_39 (by first | exact hR _ _ _ | (constructor <;> omega)) (by decide) rfl (fun c39 => ?_) (fun c39 => ?_)
        · refine q_bipush (t := 52) F dX8_fill_50 (by decide) rfl ?_
          refine q_iret F dX8_fill_52 rfl ?_
          refine ⟨_, rfl, ?_, _, bt, rt, hbt, hrt, (by repeat' first | exact hR | refine RI_up ?_ ?_ | assumption | exact hR _ _ _ | (constructor <;> omega)), ?_, rfl⟩
          · unfold fillA
            (repeat' split) <;> omega
          · unfold fillM
            (repeat' split) <;> first | exact agP_rfl _ | (exfalso; omega)
        · refine q_iload (t := 44) F dX8_fill_42 rfl rfl ?_
          refine q_sipush (t := 47) F dX8_fill_44 (by decide) rfl ?_
          refine q_icmp_le (t := 50) (u := 53) F dX8_fill_47 (by first | exact hR _ _ _ | (constructor <;> omega)) (by first | exact hR _ _ _ | (constructor <;> omega)) (by decide) rfl (fun c47 => ?_) (fun c47 => ?_)
          · refine q_aload_n (t := 54) F dX8_fill_53 rfl rfl rfl ?_
            refine g_X8_51 (t := 57) F dX8_fill_54 rfl rfl ?_
            refine g_X8_99 (t := 60) F dX8_fill_57 rfl (by omega) rfl ?_
            refine q_iload_n (t := 61) F dX8_fill_60 rfl rfl rfl ?_
            refine la_19 (t := 62) F dX8_fill_61 (by omega) (by omega) (by omega) rfl ?_
            refine q_astore (t := 64) F dX8_fill_62 (by decide) rfl rfl ?_
            refine q_aload (t := 66) F dX8_fill_64 rfl rfl ?_
            refine g_X8_132 (t := 69) F dX8_fill_66 rfl (by omega) rfl ?_
            refine q_iload_n (t := 70) F dX8_fill_69 rfl rfl rfl ?_
            refine ld_22 (t := 71) F dX8_fill_70 (by omega) (by omega) (by omega) rfl ?_
            try simp only [up_app, row_app, scr_app, cpy_app, Nat.reduceEqDiff, Int.reduceToNat, Int.toNat_natCast, and_true, true_and, and_false, false_and, and_self, reduceIte]
            refine q_istore (t := 73) F dX8_fill_71 (by decide) rfl rfl ?_
            refine q_aload (t := 75) F dX8_fill_73 rfl rfl ?_
            refine g_X8_132 (t := 78) F dX8_fill_75 rfl (by omega) rfl ?_
            refine q_iload_n (t := 79) F dX8_fill_78 rfl rfl rfl ?_
            refine q_iload_n (t := 80) F dX8_fill_79 rfl rfl rfl ?_
            refine st_22 (t := 81) F dX8_fill_80 (by omega) (by omega) (by omega) rfl ?_
            refine q_aload (t := 83) F dX8_fill_81 rfl rfl ?_
            refine g_X8_136 (t := 86) F dX8_fill_83 rfl (by omega) rfl ?_
            refine q_iload_n (t := 87) F dX8_fill_86 rfl rfl rfl ?_
            refine q_iload (t := 89) F dX8_fill_87 rfl rfl ?_
            refine st_23 (t := 90) F dX8_fill_89 (by omega) (by omega) (by omega) rfl ?_
            refine q_iload (t := 92) F dX8_fill_90 rfl rfl ?_
            refine q_iret F dX8_fill_92 rfl ?_
            refine ⟨_, rfl, ?_, _, bt, rt, hbt, hrt, (by repeat' first | exact hR | refine RI_up ?_ ?_ | assumption | exact hR _ _ _ | (constructor <;> omega)), ?_, rfl⟩
            · unfold fillA
              (repeat' split) <;> omega
            · unfold fillM
              (repeat' split) <;> first | exact agP_rfl _ | (exfalso; omega)
          · refine q_bipush (t := 52) F dX8_fill_50 (by decide) rfl ?_
            refine q_iret F dX8_fill_52 rfl ?_
            refine ⟨_, rfl, ?_, _, bt, rt, hbt, hrt, (by repeat' first | exact hR | refine RI_up ?_ ?_ | assumption | exact hR _ _ _ | (constructor <;> omega)), ?_, rfl⟩
            · unfold fillA
              (repeat' split) <;> omega
            · unfold fillM
              (repeat' split) <;> first | exact agP_rfl _ | (exfalso; omega)
      · refine q_iload_n (t := 26) F dX8_fill_25 rfl rfl rfl ?_
        refine q_bipush (t := 28) F dX8_fill_26 (by decide) rfl ?_
        refine wp_callS (t := 31) [_, _] F dX8_fill_28 k_X8_within st_X8_within ml_X8_95 rfl rfl (Nat.le_of_ble_eq_true rfl) (by decide) (c_X8_within _ G _ bt rt lm w 16 hw (by constructor <;> omega)) rfl (kI ?_)
        rintro x28 m' ⟨hx28, rfl⟩
        have hx28 := if01 hx28
        refine q_if_ne (t := 34) (u := 37) F dX8_fill_31 (by first | exact hR _ _ _ | (constructor <;> omega)) (by decide) rfl (fun c31 => ?_) (fun c31 => ?_)
        · refine q_iload (t := 39) F dX8_fill_37 rfl rfl ?_
          refine q_if_lt (t := 42) (u := 50) F dX8_fill_39 (by first | exact hR _ _ _ | (constructor <;> omega)) (by decide) rfl (fun c39 => ?_) (fun c39 => ?_)
          · refine q_bipush (t := 52) F dX8_fill_50 (by decide) rfl ?_
            refine q_iret F dX8_fill_52 rfl ?_
            refine ⟨_, rfl, ?_, _, bt, rt, hbt, hrt, (by repeat' first | exact hR | refine RI_up ?_ ?_ | assumption | exact hR _ _ _ | (constructor <;> omega)), ?_, rfl⟩
            · unfold fillA
              (repeat' split) <;> omega
            · unfold fillM
              (repeat' split) <;> first | exact agP_rfl _ | (exfalso; omega)
          · refine q_iload (t := 44) F dX8_fill_42 rfl rfl ?_
            refine q_sipush (t := 47) F dX8_fill_44 (by decide) rfl ?_
            refine q_icmp_le (t := 50) (u := 53) F dX8_fill_47 (by first | exact hR _ _ _ | (constructor <;> omega)) (by first | exact hR _ _ _ | (constructor <;> omega)) (by decide) rfl (fun c47 => ?_) (fun c47 => ?_)
            · refine q_aload_n (t := 54) F dX8_fill_53 rfl rfl rfl ?_
              refine g_X8_51 (t := 57) F dX8_fill_54 rfl rfl ?_
              refine g_X8_99 (t := 60) F dX8_fill_57 rfl (by omega) rfl ?_
              refine q_iload_n (t := 61) F dX8_fill_60 rfl rfl rfl ?_
              refine la_19 (t := 62) F dX8_fill_61 (by omega) (by omega) (by omega) rfl ?_
              refine q_astore (t := 64) F dX8_fill_62 (by decide) rfl rfl ?_
              refine q_aload (t := 66) F dX8_fill_64 rfl rfl ?_
              refine g_X8_132 (t := 69) F dX8_fill_66 rfl (by omega) rfl ?_
              refine q_iload_n (t := 70) F dX8_fill_69 rfl rfl rfl ?_
              refine ld_22 (t := 71) F dX8_fill_70 (by omega) (by omega) (by omega) rfl ?_
              try simp only [up_app, row_app, scr_app, cpy_app, Nat.reduceEqDiff, Int.reduceToNat, Int.toNat_natCast, and_true, true_and, and_false, false_and, and_self, reduceIte]
              refine q_istore (t := 73) F dX8_fill_71 (by decide) rfl rfl ?_
              refine q_aload (t := 75) F dX8_fill_73 rfl rfl ?_
              refine g_X8_132 (t := 78) F dX8_fill_75 rfl (by omega) rfl ?_
              refine q_iload_n (t := 79) F dX8_fill_78 rfl rfl rfl ?_
              refine q_iload_n (t := 80) F dX8_fill_79 rfl rfl rfl ?_
              refine st_22 (t := 81) F dX8_fill_80 (by omega) (by omega) (by omega) rfl ?_
              refine q_aload (t := 83) F dX8_fill_81 rfl rfl ?_
              refine g_X8_136 (t := 86) F dX8_fill_83 rfl (by omega) rfl ?_
              refine q_iload_n (t := 87) F dX8_fill_86 rfl rfl rfl ?_
              refine q_iload (t := 89) F dX8_fill_87 rfl rfl ?_
              refine st_23 (t := 90) F dX8_fill_89 (by omega) (by omega) (by omega) rfl ?_
              refine q_iload (t := 92) F dX8_fill_90 rfl rfl ?_
              refine q_iret F dX8_fill_92 rfl ?_
              refine ⟨_, rfl, ?_, _, bt, rt, hbt, hrt, (by repeat' first | exact hR | refine RI_up ?_ ?_ | assumption | exact hR _ _ _ | (constructor <;> omega)), ?_, rfl⟩
              · unfold fillA
                (repeat' split) <;> omega
              · unfold fillM
                (repeat' split) <;> first | exact agP_rfl _ | (exfalso; omega)
            · refine q_bipush (t := 52) F dX8_fill_50 (by decide) rfl ?_
              refine q_iret F dX8_fill_52 rfl ?_
              refine ⟨_, rfl, ?_, _, bt, rt, hbt, hrt, (by repeat' first | exact hR | refine RI_up ?_ ?_ | assumption | exact hR _ _ _ | (constructor <;> omega)), ?_, rfl⟩
              · unfold fillA
                (repeat' split) <;> omega
              · unfold fillM
                (repeat' split) <;> first | exact agP_rfl _ | (exfalso; omega)
        · refine q_bipush (t := 36) F dX8_fill_34 (by decide) rfl ?_
          refine q_iret F dX8_fill_36 rfl ?_
          refine ⟨_, rfl, ?_, _, bt, rt, hbt, hrt, (by repeat' first | exact hR | refine RI_up ?_ ?_ | assumption | exact hR _ _ _ | (constructor <;> omega)), ?_, rfl⟩
          · unfold fillA
            (repeat' split) <;> omega
          · unfold fillM
            (repeat' split) <;> first | exact agP_rfl _ | (exfalso; omega)
    · refine q_bipush (t := 19) F dX8_fill_17 (by decide) rfl ?_
      refine q_iret F dX8_fill_19 rfl ?_
      refine ⟨_, rfl, ?_, _, bt, rt, hbt, hrt, (by repeat' first | exact hR | refine RI_up ?_ ?_ | assumption | exact hR _ _ _ | (constructor <;> omega)), ?_, rfl⟩
      · unfold fillA
        (repeat' split) <;> omega
      · unfold fillM
        (repeat' split) <;> first | exact agP_rfl _ | (exfalso; omega)

def feedA (im : IM) (letter : Int) : Int := if 0 ≤ letter ∧ letter < 256 then (if 160 ≤ im 14 0 1 then -4 else im 14 0 1 + 1) else -2
def feedM (im : IM) (letter : Int) : IM := if (0 ≤ letter ∧ letter < 256) ∧ im 14 0 1 < 160 then up (up im 15 0 (im 14 0 1).toNat letter) 14 0 1 (im 14 0 1 + 1) else im

set_option maxHeartbeats 4000000 in
theorem c_X4_put (l : Launch) (G : GS) (im : IM) (bt rt : Nat) (lm : IM) (hR : RI im) (z0 : 0 ≤ im 14 0 1) (z1 : im 14 0 1 ≤ 160) (letter : Int) : Cn l (XC G) yX4_put Y_X4_put [vR 14 0, vI letter] (im, rs bt rt, lm) (pI fun x m' => x = (if im 14 0 1 < 160 then im 14 0 1 + 1 else im 14 0 1) ∧ m' = ((if im 14 0 1 < 160 then up (up im 15 0 (im 14 0 1).toNat letter) 14 0 1 (im 14 0 1 + 1) else im), rs bt rt, lm)) := by
  refine cn_of (by decide) (okC G) rfl (Nat.le_of_ble_eq_true rfl) ?_
  intro M ad hMl F
  subst hMl
  refine wp_pad 0 ?_
  show Wp M (XC G) ad Y_X4_put (pI fun x m' => x = (if im 14 0 1 < 160 then im 14 0 1 + 1 else im 14 0 1) ∧ m' = ((if im 14 0 1 < 160 then up (up im 15 0 (im 14 0 1).toNat letter) 14 0 1 (im 14 0 1 + 1) else im), rs bt rt, lm)) 0 [some (vR 14 0), some (vI letter)] [] (im, rs bt rt, lm)
  refine q_aload_n (t := 1) F dX4_put_0 rfl rfl rfl ?_
  refine g_X4_19 (t := 4) F dX4_put_1 rfl rfl ?_
  refine q_sipush (t := 7) F dX4_put_4 (by decide) rfl ?_
  refine q_icmp_ge (t := 10) (u := 30) F dX4_put_7 (by first | exact hR _ _ _ | (constructor <;> omega)) (by first | exact hR _ _ _ | (constructor <;> omega)) (by decide) rfl (fun c7 => ?_) (fun c7 => ?_)
  · refine q_aload_n (t := 31) F dX4_put_30 rfl rfl rfl ?_
    refine g_X4_19 (t := 34) F dX4_put_31 rfl rfl ?_
    refine q_iret F dX4_put_34 rfl ?_
    first | exact ⟨_, rfl, by rw [if_pos (by omega)], by rw [if_pos (by omega)]⟩ | exact ⟨_, rfl, by rw [if_neg (by omega)], by rw [if_neg (by omega)]⟩
  · refine q_aload_n (t := 11) F dX4_put_10 rfl rfl rfl ?_
    refine g_X4_9 (t := 14) F dX4_put_11 rfl rfl ?_
    refine q_aload_n (t := 15) F dX4_put_14 rfl rfl rfl ?_
    refine g_X4_19 (t := 18) F dX4_put_15 rfl rfl ?_
    refine q_iload_n (t := 19) F dX4_put_18 rfl rfl rfl ?_
    refine st_15 (t := 20) F dX4_put_19 (by omega) (by omega) rfl ?_
    refine q_aload_n (t := 21) F dX4_put_20 rfl rfl rfl ?_
    refine q_dupR (t := 22) F dX4_put_21 rfl ?_
    refine g_X4_19 (t := 25) F dX4_put_22 rfl rfl ?_
    try simp only [up_app, row_app, scr_app, cpy_app, Nat.reduceEqDiff, Int.reduceToNat, Int.toNat_natCast, and_true, true_and, and_false, false_and, and_self, reduceIte]
    refine q_iconst (t := 26) F dX4_put_25 rfl ?_
    refine q_iadd (t := 27) F dX4_put_26 rfl ?_
    refine p_X4_19 (t := 30) F dX4_put_27 rfl rfl ?_
    refine q_aload_n (t := 31) F dX4_put_30 rfl rfl rfl ?_
    refine g_X4_19 (t := 34) F dX4_put_31 rfl rfl ?_
    try simp only [up_app, row_app, scr_app, cpy_app, Nat.reduceEqDiff, Int.reduceToNat, Int.toNat_natCast, and_true, true_and, and_false, false_and, and_self, reduceIte]
    refine q_iret F dX4_put_34 rfl ?_
    first | exact ⟨_, rfl, by rw [if_pos (by omega)], by rw [if_pos (by omega)]⟩ | exact ⟨_, rfl, by rw [if_neg (by omega)], by rw [if_neg (by omega)]⟩

set_option maxHeartbeats 4000000 in
theorem c_X8_feed (l : Launch) (G : GS) (im : IM) (bt rt : Nat) (lm : IM) (hbt : bt < 6) (hrt : rt < 6) (hS : SC im) (letter : Int) (hletter : ri letter) : Cn l (XC G) yX8_feed Y_X8_feed [vR 0 0, vI letter] (im, rs bt rt, lm) (pI fun x m' => x = feedA im letter ∧ stC lm (feedM im letter) m') := by
  refine cn_of (by decide) (okC G) rfl (Nat.le_of_ble_eq_true rfl) ?_
  intro M ad hMl F
  subst hMl
  obtain ⟨hR, hW, hh, htc, hru, hgt, hz, hrd, hsh, him, htp⟩ := hS
  have w1 := hW.1
  have w2 := hW.2.1
  have w3 := hW.2.2.1
  have w4 := hW.2.2.2.1
  have w5 := hW.2.2.2.2.1
  have hletter1 := hletter.1
  have hletter2 := hletter.2
  refine wp_pad 0 ?_
  show Wp M (XC G) ad Y_X8_feed (pI fun x m' => x = feedA im letter ∧ stC lm (feedM im letter) m') 0 [some (vR 0 0), some (vI letter)] [] (im, rs bt rt, lm)
  refine q_iload_n (t := 1) F dX8_feed_0 rfl rfl rfl ?_
  refine q_sipush (t := 4) F dX8_feed_1 (by decide) rfl ?_
  refine wp_callS (t := 7) [_, _] F dX8_feed_4 k_X8_within st_X8_within ml_X8_95 rfl rfl (Nat.le_of_ble_eq_true rfl) (by decide) (c_X8_within _ G _ bt rt lm letter 256 hletter (by constructor <;> omega)) rfl (kI ?_)
  rintro x4 m' ⟨hx4, rfl⟩
  have hx4 := if01 hx4
  refine q_if_ne (t := 10) (u := 13) F dX8_feed_7 (by first | exact hR _ _ _ | (constructor <;> omega)) (by decide) rfl (fun c7 => ?_) (fun c7 => ?_)
  · refine q_aload_n (t := 14) F dX8_feed_13 rfl rfl rfl ?_
    refine g_X8_35 (t := 17) F dX8_feed_14 rfl rfl ?_
    refine g_X8_146 (t := 20) F dX8_feed_17 rfl rfl ?_
    try simp only [up_app, row_app, scr_app, cpy_app, Nat.reduceEqDiff, Int.reduceToNat, Int.toNat_natCast, and_true, true_and, and_false, false_and, and_self, reduceIte]
    refine q_sipush (t := 23) F dX8_feed_20 (by decide) rfl ?_
    refine q_icmp_lt (t := 26) (u := 29) F dX8_feed_23 (by first | exact hR _ _ _ | (constructor <;> omega)) (by first | exact hR _ _ _ | (constructor <;> omega)) (by decide) rfl (fun c23 => ?_) (fun c23 => ?_)
    · refine q_aload_n (t := 30) F dX8_feed_29 rfl rfl rfl ?_
      refine g_X8_35 (t := 33) F dX8_feed_30 rfl rfl ?_
      refine q_iload_n (t := 34) F dX8_feed_33 rfl rfl rfl ?_
      refine wp_callV (t := 37) [_] F dX8_feed_34 k_X4_put v_X4_put ml_X8_73 rfl rfl rfl rfl (Nat.le_of_ble_eq_true rfl) (by decide) (m_14 (by omega)) (c_X4_put _ G im bt rt lm hR hrd.1 hrd.2 letter) rfl (kI ?_)
      rintro x34 m' ⟨rfl, rfl⟩
      rw [if_pos (show im 14 0 1 < 160 by omega), if_pos (show im 14 0 1 < 160 by omega)]
      refine q_iret F dX8_feed_37 rfl ?_
      refine ⟨_, rfl, ?_, _, bt, rt, hbt, hrt, (by repeat' first | exact hR | refine RI_up ?_ ?_ | assumption | exact hR _ _ _ | (constructor <;> omega)), ?_, rfl⟩
      · unfold feedA
        (repeat' split) <;> omega
      · unfold feedM
        (repeat' split) <;> first | exact agP_rfl _ | (exfalso; omega)
    · refine q_bipush (t := 28) F dX8_feed_26 (by decide) rfl ?_
      refine q_iret F dX8_feed_28 rfl ?_
      refine ⟨_, rfl, ?_, _, bt, rt, hbt, hrt, (by repeat' first | exact hR | refine RI_up ?_ ?_ | assumption | exact hR _ _ _ | (constructor <;> omega)), ?_, rfl⟩
      · unfold feedA
        (repeat' split) <;> omega
      · unfold feedM
        (repeat' split) <;> first | exact agP_rfl _ | (exfalso; omega)
  · refine q_bipush (t := 12) F dX8_feed_10 (by decide) rfl ?_
    refine q_iret F dX8_feed_12 rfl ?_
    refine ⟨_, rfl, ?_, _, bt, rt, hbt, hrt, (by repeat' first | exact hR | refine RI_up ?_ ?_ | assumption | exact hR _ _ _ | (constructor <;> omega)), ?_, rfl⟩
    · unfold feedA
      (repeat' split) <;> omega
    · unfold feedM
      (repeat' split) <;> first | exact agP_rfl _ | (exfalso; omega)

def forceA (im : IM) (text : Int) : Int := if 0 ≤ text ∧ text < im 0 0 8 then im 18 0 7 else -2
def forceM (im : IM) (text : Int) : IM := if 0 ≤ text ∧ text < im 0 0 8 then up im 18 0 7 text else im

set_option maxHeartbeats 4000000 in
theorem c_X8_force (l : Launch) (G : GS) (im : IM) (bt rt : Nat) (lm : IM) (hbt : bt < 6) (hrt : rt < 6) (hS : SC im) (text : Int) (htext : ri text) : Cn l (XC G) yX8_force Y_X8_force [vR 0 0, vI text] (im, rs bt rt, lm) (pI fun x m' => x = forceA im text ∧ stC lm (forceM im text) m') := by
  refine cn_of (by decide) (okC G) rfl (Nat.le_of_ble_eq_true rfl) ?_
  intro M ad hMl F
  subst hMl
  obtain ⟨hR, hW, hh, htc, hru, hgt, hz, hrd, hsh, him, htp⟩ := hS
  have w1 := hW.1
  have w2 := hW.2.1
  have w3 := hW.2.2.1
  have w4 := hW.2.2.2.1
  have w5 := hW.2.2.2.2.1
  have htext1 := htext.1
  have htext2 := htext.2
  refine wp_pad 1 ?_
  show Wp M (XC G) ad Y_X8_force (pI fun x m' => x = forceA im text ∧ stC lm (forceM im text) m') 0 [some (vR 0 0), some (vI text), none] [] (im, rs bt rt, lm)
  refine q_iload_n (t := 1) F dX8_force_0 rfl rfl rfl ?_
  refine q_aload_n (t := 2) F dX8_force_1 rfl rfl rfl ?_
  refine g_X8_81 (t := 5) F dX8_force_2 rfl rfl ?_
  refine wp_callS (t := 8) [_, _] F dX8_force_5 k_X8_within st_X8_within ml_X8_95 rfl rfl (Nat.le_of_ble_eq_true rfl) (by decide) (c_X8_within _ G _ bt rt lm text (im 0 0 8) htext (hR _ _ _)) rfl (kI ?_)
  rintro x5 m' ⟨hx5, rfl⟩
  have hx5 := if01 hx5
  refine q_if_ne (t := 11) (u := 14) F dX8_force_8 (by first | exact hR _ _ _ | (constructor <;> omega)) (by decide) rfl (fun c8 => ?_) (fun c8 => ?_)
  · refine q_aload_n (t := 15) F dX8_force_14 rfl rfl rfl ?_
    refine g_X8_51 (t := 18) F dX8_force_15 rfl rfl ?_
    refine g_X8_147 (t := 21) F dX8_force_18 rfl (by omega) rfl ?_
    try simp only [up_app, row_app, scr_app, cpy_app, Nat.reduceEqDiff, Int.reduceToNat, Int.toNat_natCast, and_true, true_and, and_false, false_and, and_self, reduceIte]
    refine q_istore_n (t := 22) F dX8_force_21 rfl (by decide) rfl rfl ?_
    refine q_aload_n (t := 23) F dX8_force_22 rfl rfl rfl ?_
    refine g_X8_51 (t := 26) F dX8_force_23 rfl rfl ?_
    refine q_iload_n (t := 27) F dX8_force_26 rfl rfl rfl ?_
    refine p_X8_147 (t := 30) F dX8_force_27 rfl (by omega) rfl ?_
    refine q_iload_n (t := 31) F dX8_force_30 rfl rfl rfl ?_
    refine q_iret F dX8_force_31 rfl ?_
    refine ⟨_, rfl, ?_, _, bt, rt, hbt, hrt, (by repeat' first | exact hR | refine RI_up ?_ ?_ | assumption | exact hR _ _ _ | (constructor <;> omega)), ?_, rfl⟩
    · unfold forceA
      (repeat' split) <;> omega
    · unfold forceM
      (repeat' split) <;> first | exact agP_rfl _ | (exfalso; omega)
  · refine q_bipush (t := 13) F dX8_force_11 (by decide) rfl ?_
    refine q_iret F dX8_force_13 rfl ?_
    refine ⟨_, rfl, ?_, _, bt, rt, hbt, hrt, (by repeat' first | exact hR | refine RI_up ?_ ?_ | assumption | exact hR _ _ _ | (constructor <;> omega)), ?_, rfl⟩
    · unfold forceA
      (repeat' split) <;> omega
    · unfold forceM
      (repeat' split) <;> first | exact agP_rfl _ | (exfalso; omega)

def sayA (im : IM) (man w food : Int) : Int := if (0 ≤ man ∧ man < im 18 0 3) ∧ (0 ≤ w ∧ w < 16) ∧ 0 ≤ food ∧ food < 10 then uttW im 0 man.toNat w food else -2
def sayM (im : IM) (man w food : Int) : IM := if (0 ≤ man ∧ man < im 18 0 3) ∧ (0 ≤ w ∧ w < 16) ∧ 0 ≤ food ∧ food < 10 then uttM im 0 man.toNat w food else im

set_option maxHeartbeats 4000000 in
theorem c_X8_say (l : Launch) (G : GS) (im : IM) (bt rt : Nat) (lm : IM) (hbt : bt < 6) (hrt : rt < 6) (hS : SC im) (man : Int) (w : Int) (food : Int) (hman : ri man) (hw : ri w) (hfood : ri food) : Cn l (XC G) yX8_say Y_X8_say [vR 0 0, vI man, vI w, vI food] (im, rs bt rt, lm) (pI fun x m' => x = sayA im man w food ∧ stC lm (sayM im man w food) m') := by
  refine cn_of (by decide) (okC G) rfl (Nat.le_of_ble_eq_true rfl) ?_
  intro M ad hMl F
  subst hMl
  obtain ⟨hR, hW, hh, htc, hru, hgt, hz, hrd, hsh, him, htp⟩ := hS
  have w1 := hW.1
  have w2 := hW.2.1
  have w3 := hW.2.2.1
  have w4 := hW.2.2.2.1
  have w5 := hW.2.2.2.2.1
  have hman1 := hman.1
  have hman2 := hman.2
  have hw1 := hw.1
  have hw2 := hw.2
  have hfood1 := hfood.1
  have hfood2 := hfood.2
  refine wp_pad 0 ?_
  show Wp M (XC G) ad Y_X8_say (pI fun x m' => x = sayA im man w food ∧ stC lm (sayM im man w food) m') 0 [some (vR 0 0), some (vI man), some (vI w), some (vI food)] [] (im, rs bt rt, lm)
  refine q_aload_n (t := 1) F dX8_say_0 rfl rfl rfl ?_
  refine q_iload_n (t := 2) F dX8_say_1 rfl rfl rfl ?_
  refine wp_callV (t := 5) [_] F dX8_say_2 k_X8_isOne v_X8_isOne ml_X8_91 rfl rfl rfl rfl (Nat.le_of_ble_eq_true rfl) (by decide) (m_0 (by omega)) (c_X8_isOne _ G _ bt rt lm man hman hR) rfl (kI ?_)
  rintro x2 m' ⟨hx2, rfl⟩
  have hx2 := if01 hx2
  refine q_if_eq (t := 8) (u := 26) F dX8_say_5 (by first | exact hR _ _ _ | (constructor <;> omega)) (by decide) rfl (fun c5 => ?_) (fun c5 => ?_)
  · refine q_bipush (t := 28) F dX8_say_26 (by decide) rfl ?_
    refine q_iret F dX8_say_28 rfl ?_
    refine ⟨_, rfl, ?_, _, bt, rt, hbt, hrt, (by repeat' first | exact hR | refine RI_up ?_ ?_ | assumption | exact hR _ _ _ | (constructor <;> omega)), ?_, rfl⟩
    · unfold sayA
      (repeat' split) <;> omega
    · unfold sayM
      (repeat' split) <;> first | exact agP_rfl _ | (exfalso; omega)
  · refine q_iload_n (t := 9) F dX8_say_8 rfl rfl rfl ?_
    refine q_bipush (t := 11) F dX8_say_9 (by decide) rfl ?_
    refine wp_callS (t := 14) [_, _] F dX8_say_11 k_X8_within st_X8_within ml_X8_95 rfl rfl (Nat.le_of_ble_eq_true rfl) (by decide) (c_X8_within _ G _ bt rt lm w 16 hw (by constructor <;> omega)) rfl (kI ?_)
    rintro x11 m' ⟨hx11, rfl⟩
    have hx11 := if01 hx11
    refine q_if_eq (t := 17) (u := 26) F dX8_say_14 (by first | exact hR _ _ _ | (constructor <;> omega)) (by decide) rfl (fun c14 => ?_) (fun c14 => ?_)
    · refine q_bipush (t := 28) F dX8_say_26 (by decide) rfl ?_
      refine q_iret F dX8_say_28 rfl ?_
      refine ⟨_, rfl, ?_, _, bt, rt, hbt, hrt, (by repeat' first | exact hR | refine RI_up ?_ ?_ | assumption | exact hR _ _ _ | (constructor <;> omega)), ?_, rfl⟩
      · unfold sayA
        (repeat' split) <;> omega
      · unfold sayM
        (repeat' split) <;> first | exact agP_rfl _ | (exfalso; omega)
    · refine q_iload_n (t := 18) F dX8_say_17 rfl rfl rfl ?_
      refine q_bipush (t := 20) F dX8_say_18 (by decide) rfl ?_
      refine wp_callS (t := 23) [_, _] F dX8_say_20 k_X8_within st_X8_within ml_X8_95 rfl rfl (Nat.le_of_ble_eq_true rfl) (by decide) (c_X8_within _ G _ bt rt lm food 10 hfood (by constructor <;> omega)) rfl (kI ?_)
      rintro x20 m' ⟨hx20, rfl⟩
      have hx20 := if01 hx20
      refine q_if_ne (t := 26) (u := 29) F dX8_say_23 (by first | exact hR _ _ _ | (constructor <;> omega)) (by decide) rfl (fun c23 => ?_) (fun c23 => ?_)
      · refine q_aload_n (t := 30) F dX8_say_29 rfl rfl rfl ?_
        refine g_X8_51 (t := 33) F dX8_say_30 rfl rfl ?_
        refine q_iload_n (t := 34) F dX8_say_33 rfl rfl rfl ?_
        refine q_iload_n (t := 35) F dX8_say_34 rfl rfl rfl ?_
        refine q_iload_n (t := 36) F dX8_say_35 rfl rfl rfl ?_
        rw [show man = ((man.toNat : Nat) : Int) by omega]
        refine wp_callV (t := 39) [_, _, _] F dX8_say_36 k_X7_utter v_X7_utter ml_X8_150 rfl rfl rfl rfl (Nat.le_of_ble_eq_true rfl) (by decide) (m_18 (by omega)) (c_X7_utter _ G im bt rt lm 0 (by omega) hR hW man.toNat (by omega) w food (by omega) hfood) rfl (kI ?_)
        rintro x36 m' ⟨hx, im2, hR2, hag2, rfl⟩
        refine q_iret F dX8_say_39 rfl ?_
        refine ⟨_, rfl, ?_, im2, bt, rt, hbt, hrt, hR2, ?_, rfl⟩
        · unfold sayA
          rw [if_pos (by omega), hx]
          try rw [Int.toNat_natCast]
        · unfold sayM
          rw [if_pos (by omega)]
          try rw [Int.toNat_natCast]
          exact agP_of (hag2.mono (by decide))
      · refine q_bipush (t := 28) F dX8_say_26 (by decide) rfl ?_
        refine q_iret F dX8_say_28 rfl ?_
        refine ⟨_, rfl, ?_, _, bt, rt, hbt, hrt, (by repeat' first | exact hR | refine RI_up ?_ ?_ | assumption | exact hR _ _ _ | (constructor <;> omega)), ?_, rfl⟩
        · unfold sayA
          (repeat' split) <;> omega
        · unfold sayM
          (repeat' split) <;> first | exact agP_rfl _ | (exfalso; omega)

def flossA (im : IM) (man gap : Int) : Int := if (0 ≤ man ∧ man < im 18 0 3) ∧ 0 ≤ gap ∧ gap < 10 then im 22 (5 * 0 + man.toNat) gap.toNat else -2
def flossM (im : IM) (man gap : Int) : IM := if (0 ≤ man ∧ man < im 18 0 3) ∧ 0 ≤ gap ∧ gap < 10 then up im 22 (5 * 0 + man.toNat) gap.toNat (-1) else im

set_option maxHeartbeats 4000000 in
theorem c_X8_floss (l : Launch) (G : GS) (im : IM) (bt rt : Nat) (lm : IM) (hbt : bt < 6) (hrt : rt < 6) (hS : SC im) (man : Int) (gap : Int) (hman : ri man) (hgap : ri gap) : Cn l (XC G) yX8_floss Y_X8_floss [vR 0 0, vI man, vI gap] (im, rs bt rt, lm) (pI fun x m' => x = flossA im man gap ∧ stC lm (flossM im man gap) m') := by
  refine cn_of (by decide) (okC G) rfl (Nat.le_of_ble_eq_true rfl) ?_
  intro M ad hMl F
  subst hMl
  obtain ⟨hR, hW, hh, htc, hru, hgt, hz, hrd, hsh, him, htp⟩ := hS
  have w1 := hW.1
  have w2 := hW.2.1
  have w3 := hW.2.2.1
  have w4 := hW.2.2.2.1
  have w5 := hW.2.2.2.2.1
  have hman1 := hman.1
  have hman2 := hman.2
  have hgap1 := hgap.1
  have hgap2 := hgap.2
  refine wp_pad 0 ?_
  show Wp M (XC G) ad Y_X8_floss (pI fun x m' => x = flossA im man gap ∧ stC lm (flossM im man gap) m') 0 [some (vR 0 0), some (vI man), some (vI gap)] [] (im, rs bt rt, lm)
  refine q_aload_n (t := 1) F dX8_floss_0 rfl rfl rfl ?_
  refine q_iload_n (t := 2) F dX8_floss_1 rfl rfl rfl ?_
  refine wp_callV (t := 5) [_] F dX8_floss_2 k_X8_isOne v_X8_isOne ml_X8_91 rfl rfl rfl rfl (Nat.le_of_ble_eq_true rfl) (by decide) (m_0 (by omega)) (c_X8_isOne _ G _ bt rt lm man hman hR) rfl (kI ?_)
  rintro x2 m' ⟨hx2, rfl⟩
  have hx2 := if01 hx2
  refine q_if_eq (t := 8) (u := 17) F dX8_floss_5 (by first | exact hR _ _ _ | (constructor <;> omega)) (by decide) rfl (fun c5 => ?_) (fun c5 => ?_)
  · refine q_bipush (t := 19) F dX8_floss_17 (by decide) rfl ?_
    refine q_iret F dX8_floss_19 rfl ?_
    refine ⟨_, rfl, ?_, _, bt, rt, hbt, hrt, (by repeat' first | exact hR | refine RI_up ?_ ?_ | assumption | exact hR _ _ _ | (constructor <;> omega)), ?_, rfl⟩
    · unfold flossA
      (repeat' split) <;> omega
    · unfold flossM
      (repeat' split) <;> first | exact agP_rfl _ | (exfalso; omega)
  · refine q_iload_n (t := 9) F dX8_floss_8 rfl rfl rfl ?_
    refine q_bipush (t := 11) F dX8_floss_9 (by decide) rfl ?_
    refine wp_callS (t := 14) [_, _] F dX8_floss_11 k_X8_within st_X8_within ml_X8_95 rfl rfl (Nat.le_of_ble_eq_true rfl) (by decide) (c_X8_within _ G _ bt rt lm gap 10 hgap (by constructor <;> omega)) rfl (kI ?_)
    rintro x11 m' ⟨hx11, rfl⟩
    have hx11 := if01 hx11
    refine q_if_ne (t := 17) (u := 20) F dX8_floss_14 (by first | exact hR _ _ _ | (constructor <;> omega)) (by decide) rfl (fun c14 => ?_) (fun c14 => ?_)
    · refine q_aload_n (t := 21) F dX8_floss_20 rfl rfl rfl ?_
      refine g_X8_51 (t := 24) F dX8_floss_21 rfl rfl ?_
      refine g_X8_99 (t := 27) F dX8_floss_24 rfl (by omega) rfl ?_
      refine q_iload_n (t := 28) F dX8_floss_27 rfl rfl rfl ?_
      refine la_19 (t := 29) F dX8_floss_28 (by omega) (by omega) (by omega) rfl ?_
      refine q_iload_n (t := 30) F dX8_floss_29 rfl rfl rfl ?_
      rw [show gap = ((gap.toNat : Nat) : Int) by omega]
      refine wp_callV (t := 33) [_] F dX8_floss_30 k_X3_empty v_X3_empty ml_X8_153 rfl rfl rfl rfl (Nat.le_of_ble_eq_true rfl) (by decide) (m_21 (by omega)) (c_X3_empty _ G im bt rt lm (5 * 0 + man.toNat) (by omega) gap.toNat (by omega)) rfl (kI ?_)
      rintro x30 m' ⟨rfl, rfl⟩
      refine q_iret F dX8_floss_33 rfl ?_
      refine ⟨_, rfl, ?_, _, bt, rt, hbt, hrt, RI_up hR (by constructor <;> omega), ?_, rfl⟩
      · unfold flossA
        rw [if_pos (by omega)]
        try simp only [Int.toNat_natCast]
      · unfold flossM
        rw [if_pos (by omega)]
        try simp only [Int.toNat_natCast]
        exact agP_rfl _
    · refine q_bipush (t := 19) F dX8_floss_17 (by decide) rfl ?_
      refine q_iret F dX8_floss_19 rfl ?_
      refine ⟨_, rfl, ?_, _, bt, rt, hbt, hrt, (by repeat' first | exact hR | refine RI_up ?_ ?_ | assumption | exact hR _ _ _ | (constructor <;> omega)), ?_, rfl⟩
      · unfold flossA
        (repeat' split) <;> omega
      · unfold flossM
        (repeat' split) <;> first | exact agP_rfl _ | (exfalso; omega)

def kissA (im : IM) (man other : Int) : Int := if (0 ≤ man ∧ man < im 18 0 3) ∧ (0 ≤ other ∧ other < im 18 0 3) ∧ man ≠ other then hndN im (5 * 0 + man.toNat) (5 * 0 + other.toNat) 10 else -2
def kissM (im : IM) (man other : Int) : IM := if (0 ≤ man ∧ man < im 18 0 3) ∧ (0 ≤ other ∧ other < im 18 0 3) ∧ man ≠ other then hnd im (5 * 0 + man.toNat) (5 * 0 + other.toNat) 10 else im

set_option maxHeartbeats 4000000 in
theorem c_X8_kiss (l : Launch) (G : GS) (im : IM) (bt rt : Nat) (lm : IM) (hbt : bt < 6) (hrt : rt < 6) (hS : SC im) (man : Int) (other : Int) (hman : ri man) (hother : ri other) : Cn l (XC G) yX8_kiss Y_X8_kiss [vR 0 0, vI man, vI other] (im, rs bt rt, lm) (pI fun x m' => x = kissA im man other ∧ stC lm (kissM im man other) m') := by
  refine cn_of (by decide) (okC G) rfl (Nat.le_of_ble_eq_true rfl) ?_
  intro M ad hMl F
  subst hMl
  obtain ⟨hR, hW, hh, htc, hru, hgt, hz, hrd, hsh, him, htp⟩ := hS
  have w1 := hW.1
  have w2 := hW.2.1
  have w3 := hW.2.2.1
  have w4 := hW.2.2.2.1
  have w5 := hW.2.2.2.2.1
  have hman1 := hman.1
  have hman2 := hman.2
  have hother1 := hother.1
  have hother2 := hother.2
  refine wp_pad 0 ?_
  show Wp M (XC G) ad Y_X8_kiss (pI fun x m' => x = kissA im man other ∧ stC lm (kissM im man other) m') 0 [some (vR 0 0), some (vI man), some (vI other)] [] (im, rs bt rt, lm)
  refine q_aload_n (t := 1) F dX8_kiss_0 rfl rfl rfl ?_
  refine q_iload_n (t := 2) F dX8_kiss_1 rfl rfl rfl ?_
  refine wp_callV (t := 5) [_] F dX8_kiss_2 k_X8_isOne v_X8_isOne ml_X8_91 rfl rfl rfl rfl (Nat.le_of_ble_eq_true rfl) (by decide) (m_0 (by omega)) (c_X8_isOne _ G _ bt rt lm man hman hR) rfl (kI ?_)
  rintro x2 m' ⟨hx2, rfl⟩
  have hx2 := if01 hx2
  refine q_if_eq (t := 8) (u := 21) F dX8_kiss_5 (by first | exact hR _ _ _ | (constructor <;> omega)) (by decide) rfl (fun c5 => ?_) (fun c5 => ?_)
  · refine q_bipush (t := 23) F dX8_kiss_21 (by decide) rfl ?_
    refine q_iret F dX8_kiss_23 rfl ?_
    refine ⟨_, rfl, ?_, _, bt, rt, hbt, hrt, (by repeat' first | exact hR | refine RI_up ?_ ?_ | assumption | exact hR _ _ _ | (constructor <;> omega)), ?_, rfl⟩
    · unfold kissA
      (repeat' split) <;> omega
    · unfold kissM
      (repeat' split) <;> first | exact agP_rfl _ | (exfalso; omega)
  · refine q_aload_n (t := 9) F dX8_kiss_8 rfl rfl rfl ?_
    refine q_iload_n (t := 10) F dX8_kiss_9 rfl rfl rfl ?_
    refine wp_callV (t := 13) [_] F dX8_kiss_10 k_X8_isOne v_X8_isOne ml_X8_91 rfl rfl rfl rfl (Nat.le_of_ble_eq_true rfl) (by decide) (m_0 (by omega)) (c_X8_isOne _ G _ bt rt lm other hother hR) rfl (kI ?_)
    rintro x10 m' ⟨hx10, rfl⟩
    have hx10 := if01 hx10
    refine q_if_eq (t := 16) (u := 21) F dX8_kiss_13 (by first | exact hR _ _ _ | (constructor <;> omega)) (by decide) rfl (fun c13 => ?_) (fun c13 => ?_)
    · refine q_bipush (t := 23) F dX8_kiss_21 (by decide) rfl ?_
      refine q_iret F dX8_kiss_23 rfl ?_
      refine ⟨_, rfl, ?_, _, bt, rt, hbt, hrt, (by repeat' first | exact hR | refine RI_up ?_ ?_ | assumption | exact hR _ _ _ | (constructor <;> omega)), ?_, rfl⟩
      · unfold kissA
        (repeat' split) <;> omega
      · unfold kissM
        (repeat' split) <;> first | exact agP_rfl _ | (exfalso; omega)
    · refine q_iload_n (t := 17) F dX8_kiss_16 rfl rfl rfl ?_
      refine q_iload_n (t := 18) F dX8_kiss_17 rfl rfl rfl ?_
      refine q_icmp_ne (t := 21) (u := 24) F dX8_kiss_18 (by first | exact hR _ _ _ | (constructor <;> omega)) (by first | exact hR _ _ _ | (constructor <;> omega)) (by decide) rfl (fun c18 => ?_) (fun c18 => ?_)
      · refine q_aload_n (t := 25) F dX8_kiss_24 rfl rfl rfl ?_
        refine g_X8_51 (t := 28) F dX8_kiss_25 rfl rfl ?_
        refine q_iload_n (t := 29) F dX8_kiss_28 rfl rfl rfl ?_
        refine q_iload_n (t := 30) F dX8_kiss_29 rfl rfl rfl ?_
        rw [show man = ((man.toNat : Nat) : Int) by omega, show other = ((other.toNat : Nat) : Int) by omega]
        refine wp_callV (t := 33) [_, _] F dX8_kiss_30 k_X7_handOn v_X7_handOn ml_X8_156 rfl rfl rfl rfl (Nat.le_of_ble_eq_true rfl) (by decide) (m_18 (by omega)) (c_X7_handOn _ G im bt rt lm 0 (by omega) hR man.toNat other.toNat (by omega) (by omega) (by omega)) rfl (kI ?_)
        rintro x30 m' ⟨rfl, rfl⟩
        refine q_iret F dX8_kiss_33 rfl ?_
        refine ⟨_, rfl, ?_, _, bt, rt, hbt, hrt, RI_hnd hR, ?_, rfl⟩
        · unfold kissA
          rw [if_pos (by omega)]
          try simp only [Int.toNat_natCast]
        · unfold kissM
          rw [if_pos (by omega)]
          try simp only [Int.toNat_natCast]
          exact agP_rfl _
      · refine q_bipush (t := 23) F dX8_kiss_21 (by decide) rfl ?_
        refine q_iret F dX8_kiss_23 rfl ?_
        refine ⟨_, rfl, ?_, _, bt, rt, hbt, hrt, (by repeat' first | exact hR | refine RI_up ?_ ?_ | assumption | exact hR _ _ _ | (constructor <;> omega)), ?_, rfl⟩
        · unfold kissA
          (repeat' split) <;> omega
        · unfold kissM
          (repeat' split) <;> first | exact agP_rfl _ | (exfalso; omega)

def liveA (im : IM) : Int := if 999 ≤ im 18 0 4 then -3 else cntO im 0 (10 * (im 18 0 3).toNat)
def liveM (im : IM) : IM := if 999 ≤ im 18 0 4 then im else up (pasM im 0 (10 * (im 18 0 3).toNat)) 18 0 4 (im 18 0 4 + 1)

set_option maxHeartbeats 4000000 in
theorem c_X8_live (l : Launch) (G : GS) (im : IM) (bt rt : Nat) (lm : IM) (hbt : bt < 6) (hrt : rt < 6) (hS : SC im) : Cn l (XC G) yX8_live Y_X8_live [vR 0 0] (im, rs bt rt, lm) (pI fun x m' => x = liveA im  ∧ stC lm (liveM im ) m') := by
  refine cn_of (by decide) (okC G) rfl (Nat.le_of_ble_eq_true rfl) ?_
  intro M ad hMl F
  subst hMl
  obtain ⟨hR, hW, hh, htc, hru, hgt, hz, hrd, hsh, him, htp⟩ := hS
  have w1 := hW.1
  have w2 := hW.2.1
  have w3 := hW.2.2.1
  have w4 := hW.2.2.2.1
  have w5 := hW.2.2.2.2.1
  refine wp_pad 0 ?_
  show Wp M (XC G) ad Y_X8_live (pI fun x m' => x = liveA im  ∧ stC lm (liveM im ) m') 0 [some (vR 0 0)] [] (im, rs bt rt, lm)
  refine q_aload_n (t := 1) F dX8_live_0 rfl rfl rfl ?_
  refine g_X8_51 (t := 4) F dX8_live_1 rfl rfl ?_
  refine g_X8_108 (t := 7) F dX8_live_4 rfl (by omega) rfl ?_
  refine q_sipush (t := 10) F dX8_live_7 (by decide) rfl ?_
  refine q_icmp_lt (t := 13) (u := 16) F dX8_live_10 (by first | exact hR _ _ _ | (constructor <;> omega)) (by first | exact hR _ _ _ | (constructor <;> omega)) (by decide) rfl (fun c10 => ?_) (fun c10 => ?_)
  · refine q_aload_n (t := 17) F dX8_live_16 rfl rfl rfl ?_
    refine g_X8_51 (t := 20) F dX8_live_17 rfl rfl ?_
    refine q_aload_n (t := 21) F dX8_live_20 rfl rfl rfl ?_
    refine g_X8_42 (t := 24) F dX8_live_21 rfl rfl ?_
    refine wp_callV (t := 27) [_] F dX8_live_24 k_X7_pass v_X7_pass ml_X8_159 rfl rfl rfl rfl (Nat.le_of_ble_eq_true rfl) (by decide) (m_18 (by omega)) (c_X7_pass _ G im bt rt lm 0 (by omega) hbt hR hW) rfl (kI ?_)
    rintro x24 m' ⟨hx, im2, bt2, hbt2, hR2, hag2, rfl⟩
    refine q_iret F dX8_live_27 rfl ?_
    refine ⟨_, rfl, by unfold liveA; rw [if_neg (by omega)]; exact hx, im2, bt2, rt, hbt2, hrt, hR2, ?_, rfl⟩
    unfold liveM
    rw [if_neg (by omega)]
    exact agP_of (hag2.mono (by decide))
  · refine q_bipush (t := 15) F dX8_live_13 (by decide) rfl ?_
    refine q_iret F dX8_live_15 rfl ?_
    refine ⟨_, rfl, ?_, _, bt, rt, hbt, hrt, (by repeat' first | exact hR | refine RI_up ?_ ?_ | assumption | exact hR _ _ _ | (constructor <;> omega)), ?_, rfl⟩
    · unfold liveA
      (repeat' split) <;> omega
    · unfold liveM
      (repeat' split) <;> first | exact agP_rfl _ | (exfalso; omega)
