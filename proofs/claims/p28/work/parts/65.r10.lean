/-! what is opened, a name -/
theorem PQ_27 {b : Nat → Int} {n p : Nat} {im lm : IM} {f x : Int} (h : PQ b n im lm p f) (hx : ri x) : PQ b n (up im 30 0 27 x) lm p f := by
  obtain ⟨hq, hR, hB, hpn, h28⟩ := h
  have e : ∀ s, s ≠ 27 → up im 30 0 27 x 30 0 s = im 30 0 s := fun s hs => by rw [up_app, if_neg (by omega)]
  refine ⟨⟨fun q => ?_, fun q => ?_⟩, RI_up hR hx, BRr_up hB (by omega) (by omega), hpn, by rw [e 28 (by omega)]; exact h28⟩
  · have := hq.1 q
    refine ⟨(e 28 (by omega)).trans this.1, (e 25 (by omega)).trans this.2.1, ?_⟩
    have h2 := this.2.2
    unfold TKr at h2 ⊢
    rw [e 24 (by omega), e 23 (by omega)]
    exact h2
  · have := hq.2 q
    exact ⟨(e 28 (by omega)).trans this.1, (e 29 (by omega)).trans this.2⟩
theorem c_isWordA (l : Launch) (G : GS) (im : IM) (bt rt : Nat) (lm : IM) (b : Nat → Int) (n : Nat) (hb : byt b n) (p : Nat) (f : Int) (h : PQ b n im lm p f) (i : Nat) (hi : i < 12) (a0 a1 a2 a3 a4 a5 a6 a7 : Int) (ha : a0 = wlr i 0 ∧ a1 = wlr i 1 ∧ a2 = wlr i 2 ∧ a3 = wlr i 3 ∧ a4 = wlr i 4 ∧ a5 = wlr i 5 ∧ a6 = wlr i 6 ∧ a7 = wlr i 7) : Cn l (XR G) yX9_isWord_ Y_X9_isWord_ [vR 30 0, vI a0, vI a1, vI a2, vI a3, vI a4, vI a5, vI a6, vI a7] (im, rs bt rt, lm) (pI fun x m' => x = (if f = -1 ∧ wd b n p i then 1 else 0) ∧ m' = (im, rs bt rt, lm)) := by
  obtain ⟨rfl, rfl, rfl, rfl, rfl, rfl, rfl, rfl⟩ := ha
  exact c_X9_isWord_ l G im bt rt lm b n hb p f h i hi

set_option maxHeartbeats 4000000 in
theorem c_X9_opens (l : Launch) (G : GS) (im : IM) (bt rt : Nat) (lm : IM) (b : Nat → Int) (n : Nat) (hb : byt b n) (p : Nat) (h : PQ b n im lm p (-1)) (hp : p < n) (ht : tk b n p ≠ 1) (d : Nat) (hd : d ≤ 5) (h27 : im 30 0 27 = d) : Cn l (XR G) yX9_opens Y_X9_opens [vR 30 0] (im, rs bt rt, lm) (pI fun x m' => (d = 5 ∧ x = 0 ∧ ∃ im', PQ b n im' lm p (p : Int) ∧ agQ im' im ∧ m' = (im', rs bt rt, lm)) ∨ (d < 5 ∧ x = 1 ∧ ∃ im' lm', PQ b n im' lm' (adv b n p) (-1) ∧ im' 30 0 27 = (d : Int) + 1 ∧ agQ im' (up im 30 0 27 ((d : Int) + 1)) ∧ lgQ lm' lm ∧ m' = (im', rs bt rt, lm'))) := by
  refine cn_of (by decide) (okR G) rfl (Nat.le_of_ble_eq_true rfl) ?_
  intro M ad hMl F
  subst hMl
  have hR := h.2.1
  refine wp_pad 0 ?_
  show Wp M (XR G) ad Y_X9_opens (pI fun x m' => (d = 5 ∧ x = 0 ∧ ∃ im', PQ b n im' lm p (p : Int) ∧ agQ im' im ∧ m' = (im', rs bt rt, lm)) ∨ (d < 5 ∧ x = 1 ∧ ∃ im' lm', PQ b n im' lm' (adv b n p) (-1) ∧ im' 30 0 27 = (d : Int) + 1 ∧ agQ im' (up im 30 0 27 ((d : Int) + 1)) ∧ lgQ lm' lm ∧ m' = (im', rs bt rt, lm'))) 0 [some (vR 30 0)] [] (im, rs bt rt, lm)
  refine q_aload_n (t := 1) F dX9_opens_0 rfl rfl rfl ?_
  refine g_X9_190 (t := 4) F dX9_opens_1 rfl rfl ?_
  refine q_iconst (t := 5) F dX9_opens_4 rfl ?_
  refine q_icmp_ne (t := 8) (u := 14) F dX9_opens_5 (by rw [h27]; constructor <;> omega) (by constructor <;> omega) (by decide) rfl (fun c5 => ?_) (fun c5 => ?_)
  · refine q_aload_n (t := 15) F dX9_opens_14 rfl rfl rfl ?_
    refine q_dupR (t := 16) F dX9_opens_15 rfl ?_
    refine g_X9_190 (t := 19) F dX9_opens_16 rfl rfl ?_
    refine q_iconst (t := 20) F dX9_opens_19 rfl ?_
    refine q_iadd (t := 21) F dX9_opens_20 rfl ?_
    rw [h27]
    refine p_X9_190 (t := 24) F dX9_opens_21 rfl rfl ?_
    refine q_aload_n (t := 25) F dX9_opens_24 rfl rfl rfl ?_
    refine wp_callV (t := 28) [] F dX9_opens_25 k_X9_next v_X9_next ml_X9_196 rfl rfl rfl rfl (Nat.le_of_ble_eq_true rfl) (by decide) (m_30 (by omega)) (c_nextQ _ G _ bt rt lm b n hb p (PQ_27 h (by constructor <;> omega)) hp ht) rfl (kV ?_)
    rintro m' ⟨im2, lm2, h2, hag, hlg, rfl⟩
    refine q_iconst (t := 29) F dX9_opens_28 rfl ?_
    refine q_zret F dX9_opens_29 rfl (by decide) ?_
    first
      | exact ⟨_, rfl, Or.inl ⟨by omega, rfl, im2, h2, hag, rfl⟩⟩
      | exact ⟨_, rfl, Or.inr ⟨by omega, rfl, im2, lm2, h2, (hag 30 0 27 (by omega)).trans (by rw [up_app, if_pos ⟨rfl, rfl, rfl⟩]), hag, hlg, rfl⟩⟩
  · refine q_aload_n (t := 9) F dX9_opens_8 rfl rfl rfl ?_
    refine wp_callV (t := 12) [] F dX9_opens_9 k_X9_fail v_X9_fail ml_X9_193 rfl rfl rfl rfl (Nat.le_of_ble_eq_true rfl) (by decide) (m_30 (by omega)) (c_failQ _ G im bt rt lm b n p (-1) h) rfl (kV ?_)
    rintro m' ⟨im2, h2, hag, rfl⟩
    rw [if_pos rfl] at h2
    refine q_iconst (t := 13) F dX9_opens_12 rfl ?_
    refine q_zret F dX9_opens_13 rfl (by decide) ?_
    first
      | exact ⟨_, rfl, Or.inl ⟨by omega, rfl, im2, h2, hag, rfl⟩⟩
      | exact ⟨_, rfl, Or.inr ⟨by omega, rfl, im2, lm2, h2, (hag 30 0 27 (by omega)).trans (by rw [up_app, if_pos ⟨rfl, rfl, rfl⟩]), hag, hlg, rfl⟩⟩

set_option maxHeartbeats 4000000 in
theorem c_X9_name (l : Launch) (G : GS) (im : IM) (bt rt : Nat) (lm : IM) (b : Nat → Int) (n : Nat) (hb : byt b n) (p : Nat) (h : PQ b n im lm p (-1)) : Cn l (XR G) yX9_name Y_X9_name [vR 30 0] (im, rs bt rt, lm) (pI fun x m' => (tk b n p = 3 ∧ x = im 30 0 (15 + (vl b n p).toNat) ∧ m' = (im, rs bt rt, lm)) ∨ (tk b n p ≠ 3 ∧ x = 0 ∧ ∃ im', PQ b n im' lm p (p : Int) ∧ agQ im' im ∧ m' = (im', rs bt rt, lm))) := by
  refine cn_of (by decide) (okR G) rfl (Nat.le_of_ble_eq_true rfl) ?_
  intro M ad hMl F
  subst hMl
  have hR := h.2.1
  refine wp_pad 0 ?_
  show Wp M (XR G) ad Y_X9_name (pI fun x m' => (tk b n p = 3 ∧ x = im 30 0 (15 + (vl b n p).toNat) ∧ m' = (im, rs bt rt, lm)) ∨ (tk b n p ≠ 3 ∧ x = 0 ∧ ∃ im', PQ b n im' lm p (p : Int) ∧ agQ im' im ∧ m' = (im', rs bt rt, lm))) 0 [some (vR 30 0)] [] (im, rs bt rt, lm)
  refine q_aload_n (t := 1) F dX9_name_0 rfl rfl rfl ?_
  refine q_bipush (t := 3) F dX9_name_1 (by decide) rfl ?_
  refine q_bipush (t := 5) F dX9_name_3 (by decide) rfl ?_
  refine q_bipush (t := 7) F dX9_name_5 (by decide) rfl ?_
  refine q_bipush (t := 9) F dX9_name_7 (by decide) rfl ?_
  refine q_iconst (t := 10) F dX9_name_9 rfl ?_
  refine q_iconst (t := 11) F dX9_name_10 rfl ?_
  refine q_iconst (t := 12) F dX9_name_11 rfl ?_
  refine q_iconst (t := 13) F dX9_name_12 rfl ?_
  refine wp_callV (t := 16) [_, _, _, _, _, _, _, _] F dX9_name_13 k_X9_isWord_ v_X9_isWord_ ml_X9_199 rfl rfl rfl rfl (Nat.le_of_ble_eq_true rfl) (by decide) (m_30 (by omega)) (c_isWordA _ G im bt rt lm b n hb p (-1) h 0 (by omega) _ _ _ _ _ _ _ _ (by decide)) rfl (kI ?_)
  rintro x13 m' ⟨hx13, rfl⟩
  have hx13 := if01 hx13
  refine q_if_eq (t := 19) (u := 24) F dX9_name_16 (by first | exact hR _ _ _ | (constructor <;> omega)) (by decide) rfl (fun c16 => ?_) (fun c16 => ?_)
  · refine q_aload_n (t := 25) F dX9_name_24 rfl rfl rfl ?_
    refine q_bipush (t := 27) F dX9_name_25 (by decide) rfl ?_
    refine q_bipush (t := 29) F dX9_name_27 (by decide) rfl ?_
    refine q_bipush (t := 31) F dX9_name_29 (by decide) rfl ?_
    refine q_bipush (t := 33) F dX9_name_31 (by decide) rfl ?_
    refine q_iconst (t := 34) F dX9_name_33 rfl ?_
    refine q_iconst (t := 35) F dX9_name_34 rfl ?_
    refine q_iconst (t := 36) F dX9_name_35 rfl ?_
    refine q_iconst (t := 37) F dX9_name_36 rfl ?_
    refine wp_callV (t := 40) [_, _, _, _, _, _, _, _] F dX9_name_37 k_X9_isWord_ v_X9_isWord_ ml_X9_199 rfl rfl rfl rfl (Nat.le_of_ble_eq_true rfl) (by decide) (m_30 (by omega)) (c_isWordA _ G im bt rt lm b n hb p (-1) h 1 (by omega) _ _ _ _ _ _ _ _ (by decide)) rfl (kI ?_)
    rintro x37 m' ⟨hx37, rfl⟩
    have hx37 := if01 hx37
    refine q_if_eq (t := 43) (u := 48) F dX9_name_40 (by first | exact hR _ _ _ | (constructor <;> omega)) (by decide) rfl (fun c40 => ?_) (fun c40 => ?_)
    · refine q_aload_n (t := 49) F dX9_name_48 rfl rfl rfl ?_
      refine q_bipush (t := 51) F dX9_name_49 (by decide) rfl ?_
      refine q_bipush (t := 53) F dX9_name_51 (by decide) rfl ?_
      refine q_bipush (t := 55) F dX9_name_53 (by decide) rfl ?_
      refine q_bipush (t := 57) F dX9_name_55 (by decide) rfl ?_
      refine q_iconst (t := 58) F dX9_name_57 rfl ?_
      refine q_iconst (t := 59) F dX9_name_58 rfl ?_
      refine q_iconst (t := 60) F dX9_name_59 rfl ?_
      refine q_iconst (t := 61) F dX9_name_60 rfl ?_
      refine wp_callV (t := 64) [_, _, _, _, _, _, _, _] F dX9_name_61 k_X9_isWord_ v_X9_isWord_ ml_X9_199 rfl rfl rfl rfl (Nat.le_of_ble_eq_true rfl) (by decide) (m_30 (by omega)) (c_isWordA _ G im bt rt lm b n hb p (-1) h 2 (by omega) _ _ _ _ _ _ _ _ (by decide)) rfl (kI ?_)
      rintro x61 m' ⟨hx61, rfl⟩
      have hx61 := if01 hx61
      refine q_if_eq (t := 67) (u := 72) F dX9_name_64 (by first | exact hR _ _ _ | (constructor <;> omega)) (by decide) rfl (fun c64 => ?_) (fun c64 => ?_)
      · refine q_aload_n (t := 73) F dX9_name_72 rfl rfl rfl ?_
        refine q_bipush (t := 75) F dX9_name_73 (by decide) rfl ?_
        refine q_bipush (t := 77) F dX9_name_75 (by decide) rfl ?_
        refine q_bipush (t := 79) F dX9_name_77 (by decide) rfl ?_
        refine q_bipush (t := 81) F dX9_name_79 (by decide) rfl ?_
        refine q_bipush (t := 83) F dX9_name_81 (by decide) rfl ?_
        refine q_bipush (t := 85) F dX9_name_83 (by decide) rfl ?_
        refine q_iconst (t := 86) F dX9_name_85 rfl ?_
        refine q_iconst (t := 87) F dX9_name_86 rfl ?_
        refine wp_callV (t := 90) [_, _, _, _, _, _, _, _] F dX9_name_87 k_X9_isWord_ v_X9_isWord_ ml_X9_199 rfl rfl rfl rfl (Nat.le_of_ble_eq_true rfl) (by decide) (m_30 (by omega)) (c_isWordA _ G im bt rt lm b n hb p (-1) h 3 (by omega) _ _ _ _ _ _ _ _ (by decide)) rfl (kI ?_)
        rintro x87 m' ⟨hx87, rfl⟩
        have hx87 := if01 hx87
        refine q_if_eq (t := 93) (u := 98) F dX9_name_90 (by first | exact hR _ _ _ | (constructor <;> omega)) (by decide) rfl (fun c90 => ?_) (fun c90 => ?_)
        · refine q_aload_n (t := 99) F dX9_name_98 rfl rfl rfl ?_
          refine q_bipush (t := 101) F dX9_name_99 (by decide) rfl ?_
          refine q_bipush (t := 103) F dX9_name_101 (by decide) rfl ?_
          refine q_bipush (t := 105) F dX9_name_103 (by decide) rfl ?_
          refine q_iconst (t := 106) F dX9_name_105 rfl ?_
          refine q_iconst (t := 107) F dX9_name_106 rfl ?_
          refine q_iconst (t := 108) F dX9_name_107 rfl ?_
          refine q_iconst (t := 109) F dX9_name_108 rfl ?_
          refine q_iconst (t := 110) F dX9_name_109 rfl ?_
          refine wp_callV (t := 113) [_, _, _, _, _, _, _, _] F dX9_name_110 k_X9_isWord_ v_X9_isWord_ ml_X9_199 rfl rfl rfl rfl (Nat.le_of_ble_eq_true rfl) (by decide) (m_30 (by omega)) (c_isWordA _ G im bt rt lm b n hb p (-1) h 4 (by omega) _ _ _ _ _ _ _ _ (by decide)) rfl (kI ?_)
          rintro x110 m' ⟨hx110, rfl⟩
          have hx110 := if01 hx110
          refine q_if_eq (t := 116) (u := 121) F dX9_name_113 (by first | exact hR _ _ _ | (constructor <;> omega)) (by decide) rfl (fun c113 => ?_) (fun c113 => ?_)
          · refine q_aload_n (t := 122) F dX9_name_121 rfl rfl rfl ?_
            refine q_bipush (t := 124) F dX9_name_122 (by decide) rfl ?_
            refine q_bipush (t := 126) F dX9_name_124 (by decide) rfl ?_
            refine q_bipush (t := 128) F dX9_name_126 (by decide) rfl ?_
            refine q_bipush (t := 130) F dX9_name_128 (by decide) rfl ?_
            refine q_bipush (t := 132) F dX9_name_130 (by decide) rfl ?_
            refine q_iconst (t := 133) F dX9_name_132 rfl ?_
            refine q_iconst (t := 134) F dX9_name_133 rfl ?_
            refine q_iconst (t := 135) F dX9_name_134 rfl ?_
            refine wp_callV (t := 138) [_, _, _, _, _, _, _, _] F dX9_name_135 k_X9_isWord_ v_X9_isWord_ ml_X9_199 rfl rfl rfl rfl (Nat.le_of_ble_eq_true rfl) (by decide) (m_30 (by omega)) (c_isWordA _ G im bt rt lm b n hb p (-1) h 5 (by omega) _ _ _ _ _ _ _ _ (by decide)) rfl (kI ?_)
            rintro x135 m' ⟨hx135, rfl⟩
            have hx135 := if01 hx135
            refine q_if_eq (t := 141) (u := 146) F dX9_name_138 (by first | exact hR _ _ _ | (constructor <;> omega)) (by decide) rfl (fun c138 => ?_) (fun c138 => ?_)
            · refine q_aload_n (t := 147) F dX9_name_146 rfl rfl rfl ?_
              refine wp_callV (t := 150) [] F dX9_name_147 k_X9_fail v_X9_fail ml_X9_193 rfl rfl rfl rfl (Nat.le_of_ble_eq_true rfl) (by decide) (m_30 (by omega)) (c_failQ _ G im bt rt lm b n p (-1) h) rfl (kV ?_)
              rintro m' ⟨im2, h2, hag, rfl⟩
              rw [if_pos rfl] at h2
              refine q_iconst (t := 151) F dX9_name_150 rfl ?_
              refine q_iret F dX9_name_151 rfl ?_
              first
                | (have w : wd b n p 0 := hx13.elim (fun q => q.2.2) (fun q => absurd q.1 (by omega))
                   have e := (wd_nm (by omega)).mp w
                   refine ⟨_, rfl, Or.inl ⟨e.1, ?_, rfl⟩⟩
                   rw [e.2]
                   rfl)
                | (have w : wd b n p 1 := hx37.elim (fun q => q.2.2) (fun q => absurd q.1 (by omega))
                   have e := (wd_nm (by omega)).mp w
                   refine ⟨_, rfl, Or.inl ⟨e.1, ?_, rfl⟩⟩
                   rw [e.2]
                   rfl)
                | (have w : wd b n p 2 := hx61.elim (fun q => q.2.2) (fun q => absurd q.1 (by omega))
                   have e := (wd_nm (by omega)).mp w
                   refine ⟨_, rfl, Or.inl ⟨e.1, ?_, rfl⟩⟩
                   rw [e.2]
                   rfl)
                | (have w : wd b n p 3 := hx87.elim (fun q => q.2.2) (fun q => absurd q.1 (by omega))
                   have e := (wd_nm (by omega)).mp w
                   refine ⟨_, rfl, Or.inl ⟨e.1, ?_, rfl⟩⟩
                   rw [e.2]
                   rfl)
                | (have w : wd b n p 4 := hx110.elim (fun q => q.2.2) (fun q => absurd q.1 (by omega))
                   have e := (wd_nm (by omega)).mp w
                   refine ⟨_, rfl, Or.inl ⟨e.1, ?_, rfl⟩⟩
                   rw [e.2]
                   rfl)
                | (have w : wd b n p 5 := hx135.elim (fun q => q.2.2) (fun q => absurd q.1 (by omega))
                   have e := (wd_nm (by omega)).mp w
                   refine ⟨_, rfl, Or.inl ⟨e.1, ?_, rfl⟩⟩
                   rw [e.2]
                   rfl)
                | (refine ⟨_, rfl, Or.inr ⟨fun q => ?_, rfl, im2, h2, hag, rfl⟩⟩
                   obtain ⟨i, hi, hv, hw⟩ := tk_3 q
                   rcases (show i = 0 ∨ i = 1 ∨ i = 2 ∨ i = 3 ∨ i = 4 ∨ i = 5 by omega) with rfl | rfl | rfl | rfl | rfl | rfl
                   · exact hx13.elim (fun q => by omega) (fun q => q.2 ⟨rfl, hw⟩)
                   · exact hx37.elim (fun q => by omega) (fun q => q.2 ⟨rfl, hw⟩)
                   · exact hx61.elim (fun q => by omega) (fun q => q.2 ⟨rfl, hw⟩)
                   · exact hx87.elim (fun q => by omega) (fun q => q.2 ⟨rfl, hw⟩)
                   · exact hx110.elim (fun q => by omega) (fun q => q.2 ⟨rfl, hw⟩)
                   · exact hx135.elim (fun q => by omega) (fun q => q.2 ⟨rfl, hw⟩))
            · refine q_aload_n (t := 142) F dX9_name_141 rfl rfl rfl ?_
              refine g_X9_217 (t := 145) F dX9_name_142 rfl rfl ?_
              try simp only [up_app, row_app, scr_app, cpy_app, Nat.reduceEqDiff, Int.reduceToNat, Int.toNat_natCast, and_true, true_and, and_false, false_and, and_self, reduceIte]
              refine q_iret F dX9_name_145 rfl ?_
              first
                | (have w : wd b n p 0 := hx13.elim (fun q => q.2.2) (fun q => absurd q.1 (by omega))
                   have e := (wd_nm (by omega)).mp w
                   refine ⟨_, rfl, Or.inl ⟨e.1, ?_, rfl⟩⟩
                   rw [e.2]
                   rfl)
                | (have w : wd b n p 1 := hx37.elim (fun q => q.2.2) (fun q => absurd q.1 (by omega))
                   have e := (wd_nm (by omega)).mp w
                   refine ⟨_, rfl, Or.inl ⟨e.1, ?_, rfl⟩⟩
                   rw [e.2]
                   rfl)
                | (have w : wd b n p 2 := hx61.elim (fun q => q.2.2) (fun q => absurd q.1 (by omega))
                   have e := (wd_nm (by omega)).mp w
                   refine ⟨_, rfl, Or.inl ⟨e.1, ?_, rfl⟩⟩
                   rw [e.2]
                   rfl)
                | (have w : wd b n p 3 := hx87.elim (fun q => q.2.2) (fun q => absurd q.1 (by omega))
                   have e := (wd_nm (by omega)).mp w
                   refine ⟨_, rfl, Or.inl ⟨e.1, ?_, rfl⟩⟩
                   rw [e.2]
                   rfl)
                | (have w : wd b n p 4 := hx110.elim (fun q => q.2.2) (fun q => absurd q.1 (by omega))
                   have e := (wd_nm (by omega)).mp w
                   refine ⟨_, rfl, Or.inl ⟨e.1, ?_, rfl⟩⟩
                   rw [e.2]
                   rfl)
                | (have w : wd b n p 5 := hx135.elim (fun q => q.2.2) (fun q => absurd q.1 (by omega))
                   have e := (wd_nm (by omega)).mp w
                   refine ⟨_, rfl, Or.inl ⟨e.1, ?_, rfl⟩⟩
                   rw [e.2]
                   rfl)
                | (refine ⟨_, rfl, Or.inr ⟨fun q => ?_, rfl, im2, h2, hag, rfl⟩⟩
                   obtain ⟨i, hi, hv, hw⟩ := tk_3 q
                   rcases (show i = 0 ∨ i = 1 ∨ i = 2 ∨ i = 3 ∨ i = 4 ∨ i = 5 by omega) with rfl | rfl | rfl | rfl | rfl | rfl
                   · exact hx13.elim (fun q => by omega) (fun q => q.2 ⟨rfl, hw⟩)
                   · exact hx37.elim (fun q => by omega) (fun q => q.2 ⟨rfl, hw⟩)
                   · exact hx61.elim (fun q => by omega) (fun q => q.2 ⟨rfl, hw⟩)
                   · exact hx87.elim (fun q => by omega) (fun q => q.2 ⟨rfl, hw⟩)
                   · exact hx110.elim (fun q => by omega) (fun q => q.2 ⟨rfl, hw⟩)
                   · exact hx135.elim (fun q => by omega) (fun q => q.2 ⟨rfl, hw⟩))
          · refine q_aload_n (t := 117) F dX9_name_116 rfl rfl rfl ?_
            refine g_X9_214 (t := 120) F dX9_name_117 rfl rfl ?_
            try simp only [up_app, row_app, scr_app, cpy_app, Nat.reduceEqDiff, Int.reduceToNat, Int.toNat_natCast, and_true, true_and, and_false, false_and, and_self, reduceIte]
            refine q_iret F dX9_name_120 rfl ?_
            first
              | (have w : wd b n p 0 := hx13.elim (fun q => q.2.2) (fun q => absurd q.1 (by omega))
                 have e := (wd_nm (by omega)).mp w
                 refine ⟨_, rfl, Or.inl ⟨e.1, ?_, rfl⟩⟩
                 rw [e.2]
                 rfl)
              | (have w : wd b n p 1 := hx37.elim (fun q => q.2.2) (fun q => absurd q.1 (by omega))
                 have e := (wd_nm (by omega)).mp w
                 refine ⟨_, rfl, Or.inl ⟨e.1, ?_, rfl⟩⟩
                 rw [e.2]
                 rfl)
              | (have w : wd b n p 2 := hx61.elim (fun q => q.2.2) (fun q => absurd q.1 (by omega))
                 have e := (wd_nm (by omega)).mp w
                 refine ⟨_, rfl, Or.inl ⟨e.1, ?_, rfl⟩⟩
                 rw [e.2]
                 rfl)
              | (have w : wd b n p 3 := hx87.elim (fun q => q.2.2) (fun q => absurd q.1 (by omega))
                 have e := (wd_nm (by omega)).mp w
                 refine ⟨_, rfl, Or.inl ⟨e.1, ?_, rfl⟩⟩
                 rw [e.2]
                 rfl)
              | (have w : wd b n p 4 := hx110.elim (fun q => q.2.2) (fun q => absurd q.1 (by omega))
                 have e := (wd_nm (by omega)).mp w
                 refine ⟨_, rfl, Or.inl ⟨e.1, ?_, rfl⟩⟩
                 rw [e.2]
                 rfl)
              | (have w : wd b n p 5 := hx135.elim (fun q => q.2.2) (fun q => absurd q.1 (by omega))
                 have e := (wd_nm (by omega)).mp w
                 refine ⟨_, rfl, Or.inl ⟨e.1, ?_, rfl⟩⟩
                 rw [e.2]
                 rfl)
              | (refine ⟨_, rfl, Or.inr ⟨fun q => ?_, rfl, im2, h2, hag, rfl⟩⟩
                 obtain ⟨i, hi, hv, hw⟩ := tk_3 q
                 rcases (show i = 0 ∨ i = 1 ∨ i = 2 ∨ i = 3 ∨ i = 4 ∨ i = 5 by omega) with rfl | rfl | rfl | rfl | rfl | rfl
                 · exact hx13.elim (fun q => by omega) (fun q => q.2 ⟨rfl, hw⟩)
                 · exact hx37.elim (fun q => by omega) (fun q => q.2 ⟨rfl, hw⟩)
                 · exact hx61.elim (fun q => by omega) (fun q => q.2 ⟨rfl, hw⟩)
                 · exact hx87.elim (fun q => by omega) (fun q => q.2 ⟨rfl, hw⟩)
                 · exact hx110.elim (fun q => by omega) (fun q => q.2 ⟨rfl, hw⟩)
                 · exact hx135.elim (fun q => by omega) (fun q => q.2 ⟨rfl, hw⟩))
        · refine q_aload_n (t := 94) F dX9_name_93 rfl rfl rfl ?_
          refine g_X9_211 (t := 97) F dX9_name_94 rfl rfl ?_
          try simp only [up_app, row_app, scr_app, cpy_app, Nat.reduceEqDiff, Int.reduceToNat, Int.toNat_natCast, and_true, true_and, and_false, false_and, and_self, reduceIte]
          refine q_iret F dX9_name_97 rfl ?_
          first
            | (have w : wd b n p 0 := hx13.elim (fun q => q.2.2) (fun q => absurd q.1 (by omega))
               have e := (wd_nm (by omega)).mp w
               refine ⟨_, rfl, Or.inl ⟨e.1, ?_, rfl⟩⟩
               rw [e.2]
               rfl)
            | (have w : wd b n p 1 := hx37.elim (fun q => q.2.2) (fun q => absurd q.1 (by omega))
               have e := (wd_nm (by omega)).mp w
               refine ⟨_, rfl, Or.inl ⟨e.1, ?_, rfl⟩⟩
               rw [e.2]
               rfl)
            | (have w : wd b n p 2 := hx61.elim (fun q => q.2.2) (fun q => absurd q.1 (by omega))
               have e := (wd_nm (by omega)).mp w
               refine ⟨_, rfl, Or.inl ⟨e.1, ?_, rfl⟩⟩
               rw [e.2]
               rfl)
            | (have w : wd b n p 3 := hx87.elim (fun q => q.2.2) (fun q => absurd q.1 (by omega))
               have e := (wd_nm (by omega)).mp w
               refine ⟨_, rfl, Or.inl ⟨e.1, ?_, rfl⟩⟩
               rw [e.2]
               rfl)
            | (have w : wd b n p 4 := hx110.elim (fun q => q.2.2) (fun q => absurd q.1 (by omega))
               have e := (wd_nm (by omega)).mp w
               refine ⟨_, rfl, Or.inl ⟨e.1, ?_, rfl⟩⟩
               rw [e.2]
               rfl)
            | (have w : wd b n p 5 := hx135.elim (fun q => q.2.2) (fun q => absurd q.1 (by omega))
               have e := (wd_nm (by omega)).mp w
               refine ⟨_, rfl, Or.inl ⟨e.1, ?_, rfl⟩⟩
               rw [e.2]
               rfl)
            | (refine ⟨_, rfl, Or.inr ⟨fun q => ?_, rfl, im2, h2, hag, rfl⟩⟩
               obtain ⟨i, hi, hv, hw⟩ := tk_3 q
               rcases (show i = 0 ∨ i = 1 ∨ i = 2 ∨ i = 3 ∨ i = 4 ∨ i = 5 by omega) with rfl | rfl | rfl | rfl | rfl | rfl
               · exact hx13.elim (fun q => by omega) (fun q => q.2 ⟨rfl, hw⟩)
               · exact hx37.elim (fun q => by omega) (fun q => q.2 ⟨rfl, hw⟩)
               · exact hx61.elim (fun q => by omega) (fun q => q.2 ⟨rfl, hw⟩)
               · exact hx87.elim (fun q => by omega) (fun q => q.2 ⟨rfl, hw⟩)
               · exact hx110.elim (fun q => by omega) (fun q => q.2 ⟨rfl, hw⟩)
               · exact hx135.elim (fun q => by omega) (fun q => q.2 ⟨rfl, hw⟩))
      · refine q_aload_n (t := 68) F dX9_name_67 rfl rfl rfl ?_
        refine g_X9_208 (t := 71) F dX9_name_68 rfl rfl ?_
        try simp only [up_app, row_app, scr_app, cpy_app, Nat.reduceEqDiff, Int.reduceToNat, Int.toNat_natCast, and_true, true_and, and_false, false_and, and_self, reduceIte]
        refine q_iret F dX9_name_71 rfl ?_
        first
          | (have w : wd b n p 0 := hx13.elim (fun q => q.2.2) (fun q => absurd q.1 (by omega))
             have e := (wd_nm (by omega)).mp w
             refine ⟨_, rfl, Or.inl ⟨e.1, ?_, rfl⟩⟩
             rw [e.2]
             rfl)
          | (have w : wd b n p 1 := hx37.elim (fun q => q.2.2) (fun q => absurd q.1 (by omega))
             have e := (wd_nm (by omega)).mp w
             refine ⟨_, rfl, Or.inl ⟨e.1, ?_, rfl⟩⟩
             rw [e.2]
             rfl)
          | (have w : wd b n p 2 := hx61.elim (fun q => q.2.2) (fun q => absurd q.1 (by omega))
             have e := (wd_nm (by omega)).mp w
             refine ⟨_, rfl, Or.inl ⟨e.1, ?_, rfl⟩⟩
             rw [e.2]
             rfl)
          | (have w : wd b n p 3 := hx87.elim (fun q => q.2.2) (fun q => absurd q.1 (by omega))
             have e := (wd_nm (by omega)).mp w
             refine ⟨_, rfl, Or.inl ⟨e.1, ?_, rfl⟩⟩
             rw [e.2]
             rfl)
          | (have w : wd b n p 4 := hx110.elim (fun q => q.2.2) (fun q => absurd q.1 (by omega))
             have e := (wd_nm (by omega)).mp w
             refine ⟨_, rfl, Or.inl ⟨e.1, ?_, rfl⟩⟩
             rw [e.2]
             rfl)
          | (have w : wd b n p 5 := hx135.elim (fun q => q.2.2) (fun q => absurd q.1 (by omega))
             have e := (wd_nm (by omega)).mp w
             refine ⟨_, rfl, Or.inl ⟨e.1, ?_, rfl⟩⟩
             rw [e.2]
             rfl)
          | (refine ⟨_, rfl, Or.inr ⟨fun q => ?_, rfl, im2, h2, hag, rfl⟩⟩
             obtain ⟨i, hi, hv, hw⟩ := tk_3 q
             rcases (show i = 0 ∨ i = 1 ∨ i = 2 ∨ i = 3 ∨ i = 4 ∨ i = 5 by omega) with rfl | rfl | rfl | rfl | rfl | rfl
             · exact hx13.elim (fun q => by omega) (fun q => q.2 ⟨rfl, hw⟩)
             · exact hx37.elim (fun q => by omega) (fun q => q.2 ⟨rfl, hw⟩)
             · exact hx61.elim (fun q => by omega) (fun q => q.2 ⟨rfl, hw⟩)
             · exact hx87.elim (fun q => by omega) (fun q => q.2 ⟨rfl, hw⟩)
             · exact hx110.elim (fun q => by omega) (fun q => q.2 ⟨rfl, hw⟩)
             · exact hx135.elim (fun q => by omega) (fun q => q.2 ⟨rfl, hw⟩))
    · refine q_aload_n (t := 44) F dX9_name_43 rfl rfl rfl ?_
      refine g_X9_205 (t := 47) F dX9_name_44 rfl rfl ?_
      try simp only [up_app, row_app, scr_app, cpy_app, Nat.reduceEqDiff, Int.reduceToNat, Int.toNat_natCast, and_true, true_and, and_false, false_and, and_self, reduceIte]
      refine q_iret F dX9_name_47 rfl ?_
      first
        | (have w : wd b n p 0 := hx13.elim (fun q => q.2.2) (fun q => absurd q.1 (by omega))
           have e := (wd_nm (by omega)).mp w
           refine ⟨_, rfl, Or.inl ⟨e.1, ?_, rfl⟩⟩
           rw [e.2]
           rfl)
        | (have w : wd b n p 1 := hx37.elim (fun q => q.2.2) (fun q => absurd q.1 (by omega))
           have e := (wd_nm (by omega)).mp w
           refine ⟨_, rfl, Or.inl ⟨e.1, ?_, rfl⟩⟩
           rw [e.2]
           rfl)
        | (have w : wd b n p 2 := hx61.elim (fun q => q.2.2) (fun q => absurd q.1 (by omega))
           have e := (wd_nm (by omega)).mp w
           refine ⟨_, rfl, Or.inl ⟨e.1, ?_, rfl⟩⟩
           rw [e.2]
           rfl)
        | (have w : wd b n p 3 := hx87.elim (fun q => q.2.2) (fun q => absurd q.1 (by omega))
           have e := (wd_nm (by omega)).mp w
           refine ⟨_, rfl, Or.inl ⟨e.1, ?_, rfl⟩⟩
           rw [e.2]
           rfl)
        | (have w : wd b n p 4 := hx110.elim (fun q => q.2.2) (fun q => absurd q.1 (by omega))
           have e := (wd_nm (by omega)).mp w
           refine ⟨_, rfl, Or.inl ⟨e.1, ?_, rfl⟩⟩
           rw [e.2]
           rfl)
        | (have w : wd b n p 5 := hx135.elim (fun q => q.2.2) (fun q => absurd q.1 (by omega))
           have e := (wd_nm (by omega)).mp w
           refine ⟨_, rfl, Or.inl ⟨e.1, ?_, rfl⟩⟩
           rw [e.2]
           rfl)
        | (refine ⟨_, rfl, Or.inr ⟨fun q => ?_, rfl, im2, h2, hag, rfl⟩⟩
           obtain ⟨i, hi, hv, hw⟩ := tk_3 q
           rcases (show i = 0 ∨ i = 1 ∨ i = 2 ∨ i = 3 ∨ i = 4 ∨ i = 5 by omega) with rfl | rfl | rfl | rfl | rfl | rfl
           · exact hx13.elim (fun q => by omega) (fun q => q.2 ⟨rfl, hw⟩)
           · exact hx37.elim (fun q => by omega) (fun q => q.2 ⟨rfl, hw⟩)
           · exact hx61.elim (fun q => by omega) (fun q => q.2 ⟨rfl, hw⟩)
           · exact hx87.elim (fun q => by omega) (fun q => q.2 ⟨rfl, hw⟩)
           · exact hx110.elim (fun q => by omega) (fun q => q.2 ⟨rfl, hw⟩)
           · exact hx135.elim (fun q => by omega) (fun q => q.2 ⟨rfl, hw⟩))
  · refine q_aload_n (t := 20) F dX9_name_19 rfl rfl rfl ?_
    refine g_X9_202 (t := 23) F dX9_name_20 rfl rfl ?_
    try simp only [up_app, row_app, scr_app, cpy_app, Nat.reduceEqDiff, Int.reduceToNat, Int.toNat_natCast, and_true, true_and, and_false, false_and, and_self, reduceIte]
    refine q_iret F dX9_name_23 rfl ?_
    first
      | (have w : wd b n p 0 := hx13.elim (fun q => q.2.2) (fun q => absurd q.1 (by omega))
         have e := (wd_nm (by omega)).mp w
         refine ⟨_, rfl, Or.inl ⟨e.1, ?_, rfl⟩⟩
         rw [e.2]
         rfl)
      | (have w : wd b n p 1 := hx37.elim (fun q => q.2.2) (fun q => absurd q.1 (by omega))
         have e := (wd_nm (by omega)).mp w
         refine ⟨_, rfl, Or.inl ⟨e.1, ?_, rfl⟩⟩
         rw [e.2]
         rfl)
      | (have w : wd b n p 2 := hx61.elim (fun q => q.2.2) (fun q => absurd q.1 (by omega))
         have e := (wd_nm (by omega)).mp w
         refine ⟨_, rfl, Or.inl ⟨e.1, ?_, rfl⟩⟩
         rw [e.2]
         rfl)
      | (have w : wd b n p 3 := hx87.elim (fun q => q.2.2) (fun q => absurd q.1 (by omega))
         have e := (wd_nm (by omega)).mp w
         refine ⟨_, rfl, Or.inl ⟨e.1, ?_, rfl⟩⟩
         rw [e.2]
         rfl)
      | (have w : wd b n p 4 := hx110.elim (fun q => q.2.2) (fun q => absurd q.1 (by omega))
         have e := (wd_nm (by omega)).mp w
         refine ⟨_, rfl, Or.inl ⟨e.1, ?_, rfl⟩⟩
         rw [e.2]
         rfl)
      | (have w : wd b n p 5 := hx135.elim (fun q => q.2.2) (fun q => absurd q.1 (by omega))
         have e := (wd_nm (by omega)).mp w
         refine ⟨_, rfl, Or.inl ⟨e.1, ?_, rfl⟩⟩
         rw [e.2]
         rfl)
      | (refine ⟨_, rfl, Or.inr ⟨fun q => ?_, rfl, im2, h2, hag, rfl⟩⟩
         obtain ⟨i, hi, hv, hw⟩ := tk_3 q
         rcases (show i = 0 ∨ i = 1 ∨ i = 2 ∨ i = 3 ∨ i = 4 ∨ i = 5 by omega) with rfl | rfl | rfl | rfl | rfl | rfl
         · exact hx13.elim (fun q => by omega) (fun q => q.2 ⟨rfl, hw⟩)
         · exact hx37.elim (fun q => by omega) (fun q => q.2 ⟨rfl, hw⟩)
         · exact hx61.elim (fun q => by omega) (fun q => q.2 ⟨rfl, hw⟩)
         · exact hx87.elim (fun q => by omega) (fun q => q.2 ⟨rfl, hw⟩)
         · exact hx110.elim (fun q => by omega) (fun q => q.2 ⟨rfl, hw⟩)
         · exact hx135.elim (fun q => by omega) (fun q => q.2 ⟨rfl, hw⟩))
