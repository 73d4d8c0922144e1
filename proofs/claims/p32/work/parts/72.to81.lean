section
/-! the reference: the level 0, all levels -/

set_option maxHeartbeats 4000000 in
theorem c_X9_atom0 (l : Launch) (G : GS)  (bt rt : Nat)  (b : Nat → Int) (n : Nat) (hb : byt b n) (hA : RT l G bt rt b n yX9_atom1 Y_X9_atom1 (oneL b n 4) 1) (hE : RT l G bt rt b n yX9_either1 Y_X9_either1 (eitL b n 4) 1) (im lm : IM) (nm : Nat → Int) (p : Nat) (f : Int) (h : PQ b n im lm p f) (h27 : im 30 0 27 = ((0 : Nat) : Int)) (hnm : NMr im nm) : Cn l (XR G) yX9_atom0 Y_X9_atom0 [vR 30 0] (im, rs bt rt, lm) (pI fun x m' => ∃ im' lm', RPO b n im lm nm (stP (oneL b n 5) p f) x im' lm' ∧ m' = (im', rs bt rt, lm')) := by
  refine cn_of (by decide) (okR G) rfl (Nat.le_of_ble_eq_true rfl) ?_
  intro M ad hMl F
  subst hMl
  have hn := hb.1
  have hR := h.2.1
  have hbb := h.b01
  have hti := tk_in b n p
  have hTK := TK_is h
  refine wp_pad 1 ?_
  show Wp M (XR G) ad Y_X9_atom0 (pI fun x m' => ∃ im' lm', RPO b n im lm nm (stP (oneL b n 5) p f) x im' lm' ∧ m' = (im', rs bt rt, lm')) 0 [some (vR 30 0), none] [] (im, rs bt rt, lm)
  have T161 : ∀ (x : Int) (im1 lm1 : IM), RPO b n im lm nm (stP (oneL b n 5) p f) x im1 lm1 → Wp M (XR G) ad Y_X9_atom0 (pI fun x m' => ∃ im' lm', RPO b n im lm nm (stP (oneL b n 5) p f) x im' lm' ∧ m' = (im', rs bt rt, lm')) 161 [some (vR 30 0), some (vI x)] [] (im1, rs bt rt, lm1) := by
    intro x im1 lm1 hr
    refine q_iload_n (t := 162) F dX9_atom0_161 rfl rfl rfl ?_
    refine q_iret F dX9_atom0_162 rfl ?_
    exact ⟨x, rfl, im1, lm1, hr, rfl⟩
  have T71 : ∀ (x : Int) (r : PT) (f4 : Int) (im4 lm4 : IM), ri x → PQ b n im4 lm4 r.1 f4 → agQ im4 (up im 30 0 27 ((0 : Nat) + 1 : Int)) → lgQ lm4 lm → (f4 = -1 → x = r.2.2.2 nm ∧ tk b n r.1 = 41) → stP (oneL b n 5) p f = (if f4 = -1 then (adv b n r.1, -1, r.2.2) else (r.1, f4, r.2.2)) → Wp M (XR G) ad Y_X9_atom0 (pI fun x m' => ∃ im' lm', RPO b n im lm nm (stP (oneL b n 5) p f) x im' lm' ∧ m' = (im', rs bt rt, lm')) 71 [some (vR 30 0), some (vI x)] [] (im4, rs bt rt, lm4) := by
    intro x r f4 im4 lm4 hrx h4 hag4 hlg4 hgd heq
    have e27 : im4 30 0 27 - 1 = ((0 : Nat) : Int) := by
      rw [hag4 30 0 27 (by omega), up_app, if_pos ⟨rfl, rfl, rfl⟩]
      omega
    have h44 : PQ b n (up im4 30 0 27 ((0 : Nat) : Int)) lm4 r.1 f4 := PQ_27 h4 (by constructor <;> omega)
    have hb4 := h4.b01
    refine q_aload_n (t := 72) F dX9_atom0_71 rfl rfl rfl ?_
    refine q_dupR (t := 73) F dX9_atom0_72 rfl ?_
    refine g_X9_190 (t := 76) F dX9_atom0_73 rfl rfl ?_
    refine q_iconst (t := 77) F dX9_atom0_76 rfl ?_
    refine q_isub (t := 78) F dX9_atom0_77 rfl ?_
    rw [e27]
    refine p_X9_190 (t := 81) F dX9_atom0_78 rfl rfl ?_
    refine q_aload_n (t := 82) F dX9_atom0_81 rfl rfl rfl ?_
    refine g_X9_179 (t := 85) F dX9_atom0_82 rfl rfl ?_
    try simp only [up_app, row_app, scr_app, cpy_app, Nat.reduceEqDiff, Int.reduceToNat, Int.toNat_natCast, and_true, true_and, and_false, false_and, and_self, reduceIte]
    refine q_if_ne (t := 88) (u := 161) F dX9_atom0_85 (by exact h4.2.1 _ _ _) (by decide) rfl (fun c85 => ?_) (fun c85 => ?_)
    · have hf4 : f4 ≠ -1 := by omega
      refine T161 x (up im4 30 0 27 ((0 : Nat) : Int)) lm4 ⟨hrx, ?_, ag_27 hag4 h27, hlg4, fun q => ?_⟩
      · rw [heq, if_neg hf4]; exact h44
      · rw [heq, if_neg hf4] at q
        exact absurd q hf4
    · have hf4 : f4 = -1 := by omega
      have ht41 := (hgd hf4).2
      have hlt4 : r.1 < n := tk_lt (b := b) (by omega)
      have h45 := h44
      rw [hf4] at h45
      refine q_aload_n (t := 89) F dX9_atom0_88 rfl rfl rfl ?_
      refine wp_callV (t := 92) [] F dX9_atom0_89 k_X9_next v_X9_next ml_X9_196 rfl rfl rfl rfl (Nat.le_of_ble_eq_true rfl) (by decide) (m_30 (by omega)) (c_nextQ _ G _ bt rt lm4 b n hb r.1 h45 hlt4 (by omega)) rfl (kV ?_)
      rintro m' ⟨im5, lm5, h5, hag5, hlg5, rfl⟩
      refine q_goto (t := 161) F dX9_atom0_92 (by decide) ?_
      refine T161 x im5 lm5 ⟨hrx, ?_, hag5.trans (ag_27 hag4 h27), hlg5.trans hlg4, fun q => ?_⟩
      · rw [heq, if_pos hf4]; exact h5
      · rw [heq, if_pos hf4]; exact (hgd hf4).1
  refine q_iconst (t := 1) F dX9_atom0_0 rfl ?_
  refine q_istore_n (t := 2) F dX9_atom0_1 rfl (by decide) rfl rfl ?_
  refine q_aload_n (t := 3) F dX9_atom0_2 rfl rfl rfl ?_
  refine q_bipush (t := 5) F dX9_atom0_3 (by decide) rfl ?_
  refine wp_callV (t := 8) [_] F dX9_atom0_5 k_X9_isSign v_X9_isSign ml_X9_220 rfl rfl rfl rfl (Nat.le_of_ble_eq_true rfl) (by decide) (m_30 (by omega)) (c_X9_isSign _ G im bt rt lm b n hb p f h 45 (by omega) (by omega)) rfl (kI ?_)
  rintro x5 m' ⟨hx5, rfl⟩
  have hx5 := if01 hx5
  refine q_if_eq (t := 11) (u := 37) F dX9_atom0_8 (by first | exact hR _ _ _ | (constructor <;> omega)) (by decide) rfl (fun c8 => ?_) (fun c8 => ?_)
  · refine q_aload_n (t := 38) F dX9_atom0_37 rfl rfl rfl ?_
    refine q_bipush (t := 40) F dX9_atom0_38 (by decide) rfl ?_
    refine wp_callV (t := 43) [_] F dX9_atom0_40 k_X9_isSign v_X9_isSign ml_X9_220 rfl rfl rfl rfl (Nat.le_of_ble_eq_true rfl) (by decide) (m_30 (by omega)) (c_X9_isSign _ G im bt rt lm b n hb p f h 40 (by omega) (by omega)) rfl (kI ?_)
    rintro x40 m' ⟨hx40, rfl⟩
    have hx40 := if01 hx40
    refine q_if_eq (t := 46) (u := 95) F dX9_atom0_43 (by first | exact hR _ _ _ | (constructor <;> omega)) (by decide) rfl (fun c43 => ?_) (fun c43 => ?_)
    · refine q_aload_n (t := 96) F dX9_atom0_95 rfl rfl rfl ?_
      refine g_X9_179 (t := 99) F dX9_atom0_96 rfl rfl ?_
      try simp only [up_app, row_app, scr_app, cpy_app, Nat.reduceEqDiff, Int.reduceToNat, Int.toNat_natCast, and_true, true_and, and_false, false_and, and_self, reduceIte]
      refine q_if_ne (t := 102) (u := 123) F dX9_atom0_99 (by exact hR _ _ _) (by decide) rfl (fun c99 => ?_) (fun c99 => ?_)
      · refine q_aload_n (t := 124) F dX9_atom0_123 rfl rfl rfl ?_
        refine g_X9_179 (t := 127) F dX9_atom0_124 rfl rfl ?_
        try simp only [up_app, row_app, scr_app, cpy_app, Nat.reduceEqDiff, Int.reduceToNat, Int.toNat_natCast, and_true, true_and, and_false, false_and, and_self, reduceIte]
        refine q_if_ne (t := 130) (u := 157) F dX9_atom0_127 (by exact hR _ _ _) (by decide) rfl (fun c127 => ?_) (fun c127 => ?_)
        · refine q_aload_n (t := 158) F dX9_atom0_157 rfl rfl rfl ?_
          refine wp_callV (t := 161) [] F dX9_atom0_158 k_X9_fail v_X9_fail ml_X9_193 rfl rfl rfl rfl (Nat.le_of_ble_eq_true rfl) (by decide) (m_30 (by omega)) (c_failQ _ G im bt rt lm b n p f h) rfl (kV ?_)
          rintro m' ⟨im9, h9, hag9, rfl⟩
          by_cases hf : f = -1
          · subst hf
            have e : oneL b n 5 p = pFail p := by
              refine one_non ?_ ?_ ?_
              · intro q
                have := (hTK rfl).1.mpr q
                omega
              · intro q
                have := (hTK rfl).2.2.mpr (tk_3L q)
                omega
              · omega
            refine T161 0 im9 lm ⟨by constructor <;> omega, ?_, hag9, lgQ_rfl lm, fun q => ?_⟩
            · rw [stP_y, e]; exact h9
            · rw [stP_y, e] at q
              have : (p : Int) = -1 := q
              omega
          · refine T161 0 im9 lm ⟨by constructor <;> omega, ?_, hag9, lgQ_rfl lm, fun q => ?_⟩
            · rw [if_neg hf] at h9
              rw [stP_n hf]; exact h9
            · rw [stP_n hf] at q
              exact absurd q hf
        · refine q_aload_n (t := 131) F dX9_atom0_130 rfl rfl rfl ?_
          refine g_X9_164 (t := 134) F dX9_atom0_131 rfl rfl ?_
          try simp only [up_app, row_app, scr_app, cpy_app, Nat.reduceEqDiff, Int.reduceToNat, Int.toNat_natCast, and_true, true_and, and_false, false_and, and_self, reduceIte]
          refine q_iconst (t := 135) F dX9_atom0_134 rfl ?_
          refine q_icmp_ne (t := 138) (u := 157) F dX9_atom0_135 (by exact hR _ _ _) (by constructor <;> omega) (by decide) rfl (fun c135 => ?_) (fun c135 => ?_)
          · refine q_aload_n (t := 158) F dX9_atom0_157 rfl rfl rfl ?_
            refine wp_callV (t := 161) [] F dX9_atom0_158 k_X9_fail v_X9_fail ml_X9_193 rfl rfl rfl rfl (Nat.le_of_ble_eq_true rfl) (by decide) (m_30 (by omega)) (c_failQ _ G im bt rt lm b n p f h) rfl (kV ?_)
            rintro m' ⟨im9, h9, hag9, rfl⟩
            by_cases hf : f = -1
            · subst hf
              have e : oneL b n 5 p = pFail p := by
                refine one_non ?_ ?_ ?_
                · intro q
                  have := (hTK rfl).1.mpr q
                  omega
                · intro q
                  have := (hTK rfl).2.2.mpr (tk_3L q)
                  omega
                · omega
              refine T161 0 im9 lm ⟨by constructor <;> omega, ?_, hag9, lgQ_rfl lm, fun q => ?_⟩
              · rw [stP_y, e]; exact h9
              · rw [stP_y, e] at q
                have : (p : Int) = -1 := q
                omega
            · refine T161 0 im9 lm ⟨by constructor <;> omega, ?_, hag9, lgQ_rfl lm, fun q => ?_⟩
              · rw [if_neg hf] at h9
                rw [stP_n hf]; exact h9
              · rw [stP_n hf] at q
                exact absurd q hf
          · have hf : f = -1 := by first | (clear hx5 hx40; omega) | omega
            subst hf
            have hwd := (hTK rfl).2.2.mp (by omega)
            refine q_aload_n (t := 139) F dX9_atom0_138 rfl rfl rfl ?_
            refine wp_callV (t := 142) [] F dX9_atom0_139 k_X9_name v_X9_name ml_X9_227 rfl rfl rfl rfl (Nat.le_of_ble_eq_true rfl) (by decide) (m_30 (by omega)) (c_nameQ _ G im bt rt lm b n hb nm p h hnm) rfl (kI ?_)
            rintro x139 m' ⟨im6, hri6, h6, hag6, hx6, rfl⟩
            have hb6 : (tk b n p = 3 ∧ im6 30 0 28 = 0) ∨ (tk b n p ≠ 3 ∧ im6 30 0 28 = 1) := by
              have q6 := h6.b01
              split at q6 <;> omega
            refine q_istore_n (t := 143) F dX9_atom0_142 rfl (by decide) rfl rfl ?_
            refine q_aload_n (t := 144) F dX9_atom0_143 rfl rfl rfl ?_
            refine g_X9_179 (t := 147) F dX9_atom0_144 rfl rfl ?_
            try simp only [up_app, row_app, scr_app, cpy_app, Nat.reduceEqDiff, Int.reduceToNat, Int.toNat_natCast, and_true, true_and, and_false, false_and, and_self, reduceIte]
            refine q_if_ne (t := 150) (u := 161) F dX9_atom0_147 (by exact h6.2.1 _ _ _) (by decide) rfl (fun c147 => ?_) (fun c147 => ?_)
            · have e : oneL b n 5 p = pFail p := by
                have h29 := tk_L9 hwd.1 hwd.2
                exact one_non h29.1 (fun q => by omega) (by omega)
              have ht3 : tk b n p ≠ 3 := by omega
              rw [if_neg ht3] at h6
              refine T161 x139 im6 lm ⟨hri6, ?_, hag6, lgQ_rfl lm, fun q => ?_⟩
              · rw [stP_y, e]; exact h6
              · rw [stP_y, e] at q
                have : (p : Int) = -1 := q
                omega
            · have ht3 : tk b n p = 3 := by omega
              rw [if_pos ht3] at h6
              refine q_aload_n (t := 151) F dX9_atom0_150 rfl rfl rfl ?_
              refine wp_callV (t := 154) [] F dX9_atom0_151 k_X9_next v_X9_next ml_X9_196 rfl rfl rfl rfl (Nat.le_of_ble_eq_true rfl) (by decide) (m_30 (by omega)) (c_nextQ _ G im6 bt rt lm b n hb p h6 hwd.1 (by omega)) rfl (kV ?_)
              rintro m' ⟨im7, lm7, h7, hag7, hlg7, rfl⟩
              refine q_goto (t := 161) F dX9_atom0_154 (by decide) ?_
              refine T161 x139 im7 lm7 ⟨hri6, ?_, hag7.trans hag6, hlg7, fun q => ?_⟩
              · rw [stP_y, oneR_nam ht3]; exact h7
              · rw [stP_y, oneR_nam ht3]; exact hx6 ht3
      · refine q_aload_n (t := 103) F dX9_atom0_102 rfl rfl rfl ?_
        refine g_X9_164 (t := 106) F dX9_atom0_103 rfl rfl ?_
        try simp only [up_app, row_app, scr_app, cpy_app, Nat.reduceEqDiff, Int.reduceToNat, Int.toNat_natCast, and_true, true_and, and_false, false_and, and_self, reduceIte]
        refine q_iconst (t := 107) F dX9_atom0_106 rfl ?_
        refine q_icmp_ne (t := 110) (u := 123) F dX9_atom0_107 (by exact hR _ _ _) (by constructor <;> omega) (by decide) rfl (fun c107 => ?_) (fun c107 => ?_)
        · refine q_aload_n (t := 124) F dX9_atom0_123 rfl rfl rfl ?_
          refine g_X9_179 (t := 127) F dX9_atom0_124 rfl rfl ?_
          try simp only [up_app, row_app, scr_app, cpy_app, Nat.reduceEqDiff, Int.reduceToNat, Int.toNat_natCast, and_true, true_and, and_false, false_and, and_self, reduceIte]
          refine q_if_ne (t := 130) (u := 157) F dX9_atom0_127 (by exact hR _ _ _) (by decide) rfl (fun c127 => ?_) (fun c127 => ?_)
          · refine q_aload_n (t := 158) F dX9_atom0_157 rfl rfl rfl ?_
            refine wp_callV (t := 161) [] F dX9_atom0_158 k_X9_fail v_X9_fail ml_X9_193 rfl rfl rfl rfl (Nat.le_of_ble_eq_true rfl) (by decide) (m_30 (by omega)) (c_failQ _ G im bt rt lm b n p f h) rfl (kV ?_)
            rintro m' ⟨im9, h9, hag9, rfl⟩
            by_cases hf : f = -1
            · subst hf
              have e : oneL b n 5 p = pFail p := by
                refine one_non ?_ ?_ ?_
                · intro q
                  have := (hTK rfl).1.mpr q
                  omega
                · intro q
                  have := (hTK rfl).2.2.mpr (tk_3L q)
                  omega
                · omega
              refine T161 0 im9 lm ⟨by constructor <;> omega, ?_, hag9, lgQ_rfl lm, fun q => ?_⟩
              · rw [stP_y, e]; exact h9
              · rw [stP_y, e] at q
                have : (p : Int) = -1 := q
                omega
            · refine T161 0 im9 lm ⟨by constructor <;> omega, ?_, hag9, lgQ_rfl lm, fun q => ?_⟩
              · rw [if_neg hf] at h9
                rw [stP_n hf]; exact h9
              · rw [stP_n hf] at q
                exact absurd q hf
          · refine q_aload_n (t := 131) F dX9_atom0_130 rfl rfl rfl ?_
            refine g_X9_164 (t := 134) F dX9_atom0_131 rfl rfl ?_
            try simp only [up_app, row_app, scr_app, cpy_app, Nat.reduceEqDiff, Int.reduceToNat, Int.toNat_natCast, and_true, true_and, and_false, false_and, and_self, reduceIte]
            refine q_iconst (t := 135) F dX9_atom0_134 rfl ?_
            refine q_icmp_ne (t := 138) (u := 157) F dX9_atom0_135 (by exact hR _ _ _) (by constructor <;> omega) (by decide) rfl (fun c135 => ?_) (fun c135 => ?_)
            · refine q_aload_n (t := 158) F dX9_atom0_157 rfl rfl rfl ?_
              refine wp_callV (t := 161) [] F dX9_atom0_158 k_X9_fail v_X9_fail ml_X9_193 rfl rfl rfl rfl (Nat.le_of_ble_eq_true rfl) (by decide) (m_30 (by omega)) (c_failQ _ G im bt rt lm b n p f h) rfl (kV ?_)
              rintro m' ⟨im9, h9, hag9, rfl⟩
              by_cases hf : f = -1
              · subst hf
                have e : oneL b n 5 p = pFail p := by
                  refine one_non ?_ ?_ ?_
                  · intro q
                    have := (hTK rfl).1.mpr q
                    omega
                  · intro q
                    have := (hTK rfl).2.2.mpr (tk_3L q)
                    omega
                  · omega
                refine T161 0 im9 lm ⟨by constructor <;> omega, ?_, hag9, lgQ_rfl lm, fun q => ?_⟩
                · rw [stP_y, e]; exact h9
                · rw [stP_y, e] at q
                  have : (p : Int) = -1 := q
                  omega
              · refine T161 0 im9 lm ⟨by constructor <;> omega, ?_, hag9, lgQ_rfl lm, fun q => ?_⟩
                · rw [if_neg hf] at h9
                  rw [stP_n hf]; exact h9
                · rw [stP_n hf] at q
                  exact absurd q hf
            · have hf : f = -1 := by first | (clear hx5 hx40; omega) | omega
              subst hf
              have hwd := (hTK rfl).2.2.mp (by omega)
              refine q_aload_n (t := 139) F dX9_atom0_138 rfl rfl rfl ?_
              refine wp_callV (t := 142) [] F dX9_atom0_139 k_X9_name v_X9_name ml_X9_227 rfl rfl rfl rfl (Nat.le_of_ble_eq_true rfl) (by decide) (m_30 (by omega)) (c_nameQ _ G im bt rt lm b n hb nm p h hnm) rfl (kI ?_)
              rintro x139 m' ⟨im6, hri6, h6, hag6, hx6, rfl⟩
              have hb6 : (tk b n p = 3 ∧ im6 30 0 28 = 0) ∨ (tk b n p ≠ 3 ∧ im6 30 0 28 = 1) := by
                have q6 := h6.b01
                split at q6 <;> omega
              refine q_istore_n (t := 143) F dX9_atom0_142 rfl (by decide) rfl rfl ?_
              refine q_aload_n (t := 144) F dX9_atom0_143 rfl rfl rfl ?_
              refine g_X9_179 (t := 147) F dX9_atom0_144 rfl rfl ?_
              try simp only [up_app, row_app, scr_app, cpy_app, Nat.reduceEqDiff, Int.reduceToNat, Int.toNat_natCast, and_true, true_and, and_false, false_and, and_self, reduceIte]
              refine q_if_ne (t := 150) (u := 161) F dX9_atom0_147 (by exact h6.2.1 _ _ _) (by decide) rfl (fun c147 => ?_) (fun c147 => ?_)
              · have e : oneL b n 5 p = pFail p := by
                  have h29 := tk_L9 hwd.1 hwd.2
                  exact one_non h29.1 (fun q => by omega) (by omega)
                have ht3 : tk b n p ≠ 3 := by omega
                rw [if_neg ht3] at h6
                refine T161 x139 im6 lm ⟨hri6, ?_, hag6, lgQ_rfl lm, fun q => ?_⟩
                · rw [stP_y, e]; exact h6
                · rw [stP_y, e] at q
                  have : (p : Int) = -1 := q
                  omega
              · have ht3 : tk b n p = 3 := by omega
                rw [if_pos ht3] at h6
                refine q_aload_n (t := 151) F dX9_atom0_150 rfl rfl rfl ?_
                refine wp_callV (t := 154) [] F dX9_atom0_151 k_X9_next v_X9_next ml_X9_196 rfl rfl rfl rfl (Nat.le_of_ble_eq_true rfl) (by decide) (m_30 (by omega)) (c_nextQ _ G im6 bt rt lm b n hb p h6 hwd.1 (by omega)) rfl (kV ?_)
                rintro m' ⟨im7, lm7, h7, hag7, hlg7, rfl⟩
                refine q_goto (t := 161) F dX9_atom0_154 (by decide) ?_
                refine T161 x139 im7 lm7 ⟨hri6, ?_, hag7.trans hag6, hlg7, fun q => ?_⟩
                · rw [stP_y, oneR_nam ht3]; exact h7
                · rw [stP_y, oneR_nam ht3]; exact hx6 ht3
        · have hf : f = -1 := by first | (clear hx5 hx40; omega) | omega
          subst hf
          have ht2 : tk b n p = 2 := by have := (hTK rfl).1; omega
          have hlt : p < n := tk_lt (b := b) (by omega)
          have hvl := (hTK rfl).2.1 ht2
          have hv2 := vl_2 ht2
          refine q_aload_n (t := 111) F dX9_atom0_110 rfl rfl rfl ?_
          refine g_X9_175 (t := 114) F dX9_atom0_111 rfl rfl ?_
          try simp only [up_app, row_app, scr_app, cpy_app, Nat.reduceEqDiff, Int.reduceToNat, Int.toNat_natCast, and_true, true_and, and_false, false_and, and_self, reduceIte]
          refine q_l2i (t := 115) F dX9_atom0_114 rfl ?_
          refine q_istore_n (t := 116) F dX9_atom0_115 rfl (by decide) rfl rfl ?_
          refine q_aload_n (t := 117) F dX9_atom0_116 rfl rfl rfl ?_
          refine wp_callV (t := 120) [] F dX9_atom0_117 k_X9_next v_X9_next ml_X9_196 rfl rfl rfl rfl (Nat.le_of_ble_eq_true rfl) (by decide) (m_30 (by omega)) (c_nextQ _ G im bt rt lm b n hb p h hlt (by omega)) rfl (kV ?_)
          rintro m' ⟨im5, lm5, h5, hag5, hlg5, rfl⟩
          refine q_goto (t := 161) F dX9_atom0_120 (by decide) ?_
          refine T161 (lm 30 0 26) im5 lm5 ⟨by constructor <;> omega, ?_, hag5, hlg5, fun q => ?_⟩
          · rw [stP_y, oneR_num ht2]; exact h5
          · rw [stP_y, oneR_num ht2]; exact hvl
    · have hf : f = -1 := by omega
      subst hf
      have hlt : p < n := tk_lt (b := b) (by omega)
      have hx40t : tk b n p = 40 := by omega
      refine q_aload_n (t := 47) F dX9_atom0_46 rfl rfl rfl ?_
      refine wp_callV (t := 50) [] F dX9_atom0_47 k_X9_opens v_X9_opens ml_X9_223 rfl rfl rfl rfl (Nat.le_of_ble_eq_true rfl) (by decide) (m_30 (by omega)) (c_X9_opens _ G im bt rt lm b n hb p h hlt (by omega) 0 (by omega) h27) rfl (kI ?_)
      rintro x47 m' (⟨q, -⟩ | ⟨-, rfl, im2, lm2, h2, h227, hag, hlg, rfl⟩)
      · exact absurd q (by omega)
      refine q_if_eq (t := 53) (u := 161) F dX9_atom0_50 (by first | exact hR _ _ _ | (constructor <;> omega)) (by decide) rfl (fun c50 => ?_) (fun c50 => ?_)
      · exfalso; omega
      · refine q_aload_n (t := 54) F dX9_atom0_53 rfl rfl rfl ?_
        refine wp_callV (t := 57) [] F dX9_atom0_54 k_X9_either1 v_X9_either1 ml_X9_322 rfl rfl rfl rfl (Nat.le_of_ble_eq_true rfl) (by decide) (m_30 (by omega)) (hE im2 lm2 nm (adv b n p) (-1) h2 (by omega) (hnm.ag27 hag)) rfl (kI ?_)
        rintro x54 m' ⟨im3, lm3, h3, rfl⟩
        rw [stP_y] at h3
        obtain ⟨r, hrd⟩ : ∃ r, r = eitL b n 4 (adv b n p) := ⟨_, rfl⟩
        rw [← hrd] at h3
        refine q_istore_n (t := 58) F dX9_atom0_57 rfl (by decide) rfl rfl ?_
        refine q_aload_n (t := 59) F dX9_atom0_58 rfl rfl rfl ?_
        refine q_bipush (t := 61) F dX9_atom0_59 (by decide) rfl ?_
        refine wp_callV (t := 64) [_] F dX9_atom0_61 k_X9_isSign v_X9_isSign ml_X9_220 rfl rfl rfl rfl (Nat.le_of_ble_eq_true rfl) (by decide) (m_30 (by omega)) (c_X9_isSign _ G im3 bt rt lm3 b n hb _ _ h3.2.1 41 (by omega) (by omega)) rfl (kI ?_)
        rintro x61 m' ⟨hx61, rfl⟩
        have hx61 := if01 hx61
        refine q_if_ne (t := 67) (u := 71) F dX9_atom0_64 (by first | exact hR _ _ _ | (constructor <;> omega)) (by decide) rfl (fun c64 => ?_) (fun c64 => ?_)
        · have hq : r.2.1 = -1 ∧ tk b n r.1 = 41 := by omega
          have h33 := h3.2.1
          rw [hq.1] at h33
          exact T71 x54 r (-1) im3 lm3 h3.1 h33 (h3.2.2.1.trans hag) (h3.2.2.2.1.trans hlg) (fun _ => ⟨h3.2.2.2.2 hq.1, hq.2⟩) (by rw [stP_y, one_par (m := 4) hx40t, ← hrd, if_pos hq.1, if_pos hq.2, if_pos rfl])
        · refine q_aload_n (t := 68) F dX9_atom0_67 rfl rfl rfl ?_
          refine wp_callV (t := 71) [] F dX9_atom0_68 k_X9_fail v_X9_fail ml_X9_193 rfl rfl rfl rfl (Nat.le_of_ble_eq_true rfl) (by decide) (m_30 (by omega)) (c_failQ _ G im3 bt rt lm3 b n _ _ h3.2.1) rfl (kV ?_)
          rintro m' ⟨im9, h9, hag9, rfl⟩
          have hq : ¬ (r.2.1 = -1 ∧ tk b n r.1 = 41) := by omega
          refine T71 x54 r (if r.2.1 = -1 then (r.1 : Int) else r.2.1) im9 lm3 h3.1 h9 (hag9.trans (h3.2.2.1.trans hag)) (h3.2.2.2.1.trans hlg) (fun q => ?_) ?_
          · split at q <;> omega
          · rw [stP_y, one_par (m := 4) hx40t, ← hrd]
            by_cases hr1 : r.2.1 = -1
            · rw [if_pos hr1, if_neg (fun q => hq ⟨hr1, q⟩), if_pos hr1, if_neg (by omega)]
            · rw [if_neg hr1, if_neg hr1, if_neg hr1]
  · have hf : f = -1 := by omega
    subst hf
    have hlt : p < n := tk_lt (b := b) (by omega)
    have hx5t : tk b n p = 45 := by omega
    refine q_aload_n (t := 12) F dX9_atom0_11 rfl rfl rfl ?_
    refine wp_callV (t := 15) [] F dX9_atom0_12 k_X9_opens v_X9_opens ml_X9_223 rfl rfl rfl rfl (Nat.le_of_ble_eq_true rfl) (by decide) (m_30 (by omega)) (c_X9_opens _ G im bt rt lm b n hb p h hlt (by omega) 0 (by omega) h27) rfl (kI ?_)
    rintro x12 m' (⟨q, -⟩ | ⟨-, rfl, im2, lm2, h2, h227, hag, hlg, rfl⟩)
    · exact absurd q (by omega)
    refine q_if_eq (t := 18) (u := 161) F dX9_atom0_15 (by first | exact hR _ _ _ | (constructor <;> omega)) (by decide) rfl (fun c15 => ?_) (fun c15 => ?_)
    · exfalso; omega
    · refine q_aload_n (t := 19) F dX9_atom0_18 rfl rfl rfl ?_
      refine wp_callV (t := 22) [] F dX9_atom0_19 k_X9_atom1 v_X9_atom1 ml_X9_307 rfl rfl rfl rfl (Nat.le_of_ble_eq_true rfl) (by decide) (m_30 (by omega)) (hA im2 lm2 nm (adv b n p) (-1) h2 (by omega) (hnm.ag27 hag)) rfl (kI ?_)
      rintro x19 m' ⟨im3, lm3, h3, rfl⟩
      rw [stP_y] at h3
      refine q_ineg (t := 23) F dX9_atom0_22 rfl ?_
      refine q_norm ?_
      refine q_istore_n (t := 24) F dX9_atom0_23 rfl (by decide) rfl rfl ?_
      refine q_aload_n (t := 25) F dX9_atom0_24 rfl rfl rfl ?_
      refine q_dupR (t := 26) F dX9_atom0_25 rfl ?_
      refine g_X9_190 (t := 29) F dX9_atom0_26 rfl rfl ?_
      try simp only [up_app, row_app, scr_app, cpy_app, Nat.reduceEqDiff, Int.reduceToNat, Int.toNat_natCast, and_true, true_and, and_false, false_and, and_self, reduceIte]
      refine q_iconst (t := 30) F dX9_atom0_29 rfl ?_
      refine q_isub (t := 31) F dX9_atom0_30 rfl ?_
      rw [show im3 30 0 27 - 1 = ((0 : Nat) : Int) by rw [h3.2.2.1 30 0 27 (by omega)]; omega]
      refine p_X9_190 (t := 34) F dX9_atom0_31 rfl rfl ?_
      refine q_goto (t := 161) F dX9_atom0_34 (by decide) ?_
      refine T161 (bm (-x19)) (up im3 30 0 27 ((0 : Nat) : Int)) lm3 ?_
      rw [stP_y, one_min (m := 4) hx5t]
      exact RPO_neg (by omega) h27 hag hlg h3

set_option maxHeartbeats 4000000 in
theorem c_X9_term0 (l : Launch) (G : GS)  (bt rt : Nat)  (b : Nat → Int) (n : Nat) (hb : byt b n) (hO : RT l G bt rt b n yX9_atom0 Y_X9_atom0 (oneL b n 5) 0) (im lm : IM) (nm : Nat → Int) (p : Nat) (f : Int) (h : PQ b n im lm p f) (h27 : im 30 0 27 = ((0 : Nat) : Int)) (hnm : NMr im nm) : Cn l (XR G) yX9_term0 Y_X9_term0 [vR 30 0] (im, rs bt rt, lm) (pI fun x m' => ∃ im' lm', RPO b n im lm nm (stP (termL b n 5) p f) x im' lm' ∧ m' = (im', rs bt rt, lm')) := by
  refine cn_of (by decide) (okR G) rfl (Nat.le_of_ble_eq_true rfl) ?_
  intro M ad hMl F
  subst hMl
  have hn := hb.1
  have hR := h.2.1
  refine wp_pad 1 ?_
  show Wp M (XR G) ad Y_X9_term0 (pI fun x m' => ∃ im' lm', RPO b n im lm nm (stP (termL b n 5) p f) x im' lm' ∧ m' = (im', rs bt rt, lm')) 0 [some (vR 30 0), none] [] (im, rs bt rt, lm)
  refine q_aload_n (t := 1) F dX9_term0_0 rfl rfl rfl ?_
  refine wp_callV (t := 4) [] F dX9_term0_1 k_X9_atom0 v_X9_atom0 ml_X9_325 rfl rfl rfl rfl (Nat.le_of_ble_eq_true rfl) (by decide) (m_30 (by omega)) (hO im lm nm p f h h27 hnm) rfl (kI ?_)
  rintro x1 m' ⟨im0, lm0, h0, rfl⟩
  refine q_istore_n (t := 5) F dX9_term0_4 rfl (by decide) rfl rfl ?_
  have L5 : ∀ (fz : Nat) (k : Nat) (r : PT) (v : Int) (im1 lm1 : IM), k < fz → loopP b n opM (oneL b n 5) 160 (stP (oneL b n 5) p f) = loopP b n opM (oneL b n 5) k r → n - r.1 ≤ k → RPO b n im lm nm r v im1 lm1 → Wp M (XR G) ad Y_X9_term0 (pI fun x m' => ∃ im' lm', RPO b n im lm nm (stP (termL b n 5) p f) x im' lm' ∧ m' = (im', rs bt rt, lm')) 5 [some (vR 30 0), some (vI v)] [] (im1, rs bt rt, lm1) := by
    intro fz
    induction fz with
    | zero => intro k r v im1 lm1 h; exact absurd h (Nat.not_lt_zero _)
    | succ fz ih =>
      have ih5 := ih
      intro k r v im1 lm1 hmeas hlp hk hr
      have hti := tk_in b n r.1
      have hb1 := hr.2.1.b01
      have hrv := hr.1
      have hrv1 := hrv.1
      have hrv2 := hrv.2
      refine q_aload_n (t := 6) F dX9_term0_5 rfl rfl rfl ?_
      refine q_bipush (t := 8) F dX9_term0_6 (by decide) rfl ?_
      refine wp_callV (t := 11) [_] F dX9_term0_8 k_X9_isSign v_X9_isSign ml_X9_220 rfl rfl rfl rfl (Nat.le_of_ble_eq_true rfl) (by decide) (m_30 (by omega)) (c_X9_isSign _ G im1 bt rt lm1 b n hb r.1 r.2.1 hr.2.1 42 (by omega) (by omega)) rfl (kI ?_)
      rintro x8 m' ⟨hx8, rfl⟩
      have hx8 := if01 hx8
      refine q_if_eq (t := 14) (u := 28) F dX9_term0_11 (by first | exact hR _ _ _ | (constructor <;> omega)) (by decide) rfl (fun c11 => ?_) (fun c11 => ?_)
      · refine q_iload_n (t := 29) F dX9_term0_28 rfl rfl rfl ?_
        refine q_iret F dX9_term0_29 rfl ?_
        have e : stP (termL b n 5) p f = r := by
          have e0 : stP (termL b n 5) p f = loopP b n opM (oneL b n 5) 160 (stP (oneL b n 5) p f) := stP_loop (F := oneL b n 5) (k := 160)
          rw [e0, hlp]
          refine loopP_n (fun q => ?_)
          have q1 := q.1
          have q2 := q.2
          unfold opM at q2
          rw [if_neg (by omega)] at q2
          exact q2 rfl
        exact ⟨v, rfl, im1, lm1, by rw [e]; exact hr, rfl⟩
      · have hq : r.2.1 = -1 ∧ tk b n r.1 = 42 := by omega
        have hlt : r.1 < n := tk_lt (b := b) (by omega)
        have hop : opM (tk b n r.1) = -9 := by unfold opM; rw [if_pos hq.2]
        have hgd := PG_one b n 5 (adv b n r.1) (adv_in hlt).2
        have had := (adv_in (b := b) hlt).1
        have h11 := hr.2.1
        rw [hq.1] at h11
        refine q_aload_n (t := 15) F dX9_term0_14 rfl rfl rfl ?_
        refine wp_callV (t := 18) [] F dX9_term0_15 k_X9_next v_X9_next ml_X9_196 rfl rfl rfl rfl (Nat.le_of_ble_eq_true rfl) (by decide) (m_30 (by omega)) (c_nextQ _ G im1 bt rt lm1 b n hb r.1 h11 hlt (by omega)) rfl (kV ?_)
        rintro m' ⟨im2, lm2, h2, hag2, hlg2, rfl⟩
        refine q_iload_n (t := 19) F dX9_term0_18 rfl rfl rfl ?_
        refine q_aload_n (t := 20) F dX9_term0_19 rfl rfl rfl ?_
        refine wp_callV (t := 23) [] F dX9_term0_20 k_X9_atom0 v_X9_atom0 ml_X9_325 rfl rfl rfl rfl (Nat.le_of_ble_eq_true rfl) (by decide) (m_30 (by omega)) (hO im2 lm2 nm (adv b n r.1) (-1) h2 (((hag2.trans hr.2.2.1) 30 0 27 (by omega)).trans h27) (hnm.ag (hag2.trans hr.2.2.1))) rfl (kI ?_)
        rintro x20 m' ⟨im3, lm3, h3, rfl⟩
        rw [stP_y] at h3
        refine q_imul (t := 24) F dX9_term0_23 rfl ?_
        refine q_norm ?_
        refine q_istore_n (t := 25) F dX9_term0_24 rfl (by decide) rfl rfl ?_
        refine q_goto (t := 5) F dX9_term0_25 (by decide) ?_
        refine ih5 (k - 1) (lpS b n opM (oneL b n 5) r) _ im3 lm3 (by omega) ?_ ?_ (RPO_step hr hq.1 hag2 hlg2 h3 (ri_b _) (by rw [hop]; exact bi2_9 _ _))
        · rw [hlp]
          obtain ⟨k', hk'⟩ : ∃ k', k = k' + 1 := ⟨k - 1, by omega⟩
          rw [hk', loopP_y2 hq.1 (by rw [hop]; decide)]
          rfl
        · have := hgd.1
          show n - (oneL b n 5 (adv b n r.1)).1 ≤ k - 1
          omega
  exact L5 _ 160 _ _ _ _ (Nat.lt_succ_self _) rfl (by omega) h0

set_option maxHeartbeats 4000000 in
theorem c_X9_added0 (l : Launch) (G : GS)  (bt rt : Nat)  (b : Nat → Int) (n : Nat) (hb : byt b n) (hO : RT l G bt rt b n yX9_term0 Y_X9_term0 (termL b n 5) 0) (im lm : IM) (nm : Nat → Int) (p : Nat) (f : Int) (h : PQ b n im lm p f) (h27 : im 30 0 27 = ((0 : Nat) : Int)) (hnm : NMr im nm) : Cn l (XR G) yX9_added0 Y_X9_added0 [vR 30 0] (im, rs bt rt, lm) (pI fun x m' => ∃ im' lm', RPO b n im lm nm (stP (sumL b n 5) p f) x im' lm' ∧ m' = (im', rs bt rt, lm')) := by
  refine cn_of (by decide) (okR G) rfl (Nat.le_of_ble_eq_true rfl) ?_
  intro M ad hMl F
  subst hMl
  have hn := hb.1
  have hR := h.2.1
  refine wp_pad 3 ?_
  show Wp M (XR G) ad Y_X9_added0 (pI fun x m' => ∃ im' lm', RPO b n im lm nm (stP (sumL b n 5) p f) x im' lm' ∧ m' = (im', rs bt rt, lm')) 0 [some (vR 30 0), none, none, none] [] (im, rs bt rt, lm)
  refine q_aload_n (t := 1) F dX9_added0_0 rfl rfl rfl ?_
  refine wp_callV (t := 4) [] F dX9_added0_1 k_X9_term0 v_X9_term0 ml_X9_328 rfl rfl rfl rfl (Nat.le_of_ble_eq_true rfl) (by decide) (m_30 (by omega)) (hO im lm nm p f h h27 hnm) rfl (kI ?_)
  rintro x1 m' ⟨im0, lm0, h0, rfl⟩
  refine q_istore_n (t := 5) F dX9_added0_4 rfl (by decide) rfl rfl ?_
  have L5 : ∀ (fz : Nat) (k : Nat) (r : PT) (v : Int) (im1 lm1 : IM), k < fz → loopP b n opS (termL b n 5) 160 (stP (termL b n 5) p f) = loopP b n opS (termL b n 5) k r → n - r.1 ≤ k → RPO b n im lm nm r v im1 lm1 → Wp M (XR G) ad Y_X9_added0 (pI fun x m' => ∃ im' lm', RPO b n im lm nm (stP (sumL b n 5) p f) x im' lm' ∧ m' = (im', rs bt rt, lm')) 5 [some (vR 30 0), some (vI v), none, none] [] (im1, rs bt rt, lm1) := by
    intro fz
    induction fz with
    | zero => intro k r v im1 lm1 h; exact absurd h (Nat.not_lt_zero _)
    | succ fz ih =>
      have ih5 := ih
      intro k r v im1 lm1 hmeas hlp hk hr
      have hti := tk_in b n r.1
      have hb1 := hr.2.1.b01
      have hrv := hr.1
      have hrv1 := hrv.1
      have hrv2 := hrv.2
      refine q_aload_n (t := 6) F dX9_added0_5 rfl rfl rfl ?_
      refine q_bipush (t := 8) F dX9_added0_6 (by decide) rfl ?_
      refine wp_callV (t := 11) [_] F dX9_added0_8 k_X9_isSign v_X9_isSign ml_X9_220 rfl rfl rfl rfl (Nat.le_of_ble_eq_true rfl) (by decide) (m_30 (by omega)) (c_X9_isSign _ G im1 bt rt lm1 b n hb r.1 r.2.1 hr.2.1 43 (by omega) (by omega)) rfl (kI ?_)
      rintro x8 m' ⟨hx8, rfl⟩
      have hx8 := if01 hx8
      refine q_if_ne (t := 14) (u := 23) F dX9_added0_11 (by first | exact hR _ _ _ | (constructor <;> omega)) (by decide) rfl (fun c11 => ?_) (fun c11 => ?_)
      · have hq : r.2.1 = -1 ∧ (tk b n r.1 = 43 ∨ tk b n r.1 = 45) := by omega
        have hlt : r.1 < n := tk_lt (b := b) (by omega)
        
        have hgd := PG_termL b n 5 (adv b n r.1) (adv_in hlt).2
        have had := (adv_in (b := b) hlt).1
        have h11 := hr.2.1
        rw [hq.1] at h11
        have hw1 : lm1 30 0 26 = tk b n r.1 := ((TK_sign (h11.1.1 rfl).2.2 (s := tk b n r.1) (by omega)).mpr rfl).2
        have hcm : cmpI (lm1 30 0 26) 43 = 0 ↔ lm1 30 0 26 = 43 := cmpI_eq
        refine q_aload_n (t := 24) F dX9_added0_23 rfl rfl rfl ?_
        refine g_X9_175 (t := 27) F dX9_added0_24 rfl rfl ?_
        try simp only [up_app, row_app, scr_app, cpy_app, Nat.reduceEqDiff, Int.reduceToNat, Int.toNat_natCast, and_true, true_and, and_false, false_and, and_self, reduceIte]
        refine q_ldc2 (t := 30) (x := 43) F dX9_added0_27 kl_X9_237 (by decide) rfl ?_
        refine q_lcmp (t := 31) F dX9_added0_30 ⟨by omega, by omega⟩ ⟨by omega, by omega⟩ rfl ?_
        refine q_if_ne (t := 34) (u := 38) F dX9_added0_31 (by exact cmpI_ri _ _) (by decide) rfl (fun c31 => ?_) (fun c31 => ?_)
        · refine q_iconst (t := 39) F dX9_added0_38 rfl ?_
          refine q_istore_n (t := 40) F dX9_added0_39 rfl (by decide) rfl rfl ?_
          refine q_aload_n (t := 41) F dX9_added0_40 rfl rfl rfl ?_
          refine wp_callV (t := 44) [] F dX9_added0_41 k_X9_next v_X9_next ml_X9_196 rfl rfl rfl rfl (Nat.le_of_ble_eq_true rfl) (by decide) (m_30 (by omega)) (c_nextQ _ G im1 bt rt lm1 b n hb r.1 h11 hlt (by omega)) rfl (kV ?_)
          rintro m' ⟨im2, lm2, h2, hag2, hlg2, rfl⟩
          refine q_aload_n (t := 45) F dX9_added0_44 rfl rfl rfl ?_
          refine wp_callV (t := 48) [] F dX9_added0_45 k_X9_term0 v_X9_term0 ml_X9_328 rfl rfl rfl rfl (Nat.le_of_ble_eq_true rfl) (by decide) (m_30 (by omega)) (hO im2 lm2 nm (adv b n r.1) (-1) h2 (((hag2.trans hr.2.2.1) 30 0 27 (by omega)).trans h27) (hnm.ag (hag2.trans hr.2.2.1))) rfl (kI ?_)
          rintro x45 m' ⟨im3, lm3, h3, rfl⟩
          rw [stP_y] at h3
          refine q_istore_n (t := 49) F dX9_added0_48 rfl (by decide) rfl rfl ?_
          refine q_iload_n (t := 50) F dX9_added0_49 rfl rfl rfl ?_
          refine q_if_eq (t := 53) (u := 59) F dX9_added0_50 (by first | exact hR _ _ _ | (constructor <;> omega)) (by decide) rfl (fun c50 => ?_) (fun c50 => ?_)
          · refine q_iload_n (t := 60) F dX9_added0_59 rfl rfl rfl ?_
            refine q_iload_n (t := 61) F dX9_added0_60 rfl rfl rfl ?_
            refine q_isub (t := 62) F dX9_added0_61 rfl ?_
            refine q_norm ?_
            refine q_istore_n (t := 63) F dX9_added0_62 rfl (by decide) rfl rfl ?_
            refine q_goto (t := 5) F dX9_added0_63 (by decide) ?_
            refine wp_less 3 ?_
            refine wp_less 2 ?_
            first
              | (exfalso; omega)
              | (have hop : opS (tk b n r.1) = -10 := by unfold opS; rw [if_pos (by omega)]
                 refine ih5 (k - 1) (lpS b n opS (termL b n 5) r) _ im3 lm3 (by omega) ?_ ?_ (RPO_step hr hq.1 hag2 hlg2 h3 (ri_b _) (by rw [hop]; exact bi2_10 _ _))
                 · rw [hlp]
                   obtain ⟨k', hk'⟩ : ∃ k', k = k' + 1 := ⟨k - 1, by omega⟩
                   rw [hk', loopP_y2 hq.1 (by rw [hop]; decide)]
                   rfl
                 · have := hgd.1
                   show n - (termL b n 5 (adv b n r.1)).1 ≤ k - 1
                   omega)
              | (have hop : opS (tk b n r.1) = -11 := by unfold opS; rw [if_neg (by omega), if_pos (by omega)]
                 refine ih5 (k - 1) (lpS b n opS (termL b n 5) r) _ im3 lm3 (by omega) ?_ ?_ (RPO_step hr hq.1 hag2 hlg2 h3 (ri_b _) (by rw [hop]; exact bi2_11 _ _))
                 · rw [hlp]
                   obtain ⟨k', hk'⟩ : ∃ k', k = k' + 1 := ⟨k - 1, by omega⟩
                   rw [hk', loopP_y2 hq.1 (by rw [hop]; decide)]
                   rfl
                 · have := hgd.1
                   show n - (termL b n 5 (adv b n r.1)).1 ≤ k - 1
                   omega)
          · refine q_iload_n (t := 54) F dX9_added0_53 rfl rfl rfl ?_
            refine q_iload_n (t := 55) F dX9_added0_54 rfl rfl rfl ?_
            refine q_iadd (t := 56) F dX9_added0_55 rfl ?_
            refine q_goto (t := 62) F dX9_added0_56 (by decide) ?_
            refine q_norm ?_
            refine q_istore_n (t := 63) F dX9_added0_62 rfl (by decide) rfl rfl ?_
            refine q_goto (t := 5) F dX9_added0_63 (by decide) ?_
            refine wp_less 3 ?_
            refine wp_less 2 ?_
            first
              | (exfalso; omega)
              | (have hop : opS (tk b n r.1) = -10 := by unfold opS; rw [if_pos (by omega)]
                 refine ih5 (k - 1) (lpS b n opS (termL b n 5) r) _ im3 lm3 (by omega) ?_ ?_ (RPO_step hr hq.1 hag2 hlg2 h3 (ri_b _) (by rw [hop]; exact bi2_10 _ _))
                 · rw [hlp]
                   obtain ⟨k', hk'⟩ : ∃ k', k = k' + 1 := ⟨k - 1, by omega⟩
                   rw [hk', loopP_y2 hq.1 (by rw [hop]; decide)]
                   rfl
                 · have := hgd.1
                   show n - (termL b n 5 (adv b n r.1)).1 ≤ k - 1
                   omega)
              | (have hop : opS (tk b n r.1) = -11 := by unfold opS; rw [if_neg (by omega), if_pos (by omega)]
                 refine ih5 (k - 1) (lpS b n opS (termL b n 5) r) _ im3 lm3 (by omega) ?_ ?_ (RPO_step hr hq.1 hag2 hlg2 h3 (ri_b _) (by rw [hop]; exact bi2_11 _ _))
                 · rw [hlp]
                   obtain ⟨k', hk'⟩ : ∃ k', k = k' + 1 := ⟨k - 1, by omega⟩
                   rw [hk', loopP_y2 hq.1 (by rw [hop]; decide)]
                   rfl
                 · have := hgd.1
                   show n - (termL b n 5 (adv b n r.1)).1 ≤ k - 1
                   omega)
        · refine q_iconst (t := 35) F dX9_added0_34 rfl ?_
          refine q_goto (t := 39) F dX9_added0_35 (by decide) ?_
          refine q_istore_n (t := 40) F dX9_added0_39 rfl (by decide) rfl rfl ?_
          refine q_aload_n (t := 41) F dX9_added0_40 rfl rfl rfl ?_
          refine wp_callV (t := 44) [] F dX9_added0_41 k_X9_next v_X9_next ml_X9_196 rfl rfl rfl rfl (Nat.le_of_ble_eq_true rfl) (by decide) (m_30 (by omega)) (c_nextQ _ G im1 bt rt lm1 b n hb r.1 h11 hlt (by omega)) rfl (kV ?_)
          rintro m' ⟨im2, lm2, h2, hag2, hlg2, rfl⟩
          refine q_aload_n (t := 45) F dX9_added0_44 rfl rfl rfl ?_
          refine wp_callV (t := 48) [] F dX9_added0_45 k_X9_term0 v_X9_term0 ml_X9_328 rfl rfl rfl rfl (Nat.le_of_ble_eq_true rfl) (by decide) (m_30 (by omega)) (hO im2 lm2 nm (adv b n r.1) (-1) h2 (((hag2.trans hr.2.2.1) 30 0 27 (by omega)).trans h27) (hnm.ag (hag2.trans hr.2.2.1))) rfl (kI ?_)
          rintro x45 m' ⟨im3, lm3, h3, rfl⟩
          rw [stP_y] at h3
          refine q_istore_n (t := 49) F dX9_added0_48 rfl (by decide) rfl rfl ?_
          refine q_iload_n (t := 50) F dX9_added0_49 rfl rfl rfl ?_
          refine q_if_eq (t := 53) (u := 59) F dX9_added0_50 (by first | exact hR _ _ _ | (constructor <;> omega)) (by decide) rfl (fun c50 => ?_) (fun c50 => ?_)
          · refine q_iload_n (t := 60) F dX9_added0_59 rfl rfl rfl ?_
            refine q_iload_n (t := 61) F dX9_added0_60 rfl rfl rfl ?_
            refine q_isub (t := 62) F dX9_added0_61 rfl ?_
            refine q_norm ?_
            refine q_istore_n (t := 63) F dX9_added0_62 rfl (by decide) rfl rfl ?_
            refine q_goto (t := 5) F dX9_added0_63 (by decide) ?_
            refine wp_less 3 ?_
            refine wp_less 2 ?_
            first
              | (exfalso; omega)
              | (have hop : opS (tk b n r.1) = -10 := by unfold opS; rw [if_pos (by omega)]
                 refine ih5 (k - 1) (lpS b n opS (termL b n 5) r) _ im3 lm3 (by omega) ?_ ?_ (RPO_step hr hq.1 hag2 hlg2 h3 (ri_b _) (by rw [hop]; exact bi2_10 _ _))
                 · rw [hlp]
                   obtain ⟨k', hk'⟩ : ∃ k', k = k' + 1 := ⟨k - 1, by omega⟩
                   rw [hk', loopP_y2 hq.1 (by rw [hop]; decide)]
                   rfl
                 · have := hgd.1
                   show n - (termL b n 5 (adv b n r.1)).1 ≤ k - 1
                   omega)
              | (have hop : opS (tk b n r.1) = -11 := by unfold opS; rw [if_neg (by omega), if_pos (by omega)]
                 refine ih5 (k - 1) (lpS b n opS (termL b n 5) r) _ im3 lm3 (by omega) ?_ ?_ (RPO_step hr hq.1 hag2 hlg2 h3 (ri_b _) (by rw [hop]; exact bi2_11 _ _))
                 · rw [hlp]
                   obtain ⟨k', hk'⟩ : ∃ k', k = k' + 1 := ⟨k - 1, by omega⟩
                   rw [hk', loopP_y2 hq.1 (by rw [hop]; decide)]
                   rfl
                 · have := hgd.1
                   show n - (termL b n 5 (adv b n r.1)).1 ≤ k - 1
                   omega)
          · refine q_iload_n (t := 54) F dX9_added0_53 rfl rfl rfl ?_
            refine q_iload_n (t := 55) F dX9_added0_54 rfl rfl rfl ?_
            refine q_iadd (t := 56) F dX9_added0_55 rfl ?_
            refine q_goto (t := 62) F dX9_added0_56 (by decide) ?_
            refine q_norm ?_
            refine q_istore_n (t := 63) F dX9_added0_62 rfl (by decide) rfl rfl ?_
            refine q_goto (t := 5) F dX9_added0_63 (by decide) ?_
            refine wp_less 3 ?_
            refine wp_less 2 ?_
            first
              | (exfalso; omega)
              | (have hop : opS (tk b n r.1) = -10 := by unfold opS; rw [if_pos (by omega)]
                 refine ih5 (k - 1) (lpS b n opS (termL b n 5) r) _ im3 lm3 (by omega) ?_ ?_ (RPO_step hr hq.1 hag2 hlg2 h3 (ri_b _) (by rw [hop]; exact bi2_10 _ _))
                 · rw [hlp]
                   obtain ⟨k', hk'⟩ : ∃ k', k = k' + 1 := ⟨k - 1, by omega⟩
                   rw [hk', loopP_y2 hq.1 (by rw [hop]; decide)]
                   rfl
                 · have := hgd.1
                   show n - (termL b n 5 (adv b n r.1)).1 ≤ k - 1
                   omega)
              | (have hop : opS (tk b n r.1) = -11 := by unfold opS; rw [if_neg (by omega), if_pos (by omega)]
                 refine ih5 (k - 1) (lpS b n opS (termL b n 5) r) _ im3 lm3 (by omega) ?_ ?_ (RPO_step hr hq.1 hag2 hlg2 h3 (ri_b _) (by rw [hop]; exact bi2_11 _ _))
                 · rw [hlp]
                   obtain ⟨k', hk'⟩ : ∃ k', k = k' + 1 := ⟨k - 1, by omega⟩
                   rw [hk', loopP_y2 hq.1 (by rw [hop]; decide)]
                   rfl
                 · have := hgd.1
                   show n - (termL b n 5 (adv b n r.1)).1 ≤ k - 1
                   omega)
      · refine q_aload_n (t := 15) F dX9_added0_14 rfl rfl rfl ?_
        refine q_bipush (t := 17) F dX9_added0_15 (by decide) rfl ?_
        refine wp_callV (t := 20) [_] F dX9_added0_17 k_X9_isSign v_X9_isSign ml_X9_220 rfl rfl rfl rfl (Nat.le_of_ble_eq_true rfl) (by decide) (m_30 (by omega)) (c_X9_isSign _ G im1 bt rt lm1 b n hb r.1 r.2.1 hr.2.1 45 (by omega) (by omega)) rfl (kI ?_)
        rintro x17 m' ⟨hx17, rfl⟩
        have hx17 := if01 hx17
        refine q_if_eq (t := 23) (u := 66) F dX9_added0_20 (by first | exact hR _ _ _ | (constructor <;> omega)) (by decide) rfl (fun c20 => ?_) (fun c20 => ?_)
        · refine q_iload_n (t := 67) F dX9_added0_66 rfl rfl rfl ?_
          refine q_iret F dX9_added0_67 rfl ?_
          have e : stP (sumL b n 5) p f = r := by
            have e0 : stP (sumL b n 5) p f = loopP b n opS (termL b n 5) 160 (stP (termL b n 5) p f) := stP_loop (F := termL b n 5) (k := 160)
            rw [e0, hlp]
            refine loopP_n (fun q => ?_)
            have q1 := q.1
            have q2 := q.2
            unfold opS at q2
            rw [if_neg (by omega), if_neg (by omega)] at q2
            exact q2 rfl
          exact ⟨v, rfl, im1, lm1, by rw [e]; exact hr, rfl⟩
        · have hq : r.2.1 = -1 ∧ (tk b n r.1 = 43 ∨ tk b n r.1 = 45) := by omega
          have hlt : r.1 < n := tk_lt (b := b) (by omega)
          
          have hgd := PG_termL b n 5 (adv b n r.1) (adv_in hlt).2
          have had := (adv_in (b := b) hlt).1
          have h11 := hr.2.1
          rw [hq.1] at h11
          have hw1 : lm1 30 0 26 = tk b n r.1 := ((TK_sign (h11.1.1 rfl).2.2 (s := tk b n r.1) (by omega)).mpr rfl).2
          have hcm : cmpI (lm1 30 0 26) 43 = 0 ↔ lm1 30 0 26 = 43 := cmpI_eq
          refine q_aload_n (t := 24) F dX9_added0_23 rfl rfl rfl ?_
          refine g_X9_175 (t := 27) F dX9_added0_24 rfl rfl ?_
          try simp only [up_app, row_app, scr_app, cpy_app, Nat.reduceEqDiff, Int.reduceToNat, Int.toNat_natCast, and_true, true_and, and_false, false_and, and_self, reduceIte]
          refine q_ldc2 (t := 30) (x := 43) F dX9_added0_27 kl_X9_237 (by decide) rfl ?_
          refine q_lcmp (t := 31) F dX9_added0_30 ⟨by omega, by omega⟩ ⟨by omega, by omega⟩ rfl ?_
          refine q_if_ne (t := 34) (u := 38) F dX9_added0_31 (by exact cmpI_ri _ _) (by decide) rfl (fun c31 => ?_) (fun c31 => ?_)
          · refine q_iconst (t := 39) F dX9_added0_38 rfl ?_
            refine q_istore_n (t := 40) F dX9_added0_39 rfl (by decide) rfl rfl ?_
            refine q_aload_n (t := 41) F dX9_added0_40 rfl rfl rfl ?_
            refine wp_callV (t := 44) [] F dX9_added0_41 k_X9_next v_X9_next ml_X9_196 rfl rfl rfl rfl (Nat.le_of_ble_eq_true rfl) (by decide) (m_30 (by omega)) (c_nextQ _ G im1 bt rt lm1 b n hb r.1 h11 hlt (by omega)) rfl (kV ?_)
            rintro m' ⟨im2, lm2, h2, hag2, hlg2, rfl⟩
            refine q_aload_n (t := 45) F dX9_added0_44 rfl rfl rfl ?_
            refine wp_callV (t := 48) [] F dX9_added0_45 k_X9_term0 v_X9_term0 ml_X9_328 rfl rfl rfl rfl (Nat.le_of_ble_eq_true rfl) (by decide) (m_30 (by omega)) (hO im2 lm2 nm (adv b n r.1) (-1) h2 (((hag2.trans hr.2.2.1) 30 0 27 (by omega)).trans h27) (hnm.ag (hag2.trans hr.2.2.1))) rfl (kI ?_)
            rintro x45 m' ⟨im3, lm3, h3, rfl⟩
            rw [stP_y] at h3
            refine q_istore_n (t := 49) F dX9_added0_48 rfl (by decide) rfl rfl ?_
            refine q_iload_n (t := 50) F dX9_added0_49 rfl rfl rfl ?_
            refine q_if_eq (t := 53) (u := 59) F dX9_added0_50 (by first | exact hR _ _ _ | (constructor <;> omega)) (by decide) rfl (fun c50 => ?_) (fun c50 => ?_)
            · refine q_iload_n (t := 60) F dX9_added0_59 rfl rfl rfl ?_
              refine q_iload_n (t := 61) F dX9_added0_60 rfl rfl rfl ?_
              refine q_isub (t := 62) F dX9_added0_61 rfl ?_
              refine q_norm ?_
              refine q_istore_n (t := 63) F dX9_added0_62 rfl (by decide) rfl rfl ?_
              refine q_goto (t := 5) F dX9_added0_63 (by decide) ?_
              refine wp_less 3 ?_
              refine wp_less 2 ?_
              first
                | (exfalso; omega)
                | (have hop : opS (tk b n r.1) = -10 := by unfold opS; rw [if_pos (by omega)]
                   refine ih5 (k - 1) (lpS b n opS (termL b n 5) r) _ im3 lm3 (by omega) ?_ ?_ (RPO_step hr hq.1 hag2 hlg2 h3 (ri_b _) (by rw [hop]; exact bi2_10 _ _))
                   · rw [hlp]
                     obtain ⟨k', hk'⟩ : ∃ k', k = k' + 1 := ⟨k - 1, by omega⟩
                     rw [hk', loopP_y2 hq.1 (by rw [hop]; decide)]
                     rfl
                   · have := hgd.1
                     show n - (termL b n 5 (adv b n r.1)).1 ≤ k - 1
                     omega)
                | (have hop : opS (tk b n r.1) = -11 := by unfold opS; rw [if_neg (by omega), if_pos (by omega)]
                   refine ih5 (k - 1) (lpS b n opS (termL b n 5) r) _ im3 lm3 (by omega) ?_ ?_ (RPO_step hr hq.1 hag2 hlg2 h3 (ri_b _) (by rw [hop]; exact bi2_11 _ _))
                   · rw [hlp]
                     obtain ⟨k', hk'⟩ : ∃ k', k = k' + 1 := ⟨k - 1, by omega⟩
                     rw [hk', loopP_y2 hq.1 (by rw [hop]; decide)]
                     rfl
                   · have := hgd.1
                     show n - (termL b n 5 (adv b n r.1)).1 ≤ k - 1
                     omega)
            · refine q_iload_n (t := 54) F dX9_added0_53 rfl rfl rfl ?_
              refine q_iload_n (t := 55) F dX9_added0_54 rfl rfl rfl ?_
              refine q_iadd (t := 56) F dX9_added0_55 rfl ?_
              refine q_goto (t := 62) F dX9_added0_56 (by decide) ?_
              refine q_norm ?_
              refine q_istore_n (t := 63) F dX9_added0_62 rfl (by decide) rfl rfl ?_
              refine q_goto (t := 5) F dX9_added0_63 (by decide) ?_
              refine wp_less 3 ?_
              refine wp_less 2 ?_
              first
                | (exfalso; omega)
                | (have hop : opS (tk b n r.1) = -10 := by unfold opS; rw [if_pos (by omega)]
                   refine ih5 (k - 1) (lpS b n opS (termL b n 5) r) _ im3 lm3 (by omega) ?_ ?_ (RPO_step hr hq.1 hag2 hlg2 h3 (ri_b _) (by rw [hop]; exact bi2_10 _ _))
                   · rw [hlp]
                     obtain ⟨k', hk'⟩ : ∃ k', k = k' + 1 := ⟨k - 1, by omega⟩
                     rw [hk', loopP_y2 hq.1 (by rw [hop]; decide)]
                     rfl
                   · have := hgd.1
                     show n - (termL b n 5 (adv b n r.1)).1 ≤ k - 1
                     omega)
                | (have hop : opS (tk b n r.1) = -11 := by unfold opS; rw [if_neg (by omega), if_pos (by omega)]
                   refine ih5 (k - 1) (lpS b n opS (termL b n 5) r) _ im3 lm3 (by omega) ?_ ?_ (RPO_step hr hq.1 hag2 hlg2 h3 (ri_b _) (by rw [hop]; exact bi2_11 _ _))
                   · rw [hlp]
                     obtain ⟨k', hk'⟩ : ∃ k', k = k' + 1 := ⟨k - 1, by omega⟩
                     rw [hk', loopP_y2 hq.1 (by rw [hop]; decide)]
                     rfl
                   · have := hgd.1
                     show n - (termL b n 5 (adv b n r.1)).1 ≤ k - 1
                     omega)
          · refine q_iconst (t := 35) F dX9_added0_34 rfl ?_
            refine q_goto (t := 39) F dX9_added0_35 (by decide) ?_
            refine q_istore_n (t := 40) F dX9_added0_39 rfl (by decide) rfl rfl ?_
            refine q_aload_n (t := 41) F dX9_added0_40 rfl rfl rfl ?_
            refine wp_callV (t := 44) [] F dX9_added0_41 k_X9_next v_X9_next ml_X9_196 rfl rfl rfl rfl (Nat.le_of_ble_eq_true rfl) (by decide) (m_30 (by omega)) (c_nextQ _ G im1 bt rt lm1 b n hb r.1 h11 hlt (by omega)) rfl (kV ?_)
            rintro m' ⟨im2, lm2, h2, hag2, hlg2, rfl⟩
            refine q_aload_n (t := 45) F dX9_added0_44 rfl rfl rfl ?_
            refine wp_callV (t := 48) [] F dX9_added0_45 k_X9_term0 v_X9_term0 ml_X9_328 rfl rfl rfl rfl (Nat.le_of_ble_eq_true rfl) (by decide) (m_30 (by omega)) (hO im2 lm2 nm (adv b n r.1) (-1) h2 (((hag2.trans hr.2.2.1) 30 0 27 (by omega)).trans h27) (hnm.ag (hag2.trans hr.2.2.1))) rfl (kI ?_)
            rintro x45 m' ⟨im3, lm3, h3, rfl⟩
            rw [stP_y] at h3
            refine q_istore_n (t := 49) F dX9_added0_48 rfl (by decide) rfl rfl ?_
            refine q_iload_n (t := 50) F dX9_added0_49 rfl rfl rfl ?_
            refine q_if_eq (t := 53) (u := 59) F dX9_added0_50 (by first | exact hR _ _ _ | (constructor <;> omega)) (by decide) rfl (fun c50 => ?_) (fun c50 => ?_)
            · refine q_iload_n (t := 60) F dX9_added0_59 rfl rfl rfl ?_
              refine q_iload_n (t := 61) F dX9_added0_60 rfl rfl rfl ?_
              refine q_isub (t := 62) F dX9_added0_61 rfl ?_
              refine q_norm ?_
              refine q_istore_n (t := 63) F dX9_added0_62 rfl (by decide) rfl rfl ?_
              refine q_goto (t := 5) F dX9_added0_63 (by decide) ?_
              refine wp_less 3 ?_
              refine wp_less 2 ?_
              first
                | (exfalso; omega)
                | (have hop : opS (tk b n r.1) = -10 := by unfold opS; rw [if_pos (by omega)]
                   refine ih5 (k - 1) (lpS b n opS (termL b n 5) r) _ im3 lm3 (by omega) ?_ ?_ (RPO_step hr hq.1 hag2 hlg2 h3 (ri_b _) (by rw [hop]; exact bi2_10 _ _))
                   · rw [hlp]
                     obtain ⟨k', hk'⟩ : ∃ k', k = k' + 1 := ⟨k - 1, by omega⟩
                     rw [hk', loopP_y2 hq.1 (by rw [hop]; decide)]
                     rfl
                   · have := hgd.1
                     show n - (termL b n 5 (adv b n r.1)).1 ≤ k - 1
                     omega)
                | (have hop : opS (tk b n r.1) = -11 := by unfold opS; rw [if_neg (by omega), if_pos (by omega)]
                   refine ih5 (k - 1) (lpS b n opS (termL b n 5) r) _ im3 lm3 (by omega) ?_ ?_ (RPO_step hr hq.1 hag2 hlg2 h3 (ri_b _) (by rw [hop]; exact bi2_11 _ _))
                   · rw [hlp]
                     obtain ⟨k', hk'⟩ : ∃ k', k = k' + 1 := ⟨k - 1, by omega⟩
                     rw [hk', loopP_y2 hq.1 (by rw [hop]; decide)]
                     rfl
                   · have := hgd.1
                     show n - (termL b n 5 (adv b n r.1)).1 ≤ k - 1
                     omega)
            · refine q_iload_n (t := 54) F dX9_added0_53 rfl rfl rfl ?_
              refine q_iload_n (t := 55) F dX9_added0_54 rfl rfl rfl ?_
              refine q_iadd (t := 56) F dX9_added0_55 rfl ?_
              refine q_goto (t := 62) F dX9_added0_56 (by decide) ?_
              refine q_norm ?_
              refine q_istore_n (t := 63) F dX9_added0_62 rfl (by decide) rfl rfl ?_
              refine q_goto (t := 5) F dX9_added0_63 (by decide) ?_
              refine wp_less 3 ?_
              refine wp_less 2 ?_
              first
                | (exfalso; omega)
                | (have hop : opS (tk b n r.1) = -10 := by unfold opS; rw [if_pos (by omega)]
                   refine ih5 (k - 1) (lpS b n opS (termL b n 5) r) _ im3 lm3 (by omega) ?_ ?_ (RPO_step hr hq.1 hag2 hlg2 h3 (ri_b _) (by rw [hop]; exact bi2_10 _ _))
                   · rw [hlp]
                     obtain ⟨k', hk'⟩ : ∃ k', k = k' + 1 := ⟨k - 1, by omega⟩
                     rw [hk', loopP_y2 hq.1 (by rw [hop]; decide)]
                     rfl
                   · have := hgd.1
                     show n - (termL b n 5 (adv b n r.1)).1 ≤ k - 1
                     omega)
                | (have hop : opS (tk b n r.1) = -11 := by unfold opS; rw [if_neg (by omega), if_pos (by omega)]
                   refine ih5 (k - 1) (lpS b n opS (termL b n 5) r) _ im3 lm3 (by omega) ?_ ?_ (RPO_step hr hq.1 hag2 hlg2 h3 (ri_b _) (by rw [hop]; exact bi2_11 _ _))
                   · rw [hlp]
                     obtain ⟨k', hk'⟩ : ∃ k', k = k' + 1 := ⟨k - 1, by omega⟩
                     rw [hk', loopP_y2 hq.1 (by rw [hop]; decide)]
                     rfl
                   · have := hgd.1
                     show n - (termL b n 5 (adv b n r.1)).1 ≤ k - 1
                     omega)
  refine wp_less 3 ?_
  refine wp_less 2 ?_
  exact L5 _ 160 _ _ _ _ (Nat.lt_succ_self _) rfl (by omega) h0

set_option maxHeartbeats 4000000 in
theorem c_X9_not0 (l : Launch) (G : GS)  (bt rt : Nat)  (b : Nat → Int) (n : Nat) (hb : byt b n) (hN : RT l G bt rt b n yX9_not1 Y_X9_not1 (denL b n 4) 1) (hS : RT l G bt rt b n yX9_added0 Y_X9_added0 (sumL b n 5) 0) (im lm : IM) (nm : Nat → Int) (p : Nat) (f : Int) (h : PQ b n im lm p f) (h27 : im 30 0 27 = ((0 : Nat) : Int)) (hnm : NMr im nm) : Cn l (XR G) yX9_not0 Y_X9_not0 [vR 30 0] (im, rs bt rt, lm) (pI fun x m' => ∃ im' lm', RPO b n im lm nm (stP (denL b n 5) p f) x im' lm' ∧ m' = (im', rs bt rt, lm')) := by
  refine cn_of (by decide) (okR G) rfl (Nat.le_of_ble_eq_true rfl) ?_
  intro M ad hMl F
  subst hMl
  have hn := hb.1
  have hR := h.2.1
  have hbb := h.b01
  have hti0 := tk_in b n p
  refine wp_pad 3 ?_
  show Wp M (XR G) ad Y_X9_not0 (pI fun x m' => ∃ im' lm', RPO b n im lm nm (stP (denL b n 5) p f) x im' lm' ∧ m' = (im', rs bt rt, lm')) 0 [some (vR 30 0), none, none, none] [] (im, rs bt rt, lm)
  refine q_aload_n (t := 1) F dX9_not0_0 rfl rfl rfl ?_
  refine q_bipush (t := 3) F dX9_not0_1 (by decide) rfl ?_
  refine q_bipush (t := 5) F dX9_not0_3 (by decide) rfl ?_
  refine q_bipush (t := 7) F dX9_not0_5 (by decide) rfl ?_
  refine q_iconst (t := 8) F dX9_not0_7 rfl ?_
  refine q_iconst (t := 9) F dX9_not0_8 rfl ?_
  refine q_iconst (t := 10) F dX9_not0_9 rfl ?_
  refine q_iconst (t := 11) F dX9_not0_10 rfl ?_
  refine q_iconst (t := 12) F dX9_not0_11 rfl ?_
  refine wp_callV (t := 15) [_, _, _, _, _, _, _, _] F dX9_not0_12 k_X9_isWord_ v_X9_isWord_ ml_X9_199 rfl rfl rfl rfl (Nat.le_of_ble_eq_true rfl) (by decide) (m_30 (by omega)) (c_isKey _ G im bt rt lm b n hb p f h 11 (by omega) (by omega) 9 (by omega) _ _ _ _ _ _ _ _ (by decide)) rfl (kI ?_)
  rintro x12 m' ⟨hx12, rfl⟩
  have hx12 := if01 hx12
  refine q_if_eq (t := 18) (u := 52) F dX9_not0_15 (by first | exact hR _ _ _ | (constructor <;> omega)) (by decide) rfl (fun c15 => ?_) (fun c15 => ?_)
  · refine q_aload_n (t := 53) F dX9_not0_52 rfl rfl rfl ?_
    refine wp_callV (t := 56) [] F dX9_not0_53 k_X9_added0 v_X9_added0 ml_X9_331 rfl rfl rfl rfl (Nat.le_of_ble_eq_true rfl) (by decide) (m_30 (by omega)) (hS im lm nm p f h h27 hnm) rfl (kI ?_)
    rintro xA m' ⟨im4, lm4, h4, rfl⟩
    have hn9 : f = -1 → tk b n p ≠ 9 := by omega
    obtain ⟨r, hrd⟩ : ∃ r, r = stP (sumL b n 5) p f := ⟨_, rfl⟩
    rw [← hrd] at h4
    have hb4 := h4.2.1.b01
    have hti := tk_in b n r.1
    have hra := h4.1
    have hra1 := hra.1
    have hra2 := hra.2
    refine q_istore_n (t := 57) F dX9_not0_56 rfl (by decide) rfl rfl ?_
    refine q_aload_n (t := 58) F dX9_not0_57 rfl rfl rfl ?_
    refine q_bipush (t := 60) F dX9_not0_58 (by decide) rfl ?_
    refine wp_callV (t := 63) [_] F dX9_not0_60 k_X9_isSign v_X9_isSign ml_X9_220 rfl rfl rfl rfl (Nat.le_of_ble_eq_true rfl) (by decide) (m_30 (by omega)) (c_X9_isSign _ G im4 bt rt lm4 b n hb r.1 r.2.1 h4.2.1 60 (by omega) (by omega)) rfl (kI ?_)
    rintro x60 m' ⟨hx60, rfl⟩
    have hx60 := if01 hx60
    refine q_if_ne (t := 66) (u := 77) F dX9_not0_63 (by first | exact hR _ _ _ | (constructor <;> omega)) (by decide) rfl (fun c63 => ?_) (fun c63 => ?_)
    · have hq : r.2.1 = -1 ∧ (tk b n r.1 = 60 ∨ tk b n r.1 = 61) := by omega
      have hlt : r.1 < n := tk_lt (b := b) (by omega)
      have hgd := PG_sumL b n 5 (adv b n r.1) (adv_in hlt).2
      have h11 := h4.2.1
      rw [hq.1] at h11
      have hw1 : lm4 30 0 26 = tk b n r.1 := ((TK_sign (h11.1.1 rfl).2.2 (s := tk b n r.1) (by omega)).mpr rfl).2
      have hcm : cmpI (lm4 30 0 26) 60 = 0 ↔ lm4 30 0 26 = 60 := cmpI_eq
      refine q_aload_n (t := 78) F dX9_not0_77 rfl rfl rfl ?_
      refine g_X9_175 (t := 81) F dX9_not0_78 rfl rfl ?_
      try simp only [up_app, row_app, scr_app, cpy_app, Nat.reduceEqDiff, Int.reduceToNat, Int.toNat_natCast, and_true, true_and, and_false, false_and, and_self, reduceIte]
      refine q_ldc2 (t := 84) (x := 60) F dX9_not0_81 kl_X9_242 (by decide) rfl ?_
      refine q_lcmp (t := 85) F dX9_not0_84 ⟨by omega, by omega⟩ ⟨by omega, by omega⟩ rfl ?_
      refine q_if_ne (t := 88) (u := 92) F dX9_not0_85 (by exact cmpI_ri _ _) (by decide) rfl (fun c85 => ?_) (fun c85 => ?_)
      · refine q_iconst (t := 93) F dX9_not0_92 rfl ?_
        refine q_istore_n (t := 94) F dX9_not0_93 rfl (by decide) rfl rfl ?_
        refine q_aload_n (t := 95) F dX9_not0_94 rfl rfl rfl ?_
        refine wp_callV (t := 98) [] F dX9_not0_95 k_X9_next v_X9_next ml_X9_196 rfl rfl rfl rfl (Nat.le_of_ble_eq_true rfl) (by decide) (m_30 (by omega)) (c_nextQ _ G im4 bt rt lm4 b n hb r.1 h11 hlt (by omega)) rfl (kV ?_)
        rintro m' ⟨im5, lm5, h5, hag5, hlg5, rfl⟩
        refine q_aload_n (t := 99) F dX9_not0_98 rfl rfl rfl ?_
        refine wp_callV (t := 102) [] F dX9_not0_99 k_X9_added0 v_X9_added0 ml_X9_331 rfl rfl rfl rfl (Nat.le_of_ble_eq_true rfl) (by decide) (m_30 (by omega)) (hS im5 lm5 nm (adv b n r.1) (-1) h5 (((hag5.trans h4.2.2.1) 30 0 27 (by omega)).trans h27) (hnm.ag (hag5.trans h4.2.2.1))) rfl (kI ?_)
        rintro xB m' ⟨im6, lm6, h6, rfl⟩
        rw [stP_y] at h6
        have hrb := h6.1
        have hrb1 := hrb.1
        have hrb2 := hrb.2
        refine q_istore_n (t := 103) F dX9_not0_102 rfl (by decide) rfl rfl ?_
        refine q_iload_n (t := 104) F dX9_not0_103 rfl rfl rfl ?_
        refine q_if_eq (t := 107) (u := 115) F dX9_not0_104 (by first | exact hR _ _ _ | (constructor <;> omega)) (by decide) rfl (fun c104 => ?_) (fun c104 => ?_)
        · refine q_iload_n (t := 116) F dX9_not0_115 rfl rfl rfl ?_
          refine q_iload_n (t := 117) F dX9_not0_116 rfl rfl rfl ?_
          refine q_icmp_ne (t := 120) (u := 124) F dX9_not0_117 (by exact hra) (by exact hrb) (by decide) rfl (fun c117 => ?_) (fun c117 => ?_)
          · refine q_iconst (t := 125) F dX9_not0_124 rfl ?_
            refine q_iret F dX9_not0_125 rfl ?_
            first
              | (exfalso; omega)
              | (have hop : opC (tk b n r.1) = -12 := by unfold opC; rw [if_pos (by omega)]
                 refine ⟨_, rfl, im6, lm6, ?_, rfl⟩
                 rw [den_oth hn9, ← hrd, loopP_y2 (f := 0) hq.1 (by rw [hop]; decide)]
                 refine RPO_step h4 hq.1 hag5 hlg5 h6 (by constructor <;> omega) ?_
                 rw [hop]
                 refine Eq.trans ?_ (bi2_12 _ _)
                 first
                   | exact (if_pos (by omega)).symm
                   | exact (if_neg (by omega)).symm)
              | (have hop : opC (tk b n r.1) = -13 := by unfold opC; rw [if_neg (by omega), if_pos (by omega)]
                 refine ⟨_, rfl, im6, lm6, ?_, rfl⟩
                 rw [den_oth hn9, ← hrd, loopP_y2 (f := 0) hq.1 (by rw [hop]; decide)]
                 refine RPO_step h4 hq.1 hag5 hlg5 h6 (by constructor <;> omega) ?_
                 rw [hop]
                 refine Eq.trans ?_ (bi2_13 _ _)
                 first
                   | exact (if_pos (by omega)).symm
                   | exact (if_neg (by omega)).symm)
          · refine q_iconst (t := 121) F dX9_not0_120 rfl ?_
            refine q_goto (t := 125) F dX9_not0_121 (by decide) ?_
            refine q_iret F dX9_not0_125 rfl ?_
            first
              | (exfalso; omega)
              | (have hop : opC (tk b n r.1) = -12 := by unfold opC; rw [if_pos (by omega)]
                 refine ⟨_, rfl, im6, lm6, ?_, rfl⟩
                 rw [den_oth hn9, ← hrd, loopP_y2 (f := 0) hq.1 (by rw [hop]; decide)]
                 refine RPO_step h4 hq.1 hag5 hlg5 h6 (by constructor <;> omega) ?_
                 rw [hop]
                 refine Eq.trans ?_ (bi2_12 _ _)
                 first
                   | exact (if_pos (by omega)).symm
                   | exact (if_neg (by omega)).symm)
              | (have hop : opC (tk b n r.1) = -13 := by unfold opC; rw [if_neg (by omega), if_pos (by omega)]
                 refine ⟨_, rfl, im6, lm6, ?_, rfl⟩
                 rw [den_oth hn9, ← hrd, loopP_y2 (f := 0) hq.1 (by rw [hop]; decide)]
                 refine RPO_step h4 hq.1 hag5 hlg5 h6 (by constructor <;> omega) ?_
                 rw [hop]
                 refine Eq.trans ?_ (bi2_13 _ _)
                 first
                   | exact (if_pos (by omega)).symm
                   | exact (if_neg (by omega)).symm)
        · refine q_iload_n (t := 108) F dX9_not0_107 rfl rfl rfl ?_
          refine q_iload_n (t := 109) F dX9_not0_108 rfl rfl rfl ?_
          refine q_icmp_ge (t := 112) (u := 124) F dX9_not0_109 (by exact hra) (by exact hrb) (by decide) rfl (fun c109 => ?_) (fun c109 => ?_)
          · refine q_iconst (t := 125) F dX9_not0_124 rfl ?_
            refine q_iret F dX9_not0_125 rfl ?_
            first
              | (exfalso; omega)
              | (have hop : opC (tk b n r.1) = -12 := by unfold opC; rw [if_pos (by omega)]
                 refine ⟨_, rfl, im6, lm6, ?_, rfl⟩
                 rw [den_oth hn9, ← hrd, loopP_y2 (f := 0) hq.1 (by rw [hop]; decide)]
                 refine RPO_step h4 hq.1 hag5 hlg5 h6 (by constructor <;> omega) ?_
                 rw [hop]
                 refine Eq.trans ?_ (bi2_12 _ _)
                 first
                   | exact (if_pos (by omega)).symm
                   | exact (if_neg (by omega)).symm)
              | (have hop : opC (tk b n r.1) = -13 := by unfold opC; rw [if_neg (by omega), if_pos (by omega)]
                 refine ⟨_, rfl, im6, lm6, ?_, rfl⟩
                 rw [den_oth hn9, ← hrd, loopP_y2 (f := 0) hq.1 (by rw [hop]; decide)]
                 refine RPO_step h4 hq.1 hag5 hlg5 h6 (by constructor <;> omega) ?_
                 rw [hop]
                 refine Eq.trans ?_ (bi2_13 _ _)
                 first
                   | exact (if_pos (by omega)).symm
                   | exact (if_neg (by omega)).symm)
          · refine q_goto (t := 120) F dX9_not0_112 (by decide) ?_
            refine q_iconst (t := 121) F dX9_not0_120 rfl ?_
            refine q_goto (t := 125) F dX9_not0_121 (by decide) ?_
            refine q_iret F dX9_not0_125 rfl ?_
            first
              | (exfalso; omega)
              | (have hop : opC (tk b n r.1) = -12 := by unfold opC; rw [if_pos (by omega)]
                 refine ⟨_, rfl, im6, lm6, ?_, rfl⟩
                 rw [den_oth hn9, ← hrd, loopP_y2 (f := 0) hq.1 (by rw [hop]; decide)]
                 refine RPO_step h4 hq.1 hag5 hlg5 h6 (by constructor <;> omega) ?_
                 rw [hop]
                 refine Eq.trans ?_ (bi2_12 _ _)
                 first
                   | exact (if_pos (by omega)).symm
                   | exact (if_neg (by omega)).symm)
              | (have hop : opC (tk b n r.1) = -13 := by unfold opC; rw [if_neg (by omega), if_pos (by omega)]
                 refine ⟨_, rfl, im6, lm6, ?_, rfl⟩
                 rw [den_oth hn9, ← hrd, loopP_y2 (f := 0) hq.1 (by rw [hop]; decide)]
                 refine RPO_step h4 hq.1 hag5 hlg5 h6 (by constructor <;> omega) ?_
                 rw [hop]
                 refine Eq.trans ?_ (bi2_13 _ _)
                 first
                   | exact (if_pos (by omega)).symm
                   | exact (if_neg (by omega)).symm)
      · refine q_iconst (t := 89) F dX9_not0_88 rfl ?_
        refine q_goto (t := 93) F dX9_not0_89 (by decide) ?_
        refine q_istore_n (t := 94) F dX9_not0_93 rfl (by decide) rfl rfl ?_
        refine q_aload_n (t := 95) F dX9_not0_94 rfl rfl rfl ?_
        refine wp_callV (t := 98) [] F dX9_not0_95 k_X9_next v_X9_next ml_X9_196 rfl rfl rfl rfl (Nat.le_of_ble_eq_true rfl) (by decide) (m_30 (by omega)) (c_nextQ _ G im4 bt rt lm4 b n hb r.1 h11 hlt (by omega)) rfl (kV ?_)
        rintro m' ⟨im5, lm5, h5, hag5, hlg5, rfl⟩
        refine q_aload_n (t := 99) F dX9_not0_98 rfl rfl rfl ?_
        refine wp_callV (t := 102) [] F dX9_not0_99 k_X9_added0 v_X9_added0 ml_X9_331 rfl rfl rfl rfl (Nat.le_of_ble_eq_true rfl) (by decide) (m_30 (by omega)) (hS im5 lm5 nm (adv b n r.1) (-1) h5 (((hag5.trans h4.2.2.1) 30 0 27 (by omega)).trans h27) (hnm.ag (hag5.trans h4.2.2.1))) rfl (kI ?_)
        rintro xB m' ⟨im6, lm6, h6, rfl⟩
        rw [stP_y] at h6
        have hrb := h6.1
        have hrb1 := hrb.1
        have hrb2 := hrb.2
        refine q_istore_n (t := 103) F dX9_not0_102 rfl (by decide) rfl rfl ?_
        refine q_iload_n (t := 104) F dX9_not0_103 rfl rfl rfl ?_
        refine q_if_eq (t := 107) (u := 115) F dX9_not0_104 (by first | exact hR _ _ _ | (constructor <;> omega)) (by decide) rfl (fun c104 => ?_) (fun c104 => ?_)
        · refine q_iload_n (t := 116) F dX9_not0_115 rfl rfl rfl ?_
          refine q_iload_n (t := 117) F dX9_not0_116 rfl rfl rfl ?_
          refine q_icmp_ne (t := 120) (u := 124) F dX9_not0_117 (by exact hra) (by exact hrb) (by decide) rfl (fun c117 => ?_) (fun c117 => ?_)
          · refine q_iconst (t := 125) F dX9_not0_124 rfl ?_
            refine q_iret F dX9_not0_125 rfl ?_
            first
              | (exfalso; omega)
              | (have hop : opC (tk b n r.1) = -12 := by unfold opC; rw [if_pos (by omega)]
                 refine ⟨_, rfl, im6, lm6, ?_, rfl⟩
                 rw [den_oth hn9, ← hrd, loopP_y2 (f := 0) hq.1 (by rw [hop]; decide)]
                 refine RPO_step h4 hq.1 hag5 hlg5 h6 (by constructor <;> omega) ?_
                 rw [hop]
                 refine Eq.trans ?_ (bi2_12 _ _)
                 first
                   | exact (if_pos (by omega)).symm
                   | exact (if_neg (by omega)).symm)
              | (have hop : opC (tk b n r.1) = -13 := by unfold opC; rw [if_neg (by omega), if_pos (by omega)]
                 refine ⟨_, rfl, im6, lm6, ?_, rfl⟩
                 rw [den_oth hn9, ← hrd, loopP_y2 (f := 0) hq.1 (by rw [hop]; decide)]
                 refine RPO_step h4 hq.1 hag5 hlg5 h6 (by constructor <;> omega) ?_
                 rw [hop]
                 refine Eq.trans ?_ (bi2_13 _ _)
                 first
                   | exact (if_pos (by omega)).symm
                   | exact (if_neg (by omega)).symm)
          · refine q_iconst (t := 121) F dX9_not0_120 rfl ?_
            refine q_goto (t := 125) F dX9_not0_121 (by decide) ?_
            refine q_iret F dX9_not0_125 rfl ?_
            first
              | (exfalso; omega)
              | (have hop : opC (tk b n r.1) = -12 := by unfold opC; rw [if_pos (by omega)]
                 refine ⟨_, rfl, im6, lm6, ?_, rfl⟩
                 rw [den_oth hn9, ← hrd, loopP_y2 (f := 0) hq.1 (by rw [hop]; decide)]
                 refine RPO_step h4 hq.1 hag5 hlg5 h6 (by constructor <;> omega) ?_
                 rw [hop]
                 refine Eq.trans ?_ (bi2_12 _ _)
                 first
                   | exact (if_pos (by omega)).symm
                   | exact (if_neg (by omega)).symm)
              | (have hop : opC (tk b n r.1) = -13 := by unfold opC; rw [if_neg (by omega), if_pos (by omega)]
                 refine ⟨_, rfl, im6, lm6, ?_, rfl⟩
                 rw [den_oth hn9, ← hrd, loopP_y2 (f := 0) hq.1 (by rw [hop]; decide)]
                 refine RPO_step h4 hq.1 hag5 hlg5 h6 (by constructor <;> omega) ?_
                 rw [hop]
                 refine Eq.trans ?_ (bi2_13 _ _)
                 first
                   | exact (if_pos (by omega)).symm
                   | exact (if_neg (by omega)).symm)
        · refine q_iload_n (t := 108) F dX9_not0_107 rfl rfl rfl ?_
          refine q_iload_n (t := 109) F dX9_not0_108 rfl rfl rfl ?_
          refine q_icmp_ge (t := 112) (u := 124) F dX9_not0_109 (by exact hra) (by exact hrb) (by decide) rfl (fun c109 => ?_) (fun c109 => ?_)
          · refine q_iconst (t := 125) F dX9_not0_124 rfl ?_
            refine q_iret F dX9_not0_125 rfl ?_
            first
              | (exfalso; omega)
              | (have hop : opC (tk b n r.1) = -12 := by unfold opC; rw [if_pos (by omega)]
                 refine ⟨_, rfl, im6, lm6, ?_, rfl⟩
                 rw [den_oth hn9, ← hrd, loopP_y2 (f := 0) hq.1 (by rw [hop]; decide)]
                 refine RPO_step h4 hq.1 hag5 hlg5 h6 (by constructor <;> omega) ?_
                 rw [hop]
                 refine Eq.trans ?_ (bi2_12 _ _)
                 first
                   | exact (if_pos (by omega)).symm
                   | exact (if_neg (by omega)).symm)
              | (have hop : opC (tk b n r.1) = -13 := by unfold opC; rw [if_neg (by omega), if_pos (by omega)]
                 refine ⟨_, rfl, im6, lm6, ?_, rfl⟩
                 rw [den_oth hn9, ← hrd, loopP_y2 (f := 0) hq.1 (by rw [hop]; decide)]
                 refine RPO_step h4 hq.1 hag5 hlg5 h6 (by constructor <;> omega) ?_
                 rw [hop]
                 refine Eq.trans ?_ (bi2_13 _ _)
                 first
                   | exact (if_pos (by omega)).symm
                   | exact (if_neg (by omega)).symm)
          · refine q_goto (t := 120) F dX9_not0_112 (by decide) ?_
            refine q_iconst (t := 121) F dX9_not0_120 rfl ?_
            refine q_goto (t := 125) F dX9_not0_121 (by decide) ?_
            refine q_iret F dX9_not0_125 rfl ?_
            first
              | (exfalso; omega)
              | (have hop : opC (tk b n r.1) = -12 := by unfold opC; rw [if_pos (by omega)]
                 refine ⟨_, rfl, im6, lm6, ?_, rfl⟩
                 rw [den_oth hn9, ← hrd, loopP_y2 (f := 0) hq.1 (by rw [hop]; decide)]
                 refine RPO_step h4 hq.1 hag5 hlg5 h6 (by constructor <;> omega) ?_
                 rw [hop]
                 refine Eq.trans ?_ (bi2_12 _ _)
                 first
                   | exact (if_pos (by omega)).symm
                   | exact (if_neg (by omega)).symm)
              | (have hop : opC (tk b n r.1) = -13 := by unfold opC; rw [if_neg (by omega), if_pos (by omega)]
                 refine ⟨_, rfl, im6, lm6, ?_, rfl⟩
                 rw [den_oth hn9, ← hrd, loopP_y2 (f := 0) hq.1 (by rw [hop]; decide)]
                 refine RPO_step h4 hq.1 hag5 hlg5 h6 (by constructor <;> omega) ?_
                 rw [hop]
                 refine Eq.trans ?_ (bi2_13 _ _)
                 first
                   | exact (if_pos (by omega)).symm
                   | exact (if_neg (by omega)).symm)
    · refine q_aload_n (t := 67) F dX9_not0_66 rfl rfl rfl ?_
      refine q_bipush (t := 69) F dX9_not0_67 (by decide) rfl ?_
      refine wp_callV (t := 72) [_] F dX9_not0_69 k_X9_isSign v_X9_isSign ml_X9_220 rfl rfl rfl rfl (Nat.le_of_ble_eq_true rfl) (by decide) (m_30 (by omega)) (c_X9_isSign _ G im4 bt rt lm4 b n hb r.1 r.2.1 h4.2.1 61 (by omega) (by omega)) rfl (kI ?_)
      rintro x69 m' ⟨hx69, rfl⟩
      have hx69 := if01 hx69
      refine q_if_ne (t := 75) (u := 77) F dX9_not0_72 (by first | exact hR _ _ _ | (constructor <;> omega)) (by decide) rfl (fun c72 => ?_) (fun c72 => ?_)
      · have hq : r.2.1 = -1 ∧ (tk b n r.1 = 60 ∨ tk b n r.1 = 61) := by omega
        have hlt : r.1 < n := tk_lt (b := b) (by omega)
        have hgd := PG_sumL b n 5 (adv b n r.1) (adv_in hlt).2
        have h11 := h4.2.1
        rw [hq.1] at h11
        have hw1 : lm4 30 0 26 = tk b n r.1 := ((TK_sign (h11.1.1 rfl).2.2 (s := tk b n r.1) (by omega)).mpr rfl).2
        have hcm : cmpI (lm4 30 0 26) 60 = 0 ↔ lm4 30 0 26 = 60 := cmpI_eq
        refine q_aload_n (t := 78) F dX9_not0_77 rfl rfl rfl ?_
        refine g_X9_175 (t := 81) F dX9_not0_78 rfl rfl ?_
        try simp only [up_app, row_app, scr_app, cpy_app, Nat.reduceEqDiff, Int.reduceToNat, Int.toNat_natCast, and_true, true_and, and_false, false_and, and_self, reduceIte]
        refine q_ldc2 (t := 84) (x := 60) F dX9_not0_81 kl_X9_242 (by decide) rfl ?_
        refine q_lcmp (t := 85) F dX9_not0_84 ⟨by omega, by omega⟩ ⟨by omega, by omega⟩ rfl ?_
        refine q_if_ne (t := 88) (u := 92) F dX9_not0_85 (by exact cmpI_ri _ _) (by decide) rfl (fun c85 => ?_) (fun c85 => ?_)
        · refine q_iconst (t := 93) F dX9_not0_92 rfl ?_
          refine q_istore_n (t := 94) F dX9_not0_93 rfl (by decide) rfl rfl ?_
          refine q_aload_n (t := 95) F dX9_not0_94 rfl rfl rfl ?_
          refine wp_callV (t := 98) [] F dX9_not0_95 k_X9_next v_X9_next ml_X9_196 rfl rfl rfl rfl (Nat.le_of_ble_eq_true rfl) (by decide) (m_30 (by omega)) (c_nextQ _ G im4 bt rt lm4 b n hb r.1 h11 hlt (by omega)) rfl (kV ?_)
          rintro m' ⟨im5, lm5, h5, hag5, hlg5, rfl⟩
          refine q_aload_n (t := 99) F dX9_not0_98 rfl rfl rfl ?_
          refine wp_callV (t := 102) [] F dX9_not0_99 k_X9_added0 v_X9_added0 ml_X9_331 rfl rfl rfl rfl (Nat.le_of_ble_eq_true rfl) (by decide) (m_30 (by omega)) (hS im5 lm5 nm (adv b n r.1) (-1) h5 (((hag5.trans h4.2.2.1) 30 0 27 (by omega)).trans h27) (hnm.ag (hag5.trans h4.2.2.1))) rfl (kI ?_)
          rintro xB m' ⟨im6, lm6, h6, rfl⟩
          rw [stP_y] at h6
          have hrb := h6.1
          have hrb1 := hrb.1
          have hrb2 := hrb.2
          refine q_istore_n (t := 103) F dX9_not0_102 rfl (by decide) rfl rfl ?_
          refine q_iload_n (t := 104) F dX9_not0_103 rfl rfl rfl ?_
          refine q_if_eq (t := 107) (u := 115) F dX9_not0_104 (by first | exact hR _ _ _ | (constructor <;> omega)) (by decide) rfl (fun c104 => ?_) (fun c104 => ?_)
          · refine q_iload_n (t := 116) F dX9_not0_115 rfl rfl rfl ?_
            refine q_iload_n (t := 117) F dX9_not0_116 rfl rfl rfl ?_
            refine q_icmp_ne (t := 120) (u := 124) F dX9_not0_117 (by exact hra) (by exact hrb) (by decide) rfl (fun c117 => ?_) (fun c117 => ?_)
            · refine q_iconst (t := 125) F dX9_not0_124 rfl ?_
              refine q_iret F dX9_not0_125 rfl ?_
              first
                | (exfalso; omega)
                | (have hop : opC (tk b n r.1) = -12 := by unfold opC; rw [if_pos (by omega)]
                   refine ⟨_, rfl, im6, lm6, ?_, rfl⟩
                   rw [den_oth hn9, ← hrd, loopP_y2 (f := 0) hq.1 (by rw [hop]; decide)]
                   refine RPO_step h4 hq.1 hag5 hlg5 h6 (by constructor <;> omega) ?_
                   rw [hop]
                   refine Eq.trans ?_ (bi2_12 _ _)
                   first
                     | exact (if_pos (by omega)).symm
                     | exact (if_neg (by omega)).symm)
                | (have hop : opC (tk b n r.1) = -13 := by unfold opC; rw [if_neg (by omega), if_pos (by omega)]
                   refine ⟨_, rfl, im6, lm6, ?_, rfl⟩
                   rw [den_oth hn9, ← hrd, loopP_y2 (f := 0) hq.1 (by rw [hop]; decide)]
                   refine RPO_step h4 hq.1 hag5 hlg5 h6 (by constructor <;> omega) ?_
                   rw [hop]
                   refine Eq.trans ?_ (bi2_13 _ _)
                   first
                     | exact (if_pos (by omega)).symm
                     | exact (if_neg (by omega)).symm)
            · refine q_iconst (t := 121) F dX9_not0_120 rfl ?_
              refine q_goto (t := 125) F dX9_not0_121 (by decide) ?_
              refine q_iret F dX9_not0_125 rfl ?_
              first
                | (exfalso; omega)
                | (have hop : opC (tk b n r.1) = -12 := by unfold opC; rw [if_pos (by omega)]
                   refine ⟨_, rfl, im6, lm6, ?_, rfl⟩
                   rw [den_oth hn9, ← hrd, loopP_y2 (f := 0) hq.1 (by rw [hop]; decide)]
                   refine RPO_step h4 hq.1 hag5 hlg5 h6 (by constructor <;> omega) ?_
                   rw [hop]
                   refine Eq.trans ?_ (bi2_12 _ _)
                   first
                     | exact (if_pos (by omega)).symm
                     | exact (if_neg (by omega)).symm)
                | (have hop : opC (tk b n r.1) = -13 := by unfold opC; rw [if_neg (by omega), if_pos (by omega)]
                   refine ⟨_, rfl, im6, lm6, ?_, rfl⟩
                   rw [den_oth hn9, ← hrd, loopP_y2 (f := 0) hq.1 (by rw [hop]; decide)]
                   refine RPO_step h4 hq.1 hag5 hlg5 h6 (by constructor <;> omega) ?_
                   rw [hop]
                   refine Eq.trans ?_ (bi2_13 _ _)
                   first
                     | exact (if_pos (by omega)).symm
                     | exact (if_neg (by omega)).symm)
          · refine q_iload_n (t := 108) F dX9_not0_107 rfl rfl rfl ?_
            refine q_iload_n (t := 109) F dX9_not0_108 rfl rfl rfl ?_
            refine q_icmp_ge (t := 112) (u := 124) F dX9_not0_109 (by exact hra) (by exact hrb) (by decide) rfl (fun c109 => ?_) (fun c109 => ?_)
            · refine q_iconst (t := 125) F dX9_not0_124 rfl ?_
              refine q_iret F dX9_not0_125 rfl ?_
              first
                | (exfalso; omega)
                | (have hop : opC (tk b n r.1) = -12 := by unfold opC; rw [if_pos (by omega)]
                   refine ⟨_, rfl, im6, lm6, ?_, rfl⟩
                   rw [den_oth hn9, ← hrd, loopP_y2 (f := 0) hq.1 (by rw [hop]; decide)]
                   refine RPO_step h4 hq.1 hag5 hlg5 h6 (by constructor <;> omega) ?_
                   rw [hop]
                   refine Eq.trans ?_ (bi2_12 _ _)
                   first
                     | exact (if_pos (by omega)).symm
                     | exact (if_neg (by omega)).symm)
                | (have hop : opC (tk b n r.1) = -13 := by unfold opC; rw [if_neg (by omega), if_pos (by omega)]
                   refine ⟨_, rfl, im6, lm6, ?_, rfl⟩
                   rw [den_oth hn9, ← hrd, loopP_y2 (f := 0) hq.1 (by rw [hop]; decide)]
                   refine RPO_step h4 hq.1 hag5 hlg5 h6 (by constructor <;> omega) ?_
                   rw [hop]
                   refine Eq.trans ?_ (bi2_13 _ _)
                   first
                     | exact (if_pos (by omega)).symm
                     | exact (if_neg (by omega)).symm)
            · refine q_goto (t := 120) F dX9_not0_112 (by decide) ?_
              refine q_iconst (t := 121) F dX9_not0_120 rfl ?_
              refine q_goto (t := 125) F dX9_not0_121 (by decide) ?_
              refine q_iret F dX9_not0_125 rfl ?_
              first
                | (exfalso; omega)
                | (have hop : opC (tk b n r.1) = -12 := by unfold opC; rw [if_pos (by omega)]
                   refine ⟨_, rfl, im6, lm6, ?_, rfl⟩
                   rw [den_oth hn9, ← hrd, loopP_y2 (f := 0) hq.1 (by rw [hop]; decide)]
                   refine RPO_step h4 hq.1 hag5 hlg5 h6 (by constructor <;> omega) ?_
                   rw [hop]
                   refine Eq.trans ?_ (bi2_12 _ _)
                   first
                     | exact (if_pos (by omega)).symm
                     | exact (if_neg (by omega)).symm)
                | (have hop : opC (tk b n r.1) = -13 := by unfold opC; rw [if_neg (by omega), if_pos (by omega)]
                   refine ⟨_, rfl, im6, lm6, ?_, rfl⟩
                   rw [den_oth hn9, ← hrd, loopP_y2 (f := 0) hq.1 (by rw [hop]; decide)]
                   refine RPO_step h4 hq.1 hag5 hlg5 h6 (by constructor <;> omega) ?_
                   rw [hop]
                   refine Eq.trans ?_ (bi2_13 _ _)
                   first
                     | exact (if_pos (by omega)).symm
                     | exact (if_neg (by omega)).symm)
        · refine q_iconst (t := 89) F dX9_not0_88 rfl ?_
          refine q_goto (t := 93) F dX9_not0_89 (by decide) ?_
          refine q_istore_n (t := 94) F dX9_not0_93 rfl (by decide) rfl rfl ?_
          refine q_aload_n (t := 95) F dX9_not0_94 rfl rfl rfl ?_
          refine wp_callV (t := 98) [] F dX9_not0_95 k_X9_next v_X9_next ml_X9_196 rfl rfl rfl rfl (Nat.le_of_ble_eq_true rfl) (by decide) (m_30 (by omega)) (c_nextQ _ G im4 bt rt lm4 b n hb r.1 h11 hlt (by omega)) rfl (kV ?_)
          rintro m' ⟨im5, lm5, h5, hag5, hlg5, rfl⟩
          refine q_aload_n (t := 99) F dX9_not0_98 rfl rfl rfl ?_
          refine wp_callV (t := 102) [] F dX9_not0_99 k_X9_added0 v_X9_added0 ml_X9_331 rfl rfl rfl rfl (Nat.le_of_ble_eq_true rfl) (by decide) (m_30 (by omega)) (hS im5 lm5 nm (adv b n r.1) (-1) h5 (((hag5.trans h4.2.2.1) 30 0 27 (by omega)).trans h27) (hnm.ag (hag5.trans h4.2.2.1))) rfl (kI ?_)
          rintro xB m' ⟨im6, lm6, h6, rfl⟩
          rw [stP_y] at h6
          have hrb := h6.1
          have hrb1 := hrb.1
          have hrb2 := hrb.2
          refine q_istore_n (t := 103) F dX9_not0_102 rfl (by decide) rfl rfl ?_
          refine q_iload_n (t := 104) F dX9_not0_103 rfl rfl rfl ?_
          refine q_if_eq (t := 107) (u := 115) F dX9_not0_104 (by first | exact hR _ _ _ | (constructor <;> omega)) (by decide) rfl (fun c104 => ?_) (fun c104 => ?_)
          · refine q_iload_n (t := 116) F dX9_not0_115 rfl rfl rfl ?_
            refine q_iload_n (t := 117) F dX9_not0_116 rfl rfl rfl ?_
            refine q_icmp_ne (t := 120) (u := 124) F dX9_not0_117 (by exact hra) (by exact hrb) (by decide) rfl (fun c117 => ?_) (fun c117 => ?_)
            · refine q_iconst (t := 125) F dX9_not0_124 rfl ?_
              refine q_iret F dX9_not0_125 rfl ?_
              first
                | (exfalso; omega)
                | (have hop : opC (tk b n r.1) = -12 := by unfold opC; rw [if_pos (by omega)]
                   refine ⟨_, rfl, im6, lm6, ?_, rfl⟩
                   rw [den_oth hn9, ← hrd, loopP_y2 (f := 0) hq.1 (by rw [hop]; decide)]
                   refine RPO_step h4 hq.1 hag5 hlg5 h6 (by constructor <;> omega) ?_
                   rw [hop]
                   refine Eq.trans ?_ (bi2_12 _ _)
                   first
                     | exact (if_pos (by omega)).symm
                     | exact (if_neg (by omega)).symm)
                | (have hop : opC (tk b n r.1) = -13 := by unfold opC; rw [if_neg (by omega), if_pos (by omega)]
                   refine ⟨_, rfl, im6, lm6, ?_, rfl⟩
                   rw [den_oth hn9, ← hrd, loopP_y2 (f := 0) hq.1 (by rw [hop]; decide)]
                   refine RPO_step h4 hq.1 hag5 hlg5 h6 (by constructor <;> omega) ?_
                   rw [hop]
                   refine Eq.trans ?_ (bi2_13 _ _)
                   first
                     | exact (if_pos (by omega)).symm
                     | exact (if_neg (by omega)).symm)
            · refine q_iconst (t := 121) F dX9_not0_120 rfl ?_
              refine q_goto (t := 125) F dX9_not0_121 (by decide) ?_
              refine q_iret F dX9_not0_125 rfl ?_
              first
                | (exfalso; omega)
                | (have hop : opC (tk b n r.1) = -12 := by unfold opC; rw [if_pos (by omega)]
                   refine ⟨_, rfl, im6, lm6, ?_, rfl⟩
                   rw [den_oth hn9, ← hrd, loopP_y2 (f := 0) hq.1 (by rw [hop]; decide)]
                   refine RPO_step h4 hq.1 hag5 hlg5 h6 (by constructor <;> omega) ?_
                   rw [hop]
                   refine Eq.trans ?_ (bi2_12 _ _)
                   first
                     | exact (if_pos (by omega)).symm
                     | exact (if_neg (by omega)).symm)
                | (have hop : opC (tk b n r.1) = -13 := by unfold opC; rw [if_neg (by omega), if_pos (by omega)]
                   refine ⟨_, rfl, im6, lm6, ?_, rfl⟩
                   rw [den_oth hn9, ← hrd, loopP_y2 (f := 0) hq.1 (by rw [hop]; decide)]
                   refine RPO_step h4 hq.1 hag5 hlg5 h6 (by constructor <;> omega) ?_
                   rw [hop]
                   refine Eq.trans ?_ (bi2_13 _ _)
                   first
                     | exact (if_pos (by omega)).symm
                     | exact (if_neg (by omega)).symm)
          · refine q_iload_n (t := 108) F dX9_not0_107 rfl rfl rfl ?_
            refine q_iload_n (t := 109) F dX9_not0_108 rfl rfl rfl ?_
            refine q_icmp_ge (t := 112) (u := 124) F dX9_not0_109 (by exact hra) (by exact hrb) (by decide) rfl (fun c109 => ?_) (fun c109 => ?_)
            · refine q_iconst (t := 125) F dX9_not0_124 rfl ?_
              refine q_iret F dX9_not0_125 rfl ?_
              first
                | (exfalso; omega)
                | (have hop : opC (tk b n r.1) = -12 := by unfold opC; rw [if_pos (by omega)]
                   refine ⟨_, rfl, im6, lm6, ?_, rfl⟩
                   rw [den_oth hn9, ← hrd, loopP_y2 (f := 0) hq.1 (by rw [hop]; decide)]
                   refine RPO_step h4 hq.1 hag5 hlg5 h6 (by constructor <;> omega) ?_
                   rw [hop]
                   refine Eq.trans ?_ (bi2_12 _ _)
                   first
                     | exact (if_pos (by omega)).symm
                     | exact (if_neg (by omega)).symm)
                | (have hop : opC (tk b n r.1) = -13 := by unfold opC; rw [if_neg (by omega), if_pos (by omega)]
                   refine ⟨_, rfl, im6, lm6, ?_, rfl⟩
                   rw [den_oth hn9, ← hrd, loopP_y2 (f := 0) hq.1 (by rw [hop]; decide)]
                   refine RPO_step h4 hq.1 hag5 hlg5 h6 (by constructor <;> omega) ?_
                   rw [hop]
                   refine Eq.trans ?_ (bi2_13 _ _)
                   first
                     | exact (if_pos (by omega)).symm
                     | exact (if_neg (by omega)).symm)
            · refine q_goto (t := 120) F dX9_not0_112 (by decide) ?_
              refine q_iconst (t := 121) F dX9_not0_120 rfl ?_
              refine q_goto (t := 125) F dX9_not0_121 (by decide) ?_
              refine q_iret F dX9_not0_125 rfl ?_
              first
                | (exfalso; omega)
                | (have hop : opC (tk b n r.1) = -12 := by unfold opC; rw [if_pos (by omega)]
                   refine ⟨_, rfl, im6, lm6, ?_, rfl⟩
                   rw [den_oth hn9, ← hrd, loopP_y2 (f := 0) hq.1 (by rw [hop]; decide)]
                   refine RPO_step h4 hq.1 hag5 hlg5 h6 (by constructor <;> omega) ?_
                   rw [hop]
                   refine Eq.trans ?_ (bi2_12 _ _)
                   first
                     | exact (if_pos (by omega)).symm
                     | exact (if_neg (by omega)).symm)
                | (have hop : opC (tk b n r.1) = -13 := by unfold opC; rw [if_neg (by omega), if_pos (by omega)]
                   refine ⟨_, rfl, im6, lm6, ?_, rfl⟩
                   rw [den_oth hn9, ← hrd, loopP_y2 (f := 0) hq.1 (by rw [hop]; decide)]
                   refine RPO_step h4 hq.1 hag5 hlg5 h6 (by constructor <;> omega) ?_
                   rw [hop]
                   refine Eq.trans ?_ (bi2_13 _ _)
                   first
                     | exact (if_pos (by omega)).symm
                     | exact (if_neg (by omega)).symm)
      · refine q_iload_n (t := 76) F dX9_not0_75 rfl rfl rfl ?_
        refine q_iret F dX9_not0_76 rfl ?_
        refine ⟨xA, rfl, im4, lm4, ?_, rfl⟩
        rw [den_oth hn9, ← hrd, loopP_n (fun q => ?_)]
        · exact h4
        · have q1 := q.1
          have q2 := q.2
          unfold opC at q2
          rw [if_neg (by omega), if_neg (by omega)] at q2
          exact q2 rfl
  · have hf : f = -1 := by omega
    subst hf
    have hlt : p < n := tk_lt (b := b) (by omega)
    have ht9 : tk b n p = 9 := by omega
    refine q_aload_n (t := 19) F dX9_not0_18 rfl rfl rfl ?_
    refine wp_callV (t := 22) [] F dX9_not0_19 k_X9_opens v_X9_opens ml_X9_223 rfl rfl rfl rfl (Nat.le_of_ble_eq_true rfl) (by decide) (m_30 (by omega)) (c_X9_opens _ G im bt rt lm b n hb p h hlt (by omega) 0 (by omega) h27) rfl (kI ?_)
    rintro x19 m' (⟨q, -⟩ | ⟨-, rfl, im2, lm2, h2, h227, hag, hlg, rfl⟩)
    · exact absurd q (by omega)
    refine q_if_ne (t := 25) (u := 27) F dX9_not0_22 (by first | exact hR _ _ _ | (constructor <;> omega)) (by decide) rfl (fun c22 => ?_) (fun c22 => ?_)
    · refine q_aload_n (t := 28) F dX9_not0_27 rfl rfl rfl ?_
      refine wp_callV (t := 31) [] F dX9_not0_28 k_X9_not1 v_X9_not1 ml_X9_316 rfl rfl rfl rfl (Nat.le_of_ble_eq_true rfl) (by decide) (m_30 (by omega)) (hN im2 lm2 nm (adv b n p) (-1) h2 (by omega) (hnm.ag27 hag)) rfl (kI ?_)
      rintro x28 m' ⟨im3, lm3, h3, rfl⟩
      rw [stP_y] at h3
      have hrv := h3.1
      have hrv1 := hrv.1
      have hrv2 := hrv.2
      refine q_istore_n (t := 32) F dX9_not0_31 rfl (by decide) rfl rfl ?_
      refine q_aload_n (t := 33) F dX9_not0_32 rfl rfl rfl ?_
      refine q_dupR (t := 34) F dX9_not0_33 rfl ?_
      refine g_X9_190 (t := 37) F dX9_not0_34 rfl rfl ?_
      try simp only [up_app, row_app, scr_app, cpy_app, Nat.reduceEqDiff, Int.reduceToNat, Int.toNat_natCast, and_true, true_and, and_false, false_and, and_self, reduceIte]
      refine q_iconst (t := 38) F dX9_not0_37 rfl ?_
      refine q_isub (t := 39) F dX9_not0_38 rfl ?_
      rw [show im3 30 0 27 - 1 = ((0 : Nat) : Int) by rw [h3.2.2.1 30 0 27 (by omega)]; omega]
      refine p_X9_190 (t := 42) F dX9_not0_39 rfl rfl ?_
      refine q_iload_n (t := 43) F dX9_not0_42 rfl rfl rfl ?_
      refine q_if_ne (t := 46) (u := 50) F dX9_not0_43 (by exact hrv) (by decide) rfl (fun c43 => ?_) (fun c43 => ?_)
      · refine q_iconst (t := 51) F dX9_not0_50 rfl ?_
        refine q_iret F dX9_not0_51 rfl ?_
        refine ⟨_, rfl, up im3 30 0 27 ((0 : Nat) : Int), lm3, ?_, rfl⟩
        rw [stP_y, den_not (m := 4) ht9]
        refine RPO_not (by omega) h27 hag hlg h3 ?_
        first
          | exact (if_pos (by omega)).symm
          | exact (if_neg (by omega)).symm
      · refine q_iconst (t := 47) F dX9_not0_46 rfl ?_
        refine q_goto (t := 51) F dX9_not0_47 (by decide) ?_
        refine q_iret F dX9_not0_51 rfl ?_
        refine ⟨_, rfl, up im3 30 0 27 ((0 : Nat) : Int), lm3, ?_, rfl⟩
        rw [stP_y, den_not (m := 4) ht9]
        refine RPO_not (by omega) h27 hag hlg h3 ?_
        first
          | exact (if_pos (by omega)).symm
          | exact (if_neg (by omega)).symm
    · refine q_iconst (t := 26) F dX9_not0_25 rfl ?_
      refine q_iret F dX9_not0_26 rfl ?_
      exfalso; omega

set_option maxHeartbeats 4000000 in
theorem c_X9_both0 (l : Launch) (G : GS)  (bt rt : Nat)  (b : Nat → Int) (n : Nat) (hb : byt b n) (hO : RT l G bt rt b n yX9_not0 Y_X9_not0 (denL b n 5) 0) (im lm : IM) (nm : Nat → Int) (p : Nat) (f : Int) (h : PQ b n im lm p f) (h27 : im 30 0 27 = ((0 : Nat) : Int)) (hnm : NMr im nm) : Cn l (XR G) yX9_both0 Y_X9_both0 [vR 30 0] (im, rs bt rt, lm) (pI fun x m' => ∃ im' lm', RPO b n im lm nm (stP (bothL b n 5) p f) x im' lm' ∧ m' = (im', rs bt rt, lm')) := by
  refine cn_of (by decide) (okR G) rfl (Nat.le_of_ble_eq_true rfl) ?_
  intro M ad hMl F
  subst hMl
  have hn := hb.1
  have hR := h.2.1
  refine wp_pad 2 ?_
  show Wp M (XR G) ad Y_X9_both0 (pI fun x m' => ∃ im' lm', RPO b n im lm nm (stP (bothL b n 5) p f) x im' lm' ∧ m' = (im', rs bt rt, lm')) 0 [some (vR 30 0), none, none] [] (im, rs bt rt, lm)
  refine q_aload_n (t := 1) F dX9_both0_0 rfl rfl rfl ?_
  refine wp_callV (t := 4) [] F dX9_both0_1 k_X9_not0 v_X9_not0 ml_X9_334 rfl rfl rfl rfl (Nat.le_of_ble_eq_true rfl) (by decide) (m_30 (by omega)) (hO im lm nm p f h h27 hnm) rfl (kI ?_)
  rintro x1 m' ⟨im0, lm0, h0, rfl⟩
  refine q_istore_n (t := 5) F dX9_both0_4 rfl (by decide) rfl rfl ?_
  have L5 : ∀ (fz : Nat) (k : Nat) (r : PT) (v : Int) (im1 lm1 : IM), k < fz → loopP b n opA (denL b n 5) 160 (stP (denL b n 5) p f) = loopP b n opA (denL b n 5) k r → n - r.1 ≤ k → RPO b n im lm nm r v im1 lm1 → Wp M (XR G) ad Y_X9_both0 (pI fun x m' => ∃ im' lm', RPO b n im lm nm (stP (bothL b n 5) p f) x im' lm' ∧ m' = (im', rs bt rt, lm')) 5 [some (vR 30 0), some (vI v), none] [] (im1, rs bt rt, lm1) := by
    intro fz
    induction fz with
    | zero => intro k r v im1 lm1 h; exact absurd h (Nat.not_lt_zero _)
    | succ fz ih =>
      have ih5 := ih
      intro k r v im1 lm1 hmeas hlp hk hr
      have hti := tk_in b n r.1
      have hb1 := hr.2.1.b01
      have hrv := hr.1
      have hrv1 := hrv.1
      have hrv2 := hrv.2
      refine q_aload_n (t := 6) F dX9_both0_5 rfl rfl rfl ?_
      refine q_bipush (t := 8) F dX9_both0_6 (by decide) rfl ?_
      refine q_bipush (t := 10) F dX9_both0_8 (by decide) rfl ?_
      refine q_bipush (t := 12) F dX9_both0_10 (by decide) rfl ?_
      refine q_iconst (t := 13) F dX9_both0_12 rfl ?_
      refine q_iconst (t := 14) F dX9_both0_13 rfl ?_
      refine q_iconst (t := 15) F dX9_both0_14 rfl ?_
      refine q_iconst (t := 16) F dX9_both0_15 rfl ?_
      refine q_iconst (t := 17) F dX9_both0_16 rfl ?_
      refine wp_callV (t := 20) [_, _, _, _, _, _, _, _] F dX9_both0_17 k_X9_isWord_ v_X9_isWord_ ml_X9_199 rfl rfl rfl rfl (Nat.le_of_ble_eq_true rfl) (by decide) (m_30 (by omega)) (c_isKey _ G im1 bt rt lm1 b n hb r.1 r.2.1 hr.2.1 10 (by omega) (by omega) 8 (by omega) _ _ _ _ _ _ _ _ (by decide)) rfl (kI ?_)
      rintro x17 m' ⟨hx17, rfl⟩
      have hx17 := if01 hx17
      refine q_if_eq (t := 23) (u := 49) F dX9_both0_20 (by first | exact hR _ _ _ | (constructor <;> omega)) (by decide) rfl (fun c20 => ?_) (fun c20 => ?_)
      · refine q_iload_n (t := 50) F dX9_both0_49 rfl rfl rfl ?_
        refine q_iret F dX9_both0_50 rfl ?_
        have e : stP (bothL b n 5) p f = r := by
          have e0 : stP (bothL b n 5) p f = loopP b n opA (denL b n 5) 160 (stP (denL b n 5) p f) := stP_loop (F := denL b n 5) (k := 160)
          rw [e0, hlp]
          refine loopP_n (fun q => ?_)
          have q1 := q.1
          have q2 := q.2
          unfold opA at q2
          rw [if_neg (by omega)] at q2
          exact q2 rfl
        exact ⟨v, rfl, im1, lm1, by rw [e]; exact hr, rfl⟩
      · have hq : r.2.1 = -1 ∧ tk b n r.1 = 8 := by omega
        have hlt : r.1 < n := tk_lt (b := b) (by omega)
        have hop : opA (tk b n r.1) = -14 := by unfold opA; rw [if_pos hq.2]
        have hgd := PG_den b n 5 (adv b n r.1) (adv_in hlt).2
        have had := (adv_in (b := b) hlt).1
        have h11 := hr.2.1
        rw [hq.1] at h11
        refine q_aload_n (t := 24) F dX9_both0_23 rfl rfl rfl ?_
        refine wp_callV (t := 27) [] F dX9_both0_24 k_X9_next v_X9_next ml_X9_196 rfl rfl rfl rfl (Nat.le_of_ble_eq_true rfl) (by decide) (m_30 (by omega)) (c_nextQ _ G im1 bt rt lm1 b n hb r.1 h11 hlt (by omega)) rfl (kV ?_)
        rintro m' ⟨im2, lm2, h2, hag2, hlg2, rfl⟩
        refine q_aload_n (t := 28) F dX9_both0_27 rfl rfl rfl ?_
        refine wp_callV (t := 31) [] F dX9_both0_28 k_X9_not0 v_X9_not0 ml_X9_334 rfl rfl rfl rfl (Nat.le_of_ble_eq_true rfl) (by decide) (m_30 (by omega)) (hO im2 lm2 nm (adv b n r.1) (-1) h2 (((hag2.trans hr.2.2.1) 30 0 27 (by omega)).trans h27) (hnm.ag (hag2.trans hr.2.2.1))) rfl (kI ?_)
        rintro x28 m' ⟨im3, lm3, h3, rfl⟩
        rw [stP_y] at h3
        refine q_istore_n (t := 32) F dX9_both0_31 rfl (by decide) rfl rfl ?_
        refine q_iload_n (t := 33) F dX9_both0_32 rfl rfl rfl ?_
        refine q_if_eq (t := 36) (u := 44) F dX9_both0_33 (by exact hrv) (by decide) rfl (fun c33 => ?_) (fun c33 => ?_)
        · refine q_iconst (t := 45) F dX9_both0_44 rfl ?_
          refine q_istore_n (t := 46) F dX9_both0_45 rfl (by decide) rfl rfl ?_
          refine q_goto (t := 5) F dX9_both0_46 (by decide) ?_
          refine wp_less 2 ?_
          refine ih5 (k - 1) (lpS b n opA (denL b n 5) r) _ im3 lm3 (by omega) ?_ ?_ (RPO_step hr hq.1 hag2 hlg2 h3 (by constructor <;> omega) (by rw [hop]; refine Eq.trans ?_ (bi2_14 _ _); first | exact (if_pos (by omega)).symm | exact (if_neg (by omega)).symm))
          · rw [hlp]
            obtain ⟨k', hk'⟩ : ∃ k', k = k' + 1 := ⟨k - 1, by omega⟩
            rw [hk', loopP_y2 hq.1 (by rw [hop]; decide)]
            rfl
          · have := hgd.1
            show n - (denL b n 5 (adv b n r.1)).1 ≤ k - 1
            omega
        · refine q_iload_n (t := 37) F dX9_both0_36 rfl rfl rfl ?_
          refine q_if_eq (t := 40) (u := 44) F dX9_both0_37 (by exact h3.1) (by decide) rfl (fun c37 => ?_) (fun c37 => ?_)
          · refine q_iconst (t := 45) F dX9_both0_44 rfl ?_
            refine q_istore_n (t := 46) F dX9_both0_45 rfl (by decide) rfl rfl ?_
            refine q_goto (t := 5) F dX9_both0_46 (by decide) ?_
            refine wp_less 2 ?_
            refine ih5 (k - 1) (lpS b n opA (denL b n 5) r) _ im3 lm3 (by omega) ?_ ?_ (RPO_step hr hq.1 hag2 hlg2 h3 (by constructor <;> omega) (by rw [hop]; refine Eq.trans ?_ (bi2_14 _ _); first | exact (if_pos (by omega)).symm | exact (if_neg (by omega)).symm))
            · rw [hlp]
              obtain ⟨k', hk'⟩ : ∃ k', k = k' + 1 := ⟨k - 1, by omega⟩
              rw [hk', loopP_y2 hq.1 (by rw [hop]; decide)]
              rfl
            · have := hgd.1
              show n - (denL b n 5 (adv b n r.1)).1 ≤ k - 1
              omega
          · refine q_iconst (t := 41) F dX9_both0_40 rfl ?_
            refine q_goto (t := 45) F dX9_both0_41 (by decide) ?_
            refine q_istore_n (t := 46) F dX9_both0_45 rfl (by decide) rfl rfl ?_
            refine q_goto (t := 5) F dX9_both0_46 (by decide) ?_
            refine wp_less 2 ?_
            refine ih5 (k - 1) (lpS b n opA (denL b n 5) r) _ im3 lm3 (by omega) ?_ ?_ (RPO_step hr hq.1 hag2 hlg2 h3 (by constructor <;> omega) (by rw [hop]; refine Eq.trans ?_ (bi2_14 _ _); first | exact (if_pos (by omega)).symm | exact (if_neg (by omega)).symm))
            · rw [hlp]
              obtain ⟨k', hk'⟩ : ∃ k', k = k' + 1 := ⟨k - 1, by omega⟩
              rw [hk', loopP_y2 hq.1 (by rw [hop]; decide)]
              rfl
            · have := hgd.1
              show n - (denL b n 5 (adv b n r.1)).1 ≤ k - 1
              omega
  refine wp_less 2 ?_
  exact L5 _ 160 _ _ _ _ (Nat.lt_succ_self _) rfl (by omega) h0

set_option maxHeartbeats 4000000 in
theorem c_X9_either0 (l : Launch) (G : GS)  (bt rt : Nat)  (b : Nat → Int) (n : Nat) (hb : byt b n) (hO : RT l G bt rt b n yX9_both0 Y_X9_both0 (bothL b n 5) 0) (im lm : IM) (nm : Nat → Int) (p : Nat) (f : Int) (h : PQ b n im lm p f) (h27 : im 30 0 27 = ((0 : Nat) : Int)) (hnm : NMr im nm) : Cn l (XR G) yX9_either0 Y_X9_either0 [vR 30 0] (im, rs bt rt, lm) (pI fun x m' => ∃ im' lm', RPO b n im lm nm (stP (eitL b n 5) p f) x im' lm' ∧ m' = (im', rs bt rt, lm')) := by
  refine cn_of (by decide) (okR G) rfl (Nat.le_of_ble_eq_true rfl) ?_
  intro M ad hMl F
  subst hMl
  have hn := hb.1
  have hR := h.2.1
  refine wp_pad 2 ?_
  show Wp M (XR G) ad Y_X9_either0 (pI fun x m' => ∃ im' lm', RPO b n im lm nm (stP (eitL b n 5) p f) x im' lm' ∧ m' = (im', rs bt rt, lm')) 0 [some (vR 30 0), none, none] [] (im, rs bt rt, lm)
  refine q_aload_n (t := 1) F dX9_either0_0 rfl rfl rfl ?_
  refine wp_callV (t := 4) [] F dX9_either0_1 k_X9_both0 v_X9_both0 ml_X9_337 rfl rfl rfl rfl (Nat.le_of_ble_eq_true rfl) (by decide) (m_30 (by omega)) (hO im lm nm p f h h27 hnm) rfl (kI ?_)
  rintro x1 m' ⟨im0, lm0, h0, rfl⟩
  refine q_istore_n (t := 5) F dX9_either0_4 rfl (by decide) rfl rfl ?_
  have L5 : ∀ (fz : Nat) (k : Nat) (r : PT) (v : Int) (im1 lm1 : IM), k < fz → loopP b n opO (bothL b n 5) 160 (stP (bothL b n 5) p f) = loopP b n opO (bothL b n 5) k r → n - r.1 ≤ k → RPO b n im lm nm r v im1 lm1 → Wp M (XR G) ad Y_X9_either0 (pI fun x m' => ∃ im' lm', RPO b n im lm nm (stP (eitL b n 5) p f) x im' lm' ∧ m' = (im', rs bt rt, lm')) 5 [some (vR 30 0), some (vI v), none] [] (im1, rs bt rt, lm1) := by
    intro fz
    induction fz with
    | zero => intro k r v im1 lm1 h; exact absurd h (Nat.not_lt_zero _)
    | succ fz ih =>
      have ih5 := ih
      intro k r v im1 lm1 hmeas hlp hk hr
      have hti := tk_in b n r.1
      have hb1 := hr.2.1.b01
      have hrv := hr.1
      have hrv1 := hrv.1
      have hrv2 := hrv.2
      refine q_aload_n (t := 6) F dX9_either0_5 rfl rfl rfl ?_
      refine q_bipush (t := 8) F dX9_either0_6 (by decide) rfl ?_
      refine q_bipush (t := 10) F dX9_either0_8 (by decide) rfl ?_
      refine q_iconst (t := 11) F dX9_either0_10 rfl ?_
      refine q_iconst (t := 12) F dX9_either0_11 rfl ?_
      refine q_iconst (t := 13) F dX9_either0_12 rfl ?_
      refine q_iconst (t := 14) F dX9_either0_13 rfl ?_
      refine q_iconst (t := 15) F dX9_either0_14 rfl ?_
      refine q_iconst (t := 16) F dX9_either0_15 rfl ?_
      refine wp_callV (t := 19) [_, _, _, _, _, _, _, _] F dX9_either0_16 k_X9_isWord_ v_X9_isWord_ ml_X9_199 rfl rfl rfl rfl (Nat.le_of_ble_eq_true rfl) (by decide) (m_30 (by omega)) (c_isKey _ G im1 bt rt lm1 b n hb r.1 r.2.1 hr.2.1 9 (by omega) (by omega) 7 (by omega) _ _ _ _ _ _ _ _ (by decide)) rfl (kI ?_)
      rintro x16 m' ⟨hx16, rfl⟩
      have hx16 := if01 hx16
      refine q_if_eq (t := 22) (u := 48) F dX9_either0_19 (by first | exact hR _ _ _ | (constructor <;> omega)) (by decide) rfl (fun c19 => ?_) (fun c19 => ?_)
      · refine q_iload_n (t := 49) F dX9_either0_48 rfl rfl rfl ?_
        refine q_iret F dX9_either0_49 rfl ?_
        have e : stP (eitL b n 5) p f = r := by
          have e0 : stP (eitL b n 5) p f = loopP b n opO (bothL b n 5) 160 (stP (bothL b n 5) p f) := stP_loop (F := bothL b n 5) (k := 160)
          rw [e0, hlp]
          refine loopP_n (fun q => ?_)
          have q1 := q.1
          have q2 := q.2
          unfold opO at q2
          rw [if_neg (by omega)] at q2
          exact q2 rfl
        exact ⟨v, rfl, im1, lm1, by rw [e]; exact hr, rfl⟩
      · have hq : r.2.1 = -1 ∧ tk b n r.1 = 7 := by omega
        have hlt : r.1 < n := tk_lt (b := b) (by omega)
        have hop : opO (tk b n r.1) = -15 := by unfold opO; rw [if_pos hq.2]
        have hgd := PG_bothL b n 5 (adv b n r.1) (adv_in hlt).2
        have had := (adv_in (b := b) hlt).1
        have h11 := hr.2.1
        rw [hq.1] at h11
        refine q_aload_n (t := 23) F dX9_either0_22 rfl rfl rfl ?_
        refine wp_callV (t := 26) [] F dX9_either0_23 k_X9_next v_X9_next ml_X9_196 rfl rfl rfl rfl (Nat.le_of_ble_eq_true rfl) (by decide) (m_30 (by omega)) (c_nextQ _ G im1 bt rt lm1 b n hb r.1 h11 hlt (by omega)) rfl (kV ?_)
        rintro m' ⟨im2, lm2, h2, hag2, hlg2, rfl⟩
        refine q_aload_n (t := 27) F dX9_either0_26 rfl rfl rfl ?_
        refine wp_callV (t := 30) [] F dX9_either0_27 k_X9_both0 v_X9_both0 ml_X9_337 rfl rfl rfl rfl (Nat.le_of_ble_eq_true rfl) (by decide) (m_30 (by omega)) (hO im2 lm2 nm (adv b n r.1) (-1) h2 (((hag2.trans hr.2.2.1) 30 0 27 (by omega)).trans h27) (hnm.ag (hag2.trans hr.2.2.1))) rfl (kI ?_)
        rintro x27 m' ⟨im3, lm3, h3, rfl⟩
        rw [stP_y] at h3
        refine q_istore_n (t := 31) F dX9_either0_30 rfl (by decide) rfl rfl ?_
        refine q_iload_n (t := 32) F dX9_either0_31 rfl rfl rfl ?_
        refine q_if_ne (t := 35) (u := 39) F dX9_either0_32 (by exact hrv) (by decide) rfl (fun c32 => ?_) (fun c32 => ?_)
        · refine q_iconst (t := 40) F dX9_either0_39 rfl ?_
          refine q_goto (t := 44) F dX9_either0_40 (by decide) ?_
          refine q_istore_n (t := 45) F dX9_either0_44 rfl (by decide) rfl rfl ?_
          refine q_goto (t := 5) F dX9_either0_45 (by decide) ?_
          refine wp_less 2 ?_
          refine ih5 (k - 1) (lpS b n opO (bothL b n 5) r) _ im3 lm3 (by omega) ?_ ?_ (RPO_step hr hq.1 hag2 hlg2 h3 (by constructor <;> omega) (by rw [hop]; refine Eq.trans ?_ (bi2_15 _ _); first | exact (if_pos (by omega)).symm | exact (if_neg (by omega)).symm))
          · rw [hlp]
            obtain ⟨k', hk'⟩ : ∃ k', k = k' + 1 := ⟨k - 1, by omega⟩
            rw [hk', loopP_y2 hq.1 (by rw [hop]; decide)]
            rfl
          · have := hgd.1
            show n - (bothL b n 5 (adv b n r.1)).1 ≤ k - 1
            omega
        · refine q_iload_n (t := 36) F dX9_either0_35 rfl rfl rfl ?_
          refine q_if_eq (t := 39) (u := 43) F dX9_either0_36 (by exact h3.1) (by decide) rfl (fun c36 => ?_) (fun c36 => ?_)
          · refine q_iconst (t := 44) F dX9_either0_43 rfl ?_
            refine q_istore_n (t := 45) F dX9_either0_44 rfl (by decide) rfl rfl ?_
            refine q_goto (t := 5) F dX9_either0_45 (by decide) ?_
            refine wp_less 2 ?_
            refine ih5 (k - 1) (lpS b n opO (bothL b n 5) r) _ im3 lm3 (by omega) ?_ ?_ (RPO_step hr hq.1 hag2 hlg2 h3 (by constructor <;> omega) (by rw [hop]; refine Eq.trans ?_ (bi2_15 _ _); first | exact (if_pos (by omega)).symm | exact (if_neg (by omega)).symm))
            · rw [hlp]
              obtain ⟨k', hk'⟩ : ∃ k', k = k' + 1 := ⟨k - 1, by omega⟩
              rw [hk', loopP_y2 hq.1 (by rw [hop]; decide)]
              rfl
            · have := hgd.1
              show n - (bothL b n 5 (adv b n r.1)).1 ≤ k - 1
              omega
          · refine q_iconst (t := 40) F dX9_either0_39 rfl ?_
            refine q_goto (t := 44) F dX9_either0_40 (by decide) ?_
            refine q_istore_n (t := 45) F dX9_either0_44 rfl (by decide) rfl rfl ?_
            refine q_goto (t := 5) F dX9_either0_45 (by decide) ?_
            refine wp_less 2 ?_
            refine ih5 (k - 1) (lpS b n opO (bothL b n 5) r) _ im3 lm3 (by omega) ?_ ?_ (RPO_step hr hq.1 hag2 hlg2 h3 (by constructor <;> omega) (by rw [hop]; refine Eq.trans ?_ (bi2_15 _ _); first | exact (if_pos (by omega)).symm | exact (if_neg (by omega)).symm))
            · rw [hlp]
              obtain ⟨k', hk'⟩ : ∃ k', k = k' + 1 := ⟨k - 1, by omega⟩
              rw [hk', loopP_y2 hq.1 (by rw [hop]; decide)]
              rfl
            · have := hgd.1
              show n - (bothL b n 5 (adv b n r.1)).1 ≤ k - 1
              omega
  refine wp_less 2 ?_
  exact L5 _ 160 _ _ _ _ (Nat.lt_succ_self _) rfl (by omega) h0

theorem c_gramR (l : Launch) (G : GS) (bt rt : Nat) (b : Nat → Int) (n : Nat) (hb : byt b n) : RT l G bt rt b n yX9_either0 Y_X9_either0 (eitL b n 5) 0 ∧ RT l G bt rt b n yX9_added0 Y_X9_added0 (sumL b n 5) 0 := by
  have hA5 : RT l G bt rt b n yX9_atom5 Y_X9_atom5 (oneL b n 0) 5 := fun im lm nm p f h h27 hnm => c_X9_atom5 l G bt rt b n hb im lm nm p f h h27 hnm
  have hT5 : RT l G bt rt b n yX9_term5 Y_X9_term5 (termL b n 0) 5 := fun im lm nm p f h h27 hnm => c_X9_term5 l G bt rt b n hb hA5 im lm nm p f h h27 hnm
  have hS5 : RT l G bt rt b n yX9_added5 Y_X9_added5 (sumL b n 0) 5 := fun im lm nm p f h h27 hnm => c_X9_added5 l G bt rt b n hb hT5 im lm nm p f h h27 hnm
  have hN5 : RT l G bt rt b n yX9_not5 Y_X9_not5 (denL b n 0) 5 := fun im lm nm p f h h27 hnm => c_X9_not5 l G bt rt b n hb hS5 im lm nm p f h h27 hnm
  have hB5 : RT l G bt rt b n yX9_both5 Y_X9_both5 (bothL b n 0) 5 := fun im lm nm p f h h27 hnm => c_X9_both5 l G bt rt b n hb hN5 im lm nm p f h h27 hnm
  have hE5 : RT l G bt rt b n yX9_either5 Y_X9_either5 (eitL b n 0) 5 := fun im lm nm p f h h27 hnm => c_X9_either5 l G bt rt b n hb hB5 im lm nm p f h h27 hnm
  have hA4 : RT l G bt rt b n yX9_atom4 Y_X9_atom4 (oneL b n 1) 4 := fun im lm nm p f h h27 hnm => c_X9_atom4 l G bt rt b n hb hA5 hE5 im lm nm p f h h27 hnm
  have hT4 : RT l G bt rt b n yX9_term4 Y_X9_term4 (termL b n 1) 4 := fun im lm nm p f h h27 hnm => c_X9_term4 l G bt rt b n hb hA4 im lm nm p f h h27 hnm
  have hS4 : RT l G bt rt b n yX9_added4 Y_X9_added4 (sumL b n 1) 4 := fun im lm nm p f h h27 hnm => c_X9_added4 l G bt rt b n hb hT4 im lm nm p f h h27 hnm
  have hN4 : RT l G bt rt b n yX9_not4 Y_X9_not4 (denL b n 1) 4 := fun im lm nm p f h h27 hnm => c_X9_not4 l G bt rt b n hb hN5 hS4 im lm nm p f h h27 hnm
  have hB4 : RT l G bt rt b n yX9_both4 Y_X9_both4 (bothL b n 1) 4 := fun im lm nm p f h h27 hnm => c_X9_both4 l G bt rt b n hb hN4 im lm nm p f h h27 hnm
  have hE4 : RT l G bt rt b n yX9_either4 Y_X9_either4 (eitL b n 1) 4 := fun im lm nm p f h h27 hnm => c_X9_either4 l G bt rt b n hb hB4 im lm nm p f h h27 hnm
  have hA3 : RT l G bt rt b n yX9_atom3 Y_X9_atom3 (oneL b n 2) 3 := fun im lm nm p f h h27 hnm => c_X9_atom3 l G bt rt b n hb hA4 hE4 im lm nm p f h h27 hnm
  have hT3 : RT l G bt rt b n yX9_term3 Y_X9_term3 (termL b n 2) 3 := fun im lm nm p f h h27 hnm => c_X9_term3 l G bt rt b n hb hA3 im lm nm p f h h27 hnm
  have hS3 : RT l G bt rt b n yX9_added3 Y_X9_added3 (sumL b n 2) 3 := fun im lm nm p f h h27 hnm => c_X9_added3 l G bt rt b n hb hT3 im lm nm p f h h27 hnm
  have hN3 : RT l G bt rt b n yX9_not3 Y_X9_not3 (denL b n 2) 3 := fun im lm nm p f h h27 hnm => c_X9_not3 l G bt rt b n hb hN4 hS3 im lm nm p f h h27 hnm
  have hB3 : RT l G bt rt b n yX9_both3 Y_X9_both3 (bothL b n 2) 3 := fun im lm nm p f h h27 hnm => c_X9_both3 l G bt rt b n hb hN3 im lm nm p f h h27 hnm
  have hE3 : RT l G bt rt b n yX9_either3 Y_X9_either3 (eitL b n 2) 3 := fun im lm nm p f h h27 hnm => c_X9_either3 l G bt rt b n hb hB3 im lm nm p f h h27 hnm
  have hA2 : RT l G bt rt b n yX9_atom2 Y_X9_atom2 (oneL b n 3) 2 := fun im lm nm p f h h27 hnm => c_X9_atom2 l G bt rt b n hb hA3 hE3 im lm nm p f h h27 hnm
  have hT2 : RT l G bt rt b n yX9_term2 Y_X9_term2 (termL b n 3) 2 := fun im lm nm p f h h27 hnm => c_X9_term2 l G bt rt b n hb hA2 im lm nm p f h h27 hnm
  have hS2 : RT l G bt rt b n yX9_added2 Y_X9_added2 (sumL b n 3) 2 := fun im lm nm p f h h27 hnm => c_X9_added2 l G bt rt b n hb hT2 im lm nm p f h h27 hnm
  have hN2 : RT l G bt rt b n yX9_not2 Y_X9_not2 (denL b n 3) 2 := fun im lm nm p f h h27 hnm => c_X9_not2 l G bt rt b n hb hN3 hS2 im lm nm p f h h27 hnm
  have hB2 : RT l G bt rt b n yX9_both2 Y_X9_both2 (bothL b n 3) 2 := fun im lm nm p f h h27 hnm => c_X9_both2 l G bt rt b n hb hN2 im lm nm p f h h27 hnm
  have hE2 : RT l G bt rt b n yX9_either2 Y_X9_either2 (eitL b n 3) 2 := fun im lm nm p f h h27 hnm => c_X9_either2 l G bt rt b n hb hB2 im lm nm p f h h27 hnm
  have hA1 : RT l G bt rt b n yX9_atom1 Y_X9_atom1 (oneL b n 4) 1 := fun im lm nm p f h h27 hnm => c_X9_atom1 l G bt rt b n hb hA2 hE2 im lm nm p f h h27 hnm
  have hT1 : RT l G bt rt b n yX9_term1 Y_X9_term1 (termL b n 4) 1 := fun im lm nm p f h h27 hnm => c_X9_term1 l G bt rt b n hb hA1 im lm nm p f h h27 hnm
  have hS1 : RT l G bt rt b n yX9_added1 Y_X9_added1 (sumL b n 4) 1 := fun im lm nm p f h h27 hnm => c_X9_added1 l G bt rt b n hb hT1 im lm nm p f h h27 hnm
  have hN1 : RT l G bt rt b n yX9_not1 Y_X9_not1 (denL b n 4) 1 := fun im lm nm p f h h27 hnm => c_X9_not1 l G bt rt b n hb hN2 hS1 im lm nm p f h h27 hnm
  have hB1 : RT l G bt rt b n yX9_both1 Y_X9_both1 (bothL b n 4) 1 := fun im lm nm p f h h27 hnm => c_X9_both1 l G bt rt b n hb hN1 im lm nm p f h h27 hnm
  have hE1 : RT l G bt rt b n yX9_either1 Y_X9_either1 (eitL b n 4) 1 := fun im lm nm p f h h27 hnm => c_X9_either1 l G bt rt b n hb hB1 im lm nm p f h h27 hnm
  have hA0 : RT l G bt rt b n yX9_atom0 Y_X9_atom0 (oneL b n 5) 0 := fun im lm nm p f h h27 hnm => c_X9_atom0 l G bt rt b n hb hA1 hE1 im lm nm p f h h27 hnm
  have hT0 : RT l G bt rt b n yX9_term0 Y_X9_term0 (termL b n 5) 0 := fun im lm nm p f h h27 hnm => c_X9_term0 l G bt rt b n hb hA0 im lm nm p f h h27 hnm
  have hS0 : RT l G bt rt b n yX9_added0 Y_X9_added0 (sumL b n 5) 0 := fun im lm nm p f h h27 hnm => c_X9_added0 l G bt rt b n hb hT0 im lm nm p f h h27 hnm
  have hN0 : RT l G bt rt b n yX9_not0 Y_X9_not0 (denL b n 5) 0 := fun im lm nm p f h h27 hnm => c_X9_not0 l G bt rt b n hb hN1 hS0 im lm nm p f h h27 hnm
  have hB0 : RT l G bt rt b n yX9_both0 Y_X9_both0 (bothL b n 5) 0 := fun im lm nm p f h h27 hnm => c_X9_both0 l G bt rt b n hb hN0 im lm nm p f h h27 hnm
  have hE0 : RT l G bt rt b n yX9_either0 Y_X9_either0 (eitL b n 5) 0 := fun im lm nm p f h h27 hnm => c_X9_either0 l G bt rt b n hb hB0 im lm nm p f h h27 hnm
  exact ⟨hE0, hS0⟩
end
section
/-! the reference: a part -/
theorem ex_y {b : Nat → Int} {n p : Nat} {key f : Int} (hf : f = -1) (h : tk b n p = key) : stP (exP b n key) p f = (adv b n p, -1, [], fun _ => 0) := by
  subst hf
  rw [stP_y]
  unfold exP
  rw [if_pos h]
theorem ex_n {b : Nat → Int} {n p : Nat} {key f : Int} (h : ¬ (f = -1 ∧ tk b n p = key)) : (stP (exP b n key) p f).1 = p ∧ (stP (exP b n key) p f).2.1 = (if f = -1 then (p : Int) else f) := by
  by_cases hf : f = -1
  · subst hf
    rw [stP_y]
    unfold exP
    rw [if_neg (fun q => h ⟨rfl, q⟩), if_pos rfl]
    exact ⟨rfl, rfl⟩
  · rw [stP_n hf, if_neg hf]
    exact ⟨rfl, rfl⟩
theorem part_V {b : Nat → Int} {n p : Nat} {key f : Int} (hf : f = -1) (h1 : tk b n p = key) (h2 : (eitL b n 5 (adv b n p)).2.1 = -1) (h3 : tk b n (eitL b n 5 (adv b n p)).1 = 59) : (stP (partP b n key) p f).2.2.2 = (eitL b n 5 (adv b n p)).2.2.2 := by
  subst hf
  rw [stP_y]
  unfold partP
  rw [if_pos h1, if_pos h2, if_pos h3]

set_option maxHeartbeats 4000000 in
theorem c_X9_part (l : Launch) (G : GS)  (bt rt : Nat)  (b : Nat → Int) (n : Nat) (hb : byt b n) (hE : RT l G bt rt b n yX9_either0 Y_X9_either0 (eitL b n 5) 0) (key : Int) (hk1 : 4 ≤ key) (hk2 : key ≤ 6) (im lm : IM) (nm : Nat → Int) (p : Nat) (f : Int) (h : PQ b n im lm p f) (h27 : im 30 0 27 = ((0 : Nat) : Int)) (hnm : NMr im nm) (x0 : Int) (hx0 : (x0 = 1 ∧ (f = -1 ∧ tk b n p = key)) ∨ (x0 = 0 ∧ ¬ (f = -1 ∧ tk b n p = key))) : Cn l (XR G) yX9_part Y_X9_part [vR 30 0, vI x0] (im, rs bt rt, lm) (pI fun x m' => ∃ im' lm', RPO b n im lm nm (stP (partP b n key) p f) x im' lm' ∧ m' = (im', rs bt rt, lm')) := by
  refine cn_of (by decide) (okR G) rfl (Nat.le_of_ble_eq_true rfl) ?_
  intro M ad hMl F
  subst hMl
  have hn := hb.1
  have hR := h.2.1
  have hx01 : ri x0 := by rcases hx0 with q | q <;> rw [q.1] <;> constructor <;> omega
  have hpe := part_eq b n key p f
  refine wp_pad 1 ?_
  show Wp M (XR G) ad Y_X9_part (pI fun x m' => ∃ im' lm', RPO b n im lm nm (stP (partP b n key) p f) x im' lm' ∧ m' = (im', rs bt rt, lm')) 0 [some (vR 30 0), some (vI x0), none] [] (im, rs bt rt, lm)
  have T59 : ∀ (x : Int) (im1 lm1 : IM), RPO b n im lm nm (stP (partP b n key) p f) x im1 lm1 → Wp M (XR G) ad Y_X9_part (pI fun x m' => ∃ im' lm', RPO b n im lm nm (stP (partP b n key) p f) x im' lm' ∧ m' = (im', rs bt rt, lm')) 59 [some (vR 30 0), some (vI x0), some (vI x)] [] (im1, rs bt rt, lm1) := by
    intro x im1 lm1 hr
    refine q_iload_n (t := 60) F dX9_part_59 rfl rfl rfl ?_
    refine q_iret F dX9_part_60 rfl ?_
    exact ⟨x, rfl, im1, lm1, hr, rfl⟩
  have T48 : ∀ (x f8 : Int) (im1 lm1 : IM), ri x → PQ b n im1 lm1 (stP (eitL b n 5) (stP (exP b n key) p f).1 (stP (exP b n key) p f).2.1).1 f8 → agQ im1 im → lgQ lm1 lm → (f8 = -1 → (stP (eitL b n 5) (stP (exP b n key) p f).1 (stP (exP b n key) p f).2.1).2.1 = -1 ∧ tk b n (stP (eitL b n 5) (stP (exP b n key) p f).1 (stP (exP b n key) p f).2.1).1 = 59 ∧ x = (stP (eitL b n 5) (stP (exP b n key) p f).1 (stP (exP b n key) p f).2.1).2.2.2 nm) → (f8 ≠ -1 → (stP (exP b n 59) (stP (eitL b n 5) (stP (exP b n key) p f).1 (stP (exP b n key) p f).2.1).1 (stP (eitL b n 5) (stP (exP b n key) p f).1 (stP (exP b n key) p f).2.1).2.1).1 = (stP (eitL b n 5) (stP (exP b n key) p f).1 (stP (exP b n key) p f).2.1).1 ∧ (stP (exP b n 59) (stP (eitL b n 5) (stP (exP b n key) p f).1 (stP (exP b n key) p f).2.1).1 (stP (eitL b n 5) (stP (exP b n key) p f).1 (stP (exP b n key) p f).2.1).2.1).2.1 = f8) → Wp M (XR G) ad Y_X9_part (pI fun x m' => ∃ im' lm', RPO b n im lm nm (stP (partP b n key) p f) x im' lm' ∧ m' = (im', rs bt rt, lm')) 48 [some (vR 30 0), some (vI x0), some (vI x)] [] (im1, rs bt rt, lm1) := by
    intro x f8 im1 lm1 hrx h8 hag hlg hy8 hn8
    have hb8 := h8.b01
    refine q_aload_n (t := 49) F dX9_part_48 rfl rfl rfl ?_
    refine g_X9_179 (t := 52) F dX9_part_49 rfl rfl ?_
    refine q_if_ne (t := 55) (u := 59) F dX9_part_52 (by exact h8.2.1 _ _ _) (by decide) rfl (fun c52 => ?_) (fun c52 => ?_)
    · have hne : f8 ≠ -1 := by omega
      have e := hn8 hne
      refine T59 x im1 lm1 ⟨hrx, ?_, hag, hlg, fun q => ?_⟩
      · rw [hpe.1, hpe.2.1, e.1, e.2]; exact h8
      · rw [hpe.2.1, e.2] at q
        exact absurd q hne
    · have hf8 : f8 = -1 := by omega
      have hq8 := (hy8 hf8).2.1
      have hlt : (stP (eitL b n 5) (stP (exP b n key) p f).1 (stP (exP b n key) p f).2.1).1 < n := tk_lt (b := b) (by omega)
      have h88 := h8
      rw [hf8] at h88
      refine q_aload_n (t := 56) F dX9_part_55 rfl rfl rfl ?_
      refine wp_callV (t := 59) [] F dX9_part_56 k_X9_next v_X9_next ml_X9_196 rfl rfl rfl rfl (Nat.le_of_ble_eq_true rfl) (by decide) (m_30 (by omega)) (c_nextQ _ G im1 bt rt lm1 b n hb (stP (eitL b n 5) (stP (exP b n key) p f).1 (stP (exP b n key) p f).2.1).1 h88 hlt (by omega)) rfl (kV ?_)
      rintro m' ⟨im5, lm5, h5, hag5, hlg5, rfl⟩
      have e := hy8 hf8
      have e3 : (stP (exP b n 59) (stP (eitL b n 5) (stP (exP b n key) p f).1 (stP (exP b n key) p f).2.1).1 (stP (eitL b n 5) (stP (exP b n key) p f).1 (stP (exP b n key) p f).2.1).2.1) = (adv b n (stP (eitL b n 5) (stP (exP b n key) p f).1 (stP (exP b n key) p f).2.1).1, -1, [], fun _ => 0) := ex_y e.1 e.2.1
      refine T59 x im5 lm5 ⟨hrx, ?_, hag5.trans hag, hlg5.trans hlg, fun q => ?_⟩
      · rw [hpe.1, hpe.2.1, e3]; exact h5
      · have e4 := hpe.2.2 (by rw [e3])
        have hk : f = -1 ∧ tk b n p = key := by
          by_cases hc : f = -1 ∧ tk b n p = key
          · exact hc
          · exfalso
            have e5 := (ex_n hc).2
            have e6 := e4.2.1
            rw [e5] at e6
            split at e6
            · omega
            · exact absurd e6 (by assumption)
        have e1 := ex_y hk.1 hk.2
        have e7 : (stP (eitL b n 5) (stP (exP b n key) p f).1 (stP (exP b n key) p f).2.1) = eitL b n 5 (adv b n p) := by rw [e1, stP_y]
        rw [e7] at e
        rw [part_V hk.1 hk.2 e.1 e.2.1]
        exact e.2.2
  have T35 : ∀ (x : Int) (im1 lm1 : IM), RPO b n im lm nm (stP (eitL b n 5) (stP (exP b n key) p f).1 (stP (exP b n key) p f).2.1) x im1 lm1 → Wp M (XR G) ad Y_X9_part (pI fun x m' => ∃ im' lm', RPO b n im lm nm (stP (partP b n key) p f) x im' lm' ∧ m' = (im', rs bt rt, lm')) 35 [some (vR 30 0), some (vI x0), some (vI x)] [] (im1, rs bt rt, lm1) := by
    intro x im1 lm1 hr
    have hti := tk_in b n (stP (eitL b n 5) (stP (exP b n key) p f).1 (stP (exP b n key) p f).2.1).1
    refine q_aload_n (t := 36) F dX9_part_35 rfl rfl rfl ?_
    refine q_bipush (t := 38) F dX9_part_36 (by decide) rfl ?_
    refine wp_callV (t := 41) [_] F dX9_part_38 k_X9_isSign v_X9_isSign ml_X9_220 rfl rfl rfl rfl (Nat.le_of_ble_eq_true rfl) (by decide) (m_30 (by omega)) (c_X9_isSign _ G im1 bt rt lm1 b n hb (stP (eitL b n 5) (stP (exP b n key) p f).1 (stP (exP b n key) p f).2.1).1 (stP (eitL b n 5) (stP (exP b n key) p f).1 (stP (exP b n key) p f).2.1).2.1 hr.2.1 59 (by omega) (by omega)) rfl (kI ?_)
    rintro x38 m' ⟨hx38, rfl⟩
    have hx38 := if01 hx38
    refine q_if_ne (t := 44) (u := 48) F dX9_part_41 (by first | exact hR _ _ _ | (constructor <;> omega)) (by decide) rfl (fun c41 => ?_) (fun c41 => ?_)
    · have hq : (stP (eitL b n 5) (stP (exP b n key) p f).1 (stP (exP b n key) p f).2.1).2.1 = -1 ∧ tk b n (stP (eitL b n 5) (stP (exP b n key) p f).1 (stP (exP b n key) p f).2.1).1 = 59 := by omega
      have h22 := hr.2.1
      rw [hq.1] at h22
      exact T48 x (-1) im1 lm1 hr.1 h22 hr.2.2.1 hr.2.2.2.1 (fun _ => ⟨hq.1, hq.2, hr.2.2.2.2 hq.1⟩) (fun q => absurd rfl q)
    · refine q_aload_n (t := 45) F dX9_part_44 rfl rfl rfl ?_
      refine wp_callV (t := 48) [] F dX9_part_45 k_X9_fail v_X9_fail ml_X9_193 rfl rfl rfl rfl (Nat.le_of_ble_eq_true rfl) (by decide) (m_30 (by omega)) (c_failQ _ G im1 bt rt lm1 b n (stP (eitL b n 5) (stP (exP b n key) p f).1 (stP (exP b n key) p f).2.1).1 (stP (eitL b n 5) (stP (exP b n key) p f).1 (stP (exP b n key) p f).2.1).2.1 hr.2.1) rfl (kV ?_)
      rintro m' ⟨im9, h9, hag9, rfl⟩
      have hq : ¬ ((stP (eitL b n 5) (stP (exP b n key) p f).1 (stP (exP b n key) p f).2.1).2.1 = -1 ∧ tk b n (stP (eitL b n 5) (stP (exP b n key) p f).1 (stP (exP b n key) p f).2.1).1 = 59) := by omega
      have e := ex_n (b := b) (n := n) (p := (stP (eitL b n 5) (stP (exP b n key) p f).1 (stP (exP b n key) p f).2.1).1) (key := 59) (f := (stP (eitL b n 5) (stP (exP b n key) p f).1 (stP (exP b n key) p f).2.1).2.1) hq
      refine T48 x (if (stP (eitL b n 5) (stP (exP b n key) p f).1 (stP (exP b n key) p f).2.1).2.1 = -1 then ((stP (eitL b n 5) (stP (exP b n key) p f).1 (stP (exP b n key) p f).2.1).1 : Int) else (stP (eitL b n 5) (stP (exP b n key) p f).1 (stP (exP b n key) p f).2.1).2.1) im9 lm1 hr.1 h9 (hag9.trans hr.2.2.1) hr.2.2.2.1 (fun q => ?_) (fun _ => e)
      split at q <;> omega
  have T19 : ∀ (im1 lm1 : IM), PQ b n im1 lm1 (stP (exP b n key) p f).1 (stP (exP b n key) p f).2.1 → agQ im1 im → lgQ lm1 lm → Wp M (XR G) ad Y_X9_part (pI fun x m' => ∃ im' lm', RPO b n im lm nm (stP (partP b n key) p f) x im' lm' ∧ m' = (im', rs bt rt, lm')) 19 [some (vR 30 0), some (vI x0), none] [] (im1, rs bt rt, lm1) := by
    intro im1 lm1 h1 hag hlg
    have hb1 := h1.b01
    have hR1 := h1.2.1
    refine q_aload_n (t := 20) F dX9_part_19 rfl rfl rfl ?_
    refine g_X9_179 (t := 23) F dX9_part_20 rfl rfl ?_
    refine q_if_eq (t := 26) (u := 30) F dX9_part_23 (by exact hR1 _ _ _) (by decide) rfl (fun c23 => ?_) (fun c23 => ?_)
    · refine q_aload_n (t := 31) F dX9_part_30 rfl rfl rfl ?_
      refine wp_callV (t := 34) [] F dX9_part_31 k_X9_either0 v_X9_either0 ml_X9_340 rfl rfl rfl rfl (Nat.le_of_ble_eq_true rfl) (by decide) (m_30 (by omega)) (hE im1 lm1 nm (stP (exP b n key) p f).1 (stP (exP b n key) p f).2.1 h1 ((hag 30 0 27 (by omega)).trans h27) (hnm.ag hag)) rfl (kI ?_)
      rintro x31 m' ⟨im4, lm4, h4, rfl⟩
      refine q_istore_n (t := 35) F dX9_part_34 rfl (by decide) rfl rfl ?_
      first
        | (have hne : (stP (exP b n key) p f).2.1 ≠ -1 := by omega
           refine T35 0 im1 lm1 ⟨by constructor <;> omega, ?_, hag, hlg, fun q => ?_⟩
           · rw [stP_n hne]; exact h1
           · rw [stP_n hne] at q; exact absurd q hne)
        | exact T35 x31 im4 lm4 ⟨h4.1, h4.2.1, h4.2.2.1.trans hag, h4.2.2.2.1.trans hlg, h4.2.2.2.2⟩
    · refine q_iconst (t := 27) F dX9_part_26 rfl ?_
      refine q_goto (t := 34) F dX9_part_27 (by decide) ?_
      refine q_istore_n (t := 35) F dX9_part_34 rfl (by decide) rfl rfl ?_
      first
        | (have hne : (stP (exP b n key) p f).2.1 ≠ -1 := by omega
           refine T35 0 im1 lm1 ⟨by constructor <;> omega, ?_, hag, hlg, fun q => ?_⟩
           · rw [stP_n hne]; exact h1
           · rw [stP_n hne] at q; exact absurd q hne)
        | exact T35 x31 im4 lm4 ⟨h4.1, h4.2.1, h4.2.2.1.trans hag, h4.2.2.2.1.trans hlg, h4.2.2.2.2⟩
  have T8 : ∀ (f8 : Int) (im1 : IM), PQ b n im1 lm p f8 → agQ im1 im → (f8 = -1 → f = -1 ∧ tk b n p = key) → (f8 ≠ -1 → (stP (exP b n key) p f).1 = p ∧ (stP (exP b n key) p f).2.1 = f8) → Wp M (XR G) ad Y_X9_part (pI fun x m' => ∃ im' lm', RPO b n im lm nm (stP (partP b n key) p f) x im' lm' ∧ m' = (im', rs bt rt, lm')) 8 [some (vR 30 0), some (vI x0), none] [] (im1, rs bt rt, lm) := by
    intro f8 im1 h8 hag hy8 hn8
    have hb8 := h8.b01
    have hR8 := h8.2.1
    refine q_aload_n (t := 9) F dX9_part_8 rfl rfl rfl ?_
    refine g_X9_179 (t := 12) F dX9_part_9 rfl rfl ?_
    refine q_if_ne (t := 15) (u := 19) F dX9_part_12 (by exact h8.2.1 _ _ _) (by decide) rfl (fun c12 => ?_) (fun c12 => ?_)
    · have hne : f8 ≠ -1 := by omega
      have e := hn8 hne
      exact T19 im1 lm (by rw [e.1, e.2]; exact h8) hag (lgQ_rfl lm)
    · have hf8 : f8 = -1 := by omega
      have hq8 := (hy8 hf8).2
      have hlt : p < n := tk_lt (b := b) (by omega)
      have h88 := h8
      rw [hf8] at h88
      refine q_aload_n (t := 16) F dX9_part_15 rfl rfl rfl ?_
      refine wp_callV (t := 19) [] F dX9_part_16 k_X9_next v_X9_next ml_X9_196 rfl rfl rfl rfl (Nat.le_of_ble_eq_true rfl) (by decide) (m_30 (by omega)) (c_nextQ _ G im1 bt rt lm b n hb p h88 hlt (by omega)) rfl (kV ?_)
      rintro m' ⟨im5, lm5, h5, hag5, hlg5, rfl⟩
      have e := hy8 hf8
      exact T19 im5 lm5 (by rw [ex_y e.1 e.2]; exact h5) (hag5.trans hag) hlg5
  refine q_iload_n (t := 1) F dX9_part_0 rfl rfl rfl ?_
  refine q_if_ne (t := 4) (u := 8) F dX9_part_1 (by exact hx01) (by decide) rfl (fun c1 => ?_) (fun c1 => ?_)
  · have hq : f = -1 ∧ tk b n p = key := by omega
    exact T8 f im h (agQ_rfl im) (fun _ => hq) (fun q => absurd hq.1 q)
  · refine q_aload_n (t := 5) F dX9_part_4 rfl rfl rfl ?_
    refine wp_callV (t := 8) [] F dX9_part_5 k_X9_fail v_X9_fail ml_X9_193 rfl rfl rfl rfl (Nat.le_of_ble_eq_true rfl) (by decide) (m_30 (by omega)) (c_failQ _ G im bt rt lm b n p f h) rfl (kV ?_)
    rintro m' ⟨im9, h9, hag9, rfl⟩
    have hq : ¬ (f = -1 ∧ tk b n p = key) := by omega
    refine T8 (if f = -1 then (p : Int) else f) im9 h9 hag9 (fun q => ?_) (fun _ => ex_n hq)
    split at q <;> omega
end
section
/-! the reference reads a text -/
def agZ (a b : IM) : Prop := ∀ k i s, ¬ (k = 30 ∧ 21 ≤ s ∧ s ≤ 29) → a k i s = b k i s
theorem agZ.trans {a b c : IM} (h : agZ a b) (h2 : agZ b c) : agZ a c := fun k i s hs => (h k i s hs).trans (h2 k i s hs)
theorem agQ.Z {a b : IM} (h : agQ a b) : agZ a b := fun k i s hs => h k i s (by omega)
theorem NMr.agZ {im im' : IM} {nm : Nat → Int} (h : NMr im nm) (ha : agZ im' im) : NMr im' nm := fun i hi => (ha 30 0 (15 + i) (by omega)).trans (h i hi)
/-- where it begins -/
def rdI (im : IM) (t n : Nat) : IM := up (up (up (up (up im 30 0 21 ((160 * t : Nat) : Int)) 30 0 22 (n : Int)) 30 0 23 0) 30 0 27 0) 30 0 28 0
theorem rdI_f {im : IM} {t n : Nat} {b : Nat → Int} (hR : RI im) (ht : t < 6) (hn : n ≤ 160) (h31 : ∀ i, i < 160 → im 31 0 (160 * t + i) = b i) : RI (rdI im t n) ∧ BRr b n (rdI im t n) ∧ rdI im t n 30 0 23 = ((0 : Nat) : Int) ∧ rdI im t n 30 0 27 = ((0 : Nat) : Int) ∧ rdI im t n 30 0 28 = 0 ∧ agZ (rdI im t n) im := by
  refine ⟨RI_up (RI_up (RI_up (RI_up (RI_up hR (by constructor <;> omega)) (by constructor <;> omega)) (by constructor <;> omega)) (by constructor <;> omega)) (by constructor <;> omega), ⟨rfl, t, ht, rfl, fun i hi => ?_⟩, rfl, rfl, rfl, fun k i s hs => ?_⟩
  · exact h31 i hi
  · unfold rdI
    rw [up_app, if_neg (by omega), up_app, if_neg (by omega), up_app, if_neg (by omega), up_app, if_neg (by omega), up_app, if_neg (by omega)]
/-- what was read so far -/
def RRd (b : Nat → Int) (n : Nat) (im lm : IM) (nm : Nat → Int) (k : Nat) (x : Int) (im1 lm1 : IM) : Prop := ri x ∧ PQ b n im1 lm1 (rdk b n k).1 (rdk b n k).2.1 ∧ agZ im1 im ∧ im1 30 0 27 = ((0 : Nat) : Int) ∧ lgQ lm1 lm ∧ ((rdk b n k).2.1 = -1 → x = (rdk b n k).2.2.2 nm)
theorem RRd_s {b : Nat → Int} {n : Nat} {im lm im1 lm1 im2 lm2 : IM} {nm : Nat → Int} {k : Nat} {x y : Int} (h : RRd b n im lm nm k x im1 lm1) (h2 : RPO b n im1 lm1 nm (rdk b n (k + 1)) y im2 lm2) : RRd b n im lm nm (k + 1) y im2 lm2 := ⟨h2.1, h2.2.1, h2.2.2.1.Z.trans h.2.2.1, (h2.2.2.1 30 0 27 (by omega)).trans h.2.2.2.1, h2.2.2.2.1.trans h.2.2.2.2.1, h2.2.2.2.2⟩
theorem rdk_bad {b : Nat → Int} {n k : Nat} (h : (rdk b n k).2.1 ≠ -1) : (rdk b n (k + 1)).1 = (rdk b n k).1 ∧ (rdk b n (k + 1)).2.1 = (rdk b n k).2.1 := by
  show (stP _ _ _).1 = _ ∧ (stP _ _ _).2.1 = _
  rw [stP_n h]
  exact ⟨rfl, rfl⟩
theorem RRd_b {b : Nat → Int} {n : Nat} {im lm im1 lm1 : IM} {nm : Nat → Int} {k : Nat} {x : Int} (h : RRd b n im lm nm k x im1 lm1) (hb : (rdk b n k).2.1 ≠ -1) : RRd b n im lm nm (k + 1) 0 im1 lm1 := by
  have e := rdk_bad hb
  refine ⟨by constructor <;> omega, by rw [e.1, e.2]; exact h.2.1, h.2.2.1, h.2.2.2.1, h.2.2.2.2.1, fun q => ?_⟩
  rw [e.2] at q
  exact absurd q hb
theorem c_nextS (l : Launch) (G : GS) (im0 : IM) (bt rt : Nat) (lm : IM) (b : Nat → Int) (n : Nat) (hb : byt b n) (hR : RI im0) (hB : BRr b n im0) (h23 : im0 30 0 23 = ((0 : Nat) : Int)) (h27 : im0 30 0 27 = ((0 : Nat) : Int)) (h28 : im0 30 0 28 = 0) (nm : Nat → Int) (im : IM) (ha : agZ im0 im) : Cn l (XR G) yX9_next Y_X9_next [vR 30 0] (im0, rs bt rt, lm) (pV fun m' => ∃ im' lm', RRd b n im lm nm 0 0 im' lm' ∧ m' = (im', rs bt rt, lm')) := by
  refine (c_X9_next l G im0 bt rt lm b n hb hR hB 0 (by omega) h23).mono (fun r m' hq => ?_)
  obtain ⟨hr, im', lm', hR', hT', h25, hag, hlg, hm⟩ := hq
  have hs := span_in isW b n _ 0 rfl
  have e28 : im' 30 0 28 = 0 := (hag 30 0 28 (by omega)).trans h28
  refine ⟨hr, im', lm', ⟨by constructor <;> omega, ⟨⟨fun _ => ⟨e28, h25, hT'⟩, fun q => absurd rfl q⟩, hR', BRr_agN hB hag, hs.2 (by omega), Or.inl e28⟩, ?_, (hag 30 0 27 (by omega)).trans h27, hlg, fun _ => rfl⟩, hm⟩
  intro k i s hk
  exact (hag k i s (by omega)).trans (ha k i s hk)

set_option maxHeartbeats 4000000 in
theorem c_X9_read (l : Launch) (G : GS)  (bt rt : Nat)  (b : Nat → Int) (n : Nat) (hb : byt b n) (hE : RT l G bt rt b n yX9_either0 Y_X9_either0 (eitL b n 5) 0) (im lm : IM) (hR : RI im) (t : Nat) (ht : t < 6) (h32 : im 32 0 t = n) (h31 : ∀ i, i < 160 → im 31 0 (160 * t + i) = b i) (nm : Nat → Int) (hnm : NMr im nm) (w : Int) (hw : ri w) : Cn l (XR G) yX9_read Y_X9_read [vR 30 0, vI (t : Int), vI w] (im, rs bt rt, lm) (pI fun x m' => ∃ im' lm', ri x ∧ RI im' ∧ agZ im' im ∧ lgQ lm' lm ∧ (rdF b n = -1 → im' 30 0 28 = 0 ∧ (w = 0 → x = valT b n 0 nm) ∧ (w = 1 → x = valT b n 1 nm) ∧ (w ≠ 0 → w ≠ 1 → x = valT b n 2 nm)) ∧ (rdF b n ≠ -1 → im' 30 0 28 = 1 ∧ im' 30 0 29 = rdF b n) ∧ m' = (im', rs bt rt, lm')) := by
  refine cn_of (by decide) (okR G) rfl (Nat.le_of_ble_eq_true rfl) ?_
  intro M ad hMl F
  subst hMl
  have hn := hb.1
  have hF := rdF_eq b n
  refine wp_pad 3 ?_
  show Wp M (XR G) ad Y_X9_read (pI fun x m' => ∃ im' lm', ri x ∧ RI im' ∧ agZ im' im ∧ lgQ lm' lm ∧ (rdF b n = -1 → im' 30 0 28 = 0 ∧ (w = 0 → x = valT b n 0 nm) ∧ (w = 1 → x = valT b n 1 nm) ∧ (w ≠ 0 → w ≠ 1 → x = valT b n 2 nm)) ∧ (rdF b n ≠ -1 → im' 30 0 28 = 1 ∧ im' 30 0 29 = rdF b n) ∧ m' = (im', rs bt rt, lm')) 0 [some (vR 30 0), some (vI (t : Int)), some (vI w), none, none, none] [] (im, rs bt rt, lm)
  have T148 : ∀ (x3 x4 x5 : Int) (im1 lm1 : IM), ri x3 → ri x4 → ri x5 → RI im1 → agZ im1 im → lgQ lm1 lm → (rdF b n = -1 → im1 30 0 28 = 0 ∧ x3 = valT b n 0 nm ∧ x4 = valT b n 1 nm ∧ x5 = valT b n 2 nm) → (rdF b n ≠ -1 → im1 30 0 28 = 1 ∧ im1 30 0 29 = rdF b n) → Wp M (XR G) ad Y_X9_read (pI fun x m' => ∃ im' lm', ri x ∧ RI im' ∧ agZ im' im ∧ lgQ lm' lm ∧ (rdF b n = -1 → im' 30 0 28 = 0 ∧ (w = 0 → x = valT b n 0 nm) ∧ (w = 1 → x = valT b n 1 nm) ∧ (w ≠ 0 → w ≠ 1 → x = valT b n 2 nm)) ∧ (rdF b n ≠ -1 → im' 30 0 28 = 1 ∧ im' 30 0 29 = rdF b n) ∧ m' = (im', rs bt rt, lm')) 148 [some (vR 30 0), some (vI (t : Int)), some (vI w), some (vI x3), some (vI x4), some (vI x5)] [] (im1, rs bt rt, lm1) := by
    intro x3 x4 x5 im1 lm1 hr3 hr4 hr5 hR1 hag hlg hy hn1
    refine q_iload_n (t := 149) F dX9_read_148 rfl rfl rfl ?_
    refine q_if_ne (t := 152) (u := 156) F dX9_read_149 (by exact hw) (by decide) rfl (fun c149 => ?_) (fun c149 => ?_)
    · refine q_iload_n (t := 157) F dX9_read_156 rfl rfl rfl ?_
      refine q_iconst (t := 158) F dX9_read_157 rfl ?_
      refine q_icmp_ne (t := 161) (u := 166) F dX9_read_158 (by exact hw) (by constructor <;> omega) (by decide) rfl (fun c158 => ?_) (fun c158 => ?_)
      · refine q_iload (t := 168) F dX9_read_166 rfl rfl ?_
        refine q_iret F dX9_read_168 rfl ?_
        first
          | exact ⟨_, rfl, im1, lm1, hr3, hR1, hag, hlg, fun q => ⟨(hy q).1, fun _ => (hy q).2.1, fun q2 => by omega, fun q2 => by omega⟩, hn1, rfl⟩
          | exact ⟨_, rfl, im1, lm1, hr4, hR1, hag, hlg, fun q => ⟨(hy q).1, fun q2 => by omega, fun _ => (hy q).2.2.1, fun _ q2 => by omega⟩, hn1, rfl⟩
          | exact ⟨_, rfl, im1, lm1, hr5, hR1, hag, hlg, fun q => ⟨(hy q).1, fun q2 => by omega, fun q2 => by omega, fun _ _ => (hy q).2.2.2⟩, hn1, rfl⟩
      · refine q_iload (t := 163) F dX9_read_161 rfl rfl ?_
        refine q_goto (t := 168) F dX9_read_163 (by decide) ?_
        refine q_iret F dX9_read_168 rfl ?_
        first
          | exact ⟨_, rfl, im1, lm1, hr3, hR1, hag, hlg, fun q => ⟨(hy q).1, fun _ => (hy q).2.1, fun q2 => by omega, fun q2 => by omega⟩, hn1, rfl⟩
          | exact ⟨_, rfl, im1, lm1, hr4, hR1, hag, hlg, fun q => ⟨(hy q).1, fun q2 => by omega, fun _ => (hy q).2.2.1, fun _ q2 => by omega⟩, hn1, rfl⟩
          | exact ⟨_, rfl, im1, lm1, hr5, hR1, hag, hlg, fun q => ⟨(hy q).1, fun q2 => by omega, fun q2 => by omega, fun _ _ => (hy q).2.2.2⟩, hn1, rfl⟩
    · refine q_iload_n (t := 153) F dX9_read_152 rfl rfl rfl ?_
      refine q_goto (t := 168) F dX9_read_153 (by decide) ?_
      refine q_iret F dX9_read_168 rfl ?_
      first
        | exact ⟨_, rfl, im1, lm1, hr3, hR1, hag, hlg, fun q => ⟨(hy q).1, fun _ => (hy q).2.1, fun q2 => by omega, fun q2 => by omega⟩, hn1, rfl⟩
        | exact ⟨_, rfl, im1, lm1, hr4, hR1, hag, hlg, fun q => ⟨(hy q).1, fun q2 => by omega, fun _ => (hy q).2.2.1, fun _ q2 => by omega⟩, hn1, rfl⟩
        | exact ⟨_, rfl, im1, lm1, hr5, hR1, hag, hlg, fun q => ⟨(hy q).1, fun q2 => by omega, fun q2 => by omega, fun _ _ => (hy q).2.2.2⟩, hn1, rfl⟩
  have T130 : ∀ (x3 x4 x5 : Int) (im1 lm1 : IM), ((rdk b n 1).2.1 = -1 → x3 = (rdk b n 1).2.2.2 nm) → ri x3 → ((rdk b n 2).2.1 = -1 → x4 = (rdk b n 2).2.2.2 nm) → ri x4 → RRd b n im lm nm 3 x5 im1 lm1 → Wp M (XR G) ad Y_X9_read (pI fun x m' => ∃ im' lm', ri x ∧ RI im' ∧ agZ im' im ∧ lgQ lm' lm ∧ (rdF b n = -1 → im' 30 0 28 = 0 ∧ (w = 0 → x = valT b n 0 nm) ∧ (w = 1 → x = valT b n 1 nm) ∧ (w ≠ 0 → w ≠ 1 → x = valT b n 2 nm)) ∧ (rdF b n ≠ -1 → im' 30 0 28 = 1 ∧ im' 30 0 29 = rdF b n) ∧ m' = (im', rs bt rt, lm')) 130 [some (vR 30 0), some (vI (t : Int)), some (vI w), some (vI x3), some (vI x4), some (vI x5)] [] (im1, rs bt rt, lm1) := by
    intro x3 x4 x5 im1 lm1 hv3 hr3 hv4 hr4 h5
    have hb5 := h5.2.1.b01
    have hR5 := h5.2.1.2.1
    refine q_aload_n (t := 131) F dX9_read_130 rfl rfl rfl ?_
    refine g_X9_179 (t := 134) F dX9_read_131 rfl rfl ?_
    refine q_if_ne (t := 137) (u := 148) F dX9_read_134 (by exact hR5 _ _ _) (by decide) rfl (fun c134 => ?_) (fun c134 => ?_)
    · have hf : (rdk b n 3).2.1 ≠ -1 := by omega
      rw [if_neg hf] at hF
      exact T148 x3 x4 x5 im1 lm1 hr3 hr4 h5.1 h5.2.1.2.1 h5.2.2.1 h5.2.2.2.2.1 (fun q => absurd (hF.symm.trans q) hf) (fun _ => ⟨by omega, by omega⟩)
    · refine q_aload_n (t := 138) F dX9_read_137 rfl rfl rfl ?_
      refine g_X9_164 (t := 141) F dX9_read_138 rfl rfl ?_
      refine q_if_eq (t := 144) (u := 148) F dX9_read_141 (by exact hR5 _ _ _) (by decide) rfl (fun c141 => ?_) (fun c141 => ?_)
      · have hf : (rdk b n 3).2.1 = -1 := by omega
        have ht0 : tk b n (rdk b n 3).1 = 0 := (TK_word (h5.2.1.1.1 hf).2.2).2.mp (by omega)
        rw [if_pos hf, if_pos ht0] at hF
        exact T148 x3 x4 x5 im1 lm1 hr3 hr4 h5.1 h5.2.1.2.1 h5.2.2.1 h5.2.2.2.2.1 (fun q => ⟨by omega, hv3 (rdF_k hF 1 (by omega)), hv4 (rdF_k hF 2 (by omega)), h5.2.2.2.2.2 hf⟩) (fun q => absurd hF q)
      · refine q_aload_n (t := 145) F dX9_read_144 rfl rfl rfl ?_
        refine wp_callV (t := 148) [] F dX9_read_145 k_X9_fail v_X9_fail ml_X9_193 rfl rfl rfl rfl (Nat.le_of_ble_eq_true rfl) (by decide) (m_30 (by omega)) (c_failQ _ G im1 bt rt lm1 b n _ _ h5.2.1) rfl (kV ?_)
        rintro m' ⟨im9, h9, hag9, rfl⟩
        have hf : (rdk b n 3).2.1 = -1 := by omega
        have ht0 : tk b n (rdk b n 3).1 ≠ 0 := fun q => by have := (TK_word (h5.2.1.1.1 hf).2.2).2.mpr q; omega
        rw [if_pos hf, if_neg ht0] at hF
        rw [if_pos hf] at h9
        have hb9 := h9.b01
        exact T148 x3 x4 x5 im9 lm1 hr3 hr4 h5.1 h9.2.1 (hag9.Z.trans h5.2.2.1) h5.2.2.2.2.1 (fun q => by omega) (fun _ => ⟨by omega, by omega⟩)
  have T95 : ∀ (x3 x4 : Int) (im1 lm1 : IM), ((rdk b n 1).2.1 = -1 → x3 = (rdk b n 1).2.2.2 nm) → ri x3 → RRd b n im lm nm 2 x4 im1 lm1 → Wp M (XR G) ad Y_X9_read (pI fun x m' => ∃ im' lm', ri x ∧ RI im' ∧ agZ im' im ∧ lgQ lm' lm ∧ (rdF b n = -1 → im' 30 0 28 = 0 ∧ (w = 0 → x = valT b n 0 nm) ∧ (w = 1 → x = valT b n 1 nm) ∧ (w ≠ 0 → w ≠ 1 → x = valT b n 2 nm)) ∧ (rdF b n ≠ -1 → im' 30 0 28 = 1 ∧ im' 30 0 29 = rdF b n) ∧ m' = (im', rs bt rt, lm')) 95 [some (vR 30 0), some (vI (t : Int)), some (vI w), some (vI x3), some (vI x4), none] [] (im1, rs bt rt, lm1) := by
    intro x3 x4 im1 lm1 hv3 hr3 h4
    have hb4 := h4.2.1.b01
    have hR4 := h4.2.1.2.1
    refine q_aload_n (t := 96) F dX9_read_95 rfl rfl rfl ?_
    refine g_X9_179 (t := 99) F dX9_read_96 rfl rfl ?_
    refine q_if_eq (t := 102) (u := 106) F dX9_read_99 (by exact hR4 _ _ _) (by decide) rfl (fun c99 => ?_) (fun c99 => ?_)
    · refine q_aload_n (t := 107) F dX9_read_106 rfl rfl rfl ?_
      refine q_aload_n (t := 108) F dX9_read_107 rfl rfl rfl ?_
      refine q_bipush (t := 110) F dX9_read_108 (by decide) rfl ?_
      refine q_bipush (t := 112) F dX9_read_110 (by decide) rfl ?_
      refine q_bipush (t := 114) F dX9_read_112 (by decide) rfl ?_
      refine q_bipush (t := 116) F dX9_read_114 (by decide) rfl ?_
      refine q_bipush (t := 118) F dX9_read_116 (by decide) rfl ?_
      refine q_bipush (t := 120) F dX9_read_118 (by decide) rfl ?_
      refine q_iconst (t := 121) F dX9_read_120 rfl ?_
      refine q_iconst (t := 122) F dX9_read_121 rfl ?_
      refine wp_callV (t := 125) [_, _, _, _, _, _, _, _] F dX9_read_122 k_X9_isWord_ v_X9_isWord_ ml_X9_199 rfl rfl rfl rfl (Nat.le_of_ble_eq_true rfl) (by decide) (m_30 (by omega)) (c_isKey _ G im1 bt rt lm1 b n hb (rdk b n 2).1 (rdk b n 2).2.1 h4.2.1 8 (by omega) (by omega) 6 (by omega) _ _ _ _ _ _ _ _ (by decide)) rfl (kI ?_)
      rintro x122 m' ⟨hx122, rfl⟩
      have hx122 := if01 hx122
      refine wp_callV (t := 128) [_] F dX9_read_125 k_X9_part v_X9_part ml_X9_343 rfl rfl rfl rfl (Nat.le_of_ble_eq_true rfl) (by decide) (m_30 (by omega)) (c_X9_part _ G bt rt b n hb hE (4 + ((2 : Nat) : Int)) (by omega) (by omega) im1 lm1 nm _ _ h4.2.1 h4.2.2.2.1 (hnm.agZ h4.2.2.1) _ (by omega)) rfl (kI ?_)
      rintro y125 m' ⟨im3, lm3, h3, rfl⟩
      refine q_istore (t := 130) F dX9_read_128 (by decide) rfl rfl ?_
      first
        | exact T130 x3 x4 0 im1 lm1 hv3 hr3 h4.2.2.2.2.2 h4.1 (RRd_b h4 (by omega))
        | exact T130 x3 x4 y125 im3 lm3 hv3 hr3 h4.2.2.2.2.2 h4.1 (RRd_s h4 h3)
    · refine q_iconst (t := 103) F dX9_read_102 rfl ?_
      refine q_goto (t := 128) F dX9_read_103 (by decide) ?_
      refine q_istore (t := 130) F dX9_read_128 (by decide) rfl rfl ?_
      first
        | exact T130 x3 x4 0 im1 lm1 hv3 hr3 h4.2.2.2.2.2 h4.1 (RRd_b h4 (by omega))
        | exact T130 x3 x4 y125 im3 lm3 hv3 hr3 h4.2.2.2.2.2 h4.1 (RRd_s h4 h3)
  have T61 : ∀ (x3 : Int) (im1 lm1 : IM), RRd b n im lm nm 1 x3 im1 lm1 → Wp M (XR G) ad Y_X9_read (pI fun x m' => ∃ im' lm', ri x ∧ RI im' ∧ agZ im' im ∧ lgQ lm' lm ∧ (rdF b n = -1 → im' 30 0 28 = 0 ∧ (w = 0 → x = valT b n 0 nm) ∧ (w = 1 → x = valT b n 1 nm) ∧ (w ≠ 0 → w ≠ 1 → x = valT b n 2 nm)) ∧ (rdF b n ≠ -1 → im' 30 0 28 = 1 ∧ im' 30 0 29 = rdF b n) ∧ m' = (im', rs bt rt, lm')) 61 [some (vR 30 0), some (vI (t : Int)), some (vI w), some (vI x3), none, none] [] (im1, rs bt rt, lm1) := by
    intro x3 im1 lm1 h2
    have hb2 := h2.2.1.b01
    have hR2 := h2.2.1.2.1
    refine q_aload_n (t := 62) F dX9_read_61 rfl rfl rfl ?_
    refine g_X9_179 (t := 65) F dX9_read_62 rfl rfl ?_
    refine q_if_eq (t := 68) (u := 72) F dX9_read_65 (by exact hR2 _ _ _) (by decide) rfl (fun c65 => ?_) (fun c65 => ?_)
    · refine q_aload_n (t := 73) F dX9_read_72 rfl rfl rfl ?_
      refine q_aload_n (t := 74) F dX9_read_73 rfl rfl rfl ?_
      refine q_bipush (t := 76) F dX9_read_74 (by decide) rfl ?_
      refine q_bipush (t := 78) F dX9_read_76 (by decide) rfl ?_
      refine q_bipush (t := 80) F dX9_read_78 (by decide) rfl ?_
      refine q_bipush (t := 82) F dX9_read_80 (by decide) rfl ?_
      refine q_bipush (t := 84) F dX9_read_82 (by decide) rfl ?_
      refine q_iconst (t := 85) F dX9_read_84 rfl ?_
      refine q_iconst (t := 86) F dX9_read_85 rfl ?_
      refine q_iconst (t := 87) F dX9_read_86 rfl ?_
      refine wp_callV (t := 90) [_, _, _, _, _, _, _, _] F dX9_read_87 k_X9_isWord_ v_X9_isWord_ ml_X9_199 rfl rfl rfl rfl (Nat.le_of_ble_eq_true rfl) (by decide) (m_30 (by omega)) (c_isKey _ G im1 bt rt lm1 b n hb (rdk b n 1).1 (rdk b n 1).2.1 h2.2.1 7 (by omega) (by omega) 5 (by omega) _ _ _ _ _ _ _ _ (by decide)) rfl (kI ?_)
      rintro x87 m' ⟨hx87, rfl⟩
      have hx87 := if01 hx87
      refine wp_callV (t := 93) [_] F dX9_read_90 k_X9_part v_X9_part ml_X9_343 rfl rfl rfl rfl (Nat.le_of_ble_eq_true rfl) (by decide) (m_30 (by omega)) (c_X9_part _ G bt rt b n hb hE (4 + ((1 : Nat) : Int)) (by omega) (by omega) im1 lm1 nm _ _ h2.2.1 h2.2.2.2.1 (hnm.agZ h2.2.2.1) _ (by omega)) rfl (kI ?_)
      rintro y90 m' ⟨im3, lm3, h3, rfl⟩
      refine q_istore (t := 95) F dX9_read_93 (by decide) rfl rfl ?_
      first
        | exact T95 x3 0 im1 lm1 h2.2.2.2.2.2 h2.1 (RRd_b h2 (by omega))
        | exact T95 x3 y90 im3 lm3 h2.2.2.2.2.2 h2.1 (RRd_s h2 h3)
    · refine q_iconst (t := 69) F dX9_read_68 rfl ?_
      refine q_goto (t := 93) F dX9_read_69 (by decide) ?_
      refine q_istore (t := 95) F dX9_read_93 (by decide) rfl rfl ?_
      first
        | exact T95 x3 0 im1 lm1 h2.2.2.2.2.2 h2.1 (RRd_b h2 (by omega))
        | exact T95 x3 y90 im3 lm3 h2.2.2.2.2.2 h2.1 (RRd_s h2 h3)
  refine q_aload_n (t := 1) F dX9_read_0 rfl rfl rfl ?_
  refine q_sipush (t := 4) F dX9_read_1 (by decide) rfl ?_
  refine q_iload_n (t := 5) F dX9_read_4 rfl rfl rfl ?_
  refine q_imul (t := 6) F dX9_read_5 rfl ?_
  rw [show (160 : Int) * (t : Int) = ((160 * t : Nat) : Int) by omega]
  refine p_X9_152 (t := 9) F dX9_read_6 rfl rfl ?_
  refine q_aload_n (t := 10) F dX9_read_9 rfl rfl rfl ?_
  refine q_aload_n (t := 11) F dX9_read_10 rfl rfl rfl ?_
  refine g_X9_17 (t := 14) F dX9_read_11 rfl rfl ?_
  refine q_iload_n (t := 15) F dX9_read_14 rfl rfl rfl ?_
  first | refine ldN_32 (t := 16) F dX9_read_15 (by omega) rfl ?_ | refine ld_32 (t := 16) F dX9_read_15 (by omega) (by omega) rfl ?_
  try simp only [up_app, row_app, scr_app, cpy_app, Nat.reduceEqDiff, Int.reduceToNat, Int.toNat_natCast, and_true, true_and, and_false, false_and, and_self, reduceIte]
  rw [h32]
  refine p_X9_149 (t := 19) F dX9_read_16 rfl rfl ?_
  refine q_aload_n (t := 20) F dX9_read_19 rfl rfl rfl ?_
  refine q_iconst (t := 21) F dX9_read_20 rfl ?_
  refine p_X9_155 (t := 24) F dX9_read_21 rfl rfl ?_
  refine q_aload_n (t := 25) F dX9_read_24 rfl rfl rfl ?_
  refine q_iconst (t := 26) F dX9_read_25 rfl ?_
  refine p_X9_190 (t := 29) F dX9_read_26 rfl rfl ?_
  refine q_aload_n (t := 30) F dX9_read_29 rfl rfl rfl ?_
  refine q_iconst (t := 31) F dX9_read_30 rfl ?_
  refine p_X9_179 (t := 34) F dX9_read_31 rfl (by omega) rfl ?_
  obtain ⟨fR, fB, f23, f27, f28, fag⟩ := rdI_f hR ht hn h31
  refine q_aload_n (t := 35) F dX9_read_34 rfl rfl rfl ?_
  refine wp_callV (t := 38) [] F dX9_read_35 k_X9_next v_X9_next ml_X9_196 rfl rfl rfl rfl (Nat.le_of_ble_eq_true rfl) (by decide) (m_30 (by omega)) (c_nextS _ G (rdI im t n) bt rt lm b n hb fR fB f23 f27 f28 nm im fag) rfl (kV ?_)
  rintro m' ⟨im2, lm2, h0, rfl⟩
  have hb0 := h0.2.1.b01
  refine q_aload_n (t := 39) F dX9_read_38 rfl rfl rfl ?_
  refine q_aload_n (t := 40) F dX9_read_39 rfl rfl rfl ?_
  refine q_bipush (t := 42) F dX9_read_40 (by decide) rfl ?_
  refine q_bipush (t := 44) F dX9_read_42 (by decide) rfl ?_
  refine q_bipush (t := 46) F dX9_read_44 (by decide) rfl ?_
  refine q_bipush (t := 48) F dX9_read_46 (by decide) rfl ?_
  refine q_bipush (t := 50) F dX9_read_48 (by decide) rfl ?_
  refine q_bipush (t := 52) F dX9_read_50 (by decide) rfl ?_
  refine q_iconst (t := 53) F dX9_read_52 rfl ?_
  refine q_iconst (t := 54) F dX9_read_53 rfl ?_
  refine wp_callV (t := 57) [_, _, _, _, _, _, _, _] F dX9_read_54 k_X9_isWord_ v_X9_isWord_ ml_X9_199 rfl rfl rfl rfl (Nat.le_of_ble_eq_true rfl) (by decide) (m_30 (by omega)) (c_isKey _ G im2 bt rt lm2 b n hb (rdk b n 0).1 (rdk b n 0).2.1 h0.2.1 6 (by omega) (by omega) 4 (by omega) _ _ _ _ _ _ _ _ (by decide)) rfl (kI ?_)
  rintro x54 m' ⟨hx54, rfl⟩
  have hx54 := if01 hx54
  refine wp_callV (t := 60) [_] F dX9_read_57 k_X9_part v_X9_part ml_X9_343 rfl rfl rfl rfl (Nat.le_of_ble_eq_true rfl) (by decide) (m_30 (by omega)) (c_X9_part _ G bt rt b n hb hE (4 + ((0 : Nat) : Int)) (by omega) (by omega) im2 lm2 nm _ _ h0.2.1 h0.2.2.2.1 (hnm.agZ h0.2.2.1) _ (by omega)) rfl (kI ?_)
  rintro y57 m' ⟨im3, lm3, h3, rfl⟩
  refine q_istore_n (t := 61) F dX9_read_60 rfl (by decide) rfl rfl ?_
  exact T61 y57 im3 lm3 (RRd_s h0 h3)
end
section
/-! the reference asks a text -/
def nmA (w fd hr nb gp st : Int) : Nat → Int := fun i => if i = 0 then w else if i = 1 then fd else if i = 2 then hr else if i = 3 then nb else if i = 4 then gp else st
def agY (a b : IM) : Prop := ∀ k i s, ¬ (k = 30 ∧ 15 ≤ s ∧ s ≤ 29) → a k i s = b k i s
theorem agY_rfl (a : IM) : agY a a := fun _ _ _ _ => rfl
theorem agY.trans {a b c : IM} (h : agY a b) (h2 : agY b c) : agY a c := fun k i s hs => (h k i s hs).trans (h2 k i s hs)
/-- the names as they are asked -/
def asI (im : IM) (w fd hr nb gp st : Int) : IM := up (up (up (up (up (up im 30 0 15 w) 30 0 16 fd) 30 0 17 hr) 30 0 18 nb) 30 0 19 gp) 30 0 20 st
theorem asI_f {im : IM} {w fd hr nb gp st : Int} (hR : RI im) (h1 : ri w) (h2 : ri fd) (h3 : ri hr) (h4 : ri nb) (h5 : ri gp) (h6 : ri st) : RI (asI im w fd hr nb gp st) ∧ NMr (asI im w fd hr nb gp st) (nmA w fd hr nb gp st) ∧ agY (asI im w fd hr nb gp st) im := by
  refine ⟨RI_up (RI_up (RI_up (RI_up (RI_up (RI_up hR h1) h2) h3) h4) h5) h6, fun i hi => ?_, fun k i s hs => ?_⟩
  · rcases (show i = 0 ∨ i = 1 ∨ i = 2 ∨ i = 3 ∨ i = 4 ∨ i = 5 by omega) with rfl | rfl | rfl | rfl | rfl | rfl <;> rfl
  · unfold asI
    rw [up_app, if_neg (by omega), up_app, if_neg (by omega), up_app, if_neg (by omega), up_app, if_neg (by omega), up_app, if_neg (by omega), up_app, if_neg (by omega)]
/-- a text that stands in the reference's row -/
def ROW (b : Nat → Int) (n t : Nat) (im : IM) : Prop := byt b n ∧ t < 6 ∧ im 32 0 t = n ∧ ∀ i, i < 160 → im 31 0 (160 * t + i) = b i

set_option maxHeartbeats 4000000 in
theorem c_X9_within (l : Launch) (G : GS) (im : IM) (bt rt : Nat) (lm : IM) (v a c : Int) (hv : ri v) (ha : ri a) (hc : ri c) : Cn l (XR G) yX9_within Y_X9_within [vI v, vI a, vI c] (im, rs bt rt, lm) (pI fun x m' => x = (if v < a then a else if c < v then c else v) ∧ m' = (im, rs bt rt, lm)) := by
  refine cn_of (by decide) (okR G) rfl (Nat.le_of_ble_eq_true rfl) ?_
  intro M ad hMl F
  subst hMl
  refine wp_pad 0 ?_
  show Wp M (XR G) ad Y_X9_within (pI fun x m' => x = (if v < a then a else if c < v then c else v) ∧ m' = (im, rs bt rt, lm)) 0 [some (vI v), some (vI a), some (vI c)] [] (im, rs bt rt, lm)
  refine q_iload_n (t := 1) F dX9_within_0 rfl rfl rfl ?_
  refine q_iload_n (t := 2) F dX9_within_1 rfl rfl rfl ?_
  refine q_icmp_ge (t := 5) (u := 9) F dX9_within_2 (by exact hv) (by exact ha) (by decide) rfl (fun c2 => ?_) (fun c2 => ?_)
  · refine q_iload_n (t := 10) F dX9_within_9 rfl rfl rfl ?_
    refine q_iload_n (t := 11) F dX9_within_10 rfl rfl rfl ?_
    refine q_icmp_le (t := 14) (u := 18) F dX9_within_11 (by exact hv) (by exact hc) (by decide) rfl (fun c11 => ?_) (fun c11 => ?_)
    · refine q_iload_n (t := 19) F dX9_within_18 rfl rfl rfl ?_
      refine q_iret F dX9_within_19 rfl ?_
      refine ⟨_, rfl, ?_, rfl⟩
      refine Eq.symm ?_
      first
        | exact if_pos (by omega)
        | exact (if_neg (by omega)).trans (if_pos (by omega))
        | exact (if_neg (by omega)).trans (if_neg (by omega))
    · refine q_iload_n (t := 15) F dX9_within_14 rfl rfl rfl ?_
      refine q_goto (t := 19) F dX9_within_15 (by decide) ?_
      refine q_iret F dX9_within_19 rfl ?_
      refine ⟨_, rfl, ?_, rfl⟩
      refine Eq.symm ?_
      first
        | exact if_pos (by omega)
        | exact (if_neg (by omega)).trans (if_pos (by omega))
        | exact (if_neg (by omega)).trans (if_neg (by omega))
  · refine q_iload_n (t := 6) F dX9_within_5 rfl rfl rfl ?_
    refine q_goto (t := 19) F dX9_within_6 (by decide) ?_
    refine q_iret F dX9_within_19 rfl ?_
    refine ⟨_, rfl, ?_, rfl⟩
    refine Eq.symm ?_
    first
      | exact if_pos (by omega)
      | exact (if_neg (by omega)).trans (if_pos (by omega))
      | exact (if_neg (by omega)).trans (if_neg (by omega))

set_option maxHeartbeats 4000000 in
theorem c_X9_asks (l : Launch) (G : GS)  (bt rt : Nat)  (b : Nat → Int) (n : Nat) (im lm : IM) (hR : RI im) (t : Nat) (hT : ROW b n t im) (h4 : im 30 0 4 = t) (hF : rdF b n = -1) (wh p : Nat) (hwh : wh < 3) (hp : p < 5) (w fd gp st : Int) (hw : ri w) (hfd : ri fd) (hgp : ri gp) (hst : ri st) : Cn l (XR G) yX9_asks Y_X9_asks [vR 30 0, vI (wh : Int), vI (p : Int), vI w, vI fd, vI gp, vI st] (im, rs bt rt, lm) (pI fun x m' => ∃ im' lm', x = clip (valT b n wh (nmA w fd (im 30 0 7) (im 35 0 p) gp st)) ∧ RI im' ∧ agY im' im ∧ lgQ lm' lm ∧ m' = (im', rs bt rt, lm')) := by
  refine cn_of (by decide) (okR G) rfl (Nat.le_of_ble_eq_true rfl) ?_
  intro M ad hMl F
  subst hMl
  obtain ⟨hb, ht, h32, h31⟩ := hT
  obtain ⟨fR, fN, fag⟩ := asI_f hR hw hfd (hR 30 0 7) (hR 35 0 p) hgp hst
  refine wp_pad 0 ?_
  show Wp M (XR G) ad Y_X9_asks (pI fun x m' => ∃ im' lm', x = clip (valT b n wh (nmA w fd (im 30 0 7) (im 35 0 p) gp st)) ∧ RI im' ∧ agY im' im ∧ lgQ lm' lm ∧ m' = (im', rs bt rt, lm')) 0 [some (vR 30 0), some (vI (wh : Int)), some (vI (p : Int)), some (vI w), some (vI fd), some (vI gp), some (vI st)] [] (im, rs bt rt, lm)
  refine q_aload_n (t := 1) F dX9_asks_0 rfl rfl rfl ?_
  refine q_iload_n (t := 2) F dX9_asks_1 rfl rfl rfl ?_
  refine p_X9_202 (t := 5) F dX9_asks_2 rfl rfl ?_
  refine q_aload_n (t := 6) F dX9_asks_5 rfl rfl rfl ?_
  refine q_iload (t := 8) F dX9_asks_6 rfl rfl ?_
  refine p_X9_205 (t := 11) F dX9_asks_8 rfl rfl ?_
  refine q_aload_n (t := 12) F dX9_asks_11 rfl rfl rfl ?_
  refine q_aload_n (t := 13) F dX9_asks_12 rfl rfl rfl ?_
  refine g_X9_117 (t := 16) F dX9_asks_13 rfl rfl ?_
  try simp only [up_app, row_app, scr_app, cpy_app, Nat.reduceEqDiff, Int.reduceToNat, Int.toNat_natCast, and_true, true_and, and_false, false_and, and_self, reduceIte]
  refine p_X9_208 (t := 19) F dX9_asks_16 rfl rfl ?_
  refine q_aload_n (t := 20) F dX9_asks_19 rfl rfl rfl ?_
  refine q_aload_n (t := 21) F dX9_asks_20 rfl rfl rfl ?_
  refine g_X9_29 (t := 24) F dX9_asks_21 rfl rfl ?_
  refine q_iload_n (t := 25) F dX9_asks_24 rfl rfl rfl ?_
  first | refine ldN_35 (t := 26) F dX9_asks_25 (by omega) rfl ?_ | refine ld_35 (t := 26) F dX9_asks_25 (by omega) (by omega) rfl ?_
  try simp only [up_app, row_app, scr_app, cpy_app, Nat.reduceEqDiff, Int.reduceToNat, Int.toNat_natCast, and_true, true_and, and_false, false_and, and_self, reduceIte]
  refine p_X9_211 (t := 29) F dX9_asks_26 rfl rfl ?_
  refine q_aload_n (t := 30) F dX9_asks_29 rfl rfl rfl ?_
  refine q_iload (t := 32) F dX9_asks_30 rfl rfl ?_
  refine p_X9_214 (t := 35) F dX9_asks_32 rfl rfl ?_
  refine q_aload_n (t := 36) F dX9_asks_35 rfl rfl rfl ?_
  refine q_iload (t := 38) F dX9_asks_36 rfl rfl ?_
  refine p_X9_217 (t := 41) F dX9_asks_38 rfl rfl ?_
  refine q_aload_n (t := 42) F dX9_asks_41 rfl rfl rfl ?_
  refine q_aload_n (t := 43) F dX9_asks_42 rfl rfl rfl ?_
  refine g_X9_120 (t := 46) F dX9_asks_43 rfl rfl ?_
  try simp only [up_app, row_app, scr_app, cpy_app, Nat.reduceEqDiff, Int.reduceToNat, Int.toNat_natCast, and_true, true_and, and_false, false_and, and_self, reduceIte]
  rw [h4]
  refine q_iload_n (t := 47) F dX9_asks_46 rfl rfl rfl ?_
  refine wp_callV (t := 50) [_, _] F dX9_asks_47 k_X9_read v_X9_read ml_X9_347 rfl rfl rfl rfl (Nat.le_of_ble_eq_true rfl) (by decide) (m_30 (by omega)) (c_X9_read _ G bt rt b n hb ((c_gramR _ G bt rt b n hb).1) (asI im w fd (im 30 0 7) (im 35 0 p) gp st) lm fR t ht h32 h31 (nmA w fd (im 30 0 7) (im 35 0 p) gp st) fN (wh : Int) (by constructor <;> omega)) rfl (kI ?_)
  rintro x47 m' ⟨im2, lm2, hrx, hR2, hag2, hlg2, hy2, -, rfl⟩
  have hy2 := hy2 hF
  have hx : x47 = valT b n wh (nmA w fd (im 30 0 7) (im 35 0 p) gp st) := by
    rcases (show wh = 0 ∨ wh = 1 ∨ wh = 2 by omega) with rfl | rfl | rfl
    · exact hy2.2.1 rfl
    · exact hy2.2.2.1 rfl
    · exact hy2.2.2.2 (by omega) (by omega)
  have hagY : agY im2 im := fun k i s hs => (hag2 k i s (by omega)).trans (fag k i s hs)
  refine q_iconst (t := 51) F dX9_asks_50 rfl ?_
  refine q_bipush (t := 53) F dX9_asks_51 (by decide) rfl ?_
  refine wp_callS (t := 56) [_, _, _] F dX9_asks_53 k_X9_within st_X9_within ml_X9_350 rfl rfl (Nat.le_of_ble_eq_true rfl) (by decide) (c_X9_within _ G im2 bt rt lm2 x47 0 99 hrx (by constructor <;> omega) (by constructor <;> omega)) rfl (kI ?_)
  rintro x53 m' ⟨hx53, rfl⟩
  refine q_iret F dX9_asks_56 rfl ?_
  exact ⟨x53, rfl, im2, lm2, by rw [hx53, hx]; rfl, hR2, hagY, hlg2, rfl⟩
end
section
/-! THE REFERENCE: what holds of it -/
def rowR (im : IM) (t : Nat) : Nat → Int := fun i => im 31 0 (160 * t + i)
/-- what its text says -/
def sayR (im : IM) (t part : Nat) (nm : Nat → Int) : Int := clip (valT (rowR im t) (im 32 0 t).toNat part nm)
def RP (im : IM) (p : Nat) : Prop := (0 ≤ im 34 0 p ∧ im 34 0 p < 6) ∧ (0 ≤ im 35 0 p ∧ im 35 0 p < 10) ∧ ∀ g, g < 10 → -1 ≤ im 36 0 (10 * p + g) ∧ im 36 0 (10 * p + g) < 16 ∧ (im 36 0 (10 * p + g) ≠ -1 → 0 ≤ im 37 0 (10 * p + g) ∧ im 37 0 (10 * p + g) ≤ 1100)
def RX (im : IM) : Prop := (∀ i, i < 160 → 0 ≤ im 33 0 i ∧ im 33 0 i ≤ 255) ∧ (∀ i, i < 960 → 0 ≤ im 31 0 i ∧ im 31 0 i ≤ 255) ∧ (0 ≤ im 30 0 6 ∧ im 30 0 6 ≤ 160) ∧ (0 ≤ im 30 0 3 ∧ im 30 0 3 ≤ 6) ∧ ∀ t : Nat, (t : Int) < im 30 0 3 → 0 ≤ im 32 0 t ∧ im 32 0 t ≤ 160 ∧ rdF (rowR im t) (im 32 0 t).toNat = -1
def RC (im : IM) : Prop := RI im ∧ RX im ∧ (0 ≤ im 30 0 4 ∧ im 30 0 4 < im 30 0 3) ∧ (0 ≤ im 30 0 12 ∧ im 30 0 12 ≤ 5) ∧ (0 ≤ im 30 0 7 ∧ im 30 0 7 ≤ 1100) ∧ (0 ≤ im 30 0 8 ∧ im 30 0 8 < 16777216) ∧ ∀ p : Nat, (p : Int) < im 30 0 12 → RP im p
theorem RX.row {im : IM} (h : RX im) {t : Nat} (ht : (t : Int) < im 30 0 3) : ROW (rowR im t) (im 32 0 t).toNat t im := by
  obtain ⟨-, h31, -, h3, hT⟩ := h
  have e := hT t ht
  exact ⟨⟨by omega, fun i hi => h31 (160 * t + i) (by omega)⟩, by omega, by omega, fun i hi => rfl⟩
theorem RX.ag {im im' : IM} (h : RX im) (ha : agY im' im) : RX im' := by
  obtain ⟨h1, h2, h3, h4, h5⟩ := h
  have e3 : im' 30 0 3 = im 30 0 3 := ha 30 0 3 (by omega)
  have e6 : im' 30 0 6 = im 30 0 6 := ha 30 0 6 (by omega)
  refine ⟨fun i hi => by rw [ha 33 0 i (by omega)]; exact h1 i hi, fun i hi => by rw [ha 31 0 i (by omega)]; exact h2 i hi, by rw [e6]; exact h3, by rw [e3]; exact h4, fun t ht => ?_⟩
  rw [e3] at ht
  have e31 : rowR im' t = rowR im t := funext fun i => ha 31 0 _ (by omega)
  rw [ha 32 0 t (by omega), e31]
  exact h5 t ht
theorem RC.ag {im im' : IM} (h : RC im) (hR : RI im') (ha : agY im' im) : RC im' := by
  obtain ⟨-, hX, h4, h12, h7, h8, hP⟩ := h
  have e : ∀ s, (s < 15 ∨ 29 < s) → im' 30 0 s = im 30 0 s := fun s hs => ha 30 0 s (by omega)
  refine ⟨hR, hX.ag ha, by rw [e 4 (by omega), e 3 (by omega)]; exact h4, by rw [e 12 (by omega)]; exact h12, by rw [e 7 (by omega)]; exact h7, by rw [e 8 (by omega)]; exact h8, fun p hp => ?_⟩
  rw [e 12 (by omega)] at hp
  have := hP p hp
  unfold RP at this ⊢
  rw [ha 34 0 p (by omega), ha 35 0 p (by omega)]
  refine ⟨this.1, this.2.1, fun g hg => ?_⟩
  rw [ha 36 0 _ (by omega), ha 37 0 _ (by omega)]
  exact this.2.2 g hg
theorem sayR_ag {im im' : IM} (ha : agY im' im) (t part : Nat) (nm : Nat → Int) : sayR im' t part nm = sayR im t part nm := by
  unfold sayR
  have e31 : rowR im' t = rowR im t := funext fun i => ha 31 0 _ (by omega)
  rw [ha 32 0 t (by omega), e31]
theorem sayR_in (im : IM) (t part : Nat) (nm : Nat → Int) : 0 ≤ sayR im t part nm ∧ sayR im t part nm ≤ 99 := clip_in _
theorem c_asksC (l : Launch) (G : GS) (im : IM) (bt rt : Nat) (lm : IM) (h : RC im) (wh p : Nat) (hwh : wh < 3) (hp : p < 5) (w fd gp st : Int) (hw : ri w) (hfd : ri fd) (hgp : ri gp) (hst : ri st) : Cn l (XR G) yX9_asks Y_X9_asks [vR 30 0, vI (wh : Int), vI (p : Int), vI w, vI fd, vI gp, vI st] (im, rs bt rt, lm) (pI fun x m' => ∃ im' lm', x = sayR im (im 30 0 4).toNat wh (nmA w fd (im 30 0 7) (im 35 0 p) gp st) ∧ RI im' ∧ agY im' im ∧ lgQ lm' lm ∧ m' = (im', rs bt rt, lm')) := by
  have h4 := h.2.2.1
  have h3 := h.2.1.2.2.2.1
  have hF := (h.2.1.2.2.2.2 (im 30 0 4).toNat (by omega)).2.2
  exact c_X9_asks l G bt rt _ _ im lm h.1 (im 30 0 4).toNat (h.2.1.row (by omega)) (by omega) hF wh p hwh hp w fd gp st hw hfd hgp hst

set_option maxHeartbeats 4000000 in
theorem c_X9_takesOf (l : Launch) (G : GS) (im : IM) (bt rt : Nat) (lm : IM) (hR : RI im) (p : Nat) (hp : p < 5) (hk : 0 ≤ im 34 0 p ∧ im 34 0 p < 6) (v : Int) (hv : 0 ≤ v ∧ v ≤ 99) : Cn l (XR G) yX9_takesOf Y_X9_takesOf [vR 30 0, vI (p : Int), vI v] (im, rs bt rt, lm) (pI fun x m' => x = takesK (im 34 0 p) v ∧ m' = (im, rs bt rt, lm)) := by
  refine cn_of (by decide) (okR G) rfl (Nat.le_of_ble_eq_true rfl) ?_
  intro M ad hMl F
  subst hMl
  refine wp_pad 1 ?_
  show Wp M (XR G) ad Y_X9_takesOf (pI fun x m' => x = takesK (im 34 0 p) v ∧ m' = (im, rs bt rt, lm)) 0 [some (vR 30 0), some (vI (p : Int)), some (vI v), none] [] (im, rs bt rt, lm)
  refine q_aload_n (t := 1) F dX9_takesOf_0 rfl rfl rfl ?_
  refine g_X9_26 (t := 4) F dX9_takesOf_1 rfl rfl ?_
  refine q_iload_n (t := 5) F dX9_takesOf_4 rfl rfl rfl ?_
  first | refine ldN_34 (t := 6) F dX9_takesOf_5 (by omega) rfl ?_ | refine ld_34 (t := 6) F dX9_takesOf_5 (by omega) (by omega) rfl ?_
  refine q_istore_n (t := 7) F dX9_takesOf_6 rfl (by decide) rfl rfl ?_
  refine q_iload_n (t := 8) F dX9_takesOf_7 rfl rfl rfl ?_
  refine q_iconst (t := 9) F dX9_takesOf_8 rfl ?_
  refine q_icmp_ne (t := 12) (u := 21) F dX9_takesOf_9 (by first | exact hR _ _ _ | (constructor <;> omega)) (by first | exact hR _ _ _ | (constructor <;> omega)) (by decide) rfl (fun c9 => ?_) (fun c9 => ?_)
  · refine q_iload_n (t := 22) F dX9_takesOf_21 rfl rfl rfl ?_
    refine q_iconst (t := 23) F dX9_takesOf_22 rfl ?_
    refine q_icmp_eq (t := 26) (u := 31) F dX9_takesOf_23 (by first | exact hR _ _ _ | (constructor <;> omega)) (by first | exact hR _ _ _ | (constructor <;> omega)) (by decide) rfl (fun c23 => ?_) (fun c23 => ?_)
    · refine q_iload_n (t := 32) F dX9_takesOf_31 rfl rfl rfl ?_
      refine q_bipush (t := 34) F dX9_takesOf_32 (by decide) rfl ?_
      refine q_irem (t := 35) F dX9_takesOf_34 (by first | exact hR _ _ _ | (constructor <;> omega)) (by first | exact hR _ _ _ | (constructor <;> omega)) (by omega) (by omega) rfl ?_
      refine q_iconst (t := 36) F dX9_takesOf_35 rfl ?_
      refine q_idiv (t := 37) F dX9_takesOf_36 (by first | exact hR _ _ _ | (constructor <;> omega)) (by first | exact hR _ _ _ | (constructor <;> omega)) (by omega) (by omega) rfl ?_
      refine q_goto (t := 71) F dX9_takesOf_37 (by decide) ?_
      refine q_iret F dX9_takesOf_71 rfl ?_
      refine ⟨_, rfl, ?_, rfl⟩
      unfold takesK
      (repeat' split) <;> first | rfl | omega
    · refine q_iload_n (t := 27) F dX9_takesOf_26 rfl rfl rfl ?_
      refine q_iconst (t := 28) F dX9_takesOf_27 rfl ?_
      refine q_icmp_ne (t := 31) (u := 40) F dX9_takesOf_28 (by first | exact hR _ _ _ | (constructor <;> omega)) (by first | exact hR _ _ _ | (constructor <;> omega)) (by decide) rfl (fun c28 => ?_) (fun c28 => ?_)
      · refine q_iload_n (t := 41) F dX9_takesOf_40 rfl rfl rfl ?_
        refine q_iconst (t := 42) F dX9_takesOf_41 rfl ?_
        refine q_icmp_ne (t := 45) (u := 55) F dX9_takesOf_42 (by first | exact hR _ _ _ | (constructor <;> omega)) (by first | exact hR _ _ _ | (constructor <;> omega)) (by decide) rfl (fun c42 => ?_) (fun c42 => ?_)
        · refine q_iload_n (t := 56) F dX9_takesOf_55 rfl rfl rfl ?_
          refine q_iconst (t := 57) F dX9_takesOf_56 rfl ?_
          refine q_icmp_ne (t := 60) (u := 67) F dX9_takesOf_57 (by first | exact hR _ _ _ | (constructor <;> omega)) (by first | exact hR _ _ _ | (constructor <;> omega)) (by decide) rfl (fun c57 => ?_) (fun c57 => ?_)
          · refine q_iload_n (t := 68) F dX9_takesOf_67 rfl rfl rfl ?_
            refine q_bipush (t := 70) F dX9_takesOf_68 (by decide) rfl ?_
            refine q_irem (t := 71) F dX9_takesOf_70 (by first | exact hR _ _ _ | (constructor <;> omega)) (by first | exact hR _ _ _ | (constructor <;> omega)) (by omega) (by omega) rfl ?_
            refine q_iret F dX9_takesOf_71 rfl ?_
            refine ⟨_, rfl, ?_, rfl⟩
            unfold takesK
            (repeat' split) <;> first | rfl | omega
          · refine q_iload_n (t := 61) F dX9_takesOf_60 rfl rfl rfl ?_
            refine q_bipush (t := 63) F dX9_takesOf_61 (by decide) rfl ?_
            refine q_idiv (t := 64) F dX9_takesOf_63 (by first | exact hR _ _ _ | (constructor <;> omega)) (by first | exact hR _ _ _ | (constructor <;> omega)) (by omega) (by omega) rfl ?_
            refine q_goto (t := 71) F dX9_takesOf_64 (by decide) ?_
            refine q_iret F dX9_takesOf_71 rfl ?_
            refine ⟨_, rfl, ?_, rfl⟩
            unfold takesK
            (repeat' split) <;> first | rfl | omega
        · refine q_bipush (t := 47) F dX9_takesOf_45 (by decide) rfl ?_
          refine q_iload_n (t := 48) F dX9_takesOf_47 rfl rfl rfl ?_
          refine q_bipush (t := 50) F dX9_takesOf_48 (by decide) rfl ?_
          refine q_irem (t := 51) F dX9_takesOf_50 (by first | exact hR _ _ _ | (constructor <;> omega)) (by first | exact hR _ _ _ | (constructor <;> omega)) (by omega) (by omega) rfl ?_
          refine q_isub (t := 52) F dX9_takesOf_51 rfl ?_
          refine q_goto (t := 71) F dX9_takesOf_52 (by decide) ?_
          refine q_iret F dX9_takesOf_71 rfl ?_
          refine ⟨_, rfl, ?_, rfl⟩
          unfold takesK
          (repeat' split) <;> first | rfl | omega
      · refine q_iload_n (t := 32) F dX9_takesOf_31 rfl rfl rfl ?_
        refine q_bipush (t := 34) F dX9_takesOf_32 (by decide) rfl ?_
        refine q_irem (t := 35) F dX9_takesOf_34 (by first | exact hR _ _ _ | (constructor <;> omega)) (by first | exact hR _ _ _ | (constructor <;> omega)) (by omega) (by omega) rfl ?_
        refine q_iconst (t := 36) F dX9_takesOf_35 rfl ?_
        refine q_idiv (t := 37) F dX9_takesOf_36 (by first | exact hR _ _ _ | (constructor <;> omega)) (by first | exact hR _ _ _ | (constructor <;> omega)) (by omega) (by omega) rfl ?_
        refine q_goto (t := 71) F dX9_takesOf_37 (by decide) ?_
        refine q_iret F dX9_takesOf_71 rfl ?_
        refine ⟨_, rfl, ?_, rfl⟩
        unfold takesK
        (repeat' split) <;> first | rfl | omega
  · refine q_iload_n (t := 13) F dX9_takesOf_12 rfl rfl rfl ?_
    refine q_iconst (t := 14) F dX9_takesOf_13 rfl ?_
    refine q_irem (t := 15) F dX9_takesOf_14 (by first | exact hR _ _ _ | (constructor <;> omega)) (by first | exact hR _ _ _ | (constructor <;> omega)) (by omega) (by omega) rfl ?_
    refine q_iconst (t := 16) F dX9_takesOf_15 rfl ?_
    refine q_icmp_ne (t := 19) (u := 21) F dX9_takesOf_16 (by first | exact hR _ _ _ | (constructor <;> omega)) (by first | exact hR _ _ _ | (constructor <;> omega)) (by decide) rfl (fun c16 => ?_) (fun c16 => ?_)
    · refine q_iload_n (t := 22) F dX9_takesOf_21 rfl rfl rfl ?_
      refine q_iconst (t := 23) F dX9_takesOf_22 rfl ?_
      refine q_icmp_eq (t := 26) (u := 31) F dX9_takesOf_23 (by first | exact hR _ _ _ | (constructor <;> omega)) (by first | exact hR _ _ _ | (constructor <;> omega)) (by decide) rfl (fun c23 => ?_) (fun c23 => ?_)
      · refine q_iload_n (t := 32) F dX9_takesOf_31 rfl rfl rfl ?_
        refine q_bipush (t := 34) F dX9_takesOf_32 (by decide) rfl ?_
        refine q_irem (t := 35) F dX9_takesOf_34 (by first | exact hR _ _ _ | (constructor <;> omega)) (by first | exact hR _ _ _ | (constructor <;> omega)) (by omega) (by omega) rfl ?_
        refine q_iconst (t := 36) F dX9_takesOf_35 rfl ?_
        refine q_idiv (t := 37) F dX9_takesOf_36 (by first | exact hR _ _ _ | (constructor <;> omega)) (by first | exact hR _ _ _ | (constructor <;> omega)) (by omega) (by omega) rfl ?_
        refine q_goto (t := 71) F dX9_takesOf_37 (by decide) ?_
        refine q_iret F dX9_takesOf_71 rfl ?_
        refine ⟨_, rfl, ?_, rfl⟩
        unfold takesK
        (repeat' split) <;> first | rfl | omega
      · refine q_iload_n (t := 27) F dX9_takesOf_26 rfl rfl rfl ?_
        refine q_iconst (t := 28) F dX9_takesOf_27 rfl ?_
        refine q_icmp_ne (t := 31) (u := 40) F dX9_takesOf_28 (by first | exact hR _ _ _ | (constructor <;> omega)) (by first | exact hR _ _ _ | (constructor <;> omega)) (by decide) rfl (fun c28 => ?_) (fun c28 => ?_)
        · refine q_iload_n (t := 41) F dX9_takesOf_40 rfl rfl rfl ?_
          refine q_iconst (t := 42) F dX9_takesOf_41 rfl ?_
          refine q_icmp_ne (t := 45) (u := 55) F dX9_takesOf_42 (by first | exact hR _ _ _ | (constructor <;> omega)) (by first | exact hR _ _ _ | (constructor <;> omega)) (by decide) rfl (fun c42 => ?_) (fun c42 => ?_)
          · refine q_iload_n (t := 56) F dX9_takesOf_55 rfl rfl rfl ?_
            refine q_iconst (t := 57) F dX9_takesOf_56 rfl ?_
            refine q_icmp_ne (t := 60) (u := 67) F dX9_takesOf_57 (by first | exact hR _ _ _ | (constructor <;> omega)) (by first | exact hR _ _ _ | (constructor <;> omega)) (by decide) rfl (fun c57 => ?_) (fun c57 => ?_)
            · refine q_iload_n (t := 68) F dX9_takesOf_67 rfl rfl rfl ?_
              refine q_bipush (t := 70) F dX9_takesOf_68 (by decide) rfl ?_
              refine q_irem (t := 71) F dX9_takesOf_70 (by first | exact hR _ _ _ | (constructor <;> omega)) (by first | exact hR _ _ _ | (constructor <;> omega)) (by omega) (by omega) rfl ?_
              refine q_iret F dX9_takesOf_71 rfl ?_
              refine ⟨_, rfl, ?_, rfl⟩
              unfold takesK
              (repeat' split) <;> first | rfl | omega
            · refine q_iload_n (t := 61) F dX9_takesOf_60 rfl rfl rfl ?_
              refine q_bipush (t := 63) F dX9_takesOf_61 (by decide) rfl ?_
              refine q_idiv (t := 64) F dX9_takesOf_63 (by first | exact hR _ _ _ | (constructor <;> omega)) (by first | exact hR _ _ _ | (constructor <;> omega)) (by omega) (by omega) rfl ?_
              refine q_goto (t := 71) F dX9_takesOf_64 (by decide) ?_
              refine q_iret F dX9_takesOf_71 rfl ?_
              refine ⟨_, rfl, ?_, rfl⟩
              unfold takesK
              (repeat' split) <;> first | rfl | omega
          · refine q_bipush (t := 47) F dX9_takesOf_45 (by decide) rfl ?_
            refine q_iload_n (t := 48) F dX9_takesOf_47 rfl rfl rfl ?_
            refine q_bipush (t := 50) F dX9_takesOf_48 (by decide) rfl ?_
            refine q_irem (t := 51) F dX9_takesOf_50 (by first | exact hR _ _ _ | (constructor <;> omega)) (by first | exact hR _ _ _ | (constructor <;> omega)) (by omega) (by omega) rfl ?_
            refine q_isub (t := 52) F dX9_takesOf_51 rfl ?_
            refine q_goto (t := 71) F dX9_takesOf_52 (by decide) ?_
            refine q_iret F dX9_takesOf_71 rfl ?_
            refine ⟨_, rfl, ?_, rfl⟩
            unfold takesK
            (repeat' split) <;> first | rfl | omega
        · refine q_iload_n (t := 32) F dX9_takesOf_31 rfl rfl rfl ?_
          refine q_bipush (t := 34) F dX9_takesOf_32 (by decide) rfl ?_
          refine q_irem (t := 35) F dX9_takesOf_34 (by first | exact hR _ _ _ | (constructor <;> omega)) (by first | exact hR _ _ _ | (constructor <;> omega)) (by omega) (by omega) rfl ?_
          refine q_iconst (t := 36) F dX9_takesOf_35 rfl ?_
          refine q_idiv (t := 37) F dX9_takesOf_36 (by first | exact hR _ _ _ | (constructor <;> omega)) (by first | exact hR _ _ _ | (constructor <;> omega)) (by omega) (by omega) rfl ?_
          refine q_goto (t := 71) F dX9_takesOf_37 (by decide) ?_
          refine q_iret F dX9_takesOf_71 rfl ?_
          refine ⟨_, rfl, ?_, rfl⟩
          unfold takesK
          (repeat' split) <;> first | rfl | omega
    · refine q_iconst (t := 20) F dX9_takesOf_19 rfl ?_
      refine q_iret F dX9_takesOf_20 rfl ?_
      refine ⟨_, rfl, ?_, rfl⟩
      unfold takesK
      (repeat' split) <;> first | rfl | omega
end
section
/-! the reference: how long it holds, how bad it is -/

set_option maxHeartbeats 4000000 in
theorem c_X9_holdsIn (l : Launch) (G : GS) (im : IM) (bt rt : Nat) (lm : IM) (h : RC im) (q : Nat) (hq : (q : Int) < 10 * im 30 0 12) : Cn l (XR G) yX9_holdsIn Y_X9_holdsIn [vR 30 0, vI (q : Int)] (im, rs bt rt, lm) (pI fun x m' => ∃ im' lm', x = holdsK (im 34 0 (q / 10)) (im 35 0 (q / 10)) (sayR im (im 30 0 4).toNat 1 (nmA (im 36 0 q) 0 (im 30 0 7) (im 35 0 (q / 10)) ((q % 10 : Nat) : Int) (im 37 0 q))) ∧ RI im' ∧ agY im' im ∧ lgQ lm' lm ∧ m' = (im', rs bt rt, lm')) := by
  refine cn_of (by decide) (okR G) rfl (Nat.le_of_ble_eq_true rfl) ?_
  intro M ad hMl F
  subst hMl
  obtain ⟨hR, hX, h4, h12, h7, h8, hP⟩ := id h
  have hq50 : q < 50 := by omega
  have hp := hP (q / 10) (by omega)
  obtain ⟨hk, hn, hg⟩ := hp
  have hg := hg (q % 10) (by omega)
  rw [show 10 * (q / 10) + q % 10 = q by omega] at hg
  refine wp_pad 4 ?_
  show Wp M (XR G) ad Y_X9_holdsIn (pI fun x m' => ∃ im' lm', x = holdsK (im 34 0 (q / 10)) (im 35 0 (q / 10)) (sayR im (im 30 0 4).toNat 1 (nmA (im 36 0 q) 0 (im 30 0 7) (im 35 0 (q / 10)) ((q % 10 : Nat) : Int) (im 37 0 q))) ∧ RI im' ∧ agY im' im ∧ lgQ lm' lm ∧ m' = (im', rs bt rt, lm')) 0 [some (vR 30 0), some (vI (q : Int)), none, none, none, none] [] (im, rs bt rt, lm)
  refine q_iload_n (t := 1) F dX9_holdsIn_0 rfl rfl rfl ?_
  refine q_bipush (t := 3) F dX9_holdsIn_1 (by decide) rfl ?_
  refine q_idiv (t := 4) F dX9_holdsIn_3 (by first | exact hR _ _ _ | (constructor <;> omega)) (by first | exact hR _ _ _ | (constructor <;> omega)) (by omega) (by omega) rfl ?_
  rw [show (q : Int) / 10 = ((q / 10 : Nat) : Int) by omega]
  refine q_istore_n (t := 5) F dX9_holdsIn_4 rfl (by decide) rfl rfl ?_
  refine q_aload_n (t := 6) F dX9_holdsIn_5 rfl rfl rfl ?_
  refine g_X9_26 (t := 9) F dX9_holdsIn_6 rfl rfl ?_
  refine q_iload_n (t := 10) F dX9_holdsIn_9 rfl rfl rfl ?_
  first | refine ldN_34 (t := 11) F dX9_holdsIn_10 (by omega) rfl ?_ | refine ld_34 (t := 11) F dX9_holdsIn_10 (by omega) (by omega) rfl ?_
  refine q_istore_n (t := 12) F dX9_holdsIn_11 rfl (by decide) rfl rfl ?_
  refine q_aload_n (t := 13) F dX9_holdsIn_12 rfl rfl rfl ?_
  refine q_iconst (t := 14) F dX9_holdsIn_13 rfl ?_
  refine q_iload_n (t := 15) F dX9_holdsIn_14 rfl rfl rfl ?_
  refine q_aload_n (t := 16) F dX9_holdsIn_15 rfl rfl rfl ?_
  refine g_X9_32 (t := 19) F dX9_holdsIn_16 rfl rfl ?_
  refine q_iload_n (t := 20) F dX9_holdsIn_19 rfl rfl rfl ?_
  first | refine ldN_36 (t := 21) F dX9_holdsIn_20 (by omega) rfl ?_ | refine ld_36 (t := 21) F dX9_holdsIn_20 (by omega) (by omega) rfl ?_
  refine q_iconst (t := 22) F dX9_holdsIn_21 rfl ?_
  refine q_iload_n (t := 23) F dX9_holdsIn_22 rfl rfl rfl ?_
  refine q_bipush (t := 25) F dX9_holdsIn_23 (by decide) rfl ?_
  refine q_irem (t := 26) F dX9_holdsIn_25 (by first | exact hR _ _ _ | (constructor <;> omega)) (by first | exact hR _ _ _ | (constructor <;> omega)) (by omega) (by omega) rfl ?_
  rw [show (q : Int) % 10 = ((q % 10 : Nat) : Int) by omega]
  refine q_aload_n (t := 27) F dX9_holdsIn_26 rfl rfl rfl ?_
  refine g_X9_35 (t := 30) F dX9_holdsIn_27 rfl rfl ?_
  refine q_iload_n (t := 31) F dX9_holdsIn_30 rfl rfl rfl ?_
  first | refine ldN_37 (t := 32) F dX9_holdsIn_31 (by omega) rfl ?_ | refine ld_37 (t := 32) F dX9_holdsIn_31 (by omega) (by omega) rfl ?_
  refine wp_callV (t := 35) [_, _, _, _, _, _] F dX9_holdsIn_32 k_X9_asks v_X9_asks ml_X9_354 rfl rfl rfl rfl (Nat.le_of_ble_eq_true rfl) (by decide) (m_30 (by omega)) (c_asksC _ G im bt rt lm h 1 (q / 10) (by omega) (by omega) _ _ _ _ (by exact hR _ _ _) (by constructor <;> omega) (by constructor <;> omega) (by exact hR _ _ _)) rfl (kI ?_)
  rintro v m' ⟨im2, lm2, hv, hR2, hag, hlg, rfl⟩
  have hv1 := sayR_in im (im 30 0 4).toNat 1 (nmA (im 36 0 q) 0 (im 30 0 7) (im 35 0 (q / 10)) ((q % 10 : Nat) : Int) (im 37 0 q))
  rw [← hv] at hv1
  refine q_istore (t := 37) F dX9_holdsIn_35 (by decide) rfl rfl ?_
  refine q_iload_n (t := 38) F dX9_holdsIn_37 rfl rfl rfl ?_
  refine q_iconst (t := 39) F dX9_holdsIn_38 rfl ?_
  refine q_icmp_ne (t := 42) (u := 54) F dX9_holdsIn_39 (by first | exact hR _ _ _ | (constructor <;> omega)) (by first | exact hR _ _ _ | (constructor <;> omega)) (by decide) rfl (fun c39 => ?_) (fun c39 => ?_)
  · refine q_iload_n (t := 55) F dX9_holdsIn_54 rfl rfl rfl ?_
    refine q_iconst (t := 56) F dX9_holdsIn_55 rfl ?_
    refine q_icmp_ne (t := 59) (u := 73) F dX9_holdsIn_56 (by first | exact hR _ _ _ | (constructor <;> omega)) (by first | exact hR _ _ _ | (constructor <;> omega)) (by decide) rfl (fun c56 => ?_) (fun c56 => ?_)
    · refine q_iload_n (t := 74) F dX9_holdsIn_73 rfl rfl rfl ?_
      refine q_iconst (t := 75) F dX9_holdsIn_74 rfl ?_
      refine q_icmp_eq (t := 78) (u := 83) F dX9_holdsIn_75 (by first | exact hR _ _ _ | (constructor <;> omega)) (by first | exact hR _ _ _ | (constructor <;> omega)) (by decide) rfl (fun c75 => ?_) (fun c75 => ?_)
      · refine q_iload (t := 85) F dX9_holdsIn_83 rfl rfl ?_
        refine q_iconst (t := 86) F dX9_holdsIn_85 rfl ?_
        refine q_idiv (t := 87) F dX9_holdsIn_86 (by first | exact hR _ _ _ | (constructor <;> omega)) (by first | exact hR _ _ _ | (constructor <;> omega)) (by omega) (by omega) rfl ?_
        refine q_goto (t := 108) F dX9_holdsIn_87 (by decide) ?_
        refine q_istore (t := 110) F dX9_holdsIn_108 (by decide) rfl rfl ?_
        refine q_iload (t := 112) F dX9_holdsIn_110 rfl rfl ?_
        refine q_iconst (t := 113) F dX9_holdsIn_112 rfl ?_
        refine q_icmp_ge (t := 116) (u := 120) F dX9_holdsIn_113 (by constructor <;> omega) (by constructor <;> omega) (by decide) rfl (fun c113 => ?_) (fun c113 => ?_)
        · refine q_iload (t := 122) F dX9_holdsIn_120 rfl rfl ?_
          refine q_iret F dX9_holdsIn_122 rfl ?_
          refine ⟨_, rfl, im2, lm2, ?_, hR2, hag, hlg, rfl⟩
          rw [← hv]
          unfold holdsK heldK
          try rw [hx100]
          (repeat' split) <;> first | rfl | omega
        · refine q_iconst (t := 117) F dX9_holdsIn_116 rfl ?_
          refine q_goto (t := 122) F dX9_holdsIn_117 (by decide) ?_
          refine q_iret F dX9_holdsIn_122 rfl ?_
          refine ⟨_, rfl, im2, lm2, ?_, hR2, hag, hlg, rfl⟩
          rw [← hv]
          unfold holdsK heldK
          try rw [hx100]
          (repeat' split) <;> first | rfl | omega
      · refine q_iload_n (t := 79) F dX9_holdsIn_78 rfl rfl rfl ?_
        refine q_iconst (t := 80) F dX9_holdsIn_79 rfl ?_
        refine q_icmp_ne (t := 83) (u := 90) F dX9_holdsIn_80 (by first | exact hR _ _ _ | (constructor <;> omega)) (by first | exact hR _ _ _ | (constructor <;> omega)) (by decide) rfl (fun c80 => ?_) (fun c80 => ?_)
        · refine q_iload_n (t := 91) F dX9_holdsIn_90 rfl rfl rfl ?_
          refine q_iconst (t := 92) F dX9_holdsIn_91 rfl ?_
          refine q_icmp_ne (t := 95) (u := 106) F dX9_holdsIn_92 (by first | exact hR _ _ _ | (constructor <;> omega)) (by first | exact hR _ _ _ | (constructor <;> omega)) (by decide) rfl (fun c92 => ?_) (fun c92 => ?_)
          · refine q_iload (t := 108) F dX9_holdsIn_106 rfl rfl ?_
            refine q_istore (t := 110) F dX9_holdsIn_108 (by decide) rfl rfl ?_
            refine q_iload (t := 112) F dX9_holdsIn_110 rfl rfl ?_
            refine q_iconst (t := 113) F dX9_holdsIn_112 rfl ?_
            refine q_icmp_ge (t := 116) (u := 120) F dX9_holdsIn_113 (by constructor <;> omega) (by constructor <;> omega) (by decide) rfl (fun c113 => ?_) (fun c113 => ?_)
            · refine q_iload (t := 122) F dX9_holdsIn_120 rfl rfl ?_
              refine q_iret F dX9_holdsIn_122 rfl ?_
              refine ⟨_, rfl, im2, lm2, ?_, hR2, hag, hlg, rfl⟩
              rw [← hv]
              unfold holdsK heldK
              try rw [hx100]
              (repeat' split) <;> first | rfl | omega
            · refine q_iconst (t := 117) F dX9_holdsIn_116 rfl ?_
              refine q_goto (t := 122) F dX9_holdsIn_117 (by decide) ?_
              refine q_iret F dX9_holdsIn_122 rfl ?_
              refine ⟨_, rfl, im2, lm2, ?_, hR2, hag, hlg, rfl⟩
              rw [← hv]
              unfold holdsK heldK
              try rw [hx100]
              (repeat' split) <;> first | rfl | omega
          · refine q_iload (t := 97) F dX9_holdsIn_95 rfl rfl ?_
            refine q_iconst (t := 98) F dX9_holdsIn_97 rfl ?_
            refine q_bipush (t := 100) F dX9_holdsIn_98 (by decide) rfl ?_
            refine wp_callS (t := 103) [_, _, _] F dX9_holdsIn_100 k_X9_within st_X9_within ml_X9_350 rfl rfl (Nat.le_of_ble_eq_true rfl) (by decide) (c_X9_within _ G im2 bt rt lm2 v 0 9 (by constructor <;> omega) (by constructor <;> omega) (by constructor <;> omega)) rfl (kI ?_)
            rintro x100 m' ⟨hx100, rfl⟩
            have hx1 : 0 ≤ x100 ∧ x100 ≤ 9 := by rw [hx100]; (repeat' split) <;> omega
            refine q_goto (t := 108) F dX9_holdsIn_103 (by decide) ?_
            refine q_istore (t := 110) F dX9_holdsIn_108 (by decide) rfl rfl ?_
            refine q_iload (t := 112) F dX9_holdsIn_110 rfl rfl ?_
            refine q_iconst (t := 113) F dX9_holdsIn_112 rfl ?_
            refine q_icmp_ge (t := 116) (u := 120) F dX9_holdsIn_113 (by constructor <;> omega) (by constructor <;> omega) (by decide) rfl (fun c113 => ?_) (fun c113 => ?_)
            · refine q_iload (t := 122) F dX9_holdsIn_120 rfl rfl ?_
              refine q_iret F dX9_holdsIn_122 rfl ?_
              refine ⟨_, rfl, im2, lm2, ?_, hR2, hag, hlg, rfl⟩
              rw [← hv]
              unfold holdsK heldK
              try rw [hx100]
              (repeat' split) <;> first | rfl | omega
            · refine q_iconst (t := 117) F dX9_holdsIn_116 rfl ?_
              refine q_goto (t := 122) F dX9_holdsIn_117 (by decide) ?_
              refine q_iret F dX9_holdsIn_122 rfl ?_
              refine ⟨_, rfl, im2, lm2, ?_, hR2, hag, hlg, rfl⟩
              rw [← hv]
              unfold holdsK heldK
              try rw [hx100]
              (repeat' split) <;> first | rfl | omega
        · refine q_iload (t := 85) F dX9_holdsIn_83 rfl rfl ?_
          refine q_iconst (t := 86) F dX9_holdsIn_85 rfl ?_
          refine q_idiv (t := 87) F dX9_holdsIn_86 (by first | exact hR _ _ _ | (constructor <;> omega)) (by first | exact hR _ _ _ | (constructor <;> omega)) (by omega) (by omega) rfl ?_
          refine q_goto (t := 108) F dX9_holdsIn_87 (by decide) ?_
          refine q_istore (t := 110) F dX9_holdsIn_108 (by decide) rfl rfl ?_
          refine q_iload (t := 112) F dX9_holdsIn_110 rfl rfl ?_
          refine q_iconst (t := 113) F dX9_holdsIn_112 rfl ?_
          refine q_icmp_ge (t := 116) (u := 120) F dX9_holdsIn_113 (by constructor <;> omega) (by constructor <;> omega) (by decide) rfl (fun c113 => ?_) (fun c113 => ?_)
          · refine q_iload (t := 122) F dX9_holdsIn_120 rfl rfl ?_
            refine q_iret F dX9_holdsIn_122 rfl ?_
            refine ⟨_, rfl, im2, lm2, ?_, hR2, hag, hlg, rfl⟩
            rw [← hv]
            unfold holdsK heldK
            try rw [hx100]
            (repeat' split) <;> first | rfl | omega
          · refine q_iconst (t := 117) F dX9_holdsIn_116 rfl ?_
            refine q_goto (t := 122) F dX9_holdsIn_117 (by decide) ?_
            refine q_iret F dX9_holdsIn_122 rfl ?_
            refine ⟨_, rfl, im2, lm2, ?_, hR2, hag, hlg, rfl⟩
            rw [← hv]
            unfold holdsK heldK
            try rw [hx100]
            (repeat' split) <;> first | rfl | omega
    · refine q_iload (t := 61) F dX9_holdsIn_59 rfl rfl ?_
      refine q_aload_n (t := 62) F dX9_holdsIn_61 rfl rfl rfl ?_
      refine g_X9_29 (t := 65) F dX9_holdsIn_62 rfl rfl ?_
      refine q_iload_n (t := 66) F dX9_holdsIn_65 rfl rfl rfl ?_
      first | refine ldN_35 (t := 67) F dX9_holdsIn_66 (by omega) rfl ?_ | refine ld_35 (t := 67) F dX9_holdsIn_66 (by omega) (by omega) rfl ?_
      try simp only [up_app, row_app, scr_app, cpy_app, Nat.reduceEqDiff, Int.reduceToNat, Int.toNat_natCast, and_true, true_and, and_false, false_and, and_self, reduceIte]
      rw [hag 35 0 _ (by omega)]
      refine q_iadd (t := 68) F dX9_holdsIn_67 rfl ?_
      refine q_iconst (t := 69) F dX9_holdsIn_68 rfl ?_
      refine q_isub (t := 70) F dX9_holdsIn_69 rfl ?_
      refine q_goto (t := 108) F dX9_holdsIn_70 (by decide) ?_
      refine q_istore (t := 110) F dX9_holdsIn_108 (by decide) rfl rfl ?_
      refine q_iload (t := 112) F dX9_holdsIn_110 rfl rfl ?_
      refine q_iconst (t := 113) F dX9_holdsIn_112 rfl ?_
      refine q_icmp_ge (t := 116) (u := 120) F dX9_holdsIn_113 (by constructor <;> omega) (by constructor <;> omega) (by decide) rfl (fun c113 => ?_) (fun c113 => ?_)
      · refine q_iload (t := 122) F dX9_holdsIn_120 rfl rfl ?_
        refine q_iret F dX9_holdsIn_122 rfl ?_
        refine ⟨_, rfl, im2, lm2, ?_, hR2, hag, hlg, rfl⟩
        rw [← hv]
        unfold holdsK heldK
        try rw [hx100]
        (repeat' split) <;> first | rfl | omega
      · refine q_iconst (t := 117) F dX9_holdsIn_116 rfl ?_
        refine q_goto (t := 122) F dX9_holdsIn_117 (by decide) ?_
        refine q_iret F dX9_holdsIn_122 rfl ?_
        refine ⟨_, rfl, im2, lm2, ?_, hR2, hag, hlg, rfl⟩
        rw [← hv]
        unfold holdsK heldK
        try rw [hx100]
        (repeat' split) <;> first | rfl | omega
  · refine q_iload (t := 44) F dX9_holdsIn_42 rfl rfl ?_
    refine q_aload_n (t := 45) F dX9_holdsIn_44 rfl rfl rfl ?_
    refine g_X9_29 (t := 48) F dX9_holdsIn_45 rfl rfl ?_
    refine q_iload_n (t := 49) F dX9_holdsIn_48 rfl rfl rfl ?_
    first | refine ldN_35 (t := 50) F dX9_holdsIn_49 (by omega) rfl ?_ | refine ld_35 (t := 50) F dX9_holdsIn_49 (by omega) (by omega) rfl ?_
    try simp only [up_app, row_app, scr_app, cpy_app, Nat.reduceEqDiff, Int.reduceToNat, Int.toNat_natCast, and_true, true_and, and_false, false_and, and_self, reduceIte]
    rw [hag 35 0 _ (by omega)]
    refine q_iadd (t := 51) F dX9_holdsIn_50 rfl ?_
    refine q_goto (t := 108) F dX9_holdsIn_51 (by decide) ?_
    refine q_istore (t := 110) F dX9_holdsIn_108 (by decide) rfl rfl ?_
    refine q_iload (t := 112) F dX9_holdsIn_110 rfl rfl ?_
    refine q_iconst (t := 113) F dX9_holdsIn_112 rfl ?_
    refine q_icmp_ge (t := 116) (u := 120) F dX9_holdsIn_113 (by constructor <;> omega) (by constructor <;> omega) (by decide) rfl (fun c113 => ?_) (fun c113 => ?_)
    · refine q_iload (t := 122) F dX9_holdsIn_120 rfl rfl ?_
      refine q_iret F dX9_holdsIn_122 rfl ?_
      refine ⟨_, rfl, im2, lm2, ?_, hR2, hag, hlg, rfl⟩
      rw [← hv]
      unfold holdsK heldK
      try rw [hx100]
      (repeat' split) <;> first | rfl | omega
    · refine q_iconst (t := 117) F dX9_holdsIn_116 rfl ?_
      refine q_goto (t := 122) F dX9_holdsIn_117 (by decide) ?_
      refine q_iret F dX9_holdsIn_122 rfl ?_
      refine ⟨_, rfl, im2, lm2, ?_, hR2, hag, hlg, rfl⟩
      rw [← hv]
      unfold holdsK heldK
      try rw [hx100]
      (repeat' split) <;> first | rfl | omega
end
section
/-! the reference: how bad it is -/

theorem chI_R {ch hr : Int} (h0 : 0 ≤ ch) (h1 : ch < 16777216) : chI ch hr = if ch / 2 ^ (hr % 24).toNat % 2 = 0 then 0 else 1 := by
  unfold chI
  rw [Int.emod_eq_of_lt h0 (by omega)]

set_option maxHeartbeats 4000000 in
theorem c_X9_bearsIn (l : Launch) (G : GS) (im : IM) (bt rt : Nat) (lm : IM) (h : RC im) (q : Nat) (hq : (q : Int) < 10 * im 30 0 12) : Cn l (XR G) yX9_bearsIn Y_X9_bearsIn [vR 30 0, vI (q : Int)] (im, rs bt rt, lm) (pI fun x m' => ∃ im' lm', x = bearsK (im 34 0 (q / 10)) (im 35 0 (q / 10)) (sayR im (im 30 0 4).toNat 2 (nmA (im 36 0 q) 0 (im 30 0 7) (im 35 0 (q / 10)) ((q % 10 : Nat) : Int) (im 37 0 q))) (chI (im 30 0 8) (im 30 0 7)) ∧ RI im' ∧ agY im' im ∧ lgQ lm' lm ∧ m' = (im', rs bt rt, lm')) := by
  refine cn_of (by decide) (okR G) rfl (Nat.le_of_ble_eq_true rfl) ?_
  intro M ad hMl F
  subst hMl
  obtain ⟨hR, hX, h4, h12, h7, h8, hP⟩ := id h
  have hq50 : q < 50 := by omega
  have hp := hP (q / 10) (by omega)
  obtain ⟨hk, hn, hg⟩ := hp
  have hg := hg (q % 10) (by omega)
  rw [show 10 * (q / 10) + q % 10 = q by omega] at hg
  have hch := chI_R (hr := im 30 0 7) h8.1 h8.2
  refine wp_pad 6 ?_
  show Wp M (XR G) ad Y_X9_bearsIn (pI fun x m' => ∃ im' lm', x = bearsK (im 34 0 (q / 10)) (im 35 0 (q / 10)) (sayR im (im 30 0 4).toNat 2 (nmA (im 36 0 q) 0 (im 30 0 7) (im 35 0 (q / 10)) ((q % 10 : Nat) : Int) (im 37 0 q))) (chI (im 30 0 8) (im 30 0 7)) ∧ RI im' ∧ agY im' im ∧ lgQ lm' lm ∧ m' = (im', rs bt rt, lm')) 0 [some (vR 30 0), some (vI (q : Int)), none, none, none, none, none, none] [] (im, rs bt rt, lm)
  refine q_iload_n (t := 1) F dX9_bearsIn_0 rfl rfl rfl ?_
  refine q_bipush (t := 3) F dX9_bearsIn_1 (by decide) rfl ?_
  refine q_idiv (t := 4) F dX9_bearsIn_3 (by first | exact hR _ _ _ | (constructor <;> omega)) (by first | exact hR _ _ _ | (constructor <;> omega)) (by omega) (by omega) rfl ?_
  rw [show (q : Int) / 10 = ((q / 10 : Nat) : Int) by omega]
  refine q_istore_n (t := 5) F dX9_bearsIn_4 rfl (by decide) rfl rfl ?_
  refine q_aload_n (t := 6) F dX9_bearsIn_5 rfl rfl rfl ?_
  refine g_X9_26 (t := 9) F dX9_bearsIn_6 rfl rfl ?_
  refine q_iload_n (t := 10) F dX9_bearsIn_9 rfl rfl rfl ?_
  first | refine ldN_34 (t := 11) F dX9_bearsIn_10 (by omega) rfl ?_ | refine ld_34 (t := 11) F dX9_bearsIn_10 (by omega) (by omega) rfl ?_
  refine q_istore_n (t := 12) F dX9_bearsIn_11 rfl (by decide) rfl rfl ?_
  refine q_iload_n (t := 13) F dX9_bearsIn_12 rfl rfl rfl ?_
  refine q_iconst (t := 14) F dX9_bearsIn_13 rfl ?_
  refine q_icmp_ne (t := 17) (u := 19) F dX9_bearsIn_14 (by first | exact hR _ _ _ | (constructor <;> omega)) (by first | exact hR _ _ _ | (constructor <;> omega)) (by decide) rfl (fun c14 => ?_) (fun c14 => ?_)
  · refine q_aload_n (t := 20) F dX9_bearsIn_19 rfl rfl rfl ?_
    refine g_X9_23 (t := 23) F dX9_bearsIn_20 rfl rfl ?_
    refine q_aload_n (t := 24) F dX9_bearsIn_23 rfl rfl rfl ?_
    refine g_X9_117 (t := 27) F dX9_bearsIn_24 rfl rfl ?_
    refine q_bipush (t := 29) F dX9_bearsIn_27 (by decide) rfl ?_
    refine q_irem (t := 30) F dX9_bearsIn_29 (by exact hR _ _ _) (by constructor <;> omega) (by omega) (by omega) rfl ?_
    refine q_ishr (t := 31) F dX9_bearsIn_30 (by exact hR _ _ _) (by omega) (by omega) (by omega) rfl ?_
    refine q_iconst (t := 32) F dX9_bearsIn_31 rfl ?_
    refine q_iand1 (t := 33) F dX9_bearsIn_32 rfl ?_
    refine q_iconst (t := 34) F dX9_bearsIn_33 rfl ?_
    obtain ⟨cz, hcz⟩ : ∃ cz, cz = im 30 0 8 / 2 ^ (im 30 0 7 % 24).toNat % 2 := ⟨_, rfl⟩
    have hcz1 : 0 ≤ cz ∧ cz ≤ 1 := by omega
    rw [← hcz]
    rw [← hcz] at hch
    refine q_icmp_ne (t := 37) (u := 41) F dX9_bearsIn_34 (by constructor <;> omega) (by constructor <;> omega) (by decide) rfl (fun c34 => ?_) (fun c34 => ?_)
    · refine q_iconst (t := 42) F dX9_bearsIn_41 rfl ?_
      refine q_istore (t := 44) F dX9_bearsIn_42 (by decide) rfl rfl ?_
      refine q_aload_n (t := 45) F dX9_bearsIn_44 rfl rfl rfl ?_
      refine q_iconst (t := 46) F dX9_bearsIn_45 rfl ?_
      refine q_iload_n (t := 47) F dX9_bearsIn_46 rfl rfl rfl ?_
      refine q_aload_n (t := 48) F dX9_bearsIn_47 rfl rfl rfl ?_
      refine g_X9_32 (t := 51) F dX9_bearsIn_48 rfl rfl ?_
      refine q_iload_n (t := 52) F dX9_bearsIn_51 rfl rfl rfl ?_
      first | refine ldN_36 (t := 53) F dX9_bearsIn_52 (by omega) rfl ?_ | refine ld_36 (t := 53) F dX9_bearsIn_52 (by omega) (by omega) rfl ?_
      refine q_iconst (t := 54) F dX9_bearsIn_53 rfl ?_
      refine q_iload_n (t := 55) F dX9_bearsIn_54 rfl rfl rfl ?_
      refine q_bipush (t := 57) F dX9_bearsIn_55 (by decide) rfl ?_
      refine q_irem (t := 58) F dX9_bearsIn_57 (by first | exact hR _ _ _ | (constructor <;> omega)) (by first | exact hR _ _ _ | (constructor <;> omega)) (by omega) (by omega) rfl ?_
      rw [show (q : Int) % 10 = ((q % 10 : Nat) : Int) by omega]
      refine q_aload_n (t := 59) F dX9_bearsIn_58 rfl rfl rfl ?_
      refine g_X9_35 (t := 62) F dX9_bearsIn_59 rfl rfl ?_
      refine q_iload_n (t := 63) F dX9_bearsIn_62 rfl rfl rfl ?_
      first | refine ldN_37 (t := 64) F dX9_bearsIn_63 (by omega) rfl ?_ | refine ld_37 (t := 64) F dX9_bearsIn_63 (by omega) (by omega) rfl ?_
      refine wp_callV (t := 67) [_, _, _, _, _, _] F dX9_bearsIn_64 k_X9_asks v_X9_asks ml_X9_354 rfl rfl rfl rfl (Nat.le_of_ble_eq_true rfl) (by decide) (m_30 (by omega)) (c_asksC _ G im bt rt lm h 2 (q / 10) (by omega) (by omega) _ _ _ _ (by exact hR _ _ _) (by constructor <;> omega) (by constructor <;> omega) (by exact hR _ _ _)) rfl (kI ?_)
      rintro v m' ⟨im2, lm2, hv, hR2, hag, hlg, rfl⟩
      have hv1 := sayR_in im (im 30 0 4).toNat 2 (nmA (im 36 0 q) 0 (im 30 0 7) (im 35 0 (q / 10)) ((q % 10 : Nat) : Int) (im 37 0 q))
      rw [← hv] at hv1
      refine q_istore (t := 69) F dX9_bearsIn_67 (by decide) rfl rfl ?_
      refine q_iload (t := 71) F dX9_bearsIn_69 rfl rfl ?_
      refine q_if_eq (t := 74) (u := 81) F dX9_bearsIn_71 (by first | exact hR _ _ _ | (constructor <;> omega)) (by decide) rfl (fun c71 => ?_) (fun c71 => ?_)
      · refine q_iload (t := 83) F dX9_bearsIn_81 rfl rfl ?_
        refine q_istore (t := 85) F dX9_bearsIn_83 (by decide) rfl rfl ?_
        refine q_iload (t := 87) F dX9_bearsIn_85 rfl rfl ?_
        refine q_aload_n (t := 88) F dX9_bearsIn_87 rfl rfl rfl ?_
        refine g_X9_29 (t := 91) F dX9_bearsIn_88 rfl rfl ?_
        refine q_iload_n (t := 92) F dX9_bearsIn_91 rfl rfl rfl ?_
        first | refine ldN_35 (t := 93) F dX9_bearsIn_92 (by omega) rfl ?_ | refine ld_35 (t := 93) F dX9_bearsIn_92 (by omega) (by omega) rfl ?_
        try simp only [up_app, row_app, scr_app, cpy_app, Nat.reduceEqDiff, Int.reduceToNat, Int.toNat_natCast, and_true, true_and, and_false, false_and, and_self, reduceIte]
        rw [hag 35 0 _ (by omega)]
        refine q_iadd (t := 94) F dX9_bearsIn_93 rfl ?_
        refine q_istore (t := 96) F dX9_bearsIn_94 (by decide) rfl rfl ?_
        refine q_iload_n (t := 97) F dX9_bearsIn_96 rfl rfl rfl ?_
        refine q_iconst (t := 98) F dX9_bearsIn_97 rfl ?_
        refine q_icmp_ne (t := 101) (u := 106) F dX9_bearsIn_98 (by constructor <;> omega) (by constructor <;> omega) (by decide) rfl (fun c98 => ?_) (fun c98 => ?_)
        · refine q_iload_n (t := 107) F dX9_bearsIn_106 rfl rfl rfl ?_
          refine q_iconst (t := 108) F dX9_bearsIn_107 rfl ?_
          refine q_icmp_ne (t := 111) (u := 128) F dX9_bearsIn_108 (by first | exact hR _ _ _ | (constructor <;> omega)) (by first | exact hR _ _ _ | (constructor <;> omega)) (by decide) rfl (fun c108 => ?_) (fun c108 => ?_)
          · refine q_iload (t := 130) F dX9_bearsIn_128 rfl rfl ?_
            refine q_iret F dX9_bearsIn_130 rfl ?_
            refine ⟨_, rfl, im2, lm2, ?_, hR2, hag, hlg, rfl⟩
            rw [← hv, hch]
            unfold bearsK
            (repeat' split) <;> first | rfl | omega
          · refine q_iload (t := 113) F dX9_bearsIn_111 rfl rfl ?_
            refine q_if_eq (t := 116) (u := 123) F dX9_bearsIn_113 (by first | exact hR _ _ _ | (constructor <;> omega)) (by decide) rfl (fun c113 => ?_) (fun c113 => ?_)
            · refine q_iload (t := 125) F dX9_bearsIn_123 rfl rfl ?_
              refine q_goto (t := 130) F dX9_bearsIn_125 (by decide) ?_
              refine q_iret F dX9_bearsIn_130 rfl ?_
              refine ⟨_, rfl, im2, lm2, ?_, hR2, hag, hlg, rfl⟩
              rw [← hv, hch]
              unfold bearsK
              (repeat' split) <;> first | rfl | omega
            · refine q_iconst (t := 117) F dX9_bearsIn_116 rfl ?_
              refine q_iload (t := 119) F dX9_bearsIn_117 rfl rfl ?_
              refine q_imul (t := 120) F dX9_bearsIn_119 rfl ?_
              refine q_goto (t := 130) F dX9_bearsIn_120 (by decide) ?_
              refine q_iret F dX9_bearsIn_130 rfl ?_
              refine ⟨_, rfl, im2, lm2, ?_, hR2, hag, hlg, rfl⟩
              rw [← hv, hch]
              unfold bearsK
              (repeat' split) <;> first | rfl | omega
        · refine q_iload (t := 103) F dX9_bearsIn_101 rfl rfl ?_
          refine q_goto (t := 130) F dX9_bearsIn_103 (by decide) ?_
          refine q_iret F dX9_bearsIn_130 rfl ?_
          refine ⟨_, rfl, im2, lm2, ?_, hR2, hag, hlg, rfl⟩
          rw [← hv, hch]
          unfold bearsK
          (repeat' split) <;> first | rfl | omega
      · refine q_iconst (t := 75) F dX9_bearsIn_74 rfl ?_
        refine q_iload (t := 77) F dX9_bearsIn_75 rfl rfl ?_
        refine q_imul (t := 78) F dX9_bearsIn_77 rfl ?_
        refine q_goto (t := 83) F dX9_bearsIn_78 (by decide) ?_
        refine q_istore (t := 85) F dX9_bearsIn_83 (by decide) rfl rfl ?_
        refine q_iload (t := 87) F dX9_bearsIn_85 rfl rfl ?_
        refine q_aload_n (t := 88) F dX9_bearsIn_87 rfl rfl rfl ?_
        refine g_X9_29 (t := 91) F dX9_bearsIn_88 rfl rfl ?_
        refine q_iload_n (t := 92) F dX9_bearsIn_91 rfl rfl rfl ?_
        first | refine ldN_35 (t := 93) F dX9_bearsIn_92 (by omega) rfl ?_ | refine ld_35 (t := 93) F dX9_bearsIn_92 (by omega) (by omega) rfl ?_
        try simp only [up_app, row_app, scr_app, cpy_app, Nat.reduceEqDiff, Int.reduceToNat, Int.toNat_natCast, and_true, true_and, and_false, false_and, and_self, reduceIte]
        rw [hag 35 0 _ (by omega)]
        refine q_iadd (t := 94) F dX9_bearsIn_93 rfl ?_
        refine q_istore (t := 96) F dX9_bearsIn_94 (by decide) rfl rfl ?_
        refine q_iload_n (t := 97) F dX9_bearsIn_96 rfl rfl rfl ?_
        refine q_iconst (t := 98) F dX9_bearsIn_97 rfl ?_
        refine q_icmp_ne (t := 101) (u := 106) F dX9_bearsIn_98 (by constructor <;> omega) (by constructor <;> omega) (by decide) rfl (fun c98 => ?_) (fun c98 => ?_)
        · refine q_iload_n (t := 107) F dX9_bearsIn_106 rfl rfl rfl ?_
          refine q_iconst (t := 108) F dX9_bearsIn_107 rfl ?_
          refine q_icmp_ne (t := 111) (u := 128) F dX9_bearsIn_108 (by first | exact hR _ _ _ | (constructor <;> omega)) (by first | exact hR _ _ _ | (constructor <;> omega)) (by decide) rfl (fun c108 => ?_) (fun c108 => ?_)
          · refine q_iload (t := 130) F dX9_bearsIn_128 rfl rfl ?_
            refine q_iret F dX9_bearsIn_130 rfl ?_
            refine ⟨_, rfl, im2, lm2, ?_, hR2, hag, hlg, rfl⟩
            rw [← hv, hch]
            unfold bearsK
            (repeat' split) <;> first | rfl | omega
          · refine q_iload (t := 113) F dX9_bearsIn_111 rfl rfl ?_
            refine q_if_eq (t := 116) (u := 123) F dX9_bearsIn_113 (by first | exact hR _ _ _ | (constructor <;> omega)) (by decide) rfl (fun c113 => ?_) (fun c113 => ?_)
            · refine q_iload (t := 125) F dX9_bearsIn_123 rfl rfl ?_
              refine q_goto (t := 130) F dX9_bearsIn_125 (by decide) ?_
              refine q_iret F dX9_bearsIn_130 rfl ?_
              refine ⟨_, rfl, im2, lm2, ?_, hR2, hag, hlg, rfl⟩
              rw [← hv, hch]
              unfold bearsK
              (repeat' split) <;> first | rfl | omega
            · refine q_iconst (t := 117) F dX9_bearsIn_116 rfl ?_
              refine q_iload (t := 119) F dX9_bearsIn_117 rfl rfl ?_
              refine q_imul (t := 120) F dX9_bearsIn_119 rfl ?_
              refine q_goto (t := 130) F dX9_bearsIn_120 (by decide) ?_
              refine q_iret F dX9_bearsIn_130 rfl ?_
              refine ⟨_, rfl, im2, lm2, ?_, hR2, hag, hlg, rfl⟩
              rw [← hv, hch]
              unfold bearsK
              (repeat' split) <;> first | rfl | omega
        · refine q_iload (t := 103) F dX9_bearsIn_101 rfl rfl ?_
          refine q_goto (t := 130) F dX9_bearsIn_103 (by decide) ?_
          refine q_iret F dX9_bearsIn_130 rfl ?_
          refine ⟨_, rfl, im2, lm2, ?_, hR2, hag, hlg, rfl⟩
          rw [← hv, hch]
          unfold bearsK
          (repeat' split) <;> first | rfl | omega
    · refine q_iconst (t := 38) F dX9_bearsIn_37 rfl ?_
      refine q_goto (t := 42) F dX9_bearsIn_38 (by decide) ?_
      refine q_istore (t := 44) F dX9_bearsIn_42 (by decide) rfl rfl ?_
      refine q_aload_n (t := 45) F dX9_bearsIn_44 rfl rfl rfl ?_
      refine q_iconst (t := 46) F dX9_bearsIn_45 rfl ?_
      refine q_iload_n (t := 47) F dX9_bearsIn_46 rfl rfl rfl ?_
      refine q_aload_n (t := 48) F dX9_bearsIn_47 rfl rfl rfl ?_
      refine g_X9_32 (t := 51) F dX9_bearsIn_48 rfl rfl ?_
      refine q_iload_n (t := 52) F dX9_bearsIn_51 rfl rfl rfl ?_
      first | refine ldN_36 (t := 53) F dX9_bearsIn_52 (by omega) rfl ?_ | refine ld_36 (t := 53) F dX9_bearsIn_52 (by omega) (by omega) rfl ?_
      refine q_iconst (t := 54) F dX9_bearsIn_53 rfl ?_
      refine q_iload_n (t := 55) F dX9_bearsIn_54 rfl rfl rfl ?_
      refine q_bipush (t := 57) F dX9_bearsIn_55 (by decide) rfl ?_
      refine q_irem (t := 58) F dX9_bearsIn_57 (by first | exact hR _ _ _ | (constructor <;> omega)) (by first | exact hR _ _ _ | (constructor <;> omega)) (by omega) (by omega) rfl ?_
      rw [show (q : Int) % 10 = ((q % 10 : Nat) : Int) by omega]
      refine q_aload_n (t := 59) F dX9_bearsIn_58 rfl rfl rfl ?_
      refine g_X9_35 (t := 62) F dX9_bearsIn_59 rfl rfl ?_
      refine q_iload_n (t := 63) F dX9_bearsIn_62 rfl rfl rfl ?_
      first | refine ldN_37 (t := 64) F dX9_bearsIn_63 (by omega) rfl ?_ | refine ld_37 (t := 64) F dX9_bearsIn_63 (by omega) (by omega) rfl ?_
      refine wp_callV (t := 67) [_, _, _, _, _, _] F dX9_bearsIn_64 k_X9_asks v_X9_asks ml_X9_354 rfl rfl rfl rfl (Nat.le_of_ble_eq_true rfl) (by decide) (m_30 (by omega)) (c_asksC _ G im bt rt lm h 2 (q / 10) (by omega) (by omega) _ _ _ _ (by exact hR _ _ _) (by constructor <;> omega) (by constructor <;> omega) (by exact hR _ _ _)) rfl (kI ?_)
      rintro v m' ⟨im2, lm2, hv, hR2, hag, hlg, rfl⟩
      have hv1 := sayR_in im (im 30 0 4).toNat 2 (nmA (im 36 0 q) 0 (im 30 0 7) (im 35 0 (q / 10)) ((q % 10 : Nat) : Int) (im 37 0 q))
      rw [← hv] at hv1
      refine q_istore (t := 69) F dX9_bearsIn_67 (by decide) rfl rfl ?_
      refine q_iload (t := 71) F dX9_bearsIn_69 rfl rfl ?_
      refine q_if_eq (t := 74) (u := 81) F dX9_bearsIn_71 (by first | exact hR _ _ _ | (constructor <;> omega)) (by decide) rfl (fun c71 => ?_) (fun c71 => ?_)
      · refine q_iload (t := 83) F dX9_bearsIn_81 rfl rfl ?_
        refine q_istore (t := 85) F dX9_bearsIn_83 (by decide) rfl rfl ?_
        refine q_iload (t := 87) F dX9_bearsIn_85 rfl rfl ?_
        refine q_aload_n (t := 88) F dX9_bearsIn_87 rfl rfl rfl ?_
        refine g_X9_29 (t := 91) F dX9_bearsIn_88 rfl rfl ?_
        refine q_iload_n (t := 92) F dX9_bearsIn_91 rfl rfl rfl ?_
        first | refine ldN_35 (t := 93) F dX9_bearsIn_92 (by omega) rfl ?_ | refine ld_35 (t := 93) F dX9_bearsIn_92 (by omega) (by omega) rfl ?_
        try simp only [up_app, row_app, scr_app, cpy_app, Nat.reduceEqDiff, Int.reduceToNat, Int.toNat_natCast, and_true, true_and, and_false, false_and, and_self, reduceIte]
        rw [hag 35 0 _ (by omega)]
        refine q_iadd (t := 94) F dX9_bearsIn_93 rfl ?_
        refine q_istore (t := 96) F dX9_bearsIn_94 (by decide) rfl rfl ?_
        refine q_iload_n (t := 97) F dX9_bearsIn_96 rfl rfl rfl ?_
        refine q_iconst (t := 98) F dX9_bearsIn_97 rfl ?_
        refine q_icmp_ne (t := 101) (u := 106) F dX9_bearsIn_98 (by constructor <;> omega) (by constructor <;> omega) (by decide) rfl (fun c98 => ?_) (fun c98 => ?_)
        · refine q_iload_n (t := 107) F dX9_bearsIn_106 rfl rfl rfl ?_
          refine q_iconst (t := 108) F dX9_bearsIn_107 rfl ?_
          refine q_icmp_ne (t := 111) (u := 128) F dX9_bearsIn_108 (by first | exact hR _ _ _ | (constructor <;> omega)) (by first | exact hR _ _ _ | (constructor <;> omega)) (by decide) rfl (fun c108 => ?_) (fun c108 => ?_)
          · refine q_iload (t := 130) F dX9_bearsIn_128 rfl rfl ?_
            refine q_iret F dX9_bearsIn_130 rfl ?_
            refine ⟨_, rfl, im2, lm2, ?_, hR2, hag, hlg, rfl⟩
            rw [← hv, hch]
            unfold bearsK
            (repeat' split) <;> first | rfl | omega
          · refine q_iload (t := 113) F dX9_bearsIn_111 rfl rfl ?_
            refine q_if_eq (t := 116) (u := 123) F dX9_bearsIn_113 (by first | exact hR _ _ _ | (constructor <;> omega)) (by decide) rfl (fun c113 => ?_) (fun c113 => ?_)
            · refine q_iload (t := 125) F dX9_bearsIn_123 rfl rfl ?_
              refine q_goto (t := 130) F dX9_bearsIn_125 (by decide) ?_
              refine q_iret F dX9_bearsIn_130 rfl ?_
              refine ⟨_, rfl, im2, lm2, ?_, hR2, hag, hlg, rfl⟩
              rw [← hv, hch]
              unfold bearsK
              (repeat' split) <;> first | rfl | omega
            · refine q_iconst (t := 117) F dX9_bearsIn_116 rfl ?_
              refine q_iload (t := 119) F dX9_bearsIn_117 rfl rfl ?_
              refine q_imul (t := 120) F dX9_bearsIn_119 rfl ?_
              refine q_goto (t := 130) F dX9_bearsIn_120 (by decide) ?_
              refine q_iret F dX9_bearsIn_130 rfl ?_
              refine ⟨_, rfl, im2, lm2, ?_, hR2, hag, hlg, rfl⟩
              rw [← hv, hch]
              unfold bearsK
              (repeat' split) <;> first | rfl | omega
        · refine q_iload (t := 103) F dX9_bearsIn_101 rfl rfl ?_
          refine q_goto (t := 130) F dX9_bearsIn_103 (by decide) ?_
          refine q_iret F dX9_bearsIn_130 rfl ?_
          refine ⟨_, rfl, im2, lm2, ?_, hR2, hag, hlg, rfl⟩
          rw [← hv, hch]
          unfold bearsK
          (repeat' split) <;> first | rfl | omega
      · refine q_iconst (t := 75) F dX9_bearsIn_74 rfl ?_
        refine q_iload (t := 77) F dX9_bearsIn_75 rfl rfl ?_
        refine q_imul (t := 78) F dX9_bearsIn_77 rfl ?_
        refine q_goto (t := 83) F dX9_bearsIn_78 (by decide) ?_
        refine q_istore (t := 85) F dX9_bearsIn_83 (by decide) rfl rfl ?_
        refine q_iload (t := 87) F dX9_bearsIn_85 rfl rfl ?_
        refine q_aload_n (t := 88) F dX9_bearsIn_87 rfl rfl rfl ?_
        refine g_X9_29 (t := 91) F dX9_bearsIn_88 rfl rfl ?_
        refine q_iload_n (t := 92) F dX9_bearsIn_91 rfl rfl rfl ?_
        first | refine ldN_35 (t := 93) F dX9_bearsIn_92 (by omega) rfl ?_ | refine ld_35 (t := 93) F dX9_bearsIn_92 (by omega) (by omega) rfl ?_
        try simp only [up_app, row_app, scr_app, cpy_app, Nat.reduceEqDiff, Int.reduceToNat, Int.toNat_natCast, and_true, true_and, and_false, false_and, and_self, reduceIte]
        rw [hag 35 0 _ (by omega)]
        refine q_iadd (t := 94) F dX9_bearsIn_93 rfl ?_
        refine q_istore (t := 96) F dX9_bearsIn_94 (by decide) rfl rfl ?_
        refine q_iload_n (t := 97) F dX9_bearsIn_96 rfl rfl rfl ?_
        refine q_iconst (t := 98) F dX9_bearsIn_97 rfl ?_
        refine q_icmp_ne (t := 101) (u := 106) F dX9_bearsIn_98 (by constructor <;> omega) (by constructor <;> omega) (by decide) rfl (fun c98 => ?_) (fun c98 => ?_)
        · refine q_iload_n (t := 107) F dX9_bearsIn_106 rfl rfl rfl ?_
          refine q_iconst (t := 108) F dX9_bearsIn_107 rfl ?_
          refine q_icmp_ne (t := 111) (u := 128) F dX9_bearsIn_108 (by first | exact hR _ _ _ | (constructor <;> omega)) (by first | exact hR _ _ _ | (constructor <;> omega)) (by decide) rfl (fun c108 => ?_) (fun c108 => ?_)
          · refine q_iload (t := 130) F dX9_bearsIn_128 rfl rfl ?_
            refine q_iret F dX9_bearsIn_130 rfl ?_
            refine ⟨_, rfl, im2, lm2, ?_, hR2, hag, hlg, rfl⟩
            rw [← hv, hch]
            unfold bearsK
            (repeat' split) <;> first | rfl | omega
          · refine q_iload (t := 113) F dX9_bearsIn_111 rfl rfl ?_
            refine q_if_eq (t := 116) (u := 123) F dX9_bearsIn_113 (by first | exact hR _ _ _ | (constructor <;> omega)) (by decide) rfl (fun c113 => ?_) (fun c113 => ?_)
            · refine q_iload (t := 125) F dX9_bearsIn_123 rfl rfl ?_
              refine q_goto (t := 130) F dX9_bearsIn_125 (by decide) ?_
              refine q_iret F dX9_bearsIn_130 rfl ?_
              refine ⟨_, rfl, im2, lm2, ?_, hR2, hag, hlg, rfl⟩
              rw [← hv, hch]
              unfold bearsK
              (repeat' split) <;> first | rfl | omega
            · refine q_iconst (t := 117) F dX9_bearsIn_116 rfl ?_
              refine q_iload (t := 119) F dX9_bearsIn_117 rfl rfl ?_
              refine q_imul (t := 120) F dX9_bearsIn_119 rfl ?_
              refine q_goto (t := 130) F dX9_bearsIn_120 (by decide) ?_
              refine q_iret F dX9_bearsIn_130 rfl ?_
              refine ⟨_, rfl, im2, lm2, ?_, hR2, hag, hlg, rfl⟩
              rw [← hv, hch]
              unfold bearsK
              (repeat' split) <;> first | rfl | omega
        · refine q_iload (t := 103) F dX9_bearsIn_101 rfl rfl ?_
          refine q_goto (t := 130) F dX9_bearsIn_103 (by decide) ?_
          refine q_iret F dX9_bearsIn_130 rfl ?_
          refine ⟨_, rfl, im2, lm2, ?_, hR2, hag, hlg, rfl⟩
          rw [← hv, hch]
          unfold bearsK
          (repeat' split) <;> first | rfl | omega
  · refine q_iconst (t := 18) F dX9_bearsIn_17 rfl ?_
    refine q_iret F dX9_bearsIn_18 rfl ?_
    refine ⟨_, rfl, im, lm, ?_, hR, agY_rfl im, lgQ_rfl lm, rfl⟩
    unfold bearsK
    (repeat' split) <;> first | rfl | omega
end
section
/-! the reference: a word is said -/

def stR (im : IM) (p : Nat) : Nat → Int := fun g => im 36 0 (10 * p + g)
def gpR (im : IM) (p : Nat) (w fd : Int) : Int := takesK (im 34 0 p) (sayR im (im 30 0 4).toNat 0 (nmA w fd (im 30 0 7) (im 35 0 p) 0 (cntW (stR im p) 10)))
def utR (im : IM) (p : Nat) (w fd : Int) : Int := if 0 ≤ gpR im p w fd ∧ im 36 0 (10 * p + (gpR im p w fd).toNat) = -1 then gpR im p w fd else -1
theorem takesR_in {k v : Int} (h : 0 ≤ v ∧ v ≤ 99) : -1 ≤ takesK k v ∧ takesK k v ≤ 9 := by
  unfold takesK
  (repeat' split) <;> omega

set_option maxHeartbeats 4000000 in
theorem c_X9_stuckOf (l : Launch) (G : GS) (im : IM) (bt rt : Nat) (lm : IM) (hR : RI im) (p : Nat) (hp : p < 5) : Cn l (XR G) yX9_stuckOf Y_X9_stuckOf [vR 30 0, vI (p : Int)] (im, rs bt rt, lm) (pI fun x m' => x = cntW (stR im p) 10 ∧ m' = (im, rs bt rt, lm)) := by
  refine cn_of (by decide) (okR G) rfl (Nat.le_of_ble_eq_true rfl) ?_
  intro M ad hMl F
  subst hMl
  refine wp_pad 2 ?_
  show Wp M (XR G) ad Y_X9_stuckOf (pI fun x m' => x = cntW (stR im p) 10 ∧ m' = (im, rs bt rt, lm)) 0 [some (vR 30 0), some (vI (p : Int)), none, none] [] (im, rs bt rt, lm)
  refine q_iconst (t := 1) F dX9_stuckOf_0 rfl ?_
  refine q_istore_n (t := 2) F dX9_stuckOf_1 rfl (by decide) rfl rfl ?_
  refine q_iconst (t := 3) F dX9_stuckOf_2 rfl ?_
  refine q_istore_n (t := 4) F dX9_stuckOf_3 rfl (by decide) rfl rfl ?_
  have L4 : ∀ (fz : Nat) (i : Nat), 10 - i < fz → i ≤ 10 → Wp M (XR G) ad Y_X9_stuckOf (pI fun x m' => x = cntW (stR im p) 10 ∧ m' = (im, rs bt rt, lm)) 4 [some (vR 30 0), some (vI (p : Int)), some (vI (cntW (stR im p) i)), some (vI (i : Int))] [] (im, rs bt rt, lm) := by
    intro fz
    induction fz with
    | zero => intro i h; exact absurd h (Nat.not_lt_zero _)
    | succ fz ih =>
      have ih4 := ih
      intro i hmeas hi
      have hc := cntW_in (stR im p) i
      have hs : cntW (stR im p) (i + 1) = cntW (stR im p) i + (if im 36 0 (10 * p + i) = -1 then 0 else 1) := rfl
      refine q_iload_n (t := 5) F dX9_stuckOf_4 rfl rfl rfl ?_
      refine q_bipush (t := 7) F dX9_stuckOf_5 (by decide) rfl ?_
      refine q_icmp_ge (t := 10) (u := 39) F dX9_stuckOf_7 (by constructor <;> omega) (by constructor <;> omega) (by decide) rfl (fun c7 => ?_) (fun c7 => ?_)
      · refine q_iload_n (t := 40) F dX9_stuckOf_39 rfl rfl rfl ?_
        refine q_iret F dX9_stuckOf_40 rfl ?_
        obtain rfl : i = 10 := by omega
        exact ⟨_, rfl, rfl, rfl⟩
      · refine q_iload_n (t := 11) F dX9_stuckOf_10 rfl rfl rfl ?_
        refine q_aload_n (t := 12) F dX9_stuckOf_11 rfl rfl rfl ?_
        refine g_X9_32 (t := 15) F dX9_stuckOf_12 rfl rfl ?_
        refine q_bipush (t := 17) F dX9_stuckOf_15 (by decide) rfl ?_
        refine q_iload_n (t := 18) F dX9_stuckOf_17 rfl rfl rfl ?_
        refine q_imul (t := 19) F dX9_stuckOf_18 rfl ?_
        refine q_iload_n (t := 20) F dX9_stuckOf_19 rfl rfl rfl ?_
        refine q_iadd (t := 21) F dX9_stuckOf_20 rfl ?_
        rw [show (10 : Int) * (p : Int) + (i : Int) = ((10 * p + i : Nat) : Int) by omega]
        first | refine ldN_36 (t := 22) F dX9_stuckOf_21 (by omega) rfl ?_ | refine ld_36 (t := 22) F dX9_stuckOf_21 (by omega) (by omega) rfl ?_
        refine q_iconst (t := 23) F dX9_stuckOf_22 rfl ?_
        refine q_icmp_ne (t := 26) (u := 30) F dX9_stuckOf_23 (by exact hR _ _ _) (by constructor <;> omega) (by decide) rfl (fun c23 => ?_) (fun c23 => ?_)
        · refine q_iconst (t := 31) F dX9_stuckOf_30 rfl ?_
          refine q_iadd (t := 32) F dX9_stuckOf_31 rfl ?_
          refine q_istore_n (t := 33) F dX9_stuckOf_32 rfl (by decide) rfl rfl ?_
          refine q_iinc (t := 36) F dX9_stuckOf_33 rfl (by decide) rfl rfl ?_
          refine q_goto (t := 4) F dX9_stuckOf_36 (by decide) ?_
          rw [show (i : Int) + 1 = ((i + 1 : Nat) : Int) by omega]
          first
            | (rw [show cntW (stR im p) i + 0 = cntW (stR im p) (i + 1) by rw [hs, if_pos (by omega)]]
               exact ih4 (i + 1) (by omega) (by omega))
            | (rw [show cntW (stR im p) i + 1 = cntW (stR im p) (i + 1) by rw [hs, if_neg (by omega)]]
               exact ih4 (i + 1) (by omega) (by omega))
        · refine q_iconst (t := 27) F dX9_stuckOf_26 rfl ?_
          refine q_goto (t := 31) F dX9_stuckOf_27 (by decide) ?_
          refine q_iadd (t := 32) F dX9_stuckOf_31 rfl ?_
          refine q_istore_n (t := 33) F dX9_stuckOf_32 rfl (by decide) rfl rfl ?_
          refine q_iinc (t := 36) F dX9_stuckOf_33 rfl (by decide) rfl rfl ?_
          refine q_goto (t := 4) F dX9_stuckOf_36 (by decide) ?_
          rw [show (i : Int) + 1 = ((i + 1 : Nat) : Int) by omega]
          first
            | (rw [show cntW (stR im p) i + 0 = cntW (stR im p) (i + 1) by rw [hs, if_pos (by omega)]]
               exact ih4 (i + 1) (by omega) (by omega))
            | (rw [show cntW (stR im p) i + 1 = cntW (stR im p) (i + 1) by rw [hs, if_neg (by omega)]]
               exact ih4 (i + 1) (by omega) (by omega))
  exact L4 _ 0 (Nat.lt_succ_self _) (Nat.zero_le _)

set_option maxHeartbeats 4000000 in
theorem c_X9_wouldStick (l : Launch) (G : GS) (im : IM) (bt rt : Nat) (lm : IM) (h : RC im) (p : Nat) (hp : (p : Int) < im 30 0 12) (w fd : Int) (hw : ri w) (hfd : ri fd) : Cn l (XR G) yX9_wouldStick Y_X9_wouldStick [vR 30 0, vI (p : Int), vI w, vI fd] (im, rs bt rt, lm) (pI fun x m' => ∃ im' lm', x = utR im p w fd ∧ RI im' ∧ agY im' im ∧ lgQ lm' lm ∧ m' = (im', rs bt rt, lm')) := by
  refine cn_of (by decide) (okR G) rfl (Nat.le_of_ble_eq_true rfl) ?_
  intro M ad hMl F
  subst hMl
  obtain ⟨hR, hX, h4, h12, h7, h8, hP⟩ := id h
  have hp5 : p < 5 := by omega
  obtain ⟨hk, hn, hg⟩ := hP p (by omega)
  have hcn := cntW_in (stR im p) 10
  refine wp_pad 1 ?_
  show Wp M (XR G) ad Y_X9_wouldStick (pI fun x m' => ∃ im' lm', x = utR im p w fd ∧ RI im' ∧ agY im' im ∧ lgQ lm' lm ∧ m' = (im', rs bt rt, lm')) 0 [some (vR 30 0), some (vI (p : Int)), some (vI w), some (vI fd), none] [] (im, rs bt rt, lm)
  refine q_aload_n (t := 1) F dX9_wouldStick_0 rfl rfl rfl ?_
  refine q_iload_n (t := 2) F dX9_wouldStick_1 rfl rfl rfl ?_
  refine q_aload_n (t := 3) F dX9_wouldStick_2 rfl rfl rfl ?_
  refine q_iconst (t := 4) F dX9_wouldStick_3 rfl ?_
  refine q_iload_n (t := 5) F dX9_wouldStick_4 rfl rfl rfl ?_
  refine q_iload_n (t := 6) F dX9_wouldStick_5 rfl rfl rfl ?_
  refine q_iload_n (t := 7) F dX9_wouldStick_6 rfl rfl rfl ?_
  refine q_iconst (t := 8) F dX9_wouldStick_7 rfl ?_
  refine q_aload_n (t := 9) F dX9_wouldStick_8 rfl rfl rfl ?_
  refine q_iload_n (t := 10) F dX9_wouldStick_9 rfl rfl rfl ?_
  refine wp_callV (t := 13) [_] F dX9_wouldStick_10 k_X9_stuckOf v_X9_stuckOf ml_X9_131 rfl rfl rfl rfl (Nat.le_of_ble_eq_true rfl) (by decide) (m_30 (by omega)) (c_X9_stuckOf _ G im bt rt lm hR p hp5) rfl (kI ?_)
  rintro x10 m' ⟨rfl, rfl⟩
  refine wp_callV (t := 16) [_, _, _, _, _, _] F dX9_wouldStick_13 k_X9_asks v_X9_asks ml_X9_354 rfl rfl rfl rfl (Nat.le_of_ble_eq_true rfl) (by decide) (m_30 (by omega)) (c_asksC _ G im bt rt lm h 0 p (by omega) hp5 w fd 0 _ hw hfd (by constructor <;> omega) (by constructor <;> omega)) rfl (kI ?_)
  rintro v m' ⟨im2, lm2, hv, hR2, hag, hlg, rfl⟩
  have hv1 := sayR_in im (im 30 0 4).toNat 0 (nmA w fd (im 30 0 7) (im 35 0 p) 0 (cntW (stR im p) 10))
  rw [← hv] at hv1
  refine wp_callV (t := 19) [_, _] F dX9_wouldStick_16 k_X9_takesOf v_X9_takesOf ml_X9_358 rfl rfl rfl rfl (Nat.le_of_ble_eq_true rfl) (by decide) (m_30 (by omega)) (c_X9_takesOf _ G im2 bt rt lm2 hR2 p hp5 (by rw [hag 34 0 p (by omega)]; exact hk) v hv1) rfl (kI ?_)
  rintro g m' ⟨hgg, rfl⟩
  have hg1 := takesR_in (k := im2 34 0 p) hv1
  rw [← hgg] at hg1
  have hge : g = gpR im p w fd := by rw [hgg, hag 34 0 p (by omega), hv]; rfl
  refine q_istore (t := 21) F dX9_wouldStick_19 (by decide) rfl rfl ?_
  refine q_iload (t := 23) F dX9_wouldStick_21 rfl rfl ?_
  refine q_iconst (t := 24) F dX9_wouldStick_23 rfl ?_
  refine q_icmp_eq (t := 27) (u := 43) F dX9_wouldStick_24 (by constructor <;> omega) (by constructor <;> omega) (by decide) rfl (fun c24 => ?_) (fun c24 => ?_)
  · refine q_iconst (t := 44) F dX9_wouldStick_43 rfl ?_
    refine q_goto (t := 49) F dX9_wouldStick_44 (by decide) ?_
    refine q_iret F dX9_wouldStick_49 rfl ?_
    refine ⟨_, rfl, im2, lm2, ?_, hR2, hag, hlg, rfl⟩
    unfold utR
    rw [← hge]
    refine Eq.symm ?_
    first
      | exact if_pos (by omega)
      | exact if_neg (by omega)
  · refine q_aload_n (t := 28) F dX9_wouldStick_27 rfl rfl rfl ?_
    refine g_X9_32 (t := 31) F dX9_wouldStick_28 rfl rfl ?_
    refine q_bipush (t := 33) F dX9_wouldStick_31 (by decide) rfl ?_
    refine q_iload_n (t := 34) F dX9_wouldStick_33 rfl rfl rfl ?_
    refine q_imul (t := 35) F dX9_wouldStick_34 rfl ?_
    refine q_iload (t := 37) F dX9_wouldStick_35 rfl rfl ?_
    refine q_iadd (t := 38) F dX9_wouldStick_37 rfl ?_
    rw [show (10 : Int) * (p : Int) + g = ((10 * p + g.toNat : Nat) : Int) by omega]
    first | refine ldN_36 (t := 39) F dX9_wouldStick_38 (by omega) rfl ?_ | refine ld_36 (t := 39) F dX9_wouldStick_38 (by omega) (by omega) rfl ?_
    try simp only [up_app, row_app, scr_app, cpy_app, Nat.reduceEqDiff, Int.reduceToNat, Int.toNat_natCast, and_true, true_and, and_false, false_and, and_self, reduceIte]
    rw [hag 36 0 _ (by omega)]
    refine q_iconst (t := 40) F dX9_wouldStick_39 rfl ?_
    refine q_icmp_eq (t := 43) (u := 47) F dX9_wouldStick_40 (by exact hR _ _ _) (by constructor <;> omega) (by decide) rfl (fun c40 => ?_) (fun c40 => ?_)
    · refine q_iload (t := 49) F dX9_wouldStick_47 rfl rfl ?_
      refine q_iret F dX9_wouldStick_49 rfl ?_
      refine ⟨_, rfl, im2, lm2, ?_, hR2, hag, hlg, rfl⟩
      unfold utR
      rw [← hge]
      refine Eq.symm ?_
      first
        | exact if_pos (by omega)
        | exact if_neg (by omega)
    · refine q_iconst (t := 44) F dX9_wouldStick_43 rfl ?_
      refine q_goto (t := 49) F dX9_wouldStick_44 (by decide) ?_
      refine q_iret F dX9_wouldStick_49 rfl ?_
      refine ⟨_, rfl, im2, lm2, ?_, hR2, hag, hlg, rfl⟩
      unfold utR
      rw [← hge]
      refine Eq.symm ?_
      first
        | exact if_pos (by omega)
        | exact if_neg (by omega)
end
section
/-! the reference: say -/

def spR (im im2 : IM) (p : Nat) (w fd : Int) : IM := if utR im p w fd = -1 then im2 else up (up im2 36 0 (10 * p + (utR im p w fd).toNat) w) 37 0 (10 * p + (utR im p w fd).toNat) 0
theorem utR_in {im : IM} {p : Nat} {w fd : Int} : -1 ≤ utR im p w fd ∧ utR im p w fd ≤ 9 := by
  have h := takesR_in (k := im 34 0 p) (sayR_in im (im 30 0 4).toNat 0 (nmA w fd (im 30 0 7) (im 35 0 p) 0 (cntW (stR im p) 10)))
  have e : gpR im p w fd = takesK (im 34 0 p) (sayR im (im 30 0 4).toNat 0 (nmA w fd (im 30 0 7) (im 35 0 p) 0 (cntW (stR im p) 10))) := rfl
  unfold utR
  split <;> omega

set_option maxHeartbeats 4000000 in
theorem c_X9_speaks (l : Launch) (G : GS) (im : IM) (bt rt : Nat) (lm : IM) (h : RC im) (p : Nat) (hp : (p : Int) < im 30 0 12) (w fd : Int) (hw : ri w) (hfd : ri fd) : Cn l (XR G) yX9_speaks Y_X9_speaks [vR 30 0, vI (p : Int), vI w, vI fd] (im, rs bt rt, lm) (pI fun x m' => ∃ im' lm', x = utR im p w fd ∧ RI im' ∧ agY im' im ∧ lgQ lm' lm ∧ m' = (spR im im' p w fd, rs bt rt, lm')) := by
  refine cn_of (by decide) (okR G) rfl (Nat.le_of_ble_eq_true rfl) ?_
  intro M ad hMl F
  subst hMl
  have h12 := h.2.2.2.1
  have hu := utR_in (im := im) (p := p) (w := w) (fd := fd)
  refine wp_pad 1 ?_
  show Wp M (XR G) ad Y_X9_speaks (pI fun x m' => ∃ im' lm', x = utR im p w fd ∧ RI im' ∧ agY im' im ∧ lgQ lm' lm ∧ m' = (spR im im' p w fd, rs bt rt, lm')) 0 [some (vR 30 0), some (vI (p : Int)), some (vI w), some (vI fd), none] [] (im, rs bt rt, lm)
  refine q_aload_n (t := 1) F dX9_speaks_0 rfl rfl rfl ?_
  refine q_iload_n (t := 2) F dX9_speaks_1 rfl rfl rfl ?_
  refine q_iload_n (t := 3) F dX9_speaks_2 rfl rfl rfl ?_
  refine q_iload_n (t := 4) F dX9_speaks_3 rfl rfl rfl ?_
  refine wp_callV (t := 7) [_, _, _] F dX9_speaks_4 k_X9_wouldStick v_X9_wouldStick ml_X9_361 rfl rfl rfl rfl (Nat.le_of_ble_eq_true rfl) (by decide) (m_30 (by omega)) (c_X9_wouldStick _ G im bt rt lm h p hp w fd hw hfd) rfl (kI ?_)
  rintro g m' ⟨im2, lm2, hg, hR2, hag, hlg, rfl⟩
  rw [← hg] at hu
  refine q_istore (t := 9) F dX9_speaks_7 (by decide) rfl rfl ?_
  refine q_iload (t := 11) F dX9_speaks_9 rfl rfl ?_
  refine q_iconst (t := 12) F dX9_speaks_11 rfl ?_
  refine q_icmp_eq (t := 15) (u := 41) F dX9_speaks_12 (by constructor <;> omega) (by constructor <;> omega) (by decide) rfl (fun c12 => ?_) (fun c12 => ?_)
  · refine q_iload (t := 43) F dX9_speaks_41 rfl rfl ?_
    refine q_iret F dX9_speaks_43 rfl ?_
    first
      | exact ⟨_, rfl, im2, lm2, hg, hR2, hag, hlg, by unfold spR; rw [← hg, if_pos (by omega)]⟩
      | exact ⟨_, rfl, im2, lm2, hg, hR2, hag, hlg, by unfold spR; rw [← hg, if_neg (by omega)]⟩
  · refine q_aload_n (t := 16) F dX9_speaks_15 rfl rfl rfl ?_
    refine g_X9_32 (t := 19) F dX9_speaks_16 rfl rfl ?_
    refine q_bipush (t := 21) F dX9_speaks_19 (by decide) rfl ?_
    refine q_iload_n (t := 22) F dX9_speaks_21 rfl rfl rfl ?_
    refine q_imul (t := 23) F dX9_speaks_22 rfl ?_
    refine q_iload (t := 25) F dX9_speaks_23 rfl rfl ?_
    refine q_iadd (t := 26) F dX9_speaks_25 rfl ?_
    rw [show (10 : Int) * (p : Int) + g = ((10 * p + g.toNat : Nat) : Int) by omega]
    refine q_iload_n (t := 27) F dX9_speaks_26 rfl rfl rfl ?_
    first | refine stN_36 (t := 28) F dX9_speaks_27 (by omega) rfl ?_ | refine st_36 (t := 28) F dX9_speaks_27 (by omega) (by omega) rfl ?_
    refine q_aload_n (t := 29) F dX9_speaks_28 rfl rfl rfl ?_
    refine g_X9_35 (t := 32) F dX9_speaks_29 rfl rfl ?_
    refine q_bipush (t := 34) F dX9_speaks_32 (by decide) rfl ?_
    refine q_iload_n (t := 35) F dX9_speaks_34 rfl rfl rfl ?_
    refine q_imul (t := 36) F dX9_speaks_35 rfl ?_
    refine q_iload (t := 38) F dX9_speaks_36 rfl rfl ?_
    refine q_iadd (t := 39) F dX9_speaks_38 rfl ?_
    rw [show (10 : Int) * (p : Int) + g = ((10 * p + g.toNat : Nat) : Int) by omega]
    refine q_iconst (t := 40) F dX9_speaks_39 rfl ?_
    first | refine stN_37 (t := 41) F dX9_speaks_40 (by omega) rfl ?_ | refine st_37 (t := 41) F dX9_speaks_40 (by omega) (by omega) rfl ?_
    refine q_iload (t := 43) F dX9_speaks_41 rfl rfl ?_
    refine q_iret F dX9_speaks_43 rfl ?_
    first
      | exact ⟨_, rfl, im2, lm2, hg, hR2, hag, hlg, by unfold spR; rw [← hg, if_pos (by omega)]⟩
      | exact ⟨_, rfl, im2, lm2, hg, hR2, hag, hlg, by unfold spR; rw [← hg, if_neg (by omega)]⟩

set_option maxHeartbeats 4000000 in
theorem c_X9_say (l : Launch) (G : GS) (im : IM) (bt rt : Nat) (lm : IM) (h : RC im) (p w fd : Int) (hp : ri p) (hw : ri w) (hfd : ri fd) : Cn l (XR G) yX9_say Y_X9_say [vR 30 0, vI p, vI w, vI fd] (im, rs bt rt, lm) (pI fun x m' => ∃ im' lm', RI im' ∧ agY im' im ∧ lgQ lm' lm ∧ ((0 ≤ p ∧ p < im 30 0 12) ∧ (0 ≤ w ∧ w ≤ 15) ∧ (0 ≤ fd ∧ fd ≤ 9) → x = utR im p.toNat w fd ∧ m' = (spR im im' p.toNat w fd, rs bt rt, lm')) ∧ (¬ ((0 ≤ p ∧ p < im 30 0 12) ∧ (0 ≤ w ∧ w ≤ 15) ∧ (0 ≤ fd ∧ fd ≤ 9)) → x = -2 ∧ m' = (im, rs bt rt, lm))) := by
  refine cn_of (by decide) (okR G) rfl (Nat.le_of_ble_eq_true rfl) ?_
  intro M ad hMl F
  subst hMl
  have hR := h.1
  have h12 := h.2.2.2.1
  have hp1 := hp.1
  have hp2 := hp.2
  have hw1 := hw.1
  have hw2 := hw.2
  have hf1 := hfd.1
  have hf2 := hfd.2
  refine wp_pad 0 ?_
  show Wp M (XR G) ad Y_X9_say (pI fun x m' => ∃ im' lm', RI im' ∧ agY im' im ∧ lgQ lm' lm ∧ ((0 ≤ p ∧ p < im 30 0 12) ∧ (0 ≤ w ∧ w ≤ 15) ∧ (0 ≤ fd ∧ fd ≤ 9) → x = utR im p.toNat w fd ∧ m' = (spR im im' p.toNat w fd, rs bt rt, lm')) ∧ (¬ ((0 ≤ p ∧ p < im 30 0 12) ∧ (0 ≤ w ∧ w ≤ 15) ∧ (0 ≤ fd ∧ fd ≤ 9)) → x = -2 ∧ m' = (im, rs bt rt, lm))) 0 [some (vR 30 0), some (vI p), some (vI w), some (vI fd)] [] (im, rs bt rt, lm)
  refine q_aload_n (t := 1) F dX9_say_0 rfl rfl rfl ?_
  refine q_iload_n (t := 2) F dX9_say_1 rfl rfl rfl ?_
  refine wp_callV (t := 5) [_] F dX9_say_2 k_X9_isOne v_X9_isOne ml_X9_101 rfl rfl rfl rfl (Nat.le_of_ble_eq_true rfl) (by decide) (m_30 (by omega)) (c_X9_isOne _ G im bt rt lm hR h12.1 h12.2 p hp) rfl (kI ?_)
  rintro x2 m' ⟨hx2, rfl⟩
  have hx2 := if01 hx2
  refine q_if_eq (t := 8) (u := 37) F dX9_say_5 (by first | exact hR _ _ _ | (constructor <;> omega)) (by decide) rfl (fun c5 => ?_) (fun c5 => ?_)
  · refine q_bipush (t := 39) F dX9_say_37 (by decide) rfl ?_
    refine q_iret F dX9_say_39 rfl ?_
    first
      | exact ⟨_, rfl, im2, lm2, hR2, hag, hlg, fun _ => ⟨hg, rfl⟩, fun q => absurd (by omega) q⟩
      | exact ⟨_, rfl, im, lm, hR, agY_rfl im, lgQ_rfl lm, fun q => absurd q (by omega), fun _ => ⟨rfl, rfl⟩⟩
  · refine q_iload_n (t := 9) F dX9_say_8 rfl rfl rfl ?_
    refine wp_callS (t := 12) [_] F dX9_say_9 k_X9_isWord st_X9_isWord ml_X9_141 rfl rfl (Nat.le_of_ble_eq_true rfl) (by decide) (c_X9_isWord _ G im bt rt lm w hw) rfl (kI ?_)
    rintro x9 m' ⟨hx9, rfl⟩
    have hx9 := if01 hx9
    refine q_if_eq (t := 15) (u := 37) F dX9_say_12 (by first | exact hR _ _ _ | (constructor <;> omega)) (by decide) rfl (fun c12 => ?_) (fun c12 => ?_)
    · refine q_bipush (t := 39) F dX9_say_37 (by decide) rfl ?_
      refine q_iret F dX9_say_39 rfl ?_
      first
        | exact ⟨_, rfl, im2, lm2, hR2, hag, hlg, fun _ => ⟨hg, rfl⟩, fun q => absurd (by omega) q⟩
        | exact ⟨_, rfl, im, lm, hR, agY_rfl im, lgQ_rfl lm, fun q => absurd q (by omega), fun _ => ⟨rfl, rfl⟩⟩
    · refine q_iload_n (t := 16) F dX9_say_15 rfl rfl rfl ?_
      refine q_i2l (t := 17) F dX9_say_16 (by first | exact hR _ _ _ | (constructor <;> omega)) rfl ?_
      refine q_lconst (t := 18) (x := 0) F dX9_say_17 (by decide) rfl ?_
      refine q_ldc2 (t := 21) (x := 9) F dX9_say_18 kl_X9_95 (by decide) rfl ?_
      refine wp_callS (t := 24) [_, _, _] F dX9_say_21 k_X9_in st_X9_in ml_X9_91 rfl rfl (Nat.le_of_ble_eq_true rfl) (by decide) (c_X9_in _ G _ _ _ _ _ _ _ (by constructor <;> omega) (by constructor <;> omega) (by constructor <;> omega)) rfl (kI ?_)
      rintro x21 m' ⟨hx21, rfl⟩
      have hx21 := if01 hx21
      refine q_if_eq (t := 27) (u := 37) F dX9_say_24 (by first | exact hR _ _ _ | (constructor <;> omega)) (by decide) rfl (fun c24 => ?_) (fun c24 => ?_)
      · refine q_bipush (t := 39) F dX9_say_37 (by decide) rfl ?_
        refine q_iret F dX9_say_39 rfl ?_
        first
          | exact ⟨_, rfl, im2, lm2, hR2, hag, hlg, fun _ => ⟨hg, rfl⟩, fun q => absurd (by omega) q⟩
          | exact ⟨_, rfl, im, lm, hR, agY_rfl im, lgQ_rfl lm, fun q => absurd q (by omega), fun _ => ⟨rfl, rfl⟩⟩
      · refine q_aload_n (t := 28) F dX9_say_27 rfl rfl rfl ?_
        refine q_iload_n (t := 29) F dX9_say_28 rfl rfl rfl ?_
        refine q_iload_n (t := 30) F dX9_say_29 rfl rfl rfl ?_
        rw [show vI p = vI ((p.toNat : Nat) : Int) by rw [Int.toNat_of_nonneg (by omega)]]
        refine q_iload_n (t := 31) F dX9_say_30 rfl rfl rfl ?_
        refine wp_callV (t := 34) [_, _, _] F dX9_say_31 k_X9_speaks v_X9_speaks ml_X9_364 rfl rfl rfl rfl (Nat.le_of_ble_eq_true rfl) (by decide) (m_30 (by omega)) (c_X9_speaks _ G im bt rt lm h p.toNat (by omega) w fd hw hfd) rfl (kI ?_)
        rintro x31 m' ⟨im2, lm2, hg, hR2, hag, hlg, rfl⟩
        refine q_goto (t := 39) F dX9_say_34 (by decide) ?_
        refine q_iret F dX9_say_39 rfl ?_
        first
          | exact ⟨_, rfl, im2, lm2, hR2, hag, hlg, fun _ => ⟨hg, rfl⟩, fun q => absurd (by omega) q⟩
          | exact ⟨_, rfl, im, lm, hR, agY_rfl im, lgQ_rfl lm, fun q => absurd q (by omega), fun _ => ⟨rfl, rfl⟩⟩
end
section
/-! the reference: floss, feed, force, told -/

set_option maxHeartbeats 4000000 in
theorem c_X9_floss (l : Launch) (G : GS) (im : IM) (bt rt : Nat) (lm : IM) (h : RC im) (p g : Int) (hp : ri p) (hg : ri g) : Cn l (XR G) yX9_floss Y_X9_floss [vR 30 0, vI p, vI g] (im, rs bt rt, lm) (pI fun x m' => ((0 ≤ p ∧ p < im 30 0 12) ∧ (0 ≤ g ∧ g ≤ 9) → x = im 36 0 (10 * p.toNat + g.toNat) ∧ m' = (up im 36 0 (10 * p.toNat + g.toNat) (-1), rs bt rt, lm)) ∧ (¬ ((0 ≤ p ∧ p < im 30 0 12) ∧ (0 ≤ g ∧ g ≤ 9)) → x = -2 ∧ m' = (im, rs bt rt, lm))) := by
  refine cn_of (by decide) (okR G) rfl (Nat.le_of_ble_eq_true rfl) ?_
  intro M ad hMl F
  subst hMl
  have hR := h.1
  have hX := h.2.1
  have h4 := h.2.2.1
  have h12 := h.2.2.2.1
  have h7 := h.2.2.2.2.1
  have h6 := hX.2.2.1
  have h3 := hX.2.2.2.1
  have p1 := hp.1
  have p2 := hp.2
  have g1 := hg.1
  have g2 := hg.2
  refine wp_pad 1 ?_
  show Wp M (XR G) ad Y_X9_floss (pI fun x m' => ((0 ≤ p ∧ p < im 30 0 12) ∧ (0 ≤ g ∧ g ≤ 9) → x = im 36 0 (10 * p.toNat + g.toNat) ∧ m' = (up im 36 0 (10 * p.toNat + g.toNat) (-1), rs bt rt, lm)) ∧ (¬ ((0 ≤ p ∧ p < im 30 0 12) ∧ (0 ≤ g ∧ g ≤ 9)) → x = -2 ∧ m' = (im, rs bt rt, lm))) 0 [some (vR 30 0), some (vI p), some (vI g), none] [] (im, rs bt rt, lm)
  refine q_aload_n (t := 1) F dX9_floss_0 rfl rfl rfl ?_
  refine q_iload_n (t := 2) F dX9_floss_1 rfl rfl rfl ?_
  refine wp_callV (t := 5) [_] F dX9_floss_2 k_X9_isOne v_X9_isOne ml_X9_101 rfl rfl rfl rfl (Nat.le_of_ble_eq_true rfl) (by decide) (m_30 (by omega)) (c_X9_isOne _ G im bt rt lm hR h12.1 h12.2 p (by constructor <;> omega)) rfl (kI ?_)
  rintro x2 m' ⟨hx2, rfl⟩
  have hx2 := if01 hx2
  refine q_if_eq (t := 8) (u := 15) F dX9_floss_5 (by first | exact hR _ _ _ | (constructor <;> omega)) (by decide) rfl (fun c5 => ?_) (fun c5 => ?_)
  · refine q_bipush (t := 17) F dX9_floss_15 (by decide) rfl ?_
    refine q_iret F dX9_floss_17 rfl ?_
    first
      | exact ⟨_, rfl, fun _ => ⟨rfl, rfl⟩, fun q => absurd (by omega) q⟩
      | exact ⟨_, rfl, fun q => absurd q (by omega), fun _ => ⟨rfl, rfl⟩⟩
  · refine q_iload_n (t := 9) F dX9_floss_8 rfl rfl rfl ?_
    refine wp_callS (t := 12) [_] F dX9_floss_9 k_X9_isGap st_X9_isGap ml_X9_138 rfl rfl (Nat.le_of_ble_eq_true rfl) (by decide) (c_X9_isGap _ G im bt rt lm g (by constructor <;> omega)) rfl (kI ?_)
    rintro x9 m' ⟨hx9, rfl⟩
    have hx9 := if01 hx9
    refine q_if_ne (t := 15) (u := 18) F dX9_floss_12 (by first | exact hR _ _ _ | (constructor <;> omega)) (by decide) rfl (fun c12 => ?_) (fun c12 => ?_)
    · refine q_aload_n (t := 19) F dX9_floss_18 rfl rfl rfl ?_
      refine g_X9_32 (t := 22) F dX9_floss_19 rfl rfl ?_
      refine q_bipush (t := 24) F dX9_floss_22 (by decide) rfl ?_
      refine q_iload_n (t := 25) F dX9_floss_24 rfl rfl rfl ?_
      refine q_imul (t := 26) F dX9_floss_25 rfl ?_
      refine q_iload_n (t := 27) F dX9_floss_26 rfl rfl rfl ?_
      refine q_iadd (t := 28) F dX9_floss_27 rfl ?_
      rw [show (10 : Int) * p + g = ((10 * p.toNat + g.toNat : Nat) : Int) by omega]
      first | refine ldN_36 (t := 29) F dX9_floss_28 (by omega) rfl ?_ | refine ld_36 (t := 29) F dX9_floss_28 (by omega) (by omega) rfl ?_
      try simp only [up_app, row_app, scr_app, cpy_app, Nat.reduceEqDiff, Int.reduceToNat, Int.toNat_natCast, and_true, true_and, and_false, false_and, and_self, reduceIte]
      refine q_istore_n (t := 30) F dX9_floss_29 rfl (by decide) rfl rfl ?_
      refine q_aload_n (t := 31) F dX9_floss_30 rfl rfl rfl ?_
      refine g_X9_32 (t := 34) F dX9_floss_31 rfl rfl ?_
      refine q_bipush (t := 36) F dX9_floss_34 (by decide) rfl ?_
      refine q_iload_n (t := 37) F dX9_floss_36 rfl rfl rfl ?_
      refine q_imul (t := 38) F dX9_floss_37 rfl ?_
      refine q_iload_n (t := 39) F dX9_floss_38 rfl rfl rfl ?_
      refine q_iadd (t := 40) F dX9_floss_39 rfl ?_
      rw [show (10 : Int) * p + g = ((10 * p.toNat + g.toNat : Nat) : Int) by omega]
      refine q_iconst (t := 41) F dX9_floss_40 rfl ?_
      first | refine stN_36 (t := 42) F dX9_floss_41 (by omega) rfl ?_ | refine st_36 (t := 42) F dX9_floss_41 (by omega) (by omega) rfl ?_
      refine q_iload_n (t := 43) F dX9_floss_42 rfl rfl rfl ?_
      refine q_iret F dX9_floss_43 rfl ?_
      first
        | exact ⟨_, rfl, fun _ => ⟨rfl, rfl⟩, fun q => absurd (by omega) q⟩
        | exact ⟨_, rfl, fun q => absurd q (by omega), fun _ => ⟨rfl, rfl⟩⟩
    · refine q_bipush (t := 17) F dX9_floss_15 (by decide) rfl ?_
      refine q_iret F dX9_floss_17 rfl ?_
      first
        | exact ⟨_, rfl, fun _ => ⟨rfl, rfl⟩, fun q => absurd (by omega) q⟩
        | exact ⟨_, rfl, fun q => absurd q (by omega), fun _ => ⟨rfl, rfl⟩⟩

set_option maxHeartbeats 4000000 in
theorem c_X9_feed (l : Launch) (G : GS) (im : IM) (bt rt : Nat) (lm : IM) (h : RC im) (c : Int) (hc : ri c) : Cn l (XR G) yX9_feed Y_X9_feed [vR 30 0, vI c] (im, rs bt rt, lm) (pI fun x m' => (¬ (0 ≤ c ∧ c ≤ 255) → x = -2 ∧ m' = (im, rs bt rt, lm)) ∧ ((0 ≤ c ∧ c ≤ 255) → im 30 0 6 = 160 → x = -4 ∧ m' = (im, rs bt rt, lm)) ∧ ((0 ≤ c ∧ c ≤ 255) → im 30 0 6 ≠ 160 → x = im 30 0 6 + 1 ∧ m' = (up (up im 33 0 (im 30 0 6).toNat c) 30 0 6 (im 30 0 6 + 1), rs bt rt, lm))) := by
  refine cn_of (by decide) (okR G) rfl (Nat.le_of_ble_eq_true rfl) ?_
  intro M ad hMl F
  subst hMl
  have hR := h.1
  have hX := h.2.1
  have h4 := h.2.2.1
  have h12 := h.2.2.2.1
  have h7 := h.2.2.2.2.1
  have h6 := hX.2.2.1
  have h3 := hX.2.2.2.1
  have c1 := hc.1
  have c2 := hc.2
  refine wp_pad 0 ?_
  show Wp M (XR G) ad Y_X9_feed (pI fun x m' => (¬ (0 ≤ c ∧ c ≤ 255) → x = -2 ∧ m' = (im, rs bt rt, lm)) ∧ ((0 ≤ c ∧ c ≤ 255) → im 30 0 6 = 160 → x = -4 ∧ m' = (im, rs bt rt, lm)) ∧ ((0 ≤ c ∧ c ≤ 255) → im 30 0 6 ≠ 160 → x = im 30 0 6 + 1 ∧ m' = (up (up im 33 0 (im 30 0 6).toNat c) 30 0 6 (im 30 0 6 + 1), rs bt rt, lm))) 0 [some (vR 30 0), some (vI c)] [] (im, rs bt rt, lm)
  refine q_iload_n (t := 1) F dX9_feed_0 rfl rfl rfl ?_
  refine q_i2l (t := 2) F dX9_feed_1 (by first | exact hR _ _ _ | (constructor <;> omega)) rfl ?_
  refine q_lconst (t := 3) (x := 0) F dX9_feed_2 (by decide) rfl ?_
  refine q_ldc2 (t := 6) (x := 255) F dX9_feed_3 kl_X9_144 (by decide) rfl ?_
  refine wp_callS (t := 9) [_, _, _] F dX9_feed_6 k_X9_in st_X9_in ml_X9_91 rfl rfl (Nat.le_of_ble_eq_true rfl) (by decide) (c_X9_in _ G _ _ _ _ _ _ _ (by constructor <;> omega) (by constructor <;> omega) (by constructor <;> omega)) rfl (kI ?_)
  rintro x6 m' ⟨hx6, rfl⟩
  have hx6 := if01 hx6
  refine q_if_ne (t := 12) (u := 15) F dX9_feed_9 (by first | exact hR _ _ _ | (constructor <;> omega)) (by decide) rfl (fun c9 => ?_) (fun c9 => ?_)
  · refine q_aload_n (t := 16) F dX9_feed_15 rfl rfl rfl ?_
    refine g_X9_146 (t := 19) F dX9_feed_16 rfl rfl ?_
    try simp only [up_app, row_app, scr_app, cpy_app, Nat.reduceEqDiff, Int.reduceToNat, Int.toNat_natCast, and_true, true_and, and_false, false_and, and_self, reduceIte]
    refine q_sipush (t := 22) F dX9_feed_19 (by decide) rfl ?_
    refine q_icmp_ne (t := 25) (u := 28) F dX9_feed_22 (by exact hR _ _ _) (by constructor <;> omega) (by decide) rfl (fun c22 => ?_) (fun c22 => ?_)
    · refine q_aload_n (t := 29) F dX9_feed_28 rfl rfl rfl ?_
      refine g_X9_20 (t := 32) F dX9_feed_29 rfl rfl ?_
      refine q_aload_n (t := 33) F dX9_feed_32 rfl rfl rfl ?_
      refine g_X9_146 (t := 36) F dX9_feed_33 rfl rfl ?_
      try simp only [up_app, row_app, scr_app, cpy_app, Nat.reduceEqDiff, Int.reduceToNat, Int.toNat_natCast, and_true, true_and, and_false, false_and, and_self, reduceIte]
      obtain ⟨t, ht⟩ : ∃ t : Nat, im 30 0 6 = t := ⟨(im 30 0 6).toNat, by omega⟩
      rw [ht]
      refine q_iload_n (t := 37) F dX9_feed_36 rfl rfl rfl ?_
      first | refine stN_33 (t := 38) F dX9_feed_37 (by omega) rfl ?_ | refine st_33 (t := 38) F dX9_feed_37 (by omega) (by omega) rfl ?_
      refine q_aload_n (t := 39) F dX9_feed_38 rfl rfl rfl ?_
      refine q_dupR (t := 40) F dX9_feed_39 rfl ?_
      refine g_X9_146 (t := 43) F dX9_feed_40 rfl rfl ?_
      try simp only [up_app, row_app, scr_app, cpy_app, Nat.reduceEqDiff, Int.reduceToNat, Int.toNat_natCast, and_true, true_and, and_false, false_and, and_self, reduceIte]
      refine q_iconst (t := 44) F dX9_feed_43 rfl ?_
      refine q_iadd (t := 45) F dX9_feed_44 rfl ?_
      refine p_X9_146 (t := 48) F dX9_feed_45 rfl rfl ?_
      refine q_aload_n (t := 49) F dX9_feed_48 rfl rfl rfl ?_
      refine g_X9_146 (t := 52) F dX9_feed_49 rfl rfl ?_
      try simp only [up_app, row_app, scr_app, cpy_app, Nat.reduceEqDiff, Int.reduceToNat, Int.toNat_natCast, and_true, true_and, and_false, false_and, and_self, reduceIte]
      refine q_iret F dX9_feed_52 rfl ?_
      first
        | exact ⟨_, rfl, fun _ => ⟨rfl, rfl⟩, fun q => absurd q (by omega), fun q => absurd q (by omega)⟩
        | exact ⟨_, rfl, fun q => absurd (by omega) q, fun _ _ => ⟨rfl, rfl⟩, fun _ q => absurd (by omega) q⟩
        | exact ⟨_, rfl, fun q => absurd (by omega) q, fun _ q => absurd q (by omega), fun _ _ => ⟨rfl, rfl⟩⟩
        | exact ⟨_, rfl, fun q => absurd (by omega) q, fun _ q => absurd q (by omega), fun _ _ => ⟨by rw [ht], by rw [ht]⟩⟩
    · refine q_bipush (t := 27) F dX9_feed_25 (by decide) rfl ?_
      refine q_iret F dX9_feed_27 rfl ?_
      first
        | exact ⟨_, rfl, fun _ => ⟨rfl, rfl⟩, fun q => absurd q (by omega), fun q => absurd q (by omega)⟩
        | exact ⟨_, rfl, fun q => absurd (by omega) q, fun _ _ => ⟨rfl, rfl⟩, fun _ q => absurd (by omega) q⟩
        | exact ⟨_, rfl, fun q => absurd (by omega) q, fun _ q => absurd q (by omega), fun _ _ => ⟨rfl, rfl⟩⟩
        | exact ⟨_, rfl, fun q => absurd (by omega) q, fun _ q => absurd q (by omega), fun _ _ => ⟨by rw [ht], by rw [ht]⟩⟩
  · refine q_bipush (t := 14) F dX9_feed_12 (by decide) rfl ?_
    refine q_iret F dX9_feed_14 rfl ?_
    first
      | exact ⟨_, rfl, fun _ => ⟨rfl, rfl⟩, fun q => absurd q (by omega), fun q => absurd q (by omega)⟩
      | exact ⟨_, rfl, fun q => absurd (by omega) q, fun _ _ => ⟨rfl, rfl⟩, fun _ q => absurd (by omega) q⟩
      | exact ⟨_, rfl, fun q => absurd (by omega) q, fun _ q => absurd q (by omega), fun _ _ => ⟨rfl, rfl⟩⟩
      | exact ⟨_, rfl, fun q => absurd (by omega) q, fun _ q => absurd q (by omega), fun _ _ => ⟨by rw [ht], by rw [ht]⟩⟩

set_option maxHeartbeats 4000000 in
theorem c_X9_force (l : Launch) (G : GS) (im : IM) (bt rt : Nat) (lm : IM) (h : RC im) (t : Int) (ht : ri t) : Cn l (XR G) yX9_force Y_X9_force [vR 30 0, vI t] (im, rs bt rt, lm) (pI fun x m' => ((0 ≤ t ∧ t < im 30 0 3) → x = im 30 0 4 ∧ m' = (up im 30 0 4 t, rs bt rt, lm)) ∧ (¬ (0 ≤ t ∧ t < im 30 0 3) → x = -2 ∧ m' = (im, rs bt rt, lm))) := by
  refine cn_of (by decide) (okR G) rfl (Nat.le_of_ble_eq_true rfl) ?_
  intro M ad hMl F
  subst hMl
  have hR := h.1
  have hX := h.2.1
  have h4 := h.2.2.1
  have h12 := h.2.2.2.1
  have h7 := h.2.2.2.2.1
  have h6 := hX.2.2.1
  have h3 := hX.2.2.2.1
  have t1 := ht.1
  have t2 := ht.2
  refine wp_pad 1 ?_
  show Wp M (XR G) ad Y_X9_force (pI fun x m' => ((0 ≤ t ∧ t < im 30 0 3) → x = im 30 0 4 ∧ m' = (up im 30 0 4 t, rs bt rt, lm)) ∧ (¬ (0 ≤ t ∧ t < im 30 0 3) → x = -2 ∧ m' = (im, rs bt rt, lm))) 0 [some (vR 30 0), some (vI t), none] [] (im, rs bt rt, lm)
  refine q_iload_n (t := 1) F dX9_force_0 rfl rfl rfl ?_
  refine q_i2l (t := 2) F dX9_force_1 (by first | exact hR _ _ _ | (constructor <;> omega)) rfl ?_
  refine q_lconst (t := 3) (x := 0) F dX9_force_2 (by decide) rfl ?_
  refine q_aload_n (t := 4) F dX9_force_3 rfl rfl rfl ?_
  refine g_X9_85 (t := 7) F dX9_force_4 rfl rfl ?_
  refine q_iconst (t := 8) F dX9_force_7 rfl ?_
  refine q_isub (t := 9) F dX9_force_8 rfl ?_
  refine q_i2l (t := 10) F dX9_force_9 (by constructor <;> omega) rfl ?_
  refine wp_callS (t := 13) [_, _, _] F dX9_force_10 k_X9_in st_X9_in ml_X9_91 rfl rfl (Nat.le_of_ble_eq_true rfl) (by decide) (c_X9_in _ G _ _ _ _ _ _ _ (by constructor <;> omega) (by constructor <;> omega) (by constructor <;> omega)) rfl (kI ?_)
  rintro x10 m' ⟨hx10, rfl⟩
  have hx10 := if01 hx10
  refine q_if_ne (t := 16) (u := 19) F dX9_force_13 (by first | exact hR _ _ _ | (constructor <;> omega)) (by decide) rfl (fun c13 => ?_) (fun c13 => ?_)
  · refine q_aload_n (t := 20) F dX9_force_19 rfl rfl rfl ?_
    refine g_X9_120 (t := 23) F dX9_force_20 rfl rfl ?_
    try simp only [up_app, row_app, scr_app, cpy_app, Nat.reduceEqDiff, Int.reduceToNat, Int.toNat_natCast, and_true, true_and, and_false, false_and, and_self, reduceIte]
    refine q_istore_n (t := 24) F dX9_force_23 rfl (by decide) rfl rfl ?_
    refine q_aload_n (t := 25) F dX9_force_24 rfl rfl rfl ?_
    refine q_iload_n (t := 26) F dX9_force_25 rfl rfl rfl ?_
    refine p_X9_120 (t := 29) F dX9_force_26 rfl rfl ?_
    refine q_iload_n (t := 30) F dX9_force_29 rfl rfl rfl ?_
    refine q_iret F dX9_force_30 rfl ?_
    first
      | exact ⟨_, rfl, fun _ => ⟨rfl, rfl⟩, fun q => absurd (by omega) q⟩
      | exact ⟨_, rfl, fun q => absurd q (by omega), fun _ => ⟨rfl, rfl⟩⟩
  · refine q_bipush (t := 18) F dX9_force_16 (by decide) rfl ?_
    refine q_iret F dX9_force_18 rfl ?_
    first
      | exact ⟨_, rfl, fun _ => ⟨rfl, rfl⟩, fun q => absurd (by omega) q⟩
      | exact ⟨_, rfl, fun q => absurd q (by omega), fun _ => ⟨rfl, rfl⟩⟩
end
