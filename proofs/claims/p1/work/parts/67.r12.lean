set_option maxHeartbeats 4000000 in
theorem c_X9_atom4 (l : Launch) (G : GS)  (bt rt : Nat)  (b : Nat → Int) (n : Nat) (hb : byt b n) (hA : RT l G bt rt b n yX9_atom5 Y_X9_atom5 (oneL b n 0) 5) (hE : RT l G bt rt b n yX9_either5 Y_X9_either5 (eitL b n 0) 5) (im lm : IM) (nm : Nat → Int) (p : Nat) (f : Int) (h : PQ b n im lm p f) (h27 : im 30 0 27 = ((4 : Nat) : Int)) (hnm : NMr im nm) : Cn l (XR G) yX9_atom4 Y_X9_atom4 [vR 30 0] (im, rs bt rt, lm) (pI fun x m' => ∃ im' lm', RPO b n im lm nm (stP (oneL b n 1) p f) x im' lm' ∧ m' = (im', rs bt rt, lm')) := by
  refine cn_of (by decide) (okR G) rfl (Nat.le_of_ble_eq_true rfl) ?_
  intro M ad hMl F
  subst hMl
  have hn := hb.1
  have hR := h.2.1
  have hbb := h.b01
  have hti := tk_in b n p
  have hTK := TK_is h
  refine wp_pad 1 ?_
  show Wp M (XR G) ad Y_X9_atom4 (pI fun x m' => ∃ im' lm', RPO b n im lm nm (stP (oneL b n 1) p f) x im' lm' ∧ m' = (im', rs bt rt, lm')) 0 [some (vR 30 0), none] [] (im, rs bt rt, lm)
  have T161 : ∀ (x : Int) (im1 lm1 : IM), RPO b n im lm nm (stP (oneL b n 1) p f) x im1 lm1 → Wp M (XR G) ad Y_X9_atom4 (pI fun x m' => ∃ im' lm', RPO b n im lm nm (stP (oneL b n 1) p f) x im' lm' ∧ m' = (im', rs bt rt, lm')) 161 [some (vR 30 0), some (vI x)] [] (im1, rs bt rt, lm1) := by
    intro x im1 lm1 hr
    refine q_iload_n (t := 162) F dX9_atom4_161 rfl rfl rfl ?_
    refine q_iret F dX9_atom4_162 rfl ?_
    exact ⟨x, rfl, im1, lm1, hr, rfl⟩
  have T71 : ∀ (x : Int) (r : PT) (f4 : Int) (im4 lm4 : IM), ri x → PQ b n im4 lm4 r.1 f4 → agQ im4 (up im 30 0 27 ((4 : Nat) + 1 : Int)) → lgQ lm4 lm → (f4 = -1 → x = r.2.2.2 nm ∧ tk b n r.1 = 41) → stP (oneL b n 1) p f = (if f4 = -1 then (adv b n r.1, -1, r.2.2) else (r.1, f4, r.2.2)) → Wp M (XR G) ad Y_X9_atom4 (pI fun x m' => ∃ im' lm', RPO b n im lm nm (stP (oneL b n 1) p f) x im' lm' ∧ m' = (im', rs bt rt, lm')) 71 [some (vR 30 0), some (vI x)] [] (im4, rs bt rt, lm4) := by
    intro x r f4 im4 lm4 hrx h4 hag4 hlg4 hgd heq
    have e27 : im4 30 0 27 - 1 = ((4 : Nat) : Int) := by
      rw [hag4 30 0 27 (by omega), up_app, if_pos ⟨rfl, rfl, rfl⟩]
      omega
    have h44 : PQ b n (up im4 30 0 27 ((4 : Nat) : Int)) lm4 r.1 f4 := PQ_27 h4 (by constructor <;> omega)
    have hb4 := h4.b01
    refine q_aload_n (t := 72) F dX9_atom4_71 rfl rfl rfl ?_
    refine q_dupR (t := 73) F dX9_atom4_72 rfl ?_
    refine g_X9_190 (t := 76) F dX9_atom4_73 rfl rfl ?_
    refine q_iconst (t := 77) F dX9_atom4_76 rfl ?_
    refine q_isub (t := 78) F dX9_atom4_77 rfl ?_
    rw [e27]
    refine p_X9_190 (t := 81) F dX9_atom4_78 rfl rfl ?_
    refine q_aload_n (t := 82) F dX9_atom4_81 rfl rfl rfl ?_
    refine g_X9_179 (t := 85) F dX9_atom4_82 rfl rfl ?_
    try simp only [up_app, row_app, scr_app, cpy_app, Nat.reduceEqDiff, Int.reduceToNat, Int.toNat_natCast, and_true, true_and, and_false, false_and, and_self, reduceIte]
    refine q_if_ne (t := 88) (u := 161) F dX9_atom4_85 (by exact h4.2.1 _ _ _) (by decide) rfl (fun c85 => ?_) (fun c85 => ?_)
    · have hf4 : f4 ≠ -1 := by omega
      refine T161 x (up im4 30 0 27 ((4 : Nat) : Int)) lm4 ⟨hrx, ?_, ag_27 hag4 h27, hlg4, fun q => ?_⟩
      · rw [heq, if_neg hf4]; exact h44
      · rw [heq, if_neg hf4] at q
        exact absurd q hf4
    · have hf4 : f4 = -1 := by omega
      have ht41 := (hgd hf4).2
      have hlt4 : r.1 < n := tk_lt (b := b) (by omega)
      have h45 := h44
      rw [hf4] at h45
      refine q_aload_n (t := 89) F dX9_atom4_88 rfl rfl rfl ?_
      refine wp_callV (t := 92) [] F dX9_atom4_89 k_X9_next v_X9_next ml_X9_196 rfl rfl rfl rfl (Nat.le_of_ble_eq_true rfl) (by decide) (m_30 (by omega)) (c_nextQ _ G _ bt rt lm4 b n hb r.1 h45 hlt4 (by omega)) rfl (kV ?_)
      rintro m' ⟨im5, lm5, h5, hag5, hlg5, rfl⟩
      refine q_goto (t := 161) F dX9_atom4_92 (by decide) ?_
      refine T161 x im5 lm5 ⟨hrx, ?_, hag5.trans (ag_27 hag4 h27), hlg5.trans hlg4, fun q => ?_⟩
      · rw [heq, if_pos hf4]; exact h5
      · rw [heq, if_pos hf4]; exact (hgd hf4).1
  refine q_iconst (t := 1) F dX9_atom4_0 rfl ?_
  refine q_istore_n (t := 2) F dX9_atom4_1 rfl (by decide) rfl rfl ?_
  refine q_aload_n (t := 3) F dX9_atom4_2 rfl rfl rfl ?_
  refine q_bipush (t := 5) F dX9_atom4_3 (by decide) rfl ?_
  refine wp_callV (t := 8) [_] F dX9_atom4_5 k_X9_isSign v_X9_isSign ml_X9_220 rfl rfl rfl rfl (Nat.le_of_ble_eq_true rfl) (by decide) (m_30 (by omega)) (c_X9_isSign _ G im bt rt lm b n hb p f h 45 (by omega) (by omega)) rfl (kI ?_)
  rintro x5 m' ⟨hx5, rfl⟩
  have hx5 := if01 hx5
  refine q_if_eq (t := 11) (u := 37) F dX9_atom4_8 (by first | exact hR _ _ _ | (constructor <;> omega)) (by decide) rfl (fun c8 => ?_) (fun c8 => ?_)
  · refine q_aload_n (t := 38) F dX9_atom4_37 rfl rfl rfl ?_
    refine q_bipush (t := 40) F dX9_atom4_38 (by decide) rfl ?_
    refine wp_callV (t := 43) [_] F dX9_atom4_40 k_X9_isSign v_X9_isSign ml_X9_220 rfl rfl rfl rfl (Nat.le_of_ble_eq_true rfl) (by decide) (m_30 (by omega)) (c_X9_isSign _ G im bt rt lm b n hb p f h 40 (by omega) (by omega)) rfl (kI ?_)
    rintro x40 m' ⟨hx40, rfl⟩
    have hx40 := if01 hx40
    refine q_if_eq (t := 46) (u := 95) F dX9_atom4_43 (by first | exact hR _ _ _ | (constructor <;> omega)) (by decide) rfl (fun c43 => ?_) (fun c43 => ?_)
    · refine q_aload_n (t := 96) F dX9_atom4_95 rfl rfl rfl ?_
      refine g_X9_179 (t := 99) F dX9_atom4_96 rfl rfl ?_
      try simp only [up_app, row_app, scr_app, cpy_app, Nat.reduceEqDiff, Int.reduceToNat, Int.toNat_natCast, and_true, true_and, and_false, false_and, and_self, reduceIte]
      refine q_if_ne (t := 102) (u := 123) F dX9_atom4_99 (by exact hR _ _ _) (by decide) rfl (fun c99 => ?_) (fun c99 => ?_)
      · refine q_aload_n (t := 124) F dX9_atom4_123 rfl rfl rfl ?_
        refine g_X9_179 (t := 127) F dX9_atom4_124 rfl rfl ?_
        try simp only [up_app, row_app, scr_app, cpy_app, Nat.reduceEqDiff, Int.reduceToNat, Int.toNat_natCast, and_true, true_and, and_false, false_and, and_self, reduceIte]
        refine q_if_ne (t := 130) (u := 157) F dX9_atom4_127 (by exact hR _ _ _) (by decide) rfl (fun c127 => ?_) (fun c127 => ?_)
        · refine q_aload_n (t := 158) F dX9_atom4_157 rfl rfl rfl ?_
          refine wp_callV (t := 161) [] F dX9_atom4_158 k_X9_fail v_X9_fail ml_X9_193 rfl rfl rfl rfl (Nat.le_of_ble_eq_true rfl) (by decide) (m_30 (by omega)) (c_failQ _ G im bt rt lm b n p f h) rfl (kV ?_)
          rintro m' ⟨im9, h9, hag9, rfl⟩
          by_cases hf : f = -1
          · subst hf
            have e : oneL b n 1 p = pFail p := by
              refine one_non ?_ ?_ ?_
              · intro q
                have := (hTK rfl).1.mpr q
                omega
              · intro q
                have := (hTK rfl).2.2.mpr (tk_3L q)
                omega
              · omega
            refine T161 0 im9 lm ⟨by constructor <;> omega, ?_, hag9, lgQ_rfl lm, fun q => ?_⟩
            · rw [stP_y, e]; exact h9
            · rw [stP_y, e] at q
              have : (p : Int) = -1 := q
              omega
          · refine T161 0 im9 lm ⟨by constructor <;> omega, ?_, hag9, lgQ_rfl lm, fun q => ?_⟩
            · rw [if_neg hf] at h9
              rw [stP_n hf]; exact h9
            · rw [stP_n hf] at q
              exact absurd q hf
        · refine q_aload_n (t := 131) F dX9_atom4_130 rfl rfl rfl ?_
          refine g_X9_164 (t := 134) F dX9_atom4_131 rfl rfl ?_
          try simp only [up_app, row_app, scr_app, cpy_app, Nat.reduceEqDiff, Int.reduceToNat, Int.toNat_natCast, and_true, true_and, and_false, false_and, and_self, reduceIte]
          refine q_iconst (t := 135) F dX9_atom4_134 rfl ?_
          refine q_icmp_ne (t := 138) (u := 157) F dX9_atom4_135 (by exact hR _ _ _) (by constructor <;> omega) (by decide) rfl (fun c135 => ?_) (fun c135 => ?_)
          · refine q_aload_n (t := 158) F dX9_atom4_157 rfl rfl rfl ?_
            refine wp_callV (t := 161) [] F dX9_atom4_158 k_X9_fail v_X9_fail ml_X9_193 rfl rfl rfl rfl (Nat.le_of_ble_eq_true rfl) (by decide) (m_30 (by omega)) (c_failQ _ G im bt rt lm b n p f h) rfl (kV ?_)
            rintro m' ⟨im9, h9, hag9, rfl⟩
            by_cases hf : f = -1
            · subst hf
              have e : oneL b n 1 p = pFail p := by
                refine one_non ?_ ?_ ?_
                · intro q
                  have := (hTK rfl).1.mpr q
                  omega
                · intro q
                  have := (hTK rfl).2.2.mpr (tk_3L q)
                  omega
                · omega
              refine T161 0 im9 lm ⟨by constructor <;> omega, ?_, hag9, lgQ_rfl lm, fun q => ?_⟩
              · rw [stP_y, e]; exact h9
              · rw [stP_y, e] at q
                have : (p : Int) = -1 := q
                omega
            · refine T161 0 im9 lm ⟨by constructor <;> omega, ?_, hag9, lgQ_rfl lm, fun q => ?_⟩
              · rw [if_neg hf] at h9
                rw [stP_n hf]; exact h9
              · rw [stP_n hf] at q
                exact absurd q hf
          · have hf : f = -1 := by first | (clear hx5 hx40; omega) | omega
            subst hf
            have hwd := (hTK rfl).2.2.mp (by omega)
            refine q_aload_n (t := 139) F dX9_atom4_138 rfl rfl rfl ?_
            refine wp_callV (t := 142) [] F dX9_atom4_139 k_X9_name v_X9_name ml_X9_227 rfl rfl rfl rfl (Nat.le_of_ble_eq_true rfl) (by decide) (m_30 (by omega)) (c_nameQ _ G im bt rt lm b n hb nm p h hnm) rfl (kI ?_)
            rintro x139 m' ⟨im6, hri6, h6, hag6, hx6, rfl⟩
            have hb6 : (tk b n p = 3 ∧ im6 30 0 28 = 0) ∨ (tk b n p ≠ 3 ∧ im6 30 0 28 = 1) := by
              have q6 := h6.b01
              split at q6 <;> omega
            refine q_istore_n (t := 143) F dX9_atom4_142 rfl (by decide) rfl rfl ?_
            refine q_aload_n (t := 144) F dX9_atom4_143 rfl rfl rfl ?_
            refine g_X9_179 (t := 147) F dX9_atom4_144 rfl rfl ?_
            try simp only [up_app, row_app, scr_app, cpy_app, Nat.reduceEqDiff, Int.reduceToNat, Int.toNat_natCast, and_true, true_and, and_false, false_and, and_self, reduceIte]
            refine q_if_ne (t := 150) (u := 161) F dX9_atom4_147 (by exact h6.2.1 _ _ _) (by decide) rfl (fun c147 => ?_) (fun c147 => ?_)
            · have e : oneL b n 1 p = pFail p := by
                have h29 := tk_L9 hwd.1 hwd.2
                exact one_non h29.1 (fun q => by omega) (by omega)
              have ht3 : tk b n p ≠ 3 := by omega
              rw [if_neg ht3] at h6
              refine T161 x139 im6 lm ⟨hri6, ?_, hag6, lgQ_rfl lm, fun q => ?_⟩
              · rw [stP_y, e]; exact h6
              · rw [stP_y, e] at q
                have : (p : Int) = -1 := q
                omega
            · have ht3 : tk b n p = 3 := by omega
              rw [if_pos ht3] at h6
              refine q_aload_n (t := 151) F dX9_atom4_150 rfl rfl rfl ?_
              refine wp_callV (t := 154) [] F dX9_atom4_151 k_X9_next v_X9_next ml_X9_196 rfl rfl rfl rfl (Nat.le_of_ble_eq_true rfl) (by decide) (m_30 (by omega)) (c_nextQ _ G im6 bt rt lm b n hb p h6 hwd.1 (by omega)) rfl (kV ?_)
              rintro m' ⟨im7, lm7, h7, hag7, hlg7, rfl⟩
              refine q_goto (t := 161) F dX9_atom4_154 (by decide) ?_
              refine T161 x139 im7 lm7 ⟨hri6, ?_, hag7.trans hag6, hlg7, fun q => ?_⟩
              · rw [stP_y, oneR_nam ht3]; exact h7
              · rw [stP_y, oneR_nam ht3]; exact hx6 ht3
      · refine q_aload_n (t := 103) F dX9_atom4_102 rfl rfl rfl ?_
        refine g_X9_164 (t := 106) F dX9_atom4_103 rfl rfl ?_
        try simp only [up_app, row_app, scr_app, cpy_app, Nat.reduceEqDiff, Int.reduceToNat, Int.toNat_natCast, and_true, true_and, and_false, false_and, and_self, reduceIte]
        refine q_iconst (t := 107) F dX9_atom4_106 rfl ?_
        refine q_icmp_ne (t := 110) (u := 123) F dX9_atom4_107 (by exact hR _ _ _) (by constructor <;> omega) (by decide) rfl (fun c107 => ?_) (fun c107 => ?_)
        · refine q_aload_n (t := 124) F dX9_atom4_123 rfl rfl rfl ?_
          refine g_X9_179 (t := 127) F dX9_atom4_124 rfl rfl ?_
          try simp only [up_app, row_app, scr_app, cpy_app, Nat.reduceEqDiff, Int.reduceToNat, Int.toNat_natCast, and_true, true_and, and_false, false_and, and_self, reduceIte]
          refine q_if_ne (t := 130) (u := 157) F dX9_atom4_127 (by exact hR _ _ _) (by decide) rfl (fun c127 => ?_) (fun c127 => ?_)
          · refine q_aload_n (t := 158) F dX9_atom4_157 rfl rfl rfl ?_
            refine wp_callV (t := 161) [] F dX9_atom4_158 k_X9_fail v_X9_fail ml_X9_193 rfl rfl rfl rfl (Nat.le_of_ble_eq_true rfl) (by decide) (m_30 (by omega)) (c_failQ _ G im bt rt lm b n p f h) rfl (kV ?_)
            rintro m' ⟨im9, h9, hag9, rfl⟩
            by_cases hf : f = -1
            · subst hf
              have e : oneL b n 1 p = pFail p := by
                refine one_non ?_ ?_ ?_
                · intro q
                  have := (hTK rfl).1.mpr q
                  omega
                · intro q
                  have := (hTK rfl).2.2.mpr (tk_3L q)
                  omega
                · omega
              refine T161 0 im9 lm ⟨by constructor <;> omega, ?_, hag9, lgQ_rfl lm, fun q => ?_⟩
              · rw [stP_y, e]; exact h9
              · rw [stP_y, e] at q
                have : (p : Int) = -1 := q
                omega
            · refine T161 0 im9 lm ⟨by constructor <;> omega, ?_, hag9, lgQ_rfl lm, fun q => ?_⟩
              · rw [if_neg hf] at h9
                rw [stP_n hf]; exact h9
              · rw [stP_n hf] at q
                exact absurd q hf
          · refine q_aload_n (t := 131) F dX9_atom4_130 rfl rfl rfl ?_
            refine g_X9_164 (t := 134) F dX9_atom4_131 rfl rfl ?_
            try simp only [up_app, row_app, scr_app, cpy_app, Nat.reduceEqDiff, Int.reduceToNat, Int.toNat_natCast, and_true, true_and, and_false, false_and, and_self, reduceIte]
            refine q_iconst (t := 135) F dX9_atom4_134 rfl ?_
            refine q_icmp_ne (t := 138) (u := 157) F dX9_atom4_135 (by exact hR _ _ _) (by constructor <;> omega) (by decide) rfl (fun c135 => ?_) (fun c135 => ?_)
            · refine q_aload_n (t := 158) F dX9_atom4_157 rfl rfl rfl ?_
              refine wp_callV (t := 161) [] F dX9_atom4_158 k_X9_fail v_X9_fail ml_X9_193 rfl rfl rfl rfl (Nat.le_of_ble_eq_true rfl) (by decide) (m_30 (by omega)) (c_failQ _ G im bt rt lm b n p f h) rfl (kV ?_)
              rintro m' ⟨im9, h9, hag9, rfl⟩
              by_cases hf : f = -1
              · subst hf
                have e : oneL b n 1 p = pFail p := by
                  refine one_non ?_ ?_ ?_
                  · intro q
                    have := (hTK rfl).1.mpr q
                    omega
                  · intro q
                    have := (hTK rfl).2.2.mpr (tk_3L q)
                    omega
                  · omega
                refine T161 0 im9 lm ⟨by constructor <;> omega, ?_, hag9, lgQ_rfl lm, fun q => ?_⟩
                · rw [stP_y, e]; exact h9
                · rw [stP_y, e] at q
                  have : (p : Int) = -1 := q
                  omega
              · refine T161 0 im9 lm ⟨by constructor <;> omega, ?_, hag9, lgQ_rfl lm, fun q => ?_⟩
                · rw [if_neg hf] at h9
                  rw [stP_n hf]; exact h9
                · rw [stP_n hf] at q
                  exact absurd q hf
            · have hf : f = -1 := by first | (clear hx5 hx40; omega) | omega
              subst hf
              have hwd := (hTK rfl).2.2.mp (by omega)
              refine q_aload_n (t := 139) F dX9_atom4_138 rfl rfl rfl ?_
              refine wp_callV (t := 142) [] F dX9_atom4_139 k_X9_name v_X9_name ml_X9_227 rfl rfl rfl rfl (Nat.le_of_ble_eq_true rfl) (by decide) (m_30 (by omega)) (c_nameQ _ G im bt rt lm b n hb nm p h hnm) rfl (kI ?_)
              rintro x139 m' ⟨im6, hri6, h6, hag6, hx6, rfl⟩
              have hb6 : (tk b n p = 3 ∧ im6 30 0 28 = 0) ∨ (tk b n p ≠ 3 ∧ im6 30 0 28 = 1) := by
                have q6 := h6.b01
                split at q6 <;> omega
              refine q_istore_n (t := 143) F dX9_atom4_142 rfl (by decide) rfl rfl ?_
              refine q_aload_n (t := 144) F dX9_atom4_143 rfl rfl rfl ?_
              refine g_X9_179 (t := 147) F dX9_atom4_144 rfl rfl ?_
              try simp only [up_app, row_app, scr_app, cpy_app, Nat.reduceEqDiff, Int.reduceToNat, Int.toNat_natCast, and_true, true_and, and_false, false_and, and_self, reduceIte]
              refine q_if_ne (t := 150) (u := 161) F dX9_atom4_147 (by exact h6.2.1 _ _ _) (by decide) rfl (fun c147 => ?_) (fun c147 => ?_)
              · have e : oneL b n 1 p = pFail p := by
                  have h29 := tk_L9 hwd.1 hwd.2
                  exact one_non h29.1 (fun q => by omega) (by omega)
                have ht3 : tk b n p ≠ 3 := by omega
                rw [if_neg ht3] at h6
                refine T161 x139 im6 lm ⟨hri6, ?_, hag6, lgQ_rfl lm, fun q => ?_⟩
                · rw [stP_y, e]; exact h6
                · rw [stP_y, e] at q
                  have : (p : Int) = -1 := q
                  omega
              · have ht3 : tk b n p = 3 := by omega
                rw [if_pos ht3] at h6
                refine q_aload_n (t := 151) F dX9_atom4_150 rfl rfl rfl ?_
                refine wp_callV (t := 154) [] F dX9_atom4_151 k_X9_next v_X9_next ml_X9_196 rfl rfl rfl rfl (Nat.le_of_ble_eq_true rfl) (by decide) (m_30 (by omega)) (c_nextQ _ G im6 bt rt lm b n hb p h6 hwd.1 (by omega)) rfl (kV ?_)
                rintro m' ⟨im7, lm7, h7, hag7, hlg7, rfl⟩
                refine q_goto (t := 161) F dX9_atom4_154 (by decide) ?_
                refine T161 x139 im7 lm7 ⟨hri6, ?_, hag7.trans hag6, hlg7, fun q => ?_⟩
                · rw [stP_y, oneR_nam ht3]; exact h7
                · rw [stP_y, oneR_nam ht3]; exact hx6 ht3
        · have hf : f = -1 := by first | (clear hx5 hx40; omega) | omega
          subst hf
          have ht2 : tk b n p = 2 := by have := (hTK rfl).1; omega
          have hlt : p < n := tk_lt (b := b) (by omega)
          have hvl := (hTK rfl).2.1 ht2
          have hv2 := vl_2 ht2
          refine q_aload_n (t := 111) F dX9_atom4_110 rfl rfl rfl ?_
          refine g_X9_175 (t := 114) F dX9_atom4_111 rfl rfl ?_
          try simp only [up_app, row_app, scr_app, cpy_app, Nat.reduceEqDiff, Int.reduceToNat, Int.toNat_natCast, and_true, true_and, and_false, false_and, and_self, reduceIte]
          refine q_l2i (t := 115) F dX9_atom4_114 rfl ?_
          refine q_istore_n (t := 116) F dX9_atom4_115 rfl (by decide) rfl rfl ?_
          refine q_aload_n (t := 117) F dX9_atom4_116 rfl rfl rfl ?_
          refine wp_callV (t := 120) [] F dX9_atom4_117 k_X9_next v_X9_next ml_X9_196 rfl rfl rfl rfl (Nat.le_of_ble_eq_true rfl) (by decide) (m_30 (by omega)) (c_nextQ _ G im bt rt lm b n hb p h hlt (by omega)) rfl (kV ?_)
          rintro m' ⟨im5, lm5, h5, hag5, hlg5, rfl⟩
          refine q_goto (t := 161) F dX9_atom4_120 (by decide) ?_
          refine T161 (lm 30 0 26) im5 lm5 ⟨by constructor <;> omega, ?_, hag5, hlg5, fun q => ?_⟩
          · rw [stP_y, oneR_num ht2]; exact h5
          · rw [stP_y, oneR_num ht2]; exact hvl
    · have hf : f = -1 := by omega
      subst hf
      have hlt : p < n := tk_lt (b := b) (by omega)
      have hx40t : tk b n p = 40 := by omega
      refine q_aload_n (t := 47) F dX9_atom4_46 rfl rfl rfl ?_
      refine wp_callV (t := 50) [] F dX9_atom4_47 k_X9_opens v_X9_opens ml_X9_223 rfl rfl rfl rfl (Nat.le_of_ble_eq_true rfl) (by decide) (m_30 (by omega)) (c_X9_opens _ G im bt rt lm b n hb p h hlt (by omega) 4 (by omega) h27) rfl (kI ?_)
      rintro x47 m' (⟨q, -⟩ | ⟨-, rfl, im2, lm2, h2, h227, hag, hlg, rfl⟩)
      · exact absurd q (by omega)
      refine q_if_eq (t := 53) (u := 161) F dX9_atom4_50 (by first | exact hR _ _ _ | (constructor <;> omega)) (by decide) rfl (fun c50 => ?_) (fun c50 => ?_)
      · exfalso; omega
      · refine q_aload_n (t := 54) F dX9_atom4_53 rfl rfl rfl ?_
        refine wp_callV (t := 57) [] F dX9_atom4_54 k_X9_either5 v_X9_either5 ml_X9_250 rfl rfl rfl rfl (Nat.le_of_ble_eq_true rfl) (by decide) (m_30 (by omega)) (hE im2 lm2 nm (adv b n p) (-1) h2 (by omega) (hnm.ag27 hag)) rfl (kI ?_)
        rintro x54 m' ⟨im3, lm3, h3, rfl⟩
        rw [stP_y] at h3
        obtain ⟨r, hrd⟩ : ∃ r, r = eitL b n 0 (adv b n p) := ⟨_, rfl⟩
        rw [← hrd] at h3
        refine q_istore_n (t := 58) F dX9_atom4_57 rfl (by decide) rfl rfl ?_
        refine q_aload_n (t := 59) F dX9_atom4_58 rfl rfl rfl ?_
        refine q_bipush (t := 61) F dX9_atom4_59 (by decide) rfl ?_
        refine wp_callV (t := 64) [_] F dX9_atom4_61 k_X9_isSign v_X9_isSign ml_X9_220 rfl rfl rfl rfl (Nat.le_of_ble_eq_true rfl) (by decide) (m_30 (by omega)) (c_X9_isSign _ G im3 bt rt lm3 b n hb _ _ h3.2.1 41 (by omega) (by omega)) rfl (kI ?_)
        rintro x61 m' ⟨hx61, rfl⟩
        have hx61 := if01 hx61
        refine q_if_ne (t := 67) (u := 71) F dX9_atom4_64 (by first | exact hR _ _ _ | (constructor <;> omega)) (by decide) rfl (fun c64 => ?_) (fun c64 => ?_)
        · have hq : r.2.1 = -1 ∧ tk b n r.1 = 41 := by omega
          have h33 := h3.2.1
          rw [hq.1] at h33
          exact T71 x54 r (-1) im3 lm3 h3.1 h33 (h3.2.2.1.trans hag) (h3.2.2.2.1.trans hlg) (fun _ => ⟨h3.2.2.2.2 hq.1, hq.2⟩) (by rw [stP_y, one_par (m := 0) hx40t, ← hrd, if_pos hq.1, if_pos hq.2, if_pos rfl])
        · refine q_aload_n (t := 68) F dX9_atom4_67 rfl rfl rfl ?_
          refine wp_callV (t := 71) [] F dX9_atom4_68 k_X9_fail v_X9_fail ml_X9_193 rfl rfl rfl rfl (Nat.le_of_ble_eq_true rfl) (by decide) (m_30 (by omega)) (c_failQ _ G im3 bt rt lm3 b n _ _ h3.2.1) rfl (kV ?_)
          rintro m' ⟨im9, h9, hag9, rfl⟩
          have hq : ¬ (r.2.1 = -1 ∧ tk b n r.1 = 41) := by omega
          refine T71 x54 r (if r.2.1 = -1 then (r.1 : Int) else r.2.1) im9 lm3 h3.1 h9 (hag9.trans (h3.2.2.1.trans hag)) (h3.2.2.2.1.trans hlg) (fun q => ?_) ?_
          · split at q <;> omega
          · rw [stP_y, one_par (m := 0) hx40t, ← hrd]
            by_cases hr1 : r.2.1 = -1
            · rw [if_pos hr1, if_neg (fun q => hq ⟨hr1, q⟩), if_pos hr1, if_neg (by omega)]
            · rw [if_neg hr1, if_neg hr1, if_neg hr1]
  · have hf : f = -1 := by omega
    subst hf
    have hlt : p < n := tk_lt (b := b) (by omega)
    have hx5t : tk b n p = 45 := by omega
    refine q_aload_n (t := 12) F dX9_atom4_11 rfl rfl rfl ?_
    refine wp_callV (t := 15) [] F dX9_atom4_12 k_X9_opens v_X9_opens ml_X9_223 rfl rfl rfl rfl (Nat.le_of_ble_eq_true rfl) (by decide) (m_30 (by omega)) (c_X9_opens _ G im bt rt lm b n hb p h hlt (by omega) 4 (by omega) h27) rfl (kI ?_)
    rintro x12 m' (⟨q, -⟩ | ⟨-, rfl, im2, lm2, h2, h227, hag, hlg, rfl⟩)
    · exact absurd q (by omega)
    refine q_if_eq (t := 18) (u := 161) F dX9_atom4_15 (by first | exact hR _ _ _ | (constructor <;> omega)) (by decide) rfl (fun c15 => ?_) (fun c15 => ?_)
    · exfalso; omega
    · refine q_aload_n (t := 19) F dX9_atom4_18 rfl rfl rfl ?_
      refine wp_callV (t := 22) [] F dX9_atom4_19 k_X9_atom5 v_X9_atom5 ml_X9_231 rfl rfl rfl rfl (Nat.le_of_ble_eq_true rfl) (by decide) (m_30 (by omega)) (hA im2 lm2 nm (adv b n p) (-1) h2 (by omega) (hnm.ag27 hag)) rfl (kI ?_)
      rintro x19 m' ⟨im3, lm3, h3, rfl⟩
      rw [stP_y] at h3
      refine q_ineg (t := 23) F dX9_atom4_22 rfl ?_
      refine q_norm ?_
      refine q_istore_n (t := 24) F dX9_atom4_23 rfl (by decide) rfl rfl ?_
      refine q_aload_n (t := 25) F dX9_atom4_24 rfl rfl rfl ?_
      refine q_dupR (t := 26) F dX9_atom4_25 rfl ?_
      refine g_X9_190 (t := 29) F dX9_atom4_26 rfl rfl ?_
      try simp only [up_app, row_app, scr_app, cpy_app, Nat.reduceEqDiff, Int.reduceToNat, Int.toNat_natCast, and_true, true_and, and_false, false_and, and_self, reduceIte]
      refine q_iconst (t := 30) F dX9_atom4_29 rfl ?_
      refine q_isub (t := 31) F dX9_atom4_30 rfl ?_
      rw [show im3 30 0 27 - 1 = ((4 : Nat) : Int) by rw [h3.2.2.1 30 0 27 (by omega)]; omega]
      refine p_X9_190 (t := 34) F dX9_atom4_31 rfl rfl ?_
      refine q_goto (t := 161) F dX9_atom4_34 (by decide) ?_
      refine T161 (bm (-x19)) (up im3 30 0 27 ((4 : Nat) : Int)) lm3 ?_
      rw [stP_y, one_min (m := 0) hx5t]
      exact RPO_neg (by omega) h27 hag hlg h3
