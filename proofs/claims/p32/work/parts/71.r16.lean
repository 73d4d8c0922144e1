/-! the reference: the levels 2, 1 -/

set_option maxHeartbeats 4000000 in
theorem c_X9_atom2 (l : Launch) (G : GS)  (bt rt : Nat)  (b : Nat → Int) (n : Nat) (hb : byt b n) (hA : RT l G bt rt b n yX9_atom3 Y_X9_atom3 (oneL b n 2) 3) (hE : RT l G bt rt b n yX9_either3 Y_X9_either3 (eitL b n 2) 3) (im lm : IM) (nm : Nat → Int) (p : Nat) (f : Int) (h : PQ b n im lm p f) (h27 : im 30 0 27 = ((2 : Nat) : Int)) (hnm : NMr im nm) : Cn l (XR G) yX9_atom2 Y_X9_atom2 [vR 30 0] (im, rs bt rt, lm) (pI fun x m' => ∃ im' lm', RPO b n im lm nm (stP (oneL b n 3) p f) x im' lm' ∧ m' = (im', rs bt rt, lm')) := by
  refine cn_of (by decide) (okR G) rfl (Nat.le_of_ble_eq_true rfl) ?_
  intro M ad hMl F
  subst hMl
  have hn := hb.1
  have hR := h.2.1
  have hbb := h.b01
  have hti := tk_in b n p
  have hTK := TK_is h
  refine wp_pad 1 ?_
  show Wp M (XR G) ad Y_X9_atom2 (pI fun x m' => ∃ im' lm', RPO b n im lm nm (stP (oneL b n 3) p f) x im' lm' ∧ m' = (im', rs bt rt, lm')) 0 [some (vR 30 0), none] [] (im, rs bt rt, lm)
  have T161 : ∀ (x : Int) (im1 lm1 : IM), RPO b n im lm nm (stP (oneL b n 3) p f) x im1 lm1 → Wp M (XR G) ad Y_X9_atom2 (pI fun x m' => ∃ im' lm', RPO b n im lm nm (stP (oneL b n 3) p f) x im' lm' ∧ m' = (im', rs bt rt, lm')) 161 [some (vR 30 0), some (vI x)] [] (im1, rs bt rt, lm1) := by
    intro x im1 lm1 hr
    refine q_iload_n (t := 162) F dX9_atom2_161 rfl rfl rfl ?_
    refine q_iret F dX9_atom2_162 rfl ?_
    exact ⟨x, rfl, im1, lm1, hr, rfl⟩
  have T71 : ∀ (x : Int) (r : PT) (f4 : Int) (im4 lm4 : IM), ri x → PQ b n im4 lm4 r.1 f4 → agQ im4 (up im 30 0 27 ((2 : Nat) + 1 : Int)) → lgQ lm4 lm → (f4 = -1 → x = r.2.2.2 nm ∧ tk b n r.1 = 41) → stP (oneL b n 3) p f = (if f4 = -1 then (adv b n r.1, -1, r.2.2) else (r.1, f4, r.2.2)) → Wp M (XR G) ad Y_X9_atom2 (pI fun x m' => ∃ im' lm', RPO b n im lm nm (stP (oneL b n 3) p f) x im' lm' ∧ m' = (im', rs bt rt, lm')) 71 [some (vR 30 0), some (vI x)] [] (im4, rs bt rt, lm4) := by
    intro x r f4 im4 lm4 hrx h4 hag4 hlg4 hgd heq
    have e27 : im4 30 0 27 - 1 = ((2 : Nat) : Int) := by
      rw [hag4 30 0 27 (by omega), up_app, if_pos ⟨rfl, rfl, rfl⟩]
      omega
    have h44 : PQ b n (up im4 30 0 27 ((2 : Nat) : Int)) lm4 r.1 f4 := PQ_27 h4 (by constructor <;> omega)
    have hb4 := h4.b01
    refine q_aload_n (t := 72) F dX9_atom2_71 rfl rfl rfl ?_
    refine q_dupR (t := 73) F dX9_atom2_72 rfl ?_
    refine g_X9_190 (t := 76) F dX9_atom2_73 rfl rfl ?_
    refine q_iconst (t := 77) F dX9_atom2_76 rfl ?_
    refine q_isub (t := 78) F dX9_atom2_77 rfl ?_
    rw [e27]
    refine p_X9_190 (t := 81) F dX9_atom2_78 rfl rfl ?_
    refine q_aload_n (t := 82) F dX9_atom2_81 rfl rfl rfl ?_
    refine g_X9_179 (t := 85) F dX9_atom2_82 rfl rfl ?_
    try simp only [up_app, row_app, scr_app, cpy_app, Nat.reduceEqDiff, Int.reduceToNat, Int.toNat_natCast, and_true, true_and, and_false, false_and, and_self, reduceIte]
    refine q_if_ne (t := 88) (u := 161) F dX9_atom2_85 (by exact h4.2.1 _ _ _) (by decide) rfl (fun c85 => ?_) (fun c85 => ?_)
    · have hf4 : f4 ≠ -1 := by omega
      refine T161 x (up im4 30 0 27 ((2 : Nat) : Int)) lm4 ⟨hrx, ?_, ag_27 hag4 h27, hlg4, fun q => ?_⟩
      · rw [heq, if_neg hf4]; exact h44
      · rw [heq, if_neg hf4] at q
        exact absurd q hf4
    · have hf4 : f4 = -1 := by omega
      have ht41 := (hgd hf4).2
      have hlt4 : r.1 < n := tk_lt (b := b) (by omega)
      have h45 := h44
      rw [hf4] at h45
      refine q_aload_n (t := 89) F dX9_atom2_88 rfl rfl rfl ?_
      refine wp_callV (t := 92) [] F dX9_atom2_89 k_X9_next v_X9_next ml_X9_196 rfl rfl rfl rfl (Nat.le_of_ble_eq_true rfl) (by decide) (m_30 (by omega)) (c_nextQ _ G _ bt rt lm4 b n hb r.1 h45 hlt4 (by omega)) rfl (kV ?_)
      rintro m' ⟨im5, lm5, h5, hag5, hlg5, rfl⟩
      refine q_goto (t := 161) F dX9_atom2_92 (by decide) ?_
      refine T161 x im5 lm5 ⟨hrx, ?_, hag5.trans (ag_27 hag4 h27), hlg5.trans hlg4, fun q => ?_⟩
      · rw [heq, if_pos hf4]; exact h5
      · rw [heq, if_pos hf4]; exact (hgd hf4).1
  refine q_iconst (t := 1) F dX9_atom2_0 rfl ?_
  refine q_istore_n (t := 2) F dX9_atom2_1 rfl (by decide) rfl rfl ?_
  refine q_aload_n (t := 3) F dX9_atom2_2 rfl rfl rfl ?_
  refine q_bipush (t := 5) F dX9_atom2_3 (by decide) rfl ?_
  refine wp_callV (t := 8) [_] F dX9_atom2_5 k_X9_isSign v_X9_isSign ml_X9_220 rfl rfl rfl rfl (Nat.le_of_ble_eq_true rfl) (by decide) (m_30 (by omega)) (c_X9_isSign _ G im bt rt lm b n hb p f h 45 (by omega) (by omega)) rfl (kI ?_)
  rintro x5 m' ⟨hx5, rfl⟩
  have hx5 := if01 hx5
  refine q_if_eq (t := 11) (u := 37) F dX9_atom2_8 (by first | exact hR _ _ _ | (constructor <;> omega)) (by decide) rfl (fun c8 => ?_) (fun c8 => ?_)
  · refine q_aload_n (t := 38) F dX9_atom2_37 rfl rfl rfl ?_
    refine q_bipush (t := 40) F dX9_atom2_38 (by decide) rfl ?_
    refine wp_callV (t := 43) [_] F dX9_atom2_40 k_X9_isSign v_X9_isSign ml_X9_220 rfl rfl rfl rfl (Nat.le_of_ble_eq_true rfl) (by decide) (m_30 (by omega)) (c_X9_isSign _ G im bt rt lm b n hb p f h 40 (by omega) (by omega)) rfl (kI ?_)
    rintro x40 m' ⟨hx40, rfl⟩
    have hx40 := if01 hx40
    refine q_if_eq (t := 46) (u := 95) F dX9_atom2_43 (by first | exact hR _ _ _ | (constructor <;> omega)) (by decide) rfl (fun c43 => ?_) (fun c43 => ?_)
    · refine q_aload_n (t := 96) F dX9_atom2_95 rfl rfl rfl ?_
      refine g_X9_179 (t := 99) F dX9_atom2_96 rfl rfl ?_
      try simp only [up_app, row_app, scr_app, cpy_app, Nat.reduceEqDiff, Int.reduceToNat, Int.toNat_natCast, and_true, true_and, and_false, false_and, and_self, reduceIte]
      refine q_if_ne (t := 102) (u := 123) F dX9_atom2_99 (by exact hR _ _ _) (by decide) rfl (fun c99 => ?_) (fun c99 => ?_)
      · refine q_aload_n (t := 124) F dX9_atom2_123 rfl rfl rfl ?_
        refine g_X9_179 (t := 127) F dX9_atom2_124 rfl rfl ?_
        try simp only [up_app, row_app, scr_app, cpy_app, Nat.reduceEqDiff, Int.reduceToNat, Int.toNat_natCast, and_true, true_and, and_false, false_and, and_self, reduceIte]
        refine q_if_ne (t := 130) (u := 157) F dX9_atom2_127 (by exact hR _ _ _) (by decide) rfl (fun c127 => ?_) (fun c127 => ?_)
        · refine q_aload_n (t := 158) F dX9_atom2_157 rfl rfl rfl ?_
          refine wp_callV (t := 161) [] F dX9_atom2_158 k_X9_fail v_X9_fail ml_X9_193 rfl rfl rfl rfl (Nat.le_of_ble_eq_true rfl) (by decide) (m_30 (by omega)) (c_failQ _ G im bt rt lm b n p f h) rfl (kV ?_)
          rintro m' ⟨im9, h9, hag9, rfl⟩
          by_cases hf : f = -1
          · subst hf
            have e : oneL b n 3 p = pFail p := by
              refine one_non ?_ ?_ ?_
              · intro q
                have := (hTK rfl).1.mpr q
                omega
              · intro q
                have := (hTK rfl).2.2.mpr (tk_3L q)
                omega
              · omega
            refine T161 0 im9 lm ⟨by constructor <;> omega, ?_, hag9, lgQ_rfl lm, fun q => ?_⟩
            · rw [stP_y, e]; exact h9
            · rw [stP_y, e] at q
              have : (p : Int) = -1 := q
              omega
          · refine T161 0 im9 lm ⟨by constructor <;> omega, ?_, hag9, lgQ_rfl lm, fun q => ?_⟩
            · rw [if_neg hf] at h9
              rw [stP_n hf]; exact h9
            · rw [stP_n hf] at q
              exact absurd q hf
        · refine q_aload_n (t := 131) F dX9_atom2_130 rfl rfl rfl ?_
          refine g_X9_164 (t := 134) F dX9_atom2_131 rfl rfl ?_
          try simp only [up_app, row_app, scr_app, cpy_app, Nat.reduceEqDiff, Int.reduceToNat, Int.toNat_natCast, and_true, true_and, and_false, false_and, and_self, reduceIte]
          refine q_iconst (t := 135) F dX9_atom2_134 rfl ?_
          refine q_icmp_ne (t := 138) (u := 157) F dX9_atom2_135 (by exact hR _ _ _) (by constructor <;> omega) (by decide) rfl (fun c135 => ?_) (fun c135 => ?_)
          · refine q_aload_n (t := 158) F dX9_atom2_157 rfl rfl rfl ?_
            refine wp_callV (t := 161) [] F dX9_atom2_158 k_X9_fail v_X9_fail ml_X9_193 rfl rfl rfl rfl (Nat.le_of_ble_eq_true rfl) (by decide) (m_30 (by omega)) (c_failQ _ G im bt rt lm b n p f h) rfl (kV ?_)
            rintro m' ⟨im9, h9, hag9, rfl⟩
            by_cases hf : f = -1
            · subst hf
              have e : oneL b n 3 p = pFail p := by
                refine one_non ?_ ?_ ?_
                · intro q
                  have := (hTK rfl).1.mpr q
                  omega
                · intro q
                  have := (hTK rfl).2.2.mpr (tk_3L q)
                  omega
                · omega
              refine T161 0 im9 lm ⟨by constructor <;> omega, ?_, hag9, lgQ_rfl lm, fun q => ?_⟩
              · rw [stP_y, e]; exact h9
              · rw [stP_y, e] at q
                have : (p : Int) = -1 := q
                omega
            · refine T161 0 im9 lm ⟨by constructor <;> omega, ?_, hag9, lgQ_rfl lm, fun q => ?_⟩
              · rw [if_neg hf] at h9
                rw [stP_n hf]; exact h9
              · rw [stP_n hf] at q
                exact absurd q hf
          · have hf : f = -1 := by first | (clear hx5 hx40; omega) | omega
            subst hf
            have hwd := (hTK rfl).2.2.mp (by omega)
            refine q_aload_n (t := 139) F dX9_atom2_138 rfl rfl rfl ?_
            refine wp_callV (t := 142) [] F dX9_atom2_139 k_X9_name v_X9_name ml_X9_227 rfl rfl rfl rfl (Nat.le_of_ble_eq_true rfl) (by decide) (m_30 (by omega)) (c_nameQ _ G im bt rt lm b n hb nm p h hnm) rfl (kI ?_)
            rintro x139 m' ⟨im6, hri6, h6, hag6, hx6, rfl⟩
            have hb6 : (tk b n p = 3 ∧ im6 30 0 28 = 0) ∨ (tk b n p ≠ 3 ∧ im6 30 0 28 = 1) := by
              have q6 := h6.b01
              split at q6 <;> omega
            refine q_istore_n (t := 143) F dX9_atom2_142 rfl (by decide) rfl rfl ?_
            refine q_aload_n (t := 144) F dX9_atom2_143 rfl rfl rfl ?_
            refine g_X9_179 (t := 147) F dX9_atom2_144 rfl rfl ?_
            try simp only [up_app, row_app, scr_app, cpy_app, Nat.reduceEqDiff, Int.reduceToNat, Int.toNat_natCast, and_true, true_and, and_false, false_and, and_self, reduceIte]
            refine q_if_ne (t := 150) (u := 161) F dX9_atom2_147 (by exact h6.2.1 _ _ _) (by decide) rfl (fun c147 => ?_) (fun c147 => ?_)
            · have e : oneL b n 3 p = pFail p := by
                have h29 := tk_L9 hwd.1 hwd.2
                exact one_non h29.1 (fun q => by omega) (by omega)
              have ht3 : tk b n p ≠ 3 := by omega
              rw [if_neg ht3] at h6
              refine T161 x139 im6 lm ⟨hri6, ?_, hag6, lgQ_rfl lm, fun q => ?_⟩
              · rw [stP_y, e]; exact h6
              · rw [stP_y, e] at q
                have : (p : Int) = -1 := q
                omega
            · have ht3 : tk b n p = 3 := by omega
              rw [if_pos ht3] at h6
              refine q_aload_n (t := 151) F dX9_atom2_150 rfl rfl rfl ?_
              refine wp_callV (t := 154) [] F dX9_atom2_151 k_X9_next v_X9_next ml_X9_196 rfl rfl rfl rfl (Nat.le_of_ble_eq_true rfl) (by decide) (m_30 (by omega)) (c_nextQ _ G im6 bt rt lm b n hb p h6 hwd.1 (by omega)) rfl (kV ?_)
              rintro m' ⟨im7, lm7, h7, hag7, hlg7, rfl⟩
              refine q_goto (t := 161) F dX9_atom2_154 (by decide) ?_
              refine T161 x139 im7 lm7 ⟨hri6, ?_, hag7.trans hag6, hlg7, fun q => ?_⟩
              · rw [stP_y, oneR_nam ht3]; exact h7
              · rw [stP_y, oneR_nam ht3]; exact hx6 ht3
      · refine q_aload_n (t := 103) F dX9_atom2_102 rfl rfl rfl ?_
        refine g_X9_164 (t := 106) F dX9_atom2_103 rfl rfl ?_
        try simp only [up_app, row_app, scr_app, cpy_app, Nat.reduceEqDiff, Int.reduceToNat, Int.toNat_natCast, and_true, true_and, and_false, false_and, and_self, reduceIte]
        refine q_iconst (t := 107) F dX9_atom2_106 rfl ?_
        refine q_icmp_ne (t := 110) (u := 123) F dX9_atom2_107 (by exact hR _ _ _) (by constructor <;> omega) (by decide) rfl (fun c107 => ?_) (fun c107 => ?_)
        · refine q_aload_n (t := 124) F dX9_atom2_123 rfl rfl rfl ?_
          refine g_X9_179 (t := 127) F dX9_atom2_124 rfl rfl ?_
          try simp only [up_app, row_app, scr_app, cpy_app, Nat.reduceEqDiff, Int.reduceToNat, Int.toNat_natCast, and_true, true_and, and_false, false_and, and_self, reduceIte]
          refine q_if_ne (t := 130) (u := 157) F dX9_atom2_127 (by exact hR _ _ _) (by decide) rfl (fun c127 => ?_) (fun c127 => ?_)
          · refine q_aload_n (t := 158) F dX9_atom2_157 rfl rfl rfl ?_
            refine wp_callV (t := 161) [] F dX9_atom2_158 k_X9_fail v_X9_fail ml_X9_193 rfl rfl rfl rfl (Nat.le_of_ble_eq_true rfl) (by decide) (m_30 (by omega)) (c_failQ _ G im bt rt lm b n p f h) rfl (kV ?_)
            rintro m' ⟨im9, h9, hag9, rfl⟩
            by_cases hf : f = -1
            · subst hf
              have e : oneL b n 3 p = pFail p := by
                refine one_non ?_ ?_ ?_
                · intro q
                  have := (hTK rfl).1.mpr q
                  omega
                · intro q
                  have := (hTK rfl).2.2.mpr (tk_3L q)
                  omega
                · omega
              refine T161 0 im9 lm ⟨by constructor <;> omega, ?_, hag9, lgQ_rfl lm, fun q => ?_⟩
              · rw [stP_y, e]; exact h9
              · rw [stP_y, e] at q
                have : (p : Int) = -1 := q
                omega
            · refine T161 0 im9 lm ⟨by constructor <;> omega, ?_, hag9, lgQ_rfl lm, fun q => ?_⟩
              · rw [if_neg hf] at h9
                rw [stP_n hf]; exact h9
              · rw [stP_n hf] at q
                exact absurd q hf
          · refine q_aload_n (t := 131) F dX9_atom2_130 rfl rfl rfl ?_
            refine g_X9_164 (t := 134) F dX9_atom2_131 rfl rfl ?_
            try simp only [up_app, row_app, scr_app, cpy_app, Nat.reduceEqDiff, Int.reduceToNat, Int.toNat_natCast, and_true, true_and, and_false, false_and, and_self, reduceIte]
            refine q_iconst (t := 135) F dX9_atom2_134 rfl ?_
            refine q_icmp_ne (t := 138) (u := 157) F dX9_atom2_135 (by exact hR _ _ _) (by constructor <;> omega) (by decide) rfl (fun c135 => ?_) (fun c135 => ?_)
            · refine q_aload_n (t := 158) F dX9_atom2_157 rfl rfl rfl ?_
              refine wp_callV (t := 161) [] F dX9_atom2_158 k_X9_fail v_X9_fail ml_X9_193 rfl rfl rfl rfl (Nat.le_of_ble_eq_true rfl) (by decide) (m_30 (by omega)) (c_failQ _ G im bt rt lm b n p f h) rfl (kV ?_)
              rintro m' ⟨im9, h9, hag9, rfl⟩
              by_cases hf : f = -1
              · subst hf
                have e : oneL b n 3 p = pFail p := by
                  refine one_non ?_ ?_ ?_
                  · intro q
                    have := (hTK rfl).1.mpr q
                    omega
                  · intro q
                    have := (hTK rfl).2.2.mpr (tk_3L q)
                    omega
                  · omega
                refine T161 0 im9 lm ⟨by constructor <;> omega, ?_, hag9, lgQ_rfl lm, fun q => ?_⟩
                · rw [stP_y, e]; exact h9
                · rw [stP_y, e] at q
                  have : (p : Int) = -1 := q
                  omega
              · refine T161 0 im9 lm ⟨by constructor <;> omega, ?_, hag9, lgQ_rfl lm, fun q => ?_⟩
                · rw [if_neg hf] at h9
                  rw [stP_n hf]; exact h9
                · rw [stP_n hf] at q
                  exact absurd q hf
            · have hf : f = -1 := by first | (clear hx5 hx40; omega) | omega
              subst hf
              have hwd := (hTK rfl).2.2.mp (by omega)
              refine q_aload_n (t := 139) F dX9_atom2_138 rfl rfl rfl ?_
              refine wp_callV (t := 142) [] F dX9_atom2_139 k_X9_name v_X9_name ml_X9_227 rfl rfl rfl rfl (Nat.le_of_ble_eq_true rfl) (by decide) (m_30 (by omega)) (c_nameQ _ G im bt rt lm b n hb nm p h hnm) rfl (kI ?_)
              rintro x139 m' ⟨im6, hri6, h6, hag6, hx6, rfl⟩
              have hb6 : (tk b n p = 3 ∧ im6 30 0 28 = 0) ∨ (tk b n p ≠ 3 ∧ im6 30 0 28 = 1) := by
                have q6 := h6.b01
                split at q6 <;> omega
              refine q_istore_n (t := 143) F dX9_atom2_142 rfl (by decide) rfl rfl ?_
              refine q_aload_n (t := 144) F dX9_atom2_143 rfl rfl rfl ?_
              refine g_X9_179 (t := 147) F dX9_atom2_144 rfl rfl ?_
              try simp only [up_app, row_app, scr_app, cpy_app, Nat.reduceEqDiff, Int.reduceToNat, Int.toNat_natCast, and_true, true_and, and_false, false_and, and_self, reduceIte]
              refine q_if_ne (t := 150) (u := 161) F dX9_atom2_147 (by exact h6.2.1 _ _ _) (by decide) rfl (fun c147 => ?_) (fun c147 => ?_)
              · have e : oneL b n 3 p = pFail p := by
                  have h29 := tk_L9 hwd.1 hwd.2
                  exact one_non h29.1 (fun q => by omega) (by omega)
                have ht3 : tk b n p ≠ 3 := by omega
                rw [if_neg ht3] at h6
                refine T161 x139 im6 lm ⟨hri6, ?_, hag6, lgQ_rfl lm, fun q => ?_⟩
                · rw [stP_y, e]; exact h6
                · rw [stP_y, e] at q
                  have : (p : Int) = -1 := q
                  omega
              · have ht3 : tk b n p = 3 := by omega
                rw [if_pos ht3] at h6
                refine q_aload_n (t := 151) F dX9_atom2_150 rfl rfl rfl ?_
                refine wp_callV (t := 154) [] F dX9_atom2_151 k_X9_next v_X9_next ml_X9_196 rfl rfl rfl rfl (Nat.le_of_ble_eq_true rfl) (by decide) (m_30 (by omega)) (c_nextQ _ G im6 bt rt lm b n hb p h6 hwd.1 (by omega)) rfl (kV ?_)
                rintro m' ⟨im7, lm7, h7, hag7, hlg7, rfl⟩
                refine q_goto (t := 161) F dX9_atom2_154 (by decide) ?_
                refine T161 x139 im7 lm7 ⟨hri6, ?_, hag7.trans hag6, hlg7, fun q => ?_⟩
                · rw [stP_y, oneR_nam ht3]; exact h7
                · rw [stP_y, oneR_nam ht3]; exact hx6 ht3
        · have hf : f = -1 := by first | (clear hx5 hx40; omega) | omega
          subst hf
          have ht2 : tk b n p = 2 := by have := (hTK rfl).1; omega
          have hlt : p < n := tk_lt (b := b) (by omega)
          have hvl := (hTK rfl).2.1 ht2
          have hv2 := vl_2 ht2
          refine q_aload_n (t := 111) F dX9_atom2_110 rfl rfl rfl ?_
          refine g_X9_175 (t := 114) F dX9_atom2_111 rfl rfl ?_
          try simp only [up_app, row_app, scr_app, cpy_app, Nat.reduceEqDiff, Int.reduceToNat, Int.toNat_natCast, and_true, true_and, and_false, false_and, and_self, reduceIte]
          refine q_l2i (t := 115) F dX9_atom2_114 rfl ?_
          refine q_istore_n (t := 116) F dX9_atom2_115 rfl (by decide) rfl rfl ?_
          refine q_aload_n (t := 117) F dX9_atom2_116 rfl rfl rfl ?_
          refine wp_callV (t := 120) [] F dX9_atom2_117 k_X9_next v_X9_next ml_X9_196 rfl rfl rfl rfl (Nat.le_of_ble_eq_true rfl) (by decide) (m_30 (by omega)) (c_nextQ _ G im bt rt lm b n hb p h hlt (by omega)) rfl (kV ?_)
          rintro m' ⟨im5, lm5, h5, hag5, hlg5, rfl⟩
          refine q_goto (t := 161) F dX9_atom2_120 (by decide) ?_
          refine T161 (lm 30 0 26) im5 lm5 ⟨by constructor <;> omega, ?_, hag5, hlg5, fun q => ?_⟩
          · rw [stP_y, oneR_num ht2]; exact h5
          · rw [stP_y, oneR_num ht2]; exact hvl
    · have hf : f = -1 := by omega
      subst hf
      have hlt : p < n := tk_lt (b := b) (by omega)
      have hx40t : tk b n p = 40 := by omega
      refine q_aload_n (t := 47) F dX9_atom2_46 rfl rfl rfl ?_
      refine wp_callV (t := 50) [] F dX9_atom2_47 k_X9_opens v_X9_opens ml_X9_223 rfl rfl rfl rfl (Nat.le_of_ble_eq_true rfl) (by decide) (m_30 (by omega)) (c_X9_opens _ G im bt rt lm b n hb p h hlt (by omega) 2 (by omega) h27) rfl (kI ?_)
      rintro x47 m' (⟨q, -⟩ | ⟨-, rfl, im2, lm2, h2, h227, hag, hlg, rfl⟩)
      · exact absurd q (by omega)
      refine q_if_eq (t := 53) (u := 161) F dX9_atom2_50 (by first | exact hR _ _ _ | (constructor <;> omega)) (by decide) rfl (fun c50 => ?_) (fun c50 => ?_)
      · exfalso; omega
      · refine q_aload_n (t := 54) F dX9_atom2_53 rfl rfl rfl ?_
        refine wp_callV (t := 57) [] F dX9_atom2_54 k_X9_either3 v_X9_either3 ml_X9_286 rfl rfl rfl rfl (Nat.le_of_ble_eq_true rfl) (by decide) (m_30 (by omega)) (hE im2 lm2 nm (adv b n p) (-1) h2 (by omega) (hnm.ag27 hag)) rfl (kI ?_)
        rintro x54 m' ⟨im3, lm3, h3, rfl⟩
        rw [stP_y] at h3
        obtain ⟨r, hrd⟩ : ∃ r, r = eitL b n 2 (adv b n p) := ⟨_, rfl⟩
        rw [← hrd] at h3
        refine q_istore_n (t := 58) F dX9_atom2_57 rfl (by decide) rfl rfl ?_
        refine q_aload_n (t := 59) F dX9_atom2_58 rfl rfl rfl ?_
        refine q_bipush (t := 61) F dX9_atom2_59 (by decide) rfl ?_
        refine wp_callV (t := 64) [_] F dX9_atom2_61 k_X9_isSign v_X9_isSign ml_X9_220 rfl rfl rfl rfl (Nat.le_of_ble_eq_true rfl) (by decide) (m_30 (by omega)) (c_X9_isSign _ G im3 bt rt lm3 b n hb _ _ h3.2.1 41 (by omega) (by omega)) rfl (kI ?_)
        rintro x61 m' ⟨hx61, rfl⟩
        have hx61 := if01 hx61
        refine q_if_ne (t := 67) (u := 71) F dX9_atom2_64 (by first | exact hR _ _ _ | (constructor <;> omega)) (by decide) rfl (fun c64 => ?_) (fun c64 => ?_)
        · have hq : r.2.1 = -1 ∧ tk b n r.1 = 41 := by omega
          have h33 := h3.2.1
          rw [hq.1] at h33
          exact T71 x54 r (-1) im3 lm3 h3.1 h33 (h3.2.2.1.trans hag) (h3.2.2.2.1.trans hlg) (fun _ => ⟨h3.2.2.2.2 hq.1, hq.2⟩) (by rw [stP_y, one_par (m := 2) hx40t, ← hrd, if_pos hq.1, if_pos hq.2, if_pos rfl])
        · refine q_aload_n (t := 68) F dX9_atom2_67 rfl rfl rfl ?_
          refine wp_callV (t := 71) [] F dX9_atom2_68 k_X9_fail v_X9_fail ml_X9_193 rfl rfl rfl rfl (Nat.le_of_ble_eq_true rfl) (by decide) (m_30 (by omega)) (c_failQ _ G im3 bt rt lm3 b n _ _ h3.2.1) rfl (kV ?_)
          rintro m' ⟨im9, h9, hag9, rfl⟩
          have hq : ¬ (r.2.1 = -1 ∧ tk b n r.1 = 41) := by omega
          refine T71 x54 r (if r.2.1 = -1 then (r.1 : Int) else r.2.1) im9 lm3 h3.1 h9 (hag9.trans (h3.2.2.1.trans hag)) (h3.2.2.2.1.trans hlg) (fun q => ?_) ?_
          · split at q <;> omega
          · rw [stP_y, one_par (m := 2) hx40t, ← hrd]
            by_cases hr1 : r.2.1 = -1
            · rw [if_pos hr1, if_neg (fun q => hq ⟨hr1, q⟩), if_pos hr1, if_neg (by omega)]
            · rw [if_neg hr1, if_neg hr1, if_neg hr1]
  · have hf : f = -1 := by omega
    subst hf
    have hlt : p < n := tk_lt (b := b) (by omega)
    have hx5t : tk b n p = 45 := by omega
    refine q_aload_n (t := 12) F dX9_atom2_11 rfl rfl rfl ?_
    refine wp_callV (t := 15) [] F dX9_atom2_12 k_X9_opens v_X9_opens ml_X9_223 rfl rfl rfl rfl (Nat.le_of_ble_eq_true rfl) (by decide) (m_30 (by omega)) (c_X9_opens _ G im bt rt lm b n hb p h hlt (by omega) 2 (by omega) h27) rfl (kI ?_)
    rintro x12 m' (⟨q, -⟩ | ⟨-, rfl, im2, lm2, h2, h227, hag, hlg, rfl⟩)
    · exact absurd q (by omega)
    refine q_if_eq (t := 18) (u := 161) F dX9_atom2_15 (by first | exact hR _ _ _ | (constructor <;> omega)) (by decide) rfl (fun c15 => ?_) (fun c15 => ?_)
    · exfalso; omega
    · refine q_aload_n (t := 19) F dX9_atom2_18 rfl rfl rfl ?_
      refine wp_callV (t := 22) [] F dX9_atom2_19 k_X9_atom3 v_X9_atom3 ml_X9_271 rfl rfl rfl rfl (Nat.le_of_ble_eq_true rfl) (by decide) (m_30 (by omega)) (hA im2 lm2 nm (adv b n p) (-1) h2 (by omega) (hnm.ag27 hag)) rfl (kI ?_)
      rintro x19 m' ⟨im3, lm3, h3, rfl⟩
      rw [stP_y] at h3
      refine q_ineg (t := 23) F dX9_atom2_22 rfl ?_
      refine q_norm ?_
      refine q_istore_n (t := 24) F dX9_atom2_23 rfl (by decide) rfl rfl ?_
      refine q_aload_n (t := 25) F dX9_atom2_24 rfl rfl rfl ?_
      refine q_dupR (t := 26) F dX9_atom2_25 rfl ?_
      refine g_X9_190 (t := 29) F dX9_atom2_26 rfl rfl ?_
      try simp only [up_app, row_app, scr_app, cpy_app, Nat.reduceEqDiff, Int.reduceToNat, Int.toNat_natCast, and_true, true_and, and_false, false_and, and_self, reduceIte]
      refine q_iconst (t := 30) F dX9_atom2_29 rfl ?_
      refine q_isub (t := 31) F dX9_atom2_30 rfl ?_
      rw [show im3 30 0 27 - 1 = ((2 : Nat) : Int) by rw [h3.2.2.1 30 0 27 (by omega)]; omega]
      refine p_X9_190 (t := 34) F dX9_atom2_31 rfl rfl ?_
      refine q_goto (t := 161) F dX9_atom2_34 (by decide) ?_
      refine T161 (bm (-x19)) (up im3 30 0 27 ((2 : Nat) : Int)) lm3 ?_
      rw [stP_y, one_min (m := 2) hx5t]
      exact RPO_neg (by omega) h27 hag hlg h3

set_option maxHeartbeats 4000000 in
theorem c_X9_term2 (l : Launch) (G : GS)  (bt rt : Nat)  (b : Nat → Int) (n : Nat) (hb : byt b n) (hO : RT l G bt rt b n yX9_atom2 Y_X9_atom2 (oneL b n 3) 2) (im lm : IM) (nm : Nat → Int) (p : Nat) (f : Int) (h : PQ b n im lm p f) (h27 : im 30 0 27 = ((2 : Nat) : Int)) (hnm : NMr im nm) : Cn l (XR G) yX9_term2 Y_X9_term2 [vR 30 0] (im, rs bt rt, lm) (pI fun x m' => ∃ im' lm', RPO b n im lm nm (stP (termL b n 3) p f) x im' lm' ∧ m' = (im', rs bt rt, lm')) := by
  refine cn_of (by decide) (okR G) rfl (Nat.le_of_ble_eq_true rfl) ?_
  intro M ad hMl F
  subst hMl
  have hn := hb.1
  have hR := h.2.1
  refine wp_pad 1 ?_
  show Wp M (XR G) ad Y_X9_term2 (pI fun x m' => ∃ im' lm', RPO b n im lm nm (stP (termL b n 3) p f) x im' lm' ∧ m' = (im', rs bt rt, lm')) 0 [some (vR 30 0), none] [] (im, rs bt rt, lm)
  refine q_aload_n (t := 1) F dX9_term2_0 rfl rfl rfl ?_
  refine wp_callV (t := 4) [] F dX9_term2_1 k_X9_atom2 v_X9_atom2 ml_X9_289 rfl rfl rfl rfl (Nat.le_of_ble_eq_true rfl) (by decide) (m_30 (by omega)) (hO im lm nm p f h h27 hnm) rfl (kI ?_)
  rintro x1 m' ⟨im0, lm0, h0, rfl⟩
  refine q_istore_n (t := 5) F dX9_term2_4 rfl (by decide) rfl rfl ?_
  have L5 : ∀ (fz : Nat) (k : Nat) (r : PT) (v : Int) (im1 lm1 : IM), k < fz → loopP b n opM (oneL b n 3) 160 (stP (oneL b n 3) p f) = loopP b n opM (oneL b n 3) k r → n - r.1 ≤ k → RPO b n im lm nm r v im1 lm1 → Wp M (XR G) ad Y_X9_term2 (pI fun x m' => ∃ im' lm', RPO b n im lm nm (stP (termL b n 3) p f) x im' lm' ∧ m' = (im', rs bt rt, lm')) 5 [some (vR 30 0), some (vI v)] [] (im1, rs bt rt, lm1) := by
    intro fz
    induction fz with
    | zero => intro k r v im1 lm1 h; exact absurd h (Nat.not_lt_zero _)
    | succ fz ih =>
      have ih5 := ih
      intro k r v im1 lm1 hmeas hlp hk hr
      have hti := tk_in b n r.1
      have hb1 := hr.2.1.b01
      have hrv := hr.1
      have hrv1 := hrv.1
      have hrv2 := hrv.2
      refine q_aload_n (t := 6) F dX9_term2_5 rfl rfl rfl ?_
      refine q_bipush (t := 8) F dX9_term2_6 (by decide) rfl ?_
      refine wp_callV (t := 11) [_] F dX9_term2_8 k_X9_isSign v_X9_isSign ml_X9_220 rfl rfl rfl rfl (Nat.le_of_ble_eq_true rfl) (by decide) (m_30 (by omega)) (c_X9_isSign _ G im1 bt rt lm1 b n hb r.1 r.2.1 hr.2.1 42 (by omega) (by omega)) rfl (kI ?_)
      rintro x8 m' ⟨hx8, rfl⟩
      have hx8 := if01 hx8
      refine q_if_eq (t := 14) (u := 28) F dX9_term2_11 (by first | exact hR _ _ _ | (constructor <;> omega)) (by decide) rfl (fun c11 => ?_) (fun c11 => ?_)
      · refine q_iload_n (t := 29) F dX9_term2_28 rfl rfl rfl ?_
        refine q_iret F dX9_term2_29 rfl ?_
        have e : stP (termL b n 3) p f = r := by
          have e0 : stP (termL b n 3) p f = loopP b n opM (oneL b n 3) 160 (stP (oneL b n 3) p f) := stP_loop (F := oneL b n 3) (k := 160)
          rw [e0, hlp]
          refine loopP_n (fun q => ?_)
          have q1 := q.1
          have q2 := q.2
          unfold opM at q2
          rw [if_neg (by omega)] at q2
          exact q2 rfl
        exact ⟨v, rfl, im1, lm1, by rw [e]; exact hr, rfl⟩
      · have hq : r.2.1 = -1 ∧ tk b n r.1 = 42 := by omega
        have hlt : r.1 < n := tk_lt (b := b) (by omega)
        have hop : opM (tk b n r.1) = -9 := by unfold opM; rw [if_pos hq.2]
        have hgd := PG_one b n 3 (adv b n r.1) (adv_in hlt).2
        have had := (adv_in (b := b) hlt).1
        have h11 := hr.2.1
        rw [hq.1] at h11
        refine q_aload_n (t := 15) F dX9_term2_14 rfl rfl rfl ?_
        refine wp_callV (t := 18) [] F dX9_term2_15 k_X9_next v_X9_next ml_X9_196 rfl rfl rfl rfl (Nat.le_of_ble_eq_true rfl) (by decide) (m_30 (by omega)) (c_nextQ _ G im1 bt rt lm1 b n hb r.1 h11 hlt (by omega)) rfl (kV ?_)
        rintro m' ⟨im2, lm2, h2, hag2, hlg2, rfl⟩
        refine q_iload_n (t := 19) F dX9_term2_18 rfl rfl rfl ?_
        refine q_aload_n (t := 20) F dX9_term2_19 rfl rfl rfl ?_
        refine wp_callV (t := 23) [] F dX9_term2_20 k_X9_atom2 v_X9_atom2 ml_X9_289 rfl rfl rfl rfl (Nat.le_of_ble_eq_true rfl) (by decide) (m_30 (by omega)) (hO im2 lm2 nm (adv b n r.1) (-1) h2 (((hag2.trans hr.2.2.1) 30 0 27 (by omega)).trans h27) (hnm.ag (hag2.trans hr.2.2.1))) rfl (kI ?_)
        rintro x20 m' ⟨im3, lm3, h3, rfl⟩
        rw [stP_y] at h3
        refine q_imul (t := 24) F dX9_term2_23 rfl ?_
        refine q_norm ?_
        refine q_istore_n (t := 25) F dX9_term2_24 rfl (by decide) rfl rfl ?_
        refine q_goto (t := 5) F dX9_term2_25 (by decide) ?_
        refine ih5 (k - 1) (lpS b n opM (oneL b n 3) r) _ im3 lm3 (by omega) ?_ ?_ (RPO_step hr hq.1 hag2 hlg2 h3 (ri_b _) (by rw [hop]; exact bi2_9 _ _))
        · rw [hlp]
          obtain ⟨k', hk'⟩ : ∃ k', k = k' + 1 := ⟨k - 1, by omega⟩
          rw [hk', loopP_y2 hq.1 (by rw [hop]; decide)]
          rfl
        · have := hgd.1
          show n - (oneL b n 3 (adv b n r.1)).1 ≤ k - 1
          omega
  exact L5 _ 160 _ _ _ _ (Nat.lt_succ_self _) rfl (by omega) h0

set_option maxHeartbeats 4000000 in
theorem c_X9_added2 (l : Launch) (G : GS)  (bt rt : Nat)  (b : Nat → Int) (n : Nat) (hb : byt b n) (hO : RT l G bt rt b n yX9_term2 Y_X9_term2 (termL b n 3) 2) (im lm : IM) (nm : Nat → Int) (p : Nat) (f : Int) (h : PQ b n im lm p f) (h27 : im 30 0 27 = ((2 : Nat) : Int)) (hnm : NMr im nm) : Cn l (XR G) yX9_added2 Y_X9_added2 [vR 30 0] (im, rs bt rt, lm) (pI fun x m' => ∃ im' lm', RPO b n im lm nm (stP (sumL b n 3) p f) x im' lm' ∧ m' = (im', rs bt rt, lm')) := by
  refine cn_of (by decide) (okR G) rfl (Nat.le_of_ble_eq_true rfl) ?_
  intro M ad hMl F
  subst hMl
  have hn := hb.1
  have hR := h.2.1
  refine wp_pad 3 ?_
  show Wp M (XR G) ad Y_X9_added2 (pI fun x m' => ∃ im' lm', RPO b n im lm nm (stP (sumL b n 3) p f) x im' lm' ∧ m' = (im', rs bt rt, lm')) 0 [some (vR 30 0), none, none, none] [] (im, rs bt rt, lm)
  refine q_aload_n (t := 1) F dX9_added2_0 rfl rfl rfl ?_
  refine wp_callV (t := 4) [] F dX9_added2_1 k_X9_term2 v_X9_term2 ml_X9_292 rfl rfl rfl rfl (Nat.le_of_ble_eq_true rfl) (by decide) (m_30 (by omega)) (hO im lm nm p f h h27 hnm) rfl (kI ?_)
  rintro x1 m' ⟨im0, lm0, h0, rfl⟩
  refine q_istore_n (t := 5) F dX9_added2_4 rfl (by decide) rfl rfl ?_
  have L5 : ∀ (fz : Nat) (k : Nat) (r : PT) (v : Int) (im1 lm1 : IM), k < fz → loopP b n opS (termL b n 3) 160 (stP (termL b n 3) p f) = loopP b n opS (termL b n 3) k r → n - r.1 ≤ k → RPO b n im lm nm r v im1 lm1 → Wp M (XR G) ad Y_X9_added2 (pI fun x m' => ∃ im' lm', RPO b n im lm nm (stP (sumL b n 3) p f) x im' lm' ∧ m' = (im', rs bt rt, lm')) 5 [some (vR 30 0), some (vI v), none, none] [] (im1, rs bt rt, lm1) := by
    intro fz
    induction fz with
    | zero => intro k r v im1 lm1 h; exact absurd h (Nat.not_lt_zero _)
    | succ fz ih =>
      have ih5 := ih
      intro k r v im1 lm1 hmeas hlp hk hr
      have hti := tk_in b n r.1
      have hb1 := hr.2.1.b01
      have hrv := hr.1
      have hrv1 := hrv.1
      have hrv2 := hrv.2
      refine q_aload_n (t := 6) F dX9_added2_5 rfl rfl rfl ?_
      refine q_bipush (t := 8) F dX9_added2_6 (by decide) rfl ?_
      refine wp_callV (t := 11) [_] F dX9_added2_8 k_X9_isSign v_X9_isSign ml_X9_220 rfl rfl rfl rfl (Nat.le_of_ble_eq_true rfl) (by decide) (m_30 (by omega)) (c_X9_isSign _ G im1 bt rt lm1 b n hb r.1 r.2.1 hr.2.1 43 (by omega) (by omega)) rfl (kI ?_)
      rintro x8 m' ⟨hx8, rfl⟩
      have hx8 := if01 hx8
      refine q_if_ne (t := 14) (u := 23) F dX9_added2_11 (by first | exact hR _ _ _ | (constructor <;> omega)) (by decide) rfl (fun c11 => ?_) (fun c11 => ?_)
      · have hq : r.2.1 = -1 ∧ (tk b n r.1 = 43 ∨ tk b n r.1 = 45) := by omega
        have hlt : r.1 < n := tk_lt (b := b) (by omega)
        
        have hgd := PG_termL b n 3 (adv b n r.1) (adv_in hlt).2
        have had := (adv_in (b := b) hlt).1
        have h11 := hr.2.1
        rw [hq.1] at h11
        have hw1 : lm1 30 0 26 = tk b n r.1 := ((TK_sign (h11.1.1 rfl).2.2 (s := tk b n r.1) (by omega)).mpr rfl).2
        have hcm : cmpI (lm1 30 0 26) 43 = 0 ↔ lm1 30 0 26 = 43 := cmpI_eq
        refine q_aload_n (t := 24) F dX9_added2_23 rfl rfl rfl ?_
        refine g_X9_175 (t := 27) F dX9_added2_24 rfl rfl ?_
        try simp only [up_app, row_app, scr_app, cpy_app, Nat.reduceEqDiff, Int.reduceToNat, Int.toNat_natCast, and_true, true_and, and_false, false_and, and_self, reduceIte]
        refine q_ldc2 (t := 30) (x := 43) F dX9_added2_27 kl_X9_237 (by decide) rfl ?_
        refine q_lcmp (t := 31) F dX9_added2_30 ⟨by omega, by omega⟩ ⟨by omega, by omega⟩ rfl ?_
        refine q_if_ne (t := 34) (u := 38) F dX9_added2_31 (by exact cmpI_ri _ _) (by decide) rfl (fun c31 => ?_) (fun c31 => ?_)
        · refine q_iconst (t := 39) F dX9_added2_38 rfl ?_
          refine q_istore_n (t := 40) F dX9_added2_39 rfl (by decide) rfl rfl ?_
          refine q_aload_n (t := 41) F dX9_added2_40 rfl rfl rfl ?_
          refine wp_callV (t := 44) [] F dX9_added2_41 k_X9_next v_X9_next ml_X9_196 rfl rfl rfl rfl (Nat.le_of_ble_eq_true rfl) (by decide) (m_30 (by omega)) (c_nextQ _ G im1 bt rt lm1 b n hb r.1 h11 hlt (by omega)) rfl (kV ?_)
          rintro m' ⟨im2, lm2, h2, hag2, hlg2, rfl⟩
          refine q_aload_n (t := 45) F dX9_added2_44 rfl rfl rfl ?_
          refine wp_callV (t := 48) [] F dX9_added2_45 k_X9_term2 v_X9_term2 ml_X9_292 rfl rfl rfl rfl (Nat.le_of_ble_eq_true rfl) (by decide) (m_30 (by omega)) (hO im2 lm2 nm (adv b n r.1) (-1) h2 (((hag2.trans hr.2.2.1) 30 0 27 (by omega)).trans h27) (hnm.ag (hag2.trans hr.2.2.1))) rfl (kI ?_)
          rintro x45 m' ⟨im3, lm3, h3, rfl⟩
          rw [stP_y] at h3
          refine q_istore_n (t := 49) F dX9_added2_48 rfl (by decide) rfl rfl ?_
          refine q_iload_n (t := 50) F dX9_added2_49 rfl rfl rfl ?_
          refine q_if_eq (t := 53) (u := 59) F dX9_added2_50 (by first | exact hR _ _ _ | (constructor <;> omega)) (by decide) rfl (fun c50 => ?_) (fun c50 => ?_)
          · refine q_iload_n (t := 60) F dX9_added2_59 rfl rfl rfl ?_
            refine q_iload_n (t := 61) F dX9_added2_60 rfl rfl rfl ?_
            refine q_isub (t := 62) F dX9_added2_61 rfl ?_
            refine q_norm ?_
            refine q_istore_n (t := 63) F dX9_added2_62 rfl (by decide) rfl rfl ?_
            refine q_goto (t := 5) F dX9_added2_63 (by decide) ?_
            refine wp_less 3 ?_
            refine wp_less 2 ?_
            first
              | (exfalso; omega)
              | (have hop : opS (tk b n r.1) = -10 := by unfold opS; rw [if_pos (by omega)]
                 refine ih5 (k - 1) (lpS b n opS (termL b n 3) r) _ im3 lm3 (by omega) ?_ ?_ (RPO_step hr hq.1 hag2 hlg2 h3 (ri_b _) (by rw [hop]; exact bi2_10 _ _))
                 · rw [hlp]
                   obtain ⟨k', hk'⟩ : ∃ k', k = k' + 1 := ⟨k - 1, by omega⟩
                   rw [hk', loopP_y2 hq.1 (by rw [hop]; decide)]
                   rfl
                 · have := hgd.1
                   show n - (termL b n 3 (adv b n r.1)).1 ≤ k - 1
                   omega)
              | (have hop : opS (tk b n r.1) = -11 := by unfold opS; rw [if_neg (by omega), if_pos (by omega)]
                 refine ih5 (k - 1) (lpS b n opS (termL b n 3) r) _ im3 lm3 (by omega) ?_ ?_ (RPO_step hr hq.1 hag2 hlg2 h3 (ri_b _) (by rw [hop]; exact bi2_11 _ _))
                 · rw [hlp]
                   obtain ⟨k', hk'⟩ : ∃ k', k = k' + 1 := ⟨k - 1, by omega⟩
                   rw [hk', loopP_y2 hq.1 (by rw [hop]; decide)]
                   rfl
                 · have := hgd.1
                   show n - (termL b n 3 (adv b n r.1)).1 ≤ k - 1
                   omega)
          · refine q_iload_n (t := 54) F dX9_added2_53 rfl rfl rfl ?_
            refine q_iload_n (t := 55) F dX9_added2_54 rfl rfl rfl ?_
            refine q_iadd (t := 56) F dX9_added2_55 rfl ?_
            refine q_goto (t := 62) F dX9_added2_56 (by decide) ?_
            refine q_norm ?_
            refine q_istore_n (t := 63) F dX9_added2_62 rfl (by decide) rfl rfl ?_
            refine q_goto (t := 5) F dX9_added2_63 (by decide) ?_
            refine wp_less 3 ?_
            refine wp_less 2 ?_
            first
              | (exfalso; omega)
              | (have hop : opS (tk b n r.1) = -10 := by unfold opS; rw [if_pos (by omega)]
                 refine ih5 (k - 1) (lpS b n opS (termL b n 3) r) _ im3 lm3 (by omega) ?_ ?_ (RPO_step hr hq.1 hag2 hlg2 h3 (ri_b _) (by rw [hop]; exact bi2_10 _ _))
                 · rw [hlp]
                   obtain ⟨k', hk'⟩ : ∃ k', k = k' + 1 := ⟨k - 1, by omega⟩
                   rw [hk', loopP_y2 hq.1 (by rw [hop]; decide)]
                   rfl
                 · have := hgd.1
                   show n - (termL b n 3 (adv b n r.1)).1 ≤ k - 1
                   omega)
              | (have hop : opS (tk b n r.1) = -11 := by unfold opS; rw [if_neg (by omega), if_pos (by omega)]
                 refine ih5 (k - 1) (lpS b n opS (termL b n 3) r) _ im3 lm3 (by omega) ?_ ?_ (RPO_step hr hq.1 hag2 hlg2 h3 (ri_b _) (by rw [hop]; exact bi2_11 _ _))
                 · rw [hlp]
                   obtain ⟨k', hk'⟩ : ∃ k', k = k' + 1 := ⟨k - 1, by omega⟩
                   rw [hk', loopP_y2 hq.1 (by rw [hop]; decide)]
                   rfl
                 · have := hgd.1
                   show n - (termL b n 3 (adv b n r.1)).1 ≤ k - 1
                   omega)
        · refine q_iconst (t := 35) F dX9_added2_34 rfl ?_
          refine q_goto (t := 39) F dX9_added2_35 (by decide) ?_
          refine q_istore_n (t := 40) F dX9_added2_39 rfl (by decide) rfl rfl ?_
          refine q_aload_n (t := 41) F dX9_added2_40 rfl rfl rfl ?_
          refine wp_callV (t := 44) [] F dX9_added2_41 k_X9_next v_X9_next ml_X9_196 rfl rfl rfl rfl (Nat.le_of_ble_eq_true rfl) (by decide) (m_30 (by omega)) (c_nextQ _ G im1 bt rt lm1 b n hb r.1 h11 hlt (by omega)) rfl (kV ?_)
          rintro m' ⟨im2, lm2, h2, hag2, hlg2, rfl⟩
          refine q_aload_n (t := 45) F dX9_added2_44 rfl rfl rfl ?_
          refine wp_callV (t := 48) [] F dX9_added2_45 k_X9_term2 v_X9_term2 ml_X9_292 rfl rfl rfl rfl (Nat.le_of_ble_eq_true rfl) (by decide) (m_30 (by omega)) (hO im2 lm2 nm (adv b n r.1) (-1) h2 (((hag2.trans hr.2.2.1) 30 0 27 (by omega)).trans h27) (hnm.ag (hag2.trans hr.2.2.1))) rfl (kI ?_)
          rintro x45 m' ⟨im3, lm3, h3, rfl⟩
          rw [stP_y] at h3
          refine q_istore_n (t := 49) F dX9_added2_48 rfl (by decide) rfl rfl ?_
          refine q_iload_n (t := 50) F dX9_added2_49 rfl rfl rfl ?_
          refine q_if_eq (t := 53) (u := 59) F dX9_added2_50 (by first | exact hR _ _ _ | (constructor <;> omega)) (by decide) rfl (fun c50 => ?_) (fun c50 => ?_)
          · refine q_iload_n (t := 60) F dX9_added2_59 rfl rfl rfl ?_
            refine q_iload_n (t := 61) F dX9_added2_60 rfl rfl rfl ?_
            refine q_isub (t := 62) F dX9_added2_61 rfl ?_
            refine q_norm ?_
            refine q_istore_n (t := 63) F dX9_added2_62 rfl (by decide) rfl rfl ?_
            refine q_goto (t := 5) F dX9_added2_63 (by decide) ?_
            refine wp_less 3 ?_
            refine wp_less 2 ?_
            first
              | (exfalso; omega)
              | (have hop : opS (tk b n r.1) = -10 := by unfold opS; rw [if_pos (by omega)]
                 refine ih5 (k - 1) (lpS b n opS (termL b n 3) r) _ im3 lm3 (by omega) ?_ ?_ (RPO_step hr hq.1 hag2 hlg2 h3 (ri_b _) (by rw [hop]; exact bi2_10 _ _))
                 · rw [hlp]
                   obtain ⟨k', hk'⟩ : ∃ k', k = k' + 1 := ⟨k - 1, by omega⟩
                   rw [hk', loopP_y2 hq.1 (by rw [hop]; decide)]
                   rfl
                 · have := hgd.1
                   show n - (termL b n 3 (adv b n r.1)).1 ≤ k - 1
                   omega)
              | (have hop : opS (tk b n r.1) = -11 := by unfold opS; rw [if_neg (by omega), if_pos (by omega)]
                 refine ih5 (k - 1) (lpS b n opS (termL b n 3) r) _ im3 lm3 (by omega) ?_ ?_ (RPO_step hr hq.1 hag2 hlg2 h3 (ri_b _) (by rw [hop]; exact bi2_11 _ _))
                 · rw [hlp]
                   obtain ⟨k', hk'⟩ : ∃ k', k = k' + 1 := ⟨k - 1, by omega⟩
                   rw [hk', loopP_y2 hq.1 (by rw [hop]; decide)]
                   rfl
                 · have := hgd.1
                   show n - (termL b n 3 (adv b n r.1)).1 ≤ k - 1
                   omega)
          · refine q_iload_n (t := 54) F dX9_added2_53 rfl rfl rfl ?_
            refine q_iload_n (t := 55) F dX9_added2_54 rfl rfl rfl ?_
            refine q_iadd (t := 56) F dX9_added2_55 rfl ?_
            refine q_goto (t := 62) F dX9_added2_56 (by decide) ?_
            refine q_norm ?_
            refine q_istore_n (t := 63) F dX9_added2_62 rfl (by decide) rfl rfl ?_
            refine q_goto (t := 5) F dX9_added2_63 (by decide) ?_
            refine wp_less 3 ?_
            refine wp_less 2 ?_
            first
              | (exfalso; omega)
              | (have hop : opS (tk b n r.1) = -10 := by unfold opS; rw [if_pos (by omega)]
                 refine ih5 (k - 1) (lpS b n opS (termL b n 3) r) _ im3 lm3 (by omega) ?_ ?_ (RPO_step hr hq.1 hag2 hlg2 h3 (ri_b _) (by rw [hop]; exact bi2_10 _ _))
                 · rw [hlp]
                   obtain ⟨k', hk'⟩ : ∃ k', k = k' + 1 := ⟨k - 1, by omega⟩
                   rw [hk', loopP_y2 hq.1 (by rw [hop]; decide)]
                   rfl
                 · have := hgd.1
                   show n - (termL b n 3 (adv b n r.1)).1 ≤ k - 1
                   omega)
              | (have hop : opS (tk b n r.1) = -11 := by unfold opS; rw [if_neg (by omega), if_pos (by omega)]
                 refine ih5 (k - 1) (lpS b n opS (termL b n 3) r) _ im3 lm3 (by omega) ?_ ?_ (RPO_step hr hq.1 hag2 hlg2 h3 (ri_b _) (by rw [hop]; exact bi2_11 _ _))
                 · rw [hlp]
                   obtain ⟨k', hk'⟩ : ∃ k', k = k' + 1 := ⟨k - 1, by omega⟩
                   rw [hk', loopP_y2 hq.1 (by rw [hop]; decide)]
                   rfl
                 · have := hgd.1
                   show n - (termL b n 3 (adv b n r.1)).1 ≤ k - 1
                   omega)
      · refine q_aload_n (t := 15) F dX9_added2_14 rfl rfl rfl ?_
        refine q_bipush (t := 17) F dX9_added2_15 (by decide) rfl ?_
        refine wp_callV (t := 20) [_] F dX9_added2_17 k_X9_isSign v_X9_isSign ml_X9_220 rfl rfl rfl rfl (Nat.le_of_ble_eq_true rfl) (by decide) (m_30 (by omega)) (c_X9_isSign _ G im1 bt rt lm1 b n hb r.1 r.2.1 hr.2.1 45 (by omega) (by omega)) rfl (kI ?_)
        rintro x17 m' ⟨hx17, rfl⟩
        have hx17 := if01 hx17
        refine q_if_eq (t := 23) (u := 66) F dX9_added2_20 (by first | exact hR _ _ _ | (constructor <;> omega)) (by decide) rfl (fun c20 => ?_) (fun c20 => ?_)
        · refine q_iload_n (t := 67) F dX9_added2_66 rfl rfl rfl ?_
          refine q_iret F dX9_added2_67 rfl ?_
          have e : stP (sumL b n 3) p f = r := by
            have e0 : stP (sumL b n 3) p f = loopP b n opS (termL b n 3) 160 (stP (termL b n 3) p f) := stP_loop (F := termL b n 3) (k := 160)
            rw [e0, hlp]
            refine loopP_n (fun q => ?_)
            have q1 := q.1
            have q2 := q.2
            unfold opS at q2
            rw [if_neg (by omega), if_neg (by omega)] at q2
            exact q2 rfl
          exact ⟨v, rfl, im1, lm1, by rw [e]; exact hr, rfl⟩
        · have hq : r.2.1 = -1 ∧ (tk b n r.1 = 43 ∨ tk b n r.1 = 45) := by omega
          have hlt : r.1 < n := tk_lt (b := b) (by omega)
          
          have hgd := PG_termL b n 3 (adv b n r.1) (adv_in hlt).2
          have had := (adv_in (b := b) hlt).1
          have h11 := hr.2.1
          rw [hq.1] at h11
          have hw1 : lm1 30 0 26 = tk b n r.1 := ((TK_sign (h11.1.1 rfl).2.2 (s := tk b n r.1) (by omega)).mpr rfl).2
          have hcm : cmpI (lm1 30 0 26) 43 = 0 ↔ lm1 30 0 26 = 43 := cmpI_eq
          refine q_aload_n (t := 24) F dX9_added2_23 rfl rfl rfl ?_
          refine g_X9_175 (t := 27) F dX9_added2_24 rfl rfl ?_
          try simp only [up_app, row_app, scr_app, cpy_app, Nat.reduceEqDiff, Int.reduceToNat, Int.toNat_natCast, and_true, true_and, and_false, false_and, and_self, reduceIte]
          refine q_ldc2 (t := 30) (x := 43) F dX9_added2_27 kl_X9_237 (by decide) rfl ?_
          refine q_lcmp (t := 31) F dX9_added2_30 ⟨by omega, by omega⟩ ⟨by omega, by omega⟩ rfl ?_
          refine q_if_ne (t := 34) (u := 38) F dX9_added2_31 (by exact cmpI_ri _ _) (by decide) rfl (fun c31 => ?_) (fun c31 => ?_)
          · refine q_iconst (t := 39) F dX9_added2_38 rfl ?_
            refine q_istore_n (t := 40) F dX9_added2_39 rfl (by decide) rfl rfl ?_
            refine q_aload_n (t := 41) F dX9_added2_40 rfl rfl rfl ?_
            refine wp_callV (t := 44) [] F dX9_added2_41 k_X9_next v_X9_next ml_X9_196 rfl rfl rfl rfl (Nat.le_of_ble_eq_true rfl) (by decide) (m_30 (by omega)) (c_nextQ _ G im1 bt rt lm1 b n hb r.1 h11 hlt (by omega)) rfl (kV ?_)
            rintro m' ⟨im2, lm2, h2, hag2, hlg2, rfl⟩
            refine q_aload_n (t := 45) F dX9_added2_44 rfl rfl rfl ?_
            refine wp_callV (t := 48) [] F dX9_added2_45 k_X9_term2 v_X9_term2 ml_X9_292 rfl rfl rfl rfl (Nat.le_of_ble_eq_true rfl) (by decide) (m_30 (by omega)) (hO im2 lm2 nm (adv b n r.1) (-1) h2 (((hag2.trans hr.2.2.1) 30 0 27 (by omega)).trans h27) (hnm.ag (hag2.trans hr.2.2.1))) rfl (kI ?_)
            rintro x45 m' ⟨im3, lm3, h3, rfl⟩
            rw [stP_y] at h3
            refine q_istore_n (t := 49) F dX9_added2_48 rfl (by decide) rfl rfl ?_
            refine q_iload_n (t := 50) F dX9_added2_49 rfl rfl rfl ?_
            refine q_if_eq (t := 53) (u := 59) F dX9_added2_50 (by first | exact hR _ _ _ | (constructor <;> omega)) (by decide) rfl (fun c50 => ?_) (fun c50 => ?_)
            · refine q_iload_n (t := 60) F dX9_added2_59 rfl rfl rfl ?_
              refine q_iload_n (t := 61) F dX9_added2_60 rfl rfl rfl ?_
              refine q_isub (t := 62) F dX9_added2_61 rfl ?_
              refine q_norm ?_
              refine q_istore_n (t := 63) F dX9_added2_62 rfl (by decide) rfl rfl ?_
              refine q_goto (t := 5) F dX9_added2_63 (by decide) ?_
              refine wp_less 3 ?_
              refine wp_less 2 ?_
              first
                | (exfalso; omega)
                | (have hop : opS (tk b n r.1) = -10 := by unfold opS; rw [if_pos (by omega)]
                   refine ih5 (k - 1) (lpS b n opS (termL b n 3) r) _ im3 lm3 (by omega) ?_ ?_ (RPO_step hr hq.1 hag2 hlg2 h3 (ri_b _) (by rw [hop]; exact bi2_10 _ _))
                   · rw [hlp]
                     obtain ⟨k', hk'⟩ : ∃ k', k = k' + 1 := ⟨k - 1, by omega⟩
                     rw [hk', loopP_y2 hq.1 (by rw [hop]; decide)]
                     rfl
                   · have := hgd.1
                     show n - (termL b n 3 (adv b n r.1)).1 ≤ k - 1
                     omega)
                | (have hop : opS (tk b n r.1) = -11 := by unfold opS; rw [if_neg (by omega), if_pos (by omega)]
                   refine ih5 (k - 1) (lpS b n opS (termL b n 3) r) _ im3 lm3 (by omega) ?_ ?_ (RPO_step hr hq.1 hag2 hlg2 h3 (ri_b _) (by rw [hop]; exact bi2_11 _ _))
                   · rw [hlp]
                     obtain ⟨k', hk'⟩ : ∃ k', k = k' + 1 := ⟨k - 1, by omega⟩
                     rw [hk', loopP_y2 hq.1 (by rw [hop]; decide)]
                     rfl
                   · have := hgd.1
                     show n - (termL b n 3 (adv b n r.1)).1 ≤ k - 1
                     omega)
            · refine q_iload_n (t := 54) F dX9_added2_53 rfl rfl rfl ?_
              refine q_iload_n (t := 55) F dX9_added2_54 rfl rfl rfl ?_
              refine q_iadd (t := 56) F dX9_added2_55 rfl ?_
              refine q_goto (t := 62) F dX9_added2_56 (by decide) ?_
              refine q_norm ?_
              refine q_istore_n (t := 63) F dX9_added2_62 rfl (by decide) rfl rfl ?_
              refine q_goto (t := 5) F dX9_added2_63 (by decide) ?_
              refine wp_less 3 ?_
              refine wp_less 2 ?_
              first
                | (exfalso; omega)
                | (have hop : opS (tk b n r.1) = -10 := by unfold opS; rw [if_pos (by omega)]
                   refine ih5 (k - 1) (lpS b n opS (termL b n 3) r) _ im3 lm3 (by omega) ?_ ?_ (RPO_step hr hq.1 hag2 hlg2 h3 (ri_b _) (by rw [hop]; exact bi2_10 _ _))
                   · rw [hlp]
                     obtain ⟨k', hk'⟩ : ∃ k', k = k' + 1 := ⟨k - 1, by omega⟩
                     rw [hk', loopP_y2 hq.1 (by rw [hop]; decide)]
                     rfl
                   · have := hgd.1
                     show n - (termL b n 3 (adv b n r.1)).1 ≤ k - 1
                     omega)
                | (have hop : opS (tk b n r.1) = -11 := by unfold opS; rw [if_neg (by omega), if_pos (by omega)]
                   refine ih5 (k - 1) (lpS b n opS (termL b n 3) r) _ im3 lm3 (by omega) ?_ ?_ (RPO_step hr hq.1 hag2 hlg2 h3 (ri_b _) (by rw [hop]; exact bi2_11 _ _))
                   · rw [hlp]
                     obtain ⟨k', hk'⟩ : ∃ k', k = k' + 1 := ⟨k - 1, by omega⟩
                     rw [hk', loopP_y2 hq.1 (by rw [hop]; decide)]
                     rfl
                   · have := hgd.1
                     show n - (termL b n 3 (adv b n r.1)).1 ≤ k - 1
                     omega)
          · refine q_iconst (t := 35) F dX9_added2_34 rfl ?_
            refine q_goto (t := 39) F dX9_added2_35 (by decide) ?_
            refine q_istore_n (t := 40) F dX9_added2_39 rfl (by decide) rfl rfl ?_
            refine q_aload_n (t := 41) F dX9_added2_40 rfl rfl rfl ?_
            refine wp_callV (t := 44) [] F dX9_added2_41 k_X9_next v_X9_next ml_X9_196 rfl rfl rfl rfl (Nat.le_of_ble_eq_true rfl) (by decide) (m_30 (by omega)) (c_nextQ _ G im1 bt rt lm1 b n hb r.1 h11 hlt (by omega)) rfl (kV ?_)
            rintro m' ⟨im2, lm2, h2, hag2, hlg2, rfl⟩
            refine q_aload_n (t := 45) F dX9_added2_44 rfl rfl rfl ?_
            refine wp_callV (t := 48) [] F dX9_added2_45 k_X9_term2 v_X9_term2 ml_X9_292 rfl rfl rfl rfl (Nat.le_of_ble_eq_true rfl) (by decide) (m_30 (by omega)) (hO im2 lm2 nm (adv b n r.1) (-1) h2 (((hag2.trans hr.2.2.1) 30 0 27 (by omega)).trans h27) (hnm.ag (hag2.trans hr.2.2.1))) rfl (kI ?_)
            rintro x45 m' ⟨im3, lm3, h3, rfl⟩
            rw [stP_y] at h3
            refine q_istore_n (t := 49) F dX9_added2_48 rfl (by decide) rfl rfl ?_
            refine q_iload_n (t := 50) F dX9_added2_49 rfl rfl rfl ?_
            refine q_if_eq (t := 53) (u := 59) F dX9_added2_50 (by first | exact hR _ _ _ | (constructor <;> omega)) (by decide) rfl (fun c50 => ?_) (fun c50 => ?_)
            · refine q_iload_n (t := 60) F dX9_added2_59 rfl rfl rfl ?_
              refine q_iload_n (t := 61) F dX9_added2_60 rfl rfl rfl ?_
              refine q_isub (t := 62) F dX9_added2_61 rfl ?_
              refine q_norm ?_
              refine q_istore_n (t := 63) F dX9_added2_62 rfl (by decide) rfl rfl ?_
              refine q_goto (t := 5) F dX9_added2_63 (by decide) ?_
              refine wp_less 3 ?_
              refine wp_less 2 ?_
              first
                | (exfalso; omega)
                | (have hop : opS (tk b n r.1) = -10 := by unfold opS; rw [if_pos (by omega)]
                   refine ih5 (k - 1) (lpS b n opS (termL b n 3) r) _ im3 lm3 (by omega) ?_ ?_ (RPO_step hr hq.1 hag2 hlg2 h3 (ri_b _) (by rw [hop]; exact bi2_10 _ _))
                   · rw [hlp]
                     obtain ⟨k', hk'⟩ : ∃ k', k = k' + 1 := ⟨k - 1, by omega⟩
                     rw [hk', loopP_y2 hq.1 (by rw [hop]; decide)]
                     rfl
                   · have := hgd.1
                     show n - (termL b n 3 (adv b n r.1)).1 ≤ k - 1
                     omega)
                | (have hop : opS (tk b n r.1) = -11 := by unfold opS; rw [if_neg (by omega), if_pos (by omega)]
                   refine ih5 (k - 1) (lpS b n opS (termL b n 3) r) _ im3 lm3 (by omega) ?_ ?_ (RPO_step hr hq.1 hag2 hlg2 h3 (ri_b _) (by rw [hop]; exact bi2_11 _ _))
                   · rw [hlp]
                     obtain ⟨k', hk'⟩ : ∃ k', k = k' + 1 := ⟨k - 1, by omega⟩
                     rw [hk', loopP_y2 hq.1 (by rw [hop]; decide)]
                     rfl
                   · have := hgd.1
                     show n - (termL b n 3 (adv b n r.1)).1 ≤ k - 1
                     omega)
            · refine q_iload_n (t := 54) F dX9_added2_53 rfl rfl rfl ?_
              refine q_iload_n (t := 55) F dX9_added2_54 rfl rfl rfl ?_
              refine q_iadd (t := 56) F dX9_added2_55 rfl ?_
              refine q_goto (t := 62) F dX9_added2_56 (by decide) ?_
              refine q_norm ?_
              refine q_istore_n (t := 63) F dX9_added2_62 rfl (by decide) rfl rfl ?_
              refine q_goto (t := 5) F dX9_added2_63 (by decide) ?_
              refine wp_less 3 ?_
              refine wp_less 2 ?_
              first
                | (exfalso; omega)
                | (have hop : opS (tk b n r.1) = -10 := by unfold opS; rw [if_pos (by omega)]
                   refine ih5 (k - 1) (lpS b n opS (termL b n 3) r) _ im3 lm3 (by omega) ?_ ?_ (RPO_step hr hq.1 hag2 hlg2 h3 (ri_b _) (by rw [hop]; exact bi2_10 _ _))
                   · rw [hlp]
                     obtain ⟨k', hk'⟩ : ∃ k', k = k' + 1 := ⟨k - 1, by omega⟩
                     rw [hk', loopP_y2 hq.1 (by rw [hop]; decide)]
                     rfl
                   · have := hgd.1
                     show n - (termL b n 3 (adv b n r.1)).1 ≤ k - 1
                     omega)
                | (have hop : opS (tk b n r.1) = -11 := by unfold opS; rw [if_neg (by omega), if_pos (by omega)]
                   refine ih5 (k - 1) (lpS b n opS (termL b n 3) r) _ im3 lm3 (by omega) ?_ ?_ (RPO_step hr hq.1 hag2 hlg2 h3 (ri_b _) (by rw [hop]; exact bi2_11 _ _))
                   · rw [hlp]
                     obtain ⟨k', hk'⟩ : ∃ k', k = k' + 1 := ⟨k - 1, by omega⟩
                     rw [hk', loopP_y2 hq.1 (by rw [hop]; decide)]
                     rfl
                   · have := hgd.1
                     show n - (termL b n 3 (adv b n r.1)).1 ≤ k - 1
                     omega)
  refine wp_less 3 ?_
  refine wp_less 2 ?_
  exact L5 _ 160 _ _ _ _ (Nat.lt_succ_self _) rfl (by omega) h0

set_option maxHeartbeats 4000000 in
theorem c_X9_not2 (l : Launch) (G : GS)  (bt rt : Nat)  (b : Nat → Int) (n : Nat) (hb : byt b n) (hN : RT l G bt rt b n yX9_not3 Y_X9_not3 (denL b n 2) 3) (hS : RT l G bt rt b n yX9_added2 Y_X9_added2 (sumL b n 3) 2) (im lm : IM) (nm : Nat → Int) (p : Nat) (f : Int) (h : PQ b n im lm p f) (h27 : im 30 0 27 = ((2 : Nat) : Int)) (hnm : NMr im nm) : Cn l (XR G) yX9_not2 Y_X9_not2 [vR 30 0] (im, rs bt rt, lm) (pI fun x m' => ∃ im' lm', RPO b n im lm nm (stP (denL b n 3) p f) x im' lm' ∧ m' = (im', rs bt rt, lm')) := by
  refine cn_of (by decide) (okR G) rfl (Nat.le_of_ble_eq_true rfl) ?_
  intro M ad hMl F
  subst hMl
  have hn := hb.1
  have hR := h.2.1
  have hbb := h.b01
  have hti0 := tk_in b n p
  refine wp_pad 3 ?_
  show Wp M (XR G) ad Y_X9_not2 (pI fun x m' => ∃ im' lm', RPO b n im lm nm (stP (denL b n 3) p f) x im' lm' ∧ m' = (im', rs bt rt, lm')) 0 [some (vR 30 0), none, none, none] [] (im, rs bt rt, lm)
  refine q_aload_n (t := 1) F dX9_not2_0 rfl rfl rfl ?_
  refine q_bipush (t := 3) F dX9_not2_1 (by decide) rfl ?_
  refine q_bipush (t := 5) F dX9_not2_3 (by decide) rfl ?_
  refine q_bipush (t := 7) F dX9_not2_5 (by decide) rfl ?_
  refine q_iconst (t := 8) F dX9_not2_7 rfl ?_
  refine q_iconst (t := 9) F dX9_not2_8 rfl ?_
  refine q_iconst (t := 10) F dX9_not2_9 rfl ?_
  refine q_iconst (t := 11) F dX9_not2_10 rfl ?_
  refine q_iconst (t := 12) F dX9_not2_11 rfl ?_
  refine wp_callV (t := 15) [_, _, _, _, _, _, _, _] F dX9_not2_12 k_X9_isWord_ v_X9_isWord_ ml_X9_199 rfl rfl rfl rfl (Nat.le_of_ble_eq_true rfl) (by decide) (m_30 (by omega)) (c_isKey _ G im bt rt lm b n hb p f h 11 (by omega) (by omega) 9 (by omega) _ _ _ _ _ _ _ _ (by decide)) rfl (kI ?_)
  rintro x12 m' ⟨hx12, rfl⟩
  have hx12 := if01 hx12
  refine q_if_eq (t := 18) (u := 52) F dX9_not2_15 (by first | exact hR _ _ _ | (constructor <;> omega)) (by decide) rfl (fun c15 => ?_) (fun c15 => ?_)
  · refine q_aload_n (t := 53) F dX9_not2_52 rfl rfl rfl ?_
    refine wp_callV (t := 56) [] F dX9_not2_53 k_X9_added2 v_X9_added2 ml_X9_295 rfl rfl rfl rfl (Nat.le_of_ble_eq_true rfl) (by decide) (m_30 (by omega)) (hS im lm nm p f h h27 hnm) rfl (kI ?_)
    rintro xA m' ⟨im4, lm4, h4, rfl⟩
    have hn9 : f = -1 → tk b n p ≠ 9 := by omega
    obtain ⟨r, hrd⟩ : ∃ r, r = stP (sumL b n 3) p f := ⟨_, rfl⟩
    rw [← hrd] at h4
    have hb4 := h4.2.1.b01
    have hti := tk_in b n r.1
    have hra := h4.1
    have hra1 := hra.1
    have hra2 := hra.2
    refine q_istore_n (t := 57) F dX9_not2_56 rfl (by decide) rfl rfl ?_
    refine q_aload_n (t := 58) F dX9_not2_57 rfl rfl rfl ?_
    refine q_bipush (t := 60) F dX9_not2_58 (by decide) rfl ?_
    refine wp_callV (t := 63) [_] F dX9_not2_60 k_X9_isSign v_X9_isSign ml_X9_220 rfl rfl rfl rfl (Nat.le_of_ble_eq_true rfl) (by decide) (m_30 (by omega)) (c_X9_isSign _ G im4 bt rt lm4 b n hb r.1 r.2.1 h4.2.1 60 (by omega) (by omega)) rfl (kI ?_)
    rintro x60 m' ⟨hx60, rfl⟩
    have hx60 := if01 hx60
    refine q_if_ne (t := 66) (u := 77) F dX9_not2_63 (by first | exact hR _ _ _ | (constructor <;> omega)) (by decide) rfl (fun c63 => ?_) (fun c63 => ?_)
    · have hq : r.2.1 = -1 ∧ (tk b n r.1 = 60 ∨ tk b n r.1 = 61) := by omega
      have hlt : r.1 < n := tk_lt (b := b) (by omega)
      have hgd := PG_sumL b n 3 (adv b n r.1) (adv_in hlt).2
      have h11 := h4.2.1
      rw [hq.1] at h11
      have hw1 : lm4 30 0 26 = tk b n r.1 := ((TK_sign (h11.1.1 rfl).2.2 (s := tk b n r.1) (by omega)).mpr rfl).2
      have hcm : cmpI (lm4 30 0 26) 60 = 0 ↔ lm4 30 0 26 = 60 := cmpI_eq
      refine q_aload_n (t := 78) F dX9_not2_77 rfl rfl rfl ?_
      refine g_X9_175 (t := 81) F dX9_not2_78 rfl rfl ?_
      try simp only [up_app, row_app, scr_app, cpy_app, Nat.reduceEqDiff, Int.reduceToNat, Int.toNat_natCast, and_true, true_and, and_false, false_and, and_self, reduceIte]
      refine q_ldc2 (t := 84) (x := 60) F dX9_not2_81 kl_X9_242 (by decide) rfl ?_
      refine q_lcmp (t := 85) F dX9_not2_84 ⟨by omega, by omega⟩ ⟨by omega, by omega⟩ rfl ?_
      refine q_if_ne (t := 88) (u := 92) F dX9_not2_85 (by exact cmpI_ri _ _) (by decide) rfl (fun c85 => ?_) (fun c85 => ?_)
      · refine q_iconst (t := 93) F dX9_not2_92 rfl ?_
        refine q_istore_n (t := 94) F dX9_not2_93 rfl (by decide) rfl rfl ?_
        refine q_aload_n (t := 95) F dX9_not2_94 rfl rfl rfl ?_
        refine wp_callV (t := 98) [] F dX9_not2_95 k_X9_next v_X9_next ml_X9_196 rfl rfl rfl rfl (Nat.le_of_ble_eq_true rfl) (by decide) (m_30 (by omega)) (c_nextQ _ G im4 bt rt lm4 b n hb r.1 h11 hlt (by omega)) rfl (kV ?_)
        rintro m' ⟨im5, lm5, h5, hag5, hlg5, rfl⟩
        refine q_aload_n (t := 99) F dX9_not2_98 rfl rfl rfl ?_
        refine wp_callV (t := 102) [] F dX9_not2_99 k_X9_added2 v_X9_added2 ml_X9_295 rfl rfl rfl rfl (Nat.le_of_ble_eq_true rfl) (by decide) (m_30 (by omega)) (hS im5 lm5 nm (adv b n r.1) (-1) h5 (((hag5.trans h4.2.2.1) 30 0 27 (by omega)).trans h27) (hnm.ag (hag5.trans h4.2.2.1))) rfl (kI ?_)
        rintro xB m' ⟨im6, lm6, h6, rfl⟩
        rw [stP_y] at h6
        have hrb := h6.1
        have hrb1 := hrb.1
        have hrb2 := hrb.2
        refine q_istore_n (t := 103) F dX9_not2_102 rfl (by decide) rfl rfl ?_
        refine q_iload_n (t := 104) F dX9_not2_103 rfl rfl rfl ?_
        refine q_if_eq (t := 107) (u := 115) F dX9_not2_104 (by first | exact hR _ _ _ | (constructor <;> omega)) (by decide) rfl (fun c104 => ?_) (fun c104 => ?_)
        · refine q_iload_n (t := 116) F dX9_not2_115 rfl rfl rfl ?_
          refine q_iload_n (t := 117) F dX9_not2_116 rfl rfl rfl ?_
          refine q_icmp_ne (t := 120) (u := 124) F dX9_not2_117 (by exact hra) (by exact hrb) (by decide) rfl (fun c117 => ?_) (fun c117 => ?_)
          · refine q_iconst (t := 125) F dX9_not2_124 rfl ?_
            refine q_iret F dX9_not2_125 rfl ?_
            first
              | (exfalso; omega)
              | (have hop : opC (tk b n r.1) = -12 := by unfold opC; rw [if_pos (by omega)]
                 refine ⟨_, rfl, im6, lm6, ?_, rfl⟩
                 rw [den_oth hn9, ← hrd, loopP_y2 (f := 0) hq.1 (by rw [hop]; decide)]
                 refine RPO_step h4 hq.1 hag5 hlg5 h6 (by constructor <;> omega) ?_
                 rw [hop]
                 refine Eq.trans ?_ (bi2_12 _ _)
                 first
                   | exact (if_pos (by omega)).symm
                   | exact (if_neg (by omega)).symm)
              | (have hop : opC (tk b n r.1) = -13 := by unfold opC; rw [if_neg (by omega), if_pos (by omega)]
                 refine ⟨_, rfl, im6, lm6, ?_, rfl⟩
                 rw [den_oth hn9, ← hrd, loopP_y2 (f := 0) hq.1 (by rw [hop]; decide)]
                 refine RPO_step h4 hq.1 hag5 hlg5 h6 (by constructor <;> omega) ?_
                 rw [hop]
                 refine Eq.trans ?_ (bi2_13 _ _)
                 first
                   | exact (if_pos (by omega)).symm
                   | exact (if_neg (by omega)).symm)
          · refine q_iconst (t := 121) F dX9_not2_120 rfl ?_
            refine q_goto (t := 125) F dX9_not2_121 (by decide) ?_
            refine q_iret F dX9_not2_125 rfl ?_
            first
              | (exfalso; omega)
              | (have hop : opC (tk b n r.1) = -12 := by unfold opC; rw [if_pos (by omega)]
                 refine ⟨_, rfl, im6, lm6, ?_, rfl⟩
                 rw [den_oth hn9, ← hrd, loopP_y2 (f := 0) hq.1 (by rw [hop]; decide)]
                 refine RPO_step h4 hq.1 hag5 hlg5 h6 (by constructor <;> omega) ?_
                 rw [hop]
                 refine Eq.trans ?_ (bi2_12 _ _)
                 first
                   | exact (if_pos (by omega)).symm
                   | exact (if_neg (by omega)).symm)
              | (have hop : opC (tk b n r.1) = -13 := by unfold opC; rw [if_neg (by omega), if_pos (by omega)]
                 refine ⟨_, rfl, im6, lm6, ?_, rfl⟩
                 rw [den_oth hn9, ← hrd, loopP_y2 (f := 0) hq.1 (by rw [hop]; decide)]
                 refine RPO_step h4 hq.1 hag5 hlg5 h6 (by constructor <;> omega) ?_
                 rw [hop]
                 refine Eq.trans ?_ (bi2_13 _ _)
                 first
                   | exact (if_pos (by omega)).symm
                   | exact (if_neg (by omega)).symm)
        · refine q_iload_n (t := 108) F dX9_not2_107 rfl rfl rfl ?_
          refine q_iload_n (t := 109) F dX9_not2_108 rfl rfl rfl ?_
          refine q_icmp_ge (t := 112) (u := 124) F dX9_not2_109 (by exact hra) (by exact hrb) (by decide) rfl (fun c109 => ?_) (fun c109 => ?_)
          · refine q_iconst (t := 125) F dX9_not2_124 rfl ?_
            refine q_iret F dX9_not2_125 rfl ?_
            first
              | (exfalso; omega)
              | (have hop : opC (tk b n r.1) = -12 := by unfold opC; rw [if_pos (by omega)]
                 refine ⟨_, rfl, im6, lm6, ?_, rfl⟩
                 rw [den_oth hn9, ← hrd, loopP_y2 (f := 0) hq.1 (by rw [hop]; decide)]
                 refine RPO_step h4 hq.1 hag5 hlg5 h6 (by constructor <;> omega) ?_
                 rw [hop]
                 refine Eq.trans ?_ (bi2_12 _ _)
                 first
                   | exact (if_pos (by omega)).symm
                   | exact (if_neg (by omega)).symm)
              | (have hop : opC (tk b n r.1) = -13 := by unfold opC; rw [if_neg (by omega), if_pos (by omega)]
                 refine ⟨_, rfl, im6, lm6, ?_, rfl⟩
                 rw [den_oth hn9, ← hrd, loopP_y2 (f := 0) hq.1 (by rw [hop]; decide)]
                 refine RPO_step h4 hq.1 hag5 hlg5 h6 (by constructor <;> omega) ?_
                 rw [hop]
                 refine Eq.trans ?_ (bi2_13 _ _)
                 first
                   | exact (if_pos (by omega)).symm
                   | exact (if_neg (by omega)).symm)
          · refine q_goto (t := 120) F dX9_not2_112 (by decide) ?_
            refine q_iconst (t := 121) F dX9_not2_120 rfl ?_
            refine q_goto (t := 125) F dX9_not2_121 (by decide) ?_
            refine q_iret F dX9_not2_125 rfl ?_
            first
              | (exfalso; omega)
              | (have hop : opC (tk b n r.1) = -12 := by unfold opC; rw [if_pos (by omega)]
                 refine ⟨_, rfl, im6, lm6, ?_, rfl⟩
                 rw [den_oth hn9, ← hrd, loopP_y2 (f := 0) hq.1 (by rw [hop]; decide)]
                 refine RPO_step h4 hq.1 hag5 hlg5 h6 (by constructor <;> omega) ?_
                 rw [hop]
                 refine Eq.trans ?_ (bi2_12 _ _)
                 first
                   | exact (if_pos (by omega)).symm
                   | exact (if_neg (by omega)).symm)
              | (have hop : opC (tk b n r.1) = -13 := by unfold opC; rw [if_neg (by omega), if_pos (by omega)]
                 refine ⟨_, rfl, im6, lm6, ?_, rfl⟩
                 rw [den_oth hn9, ← hrd, loopP_y2 (f := 0) hq.1 (by rw [hop]; decide)]
                 refine RPO_step h4 hq.1 hag5 hlg5 h6 (by constructor <;> omega) ?_
                 rw [hop]
                 refine Eq.trans ?_ (bi2_13 _ _)
                 first
                   | exact (if_pos (by omega)).symm
                   | exact (if_neg (by omega)).symm)
      · refine q_iconst (t := 89) F dX9_not2_88 rfl ?_
        refine q_goto (t := 93) F dX9_not2_89 (by decide) ?_
        refine q_istore_n (t := 94) F dX9_not2_93 rfl (by decide) rfl rfl ?_
        refine q_aload_n (t := 95) F dX9_not2_94 rfl rfl rfl ?_
        refine wp_callV (t := 98) [] F dX9_not2_95 k_X9_next v_X9_next ml_X9_196 rfl rfl rfl rfl (Nat.le_of_ble_eq_true rfl) (by decide) (m_30 (by omega)) (c_nextQ _ G im4 bt rt lm4 b n hb r.1 h11 hlt (by omega)) rfl (kV ?_)
        rintro m' ⟨im5, lm5, h5, hag5, hlg5, rfl⟩
        refine q_aload_n (t := 99) F dX9_not2_98 rfl rfl rfl ?_
        refine wp_callV (t := 102) [] F dX9_not2_99 k_X9_added2 v_X9_added2 ml_X9_295 rfl rfl rfl rfl (Nat.le_of_ble_eq_true rfl) (by decide) (m_30 (by omega)) (hS im5 lm5 nm (adv b n r.1) (-1) h5 (((hag5.trans h4.2.2.1) 30 0 27 (by omega)).trans h27) (hnm.ag (hag5.trans h4.2.2.1))) rfl (kI ?_)
        rintro xB m' ⟨im6, lm6, h6, rfl⟩
        rw [stP_y] at h6
        have hrb := h6.1
        have hrb1 := hrb.1
        have hrb2 := hrb.2
        refine q_istore_n (t := 103) F dX9_not2_102 rfl (by decide) rfl rfl ?_
        refine q_iload_n (t := 104) F dX9_not2_103 rfl rfl rfl ?_
        refine q_if_eq (t := 107) (u := 115) F dX9_not2_104 (by first | exact hR _ _ _ | (constructor <;> omega)) (by decide) rfl (fun c104 => ?_) (fun c104 => ?_)
        · refine q_iload_n (t := 116) F dX9_not2_115 rfl rfl rfl ?_
          refine q_iload_n (t := 117) F dX9_not2_116 rfl rfl rfl ?_
          refine q_icmp_ne (t := 120) (u := 124) F dX9_not2_117 (by exact hra) (by exact hrb) (by decide) rfl (fun c117 => ?_) (fun c117 => ?_)
          · refine q_iconst (t := 125) F dX9_not2_124 rfl ?_
            refine q_iret F dX9_not2_125 rfl ?_
            first
              | (exfalso; omega)
              | (have hop : opC (tk b n r.1) = -12 := by unfold opC; rw [if_pos (by omega)]
                 refine ⟨_, rfl, im6, lm6, ?_, rfl⟩
                 rw [den_oth hn9, ← hrd, loopP_y2 (f := 0) hq.1 (by rw [hop]; decide)]
                 refine RPO_step h4 hq.1 hag5 hlg5 h6 (by constructor <;> omega) ?_
                 rw [hop]
                 refine Eq.trans ?_ (bi2_12 _ _)
                 first
                   | exact (if_pos (by omega)).symm
                   | exact (if_neg (by omega)).symm)
              | (have hop : opC (tk b n r.1) = -13 := by unfold opC; rw [if_neg (by omega), if_pos (by omega)]
                 refine ⟨_, rfl, im6, lm6, ?_, rfl⟩
                 rw [den_oth hn9, ← hrd, loopP_y2 (f := 0) hq.1 (by rw [hop]; decide)]
                 refine RPO_step h4 hq.1 hag5 hlg5 h6 (by constructor <;> omega) ?_
                 rw [hop]
                 refine Eq.trans ?_ (bi2_13 _ _)
                 first
                   | exact (if_pos (by omega)).symm
                   | exact (if_neg (by omega)).symm)
          · refine q_iconst (t := 121) F dX9_not2_120 rfl ?_
            refine q_goto (t := 125) F dX9_not2_121 (by decide) ?_
            refine q_iret F dX9_not2_125 rfl ?_
            first
              | (exfalso; omega)
              | (have hop : opC (tk b n r.1) = -12 := by unfold opC; rw [if_pos (by omega)]
                 refine ⟨_, rfl, im6, lm6, ?_, rfl⟩
                 rw [den_oth hn9, ← hrd, loopP_y2 (f := 0) hq.1 (by rw [hop]; decide)]
                 refine RPO_step h4 hq.1 hag5 hlg5 h6 (by constructor <;> omega) ?_
                 rw [hop]
                 refine Eq.trans ?_ (bi2_12 _ _)
                 first
                   | exact (if_pos (by omega)).symm
                   | exact (if_neg (by omega)).symm)
              | (have hop : opC (tk b n r.1) = -13 := by unfold opC; rw [if_neg (by omega), if_pos (by omega)]
                 refine ⟨_, rfl, im6, lm6, ?_, rfl⟩
                 rw [den_oth hn9, ← hrd, loopP_y2 (f := 0) hq.1 (by rw [hop]; decide)]
                 refine RPO_step h4 hq.1 hag5 hlg5 h6 (by constructor <;> omega) ?_
                 rw [hop]
                 refine Eq.trans ?_ (bi2_13 _ _)
                 first
                   | exact (if_pos (by omega)).symm
                   | exact (if_neg (by omega)).symm)
        · refine q_iload_n (t := 108) F dX9_not2_107 rfl rfl rfl ?_
          refine q_iload_n (t := 109) F dX9_not2_108 rfl rfl rfl ?_
          refine q_icmp_ge (t := 112) (u := 124) F dX9_not2_109 (by exact hra) (by exact hrb) (by decide) rfl (fun c109 => ?_) (fun c109 => ?_)
          · refine q_iconst (t := 125) F dX9_not2_124 rfl ?_
            refine q_iret F dX9_not2_125 rfl ?_
            first
              | (exfalso; omega)
              | (have hop : opC (tk b n r.1) = -12 := by unfold opC; rw [if_pos (by omega)]
                 refine ⟨_, rfl, im6, lm6, ?_, rfl⟩
                 rw [den_oth hn9, ← hrd, loopP_y2 (f := 0) hq.1 (by rw [hop]; decide)]
                 refine RPO_step h4 hq.1 hag5 hlg5 h6 (by constructor <;> omega) ?_
                 rw [hop]
                 refine Eq.trans ?_ (bi2_12 _ _)
                 first
                   | exact (if_pos (by omega)).symm
                   | exact (if_neg (by omega)).symm)
              | (have hop : opC (tk b n r.1) = -13 := by unfold opC; rw [if_neg (by omega), if_pos (by omega)]
                 refine ⟨_, rfl, im6, lm6, ?_, rfl⟩
                 rw [den_oth hn9, ← hrd, loopP_y2 (f := 0) hq.1 (by rw [hop]; decide)]
                 refine RPO_step h4 hq.1 hag5 hlg5 h6 (by constructor <;> omega) ?_
                 rw [hop]
                 refine Eq.trans ?_ (bi2_13 _ _)
                 first
                   | exact (if_pos (by omega)).symm
                   | exact (if_neg (by omega)).symm)
          · refine q_goto (t := 120) F dX9_not2_112 (by decide) ?_
            refine q_iconst (t := 121) F dX9_not2_120 rfl ?_
            refine q_goto (t := 125) F dX9_not2_121 (by decide) ?_
            refine q_iret F dX9_not2_125 rfl ?_
            first
              | (exfalso; omega)
              | (have hop : opC (tk b n r.1) = -12 := by unfold opC; rw [if_pos (by omega)]
                 refine ⟨_, rfl, im6, lm6, ?_, rfl⟩
                 rw [den_oth hn9, ← hrd, loopP_y2 (f := 0) hq.1 (by rw [hop]; decide)]
                 refine RPO_step h4 hq.1 hag5 hlg5 h6 (by constructor <;> omega) ?_
                 rw [hop]
                 refine Eq.trans ?_ (bi2_12 _ _)
                 first
                   | exact (if_pos (by omega)).symm
                   | exact (if_neg (by omega)).symm)
              | (have hop : opC (tk b n r.1) = -13 := by unfold opC; rw [if_neg (by omega), if_pos (by omega)]
                 refine ⟨_, rfl, im6, lm6, ?_, rfl⟩
                 rw [den_oth hn9, ← hrd, loopP_y2 (f := 0) hq.1 (by rw [hop]; decide)]
                 refine RPO_step h4 hq.1 hag5 hlg5 h6 (by constructor <;> omega) ?_
                 rw [hop]
                 refine Eq.trans ?_ (bi2_13 _ _)
                 first
                   | exact (if_pos (by omega)).symm
                   | exact (if_neg (by omega)).symm)
    · refine q_aload_n (t := 67) F dX9_not2_66 rfl rfl rfl ?_
      refine q_bipush (t := 69) F dX9_not2_67 (by decide) rfl ?_
      refine wp_callV (t := 72) [_] F dX9_not2_69 k_X9_isSign v_X9_isSign ml_X9_220 rfl rfl rfl rfl (Nat.le_of_ble_eq_true rfl) (by decide) (m_30 (by omega)) (c_X9_isSign _ G im4 bt rt lm4 b n hb r.1 r.2.1 h4.2.1 61 (by omega) (by omega)) rfl (kI ?_)
      rintro x69 m' ⟨hx69, rfl⟩
      have hx69 := if01 hx69
      refine q_if_ne (t := 75) (u := 77) F dX9_not2_72 (by first | exact hR _ _ _ | (constructor <;> omega)) (by decide) rfl (fun c72 => ?_) (fun c72 => ?_)
      · have hq : r.2.1 = -1 ∧ (tk b n r.1 = 60 ∨ tk b n r.1 = 61) := by omega
        have hlt : r.1 < n := tk_lt (b := b) (by omega)
        have hgd := PG_sumL b n 3 (adv b n r.1) (adv_in hlt).2
        have h11 := h4.2.1
        rw [hq.1] at h11
        have hw1 : lm4 30 0 26 = tk b n r.1 := ((TK_sign (h11.1.1 rfl).2.2 (s := tk b n r.1) (by omega)).mpr rfl).2
        have hcm : cmpI (lm4 30 0 26) 60 = 0 ↔ lm4 30 0 26 = 60 := cmpI_eq
        refine q_aload_n (t := 78) F dX9_not2_77 rfl rfl rfl ?_
        refine g_X9_175 (t := 81) F dX9_not2_78 rfl rfl ?_
        try simp only [up_app, row_app, scr_app, cpy_app, Nat.reduceEqDiff, Int.reduceToNat, Int.toNat_natCast, and_true, true_and, and_false, false_and, and_self, reduceIte]
        refine q_ldc2 (t := 84) (x := 60) F dX9_not2_81 kl_X9_242 (by decide) rfl ?_
        refine q_lcmp (t := 85) F dX9_not2_84 ⟨by omega, by omega⟩ ⟨by omega, by omega⟩ rfl ?_
        refine q_if_ne (t := 88) (u := 92) F dX9_not2_85 (by exact cmpI_ri _ _) (by decide) rfl (fun c85 => ?_) (fun c85 => ?_)
        · refine q_iconst (t := 93) F dX9_not2_92 rfl ?_
          refine q_istore_n (t := 94) F dX9_not2_93 rfl (by decide) rfl rfl ?_
          refine q_aload_n (t := 95) F dX9_not2_94 rfl rfl rfl ?_
          refine wp_callV (t := 98) [] F dX9_not2_95 k_X9_next v_X9_next ml_X9_196 rfl rfl rfl rfl (Nat.le_of_ble_eq_true rfl) (by decide) (m_30 (by omega)) (c_nextQ _ G im4 bt rt lm4 b n hb r.1 h11 hlt (by omega)) rfl (kV ?_)
          rintro m' ⟨im5, lm5, h5, hag5, hlg5, rfl⟩
          refine q_aload_n (t := 99) F dX9_not2_98 rfl rfl rfl ?_
          refine wp_callV (t := 102) [] F dX9_not2_99 k_X9_added2 v_X9_added2 ml_X9_295 rfl rfl rfl rfl (Nat.le_of_ble_eq_true rfl) (by decide) (m_30 (by omega)) (hS im5 lm5 nm (adv b n r.1) (-1) h5 (((hag5.trans h4.2.2.1) 30 0 27 (by omega)).trans h27) (hnm.ag (hag5.trans h4.2.2.1))) rfl (kI ?_)
          rintro xB m' ⟨im6, lm6, h6, rfl⟩
          rw [stP_y] at h6
          have hrb := h6.1
          have hrb1 := hrb.1
          have hrb2 := hrb.2
          refine q_istore_n (t := 103) F dX9_not2_102 rfl (by decide) rfl rfl ?_
          refine q_iload_n (t := 104) F dX9_not2_103 rfl rfl rfl ?_
          refine q_if_eq (t := 107) (u := 115) F dX9_not2_104 (by first | exact hR _ _ _ | (constructor <;> omega)) (by decide) rfl (fun c104 => ?_) (fun c104 => ?_)
          · refine q_iload_n (t := 116) F dX9_not2_115 rfl rfl rfl ?_
            refine q_iload_n (t := 117) F dX9_not2_116 rfl rfl rfl ?_
            refine q_icmp_ne (t := 120) (u := 124) F dX9_not2_117 (by exact hra) (by exact hrb) (by decide) rfl (fun c117 => ?_) (fun c117 => ?_)
            · refine q_iconst (t := 125) F dX9_not2_124 rfl ?_
              refine q_iret F dX9_not2_125 rfl ?_
              first
                | (exfalso; omega)
                | (have hop : opC (tk b n r.1) = -12 := by unfold opC; rw [if_pos (by omega)]
                   refine ⟨_, rfl, im6, lm6, ?_, rfl⟩
                   rw [den_oth hn9, ← hrd, loopP_y2 (f := 0) hq.1 (by rw [hop]; decide)]
                   refine RPO_step h4 hq.1 hag5 hlg5 h6 (by constructor <;> omega) ?_
                   rw [hop]
                   refine Eq.trans ?_ (bi2_12 _ _)
                   first
                     | exact (if_pos (by omega)).symm
                     | exact (if_neg (by omega)).symm)
                | (have hop : opC (tk b n r.1) = -13 := by unfold opC; rw [if_neg (by omega), if_pos (by omega)]
                   refine ⟨_, rfl, im6, lm6, ?_, rfl⟩
                   rw [den_oth hn9, ← hrd, loopP_y2 (f := 0) hq.1 (by rw [hop]; decide)]
                   refine RPO_step h4 hq.1 hag5 hlg5 h6 (by constructor <;> omega) ?_
                   rw [hop]
                   refine Eq.trans ?_ (bi2_13 _ _)
                   first
                     | exact (if_pos (by omega)).symm
                     | exact (if_neg (by omega)).symm)
            · refine q_iconst (t := 121) F dX9_not2_120 rfl ?_
              refine q_goto (t := 125) F dX9_not2_121 (by decide) ?_
              refine q_iret F dX9_not2_125 rfl ?_
              first
                | (exfalso; omega)
                | (have hop : opC (tk b n r.1) = -12 := by unfold opC; rw [if_pos (by omega)]
                   refine ⟨_, rfl, im6, lm6, ?_, rfl⟩
                   rw [den_oth hn9, ← hrd, loopP_y2 (f := 0) hq.1 (by rw [hop]; decide)]
                   refine RPO_step h4 hq.1 hag5 hlg5 h6 (by constructor <;> omega) ?_
                   rw [hop]
                   refine Eq.trans ?_ (bi2_12 _ _)
                   first
                     | exact (if_pos (by omega)).symm
                     | exact (if_neg (by omega)).symm)
                | (have hop : opC (tk b n r.1) = -13 := by unfold opC; rw [if_neg (by omega), if_pos (by omega)]
                   refine ⟨_, rfl, im6, lm6, ?_, rfl⟩
                   rw [den_oth hn9, ← hrd, loopP_y2 (f := 0) hq.1 (by rw [hop]; decide)]
                   refine RPO_step h4 hq.1 hag5 hlg5 h6 (by constructor <;> omega) ?_
                   rw [hop]
                   refine Eq.trans ?_ (bi2_13 _ _)
                   first
                     | exact (if_pos (by omega)).symm
                     | exact (if_neg (by omega)).symm)
          · refine q_iload_n (t := 108) F dX9_not2_107 rfl rfl rfl ?_
            refine q_iload_n (t := 109) F dX9_not2_108 rfl rfl rfl ?_
            refine q_icmp_ge (t := 112) (u := 124) F dX9_not2_109 (by exact hra) (by exact hrb) (by decide) rfl (fun c109 => ?_) (fun c109 => ?_)
            · refine q_iconst (t := 125) F dX9_not2_124 rfl ?_
              refine q_iret F dX9_not2_125 rfl ?_
              first
                | (exfalso; omega)
                | (have hop : opC (tk b n r.1) = -12 := by unfold opC; rw [if_pos (by omega)]
                   refine ⟨_, rfl, im6, lm6, ?_, rfl⟩
                   rw [den_oth hn9, ← hrd, loopP_y2 (f := 0) hq.1 (by rw [hop]; decide)]
                   refine RPO_step h4 hq.1 hag5 hlg5 h6 (by constructor <;> omega) ?_
                   rw [hop]
                   refine Eq.trans ?_ (bi2_12 _ _)
                   first
                     | exact (if_pos (by omega)).symm
                     | exact (if_neg (by omega)).symm)
                | (have hop : opC (tk b n r.1) = -13 := by unfold opC; rw [if_neg (by omega), if_pos (by omega)]
                   refine ⟨_, rfl, im6, lm6, ?_, rfl⟩
                   rw [den_oth hn9, ← hrd, loopP_y2 (f := 0) hq.1 (by rw [hop]; decide)]
                   refine RPO_step h4 hq.1 hag5 hlg5 h6 (by constructor <;> omega) ?_
                   rw [hop]
                   refine Eq.trans ?_ (bi2_13 _ _)
                   first
                     | exact (if_pos (by omega)).symm
                     | exact (if_neg (by omega)).symm)
            · refine q_goto (t := 120) F dX9_not2_112 (by decide) ?_
              refine q_iconst (t := 121) F dX9_not2_120 rfl ?_
              refine q_goto (t := 125) F dX9_not2_121 (by decide) ?_
              refine q_iret F dX9_not2_125 rfl ?_
              first
                | (exfalso; omega)
                | (have hop : opC (tk b n r.1) = -12 := by unfold opC; rw [if_pos (by omega)]
                   refine ⟨_, rfl, im6, lm6, ?_, rfl⟩
                   rw [den_oth hn9, ← hrd, loopP_y2 (f := 0) hq.1 (by rw [hop]; decide)]
                   refine RPO_step h4 hq.1 hag5 hlg5 h6 (by constructor <;> omega) ?_
                   rw [hop]
                   refine Eq.trans ?_ (bi2_12 _ _)
                   first
                     | exact (if_pos (by omega)).symm
                     | exact (if_neg (by omega)).symm)
                | (have hop : opC (tk b n r.1) = -13 := by unfold opC; rw [if_neg (by omega), if_pos (by omega)]
                   refine ⟨_, rfl, im6, lm6, ?_, rfl⟩
                   rw [den_oth hn9, ← hrd, loopP_y2 (f := 0) hq.1 (by rw [hop]; decide)]
                   refine RPO_step h4 hq.1 hag5 hlg5 h6 (by constructor <;> omega) ?_
                   rw [hop]
                   refine Eq.trans ?_ (bi2_13 _ _)
                   first
                     | exact (if_pos (by omega)).symm
                     | exact (if_neg (by omega)).symm)
        · refine q_iconst (t := 89) F dX9_not2_88 rfl ?_
          refine q_goto (t := 93) F dX9_not2_89 (by decide) ?_
          refine q_istore_n (t := 94) F dX9_not2_93 rfl (by decide) rfl rfl ?_
          refine q_aload_n (t := 95) F dX9_not2_94 rfl rfl rfl ?_
          refine wp_callV (t := 98) [] F dX9_not2_95 k_X9_next v_X9_next ml_X9_196 rfl rfl rfl rfl (Nat.le_of_ble_eq_true rfl) (by decide) (m_30 (by omega)) (c_nextQ _ G im4 bt rt lm4 b n hb r.1 h11 hlt (by omega)) rfl (kV ?_)
          rintro m' ⟨im5, lm5, h5, hag5, hlg5, rfl⟩
          refine q_aload_n (t := 99) F dX9_not2_98 rfl rfl rfl ?_
          refine wp_callV (t := 102) [] F dX9_not2_99 k_X9_added2 v_X9_added2 ml_X9_295 rfl rfl rfl rfl (Nat.le_of_ble_eq_true rfl) (by decide) (m_30 (by omega)) (hS im5 lm5 nm (adv b n r.1) (-1) h5 (((hag5.trans h4.2.2.1) 30 0 27 (by omega)).trans h27) (hnm.ag (hag5.trans h4.2.2.1))) rfl (kI ?_)
          rintro xB m' ⟨im6, lm6, h6, rfl⟩
          rw [stP_y] at h6
          have hrb := h6.1
          have hrb1 := hrb.1
          have hrb2 := hrb.2
          refine q_istore_n (t := 103) F dX9_not2_102 rfl (by decide) rfl rfl ?_
          refine q_iload_n (t := 104) F dX9_not2_103 rfl rfl rfl ?_
          refine q_if_eq (t := 107) (u := 115) F dX9_not2_104 (by first | exact hR _ _ _ | (constructor <;> omega)) (by decide) rfl (fun c104 => ?_) (fun c104 => ?_)
          · refine q_iload_n (t := 116) F dX9_not2_115 rfl rfl rfl ?_
            refine q_iload_n (t := 117) F dX9_not2_116 rfl rfl rfl ?_
            refine q_icmp_ne (t := 120) (u := 124) F dX9_not2_117 (by exact hra) (by exact hrb) (by decide) rfl (fun c117 => ?_) (fun c117 => ?_)
            · refine q_iconst (t := 125) F dX9_not2_124 rfl ?_
              refine q_iret F dX9_not2_125 rfl ?_
              first
                | (exfalso; omega)
                | (have hop : opC (tk b n r.1) = -12 := by unfold opC; rw [if_pos (by omega)]
                   refine ⟨_, rfl, im6, lm6, ?_, rfl⟩
                   rw [den_oth hn9, ← hrd, loopP_y2 (f := 0) hq.1 (by rw [hop]; decide)]
                   refine RPO_step h4 hq.1 hag5 hlg5 h6 (by constructor <;> omega) ?_
                   rw [hop]
                   refine Eq.trans ?_ (bi2_12 _ _)
                   first
                     | exact (if_pos (by omega)).symm
                     | exact (if_neg (by omega)).symm)
                | (have hop : opC (tk b n r.1) = -13 := by unfold opC; rw [if_neg (by omega), if_pos (by omega)]
                   refine ⟨_, rfl, im6, lm6, ?_, rfl⟩
                   rw [den_oth hn9, ← hrd, loopP_y2 (f := 0) hq.1 (by rw [hop]; decide)]
                   refine RPO_step h4 hq.1 hag5 hlg5 h6 (by constructor <;> omega) ?_
                   rw [hop]
                   refine Eq.trans ?_ (bi2_13 _ _)
                   first
                     | exact (if_pos (by omega)).symm
                     | exact (if_neg (by omega)).symm)
            · refine q_iconst (t := 121) F dX9_not2_120 rfl ?_
              refine q_goto (t := 125) F dX9_not2_121 (by decide) ?_
              refine q_iret F dX9_not2_125 rfl ?_
              first
                | (exfalso; omega)
                | (have hop : opC (tk b n r.1) = -12 := by unfold opC; rw [if_pos (by omega)]
                   refine ⟨_, rfl, im6, lm6, ?_, rfl⟩
                   rw [den_oth hn9, ← hrd, loopP_y2 (f := 0) hq.1 (by rw [hop]; decide)]
                   refine RPO_step h4 hq.1 hag5 hlg5 h6 (by constructor <;> omega) ?_
                   rw [hop]
                   refine Eq.trans ?_ (bi2_12 _ _)
                   first
                     | exact (if_pos (by omega)).symm
                     | exact (if_neg (by omega)).symm)
                | (have hop : opC (tk b n r.1) = -13 := by unfold opC; rw [if_neg (by omega), if_pos (by omega)]
                   refine ⟨_, rfl, im6, lm6, ?_, rfl⟩
                   rw [den_oth hn9, ← hrd, loopP_y2 (f := 0) hq.1 (by rw [hop]; decide)]
                   refine RPO_step h4 hq.1 hag5 hlg5 h6 (by constructor <;> omega) ?_
                   rw [hop]
                   refine Eq.trans ?_ (bi2_13 _ _)
                   first
                     | exact (if_pos (by omega)).symm
                     | exact (if_neg (by omega)).symm)
          · refine q_iload_n (t := 108) F dX9_not2_107 rfl rfl rfl ?_
            refine q_iload_n (t := 109) F dX9_not2_108 rfl rfl rfl ?_
            refine q_icmp_ge (t := 112) (u := 124) F dX9_not2_109 (by exact hra) (by exact hrb) (by decide) rfl (fun c109 => ?_) (fun c109 => ?_)
            · refine q_iconst (t := 125) F dX9_not2_124 rfl ?_
              refine q_iret F dX9_not2_125 rfl ?_
              first
                | (exfalso; omega)
                | (have hop : opC (tk b n r.1) = -12 := by unfold opC; rw [if_pos (by omega)]
                   refine ⟨_, rfl, im6, lm6, ?_, rfl⟩
                   rw [den_oth hn9, ← hrd, loopP_y2 (f := 0) hq.1 (by rw [hop]; decide)]
                   refine RPO_step h4 hq.1 hag5 hlg5 h6 (by constructor <;> omega) ?_
                   rw [hop]
                   refine Eq.trans ?_ (bi2_12 _ _)
                   first
                     | exact (if_pos (by omega)).symm
                     | exact (if_neg (by omega)).symm)
                | (have hop : opC (tk b n r.1) = -13 := by unfold opC; rw [if_neg (by omega), if_pos (by omega)]
                   refine ⟨_, rfl, im6, lm6, ?_, rfl⟩
                   rw [den_oth hn9, ← hrd, loopP_y2 (f := 0) hq.1 (by rw [hop]; decide)]
                   refine RPO_step h4 hq.1 hag5 hlg5 h6 (by constructor <;> omega) ?_
                   rw [hop]
                   refine Eq.trans ?_ (bi2_13 _ _)
                   first
                     | exact (if_pos (by omega)).symm
                     | exact (if_neg (by omega)).symm)
            · refine q_goto (t := 120) F dX9_not2_112 (by decide) ?_
              refine q_iconst (t := 121) F dX9_not2_120 rfl ?_
              refine q_goto (t := 125) F dX9_not2_121 (by decide) ?_
              refine q_iret F dX9_not2_125 rfl ?_
              first
                | (exfalso; omega)
                | (have hop : opC (tk b n r.1) = -12 := by unfold opC; rw [if_pos (by omega)]
                   refine ⟨_, rfl, im6, lm6, ?_, rfl⟩
                   rw [den_oth hn9, ← hrd, loopP_y2 (f := 0) hq.1 (by rw [hop]; decide)]
                   refine RPO_step h4 hq.1 hag5 hlg5 h6 (by constructor <;> omega) ?_
                   rw [hop]
                   refine Eq.trans ?_ (bi2_12 _ _)
                   first
                     | exact (if_pos (by omega)).symm
                     | exact (if_neg (by omega)).symm)
                | (have hop : opC (tk b n r.1) = -13 := by unfold opC; rw [if_neg (by omega), if_pos (by omega)]
                   refine ⟨_, rfl, im6, lm6, ?_, rfl⟩
                   rw [den_oth hn9, ← hrd, loopP_y2 (f := 0) hq.1 (by rw [hop]; decide)]
                   refine RPO_step h4 hq.1 hag5 hlg5 h6 (by constructor <;> omega) ?_
                   rw [hop]
                   refine Eq.trans ?_ (bi2_13 _ _)
                   first
                     | exact (if_pos (by omega)).symm
                     | exact (if_neg (by omega)).symm)
      · refine q_iload_n (t := 76) F dX9_not2_75 rfl rfl rfl ?_
        refine q_iret F dX9_not2_76 rfl ?_
        refine ⟨xA, rfl, im4, lm4, ?_, rfl⟩
        rw [den_oth hn9, ← hrd, loopP_n (fun q => ?_)]
        · exact h4
        · have q1 := q.1
          have q2 := q.2
          unfold opC at q2
          rw [if_neg (by omega), if_neg (by omega)] at q2
          exact q2 rfl
  · have hf : f = -1 := by omega
    subst hf
    have hlt : p < n := tk_lt (b := b) (by omega)
    have ht9 : tk b n p = 9 := by omega
    refine q_aload_n (t := 19) F dX9_not2_18 rfl rfl rfl ?_
    refine wp_callV (t := 22) [] F dX9_not2_19 k_X9_opens v_X9_opens ml_X9_223 rfl rfl rfl rfl (Nat.le_of_ble_eq_true rfl) (by decide) (m_30 (by omega)) (c_X9_opens _ G im bt rt lm b n hb p h hlt (by omega) 2 (by omega) h27) rfl (kI ?_)
    rintro x19 m' (⟨q, -⟩ | ⟨-, rfl, im2, lm2, h2, h227, hag, hlg, rfl⟩)
    · exact absurd q (by omega)
    refine q_if_ne (t := 25) (u := 27) F dX9_not2_22 (by first | exact hR _ _ _ | (constructor <;> omega)) (by decide) rfl (fun c22 => ?_) (fun c22 => ?_)
    · refine q_aload_n (t := 28) F dX9_not2_27 rfl rfl rfl ?_
      refine wp_callV (t := 31) [] F dX9_not2_28 k_X9_not3 v_X9_not3 ml_X9_280 rfl rfl rfl rfl (Nat.le_of_ble_eq_true rfl) (by decide) (m_30 (by omega)) (hN im2 lm2 nm (adv b n p) (-1) h2 (by omega) (hnm.ag27 hag)) rfl (kI ?_)
      rintro x28 m' ⟨im3, lm3, h3, rfl⟩
      rw [stP_y] at h3
      have hrv := h3.1
      have hrv1 := hrv.1
      have hrv2 := hrv.2
      refine q_istore_n (t := 32) F dX9_not2_31 rfl (by decide) rfl rfl ?_
      refine q_aload_n (t := 33) F dX9_not2_32 rfl rfl rfl ?_
      refine q_dupR (t := 34) F dX9_not2_33 rfl ?_
      refine g_X9_190 (t := 37) F dX9_not2_34 rfl rfl ?_
      try simp only [up_app, row_app, scr_app, cpy_app, Nat.reduceEqDiff, Int.reduceToNat, Int.toNat_natCast, and_true, true_and, and_false, false_and, and_self, reduceIte]
      refine q_iconst (t := 38) F dX9_not2_37 rfl ?_
      refine q_isub (t := 39) F dX9_not2_38 rfl ?_
      rw [show im3 30 0 27 - 1 = ((2 : Nat) : Int) by rw [h3.2.2.1 30 0 27 (by omega)]; omega]
      refine p_X9_190 (t := 42) F dX9_not2_39 rfl rfl ?_
      refine q_iload_n (t := 43) F dX9_not2_42 rfl rfl rfl ?_
      refine q_if_ne (t := 46) (u := 50) F dX9_not2_43 (by exact hrv) (by decide) rfl (fun c43 => ?_) (fun c43 => ?_)
      · refine q_iconst (t := 51) F dX9_not2_50 rfl ?_
        refine q_iret F dX9_not2_51 rfl ?_
        refine ⟨_, rfl, up im3 30 0 27 ((2 : Nat) : Int), lm3, ?_, rfl⟩
        rw [stP_y, den_not (m := 2) ht9]
        refine RPO_not (by omega) h27 hag hlg h3 ?_
        first
          | exact (if_pos (by omega)).symm
          | exact (if_neg (by omega)).symm
      · refine q_iconst (t := 47) F dX9_not2_46 rfl ?_
        refine q_goto (t := 51) F dX9_not2_47 (by decide) ?_
        refine q_iret F dX9_not2_51 rfl ?_
        refine ⟨_, rfl, up im3 30 0 27 ((2 : Nat) : Int), lm3, ?_, rfl⟩
        rw [stP_y, den_not (m := 2) ht9]
        refine RPO_not (by omega) h27 hag hlg h3 ?_
        first
          | exact (if_pos (by omega)).symm
          | exact (if_neg (by omega)).symm
    · refine q_iconst (t := 26) F dX9_not2_25 rfl ?_
      refine q_iret F dX9_not2_26 rfl ?_
      exfalso; omega

set_option maxHeartbeats 4000000 in
theorem c_X9_both2 (l : Launch) (G : GS)  (bt rt : Nat)  (b : Nat → Int) (n : Nat) (hb : byt b n) (hO : RT l G bt rt b n yX9_not2 Y_X9_not2 (denL b n 3) 2) (im lm : IM) (nm : Nat → Int) (p : Nat) (f : Int) (h : PQ b n im lm p f) (h27 : im 30 0 27 = ((2 : Nat) : Int)) (hnm : NMr im nm) : Cn l (XR G) yX9_both2 Y_X9_both2 [vR 30 0] (im, rs bt rt, lm) (pI fun x m' => ∃ im' lm', RPO b n im lm nm (stP (bothL b n 3) p f) x im' lm' ∧ m' = (im', rs bt rt, lm')) := by
  refine cn_of (by decide) (okR G) rfl (Nat.le_of_ble_eq_true rfl) ?_
  intro M ad hMl F
  subst hMl
  have hn := hb.1
  have hR := h.2.1
  refine wp_pad 2 ?_
  show Wp M (XR G) ad Y_X9_both2 (pI fun x m' => ∃ im' lm', RPO b n im lm nm (stP (bothL b n 3) p f) x im' lm' ∧ m' = (im', rs bt rt, lm')) 0 [some (vR 30 0), none, none] [] (im, rs bt rt, lm)
  refine q_aload_n (t := 1) F dX9_both2_0 rfl rfl rfl ?_
  refine wp_callV (t := 4) [] F dX9_both2_1 k_X9_not2 v_X9_not2 ml_X9_298 rfl rfl rfl rfl (Nat.le_of_ble_eq_true rfl) (by decide) (m_30 (by omega)) (hO im lm nm p f h h27 hnm) rfl (kI ?_)
  rintro x1 m' ⟨im0, lm0, h0, rfl⟩
  refine q_istore_n (t := 5) F dX9_both2_4 rfl (by decide) rfl rfl ?_
  have L5 : ∀ (fz : Nat) (k : Nat) (r : PT) (v : Int) (im1 lm1 : IM), k < fz → loopP b n opA (denL b n 3) 160 (stP (denL b n 3) p f) = loopP b n opA (denL b n 3) k r → n - r.1 ≤ k → RPO b n im lm nm r v im1 lm1 → Wp M (XR G) ad Y_X9_both2 (pI fun x m' => ∃ im' lm', RPO b n im lm nm (stP (bothL b n 3) p f) x im' lm' ∧ m' = (im', rs bt rt, lm')) 5 [some (vR 30 0), some (vI v), none] [] (im1, rs bt rt, lm1) := by
    intro fz
    induction fz with
    | zero => intro k r v im1 lm1 h; exact absurd h (Nat.not_lt_zero _)
    | succ fz ih =>
      have ih5 := ih
      intro k r v im1 lm1 hmeas hlp hk hr
      have hti := tk_in b n r.1
      have hb1 := hr.2.1.b01
      have hrv := hr.1
      have hrv1 := hrv.1
      have hrv2 := hrv.2
      refine q_aload_n (t := 6) F dX9_both2_5 rfl rfl rfl ?_
      refine q_bipush (t := 8) F dX9_both2_6 (by decide) rfl ?_
      refine q_bipush (t := 10) F dX9_both2_8 (by decide) rfl ?_
      refine q_bipush (t := 12) F dX9_both2_10 (by decide) rfl ?_
      refine q_iconst (t := 13) F dX9_both2_12 rfl ?_
      refine q_iconst (t := 14) F dX9_both2_13 rfl ?_
      refine q_iconst (t := 15) F dX9_both2_14 rfl ?_
      refine q_iconst (t := 16) F dX9_both2_15 rfl ?_
      refine q_iconst (t := 17) F dX9_both2_16 rfl ?_
      refine wp_callV (t := 20) [_, _, _, _, _, _, _, _] F dX9_both2_17 k_X9_isWord_ v_X9_isWord_ ml_X9_199 rfl rfl rfl rfl (Nat.le_of_ble_eq_true rfl) (by decide) (m_30 (by omega)) (c_isKey _ G im1 bt rt lm1 b n hb r.1 r.2.1 hr.2.1 10 (by omega) (by omega) 8 (by omega) _ _ _ _ _ _ _ _ (by decide)) rfl (kI ?_)
      rintro x17 m' ⟨hx17, rfl⟩
      have hx17 := if01 hx17
      refine q_if_eq (t := 23) (u := 49) F dX9_both2_20 (by first | exact hR _ _ _ | (constructor <;> omega)) (by decide) rfl (fun c20 => ?_) (fun c20 => ?_)
      · refine q_iload_n (t := 50) F dX9_both2_49 rfl rfl rfl ?_
        refine q_iret F dX9_both2_50 rfl ?_
        have e : stP (bothL b n 3) p f = r := by
          have e0 : stP (bothL b n 3) p f = loopP b n opA (denL b n 3) 160 (stP (denL b n 3) p f) := stP_loop (F := denL b n 3) (k := 160)
          rw [e0, hlp]
          refine loopP_n (fun q => ?_)
          have q1 := q.1
          have q2 := q.2
          unfold opA at q2
          rw [if_neg (by omega)] at q2
          exact q2 rfl
        exact ⟨v, rfl, im1, lm1, by rw [e]; exact hr, rfl⟩
      · have hq : r.2.1 = -1 ∧ tk b n r.1 = 8 := by omega
        have hlt : r.1 < n := tk_lt (b := b) (by omega)
        have hop : opA (tk b n r.1) = -14 := by unfold opA; rw [if_pos hq.2]
        have hgd := PG_den b n 3 (adv b n r.1) (adv_in hlt).2
        have had := (adv_in (b := b) hlt).1
        have h11 := hr.2.1
        rw [hq.1] at h11
        refine q_aload_n (t := 24) F dX9_both2_23 rfl rfl rfl ?_
        refine wp_callV (t := 27) [] F dX9_both2_24 k_X9_next v_X9_next ml_X9_196 rfl rfl rfl rfl (Nat.le_of_ble_eq_true rfl) (by decide) (m_30 (by omega)) (c_nextQ _ G im1 bt rt lm1 b n hb r.1 h11 hlt (by omega)) rfl (kV ?_)
        rintro m' ⟨im2, lm2, h2, hag2, hlg2, rfl⟩
        refine q_aload_n (t := 28) F dX9_both2_27 rfl rfl rfl ?_
        refine wp_callV (t := 31) [] F dX9_both2_28 k_X9_not2 v_X9_not2 ml_X9_298 rfl rfl rfl rfl (Nat.le_of_ble_eq_true rfl) (by decide) (m_30 (by omega)) (hO im2 lm2 nm (adv b n r.1) (-1) h2 (((hag2.trans hr.2.2.1) 30 0 27 (by omega)).trans h27) (hnm.ag (hag2.trans hr.2.2.1))) rfl (kI ?_)
        rintro x28 m' ⟨im3, lm3, h3, rfl⟩
        rw [stP_y] at h3
        refine q_istore_n (t := 32) F dX9_both2_31 rfl (by decide) rfl rfl ?_
        refine q_iload_n (t := 33) F dX9_both2_32 rfl rfl rfl ?_
        refine q_if_eq (t := 36) (u := 44) F dX9_both2_33 (by exact hrv) (by decide) rfl (fun c33 => ?_) (fun c33 => ?_)
        · refine q_iconst (t := 45) F dX9_both2_44 rfl ?_
          refine q_istore_n (t := 46) F dX9_both2_45 rfl (by decide) rfl rfl ?_
          refine q_goto (t := 5) F dX9_both2_46 (by decide) ?_
          refine wp_less 2 ?_
          refine ih5 (k - 1) (lpS b n opA (denL b n 3) r) _ im3 lm3 (by omega) ?_ ?_ (RPO_step hr hq.1 hag2 hlg2 h3 (by constructor <;> omega) (by rw [hop]; refine Eq.trans ?_ (bi2_14 _ _); first | exact (if_pos (by omega)).symm | exact (if_neg (by omega)).symm))
          · rw [hlp]
            obtain ⟨k', hk'⟩ : ∃ k', k = k' + 1 := ⟨k - 1, by omega⟩
            rw [hk', loopP_y2 hq.1 (by rw [hop]; decide)]
            rfl
          · have := hgd.1
            show n - (denL b n 3 (adv b n r.1)).1 ≤ k - 1
            omega
        · refine q_iload_n (t := 37) F dX9_both2_36 rfl rfl rfl ?_
          refine q_if_eq (t := 40) (u := 44) F dX9_both2_37 (by exact h3.1) (by decide) rfl (fun c37 => ?_) (fun c37 => ?_)
          · refine q_iconst (t := 45) F dX9_both2_44 rfl ?_
            refine q_istore_n (t := 46) F dX9_both2_45 rfl (by decide) rfl rfl ?_
            refine q_goto (t := 5) F dX9_both2_46 (by decide) ?_
            refine wp_less 2 ?_
            refine ih5 (k - 1) (lpS b n opA (denL b n 3) r) _ im3 lm3 (by omega) ?_ ?_ (RPO_step hr hq.1 hag2 hlg2 h3 (by constructor <;> omega) (by rw [hop]; refine Eq.trans ?_ (bi2_14 _ _); first | exact (if_pos (by omega)).symm | exact (if_neg (by omega)).symm))
            · rw [hlp]
              obtain ⟨k', hk'⟩ : ∃ k', k = k' + 1 := ⟨k - 1, by omega⟩
              rw [hk', loopP_y2 hq.1 (by rw [hop]; decide)]
              rfl
            · have := hgd.1
              show n - (denL b n 3 (adv b n r.1)).1 ≤ k - 1
              omega
          · refine q_iconst (t := 41) F dX9_both2_40 rfl ?_
            refine q_goto (t := 45) F dX9_both2_41 (by decide) ?_
            refine q_istore_n (t := 46) F dX9_both2_45 rfl (by decide) rfl rfl ?_
            refine q_goto (t := 5) F dX9_both2_46 (by decide) ?_
            refine wp_less 2 ?_
            refine ih5 (k - 1) (lpS b n opA (denL b n 3) r) _ im3 lm3 (by omega) ?_ ?_ (RPO_step hr hq.1 hag2 hlg2 h3 (by constructor <;> omega) (by rw [hop]; refine Eq.trans ?_ (bi2_14 _ _); first | exact (if_pos (by omega)).symm | exact (if_neg (by omega)).symm))
            · rw [hlp]
              obtain ⟨k', hk'⟩ : ∃ k', k = k' + 1 := ⟨k - 1, by omega⟩
              rw [hk', loopP_y2 hq.1 (by rw [hop]; decide)]
              rfl
            · have := hgd.1
              show n - (denL b n 3 (adv b n r.1)).1 ≤ k - 1
              omega
  refine wp_less 2 ?_
  exact L5 _ 160 _ _ _ _ (Nat.lt_succ_self _) rfl (by omega) h0

set_option maxHeartbeats 4000000 in
theorem c_X9_either2 (l : Launch) (G : GS)  (bt rt : Nat)  (b : Nat → Int) (n : Nat) (hb : byt b n) (hO : RT l G bt rt b n yX9_both2 Y_X9_both2 (bothL b n 3) 2) (im lm : IM) (nm : Nat → Int) (p : Nat) (f : Int) (h : PQ b n im lm p f) (h27 : im 30 0 27 = ((2 : Nat) : Int)) (hnm : NMr im nm) : Cn l (XR G) yX9_either2 Y_X9_either2 [vR 30 0] (im, rs bt rt, lm) (pI fun x m' => ∃ im' lm', RPO b n im lm nm (stP (eitL b n 3) p f) x im' lm' ∧ m' = (im', rs bt rt, lm')) := by
  refine cn_of (by decide) (okR G) rfl (Nat.le_of_ble_eq_true rfl) ?_
  intro M ad hMl F
  subst hMl
  have hn := hb.1
  have hR := h.2.1
  refine wp_pad 2 ?_
  show Wp M (XR G) ad Y_X9_either2 (pI fun x m' => ∃ im' lm', RPO b n im lm nm (stP (eitL b n 3) p f) x im' lm' ∧ m' = (im', rs bt rt, lm')) 0 [some (vR 30 0), none, none] [] (im, rs bt rt, lm)
  refine q_aload_n (t := 1) F dX9_either2_0 rfl rfl rfl ?_
  refine wp_callV (t := 4) [] F dX9_either2_1 k_X9_both2 v_X9_both2 ml_X9_301 rfl rfl rfl rfl (Nat.le_of_ble_eq_true rfl) (by decide) (m_30 (by omega)) (hO im lm nm p f h h27 hnm) rfl (kI ?_)
  rintro x1 m' ⟨im0, lm0, h0, rfl⟩
  refine q_istore_n (t := 5) F dX9_either2_4 rfl (by decide) rfl rfl ?_
  have L5 : ∀ (fz : Nat) (k : Nat) (r : PT) (v : Int) (im1 lm1 : IM), k < fz → loopP b n opO (bothL b n 3) 160 (stP (bothL b n 3) p f) = loopP b n opO (bothL b n 3) k r → n - r.1 ≤ k → RPO b n im lm nm r v im1 lm1 → Wp M (XR G) ad Y_X9_either2 (pI fun x m' => ∃ im' lm', RPO b n im lm nm (stP (eitL b n 3) p f) x im' lm' ∧ m' = (im', rs bt rt, lm')) 5 [some (vR 30 0), some (vI v), none] [] (im1, rs bt rt, lm1) := by
    intro fz
    induction fz with
    | zero => intro k r v im1 lm1 h; exact absurd h (Nat.not_lt_zero _)
    | succ fz ih =>
      have ih5 := ih
      intro k r v im1 lm1 hmeas hlp hk hr
      have hti := tk_in b n r.1
      have hb1 := hr.2.1.b01
      have hrv := hr.1
      have hrv1 := hrv.1
      have hrv2 := hrv.2
      refine q_aload_n (t := 6) F dX9_either2_5 rfl rfl rfl ?_
      refine q_bipush (t := 8) F dX9_either2_6 (by decide) rfl ?_
      refine q_bipush (t := 10) F dX9_either2_8 (by decide) rfl ?_
      refine q_iconst (t := 11) F dX9_either2_10 rfl ?_
      refine q_iconst (t := 12) F dX9_either2_11 rfl ?_
      refine q_iconst (t := 13) F dX9_either2_12 rfl ?_
      refine q_iconst (t := 14) F dX9_either2_13 rfl ?_
      refine q_iconst (t := 15) F dX9_either2_14 rfl ?_
      refine q_iconst (t := 16) F dX9_either2_15 rfl ?_
      refine wp_callV (t := 19) [_, _, _, _, _, _, _, _] F dX9_either2_16 k_X9_isWord_ v_X9_isWord_ ml_X9_199 rfl rfl rfl rfl (Nat.le_of_ble_eq_true rfl) (by decide) (m_30 (by omega)) (c_isKey _ G im1 bt rt lm1 b n hb r.1 r.2.1 hr.2.1 9 (by omega) (by omega) 7 (by omega) _ _ _ _ _ _ _ _ (by decide)) rfl (kI ?_)
      rintro x16 m' ⟨hx16, rfl⟩
      have hx16 := if01 hx16
      refine q_if_eq (t := 22) (u := 48) F dX9_either2_19 (by first | exact hR _ _ _ | (constructor <;> omega)) (by decide) rfl (fun c19 => ?_) (fun c19 => ?_)
      · refine q_iload_n (t := 49) F dX9_either2_48 rfl rfl rfl ?_
        refine q_iret F dX9_either2_49 rfl ?_
        have e : stP (eitL b n 3) p f = r := by
          have e0 : stP (eitL b n 3) p f = loopP b n opO (bothL b n 3) 160 (stP (bothL b n 3) p f) := stP_loop (F := bothL b n 3) (k := 160)
          rw [e0, hlp]
          refine loopP_n (fun q => ?_)
          have q1 := q.1
          have q2 := q.2
          unfold opO at q2
          rw [if_neg (by omega)] at q2
          exact q2 rfl
        exact ⟨v, rfl, im1, lm1, by rw [e]; exact hr, rfl⟩
      · have hq : r.2.1 = -1 ∧ tk b n r.1 = 7 := by omega
        have hlt : r.1 < n := tk_lt (b := b) (by omega)
        have hop : opO (tk b n r.1) = -15 := by unfold opO; rw [if_pos hq.2]
        have hgd := PG_bothL b n 3 (adv b n r.1) (adv_in hlt).2
        have had := (adv_in (b := b) hlt).1
        have h11 := hr.2.1
        rw [hq.1] at h11
        refine q_aload_n (t := 23) F dX9_either2_22 rfl rfl rfl ?_
        refine wp_callV (t := 26) [] F dX9_either2_23 k_X9_next v_X9_next ml_X9_196 rfl rfl rfl rfl (Nat.le_of_ble_eq_true rfl) (by decide) (m_30 (by omega)) (c_nextQ _ G im1 bt rt lm1 b n hb r.1 h11 hlt (by omega)) rfl (kV ?_)
        rintro m' ⟨im2, lm2, h2, hag2, hlg2, rfl⟩
        refine q_aload_n (t := 27) F dX9_either2_26 rfl rfl rfl ?_
        refine wp_callV (t := 30) [] F dX9_either2_27 k_X9_both2 v_X9_both2 ml_X9_301 rfl rfl rfl rfl (Nat.le_of_ble_eq_true rfl) (by decide) (m_30 (by omega)) (hO im2 lm2 nm (adv b n r.1) (-1) h2 (((hag2.trans hr.2.2.1) 30 0 27 (by omega)).trans h27) (hnm.ag (hag2.trans hr.2.2.1))) rfl (kI ?_)
        rintro x27 m' ⟨im3, lm3, h3, rfl⟩
        rw [stP_y] at h3
        refine q_istore_n (t := 31) F dX9_either2_30 rfl (by decide) rfl rfl ?_
        refine q_iload_n (t := 32) F dX9_either2_31 rfl rfl rfl ?_
        refine q_if_ne (t := 35) (u := 39) F dX9_either2_32 (by exact hrv) (by decide) rfl (fun c32 => ?_) (fun c32 => ?_)
        · refine q_iconst (t := 40) F dX9_either2_39 rfl ?_
          refine q_goto (t := 44) F dX9_either2_40 (by decide) ?_
          refine q_istore_n (t := 45) F dX9_either2_44 rfl (by decide) rfl rfl ?_
          refine q_goto (t := 5) F dX9_either2_45 (by decide) ?_
          refine wp_less 2 ?_
          refine ih5 (k - 1) (lpS b n opO (bothL b n 3) r) _ im3 lm3 (by omega) ?_ ?_ (RPO_step hr hq.1 hag2 hlg2 h3 (by constructor <;> omega) (by rw [hop]; refine Eq.trans ?_ (bi2_15 _ _); first | exact (if_pos (by omega)).symm | exact (if_neg (by omega)).symm))
          · rw [hlp]
            obtain ⟨k', hk'⟩ : ∃ k', k = k' + 1 := ⟨k - 1, by omega⟩
            rw [hk', loopP_y2 hq.1 (by rw [hop]; decide)]
            rfl
          · have := hgd.1
            show n - (bothL b n 3 (adv b n r.1)).1 ≤ k - 1
            omega
        · refine q_iload_n (t := 36) F dX9_either2_35 rfl rfl rfl ?_
          refine q_if_eq (t := 39) (u := 43) F dX9_either2_36 (by exact h3.1) (by decide) rfl (fun c36 => ?_) (fun c36 => ?_)
          · refine q_iconst (t := 44) F dX9_either2_43 rfl ?_
            refine q_istore_n (t := 45) F dX9_either2_44 rfl (by decide) rfl rfl ?_
            refine q_goto (t := 5) F dX9_either2_45 (by decide) ?_
            refine wp_less 2 ?_
            refine ih5 (k - 1) (lpS b n opO (bothL b n 3) r) _ im3 lm3 (by omega) ?_ ?_ (RPO_step hr hq.1 hag2 hlg2 h3 (by constructor <;> omega) (by rw [hop]; refine Eq.trans ?_ (bi2_15 _ _); first | exact (if_pos (by omega)).symm | exact (if_neg (by omega)).symm))
            · rw [hlp]
              obtain ⟨k', hk'⟩ : ∃ k', k = k' + 1 := ⟨k - 1, by omega⟩
              rw [hk', loopP_y2 hq.1 (by rw [hop]; decide)]
              rfl
            · have := hgd.1
              show n - (bothL b n 3 (adv b n r.1)).1 ≤ k - 1
              omega
          · refine q_iconst (t := 40) F dX9_either2_39 rfl ?_
            refine q_goto (t := 44) F dX9_either2_40 (by decide) ?_
            refine q_istore_n (t := 45) F dX9_either2_44 rfl (by decide) rfl rfl ?_
            refine q_goto (t := 5) F dX9_either2_45 (by decide) ?_
            refine wp_less 2 ?_
            refine ih5 (k - 1) (lpS b n opO (bothL b n 3) r) _ im3 lm3 (by omega) ?_ ?_ (RPO_step hr hq.1 hag2 hlg2 h3 (by constructor <;> omega) (by rw [hop]; refine Eq.trans ?_ (bi2_15 _ _); first | exact (if_pos (by omega)).symm | exact (if_neg (by omega)).symm))
            · rw [hlp]
              obtain ⟨k', hk'⟩ : ∃ k', k = k' + 1 := ⟨k - 1, by omega⟩
              rw [hk', loopP_y2 hq.1 (by rw [hop]; decide)]
              rfl
            · have := hgd.1
              show n - (bothL b n 3 (adv b n r.1)).1 ≤ k - 1
              omega
  refine wp_less 2 ?_
  exact L5 _ 160 _ _ _ _ (Nat.lt_succ_self _) rfl (by omega) h0

set_option maxHeartbeats 4000000 in
theorem c_X9_atom1 (l : Launch) (G : GS)  (bt rt : Nat)  (b : Nat → Int) (n : Nat) (hb : byt b n) (hA : RT l G bt rt b n yX9_atom2 Y_X9_atom2 (oneL b n 3) 2) (hE : RT l G bt rt b n yX9_either2 Y_X9_either2 (eitL b n 3) 2) (im lm : IM) (nm : Nat → Int) (p : Nat) (f : Int) (h : PQ b n im lm p f) (h27 : im 30 0 27 = ((1 : Nat) : Int)) (hnm : NMr im nm) : Cn l (XR G) yX9_atom1 Y_X9_atom1 [vR 30 0] (im, rs bt rt, lm) (pI fun x m' => ∃ im' lm', RPO b n im lm nm (stP (oneL b n 4) p f) x im' lm' ∧ m' = (im', rs bt rt, lm')) := by
  refine cn_of (by decide) (okR G) rfl (Nat.le_of_ble_eq_true rfl) ?_
  intro M ad hMl F
  subst hMl
  have hn := hb.1
  have hR := h.2.1
  have hbb := h.b01
  have hti := tk_in b n p
  have hTK := TK_is h
  refine wp_pad 1 ?_
  show Wp M (XR G) ad Y_X9_atom1 (pI fun x m' => ∃ im' lm', RPO b n im lm nm (stP (oneL b n 4) p f) x im' lm' ∧ m' = (im', rs bt rt, lm')) 0 [some (vR 30 0), none] [] (im, rs bt rt, lm)
  have T161 : ∀ (x : Int) (im1 lm1 : IM), RPO b n im lm nm (stP (oneL b n 4) p f) x im1 lm1 → Wp M (XR G) ad Y_X9_atom1 (pI fun x m' => ∃ im' lm', RPO b n im lm nm (stP (oneL b n 4) p f) x im' lm' ∧ m' = (im', rs bt rt, lm')) 161 [some (vR 30 0), some (vI x)] [] (im1, rs bt rt, lm1) := by
    intro x im1 lm1 hr
    refine q_iload_n (t := 162) F dX9_atom1_161 rfl rfl rfl ?_
    refine q_iret F dX9_atom1_162 rfl ?_
    exact ⟨x, rfl, im1, lm1, hr, rfl⟩
  have T71 : ∀ (x : Int) (r : PT) (f4 : Int) (im4 lm4 : IM), ri x → PQ b n im4 lm4 r.1 f4 → agQ im4 (up im 30 0 27 ((1 : Nat) + 1 : Int)) → lgQ lm4 lm → (f4 = -1 → x = r.2.2.2 nm ∧ tk b n r.1 = 41) → stP (oneL b n 4) p f = (if f4 = -1 then (adv b n r.1, -1, r.2.2) else (r.1, f4, r.2.2)) → Wp M (XR G) ad Y_X9_atom1 (pI fun x m' => ∃ im' lm', RPO b n im lm nm (stP (oneL b n 4) p f) x im' lm' ∧ m' = (im', rs bt rt, lm')) 71 [some (vR 30 0), some (vI x)] [] (im4, rs bt rt, lm4) := by
    intro x r f4 im4 lm4 hrx h4 hag4 hlg4 hgd heq
    have e27 : im4 30 0 27 - 1 = ((1 : Nat) : Int) := by
      rw [hag4 30 0 27 (by omega), up_app, if_pos ⟨rfl, rfl, rfl⟩]
      omega
    have h44 : PQ b n (up im4 30 0 27 ((1 : Nat) : Int)) lm4 r.1 f4 := PQ_27 h4 (by constructor <;> omega)
    have hb4 := h4.b01
    refine q_aload_n (t := 72) F dX9_atom1_71 rfl rfl rfl ?_
    refine q_dupR (t := 73) F dX9_atom1_72 rfl ?_
    refine g_X9_190 (t := 76) F dX9_atom1_73 rfl rfl ?_
    refine q_iconst (t := 77) F dX9_atom1_76 rfl ?_
    refine q_isub (t := 78) F dX9_atom1_77 rfl ?_
    rw [e27]
    refine p_X9_190 (t := 81) F dX9_atom1_78 rfl rfl ?_
    refine q_aload_n (t := 82) F dX9_atom1_81 rfl rfl rfl ?_
    refine g_X9_179 (t := 85) F dX9_atom1_82 rfl rfl ?_
    try simp only [up_app, row_app, scr_app, cpy_app, Nat.reduceEqDiff, Int.reduceToNat, Int.toNat_natCast, and_true, true_and, and_false, false_and, and_self, reduceIte]
    refine q_if_ne (t := 88) (u := 161) F dX9_atom1_85 (by exact h4.2.1 _ _ _) (by decide) rfl (fun c85 => ?_) (fun c85 => ?_)
    · have hf4 : f4 ≠ -1 := by omega
      refine T161 x (up im4 30 0 27 ((1 : Nat) : Int)) lm4 ⟨hrx, ?_, ag_27 hag4 h27, hlg4, fun q => ?_⟩
      · rw [heq, if_neg hf4]; exact h44
      · rw [heq, if_neg hf4] at q
        exact absurd q hf4
    · have hf4 : f4 = -1 := by omega
      have ht41 := (hgd hf4).2
      have hlt4 : r.1 < n := tk_lt (b := b) (by omega)
      have h45 := h44
      rw [hf4] at h45
      refine q_aload_n (t := 89) F dX9_atom1_88 rfl rfl rfl ?_
      refine wp_callV (t := 92) [] F dX9_atom1_89 k_X9_next v_X9_next ml_X9_196 rfl rfl rfl rfl (Nat.le_of_ble_eq_true rfl) (by decide) (m_30 (by omega)) (c_nextQ _ G _ bt rt lm4 b n hb r.1 h45 hlt4 (by omega)) rfl (kV ?_)
      rintro m' ⟨im5, lm5, h5, hag5, hlg5, rfl⟩
      refine q_goto (t := 161) F dX9_atom1_92 (by decide) ?_
      refine T161 x im5 lm5 ⟨hrx, ?_, hag5.trans (ag_27 hag4 h27), hlg5.trans hlg4, fun q => ?_⟩
      · rw [heq, if_pos hf4]; exact h5
      · rw [heq, if_pos hf4]; exact (hgd hf4).1
  refine q_iconst (t := 1) F dX9_atom1_0 rfl ?_
  refine q_istore_n (t := 2) F dX9_atom1_1 rfl (by decide) rfl rfl ?_
  refine q_aload_n (t := 3) F dX9_atom1_2 rfl rfl rfl ?_
  refine q_bipush (t := 5) F dX9_atom1_3 (by decide) rfl ?_
  refine wp_callV (t := 8) [_] F dX9_atom1_5 k_X9_isSign v_X9_isSign ml_X9_220 rfl rfl rfl rfl (Nat.le_of_ble_eq_true rfl) (by decide) (m_30 (by omega)) (c_X9_isSign _ G im bt rt lm b n hb p f h 45 (by omega) (by omega)) rfl (kI ?_)
  rintro x5 m' ⟨hx5, rfl⟩
  have hx5 := if01 hx5
  refine q_if_eq (t := 11) (u := 37) F dX9_atom1_8 (by first | exact hR _ _ _ | (constructor <;> omega)) (by decide) rfl (fun c8 => ?_) (fun c8 => ?_)
  · refine q_aload_n (t := 38) F dX9_atom1_37 rfl rfl rfl ?_
    refine q_bipush (t := 40) F dX9_atom1_38 (by decide) rfl ?_
    refine wp_callV (t := 43) [_] F dX9_atom1_40 k_X9_isSign v_X9_isSign ml_X9_220 rfl rfl rfl rfl (Nat.le_of_ble_eq_true rfl) (by decide) (m_30 (by omega)) (c_X9_isSign _ G im bt rt lm b n hb p f h 40 (by omega) (by omega)) rfl (kI ?_)
    rintro x40 m' ⟨hx40, rfl⟩
    have hx40 := if01 hx40
    refine q_if_eq (t := 46) (u := 95) F dX9_atom1_43 (by first | exact hR _ _ _ | (constructor <;> omega)) (by decide) rfl (fun c43 => ?_) (fun c43 => ?_)
    · refine q_aload_n (t := 96) F dX9_atom1_95 rfl rfl rfl ?_
      refine g_X9_179 (t := 99) F dX9_atom1_96 rfl rfl ?_
      try simp only [up_app, row_app, scr_app, cpy_app, Nat.reduceEqDiff, Int.reduceToNat, Int.toNat_natCast, and_true, true_and, and_false, false_and, and_self, reduceIte]
      refine q_if_ne (t := 102) (u := 123) F dX9_atom1_99 (by exact hR _ _ _) (by decide) rfl (fun c99 => ?_) (fun c99 => ?_)
      · refine q_aload_n (t := 124) F dX9_atom1_123 rfl rfl rfl ?_
        refine g_X9_179 (t := 127) F dX9_atom1_124 rfl rfl ?_
        try simp only [up_app, row_app, scr_app, cpy_app, Nat.reduceEqDiff, Int.reduceToNat, Int.toNat_natCast, and_true, true_and, and_false, false_and, and_self, reduceIte]
        refine q_if_ne (t := 130) (u := 157) F dX9_atom1_127 (by exact hR _ _ _) (by decide) rfl (fun c127 => ?_) (fun c127 => ?_)
        · refine q_aload_n (t := 158) F dX9_atom1_157 rfl rfl rfl ?_
          refine wp_callV (t := 161) [] F dX9_atom1_158 k_X9_fail v_X9_fail ml_X9_193 rfl rfl rfl rfl (Nat.le_of_ble_eq_true rfl) (by decide) (m_30 (by omega)) (c_failQ _ G im bt rt lm b n p f h) rfl (kV ?_)
          rintro m' ⟨im9, h9, hag9, rfl⟩
          by_cases hf : f = -1
          · subst hf
            have e : oneL b n 4 p = pFail p := by
              refine one_non ?_ ?_ ?_
              · intro q
                have := (hTK rfl).1.mpr q
                omega
              · intro q
                have := (hTK rfl).2.2.mpr (tk_3L q)
                omega
              · omega
            refine T161 0 im9 lm ⟨by constructor <;> omega, ?_, hag9, lgQ_rfl lm, fun q => ?_⟩
            · rw [stP_y, e]; exact h9
            · rw [stP_y, e] at q
              have : (p : Int) = -1 := q
              omega
          · refine T161 0 im9 lm ⟨by constructor <;> omega, ?_, hag9, lgQ_rfl lm, fun q => ?_⟩
            · rw [if_neg hf] at h9
              rw [stP_n hf]; exact h9
            · rw [stP_n hf] at q
              exact absurd q hf
        · refine q_aload_n (t := 131) F dX9_atom1_130 rfl rfl rfl ?_
          refine g_X9_164 (t := 134) F dX9_atom1_131 rfl rfl ?_
          try simp only [up_app, row_app, scr_app, cpy_app, Nat.reduceEqDiff, Int.reduceToNat, Int.toNat_natCast, and_true, true_and, and_false, false_and, and_self, reduceIte]
          refine q_iconst (t := 135) F dX9_atom1_134 rfl ?_
          refine q_icmp_ne (t := 138) (u := 157) F dX9_atom1_135 (by exact hR _ _ _) (by constructor <;> omega) (by decide) rfl (fun c135 => ?_) (fun c135 => ?_)
          · refine q_aload_n (t := 158) F dX9_atom1_157 rfl rfl rfl ?_
            refine wp_callV (t := 161) [] F dX9_atom1_158 k_X9_fail v_X9_fail ml_X9_193 rfl rfl rfl rfl (Nat.le_of_ble_eq_true rfl) (by decide) (m_30 (by omega)) (c_failQ _ G im bt rt lm b n p f h) rfl (kV ?_)
            rintro m' ⟨im9, h9, hag9, rfl⟩
            by_cases hf : f = -1
            · subst hf
              have e : oneL b n 4 p = pFail p := by
                refine one_non ?_ ?_ ?_
                · intro q
                  have := (hTK rfl).1.mpr q
                  omega
                · intro q
                  have := (hTK rfl).2.2.mpr (tk_3L q)
                  omega
                · omega
              refine T161 0 im9 lm ⟨by constructor <;> omega, ?_, hag9, lgQ_rfl lm, fun q => ?_⟩
              · rw [stP_y, e]; exact h9
              · rw [stP_y, e] at q
                have : (p : Int) = -1 := q
                omega
            · refine T161 0 im9 lm ⟨by constructor <;> omega, ?_, hag9, lgQ_rfl lm, fun q => ?_⟩
              · rw [if_neg hf] at h9
                rw [stP_n hf]; exact h9
              · rw [stP_n hf] at q
                exact absurd q hf
          · have hf : f = -1 := by first | (clear hx5 hx40; omega) | omega
            subst hf
            have hwd := (hTK rfl).2.2.mp (by omega)
            refine q_aload_n (t := 139) F dX9_atom1_138 rfl rfl rfl ?_
            refine wp_callV (t := 142) [] F dX9_atom1_139 k_X9_name v_X9_name ml_X9_227 rfl rfl rfl rfl (Nat.le_of_ble_eq_true rfl) (by decide) (m_30 (by omega)) (c_nameQ _ G im bt rt lm b n hb nm p h hnm) rfl (kI ?_)
            rintro x139 m' ⟨im6, hri6, h6, hag6, hx6, rfl⟩
            have hb6 : (tk b n p = 3 ∧ im6 30 0 28 = 0) ∨ (tk b n p ≠ 3 ∧ im6 30 0 28 = 1) := by
              have q6 := h6.b01
              split at q6 <;> omega
            refine q_istore_n (t := 143) F dX9_atom1_142 rfl (by decide) rfl rfl ?_
            refine q_aload_n (t := 144) F dX9_atom1_143 rfl rfl rfl ?_
            refine g_X9_179 (t := 147) F dX9_atom1_144 rfl rfl ?_
            try simp only [up_app, row_app, scr_app, cpy_app, Nat.reduceEqDiff, Int.reduceToNat, Int.toNat_natCast, and_true, true_and, and_false, false_and, and_self, reduceIte]
            refine q_if_ne (t := 150) (u := 161) F dX9_atom1_147 (by exact h6.2.1 _ _ _) (by decide) rfl (fun c147 => ?_) (fun c147 => ?_)
            · have e : oneL b n 4 p = pFail p := by
                have h29 := tk_L9 hwd.1 hwd.2
                exact one_non h29.1 (fun q => by omega) (by omega)
              have ht3 : tk b n p ≠ 3 := by omega
              rw [if_neg ht3] at h6
              refine T161 x139 im6 lm ⟨hri6, ?_, hag6, lgQ_rfl lm, fun q => ?_⟩
              · rw [stP_y, e]; exact h6
              · rw [stP_y, e] at q
                have : (p : Int) = -1 := q
                omega
            · have ht3 : tk b n p = 3 := by omega
              rw [if_pos ht3] at h6
              refine q_aload_n (t := 151) F dX9_atom1_150 rfl rfl rfl ?_
              refine wp_callV (t := 154) [] F dX9_atom1_151 k_X9_next v_X9_next ml_X9_196 rfl rfl rfl rfl (Nat.le_of_ble_eq_true rfl) (by decide) (m_30 (by omega)) (c_nextQ _ G im6 bt rt lm b n hb p h6 hwd.1 (by omega)) rfl (kV ?_)
              rintro m' ⟨im7, lm7, h7, hag7, hlg7, rfl⟩
              refine q_goto (t := 161) F dX9_atom1_154 (by decide) ?_
              refine T161 x139 im7 lm7 ⟨hri6, ?_, hag7.trans hag6, hlg7, fun q => ?_⟩
              · rw [stP_y, oneR_nam ht3]; exact h7
              · rw [stP_y, oneR_nam ht3]; exact hx6 ht3
      · refine q_aload_n (t := 103) F dX9_atom1_102 rfl rfl rfl ?_
        refine g_X9_164 (t := 106) F dX9_atom1_103 rfl rfl ?_
        try simp only [up_app, row_app, scr_app, cpy_app, Nat.reduceEqDiff, Int.reduceToNat, Int.toNat_natCast, and_true, true_and, and_false, false_and, and_self, reduceIte]
        refine q_iconst (t := 107) F dX9_atom1_106 rfl ?_
        refine q_icmp_ne (t := 110) (u := 123) F dX9_atom1_107 (by exact hR _ _ _) (by constructor <;> omega) (by decide) rfl (fun c107 => ?_) (fun c107 => ?_)
        · refine q_aload_n (t := 124) F dX9_atom1_123 rfl rfl rfl ?_
          refine g_X9_179 (t := 127) F dX9_atom1_124 rfl rfl ?_
          try simp only [up_app, row_app, scr_app, cpy_app, Nat.reduceEqDiff, Int.reduceToNat, Int.toNat_natCast, and_true, true_and, and_false, false_and, and_self, reduceIte]
          refine q_if_ne (t := 130) (u := 157) F dX9_atom1_127 (by exact hR _ _ _) (by decide) rfl (fun c127 => ?_) (fun c127 => ?_)
          · refine q_aload_n (t := 158) F dX9_atom1_157 rfl rfl rfl ?_
            refine wp_callV (t := 161) [] F dX9_atom1_158 k_X9_fail v_X9_fail ml_X9_193 rfl rfl rfl rfl (Nat.le_of_ble_eq_true rfl) (by decide) (m_30 (by omega)) (c_failQ _ G im bt rt lm b n p f h) rfl (kV ?_)
            rintro m' ⟨im9, h9, hag9, rfl⟩
            by_cases hf : f = -1
            · subst hf
              have e : oneL b n 4 p = pFail p := by
                refine one_non ?_ ?_ ?_
                · intro q
                  have := (hTK rfl).1.mpr q
                  omega
                · intro q
                  have := (hTK rfl).2.2.mpr (tk_3L q)
                  omega
                · omega
              refine T161 0 im9 lm ⟨by constructor <;> omega, ?_, hag9, lgQ_rfl lm, fun q => ?_⟩
              · rw [stP_y, e]; exact h9
              · rw [stP_y, e] at q
                have : (p : Int) = -1 := q
                omega
            · refine T161 0 im9 lm ⟨by constructor <;> omega, ?_, hag9, lgQ_rfl lm, fun q => ?_⟩
              · rw [if_neg hf] at h9
                rw [stP_n hf]; exact h9
              · rw [stP_n hf] at q
                exact absurd q hf
          · refine q_aload_n (t := 131) F dX9_atom1_130 rfl rfl rfl ?_
            refine g_X9_164 (t := 134) F dX9_atom1_131 rfl rfl ?_
            try simp only [up_app, row_app, scr_app, cpy_app, Nat.reduceEqDiff, Int.reduceToNat, Int.toNat_natCast, and_true, true_and, and_false, false_and, and_self, reduceIte]
            refine q_iconst (t := 135) F dX9_atom1_134 rfl ?_
            refine q_icmp_ne (t := 138) (u := 157) F dX9_atom1_135 (by exact hR _ _ _) (by constructor <;> omega) (by decide) rfl (fun c135 => ?_) (fun c135 => ?_)
            · refine q_aload_n (t := 158) F dX9_atom1_157 rfl rfl rfl ?_
              refine wp_callV (t := 161) [] F dX9_atom1_158 k_X9_fail v_X9_fail ml_X9_193 rfl rfl rfl rfl (Nat.le_of_ble_eq_true rfl) (by decide) (m_30 (by omega)) (c_failQ _ G im bt rt lm b n p f h) rfl (kV ?_)
              rintro m' ⟨im9, h9, hag9, rfl⟩
              by_cases hf : f = -1
              · subst hf
                have e : oneL b n 4 p = pFail p := by
                  refine one_non ?_ ?_ ?_
                  · intro q
                    have := (hTK rfl).1.mpr q
                    omega
                  · intro q
                    have := (hTK rfl).2.2.mpr (tk_3L q)
                    omega
                  · omega
                refine T161 0 im9 lm ⟨by constructor <;> omega, ?_, hag9, lgQ_rfl lm, fun q => ?_⟩
                · rw [stP_y, e]; exact h9
                · rw [stP_y, e] at q
                  have : (p : Int) = -1 := q
                  omega
              · refine T161 0 im9 lm ⟨by constructor <;> omega, ?_, hag9, lgQ_rfl lm, fun q => ?_⟩
                · rw [if_neg hf] at h9
                  rw [stP_n hf]; exact h9
                · rw [stP_n hf] at q
                  exact absurd q hf
            · have hf : f = -1 := by first | (clear hx5 hx40; omega) | omega
              subst hf
              have hwd := (hTK rfl).2.2.mp (by omega)
              refine q_aload_n (t := 139) F dX9_atom1_138 rfl rfl rfl ?_
              refine wp_callV (t := 142) [] F dX9_atom1_139 k_X9_name v_X9_name ml_X9_227 rfl rfl rfl rfl (Nat.le_of_ble_eq_true rfl) (by decide) (m_30 (by omega)) (c_nameQ _ G im bt rt lm b n hb nm p h hnm) rfl (kI ?_)
              rintro x139 m' ⟨im6, hri6, h6, hag6, hx6, rfl⟩
              have hb6 : (tk b n p = 3 ∧ im6 30 0 28 = 0) ∨ (tk b n p ≠ 3 ∧ im6 30 0 28 = 1) := by
                have q6 := h6.b01
                split at q6 <;> omega
              refine q_istore_n (t := 143) F dX9_atom1_142 rfl (by decide) rfl rfl ?_
              refine q_aload_n (t := 144) F dX9_atom1_143 rfl rfl rfl ?_
              refine g_X9_179 (t := 147) F dX9_atom1_144 rfl rfl ?_
              try simp only [up_app, row_app, scr_app, cpy_app, Nat.reduceEqDiff, Int.reduceToNat, Int.toNat_natCast, and_true, true_and, and_false, false_and, and_self, reduceIte]
              refine q_if_ne (t := 150) (u := 161) F dX9_atom1_147 (by exact h6.2.1 _ _ _) (by decide) rfl (fun c147 => ?_) (fun c147 => ?_)
              · have e : oneL b n 4 p = pFail p := by
                  have h29 := tk_L9 hwd.1 hwd.2
                  exact one_non h29.1 (fun q => by omega) (by omega)
                have ht3 : tk b n p ≠ 3 := by omega
                rw [if_neg ht3] at h6
                refine T161 x139 im6 lm ⟨hri6, ?_, hag6, lgQ_rfl lm, fun q => ?_⟩
                · rw [stP_y, e]; exact h6
                · rw [stP_y, e] at q
                  have : (p : Int) = -1 := q
                  omega
              · have ht3 : tk b n p = 3 := by omega
                rw [if_pos ht3] at h6
                refine q_aload_n (t := 151) F dX9_atom1_150 rfl rfl rfl ?_
                refine wp_callV (t := 154) [] F dX9_atom1_151 k_X9_next v_X9_next ml_X9_196 rfl rfl rfl rfl (Nat.le_of_ble_eq_true rfl) (by decide) (m_30 (by omega)) (c_nextQ _ G im6 bt rt lm b n hb p h6 hwd.1 (by omega)) rfl (kV ?_)
                rintro m' ⟨im7, lm7, h7, hag7, hlg7, rfl⟩
                refine q_goto (t := 161) F dX9_atom1_154 (by decide) ?_
                refine T161 x139 im7 lm7 ⟨hri6, ?_, hag7.trans hag6, hlg7, fun q => ?_⟩
                · rw [stP_y, oneR_nam ht3]; exact h7
                · rw [stP_y, oneR_nam ht3]; exact hx6 ht3
        · have hf : f = -1 := by first | (clear hx5 hx40; omega) | omega
          subst hf
          have ht2 : tk b n p = 2 := by have := (hTK rfl).1; omega
          have hlt : p < n := tk_lt (b := b) (by omega)
          have hvl := (hTK rfl).2.1 ht2
          have hv2 := vl_2 ht2
          refine q_aload_n (t := 111) F dX9_atom1_110 rfl rfl rfl ?_
          refine g_X9_175 (t := 114) F dX9_atom1_111 rfl rfl ?_
          try simp only [up_app, row_app, scr_app, cpy_app, Nat.reduceEqDiff, Int.reduceToNat, Int.toNat_natCast, and_true, true_and, and_false, false_and, and_self, reduceIte]
          refine q_l2i (t := 115) F dX9_atom1_114 rfl ?_
          refine q_istore_n (t := 116) F dX9_atom1_115 rfl (by decide) rfl rfl ?_
          refine q_aload_n (t := 117) F dX9_atom1_116 rfl rfl rfl ?_
          refine wp_callV (t := 120) [] F dX9_atom1_117 k_X9_next v_X9_next ml_X9_196 rfl rfl rfl rfl (Nat.le_of_ble_eq_true rfl) (by decide) (m_30 (by omega)) (c_nextQ _ G im bt rt lm b n hb p h hlt (by omega)) rfl (kV ?_)
          rintro m' ⟨im5, lm5, h5, hag5, hlg5, rfl⟩
          refine q_goto (t := 161) F dX9_atom1_120 (by decide) ?_
          refine T161 (lm 30 0 26) im5 lm5 ⟨by constructor <;> omega, ?_, hag5, hlg5, fun q => ?_⟩
          · rw [stP_y, oneR_num ht2]; exact h5
          · rw [stP_y, oneR_num ht2]; exact hvl
    · have hf : f = -1 := by omega
      subst hf
      have hlt : p < n := tk_lt (b := b) (by omega)
      have hx40t : tk b n p = 40 := by omega
      refine q_aload_n (t := 47) F dX9_atom1_46 rfl rfl rfl ?_
      refine wp_callV (t := 50) [] F dX9_atom1_47 k_X9_opens v_X9_opens ml_X9_223 rfl rfl rfl rfl (Nat.le_of_ble_eq_true rfl) (by decide) (m_30 (by omega)) (c_X9_opens _ G im bt rt lm b n hb p h hlt (by omega) 1 (by omega) h27) rfl (kI ?_)
      rintro x47 m' (⟨q, -⟩ | ⟨-, rfl, im2, lm2, h2, h227, hag, hlg, rfl⟩)
      · exact absurd q (by omega)
      refine q_if_eq (t := 53) (u := 161) F dX9_atom1_50 (by first | exact hR _ _ _ | (constructor <;> omega)) (by decide) rfl (fun c50 => ?_) (fun c50 => ?_)
      · exfalso; omega
      · refine q_aload_n (t := 54) F dX9_atom1_53 rfl rfl rfl ?_
        refine wp_callV (t := 57) [] F dX9_atom1_54 k_X9_either2 v_X9_either2 ml_X9_304 rfl rfl rfl rfl (Nat.le_of_ble_eq_true rfl) (by decide) (m_30 (by omega)) (hE im2 lm2 nm (adv b n p) (-1) h2 (by omega) (hnm.ag27 hag)) rfl (kI ?_)
        rintro x54 m' ⟨im3, lm3, h3, rfl⟩
        rw [stP_y] at h3
        obtain ⟨r, hrd⟩ : ∃ r, r = eitL b n 3 (adv b n p) := ⟨_, rfl⟩
        rw [← hrd] at h3
        refine q_istore_n (t := 58) F dX9_atom1_57 rfl (by decide) rfl rfl ?_
        refine q_aload_n (t := 59) F dX9_atom1_58 rfl rfl rfl ?_
        refine q_bipush (t := 61) F dX9_atom1_59 (by decide) rfl ?_
        refine wp_callV (t := 64) [_] F dX9_atom1_61 k_X9_isSign v_X9_isSign ml_X9_220 rfl rfl rfl rfl (Nat.le_of_ble_eq_true rfl) (by decide) (m_30 (by omega)) (c_X9_isSign _ G im3 bt rt lm3 b n hb _ _ h3.2.1 41 (by omega) (by omega)) rfl (kI ?_)
        rintro x61 m' ⟨hx61, rfl⟩
        have hx61 := if01 hx61
        refine q_if_ne (t := 67) (u := 71) F dX9_atom1_64 (by first | exact hR _ _ _ | (constructor <;> omega)) (by decide) rfl (fun c64 => ?_) (fun c64 => ?_)
        · have hq : r.2.1 = -1 ∧ tk b n r.1 = 41 := by omega
          have h33 := h3.2.1
          rw [hq.1] at h33
          exact T71 x54 r (-1) im3 lm3 h3.1 h33 (h3.2.2.1.trans hag) (h3.2.2.2.1.trans hlg) (fun _ => ⟨h3.2.2.2.2 hq.1, hq.2⟩) (by rw [stP_y, one_par (m := 3) hx40t, ← hrd, if_pos hq.1, if_pos hq.2, if_pos rfl])
        · refine q_aload_n (t := 68) F dX9_atom1_67 rfl rfl rfl ?_
          refine wp_callV (t := 71) [] F dX9_atom1_68 k_X9_fail v_X9_fail ml_X9_193 rfl rfl rfl rfl (Nat.le_of_ble_eq_true rfl) (by decide) (m_30 (by omega)) (c_failQ _ G im3 bt rt lm3 b n _ _ h3.2.1) rfl (kV ?_)
          rintro m' ⟨im9, h9, hag9, rfl⟩
          have hq : ¬ (r.2.1 = -1 ∧ tk b n r.1 = 41) := by omega
          refine T71 x54 r (if r.2.1 = -1 then (r.1 : Int) else r.2.1) im9 lm3 h3.1 h9 (hag9.trans (h3.2.2.1.trans hag)) (h3.2.2.2.1.trans hlg) (fun q => ?_) ?_
          · split at q <;> omega
          · rw [stP_y, one_par (m := 3) hx40t, ← hrd]
            by_cases hr1 : r.2.1 = -1
            · rw [if_pos hr1, if_neg (fun q => hq ⟨hr1, q⟩), if_pos hr1, if_neg (by omega)]
            · rw [if_neg hr1, if_neg hr1, if_neg hr1]
  · have hf : f = -1 := by omega
    subst hf
    have hlt : p < n := tk_lt (b := b) (by omega)
    have hx5t : tk b n p = 45 := by omega
    refine q_aload_n (t := 12) F dX9_atom1_11 rfl rfl rfl ?_
    refine wp_callV (t := 15) [] F dX9_atom1_12 k_X9_opens v_X9_opens ml_X9_223 rfl rfl rfl rfl (Nat.le_of_ble_eq_true rfl) (by decide) (m_30 (by omega)) (c_X9_opens _ G im bt rt lm b n hb p h hlt (by omega) 1 (by omega) h27) rfl (kI ?_)
    rintro x12 m' (⟨q, -⟩ | ⟨-, rfl, im2, lm2, h2, h227, hag, hlg, rfl⟩)
    · exact absurd q (by omega)
    refine q_if_eq (t := 18) (u := 161) F dX9_atom1_15 (by first | exact hR _ _ _ | (constructor <;> omega)) (by decide) rfl (fun c15 => ?_) (fun c15 => ?_)
    · exfalso; omega
    · refine q_aload_n (t := 19) F dX9_atom1_18 rfl rfl rfl ?_
      refine wp_callV (t := 22) [] F dX9_atom1_19 k_X9_atom2 v_X9_atom2 ml_X9_289 rfl rfl rfl rfl (Nat.le_of_ble_eq_true rfl) (by decide) (m_30 (by omega)) (hA im2 lm2 nm (adv b n p) (-1) h2 (by omega) (hnm.ag27 hag)) rfl (kI ?_)
      rintro x19 m' ⟨im3, lm3, h3, rfl⟩
      rw [stP_y] at h3
      refine q_ineg (t := 23) F dX9_atom1_22 rfl ?_
      refine q_norm ?_
      refine q_istore_n (t := 24) F dX9_atom1_23 rfl (by decide) rfl rfl ?_
      refine q_aload_n (t := 25) F dX9_atom1_24 rfl rfl rfl ?_
      refine q_dupR (t := 26) F dX9_atom1_25 rfl ?_
      refine g_X9_190 (t := 29) F dX9_atom1_26 rfl rfl ?_
      try simp only [up_app, row_app, scr_app, cpy_app, Nat.reduceEqDiff, Int.reduceToNat, Int.toNat_natCast, and_true, true_and, and_false, false_and, and_self, reduceIte]
      refine q_iconst (t := 30) F dX9_atom1_29 rfl ?_
      refine q_isub (t := 31) F dX9_atom1_30 rfl ?_
      rw [show im3 30 0 27 - 1 = ((1 : Nat) : Int) by rw [h3.2.2.1 30 0 27 (by omega)]; omega]
      refine p_X9_190 (t := 34) F dX9_atom1_31 rfl rfl ?_
      refine q_goto (t := 161) F dX9_atom1_34 (by decide) ?_
      refine T161 (bm (-x19)) (up im3 30 0 27 ((1 : Nat) : Int)) lm3 ?_
      rw [stP_y, one_min (m := 3) hx5t]
      exact RPO_neg (by omega) h27 hag hlg h3

set_option maxHeartbeats 4000000 in
theorem c_X9_term1 (l : Launch) (G : GS)  (bt rt : Nat)  (b : Nat → Int) (n : Nat) (hb : byt b n) (hO : RT l G bt rt b n yX9_atom1 Y_X9_atom1 (oneL b n 4) 1) (im lm : IM) (nm : Nat → Int) (p : Nat) (f : Int) (h : PQ b n im lm p f) (h27 : im 30 0 27 = ((1 : Nat) : Int)) (hnm : NMr im nm) : Cn l (XR G) yX9_term1 Y_X9_term1 [vR 30 0] (im, rs bt rt, lm) (pI fun x m' => ∃ im' lm', RPO b n im lm nm (stP (termL b n 4) p f) x im' lm' ∧ m' = (im', rs bt rt, lm')) := by
  refine cn_of (by decide) (okR G) rfl (Nat.le_of_ble_eq_true rfl) ?_
  intro M ad hMl F
  subst hMl
  have hn := hb.1
  have hR := h.2.1
  refine wp_pad 1 ?_
  show Wp M (XR G) ad Y_X9_term1 (pI fun x m' => ∃ im' lm', RPO b n im lm nm (stP (termL b n 4) p f) x im' lm' ∧ m' = (im', rs bt rt, lm')) 0 [some (vR 30 0), none] [] (im, rs bt rt, lm)
  refine q_aload_n (t := 1) F dX9_term1_0 rfl rfl rfl ?_
  refine wp_callV (t := 4) [] F dX9_term1_1 k_X9_atom1 v_X9_atom1 ml_X9_307 rfl rfl rfl rfl (Nat.le_of_ble_eq_true rfl) (by decide) (m_30 (by omega)) (hO im lm nm p f h h27 hnm) rfl (kI ?_)
  rintro x1 m' ⟨im0, lm0, h0, rfl⟩
  refine q_istore_n (t := 5) F dX9_term1_4 rfl (by decide) rfl rfl ?_
  have L5 : ∀ (fz : Nat) (k : Nat) (r : PT) (v : Int) (im1 lm1 : IM), k < fz → loopP b n opM (oneL b n 4) 160 (stP (oneL b n 4) p f) = loopP b n opM (oneL b n 4) k r → n - r.1 ≤ k → RPO b n im lm nm r v im1 lm1 → Wp M (XR G) ad Y_X9_term1 (pI fun x m' => ∃ im' lm', RPO b n im lm nm (stP (termL b n 4) p f) x im' lm' ∧ m' = (im', rs bt rt, lm')) 5 [some (vR 30 0), some (vI v)] [] (im1, rs bt rt, lm1) := by
    intro fz
    induction fz with
    | zero => intro k r v im1 lm1 h; exact absurd h (Nat.not_lt_zero _)
    | succ fz ih =>
      have ih5 := ih
      intro k r v im1 lm1 hmeas hlp hk hr
      have hti := tk_in b n r.1
      have hb1 := hr.2.1.b01
      have hrv := hr.1
      have hrv1 := hrv.1
      have hrv2 := hrv.2
      refine q_aload_n (t := 6) F dX9_term1_5 rfl rfl rfl ?_
      refine q_bipush (t := 8) F dX9_term1_6 (by decide) rfl ?_
      refine wp_callV (t := 11) [_] F dX9_term1_8 k_X9_isSign v_X9_isSign ml_X9_220 rfl rfl rfl rfl (Nat.le_of_ble_eq_true rfl) (by decide) (m_30 (by omega)) (c_X9_isSign _ G im1 bt rt lm1 b n hb r.1 r.2.1 hr.2.1 42 (by omega) (by omega)) rfl (kI ?_)
      rintro x8 m' ⟨hx8, rfl⟩
      have hx8 := if01 hx8
      refine q_if_eq (t := 14) (u := 28) F dX9_term1_11 (by first | exact hR _ _ _ | (constructor <;> omega)) (by decide) rfl (fun c11 => ?_) (fun c11 => ?_)
      · refine q_iload_n (t := 29) F dX9_term1_28 rfl rfl rfl ?_
        refine q_iret F dX9_term1_29 rfl ?_
        have e : stP (termL b n 4) p f = r := by
          have e0 : stP (termL b n 4) p f = loopP b n opM (oneL b n 4) 160 (stP (oneL b n 4) p f) := stP_loop (F := oneL b n 4) (k := 160)
          rw [e0, hlp]
          refine loopP_n (fun q => ?_)
          have q1 := q.1
          have q2 := q.2
          unfold opM at q2
          rw [if_neg (by omega)] at q2
          exact q2 rfl
        exact ⟨v, rfl, im1, lm1, by rw [e]; exact hr, rfl⟩
      · have hq : r.2.1 = -1 ∧ tk b n r.1 = 42 := by omega
        have hlt : r.1 < n := tk_lt (b := b) (by omega)
        have hop : opM (tk b n r.1) = -9 := by unfold opM; rw [if_pos hq.2]
        have hgd := PG_one b n 4 (adv b n r.1) (adv_in hlt).2
        have had := (adv_in (b := b) hlt).1
        have h11 := hr.2.1
        rw [hq.1] at h11
        refine q_aload_n (t := 15) F dX9_term1_14 rfl rfl rfl ?_
        refine wp_callV (t := 18) [] F dX9_term1_15 k_X9_next v_X9_next ml_X9_196 rfl rfl rfl rfl (Nat.le_of_ble_eq_true rfl) (by decide) (m_30 (by omega)) (c_nextQ _ G im1 bt rt lm1 b n hb r.1 h11 hlt (by omega)) rfl (kV ?_)
        rintro m' ⟨im2, lm2, h2, hag2, hlg2, rfl⟩
        refine q_iload_n (t := 19) F dX9_term1_18 rfl rfl rfl ?_
        refine q_aload_n (t := 20) F dX9_term1_19 rfl rfl rfl ?_
        refine wp_callV (t := 23) [] F dX9_term1_20 k_X9_atom1 v_X9_atom1 ml_X9_307 rfl rfl rfl rfl (Nat.le_of_ble_eq_true rfl) (by decide) (m_30 (by omega)) (hO im2 lm2 nm (adv b n r.1) (-1) h2 (((hag2.trans hr.2.2.1) 30 0 27 (by omega)).trans h27) (hnm.ag (hag2.trans hr.2.2.1))) rfl (kI ?_)
        rintro x20 m' ⟨im3, lm3, h3, rfl⟩
        rw [stP_y] at h3
        refine q_imul (t := 24) F dX9_term1_23 rfl ?_
        refine q_norm ?_
        refine q_istore_n (t := 25) F dX9_term1_24 rfl (by decide) rfl rfl ?_
        refine q_goto (t := 5) F dX9_term1_25 (by decide) ?_
        refine ih5 (k - 1) (lpS b n opM (oneL b n 4) r) _ im3 lm3 (by omega) ?_ ?_ (RPO_step hr hq.1 hag2 hlg2 h3 (ri_b _) (by rw [hop]; exact bi2_9 _ _))
        · rw [hlp]
          obtain ⟨k', hk'⟩ : ∃ k', k = k' + 1 := ⟨k - 1, by omega⟩
          rw [hk', loopP_y2 hq.1 (by rw [hop]; decide)]
          rfl
        · have := hgd.1
          show n - (oneL b n 4 (adv b n r.1)).1 ≤ k - 1
          omega
  exact L5 _ 160 _ _ _ _ (Nat.lt_succ_self _) rfl (by omega) h0

set_option maxHeartbeats 4000000 in
theorem c_X9_added1 (l : Launch) (G : GS)  (bt rt : Nat)  (b : Nat → Int) (n : Nat) (hb : byt b n) (hO : RT l G bt rt b n yX9_term1 Y_X9_term1 (termL b n 4) 1) (im lm : IM) (nm : Nat → Int) (p : Nat) (f : Int) (h : PQ b n im lm p f) (h27 : im 30 0 27 = ((1 : Nat) : Int)) (hnm : NMr im nm) : Cn l (XR G) yX9_added1 Y_X9_added1 [vR 30 0] (im, rs bt rt, lm) (pI fun x m' => ∃ im' lm', RPO b n im lm nm (stP (sumL b n 4) p f) x im' lm' ∧ m' = (im', rs bt rt, lm')) := by
  refine cn_of (by decide) (okR G) rfl (Nat.le_of_ble_eq_true rfl) ?_
  intro M ad hMl F
  subst hMl
  have hn := hb.1
  have hR := h.2.1
  refine wp_pad 3 ?_
  show Wp M (XR G) ad Y_X9_added1 (pI fun x m' => ∃ im' lm', RPO b n im lm nm (stP (sumL b n 4) p f) x im' lm' ∧ m' = (im', rs bt rt, lm')) 0 [some (vR 30 0), none, none, none] [] (im, rs bt rt, lm)
  refine q_aload_n (t := 1) F dX9_added1_0 rfl rfl rfl ?_
  refine wp_callV (t := 4) [] F dX9_added1_1 k_X9_term1 v_X9_term1 ml_X9_310 rfl rfl rfl rfl (Nat.le_of_ble_eq_true rfl) (by decide) (m_30 (by omega)) (hO im lm nm p f h h27 hnm) rfl (kI ?_)
  rintro x1 m' ⟨im0, lm0, h0, rfl⟩
  refine q_istore_n (t := 5) F dX9_added1_4 rfl (by decide) rfl rfl ?_
  have L5 : ∀ (fz : Nat) (k : Nat) (r : PT) (v : Int) (im1 lm1 : IM), k < fz → loopP b n opS (termL b n 4) 160 (stP (termL b n 4) p f) = loopP b n opS (termL b n 4) k r → n - r.1 ≤ k → RPO b n im lm nm r v im1 lm1 → Wp M (XR G) ad Y_X9_added1 (pI fun x m' => ∃ im' lm', RPO b n im lm nm (stP (sumL b n 4) p f) x im' lm' ∧ m' = (im', rs bt rt, lm')) 5 [some (vR 30 0), some (vI v), none, none] [] (im1, rs bt rt, lm1) := by
    intro fz
    induction fz with
    | zero => intro k r v im1 lm1 h; exact absurd h (Nat.not_lt_zero _)
    | succ fz ih =>
      have ih5 := ih
      intro k r v im1 lm1 hmeas hlp hk hr
      have hti := tk_in b n r.1
      have hb1 := hr.2.1.b01
      have hrv := hr.1
      have hrv1 := hrv.1
      have hrv2 := hrv.2
      refine q_aload_n (t := 6) F dX9_added1_5 rfl rfl rfl ?_
      refine q_bipush (t := 8) F dX9_added1_6 (by decide) rfl ?_
      refine wp_callV (t := 11) [_] F dX9_added1_8 k_X9_isSign v_X9_isSign ml_X9_220 rfl rfl rfl rfl (Nat.le_of_ble_eq_true rfl) (by decide) (m_30 (by omega)) (c_X9_isSign _ G im1 bt rt lm1 b n hb r.1 r.2.1 hr.2.1 43 (by omega) (by omega)) rfl (kI ?_)
      rintro x8 m' ⟨hx8, rfl⟩
      have hx8 := if01 hx8
      refine q_if_ne (t := 14) (u := 23) F dX9_added1_11 (by first | exact hR _ _ _ | (constructor <;> omega)) (by decide) rfl (fun c11 => ?_) (fun c11 => ?_)
      · have hq : r.2.1 = -1 ∧ (tk b n r.1 = 43 ∨ tk b n r.1 = 45) := by omega
        have hlt : r.1 < n := tk_lt (b := b) (by omega)
        
        have hgd := PG_termL b n 4 (adv b n r.1) (adv_in hlt).2
        have had := (adv_in (b := b) hlt).1
        have h11 := hr.2.1
        rw [hq.1] at h11
        have hw1 : lm1 30 0 26 = tk b n r.1 := ((TK_sign (h11.1.1 rfl).2.2 (s := tk b n r.1) (by omega)).mpr rfl).2
        have hcm : cmpI (lm1 30 0 26) 43 = 0 ↔ lm1 30 0 26 = 43 := cmpI_eq
        refine q_aload_n (t := 24) F dX9_added1_23 rfl rfl rfl ?_
        refine g_X9_175 (t := 27) F dX9_added1_24 rfl rfl ?_
        try simp only [up_app, row_app, scr_app, cpy_app, Nat.reduceEqDiff, Int.reduceToNat, Int.toNat_natCast, and_true, true_and, and_false, false_and, and_self, reduceIte]
        refine q_ldc2 (t := 30) (x := 43) F dX9_added1_27 kl_X9_237 (by decide) rfl ?_
        refine q_lcmp (t := 31) F dX9_added1_30 ⟨by omega, by omega⟩ ⟨by omega, by omega⟩ rfl ?_
        refine q_if_ne (t := 34) (u := 38) F dX9_added1_31 (by exact cmpI_ri _ _) (by decide) rfl (fun c31 => ?_) (fun c31 => ?_)
        · refine q_iconst (t := 39) F dX9_added1_38 rfl ?_
          refine q_istore_n (t := 40) F dX9_added1_39 rfl (by decide) rfl rfl ?_
          refine q_aload_n (t := 41) F dX9_added1_40 rfl rfl rfl ?_
          refine wp_callV (t := 44) [] F dX9_added1_41 k_X9_next v_X9_next ml_X9_196 rfl rfl rfl rfl (Nat.le_of_ble_eq_true rfl) (by decide) (m_30 (by omega)) (c_nextQ _ G im1 bt rt lm1 b n hb r.1 h11 hlt (by omega)) rfl (kV ?_)
          rintro m' ⟨im2, lm2, h2, hag2, hlg2, rfl⟩
          refine q_aload_n (t := 45) F dX9_added1_44 rfl rfl rfl ?_
          refine wp_callV (t := 48) [] F dX9_added1_45 k_X9_term1 v_X9_term1 ml_X9_310 rfl rfl rfl rfl (Nat.le_of_ble_eq_true rfl) (by decide) (m_30 (by omega)) (hO im2 lm2 nm (adv b n r.1) (-1) h2 (((hag2.trans hr.2.2.1) 30 0 27 (by omega)).trans h27) (hnm.ag (hag2.trans hr.2.2.1))) rfl (kI ?_)
          rintro x45 m' ⟨im3, lm3, h3, rfl⟩
          rw [stP_y] at h3
          refine q_istore_n (t := 49) F dX9_added1_48 rfl (by decide) rfl rfl ?_
          refine q_iload_n (t := 50) F dX9_added1_49 rfl rfl rfl ?_
          refine q_if_eq (t := 53) (u := 59) F dX9_added1_50 (by first | exact hR _ _ _ | (constructor <;> omega)) (by decide) rfl (fun c50 => ?_) (fun c50 => ?_)
          · refine q_iload_n (t := 60) F dX9_added1_59 rfl rfl rfl ?_
            refine q_iload_n (t := 61) F dX9_added1_60 rfl rfl rfl ?_
            refine q_isub (t := 62) F dX9_added1_61 rfl ?_
            refine q_norm ?_
            refine q_istore_n (t := 63) F dX9_added1_62 rfl (by decide) rfl rfl ?_
            refine q_goto (t := 5) F dX9_added1_63 (by decide) ?_
            refine wp_less 3 ?_
            refine wp_less 2 ?_
            first
              | (exfalso; omega)
              | (have hop : opS (tk b n r.1) = -10 := by unfold opS; rw [if_pos (by omega)]
                 refine ih5 (k - 1) (lpS b n opS (termL b n 4) r) _ im3 lm3 (by omega) ?_ ?_ (RPO_step hr hq.1 hag2 hlg2 h3 (ri_b _) (by rw [hop]; exact bi2_10 _ _))
                 · rw [hlp]
                   obtain ⟨k', hk'⟩ : ∃ k', k = k' + 1 := ⟨k - 1, by omega⟩
                   rw [hk', loopP_y2 hq.1 (by rw [hop]; decide)]
                   rfl
                 · have := hgd.1
                   show n - (termL b n 4 (adv b n r.1)).1 ≤ k - 1
                   omega)
              | (have hop : opS (tk b n r.1) = -11 := by unfold opS; rw [if_neg (by omega), if_pos (by omega)]
                 refine ih5 (k - 1) (lpS b n opS (termL b n 4) r) _ im3 lm3 (by omega) ?_ ?_ (RPO_step hr hq.1 hag2 hlg2 h3 (ri_b _) (by rw [hop]; exact bi2_11 _ _))
                 · rw [hlp]
                   obtain ⟨k', hk'⟩ : ∃ k', k = k' + 1 := ⟨k - 1, by omega⟩
                   rw [hk', loopP_y2 hq.1 (by rw [hop]; decide)]
                   rfl
                 · have := hgd.1
                   show n - (termL b n 4 (adv b n r.1)).1 ≤ k - 1
                   omega)
          · refine q_iload_n (t := 54) F dX9_added1_53 rfl rfl rfl ?_
            refine q_iload_n (t := 55) F dX9_added1_54 rfl rfl rfl ?_
            refine q_iadd (t := 56) F dX9_added1_55 rfl ?_
            refine q_goto (t := 62) F dX9_added1_56 (by decide) ?_
            refine q_norm ?_
            refine q_istore_n (t := 63) F dX9_added1_62 rfl (by decide) rfl rfl ?_
            refine q_goto (t := 5) F dX9_added1_63 (by decide) ?_
            refine wp_less 3 ?_
            refine wp_less 2 ?_
            first
              | (exfalso; omega)
              | (have hop : opS (tk b n r.1) = -10 := by unfold opS; rw [if_pos (by omega)]
                 refine ih5 (k - 1) (lpS b n opS (termL b n 4) r) _ im3 lm3 (by omega) ?_ ?_ (RPO_step hr hq.1 hag2 hlg2 h3 (ri_b _) (by rw [hop]; exact bi2_10 _ _))
                 · rw [hlp]
                   obtain ⟨k', hk'⟩ : ∃ k', k = k' + 1 := ⟨k - 1, by omega⟩
                   rw [hk', loopP_y2 hq.1 (by rw [hop]; decide)]
                   rfl
                 · have := hgd.1
                   show n - (termL b n 4 (adv b n r.1)).1 ≤ k - 1
                   omega)
              | (have hop : opS (tk b n r.1) = -11 := by unfold opS; rw [if_neg (by omega), if_pos (by omega)]
                 refine ih5 (k - 1) (lpS b n opS (termL b n 4) r) _ im3 lm3 (by omega) ?_ ?_ (RPO_step hr hq.1 hag2 hlg2 h3 (ri_b _) (by rw [hop]; exact bi2_11 _ _))
                 · rw [hlp]
                   obtain ⟨k', hk'⟩ : ∃ k', k = k' + 1 := ⟨k - 1, by omega⟩
                   rw [hk', loopP_y2 hq.1 (by rw [hop]; decide)]
                   rfl
                 · have := hgd.1
                   show n - (termL b n 4 (adv b n r.1)).1 ≤ k - 1
                   omega)
        · refine q_iconst (t := 35) F dX9_added1_34 rfl ?_
          refine q_goto (t := 39) F dX9_added1_35 (by decide) ?_
          refine q_istore_n (t := 40) F dX9_added1_39 rfl (by decide) rfl rfl ?_
          refine q_aload_n (t := 41) F dX9_added1_40 rfl rfl rfl ?_
          refine wp_callV (t := 44) [] F dX9_added1_41 k_X9_next v_X9_next ml_X9_196 rfl rfl rfl rfl (Nat.le_of_ble_eq_true rfl) (by decide) (m_30 (by omega)) (c_nextQ _ G im1 bt rt lm1 b n hb r.1 h11 hlt (by omega)) rfl (kV ?_)
          rintro m' ⟨im2, lm2, h2, hag2, hlg2, rfl⟩
          refine q_aload_n (t := 45) F dX9_added1_44 rfl rfl rfl ?_
          refine wp_callV (t := 48) [] F dX9_added1_45 k_X9_term1 v_X9_term1 ml_X9_310 rfl rfl rfl rfl (Nat.le_of_ble_eq_true rfl) (by decide) (m_30 (by omega)) (hO im2 lm2 nm (adv b n r.1) (-1) h2 (((hag2.trans hr.2.2.1) 30 0 27 (by omega)).trans h27) (hnm.ag (hag2.trans hr.2.2.1))) rfl (kI ?_)
          rintro x45 m' ⟨im3, lm3, h3, rfl⟩
          rw [stP_y] at h3
          refine q_istore_n (t := 49) F dX9_added1_48 rfl (by decide) rfl rfl ?_
          refine q_iload_n (t := 50) F dX9_added1_49 rfl rfl rfl ?_
          refine q_if_eq (t := 53) (u := 59) F dX9_added1_50 (by first | exact hR _ _ _ | (constructor <;> omega)) (by decide) rfl (fun c50 => ?_) (fun c50 => ?_)
          · refine q_iload_n (t := 60) F dX9_added1_59 rfl rfl rfl ?_
            refine q_iload_n (t := 61) F dX9_added1_60 rfl rfl rfl ?_
            refine q_isub (t := 62) F dX9_added1_61 rfl ?_
            refine q_norm ?_
            refine q_istore_n (t := 63) F dX9_added1_62 rfl (by decide) rfl rfl ?_
            refine q_goto (t := 5) F dX9_added1_63 (by decide) ?_
            refine wp_less 3 ?_
            refine wp_less 2 ?_
            first
              | (exfalso; omega)
              | (have hop : opS (tk b n r.1) = -10 := by unfold opS; rw [if_pos (by omega)]
                 refine ih5 (k - 1) (lpS b n opS (termL b n 4) r) _ im3 lm3 (by omega) ?_ ?_ (RPO_step hr hq.1 hag2 hlg2 h3 (ri_b _) (by rw [hop]; exact bi2_10 _ _))
                 · rw [hlp]
                   obtain ⟨k', hk'⟩ : ∃ k', k = k' + 1 := ⟨k - 1, by omega⟩
                   rw [hk', loopP_y2 hq.1 (by rw [hop]; decide)]
                   rfl
                 · have := hgd.1
                   show n - (termL b n 4 (adv b n r.1)).1 ≤ k - 1
                   omega)
              | (have hop : opS (tk b n r.1) = -11 := by unfold opS; rw [if_neg (by omega), if_pos (by omega)]
                 refine ih5 (k - 1) (lpS b n opS (termL b n 4) r) _ im3 lm3 (by omega) ?_ ?_ (RPO_step hr hq.1 hag2 hlg2 h3 (ri_b _) (by rw [hop]; exact bi2_11 _ _))
                 · rw [hlp]
                   obtain ⟨k', hk'⟩ : ∃ k', k = k' + 1 := ⟨k - 1, by omega⟩
                   rw [hk', loopP_y2 hq.1 (by rw [hop]; decide)]
                   rfl
                 · have := hgd.1
                   show n - (termL b n 4 (adv b n r.1)).1 ≤ k - 1
                   omega)
          · refine q_iload_n (t := 54) F dX9_added1_53 rfl rfl rfl ?_
            refine q_iload_n (t := 55) F dX9_added1_54 rfl rfl rfl ?_
            refine q_iadd (t := 56) F dX9_added1_55 rfl ?_
            refine q_goto (t := 62) F dX9_added1_56 (by decide) ?_
            refine q_norm ?_
            refine q_istore_n (t := 63) F dX9_added1_62 rfl (by decide) rfl rfl ?_
            refine q_goto (t := 5) F dX9_added1_63 (by decide) ?_
            refine wp_less 3 ?_
            refine wp_less 2 ?_
            first
              | (exfalso; omega)
              | (have hop : opS (tk b n r.1) = -10 := by unfold opS; rw [if_pos (by omega)]
                 refine ih5 (k - 1) (lpS b n opS (termL b n 4) r) _ im3 lm3 (by omega) ?_ ?_ (RPO_step hr hq.1 hag2 hlg2 h3 (ri_b _) (by rw [hop]; exact bi2_10 _ _))
                 · rw [hlp]
                   obtain ⟨k', hk'⟩ : ∃ k', k = k' + 1 := ⟨k - 1, by omega⟩
                   rw [hk', loopP_y2 hq.1 (by rw [hop]; decide)]
                   rfl
                 · have := hgd.1
                   show n - (termL b n 4 (adv b n r.1)).1 ≤ k - 1
                   omega)
              | (have hop : opS (tk b n r.1) = -11 := by unfold opS; rw [if_neg (by omega), if_pos (by omega)]
                 refine ih5 (k - 1) (lpS b n opS (termL b n 4) r) _ im3 lm3 (by omega) ?_ ?_ (RPO_step hr hq.1 hag2 hlg2 h3 (ri_b _) (by rw [hop]; exact bi2_11 _ _))
                 · rw [hlp]
                   obtain ⟨k', hk'⟩ : ∃ k', k = k' + 1 := ⟨k - 1, by omega⟩
                   rw [hk', loopP_y2 hq.1 (by rw [hop]; decide)]
                   rfl
                 · have := hgd.1
                   show n - (termL b n 4 (adv b n r.1)).1 ≤ k - 1
                   omega)
      · refine q_aload_n (t := 15) F dX9_added1_14 rfl rfl rfl ?_
        refine q_bipush (t := 17) F dX9_added1_15 (by decide) rfl ?_
        refine wp_callV (t := 20) [_] F dX9_added1_17 k_X9_isSign v_X9_isSign ml_X9_220 rfl rfl rfl rfl (Nat.le_of_ble_eq_true rfl) (by decide) (m_30 (by omega)) (c_X9_isSign _ G im1 bt rt lm1 b n hb r.1 r.2.1 hr.2.1 45 (by omega) (by omega)) rfl (kI ?_)
        rintro x17 m' ⟨hx17, rfl⟩
        have hx17 := if01 hx17
        refine q_if_eq (t := 23) (u := 66) F dX9_added1_20 (by first | exact hR _ _ _ | (constructor <;> omega)) (by decide) rfl (fun c20 => ?_) (fun c20 => ?_)
        · refine q_iload_n (t := 67) F dX9_added1_66 rfl rfl rfl ?_
          refine q_iret F dX9_added1_67 rfl ?_
          have e : stP (sumL b n 4) p f = r := by
            have e0 : stP (sumL b n 4) p f = loopP b n opS (termL b n 4) 160 (stP (termL b n 4) p f) := stP_loop (F := termL b n 4) (k := 160)
            rw [e0, hlp]
            refine loopP_n (fun q => ?_)
            have q1 := q.1
            have q2 := q.2
            unfold opS at q2
            rw [if_neg (by omega), if_neg (by omega)] at q2
            exact q2 rfl
          exact ⟨v, rfl, im1, lm1, by rw [e]; exact hr, rfl⟩
        · have hq : r.2.1 = -1 ∧ (tk b n r.1 = 43 ∨ tk b n r.1 = 45) := by omega
          have hlt : r.1 < n := tk_lt (b := b) (by omega)
          
          have hgd := PG_termL b n 4 (adv b n r.1) (adv_in hlt).2
          have had := (adv_in (b := b) hlt).1
          have h11 := hr.2.1
          rw [hq.1] at h11
          have hw1 : lm1 30 0 26 = tk b n r.1 := ((TK_sign (h11.1.1 rfl).2.2 (s := tk b n r.1) (by omega)).mpr rfl).2
          have hcm : cmpI (lm1 30 0 26) 43 = 0 ↔ lm1 30 0 26 = 43 := cmpI_eq
          refine q_aload_n (t := 24) F dX9_added1_23 rfl rfl rfl ?_
          refine g_X9_175 (t := 27) F dX9_added1_24 rfl rfl ?_
          try simp only [up_app, row_app, scr_app, cpy_app, Nat.reduceEqDiff, Int.reduceToNat, Int.toNat_natCast, and_true, true_and, and_false, false_and, and_self, reduceIte]
          refine q_ldc2 (t := 30) (x := 43) F dX9_added1_27 kl_X9_237 (by decide) rfl ?_
          refine q_lcmp (t := 31) F dX9_added1_30 ⟨by omega, by omega⟩ ⟨by omega, by omega⟩ rfl ?_
          refine q_if_ne (t := 34) (u := 38) F dX9_added1_31 (by exact cmpI_ri _ _) (by decide) rfl (fun c31 => ?_) (fun c31 => ?_)
          · refine q_iconst (t := 39) F dX9_added1_38 rfl ?_
            refine q_istore_n (t := 40) F dX9_added1_39 rfl (by decide) rfl rfl ?_
            refine q_aload_n (t := 41) F dX9_added1_40 rfl rfl rfl ?_
            refine wp_callV (t := 44) [] F dX9_added1_41 k_X9_next v_X9_next ml_X9_196 rfl rfl rfl rfl (Nat.le_of_ble_eq_true rfl) (by decide) (m_30 (by omega)) (c_nextQ _ G im1 bt rt lm1 b n hb r.1 h11 hlt (by omega)) rfl (kV ?_)
            rintro m' ⟨im2, lm2, h2, hag2, hlg2, rfl⟩
            refine q_aload_n (t := 45) F dX9_added1_44 rfl rfl rfl ?_
            refine wp_callV (t := 48) [] F dX9_added1_45 k_X9_term1 v_X9_term1 ml_X9_310 rfl rfl rfl rfl (Nat.le_of_ble_eq_true rfl) (by decide) (m_30 (by omega)) (hO im2 lm2 nm (adv b n r.1) (-1) h2 (((hag2.trans hr.2.2.1) 30 0 27 (by omega)).trans h27) (hnm.ag (hag2.trans hr.2.2.1))) rfl (kI ?_)
            rintro x45 m' ⟨im3, lm3, h3, rfl⟩
            rw [stP_y] at h3
            refine q_istore_n (t := 49) F dX9_added1_48 rfl (by decide) rfl rfl ?_
            refine q_iload_n (t := 50) F dX9_added1_49 rfl rfl rfl ?_
            refine q_if_eq (t := 53) (u := 59) F dX9_added1_50 (by first | exact hR _ _ _ | (constructor <;> omega)) (by decide) rfl (fun c50 => ?_) (fun c50 => ?_)
            · refine q_iload_n (t := 60) F dX9_added1_59 rfl rfl rfl ?_
              refine q_iload_n (t := 61) F dX9_added1_60 rfl rfl rfl ?_
              refine q_isub (t := 62) F dX9_added1_61 rfl ?_
              refine q_norm ?_
              refine q_istore_n (t := 63) F dX9_added1_62 rfl (by decide) rfl rfl ?_
              refine q_goto (t := 5) F dX9_added1_63 (by decide) ?_
              refine wp_less 3 ?_
              refine wp_less 2 ?_
              first
                | (exfalso; omega)
                | (have hop : opS (tk b n r.1) = -10 := by unfold opS; rw [if_pos (by omega)]
                   refine ih5 (k - 1) (lpS b n opS (termL b n 4) r) _ im3 lm3 (by omega) ?_ ?_ (RPO_step hr hq.1 hag2 hlg2 h3 (ri_b _) (by rw [hop]; exact bi2_10 _ _))
                   · rw [hlp]
                     obtain ⟨k', hk'⟩ : ∃ k', k = k' + 1 := ⟨k - 1, by omega⟩
                     rw [hk', loopP_y2 hq.1 (by rw [hop]; decide)]
                     rfl
                   · have := hgd.1
                     show n - (termL b n 4 (adv b n r.1)).1 ≤ k - 1
                     omega)
                | (have hop : opS (tk b n r.1) = -11 := by unfold opS; rw [if_neg (by omega), if_pos (by omega)]
                   refine ih5 (k - 1) (lpS b n opS (termL b n 4) r) _ im3 lm3 (by omega) ?_ ?_ (RPO_step hr hq.1 hag2 hlg2 h3 (ri_b _) (by rw [hop]; exact bi2_11 _ _))
                   · rw [hlp]
                     obtain ⟨k', hk'⟩ : ∃ k', k = k' + 1 := ⟨k - 1, by omega⟩
                     rw [hk', loopP_y2 hq.1 (by rw [hop]; decide)]
                     rfl
                   · have := hgd.1
                     show n - (termL b n 4 (adv b n r.1)).1 ≤ k - 1
                     omega)
            · refine q_iload_n (t := 54) F dX9_added1_53 rfl rfl rfl ?_
              refine q_iload_n (t := 55) F dX9_added1_54 rfl rfl rfl ?_
              refine q_iadd (t := 56) F dX9_added1_55 rfl ?_
              refine q_goto (t := 62) F dX9_added1_56 (by decide) ?_
              refine q_norm ?_
              refine q_istore_n (t := 63) F dX9_added1_62 rfl (by decide) rfl rfl ?_
              refine q_goto (t := 5) F dX9_added1_63 (by decide) ?_
              refine wp_less 3 ?_
              refine wp_less 2 ?_
              first
                | (exfalso; omega)
                | (have hop : opS (tk b n r.1) = -10 := by unfold opS; rw [if_pos (by omega)]
                   refine ih5 (k - 1) (lpS b n opS (termL b n 4) r) _ im3 lm3 (by omega) ?_ ?_ (RPO_step hr hq.1 hag2 hlg2 h3 (ri_b _) (by rw [hop]; exact bi2_10 _ _))
                   · rw [hlp]
                     obtain ⟨k', hk'⟩ : ∃ k', k = k' + 1 := ⟨k - 1, by omega⟩
                     rw [hk', loopP_y2 hq.1 (by rw [hop]; decide)]
                     rfl
                   · have := hgd.1
                     show n - (termL b n 4 (adv b n r.1)).1 ≤ k - 1
                     omega)
                | (have hop : opS (tk b n r.1) = -11 := by unfold opS; rw [if_neg (by omega), if_pos (by omega)]
                   refine ih5 (k - 1) (lpS b n opS (termL b n 4) r) _ im3 lm3 (by omega) ?_ ?_ (RPO_step hr hq.1 hag2 hlg2 h3 (ri_b _) (by rw [hop]; exact bi2_11 _ _))
                   · rw [hlp]
                     obtain ⟨k', hk'⟩ : ∃ k', k = k' + 1 := ⟨k - 1, by omega⟩
                     rw [hk', loopP_y2 hq.1 (by rw [hop]; decide)]
                     rfl
                   · have := hgd.1
                     show n - (termL b n 4 (adv b n r.1)).1 ≤ k - 1
                     omega)
          · refine q_iconst (t := 35) F dX9_added1_34 rfl ?_
            refine q_goto (t := 39) F dX9_added1_35 (by decide) ?_
            refine q_istore_n (t := 40) F dX9_added1_39 rfl (by decide) rfl rfl ?_
            refine q_aload_n (t := 41) F dX9_added1_40 rfl rfl rfl ?_
            refine wp_callV (t := 44) [] F dX9_added1_41 k_X9_next v_X9_next ml_X9_196 rfl rfl rfl rfl (Nat.le_of_ble_eq_true rfl) (by decide) (m_30 (by omega)) (c_nextQ _ G im1 bt rt lm1 b n hb r.1 h11 hlt (by omega)) rfl (kV ?_)
            rintro m' ⟨im2, lm2, h2, hag2, hlg2, rfl⟩
            refine q_aload_n (t := 45) F dX9_added1_44 rfl rfl rfl ?_
            refine wp_callV (t := 48) [] F dX9_added1_45 k_X9_term1 v_X9_term1 ml_X9_310 rfl rfl rfl rfl (Nat.le_of_ble_eq_true rfl) (by decide) (m_30 (by omega)) (hO im2 lm2 nm (adv b n r.1) (-1) h2 (((hag2.trans hr.2.2.1) 30 0 27 (by omega)).trans h27) (hnm.ag (hag2.trans hr.2.2.1))) rfl (kI ?_)
            rintro x45 m' ⟨im3, lm3, h3, rfl⟩
            rw [stP_y] at h3
            refine q_istore_n (t := 49) F dX9_added1_48 rfl (by decide) rfl rfl ?_
            refine q_iload_n (t := 50) F dX9_added1_49 rfl rfl rfl ?_
            refine q_if_eq (t := 53) (u := 59) F dX9_added1_50 (by first | exact hR _ _ _ | (constructor <;> omega)) (by decide) rfl (fun c50 => ?_) (fun c50 => ?_)
            · refine q_iload_n (t := 60) F dX9_added1_59 rfl rfl rfl ?_
              refine q_iload_n (t := 61) F dX9_added1_60 rfl rfl rfl ?_
              refine q_isub (t := 62) F dX9_added1_61 rfl ?_
              refine q_norm ?_
              refine q_istore_n (t := 63) F dX9_added1_62 rfl (by decide) rfl rfl ?_
              refine q_goto (t := 5) F dX9_added1_63 (by decide) ?_
              refine wp_less 3 ?_
              refine wp_less 2 ?_
              first
                | (exfalso; omega)
                | (have hop : opS (tk b n r.1) = -10 := by unfold opS; rw [if_pos (by omega)]
                   refine ih5 (k - 1) (lpS b n opS (termL b n 4) r) _ im3 lm3 (by omega) ?_ ?_ (RPO_step hr hq.1 hag2 hlg2 h3 (ri_b _) (by rw [hop]; exact bi2_10 _ _))
                   · rw [hlp]
                     obtain ⟨k', hk'⟩ : ∃ k', k = k' + 1 := ⟨k - 1, by omega⟩
                     rw [hk', loopP_y2 hq.1 (by rw [hop]; decide)]
                     rfl
                   · have := hgd.1
                     show n - (termL b n 4 (adv b n r.1)).1 ≤ k - 1
                     omega)
                | (have hop : opS (tk b n r.1) = -11 := by unfold opS; rw [if_neg (by omega), if_pos (by omega)]
                   refine ih5 (k - 1) (lpS b n opS (termL b n 4) r) _ im3 lm3 (by omega) ?_ ?_ (RPO_step hr hq.1 hag2 hlg2 h3 (ri_b _) (by rw [hop]; exact bi2_11 _ _))
                   · rw [hlp]
                     obtain ⟨k', hk'⟩ : ∃ k', k = k' + 1 := ⟨k - 1, by omega⟩
                     rw [hk', loopP_y2 hq.1 (by rw [hop]; decide)]
                     rfl
                   · have := hgd.1
                     show n - (termL b n 4 (adv b n r.1)).1 ≤ k - 1
                     omega)
            · refine q_iload_n (t := 54) F dX9_added1_53 rfl rfl rfl ?_
              refine q_iload_n (t := 55) F dX9_added1_54 rfl rfl rfl ?_
              refine q_iadd (t := 56) F dX9_added1_55 rfl ?_
              refine q_goto (t := 62) F dX9_added1_56 (by decide) ?_
              refine q_norm ?_
              refine q_istore_n (t := 63) F dX9_added1_62 rfl (by decide) rfl rfl ?_
              refine q_goto (t := 5) F dX9_added1_63 (by decide) ?_
              refine wp_less 3 ?_
              refine wp_less 2 ?_
              first
                | (exfalso; omega)
                | (have hop : opS (tk b n r.1) = -10 := by unfold opS; rw [if_pos (by omega)]
                   refine ih5 (k - 1) (lpS b n opS (termL b n 4) r) _ im3 lm3 (by omega) ?_ ?_ (RPO_step hr hq.1 hag2 hlg2 h3 (ri_b _) (by rw [hop]; exact bi2_10 _ _))
                   · rw [hlp]
                     obtain ⟨k', hk'⟩ : ∃ k', k = k' + 1 := ⟨k - 1, by omega⟩
                     rw [hk', loopP_y2 hq.1 (by rw [hop]; decide)]
                     rfl
                   · have := hgd.1
                     show n - (termL b n 4 (adv b n r.1)).1 ≤ k - 1
                     omega)
                | (have hop : opS (tk b n r.1) = -11 := by unfold opS; rw [if_neg (by omega), if_pos (by omega)]
                   refine ih5 (k - 1) (lpS b n opS (termL b n 4) r) _ im3 lm3 (by omega) ?_ ?_ (RPO_step hr hq.1 hag2 hlg2 h3 (ri_b _) (by rw [hop]; exact bi2_11 _ _))
                   · rw [hlp]
                     obtain ⟨k', hk'⟩ : ∃ k', k = k' + 1 := ⟨k - 1, by omega⟩
                     rw [hk', loopP_y2 hq.1 (by rw [hop]; decide)]
                     rfl
                   · have := hgd.1
                     show n - (termL b n 4 (adv b n r.1)).1 ≤ k - 1
                     omega)
  refine wp_less 3 ?_
  refine wp_less 2 ?_
  exact L5 _ 160 _ _ _ _ (Nat.lt_succ_self _) rfl (by omega) h0

set_option maxHeartbeats 4000000 in
theorem c_X9_not1 (l : Launch) (G : GS)  (bt rt : Nat)  (b : Nat → Int) (n : Nat) (hb : byt b n) (hN : RT l G bt rt b n yX9_not2 Y_X9_not2 (denL b n 3) 2) (hS : RT l G bt rt b n yX9_added1 Y_X9_added1 (sumL b n 4) 1) (im lm : IM) (nm : Nat → Int) (p : Nat) (f : Int) (h : PQ b n im lm p f) (h27 : im 30 0 27 = ((1 : Nat) : Int)) (hnm : NMr im nm) : Cn l (XR G) yX9_not1 Y_X9_not1 [vR 30 0] (im, rs bt rt, lm) (pI fun x m' => ∃ im' lm', RPO b n im lm nm (stP (denL b n 4) p f) x im' lm' ∧ m' = (im', rs bt rt, lm')) := by
  refine cn_of (by decide) (okR G) rfl (Nat.le_of_ble_eq_true rfl) ?_
  intro M ad hMl F
  subst hMl
  have hn := hb.1
  have hR := h.2.1
  have hbb := h.b01
  have hti0 := tk_in b n p
  refine wp_pad 3 ?_
  show Wp M (XR G) ad Y_X9_not1 (pI fun x m' => ∃ im' lm', RPO b n im lm nm (stP (denL b n 4) p f) x im' lm' ∧ m' = (im', rs bt rt, lm')) 0 [some (vR 30 0), none, none, none] [] (im, rs bt rt, lm)
  refine q_aload_n (t := 1) F dX9_not1_0 rfl rfl rfl ?_
  refine q_bipush (t := 3) F dX9_not1_1 (by decide) rfl ?_
  refine q_bipush (t := 5) F dX9_not1_3 (by decide) rfl ?_
  refine q_bipush (t := 7) F dX9_not1_5 (by decide) rfl ?_
  refine q_iconst (t := 8) F dX9_not1_7 rfl ?_
  refine q_iconst (t := 9) F dX9_not1_8 rfl ?_
  refine q_iconst (t := 10) F dX9_not1_9 rfl ?_
  refine q_iconst (t := 11) F dX9_not1_10 rfl ?_
  refine q_iconst (t := 12) F dX9_not1_11 rfl ?_
  refine wp_callV (t := 15) [_, _, _, _, _, _, _, _] F dX9_not1_12 k_X9_isWord_ v_X9_isWord_ ml_X9_199 rfl rfl rfl rfl (Nat.le_of_ble_eq_true rfl) (by decide) (m_30 (by omega)) (c_isKey _ G im bt rt lm b n hb p f h 11 (by omega) (by omega) 9 (by omega) _ _ _ _ _ _ _ _ (by decide)) rfl (kI ?_)
  rintro x12 m' ⟨hx12, rfl⟩
  have hx12 := if01 hx12
  refine q_if_eq (t := 18) (u := 52) F dX9_not1_15 (by first | exact hR _ _ _ | (constructor <;> omega)) (by decide) rfl (fun c15 => ?_) (fun c15 => ?_)
  · refine q_aload_n (t := 53) F dX9_not1_52 rfl rfl rfl ?_
    refine wp_callV (t := 56) [] F dX9_not1_53 k_X9_added1 v_X9_added1 ml_X9_313 rfl rfl rfl rfl (Nat.le_of_ble_eq_true rfl) (by decide) (m_30 (by omega)) (hS im lm nm p f h h27 hnm) rfl (kI ?_)
    rintro xA m' ⟨im4, lm4, h4, rfl⟩
    have hn9 : f = -1 → tk b n p ≠ 9 := by omega
    obtain ⟨r, hrd⟩ : ∃ r, r = stP (sumL b n 4) p f := ⟨_, rfl⟩
    rw [← hrd] at h4
    have hb4 := h4.2.1.b01
    have hti := tk_in b n r.1
    have hra := h4.1
    have hra1 := hra.1
    have hra2 := hra.2
    refine q_istore_n (t := 57) F dX9_not1_56 rfl (by decide) rfl rfl ?_
    refine q_aload_n (t := 58) F dX9_not1_57 rfl rfl rfl ?_
    refine q_bipush (t := 60) F dX9_not1_58 (by decide) rfl ?_
    refine wp_callV (t := 63) [_] F dX9_not1_60 k_X9_isSign v_X9_isSign ml_X9_220 rfl rfl rfl rfl (Nat.le_of_ble_eq_true rfl) (by decide) (m_30 (by omega)) (c_X9_isSign _ G im4 bt rt lm4 b n hb r.1 r.2.1 h4.2.1 60 (by omega) (by omega)) rfl (kI ?_)
    rintro x60 m' ⟨hx60, rfl⟩
    have hx60 := if01 hx60
    refine q_if_ne (t := 66) (u := 77) F dX9_not1_63 (by first | exact hR _ _ _ | (constructor <;> omega)) (by decide) rfl (fun c63 => ?_) (fun c63 => ?_)
    · have hq : r.2.1 = -1 ∧ (tk b n r.1 = 60 ∨ tk b n r.1 = 61) := by omega
      have hlt : r.1 < n := tk_lt (b := b) (by omega)
      have hgd := PG_sumL b n 4 (adv b n r.1) (adv_in hlt).2
      have h11 := h4.2.1
      rw [hq.1] at h11
      have hw1 : lm4 30 0 26 = tk b n r.1 := ((TK_sign (h11.1.1 rfl).2.2 (s := tk b n r.1) (by omega)).mpr rfl).2
      have hcm : cmpI (lm4 30 0 26) 60 = 0 ↔ lm4 30 0 26 = 60 := cmpI_eq
      refine q_aload_n (t := 78) F dX9_not1_77 rfl rfl rfl ?_
      refine g_X9_175 (t := 81) F dX9_not1_78 rfl rfl ?_
      try simp only [up_app, row_app, scr_app, cpy_app, Nat.reduceEqDiff, Int.reduceToNat, Int.toNat_natCast, and_true, true_and, and_false, false_and, and_self, reduceIte]
      refine q_ldc2 (t := 84) (x := 60) F dX9_not1_81 kl_X9_242 (by decide) rfl ?_
      refine q_lcmp (t := 85) F dX9_not1_84 ⟨by omega, by omega⟩ ⟨by omega, by omega⟩ rfl ?_
      refine q_if_ne (t := 88) (u := 92) F dX9_not1_85 (by exact cmpI_ri _ _) (by decide) rfl (fun c85 => ?_) (fun c85 => ?_)
      · refine q_iconst (t := 93) F dX9_not1_92 rfl ?_
        refine q_istore_n (t := 94) F dX9_not1_93 rfl (by decide) rfl rfl ?_
        refine q_aload_n (t := 95) F dX9_not1_94 rfl rfl rfl ?_
        refine wp_callV (t := 98) [] F dX9_not1_95 k_X9_next v_X9_next ml_X9_196 rfl rfl rfl rfl (Nat.le_of_ble_eq_true rfl) (by decide) (m_30 (by omega)) (c_nextQ _ G im4 bt rt lm4 b n hb r.1 h11 hlt (by omega)) rfl (kV ?_)
        rintro m' ⟨im5, lm5, h5, hag5, hlg5, rfl⟩
        refine q_aload_n (t := 99) F dX9_not1_98 rfl rfl rfl ?_
        refine wp_callV (t := 102) [] F dX9_not1_99 k_X9_added1 v_X9_added1 ml_X9_313 rfl rfl rfl rfl (Nat.le_of_ble_eq_true rfl) (by decide) (m_30 (by omega)) (hS im5 lm5 nm (adv b n r.1) (-1) h5 (((hag5.trans h4.2.2.1) 30 0 27 (by omega)).trans h27) (hnm.ag (hag5.trans h4.2.2.1))) rfl (kI ?_)
        rintro xB m' ⟨im6, lm6, h6, rfl⟩
        rw [stP_y] at h6
        have hrb := h6.1
        have hrb1 := hrb.1
        have hrb2 := hrb.2
        refine q_istore_n (t := 103) F dX9_not1_102 rfl (by decide) rfl rfl ?_
        refine q_iload_n (t := 104) F dX9_not1_103 rfl rfl rfl ?_
        refine q_if_eq (t := 107) (u := 115) F dX9_not1_104 (by first | exact hR _ _ _ | (constructor <;> omega)) (by decide) rfl (fun c104 => ?_) (fun c104 => ?_)
        · refine q_iload_n (t := 116) F dX9_not1_115 rfl rfl rfl ?_
          refine q_iload_n (t := 117) F dX9_not1_116 rfl rfl rfl ?_
          refine q_icmp_ne (t := 120) (u := 124) F dX9_not1_117 (by exact hra) (by exact hrb) (by decide) rfl (fun c117 => ?_) (fun c117 => ?_)
          · refine q_iconst (t := 125) F dX9_not1_124 rfl ?_
            refine q_iret F dX9_not1_125 rfl ?_
            first
              | (exfalso; omega)
              | (have hop : opC (tk b n r.1) = -12 := by unfold opC; rw [if_pos (by omega)]
                 refine ⟨_, rfl, im6, lm6, ?_, rfl⟩
                 rw [den_oth hn9, ← hrd, loopP_y2 (f := 0) hq.1 (by rw [hop]; decide)]
                 refine RPO_step h4 hq.1 hag5 hlg5 h6 (by constructor <;> omega) ?_
                 rw [hop]
                 refine Eq.trans ?_ (bi2_12 _ _)
                 first
                   | exact (if_pos (by omega)).symm
                   | exact (if_neg (by omega)).symm)
              | (have hop : opC (tk b n r.1) = -13 := by unfold opC; rw [if_neg (by omega), if_pos (by omega)]
                 refine ⟨_, rfl, im6, lm6, ?_, rfl⟩
                 rw [den_oth hn9, ← hrd, loopP_y2 (f := 0) hq.1 (by rw [hop]; decide)]
                 refine RPO_step h4 hq.1 hag5 hlg5 h6 (by constructor <;> omega) ?_
                 rw [hop]
                 refine Eq.trans ?_ (bi2_13 _ _)
                 first
                   | exact (if_pos (by omega)).symm
                   | exact (if_neg (by omega)).symm)
          · refine q_iconst (t := 121) F dX9_not1_120 rfl ?_
            refine q_goto (t := 125) F dX9_not1_121 (by decide) ?_
            refine q_iret F dX9_not1_125 rfl ?_
            first
              | (exfalso; omega)
              | (have hop : opC (tk b n r.1) = -12 := by unfold opC; rw [if_pos (by omega)]
                 refine ⟨_, rfl, im6, lm6, ?_, rfl⟩
                 rw [den_oth hn9, ← hrd, loopP_y2 (f := 0) hq.1 (by rw [hop]; decide)]
                 refine RPO_step h4 hq.1 hag5 hlg5 h6 (by constructor <;> omega) ?_
                 rw [hop]
                 refine Eq.trans ?_ (bi2_12 _ _)
                 first
                   | exact (if_pos (by omega)).symm
                   | exact (if_neg (by omega)).symm)
              | (have hop : opC (tk b n r.1) = -13 := by unfold opC; rw [if_neg (by omega), if_pos (by omega)]
                 refine ⟨_, rfl, im6, lm6, ?_, rfl⟩
                 rw [den_oth hn9, ← hrd, loopP_y2 (f := 0) hq.1 (by rw [hop]; decide)]
                 refine RPO_step h4 hq.1 hag5 hlg5 h6 (by constructor <;> omega) ?_
                 rw [hop]
                 refine Eq.trans ?_ (bi2_13 _ _)
                 first
                   | exact (if_pos (by omega)).symm
                   | exact (if_neg (by omega)).symm)
        · refine q_iload_n (t := 108) F dX9_not1_107 rfl rfl rfl ?_
          refine q_iload_n (t := 109) F dX9_not1_108 rfl rfl rfl ?_
          refine q_icmp_ge (t := 112) (u := 124) F dX9_not1_109 (by exact hra) (by exact hrb) (by decide) rfl (fun c109 => ?_) (fun c109 => ?_)
          · refine q_iconst (t := 125) F dX9_not1_124 rfl ?_
            refine q_iret F dX9_not1_125 rfl ?_
            first
              | (exfalso; omega)
              | (have hop : opC (tk b n r.1) = -12 := by unfold opC; rw [if_pos (by omega)]
                 refine ⟨_, rfl, im6, lm6, ?_, rfl⟩
                 rw [den_oth hn9, ← hrd, loopP_y2 (f := 0) hq.1 (by rw [hop]; decide)]
                 refine RPO_step h4 hq.1 hag5 hlg5 h6 (by constructor <;> omega) ?_
                 rw [hop]
                 refine Eq.trans ?_ (bi2_12 _ _)
                 first
                   | exact (if_pos (by omega)).symm
                   | exact (if_neg (by omega)).symm)
              | (have hop : opC (tk b n r.1) = -13 := by unfold opC; rw [if_neg (by omega), if_pos (by omega)]
                 refine ⟨_, rfl, im6, lm6, ?_, rfl⟩
                 rw [den_oth hn9, ← hrd, loopP_y2 (f := 0) hq.1 (by rw [hop]; decide)]
                 refine RPO_step h4 hq.1 hag5 hlg5 h6 (by constructor <;> omega) ?_
                 rw [hop]
                 refine Eq.trans ?_ (bi2_13 _ _)
                 first
                   | exact (if_pos (by omega)).symm
                   | exact (if_neg (by omega)).symm)
          · refine q_goto (t := 120) F dX9_not1_112 (by decide) ?_
            refine q_iconst (t := 121) F dX9_not1_120 rfl ?_
            refine q_goto (t := 125) F dX9_not1_121 (by decide) ?_
            refine q_iret F dX9_not1_125 rfl ?_
            first
              | (exfalso; omega)
              | (have hop : opC (tk b n r.1) = -12 := by unfold opC; rw [if_pos (by omega)]
                 refine ⟨_, rfl, im6, lm6, ?_, rfl⟩
                 rw [den_oth hn9, ← hrd, loopP_y2 (f := 0) hq.1 (by rw [hop]; decide)]
                 refine RPO_step h4 hq.1 hag5 hlg5 h6 (by constructor <;> omega) ?_
                 rw [hop]
                 refine Eq.trans ?_ (bi2_12 _ _)
                 first
                   | exact (if_pos (by omega)).symm
                   | exact (if_neg (by omega)).symm)
              | (have hop : opC (tk b n r.1) = -13 := by unfold opC; rw [if_neg (by omega), if_pos (by omega)]
                 refine ⟨_, rfl, im6, lm6, ?_, rfl⟩
                 rw [den_oth hn9, ← hrd, loopP_y2 (f := 0) hq.1 (by rw [hop]; decide)]
                 refine RPO_step h4 hq.1 hag5 hlg5 h6 (by constructor <;> omega) ?_
                 rw [hop]
                 refine Eq.trans ?_ (bi2_13 _ _)
                 first
                   | exact (if_pos (by omega)).symm
                   | exact (if_neg (by omega)).symm)
      · refine q_iconst (t := 89) F dX9_not1_88 rfl ?_
        refine q_goto (t := 93) F dX9_not1_89 (by decide) ?_
        refine q_istore_n (t := 94) F dX9_not1_93 rfl (by decide) rfl rfl ?_
        refine q_aload_n (t := 95) F dX9_not1_94 rfl rfl rfl ?_
        refine wp_callV (t := 98) [] F dX9_not1_95 k_X9_next v_X9_next ml_X9_196 rfl rfl rfl rfl (Nat.le_of_ble_eq_true rfl) (by decide) (m_30 (by omega)) (c_nextQ _ G im4 bt rt lm4 b n hb r.1 h11 hlt (by omega)) rfl (kV ?_)
        rintro m' ⟨im5, lm5, h5, hag5, hlg5, rfl⟩
        refine q_aload_n (t := 99) F dX9_not1_98 rfl rfl rfl ?_
        refine wp_callV (t := 102) [] F dX9_not1_99 k_X9_added1 v_X9_added1 ml_X9_313 rfl rfl rfl rfl (Nat.le_of_ble_eq_true rfl) (by decide) (m_30 (by omega)) (hS im5 lm5 nm (adv b n r.1) (-1) h5 (((hag5.trans h4.2.2.1) 30 0 27 (by omega)).trans h27) (hnm.ag (hag5.trans h4.2.2.1))) rfl (kI ?_)
        rintro xB m' ⟨im6, lm6, h6, rfl⟩
        rw [stP_y] at h6
        have hrb := h6.1
        have hrb1 := hrb.1
        have hrb2 := hrb.2
        refine q_istore_n (t := 103) F dX9_not1_102 rfl (by decide) rfl rfl ?_
        refine q_iload_n (t := 104) F dX9_not1_103 rfl rfl rfl ?_
        refine q_if_eq (t := 107) (u := 115) F dX9_not1_104 (by first | exact hR _ _ _ | (constructor <;> omega)) (by decide) rfl (fun c104 => ?_) (fun c104 => ?_)
        · refine q_iload_n (t := 116) F dX9_not1_115 rfl rfl rfl ?_
          refine q_iload_n (t := 117) F dX9_not1_116 rfl rfl rfl ?_
          refine q_icmp_ne (t := 120) (u := 124) F dX9_not1_117 (by exact hra) (by exact hrb) (by decide) rfl (fun c117 => ?_) (fun c117 => ?_)
          · refine q_iconst (t := 125) F dX9_not1_124 rfl ?_
            refine q_iret F dX9_not1_125 rfl ?_
            first
              | (exfalso; omega)
              | (have hop : opC (tk b n r.1) = -12 := by unfold opC; rw [if_pos (by omega)]
                 refine ⟨_, rfl, im6, lm6, ?_, rfl⟩
                 rw [den_oth hn9, ← hrd, loopP_y2 (f := 0) hq.1 (by rw [hop]; decide)]
                 refine RPO_step h4 hq.1 hag5 hlg5 h6 (by constructor <;> omega) ?_
                 rw [hop]
                 refine Eq.trans ?_ (bi2_12 _ _)
                 first
                   | exact (if_pos (by omega)).symm
                   | exact (if_neg (by omega)).symm)
              | (have hop : opC (tk b n r.1) = -13 := by unfold opC; rw [if_neg (by omega), if_pos (by omega)]
                 refine ⟨_, rfl, im6, lm6, ?_, rfl⟩
                 rw [den_oth hn9, ← hrd, loopP_y2 (f := 0) hq.1 (by rw [hop]; decide)]
                 refine RPO_step h4 hq.1 hag5 hlg5 h6 (by constructor <;> omega) ?_
                 rw [hop]
                 refine Eq.trans ?_ (bi2_13 _ _)
                 first
                   | exact (if_pos (by omega)).symm
                   | exact (if_neg (by omega)).symm)
          · refine q_iconst (t := 121) F dX9_not1_120 rfl ?_
            refine q_goto (t := 125) F dX9_not1_121 (by decide) ?_
            refine q_iret F dX9_not1_125 rfl ?_
            first
              | (exfalso; omega)
              | (have hop : opC (tk b n r.1) = -12 := by unfold opC; rw [if_pos (by omega)]
                 refine ⟨_, rfl, im6, lm6, ?_, rfl⟩
                 rw [den_oth hn9, ← hrd, loopP_y2 (f := 0) hq.1 (by rw [hop]; decide)]
                 refine RPO_step h4 hq.1 hag5 hlg5 h6 (by constructor <;> omega) ?_
                 rw [hop]
                 refine Eq.trans ?_ (bi2_12 _ _)
                 first
                   | exact (if_pos (by omega)).symm
                   | exact (if_neg (by omega)).symm)
              | (have hop : opC (tk b n r.1) = -13 := by unfold opC; rw [if_neg (by omega), if_pos (by omega)]
                 refine ⟨_, rfl, im6, lm6, ?_, rfl⟩
                 rw [den_oth hn9, ← hrd, loopP_y2 (f := 0) hq.1 (by rw [hop]; decide)]
                 refine RPO_step h4 hq.1 hag5 hlg5 h6 (by constructor <;> omega) ?_
                 rw [hop]
                 refine Eq.trans ?_ (bi2_13 _ _)
                 first
                   | exact (if_pos (by omega)).symm
                   | exact (if_neg (by omega)).symm)
        · refine q_iload_n (t := 108) F dX9_not1_107 rfl rfl rfl ?_
          refine q_iload_n (t := 109) F dX9_not1_108 rfl rfl rfl ?_
          refine q_icmp_ge (t := 112) (u := 124) F dX9_not1_109 (by exact hra) (by exact hrb) (by decide) rfl (fun c109 => ?_) (fun c109 => ?_)
          · refine q_iconst (t := 125) F dX9_not1_124 rfl ?_
            refine q_iret F dX9_not1_125 rfl ?_
            first
              | (exfalso; omega)
              | (have hop : opC (tk b n r.1) = -12 := by unfold opC; rw [if_pos (by omega)]
                 refine ⟨_, rfl, im6, lm6, ?_, rfl⟩
                 rw [den_oth hn9, ← hrd, loopP_y2 (f := 0) hq.1 (by rw [hop]; decide)]
                 refine RPO_step h4 hq.1 hag5 hlg5 h6 (by constructor <;> omega) ?_
                 rw [hop]
                 refine Eq.trans ?_ (bi2_12 _ _)
                 first
                   | exact (if_pos (by omega)).symm
                   | exact (if_neg (by omega)).symm)
              | (have hop : opC (tk b n r.1) = -13 := by unfold opC; rw [if_neg (by omega), if_pos (by omega)]
                 refine ⟨_, rfl, im6, lm6, ?_, rfl⟩
                 rw [den_oth hn9, ← hrd, loopP_y2 (f := 0) hq.1 (by rw [hop]; decide)]
                 refine RPO_step h4 hq.1 hag5 hlg5 h6 (by constructor <;> omega) ?_
                 rw [hop]
                 refine Eq.trans ?_ (bi2_13 _ _)
                 first
                   | exact (if_pos (by omega)).symm
                   | exact (if_neg (by omega)).symm)
          · refine q_goto (t := 120) F dX9_not1_112 (by decide) ?_
            refine q_iconst (t := 121) F dX9_not1_120 rfl ?_
            refine q_goto (t := 125) F dX9_not1_121 (by decide) ?_
            refine q_iret F dX9_not1_125 rfl ?_
            first
              | (exfalso; omega)
              | (have hop : opC (tk b n r.1) = -12 := by unfold opC; rw [if_pos (by omega)]
                 refine ⟨_, rfl, im6, lm6, ?_, rfl⟩
                 rw [den_oth hn9, ← hrd, loopP_y2 (f := 0) hq.1 (by rw [hop]; decide)]
                 refine RPO_step h4 hq.1 hag5 hlg5 h6 (by constructor <;> omega) ?_
                 rw [hop]
                 refine Eq.trans ?_ (bi2_12 _ _)
                 first
                   | exact (if_pos (by omega)).symm
                   | exact (if_neg (by omega)).symm)
              | (have hop : opC (tk b n r.1) = -13 := by unfold opC; rw [if_neg (by omega), if_pos (by omega)]
                 refine ⟨_, rfl, im6, lm6, ?_, rfl⟩
                 rw [den_oth hn9, ← hrd, loopP_y2 (f := 0) hq.1 (by rw [hop]; decide)]
                 refine RPO_step h4 hq.1 hag5 hlg5 h6 (by constructor <;> omega) ?_
                 rw [hop]
                 refine Eq.trans ?_ (bi2_13 _ _)
                 first
                   | exact (if_pos (by omega)).symm
                   | exact (if_neg (by omega)).symm)
    · refine q_aload_n (t := 67) F dX9_not1_66 rfl rfl rfl ?_
      refine q_bipush (t := 69) F dX9_not1_67 (by decide) rfl ?_
      refine wp_callV (t := 72) [_] F dX9_not1_69 k_X9_isSign v_X9_isSign ml_X9_220 rfl rfl rfl rfl (Nat.le_of_ble_eq_true rfl) (by decide) (m_30 (by omega)) (c_X9_isSign _ G im4 bt rt lm4 b n hb r.1 r.2.1 h4.2.1 61 (by omega) (by omega)) rfl (kI ?_)
      rintro x69 m' ⟨hx69, rfl⟩
      have hx69 := if01 hx69
      refine q_if_ne (t := 75) (u := 77) F dX9_not1_72 (by first | exact hR _ _ _ | (constructor <;> omega)) (by decide) rfl (fun c72 => ?_) (fun c72 => ?_)
      · have hq : r.2.1 = -1 ∧ (tk b n r.1 = 60 ∨ tk b n r.1 = 61) := by omega
        have hlt : r.1 < n := tk_lt (b := b) (by omega)
        have hgd := PG_sumL b n 4 (adv b n r.1) (adv_in hlt).2
        have h11 := h4.2.1
        rw [hq.1] at h11
        have hw1 : lm4 30 0 26 = tk b n r.1 := ((TK_sign (h11.1.1 rfl).2.2 (s := tk b n r.1) (by omega)).mpr rfl).2
        have hcm : cmpI (lm4 30 0 26) 60 = 0 ↔ lm4 30 0 26 = 60 := cmpI_eq
        refine q_aload_n (t := 78) F dX9_not1_77 rfl rfl rfl ?_
        refine g_X9_175 (t := 81) F dX9_not1_78 rfl rfl ?_
        try simp only [up_app, row_app, scr_app, cpy_app, Nat.reduceEqDiff, Int.reduceToNat, Int.toNat_natCast, and_true, true_and, and_false, false_and, and_self, reduceIte]
        refine q_ldc2 (t := 84) (x := 60) F dX9_not1_81 kl_X9_242 (by decide) rfl ?_
        refine q_lcmp (t := 85) F dX9_not1_84 ⟨by omega, by omega⟩ ⟨by omega, by omega⟩ rfl ?_
        refine q_if_ne (t := 88) (u := 92) F dX9_not1_85 (by exact cmpI_ri _ _) (by decide) rfl (fun c85 => ?_) (fun c85 => ?_)
        · refine q_iconst (t := 93) F dX9_not1_92 rfl ?_
          refine q_istore_n (t := 94) F dX9_not1_93 rfl (by decide) rfl rfl ?_
          refine q_aload_n (t := 95) F dX9_not1_94 rfl rfl rfl ?_
          refine wp_callV (t := 98) [] F dX9_not1_95 k_X9_next v_X9_next ml_X9_196 rfl rfl rfl rfl (Nat.le_of_ble_eq_true rfl) (by decide) (m_30 (by omega)) (c_nextQ _ G im4 bt rt lm4 b n hb r.1 h11 hlt (by omega)) rfl (kV ?_)
          rintro m' ⟨im5, lm5, h5, hag5, hlg5, rfl⟩
          refine q_aload_n (t := 99) F dX9_not1_98 rfl rfl rfl ?_
          refine wp_callV (t := 102) [] F dX9_not1_99 k_X9_added1 v_X9_added1 ml_X9_313 rfl rfl rfl rfl (Nat.le_of_ble_eq_true rfl) (by decide) (m_30 (by omega)) (hS im5 lm5 nm (adv b n r.1) (-1) h5 (((hag5.trans h4.2.2.1) 30 0 27 (by omega)).trans h27) (hnm.ag (hag5.trans h4.2.2.1))) rfl (kI ?_)
          rintro xB m' ⟨im6, lm6, h6, rfl⟩
          rw [stP_y] at h6
          have hrb := h6.1
          have hrb1 := hrb.1
          have hrb2 := hrb.2
          refine q_istore_n (t := 103) F dX9_not1_102 rfl (by decide) rfl rfl ?_
          refine q_iload_n (t := 104) F dX9_not1_103 rfl rfl rfl ?_
          refine q_if_eq (t := 107) (u := 115) F dX9_not1_104 (by first | exact hR _ _ _ | (constructor <;> omega)) (by decide) rfl (fun c104 => ?_) (fun c104 => ?_)
          · refine q_iload_n (t := 116) F dX9_not1_115 rfl rfl rfl ?_
            refine q_iload_n (t := 117) F dX9_not1_116 rfl rfl rfl ?_
            refine q_icmp_ne (t := 120) (u := 124) F dX9_not1_117 (by exact hra) (by exact hrb) (by decide) rfl (fun c117 => ?_) (fun c117 => ?_)
            · refine q_iconst (t := 125) F dX9_not1_124 rfl ?_
              refine q_iret F dX9_not1_125 rfl ?_
              first
                | (exfalso; omega)
                | (have hop : opC (tk b n r.1) = -12 := by unfold opC; rw [if_pos (by omega)]
                   refine ⟨_, rfl, im6, lm6, ?_, rfl⟩
                   rw [den_oth hn9, ← hrd, loopP_y2 (f := 0) hq.1 (by rw [hop]; decide)]
                   refine RPO_step h4 hq.1 hag5 hlg5 h6 (by constructor <;> omega) ?_
                   rw [hop]
                   refine Eq.trans ?_ (bi2_12 _ _)
                   first
                     | exact (if_pos (by omega)).symm
                     | exact (if_neg (by omega)).symm)
                | (have hop : opC (tk b n r.1) = -13 := by unfold opC; rw [if_neg (by omega), if_pos (by omega)]
                   refine ⟨_, rfl, im6, lm6, ?_, rfl⟩
                   rw [den_oth hn9, ← hrd, loopP_y2 (f := 0) hq.1 (by rw [hop]; decide)]
                   refine RPO_step h4 hq.1 hag5 hlg5 h6 (by constructor <;> omega) ?_
                   rw [hop]
                   refine Eq.trans ?_ (bi2_13 _ _)
                   first
                     | exact (if_pos (by omega)).symm
                     | exact (if_neg (by omega)).symm)
            · refine q_iconst (t := 121) F dX9_not1_120 rfl ?_
              refine q_goto (t := 125) F dX9_not1_121 (by decide) ?_
              refine q_iret F dX9_not1_125 rfl ?_
              first
                | (exfalso; omega)
                | (have hop : opC (tk b n r.1) = -12 := by unfold opC; rw [if_pos (by omega)]
                   refine ⟨_, rfl, im6, lm6, ?_, rfl⟩
                   rw [den_oth hn9, ← hrd, loopP_y2 (f := 0) hq.1 (by rw [hop]; decide)]
                   refine RPO_step h4 hq.1 hag5 hlg5 h6 (by constructor <;> omega) ?_
                   rw [hop]
                   refine Eq.trans ?_ (bi2_12 _ _)
                   first
                     | exact (if_pos (by omega)).symm
                     | exact (if_neg (by omega)).symm)
                | (have hop : opC (tk b n r.1) = -13 := by unfold opC; rw [if_neg (by omega), if_pos (by omega)]
                   refine ⟨_, rfl, im6, lm6, ?_, rfl⟩
                   rw [den_oth hn9, ← hrd, loopP_y2 (f := 0) hq.1 (by rw [hop]; decide)]
                   refine RPO_step h4 hq.1 hag5 hlg5 h6 (by constructor <;> omega) ?_
                   rw [hop]
                   refine Eq.trans ?_ (bi2_13 _ _)
                   first
                     | exact (if_pos (by omega)).symm
                     | exact (if_neg (by omega)).symm)
          · refine q_iload_n (t := 108) F dX9_not1_107 rfl rfl rfl ?_
            refine q_iload_n (t := 109) F dX9_not1_108 rfl rfl rfl ?_
            refine q_icmp_ge (t := 112) (u := 124) F dX9_not1_109 (by exact hra) (by exact hrb) (by decide) rfl (fun c109 => ?_) (fun c109 => ?_)
            · refine q_iconst (t := 125) F dX9_not1_124 rfl ?_
              refine q_iret F dX9_not1_125 rfl ?_
              first
                | (exfalso; omega)
                | (have hop : opC (tk b n r.1) = -12 := by unfold opC; rw [if_pos (by omega)]
                   refine ⟨_, rfl, im6, lm6, ?_, rfl⟩
                   rw [den_oth hn9, ← hrd, loopP_y2 (f := 0) hq.1 (by rw [hop]; decide)]
                   refine RPO_step h4 hq.1 hag5 hlg5 h6 (by constructor <;> omega) ?_
                   rw [hop]
                   refine Eq.trans ?_ (bi2_12 _ _)
                   first
                     | exact (if_pos (by omega)).symm
                     | exact (if_neg (by omega)).symm)
                | (have hop : opC (tk b n r.1) = -13 := by unfold opC; rw [if_neg (by omega), if_pos (by omega)]
                   refine ⟨_, rfl, im6, lm6, ?_, rfl⟩
                   rw [den_oth hn9, ← hrd, loopP_y2 (f := 0) hq.1 (by rw [hop]; decide)]
                   refine RPO_step h4 hq.1 hag5 hlg5 h6 (by constructor <;> omega) ?_
                   rw [hop]
                   refine Eq.trans ?_ (bi2_13 _ _)
                   first
                     | exact (if_pos (by omega)).symm
                     | exact (if_neg (by omega)).symm)
            · refine q_goto (t := 120) F dX9_not1_112 (by decide) ?_
              refine q_iconst (t := 121) F dX9_not1_120 rfl ?_
              refine q_goto (t := 125) F dX9_not1_121 (by decide) ?_
              refine q_iret F dX9_not1_125 rfl ?_
              first
                | (exfalso; omega)
                | (have hop : opC (tk b n r.1) = -12 := by unfold opC; rw [if_pos (by omega)]
                   refine ⟨_, rfl, im6, lm6, ?_, rfl⟩
                   rw [den_oth hn9, ← hrd, loopP_y2 (f := 0) hq.1 (by rw [hop]; decide)]
                   refine RPO_step h4 hq.1 hag5 hlg5 h6 (by constructor <;> omega) ?_
                   rw [hop]
                   refine Eq.trans ?_ (bi2_12 _ _)
                   first
                     | exact (if_pos (by omega)).symm
                     | exact (if_neg (by omega)).symm)
                | (have hop : opC (tk b n r.1) = -13 := by unfold opC; rw [if_neg (by omega), if_pos (by omega)]
                   refine ⟨_, rfl, im6, lm6, ?_, rfl⟩
                   rw [den_oth hn9, ← hrd, loopP_y2 (f := 0) hq.1 (by rw [hop]; decide)]
                   refine RPO_step h4 hq.1 hag5 hlg5 h6 (by constructor <;> omega) ?_
                   rw [hop]
                   refine Eq.trans ?_ (bi2_13 _ _)
                   first
                     | exact (if_pos (by omega)).symm
                     | exact (if_neg (by omega)).symm)
        · refine q_iconst (t := 89) F dX9_not1_88 rfl ?_
          refine q_goto (t := 93) F dX9_not1_89 (by decide) ?_
          refine q_istore_n (t := 94) F dX9_not1_93 rfl (by decide) rfl rfl ?_
          refine q_aload_n (t := 95) F dX9_not1_94 rfl rfl rfl ?_
          refine wp_callV (t := 98) [] F dX9_not1_95 k_X9_next v_X9_next ml_X9_196 rfl rfl rfl rfl (Nat.le_of_ble_eq_true rfl) (by decide) (m_30 (by omega)) (c_nextQ _ G im4 bt rt lm4 b n hb r.1 h11 hlt (by omega)) rfl (kV ?_)
          rintro m' ⟨im5, lm5, h5, hag5, hlg5, rfl⟩
          refine q_aload_n (t := 99) F dX9_not1_98 rfl rfl rfl ?_
          refine wp_callV (t := 102) [] F dX9_not1_99 k_X9_added1 v_X9_added1 ml_X9_313 rfl rfl rfl rfl (Nat.le_of_ble_eq_true rfl) (by decide) (m_30 (by omega)) (hS im5 lm5 nm (adv b n r.1) (-1) h5 (((hag5.trans h4.2.2.1) 30 0 27 (by omega)).trans h27) (hnm.ag (hag5.trans h4.2.2.1))) rfl (kI ?_)
          rintro xB m' ⟨im6, lm6, h6, rfl⟩
          rw [stP_y] at h6
          have hrb := h6.1
          have hrb1 := hrb.1
          have hrb2 := hrb.2
          refine q_istore_n (t := 103) F dX9_not1_102 rfl (by decide) rfl rfl ?_
          refine q_iload_n (t := 104) F dX9_not1_103 rfl rfl rfl ?_
          refine q_if_eq (t := 107) (u := 115) F dX9_not1_104 (by first | exact hR _ _ _ | (constructor <;> omega)) (by decide) rfl (fun c104 => ?_) (fun c104 => ?_)
          · refine q_iload_n (t := 116) F dX9_not1_115 rfl rfl rfl ?_
            refine q_iload_n (t := 117) F dX9_not1_116 rfl rfl rfl ?_
            refine q_icmp_ne (t := 120) (u := 124) F dX9_not1_117 (by exact hra) (by exact hrb) (by decide) rfl (fun c117 => ?_) (fun c117 => ?_)
            · refine q_iconst (t := 125) F dX9_not1_124 rfl ?_
              refine q_iret F dX9_not1_125 rfl ?_
              first
                | (exfalso; omega)
                | (have hop : opC (tk b n r.1) = -12 := by unfold opC; rw [if_pos (by omega)]
                   refine ⟨_, rfl, im6, lm6, ?_, rfl⟩
                   rw [den_oth hn9, ← hrd, loopP_y2 (f := 0) hq.1 (by rw [hop]; decide)]
                   refine RPO_step h4 hq.1 hag5 hlg5 h6 (by constructor <;> omega) ?_
                   rw [hop]
                   refine Eq.trans ?_ (bi2_12 _ _)
                   first
                     | exact (if_pos (by omega)).symm
                     | exact (if_neg (by omega)).symm)
                | (have hop : opC (tk b n r.1) = -13 := by unfold opC; rw [if_neg (by omega), if_pos (by omega)]
                   refine ⟨_, rfl, im6, lm6, ?_, rfl⟩
                   rw [den_oth hn9, ← hrd, loopP_y2 (f := 0) hq.1 (by rw [hop]; decide)]
                   refine RPO_step h4 hq.1 hag5 hlg5 h6 (by constructor <;> omega) ?_
                   rw [hop]
                   refine Eq.trans ?_ (bi2_13 _ _)
                   first
                     | exact (if_pos (by omega)).symm
                     | exact (if_neg (by omega)).symm)
            · refine q_iconst (t := 121) F dX9_not1_120 rfl ?_
              refine q_goto (t := 125) F dX9_not1_121 (by decide) ?_
              refine q_iret F dX9_not1_125 rfl ?_
              first
                | (exfalso; omega)
                | (have hop : opC (tk b n r.1) = -12 := by unfold opC; rw [if_pos (by omega)]
                   refine ⟨_, rfl, im6, lm6, ?_, rfl⟩
                   rw [den_oth hn9, ← hrd, loopP_y2 (f := 0) hq.1 (by rw [hop]; decide)]
                   refine RPO_step h4 hq.1 hag5 hlg5 h6 (by constructor <;> omega) ?_
                   rw [hop]
                   refine Eq.trans ?_ (bi2_12 _ _)
                   first
                     | exact (if_pos (by omega)).symm
                     | exact (if_neg (by omega)).symm)
                | (have hop : opC (tk b n r.1) = -13 := by unfold opC; rw [if_neg (by omega), if_pos (by omega)]
                   refine ⟨_, rfl, im6, lm6, ?_, rfl⟩
                   rw [den_oth hn9, ← hrd, loopP_y2 (f := 0) hq.1 (by rw [hop]; decide)]
                   refine RPO_step h4 hq.1 hag5 hlg5 h6 (by constructor <;> omega) ?_
                   rw [hop]
                   refine Eq.trans ?_ (bi2_13 _ _)
                   first
                     | exact (if_pos (by omega)).symm
                     | exact (if_neg (by omega)).symm)
          · refine q_iload_n (t := 108) F dX9_not1_107 rfl rfl rfl ?_
            refine q_iload_n (t := 109) F dX9_not1_108 rfl rfl rfl ?_
            refine q_icmp_ge (t := 112) (u := 124) F dX9_not1_109 (by exact hra) (by exact hrb) (by decide) rfl (fun c109 => ?_) (fun c109 => ?_)
            · refine q_iconst (t := 125) F dX9_not1_124 rfl ?_
              refine q_iret F dX9_not1_125 rfl ?_
              first
                | (exfalso; omega)
                | (have hop : opC (tk b n r.1) = -12 := by unfold opC; rw [if_pos (by omega)]
                   refine ⟨_, rfl, im6, lm6, ?_, rfl⟩
                   rw [den_oth hn9, ← hrd, loopP_y2 (f := 0) hq.1 (by rw [hop]; decide)]
                   refine RPO_step h4 hq.1 hag5 hlg5 h6 (by constructor <;> omega) ?_
                   rw [hop]
                   refine Eq.trans ?_ (bi2_12 _ _)
                   first
                     | exact (if_pos (by omega)).symm
                     | exact (if_neg (by omega)).symm)
                | (have hop : opC (tk b n r.1) = -13 := by unfold opC; rw [if_neg (by omega), if_pos (by omega)]
                   refine ⟨_, rfl, im6, lm6, ?_, rfl⟩
                   rw [den_oth hn9, ← hrd, loopP_y2 (f := 0) hq.1 (by rw [hop]; decide)]
                   refine RPO_step h4 hq.1 hag5 hlg5 h6 (by constructor <;> omega) ?_
                   rw [hop]
                   refine Eq.trans ?_ (bi2_13 _ _)
                   first
                     | exact (if_pos (by omega)).symm
                     | exact (if_neg (by omega)).symm)
            · refine q_goto (t := 120) F dX9_not1_112 (by decide) ?_
              refine q_iconst (t := 121) F dX9_not1_120 rfl ?_
              refine q_goto (t := 125) F dX9_not1_121 (by decide) ?_
              refine q_iret F dX9_not1_125 rfl ?_
              first
                | (exfalso; omega)
                | (have hop : opC (tk b n r.1) = -12 := by unfold opC; rw [if_pos (by omega)]
                   refine ⟨_, rfl, im6, lm6, ?_, rfl⟩
                   rw [den_oth hn9, ← hrd, loopP_y2 (f := 0) hq.1 (by rw [hop]; decide)]
                   refine RPO_step h4 hq.1 hag5 hlg5 h6 (by constructor <;> omega) ?_
                   rw [hop]
                   refine Eq.trans ?_ (bi2_12 _ _)
                   first
                     | exact (if_pos (by omega)).symm
                     | exact (if_neg (by omega)).symm)
                | (have hop : opC (tk b n r.1) = -13 := by unfold opC; rw [if_neg (by omega), if_pos (by omega)]
                   refine ⟨_, rfl, im6, lm6, ?_, rfl⟩
                   rw [den_oth hn9, ← hrd, loopP_y2 (f := 0) hq.1 (by rw [hop]; decide)]
                   refine RPO_step h4 hq.1 hag5 hlg5 h6 (by constructor <;> omega) ?_
                   rw [hop]
                   refine Eq.trans ?_ (bi2_13 _ _)
                   first
                     | exact (if_pos (by omega)).symm
                     | exact (if_neg (by omega)).symm)
      · refine q_iload_n (t := 76) F dX9_not1_75 rfl rfl rfl ?_
        refine q_iret F dX9_not1_76 rfl ?_
        refine ⟨xA, rfl, im4, lm4, ?_, rfl⟩
        rw [den_oth hn9, ← hrd, loopP_n (fun q => ?_)]
        · exact h4
        · have q1 := q.1
          have q2 := q.2
          unfold opC at q2
          rw [if_neg (by omega), if_neg (by omega)] at q2
          exact q2 rfl
  · have hf : f = -1 := by omega
    subst hf
    have hlt : p < n := tk_lt (b := b) (by omega)
    have ht9 : tk b n p = 9 := by omega
    refine q_aload_n (t := 19) F dX9_not1_18 rfl rfl rfl ?_
    refine wp_callV (t := 22) [] F dX9_not1_19 k_X9_opens v_X9_opens ml_X9_223 rfl rfl rfl rfl (Nat.le_of_ble_eq_true rfl) (by decide) (m_30 (by omega)) (c_X9_opens _ G im bt rt lm b n hb p h hlt (by omega) 1 (by omega) h27) rfl (kI ?_)
    rintro x19 m' (⟨q, -⟩ | ⟨-, rfl, im2, lm2, h2, h227, hag, hlg, rfl⟩)
    · exact absurd q (by omega)
    refine q_if_ne (t := 25) (u := 27) F dX9_not1_22 (by first | exact hR _ _ _ | (constructor <;> omega)) (by decide) rfl (fun c22 => ?_) (fun c22 => ?_)
    · refine q_aload_n (t := 28) F dX9_not1_27 rfl rfl rfl ?_
      refine wp_callV (t := 31) [] F dX9_not1_28 k_X9_not2 v_X9_not2 ml_X9_298 rfl rfl rfl rfl (Nat.le_of_ble_eq_true rfl) (by decide) (m_30 (by omega)) (hN im2 lm2 nm (adv b n p) (-1) h2 (by omega) (hnm.ag27 hag)) rfl (kI ?_)
      rintro x28 m' ⟨im3, lm3, h3, rfl⟩
      rw [stP_y] at h3
      have hrv := h3.1
      have hrv1 := hrv.1
      have hrv2 := hrv.2
      refine q_istore_n (t := 32) F dX9_not1_31 rfl (by decide) rfl rfl ?_
      refine q_aload_n (t := 33) F dX9_not1_32 rfl rfl rfl ?_
      refine q_dupR (t := 34) F dX9_not1_33 rfl ?_
      refine g_X9_190 (t := 37) F dX9_not1_34 rfl rfl ?_
      try simp only [up_app, row_app, scr_app, cpy_app, Nat.reduceEqDiff, Int.reduceToNat, Int.toNat_natCast, and_true, true_and, and_false, false_and, and_self, reduceIte]
      refine q_iconst (t := 38) F dX9_not1_37 rfl ?_
      refine q_isub (t := 39) F dX9_not1_38 rfl ?_
      rw [show im3 30 0 27 - 1 = ((1 : Nat) : Int) by rw [h3.2.2.1 30 0 27 (by omega)]; omega]
      refine p_X9_190 (t := 42) F dX9_not1_39 rfl rfl ?_
      refine q_iload_n (t := 43) F dX9_not1_42 rfl rfl rfl ?_
      refine q_if_ne (t := 46) (u := 50) F dX9_not1_43 (by exact hrv) (by decide) rfl (fun c43 => ?_) (fun c43 => ?_)
      · refine q_iconst (t := 51) F dX9_not1_50 rfl ?_
        refine q_iret F dX9_not1_51 rfl ?_
        refine ⟨_, rfl, up im3 30 0 27 ((1 : Nat) : Int), lm3, ?_, rfl⟩
        rw [stP_y, den_not (m := 3) ht9]
        refine RPO_not (by omega) h27 hag hlg h3 ?_
        first
          | exact (if_pos (by omega)).symm
          | exact (if_neg (by omega)).symm
      · refine q_iconst (t := 47) F dX9_not1_46 rfl ?_
        refine q_goto (t := 51) F dX9_not1_47 (by decide) ?_
        refine q_iret F dX9_not1_51 rfl ?_
        refine ⟨_, rfl, up im3 30 0 27 ((1 : Nat) : Int), lm3, ?_, rfl⟩
        rw [stP_y, den_not (m := 3) ht9]
        refine RPO_not (by omega) h27 hag hlg h3 ?_
        first
          | exact (if_pos (by omega)).symm
          | exact (if_neg (by omega)).symm
    · refine q_iconst (t := 26) F dX9_not1_25 rfl ?_
      refine q_iret F dX9_not1_26 rfl ?_
      exfalso; omega

set_option maxHeartbeats 4000000 in
theorem c_X9_both1 (l : Launch) (G : GS)  (bt rt : Nat)  (b : Nat → Int) (n : Nat) (hb : byt b n) (hO : RT l G bt rt b n yX9_not1 Y_X9_not1 (denL b n 4) 1) (im lm : IM) (nm : Nat → Int) (p : Nat) (f : Int) (h : PQ b n im lm p f) (h27 : im 30 0 27 = ((1 : Nat) : Int)) (hnm : NMr im nm) : Cn l (XR G) yX9_both1 Y_X9_both1 [vR 30 0] (im, rs bt rt, lm) (pI fun x m' => ∃ im' lm', RPO b n im lm nm (stP (bothL b n 4) p f) x im' lm' ∧ m' = (im', rs bt rt, lm')) := by
  refine cn_of (by decide) (okR G) rfl (Nat.le_of_ble_eq_true rfl) ?_
  intro M ad hMl F
  subst hMl
  have hn := hb.1
  have hR := h.2.1
  refine wp_pad 2 ?_
  show Wp M (XR G) ad Y_X9_both1 (pI fun x m' => ∃ im' lm', RPO b n im lm nm (stP (bothL b n 4) p f) x im' lm' ∧ m' = (im', rs bt rt, lm')) 0 [some (vR 30 0), none, none] [] (im, rs bt rt, lm)
  refine q_aload_n (t := 1) F dX9_both1_0 rfl rfl rfl ?_
  refine wp_callV (t := 4) [] F dX9_both1_1 k_X9_not1 v_X9_not1 ml_X9_316 rfl rfl rfl rfl (Nat.le_of_ble_eq_true rfl) (by decide) (m_30 (by omega)) (hO im lm nm p f h h27 hnm) rfl (kI ?_)
  rintro x1 m' ⟨im0, lm0, h0, rfl⟩
  refine q_istore_n (t := 5) F dX9_both1_4 rfl (by decide) rfl rfl ?_
  have L5 : ∀ (fz : Nat) (k : Nat) (r : PT) (v : Int) (im1 lm1 : IM), k < fz → loopP b n opA (denL b n 4) 160 (stP (denL b n 4) p f) = loopP b n opA (denL b n 4) k r → n - r.1 ≤ k → RPO b n im lm nm r v im1 lm1 → Wp M (XR G) ad Y_X9_both1 (pI fun x m' => ∃ im' lm', RPO b n im lm nm (stP (bothL b n 4) p f) x im' lm' ∧ m' = (im', rs bt rt, lm')) 5 [some (vR 30 0), some (vI v), none] [] (im1, rs bt rt, lm1) := by
    intro fz
    induction fz with
    | zero => intro k r v im1 lm1 h; exact absurd h (Nat.not_lt_zero _)
    | succ fz ih =>
      have ih5 := ih
      intro k r v im1 lm1 hmeas hlp hk hr
      have hti := tk_in b n r.1
      have hb1 := hr.2.1.b01
      have hrv := hr.1
      have hrv1 := hrv.1
      have hrv2 := hrv.2
      refine q_aload_n (t := 6) F dX9_both1_5 rfl rfl rfl ?_
      refine q_bipush (t := 8) F dX9_both1_6 (by decide) rfl ?_
      refine q_bipush (t := 10) F dX9_both1_8 (by decide) rfl ?_
      refine q_bipush (t := 12) F dX9_both1_10 (by decide) rfl ?_
      refine q_iconst (t := 13) F dX9_both1_12 rfl ?_
      refine q_iconst (t := 14) F dX9_both1_13 rfl ?_
      refine q_iconst (t := 15) F dX9_both1_14 rfl ?_
      refine q_iconst (t := 16) F dX9_both1_15 rfl ?_
      refine q_iconst (t := 17) F dX9_both1_16 rfl ?_
      refine wp_callV (t := 20) [_, _, _, _, _, _, _, _] F dX9_both1_17 k_X9_isWord_ v_X9_isWord_ ml_X9_199 rfl rfl rfl rfl (Nat.le_of_ble_eq_true rfl) (by decide) (m_30 (by omega)) (c_isKey _ G im1 bt rt lm1 b n hb r.1 r.2.1 hr.2.1 10 (by omega) (by omega) 8 (by omega) _ _ _ _ _ _ _ _ (by decide)) rfl (kI ?_)
      rintro x17 m' ⟨hx17, rfl⟩
      have hx17 := if01 hx17
      refine q_if_eq (t := 23) (u := 49) F dX9_both1_20 (by first | exact hR _ _ _ | (constructor <;> omega)) (by decide) rfl (fun c20 => ?_) (fun c20 => ?_)
      · refine q_iload_n (t := 50) F dX9_both1_49 rfl rfl rfl ?_
        refine q_iret F dX9_both1_50 rfl ?_
        have e : stP (bothL b n 4) p f = r := by
          have e0 : stP (bothL b n 4) p f = loopP b n opA (denL b n 4) 160 (stP (denL b n 4) p f) := stP_loop (F := denL b n 4) (k := 160)
          rw [e0, hlp]
          refine loopP_n (fun q => ?_)
          have q1 := q.1
          have q2 := q.2
          unfold opA at q2
          rw [if_neg (by omega)] at q2
          exact q2 rfl
        exact ⟨v, rfl, im1, lm1, by rw [e]; exact hr, rfl⟩
      · have hq : r.2.1 = -1 ∧ tk b n r.1 = 8 := by omega
        have hlt : r.1 < n := tk_lt (b := b) (by omega)
        have hop : opA (tk b n r.1) = -14 := by unfold opA; rw [if_pos hq.2]
        have hgd := PG_den b n 4 (adv b n r.1) (adv_in hlt).2
        have had := (adv_in (b := b) hlt).1
        have h11 := hr.2.1
        rw [hq.1] at h11
        refine q_aload_n (t := 24) F dX9_both1_23 rfl rfl rfl ?_
        refine wp_callV (t := 27) [] F dX9_both1_24 k_X9_next v_X9_next ml_X9_196 rfl rfl rfl rfl (Nat.le_of_ble_eq_true rfl) (by decide) (m_30 (by omega)) (c_nextQ _ G im1 bt rt lm1 b n hb r.1 h11 hlt (by omega)) rfl (kV ?_)
        rintro m' ⟨im2, lm2, h2, hag2, hlg2, rfl⟩
        refine q_aload_n (t := 28) F dX9_both1_27 rfl rfl rfl ?_
        refine wp_callV (t := 31) [] F dX9_both1_28 k_X9_not1 v_X9_not1 ml_X9_316 rfl rfl rfl rfl (Nat.le_of_ble_eq_true rfl) (by decide) (m_30 (by omega)) (hO im2 lm2 nm (adv b n r.1) (-1) h2 (((hag2.trans hr.2.2.1) 30 0 27 (by omega)).trans h27) (hnm.ag (hag2.trans hr.2.2.1))) rfl (kI ?_)
        rintro x28 m' ⟨im3, lm3, h3, rfl⟩
        rw [stP_y] at h3
        refine q_istore_n (t := 32) F dX9_both1_31 rfl (by decide) rfl rfl ?_
        refine q_iload_n (t := 33) F dX9_both1_32 rfl rfl rfl ?_
        refine q_if_eq (t := 36) (u := 44) F dX9_both1_33 (by exact hrv) (by decide) rfl (fun c33 => ?_) (fun c33 => ?_)
        · refine q_iconst (t := 45) F dX9_both1_44 rfl ?_
          refine q_istore_n (t := 46) F dX9_both1_45 rfl (by decide) rfl rfl ?_
          refine q_goto (t := 5) F dX9_both1_46 (by decide) ?_
          refine wp_less 2 ?_
          refine ih5 (k - 1) (lpS b n opA (denL b n 4) r) _ im3 lm3 (by omega) ?_ ?_ (RPO_step hr hq.1 hag2 hlg2 h3 (by constructor <;> omega) (by rw [hop]; refine Eq.trans ?_ (bi2_14 _ _); first | exact (if_pos (by omega)).symm | exact (if_neg (by omega)).symm))
          · rw [hlp]
            obtain ⟨k', hk'⟩ : ∃ k', k = k' + 1 := ⟨k - 1, by omega⟩
            rw [hk', loopP_y2 hq.1 (by rw [hop]; decide)]
            rfl
          · have := hgd.1
            show n - (denL b n 4 (adv b n r.1)).1 ≤ k - 1
            omega
        · refine q_iload_n (t := 37) F dX9_both1_36 rfl rfl rfl ?_
          refine q_if_eq (t := 40) (u := 44) F dX9_both1_37 (by exact h3.1) (by decide) rfl (fun c37 => ?_) (fun c37 => ?_)
          · refine q_iconst (t := 45) F dX9_both1_44 rfl ?_
            refine q_istore_n (t := 46) F dX9_both1_45 rfl (by decide) rfl rfl ?_
            refine q_goto (t := 5) F dX9_both1_46 (by decide) ?_
            refine wp_less 2 ?_
            refine ih5 (k - 1) (lpS b n opA (denL b n 4) r) _ im3 lm3 (by omega) ?_ ?_ (RPO_step hr hq.1 hag2 hlg2 h3 (by constructor <;> omega) (by rw [hop]; refine Eq.trans ?_ (bi2_14 _ _); first | exact (if_pos (by omega)).symm | exact (if_neg (by omega)).symm))
            · rw [hlp]
              obtain ⟨k', hk'⟩ : ∃ k', k = k' + 1 := ⟨k - 1, by omega⟩
              rw [hk', loopP_y2 hq.1 (by rw [hop]; decide)]
              rfl
            · have := hgd.1
              show n - (denL b n 4 (adv b n r.1)).1 ≤ k - 1
              omega
          · refine q_iconst (t := 41) F dX9_both1_40 rfl ?_
            refine q_goto (t := 45) F dX9_both1_41 (by decide) ?_
            refine q_istore_n (t := 46) F dX9_both1_45 rfl (by decide) rfl rfl ?_
            refine q_goto (t := 5) F dX9_both1_46 (by decide) ?_
            refine wp_less 2 ?_
            refine ih5 (k - 1) (lpS b n opA (denL b n 4) r) _ im3 lm3 (by omega) ?_ ?_ (RPO_step hr hq.1 hag2 hlg2 h3 (by constructor <;> omega) (by rw [hop]; refine Eq.trans ?_ (bi2_14 _ _); first | exact (if_pos (by omega)).symm | exact (if_neg (by omega)).symm))
            · rw [hlp]
              obtain ⟨k', hk'⟩ : ∃ k', k = k' + 1 := ⟨k - 1, by omega⟩
              rw [hk', loopP_y2 hq.1 (by rw [hop]; decide)]
              rfl
            · have := hgd.1
              show n - (denL b n 4 (adv b n r.1)).1 ≤ k - 1
              omega
  refine wp_less 2 ?_
  exact L5 _ 160 _ _ _ _ (Nat.lt_succ_self _) rfl (by omega) h0

set_option maxHeartbeats 4000000 in
theorem c_X9_either1 (l : Launch) (G : GS)  (bt rt : Nat)  (b : Nat → Int) (n : Nat) (hb : byt b n) (hO : RT l G bt rt b n yX9_both1 Y_X9_both1 (bothL b n 4) 1) (im lm : IM) (nm : Nat → Int) (p : Nat) (f : Int) (h : PQ b n im lm p f) (h27 : im 30 0 27 = ((1 : Nat) : Int)) (hnm : NMr im nm) : Cn l (XR G) yX9_either1 Y_X9_either1 [vR 30 0] (im, rs bt rt, lm) (pI fun x m' => ∃ im' lm', RPO b n im lm nm (stP (eitL b n 4) p f) x im' lm' ∧ m' = (im', rs bt rt, lm')) := by
  refine cn_of (by decide) (okR G) rfl (Nat.le_of_ble_eq_true rfl) ?_
  intro M ad hMl F
  subst hMl
  have hn := hb.1
  have hR := h.2.1
  refine wp_pad 2 ?_
  show Wp M (XR G) ad Y_X9_either1 (pI fun x m' => ∃ im' lm', RPO b n im lm nm (stP (eitL b n 4) p f) x im' lm' ∧ m' = (im', rs bt rt, lm')) 0 [some (vR 30 0), none, none] [] (im, rs bt rt, lm)
  refine q_aload_n (t := 1) F dX9_either1_0 rfl rfl rfl ?_
  refine wp_callV (t := 4) [] F dX9_either1_1 k_X9_both1 v_X9_both1 ml_X9_319 rfl rfl rfl rfl (Nat.le_of_ble_eq_true rfl) (by decide) (m_30 (by omega)) (hO im lm nm p f h h27 hnm) rfl (kI ?_)
  rintro x1 m' ⟨im0, lm0, h0, rfl⟩
  refine q_istore_n (t := 5) F dX9_either1_4 rfl (by decide) rfl rfl ?_
  have L5 : ∀ (fz : Nat) (k : Nat) (r : PT) (v : Int) (im1 lm1 : IM), k < fz → loopP b n opO (bothL b n 4) 160 (stP (bothL b n 4) p f) = loopP b n opO (bothL b n 4) k r → n - r.1 ≤ k → RPO b n im lm nm r v im1 lm1 → Wp M (XR G) ad Y_X9_either1 (pI fun x m' => ∃ im' lm', RPO b n im lm nm (stP (eitL b n 4) p f) x im' lm' ∧ m' = (im', rs bt rt, lm')) 5 [some (vR 30 0), some (vI v), none] [] (im1, rs bt rt, lm1) := by
    intro fz
    induction fz with
    | zero => intro k r v im1 lm1 h; exact absurd h (Nat.not_lt_zero _)
    | succ fz ih =>
      have ih5 := ih
      intro k r v im1 lm1 hmeas hlp hk hr
      have hti := tk_in b n r.1
      have hb1 := hr.2.1.b01
      have hrv := hr.1
      have hrv1 := hrv.1
      have hrv2 := hrv.2
      refine q_aload_n (t := 6) F dX9_either1_5 rfl rfl rfl ?_
      refine q_bipush (t := 8) F dX9_either1_6 (by decide) rfl ?_
      refine q_bipush (t := 10) F dX9_either1_8 (by decide) rfl ?_
      refine q_iconst (t := 11) F dX9_either1_10 rfl ?_
      refine q_iconst (t := 12) F dX9_either1_11 rfl ?_
      refine q_iconst (t := 13) F dX9_either1_12 rfl ?_
      refine q_iconst (t := 14) F dX9_either1_13 rfl ?_
      refine q_iconst (t := 15) F dX9_either1_14 rfl ?_
      refine q_iconst (t := 16) F dX9_either1_15 rfl ?_
      refine wp_callV (t := 19) [_, _, _, _, _, _, _, _] F dX9_either1_16 k_X9_isWord_ v_X9_isWord_ ml_X9_199 rfl rfl rfl rfl (Nat.le_of_ble_eq_true rfl) (by decide) (m_30 (by omega)) (c_isKey _ G im1 bt rt lm1 b n hb r.1 r.2.1 hr.2.1 9 (by omega) (by omega) 7 (by omega) _ _ _ _ _ _ _ _ (by decide)) rfl (kI ?_)
      rintro x16 m' ⟨hx16, rfl⟩
      have hx16 := if01 hx16
      refine q_if_eq (t := 22) (u := 48) F dX9_either1_19 (by first | exact hR _ _ _ | (constructor <;> omega)) (by decide) rfl (fun c19 => ?_) (fun c19 => ?_)
      · refine q_iload_n (t := 49) F dX9_either1_48 rfl rfl rfl ?_
        refine q_iret F dX9_either1_49 rfl ?_
        have e : stP (eitL b n 4) p f = r := by
          have e0 : stP (eitL b n 4) p f = loopP b n opO (bothL b n 4) 160 (stP (bothL b n 4) p f) := stP_loop (F := bothL b n 4) (k := 160)
          rw [e0, hlp]
          refine loopP_n (fun q => ?_)
          have q1 := q.1
          have q2 := q.2
          unfold opO at q2
          rw [if_neg (by omega)] at q2
          exact q2 rfl
        exact ⟨v, rfl, im1, lm1, by rw [e]; exact hr, rfl⟩
      · have hq : r.2.1 = -1 ∧ tk b n r.1 = 7 := by omega
        have hlt : r.1 < n := tk_lt (b := b) (by omega)
        have hop : opO (tk b n r.1) = -15 := by unfold opO; rw [if_pos hq.2]
        have hgd := PG_bothL b n 4 (adv b n r.1) (adv_in hlt).2
        have had := (adv_in (b := b) hlt).1
        have h11 := hr.2.1
        rw [hq.1] at h11
        refine q_aload_n (t := 23) F dX9_either1_22 rfl rfl rfl ?_
        refine wp_callV (t := 26) [] F dX9_either1_23 k_X9_next v_X9_next ml_X9_196 rfl rfl rfl rfl (Nat.le_of_ble_eq_true rfl) (by decide) (m_30 (by omega)) (c_nextQ _ G im1 bt rt lm1 b n hb r.1 h11 hlt (by omega)) rfl (kV ?_)
        rintro m' ⟨im2, lm2, h2, hag2, hlg2, rfl⟩
        refine q_aload_n (t := 27) F dX9_either1_26 rfl rfl rfl ?_
        refine wp_callV (t := 30) [] F dX9_either1_27 k_X9_both1 v_X9_both1 ml_X9_319 rfl rfl rfl rfl (Nat.le_of_ble_eq_true rfl) (by decide) (m_30 (by omega)) (hO im2 lm2 nm (adv b n r.1) (-1) h2 (((hag2.trans hr.2.2.1) 30 0 27 (by omega)).trans h27) (hnm.ag (hag2.trans hr.2.2.1))) rfl (kI ?_)
        rintro x27 m' ⟨im3, lm3, h3, rfl⟩
        rw [stP_y] at h3
        refine q_istore_n (t := 31) F dX9_either1_30 rfl (by decide) rfl rfl ?_
        refine q_iload_n (t := 32) F dX9_either1_31 rfl rfl rfl ?_
        refine q_if_ne (t := 35) (u := 39) F dX9_either1_32 (by exact hrv) (by decide) rfl (fun c32 => ?_) (fun c32 => ?_)
        · refine q_iconst (t := 40) F dX9_either1_39 rfl ?_
          refine q_goto (t := 44) F dX9_either1_40 (by decide) ?_
          refine q_istore_n (t := 45) F dX9_either1_44 rfl (by decide) rfl rfl ?_
          refine q_goto (t := 5) F dX9_either1_45 (by decide) ?_
          refine wp_less 2 ?_
          refine ih5 (k - 1) (lpS b n opO (bothL b n 4) r) _ im3 lm3 (by omega) ?_ ?_ (RPO_step hr hq.1 hag2 hlg2 h3 (by constructor <;> omega) (by rw [hop]; refine Eq.trans ?_ (bi2_15 _ _); first | exact (if_pos (by omega)).symm | exact (if_neg (by omega)).symm))
          · rw [hlp]
            obtain ⟨k', hk'⟩ : ∃ k', k = k' + 1 := ⟨k - 1, by omega⟩
            rw [hk', loopP_y2 hq.1 (by rw [hop]; decide)]
            rfl
          · have := hgd.1
            show n - (bothL b n 4 (adv b n r.1)).1 ≤ k - 1
            omega
        · refine q_iload_n (t := 36) F dX9_either1_35 rfl rfl rfl ?_
          refine q_if_eq (t := 39) (u := 43) F dX9_either1_36 (by exact h3.1) (by decide) rfl (fun c36 => ?_) (fun c36 => ?_)
          · refine q_iconst (t := 44) F dX9_either1_43 rfl ?_
            refine q_istore_n (t := 45) F dX9_either1_44 rfl (by decide) rfl rfl ?_
            refine q_goto (t := 5) F dX9_either1_45 (by decide) ?_
            refine wp_less 2 ?_
            refine ih5 (k - 1) (lpS b n opO (bothL b n 4) r) _ im3 lm3 (by omega) ?_ ?_ (RPO_step hr hq.1 hag2 hlg2 h3 (by constructor <;> omega) (by rw [hop]; refine Eq.trans ?_ (bi2_15 _ _); first | exact (if_pos (by omega)).symm | exact (if_neg (by omega)).symm))
            · rw [hlp]
              obtain ⟨k', hk'⟩ : ∃ k', k = k' + 1 := ⟨k - 1, by omega⟩
              rw [hk', loopP_y2 hq.1 (by rw [hop]; decide)]
              rfl
            · have := hgd.1
              show n - (bothL b n 4 (adv b n r.1)).1 ≤ k - 1
              omega
          · refine q_iconst (t := 40) F dX9_either1_39 rfl ?_
            refine q_goto (t := 44) F dX9_either1_40 (by decide) ?_
            refine q_istore_n (t := 45) F dX9_either1_44 rfl (by decide) rfl rfl ?_
            refine q_goto (t := 5) F dX9_either1_45 (by decide) ?_
            refine wp_less 2 ?_
            refine ih5 (k - 1) (lpS b n opO (bothL b n 4) r) _ im3 lm3 (by omega) ?_ ?_ (RPO_step hr hq.1 hag2 hlg2 h3 (by constructor <;> omega) (by rw [hop]; refine Eq.trans ?_ (bi2_15 _ _); first | exact (if_pos (by omega)).symm | exact (if_neg (by omega)).symm))
            · rw [hlp]
              obtain ⟨k', hk'⟩ : ∃ k', k = k' + 1 := ⟨k - 1, by omega⟩
              rw [hk', loopP_y2 hq.1 (by rw [hop]; decide)]
              rfl
            · have := hgd.1
              show n - (bothL b n 4 (adv b n r.1)).1 ≤ k - 1
              omega
  refine wp_less 2 ?_
  exact L5 _ 160 _ _ _ _ (Nat.lt_succ_self _) rfl (by omega) h0
