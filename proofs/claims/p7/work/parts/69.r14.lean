/-! the reference: a denial -/

set_option maxHeartbeats 4000000 in
theorem c_X9_not5 (l : Launch) (G : GS)  (bt rt : Nat)  (b : Nat → Int) (n : Nat) (hb : byt b n) (hS : RT l G bt rt b n yX9_added5 Y_X9_added5 (sumL b n 0) 5) (im lm : IM) (nm : Nat → Int) (p : Nat) (f : Int) (h : PQ b n im lm p f) (h27 : im 30 0 27 = ((5 : Nat) : Int)) (hnm : NMr im nm) : Cn l (XR G) yX9_not5 Y_X9_not5 [vR 30 0] (im, rs bt rt, lm) (pI fun x m' => ∃ im' lm', RPO b n im lm nm (stP (denL b n 0) p f) x im' lm' ∧ m' = (im', rs bt rt, lm')) := by
  refine cn_of (by decide) (okR G) rfl (Nat.le_of_ble_eq_true rfl) ?_
  intro M ad hMl F
  subst hMl
  have hn := hb.1
  have hR := h.2.1
  have hbb := h.b01
  have hti0 := tk_in b n p
  refine wp_pad 3 ?_
  show Wp M (XR G) ad Y_X9_not5 (pI fun x m' => ∃ im' lm', RPO b n im lm nm (stP (denL b n 0) p f) x im' lm' ∧ m' = (im', rs bt rt, lm')) 0 [some (vR 30 0), none, none, none] [] (im, rs bt rt, lm)
  refine q_aload_n (t := 1) F dX9_not5_0 rfl rfl rfl ?_
  refine q_bipush (t := 3) F dX9_not5_1 (by decide) rfl ?_
  refine q_bipush (t := 5) F dX9_not5_3 (by decide) rfl ?_
  refine q_bipush (t := 7) F dX9_not5_5 (by decide) rfl ?_
  refine q_iconst (t := 8) F dX9_not5_7 rfl ?_
  refine q_iconst (t := 9) F dX9_not5_8 rfl ?_
  refine q_iconst (t := 10) F dX9_not5_9 rfl ?_
  refine q_iconst (t := 11) F dX9_not5_10 rfl ?_
  refine q_iconst (t := 12) F dX9_not5_11 rfl ?_
  refine wp_callV (t := 15) [_, _, _, _, _, _, _, _] F dX9_not5_12 k_X9_isWord_ v_X9_isWord_ ml_X9_199 rfl rfl rfl rfl (Nat.le_of_ble_eq_true rfl) (by decide) (m_30 (by omega)) (c_isKey _ G im bt rt lm b n hb p f h 11 (by omega) (by omega) 9 (by omega) _ _ _ _ _ _ _ _ (by decide)) rfl (kI ?_)
  rintro x12 m' ⟨hx12, rfl⟩
  have hx12 := if01 hx12
  refine q_if_eq (t := 18) (u := 25) F dX9_not5_15 (by first | exact hR _ _ _ | (constructor <;> omega)) (by decide) rfl (fun c15 => ?_) (fun c15 => ?_)
  · refine q_aload_n (t := 26) F dX9_not5_25 rfl rfl rfl ?_
    refine wp_callV (t := 29) [] F dX9_not5_26 k_X9_added5 v_X9_added5 ml_X9_239 rfl rfl rfl rfl (Nat.le_of_ble_eq_true rfl) (by decide) (m_30 (by omega)) (hS im lm nm p f h h27 hnm) rfl (kI ?_)
    rintro xA m' ⟨im4, lm4, h4, rfl⟩
    have hn9 : f = -1 → tk b n p ≠ 9 := by omega
    obtain ⟨r, hrd⟩ : ∃ r, r = stP (sumL b n 0) p f := ⟨_, rfl⟩
    rw [← hrd] at h4
    have hb4 := h4.2.1.b01
    have hti := tk_in b n r.1
    have hra := h4.1
    have hra1 := hra.1
    have hra2 := hra.2
    refine q_istore_n (t := 30) F dX9_not5_29 rfl (by decide) rfl rfl ?_
    refine q_aload_n (t := 31) F dX9_not5_30 rfl rfl rfl ?_
    refine q_bipush (t := 33) F dX9_not5_31 (by decide) rfl ?_
    refine wp_callV (t := 36) [_] F dX9_not5_33 k_X9_isSign v_X9_isSign ml_X9_220 rfl rfl rfl rfl (Nat.le_of_ble_eq_true rfl) (by decide) (m_30 (by omega)) (c_X9_isSign _ G im4 bt rt lm4 b n hb r.1 r.2.1 h4.2.1 60 (by omega) (by omega)) rfl (kI ?_)
    rintro x33 m' ⟨hx33, rfl⟩
    have hx33 := if01 hx33
    refine q_if_ne (t := 39) (u := 50) F dX9_not5_36 (by first | exact hR _ _ _ | (constructor <;> omega)) (by decide) rfl (fun c36 => ?_) (fun c36 => ?_)
    · have hq : r.2.1 = -1 ∧ (tk b n r.1 = 60 ∨ tk b n r.1 = 61) := by omega
      have hlt : r.1 < n := tk_lt (b := b) (by omega)
      have hgd := PG_sumL b n 0 (adv b n r.1) (adv_in hlt).2
      have h11 := h4.2.1
      rw [hq.1] at h11
      have hw1 : lm4 30 0 26 = tk b n r.1 := ((TK_sign (h11.1.1 rfl).2.2 (s := tk b n r.1) (by omega)).mpr rfl).2
      have hcm : cmpI (lm4 30 0 26) 60 = 0 ↔ lm4 30 0 26 = 60 := cmpI_eq
      refine q_aload_n (t := 51) F dX9_not5_50 rfl rfl rfl ?_
      refine g_X9_175 (t := 54) F dX9_not5_51 rfl rfl ?_
      try simp only [up_app, row_app, scr_app, cpy_app, Nat.reduceEqDiff, Int.reduceToNat, Int.toNat_natCast, and_true, true_and, and_false, false_and, and_self, reduceIte]
      refine q_ldc2 (t := 57) (x := 60) F dX9_not5_54 kl_X9_242 (by decide) rfl ?_
      refine q_lcmp (t := 58) F dX9_not5_57 ⟨by omega, by omega⟩ ⟨by omega, by omega⟩ rfl ?_
      refine q_if_ne (t := 61) (u := 65) F dX9_not5_58 (by exact cmpI_ri _ _) (by decide) rfl (fun c58 => ?_) (fun c58 => ?_)
      · refine q_iconst (t := 66) F dX9_not5_65 rfl ?_
        refine q_istore_n (t := 67) F dX9_not5_66 rfl (by decide) rfl rfl ?_
        refine q_aload_n (t := 68) F dX9_not5_67 rfl rfl rfl ?_
        refine wp_callV (t := 71) [] F dX9_not5_68 k_X9_next v_X9_next ml_X9_196 rfl rfl rfl rfl (Nat.le_of_ble_eq_true rfl) (by decide) (m_30 (by omega)) (c_nextQ _ G im4 bt rt lm4 b n hb r.1 h11 hlt (by omega)) rfl (kV ?_)
        rintro m' ⟨im5, lm5, h5, hag5, hlg5, rfl⟩
        refine q_aload_n (t := 72) F dX9_not5_71 rfl rfl rfl ?_
        refine wp_callV (t := 75) [] F dX9_not5_72 k_X9_added5 v_X9_added5 ml_X9_239 rfl rfl rfl rfl (Nat.le_of_ble_eq_true rfl) (by decide) (m_30 (by omega)) (hS im5 lm5 nm (adv b n r.1) (-1) h5 (((hag5.trans h4.2.2.1) 30 0 27 (by omega)).trans h27) (hnm.ag (hag5.trans h4.2.2.1))) rfl (kI ?_)
        rintro xB m' ⟨im6, lm6, h6, rfl⟩
        rw [stP_y] at h6
        have hrb := h6.1
        have hrb1 := hrb.1
        have hrb2 := hrb.2
        refine q_istore_n (t := 76) F dX9_not5_75 rfl (by decide) rfl rfl ?_
        refine q_iload_n (t := 77) F dX9_not5_76 rfl rfl rfl ?_
        refine q_if_eq (t := 80) (u := 88) F dX9_not5_77 (by first | exact hR _ _ _ | (constructor <;> omega)) (by decide) rfl (fun c77 => ?_) (fun c77 => ?_)
        · refine q_iload_n (t := 89) F dX9_not5_88 rfl rfl rfl ?_
          refine q_iload_n (t := 90) F dX9_not5_89 rfl rfl rfl ?_
          refine q_icmp_ne (t := 93) (u := 97) F dX9_not5_90 (by exact hra) (by exact hrb) (by decide) rfl (fun c90 => ?_) (fun c90 => ?_)
          · refine q_iconst (t := 98) F dX9_not5_97 rfl ?_
            refine q_iret F dX9_not5_98 rfl ?_
            first
              | (exfalso; omega)
              | (have hop : opC (tk b n r.1) = -12 := by unfold opC; rw [if_pos (by omega)]
                 refine ⟨_, rfl, im6, lm6, ?_, rfl⟩
                 rw [den_oth hn9, ← hrd, loopP_y2 (f := 0) hq.1 (by rw [hop]; decide)]
                 refine RPO_step h4 hq.1 hag5 hlg5 h6 (by constructor <;> omega) ?_
                 rw [hop]
                 refine Eq.trans ?_ (bi2_12 _ _)
                 first
                   | exact (if_pos (by omega)).symm
                   | exact (if_neg (by omega)).symm)
              | (have hop : opC (tk b n r.1) = -13 := by unfold opC; rw [if_neg (by omega), if_pos (by omega)]
                 refine ⟨_, rfl, im6, lm6, ?_, rfl⟩
                 rw [den_oth hn9, ← hrd, loopP_y2 (f := 0) hq.1 (by rw [hop]; decide)]
                 refine RPO_step h4 hq.1 hag5 hlg5 h6 (by constructor <;> omega) ?_
                 rw [hop]
                 refine Eq.trans ?_ (bi2_13 _ _)
                 first
                   | exact (if_pos (by omega)).symm
                   | exact (if_neg (by omega)).symm)
          · refine q_iconst (t := 94) F dX9_not5_93 rfl ?_
            refine q_goto (t := 98) F dX9_not5_94 (by decide) ?_
            refine q_iret F dX9_not5_98 rfl ?_
            first
              | (exfalso; omega)
              | (have hop : opC (tk b n r.1) = -12 := by unfold opC; rw [if_pos (by omega)]
                 refine ⟨_, rfl, im6, lm6, ?_, rfl⟩
                 rw [den_oth hn9, ← hrd, loopP_y2 (f := 0) hq.1 (by rw [hop]; decide)]
                 refine RPO_step h4 hq.1 hag5 hlg5 h6 (by constructor <;> omega) ?_
                 rw [hop]
                 refine Eq.trans ?_ (bi2_12 _ _)
                 first
                   | exact (if_pos (by omega)).symm
                   | exact (if_neg (by omega)).symm)
              | (have hop : opC (tk b n r.1) = -13 := by unfold opC; rw [if_neg (by omega), if_pos (by omega)]
                 refine ⟨_, rfl, im6, lm6, ?_, rfl⟩
                 rw [den_oth hn9, ← hrd, loopP_y2 (f := 0) hq.1 (by rw [hop]; decide)]
                 refine RPO_step h4 hq.1 hag5 hlg5 h6 (by constructor <;> omega) ?_
                 rw [hop]
                 refine Eq.trans ?_ (bi2_13 _ _)
                 first
                   | exact (if_pos (by omega)).symm
                   | exact (if_neg (by omega)).symm)
        · refine q_iload_n (t := 81) F dX9_not5_80 rfl rfl rfl ?_
          refine q_iload_n (t := 82) F dX9_not5_81 rfl rfl rfl ?_
          refine q_icmp_ge (t := 85) (u := 97) F dX9_not5_82 (by exact hra) (by exact hrb) (by decide) rfl (fun c82 => ?_) (fun c82 => ?_)
          · refine q_iconst (t := 98) F dX9_not5_97 rfl ?_
            refine q_iret F dX9_not5_98 rfl ?_
            first
              | (exfalso; omega)
              | (have hop : opC (tk b n r.1) = -12 := by unfold opC; rw [if_pos (by omega)]
                 refine ⟨_, rfl, im6, lm6, ?_, rfl⟩
                 rw [den_oth hn9, ← hrd, loopP_y2 (f := 0) hq.1 (by rw [hop]; decide)]
                 refine RPO_step h4 hq.1 hag5 hlg5 h6 (by constructor <;> omega) ?_
                 rw [hop]
                 refine Eq.trans ?_ (bi2_12 _ _)
                 first
                   | exact (if_pos (by omega)).symm
                   | exact (if_neg (by omega)).symm)
              | (have hop : opC (tk b n r.1) = -13 := by unfold opC; rw [if_neg (by omega), if_pos (by omega)]
                 refine ⟨_, rfl, im6, lm6, ?_, rfl⟩
                 rw [den_oth hn9, ← hrd, loopP_y2 (f := 0) hq.1 (by rw [hop]; decide)]
                 refine RPO_step h4 hq.1 hag5 hlg5 h6 (by constructor <;> omega) ?_
                 rw [hop]
                 refine Eq.trans ?_ (bi2_13 _ _)
                 first
                   | exact (if_pos (by omega)).symm
                   | exact (if_neg (by omega)).symm)
          · refine q_goto (t := 93) F dX9_not5_85 (by decide) ?_
            refine q_iconst (t := 94) F dX9_not5_93 rfl ?_
            refine q_goto (t := 98) F dX9_not5_94 (by decide) ?_
            refine q_iret F dX9_not5_98 rfl ?_
            first
              | (exfalso; omega)
              | (have hop : opC (tk b n r.1) = -12 := by unfold opC; rw [if_pos (by omega)]
                 refine ⟨_, rfl, im6, lm6, ?_, rfl⟩
                 rw [den_oth hn9, ← hrd, loopP_y2 (f := 0) hq.1 (by rw [hop]; decide)]
                 refine RPO_step h4 hq.1 hag5 hlg5 h6 (by constructor <;> omega) ?_
                 rw [hop]
                 refine Eq.trans ?_ (bi2_12 _ _)
                 first
                   | exact (if_pos (by omega)).symm
                   | exact (if_neg (by omega)).symm)
              | (have hop : opC (tk b n r.1) = -13 := by unfold opC; rw [if_neg (by omega), if_pos (by omega)]
                 refine ⟨_, rfl, im6, lm6, ?_, rfl⟩
                 rw [den_oth hn9, ← hrd, loopP_y2 (f := 0) hq.1 (by rw [hop]; decide)]
                 refine RPO_step h4 hq.1 hag5 hlg5 h6 (by constructor <;> omega) ?_
                 rw [hop]
                 refine Eq.trans ?_ (bi2_13 _ _)
                 first
                   | exact (if_pos (by omega)).symm
                   | exact (if_neg (by omega)).symm)
      · refine q_iconst (t := 62) F dX9_not5_61 rfl ?_
        refine q_goto (t := 66) F dX9_not5_62 (by decide) ?_
        refine q_istore_n (t := 67) F dX9_not5_66 rfl (by decide) rfl rfl ?_
        refine q_aload_n (t := 68) F dX9_not5_67 rfl rfl rfl ?_
        refine wp_callV (t := 71) [] F dX9_not5_68 k_X9_next v_X9_next ml_X9_196 rfl rfl rfl rfl (Nat.le_of_ble_eq_true rfl) (by decide) (m_30 (by omega)) (c_nextQ _ G im4 bt rt lm4 b n hb r.1 h11 hlt (by omega)) rfl (kV ?_)
        rintro m' ⟨im5, lm5, h5, hag5, hlg5, rfl⟩
        refine q_aload_n (t := 72) F dX9_not5_71 rfl rfl rfl ?_
        refine wp_callV (t := 75) [] F dX9_not5_72 k_X9_added5 v_X9_added5 ml_X9_239 rfl rfl rfl rfl (Nat.le_of_ble_eq_true rfl) (by decide) (m_30 (by omega)) (hS im5 lm5 nm (adv b n r.1) (-1) h5 (((hag5.trans h4.2.2.1) 30 0 27 (by omega)).trans h27) (hnm.ag (hag5.trans h4.2.2.1))) rfl (kI ?_)
        rintro xB m' ⟨im6, lm6, h6, rfl⟩
        rw [stP_y] at h6
        have hrb := h6.1
        have hrb1 := hrb.1
        have hrb2 := hrb.2
        refine q_istore_n (t := 76) F dX9_not5_75 rfl (by decide) rfl rfl ?_
        refine q_iload_n (t := 77) F dX9_not5_76 rfl rfl rfl ?_
        refine q_if_eq (t := 80) (u := 88) F dX9_not5_77 (by first | exact hR _ _ _ | (constructor <;> omega)) (by decide) rfl (fun c77 => ?_) (fun c77 => ?_)
        · refine q_iload_n (t := 89) F dX9_not5_88 rfl rfl rfl ?_
          refine q_iload_n (t := 90) F dX9_not5_89 rfl rfl rfl ?_
          refine q_icmp_ne (t := 93) (u := 97) F dX9_not5_90 (by exact hra) (by exact hrb) (by decide) rfl (fun c90 => ?_) (fun c90 => ?_)
          · refine q_iconst (t := 98) F dX9_not5_97 rfl ?_
            refine q_iret F dX9_not5_98 rfl ?_
            first
              | (exfalso; omega)
              | (have hop : opC (tk b n r.1) = -12 := by unfold opC; rw [if_pos (by omega)]
                 refine ⟨_, rfl, im6, lm6, ?_, rfl⟩
                 rw [den_oth hn9, ← hrd, loopP_y2 (f := 0) hq.1 (by rw [hop]; decide)]
                 refine RPO_step h4 hq.1 hag5 hlg5 h6 (by constructor <;> omega) ?_
                 rw [hop]
                 refine Eq.trans ?_ (bi2_12 _ _)
                 first
                   | exact (if_pos (by omega)).symm
                   | exact (if_neg (by omega)).symm)
              | (have hop : opC (tk b n r.1) = -13 := by unfold opC; rw [if_neg (by omega), if_pos (by omega)]
                 refine ⟨_, rfl, im6, lm6, ?_, rfl⟩
                 rw [den_oth hn9, ← hrd, loopP_y2 (f := 0) hq.1 (by rw [hop]; decide)]
                 refine RPO_step h4 hq.1 hag5 hlg5 h6 (by constructor <;> omega) ?_
                 rw [hop]
                 refine Eq.trans ?_ (bi2_13 _ _)
                 first
                   | exact (if_pos (by omega)).symm
                   | exact (if_neg (by omega)).symm)
          · refine q_iconst (t := 94) F dX9_not5_93 rfl ?_
            refine q_goto (t := 98) F dX9_not5_94 (by decide) ?_
            refine q_iret F dX9_not5_98 rfl ?_
            first
              | (exfalso; omega)
              | (have hop : opC (tk b n r.1) = -12 := by unfold opC; rw [if_pos (by omega)]
                 refine ⟨_, rfl, im6, lm6, ?_, rfl⟩
                 rw [den_oth hn9, ← hrd, loopP_y2 (f := 0) hq.1 (by rw [hop]; decide)]
                 refine RPO_step h4 hq.1 hag5 hlg5 h6 (by constructor <;> omega) ?_
                 rw [hop]
                 refine Eq.trans ?_ (bi2_12 _ _)
                 first
                   | exact (if_pos (by omega)).symm
                   | exact (if_neg (by omega)).symm)
              | (have hop : opC (tk b n r.1) = -13 := by unfold opC; rw [if_neg (by omega), if_pos (by omega)]
                 refine ⟨_, rfl, im6, lm6, ?_, rfl⟩
                 rw [den_oth hn9, ← hrd, loopP_y2 (f := 0) hq.1 (by rw [hop]; decide)]
                 refine RPO_step h4 hq.1 hag5 hlg5 h6 (by constructor <;> omega) ?_
                 rw [hop]
                 refine Eq.trans ?_ (bi2_13 _ _)
                 first
                   | exact (if_pos (by omega)).symm
                   | exact (if_neg (by omega)).symm)
        · refine q_iload_n (t := 81) F dX9_not5_80 rfl rfl rfl ?_
          refine q_iload_n (t := 82) F dX9_not5_81 rfl rfl rfl ?_
          refine q_icmp_ge (t := 85) (u := 97) F dX9_not5_82 (by exact hra) (by exact hrb) (by decide) rfl (fun c82 => ?_) (fun c82 => ?_)
          · refine q_iconst (t := 98) F dX9_not5_97 rfl ?_
            refine q_iret F dX9_not5_98 rfl ?_
            first
              | (exfalso; omega)
              | (have hop : opC (tk b n r.1) = -12 := by unfold opC; rw [if_pos (by omega)]
                 refine ⟨_, rfl, im6, lm6, ?_, rfl⟩
                 rw [den_oth hn9, ← hrd, loopP_y2 (f := 0) hq.1 (by rw [hop]; decide)]
                 refine RPO_step h4 hq.1 hag5 hlg5 h6 (by constructor <;> omega) ?_
                 rw [hop]
                 refine Eq.trans ?_ (bi2_12 _ _)
                 first
                   | exact (if_pos (by omega)).symm
                   | exact (if_neg (by omega)).symm)
              | (have hop : opC (tk b n r.1) = -13 := by unfold opC; rw [if_neg (by omega), if_pos (by omega)]
                 refine ⟨_, rfl, im6, lm6, ?_, rfl⟩
                 rw [den_oth hn9, ← hrd, loopP_y2 (f := 0) hq.1 (by rw [hop]; decide)]
                 refine RPO_step h4 hq.1 hag5 hlg5 h6 (by constructor <;> omega) ?_
                 rw [hop]
                 refine Eq.trans ?_ (bi2_13 _ _)
                 first
                   | exact (if_pos (by omega)).symm
                   | exact (if_neg (by omega)).symm)
          · refine q_goto (t := 93) F dX9_not5_85 (by decide) ?_
            refine q_iconst (t := 94) F dX9_not5_93 rfl ?_
            refine q_goto (t := 98) F dX9_not5_94 (by decide) ?_
            refine q_iret F dX9_not5_98 rfl ?_
            first
              | (exfalso; omega)
              | (have hop : opC (tk b n r.1) = -12 := by unfold opC; rw [if_pos (by omega)]
                 refine ⟨_, rfl, im6, lm6, ?_, rfl⟩
                 rw [den_oth hn9, ← hrd, loopP_y2 (f := 0) hq.1 (by rw [hop]; decide)]
                 refine RPO_step h4 hq.1 hag5 hlg5 h6 (by constructor <;> omega) ?_
                 rw [hop]
                 refine Eq.trans ?_ (bi2_12 _ _)
                 first
                   | exact (if_pos (by omega)).symm
                   | exact (if_neg (by omega)).symm)
              | (have hop : opC (tk b n r.1) = -13 := by unfold opC; rw [if_neg (by omega), if_pos (by omega)]
                 refine ⟨_, rfl, im6, lm6, ?_, rfl⟩
                 rw [den_oth hn9, ← hrd, loopP_y2 (f := 0) hq.1 (by rw [hop]; decide)]
                 refine RPO_step h4 hq.1 hag5 hlg5 h6 (by constructor <;> omega) ?_
                 rw [hop]
                 refine Eq.trans ?_ (bi2_13 _ _)
                 first
                   | exact (if_pos (by omega)).symm
                   | exact (if_neg (by omega)).symm)
    · refine q_aload_n (t := 40) F dX9_not5_39 rfl rfl rfl ?_
      refine q_bipush (t := 42) F dX9_not5_40 (by decide) rfl ?_
      refine wp_callV (t := 45) [_] F dX9_not5_42 k_X9_isSign v_X9_isSign ml_X9_220 rfl rfl rfl rfl (Nat.le_of_ble_eq_true rfl) (by decide) (m_30 (by omega)) (c_X9_isSign _ G im4 bt rt lm4 b n hb r.1 r.2.1 h4.2.1 61 (by omega) (by omega)) rfl (kI ?_)
      rintro x42 m' ⟨hx42, rfl⟩
      have hx42 := if01 hx42
      refine q_if_ne (t := 48) (u := 50) F dX9_not5_45 (by first | exact hR _ _ _ | (constructor <;> omega)) (by decide) rfl (fun c45 => ?_) (fun c45 => ?_)
      · have hq : r.2.1 = -1 ∧ (tk b n r.1 = 60 ∨ tk b n r.1 = 61) := by omega
        have hlt : r.1 < n := tk_lt (b := b) (by omega)
        have hgd := PG_sumL b n 0 (adv b n r.1) (adv_in hlt).2
        have h11 := h4.2.1
        rw [hq.1] at h11
        have hw1 : lm4 30 0 26 = tk b n r.1 := ((TK_sign (h11.1.1 rfl).2.2 (s := tk b n r.1) (by omega)).mpr rfl).2
        have hcm : cmpI (lm4 30 0 26) 60 = 0 ↔ lm4 30 0 26 = 60 := cmpI_eq
        refine q_aload_n (t := 51) F dX9_not5_50 rfl rfl rfl ?_
        refine g_X9_175 (t := 54) F dX9_not5_51 rfl rfl ?_
        try simp only [up_app, row_app, scr_app, cpy_app, Nat.reduceEqDiff, Int.reduceToNat, Int.toNat_natCast, and_true, true_and, and_false, false_and, and_self, reduceIte]
        refine q_ldc2 (t := 57) (x := 60) F dX9_not5_54 kl_X9_242 (by decide) rfl ?_
        refine q_lcmp (t := 58) F dX9_not5_57 ⟨by omega, by omega⟩ ⟨by omega, by omega⟩ rfl ?_
        refine q_if_ne (t := 61) (u := 65) F dX9_not5_58 (by exact cmpI_ri _ _) (by decide) rfl (fun c58 => ?_) (fun c58 => ?_)
        · refine q_iconst (t := 66) F dX9_not5_65 rfl ?_
          refine q_istore_n (t := 67) F dX9_not5_66 rfl (by decide) rfl rfl ?_
          refine q_aload_n (t := 68) F dX9_not5_67 rfl rfl rfl ?_
          refine wp_callV (t := 71) [] F dX9_not5_68 k_X9_next v_X9_next ml_X9_196 rfl rfl rfl rfl (Nat.le_of_ble_eq_true rfl) (by decide) (m_30 (by omega)) (c_nextQ _ G im4 bt rt lm4 b n hb r.1 h11 hlt (by omega)) rfl (kV ?_)
          rintro m' ⟨im5, lm5, h5, hag5, hlg5, rfl⟩
          refine q_aload_n (t := 72) F dX9_not5_71 rfl rfl rfl ?_
          refine wp_callV (t := 75) [] F dX9_not5_72 k_X9_added5 v_X9_added5 ml_X9_239 rfl rfl rfl rfl (Nat.le_of_ble_eq_true rfl) (by decide) (m_30 (by omega)) (hS im5 lm5 nm (adv b n r.1) (-1) h5 (((hag5.trans h4.2.2.1) 30 0 27 (by omega)).trans h27) (hnm.ag (hag5.trans h4.2.2.1))) rfl (kI ?_)
          rintro xB m' ⟨im6, lm6, h6, rfl⟩
          rw [stP_y] at h6
          have hrb := h6.1
          have hrb1 := hrb.1
          have hrb2 := hrb.2
          refine q_istore_n (t := 76) F dX9_not5_75 rfl (by decide) rfl rfl ?_
          refine q_iload_n (t := 77) F dX9_not5_76 rfl rfl rfl ?_
          refine q_if_eq (t := 80) (u := 88) F dX9_not5_77 (by first | exact hR _ _ _ | (constructor <;> omega)) (by decide) rfl (fun c77 => ?_) (fun c77 => ?_)
          · refine q_iload_n (t := 89) F dX9_not5_88 rfl rfl rfl ?_
            refine q_iload_n (t := 90) F dX9_not5_89 rfl rfl rfl ?_
            refine q_icmp_ne (t := 93) (u := 97) F dX9_not5_90 (by exact hra) (by exact hrb) (by decide) rfl (fun c90 => ?_) (fun c90 => ?_)
            · refine q_iconst (t := 98) F dX9_not5_97 rfl ?_
              refine q_iret F dX9_not5_98 rfl ?_
              first
                | (exfalso; omega)
                | (have hop : opC (tk b n r.1) = -12 := by unfold opC; rw [if_pos (by omega)]
                   refine ⟨_, rfl, im6, lm6, ?_, rfl⟩
                   rw [den_oth hn9, ← hrd, loopP_y2 (f := 0) hq.1 (by rw [hop]; decide)]
                   refine RPO_step h4 hq.1 hag5 hlg5 h6 (by constructor <;> omega) ?_
                   rw [hop]
                   refine Eq.trans ?_ (bi2_12 _ _)
                   first
                     | exact (if_pos (by omega)).symm
                     | exact (if_neg (by omega)).symm)
                | (have hop : opC (tk b n r.1) = -13 := by unfold opC; rw [if_neg (by omega), if_pos (by omega)]
                   refine ⟨_, rfl, im6, lm6, ?_, rfl⟩
                   rw [den_oth hn9, ← hrd, loopP_y2 (f := 0) hq.1 (by rw [hop]; decide)]
                   refine RPO_step h4 hq.1 hag5 hlg5 h6 (by constructor <;> omega) ?_
                   rw [hop]
                   refine Eq.trans ?_ (bi2_13 _ _)
                   first
                     | exact (if_pos (by omega)).symm
                     | exact (if_neg (by omega)).symm)
            · refine q_iconst (t := 94) F dX9_not5_93 rfl ?_
              refine q_goto (t := 98) F dX9_not5_94 (by decide) ?_
              refine q_iret F dX9_not5_98 rfl ?_
              first
                | (exfalso; omega)
                | (have hop : opC (tk b n r.1) = -12 := by unfold opC; rw [if_pos (by omega)]
                   refine ⟨_, rfl, im6, lm6, ?_, rfl⟩
                   rw [den_oth hn9, ← hrd, loopP_y2 (f := 0) hq.1 (by rw [hop]; decide)]
                   refine RPO_step h4 hq.1 hag5 hlg5 h6 (by constructor <;> omega) ?_
                   rw [hop]
                   refine Eq.trans ?_ (bi2_12 _ _)
                   first
                     | exact (if_pos (by omega)).symm
                     | exact (if_neg (by omega)).symm)
                | (have hop : opC (tk b n r.1) = -13 := by unfold opC; rw [if_neg (by omega), if_pos (by omega)]
                   refine ⟨_, rfl, im6, lm6, ?_, rfl⟩
                   rw [den_oth hn9, ← hrd, loopP_y2 (f := 0) hq.1 (by rw [hop]; decide)]
                   refine RPO_step h4 hq.1 hag5 hlg5 h6 (by constructor <;> omega) ?_
                   rw [hop]
                   refine Eq.trans ?_ (bi2_13 _ _)
                   first
                     | exact (if_pos (by omega)).symm
                     | exact (if_neg (by omega)).symm)
          · refine q_iload_n (t := 81) F dX9_not5_80 rfl rfl rfl ?_
            refine q_iload_n (t := 82) F dX9_not5_81 rfl rfl rfl ?_
            refine q_icmp_ge (t := 85) (u := 97) F dX9_not5_82 (by exact hra) (by exact hrb) (by decide) rfl (fun c82 => ?_) (fun c82 => ?_)
            · refine q_iconst (t := 98) F dX9_not5_97 rfl ?_
              refine q_iret F dX9_not5_98 rfl ?_
              first
                | (exfalso; omega)
                | (have hop : opC (tk b n r.1) = -12 := by unfold opC; rw [if_pos (by omega)]
                   refine ⟨_, rfl, im6, lm6, ?_, rfl⟩
                   rw [den_oth hn9, ← hrd, loopP_y2 (f := 0) hq.1 (by rw [hop]; decide)]
                   refine RPO_step h4 hq.1 hag5 hlg5 h6 (by constructor <;> omega) ?_
                   rw [hop]
                   refine Eq.trans ?_ (bi2_12 _ _)
                   first
                     | exact (if_pos (by omega)).symm
                     | exact (if_neg (by omega)).symm)
                | (have hop : opC (tk b n r.1) = -13 := by unfold opC; rw [if_neg (by omega), if_pos (by omega)]
                   refine ⟨_, rfl, im6, lm6, ?_, rfl⟩
                   rw [den_oth hn9, ← hrd, loopP_y2 (f := 0) hq.1 (by rw [hop]; decide)]
                   refine RPO_step h4 hq.1 hag5 hlg5 h6 (by constructor <;> omega) ?_
                   rw [hop]
                   refine Eq.trans ?_ (bi2_13 _ _)
                   first
                     | exact (if_pos (by omega)).symm
                     | exact (if_neg (by omega)).symm)
            · refine q_goto (t := 93) F dX9_not5_85 (by decide) ?_
              refine q_iconst (t := 94) F dX9_not5_93 rfl ?_
              refine q_goto (t := 98) F dX9_not5_94 (by decide) ?_
              refine q_iret F dX9_not5_98 rfl ?_
              first
                | (exfalso; omega)
                | (have hop : opC (tk b n r.1) = -12 := by unfold opC; rw [if_pos (by omega)]
                   refine ⟨_, rfl, im6, lm6, ?_, rfl⟩
                   rw [den_oth hn9, ← hrd, loopP_y2 (f := 0) hq.1 (by rw [hop]; decide)]
                   refine RPO_step h4 hq.1 hag5 hlg5 h6 (by constructor <;> omega) ?_
                   rw [hop]
                   refine Eq.trans ?_ (bi2_12 _ _)
                   first
                     | exact (if_pos (by omega)).symm
                     | exact (if_neg (by omega)).symm)
                | (have hop : opC (tk b n r.1) = -13 := by unfold opC; rw [if_neg (by omega), if_pos (by omega)]
                   refine ⟨_, rfl, im6, lm6, ?_, rfl⟩
                   rw [den_oth hn9, ← hrd, loopP_y2 (f := 0) hq.1 (by rw [hop]; decide)]
                   refine RPO_step h4 hq.1 hag5 hlg5 h6 (by constructor <;> omega) ?_
                   rw [hop]
                   refine Eq.trans ?_ (bi2_13 _ _)
                   first
                     | exact (if_pos (by omega)).symm
                     | exact (if_neg (by omega)).symm)
        · refine q_iconst (t := 62) F dX9_not5_61 rfl ?_
          refine q_goto (t := 66) F dX9_not5_62 (by decide) ?_
          refine q_istore_n (t := 67) F dX9_not5_66 rfl (by decide) rfl rfl ?_
          refine q_aload_n (t := 68) F dX9_not5_67 rfl rfl rfl ?_
          refine wp_callV (t := 71) [] F dX9_not5_68 k_X9_next v_X9_next ml_X9_196 rfl rfl rfl rfl (Nat.le_of_ble_eq_true rfl) (by decide) (m_30 (by omega)) (c_nextQ _ G im4 bt rt lm4 b n hb r.1 h11 hlt (by omega)) rfl (kV ?_)
          rintro m' ⟨im5, lm5, h5, hag5, hlg5, rfl⟩
          refine q_aload_n (t := 72) F dX9_not5_71 rfl rfl rfl ?_
          refine wp_callV (t := 75) [] F dX9_not5_72 k_X9_added5 v_X9_added5 ml_X9_239 rfl rfl rfl rfl (Nat.le_of_ble_eq_true rfl) (by decide) (m_30 (by omega)) (hS im5 lm5 nm (adv b n r.1) (-1) h5 (((hag5.trans h4.2.2.1) 30 0 27 (by omega)).trans h27) (hnm.ag (hag5.trans h4.2.2.1))) rfl (kI ?_)
          rintro xB m' ⟨im6, lm6, h6, rfl⟩
          rw [stP_y] at h6
          have hrb := h6.1
          have hrb1 := hrb.1
          have hrb2 := hrb.2
          refine q_istore_n (t := 76) F dX9_not5_75 rfl (by decide) rfl rfl ?_
          refine q_iload_n (t := 77) F dX9_not5_76 rfl rfl rfl ?_
          refine q_if_eq (t := 80) (u := 88) F dX9_not5_77 (by first | exact hR _ _ _ | (constructor <;> omega)) (by decide) rfl (fun c77 => ?_) (fun c77 => ?_)
          · refine q_iload_n (t := 89) F dX9_not5_88 rfl rfl rfl ?_
            refine q_iload_n (t := 90) F dX9_not5_89 rfl rfl rfl ?_
            refine q_icmp_ne (t := 93) (u := 97) F dX9_not5_90 (by exact hra) (by exact hrb) (by decide) rfl (fun c90 => ?_) (fun c90 => ?_)
            · refine q_iconst (t := 98) F dX9_not5_97 rfl ?_
              refine q_iret F dX9_not5_98 rfl ?_
              first
                | (exfalso; omega)
                | (have hop : opC (tk b n r.1) = -12 := by unfold opC; rw [if_pos (by omega)]
                   refine ⟨_, rfl, im6, lm6, ?_, rfl⟩
                   rw [den_oth hn9, ← hrd, loopP_y2 (f := 0) hq.1 (by rw [hop]; decide)]
                   refine RPO_step h4 hq.1 hag5 hlg5 h6 (by constructor <;> omega) ?_
                   rw [hop]
                   refine Eq.trans ?_ (bi2_12 _ _)
                   first
                     | exact (if_pos (by omega)).symm
                     | exact (if_neg (by omega)).symm)
                | (have hop : opC (tk b n r.1) = -13 := by unfold opC; rw [if_neg (by omega), if_pos (by omega)]
                   refine ⟨_, rfl, im6, lm6, ?_, rfl⟩
                   rw [den_oth hn9, ← hrd, loopP_y2 (f := 0) hq.1 (by rw [hop]; decide)]
                   refine RPO_step h4 hq.1 hag5 hlg5 h6 (by constructor <;> omega) ?_
                   rw [hop]
                   refine Eq.trans ?_ (bi2_13 _ _)
                   first
                     | exact (if_pos (by omega)).symm
                     | exact (if_neg (by omega)).symm)
            · refine q_iconst (t := 94) F dX9_not5_93 rfl ?_
              refine q_goto (t := 98) F dX9_not5_94 (by decide) ?_
              refine q_iret F dX9_not5_98 rfl ?_
              first
                | (exfalso; omega)
                | (have hop : opC (tk b n r.1) = -12 := by unfold opC; rw [if_pos (by omega)]
                   refine ⟨_, rfl, im6, lm6, ?_, rfl⟩
                   rw [den_oth hn9, ← hrd, loopP_y2 (f := 0) hq.1 (by rw [hop]; decide)]
                   refine RPO_step h4 hq.1 hag5 hlg5 h6 (by constructor <;> omega) ?_
                   rw [hop]
                   refine Eq.trans ?_ (bi2_12 _ _)
                   first
                     | exact (if_pos (by omega)).symm
                     | exact (if_neg (by omega)).symm)
                | (have hop : opC (tk b n r.1) = -13 := by unfold opC; rw [if_neg (by omega), if_pos (by omega)]
                   refine ⟨_, rfl, im6, lm6, ?_, rfl⟩
                   rw [den_oth hn9, ← hrd, loopP_y2 (f := 0) hq.1 (by rw [hop]; decide)]
                   refine RPO_step h4 hq.1 hag5 hlg5 h6 (by constructor <;> omega) ?_
                   rw [hop]
                   refine Eq.trans ?_ (bi2_13 _ _)
                   first
                     | exact (if_pos (by omega)).symm
                     | exact (if_neg (by omega)).symm)
          · refine q_iload_n (t := 81) F dX9_not5_80 rfl rfl rfl ?_
            refine q_iload_n (t := 82) F dX9_not5_81 rfl rfl rfl ?_
            refine q_icmp_ge (t := 85) (u := 97) F dX9_not5_82 (by exact hra) (by exact hrb) (by decide) rfl (fun c82 => ?_) (fun c82 => ?_)
            · refine q_iconst (t := 98) F dX9_not5_97 rfl ?_
              refine q_iret F dX9_not5_98 rfl ?_
              first
                | (exfalso; omega)
                | (have hop : opC (tk b n r.1) = -12 := by unfold opC; rw [if_pos (by omega)]
                   refine ⟨_, rfl, im6, lm6, ?_, rfl⟩
                   rw [den_oth hn9, ← hrd, loopP_y2 (f := 0) hq.1 (by rw [hop]; decide)]
                   refine RPO_step h4 hq.1 hag5 hlg5 h6 (by constructor <;> omega) ?_
                   rw [hop]
                   refine Eq.trans ?_ (bi2_12 _ _)
                   first
                     | exact (if_pos (by omega)).symm
                     | exact (if_neg (by omega)).symm)
                | (have hop : opC (tk b n r.1) = -13 := by unfold opC; rw [if_neg (by omega), if_pos (by omega)]
                   refine ⟨_, rfl, im6, lm6, ?_, rfl⟩
                   rw [den_oth hn9, ← hrd, loopP_y2 (f := 0) hq.1 (by rw [hop]; decide)]
                   refine RPO_step h4 hq.1 hag5 hlg5 h6 (by constructor <;> omega) ?_
                   rw [hop]
                   refine Eq.trans ?_ (bi2_13 _ _)
                   first
                     | exact (if_pos (by omega)).symm
                     | exact (if_neg (by omega)).symm)
            · refine q_goto (t := 93) F dX9_not5_85 (by decide) ?_
              refine q_iconst (t := 94) F dX9_not5_93 rfl ?_
              refine q_goto (t := 98) F dX9_not5_94 (by decide) ?_
              refine q_iret F dX9_not5_98 rfl ?_
              first
                | (exfalso; omega)
                | (have hop : opC (tk b n r.1) = -12 := by unfold opC; rw [if_pos (by omega)]
                   refine ⟨_, rfl, im6, lm6, ?_, rfl⟩
                   rw [den_oth hn9, ← hrd, loopP_y2 (f := 0) hq.1 (by rw [hop]; decide)]
                   refine RPO_step h4 hq.1 hag5 hlg5 h6 (by constructor <;> omega) ?_
                   rw [hop]
                   refine Eq.trans ?_ (bi2_12 _ _)
                   first
                     | exact (if_pos (by omega)).symm
                     | exact (if_neg (by omega)).symm)
                | (have hop : opC (tk b n r.1) = -13 := by unfold opC; rw [if_neg (by omega), if_pos (by omega)]
                   refine ⟨_, rfl, im6, lm6, ?_, rfl⟩
                   rw [den_oth hn9, ← hrd, loopP_y2 (f := 0) hq.1 (by rw [hop]; decide)]
                   refine RPO_step h4 hq.1 hag5 hlg5 h6 (by constructor <;> omega) ?_
                   rw [hop]
                   refine Eq.trans ?_ (bi2_13 _ _)
                   first
                     | exact (if_pos (by omega)).symm
                     | exact (if_neg (by omega)).symm)
      · refine q_iload_n (t := 49) F dX9_not5_48 rfl rfl rfl ?_
        refine q_iret F dX9_not5_49 rfl ?_
        refine ⟨xA, rfl, im4, lm4, ?_, rfl⟩
        rw [den_oth hn9, ← hrd, loopP_n (fun q => ?_)]
        · exact h4
        · have q1 := q.1
          have q2 := q.2
          unfold opC at q2
          rw [if_neg (by omega), if_neg (by omega)] at q2
          exact q2 rfl
  · have hf : f = -1 := by omega
    subst hf
    have hlt : p < n := tk_lt (b := b) (by omega)
    have ht9 : tk b n p = 9 := by omega
    refine q_aload_n (t := 19) F dX9_not5_18 rfl rfl rfl ?_
    refine wp_callV (t := 22) [] F dX9_not5_19 k_X9_opens v_X9_opens ml_X9_223 rfl rfl rfl rfl (Nat.le_of_ble_eq_true rfl) (by decide) (m_30 (by omega)) (c_X9_opens _ G im bt rt lm b n hb p h hlt (by omega) 5 (by omega) h27) rfl (kI ?_)
    rintro x19 m' (⟨-, rfl, im2, h2, hag, rfl⟩ | ⟨q, -⟩)
    rotate_left
    · exact absurd q (by omega)
    refine q_popI (t := 23) F dX9_not5_22 rfl ?_
    refine q_iconst (t := 24) F dX9_not5_23 rfl ?_
    refine q_iret F dX9_not5_24 rfl ?_
    refine ⟨0, rfl, im2, lm, ⟨by constructor <;> omega, ?_, hag, lgQ_rfl lm, fun q => ?_⟩, rfl⟩
    · rw [stP_y, den_non ht9]; exact h2
    · rw [stP_y, den_non ht9] at q
      have : (p : Int) = -1 := q
      omega

set_option maxHeartbeats 4000000 in
theorem c_X9_not4 (l : Launch) (G : GS)  (bt rt : Nat)  (b : Nat → Int) (n : Nat) (hb : byt b n) (hN : RT l G bt rt b n yX9_not5 Y_X9_not5 (denL b n 0) 5) (hS : RT l G bt rt b n yX9_added4 Y_X9_added4 (sumL b n 1) 4) (im lm : IM) (nm : Nat → Int) (p : Nat) (f : Int) (h : PQ b n im lm p f) (h27 : im 30 0 27 = ((4 : Nat) : Int)) (hnm : NMr im nm) : Cn l (XR G) yX9_not4 Y_X9_not4 [vR 30 0] (im, rs bt rt, lm) (pI fun x m' => ∃ im' lm', RPO b n im lm nm (stP (denL b n 1) p f) x im' lm' ∧ m' = (im', rs bt rt, lm')) := by
  refine cn_of (by decide) (okR G) rfl (Nat.le_of_ble_eq_true rfl) ?_
  intro M ad hMl F
  subst hMl
  have hn := hb.1
  have hR := h.2.1
  have hbb := h.b01
  have hti0 := tk_in b n p
  refine wp_pad 3 ?_
  show Wp M (XR G) ad Y_X9_not4 (pI fun x m' => ∃ im' lm', RPO b n im lm nm (stP (denL b n 1) p f) x im' lm' ∧ m' = (im', rs bt rt, lm')) 0 [some (vR 30 0), none, none, none] [] (im, rs bt rt, lm)
  refine q_aload_n (t := 1) F dX9_not4_0 rfl rfl rfl ?_
  refine q_bipush (t := 3) F dX9_not4_1 (by decide) rfl ?_
  refine q_bipush (t := 5) F dX9_not4_3 (by decide) rfl ?_
  refine q_bipush (t := 7) F dX9_not4_5 (by decide) rfl ?_
  refine q_iconst (t := 8) F dX9_not4_7 rfl ?_
  refine q_iconst (t := 9) F dX9_not4_8 rfl ?_
  refine q_iconst (t := 10) F dX9_not4_9 rfl ?_
  refine q_iconst (t := 11) F dX9_not4_10 rfl ?_
  refine q_iconst (t := 12) F dX9_not4_11 rfl ?_
  refine wp_callV (t := 15) [_, _, _, _, _, _, _, _] F dX9_not4_12 k_X9_isWord_ v_X9_isWord_ ml_X9_199 rfl rfl rfl rfl (Nat.le_of_ble_eq_true rfl) (by decide) (m_30 (by omega)) (c_isKey _ G im bt rt lm b n hb p f h 11 (by omega) (by omega) 9 (by omega) _ _ _ _ _ _ _ _ (by decide)) rfl (kI ?_)
  rintro x12 m' ⟨hx12, rfl⟩
  have hx12 := if01 hx12
  refine q_if_eq (t := 18) (u := 52) F dX9_not4_15 (by first | exact hR _ _ _ | (constructor <;> omega)) (by decide) rfl (fun c15 => ?_) (fun c15 => ?_)
  · refine q_aload_n (t := 53) F dX9_not4_52 rfl rfl rfl ?_
    refine wp_callV (t := 56) [] F dX9_not4_53 k_X9_added4 v_X9_added4 ml_X9_259 rfl rfl rfl rfl (Nat.le_of_ble_eq_true rfl) (by decide) (m_30 (by omega)) (hS im lm nm p f h h27 hnm) rfl (kI ?_)
    rintro xA m' ⟨im4, lm4, h4, rfl⟩
    have hn9 : f = -1 → tk b n p ≠ 9 := by omega
    obtain ⟨r, hrd⟩ : ∃ r, r = stP (sumL b n 1) p f := ⟨_, rfl⟩
    rw [← hrd] at h4
    have hb4 := h4.2.1.b01
    have hti := tk_in b n r.1
    have hra := h4.1
    have hra1 := hra.1
    have hra2 := hra.2
    refine q_istore_n (t := 57) F dX9_not4_56 rfl (by decide) rfl rfl ?_
    refine q_aload_n (t := 58) F dX9_not4_57 rfl rfl rfl ?_
    refine q_bipush (t := 60) F dX9_not4_58 (by decide) rfl ?_
    refine wp_callV (t := 63) [_] F dX9_not4_60 k_X9_isSign v_X9_isSign ml_X9_220 rfl rfl rfl rfl (Nat.le_of_ble_eq_true rfl) (by decide) (m_30 (by omega)) (c_X9_isSign _ G im4 bt rt lm4 b n hb r.1 r.2.1 h4.2.1 60 (by omega) (by omega)) rfl (kI ?_)
    rintro x60 m' ⟨hx60, rfl⟩
    have hx60 := if01 hx60
    refine q_if_ne (t := 66) (u := 77) F dX9_not4_63 (by first | exact hR _ _ _ | (constructor <;> omega)) (by decide) rfl (fun c63 => ?_) (fun c63 => ?_)
    · have hq : r.2.1 = -1 ∧ (tk b n r.1 = 60 ∨ tk b n r.1 = 61) := by omega
      have hlt : r.1 < n := tk_lt (b := b) (by omega)
      have hgd := PG_sumL b n 1 (adv b n r.1) (adv_in hlt).2
      have h11 := h4.2.1
      rw [hq.1] at h11
      have hw1 : lm4 30 0 26 = tk b n r.1 := ((TK_sign (h11.1.1 rfl).2.2 (s := tk b n r.1) (by omega)).mpr rfl).2
      have hcm : cmpI (lm4 30 0 26) 60 = 0 ↔ lm4 30 0 26 = 60 := cmpI_eq
      refine q_aload_n (t := 78) F dX9_not4_77 rfl rfl rfl ?_
      refine g_X9_175 (t := 81) F dX9_not4_78 rfl rfl ?_
      try simp only [up_app, row_app, scr_app, cpy_app, Nat.reduceEqDiff, Int.reduceToNat, Int.toNat_natCast, and_true, true_and, and_false, false_and, and_self, reduceIte]
      refine q_ldc2 (t := 84) (x := 60) F dX9_not4_81 kl_X9_242 (by decide) rfl ?_
      refine q_lcmp (t := 85) F dX9_not4_84 ⟨by omega, by omega⟩ ⟨by omega, by omega⟩ rfl ?_
      refine q_if_ne (t := 88) (u := 92) F dX9_not4_85 (by exact cmpI_ri _ _) (by decide) rfl (fun c85 => ?_) (fun c85 => ?_)
      · refine q_iconst (t := 93) F dX9_not4_92 rfl ?_
        refine q_istore_n (t := 94) F dX9_not4_93 rfl (by decide) rfl rfl ?_
        refine q_aload_n (t := 95) F dX9_not4_94 rfl rfl rfl ?_
        refine wp_callV (t := 98) [] F dX9_not4_95 k_X9_next v_X9_next ml_X9_196 rfl rfl rfl rfl (Nat.le_of_ble_eq_true rfl) (by decide) (m_30 (by omega)) (c_nextQ _ G im4 bt rt lm4 b n hb r.1 h11 hlt (by omega)) rfl (kV ?_)
        rintro m' ⟨im5, lm5, h5, hag5, hlg5, rfl⟩
        refine q_aload_n (t := 99) F dX9_not4_98 rfl rfl rfl ?_
        refine wp_callV (t := 102) [] F dX9_not4_99 k_X9_added4 v_X9_added4 ml_X9_259 rfl rfl rfl rfl (Nat.le_of_ble_eq_true rfl) (by decide) (m_30 (by omega)) (hS im5 lm5 nm (adv b n r.1) (-1) h5 (((hag5.trans h4.2.2.1) 30 0 27 (by omega)).trans h27) (hnm.ag (hag5.trans h4.2.2.1))) rfl (kI ?_)
        rintro xB m' ⟨im6, lm6, h6, rfl⟩
        rw [stP_y] at h6
        have hrb := h6.1
        have hrb1 := hrb.1
        have hrb2 := hrb.2
        refine q_istore_n (t := 103) F dX9_not4_102 rfl (by decide) rfl rfl ?_
        refine q_iload_n (t := 104) F dX9_not4_103 rfl rfl rfl ?_
        refine q_if_eq (t := 107) (u := 115) F dX9_not4_104 (by first | exact hR _ _ _ | (constructor <;> omega)) (by decide) rfl (fun c104 => ?_) (fun c104 => ?_)
        · refine q_iload_n (t := 116) F dX9_not4_115 rfl rfl rfl ?_
          refine q_iload_n (t := 117) F dX9_not4_116 rfl rfl rfl ?_
          refine q_icmp_ne (t := 120) (u := 124) F dX9_not4_117 (by exact hra) (by exact hrb) (by decide) rfl (fun c117 => ?_) (fun c117 => ?_)
          · refine q_iconst (t := 125) F dX9_not4_124 rfl ?_
            refine q_iret F dX9_not4_125 rfl ?_
            first
              | (exfalso; omega)
              | (have hop : opC (tk b n r.1) = -12 := by unfold opC; rw [if_pos (by omega)]
                 refine ⟨_, rfl, im6, lm6, ?_, rfl⟩
                 rw [den_oth hn9, ← hrd, loopP_y2 (f := 0) hq.1 (by rw [hop]; decide)]
                 refine RPO_step h4 hq.1 hag5 hlg5 h6 (by constructor <;> omega) ?_
                 rw [hop]
                 refine Eq.trans ?_ (bi2_12 _ _)
                 first
                   | exact (if_pos (by omega)).symm
                   | exact (if_neg (by omega)).symm)
              | (have hop : opC (tk b n r.1) = -13 := by unfold opC; rw [if_neg (by omega), if_pos (by omega)]
                 refine ⟨_, rfl, im6, lm6, ?_, rfl⟩
                 rw [den_oth hn9, ← hrd, loopP_y2 (f := 0) hq.1 (by rw [hop]; decide)]
                 refine RPO_step h4 hq.1 hag5 hlg5 h6 (by constructor <;> omega) ?_
                 rw [hop]
                 refine Eq.trans ?_ (bi2_13 _ _)
                 first
                   | exact (if_pos (by omega)).symm
                   | exact (if_neg (by omega)).symm)
          · refine q_iconst (t := 121) F dX9_not4_120 rfl ?_
            refine q_goto (t := 125) F dX9_not4_121 (by decide) ?_
            refine q_iret F dX9_not4_125 rfl ?_
            first
              | (exfalso; omega)
              | (have hop : opC (tk b n r.1) = -12 := by unfold opC; rw [if_pos (by omega)]
                 refine ⟨_, rfl, im6, lm6, ?_, rfl⟩
                 rw [den_oth hn9, ← hrd, loopP_y2 (f := 0) hq.1 (by rw [hop]; decide)]
                 refine RPO_step h4 hq.1 hag5 hlg5 h6 (by constructor <;> omega) ?_
                 rw [hop]
                 refine Eq.trans ?_ (bi2_12 _ _)
                 first
                   | exact (if_pos (by omega)).symm
                   | exact (if_neg (by omega)).symm)
              | (have hop : opC (tk b n r.1) = -13 := by unfold opC; rw [if_neg (by omega), if_pos (by omega)]
                 refine ⟨_, rfl, im6, lm6, ?_, rfl⟩
                 rw [den_oth hn9, ← hrd, loopP_y2 (f := 0) hq.1 (by rw [hop]; decide)]
                 refine RPO_step h4 hq.1 hag5 hlg5 h6 (by constructor <;> omega) ?_
                 rw [hop]
                 refine Eq.trans ?_ (bi2_13 _ _)
                 first
                   | exact (if_pos (by omega)).symm
                   | exact (if_neg (by omega)).symm)
        · refine q_iload_n (t := 108) F dX9_not4_107 rfl rfl rfl ?_
          refine q_iload_n (t := 109) F dX9_not4_108 rfl rfl rfl ?_
          refine q_icmp_ge (t := 112) (u := 124) F dX9_not4_109 (by exact hra) (by exact hrb) (by decide) rfl (fun c109 => ?_) (fun c109 => ?_)
          · refine q_iconst (t := 125) F dX9_not4_124 rfl ?_
            refine q_iret F dX9_not4_125 rfl ?_
            first
              | (exfalso; omega)
              | (have hop : opC (tk b n r.1) = -12 := by unfold opC; rw [if_pos (by omega)]
                 refine ⟨_, rfl, im6, lm6, ?_, rfl⟩
                 rw [den_oth hn9, ← hrd, loopP_y2 (f := 0) hq.1 (by rw [hop]; decide)]
                 refine RPO_step h4 hq.1 hag5 hlg5 h6 (by constructor <;> omega) ?_
                 rw [hop]
                 refine Eq.trans ?_ (bi2_12 _ _)
                 first
                   | exact (if_pos (by omega)).symm
                   | exact (if_neg (by omega)).symm)
              | (have hop : opC (tk b n r.1) = -13 := by unfold opC; rw [if_neg (by omega), if_pos (by omega)]
                 refine ⟨_, rfl, im6, lm6, ?_, rfl⟩
                 rw [den_oth hn9, ← hrd, loopP_y2 (f := 0) hq.1 (by rw [hop]; decide)]
                 refine RPO_step h4 hq.1 hag5 hlg5 h6 (by constructor <;> omega) ?_
                 rw [hop]
                 refine Eq.trans ?_ (bi2_13 _ _)
                 first
                   | exact (if_pos (by omega)).symm
                   | exact (if_neg (by omega)).symm)
          · refine q_goto (t := 120) F dX9_not4_112 (by decide) ?_
            refine q_iconst (t := 121) F dX9_not4_120 rfl ?_
            refine q_goto (t := 125) F dX9_not4_121 (by decide) ?_
            refine q_iret F dX9_not4_125 rfl ?_
            first
              | (exfalso; omega)
              | (have hop : opC (tk b n r.1) = -12 := by unfold opC; rw [if_pos (by omega)]
                 refine ⟨_, rfl, im6, lm6, ?_, rfl⟩
                 rw [den_oth hn9, ← hrd, loopP_y2 (f := 0) hq.1 (by rw [hop]; decide)]
                 refine RPO_step h4 hq.1 hag5 hlg5 h6 (by constructor <;> omega) ?_
                 rw [hop]
                 refine Eq.trans ?_ (bi2_12 _ _)
                 first
                   | exact (if_pos (by omega)).symm
                   | exact (if_neg (by omega)).symm)
              | (have hop : opC (tk b n r.1) = -13 := by unfold opC; rw [if_neg (by omega), if_pos (by omega)]
                 refine ⟨_, rfl, im6, lm6, ?_, rfl⟩
                 rw [den_oth hn9, ← hrd, loopP_y2 (f := 0) hq.1 (by rw [hop]; decide)]
                 refine RPO_step h4 hq.1 hag5 hlg5 h6 (by constructor <;> omega) ?_
                 rw [hop]
                 refine Eq.trans ?_ (bi2_13 _ _)
                 first
                   | exact (if_pos (by omega)).symm
                   | exact (if_neg (by omega)).symm)
      · refine q_iconst (t := 89) F dX9_not4_88 rfl ?_
        refine q_goto (t := 93) F dX9_not4_89 (by decide) ?_
        refine q_istore_n (t := 94) F dX9_not4_93 rfl (by decide) rfl rfl ?_
        refine q_aload_n (t := 95) F dX9_not4_94 rfl rfl rfl ?_
        refine wp_callV (t := 98) [] F dX9_not4_95 k_X9_next v_X9_next ml_X9_196 rfl rfl rfl rfl (Nat.le_of_ble_eq_true rfl) (by decide) (m_30 (by omega)) (c_nextQ _ G im4 bt rt lm4 b n hb r.1 h11 hlt (by omega)) rfl (kV ?_)
        rintro m' ⟨im5, lm5, h5, hag5, hlg5, rfl⟩
        refine q_aload_n (t := 99) F dX9_not4_98 rfl rfl rfl ?_
        refine wp_callV (t := 102) [] F dX9_not4_99 k_X9_added4 v_X9_added4 ml_X9_259 rfl rfl rfl rfl (Nat.le_of_ble_eq_true rfl) (by decide) (m_30 (by omega)) (hS im5 lm5 nm (adv b n r.1) (-1) h5 (((hag5.trans h4.2.2.1) 30 0 27 (by omega)).trans h27) (hnm.ag (hag5.trans h4.2.2.1))) rfl (kI ?_)
        rintro xB m' ⟨im6, lm6, h6, rfl⟩
        rw [stP_y] at h6
        have hrb := h6.1
        have hrb1 := hrb.1
        have hrb2 := hrb.2
        refine q_istore_n (t := 103) F dX9_not4_102 rfl (by decide) rfl rfl ?_
        refine q_iload_n (t := 104) F dX9_not4_103 rfl rfl rfl ?_
        refine q_if_eq (t := 107) (u := 115) F dX9_not4_104 (by first | exact hR _ _ _ | (constructor <;> omega)) (by decide) rfl (fun c104 => ?_) (fun c104 => ?_)
        · refine q_iload_n (t := 116) F dX9_not4_115 rfl rfl rfl ?_
          refine q_iload_n (t := 117) F dX9_not4_116 rfl rfl rfl ?_
          refine q_icmp_ne (t := 120) (u := 124) F dX9_not4_117 (by exact hra) (by exact hrb) (by decide) rfl (fun c117 => ?_) (fun c117 => ?_)
          · refine q_iconst (t := 125) F dX9_not4_124 rfl ?_
            refine q_iret F dX9_not4_125 rfl ?_
            first
              | (exfalso; omega)
              | (have hop : opC (tk b n r.1) = -12 := by unfold opC; rw [if_pos (by omega)]
                 refine ⟨_, rfl, im6, lm6, ?_, rfl⟩
                 rw [den_oth hn9, ← hrd, loopP_y2 (f := 0) hq.1 (by rw [hop]; decide)]
                 refine RPO_step h4 hq.1 hag5 hlg5 h6 (by constructor <;> omega) ?_
                 rw [hop]
                 refine Eq.trans ?_ (bi2_12 _ _)
                 first
                   | exact (if_pos (by omega)).symm
                   | exact (if_neg (by omega)).symm)
              | (have hop : opC (tk b n r.1) = -13 := by unfold opC; rw [if_neg (by omega), if_pos (by omega)]
                 refine ⟨_, rfl, im6, lm6, ?_, rfl⟩
                 rw [den_oth hn9, ← hrd, loopP_y2 (f := 0) hq.1 (by rw [hop]; decide)]
                 refine RPO_step h4 hq.1 hag5 hlg5 h6 (by constructor <;> omega) ?_
                 rw [hop]
                 refine Eq.trans ?_ (bi2_13 _ _)
                 first
                   | exact (if_pos (by omega)).symm
                   | exact (if_neg (by omega)).symm)
          · refine q_iconst (t := 121) F dX9_not4_120 rfl ?_
            refine q_goto (t := 125) F dX9_not4_121 (by decide) ?_
            refine q_iret F dX9_not4_125 rfl ?_
            first
              | (exfalso; omega)
              | (have hop : opC (tk b n r.1) = -12 := by unfold opC; rw [if_pos (by omega)]
                 refine ⟨_, rfl, im6, lm6, ?_, rfl⟩
                 rw [den_oth hn9, ← hrd, loopP_y2 (f := 0) hq.1 (by rw [hop]; decide)]
                 refine RPO_step h4 hq.1 hag5 hlg5 h6 (by constructor <;> omega) ?_
                 rw [hop]
                 refine Eq.trans ?_ (bi2_12 _ _)
                 first
                   | exact (if_pos (by omega)).symm
                   | exact (if_neg (by omega)).symm)
              | (have hop : opC (tk b n r.1) = -13 := by unfold opC; rw [if_neg (by omega), if_pos (by omega)]
                 refine ⟨_, rfl, im6, lm6, ?_, rfl⟩
                 rw [den_oth hn9, ← hrd, loopP_y2 (f := 0) hq.1 (by rw [hop]; decide)]
                 refine RPO_step h4 hq.1 hag5 hlg5 h6 (by constructor <;> omega) ?_
                 rw [hop]
                 refine Eq.trans ?_ (bi2_13 _ _)
                 first
                   | exact (if_pos (by omega)).symm
                   | exact (if_neg (by omega)).symm)
        · refine q_iload_n (t := 108) F dX9_not4_107 rfl rfl rfl ?_
          refine q_iload_n (t := 109) F dX9_not4_108 rfl rfl rfl ?_
          refine q_icmp_ge (t := 112) (u := 124) F dX9_not4_109 (by exact hra) (by exact hrb) (by decide) rfl (fun c109 => ?_) (fun c109 => ?_)
          · refine q_iconst (t := 125) F dX9_not4_124 rfl ?_
            refine q_iret F dX9_not4_125 rfl ?_
            first
              | (exfalso; omega)
              | (have hop : opC (tk b n r.1) = -12 := by unfold opC; rw [if_pos (by omega)]
                 refine ⟨_, rfl, im6, lm6, ?_, rfl⟩
                 rw [den_oth hn9, ← hrd, loopP_y2 (f := 0) hq.1 (by rw [hop]; decide)]
                 refine RPO_step h4 hq.1 hag5 hlg5 h6 (by constructor <;> omega) ?_
                 rw [hop]
                 refine Eq.trans ?_ (bi2_12 _ _)
                 first
                   | exact (if_pos (by omega)).symm
                   | exact (if_neg (by omega)).symm)
              | (have hop : opC (tk b n r.1) = -13 := by unfold opC; rw [if_neg (by omega), if_pos (by omega)]
                 refine ⟨_, rfl, im6, lm6, ?_, rfl⟩
                 rw [den_oth hn9, ← hrd, loopP_y2 (f := 0) hq.1 (by rw [hop]; decide)]
                 refine RPO_step h4 hq.1 hag5 hlg5 h6 (by constructor <;> omega) ?_
                 rw [hop]
                 refine Eq.trans ?_ (bi2_13 _ _)
                 first
                   | exact (if_pos (by omega)).symm
                   | exact (if_neg (by omega)).symm)
          · refine q_goto (t := 120) F dX9_not4_112 (by decide) ?_
            refine q_iconst (t := 121) F dX9_not4_120 rfl ?_
            refine q_goto (t := 125) F dX9_not4_121 (by decide) ?_
            refine q_iret F dX9_not4_125 rfl ?_
            first
              | (exfalso; omega)
              | (have hop : opC (tk b n r.1) = -12 := by unfold opC; rw [if_pos (by omega)]
                 refine ⟨_, rfl, im6, lm6, ?_, rfl⟩
                 rw [den_oth hn9, ← hrd, loopP_y2 (f := 0) hq.1 (by rw [hop]; decide)]
                 refine RPO_step h4 hq.1 hag5 hlg5 h6 (by constructor <;> omega) ?_
                 rw [hop]
                 refine Eq.trans ?_ (bi2_12 _ _)
                 first
                   | exact (if_pos (by omega)).symm
                   | exact (if_neg (by omega)).symm)
              | (have hop : opC (tk b n r.1) = -13 := by unfold opC; rw [if_neg (by omega), if_pos (by omega)]
                 refine ⟨_, rfl, im6, lm6, ?_, rfl⟩
                 rw [den_oth hn9, ← hrd, loopP_y2 (f := 0) hq.1 (by rw [hop]; decide)]
                 refine RPO_step h4 hq.1 hag5 hlg5 h6 (by constructor <;> omega) ?_
                 rw [hop]
                 refine Eq.trans ?_ (bi2_13 _ _)
                 first
                   | exact (if_pos (by omega)).symm
                   | exact (if_neg (by omega)).symm)
    · refine q_aload_n (t := 67) F dX9_not4_66 rfl rfl rfl ?_
      refine q_bipush (t := 69) F dX9_not4_67 (by decide) rfl ?_
      refine wp_callV (t := 72) [_] F dX9_not4_69 k_X9_isSign v_X9_isSign ml_X9_220 rfl rfl rfl rfl (Nat.le_of_ble_eq_true rfl) (by decide) (m_30 (by omega)) (c_X9_isSign _ G im4 bt rt lm4 b n hb r.1 r.2.1 h4.2.1 61 (by omega) (by omega)) rfl (kI ?_)
      rintro x69 m' ⟨hx69, rfl⟩
      have hx69 := if01 hx69
      refine q_if_ne (t := 75) (u := 77) F dX9_not4_72 (by first | exact hR _ _ _ | (constructor <;> omega)) (by decide) rfl (fun c72 => ?_) (fun c72 => ?_)
      · have hq : r.2.1 = -1 ∧ (tk b n r.1 = 60 ∨ tk b n r.1 = 61) := by omega
        have hlt : r.1 < n := tk_lt (b := b) (by omega)
        have hgd := PG_sumL b n 1 (adv b n r.1) (adv_in hlt).2
        have h11 := h4.2.1
        rw [hq.1] at h11
        have hw1 : lm4 30 0 26 = tk b n r.1 := ((TK_sign (h11.1.1 rfl).2.2 (s := tk b n r.1) (by omega)).mpr rfl).2
        have hcm : cmpI (lm4 30 0 26) 60 = 0 ↔ lm4 30 0 26 = 60 := cmpI_eq
        refine q_aload_n (t := 78) F dX9_not4_77 rfl rfl rfl ?_
        refine g_X9_175 (t := 81) F dX9_not4_78 rfl rfl ?_
        try simp only [up_app, row_app, scr_app, cpy_app, Nat.reduceEqDiff, Int.reduceToNat, Int.toNat_natCast, and_true, true_and, and_false, false_and, and_self, reduceIte]
        refine q_ldc2 (t := 84) (x := 60) F dX9_not4_81 kl_X9_242 (by decide) rfl ?_
        refine q_lcmp (t := 85) F dX9_not4_84 ⟨by omega, by omega⟩ ⟨by omega, by omega⟩ rfl ?_
        refine q_if_ne (t := 88) (u := 92) F dX9_not4_85 (by exact cmpI_ri _ _) (by decide) rfl (fun c85 => ?_) (fun c85 => ?_)
        · refine q_iconst (t := 93) F dX9_not4_92 rfl ?_
          refine q_istore_n (t := 94) F dX9_not4_93 rfl (by decide) rfl rfl ?_
          refine q_aload_n (t := 95) F dX9_not4_94 rfl rfl rfl ?_
          refine wp_callV (t := 98) [] F dX9_not4_95 k_X9_next v_X9_next ml_X9_196 rfl rfl rfl rfl (Nat.le_of_ble_eq_true rfl) (by decide) (m_30 (by omega)) (c_nextQ _ G im4 bt rt lm4 b n hb r.1 h11 hlt (by omega)) rfl (kV ?_)
          rintro m' ⟨im5, lm5, h5, hag5, hlg5, rfl⟩
          refine q_aload_n (t := 99) F dX9_not4_98 rfl rfl rfl ?_
          refine wp_callV (t := 102) [] F dX9_not4_99 k_X9_added4 v_X9_added4 ml_X9_259 rfl rfl rfl rfl (Nat.le_of_ble_eq_true rfl) (by decide) (m_30 (by omega)) (hS im5 lm5 nm (adv b n r.1) (-1) h5 (((hag5.trans h4.2.2.1) 30 0 27 (by omega)).trans h27) (hnm.ag (hag5.trans h4.2.2.1))) rfl (kI ?_)
          rintro xB m' ⟨im6, lm6, h6, rfl⟩
          rw [stP_y] at h6
          have hrb := h6.1
          have hrb1 := hrb.1
          have hrb2 := hrb.2
          refine q_istore_n (t := 103) F dX9_not4_102 rfl (by decide) rfl rfl ?_
          refine q_iload_n (t := 104) F dX9_not4_103 rfl rfl rfl ?_
          refine q_if_eq (t := 107) (u := 115) F dX9_not4_104 (by first | exact hR _ _ _ | (constructor <;> omega)) (by decide) rfl (fun c104 => ?_) (fun c104 => ?_)
          · refine q_iload_n (t := 116) F dX9_not4_115 rfl rfl rfl ?_
            refine q_iload_n (t := 117) F dX9_not4_116 rfl rfl rfl ?_
            refine q_icmp_ne (t := 120) (u := 124) F dX9_not4_117 (by exact hra) (by exact hrb) (by decide) rfl (fun c117 => ?_) (fun c117 => ?_)
            · refine q_iconst (t := 125) F dX9_not4_124 rfl ?_
              refine q_iret F dX9_not4_125 rfl ?_
              first
                | (exfalso; omega)
                | (have hop : opC (tk b n r.1) = -12 := by unfold opC; rw [if_pos (by omega)]
                   refine ⟨_, rfl, im6, lm6, ?_, rfl⟩
                   rw [den_oth hn9, ← hrd, loopP_y2 (f := 0) hq.1 (by rw [hop]; decide)]
                   refine RPO_step h4 hq.1 hag5 hlg5 h6 (by constructor <;> omega) ?_
                   rw [hop]
                   refine Eq.trans ?_ (bi2_12 _ _)
                   first
                     | exact (if_pos (by omega)).symm
                     | exact (if_neg (by omega)).symm)
                | (have hop : opC (tk b n r.1) = -13 := by unfold opC; rw [if_neg (by omega), if_pos (by omega)]
                   refine ⟨_, rfl, im6, lm6, ?_, rfl⟩
                   rw [den_oth hn9, ← hrd, loopP_y2 (f := 0) hq.1 (by rw [hop]; decide)]
                   refine RPO_step h4 hq.1 hag5 hlg5 h6 (by constructor <;> omega) ?_
                   rw [hop]
                   refine Eq.trans ?_ (bi2_13 _ _)
                   first
                     | exact (if_pos (by omega)).symm
                     | exact (if_neg (by omega)).symm)
            · refine q_iconst (t := 121) F dX9_not4_120 rfl ?_
              refine q_goto (t := 125) F dX9_not4_121 (by decide) ?_
              refine q_iret F dX9_not4_125 rfl ?_
              first
                | (exfalso; omega)
                | (have hop : opC (tk b n r.1) = -12 := by unfold opC; rw [if_pos (by omega)]
                   refine ⟨_, rfl, im6, lm6, ?_, rfl⟩
                   rw [den_oth hn9, ← hrd, loopP_y2 (f := 0) hq.1 (by rw [hop]; decide)]
                   refine RPO_step h4 hq.1 hag5 hlg5 h6 (by constructor <;> omega) ?_
                   rw [hop]
                   refine Eq.trans ?_ (bi2_12 _ _)
                   first
                     | exact (if_pos (by omega)).symm
                     | exact (if_neg (by omega)).symm)
                | (have hop : opC (tk b n r.1) = -13 := by unfold opC; rw [if_neg (by omega), if_pos (by omega)]
                   refine ⟨_, rfl, im6, lm6, ?_, rfl⟩
                   rw [den_oth hn9, ← hrd, loopP_y2 (f := 0) hq.1 (by rw [hop]; decide)]
                   refine RPO_step h4 hq.1 hag5 hlg5 h6 (by constructor <;> omega) ?_
                   rw [hop]
                   refine Eq.trans ?_ (bi2_13 _ _)
                   first
                     | exact (if_pos (by omega)).symm
                     | exact (if_neg (by omega)).symm)
          · refine q_iload_n (t := 108) F dX9_not4_107 rfl rfl rfl ?_
            refine q_iload_n (t := 109) F dX9_not4_108 rfl rfl rfl ?_
            refine q_icmp_ge (t := 112) (u := 124) F dX9_not4_109 (by exact hra) (by exact hrb) (by decide) rfl (fun c109 => ?_) (fun c109 => ?_)
            · refine q_iconst (t := 125) F dX9_not4_124 rfl ?_
              refine q_iret F dX9_not4_125 rfl ?_
              first
                | (exfalso; omega)
                | (have hop : opC (tk b n r.1) = -12 := by unfold opC; rw [if_pos (by omega)]
                   refine ⟨_, rfl, im6, lm6, ?_, rfl⟩
                   rw [den_oth hn9, ← hrd, loopP_y2 (f := 0) hq.1 (by rw [hop]; decide)]
                   refine RPO_step h4 hq.1 hag5 hlg5 h6 (by constructor <;> omega) ?_
                   rw [hop]
                   refine Eq.trans ?_ (bi2_12 _ _)
                   first
                     | exact (if_pos (by omega)).symm
                     | exact (if_neg (by omega)).symm)
                | (have hop : opC (tk b n r.1) = -13 := by unfold opC; rw [if_neg (by omega), if_pos (by omega)]
                   refine ⟨_, rfl, im6, lm6, ?_, rfl⟩
                   rw [den_oth hn9, ← hrd, loopP_y2 (f := 0) hq.1 (by rw [hop]; decide)]
                   refine RPO_step h4 hq.1 hag5 hlg5 h6 (by constructor <;> omega) ?_
                   rw [hop]
                   refine Eq.trans ?_ (bi2_13 _ _)
                   first
                     | exact (if_pos (by omega)).symm
                     | exact (if_neg (by omega)).symm)
            · refine q_goto (t := 120) F dX9_not4_112 (by decide) ?_
              refine q_iconst (t := 121) F dX9_not4_120 rfl ?_
              refine q_goto (t := 125) F dX9_not4_121 (by decide) ?_
              refine q_iret F dX9_not4_125 rfl ?_
              first
                | (exfalso; omega)
                | (have hop : opC (tk b n r.1) = -12 := by unfold opC; rw [if_pos (by omega)]
                   refine ⟨_, rfl, im6, lm6, ?_, rfl⟩
                   rw [den_oth hn9, ← hrd, loopP_y2 (f := 0) hq.1 (by rw [hop]; decide)]
                   refine RPO_step h4 hq.1 hag5 hlg5 h6 (by constructor <;> omega) ?_
                   rw [hop]
                   refine Eq.trans ?_ (bi2_12 _ _)
                   first
                     | exact (if_pos (by omega)).symm
                     | exact (if_neg (by omega)).symm)
                | (have hop : opC (tk b n r.1) = -13 := by unfold opC; rw [if_neg (by omega), if_pos (by omega)]
                   refine ⟨_, rfl, im6, lm6, ?_, rfl⟩
                   rw [den_oth hn9, ← hrd, loopP_y2 (f := 0) hq.1 (by rw [hop]; decide)]
                   refine RPO_step h4 hq.1 hag5 hlg5 h6 (by constructor <;> omega) ?_
                   rw [hop]
                   refine Eq.trans ?_ (bi2_13 _ _)
                   first
                     | exact (if_pos (by omega)).symm
                     | exact (if_neg (by omega)).symm)
        · refine q_iconst (t := 89) F dX9_not4_88 rfl ?_
          refine q_goto (t := 93) F dX9_not4_89 (by decide) ?_
          refine q_istore_n (t := 94) F dX9_not4_93 rfl (by decide) rfl rfl ?_
          refine q_aload_n (t := 95) F dX9_not4_94 rfl rfl rfl ?_
          refine wp_callV (t := 98) [] F dX9_not4_95 k_X9_next v_X9_next ml_X9_196 rfl rfl rfl rfl (Nat.le_of_ble_eq_true rfl) (by decide) (m_30 (by omega)) (c_nextQ _ G im4 bt rt lm4 b n hb r.1 h11 hlt (by omega)) rfl (kV ?_)
          rintro m' ⟨im5, lm5, h5, hag5, hlg5, rfl⟩
          refine q_aload_n (t := 99) F dX9_not4_98 rfl rfl rfl ?_
          refine wp_callV (t := 102) [] F dX9_not4_99 k_X9_added4 v_X9_added4 ml_X9_259 rfl rfl rfl rfl (Nat.le_of_ble_eq_true rfl) (by decide) (m_30 (by omega)) (hS im5 lm5 nm (adv b n r.1) (-1) h5 (((hag5.trans h4.2.2.1) 30 0 27 (by omega)).trans h27) (hnm.ag (hag5.trans h4.2.2.1))) rfl (kI ?_)
          rintro xB m' ⟨im6, lm6, h6, rfl⟩
          rw [stP_y] at h6
          have hrb := h6.1
          have hrb1 := hrb.1
          have hrb2 := hrb.2
          refine q_istore_n (t := 103) F dX9_not4_102 rfl (by decide) rfl rfl ?_
          refine q_iload_n (t := 104) F dX9_not4_103 rfl rfl rfl ?_
          refine q_if_eq (t := 107) (u := 115) F dX9_not4_104 (by first | exact hR _ _ _ | (constructor <;> omega)) (by decide) rfl (fun c104 => ?_) (fun c104 => ?_)
          · refine q_iload_n (t := 116) F dX9_not4_115 rfl rfl rfl ?_
            refine q_iload_n (t := 117) F dX9_not4_116 rfl rfl rfl ?_
            refine q_icmp_ne (t := 120) (u := 124) F dX9_not4_117 (by exact hra) (by exact hrb) (by decide) rfl (fun c117 => ?_) (fun c117 => ?_)
            · refine q_iconst (t := 125) F dX9_not4_124 rfl ?_
              refine q_iret F dX9_not4_125 rfl ?_
              first
                | (exfalso; omega)
                | (have hop : opC (tk b n r.1) = -12 := by unfold opC; rw [if_pos (by omega)]
                   refine ⟨_, rfl, im6, lm6, ?_, rfl⟩
                   rw [den_oth hn9, ← hrd, loopP_y2 (f := 0) hq.1 (by rw [hop]; decide)]
                   refine RPO_step h4 hq.1 hag5 hlg5 h6 (by constructor <;> omega) ?_
                   rw [hop]
                   refine Eq.trans ?_ (bi2_12 _ _)
                   first
                     | exact (if_pos (by omega)).symm
                     | exact (if_neg (by omega)).symm)
                | (have hop : opC (tk b n r.1) = -13 := by unfold opC; rw [if_neg (by omega), if_pos (by omega)]
                   refine ⟨_, rfl, im6, lm6, ?_, rfl⟩
                   rw [den_oth hn9, ← hrd, loopP_y2 (f := 0) hq.1 (by rw [hop]; decide)]
                   refine RPO_step h4 hq.1 hag5 hlg5 h6 (by constructor <;> omega) ?_
                   rw [hop]
                   refine Eq.trans ?_ (bi2_13 _ _)
                   first
                     | exact (if_pos (by omega)).symm
                     | exact (if_neg (by omega)).symm)
            · refine q_iconst (t := 121) F dX9_not4_120 rfl ?_
              refine q_goto (t := 125) F dX9_not4_121 (by decide) ?_
              refine q_iret F dX9_not4_125 rfl ?_
              first
                | (exfalso; omega)
                | (have hop : opC (tk b n r.1) = -12 := by unfold opC; rw [if_pos (by omega)]
                   refine ⟨_, rfl, im6, lm6, ?_, rfl⟩
                   rw [den_oth hn9, ← hrd, loopP_y2 (f := 0) hq.1 (by rw [hop]; decide)]
                   refine RPO_step h4 hq.1 hag5 hlg5 h6 (by constructor <;> omega) ?_
                   rw [hop]
                   refine Eq.trans ?_ (bi2_12 _ _)
                   first
                     | exact (if_pos (by omega)).symm
                     | exact (if_neg (by omega)).symm)
                | (have hop : opC (tk b n r.1) = -13 := by unfold opC; rw [if_neg (by omega), if_pos (by omega)]
                   refine ⟨_, rfl, im6, lm6, ?_, rfl⟩
                   rw [den_oth hn9, ← hrd, loopP_y2 (f := 0) hq.1 (by rw [hop]; decide)]
                   refine RPO_step h4 hq.1 hag5 hlg5 h6 (by constructor <;> omega) ?_
                   rw [hop]
                   refine Eq.trans ?_ (bi2_13 _ _)
                   first
                     | exact (if_pos (by omega)).symm
                     | exact (if_neg (by omega)).symm)
          · refine q_iload_n (t := 108) F dX9_not4_107 rfl rfl rfl ?_
            refine q_iload_n (t := 109) F dX9_not4_108 rfl rfl rfl ?_
            refine q_icmp_ge (t := 112) (u := 124) F dX9_not4_109 (by exact hra) (by exact hrb) (by decide) rfl (fun c109 => ?_) (fun c109 => ?_)
            · refine q_iconst (t := 125) F dX9_not4_124 rfl ?_
              refine q_iret F dX9_not4_125 rfl ?_
              first
                | (exfalso; omega)
                | (have hop : opC (tk b n r.1) = -12 := by unfold opC; rw [if_pos (by omega)]
                   refine ⟨_, rfl, im6, lm6, ?_, rfl⟩
                   rw [den_oth hn9, ← hrd, loopP_y2 (f := 0) hq.1 (by rw [hop]; decide)]
                   refine RPO_step h4 hq.1 hag5 hlg5 h6 (by constructor <;> omega) ?_
                   rw [hop]
                   refine Eq.trans ?_ (bi2_12 _ _)
                   first
                     | exact (if_pos (by omega)).symm
                     | exact (if_neg (by omega)).symm)
                | (have hop : opC (tk b n r.1) = -13 := by unfold opC; rw [if_neg (by omega), if_pos (by omega)]
                   refine ⟨_, rfl, im6, lm6, ?_, rfl⟩
                   rw [den_oth hn9, ← hrd, loopP_y2 (f := 0) hq.1 (by rw [hop]; decide)]
                   refine RPO_step h4 hq.1 hag5 hlg5 h6 (by constructor <;> omega) ?_
                   rw [hop]
                   refine Eq.trans ?_ (bi2_13 _ _)
                   first
                     | exact (if_pos (by omega)).symm
                     | exact (if_neg (by omega)).symm)
            · refine q_goto (t := 120) F dX9_not4_112 (by decide) ?_
              refine q_iconst (t := 121) F dX9_not4_120 rfl ?_
              refine q_goto (t := 125) F dX9_not4_121 (by decide) ?_
              refine q_iret F dX9_not4_125 rfl ?_
              first
                | (exfalso; omega)
                | (have hop : opC (tk b n r.1) = -12 := by unfold opC; rw [if_pos (by omega)]
                   refine ⟨_, rfl, im6, lm6, ?_, rfl⟩
                   rw [den_oth hn9, ← hrd, loopP_y2 (f := 0) hq.1 (by rw [hop]; decide)]
                   refine RPO_step h4 hq.1 hag5 hlg5 h6 (by constructor <;> omega) ?_
                   rw [hop]
                   refine Eq.trans ?_ (bi2_12 _ _)
                   first
                     | exact (if_pos (by omega)).symm
                     | exact (if_neg (by omega)).symm)
                | (have hop : opC (tk b n r.1) = -13 := by unfold opC; rw [if_neg (by omega), if_pos (by omega)]
                   refine ⟨_, rfl, im6, lm6, ?_, rfl⟩
                   rw [den_oth hn9, ← hrd, loopP_y2 (f := 0) hq.1 (by rw [hop]; decide)]
                   refine RPO_step h4 hq.1 hag5 hlg5 h6 (by constructor <;> omega) ?_
                   rw [hop]
                   refine Eq.trans ?_ (bi2_13 _ _)
                   first
                     | exact (if_pos (by omega)).symm
                     | exact (if_neg (by omega)).symm)
      · refine q_iload_n (t := 76) F dX9_not4_75 rfl rfl rfl ?_
        refine q_iret F dX9_not4_76 rfl ?_
        refine ⟨xA, rfl, im4, lm4, ?_, rfl⟩
        rw [den_oth hn9, ← hrd, loopP_n (fun q => ?_)]
        · exact h4
        · have q1 := q.1
          have q2 := q.2
          unfold opC at q2
          rw [if_neg (by omega), if_neg (by omega)] at q2
          exact q2 rfl
  · have hf : f = -1 := by omega
    subst hf
    have hlt : p < n := tk_lt (b := b) (by omega)
    have ht9 : tk b n p = 9 := by omega
    refine q_aload_n (t := 19) F dX9_not4_18 rfl rfl rfl ?_
    refine wp_callV (t := 22) [] F dX9_not4_19 k_X9_opens v_X9_opens ml_X9_223 rfl rfl rfl rfl (Nat.le_of_ble_eq_true rfl) (by decide) (m_30 (by omega)) (c_X9_opens _ G im bt rt lm b n hb p h hlt (by omega) 4 (by omega) h27) rfl (kI ?_)
    rintro x19 m' (⟨q, -⟩ | ⟨-, rfl, im2, lm2, h2, h227, hag, hlg, rfl⟩)
    · exact absurd q (by omega)
    refine q_if_ne (t := 25) (u := 27) F dX9_not4_22 (by first | exact hR _ _ _ | (constructor <;> omega)) (by decide) rfl (fun c22 => ?_) (fun c22 => ?_)
    · refine q_aload_n (t := 28) F dX9_not4_27 rfl rfl rfl ?_
      refine wp_callV (t := 31) [] F dX9_not4_28 k_X9_not5 v_X9_not5 ml_X9_244 rfl rfl rfl rfl (Nat.le_of_ble_eq_true rfl) (by decide) (m_30 (by omega)) (hN im2 lm2 nm (adv b n p) (-1) h2 (by omega) (hnm.ag27 hag)) rfl (kI ?_)
      rintro x28 m' ⟨im3, lm3, h3, rfl⟩
      rw [stP_y] at h3
      have hrv := h3.1
      have hrv1 := hrv.1
      have hrv2 := hrv.2
      refine q_istore_n (t := 32) F dX9_not4_31 rfl (by decide) rfl rfl ?_
      refine q_aload_n (t := 33) F dX9_not4_32 rfl rfl rfl ?_
      refine q_dupR (t := 34) F dX9_not4_33 rfl ?_
      refine g_X9_190 (t := 37) F dX9_not4_34 rfl rfl ?_
      try simp only [up_app, row_app, scr_app, cpy_app, Nat.reduceEqDiff, Int.reduceToNat, Int.toNat_natCast, and_true, true_and, and_false, false_and, and_self, reduceIte]
      refine q_iconst (t := 38) F dX9_not4_37 rfl ?_
      refine q_isub (t := 39) F dX9_not4_38 rfl ?_
      rw [show im3 30 0 27 - 1 = ((4 : Nat) : Int) by rw [h3.2.2.1 30 0 27 (by omega)]; omega]
      refine p_X9_190 (t := 42) F dX9_not4_39 rfl rfl ?_
      refine q_iload_n (t := 43) F dX9_not4_42 rfl rfl rfl ?_
      refine q_if_ne (t := 46) (u := 50) F dX9_not4_43 (by exact hrv) (by decide) rfl (fun c43 => ?_) (fun c43 => ?_)
      · refine q_iconst (t := 51) F dX9_not4_50 rfl ?_
        refine q_iret F dX9_not4_51 rfl ?_
        refine ⟨_, rfl, up im3 30 0 27 ((4 : Nat) : Int), lm3, ?_, rfl⟩
        rw [stP_y, den_not (m := 0) ht9]
        refine RPO_not (by omega) h27 hag hlg h3 ?_
        first
          | exact (if_pos (by omega)).symm
          | exact (if_neg (by omega)).symm
      · refine q_iconst (t := 47) F dX9_not4_46 rfl ?_
        refine q_goto (t := 51) F dX9_not4_47 (by decide) ?_
        refine q_iret F dX9_not4_51 rfl ?_
        refine ⟨_, rfl, up im3 30 0 27 ((4 : Nat) : Int), lm3, ?_, rfl⟩
        rw [stP_y, den_not (m := 0) ht9]
        refine RPO_not (by omega) h27 hag hlg h3 ?_
        first
          | exact (if_pos (by omega)).symm
          | exact (if_neg (by omega)).symm
    · refine q_iconst (t := 26) F dX9_not4_25 rfl ?_
      refine q_iret F dX9_not4_26 rfl ?_
      exfalso; omega
