/-! a known word, what is opened, a name -/
theorem TK_end {b : Nat → Int} {n p : Nat} {im lm : IM} (hn : p ≤ n) (h : TKr b n im lm p) (h1 : im 30 0 24 = 1) : p < n ∧ isL (b p) = true ∧ im 30 0 23 = (span isL b n p : Nat) := by
  have e := (TK_word h).1.mp h1
  exact ⟨e.1, e.2, (h.2.1 e.1 e.2).2⟩
abbrev wdL (b : Nat → Int) (p e i k : Nat) : Prop := p + k < e ∧ b (p + k) = wlr i k ∨ e ≤ p + k ∧ wlr i k = 0
theorem wd_L {b : Nat → Int} {n p i : Nat} (hp : p < n) (hl : isL (b p) = true) (hi : i < 12) : wd b n p i ↔ (span isL b n p ≤ p + 8 ∧ wdL b p (span isL b n p) i 0 ∧ wdL b p (span isL b n p) i 1 ∧ wdL b p (span isL b n p) i 2 ∧ wdL b p (span isL b n p) i 3 ∧ wdL b p (span isL b n p) i 4 ∧ wdL b p (span isL b n p) i 5 ∧ wdL b p (span isL b n p) i 6 ∧ wdL b p (span isL b n p) i 7) := by
  have hs := span_in isL b n _ p rfl
  have hlt : p < span isL b n p := by
    rw [span_y hp hl]
    have := span_in isL b n _ (p + 1) rfl
    omega
  have h1 := std_iff (n := n) hi hlt (fun q hq hq2 => span_all _ p rfl q hq hq2)
  unfold wd
  rw [wIx_iff hi, h1]
  constructor
  · intro ⟨_, _, h8, h⟩
    exact ⟨h8, h 0 (by omega), h 1 (by omega), h 2 (by omega), h 3 (by omega), h 4 (by omega), h 5 (by omega), h 6 (by omega), h 7 (by omega)⟩
  · intro ⟨h8, a0, a1, a2, a3, a4, a5, a6, a7⟩
    refine ⟨hp, hl, h8, fun k hk => ?_⟩
    rcases (show k = 0 ∨ k = 1 ∨ k = 2 ∨ k = 3 ∨ k = 4 ∨ k = 5 ∨ k = 6 ∨ k = 7 by omega) with rfl | rfl | rfl | rfl | rfl | rfl | rfl | rfl
    · exact a0
    · exact a1
    · exact a2
    · exact a3
    · exact a4
    · exact a5
    · exact a6
    · exact a7

set_option maxHeartbeats 4000000 in
theorem c_X9_isWord_ (l : Launch) (G : GS) (im : IM) (bt rt : Nat) (lm : IM) (b : Nat → Int) (n : Nat) (hb : byt b n) (p : Nat) (f : Int) (h : PQ b n im lm p f) (i : Nat) (hi : i < 12) : Cn l (XR G) yX9_isWord_ Y_X9_isWord_ [vR 30 0, vI (wlr i 0), vI (wlr i 1), vI (wlr i 2), vI (wlr i 3), vI (wlr i 4), vI (wlr i 5), vI (wlr i 6), vI (wlr i 7)] (im, rs bt rt, lm) (pI fun x m' => x = (if f = -1 ∧ wd b n p i then 1 else 0) ∧ m' = (im, rs bt rt, lm)) := by
  refine cn_of (by decide) (okR G) rfl (Nat.le_of_ble_eq_true rfl) ?_
  intro M ad hMl F
  subst hMl
  have hR := h.2.1
  have hB := h.2.2.1
  have hpn := h.2.2.2.1
  have hn := hb.1
  have hbb := h.b01
  have hT1 : f = -1 → im 30 0 24 = 1 → p < n ∧ isL (b p) = true ∧ im 30 0 23 = (span isL b n p : Nat) := fun hf h1 => TK_end hpn (h.1.1 hf).2.2 h1
  have hT2 : f = -1 → p < n → isL (b p) = true → im 30 0 24 = 1 := fun hf h1 h2 => ((h.1.1 hf).2.2.2.1 h1 h2).1
  refine wp_pad 0 ?_
  show Wp M (XR G) ad Y_X9_isWord_ (pI fun x m' => x = (if f = -1 ∧ wd b n p i then 1 else 0) ∧ m' = (im, rs bt rt, lm)) 0 [some (vR 30 0), some (vI (wlr i 0)), some (vI (wlr i 1)), some (vI (wlr i 2)), some (vI (wlr i 3)), some (vI (wlr i 4)), some (vI (wlr i 5)), some (vI (wlr i 6)), some (vI (wlr i 7))] [] (im, rs bt rt, lm)
  refine q_aload_n (t := 1) F dX9_isWord__0 rfl rfl rfl ?_
  refine g_X9_179 (t := 4) F dX9_isWord__1 rfl rfl ?_
  refine q_if_ne (t := 7) (u := 112) F dX9_isWord__4 (by exact hR _ _ _) (by decide) rfl (fun c4 => ?_) (fun c4 => ?_)
  · refine q_iconst (t := 113) F dX9_isWord__112 rfl ?_
    refine q_zret F dX9_isWord__113 rfl (by decide) ?_
    refine ⟨_, rfl, ?_, rfl⟩
    refine Eq.symm ?_
    by_cases hc : f = -1 ∧ wd b n p i
    · refine (if_pos hc).trans ?_
      have g1 := hT2 hc.1 hc.2.1 hc.2.2.1
      have g2 := hT1 hc.1 g1
      have g3 := (wd_L g2.1 g2.2.1 hi).mp hc.2
      have g4 := (h.1.1 hc.1).2.1
      first
        | rfl
        | (exfalso; omega)
        | (exfalso; subst he; simp_all)
        | (exfalso; rw [← he] at g3; simp_all; done)
    · refine (if_neg hc).trans ?_
      first
        | rfl
        | (exfalso; refine hc ⟨by first | assumption | omega, (wd_L hp hl hi).mpr ?_⟩; rw [← he]; exact ⟨by omega, hx32.elim (fun q => q.2) (fun q => absurd q.1 c35), hx41.elim (fun q => q.2) (fun q => absurd q.1 c44), hx50.elim (fun q => q.2) (fun q => absurd q.1 c53), hx60.elim (fun q => q.2) (fun q => absurd q.1 c63), hx70.elim (fun q => q.2) (fun q => absurd q.1 c73), hx80.elim (fun q => q.2) (fun q => absurd q.1 c83), hx91.elim (fun q => q.2) (fun q => absurd q.1 c94), hx102.elim (fun q => q.2) (fun q => absurd q.1 c105)⟩)
  · refine q_aload_n (t := 8) F dX9_isWord__7 rfl rfl rfl ?_
    refine g_X9_164 (t := 11) F dX9_isWord__8 rfl rfl ?_
    refine q_iconst (t := 12) F dX9_isWord__11 rfl ?_
    refine q_icmp_ne (t := 15) (u := 112) F dX9_isWord__12 (by exact hR _ _ _) (by constructor <;> omega) (by decide) rfl (fun c12 => ?_) (fun c12 => ?_)
    · refine q_iconst (t := 113) F dX9_isWord__112 rfl ?_
      refine q_zret F dX9_isWord__113 rfl (by decide) ?_
      refine ⟨_, rfl, ?_, rfl⟩
      refine Eq.symm ?_
      by_cases hc : f = -1 ∧ wd b n p i
      · refine (if_pos hc).trans ?_
        have g1 := hT2 hc.1 hc.2.1 hc.2.2.1
        have g2 := hT1 hc.1 g1
        have g3 := (wd_L g2.1 g2.2.1 hi).mp hc.2
        have g4 := (h.1.1 hc.1).2.1
        first
          | rfl
          | (exfalso; omega)
          | (exfalso; subst he; simp_all)
          | (exfalso; rw [← he] at g3; simp_all; done)
      · refine (if_neg hc).trans ?_
        first
          | rfl
          | (exfalso; refine hc ⟨by first | assumption | omega, (wd_L hp hl hi).mpr ?_⟩; rw [← he]; exact ⟨by omega, hx32.elim (fun q => q.2) (fun q => absurd q.1 c35), hx41.elim (fun q => q.2) (fun q => absurd q.1 c44), hx50.elim (fun q => q.2) (fun q => absurd q.1 c53), hx60.elim (fun q => q.2) (fun q => absurd q.1 c63), hx70.elim (fun q => q.2) (fun q => absurd q.1 c73), hx80.elim (fun q => q.2) (fun q => absurd q.1 c83), hx91.elim (fun q => q.2) (fun q => absurd q.1 c94), hx102.elim (fun q => q.2) (fun q => absurd q.1 c105)⟩)
    · have hf1 : f = -1 := by omega
      obtain ⟨hp, hl, h23⟩ := hT1 hf1 (by omega)
      obtain ⟨e, he⟩ : ∃ e, e = span isL b n p := ⟨_, rfl⟩
      rw [← he] at h23
      have h25 := (h.1.1 (by omega)).2.1
      have hen : e ≤ n := by rw [he]; exact (span_in isL b n _ p rfl).2 (by omega)
      refine q_aload_n (t := 16) F dX9_isWord__15 rfl rfl rfl ?_
      refine g_X9_155 (t := 19) F dX9_isWord__16 rfl rfl ?_
      refine q_aload_n (t := 20) F dX9_isWord__19 rfl rfl rfl ?_
      refine g_X9_161 (t := 23) F dX9_isWord__20 rfl rfl ?_
      refine q_bipush (t := 25) F dX9_isWord__23 (by decide) rfl ?_
      refine q_iadd (t := 26) F dX9_isWord__25 rfl ?_
      refine q_icmp_gt (t := 29) (u := 112) F dX9_isWord__26 (by rw [h23]; constructor <;> omega) (by rw [h25]; constructor <;> omega) (by decide) rfl (fun c26 => ?_) (fun c26 => ?_)
      · refine q_iconst (t := 113) F dX9_isWord__112 rfl ?_
        refine q_zret F dX9_isWord__113 rfl (by decide) ?_
        refine ⟨_, rfl, ?_, rfl⟩
        refine Eq.symm ?_
        by_cases hc : f = -1 ∧ wd b n p i
        · refine (if_pos hc).trans ?_
          have g1 := hT2 hc.1 hc.2.1 hc.2.2.1
          have g2 := hT1 hc.1 g1
          have g3 := (wd_L g2.1 g2.2.1 hi).mp hc.2
          have g4 := (h.1.1 hc.1).2.1
          first
            | rfl
            | (exfalso; omega)
            | (exfalso; subst he; simp_all)
            | (exfalso; rw [← he] at g3; simp_all; done)
        · refine (if_neg hc).trans ?_
          first
            | rfl
            | (exfalso; refine hc ⟨by first | assumption | omega, (wd_L hp hl hi).mpr ?_⟩; rw [← he]; exact ⟨by omega, hx32.elim (fun q => q.2) (fun q => absurd q.1 c35), hx41.elim (fun q => q.2) (fun q => absurd q.1 c44), hx50.elim (fun q => q.2) (fun q => absurd q.1 c53), hx60.elim (fun q => q.2) (fun q => absurd q.1 c63), hx70.elim (fun q => q.2) (fun q => absurd q.1 c73), hx80.elim (fun q => q.2) (fun q => absurd q.1 c83), hx91.elim (fun q => q.2) (fun q => absurd q.1 c94), hx102.elim (fun q => q.2) (fun q => absurd q.1 c105)⟩)
      · refine q_aload_n (t := 30) F dX9_isWord__29 rfl rfl rfl ?_
        refine q_iconst (t := 31) F dX9_isWord__30 rfl ?_
        refine q_iload_n (t := 32) F dX9_isWord__31 rfl rfl rfl ?_
        refine wp_callV (t := 35) [_, _] F dX9_isWord__32 k_X9_isLetter v_X9_isLetter ml_X9_186 rfl rfl rfl rfl (Nat.le_of_ble_eq_true rfl) (by decide) (m_30 (by omega)) (c_X9_isLetter _ G im bt rt _ b n hb hR hB p e hen h25 h23 0 (by omega) hpn (wlr i 0) (wl_ri i hi 0 (by omega))) rfl (kI ?_)
        rintro x32 m' ⟨hx32, rfl⟩
        have hx32 := if01 hx32
        refine q_if_eq (t := 38) (u := 112) F dX9_isWord__35 (by first | exact hR _ _ _ | (constructor <;> omega)) (by decide) rfl (fun c35 => ?_) (fun c35 => ?_)
        · refine q_iconst (t := 113) F dX9_isWord__112 rfl ?_
          refine q_zret F dX9_isWord__113 rfl (by decide) ?_
          refine ⟨_, rfl, ?_, rfl⟩
          refine Eq.symm ?_
          by_cases hc : f = -1 ∧ wd b n p i
          · refine (if_pos hc).trans ?_
            have g1 := hT2 hc.1 hc.2.1 hc.2.2.1
            have g2 := hT1 hc.1 g1
            have g3 := (wd_L g2.1 g2.2.1 hi).mp hc.2
            have g4 := (h.1.1 hc.1).2.1
            first
              | rfl
              | (exfalso; omega)
              | (exfalso; subst he; simp_all)
              | (exfalso; rw [← he] at g3; simp_all; done)
          · refine (if_neg hc).trans ?_
            first
              | rfl
              | (exfalso; refine hc ⟨by first | assumption | omega, (wd_L hp hl hi).mpr ?_⟩; rw [← he]; exact ⟨by omega, hx32.elim (fun q => q.2) (fun q => absurd q.1 c35), hx41.elim (fun q => q.2) (fun q => absurd q.1 c44), hx50.elim (fun q => q.2) (fun q => absurd q.1 c53), hx60.elim (fun q => q.2) (fun q => absurd q.1 c63), hx70.elim (fun q => q.2) (fun q => absurd q.1 c73), hx80.elim (fun q => q.2) (fun q => absurd q.1 c83), hx91.elim (fun q => q.2) (fun q => absurd q.1 c94), hx102.elim (fun q => q.2) (fun q => absurd q.1 c105)⟩)
        · refine q_aload_n (t := 39) F dX9_isWord__38 rfl rfl rfl ?_
          refine q_iconst (t := 40) F dX9_isWord__39 rfl ?_
          refine q_iload_n (t := 41) F dX9_isWord__40 rfl rfl rfl ?_
          refine wp_callV (t := 44) [_, _] F dX9_isWord__41 k_X9_isLetter v_X9_isLetter ml_X9_186 rfl rfl rfl rfl (Nat.le_of_ble_eq_true rfl) (by decide) (m_30 (by omega)) (c_X9_isLetter _ G im bt rt _ b n hb hR hB p e hen h25 h23 1 (by omega) hpn (wlr i 1) (wl_ri i hi 1 (by omega))) rfl (kI ?_)
          rintro x41 m' ⟨hx41, rfl⟩
          have hx41 := if01 hx41
          refine q_if_eq (t := 47) (u := 112) F dX9_isWord__44 (by first | exact hR _ _ _ | (constructor <;> omega)) (by decide) rfl (fun c44 => ?_) (fun c44 => ?_)
          · refine q_iconst (t := 113) F dX9_isWord__112 rfl ?_
            refine q_zret F dX9_isWord__113 rfl (by decide) ?_
            refine ⟨_, rfl, ?_, rfl⟩
            refine Eq.symm ?_
            by_cases hc : f = -1 ∧ wd b n p i
            · refine (if_pos hc).trans ?_
              have g1 := hT2 hc.1 hc.2.1 hc.2.2.1
              have g2 := hT1 hc.1 g1
              have g3 := (wd_L g2.1 g2.2.1 hi).mp hc.2
              have g4 := (h.1.1 hc.1).2.1
              first
                | rfl
                | (exfalso; omega)
                | (exfalso; subst he; simp_all)
                | (exfalso; rw [← he] at g3; simp_all; done)
            · refine (if_neg hc).trans ?_
              first
                | rfl
                | (exfalso; refine hc ⟨by first | assumption | omega, (wd_L hp hl hi).mpr ?_⟩; rw [← he]; exact ⟨by omega, hx32.elim (fun q => q.2) (fun q => absurd q.1 c35), hx41.elim (fun q => q.2) (fun q => absurd q.1 c44), hx50.elim (fun q => q.2) (fun q => absurd q.1 c53), hx60.elim (fun q => q.2) (fun q => absurd q.1 c63), hx70.elim (fun q => q.2) (fun q => absurd q.1 c73), hx80.elim (fun q => q.2) (fun q => absurd q.1 c83), hx91.elim (fun q => q.2) (fun q => absurd q.1 c94), hx102.elim (fun q => q.2) (fun q => absurd q.1 c105)⟩)
          · refine q_aload_n (t := 48) F dX9_isWord__47 rfl rfl rfl ?_
            refine q_iconst (t := 49) F dX9_isWord__48 rfl ?_
            refine q_iload_n (t := 50) F dX9_isWord__49 rfl rfl rfl ?_
            refine wp_callV (t := 53) [_, _] F dX9_isWord__50 k_X9_isLetter v_X9_isLetter ml_X9_186 rfl rfl rfl rfl (Nat.le_of_ble_eq_true rfl) (by decide) (m_30 (by omega)) (c_X9_isLetter _ G im bt rt _ b n hb hR hB p e hen h25 h23 2 (by omega) hpn (wlr i 2) (wl_ri i hi 2 (by omega))) rfl (kI ?_)
            rintro x50 m' ⟨hx50, rfl⟩
            have hx50 := if01 hx50
            refine q_if_eq (t := 56) (u := 112) F dX9_isWord__53 (by first | exact hR _ _ _ | (constructor <;> omega)) (by decide) rfl (fun c53 => ?_) (fun c53 => ?_)
            · refine q_iconst (t := 113) F dX9_isWord__112 rfl ?_
              refine q_zret F dX9_isWord__113 rfl (by decide) ?_
              refine ⟨_, rfl, ?_, rfl⟩
              refine Eq.symm ?_
              by_cases hc : f = -1 ∧ wd b n p i
              · refine (if_pos hc).trans ?_
                have g1 := hT2 hc.1 hc.2.1 hc.2.2.1
                have g2 := hT1 hc.1 g1
                have g3 := (wd_L g2.1 g2.2.1 hi).mp hc.2
                have g4 := (h.1.1 hc.1).2.1
                first
                  | rfl
                  | (exfalso; omega)
                  | (exfalso; subst he; simp_all)
                  | (exfalso; rw [← he] at g3; simp_all; done)
              · refine (if_neg hc).trans ?_
                first
                  | rfl
                  | (exfalso; refine hc ⟨by first | assumption | omega, (wd_L hp hl hi).mpr ?_⟩; rw [← he]; exact ⟨by omega, hx32.elim (fun q => q.2) (fun q => absurd q.1 c35), hx41.elim (fun q => q.2) (fun q => absurd q.1 c44), hx50.elim (fun q => q.2) (fun q => absurd q.1 c53), hx60.elim (fun q => q.2) (fun q => absurd q.1 c63), hx70.elim (fun q => q.2) (fun q => absurd q.1 c73), hx80.elim (fun q => q.2) (fun q => absurd q.1 c83), hx91.elim (fun q => q.2) (fun q => absurd q.1 c94), hx102.elim (fun q => q.2) (fun q => absurd q.1 c105)⟩)
            · refine q_aload_n (t := 57) F dX9_isWord__56 rfl rfl rfl ?_
              refine q_iconst (t := 58) F dX9_isWord__57 rfl ?_
              refine q_iload (t := 60) F dX9_isWord__58 rfl rfl ?_
              refine wp_callV (t := 63) [_, _] F dX9_isWord__60 k_X9_isLetter v_X9_isLetter ml_X9_186 rfl rfl rfl rfl (Nat.le_of_ble_eq_true rfl) (by decide) (m_30 (by omega)) (c_X9_isLetter _ G im bt rt _ b n hb hR hB p e hen h25 h23 3 (by omega) hpn (wlr i 3) (wl_ri i hi 3 (by omega))) rfl (kI ?_)
              rintro x60 m' ⟨hx60, rfl⟩
              have hx60 := if01 hx60
              refine q_if_eq (t := 66) (u := 112) F dX9_isWord__63 (by first | exact hR _ _ _ | (constructor <;> omega)) (by decide) rfl (fun c63 => ?_) (fun c63 => ?_)
              · refine q_iconst (t := 113) F dX9_isWord__112 rfl ?_
                refine q_zret F dX9_isWord__113 rfl (by decide) ?_
                refine ⟨_, rfl, ?_, rfl⟩
                refine Eq.symm ?_
                by_cases hc : f = -1 ∧ wd b n p i
                · refine (if_pos hc).trans ?_
                  have g1 := hT2 hc.1 hc.2.1 hc.2.2.1
                  have g2 := hT1 hc.1 g1
                  have g3 := (wd_L g2.1 g2.2.1 hi).mp hc.2
                  have g4 := (h.1.1 hc.1).2.1
                  first
                    | rfl
                    | (exfalso; omega)
                    | (exfalso; subst he; simp_all)
                    | (exfalso; rw [← he] at g3; simp_all; done)
                · refine (if_neg hc).trans ?_
                  first
                    | rfl
                    | (exfalso; refine hc ⟨by first | assumption | omega, (wd_L hp hl hi).mpr ?_⟩; rw [← he]; exact ⟨by omega, hx32.elim (fun q => q.2) (fun q => absurd q.1 c35), hx41.elim (fun q => q.2) (fun q => absurd q.1 c44), hx50.elim (fun q => q.2) (fun q => absurd q.1 c53), hx60.elim (fun q => q.2) (fun q => absurd q.1 c63), hx70.elim (fun q => q.2) (fun q => absurd q.1 c73), hx80.elim (fun q => q.2) (fun q => absurd q.1 c83), hx91.elim (fun q => q.2) (fun q => absurd q.1 c94), hx102.elim (fun q => q.2) (fun q => absurd q.1 c105)⟩)
              · refine q_aload_n (t := 67) F dX9_isWord__66 rfl rfl rfl ?_
                refine q_iconst (t := 68) F dX9_isWord__67 rfl ?_
                refine q_iload (t := 70) F dX9_isWord__68 rfl rfl ?_
                refine wp_callV (t := 73) [_, _] F dX9_isWord__70 k_X9_isLetter v_X9_isLetter ml_X9_186 rfl rfl rfl rfl (Nat.le_of_ble_eq_true rfl) (by decide) (m_30 (by omega)) (c_X9_isLetter _ G im bt rt _ b n hb hR hB p e hen h25 h23 4 (by omega) hpn (wlr i 4) (wl_ri i hi 4 (by omega))) rfl (kI ?_)
                rintro x70 m' ⟨hx70, rfl⟩
                have hx70 := if01 hx70
                refine q_if_eq (t := 76) (u := 112) F dX9_isWord__73 (by first | exact hR _ _ _ | (constructor <;> omega)) (by decide) rfl (fun c73 => ?_) (fun c73 => ?_)
                · refine q_iconst (t := 113) F dX9_isWord__112 rfl ?_
                  refine q_zret F dX9_isWord__113 rfl (by decide) ?_
                  refine ⟨_, rfl, ?_, rfl⟩
                  refine Eq.symm ?_
                  by_cases hc : f = -1 ∧ wd b n p i
                  · refine (if_pos hc).trans ?_
                    have g1 := hT2 hc.1 hc.2.1 hc.2.2.1
                    have g2 := hT1 hc.1 g1
                    have g3 := (wd_L g2.1 g2.2.1 hi).mp hc.2
                    have g4 := (h.1.1 hc.1).2.1
                    first
                      | rfl
                      | (exfalso; omega)
                      | (exfalso; subst he; simp_all)
                      | (exfalso; rw [← he] at g3; simp_all; done)
                  · refine (if_neg hc).trans ?_
                    first
                      | rfl
                      | (exfalso; refine hc ⟨by first | assumption | omega, (wd_L hp hl hi).mpr ?_⟩; rw [← he]; exact ⟨by omega, hx32.elim (fun q => q.2) (fun q => absurd q.1 c35), hx41.elim (fun q => q.2) (fun q => absurd q.1 c44), hx50.elim (fun q => q.2) (fun q => absurd q.1 c53), hx60.elim (fun q => q.2) (fun q => absurd q.1 c63), hx70.elim (fun q => q.2) (fun q => absurd q.1 c73), hx80.elim (fun q => q.2) (fun q => absurd q.1 c83), hx91.elim (fun q => q.2) (fun q => absurd q.1 c94), hx102.elim (fun q => q.2) (fun q => absurd q.1 c105)⟩)
                · refine q_aload_n (t := 77) F dX9_isWord__76 rfl rfl rfl ?_
                  refine q_iconst (t := 78) F dX9_isWord__77 rfl ?_
                  refine q_iload (t := 80) F dX9_isWord__78 rfl rfl ?_
                  refine wp_callV (t := 83) [_, _] F dX9_isWord__80 k_X9_isLetter v_X9_isLetter ml_X9_186 rfl rfl rfl rfl (Nat.le_of_ble_eq_true rfl) (by decide) (m_30 (by omega)) (c_X9_isLetter _ G im bt rt _ b n hb hR hB p e hen h25 h23 5 (by omega) hpn (wlr i 5) (wl_ri i hi 5 (by omega))) rfl (kI ?_)
                  rintro x80 m' ⟨hx80, rfl⟩
                  have hx80 := if01 hx80
                  refine q_if_eq (t := 86) (u := 112) F dX9_isWord__83 (by first | exact hR _ _ _ | (constructor <;> omega)) (by decide) rfl (fun c83 => ?_) (fun c83 => ?_)
                  · refine q_iconst (t := 113) F dX9_isWord__112 rfl ?_
                    refine q_zret F dX9_isWord__113 rfl (by decide) ?_
                    refine ⟨_, rfl, ?_, rfl⟩
                    refine Eq.symm ?_
                    by_cases hc : f = -1 ∧ wd b n p i
                    · refine (if_pos hc).trans ?_
                      have g1 := hT2 hc.1 hc.2.1 hc.2.2.1
                      have g2 := hT1 hc.1 g1
                      have g3 := (wd_L g2.1 g2.2.1 hi).mp hc.2
                      have g4 := (h.1.1 hc.1).2.1
                      first
                        | rfl
                        | (exfalso; omega)
                        | (exfalso; subst he; simp_all)
                        | (exfalso; rw [← he] at g3; simp_all; done)
                    · refine (if_neg hc).trans ?_
                      first
                        | rfl
                        | (exfalso; refine hc ⟨by first | assumption | omega, (wd_L hp hl hi).mpr ?_⟩; rw [← he]; exact ⟨by omega, hx32.elim (fun q => q.2) (fun q => absurd q.1 c35), hx41.elim (fun q => q.2) (fun q => absurd q.1 c44), hx50.elim (fun q => q.2) (fun q => absurd q.1 c53), hx60.elim (fun q => q.2) (fun q => absurd q.1 c63), hx70.elim (fun q => q.2) (fun q => absurd q.1 c73), hx80.elim (fun q => q.2) (fun q => absurd q.1 c83), hx91.elim (fun q => q.2) (fun q => absurd q.1 c94), hx102.elim (fun q => q.2) (fun q => absurd q.1 c105)⟩)
                  · refine q_aload_n (t := 87) F dX9_isWord__86 rfl rfl rfl ?_
                    refine q_bipush (t := 89) F dX9_isWord__87 (by decide) rfl ?_
                    refine q_iload (t := 91) F dX9_isWord__89 rfl rfl ?_
                    refine wp_callV (t := 94) [_, _] F dX9_isWord__91 k_X9_isLetter v_X9_isLetter ml_X9_186 rfl rfl rfl rfl (Nat.le_of_ble_eq_true rfl) (by decide) (m_30 (by omega)) (c_X9_isLetter _ G im bt rt _ b n hb hR hB p e hen h25 h23 6 (by omega) hpn (wlr i 6) (wl_ri i hi 6 (by omega))) rfl (kI ?_)
                    rintro x91 m' ⟨hx91, rfl⟩
                    have hx91 := if01 hx91
                    refine q_if_eq (t := 97) (u := 112) F dX9_isWord__94 (by first | exact hR _ _ _ | (constructor <;> omega)) (by decide) rfl (fun c94 => ?_) (fun c94 => ?_)
                    · refine q_iconst (t := 113) F dX9_isWord__112 rfl ?_
                      refine q_zret F dX9_isWord__113 rfl (by decide) ?_
                      refine ⟨_, rfl, ?_, rfl⟩
                      refine Eq.symm ?_
                      by_cases hc : f = -1 ∧ wd b n p i
                      · refine (if_pos hc).trans ?_
                        have g1 := hT2 hc.1 hc.2.1 hc.2.2.1
                        have g2 := hT1 hc.1 g1
                        have g3 := (wd_L g2.1 g2.2.1 hi).mp hc.2
                        have g4 := (h.1.1 hc.1).2.1
                        first
                          | rfl
                          | (exfalso; omega)
                          | (exfalso; subst he; simp_all)
                          | (exfalso; rw [← he] at g3; simp_all; done)
                      · refine (if_neg hc).trans ?_
                        first
                          | rfl
                          | (exfalso; refine hc ⟨by first | assumption | omega, (wd_L hp hl hi).mpr ?_⟩; rw [← he]; exact ⟨by omega, hx32.elim (fun q => q.2) (fun q => absurd q.1 c35), hx41.elim (fun q => q.2) (fun q => absurd q.1 c44), hx50.elim (fun q => q.2) (fun q => absurd q.1 c53), hx60.elim (fun q => q.2) (fun q => absurd q.1 c63), hx70.elim (fun q => q.2) (fun q => absurd q.1 c73), hx80.elim (fun q => q.2) (fun q => absurd q.1 c83), hx91.elim (fun q => q.2) (fun q => absurd q.1 c94), hx102.elim (fun q => q.2) (fun q => absurd q.1 c105)⟩)
                    · refine q_aload_n (t := 98) F dX9_isWord__97 rfl rfl rfl ?_
                      refine q_bipush (t := 100) F dX9_isWord__98 (by decide) rfl ?_
                      refine q_iload (t := 102) F dX9_isWord__100 rfl rfl ?_
                      refine wp_callV (t := 105) [_, _] F dX9_isWord__102 k_X9_isLetter v_X9_isLetter ml_X9_186 rfl rfl rfl rfl (Nat.le_of_ble_eq_true rfl) (by decide) (m_30 (by omega)) (c_X9_isLetter _ G im bt rt _ b n hb hR hB p e hen h25 h23 7 (by omega) hpn (wlr i 7) (wl_ri i hi 7 (by omega))) rfl (kI ?_)
                      rintro x102 m' ⟨hx102, rfl⟩
                      have hx102 := if01 hx102
                      refine q_if_eq (t := 108) (u := 112) F dX9_isWord__105 (by first | exact hR _ _ _ | (constructor <;> omega)) (by decide) rfl (fun c105 => ?_) (fun c105 => ?_)
                      · refine q_iconst (t := 113) F dX9_isWord__112 rfl ?_
                        refine q_zret F dX9_isWord__113 rfl (by decide) ?_
                        refine ⟨_, rfl, ?_, rfl⟩
                        refine Eq.symm ?_
                        by_cases hc : f = -1 ∧ wd b n p i
                        · refine (if_pos hc).trans ?_
                          have g1 := hT2 hc.1 hc.2.1 hc.2.2.1
                          have g2 := hT1 hc.1 g1
                          have g3 := (wd_L g2.1 g2.2.1 hi).mp hc.2
                          have g4 := (h.1.1 hc.1).2.1
                          first
                            | rfl
                            | (exfalso; omega)
                            | (exfalso; subst he; simp_all)
                            | (exfalso; rw [← he] at g3; simp_all; done)
                        · refine (if_neg hc).trans ?_
                          first
                            | rfl
                            | (exfalso; refine hc ⟨by first | assumption | omega, (wd_L hp hl hi).mpr ?_⟩; rw [← he]; exact ⟨by omega, hx32.elim (fun q => q.2) (fun q => absurd q.1 c35), hx41.elim (fun q => q.2) (fun q => absurd q.1 c44), hx50.elim (fun q => q.2) (fun q => absurd q.1 c53), hx60.elim (fun q => q.2) (fun q => absurd q.1 c63), hx70.elim (fun q => q.2) (fun q => absurd q.1 c73), hx80.elim (fun q => q.2) (fun q => absurd q.1 c83), hx91.elim (fun q => q.2) (fun q => absurd q.1 c94), hx102.elim (fun q => q.2) (fun q => absurd q.1 c105)⟩)
                      · refine q_iconst (t := 109) F dX9_isWord__108 rfl ?_
                        refine q_goto (t := 113) F dX9_isWord__109 (by decide) ?_
                        refine q_zret F dX9_isWord__113 rfl (by decide) ?_
                        refine ⟨_, rfl, ?_, rfl⟩
                        refine Eq.symm ?_
                        by_cases hc : f = -1 ∧ wd b n p i
                        · refine (if_pos hc).trans ?_
                          have g1 := hT2 hc.1 hc.2.1 hc.2.2.1
                          have g2 := hT1 hc.1 g1
                          have g3 := (wd_L g2.1 g2.2.1 hi).mp hc.2
                          have g4 := (h.1.1 hc.1).2.1
                          first
                            | rfl
                            | (exfalso; omega)
                            | (exfalso; subst he; simp_all)
                            | (exfalso; rw [← he] at g3; simp_all; done)
                        · refine (if_neg hc).trans ?_
                          first
                            | rfl
                            | (exfalso; refine hc ⟨by first | assumption | omega, (wd_L hp hl hi).mpr ?_⟩; rw [← he]; exact ⟨by omega, hx32.elim (fun q => q.2) (fun q => absurd q.1 c35), hx41.elim (fun q => q.2) (fun q => absurd q.1 c44), hx50.elim (fun q => q.2) (fun q => absurd q.1 c53), hx60.elim (fun q => q.2) (fun q => absurd q.1 c63), hx70.elim (fun q => q.2) (fun q => absurd q.1 c73), hx80.elim (fun q => q.2) (fun q => absurd q.1 c83), hx91.elim (fun q => q.2) (fun q => absurd q.1 c94), hx102.elim (fun q => q.2) (fun q => absurd q.1 c105)⟩)
