section
/-! the known words, as the reference asks for them: eight letters, 0 behind the last -/
def wlr (i k : Nat) : Int := if k < lenS.getD i 0 then letS i k else 0
theorem wl_0 : ∀ i, i < 12 → ∀ k, k < 8 → lenS.getD i 0 ≤ 6 ∧ 0 < lenS.getD i 0 ∧ (wlr i k = 0 ↔ lenS.getD i 0 ≤ k) := by decide
theorem wl_ri : ∀ i, i < 12 → ∀ k, k < 8 → 0 ≤ wlr i k ∧ wlr i k ≤ 122 := by decide
theorem wl_ne : ∀ i, i < 12 → ∀ i2, i2 < 12 → i ≠ i2 → lenS.getD i 0 ≠ lenS.getD i2 0 ∨ ∃ j, j < 8 ∧ j < lenS.getD i 0 ∧ letS i j ≠ letS i2 j := by decide
theorem std_one {b : Nat → Int} {p q i i2 : Nat} (hi : i < 12) (hi2 : i2 < 12) (h : stdS b p q i) (h2 : stdS b p q i2) : i = i2 := by
  by_cases e : i = i2
  · exact e
  · exfalso
    rcases wl_ne i hi i2 hi2 e with k | ⟨j, hj, hj2, k⟩
    · exact k (h.1.trans h2.1.symm)
    · exact k ((h.2 j hj2).symm.trans (h2.2 j (by rw [h2.1, ← h.1]; exact hj2)))
theorem wIx_std {b : Nat → Int} {p q i : Nat} (hi : i < 12) (h : stdS b p q i) : ∀ N, i < N → N ≤ 12 → wIx b p q N = i := by
  intro N
  induction N with
  | zero => intro q; omega
  | succ N ih =>
    intro h1 h2
    rw [wIx_s]
    split
    · rename_i hs
      rw [std_one (by omega) hi hs h]
    · rename_i hs
      refine ih ?_ (by omega)
      refine Nat.lt_of_le_of_ne (by omega) (fun e => hs (e ▸ h))
theorem wIx_of {b : Nat → Int} {p q : Nat} : ∀ N : Nat, wIx b p q N ≠ -1 → stdS b p q (wIx b p q N).toNat := by
  intro N
  induction N with
  | zero => intro h; exact absurd rfl h
  | succ N ih =>
    rw [wIx_s]
    split
    · rename_i hs
      intro _
      exact hs
    · exact ih
theorem wIx_iff {b : Nat → Int} {p q i : Nat} (hi : i < 12) : wIx b p q 12 = i ↔ stdS b p q i := by
  constructor
  · intro h
    have := wIx_of (b := b) (p := p) (q := q) 12 (by omega)
    rw [h] at this
    exact this
  · intro h
    exact wIx_std hi h 12 hi (Nat.le_refl 12)
theorem std_iff {b : Nat → Int} {n p e i : Nat} (hi : i < 12) (hpe : p < e) (hl : ∀ q, p ≤ q → q < e → isL (b q) = true) : stdS b p e i ↔ (e ≤ p + 8 ∧ ∀ k, k < 8 → (p + k < e ∧ b (p + k) = wlr i k ∨ e ≤ p + k ∧ wlr i k = 0)) := by
  have h6 := (wl_0 i hi 0 (by omega)).1
  have h7 := (wl_0 i hi 0 (by omega)).2.1
  constructor
  · intro h
    have hL := h.1
    refine ⟨by omega, fun k hk => ?_⟩
    have hw := (wl_0 i hi k hk).2.2
    by_cases hke : p + k < e
    · refine Or.inl ⟨hke, ?_⟩
      have hkl : k < lenS.getD i 0 := by omega
      rw [h.2 k hkl]
      unfold wlr
      rw [if_pos hkl]
    · exact Or.inr ⟨by omega, hw.mpr (by omega)⟩
  · intro h
    have hlen : lenS.getD i 0 = e - p := by
      refine Nat.le_antisymm ?_ ?_
      · by_cases hq : lenS.getD i 0 ≤ e - p
        · exact hq
        · exfalso
          have hk : e - p < 8 := by omega
          have h1 := h.2 (e - p) hk
          have hw := (wl_0 i hi (e - p) hk).2.2
          rcases h1 with k | k
          · omega
          · exact hq (hw.mp k.2)
      · by_cases hq : e - p ≤ lenS.getD i 0
        · exact hq
        · exfalso
          have hk : lenS.getD i 0 < 8 := by omega
          have h1 := h.2 (lenS.getD i 0) hk
          have hw := (wl_0 i hi (lenS.getD i 0) hk).2.2.mpr (Nat.le_refl _)
          have hl1 := isL_iff.mp (hl (p + lenS.getD i 0) (by omega) (by omega))
          rcases h1 with k | k <;> omega
    refine ⟨hlen, fun j hj => ?_⟩
    have h1 := h.2 j (by omega)
    have hw : wlr i j = letS i j := by unfold wlr; rw [if_pos hj]
    rcases h1 with k | k
    · exact k.2.trans hw
    · omega
/-- the word at hand is that one -/
abbrev wd (b : Nat → Int) (n p i : Nat) : Prop := p < n ∧ isL (b p) = true ∧ wIx b p (span isL b n p) 12 = i
theorem tk_L {b : Nat → Int} {n p : Nat} (hp : p < n) (hl : isL (b p) = true) : tk b n p = tkW (wIx b p (span isL b n p) 12) ∧ vl b n p = wIx b p (span isL b n p) 12 := by
  unfold tk vl
  rw [if_neg (by omega), if_pos hl, if_pos hl]
  exact ⟨rfl, rfl⟩
theorem tk_nL {b : Nat → Int} {n p : Nat} (h : ¬ (p < n ∧ isL (b p) = true)) : tk b n p < 3 ∨ 40 ≤ tk b n p := by
  unfold tk sgn
  by_cases hp : n ≤ p
  · rw [if_pos hp]; omega
  · rw [if_neg hp, if_neg (fun q => h ⟨by omega, q⟩)]
    (repeat' split) <;> omega
theorem wd_kw {b : Nat → Int} {n p i : Nat} (h1 : 6 ≤ i) (h2 : i < 12) : wd b n p i ↔ tk b n p = (i : Int) - 2 := by
  unfold wd
  constructor
  · intro ⟨hp, hl, h⟩
    rw [(tk_L hp hl).1, h]
    unfold tkW
    rw [if_neg (by omega), if_neg (by omega)]
  · intro h
    by_cases hc : p < n ∧ isL (b p) = true
    · refine ⟨hc.1, hc.2, ?_⟩
      rw [(tk_L hc.1 hc.2).1] at h
      unfold tkW at h
      (repeat' split at h) <;> omega
    · have := tk_nL hc
      omega
theorem wd_nm {b : Nat → Int} {n p i : Nat} (h2 : i < 6) : wd b n p i ↔ tk b n p = 3 ∧ vl b n p = i := by
  unfold wd
  have hw := wIx_in b p (span isL b n p) 12
  constructor
  · intro ⟨hp, hl, h⟩
    rw [(tk_L hp hl).1, (tk_L hp hl).2, h]
    refine ⟨?_, rfl⟩
    unfold tkW
    rw [if_neg (by omega), if_pos (by omega)]
  · intro ⟨h, h3⟩
    by_cases hc : p < n ∧ isL (b p) = true
    · refine ⟨hc.1, hc.2, ?_⟩
      rw [(tk_L hc.1 hc.2).2] at h3
      exact h3
    · have := tk_nL hc
      omega
theorem tk_3 {b : Nat → Int} {n p : Nat} (h : tk b n p = 3) : ∃ i : Nat, i < 6 ∧ vl b n p = i ∧ wd b n p i := by
  by_cases hc : p < n ∧ isL (b p) = true
  · have hw := wIx_in b p (span isL b n p) 12
    have e := tk_L hc.1 hc.2
    rw [h] at e
    have e1 := e.1
    unfold tkW at e1
    obtain ⟨i, hi⟩ : ∃ i : Nat, wIx b p (span isL b n p) 12 = i := ⟨(wIx b p (span isL b n p) 12).toNat, by split at e1; omega; split at e1 <;> omega⟩
    refine ⟨i, ?_, e.2.trans hi, hc.1, hc.2, hi⟩
    split at e1
    · omega
    · split at e1 <;> omega
  · have := tk_nL hc
    omega
/-- the end of the token at hand -/
def eT (b : Nat → Int) (n p : Nat) : Nat := span isL b n p

set_option maxHeartbeats 4000000 in
theorem c_X9_isLetter (l : Launch) (G : GS) (im : IM) (bt rt : Nat) (lm : IM) (b : Nat → Int) (n : Nat) (hb : byt b n) (hR : RI im) (hB : BRr b n im) (p e : Nat) (he : e ≤ n) (h25 : im 30 0 25 = p) (h23 : im 30 0 23 = e) (k : Nat) (hk : k < 8) (hpn : p ≤ n) (c : Int) (hc : 0 ≤ c ∧ c ≤ 122) : Cn l (XR G) yX9_isLetter Y_X9_isLetter [vR 30 0, vI (k : Int), vI c] (im, rs bt rt, lm) (pI fun x m' => x = (if p + k < e ∧ b (p + k) = c ∨ e ≤ p + k ∧ c = 0 then 1 else 0) ∧ m' = (im, rs bt rt, lm)) := by
  refine cn_of (by decide) (okR G) rfl (Nat.le_of_ble_eq_true rfl) ?_
  intro M ad hMl F
  subst hMl
  have hn := hb.1
  have e25 : im 30 0 25 + (k : Int) = ((p + k : Nat) : Int) := by omega
  have hbp : p + k < n → 0 ≤ b (p + k) ∧ b (p + k) ≤ 255 := fun q => hb.2 (p + k) (by omega)
  refine wp_pad 0 ?_
  show Wp M (XR G) ad Y_X9_isLetter (pI fun x m' => x = (if p + k < e ∧ b (p + k) = c ∨ e ≤ p + k ∧ c = 0 then 1 else 0) ∧ m' = (im, rs bt rt, lm)) 0 [some (vR 30 0), some (vI (k : Int)), some (vI c)] [] (im, rs bt rt, lm)
  refine q_aload_n (t := 1) F dX9_isLetter_0 rfl rfl rfl ?_
  refine g_X9_161 (t := 4) F dX9_isLetter_1 rfl rfl ?_
  refine q_iload_n (t := 5) F dX9_isLetter_4 rfl rfl rfl ?_
  refine q_iadd (t := 6) F dX9_isLetter_5 rfl ?_
  refine q_aload_n (t := 7) F dX9_isLetter_6 rfl rfl rfl ?_
  refine g_X9_155 (t := 10) F dX9_isLetter_7 rfl rfl ?_
  refine q_icmp_ge (t := 13) (u := 35) F dX9_isLetter_10 (by rw [h25]; constructor <;> omega) (by rw [h23]; constructor <;> omega) (by decide) rfl (fun c10 => ?_) (fun c10 => ?_)
  · refine q_iload_n (t := 36) F dX9_isLetter_35 rfl rfl rfl ?_
    refine q_if_ne (t := 39) (u := 43) F dX9_isLetter_36 (by constructor <;> omega) (by decide) rfl (fun c36 => ?_) (fun c36 => ?_)
    · refine q_iconst (t := 44) F dX9_isLetter_43 rfl ?_
      refine q_zret F dX9_isLetter_44 rfl (by decide) ?_
      refine ⟨_, rfl, ?_, rfl⟩
      refine Eq.symm ?_
      first
        | exact if_pos (by omega)
        | exact if_neg (by omega)
    · refine q_iconst (t := 40) F dX9_isLetter_39 rfl ?_
      refine q_goto (t := 44) F dX9_isLetter_40 (by decide) ?_
      refine q_zret F dX9_isLetter_44 rfl (by decide) ?_
      refine ⟨_, rfl, ?_, rfl⟩
      refine Eq.symm ?_
      first
        | exact if_pos (by omega)
        | exact if_neg (by omega)
  · refine q_aload_n (t := 14) F dX9_isLetter_13 rfl rfl rfl ?_
    refine q_aload_n (t := 15) F dX9_isLetter_14 rfl rfl rfl ?_
    refine g_X9_161 (t := 18) F dX9_isLetter_15 rfl rfl ?_
    refine q_iload_n (t := 19) F dX9_isLetter_18 rfl rfl rfl ?_
    refine q_iadd (t := 20) F dX9_isLetter_19 rfl ?_
    rw [e25]
    refine wp_callV (t := 23) [_] F dX9_isLetter_20 k_X9_byteAt v_X9_byteAt ml_X9_158 rfl rfl rfl rfl (Nat.le_of_ble_eq_true rfl) (by decide) (m_30 (by omega)) (c_X9_byteAt _ G im bt rt _ b n hb hR hB (p + k) (by omega)) rfl (kI ?_)
    rintro x20 m' ⟨hx20, rfl⟩
    refine q_iload_n (t := 24) F dX9_isLetter_23 rfl rfl rfl ?_
    refine q_icmp_ne (t := 27) (u := 31) F dX9_isLetter_24 (by rcases hx20 with q | q <;> constructor <;> omega) (by constructor <;> omega) (by decide) rfl (fun c24 => ?_) (fun c24 => ?_)
    · refine q_iconst (t := 32) F dX9_isLetter_31 rfl ?_
      refine q_goto (t := 44) F dX9_isLetter_32 (by decide) ?_
      refine q_zret F dX9_isLetter_44 rfl (by decide) ?_
      refine ⟨_, rfl, ?_, rfl⟩
      refine Eq.symm ?_
      first
        | exact if_pos (by omega)
        | exact if_neg (by omega)
    · refine q_iconst (t := 28) F dX9_isLetter_27 rfl ?_
      refine q_goto (t := 44) F dX9_isLetter_28 (by decide) ?_
      refine q_zret F dX9_isLetter_44 rfl (by decide) ?_
      refine ⟨_, rfl, ?_, rfl⟩
      refine Eq.symm ?_
      first
        | exact if_pos (by omega)
        | exact if_neg (by omega)
end
section
/-! a known word, what is opened, a name -/
theorem TK_end {b : Nat → Int} {n p : Nat} {im lm : IM} (hn : p ≤ n) (h : TKr b n im lm p) (h1 : im 30 0 24 = 1) : p < n ∧ isL (b p) = true ∧ im 30 0 23 = (span isL b n p : Nat) := by
  have e := (TK_word h).1.mp h1
  exact ⟨e.1, e.2, (h.2.1 e.1 e.2).2⟩
abbrev wdL (b : Nat → Int) (p e i k : Nat) : Prop := p + k < e ∧ b (p + k) = wlr i k ∨ e ≤ p + k ∧ wlr i k = 0
theorem wd_L {b : Nat → Int} {n p i : Nat} (hp : p < n) (hl : isL (b p) = true) (hi : i < 12) : wd b n p i ↔ (span isL b n p ≤ p + 8 ∧ wdL b p (span isL b n p) i 0 ∧ wdL b p (span isL b n p) i 1 ∧ wdL b p (span isL b n p) i 2 ∧ wdL b p (span isL b n p) i 3 ∧ wdL b p (span isL b n p) i 4 ∧ wdL b p (span isL b n p) i 5 ∧ wdL b p (span isL b n p) i 6 ∧ wdL b p (span isL b n p) i 7) := by
  have hs := span_in isL b n _ p rfl
  have hlt : p < span isL b n p := by
    rw [span_y hp hl]
    have := span_in isL b n _ (p + 1) rfl
    omega
  have h1 := std_iff (n := n) hi hlt (fun q hq hq2 => span_all _ p rfl q hq hq2)
  unfold wd
  rw [wIx_iff hi, h1]
  constructor
  · intro ⟨_, _, h8, h⟩
    exact ⟨h8, h 0 (by omega), h 1 (by omega), h 2 (by omega), h 3 (by omega), h 4 (by omega), h 5 (by omega), h 6 (by omega), h 7 (by omega)⟩
  · intro ⟨h8, a0, a1, a2, a3, a4, a5, a6, a7⟩
    refine ⟨hp, hl, h8, fun k hk => ?_⟩
    rcases (show k = 0 ∨ k = 1 ∨ k = 2 ∨ k = 3 ∨ k = 4 ∨ k = 5 ∨ k = 6 ∨ k = 7 by omega) with rfl | rfl | rfl | rfl | rfl | rfl | rfl | rfl
    · exact a0
    · exact a1
    · exact a2
    · exact a3
    · exact a4
    · exact a5
    · exact a6
    · exact a7

set_option maxHeartbeats 4000000 in
theorem c_X9_isWord_ (l : Launch) (G : GS) (im : IM) (bt rt : Nat) (lm : IM) (b : Nat → Int) (n : Nat) (hb : byt b n) (p : Nat) (f : Int) (h : PQ b n im lm p f) (i : Nat) (hi : i < 12) : Cn l (XR G) yX9_isWord_ Y_X9_isWord_ [vR 30 0, vI (wlr i 0), vI (wlr i 1), vI (wlr i 2), vI (wlr i 3), vI (wlr i 4), vI (wlr i 5), vI (wlr i 6), vI (wlr i 7)] (im, rs bt rt, lm) (pI fun x m' => x = (if f = -1 ∧ wd b n p i then 1 else 0) ∧ m' = (im, rs bt rt, lm)) := by
  refine cn_of (by decide) (okR G) rfl (Nat.le_of_ble_eq_true rfl) ?_
  intro M ad hMl F
  subst hMl
  have hR := h.2.1
  have hB := h.2.2.1
  have hpn := h.2.2.2.1
  have hn := hb.1
  have hbb := h.b01
  have hT1 : f = -1 → im 30 0 24 = 1 → p < n ∧ isL (b p) = true ∧ im 30 0 23 = (span isL b n p : Nat) := fun hf h1 => TK_end hpn (h.1.1 hf).2.2 h1
  have hT2 : f = -1 → p < n → isL (b p) = true → im 30 0 24 = 1 := fun hf h1 h2 => ((h.1.1 hf).2.2.2.1 h1 h2).1
  refine wp_pad 0 ?_
  show Wp M (XR G) ad Y_X9_isWord_ (pI fun x m' => x = (if f = -1 ∧ wd b n p i then 1 else 0) ∧ m' = (im, rs bt rt, lm)) 0 [some (vR 30 0), some (vI (wlr i 0)), some (vI (wlr i 1)), some (vI (wlr i 2)), some (vI (wlr i 3)), some (vI (wlr i 4)), some (vI (wlr i 5)), some (vI (wlr i 6)), some (vI (wlr i 7))] [] (im, rs bt rt, lm)
  refine q_aload_n (t := 1) F dX9_isWord__0 rfl rfl rfl ?_
  refine g_X9_179 (t := 4) F dX9_isWord__1 rfl rfl ?_
  refine q_if_ne (t := 7) (u := 112) F dX9_isWord__4 (by exact hR _ _ _) (by decide) rfl (fun c4 => ?_) (fun c4 => ?_)
  · refine q_iconst (t := 113) F dX9_isWord__112 rfl ?_
    refine q_zret F dX9_isWord__113 rfl (by decide) ?_
    refine ⟨_, rfl, ?_, rfl⟩
    refine Eq.symm ?_
    by_cases hc : f = -1 ∧ wd b n p i
    · refine (if_pos hc).trans ?_
      have g1 := hT2 hc.1 hc.2.1 hc.2.2.1
      have g2 := hT1 hc.1 g1
      have g3 := (wd_L g2.1 g2.2.1 hi).mp hc.2
      have g4 := (h.1.1 hc.1).2.1
      first
        | rfl
        | (exfalso; omega)
        | (exfalso; subst he; simp_all)
        | (exfalso; rw [← he] at g3; simp_all; done)
    · refine (if_neg hc).trans ?_
      first
        | rfl
        | (exfalso; refine hc ⟨by first | assumption | omega, (wd_L hp hl hi).mpr ?_⟩; rw [← he]; exact ⟨by omega, hx32.elim (fun q => q.2) (fun q => absurd q.1 c35), hx41.elim (fun q => q.2) (fun q => absurd q.1 c44), hx50.elim (fun q => q.2) (fun q => absurd q.1 c53), hx60.elim (fun q => q.2) (fun q => absurd q.1 c63), hx70.elim (fun q => q.2) (fun q => absurd q.1 c73), hx80.elim (fun q => q.2) (fun q => absurd q.1 c83), hx91.elim (fun q => q.2) (fun q => absurd q.1 c94), hx102.elim (fun q => q.2) (fun q => absurd q.1 c105)⟩)
  · refine q_aload_n (t := 8) F dX9_isWord__7 rfl rfl rfl ?_
    refine g_X9_164 (t := 11) F dX9_isWord__8 rfl rfl ?_
    refine q_iconst (t := 12) F dX9_isWord__11 rfl ?_
    refine q_icmp_ne (t := 15) (u := 112) F dX9_isWord__12 (by exact hR _ _ _) (by constructor <;> omega) (by decide) rfl (fun c12 => ?_) (fun c12 => ?_)
    · refine q_iconst (t := 113) F dX9_isWord__112 rfl ?_
      refine q_zret F dX9_isWord__113 rfl (by decide) ?_
      refine ⟨_, rfl, ?_, rfl⟩
      refine Eq.symm ?_
      by_cases hc : f = -1 ∧ wd b n p i
      · refine (if_pos hc).trans ?_
        have g1 := hT2 hc.1 hc.2.1 hc.2.2.1
        have g2 := hT1 hc.1 g1
        have g3 := (wd_L g2.1 g2.2.1 hi).mp hc.2
        have g4 := (h.1.1 hc.1).2.1
        first
          | rfl
          | (exfalso; omega)
          | (exfalso; subst he; simp_all)
          | (exfalso; rw [← he] at g3; simp_all; done)
      · refine (if_neg hc).trans ?_
        first
          | rfl
          | (exfalso; refine hc ⟨by first | assumption | omega, (wd_L hp hl hi).mpr ?_⟩; rw [← he]; exact ⟨by omega, hx32.elim (fun q => q.2) (fun q => absurd q.1 c35), hx41.elim (fun q => q.2) (fun q => absurd q.1 c44), hx50.elim (fun q => q.2) (fun q => absurd q.1 c53), hx60.elim (fun q => q.2) (fun q => absurd q.1 c63), hx70.elim (fun q => q.2) (fun q => absurd q.1 c73), hx80.elim (fun q => q.2) (fun q => absurd q.1 c83), hx91.elim (fun q => q.2) (fun q => absurd q.1 c94), hx102.elim (fun q => q.2) (fun q => absurd q.1 c105)⟩)
    · have hf1 : f = -1 := by omega
      obtain ⟨hp, hl, h23⟩ := hT1 hf1 (by omega)
      obtain ⟨e, he⟩ : ∃ e, e = span isL b n p := ⟨_, rfl⟩
      rw [← he] at h23
      have h25 := (h.1.1 (by omega)).2.1
      have hen : e ≤ n := by rw [he]; exact (span_in isL b n _ p rfl).2 (by omega)
      refine q_aload_n (t := 16) F dX9_isWord__15 rfl rfl rfl ?_
      refine g_X9_155 (t := 19) F dX9_isWord__16 rfl rfl ?_
      refine q_aload_n (t := 20) F dX9_isWord__19 rfl rfl rfl ?_
      refine g_X9_161 (t := 23) F dX9_isWord__20 rfl rfl ?_
      refine q_bipush (t := 25) F dX9_isWord__23 (by decide) rfl ?_
      refine q_iadd (t := 26) F dX9_isWord__25 rfl ?_
      refine q_icmp_gt (t := 29) (u := 112) F dX9_isWord__26 (by rw [h23]; constructor <;> omega) (by rw [h25]; constructor <;> omega) (by decide) rfl (fun c26 => ?_) (fun c26 => ?_)
      · refine q_iconst (t := 113) F dX9_isWord__112 rfl ?_
        refine q_zret F dX9_isWord__113 rfl (by decide) ?_
        refine ⟨_, rfl, ?_, rfl⟩
        refine Eq.symm ?_
        by_cases hc : f = -1 ∧ wd b n p i
        · refine (if_pos hc).trans ?_
          have g1 := hT2 hc.1 hc.2.1 hc.2.2.1
          have g2 := hT1 hc.1 g1
          have g3 := (wd_L g2.1 g2.2.1 hi).mp hc.2
          have g4 := (h.1.1 hc.1).2.1
          first
            | rfl
            | (exfalso; omega)
            | (exfalso; subst he; simp_all)
            | (exfalso; rw [← he] at g3; simp_all; done)
        · refine (if_neg hc).trans ?_
          first
            | rfl
            | (exfalso; refine hc ⟨by first | assumption | omega, (wd_L hp hl hi).mpr ?_⟩; rw [← he]; exact ⟨by omega, hx32.elim (fun q => q.2) (fun q => absurd q.1 c35), hx41.elim (fun q => q.2) (fun q => absurd q.1 c44), hx50.elim (fun q => q.2) (fun q => absurd q.1 c53), hx60.elim (fun q => q.2) (fun q => absurd q.1 c63), hx70.elim (fun q => q.2) (fun q => absurd q.1 c73), hx80.elim (fun q => q.2) (fun q => absurd q.1 c83), hx91.elim (fun q => q.2) (fun q => absurd q.1 c94), hx102.elim (fun q => q.2) (fun q => absurd q.1 c105)⟩)
      · refine q_aload_n (t := 30) F dX9_isWord__29 rfl rfl rfl ?_
        refine q_iconst (t := 31) F dX9_isWord__30 rfl ?_
        refine q_iload_n (t := 32) F dX9_isWord__31 rfl rfl rfl ?_
        refine wp_callV (t := 35) [_, _] F dX9_isWord__32 k_X9_isLetter v_X9_isLetter ml_X9_186 rfl rfl rfl rfl (Nat.le_of_ble_eq_true rfl) (by decide) (m_30 (by omega)) (c_X9_isLetter _ G im bt rt _ b n hb hR hB p e hen h25 h23 0 (by omega) hpn (wlr i 0) (wl_ri i hi 0 (by omega))) rfl (kI ?_)
        rintro x32 m' ⟨hx32, rfl⟩
        have hx32 := if01 hx32
        refine q_if_eq (t := 38) (u := 112) F dX9_isWord__35 (by first | exact hR _ _ _ | (constructor <;> omega)) (by decide) rfl (fun c35 => ?_) (fun c35 => ?_)
        · refine q_iconst (t := 113) F dX9_isWord__112 rfl ?_
          refine q_zret F dX9_isWord__113 rfl (by decide) ?_
          refine ⟨_, rfl, ?_, rfl⟩
          refine Eq.symm ?_
          by_cases hc : f = -1 ∧ wd b n p i
          · refine (if_pos hc).trans ?_
            have g1 := hT2 hc.1 hc.2.1 hc.2.2.1
            have g2 := hT1 hc.1 g1
            have g3 := (wd_L g2.1 g2.2.1 hi).mp hc.2
            have g4 := (h.1.1 hc.1).2.1
            first
              | rfl
              | (exfalso; omega)
              | (exfalso; subst he; simp_all)
              | (exfalso; rw [← he] at g3; simp_all; done)
          · refine (if_neg hc).trans ?_
            first
              | rfl
              | (exfalso; refine hc ⟨by first | assumption | omega, (wd_L hp hl hi).mpr ?_⟩; rw [← he]; exact ⟨by omega, hx32.elim (fun q => q.2) (fun q => absurd q.1 c35), hx41.elim (fun q => q.2) (fun q => absurd q.1 c44), hx50.elim (fun q => q.2) (fun q => absurd q.1 c53), hx60.elim (fun q => q.2) (fun q => absurd q.1 c63), hx70.elim (fun q => q.2) (fun q => absurd q.1 c73), hx80.elim (fun q => q.2) (fun q => absurd q.1 c83), hx91.elim (fun q => q.2) (fun q => absurd q.1 c94), hx102.elim (fun q => q.2) (fun q => absurd q.1 c105)⟩)
        · refine q_aload_n (t := 39) F dX9_isWord__38 rfl rfl rfl ?_
          refine q_iconst (t := 40) F dX9_isWord__39 rfl ?_
          refine q_iload_n (t := 41) F dX9_isWord__40 rfl rfl rfl ?_
          refine wp_callV (t := 44) [_, _] F dX9_isWord__41 k_X9_isLetter v_X9_isLetter ml_X9_186 rfl rfl rfl rfl (Nat.le_of_ble_eq_true rfl) (by decide) (m_30 (by omega)) (c_X9_isLetter _ G im bt rt _ b n hb hR hB p e hen h25 h23 1 (by omega) hpn (wlr i 1) (wl_ri i hi 1 (by omega))) rfl (kI ?_)
          rintro x41 m' ⟨hx41, rfl⟩
          have hx41 := if01 hx41
          refine q_if_eq (t := 47) (u := 112) F dX9_isWord__44 (by first | exact hR _ _ _ | (constructor <;> omega)) (by decide) rfl (fun c44 => ?_) (fun c44 => ?_)
          · refine q_iconst (t := 113) F dX9_isWord__112 rfl ?_
            refine q_zret F dX9_isWord__113 rfl (by decide) ?_
            refine ⟨_, rfl, ?_, rfl⟩
            refine Eq.symm ?_
            by_cases hc : f = -1 ∧ wd b n p i
            · refine (if_pos hc).trans ?_
              have g1 := hT2 hc.1 hc.2.1 hc.2.2.1
              have g2 := hT1 hc.1 g1
              have g3 := (wd_L g2.1 g2.2.1 hi).mp hc.2
              have g4 := (h.1.1 hc.1).2.1
              first
                | rfl
                | (exfalso; omega)
                | (exfalso; subst he; simp_all)
                | (exfalso; rw [← he] at g3; simp_all; done)
            · refine (if_neg hc).trans ?_
              first
                | rfl
                | (exfalso; refine hc ⟨by first | assumption | omega, (wd_L hp hl hi).mpr ?_⟩; rw [← he]; exact ⟨by omega, hx32.elim (fun q => q.2) (fun q => absurd q.1 c35), hx41.elim (fun q => q.2) (fun q => absurd q.1 c44), hx50.elim (fun q => q.2) (fun q => absurd q.1 c53), hx60.elim (fun q => q.2) (fun q => absurd q.1 c63), hx70.elim (fun q => q.2) (fun q => absurd q.1 c73), hx80.elim (fun q => q.2) (fun q => absurd q.1 c83), hx91.elim (fun q => q.2) (fun q => absurd q.1 c94), hx102.elim (fun q => q.2) (fun q => absurd q.1 c105)⟩)
          · refine q_aload_n (t := 48) F dX9_isWord__47 rfl rfl rfl ?_
            refine q_iconst (t := 49) F dX9_isWord__48 rfl ?_
            refine q_iload_n (t := 50) F dX9_isWord__49 rfl rfl rfl ?_
            refine wp_callV (t := 53) [_, _] F dX9_isWord__50 k_X9_isLetter v_X9_isLetter ml_X9_186 rfl rfl rfl rfl (Nat.le_of_ble_eq_true rfl) (by decide) (m_30 (by omega)) (c_X9_isLetter _ G im bt rt _ b n hb hR hB p e hen h25 h23 2 (by omega) hpn (wlr i 2) (wl_ri i hi 2 (by omega))) rfl (kI ?_)
            rintro x50 m' ⟨hx50, rfl⟩
            have hx50 := if01 hx50
            refine q_if_eq (t := 56) (u := 112) F dX9_isWord__53 (by first | exact hR _ _ _ | (constructor <;> omega)) (by decide) rfl (fun c53 => ?_) (fun c53 => ?_)
            · refine q_iconst (t := 113) F dX9_isWord__112 rfl ?_
              refine q_zret F dX9_isWord__113 rfl (by decide) ?_
              refine ⟨_, rfl, ?_, rfl⟩
              refine Eq.symm ?_
              by_cases hc : f = -1 ∧ wd b n p i
              · refine (if_pos hc).trans ?_
                have g1 := hT2 hc.1 hc.2.1 hc.2.2.1
                have g2 := hT1 hc.1 g1
                have g3 := (wd_L g2.1 g2.2.1 hi).mp hc.2
                have g4 := (h.1.1 hc.1).2.1
                first
                  | rfl
                  | (exfalso; omega)
                  | (exfalso; subst he; simp_all)
                  | (exfalso; rw [← he] at g3; simp_all; done)
              · refine (if_neg hc).trans ?_
                first
                  | rfl
                  | (exfalso; refine hc ⟨by first | assumption | omega, (wd_L hp hl hi).mpr ?_⟩; rw [← he]; exact ⟨by omega, hx32.elim (fun q => q.2) (fun q => absurd q.1 c35), hx41.elim (fun q => q.2) (fun q => absurd q.1 c44), hx50.elim (fun q => q.2) (fun q => absurd q.1 c53), hx60.elim (fun q => q.2) (fun q => absurd q.1 c63), hx70.elim (fun q => q.2) (fun q => absurd q.1 c73), hx80.elim (fun q => q.2) (fun q => absurd q.1 c83), hx91.elim (fun q => q.2) (fun q => absurd q.1 c94), hx102.elim (fun q => q.2) (fun q => absurd q.1 c105)⟩)
            · refine q_aload_n (t := 57) F dX9_isWord__56 rfl rfl rfl ?_
              refine q_iconst (t := 58) F dX9_isWord__57 rfl ?_
              refine q_iload (t := 60) F dX9_isWord__58 rfl rfl ?_
              refine wp_callV (t := 63) [_, _] F dX9_isWord__60 k_X9_isLetter v_X9_isLetter ml_X9_186 rfl rfl rfl rfl (Nat.le_of_ble_eq_true rfl) (by decide) (m_30 (by omega)) (c_X9_isLetter _ G im bt rt _ b n hb hR hB p e hen h25 h23 3 (by omega) hpn (wlr i 3) (wl_ri i hi 3 (by omega))) rfl (kI ?_)
              rintro x60 m' ⟨hx60, rfl⟩
              have hx60 := if01 hx60
              refine q_if_eq (t := 66) (u := 112) F dX9_isWord__63 (by first | exact hR _ _ _ | (constructor <;> omega)) (by decide) rfl (fun c63 => ?_) (fun c63 => ?_)
              · refine q_iconst (t := 113) F dX9_isWord__112 rfl ?_
                refine q_zret F dX9_isWord__113 rfl (by decide) ?_
                refine ⟨_, rfl, ?_, rfl⟩
                refine Eq.symm ?_
                by_cases hc : f = -1 ∧ wd b n p i
                · refine (if_pos hc).trans ?_
                  have g1 := hT2 hc.1 hc.2.1 hc.2.2.1
                  have g2 := hT1 hc.1 g1
                  have g3 := (wd_L g2.1 g2.2.1 hi).mp hc.2
                  have g4 := (h.1.1 hc.1).2.1
                  first
                    | rfl
                    | (exfalso; omega)
                    | (exfalso; subst he; simp_all)
                    | (exfalso; rw [← he] at g3; simp_all; done)
                · refine (if_neg hc).trans ?_
                  first
                    | rfl
                    | (exfalso; refine hc ⟨by first | assumption | omega, (wd_L hp hl hi).mpr ?_⟩; rw [← he]; exact ⟨by omega, hx32.elim (fun q => q.2) (fun q => absurd q.1 c35), hx41.elim (fun q => q.2) (fun q => absurd q.1 c44), hx50.elim (fun q => q.2) (fun q => absurd q.1 c53), hx60.elim (fun q => q.2) (fun q => absurd q.1 c63), hx70.elim (fun q => q.2) (fun q => absurd q.1 c73), hx80.elim (fun q => q.2) (fun q => absurd q.1 c83), hx91.elim (fun q => q.2) (fun q => absurd q.1 c94), hx102.elim (fun q => q.2) (fun q => absurd q.1 c105)⟩)
              · refine q_aload_n (t := 67) F dX9_isWord__66 rfl rfl rfl ?_
                refine q_iconst (t := 68) F dX9_isWord__67 rfl ?_
                refine q_iload (t := 70) F dX9_isWord__68 rfl rfl ?_
                refine wp_callV (t := 73) [_, _] F dX9_isWord__70 k_X9_isLetter v_X9_isLetter ml_X9_186 rfl rfl rfl rfl (Nat.le_of_ble_eq_true rfl) (by decide) (m_30 (by omega)) (c_X9_isLetter _ G im bt rt _ b n hb hR hB p e hen h25 h23 4 (by omega) hpn (wlr i 4) (wl_ri i hi 4 (by omega))) rfl (kI ?_)
                rintro x70 m' ⟨hx70, rfl⟩
                have hx70 := if01 hx70
                refine q_if_eq (t := 76) (u := 112) F dX9_isWord__73 (by first | exact hR _ _ _ | (constructor <;> omega)) (by decide) rfl (fun c73 => ?_) (fun c73 => ?_)
                · refine q_iconst (t := 113) F dX9_isWord__112 rfl ?_
                  refine q_zret F dX9_isWord__113 rfl (by decide) ?_
                  refine ⟨_, rfl, ?_, rfl⟩
                  refine Eq.symm ?_
                  by_cases hc : f = -1 ∧ wd b n p i
                  · refine (if_pos hc).trans ?_
                    have g1 := hT2 hc.1 hc.2.1 hc.2.2.1
                    have g2 := hT1 hc.1 g1
                    have g3 := (wd_L g2.1 g2.2.1 hi).mp hc.2
                    have g4 := (h.1.1 hc.1).2.1
                    first
                      | rfl
                      | (exfalso; omega)
                      | (exfalso; subst he; simp_all)
                      | (exfalso; rw [← he] at g3; simp_all; done)
                  · refine (if_neg hc).trans ?_
                    first
                      | rfl
                      | (exfalso; refine hc ⟨by first | assumption | omega, (wd_L hp hl hi).mpr ?_⟩; rw [← he]; exact ⟨by omega, hx32.elim (fun q => q.2) (fun q => absurd q.1 c35), hx41.elim (fun q => q.2) (fun q => absurd q.1 c44), hx50.elim (fun q => q.2) (fun q => absurd q.1 c53), hx60.elim (fun q => q.2) (fun q => absurd q.1 c63), hx70.elim (fun q => q.2) (fun q => absurd q.1 c73), hx80.elim (fun q => q.2) (fun q => absurd q.1 c83), hx91.elim (fun q => q.2) (fun q => absurd q.1 c94), hx102.elim (fun q => q.2) (fun q => absurd q.1 c105)⟩)
                · refine q_aload_n (t := 77) F dX9_isWord__76 rfl rfl rfl ?_
                  refine q_iconst (t := 78) F dX9_isWord__77 rfl ?_
                  refine q_iload (t := 80) F dX9_isWord__78 rfl rfl ?_
                  refine wp_callV (t := 83) [_, _] F dX9_isWord__80 k_X9_isLetter v_X9_isLetter ml_X9_186 rfl rfl rfl rfl (Nat.le_of_ble_eq_true rfl) (by decide) (m_30 (by omega)) (c_X9_isLetter _ G im bt rt _ b n hb hR hB p e hen h25 h23 5 (by omega) hpn (wlr i 5) (wl_ri i hi 5 (by omega))) rfl (kI ?_)
                  rintro x80 m' ⟨hx80, rfl⟩
                  have hx80 := if01 hx80
                  refine q_if_eq (t := 86) (u := 112) F dX9_isWord__83 (by first | exact hR _ _ _ | (constructor <;> omega)) (by decide) rfl (fun c83 => ?_) (fun c83 => ?_)
                  · refine q_iconst (t := 113) F dX9_isWord__112 rfl ?_
                    refine q_zret F dX9_isWord__113 rfl (by decide) ?_
                    refine ⟨_, rfl, ?_, rfl⟩
                    refine Eq.symm ?_
                    by_cases hc : f = -1 ∧ wd b n p i
                    · refine (if_pos hc).trans ?_
                      have g1 := hT2 hc.1 hc.2.1 hc.2.2.1
                      have g2 := hT1 hc.1 g1
                      have g3 := (wd_L g2.1 g2.2.1 hi).mp hc.2
                      have g4 := (h.1.1 hc.1).2.1
                      first
                        | rfl
                        | (exfalso; omega)
                        | (exfalso; subst he; simp_all)
                        | (exfalso; rw [← he] at g3; simp_all; done)
                    · refine (if_neg hc).trans ?_
                      first
                        | rfl
                        | (exfalso; refine hc ⟨by first | assumption | omega, (wd_L hp hl hi).mpr ?_⟩; rw [← he]; exact ⟨by omega, hx32.elim (fun q => q.2) (fun q => absurd q.1 c35), hx41.elim (fun q => q.2) (fun q => absurd q.1 c44), hx50.elim (fun q => q.2) (fun q => absurd q.1 c53), hx60.elim (fun q => q.2) (fun q => absurd q.1 c63), hx70.elim (fun q => q.2) (fun q => absurd q.1 c73), hx80.elim (fun q => q.2) (fun q => absurd q.1 c83), hx91.elim (fun q => q.2) (fun q => absurd q.1 c94), hx102.elim (fun q => q.2) (fun q => absurd q.1 c105)⟩)
                  · refine q_aload_n (t := 87) F dX9_isWord__86 rfl rfl rfl ?_
                    refine q_bipush (t := 89) F dX9_isWord__87 (by decide) rfl ?_
                    refine q_iload (t := 91) F dX9_isWord__89 rfl rfl ?_
                    refine wp_callV (t := 94) [_, _] F dX9_isWord__91 k_X9_isLetter v_X9_isLetter ml_X9_186 rfl rfl rfl rfl (Nat.le_of_ble_eq_true rfl) (by decide) (m_30 (by omega)) (c_X9_isLetter _ G im bt rt _ b n hb hR hB p e hen h25 h23 6 (by omega) hpn (wlr i 6) (wl_ri i hi 6 (by omega))) rfl (kI ?_)
                    rintro x91 m' ⟨hx91, rfl⟩
                    have hx91 := if01 hx91
                    refine q_if_eq (t := 97) (u := 112) F dX9_isWord__94 (by first | exact hR _ _ _ | (constructor <;> omega)) (by decide) rfl (fun c94 => ?_) (fun c94 => ?_)
                    · refine q_iconst (t := 113) F dX9_isWord__112 rfl ?_
                      refine q_zret F dX9_isWord__113 rfl (by decide) ?_
                      refine ⟨_, rfl, ?_, rfl⟩
                      refine Eq.symm ?_
                      by_cases hc : f = -1 ∧ wd b n p i
                      · refine (if_pos hc).trans ?_
                        have g1 := hT2 hc.1 hc.2.1 hc.2.2.1
                        have g2 := hT1 hc.1 g1
                        have g3 := (wd_L g2.1 g2.2.1 hi).mp hc.2
                        have g4 := (h.1.1 hc.1).2.1
                        first
                          | rfl
                          | (exfalso; omega)
                          | (exfalso; subst he; simp_all)
                          | (exfalso; rw [← he] at g3; simp_all; done)
                      · refine (if_neg hc).trans ?_
                        first
                          | rfl
                          | (exfalso; refine hc ⟨by first | assumption | omega, (wd_L hp hl hi).mpr ?_⟩; rw [← he]; exact ⟨by omega, hx32.elim (fun q => q.2) (fun q => absurd q.1 c35), hx41.elim (fun q => q.2) (fun q => absurd q.1 c44), hx50.elim (fun q => q.2) (fun q => absurd q.1 c53), hx60.elim (fun q => q.2) (fun q => absurd q.1 c63), hx70.elim (fun q => q.2) (fun q => absurd q.1 c73), hx80.elim (fun q => q.2) (fun q => absurd q.1 c83), hx91.elim (fun q => q.2) (fun q => absurd q.1 c94), hx102.elim (fun q => q.2) (fun q => absurd q.1 c105)⟩)
                    · refine q_aload_n (t := 98) F dX9_isWord__97 rfl rfl rfl ?_
                      refine q_bipush (t := 100) F dX9_isWord__98 (by decide) rfl ?_
                      refine q_iload (t := 102) F dX9_isWord__100 rfl rfl ?_
                      refine wp_callV (t := 105) [_, _] F dX9_isWord__102 k_X9_isLetter v_X9_isLetter ml_X9_186 rfl rfl rfl rfl (Nat.le_of_ble_eq_true rfl) (by decide) (m_30 (by omega)) (c_X9_isLetter _ G im bt rt _ b n hb hR hB p e hen h25 h23 7 (by omega) hpn (wlr i 7) (wl_ri i hi 7 (by omega))) rfl (kI ?_)
                      rintro x102 m' ⟨hx102, rfl⟩
                      have hx102 := if01 hx102
                      refine q_if_eq (t := 108) (u := 112) F dX9_isWord__105 (by first | exact hR _ _ _ | (constructor <;> omega)) (by decide) rfl (fun c105 => ?_) (fun c105 => ?_)
                      · refine q_iconst (t := 113) F dX9_isWord__112 rfl ?_
                        refine q_zret F dX9_isWord__113 rfl (by decide) ?_
                        refine ⟨_, rfl, ?_, rfl⟩
                        refine Eq.symm ?_
                        by_cases hc : f = -1 ∧ wd b n p i
                        · refine (if_pos hc).trans ?_
                          have g1 := hT2 hc.1 hc.2.1 hc.2.2.1
                          have g2 := hT1 hc.1 g1
                          have g3 := (wd_L g2.1 g2.2.1 hi).mp hc.2
                          have g4 := (h.1.1 hc.1).2.1
                          first
                            | rfl
                            | (exfalso; omega)
                            | (exfalso; subst he; simp_all)
                            | (exfalso; rw [← he] at g3; simp_all; done)
                        · refine (if_neg hc).trans ?_
                          first
                            | rfl
                            | (exfalso; refine hc ⟨by first | assumption | omega, (wd_L hp hl hi).mpr ?_⟩; rw [← he]; exact ⟨by omega, hx32.elim (fun q => q.2) (fun q => absurd q.1 c35), hx41.elim (fun q => q.2) (fun q => absurd q.1 c44), hx50.elim (fun q => q.2) (fun q => absurd q.1 c53), hx60.elim (fun q => q.2) (fun q => absurd q.1 c63), hx70.elim (fun q => q.2) (fun q => absurd q.1 c73), hx80.elim (fun q => q.2) (fun q => absurd q.1 c83), hx91.elim (fun q => q.2) (fun q => absurd q.1 c94), hx102.elim (fun q => q.2) (fun q => absurd q.1 c105)⟩)
                      · refine q_iconst (t := 109) F dX9_isWord__108 rfl ?_
                        refine q_goto (t := 113) F dX9_isWord__109 (by decide) ?_
                        refine q_zret F dX9_isWord__113 rfl (by decide) ?_
                        refine ⟨_, rfl, ?_, rfl⟩
                        refine Eq.symm ?_
                        by_cases hc : f = -1 ∧ wd b n p i
                        · refine (if_pos hc).trans ?_
                          have g1 := hT2 hc.1 hc.2.1 hc.2.2.1
                          have g2 := hT1 hc.1 g1
                          have g3 := (wd_L g2.1 g2.2.1 hi).mp hc.2
                          have g4 := (h.1.1 hc.1).2.1
                          first
                            | rfl
                            | (exfalso; omega)
                            | (exfalso; subst he; simp_all)
                            | (exfalso; rw [← he] at g3; simp_all; done)
                        · refine (if_neg hc).trans ?_
                          first
                            | rfl
                            | (exfalso; refine hc ⟨by first | assumption | omega, (wd_L hp hl hi).mpr ?_⟩; rw [← he]; exact ⟨by omega, hx32.elim (fun q => q.2) (fun q => absurd q.1 c35), hx41.elim (fun q => q.2) (fun q => absurd q.1 c44), hx50.elim (fun q => q.2) (fun q => absurd q.1 c53), hx60.elim (fun q => q.2) (fun q => absurd q.1 c63), hx70.elim (fun q => q.2) (fun q => absurd q.1 c73), hx80.elim (fun q => q.2) (fun q => absurd q.1 c83), hx91.elim (fun q => q.2) (fun q => absurd q.1 c94), hx102.elim (fun q => q.2) (fun q => absurd q.1 c105)⟩)
end
section
/-! what is opened, a name -/
theorem PQ_27 {b : Nat → Int} {n p : Nat} {im lm : IM} {f x : Int} (h : PQ b n im lm p f) (hx : ri x) : PQ b n (up im 30 0 27 x) lm p f := by
  obtain ⟨hq, hR, hB, hpn, h28⟩ := h
  have e : ∀ s, s ≠ 27 → up im 30 0 27 x 30 0 s = im 30 0 s := fun s hs => by rw [up_app, if_neg (by omega)]
  refine ⟨⟨fun q => ?_, fun q => ?_⟩, RI_up hR hx, BRr_up hB (by omega) (by omega), hpn, by rw [e 28 (by omega)]; exact h28⟩
  · have := hq.1 q
    refine ⟨(e 28 (by omega)).trans this.1, (e 25 (by omega)).trans this.2.1, ?_⟩
    have h2 := this.2.2
    unfold TKr at h2 ⊢
    rw [e 24 (by omega), e 23 (by omega)]
    exact h2
  · have := hq.2 q
    exact ⟨(e 28 (by omega)).trans this.1, (e 29 (by omega)).trans this.2⟩
theorem c_isWordA (l : Launch) (G : GS) (im : IM) (bt rt : Nat) (lm : IM) (b : Nat → Int) (n : Nat) (hb : byt b n) (p : Nat) (f : Int) (h : PQ b n im lm p f) (i : Nat) (hi : i < 12) (a0 a1 a2 a3 a4 a5 a6 a7 : Int) (ha : a0 = wlr i 0 ∧ a1 = wlr i 1 ∧ a2 = wlr i 2 ∧ a3 = wlr i 3 ∧ a4 = wlr i 4 ∧ a5 = wlr i 5 ∧ a6 = wlr i 6 ∧ a7 = wlr i 7) : Cn l (XR G) yX9_isWord_ Y_X9_isWord_ [vR 30 0, vI a0, vI a1, vI a2, vI a3, vI a4, vI a5, vI a6, vI a7] (im, rs bt rt, lm) (pI fun x m' => x = (if f = -1 ∧ wd b n p i then 1 else 0) ∧ m' = (im, rs bt rt, lm)) := by
  obtain ⟨rfl, rfl, rfl, rfl, rfl, rfl, rfl, rfl⟩ := ha
  exact c_X9_isWord_ l G im bt rt lm b n hb p f h i hi

set_option maxHeartbeats 4000000 in
theorem c_X9_opens (l : Launch) (G : GS) (im : IM) (bt rt : Nat) (lm : IM) (b : Nat → Int) (n : Nat) (hb : byt b n) (p : Nat) (h : PQ b n im lm p (-1)) (hp : p < n) (ht : tk b n p ≠ 1) (d : Nat) (hd : d ≤ 5) (h27 : im 30 0 27 = d) : Cn l (XR G) yX9_opens Y_X9_opens [vR 30 0] (im, rs bt rt, lm) (pI fun x m' => (d = 5 ∧ x = 0 ∧ ∃ im', PQ b n im' lm p (p : Int) ∧ agQ im' im ∧ m' = (im', rs bt rt, lm)) ∨ (d < 5 ∧ x = 1 ∧ ∃ im' lm', PQ b n im' lm' (adv b n p) (-1) ∧ im' 30 0 27 = (d : Int) + 1 ∧ agQ im' (up im 30 0 27 ((d : Int) + 1)) ∧ lgQ lm' lm ∧ m' = (im', rs bt rt, lm'))) := by
  refine cn_of (by decide) (okR G) rfl (Nat.le_of_ble_eq_true rfl) ?_
  intro M ad hMl F
  subst hMl
  have hR := h.2.1
  refine wp_pad 0 ?_
  show Wp M (XR G) ad Y_X9_opens (pI fun x m' => (d = 5 ∧ x = 0 ∧ ∃ im', PQ b n im' lm p (p : Int) ∧ agQ im' im ∧ m' = (im', rs bt rt, lm)) ∨ (d < 5 ∧ x = 1 ∧ ∃ im' lm', PQ b n im' lm' (adv b n p) (-1) ∧ im' 30 0 27 = (d : Int) + 1 ∧ agQ im' (up im 30 0 27 ((d : Int) + 1)) ∧ lgQ lm' lm ∧ m' = (im', rs bt rt, lm'))) 0 [some (vR 30 0)] [] (im, rs bt rt, lm)
  refine q_aload_n (t := 1) F dX9_opens_0 rfl rfl rfl ?_
  refine g_X9_190 (t := 4) F dX9_opens_1 rfl rfl ?_
  refine q_iconst (t := 5) F dX9_opens_4 rfl ?_
  refine q_icmp_ne (t := 8) (u := 14) F dX9_opens_5 (by rw [h27]; constructor <;> omega) (by constructor <;> omega) (by decide) rfl (fun c5 => ?_) (fun c5 => ?_)
  · refine q_aload_n (t := 15) F dX9_opens_14 rfl rfl rfl ?_
    refine q_dupR (t := 16) F dX9_opens_15 rfl ?_
    refine g_X9_190 (t := 19) F dX9_opens_16 rfl rfl ?_
    refine q_iconst (t := 20) F dX9_opens_19 rfl ?_
    refine q_iadd (t := 21) F dX9_opens_20 rfl ?_
    rw [h27]
    refine p_X9_190 (t := 24) F dX9_opens_21 rfl rfl ?_
    refine q_aload_n (t := 25) F dX9_opens_24 rfl rfl rfl ?_
    refine wp_callV (t := 28) [] F dX9_opens_25 k_X9_next v_X9_next ml_X9_196 rfl rfl rfl rfl (Nat.le_of_ble_eq_true rfl) (by decide) (m_30 (by omega)) (c_nextQ _ G _ bt rt lm b n hb p (PQ_27 h (by constructor <;> omega)) hp ht) rfl (kV ?_)
    rintro m' ⟨im2, lm2, h2, hag, hlg, rfl⟩
    refine q_iconst (t := 29) F dX9_opens_28 rfl ?_
    refine q_zret F dX9_opens_29 rfl (by decide) ?_
    first
      | exact ⟨_, rfl, Or.inl ⟨by omega, rfl, im2, h2, hag, rfl⟩⟩
      | exact ⟨_, rfl, Or.inr ⟨by omega, rfl, im2, lm2, h2, (hag 30 0 27 (by omega)).trans (by rw [up_app, if_pos ⟨rfl, rfl, rfl⟩]), hag, hlg, rfl⟩⟩
  · refine q_aload_n (t := 9) F dX9_opens_8 rfl rfl rfl ?_
    refine wp_callV (t := 12) [] F dX9_opens_9 k_X9_fail v_X9_fail ml_X9_193 rfl rfl rfl rfl (Nat.le_of_ble_eq_true rfl) (by decide) (m_30 (by omega)) (c_failQ _ G im bt rt lm b n p (-1) h) rfl (kV ?_)
    rintro m' ⟨im2, h2, hag, rfl⟩
    rw [if_pos rfl] at h2
    refine q_iconst (t := 13) F dX9_opens_12 rfl ?_
    refine q_zret F dX9_opens_13 rfl (by decide) ?_
    first
      | exact ⟨_, rfl, Or.inl ⟨by omega, rfl, im2, h2, hag, rfl⟩⟩
      | exact ⟨_, rfl, Or.inr ⟨by omega, rfl, im2, lm2, h2, (hag 30 0 27 (by omega)).trans (by rw [up_app, if_pos ⟨rfl, rfl, rfl⟩]), hag, hlg, rfl⟩⟩

set_option maxHeartbeats 4000000 in
theorem c_X9_name (l : Launch) (G : GS) (im : IM) (bt rt : Nat) (lm : IM) (b : Nat → Int) (n : Nat) (hb : byt b n) (p : Nat) (h : PQ b n im lm p (-1)) : Cn l (XR G) yX9_name Y_X9_name [vR 30 0] (im, rs bt rt, lm) (pI fun x m' => (tk b n p = 3 ∧ x = im 30 0 (15 + (vl b n p).toNat) ∧ m' = (im, rs bt rt, lm)) ∨ (tk b n p ≠ 3 ∧ x = 0 ∧ ∃ im', PQ b n im' lm p (p : Int) ∧ agQ im' im ∧ m' = (im', rs bt rt, lm))) := by
  refine cn_of (by decide) (okR G) rfl (Nat.le_of_ble_eq_true rfl) ?_
  intro M ad hMl F
  subst hMl
  have hR := h.2.1
  refine wp_pad 0 ?_
  show Wp M (XR G) ad Y_X9_name (pI fun x m' => (tk b n p = 3 ∧ x = im 30 0 (15 + (vl b n p).toNat) ∧ m' = (im, rs bt rt, lm)) ∨ (tk b n p ≠ 3 ∧ x = 0 ∧ ∃ im', PQ b n im' lm p (p : Int) ∧ agQ im' im ∧ m' = (im', rs bt rt, lm))) 0 [some (vR 30 0)] [] (im, rs bt rt, lm)
  refine q_aload_n (t := 1) F dX9_name_0 rfl rfl rfl ?_
  refine q_bipush (t := 3) F dX9_name_1 (by decide) rfl ?_
  refine q_bipush (t := 5) F dX9_name_3 (by decide) rfl ?_
  refine q_bipush (t := 7) F dX9_name_5 (by decide) rfl ?_
  refine q_bipush (t := 9) F dX9_name_7 (by decide) rfl ?_
  refine q_iconst (t := 10) F dX9_name_9 rfl ?_
  refine q_iconst (t := 11) F dX9_name_10 rfl ?_
  refine q_iconst (t := 12) F dX9_name_11 rfl ?_
  refine q_iconst (t := 13) F dX9_name_12 rfl ?_
  refine wp_callV (t := 16) [_, _, _, _, _, _, _, _] F dX9_name_13 k_X9_isWord_ v_X9_isWord_ ml_X9_199 rfl rfl rfl rfl (Nat.le_of_ble_eq_true rfl) (by decide) (m_30 (by omega)) (c_isWordA _ G im bt rt lm b n hb p (-1) h 0 (by omega) _ _ _ _ _ _ _ _ (by decide)) rfl (kI ?_)
  rintro x13 m' ⟨hx13, rfl⟩
  have hx13 := if01 hx13
  refine q_if_eq (t := 19) (u := 24) F dX9_name_16 (by first | exact hR _ _ _ | (constructor <;> omega)) (by decide) rfl (fun c16 => ?_) (fun c16 => ?_)
  · refine q_aload_n (t := 25) F dX9_name_24 rfl rfl rfl ?_
    refine q_bipush (t := 27) F dX9_name_25 (by decide) rfl ?_
    refine q_bipush (t := 29) F dX9_name_27 (by decide) rfl ?_
    refine q_bipush (t := 31) F dX9_name_29 (by decide) rfl ?_
    refine q_bipush (t := 33) F dX9_name_31 (by decide) rfl ?_
    refine q_iconst (t := 34) F dX9_name_33 rfl ?_
    refine q_iconst (t := 35) F dX9_name_34 rfl ?_
    refine q_iconst (t := 36) F dX9_name_35 rfl ?_
    refine q_iconst (t := 37) F dX9_name_36 rfl ?_
    refine wp_callV (t := 40) [_, _, _, _, _, _, _, _] F dX9_name_37 k_X9_isWord_ v_X9_isWord_ ml_X9_199 rfl rfl rfl rfl (Nat.le_of_ble_eq_true rfl) (by decide) (m_30 (by omega)) (c_isWordA _ G im bt rt lm b n hb p (-1) h 1 (by omega) _ _ _ _ _ _ _ _ (by decide)) rfl (kI ?_)
    rintro x37 m' ⟨hx37, rfl⟩
    have hx37 := if01 hx37
    refine q_if_eq (t := 43) (u := 48) F dX9_name_40 (by first | exact hR _ _ _ | (constructor <;> omega)) (by decide) rfl (fun c40 => ?_) (fun c40 => ?_)
    · refine q_aload_n (t := 49) F dX9_name_48 rfl rfl rfl ?_
      refine q_bipush (t := 51) F dX9_name_49 (by decide) rfl ?_
      refine q_bipush (t := 53) F dX9_name_51 (by decide) rfl ?_
      refine q_bipush (t := 55) F dX9_name_53 (by decide) rfl ?_
      refine q_bipush (t := 57) F dX9_name_55 (by decide) rfl ?_
      refine q_iconst (t := 58) F dX9_name_57 rfl ?_
      refine q_iconst (t := 59) F dX9_name_58 rfl ?_
      refine q_iconst (t := 60) F dX9_name_59 rfl ?_
      refine q_iconst (t := 61) F dX9_name_60 rfl ?_
      refine wp_callV (t := 64) [_, _, _, _, _, _, _, _] F dX9_name_61 k_X9_isWord_ v_X9_isWord_ ml_X9_199 rfl rfl rfl rfl (Nat.le_of_ble_eq_true rfl) (by decide) (m_30 (by omega)) (c_isWordA _ G im bt rt lm b n hb p (-1) h 2 (by omega) _ _ _ _ _ _ _ _ (by decide)) rfl (kI ?_)
      rintro x61 m' ⟨hx61, rfl⟩
      have hx61 := if01 hx61
      refine q_if_eq (t := 67) (u := 72) F dX9_name_64 (by first | exact hR _ _ _ | (constructor <;> omega)) (by decide) rfl (fun c64 => ?_) (fun c64 => ?_)
      · refine q_aload_n (t := 73) F dX9_name_72 rfl rfl rfl ?_
        refine q_bipush (t := 75) F dX9_name_73 (by decide) rfl ?_
        refine q_bipush (t := 77) F dX9_name_75 (by decide) rfl ?_
        refine q_bipush (t := 79) F dX9_name_77 (by decide) rfl ?_
        refine q_bipush (t := 81) F dX9_name_79 (by decide) rfl ?_
        refine q_bipush (t := 83) F dX9_name_81 (by decide) rfl ?_
        refine q_bipush (t := 85) F dX9_name_83 (by decide) rfl ?_
        refine q_iconst (t := 86) F dX9_name_85 rfl ?_
        refine q_iconst (t := 87) F dX9_name_86 rfl ?_
        refine wp_callV (t := 90) [_, _, _, _, _, _, _, _] F dX9_name_87 k_X9_isWord_ v_X9_isWord_ ml_X9_199 rfl rfl rfl rfl (Nat.le_of_ble_eq_true rfl) (by decide) (m_30 (by omega)) (c_isWordA _ G im bt rt lm b n hb p (-1) h 3 (by omega) _ _ _ _ _ _ _ _ (by decide)) rfl (kI ?_)
        rintro x87 m' ⟨hx87, rfl⟩
        have hx87 := if01 hx87
        refine q_if_eq (t := 93) (u := 98) F dX9_name_90 (by first | exact hR _ _ _ | (constructor <;> omega)) (by decide) rfl (fun c90 => ?_) (fun c90 => ?_)
        · refine q_aload_n (t := 99) F dX9_name_98 rfl rfl rfl ?_
          refine q_bipush (t := 101) F dX9_name_99 (by decide) rfl ?_
          refine q_bipush (t := 103) F dX9_name_101 (by decide) rfl ?_
          refine q_bipush (t := 105) F dX9_name_103 (by decide) rfl ?_
          refine q_iconst (t := 106) F dX9_name_105 rfl ?_
          refine q_iconst (t := 107) F dX9_name_106 rfl ?_
          refine q_iconst (t := 108) F dX9_name_107 rfl ?_
          refine q_iconst (t := 109) F dX9_name_108 rfl ?_
          refine q_iconst (t := 110) F dX9_name_109 rfl ?_
          refine wp_callV (t := 113) [_, _, _, _, _, _, _, _] F dX9_name_110 k_X9_isWord_ v_X9_isWord_ ml_X9_199 rfl rfl rfl rfl (Nat.le_of_ble_eq_true rfl) (by decide) (m_30 (by omega)) (c_isWordA _ G im bt rt lm b n hb p (-1) h 4 (by omega) _ _ _ _ _ _ _ _ (by decide)) rfl (kI ?_)
          rintro x110 m' ⟨hx110, rfl⟩
          have hx110 := if01 hx110
          refine q_if_eq (t := 116) (u := 121) F dX9_name_113 (by first | exact hR _ _ _ | (constructor <;> omega)) (by decide) rfl (fun c113 => ?_) (fun c113 => ?_)
          · refine q_aload_n (t := 122) F dX9_name_121 rfl rfl rfl ?_
            refine q_bipush (t := 124) F dX9_name_122 (by decide) rfl ?_
            refine q_bipush (t := 126) F dX9_name_124 (by decide) rfl ?_
            refine q_bipush (t := 128) F dX9_name_126 (by decide) rfl ?_
            refine q_bipush (t := 130) F dX9_name_128 (by decide) rfl ?_
            refine q_bipush (t := 132) F dX9_name_130 (by decide) rfl ?_
            refine q_iconst (t := 133) F dX9_name_132 rfl ?_
            refine q_iconst (t := 134) F dX9_name_133 rfl ?_
            refine q_iconst (t := 135) F dX9_name_134 rfl ?_
            refine wp_callV (t := 138) [_, _, _, _, _, _, _, _] F dX9_name_135 k_X9_isWord_ v_X9_isWord_ ml_X9_199 rfl rfl rfl rfl (Nat.le_of_ble_eq_true rfl) (by decide) (m_30 (by omega)) (c_isWordA _ G im bt rt lm b n hb p (-1) h 5 (by omega) _ _ _ _ _ _ _ _ (by decide)) rfl (kI ?_)
            rintro x135 m' ⟨hx135, rfl⟩
            have hx135 := if01 hx135
            refine q_if_eq (t := 141) (u := 146) F dX9_name_138 (by first | exact hR _ _ _ | (constructor <;> omega)) (by decide) rfl (fun c138 => ?_) (fun c138 => ?_)
            · refine q_aload_n (t := 147) F dX9_name_146 rfl rfl rfl ?_
              refine wp_callV (t := 150) [] F dX9_name_147 k_X9_fail v_X9_fail ml_X9_193 rfl rfl rfl rfl (Nat.le_of_ble_eq_true rfl) (by decide) (m_30 (by omega)) (c_failQ _ G im bt rt lm b n p (-1) h) rfl (kV ?_)
              rintro m' ⟨im2, h2, hag, rfl⟩
              rw [if_pos rfl] at h2
              refine q_iconst (t := 151) F dX9_name_150 rfl ?_
              refine q_iret F dX9_name_151 rfl ?_
              first
                | (have w : wd b n p 0 := hx13.elim (fun q => q.2.2) (fun q => absurd q.1 (by omega))
                   have e := (wd_nm (by omega)).mp w
                   refine ⟨_, rfl, Or.inl ⟨e.1, ?_, rfl⟩⟩
                   rw [e.2]
                   rfl)
                | (have w : wd b n p 1 := hx37.elim (fun q => q.2.2) (fun q => absurd q.1 (by omega))
                   have e := (wd_nm (by omega)).mp w
                   refine ⟨_, rfl, Or.inl ⟨e.1, ?_, rfl⟩⟩
                   rw [e.2]
                   rfl)
                | (have w : wd b n p 2 := hx61.elim (fun q => q.2.2) (fun q => absurd q.1 (by omega))
                   have e := (wd_nm (by omega)).mp w
                   refine ⟨_, rfl, Or.inl ⟨e.1, ?_, rfl⟩⟩
                   rw [e.2]
                   rfl)
                | (have w : wd b n p 3 := hx87.elim (fun q => q.2.2) (fun q => absurd q.1 (by omega))
                   have e := (wd_nm (by omega)).mp w
                   refine ⟨_, rfl, Or.inl ⟨e.1, ?_, rfl⟩⟩
                   rw [e.2]
                   rfl)
                | (have w : wd b n p 4 := hx110.elim (fun q => q.2.2) (fun q => absurd q.1 (by omega))
                   have e := (wd_nm (by omega)).mp w
                   refine ⟨_, rfl, Or.inl ⟨e.1, ?_, rfl⟩⟩
                   rw [e.2]
                   rfl)
                | (have w : wd b n p 5 := hx135.elim (fun q => q.2.2) (fun q => absurd q.1 (by omega))
                   have e := (wd_nm (by omega)).mp w
                   refine ⟨_, rfl, Or.inl ⟨e.1, ?_, rfl⟩⟩
                   rw [e.2]
                   rfl)
                | (refine ⟨_, rfl, Or.inr ⟨fun q => ?_, rfl, im2, h2, hag, rfl⟩⟩
                   obtain ⟨i, hi, hv, hw⟩ := tk_3 q
                   rcases (show i = 0 ∨ i = 1 ∨ i = 2 ∨ i = 3 ∨ i = 4 ∨ i = 5 by omega) with rfl | rfl | rfl | rfl | rfl | rfl
                   · exact hx13.elim (fun q => by omega) (fun q => q.2 ⟨rfl, hw⟩)
                   · exact hx37.elim (fun q => by omega) (fun q => q.2 ⟨rfl, hw⟩)
                   · exact hx61.elim (fun q => by omega) (fun q => q.2 ⟨rfl, hw⟩)
                   · exact hx87.elim (fun q => by omega) (fun q => q.2 ⟨rfl, hw⟩)
                   · exact hx110.elim (fun q => by omega) (fun q => q.2 ⟨rfl, hw⟩)
                   · exact hx135.elim (fun q => by omega) (fun q => q.2 ⟨rfl, hw⟩))
            · refine q_aload_n (t := 142) F dX9_name_141 rfl rfl rfl ?_
              refine g_X9_217 (t := 145) F dX9_name_142 rfl rfl ?_
              try simp only [up_app, row_app, scr_app, cpy_app, Nat.reduceEqDiff, Int.reduceToNat, Int.toNat_natCast, and_true, true_and, and_false, false_and, and_self, reduceIte]
              refine q_iret F dX9_name_145 rfl ?_
              first
                | (have w : wd b n p 0 := hx13.elim (fun q => q.2.2) (fun q => absurd q.1 (by omega))
                   have e := (wd_nm (by omega)).mp w
                   refine ⟨_, rfl, Or.inl ⟨e.1, ?_, rfl⟩⟩
                   rw [e.2]
                   rfl)
                | (have w : wd b n p 1 := hx37.elim (fun q => q.2.2) (fun q => absurd q.1 (by omega))
                   have e := (wd_nm (by omega)).mp w
                   refine ⟨_, rfl, Or.inl ⟨e.1, ?_, rfl⟩⟩
                   rw [e.2]
                   rfl)
                | (have w : wd b n p 2 := hx61.elim (fun q => q.2.2) (fun q => absurd q.1 (by omega))
                   have e := (wd_nm (by omega)).mp w
                   refine ⟨_, rfl, Or.inl ⟨e.1, ?_, rfl⟩⟩
                   rw [e.2]
                   rfl)
                | (have w : wd b n p 3 := hx87.elim (fun q => q.2.2) (fun q => absurd q.1 (by omega))
                   have e := (wd_nm (by omega)).mp w
                   refine ⟨_, rfl, Or.inl ⟨e.1, ?_, rfl⟩⟩
                   rw [e.2]
                   rfl)
                | (have w : wd b n p 4 := hx110.elim (fun q => q.2.2) (fun q => absurd q.1 (by omega))
                   have e := (wd_nm (by omega)).mp w
                   refine ⟨_, rfl, Or.inl ⟨e.1, ?_, rfl⟩⟩
                   rw [e.2]
                   rfl)
                | (have w : wd b n p 5 := hx135.elim (fun q => q.2.2) (fun q => absurd q.1 (by omega))
                   have e := (wd_nm (by omega)).mp w
                   refine ⟨_, rfl, Or.inl ⟨e.1, ?_, rfl⟩⟩
                   rw [e.2]
                   rfl)
                | (refine ⟨_, rfl, Or.inr ⟨fun q => ?_, rfl, im2, h2, hag, rfl⟩⟩
                   obtain ⟨i, hi, hv, hw⟩ := tk_3 q
                   rcases (show i = 0 ∨ i = 1 ∨ i = 2 ∨ i = 3 ∨ i = 4 ∨ i = 5 by omega) with rfl | rfl | rfl | rfl | rfl | rfl
                   · exact hx13.elim (fun q => by omega) (fun q => q.2 ⟨rfl, hw⟩)
                   · exact hx37.elim (fun q => by omega) (fun q => q.2 ⟨rfl, hw⟩)
                   · exact hx61.elim (fun q => by omega) (fun q => q.2 ⟨rfl, hw⟩)
                   · exact hx87.elim (fun q => by omega) (fun q => q.2 ⟨rfl, hw⟩)
                   · exact hx110.elim (fun q => by omega) (fun q => q.2 ⟨rfl, hw⟩)
                   · exact hx135.elim (fun q => by omega) (fun q => q.2 ⟨rfl, hw⟩))
          · refine q_aload_n (t := 117) F dX9_name_116 rfl rfl rfl ?_
            refine g_X9_214 (t := 120) F dX9_name_117 rfl rfl ?_
            try simp only [up_app, row_app, scr_app, cpy_app, Nat.reduceEqDiff, Int.reduceToNat, Int.toNat_natCast, and_true, true_and, and_false, false_and, and_self, reduceIte]
            refine q_iret F dX9_name_120 rfl ?_
            first
              | (have w : wd b n p 0 := hx13.elim (fun q => q.2.2) (fun q => absurd q.1 (by omega))
                 have e := (wd_nm (by omega)).mp w
                 refine ⟨_, rfl, Or.inl ⟨e.1, ?_, rfl⟩⟩
                 rw [e.2]
                 rfl)
              | (have w : wd b n p 1 := hx37.elim (fun q => q.2.2) (fun q => absurd q.1 (by omega))
                 have e := (wd_nm (by omega)).mp w
                 refine ⟨_, rfl, Or.inl ⟨e.1, ?_, rfl⟩⟩
                 rw [e.2]
                 rfl)
              | (have w : wd b n p 2 := hx61.elim (fun q => q.2.2) (fun q => absurd q.1 (by omega))
                 have e := (wd_nm (by omega)).mp w
                 refine ⟨_, rfl, Or.inl ⟨e.1, ?_, rfl⟩⟩
                 rw [e.2]
                 rfl)
              | (have w : wd b n p 3 := hx87.elim (fun q => q.2.2) (fun q => absurd q.1 (by omega))
                 have e := (wd_nm (by omega)).mp w
                 refine ⟨_, rfl, Or.inl ⟨e.1, ?_, rfl⟩⟩
                 rw [e.2]
                 rfl)
              | (have w : wd b n p 4 := hx110.elim (fun q => q.2.2) (fun q => absurd q.1 (by omega))
                 have e := (wd_nm (by omega)).mp w
                 refine ⟨_, rfl, Or.inl ⟨e.1, ?_, rfl⟩⟩
                 rw [e.2]
                 rfl)
              | (have w : wd b n p 5 := hx135.elim (fun q => q.2.2) (fun q => absurd q.1 (by omega))
                 have e := (wd_nm (by omega)).mp w
                 refine ⟨_, rfl, Or.inl ⟨e.1, ?_, rfl⟩⟩
                 rw [e.2]
                 rfl)
              | (refine ⟨_, rfl, Or.inr ⟨fun q => ?_, rfl, im2, h2, hag, rfl⟩⟩
                 obtain ⟨i, hi, hv, hw⟩ := tk_3 q
                 rcases (show i = 0 ∨ i = 1 ∨ i = 2 ∨ i = 3 ∨ i = 4 ∨ i = 5 by omega) with rfl | rfl | rfl | rfl | rfl | rfl
                 · exact hx13.elim (fun q => by omega) (fun q => q.2 ⟨rfl, hw⟩)
                 · exact hx37.elim (fun q => by omega) (fun q => q.2 ⟨rfl, hw⟩)
                 · exact hx61.elim (fun q => by omega) (fun q => q.2 ⟨rfl, hw⟩)
                 · exact hx87.elim (fun q => by omega) (fun q => q.2 ⟨rfl, hw⟩)
                 · exact hx110.elim (fun q => by omega) (fun q => q.2 ⟨rfl, hw⟩)
                 · exact hx135.elim (fun q => by omega) (fun q => q.2 ⟨rfl, hw⟩))
        · refine q_aload_n (t := 94) F dX9_name_93 rfl rfl rfl ?_
          refine g_X9_211 (t := 97) F dX9_name_94 rfl rfl ?_
          try simp only [up_app, row_app, scr_app, cpy_app, Nat.reduceEqDiff, Int.reduceToNat, Int.toNat_natCast, and_true, true_and, and_false, false_and, and_self, reduceIte]
          refine q_iret F dX9_name_97 rfl ?_
          first
            | (have w : wd b n p 0 := hx13.elim (fun q => q.2.2) (fun q => absurd q.1 (by omega))
               have e := (wd_nm (by omega)).mp w
               refine ⟨_, rfl, Or.inl ⟨e.1, ?_, rfl⟩⟩
               rw [e.2]
               rfl)
            | (have w : wd b n p 1 := hx37.elim (fun q => q.2.2) (fun q => absurd q.1 (by omega))
               have e := (wd_nm (by omega)).mp w
               refine ⟨_, rfl, Or.inl ⟨e.1, ?_, rfl⟩⟩
               rw [e.2]
               rfl)
            | (have w : wd b n p 2 := hx61.elim (fun q => q.2.2) (fun q => absurd q.1 (by omega))
               have e := (wd_nm (by omega)).mp w
               refine ⟨_, rfl, Or.inl ⟨e.1, ?_, rfl⟩⟩
               rw [e.2]
               rfl)
            | (have w : wd b n p 3 := hx87.elim (fun q => q.2.2) (fun q => absurd q.1 (by omega))
               have e := (wd_nm (by omega)).mp w
               refine ⟨_, rfl, Or.inl ⟨e.1, ?_, rfl⟩⟩
               rw [e.2]
               rfl)
            | (have w : wd b n p 4 := hx110.elim (fun q => q.2.2) (fun q => absurd q.1 (by omega))
               have e := (wd_nm (by omega)).mp w
               refine ⟨_, rfl, Or.inl ⟨e.1, ?_, rfl⟩⟩
               rw [e.2]
               rfl)
            | (have w : wd b n p 5 := hx135.elim (fun q => q.2.2) (fun q => absurd q.1 (by omega))
               have e := (wd_nm (by omega)).mp w
               refine ⟨_, rfl, Or.inl ⟨e.1, ?_, rfl⟩⟩
               rw [e.2]
               rfl)
            | (refine ⟨_, rfl, Or.inr ⟨fun q => ?_, rfl, im2, h2, hag, rfl⟩⟩
               obtain ⟨i, hi, hv, hw⟩ := tk_3 q
               rcases (show i = 0 ∨ i = 1 ∨ i = 2 ∨ i = 3 ∨ i = 4 ∨ i = 5 by omega) with rfl | rfl | rfl | rfl | rfl | rfl
               · exact hx13.elim (fun q => by omega) (fun q => q.2 ⟨rfl, hw⟩)
               · exact hx37.elim (fun q => by omega) (fun q => q.2 ⟨rfl, hw⟩)
               · exact hx61.elim (fun q => by omega) (fun q => q.2 ⟨rfl, hw⟩)
               · exact hx87.elim (fun q => by omega) (fun q => q.2 ⟨rfl, hw⟩)
               · exact hx110.elim (fun q => by omega) (fun q => q.2 ⟨rfl, hw⟩)
               · exact hx135.elim (fun q => by omega) (fun q => q.2 ⟨rfl, hw⟩))
      · refine q_aload_n (t := 68) F dX9_name_67 rfl rfl rfl ?_
        refine g_X9_208 (t := 71) F dX9_name_68 rfl rfl ?_
        try simp only [up_app, row_app, scr_app, cpy_app, Nat.reduceEqDiff, Int.reduceToNat, Int.toNat_natCast, and_true, true_and, and_false, false_and, and_self, reduceIte]
        refine q_iret F dX9_name_71 rfl ?_
        first
          | (have w : wd b n p 0 := hx13.elim (fun q => q.2.2) (fun q => absurd q.1 (by omega))
             have e := (wd_nm (by omega)).mp w
             refine ⟨_, rfl, Or.inl ⟨e.1, ?_, rfl⟩⟩
             rw [e.2]
             rfl)
          | (have w : wd b n p 1 := hx37.elim (fun q => q.2.2) (fun q => absurd q.1 (by omega))
             have e := (wd_nm (by omega)).mp w
             refine ⟨_, rfl, Or.inl ⟨e.1, ?_, rfl⟩⟩
             rw [e.2]
             rfl)
          | (have w : wd b n p 2 := hx61.elim (fun q => q.2.2) (fun q => absurd q.1 (by omega))
             have e := (wd_nm (by omega)).mp w
             refine ⟨_, rfl, Or.inl ⟨e.1, ?_, rfl⟩⟩
             rw [e.2]
             rfl)
          | (have w : wd b n p 3 := hx87.elim (fun q => q.2.2) (fun q => absurd q.1 (by omega))
             have e := (wd_nm (by omega)).mp w
             refine ⟨_, rfl, Or.inl ⟨e.1, ?_, rfl⟩⟩
             rw [e.2]
             rfl)
          | (have w : wd b n p 4 := hx110.elim (fun q => q.2.2) (fun q => absurd q.1 (by omega))
             have e := (wd_nm (by omega)).mp w
             refine ⟨_, rfl, Or.inl ⟨e.1, ?_, rfl⟩⟩
             rw [e.2]
             rfl)
          | (have w : wd b n p 5 := hx135.elim (fun q => q.2.2) (fun q => absurd q.1 (by omega))
             have e := (wd_nm (by omega)).mp w
             refine ⟨_, rfl, Or.inl ⟨e.1, ?_, rfl⟩⟩
             rw [e.2]
             rfl)
          | (refine ⟨_, rfl, Or.inr ⟨fun q => ?_, rfl, im2, h2, hag, rfl⟩⟩
             obtain ⟨i, hi, hv, hw⟩ := tk_3 q
             rcases (show i = 0 ∨ i = 1 ∨ i = 2 ∨ i = 3 ∨ i = 4 ∨ i = 5 by omega) with rfl | rfl | rfl | rfl | rfl | rfl
             · exact hx13.elim (fun q => by omega) (fun q => q.2 ⟨rfl, hw⟩)
             · exact hx37.elim (fun q => by omega) (fun q => q.2 ⟨rfl, hw⟩)
             · exact hx61.elim (fun q => by omega) (fun q => q.2 ⟨rfl, hw⟩)
             · exact hx87.elim (fun q => by omega) (fun q => q.2 ⟨rfl, hw⟩)
             · exact hx110.elim (fun q => by omega) (fun q => q.2 ⟨rfl, hw⟩)
             · exact hx135.elim (fun q => by omega) (fun q => q.2 ⟨rfl, hw⟩))
    · refine q_aload_n (t := 44) F dX9_name_43 rfl rfl rfl ?_
      refine g_X9_205 (t := 47) F dX9_name_44 rfl rfl ?_
      try simp only [up_app, row_app, scr_app, cpy_app, Nat.reduceEqDiff, Int.reduceToNat, Int.toNat_natCast, and_true, true_and, and_false, false_and, and_self, reduceIte]
      refine q_iret F dX9_name_47 rfl ?_
      first
        | (have w : wd b n p 0 := hx13.elim (fun q => q.2.2) (fun q => absurd q.1 (by omega))
           have e := (wd_nm (by omega)).mp w
           refine ⟨_, rfl, Or.inl ⟨e.1, ?_, rfl⟩⟩
           rw [e.2]
           rfl)
        | (have w : wd b n p 1 := hx37.elim (fun q => q.2.2) (fun q => absurd q.1 (by omega))
           have e := (wd_nm (by omega)).mp w
           refine ⟨_, rfl, Or.inl ⟨e.1, ?_, rfl⟩⟩
           rw [e.2]
           rfl)
        | (have w : wd b n p 2 := hx61.elim (fun q => q.2.2) (fun q => absurd q.1 (by omega))
           have e := (wd_nm (by omega)).mp w
           refine ⟨_, rfl, Or.inl ⟨e.1, ?_, rfl⟩⟩
           rw [e.2]
           rfl)
        | (have w : wd b n p 3 := hx87.elim (fun q => q.2.2) (fun q => absurd q.1 (by omega))
           have e := (wd_nm (by omega)).mp w
           refine ⟨_, rfl, Or.inl ⟨e.1, ?_, rfl⟩⟩
           rw [e.2]
           rfl)
        | (have w : wd b n p 4 := hx110.elim (fun q => q.2.2) (fun q => absurd q.1 (by omega))
           have e := (wd_nm (by omega)).mp w
           refine ⟨_, rfl, Or.inl ⟨e.1, ?_, rfl⟩⟩
           rw [e.2]
           rfl)
        | (have w : wd b n p 5 := hx135.elim (fun q => q.2.2) (fun q => absurd q.1 (by omega))
           have e := (wd_nm (by omega)).mp w
           refine ⟨_, rfl, Or.inl ⟨e.1, ?_, rfl⟩⟩
           rw [e.2]
           rfl)
        | (refine ⟨_, rfl, Or.inr ⟨fun q => ?_, rfl, im2, h2, hag, rfl⟩⟩
           obtain ⟨i, hi, hv, hw⟩ := tk_3 q
           rcases (show i = 0 ∨ i = 1 ∨ i = 2 ∨ i = 3 ∨ i = 4 ∨ i = 5 by omega) with rfl | rfl | rfl | rfl | rfl | rfl
           · exact hx13.elim (fun q => by omega) (fun q => q.2 ⟨rfl, hw⟩)
           · exact hx37.elim (fun q => by omega) (fun q => q.2 ⟨rfl, hw⟩)
           · exact hx61.elim (fun q => by omega) (fun q => q.2 ⟨rfl, hw⟩)
           · exact hx87.elim (fun q => by omega) (fun q => q.2 ⟨rfl, hw⟩)
           · exact hx110.elim (fun q => by omega) (fun q => q.2 ⟨rfl, hw⟩)
           · exact hx135.elim (fun q => by omega) (fun q => q.2 ⟨rfl, hw⟩))
  · refine q_aload_n (t := 20) F dX9_name_19 rfl rfl rfl ?_
    refine g_X9_202 (t := 23) F dX9_name_20 rfl rfl ?_
    try simp only [up_app, row_app, scr_app, cpy_app, Nat.reduceEqDiff, Int.reduceToNat, Int.toNat_natCast, and_true, true_and, and_false, false_and, and_self, reduceIte]
    refine q_iret F dX9_name_23 rfl ?_
    first
      | (have w : wd b n p 0 := hx13.elim (fun q => q.2.2) (fun q => absurd q.1 (by omega))
         have e := (wd_nm (by omega)).mp w
         refine ⟨_, rfl, Or.inl ⟨e.1, ?_, rfl⟩⟩
         rw [e.2]
         rfl)
      | (have w : wd b n p 1 := hx37.elim (fun q => q.2.2) (fun q => absurd q.1 (by omega))
         have e := (wd_nm (by omega)).mp w
         refine ⟨_, rfl, Or.inl ⟨e.1, ?_, rfl⟩⟩
         rw [e.2]
         rfl)
      | (have w : wd b n p 2 := hx61.elim (fun q => q.2.2) (fun q => absurd q.1 (by omega))
         have e := (wd_nm (by omega)).mp w
         refine ⟨_, rfl, Or.inl ⟨e.1, ?_, rfl⟩⟩
         rw [e.2]
         rfl)
      | (have w : wd b n p 3 := hx87.elim (fun q => q.2.2) (fun q => absurd q.1 (by omega))
         have e := (wd_nm (by omega)).mp w
         refine ⟨_, rfl, Or.inl ⟨e.1, ?_, rfl⟩⟩
         rw [e.2]
         rfl)
      | (have w : wd b n p 4 := hx110.elim (fun q => q.2.2) (fun q => absurd q.1 (by omega))
         have e := (wd_nm (by omega)).mp w
         refine ⟨_, rfl, Or.inl ⟨e.1, ?_, rfl⟩⟩
         rw [e.2]
         rfl)
      | (have w : wd b n p 5 := hx135.elim (fun q => q.2.2) (fun q => absurd q.1 (by omega))
         have e := (wd_nm (by omega)).mp w
         refine ⟨_, rfl, Or.inl ⟨e.1, ?_, rfl⟩⟩
         rw [e.2]
         rfl)
      | (refine ⟨_, rfl, Or.inr ⟨fun q => ?_, rfl, im2, h2, hag, rfl⟩⟩
         obtain ⟨i, hi, hv, hw⟩ := tk_3 q
         rcases (show i = 0 ∨ i = 1 ∨ i = 2 ∨ i = 3 ∨ i = 4 ∨ i = 5 by omega) with rfl | rfl | rfl | rfl | rfl | rfl
         · exact hx13.elim (fun q => by omega) (fun q => q.2 ⟨rfl, hw⟩)
         · exact hx37.elim (fun q => by omega) (fun q => q.2 ⟨rfl, hw⟩)
         · exact hx61.elim (fun q => by omega) (fun q => q.2 ⟨rfl, hw⟩)
         · exact hx87.elim (fun q => by omega) (fun q => q.2 ⟨rfl, hw⟩)
         · exact hx110.elim (fun q => by omega) (fun q => q.2 ⟨rfl, hw⟩)
         · exact hx135.elim (fun q => by omega) (fun q => q.2 ⟨rfl, hw⟩))
end
section
/-! the reference's grammar: one -/
def NMr (im : IM) (nm : Nat → Int) : Prop := ∀ i, i < 6 → im 30 0 (15 + i) = nm i
def RPO (b : Nat → Int) (n : Nat) (im lm : IM) (nm : Nat → Int) (r : PT) (x : Int) (im' lm' : IM) : Prop := ri x ∧ PQ b n im' lm' r.1 r.2.1 ∧ agQ im' im ∧ lgQ lm' lm ∧ (r.2.1 = -1 → x = r.2.2.2 nm)
def RT (l : Launch) (G : GS) (bt rt : Nat) (b : Nat → Int) (n : Nat) (y : MethodName) (Y : YS) (F : Nat → PT) (d : Nat) : Prop := ∀ (im lm : IM) (nm : Nat → Int) (p : Nat) (f : Int), PQ b n im lm p f → im 30 0 27 = (d : Int) → NMr im nm → Cn l (XR G) y Y [vR 30 0] (im, rs bt rt, lm) (pI fun x m' => ∃ im' lm', RPO b n im lm nm (stP F p f) x im' lm' ∧ m' = (im', rs bt rt, lm'))
theorem NMr.ag {im im' : IM} {nm : Nat → Int} (h : NMr im nm) (ha : agQ im' im) : NMr im' nm := fun i hi => (ha 30 0 (15 + i) (by omega)).trans (h i hi)
theorem NMr.ag27 {im im' : IM} {nm : Nat → Int} {x : Int} (h : NMr im nm) (ha : agQ im' (up im 30 0 27 x)) : NMr im' nm := fun i hi => (ha 30 0 (15 + i) (by omega)).trans (by rw [up_app, if_neg (by omega)]; exact h i hi)
theorem ag_27 {im im3 : IM} {d x : Int} (h : agQ im3 (up im 30 0 27 x)) (h27 : im 30 0 27 = d) : agQ (up im3 30 0 27 d) im := fun k i s hs => by
  rw [up_app]
  split
  · rename_i q
    obtain ⟨rfl, rfl, rfl⟩ := q
    exact h27.symm
  · rename_i q
    exact (h k i s hs).trans (by rw [up_app, if_neg q])
theorem RPO_neg {b : Nat → Int} {n d : Nat} {im lm im2 lm2 im3 lm3 : IM} {nm : Nat → Int} {r : PT} {x : Int} (hd : d ≤ 5) (h27 : im 30 0 27 = (d : Int)) (hag : agQ im2 (up im 30 0 27 ((d : Int) + 1))) (hlg : lgQ lm2 lm) (h : RPO b n im2 lm2 nm r x im3 lm3) : RPO b n im lm nm (wrap1 (-7) r) (bm (-x)) (up im3 30 0 27 (d : Int)) lm3 := by
  obtain ⟨h1, h2, h3, h4, h5⟩ := h
  exact ⟨ri_b _, PQ_27 h2 (by constructor <;> omega), ag_27 (h3.trans hag) h27, h4.trans hlg, fun q => by rw [h5 q]; rfl⟩
theorem one_min {b : Nat → Int} {n m p : Nat} (ht : tk b n p = 45) : oneL b n (m + 1) p = wrap1 (-7) (oneL b n m (adv b n p)) := by rw [oneL_s, if_pos ht]
theorem one_oth {b : Nat → Int} {n m p : Nat} (ht : tk b n p ≠ 45) : oneL b n m p = atomX b n m (eitB b n m) p := by
  cases m with
  | zero => rw [oneL_0, if_neg ht]; rfl
  | succ m => rw [oneL_s, if_neg ht]; rfl
theorem one_par {b : Nat → Int} {n m p : Nat} (ht : tk b n p = 40) : oneL b n (m + 1) p = (if (eitL b n m (adv b n p)).2.1 = -1 then (if tk b n (eitL b n m (adv b n p)).1 = 41 then (adv b n (eitL b n m (adv b n p)).1, -1, (eitL b n m (adv b n p)).2.2) else ((eitL b n m (adv b n p)).1, ((eitL b n m (adv b n p)).1 : Int), (eitL b n m (adv b n p)).2.2)) else eitL b n m (adv b n p)) := by
  rw [one_oth (by omega)]
  unfold atomX
  rw [if_pos ⟨ht, by omega⟩]
  rfl
theorem oneR_num {b : Nat → Int} {n m p : Nat} (ht : tk b n p = 2) : oneL b n m p = (adv b n p, -1, [vl b n p], fun _ => vl b n p) := by
  rw [one_oth (by omega)]
  unfold atomX
  rw [if_neg (by omega), if_pos ht]
theorem oneR_nam {b : Nat → Int} {n m p : Nat} (ht : tk b n p = 3) : oneL b n m p = (adv b n p, -1, [-1 - vl b n p], fun nm => nm (vl b n p).toNat) := by
  rw [one_oth (by omega)]
  unfold atomX
  rw [if_neg (by omega), if_neg (by omega), if_pos ht]
theorem one_non {b : Nat → Int} {n m p : Nat} (h1 : tk b n p ≠ 2) (h2 : tk b n p ≠ 3) (h3 : m = 0 ∨ (tk b n p ≠ 45 ∧ tk b n p ≠ 40)) : oneL b n m p = pFail p := by
  by_cases h : tk b n p = 45
  · have : m = 0 := by omega
    subst this
    rw [oneL_0, if_pos h]
  · rw [one_oth h]
    unfold atomX
    rw [if_neg (by omega), if_neg h1, if_neg h2]
theorem vl_2 {b : Nat → Int} {n p : Nat} (h : tk b n p = 2) : 0 ≤ vl b n p ∧ vl b n p ≤ 9999 := by
  have hp := tk_lt (b := b) (n := n) (p := p) (by omega)
  by_cases hl : isL (b p) = true
  · have e := (tk_L hp hl).1
    have hw := wIx_in b p (span isL b n p) 12
    unfold tkW at e
    (repeat' split at e) <;> omega
  · by_cases hd : isD (b p) = true
    · have e : tk b n p = (if 4 < span isD b n p - p then 1 else 2) := by unfold tk; rw [if_neg (by omega), if_neg hl, if_pos hd]
      have e4 : vl b n p = numF b p (span isD b n p - p) := by unfold vl; rw [if_neg hl]
      have hk : span isD b n p - p ≤ 4 := by split at e <;> omega
      have hf := numF_in (b := b) (p := p) (span isD b n p - p) hk (fun q hq => isD_iff.mp (span_all (P := isD) (b := b) (n := n) _ p rfl (p + q) (by omega) (by omega)))
      rw [e4]
      refine ⟨hf.1, ?_⟩
      have h10 : (10 : Int) ^ (span isD b n p - p) ≤ 10 ^ 4 := by
        rcases (show span isD b n p - p = 0 ∨ span isD b n p - p = 1 ∨ span isD b n p - p = 2 ∨ span isD b n p - p = 3 ∨ span isD b n p - p = 4 by omega) with q | q | q | q | q <;> rw [q] <;> decide
      have : (10 : Int) ^ 4 = 10000 := rfl
      omega
    · have e : tk b n p = (if sgn (b p) then b p else 1) := by unfold tk; rw [if_neg (by omega), if_neg hl, if_neg hd]
      unfold sgn at e
      split at e <;> omega
theorem c_nameQ (l : Launch) (G : GS) (im : IM) (bt rt : Nat) (lm : IM) (b : Nat → Int) (n : Nat) (hb : byt b n) (nm : Nat → Int) (p : Nat) (h : PQ b n im lm p (-1)) (hnm : NMr im nm) : Cn l (XR G) yX9_name Y_X9_name [vR 30 0] (im, rs bt rt, lm) (pI fun x m' => ∃ im', ri x ∧ PQ b n im' lm p (if tk b n p = 3 then -1 else (p : Int)) ∧ agQ im' im ∧ (tk b n p = 3 → x = nm (vl b n p).toNat) ∧ m' = (im', rs bt rt, lm)) := by
  refine (c_X9_name l G im bt rt lm b n hb p h).mono (fun r m' hq => ?_)
  obtain ⟨x, hr, hq⟩ := hq
  rcases hq with ⟨ht, hx, hm⟩ | ⟨ht, hx, im', hP, hag, hm⟩
  · obtain ⟨i, hi, hv, -⟩ := tk_3 ht
    refine ⟨x, hr, im, by rw [hx]; exact h.2.1 _ _ _, by rw [if_pos ht]; exact h, agQ_rfl im, fun _ => ?_, hm⟩
    rw [hx]
    refine hnm _ ?_
    rw [hv]
    omega
  · exact ⟨x, hr, im', by rw [hx]; constructor <;> omega, by rw [if_neg ht]; exact hP, hag, fun q => absurd q ht, hm⟩
theorem TK_is {b : Nat → Int} {n p : Nat} {im lm : IM} {f : Int} (h : PQ b n im lm p f) : f = -1 → (im 30 0 24 = 2 ↔ tk b n p = 2) ∧ (tk b n p = 2 → lm 30 0 26 = vl b n p) ∧ (im 30 0 24 = 1 ↔ p < n ∧ isL (b p) = true) := fun hf => ⟨(TK_num (h.1.1 hf).2.2).1, (TK_num (h.1.1 hf).2.2).2, (TK_word (h.1.1 hf).2.2).1⟩
theorem tk_3L {b : Nat → Int} {n p : Nat} (h : tk b n p = 3) : p < n ∧ isL (b p) = true := by
  obtain ⟨i, hi, hv, hw⟩ := tk_3 h
  exact ⟨hw.1, hw.2.1⟩
theorem tk_L9 {b : Nat → Int} {n p : Nat} (hp : p < n) (hl : isL (b p) = true) : tk b n p ≠ 2 ∧ tk b n p ≤ 9 := by
  have hw := wIx_in b p (span isL b n p) 12
  rw [(tk_L hp hl).1]
  unfold tkW
  (repeat' split) <;> omega

set_option maxHeartbeats 4000000 in
theorem c_X9_atom5 (l : Launch) (G : GS)  (bt rt : Nat)  (b : Nat → Int) (n : Nat) (hb : byt b n) (im lm : IM) (nm : Nat → Int) (p : Nat) (f : Int) (h : PQ b n im lm p f) (h27 : im 30 0 27 = ((5 : Nat) : Int)) (hnm : NMr im nm) : Cn l (XR G) yX9_atom5 Y_X9_atom5 [vR 30 0] (im, rs bt rt, lm) (pI fun x m' => ∃ im' lm', RPO b n im lm nm (stP (oneL b n 0) p f) x im' lm' ∧ m' = (im', rs bt rt, lm')) := by
  refine cn_of (by decide) (okR G) rfl (Nat.le_of_ble_eq_true rfl) ?_
  intro M ad hMl F
  subst hMl
  have hn := hb.1
  have hR := h.2.1
  have hbb := h.b01
  have hti := tk_in b n p
  have hTK := TK_is h
  refine wp_pad 1 ?_
  show Wp M (XR G) ad Y_X9_atom5 (pI fun x m' => ∃ im' lm', RPO b n im lm nm (stP (oneL b n 0) p f) x im' lm' ∧ m' = (im', rs bt rt, lm')) 0 [some (vR 30 0), none] [] (im, rs bt rt, lm)
  have T102 : ∀ (x : Int) (im1 lm1 : IM), RPO b n im lm nm (stP (oneL b n 0) p f) x im1 lm1 → Wp M (XR G) ad Y_X9_atom5 (pI fun x m' => ∃ im' lm', RPO b n im lm nm (stP (oneL b n 0) p f) x im' lm' ∧ m' = (im', rs bt rt, lm')) 102 [some (vR 30 0), some (vI x)] [] (im1, rs bt rt, lm1) := by
    intro x im1 lm1 hr
    refine q_iload_n (t := 103) F dX9_atom5_102 rfl rfl rfl ?_
    refine q_iret F dX9_atom5_103 rfl ?_
    exact ⟨x, rfl, im1, lm1, hr, rfl⟩
  refine q_iconst (t := 1) F dX9_atom5_0 rfl ?_
  refine q_istore_n (t := 2) F dX9_atom5_1 rfl (by decide) rfl rfl ?_
  refine q_aload_n (t := 3) F dX9_atom5_2 rfl rfl rfl ?_
  refine q_bipush (t := 5) F dX9_atom5_3 (by decide) rfl ?_
  refine wp_callV (t := 8) [_] F dX9_atom5_5 k_X9_isSign v_X9_isSign ml_X9_220 rfl rfl rfl rfl (Nat.le_of_ble_eq_true rfl) (by decide) (m_30 (by omega)) (c_X9_isSign _ G im bt rt lm b n hb p f h 45 (by omega) (by omega)) rfl (kI ?_)
  rintro x5 m' ⟨hx5, rfl⟩
  have hx5 := if01 hx5
  refine q_if_eq (t := 11) (u := 19) F dX9_atom5_8 (by first | exact hR _ _ _ | (constructor <;> omega)) (by decide) rfl (fun c8 => ?_) (fun c8 => ?_)
  · refine q_aload_n (t := 20) F dX9_atom5_19 rfl rfl rfl ?_
    refine q_bipush (t := 22) F dX9_atom5_20 (by decide) rfl ?_
    refine wp_callV (t := 25) [_] F dX9_atom5_22 k_X9_isSign v_X9_isSign ml_X9_220 rfl rfl rfl rfl (Nat.le_of_ble_eq_true rfl) (by decide) (m_30 (by omega)) (c_X9_isSign _ G im bt rt lm b n hb p f h 40 (by omega) (by omega)) rfl (kI ?_)
    rintro x22 m' ⟨hx22, rfl⟩
    have hx22 := if01 hx22
    refine q_if_eq (t := 28) (u := 36) F dX9_atom5_25 (by first | exact hR _ _ _ | (constructor <;> omega)) (by decide) rfl (fun c25 => ?_) (fun c25 => ?_)
    · refine q_aload_n (t := 37) F dX9_atom5_36 rfl rfl rfl ?_
      refine g_X9_179 (t := 40) F dX9_atom5_37 rfl rfl ?_
      try simp only [up_app, row_app, scr_app, cpy_app, Nat.reduceEqDiff, Int.reduceToNat, Int.toNat_natCast, and_true, true_and, and_false, false_and, and_self, reduceIte]
      refine q_if_ne (t := 43) (u := 64) F dX9_atom5_40 (by exact hR _ _ _) (by decide) rfl (fun c40 => ?_) (fun c40 => ?_)
      · refine q_aload_n (t := 65) F dX9_atom5_64 rfl rfl rfl ?_
        refine g_X9_179 (t := 68) F dX9_atom5_65 rfl rfl ?_
        try simp only [up_app, row_app, scr_app, cpy_app, Nat.reduceEqDiff, Int.reduceToNat, Int.toNat_natCast, and_true, true_and, and_false, false_and, and_self, reduceIte]
        refine q_if_ne (t := 71) (u := 98) F dX9_atom5_68 (by exact hR _ _ _) (by decide) rfl (fun c68 => ?_) (fun c68 => ?_)
        · refine q_aload_n (t := 99) F dX9_atom5_98 rfl rfl rfl ?_
          refine wp_callV (t := 102) [] F dX9_atom5_99 k_X9_fail v_X9_fail ml_X9_193 rfl rfl rfl rfl (Nat.le_of_ble_eq_true rfl) (by decide) (m_30 (by omega)) (c_failQ _ G im bt rt lm b n p f h) rfl (kV ?_)
          rintro m' ⟨im9, h9, hag9, rfl⟩
          by_cases hf : f = -1
          · subst hf
            have e : oneL b n 0 p = pFail p := by
              refine one_non ?_ ?_ ?_
              · intro q
                have := (hTK rfl).1.mpr q
                omega
              · intro q
                have := (hTK rfl).2.2.mpr (tk_3L q)
                omega
              · omega
            refine T102 0 im9 lm ⟨by constructor <;> omega, ?_, hag9, lgQ_rfl lm, fun q => ?_⟩
            · rw [stP_y, e]; exact h9
            · rw [stP_y, e] at q
              have : (p : Int) = -1 := q
              omega
          · refine T102 0 im9 lm ⟨by constructor <;> omega, ?_, hag9, lgQ_rfl lm, fun q => ?_⟩
            · rw [if_neg hf] at h9
              rw [stP_n hf]; exact h9
            · rw [stP_n hf] at q
              exact absurd q hf
        · refine q_aload_n (t := 72) F dX9_atom5_71 rfl rfl rfl ?_
          refine g_X9_164 (t := 75) F dX9_atom5_72 rfl rfl ?_
          try simp only [up_app, row_app, scr_app, cpy_app, Nat.reduceEqDiff, Int.reduceToNat, Int.toNat_natCast, and_true, true_and, and_false, false_and, and_self, reduceIte]
          refine q_iconst (t := 76) F dX9_atom5_75 rfl ?_
          refine q_icmp_ne (t := 79) (u := 98) F dX9_atom5_76 (by exact hR _ _ _) (by constructor <;> omega) (by decide) rfl (fun c76 => ?_) (fun c76 => ?_)
          · refine q_aload_n (t := 99) F dX9_atom5_98 rfl rfl rfl ?_
            refine wp_callV (t := 102) [] F dX9_atom5_99 k_X9_fail v_X9_fail ml_X9_193 rfl rfl rfl rfl (Nat.le_of_ble_eq_true rfl) (by decide) (m_30 (by omega)) (c_failQ _ G im bt rt lm b n p f h) rfl (kV ?_)
            rintro m' ⟨im9, h9, hag9, rfl⟩
            by_cases hf : f = -1
            · subst hf
              have e : oneL b n 0 p = pFail p := by
                refine one_non ?_ ?_ ?_
                · intro q
                  have := (hTK rfl).1.mpr q
                  omega
                · intro q
                  have := (hTK rfl).2.2.mpr (tk_3L q)
                  omega
                · omega
              refine T102 0 im9 lm ⟨by constructor <;> omega, ?_, hag9, lgQ_rfl lm, fun q => ?_⟩
              · rw [stP_y, e]; exact h9
              · rw [stP_y, e] at q
                have : (p : Int) = -1 := q
                omega
            · refine T102 0 im9 lm ⟨by constructor <;> omega, ?_, hag9, lgQ_rfl lm, fun q => ?_⟩
              · rw [if_neg hf] at h9
                rw [stP_n hf]; exact h9
              · rw [stP_n hf] at q
                exact absurd q hf
          · have hf : f = -1 := by first | (clear hx5 hx22; omega) | omega
            subst hf
            have hwd := (hTK rfl).2.2.mp (by omega)
            refine q_aload_n (t := 80) F dX9_atom5_79 rfl rfl rfl ?_
            refine wp_callV (t := 83) [] F dX9_atom5_80 k_X9_name v_X9_name ml_X9_227 rfl rfl rfl rfl (Nat.le_of_ble_eq_true rfl) (by decide) (m_30 (by omega)) (c_nameQ _ G im bt rt lm b n hb nm p h hnm) rfl (kI ?_)
            rintro x80 m' ⟨im6, hri6, h6, hag6, hx6, rfl⟩
            have hb6 : (tk b n p = 3 ∧ im6 30 0 28 = 0) ∨ (tk b n p ≠ 3 ∧ im6 30 0 28 = 1) := by
              have q6 := h6.b01
              split at q6 <;> omega
            refine q_istore_n (t := 84) F dX9_atom5_83 rfl (by decide) rfl rfl ?_
            refine q_aload_n (t := 85) F dX9_atom5_84 rfl rfl rfl ?_
            refine g_X9_179 (t := 88) F dX9_atom5_85 rfl rfl ?_
            try simp only [up_app, row_app, scr_app, cpy_app, Nat.reduceEqDiff, Int.reduceToNat, Int.toNat_natCast, and_true, true_and, and_false, false_and, and_self, reduceIte]
            refine q_if_ne (t := 91) (u := 102) F dX9_atom5_88 (by exact h6.2.1 _ _ _) (by decide) rfl (fun c88 => ?_) (fun c88 => ?_)
            · have e : oneL b n 0 p = pFail p := by
                have h29 := tk_L9 hwd.1 hwd.2
                exact one_non h29.1 (fun q => by omega) (by omega)
              have ht3 : tk b n p ≠ 3 := by omega
              rw [if_neg ht3] at h6
              refine T102 x80 im6 lm ⟨hri6, ?_, hag6, lgQ_rfl lm, fun q => ?_⟩
              · rw [stP_y, e]; exact h6
              · rw [stP_y, e] at q
                have : (p : Int) = -1 := q
                omega
            · have ht3 : tk b n p = 3 := by omega
              rw [if_pos ht3] at h6
              refine q_aload_n (t := 92) F dX9_atom5_91 rfl rfl rfl ?_
              refine wp_callV (t := 95) [] F dX9_atom5_92 k_X9_next v_X9_next ml_X9_196 rfl rfl rfl rfl (Nat.le_of_ble_eq_true rfl) (by decide) (m_30 (by omega)) (c_nextQ _ G im6 bt rt lm b n hb p h6 hwd.1 (by omega)) rfl (kV ?_)
              rintro m' ⟨im7, lm7, h7, hag7, hlg7, rfl⟩
              refine q_goto (t := 102) F dX9_atom5_95 (by decide) ?_
              refine T102 x80 im7 lm7 ⟨hri6, ?_, hag7.trans hag6, hlg7, fun q => ?_⟩
              · rw [stP_y, oneR_nam ht3]; exact h7
              · rw [stP_y, oneR_nam ht3]; exact hx6 ht3
      · refine q_aload_n (t := 44) F dX9_atom5_43 rfl rfl rfl ?_
        refine g_X9_164 (t := 47) F dX9_atom5_44 rfl rfl ?_
        try simp only [up_app, row_app, scr_app, cpy_app, Nat.reduceEqDiff, Int.reduceToNat, Int.toNat_natCast, and_true, true_and, and_false, false_and, and_self, reduceIte]
        refine q_iconst (t := 48) F dX9_atom5_47 rfl ?_
        refine q_icmp_ne (t := 51) (u := 64) F dX9_atom5_48 (by exact hR _ _ _) (by constructor <;> omega) (by decide) rfl (fun c48 => ?_) (fun c48 => ?_)
        · refine q_aload_n (t := 65) F dX9_atom5_64 rfl rfl rfl ?_
          refine g_X9_179 (t := 68) F dX9_atom5_65 rfl rfl ?_
          try simp only [up_app, row_app, scr_app, cpy_app, Nat.reduceEqDiff, Int.reduceToNat, Int.toNat_natCast, and_true, true_and, and_false, false_and, and_self, reduceIte]
          refine q_if_ne (t := 71) (u := 98) F dX9_atom5_68 (by exact hR _ _ _) (by decide) rfl (fun c68 => ?_) (fun c68 => ?_)
          · refine q_aload_n (t := 99) F dX9_atom5_98 rfl rfl rfl ?_
            refine wp_callV (t := 102) [] F dX9_atom5_99 k_X9_fail v_X9_fail ml_X9_193 rfl rfl rfl rfl (Nat.le_of_ble_eq_true rfl) (by decide) (m_30 (by omega)) (c_failQ _ G im bt rt lm b n p f h) rfl (kV ?_)
            rintro m' ⟨im9, h9, hag9, rfl⟩
            by_cases hf : f = -1
            · subst hf
              have e : oneL b n 0 p = pFail p := by
                refine one_non ?_ ?_ ?_
                · intro q
                  have := (hTK rfl).1.mpr q
                  omega
                · intro q
                  have := (hTK rfl).2.2.mpr (tk_3L q)
                  omega
                · omega
              refine T102 0 im9 lm ⟨by constructor <;> omega, ?_, hag9, lgQ_rfl lm, fun q => ?_⟩
              · rw [stP_y, e]; exact h9
              · rw [stP_y, e] at q
                have : (p : Int) = -1 := q
                omega
            · refine T102 0 im9 lm ⟨by constructor <;> omega, ?_, hag9, lgQ_rfl lm, fun q => ?_⟩
              · rw [if_neg hf] at h9
                rw [stP_n hf]; exact h9
              · rw [stP_n hf] at q
                exact absurd q hf
          · refine q_aload_n (t := 72) F dX9_atom5_71 rfl rfl rfl ?_
            refine g_X9_164 (t := 75) F dX9_atom5_72 rfl rfl ?_
            try simp only [up_app, row_app, scr_app, cpy_app, Nat.reduceEqDiff, Int.reduceToNat, Int.toNat_natCast, and_true, true_and, and_false, false_and, and_self, reduceIte]
            refine q_iconst (t := 76) F dX9_atom5_75 rfl ?_
            refine q_icmp_ne (t := 79) (u := 98) F dX9_atom5_76 (by exact hR _ _ _) (by constructor <;> omega) (by decide) rfl (fun c76 => ?_) (fun c76 => ?_)
            · refine q_aload_n (t := 99) F dX9_atom5_98 rfl rfl rfl ?_
              refine wp_callV (t := 102) [] F dX9_atom5_99 k_X9_fail v_X9_fail ml_X9_193 rfl rfl rfl rfl (Nat.le_of_ble_eq_true rfl) (by decide) (m_30 (by omega)) (c_failQ _ G im bt rt lm b n p f h) rfl (kV ?_)
              rintro m' ⟨im9, h9, hag9, rfl⟩
              by_cases hf : f = -1
              · subst hf
                have e : oneL b n 0 p = pFail p := by
                  refine one_non ?_ ?_ ?_
                  · intro q
                    have := (hTK rfl).1.mpr q
                    omega
                  · intro q
                    have := (hTK rfl).2.2.mpr (tk_3L q)
                    omega
                  · omega
                refine T102 0 im9 lm ⟨by constructor <;> omega, ?_, hag9, lgQ_rfl lm, fun q => ?_⟩
                · rw [stP_y, e]; exact h9
                · rw [stP_y, e] at q
                  have : (p : Int) = -1 := q
                  omega
              · refine T102 0 im9 lm ⟨by constructor <;> omega, ?_, hag9, lgQ_rfl lm, fun q => ?_⟩
                · rw [if_neg hf] at h9
                  rw [stP_n hf]; exact h9
                · rw [stP_n hf] at q
                  exact absurd q hf
            · have hf : f = -1 := by first | (clear hx5 hx22; omega) | omega
              subst hf
              have hwd := (hTK rfl).2.2.mp (by omega)
              refine q_aload_n (t := 80) F dX9_atom5_79 rfl rfl rfl ?_
              refine wp_callV (t := 83) [] F dX9_atom5_80 k_X9_name v_X9_name ml_X9_227 rfl rfl rfl rfl (Nat.le_of_ble_eq_true rfl) (by decide) (m_30 (by omega)) (c_nameQ _ G im bt rt lm b n hb nm p h hnm) rfl (kI ?_)
              rintro x80 m' ⟨im6, hri6, h6, hag6, hx6, rfl⟩
              have hb6 : (tk b n p = 3 ∧ im6 30 0 28 = 0) ∨ (tk b n p ≠ 3 ∧ im6 30 0 28 = 1) := by
                have q6 := h6.b01
                split at q6 <;> omega
              refine q_istore_n (t := 84) F dX9_atom5_83 rfl (by decide) rfl rfl ?_
              refine q_aload_n (t := 85) F dX9_atom5_84 rfl rfl rfl ?_
              refine g_X9_179 (t := 88) F dX9_atom5_85 rfl rfl ?_
              try simp only [up_app, row_app, scr_app, cpy_app, Nat.reduceEqDiff, Int.reduceToNat, Int.toNat_natCast, and_true, true_and, and_false, false_and, and_self, reduceIte]
              refine q_if_ne (t := 91) (u := 102) F dX9_atom5_88 (by exact h6.2.1 _ _ _) (by decide) rfl (fun c88 => ?_) (fun c88 => ?_)
              · have e : oneL b n 0 p = pFail p := by
                  have h29 := tk_L9 hwd.1 hwd.2
                  exact one_non h29.1 (fun q => by omega) (by omega)
                have ht3 : tk b n p ≠ 3 := by omega
                rw [if_neg ht3] at h6
                refine T102 x80 im6 lm ⟨hri6, ?_, hag6, lgQ_rfl lm, fun q => ?_⟩
                · rw [stP_y, e]; exact h6
                · rw [stP_y, e] at q
                  have : (p : Int) = -1 := q
                  omega
              · have ht3 : tk b n p = 3 := by omega
                rw [if_pos ht3] at h6
                refine q_aload_n (t := 92) F dX9_atom5_91 rfl rfl rfl ?_
                refine wp_callV (t := 95) [] F dX9_atom5_92 k_X9_next v_X9_next ml_X9_196 rfl rfl rfl rfl (Nat.le_of_ble_eq_true rfl) (by decide) (m_30 (by omega)) (c_nextQ _ G im6 bt rt lm b n hb p h6 hwd.1 (by omega)) rfl (kV ?_)
                rintro m' ⟨im7, lm7, h7, hag7, hlg7, rfl⟩
                refine q_goto (t := 102) F dX9_atom5_95 (by decide) ?_
                refine T102 x80 im7 lm7 ⟨hri6, ?_, hag7.trans hag6, hlg7, fun q => ?_⟩
                · rw [stP_y, oneR_nam ht3]; exact h7
                · rw [stP_y, oneR_nam ht3]; exact hx6 ht3
        · have hf : f = -1 := by first | (clear hx5 hx22; omega) | omega
          subst hf
          have ht2 : tk b n p = 2 := by have := (hTK rfl).1; omega
          have hlt : p < n := tk_lt (b := b) (by omega)
          have hvl := (hTK rfl).2.1 ht2
          have hv2 := vl_2 ht2
          refine q_aload_n (t := 52) F dX9_atom5_51 rfl rfl rfl ?_
          refine g_X9_175 (t := 55) F dX9_atom5_52 rfl rfl ?_
          try simp only [up_app, row_app, scr_app, cpy_app, Nat.reduceEqDiff, Int.reduceToNat, Int.toNat_natCast, and_true, true_and, and_false, false_and, and_self, reduceIte]
          refine q_l2i (t := 56) F dX9_atom5_55 rfl ?_
          refine q_istore_n (t := 57) F dX9_atom5_56 rfl (by decide) rfl rfl ?_
          refine q_aload_n (t := 58) F dX9_atom5_57 rfl rfl rfl ?_
          refine wp_callV (t := 61) [] F dX9_atom5_58 k_X9_next v_X9_next ml_X9_196 rfl rfl rfl rfl (Nat.le_of_ble_eq_true rfl) (by decide) (m_30 (by omega)) (c_nextQ _ G im bt rt lm b n hb p h hlt (by omega)) rfl (kV ?_)
          rintro m' ⟨im5, lm5, h5, hag5, hlg5, rfl⟩
          refine q_goto (t := 102) F dX9_atom5_61 (by decide) ?_
          refine T102 (lm 30 0 26) im5 lm5 ⟨by constructor <;> omega, ?_, hag5, hlg5, fun q => ?_⟩
          · rw [stP_y, oneR_num ht2]; exact h5
          · rw [stP_y, oneR_num ht2]; exact hvl
    · have hf : f = -1 := by omega
      subst hf
      have hlt : p < n := tk_lt (b := b) (by omega)
      refine q_aload_n (t := 29) F dX9_atom5_28 rfl rfl rfl ?_
      refine wp_callV (t := 32) [] F dX9_atom5_29 k_X9_opens v_X9_opens ml_X9_223 rfl rfl rfl rfl (Nat.le_of_ble_eq_true rfl) (by decide) (m_30 (by omega)) (c_X9_opens _ G im bt rt lm b n hb p h hlt (by omega) 5 (by omega) h27) rfl (kI ?_)
      rintro x29 m' (⟨-, rfl, im2, h2, hag, rfl⟩ | ⟨q, -⟩)
      rotate_left
      · exact absurd q (by omega)
      refine q_popI (t := 33) F dX9_atom5_32 rfl ?_
      refine q_goto (t := 102) F dX9_atom5_33 (by decide) ?_
      have e : oneL b n 0 p = pFail p := one_non (by omega) (by omega) (Or.inl rfl)
      refine T102 0 im2 lm ⟨by constructor <;> omega, ?_, hag, lgQ_rfl lm, fun q => ?_⟩
      · rw [stP_y, e]; exact h2
      · rw [stP_y, e] at q
        have : (p : Int) = -1 := q
        omega
  · have hf : f = -1 := by omega
    subst hf
    have hlt : p < n := tk_lt (b := b) (by omega)
    refine q_aload_n (t := 12) F dX9_atom5_11 rfl rfl rfl ?_
    refine wp_callV (t := 15) [] F dX9_atom5_12 k_X9_opens v_X9_opens ml_X9_223 rfl rfl rfl rfl (Nat.le_of_ble_eq_true rfl) (by decide) (m_30 (by omega)) (c_X9_opens _ G im bt rt lm b n hb p h hlt (by omega) 5 (by omega) h27) rfl (kI ?_)
    rintro x12 m' (⟨-, rfl, im2, h2, hag, rfl⟩ | ⟨q, -⟩)
    rotate_left
    · exact absurd q (by omega)
    refine q_popI (t := 16) F dX9_atom5_15 rfl ?_
    refine q_goto (t := 102) F dX9_atom5_16 (by decide) ?_
    have e : oneL b n 0 p = pFail p := one_non (by omega) (by omega) (Or.inl rfl)
    refine T102 0 im2 lm ⟨by constructor <;> omega, ?_, hag, lgQ_rfl lm, fun q => ?_⟩
    · rw [stP_y, e]; exact h2
    · rw [stP_y, e] at q
      have : (p : Int) = -1 := q
      omega
end
section
set_option maxHeartbeats 4000000 in
theorem c_X9_atom4 (l : Launch) (G : GS)  (bt rt : Nat)  (b : Nat → Int) (n : Nat) (hb : byt b n) (hA : RT l G bt rt b n yX9_atom5 Y_X9_atom5 (oneL b n 0) 5) (hE : RT l G bt rt b n yX9_either5 Y_X9_either5 (eitL b n 0) 5) (im lm : IM) (nm : Nat → Int) (p : Nat) (f : Int) (h : PQ b n im lm p f) (h27 : im 30 0 27 = ((4 : Nat) : Int)) (hnm : NMr im nm) : Cn l (XR G) yX9_atom4 Y_X9_atom4 [vR 30 0] (im, rs bt rt, lm) (pI fun x m' => ∃ im' lm', RPO b n im lm nm (stP (oneL b n 1) p f) x im' lm' ∧ m' = (im', rs bt rt, lm')) := by
  refine cn_of (by decide) (okR G) rfl (Nat.le_of_ble_eq_true rfl) ?_
  intro M ad hMl F
  subst hMl
  have hn := hb.1
  have hR := h.2.1
  have hbb := h.b01
  have hti := tk_in b n p
  have hTK := TK_is h
  refine wp_pad 1 ?_
  show Wp M (XR G) ad Y_X9_atom4 (pI fun x m' => ∃ im' lm', RPO b n im lm nm (stP (oneL b n 1) p f) x im' lm' ∧ m' = (im', rs bt rt, lm')) 0 [some (vR 30 0), none] [] (im, rs bt rt, lm)
  have T161 : ∀ (x : Int) (im1 lm1 : IM), RPO b n im lm nm (stP (oneL b n 1) p f) x im1 lm1 → Wp M (XR G) ad Y_X9_atom4 (pI fun x m' => ∃ im' lm', RPO b n im lm nm (stP (oneL b n 1) p f) x im' lm' ∧ m' = (im', rs bt rt, lm')) 161 [some (vR 30 0), some (vI x)] [] (im1, rs bt rt, lm1) := by
    intro x im1 lm1 hr
    refine q_iload_n (t := 162) F dX9_atom4_161 rfl rfl rfl ?_
    refine q_iret F dX9_atom4_162 rfl ?_
    exact ⟨x, rfl, im1, lm1, hr, rfl⟩
  have T71 : ∀ (x : Int) (r : PT) (f4 : Int) (im4 lm4 : IM), ri x → PQ b n im4 lm4 r.1 f4 → agQ im4 (up im 30 0 27 ((4 : Nat) + 1 : Int)) → lgQ lm4 lm → (f4 = -1 → x = r.2.2.2 nm ∧ tk b n r.1 = 41) → stP (oneL b n 1) p f = (if f4 = -1 then (adv b n r.1, -1, r.2.2) else (r.1, f4, r.2.2)) → Wp M (XR G) ad Y_X9_atom4 (pI fun x m' => ∃ im' lm', RPO b n im lm nm (stP (oneL b n 1) p f) x im' lm' ∧ m' = (im', rs bt rt, lm')) 71 [some (vR 30 0), some (vI x)] [] (im4, rs bt rt, lm4) := by
    intro x r f4 im4 lm4 hrx h4 hag4 hlg4 hgd heq
    have e27 : im4 30 0 27 - 1 = ((4 : Nat) : Int) := by
      rw [hag4 30 0 27 (by omega), up_app, if_pos ⟨rfl, rfl, rfl⟩]
      omega
    have h44 : PQ b n (up im4 30 0 27 ((4 : Nat) : Int)) lm4 r.1 f4 := PQ_27 h4 (by constructor <;> omega)
    have hb4 := h4.b01
    refine q_aload_n (t := 72) F dX9_atom4_71 rfl rfl rfl ?_
    refine q_dupR (t := 73) F dX9_atom4_72 rfl ?_
    refine g_X9_190 (t := 76) F dX9_atom4_73 rfl rfl ?_
    refine q_iconst (t := 77) F dX9_atom4_76 rfl ?_
    refine q_isub (t := 78) F dX9_atom4_77 rfl ?_
    rw [e27]
    refine p_X9_190 (t := 81) F dX9_atom4_78 rfl rfl ?_
    refine q_aload_n (t := 82) F dX9_atom4_81 rfl rfl rfl ?_
    refine g_X9_179 (t := 85) F dX9_atom4_82 rfl rfl ?_
    try simp only [up_app, row_app, scr_app, cpy_app, Nat.reduceEqDiff, Int.reduceToNat, Int.toNat_natCast, and_true, true_and, and_false, false_and, and_self, reduceIte]
    refine q_if_ne (t := 88) (u := 161) F dX9_atom4_85 (by exact h4.2.1 _ _ _) (by decide) rfl (fun c85 => ?_) (fun c85 => ?_)
    · have hf4 : f4 ≠ -1 := by omega
      refine T161 x (up im4 30 0 27 ((4 : Nat) : Int)) lm4 ⟨hrx, ?_, ag_27 hag4 h27, hlg4, fun q => ?_⟩
      · rw [heq, if_neg hf4]; exact h44
      · rw [heq, if_neg hf4] at q
        exact absurd q hf4
    · have hf4 : f4 = -1 := by omega
      have ht41 := (hgd hf4).2
      have hlt4 : r.1 < n := tk_lt (b := b) (by omega)
      have h45 := h44
      rw [hf4] at h45
      refine q_aload_n (t := 89) F dX9_atom4_88 rfl rfl rfl ?_
      refine wp_callV (t := 92) [] F dX9_atom4_89 k_X9_next v_X9_next ml_X9_196 rfl rfl rfl rfl (Nat.le_of_ble_eq_true rfl) (by decide) (m_30 (by omega)) (c_nextQ _ G _ bt rt lm4 b n hb r.1 h45 hlt4 (by omega)) rfl (kV ?_)
      rintro m' ⟨im5, lm5, h5, hag5, hlg5, rfl⟩
      refine q_goto (t := 161) F dX9_atom4_92 (by decide) ?_
      refine T161 x im5 lm5 ⟨hrx, ?_, hag5.trans (ag_27 hag4 h27), hlg5.trans hlg4, fun q => ?_⟩
      · rw [heq, if_pos hf4]; exact h5
      · rw [heq, if_pos hf4]; exact (hgd hf4).1
  refine q_iconst (t := 1) F dX9_atom4_0 rfl ?_
  refine q_istore_n (t := 2) F dX9_atom4_1 rfl (by decide) rfl rfl ?_
  refine q_aload_n (t := 3) F dX9_atom4_2 rfl rfl rfl ?_
  refine q_bipush (t := 5) F dX9_atom4_3 (by decide) rfl ?_
  refine wp_callV (t := 8) [_] F dX9_atom4_5 k_X9_isSign v_X9_isSign ml_X9_220 rfl rfl rfl rfl (Nat.le_of_ble_eq_true rfl) (by decide) (m_30 (by omega)) (c_X9_isSign _ G im bt rt lm b n hb p f h 45 (by omega) (by omega)) rfl (kI ?_)
  rintro x5 m' ⟨hx5, rfl⟩
  have hx5 := if01 hx5
  refine q_if_eq (t := 11) (u := 37) F dX9_atom4_8 (by first | exact hR _ _ _ | (constructor <;> omega)) (by decide) rfl (fun c8 => ?_) (fun c8 => ?_)
  · refine q_aload_n (t := 38) F dX9_atom4_37 rfl rfl rfl ?_
    refine q_bipush (t := 40) F dX9_atom4_38 (by decide) rfl ?_
    refine wp_callV (t := 43) [_] F dX9_atom4_40 k_X9_isSign v_X9_isSign ml_X9_220 rfl rfl rfl rfl (Nat.le_of_ble_eq_true rfl) (by decide) (m_30 (by omega)) (c_X9_isSign _ G im bt rt lm b n hb p f h 40 (by omega) (by omega)) rfl (kI ?_)
    rintro x40 m' ⟨hx40, rfl⟩
    have hx40 := if01 hx40
    refine q_if_eq (t := 46) (u := 95) F dX9_atom4_43 (by first | exact hR _ _ _ | (constructor <;> omega)) (by decide) rfl (fun c43 => ?_) (fun c43 => ?_)
    · refine q_aload_n (t := 96) F dX9_atom4_95 rfl rfl rfl ?_
      refine g_X9_179 (t := 99) F dX9_atom4_96 rfl rfl ?_
      try simp only [up_app, row_app, scr_app, cpy_app, Nat.reduceEqDiff, Int.reduceToNat, Int.toNat_natCast, and_true, true_and, and_false, false_and, and_self, reduceIte]
      refine q_if_ne (t := 102) (u := 123) F dX9_atom4_99 (by exact hR _ _ _) (by decide) rfl (fun c99 => ?_) (fun c99 => ?_)
      · refine q_aload_n (t := 124) F dX9_atom4_123 rfl rfl rfl ?_
        refine g_X9_179 (t := 127) F dX9_atom4_124 rfl rfl ?_
        try simp only [up_app, row_app, scr_app, cpy_app, Nat.reduceEqDiff, Int.reduceToNat, Int.toNat_natCast, and_true, true_and, and_false, false_and, and_self, reduceIte]
        refine q_if_ne (t := 130) (u := 157) F dX9_atom4_127 (by exact hR _ _ _) (by decide) rfl (fun c127 => ?_) (fun c127 => ?_)
        · refine q_aload_n (t := 158) F dX9_atom4_157 rfl rfl rfl ?_
          refine wp_callV (t := 161) [] F dX9_atom4_158 k_X9_fail v_X9_fail ml_X9_193 rfl rfl rfl rfl (Nat.le_of_ble_eq_true rfl) (by decide) (m_30 (by omega)) (c_failQ _ G im bt rt lm b n p f h) rfl (kV ?_)
          rintro m' ⟨im9, h9, hag9, rfl⟩
          by_cases hf : f = -1
          · subst hf
            have e : oneL b n 1 p = pFail p := by
              refine one_non ?_ ?_ ?_
              · intro q
                have := (hTK rfl).1.mpr q
                omega
              · intro q
                have := (hTK rfl).2.2.mpr (tk_3L q)
                omega
              · omega
            refine T161 0 im9 lm ⟨by constructor <;> omega, ?_, hag9, lgQ_rfl lm, fun q => ?_⟩
            · rw [stP_y, e]; exact h9
            · rw [stP_y, e] at q
              have : (p : Int) = -1 := q
              omega
          · refine T161 0 im9 lm ⟨by constructor <;> omega, ?_, hag9, lgQ_rfl lm, fun q => ?_⟩
            · rw [if_neg hf] at h9
              rw [stP_n hf]; exact h9
            · rw [stP_n hf] at q
              exact absurd q hf
        · refine q_aload_n (t := 131) F dX9_atom4_130 rfl rfl rfl ?_
          refine g_X9_164 (t := 134) F dX9_atom4_131 rfl rfl ?_
          try simp only [up_app, row_app, scr_app, cpy_app, Nat.reduceEqDiff, Int.reduceToNat, Int.toNat_natCast, and_true, true_and, and_false, false_and, and_self, reduceIte]
          refine q_iconst (t := 135) F dX9_atom4_134 rfl ?_
          refine q_icmp_ne (t := 138) (u := 157) F dX9_atom4_135 (by exact hR _ _ _) (by constructor <;> omega) (by decide) rfl (fun c135 => ?_) (fun c135 => ?_)
          · refine q_aload_n (t := 158) F dX9_atom4_157 rfl rfl rfl ?_
            refine wp_callV (t := 161) [] F dX9_atom4_158 k_X9_fail v_X9_fail ml_X9_193 rfl rfl rfl rfl (Nat.le_of_ble_eq_true rfl) (by decide) (m_30 (by omega)) (c_failQ _ G im bt rt lm b n p f h) rfl (kV ?_)
            rintro m' ⟨im9, h9, hag9, rfl⟩
            by_cases hf : f = -1
            · subst hf
              have e : oneL b n 1 p = pFail p := by
                refine one_non ?_ ?_ ?_
                · intro q
                  have := (hTK rfl).1.mpr q
                  omega
                · intro q
                  have := (hTK rfl).2.2.mpr (tk_3L q)
                  omega
                · omega
              refine T161 0 im9 lm ⟨by constructor <;> omega, ?_, hag9, lgQ_rfl lm, fun q => ?_⟩
              · rw [stP_y, e]; exact h9
              · rw [stP_y, e] at q
                have : (p : Int) = -1 := q
                omega
            · refine T161 0 im9 lm ⟨by constructor <;> omega, ?_, hag9, lgQ_rfl lm, fun q => ?_⟩
              · rw [if_neg hf] at h9
                rw [stP_n hf]; exact h9
              · rw [stP_n hf] at q
                exact absurd q hf
          · have hf : f = -1 := by first | (clear hx5 hx40; omega) | omega
            subst hf
            have hwd := (hTK rfl).2.2.mp (by omega)
            refine q_aload_n (t := 139) F dX9_atom4_138 rfl rfl rfl ?_
            refine wp_callV (t := 142) [] F dX9_atom4_139 k_X9_name v_X9_name ml_X9_227 rfl rfl rfl rfl (Nat.le_of_ble_eq_true rfl) (by decide) (m_30 (by omega)) (c_nameQ _ G im bt rt lm b n hb nm p h hnm) rfl (kI ?_)
            rintro x139 m' ⟨im6, hri6, h6, hag6, hx6, rfl⟩
            have hb6 : (tk b n p = 3 ∧ im6 30 0 28 = 0) ∨ (tk b n p ≠ 3 ∧ im6 30 0 28 = 1) := by
              have q6 := h6.b01
              split at q6 <;> omega
            refine q_istore_n (t := 143) F dX9_atom4_142 rfl (by decide) rfl rfl ?_
            refine q_aload_n (t := 144) F dX9_atom4_143 rfl rfl rfl ?_
            refine g_X9_179 (t := 147) F dX9_atom4_144 rfl rfl ?_
            try simp only [up_app, row_app, scr_app, cpy_app, Nat.reduceEqDiff, Int.reduceToNat, Int.toNat_natCast, and_true, true_and, and_false, false_and, and_self, reduceIte]
            refine q_if_ne (t := 150) (u := 161) F dX9_atom4_147 (by exact h6.2.1 _ _ _) (by decide) rfl (fun c147 => ?_) (fun c147 => ?_)
            · have e : oneL b n 1 p = pFail p := by
                have h29 := tk_L9 hwd.1 hwd.2
                exact one_non h29.1 (fun q => by omega) (by omega)
              have ht3 : tk b n p ≠ 3 := by omega
              rw [if_neg ht3] at h6
              refine T161 x139 im6 lm ⟨hri6, ?_, hag6, lgQ_rfl lm, fun q => ?_⟩
              · rw [stP_y, e]; exact h6
              · rw [stP_y, e] at q
                have : (p : Int) = -1 := q
                omega
            · have ht3 : tk b n p = 3 := by omega
              rw [if_pos ht3] at h6
              refine q_aload_n (t := 151) F dX9_atom4_150 rfl rfl rfl ?_
              refine wp_callV (t := 154) [] F dX9_atom4_151 k_X9_next v_X9_next ml_X9_196 rfl rfl rfl rfl (Nat.le_of_ble_eq_true rfl) (by decide) (m_30 (by omega)) (c_nextQ _ G im6 bt rt lm b n hb p h6 hwd.1 (by omega)) rfl (kV ?_)
              rintro m' ⟨im7, lm7, h7, hag7, hlg7, rfl⟩
              refine q_goto (t := 161) F dX9_atom4_154 (by decide) ?_
              refine T161 x139 im7 lm7 ⟨hri6, ?_, hag7.trans hag6, hlg7, fun q => ?_⟩
              · rw [stP_y, oneR_nam ht3]; exact h7
              · rw [stP_y, oneR_nam ht3]; exact hx6 ht3
      · refine q_aload_n (t := 103) F dX9_atom4_102 rfl rfl rfl ?_
        refine g_X9_164 (t := 106) F dX9_atom4_103 rfl rfl ?_
        try simp only [up_app, row_app, scr_app, cpy_app, Nat.reduceEqDiff, Int.reduceToNat, Int.toNat_natCast, and_true, true_and, and_false, false_and, and_self, reduceIte]
        refine q_iconst (t := 107) F dX9_atom4_106 rfl ?_
        refine q_icmp_ne (t := 110) (u := 123) F dX9_atom4_107 (by exact hR _ _ _) (by constructor <;> omega) (by decide) rfl (fun c107 => ?_) (fun c107 => ?_)
        · refine q_aload_n (t := 124) F dX9_atom4_123 rfl rfl rfl ?_
          refine g_X9_179 (t := 127) F dX9_atom4_124 rfl rfl ?_
          try simp only [up_app, row_app, scr_app, cpy_app, Nat.reduceEqDiff, Int.reduceToNat, Int.toNat_natCast, and_true, true_and, and_false, false_and, and_self, reduceIte]
          refine q_if_ne (t := 130) (u := 157) F dX9_atom4_127 (by exact hR _ _ _) (by decide) rfl (fun c127 => ?_) (fun c127 => ?_)
          · refine q_aload_n (t := 158) F dX9_atom4_157 rfl rfl rfl ?_
            refine wp_callV (t := 161) [] F dX9_atom4_158 k_X9_fail v_X9_fail ml_X9_193 rfl rfl rfl rfl (Nat.le_of_ble_eq_true rfl) (by decide) (m_30 (by omega)) (c_failQ _ G im bt rt lm b n p f h) rfl (kV ?_)
            rintro m' ⟨im9, h9, hag9, rfl⟩
            by_cases hf : f = -1
            · subst hf
              have e : oneL b n 1 p = pFail p := by
                refine one_non ?_ ?_ ?_
                · intro q
                  have := (hTK rfl).1.mpr q
                  omega
                · intro q
                  have := (hTK rfl).2.2.mpr (tk_3L q)
                  omega
                · omega
              refine T161 0 im9 lm ⟨by constructor <;> omega, ?_, hag9, lgQ_rfl lm, fun q => ?_⟩
              · rw [stP_y, e]; exact h9
              · rw [stP_y, e] at q
                have : (p : Int) = -1 := q
                omega
            · refine T161 0 im9 lm ⟨by constructor <;> omega, ?_, hag9, lgQ_rfl lm, fun q => ?_⟩
              · rw [if_neg hf] at h9
                rw [stP_n hf]; exact h9
              · rw [stP_n hf] at q
                exact absurd q hf
          · refine q_aload_n (t := 131) F dX9_atom4_130 rfl rfl rfl ?_
            refine g_X9_164 (t := 134) F dX9_atom4_131 rfl rfl ?_
            try simp only [up_app, row_app, scr_app, cpy_app, Nat.reduceEqDiff, Int.reduceToNat, Int.toNat_natCast, and_true, true_and, and_false, false_and, and_self, reduceIte]
            refine q_iconst (t := 135) F dX9_atom4_134 rfl ?_
            refine q_icmp_ne (t := 138) (u := 157) F dX9_atom4_135 (by exact hR _ _ _) (by constructor <;> omega) (by decide) rfl (fun c135 => ?_) (fun c135 => ?_)
            · refine q_aload_n (t := 158) F dX9_atom4_157 rfl rfl rfl ?_
              refine wp_callV (t := 161) [] F dX9_atom4_158 k_X9_fail v_X9_fail ml_X9_193 rfl rfl rfl rfl (Nat.le_of_ble_eq_true rfl) (by decide) (m_30 (by omega)) (c_failQ _ G im bt rt lm b n p f h) rfl (kV ?_)
              rintro m' ⟨im9, h9, hag9, rfl⟩
              by_cases hf : f = -1
              · subst hf
                have e : oneL b n 1 p = pFail p := by
                  refine one_non ?_ ?_ ?_
                  · intro q
                    have := (hTK rfl).1.mpr q
                    omega
                  · intro q
                    have := (hTK rfl).2.2.mpr (tk_3L q)
                    omega
                  · omega
                refine T161 0 im9 lm ⟨by constructor <;> omega, ?_, hag9, lgQ_rfl lm, fun q => ?_⟩
                · rw [stP_y, e]; exact h9
                · rw [stP_y, e] at q
                  have : (p : Int) = -1 := q
                  omega
              · refine T161 0 im9 lm ⟨by constructor <;> omega, ?_, hag9, lgQ_rfl lm, fun q => ?_⟩
                · rw [if_neg hf] at h9
                  rw [stP_n hf]; exact h9
                · rw [stP_n hf] at q
                  exact absurd q hf
            · have hf : f = -1 := by first | (clear hx5 hx40; omega) | omega
              subst hf
              have hwd := (hTK rfl).2.2.mp (by omega)
              refine q_aload_n (t := 139) F dX9_atom4_138 rfl rfl rfl ?_
              refine wp_callV (t := 142) [] F dX9_atom4_139 k_X9_name v_X9_name ml_X9_227 rfl rfl rfl rfl (Nat.le_of_ble_eq_true rfl) (by decide) (m_30 (by omega)) (c_nameQ _ G im bt rt lm b n hb nm p h hnm) rfl (kI ?_)
              rintro x139 m' ⟨im6, hri6, h6, hag6, hx6, rfl⟩
              have hb6 : (tk b n p = 3 ∧ im6 30 0 28 = 0) ∨ (tk b n p ≠ 3 ∧ im6 30 0 28 = 1) := by
                have q6 := h6.b01
                split at q6 <;> omega
              refine q_istore_n (t := 143) F dX9_atom4_142 rfl (by decide) rfl rfl ?_
              refine q_aload_n (t := 144) F dX9_atom4_143 rfl rfl rfl ?_
              refine g_X9_179 (t := 147) F dX9_atom4_144 rfl rfl ?_
              try simp only [up_app, row_app, scr_app, cpy_app, Nat.reduceEqDiff, Int.reduceToNat, Int.toNat_natCast, and_true, true_and, and_false, false_and, and_self, reduceIte]
              refine q_if_ne (t := 150) (u := 161) F dX9_atom4_147 (by exact h6.2.1 _ _ _) (by decide) rfl (fun c147 => ?_) (fun c147 => ?_)
              · have e : oneL b n 1 p = pFail p := by
                  have h29 := tk_L9 hwd.1 hwd.2
                  exact one_non h29.1 (fun q => by omega) (by omega)
                have ht3 : tk b n p ≠ 3 := by omega
                rw [if_neg ht3] at h6
                refine T161 x139 im6 lm ⟨hri6, ?_, hag6, lgQ_rfl lm, fun q => ?_⟩
                · rw [stP_y, e]; exact h6
                · rw [stP_y, e] at q
                  have : (p : Int) = -1 := q
                  omega
              · have ht3 : tk b n p = 3 := by omega
                rw [if_pos ht3] at h6
                refine q_aload_n (t := 151) F dX9_atom4_150 rfl rfl rfl ?_
                refine wp_callV (t := 154) [] F dX9_atom4_151 k_X9_next v_X9_next ml_X9_196 rfl rfl rfl rfl (Nat.le_of_ble_eq_true rfl) (by decide) (m_30 (by omega)) (c_nextQ _ G im6 bt rt lm b n hb p h6 hwd.1 (by omega)) rfl (kV ?_)
                rintro m' ⟨im7, lm7, h7, hag7, hlg7, rfl⟩
                refine q_goto (t := 161) F dX9_atom4_154 (by decide) ?_
                refine T161 x139 im7 lm7 ⟨hri6, ?_, hag7.trans hag6, hlg7, fun q => ?_⟩
                · rw [stP_y, oneR_nam ht3]; exact h7
                · rw [stP_y, oneR_nam ht3]; exact hx6 ht3
        · have hf : f = -1 := by first | (clear hx5 hx40; omega) | omega
          subst hf
          have ht2 : tk b n p = 2 := by have := (hTK rfl).1; omega
          have hlt : p < n := tk_lt (b := b) (by omega)
          have hvl := (hTK rfl).2.1 ht2
          have hv2 := vl_2 ht2
          refine q_aload_n (t := 111) F dX9_atom4_110 rfl rfl rfl ?_
          refine g_X9_175 (t := 114) F dX9_atom4_111 rfl rfl ?_
          try simp only [up_app, row_app, scr_app, cpy_app, Nat.reduceEqDiff, Int.reduceToNat, Int.toNat_natCast, and_true, true_and, and_false, false_and, and_self, reduceIte]
          refine q_l2i (t := 115) F dX9_atom4_114 rfl ?_
          refine q_istore_n (t := 116) F dX9_atom4_115 rfl (by decide) rfl rfl ?_
          refine q_aload_n (t := 117) F dX9_atom4_116 rfl rfl rfl ?_
          refine wp_callV (t := 120) [] F dX9_atom4_117 k_X9_next v_X9_next ml_X9_196 rfl rfl rfl rfl (Nat.le_of_ble_eq_true rfl) (by decide) (m_30 (by omega)) (c_nextQ _ G im bt rt lm b n hb p h hlt (by omega)) rfl (kV ?_)
          rintro m' ⟨im5, lm5, h5, hag5, hlg5, rfl⟩
          refine q_goto (t := 161) F dX9_atom4_120 (by decide) ?_
          refine T161 (lm 30 0 26) im5 lm5 ⟨by constructor <;> omega, ?_, hag5, hlg5, fun q => ?_⟩
          · rw [stP_y, oneR_num ht2]; exact h5
          · rw [stP_y, oneR_num ht2]; exact hvl
    · have hf : f = -1 := by omega
      subst hf
      have hlt : p < n := tk_lt (b := b) (by omega)
      have hx40t : tk b n p = 40 := by omega
      refine q_aload_n (t := 47) F dX9_atom4_46 rfl rfl rfl ?_
      refine wp_callV (t := 50) [] F dX9_atom4_47 k_X9_opens v_X9_opens ml_X9_223 rfl rfl rfl rfl (Nat.le_of_ble_eq_true rfl) (by decide) (m_30 (by omega)) (c_X9_opens _ G im bt rt lm b n hb p h hlt (by omega) 4 (by omega) h27) rfl (kI ?_)
      rintro x47 m' (⟨q, -⟩ | ⟨-, rfl, im2, lm2, h2, h227, hag, hlg, rfl⟩)
      · exact absurd q (by omega)
      refine q_if_eq (t := 53) (u := 161) F dX9_atom4_50 (by first | exact hR _ _ _ | (constructor <;> omega)) (by decide) rfl (fun c50 => ?_) (fun c50 => ?_)
      · exfalso; omega
      · refine q_aload_n (t := 54) F dX9_atom4_53 rfl rfl rfl ?_
        refine wp_callV (t := 57) [] F dX9_atom4_54 k_X9_either5 v_X9_either5 ml_X9_250 rfl rfl rfl rfl (Nat.le_of_ble_eq_true rfl) (by decide) (m_30 (by omega)) (hE im2 lm2 nm (adv b n p) (-1) h2 (by omega) (hnm.ag27 hag)) rfl (kI ?_)
        rintro x54 m' ⟨im3, lm3, h3, rfl⟩
        rw [stP_y] at h3
        obtain ⟨r, hrd⟩ : ∃ r, r = eitL b n 0 (adv b n p) := ⟨_, rfl⟩
        rw [← hrd] at h3
        refine q_istore_n (t := 58) F dX9_atom4_57 rfl (by decide) rfl rfl ?_
        refine q_aload_n (t := 59) F dX9_atom4_58 rfl rfl rfl ?_
        refine q_bipush (t := 61) F dX9_atom4_59 (by decide) rfl ?_
        refine wp_callV (t := 64) [_] F dX9_atom4_61 k_X9_isSign v_X9_isSign ml_X9_220 rfl rfl rfl rfl (Nat.le_of_ble_eq_true rfl) (by decide) (m_30 (by omega)) (c_X9_isSign _ G im3 bt rt lm3 b n hb _ _ h3.2.1 41 (by omega) (by omega)) rfl (kI ?_)
        rintro x61 m' ⟨hx61, rfl⟩
        have hx61 := if01 hx61
        refine q_if_ne (t := 67) (u := 71) F dX9_atom4_64 (by first | exact hR _ _ _ | (constructor <;> omega)) (by decide) rfl (fun c64 => ?_) (fun c64 => ?_)
        · have hq : r.2.1 = -1 ∧ tk b n r.1 = 41 := by omega
          have h33 := h3.2.1
          rw [hq.1] at h33
          exact T71 x54 r (-1) im3 lm3 h3.1 h33 (h3.2.2.1.trans hag) (h3.2.2.2.1.trans hlg) (fun _ => ⟨h3.2.2.2.2 hq.1, hq.2⟩) (by rw [stP_y, one_par (m := 0) hx40t, ← hrd, if_pos hq.1, if_pos hq.2, if_pos rfl])
        · refine q_aload_n (t := 68) F dX9_atom4_67 rfl rfl rfl ?_
          refine wp_callV (t := 71) [] F dX9_atom4_68 k_X9_fail v_X9_fail ml_X9_193 rfl rfl rfl rfl (Nat.le_of_ble_eq_true rfl) (by decide) (m_30 (by omega)) (c_failQ _ G im3 bt rt lm3 b n _ _ h3.2.1) rfl (kV ?_)
          rintro m' ⟨im9, h9, hag9, rfl⟩
          have hq : ¬ (r.2.1 = -1 ∧ tk b n r.1 = 41) := by omega
          refine T71 x54 r (if r.2.1 = -1 then (r.1 : Int) else r.2.1) im9 lm3 h3.1 h9 (hag9.trans (h3.2.2.1.trans hag)) (h3.2.2.2.1.trans hlg) (fun q => ?_) ?_
          · split at q <;> omega
          · rw [stP_y, one_par (m := 0) hx40t, ← hrd]
            by_cases hr1 : r.2.1 = -1
            · rw [if_pos hr1, if_neg (fun q => hq ⟨hr1, q⟩), if_pos hr1, if_neg (by omega)]
            · rw [if_neg hr1, if_neg hr1, if_neg hr1]
  · have hf : f = -1 := by omega
    subst hf
    have hlt : p < n := tk_lt (b := b) (by omega)
    have hx5t : tk b n p = 45 := by omega
    refine q_aload_n (t := 12) F dX9_atom4_11 rfl rfl rfl ?_
    refine wp_callV (t := 15) [] F dX9_atom4_12 k_X9_opens v_X9_opens ml_X9_223 rfl rfl rfl rfl (Nat.le_of_ble_eq_true rfl) (by decide) (m_30 (by omega)) (c_X9_opens _ G im bt rt lm b n hb p h hlt (by omega) 4 (by omega) h27) rfl (kI ?_)
    rintro x12 m' (⟨q, -⟩ | ⟨-, rfl, im2, lm2, h2, h227, hag, hlg, rfl⟩)
    · exact absurd q (by omega)
    refine q_if_eq (t := 18) (u := 161) F dX9_atom4_15 (by first | exact hR _ _ _ | (constructor <;> omega)) (by decide) rfl (fun c15 => ?_) (fun c15 => ?_)
    · exfalso; omega
    · refine q_aload_n (t := 19) F dX9_atom4_18 rfl rfl rfl ?_
      refine wp_callV (t := 22) [] F dX9_atom4_19 k_X9_atom5 v_X9_atom5 ml_X9_231 rfl rfl rfl rfl (Nat.le_of_ble_eq_true rfl) (by decide) (m_30 (by omega)) (hA im2 lm2 nm (adv b n p) (-1) h2 (by omega) (hnm.ag27 hag)) rfl (kI ?_)
      rintro x19 m' ⟨im3, lm3, h3, rfl⟩
      rw [stP_y] at h3
      refine q_ineg (t := 23) F dX9_atom4_22 rfl ?_
      refine q_norm ?_
      refine q_istore_n (t := 24) F dX9_atom4_23 rfl (by decide) rfl rfl ?_
      refine q_aload_n (t := 25) F dX9_atom4_24 rfl rfl rfl ?_
      refine q_dupR (t := 26) F dX9_atom4_25 rfl ?_
      refine g_X9_190 (t := 29) F dX9_atom4_26 rfl rfl ?_
      try simp only [up_app, row_app, scr_app, cpy_app, Nat.reduceEqDiff, Int.reduceToNat, Int.toNat_natCast, and_true, true_and, and_false, false_and, and_self, reduceIte]
      refine q_iconst (t := 30) F dX9_atom4_29 rfl ?_
      refine q_isub (t := 31) F dX9_atom4_30 rfl ?_
      rw [show im3 30 0 27 - 1 = ((4 : Nat) : Int) by rw [h3.2.2.1 30 0 27 (by omega)]; omega]
      refine p_X9_190 (t := 34) F dX9_atom4_31 rfl rfl ?_
      refine q_goto (t := 161) F dX9_atom4_34 (by decide) ?_
      refine T161 (bm (-x19)) (up im3 30 0 27 ((4 : Nat) : Int)) lm3 ?_
      rw [stP_y, one_min (m := 0) hx5t]
      exact RPO_neg (by omega) h27 hag hlg h3
end
section
/-! the reference's grammar: what is made of them -/
theorem c_isKey (l : Launch) (G : GS) (im : IM) (bt rt : Nat) (lm : IM) (b : Nat → Int) (n : Nat) (hb : byt b n) (p : Nat) (f : Int) (h : PQ b n im lm p f) (i : Nat) (h6 : 6 ≤ i) (hi : i < 12) (t : Int) (htt : t = (i : Int) - 2) (a0 a1 a2 a3 a4 a5 a6 a7 : Int) (ha : a0 = wlr i 0 ∧ a1 = wlr i 1 ∧ a2 = wlr i 2 ∧ a3 = wlr i 3 ∧ a4 = wlr i 4 ∧ a5 = wlr i 5 ∧ a6 = wlr i 6 ∧ a7 = wlr i 7) : Cn l (XR G) yX9_isWord_ Y_X9_isWord_ [vR 30 0, vI a0, vI a1, vI a2, vI a3, vI a4, vI a5, vI a6, vI a7] (im, rs bt rt, lm) (pI fun x m' => x = (if f = -1 ∧ tk b n p = t then 1 else 0) ∧ m' = (im, rs bt rt, lm)) := by
  refine (c_isWordA l G im bt rt lm b n hb p f h i hi a0 a1 a2 a3 a4 a5 a6 a7 ha).mono (fun r m' hq => ?_)
  obtain ⟨x, hr, hx, hm⟩ := hq
  refine ⟨x, hr, ?_, hm⟩
  rw [hx]
  have hw := wd_kw (b := b) (n := n) (p := p) h6 hi
  by_cases hc : f = -1 ∧ tk b n p = t
  · rw [if_pos hc, if_pos ⟨hc.1, hw.mpr (hc.2.trans htt)⟩]
  · rw [if_neg hc, if_neg (fun q => hc ⟨q.1, (hw.mp q.2).trans htt.symm⟩)]
theorem RPO_step {b : Nat → Int} {n : Nat} {op : Int → Int} {sub : Nat → PT} {im lm im1 lm1 im2 lm2 im3 lm3 : IM} {nm : Nat → Int} {r : PT} {v w x : Int} (h : RPO b n im lm nm r v im1 lm1) (h1 : r.2.1 = -1) (h2 : agQ im2 im1) (h2l : lgQ lm2 lm1) (h3 : RPO b n im2 lm2 nm (sub (adv b n r.1)) w im3 lm3) (hx : ri x) (he : x = bi2 (op (tk b n r.1)) v w) : RPO b n im lm nm (lpS b n op sub r) x im3 lm3 := by
  refine ⟨hx, h3.2.1, (h3.2.2.1.trans h2).trans h.2.2.1, (h3.2.2.2.1.trans h2l).trans h.2.2.2.1, fun q => ?_⟩
  show x = bi2 _ (r.2.2.2 nm) ((sub (adv b n r.1)).2.2.2 nm)
  rw [← h.2.2.2.2 h1, ← h3.2.2.2.2 q]
  exact he
theorem den_not {b : Nat → Int} {n m p : Nat} (ht : tk b n p = 9) : denL b n (m + 1) p = wrap1 (-8) (denL b n m (adv b n p)) := by rw [denL_s, if_pos ht]
theorem den_non {b : Nat → Int} {n p : Nat} (ht : tk b n p = 9) : denL b n 0 p = pFail p := by rw [denL_0, if_pos ht]
theorem den_oth {b : Nat → Int} {n m p : Nat} {f : Int} (ht : f = -1 → tk b n p ≠ 9) : stP (denL b n m) p f = loopP b n opC (sumL b n m) 1 (stP (sumL b n m) p f) := by
  by_cases hf : f = -1
  · subst hf
    rw [stP_y, stP_y]
    cases m with
    | zero => rw [denL_0, if_neg (ht rfl)]; rfl
    | succ m => rw [denL_s, if_neg (ht rfl)]; rfl
  · rw [stP_n hf, stP_n hf]
    exact (loopP_n (fun q => hf q.1)).symm
theorem RPO_not {b : Nat → Int} {n d : Nat} {im lm im2 lm2 im3 lm3 : IM} {nm : Nat → Int} {r : PT} {v x : Int} (hd : d ≤ 5) (h27 : im 30 0 27 = (d : Int)) (hag : agQ im2 (up im 30 0 27 ((d : Int) + 1))) (hlg : lgQ lm2 lm) (h : RPO b n im2 lm2 nm r v im3 lm3) (hx : x = if v = 0 then 1 else 0) : RPO b n im lm nm (wrap1 (-8) r) x (up im3 30 0 27 (d : Int)) lm3 := by
  obtain ⟨h1, h2, h3, h4, h5⟩ := h
  exact ⟨by rw [hx]; split <;> constructor <;> omega, PQ_27 h2 (by constructor <;> omega), ag_27 (h3.trans hag) h27, h4.trans hlg, fun q => by rw [hx, h5 q]; rfl⟩
theorem bi2_9 (v w : Int) : bm (v * w) = bi2 (-9) v w := rfl
theorem bi2_10 (v w : Int) : bm (v + w) = bi2 (-10) v w := rfl
theorem bi2_11 (v w : Int) : bm (v - w) = bi2 (-11) v w := rfl
theorem bi2_12 (v w : Int) : (if v < w then (1 : Int) else 0) = bi2 (-12) v w := rfl
theorem bi2_13 (v w : Int) : (if v = w then (1 : Int) else 0) = bi2 (-13) v w := rfl
theorem bi2_14 (v w : Int) : (if v ≠ 0 ∧ w ≠ 0 then (1 : Int) else 0) = bi2 (-14) v w := rfl
theorem bi2_15 (v w : Int) : (if v ≠ 0 ∨ w ≠ 0 then (1 : Int) else 0) = bi2 (-15) v w := rfl

set_option maxHeartbeats 4000000 in
theorem c_X9_term5 (l : Launch) (G : GS)  (bt rt : Nat)  (b : Nat → Int) (n : Nat) (hb : byt b n) (hO : RT l G bt rt b n yX9_atom5 Y_X9_atom5 (oneL b n 0) 5) (im lm : IM) (nm : Nat → Int) (p : Nat) (f : Int) (h : PQ b n im lm p f) (h27 : im 30 0 27 = ((5 : Nat) : Int)) (hnm : NMr im nm) : Cn l (XR G) yX9_term5 Y_X9_term5 [vR 30 0] (im, rs bt rt, lm) (pI fun x m' => ∃ im' lm', RPO b n im lm nm (stP (termL b n 0) p f) x im' lm' ∧ m' = (im', rs bt rt, lm')) := by
  refine cn_of (by decide) (okR G) rfl (Nat.le_of_ble_eq_true rfl) ?_
  intro M ad hMl F
  subst hMl
  have hn := hb.1
  have hR := h.2.1
  refine wp_pad 1 ?_
  show Wp M (XR G) ad Y_X9_term5 (pI fun x m' => ∃ im' lm', RPO b n im lm nm (stP (termL b n 0) p f) x im' lm' ∧ m' = (im', rs bt rt, lm')) 0 [some (vR 30 0), none] [] (im, rs bt rt, lm)
  refine q_aload_n (t := 1) F dX9_term5_0 rfl rfl rfl ?_
  refine wp_callV (t := 4) [] F dX9_term5_1 k_X9_atom5 v_X9_atom5 ml_X9_231 rfl rfl rfl rfl (Nat.le_of_ble_eq_true rfl) (by decide) (m_30 (by omega)) (hO im lm nm p f h h27 hnm) rfl (kI ?_)
  rintro x1 m' ⟨im0, lm0, h0, rfl⟩
  refine q_istore_n (t := 5) F dX9_term5_4 rfl (by decide) rfl rfl ?_
  have L5 : ∀ (fz : Nat) (k : Nat) (r : PT) (v : Int) (im1 lm1 : IM), k < fz → loopP b n opM (oneL b n 0) 160 (stP (oneL b n 0) p f) = loopP b n opM (oneL b n 0) k r → n - r.1 ≤ k → RPO b n im lm nm r v im1 lm1 → Wp M (XR G) ad Y_X9_term5 (pI fun x m' => ∃ im' lm', RPO b n im lm nm (stP (termL b n 0) p f) x im' lm' ∧ m' = (im', rs bt rt, lm')) 5 [some (vR 30 0), some (vI v)] [] (im1, rs bt rt, lm1) := by
    intro fz
    induction fz with
    | zero => intro k r v im1 lm1 h; exact absurd h (Nat.not_lt_zero _)
    | succ fz ih =>
      have ih5 := ih
      intro k r v im1 lm1 hmeas hlp hk hr
      have hti := tk_in b n r.1
      have hb1 := hr.2.1.b01
      have hrv := hr.1
      have hrv1 := hrv.1
      have hrv2 := hrv.2
      refine q_aload_n (t := 6) F dX9_term5_5 rfl rfl rfl ?_
      refine q_bipush (t := 8) F dX9_term5_6 (by decide) rfl ?_
      refine wp_callV (t := 11) [_] F dX9_term5_8 k_X9_isSign v_X9_isSign ml_X9_220 rfl rfl rfl rfl (Nat.le_of_ble_eq_true rfl) (by decide) (m_30 (by omega)) (c_X9_isSign _ G im1 bt rt lm1 b n hb r.1 r.2.1 hr.2.1 42 (by omega) (by omega)) rfl (kI ?_)
      rintro x8 m' ⟨hx8, rfl⟩
      have hx8 := if01 hx8
      refine q_if_eq (t := 14) (u := 28) F dX9_term5_11 (by first | exact hR _ _ _ | (constructor <;> omega)) (by decide) rfl (fun c11 => ?_) (fun c11 => ?_)
      · refine q_iload_n (t := 29) F dX9_term5_28 rfl rfl rfl ?_
        refine q_iret F dX9_term5_29 rfl ?_
        have e : stP (termL b n 0) p f = r := by
          have e0 : stP (termL b n 0) p f = loopP b n opM (oneL b n 0) 160 (stP (oneL b n 0) p f) := stP_loop (F := oneL b n 0) (k := 160)
          rw [e0, hlp]
          refine loopP_n (fun q => ?_)
          have q1 := q.1
          have q2 := q.2
          unfold opM at q2
          rw [if_neg (by omega)] at q2
          exact q2 rfl
        exact ⟨v, rfl, im1, lm1, by rw [e]; exact hr, rfl⟩
      · have hq : r.2.1 = -1 ∧ tk b n r.1 = 42 := by omega
        have hlt : r.1 < n := tk_lt (b := b) (by omega)
        have hop : opM (tk b n r.1) = -9 := by unfold opM; rw [if_pos hq.2]
        have hgd := PG_one b n 0 (adv b n r.1) (adv_in hlt).2
        have had := (adv_in (b := b) hlt).1
        have h11 := hr.2.1
        rw [hq.1] at h11
        refine q_aload_n (t := 15) F dX9_term5_14 rfl rfl rfl ?_
        refine wp_callV (t := 18) [] F dX9_term5_15 k_X9_next v_X9_next ml_X9_196 rfl rfl rfl rfl (Nat.le_of_ble_eq_true rfl) (by decide) (m_30 (by omega)) (c_nextQ _ G im1 bt rt lm1 b n hb r.1 h11 hlt (by omega)) rfl (kV ?_)
        rintro m' ⟨im2, lm2, h2, hag2, hlg2, rfl⟩
        refine q_iload_n (t := 19) F dX9_term5_18 rfl rfl rfl ?_
        refine q_aload_n (t := 20) F dX9_term5_19 rfl rfl rfl ?_
        refine wp_callV (t := 23) [] F dX9_term5_20 k_X9_atom5 v_X9_atom5 ml_X9_231 rfl rfl rfl rfl (Nat.le_of_ble_eq_true rfl) (by decide) (m_30 (by omega)) (hO im2 lm2 nm (adv b n r.1) (-1) h2 (((hag2.trans hr.2.2.1) 30 0 27 (by omega)).trans h27) (hnm.ag (hag2.trans hr.2.2.1))) rfl (kI ?_)
        rintro x20 m' ⟨im3, lm3, h3, rfl⟩
        rw [stP_y] at h3
        refine q_imul (t := 24) F dX9_term5_23 rfl ?_
        refine q_norm ?_
        refine q_istore_n (t := 25) F dX9_term5_24 rfl (by decide) rfl rfl ?_
        refine q_goto (t := 5) F dX9_term5_25 (by decide) ?_
        refine ih5 (k - 1) (lpS b n opM (oneL b n 0) r) _ im3 lm3 (by omega) ?_ ?_ (RPO_step hr hq.1 hag2 hlg2 h3 (ri_b _) (by rw [hop]; exact bi2_9 _ _))
        · rw [hlp]
          obtain ⟨k', hk'⟩ : ∃ k', k = k' + 1 := ⟨k - 1, by omega⟩
          rw [hk', loopP_y2 hq.1 (by rw [hop]; decide)]
          rfl
        · have := hgd.1
          show n - (oneL b n 0 (adv b n r.1)).1 ≤ k - 1
          omega
  exact L5 _ 160 _ _ _ _ (Nat.lt_succ_self _) rfl (by omega) h0

set_option maxHeartbeats 4000000 in
theorem c_X9_added5 (l : Launch) (G : GS)  (bt rt : Nat)  (b : Nat → Int) (n : Nat) (hb : byt b n) (hO : RT l G bt rt b n yX9_term5 Y_X9_term5 (termL b n 0) 5) (im lm : IM) (nm : Nat → Int) (p : Nat) (f : Int) (h : PQ b n im lm p f) (h27 : im 30 0 27 = ((5 : Nat) : Int)) (hnm : NMr im nm) : Cn l (XR G) yX9_added5 Y_X9_added5 [vR 30 0] (im, rs bt rt, lm) (pI fun x m' => ∃ im' lm', RPO b n im lm nm (stP (sumL b n 0) p f) x im' lm' ∧ m' = (im', rs bt rt, lm')) := by
  refine cn_of (by decide) (okR G) rfl (Nat.le_of_ble_eq_true rfl) ?_
  intro M ad hMl F
  subst hMl
  have hn := hb.1
  have hR := h.2.1
  refine wp_pad 3 ?_
  show Wp M (XR G) ad Y_X9_added5 (pI fun x m' => ∃ im' lm', RPO b n im lm nm (stP (sumL b n 0) p f) x im' lm' ∧ m' = (im', rs bt rt, lm')) 0 [some (vR 30 0), none, none, none] [] (im, rs bt rt, lm)
  refine q_aload_n (t := 1) F dX9_added5_0 rfl rfl rfl ?_
  refine wp_callV (t := 4) [] F dX9_added5_1 k_X9_term5 v_X9_term5 ml_X9_234 rfl rfl rfl rfl (Nat.le_of_ble_eq_true rfl) (by decide) (m_30 (by omega)) (hO im lm nm p f h h27 hnm) rfl (kI ?_)
  rintro x1 m' ⟨im0, lm0, h0, rfl⟩
  refine q_istore_n (t := 5) F dX9_added5_4 rfl (by decide) rfl rfl ?_
  have L5 : ∀ (fz : Nat) (k : Nat) (r : PT) (v : Int) (im1 lm1 : IM), k < fz → loopP b n opS (termL b n 0) 160 (stP (termL b n 0) p f) = loopP b n opS (termL b n 0) k r → n - r.1 ≤ k → RPO b n im lm nm r v im1 lm1 → Wp M (XR G) ad Y_X9_added5 (pI fun x m' => ∃ im' lm', RPO b n im lm nm (stP (sumL b n 0) p f) x im' lm' ∧ m' = (im', rs bt rt, lm')) 5 [some (vR 30 0), some (vI v), none, none] [] (im1, rs bt rt, lm1) := by
    intro fz
    induction fz with
    | zero => intro k r v im1 lm1 h; exact absurd h (Nat.not_lt_zero _)
    | succ fz ih =>
      have ih5 := ih
      intro k r v im1 lm1 hmeas hlp hk hr
      have hti := tk_in b n r.1
      have hb1 := hr.2.1.b01
      have hrv := hr.1
      have hrv1 := hrv.1
      have hrv2 := hrv.2
      refine q_aload_n (t := 6) F dX9_added5_5 rfl rfl rfl ?_
      refine q_bipush (t := 8) F dX9_added5_6 (by decide) rfl ?_
      refine wp_callV (t := 11) [_] F dX9_added5_8 k_X9_isSign v_X9_isSign ml_X9_220 rfl rfl rfl rfl (Nat.le_of_ble_eq_true rfl) (by decide) (m_30 (by omega)) (c_X9_isSign _ G im1 bt rt lm1 b n hb r.1 r.2.1 hr.2.1 43 (by omega) (by omega)) rfl (kI ?_)
      rintro x8 m' ⟨hx8, rfl⟩
      have hx8 := if01 hx8
      refine q_if_ne (t := 14) (u := 23) F dX9_added5_11 (by first | exact hR _ _ _ | (constructor <;> omega)) (by decide) rfl (fun c11 => ?_) (fun c11 => ?_)
      · have hq : r.2.1 = -1 ∧ (tk b n r.1 = 43 ∨ tk b n r.1 = 45) := by omega
        have hlt : r.1 < n := tk_lt (b := b) (by omega)
        
        have hgd := PG_termL b n 0 (adv b n r.1) (adv_in hlt).2
        have had := (adv_in (b := b) hlt).1
        have h11 := hr.2.1
        rw [hq.1] at h11
        have hw1 : lm1 30 0 26 = tk b n r.1 := ((TK_sign (h11.1.1 rfl).2.2 (s := tk b n r.1) (by omega)).mpr rfl).2
        have hcm : cmpI (lm1 30 0 26) 43 = 0 ↔ lm1 30 0 26 = 43 := cmpI_eq
        refine q_aload_n (t := 24) F dX9_added5_23 rfl rfl rfl ?_
        refine g_X9_175 (t := 27) F dX9_added5_24 rfl rfl ?_
        try simp only [up_app, row_app, scr_app, cpy_app, Nat.reduceEqDiff, Int.reduceToNat, Int.toNat_natCast, and_true, true_and, and_false, false_and, and_self, reduceIte]
        refine q_ldc2 (t := 30) (x := 43) F dX9_added5_27 kl_X9_237 (by decide) rfl ?_
        refine q_lcmp (t := 31) F dX9_added5_30 ⟨by omega, by omega⟩ ⟨by omega, by omega⟩ rfl ?_
        refine q_if_ne (t := 34) (u := 38) F dX9_added5_31 (by exact cmpI_ri _ _) (by decide) rfl (fun c31 => ?_) (fun c31 => ?_)
        · refine q_iconst (t := 39) F dX9_added5_38 rfl ?_
          refine q_istore_n (t := 40) F dX9_added5_39 rfl (by decide) rfl rfl ?_
          refine q_aload_n (t := 41) F dX9_added5_40 rfl rfl rfl ?_
          refine wp_callV (t := 44) [] F dX9_added5_41 k_X9_next v_X9_next ml_X9_196 rfl rfl rfl rfl (Nat.le_of_ble_eq_true rfl) (by decide) (m_30 (by omega)) (c_nextQ _ G im1 bt rt lm1 b n hb r.1 h11 hlt (by omega)) rfl (kV ?_)
          rintro m' ⟨im2, lm2, h2, hag2, hlg2, rfl⟩
          refine q_aload_n (t := 45) F dX9_added5_44 rfl rfl rfl ?_
          refine wp_callV (t := 48) [] F dX9_added5_45 k_X9_term5 v_X9_term5 ml_X9_234 rfl rfl rfl rfl (Nat.le_of_ble_eq_true rfl) (by decide) (m_30 (by omega)) (hO im2 lm2 nm (adv b n r.1) (-1) h2 (((hag2.trans hr.2.2.1) 30 0 27 (by omega)).trans h27) (hnm.ag (hag2.trans hr.2.2.1))) rfl (kI ?_)
          rintro x45 m' ⟨im3, lm3, h3, rfl⟩
          rw [stP_y] at h3
          refine q_istore_n (t := 49) F dX9_added5_48 rfl (by decide) rfl rfl ?_
          refine q_iload_n (t := 50) F dX9_added5_49 rfl rfl rfl ?_
          refine q_if_eq (t := 53) (u := 59) F dX9_added5_50 (by first | exact hR _ _ _ | (constructor <;> omega)) (by decide) rfl (fun c50 => ?_) (fun c50 => ?_)
          · refine q_iload_n (t := 60) F dX9_added5_59 rfl rfl rfl ?_
            refine q_iload_n (t := 61) F dX9_added5_60 rfl rfl rfl ?_
            refine q_isub (t := 62) F dX9_added5_61 rfl ?_
            refine q_norm ?_
            refine q_istore_n (t := 63) F dX9_added5_62 rfl (by decide) rfl rfl ?_
            refine q_goto (t := 5) F dX9_added5_63 (by decide) ?_
            refine wp_less 3 ?_
            refine wp_less 2 ?_
            first
              | (exfalso; omega)
              | (have hop : opS (tk b n r.1) = -10 := by unfold opS; rw [if_pos (by omega)]
                 refine ih5 (k - 1) (lpS b n opS (termL b n 0) r) _ im3 lm3 (by omega) ?_ ?_ (RPO_step hr hq.1 hag2 hlg2 h3 (ri_b _) (by rw [hop]; exact bi2_10 _ _))
                 · rw [hlp]
                   obtain ⟨k', hk'⟩ : ∃ k', k = k' + 1 := ⟨k - 1, by omega⟩
                   rw [hk', loopP_y2 hq.1 (by rw [hop]; decide)]
                   rfl
                 · have := hgd.1
                   show n - (termL b n 0 (adv b n r.1)).1 ≤ k - 1
                   omega)
              | (have hop : opS (tk b n r.1) = -11 := by unfold opS; rw [if_neg (by omega), if_pos (by omega)]
                 refine ih5 (k - 1) (lpS b n opS (termL b n 0) r) _ im3 lm3 (by omega) ?_ ?_ (RPO_step hr hq.1 hag2 hlg2 h3 (ri_b _) (by rw [hop]; exact bi2_11 _ _))
                 · rw [hlp]
                   obtain ⟨k', hk'⟩ : ∃ k', k = k' + 1 := ⟨k - 1, by omega⟩
                   rw [hk', loopP_y2 hq.1 (by rw [hop]; decide)]
                   rfl
                 · have := hgd.1
                   show n - (termL b n 0 (adv b n r.1)).1 ≤ k - 1
                   omega)
          · refine q_iload_n (t := 54) F dX9_added5_53 rfl rfl rfl ?_
            refine q_iload_n (t := 55) F dX9_added5_54 rfl rfl rfl ?_
            refine q_iadd (t := 56) F dX9_added5_55 rfl ?_
            refine q_goto (t := 62) F dX9_added5_56 (by decide) ?_
            refine q_norm ?_
            refine q_istore_n (t := 63) F dX9_added5_62 rfl (by decide) rfl rfl ?_
            refine q_goto (t := 5) F dX9_added5_63 (by decide) ?_
            refine wp_less 3 ?_
            refine wp_less 2 ?_
            first
              | (exfalso; omega)
              | (have hop : opS (tk b n r.1) = -10 := by unfold opS; rw [if_pos (by omega)]
                 refine ih5 (k - 1) (lpS b n opS (termL b n 0) r) _ im3 lm3 (by omega) ?_ ?_ (RPO_step hr hq.1 hag2 hlg2 h3 (ri_b _) (by rw [hop]; exact bi2_10 _ _))
                 · rw [hlp]
                   obtain ⟨k', hk'⟩ : ∃ k', k = k' + 1 := ⟨k - 1, by omega⟩
                   rw [hk', loopP_y2 hq.1 (by rw [hop]; decide)]
                   rfl
                 · have := hgd.1
                   show n - (termL b n 0 (adv b n r.1)).1 ≤ k - 1
                   omega)
              | (have hop : opS (tk b n r.1) = -11 := by unfold opS; rw [if_neg (by omega), if_pos (by omega)]
                 refine ih5 (k - 1) (lpS b n opS (termL b n 0) r) _ im3 lm3 (by omega) ?_ ?_ (RPO_step hr hq.1 hag2 hlg2 h3 (ri_b _) (by rw [hop]; exact bi2_11 _ _))
                 · rw [hlp]
                   obtain ⟨k', hk'⟩ : ∃ k', k = k' + 1 := ⟨k - 1, by omega⟩
                   rw [hk', loopP_y2 hq.1 (by rw [hop]; decide)]
                   rfl
                 · have := hgd.1
                   show n - (termL b n 0 (adv b n r.1)).1 ≤ k - 1
                   omega)
        · refine q_iconst (t := 35) F dX9_added5_34 rfl ?_
          refine q_goto (t := 39) F dX9_added5_35 (by decide) ?_
          refine q_istore_n (t := 40) F dX9_added5_39 rfl (by decide) rfl rfl ?_
          refine q_aload_n (t := 41) F dX9_added5_40 rfl rfl rfl ?_
          refine wp_callV (t := 44) [] F dX9_added5_41 k_X9_next v_X9_next ml_X9_196 rfl rfl rfl rfl (Nat.le_of_ble_eq_true rfl) (by decide) (m_30 (by omega)) (c_nextQ _ G im1 bt rt lm1 b n hb r.1 h11 hlt (by omega)) rfl (kV ?_)
          rintro m' ⟨im2, lm2, h2, hag2, hlg2, rfl⟩
          refine q_aload_n (t := 45) F dX9_added5_44 rfl rfl rfl ?_
          refine wp_callV (t := 48) [] F dX9_added5_45 k_X9_term5 v_X9_term5 ml_X9_234 rfl rfl rfl rfl (Nat.le_of_ble_eq_true rfl) (by decide) (m_30 (by omega)) (hO im2 lm2 nm (adv b n r.1) (-1) h2 (((hag2.trans hr.2.2.1) 30 0 27 (by omega)).trans h27) (hnm.ag (hag2.trans hr.2.2.1))) rfl (kI ?_)
          rintro x45 m' ⟨im3, lm3, h3, rfl⟩
          rw [stP_y] at h3
          refine q_istore_n (t := 49) F dX9_added5_48 rfl (by decide) rfl rfl ?_
          refine q_iload_n (t := 50) F dX9_added5_49 rfl rfl rfl ?_
          refine q_if_eq (t := 53) (u := 59) F dX9_added5_50 (by first | exact hR _ _ _ | (constructor <;> omega)) (by decide) rfl (fun c50 => ?_) (fun c50 => ?_)
          · refine q_iload_n (t := 60) F dX9_added5_59 rfl rfl rfl ?_
            refine q_iload_n (t := 61) F dX9_added5_60 rfl rfl rfl ?_
            refine q_isub (t := 62) F dX9_added5_61 rfl ?_
            refine q_norm ?_
            refine q_istore_n (t := 63) F dX9_added5_62 rfl (by decide) rfl rfl ?_
            refine q_goto (t := 5) F dX9_added5_63 (by decide) ?_
            refine wp_less 3 ?_
            refine wp_less 2 ?_
            first
              | (exfalso; omega)
              | (have hop : opS (tk b n r.1) = -10 := by unfold opS; rw [if_pos (by omega)]
                 refine ih5 (k - 1) (lpS b n opS (termL b n 0) r) _ im3 lm3 (by omega) ?_ ?_ (RPO_step hr hq.1 hag2 hlg2 h3 (ri_b _) (by rw [hop]; exact bi2_10 _ _))
                 · rw [hlp]
                   obtain ⟨k', hk'⟩ : ∃ k', k = k' + 1 := ⟨k - 1, by omega⟩
                   rw [hk', loopP_y2 hq.1 (by rw [hop]; decide)]
                   rfl
                 · have := hgd.1
                   show n - (termL b n 0 (adv b n r.1)).1 ≤ k - 1
                   omega)
              | (have hop : opS (tk b n r.1) = -11 := by unfold opS; rw [if_neg (by omega), if_pos (by omega)]
                 refine ih5 (k - 1) (lpS b n opS (termL b n 0) r) _ im3 lm3 (by omega) ?_ ?_ (RPO_step hr hq.1 hag2 hlg2 h3 (ri_b _) (by rw [hop]; exact bi2_11 _ _))
                 · rw [hlp]
                   obtain ⟨k', hk'⟩ : ∃ k', k = k' + 1 := ⟨k - 1, by omega⟩
                   rw [hk', loopP_y2 hq.1 (by rw [hop]; decide)]
                   rfl
                 · have := hgd.1
                   show n - (termL b n 0 (adv b n r.1)).1 ≤ k - 1
                   omega)
          · refine q_iload_n (t := 54) F dX9_added5_53 rfl rfl rfl ?_
            refine q_iload_n (t := 55) F dX9_added5_54 rfl rfl rfl ?_
            refine q_iadd (t := 56) F dX9_added5_55 rfl ?_
            refine q_goto (t := 62) F dX9_added5_56 (by decide) ?_
            refine q_norm ?_
            refine q_istore_n (t := 63) F dX9_added5_62 rfl (by decide) rfl rfl ?_
            refine q_goto (t := 5) F dX9_added5_63 (by decide) ?_
            refine wp_less 3 ?_
            refine wp_less 2 ?_
            first
              | (exfalso; omega)
              | (have hop : opS (tk b n r.1) = -10 := by unfold opS; rw [if_pos (by omega)]
                 refine ih5 (k - 1) (lpS b n opS (termL b n 0) r) _ im3 lm3 (by omega) ?_ ?_ (RPO_step hr hq.1 hag2 hlg2 h3 (ri_b _) (by rw [hop]; exact bi2_10 _ _))
                 · rw [hlp]
                   obtain ⟨k', hk'⟩ : ∃ k', k = k' + 1 := ⟨k - 1, by omega⟩
                   rw [hk', loopP_y2 hq.1 (by rw [hop]; decide)]
                   rfl
                 · have := hgd.1
                   show n - (termL b n 0 (adv b n r.1)).1 ≤ k - 1
                   omega)
              | (have hop : opS (tk b n r.1) = -11 := by unfold opS; rw [if_neg (by omega), if_pos (by omega)]
                 refine ih5 (k - 1) (lpS b n opS (termL b n 0) r) _ im3 lm3 (by omega) ?_ ?_ (RPO_step hr hq.1 hag2 hlg2 h3 (ri_b _) (by rw [hop]; exact bi2_11 _ _))
                 · rw [hlp]
                   obtain ⟨k', hk'⟩ : ∃ k', k = k' + 1 := ⟨k - 1, by omega⟩
                   rw [hk', loopP_y2 hq.1 (by rw [hop]; decide)]
                   rfl
                 · have := hgd.1
                   show n - (termL b n 0 (adv b n r.1)).1 ≤ k - 1
                   omega)
      · refine q_aload_n (t := 15) F dX9_added5_14 rfl rfl rfl ?_
        refine q_bipush (t := 17) F dX9_added5_15 (by decide) rfl ?_
        refine wp_callV (t := 20) [_] F dX9_added5_17 k_X9_isSign v_X9_isSign ml_X9_220 rfl rfl rfl rfl (Nat.le_of_ble_eq_true rfl) (by decide) (m_30 (by omega)) (c_X9_isSign _ G im1 bt rt lm1 b n hb r.1 r.2.1 hr.2.1 45 (by omega) (by omega)) rfl (kI ?_)
        rintro x17 m' ⟨hx17, rfl⟩
        have hx17 := if01 hx17
        refine q_if_eq (t := 23) (u := 66) F dX9_added5_20 (by first | exact hR _ _ _ | (constructor <;> omega)) (by decide) rfl (fun c20 => ?_) (fun c20 => ?_)
        · refine q_iload_n (t := 67) F dX9_added5_66 rfl rfl rfl ?_
          refine q_iret F dX9_added5_67 rfl ?_
          have e : stP (sumL b n 0) p f = r := by
            have e0 : stP (sumL b n 0) p f = loopP b n opS (termL b n 0) 160 (stP (termL b n 0) p f) := stP_loop (F := termL b n 0) (k := 160)
            rw [e0, hlp]
            refine loopP_n (fun q => ?_)
            have q1 := q.1
            have q2 := q.2
            unfold opS at q2
            rw [if_neg (by omega), if_neg (by omega)] at q2
            exact q2 rfl
          exact ⟨v, rfl, im1, lm1, by rw [e]; exact hr, rfl⟩
        · have hq : r.2.1 = -1 ∧ (tk b n r.1 = 43 ∨ tk b n r.1 = 45) := by omega
          have hlt : r.1 < n := tk_lt (b := b) (by omega)
          
          have hgd := PG_termL b n 0 (adv b n r.1) (adv_in hlt).2
          have had := (adv_in (b := b) hlt).1
          have h11 := hr.2.1
          rw [hq.1] at h11
          have hw1 : lm1 30 0 26 = tk b n r.1 := ((TK_sign (h11.1.1 rfl).2.2 (s := tk b n r.1) (by omega)).mpr rfl).2
          have hcm : cmpI (lm1 30 0 26) 43 = 0 ↔ lm1 30 0 26 = 43 := cmpI_eq
          refine q_aload_n (t := 24) F dX9_added5_23 rfl rfl rfl ?_
          refine g_X9_175 (t := 27) F dX9_added5_24 rfl rfl ?_
          try simp only [up_app, row_app, scr_app, cpy_app, Nat.reduceEqDiff, Int.reduceToNat, Int.toNat_natCast, and_true, true_and, and_false, false_and, and_self, reduceIte]
          refine q_ldc2 (t := 30) (x := 43) F dX9_added5_27 kl_X9_237 (by decide) rfl ?_
          refine q_lcmp (t := 31) F dX9_added5_30 ⟨by omega, by omega⟩ ⟨by omega, by omega⟩ rfl ?_
          refine q_if_ne (t := 34) (u := 38) F dX9_added5_31 (by exact cmpI_ri _ _) (by decide) rfl (fun c31 => ?_) (fun c31 => ?_)
          · refine q_iconst (t := 39) F dX9_added5_38 rfl ?_
            refine q_istore_n (t := 40) F dX9_added5_39 rfl (by decide) rfl rfl ?_
            refine q_aload_n (t := 41) F dX9_added5_40 rfl rfl rfl ?_
            refine wp_callV (t := 44) [] F dX9_added5_41 k_X9_next v_X9_next ml_X9_196 rfl rfl rfl rfl (Nat.le_of_ble_eq_true rfl) (by decide) (m_30 (by omega)) (c_nextQ _ G im1 bt rt lm1 b n hb r.1 h11 hlt (by omega)) rfl (kV ?_)
            rintro m' ⟨im2, lm2, h2, hag2, hlg2, rfl⟩
            refine q_aload_n (t := 45) F dX9_added5_44 rfl rfl rfl ?_
            refine wp_callV (t := 48) [] F dX9_added5_45 k_X9_term5 v_X9_term5 ml_X9_234 rfl rfl rfl rfl (Nat.le_of_ble_eq_true rfl) (by decide) (m_30 (by omega)) (hO im2 lm2 nm (adv b n r.1) (-1) h2 (((hag2.trans hr.2.2.1) 30 0 27 (by omega)).trans h27) (hnm.ag (hag2.trans hr.2.2.1))) rfl (kI ?_)
            rintro x45 m' ⟨im3, lm3, h3, rfl⟩
            rw [stP_y] at h3
            refine q_istore_n (t := 49) F dX9_added5_48 rfl (by decide) rfl rfl ?_
            refine q_iload_n (t := 50) F dX9_added5_49 rfl rfl rfl ?_
            refine q_if_eq (t := 53) (u := 59) F dX9_added5_50 (by first | exact hR _ _ _ | (constructor <;> omega)) (by decide) rfl (fun c50 => ?_) (fun c50 => ?_)
            · refine q_iload_n (t := 60) F dX9_added5_59 rfl rfl rfl ?_
              refine q_iload_n (t := 61) F dX9_added5_60 rfl rfl rfl ?_
              refine q_isub (t := 62) F dX9_added5_61 rfl ?_
              refine q_norm ?_
              refine q_istore_n (t := 63) F dX9_added5_62 rfl (by decide) rfl rfl ?_
              refine q_goto (t := 5) F dX9_added5_63 (by decide) ?_
              refine wp_less 3 ?_
              refine wp_less 2 ?_
              first
                | (exfalso; omega)
                | (have hop : opS (tk b n r.1) = -10 := by unfold opS; rw [if_pos (by omega)]
                   refine ih5 (k - 1) (lpS b n opS (termL b n 0) r) _ im3 lm3 (by omega) ?_ ?_ (RPO_step hr hq.1 hag2 hlg2 h3 (ri_b _) (by rw [hop]; exact bi2_10 _ _))
                   · rw [hlp]
                     obtain ⟨k', hk'⟩ : ∃ k', k = k' + 1 := ⟨k - 1, by omega⟩
                     rw [hk', loopP_y2 hq.1 (by rw [hop]; decide)]
                     rfl
                   · have := hgd.1
                     show n - (termL b n 0 (adv b n r.1)).1 ≤ k - 1
                     omega)
                | (have hop : opS (tk b n r.1) = -11 := by unfold opS; rw [if_neg (by omega), if_pos (by omega)]
                   refine ih5 (k - 1) (lpS b n opS (termL b n 0) r) _ im3 lm3 (by omega) ?_ ?_ (RPO_step hr hq.1 hag2 hlg2 h3 (ri_b _) (by rw [hop]; exact bi2_11 _ _))
                   · rw [hlp]
                     obtain ⟨k', hk'⟩ : ∃ k', k = k' + 1 := ⟨k - 1, by omega⟩
                     rw [hk', loopP_y2 hq.1 (by rw [hop]; decide)]
                     rfl
                   · have := hgd.1
                     show n - (termL b n 0 (adv b n r.1)).1 ≤ k - 1
                     omega)
            · refine q_iload_n (t := 54) F dX9_added5_53 rfl rfl rfl ?_
              refine q_iload_n (t := 55) F dX9_added5_54 rfl rfl rfl ?_
              refine q_iadd (t := 56) F dX9_added5_55 rfl ?_
              refine q_goto (t := 62) F dX9_added5_56 (by decide) ?_
              refine q_norm ?_
              refine q_istore_n (t := 63) F dX9_added5_62 rfl (by decide) rfl rfl ?_
              refine q_goto (t := 5) F dX9_added5_63 (by decide) ?_
              refine wp_less 3 ?_
              refine wp_less 2 ?_
              first
                | (exfalso; omega)
                | (have hop : opS (tk b n r.1) = -10 := by unfold opS; rw [if_pos (by omega)]
                   refine ih5 (k - 1) (lpS b n opS (termL b n 0) r) _ im3 lm3 (by omega) ?_ ?_ (RPO_step hr hq.1 hag2 hlg2 h3 (ri_b _) (by rw [hop]; exact bi2_10 _ _))
                   · rw [hlp]
                     obtain ⟨k', hk'⟩ : ∃ k', k = k' + 1 := ⟨k - 1, by omega⟩
                     rw [hk', loopP_y2 hq.1 (by rw [hop]; decide)]
                     rfl
                   · have := hgd.1
                     show n - (termL b n 0 (adv b n r.1)).1 ≤ k - 1
                     omega)
                | (have hop : opS (tk b n r.1) = -11 := by unfold opS; rw [if_neg (by omega), if_pos (by omega)]
                   refine ih5 (k - 1) (lpS b n opS (termL b n 0) r) _ im3 lm3 (by omega) ?_ ?_ (RPO_step hr hq.1 hag2 hlg2 h3 (ri_b _) (by rw [hop]; exact bi2_11 _ _))
                   · rw [hlp]
                     obtain ⟨k', hk'⟩ : ∃ k', k = k' + 1 := ⟨k - 1, by omega⟩
                     rw [hk', loopP_y2 hq.1 (by rw [hop]; decide)]
                     rfl
                   · have := hgd.1
                     show n - (termL b n 0 (adv b n r.1)).1 ≤ k - 1
                     omega)
          · refine q_iconst (t := 35) F dX9_added5_34 rfl ?_
            refine q_goto (t := 39) F dX9_added5_35 (by decide) ?_
            refine q_istore_n (t := 40) F dX9_added5_39 rfl (by decide) rfl rfl ?_
            refine q_aload_n (t := 41) F dX9_added5_40 rfl rfl rfl ?_
            refine wp_callV (t := 44) [] F dX9_added5_41 k_X9_next v_X9_next ml_X9_196 rfl rfl rfl rfl (Nat.le_of_ble_eq_true rfl) (by decide) (m_30 (by omega)) (c_nextQ _ G im1 bt rt lm1 b n hb r.1 h11 hlt (by omega)) rfl (kV ?_)
            rintro m' ⟨im2, lm2, h2, hag2, hlg2, rfl⟩
            refine q_aload_n (t := 45) F dX9_added5_44 rfl rfl rfl ?_
            refine wp_callV (t := 48) [] F dX9_added5_45 k_X9_term5 v_X9_term5 ml_X9_234 rfl rfl rfl rfl (Nat.le_of_ble_eq_true rfl) (by decide) (m_30 (by omega)) (hO im2 lm2 nm (adv b n r.1) (-1) h2 (((hag2.trans hr.2.2.1) 30 0 27 (by omega)).trans h27) (hnm.ag (hag2.trans hr.2.2.1))) rfl (kI ?_)
            rintro x45 m' ⟨im3, lm3, h3, rfl⟩
            rw [stP_y] at h3
            refine q_istore_n (t := 49) F dX9_added5_48 rfl (by decide) rfl rfl ?_
            refine q_iload_n (t := 50) F dX9_added5_49 rfl rfl rfl ?_
            refine q_if_eq (t := 53) (u := 59) F dX9_added5_50 (by first | exact hR _ _ _ | (constructor <;> omega)) (by decide) rfl (fun c50 => ?_) (fun c50 => ?_)
            · refine q_iload_n (t := 60) F dX9_added5_59 rfl rfl rfl ?_
              refine q_iload_n (t := 61) F dX9_added5_60 rfl rfl rfl ?_
              refine q_isub (t := 62) F dX9_added5_61 rfl ?_
              refine q_norm ?_
              refine q_istore_n (t := 63) F dX9_added5_62 rfl (by decide) rfl rfl ?_
              refine q_goto (t := 5) F dX9_added5_63 (by decide) ?_
              refine wp_less 3 ?_
              refine wp_less 2 ?_
              first
                | (exfalso; omega)
                | (have hop : opS (tk b n r.1) = -10 := by unfold opS; rw [if_pos (by omega)]
                   refine ih5 (k - 1) (lpS b n opS (termL b n 0) r) _ im3 lm3 (by omega) ?_ ?_ (RPO_step hr hq.1 hag2 hlg2 h3 (ri_b _) (by rw [hop]; exact bi2_10 _ _))
                   · rw [hlp]
                     obtain ⟨k', hk'⟩ : ∃ k', k = k' + 1 := ⟨k - 1, by omega⟩
                     rw [hk', loopP_y2 hq.1 (by rw [hop]; decide)]
                     rfl
                   · have := hgd.1
                     show n - (termL b n 0 (adv b n r.1)).1 ≤ k - 1
                     omega)
                | (have hop : opS (tk b n r.1) = -11 := by unfold opS; rw [if_neg (by omega), if_pos (by omega)]
                   refine ih5 (k - 1) (lpS b n opS (termL b n 0) r) _ im3 lm3 (by omega) ?_ ?_ (RPO_step hr hq.1 hag2 hlg2 h3 (ri_b _) (by rw [hop]; exact bi2_11 _ _))
                   · rw [hlp]
                     obtain ⟨k', hk'⟩ : ∃ k', k = k' + 1 := ⟨k - 1, by omega⟩
                     rw [hk', loopP_y2 hq.1 (by rw [hop]; decide)]
                     rfl
                   · have := hgd.1
                     show n - (termL b n 0 (adv b n r.1)).1 ≤ k - 1
                     omega)
            · refine q_iload_n (t := 54) F dX9_added5_53 rfl rfl rfl ?_
              refine q_iload_n (t := 55) F dX9_added5_54 rfl rfl rfl ?_
              refine q_iadd (t := 56) F dX9_added5_55 rfl ?_
              refine q_goto (t := 62) F dX9_added5_56 (by decide) ?_
              refine q_norm ?_
              refine q_istore_n (t := 63) F dX9_added5_62 rfl (by decide) rfl rfl ?_
              refine q_goto (t := 5) F dX9_added5_63 (by decide) ?_
              refine wp_less 3 ?_
              refine wp_less 2 ?_
              first
                | (exfalso; omega)
                | (have hop : opS (tk b n r.1) = -10 := by unfold opS; rw [if_pos (by omega)]
                   refine ih5 (k - 1) (lpS b n opS (termL b n 0) r) _ im3 lm3 (by omega) ?_ ?_ (RPO_step hr hq.1 hag2 hlg2 h3 (ri_b _) (by rw [hop]; exact bi2_10 _ _))
                   · rw [hlp]
                     obtain ⟨k', hk'⟩ : ∃ k', k = k' + 1 := ⟨k - 1, by omega⟩
                     rw [hk', loopP_y2 hq.1 (by rw [hop]; decide)]
                     rfl
                   · have := hgd.1
                     show n - (termL b n 0 (adv b n r.1)).1 ≤ k - 1
                     omega)
                | (have hop : opS (tk b n r.1) = -11 := by unfold opS; rw [if_neg (by omega), if_pos (by omega)]
                   refine ih5 (k - 1) (lpS b n opS (termL b n 0) r) _ im3 lm3 (by omega) ?_ ?_ (RPO_step hr hq.1 hag2 hlg2 h3 (ri_b _) (by rw [hop]; exact bi2_11 _ _))
                   · rw [hlp]
                     obtain ⟨k', hk'⟩ : ∃ k', k = k' + 1 := ⟨k - 1, by omega⟩
                     rw [hk', loopP_y2 hq.1 (by rw [hop]; decide)]
                     rfl
                   · have := hgd.1
                     show n - (termL b n 0 (adv b n r.1)).1 ≤ k - 1
                     omega)
  refine wp_less 3 ?_
  refine wp_less 2 ?_
  exact L5 _ 160 _ _ _ _ (Nat.lt_succ_self _) rfl (by omega) h0

set_option maxHeartbeats 4000000 in
theorem c_X9_both5 (l : Launch) (G : GS)  (bt rt : Nat)  (b : Nat → Int) (n : Nat) (hb : byt b n) (hO : RT l G bt rt b n yX9_not5 Y_X9_not5 (denL b n 0) 5) (im lm : IM) (nm : Nat → Int) (p : Nat) (f : Int) (h : PQ b n im lm p f) (h27 : im 30 0 27 = ((5 : Nat) : Int)) (hnm : NMr im nm) : Cn l (XR G) yX9_both5 Y_X9_both5 [vR 30 0] (im, rs bt rt, lm) (pI fun x m' => ∃ im' lm', RPO b n im lm nm (stP (bothL b n 0) p f) x im' lm' ∧ m' = (im', rs bt rt, lm')) := by
  refine cn_of (by decide) (okR G) rfl (Nat.le_of_ble_eq_true rfl) ?_
  intro M ad hMl F
  subst hMl
  have hn := hb.1
  have hR := h.2.1
  refine wp_pad 2 ?_
  show Wp M (XR G) ad Y_X9_both5 (pI fun x m' => ∃ im' lm', RPO b n im lm nm (stP (bothL b n 0) p f) x im' lm' ∧ m' = (im', rs bt rt, lm')) 0 [some (vR 30 0), none, none] [] (im, rs bt rt, lm)
  refine q_aload_n (t := 1) F dX9_both5_0 rfl rfl rfl ?_
  refine wp_callV (t := 4) [] F dX9_both5_1 k_X9_not5 v_X9_not5 ml_X9_244 rfl rfl rfl rfl (Nat.le_of_ble_eq_true rfl) (by decide) (m_30 (by omega)) (hO im lm nm p f h h27 hnm) rfl (kI ?_)
  rintro x1 m' ⟨im0, lm0, h0, rfl⟩
  refine q_istore_n (t := 5) F dX9_both5_4 rfl (by decide) rfl rfl ?_
  have L5 : ∀ (fz : Nat) (k : Nat) (r : PT) (v : Int) (im1 lm1 : IM), k < fz → loopP b n opA (denL b n 0) 160 (stP (denL b n 0) p f) = loopP b n opA (denL b n 0) k r → n - r.1 ≤ k → RPO b n im lm nm r v im1 lm1 → Wp M (XR G) ad Y_X9_both5 (pI fun x m' => ∃ im' lm', RPO b n im lm nm (stP (bothL b n 0) p f) x im' lm' ∧ m' = (im', rs bt rt, lm')) 5 [some (vR 30 0), some (vI v), none] [] (im1, rs bt rt, lm1) := by
    intro fz
    induction fz with
    | zero => intro k r v im1 lm1 h; exact absurd h (Nat.not_lt_zero _)
    | succ fz ih =>
      have ih5 := ih
      intro k r v im1 lm1 hmeas hlp hk hr
      have hti := tk_in b n r.1
      have hb1 := hr.2.1.b01
      have hrv := hr.1
      have hrv1 := hrv.1
      have hrv2 := hrv.2
      refine q_aload_n (t := 6) F dX9_both5_5 rfl rfl rfl ?_
      refine q_bipush (t := 8) F dX9_both5_6 (by decide) rfl ?_
      refine q_bipush (t := 10) F dX9_both5_8 (by decide) rfl ?_
      refine q_bipush (t := 12) F dX9_both5_10 (by decide) rfl ?_
      refine q_iconst (t := 13) F dX9_both5_12 rfl ?_
      refine q_iconst (t := 14) F dX9_both5_13 rfl ?_
      refine q_iconst (t := 15) F dX9_both5_14 rfl ?_
      refine q_iconst (t := 16) F dX9_both5_15 rfl ?_
      refine q_iconst (t := 17) F dX9_both5_16 rfl ?_
      refine wp_callV (t := 20) [_, _, _, _, _, _, _, _] F dX9_both5_17 k_X9_isWord_ v_X9_isWord_ ml_X9_199 rfl rfl rfl rfl (Nat.le_of_ble_eq_true rfl) (by decide) (m_30 (by omega)) (c_isKey _ G im1 bt rt lm1 b n hb r.1 r.2.1 hr.2.1 10 (by omega) (by omega) 8 (by omega) _ _ _ _ _ _ _ _ (by decide)) rfl (kI ?_)
      rintro x17 m' ⟨hx17, rfl⟩
      have hx17 := if01 hx17
      refine q_if_eq (t := 23) (u := 49) F dX9_both5_20 (by first | exact hR _ _ _ | (constructor <;> omega)) (by decide) rfl (fun c20 => ?_) (fun c20 => ?_)
      · refine q_iload_n (t := 50) F dX9_both5_49 rfl rfl rfl ?_
        refine q_iret F dX9_both5_50 rfl ?_
        have e : stP (bothL b n 0) p f = r := by
          have e0 : stP (bothL b n 0) p f = loopP b n opA (denL b n 0) 160 (stP (denL b n 0) p f) := stP_loop (F := denL b n 0) (k := 160)
          rw [e0, hlp]
          refine loopP_n (fun q => ?_)
          have q1 := q.1
          have q2 := q.2
          unfold opA at q2
          rw [if_neg (by omega)] at q2
          exact q2 rfl
        exact ⟨v, rfl, im1, lm1, by rw [e]; exact hr, rfl⟩
      · have hq : r.2.1 = -1 ∧ tk b n r.1 = 8 := by omega
        have hlt : r.1 < n := tk_lt (b := b) (by omega)
        have hop : opA (tk b n r.1) = -14 := by unfold opA; rw [if_pos hq.2]
        have hgd := PG_den b n 0 (adv b n r.1) (adv_in hlt).2
        have had := (adv_in (b := b) hlt).1
        have h11 := hr.2.1
        rw [hq.1] at h11
        refine q_aload_n (t := 24) F dX9_both5_23 rfl rfl rfl ?_
        refine wp_callV (t := 27) [] F dX9_both5_24 k_X9_next v_X9_next ml_X9_196 rfl rfl rfl rfl (Nat.le_of_ble_eq_true rfl) (by decide) (m_30 (by omega)) (c_nextQ _ G im1 bt rt lm1 b n hb r.1 h11 hlt (by omega)) rfl (kV ?_)
        rintro m' ⟨im2, lm2, h2, hag2, hlg2, rfl⟩
        refine q_aload_n (t := 28) F dX9_both5_27 rfl rfl rfl ?_
        refine wp_callV (t := 31) [] F dX9_both5_28 k_X9_not5 v_X9_not5 ml_X9_244 rfl rfl rfl rfl (Nat.le_of_ble_eq_true rfl) (by decide) (m_30 (by omega)) (hO im2 lm2 nm (adv b n r.1) (-1) h2 (((hag2.trans hr.2.2.1) 30 0 27 (by omega)).trans h27) (hnm.ag (hag2.trans hr.2.2.1))) rfl (kI ?_)
        rintro x28 m' ⟨im3, lm3, h3, rfl⟩
        rw [stP_y] at h3
        refine q_istore_n (t := 32) F dX9_both5_31 rfl (by decide) rfl rfl ?_
        refine q_iload_n (t := 33) F dX9_both5_32 rfl rfl rfl ?_
        refine q_if_eq (t := 36) (u := 44) F dX9_both5_33 (by exact hrv) (by decide) rfl (fun c33 => ?_) (fun c33 => ?_)
        · refine q_iconst (t := 45) F dX9_both5_44 rfl ?_
          refine q_istore_n (t := 46) F dX9_both5_45 rfl (by decide) rfl rfl ?_
          refine q_goto (t := 5) F dX9_both5_46 (by decide) ?_
          refine wp_less 2 ?_
          refine ih5 (k - 1) (lpS b n opA (denL b n 0) r) _ im3 lm3 (by omega) ?_ ?_ (RPO_step hr hq.1 hag2 hlg2 h3 (by constructor <;> omega) (by rw [hop]; refine Eq.trans ?_ (bi2_14 _ _); first | exact (if_pos (by omega)).symm | exact (if_neg (by omega)).symm))
          · rw [hlp]
            obtain ⟨k', hk'⟩ : ∃ k', k = k' + 1 := ⟨k - 1, by omega⟩
            rw [hk', loopP_y2 hq.1 (by rw [hop]; decide)]
            rfl
          · have := hgd.1
            show n - (denL b n 0 (adv b n r.1)).1 ≤ k - 1
            omega
        · refine q_iload_n (t := 37) F dX9_both5_36 rfl rfl rfl ?_
          refine q_if_eq (t := 40) (u := 44) F dX9_both5_37 (by exact h3.1) (by decide) rfl (fun c37 => ?_) (fun c37 => ?_)
          · refine q_iconst (t := 45) F dX9_both5_44 rfl ?_
            refine q_istore_n (t := 46) F dX9_both5_45 rfl (by decide) rfl rfl ?_
            refine q_goto (t := 5) F dX9_both5_46 (by decide) ?_
            refine wp_less 2 ?_
            refine ih5 (k - 1) (lpS b n opA (denL b n 0) r) _ im3 lm3 (by omega) ?_ ?_ (RPO_step hr hq.1 hag2 hlg2 h3 (by constructor <;> omega) (by rw [hop]; refine Eq.trans ?_ (bi2_14 _ _); first | exact (if_pos (by omega)).symm | exact (if_neg (by omega)).symm))
            · rw [hlp]
              obtain ⟨k', hk'⟩ : ∃ k', k = k' + 1 := ⟨k - 1, by omega⟩
              rw [hk', loopP_y2 hq.1 (by rw [hop]; decide)]
              rfl
            · have := hgd.1
              show n - (denL b n 0 (adv b n r.1)).1 ≤ k - 1
              omega
          · refine q_iconst (t := 41) F dX9_both5_40 rfl ?_
            refine q_goto (t := 45) F dX9_both5_41 (by decide) ?_
            refine q_istore_n (t := 46) F dX9_both5_45 rfl (by decide) rfl rfl ?_
            refine q_goto (t := 5) F dX9_both5_46 (by decide) ?_
            refine wp_less 2 ?_
            refine ih5 (k - 1) (lpS b n opA (denL b n 0) r) _ im3 lm3 (by omega) ?_ ?_ (RPO_step hr hq.1 hag2 hlg2 h3 (by constructor <;> omega) (by rw [hop]; refine Eq.trans ?_ (bi2_14 _ _); first | exact (if_pos (by omega)).symm | exact (if_neg (by omega)).symm))
            · rw [hlp]
              obtain ⟨k', hk'⟩ : ∃ k', k = k' + 1 := ⟨k - 1, by omega⟩
              rw [hk', loopP_y2 hq.1 (by rw [hop]; decide)]
              rfl
            · have := hgd.1
              show n - (denL b n 0 (adv b n r.1)).1 ≤ k - 1
              omega
  refine wp_less 2 ?_
  exact L5 _ 160 _ _ _ _ (Nat.lt_succ_self _) rfl (by omega) h0

set_option maxHeartbeats 4000000 in
theorem c_X9_either5 (l : Launch) (G : GS)  (bt rt : Nat)  (b : Nat → Int) (n : Nat) (hb : byt b n) (hO : RT l G bt rt b n yX9_both5 Y_X9_both5 (bothL b n 0) 5) (im lm : IM) (nm : Nat → Int) (p : Nat) (f : Int) (h : PQ b n im lm p f) (h27 : im 30 0 27 = ((5 : Nat) : Int)) (hnm : NMr im nm) : Cn l (XR G) yX9_either5 Y_X9_either5 [vR 30 0] (im, rs bt rt, lm) (pI fun x m' => ∃ im' lm', RPO b n im lm nm (stP (eitL b n 0) p f) x im' lm' ∧ m' = (im', rs bt rt, lm')) := by
  refine cn_of (by decide) (okR G) rfl (Nat.le_of_ble_eq_true rfl) ?_
  intro M ad hMl F
  subst hMl
  have hn := hb.1
  have hR := h.2.1
  refine wp_pad 2 ?_
  show Wp M (XR G) ad Y_X9_either5 (pI fun x m' => ∃ im' lm', RPO b n im lm nm (stP (eitL b n 0) p f) x im' lm' ∧ m' = (im', rs bt rt, lm')) 0 [some (vR 30 0), none, none] [] (im, rs bt rt, lm)
  refine q_aload_n (t := 1) F dX9_either5_0 rfl rfl rfl ?_
  refine wp_callV (t := 4) [] F dX9_either5_1 k_X9_both5 v_X9_both5 ml_X9_247 rfl rfl rfl rfl (Nat.le_of_ble_eq_true rfl) (by decide) (m_30 (by omega)) (hO im lm nm p f h h27 hnm) rfl (kI ?_)
  rintro x1 m' ⟨im0, lm0, h0, rfl⟩
  refine q_istore_n (t := 5) F dX9_either5_4 rfl (by decide) rfl rfl ?_
  have L5 : ∀ (fz : Nat) (k : Nat) (r : PT) (v : Int) (im1 lm1 : IM), k < fz → loopP b n opO (bothL b n 0) 160 (stP (bothL b n 0) p f) = loopP b n opO (bothL b n 0) k r → n - r.1 ≤ k → RPO b n im lm nm r v im1 lm1 → Wp M (XR G) ad Y_X9_either5 (pI fun x m' => ∃ im' lm', RPO b n im lm nm (stP (eitL b n 0) p f) x im' lm' ∧ m' = (im', rs bt rt, lm')) 5 [some (vR 30 0), some (vI v), none] [] (im1, rs bt rt, lm1) := by
    intro fz
    induction fz with
    | zero => intro k r v im1 lm1 h; exact absurd h (Nat.not_lt_zero _)
    | succ fz ih =>
      have ih5 := ih
      intro k r v im1 lm1 hmeas hlp hk hr
      have hti := tk_in b n r.1
      have hb1 := hr.2.1.b01
      have hrv := hr.1
      have hrv1 := hrv.1
      have hrv2 := hrv.2
      refine q_aload_n (t := 6) F dX9_either5_5 rfl rfl rfl ?_
      refine q_bipush (t := 8) F dX9_either5_6 (by decide) rfl ?_
      refine q_bipush (t := 10) F dX9_either5_8 (by decide) rfl ?_
      refine q_iconst (t := 11) F dX9_either5_10 rfl ?_
      refine q_iconst (t := 12) F dX9_either5_11 rfl ?_
      refine q_iconst (t := 13) F dX9_either5_12 rfl ?_
      refine q_iconst (t := 14) F dX9_either5_13 rfl ?_
      refine q_iconst (t := 15) F dX9_either5_14 rfl ?_
      refine q_iconst (t := 16) F dX9_either5_15 rfl ?_
      refine wp_callV (t := 19) [_, _, _, _, _, _, _, _] F dX9_either5_16 k_X9_isWord_ v_X9_isWord_ ml_X9_199 rfl rfl rfl rfl (Nat.le_of_ble_eq_true rfl) (by decide) (m_30 (by omega)) (c_isKey _ G im1 bt rt lm1 b n hb r.1 r.2.1 hr.2.1 9 (by omega) (by omega) 7 (by omega) _ _ _ _ _ _ _ _ (by decide)) rfl (kI ?_)
      rintro x16 m' ⟨hx16, rfl⟩
      have hx16 := if01 hx16
      refine q_if_eq (t := 22) (u := 48) F dX9_either5_19 (by first | exact hR _ _ _ | (constructor <;> omega)) (by decide) rfl (fun c19 => ?_) (fun c19 => ?_)
      · refine q_iload_n (t := 49) F dX9_either5_48 rfl rfl rfl ?_
        refine q_iret F dX9_either5_49 rfl ?_
        have e : stP (eitL b n 0) p f = r := by
          have e0 : stP (eitL b n 0) p f = loopP b n opO (bothL b n 0) 160 (stP (bothL b n 0) p f) := stP_loop (F := bothL b n 0) (k := 160)
          rw [e0, hlp]
          refine loopP_n (fun q => ?_)
          have q1 := q.1
          have q2 := q.2
          unfold opO at q2
          rw [if_neg (by omega)] at q2
          exact q2 rfl
        exact ⟨v, rfl, im1, lm1, by rw [e]; exact hr, rfl⟩
      · have hq : r.2.1 = -1 ∧ tk b n r.1 = 7 := by omega
        have hlt : r.1 < n := tk_lt (b := b) (by omega)
        have hop : opO (tk b n r.1) = -15 := by unfold opO; rw [if_pos hq.2]
        have hgd := PG_bothL b n 0 (adv b n r.1) (adv_in hlt).2
        have had := (adv_in (b := b) hlt).1
        have h11 := hr.2.1
        rw [hq.1] at h11
        refine q_aload_n (t := 23) F dX9_either5_22 rfl rfl rfl ?_
        refine wp_callV (t := 26) [] F dX9_either5_23 k_X9_next v_X9_next ml_X9_196 rfl rfl rfl rfl (Nat.le_of_ble_eq_true rfl) (by decide) (m_30 (by omega)) (c_nextQ _ G im1 bt rt lm1 b n hb r.1 h11 hlt (by omega)) rfl (kV ?_)
        rintro m' ⟨im2, lm2, h2, hag2, hlg2, rfl⟩
        refine q_aload_n (t := 27) F dX9_either5_26 rfl rfl rfl ?_
        refine wp_callV (t := 30) [] F dX9_either5_27 k_X9_both5 v_X9_both5 ml_X9_247 rfl rfl rfl rfl (Nat.le_of_ble_eq_true rfl) (by decide) (m_30 (by omega)) (hO im2 lm2 nm (adv b n r.1) (-1) h2 (((hag2.trans hr.2.2.1) 30 0 27 (by omega)).trans h27) (hnm.ag (hag2.trans hr.2.2.1))) rfl (kI ?_)
        rintro x27 m' ⟨im3, lm3, h3, rfl⟩
        rw [stP_y] at h3
        refine q_istore_n (t := 31) F dX9_either5_30 rfl (by decide) rfl rfl ?_
        refine q_iload_n (t := 32) F dX9_either5_31 rfl rfl rfl ?_
        refine q_if_ne (t := 35) (u := 39) F dX9_either5_32 (by exact hrv) (by decide) rfl (fun c32 => ?_) (fun c32 => ?_)
        · refine q_iconst (t := 40) F dX9_either5_39 rfl ?_
          refine q_goto (t := 44) F dX9_either5_40 (by decide) ?_
          refine q_istore_n (t := 45) F dX9_either5_44 rfl (by decide) rfl rfl ?_
          refine q_goto (t := 5) F dX9_either5_45 (by decide) ?_
          refine wp_less 2 ?_
          refine ih5 (k - 1) (lpS b n opO (bothL b n 0) r) _ im3 lm3 (by omega) ?_ ?_ (RPO_step hr hq.1 hag2 hlg2 h3 (by constructor <;> omega) (by rw [hop]; refine Eq.trans ?_ (bi2_15 _ _); first | exact (if_pos (by omega)).symm | exact (if_neg (by omega)).symm))
          · rw [hlp]
            obtain ⟨k', hk'⟩ : ∃ k', k = k' + 1 := ⟨k - 1, by omega⟩
            rw [hk', loopP_y2 hq.1 (by rw [hop]; decide)]
            rfl
          · have := hgd.1
            show n - (bothL b n 0 (adv b n r.1)).1 ≤ k - 1
            omega
        · refine q_iload_n (t := 36) F dX9_either5_35 rfl rfl rfl ?_
          refine q_if_eq (t := 39) (u := 43) F dX9_either5_36 (by exact h3.1) (by decide) rfl (fun c36 => ?_) (fun c36 => ?_)
          · refine q_iconst (t := 44) F dX9_either5_43 rfl ?_
            refine q_istore_n (t := 45) F dX9_either5_44 rfl (by decide) rfl rfl ?_
            refine q_goto (t := 5) F dX9_either5_45 (by decide) ?_
            refine wp_less 2 ?_
            refine ih5 (k - 1) (lpS b n opO (bothL b n 0) r) _ im3 lm3 (by omega) ?_ ?_ (RPO_step hr hq.1 hag2 hlg2 h3 (by constructor <;> omega) (by rw [hop]; refine Eq.trans ?_ (bi2_15 _ _); first | exact (if_pos (by omega)).symm | exact (if_neg (by omega)).symm))
            · rw [hlp]
              obtain ⟨k', hk'⟩ : ∃ k', k = k' + 1 := ⟨k - 1, by omega⟩
              rw [hk', loopP_y2 hq.1 (by rw [hop]; decide)]
              rfl
            · have := hgd.1
              show n - (bothL b n 0 (adv b n r.1)).1 ≤ k - 1
              omega
          · refine q_iconst (t := 40) F dX9_either5_39 rfl ?_
            refine q_goto (t := 44) F dX9_either5_40 (by decide) ?_
            refine q_istore_n (t := 45) F dX9_either5_44 rfl (by decide) rfl rfl ?_
            refine q_goto (t := 5) F dX9_either5_45 (by decide) ?_
            refine wp_less 2 ?_
            refine ih5 (k - 1) (lpS b n opO (bothL b n 0) r) _ im3 lm3 (by omega) ?_ ?_ (RPO_step hr hq.1 hag2 hlg2 h3 (by constructor <;> omega) (by rw [hop]; refine Eq.trans ?_ (bi2_15 _ _); first | exact (if_pos (by omega)).symm | exact (if_neg (by omega)).symm))
            · rw [hlp]
              obtain ⟨k', hk'⟩ : ∃ k', k = k' + 1 := ⟨k - 1, by omega⟩
              rw [hk', loopP_y2 hq.1 (by rw [hop]; decide)]
              rfl
            · have := hgd.1
              show n - (bothL b n 0 (adv b n r.1)).1 ≤ k - 1
              omega
  refine wp_less 2 ?_
  exact L5 _ 160 _ _ _ _ (Nat.lt_succ_self _) rfl (by omega) h0
end
section
/-! the reference: a denial -/

set_option maxHeartbeats 4000000 in
theorem c_X9_not5 (l : Launch) (G : GS)  (bt rt : Nat)  (b : Nat → Int) (n : Nat) (hb : byt b n) (hS : RT l G bt rt b n yX9_added5 Y_X9_added5 (sumL b n 0) 5) (im lm : IM) (nm : Nat → Int) (p : Nat) (f : Int) (h : PQ b n im lm p f) (h27 : im 30 0 27 = ((5 : Nat) : Int)) (hnm : NMr im nm) : Cn l (XR G) yX9_not5 Y_X9_not5 [vR 30 0] (im, rs bt rt, lm) (pI fun x m' => ∃ im' lm', RPO b n im lm nm (stP (denL b n 0) p f) x im' lm' ∧ m' = (im', rs bt rt, lm')) := by
  refine cn_of (by decide) (okR G) rfl (Nat.le_of_ble_eq_true rfl) ?_
  intro M ad hMl F
  subst hMl
  have hn := hb.1
  have hR := h.2.1
  have hbb := h.b01
  have hti0 := tk_in b n p
  refine wp_pad 3 ?_
  show Wp M (XR G) ad Y_X9_not5 (pI fun x m' => ∃ im' lm', RPO b n im lm nm (stP (denL b n 0) p f) x im' lm' ∧ m' = (im', rs bt rt, lm')) 0 [some (vR 30 0), none, none, none] [] (im, rs bt rt, lm)
  refine q_aload_n (t := 1) F dX9_not5_0 rfl rfl rfl ?_
  refine q_bipush (t := 3) F dX9_not5_1 (by decide) rfl ?_
  refine q_bipush (t := 5) F dX9_not5_3 (by decide) rfl ?_
  refine q_bipush (t := 7) F dX9_not5_5 (by decide) rfl ?_
  refine q_iconst (t := 8) F dX9_not5_7 rfl ?_
  refine q_iconst (t := 9) F dX9_not5_8 rfl ?_
  refine q_iconst (t := 10) F dX9_not5_9 rfl ?_
  refine q_iconst (t := 11) F dX9_not5_10 rfl ?_
  refine q_iconst (t := 12) F dX9_not5_11 rfl ?_
  refine wp_callV (t := 15) [_, _, _, _, _, _, _, _] F dX9_not5_12 k_X9_isWord_ v_X9_isWord_ ml_X9_199 rfl rfl rfl rfl (Nat.le_of_ble_eq_true rfl) (by decide) (m_30 (by omega)) (c_isKey _ G im bt rt lm b n hb p f h 11 (by omega) (by omega) 9 (by omega) _ _ _ _ _ _ _ _ (by decide)) rfl (kI ?_)
  rintro x12 m' ⟨hx12, rfl⟩
  have hx12 := if01 hx12
  refine q_if_eq (t := 18) (u := 25) F dX9_not5_15 (by first | exact hR _ _ _ | (constructor <;> omega)) (by decide) rfl (fun c15 => ?_) (fun c15 => ?_)
  · refine q_aload_n (t := 26) F dX9_not5_25 rfl rfl rfl ?_
    refine wp_callV (t := 29) [] F dX9_not5_26 k_X9_added5 v_X9_added5 ml_X9_239 rfl rfl rfl rfl (Nat.le_of_ble_eq_true rfl) (by decide) (m_30 (by omega)) (hS im lm nm p f h h27 hnm) rfl (kI ?_)
    rintro xA m' ⟨im4, lm4, h4, rfl⟩
    have hn9 : f = -1 → tk b n p ≠ 9 := by omega
    obtain ⟨r, hrd⟩ : ∃ r, r = stP (sumL b n 0) p f := ⟨_, rfl⟩
    rw [← hrd] at h4
    have hb4 := h4.2.1.b01
    have hti := tk_in b n r.1
    have hra := h4.1
    have hra1 := hra.1
    have hra2 := hra.2
    refine q_istore_n (t := 30) F dX9_not5_29 rfl (by decide) rfl rfl ?_
    refine q_aload_n (t := 31) F dX9_not5_30 rfl rfl rfl ?_
    refine q_bipush (t := 33) F dX9_not5_31 (by decide) rfl ?_
    refine wp_callV (t := 36) [_] F dX9_not5_33 k_X9_isSign v_X9_isSign ml_X9_220 rfl rfl rfl rfl (Nat.le_of_ble_eq_true rfl) (by decide) (m_30 (by omega)) (c_X9_isSign _ G im4 bt rt lm4 b n hb r.1 r.2.1 h4.2.1 60 (by omega) (by omega)) rfl (kI ?_)
    rintro x33 m' ⟨hx33, rfl⟩
    have hx33 := if01 hx33
    refine q_if_ne (t := 39) (u := 50) F dX9_not5_36 (by first | exact hR _ _ _ | (constructor <;> omega)) (by decide) rfl (fun c36 => ?_) (fun c36 => ?_)
    · have hq : r.2.1 = -1 ∧ (tk b n r.1 = 60 ∨ tk b n r.1 = 61) := by omega
      have hlt : r.1 < n := tk_lt (b := b) (by omega)
      have hgd := PG_sumL b n 0 (adv b n r.1) (adv_in hlt).2
      have h11 := h4.2.1
      rw [hq.1] at h11
      have hw1 : lm4 30 0 26 = tk b n r.1 := ((TK_sign (h11.1.1 rfl).2.2 (s := tk b n r.1) (by omega)).mpr rfl).2
      have hcm : cmpI (lm4 30 0 26) 60 = 0 ↔ lm4 30 0 26 = 60 := cmpI_eq
      refine q_aload_n (t := 51) F dX9_not5_50 rfl rfl rfl ?_
      refine g_X9_175 (t := 54) F dX9_not5_51 rfl rfl ?_
      try simp only [up_app, row_app, scr_app, cpy_app, Nat.reduceEqDiff, Int.reduceToNat, Int.toNat_natCast, and_true, true_and, and_false, false_and, and_self, reduceIte]
      refine q_ldc2 (t := 57) (x := 60) F dX9_not5_54 kl_X9_242 (by decide) rfl ?_
      refine q_lcmp (t := 58) F dX9_not5_57 ⟨by omega, by omega⟩ ⟨by omega, by omega⟩ rfl ?_
      refine q_if_ne (t := 61) (u := 65) F dX9_not5_58 (by exact cmpI_ri _ _) (by decide) rfl (fun c58 => ?_) (fun c58 => ?_)
      · refine q_iconst (t := 66) F dX9_not5_65 rfl ?_
        refine q_istore_n (t := 67) F dX9_not5_66 rfl (by decide) rfl rfl ?_
        refine q_aload_n (t := 68) F dX9_not5_67 rfl rfl rfl ?_
        refine wp_callV (t := 71) [] F dX9_not5_68 k_X9_next v_X9_next ml_X9_196 rfl rfl rfl rfl (Nat.le_of_ble_eq_true rfl) (by decide) (m_30 (by omega)) (c_nextQ _ G im4 bt rt lm4 b n hb r.1 h11 hlt (by omega)) rfl (kV ?_)
        rintro m' ⟨im5, lm5, h5, hag5, hlg5, rfl⟩
        refine q_aload_n (t := 72) F dX9_not5_71 rfl rfl rfl ?_
        refine wp_callV (t := 75) [] F dX9_not5_72 k_X9_added5 v_X9_added5 ml_X9_239 rfl rfl rfl rfl (Nat.le_of_ble_eq_true rfl) (by decide) (m_30 (by omega)) (hS im5 lm5 nm (adv b n r.1) (-1) h5 (((hag5.trans h4.2.2.1) 30 0 27 (by omega)).trans h27) (hnm.ag (hag5.trans h4.2.2.1))) rfl (kI ?_)
        rintro xB m' ⟨im6, lm6, h6, rfl⟩
        rw [stP_y] at h6
        have hrb := h6.1
        have hrb1 := hrb.1
        have hrb2 := hrb.2
        refine q_istore_n (t := 76) F dX9_not5_75 rfl (by decide) rfl rfl ?_
        refine q_iload_n (t := 77) F dX9_not5_76 rfl rfl rfl ?_
        refine q_if_eq (t := 80) (u := 88) F dX9_not5_77 (by first | exact hR _ _ _ | (constructor <;> omega)) (by decide) rfl (fun c77 => ?_) (fun c77 => ?_)
        · refine q_iload_n (t := 89) F dX9_not5_88 rfl rfl rfl ?_
          refine q_iload_n (t := 90) F dX9_not5_89 rfl rfl rfl ?_
          refine q_icmp_ne (t := 93) (u := 97) F dX9_not5_90 (by exact hra) (by exact hrb) (by decide) rfl (fun c90 => ?_) (fun c90 => ?_)
          · refine q_iconst (t := 98) F dX9_not5_97 rfl ?_
            refine q_iret F dX9_not5_98 rfl ?_
            first
              | (exfalso; omega)
              | (have hop : opC (tk b n r.1) = -12 := by unfold opC; rw [if_pos (by omega)]
                 refine ⟨_, rfl, im6, lm6, ?_, rfl⟩
                 rw [den_oth hn9, ← hrd, loopP_y2 (f := 0) hq.1 (by rw [hop]; decide)]
                 refine RPO_step h4 hq.1 hag5 hlg5 h6 (by constructor <;> omega) ?_
                 rw [hop]
                 refine Eq.trans ?_ (bi2_12 _ _)
                 first
                   | exact (if_pos (by omega)).symm
                   | exact (if_neg (by omega)).symm)
              | (have hop : opC (tk b n r.1) = -13 := by unfold opC; rw [if_neg (by omega), if_pos (by omega)]
                 refine ⟨_, rfl, im6, lm6, ?_, rfl⟩
                 rw [den_oth hn9, ← hrd, loopP_y2 (f := 0) hq.1 (by rw [hop]; decide)]
                 refine RPO_step h4 hq.1 hag5 hlg5 h6 (by constructor <;> omega) ?_
                 rw [hop]
                 refine Eq.trans ?_ (bi2_13 _ _)
                 first
                   | exact (if_pos (by omega)).symm
                   | exact (if_neg (by omega)).symm)
          · refine q_iconst (t := 94) F dX9_not5_93 rfl ?_
            refine q_goto (t := 98) F dX9_not5_94 (by decide) ?_
            refine q_iret F dX9_not5_98 rfl ?_
            first
              | (exfalso; omega)
              | (have hop : opC (tk b n r.1) = -12 := by unfold opC; rw [if_pos (by omega)]
                 refine ⟨_, rfl, im6, lm6, ?_, rfl⟩
                 rw [den_oth hn9, ← hrd, loopP_y2 (f := 0) hq.1 (by rw [hop]; decide)]
                 refine RPO_step h4 hq.1 hag5 hlg5 h6 (by constructor <;> omega) ?_
                 rw [hop]
                 refine Eq.trans ?_ (bi2_12 _ _)
                 first
                   | exact (if_pos (by omega)).symm
                   | exact (if_neg (by omega)).symm)
              | (have hop : opC (tk b n r.1) = -13 := by unfold opC; rw [if_neg (by omega), if_pos (by omega)]
                 refine ⟨_, rfl, im6, lm6, ?_, rfl⟩
                 rw [den_oth hn9, ← hrd, loopP_y2 (f := 0) hq.1 (by rw [hop]; decide)]
                 refine RPO_step h4 hq.1 hag5 hlg5 h6 (by constructor <;> omega) ?_
                 rw [hop]
                 refine Eq.trans ?_ (bi2_13 _ _)
                 first
                   | exact (if_pos (by omega)).symm
                   | exact (if_neg (by omega)).symm)
        · refine q_iload_n (t := 81) F dX9_not5_80 rfl rfl rfl ?_
          refine q_iload_n (t := 82) F dX9_not5_81 rfl rfl rfl ?_
          refine q_icmp_ge (t := 85) (u := 97) F dX9_not5_82 (by exact hra) (by exact hrb) (by decide) rfl (fun c82 => ?_) (fun c82 => ?_)
          · refine q_iconst (t := 98) F dX9_not5_97 rfl ?_
            refine q_iret F dX9_not5_98 rfl ?_
            first
              | (exfalso; omega)
              | (have hop : opC (tk b n r.1) = -12 := by unfold opC; rw [if_pos (by omega)]
                 refine ⟨_, rfl, im6, lm6, ?_, rfl⟩
                 rw [den_oth hn9, ← hrd, loopP_y2 (f := 0) hq.1 (by rw [hop]; decide)]
                 refine RPO_step h4 hq.1 hag5 hlg5 h6 (by constructor <;> omega) ?_
                 rw [hop]
                 refine Eq.trans ?_ (bi2_12 _ _)
                 first
                   | exact (if_pos (by omega)).symm
                   | exact (if_neg (by omega)).symm)
              | (have hop : opC (tk b n r.1) = -13 := by unfold opC; rw [if_neg (by omega), if_pos (by omega)]
                 refine ⟨_, rfl, im6, lm6, ?_, rfl⟩
                 rw [den_oth hn9, ← hrd, loopP_y2 (f := 0) hq.1 (by rw [hop]; decide)]
                 refine RPO_step h4 hq.1 hag5 hlg5 h6 (by constructor <;> omega) ?_
                 rw [hop]
                 refine Eq.trans ?_ (bi2_13 _ _)
                 first
                   | exact (if_pos (by omega)).symm
                   | exact (if_neg (by omega)).symm)
          · refine q_goto (t := 93) F dX9_not5_85 (by decide) ?_
            refine q_iconst (t := 94) F dX9_not5_93 rfl ?_
            refine q_goto (t := 98) F dX9_not5_94 (by decide) ?_
            refine q_iret F dX9_not5_98 rfl ?_
            first
              | (exfalso; omega)
              | (have hop : opC (tk b n r.1) = -12 := by unfold opC; rw [if_pos (by omega)]
                 refine ⟨_, rfl, im6, lm6, ?_, rfl⟩
                 rw [den_oth hn9, ← hrd, loopP_y2 (f := 0) hq.1 (by rw [hop]; decide)]
                 refine RPO_step h4 hq.1 hag5 hlg5 h6 (by constructor <;> omega) ?_
                 rw [hop]
                 refine Eq.trans ?_ (bi2_12 _ _)
                 first
                   | exact (if_pos (by omega)).symm
                   | exact (if_neg (by omega)).symm)
              | (have hop : opC (tk b n r.1) = -13 := by unfold opC; rw [if_neg (by omega), if_pos (by omega)]
                 refine ⟨_, rfl, im6, lm6, ?_, rfl⟩
                 rw [den_oth hn9, ← hrd, loopP_y2 (f := 0) hq.1 (by rw [hop]; decide)]
                 refine RPO_step h4 hq.1 hag5 hlg5 h6 (by constructor <;> omega) ?_
                 rw [hop]
                 refine Eq.trans ?_ (bi2_13 _ _)
                 first
                   | exact (if_pos (by omega)).symm
                   | exact (if_neg (by omega)).symm)
      · refine q_iconst (t := 62) F dX9_not5_61 rfl ?_
        refine q_goto (t := 66) F dX9_not5_62 (by decide) ?_
        refine q_istore_n (t := 67) F dX9_not5_66 rfl (by decide) rfl rfl ?_
        refine q_aload_n (t := 68) F dX9_not5_67 rfl rfl rfl ?_
        refine wp_callV (t := 71) [] F dX9_not5_68 k_X9_next v_X9_next ml_X9_196 rfl rfl rfl rfl (Nat.le_of_ble_eq_true rfl) (by decide) (m_30 (by omega)) (c_nextQ _ G im4 bt rt lm4 b n hb r.1 h11 hlt (by omega)) rfl (kV ?_)
        rintro m' ⟨im5, lm5, h5, hag5, hlg5, rfl⟩
        refine q_aload_n (t := 72) F dX9_not5_71 rfl rfl rfl ?_
        refine wp_callV (t := 75) [] F dX9_not5_72 k_X9_added5 v_X9_added5 ml_X9_239 rfl rfl rfl rfl (Nat.le_of_ble_eq_true rfl) (by decide) (m_30 (by omega)) (hS im5 lm5 nm (adv b n r.1) (-1) h5 (((hag5.trans h4.2.2.1) 30 0 27 (by omega)).trans h27) (hnm.ag (hag5.trans h4.2.2.1))) rfl (kI ?_)
        rintro xB m' ⟨im6, lm6, h6, rfl⟩
        rw [stP_y] at h6
        have hrb := h6.1
        have hrb1 := hrb.1
        have hrb2 := hrb.2
        refine q_istore_n (t := 76) F dX9_not5_75 rfl (by decide) rfl rfl ?_
        refine q_iload_n (t := 77) F dX9_not5_76 rfl rfl rfl ?_
        refine q_if_eq (t := 80) (u := 88) F dX9_not5_77 (by first | exact hR _ _ _ | (constructor <;> omega)) (by decide) rfl (fun c77 => ?_) (fun c77 => ?_)
        · refine q_iload_n (t := 89) F dX9_not5_88 rfl rfl rfl ?_
          refine q_iload_n (t := 90) F dX9_not5_89 rfl rfl rfl ?_
          refine q_icmp_ne (t := 93) (u := 97) F dX9_not5_90 (by exact hra) (by exact hrb) (by decide) rfl (fun c90 => ?_) (fun c90 => ?_)
          · refine q_iconst (t := 98) F dX9_not5_97 rfl ?_
            refine q_iret F dX9_not5_98 rfl ?_
            first
              | (exfalso; omega)
              | (have hop : opC (tk b n r.1) = -12 := by unfold opC; rw [if_pos (by omega)]
                 refine ⟨_, rfl, im6, lm6, ?_, rfl⟩
                 rw [den_oth hn9, ← hrd, loopP_y2 (f := 0) hq.1 (by rw [hop]; decide)]
                 refine RPO_step h4 hq.1 hag5 hlg5 h6 (by constructor <;> omega) ?_
                 rw [hop]
                 refine Eq.trans ?_ (bi2_12 _ _)
                 first
                   | exact (if_pos (by omega)).symm
                   | exact (if_neg (by omega)).symm)
              | (have hop : opC (tk b n r.1) = -13 := by unfold opC; rw [if_neg (by omega), if_pos (by omega)]
                 refine ⟨_, rfl, im6, lm6, ?_, rfl⟩
                 rw [den_oth hn9, ← hrd, loopP_y2 (f := 0) hq.1 (by rw [hop]; decide)]
                 refine RPO_step h4 hq.1 hag5 hlg5 h6 (by constructor <;> omega) ?_
                 rw [hop]
                 refine Eq.trans ?_ (bi2_13 _ _)
                 first
                   | exact (if_pos (by omega)).symm
                   | exact (if_neg (by omega)).symm)
          · refine q_iconst (t := 94) F dX9_not5_93 rfl ?_
            refine q_goto (t := 98) F dX9_not5_94 (by decide) ?_
            refine q_iret F dX9_not5_98 rfl ?_
            first
              | (exfalso; omega)
              | (have hop : opC (tk b n r.1) = -12 := by unfold opC; rw [if_pos (by omega)]
                 refine ⟨_, rfl, im6, lm6, ?_, rfl⟩
                 rw [den_oth hn9, ← hrd, loopP_y2 (f := 0) hq.1 (by rw [hop]; decide)]
                 refine RPO_step h4 hq.1 hag5 hlg5 h6 (by constructor <;> omega) ?_
                 rw [hop]
                 refine Eq.trans ?_ (bi2_12 _ _)
                 first
                   | exact (if_pos (by omega)).symm
                   | exact (if_neg (by omega)).symm)
              | (have hop : opC (tk b n r.1) = -13 := by unfold opC; rw [if_neg (by omega), if_pos (by omega)]
                 refine ⟨_, rfl, im6, lm6, ?_, rfl⟩
                 rw [den_oth hn9, ← hrd, loopP_y2 (f := 0) hq.1 (by rw [hop]; decide)]
                 refine RPO_step h4 hq.1 hag5 hlg5 h6 (by constructor <;> omega) ?_
                 rw [hop]
                 refine Eq.trans ?_ (bi2_13 _ _)
                 first
                   | exact (if_pos (by omega)).symm
                   | exact (if_neg (by omega)).symm)
        · refine q_iload_n (t := 81) F dX9_not5_80 rfl rfl rfl ?_
          refine q_iload_n (t := 82) F dX9_not5_81 rfl rfl rfl ?_
          refine q_icmp_ge (t := 85) (u := 97) F dX9_not5_82 (by exact hra) (by exact hrb) (by decide) rfl (fun c82 => ?_) (fun c82 => ?_)
          · refine q_iconst (t := 98) F dX9_not5_97 rfl ?_
            refine q_iret F dX9_not5_98 rfl ?_
            first
              | (exfalso; omega)
              | (have hop : opC (tk b n r.1) = -12 := by unfold opC; rw [if_pos (by omega)]
                 refine ⟨_, rfl, im6, lm6, ?_, rfl⟩
                 rw [den_oth hn9, ← hrd, loopP_y2 (f := 0) hq.1 (by rw [hop]; decide)]
                 refine RPO_step h4 hq.1 hag5 hlg5 h6 (by constructor <;> omega) ?_
                 rw [hop]
                 refine Eq.trans ?_ (bi2_12 _ _)
                 first
                   | exact (if_pos (by omega)).symm
                   | exact (if_neg (by omega)).symm)
              | (have hop : opC (tk b n r.1) = -13 := by unfold opC; rw [if_neg (by omega), if_pos (by omega)]
                 refine ⟨_, rfl, im6, lm6, ?_, rfl⟩
                 rw [den_oth hn9, ← hrd, loopP_y2 (f := 0) hq.1 (by rw [hop]; decide)]
                 refine RPO_step h4 hq.1 hag5 hlg5 h6 (by constructor <;> omega) ?_
                 rw [hop]
                 refine Eq.trans ?_ (bi2_13 _ _)
                 first
                   | exact (if_pos (by omega)).symm
                   | exact (if_neg (by omega)).symm)
          · refine q_goto (t := 93) F dX9_not5_85 (by decide) ?_
            refine q_iconst (t := 94) F dX9_not5_93 rfl ?_
            refine q_goto (t := 98) F dX9_not5_94 (by decide) ?_
            refine q_iret F dX9_not5_98 rfl ?_
            first
              | (exfalso; omega)
              | (have hop : opC (tk b n r.1) = -12 := by unfold opC; rw [if_pos (by omega)]
                 refine ⟨_, rfl, im6, lm6, ?_, rfl⟩
                 rw [den_oth hn9, ← hrd, loopP_y2 (f := 0) hq.1 (by rw [hop]; decide)]
                 refine RPO_step h4 hq.1 hag5 hlg5 h6 (by constructor <;> omega) ?_
                 rw [hop]
                 refine Eq.trans ?_ (bi2_12 _ _)
                 first
                   | exact (if_pos (by omega)).symm
                   | exact (if_neg (by omega)).symm)
              | (have hop : opC (tk b n r.1) = -13 := by unfold opC; rw [if_neg (by omega), if_pos (by omega)]
                 refine ⟨_, rfl, im6, lm6, ?_, rfl⟩
                 rw [den_oth hn9, ← hrd, loopP_y2 (f := 0) hq.1 (by rw [hop]; decide)]
                 refine RPO_step h4 hq.1 hag5 hlg5 h6 (by constructor <;> omega) ?_
                 rw [hop]
                 refine Eq.trans ?_ (bi2_13 _ _)
                 first
                   | exact (if_pos (by omega)).symm
                   | exact (if_neg (by omega)).symm)
    · refine q_aload_n (t := 40) F dX9_not5_39 rfl rfl rfl ?_
      refine q_bipush (t := 42) F dX9_not5_40 (by decide) rfl ?_
      refine wp_callV (t := 45) [_] F dX9_not5_42 k_X9_isSign v_X9_isSign ml_X9_220 rfl rfl rfl rfl (Nat.le_of_ble_eq_true rfl) (by decide) (m_30 (by omega)) (c_X9_isSign _ G im4 bt rt lm4 b n hb r.1 r.2.1 h4.2.1 61 (by omega) (by omega)) rfl (kI ?_)
      rintro x42 m' ⟨hx42, rfl⟩
      have hx42 := if01 hx42
      refine q_if_ne (t := 48) (u := 50) F dX9_not5_45 (by first | exact hR _ _ _ | (constructor <;> omega)) (by decide) rfl (fun c45 => ?_) (fun c45 => ?_)
      · have hq : r.2.1 = -1 ∧ (tk b n r.1 = 60 ∨ tk b n r.1 = 61) := by omega
        have hlt : r.1 < n := tk_lt (b := b) (by omega)
        have hgd := PG_sumL b n 0 (adv b n r.1) (adv_in hlt).2
        have h11 := h4.2.1
        rw [hq.1] at h11
        have hw1 : lm4 30 0 26 = tk b n r.1 := ((TK_sign (h11.1.1 rfl).2.2 (s := tk b n r.1) (by omega)).mpr rfl).2
        have hcm : cmpI (lm4 30 0 26) 60 = 0 ↔ lm4 30 0 26 = 60 := cmpI_eq
        refine q_aload_n (t := 51) F dX9_not5_50 rfl rfl rfl ?_
        refine g_X9_175 (t := 54) F dX9_not5_51 rfl rfl ?_
        try simp only [up_app, row_app, scr_app, cpy_app, Nat.reduceEqDiff, Int.reduceToNat, Int.toNat_natCast, and_true, true_and, and_false, false_and, and_self, reduceIte]
        refine q_ldc2 (t := 57) (x := 60) F dX9_not5_54 kl_X9_242 (by decide) rfl ?_
        refine q_lcmp (t := 58) F dX9_not5_57 ⟨by omega, by omega⟩ ⟨by omega, by omega⟩ rfl ?_
        refine q_if_ne (t := 61) (u := 65) F dX9_not5_58 (by exact cmpI_ri _ _) (by decide) rfl (fun c58 => ?_) (fun c58 => ?_)
        · refine q_iconst (t := 66) F dX9_not5_65 rfl ?_
          refine q_istore_n (t := 67) F dX9_not5_66 rfl (by decide) rfl rfl ?_
          refine q_aload_n (t := 68) F dX9_not5_67 rfl rfl rfl ?_
          refine wp_callV (t := 71) [] F dX9_not5_68 k_X9_next v_X9_next ml_X9_196 rfl rfl rfl rfl (Nat.le_of_ble_eq_true rfl) (by decide) (m_30 (by omega)) (c_nextQ _ G im4 bt rt lm4 b n hb r.1 h11 hlt (by omega)) rfl (kV ?_)
          rintro m' ⟨im5, lm5, h5, hag5, hlg5, rfl⟩
          refine q_aload_n (t := 72) F dX9_not5_71 rfl rfl rfl ?_
          refine wp_callV (t := 75) [] F dX9_not5_72 k_X9_added5 v_X9_added5 ml_X9_239 rfl rfl rfl rfl (Nat.le_of_ble_eq_true rfl) (by decide) (m_30 (by omega)) (hS im5 lm5 nm (adv b n r.1) (-1) h5 (((hag5.trans h4.2.2.1) 30 0 27 (by omega)).trans h27) (hnm.ag (hag5.trans h4.2.2.1))) rfl (kI ?_)
          rintro xB m' ⟨im6, lm6, h6, rfl⟩
          rw [stP_y] at h6
          have hrb := h6.1
          have hrb1 := hrb.1
          have hrb2 := hrb.2
          refine q_istore_n (t := 76) F dX9_not5_75 rfl (by decide) rfl rfl ?_
          refine q_iload_n (t := 77) F dX9_not5_76 rfl rfl rfl ?_
          refine q_if_eq (t := 80) (u := 88) F dX9_not5_77 (by first | exact hR _ _ _ | (constructor <;> omega)) (by decide) rfl (fun c77 => ?_) (fun c77 => ?_)
          · refine q_iload_n (t := 89) F dX9_not5_88 rfl rfl rfl ?_
            refine q_iload_n (t := 90) F dX9_not5_89 rfl rfl rfl ?_
            refine q_icmp_ne (t := 93) (u := 97) F dX9_not5_90 (by exact hra) (by exact hrb) (by decide) rfl (fun c90 => ?_) (fun c90 => ?_)
            · refine q_iconst (t := 98) F dX9_not5_97 rfl ?_
              refine q_iret F dX9_not5_98 rfl ?_
              first
                | (exfalso; omega)
                | (have hop : opC (tk b n r.1) = -12 := by unfold opC; rw [if_pos (by omega)]
                   refine ⟨_, rfl, im6, lm6, ?_, rfl⟩
                   rw [den_oth hn9, ← hrd, loopP_y2 (f := 0) hq.1 (by rw [hop]; decide)]
                   refine RPO_step h4 hq.1 hag5 hlg5 h6 (by constructor <;> omega) ?_
                   rw [hop]
                   refine Eq.trans ?_ (bi2_12 _ _)
                   first
                     | exact (if_pos (by omega)).symm
                     | exact (if_neg (by omega)).symm)
                | (have hop : opC (tk b n r.1) = -13 := by unfold opC; rw [if_neg (by omega), if_pos (by omega)]
                   refine ⟨_, rfl, im6, lm6, ?_, rfl⟩
                   rw [den_oth hn9, ← hrd, loopP_y2 (f := 0) hq.1 (by rw [hop]; decide)]
                   refine RPO_step h4 hq.1 hag5 hlg5 h6 (by constructor <;> omega) ?_
                   rw [hop]
                   refine Eq.trans ?_ (bi2_13 _ _)
                   first
                     | exact (if_pos (by omega)).symm
                     | exact (if_neg (by omega)).symm)
            · refine q_iconst (t := 94) F dX9_not5_93 rfl ?_
              refine q_goto (t := 98) F dX9_not5_94 (by decide) ?_
              refine q_iret F dX9_not5_98 rfl ?_
              first
                | (exfalso; omega)
                | (have hop : opC (tk b n r.1) = -12 := by unfold opC; rw [if_pos (by omega)]
                   refine ⟨_, rfl, im6, lm6, ?_, rfl⟩
                   rw [den_oth hn9, ← hrd, loopP_y2 (f := 0) hq.1 (by rw [hop]; decide)]
                   refine RPO_step h4 hq.1 hag5 hlg5 h6 (by constructor <;> omega) ?_
                   rw [hop]
                   refine Eq.trans ?_ (bi2_12 _ _)
                   first
                     | exact (if_pos (by omega)).symm
                     | exact (if_neg (by omega)).symm)
                | (have hop : opC (tk b n r.1) = -13 := by unfold opC; rw [if_neg (by omega), if_pos (by omega)]
                   refine ⟨_, rfl, im6, lm6, ?_, rfl⟩
                   rw [den_oth hn9, ← hrd, loopP_y2 (f := 0) hq.1 (by rw [hop]; decide)]
                   refine RPO_step h4 hq.1 hag5 hlg5 h6 (by constructor <;> omega) ?_
                   rw [hop]
                   refine Eq.trans ?_ (bi2_13 _ _)
                   first
                     | exact (if_pos (by omega)).symm
                     | exact (if_neg (by omega)).symm)
          · refine q_iload_n (t := 81) F dX9_not5_80 rfl rfl rfl ?_
            refine q_iload_n (t := 82) F dX9_not5_81 rfl rfl rfl ?_
            refine q_icmp_ge (t := 85) (u := 97) F dX9_not5_82 (by exact hra) (by exact hrb) (by decide) rfl (fun c82 => ?_) (fun c82 => ?_)
            · refine q_iconst (t := 98) F dX9_not5_97 rfl ?_
              refine q_iret F dX9_not5_98 rfl ?_
              first
                | (exfalso; omega)
                | (have hop : opC (tk b n r.1) = -12 := by unfold opC; rw [if_pos (by omega)]
                   refine ⟨_, rfl, im6, lm6, ?_, rfl⟩
                   rw [den_oth hn9, ← hrd, loopP_y2 (f := 0) hq.1 (by rw [hop]; decide)]
                   refine RPO_step h4 hq.1 hag5 hlg5 h6 (by constructor <;> omega) ?_
                   rw [hop]
                   refine Eq.trans ?_ (bi2_12 _ _)
                   first
                     | exact (if_pos (by omega)).symm
                     | exact (if_neg (by omega)).symm)
                | (have hop : opC (tk b n r.1) = -13 := by unfold opC; rw [if_neg (by omega), if_pos (by omega)]
                   refine ⟨_, rfl, im6, lm6, ?_, rfl⟩
                   rw [den_oth hn9, ← hrd, loopP_y2 (f := 0) hq.1 (by rw [hop]; decide)]
                   refine RPO_step h4 hq.1 hag5 hlg5 h6 (by constructor <;> omega) ?_
                   rw [hop]
                   refine Eq.trans ?_ (bi2_13 _ _)
                   first
                     | exact (if_pos (by omega)).symm
                     | exact (if_neg (by omega)).symm)
            · refine q_goto (t := 93) F dX9_not5_85 (by decide) ?_
              refine q_iconst (t := 94) F dX9_not5_93 rfl ?_
              refine q_goto (t := 98) F dX9_not5_94 (by decide) ?_
              refine q_iret F dX9_not5_98 rfl ?_
              first
                | (exfalso; omega)
                | (have hop : opC (tk b n r.1) = -12 := by unfold opC; rw [if_pos (by omega)]
                   refine ⟨_, rfl, im6, lm6, ?_, rfl⟩
                   rw [den_oth hn9, ← hrd, loopP_y2 (f := 0) hq.1 (by rw [hop]; decide)]
                   refine RPO_step h4 hq.1 hag5 hlg5 h6 (by constructor <;> omega) ?_
                   rw [hop]
                   refine Eq.trans ?_ (bi2_12 _ _)
                   first
                     | exact (if_pos (by omega)).symm
                     | exact (if_neg (by omega)).symm)
                | (have hop : opC (tk b n r.1) = -13 := by unfold opC; rw [if_neg (by omega), if_pos (by omega)]
                   refine ⟨_, rfl, im6, lm6, ?_, rfl⟩
                   rw [den_oth hn9, ← hrd, loopP_y2 (f := 0) hq.1 (by rw [hop]; decide)]
                   refine RPO_step h4 hq.1 hag5 hlg5 h6 (by constructor <;> omega) ?_
                   rw [hop]
                   refine Eq.trans ?_ (bi2_13 _ _)
                   first
                     | exact (if_pos (by omega)).symm
                     | exact (if_neg (by omega)).symm)
        · refine q_iconst (t := 62) F dX9_not5_61 rfl ?_
          refine q_goto (t := 66) F dX9_not5_62 (by decide) ?_
          refine q_istore_n (t := 67) F dX9_not5_66 rfl (by decide) rfl rfl ?_
          refine q_aload_n (t := 68) F dX9_not5_67 rfl rfl rfl ?_
          refine wp_callV (t := 71) [] F dX9_not5_68 k_X9_next v_X9_next ml_X9_196 rfl rfl rfl rfl (Nat.le_of_ble_eq_true rfl) (by decide) (m_30 (by omega)) (c_nextQ _ G im4 bt rt lm4 b n hb r.1 h11 hlt (by omega)) rfl (kV ?_)
          rintro m' ⟨im5, lm5, h5, hag5, hlg5, rfl⟩
          refine q_aload_n (t := 72) F dX9_not5_71 rfl rfl rfl ?_
          refine wp_callV (t := 75) [] F dX9_not5_72 k_X9_added5 v_X9_added5 ml_X9_239 rfl rfl rfl rfl (Nat.le_of_ble_eq_true rfl) (by decide) (m_30 (by omega)) (hS im5 lm5 nm (adv b n r.1) (-1) h5 (((hag5.trans h4.2.2.1) 30 0 27 (by omega)).trans h27) (hnm.ag (hag5.trans h4.2.2.1))) rfl (kI ?_)
          rintro xB m' ⟨im6, lm6, h6, rfl⟩
          rw [stP_y] at h6
          have hrb := h6.1
          have hrb1 := hrb.1
          have hrb2 := hrb.2
          refine q_istore_n (t := 76) F dX9_not5_75 rfl (by decide) rfl rfl ?_
          refine q_iload_n (t := 77) F dX9_not5_76 rfl rfl rfl ?_
          refine q_if_eq (t := 80) (u := 88) F dX9_not5_77 (by first | exact hR _ _ _ | (constructor <;> omega)) (by decide) rfl (fun c77 => ?_) (fun c77 => ?_)
          · refine q_iload_n (t := 89) F dX9_not5_88 rfl rfl rfl ?_
            refine q_iload_n (t := 90) F dX9_not5_89 rfl rfl rfl ?_
            refine q_icmp_ne (t := 93) (u := 97) F dX9_not5_90 (by exact hra) (by exact hrb) (by decide) rfl (fun c90 => ?_) (fun c90 => ?_)
            · refine q_iconst (t := 98) F dX9_not5_97 rfl ?_
              refine q_iret F dX9_not5_98 rfl ?_
              first
                | (exfalso; omega)
                | (have hop : opC (tk b n r.1) = -12 := by unfold opC; rw [if_pos (by omega)]
                   refine ⟨_, rfl, im6, lm6, ?_, rfl⟩
                   rw [den_oth hn9, ← hrd, loopP_y2 (f := 0) hq.1 (by rw [hop]; decide)]
                   refine RPO_step h4 hq.1 hag5 hlg5 h6 (by constructor <;> omega) ?_
                   rw [hop]
                   refine Eq.trans ?_ (bi2_12 _ _)
                   first
                     | exact (if_pos (by omega)).symm
                     | exact (if_neg (by omega)).symm)
                | (have hop : opC (tk b n r.1) = -13 := by unfold opC; rw [if_neg (by omega), if_pos (by omega)]
                   refine ⟨_, rfl, im6, lm6, ?_, rfl⟩
                   rw [den_oth hn9, ← hrd, loopP_y2 (f := 0) hq.1 (by rw [hop]; decide)]
                   refine RPO_step h4 hq.1 hag5 hlg5 h6 (by constructor <;> omega) ?_
                   rw [hop]
                   refine Eq.trans ?_ (bi2_13 _ _)
                   first
                     | exact (if_pos (by omega)).symm
                     | exact (if_neg (by omega)).symm)
            · refine q_iconst (t := 94) F dX9_not5_93 rfl ?_
              refine q_goto (t := 98) F dX9_not5_94 (by decide) ?_
              refine q_iret F dX9_not5_98 rfl ?_
              first
                | (exfalso; omega)
                | (have hop : opC (tk b n r.1) = -12 := by unfold opC; rw [if_pos (by omega)]
                   refine ⟨_, rfl, im6, lm6, ?_, rfl⟩
                   rw [den_oth hn9, ← hrd, loopP_y2 (f := 0) hq.1 (by rw [hop]; decide)]
                   refine RPO_step h4 hq.1 hag5 hlg5 h6 (by constructor <;> omega) ?_
                   rw [hop]
                   refine Eq.trans ?_ (bi2_12 _ _)
                   first
                     | exact (if_pos (by omega)).symm
                     | exact (if_neg (by omega)).symm)
                | (have hop : opC (tk b n r.1) = -13 := by unfold opC; rw [if_neg (by omega), if_pos (by omega)]
                   refine ⟨_, rfl, im6, lm6, ?_, rfl⟩
                   rw [den_oth hn9, ← hrd, loopP_y2 (f := 0) hq.1 (by rw [hop]; decide)]
                   refine RPO_step h4 hq.1 hag5 hlg5 h6 (by constructor <;> omega) ?_
                   rw [hop]
                   refine Eq.trans ?_ (bi2_13 _ _)
                   first
                     | exact (if_pos (by omega)).symm
                     | exact (if_neg (by omega)).symm)
          · refine q_iload_n (t := 81) F dX9_not5_80 rfl rfl rfl ?_
            refine q_iload_n (t := 82) F dX9_not5_81 rfl rfl rfl ?_
            refine q_icmp_ge (t := 85) (u := 97) F dX9_not5_82 (by exact hra) (by exact hrb) (by decide) rfl (fun c82 => ?_) (fun c82 => ?_)
            · refine q_iconst (t := 98) F dX9_not5_97 rfl ?_
              refine q_iret F dX9_not5_98 rfl ?_
              first
                | (exfalso; omega)
                | (have hop : opC (tk b n r.1) = -12 := by unfold opC; rw [if_pos (by omega)]
                   refine ⟨_, rfl, im6, lm6, ?_, rfl⟩
                   rw [den_oth hn9, ← hrd, loopP_y2 (f := 0) hq.1 (by rw [hop]; decide)]
                   refine RPO_step h4 hq.1 hag5 hlg5 h6 (by constructor <;> omega) ?_
                   rw [hop]
                   refine Eq.trans ?_ (bi2_12 _ _)
                   first
                     | exact (if_pos (by omega)).symm
                     | exact (if_neg (by omega)).symm)
                | (have hop : opC (tk b n r.1) = -13 := by unfold opC; rw [if_neg (by omega), if_pos (by omega)]
                   refine ⟨_, rfl, im6, lm6, ?_, rfl⟩
                   rw [den_oth hn9, ← hrd, loopP_y2 (f := 0) hq.1 (by rw [hop]; decide)]
                   refine RPO_step h4 hq.1 hag5 hlg5 h6 (by constructor <;> omega) ?_
                   rw [hop]
                   refine Eq.trans ?_ (bi2_13 _ _)
                   first
                     | exact (if_pos (by omega)).symm
                     | exact (if_neg (by omega)).symm)
            · refine q_goto (t := 93) F dX9_not5_85 (by decide) ?_
              refine q_iconst (t := 94) F dX9_not5_93 rfl ?_
              refine q_goto (t := 98) F dX9_not5_94 (by decide) ?_
              refine q_iret F dX9_not5_98 rfl ?_
              first
                | (exfalso; omega)
                | (have hop : opC (tk b n r.1) = -12 := by unfold opC; rw [if_pos (by omega)]
                   refine ⟨_, rfl, im6, lm6, ?_, rfl⟩
                   rw [den_oth hn9, ← hrd, loopP_y2 (f := 0) hq.1 (by rw [hop]; decide)]
                   refine RPO_step h4 hq.1 hag5 hlg5 h6 (by constructor <;> omega) ?_
                   rw [hop]
                   refine Eq.trans ?_ (bi2_12 _ _)
                   first
                     | exact (if_pos (by omega)).symm
                     | exact (if_neg (by omega)).symm)
                | (have hop : opC (tk b n r.1) = -13 := by unfold opC; rw [if_neg (by omega), if_pos (by omega)]
                   refine ⟨_, rfl, im6, lm6, ?_, rfl⟩
                   rw [den_oth hn9, ← hrd, loopP_y2 (f := 0) hq.1 (by rw [hop]; decide)]
                   refine RPO_step h4 hq.1 hag5 hlg5 h6 (by constructor <;> omega) ?_
                   rw [hop]
                   refine Eq.trans ?_ (bi2_13 _ _)
                   first
                     | exact (if_pos (by omega)).symm
                     | exact (if_neg (by omega)).symm)
      · refine q_iload_n (t := 49) F dX9_not5_48 rfl rfl rfl ?_
        refine q_iret F dX9_not5_49 rfl ?_
        refine ⟨xA, rfl, im4, lm4, ?_, rfl⟩
        rw [den_oth hn9, ← hrd, loopP_n (fun q => ?_)]
        · exact h4
        · have q1 := q.1
          have q2 := q.2
          unfold opC at q2
          rw [if_neg (by omega), if_neg (by omega)] at q2
          exact q2 rfl
  · have hf : f = -1 := by omega
    subst hf
    have hlt : p < n := tk_lt (b := b) (by omega)
    have ht9 : tk b n p = 9 := by omega
    refine q_aload_n (t := 19) F dX9_not5_18 rfl rfl rfl ?_
    refine wp_callV (t := 22) [] F dX9_not5_19 k_X9_opens v_X9_opens ml_X9_223 rfl rfl rfl rfl (Nat.le_of_ble_eq_true rfl) (by decide) (m_30 (by omega)) (c_X9_opens _ G im bt rt lm b n hb p h hlt (by omega) 5 (by omega) h27) rfl (kI ?_)
    rintro x19 m' (⟨-, rfl, im2, h2, hag, rfl⟩ | ⟨q, -⟩)
    rotate_left
    · exact absurd q (by omega)
    refine q_popI (t := 23) F dX9_not5_22 rfl ?_
    refine q_iconst (t := 24) F dX9_not5_23 rfl ?_
    refine q_iret F dX9_not5_24 rfl ?_
    refine ⟨0, rfl, im2, lm, ⟨by constructor <;> omega, ?_, hag, lgQ_rfl lm, fun q => ?_⟩, rfl⟩
    · rw [stP_y, den_non ht9]; exact h2
    · rw [stP_y, den_non ht9] at q
      have : (p : Int) = -1 := q
      omega

set_option maxHeartbeats 4000000 in
theorem c_X9_not4 (l : Launch) (G : GS)  (bt rt : Nat)  (b : Nat → Int) (n : Nat) (hb : byt b n) (hN : RT l G bt rt b n yX9_not5 Y_X9_not5 (denL b n 0) 5) (hS : RT l G bt rt b n yX9_added4 Y_X9_added4 (sumL b n 1) 4) (im lm : IM) (nm : Nat → Int) (p : Nat) (f : Int) (h : PQ b n im lm p f) (h27 : im 30 0 27 = ((4 : Nat) : Int)) (hnm : NMr im nm) : Cn l (XR G) yX9_not4 Y_X9_not4 [vR 30 0] (im, rs bt rt, lm) (pI fun x m' => ∃ im' lm', RPO b n im lm nm (stP (denL b n 1) p f) x im' lm' ∧ m' = (im', rs bt rt, lm')) := by
  refine cn_of (by decide) (okR G) rfl (Nat.le_of_ble_eq_true rfl) ?_
  intro M ad hMl F
  subst hMl
  have hn := hb.1
  have hR := h.2.1
  have hbb := h.b01
  have hti0 := tk_in b n p
  refine wp_pad 3 ?_
  show Wp M (XR G) ad Y_X9_not4 (pI fun x m' => ∃ im' lm', RPO b n im lm nm (stP (denL b n 1) p f) x im' lm' ∧ m' = (im', rs bt rt, lm')) 0 [some (vR 30 0), none, none, none] [] (im, rs bt rt, lm)
  refine q_aload_n (t := 1) F dX9_not4_0 rfl rfl rfl ?_
  refine q_bipush (t := 3) F dX9_not4_1 (by decide) rfl ?_
  refine q_bipush (t := 5) F dX9_not4_3 (by decide) rfl ?_
  refine q_bipush (t := 7) F dX9_not4_5 (by decide) rfl ?_
  refine q_iconst (t := 8) F dX9_not4_7 rfl ?_
  refine q_iconst (t := 9) F dX9_not4_8 rfl ?_
  refine q_iconst (t := 10) F dX9_not4_9 rfl ?_
  refine q_iconst (t := 11) F dX9_not4_10 rfl ?_
  refine q_iconst (t := 12) F dX9_not4_11 rfl ?_
  refine wp_callV (t := 15) [_, _, _, _, _, _, _, _] F dX9_not4_12 k_X9_isWord_ v_X9_isWord_ ml_X9_199 rfl rfl rfl rfl (Nat.le_of_ble_eq_true rfl) (by decide) (m_30 (by omega)) (c_isKey _ G im bt rt lm b n hb p f h 11 (by omega) (by omega) 9 (by omega) _ _ _ _ _ _ _ _ (by decide)) rfl (kI ?_)
  rintro x12 m' ⟨hx12, rfl⟩
  have hx12 := if01 hx12
  refine q_if_eq (t := 18) (u := 52) F dX9_not4_15 (by first | exact hR _ _ _ | (constructor <;> omega)) (by decide) rfl (fun c15 => ?_) (fun c15 => ?_)
  · refine q_aload_n (t := 53) F dX9_not4_52 rfl rfl rfl ?_
    refine wp_callV (t := 56) [] F dX9_not4_53 k_X9_added4 v_X9_added4 ml_X9_259 rfl rfl rfl rfl (Nat.le_of_ble_eq_true rfl) (by decide) (m_30 (by omega)) (hS im lm nm p f h h27 hnm) rfl (kI ?_)
    rintro xA m' ⟨im4, lm4, h4, rfl⟩
    have hn9 : f = -1 → tk b n p ≠ 9 := by omega
    obtain ⟨r, hrd⟩ : ∃ r, r = stP (sumL b n 1) p f := ⟨_, rfl⟩
    rw [← hrd] at h4
    have hb4 := h4.2.1.b01
    have hti := tk_in b n r.1
    have hra := h4.1
    have hra1 := hra.1
    have hra2 := hra.2
    refine q_istore_n (t := 57) F dX9_not4_56 rfl (by decide) rfl rfl ?_
    refine q_aload_n (t := 58) F dX9_not4_57 rfl rfl rfl ?_
    refine q_bipush (t := 60) F dX9_not4_58 (by decide) rfl ?_
    refine wp_callV (t := 63) [_] F dX9_not4_60 k_X9_isSign v_X9_isSign ml_X9_220 rfl rfl rfl rfl (Nat.le_of_ble_eq_true rfl) (by decide) (m_30 (by omega)) (c_X9_isSign _ G im4 bt rt lm4 b n hb r.1 r.2.1 h4.2.1 60 (by omega) (by omega)) rfl (kI ?_)
    rintro x60 m' ⟨hx60, rfl⟩
    have hx60 := if01 hx60
    refine q_if_ne (t := 66) (u := 77) F dX9_not4_63 (by first | exact hR _ _ _ | (constructor <;> omega)) (by decide) rfl (fun c63 => ?_) (fun c63 => ?_)
    · have hq : r.2.1 = -1 ∧ (tk b n r.1 = 60 ∨ tk b n r.1 = 61) := by omega
      have hlt : r.1 < n := tk_lt (b := b) (by omega)
      have hgd := PG_sumL b n 1 (adv b n r.1) (adv_in hlt).2
      have h11 := h4.2.1
      rw [hq.1] at h11
      have hw1 : lm4 30 0 26 = tk b n r.1 := ((TK_sign (h11.1.1 rfl).2.2 (s := tk b n r.1) (by omega)).mpr rfl).2
      have hcm : cmpI (lm4 30 0 26) 60 = 0 ↔ lm4 30 0 26 = 60 := cmpI_eq
      refine q_aload_n (t := 78) F dX9_not4_77 rfl rfl rfl ?_
      refine g_X9_175 (t := 81) F dX9_not4_78 rfl rfl ?_
      try simp only [up_app, row_app, scr_app, cpy_app, Nat.reduceEqDiff, Int.reduceToNat, Int.toNat_natCast, and_true, true_and, and_false, false_and, and_self, reduceIte]
      refine q_ldc2 (t := 84) (x := 60) F dX9_not4_81 kl_X9_242 (by decide) rfl ?_
      refine q_lcmp (t := 85) F dX9_not4_84 ⟨by omega, by omega⟩ ⟨by omega, by omega⟩ rfl ?_
      refine q_if_ne (t := 88) (u := 92) F dX9_not4_85 (by exact cmpI_ri _ _) (by decide) rfl (fun c85 => ?_) (fun c85 => ?_)
      · refine q_iconst (t := 93) F dX9_not4_92 rfl ?_
        refine q_istore_n (t := 94) F dX9_not4_93 rfl (by decide) rfl rfl ?_
        refine q_aload_n (t := 95) F dX9_not4_94 rfl rfl rfl ?_
        refine wp_callV (t := 98) [] F dX9_not4_95 k_X9_next v_X9_next ml_X9_196 rfl rfl rfl rfl (Nat.le_of_ble_eq_true rfl) (by decide) (m_30 (by omega)) (c_nextQ _ G im4 bt rt lm4 b n hb r.1 h11 hlt (by omega)) rfl (kV ?_)
        rintro m' ⟨im5, lm5, h5, hag5, hlg5, rfl⟩
        refine q_aload_n (t := 99) F dX9_not4_98 rfl rfl rfl ?_
        refine wp_callV (t := 102) [] F dX9_not4_99 k_X9_added4 v_X9_added4 ml_X9_259 rfl rfl rfl rfl (Nat.le_of_ble_eq_true rfl) (by decide) (m_30 (by omega)) (hS im5 lm5 nm (adv b n r.1) (-1) h5 (((hag5.trans h4.2.2.1) 30 0 27 (by omega)).trans h27) (hnm.ag (hag5.trans h4.2.2.1))) rfl (kI ?_)
        rintro xB m' ⟨im6, lm6, h6, rfl⟩
        rw [stP_y] at h6
        have hrb := h6.1
        have hrb1 := hrb.1
        have hrb2 := hrb.2
        refine q_istore_n (t := 103) F dX9_not4_102 rfl (by decide) rfl rfl ?_
        refine q_iload_n (t := 104) F dX9_not4_103 rfl rfl rfl ?_
        refine q_if_eq (t := 107) (u := 115) F dX9_not4_104 (by first | exact hR _ _ _ | (constructor <;> omega)) (by decide) rfl (fun c104 => ?_) (fun c104 => ?_)
        · refine q_iload_n (t := 116) F dX9_not4_115 rfl rfl rfl ?_
          refine q_iload_n (t := 117) F dX9_not4_116 rfl rfl rfl ?_
          refine q_icmp_ne (t := 120) (u := 124) F dX9_not4_117 (by exact hra) (by exact hrb) (by decide) rfl (fun c117 => ?_) (fun c117 => ?_)
          · refine q_iconst (t := 125) F dX9_not4_124 rfl ?_
            refine q_iret F dX9_not4_125 rfl ?_
            first
              | (exfalso; omega)
              | (have hop : opC (tk b n r.1) = -12 := by unfold opC; rw [if_pos (by omega)]
                 refine ⟨_, rfl, im6, lm6, ?_, rfl⟩
                 rw [den_oth hn9, ← hrd, loopP_y2 (f := 0) hq.1 (by rw [hop]; decide)]
                 refine RPO_step h4 hq.1 hag5 hlg5 h6 (by constructor <;> omega) ?_
                 rw [hop]
                 refine Eq.trans ?_ (bi2_12 _ _)
                 first
                   | exact (if_pos (by omega)).symm
                   | exact (if_neg (by omega)).symm)
              | (have hop : opC (tk b n r.1) = -13 := by unfold opC; rw [if_neg (by omega), if_pos (by omega)]
                 refine ⟨_, rfl, im6, lm6, ?_, rfl⟩
                 rw [den_oth hn9, ← hrd, loopP_y2 (f := 0) hq.1 (by rw [hop]; decide)]
                 refine RPO_step h4 hq.1 hag5 hlg5 h6 (by constructor <;> omega) ?_
                 rw [hop]
                 refine Eq.trans ?_ (bi2_13 _ _)
                 first
                   | exact (if_pos (by omega)).symm
                   | exact (if_neg (by omega)).symm)
          · refine q_iconst (t := 121) F dX9_not4_120 rfl ?_
            refine q_goto (t := 125) F dX9_not4_121 (by decide) ?_
            refine q_iret F dX9_not4_125 rfl ?_
            first
              | (exfalso; omega)
              | (have hop : opC (tk b n r.1) = -12 := by unfold opC; rw [if_pos (by omega)]
                 refine ⟨_, rfl, im6, lm6, ?_, rfl⟩
                 rw [den_oth hn9, ← hrd, loopP_y2 (f := 0) hq.1 (by rw [hop]; decide)]
                 refine RPO_step h4 hq.1 hag5 hlg5 h6 (by constructor <;> omega) ?_
                 rw [hop]
                 refine Eq.trans ?_ (bi2_12 _ _)
                 first
                   | exact (if_pos (by omega)).symm
                   | exact (if_neg (by omega)).symm)
              | (have hop : opC (tk b n r.1) = -13 := by unfold opC; rw [if_neg (by omega), if_pos (by omega)]
                 refine ⟨_, rfl, im6, lm6, ?_, rfl⟩
                 rw [den_oth hn9, ← hrd, loopP_y2 (f := 0) hq.1 (by rw [hop]; decide)]
                 refine RPO_step h4 hq.1 hag5 hlg5 h6 (by constructor <;> omega) ?_
                 rw [hop]
                 refine Eq.trans ?_ (bi2_13 _ _)
                 first
                   | exact (if_pos (by omega)).symm
                   | exact (if_neg (by omega)).symm)
        · refine q_iload_n (t := 108) F dX9_not4_107 rfl rfl rfl ?_
          refine q_iload_n (t := 109) F dX9_not4_108 rfl rfl rfl ?_
          refine q_icmp_ge (t := 112) (u := 124) F dX9_not4_109 (by exact hra) (by exact hrb) (by decide) rfl (fun c109 => ?_) (fun c109 => ?_)
          · refine q_iconst (t := 125) F dX9_not4_124 rfl ?_
            refine q_iret F dX9_not4_125 rfl ?_
            first
              | (exfalso; omega)
              | (have hop : opC (tk b n r.1) = -12 := by unfold opC; rw [if_pos (by omega)]
                 refine ⟨_, rfl, im6, lm6, ?_, rfl⟩
                 rw [den_oth hn9, ← hrd, loopP_y2 (f := 0) hq.1 (by rw [hop]; decide)]
                 refine RPO_step h4 hq.1 hag5 hlg5 h6 (by constructor <;> omega) ?_
                 rw [hop]
                 refine Eq.trans ?_ (bi2_12 _ _)
                 first
                   | exact (if_pos (by omega)).symm
                   | exact (if_neg (by omega)).symm)
              | (have hop : opC (tk b n r.1) = -13 := by unfold opC; rw [if_neg (by omega), if_pos (by omega)]
                 refine ⟨_, rfl, im6, lm6, ?_, rfl⟩
                 rw [den_oth hn9, ← hrd, loopP_y2 (f := 0) hq.1 (by rw [hop]; decide)]
                 refine RPO_step h4 hq.1 hag5 hlg5 h6 (by constructor <;> omega) ?_
                 rw [hop]
                 refine Eq.trans ?_ (bi2_13 _ _)
                 first
                   | exact (if_pos (by omega)).symm
                   | exact (if_neg (by omega)).symm)
          · refine q_goto (t := 120) F dX9_not4_112 (by decide) ?_
            refine q_iconst (t := 121) F dX9_not4_120 rfl ?_
            refine q_goto (t := 125) F dX9_not4_121 (by decide) ?_
            refine q_iret F dX9_not4_125 rfl ?_
            first
              | (exfalso; omega)
              | (have hop : opC (tk b n r.1) = -12 := by unfold opC; rw [if_pos (by omega)]
                 refine ⟨_, rfl, im6, lm6, ?_, rfl⟩
                 rw [den_oth hn9, ← hrd, loopP_y2 (f := 0) hq.1 (by rw [hop]; decide)]
                 refine RPO_step h4 hq.1 hag5 hlg5 h6 (by constructor <;> omega) ?_
                 rw [hop]
                 refine Eq.trans ?_ (bi2_12 _ _)
                 first
                   | exact (if_pos (by omega)).symm
                   | exact (if_neg (by omega)).symm)
              | (have hop : opC (tk b n r.1) = -13 := by unfold opC; rw [if_neg (by omega), if_pos (by omega)]
                 refine ⟨_, rfl, im6, lm6, ?_, rfl⟩
                 rw [den_oth hn9, ← hrd, loopP_y2 (f := 0) hq.1 (by rw [hop]; decide)]
                 refine RPO_step h4 hq.1 hag5 hlg5 h6 (by constructor <;> omega) ?_
                 rw [hop]
                 refine Eq.trans ?_ (bi2_13 _ _)
                 first
                   | exact (if_pos (by omega)).symm
                   | exact (if_neg (by omega)).symm)
      · refine q_iconst (t := 89) F dX9_not4_88 rfl ?_
        refine q_goto (t := 93) F dX9_not4_89 (by decide) ?_
        refine q_istore_n (t := 94) F dX9_not4_93 rfl (by decide) rfl rfl ?_
        refine q_aload_n (t := 95) F dX9_not4_94 rfl rfl rfl ?_
        refine wp_callV (t := 98) [] F dX9_not4_95 k_X9_next v_X9_next ml_X9_196 rfl rfl rfl rfl (Nat.le_of_ble_eq_true rfl) (by decide) (m_30 (by omega)) (c_nextQ _ G im4 bt rt lm4 b n hb r.1 h11 hlt (by omega)) rfl (kV ?_)
        rintro m' ⟨im5, lm5, h5, hag5, hlg5, rfl⟩
        refine q_aload_n (t := 99) F dX9_not4_98 rfl rfl rfl ?_
        refine wp_callV (t := 102) [] F dX9_not4_99 k_X9_added4 v_X9_added4 ml_X9_259 rfl rfl rfl rfl (Nat.le_of_ble_eq_true rfl) (by decide) (m_30 (by omega)) (hS im5 lm5 nm (adv b n r.1) (-1) h5 (((hag5.trans h4.2.2.1) 30 0 27 (by omega)).trans h27) (hnm.ag (hag5.trans h4.2.2.1))) rfl (kI ?_)
        rintro xB m' ⟨im6, lm6, h6, rfl⟩
        rw [stP_y] at h6
        have hrb := h6.1
        have hrb1 := hrb.1
        have hrb2 := hrb.2
        refine q_istore_n (t := 103) F dX9_not4_102 rfl (by decide) rfl rfl ?_
        refine q_iload_n (t := 104) F dX9_not4_103 rfl rfl rfl ?_
        refine q_if_eq (t := 107) (u := 115) F dX9_not4_104 (by first | exact hR _ _ _ | (constructor <;> omega)) (by decide) rfl (fun c104 => ?_) (fun c104 => ?_)
        · refine q_iload_n (t := 116) F dX9_not4_115 rfl rfl rfl ?_
          refine q_iload_n (t := 117) F dX9_not4_116 rfl rfl rfl ?_
          refine q_icmp_ne (t := 120) (u := 124) F dX9_not4_117 (by exact hra) (by exact hrb) (by decide) rfl (fun c117 => ?_) (fun c117 => ?_)
          · refine q_iconst (t := 125) F dX9_not4_124 rfl ?_
            refine q_iret F dX9_not4_125 rfl ?_
            first
              | (exfalso; omega)
              | (have hop : opC (tk b n r.1) = -12 := by unfold opC; rw [if_pos (by omega)]
                 refine ⟨_, rfl, im6, lm6, ?_, rfl⟩
                 rw [den_oth hn9, ← hrd, loopP_y2 (f := 0) hq.1 (by rw [hop]; decide)]
                 refine RPO_step h4 hq.1 hag5 hlg5 h6 (by constructor <;> omega) ?_
                 rw [hop]
                 refine Eq.trans ?_ (bi2_12 _ _)
                 first
                   | exact (if_pos (by omega)).symm
                   | exact (if_neg (by omega)).symm)
              | (have hop : opC (tk b n r.1) = -13 := by unfold opC; rw [if_neg (by omega), if_pos (by omega)]
                 refine ⟨_, rfl, im6, lm6, ?_, rfl⟩
                 rw [den_oth hn9, ← hrd, loopP_y2 (f := 0) hq.1 (by rw [hop]; decide)]
                 refine RPO_step h4 hq.1 hag5 hlg5 h6 (by constructor <;> omega) ?_
                 rw [hop]
                 refine Eq.trans ?_ (bi2_13 _ _)
                 first
                   | exact (if_pos (by omega)).symm
                   | exact (if_neg (by omega)).symm)
          · refine q_iconst (t := 121) F dX9_not4_120 rfl ?_
            refine q_goto (t := 125) F dX9_not4_121 (by decide) ?_
            refine q_iret F dX9_not4_125 rfl ?_
            first
              | (exfalso; omega)
              | (have hop : opC (tk b n r.1) = -12 := by unfold opC; rw [if_pos (by omega)]
                 refine ⟨_, rfl, im6, lm6, ?_, rfl⟩
                 rw [den_oth hn9, ← hrd, loopP_y2 (f := 0) hq.1 (by rw [hop]; decide)]
                 refine RPO_step h4 hq.1 hag5 hlg5 h6 (by constructor <;> omega) ?_
                 rw [hop]
                 refine Eq.trans ?_ (bi2_12 _ _)
                 first
                   | exact (if_pos (by omega)).symm
                   | exact (if_neg (by omega)).symm)
              | (have hop : opC (tk b n r.1) = -13 := by unfold opC; rw [if_neg (by omega), if_pos (by omega)]
                 refine ⟨_, rfl, im6, lm6, ?_, rfl⟩
                 rw [den_oth hn9, ← hrd, loopP_y2 (f := 0) hq.1 (by rw [hop]; decide)]
                 refine RPO_step h4 hq.1 hag5 hlg5 h6 (by constructor <;> omega) ?_
                 rw [hop]
                 refine Eq.trans ?_ (bi2_13 _ _)
                 first
                   | exact (if_pos (by omega)).symm
                   | exact (if_neg (by omega)).symm)
        · refine q_iload_n (t := 108) F dX9_not4_107 rfl rfl rfl ?_
          refine q_iload_n (t := 109) F dX9_not4_108 rfl rfl rfl ?_
          refine q_icmp_ge (t := 112) (u := 124) F dX9_not4_109 (by exact hra) (by exact hrb) (by decide) rfl (fun c109 => ?_) (fun c109 => ?_)
          · refine q_iconst (t := 125) F dX9_not4_124 rfl ?_
            refine q_iret F dX9_not4_125 rfl ?_
            first
              | (exfalso; omega)
              | (have hop : opC (tk b n r.1) = -12 := by unfold opC; rw [if_pos (by omega)]
                 refine ⟨_, rfl, im6, lm6, ?_, rfl⟩
                 rw [den_oth hn9, ← hrd, loopP_y2 (f := 0) hq.1 (by rw [hop]; decide)]
                 refine RPO_step h4 hq.1 hag5 hlg5 h6 (by constructor <;> omega) ?_
                 rw [hop]
                 refine Eq.trans ?_ (bi2_12 _ _)
                 first
                   | exact (if_pos (by omega)).symm
                   | exact (if_neg (by omega)).symm)
              | (have hop : opC (tk b n r.1) = -13 := by unfold opC; rw [if_neg (by omega), if_pos (by omega)]
                 refine ⟨_, rfl, im6, lm6, ?_, rfl⟩
                 rw [den_oth hn9, ← hrd, loopP_y2 (f := 0) hq.1 (by rw [hop]; decide)]
                 refine RPO_step h4 hq.1 hag5 hlg5 h6 (by constructor <;> omega) ?_
                 rw [hop]
                 refine Eq.trans ?_ (bi2_13 _ _)
                 first
                   | exact (if_pos (by omega)).symm
                   | exact (if_neg (by omega)).symm)
          · refine q_goto (t := 120) F dX9_not4_112 (by decide) ?_
            refine q_iconst (t := 121) F dX9_not4_120 rfl ?_
            refine q_goto (t := 125) F dX9_not4_121 (by decide) ?_
            refine q_iret F dX9_not4_125 rfl ?_
            first
              | (exfalso; omega)
              | (have hop : opC (tk b n r.1) = -12 := by unfold opC; rw [if_pos (by omega)]
                 refine ⟨_, rfl, im6, lm6, ?_, rfl⟩
                 rw [den_oth hn9, ← hrd, loopP_y2 (f := 0) hq.1 (by rw [hop]; decide)]
                 refine RPO_step h4 hq.1 hag5 hlg5 h6 (by constructor <;> omega) ?_
                 rw [hop]
                 refine Eq.trans ?_ (bi2_12 _ _)
                 first
                   | exact (if_pos (by omega)).symm
                   | exact (if_neg (by omega)).symm)
              | (have hop : opC (tk b n r.1) = -13 := by unfold opC; rw [if_neg (by omega), if_pos (by omega)]
                 refine ⟨_, rfl, im6, lm6, ?_, rfl⟩
                 rw [den_oth hn9, ← hrd, loopP_y2 (f := 0) hq.1 (by rw [hop]; decide)]
                 refine RPO_step h4 hq.1 hag5 hlg5 h6 (by constructor <;> omega) ?_
                 rw [hop]
                 refine Eq.trans ?_ (bi2_13 _ _)
                 first
                   | exact (if_pos (by omega)).symm
                   | exact (if_neg (by omega)).symm)
    · refine q_aload_n (t := 67) F dX9_not4_66 rfl rfl rfl ?_
      refine q_bipush (t := 69) F dX9_not4_67 (by decide) rfl ?_
      refine wp_callV (t := 72) [_] F dX9_not4_69 k_X9_isSign v_X9_isSign ml_X9_220 rfl rfl rfl rfl (Nat.le_of_ble_eq_true rfl) (by decide) (m_30 (by omega)) (c_X9_isSign _ G im4 bt rt lm4 b n hb r.1 r.2.1 h4.2.1 61 (by omega) (by omega)) rfl (kI ?_)
      rintro x69 m' ⟨hx69, rfl⟩
      have hx69 := if01 hx69
      refine q_if_ne (t := 75) (u := 77) F dX9_not4_72 (by first | exact hR _ _ _ | (constructor <;> omega)) (by decide) rfl (fun c72 => ?_) (fun c72 => ?_)
      · have hq : r.2.1 = -1 ∧ (tk b n r.1 = 60 ∨ tk b n r.1 = 61) := by omega
        have hlt : r.1 < n := tk_lt (b := b) (by omega)
        have hgd := PG_sumL b n 1 (adv b n r.1) (adv_in hlt).2
        have h11 := h4.2.1
        rw [hq.1] at h11
        have hw1 : lm4 30 0 26 = tk b n r.1 := ((TK_sign (h11.1.1 rfl).2.2 (s := tk b n r.1) (by omega)).mpr rfl).2
        have hcm : cmpI (lm4 30 0 26) 60 = 0 ↔ lm4 30 0 26 = 60 := cmpI_eq
        refine q_aload_n (t := 78) F dX9_not4_77 rfl rfl rfl ?_
        refine g_X9_175 (t := 81) F dX9_not4_78 rfl rfl ?_
        try simp only [up_app, row_app, scr_app, cpy_app, Nat.reduceEqDiff, Int.reduceToNat, Int.toNat_natCast, and_true, true_and, and_false, false_and, and_self, reduceIte]
        refine q_ldc2 (t := 84) (x := 60) F dX9_not4_81 kl_X9_242 (by decide) rfl ?_
        refine q_lcmp (t := 85) F dX9_not4_84 ⟨by omega, by omega⟩ ⟨by omega, by omega⟩ rfl ?_
        refine q_if_ne (t := 88) (u := 92) F dX9_not4_85 (by exact cmpI_ri _ _) (by decide) rfl (fun c85 => ?_) (fun c85 => ?_)
        · refine q_iconst (t := 93) F dX9_not4_92 rfl ?_
          refine q_istore_n (t := 94) F dX9_not4_93 rfl (by decide) rfl rfl ?_
          refine q_aload_n (t := 95) F dX9_not4_94 rfl rfl rfl ?_
          refine wp_callV (t := 98) [] F dX9_not4_95 k_X9_next v_X9_next ml_X9_196 rfl rfl rfl rfl (Nat.le_of_ble_eq_true rfl) (by decide) (m_30 (by omega)) (c_nextQ _ G im4 bt rt lm4 b n hb r.1 h11 hlt (by omega)) rfl (kV ?_)
          rintro m' ⟨im5, lm5, h5, hag5, hlg5, rfl⟩
          refine q_aload_n (t := 99) F dX9_not4_98 rfl rfl rfl ?_
          refine wp_callV (t := 102) [] F dX9_not4_99 k_X9_added4 v_X9_added4 ml_X9_259 rfl rfl rfl rfl (Nat.le_of_ble_eq_true rfl) (by decide) (m_30 (by omega)) (hS im5 lm5 nm (adv b n r.1) (-1) h5 (((hag5.trans h4.2.2.1) 30 0 27 (by omega)).trans h27) (hnm.ag (hag5.trans h4.2.2.1))) rfl (kI ?_)
          rintro xB m' ⟨im6, lm6, h6, rfl⟩
          rw [stP_y] at h6
          have hrb := h6.1
          have hrb1 := hrb.1
          have hrb2 := hrb.2
          refine q_istore_n (t := 103) F dX9_not4_102 rfl (by decide) rfl rfl ?_
          refine q_iload_n (t := 104) F dX9_not4_103 rfl rfl rfl ?_
          refine q_if_eq (t := 107) (u := 115) F dX9_not4_104 (by first | exact hR _ _ _ | (constructor <;> omega)) (by decide) rfl (fun c104 => ?_) (fun c104 => ?_)
          · refine q_iload_n (t := 116) F dX9_not4_115 rfl rfl rfl ?_
            refine q_iload_n (t := 117) F dX9_not4_116 rfl rfl rfl ?_
            refine q_icmp_ne (t := 120) (u := 124) F dX9_not4_117 (by exact hra) (by exact hrb) (by decide) rfl (fun c117 => ?_) (fun c117 => ?_)
            · refine q_iconst (t := 125) F dX9_not4_124 rfl ?_
              refine q_iret F dX9_not4_125 rfl ?_
              first
                | (exfalso; omega)
                | (have hop : opC (tk b n r.1) = -12 := by unfold opC; rw [if_pos (by omega)]
                   refine ⟨_, rfl, im6, lm6, ?_, rfl⟩
                   rw [den_oth hn9, ← hrd, loopP_y2 (f := 0) hq.1 (by rw [hop]; decide)]
                   refine RPO_step h4 hq.1 hag5 hlg5 h6 (by constructor <;> omega) ?_
                   rw [hop]
                   refine Eq.trans ?_ (bi2_12 _ _)
                   first
                     | exact (if_pos (by omega)).symm
                     | exact (if_neg (by omega)).symm)
                | (have hop : opC (tk b n r.1) = -13 := by unfold opC; rw [if_neg (by omega), if_pos (by omega)]
                   refine ⟨_, rfl, im6, lm6, ?_, rfl⟩
                   rw [den_oth hn9, ← hrd, loopP_y2 (f := 0) hq.1 (by rw [hop]; decide)]
                   refine RPO_step h4 hq.1 hag5 hlg5 h6 (by constructor <;> omega) ?_
                   rw [hop]
                   refine Eq.trans ?_ (bi2_13 _ _)
                   first
                     | exact (if_pos (by omega)).symm
                     | exact (if_neg (by omega)).symm)
            · refine q_iconst (t := 121) F dX9_not4_120 rfl ?_
              refine q_goto (t := 125) F dX9_not4_121 (by decide) ?_
              refine q_iret F dX9_not4_125 rfl ?_
              first
                | (exfalso; omega)
                | (have hop : opC (tk b n r.1) = -12 := by unfold opC; rw [if_pos (by omega)]
                   refine ⟨_, rfl, im6, lm6, ?_, rfl⟩
                   rw [den_oth hn9, ← hrd, loopP_y2 (f := 0) hq.1 (by rw [hop]; decide)]
                   refine RPO_step h4 hq.1 hag5 hlg5 h6 (by constructor <;> omega) ?_
                   rw [hop]
                   refine Eq.trans ?_ (bi2_12 _ _)
                   first
                     | exact (if_pos (by omega)).symm
                     | exact (if_neg (by omega)).symm)
                | (have hop : opC (tk b n r.1) = -13 := by unfold opC; rw [if_neg (by omega), if_pos (by omega)]
                   refine ⟨_, rfl, im6, lm6, ?_, rfl⟩
                   rw [den_oth hn9, ← hrd, loopP_y2 (f := 0) hq.1 (by rw [hop]; decide)]
                   refine RPO_step h4 hq.1 hag5 hlg5 h6 (by constructor <;> omega) ?_
                   rw [hop]
                   refine Eq.trans ?_ (bi2_13 _ _)
                   first
                     | exact (if_pos (by omega)).symm
                     | exact (if_neg (by omega)).symm)
          · refine q_iload_n (t := 108) F dX9_not4_107 rfl rfl rfl ?_
            refine q_iload_n (t := 109) F dX9_not4_108 rfl rfl rfl ?_
            refine q_icmp_ge (t := 112) (u := 124) F dX9_not4_109 (by exact hra) (by exact hrb) (by decide) rfl (fun c109 => ?_) (fun c109 => ?_)
            · refine q_iconst (t := 125) F dX9_not4_124 rfl ?_
              refine q_iret F dX9_not4_125 rfl ?_
              first
                | (exfalso; omega)
                | (have hop : opC (tk b n r.1) = -12 := by unfold opC; rw [if_pos (by omega)]
                   refine ⟨_, rfl, im6, lm6, ?_, rfl⟩
                   rw [den_oth hn9, ← hrd, loopP_y2 (f := 0) hq.1 (by rw [hop]; decide)]
                   refine RPO_step h4 hq.1 hag5 hlg5 h6 (by constructor <;> omega) ?_
                   rw [hop]
                   refine Eq.trans ?_ (bi2_12 _ _)
                   first
                     | exact (if_pos (by omega)).symm
                     | exact (if_neg (by omega)).symm)
                | (have hop : opC (tk b n r.1) = -13 := by unfold opC; rw [if_neg (by omega), if_pos (by omega)]
                   refine ⟨_, rfl, im6, lm6, ?_, rfl⟩
                   rw [den_oth hn9, ← hrd, loopP_y2 (f := 0) hq.1 (by rw [hop]; decide)]
                   refine RPO_step h4 hq.1 hag5 hlg5 h6 (by constructor <;> omega) ?_
                   rw [hop]
                   refine Eq.trans ?_ (bi2_13 _ _)
                   first
                     | exact (if_pos (by omega)).symm
                     | exact (if_neg (by omega)).symm)
            · refine q_goto (t := 120) F dX9_not4_112 (by decide) ?_
              refine q_iconst (t := 121) F dX9_not4_120 rfl ?_
              refine q_goto (t := 125) F dX9_not4_121 (by decide) ?_
              refine q_iret F dX9_not4_125 rfl ?_
              first
                | (exfalso; omega)
                | (have hop : opC (tk b n r.1) = -12 := by unfold opC; rw [if_pos (by omega)]
                   refine ⟨_, rfl, im6, lm6, ?_, rfl⟩
                   rw [den_oth hn9, ← hrd, loopP_y2 (f := 0) hq.1 (by rw [hop]; decide)]
                   refine RPO_step h4 hq.1 hag5 hlg5 h6 (by constructor <;> omega) ?_
                   rw [hop]
                   refine Eq.trans ?_ (bi2_12 _ _)
                   first
                     | exact (if_pos (by omega)).symm
                     | exact (if_neg (by omega)).symm)
                | (have hop : opC (tk b n r.1) = -13 := by unfold opC; rw [if_neg (by omega), if_pos (by omega)]
                   refine ⟨_, rfl, im6, lm6, ?_, rfl⟩
                   rw [den_oth hn9, ← hrd, loopP_y2 (f := 0) hq.1 (by rw [hop]; decide)]
                   refine RPO_step h4 hq.1 hag5 hlg5 h6 (by constructor <;> omega) ?_
                   rw [hop]
                   refine Eq.trans ?_ (bi2_13 _ _)
                   first
                     | exact (if_pos (by omega)).symm
                     | exact (if_neg (by omega)).symm)
        · refine q_iconst (t := 89) F dX9_not4_88 rfl ?_
          refine q_goto (t := 93) F dX9_not4_89 (by decide) ?_
          refine q_istore_n (t := 94) F dX9_not4_93 rfl (by decide) rfl rfl ?_
          refine q_aload_n (t := 95) F dX9_not4_94 rfl rfl rfl ?_
          refine wp_callV (t := 98) [] F dX9_not4_95 k_X9_next v_X9_next ml_X9_196 rfl rfl rfl rfl (Nat.le_of_ble_eq_true rfl) (by decide) (m_30 (by omega)) (c_nextQ _ G im4 bt rt lm4 b n hb r.1 h11 hlt (by omega)) rfl (kV ?_)
          rintro m' ⟨im5, lm5, h5, hag5, hlg5, rfl⟩
          refine q_aload_n (t := 99) F dX9_not4_98 rfl rfl rfl ?_
          refine wp_callV (t := 102) [] F dX9_not4_99 k_X9_added4 v_X9_added4 ml_X9_259 rfl rfl rfl rfl (Nat.le_of_ble_eq_true rfl) (by decide) (m_30 (by omega)) (hS im5 lm5 nm (adv b n r.1) (-1) h5 (((hag5.trans h4.2.2.1) 30 0 27 (by omega)).trans h27) (hnm.ag (hag5.trans h4.2.2.1))) rfl (kI ?_)
          rintro xB m' ⟨im6, lm6, h6, rfl⟩
          rw [stP_y] at h6
          have hrb := h6.1
          have hrb1 := hrb.1
          have hrb2 := hrb.2
          refine q_istore_n (t := 103) F dX9_not4_102 rfl (by decide) rfl rfl ?_
          refine q_iload_n (t := 104) F dX9_not4_103 rfl rfl rfl ?_
          refine q_if_eq (t := 107) (u := 115) F dX9_not4_104 (by first | exact hR _ _ _ | (constructor <;> omega)) (by decide) rfl (fun c104 => ?_) (fun c104 => ?_)
          · refine q_iload_n (t := 116) F dX9_not4_115 rfl rfl rfl ?_
            refine q_iload_n (t := 117) F dX9_not4_116 rfl rfl rfl ?_
            refine q_icmp_ne (t := 120) (u := 124) F dX9_not4_117 (by exact hra) (by exact hrb) (by decide) rfl (fun c117 => ?_) (fun c117 => ?_)
            · refine q_iconst (t := 125) F dX9_not4_124 rfl ?_
              refine q_iret F dX9_not4_125 rfl ?_
              first
                | (exfalso; omega)
                | (have hop : opC (tk b n r.1) = -12 := by unfold opC; rw [if_pos (by omega)]
                   refine ⟨_, rfl, im6, lm6, ?_, rfl⟩
                   rw [den_oth hn9, ← hrd, loopP_y2 (f := 0) hq.1 (by rw [hop]; decide)]
                   refine RPO_step h4 hq.1 hag5 hlg5 h6 (by constructor <;> omega) ?_
                   rw [hop]
                   refine Eq.trans ?_ (bi2_12 _ _)
                   first
                     | exact (if_pos (by omega)).symm
                     | exact (if_neg (by omega)).symm)
                | (have hop : opC (tk b n r.1) = -13 := by unfold opC; rw [if_neg (by omega), if_pos (by omega)]
                   refine ⟨_, rfl, im6, lm6, ?_, rfl⟩
                   rw [den_oth hn9, ← hrd, loopP_y2 (f := 0) hq.1 (by rw [hop]; decide)]
                   refine RPO_step h4 hq.1 hag5 hlg5 h6 (by constructor <;> omega) ?_
                   rw [hop]
                   refine Eq.trans ?_ (bi2_13 _ _)
                   first
                     | exact (if_pos (by omega)).symm
                     | exact (if_neg (by omega)).symm)
            · refine q_iconst (t := 121) F dX9_not4_120 rfl ?_
              refine q_goto (t := 125) F dX9_not4_121 (by decide) ?_
              refine q_iret F dX9_not4_125 rfl ?_
              first
                | (exfalso; omega)
                | (have hop : opC (tk b n r.1) = -12 := by unfold opC; rw [if_pos (by omega)]
                   refine ⟨_, rfl, im6, lm6, ?_, rfl⟩
                   rw [den_oth hn9, ← hrd, loopP_y2 (f := 0) hq.1 (by rw [hop]; decide)]
                   refine RPO_step h4 hq.1 hag5 hlg5 h6 (by constructor <;> omega) ?_
                   rw [hop]
                   refine Eq.trans ?_ (bi2_12 _ _)
                   first
                     | exact (if_pos (by omega)).symm
                     | exact (if_neg (by omega)).symm)
                | (have hop : opC (tk b n r.1) = -13 := by unfold opC; rw [if_neg (by omega), if_pos (by omega)]
                   refine ⟨_, rfl, im6, lm6, ?_, rfl⟩
                   rw [den_oth hn9, ← hrd, loopP_y2 (f := 0) hq.1 (by rw [hop]; decide)]
                   refine RPO_step h4 hq.1 hag5 hlg5 h6 (by constructor <;> omega) ?_
                   rw [hop]
                   refine Eq.trans ?_ (bi2_13 _ _)
                   first
                     | exact (if_pos (by omega)).symm
                     | exact (if_neg (by omega)).symm)
          · refine q_iload_n (t := 108) F dX9_not4_107 rfl rfl rfl ?_
            refine q_iload_n (t := 109) F dX9_not4_108 rfl rfl rfl ?_
            refine q_icmp_ge (t := 112) (u := 124) F dX9_not4_109 (by exact hra) (by exact hrb) (by decide) rfl (fun c109 => ?_) (fun c109 => ?_)
            · refine q_iconst (t := 125) F dX9_not4_124 rfl ?_
              refine q_iret F dX9_not4_125 rfl ?_
              first
                | (exfalso; omega)
                | (have hop : opC (tk b n r.1) = -12 := by unfold opC; rw [if_pos (by omega)]
                   refine ⟨_, rfl, im6, lm6, ?_, rfl⟩
                   rw [den_oth hn9, ← hrd, loopP_y2 (f := 0) hq.1 (by rw [hop]; decide)]
                   refine RPO_step h4 hq.1 hag5 hlg5 h6 (by constructor <;> omega) ?_
                   rw [hop]
                   refine Eq.trans ?_ (bi2_12 _ _)
                   first
                     | exact (if_pos (by omega)).symm
                     | exact (if_neg (by omega)).symm)
                | (have hop : opC (tk b n r.1) = -13 := by unfold opC; rw [if_neg (by omega), if_pos (by omega)]
                   refine ⟨_, rfl, im6, lm6, ?_, rfl⟩
                   rw [den_oth hn9, ← hrd, loopP_y2 (f := 0) hq.1 (by rw [hop]; decide)]
                   refine RPO_step h4 hq.1 hag5 hlg5 h6 (by constructor <;> omega) ?_
                   rw [hop]
                   refine Eq.trans ?_ (bi2_13 _ _)
                   first
                     | exact (if_pos (by omega)).symm
                     | exact (if_neg (by omega)).symm)
            · refine q_goto (t := 120) F dX9_not4_112 (by decide) ?_
              refine q_iconst (t := 121) F dX9_not4_120 rfl ?_
              refine q_goto (t := 125) F dX9_not4_121 (by decide) ?_
              refine q_iret F dX9_not4_125 rfl ?_
              first
                | (exfalso; omega)
                | (have hop : opC (tk b n r.1) = -12 := by unfold opC; rw [if_pos (by omega)]
                   refine ⟨_, rfl, im6, lm6, ?_, rfl⟩
                   rw [den_oth hn9, ← hrd, loopP_y2 (f := 0) hq.1 (by rw [hop]; decide)]
                   refine RPO_step h4 hq.1 hag5 hlg5 h6 (by constructor <;> omega) ?_
                   rw [hop]
                   refine Eq.trans ?_ (bi2_12 _ _)
                   first
                     | exact (if_pos (by omega)).symm
                     | exact (if_neg (by omega)).symm)
                | (have hop : opC (tk b n r.1) = -13 := by unfold opC; rw [if_neg (by omega), if_pos (by omega)]
                   refine ⟨_, rfl, im6, lm6, ?_, rfl⟩
                   rw [den_oth hn9, ← hrd, loopP_y2 (f := 0) hq.1 (by rw [hop]; decide)]
                   refine RPO_step h4 hq.1 hag5 hlg5 h6 (by constructor <;> omega) ?_
                   rw [hop]
                   refine Eq.trans ?_ (bi2_13 _ _)
                   first
                     | exact (if_pos (by omega)).symm
                     | exact (if_neg (by omega)).symm)
      · refine q_iload_n (t := 76) F dX9_not4_75 rfl rfl rfl ?_
        refine q_iret F dX9_not4_76 rfl ?_
        refine ⟨xA, rfl, im4, lm4, ?_, rfl⟩
        rw [den_oth hn9, ← hrd, loopP_n (fun q => ?_)]
        · exact h4
        · have q1 := q.1
          have q2 := q.2
          unfold opC at q2
          rw [if_neg (by omega), if_neg (by omega)] at q2
          exact q2 rfl
  · have hf : f = -1 := by omega
    subst hf
    have hlt : p < n := tk_lt (b := b) (by omega)
    have ht9 : tk b n p = 9 := by omega
    refine q_aload_n (t := 19) F dX9_not4_18 rfl rfl rfl ?_
    refine wp_callV (t := 22) [] F dX9_not4_19 k_X9_opens v_X9_opens ml_X9_223 rfl rfl rfl rfl (Nat.le_of_ble_eq_true rfl) (by decide) (m_30 (by omega)) (c_X9_opens _ G im bt rt lm b n hb p h hlt (by omega) 4 (by omega) h27) rfl (kI ?_)
    rintro x19 m' (⟨q, -⟩ | ⟨-, rfl, im2, lm2, h2, h227, hag, hlg, rfl⟩)
    · exact absurd q (by omega)
    refine q_if_ne (t := 25) (u := 27) F dX9_not4_22 (by first | exact hR _ _ _ | (constructor <;> omega)) (by decide) rfl (fun c22 => ?_) (fun c22 => ?_)
    · refine q_aload_n (t := 28) F dX9_not4_27 rfl rfl rfl ?_
      refine wp_callV (t := 31) [] F dX9_not4_28 k_X9_not5 v_X9_not5 ml_X9_244 rfl rfl rfl rfl (Nat.le_of_ble_eq_true rfl) (by decide) (m_30 (by omega)) (hN im2 lm2 nm (adv b n p) (-1) h2 (by omega) (hnm.ag27 hag)) rfl (kI ?_)
      rintro x28 m' ⟨im3, lm3, h3, rfl⟩
      rw [stP_y] at h3
      have hrv := h3.1
      have hrv1 := hrv.1
      have hrv2 := hrv.2
      refine q_istore_n (t := 32) F dX9_not4_31 rfl (by decide) rfl rfl ?_
      refine q_aload_n (t := 33) F dX9_not4_32 rfl rfl rfl ?_
      refine q_dupR (t := 34) F dX9_not4_33 rfl ?_
      refine g_X9_190 (t := 37) F dX9_not4_34 rfl rfl ?_
      try simp only [up_app, row_app, scr_app, cpy_app, Nat.reduceEqDiff, Int.reduceToNat, Int.toNat_natCast, and_true, true_and, and_false, false_and, and_self, reduceIte]
      refine q_iconst (t := 38) F dX9_not4_37 rfl ?_
      refine q_isub (t := 39) F dX9_not4_38 rfl ?_
      rw [show im3 30 0 27 - 1 = ((4 : Nat) : Int) by rw [h3.2.2.1 30 0 27 (by omega)]; omega]
      refine p_X9_190 (t := 42) F dX9_not4_39 rfl rfl ?_
      refine q_iload_n (t := 43) F dX9_not4_42 rfl rfl rfl ?_
      refine q_if_ne (t := 46) (u := 50) F dX9_not4_43 (by exact hrv) (by decide) rfl (fun c43 => ?_) (fun c43 => ?_)
      · refine q_iconst (t := 51) F dX9_not4_50 rfl ?_
        refine q_iret F dX9_not4_51 rfl ?_
        refine ⟨_, rfl, up im3 30 0 27 ((4 : Nat) : Int), lm3, ?_, rfl⟩
        rw [stP_y, den_not (m := 0) ht9]
        refine RPO_not (by omega) h27 hag hlg h3 ?_
        first
          | exact (if_pos (by omega)).symm
          | exact (if_neg (by omega)).symm
      · refine q_iconst (t := 47) F dX9_not4_46 rfl ?_
        refine q_goto (t := 51) F dX9_not4_47 (by decide) ?_
        refine q_iret F dX9_not4_51 rfl ?_
        refine ⟨_, rfl, up im3 30 0 27 ((4 : Nat) : Int), lm3, ?_, rfl⟩
        rw [stP_y, den_not (m := 0) ht9]
        refine RPO_not (by omega) h27 hag hlg h3 ?_
        first
          | exact (if_pos (by omega)).symm
          | exact (if_neg (by omega)).symm
    · refine q_iconst (t := 26) F dX9_not4_25 rfl ?_
      refine q_iret F dX9_not4_26 rfl ?_
      exfalso; omega
end
