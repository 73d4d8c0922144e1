/-! the known words, as the reference asks for them: eight letters, 0 behind the last -/
def wlr (i k : Nat) : Int := if k < lenS.getD i 0 then letS i k else 0
theorem wl_0 : ∀ i, i < 12 → ∀ k, k < 8 → lenS.getD i 0 ≤ 6 ∧ 0 < lenS.getD i 0 ∧ (wlr i k = 0 ↔ lenS.getD i 0 ≤ k) := by decide
theorem wl_ri : ∀ i, i < 12 → ∀ k, k < 8 → 0 ≤ wlr i k ∧ wlr i k ≤ 122 := by decide
theorem wl_ne : ∀ i, i < 12 → ∀ i2, i2 < 12 → i ≠ i2 → lenS.getD i 0 ≠ lenS.getD i2 0 ∨ ∃ j, j < 8 ∧ j < lenS.getD i 0 ∧ letS i j ≠ letS i2 j := by decide
theorem std_one {b : Nat → Int} {p q i i2 : Nat} (hi : i < 12) (hi2 : i2 < 12) (h : stdS b p q i) (h2 : stdS b p q i2) : i = i2 := by
  by_cases e : i = i2
  · exact e
  · exfalso
    rcases wl_ne i hi i2 hi2 e with k | ⟨j, hj, hj2, k⟩
    · exact k (h.1.trans h2.1.symm)
    · exact k ((h.2 j hj2).symm.trans (h2.2 j (by rw [h2.1, ← h.1]; exact hj2)))
theorem wIx_std {b : Nat → Int} {p q i : Nat} (hi : i < 12) (h : stdS b p q i) : ∀ N, i < N → N ≤ 12 → wIx b p q N = i := by
  intro N
  induction N with
  | zero => intro q; omega
  | succ N ih =>
    intro h1 h2
    rw [wIx_s]
    split
    · rename_i hs
      rw [std_one (by omega) hi hs h]
    · rename_i hs
      refine ih ?_ (by omega)
      refine Nat.lt_of_le_of_ne (by omega) (fun e => hs (e ▸ h))
theorem wIx_of {b : Nat → Int} {p q : Nat} : ∀ N : Nat, wIx b p q N ≠ -1 → stdS b p q (wIx b p q N).toNat := by
  intro N
  induction N with
  | zero => intro h; exact absurd rfl h
  | succ N ih =>
    rw [wIx_s]
    split
    · rename_i hs
      intro _
      exact hs
    · exact ih
theorem wIx_iff {b : Nat → Int} {p q i : Nat} (hi : i < 12) : wIx b p q 12 = i ↔ stdS b p q i := by
  constructor
  · intro h
    have := wIx_of (b := b) (p := p) (q := q) 12 (by omega)
    rw [h] at this
    exact this
  · intro h
    exact wIx_std hi h 12 hi (Nat.le_refl 12)
theorem std_iff {b : Nat → Int} {n p e i : Nat} (hi : i < 12) (hpe : p < e) (hl : ∀ q, p ≤ q → q < e → isL (b q) = true) : stdS b p e i ↔ (e ≤ p + 8 ∧ ∀ k, k < 8 → (p + k < e ∧ b (p + k) = wlr i k ∨ e ≤ p + k ∧ wlr i k = 0)) := by
  have h6 := (wl_0 i hi 0 (by omega)).1
  have h7 := (wl_0 i hi 0 (by omega)).2.1
  constructor
  · intro h
    have hL := h.1
    refine ⟨by omega, fun k hk => ?_⟩
    have hw := (wl_0 i hi k hk).2.2
    by_cases hke : p + k < e
    · refine Or.inl ⟨hke, ?_⟩
      have hkl : k < lenS.getD i 0 := by omega
      rw [h.2 k hkl]
      unfold wlr
      rw [if_pos hkl]
    · exact Or.inr ⟨by omega, hw.mpr (by omega)⟩
  · intro h
    have hlen : lenS.getD i 0 = e - p := by
      refine Nat.le_antisymm ?_ ?_
      · by_cases hq : lenS.getD i 0 ≤ e - p
        · exact hq
        · exfalso
          have hk : e - p < 8 := by omega
          have h1 := h.2 (e - p) hk
          have hw := (wl_0 i hi (e - p) hk).2.2
          rcases h1 with k | k
          · omega
          · exact hq (hw.mp k.2)
      · by_cases hq : e - p ≤ lenS.getD i 0
        · exact hq
        · exfalso
          have hk : lenS.getD i 0 < 8 := by omega
          have h1 := h.2 (lenS.getD i 0) hk
          have hw := (wl_0 i hi (lenS.getD i 0) hk).2.2.mpr (Nat.le_refl _)
          have hl1 := isL_iff.mp (hl (p + lenS.getD i 0) (by omega) (by omega))
          rcases h1 with k | k <;> omega
    refine ⟨hlen, fun j hj => ?_⟩
    have h1 := h.2 j (by omega)
    have hw : wlr i j = letS i j := by unfold wlr; rw [if_pos hj]
    rcases h1 with k | k
    · exact k.2.trans hw
    · omega
/-- the word at hand is that one -/
abbrev wd (b : Nat → Int) (n p i : Nat) : Prop := p < n ∧ isL (b p) = true ∧ wIx b p (span isL b n p) 12 = i
theorem tk_L {b : Nat → Int} {n p : Nat} (hp : p < n) (hl : isL (b p) = true) : tk b n p = tkW (wIx b p (span isL b n p) 12) ∧ vl b n p = wIx b p (span isL b n p) 12 := by
  unfold tk vl
  rw [if_neg (by omega), if_pos hl, if_pos hl]
  exact ⟨rfl, rfl⟩
theorem tk_nL {b : Nat → Int} {n p : Nat} (h : ¬ (p < n ∧ isL (b p) = true)) : tk b n p < 3 ∨ 40 ≤ tk b n p := by
  unfold tk sgn
  by_cases hp : n ≤ p
  · rw [if_pos hp]; omega
  · rw [if_neg hp, if_neg (fun q => h ⟨by omega, q⟩)]
    (repeat' split) <;> omega
theorem wd_kw {b : Nat → Int} {n p i : Nat} (h1 : 6 ≤ i) (h2 : i < 12) : wd b n p i ↔ tk b n p = (i : Int) - 2 := by
  unfold wd
  constructor
  · intro ⟨hp, hl, h⟩
    rw [(tk_L hp hl).1, h]
    unfold tkW
    rw [if_neg (by omega), if_neg (by omega)]
  · intro h
    by_cases hc : p < n ∧ isL (b p) = true
    · refine ⟨hc.1, hc.2, ?_⟩
      rw [(tk_L hc.1 hc.2).1] at h
      unfold tkW at h
      (repeat' split at h) <;> omega
    · have := tk_nL hc
      omega
theorem wd_nm {b : Nat → Int} {n p i : Nat} (h2 : i < 6) : wd b n p i ↔ tk b n p = 3 ∧ vl b n p = i := by
  unfold wd
  have hw := wIx_in b p (span isL b n p) 12
  constructor
  · intro ⟨hp, hl, h⟩
    rw [(tk_L hp hl).1, (tk_L hp hl).2, h]
    refine ⟨?_, rfl⟩
    unfold tkW
    rw [if_neg (by omega), if_pos (by omega)]
  · intro ⟨h, h3⟩
    by_cases hc : p < n ∧ isL (b p) = true
    · refine ⟨hc.1, hc.2, ?_⟩
      rw [(tk_L hc.1 hc.2).2] at h3
      exact h3
    · have := tk_nL hc
      omega
theorem tk_3 {b : Nat → Int} {n p : Nat} (h : tk b n p = 3) : ∃ i : Nat, i < 6 ∧ vl b n p = i ∧ wd b n p i := by
  by_cases hc : p < n ∧ isL (b p) = true
  · have hw := wIx_in b p (span isL b n p) 12
    have e := tk_L hc.1 hc.2
    rw [h] at e
    have e1 := e.1
    unfold tkW at e1
    obtain ⟨i, hi⟩ : ∃ i : Nat, wIx b p (span isL b n p) 12 = i := ⟨(wIx b p (span isL b n p) 12).toNat, by split at e1; omega; split at e1 <;> omega⟩
    refine ⟨i, ?_, e.2.trans hi, hc.1, hc.2, hi⟩
    split at e1
    · omega
    · split at e1 <;> omega
  · have := tk_nL hc
    omega
/-- the end of the token at hand -/
def eT (b : Nat → Int) (n p : Nat) : Nat := span isL b n p

set_option maxHeartbeats 4000000 in
theorem c_X9_isLetter (l : Launch) (G : GS) (im : IM) (bt rt : Nat) (lm : IM) (b : Nat → Int) (n : Nat) (hb : byt b n) (hR : RI im) (hB : BRr b n im) (p e : Nat) (he : e ≤ n) (h25 : im 30 0 25 = p) (h23 : im 30 0 23 = e) (k : Nat) (hk : k < 8) (hpn : p ≤ n) (c : Int) (hc : 0 ≤ c ∧ c ≤ 122) : Cn l (XR G) yX9_isLetter Y_X9_isLetter [vR 30 0, vI (k : Int), vI c] (im, rs bt rt, lm) (pI fun x m' => x = (if p + k < e ∧ b (p + k) = c ∨ e ≤ p + k ∧ c = 0 then 1 else 0) ∧ m' = (im, rs bt rt, lm)) := by
  refine cn_of (by decide) (okR G) rfl (Nat.le_of_ble_eq_true rfl) ?_
  intro M ad hMl F
  subst hMl
  have hn := hb.1
  have e25 : im 30 0 25 + (k : Int) = ((p + k : Nat) : Int) := by omega
  have hbp : p + k < n → 0 ≤ b (p + k) ∧ b (p + k) ≤ 255 := fun q => hb.2 (p + k) (by omega)
  refine wp_pad 0 ?_
  show Wp M (XR G) ad Y_X9_isLetter (pI fun x m' => x = (if p + k < e ∧ b (p + k) = c ∨ e ≤ p + k ∧ c = 0 then 1 else 0) ∧ m' = (im, rs bt rt, lm)) 0 [some (vR 30 0), some (vI (k : Int)), some (vI c)] [] (im, rs bt rt, lm)
  refine q_aload_n (t := 1) F dX9_isLetter_0 rfl rfl rfl ?_
  refine g_X9_161 (t := 4) F dX9_isLetter_1 rfl rfl ?_
  refine q_iload_n (t := 5) F dX9_isLetter_4 rfl rfl rfl ?_
  refine q_iadd (t := 6) F dX9_isLetter_5 rfl ?_
  refine q_aload_n (t := 7) F dX9_isLetter_6 rfl rfl rfl ?_
  refine g_X9_155 (t := 10) F dX9_isLetter_7 rfl rfl ?_
  refine q_icmp_ge (t := 13) (u := 35) F dX9_isLetter_10 (by rw [h25]; constructor <;> omega) (by rw [h23]; constructor <;> omega) (by decide) rfl (fun c10 => ?_) (fun c10 => ?_)
  · refine q_iload_n (t := 36) F dX9_isLetter_35 rfl rfl rfl ?_
    refine q_if_ne (t := 39) (u := 43) F dX9_isLetter_36 (by constructor <;> omega) (by decide) rfl (fun c36 => ?_) (fun c36 => ?_)
    · refine q_iconst (t := 44) F dX9_isLetter_43 rfl ?_
      refine q_zret F dX9_isLetter_44 rfl (by decide) ?_
      refine ⟨_, rfl, ?_, rfl⟩
      refine Eq.symm ?_
      first
        | exact if_pos (by omega)
        | exact if_neg (by omega)
    · refine q_iconst (t := 40) F dX9_isLetter_39 rfl ?_
      refine q_goto (t := 44) F dX9_isLetter_40 (by decide) ?_
      refine q_zret F dX9_isLetter_44 rfl (by decide) ?_
      refine ⟨_, rfl, ?_, rfl⟩
      refine Eq.symm ?_
      first
        | exact if_pos (by omega)
        | exact if_neg (by omega)
  · refine q_aload_n (t := 14) F dX9_isLetter_13 rfl rfl rfl ?_
    refine q_aload_n (t := 15) F dX9_isLetter_14 rfl rfl rfl ?_
    refine g_X9_161 (t := 18) F dX9_isLetter_15 rfl rfl ?_
    refine q_iload_n (t := 19) F dX9_isLetter_18 rfl rfl rfl ?_
    refine q_iadd (t := 20) F dX9_isLetter_19 rfl ?_
    rw [e25]
    refine wp_callV (t := 23) [_] F dX9_isLetter_20 k_X9_byteAt v_X9_byteAt ml_X9_158 rfl rfl rfl rfl (Nat.le_of_ble_eq_true rfl) (by decide) (m_30 (by omega)) (c_X9_byteAt _ G im bt rt _ b n hb hR hB (p + k) (by omega)) rfl (kI ?_)
    rintro x20 m' ⟨hx20, rfl⟩
    refine q_iload_n (t := 24) F dX9_isLetter_23 rfl rfl rfl ?_
    refine q_icmp_ne (t := 27) (u := 31) F dX9_isLetter_24 (by rcases hx20 with q | q <;> constructor <;> omega) (by constructor <;> omega) (by decide) rfl (fun c24 => ?_) (fun c24 => ?_)
    · refine q_iconst (t := 32) F dX9_isLetter_31 rfl ?_
      refine q_goto (t := 44) F dX9_isLetter_32 (by decide) ?_
      refine q_zret F dX9_isLetter_44 rfl (by decide) ?_
      refine ⟨_, rfl, ?_, rfl⟩
      refine Eq.symm ?_
      first
        | exact if_pos (by omega)
        | exact if_neg (by omega)
    · refine q_iconst (t := 28) F dX9_isLetter_27 rfl ?_
      refine q_goto (t := 44) F dX9_isLetter_28 (by decide) ?_
      refine q_zret F dX9_isLetter_44 rfl (by decide) ?_
      refine ⟨_, rfl, ?_, rfl⟩
      refine Eq.symm ?_
      first
        | exact if_pos (by omega)
        | exact if_neg (by omega)
