/-! a text that was read: what it tells -/
theorem rdk_s (b : Nat → Int) (n k : Nat) : rdk b n (k + 1) = stP (partP b n (4 + (k : Int))) (rdk b n k).1 (rdk b n k).2.1 := rfl
theorem rdk_f {b : Nat → Int} {n k : Nat} (h : (rdk b n (k + 1)).2.1 = -1) : (rdk b n k).2.1 = -1 := by
  refine Classical.byContradiction (fun z => ?_)
  rw [rdk_s, stP_n z] at h
  exact z h
theorem rdk_y {b : Nat → Int} {n k : Nat} (h : (rdk b n k).2.1 = -1) : rdk b n (k + 1) = partP b n (4 + (k : Int)) (rdk b n k).1 := by rw [rdk_s, h, stP_y]
theorem rdk_le (b : Nat → Int) (n : Nat) : ∀ k, (rdk b n k).1 ≤ n := by
  intro k
  induction k with
  | zero => exact (span_in isW b n _ 0 rfl).2 (Nat.zero_le _)
  | succ k ih =>
    by_cases h : (rdk b n k).2.1 = -1
    · rw [rdk_y h]
      exact (PG_part b n _ (by omega) _ ih).2.1
    · rw [rdk_s, stP_n h]
      exact ih
theorem rdk_len (b : Nat → Int) (n : Nat) : ∀ k, (rdk b n k).2.1 = -1 → (stL b n k).length ≤ (rdk b n k).1 := by
  intro k
  induction k with
  | zero => intro _; exact Nat.zero_le _
  | succ k ih =>
    intro h
    have h0 := rdk_f h
    have h1 := ih h0
    have h2 := PG_part b n (4 + (k : Int)) (by omega) _ (rdk_le b n k)
    have h3 : (stL b n (k + 1)).length = (stL b n k).length + (rdk b n (k + 1)).2.2.1.length := List.length_append
    rw [h3]
    rw [rdk_y h0] at h ⊢
    have := h2.2.2.1 h
    omega
theorem rdk_EV {b : Nat → Int} {n k : Nat} (h : (rdk b n (k + 1)).2.1 = -1) : EV 31 (rdk b n (k + 1)).2.2.1 (rdk b n (k + 1)).2.2.2 := by
  have h0 := rdk_f h
  rw [rdk_y h0] at h ⊢
  exact EVP_part b n _ (by omega) _ (rdk_le b n k) h
theorem stL_pre (b : Nat → Int) (n k q : Nat) (hq : q < (stL b n k).length) : ∀ d, (stL b n (k + d)).getD q 0 = (stL b n k).getD q 0 := by
  have hl : ∀ d, (stL b n k).length ≤ (stL b n (k + d)).length := by
    intro d
    induction d with
    | zero => exact Nat.le_refl _
    | succ d ih =>
      have : (stL b n (k + (d + 1))).length = (stL b n (k + d)).length + (rdk b n (k + d + 1)).2.2.1.length := List.length_append
      omega
  intro d
  induction d with
  | zero => rfl
  | succ d ih =>
    rw [← ih]
    show (stL b n (k + d) ++ (rdk b n (k + d + 1)).2.2.1).getD q 0 = _
    have := hl d
    rw [List.getD_eq_getElem?_getD, List.getElem?_append_left (by omega), ← List.getD_eq_getElem?_getD]
theorem stL_get (b : Nat → Int) (n k s : Nat) (hk : k < 3) (hs : s < (rdk b n (k + 1)).2.2.1.length) : (stL b n 3).getD ((stL b n k).length + s) 0 = (rdk b n (k + 1)).2.2.1.getD s 0 ∧ (stL b n k).length + s < (stL b n 3).length := by
  have h3 : (stL b n (k + 1)).length = (stL b n k).length + (rdk b n (k + 1)).2.2.1.length := List.length_append
  have hl : ∀ d, (stL b n (k + 1)).length ≤ (stL b n (k + 1 + d)).length := by
    intro d
    induction d with
    | zero => exact Nat.le_refl _
    | succ d ih =>
      have : (stL b n (k + 1 + (d + 1))).length = (stL b n (k + 1 + d)).length + (rdk b n (k + 1 + d + 1)).2.2.1.length := List.length_append
      omega
  have h4 := stL_pre b n (k + 1) ((stL b n k).length + s) (by omega) (2 - k)
  have h5 := hl (2 - k)
  rw [show k + 1 + (2 - k) = 3 by omega] at h4 h5
  refine ⟨?_, by omega⟩
  rw [h4]
  show (stL b n k ++ (rdk b n (k + 1)).2.2.1).getD _ 0 = _
  rw [List.getD_eq_getElem?_getD, List.getElem?_append_right (by omega), ← List.getD_eq_getElem?_getD, show (stL b n k).length + s - (stL b n k).length = s by omega]
theorem rdF_k {b : Nat → Int} {n : Nat} (h : rdF b n = -1) : ∀ k, k ≤ 3 → (rdk b n k).2.1 = -1 := by
  have h3 : (rdk b n 3).2.1 = -1 := by
    rw [rdF_eq] at h
    refine Classical.byContradiction (fun z => ?_)
    rw [if_neg z] at h
    exact z h
  have h2 := rdk_f h3
  have h1 := rdk_f h2
  have h0 := rdk_f h1
  intro k hk
  rcases (by omega : k = 0 ∨ k = 1 ∨ k = 2 ∨ k = 3) with rfl | rfl | rfl | rfl <;> assumption
/-- what a part of a text that was read says, under names -/
def valT (b : Nat → Int) (n part : Nat) (nm : Nat → Int) : Int := (rdk b n (part + 1)).2.2.2 nm
theorem TX_tell {b : Nat → Int} {n j : Nat} {im : IM} (hF : rdF b n = -1) (h : TX b n j im) (part : Nat) (hp : part < 3) (nm k : Nat → Int) : (tellQ im j part nm k).2 0 = valT b n part nm := by
  have hk := rdF_k hF (part + 1) (by omega)
  have ea : pa im j part = (stL b n part).length := by
    unfold pa
    by_cases h0 : part = 0
    · rw [if_pos h0, h0]; rfl
    · rw [if_neg h0, h.1 (part - 1) (by omega), show part - 1 + 1 = part by omega]
      exact Int.toNat_natCast _
  have eb : pb im j part = (stL b n part).length + (rdk b n (part + 1)).2.2.1.length := by
    unfold pb
    rw [h.1 part hp, Int.toNat_natCast]
    exact List.length_append
  have hE := rdk_EV hk (im 3 j) nm (stL b n part).length 0 k (fun s hs => by
    have hg := stL_get b n part s hp hs
    rw [h.2 _ hg.2]
    exact hg.1) (Nat.le_refl _)
  obtain ⟨k', e1, e2, -⟩ := hE
  unfold tellQ
  rw [ea, eb, show (stL b n part).length + (rdk b n (part + 1)).2.2.1.length - (stL b n part).length = (rdk b n (part + 1)).2.2.1.length by omega, e1]
  exact e2
theorem TX_good {b : Nat → Int} {n j : Nat} {im : IM} (hn : n ≤ 160) (hF : rdF b n = -1) (h : TX b n j im) : goodT im j := by
  refine ⟨fun part hp => ?_, fun part hp nm k => by rw [TX_tell hF h part hp, TX_tell hF h part hp]⟩
  rw [h.1 part hp]
  have h1 := rdk_len b n (part + 1) (rdF_k hF _ (by omega))
  have h2 := rdk_le b n (part + 1)
  omega
theorem TX_tellV {b : Nat → Int} {n j : Nat} {im : IM} (hF : rdF b n = -1) (h : TX b n j im) (part : Nat) (hp : part < 3) (nm : Nat → Int) : tellV im j part nm = clip (valT b n part nm) := by
  unfold tellV
  rw [TX_tell hF h part hp]
def textF (im : IM) : Int := rdF (im 15 0) (im 14 0 1).toNat
def textA (im : IM) : Int := if im 0 0 8 < 6 then (if textF im = -1 then im 0 0 8 else -100 - textF im) else -4
/-- behind text() -/
def textR (im F : IM) : Prop := if im 0 0 8 < 6 then (∀ k i s, k ≠ 14 → ¬ (k = 2 ∧ i = (im 0 0 8).toNat ∧ s = 3) → ¬ (k = 3 ∧ i = (im 0 0 8).toNat) → ¬ (k = 4 ∧ i = (im 0 0 8).toNat) → ¬ (k = 0 ∧ i = 0 ∧ s = 8) → F k i s = im k i s) ∧ F 14 0 1 = 0 ∧ (textF im = -1 → TX (im 15 0) (im 14 0 1).toNat (im 0 0 8).toNat F ∧ F 0 0 8 = im 0 0 8 + 1) ∧ (textF im ≠ -1 → F 0 0 8 = im 0 0 8) else F = im
theorem rdF_in (b : Nat → Int) (n : Nat) : rdF b n = -1 ∨ 0 ≤ rdF b n ∧ rdF b n ≤ n := by
  have h : ∀ k, (rdk b n k).2.1 = -1 ∨ 0 ≤ (rdk b n k).2.1 ∧ (rdk b n k).2.1 ≤ n := by
    intro k
    induction k with
    | zero => exact Or.inl rfl
    | succ k ih =>
      by_cases h0 : (rdk b n k).2.1 = -1
      · rw [rdk_y h0]
        exact (PG_part b n _ (by omega) _ (rdk_le b n k)).2.2.2
      · rw [rdk_s, stP_n h0]
        exact ih
  have h3 := h 3
  have hl := rdk_le b n 3
  rw [rdF_eq]
  (repeat' split) <;> omega

set_option maxHeartbeats 4000000 in
theorem c_X8_text (l : Launch) (G : GS) (im : IM) (bt rt : Nat) (lm : IM) (hbt : bt < 6) (hrt : rt < 6) (hS : SC im) : Cn l (XC G) yX8_text Y_X8_text [vR 0 0] (im, rs bt rt, lm) (pI fun x m' => x = textA im ∧ ∃ F, textR im F ∧ RI F ∧ stC lm F m') := by
  refine cn_of (by decide) (okC G) rfl (Nat.le_of_ble_eq_true rfl) ?_
  intro M ad hMl F
  subst hMl
  obtain ⟨hR, hW, hh, htc, hru, hgt, hz, hrd, hsh, him, htp⟩ := hS
  have w1 := hW.1
  have w2 := hW.2.1
  have w3 := hW.2.2.1
  have w4 := hW.2.2.2.1
  have w5 := hW.2.2.2.2.1
  obtain ⟨c, hc⟩ : ∃ c : Nat, im 0 0 8 = c := ⟨(im 0 0 8).toNat, by omega⟩
  obtain ⟨n, hn⟩ : ∃ n : Nat, im 14 0 1 = n := ⟨(im 14 0 1).toNat, by omega⟩
  have hFi := rdF_in (im 15 0) n
  have htF : textF im = rdF (im 15 0) n := by unfold textF; rw [hn]; rfl
  have hby : byt (im 15 0) n := ⟨by omega, htp⟩
  refine wp_pad 1 ?_
  show Wp M (XC G) ad Y_X8_text (pI fun x m' => x = textA im ∧ ∃ F, textR im F ∧ RI F ∧ stC lm F m') 0 [some (vR 0 0), none] [] (im, rs bt rt, lm)
  refine q_aload_n (t := 1) F dX8_text_0 rfl rfl rfl ?_
  refine g_X8_81 (t := 4) F dX8_text_1 rfl rfl ?_
  refine q_bipush (t := 6) F dX8_text_4 (by decide) rfl ?_
  refine q_icmp_lt (t := 9) (u := 12) F dX8_text_6 (by constructor <;> omega) (by constructor <;> omega) (by decide) rfl (fun c6 => ?_) (fun c6 => ?_)
  · refine q_aload_n (t := 13) F dX8_text_12 rfl rfl rfl ?_
    refine g_X8_35 (t := 16) F dX8_text_13 rfl rfl ?_
    refine q_aload_n (t := 17) F dX8_text_16 rfl rfl rfl ?_
    refine g_X8_11 (t := 20) F dX8_text_17 rfl rfl ?_
    refine q_aload_n (t := 21) F dX8_text_20 rfl rfl rfl ?_
    refine g_X8_81 (t := 24) F dX8_text_21 rfl rfl ?_
    rw [hc]
    first | refine laN_1 (t := 25) F dX8_text_24 (by omega) rfl ?_ | refine la_1 (t := 25) F dX8_text_24 (by omega) (by omega) rfl ?_
    refine wp_callV (t := 28) [_] F dX8_text_25 k_X4_read v_X4_read ml_X8_77 rfl rfl rfl rfl (Nat.le_of_ble_eq_true rfl) (by decide) (m_14 (by omega)) (c_X4_read _ G im bt rt c lm (by omega) (im 15 0) n hby hR rfl hn) rfl (kI ?_)
    rintro x25 m' ⟨im1, rfl, hR1, ha1, h141, hTX, rfl⟩
    have e08 : im1 0 0 8 = im 0 0 8 := ha1 0 0 8 (by omega) (by omega) (by omega) (by omega)
    refine q_istore_n (t := 29) F dX8_text_28 rfl (by decide) rfl rfl ?_
    refine q_iload_n (t := 30) F dX8_text_29 rfl rfl rfl ?_
    refine q_iconst (t := 31) F dX8_text_30 rfl ?_
    refine q_icmp_eq (t := 34) (u := 39) F dX8_text_31 (by constructor <;> omega) (by constructor <;> omega) (by decide) rfl (fun c31 => ?_) (fun c31 => ?_)
    · refine q_aload_n (t := 40) F dX8_text_39 rfl rfl rfl ?_
      refine q_dupR (t := 41) F dX8_text_40 rfl ?_
      refine g_X8_81 (t := 44) F dX8_text_41 rfl rfl ?_
      try simp only [up_app, row_app, scr_app, cpy_app, Nat.reduceEqDiff, Int.reduceToNat, Int.toNat_natCast, and_true, true_and, and_false, false_and, and_self, reduceIte]
      refine q_iconst (t := 45) F dX8_text_44 rfl ?_
      refine q_iadd (t := 46) F dX8_text_45 rfl ?_
      refine p_X8_81 (t := 49) F dX8_text_46 rfl rfl ?_
      refine q_aload_n (t := 50) F dX8_text_49 rfl rfl rfl ?_
      refine g_X8_81 (t := 53) F dX8_text_50 rfl rfl ?_
      try simp only [up_app, row_app, scr_app, cpy_app, Nat.reduceEqDiff, Int.reduceToNat, Int.toNat_natCast, and_true, true_and, and_false, false_and, and_self, reduceIte]
      refine q_iconst (t := 54) F dX8_text_53 rfl ?_
      refine q_isub (t := 55) F dX8_text_54 rfl ?_
      refine q_iret F dX8_text_55 rfl ?_
      refine ⟨_, rfl, ?_, up im1 0 0 8 (im1 0 0 8 + 1), ?_, RI_up hR1 (by constructor <;> omega), up im1 0 0 8 (im1 0 0 8 + 1), bt, c, hbt, by omega, RI_up hR1 (by constructor <;> omega), agP_rfl _, rfl⟩
      · unfold textA
        rw [if_pos (by omega), if_pos (by omega)]
        omega
      · unfold textR
        rw [if_pos (by omega), hc, hn, Int.toNat_natCast, Int.toNat_natCast]
        refine ⟨fun k i s q1 q2 q3 q4 q5 => by rw [up_app, if_neg (by omega)]; exact ha1 k i s q1 q2 q3 q4, by rw [up_app, if_neg (by omega)]; exact h141, fun q => ⟨?_, ?_⟩, fun q => absurd (by omega) q⟩
        · have h1 := hTX (by omega)
          exact ⟨fun k hk => by rw [up_app, if_neg (by omega)]; exact h1.1 k hk, fun s hs => by rw [up_app, if_neg (by omega)]; exact h1.2 s hs⟩
        · rw [up_app, if_pos ⟨rfl, rfl, rfl⟩, e08, hc]
    · refine q_bipush (t := 36) F dX8_text_34 (by decide) rfl ?_
      refine q_iload_n (t := 37) F dX8_text_36 rfl rfl rfl ?_
      refine q_isub (t := 38) F dX8_text_37 rfl ?_
      refine q_iret F dX8_text_38 rfl ?_
      refine ⟨_, rfl, ?_, im1, ?_, hR1, im1, bt, c, hbt, by omega, hR1, agP_rfl _, rfl⟩
      · unfold textA
        rw [if_pos (by omega), if_neg (by omega), htF]
      · unfold textR
        rw [if_pos (by omega), hc, Int.toNat_natCast]
        exact ⟨fun k i s q1 q2 q3 q4 _ => ha1 k i s q1 q2 q3 q4, h141, fun q => by omega, fun _ => by omega⟩
  · refine q_bipush (t := 11) F dX8_text_9 (by decide) rfl ?_
    refine q_iret F dX8_text_11 rfl ?_
    refine ⟨_, rfl, ?_, im, ?_, hR, im, bt, rt, hbt, hrt, hR, agP_rfl _, rfl⟩
    · unfold textA
      rw [if_neg (by omega)]
    · unfold textR
      rw [if_neg (by omega)]

theorem SC_text {im F : IM} (hS : SC im) (hR : RI F) (h : textR im F) : SC F := by
  unfold textR at h
  split at h
  · rename_i hlt
    obtain ⟨hf, h14, hy, hn⟩ := h
    obtain ⟨hRi, hW, hh, htc, hru, hgt, hz, hrd, hsh, him, htp⟩ := hS
    have e08 : F 0 0 8 = im 0 0 8 ∨ F 0 0 8 = im 0 0 8 + 1 := by
      by_cases q : textF im = -1
      · exact Or.inr (hy q).2
      · exact Or.inl (hn q)
    have e00 : ∀ s, s ≠ 8 → F 0 0 s = im 0 0 s := fun s hs => hf 0 0 s (by omega) (by omega) (by omega) (by omega) (by omega)
    have e18 : ∀ i s, F 18 i s = im 18 i s := fun i s => hf 18 i s (by omega) (by omega) (by omega) (by omega) (by omega)
    have eT : ∀ k i s, (k = 3 ∨ k = 4) → i ≠ (im 0 0 8).toNat → F k i s = im k i s := fun k i s hk hi => hf k i s (by omega) (by omega) (by omega) (by omega) (by omega)
    have eP : ∀ k i s, 5 ≤ k → k ≠ 14 → F k i s = im k i s := fun k i s hk hk2 => hf k i s hk2 (by omega) (by omega) (by omega) (by omega)
    have hWI : ∀ w, im 18 w 7 < im 0 0 8 → WI im w → WI F w := by
      intro w hr hw
      have w4 := hw.2.2.2.1
      unfold WI
      simp only [e18]
      refine ⟨hw.1, hw.2.1, hw.2.2.1, hw.2.2.2.1, goodT_congr (fun s => eT 3 _ s (Or.inl rfl) (by omega)) (fun s => eT 4 _ s (Or.inr rfl) (by omega)) hw.2.2.2.2.1, fun p hp => ?_⟩
      have hq := hw.2.2.2.2.2 p hp
      unfold PI at hq ⊢
      simp only [eP 21 _ _ (by omega) (by omega), eP 22 _ _ (by omega) (by omega), eP 23 _ _ (by omega) (by omega)]
      exact hq
    refine ⟨hR, hWI 0 hru hW, ?_, by omega, ?_, ?_, ?_, ?_, ?_, ?_, ?_⟩
    · rw [e18]; exact hh
    · rw [e18]; omega
    · intro j hj
      by_cases hjc : j = (im 0 0 8).toNat
      · by_cases q : textF im = -1
        · rw [hjc]
          exact TX_good (by omega) q (hy q).1
        · have := hn q
          omega
      · exact goodT_congr (fun s => eT 3 _ s (Or.inl rfl) hjc) (fun s => eT 4 _ s (Or.inr rfl) hjc) (hgt j (by omega))
    · rw [eP 13 0 0 (by omega) (by omega)]; exact hz
    · rw [h14]; omega
    · intro j hj
      rw [eP 7 j 1 (by omega) (by omega), eP 7 j 2 (by omega) (by omega)]
      exact hsh j hj
    · rw [e00 9 (by omega), e18, e18]
      refine ⟨him.1, fun h9 => ?_⟩
      have := him.2 h9
      exact ⟨hWI 2 this.2.2 this.1, this.2.1, by omega⟩
    · intro i hi
      rw [eP 15 0 i (by omega) (by omega)]; exact htp i hi
  · rw [h]; exact hS
