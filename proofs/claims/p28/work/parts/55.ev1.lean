/-! THE CLASS AS IT BEGINS: what each call answers -/
def SF (im : IM) : Prop := im 18 0 3 = 0 ∧ im 18 0 4 = 0 ∧ im 18 0 5 = 1024 ∧ im 18 0 6 = 0 ∧ im 18 0 7 = 0 ∧ im 0 0 8 = 1 ∧ im 0 0 9 = 0 ∧ im 14 0 1 = 0 ∧ ∀ j, j < 4 → im 7 j 1 = -1 ∧ im 7 j 2 = 0
theorem SC0_SF {im : IM} (h : SC0 im) : SF im := by
  obtain ⟨-, ha, h8, h14, -, -⟩ := h
  have e : ∀ k i s, k ≠ 14 → k ≠ 15 → ¬ (k = 2 ∧ i = 0 ∧ s = 3) → ¬ (k = 3 ∧ i = 0) → ¬ (k = 4 ∧ i = 0) → ¬ (k = 0 ∧ i = 0 ∧ s = 8) → im k i s = imC0 k i s := ha
  refine ⟨?_, ?_, ?_, ?_, ?_, h8, ?_, h14, fun j hj => ⟨?_, ?_⟩⟩
  · rw [e 18 0 3 (by omega) (by omega) (by omega) (by omega) (by omega) (by omega)]; decide
  · rw [e 18 0 4 (by omega) (by omega) (by omega) (by omega) (by omega) (by omega)]; decide
  · rw [e 18 0 5 (by omega) (by omega) (by omega) (by omega) (by omega) (by omega)]; decide
  · rw [e 18 0 6 (by omega) (by omega) (by omega) (by omega) (by omega) (by omega)]; decide
  · rw [e 18 0 7 (by omega) (by omega) (by omega) (by omega) (by omega) (by omega)]; decide
  · rw [e 0 0 9 (by omega) (by omega) (by omega) (by omega) (by omega) (by omega)]; decide
  · rw [e 7 j 1 (by omega) (by omega) (by omega) (by omega) (by omega) (by omega)]
    rcases (by omega : j = 0 ∨ j = 1 ∨ j = 2 ∨ j = 3) with rfl | rfl | rfl | rfl <;> decide
  · rw [e 7 j 2 (by omega) (by omega) (by omega) (by omega) (by omega) (by omega)]
    exact imC0_k (by omega) (by omega)
theorem SC0_SC {im : IM} (h : SC0 im) : SC im := by
  have hF := SC0_SF h
  obtain ⟨hR, ha, h8, h14, hT, h15⟩ := h
  obtain ⟨f3, f4, f5, f6, f7, -, f9, -, fj⟩ := hF
  have hg : goodT im 0 := TX_good (by omega) (rd_first fst46).1 hT
  refine ⟨hR, ⟨by omega, by omega, by omega, by omega, by rw [f7]; exact hg, fun p hp => by omega⟩, by omega, by omega, by omega, fun j hj => ?_, ?_, by omega, fun j hj => ?_, ⟨Or.inl f9, fun q => by omega⟩, fun i hi => ?_⟩
  · obtain rfl : j = 0 := by omega
    exact hg
  · rw [ha 13 0 0 (by omega) (by omega) (by omega) (by omega) (by omega) (by omega)]
    exact imC0_k (by omega) (by omega)
  · have := fj j hj
    omega
  · rw [h15]
    unfold b46
    split
    · have := let12 (j := i) (by assumption)
      omega
    · omega
section Ev1
variable {im : IM}
theorem whenF_0 (h : im 18 0 3 = 0) (n N : Nat) : whenF im 0 n N = -1 := by
  unfold whenF
  rw [if_neg (by omega)]
theorem costF_0 (h : im 18 0 3 = 0) (n N : Nat) : costF im 0 n N = 0 := by
  unfold costF
  rw [if_pos (whenF_0 h n N)]
theorem sumF_0 (h : im 18 0 3 = 0) (n N : Nat) : sumF im 0 n N = 0 := by
  induction N with
  | zero => rfl
  | succ N ih => show sumF im 0 n N + costF im 0 n N = 0; rw [ih, costF_0 h]; rfl
theorem cntF_0 (h : im 18 0 3 = 0) (n N : Nat) : cntF im 0 n N = 0 := by
  induction N with
  | zero => rfl
  | succ N ih => show cntF im 0 n N + (if whenF im 0 n N = -1 then 0 else 1) = 0; rw [ih, if_pos (whenF_0 h n N)]; rfl
theorem firstF_0 (h : im 18 0 3 = 0) (n N : Nat) : firstF im 0 n N = -1 := by
  induction N with
  | zero => rfl
  | succ N ih =>
    show (if whenF im 0 n N ≠ -1 ∧ _ then (N : Int) else firstF im 0 n N) = -1
    rw [if_neg (fun q => q.1 (whenF_0 h n N)), ih]
theorem dB_0 (h : im 18 0 3 = 0) (n N : Nat) : dB (costF im 0 n) N = (-1, 0) := by
  induction N with
  | zero => rfl
  | succ N ih => rw [dB_s, ih, if_neg (by rw [costF_0 h]; exact Int.lt_irrefl 0)]
theorem run_0 (h : im 18 0 3 = 0) (n what : Int) : runA im n what = if (0 ≤ n ∧ n ≤ 60) ∧ 0 ≤ what ∧ what ≤ 4 then (if what < 2 then 0 else -1) else -2 := by
  unfold runA
  rw [sumF_0 h, cntF_0 h, firstF_0 h]
  (repeat' split) <;> first | rfl | (exfalso; omega)
theorem best_0 (h : im 18 0 3 = 0) (n what : Int) : bestA im n what = if (0 ≤ n ∧ n ≤ 60) ∧ 0 ≤ what ∧ what ≤ 1 then (if what = 0 then -1 else 0) else -2 := by
  unfold bestA
  rw [sumF_0 h, dB_0 h]
  (repeat' split) <;> first | rfl | (exfalso; omega)
theorem kissing_0 (h : im 18 0 3 = 0) (n what : Int) : kissingA im n what = if (0 ≤ n ∧ n ≤ 60) ∧ 0 ≤ what ∧ what ≤ 1 then (if what = 0 then -1 else 0) else -2 := by
  unfold kissingA
  rw [h]
  have e : kO im n.toNat (0 : Int).toNat (0 : Int).toNat = (-1, 0) := by
    show ((-1 : Int), sumF im 0 n.toNat 50) = _
    rw [sumF_0 h]
  rw [e]
  (repeat' split) <;> first | rfl | (exfalso; omega)
theorem chF_0 (h : im 18 0 3 = 0) (n i : Nat) : chF im n i = 0 := by
  have e1 : ∀ N, elsF im n N = 0 := by
    intro N
    induction N with
    | zero => rfl
    | succ N ih =>
      unfold elsF
      rw [ih, if_pos (whenF_0 h n N)]
      try rfl
  have e2 : ∀ N, byF im n i N = 0 := by
    intro N
    induction N with
    | zero => rfl
    | succ N ih =>
      unfold byF
      rw [ih]
      first
        | (rw [if_neg (fun q => q.1 (whenF_0 h n N))]; try rfl)
        | (rw [if_pos (Or.inl (whenF_0 h n N))]; try rfl)
        | (rw [if_pos (whenF_0 h n N)]; try rfl)
  unfold chF
  rw [e1, e2]
  rfl
theorem church_0 (h : im 18 0 3 = 0) (n what : Int) : churchA im n what = if (0 ≤ n ∧ n ≤ 60) ∧ 0 ≤ what ∧ what ≤ 1 then 0 else -2 := by
  have e : ∀ k, lst (chF im n.toNat) k = 0 := by
    intro k
    induction k with
    | zero => rfl
    | succ k ih => rw [lst_s, chF_0 h, chF_0 h, if_neg (Int.lt_irrefl 0), ih]
  unfold churchA
  rw [e, chF_0 h]
  (repeat' split) <;> first | rfl | (exfalso; omega)
theorem text_0 (h8 : im 0 0 8 = 1) (h14 : im 14 0 1 = 0) : textA im = -100 := by
  have hs : span isW (im 15 0) 0 0 = 0 := rfl
  have ht : ∀ p, tk (im 15 0) 0 p = 0 := fun p => tk_0 (Nat.zero_le p)
  have k1 : rdk (im 15 0) 0 1 = pFail 0 := by
    have : rdk (im 15 0) 0 1 = partP (im 15 0) 0 4 0 := stP_y
    rw [this]
    unfold partP
    rw [if_neg (by rw [ht]; decide)]
  have hp : (pFail 0).2.1 ≠ -1 := by decide
  have k2 : rdk (im 15 0) 0 2 = pFail 0 := by
    have : rdk (im 15 0) 0 2 = stP (partP (im 15 0) 0 5) (rdk (im 15 0) 0 1).1 (rdk (im 15 0) 0 1).2.1 := rfl
    rw [this, k1, stP_n hp]
    rfl
  have k3 : rdk (im 15 0) 0 3 = pFail 0 := by
    have : rdk (im 15 0) 0 3 = stP (partP (im 15 0) 0 6) (rdk (im 15 0) 0 2).1 (rdk (im 15 0) 0 2).2.1 := rfl
    rw [this, k2, stP_n hp]
    rfl
  have hF : textF im = 0 := by
    unfold textF
    rw [h14]
    show rdF (im 15 0) 0 = 0
    rw [rdF_eq, k3, if_neg hp]
    rfl
  unfold textA
  rw [if_pos (by omega), if_neg (by omega), hF]
  rfl
end Ev1
