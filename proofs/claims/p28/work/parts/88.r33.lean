/-! the reference: a new text, a new man -/

theorem agZ.Y {a b : IM} (h : agZ a b) : agY a b := fun k i s hs => h k i s (by omega)
theorem txI_31 {im : IM} {s i : Nat} (hs : (s : Int) < im 30 0 3) (hi : i < 160) : txI im 31 0 (160 * s + i) = im 31 0 (160 * s + i) := by
  unfold txI
  rw [up_app, if_neg (by omega), up_app, if_neg (by omega)]
  unfold cpR
  rw [if_neg (by omega)]
theorem txI_32 {im : IM} {s : Nat} (hs : (s : Int) < im 30 0 3) : txI im 32 0 s = im 32 0 s := by
  unfold txI
  rw [up_app, if_neg (by omega), up_app, if_neg (by omega)]
  unfold cpR
  rw [if_neg (by omega)]
theorem txI_row {im : IM} (h : RX im) {s : Nat} (hs : (s : Int) < im 30 0 3) : 0 ≤ txI im 32 0 s ∧ txI im 32 0 s ≤ 160 ∧ rdF (rowR (txI im) s) (txI im 32 0 s).toNat = -1 := by
  have e := h.2.2.2.2 s hs
  rw [txI_32 hs]
  refine ⟨e.1, e.2.1, ?_⟩
  rw [rdF_cg (b := rowR (txI im) s) (c := rowR im s) (n := (im 32 0 s).toNat) (fun i hi => txI_31 hs (by omega))]
  exact e.2.2
theorem txI_b {im : IM} (h : RX im) : ∀ i, i < 960 → 0 ≤ txI im 31 0 i ∧ txI im 31 0 i ≤ 255 := by
  intro i hi
  have h6 := h.2.2.1
  unfold txI
  rw [up_app, if_neg (by omega), up_app, if_neg (by omega)]
  unfold cpR
  split
  · exact h.1 _ (by omega)
  · exact h.2.1 i hi
theorem txI_RI {im : IM} (h : RI im) : RI (txI im) := RI_up (RI_up (cpR_RI h _ _) (h _ _ _)) (by constructor <;> omega)
theorem RC_txI {im : IM} (h : RC im) : RC (txI im) := by
  obtain ⟨hR, hX, h4, h12, h7, h8, hP⟩ := h
  exact ⟨txI_RI hR, ⟨hX.1, txI_b hX, ⟨Int.le_refl 0, by show (0 : Int) ≤ 160; omega⟩, hX.2.2.2.1, fun s hs => txI_row hX hs⟩, h4, h12, h7, h8, hP⟩
theorem RC_txJ {im : IM} (h : RC im) (h3 : im 30 0 3 ≠ 6) (hF : rdF (txB im) (im 30 0 6).toNat = -1) : RC (up (txI im) 30 0 3 (im 30 0 3 + 1)) := by
  obtain ⟨hR, hX, h4, h12, h7, h8, hP⟩ := h
  have h3' := hX.2.2.2.1
  have h6 := hX.2.2.1
  refine ⟨RI_up (txI_RI hR) (by constructor <;> omega), ⟨hX.1, txI_b hX, ⟨Int.le_refl 0, by show (0 : Int) ≤ 160; omega⟩, ?_, fun s hs => ?_⟩, ⟨h4.1, ?_⟩, h12, h7, h8, hP⟩
  · show 0 ≤ im 30 0 3 + 1 ∧ im 30 0 3 + 1 ≤ 6
    omega
  · have hs2 : (s : Int) < im 30 0 3 + 1 := hs
    by_cases hc : (s : Int) < im 30 0 3
    · exact txI_row hX hc
    · have e : s = (im 30 0 3).toNat := by omega
      subst e
      have e32 : txI im 32 0 (im 30 0 3).toNat = im 30 0 6 := by
        unfold txI
        rw [up_app, if_neg (by omega), up_app, if_pos ⟨rfl, rfl, rfl⟩]
      show 0 ≤ txI im 32 0 (im 30 0 3).toNat ∧ txI im 32 0 (im 30 0 3).toNat ≤ 160 ∧ rdF (rowR (txI im) (im 30 0 3).toNat) (txI im 32 0 (im 30 0 3).toNat).toNat = -1
      rw [e32]
      exact ⟨h6.1, h6.2, hF⟩
  · show im 30 0 4 < im 30 0 3 + 1
    omega
theorem RC_text0 {im im' : IM} (h : RC im) (hR : RI im') (ha : agZ im' (txI im)) : RC im' := (RC_txI h).ag hR ha.Y
theorem RC_text1 {im im' : IM} (h : RC im) (h3 : im 30 0 3 ≠ 6) (hF : rdF (txB im) (im 30 0 6).toNat = -1) (hR : RI im') (ha : agZ im' (txI im)) : RC (up im' 30 0 3 (im 30 0 3 + 1)) := by
  have h3' := h.2.1.2.2.2.1
  refine (RC_txJ h h3 hF).ag (RI_up hR (by constructor <;> omega)) (fun k i s hs => ?_)
  rw [up_app, up_app, ha k i s (by omega)]
