/-! both sides as they begin -/
theorem spM_o {im : IM} {p : Nat} {a1 a2 a3 a4 a5 a6 a7 a8 : Int} {k i s : Nat} (h : k ≠ 31) : spM im p a1 a2 a3 a4 a5 a6 a7 a8 k i s = im k i s := by
  unfold spM
  simp only [up_app]
  repeat rw [if_neg (by omega)]
theorem spM_ri {im : IM} {p : Nat} {a1 a2 a3 a4 a5 a6 a7 a8 : Int} (h : RI im) (h1 : ri a1) (h2 : ri a2) (h3 : ri a3) (h4 : ri a4) (h5 : ri a5) (h6 : ri a6) (h7 : ri a7) (h8 : ri a8) : RI (spM im p a1 a2 a3 a4 a5 a6 a7 a8) := by
  unfold spM
  exact RI_up (RI_up (RI_up (RI_up (RI_up (RI_up (RI_up (RI_up h h1) h2) h3) h4) h5) h6) h7) h8
theorem chR9_ri {im : IM} (h : RI im) : RI (chR9 im) := by
  unfold chR9
  refine RI_up (RI_up (spM_ri (spM_ri (spM_ri (spM_ri (spM_ri (spM_ri (RI_up (RI_up h ?_) ?_) ?_ ?_ ?_ ?_ ?_ ?_ ?_ ?_) ?_ ?_ ?_ ?_ ?_ ?_ ?_ ?_) ?_ ?_ ?_ ?_ ?_ ?_ ?_ ?_) ?_ ?_ ?_ ?_ ?_ ?_ ?_ ?_) ?_ ?_ ?_ ?_ ?_ ?_ ?_ ?_) ?_ ?_ ?_ ?_ ?_ ?_ ?_ ?_) ?_) ?_
  all_goals (constructor <;> omega)
theorem chR9_o {im : IM} {k i s : Nat} (h : k ≠ 30) (h1 : k ≠ 31) (h2 : k ≠ 32) : chR9 im k i s = im k i s := by
  unfold chR9
  rw [up_app, if_neg (by omega), up_app, if_neg (by omega), spM_o h1, spM_o h1, spM_o h1, spM_o h1, spM_o h1, spM_o h1, up_app, if_neg (by omega), up_app, if_neg (by omega)]
theorem chR9_30 {im : IM} (h : ∀ k i s, 24 ≤ k → im k i s = 0) (s : Nat) : chR9 im 30 0 s = if s = 3 then 1 else if s = 46 then -1 else if s = 8 then 1024 else 0 := by
  have h1 : (30 : Nat) ≠ 31 := by decide
  unfold chR9
  rw [up_app]
  by_cases h3 : s = 3
  · rw [if_pos ⟨rfl, rfl, h3⟩, if_pos h3]
  · rw [if_neg (by omega), if_neg h3, up_app, if_neg (by omega), spM_o h1, spM_o h1, spM_o h1, spM_o h1, spM_o h1, spM_o h1, up_app]
    by_cases h46 : s = 46
    · rw [if_pos ⟨rfl, rfl, h46⟩, if_pos h46]
    · rw [if_neg (by omega), if_neg h46, up_app]
      by_cases h8 : s = 8
      · rw [if_pos ⟨rfl, rfl, h8⟩, if_pos h8]
      · rw [if_neg (by omega), if_neg h8]
        exact h 30 0 s (by omega)
theorem WI_lo {a b : IM} {w : Nat} (h : ∀ k i s, k < 24 → a k i s = b k i s) (hW : WI b w) : WI a w := by
  unfold WI
  simp only [h 18 _ _ (by omega)]
  refine ⟨hW.1, hW.2.1, hW.2.2.1, hW.2.2.2.1, goodT_congr (fun s => h 3 _ s (by omega)) (fun s => h 4 _ s (by omega)) hW.2.2.2.2.1, fun p hp => ?_⟩
  unfold PI
  simp only [h 21 _ _ (by omega), h 22 _ _ (by omega), h 23 _ _ (by omega)]
  exact hW.2.2.2.2.2 p hp
theorem SC_lo {a b : IM} (h : ∀ k i s, k < 24 → a k i s = b k i s) (hR : RI a) (hS : SC b) : SC a := by
  obtain ⟨-, hW, hh, htc, hru, hgt, hz, hrd, hsh, him, htp⟩ := hS
  unfold SC
  simp only [h 18 _ _ (by omega), h 0 _ _ (by omega), h 13 _ _ (by omega), h 14 _ _ (by omega), h 7 _ _ (by omega), h 15 _ _ (by omega)]
  exact ⟨hR, WI_lo h hW, hh, htc, hru, fun j hj => goodT_congr (fun s => h 3 _ s (by omega)) (fun s => h 4 _ s (by omega)) (hgt j hj), hz, hrd, hsh, ⟨him.1, fun h9 => ⟨WI_lo h (him.2 h9).1, (him.2 h9).2⟩⟩, htp⟩
theorem SF_lo {a b : IM} (h : ∀ k i s, k < 24 → a k i s = b k i s) (hF : SF b) : SF a := by
  unfold SF
  simp only [h 18 _ _ (by omega), h 0 _ _ (by omega), h 14 _ _ (by omega), h 7 _ _ (by omega)]
  exact hF
