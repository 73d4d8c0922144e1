/-! both sides as they begin -/
theorem spM_o {im : IM} {p : Nat} {a1 a2 a3 a4 a5 a6 a7 a8 : Int} {k i s : Nat} (h : k ≠ 31) : spM im p a1 a2 a3 a4 a5 a6 a7 a8 k i s = im k i s := by
  unfold spM
  simp only [up_app]
  repeat rw [if_neg (by omega)]
theorem spM_ri {im : IM} {p : Nat} {a1 a2 a3 a4 a5 a6 a7 a8 : Int} (h : RI im) (h1 : ri a1) (h2 : ri a2) (h3 : ri a3) (h4 : ri a4) (h5 : ri a5) (h6 : ri a6) (h7 : ri a7) (h8 : ri a8) : RI (spM im p a1 a2 a3 a4 a5 a6 a7 a8) := by
  unfold spM
  exact RI_up (RI_up (RI_up (RI_up (RI_up (RI_up (RI_up (RI_up h h1) h2) h3) h4) h5) h6) h7) h8
theorem chR9_ri {im : IM} (h : RI im) : RI (chR9 im) := by
  unfold chR9
  refine RI_up (RI_up (spM_ri (spM_ri (spM_ri (spM_ri (spM_ri (spM_ri (RI_up (RI_up h ?_) ?_) ?_ ?_ ?_ ?_ ?_ ?_ ?_ ?_) ?_ ?_ ?_ ?_ ?_ ?_ ?_ ?_) ?_ ?_ ?_ ?_ ?_ ?_ ?_ ?_) ?_ ?_ ?_ ?_ ?_ ?_ ?_ ?_) ?_ ?_ ?_ ?_ ?_ ?_ ?_ ?_) ?_ ?_ ?_ ?_ ?_ ?_ ?_ ?_) ?_) ?_
  all_goals (constructor <;> omega)
theorem chR9_o {im : IM} {k i s : Nat} (h : k ≠ 30) (h1 : k ≠ 31) (h2 : k ≠ 32) : chR9 im k i s = im k i s := by
  unfold chR9
  rw [up_app, if_neg (by omega), up_app, if_neg (by omega), spM_o h1, spM_o h1, spM_o h1, spM_o h1, spM_o h1, spM_o h1, up_app, if_neg (by omega), up_app, if_neg (by omega)]
theorem chR9_30 {im : IM} (h : ∀ k i s, 24 ≤ k → im k i s = 0) (s : Nat) : chR9 im 30 0 s = if s = 3 then 1 else if s = 46 then -1 else if s = 8 then 1024 else 0 := by
  have h1 : (30 : Nat) ≠ 31 := by decide
  unfold chR9
  rw [up_app]
  by_cases h3 : s = 3
  · rw [if_pos ⟨rfl, rfl, h3⟩, if_pos h3]
  · rw [if_neg (by omega), if_neg h3, up_app, if_neg (by omega), spM_o h1, spM_o h1, spM_o h1, spM_o h1, spM_o h1, spM_o h1, up_app]
    by_cases h46 : s = 46
    · rw [if_pos ⟨rfl, rfl, h46⟩, if_pos h46]
    · rw [if_neg (by omega), if_neg h46, up_app]
      by_cases h8 : s = 8
      · rw [if_pos ⟨rfl, rfl, h8⟩, if_pos h8]
      · rw [if_neg (by omega), if_neg h8]
        exact h 30 0 s (by omega)
theorem FR_0 {im : IM} (h : ∀ k i s, 24 ≤ k → im k i s = 0) (hR : RI im) : FR (chR9 im) := by
  refine ⟨chR9_ri hR, ?_, ?_, ?_, ?_, ?_, ?_, ?_, ?_, fun s => ?_⟩
  all_goals first | (rw [chR9_30 h]; rfl) | (rw [chR9_o (by decide) (by decide) (by decide)]; exact h 47 0 s (by omega))
theorem WI_lo {a b : IM} {w : Nat} (h : ∀ k i s, k < 24 → a k i s = b k i s) (hW : WI b w) : WI a w := by
  unfold WI
  simp only [h 18 _ _ (by omega)]
  refine ⟨hW.1, hW.2.1, hW.2.2.1, hW.2.2.2.1, goodT_congr (fun s => h 3 _ s (by omega)) (fun s => h 4 _ s (by omega)) hW.2.2.2.2.1, fun p hp => ?_⟩
  unfold PI
  simp only [h 21 _ _ (by omega), h 22 _ _ (by omega), h 23 _ _ (by omega)]
  exact hW.2.2.2.2.2 p hp
theorem SC_lo {a b : IM} (h : ∀ k i s, k < 24 → a k i s = b k i s) (hR : RI a) (hS : SC b) : SC a := by
  obtain ⟨-, hW, hh, htc, hru, hgt, hz, hrd, hsh, him, htp⟩ := hS
  unfold SC
  simp only [h 18 _ _ (by omega), h 0 _ _ (by omega), h 13 _ _ (by omega), h 14 _ _ (by omega), h 7 _ _ (by omega), h 15 _ _ (by omega)]
  exact ⟨hR, WI_lo h hW, hh, htc, hru, fun j hj => goodT_congr (fun s => h 3 _ s (by omega)) (fun s => h 4 _ s (by omega)) (hgt j hj), hz, hrd, hsh, ⟨him.1, fun h9 => ⟨WI_lo h (him.2 h9).1, (him.2 h9).2⟩⟩, htp⟩
theorem SF_lo {a b : IM} (h : ∀ k i s, k < 24 → a k i s = b k i s) (hF : SF b) : SF a := by
  unfold SF
  simp only [h 18 _ _ (by omega), h 0 _ _ (by omega), h 14 _ _ (by omega), h 7 _ _ (by omega)]
  exact hF
section Ev2
variable {im : IM}
theorem e_set (hF : SF im) (a : Int) (b : Int) (c : Int) : setA im a b c = (if a = 0 ∧ 0 ≤ c ∧ c ≤ 999 then 0 else if a = 1 ∧ 0 ≤ c ∧ c ≤ 16777215 then 1024 else -2) := by
  obtain ⟨f3, f4, f5, f6, f7, f8, f9, f14, fj⟩ := hF
  unfold setA
  (repeat' split) <;> first | rfl | omega | (exfalso; omega)
theorem e_man (hF : SF im) (a : Int) (b : Int) : manA im a b = (if (0 ≤ a ∧ a ≤ 5) ∧ 0 ≤ b ∧ b ≤ 9 then 0 else -2) := by
  obtain ⟨f3, f4, f5, f6, f7, f8, f9, f14, fj⟩ := hF
  unfold manA
  (repeat' split) <;> first | rfl | omega | (exfalso; omega)
theorem e_told (hF : SF im) (a : Int) (b : Int) : toldA im a b = (if b = 0 then 0 else if b = 1 then 1024 else -2) := by
  obtain ⟨f3, f4, f5, f6, f7, f8, f9, f14, fj⟩ := hF
  unfold toldA
  by_cases h0 : b = 0
  · rw [if_pos h0, if_pos h0]; exact f4
  by_cases h1 : b = 1
  · rw [if_neg h0, if_pos h1, if_neg h0, if_pos h1]; exact f5
  rw [if_neg h0, if_neg h1, if_neg h0, if_neg h1, if_neg (by omega)]
theorem e_fill (hF : SF im) (a : Int) (b : Int) (c : Int) (d : Int) : fillA im a b c d = (-2) := by
  obtain ⟨f3, f4, f5, f6, f7, f8, f9, f14, fj⟩ := hF
  unfold fillA
  rw [if_neg (by omega)]
theorem e_say (hF : SF im) (a : Int) (b : Int) (c : Int) : sayA im a b c = (-2) := by
  obtain ⟨f3, f4, f5, f6, f7, f8, f9, f14, fj⟩ := hF
  unfold sayA
  rw [if_neg (by omega)]
theorem e_floss (hF : SF im) (a : Int) (b : Int) : flossA im a b = (-2) := by
  obtain ⟨f3, f4, f5, f6, f7, f8, f9, f14, fj⟩ := hF
  unfold flossA
  rw [if_neg (by omega)]
theorem e_kiss (hF : SF im) (a : Int) (b : Int) : kissA im a b = (-2) := by
  obtain ⟨f3, f4, f5, f6, f7, f8, f9, f14, fj⟩ := hF
  unfold kissA
  rw [if_neg (by omega)]
theorem e_off (hF : SF im) (a : Int) (b : Int) (c : Int) : offA im a b c = (-2) := by
  obtain ⟨f3, f4, f5, f6, f7, f8, f9, f14, fj⟩ := hF
  unfold offA
  rw [if_neg (by omega)]
theorem e_foods (hF : SF im) (a : Int) (b : Int) (c : Int) : foodsA im a b c = (-2) := by
  obtain ⟨f3, f4, f5, f6, f7, f8, f9, f14, fj⟩ := hF
  unfold foodsA
  rw [if_neg (by omega)]
theorem e_few (hF : SF im) (a : Int) (b : Int) (c : Int) : fewA im a b c = (-2) := by
  obtain ⟨f3, f4, f5, f6, f7, f8, f9, f14, fj⟩ := hF
  unfold fewA
  rw [if_neg (by omega)]
theorem e_drawn (hF : SF im) (a : Int) (b : Int) (c : Int) : drawnA im a b c = (-2) := by
  obtain ⟨f3, f4, f5, f6, f7, f8, f9, f14, fj⟩ := hF
  unfold drawnA
  rw [if_neg (by omega)]
theorem e_feed (hF : SF im) (a : Int) : feedA im a = (if 0 ≤ a ∧ a ≤ 255 then 1 else -2) := by
  obtain ⟨f3, f4, f5, f6, f7, f8, f9, f14, fj⟩ := hF
  unfold feedA
  (repeat' split) <;> first | rfl | omega | (exfalso; omega)
theorem e_text (hF : SF im) : textA im = (-100) := by
  obtain ⟨f3, f4, f5, f6, f7, f8, f9, f14, fj⟩ := hF
  exact text_0 f8 f14
theorem e_force (hF : SF im) (a : Int) : forceA im a = (if a = 0 then 0 else -2) := by
  obtain ⟨f3, f4, f5, f6, f7, f8, f9, f14, fj⟩ := hF
  unfold forceA
  (repeat' split) <;> first | rfl | omega | (exfalso; omega)
theorem e_live (hF : SF im) : liveA im = (0) := by
  obtain ⟨f3, f4, f5, f6, f7, f8, f9, f14, fj⟩ := hF
  unfold liveA
  rw [if_neg (by omega), f3]
  rfl
theorem e_run (hF : SF im) (a : Int) (b : Int) : runA im a b = (if (0 ≤ a ∧ a ≤ 60) ∧ 0 ≤ b ∧ b ≤ 4 then (if b < 2 then 0 else -1) else -2) := by
  obtain ⟨f3, f4, f5, f6, f7, f8, f9, f14, fj⟩ := hF
  exact run_0 f3 a b
theorem e_best (hF : SF im) (a : Int) (b : Int) : bestA im a b = (if (0 ≤ a ∧ a ≤ 60) ∧ 0 ≤ b ∧ b ≤ 1 then (if b = 0 then -1 else 0) else -2) := by
  obtain ⟨f3, f4, f5, f6, f7, f8, f9, f14, fj⟩ := hF
  exact best_0 f3 a b
theorem e_kissing (hF : SF im) (a : Int) (b : Int) : kissingA im a b = (if (0 ≤ a ∧ a ≤ 60) ∧ 0 ≤ b ∧ b ≤ 1 then (if b = 0 then -1 else 0) else -2) := by
  obtain ⟨f3, f4, f5, f6, f7, f8, f9, f14, fj⟩ := hF
  exact kissing_0 f3 a b
theorem e_church (hF : SF im) (a : Int) (b : Int) : churchA im a b = (if (0 ≤ a ∧ a ≤ 60) ∧ 0 ≤ b ∧ b ≤ 1 then 0 else -2) := by
  obtain ⟨f3, f4, f5, f6, f7, f8, f9, f14, fj⟩ := hF
  exact church_0 f3 a b
theorem e_plan (hF : SF im) (a : Int) (b : Int) : planA im a b = (if (0 ≤ a ∧ a ≤ 3) ∧ 0 ≤ b ∧ b ≤ 1 then -11 else -2) := by
  obtain ⟨f3, f4, f5, f6, f7, f8, f9, f14, fj⟩ := hF
  unfold planA
  by_cases hv : (0 ≤ a ∧ a < 4) ∧ 0 ≤ b ∧ b < 2
  · rw [if_pos hv, if_pos (fj _ (by omega)).1, if_pos (by omega)]
  · rw [if_neg hv, if_neg (by omega)]
theorem e_film (hF : SF im) (a : Int) (b : Int) : filmA im a b = (-2) := by
  obtain ⟨f3, f4, f5, f6, f7, f8, f9, f14, fj⟩ := hF
  unfold filmA
  rw [if_neg (by omega)]
theorem e_chance (hF : SF im) (a : Int) (b : Int) (c : Int) (d : Int) : chanceA im a b c d = (-4611686018427387904) := by
  obtain ⟨f3, f4, f5, f6, f7, f8, f9, f14, fj⟩ := hF
  unfold chanceA
  rw [if_neg (by omega)]
theorem e_image (hF : SF im) : imageA im = (0) := by
  obtain ⟨f3, f4, f5, f6, f7, f8, f9, f14, fj⟩ := hF
  unfold imageA imageM becM
  rw [up_app, if_neg (by omega), bec_o (by omega) (by omega)]
  exact f3
theorem e_back (hF : SF im) : backA im = (-3) := by
  obtain ⟨f3, f4, f5, f6, f7, f8, f9, f14, fj⟩ := hF
  unfold backA
  rw [if_pos f9]
theorem e_count (hF : SF im) (a : Int) : countA im a = (if a = 3 then 1 else if 0 ≤ a ∧ a ≤ 5 then 0 else -2) := by
  obtain ⟨f3, f4, f5, f6, f7, f8, f9, f14, fj⟩ := hF
  have e : cntA im 0 (im 18 0 3).toNat = 0 := by rw [f3]; rfl
  unfold countA
  rw [e]
  (repeat' split) <;> first | rfl | omega | (exfalso; omega)
theorem e_sheet (hF : SF im) (a : Int) (b : Int) (c : Int) : sheetA a b c = (if ¬ (0 ≤ a ∧ a ≤ 3) ∨ ¬ (-1 ≤ b ∧ b ≤ 2) ∨ (0 ≤ b ∧ 40 < c) then -2 else if 0 ≤ b ∧ c < 0 then -14 else 1) := by
  obtain ⟨f3, f4, f5, f6, f7, f8, f9, f14, fj⟩ := hF
  unfold sheetA
  (repeat' split) <;> first | rfl | omega | (exfalso; omega)
theorem e_cell (hF : SF im) (a : Int) (b : Int) (c : Int) : cellAx im a b c = (if 0 ≤ a ∧ a ≤ 3 then -11 else -2) := by
  obtain ⟨f3, f4, f5, f6, f7, f8, f9, f14, fj⟩ := hF
  unfold cellAx cellA
  by_cases hv : 0 ≤ a ∧ a < 4
  · rw [if_pos hv, if_pos (fj _ (by omega)).1, if_pos (by omega)]
  · rw [if_neg hv, if_neg (by omega)]
theorem e_copy (hF : SF im) (a : Int) (b : Int) (c : Int) (d : Int) (e : Int) : copyA im a b c d e = (if (0 ≤ a ∧ a ≤ 3) ∧ 0 ≤ c ∧ c ≤ 3 then -11 else -2) := by
  obtain ⟨f3, f4, f5, f6, f7, f8, f9, f14, fj⟩ := hF
  unfold copyA
  by_cases hv : (0 ≤ a ∧ a < 4) ∧ 0 ≤ c ∧ c < 4
  · rw [if_pos hv, if_pos (Or.inl (fj _ (by omega)).1), if_pos (by omega)]
  · rw [if_neg hv, if_neg (by omega)]
theorem e_people (hF : SF im) (a : Int) (b : Int) (c : Int) (d : Int) : peopleA im a b c d = (if (0 ≤ a ∧ a ≤ 3) ∧ (0 ≤ b ∧ b ≤ 2) ∧ 0 ≤ d ∧ d ≤ 5 then -11 else -2) := by
  obtain ⟨f3, f4, f5, f6, f7, f8, f9, f14, fj⟩ := hF
  have e : peopleV im a b d = (if (0 ≤ a ∧ a ≤ 3) ∧ (0 ≤ b ∧ b ≤ 2) ∧ 0 ≤ d ∧ d ≤ 5 then -11 else -2) := by
    unfold peopleV
    by_cases hv : (0 ≤ a ∧ a < 4) ∧ (0 ≤ b ∧ b < 3) ∧ 0 ≤ d ∧ d ≤ 5
    · rw [if_pos hv, if_pos (fj _ (by omega)).1, if_pos (by omega)]
    · rw [if_neg hv, if_neg (by omega)]
  unfold peopleA
  rw [e, if_neg (by split <;> omega)]
theorem e_taken (hF : SF im) (a : Int) (b : Int) : takenA im a b = (if 0 ≤ b ∧ b ≤ 5 then -11 else -2) := by
  obtain ⟨f3, f4, f5, f6, f7, f8, f9, f14, fj⟩ := hF
  unfold takenA
  by_cases hv : 0 ≤ b ∧ b < 6
  · rw [if_pos hv, if_neg (by omega), if_pos (by omega)]
  · rw [if_neg hv, if_neg (by omega)]
end Ev2
