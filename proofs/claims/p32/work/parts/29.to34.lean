section
/-! the class stays in order -/
theorem WI_per {a b : IM} {w : Nat} (hw : w = 0 ∨ w = 2) (h : ∀ k i s, per k i s → a k i s = b k i s) (hW : WI b w) : WI a w := by
  have w1 := hW.1
  have h18 : ∀ s, a 18 w s = b 18 w s := fun s => h 18 w s (by unfold per; omega)
  have hp : ∀ k p s, p < 5 → (k = 21 ∨ k = 22 ∨ k = 23) → a k (5 * w + p) s = b k (5 * w + p) s := fun k p s h5 hk => h k _ s (by unfold per; omega)
  have ht : ∀ k j s, (k = 3 ∨ k = 4) → a k j s = b k j s := fun k j s hk => h k _ s (by unfold per; omega)
  unfold WI
  simp only [h18]
  refine ⟨hW.1, hW.2.1, hW.2.2.1, hW.2.2.2.1, goodT_congr (fun s => ht 3 _ s (Or.inl rfl)) (fun s => ht 4 _ s (Or.inr rfl)) hW.2.2.2.2.1, fun p hlt => ?_⟩
  have hq := hW.2.2.2.2.2 p hlt
  unfold PI
  rw [hp 21 p 0 (by omega) (by omega), hp 21 p 1 (by omega) (by omega)]
  refine ⟨hq.1, hq.2.1, fun g hg => ?_⟩
  rw [hp 22 p g (by omega) (by omega), hp 23 p g (by omega) (by omega)]
  exact hq.2.2 g hg
theorem SC_agP {a b : IM} (h : agP a b) (hR : RI a) (hS : SC b) : SC a := by
  obtain ⟨-, hW, hh, htc, hru, hgt, hz, hrd, hsh, him, htp⟩ := hS
  have e0 : ∀ s, a 0 0 s = b 0 0 s := fun s => h.1 0 0 s (by unfold per; omega)
  have e18 : ∀ w s, w ≠ 1 → a 18 w s = b 18 w s := fun w s hw => h.1 18 w s (by unfold per; omega)
  have e7 : ∀ j s, a 7 j s = b 7 j s := fun j s => h.1 7 j s (by unfold per; omega)
  have e14 : a 14 0 1 = b 14 0 1 := h.1 14 0 1 (by unfold per; omega)
  have e15 : ∀ s, a 15 0 s = b 15 0 s := fun s => h.1 15 0 s (by unfold per; omega)
  refine ⟨hR, WI_per (Or.inl rfl) h.1 hW, ?_, ?_, ?_, ?_, ?_, ?_, ?_, ?_, ?_⟩
  · rw [e18 0 4 (by omega)]; exact hh
  · rw [e0]; exact htc
  · rw [e18 0 7 (by omega), e0]; exact hru
  · intro j hj
    rw [e0] at hj
    exact goodT_congr (fun s => h.1 3 j s (by unfold per; omega)) (fun s => h.1 4 j s (by unfold per; omega)) (hgt j hj)
  · rw [h.2]; exact hz
  · rw [e14]; exact hrd
  · intro j hj
    rw [e7, e7]; exact hsh j hj
  · rw [e0, e0, e18 2 4 (by omega), e18 2 7 (by omega)]
    exact ⟨him.1, fun h9 => ⟨WI_per (Or.inr rfl) h.1 (him.2 h9).1, (him.2 h9).2⟩⟩
  · intro i hi
    rw [e15]; exact htp i hi
theorem SC_st {lm F : IM} {m' : Mem} (h : stC lm F m') (hS : SC F) : ∃ im' bt' rt', bt' < 6 ∧ rt' < 6 ∧ SC im' ∧ agP im' F ∧ m' = (im', rs bt' rt', lm) := by
  obtain ⟨im', bt', rt', h1, h2, h3, h4, h5⟩ := h
  exact ⟨im', bt', rt', h1, h2, SC_agP h4 h3 hS, h4, h5⟩
/-- only the true world is another -/
theorem SC_w0 {a b : IM} (hS : SC b) (hR : RI a) (hW : WI a 0) (hh : a 18 0 4 ≤ 999) (hr : a 18 0 7 < b 0 0 8) (hf : ∀ k i s, ¬ (k = 18 ∧ i = 0) → ¬ (21 ≤ k ∧ k ≤ 23 ∧ i < 5) → a k i s = b k i s) : SC a := by
  obtain ⟨-, -, -, htc, hru, hgt, hz, hrd, hsh, him, htp⟩ := hS
  have e0 : ∀ s, a 0 0 s = b 0 0 s := fun s => hf 0 0 s (by omega) (by omega)
  have e7 : ∀ j s, a 7 j s = b 7 j s := fun j s => hf 7 j s (by omega) (by omega)
  refine ⟨hR, hW, hh, ?_, ?_, ?_, ?_, ?_, ?_, ?_, ?_⟩
  · rw [e0]; exact htc
  · rw [e0]; exact hr
  · intro j hj
    rw [e0] at hj
    exact goodT_congr (fun s => hf 3 j s (by omega) (by omega)) (fun s => hf 4 j s (by omega) (by omega)) (hgt j hj)
  · rw [hf 13 0 0 (by omega) (by omega)]; exact hz
  · rw [hf 14 0 1 (by omega) (by omega)]; exact hrd
  · intro j hj
    rw [e7, e7]; exact hsh j hj
  · rw [e0, e0, hf 18 2 4 (by omega) (by omega), hf 18 2 7 (by omega) (by omega)]
    refine ⟨him.1, fun h9 => ⟨?_, (him.2 h9).2⟩⟩
    have hW2 := (him.2 h9).1
    have w1 := hW2.1
    exact WI_cells hW2 (fun s _ => hf _ _ _ (by omega) (by omega)) (by rw [hf 18 2 4 (by omega) (by omega)]; exact hW2.2.1) (fun p s _ => hf _ _ _ (by omega) (by omega)) (fun j s => hf _ _ _ (by omega) (by omega)) (fun j s => hf _ _ _ (by omega) (by omega)) (fun p g h5 hp hg => by
      rw [hf _ _ _ (by omega) (by omega), hf 23 _ _ (by omega) (by omega)]
      exact (hW2.2.2.2.2.2 p hp).2.2 g hg)
  · intro i hi
    rw [hf 15 0 i (by omega) (by omega)]; exact htp i hi
theorem SC_set {im : IM} {what of v : Int} (hS : SC im) (hv : ri v) : SC (setM im what of v) := by
  have hW := hS.2.1
  have w1 := hW.1
  unfold setM
  split
  · split
    · refine SC_w0 hS (RI_up hS.1 hv) (WI_cells hW (fun s hs => by rw [up_app, if_neg (by omega)]) (by rw [up_app, if_pos ⟨rfl, rfl, rfl⟩]; omega) (fun p s _ => rfl) (fun j s => rfl) (fun j s => rfl) (fun p g h5 hp hg => (hW.2.2.2.2.2 p hp).2.2 g hg)) (by rw [up_app, if_pos ⟨rfl, rfl, rfl⟩]; omega) (by rw [up_app, if_neg (by omega)]; exact hS.2.2.2.2.1) (fun k i s h1 h2 => by rw [up_app, if_neg (by omega)])
    · exact hS
  split
  · split
    · rename_i hr5
      have hW5 : WI (up im 18 0 5 v) 0 := by
        refine ⟨hW.1, hW.2.1, ?_, hW.2.2.2.1, goodT_congr (fun s => rfl) (fun s => rfl) hW.2.2.2.2.1, hW.2.2.2.2.2⟩
        rw [up_app, if_pos ⟨rfl, rfl, rfl⟩]; exact hr5
      exact SC_w0 hS (RI_up hS.1 hv) hW5 hS.2.2.1 hS.2.2.2.2.1 (fun k i s h1 h2 => by rw [up_app, if_neg (by omega)])
    · exact hS
  split
  · rename_i h
    have hWn : WI (up im 21 (5 * 0 + of.toNat) 1 v) 0 := by
      refine ⟨hW.1, hW.2.1, hW.2.2.1, hW.2.2.2.1, goodT_congr (fun s => rfl) (fun s => rfl) hW.2.2.2.2.1, fun p hp => ?_⟩
      have hq := hW.2.2.2.2.2 p hp
      refine ⟨?_, ?_, hq.2.2⟩
      · rw [up_app, if_neg (by omega)]; exact hq.1
      · rw [up_app]; split
        · exact h.2.2
        · exact hq.2.1
    exact SC_w0 hS (RI_up hS.1 hv) hWn hS.2.2.1 hS.2.2.2.2.1 (fun k i s h1 h2 => by rw [up_app, if_neg (by omega)])
  · exact hS
theorem wel_o {im : IM} {w : Nat} {a b : Int} {k i s : Nat} (h : ¬ (k = 18 ∧ i = w ∧ s = 3)) (h2 : ¬ ((k = 21 ∨ k = 22) ∧ i = 5 * w + (im 18 w 3).toNat)) : welM im w a b k i s = im k i s := by
  unfold welM
  rw [up_app, if_neg h, fl_app, if_neg (by omega), up_app, if_neg (by omega), up_app, if_neg (by omega)]
theorem wel_WI {im : IM} {w : Nat} {a b : Int} (hW : WI im w) (h5 : im 18 w 3 < 5) (ha : 0 ≤ a ∧ a < 6) (hb : 0 ≤ b ∧ b < 10) : WI (welM im w a b) w := by
  have w1 := hW.1
  have e3 : welM im w a b 18 w 3 = im 18 w 3 + 1 := by
    unfold welM; rw [up_app, if_pos ⟨rfl, rfl, rfl⟩]
  refine ⟨by rw [e3]; omega, by rw [wel_o (by omega) (by omega)]; exact hW.2.1, by rw [wel_o (by omega) (by omega)]; exact hW.2.2.1, by rw [wel_o (by omega) (by omega)]; exact hW.2.2.2.1, ?_, fun p hp => ?_⟩
  · rw [wel_o (by omega) (by omega)]
    exact goodT_congr (fun s => wel_o (by omega) (by omega)) (fun s => wel_o (by omega) (by omega)) hW.2.2.2.2.1
  · rw [e3] at hp
    by_cases hpz : p = (im 18 w 3).toNat
    · subst hpz
      have e0 : welM im w a b 21 (5 * w + (im 18 w 3).toNat) 0 = a := by
        unfold welM; simp [up_app, fl_app]
      have e1 : welM im w a b 21 (5 * w + (im 18 w 3).toNat) 1 = b := by
        unfold welM; simp [up_app, fl_app]
      refine ⟨by rw [e0]; exact ha, by rw [e1]; exact hb, fun g hg => ?_⟩
      have e2 : welM im w a b 22 (5 * w + (im 18 w 3).toNat) g = -1 := by
        unfold welM; rw [up_app, if_neg (by omega), fl_app, if_pos ⟨rfl, rfl, hg⟩]
      rw [e2]; omega
    · have hq := hW.2.2.2.2.2 p (by omega)
      refine ⟨by rw [wel_o (by omega) (by omega)]; exact hq.1, by rw [wel_o (by omega) (by omega)]; exact hq.2.1, fun g hg => ?_⟩
      rw [wel_o (by omega) (by omega), wel_o (by omega) (by omega)]
      exact hq.2.2 g hg
theorem wel_RI {im : IM} {w : Nat} {a b : Int} (hR : RI im) (hW : WI im w) (ha : ri a) (hb : ri b) : RI (welM im w a b) := by
  have w1 := hW.1
  unfold welM
  exact RI_up (RI_fl (RI_up (RI_up hR ha) hb) (by constructor <;> omega)) (by constructor <;> omega)
theorem SC_man {im : IM} {a b : Int} (hS : SC im) (ha : ri a) (hb : ri b) : SC (manM im a b) := by
  have hW := hS.2.1
  have w1 := hW.1
  unfold manM
  split
  · rename_i h
    exact SC_w0 hS (wel_RI hS.1 hW ha hb) (wel_WI hW h.2 h.1.1 h.1.2) (by rw [wel_o (by omega) (by omega)]; exact hS.2.2.1) (by rw [wel_o (by omega) (by omega)]; exact hS.2.2.2.2.1) (fun k i s h1 h2 => wel_o (by omega) (by omega))
  · exact hS
theorem SC_fill {im : IM} {man gap w hours : Int} (hS : SC im) : SC (fillM im man gap w hours) := by
  have hW := hS.2.1
  have w1 := hW.1
  unfold fillM
  split
  · rename_i h
    refine SC_w0 hS (RI_up (RI_up hS.1 (by constructor <;> omega)) (by constructor <;> omega)) (WI_cells hW (fun s hs => rfl) hW.2.1 (fun p s _ => rfl) (fun j s => rfl) (fun j s => rfl) (fun p g h5 hp hg => ?_)) hS.2.2.1 hS.2.2.2.2.1 (fun k i s h1 h2 => by rw [up_app, if_neg (by omega), up_app, if_neg (by omega)])
    have hb := (hW.2.2.2.2.2 p hp).2.2 g hg
    simp only [up_app]
    (repeat' split) <;> omega
  · exact hS
theorem SC_feed {im : IM} {c : Int} (hS : SC im) : SC (feedM im c) := by
  unfold feedM
  split
  · rename_i h
    obtain ⟨hR, hW, hh, htc, hru, hgt, hz, hrd, hsh, him, htp⟩ := hS
    refine ⟨RI_up (RI_up hR (by constructor <;> omega)) (by constructor <;> omega), WI_cells hW (fun s hs => rfl) hW.2.1 (fun p s _ => rfl) (fun j s => rfl) (fun j s => rfl) (fun p g h5 hp hg => (hW.2.2.2.2.2 p hp).2.2 g hg), hh, htc, hru, fun j hj => goodT_congr (fun s => rfl) (fun s => rfl) (hgt j hj), hz, ?_, hsh, ⟨him.1, fun h9 => ⟨WI_cells (him.2 h9).1 (fun s hs => rfl) (him.2 h9).1.2.1 (fun p s _ => rfl) (fun j s => rfl) (fun j s => rfl) (fun p g h5 hp hg => ((him.2 h9).1.2.2.2.2.2 p hp).2.2 g hg), (him.2 h9).2⟩⟩, fun i hi => ?_⟩
    · rw [up_app, if_pos ⟨rfl, rfl, rfl⟩]; omega
    · have := htp i hi
      rw [up_app, if_neg (by omega), up_app]
      split <;> omega
  · exact hS
theorem SC_force {im : IM} {t : Int} (hS : SC im) : SC (forceM im t) := by
  have hW := hS.2.1
  unfold forceM
  split
  · rename_i h
    obtain ⟨hR, hW, hh, htc, hru, hgt, hz, hrd, hsh, him, htp⟩ := hS
    have hS' : SC im := ⟨hR, hW, hh, htc, hru, hgt, hz, hrd, hsh, him, htp⟩
    have hW7 : WI (up im 18 0 7 t) 0 := by
      refine ⟨hW.1, hW.2.1, hW.2.2.1, ?_, ?_, hW.2.2.2.2.2⟩
      · rw [up_app, if_pos ⟨rfl, rfl, rfl⟩]; omega
      · rw [up_app, if_pos ⟨rfl, rfl, rfl⟩]
        exact goodT_congr (fun s => rfl) (fun s => rfl) (hgt t.toNat (by omega))
    exact SC_w0 hS' (RI_up hR (by constructor <;> omega)) hW7 hh (by rw [up_app, if_pos ⟨rfl, rfl, rfl⟩]; exact h.2) (fun k i s h1 h2 => by rw [up_app, if_neg (by omega)])
  · exact hS
theorem utt_RI {im : IM} {w man : Nat} {word food : Int} (hR : RI im) (hwo : 0 ≤ word ∧ word < 16) : RI (uttM im w man word food) := by
  unfold uttM
  split
  · exact hR
  · exact RI_up (RI_up hR (by constructor <;> omega)) (by constructor <;> omega)
theorem SC_say {im : IM} {man w food : Int} (hS : SC im) : SC (sayM im man w food) := by
  have hW := hS.2.1
  have w1 := hW.1
  unfold sayM
  split
  · rename_i h
    exact SC_w0 hS (utt_RI hS.1 h.2.1) (utt_WI hW h.2.1) (by rw [utt_o _ _ _ _ _ (by omega)]; exact hS.2.2.1) (by rw [utt_o _ _ _ _ _ (by omega)]; exact hS.2.2.2.2.1) (fun k i s h1 h2 => utt_o _ _ _ _ _ (by omega))
  · exact hS
theorem SC_floss {im : IM} {man gap : Int} (hS : SC im) : SC (flossM im man gap) := by
  have hW := hS.2.1
  have w1 := hW.1
  unfold flossM
  split
  · rename_i h
    exact SC_w0 hS (RI_up hS.1 (by constructor <;> omega)) (flo_WI hW) hS.2.2.1 hS.2.2.2.2.1 (fun k i s h1 h2 => by rw [up_app, if_neg (by omega)])
  · exact hS
theorem SC_kiss {im : IM} {man other : Int} (hS : SC im) : SC (kissM im man other) := by
  have hW := hS.2.1
  have w1 := hW.1
  unfold kissM
  split
  · rename_i h
    exact SC_w0 hS (RI_hnd hS.1) (hnd_WI hW (by omega)) (by rw [hnd_o _ _ _ _ (by omega)]; exact hS.2.2.1) (by rw [hnd_o _ _ _ _ (by omega)]; exact hS.2.2.2.2.1) (fun k i s h1 h2 => hnd_o _ _ _ _ (by omega))
  · exact hS
theorem SC_live {im : IM} (hS : SC im) : SC (liveM im) := by
  have hW := hS.2.1
  have w1 := hW.1
  have w2 := hW.2.1
  have hh := hS.2.2.1
  unfold liveM
  split
  · exact hS
  · exact SC_w0 hS (RI_up (RI_pas hS.1) (by constructor <;> omega)) (pas_WI hW (by omega)) (by rw [up_app, if_pos ⟨rfl, rfl, rfl⟩]; omega) (by rw [up_app, if_neg (by omega), pasM_18 _ _ _ (by decide)]; exact hS.2.2.2.2.1) (fun k i s h1 h2 => by rw [up_app, if_neg (by omega), pasM_o _ _ _ (by omega) (by omega) (by omega)])
/-! the image, the sheets -/
def imageM (im : IM) : IM := up (becM im 2 0) 0 0 9 1
def backA (im : IM) : Int := if im 0 0 9 = 0 then -3 else im 18 2 3
def backM (im : IM) : IM := if im 0 0 9 = 0 then im else becM im 0 2
theorem bec_o {im : IM} {w v n k i s : Nat} (h : ¬ (k = 18 ∧ i = w)) (h2 : ¬ (21 ≤ k ∧ k ≤ 23 ∧ 5 * w ≤ i ∧ i < 5 * w + n)) : becP im w v n k i s = im k i s := by
  rw [becP_app, if_neg (by omega), if_neg (by omega)]
theorem SC_image {im : IM} (hS : SC im) : SC (imageM im) := by
  obtain ⟨hR, hW, hh, htc, hru, hgt, hz, hrd, hsh, him, htp⟩ := hS
  have w1 := hW.1
  have hf : ∀ k i s, ¬ (k = 0 ∧ s = 9) → ¬ (k = 18 ∧ i = 2) → ¬ (21 ≤ k ∧ k ≤ 23 ∧ 10 ≤ i) → imageM im k i s = im k i s := by
    intro k i s h1 h2 h3
    unfold imageM becM
    rw [up_app, if_neg (by omega), bec_o h2 (by omega)]
  have hf2 : ∀ k i s, k ≠ 0 → imageM im k i s = becM im 2 0 k i s := by
    intro k i s h1
    unfold imageM
    rw [up_app, if_neg (by omega)]
  refine ⟨RI_up (RI_bec hR) (by constructor <;> omega), ?_, ?_, ?_, ?_, ?_, ?_, ?_, ?_, ?_, ?_⟩
  · exact WI_cells hW (fun s _ => hf _ _ _ (by omega) (by omega) (by omega)) (by rw [hf _ _ _ (by omega) (by omega) (by omega)]; exact hW.2.1) (fun p s _ => hf _ _ _ (by omega) (by omega) (by omega)) (fun j s => hf _ _ _ (by omega) (by omega) (by omega)) (fun j s => hf _ _ _ (by omega) (by omega) (by omega)) (fun p g h5 hp hg => by
      rw [hf _ _ _ (by omega) (by omega) (by omega), hf 23 _ _ (by omega) (by omega) (by omega)]
      exact (hW.2.2.2.2.2 p hp).2.2 g hg)
  · rw [hf _ _ _ (by omega) (by omega) (by omega)]; exact hh
  · rw [hf _ _ _ (by omega) (by omega) (by omega)]; exact htc
  · rw [hf _ _ _ (by omega) (by omega) (by omega), hf _ _ _ (by omega) (by omega) (by omega)]; exact hru
  · intro j hj
    rw [hf _ _ _ (by omega) (by omega) (by omega)] at hj
    exact goodT_congr (fun s => hf _ _ _ (by omega) (by omega) (by omega)) (fun s => hf _ _ _ (by omega) (by omega) (by omega)) (hgt j hj)
  · rw [hf _ _ _ (by omega) (by omega) (by omega)]; exact hz
  · rw [hf _ _ _ (by omega) (by omega) (by omega)]; exact hrd
  · intro j hj
    rw [hf _ _ _ (by omega) (by omega) (by omega), hf _ _ _ (by omega) (by omega) (by omega)]; exact hsh j hj
  · refine ⟨Or.inr (by unfold imageM; rw [up_app, if_pos ⟨rfl, rfl, rfl⟩]), fun _ => ⟨?_, ?_, ?_⟩⟩
    · have hb : WI (becM im 2 0) 2 := bec_WI hW
      exact WI_cells hb (fun s _ => hf2 _ _ _ (by omega)) (by rw [hf2 _ _ _ (by omega)]; exact hb.2.1) (fun p s _ => hf2 _ _ _ (by omega)) (fun j s => hf2 _ _ _ (by omega)) (fun j s => hf2 _ _ _ (by omega)) (fun p g h5 hp hg => by
        rw [hf2 _ _ _ (by omega), hf2 23 _ _ (by omega)]
        exact (hb.2.2.2.2.2 p hp).2.2 g hg)
    · rw [hf2 _ _ _ (by omega)]; unfold becM; rw [bec_18 (by omega)]; exact hh
    · rw [hf2 _ _ _ (by omega), hf 0 _ _ (by omega) (by omega) (by omega)]; unfold becM; rw [bec_18 (by omega)]; exact hru
  · intro i hi
    rw [hf _ _ _ (by omega) (by omega) (by omega)]; exact htp i hi
theorem SC_back {im : IM} (hS : SC im) : SC (backM im) := by
  obtain ⟨hR, hW, hh, htc, hru, hgt, hz, hrd, hsh, him, htp⟩ := hS
  have hS' : SC im := ⟨hR, hW, hh, htc, hru, hgt, hz, hrd, hsh, him, htp⟩
  unfold backM
  split
  · exact hS'
  · have h9 := him.2 (by omega)
    have w1 := h9.1.1
    exact SC_w0 hS' (RI_bec hR) (bec_WI h9.1) (by unfold becM; rw [bec_18 (by omega)]; exact h9.2.1) (by unfold becM; rw [bec_18 (by omega)]; exact h9.2.2) (fun k i s h1 h2 => by unfold becM; rw [bec_o h1 (by omega)])
/-- only the sheets are others -/
theorem SC_sh {a b : IM} (hS : SC b) (hR : RI a) (hf : ∀ k i s, ¬ (k = 7 ∨ k = 8) → a k i s = b k i s) (h7 : ∀ j, j < 4 → -1 ≤ a 7 j 1 ∧ a 7 j 1 ≤ 2 ∧ 0 ≤ a 7 j 2 ∧ a 7 j 2 ≤ 40) : SC a := by
  obtain ⟨-, hW, hh, htc, hru, hgt, hz, hrd, hsh, him, htp⟩ := hS
  have hw : ∀ w, WI b w → WI a w := fun w hw => WI_cells hw (fun s _ => hf _ _ _ (by omega)) (by rw [hf _ _ _ (by omega)]; exact hw.2.1) (fun p s _ => hf _ _ _ (by omega)) (fun j s => hf _ _ _ (by omega)) (fun j s => hf _ _ _ (by omega)) (fun p g h5 hp hg => by
        rw [hf _ _ _ (by omega), hf 23 _ _ (by omega)]
        exact (hw.2.2.2.2.2 p hp).2.2 g hg)
  refine ⟨hR, hw 0 hW, ?_, ?_, ?_, ?_, ?_, ?_, h7, ?_, ?_⟩
  · rw [hf _ _ _ (by omega)]; exact hh
  · rw [hf _ _ _ (by omega)]; exact htc
  · rw [hf _ _ _ (by omega), hf _ _ _ (by omega)]; exact hru
  · intro j hj
    rw [hf _ _ _ (by omega)] at hj
    exact goodT_congr (fun s => hf _ _ _ (by omega)) (fun s => hf _ _ _ (by omega)) (hgt j hj)
  · rw [hf _ _ _ (by omega)]; exact hz
  · rw [hf _ _ _ (by omega)]; exact hrd
  · rw [hf _ _ _ (by omega), hf 0 0 8 (by omega), hf 18 _ _ (by omega), hf 18 _ _ (by omega)]
    exact ⟨him.1, fun h9 => ⟨hw 2 (him.2 h9).1, (him.2 h9).2⟩⟩
  · intro i hi
    rw [hf _ _ _ (by omega)]; exact htp i hi
def sheetA (sheet sort n : Int) : Int := if (0 ≤ sheet ∧ sheet < 4) ∧ -1 ≤ sort ∧ sort ≤ 2 then (if sort ≠ -1 ∧ 40 < n then -2 else if sort ≠ -1 ∧ n < 0 then -14 else 1) else -2
def sheetM (im : IM) (sheet sort n : Int) : IM := if sheetA sheet sort n = 1 then zr (up (up im 7 sheet.toNat 1 sort) 7 sheet.toNat 2 (if sort = -1 then 0 else n)) 8 sheet.toNat 40 else im
def cellA (im : IM) (sheet i : Int) : Int := if 0 ≤ sheet ∧ sheet < 4 then (if im 7 sheet.toNat 1 = -1 then -11 else if 0 ≤ i ∧ i < im 7 sheet.toNat 2 then 1 else -12) else -2
def cellM (im : IM) (sheet i v : Int) : IM := if cellA im sheet i = 1 then up im 8 sheet.toNat i.toNat (cutN (im 7 sheet.toNat 1) v) else im
def copyA (im : IM) (a i b j n : Int) : Int := if (0 ≤ a ∧ a < 4) ∧ 0 ≤ b ∧ b < 4 then (if im 7 a.toNat 1 = -1 ∨ im 7 b.toNat 1 = -1 then -11 else if im 7 a.toNat 1 ≠ im 7 b.toNat 1 then -13 else if (0 ≤ i ∧ 0 ≤ n ∧ i + n ≤ im 7 a.toNat 2) ∧ 0 ≤ j ∧ 0 ≤ n ∧ j + n ≤ im 7 b.toNat 2 then n else -12) else -2
def copyM (im : IM) (a i b j n : Int) : IM := if 0 ≤ copyA im a i b j n then cpy im 8 a.toNat i.toNat 8 b.toNat j.toNat n.toNat else im
theorem SC_sheet {im : IM} {sheet sort n : Int} (hS : SC im) : SC (sheetM im sheet sort n) := by
  unfold sheetM
  split
  · rename_i h
    have hs : (-1 ≤ sort ∧ sort ≤ 2) ∧ 0 ≤ (if sort = -1 then 0 else n) ∧ (if sort = -1 then 0 else n) ≤ 40 := by
      unfold sheetA at h
      (repeat' split at h) <;> (try split) <;> omega
    refine SC_sh hS (RI_zr (RI_up (RI_up hS.1 (by constructor <;> omega)) (by constructor <;> omega))) (fun k i s hk => ?_) (fun j hj => ?_)
    · rw [zr_app, if_neg (by omega), up_app, if_neg (by omega), up_app, if_neg (by omega)]
    · have hj2 := hS.2.2.2.2.2.2.2.2.1 j hj
      simp only [zr_app, up_app]
      (repeat' split) <;> omega
  · exact hS
theorem SC_cell {im : IM} {sheet i v : Int} (hS : SC im) (hv : ri v) : SC (cellM im sheet i v) := by
  unfold cellM
  split
  · exact SC_sh hS (RI_up hS.1 (cutN_ri hv)) (fun k i s hk => by rw [up_app, if_neg (by omega)]) hS.2.2.2.2.2.2.2.2.1
  · exact hS
theorem SC_copy {im : IM} {a i b j n : Int} (hS : SC im) : SC (copyM im a i b j n) := by
  unfold copyM
  split
  · exact SC_sh hS (RI_cpy hS.1) (fun k i s hk => by rw [cpy_app, if_neg (by omega)]) (fun q hq => by
      rw [cpy_app, if_neg (by omega), cpy_app, if_neg (by omega)]; exact hS.2.2.2.2.2.2.2.2.1 q hq)
  · exact hS

def countA (im : IM) (what : Int) : Int := if what = 0 then im 18 0 3 else if what = 1 then cntA im 0 (im 18 0 3).toNat else if what = 2 then im 18 0 6 else if what = 3 then im 0 0 8 else if what = 4 then im 14 0 1 else if what = 5 then im 18 0 7 else -2

set_option maxHeartbeats 4000000 in
theorem c_X8_count (l : Launch) (G : GS) (im : IM) (bt rt : Nat) (lm : IM) (hbt : bt < 6) (hrt : rt < 6) (hS : SC im) (what : Int) (hwhat : ri what) : Cn l (XC G) yX8_count Y_X8_count [vR 0 0, vI what] (im, rs bt rt, lm) (pI fun x m' => x = countA im what ∧ stC lm im m') := by
  refine cn_of (by decide) (okC G) rfl (Nat.le_of_ble_eq_true rfl) ?_
  intro M ad hMl F
  subst hMl
  obtain ⟨hR, hW, hh, htc, hru, hgt, hz, hrd, hsh, him, htp⟩ := hS
  have w1 := hW.1
  have w2 := hW.2.1
  have w3 := hW.2.2.1
  have w4 := hW.2.2.2.1
  have w5 := hW.2.2.2.2.1
  have hwhat1 := hwhat.1
  have hwhat2 := hwhat.2
  refine wp_pad 0 ?_
  show Wp M (XC G) ad Y_X8_count (pI fun x m' => x = countA im what ∧ stC lm im m') 0 [some (vR 0 0), some (vI what)] [] (im, rs bt rt, lm)
  refine q_iload_n (t := 1) F dX8_count_0 rfl rfl rfl ?_
  have sw1 : what < 0 ∨ 5 < what ∨ what = 0 ∨ what = 1 ∨ what = 2 ∨ what = 3 ∨ what = 4 ∨ what = 5 := by omega
  rcases sw1 with c1 | c1 | c1 | c1 | c1 | c1 | c1 | c1
  · refine q_tableOut (t := 85) F dX8_count_1 (by first | exact hR _ _ _ | (constructor <;> omega)) (Or.inl c1) (by decide) ?_
    refine q_bipush (t := 87) F dX8_count_85 (by decide) rfl ?_
    refine q_iret F dX8_count_87 rfl ?_
    refine ⟨_, rfl, ?_, _, bt, rt, hbt, hrt, hR, agP_rfl _, rfl⟩
    unfold countA
    first
      | (subst c1; rfl)
      | (rw [if_neg (by omega), if_neg (by omega), if_neg (by omega), if_neg (by omega), if_neg (by omega), if_neg (by omega)])
  · refine q_tableOut (t := 85) F dX8_count_1 (by first | exact hR _ _ _ | (constructor <;> omega)) (Or.inr c1) (by decide) ?_
    refine q_bipush (t := 87) F dX8_count_85 (by decide) rfl ?_
    refine q_iret F dX8_count_87 rfl ?_
    refine ⟨_, rfl, ?_, _, bt, rt, hbt, hrt, hR, agP_rfl _, rfl⟩
    unfold countA
    first
      | (subst c1; rfl)
      | (rw [if_neg (by omega), if_neg (by omega), if_neg (by omega), if_neg (by omega), if_neg (by omega), if_neg (by omega)])
  · refine q_tableIn (t := 40) F dX8_count_1 (by first | exact hR _ _ _ | (constructor <;> omega)) (by omega) (by omega) (by rw [c1]; rfl) (by decide) ?_
    refine q_aload_n (t := 41) F dX8_count_40 rfl rfl rfl ?_
    refine g_X8_51 (t := 44) F dX8_count_41 rfl rfl ?_
    refine g_X8_115 (t := 47) F dX8_count_44 rfl (by omega) rfl ?_
    refine q_iret F dX8_count_47 rfl ?_
    refine ⟨_, rfl, ?_, _, bt, rt, hbt, hrt, hR, agP_rfl _, rfl⟩
    unfold countA
    first
      | (subst c1; rfl)
      | (rw [if_neg (by omega), if_neg (by omega), if_neg (by omega), if_neg (by omega), if_neg (by omega), if_neg (by omega)])
  · refine q_tableIn (t := 48) F dX8_count_1 (by first | exact hR _ _ _ | (constructor <;> omega)) (by omega) (by omega) (by rw [c1]; rfl) (by decide) ?_
    refine q_aload_n (t := 49) F dX8_count_48 rfl rfl rfl ?_
    refine g_X8_51 (t := 52) F dX8_count_49 rfl rfl ?_
    refine wp_callV (t := 55) [] F dX8_count_52 k_X7_stuckInAll v_X7_stuckInAll ml_X8_239 rfl rfl rfl rfl (Nat.le_of_ble_eq_true rfl) (by decide) (m_18 (by omega)) (c_X7_stuckInAll _ G im bt rt lm 0 (by omega) hR w1.1 w1.2) rfl (kI ?_)
    rintro x52 m' ⟨rfl, rfl⟩
    refine q_iret F dX8_count_55 rfl ?_
    refine ⟨_, rfl, ?_, _, bt, rt, hbt, hrt, hR, agP_rfl _, rfl⟩
    unfold countA
    first
      | (subst c1; rfl)
      | (rw [if_neg (by omega), if_neg (by omega), if_neg (by omega), if_neg (by omega), if_neg (by omega), if_neg (by omega)])
  · refine q_tableIn (t := 56) F dX8_count_1 (by first | exact hR _ _ _ | (constructor <;> omega)) (by omega) (by omega) (by rw [c1]; rfl) (by decide) ?_
    refine q_aload_n (t := 57) F dX8_count_56 rfl rfl rfl ?_
    refine g_X8_51 (t := 60) F dX8_count_57 rfl rfl ?_
    refine g_X8_230 (t := 63) F dX8_count_60 rfl (by omega) rfl ?_
    refine q_iret F dX8_count_63 rfl ?_
    refine ⟨_, rfl, ?_, _, bt, rt, hbt, hrt, hR, agP_rfl _, rfl⟩
    unfold countA
    first
      | (subst c1; rfl)
      | (rw [if_neg (by omega), if_neg (by omega), if_neg (by omega), if_neg (by omega), if_neg (by omega), if_neg (by omega)])
  · refine q_tableIn (t := 64) F dX8_count_1 (by first | exact hR _ _ _ | (constructor <;> omega)) (by omega) (by omega) (by rw [c1]; rfl) (by decide) ?_
    refine q_aload_n (t := 65) F dX8_count_64 rfl rfl rfl ?_
    refine g_X8_81 (t := 68) F dX8_count_65 rfl rfl ?_
    refine q_iret F dX8_count_68 rfl ?_
    refine ⟨_, rfl, ?_, _, bt, rt, hbt, hrt, hR, agP_rfl _, rfl⟩
    unfold countA
    first
      | (subst c1; rfl)
      | (rw [if_neg (by omega), if_neg (by omega), if_neg (by omega), if_neg (by omega), if_neg (by omega), if_neg (by omega)])
  · refine q_tableIn (t := 69) F dX8_count_1 (by first | exact hR _ _ _ | (constructor <;> omega)) (by omega) (by omega) (by rw [c1]; rfl) (by decide) ?_
    refine q_aload_n (t := 70) F dX8_count_69 rfl rfl rfl ?_
    refine g_X8_35 (t := 73) F dX8_count_70 rfl rfl ?_
    refine g_X8_146 (t := 76) F dX8_count_73 rfl rfl ?_
    refine q_iret F dX8_count_76 rfl ?_
    refine ⟨_, rfl, ?_, _, bt, rt, hbt, hrt, hR, agP_rfl _, rfl⟩
    unfold countA
    first
      | (subst c1; rfl)
      | (rw [if_neg (by omega), if_neg (by omega), if_neg (by omega), if_neg (by omega), if_neg (by omega), if_neg (by omega)])
  · refine q_tableIn (t := 77) F dX8_count_1 (by first | exact hR _ _ _ | (constructor <;> omega)) (by omega) (by omega) (by rw [c1]; rfl) (by decide) ?_
    refine q_aload_n (t := 78) F dX8_count_77 rfl rfl rfl ?_
    refine g_X8_51 (t := 81) F dX8_count_78 rfl rfl ?_
    refine g_X8_147 (t := 84) F dX8_count_81 rfl (by omega) rfl ?_
    refine q_iret F dX8_count_84 rfl ?_
    refine ⟨_, rfl, ?_, _, bt, rt, hbt, hrt, hR, agP_rfl _, rfl⟩
    unfold countA
    first
      | (subst c1; rfl)
      | (rw [if_neg (by omega), if_neg (by omega), if_neg (by omega), if_neg (by omega), if_neg (by omega), if_neg (by omega)])

def imageA (im : IM) : Int := imageM im 18 0 3

set_option maxHeartbeats 4000000 in
theorem c_X8_image (l : Launch) (G : GS) (im : IM) (bt rt : Nat) (lm : IM) (hbt : bt < 6) (hrt : rt < 6) (hS : SC im) : Cn l (XC G) yX8_image Y_X8_image [vR 0 0] (im, rs bt rt, lm) (pI fun x m' => x = imageA im  ∧ stC lm (imageM im ) m') := by
  refine cn_of (by decide) (okC G) rfl (Nat.le_of_ble_eq_true rfl) ?_
  intro M ad hMl F
  subst hMl
  obtain ⟨hR, hW, hh, htc, hru, hgt, hz, hrd, hsh, him, htp⟩ := hS
  have w1 := hW.1
  have w2 := hW.2.1
  have w3 := hW.2.2.1
  have w4 := hW.2.2.2.1
  have w5 := hW.2.2.2.2.1
  refine wp_pad 0 ?_
  show Wp M (XC G) ad Y_X8_image (pI fun x m' => x = imageA im  ∧ stC lm (imageM im ) m') 0 [some (vR 0 0)] [] (im, rs bt rt, lm)
  refine q_aload_n (t := 1) F dX8_image_0 rfl rfl rfl ?_
  refine g_X8_58 (t := 4) F dX8_image_1 rfl rfl ?_
  refine q_aload_n (t := 5) F dX8_image_4 rfl rfl rfl ?_
  refine g_X8_51 (t := 8) F dX8_image_5 rfl rfl ?_
  refine wp_callV (t := 11) [_] F dX8_image_8 k_X7_become v_X7_become ml_X8_226 rfl rfl rfl rfl (Nat.le_of_ble_eq_true rfl) (by decide) (m_18 (by omega)) (c_X7_become _ G im bt rt lm 2 0 (by omega) (by omega) (by omega) hR w1.1 w1.2) rfl (kV ?_)
  rintro m' rfl
  refine q_aload_n (t := 12) F dX8_image_11 rfl rfl rfl ?_
  refine q_iconst (t := 13) F dX8_image_12 rfl ?_
  refine p_X8_277 (t := 16) F dX8_image_13 rfl (by omega) rfl ?_
  refine q_aload_n (t := 17) F dX8_image_16 rfl rfl rfl ?_
  refine g_X8_51 (t := 20) F dX8_image_17 rfl rfl ?_
  refine g_X8_115 (t := 23) F dX8_image_20 rfl (by omega) rfl ?_
  try simp only [up_app, row_app, scr_app, cpy_app, Nat.reduceEqDiff, Int.reduceToNat, Int.toNat_natCast, and_true, true_and, and_false, false_and, and_self, reduceIte]
  refine q_iret F dX8_image_23 rfl ?_
  refine ⟨_, rfl, ?_, _, bt, rt, hbt, hrt, RI_up (RI_bec hR) (by constructor <;> omega), agP_rfl _, rfl⟩
  rfl

set_option maxHeartbeats 4000000 in
theorem c_X8_back (l : Launch) (G : GS) (im : IM) (bt rt : Nat) (lm : IM) (hbt : bt < 6) (hrt : rt < 6) (hS : SC im) : Cn l (XC G) yX8_back Y_X8_back [vR 0 0] (im, rs bt rt, lm) (pI fun x m' => x = backA im  ∧ stC lm (backM im ) m') := by
  refine cn_of (by decide) (okC G) rfl (Nat.le_of_ble_eq_true rfl) ?_
  intro M ad hMl F
  subst hMl
  obtain ⟨hR, hW, hh, htc, hru, hgt, hz, hrd, hsh, him, htp⟩ := hS
  have w1 := hW.1
  have w2 := hW.2.1
  have w3 := hW.2.2.1
  have w4 := hW.2.2.2.1
  have w5 := hW.2.2.2.2.1
  refine wp_pad 0 ?_
  show Wp M (XC G) ad Y_X8_back (pI fun x m' => x = backA im  ∧ stC lm (backM im ) m') 0 [some (vR 0 0)] [] (im, rs bt rt, lm)
  refine q_aload_n (t := 1) F dX8_back_0 rfl rfl rfl ?_
  refine g_X8_277 (t := 4) F dX8_back_1 rfl rfl ?_
  refine q_if_ne (t := 7) (u := 10) F dX8_back_4 (by first | exact hR _ _ _ | (constructor <;> omega)) (by decide) rfl (fun c4 => ?_) (fun c4 => ?_)
  · refine q_aload_n (t := 11) F dX8_back_10 rfl rfl rfl ?_
    refine g_X8_51 (t := 14) F dX8_back_11 rfl rfl ?_
    refine q_aload_n (t := 15) F dX8_back_14 rfl rfl rfl ?_
    refine g_X8_58 (t := 18) F dX8_back_15 rfl rfl ?_
    refine wp_callV (t := 21) [_] F dX8_back_18 k_X7_become v_X7_become ml_X8_226 rfl rfl rfl rfl (Nat.le_of_ble_eq_true rfl) (by decide) (m_18 (by omega)) (c_X7_become _ G im bt rt lm 0 2 (by omega) (by omega) (by omega) hR (him.2 (by omega)).1.1.1 (him.2 (by omega)).1.1.2) rfl (kV ?_)
    rintro m' rfl
    refine q_aload_n (t := 22) F dX8_back_21 rfl rfl rfl ?_
    refine g_X8_51 (t := 25) F dX8_back_22 rfl rfl ?_
    refine g_X8_115 (t := 28) F dX8_back_25 rfl (by omega) rfl ?_
    try simp only [up_app, row_app, scr_app, cpy_app, Nat.reduceEqDiff, Int.reduceToNat, Int.toNat_natCast, and_true, true_and, and_false, false_and, and_self, reduceIte]
    refine q_iret F dX8_back_28 rfl ?_
    refine ⟨_, rfl, ?_, _, bt, rt, hbt, hrt, RI_bec hR, ?_, rfl⟩
    · unfold backA
      rw [if_neg (by omega)]
      rfl
    · unfold backM
      rw [if_neg (by omega)]
      exact agP_rfl _
  · refine q_bipush (t := 9) F dX8_back_7 (by decide) rfl ?_
    refine q_iret F dX8_back_9 rfl ?_
    refine ⟨_, rfl, ?_, _, bt, rt, hbt, hrt, (by repeat' first | exact hR | refine RI_up ?_ ?_ | assumption | exact hR _ _ _ | (constructor <;> omega)), ?_, rfl⟩
    · unfold backA
      (repeat' split) <;> omega
    · unfold backM
      (repeat' split) <;> first | exact agP_rfl _ | (exfalso; omega)

set_option maxHeartbeats 4000000 in
theorem c_X8_sheet (l : Launch) (G : GS) (im : IM) (bt rt : Nat) (lm : IM) (hbt : bt < 6) (hrt : rt < 6) (hS : SC im) (sheet sort n : Int) (hsheet : ri sheet) (hsort : ri sort) (hn : ri n) : Cn l (XC G) yX8_sheet Y_X8_sheet [vR 0 0, vI sheet, vI sort, vI n] (im, rs bt rt, lm) (pI fun x m' => x = sheetA sheet sort n ∧ stC lm (sheetM im sheet sort n) m') := by
  refine cn_of (by decide) (okC G) rfl (Nat.le_of_ble_eq_true rfl) ?_
  intro M ad hMl F
  subst hMl
  obtain ⟨hR, hW, hh, htc, hru, hgt, hz, hrd, hsh, him, htp⟩ := hS
  have w1 := hW.1
  have w2 := hW.2.1
  have w3 := hW.2.2.1
  have w4 := hW.2.2.2.1
  have w5 := hW.2.2.2.2.1
  have hsheet1 := hsheet.1
  have hsheet2 := hsheet.2
  have hsort1 := hsort.1
  have hsort2 := hsort.2
  have hn1 := hn.1
  have hn2 := hn.2
  refine wp_pad 0 ?_
  show Wp M (XC G) ad Y_X8_sheet (pI fun x m' => x = sheetA sheet sort n ∧ stC lm (sheetM im sheet sort n) m') 0 [some (vR 0 0), some (vI sheet), some (vI sort), some (vI n)] [] (im, rs bt rt, lm)
  refine q_iload_n (t := 1) F dX8_sheet_0 rfl rfl rfl ?_
  refine q_iconst (t := 2) F dX8_sheet_1 rfl ?_
  refine wp_callS (t := 5) [_, _] F dX8_sheet_2 k_X8_within st_X8_within ml_X8_95 rfl rfl (Nat.le_of_ble_eq_true rfl) (by decide) (c_X8_within _ G _ bt rt lm sheet 4 hsheet (by constructor <;> omega)) rfl (kI ?_)
  rintro x2 m' ⟨hx2, rfl⟩
  have hx2 := if01 hx2
  refine q_if_eq (t := 8) (u := 18) F dX8_sheet_5 (by first | exact hR _ _ _ | (constructor <;> omega)) (by decide) rfl (fun c5 => ?_) (fun c5 => ?_)
  · refine q_bipush (t := 20) F dX8_sheet_18 (by decide) rfl ?_
    refine q_iret F dX8_sheet_20 rfl ?_
    have hx : sheetA sheet sort n = -2 := by
      unfold sheetA
      (repeat' split) <;> omega
    refine ⟨_, rfl, hx.symm, _, bt, rt, hbt, hrt, hR, ?_, rfl⟩
    unfold sheetM
    rw [if_neg (by omega)]
    exact agP_rfl _
  · refine q_iload_n (t := 9) F dX8_sheet_8 rfl rfl rfl ?_
    refine q_iconst (t := 10) F dX8_sheet_9 rfl ?_
    refine q_icmp_lt (t := 13) (u := 18) F dX8_sheet_10 (by first | exact hR _ _ _ | (constructor <;> omega)) (by first | exact hR _ _ _ | (constructor <;> omega)) (by decide) rfl (fun c10 => ?_) (fun c10 => ?_)
    · refine q_bipush (t := 20) F dX8_sheet_18 (by decide) rfl ?_
      refine q_iret F dX8_sheet_20 rfl ?_
      have hx : sheetA sheet sort n = -2 := by
        unfold sheetA
        (repeat' split) <;> omega
      refine ⟨_, rfl, hx.symm, _, bt, rt, hbt, hrt, hR, ?_, rfl⟩
      unfold sheetM
      rw [if_neg (by omega)]
      exact agP_rfl _
    · refine q_iload_n (t := 14) F dX8_sheet_13 rfl rfl rfl ?_
      refine q_iconst (t := 15) F dX8_sheet_14 rfl ?_
      refine q_icmp_le (t := 18) (u := 21) F dX8_sheet_15 (by first | exact hR _ _ _ | (constructor <;> omega)) (by first | exact hR _ _ _ | (constructor <;> omega)) (by decide) rfl (fun c15 => ?_) (fun c15 => ?_)
      · refine q_iload_n (t := 22) F dX8_sheet_21 rfl rfl rfl ?_
        refine q_iconst (t := 23) F dX8_sheet_22 rfl ?_
        refine q_icmp_eq (t := 26) (u := 35) F dX8_sheet_23 (by first | exact hR _ _ _ | (constructor <;> omega)) (by first | exact hR _ _ _ | (constructor <;> omega)) (by decide) rfl (fun c23 => ?_) (fun c23 => ?_)
        · refine q_iload_n (t := 36) F dX8_sheet_35 rfl rfl rfl ?_
          refine q_iconst (t := 37) F dX8_sheet_36 rfl ?_
          refine q_icmp_eq (t := 40) (u := 47) F dX8_sheet_37 (by first | exact hR _ _ _ | (constructor <;> omega)) (by first | exact hR _ _ _ | (constructor <;> omega)) (by decide) rfl (fun c37 => ?_) (fun c37 => ?_)
          · refine q_aload_n (t := 48) F dX8_sheet_47 rfl rfl rfl ?_
            refine g_X8_17 (t := 51) F dX8_sheet_48 rfl rfl ?_
            refine q_iload_n (t := 52) F dX8_sheet_51 rfl rfl rfl ?_
            refine la_6 (t := 53) F dX8_sheet_52 (by omega) (by omega) rfl ?_
            refine q_iload_n (t := 54) F dX8_sheet_53 rfl rfl rfl ?_
            refine q_iload_n (t := 55) F dX8_sheet_54 rfl rfl rfl ?_
            refine q_iconst (t := 56) F dX8_sheet_55 rfl ?_
            refine q_icmp_ne (t := 59) (u := 63) F dX8_sheet_56 (by first | exact hR _ _ _ | (constructor <;> omega)) (by first | exact hR _ _ _ | (constructor <;> omega)) (by decide) rfl (fun c56 => ?_) (fun c56 => ?_)
            · refine q_iload_n (t := 64) F dX8_sheet_63 rfl rfl rfl ?_
              refine wp_callV (t := 67) [_, _] F dX8_sheet_64 k_X5_become v_X5_become ml_X8_263 rfl rfl rfl rfl (Nat.le_of_ble_eq_true rfl) (by decide) (m_7 (by omega)) (c_X5_become _ G im bt rt lm sheet.toNat (by omega) sort _) rfl (kV ?_)
              rintro m' rfl
              refine q_iconst (t := 68) F dX8_sheet_67 rfl ?_
              refine q_iret F dX8_sheet_68 rfl ?_
              have hx : sheetA sheet sort n = 1 := by
                unfold sheetA
                (repeat' split) <;> omega
              refine ⟨_, rfl, hx.symm, _, bt, rt, hbt, hrt, RI_zr (RI_up (RI_up hR hsort) (by constructor <;> omega)), ?_, rfl⟩
              unfold sheetM
              rw [if_pos hx]
              first
                | (rw [if_pos (by assumption)]; exact agP_rfl _)
                | (rw [if_neg (by assumption)]; exact agP_rfl _)
            · refine q_iconst (t := 60) F dX8_sheet_59 rfl ?_
              refine q_goto (t := 64) F dX8_sheet_60 (by decide) ?_
              refine wp_callV (t := 67) [_, _] F dX8_sheet_64 k_X5_become v_X5_become ml_X8_263 rfl rfl rfl rfl (Nat.le_of_ble_eq_true rfl) (by decide) (m_7 (by omega)) (c_X5_become _ G im bt rt lm sheet.toNat (by omega) sort _) rfl (kV ?_)
              rintro m' rfl
              refine q_iconst (t := 68) F dX8_sheet_67 rfl ?_
              refine q_iret F dX8_sheet_68 rfl ?_
              have hx : sheetA sheet sort n = 1 := by
                unfold sheetA
                (repeat' split) <;> omega
              refine ⟨_, rfl, hx.symm, _, bt, rt, hbt, hrt, RI_zr (RI_up (RI_up hR hsort) (by constructor <;> omega)), ?_, rfl⟩
              unfold sheetM
              rw [if_pos hx]
              first
                | (rw [if_pos (by assumption)]; exact agP_rfl _)
                | (rw [if_neg (by assumption)]; exact agP_rfl _)
          · refine q_iload_n (t := 41) F dX8_sheet_40 rfl rfl rfl ?_
            refine q_if_ge (t := 44) (u := 47) F dX8_sheet_41 (by first | exact hR _ _ _ | (constructor <;> omega)) (by decide) rfl (fun c41 => ?_) (fun c41 => ?_)
            · refine q_aload_n (t := 48) F dX8_sheet_47 rfl rfl rfl ?_
              refine g_X8_17 (t := 51) F dX8_sheet_48 rfl rfl ?_
              refine q_iload_n (t := 52) F dX8_sheet_51 rfl rfl rfl ?_
              refine la_6 (t := 53) F dX8_sheet_52 (by omega) (by omega) rfl ?_
              refine q_iload_n (t := 54) F dX8_sheet_53 rfl rfl rfl ?_
              refine q_iload_n (t := 55) F dX8_sheet_54 rfl rfl rfl ?_
              refine q_iconst (t := 56) F dX8_sheet_55 rfl ?_
              refine q_icmp_ne (t := 59) (u := 63) F dX8_sheet_56 (by first | exact hR _ _ _ | (constructor <;> omega)) (by first | exact hR _ _ _ | (constructor <;> omega)) (by decide) rfl (fun c56 => ?_) (fun c56 => ?_)
              · refine q_iload_n (t := 64) F dX8_sheet_63 rfl rfl rfl ?_
                refine wp_callV (t := 67) [_, _] F dX8_sheet_64 k_X5_become v_X5_become ml_X8_263 rfl rfl rfl rfl (Nat.le_of_ble_eq_true rfl) (by decide) (m_7 (by omega)) (c_X5_become _ G im bt rt lm sheet.toNat (by omega) sort _) rfl (kV ?_)
                rintro m' rfl
                refine q_iconst (t := 68) F dX8_sheet_67 rfl ?_
                refine q_iret F dX8_sheet_68 rfl ?_
                have hx : sheetA sheet sort n = 1 := by
                  unfold sheetA
                  (repeat' split) <;> omega
                refine ⟨_, rfl, hx.symm, _, bt, rt, hbt, hrt, RI_zr (RI_up (RI_up hR hsort) (by constructor <;> omega)), ?_, rfl⟩
                unfold sheetM
                rw [if_pos hx]
                first
                  | (rw [if_pos (by assumption)]; exact agP_rfl _)
                  | (rw [if_neg (by assumption)]; exact agP_rfl _)
              · refine q_iconst (t := 60) F dX8_sheet_59 rfl ?_
                refine q_goto (t := 64) F dX8_sheet_60 (by decide) ?_
                refine wp_callV (t := 67) [_, _] F dX8_sheet_64 k_X5_become v_X5_become ml_X8_263 rfl rfl rfl rfl (Nat.le_of_ble_eq_true rfl) (by decide) (m_7 (by omega)) (c_X5_become _ G im bt rt lm sheet.toNat (by omega) sort _) rfl (kV ?_)
                rintro m' rfl
                refine q_iconst (t := 68) F dX8_sheet_67 rfl ?_
                refine q_iret F dX8_sheet_68 rfl ?_
                have hx : sheetA sheet sort n = 1 := by
                  unfold sheetA
                  (repeat' split) <;> omega
                refine ⟨_, rfl, hx.symm, _, bt, rt, hbt, hrt, RI_zr (RI_up (RI_up hR hsort) (by constructor <;> omega)), ?_, rfl⟩
                unfold sheetM
                rw [if_pos hx]
                first
                  | (rw [if_pos (by assumption)]; exact agP_rfl _)
                  | (rw [if_neg (by assumption)]; exact agP_rfl _)
            · refine q_bipush (t := 46) F dX8_sheet_44 (by decide) rfl ?_
              refine q_iret F dX8_sheet_46 rfl ?_
              have hx : sheetA sheet sort n = -14 := by
                unfold sheetA
                (repeat' split) <;> omega
              refine ⟨_, rfl, hx.symm, _, bt, rt, hbt, hrt, hR, ?_, rfl⟩
              unfold sheetM
              rw [if_neg (by omega)]
              exact agP_rfl _
        · refine q_iload_n (t := 27) F dX8_sheet_26 rfl rfl rfl ?_
          refine q_bipush (t := 29) F dX8_sheet_27 (by decide) rfl ?_
          refine q_icmp_le (t := 32) (u := 35) F dX8_sheet_29 (by first | exact hR _ _ _ | (constructor <;> omega)) (by first | exact hR _ _ _ | (constructor <;> omega)) (by decide) rfl (fun c29 => ?_) (fun c29 => ?_)
          · refine q_iload_n (t := 36) F dX8_sheet_35 rfl rfl rfl ?_
            refine q_iconst (t := 37) F dX8_sheet_36 rfl ?_
            refine q_icmp_eq (t := 40) (u := 47) F dX8_sheet_37 (by first | exact hR _ _ _ | (constructor <;> omega)) (by first | exact hR _ _ _ | (constructor <;> omega)) (by decide) rfl (fun c37 => ?_) (fun c37 => ?_)
            · refine q_aload_n (t := 48) F dX8_sheet_47 rfl rfl rfl ?_
              refine g_X8_17 (t := 51) F dX8_sheet_48 rfl rfl ?_
              refine q_iload_n (t := 52) F dX8_sheet_51 rfl rfl rfl ?_
              refine la_6 (t := 53) F dX8_sheet_52 (by omega) (by omega) rfl ?_
              refine q_iload_n (t := 54) F dX8_sheet_53 rfl rfl rfl ?_
              refine q_iload_n (t := 55) F dX8_sheet_54 rfl rfl rfl ?_
              refine q_iconst (t := 56) F dX8_sheet_55 rfl ?_
              refine q_icmp_ne (t := 59) (u := 63) F dX8_sheet_56 (by first | exact hR _ _ _ | (constructor <;> omega)) (by first | exact hR _ _ _ | (constructor <;> omega)) (by decide) rfl (fun c56 => ?_) (fun c56 => ?_)
              · refine q_iload_n (t := 64) F dX8_sheet_63 rfl rfl rfl ?_
                refine wp_callV (t := 67) [_, _] F dX8_sheet_64 k_X5_become v_X5_become ml_X8_263 rfl rfl rfl rfl (Nat.le_of_ble_eq_true rfl) (by decide) (m_7 (by omega)) (c_X5_become _ G im bt rt lm sheet.toNat (by omega) sort _) rfl (kV ?_)
                rintro m' rfl
                refine q_iconst (t := 68) F dX8_sheet_67 rfl ?_
                refine q_iret F dX8_sheet_68 rfl ?_
                have hx : sheetA sheet sort n = 1 := by
                  unfold sheetA
                  (repeat' split) <;> omega
                refine ⟨_, rfl, hx.symm, _, bt, rt, hbt, hrt, RI_zr (RI_up (RI_up hR hsort) (by constructor <;> omega)), ?_, rfl⟩
                unfold sheetM
                rw [if_pos hx]
                first
                  | (rw [if_pos (by assumption)]; exact agP_rfl _)
                  | (rw [if_neg (by assumption)]; exact agP_rfl _)
              · refine q_iconst (t := 60) F dX8_sheet_59 rfl ?_
                refine q_goto (t := 64) F dX8_sheet_60 (by decide) ?_
                refine wp_callV (t := 67) [_, _] F dX8_sheet_64 k_X5_become v_X5_become ml_X8_263 rfl rfl rfl rfl (Nat.le_of_ble_eq_true rfl) (by decide) (m_7 (by omega)) (c_X5_become _ G im bt rt lm sheet.toNat (by omega) sort _) rfl (kV ?_)
                rintro m' rfl
                refine q_iconst (t := 68) F dX8_sheet_67 rfl ?_
                refine q_iret F dX8_sheet_68 rfl ?_
                have hx : sheetA sheet sort n = 1 := by
                  unfold sheetA
                  (repeat' split) <;> omega
                refine ⟨_, rfl, hx.symm, _, bt, rt, hbt, hrt, RI_zr (RI_up (RI_up hR hsort) (by constructor <;> omega)), ?_, rfl⟩
                unfold sheetM
                rw [if_pos hx]
                first
                  | (rw [if_pos (by assumption)]; exact agP_rfl _)
                  | (rw [if_neg (by assumption)]; exact agP_rfl _)
            · refine q_iload_n (t := 41) F dX8_sheet_40 rfl rfl rfl ?_
              refine q_if_ge (t := 44) (u := 47) F dX8_sheet_41 (by first | exact hR _ _ _ | (constructor <;> omega)) (by decide) rfl (fun c41 => ?_) (fun c41 => ?_)
              · refine q_aload_n (t := 48) F dX8_sheet_47 rfl rfl rfl ?_
                refine g_X8_17 (t := 51) F dX8_sheet_48 rfl rfl ?_
                refine q_iload_n (t := 52) F dX8_sheet_51 rfl rfl rfl ?_
                refine la_6 (t := 53) F dX8_sheet_52 (by omega) (by omega) rfl ?_
                refine q_iload_n (t := 54) F dX8_sheet_53 rfl rfl rfl ?_
                refine q_iload_n (t := 55) F dX8_sheet_54 rfl rfl rfl ?_
                refine q_iconst (t := 56) F dX8_sheet_55 rfl ?_
                refine q_icmp_ne (t := 59) (u := 63) F dX8_sheet_56 (by first | exact hR _ _ _ | (constructor <;> omega)) (by first | exact hR _ _ _ | (constructor <;> omega)) (by decide) rfl (fun c56 => ?_) (fun c56 => ?_)
                · refine q_iload_n (t := 64) F dX8_sheet_63 rfl rfl rfl ?_
                  refine wp_callV (t := 67) [_, _] F dX8_sheet_64 k_X5_become v_X5_become ml_X8_263 rfl rfl rfl rfl (Nat.le_of_ble_eq_true rfl) (by decide) (m_7 (by omega)) (c_X5_become _ G im bt rt lm sheet.toNat (by omega) sort _) rfl (kV ?_)
                  rintro m' rfl
                  refine q_iconst (t := 68) F dX8_sheet_67 rfl ?_
                  refine q_iret F dX8_sheet_68 rfl ?_
                  have hx : sheetA sheet sort n = 1 := by
                    unfold sheetA
                    (repeat' split) <;> omega
                  refine ⟨_, rfl, hx.symm, _, bt, rt, hbt, hrt, RI_zr (RI_up (RI_up hR hsort) (by constructor <;> omega)), ?_, rfl⟩
                  unfold sheetM
                  rw [if_pos hx]
                  first
                    | (rw [if_pos (by assumption)]; exact agP_rfl _)
                    | (rw [if_neg (by assumption)]; exact agP_rfl _)
                · refine q_iconst (t := 60) F dX8_sheet_59 rfl ?_
                  refine q_goto (t := 64) F dX8_sheet_60 (by decide) ?_
                  refine wp_callV (t := 67) [_, _] F dX8_sheet_64 k_X5_become v_X5_become ml_X8_263 rfl rfl rfl rfl (Nat.le_of_ble_eq_true rfl) (by decide) (m_7 (by omega)) (c_X5_become _ G im bt rt lm sheet.toNat (by omega) sort _) rfl (kV ?_)
                  rintro m' rfl
                  refine q_iconst (t := 68) F dX8_sheet_67 rfl ?_
                  refine q_iret F dX8_sheet_68 rfl ?_
                  have hx : sheetA sheet sort n = 1 := by
                    unfold sheetA
                    (repeat' split) <;> omega
                  refine ⟨_, rfl, hx.symm, _, bt, rt, hbt, hrt, RI_zr (RI_up (RI_up hR hsort) (by constructor <;> omega)), ?_, rfl⟩
                  unfold sheetM
                  rw [if_pos hx]
                  first
                    | (rw [if_pos (by assumption)]; exact agP_rfl _)
                    | (rw [if_neg (by assumption)]; exact agP_rfl _)
              · refine q_bipush (t := 46) F dX8_sheet_44 (by decide) rfl ?_
                refine q_iret F dX8_sheet_46 rfl ?_
                have hx : sheetA sheet sort n = -14 := by
                  unfold sheetA
                  (repeat' split) <;> omega
                refine ⟨_, rfl, hx.symm, _, bt, rt, hbt, hrt, hR, ?_, rfl⟩
                unfold sheetM
                rw [if_neg (by omega)]
                exact agP_rfl _
          · refine q_bipush (t := 34) F dX8_sheet_32 (by decide) rfl ?_
            refine q_iret F dX8_sheet_34 rfl ?_
            have hx : sheetA sheet sort n = -2 := by
              unfold sheetA
              (repeat' split) <;> omega
            refine ⟨_, rfl, hx.symm, _, bt, rt, hbt, hrt, hR, ?_, rfl⟩
            unfold sheetM
            rw [if_neg (by omega)]
            exact agP_rfl _
      · refine q_bipush (t := 20) F dX8_sheet_18 (by decide) rfl ?_
        refine q_iret F dX8_sheet_20 rfl ?_
        have hx : sheetA sheet sort n = -2 := by
          unfold sheetA
          (repeat' split) <;> omega
        refine ⟨_, rfl, hx.symm, _, bt, rt, hbt, hrt, hR, ?_, rfl⟩
        unfold sheetM
        rw [if_neg (by omega)]
        exact agP_rfl _

def cellAx (im : IM) (sheet i _v : Int) : Int := cellA im sheet i

set_option maxHeartbeats 4000000 in
theorem c_X8_cell (l : Launch) (G : GS) (im : IM) (bt rt : Nat) (lm : IM) (hbt : bt < 6) (hrt : rt < 6) (hS : SC im) (sheet : Int) (i : Int) (v : Int) (hsheet : ri sheet) (hi : ri i) (hv : ri v) : Cn l (XC G) yX8_cell Y_X8_cell [vR 0 0, vI sheet, vI i, vI v] (im, rs bt rt, lm) (pI fun x m' => x = cellAx im sheet i v ∧ stC lm (cellM im sheet i v) m') := by
  refine cn_of (by decide) (okC G) rfl (Nat.le_of_ble_eq_true rfl) ?_
  intro M ad hMl F
  subst hMl
  obtain ⟨hR, hW, hh, htc, hru, hgt, hz, hrd, hsh, him, htp⟩ := hS
  have w1 := hW.1
  have w2 := hW.2.1
  have w3 := hW.2.2.1
  have w4 := hW.2.2.2.1
  have w5 := hW.2.2.2.2.1
  have hsheet1 := hsheet.1
  have hsheet2 := hsheet.2
  have hi1 := hi.1
  have hi2 := hi.2
  have hv1 := hv.1
  have hv2 := hv.2
  refine wp_pad 0 ?_
  show Wp M (XC G) ad Y_X8_cell (pI fun x m' => x = cellAx im sheet i v ∧ stC lm (cellM im sheet i v) m') 0 [some (vR 0 0), some (vI sheet), some (vI i), some (vI v)] [] (im, rs bt rt, lm)
  refine q_iload_n (t := 1) F dX8_cell_0 rfl rfl rfl ?_
  refine q_iconst (t := 2) F dX8_cell_1 rfl ?_
  refine wp_callS (t := 5) [_, _] F dX8_cell_2 k_X8_within st_X8_within ml_X8_95 rfl rfl (Nat.le_of_ble_eq_true rfl) (by decide) (c_X8_within _ G _ bt rt lm sheet 4 hsheet (by constructor <;> omega)) rfl (kI ?_)
  rintro x2 m' ⟨hx2, rfl⟩
  have hx2 := if01 hx2
  refine q_if_ne (t := 8) (u := 11) F dX8_cell_5 (by first | exact hR _ _ _ | (constructor <;> omega)) (by decide) rfl (fun c5 => ?_) (fun c5 => ?_)
  · refine q_aload_n (t := 12) F dX8_cell_11 rfl rfl rfl ?_
    refine g_X8_17 (t := 15) F dX8_cell_12 rfl rfl ?_
    obtain ⟨sheet, rfl⟩ : ∃ k : Nat, sheet = (k : Int) := ⟨sheet.toNat, by omega⟩
    have hj : sheet < 4 := by omega
    have hs4 := hsh sheet hj
    refine q_iload_n (t := 16) F dX8_cell_15 rfl rfl rfl ?_
    first | refine laN_6 (t := 17) F dX8_cell_16 (by omega) rfl ?_ | refine la_6 (t := 17) F dX8_cell_16 (by omega) (by omega) rfl ?_
    refine wp_callV (t := 20) [] F dX8_cell_17 k_X5_isMissing v_X5_isMissing ml_X8_218 rfl rfl rfl rfl (Nat.le_of_ble_eq_true rfl) (by decide) (m_7 (by omega)) (c_X5_isMissing _ G im bt rt lm sheet hj hR) rfl (kI ?_)
    rintro x17 m' ⟨hx17, rfl⟩
    have hx17 := if01 hx17
    refine q_if_eq (t := 23) (u := 26) F dX8_cell_20 (by first | exact hR _ _ _ | (constructor <;> omega)) (by decide) rfl (fun c20 => ?_) (fun c20 => ?_)
    · refine q_iload_n (t := 27) F dX8_cell_26 rfl rfl rfl ?_
      refine q_aload_n (t := 28) F dX8_cell_27 rfl rfl rfl ?_
      refine g_X8_17 (t := 31) F dX8_cell_28 rfl rfl ?_
      refine q_iload_n (t := 32) F dX8_cell_31 rfl rfl rfl ?_
      first | refine laN_6 (t := 33) F dX8_cell_32 (by omega) rfl ?_ | refine la_6 (t := 33) F dX8_cell_32 (by omega) (by omega) rfl ?_
      refine g_X8_231 (t := 36) F dX8_cell_33 rfl (by omega) rfl ?_
      try simp only [up_app, row_app, scr_app, cpy_app, Nat.reduceEqDiff, Int.reduceToNat, Int.toNat_natCast, and_true, true_and, and_false, false_and, and_self, reduceIte]
      refine wp_callS (t := 39) [_, _] F dX8_cell_36 k_X8_within st_X8_within ml_X8_95 rfl rfl (Nat.le_of_ble_eq_true rfl) (by decide) (c_X8_within _ G _ bt rt lm i (im 7 sheet 2) hi (hR _ _ _)) rfl (kI ?_)
      rintro x36 m' ⟨hx36, rfl⟩
      have hx36 := if01 hx36
      refine q_if_ne (t := 42) (u := 45) F dX8_cell_39 (by first | exact hR _ _ _ | (constructor <;> omega)) (by decide) rfl (fun c39 => ?_) (fun c39 => ?_)
      · refine q_aload_n (t := 46) F dX8_cell_45 rfl rfl rfl ?_
        refine g_X8_17 (t := 49) F dX8_cell_46 rfl rfl ?_
        refine q_iload_n (t := 50) F dX8_cell_49 rfl rfl rfl ?_
        first | refine laN_6 (t := 51) F dX8_cell_50 (by omega) rfl ?_ | refine la_6 (t := 51) F dX8_cell_50 (by omega) (by omega) rfl ?_
        refine q_iload_n (t := 52) F dX8_cell_51 rfl rfl rfl ?_
        refine q_iload_n (t := 53) F dX8_cell_52 rfl rfl rfl ?_
        rw [show i = ((i.toNat : Nat) : Int) by omega]
        refine wp_callV (t := 56) [_, _] F dX8_cell_53 k_X5_put v_X5_put ml_X8_266 rfl rfl rfl rfl (Nat.le_of_ble_eq_true rfl) (by decide) (m_7 (by omega)) (c_X5_put _ G im bt rt lm sheet hj i.toNat (by omega) v hR) rfl (kV ?_)
        rintro m' rfl
        refine q_iconst (t := 57) F dX8_cell_56 rfl ?_
        refine q_iret F dX8_cell_57 rfl ?_
        have hx : cellA im sheet i = 1 := by
          unfold cellA
          simp only [Int.toNat_natCast]
          (repeat' split) <;> omega
        refine ⟨_, rfl, ?_, _, bt, rt, hbt, hrt, RI_up hR (cutN_ri hv), ?_, rfl⟩
        · try simp only [Int.toNat_natCast]
          try rw [show ((i.toNat : Nat) : Int) = i by omega]
          exact hx.symm
        · unfold cellM
          try rw [show ((i.toNat : Nat) : Int) = i by omega]
          rw [if_pos hx]
          simp only [Int.toNat_natCast]
          exact agP_rfl _
      · refine q_bipush (t := 44) F dX8_cell_42 (by decide) rfl ?_
        refine q_iret F dX8_cell_44 rfl ?_
        have hx : cellA im sheet i = -12 := by
          unfold cellA
          simp only [Int.toNat_natCast]
          (repeat' split) <;> omega
        refine ⟨_, rfl, hx.symm, _, bt, rt, hbt, hrt, hR, ?_, rfl⟩
        unfold cellM
        rw [if_neg (by omega)]
        exact agP_rfl _
    · refine q_bipush (t := 25) F dX8_cell_23 (by decide) rfl ?_
      refine q_iret F dX8_cell_25 rfl ?_
      have hx : cellA im sheet i = -11 := by
        unfold cellA
        simp only [Int.toNat_natCast]
        (repeat' split) <;> omega
      refine ⟨_, rfl, hx.symm, _, bt, rt, hbt, hrt, hR, ?_, rfl⟩
      unfold cellM
      rw [if_neg (by omega)]
      exact agP_rfl _
  · refine q_bipush (t := 10) F dX8_cell_8 (by decide) rfl ?_
    refine q_iret F dX8_cell_10 rfl ?_
    refine ⟨_, rfl, ?_, _, bt, rt, hbt, hrt, (by repeat' first | exact hR | refine RI_up ?_ ?_ | assumption | exact hR _ _ _ | (constructor <;> omega)), ?_, rfl⟩
    · unfold cellAx cellA
      (repeat' split) <;> omega
    · unfold cellM cellA
      (repeat' split) <;> first | exact agP_rfl _ | (exfalso; omega)

set_option maxHeartbeats 4000000 in
theorem c_X8_copy (l : Launch) (G : GS) (im : IM) (bt rt : Nat) (lm : IM) (hbt : bt < 6) (hrt : rt < 6) (hS : SC im) (a : Int) (i : Int) (b : Int) (j : Int) (n : Int) (ha : ri a) (hi : ri i) (hb : ri b) (hj : ri j) (hn : ri n) : Cn l (XC G) yX8_copy Y_X8_copy [vR 0 0, vI a, vI i, vI b, vI j, vI n] (im, rs bt rt, lm) (pI fun x m' => x = copyA im a i b j n ∧ stC lm (copyM im a i b j n) m') := by
  refine cn_of (by decide) (okC G) rfl (Nat.le_of_ble_eq_true rfl) ?_
  intro M ad hMl F
  subst hMl
  obtain ⟨hR, hW, hh, htc, hru, hgt, hz, hrd, hsh, him, htp⟩ := hS
  have w1 := hW.1
  have w2 := hW.2.1
  have w3 := hW.2.2.1
  have w4 := hW.2.2.2.1
  have w5 := hW.2.2.2.2.1
  have ha1 := ha.1
  have ha2 := ha.2
  have hi1 := hi.1
  have hi2 := hi.2
  have hb1 := hb.1
  have hb2 := hb.2
  have hj1 := hj.1
  have hj2 := hj.2
  have hn1 := hn.1
  have hn2 := hn.2
  refine wp_pad 2 ?_
  show Wp M (XC G) ad Y_X8_copy (pI fun x m' => x = copyA im a i b j n ∧ stC lm (copyM im a i b j n) m') 0 [some (vR 0 0), some (vI a), some (vI i), some (vI b), some (vI j), some (vI n), none, none] [] (im, rs bt rt, lm)
  refine q_iload_n (t := 1) F dX8_copy_0 rfl rfl rfl ?_
  refine q_iconst (t := 2) F dX8_copy_1 rfl ?_
  refine wp_callS (t := 5) [_, _] F dX8_copy_2 k_X8_within st_X8_within ml_X8_95 rfl rfl (Nat.le_of_ble_eq_true rfl) (by decide) (c_X8_within _ G _ bt rt lm a 4 ha (by constructor <;> omega)) rfl (kI ?_)
  rintro x2 m' ⟨hx2, rfl⟩
  have hx2 := if01 hx2
  refine q_if_eq (t := 8) (u := 16) F dX8_copy_5 (by first | exact hR _ _ _ | (constructor <;> omega)) (by decide) rfl (fun c5 => ?_) (fun c5 => ?_)
  · refine q_bipush (t := 18) F dX8_copy_16 (by decide) rfl ?_
    refine q_iret F dX8_copy_18 rfl ?_
    refine ⟨_, rfl, ?_, _, bt, rt, hbt, hrt, (by repeat' first | exact hR | refine RI_up ?_ ?_ | assumption | exact hR _ _ _ | (constructor <;> omega)), ?_, rfl⟩
    · unfold copyA
      (repeat' split) <;> omega
    · have hx : copyA im a i b j n = -2 := by
        unfold copyA
        rw [if_neg (by omega)]
      unfold copyM
      rw [if_neg (by omega)]
      exact agP_rfl _
  · refine q_iload_n (t := 9) F dX8_copy_8 rfl rfl rfl ?_
    refine q_iconst (t := 10) F dX8_copy_9 rfl ?_
    refine wp_callS (t := 13) [_, _] F dX8_copy_10 k_X8_within st_X8_within ml_X8_95 rfl rfl (Nat.le_of_ble_eq_true rfl) (by decide) (c_X8_within _ G _ bt rt lm b 4 hb (by constructor <;> omega)) rfl (kI ?_)
    rintro x10 m' ⟨hx10, rfl⟩
    have hx10 := if01 hx10
    refine q_if_ne (t := 16) (u := 19) F dX8_copy_13 (by first | exact hR _ _ _ | (constructor <;> omega)) (by decide) rfl (fun c13 => ?_) (fun c13 => ?_)
    · refine q_aload_n (t := 20) F dX8_copy_19 rfl rfl rfl ?_
      refine g_X8_17 (t := 23) F dX8_copy_20 rfl rfl ?_
      refine q_iload_n (t := 24) F dX8_copy_23 rfl rfl rfl ?_
      obtain ⟨a, rfl⟩ : ∃ k : Nat, a = (k : Int) := ⟨a.toNat, by omega⟩
      obtain ⟨b, rfl⟩ : ∃ k : Nat, b = (k : Int) := ⟨b.toNat, by omega⟩
      have haj : a < 4 := by omega
      have hbj : b < 4 := by omega
      have ha4 := hsh a haj
      have hb4 := hsh b hbj
      first | refine laN_6 (t := 25) F dX8_copy_24 (by omega) rfl ?_ | refine la_6 (t := 25) F dX8_copy_24 (by omega) (by omega) rfl ?_
      refine q_astore (t := 27) F dX8_copy_25 (by decide) rfl rfl ?_
      refine q_aload_n (t := 28) F dX8_copy_27 rfl rfl rfl ?_
      refine g_X8_17 (t := 31) F dX8_copy_28 rfl rfl ?_
      refine q_iload_n (t := 32) F dX8_copy_31 rfl rfl rfl ?_
      first | refine laN_6 (t := 33) F dX8_copy_32 (by omega) rfl ?_ | refine la_6 (t := 33) F dX8_copy_32 (by omega) (by omega) rfl ?_
      refine q_astore (t := 35) F dX8_copy_33 (by decide) rfl rfl ?_
      refine q_aload (t := 37) F dX8_copy_35 rfl rfl ?_
      refine wp_callV (t := 40) [] F dX8_copy_37 k_X5_isMissing v_X5_isMissing ml_X8_218 rfl rfl rfl rfl (Nat.le_of_ble_eq_true rfl) (by decide) (m_7 (by omega)) (c_X5_isMissing _ G im bt rt lm a haj hR) rfl (kI ?_)
      rintro x37 m' ⟨hx37, rfl⟩
      have hx37 := if01 hx37
      refine q_if_ne (t := 43) (u := 51) F dX8_copy_40 (by first | exact hR _ _ _ | (constructor <;> omega)) (by decide) rfl (fun c40 => ?_) (fun c40 => ?_)
      · refine q_bipush (t := 53) F dX8_copy_51 (by decide) rfl ?_
        refine q_iret F dX8_copy_53 rfl ?_
        have hx : copyA im a i b j n = -11 := by
          unfold copyA
          simp only [Int.toNat_natCast]
          (repeat' split) <;> omega
        refine ⟨_, rfl, hx.symm, _, bt, rt, hbt, hrt, hR, ?_, rfl⟩
        unfold copyM
        rw [if_neg (by omega)]
        exact agP_rfl _
      · refine q_aload (t := 45) F dX8_copy_43 rfl rfl ?_
        refine wp_callV (t := 48) [] F dX8_copy_45 k_X5_isMissing v_X5_isMissing ml_X8_218 rfl rfl rfl rfl (Nat.le_of_ble_eq_true rfl) (by decide) (m_7 (by omega)) (c_X5_isMissing _ G im bt rt lm b hbj hR) rfl (kI ?_)
        rintro x45 m' ⟨hx45, rfl⟩
        have hx45 := if01 hx45
        refine q_if_eq (t := 51) (u := 54) F dX8_copy_48 (by first | exact hR _ _ _ | (constructor <;> omega)) (by decide) rfl (fun c48 => ?_) (fun c48 => ?_)
        · refine q_aload (t := 56) F dX8_copy_54 rfl rfl ?_
          refine g_X8_281 (t := 59) F dX8_copy_56 rfl (by omega) rfl ?_
          try simp only [up_app, row_app, scr_app, cpy_app, Nat.reduceEqDiff, Int.reduceToNat, Int.toNat_natCast, and_true, true_and, and_false, false_and, and_self, reduceIte]
          refine q_aload (t := 61) F dX8_copy_59 rfl rfl ?_
          refine g_X8_281 (t := 64) F dX8_copy_61 rfl (by omega) rfl ?_
          try simp only [up_app, row_app, scr_app, cpy_app, Nat.reduceEqDiff, Int.reduceToNat, Int.toNat_natCast, and_true, true_and, and_false, false_and, and_self, reduceIte]
          refine q_icmp_eq (t := 67) (u := 70) F dX8_copy_64 (by first | exact hR _ _ _ | (constructor <;> omega)) (by first | exact hR _ _ _ | (constructor <;> omega)) (by decide) rfl (fun c64 => ?_) (fun c64 => ?_)
          · refine q_aload (t := 72) F dX8_copy_70 rfl rfl ?_
            refine q_iload_n (t := 73) F dX8_copy_72 rfl rfl rfl ?_
            refine q_iload (t := 75) F dX8_copy_73 rfl rfl ?_
            refine wp_callV (t := 78) [_, _] F dX8_copy_75 k_X5_holds v_X5_holds ml_X8_284 rfl rfl rfl rfl (Nat.le_of_ble_eq_true rfl) (by decide) (m_7 (by omega)) (c_X5_holds _ G im bt rt lm a haj i n hi hn ha4.2.2.1 ha4.2.2.2 hR) rfl (kI ?_)
            rintro x75 m' ⟨hx75, rfl⟩
            have hx75 := if01 hx75
            refine q_if_eq (t := 81) (u := 93) F dX8_copy_78 (by first | exact hR _ _ _ | (constructor <;> omega)) (by decide) rfl (fun c78 => ?_) (fun c78 => ?_)
            · refine q_bipush (t := 95) F dX8_copy_93 (by decide) rfl ?_
              refine q_iret F dX8_copy_95 rfl ?_
              have hx : copyA im a i b j n = -12 := by
                unfold copyA
                simp only [Int.toNat_natCast]
                (repeat' split) <;> omega
              refine ⟨_, rfl, hx.symm, _, bt, rt, hbt, hrt, hR, ?_, rfl⟩
              unfold copyM
              rw [if_neg (by omega)]
              exact agP_rfl _
            · refine q_aload (t := 83) F dX8_copy_81 rfl rfl ?_
              refine q_iload (t := 85) F dX8_copy_83 rfl rfl ?_
              refine q_iload (t := 87) F dX8_copy_85 rfl rfl ?_
              refine wp_callV (t := 90) [_, _] F dX8_copy_87 k_X5_holds v_X5_holds ml_X8_284 rfl rfl rfl rfl (Nat.le_of_ble_eq_true rfl) (by decide) (m_7 (by omega)) (c_X5_holds _ G im bt rt lm b hbj j n hj hn hb4.2.2.1 hb4.2.2.2 hR) rfl (kI ?_)
              rintro x87 m' ⟨hx87, rfl⟩
              have hx87 := if01 hx87
              refine q_if_ne (t := 93) (u := 96) F dX8_copy_90 (by first | exact hR _ _ _ | (constructor <;> omega)) (by decide) rfl (fun c90 => ?_) (fun c90 => ?_)
              · refine q_aload (t := 98) F dX8_copy_96 rfl rfl ?_
                refine g_X8_232 (t := 101) F dX8_copy_98 rfl (by omega) rfl ?_
                refine q_iload_n (t := 102) F dX8_copy_101 rfl rfl rfl ?_
                refine q_aload (t := 104) F dX8_copy_102 rfl rfl ?_
                refine g_X8_232 (t := 107) F dX8_copy_104 rfl (by omega) rfl ?_
                refine q_iload (t := 109) F dX8_copy_107 rfl rfl ?_
                refine q_iload (t := 111) F dX8_copy_109 rfl rfl ?_
                refine wp_copy (t := 114) F dX8_copy_111 ml_X8_286 nv_J10_arraycopy st_J10_arraycopy in_J10 rfl rfl (by decide) (by decide) (m_8 (by omega)) (m_8 (by omega)) (by omega) (by omega) (by omega) (by omega) (by omega) (Nat.le_of_ble_eq_true rfl) (by decide) rfl ?_
                refine q_iload (t := 116) F dX8_copy_114 rfl rfl ?_
                refine q_iret F dX8_copy_116 rfl ?_
                have hx : copyA im a i b j n = n := by
                  unfold copyA
                  simp only [Int.toNat_natCast]
                  (repeat' split) <;> omega
                refine ⟨_, rfl, hx.symm, _, bt, rt, hbt, hrt, RI_cpy hR, ?_, rfl⟩
                unfold copyM
                rw [if_pos (by omega)]
                simp only [Int.toNat_natCast]
                exact agP_rfl _
              · refine q_bipush (t := 95) F dX8_copy_93 (by decide) rfl ?_
                refine q_iret F dX8_copy_95 rfl ?_
                have hx : copyA im a i b j n = -12 := by
                  unfold copyA
                  simp only [Int.toNat_natCast]
                  (repeat' split) <;> omega
                refine ⟨_, rfl, hx.symm, _, bt, rt, hbt, hrt, hR, ?_, rfl⟩
                unfold copyM
                rw [if_neg (by omega)]
                exact agP_rfl _
          · refine q_bipush (t := 69) F dX8_copy_67 (by decide) rfl ?_
            refine q_iret F dX8_copy_69 rfl ?_
            have hx : copyA im a i b j n = -13 := by
              unfold copyA
              simp only [Int.toNat_natCast]
              (repeat' split) <;> omega
            refine ⟨_, rfl, hx.symm, _, bt, rt, hbt, hrt, hR, ?_, rfl⟩
            unfold copyM
            rw [if_neg (by omega)]
            exact agP_rfl _
        · refine q_bipush (t := 53) F dX8_copy_51 (by decide) rfl ?_
          refine q_iret F dX8_copy_53 rfl ?_
          have hx : copyA im a i b j n = -11 := by
            unfold copyA
            simp only [Int.toNat_natCast]
            (repeat' split) <;> omega
          refine ⟨_, rfl, hx.symm, _, bt, rt, hbt, hrt, hR, ?_, rfl⟩
          unfold copyM
          rw [if_neg (by omega)]
          exact agP_rfl _
    · refine q_bipush (t := 18) F dX8_copy_16 (by decide) rfl ?_
      refine q_iret F dX8_copy_18 rfl ?_
      refine ⟨_, rfl, ?_, _, bt, rt, hbt, hrt, (by repeat' first | exact hR | refine RI_up ?_ ?_ | assumption | exact hR _ _ _ | (constructor <;> omega)), ?_, rfl⟩
      · unfold copyA
        (repeat' split) <;> omega
      · have hx : copyA im a i b j n = -2 := by
          unfold copyA
          rw [if_neg (by omega)]
        unfold copyM
        rw [if_neg (by omega)]
        exact agP_rfl _

def takenA (im : IM) (man k : Int) : Int := if 0 ≤ k ∧ k < 6 then (if 0 ≤ man ∧ man < im 18 0 3 then (if underK k 6 (im 21 (5 * 0 + man.toNat) 0) = 0 then -13 else im 21 (5 * 0 + man.toNat) 1) else -11) else -2

theorem underK_ri (b : Int) (n : Nat) : ∀ k : Int, ri (underK b n k) := by
  induction n with
  | zero => intro k; exact ⟨by show (-2147483648 : Int) ≤ 0; omega, by show (0 : Int) < 2147483648; omega⟩
  | succ n ih =>
    intro k
    rw [underK_s]
    (repeat' split) <;> first | exact ih _ | (constructor <;> omega)

set_option maxHeartbeats 4000000 in
theorem c_X8_taken (l : Launch) (G : GS) (im : IM) (bt rt : Nat) (lm : IM) (hbt : bt < 6) (hrt : rt < 6) (hS : SC im) (man : Int) (k : Int) (hman : ri man) (hk : ri k) : Cn l (XC G) yX8_taken Y_X8_taken [vR 0 0, vI man, vI k] (im, rs bt rt, lm) (pI fun x m' => x = takenA im man k ∧ stC lm im m') := by
  refine cn_of (by decide) (okC G) rfl (Nat.le_of_ble_eq_true rfl) ?_
  intro M ad hMl F
  subst hMl
  obtain ⟨hR, hW, hh, htc, hru, hgt, hz, hrd, hsh, him, htp⟩ := hS
  have w1 := hW.1
  have w2 := hW.2.1
  have w3 := hW.2.2.1
  have w4 := hW.2.2.2.1
  have w5 := hW.2.2.2.2.1
  have hman1 := hman.1
  have hman2 := hman.2
  have hk1 := hk.1
  have hk2 := hk.2
  refine wp_pad 1 ?_
  show Wp M (XC G) ad Y_X8_taken (pI fun x m' => x = takenA im man k ∧ stC lm im m') 0 [some (vR 0 0), some (vI man), some (vI k), none] [] (im, rs bt rt, lm)
  refine q_iload_n (t := 1) F dX8_taken_0 rfl rfl rfl ?_
  refine q_bipush (t := 3) F dX8_taken_1 (by decide) rfl ?_
  refine wp_callS (t := 6) [_, _] F dX8_taken_3 k_X8_within st_X8_within ml_X8_95 rfl rfl (Nat.le_of_ble_eq_true rfl) (by decide) (c_X8_within _ G _ bt rt lm k 6 hk (by constructor <;> omega)) rfl (kI ?_)
  rintro x3 m' ⟨hx3, rfl⟩
  have hx3 := if01 hx3
  refine q_if_ne (t := 9) (u := 12) F dX8_taken_6 (by first | exact hR _ _ _ | (constructor <;> omega)) (by decide) rfl (fun c6 => ?_) (fun c6 => ?_)
  · refine q_aload_n (t := 13) F dX8_taken_12 rfl rfl rfl ?_
    refine q_iload_n (t := 14) F dX8_taken_13 rfl rfl rfl ?_
    refine wp_callV (t := 17) [_] F dX8_taken_14 k_X8_isOne v_X8_isOne ml_X8_91 rfl rfl rfl rfl (Nat.le_of_ble_eq_true rfl) (by decide) (m_0 (by omega)) (c_X8_isOne _ G _ bt rt lm man hman hR) rfl (kI ?_)
    rintro x14 m' ⟨hx14, rfl⟩
    have hx14 := if01 hx14
    refine q_if_ne (t := 20) (u := 23) F dX8_taken_17 (by first | exact hR _ _ _ | (constructor <;> omega)) (by decide) rfl (fun c17 => ?_) (fun c17 => ?_)
    · refine q_aload_n (t := 24) F dX8_taken_23 rfl rfl rfl ?_
      refine g_X8_51 (t := 27) F dX8_taken_24 rfl rfl ?_
      refine g_X8_99 (t := 30) F dX8_taken_27 rfl (by omega) rfl ?_
      refine q_iload_n (t := 31) F dX8_taken_30 rfl rfl rfl ?_
      obtain ⟨man, rfl⟩ : ∃ k : Nat, man = (k : Int) := ⟨man.toNat, by omega⟩
      have hq := hW.2.2.2.2.2 man (by omega)
      have hq1 := hq.1
      first | refine laN_19 (t := 32) F dX8_taken_31 (by omega) (by omega) rfl ?_ | refine la_19 (t := 32) F dX8_taken_31 (by omega) (by omega) (by omega) rfl ?_
      refine q_astore_n (t := 33) F dX8_taken_32 rfl (by decide) rfl rfl ?_
      refine q_aload_n (t := 34) F dX8_taken_33 rfl rfl rfl ?_
      refine g_X8_122 (t := 37) F dX8_taken_34 rfl (by omega) rfl ?_
      try simp only [up_app, row_app, scr_app, cpy_app, Nat.reduceEqDiff, Int.reduceToNat, Int.toNat_natCast, and_true, true_and, and_false, false_and, and_self, reduceIte]
      refine q_iload_n (t := 38) F dX8_taken_37 rfl rfl rfl ?_
      refine wp_callS (t := 41) [_, _] F dX8_taken_38 k_X2_isUnder st_X2_isUnder ml_X8_295 rfl rfl (Nat.le_of_ble_eq_true rfl) (by decide) (c_X2_isUnder _ G im bt rt lm (im 21 (5 * 0 + man) 0) k (by omega) (by omega) (by omega) (by omega)) rfl (kI ?_)
      rintro x38 m' ⟨hx38, rfl⟩
      refine q_if_eq (t := 44) (u := 51) F dX8_taken_41 (by rw [hx38]; exact underK_ri _ _ _) (by decide) rfl (fun c41 => ?_) (fun c41 => ?_)
      · refine q_bipush (t := 53) F dX8_taken_51 (by decide) rfl ?_
        refine q_iret F dX8_taken_53 rfl ?_
        refine ⟨_, rfl, ?_, _, bt, rt, hbt, hrt, hR, agP_rfl _, rfl⟩
        unfold takenA
        simp only [Int.toNat_natCast]
        first
          | (rw [if_pos (by omega), if_pos (by omega), if_neg (by omega)])
          | (rw [if_pos (by omega), if_pos (by omega), if_pos (by omega)])
      · refine q_aload_n (t := 45) F dX8_taken_44 rfl rfl rfl ?_
        refine g_X8_103 (t := 48) F dX8_taken_45 rfl (by omega) rfl ?_
        try simp only [up_app, row_app, scr_app, cpy_app, Nat.reduceEqDiff, Int.reduceToNat, Int.toNat_natCast, and_true, true_and, and_false, false_and, and_self, reduceIte]
        refine q_goto (t := 53) F dX8_taken_48 (by decide) ?_
        refine q_iret F dX8_taken_53 rfl ?_
        refine ⟨_, rfl, ?_, _, bt, rt, hbt, hrt, hR, agP_rfl _, rfl⟩
        unfold takenA
        simp only [Int.toNat_natCast]
        first
          | (rw [if_pos (by omega), if_pos (by omega), if_neg (by omega)])
          | (rw [if_pos (by omega), if_pos (by omega), if_pos (by omega)])
    · refine q_bipush (t := 22) F dX8_taken_20 (by decide) rfl ?_
      refine q_iret F dX8_taken_22 rfl ?_
      refine ⟨_, rfl, ?_, _, bt, rt, hbt, hrt, (by repeat' first | exact hR | refine RI_up ?_ ?_ | assumption | exact hR _ _ _ | (constructor <;> omega)), ?_, rfl⟩
      · unfold takenA
        (repeat' split) <;> omega
      · exact agP_rfl _
  · refine q_bipush (t := 11) F dX8_taken_9 (by decide) rfl ?_
    refine q_iret F dX8_taken_11 rfl ?_
    refine ⟨_, rfl, ?_, _, bt, rt, hbt, hrt, (by repeat' first | exact hR | refine RI_up ?_ ?_ | assumption | exact hR _ _ _ | (constructor <;> omega)), ?_, rfl⟩
    · unfold takenA
      (repeat' split) <;> omega
    · exact agP_rfl _
end
section
/-! people off a sheet -/
def pplS (j : Nat) (fr : Int) : Nat → Nat → Int → IM → Int × IM
  | 0, _, c, im => (c, im)
  | f + 1, i, c, im => if 0 ≤ bm (fr + 2 * i) ∧ bm (fr + 2 * i) + 2 ≤ im 7 j 2 then pplS j fr f (i + 1) (if 0 ≤ manA im (im 8 j (bm (fr + 2 * i)).toNat) (im 8 j ((bm (fr + 2 * i)).toNat + 1)) then c + 1 else c) (manM im (im 8 j (bm (fr + 2 * i)).toNat) (im 8 j ((bm (fr + 2 * i)).toNat + 1))) else (-12, im)
theorem pplS_s (j : Nat) (fr : Int) (f i : Nat) (c : Int) (im : IM) : pplS j fr (f + 1) i c im = if 0 ≤ bm (fr + 2 * i) ∧ bm (fr + 2 * i) + 2 ≤ im 7 j 2 then pplS j fr f (i + 1) (if 0 ≤ manA im (im 8 j (bm (fr + 2 * i)).toNat) (im 8 j ((bm (fr + 2 * i)).toNat + 1)) then c + 1 else c) (manM im (im 8 j (bm (fr + 2 * i)).toNat) (im 8 j ((bm (fr + 2 * i)).toNat + 1))) else (-12, im) := rfl
def peopleV (im : IM) (sheet sort n : Int) : Int := if (0 ≤ sheet ∧ sheet < 4) ∧ (0 ≤ sort ∧ sort < 3) ∧ 0 ≤ n ∧ n ≤ 5 then (if im 7 sheet.toNat 1 = -1 then -11 else if im 7 sheet.toNat 1 = sort then 1 else -13) else -2
def peopleA (im : IM) (sheet sort fr n : Int) : Int := if peopleV im sheet sort n = 1 then (pplS sheet.toNat fr n.toNat 0 0 im).1 else peopleV im sheet sort n
def peopleM (im : IM) (sheet sort fr n : Int) : IM := if peopleV im sheet sort n = 1 then (pplS sheet.toNat fr n.toNat 0 0 im).2 else im
theorem manA_agP {a b : IM} (h : agP a b) (x y : Int) : manA a x y = manA b x y := by
  unfold manA
  rw [h.1 18 0 3 (by unfold per; omega)]
theorem manM_agP {a b : IM} (h : agP a b) (x y : Int) : agP (manM a x y) (manM b x y) := by
  have e3 := h.1 18 0 3 (by unfold per; omega)
  unfold manM
  rw [e3]
  split
  · unfold welM
    rw [e3]
    refine ⟨fun k i s hp => ?_, ?_⟩
    · have := h.1 k i s hp
      simp only [up_app, fl_app]
      (repeat' split) <;> first | rfl | assumption
    · simp only [up_app, fl_app]
      rw [if_neg (by omega), if_neg (by omega), if_neg (by omega), if_neg (by omega), if_neg (by omega), if_neg (by omega), if_neg (by omega), if_neg (by omega)]
      exact h.2
  · exact h
theorem manA_ri {im : IM} (hS : SC im) (a b : Int) : ri (manA im a b) := by
  have w1 := hS.2.1.1
  unfold manA
  (repeat' split) <;> (constructor <;> omega)

set_option maxHeartbeats 4000000 in
theorem c_X8_people (l : Launch) (G : GS) (im : IM) (bt rt : Nat) (lm : IM) (hbt : bt < 6) (hrt : rt < 6) (hS : SC im) (sheet : Int) (sort : Int) (fr : Int) (n : Int) (hsheet : ri sheet) (hsort : ri sort) (hfr : ri fr) (hn : ri n) : Cn l (XC G) yX8_people Y_X8_people [vR 0 0, vI sheet, vI sort, vI fr, vI n] (im, rs bt rt, lm) (pI fun x m' => x = peopleA im sheet sort fr n ∧ stC lm (peopleM im sheet sort fr n) m') := by
  refine cn_of (by decide) (okC G) rfl (Nat.le_of_ble_eq_true rfl) ?_
  intro M ad hMl F
  subst hMl
  obtain ⟨hR, hW, hh, htc, hru, hgt, hz, hrd, hsh, him, htp⟩ := hS
  have w1 := hW.1
  have w2 := hW.2.1
  have w3 := hW.2.2.1
  have w4 := hW.2.2.2.1
  have w5 := hW.2.2.2.2.1
  have hsheet1 := hsheet.1
  have hsheet2 := hsheet.2
  have hsort1 := hsort.1
  have hsort2 := hsort.2
  have hfr1 := hfr.1
  have hfr2 := hfr.2
  have hn1 := hn.1
  have hn2 := hn.2
  refine wp_pad 4 ?_
  show Wp M (XC G) ad Y_X8_people (pI fun x m' => x = peopleA im sheet sort fr n ∧ stC lm (peopleM im sheet sort fr n) m') 0 [some (vR 0 0), some (vI sheet), some (vI sort), some (vI fr), some (vI n), none, none, none, none] [] (im, rs bt rt, lm)
  refine q_iload_n (t := 1) F dX8_people_0 rfl rfl rfl ?_
  refine q_iconst (t := 2) F dX8_people_1 rfl ?_
  refine wp_callS (t := 5) [_, _] F dX8_people_2 k_X8_within st_X8_within ml_X8_95 rfl rfl (Nat.le_of_ble_eq_true rfl) (by decide) (c_X8_within _ G _ bt rt lm sheet 4 hsheet (by constructor <;> omega)) rfl (kI ?_)
  rintro x2 m' ⟨hx2, rfl⟩
  have hx2 := if01 hx2
  refine q_if_eq (t := 8) (u := 27) F dX8_people_5 (by first | exact hR _ _ _ | (constructor <;> omega)) (by decide) rfl (fun c5 => ?_) (fun c5 => ?_)
  · refine q_bipush (t := 29) F dX8_people_27 (by decide) rfl ?_
    refine q_iret F dX8_people_29 rfl ?_
    have hx : peopleV im sheet sort n = -2 := by
      unfold peopleV
      try simp only [Int.toNat_natCast]
      (repeat' split) <;> omega
    refine ⟨_, rfl, ?_, _, bt, rt, hbt, hrt, hR, ?_, rfl⟩
    · unfold peopleA
      rw [hx, if_neg (by omega)]
    · unfold peopleM
      rw [hx, if_neg (by omega)]
      exact agP_rfl _
  · refine q_iload_n (t := 9) F dX8_people_8 rfl rfl rfl ?_
    refine q_iconst (t := 10) F dX8_people_9 rfl ?_
    refine wp_callS (t := 13) [_, _] F dX8_people_10 k_X8_within st_X8_within ml_X8_95 rfl rfl (Nat.le_of_ble_eq_true rfl) (by decide) (c_X8_within _ G _ bt rt lm sort 3 hsort (by constructor <;> omega)) rfl (kI ?_)
    rintro x10 m' ⟨hx10, rfl⟩
    have hx10 := if01 hx10
    refine q_if_eq (t := 16) (u := 27) F dX8_people_13 (by first | exact hR _ _ _ | (constructor <;> omega)) (by decide) rfl (fun c13 => ?_) (fun c13 => ?_)
    · refine q_bipush (t := 29) F dX8_people_27 (by decide) rfl ?_
      refine q_iret F dX8_people_29 rfl ?_
      have hx : peopleV im sheet sort n = -2 := by
        unfold peopleV
        try simp only [Int.toNat_natCast]
        (repeat' split) <;> omega
      refine ⟨_, rfl, ?_, _, bt, rt, hbt, hrt, hR, ?_, rfl⟩
      · unfold peopleA
        rw [hx, if_neg (by omega)]
      · unfold peopleM
        rw [hx, if_neg (by omega)]
        exact agP_rfl _
    · refine q_iload (t := 18) F dX8_people_16 rfl rfl ?_
      refine q_if_lt (t := 21) (u := 27) F dX8_people_18 (by first | exact hR _ _ _ | (constructor <;> omega)) (by decide) rfl (fun c18 => ?_) (fun c18 => ?_)
      · refine q_bipush (t := 29) F dX8_people_27 (by decide) rfl ?_
        refine q_iret F dX8_people_29 rfl ?_
        have hx : peopleV im sheet sort n = -2 := by
          unfold peopleV
          try simp only [Int.toNat_natCast]
          (repeat' split) <;> omega
        refine ⟨_, rfl, ?_, _, bt, rt, hbt, hrt, hR, ?_, rfl⟩
        · unfold peopleA
          rw [hx, if_neg (by omega)]
        · unfold peopleM
          rw [hx, if_neg (by omega)]
          exact agP_rfl _
      · refine q_iload (t := 23) F dX8_people_21 rfl rfl ?_
        refine q_iconst (t := 24) F dX8_people_23 rfl ?_
        refine q_icmp_le (t := 27) (u := 30) F dX8_people_24 (by first | exact hR _ _ _ | (constructor <;> omega)) (by first | exact hR _ _ _ | (constructor <;> omega)) (by decide) rfl (fun c24 => ?_) (fun c24 => ?_)
        · refine q_aload_n (t := 31) F dX8_people_30 rfl rfl rfl ?_
          refine g_X8_17 (t := 34) F dX8_people_31 rfl rfl ?_
          refine q_iload_n (t := 35) F dX8_people_34 rfl rfl rfl ?_
          obtain ⟨sheet, rfl⟩ : ∃ k : Nat, sheet = (k : Int) := ⟨sheet.toNat, by omega⟩
          have hj : sheet < 4 := by omega
          have hs4 := hsh sheet hj
          first | refine laN_6 (t := 36) F dX8_people_35 (by omega) rfl ?_ | refine la_6 (t := 36) F dX8_people_35 (by omega) (by omega) rfl ?_
          refine q_astore (t := 38) F dX8_people_36 (by decide) rfl rfl ?_
          refine q_aload (t := 40) F dX8_people_38 rfl rfl ?_
          refine wp_callV (t := 43) [] F dX8_people_40 k_X5_isMissing v_X5_isMissing ml_X8_218 rfl rfl rfl rfl (Nat.le_of_ble_eq_true rfl) (by decide) (m_7 (by omega)) (c_X5_isMissing _ G im bt rt lm sheet hj hR) rfl (kI ?_)
          rintro x40 m' ⟨hx40, rfl⟩
          have hx40 := if01 hx40
          refine q_if_eq (t := 46) (u := 49) F dX8_people_43 (by first | exact hR _ _ _ | (constructor <;> omega)) (by decide) rfl (fun c43 => ?_) (fun c43 => ?_)
          · refine q_aload (t := 51) F dX8_people_49 rfl rfl ?_
            refine g_X8_281 (t := 54) F dX8_people_51 rfl (by omega) rfl ?_
            try simp only [up_app, row_app, scr_app, cpy_app, Nat.reduceEqDiff, Int.reduceToNat, Int.toNat_natCast, and_true, true_and, and_false, false_and, and_self, reduceIte]
            refine q_iload_n (t := 55) F dX8_people_54 rfl rfl rfl ?_
            refine q_icmp_eq (t := 58) (u := 61) F dX8_people_55 (by exact hR _ _ _) (by constructor <;> omega) (by decide) rfl (fun c55 => ?_) (fun c55 => ?_)
            · refine q_iconst (t := 62) F dX8_people_61 rfl ?_
              refine q_istore (t := 64) F dX8_people_62 (by decide) rfl rfl ?_
              refine q_iconst (t := 65) F dX8_people_64 rfl ?_
              obtain ⟨n, rfl⟩ : ∃ k : Nat, n = (k : Int) := ⟨n.toNat, by omega⟩
              have hx : peopleV im sheet sort n = 1 := by
                unfold peopleV
                simp only [Int.toNat_natCast]
                (repeat' split) <;> omega
              refine q_istore (t := 67) F dX8_people_65 (by decide) rfl rfl ?_
              have L67 : ∀ (fz : Nat) (i : Nat) (c : Int) (S im2 : IM) (bt2 rt2 : Nat), n - i < fz → i ≤ n → bt2 < 6 → rt2 < 6 → SC im2 → SC S → agP im2 S → pplS sheet fr (n - i) i c S = pplS sheet fr n 0 0 im → Wp M (XC G) ad Y_X8_people (pI fun x m' => x = peopleA im sheet sort fr n ∧ stC lm (peopleM im sheet sort fr n) m') 67 [some (vR 0 0), some (vI (sheet : Int)), some (vI sort), some (vI fr), some (vI (n : Int)), some (vR 7 sheet), some (vI c), some (vI (i : Int)), none] [] (im2, rs bt2 rt2, lm) := by
                intro fz
                induction fz with
                | zero => intro i c S im2 bt2 rt2 h; exact absurd h (Nat.not_lt_zero _)
                | succ fz ih =>
                  have ih67 := ih
                  intro i c S im2 bt2 rt2 hmeas hi hbt2 hrt2 hS2 hSS hP2 hpp
                  have hs42 := hS2.2.2.2.2.2.2.2.2.1 sheet hj
                  have e8 : ∀ s, im2 8 sheet s = S 8 sheet s := fun s => hP2.1 8 sheet s (by unfold per; omega)
                  have e7 : im2 7 sheet 2 = S 7 sheet 2 := hP2.1 7 sheet 2 (by unfold per; omega)
                  refine q_iload (t := 69) F dX8_people_67 rfl rfl ?_
                  refine q_iload (t := 71) F dX8_people_69 rfl rfl ?_
                  refine q_icmp_ge (t := 74) (u := 130) F dX8_people_71 (by first | exact hR _ _ _ | (constructor <;> omega)) (by first | exact hR _ _ _ | (constructor <;> omega)) (by decide) rfl (fun c71 => ?_) (fun c71 => ?_)
                  · refine q_iload (t := 132) F dX8_people_130 rfl rfl ?_
                    refine q_iret F dX8_people_132 rfl ?_
                    have hni : n - i = 0 := by omega
                    rw [hni] at hpp
                    have hpp2 : (c, S) = pplS sheet fr n 0 0 im := hpp
                    refine ⟨_, rfl, ?_, im2, bt2, rt2, hbt2, hrt2, hS2.1, ?_, rfl⟩
                    · unfold peopleA
                      rw [if_pos hx]
                      simp only [Int.toNat_natCast]
                      rw [← hpp2]
                    · unfold peopleM
                      rw [if_pos hx]
                      simp only [Int.toNat_natCast]
                      rw [← hpp2]
                      exact hP2
                  · refine q_iload_n (t := 75) F dX8_people_74 rfl rfl rfl ?_
                    refine q_iconst (t := 76) F dX8_people_75 rfl ?_
                    refine q_iload (t := 78) F dX8_people_76 rfl rfl ?_
                    refine q_imul (t := 79) F dX8_people_78 rfl ?_
                    refine q_iadd (t := 80) F dX8_people_79 rfl ?_
                    refine q_norm ?_
                    refine q_istore (t := 82) F dX8_people_80 (by decide) rfl rfl ?_
                    refine q_aload (t := 84) F dX8_people_82 rfl rfl ?_
                    refine q_iload (t := 86) F dX8_people_84 rfl rfl ?_
                    refine q_iconst (t := 87) F dX8_people_86 rfl ?_
                    refine wp_callV (t := 90) [_, _] F dX8_people_87 k_X5_holds v_X5_holds ml_X8_284 rfl rfl rfl rfl (Nat.le_of_ble_eq_true rfl) (by decide) (m_7 (by omega)) (c_X5_holds _ G im2 bt2 rt2 lm sheet hj (bm (fr + 2 * i)) 2 (ri_b _) (by constructor <;> omega) hs42.2.2.1 hs42.2.2.2 hS2.1) rfl (kI ?_)
                    rintro x87 m' ⟨hx87, rfl⟩
                    have hx87 := if01 hx87
                    refine q_if_ne (t := 93) (u := 96) F dX8_people_90 (by first | exact hR _ _ _ | (constructor <;> omega)) (by decide) rfl (fun c90 => ?_) (fun c90 => ?_)
                    · refine q_aload_n (t := 97) F dX8_people_96 rfl rfl rfl ?_
                      refine q_aload (t := 99) F dX8_people_97 rfl rfl ?_
                      refine g_X8_232 (t := 102) F dX8_people_99 rfl (by omega) rfl ?_
                      refine q_iload (t := 104) F dX8_people_102 rfl rfl ?_
                      obtain ⟨p, hp⟩ : ∃ p : Nat, bm (fr + 2 * i) = (p : Int) := ⟨(bm (fr + 2 * i)).toNat, by omega⟩
                      rw [hp]
                      first | refine ldN_8 (t := 105) F dX8_people_104 (by omega) (by omega) rfl ?_ | refine ld_8 (t := 105) F dX8_people_104 (by omega) (by omega) (by omega) rfl ?_
                      try simp only [up_app, row_app, scr_app, cpy_app, Nat.reduceEqDiff, Int.reduceToNat, Int.toNat_natCast, and_true, true_and, and_false, false_and, and_self, reduceIte]
                      refine q_aload (t := 107) F dX8_people_105 rfl rfl ?_
                      refine g_X8_232 (t := 110) F dX8_people_107 rfl (by omega) rfl ?_
                      refine q_iload (t := 112) F dX8_people_110 rfl rfl ?_
                      refine q_iconst (t := 113) F dX8_people_112 rfl ?_
                      refine q_iadd (t := 114) F dX8_people_113 rfl ?_
                      rw [show (p : Int) + 1 = ((p + 1 : Nat) : Int) by omega]
                      first | refine ldN_8 (t := 115) F dX8_people_114 (by omega) (by omega) rfl ?_ | refine ld_8 (t := 115) F dX8_people_114 (by omega) (by omega) (by omega) rfl ?_
                      try simp only [up_app, row_app, scr_app, cpy_app, Nat.reduceEqDiff, Int.reduceToNat, Int.toNat_natCast, and_true, true_and, and_false, false_and, and_self, reduceIte]
                      refine wp_callV (t := 118) [_, _] F dX8_people_115 k_X8_man v_X8_man ml_X8_292 rfl rfl rfl rfl (Nat.le_of_ble_eq_true rfl) (by decide) (m_0 (by omega)) (c_X8_man _ G im2 bt2 rt2 lm hbt2 hrt2 hS2 (im2 8 sheet p) (im2 8 sheet (p + 1)) (hS2.1 _ _ _) (hS2.1 _ _ _)) rfl (kI ?_)
                      rintro x115 m' ⟨hx115, hst⟩
                      obtain ⟨im3, bt3, rt3, hbt3, hrt3, hS3, hag3, rfl⟩ := SC_st hst (SC_man hS2 (hS2.1 _ _ _) (hS2.1 _ _ _))
                      rw [manA_agP hP2, e8, e8] at hx115
                      have hxr : ri x115 := by rw [hx115]; exact manA_ri hSS _ _
                      have hP3 : agP im3 (manM S (S 8 sheet p) (S 8 sheet (p + 1))) := by
                        rw [← e8, ← e8]
                        exact hag3.trans (manM_agP hP2 _ _)
                      refine q_if_lt (t := 121) (u := 124) F dX8_people_118 (by exact hxr) (by decide) rfl (fun c118 => ?_) (fun c118 => ?_)
                      · refine q_iinc (t := 127) F dX8_people_124 rfl (by decide) rfl rfl ?_
                        refine q_goto (t := 67) F dX8_people_127 (by decide) ?_
                        refine wp_less 8 ?_
                        have hni : n - i = (n - (i + 1)) + 1 := by omega
                        rw [hni, pplS_s, if_pos (by omega), hp, Int.toNat_natCast] at hpp
                        first
                          | (rw [if_pos (by omega)] at hpp
                             exact ih67 (i + 1) _ _ im3 bt3 rt3 (by omega) (by omega) hbt3 hrt3 hS3 (SC_man hSS (hSS.1 _ _ _) (hSS.1 _ _ _)) hP3 hpp)
                          | (rw [if_neg (by omega)] at hpp
                             exact ih67 (i + 1) _ _ im3 bt3 rt3 (by omega) (by omega) hbt3 hrt3 hS3 (SC_man hSS (hSS.1 _ _ _) (hSS.1 _ _ _)) hP3 hpp)
                      · refine q_iinc (t := 124) F dX8_people_121 rfl (by decide) rfl rfl ?_
                        refine q_iinc (t := 127) F dX8_people_124 rfl (by decide) rfl rfl ?_
                        refine q_goto (t := 67) F dX8_people_127 (by decide) ?_
                        refine wp_less 8 ?_
                        have hni : n - i = (n - (i + 1)) + 1 := by omega
                        rw [hni, pplS_s, if_pos (by omega), hp, Int.toNat_natCast] at hpp
                        first
                          | (rw [if_pos (by omega)] at hpp
                             exact ih67 (i + 1) _ _ im3 bt3 rt3 (by omega) (by omega) hbt3 hrt3 hS3 (SC_man hSS (hSS.1 _ _ _) (hSS.1 _ _ _)) hP3 hpp)
                          | (rw [if_neg (by omega)] at hpp
                             exact ih67 (i + 1) _ _ im3 bt3 rt3 (by omega) (by omega) hbt3 hrt3 hS3 (SC_man hSS (hSS.1 _ _ _) (hSS.1 _ _ _)) hP3 hpp)
                    · refine q_bipush (t := 95) F dX8_people_93 (by decide) rfl ?_
                      refine q_iret F dX8_people_95 rfl ?_
                      have hni : n - i = (n - (i + 1)) + 1 := by omega
                      rw [hni, pplS_s, if_neg (by omega)] at hpp
                      refine ⟨_, rfl, ?_, im2, bt2, rt2, hbt2, hrt2, hS2.1, ?_, rfl⟩
                      · unfold peopleA
                        rw [if_pos hx]
                        simp only [Int.toNat_natCast]
                        rw [← hpp]
                      · unfold peopleM
                        rw [if_pos hx]
                        simp only [Int.toNat_natCast]
                        rw [← hpp]
                        exact hP2
              exact L67 _ 0 0 im im bt rt (Nat.lt_succ_self _) (by omega) hbt hrt ⟨hR, hW, hh, htc, hru, hgt, hz, hrd, hsh, him, htp⟩ ⟨hR, hW, hh, htc, hru, hgt, hz, hrd, hsh, him, htp⟩ (agP_rfl _) rfl
            · refine q_bipush (t := 60) F dX8_people_58 (by decide) rfl ?_
              refine q_iret F dX8_people_60 rfl ?_
              have hx : peopleV im sheet sort n = -13 := by
                unfold peopleV
                try simp only [Int.toNat_natCast]
                (repeat' split) <;> omega
              refine ⟨_, rfl, ?_, _, bt, rt, hbt, hrt, hR, ?_, rfl⟩
              · unfold peopleA
                rw [hx, if_neg (by omega)]
              · unfold peopleM
                rw [hx, if_neg (by omega)]
                exact agP_rfl _
          · refine q_bipush (t := 48) F dX8_people_46 (by decide) rfl ?_
            refine q_iret F dX8_people_48 rfl ?_
            have hx : peopleV im sheet sort n = -11 := by
              unfold peopleV
              try simp only [Int.toNat_natCast]
              (repeat' split) <;> omega
            refine ⟨_, rfl, ?_, _, bt, rt, hbt, hrt, hR, ?_, rfl⟩
            · unfold peopleA
              rw [hx, if_neg (by omega)]
            · unfold peopleM
              rw [hx, if_neg (by omega)]
              exact agP_rfl _
        · refine q_bipush (t := 29) F dX8_people_27 (by decide) rfl ?_
          refine q_iret F dX8_people_29 rfl ?_
          have hx : peopleV im sheet sort n = -2 := by
            unfold peopleV
            try simp only [Int.toNat_natCast]
            (repeat' split) <;> omega
          refine ⟨_, rfl, ?_, _, bt, rt, hbt, hrt, hR, ?_, rfl⟩
          · unfold peopleA
            rw [hx, if_neg (by omega)]
          · unfold peopleM
            rw [hx, if_neg (by omega)]
            exact agP_rfl _

/-! film -/
def flmM (im : IM) (j man : Nat) : Nat → IM
  | 0 => zr (up (up im 7 j 1 0) 7 j 2 10) 8 j 40
  | g + 1 => up (flmM im j man g) 8 j g (goesW im 0 man g 60)
def filmA (im : IM) (sheet man : Int) : Int := if (0 ≤ sheet ∧ sheet < 4) ∧ 0 ≤ man ∧ man < im 18 0 3 then 10 else -2
def filmM (im : IM) (sheet man : Int) : IM := if (0 ≤ sheet ∧ sheet < 4) ∧ 0 ≤ man ∧ man < im 18 0 3 then flmM im sheet.toNat man.toNat 10 else im
theorem flm_ag (im : IM) (j man g : Nat) : ag [7, 8] (flmM im j man g) im := by
  induction g with
  | zero =>
    intro k hk i s
    have h7 : k ≠ 7 := fun q => hk (by rw [q]; decide)
    have h8 : k ≠ 8 := fun q => hk (by rw [q]; decide)
    show zr (up (up im 7 j 1 0) 7 j 2 10) 8 j 40 k i s = _
    rw [zr_app, if_neg (by omega), up_app, if_neg (by omega), up_app, if_neg (by omega)]
  | succ g ih => exact ag_up ih (by decide)
theorem flm_7 (im : IM) (j man g : Nat) (i s : Nat) : flmM im j man g 7 i s = if i = j ∧ s = 1 then 0 else if i = j ∧ s = 2 then 10 else im 7 i s := by
  induction g with
  | zero =>
    show zr (up (up im 7 j 1 0) 7 j 2 10) 8 j 40 7 i s = _
    rw [zr_app, if_neg (by omega), up_app, up_app]
    by_cases h2 : i = j ∧ s = 2
    · rw [if_pos ⟨rfl, h2⟩, if_neg (by omega), if_pos h2]
    · rw [if_neg (fun q => h2 q.2)]
      by_cases h1 : i = j ∧ s = 1
      · rw [if_pos ⟨rfl, h1⟩, if_pos h1]
      · rw [if_neg (fun q => h1 q.2), if_neg h1, if_neg h2]
  | succ g ih =>
    show up (flmM im j man g) 8 j g (goesW im 0 man g 60) 7 i s = _
    rw [up_app, if_neg (by omega), ih]
theorem goesW_ri (im : IM) (w man gap n : Nat) (hn : n < 1000) : ri (goesW im w man gap n) := by
  have := goesW_in im w man gap n
  constructor <;> omega
theorem RI_flm {im : IM} (hR : RI im) (j man g : Nat) : RI (flmM im j man g) := by
  induction g with
  | zero => exact RI_zr (RI_up (RI_up hR (by constructor <;> omega)) (by constructor <;> omega))
  | succ g ih => exact RI_up ih (goesW_ri _ _ _ _ _ (by omega))
theorem SC_film {im : IM} {sheet man : Int} (hS : SC im) : SC (filmM im sheet man) := by
  unfold filmM
  split
  · refine SC_sh hS (RI_flm hS.1 _ _ _) (fun k i s hk => flm_ag _ _ _ _ k ?_ _ _) (fun j hj => ?_)
    · intro h
      simp only [List.mem_cons, List.not_mem_nil, or_false] at h
      exact hk h
    · have := hS.2.2.2.2.2.2.2.2.1 j hj
      rw [flm_7, flm_7]
      (repeat' split) <;> omega
  · exact hS
theorem cut0 {x : Int} (h : x = -1 ∨ 0 ≤ x ∧ x < 60) : cutN 0 x = x := by
  unfold cutN
  rw [if_pos rfl, Int.bmod_eq_emod]
  split <;> omega

set_option maxHeartbeats 4000000 in
theorem c_X8_film (l : Launch) (G : GS) (im : IM) (bt rt : Nat) (lm : IM) (hbt : bt < 6) (hrt : rt < 6) (hS : SC im) (sheet : Int) (man : Int) (hsheet : ri sheet) (hman : ri man) : Cn l (XC G) yX8_film Y_X8_film [vR 0 0, vI sheet, vI man] (im, rs bt rt, lm) (pI fun x m' => x = filmA im sheet man ∧ stC lm (filmM im sheet man) m') := by
  refine cn_of (by decide) (okC G) rfl (Nat.le_of_ble_eq_true rfl) ?_
  intro M ad hMl F
  subst hMl
  obtain ⟨hR, hW, hh, htc, hru, hgt, hz, hrd, hsh, him, htp⟩ := hS
  have w1 := hW.1
  have w2 := hW.2.1
  have w3 := hW.2.2.1
  have w4 := hW.2.2.2.1
  have w5 := hW.2.2.2.2.1
  have hsheet1 := hsheet.1
  have hsheet2 := hsheet.2
  have hman1 := hman.1
  have hman2 := hman.2
  refine wp_pad 1 ?_
  show Wp M (XC G) ad Y_X8_film (pI fun x m' => x = filmA im sheet man ∧ stC lm (filmM im sheet man) m') 0 [some (vR 0 0), some (vI sheet), some (vI man), none] [] (im, rs bt rt, lm)
  refine q_iload_n (t := 1) F dX8_film_0 rfl rfl rfl ?_
  refine q_iconst (t := 2) F dX8_film_1 rfl ?_
  refine wp_callS (t := 5) [_, _] F dX8_film_2 k_X8_within st_X8_within ml_X8_95 rfl rfl (Nat.le_of_ble_eq_true rfl) (by decide) (c_X8_within _ G _ bt rt lm sheet 4 hsheet (by constructor <;> omega)) rfl (kI ?_)
  rintro x2 m' ⟨hx2, rfl⟩
  have hx2 := if01 hx2
  refine q_if_eq (t := 8) (u := 16) F dX8_film_5 (by first | exact hR _ _ _ | (constructor <;> omega)) (by decide) rfl (fun c5 => ?_) (fun c5 => ?_)
  · refine q_bipush (t := 18) F dX8_film_16 (by decide) rfl ?_
    refine q_iret F dX8_film_18 rfl ?_
    refine ⟨_, rfl, ?_, _, bt, rt, hbt, hrt, (by repeat' first | exact hR | refine RI_up ?_ ?_ | assumption | exact hR _ _ _ | (constructor <;> omega)), ?_, rfl⟩
    · unfold filmA
      (repeat' split) <;> omega
    · unfold filmM
      (repeat' split) <;> first | exact agP_rfl _ | (exfalso; omega)
  · refine q_aload_n (t := 9) F dX8_film_8 rfl rfl rfl ?_
    refine q_iload_n (t := 10) F dX8_film_9 rfl rfl rfl ?_
    refine wp_callV (t := 13) [_] F dX8_film_10 k_X8_isOne v_X8_isOne ml_X8_91 rfl rfl rfl rfl (Nat.le_of_ble_eq_true rfl) (by decide) (m_0 (by omega)) (c_X8_isOne _ G _ bt rt lm man hman hR) rfl (kI ?_)
    rintro x10 m' ⟨hx10, rfl⟩
    have hx10 := if01 hx10
    refine q_if_ne (t := 16) (u := 19) F dX8_film_13 (by first | exact hR _ _ _ | (constructor <;> omega)) (by decide) rfl (fun c13 => ?_) (fun c13 => ?_)
    · refine q_aload_n (t := 20) F dX8_film_19 rfl rfl rfl ?_
      refine g_X8_17 (t := 23) F dX8_film_20 rfl rfl ?_
      obtain ⟨sheet, rfl⟩ : ∃ k : Nat, sheet = (k : Int) := ⟨sheet.toNat, by omega⟩
      have hj : sheet < 4 := by omega
      have hs4 := hsh sheet hj
      obtain ⟨man, rfl⟩ : ∃ k : Nat, man = (k : Int) := ⟨man.toNat, by omega⟩
      obtain ⟨r0, r1, hT, k0, k1, n0, n1, hga, hh0, hh1, hm5⟩ := cell_of hW (man := man) (by omega)
      refine q_iload_n (t := 24) F dX8_film_23 rfl rfl rfl ?_
      first | refine laN_6 (t := 25) F dX8_film_24 (by omega) rfl ?_ | refine la_6 (t := 25) F dX8_film_24 (by omega) (by omega) rfl ?_
      refine q_iconst (t := 26) F dX8_film_25 rfl ?_
      refine q_bipush (t := 28) F dX8_film_26 (by decide) rfl ?_
      refine wp_callV (t := 31) [_, _] F dX8_film_28 k_X5_become v_X5_become ml_X8_263 rfl rfl rfl rfl (Nat.le_of_ble_eq_true rfl) (by decide) (m_7 (by omega)) (c_X5_become _ G im bt rt lm sheet hj 0 10) rfl (kV ?_)
      rintro m' rfl
      refine q_iconst (t := 32) F dX8_film_31 rfl ?_
      refine q_istore_n (t := 33) F dX8_film_32 rfl (by decide) rfl rfl ?_
      have L33 : ∀ (fz : Nat) (g : Nat) (im2 : IM) (bt2 : Nat), 10 - g < fz → g ≤ 10 → bt2 < 6 → RI im2 → ag [5, 16, 17] im2 (flmM im sheet man g) → Wp M (XC G) ad Y_X8_film (pI fun x m' => x = filmA im sheet man ∧ stC lm (filmM im sheet man) m') 33 [some (vR 0 0), some (vI (sheet : Int)), some (vI (man : Int)), some (vI (g : Int))] [] (im2, rs bt2 rt, lm) := by
        intro fz
        induction fz with
        | zero => intro g im2 bt2 h; exact absurd h (Nat.not_lt_zero _)
        | succ fz ih =>
          have ih33 := ih
          intro g im2 bt2 hmeas hg hbt2 hR2 hag2
          have hag9 : ag [5, 7, 8, 16, 17] im2 im := (hag2.mono (by decide)).trans ((flm_ag im sheet man g).mono (by decide))
          have e18 : ∀ s, im2 18 0 s = im 18 0 s := fun s => hag9 18 (by decide) 0 s
          have e21 : ∀ s, im2 21 (5 * 0 + man) s = im 21 (5 * 0 + man) s := fun s => hag9 21 (by decide) _ s
          have e22 : ∀ s, im2 22 (5 * 0 + man) s = im 22 (5 * 0 + man) s := fun s => hag9 22 (by decide) _ s
          have e23 : ∀ s, im2 23 (5 * 0 + man) s = im 23 (5 * 0 + man) s := fun s => hag9 23 (by decide) _ s
          have hT2 : goodT im2 (im2 18 0 7).toNat := by
            rw [e18]
            exact goodT_congr (fun s => hag9 3 (by decide) _ s) (fun s => hag9 4 (by decide) _ s) hT
          have hgo : goesW im2 0 man g 60 = goesW im 0 man g 60 := goesW_ag hag9 (by decide) (by decide) (by decide) (by decide) (by decide) (by decide) 0 man g 60
          refine q_iload_n (t := 34) F dX8_film_33 rfl rfl rfl ?_
          refine q_bipush (t := 36) F dX8_film_34 (by decide) rfl ?_
          refine q_icmp_ge (t := 39) (u := 77) F dX8_film_36 (by first | exact hR _ _ _ | (constructor <;> omega)) (by first | exact hR _ _ _ | (constructor <;> omega)) (by decide) rfl (fun c36 => ?_) (fun c36 => ?_)
          · refine q_bipush (t := 79) F dX8_film_77 (by decide) rfl ?_
            refine q_iret F dX8_film_79 rfl ?_
            obtain rfl : g = 10 := by omega
            refine ⟨_, rfl, ?_, im2, bt2, rt, hbt2, hrt, hR2, ?_, rfl⟩
            · unfold filmA
              rw [if_pos (by omega)]
            · unfold filmM
              rw [if_pos (by omega)]
              simp only [Int.toNat_natCast]
              exact agP_of (hag2.mono (by decide))
          · refine q_aload_n (t := 40) F dX8_film_39 rfl rfl rfl ?_
            refine g_X8_42 (t := 43) F dX8_film_40 rfl rfl ?_
            refine q_aload_n (t := 44) F dX8_film_43 rfl rfl rfl ?_
            refine g_X8_51 (t := 47) F dX8_film_44 rfl rfl ?_
            refine q_iload_n (t := 48) F dX8_film_47 rfl rfl rfl ?_
            refine q_iload_n (t := 49) F dX8_film_48 rfl rfl rfl ?_
            refine wp_callV (t := 52) [_, _, _] F dX8_film_49 k_X0_look v_X0_look ml_X8_139 rfl rfl rfl rfl (Nat.le_of_ble_eq_true rfl) (by decide) (m_16 (by omega)) (c_X0_look _ G im2 bt2 rt lm 0 man g (by omega) hm5 (by omega) (by rw [e18]; exact r0) (by rw [e18]; exact r1)) rfl (kV ?_)
            rintro m' rfl
            have hRl := RI_look (w := 0) (p := man) (g := g) hR2 (by omega)
            have hb4 : (im2 18 0 7).toNat < 6 := by rw [e18]; omega
            refine q_aload_n (t := 53) F dX8_film_52 rfl rfl rfl ?_
            refine g_X8_17 (t := 56) F dX8_film_53 rfl rfl ?_
            refine q_iload_n (t := 57) F dX8_film_56 rfl rfl rfl ?_
            first | refine laN_6 (t := 58) F dX8_film_57 (by omega) rfl ?_ | refine la_6 (t := 58) F dX8_film_57 (by omega) (by omega) rfl ?_
            refine q_iload_n (t := 59) F dX8_film_58 rfl rfl rfl ?_
            refine q_aload_n (t := 60) F dX8_film_59 rfl rfl rfl ?_
            refine g_X8_42 (t := 63) F dX8_film_60 rfl rfl ?_
            refine q_bipush (t := 65) F dX8_film_63 (by decide) rfl ?_
            refine wp_callV (t := 68) [_] F dX8_film_65 k_X0_goesOffIn v_X0_goesOffIn ml_X8_181 rfl rfl rfl rfl (Nat.le_of_ble_eq_true rfl) (by decide) (m_16 (by omega)) (c_X0_goesOffIn _ G (lookM im2 0 man g) (im2 18 0 7).toNat rt lm 60 (by omega) hb4 hRl (goodT_congr (fun s => rfl) (fun s => rfl) hT2) (by show 0 ≤ im2 21 (5 * 0 + man) 0; rw [e21]; exact k0) (by show im2 21 (5 * 0 + man) 0 < 6; rw [e21]; exact k1) (by show 0 ≤ im2 21 (5 * 0 + man) 1; rw [e21]; exact n0) (by show im2 21 (5 * 0 + man) 1 < 10; rw [e21]; exact n1) (by show im2 22 (5 * 0 + man) g ≠ -1 → 0 ≤ im2 23 (5 * 0 + man) g ∧ im2 23 (5 * 0 + man) g ≤ 3000; rw [e22, e23]; exact hga g (by omega)) (by show 0 ≤ im2 18 0 4; rw [e18]; exact hh0) (by show im2 18 0 4 ≤ 3000; rw [e18]; exact hh1)) rfl (kI ?_)
            rintro x65 m' ⟨hx, hgb⟩
            obtain ⟨im3, hR3, hag3, rfl⟩ := garb_ag hgb hRl
            rw [look_goes, hgo] at hx
            have hgi := goesW_in im 0 man g 60
            have hag4 : ag [5, 16, 17] im3 (flmM im sheet man g) := (hag3.mono (by decide)).trans (((look_ag im2 0 man g).mono (by decide)).trans hag2)
            refine wp_callV (t := 71) [_, _] F dX8_film_68 k_X5_put v_X5_put ml_X8_266 rfl rfl rfl rfl (Nat.le_of_ble_eq_true rfl) (by decide) (m_7 (by omega)) (c_X5_put _ G im3 _ rt lm sheet hj g (by omega) x65 hR3) rfl (kV ?_)
            rintro m' rfl
            rw [show im3 7 sheet 1 = 0 by rw [hag4 7 (by decide), flm_7, if_pos ⟨rfl, rfl⟩], cut0 (by omega), hx]
            refine q_iinc (t := 74) F dX8_film_71 rfl (by decide) rfl rfl ?_
            refine q_goto (t := 33) F dX8_film_74 (by decide) ?_
            exact ih33 (g + 1) _ _ (by omega) (by omega) hb4 (RI_up hR3 (by constructor <;> omega)) (ag_upup hag4)
      exact L33 _ 0 _ bt (Nat.lt_succ_self _) (by omega) hbt (RI_flm hR sheet man 0) (ag_rfl _ _)
    · refine q_bipush (t := 18) F dX8_film_16 (by decide) rfl ?_
      refine q_iret F dX8_film_18 rfl ?_
      refine ⟨_, rfl, ?_, _, bt, rt, hbt, hrt, (by repeat' first | exact hR | refine RI_up ?_ ?_ | assumption | exact hR _ _ _ | (constructor <;> omega)), ?_, rfl⟩
      · unfold filmA
        (repeat' split) <;> omega
      · unfold filmM
        (repeat' split) <;> first | exact agP_rfl _ | (exfalso; omega)
end
section
/-! drawn, chance -/
def dwZ (seed : Int) : Nat → Int
  | 0 => seed
  | i + 1 => bm (dwZ seed i * 1103515245 + 12345)
def dwF (seed : Int) (i : Nat) : Int := dwZ seed (i + 1) % 4294967296 / 512 % 10
def dwI (im : IM) (man : Nat) (seed : Int) : Nat → IM
  | 0 => becM im 1 0
  | i + 1 => uttM (dwI im man seed i) 1 man i (dwF seed i)
def dwN (im : IM) (man : Nat) (seed : Int) : Nat → Int
  | 0 => 0
  | i + 1 => if uttW (dwI im man seed i) 1 man i (dwF seed i) = -1 then dwN im man seed i else dwN im man seed i + 1
theorem dwI_s (im : IM) (man : Nat) (seed : Int) (i : Nat) : dwI im man seed (i + 1) = uttM (dwI im man seed i) 1 man i (dwF seed i) := rfl
theorem dwN_s (im : IM) (man : Nat) (seed : Int) (i : Nat) : dwN im man seed (i + 1) = if uttW (dwI im man seed i) 1 man i (dwF seed i) = -1 then dwN im man seed i else dwN im man seed i + 1 := rfl
theorem dwN_in (im : IM) (man : Nat) (seed : Int) (i : Nat) : 0 ≤ dwN im man seed i ∧ dwN im man seed i ≤ i := by
  induction i with
  | zero => exact ⟨Int.le_refl 0, Int.le_refl 0⟩
  | succ i ih =>
    rw [dwN_s]
    split <;> omega
theorem dwF_in (seed : Int) (i : Nat) : 0 ≤ dwF seed i ∧ dwF seed i < 10 := by
  unfold dwF
  omega
/-- one world, as far as it counts -/
def eqW (a b : IM) (w : Nat) : Prop := (∀ s, 3 ≤ s → s ≤ 7 → a 18 w s = b 18 w s) ∧ (∀ p k s : Nat, (p : Int) < b 18 w 3 → (k = 21 ∧ s < 2 ∨ (k = 22 ∨ k = 23) ∧ s < 10) → a k (5 * w + p) s = b k (5 * w + p) s) ∧ ∀ k j s, (k = 3 ∨ k = 4) → a k j s = b k j s
theorem cntW_c {f g : Nat → Int} (n : Nat) (h : ∀ s, s < n → f s = g s) : cntW f n = cntW g n := by
  induction n with
  | zero => rfl
  | succ n ih =>
    show cntW f n + (if f n = -1 then 0 else 1) = cntW g n + (if g n = -1 then 0 else 1)
    rw [ih (fun s hs => h s (by omega)), h n (by omega)]
theorem takesW_eq {a b : IM} {w man : Nat} (h : eqW a b w) (hm : (man : Int) < b 18 w 3) (word food : Int) : takesW a w man word food = takesW b w man word food := by
  have e22 : cntW (a 22 (5 * w + man)) 10 = cntW (b 22 (5 * w + man)) 10 := cntW_c 10 (fun s hs => h.2.1 man 22 s hm (by omega))
  unfold takesW nmW
  rw [h.1 7 (by omega) (by omega), h.1 4 (by omega) (by omega), h.2.1 man 21 0 hm (by omega), h.2.1 man 21 1 hm (by omega), e22, tellV_congr (fun s => h.2.2 3 _ s (by omega)) (fun s => h.2.2 4 _ s (by omega))]
theorem uttW_eq {a b : IM} {w man : Nat} (h : eqW a b w) (hm : (man : Int) < b 18 w 3) (word food : Int) : uttW a w man word food = uttW b w man word food := by
  have ht := takesW_in b w man word food
  unfold uttW
  rw [takesW_eq h hm, h.2.1 man 22 _ hm (by omega)]
theorem uttM_eq {a b : IM} {w man : Nat} (h : eqW a b w) (hm : (man : Int) < b 18 w 3) (word food : Int) : eqW (uttM a w man word food) (uttM b w man word food) w := by
  refine ⟨fun s h3 h7 => ?_, fun p k s hp hk => ?_, fun k j s hk => ?_⟩
  · rw [utt_o _ _ _ _ _ (by omega), utt_o _ _ _ _ _ (by omega)]; exact h.1 s h3 h7
  · rw [utt_o _ _ _ _ _ (by omega)] at hp
    have e := h.2.1 p k s hp hk
    unfold uttM
    rw [uttW_eq h hm]
    split
    · exact e
    · simp only [up_app]
      (repeat' split) <;> first | rfl | exact e
  · rw [utt_o _ _ _ _ _ (by omega), utt_o _ _ _ _ _ (by omega)]; exact h.2.2 k j s hk
theorem bec_eq {a b : IM} (h : agP a b) (hW : WI b 0) : eqW (becM a 1 0) (becM b 1 0) 1 := by
  have w1 := hW.1
  have e18 : ∀ s, a 18 0 s = b 18 0 s := fun s => h.1 18 0 s (by unfold per; omega)
  unfold becM
  rw [e18]
  refine ⟨fun s h3 h7 => ?_, fun p k s hp hk => ?_, fun k j s hk => ?_⟩
  · rw [bec_18 ⟨h3, h7⟩, bec_18 ⟨h3, h7⟩, e18]
  · rw [bec_18 (by omega)] at hp
    rw [bec_c (by omega) (by omega), bec_c (by omega) (by omega)]
    exact h.1 k _ s (by unfold per; omega)
  · rw [bec_k (by omega), bec_k (by omega)]
    exact h.1 k j s (by unfold per; omega)
theorem dw_eq {a b : IM} (h : agP a b) (hW : WI b 0) {man : Nat} (hm : (man : Int) < b 18 0 3) (seed : Int) (i : Nat) : eqW (dwI a man seed i) (dwI b man seed i) 1 ∧ dwI b man seed i 18 1 3 = b 18 0 3 ∧ dwN a man seed i = dwN b man seed i := by
  induction i with
  | zero => exact ⟨bec_eq h hW, by show becM b 1 0 18 1 3 = _; unfold becM; rw [bec_18 (by omega)], rfl⟩
  | succ i ih =>
    obtain ⟨h1, h2, h3⟩ := ih
    have hm2 : (man : Int) < dwI b man seed i 18 1 3 := by omega
    refine ⟨?_, ?_, ?_⟩
    · rw [dwI_s, dwI_s]; exact uttM_eq h1 hm2 _ _
    · rw [dwI_s, utt_o _ _ _ _ _ (by omega)]; exact h2
    · rw [dwN_s, dwN_s, uttW_eq h1 hm2, h3]
def drawnA (im : IM) (man seed n : Int) : Int := if (0 ≤ man ∧ man < im 18 0 3) ∧ 0 ≤ n ∧ n ≤ 16 then dwN im man.toNat seed n.toNat else -2

theorem uttW_in (im : IM) (w man : Nat) (word food : Int) : -1 ≤ uttW im w man word food ∧ uttW im w man word food ≤ 9 := by
  have := takesW_in im w man word food
  unfold uttW
  split <;> omega

set_option maxHeartbeats 4000000 in
theorem c_X8_stuckByDraw (l : Launch) (G : GS) (im : IM) (bt rt : Nat) (lm : IM) (hbt : bt < 6) (hrt : rt < 6) (hS : SC im) (man n : Nat) (hm : (man : Int) < im 18 0 3) (hn : n ≤ 16) (seed : Int) (hseed : ri seed) : Cn l (XC G) yX8_stuckByDraw Y_X8_stuckByDraw [vR 0 0, vI (man : Int), vI seed, vI (n : Int)] (im, rs bt rt, lm) (pI fun x m' => x = dwN im man seed n ∧ stC lm im m') := by
  refine cn_of (by decide) (okC G) rfl (Nat.le_of_ble_eq_true rfl) ?_
  intro M ad hMl F
  subst hMl
  obtain ⟨hR, hW, hh, htc, hru, hgt, hz, hrd, hsh, him, htp⟩ := hS
  have w1 := hW.1
  have w2 := hW.2.1
  have w3 := hW.2.2.1
  have w4 := hW.2.2.2.1
  have w5 := hW.2.2.2.2.1
  have hWb : WI (becM im 1 0) 1 := bec_WI hW
  have hPb : agP (becM im 1 0) im := by
    refine ⟨fun k i t hp => ?_, bec_k (by omega) _ _⟩
    unfold becM
    rw [becP_app, if_neg (by unfold per at hp; omega), if_neg (by unfold per at hp; omega)]
  refine wp_pad 3 ?_
  show Wp M (XC G) ad Y_X8_stuckByDraw (pI fun x m' => x = dwN im man seed n ∧ stC lm im m') 0 [some (vR 0 0), some (vI (man : Int)), some (vI seed), some (vI (n : Int)), none, none, none] [] (im, rs bt rt, lm)
  refine q_aload_n (t := 1) F dX8_stuckByDraw_0 rfl rfl rfl ?_
  refine g_X8_55 (t := 4) F dX8_stuckByDraw_1 rfl rfl ?_
  refine q_aload_n (t := 5) F dX8_stuckByDraw_4 rfl rfl rfl ?_
  refine g_X8_51 (t := 8) F dX8_stuckByDraw_5 rfl rfl ?_
  refine wp_callV (t := 11) [_] F dX8_stuckByDraw_8 k_X7_become v_X7_become ml_X8_226 rfl rfl rfl rfl (Nat.le_of_ble_eq_true rfl) (by decide) (m_18 (by omega)) (c_X7_become _ G im bt rt lm 1 0 (by omega) (by omega) (by omega) hR w1.1 w1.2) rfl (kV ?_)
  rintro m' rfl
  refine q_iconst (t := 12) F dX8_stuckByDraw_11 rfl ?_
  refine q_istore (t := 14) F dX8_stuckByDraw_12 (by decide) rfl rfl ?_
  refine q_iload_n (t := 15) F dX8_stuckByDraw_14 rfl rfl rfl ?_
  refine q_istore (t := 17) F dX8_stuckByDraw_15 (by decide) rfl rfl ?_
  refine q_iconst (t := 18) F dX8_stuckByDraw_17 rfl ?_
  refine q_istore (t := 20) F dX8_stuckByDraw_18 (by decide) rfl rfl ?_
  have L20 : ∀ (fz : Nat) (i : Nat) (im2 : IM), n - i < fz → i ≤ n → RI im2 → WI im2 1 → im2 18 1 3 = im 18 0 3 → ag lS im2 (dwI im man seed i) → agP im2 im → Wp M (XC G) ad Y_X8_stuckByDraw (pI fun x m' => x = dwN im man seed n ∧ stC lm im m') 20 [some (vR 0 0), some (vI (man : Int)), some (vI seed), some (vI (n : Int)), some (vI (dwN im man seed i)), some (vI (dwZ seed i)), some (vI (i : Int))] [] (im2, rs bt rt, lm) := by
    intro fz
    induction fz with
    | zero => intro i im2 h; exact absurd h (Nat.not_lt_zero _)
    | succ fz ih =>
      have ih20 := ih
      intro i im2 hmeas hi hR2 hW2 hz2 hag2 hP2
      refine q_iload (t := 22) F dX8_stuckByDraw_20 rfl rfl ?_
      refine q_iload_n (t := 23) F dX8_stuckByDraw_22 rfl rfl rfl ?_
      refine q_icmp_ge (t := 26) (u := 69) F dX8_stuckByDraw_23 (by first | exact hR _ _ _ | (constructor <;> omega)) (by first | exact hR _ _ _ | (constructor <;> omega)) (by decide) rfl (fun c23 => ?_) (fun c23 => ?_)
      · refine q_iload (t := 71) F dX8_stuckByDraw_69 rfl rfl ?_
        refine q_iret F dX8_stuckByDraw_71 rfl ?_
        obtain rfl : i = n := by omega
        exact ⟨_, rfl, rfl, im2, bt, rt, hbt, hrt, hR2, hP2, rfl⟩
      · refine q_iload (t := 28) F dX8_stuckByDraw_26 rfl rfl ?_
        refine q_ldcw (t := 31) (x := 1103515245) F dX8_stuckByDraw_28 ki_X8_271 (by decide) rfl ?_
        refine q_imul (t := 32) F dX8_stuckByDraw_31 rfl ?_
        refine q_sipush (t := 35) F dX8_stuckByDraw_32 (by decide) rfl ?_
        refine q_iadd (t := 36) F dX8_stuckByDraw_35 rfl ?_
        refine q_norm ?_
        refine q_istore (t := 38) F dX8_stuckByDraw_36 (by decide) rfl rfl ?_
        refine q_aload_n (t := 39) F dX8_stuckByDraw_38 rfl rfl rfl ?_
        refine g_X8_55 (t := 42) F dX8_stuckByDraw_39 rfl rfl ?_
        refine q_iload_n (t := 43) F dX8_stuckByDraw_42 rfl rfl rfl ?_
        refine q_iload (t := 45) F dX8_stuckByDraw_43 rfl rfl ?_
        refine q_iload (t := 47) F dX8_stuckByDraw_45 rfl rfl ?_
        refine q_bipush (t := 49) F dX8_stuckByDraw_47 (by decide) rfl ?_
        refine q_iushr (t := 50) F dX8_stuckByDraw_49 (by omega) (by omega) rfl ?_
        rw [show (2 : Int) ^ (9 : Int).toNat = 512 from rfl]
        refine q_bipush (t := 52) F dX8_stuckByDraw_50 (by decide) rfl ?_
        refine q_irem (t := 53) F dX8_stuckByDraw_52 (by constructor <;> omega) (by constructor <;> omega) (by omega) (by omega) rfl ?_
        rw [show bm (dwZ seed i * 1103515245 + 12345) % 4294967296 / 512 % 10 = dwF seed i from rfl]
        refine wp_callV (t := 56) [_, _, _] F dX8_stuckByDraw_53 k_X7_utter v_X7_utter ml_X8_150 rfl rfl rfl rfl (Nat.le_of_ble_eq_true rfl) (by decide) (m_18 (by omega)) (c_X7_utter _ G im2 bt rt lm 1 (by omega) hR2 hW2 man (by omega) (i : Int) (dwF seed i) (by omega) (by have := dwF_in seed i; constructor <;> omega)) rfl (kI ?_)
        rintro x53 m' ⟨hx53, im3, hR3, hag3, rfl⟩
        rw [uttW_ag hag2] at hx53
        have hui := uttW_in im2 1 man (i : Int) (dwF seed i)
        rw [uttW_ag hag2] at hui
        refine q_iconst (t := 57) F dX8_stuckByDraw_56 rfl ?_
        refine q_icmp_eq (t := 60) (u := 63) F dX8_stuckByDraw_57 (by constructor <;> omega) (by constructor <;> omega) (by decide) rfl (fun c57 => ?_) (fun c57 => ?_)
        · refine q_iinc (t := 66) F dX8_stuckByDraw_63 rfl (by decide) rfl rfl ?_
          refine q_goto (t := 20) F dX8_stuckByDraw_66 (by decide) ?_
          have hP3 : agP im3 im := (agP_of (hag3.mono (by decide))).trans (⟨fun k j t hp => (utt_o _ _ _ _ _ (by unfold per at hp; omega)), utt_o _ _ _ _ _ (by omega)⟩ : agP (uttM im2 1 man (i : Int) (dwF seed i)) im2) |>.trans hP2
          have hW3 : WI im3 1 := WI_ag hag3 (by decide) (by decide) (by decide) (by decide) (by decide) (by decide) (utt_WI hW2 (by omega))
          have hz3 : im3 18 1 3 = im 18 0 3 := by rw [hag3 18 (by decide), utt_o _ _ _ _ _ (by omega), hz2]
          have hag4 : ag lS im3 (dwI im man seed (i + 1)) := (hag3.mono (by decide)).trans (uttM_ag hag2 _ _ _ _)
          first
            | (rw [show dwN im man seed i = dwN im man seed (i + 1) from by rw [dwN_s, if_pos (by omega)]]
               exact ih20 (i + 1) im3 (by omega) (by omega) hR3 hW3 hz3 hag4 hP3)
            | (rw [show dwN im man seed i + 1 = dwN im man seed (i + 1) from by rw [dwN_s, if_neg (by omega)]]
               exact ih20 (i + 1) im3 (by omega) (by omega) hR3 hW3 hz3 hag4 hP3)
        · refine q_iinc (t := 63) F dX8_stuckByDraw_60 rfl (by decide) rfl rfl ?_
          refine q_iinc (t := 66) F dX8_stuckByDraw_63 rfl (by decide) rfl rfl ?_
          refine q_goto (t := 20) F dX8_stuckByDraw_66 (by decide) ?_
          have hP3 : agP im3 im := (agP_of (hag3.mono (by decide))).trans (⟨fun k j t hp => (utt_o _ _ _ _ _ (by unfold per at hp; omega)), utt_o _ _ _ _ _ (by omega)⟩ : agP (uttM im2 1 man (i : Int) (dwF seed i)) im2) |>.trans hP2
          have hW3 : WI im3 1 := WI_ag hag3 (by decide) (by decide) (by decide) (by decide) (by decide) (by decide) (utt_WI hW2 (by omega))
          have hz3 : im3 18 1 3 = im 18 0 3 := by rw [hag3 18 (by decide), utt_o _ _ _ _ _ (by omega), hz2]
          have hag4 : ag lS im3 (dwI im man seed (i + 1)) := (hag3.mono (by decide)).trans (uttM_ag hag2 _ _ _ _)
          first
            | (rw [show dwN im man seed i = dwN im man seed (i + 1) from by rw [dwN_s, if_pos (by omega)]]
               exact ih20 (i + 1) im3 (by omega) (by omega) hR3 hW3 hz3 hag4 hP3)
            | (rw [show dwN im man seed i + 1 = dwN im man seed (i + 1) from by rw [dwN_s, if_neg (by omega)]]
               exact ih20 (i + 1) im3 (by omega) (by omega) hR3 hW3 hz3 hag4 hP3)
  exact L20 _ 0 _ (Nat.lt_succ_self _) (by omega) (RI_bec hR) hWb (bec_18 (by omega)) (ag_rfl _ _) hPb

set_option maxHeartbeats 4000000 in
theorem c_X8_drawn (l : Launch) (G : GS) (im : IM) (bt rt : Nat) (lm : IM) (hbt : bt < 6) (hrt : rt < 6) (hS : SC im) (man : Int) (seed : Int) (n : Int) (hman : ri man) (hseed : ri seed) (hn : ri n) : Cn l (XC G) yX8_drawn Y_X8_drawn [vR 0 0, vI man, vI seed, vI n] (im, rs bt rt, lm) (pI fun x m' => x = drawnA im man seed n ∧ stC lm im m') := by
  refine cn_of (by decide) (okC G) rfl (Nat.le_of_ble_eq_true rfl) ?_
  intro M ad hMl F
  subst hMl
  obtain ⟨hR, hW, hh, htc, hru, hgt, hz, hrd, hsh, him, htp⟩ := hS
  have w1 := hW.1
  have w2 := hW.2.1
  have w3 := hW.2.2.1
  have w4 := hW.2.2.2.1
  have w5 := hW.2.2.2.2.1
  have hman1 := hman.1
  have hman2 := hman.2
  have hseed1 := hseed.1
  have hseed2 := hseed.2
  have hn1 := hn.1
  have hn2 := hn.2
  refine wp_pad 0 ?_
  show Wp M (XC G) ad Y_X8_drawn (pI fun x m' => x = drawnA im man seed n ∧ stC lm im m') 0 [some (vR 0 0), some (vI man), some (vI seed), some (vI n)] [] (im, rs bt rt, lm)
  refine q_aload_n (t := 1) F dX8_drawn_0 rfl rfl rfl ?_
  refine q_iload_n (t := 2) F dX8_drawn_1 rfl rfl rfl ?_
  refine wp_callV (t := 5) [_] F dX8_drawn_2 k_X8_isOne v_X8_isOne ml_X8_91 rfl rfl rfl rfl (Nat.le_of_ble_eq_true rfl) (by decide) (m_0 (by omega)) (c_X8_isOne _ G _ bt rt lm man hman hR) rfl (kI ?_)
  rintro x2 m' ⟨hx2, rfl⟩
  have hx2 := if01 hx2
  refine q_if_eq (t := 8) (u := 18) F dX8_drawn_5 (by first | exact hR _ _ _ | (constructor <;> omega)) (by decide) rfl (fun c5 => ?_) (fun c5 => ?_)
  · refine q_bipush (t := 20) F dX8_drawn_18 (by decide) rfl ?_
    refine q_iret F dX8_drawn_20 rfl ?_
    refine ⟨_, rfl, ?_, _, bt, rt, hbt, hrt, (by repeat' first | exact hR | refine RI_up ?_ ?_ | assumption | exact hR _ _ _ | (constructor <;> omega)), ?_, rfl⟩
    · unfold drawnA
      (repeat' split) <;> omega
    · exact agP_rfl _
  · refine q_iload_n (t := 9) F dX8_drawn_8 rfl rfl rfl ?_
    refine q_if_lt (t := 12) (u := 18) F dX8_drawn_9 (by first | exact hR _ _ _ | (constructor <;> omega)) (by decide) rfl (fun c9 => ?_) (fun c9 => ?_)
    · refine q_bipush (t := 20) F dX8_drawn_18 (by decide) rfl ?_
      refine q_iret F dX8_drawn_20 rfl ?_
      refine ⟨_, rfl, ?_, _, bt, rt, hbt, hrt, (by repeat' first | exact hR | refine RI_up ?_ ?_ | assumption | exact hR _ _ _ | (constructor <;> omega)), ?_, rfl⟩
      · unfold drawnA
        (repeat' split) <;> omega
      · exact agP_rfl _
    · refine q_iload_n (t := 13) F dX8_drawn_12 rfl rfl rfl ?_
      refine q_bipush (t := 15) F dX8_drawn_13 (by decide) rfl ?_
      refine q_icmp_le (t := 18) (u := 21) F dX8_drawn_15 (by first | exact hR _ _ _ | (constructor <;> omega)) (by first | exact hR _ _ _ | (constructor <;> omega)) (by decide) rfl (fun c15 => ?_) (fun c15 => ?_)
      · obtain ⟨man, rfl⟩ : ∃ k : Nat, man = (k : Int) := ⟨man.toNat, by omega⟩
        obtain ⟨n, rfl⟩ : ∃ k : Nat, n = (k : Int) := ⟨n.toNat, by omega⟩
        refine q_aload_n (t := 22) F dX8_drawn_21 rfl rfl rfl ?_
        refine q_iload_n (t := 23) F dX8_drawn_22 rfl rfl rfl ?_
        refine q_iload_n (t := 24) F dX8_drawn_23 rfl rfl rfl ?_
        refine q_iload_n (t := 25) F dX8_drawn_24 rfl rfl rfl ?_
        refine wp_callV (t := 28) [_, _, _] F dX8_drawn_25 k_X8_stuckByDraw v_X8_stuckByDraw ml_X8_268 rfl rfl rfl rfl (Nat.le_of_ble_eq_true rfl) (by decide) (m_0 (by omega)) (c_X8_stuckByDraw _ G im bt rt lm hbt hrt ⟨hR, hW, hh, htc, hru, hgt, hz, hrd, hsh, him, htp⟩ man n (by omega) (by omega) seed hseed) rfl (kI ?_)
        rintro x25 m' ⟨hx, hst⟩
        refine q_iret F dX8_drawn_28 rfl ?_
        refine ⟨_, rfl, ?_, hst⟩
        unfold drawnA
        simp only [Int.toNat_natCast]
        rw [if_pos (by omega), hx]
      · refine q_bipush (t := 20) F dX8_drawn_18 (by decide) rfl ?_
        refine q_iret F dX8_drawn_20 rfl ?_
        refine ⟨_, rfl, ?_, _, bt, rt, hbt, hrt, (by repeat' first | exact hR | refine RI_up ?_ ?_ | assumption | exact hR _ _ _ | (constructor <;> omega)), ?_, rfl⟩
        · unfold drawnA
          (repeat' split) <;> omega
        · exact agP_rfl _

def cdF (h n : Int) : Nat → Int
  | 0 => 1
  | d + 1 => if 1 < d + 1 ∧ h % ((d + 1 : Nat) : Int) = 0 ∧ n % ((d + 1 : Nat) : Int) = 0 then ((d + 1 : Nat) : Int) else cdF h n d
theorem cdF_s (h n : Int) (d : Nat) : cdF h n (d + 1) = if 1 < d + 1 ∧ h % ((d + 1 : Nat) : Int) = 0 ∧ n % ((d + 1 : Nat) : Int) = 0 then ((d + 1 : Nat) : Int) else cdF h n d := rfl
theorem cdF_in (h n : Int) (d : Nat) : 1 ≤ cdF h n d ∧ (cdF h n d ≤ d ∨ cdF h n d = 1) := by
  induction d with
  | zero => exact ⟨Int.le_refl 1, Or.inr rfl⟩
  | succ d ih =>
    rw [cdF_s]
    split <;> omega
def hitF (im : IM) (man : Nat) (seed : Int) : Nat → Int
  | 0 => 0
  | i + 1 => if 5 ≤ dwN im man (bm (seed + i)) 16 then hitF im man seed i + 1 else hitF im man seed i
theorem hitF_s (im : IM) (man : Nat) (seed : Int) (i : Nat) : hitF im man seed (i + 1) = if 5 ≤ dwN im man (bm (seed + i)) 16 then hitF im man seed i + 1 else hitF im man seed i := rfl
theorem hitF_in (im : IM) (man : Nat) (seed : Int) (i : Nat) : 0 ≤ hitF im man seed i ∧ hitF im man seed i ≤ i := by
  induction i with
  | zero => exact ⟨Int.le_refl 0, Int.le_refl 0⟩
  | succ i ih =>
    rw [hitF_s]
    split <;> omega
def chanceA (im : IM) (man seed n part : Int) : Int := if (0 ≤ man ∧ man < im 18 0 3) ∧ (1 ≤ n ∧ n ≤ 20) ∧ 0 ≤ part ∧ part < 2 then (if part = 0 then hitF im man.toNat seed n.toNat else n) / cdF (hitF im man.toNat seed n.toNat) n n.toNat else -4611686018427387904

set_option maxHeartbeats 4000000 in
theorem c_X8_commonDivisor (l : Launch) (G : GS) (im : IM) (bt rt : Nat) (lm : IM) (h : Int) (n : Nat) (h0 : 0 ≤ h) (h1 : h ≤ 20) (hn : n ≤ 20) : Cn l (XC G) yX8_commonDivisor Y_X8_commonDivisor [vI h, vI (n : Int)] (im, rs bt rt, lm) (pI fun x m' => x = cdF h n n ∧ m' = (im, rs bt rt, lm)) := by
  refine cn_of (by decide) (okC G) rfl (Nat.le_of_ble_eq_true rfl) ?_
  intro M ad hMl F
  subst hMl
  refine wp_pad 1 ?_
  show Wp M (XC G) ad Y_X8_commonDivisor (pI fun x m' => x = cdF h n n ∧ m' = (im, rs bt rt, lm)) 0 [some (vI h), some (vI (n : Int)), none] [] (im, rs bt rt, lm)
  refine q_iload_n (t := 1) F dX8_commonDivisor_0 rfl rfl rfl ?_
  refine q_istore_n (t := 2) F dX8_commonDivisor_1 rfl (by decide) rfl rfl ?_
  have L2 : ∀ (fz : Nat) (d : Nat), d < fz → d ≤ n → cdF h n d = cdF h n n → Wp M (XC G) ad Y_X8_commonDivisor (pI fun x m' => x = cdF h n n ∧ m' = (im, rs bt rt, lm)) 2 [some (vI h), some (vI (n : Int)), some (vI (d : Int))] [] (im, rs bt rt, lm) := by
    intro fz
    induction fz with
    | zero => intro d h; exact absurd h (Nat.not_lt_zero _)
    | succ fz ih =>
      have ih2 := ih
      intro d hmeas hd hcd
      refine q_iload_n (t := 3) F dX8_commonDivisor_2 rfl rfl rfl ?_
      refine q_iconst (t := 4) F dX8_commonDivisor_3 rfl ?_
      refine q_icmp_le (t := 7) (u := 27) F dX8_commonDivisor_4 (by first | exact hR _ _ _ | (constructor <;> omega)) (by first | exact hR _ _ _ | (constructor <;> omega)) (by decide) rfl (fun c4 => ?_) (fun c4 => ?_)
      · refine q_iconst (t := 28) F dX8_commonDivisor_27 rfl ?_
        refine q_iret F dX8_commonDivisor_28 rfl ?_
        refine ⟨_, rfl, ?_, rfl⟩
        rw [← hcd]
        rcases (show d = 0 ∨ d = 1 by omega) with rfl | rfl
        · rfl
        · rw [cdF_s, if_neg (by omega)]; rfl
      · refine q_iload_n (t := 8) F dX8_commonDivisor_7 rfl rfl rfl ?_
        refine q_iload_n (t := 9) F dX8_commonDivisor_8 rfl rfl rfl ?_
        refine q_irem (t := 10) F dX8_commonDivisor_9 (by constructor <;> omega) (by constructor <;> omega) (by omega) (by omega) rfl ?_
        refine q_if_ne (t := 13) (u := 21) F dX8_commonDivisor_10 (by have := Int.emod_lt_of_pos h (show (0 : Int) < d by omega); have := Int.emod_nonneg h (show (d : Int) ≠ 0 by omega); constructor <;> omega) (by decide) rfl (fun c10 => ?_) (fun c10 => ?_)
        · refine q_iinc (t := 24) F dX8_commonDivisor_21 rfl (by decide) rfl rfl ?_
          refine q_goto (t := 2) F dX8_commonDivisor_24 (by decide) ?_
          obtain ⟨e, rfl⟩ : ∃ e, d = e + 1 := ⟨d - 1, by omega⟩
          rw [cdF_s, if_neg (by omega)] at hcd
          rw [show ((e + 1 : Nat) : Int) + -1 = (e : Int) by omega]
          exact ih2 e (by omega) (by omega) hcd
        · refine q_iload_n (t := 14) F dX8_commonDivisor_13 rfl rfl rfl ?_
          refine q_iload_n (t := 15) F dX8_commonDivisor_14 rfl rfl rfl ?_
          refine q_irem (t := 16) F dX8_commonDivisor_15 (by constructor <;> omega) (by constructor <;> omega) (by omega) (by omega) rfl ?_
          refine q_if_ne (t := 19) (u := 21) F dX8_commonDivisor_16 (by have := Int.emod_lt_of_pos (n : Int) (show (0 : Int) < d by omega); have := Int.emod_nonneg (n : Int) (show (d : Int) ≠ 0 by omega); constructor <;> omega) (by decide) rfl (fun c16 => ?_) (fun c16 => ?_)
          · refine q_iinc (t := 24) F dX8_commonDivisor_21 rfl (by decide) rfl rfl ?_
            refine q_goto (t := 2) F dX8_commonDivisor_24 (by decide) ?_
            obtain ⟨e, rfl⟩ : ∃ e, d = e + 1 := ⟨d - 1, by omega⟩
            rw [cdF_s, if_neg (by omega)] at hcd
            rw [show ((e + 1 : Nat) : Int) + -1 = (e : Int) by omega]
            exact ih2 e (by omega) (by omega) hcd
          · refine q_iload_n (t := 20) F dX8_commonDivisor_19 rfl rfl rfl ?_
            refine q_iret F dX8_commonDivisor_20 rfl ?_
            obtain ⟨e, rfl⟩ : ∃ e, d = e + 1 := ⟨d - 1, by omega⟩
            rw [cdF_s, if_pos ⟨by omega, by assumption, by assumption⟩] at hcd
            exact ⟨_, rfl, hcd, rfl⟩
  exact L2 _ n (Nat.lt_succ_self _) (Nat.le_refl _) rfl

theorem quo_ri {a b : Int} (h0 : 0 ≤ a) (h1 : a ≤ 20) (hb : 1 ≤ b) : ri (a / b) := by
  have h2 : 0 ≤ a / b := Int.ediv_nonneg h0 (by omega)
  have h3 : a / b ≤ a := Int.ediv_le_self b h0
  constructor <;> omega

set_option maxHeartbeats 4000000 in
theorem c_X8_chance (l : Launch) (G : GS) (im : IM) (bt rt : Nat) (lm : IM) (hbt : bt < 6) (hrt : rt < 6) (hS : SC im) (man : Int) (seed : Int) (n : Int) (part : Int) (hman : ri man) (hseed : ri seed) (hn : ri n) (hpart : ri part) : Cn l (XC G) yX8_chance Y_X8_chance [vR 0 0, vI man, vI seed, vI n, vI part] (im, rs bt rt, lm) (pL fun x m' => x = chanceA im man seed n part ∧ stC lm im m') := by
  refine cn_of (by decide) (okC G) rfl (Nat.le_of_ble_eq_true rfl) ?_
  intro M ad hMl F
  subst hMl
  obtain ⟨hR, hW, hh, htc, hru, hgt, hz, hrd, hsh, him, htp⟩ := hS
  have w1 := hW.1
  have w2 := hW.2.1
  have w3 := hW.2.2.1
  have w4 := hW.2.2.2.1
  have w5 := hW.2.2.2.2.1
  have hman1 := hman.1
  have hman2 := hman.2
  have hseed1 := hseed.1
  have hseed2 := hseed.2
  have hn1 := hn.1
  have hn2 := hn.2
  have hpart1 := hpart.1
  have hpart2 := hpart.2
  refine wp_pad 2 ?_
  show Wp M (XC G) ad Y_X8_chance (pL fun x m' => x = chanceA im man seed n part ∧ stC lm im m') 0 [some (vR 0 0), some (vI man), some (vI seed), some (vI n), some (vI part), none, none] [] (im, rs bt rt, lm)
  refine q_aload_n (t := 1) F dX8_chance_0 rfl rfl rfl ?_
  refine q_iload_n (t := 2) F dX8_chance_1 rfl rfl rfl ?_
  refine wp_callV (t := 5) [_] F dX8_chance_2 k_X8_isOne v_X8_isOne ml_X8_91 rfl rfl rfl rfl (Nat.le_of_ble_eq_true rfl) (by decide) (m_0 (by omega)) (c_X8_isOne _ G _ bt rt lm man hman hR) rfl (kI ?_)
  rintro x2 m' ⟨hx2, rfl⟩
  have hx2 := if01 hx2
  refine q_if_eq (t := 8) (u := 28) F dX8_chance_5 (by first | exact hR _ _ _ | (constructor <;> omega)) (by decide) rfl (fun c5 => ?_) (fun c5 => ?_)
  · refine q_ldc2 (t := 31) (x := -4611686018427387904) F dX8_chance_28 kl_X8_272 (by decide) rfl ?_
    refine q_lret F dX8_chance_31 rfl ?_
    refine ⟨_, rfl, ?_, _, bt, rt, hbt, hrt, hR, agP_rfl _, rfl⟩
    unfold chanceA
    rw [if_neg (by omega)]
  · refine q_iload_n (t := 9) F dX8_chance_8 rfl rfl rfl ?_
    refine q_iconst (t := 10) F dX8_chance_9 rfl ?_
    refine q_icmp_lt (t := 13) (u := 28) F dX8_chance_10 (by first | exact hR _ _ _ | (constructor <;> omega)) (by first | exact hR _ _ _ | (constructor <;> omega)) (by decide) rfl (fun c10 => ?_) (fun c10 => ?_)
    · refine q_ldc2 (t := 31) (x := -4611686018427387904) F dX8_chance_28 kl_X8_272 (by decide) rfl ?_
      refine q_lret F dX8_chance_31 rfl ?_
      refine ⟨_, rfl, ?_, _, bt, rt, hbt, hrt, hR, agP_rfl _, rfl⟩
      unfold chanceA
      rw [if_neg (by omega)]
    · refine q_iload_n (t := 14) F dX8_chance_13 rfl rfl rfl ?_
      refine q_bipush (t := 16) F dX8_chance_14 (by decide) rfl ?_
      refine q_icmp_gt (t := 19) (u := 28) F dX8_chance_16 (by first | exact hR _ _ _ | (constructor <;> omega)) (by first | exact hR _ _ _ | (constructor <;> omega)) (by decide) rfl (fun c16 => ?_) (fun c16 => ?_)
      · refine q_ldc2 (t := 31) (x := -4611686018427387904) F dX8_chance_28 kl_X8_272 (by decide) rfl ?_
        refine q_lret F dX8_chance_31 rfl ?_
        refine ⟨_, rfl, ?_, _, bt, rt, hbt, hrt, hR, agP_rfl _, rfl⟩
        unfold chanceA
        rw [if_neg (by omega)]
      · refine q_iload (t := 21) F dX8_chance_19 rfl rfl ?_
        refine q_iconst (t := 22) F dX8_chance_21 rfl ?_
        refine wp_callS (t := 25) [_, _] F dX8_chance_22 k_X8_within st_X8_within ml_X8_95 rfl rfl (Nat.le_of_ble_eq_true rfl) (by decide) (c_X8_within _ G _ bt rt lm part 2 hpart (by constructor <;> omega)) rfl (kI ?_)
        rintro x22 m' ⟨hx22, rfl⟩
        have hx22 := if01 hx22
        refine q_if_ne (t := 28) (u := 32) F dX8_chance_25 (by first | exact hR _ _ _ | (constructor <;> omega)) (by decide) rfl (fun c25 => ?_) (fun c25 => ?_)
        · obtain ⟨man, rfl⟩ : ∃ k : Nat, man = (k : Int) := ⟨man.toNat, by omega⟩
          obtain ⟨n, rfl⟩ : ∃ k : Nat, n = (k : Int) := ⟨n.toNat, by omega⟩
          refine q_iconst (t := 33) F dX8_chance_32 rfl ?_
          refine q_istore (t := 35) F dX8_chance_33 (by decide) rfl rfl ?_
          refine q_iconst (t := 36) F dX8_chance_35 rfl ?_
          refine q_istore (t := 38) F dX8_chance_36 (by decide) rfl rfl ?_
          have L38 : ∀ (fz : Nat) (i : Nat) (im2 : IM) (bt2 rt2 : Nat), n - i < fz → i ≤ n → bt2 < 6 → rt2 < 6 → SC im2 → agP im2 im → Wp M (XC G) ad Y_X8_chance (pL fun x m' => x = chanceA im man seed n part ∧ stC lm im m') 38 [some (vR 0 0), some (vI (man : Int)), some (vI seed), some (vI (n : Int)), some (vI part), some (vI (hitF im man seed i)), some (vI (i : Int))] [] (im2, rs bt2 rt2, lm) := by
            intro fz
            induction fz with
            | zero => intro i im2 bt2 rt2 h; exact absurd h (Nat.not_lt_zero _)
            | succ fz ih =>
              have ih38 := ih
              intro i im2 bt2 rt2 hmeas hi hbt2 hrt2 hS2 hP2
              have e3 : im2 18 0 3 = im 18 0 3 := hP2.1 18 0 3 (by unfold per; omega)
              have hhi := hitF_in im man seed i
              refine q_iload (t := 40) F dX8_chance_38 rfl rfl ?_
              refine q_iload_n (t := 41) F dX8_chance_40 rfl rfl rfl ?_
              refine q_icmp_ge (t := 44) (u := 68) F dX8_chance_41 (by first | exact hR _ _ _ | (constructor <;> omega)) (by first | exact hR _ _ _ | (constructor <;> omega)) (by decide) rfl (fun c41 => ?_) (fun c41 => ?_)
              · have ein : i = n := by omega
                rw [ein]
                rw [ein] at hhi
                refine q_iload (t := 70) F dX8_chance_68 rfl rfl ?_
                refine q_iload_n (t := 71) F dX8_chance_70 rfl rfl rfl ?_
                refine wp_callS (t := 74) [_, _] F dX8_chance_71 k_X8_commonDivisor st_X8_commonDivisor ml_X8_274 rfl rfl (Nat.le_of_ble_eq_true rfl) (by decide) (c_X8_commonDivisor _ G im2 bt2 rt2 lm (hitF im man seed n) n hhi.1 (by omega) (by omega)) rfl (kI ?_)
                rintro x71 m' ⟨rfl, rfl⟩
                have hcd := cdF_in (hitF im man seed n) n n
                refine q_istore (t := 76) F dX8_chance_74 (by decide) rfl rfl ?_
                refine q_iload (t := 78) F dX8_chance_76 rfl rfl ?_
                refine q_if_ne (t := 81) (u := 86) F dX8_chance_78 (by first | exact hR _ _ _ | (constructor <;> omega)) (by decide) rfl (fun c78 => ?_) (fun c78 => ?_)
                · refine q_iload_n (t := 87) F dX8_chance_86 rfl rfl rfl ?_
                  refine q_iload (t := 89) F dX8_chance_87 rfl rfl ?_
                  refine q_idiv (t := 90) F dX8_chance_89 (by constructor <;> omega) (by constructor <;> omega) (by omega) (by omega) rfl ?_
                  refine q_i2l (t := 91) F dX8_chance_90 (by exact quo_ri (by omega) (by omega) (by omega)) rfl ?_
                  refine q_lret F dX8_chance_91 rfl ?_
                  refine ⟨_, rfl, ?_, im2, bt2, rt2, hbt2, hrt2, hS2.1, hP2, rfl⟩
                  unfold chanceA
                  simp only [Int.toNat_natCast]
                  first
                    | (rw [if_pos (by omega), if_pos (by omega)])
                    | (rw [if_pos (by omega), if_neg (by omega)])
                · refine q_iload (t := 83) F dX8_chance_81 rfl rfl ?_
                  refine q_goto (t := 87) F dX8_chance_83 (by decide) ?_
                  refine q_iload (t := 89) F dX8_chance_87 rfl rfl ?_
                  refine q_idiv (t := 90) F dX8_chance_89 (by constructor <;> omega) (by constructor <;> omega) (by omega) (by omega) rfl ?_
                  refine q_i2l (t := 91) F dX8_chance_90 (by exact quo_ri (by omega) (by omega) (by omega)) rfl ?_
                  refine q_lret F dX8_chance_91 rfl ?_
                  refine ⟨_, rfl, ?_, im2, bt2, rt2, hbt2, hrt2, hS2.1, hP2, rfl⟩
                  unfold chanceA
                  simp only [Int.toNat_natCast]
                  first
                    | (rw [if_pos (by omega), if_pos (by omega)])
                    | (rw [if_pos (by omega), if_neg (by omega)])
              · refine q_aload_n (t := 45) F dX8_chance_44 rfl rfl rfl ?_
                refine q_iload_n (t := 46) F dX8_chance_45 rfl rfl rfl ?_
                refine q_iload_n (t := 47) F dX8_chance_46 rfl rfl rfl ?_
                refine q_iload (t := 49) F dX8_chance_47 rfl rfl ?_
                refine q_iadd (t := 50) F dX8_chance_49 rfl ?_
                refine q_norm ?_
                refine q_bipush (t := 52) F dX8_chance_50 (by decide) rfl ?_
                refine wp_callV (t := 55) [_, _, _] F dX8_chance_52 k_X8_stuckByDraw v_X8_stuckByDraw ml_X8_268 rfl rfl rfl rfl (Nat.le_of_ble_eq_true rfl) (by decide) (m_0 (by omega)) (c_X8_stuckByDraw _ G im2 bt2 rt2 lm hbt2 hrt2 hS2 man 16 (by rw [e3]; omega) (by omega) (bm (seed + i)) (ri_b _)) rfl (kI ?_)
                rintro x52 m' ⟨hx, hst⟩
                obtain ⟨im3, bt3, rt3, hbt3, hrt3, hS3, hP3, rfl⟩ := SC_st hst hS2
                rw [(dw_eq hP2 hW (by omega) _ _).2.2] at hx
                have hdi := dwN_in im man (bm (seed + i)) 16
                refine q_iconst (t := 56) F dX8_chance_55 rfl ?_
                refine q_icmp_lt (t := 59) (u := 62) F dX8_chance_56 (by constructor <;> omega) (by constructor <;> omega) (by decide) rfl (fun c56 => ?_) (fun c56 => ?_)
                · refine q_iinc (t := 65) F dX8_chance_62 rfl (by decide) rfl rfl ?_
                  refine q_goto (t := 38) F dX8_chance_65 (by decide) ?_
                  first
                    | (rw [show hitF im man seed i + 1 = hitF im man seed (i + 1) from by rw [hitF_s, if_pos (by omega)]]
                       exact ih38 (i + 1) im3 bt3 rt3 (by omega) (by omega) hbt3 hrt3 hS3 (hP3.trans hP2))
                    | (rw [show hitF im man seed i = hitF im man seed (i + 1) from by rw [hitF_s, if_neg (by omega)]]
                       exact ih38 (i + 1) im3 bt3 rt3 (by omega) (by omega) hbt3 hrt3 hS3 (hP3.trans hP2))
                · refine q_iinc (t := 62) F dX8_chance_59 rfl (by decide) rfl rfl ?_
                  refine q_iinc (t := 65) F dX8_chance_62 rfl (by decide) rfl rfl ?_
                  refine q_goto (t := 38) F dX8_chance_65 (by decide) ?_
                  first
                    | (rw [show hitF im man seed i + 1 = hitF im man seed (i + 1) from by rw [hitF_s, if_pos (by omega)]]
                       exact ih38 (i + 1) im3 bt3 rt3 (by omega) (by omega) hbt3 hrt3 hS3 (hP3.trans hP2))
                    | (rw [show hitF im man seed i = hitF im man seed (i + 1) from by rw [hitF_s, if_neg (by omega)]]
                       exact ih38 (i + 1) im3 bt3 rt3 (by omega) (by omega) hbt3 hrt3 hS3 (hP3.trans hP2))
          exact L38 _ 0 im bt rt (Nat.lt_succ_self _) (by omega) hbt hrt ⟨hR, hW, hh, htc, hru, hgt, hz, hrd, hsh, him, htp⟩ (agP_rfl _)
        · refine q_ldc2 (t := 31) (x := -4611686018427387904) F dX8_chance_28 kl_X8_272 (by decide) rfl ?_
          refine q_lret F dX8_chance_31 rfl ?_
          refine ⟨_, rfl, ?_, _, bt, rt, hbt, hrt, hR, agP_rfl _, rfl⟩
          unfold chanceA
          rw [if_neg (by omega)]
end
section
/-! hours that were told: only that all is well -/
/-- what Bite looks at is in order -/
def BO (im : IM) (bt : Nat) : Prop := bt < 6 ∧ RI im ∧ goodT im bt ∧ (0 ≤ im 16 0 2 ∧ im 16 0 2 < 6) ∧ (0 ≤ im 17 0 3 ∧ im 17 0 3 < 10) ∧ (0 ≤ im 16 0 3 ∧ im 16 0 3 ≤ 3000) ∧ 0 ≤ im 16 0 4 ∧ im 16 0 4 ≤ 3000
theorem BO_scr {im : IM} {bt : Nat} {a b : Int} {g : Nat → Nat → Int} (h : BO im bt) (ha : ri a) (hb : ri b) (hg : ∀ i s, ri (g i s)) : BO (scr im a b g) bt :=
  ⟨h.1, RI_scr h.2.1 ha hb hg, goodT_scr h.2.2.1, h.2.2.2⟩

set_option maxHeartbeats 4000000 in
theorem c_X8_wordsAsTold (l : Launch) (G : GS) (im : IM) (bt rt : Nat) (lm : IM) (hB : BO im bt) (h : Int) (hh : ri h) : Cn l (XC G) yX8_wordsAsTold Y_X8_wordsAsTold [vR 0 0, vI h] (im, rs bt rt, lm) (pI fun _ m' => ∃ im', RI im' ∧ ag [5, 17] im' im ∧ m' = (im', rs bt rt, lm)) := by
  refine cn_of (by decide) (okC G) rfl (Nat.le_of_ble_eq_true rfl) ?_
  intro M ad hMl F
  subst hMl
  have hh1 := hh.1
  have hh2 := hh.2
  refine wp_pad 2 ?_
  show Wp M (XC G) ad Y_X8_wordsAsTold (pI fun _ m' => ∃ im', RI im' ∧ ag [5, 17] im' im ∧ m' = (im', rs bt rt, lm)) 0 [some (vR 0 0), some (vI h), none, none] [] (im, rs bt rt, lm)
  refine q_iconst (t := 1) F dX8_wordsAsTold_0 rfl ?_
  refine q_istore_n (t := 2) F dX8_wordsAsTold_1 rfl (by decide) rfl rfl ?_
  refine q_iconst (t := 3) F dX8_wordsAsTold_2 rfl ?_
  refine q_istore_n (t := 4) F dX8_wordsAsTold_3 rfl (by decide) rfl rfl ?_
  have L4 : ∀ (fz : Nat) (w b : Nat) (im2 : IM), 16 - w < fz → w ≤ 16 → BO im2 bt → ag [5, 17] im2 im → Wp M (XC G) ad Y_X8_wordsAsTold (pI fun _ m' => ∃ im', RI im' ∧ ag [5, 17] im' im ∧ m' = (im', rs bt rt, lm)) 4 [some (vR 0 0), some (vI h), some (vI (b : Int)), some (vI (w : Int))] [] (im2, rs bt rt, lm) := by
    intro fz
    induction fz with
    | zero => intro w b im2 h; exact absurd h (Nat.not_lt_zero _)
    | succ fz ih =>
      have ih4 := ih
      intro w b im2 hmeas hw hB2 hag2
      refine q_iload_n (t := 5) F dX8_wordsAsTold_4 rfl rfl rfl ?_
      refine q_bipush (t := 7) F dX8_wordsAsTold_5 (by decide) rfl ?_
      refine q_icmp_ge (t := 10) (u := 45) F dX8_wordsAsTold_7 (by constructor <;> omega) (by constructor <;> omega) (by decide) rfl (fun c7 => ?_) (fun c7 => ?_)
      · refine q_iload_n (t := 46) F dX8_wordsAsTold_45 rfl rfl rfl ?_
        refine q_iret F dX8_wordsAsTold_46 rfl ?_
        exact ⟨_, rfl, im2, hB2.2.1, hag2, rfl⟩
      · refine q_aload_n (t := 11) F dX8_wordsAsTold_10 rfl rfl rfl ?_
        refine g_X8_42 (t := 14) F dX8_wordsAsTold_11 rfl rfl ?_
        refine g_X8_199 (t := 17) F dX8_wordsAsTold_14 rfl rfl ?_
        refine q_iconst (t := 18) F dX8_wordsAsTold_17 rfl ?_
        refine q_iload_n (t := 19) F dX8_wordsAsTold_18 rfl rfl rfl ?_
        refine stN_17 (t := 20) (j := 0) F dX8_wordsAsTold_19 (by omega) rfl ?_
        refine q_aload_n (t := 21) F dX8_wordsAsTold_20 rfl rfl rfl ?_
        refine g_X8_42 (t := 24) F dX8_wordsAsTold_21 rfl rfl ?_
        refine q_bipush (t := 26) F dX8_wordsAsTold_24 (by decide) rfl ?_
        have hB3 : BO (up im2 17 0 0 w) bt := ⟨hB2.1, RI_up hB2.2.1 (by constructor <;> omega), goodT_congr (fun s => rfl) (fun s => rfl) hB2.2.2.1, hB2.2.2.2⟩
        refine wp_callV (t := 29) [_] F dX8_wordsAsTold_26 k_X0_goesOffIn v_X0_goesOffIn ml_X8_181 rfl rfl rfl rfl (Nat.le_of_ble_eq_true rfl) (by decide) (m_16 (by omega)) (c_X0_goesOffIn _ G (up im2 17 0 0 w) bt rt lm 60 (by omega) hB2.1 hB3.2.1 hB3.2.2.1 hB3.2.2.2.1.1 hB3.2.2.2.1.2 hB3.2.2.2.2.1.1 hB3.2.2.2.2.1.2 (fun _ => hB3.2.2.2.2.2.1) hB3.2.2.2.2.2.2.1 hB3.2.2.2.2.2.2.2) rfl (kI ?_)
        rintro x26 m' ⟨hx, xa, xb, xg, hxa, hxb, hxg, rfl⟩
        have hgi := goesB_in (up im2 17 0 0 w) bt 60
        have hB4 := BO_scr hB3 hxa hxb hxg
        have hag4 : ag [5, 17] (scr (up im2 17 0 0 w) xa xb xg) im := (scr_ag _ _ _ _).trans (ag_up hag2 (by decide))
        refine q_iload_n (t := 30) F dX8_wordsAsTold_29 rfl rfl rfl ?_
        refine q_icmp_ne (t := 33) (u := 39) F dX8_wordsAsTold_30 (by constructor <;> omega) (by constructor <;> omega) (by decide) rfl (fun c30 => ?_) (fun c30 => ?_)
        · refine q_iinc (t := 42) F dX8_wordsAsTold_39 rfl (by decide) rfl rfl ?_
          refine q_goto (t := 4) F dX8_wordsAsTold_42 (by decide) ?_
          exact ih4 (w + 1) _ _ (by omega) (by omega) hB4 hag4
        · refine q_iload_n (t := 34) F dX8_wordsAsTold_33 rfl rfl rfl ?_
          refine q_iconst (t := 35) F dX8_wordsAsTold_34 rfl ?_
          refine q_iload_n (t := 36) F dX8_wordsAsTold_35 rfl rfl rfl ?_
          refine q_ishl (t := 37) F dX8_wordsAsTold_36 (by omega) (by omega) rfl ?_
          rw [pow_cast]
          refine q_ior (t := 38) F dX8_wordsAsTold_37 rfl ?_
          refine q_istore_n (t := 39) F dX8_wordsAsTold_38 rfl (by decide) rfl rfl ?_
          refine q_iinc (t := 42) F dX8_wordsAsTold_39 rfl (by decide) rfl rfl ?_
          refine q_goto (t := 4) F dX8_wordsAsTold_42 (by decide) ?_
          exact ih4 (w + 1) _ _ (by omega) (by omega) hB4 hag4
  exact L4 _ 0 0 im (Nat.lt_succ_self _) (by omega) hB (ag_rfl _ _)

set_option maxHeartbeats 4000000 in
theorem c_X8_agesAsTold (l : Launch) (G : GS) (im : IM) (bt rt : Nat) (lm : IM) (hB : BO im bt) (h l0 : Int) (hh : ri h) (hl : l0 = 0 ∨ l0 = 1) : Cn l (XC G) yX8_agesAsTold Y_X8_agesAsTold [vR 0 0, vI h, vI l0] (im, rs bt rt, lm) (pI fun _ m' => ∃ im', RI im' ∧ ag [5, 16, 17] im' im ∧ m' = (im', rs bt rt, lm)) := by
  refine cn_of (by decide) (okC G) rfl (Nat.le_of_ble_eq_true rfl) ?_
  intro M ad hMl F
  subst hMl
  have hh1 := hh.1
  have hh2 := hh.2
  refine wp_pad 2 ?_
  show Wp M (XC G) ad Y_X8_agesAsTold (pI fun _ m' => ∃ im', RI im' ∧ ag [5, 16, 17] im' im ∧ m' = (im', rs bt rt, lm)) 0 [some (vR 0 0), some (vI h), some (vI l0), none, none] [] (im, rs bt rt, lm)
  refine q_iconst (t := 1) F dX8_agesAsTold_0 rfl ?_
  refine q_istore_n (t := 2) F dX8_agesAsTold_1 rfl (by decide) rfl rfl ?_
  refine q_iconst (t := 3) F dX8_agesAsTold_2 rfl ?_
  refine q_istore (t := 5) F dX8_agesAsTold_3 (by decide) rfl rfl ?_
  have L5 : ∀ (fz : Nat) (a : Nat) (b : Int) (im2 : IM), 61 - a < fz → a ≤ 61 → BO im2 bt → ag [5, 16, 17] im2 im → Wp M (XC G) ad Y_X8_agesAsTold (pI fun _ m' => ∃ im', RI im' ∧ ag [5, 16, 17] im' im ∧ m' = (im', rs bt rt, lm)) 5 [some (vR 0 0), some (vI h), some (vI l0), some (vI b), some (vI (a : Int))] [] (im2, rs bt rt, lm) := by
    intro fz
    induction fz with
    | zero => intro a b im2 h; exact absurd h (Nat.not_lt_zero _)
    | succ fz ih =>
      have ih5 := ih
      intro a b im2 hmeas ha hB2 hag2
      refine q_iload (t := 7) F dX8_agesAsTold_5 rfl rfl ?_
      refine q_bipush (t := 9) F dX8_agesAsTold_7 (by decide) rfl ?_
      refine q_icmp_ge (t := 12) (u := 53) F dX8_agesAsTold_9 (by constructor <;> omega) (by constructor <;> omega) (by decide) rfl (fun c9 => ?_) (fun c9 => ?_)
      · refine q_iload_n (t := 54) F dX8_agesAsTold_53 rfl rfl rfl ?_
        refine q_if_eq (t := 57) (u := 61) F dX8_agesAsTold_54 (by first | exact hR _ _ _ | (constructor <;> omega)) (by decide) rfl (fun c54 => ?_) (fun c54 => ?_)
        · refine q_iload_n (t := 62) F dX8_agesAsTold_61 rfl rfl rfl ?_
          refine q_iret F dX8_agesAsTold_62 rfl ?_
          exact ⟨_, rfl, im2, hB2.2.1, hag2, rfl⟩
        · refine q_iconst (t := 58) F dX8_agesAsTold_57 rfl ?_
          refine q_goto (t := 62) F dX8_agesAsTold_58 (by decide) ?_
          refine q_iret F dX8_agesAsTold_62 rfl ?_
          exact ⟨_, rfl, im2, hB2.2.1, hag2, rfl⟩
      · refine q_aload_n (t := 13) F dX8_agesAsTold_12 rfl rfl rfl ?_
        refine g_X8_42 (t := 16) F dX8_agesAsTold_13 rfl rfl ?_
        refine q_iload (t := 18) F dX8_agesAsTold_16 rfl rfl ?_
        refine p_X8_202 (t := 21) F dX8_agesAsTold_18 rfl rfl ?_
        refine q_aload_n (t := 22) F dX8_agesAsTold_21 rfl rfl rfl ?_
        refine g_X8_42 (t := 25) F dX8_agesAsTold_22 rfl rfl ?_
        refine q_bipush (t := 27) F dX8_agesAsTold_25 (by decide) rfl ?_
        have hB3 : BO (up im2 16 0 3 a) bt := by
          refine ⟨hB2.1, RI_up hB2.2.1 (by constructor <;> omega), goodT_congr (fun s => rfl) (fun s => rfl) hB2.2.2.1, hB2.2.2.2.1, hB2.2.2.2.2.1, ?_, hB2.2.2.2.2.2.2⟩
          rw [up_app, if_pos ⟨rfl, rfl, rfl⟩]
          omega
        refine wp_callV (t := 30) [_] F dX8_agesAsTold_27 k_X0_goesOffIn v_X0_goesOffIn ml_X8_181 rfl rfl rfl rfl (Nat.le_of_ble_eq_true rfl) (by decide) (m_16 (by omega)) (c_X0_goesOffIn _ G (up im2 16 0 3 a) bt rt lm 60 (by omega) hB2.1 hB3.2.1 hB3.2.2.1 hB3.2.2.2.1.1 hB3.2.2.2.1.2 hB3.2.2.2.2.1.1 hB3.2.2.2.2.1.2 (fun _ => hB3.2.2.2.2.2.1) hB3.2.2.2.2.2.2.1 hB3.2.2.2.2.2.2.2) rfl (kI ?_)
        rintro x27 m' ⟨hx, xa, xb, xg, hxa, hxb, hxg, rfl⟩
        have hgi := goesB_in (up im2 16 0 3 a) bt 60
        have hB4 := BO_scr hB3 hxa hxb hxg
        have hag4 : ag [5, 16, 17] (scr (up im2 16 0 3 a) xa xb xg) im := ((scr_ag _ _ _ _).mono (by decide)).trans (ag_up hag2 (by decide))
        refine q_iload_n (t := 31) F dX8_agesAsTold_30 rfl rfl rfl ?_
        refine q_icmp_eq (t := 34) (u := 37) F dX8_agesAsTold_31 (by constructor <;> omega) (by constructor <;> omega) (by decide) rfl (fun c31 => ?_) (fun c31 => ?_)
        · refine q_iload_n (t := 38) F dX8_agesAsTold_37 rfl rfl rfl ?_
          refine q_if_eq (t := 41) (u := 44) F dX8_agesAsTold_38 (by first | exact hR _ _ _ | (constructor <;> omega)) (by decide) rfl (fun c38 => ?_) (fun c38 => ?_)
          · refine q_iinc (t := 47) F dX8_agesAsTold_44 rfl (by decide) rfl rfl ?_
            refine q_iinc (t := 50) F dX8_agesAsTold_47 rfl (by decide) rfl rfl ?_
            refine q_goto (t := 5) F dX8_agesAsTold_50 (by decide) ?_
            exact ih5 (a + 1) _ _ (by omega) (by omega) hB4 hag4
          · refine q_iload (t := 43) F dX8_agesAsTold_41 rfl rfl ?_
            refine q_iret F dX8_agesAsTold_43 rfl ?_
            exact ⟨_, rfl, _, hB4.2.1, hag4, rfl⟩
        · refine q_goto (t := 47) F dX8_agesAsTold_34 (by decide) ?_
          refine q_iinc (t := 50) F dX8_agesAsTold_47 rfl (by decide) rfl rfl ?_
          refine q_goto (t := 5) F dX8_agesAsTold_50 (by decide) ?_
          exact ih5 (a + 1) _ _ (by omega) (by omega) hB4 hag4
  exact L5 _ 0 0 im (Nat.lt_succ_self _) (by omega) hB (ag_rfl _ _)

def BZ (im : IM) (bt : Nat) : Prop := bt < 6 ∧ RI im ∧ goodT im bt ∧ (0 ≤ im 16 0 2 ∧ im 16 0 2 < 6) ∧ (0 ≤ im 17 0 3 ∧ im 17 0 3 < 10) ∧ (im 17 0 0 ≠ -1 → 0 ≤ im 16 0 3 ∧ im 16 0 3 ≤ 3000) ∧ 0 ≤ im 16 0 4 ∧ im 16 0 4 ≤ 3000
theorem BZ_kind {im : IM} {bt : Nat} {x : Int} (h : BZ im bt) (hx : 0 ≤ x ∧ x < 6) : BZ (up im 16 0 2 x) bt :=
  ⟨h.1, RI_up h.2.1 (by constructor <;> omega), goodT_congr (fun s => rfl) (fun s => rfl) h.2.2.1, by rw [up_app, if_pos ⟨rfl, rfl, rfl⟩]; exact hx, h.2.2.2.2⟩
theorem BZ_num {im : IM} {bt : Nat} {x : Int} (h : BZ im bt) (hx : 0 ≤ x ∧ x < 10) : BZ (up im 17 0 3 x) bt :=
  ⟨h.1, RI_up h.2.1 (by constructor <;> omega), goodT_congr (fun s => rfl) (fun s => rfl) h.2.2.1, h.2.2.2.1, by rw [up_app, if_pos ⟨rfl, rfl, rfl⟩]; exact hx, h.2.2.2.2.2⟩
theorem BZ_text {im : IM} {bt q : Nat} (h : BZ im bt) (hq : q < 6) (hT : goodT im q) : BZ im q := ⟨hq, h.2.1, hT, h.2.2.2⟩
theorem c_goZ (l : Launch) (G : GS) (im : IM) (bt rt : Nat) (lm : IM) (h : BZ im bt) : Cn l (XC G) yX0_goesOffIn Y_X0_goesOffIn [vR 16 0, vI 60] (im, rs bt rt, lm) (pI fun x m' => (-1 ≤ x ∧ x < 60) ∧ ∃ im', RI im' ∧ ag [5, 17] im' im ∧ m' = (im', rs bt rt, lm)) := by
  refine Cn.mono (c_X0_goesOffIn l G im bt rt lm 60 (by omega) h.1 h.2.1 h.2.2.1 h.2.2.2.1.1 h.2.2.2.1.2 h.2.2.2.2.1.1 h.2.2.2.2.1.2 h.2.2.2.2.2.1 h.2.2.2.2.2.2.1 h.2.2.2.2.2.2.2) ?_
  rintro r m' ⟨x, rfl, hx, hg⟩
  obtain ⟨im3, hR3, hag3, rfl⟩ := garb_ag hg h.2.1
  have := goesB_in im bt 60
  exact ⟨x, rfl, by omega, im3, hR3, hag3, rfl⟩

set_option maxHeartbeats 4000000 in
theorem c_X8_firstOtherwise (l : Launch) (G : GS) (im : IM) (bt rt : Nat) (lm : IM) (hbt : bt < 6) (hrt : rt < 6) (hS : SC im) (j man : Nat) (hj : j < 4) (hm : (man : Int) < im 18 0 3) (what oth : Int) (hwhat : ri what) (hoth : ri oth) (ho : (what = 1 → 0 ≤ oth ∧ oth < 6) ∧ (what = 2 → 0 ≤ oth ∧ oth < 10)) : Cn l (XC G) yX8_firstOtherwise Y_X8_firstOtherwise [vR 0 0, vR 7 j, vI (man : Int), vI what, vI oth] (im, rs bt rt, lm) (pI fun x m' => ri x ∧ ∃ im' bt', bt' < 6 ∧ RI im' ∧ ag [5, 16, 17] im' im ∧ m' = (im', rs bt' rt, lm)) := by
  refine cn_of (by decide) (okC G) rfl (Nat.le_of_ble_eq_true rfl) ?_
  intro M ad hMl F
  subst hMl
  obtain ⟨hR, hW, hh, htc, hru, hgt, hz, hrd, hsh, him, htp⟩ := hS
  have w1 := hW.1
  have w2 := hW.2.1
  have w3 := hW.2.2.1
  have w4 := hW.2.2.2.1
  have w5 := hW.2.2.2.2.1
  have hwhat1 := hwhat.1
  have hwhat2 := hwhat.2
  have hoth1 := hoth.1
  have hoth2 := hoth.2
  obtain ⟨r0, r1, hT, k0, k1, n0, n1, hga, hh0, hh1, hm5⟩ := cell_of hW (man := man) (by omega)
  refine wp_pad 1 ?_
  show Wp M (XC G) ad Y_X8_firstOtherwise (pI fun x m' => ri x ∧ ∃ im' bt', bt' < 6 ∧ RI im' ∧ ag [5, 16, 17] im' im ∧ m' = (im', rs bt' rt, lm)) 0 [some (vR 0 0), some (vR 7 j), some (vI (man : Int)), some (vI what), some (vI oth), none] [] (im, rs bt rt, lm)
  refine q_iconst (t := 1) F dX8_firstOtherwise_0 rfl ?_
  refine q_istore (t := 3) F dX8_firstOtherwise_1 (by decide) rfl rfl ?_
  have L3 : ∀ (fz : Nat) (g : Nat) (im2 : IM) (bt2 : Nat), 10 - g < fz → g ≤ 10 → bt2 < 6 → RI im2 → ag [5, 16, 17] im2 im → Wp M (XC G) ad Y_X8_firstOtherwise (pI fun x m' => ri x ∧ ∃ im' bt', bt' < 6 ∧ RI im' ∧ ag [5, 16, 17] im' im ∧ m' = (im', rs bt' rt, lm)) 3 [some (vR 0 0), some (vR 7 j), some (vI (man : Int)), some (vI what), some (vI oth), some (vI (g : Int))] [] (im2, rs bt2 rt, lm) := by
    intro fz
    induction fz with
    | zero => intro g im2 bt2 h; exact absurd h (Nat.not_lt_zero _)
    | succ fz ih =>
      have ih3 := ih
      intro g im2 bt2 hmeas hg hbt2 hR2 hag2
      have e18 : ∀ s, im2 18 0 s = im 18 0 s := fun s => hag2 18 (by decide) 0 s
      have e21 : ∀ s, im2 21 (5 * 0 + man) s = im 21 (5 * 0 + man) s := fun s => hag2 21 (by decide) _ s
      have e22 : ∀ s, im2 22 (5 * 0 + man) s = im 22 (5 * 0 + man) s := fun s => hag2 22 (by decide) _ s
      have e23 : ∀ s, im2 23 (5 * 0 + man) s = im 23 (5 * 0 + man) s := fun s => hag2 23 (by decide) _ s
      have e0 : ∀ s, im2 0 0 s = im 0 0 s := fun s => hag2 0 (by decide) 0 s
      have e08 := e0 8
      have eT : ∀ q : Nat, (q : Int) < im 0 0 8 → goodT im2 q := fun q hq => goodT_congr (fun s => hag2 3 (by decide) _ s) (fun s => hag2 4 (by decide) _ s) (hgt q hq)
      refine q_iload (t := 5) F dX8_firstOtherwise_3 rfl rfl ?_
      refine q_bipush (t := 7) F dX8_firstOtherwise_5 (by decide) rfl ?_
      refine q_icmp_ge (t := 10) (u := 113) F dX8_firstOtherwise_7 (by first | exact hR _ _ _ | (constructor <;> omega)) (by first | exact hR _ _ _ | (constructor <;> omega)) (by decide) rfl (fun c7 => ?_) (fun c7 => ?_)
      · refine q_iconst (t := 114) F dX8_firstOtherwise_113 rfl ?_
        refine q_iret F dX8_firstOtherwise_114 rfl ?_
        exact ⟨_, rfl, (by constructor <;> omega), im2, bt2, hbt2, hR2, hag2, rfl⟩
      · refine q_aload_n (t := 11) F dX8_firstOtherwise_10 rfl rfl rfl ?_
        refine g_X8_42 (t := 14) F dX8_firstOtherwise_11 rfl rfl ?_
        refine q_aload_n (t := 15) F dX8_firstOtherwise_14 rfl rfl rfl ?_
        refine g_X8_51 (t := 18) F dX8_firstOtherwise_15 rfl rfl ?_
        refine q_iload_n (t := 19) F dX8_firstOtherwise_18 rfl rfl rfl ?_
        refine q_iload (t := 21) F dX8_firstOtherwise_19 rfl rfl ?_
        refine wp_callV (t := 24) [_, _, _] F dX8_firstOtherwise_21 k_X0_look v_X0_look ml_X8_139 rfl rfl rfl rfl (Nat.le_of_ble_eq_true rfl) (by decide) (m_16 (by omega)) (c_X0_look _ G im2 bt2 rt lm 0 man g (by omega) hm5 (by omega) (by rw [e18]; exact r0) (by rw [e18]; exact r1)) rfl (kV ?_)
        rintro m' rfl
        have hBl : BZ (lookM im2 0 man g) (im2 18 0 7).toNat := by
          refine ⟨by rw [e18]; omega, RI_look hR2 (by omega), ?_, ?_, ?_, ?_, ?_⟩
          · rw [e18]; exact goodT_congr (fun s => rfl) (fun s => rfl) (eT _ (by omega))
          · rw [show lookM im2 0 man g 16 0 2 = im 21 (5 * 0 + man) 0 from e21 0]; omega
          · rw [show lookM im2 0 man g 17 0 3 = im 21 (5 * 0 + man) 1 from e21 1]; omega
          · rw [show lookM im2 0 man g 17 0 0 = im 22 (5 * 0 + man) g from e22 g, show lookM im2 0 man g 16 0 3 = im 23 (5 * 0 + man) g from e23 g]; exact hga g (by omega)
          · rw [show lookM im2 0 man g 16 0 4 = im 18 0 4 from e18 4]; omega
        have hagl : ag [5, 16, 17] (lookM im2 0 man g) im := ((look_ag im2 0 man g).mono (by decide)).trans hag2
        refine q_iload_n (t := 25) F dX8_firstOtherwise_24 rfl rfl rfl ?_
        refine q_iconst (t := 26) F dX8_firstOtherwise_25 rfl ?_
        refine q_icmp_ne (t := 29) (u := 38) F dX8_firstOtherwise_26 (by first | exact hR _ _ _ | (constructor <;> omega)) (by first | exact hR _ _ _ | (constructor <;> omega)) (by decide) rfl (fun c26 => ?_) (fun c26 => ?_)
        · refine q_iload_n (t := 39) F dX8_firstOtherwise_38 rfl rfl rfl ?_
          refine q_iconst (t := 40) F dX8_firstOtherwise_39 rfl ?_
          refine q_icmp_ne (t := 43) (u := 54) F dX8_firstOtherwise_40 (by first | exact hR _ _ _ | (constructor <;> omega)) (by first | exact hR _ _ _ | (constructor <;> omega)) (by decide) rfl (fun c40 => ?_) (fun c40 => ?_)
          · refine q_iload_n (t := 55) F dX8_firstOtherwise_54 rfl rfl rfl ?_
            refine q_iconst (t := 56) F dX8_firstOtherwise_55 rfl ?_
            refine q_icmp_ne (t := 59) (u := 85) F dX8_firstOtherwise_56 (by first | exact hR _ _ _ | (constructor <;> omega)) (by first | exact hR _ _ _ | (constructor <;> omega)) (by decide) rfl (fun c56 => ?_) (fun c56 => ?_)
            · refine q_aload_n (t := 86) F dX8_firstOtherwise_85 rfl rfl rfl ?_
              refine g_X8_42 (t := 89) F dX8_firstOtherwise_86 rfl rfl ?_
              refine q_bipush (t := 91) F dX8_firstOtherwise_89 (by decide) rfl ?_
              refine wp_callV (t := 94) [_] F dX8_firstOtherwise_91 k_X0_goesOffIn v_X0_goesOffIn ml_X8_181 rfl rfl rfl rfl (Nat.le_of_ble_eq_true rfl) (by decide) (m_16 (by omega)) (c_goZ _ G _ _ rt lm (by repeat' first | exact hBl | refine BZ_kind ?_ (by omega) | refine BZ_num ?_ (by omega) | exact BZ_text (bt := (im2 18 0 7).toNat) (by repeat' first | exact hBl | refine BZ_kind ?_ (by omega) | refine BZ_num ?_ (by omega)) (by omega) (goodT_congr (fun s => rfl) (fun s => rfl) (eT _ (by omega))))) rfl (kI ?_)
              rintro x91 m' ⟨hxi, im3, hR3, hag3, rfl⟩
              have hag3 : ag [5, 16, 17] im3 im := (hag3.mono (by decide)).trans (by repeat' first | exact hagl | refine ag_up ?_ (by decide))
              refine q_aload_n (t := 95) F dX8_firstOtherwise_94 rfl rfl rfl ?_
              refine g_X8_232 (t := 98) F dX8_firstOtherwise_95 rfl (by omega) rfl ?_
              refine q_iload (t := 100) F dX8_firstOtherwise_98 rfl rfl ?_
              first | refine ldN_8 (t := 101) F dX8_firstOtherwise_100 (by omega) (by omega) rfl ?_ | refine ld_8 (t := 101) F dX8_firstOtherwise_100 (by omega) (by omega) (by omega) rfl ?_
              try simp only [up_app, row_app, scr_app, cpy_app, Nat.reduceEqDiff, Int.reduceToNat, Int.toNat_natCast, and_true, true_and, and_false, false_and, and_self, reduceIte]
              refine q_icmp_eq (t := 104) (u := 107) F dX8_firstOtherwise_101 (by constructor <;> omega) (by exact hR3 _ _ _) (by decide) rfl (fun c101 => ?_) (fun c101 => ?_)
              · refine q_iinc (t := 110) F dX8_firstOtherwise_107 rfl (by decide) rfl rfl ?_
                refine q_goto (t := 3) F dX8_firstOtherwise_110 (by decide) ?_
                try rw [show ((oth.toNat : Nat) : Int) = oth by omega]
                exact ih3 (g + 1) im3 _ (by omega) (by omega) (by first | exact hBl.1 | omega) hR3 hag3
              · refine q_iload (t := 106) F dX8_firstOtherwise_104 rfl rfl ?_
                refine q_iret F dX8_firstOtherwise_106 rfl ?_
                exact ⟨_, rfl, (by constructor <;> omega), im3, _, (by first | exact hBl.1 | omega), hR3, hag3, rfl⟩
            · refine q_iload (t := 61) F dX8_firstOtherwise_59 rfl rfl ?_
              refine q_aload_n (t := 62) F dX8_firstOtherwise_61 rfl rfl rfl ?_
              refine g_X8_81 (t := 65) F dX8_firstOtherwise_62 rfl rfl ?_
              try simp only [up_app, row_app, scr_app, cpy_app, Nat.reduceEqDiff, Int.reduceToNat, Int.toNat_natCast, and_true, true_and, and_false, false_and, and_self, reduceIte]
              refine wp_callS (t := 68) [_, _] F dX8_firstOtherwise_65 k_X8_within st_X8_within ml_X8_95 rfl rfl (Nat.le_of_ble_eq_true rfl) (by decide) (c_X8_within _ G _ _ rt lm oth (im2 0 0 8) hoth (hR2 _ _ _)) rfl (kI ?_)
              rintro x65 m' ⟨hx65, rfl⟩
              have hx65 := if01 hx65
              refine q_if_eq (t := 71) (u := 85) F dX8_firstOtherwise_68 (by first | exact hR _ _ _ | (constructor <;> omega)) (by decide) rfl (fun c68 => ?_) (fun c68 => ?_)
              · refine q_aload_n (t := 86) F dX8_firstOtherwise_85 rfl rfl rfl ?_
                refine g_X8_42 (t := 89) F dX8_firstOtherwise_86 rfl rfl ?_
                refine q_bipush (t := 91) F dX8_firstOtherwise_89 (by decide) rfl ?_
                refine wp_callV (t := 94) [_] F dX8_firstOtherwise_91 k_X0_goesOffIn v_X0_goesOffIn ml_X8_181 rfl rfl rfl rfl (Nat.le_of_ble_eq_true rfl) (by decide) (m_16 (by omega)) (c_goZ _ G _ _ rt lm (by repeat' first | exact hBl | refine BZ_kind ?_ (by omega) | refine BZ_num ?_ (by omega) | exact BZ_text (bt := (im2 18 0 7).toNat) (by repeat' first | exact hBl | refine BZ_kind ?_ (by omega) | refine BZ_num ?_ (by omega)) (by omega) (goodT_congr (fun s => rfl) (fun s => rfl) (eT _ (by omega))))) rfl (kI ?_)
                rintro x91 m' ⟨hxi, im3, hR3, hag3, rfl⟩
                have hag3 : ag [5, 16, 17] im3 im := (hag3.mono (by decide)).trans (by repeat' first | exact hagl | refine ag_up ?_ (by decide))
                refine q_aload_n (t := 95) F dX8_firstOtherwise_94 rfl rfl rfl ?_
                refine g_X8_232 (t := 98) F dX8_firstOtherwise_95 rfl (by omega) rfl ?_
                refine q_iload (t := 100) F dX8_firstOtherwise_98 rfl rfl ?_
                first | refine ldN_8 (t := 101) F dX8_firstOtherwise_100 (by omega) (by omega) rfl ?_ | refine ld_8 (t := 101) F dX8_firstOtherwise_100 (by omega) (by omega) (by omega) rfl ?_
                try simp only [up_app, row_app, scr_app, cpy_app, Nat.reduceEqDiff, Int.reduceToNat, Int.toNat_natCast, and_true, true_and, and_false, false_and, and_self, reduceIte]
                refine q_icmp_eq (t := 104) (u := 107) F dX8_firstOtherwise_101 (by constructor <;> omega) (by exact hR3 _ _ _) (by decide) rfl (fun c101 => ?_) (fun c101 => ?_)
                · refine q_iinc (t := 110) F dX8_firstOtherwise_107 rfl (by decide) rfl rfl ?_
                  refine q_goto (t := 3) F dX8_firstOtherwise_110 (by decide) ?_
                  try rw [show ((oth.toNat : Nat) : Int) = oth by omega]
                  exact ih3 (g + 1) im3 _ (by omega) (by omega) (by first | exact hBl.1 | omega) hR3 hag3
                · refine q_iload (t := 106) F dX8_firstOtherwise_104 rfl rfl ?_
                  refine q_iret F dX8_firstOtherwise_106 rfl ?_
                  exact ⟨_, rfl, (by constructor <;> omega), im3, _, (by first | exact hBl.1 | omega), hR3, hag3, rfl⟩
              · refine q_aload_n (t := 72) F dX8_firstOtherwise_71 rfl rfl rfl ?_
                refine g_X8_42 (t := 75) F dX8_firstOtherwise_72 rfl rfl ?_
                refine q_aload_n (t := 76) F dX8_firstOtherwise_75 rfl rfl rfl ?_
                refine g_X8_11 (t := 79) F dX8_firstOtherwise_76 rfl rfl ?_
                refine q_iload (t := 81) F dX8_firstOtherwise_79 rfl rfl ?_
                rw [show oth = ((oth.toNat : Nat) : Int) by omega]
                first | refine laN_1 (t := 82) F dX8_firstOtherwise_81 (by omega) rfl ?_ | refine la_1 (t := 82) F dX8_firstOtherwise_81 (by omega) (by omega) rfl ?_
                refine p_X8_259 (t := 85) F dX8_firstOtherwise_82 rfl rfl ?_
                refine q_aload_n (t := 86) F dX8_firstOtherwise_85 rfl rfl rfl ?_
                refine g_X8_42 (t := 89) F dX8_firstOtherwise_86 rfl rfl ?_
                refine q_bipush (t := 91) F dX8_firstOtherwise_89 (by decide) rfl ?_
                refine wp_callV (t := 94) [_] F dX8_firstOtherwise_91 k_X0_goesOffIn v_X0_goesOffIn ml_X8_181 rfl rfl rfl rfl (Nat.le_of_ble_eq_true rfl) (by decide) (m_16 (by omega)) (c_goZ _ G _ _ rt lm (by repeat' first | exact hBl | refine BZ_kind ?_ (by omega) | refine BZ_num ?_ (by omega) | exact BZ_text (bt := (im2 18 0 7).toNat) (by repeat' first | exact hBl | refine BZ_kind ?_ (by omega) | refine BZ_num ?_ (by omega)) (by omega) (goodT_congr (fun s => rfl) (fun s => rfl) (eT _ (by omega))))) rfl (kI ?_)
                rintro x91 m' ⟨hxi, im3, hR3, hag3, rfl⟩
                have hag3 : ag [5, 16, 17] im3 im := (hag3.mono (by decide)).trans (by repeat' first | exact hagl | refine ag_up ?_ (by decide))
                refine q_aload_n (t := 95) F dX8_firstOtherwise_94 rfl rfl rfl ?_
                refine g_X8_232 (t := 98) F dX8_firstOtherwise_95 rfl (by omega) rfl ?_
                refine q_iload (t := 100) F dX8_firstOtherwise_98 rfl rfl ?_
                first | refine ldN_8 (t := 101) F dX8_firstOtherwise_100 (by omega) (by omega) rfl ?_ | refine ld_8 (t := 101) F dX8_firstOtherwise_100 (by omega) (by omega) (by omega) rfl ?_
                try simp only [up_app, row_app, scr_app, cpy_app, Nat.reduceEqDiff, Int.reduceToNat, Int.toNat_natCast, and_true, true_and, and_false, false_and, and_self, reduceIte]
                refine q_icmp_eq (t := 104) (u := 107) F dX8_firstOtherwise_101 (by constructor <;> omega) (by exact hR3 _ _ _) (by decide) rfl (fun c101 => ?_) (fun c101 => ?_)
                · refine q_iinc (t := 110) F dX8_firstOtherwise_107 rfl (by decide) rfl rfl ?_
                  refine q_goto (t := 3) F dX8_firstOtherwise_110 (by decide) ?_
                  try rw [show ((oth.toNat : Nat) : Int) = oth by omega]
                  exact ih3 (g + 1) im3 _ (by omega) (by omega) (by first | exact hBl.1 | omega) hR3 hag3
                · refine q_iload (t := 106) F dX8_firstOtherwise_104 rfl rfl ?_
                  refine q_iret F dX8_firstOtherwise_106 rfl ?_
                  exact ⟨_, rfl, (by constructor <;> omega), im3, _, (by first | exact hBl.1 | omega), hR3, hag3, rfl⟩
          · refine q_aload_n (t := 44) F dX8_firstOtherwise_43 rfl rfl rfl ?_
            refine g_X8_42 (t := 47) F dX8_firstOtherwise_44 rfl rfl ?_
            refine g_X8_199 (t := 50) F dX8_firstOtherwise_47 rfl rfl ?_
            refine q_iconst (t := 51) F dX8_firstOtherwise_50 rfl ?_
            refine q_iload (t := 53) F dX8_firstOtherwise_51 rfl rfl ?_
            refine stN_17 (t := 54) (j := 3) F dX8_firstOtherwise_53 (by omega) rfl ?_
            refine q_iload_n (t := 55) F dX8_firstOtherwise_54 rfl rfl rfl ?_
            refine q_iconst (t := 56) F dX8_firstOtherwise_55 rfl ?_
            refine q_icmp_ne (t := 59) (u := 85) F dX8_firstOtherwise_56 (by first | exact hR _ _ _ | (constructor <;> omega)) (by first | exact hR _ _ _ | (constructor <;> omega)) (by decide) rfl (fun c56 => ?_) (fun c56 => ?_)
            · refine q_aload_n (t := 86) F dX8_firstOtherwise_85 rfl rfl rfl ?_
              refine g_X8_42 (t := 89) F dX8_firstOtherwise_86 rfl rfl ?_
              refine q_bipush (t := 91) F dX8_firstOtherwise_89 (by decide) rfl ?_
              refine wp_callV (t := 94) [_] F dX8_firstOtherwise_91 k_X0_goesOffIn v_X0_goesOffIn ml_X8_181 rfl rfl rfl rfl (Nat.le_of_ble_eq_true rfl) (by decide) (m_16 (by omega)) (c_goZ _ G _ _ rt lm (by repeat' first | exact hBl | refine BZ_kind ?_ (by omega) | refine BZ_num ?_ (by omega) | exact BZ_text (bt := (im2 18 0 7).toNat) (by repeat' first | exact hBl | refine BZ_kind ?_ (by omega) | refine BZ_num ?_ (by omega)) (by omega) (goodT_congr (fun s => rfl) (fun s => rfl) (eT _ (by omega))))) rfl (kI ?_)
              rintro x91 m' ⟨hxi, im3, hR3, hag3, rfl⟩
              have hag3 : ag [5, 16, 17] im3 im := (hag3.mono (by decide)).trans (by repeat' first | exact hagl | refine ag_up ?_ (by decide))
              refine q_aload_n (t := 95) F dX8_firstOtherwise_94 rfl rfl rfl ?_
              refine g_X8_232 (t := 98) F dX8_firstOtherwise_95 rfl (by omega) rfl ?_
              refine q_iload (t := 100) F dX8_firstOtherwise_98 rfl rfl ?_
              first | refine ldN_8 (t := 101) F dX8_firstOtherwise_100 (by omega) (by omega) rfl ?_ | refine ld_8 (t := 101) F dX8_firstOtherwise_100 (by omega) (by omega) (by omega) rfl ?_
              try simp only [up_app, row_app, scr_app, cpy_app, Nat.reduceEqDiff, Int.reduceToNat, Int.toNat_natCast, and_true, true_and, and_false, false_and, and_self, reduceIte]
              refine q_icmp_eq (t := 104) (u := 107) F dX8_firstOtherwise_101 (by constructor <;> omega) (by exact hR3 _ _ _) (by decide) rfl (fun c101 => ?_) (fun c101 => ?_)
              · refine q_iinc (t := 110) F dX8_firstOtherwise_107 rfl (by decide) rfl rfl ?_
                refine q_goto (t := 3) F dX8_firstOtherwise_110 (by decide) ?_
                try rw [show ((oth.toNat : Nat) : Int) = oth by omega]
                exact ih3 (g + 1) im3 _ (by omega) (by omega) (by first | exact hBl.1 | omega) hR3 hag3
              · refine q_iload (t := 106) F dX8_firstOtherwise_104 rfl rfl ?_
                refine q_iret F dX8_firstOtherwise_106 rfl ?_
                exact ⟨_, rfl, (by constructor <;> omega), im3, _, (by first | exact hBl.1 | omega), hR3, hag3, rfl⟩
            · refine q_iload (t := 61) F dX8_firstOtherwise_59 rfl rfl ?_
              refine q_aload_n (t := 62) F dX8_firstOtherwise_61 rfl rfl rfl ?_
              refine g_X8_81 (t := 65) F dX8_firstOtherwise_62 rfl rfl ?_
              try simp only [up_app, row_app, scr_app, cpy_app, Nat.reduceEqDiff, Int.reduceToNat, Int.toNat_natCast, and_true, true_and, and_false, false_and, and_self, reduceIte]
              refine wp_callS (t := 68) [_, _] F dX8_firstOtherwise_65 k_X8_within st_X8_within ml_X8_95 rfl rfl (Nat.le_of_ble_eq_true rfl) (by decide) (c_X8_within _ G _ _ rt lm oth (im2 0 0 8) hoth (hR2 _ _ _)) rfl (kI ?_)
              rintro x65 m' ⟨hx65, rfl⟩
              have hx65 := if01 hx65
              refine q_if_eq (t := 71) (u := 85) F dX8_firstOtherwise_68 (by first | exact hR _ _ _ | (constructor <;> omega)) (by decide) rfl (fun c68 => ?_) (fun c68 => ?_)
              · refine q_aload_n (t := 86) F dX8_firstOtherwise_85 rfl rfl rfl ?_
                refine g_X8_42 (t := 89) F dX8_firstOtherwise_86 rfl rfl ?_
                refine q_bipush (t := 91) F dX8_firstOtherwise_89 (by decide) rfl ?_
                refine wp_callV (t := 94) [_] F dX8_firstOtherwise_91 k_X0_goesOffIn v_X0_goesOffIn ml_X8_181 rfl rfl rfl rfl (Nat.le_of_ble_eq_true rfl) (by decide) (m_16 (by omega)) (c_goZ _ G _ _ rt lm (by repeat' first | exact hBl | refine BZ_kind ?_ (by omega) | refine BZ_num ?_ (by omega) | exact BZ_text (bt := (im2 18 0 7).toNat) (by repeat' first | exact hBl | refine BZ_kind ?_ (by omega) | refine BZ_num ?_ (by omega)) (by omega) (goodT_congr (fun s => rfl) (fun s => rfl) (eT _ (by omega))))) rfl (kI ?_)
                rintro x91 m' ⟨hxi, im3, hR3, hag3, rfl⟩
                have hag3 : ag [5, 16, 17] im3 im := (hag3.mono (by decide)).trans (by repeat' first | exact hagl | refine ag_up ?_ (by decide))
                refine q_aload_n (t := 95) F dX8_firstOtherwise_94 rfl rfl rfl ?_
                refine g_X8_232 (t := 98) F dX8_firstOtherwise_95 rfl (by omega) rfl ?_
                refine q_iload (t := 100) F dX8_firstOtherwise_98 rfl rfl ?_
                first | refine ldN_8 (t := 101) F dX8_firstOtherwise_100 (by omega) (by omega) rfl ?_ | refine ld_8 (t := 101) F dX8_firstOtherwise_100 (by omega) (by omega) (by omega) rfl ?_
                try simp only [up_app, row_app, scr_app, cpy_app, Nat.reduceEqDiff, Int.reduceToNat, Int.toNat_natCast, and_true, true_and, and_false, false_and, and_self, reduceIte]
                refine q_icmp_eq (t := 104) (u := 107) F dX8_firstOtherwise_101 (by constructor <;> omega) (by exact hR3 _ _ _) (by decide) rfl (fun c101 => ?_) (fun c101 => ?_)
                · refine q_iinc (t := 110) F dX8_firstOtherwise_107 rfl (by decide) rfl rfl ?_
                  refine q_goto (t := 3) F dX8_firstOtherwise_110 (by decide) ?_
                  try rw [show ((oth.toNat : Nat) : Int) = oth by omega]
                  exact ih3 (g + 1) im3 _ (by omega) (by omega) (by first | exact hBl.1 | omega) hR3 hag3
                · refine q_iload (t := 106) F dX8_firstOtherwise_104 rfl rfl ?_
                  refine q_iret F dX8_firstOtherwise_106 rfl ?_
                  exact ⟨_, rfl, (by constructor <;> omega), im3, _, (by first | exact hBl.1 | omega), hR3, hag3, rfl⟩
              · refine q_aload_n (t := 72) F dX8_firstOtherwise_71 rfl rfl rfl ?_
                refine g_X8_42 (t := 75) F dX8_firstOtherwise_72 rfl rfl ?_
                refine q_aload_n (t := 76) F dX8_firstOtherwise_75 rfl rfl rfl ?_
                refine g_X8_11 (t := 79) F dX8_firstOtherwise_76 rfl rfl ?_
                refine q_iload (t := 81) F dX8_firstOtherwise_79 rfl rfl ?_
                rw [show oth = ((oth.toNat : Nat) : Int) by omega]
                first | refine laN_1 (t := 82) F dX8_firstOtherwise_81 (by omega) rfl ?_ | refine la_1 (t := 82) F dX8_firstOtherwise_81 (by omega) (by omega) rfl ?_
                refine p_X8_259 (t := 85) F dX8_firstOtherwise_82 rfl rfl ?_
                refine q_aload_n (t := 86) F dX8_firstOtherwise_85 rfl rfl rfl ?_
                refine g_X8_42 (t := 89) F dX8_firstOtherwise_86 rfl rfl ?_
                refine q_bipush (t := 91) F dX8_firstOtherwise_89 (by decide) rfl ?_
                refine wp_callV (t := 94) [_] F dX8_firstOtherwise_91 k_X0_goesOffIn v_X0_goesOffIn ml_X8_181 rfl rfl rfl rfl (Nat.le_of_ble_eq_true rfl) (by decide) (m_16 (by omega)) (c_goZ _ G _ _ rt lm (by repeat' first | exact hBl | refine BZ_kind ?_ (by omega) | refine BZ_num ?_ (by omega) | exact BZ_text (bt := (im2 18 0 7).toNat) (by repeat' first | exact hBl | refine BZ_kind ?_ (by omega) | refine BZ_num ?_ (by omega)) (by omega) (goodT_congr (fun s => rfl) (fun s => rfl) (eT _ (by omega))))) rfl (kI ?_)
                rintro x91 m' ⟨hxi, im3, hR3, hag3, rfl⟩
                have hag3 : ag [5, 16, 17] im3 im := (hag3.mono (by decide)).trans (by repeat' first | exact hagl | refine ag_up ?_ (by decide))
                refine q_aload_n (t := 95) F dX8_firstOtherwise_94 rfl rfl rfl ?_
                refine g_X8_232 (t := 98) F dX8_firstOtherwise_95 rfl (by omega) rfl ?_
                refine q_iload (t := 100) F dX8_firstOtherwise_98 rfl rfl ?_
                first | refine ldN_8 (t := 101) F dX8_firstOtherwise_100 (by omega) (by omega) rfl ?_ | refine ld_8 (t := 101) F dX8_firstOtherwise_100 (by omega) (by omega) (by omega) rfl ?_
                try simp only [up_app, row_app, scr_app, cpy_app, Nat.reduceEqDiff, Int.reduceToNat, Int.toNat_natCast, and_true, true_and, and_false, false_and, and_self, reduceIte]
                refine q_icmp_eq (t := 104) (u := 107) F dX8_firstOtherwise_101 (by constructor <;> omega) (by exact hR3 _ _ _) (by decide) rfl (fun c101 => ?_) (fun c101 => ?_)
                · refine q_iinc (t := 110) F dX8_firstOtherwise_107 rfl (by decide) rfl rfl ?_
                  refine q_goto (t := 3) F dX8_firstOtherwise_110 (by decide) ?_
                  try rw [show ((oth.toNat : Nat) : Int) = oth by omega]
                  exact ih3 (g + 1) im3 _ (by omega) (by omega) (by first | exact hBl.1 | omega) hR3 hag3
                · refine q_iload (t := 106) F dX8_firstOtherwise_104 rfl rfl ?_
                  refine q_iret F dX8_firstOtherwise_106 rfl ?_
                  exact ⟨_, rfl, (by constructor <;> omega), im3, _, (by first | exact hBl.1 | omega), hR3, hag3, rfl⟩
        · refine q_aload_n (t := 30) F dX8_firstOtherwise_29 rfl rfl rfl ?_
          refine g_X8_42 (t := 33) F dX8_firstOtherwise_30 rfl rfl ?_
          refine q_iload (t := 35) F dX8_firstOtherwise_33 rfl rfl ?_
          refine p_X8_258 (t := 38) F dX8_firstOtherwise_35 rfl rfl ?_
          refine q_iload_n (t := 39) F dX8_firstOtherwise_38 rfl rfl rfl ?_
          refine q_iconst (t := 40) F dX8_firstOtherwise_39 rfl ?_
          refine q_icmp_ne (t := 43) (u := 54) F dX8_firstOtherwise_40 (by first | exact hR _ _ _ | (constructor <;> omega)) (by first | exact hR _ _ _ | (constructor <;> omega)) (by decide) rfl (fun c40 => ?_) (fun c40 => ?_)
          · refine q_iload_n (t := 55) F dX8_firstOtherwise_54 rfl rfl rfl ?_
            refine q_iconst (t := 56) F dX8_firstOtherwise_55 rfl ?_
            refine q_icmp_ne (t := 59) (u := 85) F dX8_firstOtherwise_56 (by first | exact hR _ _ _ | (constructor <;> omega)) (by first | exact hR _ _ _ | (constructor <;> omega)) (by decide) rfl (fun c56 => ?_) (fun c56 => ?_)
            · refine q_aload_n (t := 86) F dX8_firstOtherwise_85 rfl rfl rfl ?_
              refine g_X8_42 (t := 89) F dX8_firstOtherwise_86 rfl rfl ?_
              refine q_bipush (t := 91) F dX8_firstOtherwise_89 (by decide) rfl ?_
              refine wp_callV (t := 94) [_] F dX8_firstOtherwise_91 k_X0_goesOffIn v_X0_goesOffIn ml_X8_181 rfl rfl rfl rfl (Nat.le_of_ble_eq_true rfl) (by decide) (m_16 (by omega)) (c_goZ _ G _ _ rt lm (by repeat' first | exact hBl | refine BZ_kind ?_ (by omega) | refine BZ_num ?_ (by omega) | exact BZ_text (bt := (im2 18 0 7).toNat) (by repeat' first | exact hBl | refine BZ_kind ?_ (by omega) | refine BZ_num ?_ (by omega)) (by omega) (goodT_congr (fun s => rfl) (fun s => rfl) (eT _ (by omega))))) rfl (kI ?_)
              rintro x91 m' ⟨hxi, im3, hR3, hag3, rfl⟩
              have hag3 : ag [5, 16, 17] im3 im := (hag3.mono (by decide)).trans (by repeat' first | exact hagl | refine ag_up ?_ (by decide))
              refine q_aload_n (t := 95) F dX8_firstOtherwise_94 rfl rfl rfl ?_
              refine g_X8_232 (t := 98) F dX8_firstOtherwise_95 rfl (by omega) rfl ?_
              refine q_iload (t := 100) F dX8_firstOtherwise_98 rfl rfl ?_
              first | refine ldN_8 (t := 101) F dX8_firstOtherwise_100 (by omega) (by omega) rfl ?_ | refine ld_8 (t := 101) F dX8_firstOtherwise_100 (by omega) (by omega) (by omega) rfl ?_
              try simp only [up_app, row_app, scr_app, cpy_app, Nat.reduceEqDiff, Int.reduceToNat, Int.toNat_natCast, and_true, true_and, and_false, false_and, and_self, reduceIte]
              refine q_icmp_eq (t := 104) (u := 107) F dX8_firstOtherwise_101 (by constructor <;> omega) (by exact hR3 _ _ _) (by decide) rfl (fun c101 => ?_) (fun c101 => ?_)
              · refine q_iinc (t := 110) F dX8_firstOtherwise_107 rfl (by decide) rfl rfl ?_
                refine q_goto (t := 3) F dX8_firstOtherwise_110 (by decide) ?_
                try rw [show ((oth.toNat : Nat) : Int) = oth by omega]
                exact ih3 (g + 1) im3 _ (by omega) (by omega) (by first | exact hBl.1 | omega) hR3 hag3
              · refine q_iload (t := 106) F dX8_firstOtherwise_104 rfl rfl ?_
                refine q_iret F dX8_firstOtherwise_106 rfl ?_
                exact ⟨_, rfl, (by constructor <;> omega), im3, _, (by first | exact hBl.1 | omega), hR3, hag3, rfl⟩
            · refine q_iload (t := 61) F dX8_firstOtherwise_59 rfl rfl ?_
              refine q_aload_n (t := 62) F dX8_firstOtherwise_61 rfl rfl rfl ?_
              refine g_X8_81 (t := 65) F dX8_firstOtherwise_62 rfl rfl ?_
              try simp only [up_app, row_app, scr_app, cpy_app, Nat.reduceEqDiff, Int.reduceToNat, Int.toNat_natCast, and_true, true_and, and_false, false_and, and_self, reduceIte]
              refine wp_callS (t := 68) [_, _] F dX8_firstOtherwise_65 k_X8_within st_X8_within ml_X8_95 rfl rfl (Nat.le_of_ble_eq_true rfl) (by decide) (c_X8_within _ G _ _ rt lm oth (im2 0 0 8) hoth (hR2 _ _ _)) rfl (kI ?_)
              rintro x65 m' ⟨hx65, rfl⟩
              have hx65 := if01 hx65
              refine q_if_eq (t := 71) (u := 85) F dX8_firstOtherwise_68 (by first | exact hR _ _ _ | (constructor <;> omega)) (by decide) rfl (fun c68 => ?_) (fun c68 => ?_)
              · refine q_aload_n (t := 86) F dX8_firstOtherwise_85 rfl rfl rfl ?_
                refine g_X8_42 (t := 89) F dX8_firstOtherwise_86 rfl rfl ?_
                refine q_bipush (t := 91) F dX8_firstOtherwise_89 (by decide) rfl ?_
                refine wp_callV (t := 94) [_] F dX8_firstOtherwise_91 k_X0_goesOffIn v_X0_goesOffIn ml_X8_181 rfl rfl rfl rfl (Nat.le_of_ble_eq_true rfl) (by decide) (m_16 (by omega)) (c_goZ _ G _ _ rt lm (by repeat' first | exact hBl | refine BZ_kind ?_ (by omega) | refine BZ_num ?_ (by omega) | exact BZ_text (bt := (im2 18 0 7).toNat) (by repeat' first | exact hBl | refine BZ_kind ?_ (by omega) | refine BZ_num ?_ (by omega)) (by omega) (goodT_congr (fun s => rfl) (fun s => rfl) (eT _ (by omega))))) rfl (kI ?_)
                rintro x91 m' ⟨hxi, im3, hR3, hag3, rfl⟩
                have hag3 : ag [5, 16, 17] im3 im := (hag3.mono (by decide)).trans (by repeat' first | exact hagl | refine ag_up ?_ (by decide))
                refine q_aload_n (t := 95) F dX8_firstOtherwise_94 rfl rfl rfl ?_
                refine g_X8_232 (t := 98) F dX8_firstOtherwise_95 rfl (by omega) rfl ?_
                refine q_iload (t := 100) F dX8_firstOtherwise_98 rfl rfl ?_
                first | refine ldN_8 (t := 101) F dX8_firstOtherwise_100 (by omega) (by omega) rfl ?_ | refine ld_8 (t := 101) F dX8_firstOtherwise_100 (by omega) (by omega) (by omega) rfl ?_
                try simp only [up_app, row_app, scr_app, cpy_app, Nat.reduceEqDiff, Int.reduceToNat, Int.toNat_natCast, and_true, true_and, and_false, false_and, and_self, reduceIte]
                refine q_icmp_eq (t := 104) (u := 107) F dX8_firstOtherwise_101 (by constructor <;> omega) (by exact hR3 _ _ _) (by decide) rfl (fun c101 => ?_) (fun c101 => ?_)
                · refine q_iinc (t := 110) F dX8_firstOtherwise_107 rfl (by decide) rfl rfl ?_
                  refine q_goto (t := 3) F dX8_firstOtherwise_110 (by decide) ?_
                  try rw [show ((oth.toNat : Nat) : Int) = oth by omega]
                  exact ih3 (g + 1) im3 _ (by omega) (by omega) (by first | exact hBl.1 | omega) hR3 hag3
                · refine q_iload (t := 106) F dX8_firstOtherwise_104 rfl rfl ?_
                  refine q_iret F dX8_firstOtherwise_106 rfl ?_
                  exact ⟨_, rfl, (by constructor <;> omega), im3, _, (by first | exact hBl.1 | omega), hR3, hag3, rfl⟩
              · refine q_aload_n (t := 72) F dX8_firstOtherwise_71 rfl rfl rfl ?_
                refine g_X8_42 (t := 75) F dX8_firstOtherwise_72 rfl rfl ?_
                refine q_aload_n (t := 76) F dX8_firstOtherwise_75 rfl rfl rfl ?_
                refine g_X8_11 (t := 79) F dX8_firstOtherwise_76 rfl rfl ?_
                refine q_iload (t := 81) F dX8_firstOtherwise_79 rfl rfl ?_
                rw [show oth = ((oth.toNat : Nat) : Int) by omega]
                first | refine laN_1 (t := 82) F dX8_firstOtherwise_81 (by omega) rfl ?_ | refine la_1 (t := 82) F dX8_firstOtherwise_81 (by omega) (by omega) rfl ?_
                refine p_X8_259 (t := 85) F dX8_firstOtherwise_82 rfl rfl ?_
                refine q_aload_n (t := 86) F dX8_firstOtherwise_85 rfl rfl rfl ?_
                refine g_X8_42 (t := 89) F dX8_firstOtherwise_86 rfl rfl ?_
                refine q_bipush (t := 91) F dX8_firstOtherwise_89 (by decide) rfl ?_
                refine wp_callV (t := 94) [_] F dX8_firstOtherwise_91 k_X0_goesOffIn v_X0_goesOffIn ml_X8_181 rfl rfl rfl rfl (Nat.le_of_ble_eq_true rfl) (by decide) (m_16 (by omega)) (c_goZ _ G _ _ rt lm (by repeat' first | exact hBl | refine BZ_kind ?_ (by omega) | refine BZ_num ?_ (by omega) | exact BZ_text (bt := (im2 18 0 7).toNat) (by repeat' first | exact hBl | refine BZ_kind ?_ (by omega) | refine BZ_num ?_ (by omega)) (by omega) (goodT_congr (fun s => rfl) (fun s => rfl) (eT _ (by omega))))) rfl (kI ?_)
                rintro x91 m' ⟨hxi, im3, hR3, hag3, rfl⟩
                have hag3 : ag [5, 16, 17] im3 im := (hag3.mono (by decide)).trans (by repeat' first | exact hagl | refine ag_up ?_ (by decide))
                refine q_aload_n (t := 95) F dX8_firstOtherwise_94 rfl rfl rfl ?_
                refine g_X8_232 (t := 98) F dX8_firstOtherwise_95 rfl (by omega) rfl ?_
                refine q_iload (t := 100) F dX8_firstOtherwise_98 rfl rfl ?_
                first | refine ldN_8 (t := 101) F dX8_firstOtherwise_100 (by omega) (by omega) rfl ?_ | refine ld_8 (t := 101) F dX8_firstOtherwise_100 (by omega) (by omega) (by omega) rfl ?_
                try simp only [up_app, row_app, scr_app, cpy_app, Nat.reduceEqDiff, Int.reduceToNat, Int.toNat_natCast, and_true, true_and, and_false, false_and, and_self, reduceIte]
                refine q_icmp_eq (t := 104) (u := 107) F dX8_firstOtherwise_101 (by constructor <;> omega) (by exact hR3 _ _ _) (by decide) rfl (fun c101 => ?_) (fun c101 => ?_)
                · refine q_iinc (t := 110) F dX8_firstOtherwise_107 rfl (by decide) rfl rfl ?_
                  refine q_goto (t := 3) F dX8_firstOtherwise_110 (by decide) ?_
                  try rw [show ((oth.toNat : Nat) : Int) = oth by omega]
                  exact ih3 (g + 1) im3 _ (by omega) (by omega) (by first | exact hBl.1 | omega) hR3 hag3
                · refine q_iload (t := 106) F dX8_firstOtherwise_104 rfl rfl ?_
                  refine q_iret F dX8_firstOtherwise_106 rfl ?_
                  exact ⟨_, rfl, (by constructor <;> omega), im3, _, (by first | exact hBl.1 | omega), hR3, hag3, rfl⟩
          · refine q_aload_n (t := 44) F dX8_firstOtherwise_43 rfl rfl rfl ?_
            refine g_X8_42 (t := 47) F dX8_firstOtherwise_44 rfl rfl ?_
            refine g_X8_199 (t := 50) F dX8_firstOtherwise_47 rfl rfl ?_
            refine q_iconst (t := 51) F dX8_firstOtherwise_50 rfl ?_
            refine q_iload (t := 53) F dX8_firstOtherwise_51 rfl rfl ?_
            refine stN_17 (t := 54) (j := 3) F dX8_firstOtherwise_53 (by omega) rfl ?_
            refine q_iload_n (t := 55) F dX8_firstOtherwise_54 rfl rfl rfl ?_
            refine q_iconst (t := 56) F dX8_firstOtherwise_55 rfl ?_
            refine q_icmp_ne (t := 59) (u := 85) F dX8_firstOtherwise_56 (by first | exact hR _ _ _ | (constructor <;> omega)) (by first | exact hR _ _ _ | (constructor <;> omega)) (by decide) rfl (fun c56 => ?_) (fun c56 => ?_)
            · refine q_aload_n (t := 86) F dX8_firstOtherwise_85 rfl rfl rfl ?_
              refine g_X8_42 (t := 89) F dX8_firstOtherwise_86 rfl rfl ?_
              refine q_bipush (t := 91) F dX8_firstOtherwise_89 (by decide) rfl ?_
              refine wp_callV (t := 94) [_] F dX8_firstOtherwise_91 k_X0_goesOffIn v_X0_goesOffIn ml_X8_181 rfl rfl rfl rfl (Nat.le_of_ble_eq_true rfl) (by decide) (m_16 (by omega)) (c_goZ _ G _ _ rt lm (by repeat' first | exact hBl | refine BZ_kind ?_ (by omega) | refine BZ_num ?_ (by omega) | exact BZ_text (bt := (im2 18 0 7).toNat) (by repeat' first | exact hBl | refine BZ_kind ?_ (by omega) | refine BZ_num ?_ (by omega)) (by omega) (goodT_congr (fun s => rfl) (fun s => rfl) (eT _ (by omega))))) rfl (kI ?_)
              rintro x91 m' ⟨hxi, im3, hR3, hag3, rfl⟩
              have hag3 : ag [5, 16, 17] im3 im := (hag3.mono (by decide)).trans (by repeat' first | exact hagl | refine ag_up ?_ (by decide))
              refine q_aload_n (t := 95) F dX8_firstOtherwise_94 rfl rfl rfl ?_
              refine g_X8_232 (t := 98) F dX8_firstOtherwise_95 rfl (by omega) rfl ?_
              refine q_iload (t := 100) F dX8_firstOtherwise_98 rfl rfl ?_
              first | refine ldN_8 (t := 101) F dX8_firstOtherwise_100 (by omega) (by omega) rfl ?_ | refine ld_8 (t := 101) F dX8_firstOtherwise_100 (by omega) (by omega) (by omega) rfl ?_
              try simp only [up_app, row_app, scr_app, cpy_app, Nat.reduceEqDiff, Int.reduceToNat, Int.toNat_natCast, and_true, true_and, and_false, false_and, and_self, reduceIte]
              refine q_icmp_eq (t := 104) (u := 107) F dX8_firstOtherwise_101 (by constructor <;> omega) (by exact hR3 _ _ _) (by decide) rfl (fun c101 => ?_) (fun c101 => ?_)
              · refine q_iinc (t := 110) F dX8_firstOtherwise_107 rfl (by decide) rfl rfl ?_
                refine q_goto (t := 3) F dX8_firstOtherwise_110 (by decide) ?_
                try rw [show ((oth.toNat : Nat) : Int) = oth by omega]
                exact ih3 (g + 1) im3 _ (by omega) (by omega) (by first | exact hBl.1 | omega) hR3 hag3
              · refine q_iload (t := 106) F dX8_firstOtherwise_104 rfl rfl ?_
                refine q_iret F dX8_firstOtherwise_106 rfl ?_
                exact ⟨_, rfl, (by constructor <;> omega), im3, _, (by first | exact hBl.1 | omega), hR3, hag3, rfl⟩
            · refine q_iload (t := 61) F dX8_firstOtherwise_59 rfl rfl ?_
              refine q_aload_n (t := 62) F dX8_firstOtherwise_61 rfl rfl rfl ?_
              refine g_X8_81 (t := 65) F dX8_firstOtherwise_62 rfl rfl ?_
              try simp only [up_app, row_app, scr_app, cpy_app, Nat.reduceEqDiff, Int.reduceToNat, Int.toNat_natCast, and_true, true_and, and_false, false_and, and_self, reduceIte]
              refine wp_callS (t := 68) [_, _] F dX8_firstOtherwise_65 k_X8_within st_X8_within ml_X8_95 rfl rfl (Nat.le_of_ble_eq_true rfl) (by decide) (c_X8_within _ G _ _ rt lm oth (im2 0 0 8) hoth (hR2 _ _ _)) rfl (kI ?_)
              rintro x65 m' ⟨hx65, rfl⟩
              have hx65 := if01 hx65
              refine q_if_eq (t := 71) (u := 85) F dX8_firstOtherwise_68 (by first | exact hR _ _ _ | (constructor <;> omega)) (by decide) rfl (fun c68 => ?_) (fun c68 => ?_)
              · refine q_aload_n (t := 86) F dX8_firstOtherwise_85 rfl rfl rfl ?_
                refine g_X8_42 (t := 89) F dX8_firstOtherwise_86 rfl rfl ?_
                refine q_bipush (t := 91) F dX8_firstOtherwise_89 (by decide) rfl ?_
                refine wp_callV (t := 94) [_] F dX8_firstOtherwise_91 k_X0_goesOffIn v_X0_goesOffIn ml_X8_181 rfl rfl rfl rfl (Nat.le_of_ble_eq_true rfl) (by decide) (m_16 (by omega)) (c_goZ _ G _ _ rt lm (by repeat' first | exact hBl | refine BZ_kind ?_ (by omega) | refine BZ_num ?_ (by omega) | exact BZ_text (bt := (im2 18 0 7).toNat) (by repeat' first | exact hBl | refine BZ_kind ?_ (by omega) | refine BZ_num ?_ (by omega)) (by omega) (goodT_congr (fun s => rfl) (fun s => rfl) (eT _ (by omega))))) rfl (kI ?_)
                rintro x91 m' ⟨hxi, im3, hR3, hag3, rfl⟩
                have hag3 : ag [5, 16, 17] im3 im := (hag3.mono (by decide)).trans (by repeat' first | exact hagl | refine ag_up ?_ (by decide))
                refine q_aload_n (t := 95) F dX8_firstOtherwise_94 rfl rfl rfl ?_
                refine g_X8_232 (t := 98) F dX8_firstOtherwise_95 rfl (by omega) rfl ?_
                refine q_iload (t := 100) F dX8_firstOtherwise_98 rfl rfl ?_
                first | refine ldN_8 (t := 101) F dX8_firstOtherwise_100 (by omega) (by omega) rfl ?_ | refine ld_8 (t := 101) F dX8_firstOtherwise_100 (by omega) (by omega) (by omega) rfl ?_
                try simp only [up_app, row_app, scr_app, cpy_app, Nat.reduceEqDiff, Int.reduceToNat, Int.toNat_natCast, and_true, true_and, and_false, false_and, and_self, reduceIte]
                refine q_icmp_eq (t := 104) (u := 107) F dX8_firstOtherwise_101 (by constructor <;> omega) (by exact hR3 _ _ _) (by decide) rfl (fun c101 => ?_) (fun c101 => ?_)
                · refine q_iinc (t := 110) F dX8_firstOtherwise_107 rfl (by decide) rfl rfl ?_
                  refine q_goto (t := 3) F dX8_firstOtherwise_110 (by decide) ?_
                  try rw [show ((oth.toNat : Nat) : Int) = oth by omega]
                  exact ih3 (g + 1) im3 _ (by omega) (by omega) (by first | exact hBl.1 | omega) hR3 hag3
                · refine q_iload (t := 106) F dX8_firstOtherwise_104 rfl rfl ?_
                  refine q_iret F dX8_firstOtherwise_106 rfl ?_
                  exact ⟨_, rfl, (by constructor <;> omega), im3, _, (by first | exact hBl.1 | omega), hR3, hag3, rfl⟩
              · refine q_aload_n (t := 72) F dX8_firstOtherwise_71 rfl rfl rfl ?_
                refine g_X8_42 (t := 75) F dX8_firstOtherwise_72 rfl rfl ?_
                refine q_aload_n (t := 76) F dX8_firstOtherwise_75 rfl rfl rfl ?_
                refine g_X8_11 (t := 79) F dX8_firstOtherwise_76 rfl rfl ?_
                refine q_iload (t := 81) F dX8_firstOtherwise_79 rfl rfl ?_
                rw [show oth = ((oth.toNat : Nat) : Int) by omega]
                first | refine laN_1 (t := 82) F dX8_firstOtherwise_81 (by omega) rfl ?_ | refine la_1 (t := 82) F dX8_firstOtherwise_81 (by omega) (by omega) rfl ?_
                refine p_X8_259 (t := 85) F dX8_firstOtherwise_82 rfl rfl ?_
                refine q_aload_n (t := 86) F dX8_firstOtherwise_85 rfl rfl rfl ?_
                refine g_X8_42 (t := 89) F dX8_firstOtherwise_86 rfl rfl ?_
                refine q_bipush (t := 91) F dX8_firstOtherwise_89 (by decide) rfl ?_
                refine wp_callV (t := 94) [_] F dX8_firstOtherwise_91 k_X0_goesOffIn v_X0_goesOffIn ml_X8_181 rfl rfl rfl rfl (Nat.le_of_ble_eq_true rfl) (by decide) (m_16 (by omega)) (c_goZ _ G _ _ rt lm (by repeat' first | exact hBl | refine BZ_kind ?_ (by omega) | refine BZ_num ?_ (by omega) | exact BZ_text (bt := (im2 18 0 7).toNat) (by repeat' first | exact hBl | refine BZ_kind ?_ (by omega) | refine BZ_num ?_ (by omega)) (by omega) (goodT_congr (fun s => rfl) (fun s => rfl) (eT _ (by omega))))) rfl (kI ?_)
                rintro x91 m' ⟨hxi, im3, hR3, hag3, rfl⟩
                have hag3 : ag [5, 16, 17] im3 im := (hag3.mono (by decide)).trans (by repeat' first | exact hagl | refine ag_up ?_ (by decide))
                refine q_aload_n (t := 95) F dX8_firstOtherwise_94 rfl rfl rfl ?_
                refine g_X8_232 (t := 98) F dX8_firstOtherwise_95 rfl (by omega) rfl ?_
                refine q_iload (t := 100) F dX8_firstOtherwise_98 rfl rfl ?_
                first | refine ldN_8 (t := 101) F dX8_firstOtherwise_100 (by omega) (by omega) rfl ?_ | refine ld_8 (t := 101) F dX8_firstOtherwise_100 (by omega) (by omega) (by omega) rfl ?_
                try simp only [up_app, row_app, scr_app, cpy_app, Nat.reduceEqDiff, Int.reduceToNat, Int.toNat_natCast, and_true, true_and, and_false, false_and, and_self, reduceIte]
                refine q_icmp_eq (t := 104) (u := 107) F dX8_firstOtherwise_101 (by constructor <;> omega) (by exact hR3 _ _ _) (by decide) rfl (fun c101 => ?_) (fun c101 => ?_)
                · refine q_iinc (t := 110) F dX8_firstOtherwise_107 rfl (by decide) rfl rfl ?_
                  refine q_goto (t := 3) F dX8_firstOtherwise_110 (by decide) ?_
                  try rw [show ((oth.toNat : Nat) : Int) = oth by omega]
                  exact ih3 (g + 1) im3 _ (by omega) (by omega) (by first | exact hBl.1 | omega) hR3 hag3
                · refine q_iload (t := 106) F dX8_firstOtherwise_104 rfl rfl ?_
                  refine q_iret F dX8_firstOtherwise_106 rfl ?_
                  exact ⟨_, rfl, (by constructor <;> omega), im3, _, (by first | exact hBl.1 | omega), hR3, hag3, rfl⟩
  exact L3 _ 0 im bt (Nat.lt_succ_self _) (by omega) hbt hR (ag_rfl _ _)

set_option maxHeartbeats 4000000 in
theorem c_X8_allAsTold (l : Launch) (G : GS) (im : IM) (bt rt : Nat) (lm : IM) (hbt : bt < 6) (hrt : rt < 6) (hS : SC im) (j man : Nat) (hj : j < 4) (hm : (man : Int) < im 18 0 3) (what : Int) (hwhat : 1 ≤ what ∧ what ≤ 3) : Cn l (XC G) yX8_allAsTold Y_X8_allAsTold [vR 0 0, vR 7 j, vI (man : Int), vI what] (im, rs bt rt, lm) (pI fun _ m' => ∃ im' bt', bt' < 6 ∧ RI im' ∧ ag [5, 16, 17] im' im ∧ m' = (im', rs bt' rt, lm)) := by
  refine cn_of (by decide) (okC G) rfl (Nat.le_of_ble_eq_true rfl) ?_
  intro M ad hMl F
  subst hMl
  have hS0 := hS
  obtain ⟨hR, hW, hh, htc, hru, hgt, hz, hrd, hsh, him, htp⟩ := hS
  have w1 := hW.1
  have w2 := hW.2.1
  have w3 := hW.2.2.1
  have w4 := hW.2.2.2.1
  have w5 := hW.2.2.2.2.1
  refine wp_pad 3 ?_
  show Wp M (XC G) ad Y_X8_allAsTold (pI fun _ m' => ∃ im' bt', bt' < 6 ∧ RI im' ∧ ag [5, 16, 17] im' im ∧ m' = (im', rs bt' rt, lm)) 0 [some (vR 0 0), some (vR 7 j), some (vI (man : Int)), some (vI what), none, none, none] [] (im, rs bt rt, lm)
  refine q_iload_n (t := 1) F dX8_allAsTold_0 rfl rfl rfl ?_
  refine q_iconst (t := 2) F dX8_allAsTold_1 rfl ?_
  refine q_icmp_ne (t := 5) (u := 10) F dX8_allAsTold_2 (by first | exact hR _ _ _ | (constructor <;> omega)) (by first | exact hR _ _ _ | (constructor <;> omega)) (by decide) rfl (fun c2 => ?_) (fun c2 => ?_)
  · refine q_iload_n (t := 11) F dX8_allAsTold_10 rfl rfl rfl ?_
    refine q_iconst (t := 12) F dX8_allAsTold_11 rfl ?_
    refine q_icmp_ne (t := 15) (u := 20) F dX8_allAsTold_12 (by first | exact hR _ _ _ | (constructor <;> omega)) (by first | exact hR _ _ _ | (constructor <;> omega)) (by decide) rfl (fun c12 => ?_) (fun c12 => ?_)
    · refine q_aload_n (t := 21) F dX8_allAsTold_20 rfl rfl rfl ?_
      refine g_X8_81 (t := 24) F dX8_allAsTold_21 rfl rfl ?_
      first
        | (obtain ⟨many, hmany⟩ : ∃ z : Int, z = 6 := ⟨_, rfl⟩
           rw [← hmany])
        | (obtain ⟨many, hmany⟩ : ∃ z : Int, z = 10 := ⟨_, rfl⟩
           rw [← hmany])
        | (obtain ⟨many, hmany⟩ : ∃ z : Int, z = im 0 0 8 := ⟨_, rfl⟩
           rw [← hmany])
      have hmn : (many ≤ 10 ∧ 0 ≤ many) ∧ (what = 1 → many = 6) := by omega
      refine q_istore (t := 26) F dX8_allAsTold_24 (by decide) rfl rfl ?_
      refine q_iconst (t := 27) F dX8_allAsTold_26 rfl ?_
      refine q_istore (t := 29) F dX8_allAsTold_27 (by decide) rfl rfl ?_
      refine q_iconst (t := 30) F dX8_allAsTold_29 rfl ?_
      refine q_istore (t := 32) F dX8_allAsTold_30 (by decide) rfl rfl ?_
      have L32 : ∀ (fz : Nat) (i b : Nat) (im2 : IM) (bt2 : Nat), 10 - i < fz → (i : Int) ≤ many → bt2 < 6 → RI im2 → ag [5, 16, 17] im2 im → Wp M (XC G) ad Y_X8_allAsTold (pI fun _ m' => ∃ im' bt', bt' < 6 ∧ RI im' ∧ ag [5, 16, 17] im' im ∧ m' = (im', rs bt' rt, lm)) 32 [some (vR 0 0), some (vR 7 j), some (vI (man : Int)), some (vI what), some (vI many), some (vI (b : Int)), some (vI (i : Int))] [] (im2, rs bt2 rt, lm) := by
        intro fz
        induction fz with
        | zero => intro i b im2 bt2 h; exact absurd h (Nat.not_lt_zero _)
        | succ fz ih =>
          have ih32 := ih
          intro i b im2 bt2 hmeas hi hbt2 hR2 hag2
          have hS2 : SC im2 := SC_agP (agP_of (hag2.mono (by decide))) hR2 hS0
          have e18 : ∀ s, im2 18 0 s = im 18 0 s := fun s => hag2 18 (by decide) 0 s
          refine q_iload (t := 34) F dX8_allAsTold_32 rfl rfl ?_
          refine q_iload (t := 36) F dX8_allAsTold_34 rfl rfl ?_
          refine q_icmp_ge (t := 39) (u := 67) F dX8_allAsTold_36 (by constructor <;> omega) (by constructor <;> omega) (by decide) rfl (fun c36 => ?_) (fun c36 => ?_)
          · refine q_iload (t := 69) F dX8_allAsTold_67 rfl rfl ?_
            refine q_iret F dX8_allAsTold_69 rfl ?_
            exact ⟨_, rfl, im2, bt2, hbt2, hR2, hag2, rfl⟩
          · refine q_aload_n (t := 40) F dX8_allAsTold_39 rfl rfl rfl ?_
            refine q_aload_n (t := 41) F dX8_allAsTold_40 rfl rfl rfl ?_
            refine q_iload_n (t := 42) F dX8_allAsTold_41 rfl rfl rfl ?_
            refine q_iload_n (t := 43) F dX8_allAsTold_42 rfl rfl rfl ?_
            refine q_iload (t := 45) F dX8_allAsTold_43 rfl rfl ?_
            refine wp_callV (t := 48) [_, _, _, _] F dX8_allAsTold_45 k_X8_firstOtherwise v_X8_firstOtherwise ml_X8_244 rfl rfl rfl rfl (Nat.le_of_ble_eq_true rfl) (by decide) (m_0 (by omega)) (c_X8_firstOtherwise _ G im2 bt2 rt lm hbt2 hrt hS2 j man hj (by rw [e18]; exact hm) what (i : Int) (by constructor <;> omega) (by constructor <;> omega) ⟨fun h => by omega, fun h => by omega⟩) rfl (kI ?_)
            rintro x45 m' ⟨hxr, im3, bt3, hbt3, hR3, hag3, rfl⟩
            refine q_iconst (t := 49) F dX8_allAsTold_48 rfl ?_
            refine q_icmp_ne (t := 52) (u := 61) F dX8_allAsTold_49 (by exact hxr) (by constructor <;> omega) (by decide) rfl (fun c49 => ?_) (fun c49 => ?_)
            · refine q_iinc (t := 64) F dX8_allAsTold_61 rfl (by decide) rfl rfl ?_
              refine q_goto (t := 32) F dX8_allAsTold_64 (by decide) ?_
              exact ih32 (i + 1) _ im3 bt3 (by omega) (by omega) hbt3 hR3 (hag3.trans hag2)
            · refine q_iload (t := 54) F dX8_allAsTold_52 rfl rfl ?_
              refine q_iconst (t := 55) F dX8_allAsTold_54 rfl ?_
              refine q_iload (t := 57) F dX8_allAsTold_55 rfl rfl ?_
              refine q_ishl (t := 58) F dX8_allAsTold_57 (by omega) (by omega) rfl ?_
              rw [pow_cast]
              refine q_ior (t := 59) F dX8_allAsTold_58 rfl ?_
              refine q_istore (t := 61) F dX8_allAsTold_59 (by decide) rfl rfl ?_
              refine q_iinc (t := 64) F dX8_allAsTold_61 rfl (by decide) rfl rfl ?_
              refine q_goto (t := 32) F dX8_allAsTold_64 (by decide) ?_
              exact ih32 (i + 1) _ im3 bt3 (by omega) (by omega) hbt3 hR3 (hag3.trans hag2)
      exact L32 _ 0 0 im bt (Nat.lt_succ_self _) (by omega) hbt hR (ag_rfl _ _)
    · refine q_bipush (t := 17) F dX8_allAsTold_15 (by decide) rfl ?_
      refine q_goto (t := 24) F dX8_allAsTold_17 (by decide) ?_
      first
        | (obtain ⟨many, hmany⟩ : ∃ z : Int, z = 6 := ⟨_, rfl⟩
           rw [← hmany])
        | (obtain ⟨many, hmany⟩ : ∃ z : Int, z = 10 := ⟨_, rfl⟩
           rw [← hmany])
        | (obtain ⟨many, hmany⟩ : ∃ z : Int, z = im 0 0 8 := ⟨_, rfl⟩
           rw [← hmany])
      have hmn : (many ≤ 10 ∧ 0 ≤ many) ∧ (what = 1 → many = 6) := by omega
      refine q_istore (t := 26) F dX8_allAsTold_24 (by decide) rfl rfl ?_
      refine q_iconst (t := 27) F dX8_allAsTold_26 rfl ?_
      refine q_istore (t := 29) F dX8_allAsTold_27 (by decide) rfl rfl ?_
      refine q_iconst (t := 30) F dX8_allAsTold_29 rfl ?_
      refine q_istore (t := 32) F dX8_allAsTold_30 (by decide) rfl rfl ?_
      have L32 : ∀ (fz : Nat) (i b : Nat) (im2 : IM) (bt2 : Nat), 10 - i < fz → (i : Int) ≤ many → bt2 < 6 → RI im2 → ag [5, 16, 17] im2 im → Wp M (XC G) ad Y_X8_allAsTold (pI fun _ m' => ∃ im' bt', bt' < 6 ∧ RI im' ∧ ag [5, 16, 17] im' im ∧ m' = (im', rs bt' rt, lm)) 32 [some (vR 0 0), some (vR 7 j), some (vI (man : Int)), some (vI what), some (vI many), some (vI (b : Int)), some (vI (i : Int))] [] (im2, rs bt2 rt, lm) := by
        intro fz
        induction fz with
        | zero => intro i b im2 bt2 h; exact absurd h (Nat.not_lt_zero _)
        | succ fz ih =>
          have ih32 := ih
          intro i b im2 bt2 hmeas hi hbt2 hR2 hag2
          have hS2 : SC im2 := SC_agP (agP_of (hag2.mono (by decide))) hR2 hS0
          have e18 : ∀ s, im2 18 0 s = im 18 0 s := fun s => hag2 18 (by decide) 0 s
          refine q_iload (t := 34) F dX8_allAsTold_32 rfl rfl ?_
          refine q_iload (t := 36) F dX8_allAsTold_34 rfl rfl ?_
          refine q_icmp_ge (t := 39) (u := 67) F dX8_allAsTold_36 (by constructor <;> omega) (by constructor <;> omega) (by decide) rfl (fun c36 => ?_) (fun c36 => ?_)
          · refine q_iload (t := 69) F dX8_allAsTold_67 rfl rfl ?_
            refine q_iret F dX8_allAsTold_69 rfl ?_
            exact ⟨_, rfl, im2, bt2, hbt2, hR2, hag2, rfl⟩
          · refine q_aload_n (t := 40) F dX8_allAsTold_39 rfl rfl rfl ?_
            refine q_aload_n (t := 41) F dX8_allAsTold_40 rfl rfl rfl ?_
            refine q_iload_n (t := 42) F dX8_allAsTold_41 rfl rfl rfl ?_
            refine q_iload_n (t := 43) F dX8_allAsTold_42 rfl rfl rfl ?_
            refine q_iload (t := 45) F dX8_allAsTold_43 rfl rfl ?_
            refine wp_callV (t := 48) [_, _, _, _] F dX8_allAsTold_45 k_X8_firstOtherwise v_X8_firstOtherwise ml_X8_244 rfl rfl rfl rfl (Nat.le_of_ble_eq_true rfl) (by decide) (m_0 (by omega)) (c_X8_firstOtherwise _ G im2 bt2 rt lm hbt2 hrt hS2 j man hj (by rw [e18]; exact hm) what (i : Int) (by constructor <;> omega) (by constructor <;> omega) ⟨fun h => by omega, fun h => by omega⟩) rfl (kI ?_)
            rintro x45 m' ⟨hxr, im3, bt3, hbt3, hR3, hag3, rfl⟩
            refine q_iconst (t := 49) F dX8_allAsTold_48 rfl ?_
            refine q_icmp_ne (t := 52) (u := 61) F dX8_allAsTold_49 (by exact hxr) (by constructor <;> omega) (by decide) rfl (fun c49 => ?_) (fun c49 => ?_)
            · refine q_iinc (t := 64) F dX8_allAsTold_61 rfl (by decide) rfl rfl ?_
              refine q_goto (t := 32) F dX8_allAsTold_64 (by decide) ?_
              exact ih32 (i + 1) _ im3 bt3 (by omega) (by omega) hbt3 hR3 (hag3.trans hag2)
            · refine q_iload (t := 54) F dX8_allAsTold_52 rfl rfl ?_
              refine q_iconst (t := 55) F dX8_allAsTold_54 rfl ?_
              refine q_iload (t := 57) F dX8_allAsTold_55 rfl rfl ?_
              refine q_ishl (t := 58) F dX8_allAsTold_57 (by omega) (by omega) rfl ?_
              rw [pow_cast]
              refine q_ior (t := 59) F dX8_allAsTold_58 rfl ?_
              refine q_istore (t := 61) F dX8_allAsTold_59 (by decide) rfl rfl ?_
              refine q_iinc (t := 64) F dX8_allAsTold_61 rfl (by decide) rfl rfl ?_
              refine q_goto (t := 32) F dX8_allAsTold_64 (by decide) ?_
              exact ih32 (i + 1) _ im3 bt3 (by omega) (by omega) hbt3 hR3 (hag3.trans hag2)
      exact L32 _ 0 0 im bt (Nat.lt_succ_self _) (by omega) hbt hR (ag_rfl _ _)
  · refine q_bipush (t := 7) F dX8_allAsTold_5 (by decide) rfl ?_
    refine q_goto (t := 24) F dX8_allAsTold_7 (by decide) ?_
    first
      | (obtain ⟨many, hmany⟩ : ∃ z : Int, z = 6 := ⟨_, rfl⟩
         rw [← hmany])
      | (obtain ⟨many, hmany⟩ : ∃ z : Int, z = 10 := ⟨_, rfl⟩
         rw [← hmany])
      | (obtain ⟨many, hmany⟩ : ∃ z : Int, z = im 0 0 8 := ⟨_, rfl⟩
         rw [← hmany])
    have hmn : (many ≤ 10 ∧ 0 ≤ many) ∧ (what = 1 → many = 6) := by omega
    refine q_istore (t := 26) F dX8_allAsTold_24 (by decide) rfl rfl ?_
    refine q_iconst (t := 27) F dX8_allAsTold_26 rfl ?_
    refine q_istore (t := 29) F dX8_allAsTold_27 (by decide) rfl rfl ?_
    refine q_iconst (t := 30) F dX8_allAsTold_29 rfl ?_
    refine q_istore (t := 32) F dX8_allAsTold_30 (by decide) rfl rfl ?_
    have L32 : ∀ (fz : Nat) (i b : Nat) (im2 : IM) (bt2 : Nat), 10 - i < fz → (i : Int) ≤ many → bt2 < 6 → RI im2 → ag [5, 16, 17] im2 im → Wp M (XC G) ad Y_X8_allAsTold (pI fun _ m' => ∃ im' bt', bt' < 6 ∧ RI im' ∧ ag [5, 16, 17] im' im ∧ m' = (im', rs bt' rt, lm)) 32 [some (vR 0 0), some (vR 7 j), some (vI (man : Int)), some (vI what), some (vI many), some (vI (b : Int)), some (vI (i : Int))] [] (im2, rs bt2 rt, lm) := by
      intro fz
      induction fz with
      | zero => intro i b im2 bt2 h; exact absurd h (Nat.not_lt_zero _)
      | succ fz ih =>
        have ih32 := ih
        intro i b im2 bt2 hmeas hi hbt2 hR2 hag2
        have hS2 : SC im2 := SC_agP (agP_of (hag2.mono (by decide))) hR2 hS0
        have e18 : ∀ s, im2 18 0 s = im 18 0 s := fun s => hag2 18 (by decide) 0 s
        refine q_iload (t := 34) F dX8_allAsTold_32 rfl rfl ?_
        refine q_iload (t := 36) F dX8_allAsTold_34 rfl rfl ?_
        refine q_icmp_ge (t := 39) (u := 67) F dX8_allAsTold_36 (by constructor <;> omega) (by constructor <;> omega) (by decide) rfl (fun c36 => ?_) (fun c36 => ?_)
        · refine q_iload (t := 69) F dX8_allAsTold_67 rfl rfl ?_
          refine q_iret F dX8_allAsTold_69 rfl ?_
          exact ⟨_, rfl, im2, bt2, hbt2, hR2, hag2, rfl⟩
        · refine q_aload_n (t := 40) F dX8_allAsTold_39 rfl rfl rfl ?_
          refine q_aload_n (t := 41) F dX8_allAsTold_40 rfl rfl rfl ?_
          refine q_iload_n (t := 42) F dX8_allAsTold_41 rfl rfl rfl ?_
          refine q_iload_n (t := 43) F dX8_allAsTold_42 rfl rfl rfl ?_
          refine q_iload (t := 45) F dX8_allAsTold_43 rfl rfl ?_
          refine wp_callV (t := 48) [_, _, _, _] F dX8_allAsTold_45 k_X8_firstOtherwise v_X8_firstOtherwise ml_X8_244 rfl rfl rfl rfl (Nat.le_of_ble_eq_true rfl) (by decide) (m_0 (by omega)) (c_X8_firstOtherwise _ G im2 bt2 rt lm hbt2 hrt hS2 j man hj (by rw [e18]; exact hm) what (i : Int) (by constructor <;> omega) (by constructor <;> omega) ⟨fun h => by omega, fun h => by omega⟩) rfl (kI ?_)
          rintro x45 m' ⟨hxr, im3, bt3, hbt3, hR3, hag3, rfl⟩
          refine q_iconst (t := 49) F dX8_allAsTold_48 rfl ?_
          refine q_icmp_ne (t := 52) (u := 61) F dX8_allAsTold_49 (by exact hxr) (by constructor <;> omega) (by decide) rfl (fun c49 => ?_) (fun c49 => ?_)
          · refine q_iinc (t := 64) F dX8_allAsTold_61 rfl (by decide) rfl rfl ?_
            refine q_goto (t := 32) F dX8_allAsTold_64 (by decide) ?_
            exact ih32 (i + 1) _ im3 bt3 (by omega) (by omega) hbt3 hR3 (hag3.trans hag2)
          · refine q_iload (t := 54) F dX8_allAsTold_52 rfl rfl ?_
            refine q_iconst (t := 55) F dX8_allAsTold_54 rfl ?_
            refine q_iload (t := 57) F dX8_allAsTold_55 rfl rfl ?_
            refine q_ishl (t := 58) F dX8_allAsTold_57 (by omega) (by omega) rfl ?_
            rw [pow_cast]
            refine q_ior (t := 59) F dX8_allAsTold_58 rfl ?_
            refine q_istore (t := 61) F dX8_allAsTold_59 (by decide) rfl rfl ?_
            refine q_iinc (t := 64) F dX8_allAsTold_61 rfl (by decide) rfl rfl ?_
            refine q_goto (t := 32) F dX8_allAsTold_64 (by decide) ?_
            exact ih32 (i + 1) _ im3 bt3 (by omega) (by omega) hbt3 hR3 (hag3.trans hag2)
    exact L32 _ 0 0 im bt (Nat.lt_succ_self _) (by omega) hbt hR (ag_rfl _ _)

set_option maxHeartbeats 4000000 in
theorem c_X8_tells (l : Launch) (G : GS) (im : IM) (bt rt : Nat) (lm : IM) (hbt : bt < 6) (hrt : rt < 6) (hS : SC im) (sheet : Int) (man : Int) (what : Int) (hsheet : ri sheet) (hman : ri man) (hwhat : ri what) : Cn l (XC G) yX8_tells Y_X8_tells [vR 0 0, vI sheet, vI man, vI what] (im, rs bt rt, lm) (pI fun x m' => (¬ ((0 ≤ sheet ∧ sheet < 4) ∧ 0 ≤ man ∧ man < im 18 0 3) → x = -2) ∧ stC lm im m') := by
  refine cn_of (by decide) (okC G) rfl (Nat.le_of_ble_eq_true rfl) ?_
  intro M ad hMl F
  subst hMl
  have hS0 := hS
  obtain ⟨hR, hW, hh, htc, hru, hgt, hz, hrd, hsh, him, htp⟩ := hS
  have w1 := hW.1
  have w2 := hW.2.1
  have w3 := hW.2.2.1
  have w4 := hW.2.2.2.1
  have w5 := hW.2.2.2.2.1
  have hsheet1 := hsheet.1
  have hsheet2 := hsheet.2
  have hman1 := hman.1
  have hman2 := hman.2
  have hwhat1 := hwhat.1
  have hwhat2 := hwhat.2
  refine wp_pad 2 ?_
  show Wp M (XC G) ad Y_X8_tells (pI fun x m' => (¬ ((0 ≤ sheet ∧ sheet < 4) ∧ 0 ≤ man ∧ man < im 18 0 3) → x = -2) ∧ stC lm im m') 0 [some (vR 0 0), some (vI sheet), some (vI man), some (vI what), none, none] [] (im, rs bt rt, lm)
  refine q_iload_n (t := 1) F dX8_tells_0 rfl rfl rfl ?_
  refine q_iconst (t := 2) F dX8_tells_1 rfl ?_
  refine wp_callS (t := 5) [_, _] F dX8_tells_2 k_X8_within st_X8_within ml_X8_95 rfl rfl (Nat.le_of_ble_eq_true rfl) (by decide) (c_X8_within _ G _ bt rt lm sheet 4 hsheet (by constructor <;> omega)) rfl (kI ?_)
  rintro x2 m' ⟨hx2, rfl⟩
  have hx2 := if01 hx2
  refine q_if_eq (t := 8) (u := 16) F dX8_tells_5 (by first | exact hR _ _ _ | (constructor <;> omega)) (by decide) rfl (fun c5 => ?_) (fun c5 => ?_)
  · refine q_bipush (t := 18) F dX8_tells_16 (by decide) rfl ?_
    refine q_iret F dX8_tells_18 rfl ?_
    refine ⟨_, rfl, fun _ => rfl, _, bt, rt, hbt, hrt, hR, agP_rfl _, rfl⟩
  · refine q_aload_n (t := 9) F dX8_tells_8 rfl rfl rfl ?_
    refine q_iload_n (t := 10) F dX8_tells_9 rfl rfl rfl ?_
    refine wp_callV (t := 13) [_] F dX8_tells_10 k_X8_isOne v_X8_isOne ml_X8_91 rfl rfl rfl rfl (Nat.le_of_ble_eq_true rfl) (by decide) (m_0 (by omega)) (c_X8_isOne _ G _ bt rt lm man hman hR) rfl (kI ?_)
    rintro x10 m' ⟨hx10, rfl⟩
    have hx10 := if01 hx10
    refine q_if_ne (t := 16) (u := 19) F dX8_tells_13 (by first | exact hR _ _ _ | (constructor <;> omega)) (by decide) rfl (fun c13 => ?_) (fun c13 => ?_)
    · refine q_iload_n (t := 20) F dX8_tells_19 rfl rfl rfl ?_
      refine q_if_lt (t := 23) (u := 40) F dX8_tells_20 (by first | exact hR _ _ _ | (constructor <;> omega)) (by decide) rfl (fun c20 => ?_) (fun c20 => ?_)
      · refine q_bipush (t := 42) F dX8_tells_40 (by decide) rfl ?_
        refine q_iret F dX8_tells_42 rfl ?_
        refine ⟨_, rfl, fun _ => rfl, _, bt, rt, hbt, hrt, hR, agP_rfl _, rfl⟩
      · refine q_iload_n (t := 24) F dX8_tells_23 rfl rfl rfl ?_
        refine q_bipush (t := 26) F dX8_tells_24 (by decide) rfl ?_
        refine q_icmp_gt (t := 29) (u := 40) F dX8_tells_26 (by first | exact hR _ _ _ | (constructor <;> omega)) (by first | exact hR _ _ _ | (constructor <;> omega)) (by decide) rfl (fun c26 => ?_) (fun c26 => ?_)
        · refine q_bipush (t := 42) F dX8_tells_40 (by decide) rfl ?_
          refine q_iret F dX8_tells_42 rfl ?_
          refine ⟨_, rfl, fun _ => rfl, _, bt, rt, hbt, hrt, hR, agP_rfl _, rfl⟩
        · refine q_iload_n (t := 30) F dX8_tells_29 rfl rfl rfl ?_
          refine q_iconst (t := 31) F dX8_tells_30 rfl ?_
          refine q_icmp_le (t := 34) (u := 43) F dX8_tells_31 (by first | exact hR _ _ _ | (constructor <;> omega)) (by first | exact hR _ _ _ | (constructor <;> omega)) (by decide) rfl (fun c31 => ?_) (fun c31 => ?_)
          · refine q_aload_n (t := 44) F dX8_tells_43 rfl rfl rfl ?_
            refine g_X8_17 (t := 47) F dX8_tells_44 rfl rfl ?_
            obtain ⟨sheet, rfl⟩ : ∃ k : Nat, sheet = (k : Int) := ⟨sheet.toNat, by omega⟩
            have hj : sheet < 4 := by omega
            have hs4 := hsh sheet hj
            obtain ⟨man, rfl⟩ : ∃ k : Nat, man = (k : Int) := ⟨man.toNat, by omega⟩
            obtain ⟨r0, r1, hT, k0, k1, n0, n1, hga, hh0, hh1, hm5⟩ := cell_of hW (man := man) (by omega)
            refine q_iload_n (t := 48) F dX8_tells_47 rfl rfl rfl ?_
            first | refine laN_6 (t := 49) F dX8_tells_48 (by omega) rfl ?_ | refine la_6 (t := 49) F dX8_tells_48 (by omega) (by omega) rfl ?_
            refine q_astore (t := 51) F dX8_tells_49 (by decide) rfl rfl ?_
            refine q_aload (t := 53) F dX8_tells_51 rfl rfl ?_
            refine wp_callV (t := 56) [] F dX8_tells_53 k_X5_isMissing v_X5_isMissing ml_X8_218 rfl rfl rfl rfl (Nat.le_of_ble_eq_true rfl) (by decide) (m_7 (by omega)) (c_X5_isMissing _ G im bt rt lm sheet hj hR) rfl (kI ?_)
            rintro x53 m' ⟨hx53, rfl⟩
            have hx53 := if01 hx53
            refine q_if_eq (t := 59) (u := 62) F dX8_tells_56 (by first | exact hR _ _ _ | (constructor <;> omega)) (by decide) rfl (fun c56 => ?_) (fun c56 => ?_)
            · refine q_aload (t := 64) F dX8_tells_62 rfl rfl ?_
              refine g_X8_231 (t := 67) F dX8_tells_64 rfl (by omega) rfl ?_
              try simp only [up_app, row_app, scr_app, cpy_app, Nat.reduceEqDiff, Int.reduceToNat, Int.toNat_natCast, and_true, true_and, and_false, false_and, and_self, reduceIte]
              refine q_bipush (t := 69) F dX8_tells_67 (by decide) rfl ?_
              refine q_icmp_eq (t := 72) (u := 75) F dX8_tells_69 (by exact hR _ _ _) (by constructor <;> omega) (by decide) rfl (fun c69 => ?_) (fun c69 => ?_)
              · refine q_iload_n (t := 76) F dX8_tells_75 rfl rfl rfl ?_
                refine q_if_ne (t := 79) (u := 89) F dX8_tells_76 (by first | exact hR _ _ _ | (constructor <;> omega)) (by decide) rfl (fun c76 => ?_) (fun c76 => ?_)
                · refine q_iload_n (t := 90) F dX8_tells_89 rfl rfl rfl ?_
                  refine q_iconst (t := 91) F dX8_tells_90 rfl ?_
                  refine q_icmp_gt (t := 94) (u := 103) F dX8_tells_91 (by first | exact hR _ _ _ | (constructor <;> omega)) (by first | exact hR _ _ _ | (constructor <;> omega)) (by decide) rfl (fun c91 => ?_) (fun c91 => ?_)
                  · refine q_iload_n (t := 104) F dX8_tells_103 rfl rfl rfl ?_
                    refine q_bipush (t := 106) F dX8_tells_104 (by decide) rfl ?_
                    refine q_irem (t := 107) F dX8_tells_106 (by first | exact hR _ _ _ | (constructor <;> omega)) (by first | exact hR _ _ _ | (constructor <;> omega)) (by omega) (by omega) rfl ?_
                    obtain ⟨g, hg⟩ : ∃ g : Nat, what % 10 = g := ⟨(what % 10).toNat, by omega⟩
                    rw [hg]
                    refine q_istore (t := 109) F dX8_tells_107 (by decide) rfl rfl ?_
                    refine q_aload_n (t := 110) F dX8_tells_109 rfl rfl rfl ?_
                    refine g_X8_42 (t := 113) F dX8_tells_110 rfl rfl ?_
                    refine q_aload_n (t := 114) F dX8_tells_113 rfl rfl rfl ?_
                    refine g_X8_51 (t := 117) F dX8_tells_114 rfl rfl ?_
                    refine q_iload_n (t := 118) F dX8_tells_117 rfl rfl rfl ?_
                    refine q_iload (t := 120) F dX8_tells_118 rfl rfl ?_
                    refine wp_callV (t := 123) [_, _, _] F dX8_tells_120 k_X0_look v_X0_look ml_X8_139 rfl rfl rfl rfl (Nat.le_of_ble_eq_true rfl) (by decide) (m_16 (by omega)) (c_X0_look _ G im bt rt lm 0 man g (by omega) hm5 (by omega) r0 r1) rfl (kV ?_)
                    rintro m' rfl
                    have hRl := RI_look (w := 0) (p := man) (g := g) hR (by omega)
                    have hbt3 : (im 18 0 7).toNat < 6 := by omega
                    have hagl : ag [5, 16, 17] (lookM im 0 man g) im := (look_ag im 0 man g).mono (by decide)
                    refine q_aload_n (t := 124) F dX8_tells_123 rfl rfl rfl ?_
                    refine g_X8_42 (t := 127) F dX8_tells_124 rfl rfl ?_
                    refine g_X8_199 (t := 130) F dX8_tells_127 rfl rfl ?_
                    refine q_iconst (t := 131) F dX8_tells_130 rfl ?_
                    refine ldN_17 (t := 132) (j := 0) F dX8_tells_131 (by omega) rfl ?_
                    try simp only [up_app, row_app, scr_app, cpy_app, Nat.reduceEqDiff, Int.reduceToNat, Int.toNat_natCast, and_true, true_and, and_false, false_and, and_self, reduceIte]
                    refine q_iconst (t := 133) F dX8_tells_132 rfl ?_
                    refine q_icmp_ne (t := 136) (u := 148) F dX8_tells_133 (by exact hRl _ _ _) (by constructor <;> omega) (by decide) rfl (fun c133 => ?_) (fun c133 => ?_)
                    · have hBO : BO (lookM im 0 man g) (im 18 0 7).toNat := ⟨hbt3, hRl, goodT_congr (fun s => rfl) (fun s => rfl) hT, ⟨k0, k1⟩, ⟨n0, n1⟩, hga g (by omega) (by assumption), ⟨hh0, hh1⟩⟩
                      refine q_iload_n (t := 149) F dX8_tells_148 rfl rfl rfl ?_
                      refine q_bipush (t := 151) F dX8_tells_149 (by decide) rfl ?_
                      refine q_icmp_ge (t := 154) (u := 169) F dX8_tells_151 (by first | exact hR _ _ _ | (constructor <;> omega)) (by first | exact hR _ _ _ | (constructor <;> omega)) (by decide) rfl (fun c151 => ?_) (fun c151 => ?_)
                      · refine q_aload_n (t := 170) F dX8_tells_169 rfl rfl rfl ?_
                        refine q_aload (t := 172) F dX8_tells_170 rfl rfl ?_
                        refine g_X8_232 (t := 175) F dX8_tells_172 rfl (by omega) rfl ?_
                        refine q_iload (t := 177) F dX8_tells_175 rfl rfl ?_
                        first | refine ldN_8 (t := 178) F dX8_tells_177 (by omega) (by omega) rfl ?_ | refine ld_8 (t := 178) F dX8_tells_177 (by omega) (by omega) (by omega) rfl ?_
                        try simp only [up_app, row_app, scr_app, cpy_app, Nat.reduceEqDiff, Int.reduceToNat, Int.toNat_natCast, and_true, true_and, and_false, false_and, and_self, reduceIte]
                        refine q_iload_n (t := 179) F dX8_tells_178 rfl rfl rfl ?_
                        refine q_bipush (t := 181) F dX8_tells_179 (by decide) rfl ?_
                        refine q_icmp_lt (t := 184) (u := 188) F dX8_tells_181 (by first | exact hR _ _ _ | (constructor <;> omega)) (by first | exact hR _ _ _ | (constructor <;> omega)) (by decide) rfl (fun c181 => ?_) (fun c181 => ?_)
                        · refine q_iconst (t := 189) F dX8_tells_188 rfl ?_
                          refine wp_callV (t := 192) [_, _] F dX8_tells_189 k_X8_agesAsTold v_X8_agesAsTold ml_X8_255 rfl rfl rfl rfl (Nat.le_of_ble_eq_true rfl) (by decide) (m_0 (by omega)) (c_X8_agesAsTold _ G (lookM im 0 man g) (im 18 0 7).toNat rt lm hBO (im 8 sheet g) _ (hR _ _ _) (by first | exact Or.inl rfl | exact Or.inr rfl)) rfl (kI ?_)
                          rintro x189 m' ⟨im3, hR3, hag3, rfl⟩
                          have hag3 : ag [5, 16, 17] im3 im := hag3.trans hagl
                          refine q_iret F dX8_tells_192 rfl ?_
                          refine ⟨_, rfl, fun h => (by exfalso; apply h; omega), im3, _, rt, hbt3, hrt, hR3, agP_of (hag3.mono (by decide)), rfl⟩
                        · refine q_iconst (t := 185) F dX8_tells_184 rfl ?_
                          refine q_goto (t := 189) F dX8_tells_185 (by decide) ?_
                          refine wp_callV (t := 192) [_, _] F dX8_tells_189 k_X8_agesAsTold v_X8_agesAsTold ml_X8_255 rfl rfl rfl rfl (Nat.le_of_ble_eq_true rfl) (by decide) (m_0 (by omega)) (c_X8_agesAsTold _ G (lookM im 0 man g) (im 18 0 7).toNat rt lm hBO (im 8 sheet g) _ (hR _ _ _) (by first | exact Or.inl rfl | exact Or.inr rfl)) rfl (kI ?_)
                          rintro x189 m' ⟨im3, hR3, hag3, rfl⟩
                          have hag3 : ag [5, 16, 17] im3 im := hag3.trans hagl
                          refine q_iret F dX8_tells_192 rfl ?_
                          refine ⟨_, rfl, fun h => (by exfalso; apply h; omega), im3, _, rt, hbt3, hrt, hR3, agP_of (hag3.mono (by decide)), rfl⟩
                      · refine q_aload_n (t := 155) F dX8_tells_154 rfl rfl rfl ?_
                        refine q_aload (t := 157) F dX8_tells_155 rfl rfl ?_
                        refine g_X8_232 (t := 160) F dX8_tells_157 rfl (by omega) rfl ?_
                        refine q_iload (t := 162) F dX8_tells_160 rfl rfl ?_
                        first | refine ldN_8 (t := 163) F dX8_tells_162 (by omega) (by omega) rfl ?_ | refine ld_8 (t := 163) F dX8_tells_162 (by omega) (by omega) (by omega) rfl ?_
                        try simp only [up_app, row_app, scr_app, cpy_app, Nat.reduceEqDiff, Int.reduceToNat, Int.toNat_natCast, and_true, true_and, and_false, false_and, and_self, reduceIte]
                        refine wp_callV (t := 166) [_] F dX8_tells_163 k_X8_wordsAsTold v_X8_wordsAsTold ml_X8_252 rfl rfl rfl rfl (Nat.le_of_ble_eq_true rfl) (by decide) (m_0 (by omega)) (c_X8_wordsAsTold _ G (lookM im 0 man g) (im 18 0 7).toNat rt lm hBO (im 8 sheet g) (hR _ _ _)) rfl (kI ?_)
                        rintro x163 m' ⟨im3, hR3, hag3, rfl⟩
                        have hag3 : ag [5, 16, 17] im3 im := (hag3.mono (by decide)).trans hagl
                        refine q_goto (t := 192) F dX8_tells_166 (by decide) ?_
                        refine q_iret F dX8_tells_192 rfl ?_
                        refine ⟨_, rfl, fun h => (by exfalso; apply h; omega), im3, _, rt, hbt3, hrt, hR3, agP_of (hag3.mono (by decide)), rfl⟩
                    · refine q_iload_n (t := 137) F dX8_tells_136 rfl rfl rfl ?_
                      refine q_bipush (t := 139) F dX8_tells_137 (by decide) rfl ?_
                      refine q_icmp_lt (t := 142) (u := 146) F dX8_tells_139 (by first | exact hR _ _ _ | (constructor <;> omega)) (by first | exact hR _ _ _ | (constructor <;> omega)) (by decide) rfl (fun c139 => ?_) (fun c139 => ?_)
                      · refine q_iconst (t := 147) F dX8_tells_146 rfl ?_
                        refine q_iret F dX8_tells_147 rfl ?_
                        refine ⟨_, rfl, fun h => (by exfalso; apply h; omega), _, _, rt, hbt3, hrt, hRl, agP_of (hagl.mono (by decide)), rfl⟩
                      · refine q_iconst (t := 143) F dX8_tells_142 rfl ?_
                        refine q_goto (t := 147) F dX8_tells_143 (by decide) ?_
                        refine q_iret F dX8_tells_147 rfl ?_
                        refine ⟨_, rfl, fun h => (by exfalso; apply h; omega), _, _, rt, hbt3, hrt, hRl, agP_of (hagl.mono (by decide)), rfl⟩
                  · refine q_aload_n (t := 95) F dX8_tells_94 rfl rfl rfl ?_
                    refine q_aload (t := 97) F dX8_tells_95 rfl rfl ?_
                    refine q_iload_n (t := 98) F dX8_tells_97 rfl rfl rfl ?_
                    refine q_iload_n (t := 99) F dX8_tells_98 rfl rfl rfl ?_
                    refine wp_callV (t := 102) [_, _, _] F dX8_tells_99 k_X8_allAsTold v_X8_allAsTold ml_X8_248 rfl rfl rfl rfl (Nat.le_of_ble_eq_true rfl) (by decide) (m_0 (by omega)) (c_X8_allAsTold _ G im bt rt lm hbt hrt hS0 sheet man hj (by omega) what (by omega)) rfl (kI ?_)
                    rintro x99 m' ⟨im3, bt3, hbt3, hR3, hag3, rfl⟩
                    refine q_iret F dX8_tells_102 rfl ?_
                    refine ⟨_, rfl, fun h => (by exfalso; apply h; omega), im3, bt3, rt, hbt3, hrt, hR3, agP_of (hag3.mono (by decide)), rfl⟩
                · refine q_aload_n (t := 80) F dX8_tells_79 rfl rfl rfl ?_
                  refine q_aload (t := 82) F dX8_tells_80 rfl rfl ?_
                  refine q_iload_n (t := 83) F dX8_tells_82 rfl rfl rfl ?_
                  refine q_iconst (t := 84) F dX8_tells_83 rfl ?_
                  refine q_iconst (t := 85) F dX8_tells_84 rfl ?_
                  refine wp_callV (t := 88) [_, _, _, _] F dX8_tells_85 k_X8_firstOtherwise v_X8_firstOtherwise ml_X8_244 rfl rfl rfl rfl (Nat.le_of_ble_eq_true rfl) (by decide) (m_0 (by omega)) (c_X8_firstOtherwise _ G im bt rt lm hbt hrt hS0 sheet man hj (by omega) 0 0 (by constructor <;> omega) (by constructor <;> omega) ⟨fun h => by omega, fun h => by omega⟩) rfl (kI ?_)
                  rintro x85 m' ⟨hxr, im3, bt3, hbt3, hR3, hag3, rfl⟩
                  refine q_iret F dX8_tells_88 rfl ?_
                  refine ⟨_, rfl, fun h => (by exfalso; apply h; omega), im3, bt3, rt, hbt3, hrt, hR3, agP_of (hag3.mono (by decide)), rfl⟩
              · refine q_bipush (t := 74) F dX8_tells_72 (by decide) rfl ?_
                refine q_iret F dX8_tells_74 rfl ?_
                refine ⟨_, rfl, fun _ => rfl, _, bt, rt, hbt, hrt, hR, agP_rfl _, rfl⟩
            · refine q_bipush (t := 61) F dX8_tells_59 (by decide) rfl ?_
              refine q_iret F dX8_tells_61 rfl ?_
              refine ⟨_, rfl, fun h => (by exfalso; apply h; omega), _, bt, rt, hbt, hrt, hR, agP_rfl _, rfl⟩
          · refine q_iload_n (t := 35) F dX8_tells_34 rfl rfl rfl ?_
            refine q_bipush (t := 37) F dX8_tells_35 (by decide) rfl ?_
            refine q_icmp_ge (t := 40) (u := 43) F dX8_tells_37 (by first | exact hR _ _ _ | (constructor <;> omega)) (by first | exact hR _ _ _ | (constructor <;> omega)) (by decide) rfl (fun c37 => ?_) (fun c37 => ?_)
            · refine q_aload_n (t := 44) F dX8_tells_43 rfl rfl rfl ?_
              refine g_X8_17 (t := 47) F dX8_tells_44 rfl rfl ?_
              obtain ⟨sheet, rfl⟩ : ∃ k : Nat, sheet = (k : Int) := ⟨sheet.toNat, by omega⟩
              have hj : sheet < 4 := by omega
              have hs4 := hsh sheet hj
              obtain ⟨man, rfl⟩ : ∃ k : Nat, man = (k : Int) := ⟨man.toNat, by omega⟩
              obtain ⟨r0, r1, hT, k0, k1, n0, n1, hga, hh0, hh1, hm5⟩ := cell_of hW (man := man) (by omega)
              refine q_iload_n (t := 48) F dX8_tells_47 rfl rfl rfl ?_
              first | refine laN_6 (t := 49) F dX8_tells_48 (by omega) rfl ?_ | refine la_6 (t := 49) F dX8_tells_48 (by omega) (by omega) rfl ?_
              refine q_astore (t := 51) F dX8_tells_49 (by decide) rfl rfl ?_
              refine q_aload (t := 53) F dX8_tells_51 rfl rfl ?_
              refine wp_callV (t := 56) [] F dX8_tells_53 k_X5_isMissing v_X5_isMissing ml_X8_218 rfl rfl rfl rfl (Nat.le_of_ble_eq_true rfl) (by decide) (m_7 (by omega)) (c_X5_isMissing _ G im bt rt lm sheet hj hR) rfl (kI ?_)
              rintro x53 m' ⟨hx53, rfl⟩
              have hx53 := if01 hx53
              refine q_if_eq (t := 59) (u := 62) F dX8_tells_56 (by first | exact hR _ _ _ | (constructor <;> omega)) (by decide) rfl (fun c56 => ?_) (fun c56 => ?_)
              · refine q_aload (t := 64) F dX8_tells_62 rfl rfl ?_
                refine g_X8_231 (t := 67) F dX8_tells_64 rfl (by omega) rfl ?_
                try simp only [up_app, row_app, scr_app, cpy_app, Nat.reduceEqDiff, Int.reduceToNat, Int.toNat_natCast, and_true, true_and, and_false, false_and, and_self, reduceIte]
                refine q_bipush (t := 69) F dX8_tells_67 (by decide) rfl ?_
                refine q_icmp_eq (t := 72) (u := 75) F dX8_tells_69 (by exact hR _ _ _) (by constructor <;> omega) (by decide) rfl (fun c69 => ?_) (fun c69 => ?_)
                · refine q_iload_n (t := 76) F dX8_tells_75 rfl rfl rfl ?_
                  refine q_if_ne (t := 79) (u := 89) F dX8_tells_76 (by first | exact hR _ _ _ | (constructor <;> omega)) (by decide) rfl (fun c76 => ?_) (fun c76 => ?_)
                  · refine q_iload_n (t := 90) F dX8_tells_89 rfl rfl rfl ?_
                    refine q_iconst (t := 91) F dX8_tells_90 rfl ?_
                    refine q_icmp_gt (t := 94) (u := 103) F dX8_tells_91 (by first | exact hR _ _ _ | (constructor <;> omega)) (by first | exact hR _ _ _ | (constructor <;> omega)) (by decide) rfl (fun c91 => ?_) (fun c91 => ?_)
                    · refine q_iload_n (t := 104) F dX8_tells_103 rfl rfl rfl ?_
                      refine q_bipush (t := 106) F dX8_tells_104 (by decide) rfl ?_
                      refine q_irem (t := 107) F dX8_tells_106 (by first | exact hR _ _ _ | (constructor <;> omega)) (by first | exact hR _ _ _ | (constructor <;> omega)) (by omega) (by omega) rfl ?_
                      obtain ⟨g, hg⟩ : ∃ g : Nat, what % 10 = g := ⟨(what % 10).toNat, by omega⟩
                      rw [hg]
                      refine q_istore (t := 109) F dX8_tells_107 (by decide) rfl rfl ?_
                      refine q_aload_n (t := 110) F dX8_tells_109 rfl rfl rfl ?_
                      refine g_X8_42 (t := 113) F dX8_tells_110 rfl rfl ?_
                      refine q_aload_n (t := 114) F dX8_tells_113 rfl rfl rfl ?_
                      refine g_X8_51 (t := 117) F dX8_tells_114 rfl rfl ?_
                      refine q_iload_n (t := 118) F dX8_tells_117 rfl rfl rfl ?_
                      refine q_iload (t := 120) F dX8_tells_118 rfl rfl ?_
                      refine wp_callV (t := 123) [_, _, _] F dX8_tells_120 k_X0_look v_X0_look ml_X8_139 rfl rfl rfl rfl (Nat.le_of_ble_eq_true rfl) (by decide) (m_16 (by omega)) (c_X0_look _ G im bt rt lm 0 man g (by omega) hm5 (by omega) r0 r1) rfl (kV ?_)
                      rintro m' rfl
                      have hRl := RI_look (w := 0) (p := man) (g := g) hR (by omega)
                      have hbt3 : (im 18 0 7).toNat < 6 := by omega
                      have hagl : ag [5, 16, 17] (lookM im 0 man g) im := (look_ag im 0 man g).mono (by decide)
                      refine q_aload_n (t := 124) F dX8_tells_123 rfl rfl rfl ?_
                      refine g_X8_42 (t := 127) F dX8_tells_124 rfl rfl ?_
                      refine g_X8_199 (t := 130) F dX8_tells_127 rfl rfl ?_
                      refine q_iconst (t := 131) F dX8_tells_130 rfl ?_
                      refine ldN_17 (t := 132) (j := 0) F dX8_tells_131 (by omega) rfl ?_
                      try simp only [up_app, row_app, scr_app, cpy_app, Nat.reduceEqDiff, Int.reduceToNat, Int.toNat_natCast, and_true, true_and, and_false, false_and, and_self, reduceIte]
                      refine q_iconst (t := 133) F dX8_tells_132 rfl ?_
                      refine q_icmp_ne (t := 136) (u := 148) F dX8_tells_133 (by exact hRl _ _ _) (by constructor <;> omega) (by decide) rfl (fun c133 => ?_) (fun c133 => ?_)
                      · have hBO : BO (lookM im 0 man g) (im 18 0 7).toNat := ⟨hbt3, hRl, goodT_congr (fun s => rfl) (fun s => rfl) hT, ⟨k0, k1⟩, ⟨n0, n1⟩, hga g (by omega) (by assumption), ⟨hh0, hh1⟩⟩
                        refine q_iload_n (t := 149) F dX8_tells_148 rfl rfl rfl ?_
                        refine q_bipush (t := 151) F dX8_tells_149 (by decide) rfl ?_
                        refine q_icmp_ge (t := 154) (u := 169) F dX8_tells_151 (by first | exact hR _ _ _ | (constructor <;> omega)) (by first | exact hR _ _ _ | (constructor <;> omega)) (by decide) rfl (fun c151 => ?_) (fun c151 => ?_)
                        · refine q_aload_n (t := 170) F dX8_tells_169 rfl rfl rfl ?_
                          refine q_aload (t := 172) F dX8_tells_170 rfl rfl ?_
                          refine g_X8_232 (t := 175) F dX8_tells_172 rfl (by omega) rfl ?_
                          refine q_iload (t := 177) F dX8_tells_175 rfl rfl ?_
                          first | refine ldN_8 (t := 178) F dX8_tells_177 (by omega) (by omega) rfl ?_ | refine ld_8 (t := 178) F dX8_tells_177 (by omega) (by omega) (by omega) rfl ?_
                          try simp only [up_app, row_app, scr_app, cpy_app, Nat.reduceEqDiff, Int.reduceToNat, Int.toNat_natCast, and_true, true_and, and_false, false_and, and_self, reduceIte]
                          refine q_iload_n (t := 179) F dX8_tells_178 rfl rfl rfl ?_
                          refine q_bipush (t := 181) F dX8_tells_179 (by decide) rfl ?_
                          refine q_icmp_lt (t := 184) (u := 188) F dX8_tells_181 (by first | exact hR _ _ _ | (constructor <;> omega)) (by first | exact hR _ _ _ | (constructor <;> omega)) (by decide) rfl (fun c181 => ?_) (fun c181 => ?_)
                          · refine q_iconst (t := 189) F dX8_tells_188 rfl ?_
                            refine wp_callV (t := 192) [_, _] F dX8_tells_189 k_X8_agesAsTold v_X8_agesAsTold ml_X8_255 rfl rfl rfl rfl (Nat.le_of_ble_eq_true rfl) (by decide) (m_0 (by omega)) (c_X8_agesAsTold _ G (lookM im 0 man g) (im 18 0 7).toNat rt lm hBO (im 8 sheet g) _ (hR _ _ _) (by first | exact Or.inl rfl | exact Or.inr rfl)) rfl (kI ?_)
                            rintro x189 m' ⟨im3, hR3, hag3, rfl⟩
                            have hag3 : ag [5, 16, 17] im3 im := hag3.trans hagl
                            refine q_iret F dX8_tells_192 rfl ?_
                            refine ⟨_, rfl, fun h => (by exfalso; apply h; omega), im3, _, rt, hbt3, hrt, hR3, agP_of (hag3.mono (by decide)), rfl⟩
                          · refine q_iconst (t := 185) F dX8_tells_184 rfl ?_
                            refine q_goto (t := 189) F dX8_tells_185 (by decide) ?_
                            refine wp_callV (t := 192) [_, _] F dX8_tells_189 k_X8_agesAsTold v_X8_agesAsTold ml_X8_255 rfl rfl rfl rfl (Nat.le_of_ble_eq_true rfl) (by decide) (m_0 (by omega)) (c_X8_agesAsTold _ G (lookM im 0 man g) (im 18 0 7).toNat rt lm hBO (im 8 sheet g) _ (hR _ _ _) (by first | exact Or.inl rfl | exact Or.inr rfl)) rfl (kI ?_)
                            rintro x189 m' ⟨im3, hR3, hag3, rfl⟩
                            have hag3 : ag [5, 16, 17] im3 im := hag3.trans hagl
                            refine q_iret F dX8_tells_192 rfl ?_
                            refine ⟨_, rfl, fun h => (by exfalso; apply h; omega), im3, _, rt, hbt3, hrt, hR3, agP_of (hag3.mono (by decide)), rfl⟩
                        · refine q_aload_n (t := 155) F dX8_tells_154 rfl rfl rfl ?_
                          refine q_aload (t := 157) F dX8_tells_155 rfl rfl ?_
                          refine g_X8_232 (t := 160) F dX8_tells_157 rfl (by omega) rfl ?_
                          refine q_iload (t := 162) F dX8_tells_160 rfl rfl ?_
                          first | refine ldN_8 (t := 163) F dX8_tells_162 (by omega) (by omega) rfl ?_ | refine ld_8 (t := 163) F dX8_tells_162 (by omega) (by omega) (by omega) rfl ?_
                          try simp only [up_app, row_app, scr_app, cpy_app, Nat.reduceEqDiff, Int.reduceToNat, Int.toNat_natCast, and_true, true_and, and_false, false_and, and_self, reduceIte]
                          refine wp_callV (t := 166) [_] F dX8_tells_163 k_X8_wordsAsTold v_X8_wordsAsTold ml_X8_252 rfl rfl rfl rfl (Nat.le_of_ble_eq_true rfl) (by decide) (m_0 (by omega)) (c_X8_wordsAsTold _ G (lookM im 0 man g) (im 18 0 7).toNat rt lm hBO (im 8 sheet g) (hR _ _ _)) rfl (kI ?_)
                          rintro x163 m' ⟨im3, hR3, hag3, rfl⟩
                          have hag3 : ag [5, 16, 17] im3 im := (hag3.mono (by decide)).trans hagl
                          refine q_goto (t := 192) F dX8_tells_166 (by decide) ?_
                          refine q_iret F dX8_tells_192 rfl ?_
                          refine ⟨_, rfl, fun h => (by exfalso; apply h; omega), im3, _, rt, hbt3, hrt, hR3, agP_of (hag3.mono (by decide)), rfl⟩
                      · refine q_iload_n (t := 137) F dX8_tells_136 rfl rfl rfl ?_
                        refine q_bipush (t := 139) F dX8_tells_137 (by decide) rfl ?_
                        refine q_icmp_lt (t := 142) (u := 146) F dX8_tells_139 (by first | exact hR _ _ _ | (constructor <;> omega)) (by first | exact hR _ _ _ | (constructor <;> omega)) (by decide) rfl (fun c139 => ?_) (fun c139 => ?_)
                        · refine q_iconst (t := 147) F dX8_tells_146 rfl ?_
                          refine q_iret F dX8_tells_147 rfl ?_
                          refine ⟨_, rfl, fun h => (by exfalso; apply h; omega), _, _, rt, hbt3, hrt, hRl, agP_of (hagl.mono (by decide)), rfl⟩
                        · refine q_iconst (t := 143) F dX8_tells_142 rfl ?_
                          refine q_goto (t := 147) F dX8_tells_143 (by decide) ?_
                          refine q_iret F dX8_tells_147 rfl ?_
                          refine ⟨_, rfl, fun h => (by exfalso; apply h; omega), _, _, rt, hbt3, hrt, hRl, agP_of (hagl.mono (by decide)), rfl⟩
                    · refine q_aload_n (t := 95) F dX8_tells_94 rfl rfl rfl ?_
                      refine q_aload (t := 97) F dX8_tells_95 rfl rfl ?_
                      refine q_iload_n (t := 98) F dX8_tells_97 rfl rfl rfl ?_
                      refine q_iload_n (t := 99) F dX8_tells_98 rfl rfl rfl ?_
                      refine wp_callV (t := 102) [_, _, _] F dX8_tells_99 k_X8_allAsTold v_X8_allAsTold ml_X8_248 rfl rfl rfl rfl (Nat.le_of_ble_eq_true rfl) (by decide) (m_0 (by omega)) (c_X8_allAsTold _ G im bt rt lm hbt hrt hS0 sheet man hj (by omega) what (by omega)) rfl (kI ?_)
                      rintro x99 m' ⟨im3, bt3, hbt3, hR3, hag3, rfl⟩
                      refine q_iret F dX8_tells_102 rfl ?_
                      refine ⟨_, rfl, fun h => (by exfalso; apply h; omega), im3, bt3, rt, hbt3, hrt, hR3, agP_of (hag3.mono (by decide)), rfl⟩
                  · refine q_aload_n (t := 80) F dX8_tells_79 rfl rfl rfl ?_
                    refine q_aload (t := 82) F dX8_tells_80 rfl rfl ?_
                    refine q_iload_n (t := 83) F dX8_tells_82 rfl rfl rfl ?_
                    refine q_iconst (t := 84) F dX8_tells_83 rfl ?_
                    refine q_iconst (t := 85) F dX8_tells_84 rfl ?_
                    refine wp_callV (t := 88) [_, _, _, _] F dX8_tells_85 k_X8_firstOtherwise v_X8_firstOtherwise ml_X8_244 rfl rfl rfl rfl (Nat.le_of_ble_eq_true rfl) (by decide) (m_0 (by omega)) (c_X8_firstOtherwise _ G im bt rt lm hbt hrt hS0 sheet man hj (by omega) 0 0 (by constructor <;> omega) (by constructor <;> omega) ⟨fun h => by omega, fun h => by omega⟩) rfl (kI ?_)
                    rintro x85 m' ⟨hxr, im3, bt3, hbt3, hR3, hag3, rfl⟩
                    refine q_iret F dX8_tells_88 rfl ?_
                    refine ⟨_, rfl, fun h => (by exfalso; apply h; omega), im3, bt3, rt, hbt3, hrt, hR3, agP_of (hag3.mono (by decide)), rfl⟩
                · refine q_bipush (t := 74) F dX8_tells_72 (by decide) rfl ?_
                  refine q_iret F dX8_tells_74 rfl ?_
                  refine ⟨_, rfl, fun _ => rfl, _, bt, rt, hbt, hrt, hR, agP_rfl _, rfl⟩
              · refine q_bipush (t := 61) F dX8_tells_59 (by decide) rfl ?_
                refine q_iret F dX8_tells_61 rfl ?_
                refine ⟨_, rfl, fun h => (by exfalso; apply h; omega), _, bt, rt, hbt, hrt, hR, agP_rfl _, rfl⟩
            · refine q_bipush (t := 42) F dX8_tells_40 (by decide) rfl ?_
              refine q_iret F dX8_tells_42 rfl ?_
              refine ⟨_, rfl, fun _ => rfl, _, bt, rt, hbt, hrt, hR, agP_rfl _, rfl⟩
    · refine q_bipush (t := 18) F dX8_tells_16 (by decide) rfl ?_
      refine q_iret F dX8_tells_18 rfl ?_
      refine ⟨_, rfl, fun _ => rfl, _, bt, rt, hbt, hrt, hR, agP_rfl _, rfl⟩
end
section
/-! THE JDK'S METHODS on String constants -/
theorem len_in (i : Nat) (hi : i < 13) : lenS.getD i 0 ≤ 46 := by
  revert i
  decide
theorem let_in {i j : Nat} (hi : i < 13) (hj : j < lenS.getD i 0) : 0 ≤ ((bytS.getD i []).getD j 0).toInt ∧ ((bytS.getD i []).getD j 0).toInt < 128 := by
  have h : ∀ i, i < 13 → ∀ j, j < 46 → 0 ≤ ((bytS.getD i []).getD j 0).toInt ∧ ((bytS.getD i []).getD j 0).toInt < 128 := by decide +kernel
  exact h i hi j (by have := len_in i hi; omega)
theorem nar_char (n : Nat) (h : n < 128) : narrow .char (.int (jI n)) = .int (jI n) := by
  have h2 : ∀ n, n < 128 → narrow .char (.int (jI ((n : Nat) : Int))) = .int (jI ((n : Nat) : Int)) := by decide +kernel
  exact h2 n h
section JRules
variable {M : MS} {G : GS} {ad : Ads} {Y : YS} {post : Option SV → Mem → Prop} {pc t : Nat} {ls : List (Option SV)} {st : List SV} {m : Mem}
theorem wp_gcs {idx : Nat} (F : Fx M (XC G) ad Y) (hd : decode Y.2.1 pc = .ok (.getstatic idx, 3)) (hlink : Cond.fieldLink Y.1 idx "java/lang/String" "COMPACT_STRINGS" "Z" ∈ TB) (ht : t = pc + 3) (k : Wp M (XC G) ad Y post t ls (vI 1 :: st) m) : Wp M (XC G) ad Y post pc ls st m := by
  subst ht
  intro H locs a hP hS hl
  exact va_gets F.1 F.2.1 (v := .int 1) F.2.2.2.2.2.2.2.2.1.2.2.2.1 hS F.2.2.2.1 (F.2.2.2.2.1 _ hlink) (fun _ h => h) hd (k H locs a hP hS hl)
theorem wp_gfm {idx : Nat} (F : Fx M (XC G) ad Y) (hd : decode Y.2.1 pc = .ok (.getstatic idx, 3)) (hlink : Cond.fieldLink Y.1 idx "jdk/internal/util/Preconditions" "SIOOBE_FORMATTER" "Ljava/util/function/BiFunction;" ∈ TB) (ht : t = pc + 3) (k : ∀ v : SV, (v = vN ∨ v = vR 97 0) → Wp M (XC G) ad Y post t ls (v :: st) m) : Wp M (XC G) ad Y post pc ls st m := by
  subst ht
  intro H locs a hP hS hl
  rcases F.2.2.2.2.2.2.2.2.1.2.2.2.2 with h | h
  · exact va_gets F.1 F.2.1 (v := .null) h hS F.2.2.2.1 (F.2.2.2.2.1 _ hlink) (fun _ h => h) hd (k vN (Or.inl rfl) H locs a hP hS hl)
  · exact va_gets F.1 F.2.1 (v := .ref (ad 97 0)) h hS F.2.2.2.1 (F.2.2.2.2.1 _ hlink) (fun _ h => h) hd (k (vR 97 0) (Or.inr rfl) H locs a hP hS hl)
theorem wp_gval {idx i : Nat} (F : Fx M (XC G) ad Y) (hi : i < 13) (hd : decode Y.2.1 pc = .ok (.getfield idx, 3)) (hlink : Cond.fieldLink Y.1 idx "java/lang/String" "value" "[B" ∈ TB) (ht : t = pc + 3) (k : Wp M (XC G) ad Y post t ls (vR 98 i :: st) m) : Wp M (XC G) ad Y post pc ls (vR 99 i :: st) m := by
  subst ht
  intro H locs a hP hS hl
  exact vk_getf F.1 F.2.1 (F.2.2.2.2.2.2.2.2.1.2.1.1 i hi).2.2.1 hS F.2.2.2.1 (F.2.2.2.2.1 _ hlink) (fun _ h => h) hd (k H locs a hP hS hl)
theorem wp_gcod {idx i : Nat} (F : Fx M (XC G) ad Y) (hi : i < 13) (hd : decode Y.2.1 pc = .ok (.getfield idx, 3)) (hlink : Cond.fieldLink Y.1 idx "java/lang/String" "coder" "B" ∈ TB) (ht : t = pc + 3) (k : Wp M (XC G) ad Y post t ls (vI 0 :: st) m) : Wp M (XC G) ad Y post pc ls (vR 99 i :: st) m := by
  subst ht
  intro H locs a hP hS hl
  exact vk_getf F.1 F.2.1 (F.2.2.2.2.2.2.2.2.1.2.1.1 i hi).2.1 hS F.2.2.2.1 (F.2.2.2.2.1 _ hlink) (fun _ h => h) hd (k H locs a hP hS hl)
theorem wp_slen {i : Nat} (F : Fx M (XC G) ad Y) (hi : i < 13) (hd : decode Y.2.1 pc = .ok (.arraylength, 1)) (ht : t = pc + 1) (k : Wp M (XC G) ad Y post t ls (vI ((lenS.getD i 0 : Nat) : Int) :: st) m) : Wp M (XC G) ad Y post pc ls (vR 98 i :: st) m := by
  subst ht
  intro H locs a hP hS hl
  exact va_tlen F.1 F.2.1 (F.2.2.2.2.2.2.2.2.1.2.1.1 i hi).2.2.2 hS (v := jI ((lenS.getD i 0 : Nat) : Int)) (j_nI _) hd (k H locs a hP hS hl)
/-- a letter of a constant -/
def letS (i j : Nat) : Int := ((bytS.getD i []).getD j 0).toInt
theorem wp_sbal {i j : Nat} (F : Fx M (XC G) ad Y) (hi : i < 13) (hj : j < lenS.getD i 0) (hl31 : j < 2147483648) (hd : decode Y.2.1 pc = .ok (.baload, 1)) (ht : t = pc + 1) (k : Wp M (XC G) ad Y post t ls (vI (letS i j) :: st) m) : Wp M (XC G) ad Y post pc ls (vI (j : Int) :: vR 98 i :: st) m := by
  subst ht
  intro H locs a hP hS hl
  refine va_tb F.1 F.2.1 (F.2.2.2.2.2.2.2.2.1.2.1.1 i hi).2.2.2 hS (j_in (by omega) (by omega) (by have := len_in i hi; omega)) (v := .int (jI (letS i j))) ?_ hd (k H locs a hP hS hl)
  rw [j_cl ⟨by omega, by omega⟩, Int.toNat_natCast]
  show Value.int _ = Value.int _
  rw [show jI (letS i j) = (bytS.getD i []).getD j 0 from Int32.ofInt_toInt _]
theorem q_ldcS {idx : Nat} {tx : String} (i : Nat) (F : Fx M (XC G) ad Y) (hd : decode Y.2.1 pc = .ok (.ldc idx, 2)) (hr : (Y.1, idx, tx, i) ∈ refS) (ht : t = pc + 2) (k : Wp M (XC G) ad Y post t ls (vR 99 i :: st) m) : Wp M (XC G) ad Y post pc ls st m := by
  subst ht
  intro H locs a hP hS hl
  have q := F.2.2.2.2.2.2.2.2.1.2.2.1 _ hr
  exact va_ldcS F.1 F.2.1 F.2.2.2.1 q hd (k H locs a hP hS hl)
theorem q_i2c {x : Int} (F : Fx M (XC G) ad Y) (hd : decode Y.2.1 pc = .ok (.i2c, 1)) (h0 : 0 ≤ x) (h1 : x < 65536) (ht : t = pc + 1) (k : Wp M (XC G) ad Y post t ls (vI x :: st) m) : Wp M (XC G) ad Y post pc ls (vI x :: st) m := by
  subst ht
  intro H locs a hP hS hl
  refine lv_i2c F.1 F.2.1 hd (lg_i2c_word ?_ ?_) (k H locs a hP hS hl)
  · rw [j_toInt ⟨by omega, by omega⟩]; exact h0
  · rw [j_toInt ⟨by omega, by omega⟩]; exact h1
theorem q_and255 {x : Int} (F : Fx M (XC G) ad Y) (hd : decode Y.2.1 pc = .ok (.iand, 1)) (h0 : 0 ≤ x) (h1 : x < 256) (ht : t = pc + 1) (k : Wp M (XC G) ad Y post t ls (vI x :: st) m) : Wp M (XC G) ad Y post pc ls (vI 255 :: vI x :: st) m := by
  obtain ⟨n, rfl⟩ : ∃ n : Nat, x = (n : Int) := ⟨x.toNat, by omega⟩
  refine q_iand (x := n) (y := 255) F hd ht ?_
  rw [show n &&& 255 = n from by rw [show 255 = 2 ^ 8 - 1 from rfl, Nat.and_two_pow_sub_one_eq_mod]; exact Nat.mod_eq_of_lt (by omega)]
  exact k
theorem q_cret {x : Int} (F : Fx M (XC G) ad Y) (hd : decode Y.2.1 pc = .ok (.ireturn, 1)) (hr : Y.2.2.2.1 = some .char) (hz : narrow .char (.int (jI x)) = .int (jI x)) (k : post (some (vI x)) m) : Wp M (XC G) ad Y post pc ls [vI x] m := by
  intro H locs a hP hS hl
  exact W.zret (v := jI x) F.1 F.2.1 (F.2.2.2.2.2.2.2.2.2.2.trans hr) hz (fun t ht hW => ⟨⟨some (vI x), m, rfl, k, by rw [ht]; exact hP⟩, hS.F ht⟩) hS.2.2 hd F.2.2.2.2.2.2.2.2.2.1
theorem q_bret {x : Int} (F : Fx M (XC G) ad Y) (hd : decode Y.2.1 pc = .ok (.ireturn, 1)) (hr : Y.2.2.2.1 = some .byte) (hz : narrow .byte (.int (jI x)) = .int (jI x)) (k : post (some (vI x)) m) : Wp M (XC G) ad Y post pc ls [vI x] m := by
  intro H locs a hP hS hl
  exact W.zret (v := jI x) F.1 F.2.1 (F.2.2.2.2.2.2.2.2.2.2.trans hr) hz (fun t ht hW => ⟨⟨some (vI x), m, rfl, k, by rw [ht]; exact hP⟩, hS.F ht⟩) hS.2.2 hd F.2.2.2.2.2.2.2.2.2.1
theorem q_rret {k' i' : Nat} {C : String} (F : Fx M (XC G) ad Y) (hd : decode Y.2.1 pc = .ok (.areturn, 1)) (hr : Y.2.2.2.1 = some (.object C)) (k : post (some (vR k' i')) m) : Wp M (XC G) ad Y post pc ls [vR k' i'] m := by
  intro H locs a hP hS hl
  exact W.aret (v := .ref (ad k' i')) F.1 F.2.1 (F.2.2.2.2.2.2.2.2.2.2.trans hr) (Or.inl ⟨C, rfl⟩) (Or.inr ⟨_, rfl⟩) (fun t ht hW => ⟨⟨some (vR k' i'), m, rfl, k, by rw [ht]; exact hP⟩, hS.F ht⟩) hS.2.2 hd F.2.2.2.2.2.2.2.2.2.1
/-- invokevirtual on a String constant -/
theorem wp_callK {y : MethodName} {Yc : YS} {i idx n : Nat} (as : List SV) {rest st0 : List SV} {postc : Option SV → Mem → Prop} (F : Fx M (XC G) ad Y) (hi : i < 13) (hc : y.cls = "java/lang/String") (hd : decode Y.2.1 pc = .ok (.invokevirtual idx, 3)) (hk : mOk TB y Yc n) (hv : mV TB y) (hlink : Cond.methodLink Y.1 idx y ∈ TB) (hst : st0 = as.reverse ++ vR 99 i :: rest) (hn : as.length = n) (hrest : (rest.map sc).sum ≤ 8) (hlev : Yc.2.2.2.2 + 1 ≤ Y.2.2.2.2) (hC : Cn M.2.1 (XC G) y Yc (vR 99 i :: as) m postc) (ht : t = pc + 3) (kk : ∀ (r : Option SV) (m' : Mem), postc r m' → Wp M (XC G) ad Y post t ls (r.toList ++ rest) m') : Wp M (XC G) ad Y post pc ls st0 m := by
  subst ht
  intro H locs a hP hS hl
  refine wp_back hS hl (va_runV (As := as.map (tr ad)) (n := n) ⟨F.1, F.2.1, F.2.2.1, F.2.2.2.1, F.2.2.2.2.1⟩ (hC ad H.size) ⟨cb_of F hk hlev (F.2.2.2.2.1 _ hlink), F.2.2.2.2.1 _ hv.1, F.2.2.2.2.1 _ hv.2⟩ ⟨cn_blind F.2.2.2.2.2.2.1, ?_, cn_pre F hP hS⟩ rfl (by rw [List.length_map]; exact hn) hl.1 ?_ ?_ hd ⟨Nat.le_refl 0, Nat.le_refl 0⟩) kk
  · rw [hc]
    exact vk_recv F.2.2.2.2.2.2.2.2.1.2.1 hi hS
  · show st0.map (tr ad) = _
    rw [hst, List.map_append, List.map_reverse]; rfl
  · exact lv_room (by rw [sc_sum]; exact hrest)
end JRules
theorem c_J0_coder_7d493 (l : Launch) (G : GS) (m : Mem) (i : Nat) (hi : i < 13) : Cn l (XC G) yJ0_coder_7d493 Y_J0_coder_7d493 [vR 99 i] m (pI fun x m' => x = 0 ∧ m' = m) := by
  refine cn_of (by decide) (okC G) rfl (Nat.le_of_ble_eq_true rfl) ?_
  intro M ad hMl F
  show Wp M (XC G) ad Y_J0_coder_7d493 _ 0 [some (vR 99 i)] [] m
  refine wp_gcs (t := 3) F dJ0_coder_7d493_0 fl_J0_38 rfl ?_
  refine q_if_eq (t := 6) (u := 13) F dJ0_coder_7d493_3 (by constructor <;> omega) (by decide) rfl (fun c3 => by omega) (fun c3 => ?_)
  refine q_aload_n (t := 7) F dJ0_coder_7d493_6 rfl rfl rfl ?_
  refine wp_gcod (t := 10) F hi dJ0_coder_7d493_7 fl_J0_15 rfl ?_
  refine q_goto (t := 14) F dJ0_coder_7d493_10 (by decide) ?_
  refine q_bret F dJ0_coder_7d493_14 rfl (by decide) ?_
  exact ⟨_, rfl, rfl, rfl⟩
theorem c_J0_isLatin1_aae02 (l : Launch) (G : GS) (m : Mem) (i : Nat) (hi : i < 13) : Cn l (XC G) yJ0_isLatin1_aae02 Y_J0_isLatin1_aae02 [vR 99 i] m (pI fun x m' => x = 1 ∧ m' = m) := by
  refine cn_of (by decide) (okC G) rfl (Nat.le_of_ble_eq_true rfl) ?_
  intro M ad hMl F
  show Wp M (XC G) ad Y_J0_isLatin1_aae02 _ 0 [some (vR 99 i)] [] m
  refine wp_gcs (t := 3) F dJ0_isLatin1_aae02_0 fl_J0_38 rfl ?_
  refine q_if_eq (t := 6) (u := 17) F dJ0_isLatin1_aae02_3 (by constructor <;> omega) (by decide) rfl (fun c3 => by omega) (fun c3 => ?_)
  refine q_aload_n (t := 7) F dJ0_isLatin1_aae02_6 rfl rfl rfl ?_
  refine wp_gcod (t := 10) F hi dJ0_isLatin1_aae02_7 fl_J0_15 rfl ?_
  refine q_if_ne (t := 13) (u := 17) F dJ0_isLatin1_aae02_10 (by constructor <;> omega) (by decide) rfl (fun c10 => by omega) (fun c10 => ?_)
  refine q_iconst (t := 14) F dJ0_isLatin1_aae02_13 rfl ?_
  refine q_goto (t := 18) F dJ0_isLatin1_aae02_14 (by decide) ?_
  refine q_zret F dJ0_isLatin1_aae02_18 rfl (by decide) ?_
  exact ⟨_, rfl, rfl, rfl⟩
theorem c_J0_length_8abf5 (l : Launch) (G : GS) (m : Mem) (i : Nat) (hi : i < 13) : Cn l (XC G) yJ0_length_8abf5 Y_J0_length_8abf5 [vR 99 i] m (pI fun x m' => x = ((lenS.getD i 0 : Nat) : Int) ∧ m' = m) := by
  refine cn_of (by decide) (okC G) rfl (Nat.le_of_ble_eq_true rfl) ?_
  intro M ad hMl F
  subst hMl
  show Wp M (XC G) ad Y_J0_length_8abf5 _ 0 [some (vR 99 i)] [] m
  have hL := len_in i hi
  refine q_aload_n (t := 1) F dJ0_length_8abf5_0 rfl rfl rfl ?_
  refine wp_gval (t := 4) F hi dJ0_length_8abf5_1 fl_J0_9 rfl ?_
  refine wp_slen (t := 5) F hi dJ0_length_8abf5_4 rfl ?_
  refine q_aload_n (t := 6) F dJ0_length_8abf5_5 rfl rfl rfl ?_
  refine wp_callK (t := 9) [] F hi rfl dJ0_length_8abf5_6 k_J0_coder_7d493 v_J0_coder_7d493 ml_J0_335 rfl rfl (Nat.le_of_ble_eq_true rfl) (by decide) (c_J0_coder_7d493 _ G m i hi) rfl (kI ?_)
  rintro x m' ⟨rfl, rfl⟩
  refine q_ishr (t := 10) F dJ0_length_8abf5_9 (by constructor <;> omega) (by omega) (by omega) (by omega) rfl ?_
  refine q_iret F dJ0_length_8abf5_10 rfl ?_
  exact ⟨_, rfl, Int.ediv_one _, rfl⟩
theorem c_J3_checkIndex_8e157 (l : Launch) (G : GS) (m : Mem) (i n : Int) (v : SV) (hv : v = vN ∨ v = vR 97 0) (h0 : 0 ≤ i) (h1 : i < n) (hn : ri n) : Cn l (XC G) yJ3_checkIndex_8e157 Y_J3_checkIndex_8e157 [vI i, vI n, v] m (pI fun x m' => x = i ∧ m' = m) := by
  have hn2 := hn.2
  have hsz : ent [vI i, vI n, v] = [some (vI i), some (vI n), some v] := by rcases hv with rfl | rfl <;> rfl
  refine cn_of (by decide) (okC G) rfl (by rcases hv with rfl | rfl <;> exact Nat.le_of_ble_eq_true rfl) ?_
  intro M ad hMl F
  rw [hsz]
  refine q_iload_n (t := 1) F dJ3_checkIndex_8e157_0 rfl rfl rfl ?_
  refine q_if_lt (t := 4) (u := 9) F dJ3_checkIndex_8e157_1 (by constructor <;> omega) (by decide) rfl (fun c1 => by omega) (fun c1 => ?_)
  refine q_iload_n (t := 5) F dJ3_checkIndex_8e157_4 rfl rfl rfl ?_
  refine q_iload_n (t := 6) F dJ3_checkIndex_8e157_5 rfl rfl rfl ?_
  refine q_icmp_lt (t := 9) (u := 16) F dJ3_checkIndex_8e157_6 (by constructor <;> omega) (by constructor <;> omega) (by decide) rfl (fun c6 => ?_) (fun c6 => by omega)
  refine q_iload_n (t := 17) F dJ3_checkIndex_8e157_16 rfl rfl rfl ?_
  refine q_iret F dJ3_checkIndex_8e157_17 rfl ?_
  exact ⟨_, rfl, rfl, rfl⟩
theorem c_J0_checkIndex_df160 (l : Launch) (G : GS) (m : Mem) (i n : Int) (h0 : 0 ≤ i) (h1 : i < n) (hn : ri n) : Cn l (XC G) yJ0_checkIndex_df160 Y_J0_checkIndex_df160 [vI i, vI n] m (pV fun m' => m' = m) := by
  refine cn_of (by decide) (okC G) rfl (Nat.le_of_ble_eq_true rfl) ?_
  intro M ad hMl F
  subst hMl
  show Wp M (XC G) ad Y_J0_checkIndex_df160 _ 0 [some (vI i), some (vI n)] [] m
  refine q_iload_n (t := 1) F dJ0_checkIndex_df160_0 rfl rfl rfl ?_
  refine q_iload_n (t := 2) F dJ0_checkIndex_df160_1 rfl rfl rfl ?_
  refine wp_gfm (t := 5) F dJ0_checkIndex_df160_2 fl_J0_1053 rfl (fun v hv => ?_)
  refine wp_callS (t := 8) [vI i, vI n, v] F dJ0_checkIndex_df160_5 k_J3_checkIndex_8e157 st_J3_checkIndex_8e157 ml_J0_1059 rfl rfl (Nat.le_of_ble_eq_true rfl) (by decide) (c_J3_checkIndex_8e157 _ G m i n v hv h0 h1 hn) rfl (kI ?_)
  rintro x m' ⟨rfl, rfl⟩
  refine q_popI (t := 9) F dJ0_checkIndex_df160_8 rfl ?_
  refine q_vret F dJ0_checkIndex_df160_9 rfl ?_
  exact ⟨rfl, rfl⟩
theorem c_J1_charAt_3b067 (l : Launch) (G : GS) (m : Mem) (i j : Nat) (hi : i < 13) (hj : j < lenS.getD i 0) : Cn l (XC G) yJ1_charAt_3b067 Y_J1_charAt_3b067 [vR 98 i, vI (j : Int)] m (pI fun x m' => x = letS i j ∧ m' = m) := by
  refine cn_of (by decide) (okC G) rfl (Nat.le_of_ble_eq_true rfl) ?_
  intro M ad hMl F
  subst hMl
  show Wp M (XC G) ad Y_J1_charAt_3b067 _ 0 [some (vR 98 i), some (vI (j : Int))] [] m
  have hL := len_in i hi
  have hc : 0 ≤ letS i j ∧ letS i j < 128 := let_in hi hj
  refine q_iload_n (t := 1) F dJ1_charAt_3b067_0 rfl rfl rfl ?_
  refine q_aload_n (t := 2) F dJ1_charAt_3b067_1 rfl rfl rfl ?_
  refine wp_slen (t := 3) F hi dJ1_charAt_3b067_2 rfl ?_
  refine wp_callS (t := 6) [_, _] F dJ1_charAt_3b067_3 k_J0_checkIndex_df160 st_J0_checkIndex_df160 ml_J1_9 rfl rfl (Nat.le_of_ble_eq_true rfl) (by decide) (c_J0_checkIndex_df160 _ G m j ((lenS.getD i 0 : Nat) : Int) (by omega) (by omega) (by constructor <;> omega)) rfl (kV ?_)
  rintro m' rfl
  refine q_aload_n (t := 7) F dJ1_charAt_3b067_6 rfl rfl rfl ?_
  refine q_iload_n (t := 8) F dJ1_charAt_3b067_7 rfl rfl rfl ?_
  refine wp_sbal (t := 9) F hi hj (by omega) dJ1_charAt_3b067_8 rfl ?_
  refine q_sipush (t := 12) F dJ1_charAt_3b067_9 (by decide) rfl ?_
  refine q_and255 (t := 13) F dJ1_charAt_3b067_12 hc.1 (by omega) rfl ?_
  refine q_i2c (t := 14) F dJ1_charAt_3b067_13 hc.1 (by omega) rfl ?_
  refine q_cret F dJ1_charAt_3b067_14 rfl ?_ ?_
  · obtain ⟨n, hn⟩ : ∃ n : Nat, letS i j = (n : Int) := ⟨(letS i j).toNat, by omega⟩
    rw [hn]
    exact nar_char n (by omega)
  · exact ⟨_, rfl, rfl, rfl⟩
theorem c_J0_charAt_5068e (l : Launch) (G : GS) (m : Mem) (i j : Nat) (hi : i < 13) (hj : j < lenS.getD i 0) : Cn l (XC G) yJ0_charAt_5068e Y_J0_charAt_5068e [vR 99 i, vI (j : Int)] m (pI fun x m' => x = letS i j ∧ m' = m) := by
  refine cn_of (by decide) (okC G) rfl (Nat.le_of_ble_eq_true rfl) ?_
  intro M ad hMl F
  subst hMl
  show Wp M (XC G) ad Y_J0_charAt_5068e _ 0 [some (vR 99 i), some (vI (j : Int))] [] m
  have hc : 0 ≤ letS i j ∧ letS i j < 128 := let_in hi hj
  refine q_aload_n (t := 1) F dJ0_charAt_5068e_0 rfl rfl rfl ?_
  refine wp_callK (t := 4) [] F hi rfl dJ0_charAt_5068e_1 k_J0_isLatin1_aae02 v_J0_isLatin1_aae02 ml_J0_492 rfl rfl (Nat.le_of_ble_eq_true rfl) (by decide) (c_J0_isLatin1_aae02 _ G m i hi) rfl (kI ?_)
  rintro x m' ⟨rfl, rfl⟩
  refine q_if_eq (t := 7) (u := 16) F dJ0_charAt_5068e_4 (by constructor <;> omega) (by decide) rfl (fun c4 => by omega) (fun c4 => ?_)
  refine q_aload_n (t := 8) F dJ0_charAt_5068e_7 rfl rfl rfl ?_
  refine wp_gval (t := 11) F hi dJ0_charAt_5068e_8 fl_J0_9 rfl ?_
  refine q_iload_n (t := 12) F dJ0_charAt_5068e_11 rfl rfl rfl ?_
  refine wp_callS (t := 15) [_, _] F dJ0_charAt_5068e_12 k_J1_charAt_3b067 st_J1_charAt_3b067 ml_J0_495 rfl rfl (Nat.le_of_ble_eq_true rfl) (by decide) (c_J1_charAt_3b067 _ G m' i j hi hj) rfl (kI ?_)
  rintro x m2 ⟨rfl, rfl⟩
  refine q_cret F dJ0_charAt_5068e_15 rfl ?_ ?_
  · obtain ⟨n, hn⟩ : ∃ n : Nat, letS i j = (n : Int) := ⟨(letS i j).toNat, by omega⟩
    rw [hn]
    exact nar_char n (by omega)
  · exact ⟨_, rfl, rfl, rfl⟩
end
section
/-! READING A TEXT, in pure words -/
def spanF (P : Int → Bool) (b : Nat → Int) : Nat → Nat → Nat
  | 0, p => p
  | f + 1, p => if P (b p) = true then spanF P b f (p + 1) else p
/-- the end of a row of such letters -/
def span (P : Int → Bool) (b : Nat → Int) (n p : Nat) : Nat := spanF P b (n - p) p
theorem span_y {P : Int → Bool} {b : Nat → Int} {n p : Nat} (h : p < n) (h2 : P (b p) = true) : span P b n p = span P b n (p + 1) := by
  unfold span
  rw [show n - p = (n - (p + 1)) + 1 by omega]
  show (if P (b p) = true then _ else _) = _
  rw [if_pos h2]
theorem span_n {P : Int → Bool} {b : Nat → Int} {n p : Nat} (h : ¬ (p < n ∧ P (b p) = true)) : span P b n p = p := by
  unfold span
  by_cases hp : p < n
  · rw [show n - p = (n - (p + 1)) + 1 by omega]
    show (if P (b p) = true then _ else _) = _
    rw [if_neg (fun q => h ⟨hp, q⟩)]
  · rw [show n - p = 0 by omega]
    rfl
theorem span_in (P : Int → Bool) (b : Nat → Int) (n : Nat) : ∀ (k p : Nat), n - p = k → p ≤ span P b n p ∧ (p ≤ n → span P b n p ≤ n) := by
  intro k
  induction k with
  | zero =>
    intro p hk
    rw [span_n (by omega)]
    omega
  | succ k ih =>
    intro p hk
    by_cases h : P (b p) = true
    · rw [span_y (by omega) h]
      have := ih (p + 1) (by omega)
      omega
    · rw [span_n (fun q => h q.2)]
      omega
def isW (c : Int) : Bool := decide (c = 32 ∨ c = 10)
def isL (c : Int) : Bool := decide (97 ≤ c ∧ c ≤ 122)
def isD (c : Int) : Bool := decide (48 ≤ c ∧ c ≤ 57)
theorem isW_iff {c : Int} : isW c = true ↔ (c = 32 ∨ c = 10) := decide_eq_true_iff
theorem isL_iff {c : Int} : isL c = true ↔ (97 ≤ c ∧ c ≤ 122) := decide_eq_true_iff
theorem isD_iff {c : Int} : isD c = true ↔ (48 ≤ c ∧ c ≤ 57) := decide_eq_true_iff
def numF (b : Nat → Int) (p : Nat) : Nat → Int
  | 0 => 0
  | k + 1 => bm (numF b p k * 10 + b (p + k) - 48)
abbrev stdS (b : Nat → Int) (p q i : Nat) : Prop := lenS.getD i 0 = q - p ∧ ∀ j, j < lenS.getD i 0 → b (p + j) = letS i j
/-- which of the known words stands there -/
def wIx (b : Nat → Int) (p q : Nat) : Nat → Int
  | 0 => -1
  | i + 1 => if stdS b p q i then (i : Int) else wIx b p q i
theorem wIx_s (b : Nat → Int) (p q i : Nat) : wIx b p q (i + 1) = if stdS b p q i then (i : Int) else wIx b p q i := rfl
theorem wIx_in (b : Nat → Int) (p q i : Nat) : -1 ≤ wIx b p q i ∧ wIx b p q i < i := by
  induction i with
  | zero => exact ⟨Int.le_refl _, by show (-1 : Int) < 0; decide⟩
  | succ i ih =>
    rw [wIx_s]
    split <;> omega
def tkW (i : Int) : Int := if i = -1 then 1 else if i < 6 then 3 else i - 2
abbrev sgn (c : Int) : Prop := c = 40 ∨ c = 41 ∨ c = 59 ∨ c = 43 ∨ c = 45 ∨ c = 42 ∨ c = 60 ∨ c = 61
/-- the token at a place -/
def tk (b : Nat → Int) (n p : Nat) : Int := if n ≤ p then 0 else if isL (b p) = true then tkW (wIx b p (span isL b n p) 12) else if isD (b p) = true then (if 4 < span isD b n p - p then 1 else 2) else if sgn (b p) then b p else 1
def vl (b : Nat → Int) (n p : Nat) : Int := if isL (b p) = true then wIx b p (span isL b n p) 12 else numF b p (span isD b n p - p)
/-- the place behind it -/
def nx (b : Nat → Int) (n p : Nat) : Nat := if n ≤ p then p else if isL (b p) = true then span isL b n p else if isD (b p) = true then span isD b n p else p + 1
/-- the next token's place -/
def adv (b : Nat → Int) (n p : Nat) : Nat := span isW b n (nx b n p)
theorem tk_0 {b : Nat → Int} {n p : Nat} (h : n ≤ p) : tk b n p = 0 := by
  unfold tk
  rw [if_pos h]
theorem tk_lt {b : Nat → Int} {n p : Nat} (h : tk b n p ≠ 0) : p < n := by
  by_cases hp : n ≤ p
  · exact absurd (tk_0 hp) h
  · omega
theorem tk_in (b : Nat → Int) (n p : Nat) : 0 ≤ tk b n p ∧ tk b n p ≤ 61 := by
  have h1 := wIx_in b p (span isL b n p) 12
  unfold tk tkW sgn
  (repeat' split) <;> omega
theorem nx_in {b : Nat → Int} {n p : Nat} (h : p < n) : p < nx b n p ∧ nx b n p ≤ n := by
  unfold nx
  rw [if_neg (by omega)]
  split
  · rename_i hl
    rw [span_y h hl]
    have := span_in isL b n _ (p + 1) rfl
    omega
  split
  · rename_i hd
    rw [span_y h hd]
    have := span_in isD b n _ (p + 1) rfl
    omega
  · omega
theorem adv_in {b : Nat → Int} {n p : Nat} (h : p < n) : p < adv b n p ∧ adv b n p ≤ n := by
  have h1 := nx_in (b := b) h
  have h2 := span_in isW b n _ (nx b n p) rfl
  unfold adv
  omega
/-! the grammar: (where it stands, the FAULT's place or -1, the steps, the value) -/
abbrev PT : Type := Nat × Int × List Int × ((Nat → Int) → Int)
def pFail (p : Nat) : PT := (p, (p : Int), [], fun _ => 0)
def wrap1 (s : Int) (r : PT) : PT := (r.1, r.2.1, r.2.2.1 ++ [s], fun nm => un1 s (r.2.2.2 nm))
def wrapK (s : Int) : Nat → PT → PT
  | 0, r => r
  | k + 1, r => wrap1 s (wrapK s k r)
/-- a token that opens one more: as often as it stands there -/
def opn (b : Nat → Int) (n : Nat) (key : Int) : Nat → Nat → Nat × Nat
  | 0, p => (0, p)
  | m + 1, p => if tk b n p = key then opn b n key m (adv b n p) else (m + 1, p)
def loopP (b : Nat → Int) (n : Nat) (op : Int → Int) (sub : Nat → PT) : Nat → PT → PT
  | 0, r => r
  | f + 1, r => if r.2.1 = -1 ∧ op (tk b n r.1) ≠ 0 then loopP b n op sub f ((sub (adv b n r.1)).1, (sub (adv b n r.1)).2.1, r.2.2.1 ++ (sub (adv b n r.1)).2.2.1 ++ [op (tk b n r.1)], fun nm => bi2 (op (tk b n r.1)) (r.2.2.2 nm) ((sub (adv b n r.1)).2.2.2 nm)) else r
theorem loopP_y {b : Nat → Int} {n : Nat} {op : Int → Int} {sub : Nat → PT} {f : Nat} {r : PT} (h1 : r.2.1 = -1) (h2 : op (tk b n r.1) ≠ 0) : loopP b n op sub (f + 1) r = loopP b n op sub f ((sub (adv b n r.1)).1, (sub (adv b n r.1)).2.1, r.2.2.1 ++ (sub (adv b n r.1)).2.2.1 ++ [op (tk b n r.1)], fun nm => bi2 (op (tk b n r.1)) (r.2.2.2 nm) ((sub (adv b n r.1)).2.2.2 nm)) := by
  show (if _ then _ else _) = _
  rw [if_pos ⟨h1, h2⟩]
theorem loopP_n {b : Nat → Int} {n : Nat} {op : Int → Int} {sub : Nat → PT} {f : Nat} {r : PT} (h : ¬ (r.2.1 = -1 ∧ op (tk b n r.1) ≠ 0)) : loopP b n op sub f r = r := by
  cases f with
  | zero => rfl
  | succ f =>
    show (if _ then _ else _) = _
    rw [if_neg h]
def opM (t : Int) : Int := if t = 42 then -9 else 0
def opS (t : Int) : Int := if t = 43 then -10 else if t = 45 then -11 else 0
def opA (t : Int) : Int := if t = 8 then -14 else 0
def opO (t : Int) : Int := if t = 7 then -15 else 0
/-- one, where no sign of minus stands -/
def atomX (b : Nat → Int) (n m : Nat) (nE : Nat → PT) (p : Nat) : PT :=
  if tk b n p = 40 ∧ m ≠ 0 then (if (nE (adv b n p)).2.1 = -1 then (if tk b n (nE (adv b n p)).1 = 41 then (adv b n (nE (adv b n p)).1, -1, (nE (adv b n p)).2.2) else ((nE (adv b n p)).1, ((nE (adv b n p)).1 : Int), (nE (adv b n p)).2.2)) else nE (adv b n p))
  else if tk b n p = 2 then (adv b n p, -1, [vl b n p], fun _ => vl b n p)
  else if tk b n p = 3 then (adv b n p, -1, [-1 - vl b n p], fun nm => nm (vl b n p).toNat)
  else pFail p
def atomP (b : Nat → Int) (n m : Nat) (n1 nE : Nat → PT) (p : Nat) : PT := if tk b n p = 45 then (if m = 0 then pFail p else wrap1 (-7) (n1 (adv b n p))) else atomX b n m nE p
def termP (b : Nat → Int) (n : Nat) (one : Nat → PT) (p : Nat) : PT := loopP b n opM one 160 (one p)
def sumP (b : Nat → Int) (n : Nat) (one : Nat → PT) (p : Nat) : PT := loopP b n opS (termP b n one) 160 (termP b n one p)
def opC (t : Int) : Int := if t = 60 then -12 else if t = 61 then -13 else 0
/-- a denial, where no "not" stands -/
def denX (b : Nat → Int) (n : Nat) (one : Nat → PT) (p : Nat) : PT := loopP b n opC (sumP b n one) 1 (sumP b n one p)
def denP (b : Nat → Int) (n m : Nat) (one nD : Nat → PT) (p : Nat) : PT := if tk b n p = 9 then (if m = 0 then pFail p else wrap1 (-8) (nD (adv b n p))) else denX b n one p
def bothP (b : Nat → Int) (n : Nat) (den : Nat → PT) (p : Nat) : PT := loopP b n opA den 160 (den p)
def eitP (b : Nat → Int) (n : Nat) (den : Nat → PT) (p : Nat) : PT := loopP b n opO (bothP b n den) 160 (bothP b n den p)
abbrev PL : Type := (Nat → PT) × (Nat → PT)
/-- one, a denial, where so many more may be opened -/
def lvl (b : Nat → Int) (n : Nat) : Nat → PL
  | 0 => (atomP b n 0 pFail pFail, denP b n 0 (atomP b n 0 pFail pFail) pFail)
  | m + 1 => (atomP b n (m + 1) (lvl b n m).1 (eitP b n (lvl b n m).2), denP b n (m + 1) (atomP b n (m + 1) (lvl b n m).1 (eitP b n (lvl b n m).2)) (lvl b n m).2)
def oneL (b : Nat → Int) (n m : Nat) : Nat → PT := (lvl b n m).1
def denL (b : Nat → Int) (n m : Nat) : Nat → PT := (lvl b n m).2
def termL (b : Nat → Int) (n m : Nat) : Nat → PT := termP b n (oneL b n m)
def sumL (b : Nat → Int) (n m : Nat) : Nat → PT := sumP b n (oneL b n m)
def bothL (b : Nat → Int) (n m : Nat) : Nat → PT := bothP b n (denL b n m)
def eitL (b : Nat → Int) (n m : Nat) : Nat → PT := eitP b n (denL b n m)
theorem oneL_s (b : Nat → Int) (n m p : Nat) : oneL b n (m + 1) p = if tk b n p = 45 then wrap1 (-7) (oneL b n m (adv b n p)) else atomX b n (m + 1) (eitL b n m) p := by
  show atomP b n (m + 1) (oneL b n m) (eitL b n m) p = _
  unfold atomP
  rw [if_neg (show ¬ m + 1 = 0 by omega)]
theorem oneL_0 (b : Nat → Int) (n p : Nat) : oneL b n 0 p = if tk b n p = 45 then pFail p else atomX b n 0 pFail p := by
  show atomP b n 0 pFail pFail p = _
  unfold atomP
  rw [if_pos (rfl : (0 : Nat) = 0)]
theorem denL_s (b : Nat → Int) (n m p : Nat) : denL b n (m + 1) p = if tk b n p = 9 then wrap1 (-8) (denL b n m (adv b n p)) else denX b n (oneL b n (m + 1)) p := by
  show denP b n (m + 1) (oneL b n (m + 1)) (denL b n m) p = _
  unfold denP
  rw [if_neg (show ¬ m + 1 = 0 by omega)]
theorem denL_0 (b : Nat → Int) (n p : Nat) : denL b n 0 p = if tk b n p = 9 then pFail p else denX b n (oneL b n 0) p := by
  show denP b n 0 (oneL b n 0) pFail p = _
  unfold denP
  rw [if_pos (rfl : (0 : Nat) = 0)]
/-- the level below, where something may be opened -/
def eitB (b : Nat → Int) (n : Nat) : Nat → Nat → PT
  | 0 => pFail
  | m + 1 => eitL b n m
theorem opn_in (b : Nat → Int) (n : Nat) (key : Int) : ∀ (m p : Nat), (opn b n key m p).1 ≤ m := by
  intro m
  induction m with
  | zero => intro p; exact Nat.le_refl _
  | succ m ih =>
    intro p
    show (if tk b n p = key then opn b n key m (adv b n p) else (m + 1, p)).1 ≤ m + 1
    split
    · have := ih (adv b n p); omega
    · exact Nat.le_refl _
/-- past all signs of minus -/
theorem oneL_opn (b : Nat → Int) (n : Nat) : ∀ (m p : Nat), oneL b n m p = (if tk b n (opn b n 45 m p).2 = 45 then wrapK (-7) (m - (opn b n 45 m p).1) (pFail (opn b n 45 m p).2) else wrapK (-7) (m - (opn b n 45 m p).1) (atomX b n (opn b n 45 m p).1 (eitB b n (opn b n 45 m p).1) (opn b n 45 m p).2)) := by
  intro m
  induction m with
  | zero =>
    intro p
    rw [oneL_0]
    rfl
  | succ m ih =>
    intro p
    rw [oneL_s]
    have h1 : opn b n 45 (m + 1) p = if tk b n p = 45 then opn b n 45 m (adv b n p) else (m + 1, p) := rfl
    by_cases h : tk b n p = 45
    · rw [if_pos h, ih, h1, if_pos h]
      have h2 := opn_in b n 45 m (adv b n p)
      rw [show m + 1 - (opn b n 45 m (adv b n p)).1 = (m - (opn b n 45 m (adv b n p)).1) + 1 by omega]
      split <;> rfl
    · rw [if_neg h, h1, if_neg h]
      show _ = if tk b n p = 45 then _ else wrapK (-7) (m + 1 - (m + 1)) (atomX b n (m + 1) (eitB b n (m + 1)) p)
      rw [if_neg h, Nat.sub_self]
      rfl
theorem denL_opn (b : Nat → Int) (n : Nat) : ∀ (m p : Nat), denL b n m p = (if tk b n (opn b n 9 m p).2 = 9 then wrapK (-8) (m - (opn b n 9 m p).1) (pFail (opn b n 9 m p).2) else wrapK (-8) (m - (opn b n 9 m p).1) (denX b n (oneL b n (opn b n 9 m p).1) (opn b n 9 m p).2)) := by
  intro m
  induction m with
  | zero =>
    intro p
    rw [denL_0]
    rfl
  | succ m ih =>
    intro p
    rw [denL_s]
    have h1 : opn b n 9 (m + 1) p = if tk b n p = 9 then opn b n 9 m (adv b n p) else (m + 1, p) := rfl
    by_cases h : tk b n p = 9
    · rw [if_pos h, ih, h1, if_pos h]
      have h2 := opn_in b n 9 m (adv b n p)
      rw [show m + 1 - (opn b n 9 m (adv b n p)).1 = (m - (opn b n 9 m (adv b n p)).1) + 1 by omega]
      split <;> rfl
    · rw [if_neg h, h1, if_neg h]
      show _ = if tk b n p = 9 then _ else wrapK (-8) (m + 1 - (m + 1)) (denX b n (oneL b n (m + 1)) p)
      rw [if_neg h, Nat.sub_self]
      rfl
/-! places: each goes on, its steps are no more than the letters it takes -/
def PG (n : Nat) (F : Nat → PT) : Prop := ∀ p, p ≤ n → p ≤ (F p).1 ∧ (F p).1 ≤ n ∧ ((F p).2.1 = -1 → p + (F p).2.2.1.length ≤ (F p).1) ∧ ((F p).2.1 = -1 ∨ 0 ≤ (F p).2.1 ∧ (F p).2.1 ≤ n)
theorem PG_fail (n : Nat) : PG n pFail := fun p hp => ⟨Nat.le_refl _, hp, fun h => by have : ((p : Nat) : Int) = -1 := h; omega, Or.inr ⟨by show (0 : Int) ≤ (p : Int); omega, by show (p : Int) ≤ n; omega⟩⟩
theorem PG_loop {b : Nat → Int} {n : Nat} {op : Int → Int} {sub : Nat → PT} (h0 : op 0 = 0) (hs : PG n sub) : ∀ (f p : Nat) (r : PT), p ≤ n → (p ≤ r.1 ∧ r.1 ≤ n ∧ (r.2.1 = -1 → p + r.2.2.1.length ≤ r.1) ∧ (r.2.1 = -1 ∨ 0 ≤ r.2.1 ∧ r.2.1 ≤ n)) → p ≤ (loopP b n op sub f r).1 ∧ (loopP b n op sub f r).1 ≤ n ∧ ((loopP b n op sub f r).2.1 = -1 → p + (loopP b n op sub f r).2.2.1.length ≤ (loopP b n op sub f r).1) ∧ ((loopP b n op sub f r).2.1 = -1 ∨ 0 ≤ (loopP b n op sub f r).2.1 ∧ (loopP b n op sub f r).2.1 ≤ n) := by
  intro f
  induction f with
  | zero => intro p r hp h; exact h
  | succ f ih =>
    intro p r hp h
    by_cases hc : r.2.1 = -1 ∧ op (tk b n r.1) ≠ 0
    · rw [loopP_y hc.1 hc.2]
      have hlt : r.1 < n := tk_lt (fun z => hc.2 (by rw [z]; exact h0))
      have ha := adv_in (b := b) hlt
      have hsub := hs (adv b n r.1) ha.2
      refine ih p _ hp ⟨by show p ≤ (sub _).1; omega, hsub.2.1, fun h1 => ?_, hsub.2.2.2⟩
      have h2 := hsub.2.2.1 h1
      have h3 := h.2.2.1 hc.1
      show p + (r.2.2.1 ++ (sub (adv b n r.1)).2.2.1 ++ [op (tk b n r.1)]).length ≤ (sub (adv b n r.1)).1
      rw [List.length_append, List.length_append, List.length_singleton]
      omega
    · rw [loopP_n hc]
      exact h
theorem PG_wrap {n : Nat} {s : Int} {k : Nat} {r : PT} {p q : Nat} (hq : p + k ≤ q) (h : q ≤ r.1 ∧ r.1 ≤ n ∧ (r.2.1 = -1 → q + r.2.2.1.length ≤ r.1) ∧ (r.2.1 = -1 ∨ 0 ≤ r.2.1 ∧ r.2.1 ≤ n)) : (wrapK s k r).1 = r.1 ∧ (wrapK s k r).2.1 = r.2.1 ∧ (wrapK s k r).2.2.1 = r.2.2.1 ++ List.replicate k s ∧ p ≤ (wrapK s k r).1 ∧ (wrapK s k r).1 ≤ n ∧ ((wrapK s k r).2.1 = -1 → p + (wrapK s k r).2.2.1.length ≤ (wrapK s k r).1) ∧ ((wrapK s k r).2.1 = -1 ∨ 0 ≤ (wrapK s k r).2.1 ∧ (wrapK s k r).2.1 ≤ n) := by
  have e : (wrapK s k r).1 = r.1 ∧ (wrapK s k r).2.1 = r.2.1 ∧ (wrapK s k r).2.2.1 = r.2.2.1 ++ List.replicate k s := by
    clear hq
    induction k with
    | zero => exact ⟨rfl, rfl, (List.append_nil _).symm⟩
    | succ k ih =>
      refine ⟨ih.1, ih.2.1, ?_⟩
      show (wrapK s k r).2.2.1 ++ [s] = _
      rw [ih.2.2, List.append_assoc, List.replicate_succ']
  refine ⟨e.1, e.2.1, e.2.2, ?_, ?_, fun h1 => ?_, ?_⟩
  · rw [e.1]; omega
  · rw [e.1]; exact h.2.1
  · rw [e.2.1] at h1
    rw [e.1, e.2.2, List.length_append, List.length_replicate]
    have := h.2.2.1 h1
    omega
  · rw [e.2.1]; exact h.2.2.2
theorem PG_atomX {b : Nat → Int} {n m : Nat} {nE : Nat → PT} (hE : PG n nE) : PG n (atomX b n m nE) := by
  intro p hp
  unfold atomX
  split
  · rename_i h
    have hlt : p < n := tk_lt (by rw [h.1]; decide)
    have ha := adv_in (b := b) hlt
    have he := hE (adv b n p) ha.2
    split
    · rename_i h1
      split
      · rename_i h2
        have hlt2 : (nE (adv b n p)).1 < n := tk_lt (by rw [h2]; decide)
        have ha2 := adv_in (b := b) hlt2
        have h3 := he.2.2.1 h1
        refine ⟨by show p ≤ adv b n _; omega, ha2.2, fun _ => ?_, Or.inl rfl⟩
        show p + (nE (adv b n p)).2.2.1.length ≤ adv b n (nE (adv b n p)).1
        omega
      · exact ⟨by show p ≤ (nE _).1; omega, he.2.1, fun h4 => by have : (((nE (adv b n p)).1 : Nat) : Int) = -1 := h4; omega, Or.inr ⟨by show (0 : Int) ≤ ((nE (adv b n p)).1 : Int); omega, by show ((nE (adv b n p)).1 : Int) ≤ n; omega⟩⟩
    · exact ⟨by omega, he.2.1, fun h1 => by have := he.2.2.1 h1; omega, he.2.2.2⟩
  split
  · rename_i h
    have ha := adv_in (b := b) (tk_lt (b := b) (n := n) (p := p) (by rw [h]; decide))
    exact ⟨by show p ≤ adv b n p; omega, ha.2, fun _ => by show p + 1 ≤ adv b n p; omega, Or.inl rfl⟩
  split
  · rename_i h
    have ha := adv_in (b := b) (tk_lt (b := b) (n := n) (p := p) (by rw [h]; decide))
    exact ⟨by show p ≤ adv b n p; omega, ha.2, fun _ => by show p + 1 ≤ adv b n p; omega, Or.inl rfl⟩
  · exact PG_fail n p hp
theorem PG_term {b : Nat → Int} {n : Nat} {one : Nat → PT} (h : PG n one) : PG n (termP b n one) := fun p hp => PG_loop (by decide) h 160 p _ hp (h p hp)
theorem PG_sum {b : Nat → Int} {n : Nat} {one : Nat → PT} (h : PG n one) : PG n (sumP b n one) := fun p hp => PG_loop (by decide) (PG_term h) 160 p _ hp (PG_term h p hp)
theorem PG_denX {b : Nat → Int} {n : Nat} {one : Nat → PT} (h : PG n one) : PG n (denX b n one) := fun p hp => PG_loop (by decide) (PG_sum h) 1 p _ hp (PG_sum h p hp)
theorem PG_both {b : Nat → Int} {n : Nat} {den : Nat → PT} (h : PG n den) : PG n (bothP b n den) := fun p hp => PG_loop (by decide) h 160 p _ hp (h p hp)
theorem PG_eit {b : Nat → Int} {n : Nat} {den : Nat → PT} (h : PG n den) : PG n (eitP b n den) := fun p hp => PG_loop (by decide) (PG_both h) 160 p _ hp (PG_both h p hp)
theorem PG_w1 {b : Nat → Int} {n p : Nat} {s : Int} {F : Nat → PT} (h : PG n F) (hlt : p < n) : p ≤ (wrap1 s (F (adv b n p))).1 ∧ (wrap1 s (F (adv b n p))).1 ≤ n ∧ ((wrap1 s (F (adv b n p))).2.1 = -1 → p + (wrap1 s (F (adv b n p))).2.2.1.length ≤ (wrap1 s (F (adv b n p))).1) ∧ ((wrap1 s (F (adv b n p))).2.1 = -1 ∨ 0 ≤ (wrap1 s (F (adv b n p))).2.1 ∧ (wrap1 s (F (adv b n p))).2.1 ≤ n) := by
  have ha := adv_in (b := b) hlt
  exact (PG_wrap (s := s) (k := 1) (p := p) (q := adv b n p) ha.1 (h _ ha.2)).2.2.2
theorem PG_lvl (b : Nat → Int) (n m : Nat) : PG n (oneL b n m) ∧ PG n (denL b n m) := by
  induction m with
  | zero =>
    have h1 : PG n (oneL b n 0) := by
      intro p hp
      rw [oneL_0]
      split
      · exact PG_fail n p hp
      · exact PG_atomX (PG_fail n) p hp
    refine ⟨h1, fun p hp => ?_⟩
    rw [denL_0]
    split
    · exact PG_fail n p hp
    · exact PG_denX h1 p hp
  | succ m ih =>
    have h1 : PG n (oneL b n (m + 1)) := by
      intro p hp
      rw [oneL_s]
      split
      · rename_i h
        exact PG_w1 ih.1 (tk_lt (by rw [h]; decide))
      · exact PG_atomX (PG_eit ih.2) p hp
    refine ⟨h1, fun p hp => ?_⟩
    rw [denL_s]
    split
    · rename_i h
      exact PG_w1 ih.2 (tk_lt (by rw [h]; decide))
    · exact PG_denX h1 p hp
theorem PG_one (b : Nat → Int) (n m : Nat) : PG n (oneL b n m) := (PG_lvl b n m).1
theorem PG_den (b : Nat → Int) (n m : Nat) : PG n (denL b n m) := (PG_lvl b n m).2
theorem PG_eitL (b : Nat → Int) (n m : Nat) : PG n (eitL b n m) := PG_eit (PG_den b n m)
theorem PG_eitB (b : Nat → Int) (n m : Nat) : PG n (eitB b n m) := by
  cases m with
  | zero => exact PG_fail n
  | succ m => exact PG_eitL b n m
/-! three parts -/
def partP (b : Nat → Int) (n : Nat) (key : Int) (p : Nat) : PT := if tk b n p = key then (if (eitL b n 5 (adv b n p)).2.1 = -1 then (if tk b n (eitL b n 5 (adv b n p)).1 = 59 then (adv b n (eitL b n 5 (adv b n p)).1, -1, (eitL b n 5 (adv b n p)).2.2) else ((eitL b n 5 (adv b n p)).1, ((eitL b n 5 (adv b n p)).1 : Int), (eitL b n 5 (adv b n p)).2.2)) else eitL b n 5 (adv b n p)) else pFail p
def stP (F : Nat → PT) (p : Nat) (f : Int) : PT := if f = -1 then F p else (p, f, [], fun _ => 0)
def rd0 (b : Nat → Int) (n : Nat) : PT := partP b n 4 (span isW b n 0)
def rd1 (b : Nat → Int) (n : Nat) : PT := stP (partP b n 5) (rd0 b n).1 (rd0 b n).2.1
def rd2 (b : Nat → Int) (n : Nat) : PT := stP (partP b n 6) (rd1 b n).1 (rd1 b n).2.1
/-- the FAULT's place, or -1 -/
def rdF (b : Nat → Int) (n : Nat) : Int := if (rd2 b n).2.1 = -1 then (if tk b n (rd2 b n).1 = 0 then -1 else ((rd2 b n).1 : Int)) else (rd2 b n).2.1
theorem PG_part (b : Nat → Int) (n : Nat) (key : Int) (hk : key ≠ 0) : PG n (partP b n key) := by
  intro p hp
  unfold partP
  split
  · rename_i h
    have hlt : p < n := tk_lt (by rw [h]; exact hk)
    have ha := adv_in (b := b) hlt
    have he := PG_eitL b n 5 (adv b n p) ha.2
    split
    · rename_i h1
      split
      · rename_i h2
        have hlt2 : (eitL b n 5 (adv b n p)).1 < n := tk_lt (by rw [h2]; decide)
        have ha2 := adv_in (b := b) hlt2
        have h3 := he.2.2.1 h1
        refine ⟨by show p ≤ adv b n _; omega, ha2.2, fun _ => ?_, Or.inl rfl⟩
        show p + (eitL b n 5 (adv b n p)).2.2.1.length ≤ adv b n (eitL b n 5 (adv b n p)).1
        omega
      · exact ⟨by show p ≤ (eitL b n 5 _).1; omega, he.2.1, fun h4 => by have : (((eitL b n 5 (adv b n p)).1 : Nat) : Int) = -1 := h4; omega, Or.inr ⟨by show (0 : Int) ≤ ((eitL b n 5 (adv b n p)).1 : Int); omega, by show ((eitL b n 5 (adv b n p)).1 : Int) ≤ n; omega⟩⟩
    · exact ⟨by omega, he.2.1, fun h1 => by have := he.2.2.1 h1; omega, he.2.2.2⟩
  · exact PG_fail n p hp
end
