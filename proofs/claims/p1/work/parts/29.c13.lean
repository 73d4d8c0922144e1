/-! the class stays in order -/
theorem WI_per {a b : IM} {w : Nat} (hw : w = 0 ∨ w = 2) (h : ∀ k i s, per k i s → a k i s = b k i s) (hW : WI b w) : WI a w := by
  have w1 := hW.1
  have h18 : ∀ s, a 18 w s = b 18 w s := fun s => h 18 w s (by unfold per; omega)
  have hp : ∀ k p s, p < 5 → (k = 21 ∨ k = 22 ∨ k = 23) → a k (5 * w + p) s = b k (5 * w + p) s := fun k p s h5 hk => h k _ s (by unfold per; omega)
  have ht : ∀ k j s, (k = 3 ∨ k = 4) → a k j s = b k j s := fun k j s hk => h k _ s (by unfold per; omega)
  unfold WI
  simp only [h18]
  refine ⟨hW.1, hW.2.1, hW.2.2.1, hW.2.2.2.1, goodT_congr (fun s => ht 3 _ s (Or.inl rfl)) (fun s => ht 4 _ s (Or.inr rfl)) hW.2.2.2.2.1, fun p hlt => ?_⟩
  have hq := hW.2.2.2.2.2 p hlt
  unfold PI
  rw [hp 21 p 0 (by omega) (by omega), hp 21 p 1 (by omega) (by omega)]
  refine ⟨hq.1, hq.2.1, fun g hg => ?_⟩
  rw [hp 22 p g (by omega) (by omega), hp 23 p g (by omega) (by omega)]
  exact hq.2.2 g hg
theorem SC_agP {a b : IM} (h : agP a b) (hR : RI a) (hS : SC b) : SC a := by
  obtain ⟨-, hW, hh, htc, hru, hgt, hz, hrd, hsh, him, htp⟩ := hS
  have e0 : ∀ s, a 0 0 s = b 0 0 s := fun s => h.1 0 0 s (by unfold per; omega)
  have e18 : ∀ w s, w ≠ 1 → a 18 w s = b 18 w s := fun w s hw => h.1 18 w s (by unfold per; omega)
  have e7 : ∀ j s, a 7 j s = b 7 j s := fun j s => h.1 7 j s (by unfold per; omega)
  have e14 : a 14 0 1 = b 14 0 1 := h.1 14 0 1 (by unfold per; omega)
  have e15 : ∀ s, a 15 0 s = b 15 0 s := fun s => h.1 15 0 s (by unfold per; omega)
  refine ⟨hR, WI_per (Or.inl rfl) h.1 hW, ?_, ?_, ?_, ?_, ?_, ?_, ?_, ?_, ?_⟩
  · rw [e18 0 4 (by omega)]; exact hh
  · rw [e0]; exact htc
  · rw [e18 0 7 (by omega), e0]; exact hru
  · intro j hj
    rw [e0] at hj
    exact goodT_congr (fun s => h.1 3 j s (by unfold per; omega)) (fun s => h.1 4 j s (by unfold per; omega)) (hgt j hj)
  · rw [h.2]; exact hz
  · rw [e14]; exact hrd
  · intro j hj
    rw [e7, e7]; exact hsh j hj
  · rw [e0, e0, e18 2 4 (by omega), e18 2 7 (by omega)]
    exact ⟨him.1, fun h9 => ⟨WI_per (Or.inr rfl) h.1 (him.2 h9).1, (him.2 h9).2⟩⟩
  · intro i hi
    rw [e15]; exact htp i hi
theorem SC_st {lm F : IM} {m' : Mem} (h : stC lm F m') (hS : SC F) : ∃ im' bt' rt', bt' < 6 ∧ rt' < 6 ∧ SC im' ∧ agP im' F ∧ m' = (im', rs bt' rt', lm) := by
  obtain ⟨im', bt', rt', h1, h2, h3, h4, h5⟩ := h
  exact ⟨im', bt', rt', h1, h2, SC_agP h4 h3 hS, h4, h5⟩
/-- only the true world is another -/
theorem SC_w0 {a b : IM} (hS : SC b) (hR : RI a) (hW : WI a 0) (hh : a 18 0 4 ≤ 999) (hr : a 18 0 7 < b 0 0 8) (hf : ∀ k i s, ¬ (k = 18 ∧ i = 0) → ¬ (21 ≤ k ∧ k ≤ 23 ∧ i < 5) → a k i s = b k i s) : SC a := by
  obtain ⟨-, -, -, htc, hru, hgt, hz, hrd, hsh, him, htp⟩ := hS
  have e0 : ∀ s, a 0 0 s = b 0 0 s := fun s => hf 0 0 s (by omega) (by omega)
  have e7 : ∀ j s, a 7 j s = b 7 j s := fun j s => hf 7 j s (by omega) (by omega)
  refine ⟨hR, hW, hh, ?_, ?_, ?_, ?_, ?_, ?_, ?_, ?_⟩
  · rw [e0]; exact htc
  · rw [e0]; exact hr
  · intro j hj
    rw [e0] at hj
    exact goodT_congr (fun s => hf 3 j s (by omega) (by omega)) (fun s => hf 4 j s (by omega) (by omega)) (hgt j hj)
  · rw [hf 13 0 0 (by omega) (by omega)]; exact hz
  · rw [hf 14 0 1 (by omega) (by omega)]; exact hrd
  · intro j hj
    rw [e7, e7]; exact hsh j hj
  · rw [e0, e0, hf 18 2 4 (by omega) (by omega), hf 18 2 7 (by omega) (by omega)]
    refine ⟨him.1, fun h9 => ⟨?_, (him.2 h9).2⟩⟩
    have hW2 := (him.2 h9).1
    have w1 := hW2.1
    exact WI_cells hW2 (fun s _ => hf _ _ _ (by omega) (by omega)) (by rw [hf 18 2 4 (by omega) (by omega)]; exact hW2.2.1) (fun p s _ => hf _ _ _ (by omega) (by omega)) (fun j s => hf _ _ _ (by omega) (by omega)) (fun j s => hf _ _ _ (by omega) (by omega)) (fun p g h5 hp hg => by
      rw [hf _ _ _ (by omega) (by omega), hf 23 _ _ (by omega) (by omega)]
      exact (hW2.2.2.2.2.2 p hp).2.2 g hg)
  · intro i hi
    rw [hf 15 0 i (by omega) (by omega)]; exact htp i hi
theorem SC_set {im : IM} {what of v : Int} (hS : SC im) (hv : ri v) : SC (setM im what of v) := by
  have hW := hS.2.1
  have w1 := hW.1
  unfold setM
  split
  · split
    · refine SC_w0 hS (RI_up hS.1 hv) (WI_cells hW (fun s hs => by rw [up_app, if_neg (by omega)]) (by rw [up_app, if_pos ⟨rfl, rfl, rfl⟩]; omega) (fun p s _ => rfl) (fun j s => rfl) (fun j s => rfl) (fun p g h5 hp hg => (hW.2.2.2.2.2 p hp).2.2 g hg)) (by rw [up_app, if_pos ⟨rfl, rfl, rfl⟩]; omega) (by rw [up_app, if_neg (by omega)]; exact hS.2.2.2.2.1) (fun k i s h1 h2 => by rw [up_app, if_neg (by omega)])
    · exact hS
  split
  · split
    · rename_i hr5
      have hW5 : WI (up im 18 0 5 v) 0 := by
        refine ⟨hW.1, hW.2.1, ?_, hW.2.2.2.1, goodT_congr (fun s => rfl) (fun s => rfl) hW.2.2.2.2.1, hW.2.2.2.2.2⟩
        rw [up_app, if_pos ⟨rfl, rfl, rfl⟩]; exact hr5
      exact SC_w0 hS (RI_up hS.1 hv) hW5 hS.2.2.1 hS.2.2.2.2.1 (fun k i s h1 h2 => by rw [up_app, if_neg (by omega)])
    · exact hS
  split
  · rename_i h
    have hWn : WI (up im 21 (5 * 0 + of.toNat) 1 v) 0 := by
      refine ⟨hW.1, hW.2.1, hW.2.2.1, hW.2.2.2.1, goodT_congr (fun s => rfl) (fun s => rfl) hW.2.2.2.2.1, fun p hp => ?_⟩
      have hq := hW.2.2.2.2.2 p hp
      refine ⟨?_, ?_, hq.2.2⟩
      · rw [up_app, if_neg (by omega)]; exact hq.1
      · rw [up_app]; split
        · exact h.2.2
        · exact hq.2.1
    exact SC_w0 hS (RI_up hS.1 hv) hWn hS.2.2.1 hS.2.2.2.2.1 (fun k i s h1 h2 => by rw [up_app, if_neg (by omega)])
  · exact hS
theorem wel_o {im : IM} {w : Nat} {a b : Int} {k i s : Nat} (h : ¬ (k = 18 ∧ i = w ∧ s = 3)) (h2 : ¬ ((k = 21 ∨ k = 22) ∧ i = 5 * w + (im 18 w 3).toNat)) : welM im w a b k i s = im k i s := by
  unfold welM
  rw [up_app, if_neg h, fl_app, if_neg (by omega), up_app, if_neg (by omega), up_app, if_neg (by omega)]
theorem wel_WI {im : IM} {w : Nat} {a b : Int} (hW : WI im w) (h5 : im 18 w 3 < 5) (ha : 0 ≤ a ∧ a < 6) (hb : 0 ≤ b ∧ b < 10) : WI (welM im w a b) w := by
  have w1 := hW.1
  have e3 : welM im w a b 18 w 3 = im 18 w 3 + 1 := by
    unfold welM; rw [up_app, if_pos ⟨rfl, rfl, rfl⟩]
  refine ⟨by rw [e3]; omega, by rw [wel_o (by omega) (by omega)]; exact hW.2.1, by rw [wel_o (by omega) (by omega)]; exact hW.2.2.1, by rw [wel_o (by omega) (by omega)]; exact hW.2.2.2.1, ?_, fun p hp => ?_⟩
  · rw [wel_o (by omega) (by omega)]
    exact goodT_congr (fun s => wel_o (by omega) (by omega)) (fun s => wel_o (by omega) (by omega)) hW.2.2.2.2.1
  · rw [e3] at hp
    by_cases hpz : p = (im 18 w 3).toNat
    · subst hpz
      have e0 : welM im w a b 21 (5 * w + (im 18 w 3).toNat) 0 = a := by
        unfold welM; simp [up_app, fl_app]
      have e1 : welM im w a b 21 (5 * w + (im 18 w 3).toNat) 1 = b := by
        unfold welM; simp [up_app, fl_app]
      refine ⟨by rw [e0]; exact ha, by rw [e1]; exact hb, fun g hg => ?_⟩
      have e2 : welM im w a b 22 (5 * w + (im 18 w 3).toNat) g = -1 := by
        unfold welM; rw [up_app, if_neg (by omega), fl_app, if_pos ⟨rfl, rfl, hg⟩]
      rw [e2]; omega
    · have hq := hW.2.2.2.2.2 p (by omega)
      refine ⟨by rw [wel_o (by omega) (by omega)]; exact hq.1, by rw [wel_o (by omega) (by omega)]; exact hq.2.1, fun g hg => ?_⟩
      rw [wel_o (by omega) (by omega), wel_o (by omega) (by omega)]
      exact hq.2.2 g hg
theorem wel_RI {im : IM} {w : Nat} {a b : Int} (hR : RI im) (hW : WI im w) (ha : ri a) (hb : ri b) : RI (welM im w a b) := by
  have w1 := hW.1
  unfold welM
  exact RI_up (RI_fl (RI_up (RI_up hR ha) hb) (by constructor <;> omega)) (by constructor <;> omega)
theorem SC_man {im : IM} {a b : Int} (hS : SC im) (ha : ri a) (hb : ri b) : SC (manM im a b) := by
  have hW := hS.2.1
  have w1 := hW.1
  unfold manM
  split
  · rename_i h
    exact SC_w0 hS (wel_RI hS.1 hW ha hb) (wel_WI hW h.2 h.1.1 h.1.2) (by rw [wel_o (by omega) (by omega)]; exact hS.2.2.1) (by rw [wel_o (by omega) (by omega)]; exact hS.2.2.2.2.1) (fun k i s h1 h2 => wel_o (by omega) (by omega))
  · exact hS
theorem SC_fill {im : IM} {man gap w hours : Int} (hS : SC im) : SC (fillM im man gap w hours) := by
  have hW := hS.2.1
  have w1 := hW.1
  unfold fillM
  split
  · rename_i h
    refine SC_w0 hS (RI_up (RI_up hS.1 (by constructor <;> omega)) (by constructor <;> omega)) (WI_cells hW (fun s hs => rfl) hW.2.1 (fun p s _ => rfl) (fun j s => rfl) (fun j s => rfl) (fun p g h5 hp hg => ?_)) hS.2.2.1 hS.2.2.2.2.1 (fun k i s h1 h2 => by rw [up_app, if_neg (by omega), up_app, if_neg (by omega)])
    have hb := (hW.2.2.2.2.2 p hp).2.2 g hg
    simp only [up_app]
    (repeat' split) <;> omega
  · exact hS
theorem SC_feed {im : IM} {c : Int} (hS : SC im) : SC (feedM im c) := by
  unfold feedM
  split
  · rename_i h
    obtain ⟨hR, hW, hh, htc, hru, hgt, hz, hrd, hsh, him, htp⟩ := hS
    refine ⟨RI_up (RI_up hR (by constructor <;> omega)) (by constructor <;> omega), WI_cells hW (fun s hs => rfl) hW.2.1 (fun p s _ => rfl) (fun j s => rfl) (fun j s => rfl) (fun p g h5 hp hg => (hW.2.2.2.2.2 p hp).2.2 g hg), hh, htc, hru, fun j hj => goodT_congr (fun s => rfl) (fun s => rfl) (hgt j hj), hz, ?_, hsh, ⟨him.1, fun h9 => ⟨WI_cells (him.2 h9).1 (fun s hs => rfl) (him.2 h9).1.2.1 (fun p s _ => rfl) (fun j s => rfl) (fun j s => rfl) (fun p g h5 hp hg => ((him.2 h9).1.2.2.2.2.2 p hp).2.2 g hg), (him.2 h9).2⟩⟩, fun i hi => ?_⟩
    · rw [up_app, if_pos ⟨rfl, rfl, rfl⟩]; omega
    · have := htp i hi
      rw [up_app, if_neg (by omega), up_app]
      split <;> omega
  · exact hS
theorem SC_force {im : IM} {t : Int} (hS : SC im) : SC (forceM im t) := by
  have hW := hS.2.1
  unfold forceM
  split
  · rename_i h
    obtain ⟨hR, hW, hh, htc, hru, hgt, hz, hrd, hsh, him, htp⟩ := hS
    have hS' : SC im := ⟨hR, hW, hh, htc, hru, hgt, hz, hrd, hsh, him, htp⟩
    have hW7 : WI (up im 18 0 7 t) 0 := by
      refine ⟨hW.1, hW.2.1, hW.2.2.1, ?_, ?_, hW.2.2.2.2.2⟩
      · rw [up_app, if_pos ⟨rfl, rfl, rfl⟩]; omega
      · rw [up_app, if_pos ⟨rfl, rfl, rfl⟩]
        exact goodT_congr (fun s => rfl) (fun s => rfl) (hgt t.toNat (by omega))
    exact SC_w0 hS' (RI_up hR (by constructor <;> omega)) hW7 hh (by rw [up_app, if_pos ⟨rfl, rfl, rfl⟩]; exact h.2) (fun k i s h1 h2 => by rw [up_app, if_neg (by omega)])
  · exact hS
theorem utt_RI {im : IM} {w man : Nat} {word food : Int} (hR : RI im) (hwo : 0 ≤ word ∧ word < 16) : RI (uttM im w man word food) := by
  unfold uttM
  split
  · exact hR
  · exact RI_up (RI_up hR (by constructor <;> omega)) (by constructor <;> omega)
theorem SC_say {im : IM} {man w food : Int} (hS : SC im) : SC (sayM im man w food) := by
  have hW := hS.2.1
  have w1 := hW.1
  unfold sayM
  split
  · rename_i h
    exact SC_w0 hS (utt_RI hS.1 h.2.1) (utt_WI hW h.2.1) (by rw [utt_o _ _ _ _ _ (by omega)]; exact hS.2.2.1) (by rw [utt_o _ _ _ _ _ (by omega)]; exact hS.2.2.2.2.1) (fun k i s h1 h2 => utt_o _ _ _ _ _ (by omega))
  · exact hS
theorem SC_floss {im : IM} {man gap : Int} (hS : SC im) : SC (flossM im man gap) := by
  have hW := hS.2.1
  have w1 := hW.1
  unfold flossM
  split
  · rename_i h
    exact SC_w0 hS (RI_up hS.1 (by constructor <;> omega)) (flo_WI hW) hS.2.2.1 hS.2.2.2.2.1 (fun k i s h1 h2 => by rw [up_app, if_neg (by omega)])
  · exact hS
theorem SC_kiss {im : IM} {man other : Int} (hS : SC im) : SC (kissM im man other) := by
  have hW := hS.2.1
  have w1 := hW.1
  unfold kissM
  split
  · rename_i h
    exact SC_w0 hS (RI_hnd hS.1) (hnd_WI hW (by omega)) (by rw [hnd_o _ _ _ _ (by omega)]; exact hS.2.2.1) (by rw [hnd_o _ _ _ _ (by omega)]; exact hS.2.2.2.2.1) (fun k i s h1 h2 => hnd_o _ _ _ _ (by omega))
  · exact hS
theorem SC_live {im : IM} (hS : SC im) : SC (liveM im) := by
  have hW := hS.2.1
  have w1 := hW.1
  have w2 := hW.2.1
  have hh := hS.2.2.1
  unfold liveM
  split
  · exact hS
  · exact SC_w0 hS (RI_up (RI_pas hS.1) (by constructor <;> omega)) (pas_WI hW (by omega)) (by rw [up_app, if_pos ⟨rfl, rfl, rfl⟩]; omega) (by rw [up_app, if_neg (by omega), pasM_18 _ _ _ (by decide)]; exact hS.2.2.2.2.1) (fun k i s h1 h2 => by rw [up_app, if_neg (by omega), pasM_o _ _ _ (by omega) (by omega) (by omega)])
/-! the image, the sheets -/
def imageM (im : IM) : IM := up (becM im 2 0) 0 0 9 1
def backA (im : IM) : Int := if im 0 0 9 = 0 then -3 else im 18 2 3
def backM (im : IM) : IM := if im 0 0 9 = 0 then im else becM im 0 2
theorem bec_o {im : IM} {w v n k i s : Nat} (h : ¬ (k = 18 ∧ i = w)) (h2 : ¬ (21 ≤ k ∧ k ≤ 23 ∧ 5 * w ≤ i ∧ i < 5 * w + n)) : becP im w v n k i s = im k i s := by
  rw [becP_app, if_neg (by omega), if_neg (by omega)]
theorem SC_image {im : IM} (hS : SC im) : SC (imageM im) := by
  obtain ⟨hR, hW, hh, htc, hru, hgt, hz, hrd, hsh, him, htp⟩ := hS
  have w1 := hW.1
  have hf : ∀ k i s, ¬ (k = 0 ∧ s = 9) → ¬ (k = 18 ∧ i = 2) → ¬ (21 ≤ k ∧ k ≤ 23 ∧ 10 ≤ i) → imageM im k i s = im k i s := by
    intro k i s h1 h2 h3
    unfold imageM becM
    rw [up_app, if_neg (by omega), bec_o h2 (by omega)]
  have hf2 : ∀ k i s, k ≠ 0 → imageM im k i s = becM im 2 0 k i s := by
    intro k i s h1
    unfold imageM
    rw [up_app, if_neg (by omega)]
  refine ⟨RI_up (RI_bec hR) (by constructor <;> omega), ?_, ?_, ?_, ?_, ?_, ?_, ?_, ?_, ?_, ?_⟩
  · exact WI_cells hW (fun s _ => hf _ _ _ (by omega) (by omega) (by omega)) (by rw [hf _ _ _ (by omega) (by omega) (by omega)]; exact hW.2.1) (fun p s _ => hf _ _ _ (by omega) (by omega) (by omega)) (fun j s => hf _ _ _ (by omega) (by omega) (by omega)) (fun j s => hf _ _ _ (by omega) (by omega) (by omega)) (fun p g h5 hp hg => by
      rw [hf _ _ _ (by omega) (by omega) (by omega), hf 23 _ _ (by omega) (by omega) (by omega)]
      exact (hW.2.2.2.2.2 p hp).2.2 g hg)
  · rw [hf _ _ _ (by omega) (by omega) (by omega)]; exact hh
  · rw [hf _ _ _ (by omega) (by omega) (by omega)]; exact htc
  · rw [hf _ _ _ (by omega) (by omega) (by omega), hf _ _ _ (by omega) (by omega) (by omega)]; exact hru
  · intro j hj
    rw [hf _ _ _ (by omega) (by omega) (by omega)] at hj
    exact goodT_congr (fun s => hf _ _ _ (by omega) (by omega) (by omega)) (fun s => hf _ _ _ (by omega) (by omega) (by omega)) (hgt j hj)
  · rw [hf _ _ _ (by omega) (by omega) (by omega)]; exact hz
  · rw [hf _ _ _ (by omega) (by omega) (by omega)]; exact hrd
  · intro j hj
    rw [hf _ _ _ (by omega) (by omega) (by omega), hf _ _ _ (by omega) (by omega) (by omega)]; exact hsh j hj
  · refine ⟨Or.inr (by unfold imageM; rw [up_app, if_pos ⟨rfl, rfl, rfl⟩]), fun _ => ⟨?_, ?_, ?_⟩⟩
    · have hb : WI (becM im 2 0) 2 := bec_WI hW
      exact WI_cells hb (fun s _ => hf2 _ _ _ (by omega)) (by rw [hf2 _ _ _ (by omega)]; exact hb.2.1) (fun p s _ => hf2 _ _ _ (by omega)) (fun j s => hf2 _ _ _ (by omega)) (fun j s => hf2 _ _ _ (by omega)) (fun p g h5 hp hg => by
        rw [hf2 _ _ _ (by omega), hf2 23 _ _ (by omega)]
        exact (hb.2.2.2.2.2 p hp).2.2 g hg)
    · rw [hf2 _ _ _ (by omega)]; unfold becM; rw [bec_18 (by omega)]; exact hh
    · rw [hf2 _ _ _ (by omega), hf 0 _ _ (by omega) (by omega) (by omega)]; unfold becM; rw [bec_18 (by omega)]; exact hru
  · intro i hi
    rw [hf _ _ _ (by omega) (by omega) (by omega)]; exact htp i hi
theorem SC_back {im : IM} (hS : SC im) : SC (backM im) := by
  obtain ⟨hR, hW, hh, htc, hru, hgt, hz, hrd, hsh, him, htp⟩ := hS
  have hS' : SC im := ⟨hR, hW, hh, htc, hru, hgt, hz, hrd, hsh, him, htp⟩
  unfold backM
  split
  · exact hS'
  · have h9 := him.2 (by omega)
    have w1 := h9.1.1
    exact SC_w0 hS' (RI_bec hR) (bec_WI h9.1) (by unfold becM; rw [bec_18 (by omega)]; exact h9.2.1) (by unfold becM; rw [bec_18 (by omega)]; exact h9.2.2) (fun k i s h1 h2 => by unfold becM; rw [bec_o h1 (by omega)])
/-- only the sheets are others -/
theorem SC_sh {a b : IM} (hS : SC b) (hR : RI a) (hf : ∀ k i s, ¬ (k = 7 ∨ k = 8) → a k i s = b k i s) (h7 : ∀ j, j < 4 → -1 ≤ a 7 j 1 ∧ a 7 j 1 ≤ 2 ∧ 0 ≤ a 7 j 2 ∧ a 7 j 2 ≤ 40) : SC a := by
  obtain ⟨-, hW, hh, htc, hru, hgt, hz, hrd, hsh, him, htp⟩ := hS
  have hw : ∀ w, WI b w → WI a w := fun w hw => WI_cells hw (fun s _ => hf _ _ _ (by omega)) (by rw [hf _ _ _ (by omega)]; exact hw.2.1) (fun p s _ => hf _ _ _ (by omega)) (fun j s => hf _ _ _ (by omega)) (fun j s => hf _ _ _ (by omega)) (fun p g h5 hp hg => by
        rw [hf _ _ _ (by omega), hf 23 _ _ (by omega)]
        exact (hw.2.2.2.2.2 p hp).2.2 g hg)
  refine ⟨hR, hw 0 hW, ?_, ?_, ?_, ?_, ?_, ?_, h7, ?_, ?_⟩
  · rw [hf _ _ _ (by omega)]; exact hh
  · rw [hf _ _ _ (by omega)]; exact htc
  · rw [hf _ _ _ (by omega), hf _ _ _ (by omega)]; exact hru
  · intro j hj
    rw [hf _ _ _ (by omega)] at hj
    exact goodT_congr (fun s => hf _ _ _ (by omega)) (fun s => hf _ _ _ (by omega)) (hgt j hj)
  · rw [hf _ _ _ (by omega)]; exact hz
  · rw [hf _ _ _ (by omega)]; exact hrd
  · rw [hf _ _ _ (by omega), hf 0 0 8 (by omega), hf 18 _ _ (by omega), hf 18 _ _ (by omega)]
    exact ⟨him.1, fun h9 => ⟨hw 2 (him.2 h9).1, (him.2 h9).2⟩⟩
  · intro i hi
    rw [hf _ _ _ (by omega)]; exact htp i hi
def sheetA (sheet sort n : Int) : Int := if (0 ≤ sheet ∧ sheet < 4) ∧ -1 ≤ sort ∧ sort ≤ 2 then (if sort ≠ -1 ∧ 40 < n then -2 else if sort ≠ -1 ∧ n < 0 then -14 else 1) else -2
def sheetM (im : IM) (sheet sort n : Int) : IM := if sheetA sheet sort n = 1 then zr (up (up im 7 sheet.toNat 1 sort) 7 sheet.toNat 2 (if sort = -1 then 0 else n)) 8 sheet.toNat 40 else im
def cellA (im : IM) (sheet i : Int) : Int := if 0 ≤ sheet ∧ sheet < 4 then (if im 7 sheet.toNat 1 = -1 then -11 else if 0 ≤ i ∧ i < im 7 sheet.toNat 2 then 1 else -12) else -2
def cellM (im : IM) (sheet i v : Int) : IM := if cellA im sheet i = 1 then up im 8 sheet.toNat i.toNat (cutN (im 7 sheet.toNat 1) v) else im
def copyA (im : IM) (a i b j n : Int) : Int := if (0 ≤ a ∧ a < 4) ∧ 0 ≤ b ∧ b < 4 then (if im 7 a.toNat 1 = -1 ∨ im 7 b.toNat 1 = -1 then -11 else if im 7 a.toNat 1 ≠ im 7 b.toNat 1 then -13 else if (0 ≤ i ∧ 0 ≤ n ∧ i + n ≤ im 7 a.toNat 2) ∧ 0 ≤ j ∧ 0 ≤ n ∧ j + n ≤ im 7 b.toNat 2 then n else -12) else -2
def copyM (im : IM) (a i b j n : Int) : IM := if 0 ≤ copyA im a i b j n then cpy im 8 a.toNat i.toNat 8 b.toNat j.toNat n.toNat else im
theorem SC_sheet {im : IM} {sheet sort n : Int} (hS : SC im) : SC (sheetM im sheet sort n) := by
  unfold sheetM
  split
  · rename_i h
    have hs : (-1 ≤ sort ∧ sort ≤ 2) ∧ 0 ≤ (if sort = -1 then 0 else n) ∧ (if sort = -1 then 0 else n) ≤ 40 := by
      unfold sheetA at h
      (repeat' split at h) <;> (try split) <;> omega
    refine SC_sh hS (RI_zr (RI_up (RI_up hS.1 (by constructor <;> omega)) (by constructor <;> omega))) (fun k i s hk => ?_) (fun j hj => ?_)
    · rw [zr_app, if_neg (by omega), up_app, if_neg (by omega), up_app, if_neg (by omega)]
    · have hj2 := hS.2.2.2.2.2.2.2.2.1 j hj
      simp only [zr_app, up_app]
      (repeat' split) <;> omega
  · exact hS
theorem SC_cell {im : IM} {sheet i v : Int} (hS : SC im) (hv : ri v) : SC (cellM im sheet i v) := by
  unfold cellM
  split
  · exact SC_sh hS (RI_up hS.1 (cutN_ri hv)) (fun k i s hk => by rw [up_app, if_neg (by omega)]) hS.2.2.2.2.2.2.2.2.1
  · exact hS
theorem SC_copy {im : IM} {a i b j n : Int} (hS : SC im) : SC (copyM im a i b j n) := by
  unfold copyM
  split
  · exact SC_sh hS (RI_cpy hS.1) (fun k i s hk => by rw [cpy_app, if_neg (by omega)]) (fun q hq => by
      rw [cpy_app, if_neg (by omega), cpy_app, if_neg (by omega)]; exact hS.2.2.2.2.2.2.2.2.1 q hq)
  · exact hS

def countA (im : IM) (what : Int) : Int := if what = 0 then im 18 0 3 else if what = 1 then cntA im 0 (im 18 0 3).toNat else if what = 2 then im 18 0 6 else if what = 3 then im 0 0 8 else if what = 4 then im 14 0 1 else if what = 5 then im 18 0 7 else -2

set_option maxHeartbeats 4000000 in
theorem c_X8_count (l : Launch) (G : GS) (im : IM) (bt rt : Nat) (lm : IM) (hbt : bt < 6) (hrt : rt < 6) (hS : SC im) (what : Int) (hwhat : ri what) : Cn l (XC G) yX8_count Y_X8_count [vR 0 0, vI what] (im, rs bt rt, lm) (pI fun x m' => x = countA im what ∧ stC lm im m') := by
  refine cn_of (by decide) (okC G) rfl (Nat.le_of_ble_eq_true rfl) ?_
  intro M ad hMl F
  subst hMl
  obtain ⟨hR, hW, hh, htc, hru, hgt, hz, hrd, hsh, him, htp⟩ := hS
  have w1 := hW.1
  have w2 := hW.2.1
  have w3 := hW.2.2.1
  have w4 := hW.2.2.2.1
  have w5 := hW.2.2.2.2.1
  have hwhat1 := hwhat.1
  have hwhat2 := hwhat.2
  refine wp_pad 0 ?_
  show Wp M (XC G) ad Y_X8_count (pI fun x m' => x = countA im what ∧ stC lm im m') 0 [some (vR 0 0), some (vI what)] [] (im, rs bt rt, lm)
  refine q_iload_n (t := 1) F dX8_count_0 rfl rfl rfl ?_
  have sw1 : what < 0 ∨ 5 < what ∨ what = 0 ∨ what = 1 ∨ what = 2 ∨ what = 3 ∨ what = 4 ∨ what = 5 := by omega
  rcases sw1 with c1 | c1 | c1 | c1 | c1 | c1 | c1 | c1
  · refine q_tableOut (t := 85) F dX8_count_1 (by first | exact hR _ _ _ | (constructor <;> omega)) (Or.inl c1) (by decide) ?_
    refine q_bipush (t := 87) F dX8_count_85 (by decide) rfl ?_
    refine q_iret F dX8_count_87 rfl ?_
    refine ⟨_, rfl, ?_, _, bt, rt, hbt, hrt, hR, agP_rfl _, rfl⟩
    unfold countA
    first
      | (subst c1; rfl)
      | (rw [if_neg (by omega), if_neg (by omega), if_neg (by omega), if_neg (by omega), if_neg (by omega), if_neg (by omega)])
  · refine q_tableOut (t := 85) F dX8_count_1 (by first | exact hR _ _ _ | (constructor <;> omega)) (Or.inr c1) (by decide) ?_
    refine q_bipush (t := 87) F dX8_count_85 (by decide) rfl ?_
    refine q_iret F dX8_count_87 rfl ?_
    refine ⟨_, rfl, ?_, _, bt, rt, hbt, hrt, hR, agP_rfl _, rfl⟩
    unfold countA
    first
      | (subst c1; rfl)
      | (rw [if_neg (by omega), if_neg (by omega), if_neg (by omega), if_neg (by omega), if_neg (by omega), if_neg (by omega)])
  · refine q_tableIn (t := 40) F dX8_count_1 (by first | exact hR _ _ _ | (constructor <;> omega)) (by omega) (by omega) (by rw [c1]; rfl) (by decide) ?_
    refine q_aload_n (t := 41) F dX8_count_40 rfl rfl rfl ?_
    refine g_X8_51 (t := 44) F dX8_count_41 rfl rfl ?_
    refine g_X8_115 (t := 47) F dX8_count_44 rfl (by omega) rfl ?_
    refine q_iret F dX8_count_47 rfl ?_
    refine ⟨_, rfl, ?_, _, bt, rt, hbt, hrt, hR, agP_rfl _, rfl⟩
    unfold countA
    first
      | (subst c1; rfl)
      | (rw [if_neg (by omega), if_neg (by omega), if_neg (by omega), if_neg (by omega), if_neg (by omega), if_neg (by omega)])
  · refine q_tableIn (t := 48) F dX8_count_1 (by first | exact hR _ _ _ | (constructor <;> omega)) (by omega) (by omega) (by rw [c1]; rfl) (by decide) ?_
    refine q_aload_n (t := 49) F dX8_count_48 rfl rfl rfl ?_
    refine g_X8_51 (t := 52) F dX8_count_49 rfl rfl ?_
    refine wp_callV (t := 55) [] F dX8_count_52 k_X7_stuckInAll v_X7_stuckInAll ml_X8_239 rfl rfl rfl rfl (Nat.le_of_ble_eq_true rfl) (by decide) (m_18 (by omega)) (c_X7_stuckInAll _ G im bt rt lm 0 (by omega) hR w1.1 w1.2) rfl (kI ?_)
    rintro x52 m' ⟨rfl, rfl⟩
    refine q_iret F dX8_count_55 rfl ?_
    refine ⟨_, rfl, ?_, _, bt, rt, hbt, hrt, hR, agP_rfl _, rfl⟩
    unfold countA
    first
      | (subst c1; rfl)
      | (rw [if_neg (by omega), if_neg (by omega), if_neg (by omega), if_neg (by omega), if_neg (by omega), if_neg (by omega)])
  · refine q_tableIn (t := 56) F dX8_count_1 (by first | exact hR _ _ _ | (constructor <;> omega)) (by omega) (by omega) (by rw [c1]; rfl) (by decide) ?_
    refine q_aload_n (t := 57) F dX8_count_56 rfl rfl rfl ?_
    refine g_X8_51 (t := 60) F dX8_count_57 rfl rfl ?_
    refine g_X8_230 (t := 63) F dX8_count_60 rfl (by omega) rfl ?_
    refine q_iret F dX8_count_63 rfl ?_
    refine ⟨_, rfl, ?_, _, bt, rt, hbt, hrt, hR, agP_rfl _, rfl⟩
    unfold countA
    first
      | (subst c1; rfl)
      | (rw [if_neg (by omega), if_neg (by omega), if_neg (by omega), if_neg (by omega), if_neg (by omega), if_neg (by omega)])
  · refine q_tableIn (t := 64) F dX8_count_1 (by first | exact hR _ _ _ | (constructor <;> omega)) (by omega) (by omega) (by rw [c1]; rfl) (by decide) ?_
    refine q_aload_n (t := 65) F dX8_count_64 rfl rfl rfl ?_
    refine g_X8_81 (t := 68) F dX8_count_65 rfl rfl ?_
    refine q_iret F dX8_count_68 rfl ?_
    refine ⟨_, rfl, ?_, _, bt, rt, hbt, hrt, hR, agP_rfl _, rfl⟩
    unfold countA
    first
      | (subst c1; rfl)
      | (rw [if_neg (by omega), if_neg (by omega), if_neg (by omega), if_neg (by omega), if_neg (by omega), if_neg (by omega)])
  · refine q_tableIn (t := 69) F dX8_count_1 (by first | exact hR _ _ _ | (constructor <;> omega)) (by omega) (by omega) (by rw [c1]; rfl) (by decide) ?_
    refine q_aload_n (t := 70) F dX8_count_69 rfl rfl rfl ?_
    refine g_X8_35 (t := 73) F dX8_count_70 rfl rfl ?_
    refine g_X8_146 (t := 76) F dX8_count_73 rfl rfl ?_
    refine q_iret F dX8_count_76 rfl ?_
    refine ⟨_, rfl, ?_, _, bt, rt, hbt, hrt, hR, agP_rfl _, rfl⟩
    unfold countA
    first
      | (subst c1; rfl)
      | (rw [if_neg (by omega), if_neg (by omega), if_neg (by omega), if_neg (by omega), if_neg (by omega), if_neg (by omega)])
  · refine q_tableIn (t := 77) F dX8_count_1 (by first | exact hR _ _ _ | (constructor <;> omega)) (by omega) (by omega) (by rw [c1]; rfl) (by decide) ?_
    refine q_aload_n (t := 78) F dX8_count_77 rfl rfl rfl ?_
    refine g_X8_51 (t := 81) F dX8_count_78 rfl rfl ?_
    refine g_X8_147 (t := 84) F dX8_count_81 rfl (by omega) rfl ?_
    refine q_iret F dX8_count_84 rfl ?_
    refine ⟨_, rfl, ?_, _, bt, rt, hbt, hrt, hR, agP_rfl _, rfl⟩
    unfold countA
    first
      | (subst c1; rfl)
      | (rw [if_neg (by omega), if_neg (by omega), if_neg (by omega), if_neg (by omega), if_neg (by omega), if_neg (by omega)])

def imageA (im : IM) : Int := imageM im 18 0 3

set_option maxHeartbeats 4000000 in
theorem c_X8_image (l : Launch) (G : GS) (im : IM) (bt rt : Nat) (lm : IM) (hbt : bt < 6) (hrt : rt < 6) (hS : SC im) : Cn l (XC G) yX8_image Y_X8_image [vR 0 0] (im, rs bt rt, lm) (pI fun x m' => x = imageA im  ∧ stC lm (imageM im ) m') := by
  refine cn_of (by decide) (okC G) rfl (Nat.le_of_ble_eq_true rfl) ?_
  intro M ad hMl F
  subst hMl
  obtain ⟨hR, hW, hh, htc, hru, hgt, hz, hrd, hsh, him, htp⟩ := hS
  have w1 := hW.1
  have w2 := hW.2.1
  have w3 := hW.2.2.1
  have w4 := hW.2.2.2.1
  have w5 := hW.2.2.2.2.1
  refine wp_pad 0 ?_
  show Wp M (XC G) ad Y_X8_image (pI fun x m' => x = imageA im  ∧ stC lm (imageM im ) m') 0 [some (vR 0 0)] [] (im, rs bt rt, lm)
  refine q_aload_n (t := 1) F dX8_image_0 rfl rfl rfl ?_
  refine g_X8_58 (t := 4) F dX8_image_1 rfl rfl ?_
  refine q_aload_n (t := 5) F dX8_image_4 rfl rfl rfl ?_
  refine g_X8_51 (t := 8) F dX8_image_5 rfl rfl ?_
  refine wp_callV (t := 11) [_] F dX8_image_8 k_X7_become v_X7_become ml_X8_226 rfl rfl rfl rfl (Nat.le_of_ble_eq_true rfl) (by decide) (m_18 (by omega)) (c_X7_become _ G im bt rt lm 2 0 (by omega) (by omega) (by omega) hR w1.1 w1.2) rfl (kV ?_)
  rintro m' rfl
  refine q_aload_n (t := 12) F dX8_image_11 rfl rfl rfl ?_
  refine q_iconst (t := 13) F dX8_image_12 rfl ?_
  refine p_X8_277 (t := 16) F dX8_image_13 rfl (by omega) rfl ?_
  refine q_aload_n (t := 17) F dX8_image_16 rfl rfl rfl ?_
  refine g_X8_51 (t := 20) F dX8_image_17 rfl rfl ?_
  refine g_X8_115 (t := 23) F dX8_image_20 rfl (by omega) rfl ?_
  try simp only [up_app, row_app, scr_app, cpy_app, Nat.reduceEqDiff, Int.reduceToNat, Int.toNat_natCast, and_true, true_and, and_false, false_and, and_self, reduceIte]
  refine q_iret F dX8_image_23 rfl ?_
  refine ⟨_, rfl, ?_, _, bt, rt, hbt, hrt, RI_up (RI_bec hR) (by constructor <;> omega), agP_rfl _, rfl⟩
  rfl

set_option maxHeartbeats 4000000 in
theorem c_X8_back (l : Launch) (G : GS) (im : IM) (bt rt : Nat) (lm : IM) (hbt : bt < 6) (hrt : rt < 6) (hS : SC im) : Cn l (XC G) yX8_back Y_X8_back [vR 0 0] (im, rs bt rt, lm) (pI fun x m' => x = backA im  ∧ stC lm (backM im ) m') := by
  refine cn_of (by decide) (okC G) rfl (Nat.le_of_ble_eq_true rfl) ?_
  intro M ad hMl F
  subst hMl
  obtain ⟨hR, hW, hh, htc, hru, hgt, hz, hrd, hsh, him, htp⟩ := hS
  have w1 := hW.1
  have w2 := hW.2.1
  have w3 := hW.2.2.1
  have w4 := hW.2.2.2.1
  have w5 := hW.2.2.2.2.1
  refine wp_pad 0 ?_
  show Wp M (XC G) ad Y_X8_back (pI fun x m' => x = backA im  ∧ stC lm (backM im ) m') 0 [some (vR 0 0)] [] (im, rs bt rt, lm)
  refine q_aload_n (t := 1) F dX8_back_0 rfl rfl rfl ?_
  refine g_X8_277 (t := 4) F dX8_back_1 rfl rfl ?_
  refine q_if_ne (t := 7) (u := 10) F dX8_back_4 (by first | exact hR _ _ _ | (constructor <;> omega)) (by decide) rfl (fun c4 => ?_) (fun c4 => ?_)
  · refine q_aload_n (t := 11) F dX8_back_10 rfl rfl rfl ?_
    refine g_X8_51 (t := 14) F dX8_back_11 rfl rfl ?_
    refine q_aload_n (t := 15) F dX8_back_14 rfl rfl rfl ?_
    refine g_X8_58 (t := 18) F dX8_back_15 rfl rfl ?_
    refine wp_callV (t := 21) [_] F dX8_back_18 k_X7_become v_X7_become ml_X8_226 rfl rfl rfl rfl (Nat.le_of_ble_eq_true rfl) (by decide) (m_18 (by omega)) (c_X7_become _ G im bt rt lm 0 2 (by omega) (by omega) (by omega) hR (him.2 (by omega)).1.1.1 (him.2 (by omega)).1.1.2) rfl (kV ?_)
    rintro m' rfl
    refine q_aload_n (t := 22) F dX8_back_21 rfl rfl rfl ?_
    refine g_X8_51 (t := 25) F dX8_back_22 rfl rfl ?_
    refine g_X8_115 (t := 28) F dX8_back_25 rfl (by omega) rfl ?_
    try simp only [up_app, row_app, scr_app, cpy_app, Nat.reduceEqDiff, Int.reduceToNat, Int.toNat_natCast, and_true, true_and, and_false, false_and, and_self, reduceIte]
    refine q_iret F dX8_back_28 rfl ?_
    refine ⟨_, rfl, ?_, _, bt, rt, hbt, hrt, RI_bec hR, ?_, rfl⟩
    · unfold backA
      rw [if_neg (by omega)]
      rfl
    · unfold backM
      rw [if_neg (by omega)]
      exact agP_rfl _
  · refine q_bipush (t := 9) F dX8_back_7 (by decide) rfl ?_
    refine q_iret F dX8_back_9 rfl ?_
    refine ⟨_, rfl, ?_, _, bt, rt, hbt, hrt, (by repeat' first | exact hR | refine RI_up ?_ ?_ | assumption | exact hR _ _ _ | (constructor <;> omega)), ?_, rfl⟩
    · unfold backA
      (repeat' split) <;> omega
    · unfold backM
      (repeat' split) <;> first | exact agP_rfl _ | (exfalso; omega)

set_option maxHeartbeats 4000000 in
theorem c_X8_sheet (l : Launch) (G : GS) (im : IM) (bt rt : Nat) (lm : IM) (hbt : bt < 6) (hrt : rt < 6) (hS : SC im) (sheet sort n : Int) (hsheet : ri sheet) (hsort : ri sort) (hn : ri n) : Cn l (XC G) yX8_sheet Y_X8_sheet [vR 0 0, vI sheet, vI sort, vI n] (im, rs bt rt, lm) (pI fun x m' => x = sheetA sheet sort n ∧ stC lm (sheetM im sheet sort n) m') := by
  refine cn_of (by decide) (okC G) rfl (Nat.le_of_ble_eq_true rfl) ?_
  intro M ad hMl F
  subst hMl
  obtain ⟨hR, hW, hh, htc, hru, hgt, hz, hrd, hsh, him, htp⟩ := hS
  have w1 := hW.1
  have w2 := hW.2.1
  have w3 := hW.2.2.1
  have w4 := hW.2.2.2.1
  have w5 := hW.2.2.2.2.1
  have hsheet1 := hsheet.1
  have hsheet2 := hsheet.2
  have hsort1 := hsort.1
  have hsort2 := hsort.2
  have hn1 := hn.1
  have hn2 := hn.2
  refine wp_pad 0 ?_
  show Wp M (XC G) ad Y_X8_sheet (pI fun x m' => x = sheetA sheet sort n ∧ stC lm (sheetM im sheet sort n) m') 0 [some (vR 0 0), some (vI sheet), some (vI sort), some (vI n)] [] (im, rs bt rt, lm)
  refine q_iload_n (t := 1) F dX8_sheet_0 rfl rfl rfl ?_
  refine q_iconst (t := 2) F dX8_sheet_1 rfl ?_
  refine wp_callS (t := 5) [_, _] F dX8_sheet_2 k_X8_within st_X8_within ml_X8_95 rfl rfl (Nat.le_of_ble_eq_true rfl) (by decide) (c_X8_within _ G _ bt rt lm sheet 4 hsheet (by constructor <;> omega)) rfl (kI ?_)
  rintro x2 m' ⟨hx2, rfl⟩
  have hx2 := if01 hx2
  refine q_if_eq (t := 8) (u := 18) F dX8_sheet_5 (by first | exact hR _ _ _ | (constructor <;> omega)) (by decide) rfl (fun c5 => ?_) (fun c5 => ?_)
  · refine q_bipush (t := 20) F dX8_sheet_18 (by decide) rfl ?_
    refine q_iret F dX8_sheet_20 rfl ?_
    have hx : sheetA sheet sort n = -2 := by
      unfold sheetA
      (repeat' split) <;> omega
    refine ⟨_, rfl, hx.symm, _, bt, rt, hbt, hrt, hR, ?_, rfl⟩
    unfold sheetM
    rw [if_neg (by omega)]
    exact agP_rfl _
  · refine q_iload_n (t := 9) F dX8_sheet_8 rfl rfl rfl ?_
    refine q_iconst (t := 10) F dX8_sheet_9 rfl ?_
    refine q_icmp_lt (t := 13) (u := 18) F dX8_sheet_10 (by first | exact hR _ _ _ | (constructor <;> omega)) (by first | exact hR _ _ _ | (constructor <;> omega)) (by decide) rfl (fun c10 => ?_) (fun c10 => ?_)
    · refine q_bipush (t := 20) F dX8_sheet_18 (by decide) rfl ?_
      refine q_iret F dX8_sheet_20 rfl ?_
      have hx : sheetA sheet sort n = -2 := by
        unfold sheetA
        (repeat' split) <;> omega
      refine ⟨_, rfl, hx.symm, _, bt, rt, hbt, hrt, hR, ?_, rfl⟩
      unfold sheetM
      rw [if_neg (by omega)]
      exact agP_rfl _
    · refine q_iload_n (t := 14) F dX8_sheet_13 rfl rfl rfl ?_
      refine q_iconst (t := 15) F dX8_sheet_14 rfl ?_
      refine q_icmp_le (t := 18) (u := 21) F dX8_sheet_15 (by first | exact hR _ _ _ | (constructor <;> omega)) (by first | exact hR _ _ _ | (constructor <;> omega)) (by decide) rfl (fun c15 => ?_) (fun c15 => ?_)
      · refine q_iload_n (t := 22) F dX8_sheet_21 rfl rfl rfl ?_
        refine q_iconst (t := 23) F dX8_sheet_22 rfl ?_
        refine q_icmp_eq (t := 26) (u := 35) F dX8_sheet_23 (by first | exact hR _ _ _ | (constructor <;> omega)) (by first | exact hR _ _ _ | (constructor <;> omega)) (by decide) rfl (fun c23 => ?_) (fun c23 => ?_)
        · refine q_iload_n (t := 36) F dX8_sheet_35 rfl rfl rfl ?_
          refine q_iconst (t := 37) F dX8_sheet_36 rfl ?_
          refine q_icmp_eq (t := 40) (u := 47) F dX8_sheet_37 (by first | exact hR _ _ _ | (constructor <;> omega)) (by first | exact hR _ _ _ | (constructor <;> omega)) (by decide) rfl (fun c37 => ?_) (fun c37 => ?_)
          · refine q_aload_n (t := 48) F dX8_sheet_47 rfl rfl rfl ?_
            refine g_X8_17 (t := 51) F dX8_sheet_48 rfl rfl ?_
            refine q_iload_n (t := 52) F dX8_sheet_51 rfl rfl rfl ?_
            refine la_6 (t := 53) F dX8_sheet_52 (by omega) (by omega) rfl ?_
            refine q_iload_n (t := 54) F dX8_sheet_53 rfl rfl rfl ?_
            refine q_iload_n (t := 55) F dX8_sheet_54 rfl rfl rfl ?_
            refine q_iconst (t := 56) F dX8_sheet_55 rfl ?_
            refine q_icmp_ne (t := 59) (u := 63) F dX8_sheet_56 (by first | exact hR _ _ _ | (constructor <;> omega)) (by first | exact hR _ _ _ | (constructor <;> omega)) (by decide) rfl (fun c56 => ?_) (fun c56 => ?_)
            · refine q_iload_n (t := 64) F dX8_sheet_63 rfl rfl rfl ?_
              refine wp_callV (t := 67) [_, _] F dX8_sheet_64 k_X5_become v_X5_become ml_X8_263 rfl rfl rfl rfl (Nat.le_of_ble_eq_true rfl) (by decide) (m_7 (by omega)) (c_X5_become _ G im bt rt lm sheet.toNat (by omega) sort _) rfl (kV ?_)
              rintro m' rfl
              refine q_iconst (t := 68) F dX8_sheet_67 rfl ?_
              refine q_iret F dX8_sheet_68 rfl ?_
              have hx : sheetA sheet sort n = 1 := by
                unfold sheetA
                (repeat' split) <;> omega
              refine ⟨_, rfl, hx.symm, _, bt, rt, hbt, hrt, RI_zr (RI_up (RI_up hR hsort) (by constructor <;> omega)), ?_, rfl⟩
              unfold sheetM
              rw [if_pos hx]
              first
                | (rw [if_pos (by assumption)]; exact agP_rfl _)
                | (rw [if_neg (by assumption)]; exact agP_rfl _)
            · refine q_iconst (t := 60) F dX8_sheet_59 rfl ?_
              refine q_goto (t := 64) F dX8_sheet_60 (by decide) ?_
              refine wp_callV (t := 67) [_, _] F dX8_sheet_64 k_X5_become v_X5_become ml_X8_263 rfl rfl rfl rfl (Nat.le_of_ble_eq_true rfl) (by decide) (m_7 (by omega)) (c_X5_become _ G im bt rt lm sheet.toNat (by omega) sort _) rfl (kV ?_)
              rintro m' rfl
              refine q_iconst (t := 68) F dX8_sheet_67 rfl ?_
              refine q_iret F dX8_sheet_68 rfl ?_
              have hx : sheetA sheet sort n = 1 := by
                unfold sheetA
                (repeat' split) <;> omega
              refine ⟨_, rfl, hx.symm, _, bt, rt, hbt, hrt, RI_zr (RI_up (RI_up hR hsort) (by constructor <;> omega)), ?_, rfl⟩
              unfold sheetM
              rw [if_pos hx]
              first
                | (rw [if_pos (by assumption)]; exact agP_rfl _)
                | (rw [if_neg (by assumption)]; exact agP_rfl _)
          · refine q_iload_n (t := 41) F dX8_sheet_40 rfl rfl rfl ?_
            refine q_if_ge (t := 44) (u := 47) F dX8_sheet_41 (by first | exact hR _ _ _ | (constructor <;> omega)) (by decide) rfl (fun c41 => ?_) (fun c41 => ?_)
            · refine q_aload_n (t := 48) F dX8_sheet_47 rfl rfl rfl ?_
              refine g_X8_17 (t := 51) F dX8_sheet_48 rfl rfl ?_
              refine q_iload_n (t := 52) F dX8_sheet_51 rfl rfl rfl ?_
              refine la_6 (t := 53) F dX8_sheet_52 (by omega) (by omega) rfl ?_
              refine q_iload_n (t := 54) F dX8_sheet_53 rfl rfl rfl ?_
              refine q_iload_n (t := 55) F dX8_sheet_54 rfl rfl rfl ?_
              refine q_iconst (t := 56) F dX8_sheet_55 rfl ?_
              refine q_icmp_ne (t := 59) (u := 63) F dX8_sheet_56 (by first | exact hR _ _ _ | (constructor <;> omega)) (by first | exact hR _ _ _ | (constructor <;> omega)) (by decide) rfl (fun c56 => ?_) (fun c56 => ?_)
              · refine q_iload_n (t := 64) F dX8_sheet_63 rfl rfl rfl ?_
                refine wp_callV (t := 67) [_, _] F dX8_sheet_64 k_X5_become v_X5_become ml_X8_263 rfl rfl rfl rfl (Nat.le_of_ble_eq_true rfl) (by decide) (m_7 (by omega)) (c_X5_become _ G im bt rt lm sheet.toNat (by omega) sort _) rfl (kV ?_)
                rintro m' rfl
                refine q_iconst (t := 68) F dX8_sheet_67 rfl ?_
                refine q_iret F dX8_sheet_68 rfl ?_
                have hx : sheetA sheet sort n = 1 := by
                  unfold sheetA
                  (repeat' split) <;> omega
                refine ⟨_, rfl, hx.symm, _, bt, rt, hbt, hrt, RI_zr (RI_up (RI_up hR hsort) (by constructor <;> omega)), ?_, rfl⟩
                unfold sheetM
                rw [if_pos hx]
                first
                  | (rw [if_pos (by assumption)]; exact agP_rfl _)
                  | (rw [if_neg (by assumption)]; exact agP_rfl _)
              · refine q_iconst (t := 60) F dX8_sheet_59 rfl ?_
                refine q_goto (t := 64) F dX8_sheet_60 (by decide) ?_
                refine wp_callV (t := 67) [_, _] F dX8_sheet_64 k_X5_become v_X5_become ml_X8_263 rfl rfl rfl rfl (Nat.le_of_ble_eq_true rfl) (by decide) (m_7 (by omega)) (c_X5_become _ G im bt rt lm sheet.toNat (by omega) sort _) rfl (kV ?_)
                rintro m' rfl
                refine q_iconst (t := 68) F dX8_sheet_67 rfl ?_
                refine q_iret F dX8_sheet_68 rfl ?_
                have hx : sheetA sheet sort n = 1 := by
                  unfold sheetA
                  (repeat' split) <;> omega
                refine ⟨_, rfl, hx.symm, _, bt, rt, hbt, hrt, RI_zr (RI_up (RI_up hR hsort) (by constructor <;> omega)), ?_, rfl⟩
                unfold sheetM
                rw [if_pos hx]
                first
                  | (rw [if_pos (by assumption)]; exact agP_rfl _)
                  | (rw [if_neg (by assumption)]; exact agP_rfl _)
            · refine q_bipush (t := 46) F dX8_sheet_44 (by decide) rfl ?_
              refine q_iret F dX8_sheet_46 rfl ?_
              have hx : sheetA sheet sort n = -14 := by
                unfold sheetA
                (repeat' split) <;> omega
              refine ⟨_, rfl, hx.symm, _, bt, rt, hbt, hrt, hR, ?_, rfl⟩
              unfold sheetM
              rw [if_neg (by omega)]
              exact agP_rfl _
        · refine q_iload_n (t := 27) F dX8_sheet_26 rfl rfl rfl ?_
          refine q_bipush (t := 29) F dX8_sheet_27 (by decide) rfl ?_
          refine q_icmp_le (t := 32) (u := 35) F dX8_sheet_29 (by first | exact hR _ _ _ | (constructor <;> omega)) (by first | exact hR _ _ _ | (constructor <;> omega)) (by decide) rfl (fun c29 => ?_) (fun c29 => ?_)
          · refine q_iload_n (t := 36) F dX8_sheet_35 rfl rfl rfl ?_
            refine q_iconst (t := 37) F dX8_sheet_36 rfl ?_
            refine q_icmp_eq (t := 40) (u := 47) F dX8_sheet_37 (by first | exact hR _ _ _ | (constructor <;> omega)) (by first | exact hR _ _ _ | (constructor <;> omega)) (by decide) rfl (fun c37 => ?_) (fun c37 => ?_)
            · refine q_aload_n (t := 48) F dX8_sheet_47 rfl rfl rfl ?_
              refine g_X8_17 (t := 51) F dX8_sheet_48 rfl rfl ?_
              refine q_iload_n (t := 52) F dX8_sheet_51 rfl rfl rfl ?_
              refine la_6 (t := 53) F dX8_sheet_52 (by omega) (by omega) rfl ?_
              refine q_iload_n (t := 54) F dX8_sheet_53 rfl rfl rfl ?_
              refine q_iload_n (t := 55) F dX8_sheet_54 rfl rfl rfl ?_
              refine q_iconst (t := 56) F dX8_sheet_55 rfl ?_
              refine q_icmp_ne (t := 59) (u := 63) F dX8_sheet_56 (by first | exact hR _ _ _ | (constructor <;> omega)) (by first | exact hR _ _ _ | (constructor <;> omega)) (by decide) rfl (fun c56 => ?_) (fun c56 => ?_)
              · refine q_iload_n (t := 64) F dX8_sheet_63 rfl rfl rfl ?_
                refine wp_callV (t := 67) [_, _] F dX8_sheet_64 k_X5_become v_X5_become ml_X8_263 rfl rfl rfl rfl (Nat.le_of_ble_eq_true rfl) (by decide) (m_7 (by omega)) (c_X5_become _ G im bt rt lm sheet.toNat (by omega) sort _) rfl (kV ?_)
                rintro m' rfl
                refine q_iconst (t := 68) F dX8_sheet_67 rfl ?_
                refine q_iret F dX8_sheet_68 rfl ?_
                have hx : sheetA sheet sort n = 1 := by
                  unfold sheetA
                  (repeat' split) <;> omega
                refine ⟨_, rfl, hx.symm, _, bt, rt, hbt, hrt, RI_zr (RI_up (RI_up hR hsort) (by constructor <;> omega)), ?_, rfl⟩
                unfold sheetM
                rw [if_pos hx]
                first
                  | (rw [if_pos (by assumption)]; exact agP_rfl _)
                  | (rw [if_neg (by assumption)]; exact agP_rfl _)
              · refine q_iconst (t := 60) F dX8_sheet_59 rfl ?_
                refine q_goto (t := 64) F dX8_sheet_60 (by decide) ?_
                refine wp_callV (t := 67) [_, _] F dX8_sheet_64 k_X5_become v_X5_become ml_X8_263 rfl rfl rfl rfl (Nat.le_of_ble_eq_true rfl) (by decide) (m_7 (by omega)) (c_X5_become _ G im bt rt lm sheet.toNat (by omega) sort _) rfl (kV ?_)
                rintro m' rfl
                refine q_iconst (t := 68) F dX8_sheet_67 rfl ?_
                refine q_iret F dX8_sheet_68 rfl ?_
                have hx : sheetA sheet sort n = 1 := by
                  unfold sheetA
                  (repeat' split) <;> omega
                refine ⟨_, rfl, hx.symm, _, bt, rt, hbt, hrt, RI_zr (RI_up (RI_up hR hsort) (by constructor <;> omega)), ?_, rfl⟩
                unfold sheetM
                rw [if_pos hx]
                first
                  | (rw [if_pos (by assumption)]; exact agP_rfl _)
                  | (rw [if_neg (by assumption)]; exact agP_rfl _)
            · refine q_iload_n (t := 41) F dX8_sheet_40 rfl rfl rfl ?_
              refine q_if_ge (t := 44) (u := 47) F dX8_sheet_41 (by first | exact hR _ _ _ | (constructor <;> omega)) (by decide) rfl (fun c41 => ?_) (fun c41 => ?_)
              · refine q_aload_n (t := 48) F dX8_sheet_47 rfl rfl rfl ?_
                refine g_X8_17 (t := 51) F dX8_sheet_48 rfl rfl ?_
                refine q_iload_n (t := 52) F dX8_sheet_51 rfl rfl rfl ?_
                refine la_6 (t := 53) F dX8_sheet_52 (by omega) (by omega) rfl ?_
                refine q_iload_n (t := 54) F dX8_sheet_53 rfl rfl rfl ?_
                refine q_iload_n (t := 55) F dX8_sheet_54 rfl rfl rfl ?_
                refine q_iconst (t := 56) F dX8_sheet_55 rfl ?_
                refine q_icmp_ne (t := 59) (u := 63) F dX8_sheet_56 (by first | exact hR _ _ _ | (constructor <;> omega)) (by first | exact hR _ _ _ | (constructor <;> omega)) (by decide) rfl (fun c56 => ?_) (fun c56 => ?_)
                · refine q_iload_n (t := 64) F dX8_sheet_63 rfl rfl rfl ?_
                  refine wp_callV (t := 67) [_, _] F dX8_sheet_64 k_X5_become v_X5_become ml_X8_263 rfl rfl rfl rfl (Nat.le_of_ble_eq_true rfl) (by decide) (m_7 (by omega)) (c_X5_become _ G im bt rt lm sheet.toNat (by omega) sort _) rfl (kV ?_)
                  rintro m' rfl
                  refine q_iconst (t := 68) F dX8_sheet_67 rfl ?_
                  refine q_iret F dX8_sheet_68 rfl ?_
                  have hx : sheetA sheet sort n = 1 := by
                    unfold sheetA
                    (repeat' split) <;> omega
                  refine ⟨_, rfl, hx.symm, _, bt, rt, hbt, hrt, RI_zr (RI_up (RI_up hR hsort) (by constructor <;> omega)), ?_, rfl⟩
                  unfold sheetM
                  rw [if_pos hx]
                  first
                    | (rw [if_pos (by assumption)]; exact agP_rfl _)
                    | (rw [if_neg (by assumption)]; exact agP_rfl _)
                · refine q_iconst (t := 60) F dX8_sheet_59 rfl ?_
                  refine q_goto (t := 64) F dX8_sheet_60 (by decide) ?_
                  refine wp_callV (t := 67) [_, _] F dX8_sheet_64 k_X5_become v_X5_become ml_X8_263 rfl rfl rfl rfl (Nat.le_of_ble_eq_true rfl) (by decide) (m_7 (by omega)) (c_X5_become _ G im bt rt lm sheet.toNat (by omega) sort _) rfl (kV ?_)
                  rintro m' rfl
                  refine q_iconst (t := 68) F dX8_sheet_67 rfl ?_
                  refine q_iret F dX8_sheet_68 rfl ?_
                  have hx : sheetA sheet sort n = 1 := by
                    unfold sheetA
                    (repeat' split) <;> omega
                  refine ⟨_, rfl, hx.symm, _, bt, rt, hbt, hrt, RI_zr (RI_up (RI_up hR hsort) (by constructor <;> omega)), ?_, rfl⟩
                  unfold sheetM
                  rw [if_pos hx]
                  first
                    | (rw [if_pos (by assumption)]; exact agP_rfl _)
                    | (rw [if_neg (by assumption)]; exact agP_rfl _)
              · refine q_bipush (t := 46) F dX8_sheet_44 (by decide) rfl ?_
                refine q_iret F dX8_sheet_46 rfl ?_
                have hx : sheetA sheet sort n = -14 := by
                  unfold sheetA
                  (repeat' split) <;> omega
                refine ⟨_, rfl, hx.symm, _, bt, rt, hbt, hrt, hR, ?_, rfl⟩
                unfold sheetM
                rw [if_neg (by omega)]
                exact agP_rfl _
          · refine q_bipush (t := 34) F dX8_sheet_32 (by decide) rfl ?_
            refine q_iret F dX8_sheet_34 rfl ?_
            have hx : sheetA sheet sort n = -2 := by
              unfold sheetA
              (repeat' split) <;> omega
            refine ⟨_, rfl, hx.symm, _, bt, rt, hbt, hrt, hR, ?_, rfl⟩
            unfold sheetM
            rw [if_neg (by omega)]
            exact agP_rfl _
      · refine q_bipush (t := 20) F dX8_sheet_18 (by decide) rfl ?_
        refine q_iret F dX8_sheet_20 rfl ?_
        have hx : sheetA sheet sort n = -2 := by
          unfold sheetA
          (repeat' split) <;> omega
        refine ⟨_, rfl, hx.symm, _, bt, rt, hbt, hrt, hR, ?_, rfl⟩
        unfold sheetM
        rw [if_neg (by omega)]
        exact agP_rfl _

def cellAx (im : IM) (sheet i _v : Int) : Int := cellA im sheet i

set_option maxHeartbeats 4000000 in
theorem c_X8_cell (l : Launch) (G : GS) (im : IM) (bt rt : Nat) (lm : IM) (hbt : bt < 6) (hrt : rt < 6) (hS : SC im) (sheet : Int) (i : Int) (v : Int) (hsheet : ri sheet) (hi : ri i) (hv : ri v) : Cn l (XC G) yX8_cell Y_X8_cell [vR 0 0, vI sheet, vI i, vI v] (im, rs bt rt, lm) (pI fun x m' => x = cellAx im sheet i v ∧ stC lm (cellM im sheet i v) m') := by
  refine cn_of (by decide) (okC G) rfl (Nat.le_of_ble_eq_true rfl) ?_
  intro M ad hMl F
  subst hMl
  obtain ⟨hR, hW, hh, htc, hru, hgt, hz, hrd, hsh, him, htp⟩ := hS
  have w1 := hW.1
  have w2 := hW.2.1
  have w3 := hW.2.2.1
  have w4 := hW.2.2.2.1
  have w5 := hW.2.2.2.2.1
  have hsheet1 := hsheet.1
  have hsheet2 := hsheet.2
  have hi1 := hi.1
  have hi2 := hi.2
  have hv1 := hv.1
  have hv2 := hv.2
  refine wp_pad 0 ?_
  show Wp M (XC G) ad Y_X8_cell (pI fun x m' => x = cellAx im sheet i v ∧ stC lm (cellM im sheet i v) m') 0 [some (vR 0 0), some (vI sheet), some (vI i), some (vI v)] [] (im, rs bt rt, lm)
  refine q_iload_n (t := 1) F dX8_cell_0 rfl rfl rfl ?_
  refine q_iconst (t := 2) F dX8_cell_1 rfl ?_
  refine wp_callS (t := 5) [_, _] F dX8_cell_2 k_X8_within st_X8_within ml_X8_95 rfl rfl (Nat.le_of_ble_eq_true rfl) (by decide) (c_X8_within _ G _ bt rt lm sheet 4 hsheet (by constructor <;> omega)) rfl (kI ?_)
  rintro x2 m' ⟨hx2, rfl⟩
  have hx2 := if01 hx2
  refine q_if_ne (t := 8) (u := 11) F dX8_cell_5 (by first | exact hR _ _ _ | (constructor <;> omega)) (by decide) rfl (fun c5 => ?_) (fun c5 => ?_)
  · refine q_aload_n (t := 12) F dX8_cell_11 rfl rfl rfl ?_
    refine g_X8_17 (t := 15) F dX8_cell_12 rfl rfl ?_
    obtain ⟨sheet, rfl⟩ : ∃ k : Nat, sheet = (k : Int) := ⟨sheet.toNat, by omega⟩
    have hj : sheet < 4 := by omega
    have hs4 := hsh sheet hj
    refine q_iload_n (t := 16) F dX8_cell_15 rfl rfl rfl ?_
    first | refine laN_6 (t := 17) F dX8_cell_16 (by omega) rfl ?_ | refine la_6 (t := 17) F dX8_cell_16 (by omega) (by omega) rfl ?_
    refine wp_callV (t := 20) [] F dX8_cell_17 k_X5_isMissing v_X5_isMissing ml_X8_218 rfl rfl rfl rfl (Nat.le_of_ble_eq_true rfl) (by decide) (m_7 (by omega)) (c_X5_isMissing _ G im bt rt lm sheet hj hR) rfl (kI ?_)
    rintro x17 m' ⟨hx17, rfl⟩
    have hx17 := if01 hx17
    refine q_if_eq (t := 23) (u := 26) F dX8_cell_20 (by first | exact hR _ _ _ | (constructor <;> omega)) (by decide) rfl (fun c20 => ?_) (fun c20 => ?_)
    · refine q_iload_n (t := 27) F dX8_cell_26 rfl rfl rfl ?_
      refine q_aload_n (t := 28) F dX8_cell_27 rfl rfl rfl ?_
      refine g_X8_17 (t := 31) F dX8_cell_28 rfl rfl ?_
      refine q_iload_n (t := 32) F dX8_cell_31 rfl rfl rfl ?_
      first | refine laN_6 (t := 33) F dX8_cell_32 (by omega) rfl ?_ | refine la_6 (t := 33) F dX8_cell_32 (by omega) (by omega) rfl ?_
      refine g_X8_231 (t := 36) F dX8_cell_33 rfl (by omega) rfl ?_
      try simp only [up_app, row_app, scr_app, cpy_app, Nat.reduceEqDiff, Int.reduceToNat, Int.toNat_natCast, and_true, true_and, and_false, false_and, and_self, reduceIte]
      refine wp_callS (t := 39) [_, _] F dX8_cell_36 k_X8_within st_X8_within ml_X8_95 rfl rfl (Nat.le_of_ble_eq_true rfl) (by decide) (c_X8_within _ G _ bt rt lm i (im 7 sheet 2) hi (hR _ _ _)) rfl (kI ?_)
      rintro x36 m' ⟨hx36, rfl⟩
      have hx36 := if01 hx36
      refine q_if_ne (t := 42) (u := 45) F dX8_cell_39 (by first | exact hR _ _ _ | (constructor <;> omega)) (by decide) rfl (fun c39 => ?_) (fun c39 => ?_)
      · refine q_aload_n (t := 46) F dX8_cell_45 rfl rfl rfl ?_
        refine g_X8_17 (t := 49) F dX8_cell_46 rfl rfl ?_
        refine q_iload_n (t := 50) F dX8_cell_49 rfl rfl rfl ?_
        first | refine laN_6 (t := 51) F dX8_cell_50 (by omega) rfl ?_ | refine la_6 (t := 51) F dX8_cell_50 (by omega) (by omega) rfl ?_
        refine q_iload_n (t := 52) F dX8_cell_51 rfl rfl rfl ?_
        refine q_iload_n (t := 53) F dX8_cell_52 rfl rfl rfl ?_
        rw [show i = ((i.toNat : Nat) : Int) by omega]
        refine wp_callV (t := 56) [_, _] F dX8_cell_53 k_X5_put v_X5_put ml_X8_266 rfl rfl rfl rfl (Nat.le_of_ble_eq_true rfl) (by decide) (m_7 (by omega)) (c_X5_put _ G im bt rt lm sheet hj i.toNat (by omega) v hR) rfl (kV ?_)
        rintro m' rfl
        refine q_iconst (t := 57) F dX8_cell_56 rfl ?_
        refine q_iret F dX8_cell_57 rfl ?_
        have hx : cellA im sheet i = 1 := by
          unfold cellA
          simp only [Int.toNat_natCast]
          (repeat' split) <;> omega
        refine ⟨_, rfl, ?_, _, bt, rt, hbt, hrt, RI_up hR (cutN_ri hv), ?_, rfl⟩
        · try simp only [Int.toNat_natCast]
          try rw [show ((i.toNat : Nat) : Int) = i by omega]
          exact hx.symm
        · unfold cellM
          try rw [show ((i.toNat : Nat) : Int) = i by omega]
          rw [if_pos hx]
          simp only [Int.toNat_natCast]
          exact agP_rfl _
      · refine q_bipush (t := 44) F dX8_cell_42 (by decide) rfl ?_
        refine q_iret F dX8_cell_44 rfl ?_
        have hx : cellA im sheet i = -12 := by
          unfold cellA
          simp only [Int.toNat_natCast]
          (repeat' split) <;> omega
        refine ⟨_, rfl, hx.symm, _, bt, rt, hbt, hrt, hR, ?_, rfl⟩
        unfold cellM
        rw [if_neg (by omega)]
        exact agP_rfl _
    · refine q_bipush (t := 25) F dX8_cell_23 (by decide) rfl ?_
      refine q_iret F dX8_cell_25 rfl ?_
      have hx : cellA im sheet i = -11 := by
        unfold cellA
        simp only [Int.toNat_natCast]
        (repeat' split) <;> omega
      refine ⟨_, rfl, hx.symm, _, bt, rt, hbt, hrt, hR, ?_, rfl⟩
      unfold cellM
      rw [if_neg (by omega)]
      exact agP_rfl _
  · refine q_bipush (t := 10) F dX8_cell_8 (by decide) rfl ?_
    refine q_iret F dX8_cell_10 rfl ?_
    refine ⟨_, rfl, ?_, _, bt, rt, hbt, hrt, (by repeat' first | exact hR | refine RI_up ?_ ?_ | assumption | exact hR _ _ _ | (constructor <;> omega)), ?_, rfl⟩
    · unfold cellAx cellA
      (repeat' split) <;> omega
    · unfold cellM cellA
      (repeat' split) <;> first | exact agP_rfl _ | (exfalso; omega)

set_option maxHeartbeats 4000000 in
theorem c_X8_copy (l : Launch) (G : GS) (im : IM) (bt rt : Nat) (lm : IM) (hbt : bt < 6) (hrt : rt < 6) (hS : SC im) (a : Int) (i : Int) (b : Int) (j : Int) (n : Int) (ha : ri a) (hi : ri i) (hb : ri b) (hj : ri j) (hn : ri n) : Cn l (XC G) yX8_copy Y_X8_copy [vR 0 0, vI a, vI i, vI b, vI j, vI n] (im, rs bt rt, lm) (pI fun x m' => x = copyA im a i b j n ∧ stC lm (copyM im a i b j n) m') := by
  refine cn_of (by decide) (okC G) rfl (Nat.le_of_ble_eq_true rfl) ?_
  intro M ad hMl F
  subst hMl
  obtain ⟨hR, hW, hh, htc, hru, hgt, hz, hrd, hsh, him, htp⟩ := hS
  have w1 := hW.1
  have w2 := hW.2.1
  have w3 := hW.2.2.1
  have w4 := hW.2.2.2.1
  have w5 := hW.2.2.2.2.1
  have ha1 := ha.1
  have ha2 := ha.2
  have hi1 := hi.1
  have hi2 := hi.2
  have hb1 := hb.1
  have hb2 := hb.2
  have hj1 := hj.1
  have hj2 := hj.2
  have hn1 := hn.1
  have hn2 := hn.2
  refine wp_pad 2 ?_
  show Wp M (XC G) ad Y_X8_copy (pI fun x m' => x = copyA im a i b j n ∧ stC lm (copyM im a i b j n) m') 0 [some (vR 0 0), some (vI a), some (vI i), some (vI b), some (vI j), some (vI n), none, none] [] (im, rs bt rt, lm)
  refine q_iload_n (t := 1) F dX8_copy_0 rfl rfl rfl ?_
  refine q_iconst (t := 2) F dX8_copy_1 rfl ?_
  refine wp_callS (t := 5) [_, _] F dX8_copy_2 k_X8_within st_X8_within ml_X8_95 rfl rfl (Nat.le_of_ble_eq_true rfl) (by decide) (c_X8_within _ G _ bt rt lm a 4 ha (by constructor <;> omega)) rfl (kI ?_)
  rintro x2 m' ⟨hx2, rfl⟩
  have hx2 := if01 hx2
  refine q_if_eq (t := 8) (u := 16) F dX8_copy_5 (by first | exact hR _ _ _ | (constructor <;> omega)) (by decide) rfl (fun c5 => ?_) (fun c5 => ?_)
  · refine q_bipush (t := 18) F dX8_copy_16 (by decide) rfl ?_
    refine q_iret F dX8_copy_18 rfl ?_
    refine ⟨_, rfl, ?_, _, bt, rt, hbt, hrt, (by repeat' first | exact hR | refine RI_up ?_ ?_ | assumption | exact hR _ _ _ | (constructor <;> omega)), ?_, rfl⟩
    · unfold copyA
      (repeat' split) <;> omega
    · have hx : copyA im a i b j n = -2 := by
        unfold copyA
        rw [if_neg (by omega)]
      unfold copyM
      rw [if_neg (by omega)]
      exact agP_rfl _
  · refine q_iload_n (t := 9) F dX8_copy_8 rfl rfl rfl ?_
    refine q_iconst (t := 10) F dX8_copy_9 rfl ?_
    refine wp_callS (t := 13) [_, _] F dX8_copy_10 k_X8_within st_X8_within ml_X8_95 rfl rfl (Nat.le_of_ble_eq_true rfl) (by decide) (c_X8_within _ G _ bt rt lm b 4 hb (by constructor <;> omega)) rfl (kI ?_)
    rintro x10 m' ⟨hx10, rfl⟩
    have hx10 := if01 hx10
    refine q_if_ne (t := 16) (u := 19) F dX8_copy_13 (by first | exact hR _ _ _ | (constructor <;> omega)) (by decide) rfl (fun c13 => ?_) (fun c13 => ?_)
    · refine q_aload_n (t := 20) F dX8_copy_19 rfl rfl rfl ?_
      refine g_X8_17 (t := 23) F dX8_copy_20 rfl rfl ?_
      refine q_iload_n (t := 24) F dX8_copy_23 rfl rfl rfl ?_
      obtain ⟨a, rfl⟩ : ∃ k : Nat, a = (k : Int) := ⟨a.toNat, by omega⟩
      obtain ⟨b, rfl⟩ : ∃ k : Nat, b = (k : Int) := ⟨b.toNat, by omega⟩
      have haj : a < 4 := by omega
      have hbj : b < 4 := by omega
      have ha4 := hsh a haj
      have hb4 := hsh b hbj
      first | refine laN_6 (t := 25) F dX8_copy_24 (by omega) rfl ?_ | refine la_6 (t := 25) F dX8_copy_24 (by omega) (by omega) rfl ?_
      refine q_astore (t := 27) F dX8_copy_25 (by decide) rfl rfl ?_
      refine q_aload_n (t := 28) F dX8_copy_27 rfl rfl rfl ?_
      refine g_X8_17 (t := 31) F dX8_copy_28 rfl rfl ?_
      refine q_iload_n (t := 32) F dX8_copy_31 rfl rfl rfl ?_
      first | refine laN_6 (t := 33) F dX8_copy_32 (by omega) rfl ?_ | refine la_6 (t := 33) F dX8_copy_32 (by omega) (by omega) rfl ?_
      refine q_astore (t := 35) F dX8_copy_33 (by decide) rfl rfl ?_
      refine q_aload (t := 37) F dX8_copy_35 rfl rfl ?_
      refine wp_callV (t := 40) [] F dX8_copy_37 k_X5_isMissing v_X5_isMissing ml_X8_218 rfl rfl rfl rfl (Nat.le_of_ble_eq_true rfl) (by decide) (m_7 (by omega)) (c_X5_isMissing _ G im bt rt lm a haj hR) rfl (kI ?_)
      rintro x37 m' ⟨hx37, rfl⟩
      have hx37 := if01 hx37
      refine q_if_ne (t := 43) (u := 51) F dX8_copy_40 (by first | exact hR _ _ _ | (constructor <;> omega)) (by decide) rfl (fun c40 => ?_) (fun c40 => ?_)
      · refine q_bipush (t := 53) F dX8_copy_51 (by decide) rfl ?_
        refine q_iret F dX8_copy_53 rfl ?_
        have hx : copyA im a i b j n = -11 := by
          unfold copyA
          simp only [Int.toNat_natCast]
          (repeat' split) <;> omega
        refine ⟨_, rfl, hx.symm, _, bt, rt, hbt, hrt, hR, ?_, rfl⟩
        unfold copyM
        rw [if_neg (by omega)]
        exact agP_rfl _
      · refine q_aload (t := 45) F dX8_copy_43 rfl rfl ?_
        refine wp_callV (t := 48) [] F dX8_copy_45 k_X5_isMissing v_X5_isMissing ml_X8_218 rfl rfl rfl rfl (Nat.le_of_ble_eq_true rfl) (by decide) (m_7 (by omega)) (c_X5_isMissing _ G im bt rt lm b hbj hR) rfl (kI ?_)
        rintro x45 m' ⟨hx45, rfl⟩
        have hx45 := if01 hx45
        refine q_if_eq (t := 51) (u := 54) F dX8_copy_48 (by first | exact hR _ _ _ | (constructor <;> omega)) (by decide) rfl (fun c48 => ?_) (fun c48 => ?_)
        · refine q_aload (t := 56) F dX8_copy_54 rfl rfl ?_
          refine g_X8_281 (t := 59) F dX8_copy_56 rfl (by omega) rfl ?_
          try simp only [up_app, row_app, scr_app, cpy_app, Nat.reduceEqDiff, Int.reduceToNat, Int.toNat_natCast, and_true, true_and, and_false, false_and, and_self, reduceIte]
          refine q_aload (t := 61) F dX8_copy_59 rfl rfl ?_
          refine g_X8_281 (t := 64) F dX8_copy_61 rfl (by omega) rfl ?_
          try simp only [up_app, row_app, scr_app, cpy_app, Nat.reduceEqDiff, Int.reduceToNat, Int.toNat_natCast, and_true, true_and, and_false, false_and, and_self, reduceIte]
          refine q_icmp_eq (t := 67) (u := 70) F dX8_copy_64 (by first | exact hR _ _ _ | (constructor <;> omega)) (by first | exact hR _ _ _ | (constructor <;> omega)) (by decide) rfl (fun c64 => ?_) (fun c64 => ?_)
          · refine q_aload (t := 72) F dX8_copy_70 rfl rfl ?_
            refine q_iload_n (t := 73) F dX8_copy_72 rfl rfl rfl ?_
            refine q_iload (t := 75) F dX8_copy_73 rfl rfl ?_
            refine wp_callV (t := 78) [_, _] F dX8_copy_75 k_X5_holds v_X5_holds ml_X8_284 rfl rfl rfl rfl (Nat.le_of_ble_eq_true rfl) (by decide) (m_7 (by omega)) (c_X5_holds _ G im bt rt lm a haj i n hi hn ha4.2.2.1 ha4.2.2.2 hR) rfl (kI ?_)
            rintro x75 m' ⟨hx75, rfl⟩
            have hx75 := if01 hx75
            refine q_if_eq (t := 81) (u := 93) F dX8_copy_78 (by first | exact hR _ _ _ | (constructor <;> omega)) (by decide) rfl (fun c78 => ?_) (fun c78 => ?_)
            · refine q_bipush (t := 95) F dX8_copy_93 (by decide) rfl ?_
              refine q_iret F dX8_copy_95 rfl ?_
              have hx : copyA im a i b j n = -12 := by
                unfold copyA
                simp only [Int.toNat_natCast]
                (repeat' split) <;> omega
              refine ⟨_, rfl, hx.symm, _, bt, rt, hbt, hrt, hR, ?_, rfl⟩
              unfold copyM
              rw [if_neg (by omega)]
              exact agP_rfl _
            · refine q_aload (t := 83) F dX8_copy_81 rfl rfl ?_
              refine q_iload (t := 85) F dX8_copy_83 rfl rfl ?_
              refine q_iload (t := 87) F dX8_copy_85 rfl rfl ?_
              refine wp_callV (t := 90) [_, _] F dX8_copy_87 k_X5_holds v_X5_holds ml_X8_284 rfl rfl rfl rfl (Nat.le_of_ble_eq_true rfl) (by decide) (m_7 (by omega)) (c_X5_holds _ G im bt rt lm b hbj j n hj hn hb4.2.2.1 hb4.2.2.2 hR) rfl (kI ?_)
              rintro x87 m' ⟨hx87, rfl⟩
              have hx87 := if01 hx87
              refine q_if_ne (t := 93) (u := 96) F dX8_copy_90 (by first | exact hR _ _ _ | (constructor <;> omega)) (by decide) rfl (fun c90 => ?_) (fun c90 => ?_)
              · refine q_aload (t := 98) F dX8_copy_96 rfl rfl ?_
                refine g_X8_232 (t := 101) F dX8_copy_98 rfl (by omega) rfl ?_
                refine q_iload_n (t := 102) F dX8_copy_101 rfl rfl rfl ?_
                refine q_aload (t := 104) F dX8_copy_102 rfl rfl ?_
                refine g_X8_232 (t := 107) F dX8_copy_104 rfl (by omega) rfl ?_
                refine q_iload (t := 109) F dX8_copy_107 rfl rfl ?_
                refine q_iload (t := 111) F dX8_copy_109 rfl rfl ?_
                refine wp_copy (t := 114) F dX8_copy_111 ml_X8_286 nv_J10_arraycopy st_J10_arraycopy in_J10 rfl rfl (by decide) (by decide) (m_8 (by omega)) (m_8 (by omega)) (by omega) (by omega) (by omega) (by omega) (by omega) (Nat.le_of_ble_eq_true rfl) (by decide) rfl ?_
                refine q_iload (t := 116) F dX8_copy_114 rfl rfl ?_
                refine q_iret F dX8_copy_116 rfl ?_
                have hx : copyA im a i b j n = n := by
                  unfold copyA
                  simp only [Int.toNat_natCast]
                  (repeat' split) <;> omega
                refine ⟨_, rfl, hx.symm, _, bt, rt, hbt, hrt, RI_cpy hR, ?_, rfl⟩
                unfold copyM
                rw [if_pos (by omega)]
                simp only [Int.toNat_natCast]
                exact agP_rfl _
              · refine q_bipush (t := 95) F dX8_copy_93 (by decide) rfl ?_
                refine q_iret F dX8_copy_95 rfl ?_
                have hx : copyA im a i b j n = -12 := by
                  unfold copyA
                  simp only [Int.toNat_natCast]
                  (repeat' split) <;> omega
                refine ⟨_, rfl, hx.symm, _, bt, rt, hbt, hrt, hR, ?_, rfl⟩
                unfold copyM
                rw [if_neg (by omega)]
                exact agP_rfl _
          · refine q_bipush (t := 69) F dX8_copy_67 (by decide) rfl ?_
            refine q_iret F dX8_copy_69 rfl ?_
            have hx : copyA im a i b j n = -13 := by
              unfold copyA
              simp only [Int.toNat_natCast]
              (repeat' split) <;> omega
            refine ⟨_, rfl, hx.symm, _, bt, rt, hbt, hrt, hR, ?_, rfl⟩
            unfold copyM
            rw [if_neg (by omega)]
            exact agP_rfl _
        · refine q_bipush (t := 53) F dX8_copy_51 (by decide) rfl ?_
          refine q_iret F dX8_copy_53 rfl ?_
          have hx : copyA im a i b j n = -11 := by
            unfold copyA
            simp only [Int.toNat_natCast]
            (repeat' split) <;> omega
          refine ⟨_, rfl, hx.symm, _, bt, rt, hbt, hrt, hR, ?_, rfl⟩
          unfold copyM
          rw [if_neg (by omega)]
          exact agP_rfl _
    · refine q_bipush (t := 18) F dX8_copy_16 (by decide) rfl ?_
      refine q_iret F dX8_copy_18 rfl ?_
      refine ⟨_, rfl, ?_, _, bt, rt, hbt, hrt, (by repeat' first | exact hR | refine RI_up ?_ ?_ | assumption | exact hR _ _ _ | (constructor <;> omega)), ?_, rfl⟩
      · unfold copyA
        (repeat' split) <;> omega
      · have hx : copyA im a i b j n = -2 := by
          unfold copyA
          rw [if_neg (by omega)]
        unfold copyM
        rw [if_neg (by omega)]
        exact agP_rfl _

def takenA (im : IM) (man k : Int) : Int := if 0 ≤ k ∧ k < 6 then (if 0 ≤ man ∧ man < im 18 0 3 then (if underK k 6 (im 21 (5 * 0 + man.toNat) 0) = 0 then -13 else im 21 (5 * 0 + man.toNat) 1) else -11) else -2

theorem underK_ri (b : Int) (n : Nat) : ∀ k : Int, ri (underK b n k) := by
  induction n with
  | zero => intro k; exact ⟨by show (-2147483648 : Int) ≤ 0; omega, by show (0 : Int) < 2147483648; omega⟩
  | succ n ih =>
    intro k
    rw [underK_s]
    (repeat' split) <;> first | exact ih _ | (constructor <;> omega)

set_option maxHeartbeats 4000000 in
theorem c_X8_taken (l : Launch) (G : GS) (im : IM) (bt rt : Nat) (lm : IM) (hbt : bt < 6) (hrt : rt < 6) (hS : SC im) (man : Int) (k : Int) (hman : ri man) (hk : ri k) : Cn l (XC G) yX8_taken Y_X8_taken [vR 0 0, vI man, vI k] (im, rs bt rt, lm) (pI fun x m' => x = takenA im man k ∧ stC lm im m') := by
  refine cn_of (by decide) (okC G) rfl (Nat.le_of_ble_eq_true rfl) ?_
  intro M ad hMl F
  subst hMl
  obtain ⟨hR, hW, hh, htc, hru, hgt, hz, hrd, hsh, him, htp⟩ := hS
  have w1 := hW.1
  have w2 := hW.2.1
  have w3 := hW.2.2.1
  have w4 := hW.2.2.2.1
  have w5 := hW.2.2.2.2.1
  have hman1 := hman.1
  have hman2 := hman.2
  have hk1 := hk.1
  have hk2 := hk.2
  refine wp_pad 1 ?_
  show Wp M (XC G) ad Y_X8_taken (pI fun x m' => x = takenA im man k ∧ stC lm im m') 0 [some (vR 0 0), some (vI man), some (vI k), none] [] (im, rs bt rt, lm)
  refine q_iload_n (t := 1) F dX8_taken_0 rfl rfl rfl ?_
  refine q_bipush (t := 3) F dX8_taken_1 (by decide) rfl ?_
  refine wp_callS (t := 6) [_, _] F dX8_taken_3 k_X8_within st_X8_within ml_X8_95 rfl rfl (Nat.le_of_ble_eq_true rfl) (by decide) (c_X8_within _ G _ bt rt lm k 6 hk (by constructor <;> omega)) rfl (kI ?_)
  rintro x3 m' ⟨hx3, rfl⟩
  have hx3 := if01 hx3
  refine q_if_ne (t := 9) (u := 12) F dX8_taken_6 (by first | exact hR _ _ _ | (constructor <;> omega)) (by decide) rfl (fun c6 => ?_) (fun c6 => ?_)
  · refine q_aload_n (t := 13) F dX8_taken_12 rfl rfl rfl ?_
    refine q_iload_n (t := 14) F dX8_taken_13 rfl rfl rfl ?_
    refine wp_callV (t := 17) [_] F dX8_taken_14 k_X8_isOne v_X8_isOne ml_X8_91 rfl rfl rfl rfl (Nat.le_of_ble_eq_true rfl) (by decide) (m_0 (by omega)) (c_X8_isOne _ G _ bt rt lm man hman hR) rfl (kI ?_)
    rintro x14 m' ⟨hx14, rfl⟩
    have hx14 := if01 hx14
    refine q_if_ne (t := 20) (u := 23) F dX8_taken_17 (by first | exact hR _ _ _ | (constructor <;> omega)) (by decide) rfl (fun c17 => ?_) (fun c17 => ?_)
    · refine q_aload_n (t := 24) F dX8_taken_23 rfl rfl rfl ?_
      refine g_X8_51 (t := 27) F dX8_taken_24 rfl rfl ?_
      refine g_X8_99 (t := 30) F dX8_taken_27 rfl (by omega) rfl ?_
      refine q_iload_n (t := 31) F dX8_taken_30 rfl rfl rfl ?_
      obtain ⟨man, rfl⟩ : ∃ k : Nat, man = (k : Int) := ⟨man.toNat, by omega⟩
      have hq := hW.2.2.2.2.2 man (by omega)
      have hq1 := hq.1
      first | refine laN_19 (t := 32) F dX8_taken_31 (by omega) (by omega) rfl ?_ | refine la_19 (t := 32) F dX8_taken_31 (by omega) (by omega) (by omega) rfl ?_
      refine q_astore_n (t := 33) F dX8_taken_32 rfl (by decide) rfl rfl ?_
      refine q_aload_n (t := 34) F dX8_taken_33 rfl rfl rfl ?_
      refine g_X8_122 (t := 37) F dX8_taken_34 rfl (by omega) rfl ?_
      try simp only [up_app, row_app, scr_app, cpy_app, Nat.reduceEqDiff, Int.reduceToNat, Int.toNat_natCast, and_true, true_and, and_false, false_and, and_self, reduceIte]
      refine q_iload_n (t := 38) F dX8_taken_37 rfl rfl rfl ?_
      refine wp_callS (t := 41) [_, _] F dX8_taken_38 k_X2_isUnder st_X2_isUnder ml_X8_295 rfl rfl (Nat.le_of_ble_eq_true rfl) (by decide) (c_X2_isUnder _ G im bt rt lm (im 21 (5 * 0 + man) 0) k (by omega) (by omega) (by omega) (by omega)) rfl (kI ?_)
      rintro x38 m' ⟨hx38, rfl⟩
      refine q_if_eq (t := 44) (u := 51) F dX8_taken_41 (by rw [hx38]; exact underK_ri _ _ _) (by decide) rfl (fun c41 => ?_) (fun c41 => ?_)
      · refine q_bipush (t := 53) F dX8_taken_51 (by decide) rfl ?_
        refine q_iret F dX8_taken_53 rfl ?_
        refine ⟨_, rfl, ?_, _, bt, rt, hbt, hrt, hR, agP_rfl _, rfl⟩
        unfold takenA
        simp only [Int.toNat_natCast]
        first
          | (rw [if_pos (by omega), if_pos (by omega), if_neg (by omega)])
          | (rw [if_pos (by omega), if_pos (by omega), if_pos (by omega)])
      · refine q_aload_n (t := 45) F dX8_taken_44 rfl rfl rfl ?_
        refine g_X8_103 (t := 48) F dX8_taken_45 rfl (by omega) rfl ?_
        try simp only [up_app, row_app, scr_app, cpy_app, Nat.reduceEqDiff, Int.reduceToNat, Int.toNat_natCast, and_true, true_and, and_false, false_and, and_self, reduceIte]
        refine q_goto (t := 53) F dX8_taken_48 (by decide) ?_
        refine q_iret F dX8_taken_53 rfl ?_
        refine ⟨_, rfl, ?_, _, bt, rt, hbt, hrt, hR, agP_rfl _, rfl⟩
        unfold takenA
        simp only [Int.toNat_natCast]
        first
          | (rw [if_pos (by omega), if_pos (by omega), if_neg (by omega)])
          | (rw [if_pos (by omega), if_pos (by omega), if_pos (by omega)])
    · refine q_bipush (t := 22) F dX8_taken_20 (by decide) rfl ?_
      refine q_iret F dX8_taken_22 rfl ?_
      refine ⟨_, rfl, ?_, _, bt, rt, hbt, hrt, (by repeat' first | exact hR | refine RI_up ?_ ?_ | assumption | exact hR _ _ _ | (constructor <;> omega)), ?_, rfl⟩
      · unfold takenA
        (repeat' split) <;> omega
      · exact agP_rfl _
  · refine q_bipush (t := 11) F dX8_taken_9 (by decide) rfl ?_
    refine q_iret F dX8_taken_11 rfl ?_
    refine ⟨_, rfl, ?_, _, bt, rt, hbt, hrt, (by repeat' first | exact hR | refine RI_up ?_ ?_ | assumption | exact hR _ _ _ | (constructor <;> omega)), ?_, rfl⟩
    · unfold takenA
      (repeat' split) <;> omega
    · exact agP_rfl _
