/-! the reference: a new man -/

theorem RC_man {im : IM} (h : RC im) {a c : Int} (ha : 0 ≤ a ∧ a ≤ 5) (hc : 0 ≤ c ∧ c ≤ 9) (h5 : im 30 0 12 ≠ 5) : RC (up (fiR (up (up im 34 0 (im 30 0 12).toNat a) 35 0 (im 30 0 12).toNat c) (10 * (im 30 0 12).toNat) 10 (-1)) 30 0 12 (im 30 0 12 + 1)) := by
  obtain ⟨hR, hX, h4, h12, h7, h8, hP⟩ := h
  have hRf : RI (fiR (up (up im 34 0 (im 30 0 12).toNat a) 35 0 (im 30 0 12).toNat c) (10 * (im 30 0 12).toNat) 10 (-1)) := by
    intro k i s
    unfold fiR
    split
    · constructor <;> omega
    · exact RI_up (RI_up hR (by constructor <;> omega)) (by constructor <;> omega) k i s
  refine ⟨RI_up hRf (by constructor <;> omega), hX.same (fun _ => rfl) (fun _ => rfl) (fun _ => rfl) rfl rfl, h4, ?_, h7, h8, fun p hp => ?_⟩
  · show 0 ≤ im 30 0 12 + 1 ∧ im 30 0 12 + 1 ≤ 5
    omega
  · have hp2 : (p : Int) < im 30 0 12 + 1 := hp
    generalize ht : (im 30 0 12).toNat = t
    have e34 : up (fiR (up (up im 34 0 t a) 35 0 t c) (10 * t) 10 (-1)) 30 0 12 (im 30 0 12 + 1) 34 0 p = if p = t then a else im 34 0 p := by
      rw [up_app, if_neg (by omega)]
      unfold fiR
      rw [if_neg (by omega), up_app, if_neg (by omega), up_app]
      by_cases q : p = t
      · rw [if_pos ⟨rfl, rfl, q⟩, if_pos q]
      · rw [if_neg (fun z => q z.2.2), if_neg q]
    have e35 : up (fiR (up (up im 34 0 t a) 35 0 t c) (10 * t) 10 (-1)) 30 0 12 (im 30 0 12 + 1) 35 0 p = if p = t then c else im 35 0 p := by
      rw [up_app, if_neg (by omega)]
      unfold fiR
      rw [if_neg (by omega), up_app]
      by_cases q : p = t
      · rw [if_pos ⟨rfl, rfl, q⟩, if_pos q]
      · rw [if_neg (fun z => q z.2.2), if_neg q, up_app, if_neg (by omega)]
    have e36 : ∀ g, g < 10 → up (fiR (up (up im 34 0 t a) 35 0 t c) (10 * t) 10 (-1)) 30 0 12 (im 30 0 12 + 1) 36 0 (10 * p + g) = if p = t then -1 else im 36 0 (10 * p + g) := by
      intro g hg
      rw [up_app, if_neg (by omega)]
      unfold fiR
      by_cases q : p = t
      · rw [if_pos (by omega), if_pos q]
      · rw [if_neg (by omega), if_neg q, up_app, if_neg (by omega), up_app, if_neg (by omega)]
    have e37 : ∀ g, up (fiR (up (up im 34 0 t a) 35 0 t c) (10 * t) 10 (-1)) 30 0 12 (im 30 0 12 + 1) 37 0 (10 * p + g) = im 37 0 (10 * p + g) := by
      intro g
      rw [up_app, if_neg (by omega)]
      unfold fiR
      rw [if_neg (by omega), up_app, if_neg (by omega), up_app, if_neg (by omega)]
    unfold RP
    rw [e34, e35]
    by_cases q : p = t
    · rw [if_pos q, if_pos q]
      refine ⟨by omega, by omega, fun g hg => ?_⟩
      rw [e36 g hg, if_pos q]
      exact ⟨by omega, by omega, fun z => absurd rfl z⟩
    · rw [if_neg q, if_neg q]
      have e := hP p (by omega)
      refine ⟨e.1, e.2.1, fun g hg => ?_⟩
      rw [e36 g hg, if_neg q, e37]
      exact e.2.2 g hg
