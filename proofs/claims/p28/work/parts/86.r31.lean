/-! the reference: what holds of it is kept -/

theorem RX.same {im im' : IM} (h : RX im) (h31 : ∀ s, im' 31 0 s = im 31 0 s) (h32 : ∀ s, im' 32 0 s = im 32 0 s) (h33 : ∀ s, im' 33 0 s = im 33 0 s) (e3 : im' 30 0 3 = im 30 0 3) (e6 : im' 30 0 6 = im 30 0 6) : RX im' := by
  obtain ⟨h1, h2, h3, h4, h5⟩ := h
  refine ⟨fun i hi => by rw [h33]; exact h1 i hi, fun i hi => by rw [h31]; exact h2 i hi, by rw [e6]; exact h3, by rw [e3]; exact h4, fun t ht => ?_⟩
  rw [e3] at ht
  have e31 : rowR im' t = rowR im t := funext fun i => h31 _
  rw [h32, e31]
  exact h5 t ht
theorem RC_force {im : IM} (h : RC im) {t : Int} (h0 : 0 ≤ t) (h1 : t < im 30 0 3) : RC (up im 30 0 4 t) := by
  obtain ⟨hR, hX, h4, h12, h7, h8, hP⟩ := h
  have h3 := hX.2.2.2.1
  exact ⟨RI_up hR (by constructor <;> omega), hX.same (fun _ => rfl) (fun _ => rfl) (fun _ => rfl) rfl rfl, ⟨h0, h1⟩, h12, h7, h8, hP⟩
theorem RC_feed {im : IM} (h : RC im) {c : Int} (h0 : 0 ≤ c) (h1 : c ≤ 255) (h6 : im 30 0 6 ≠ 160) : RC (up (up im 33 0 (im 30 0 6).toNat c) 30 0 6 (im 30 0 6 + 1)) := by
  obtain ⟨hR, hX, h4, h12, h7, h8, hP⟩ := h
  obtain ⟨x1, x2, x3, x4, x5⟩ := hX
  refine ⟨RI_up (RI_up hR (by constructor <;> omega)) (by constructor <;> omega), ⟨fun i hi => ?_, x2, ?_, x4, x5⟩, h4, h12, h7, h8, hP⟩
  · rw [up_app, if_neg (by omega), up_app]
    split
    · exact ⟨h0, h1⟩
    · exact x1 i hi
  · show 0 ≤ im 30 0 6 + 1 ∧ im 30 0 6 + 1 ≤ 160
    omega
theorem RP_put {im : IM} {p s : Nat} {w a : Int} (h : RP im p) (hw : -1 ≤ w ∧ w < 16) (ha : 0 ≤ a ∧ a ≤ 1100) : RP (up (up im 36 0 s w) 37 0 s a) p := by
  obtain ⟨h1, h2, h3⟩ := h
  refine ⟨h1, h2, fun g hg => ?_⟩
  have e := h3 g hg
  have e1 : up (up im 36 0 s w) 37 0 s a 36 0 (10 * p + g) = if 10 * p + g = s then w else im 36 0 (10 * p + g) := by
    rw [up_app, if_neg (by omega), up_app]
    by_cases hc : 10 * p + g = s
    · rw [if_pos ⟨rfl, rfl, hc⟩, if_pos hc]
    · rw [if_neg (fun z => hc z.2.2), if_neg hc]
  have e2 : up (up im 36 0 s w) 37 0 s a 37 0 (10 * p + g) = if 10 * p + g = s then a else im 37 0 (10 * p + g) := by
    rw [up_app]
    by_cases hc : 10 * p + g = s
    · rw [if_pos ⟨rfl, rfl, hc⟩, if_pos hc]
    · rw [if_neg (fun z => hc z.2.2), if_neg hc, up_app, if_neg (by omega)]
  rw [e1, e2]
  split
  · exact ⟨hw.1, hw.2, fun _ => ha⟩
  · exact e
theorem RC_put {im : IM} (h : RC im) {s : Nat} {w a : Int} (hw : -1 ≤ w ∧ w < 16) (ha : 0 ≤ a ∧ a ≤ 1100) : RC (up (up im 36 0 s w) 37 0 s a) := by
  obtain ⟨hR, hX, h4, h12, h7, h8, hP⟩ := h
  exact ⟨RI_up (RI_up hR (by constructor <;> omega)) (by constructor <;> omega), hX.same (fun _ => rfl) (fun _ => rfl) (fun _ => rfl) rfl rfl, h4, h12, h7, h8, fun p hp => RP_put (hP p hp) hw ha⟩
theorem RC_say {im im2 : IM} (h : RC im) (hR : RI im2) (hag : agY im2 im) {p : Nat} {w fd : Int} (hw : 0 ≤ w ∧ w ≤ 15) : RC (spR im im2 p w fd) := by
  have h2 := h.ag hR hag
  unfold spR
  split
  · exact h2
  · exact RC_put h2 (by omega) (by omega)
theorem RC_out {im : IM} (h : RC im) {s : Nat} : RC (up im 36 0 s (-1)) := by
  obtain ⟨hR, hX, h4, h12, h7, h8, hP⟩ := h
  refine ⟨RI_up hR (by constructor <;> omega), hX.same (fun _ => rfl) (fun _ => rfl) (fun _ => rfl) rfl rfl, h4, h12, h7, h8, fun p hp => ?_⟩
  obtain ⟨h1, h2, h3⟩ := hP p hp
  refine ⟨h1, h2, fun g hg => ?_⟩
  have e := h3 g hg
  have e2 : up im 36 0 s (-1) 37 0 (10 * p + g) = im 37 0 (10 * p + g) := by rw [up_app, if_neg (by omega)]
  rw [e2, up_app]
  split
  · exact ⟨by omega, by omega, fun q => absurd rfl q⟩
  · exact e
theorem RC_hn {im : IM} (h : RC im) {p q : Nat} (hp : (p : Int) < im 30 0 12) (hq : (q : Int) < im 30 0 12) : RC (hnR im p q 10) := by
  obtain ⟨hR, hX, h4, h12, h7, h8, hP⟩ := h
  refine ⟨hnR_RI hR p q 10, hX.same (fun _ => rfl) (fun _ => rfl) (fun _ => rfl) rfl rfl, h4, h12, h7, h8, fun m hm => ?_⟩
  obtain ⟨h1, h2, h3⟩ := hP m hm
  refine ⟨h1, h2, fun g hg => ?_⟩
  have e := h3 g hg
  have ep := (hP p hp).2.2 g hg
  have e10 : (10 * m + g) % 10 = g := by omega
  have e11 : (10 * m + g) / 10 = m := by omega
  have x1 : hnR im p q 10 36 0 (10 * m + g) = if m = q ∧ im 36 0 (10 * p + g) ≠ -1 ∧ im 36 0 (10 * q + g) = -1 then im 36 0 (10 * p + g) else if m = p ∧ im 36 0 (10 * p + g) ≠ -1 ∧ im 36 0 (10 * q + g) = -1 then -1 else im 36 0 (10 * m + g) := by
    unfold hnR
    rw [e10, e11]
    simp [hg]
  have x2 : hnR im p q 10 37 0 (10 * m + g) = if m = q ∧ im 36 0 (10 * p + g) ≠ -1 ∧ im 36 0 (10 * q + g) = -1 then 0 else im 37 0 (10 * m + g) := by
    unfold hnR
    rw [e10, e11]
    simp [hg]
  rw [x1, x2]
  split
  · exact ⟨ep.1, ep.2.1, fun _ => by omega⟩
  · split
    · exact ⟨by omega, by omega, fun z => absurd rfl z⟩
    · exact e
