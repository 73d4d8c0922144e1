/-! BOTH: at the start they are the same -/

def b48 : Nat → Int := fun s => ([115, 116, 105, 99, 107, 115, 32, 119, 111, 114, 100, 32, 43, 32, 102, 111, 111, 100, 32, 42, 32, 51, 32, 59, 32, 108, 97, 115, 116, 115, 32, 53, 32, 59, 32, 115, 104, 97, 109, 101, 115, 32, 49, 48, 32, 59, 32, 32] : List Int).getD s 0
theorem fst48 : fstT b48 48 48 := by unfold fstT; decide +kernel
theorem b48_in : ∀ i, i < 48 → 0 ≤ b48 i ∧ b48 i ≤ 255 := by decide +kernel
theorem ch31_lo (im : IM) (i : Nat) (hi : i < 48) : chR9 im 31 0 i = b48 i := by
  rcases (show i = 0 ∨ i = 1 ∨ i = 2 ∨ i = 3 ∨ i = 4 ∨ i = 5 ∨ i = 6 ∨ i = 7 ∨ i = 8 ∨ i = 9 ∨ i = 10 ∨ i = 11 ∨ i = 12 ∨ i = 13 ∨ i = 14 ∨ i = 15 ∨ i = 16 ∨ i = 17 ∨ i = 18 ∨ i = 19 ∨ i = 20 ∨ i = 21 ∨ i = 22 ∨ i = 23 ∨ i = 24 ∨ i = 25 ∨ i = 26 ∨ i = 27 ∨ i = 28 ∨ i = 29 ∨ i = 30 ∨ i = 31 ∨ i = 32 ∨ i = 33 ∨ i = 34 ∨ i = 35 ∨ i = 36 ∨ i = 37 ∨ i = 38 ∨ i = 39 ∨ i = 40 ∨ i = 41 ∨ i = 42 ∨ i = 43 ∨ i = 44 ∨ i = 45 ∨ i = 46 ∨ i = 47 by omega) with rfl | rfl | rfl | rfl | rfl | rfl | rfl | rfl | rfl | rfl | rfl | rfl | rfl | rfl | rfl | rfl | rfl | rfl | rfl | rfl | rfl | rfl | rfl | rfl | rfl | rfl | rfl | rfl | rfl | rfl | rfl | rfl | rfl | rfl | rfl | rfl | rfl | rfl | rfl | rfl | rfl | rfl | rfl | rfl | rfl | rfl | rfl | rfl <;> rfl
theorem ch31_hi (im : IM) (i : Nat) (hi : 48 ≤ i) : chR9 im 31 0 i = im 31 0 i := by
  have e : ∀ (f : IM) (p : Nat) (a1 a2 a3 a4 a5 a6 a7 a8 : Int), p ≤ 40 → spM f p a1 a2 a3 a4 a5 a6 a7 a8 31 0 i = f 31 0 i := by
    intro f p a1 a2 a3 a4 a5 a6 a7 a8 hp
    unfold spM
    rw [up_app, if_neg (by omega), up_app, if_neg (by omega), up_app, if_neg (by omega), up_app, if_neg (by omega), up_app, if_neg (by omega), up_app, if_neg (by omega), up_app, if_neg (by omega), up_app, if_neg (by omega)]
  unfold chR9
  rw [up_app, if_neg (by omega), up_app, if_neg (by omega), e _ 40 _ _ _ _ _ _ _ _ (by omega), e _ 32 _ _ _ _ _ _ _ _ (by omega), e _ 24 _ _ _ _ _ _ _ _ (by omega), e _ 16 _ _ _ _ _ _ _ _ (by omega), e _ 8 _ _ _ _ _ _ _ _ (by omega), e _ 0 _ _ _ _ _ _ _ _ (by omega), up_app, if_neg (by omega), up_app, if_neg (by omega)]
theorem REL_0 {im : IM} (h : ∀ k i s, 24 ≤ k → im k i s = 0) (hS0 : SC0 im) : REL (chR9 im) (chR9 im) := by
  have hlo : ∀ k i s, k < 24 → chR9 im k i s = im k i s := fun k i s hk => chR9_o (by omega) (by omega) (by omega)
  have hRI := chR9_ri hS0.1
  have hSC := SC_lo hlo hRI (SC0_SC hS0)
  have hSF := SF_lo hlo (SC0_SF hS0)
  have h30 := chR9_30 h
  have r3 : chR9 im 30 0 3 = 1 := by rw [h30]; rfl
  have r4 : chR9 im 30 0 4 = 0 := by rw [h30]; rfl
  have r6 : chR9 im 30 0 6 = 0 := by rw [h30]; rfl
  have r7 : chR9 im 30 0 7 = 0 := by rw [h30]; rfl
  have r8 : chR9 im 30 0 8 = 1024 := by rw [h30]; rfl
  have r9 : chR9 im 30 0 9 = 0 := by rw [h30]; rfl
  have r12 : chR9 im 30 0 12 = 0 := by rw [h30]; rfl
  have r46 : chR9 im 30 0 46 = -1 := by rw [h30]; rfl
  have r32 : chR9 im 32 0 0 = 48 := rfl
  have hb : agB (rowR (chR9 im) 0) b48 48 := fun i hi => by
    show chR9 im 31 0 (160 * 0 + i) = b48 i
    rw [show 160 * 0 + i = i by omega]
    exact ch31_lo im i hi
  obtain ⟨s3, s4, s5, s6, s7, s8, s9, s14, sj⟩ := hSF
  have f46 := rd_first fst46
  have f48 := rd_first fst48
  have hTX : TX b46 46 0 im := hS0.2.2.2.2.1
  refine ⟨hSC, hRI, ⟨fun i hi => ?_, fun i hi => ?_, by omega, by omega, fun t ht => ?_⟩, fun q hq => absurd hq (by omega), ⟨by omega, by omega, by omega, by omega, by omega⟩, fun p hp => absurd hp (by omega), ⟨by omega, fun t ht part hp nm => ?_⟩, ⟨by omega, fun i hi => absurd hi (by omega)⟩, Or.inl ⟨s9, r46⟩, fun j hj => Or.inl ⟨(sj j hj).1, ?_⟩⟩
  · rw [chR9_o (by omega) (by omega) (by omega), h 33 0 i (by omega)]
    omega
  · by_cases z : i < 48
    · rw [ch31_lo im i z]
      exact b48_in i z
    · rw [ch31_hi im i (by omega), h 31 0 i (by omega)]
      omega
  · have et : t = 0 := by omega
    subst et
    rw [r32]
    refine ⟨by omega, by omega, ?_⟩
    show rdF (rowR (chR9 im) 0) 48 = -1
    rw [rdF_cg hb]
    exact f48.1
  · have et : t = 0 := by omega
    subst et
    rw [tellV_congr (im := im) (im' := chR9 im) (fun s => hlo 3 0 s (by omega)) (fun s => hlo 4 0 s (by omega)), TX_tellV f46.1 hTX part hp nm]
    unfold sayR
    rw [r32]
    show clip (valT b46 46 part nm) = clip (valT (rowR (chR9 im) 0) 48 part nm)
    rw [valT_cg hb]
    have e46 := f46.2 nm
    have e48 := f48.2 nm
    rcases (show part = 0 ∨ part = 1 ∨ part = 2 by omega) with rfl | rfl | rfl
    · rw [e46.1, e48.1]
    · rw [e46.2.1, e48.2.1]
    · rw [e46.2.2, e48.2.2]
  · rw [chR9_o (by omega) (by omega) (by omega)]
    exact h 47 0 j (by omega)
/-- what REL looks at: the class's kinds of C, the reference's of R -/
theorem REL.mix {C R C' R' : IM} (h : REL C R) (hC : ∀ k i s, k < 24 → C' k i s = C k i s) (hR : ∀ k i s, 30 ≤ k → k < 51 → R' k i s = R k i s) (h1 : RI C') (h2 : RI R') : REL C' R' := by
  have h5 := h.h5
  obtain ⟨hS, hRR, hX, hA, ⟨a3, a4, a5, a6, a7⟩, hPe, hT, hTp, hK, hSh⟩ := h
  have e : ∀ s, R' 30 0 s = R 30 0 s := fun s => hR 30 0 s (by omega) (by omega)
  have c : ∀ i s, C' 18 i s = C 18 i s := fun i s => hC 18 i s (by omega)
  exact ⟨SC_lo hC h1 hS, h2, hX.same (fun s => hR _ _ _ (by omega) (by omega)) (fun s => hR _ _ _ (by omega) (by omega)) (fun s => hR _ _ _ (by omega) (by omega)) (e 3) (e 6), hA.C ⟨fun k s _ _ => hR k 0 s (by omega) (by omega), e 3, e 4, e 6, e 8, e 12⟩, ⟨by rw [c, e]; exact a3, by rw [c, e]; exact a4, by rw [c, e]; exact a5, by rw [c, e]; exact a6, by rw [c, e]; exact a7⟩, PEO_c hPe (e 12) (fun k p s _ _ _ => hC _ _ _ (by omega)) (fun k s _ _ => hR _ _ _ (by omega) (by omega)) h5.2, TXT_c hT (hC _ _ _ (by omega)) (e 3) (fun k j s _ => hC _ _ _ (by omega)) (fun k s _ _ => hR _ _ _ (by omega) (by omega)), TPE_c hTp (hC _ _ _ (by omega)) (e 6) (fun s => hC _ _ _ (by omega)) (fun s => hR _ _ _ (by omega) (by omega)), KEP_c hK (hC _ _ _ (by omega)) (Int.le_of_eq (e 12).symm) (fun k i s _ => hC _ _ _ (by omega)) (fun s _ _ => e s) (fun k s _ _ => hR _ _ _ (by omega) (by omega)) (fun p _ => hR _ _ _ (by omega) (by omega)) h5.2, SHE_c hSh (fun k j s _ => hC _ _ _ (by omega)) (fun k s _ _ => hR _ _ _ (by omega) (by omega))⟩
