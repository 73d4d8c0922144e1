/-! BOTH: a text, the image, the sheets keep them the same -/

theorem sayR_n {a b : IM} {t : Nat} (h32 : a 32 0 t = b 32 0 t) (hs : 0 ≤ b 32 0 t ∧ b 32 0 t ≤ 160) (h31 : ∀ i, i < 160 → a 31 0 (160 * t + i) = b 31 0 (160 * t + i)) (part : Nat) (nm : Nat → Int) : sayR a t part nm = sayR b t part nm := by
  unfold sayR
  rw [h32, valT_cg (b := rowR a t) (c := rowR b t) (n := (b 32 0 t).toNat) (fun i hi => h31 i (by omega))]
theorem text_eq {C R : IM} (h : REL C R) (h3 : R 30 0 3 ≠ 6) : agB (C 15 0) (txB R) (R 30 0 6).toNat ∧ textF C = rdF (txB R) (R 30 0 6).toNat := by
  have hX := h.RC.1.2.1
  have hTp := h.2.2.2.2.2.2.2.1
  have hb : agB (C 15 0) (txB R) (R 30 0 6).toNat := fun i hi => by
    rw [hTp.2 i (by omega)]
    show R 33 0 i = txI R 31 0 (160 * (R 30 0 3).toNat + i)
    unfold txI
    rw [up_app, if_neg (by omega), up_app, if_neg (by omega)]
    unfold cpR
    rw [if_pos ⟨rfl, rfl, by omega, by omega⟩, show 160 * (R 30 0 3).toNat + i - 160 * (R 30 0 3).toNat = i by omega]
  refine ⟨hb, ?_⟩
  unfold textF
  rw [hTp.1]
  exact rdF_cg hb
theorem textA_eq {C R : IM} (h : REL C R) : textA C = if R 30 0 3 = 6 then -4 else if rdF (txB R) (R 30 0 6).toNat = -1 then R 30 0 3 else -100 - rdF (txB R) (R 30 0 6).toNat := by
  have t8 := h.2.2.2.2.2.2.1.1
  have h3 := h.RC.1.2.1.2.2.2.1
  unfold textA
  by_cases z : R 30 0 3 = 6
  · rw [if_pos z, if_neg (by omega)]
  · rw [if_neg z, if_pos (by omega), (text_eq h z).2, t8]
theorem REL_text6 {C R F : IM} (h : REL C R) (hF : textR C F) (h3 : R 30 0 3 = 6) : F = C := by
  have t8 := h.2.2.2.2.2.2.1.1
  unfold textR at hF
  rw [if_neg (by omega)] at hF
  exact hF
theorem REL_text {C R F R2 R3 : IM} (h : REL C R) (hF : textR C F) (hRF : RI F) (h3 : R 30 0 3 ≠ 6) (ha : agZ R2 (txI R)) (hRC : RC R3) (c : Int) (hc : c = R 30 0 3 ∧ rdF (txB R) (R 30 0 6).toNat ≠ -1 ∨ c = R 30 0 3 + 1 ∧ rdF (txB R) (R 30 0 6).toNat = -1) (hR3 : ∀ k s, ¬ (k = 30 ∧ s = 3) → R3 k 0 s = R2 k 0 s) (h33 : R3 30 0 3 = c) : REL F R3 := by
  have h5 := h.h5
  have hx3 := h.RC.1.2.1.2.2.2.1
  have hX := h.RC.1.2.1
  have eT := text_eq h h3
  have hSF := SC_text h.1 hRF hF
  obtain ⟨hS, hRR, -, hA, ⟨a3, a4, a5, a6, a7⟩, hPe, hT, hTp, hK, hSh⟩ := h
  unfold textR at hF
  rw [if_pos (by have := hT.1; omega)] at hF
  obtain ⟨hf, h14, hy, hn⟩ := hF
  rw [eT.2, hT.1] at hy hn
  have e08 : F 0 0 8 = c := by
    rcases hc with ⟨q1, q2⟩ | ⟨q1, q2⟩
    · rw [hn q2, q1]
    · rw [(hy q2).2, q1]
  have e18 : ∀ i s, F 18 i s = C 18 i s := fun i s => hf 18 i s (by omega) (by omega) (by omega) (by omega) (by omega)
  have eP : ∀ k i s, 5 ≤ k → k ≠ 14 → F k i s = C k i s := fun k i s hk hk2 => hf k i s hk2 (by omega) (by omega) (by omega) (by omega)
  have tx : ∀ k s, k ≠ 31 → k ≠ 32 → ¬ (k = 30 ∧ s = 6) → txI R k 0 s = R k 0 s := fun k s k1 k2 k3 => by
    unfold txI
    rw [up_app, if_neg (by omega), up_app, if_neg (by omega)]
    unfold cpR
    rw [if_neg (by omega)]
  have r : ∀ k s, k ≠ 31 → k ≠ 32 → ¬ (k = 30 ∧ (s = 3 ∨ s = 6 ∨ 21 ≤ s ∧ s ≤ 29)) → R3 k 0 s = R k 0 s := fun k s k1 k2 k3 => by
    rw [hR3 k s (by omega), ha k 0 s (by omega), tx k s k1 k2 (by omega)]
  have r31 : ∀ s, R3 31 0 s = txI R 31 0 s := fun s => by rw [hR3 31 s (by omega), ha 31 0 s (by omega)]
  have r32 : ∀ s, R3 32 0 s = txI R 32 0 s := fun s => by rw [hR3 32 s (by omega), ha 32 0 s (by omega)]
  have r6 : R3 30 0 6 = 0 := by
    rw [hR3 30 6 (by omega), ha 30 0 6 (by omega)]
    rfl
  refine ⟨hSF, hRC.1, hRC.2.1, fun q hq hne => ?_, ⟨?_, ?_, ?_, ?_, ?_⟩, PEO_c hPe (r 30 12 (by omega) (by omega) (by omega)) (fun k p s _ _ _ => eP k _ s (by omega) (by omega)) (fun k s _ _ => r k s (by omega) (by omega) (by omega)) h5.2, ⟨by rw [e08, h33], fun t ht part hp nm => ?_⟩, ⟨by rw [h14, r6], fun i hi => absurd hi (by rw [r6]; omega)⟩, KEP_c hK (hf 0 0 9 (by omega) (by omega) (by omega) (by omega) (by omega)) (Int.le_of_eq (r 30 12 (by omega) (by omega) (by omega)).symm) (fun k i s _ => eP k i s (by omega) (by omega)) (fun s _ _ => r 30 s (by omega) (by omega) (by omega)) (fun k s _ _ => r k s (by omega) (by omega) (by omega)) (fun p _ => r 34 p (by omega) (by omega) (by omega)) h5.2, SHE_c hSh (fun k j s _ => eP k j s (by omega) (by omega)) (fun k s _ _ => r k s (by omega) (by omega) (by omega))⟩
  · rw [r 30 12 (by omega) (by omega) (by omega)] at hq
    rw [r 36 q (by omega) (by omega) (by omega)] at hne
    rw [r 37 q (by omega) (by omega) (by omega)]
    exact hA q hq hne
  · rw [e18, r 30 12 (by omega) (by omega) (by omega)]; exact a3
  · rw [e18, r 30 7 (by omega) (by omega) (by omega)]; exact a4
  · rw [e18, r 30 8 (by omega) (by omega) (by omega)]; exact a5
  · rw [e18, r 30 9 (by omega) (by omega) (by omega)]; exact a6
  · rw [e18, r 30 4 (by omega) (by omega) (by omega)]; exact a7
  · rw [h33] at ht
    by_cases old : (t : Int) < R 30 0 3
    · have ne : t ≠ (C 0 0 8).toNat := by have := hT.1; omega
      rw [tellV_congr (fun s => hf 3 t s (by omega) (by omega) (by omega) (by omega) (by omega)) (fun s => hf 4 t s (by omega) (by omega) (by omega) (by omega) (by omega)), hT.2 t old part hp nm]
      refine (sayR_n (by rw [r32]; exact txI_32 old) ⟨(hX.2.2.2.2 t old).1, (hX.2.2.2.2 t old).2.1⟩ (fun i hi => by rw [r31]; exact txI_31 old hi) part nm).symm
    · rcases hc with ⟨q1, q2⟩ | ⟨q1, q2⟩
      · exact absurd ht (by omega)
      · have et : t = (R 30 0 3).toNat := by omega
        subst et
        have hTX := (hy q2).1
        have hF1 : rdF (C 15 0) (C 14 0 1).toNat = -1 := by
          have e2 := eT.2
          unfold textF at e2
          rw [e2]
          exact q2
        have e32 : R3 32 0 (R 30 0 3).toNat = R 30 0 6 := by
          rw [r32]
          unfold txI
          rw [up_app, if_neg (by omega), up_app, if_pos ⟨rfl, rfl, rfl⟩]
        rw [TX_tellV hF1 hTX part hp nm]
        unfold sayR
        rw [e32, hTp.1, valT_cg eT.1 part nm, valT_cg (b := rowR R3 (R 30 0 3).toNat) (c := txB R) (n := (R 30 0 6).toNat) (fun i _ => r31 _)]
theorem imgI_o (R : IM) {k s : Nat} (h1 : ¬ (44 ≤ k ∧ k ≤ 46)) (h2 : ¬ (k = 30 ∧ 46 ≤ s ∧ s ≤ 50)) : imgI R k 0 s = R k 0 s := by
  unfold imgI
  rw [up_app, if_neg (by omega), up_app, if_neg (by omega), up_app, if_neg (by omega), up_app, if_neg (by omega), up_app, if_neg (by omega), cp2_app, if_neg (by omega), if_neg (by omega), cp1_app, if_neg (by omega)]
theorem imgI_RI {R : IM} (h : RI R) : RI (imgI R) := RI_up (RI_up (RI_up (RI_up (RI_up (cp2_RI (cp1_RI h _ _ _) _ _ _ _ _) (h _ _ _)) (h _ _ _)) (h _ _ _)) (h _ _ _)) (h _ _ _)
theorem imgI_k (R : IM) : (∀ p, p < 5 → imgI R 44 0 p = R 35 0 p) ∧ (∀ q, q < 50 → imgI R 45 0 q = R 36 0 q ∧ imgI R 46 0 q = R 37 0 q) := by
  refine ⟨fun p hp => ?_, fun q hq => ⟨?_, ?_⟩⟩
  · unfold imgI
    rw [up_app, if_neg (by omega), up_app, if_neg (by omega), up_app, if_neg (by omega), up_app, if_neg (by omega), up_app, if_neg (by omega), cp2_app, if_neg (by omega), if_neg (by omega), cp1_app, if_pos ⟨rfl, rfl, hp⟩]
  · unfold imgI
    rw [up_app, if_neg (by omega), up_app, if_neg (by omega), up_app, if_neg (by omega), up_app, if_neg (by omega), up_app, if_neg (by omega), cp2_app, if_pos ⟨rfl, rfl, hq⟩]
    rfl
  · unfold imgI
    rw [up_app, if_neg (by omega), up_app, if_neg (by omega), up_app, if_neg (by omega), up_app, if_neg (by omega), up_app, if_neg (by omega), cp2_app, if_neg (by omega), if_pos ⟨rfl, rfl, hq⟩]
    rfl
theorem REL_image {C R : IM} (h : REL C R) : REL (imageM C) (imgI R) := by
  have h5 := h.h5
  have hRC := h.RC.1
  have hS' := SC_image h.1
  obtain ⟨hS, hRR, hX, hA, ⟨a3, a4, a5, a6, a7⟩, hPe, hT, hTp, hK, hSh⟩ := h
  have e : ∀ k i s, ¬ (k = 0 ∧ s = 9) → ¬ (k = 18 ∧ i = 2) → ¬ (21 ≤ k ∧ k ≤ 23 ∧ 10 ≤ i) → imageM C k i s = C k i s := by
    intro k i s h1 h2 h3
    unfold imageM becM
    rw [up_app, if_neg (by omega), bec_o h2 (by omega)]
  have e18 : ∀ s, 3 ≤ s → s ≤ 7 → imageM C 18 2 s = C 18 0 s := fun s s1 s2 => by
    unfold imageM becM
    rw [up_app, if_neg (by omega), bec_18 ⟨s1, s2⟩]
  have ec : ∀ k p s : Nat, (k = 21 ∧ s < 2 ∨ k = 22 ∧ s < 10 ∨ k = 23 ∧ s < 10) → (p : Int) < R 30 0 12 → imageM C k (5 * 2 + p) s = C k (5 * 0 + p) s := fun k p s hk hp => by
    unfold imageM becM
    rw [up_app, if_neg (by omega), bec_c hk (by omega)]
  have k9 := imgI_k R
  refine ⟨hS', imgI_RI hRR, hX.same (fun s => imgI_o R (by omega) (by omega)) (fun s => imgI_o R (by omega) (by omega)) (fun s => imgI_o R (by omega) (by omega)) (imgI_o R (by omega) (by omega)) (imgI_o R (by omega) (by omega)), fun q hq hne => ?_, ⟨?_, ?_, ?_, ?_, ?_⟩, PEO_c hPe (imgI_o R (by omega) (by omega)) (fun k p s _ _ _ => e _ _ _ (by omega) (by omega) (by omega)) (fun k s _ _ => imgI_o R (by omega) (by omega)) h5.2, TXT_c hT (e _ _ _ (by omega) (by omega) (by omega)) (imgI_o R (by omega) (by omega)) (fun k j s _ => e _ _ _ (by omega) (by omega) (by omega)) (fun k s _ _ => imgI_o R (by omega) (by omega)), TPE_c hTp (e _ _ _ (by omega) (by omega) (by omega)) (imgI_o R (by omega) (by omega)) (fun s => e _ _ _ (by omega) (by omega) (by omega)) (fun s => imgI_o R (by omega) (by omega)), Or.inr ⟨?_, ?_, ⟨?_, ?_, ?_, ?_, ?_⟩, fun p hp => ?_⟩, SHE_c hSh (fun k j s _ => e _ _ _ (by omega) (by omega) (by omega)) (fun k s _ _ => imgI_o R (by omega) (by omega))⟩
  · rw [imgI_o R (by omega) (by omega)] at hq hne ⊢
    exact hA q hq hne
  · rw [e _ _ _ (by omega) (by omega) (by omega), imgI_o R (by omega) (by omega)]; exact a3
  · rw [e _ _ _ (by omega) (by omega) (by omega), imgI_o R (by omega) (by omega)]; exact a4
  · rw [e _ _ _ (by omega) (by omega) (by omega), imgI_o R (by omega) (by omega)]; exact a5
  · rw [e _ _ _ (by omega) (by omega) (by omega), imgI_o R (by omega) (by omega)]; exact a6
  · rw [e _ _ _ (by omega) (by omega) (by omega), imgI_o R (by omega) (by omega)]; exact a7
  · unfold imageM
    rw [up_app, if_pos ⟨rfl, rfl, rfl⟩]
  · show 0 ≤ R 30 0 12 ∧ R 30 0 12 ≤ R 30 0 12
    omega
  · rw [e18 3 (by omega) (by omega)]; exact a3
  · rw [e18 4 (by omega) (by omega)]; exact a4
  · rw [e18 5 (by omega) (by omega)]; exact a5
  · rw [e18 6 (by omega) (by omega)]; exact a6
  · rw [e18 7 (by omega) (by omega)]; exact a7
  · have hp : (p : Int) < R 30 0 12 := hp
    have q := hPe p hp
    rw [ec 21 p 0 (by omega) hp, ec 21 p 1 (by omega) hp, imgI_o R (by omega) (by omega), k9.1 p (by omega)]
    refine ⟨q.1, q.2.1, fun g hg => ?_⟩
    have q2 := q.2.2 g hg
    rw [ec 22 p g (by omega) hp, ec 23 p g (by omega) hp, (k9.2 (10 * p + g) (by omega)).1, (k9.2 (10 * p + g) (by omega)).2]
    refine ⟨q2.1, fun z => ⟨q2.2 z, hA (10 * p + g) (by omega) (by rw [← q2.1]; exact z)⟩⟩
theorem bckI_o (R : IM) {k s : Nat} (h1 : ¬ (35 ≤ k ∧ k ≤ 37)) (h2 : ¬ (k = 30 ∧ (s = 12 ∨ s = 7 ∨ s = 8 ∨ s = 9 ∨ s = 4))) : bckI R k 0 s = R k 0 s := by
  unfold bckI
  rw [up_app, if_neg (by omega), up_app, if_neg (by omega), up_app, if_neg (by omega), up_app, if_neg (by omega), up_app, if_neg (by omega), cp2_app, if_neg (by omega), if_neg (by omega), cp1_app, if_neg (by omega)]
theorem bckI_RI {R : IM} (h : RI R) : RI (bckI R) := RI_up (RI_up (RI_up (RI_up (RI_up (cp2_RI (cp1_RI h _ _ _) _ _ _ _ _) (h _ _ _)) (h _ _ _)) (h _ _ _)) (h _ _ _)) (h _ _ _)
theorem bckI_k (R : IM) : (∀ p, p < 5 → bckI R 35 0 p = R 44 0 p) ∧ (∀ q, q < 50 → bckI R 36 0 q = R 45 0 q ∧ bckI R 37 0 q = R 46 0 q) := by
  refine ⟨fun p hp => ?_, fun q hq => ⟨?_, ?_⟩⟩
  · unfold bckI
    rw [up_app, if_neg (by omega), up_app, if_neg (by omega), up_app, if_neg (by omega), up_app, if_neg (by omega), up_app, if_neg (by omega), cp2_app, if_neg (by omega), if_neg (by omega), cp1_app, if_pos ⟨rfl, rfl, hp⟩]
  · unfold bckI
    rw [up_app, if_neg (by omega), up_app, if_neg (by omega), up_app, if_neg (by omega), up_app, if_neg (by omega), up_app, if_neg (by omega), cp2_app, if_pos ⟨rfl, rfl, hq⟩]
    rfl
  · unfold bckI
    rw [up_app, if_neg (by omega), up_app, if_neg (by omega), up_app, if_neg (by omega), up_app, if_neg (by omega), up_app, if_neg (by omega), cp2_app, if_neg (by omega), if_pos ⟨rfl, rfl, hq⟩]
    rfl
theorem backA_eq {C R : IM} (h : REL C R) : backA C = if R 30 0 46 = -1 then -3 else R 30 0 46 := by
  unfold backA
  rcases h.2.2.2.2.2.2.2.2.1 with ⟨a, b⟩ | ⟨a, b, c, d⟩
  · rw [if_pos a, if_pos b]
  · rw [if_neg (by omega), if_neg (by omega)]
    exact c.1
theorem REL_back0 {C R : IM} (h : REL C R) (hk : R 30 0 46 = -1) : backM C = C := by
  unfold backM
  rcases h.2.2.2.2.2.2.2.2.1 with ⟨a, b⟩ | ⟨a, b, c, d⟩
  · rw [if_pos a]
  · exact absurd hk (by omega)
theorem REL_back {C R : IM} (h : REL C R) (hk : R 30 0 46 ≠ -1) : REL (backM C) (bckI R) := by
  have h5 := h.h5
  have hS' := SC_back h.1
  obtain ⟨hS, hRR, hX, hA, hN, hPe, hT, hTp, hK, hSh⟩ := h
  have hK' := hK
  rcases hK with ⟨a, b⟩ | ⟨a, b, ⟨c3, c4, c5, c6, c7⟩, d⟩
  · exact absurd b hk
  have e1 : backM C = becM C 0 2 := by unfold backM; rw [if_neg (by omega)]
  rw [e1] at hS' ⊢
  have e : ∀ k i s, ¬ (k = 18 ∧ i = 0) → ¬ (21 ≤ k ∧ k ≤ 23 ∧ i < 5) → becM C 0 2 k i s = C k i s := by
    intro k i s h2 h3
    unfold becM
    rw [bec_o h2 (by omega)]
  have e18 : ∀ s, 3 ≤ s → s ≤ 7 → becM C 0 2 18 0 s = C 18 2 s := fun s s1 s2 => by
    unfold becM
    rw [bec_18 ⟨s1, s2⟩]
  have ec : ∀ k p s : Nat, (k = 21 ∧ s < 2 ∨ k = 22 ∧ s < 10 ∨ k = 23 ∧ s < 10) → (p : Int) < R 30 0 46 → becM C 0 2 k (5 * 0 + p) s = C k (5 * 2 + p) s := fun k p s hk hp => by
    unfold becM
    rw [bec_c hk (by omega)]
  have k9 := bckI_k R
  have b12 : bckI R 30 0 12 = R 30 0 46 := rfl
  refine ⟨hS', bckI_RI hRR, hX.same (fun s => bckI_o R (by omega) (by omega)) (fun s => bckI_o R (by omega) (by omega)) (fun s => bckI_o R (by omega) (by omega)) (bckI_o R (by omega) (by omega)) (bckI_o R (by omega) (by omega)), fun q hq hne => ?_, ⟨?_, ?_, ?_, ?_, ?_⟩, fun p hp => ?_, TXT_c hT (e _ _ _ (by omega) (by omega)) (bckI_o R (by omega) (by omega)) (fun k j s _ => e _ _ _ (by omega) (by omega)) (fun k s _ _ => bckI_o R (by omega) (by omega)), TPE_c hTp (e _ _ _ (by omega) (by omega)) (bckI_o R (by omega) (by omega)) (fun s => e _ _ _ (by omega) (by omega)) (fun s => bckI_o R (by omega) (by omega)), Or.inr ⟨?_, ?_, ⟨?_, ?_, ?_, ?_, ?_⟩, fun p hp => ?_⟩, SHE_c hSh (fun k j s _ => e _ _ _ (by omega) (by omega)) (fun k s _ _ => bckI_o R (by omega) (by omega))⟩
  · rw [b12] at hq
    rw [(k9.2 q (by omega)).1] at hne
    rw [(k9.2 q (by omega)).2]
    have q2 := (d (q / 10) (by omega)).2.2 (q % 10) (by omega)
    rw [show 10 * (q / 10) + q % 10 = q by omega] at q2
    exact (q2.2 (by rw [q2.1]; exact hne)).2
  · rw [e18 3 (by omega) (by omega)]; exact c3
  · rw [e18 4 (by omega) (by omega)]; exact c4
  · rw [e18 5 (by omega) (by omega)]; exact c5
  · rw [e18 6 (by omega) (by omega)]; exact c6
  · rw [e18 7 (by omega) (by omega)]; exact c7
  · rw [b12] at hp
    have q := d p hp
    rw [ec 21 p 0 (by omega) hp, ec 21 p 1 (by omega) hp, bckI_o R (by omega) (by omega), k9.1 p (by omega)]
    refine ⟨q.1, q.2.1, fun g hg => ?_⟩
    have q2 := q.2.2 g hg
    rw [ec 22 p g (by omega) hp, ec 23 p g (by omega) hp, (k9.2 (10 * p + g) (by omega)).1, (k9.2 (10 * p + g) (by omega)).2]
    exact ⟨q2.1, fun z => (q2.2 z).1⟩
  · rw [e 0 0 9 (by omega) (by omega)]; exact a
  · show 0 ≤ R 30 0 46 ∧ R 30 0 46 ≤ R 30 0 46
    omega
  · rw [e _ _ _ (by omega) (by omega)]; exact c3
  · rw [e _ _ _ (by omega) (by omega)]; exact c4
  · rw [e _ _ _ (by omega) (by omega)]; exact c5
  · rw [e _ _ _ (by omega) (by omega)]; exact c6
  · rw [e _ _ _ (by omega) (by omega)]; exact c7
  · have hp : (p : Int) < R 30 0 46 := hp
    have q := d p hp
    rw [e _ _ _ (by omega) (by omega), e _ _ _ (by omega) (by omega), bckI_o R (by omega) (by omega), bckI_o R (by omega) (by omega)]
    refine ⟨q.1, q.2.1, fun g hg => ?_⟩
    rw [e _ _ _ (by omega) (by omega), e _ _ _ (by omega) (by omega), bckI_o R (by omega) (by omega), bckI_o R (by omega) (by omega)]
    exact q.2.2 g hg
