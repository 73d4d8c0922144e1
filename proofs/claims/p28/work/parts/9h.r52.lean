/-! BOTH: an hour, a letter, a text, the image keep them the same -/

theorem bgI_k (im : IM) {s : Nat} (hs : s < 50) : bgI im 50 38 0 s = -1 ∧ bgI im 50 39 0 s = 0 := ⟨by rw [bgI_app, if_pos ⟨rfl, rfl, hs⟩], by rw [bgI_app, if_neg (by omega), if_pos ⟨rfl, rfl, hs⟩]⟩
/-- in this hour the same words go off -/
theorem off_eq {C R : IM} (h : REL C R) {N : Nat} (hN : (N : Int) < 10 * R 30 0 12) : (ofI (bgI R 50) N ↔ goesW C 0 (N / 10) (N % 10) 1 ≠ -1) ∧ (goesW C 0 (N / 10) (N % 10) 1 ≠ -1 → be1 (bgI R 50) N = badP C 0 N) := by
  have h5 := h.h5
  have e12 : bgI R 50 30 0 12 = R 30 0 12 := rfl
  have hB : RN (bgI R 50) 0 (bgI R 50) := RN_0 (fun q hq => bgI_k R (by omega)) (by have := h.2.1 30 0 9; exact this) rfl ⟨rfl, rfl, rfl⟩
  have eW := when_C (bgI_C R 50) rfl
  have g := RN_q hB (q := N) (by rw [e12]; exact hN)
  rw [eW.1, whenR_0] at g
  have hp : ((N / 10 : Nat) : Int) < R 30 0 12 := by omega
  have ew : whenR R 1 N = goesW C 0 (N / 10) (N % 10) 1 := by
    rw [goW_eq h hp (by omega), show 10 * (N / 10) + N % 10 = N by omega]
    unfold whenR
    rw [if_pos hp]
  have eb : goesW C 0 (N / 10) (N % 10) 1 ≠ -1 → beT (bgI R 50) N ((0 : Nat) : Int) = badP C 0 N := fun z => by
    have hne := goes_ne z
    unfold badP
    have e := beW_eq h hp (by omega) hne 0
    rw [Int.add_zero, show 10 * (N / 10) + N % 10 = N by omega] at e
    rw [e]
    have eT := TR_C (bgI_C R 50)
    unfold beT
    rw [eT]
    rfl
  rw [show (0 : Nat) + 1 = 1 from rfl, ew] at g
  rcases g with ⟨a, -, b, c⟩ | ⟨a, b⟩
  · exact ⟨⟨fun _ => by rw [b]; decide, fun _ => a⟩, fun z => c.trans (eb z)⟩
  · exact ⟨⟨fun z => absurd z a, fun z => absurd b z⟩, fun z => absurd b z⟩
theorem hr_eq {C R : IM} (h : REL C R) (N : Nat) (hN : (N : Int) ≤ 10 * R 30 0 12) : shP C 0 N = shI (bgI R 50) N ∧ cntO C 0 N = cnI (bgI R 50) N := by
  have h5 := h.h5
  induction N with
  | zero => exact ⟨h.2.2.2.2.1.2.2.2.1, rfl⟩
  | succ N ih =>
    obtain ⟨a, b⟩ := ih (by omega)
    have g := off_eq h (N := N) (by omega)
    have hc := cntO_in C 0 N
    show (if goesW C 0 (N / 10) (N % 10) 1 = -1 then shP C 0 N else bm (shP C 0 N + badP C 0 N)) = (if ofI (bgI R 50) N then bm (shI (bgI R 50) N + be1 (bgI R 50) N) else shI (bgI R 50) N) ∧ (if goesW C 0 (N / 10) (N % 10) 1 = -1 then cntO C 0 N else cntO C 0 N + 1) = (if ofI (bgI R 50) N then bm (cnI (bgI R 50) N + 1) else cnI (bgI R 50) N)
    by_cases z : goesW C 0 (N / 10) (N % 10) 1 = -1
    · have no : ¬ ofI (bgI R 50) N := fun y => g.1.mp y z
      rw [if_pos z, if_pos z, if_neg no, if_neg no]
      exact ⟨a, b⟩
    · have yes := g.1.mpr z
      rw [if_neg z, if_neg z, if_pos yes, if_pos yes, g.2 z, ← a, ← b]
      exact ⟨rfl, (bm_idd (by constructor <;> omega)).symm⟩
theorem liveA_eq {C R : IM} (h : REL C R) (h9 : R 30 0 7 ≠ 999) : liveA C = cnI (bgI R 50) (10 * R 30 0 12).toNat := by
  have h5 := h.h5
  have hh := h.RC.2.1
  obtain ⟨a3, a4, a5, a6, a7⟩ := h.2.2.2.2.1
  unfold liveA
  rw [if_neg (by omega), ← (hr_eq h _ (by omega)).2, show (10 * R 30 0 12).toNat = 10 * (C 18 0 3).toNat by omega]
theorem REL_live {C R R2 : IM} (h : REL C R) (h9 : R 30 0 7 ≠ 999) (hR2 : RI R2) (ha : agY R2 (up (lvN (bgI R 50) 0 (10 * R 30 0 12).toNat) 30 0 7 (R 30 0 7 + 1))) : REL (liveM C) R2 := by
  have h5 := h.h5
  have hRC := h.RC
  have hh := hRC.2.1
  obtain ⟨a3, a4, a5, a6, a7⟩ := h.2.2.2.2.1
  have hPe := h.2.2.2.2.2.1
  have eN : 10 * (C 18 0 3).toNat = (10 * R 30 0 12).toNat := by omega
  have e1 : liveM C = up (pasM C 0 (10 * R 30 0 12).toNat) 18 0 4 (C 18 0 4 + 1) := by unfold liveM; rw [if_neg (by omega), eN]
  have hS := SC_live h.1
  rw [e1] at hS ⊢
  have hRb := bgI_RI h.2.1 50
  have hRCb : RC (bgI R 50) := hRC.1.C hRb (bgI_C R 50) hRC.1.2.2.2.2.1
  have hAb : AG (bgI R 50) 1000 := h.2.2.2.1.C (bgI_C R 50)
  have hk := RC_hr (S := bgI R 50) (t := 0) (by omega) hRCb hAb (by show R 30 0 7 ≤ 1099; omega) hR2 ha
  have hL := LV_N (bgI R 50) (t := 0) (by omega) (10 * R 30 0 12).toNat
  have r : ∀ k s, ¬ (k = 30 ∧ (s = 7 ∨ 15 ≤ s ∧ s ≤ 29)) → R2 k 0 s = lvN (bgI R 50) 0 (10 * R 30 0 12).toNat k 0 s := fun k s z => by
    rw [ha k 0 s (by omega), up_app, if_neg (by omega)]
  have ro : ∀ k s, ¬ (36 ≤ k ∧ k ≤ 39) → ¬ (k = 30 ∧ (s = 7 ∨ s = 9 ∨ 15 ≤ s ∧ s ≤ 33)) → R2 k 0 s = R k 0 s := fun k s z1 z2 => by
    rw [r k s (by omega), hL.1 k 0 s z1 (by omega)]
    exact bgI_c 50 (by omega) (by omega)
  have r7 : R2 30 0 7 = R 30 0 7 + 1 := by rw [ha 30 0 7 (by omega), up_app, if_pos ⟨rfl, rfl, rfl⟩]
  have r9 : R2 30 0 9 = shI (bgI R 50) (10 * R 30 0 12).toNat := (r 30 9 (by omega)).trans hL.2.2.2.1
  have g18 : ∀ s, s ≠ 4 → s ≠ 6 → up (pasM C 0 (10 * R 30 0 12).toNat) 18 0 4 (C 18 0 4 + 1) 18 0 s = C 18 0 s := fun s z1 z2 => by
    rw [up_app, if_neg (by omega), pasM_18 _ _ _ z2]
  refine REL_w h hS hR2 hk.2 ⟨?_, ?_, ?_, ?_, ?_⟩ (fun p hp => ?_) (fun k i s x y => ?_) (fun k s x y => ro k s (by omega) (by omega)) (Int.le_of_eq (ro 30 12 (by omega) (by omega)).symm) (fun p hp => ro 34 p (by omega) (by omega))
  · rw [g18 3 (by omega) (by omega), ro 30 12 (by omega) (by omega)]; exact a3
  · rw [up_app, if_pos ⟨rfl, rfl, rfl⟩, r7, a4]
  · rw [g18 5 (by omega) (by omega), ro 30 8 (by omega) (by omega)]; exact a5
  · rw [up_app, if_neg (by omega), pasM_sh, r9]
    exact (hr_eq h _ (by omega)).1
  · rw [g18 7 (by omega) (by omega), ro 30 4 (by omega) (by omega)]; exact a7
  · rw [ro 30 12 (by omega) (by omega)] at hp
    have q := hPe p hp
    have u : ∀ k s, k ≠ 18 → up (pasM C 0 (10 * R 30 0 12).toNat) 18 0 4 (C 18 0 4 + 1) k (5 * 0 + p) s = pasM C 0 (10 * R 30 0 12).toNat k (5 * 0 + p) s := fun k s z => by rw [up_app, if_neg (by omega)]
    rw [u 21 0 (by omega), u 21 1 (by omega), pasM_k _ _ _ (by omega) (by omega) (by omega), pasM_k _ _ _ (by omega) (by omega) (by omega), ro 34 p (by omega) (by omega), ro 35 p (by omega) (by omega)]
    refine ⟨q.1, q.2.1, fun g hg => ?_⟩
    have q2 := q.2.2 g hg
    have of := off_eq h (N := 10 * p + g) (by omega)
    rw [show (10 * p + g) / 10 = p by omega, show (10 * p + g) % 10 = g by omega] at of
    have l := hL.2.2.1 (10 * p + g) (by omega)
    have b36 : bgI R 50 36 0 (10 * p + g) = R 36 0 (10 * p + g) := bgI_c 50 (by omega) (by omega)
    have b37 : bgI R 50 37 0 (10 * p + g) = R 37 0 (10 * p + g) := bgI_c 50 (by omega) (by omega)
    rw [u 22 g (by omega), u 23 g (by omega), r 36 _ (by omega), r 37 _ (by omega), pasM_app, pasM_app, if_pos (show (22 = 22 ∨ 22 = 23) ∧ 5 * 0 ≤ 5 * 0 + p ∧ g < 10 ∧ 10 * (5 * 0 + p - 5 * 0) + g < (10 * R 30 0 12).toNat by omega), if_pos (show (23 = 22 ∨ 23 = 23) ∧ 5 * 0 ≤ 5 * 0 + p ∧ g < 10 ∧ 10 * (5 * 0 + p - 5 * 0) + g < (10 * R 30 0 12).toNat by omega), show 5 * 0 + p - 5 * 0 = p by omega]
    by_cases z : goesW C 0 p g 1 = -1
    · have no : ¬ ofI (bgI R 50) (10 * p + g) := fun y => of.1.mp y z
      have l2 := l.2 no
      rw [if_pos z, if_pos z, if_neg (by omega), if_pos rfl, l2.1, b36]
      refine ⟨q2.1, fun y => ?_⟩
      have hw : R 36 0 (10 * p + g) ≠ -1 := by rw [← q2.1]; exact y
      have hag := h.2.2.2.1 (10 * p + g) (by omega) hw
      have hpi := ((hRC.1.2.2.2.2.2.2 p hp).2.2 g hg).2.2 hw
      rw [l2.2.1 (by rw [b36]; exact hw), b37, q2.2 y]
      exact bm_idd (by constructor <;> omega)
    · have yes := of.1.mpr z
      rw [if_neg z, if_neg z, if_pos rfl, (l.1 yes).1]
      exact ⟨rfl, fun y => absurd rfl y⟩
  · rw [up_app, if_neg (by omega), pasM_app, if_neg (by omega), if_neg (by omega)]
theorem REL_live0 {C R : IM} (h : REL C R) (h9 : R 30 0 7 = 999) : liveM C = C := by
  have a4 := h.2.2.2.2.1.2.1
  unfold liveM
  rw [if_pos (by omega)]
theorem REL_feed {C R : IM} (h : REL C R) {c : Int} (ok : 0 ≤ c ∧ c ≤ 255) (h6 : R 30 0 6 ≠ 160) : REL (feedM C c) (up (up R 33 0 (R 30 0 6).toNat c) 30 0 6 (R 30 0 6 + 1)) := by
  have h5 := h.h5
  have hS := SC_feed (c := c) h.1
  have hRC := h.RC.1
  have hx6 := hRC.2.1.2.2.1
  obtain ⟨-, hRR, hX, hA, hN, hPe, hT, hTp, hK, hSh⟩ := h
  have e1 : feedM C c = up (up C 15 0 (R 30 0 6).toNat c) 14 0 1 (R 30 0 6 + 1) := by unfold feedM; rw [hTp.1, if_pos (by omega)]
  rw [e1] at hS ⊢
  have hRC' := RC_feed hRC ok.1 ok.2 h6
  refine ⟨hS, hRC'.1, hRC'.2.1, hA, hN, PEO_c hPe rfl (fun k p s _ _ _ => by rw [up_app, if_neg (by omega), up_app, if_neg (by omega)]) (fun k s _ _ => by rw [up_app, if_neg (by omega), up_app, if_neg (by omega)]) h5.2, TXT_c hT rfl rfl (fun k j s _ => by rw [up_app, if_neg (by omega), up_app, if_neg (by omega)]) (fun k s _ _ => by rw [up_app, if_neg (by omega), up_app, if_neg (by omega)]), ⟨rfl, fun i hi => ?_⟩, KEP_c hK rfl (Int.le_refl _) (fun k i s _ => by rw [up_app, if_neg (by omega), up_app, if_neg (by omega)]) (fun s _ _ => by rw [up_app, if_neg (by omega), up_app, if_neg (by omega)]) (fun k s _ _ => by rw [up_app, if_neg (by omega), up_app, if_neg (by omega)]) (fun _ _ => rfl) h5.2, SHE_c hSh (fun k j s _ => by rw [up_app, if_neg (by omega), up_app, if_neg (by omega)]) (fun k s _ _ => by rw [up_app, if_neg (by omega), up_app, if_neg (by omega)])⟩
  have hi : (i : Int) < R 30 0 6 + 1 := hi
  have eC : up (up C 15 0 (R 30 0 6).toNat c) 14 0 1 (R 30 0 6 + 1) 15 0 i = if 15 = 15 ∧ 0 = 0 ∧ i = (R 30 0 6).toNat then c else C 15 0 i := by rw [up_app, if_neg (by omega), up_app]
  have eR : up (up R 33 0 (R 30 0 6).toNat c) 30 0 6 (R 30 0 6 + 1) 33 0 i = if 33 = 33 ∧ 0 = 0 ∧ i = (R 30 0 6).toNat then c else R 33 0 i := by rw [up_app, if_neg (by omega), up_app]
  rw [eC, eR]
  by_cases z : i = (R 30 0 6).toNat
  · rw [if_pos ⟨rfl, rfl, z⟩, if_pos ⟨rfl, rfl, z⟩]
  · rw [if_neg (by omega), if_neg (by omega)]
    exact hTp.2 i (by omega)
theorem REL_feed0 {C R : IM} (h : REL C R) {c : Int} (ok : ¬ ((0 ≤ c ∧ c ≤ 255) ∧ R 30 0 6 ≠ 160)) : feedM C c = C := by
  have t6 := h.2.2.2.2.2.2.2.1.1
  have hx6 := h.2.2.1.2.2.1
  unfold feedM
  rw [if_neg (by omega)]
