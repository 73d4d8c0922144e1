/-! BOTH: what sets, comes, is filled, flossed, said, kissed keeps them the same -/

theorem REL_w {C R C' R' : IM} (h : REL C R) (hS : SC C') (hR : RI R') (hA : AG R' 1000) (hN : NUM C' R') (hP : PEO C' R') (hC : ∀ k i s, ¬ (k = 18 ∧ i = 0) → ¬ (21 ≤ k ∧ k ≤ 23 ∧ i < 5) → C' k i s = C k i s) (hR2 : ∀ k s, ¬ (34 ≤ k ∧ k ≤ 43) → ¬ (k = 30 ∧ (s = 4 ∨ s = 7 ∨ s = 8 ∨ s = 9 ∨ s = 12 ∨ 15 ≤ s ∧ s ≤ 33 ∨ 38 ≤ s ∧ s ≤ 40)) → R' k 0 s = R k 0 s) (h12 : R 30 0 12 ≤ R' 30 0 12) (h34 : ∀ p : Nat, (p : Int) < R 30 0 12 → R' 34 0 p = R 34 0 p) : REL C' R' := by
  have h5 := h.h5
  obtain ⟨-, hRR, hX, -, -, hPe, hT, hTp, hK, hSh⟩ := h
  have e : ∀ s, ¬ (s = 4 ∨ s = 7 ∨ s = 8 ∨ s = 9 ∨ s = 12 ∨ 15 ≤ s ∧ s ≤ 33 ∨ 38 ≤ s ∧ s ≤ 40) → R' 30 0 s = R 30 0 s := fun s hs => hR2 30 s (by omega) (by omega)
  have r : ∀ k s, ¬ (34 ≤ k ∧ k ≤ 43) → k ≠ 30 → R' k 0 s = R k 0 s := fun k s h1 h2 => hR2 k s h1 (by omega)
  exact ⟨hS, hR, hX.same (fun s => r _ _ (by omega) (by omega)) (fun s => r _ _ (by omega) (by omega)) (fun s => r _ _ (by omega) (by omega)) (e 3 (by omega)) (e 6 (by omega)), hA, hN, hP, TXT_c hT (hC _ _ _ (by omega) (by omega)) (e 3 (by omega)) (fun k j s _ => hC _ _ _ (by omega) (by omega)) (fun k s _ _ => r _ _ (by omega) (by omega)), TPE_c hTp (hC _ _ _ (by omega) (by omega)) (e 6 (by omega)) (fun s => hC _ _ _ (by omega) (by omega)) (fun s => r _ _ (by omega) (by omega)), KEP_c hK (hC _ _ _ (by omega) (by omega)) h12 (fun k i s _ => hC _ _ _ (by omega) (by omega)) (fun s _ _ => e s (by omega)) (fun k s _ _ => r _ _ (by omega) (by omega)) h34 h5.2, SHE_c hSh (fun k j s _ => hC _ _ _ (by omega) (by omega)) (fun k s _ _ => r _ _ (by omega) (by omega))⟩
theorem REL_set {C R : IM} (h : REL C R) {what of v : Int} (hv : ri v) (ok : (what = 0 ∧ 0 ≤ v ∧ v ≤ 999) ∨ (what = 1 ∧ 0 ≤ v ∧ v ≤ 16777215) ∨ (what = 2 ∧ (0 ≤ of ∧ of < R 30 0 12) ∧ 0 ≤ v ∧ v ≤ 9)) : REL (setM C what of v) (lyI R what of.toNat v) := by
  have hRC := h.RC.1
  have h5 := h.h5
  have hS' := SC_set (what := what) (of := of) h.1 hv
  have hRC' : RC (lyI R what of.toNat v) := RC_ly hRC (by omega)
  have hA' := AG_ly h.2.2.2.1 what v of.toNat
  obtain ⟨a3, a4, a5, a6, a7⟩ := h.2.2.2.2.1
  have hPe := h.2.2.2.2.2.1
  rcases ok with ⟨rfl, v0, v1⟩ | ⟨rfl, v0, v1⟩ | ⟨rfl, ⟨o0, o1⟩, v0, v1⟩
  · have e1 : setM C 0 of v = up C 18 0 4 v := by unfold setM; rw [if_pos rfl, if_pos (by omega)]
    have e2 : lyI R 0 of.toNat v = up R 30 0 7 v := by unfold lyI; rw [if_pos rfl]
    rw [e1] at hS' ⊢
    rw [e2] at hRC' hA' ⊢
    exact REL_w h hS' hRC'.1 hA' ⟨a3, rfl, a5, a6, a7⟩ (PEO_c hPe rfl (fun k p s _ _ _ => by rw [up_app, if_neg (by omega)]) (fun k s _ _ => by rw [up_app, if_neg (by omega)]) h5.2) (fun k i s x y => by rw [up_app, if_neg (by omega)]) (fun k s x y => by rw [up_app, if_neg (by omega)]) (Int.le_refl _) (fun _ _ => rfl)
  · have e1 : setM C 1 of v = up C 18 0 5 v := by unfold setM; rw [if_neg (by omega), if_pos rfl, if_pos (by omega)]
    have e2 : lyI R 1 of.toNat v = up R 30 0 8 v := by unfold lyI; rw [if_neg (by omega), if_pos rfl]
    rw [e1] at hS' ⊢
    rw [e2] at hRC' hA' ⊢
    exact REL_w h hS' hRC'.1 hA' ⟨a3, a4, rfl, a6, a7⟩ (PEO_c hPe rfl (fun k p s _ _ _ => by rw [up_app, if_neg (by omega)]) (fun k s _ _ => by rw [up_app, if_neg (by omega)]) h5.2) (fun k i s x y => by rw [up_app, if_neg (by omega)]) (fun k s x y => by rw [up_app, if_neg (by omega)]) (Int.le_refl _) (fun _ _ => rfl)
  · have e1 : setM C 2 of v = up C 21 (5 * 0 + of.toNat) 1 v := by unfold setM; rw [if_neg (by omega), if_neg (by omega), if_pos (by omega)]
    have e2 : lyI R 2 of.toNat v = up R 35 0 of.toNat v := by unfold lyI; rw [if_neg (by omega), if_neg (by omega), if_pos rfl]
    rw [e1] at hS' ⊢
    rw [e2] at hRC' hA' ⊢
    refine REL_w h hS' hRC'.1 hA' ⟨a3, a4, a5, a6, a7⟩ (fun p hp => ?_) (fun k i s x y => by rw [up_app, if_neg (by omega)]) (fun k s x y => by rw [up_app, if_neg (by omega)]) (Int.le_refl _) (fun _ _ => rfl)
    have q := hPe p hp
    rw [up_app, if_neg (show ¬ (21 = 21 ∧ 5 * 0 + p = 5 * 0 + of.toNat ∧ 0 = 1) by omega), up_app, if_neg (show ¬ (34 = 35 ∧ 0 = 0 ∧ p = of.toNat) by omega), up_app, up_app]
    refine ⟨q.1, ?_, fun g hg => ?_⟩
    · by_cases z : p = of.toNat
      · rw [if_pos ⟨rfl, by omega, rfl⟩, if_pos ⟨rfl, rfl, z⟩]
      · rw [if_neg (by omega), if_neg (by omega)]
        exact q.2.1
    · rw [up_app, if_neg (by omega), up_app, if_neg (by omega), up_app, if_neg (by omega), up_app, if_neg (by omega)]
      exact q.2.2 g hg
theorem REL_set0 {C R : IM} (h : REL C R) {what of v : Int} (ok : ¬ ((what = 0 ∧ 0 ≤ v ∧ v ≤ 999) ∨ (what = 1 ∧ 0 ≤ v ∧ v ≤ 16777215) ∨ (what = 2 ∧ (0 ≤ of ∧ of < R 30 0 12) ∧ 0 ≤ v ∧ v ≤ 9))) : setM C what of v = C := by
  have a3 := h.2.2.2.2.1.1
  unfold setM
  (repeat' split) <;> first | rfl | (exfalso; omega)
theorem REL_man {C R : IM} (h : REL C R) {a c : Int} (ha : ri a) (hc : ri c) : REL (manM C a c) (mnI R a c) := by
  have hRC := h.RC.1
  have h5 := h.h5
  have hS' := SC_man h.1 ha hc
  have hRC' := RC_mn hRC a c
  obtain ⟨a3, a4, a5, a6, a7⟩ := h.2.2.2.2.1
  have hPe := h.2.2.2.2.2.1
  by_cases ok : ((0 ≤ a ∧ a ≤ 5) ∧ (0 ≤ c ∧ c ≤ 9)) ∧ R 30 0 12 ≠ 5
  · have e1 : manM C a c = welM C 0 a c := by unfold manM; rw [if_pos (by omega)]
    have e2 : mnI R a c = up (fiR (up (up R 34 0 (R 30 0 12).toNat a) 35 0 (R 30 0 12).toNat c) (10 * (R 30 0 12).toNat) 10 (-1)) 30 0 12 (R 30 0 12 + 1) := by unfold mnI; rw [if_pos ok]
    have f12 : mnI R a c 30 0 12 = R 30 0 12 + 1 := by rw [e2, up_app, if_pos ⟨rfl, rfl, rfl⟩]
    have fo : ∀ k s, ¬ (k = 30 ∧ s = 12) → mnI R a c k 0 s = fiR (up (up R 34 0 (R 30 0 12).toNat a) 35 0 (R 30 0 12).toNat c) (10 * (R 30 0 12).toNat) 10 (-1) k 0 s := fun k s z => by rw [e2, up_app, if_neg (by omega)]
    have f34 : ∀ k s, k = 34 ∨ k = 35 → mnI R a c k 0 s = if s = (R 30 0 12).toNat then (if k = 34 then a else c) else R k 0 s := fun k s z => by
      rw [fo k s (by omega)]
      unfold fiR
      rw [if_neg (by omega), up_app, up_app]
      rcases z with rfl | rfl
      · rw [if_neg (by omega)]
        by_cases y : s = (R 30 0 12).toNat
        · rw [if_pos ⟨rfl, rfl, y⟩, if_pos y, if_pos rfl]
        · rw [if_neg (by omega), if_neg y]
      · by_cases y : s = (R 30 0 12).toNat
        · rw [if_pos ⟨rfl, rfl, y⟩, if_pos y, if_neg (by omega)]
        · rw [if_neg (by omega), if_neg (by omega), if_neg y]
    have f36 : ∀ s, mnI R a c 36 0 s = if 10 * (R 30 0 12).toNat ≤ s ∧ s < 10 * (R 30 0 12).toNat + 10 then -1 else R 36 0 s := fun s => by
      rw [fo 36 s (by omega)]
      unfold fiR
      by_cases y : 10 * (R 30 0 12).toNat ≤ s ∧ s < 10 * (R 30 0 12).toNat + 10
      · rw [if_pos ⟨rfl, rfl, y.1, y.2⟩, if_pos y]
      · rw [if_neg (by omega), if_neg y, up_app, if_neg (by omega), up_app, if_neg (by omega)]
    have m3 : (C 18 0 3).toNat = (R 30 0 12).toNat := by rw [a3]
    have g3 : welM C 0 a c 18 0 3 = C 18 0 3 + 1 := by unfold welM; rw [up_app, if_pos ⟨rfl, rfl, rfl⟩]
    have g18 : ∀ s, s ≠ 3 → welM C 0 a c 18 0 s = C 18 0 s := fun s z => by
      unfold welM
      rw [up_app, if_neg (by omega), fl_app, if_neg (by omega), up_app, if_neg (by omega), up_app, if_neg (by omega)]
    have g21 : ∀ p s, s < 2 → welM C 0 a c 21 (5 * 0 + p) s = if p = (R 30 0 12).toNat then (if s = 0 then a else c) else C 21 (5 * 0 + p) s := fun p s z => by
      unfold welM
      rw [m3, up_app, if_neg (by omega), fl_app, if_neg (by omega), up_app, up_app]
      by_cases y : p = (R 30 0 12).toNat
      · rw [if_pos y]
        by_cases x : s = 0
        · rw [if_neg (by omega), if_pos ⟨rfl, by omega, x⟩, if_pos x]
        · rw [if_pos ⟨rfl, by omega, by omega⟩, if_neg x]
      · rw [if_neg (by omega), if_neg (by omega), if_neg y]
    have g22 : ∀ p g, g < 10 → welM C 0 a c 22 (5 * 0 + p) g = if p = (R 30 0 12).toNat then -1 else C 22 (5 * 0 + p) g := fun p g z => by
      unfold welM
      rw [m3, up_app, if_neg (by omega), fl_app]
      by_cases y : p = (R 30 0 12).toNat
      · rw [if_pos ⟨rfl, by omega, z⟩, if_pos y]
      · rw [if_neg (by omega), if_neg y, up_app, if_neg (by omega), up_app, if_neg (by omega)]
    have g23 : ∀ p g, welM C 0 a c 23 (5 * 0 + p) g = C 23 (5 * 0 + p) g := fun p g => by
      unfold welM
      rw [up_app, if_neg (by omega), fl_app, if_neg (by omega), up_app, if_neg (by omega), up_app, if_neg (by omega)]
    rw [e1] at hS' ⊢
    have hA' : AG (mnI R a c) 1000 := fun q hq hne => by
      rw [f12] at hq
      rw [f36] at hne
      rw [mnI_o R a c (by omega) (by omega)]
      split at hne
      · exact absurd rfl hne
      · exact h.2.2.2.1 q (by omega) hne
    refine REL_w h hS' hRC'.1 hA' ⟨by rw [g3, f12, a3], by rw [g18 4 (by omega), mnI_o R a c (by omega) (by omega)]; exact a4, by rw [g18 5 (by omega), mnI_o R a c (by omega) (by omega)]; exact a5, by rw [g18 6 (by omega), mnI_o R a c (by omega) (by omega)]; exact a6, by rw [g18 7 (by omega), mnI_o R a c (by omega) (by omega)]; exact a7⟩ (fun p hp => ?_) (fun k i s x y => ?_) (fun k s x y => mnI_o R a c (by omega) (by omega)) (by rw [f12]; omega) (fun p hp => by rw [f34 34 p (by omega), if_neg (by omega)])
    · rw [f12] at hp
      rw [g21 p 0 (by omega), g21 p 1 (by omega), f34 34 p (by omega), f34 35 p (by omega)]
      by_cases y : p = (R 30 0 12).toNat
      · rw [if_pos y, if_pos y, if_pos y, if_pos y, if_pos rfl, if_pos rfl, if_neg (by omega), if_neg (by omega)]
        refine ⟨rfl, rfl, fun g hg => ?_⟩
        rw [g22 p g hg, if_pos y, f36, if_pos (by omega)]
        exact ⟨rfl, fun z => absurd rfl z⟩
      · rw [if_neg y, if_neg y, if_neg y, if_neg y]
        have q := hPe p (by omega)
        refine ⟨q.1, q.2.1, fun g hg => ?_⟩
        rw [g22 p g hg, if_neg y, f36, if_neg (by omega), g23, mnI_o R a c (by omega) (by omega)]
        exact q.2.2 g hg
    · unfold welM
      rw [up_app, if_neg (by omega), fl_app, if_neg (by omega), up_app, if_neg (by omega), up_app, if_neg (by omega)]
  · have e1 : manM C a c = C := by unfold manM; rw [if_neg (by omega)]
    have e2 : mnI R a c = R := by unfold mnI; rw [if_neg ok]
    rw [e1, e2]
    exact h
theorem manA_eq {C R : IM} (h : REL C R) (a c : Int) : manA C a c = mnA R a c := by
  have a3 := h.2.2.2.2.1.1
  have h5 := h.h5
  unfold manA mnA
  (repeat' split) <;> omega
/-- a word laid down with its age; taken out -/
theorem PEO_put {C R : IM} (h : PEO C R) (p g : Nat) (w a : Int) (hg : g < 10) : PEO (up (up C 22 (5 * 0 + p) g w) 23 (5 * 0 + p) g a) (up (up R 36 0 (10 * p + g) w) 37 0 (10 * p + g) a) := by
  intro m hm
  have q := h m hm
  refine ⟨?_, ?_, fun i hi => ?_⟩
  · rw [up_app, if_neg (by omega), up_app, if_neg (by omega), up_app, if_neg (by omega), up_app, if_neg (by omega)]
    exact q.1
  · rw [up_app, if_neg (by omega), up_app, if_neg (by omega), up_app, if_neg (by omega), up_app, if_neg (by omega)]
    exact q.2.1
  · have q2 := q.2.2 i hi
    simp only [up_app]
    by_cases z : m = p ∧ i = g
    · obtain ⟨rfl, rfl⟩ := z
      simp
    · have z1 : ¬ (5 * 0 + m = 5 * 0 + p ∧ i = g) := by omega
      have z2 : ¬ (10 * m + i = 10 * p + g) := by omega
      rw [if_neg (by omega), if_neg (by omega), if_neg (by omega), if_neg (by omega), if_neg (by omega), if_neg (by omega), if_neg (by omega), if_neg (by omega)]
      exact q2
theorem PEO_out {C R : IM} (h : PEO C R) (p g : Nat) (hg : g < 10) : PEO (up C 22 (5 * 0 + p) g (-1)) (up R 36 0 (10 * p + g) (-1)) := by
  intro m hm
  have q := h m hm
  refine ⟨?_, ?_, fun i hi => ?_⟩
  · rw [up_app, if_neg (by omega), up_app, if_neg (by omega)]
    exact q.1
  · rw [up_app, if_neg (by omega), up_app, if_neg (by omega)]
    exact q.2.1
  · have q2 := q.2.2 i hi
    rw [up_app, up_app, up_app, if_neg (show ¬ (23 = 22 ∧ 5 * 0 + m = 5 * 0 + p ∧ i = g) by omega), up_app, if_neg (show ¬ (37 = 36 ∧ 0 = 0 ∧ 10 * m + i = 10 * p + g) by omega)]
    by_cases z : m = p ∧ i = g
    · rw [if_pos (by omega), if_pos (by omega)]
      exact ⟨rfl, fun y => absurd rfl y⟩
    · rw [if_neg (by omega), if_neg (by omega)]
      exact q2
theorem REL_put {C R : IM} (h : REL C R) {p g : Nat} {w a : Int} (hS : SC (up (up C 22 (5 * 0 + p) g w) 23 (5 * 0 + p) g a)) (hp : p < 5) (hg : g < 10) (hw : -1 ≤ w ∧ w < 16) (ha : 0 ≤ a ∧ a ≤ 1000) : REL (up (up C 22 (5 * 0 + p) g w) 23 (5 * 0 + p) g a) (up (up R 36 0 (10 * p + g) w) 37 0 (10 * p + g) a) := by
  have hRC' := RC_put h.RC.1 (s := 10 * p + g) (w := w) (a := a) hw (by omega)
  refine REL_w h hS hRC'.1 (fun q hq hne => ?_) h.2.2.2.2.1 (PEO_put h.2.2.2.2.2.1 p g w a hg) (fun k i s x y => by rw [up_app, if_neg (by omega), up_app, if_neg (by omega)]) (fun k s x y => by rw [up_app, if_neg (by omega), up_app, if_neg (by omega)]) (Int.le_refl _) (fun _ _ => rfl)
  have hq : (q : Int) < 10 * R 30 0 12 := hq
  have g9 := h.2.2.2.1 q hq
  rw [up_app]
  split
  · exact ha.2
  · rename_i z
    rw [up_app, if_neg (by omega), up_app, if_neg (by omega)] at hne
    rw [up_app, if_neg (by omega)]
    exact g9 hne
theorem REL_fill {C R : IM} (h : REL C R) {p g w hr : Int} (ok : (0 ≤ p ∧ p < R 30 0 12) ∧ (0 ≤ g ∧ g ≤ 9) ∧ (-1 ≤ w ∧ w ≤ 15) ∧ 0 ≤ hr ∧ hr ≤ 999) : REL (fillM C p g w hr) (up (up R 36 0 (10 * p.toNat + g.toNat) w) 37 0 (10 * p.toNat + g.toNat) hr) := by
  have a3 := h.2.2.2.2.1.1
  have h5 := h.h5
  have e1 : fillM C p g w hr = up (up C 22 (5 * 0 + p.toNat) g.toNat w) 23 (5 * 0 + p.toNat) g.toNat hr := by unfold fillM; rw [if_pos (by omega)]
  have hS := SC_fill (man := p) (gap := g) (w := w) (hours := hr) h.1
  rw [e1] at hS ⊢
  exact REL_put h hS (by omega) (by omega) (by omega) (by omega)
theorem REL_fill0 {C R : IM} (h : REL C R) {p g w hr : Int} (ok : ¬ ((0 ≤ p ∧ p < R 30 0 12) ∧ (0 ≤ g ∧ g ≤ 9) ∧ (-1 ≤ w ∧ w ≤ 15) ∧ 0 ≤ hr ∧ hr ≤ 999)) : fillM C p g w hr = C := by
  have a3 := h.2.2.2.2.1.1
  unfold fillM
  rw [if_neg (by omega)]
theorem REL_out {C R : IM} (h : REL C R) {p g : Nat} (hS : SC (up C 22 (5 * 0 + p) g (-1))) (hp : p < 5) (hg : g < 10) : REL (up C 22 (5 * 0 + p) g (-1)) (up R 36 0 (10 * p + g) (-1)) :=
  REL_w h hS (RC_out h.RC.1 (s := 10 * p + g)).1 (AG_out h.2.2.2.1 _) h.2.2.2.2.1 (PEO_out h.2.2.2.2.2.1 p g hg) (fun k i s x y => by rw [up_app, if_neg (by omega)]) (fun k s x y => by rw [up_app, if_neg (by omega)]) (Int.le_refl _) (fun _ _ => rfl)
theorem REL_floss {C R : IM} (h : REL C R) {p g : Int} (ok : (0 ≤ p ∧ p < R 30 0 12) ∧ (0 ≤ g ∧ g ≤ 9)) : REL (flossM C p g) (up R 36 0 (10 * p.toNat + g.toNat) (-1)) := by
  have a3 := h.2.2.2.2.1.1
  have h5 := h.h5
  have e1 : flossM C p g = up C 22 (5 * 0 + p.toNat) g.toNat (-1) := by unfold flossM; rw [if_pos (by omega)]
  have hS := SC_floss (man := p) (gap := g) h.1
  rw [e1] at hS ⊢
  exact REL_out h hS (by omega) (by omega)
theorem REL_floss0 {C R : IM} (h : REL C R) {p g : Int} (ok : ¬ ((0 ≤ p ∧ p < R 30 0 12) ∧ (0 ≤ g ∧ g ≤ 9))) : flossM C p g = C := by
  have a3 := h.2.2.2.2.1.1
  unfold flossM
  rw [if_neg (by omega)]
theorem REL_say {C R R2 : IM} (h : REL C R) (hag : agY R2 R) (hR2 : RI R2) {p w fd : Int} (ok : (0 ≤ p ∧ p < R 30 0 12) ∧ (0 ≤ w ∧ w ≤ 15) ∧ (0 ≤ fd ∧ fd ≤ 9)) : REL (sayM C p w fd) (spR R R2 p.toNat w fd) := by
  have a3 := h.2.2.2.2.1.1
  have h5 := h.h5
  have e1 : sayM C p w fd = uttM C 0 p.toNat w fd := by unfold sayM; rw [if_pos (by omega)]
  have hS := SC_say (man := p) (w := w) (food := fd) h.1
  rw [e1] at hS ⊢
  have eu := (ut_eq h (p := p.toNat) (by omega) w fd).2
  have hu := utR_in (im := R) (p := p.toNat) (w := w) (fd := fd)
  have hrel : REL (uttM C 0 p.toNat w fd) (spR R R p.toNat w fd) := by
    unfold uttM at hS ⊢
    unfold spR
    rw [eu] at hS ⊢
    by_cases z : utR R p.toNat w fd = -1
    · rw [if_pos z, if_pos z]
      exact h
    · rw [if_neg z] at hS ⊢
      rw [if_neg z]
      exact REL_put h hS (by omega) (by omega) (by omega) (by omega)
  exact hrel.S (spR_ag hag _ _ _).O.S (RC_say h.RC.1 hR2 hag (by omega)).1
theorem REL_say0 {C R : IM} (h : REL C R) {p w fd : Int} (ok : ¬ ((0 ≤ p ∧ p < R 30 0 12) ∧ (0 ≤ w ∧ w ≤ 15) ∧ (0 ≤ fd ∧ fd ≤ 9))) : sayM C p w fd = C := by
  have a3 := h.2.2.2.2.1.1
  unfold sayM
  rw [if_neg (by omega)]
theorem REL_force {C R : IM} (h : REL C R) {t : Int} (ok : 0 ≤ t ∧ t < R 30 0 3) : REL (forceM C t) (up R 30 0 4 t) := by
  have t8 := h.2.2.2.2.2.2.1.1
  have h5 := h.h5
  obtain ⟨a3, a4, a5, a6, a7⟩ := h.2.2.2.2.1
  have e1 : forceM C t = up C 18 0 7 t := by unfold forceM; rw [if_pos (by omega)]
  have hS := SC_force (t := t) h.1
  rw [e1] at hS ⊢
  exact REL_w h hS (RC_force h.RC.1 ok.1 ok.2).1 h.2.2.2.1 ⟨a3, a4, a5, a6, rfl⟩ (PEO_c h.2.2.2.2.2.1 rfl (fun k p s _ _ _ => by rw [up_app, if_neg (by omega)]) (fun k s _ _ => by rw [up_app, if_neg (by omega)]) h5.2) (fun k i s x y => by rw [up_app, if_neg (by omega)]) (fun k s x y => by rw [up_app, if_neg (by omega)]) (Int.le_refl _) (fun _ _ => rfl)
theorem REL_force0 {C R : IM} (h : REL C R) {t : Int} (ok : ¬ (0 ≤ t ∧ t < R 30 0 3)) : forceM C t = C := by
  have t8 := h.2.2.2.2.2.2.1.1
  unfold forceM
  rw [if_neg (by omega)]
theorem REL_kiss {C R : IM} (h : REL C R) {p q : Int} (ok : (0 ≤ p ∧ p < R 30 0 12) ∧ (0 ≤ q ∧ q < R 30 0 12) ∧ p ≠ q) : REL (kissM C p q) (hnR R p.toNat q.toNat 10) := by
  have a3 := h.2.2.2.2.1.1
  have h5 := h.h5
  have hPe := h.2.2.2.2.2.1
  have e1 : kissM C p q = hnd C (5 * 0 + p.toNat) (5 * 0 + q.toNat) 10 := by unfold kissM; rw [if_pos (by omega)]
  have hS := SC_kiss (man := p) (other := q) h.1
  rw [e1] at hS ⊢
  generalize hpn : p.toNat = pn at *
  generalize hqn : q.toNat = qn at *
  have hpq : pn ≠ qn := by omega
  refine REL_w h hS (RC_hn h.RC.1 (p := pn) (q := qn) (by omega) (by omega)).1 (AG_hn h.2.2.2.1 pn qn) ?_ (fun m hm => ?_) (fun k i s x y => ?_) (fun k s x y => ?_) (Int.le_refl _) (fun _ _ => rfl)
  · obtain ⟨b3, b4, b5, b6, b7⟩ := h.2.2.2.2.1
    have e : ∀ s, hnd C (5 * 0 + pn) (5 * 0 + qn) 10 18 0 s = C 18 0 s := fun s => by
      unfold hnd
      split
      · rw [if_neg (by omega), if_neg (by omega), if_neg (by omega)]
      · rfl
    exact ⟨(e 3).trans b3, (e 4).trans b4, (e 5).trans b5, (e 6).trans b6, (e 7).trans b7⟩
  · have hm : (m : Int) < R 30 0 12 := hm
    have r := hPe m hm
    have rp := hPe pn (by omega)
    have rq := hPe qn (by omega)
    have e21 : ∀ s, hnd C (5 * 0 + pn) (5 * 0 + qn) 10 21 (5 * 0 + m) s = C 21 (5 * 0 + m) s := fun s => by
      unfold hnd
      split
      · rw [if_neg (by omega), if_neg (by omega), if_neg (by omega)]
      · rfl
    refine ⟨(e21 0).trans r.1, (e21 1).trans r.2.1, fun g hg => ?_⟩
    have r2 := r.2.2 g hg
    have p2 := rp.2.2 g hg
    have q2 := rq.2.2 g hg
    unfold hnd hnR
    rw [show (10 * m + g) % 10 = g by omega, show (10 * m + g) / 10 = m by omega, p2.1, q2.1]
    by_cases z : R 36 0 (10 * pn + g) ≠ -1 ∧ R 36 0 (10 * qn + g) = -1
    · rw [if_pos (show g < 10 ∧ R 36 0 (10 * pn + g) ≠ -1 ∧ R 36 0 (10 * qn + g) = -1 from ⟨hg, z⟩), if_pos (show g < 10 ∧ R 36 0 (10 * pn + g) ≠ -1 ∧ R 36 0 (10 * qn + g) = -1 from ⟨hg, z⟩)]
      by_cases mq : m = qn
      · subst mq
        rw [if_pos ⟨rfl, rfl⟩, if_pos ⟨Or.inl rfl, rfl, rfl, hg, z⟩, if_pos rfl, if_neg (by omega), if_neg (by omega), if_pos ⟨rfl, rfl⟩, if_pos ⟨Or.inr rfl, rfl, rfl, hg, z⟩, if_neg (by omega)]
        exact ⟨rfl, fun _ => rfl⟩
      · rw [if_neg (by omega)]
        by_cases mp : m = pn
        · subst mp
          rw [if_pos ⟨rfl, rfl⟩, if_neg (by omega), if_pos ⟨rfl, rfl, rfl, hg, z⟩]
          exact ⟨rfl, fun y => absurd rfl y⟩
        · rw [if_neg (by omega), if_neg (by omega), if_neg (by omega), if_neg (by omega), if_neg (by omega), if_neg (by omega), if_neg (by omega), if_neg (by omega), if_neg (by omega)]
          exact r2
    · rw [if_neg (fun y => z y.2), if_neg (fun y => z y.2.2.2.2), if_neg (fun y => z y.2.2.2.2), if_neg (fun y => z y.2), if_neg (fun y => z y.2.2.2.2), if_neg (fun y => z y.2.2.2.2)]
      exact r2
  · unfold hnd
    split
    · rw [if_neg (by omega), if_neg (by omega), if_neg (by omega)]
    · rfl
  · unfold hnR
    rw [if_neg (by omega), if_neg (by omega)]
theorem REL_kiss0 {C R : IM} (h : REL C R) {p q : Int} (ok : ¬ ((0 ≤ p ∧ p < R 30 0 12) ∧ (0 ≤ q ∧ q < R 30 0 12) ∧ p ≠ q)) : kissM C p q = C := by
  have a3 := h.2.2.2.2.1.1
  unfold kissM
  rw [if_neg (by omega)]
