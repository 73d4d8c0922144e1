section
/-! BOTH: what the class holds and what the reference holds are the same -/

def PEO (C R : IM) : Prop := ∀ p : Nat, (p : Int) < R 30 0 12 → C 21 (5 * 0 + p) 0 = R 34 0 p ∧ C 21 (5 * 0 + p) 1 = R 35 0 p ∧ ∀ g, g < 10 → C 22 (5 * 0 + p) g = R 36 0 (10 * p + g) ∧ (C 22 (5 * 0 + p) g ≠ -1 → C 23 (5 * 0 + p) g = R 37 0 (10 * p + g))
def TXT (C R : IM) : Prop := C 0 0 8 = R 30 0 3 ∧ ∀ t : Nat, (t : Int) < R 30 0 3 → ∀ part, part < 3 → ∀ nm, tellV C t part nm = sayR R t part nm
def TPE (C R : IM) : Prop := C 14 0 1 = R 30 0 6 ∧ ∀ i : Nat, (i : Int) < R 30 0 6 → C 15 0 i = R 33 0 i
def KEP (C R : IM) : Prop := (C 0 0 9 = 0 ∧ R 30 0 46 = -1) ∨ (C 0 0 9 = 1 ∧ (0 ≤ R 30 0 46 ∧ R 30 0 46 ≤ R 30 0 12) ∧ (C 18 2 3 = R 30 0 46 ∧ C 18 2 4 = R 30 0 47 ∧ C 18 2 5 = R 30 0 48 ∧ C 18 2 6 = R 30 0 49 ∧ C 18 2 7 = R 30 0 50) ∧ ∀ p : Nat, (p : Int) < R 30 0 46 → C 21 (5 * 2 + p) 0 = R 34 0 p ∧ C 21 (5 * 2 + p) 1 = R 44 0 p ∧ ∀ g, g < 10 → C 22 (5 * 2 + p) g = R 45 0 (10 * p + g) ∧ (C 22 (5 * 2 + p) g ≠ -1 → C 23 (5 * 2 + p) g = R 46 0 (10 * p + g) ∧ R 46 0 (10 * p + g) ≤ 1000))
def SHE (C R : IM) : Prop := ∀ j, j < 4 → (C 7 j 1 = -1 ∧ R 47 0 j = 0) ∨ (C 7 j 1 ≠ -1 ∧ R 47 0 j = 1 ∧ R 48 0 j = C 7 j 1 ∧ R 49 0 j = C 7 j 2 ∧ ∀ i : Nat, (i : Int) < C 7 j 2 → C 8 j i = R 50 0 (40 * j + i))
def NUM (C R : IM) : Prop := C 18 0 3 = R 30 0 12 ∧ C 18 0 4 = R 30 0 7 ∧ C 18 0 5 = R 30 0 8 ∧ C 18 0 6 = R 30 0 9 ∧ C 18 0 7 = R 30 0 4
def REL (C R : IM) : Prop := SC C ∧ RI R ∧ RX R ∧ AG R 1000 ∧ NUM C R ∧ PEO C R ∧ TXT C R ∧ TPE C R ∧ KEP C R ∧ SHE C R
theorem PEO_c {C R C' R' : IM} (h : PEO C R) (e12 : R' 30 0 12 = R 30 0 12) (hC : ∀ k p s, 21 ≤ k → k ≤ 23 → p < 5 → C' k (5 * 0 + p) s = C k (5 * 0 + p) s) (hR : ∀ k s, 34 ≤ k → k ≤ 37 → R' k 0 s = R k 0 s) (h5 : R 30 0 12 ≤ 5) : PEO C' R' := by
  intro p hp
  rw [e12] at hp
  have q := h p hp
  have c := fun k s h1 h2 => hC k p s h1 h2 (by omega)
  rw [c 21 0 (by omega) (by omega), c 21 1 (by omega) (by omega), hR 34 _ (by omega) (by omega), hR 35 _ (by omega) (by omega)]
  refine ⟨q.1, q.2.1, fun g hg => ?_⟩
  rw [c 22 g (by omega) (by omega), c 23 g (by omega) (by omega), hR 36 _ (by omega) (by omega), hR 37 _ (by omega) (by omega)]
  exact q.2.2 g hg
theorem sayR_c {a b : IM} {t : Nat} (h31 : ∀ i, a 31 0 (160 * t + i) = b 31 0 (160 * t + i)) (h32 : a 32 0 t = b 32 0 t) (part : Nat) (nm : Nat → Int) : sayR a t part nm = sayR b t part nm := by
  unfold sayR
  have e31 : rowR a t = rowR b t := funext fun i => h31 i
  rw [h32, e31]
theorem TXT_c {C R C' R' : IM} (h : TXT C R) (e8 : C' 0 0 8 = C 0 0 8) (e3 : R' 30 0 3 = R 30 0 3) (hC : ∀ k j s, k = 3 ∨ k = 4 → C' k j s = C k j s) (hR : ∀ k s, 31 ≤ k → k ≤ 32 → R' k 0 s = R k 0 s) : TXT C' R' := by
  refine ⟨by rw [e8, e3]; exact h.1, fun t ht part hp nm => ?_⟩
  rw [e3] at ht
  rw [tellV_congr (fun s => hC 3 t s (Or.inl rfl)) (fun s => hC 4 t s (Or.inr rfl)), sayR_c (fun i => hR 31 _ (by omega) (by omega)) (hR 32 _ (by omega) (by omega))]
  exact h.2 t ht part hp nm
theorem TPE_c {C R C' R' : IM} (h : TPE C R) (e1 : C' 14 0 1 = C 14 0 1) (e6 : R' 30 0 6 = R 30 0 6) (hC : ∀ s, C' 15 0 s = C 15 0 s) (hR : ∀ s, R' 33 0 s = R 33 0 s) : TPE C' R' := by
  refine ⟨by rw [e1, e6]; exact h.1, fun i hi => ?_⟩
  rw [hC, hR]
  rw [e6] at hi
  exact h.2 i hi
theorem KEP_c {C R C' R' : IM} (h : KEP C R) (e9 : C' 0 0 9 = C 0 0 9) (h12 : R 30 0 12 ≤ R' 30 0 12) (hC : ∀ k i s, (k = 18 ∧ i = 2 ∧ 3 ≤ s ∧ s ≤ 7) ∨ (21 ≤ k ∧ k ≤ 23 ∧ 10 ≤ i ∧ i < 15) → C' k i s = C k i s) (hR : ∀ s, 46 ≤ s → s ≤ 50 → R' 30 0 s = R 30 0 s) (hR2 : ∀ k s, 44 ≤ k → k ≤ 46 → R' k 0 s = R k 0 s) (h34 : ∀ p : Nat, (p : Int) < R 30 0 12 → R' 34 0 p = R 34 0 p) (h5 : R 30 0 12 ≤ 5) : KEP C' R' := by
  rcases h with ⟨a, b⟩ | ⟨a, b, ⟨c1, c2, c3, c4, c5⟩, d⟩
  · exact Or.inl ⟨e9.trans a, (hR 46 (by omega) (by omega)).trans b⟩
  · refine Or.inr ⟨e9.trans a, by rw [hR 46 (by omega) (by omega)]; omega, ⟨?_, ?_, ?_, ?_, ?_⟩, fun p hp => ?_⟩
    · rw [hC 18 2 3 (by omega), hR 46 (by omega) (by omega)]; exact c1
    · rw [hC 18 2 4 (by omega), hR 47 (by omega) (by omega)]; exact c2
    · rw [hC 18 2 5 (by omega), hR 48 (by omega) (by omega)]; exact c3
    · rw [hC 18 2 6 (by omega), hR 49 (by omega) (by omega)]; exact c4
    · rw [hC 18 2 7 (by omega), hR 50 (by omega) (by omega)]; exact c5
    · rw [hR 46 (by omega) (by omega)] at hp
      have q := d p hp
      rw [hC 21 (5 * 2 + p) 0 (by omega), hC 21 (5 * 2 + p) 1 (by omega), h34 p (by omega), hR2 44 _ (by omega) (by omega)]
      refine ⟨q.1, q.2.1, fun g hg => ?_⟩
      rw [hC 22 (5 * 2 + p) g (by omega), hC 23 (5 * 2 + p) g (by omega), hR2 45 _ (by omega) (by omega), hR2 46 _ (by omega) (by omega)]
      exact q.2.2 g hg
theorem SHE_c {C R C' R' : IM} (h : SHE C R) (hC : ∀ k j s, (k = 7 ∧ (s = 1 ∨ s = 2)) ∨ k = 8 → C' k j s = C k j s) (hR : ∀ k s, 47 ≤ k → k ≤ 50 → R' k 0 s = R k 0 s) : SHE C' R' := by
  intro j hj
  rw [hC 7 j 1 (by omega), hC 7 j 2 (by omega), hR 47 j (by omega) (by omega), hR 48 j (by omega) (by omega), hR 49 j (by omega) (by omega)]
  rcases h j hj with q | ⟨a, b, c, d, e⟩
  · exact Or.inl q
  · exact Or.inr ⟨a, b, c, d, fun i hi => by rw [hC 8 j i (by omega), hR 50 _ (by omega) (by omega)]; exact e i hi⟩
theorem REL.h5 {C R : IM} (h : REL C R) : 0 ≤ R 30 0 12 ∧ R 30 0 12 ≤ 5 := by
  have w := h.1.2.1.1
  rw [h.2.2.2.2.1.1] at w
  exact w
/-- the class's cells may be others' that later calls can't tell apart -/
theorem REL.P {C R C' : IM} (h : REL C R) (hP : agP C' C) (hRI : RI C') : REL C' R := by
  have h5 := h.h5
  obtain ⟨hS, hRR, hX, hA, hN, hPe, hT, hTp, hK, hSh⟩ := h
  have e : ∀ k i s, per k i s → C' k i s = C k i s := hP.1
  have e18 : ∀ i s, i ≠ 1 → C' 18 i s = C 18 i s := fun i s hi => e 18 i s (by unfold per; omega)
  refine ⟨SC_agP hP hRI hS, hRR, hX, hA, ?_, PEO_c hPe rfl (fun k p s _ _ _ => e _ _ _ (by unfold per; omega)) (fun _ _ _ _ => rfl) h5.2, TXT_c hT (e _ _ _ (by unfold per; omega)) rfl (fun k j s _ => e _ _ _ (by unfold per; omega)) (fun _ _ _ _ => rfl), TPE_c hTp (e _ _ _ (by unfold per; omega)) rfl (fun s => e _ _ _ (by unfold per; omega)) (fun _ => rfl), KEP_c hK (e _ _ _ (by unfold per; omega)) (Int.le_refl _) (fun k i s _ => e _ _ _ (by unfold per; omega)) (fun _ _ _ => rfl) (fun _ _ _ _ => rfl) (fun _ _ => rfl) h5.2, SHE_c hSh (fun k j s _ => e _ _ _ (by unfold per; omega)) (fun _ _ _ _ => rfl)⟩
  obtain ⟨a, b, c, d, f⟩ := hN
  exact ⟨(e18 0 3 (by omega)).trans a, (e18 0 4 (by omega)).trans b, (e18 0 5 (by omega)).trans c, (e18 0 6 (by omega)).trans d, (e18 0 7 (by omega)).trans f⟩
/-- so may the reference's -/
theorem REL.S {C R R' : IM} (h : REL C R) (hP : agS R' R) (hRI : RI R') : REL C R' := by
  have h5 := h.h5
  obtain ⟨hS, hRR, hX, hA, hN, hPe, hT, hTp, hK, hSh⟩ := h
  have e : ∀ s, (s < 15 ∨ 40 < s) → R' 30 0 s = R 30 0 s := fun s hs => hP 30 s (by omega) (by omega)
  have r : ∀ k s, ¬ (38 ≤ k ∧ k ≤ 43) → k ≠ 30 → R' k 0 s = R k 0 s := fun k s h1 h2 => hP k s h1 (by omega)
  refine ⟨hS, hRI, hX.same (fun s => r _ _ (by omega) (by omega)) (fun s => r _ _ (by omega) (by omega)) (fun s => r _ _ (by omega) (by omega)) (e 3 (by omega)) (e 6 (by omega)), hA.C hP.C.1, ?_, PEO_c hPe (e 12 (by omega)) (fun _ _ _ _ _ _ => rfl) (fun k s _ _ => r _ _ (by omega) (by omega)) h5.2, TXT_c hT rfl (e 3 (by omega)) (fun _ _ _ _ => rfl) (fun k s _ _ => r _ _ (by omega) (by omega)), TPE_c hTp rfl (e 6 (by omega)) (fun _ => rfl) (fun s => r _ _ (by omega) (by omega)), KEP_c hK rfl (Int.le_of_eq (e 12 (by omega)).symm) (fun _ _ _ _ => rfl) (fun s _ _ => e s (by omega)) (fun k s _ _ => r _ _ (by omega) (by omega)) (fun p _ => r _ _ (by omega) (by omega)) h5.2, SHE_c hSh (fun _ _ _ _ => rfl) (fun k s _ _ => r _ _ (by omega) (by omega))⟩
  obtain ⟨a, b, c, d, f⟩ := hN
  exact ⟨a.trans (e 12 (by omega)).symm, b.trans (e 7 (by omega)).symm, c.trans (e 8 (by omega)).symm, d.trans (e 9 (by omega)).symm, f.trans (e 4 (by omega)).symm⟩
/-- the reference is in order then -/
theorem REL.RC {C R : IM} (h : REL C R) : RC R ∧ R 30 0 7 ≤ 999 ∧ SH R := by
  obtain ⟨hS, hRR, hX, hA, ⟨a3, a4, a5, a6, a7⟩, hPe, hT, hTp, hK, hSh⟩ := h
  obtain ⟨hR, hW, hh, htc, hru, hgt, hz, hrd, hsh, him, htp⟩ := hS
  obtain ⟨w1, w2, w3, w4, w5, w6⟩ := hW
  refine ⟨⟨hRR, hX, by rw [← a7, ← hT.1]; omega, by rw [← a3]; exact w1, by rw [← a4]; exact w2, by rw [← a5]; exact w3, fun p hp => ?_⟩, by rw [← a4]; exact hh, fun j hj => ?_⟩
  · have q := hPe p hp
    have v := w6 p (by rw [a3]; exact hp)
    unfold PI at v
    rw [q.1, q.2.1] at v
    refine ⟨v.1, v.2.1, fun g hg => ?_⟩
    have q2 := q.2.2 g hg
    have v2 := v.2.2 g hg
    rw [q2.1] at v2 q2
    refine ⟨v2.1, v2.2.1, fun z => ?_⟩
    have v3 := v2.2.2 z
    rw [q2.2 z] at v3
    exact v3
  · have s := hsh j hj
    rcases hSh j hj with ⟨a, b⟩ | ⟨a, b, c, d, e⟩
    · exact ⟨Or.inl b, fun z => absurd z (by omega)⟩
    · exact ⟨Or.inr b, fun _ => ⟨by omega, by omega⟩⟩
theorem REL.tell {C R : IM} (h : REL C R) {part : Nat} (hp : part < 3) (nm : Nat → Int) : tellV C (C 18 0 7).toNat part nm = TR R part nm := by
  have hRC := h.RC
  rw [h.2.2.2.2.1.2.2.2.2]
  exact h.2.2.2.2.2.2.1.2 _ (by have := hRC.1.2.2.1; omega) part hp nm
theorem goK_c {T T' : Nat → (Nat → Int) → Int} (hT : ∀ nm, T 1 nm = T' 1 nm) (k nb w a g h : Int) (n : Nat) : goK T k nb w a g h n = goK T' k nb w a g h n := by
  unfold goK
  split
  · rfl
  · have e : offK T k nb w a g h = offK T' k nb w a g h := by
      funext i
      unfold offK hoK
      rw [hT]
    rw [e]
theorem goW_eq {C R : IM} (h : REL C R) {p g : Nat} (hp : (p : Int) < R 30 0 12) (hg : g < 10) (n : Nat) : goesW C 0 p g n = goR R (10 * p + g) n := by
  have q := h.2.2.2.2.2.1 p hp
  have q2 := q.2.2 g hg
  have a4 := h.2.2.2.2.1.2.1
  unfold goesW goR
  rw [goK_c (T' := TR R) (fun nm => h.tell (by omega) nm), show (10 * p + g) / 10 = p by omega, show (10 * p + g) % 10 = g by omega, q.1, q.2.1, q2.1, a4]
  by_cases hw : C 22 (5 * 0 + p) g = -1
  · have hw2 : R 36 0 (10 * p + g) = -1 := by rw [← q2.1]; exact hw
    unfold goK
    rw [if_pos hw2, if_pos hw2]
  · rw [q2.2 hw]
theorem beW_eq {C R : IM} (h : REL C R) {p g : Nat} (hp : (p : Int) < R 30 0 12) (hg : g < 10) (hw : C 22 (5 * 0 + p) g ≠ -1) (x : Int) : bearsW C 0 p g x (chI (C 18 0 5) (C 18 0 4 + x)) = beT R (10 * p + g) x := by
  have q := h.2.2.2.2.2.1 p hp
  have q2 := q.2.2 g hg
  obtain ⟨a3, a4, a5, a6, a7⟩ := h.2.2.2.2.1
  unfold bearsW beT beK
  rw [h.tell (by omega), show (10 * p + g) / 10 = p by omega, show (10 * p + g) % 10 = g by omega, q.1, q.2.1, q2.2 hw, q2.1, a4, a5]
theorem goes_ne {C : IM} {w p g n : Nat} (h : goesW C w p g n ≠ -1) : C 22 (5 * w + p) g ≠ -1 := by
  intro z
  exact h (by unfold goesW goK; rw [if_pos z])
theorem cnt_eq {C R : IM} (h : REL C R) {p : Nat} (hp : (p : Int) < R 30 0 12) : cntW (C 22 (5 * 0 + p)) 10 = cntW (stR R p) 10 := cntW_c 10 fun g hg => ((h.2.2.2.2.2.1 p hp).2.2 g hg).1
theorem ut_eq {C R : IM} (h : REL C R) {p : Nat} (hp : (p : Int) < R 30 0 12) (w fd : Int) : takesW C 0 p w fd = gpR R p w fd ∧ uttW C 0 p w fd = utR R p w fd := by
  have q := h.2.2.2.2.2.1 p hp
  obtain ⟨a3, a4, a5, a6, a7⟩ := h.2.2.2.2.1
  have hv := h.RC.1.2.2.1
  have e : takesW C 0 p w fd = gpR R p w fd := by
    unfold takesW gpR nmW
    rw [h.tell (by omega), q.1, q.2.1, cnt_eq h hp, a4]
    rfl
  refine ⟨e, ?_⟩
  unfold uttW utR
  rw [e]
  by_cases h0 : 0 ≤ gpR R p w fd
  · have h9 : gpR R p w fd ≤ 9 := by
      have := takesR_in (k := R 34 0 p) (sayR_in R (R 30 0 4).toNat 0 (nmA w fd (R 30 0 7) (R 35 0 p) 0 (cntW (stR R p) 10)))
      exact this.2
    rw [(q.2.2 (gpR R p w fd).toNat (by omega)).1]
  · rw [if_neg (fun z => h0 z.1), if_neg (fun z => h0 z.1)]
end
section
/-! BOTH: what sets, comes, is filled, flossed, said, kissed keeps them the same -/

theorem REL_w {C R C' R' : IM} (h : REL C R) (hS : SC C') (hR : RI R') (hA : AG R' 1000) (hN : NUM C' R') (hP : PEO C' R') (hC : ∀ k i s, ¬ (k = 18 ∧ i = 0) → ¬ (21 ≤ k ∧ k ≤ 23 ∧ i < 5) → C' k i s = C k i s) (hR2 : ∀ k s, ¬ (34 ≤ k ∧ k ≤ 43) → ¬ (k = 30 ∧ (s = 4 ∨ s = 7 ∨ s = 8 ∨ s = 9 ∨ s = 12 ∨ 15 ≤ s ∧ s ≤ 33 ∨ 38 ≤ s ∧ s ≤ 40)) → R' k 0 s = R k 0 s) (h12 : R 30 0 12 ≤ R' 30 0 12) (h34 : ∀ p : Nat, (p : Int) < R 30 0 12 → R' 34 0 p = R 34 0 p) : REL C' R' := by
  have h5 := h.h5
  obtain ⟨-, hRR, hX, -, -, hPe, hT, hTp, hK, hSh⟩ := h
  have e : ∀ s, ¬ (s = 4 ∨ s = 7 ∨ s = 8 ∨ s = 9 ∨ s = 12 ∨ 15 ≤ s ∧ s ≤ 33 ∨ 38 ≤ s ∧ s ≤ 40) → R' 30 0 s = R 30 0 s := fun s hs => hR2 30 s (by omega) (by omega)
  have r : ∀ k s, ¬ (34 ≤ k ∧ k ≤ 43) → k ≠ 30 → R' k 0 s = R k 0 s := fun k s h1 h2 => hR2 k s h1 (by omega)
  exact ⟨hS, hR, hX.same (fun s => r _ _ (by omega) (by omega)) (fun s => r _ _ (by omega) (by omega)) (fun s => r _ _ (by omega) (by omega)) (e 3 (by omega)) (e 6 (by omega)), hA, hN, hP, TXT_c hT (hC _ _ _ (by omega) (by omega)) (e 3 (by omega)) (fun k j s _ => hC _ _ _ (by omega) (by omega)) (fun k s _ _ => r _ _ (by omega) (by omega)), TPE_c hTp (hC _ _ _ (by omega) (by omega)) (e 6 (by omega)) (fun s => hC _ _ _ (by omega) (by omega)) (fun s => r _ _ (by omega) (by omega)), KEP_c hK (hC _ _ _ (by omega) (by omega)) h12 (fun k i s _ => hC _ _ _ (by omega) (by omega)) (fun s _ _ => e s (by omega)) (fun k s _ _ => r _ _ (by omega) (by omega)) h34 h5.2, SHE_c hSh (fun k j s _ => hC _ _ _ (by omega) (by omega)) (fun k s _ _ => r _ _ (by omega) (by omega))⟩
theorem REL_set {C R : IM} (h : REL C R) {what of v : Int} (hv : ri v) (ok : (what = 0 ∧ 0 ≤ v ∧ v ≤ 999) ∨ (what = 1 ∧ 0 ≤ v ∧ v ≤ 16777215) ∨ (what = 2 ∧ (0 ≤ of ∧ of < R 30 0 12) ∧ 0 ≤ v ∧ v ≤ 9)) : REL (setM C what of v) (lyI R what of.toNat v) := by
  have hRC := h.RC.1
  have h5 := h.h5
  have hS' := SC_set (what := what) (of := of) h.1 hv
  have hRC' : RC (lyI R what of.toNat v) := RC_ly hRC (by omega)
  have hA' := AG_ly h.2.2.2.1 what v of.toNat
  obtain ⟨a3, a4, a5, a6, a7⟩ := h.2.2.2.2.1
  have hPe := h.2.2.2.2.2.1
  rcases ok with ⟨rfl, v0, v1⟩ | ⟨rfl, v0, v1⟩ | ⟨rfl, ⟨o0, o1⟩, v0, v1⟩
  · have e1 : setM C 0 of v = up C 18 0 4 v := by unfold setM; rw [if_pos rfl, if_pos (by omega)]
    have e2 : lyI R 0 of.toNat v = up R 30 0 7 v := by unfold lyI; rw [if_pos rfl]
    rw [e1] at hS' ⊢
    rw [e2] at hRC' hA' ⊢
    exact REL_w h hS' hRC'.1 hA' ⟨a3, rfl, a5, a6, a7⟩ (PEO_c hPe rfl (fun k p s _ _ _ => by rw [up_app, if_neg (by omega)]) (fun k s _ _ => by rw [up_app, if_neg (by omega)]) h5.2) (fun k i s x y => by rw [up_app, if_neg (by omega)]) (fun k s x y => by rw [up_app, if_neg (by omega)]) (Int.le_refl _) (fun _ _ => rfl)
  · have e1 : setM C 1 of v = up C 18 0 5 v := by unfold setM; rw [if_neg (by omega), if_pos rfl, if_pos (by omega)]
    have e2 : lyI R 1 of.toNat v = up R 30 0 8 v := by unfold lyI; rw [if_neg (by omega), if_pos rfl]
    rw [e1] at hS' ⊢
    rw [e2] at hRC' hA' ⊢
    exact REL_w h hS' hRC'.1 hA' ⟨a3, a4, rfl, a6, a7⟩ (PEO_c hPe rfl (fun k p s _ _ _ => by rw [up_app, if_neg (by omega)]) (fun k s _ _ => by rw [up_app, if_neg (by omega)]) h5.2) (fun k i s x y => by rw [up_app, if_neg (by omega)]) (fun k s x y => by rw [up_app, if_neg (by omega)]) (Int.le_refl _) (fun _ _ => rfl)
  · have e1 : setM C 2 of v = up C 21 (5 * 0 + of.toNat) 1 v := by unfold setM; rw [if_neg (by omega), if_neg (by omega), if_pos (by omega)]
    have e2 : lyI R 2 of.toNat v = up R 35 0 of.toNat v := by unfold lyI; rw [if_neg (by omega), if_neg (by omega), if_pos rfl]
    rw [e1] at hS' ⊢
    rw [e2] at hRC' hA' ⊢
    refine REL_w h hS' hRC'.1 hA' ⟨a3, a4, a5, a6, a7⟩ (fun p hp => ?_) (fun k i s x y => by rw [up_app, if_neg (by omega)]) (fun k s x y => by rw [up_app, if_neg (by omega)]) (Int.le_refl _) (fun _ _ => rfl)
    have q := hPe p hp
    rw [up_app, if_neg (show ¬ (21 = 21 ∧ 5 * 0 + p = 5 * 0 + of.toNat ∧ 0 = 1) by omega), up_app, if_neg (show ¬ (34 = 35 ∧ 0 = 0 ∧ p = of.toNat) by omega), up_app, up_app]
    refine ⟨q.1, ?_, fun g hg => ?_⟩
    · by_cases z : p = of.toNat
      · rw [if_pos ⟨rfl, by omega, rfl⟩, if_pos ⟨rfl, rfl, z⟩]
      · rw [if_neg (by omega), if_neg (by omega)]
        exact q.2.1
    · rw [up_app, if_neg (by omega), up_app, if_neg (by omega), up_app, if_neg (by omega), up_app, if_neg (by omega)]
      exact q.2.2 g hg
theorem REL_set0 {C R : IM} (h : REL C R) {what of v : Int} (ok : ¬ ((what = 0 ∧ 0 ≤ v ∧ v ≤ 999) ∨ (what = 1 ∧ 0 ≤ v ∧ v ≤ 16777215) ∨ (what = 2 ∧ (0 ≤ of ∧ of < R 30 0 12) ∧ 0 ≤ v ∧ v ≤ 9))) : setM C what of v = C := by
  have a3 := h.2.2.2.2.1.1
  unfold setM
  (repeat' split) <;> first | rfl | (exfalso; omega)
theorem REL_man {C R : IM} (h : REL C R) {a c : Int} (ha : ri a) (hc : ri c) : REL (manM C a c) (mnI R a c) := by
  have hRC := h.RC.1
  have h5 := h.h5
  have hS' := SC_man h.1 ha hc
  have hRC' := RC_mn hRC a c
  obtain ⟨a3, a4, a5, a6, a7⟩ := h.2.2.2.2.1
  have hPe := h.2.2.2.2.2.1
  by_cases ok : ((0 ≤ a ∧ a ≤ 5) ∧ (0 ≤ c ∧ c ≤ 9)) ∧ R 30 0 12 ≠ 5
  · have e1 : manM C a c = welM C 0 a c := by unfold manM; rw [if_pos (by omega)]
    have e2 : mnI R a c = up (fiR (up (up R 34 0 (R 30 0 12).toNat a) 35 0 (R 30 0 12).toNat c) (10 * (R 30 0 12).toNat) 10 (-1)) 30 0 12 (R 30 0 12 + 1) := by unfold mnI; rw [if_pos ok]
    have f12 : mnI R a c 30 0 12 = R 30 0 12 + 1 := by rw [e2, up_app, if_pos ⟨rfl, rfl, rfl⟩]
    have fo : ∀ k s, ¬ (k = 30 ∧ s = 12) → mnI R a c k 0 s = fiR (up (up R 34 0 (R 30 0 12).toNat a) 35 0 (R 30 0 12).toNat c) (10 * (R 30 0 12).toNat) 10 (-1) k 0 s := fun k s z => by rw [e2, up_app, if_neg (by omega)]
    have f34 : ∀ k s, k = 34 ∨ k = 35 → mnI R a c k 0 s = if s = (R 30 0 12).toNat then (if k = 34 then a else c) else R k 0 s := fun k s z => by
      rw [fo k s (by omega)]
      unfold fiR
      rw [if_neg (by omega), up_app, up_app]
      rcases z with rfl | rfl
      · rw [if_neg (by omega)]
        by_cases y : s = (R 30 0 12).toNat
        · rw [if_pos ⟨rfl, rfl, y⟩, if_pos y, if_pos rfl]
        · rw [if_neg (by omega), if_neg y]
      · by_cases y : s = (R 30 0 12).toNat
        · rw [if_pos ⟨rfl, rfl, y⟩, if_pos y, if_neg (by omega)]
        · rw [if_neg (by omega), if_neg (by omega), if_neg y]
    have f36 : ∀ s, mnI R a c 36 0 s = if 10 * (R 30 0 12).toNat ≤ s ∧ s < 10 * (R 30 0 12).toNat + 10 then -1 else R 36 0 s := fun s => by
      rw [fo 36 s (by omega)]
      unfold fiR
      by_cases y : 10 * (R 30 0 12).toNat ≤ s ∧ s < 10 * (R 30 0 12).toNat + 10
      · rw [if_pos ⟨rfl, rfl, y.1, y.2⟩, if_pos y]
      · rw [if_neg (by omega), if_neg y, up_app, if_neg (by omega), up_app, if_neg (by omega)]
    have m3 : (C 18 0 3).toNat = (R 30 0 12).toNat := by rw [a3]
    have g3 : welM C 0 a c 18 0 3 = C 18 0 3 + 1 := by unfold welM; rw [up_app, if_pos ⟨rfl, rfl, rfl⟩]
    have g18 : ∀ s, s ≠ 3 → welM C 0 a c 18 0 s = C 18 0 s := fun s z => by
      unfold welM
      rw [up_app, if_neg (by omega), fl_app, if_neg (by omega), up_app, if_neg (by omega), up_app, if_neg (by omega)]
    have g21 : ∀ p s, s < 2 → welM C 0 a c 21 (5 * 0 + p) s = if p = (R 30 0 12).toNat then (if s = 0 then a else c) else C 21 (5 * 0 + p) s := fun p s z => by
      unfold welM
      rw [m3, up_app, if_neg (by omega), fl_app, if_neg (by omega), up_app, up_app]
      by_cases y : p = (R 30 0 12).toNat
      · rw [if_pos y]
        by_cases x : s = 0
        · rw [if_neg (by omega), if_pos ⟨rfl, by omega, x⟩, if_pos x]
        · rw [if_pos ⟨rfl, by omega, by omega⟩, if_neg x]
      · rw [if_neg (by omega), if_neg (by omega), if_neg y]
    have g22 : ∀ p g, g < 10 → welM C 0 a c 22 (5 * 0 + p) g = if p = (R 30 0 12).toNat then -1 else C 22 (5 * 0 + p) g := fun p g z => by
      unfold welM
      rw [m3, up_app, if_neg (by omega), fl_app]
      by_cases y : p = (R 30 0 12).toNat
      · rw [if_pos ⟨rfl, by omega, z⟩, if_pos y]
      · rw [if_neg (by omega), if_neg y, up_app, if_neg (by omega), up_app, if_neg (by omega)]
    have g23 : ∀ p g, welM C 0 a c 23 (5 * 0 + p) g = C 23 (5 * 0 + p) g := fun p g => by
      unfold welM
      rw [up_app, if_neg (by omega), fl_app, if_neg (by omega), up_app, if_neg (by omega), up_app, if_neg (by omega)]
    rw [e1] at hS' ⊢
    have hA' : AG (mnI R a c) 1000 := fun q hq hne => by
      rw [f12] at hq
      rw [f36] at hne
      rw [mnI_o R a c (by omega) (by omega)]
      split at hne
      · exact absurd rfl hne
      · exact h.2.2.2.1 q (by omega) hne
    refine REL_w h hS' hRC'.1 hA' ⟨by rw [g3, f12, a3], by rw [g18 4 (by omega), mnI_o R a c (by omega) (by omega)]; exact a4, by rw [g18 5 (by omega), mnI_o R a c (by omega) (by omega)]; exact a5, by rw [g18 6 (by omega), mnI_o R a c (by omega) (by omega)]; exact a6, by rw [g18 7 (by omega), mnI_o R a c (by omega) (by omega)]; exact a7⟩ (fun p hp => ?_) (fun k i s x y => ?_) (fun k s x y => mnI_o R a c (by omega) (by omega)) (by rw [f12]; omega) (fun p hp => by rw [f34 34 p (by omega), if_neg (by omega)])
    · rw [f12] at hp
      rw [g21 p 0 (by omega), g21 p 1 (by omega), f34 34 p (by omega), f34 35 p (by omega)]
      by_cases y : p = (R 30 0 12).toNat
      · rw [if_pos y, if_pos y, if_pos y, if_pos y, if_pos rfl, if_pos rfl, if_neg (by omega), if_neg (by omega)]
        refine ⟨rfl, rfl, fun g hg => ?_⟩
        rw [g22 p g hg, if_pos y, f36, if_pos (by omega)]
        exact ⟨rfl, fun z => absurd rfl z⟩
      · rw [if_neg y, if_neg y, if_neg y, if_neg y]
        have q := hPe p (by omega)
        refine ⟨q.1, q.2.1, fun g hg => ?_⟩
        rw [g22 p g hg, if_neg y, f36, if_neg (by omega), g23, mnI_o R a c (by omega) (by omega)]
        exact q.2.2 g hg
    · unfold welM
      rw [up_app, if_neg (by omega), fl_app, if_neg (by omega), up_app, if_neg (by omega), up_app, if_neg (by omega)]
  · have e1 : manM C a c = C := by unfold manM; rw [if_neg (by omega)]
    have e2 : mnI R a c = R := by unfold mnI; rw [if_neg ok]
    rw [e1, e2]
    exact h
theorem manA_eq {C R : IM} (h : REL C R) (a c : Int) : manA C a c = mnA R a c := by
  have a3 := h.2.2.2.2.1.1
  have h5 := h.h5
  unfold manA mnA
  (repeat' split) <;> omega
/-- a word laid down with its age; taken out -/
theorem PEO_put {C R : IM} (h : PEO C R) (p g : Nat) (w a : Int) (hg : g < 10) : PEO (up (up C 22 (5 * 0 + p) g w) 23 (5 * 0 + p) g a) (up (up R 36 0 (10 * p + g) w) 37 0 (10 * p + g) a) := by
  intro m hm
  have q := h m hm
  refine ⟨?_, ?_, fun i hi => ?_⟩
  · rw [up_app, if_neg (by omega), up_app, if_neg (by omega), up_app, if_neg (by omega), up_app, if_neg (by omega)]
    exact q.1
  · rw [up_app, if_neg (by omega), up_app, if_neg (by omega), up_app, if_neg (by omega), up_app, if_neg (by omega)]
    exact q.2.1
  · have q2 := q.2.2 i hi
    simp only [up_app]
    by_cases z : m = p ∧ i = g
    · obtain ⟨rfl, rfl⟩ := z
      simp
    · have z1 : ¬ (5 * 0 + m = 5 * 0 + p ∧ i = g) := by omega
      have z2 : ¬ (10 * m + i = 10 * p + g) := by omega
      rw [if_neg (by omega), if_neg (by omega), if_neg (by omega), if_neg (by omega), if_neg (by omega), if_neg (by omega), if_neg (by omega), if_neg (by omega)]
      exact q2
theorem PEO_out {C R : IM} (h : PEO C R) (p g : Nat) (hg : g < 10) : PEO (up C 22 (5 * 0 + p) g (-1)) (up R 36 0 (10 * p + g) (-1)) := by
  intro m hm
  have q := h m hm
  refine ⟨?_, ?_, fun i hi => ?_⟩
  · rw [up_app, if_neg (by omega), up_app, if_neg (by omega)]
    exact q.1
  · rw [up_app, if_neg (by omega), up_app, if_neg (by omega)]
    exact q.2.1
  · have q2 := q.2.2 i hi
    rw [up_app, up_app, up_app, if_neg (show ¬ (23 = 22 ∧ 5 * 0 + m = 5 * 0 + p ∧ i = g) by omega), up_app, if_neg (show ¬ (37 = 36 ∧ 0 = 0 ∧ 10 * m + i = 10 * p + g) by omega)]
    by_cases z : m = p ∧ i = g
    · rw [if_pos (by omega), if_pos (by omega)]
      exact ⟨rfl, fun y => absurd rfl y⟩
    · rw [if_neg (by omega), if_neg (by omega)]
      exact q2
theorem REL_put {C R : IM} (h : REL C R) {p g : Nat} {w a : Int} (hS : SC (up (up C 22 (5 * 0 + p) g w) 23 (5 * 0 + p) g a)) (hp : p < 5) (hg : g < 10) (hw : -1 ≤ w ∧ w < 16) (ha : 0 ≤ a ∧ a ≤ 1000) : REL (up (up C 22 (5 * 0 + p) g w) 23 (5 * 0 + p) g a) (up (up R 36 0 (10 * p + g) w) 37 0 (10 * p + g) a) := by
  have hRC' := RC_put h.RC.1 (s := 10 * p + g) (w := w) (a := a) hw (by omega)
  refine REL_w h hS hRC'.1 (fun q hq hne => ?_) h.2.2.2.2.1 (PEO_put h.2.2.2.2.2.1 p g w a hg) (fun k i s x y => by rw [up_app, if_neg (by omega), up_app, if_neg (by omega)]) (fun k s x y => by rw [up_app, if_neg (by omega), up_app, if_neg (by omega)]) (Int.le_refl _) (fun _ _ => rfl)
  have hq : (q : Int) < 10 * R 30 0 12 := hq
  have g9 := h.2.2.2.1 q hq
  rw [up_app]
  split
  · exact ha.2
  · rename_i z
    rw [up_app, if_neg (by omega), up_app, if_neg (by omega)] at hne
    rw [up_app, if_neg (by omega)]
    exact g9 hne
theorem REL_fill {C R : IM} (h : REL C R) {p g w hr : Int} (ok : (0 ≤ p ∧ p < R 30 0 12) ∧ (0 ≤ g ∧ g ≤ 9) ∧ (-1 ≤ w ∧ w ≤ 15) ∧ 0 ≤ hr ∧ hr ≤ 999) : REL (fillM C p g w hr) (up (up R 36 0 (10 * p.toNat + g.toNat) w) 37 0 (10 * p.toNat + g.toNat) hr) := by
  have a3 := h.2.2.2.2.1.1
  have h5 := h.h5
  have e1 : fillM C p g w hr = up (up C 22 (5 * 0 + p.toNat) g.toNat w) 23 (5 * 0 + p.toNat) g.toNat hr := by unfold fillM; rw [if_pos (by omega)]
  have hS := SC_fill (man := p) (gap := g) (w := w) (hours := hr) h.1
  rw [e1] at hS ⊢
  exact REL_put h hS (by omega) (by omega) (by omega) (by omega)
theorem REL_fill0 {C R : IM} (h : REL C R) {p g w hr : Int} (ok : ¬ ((0 ≤ p ∧ p < R 30 0 12) ∧ (0 ≤ g ∧ g ≤ 9) ∧ (-1 ≤ w ∧ w ≤ 15) ∧ 0 ≤ hr ∧ hr ≤ 999)) : fillM C p g w hr = C := by
  have a3 := h.2.2.2.2.1.1
  unfold fillM
  rw [if_neg (by omega)]
theorem REL_out {C R : IM} (h : REL C R) {p g : Nat} (hS : SC (up C 22 (5 * 0 + p) g (-1))) (hp : p < 5) (hg : g < 10) : REL (up C 22 (5 * 0 + p) g (-1)) (up R 36 0 (10 * p + g) (-1)) :=
  REL_w h hS (RC_out h.RC.1 (s := 10 * p + g)).1 (AG_out h.2.2.2.1 _) h.2.2.2.2.1 (PEO_out h.2.2.2.2.2.1 p g hg) (fun k i s x y => by rw [up_app, if_neg (by omega)]) (fun k s x y => by rw [up_app, if_neg (by omega)]) (Int.le_refl _) (fun _ _ => rfl)
theorem REL_floss {C R : IM} (h : REL C R) {p g : Int} (ok : (0 ≤ p ∧ p < R 30 0 12) ∧ (0 ≤ g ∧ g ≤ 9)) : REL (flossM C p g) (up R 36 0 (10 * p.toNat + g.toNat) (-1)) := by
  have a3 := h.2.2.2.2.1.1
  have h5 := h.h5
  have e1 : flossM C p g = up C 22 (5 * 0 + p.toNat) g.toNat (-1) := by unfold flossM; rw [if_pos (by omega)]
  have hS := SC_floss (man := p) (gap := g) h.1
  rw [e1] at hS ⊢
  exact REL_out h hS (by omega) (by omega)
theorem REL_floss0 {C R : IM} (h : REL C R) {p g : Int} (ok : ¬ ((0 ≤ p ∧ p < R 30 0 12) ∧ (0 ≤ g ∧ g ≤ 9))) : flossM C p g = C := by
  have a3 := h.2.2.2.2.1.1
  unfold flossM
  rw [if_neg (by omega)]
theorem REL_say {C R R2 : IM} (h : REL C R) (hag : agY R2 R) (hR2 : RI R2) {p w fd : Int} (ok : (0 ≤ p ∧ p < R 30 0 12) ∧ (0 ≤ w ∧ w ≤ 15) ∧ (0 ≤ fd ∧ fd ≤ 9)) : REL (sayM C p w fd) (spR R R2 p.toNat w fd) := by
  have a3 := h.2.2.2.2.1.1
  have h5 := h.h5
  have e1 : sayM C p w fd = uttM C 0 p.toNat w fd := by unfold sayM; rw [if_pos (by omega)]
  have hS := SC_say (man := p) (w := w) (food := fd) h.1
  rw [e1] at hS ⊢
  have eu := (ut_eq h (p := p.toNat) (by omega) w fd).2
  have hu := utR_in (im := R) (p := p.toNat) (w := w) (fd := fd)
  have hrel : REL (uttM C 0 p.toNat w fd) (spR R R p.toNat w fd) := by
    unfold uttM at hS ⊢
    unfold spR
    rw [eu] at hS ⊢
    by_cases z : utR R p.toNat w fd = -1
    · rw [if_pos z, if_pos z]
      exact h
    · rw [if_neg z] at hS ⊢
      rw [if_neg z]
      exact REL_put h hS (by omega) (by omega) (by omega) (by omega)
  exact hrel.S (spR_ag hag _ _ _).O.S (RC_say h.RC.1 hR2 hag (by omega)).1
theorem REL_say0 {C R : IM} (h : REL C R) {p w fd : Int} (ok : ¬ ((0 ≤ p ∧ p < R 30 0 12) ∧ (0 ≤ w ∧ w ≤ 15) ∧ (0 ≤ fd ∧ fd ≤ 9))) : sayM C p w fd = C := by
  have a3 := h.2.2.2.2.1.1
  unfold sayM
  rw [if_neg (by omega)]
theorem REL_force {C R : IM} (h : REL C R) {t : Int} (ok : 0 ≤ t ∧ t < R 30 0 3) : REL (forceM C t) (up R 30 0 4 t) := by
  have t8 := h.2.2.2.2.2.2.1.1
  have h5 := h.h5
  obtain ⟨a3, a4, a5, a6, a7⟩ := h.2.2.2.2.1
  have e1 : forceM C t = up C 18 0 7 t := by unfold forceM; rw [if_pos (by omega)]
  have hS := SC_force (t := t) h.1
  rw [e1] at hS ⊢
  exact REL_w h hS (RC_force h.RC.1 ok.1 ok.2).1 h.2.2.2.1 ⟨a3, a4, a5, a6, rfl⟩ (PEO_c h.2.2.2.2.2.1 rfl (fun k p s _ _ _ => by rw [up_app, if_neg (by omega)]) (fun k s _ _ => by rw [up_app, if_neg (by omega)]) h5.2) (fun k i s x y => by rw [up_app, if_neg (by omega)]) (fun k s x y => by rw [up_app, if_neg (by omega)]) (Int.le_refl _) (fun _ _ => rfl)
theorem REL_force0 {C R : IM} (h : REL C R) {t : Int} (ok : ¬ (0 ≤ t ∧ t < R 30 0 3)) : forceM C t = C := by
  have t8 := h.2.2.2.2.2.2.1.1
  unfold forceM
  rw [if_neg (by omega)]
theorem REL_kiss {C R : IM} (h : REL C R) {p q : Int} (ok : (0 ≤ p ∧ p < R 30 0 12) ∧ (0 ≤ q ∧ q < R 30 0 12) ∧ p ≠ q) : REL (kissM C p q) (hnR R p.toNat q.toNat 10) := by
  have a3 := h.2.2.2.2.1.1
  have h5 := h.h5
  have hPe := h.2.2.2.2.2.1
  have e1 : kissM C p q = hnd C (5 * 0 + p.toNat) (5 * 0 + q.toNat) 10 := by unfold kissM; rw [if_pos (by omega)]
  have hS := SC_kiss (man := p) (other := q) h.1
  rw [e1] at hS ⊢
  generalize hpn : p.toNat = pn at *
  generalize hqn : q.toNat = qn at *
  have hpq : pn ≠ qn := by omega
  refine REL_w h hS (RC_hn h.RC.1 (p := pn) (q := qn) (by omega) (by omega)).1 (AG_hn h.2.2.2.1 pn qn) ?_ (fun m hm => ?_) (fun k i s x y => ?_) (fun k s x y => ?_) (Int.le_refl _) (fun _ _ => rfl)
  · obtain ⟨b3, b4, b5, b6, b7⟩ := h.2.2.2.2.1
    have e : ∀ s, hnd C (5 * 0 + pn) (5 * 0 + qn) 10 18 0 s = C 18 0 s := fun s => by
      unfold hnd
      split
      · rw [if_neg (by omega), if_neg (by omega), if_neg (by omega)]
      · rfl
    exact ⟨(e 3).trans b3, (e 4).trans b4, (e 5).trans b5, (e 6).trans b6, (e 7).trans b7⟩
  · have hm : (m : Int) < R 30 0 12 := hm
    have r := hPe m hm
    have rp := hPe pn (by omega)
    have rq := hPe qn (by omega)
    have e21 : ∀ s, hnd C (5 * 0 + pn) (5 * 0 + qn) 10 21 (5 * 0 + m) s = C 21 (5 * 0 + m) s := fun s => by
      unfold hnd
      split
      · rw [if_neg (by omega), if_neg (by omega), if_neg (by omega)]
      · rfl
    refine ⟨(e21 0).trans r.1, (e21 1).trans r.2.1, fun g hg => ?_⟩
    have r2 := r.2.2 g hg
    have p2 := rp.2.2 g hg
    have q2 := rq.2.2 g hg
    unfold hnd hnR
    rw [show (10 * m + g) % 10 = g by omega, show (10 * m + g) / 10 = m by omega, p2.1, q2.1]
    by_cases z : R 36 0 (10 * pn + g) ≠ -1 ∧ R 36 0 (10 * qn + g) = -1
    · rw [if_pos (show g < 10 ∧ R 36 0 (10 * pn + g) ≠ -1 ∧ R 36 0 (10 * qn + g) = -1 from ⟨hg, z⟩), if_pos (show g < 10 ∧ R 36 0 (10 * pn + g) ≠ -1 ∧ R 36 0 (10 * qn + g) = -1 from ⟨hg, z⟩)]
      by_cases mq : m = qn
      · subst mq
        rw [if_pos ⟨rfl, rfl⟩, if_pos ⟨Or.inl rfl, rfl, rfl, hg, z⟩, if_pos rfl, if_neg (by omega), if_neg (by omega), if_pos ⟨rfl, rfl⟩, if_pos ⟨Or.inr rfl, rfl, rfl, hg, z⟩, if_neg (by omega)]
        exact ⟨rfl, fun _ => rfl⟩
      · rw [if_neg (by omega)]
        by_cases mp : m = pn
        · subst mp
          rw [if_pos ⟨rfl, rfl⟩, if_neg (by omega), if_pos ⟨rfl, rfl, rfl, hg, z⟩]
          exact ⟨rfl, fun y => absurd rfl y⟩
        · rw [if_neg (by omega), if_neg (by omega), if_neg (by omega), if_neg (by omega), if_neg (by omega), if_neg (by omega), if_neg (by omega), if_neg (by omega), if_neg (by omega)]
          exact r2
    · rw [if_neg (fun y => z y.2), if_neg (fun y => z y.2.2.2.2), if_neg (fun y => z y.2.2.2.2), if_neg (fun y => z y.2), if_neg (fun y => z y.2.2.2.2), if_neg (fun y => z y.2.2.2.2)]
      exact r2
  · unfold hnd
    split
    · rw [if_neg (by omega), if_neg (by omega), if_neg (by omega)]
    · rfl
  · unfold hnR
    rw [if_neg (by omega), if_neg (by omega)]
theorem REL_kiss0 {C R : IM} (h : REL C R) {p q : Int} (ok : ¬ ((0 ≤ p ∧ p < R 30 0 12) ∧ (0 ≤ q ∧ q < R 30 0 12) ∧ p ≠ q)) : kissM C p q = C := by
  have a3 := h.2.2.2.2.1.1
  unfold kissM
  rw [if_neg (by omega)]
end
section
/-! BOTH: an hour, a letter, a text, the image keep them the same -/

theorem bgI_k (im : IM) {s : Nat} (hs : s < 50) : bgI im 50 38 0 s = -1 ∧ bgI im 50 39 0 s = 0 := ⟨by rw [bgI_app, if_pos ⟨rfl, rfl, hs⟩], by rw [bgI_app, if_neg (by omega), if_pos ⟨rfl, rfl, hs⟩]⟩
/-- in this hour the same words go off -/
theorem off_eq {C R : IM} (h : REL C R) {N : Nat} (hN : (N : Int) < 10 * R 30 0 12) : (ofI (bgI R 50) N ↔ goesW C 0 (N / 10) (N % 10) 1 ≠ -1) ∧ (goesW C 0 (N / 10) (N % 10) 1 ≠ -1 → be1 (bgI R 50) N = badP C 0 N) := by
  have h5 := h.h5
  have e12 : bgI R 50 30 0 12 = R 30 0 12 := rfl
  have hB : RN (bgI R 50) 0 (bgI R 50) := RN_0 (fun q hq => bgI_k R (by omega)) (by have := h.2.1 30 0 9; exact this) rfl ⟨rfl, rfl, rfl⟩
  have eW := when_C (bgI_C R 50) rfl
  have g := RN_q hB (q := N) (by rw [e12]; exact hN)
  rw [eW.1, whenR_0] at g
  have hp : ((N / 10 : Nat) : Int) < R 30 0 12 := by omega
  have ew : whenR R 1 N = goesW C 0 (N / 10) (N % 10) 1 := by
    rw [goW_eq h hp (by omega), show 10 * (N / 10) + N % 10 = N by omega]
    unfold whenR
    rw [if_pos hp]
  have eb : goesW C 0 (N / 10) (N % 10) 1 ≠ -1 → beT (bgI R 50) N ((0 : Nat) : Int) = badP C 0 N := fun z => by
    have hne := goes_ne z
    unfold badP
    have e := beW_eq h hp (by omega) hne 0
    rw [Int.add_zero, show 10 * (N / 10) + N % 10 = N by omega] at e
    rw [e]
    have eT := TR_C (bgI_C R 50)
    unfold beT
    rw [eT]
    rfl
  rw [show (0 : Nat) + 1 = 1 from rfl, ew] at g
  rcases g with ⟨a, -, b, c⟩ | ⟨a, b⟩
  · exact ⟨⟨fun _ => by rw [b]; decide, fun _ => a⟩, fun z => c.trans (eb z)⟩
  · exact ⟨⟨fun z => absurd z a, fun z => absurd b z⟩, fun z => absurd b z⟩
theorem hr_eq {C R : IM} (h : REL C R) (N : Nat) (hN : (N : Int) ≤ 10 * R 30 0 12) : shP C 0 N = shI (bgI R 50) N ∧ cntO C 0 N = cnI (bgI R 50) N := by
  have h5 := h.h5
  induction N with
  | zero => exact ⟨h.2.2.2.2.1.2.2.2.1, rfl⟩
  | succ N ih =>
    obtain ⟨a, b⟩ := ih (by omega)
    have g := off_eq h (N := N) (by omega)
    have hc := cntO_in C 0 N
    show (if goesW C 0 (N / 10) (N % 10) 1 = -1 then shP C 0 N else bm (shP C 0 N + badP C 0 N)) = (if ofI (bgI R 50) N then bm (shI (bgI R 50) N + be1 (bgI R 50) N) else shI (bgI R 50) N) ∧ (if goesW C 0 (N / 10) (N % 10) 1 = -1 then cntO C 0 N else cntO C 0 N + 1) = (if ofI (bgI R 50) N then bm (cnI (bgI R 50) N + 1) else cnI (bgI R 50) N)
    by_cases z : goesW C 0 (N / 10) (N % 10) 1 = -1
    · have no : ¬ ofI (bgI R 50) N := fun y => g.1.mp y z
      rw [if_pos z, if_pos z, if_neg no, if_neg no]
      exact ⟨a, b⟩
    · have yes := g.1.mpr z
      rw [if_neg z, if_neg z, if_pos yes, if_pos yes, g.2 z, ← a, ← b]
      exact ⟨rfl, (bm_idd (by constructor <;> omega)).symm⟩
theorem REL_live {C R R2 : IM} (h : REL C R) (h9 : R 30 0 7 ≠ 999) (hR2 : RI R2) (ha : agY R2 (up (lvN (bgI R 50) 0 (10 * R 30 0 12).toNat) 30 0 7 (R 30 0 7 + 1))) : REL (liveM C) R2 := by
  have h5 := h.h5
  have hRC := h.RC
  have hh := hRC.2.1
  obtain ⟨a3, a4, a5, a6, a7⟩ := h.2.2.2.2.1
  have hPe := h.2.2.2.2.2.1
  have eN : 10 * (C 18 0 3).toNat = (10 * R 30 0 12).toNat := by omega
  have e1 : liveM C = up (pasM C 0 (10 * R 30 0 12).toNat) 18 0 4 (C 18 0 4 + 1) := by unfold liveM; rw [if_neg (by omega), eN]
  have hS := SC_live h.1
  rw [e1] at hS ⊢
  have hRb := bgI_RI h.2.1 50
  have hRCb : RC (bgI R 50) := hRC.1.C hRb (bgI_C R 50) hRC.1.2.2.2.2.1
  have hAb : AG (bgI R 50) 1000 := h.2.2.2.1.C (bgI_C R 50)
  have hk := RC_hr (S := bgI R 50) (t := 0) (by omega) hRCb hAb (by show R 30 0 7 ≤ 1099; omega) hR2 ha
  have hL := LV_N (bgI R 50) (t := 0) (by omega) (10 * R 30 0 12).toNat
  have r : ∀ k s, ¬ (k = 30 ∧ (s = 7 ∨ 15 ≤ s ∧ s ≤ 29)) → R2 k 0 s = lvN (bgI R 50) 0 (10 * R 30 0 12).toNat k 0 s := fun k s z => by
    rw [ha k 0 s (by omega), up_app, if_neg (by omega)]
  have ro : ∀ k s, ¬ (36 ≤ k ∧ k ≤ 39) → ¬ (k = 30 ∧ (s = 7 ∨ s = 9 ∨ 15 ≤ s ∧ s ≤ 33)) → R2 k 0 s = R k 0 s := fun k s z1 z2 => by
    rw [r k s (by omega), hL.1 k 0 s z1 (by omega)]
    exact bgI_c 50 (by omega) (by omega)
  have r7 : R2 30 0 7 = R 30 0 7 + 1 := by rw [ha 30 0 7 (by omega), up_app, if_pos ⟨rfl, rfl, rfl⟩]
  have r9 : R2 30 0 9 = shI (bgI R 50) (10 * R 30 0 12).toNat := (r 30 9 (by omega)).trans hL.2.2.2.1
  have g18 : ∀ s, s ≠ 4 → s ≠ 6 → up (pasM C 0 (10 * R 30 0 12).toNat) 18 0 4 (C 18 0 4 + 1) 18 0 s = C 18 0 s := fun s z1 z2 => by
    rw [up_app, if_neg (by omega), pasM_18 _ _ _ z2]
  refine REL_w h hS hR2 hk.2 ⟨?_, ?_, ?_, ?_, ?_⟩ (fun p hp => ?_) (fun k i s x y => ?_) (fun k s x y => ro k s (by omega) (by omega)) (Int.le_of_eq (ro 30 12 (by omega) (by omega)).symm) (fun p hp => ro 34 p (by omega) (by omega))
  · rw [g18 3 (by omega) (by omega), ro 30 12 (by omega) (by omega)]; exact a3
  · rw [up_app, if_pos ⟨rfl, rfl, rfl⟩, r7, a4]
  · rw [g18 5 (by omega) (by omega), ro 30 8 (by omega) (by omega)]; exact a5
  · rw [up_app, if_neg (by omega), pasM_sh, r9]
    exact (hr_eq h _ (by omega)).1
  · rw [g18 7 (by omega) (by omega), ro 30 4 (by omega) (by omega)]; exact a7
  · rw [ro 30 12 (by omega) (by omega)] at hp
    have q := hPe p hp
    have u : ∀ k s, k ≠ 18 → up (pasM C 0 (10 * R 30 0 12).toNat) 18 0 4 (C 18 0 4 + 1) k (5 * 0 + p) s = pasM C 0 (10 * R 30 0 12).toNat k (5 * 0 + p) s := fun k s z => by rw [up_app, if_neg (by omega)]
    rw [u 21 0 (by omega), u 21 1 (by omega), pasM_k _ _ _ (by omega) (by omega) (by omega), pasM_k _ _ _ (by omega) (by omega) (by omega), ro 34 p (by omega) (by omega), ro 35 p (by omega) (by omega)]
    refine ⟨q.1, q.2.1, fun g hg => ?_⟩
    have q2 := q.2.2 g hg
    have of := off_eq h (N := 10 * p + g) (by omega)
    rw [show (10 * p + g) / 10 = p by omega, show (10 * p + g) % 10 = g by omega] at of
    have l := hL.2.2.1 (10 * p + g) (by omega)
    have b36 : bgI R 50 36 0 (10 * p + g) = R 36 0 (10 * p + g) := bgI_c 50 (by omega) (by omega)
    have b37 : bgI R 50 37 0 (10 * p + g) = R 37 0 (10 * p + g) := bgI_c 50 (by omega) (by omega)
    rw [u 22 g (by omega), u 23 g (by omega), r 36 _ (by omega), r 37 _ (by omega), pasM_app, pasM_app, if_pos (show (22 = 22 ∨ 22 = 23) ∧ 5 * 0 ≤ 5 * 0 + p ∧ g < 10 ∧ 10 * (5 * 0 + p - 5 * 0) + g < (10 * R 30 0 12).toNat by omega), if_pos (show (23 = 22 ∨ 23 = 23) ∧ 5 * 0 ≤ 5 * 0 + p ∧ g < 10 ∧ 10 * (5 * 0 + p - 5 * 0) + g < (10 * R 30 0 12).toNat by omega), show 5 * 0 + p - 5 * 0 = p by omega]
    by_cases z : goesW C 0 p g 1 = -1
    · have no : ¬ ofI (bgI R 50) (10 * p + g) := fun y => of.1.mp y z
      have l2 := l.2 no
      rw [if_pos z, if_pos z, if_neg (by omega), if_pos rfl, l2.1, b36]
      refine ⟨q2.1, fun y => ?_⟩
      have hw : R 36 0 (10 * p + g) ≠ -1 := by rw [← q2.1]; exact y
      have hag := h.2.2.2.1 (10 * p + g) (by omega) hw
      have hpi := ((hRC.1.2.2.2.2.2.2 p hp).2.2 g hg).2.2 hw
      rw [l2.2.1 (by rw [b36]; exact hw), b37, q2.2 y]
      exact bm_idd (by constructor <;> omega)
    · have yes := of.1.mpr z
      rw [if_neg z, if_neg z, if_pos rfl, (l.1 yes).1]
      exact ⟨rfl, fun y => absurd rfl y⟩
  · rw [up_app, if_neg (by omega), pasM_app, if_neg (by omega), if_neg (by omega)]
theorem REL_live0 {C R : IM} (h : REL C R) (h9 : R 30 0 7 = 999) : liveM C = C := by
  have a4 := h.2.2.2.2.1.2.1
  unfold liveM
  rw [if_pos (by omega)]
theorem REL_feed {C R : IM} (h : REL C R) {c : Int} (ok : 0 ≤ c ∧ c ≤ 255) (h6 : R 30 0 6 ≠ 160) : REL (feedM C c) (up (up R 33 0 (R 30 0 6).toNat c) 30 0 6 (R 30 0 6 + 1)) := by
  have h5 := h.h5
  have hS := SC_feed (c := c) h.1
  have hRC := h.RC.1
  have hx6 := hRC.2.1.2.2.1
  obtain ⟨-, hRR, hX, hA, hN, hPe, hT, hTp, hK, hSh⟩ := h
  have e1 : feedM C c = up (up C 15 0 (R 30 0 6).toNat c) 14 0 1 (R 30 0 6 + 1) := by unfold feedM; rw [hTp.1, if_pos (by omega)]
  rw [e1] at hS ⊢
  have hRC' := RC_feed hRC ok.1 ok.2 h6
  refine ⟨hS, hRC'.1, hRC'.2.1, hA, hN, PEO_c hPe rfl (fun k p s _ _ _ => by rw [up_app, if_neg (by omega), up_app, if_neg (by omega)]) (fun k s _ _ => by rw [up_app, if_neg (by omega), up_app, if_neg (by omega)]) h5.2, TXT_c hT rfl rfl (fun k j s _ => by rw [up_app, if_neg (by omega), up_app, if_neg (by omega)]) (fun k s _ _ => by rw [up_app, if_neg (by omega), up_app, if_neg (by omega)]), ⟨rfl, fun i hi => ?_⟩, KEP_c hK rfl (Int.le_refl _) (fun k i s _ => by rw [up_app, if_neg (by omega), up_app, if_neg (by omega)]) (fun s _ _ => by rw [up_app, if_neg (by omega), up_app, if_neg (by omega)]) (fun k s _ _ => by rw [up_app, if_neg (by omega), up_app, if_neg (by omega)]) (fun _ _ => rfl) h5.2, SHE_c hSh (fun k j s _ => by rw [up_app, if_neg (by omega), up_app, if_neg (by omega)]) (fun k s _ _ => by rw [up_app, if_neg (by omega), up_app, if_neg (by omega)])⟩
  have hi : (i : Int) < R 30 0 6 + 1 := hi
  have eC : up (up C 15 0 (R 30 0 6).toNat c) 14 0 1 (R 30 0 6 + 1) 15 0 i = if 15 = 15 ∧ 0 = 0 ∧ i = (R 30 0 6).toNat then c else C 15 0 i := by rw [up_app, if_neg (by omega), up_app]
  have eR : up (up R 33 0 (R 30 0 6).toNat c) 30 0 6 (R 30 0 6 + 1) 33 0 i = if 33 = 33 ∧ 0 = 0 ∧ i = (R 30 0 6).toNat then c else R 33 0 i := by rw [up_app, if_neg (by omega), up_app]
  rw [eC, eR]
  by_cases z : i = (R 30 0 6).toNat
  · rw [if_pos ⟨rfl, rfl, z⟩, if_pos ⟨rfl, rfl, z⟩]
  · rw [if_neg (by omega), if_neg (by omega)]
    exact hTp.2 i (by omega)
theorem REL_feed0 {C R : IM} (h : REL C R) {c : Int} (ok : ¬ ((0 ≤ c ∧ c ≤ 255) ∧ R 30 0 6 ≠ 160)) : feedM C c = C := by
  have t6 := h.2.2.2.2.2.2.2.1.1
  have hx6 := h.2.2.1.2.2.1
  unfold feedM
  rw [if_neg (by omega)]
end
section
/-! BOTH: a text, the image, the sheets keep them the same -/

theorem sayR_n {a b : IM} {t : Nat} (h32 : a 32 0 t = b 32 0 t) (hs : 0 ≤ b 32 0 t ∧ b 32 0 t ≤ 160) (h31 : ∀ i, i < 160 → a 31 0 (160 * t + i) = b 31 0 (160 * t + i)) (part : Nat) (nm : Nat → Int) : sayR a t part nm = sayR b t part nm := by
  unfold sayR
  rw [h32, valT_cg (b := rowR a t) (c := rowR b t) (n := (b 32 0 t).toNat) (fun i hi => h31 i (by omega))]
theorem text_eq {C R : IM} (h : REL C R) (h3 : R 30 0 3 ≠ 6) : agB (C 15 0) (txB R) (R 30 0 6).toNat ∧ textF C = rdF (txB R) (R 30 0 6).toNat := by
  have hX := h.RC.1.2.1
  have hTp := h.2.2.2.2.2.2.2.1
  have hb : agB (C 15 0) (txB R) (R 30 0 6).toNat := fun i hi => by
    rw [hTp.2 i (by omega)]
    show R 33 0 i = txI R 31 0 (160 * (R 30 0 3).toNat + i)
    unfold txI
    rw [up_app, if_neg (by omega), up_app, if_neg (by omega)]
    unfold cpR
    rw [if_pos ⟨rfl, rfl, by omega, by omega⟩, show 160 * (R 30 0 3).toNat + i - 160 * (R 30 0 3).toNat = i by omega]
  refine ⟨hb, ?_⟩
  unfold textF
  rw [hTp.1]
  exact rdF_cg hb
theorem REL_text6 {C R F : IM} (h : REL C R) (hF : textR C F) (h3 : R 30 0 3 = 6) : F = C := by
  have t8 := h.2.2.2.2.2.2.1.1
  unfold textR at hF
  rw [if_neg (by omega)] at hF
  exact hF
theorem REL_text {C R F R2 R3 : IM} (h : REL C R) (hF : textR C F) (hRF : RI F) (h3 : R 30 0 3 ≠ 6) (ha : agZ R2 (txI R)) (hRC : RC R3) (c : Int) (hc : c = R 30 0 3 ∧ rdF (txB R) (R 30 0 6).toNat ≠ -1 ∨ c = R 30 0 3 + 1 ∧ rdF (txB R) (R 30 0 6).toNat = -1) (hR3 : ∀ k s, ¬ (k = 30 ∧ s = 3) → R3 k 0 s = R2 k 0 s) (h33 : R3 30 0 3 = c) : REL F R3 := by
  have h5 := h.h5
  have hx3 := h.RC.1.2.1.2.2.2.1
  have hX := h.RC.1.2.1
  have eT := text_eq h h3
  have hSF := SC_text h.1 hRF hF
  obtain ⟨hS, hRR, -, hA, ⟨a3, a4, a5, a6, a7⟩, hPe, hT, hTp, hK, hSh⟩ := h
  unfold textR at hF
  rw [if_pos (by have := hT.1; omega)] at hF
  obtain ⟨hf, h14, hy, hn⟩ := hF
  rw [eT.2, hT.1] at hy hn
  have e08 : F 0 0 8 = c := by
    rcases hc with ⟨q1, q2⟩ | ⟨q1, q2⟩
    · rw [hn q2, q1]
    · rw [(hy q2).2, q1]
  have e18 : ∀ i s, F 18 i s = C 18 i s := fun i s => hf 18 i s (by omega) (by omega) (by omega) (by omega) (by omega)
  have eP : ∀ k i s, 5 ≤ k → k ≠ 14 → F k i s = C k i s := fun k i s hk hk2 => hf k i s hk2 (by omega) (by omega) (by omega) (by omega)
  have tx : ∀ k s, k ≠ 31 → k ≠ 32 → ¬ (k = 30 ∧ s = 6) → txI R k 0 s = R k 0 s := fun k s k1 k2 k3 => by
    unfold txI
    rw [up_app, if_neg (by omega), up_app, if_neg (by omega)]
    unfold cpR
    rw [if_neg (by omega)]
  have r : ∀ k s, k ≠ 31 → k ≠ 32 → ¬ (k = 30 ∧ (s = 3 ∨ s = 6 ∨ 21 ≤ s ∧ s ≤ 29)) → R3 k 0 s = R k 0 s := fun k s k1 k2 k3 => by
    rw [hR3 k s (by omega), ha k 0 s (by omega), tx k s k1 k2 (by omega)]
  have r31 : ∀ s, R3 31 0 s = txI R 31 0 s := fun s => by rw [hR3 31 s (by omega), ha 31 0 s (by omega)]
  have r32 : ∀ s, R3 32 0 s = txI R 32 0 s := fun s => by rw [hR3 32 s (by omega), ha 32 0 s (by omega)]
  have r6 : R3 30 0 6 = 0 := by
    rw [hR3 30 6 (by omega), ha 30 0 6 (by omega)]
    rfl
  refine ⟨hSF, hRC.1, hRC.2.1, fun q hq hne => ?_, ⟨?_, ?_, ?_, ?_, ?_⟩, PEO_c hPe (r 30 12 (by omega) (by omega) (by omega)) (fun k p s _ _ _ => eP k _ s (by omega) (by omega)) (fun k s _ _ => r k s (by omega) (by omega) (by omega)) h5.2, ⟨by rw [e08, h33], fun t ht part hp nm => ?_⟩, ⟨by rw [h14, r6], fun i hi => absurd hi (by rw [r6]; omega)⟩, KEP_c hK (hf 0 0 9 (by omega) (by omega) (by omega) (by omega) (by omega)) (Int.le_of_eq (r 30 12 (by omega) (by omega) (by omega)).symm) (fun k i s _ => eP k i s (by omega) (by omega)) (fun s _ _ => r 30 s (by omega) (by omega) (by omega)) (fun k s _ _ => r k s (by omega) (by omega) (by omega)) (fun p _ => r 34 p (by omega) (by omega) (by omega)) h5.2, SHE_c hSh (fun k j s _ => eP k j s (by omega) (by omega)) (fun k s _ _ => r k s (by omega) (by omega) (by omega))⟩
  · rw [r 30 12 (by omega) (by omega) (by omega)] at hq
    rw [r 36 q (by omega) (by omega) (by omega)] at hne
    rw [r 37 q (by omega) (by omega) (by omega)]
    exact hA q hq hne
  · rw [e18, r 30 12 (by omega) (by omega) (by omega)]; exact a3
  · rw [e18, r 30 7 (by omega) (by omega) (by omega)]; exact a4
  · rw [e18, r 30 8 (by omega) (by omega) (by omega)]; exact a5
  · rw [e18, r 30 9 (by omega) (by omega) (by omega)]; exact a6
  · rw [e18, r 30 4 (by omega) (by omega) (by omega)]; exact a7
  · rw [h33] at ht
    by_cases old : (t : Int) < R 30 0 3
    · have ne : t ≠ (C 0 0 8).toNat := by have := hT.1; omega
      rw [tellV_congr (fun s => hf 3 t s (by omega) (by omega) (by omega) (by omega) (by omega)) (fun s => hf 4 t s (by omega) (by omega) (by omega) (by omega) (by omega)), hT.2 t old part hp nm]
      refine (sayR_n (by rw [r32]; exact txI_32 old) ⟨(hX.2.2.2.2 t old).1, (hX.2.2.2.2 t old).2.1⟩ (fun i hi => by rw [r31]; exact txI_31 old hi) part nm).symm
    · rcases hc with ⟨q1, q2⟩ | ⟨q1, q2⟩
      · exact absurd ht (by omega)
      · have et : t = (R 30 0 3).toNat := by omega
        subst et
        have hTX := (hy q2).1
        have hF1 : rdF (C 15 0) (C 14 0 1).toNat = -1 := by
          have e2 := eT.2
          unfold textF at e2
          rw [e2]
          exact q2
        have e32 : R3 32 0 (R 30 0 3).toNat = R 30 0 6 := by
          rw [r32]
          unfold txI
          rw [up_app, if_neg (by omega), up_app, if_pos ⟨rfl, rfl, rfl⟩]
        rw [TX_tellV hF1 hTX part hp nm]
        unfold sayR
        rw [e32, hTp.1, valT_cg eT.1 part nm, valT_cg (b := rowR R3 (R 30 0 3).toNat) (c := txB R) (n := (R 30 0 6).toNat) (fun i _ => r31 _)]
theorem imgI_o (R : IM) {k s : Nat} (h1 : ¬ (44 ≤ k ∧ k ≤ 46)) (h2 : ¬ (k = 30 ∧ 46 ≤ s ∧ s ≤ 50)) : imgI R k 0 s = R k 0 s := by
  unfold imgI
  rw [up_app, if_neg (by omega), up_app, if_neg (by omega), up_app, if_neg (by omega), up_app, if_neg (by omega), up_app, if_neg (by omega), cp2_app, if_neg (by omega), if_neg (by omega), cp1_app, if_neg (by omega)]
theorem imgI_RI {R : IM} (h : RI R) : RI (imgI R) := RI_up (RI_up (RI_up (RI_up (RI_up (cp2_RI (cp1_RI h _ _ _) _ _ _ _ _) (h _ _ _)) (h _ _ _)) (h _ _ _)) (h _ _ _)) (h _ _ _)
theorem imgI_k (R : IM) : (∀ p, p < 5 → imgI R 44 0 p = R 35 0 p) ∧ (∀ q, q < 50 → imgI R 45 0 q = R 36 0 q ∧ imgI R 46 0 q = R 37 0 q) := by
  refine ⟨fun p hp => ?_, fun q hq => ⟨?_, ?_⟩⟩
  · unfold imgI
    rw [up_app, if_neg (by omega), up_app, if_neg (by omega), up_app, if_neg (by omega), up_app, if_neg (by omega), up_app, if_neg (by omega), cp2_app, if_neg (by omega), if_neg (by omega), cp1_app, if_pos ⟨rfl, rfl, hp⟩]
  · unfold imgI
    rw [up_app, if_neg (by omega), up_app, if_neg (by omega), up_app, if_neg (by omega), up_app, if_neg (by omega), up_app, if_neg (by omega), cp2_app, if_pos ⟨rfl, rfl, hq⟩]
    rfl
  · unfold imgI
    rw [up_app, if_neg (by omega), up_app, if_neg (by omega), up_app, if_neg (by omega), up_app, if_neg (by omega), up_app, if_neg (by omega), cp2_app, if_neg (by omega), if_pos ⟨rfl, rfl, hq⟩]
    rfl
theorem REL_image {C R : IM} (h : REL C R) : REL (imageM C) (imgI R) := by
  have h5 := h.h5
  have hRC := h.RC.1
  have hS' := SC_image h.1
  obtain ⟨hS, hRR, hX, hA, ⟨a3, a4, a5, a6, a7⟩, hPe, hT, hTp, hK, hSh⟩ := h
  have e : ∀ k i s, ¬ (k = 0 ∧ s = 9) → ¬ (k = 18 ∧ i = 2) → ¬ (21 ≤ k ∧ k ≤ 23 ∧ 10 ≤ i) → imageM C k i s = C k i s := by
    intro k i s h1 h2 h3
    unfold imageM becM
    rw [up_app, if_neg (by omega), bec_o h2 (by omega)]
  have e18 : ∀ s, 3 ≤ s → s ≤ 7 → imageM C 18 2 s = C 18 0 s := fun s s1 s2 => by
    unfold imageM becM
    rw [up_app, if_neg (by omega), bec_18 ⟨s1, s2⟩]
  have ec : ∀ k p s : Nat, (k = 21 ∧ s < 2 ∨ k = 22 ∧ s < 10 ∨ k = 23 ∧ s < 10) → (p : Int) < R 30 0 12 → imageM C k (5 * 2 + p) s = C k (5 * 0 + p) s := fun k p s hk hp => by
    unfold imageM becM
    rw [up_app, if_neg (by omega), bec_c hk (by omega)]
  have k9 := imgI_k R
  refine ⟨hS', imgI_RI hRR, hX.same (fun s => imgI_o R (by omega) (by omega)) (fun s => imgI_o R (by omega) (by omega)) (fun s => imgI_o R (by omega) (by omega)) (imgI_o R (by omega) (by omega)) (imgI_o R (by omega) (by omega)), fun q hq hne => ?_, ⟨?_, ?_, ?_, ?_, ?_⟩, PEO_c hPe (imgI_o R (by omega) (by omega)) (fun k p s _ _ _ => e _ _ _ (by omega) (by omega) (by omega)) (fun k s _ _ => imgI_o R (by omega) (by omega)) h5.2, TXT_c hT (e _ _ _ (by omega) (by omega) (by omega)) (imgI_o R (by omega) (by omega)) (fun k j s _ => e _ _ _ (by omega) (by omega) (by omega)) (fun k s _ _ => imgI_o R (by omega) (by omega)), TPE_c hTp (e _ _ _ (by omega) (by omega) (by omega)) (imgI_o R (by omega) (by omega)) (fun s => e _ _ _ (by omega) (by omega) (by omega)) (fun s => imgI_o R (by omega) (by omega)), Or.inr ⟨?_, ?_, ⟨?_, ?_, ?_, ?_, ?_⟩, fun p hp => ?_⟩, SHE_c hSh (fun k j s _ => e _ _ _ (by omega) (by omega) (by omega)) (fun k s _ _ => imgI_o R (by omega) (by omega))⟩
  · rw [imgI_o R (by omega) (by omega)] at hq hne ⊢
    exact hA q hq hne
  · rw [e _ _ _ (by omega) (by omega) (by omega), imgI_o R (by omega) (by omega)]; exact a3
  · rw [e _ _ _ (by omega) (by omega) (by omega), imgI_o R (by omega) (by omega)]; exact a4
  · rw [e _ _ _ (by omega) (by omega) (by omega), imgI_o R (by omega) (by omega)]; exact a5
  · rw [e _ _ _ (by omega) (by omega) (by omega), imgI_o R (by omega) (by omega)]; exact a6
  · rw [e _ _ _ (by omega) (by omega) (by omega), imgI_o R (by omega) (by omega)]; exact a7
  · unfold imageM
    rw [up_app, if_pos ⟨rfl, rfl, rfl⟩]
  · show 0 ≤ R 30 0 12 ∧ R 30 0 12 ≤ R 30 0 12
    omega
  · rw [e18 3 (by omega) (by omega)]; exact a3
  · rw [e18 4 (by omega) (by omega)]; exact a4
  · rw [e18 5 (by omega) (by omega)]; exact a5
  · rw [e18 6 (by omega) (by omega)]; exact a6
  · rw [e18 7 (by omega) (by omega)]; exact a7
  · have hp : (p : Int) < R 30 0 12 := hp
    have q := hPe p hp
    rw [ec 21 p 0 (by omega) hp, ec 21 p 1 (by omega) hp, imgI_o R (by omega) (by omega), k9.1 p (by omega)]
    refine ⟨q.1, q.2.1, fun g hg => ?_⟩
    have q2 := q.2.2 g hg
    rw [ec 22 p g (by omega) hp, ec 23 p g (by omega) hp, (k9.2 (10 * p + g) (by omega)).1, (k9.2 (10 * p + g) (by omega)).2]
    refine ⟨q2.1, fun z => ⟨q2.2 z, hA (10 * p + g) (by omega) (by rw [← q2.1]; exact z)⟩⟩
theorem bckI_o (R : IM) {k s : Nat} (h1 : ¬ (35 ≤ k ∧ k ≤ 37)) (h2 : ¬ (k = 30 ∧ (s = 12 ∨ s = 7 ∨ s = 8 ∨ s = 9 ∨ s = 4))) : bckI R k 0 s = R k 0 s := by
  unfold bckI
  rw [up_app, if_neg (by omega), up_app, if_neg (by omega), up_app, if_neg (by omega), up_app, if_neg (by omega), up_app, if_neg (by omega), cp2_app, if_neg (by omega), if_neg (by omega), cp1_app, if_neg (by omega)]
theorem bckI_RI {R : IM} (h : RI R) : RI (bckI R) := RI_up (RI_up (RI_up (RI_up (RI_up (cp2_RI (cp1_RI h _ _ _) _ _ _ _ _) (h _ _ _)) (h _ _ _)) (h _ _ _)) (h _ _ _)) (h _ _ _)
theorem bckI_k (R : IM) : (∀ p, p < 5 → bckI R 35 0 p = R 44 0 p) ∧ (∀ q, q < 50 → bckI R 36 0 q = R 45 0 q ∧ bckI R 37 0 q = R 46 0 q) := by
  refine ⟨fun p hp => ?_, fun q hq => ⟨?_, ?_⟩⟩
  · unfold bckI
    rw [up_app, if_neg (by omega), up_app, if_neg (by omega), up_app, if_neg (by omega), up_app, if_neg (by omega), up_app, if_neg (by omega), cp2_app, if_neg (by omega), if_neg (by omega), cp1_app, if_pos ⟨rfl, rfl, hp⟩]
  · unfold bckI
    rw [up_app, if_neg (by omega), up_app, if_neg (by omega), up_app, if_neg (by omega), up_app, if_neg (by omega), up_app, if_neg (by omega), cp2_app, if_pos ⟨rfl, rfl, hq⟩]
    rfl
  · unfold bckI
    rw [up_app, if_neg (by omega), up_app, if_neg (by omega), up_app, if_neg (by omega), up_app, if_neg (by omega), up_app, if_neg (by omega), cp2_app, if_neg (by omega), if_pos ⟨rfl, rfl, hq⟩]
    rfl
theorem REL_back0 {C R : IM} (h : REL C R) (hk : R 30 0 46 = -1) : backM C = C := by
  unfold backM
  rcases h.2.2.2.2.2.2.2.2.1 with ⟨a, b⟩ | ⟨a, b, c, d⟩
  · rw [if_pos a]
  · exact absurd hk (by omega)
theorem REL_back {C R : IM} (h : REL C R) (hk : R 30 0 46 ≠ -1) : REL (backM C) (bckI R) := by
  have h5 := h.h5
  have hS' := SC_back h.1
  obtain ⟨hS, hRR, hX, hA, hN, hPe, hT, hTp, hK, hSh⟩ := h
  have hK' := hK
  rcases hK with ⟨a, b⟩ | ⟨a, b, ⟨c3, c4, c5, c6, c7⟩, d⟩
  · exact absurd b hk
  have e1 : backM C = becM C 0 2 := by unfold backM; rw [if_neg (by omega)]
  rw [e1] at hS' ⊢
  have e : ∀ k i s, ¬ (k = 18 ∧ i = 0) → ¬ (21 ≤ k ∧ k ≤ 23 ∧ i < 5) → becM C 0 2 k i s = C k i s := by
    intro k i s h2 h3
    unfold becM
    rw [bec_o h2 (by omega)]
  have e18 : ∀ s, 3 ≤ s → s ≤ 7 → becM C 0 2 18 0 s = C 18 2 s := fun s s1 s2 => by
    unfold becM
    rw [bec_18 ⟨s1, s2⟩]
  have ec : ∀ k p s : Nat, (k = 21 ∧ s < 2 ∨ k = 22 ∧ s < 10 ∨ k = 23 ∧ s < 10) → (p : Int) < R 30 0 46 → becM C 0 2 k (5 * 0 + p) s = C k (5 * 2 + p) s := fun k p s hk hp => by
    unfold becM
    rw [bec_c hk (by omega)]
  have k9 := bckI_k R
  have b12 : bckI R 30 0 12 = R 30 0 46 := rfl
  refine ⟨hS', bckI_RI hRR, hX.same (fun s => bckI_o R (by omega) (by omega)) (fun s => bckI_o R (by omega) (by omega)) (fun s => bckI_o R (by omega) (by omega)) (bckI_o R (by omega) (by omega)) (bckI_o R (by omega) (by omega)), fun q hq hne => ?_, ⟨?_, ?_, ?_, ?_, ?_⟩, fun p hp => ?_, TXT_c hT (e _ _ _ (by omega) (by omega)) (bckI_o R (by omega) (by omega)) (fun k j s _ => e _ _ _ (by omega) (by omega)) (fun k s _ _ => bckI_o R (by omega) (by omega)), TPE_c hTp (e _ _ _ (by omega) (by omega)) (bckI_o R (by omega) (by omega)) (fun s => e _ _ _ (by omega) (by omega)) (fun s => bckI_o R (by omega) (by omega)), Or.inr ⟨?_, ?_, ⟨?_, ?_, ?_, ?_, ?_⟩, fun p hp => ?_⟩, SHE_c hSh (fun k j s _ => e _ _ _ (by omega) (by omega)) (fun k s _ _ => bckI_o R (by omega) (by omega))⟩
  · rw [b12] at hq
    rw [(k9.2 q (by omega)).1] at hne
    rw [(k9.2 q (by omega)).2]
    have q2 := (d (q / 10) (by omega)).2.2 (q % 10) (by omega)
    rw [show 10 * (q / 10) + q % 10 = q by omega] at q2
    exact (q2.2 (by rw [q2.1]; exact hne)).2
  · rw [e18 3 (by omega) (by omega)]; exact c3
  · rw [e18 4 (by omega) (by omega)]; exact c4
  · rw [e18 5 (by omega) (by omega)]; exact c5
  · rw [e18 6 (by omega) (by omega)]; exact c6
  · rw [e18 7 (by omega) (by omega)]; exact c7
  · rw [b12] at hp
    have q := d p hp
    rw [ec 21 p 0 (by omega) hp, ec 21 p 1 (by omega) hp, bckI_o R (by omega) (by omega), k9.1 p (by omega)]
    refine ⟨q.1, q.2.1, fun g hg => ?_⟩
    have q2 := q.2.2 g hg
    rw [ec 22 p g (by omega) hp, ec 23 p g (by omega) hp, (k9.2 (10 * p + g) (by omega)).1, (k9.2 (10 * p + g) (by omega)).2]
    exact ⟨q2.1, fun z => (q2.2 z).1⟩
  · rw [e 0 0 9 (by omega) (by omega)]; exact a
  · show 0 ≤ R 30 0 46 ∧ R 30 0 46 ≤ R 30 0 46
    omega
  · rw [e _ _ _ (by omega) (by omega)]; exact c3
  · rw [e _ _ _ (by omega) (by omega)]; exact c4
  · rw [e _ _ _ (by omega) (by omega)]; exact c5
  · rw [e _ _ _ (by omega) (by omega)]; exact c6
  · rw [e _ _ _ (by omega) (by omega)]; exact c7
  · have hp : (p : Int) < R 30 0 46 := hp
    have q := d p hp
    rw [e _ _ _ (by omega) (by omega), e _ _ _ (by omega) (by omega), bckI_o R (by omega) (by omega), bckI_o R (by omega) (by omega)]
    refine ⟨q.1, q.2.1, fun g hg => ?_⟩
    rw [e _ _ _ (by omega) (by omega), e _ _ _ (by omega) (by omega), bckI_o R (by omega) (by omega), bckI_o R (by omega) (by omega)]
    exact q.2.2 g hg
end
section
/-! BOTH: the sheets, people off a sheet -/

theorem REL_h {C R C' R' : IM} (h : REL C R) (hS : SC C') (hR : RI R') (hC : ∀ k i s, k ≠ 7 → k ≠ 8 → C' k i s = C k i s) (hR2 : ∀ k s, ¬ (47 ≤ k ∧ k ≤ 50) → R' k 0 s = R k 0 s) (hSh : SHE C' R') : REL C' R' := by
  have h5 := h.h5
  obtain ⟨-, hRR, hX, hA, ⟨a3, a4, a5, a6, a7⟩, hPe, hT, hTp, hK, -⟩ := h
  have c18 : ∀ s, C' 18 0 s = C 18 0 s := fun s => hC _ _ _ (by omega) (by omega)
  have r30 : ∀ s, R' 30 0 s = R 30 0 s := fun s => hR2 _ _ (by omega)
  exact ⟨hS, hR, hX.same (fun s => hR2 _ _ (by omega)) (fun s => hR2 _ _ (by omega)) (fun s => hR2 _ _ (by omega)) (r30 3) (r30 6), hA.C ⟨fun k s _ _ => hR2 k s (by omega), r30 3, r30 4, r30 6, r30 8, r30 12⟩, ⟨by rw [c18, r30]; exact a3, by rw [c18, r30]; exact a4, by rw [c18, r30]; exact a5, by rw [c18, r30]; exact a6, by rw [c18, r30]; exact a7⟩, PEO_c hPe (r30 12) (fun k p s _ _ _ => hC _ _ _ (by omega) (by omega)) (fun k s _ _ => hR2 _ _ (by omega)) h5.2, TXT_c hT (hC _ _ _ (by omega) (by omega)) (r30 3) (fun k j s _ => hC _ _ _ (by omega) (by omega)) (fun k s _ _ => hR2 _ _ (by omega)), TPE_c hTp (hC _ _ _ (by omega) (by omega)) (r30 6) (fun s => hC _ _ _ (by omega) (by omega)) (fun s => hR2 _ _ (by omega)), KEP_c hK (hC _ _ _ (by omega) (by omega)) (Int.le_of_eq (r30 12).symm) (fun k i s _ => hC _ _ _ (by omega) (by omega)) (fun s _ _ => r30 s) (fun k s _ _ => hR2 _ _ (by omega)) (fun p _ => hR2 _ _ (by omega)) h5.2, hSh⟩
theorem sheetR_RI {R : IM} (h : RI R) {s : Nat} {sort n : Int} (hs : ri sort) (hn : ri n) : RI (sheetR R s sort n) := by
  have h3 : RI (shI3 R s sort n) := by
    unfold shI3
    refine RI_up (RI_up (RI_up h ?_) hs) hn
    split <;> (constructor <;> omega)
  intro k i x
  unfold sheetR
  rw [zeS_app]
  generalize (if sort < 0 then 0 else n.toNat) = m
  split
  · constructor <;> omega
  · exact h3 _ _ _
theorem sheetR_o (R : IM) {s : Nat} {sort n : Int} {k x : Nat} (h : ¬ (47 ≤ k ∧ k ≤ 50)) : sheetR R s sort n k 0 x = R k 0 x := by
  unfold sheetR shI3
  rw [zeS_app, if_neg (by omega), up_app, if_neg (by omega), up_app, if_neg (by omega), up_app, if_neg (by omega)]
theorem sheetR_h (R : IM) (s : Nat) (sort n : Int) (j : Nat) : sheetR R s sort n 47 0 j = (if j = s then (if sort < 0 then 0 else 1) else R 47 0 j) ∧ sheetR R s sort n 48 0 j = (if j = s then sort else R 48 0 j) ∧ sheetR R s sort n 49 0 j = (if j = s then n else R 49 0 j) := by
  unfold sheetR shI3
  refine ⟨?_, ?_, ?_⟩
  · rw [zeS_app, if_neg (by omega), up_app, if_neg (by omega), up_app, if_neg (by omega), up_app]
    by_cases z : j = s
    · rw [if_pos ⟨rfl, rfl, z⟩, if_pos z]
    · rw [if_neg (fun y => z y.2.2), if_neg z]
  · rw [zeS_app, if_neg (by omega), up_app, if_neg (by omega), up_app]
    by_cases z : j = s
    · rw [if_pos ⟨rfl, rfl, z⟩, if_pos z]
    · rw [if_neg (fun y => z y.2.2), if_neg z, up_app, if_neg (by omega)]
  · rw [zeS_app, if_neg (by omega), up_app]
    by_cases z : j = s
    · rw [if_pos ⟨rfl, rfl, z⟩, if_pos z]
    · rw [if_neg (fun y => z y.2.2), if_neg z, up_app, if_neg (by omega), up_app, if_neg (by omega)]
theorem sheetR_i (R : IM) (s : Nat) (sort n : Int) (x : Nat) : sheetR R s sort n 50 0 x = if 40 * s ≤ x ∧ x < 40 * s + (if sort < 0 then 0 else n.toNat) then 0 else R 50 0 x := by
  unfold sheetR shI3
  rw [zeS_app]
  by_cases z : 40 * s ≤ x ∧ x < 40 * s + (if sort < 0 then 0 else n.toNat)
  · rw [if_pos ⟨rfl, rfl, z.1, z.2⟩, if_pos z]
  · rw [if_neg (fun y => z ⟨y.2.2.1, y.2.2.2⟩), if_neg z, up_app, if_neg (by omega), up_app, if_neg (by omega), up_app, if_neg (by omega)]
theorem sheetA_eq (s sort n : Int) : sheetA s sort n = if ¬ (((0 : Int) ≤ s ∧ (s : Int) ≤ 3) ∧ (-1 ≤ sort ∧ sort ≤ 2)) ∨ (0 ≤ sort ∧ 40 < n) then -2 else if 0 ≤ sort ∧ n < 0 then -14 else 1 := by
  unfold sheetA
  (repeat' split) <;> first | rfl | (exfalso; omega)
theorem REL_sheet {C R : IM} (h : REL C R) {s sort n : Int} (hsort : ri sort) (hn : ri n) (ok : ((0 ≤ s ∧ s ≤ 3) ∧ (-1 ≤ sort ∧ sort ≤ 2)) ∧ ¬ (0 ≤ sort ∧ 40 < n) ∧ ¬ (0 ≤ sort ∧ n < 0)) : REL (sheetM C s sort n) (sheetR R s.toNat sort n) := by
  have hS' := SC_sheet (sheet := s) (sort := sort) (n := n) h.1
  have hSh := h.2.2.2.2.2.2.2.2.2
  have hsz := h.1.2.2.2.2.2.2.2.2.1
  have e1 : sheetM C s sort n = zr (up (up C 7 s.toNat 1 sort) 7 s.toNat 2 (if sort = -1 then 0 else n)) 8 s.toNat 40 := by
    unfold sheetM
    rw [if_pos (by rw [sheetA_eq, if_neg (by omega), if_neg (by omega)])]
  rw [e1] at hS' ⊢
  refine REL_h h hS' (sheetR_RI h.2.1 hsort hn) (fun k i x h7 h8 => by rw [zr_app, if_neg (by omega), up_app, if_neg (by omega), up_app, if_neg (by omega)]) (fun k x hk => sheetR_o R hk) (fun j hj => ?_)
  have g := sheetR_h R s.toNat sort n j
  rw [g.1, g.2.1, g.2.2]
  have c7 : ∀ x, zr (up (up C 7 s.toNat 1 sort) 7 s.toNat 2 (if sort = -1 then 0 else n)) 8 s.toNat 40 7 j x = up (up C 7 s.toNat 1 sort) 7 s.toNat 2 (if sort = -1 then 0 else n) 7 j x := fun x => by rw [zr_app, if_neg (by omega)]
  rw [c7, c7]
  by_cases z : j = s.toNat
  · subst z
    rw [if_pos rfl, if_pos rfl, if_pos rfl]
    have d1 : up (up C 7 s.toNat 1 sort) 7 s.toNat 2 (if sort = -1 then 0 else n) 7 s.toNat 1 = sort := by rw [up_app, if_neg (by omega), up_app, if_pos ⟨rfl, rfl, rfl⟩]
    have d2 : up (up C 7 s.toNat 1 sort) 7 s.toNat 2 (if sort = -1 then 0 else n) 7 s.toNat 2 = (if sort = -1 then 0 else n) := by rw [up_app, if_pos ⟨rfl, rfl, rfl⟩]
    rw [d1, d2]
    by_cases y : sort = -1
    · left
      exact ⟨y, by rw [if_pos (by omega)]⟩
    · right
      rw [if_neg (by omega), if_neg y]
      refine ⟨y, rfl, rfl, rfl, fun i hi => ?_⟩
      have em : (if sort < 0 then 0 else n.toNat) = n.toNat := if_neg (by omega)
      rw [zr_app, if_pos ⟨rfl, rfl, by omega⟩, sheetR_i, em, if_pos (by omega)]
  · rw [if_neg z, if_neg z, if_neg z]
    have d : ∀ x, up (up C 7 s.toNat 1 sort) 7 s.toNat 2 (if sort = -1 then 0 else n) 7 j x = C 7 j x := fun x => by rw [up_app, if_neg (fun y => z y.2.1), up_app, if_neg (fun y => z y.2.1)]
    rw [d, d]
    have w := hsz j hj
    rcases hSh j hj with q | ⟨a, b, c, dd, e⟩
    · exact Or.inl q
    · refine Or.inr ⟨a, b, c, dd, fun i hi => ?_⟩
      rw [zr_app, if_neg (fun y => z y.2.1), up_app, if_neg (by omega), up_app, if_neg (by omega), sheetR_i, if_neg (by split <;> omega)]
      exact e i hi
theorem REL_sheet0 {C : IM} {s sort n : Int} (ok : ¬ (((0 ≤ s ∧ s ≤ 3) ∧ (-1 ≤ sort ∧ sort ≤ 2)) ∧ ¬ (0 ≤ sort ∧ 40 < n) ∧ ¬ (0 ≤ sort ∧ n < 0))) : sheetM C s sort n = C := by
  unfold sheetM
  rw [if_neg (fun z => ?_)]
  rw [sheetA_eq] at z
  split at z
  · omega
  · split at z
    · omega
    · exact ok (by omega)
theorem cellA_eq {C R : IM} (h : REL C R) (s i : Int) : cellA C s i = if 0 ≤ s ∧ s ≤ 3 then (if R 47 0 s.toNat = 0 then -11 else if 0 ≤ i ∧ i < R 49 0 s.toNat then 1 else -12) else -2 := by
  have hSh := h.2.2.2.2.2.2.2.2.2
  unfold cellA
  by_cases hs : 0 ≤ s ∧ s ≤ 3
  · rw [if_pos hs, if_pos (by omega)]
    rcases hSh s.toNat (by omega) with ⟨a, b⟩ | ⟨a, b, c, d, e⟩
    · rw [if_pos a, if_pos b]
    · rw [if_neg a, if_neg (show ¬ R 47 0 s.toNat = 0 by omega), d]
  · rw [if_neg hs, if_neg (by omega)]
theorem REL_cell {C R : IM} (h : REL C R) {s i v : Int} (hv : ri v) (ok : (0 ≤ s ∧ s ≤ 3) ∧ R 47 0 s.toNat = 1 ∧ (0 ≤ i ∧ i < R 49 0 s.toNat)) : REL (cellM C s i v) (up R 50 0 (40 * s.toNat + i.toNat) (cutN (R 48 0 s.toNat) v)) := by
  have hS' := SC_cell (sheet := s) (i := i) h.1 hv
  have hSh := h.2.2.2.2.2.2.2.2.2
  have hsz := h.1.2.2.2.2.2.2.2.2.1
  have e1 : cellM C s i v = up C 8 s.toNat i.toNat (cutN (C 7 s.toNat 1) v) := by
    unfold cellM
    rw [if_pos (by rw [cellA_eq h, if_pos ok.1, if_neg (by omega), if_pos ok.2.2])]
  rw [e1] at hS' ⊢
  have e48 : R 48 0 s.toNat = C 7 s.toNat 1 ∧ R 49 0 s.toNat = C 7 s.toNat 2 := by
    rcases hSh s.toNat (by omega) with ⟨a, b⟩ | ⟨a, b, c, d, e⟩
    · exact absurd ok.2.1 (by omega)
    · exact ⟨c, d⟩
  refine REL_h h hS' (RI_up h.2.1 (cutN_ri hv)) (fun k j x h7 h8 => by rw [up_app, if_neg (by omega)]) (fun k x hk => by rw [up_app, if_neg (by omega)]) (fun j hj => ?_)
  have w := hsz j hj
  have ws := hsz s.toNat (by omega)
  have c7 : ∀ x, up C 8 s.toNat i.toNat (cutN (C 7 s.toNat 1) v) 7 j x = C 7 j x := fun x => by rw [up_app, if_neg (by omega)]
  have r4 : ∀ k, k < 50 → up R 50 0 (40 * s.toNat + i.toNat) (cutN (R 48 0 s.toNat) v) k 0 j = R k 0 j := fun k hk => by rw [up_app, if_neg (by omega)]
  rw [c7, c7, r4 47 (by omega), r4 48 (by omega), r4 49 (by omega)]
  rcases hSh j hj with q | ⟨a, b, c, d, e⟩
  · exact Or.inl q
  · refine Or.inr ⟨a, b, c, d, fun x hx => ?_⟩
    rw [up_app, up_app]
    by_cases z : j = s.toNat ∧ x = i.toNat
    · rw [if_pos ⟨rfl, z.1, z.2⟩, if_pos ⟨rfl, rfl, by rw [z.1, z.2]⟩, e48.1]
    · rw [if_neg (fun y => z y.2), if_neg (by omega)]
      exact e x hx
theorem REL_cell0 {C R : IM} (h : REL C R) {s i v : Int} (ok : ¬ ((0 ≤ s ∧ s ≤ 3) ∧ R 47 0 s.toNat = 1 ∧ (0 ≤ i ∧ i < R 49 0 s.toNat))) : cellM C s i v = C := by
  have hSh := h.2.2.2.2.2.2.2.2.2
  unfold cellM
  rw [if_neg (fun z => ?_)]
  rw [cellA_eq h] at z
  by_cases hs : 0 ≤ s ∧ s ≤ 3
  · rw [if_pos hs] at z
    rcases hSh s.toNat (by omega) with ⟨a, b⟩ | ⟨a, b, c, d, e⟩
    · rw [if_pos b] at z
      omega
    · rw [if_neg (by omega)] at z
      split at z <;> omega
  · rw [if_neg hs] at z
    omega
theorem copyA_eq {C R : IM} (h : REL C R) (a i b j n : Int) : copyA C a i b j n = if (0 ≤ a ∧ a ≤ 3) ∧ 0 ≤ b ∧ b ≤ 3 then (if R 47 0 a.toNat = 0 ∨ R 47 0 b.toNat = 0 then -11 else if R 48 0 a.toNat ≠ R 48 0 b.toNat then -13 else if (0 ≤ i ∧ 0 ≤ n ∧ i + n ≤ R 49 0 a.toNat) ∧ 0 ≤ j ∧ 0 ≤ n ∧ j + n ≤ R 49 0 b.toNat then n else -12) else -2 := by
  have hSh := h.2.2.2.2.2.2.2.2.2
  unfold copyA
  by_cases hs : (0 ≤ a ∧ a ≤ 3) ∧ 0 ≤ b ∧ b ≤ 3
  · rw [if_pos hs, if_pos (by omega)]
    rcases hSh a.toNat (by omega) with ⟨a1, a2⟩ | ⟨a1, a2, a3, a4, a5⟩
    · rw [if_pos (Or.inl a1), if_pos (Or.inl a2)]
    · rcases hSh b.toNat (by omega) with ⟨b1, b2⟩ | ⟨b1, b2, b3, b4, b5⟩
      · rw [if_pos (Or.inr b1), if_pos (Or.inr b2)]
      · rw [if_neg (show ¬ (C 7 a.toNat 1 = -1 ∨ C 7 b.toNat 1 = -1) by omega), if_neg (show ¬ (R 47 0 a.toNat = 0 ∨ R 47 0 b.toNat = 0) by omega), a3, b3, a4, b4]
  · rw [if_neg hs, if_neg (by omega)]
theorem REL_copy {C R : IM} (h : REL C R) {a i b j n : Int} (ok : ((0 ≤ a ∧ a ≤ 3) ∧ 0 ≤ b ∧ b ≤ 3) ∧ (R 47 0 a.toNat = 1 ∧ R 47 0 b.toNat = 1) ∧ R 48 0 a.toNat = R 48 0 b.toNat ∧ (0 ≤ i ∧ 0 ≤ n ∧ i + n ≤ R 49 0 a.toNat) ∧ 0 ≤ j ∧ 0 ≤ n ∧ j + n ≤ R 49 0 b.toNat) : REL (copyM C a i b j n) (cpy R 50 0 (40 * a.toNat + i.toNat) 50 0 (40 * b.toNat + j.toNat) n.toNat) := by
  have hS' := SC_copy (a := a) (i := i) (b := b) (j := j) (n := n) h.1
  have hSh := h.2.2.2.2.2.2.2.2.2
  have hsz := h.1.2.2.2.2.2.2.2.2.1
  have e1 : copyM C a i b j n = cpy C 8 a.toNat i.toNat 8 b.toNat j.toNat n.toNat := by
    unfold copyM
    rw [if_pos (by rw [copyA_eq h, if_pos ok.1, if_neg (by omega), if_neg (by omega), if_pos (by omega)]; omega)]
  rw [e1] at hS' ⊢
  refine REL_h h hS' (RI_cpy h.2.1) (fun k j x h7 h8 => by rw [cpy_app, if_neg (by omega)]) (fun k x hk => by rw [cpy_app, if_neg (by omega)]) (fun m hm => ?_)
  have w := hsz m hm
  have wa := hsz a.toNat (by omega)
  have wb := hsz b.toNat (by omega)
  have ha : R 49 0 a.toNat = C 7 a.toNat 2 ∧ ∀ x : Nat, (x : Int) < C 7 a.toNat 2 → C 8 a.toNat x = R 50 0 (40 * a.toNat + x) := by
    rcases hSh a.toNat (by omega) with ⟨a1, a2⟩ | ⟨a1, a2, a3, a4, a5⟩
    · exact absurd ok.2.1.1 (by omega)
    · exact ⟨a4, a5⟩
  have hb : R 49 0 b.toNat = C 7 b.toNat 2 := by
    rcases hSh b.toNat (by omega) with ⟨a1, a2⟩ | ⟨a1, a2, a3, a4, a5⟩
    · exact absurd ok.2.1.2 (by omega)
    · exact a4
  have c7 : ∀ x, cpy C 8 a.toNat i.toNat 8 b.toNat j.toNat n.toNat 7 m x = C 7 m x := fun x => by rw [cpy_app, if_neg (by omega)]
  have r4 : ∀ k, k < 50 → cpy R 50 0 (40 * a.toNat + i.toNat) 50 0 (40 * b.toNat + j.toNat) n.toNat k 0 m = R k 0 m := fun k hk => by rw [cpy_app, if_neg (by omega)]
  rw [c7, c7, r4 47 (by omega), r4 48 (by omega), r4 49 (by omega)]
  rcases hSh m hm with q | ⟨a1, a2, a3, a4, a5⟩
  · exact Or.inl q
  · refine Or.inr ⟨a1, a2, a3, a4, fun x hx => ?_⟩
    rw [cpy_app, cpy_app]
    by_cases z : m = b.toNat ∧ j.toNat ≤ x ∧ x < j.toNat + n.toNat
    · rw [if_pos ⟨rfl, z.1, z.2.1, z.2.2⟩, if_pos ⟨rfl, rfl, by omega, by omega⟩, ha.2 _ (by omega), show 40 * a.toNat + i.toNat + (40 * m + x - (40 * b.toNat + j.toNat)) = 40 * a.toNat + (i.toNat + (x - j.toNat)) by omega]
    · rw [if_neg (fun y => z y.2), if_neg (by omega)]
      exact a5 x hx
theorem REL_copy0 {C R : IM} (h : REL C R) {a i b j n : Int} (ok : ¬ (((0 ≤ a ∧ a ≤ 3) ∧ 0 ≤ b ∧ b ≤ 3) ∧ (R 47 0 a.toNat = 1 ∧ R 47 0 b.toNat = 1) ∧ R 48 0 a.toNat = R 48 0 b.toNat ∧ (0 ≤ i ∧ 0 ≤ n ∧ i + n ≤ R 49 0 a.toNat) ∧ 0 ≤ j ∧ 0 ≤ n ∧ j + n ≤ R 49 0 b.toNat)) : copyM C a i b j n = C := by
  have hSH := h.RC.2.2
  unfold copyM
  rw [if_neg (fun z => ?_)]
  rw [copyA_eq h] at z
  by_cases hs : (0 ≤ a ∧ a ≤ 3) ∧ 0 ≤ b ∧ b ≤ 3
  · rw [if_pos hs] at z
    have ha := (hSH a.toNat (by omega)).1
    have hb := (hSH b.toNat (by omega)).1
    (repeat' split at z) <;> omega
  · rw [if_neg hs] at z
    omega
theorem REL_film {C R R2 : IM} (h : REL C R) {s p : Int} (ok : (0 ≤ s ∧ s ≤ 3) ∧ (0 ≤ p ∧ p < R 30 0 12)) (hR2 : RI R2) (hU : agS R2 R) : REL (filmM C s p) (flR R (sheetR R2 s.toNat 0 10) s.toNat p.toNat 10) := by
  have hS' := SC_film (sheet := s) (man := p) h.1
  have h5 := h.h5
  have a3 := h.2.2.2.2.1.1
  have h2 := h.S hU hR2
  have hSh := h2.2.2.2.2.2.2.2.2.2
  have hsz := h.1.2.2.2.2.2.2.2.2.1
  have e1 : filmM C s p = flmM C s.toNat p.toNat 10 := by unfold filmM; rw [if_pos (by omega)]
  rw [e1] at hS' ⊢
  have e8 : ∀ g j x, g ≤ 10 → flmM C s.toNat p.toNat g 8 j x = if j = s.toNat ∧ x < 40 then (if x < g then goesW C 0 p.toNat x 60 else 0) else C 8 j x := by
    intro g
    induction g with
    | zero =>
      intro j x _
      show zr (up (up C 7 s.toNat 1 0) 7 s.toNat 2 10) 8 s.toNat 40 8 j x = _
      rw [zr_app]
      by_cases z : j = s.toNat ∧ x < 40
      · rw [if_pos ⟨rfl, z.1, z.2⟩, if_pos z, if_neg (by omega)]
      · rw [if_neg (fun y => z y.2), if_neg z, up_app, if_neg (by omega), up_app, if_neg (by omega)]
    | succ g ih =>
      intro j x hg
      show up (flmM C s.toNat p.toNat g) 8 s.toNat g (goesW C 0 p.toNat g 60) 8 j x = _
      rw [up_app, ih j x (by omega)]
      by_cases z : j = s.toNat ∧ x = g
      · rw [if_pos ⟨rfl, z.1, z.2⟩, if_pos (by omega), if_pos (by omega), z.2]
      · rw [if_neg (fun y => z y.2)]
        by_cases y : j = s.toNat ∧ x < 40
        · rw [if_pos y, if_pos y]
          by_cases v : x < g
          · rw [if_pos v, if_pos (by omega)]
          · rw [if_neg v, if_neg (by omega)]
        · rw [if_neg y, if_neg y]
  have e7 := fun j x => flm_7 C s.toNat p.toNat 10 j x
  have rf : ∀ k x, k ≠ 50 → flR R (sheetR R2 s.toNat 0 10) s.toNat p.toNat 10 k 0 x = sheetR R2 s.toNat 0 10 k 0 x := fun k x hk => by
    unfold flR
    rw [if_neg (by omega)]
  have hRf : RI (flR R (sheetR R2 s.toNat 0 10) s.toNat p.toNat 10) := by
    intro k i x
    unfold flR
    split
    · have := whenR_in R 60 (10 * p.toNat + (x - 40 * s.toNat))
      constructor <;> omega
    · exact sheetR_RI hR2 (by constructor <;> omega) (by constructor <;> omega) _ _ _
  refine REL_h h2 hS' hRf (fun k i x h7 h8 => flm_ag C s.toNat p.toNat 10 k (by simp; omega) i x) (fun k x hk => by rw [rf k x (by omega), sheetR_o R2 hk]) (fun j hj => ?_)
  have g := sheetR_h R2 s.toNat 0 10 j
  have d1 : flmM C s.toNat p.toNat 10 7 j 1 = if j = s.toNat then 0 else C 7 j 1 := by
    rw [e7]
    by_cases z : j = s.toNat
    · rw [if_pos ⟨z, rfl⟩, if_pos z]
    · rw [if_neg (fun y => z y.1), if_neg (fun y => z y.1), if_neg z]
  have d2 : flmM C s.toNat p.toNat 10 7 j 2 = if j = s.toNat then 10 else C 7 j 2 := by
    rw [e7]
    by_cases z : j = s.toNat
    · rw [if_neg (by omega), if_pos ⟨z, rfl⟩, if_pos z]
    · rw [if_neg (fun y => z y.1), if_neg (fun y => z y.1), if_neg z]
  rw [rf 47 j (by omega), rf 48 j (by omega), rf 49 j (by omega), g.1, g.2.1, g.2.2, d1, d2]
  by_cases z : j = s.toNat
  · right
    rw [if_pos z, if_pos z, if_pos z, if_pos z, if_pos z, if_neg (show ¬ (0 : Int) < 0 by omega)]
    refine ⟨by omega, rfl, rfl, rfl, fun i hi => ?_⟩
    rw [e8 10 j i (by omega), if_pos ⟨z, by omega⟩, if_pos (by omega), goW_eq h (by omega) (by omega), z]
    unfold flR
    rw [if_pos ⟨rfl, rfl, by omega, by omega⟩, show 40 * s.toNat + i - 40 * s.toNat = i by omega]
    unfold whenR
    rw [if_pos (by omega)]
  · rw [if_neg z, if_neg z, if_neg z, if_neg z, if_neg z]
    have w := hsz j hj
    rcases hSh j hj with q | ⟨a, b, c, d, e⟩
    · exact Or.inl q
    · refine Or.inr ⟨a, b, c, d, fun i hi => ?_⟩
      rw [e8 10 j i (by omega), if_neg (fun y => z y.1)]
      unfold flR
      rw [if_neg (by omega), sheetR_i, if_neg (by rw [if_neg (show ¬ (0 : Int) < 0 by omega)]; omega)]
      exact e i hi
theorem REL_film0 {C R : IM} (h : REL C R) {s p : Int} (ok : ¬ ((0 ≤ s ∧ s ≤ 3) ∧ (0 ≤ p ∧ p < R 30 0 12))) : filmM C s p = C := by
  have a3 := h.2.2.2.2.1.1
  unfold filmM
  rw [if_neg (by omega)]
theorem REL_ppl {s : Nat} (hs : s < 4) {fr : Int} (hfr : ri fr) (f : Nat) : ∀ (k : Nat) (c : Int) (C R : IM), f + k ≤ 5 → (k = 0 ∨ 0 ≤ fr) → REL C R → R 47 0 s = 1 → (pplS s fr f k c C).1 = (pplR s fr f k c R).1 ∧ REL (pplS s fr f k c C).2 (pplR s fr f k c R).2 := by
  induction f with
  | zero => intro k c C R _ _ h _; exact ⟨rfl, h⟩
  | succ f ih =>
    intro k c C R hk h0 h h47
    have hsz := h.1.2.2.2.2.2.2.2.2.1 s hs
    have hSh := h.2.2.2.2.2.2.2.2.2 s hs
    rcases hSh with ⟨a, b⟩ | ⟨a, b, cc, d, e⟩
    · exact absurd h47 (by omega)
    have f1 := hfr.1
    have f2 := hfr.2
    rw [pplS_s, pplR_s]
    by_cases z : 0 ≤ fr ∧ fr + 2 * k + 2 ≤ R 49 0 s
    · have eb : bm (fr + 2 * k) = fr + 2 * k := bm_idd (by constructor <;> omega)
      rw [if_pos z, eb, if_pos (by omega), e (fr + 2 * (k : Int)).toNat (by omega), e ((fr + 2 * (k : Int)).toNat + 1) (by omega), show 40 * s + (fr + 2 * (k : Int)).toNat = 40 * s + fr.toNat + 2 * k by omega, show 40 * s + ((fr + 2 * (k : Int)).toNat + 1) = 40 * s + fr.toNat + 2 * k + 1 by omega, manA_eq h]
      exact ih (k + 1) _ _ _ (by omega) (Or.inr z.1) (REL_man h (h.2.1 _ _ _) (h.2.1 _ _ _)) (by rw [mnI_o R _ _ (by omega) (by omega)]; exact h47)
    · have nb : ¬ (0 ≤ bm (fr + 2 * k) ∧ bm (fr + 2 * k) + 2 ≤ C 7 s 2) := by
        rcases h0 with k0 | fr0
        · subst k0
          rw [show fr + 2 * ((0 : Nat) : Int) = fr by omega, bm_idd hfr]
          omega
        · by_cases big : fr + 2 * (k : Int) < 2147483648
          · rw [bm_idd (by constructor <;> omega)]
            omega
          · unfold bm
            have e3 := Int.bmod_eq_emod (x := fr + 2 * (k : Int)) (m := 4294967296)
            rw [e3]
            split <;> omega
      rw [if_neg z, if_neg nb]
      exact ⟨rfl, h⟩
theorem peopleV_eq {C R : IM} (h : REL C R) (s sort n : Int) : peopleV C s sort n = if (0 ≤ s ∧ s ≤ 3) ∧ (0 ≤ sort ∧ sort ≤ 2) ∧ 0 ≤ n ∧ n ≤ 5 then (if R 47 0 s.toNat = 0 then -11 else if R 48 0 s.toNat = sort then 1 else -13) else -2 := by
  have hSh := h.2.2.2.2.2.2.2.2.2
  unfold peopleV
  by_cases hs : (0 ≤ s ∧ s ≤ 3) ∧ (0 ≤ sort ∧ sort ≤ 2) ∧ 0 ≤ n ∧ n ≤ 5
  · rw [if_pos hs, if_pos (by omega)]
    rcases hSh s.toNat (by omega) with ⟨a, b⟩ | ⟨a, b, c, d, e⟩
    · rw [if_pos a, if_pos b]
    · rw [if_neg a, if_neg (show ¬ R 47 0 s.toNat = 0 by omega), c]
  · rw [if_neg hs, if_neg (by omega)]
theorem REL_people {C R : IM} (h : REL C R) {s sort fr n : Int} (hfr : ri fr) (ok : ((0 ≤ s ∧ s ≤ 3) ∧ (0 ≤ sort ∧ sort ≤ 2) ∧ 0 ≤ n ∧ n ≤ 5) ∧ R 47 0 s.toNat = 1 ∧ R 48 0 s.toNat = sort) : peopleA C s sort fr n = (pplR s.toNat fr n.toNat 0 0 R).1 ∧ REL (peopleM C s sort fr n) (pplR s.toNat fr n.toNat 0 0 R).2 := by
  have hv : peopleV C s sort n = 1 := by rw [peopleV_eq h, if_pos ok.1, if_neg (by omega), if_pos ok.2.2]
  unfold peopleA peopleM
  rw [if_pos hv, if_pos hv]
  exact REL_ppl (by omega) hfr n.toNat 0 0 C R (by omega) (Or.inl rfl) h ok.2.1
theorem REL_people0 {C R : IM} (h : REL C R) {s sort fr n : Int} (ok : ¬ (((0 ≤ s ∧ s ≤ 3) ∧ (0 ≤ sort ∧ sort ≤ 2) ∧ 0 ≤ n ∧ n ≤ 5) ∧ R 47 0 s.toNat = 1 ∧ R 48 0 s.toNat = sort)) : peopleA C s sort fr n = peopleV C s sort n ∧ peopleM C s sort fr n = C := by
  have hSH := h.RC.2.2
  have hv : peopleV C s sort n ≠ 1 := fun z => by
    rw [peopleV_eq h] at z
    by_cases hs : (0 ≤ s ∧ s ≤ 3) ∧ (0 ≤ sort ∧ sort ≤ 2) ∧ 0 ≤ n ∧ n ≤ 5
    · have ha := (hSH s.toNat (by omega)).1
      rw [if_pos hs] at z
      (repeat' split at z) <;> omega
    · rw [if_neg hs] at z
      omega
  unfold peopleA peopleM
  rw [if_neg hv, if_neg hv]
  exact ⟨rfl, rfl⟩
end
section
/-! BOTH: at the start they are the same -/

def b48 : Nat → Int := fun s => ([115, 116, 105, 99, 107, 115, 32, 119, 111, 114, 100, 32, 43, 32, 102, 111, 111, 100, 32, 42, 32, 51, 32, 59, 32, 108, 97, 115, 116, 115, 32, 53, 32, 59, 32, 115, 104, 97, 109, 101, 115, 32, 49, 48, 32, 59, 32, 32] : List Int).getD s 0
theorem fst48 : fstT b48 48 48 := by unfold fstT; decide +kernel
theorem b48_in : ∀ i, i < 48 → 0 ≤ b48 i ∧ b48 i ≤ 255 := by decide +kernel
theorem ch31_lo (im : IM) (i : Nat) (hi : i < 48) : chR9 im 31 0 i = b48 i := by
  rcases (show i = 0 ∨ i = 1 ∨ i = 2 ∨ i = 3 ∨ i = 4 ∨ i = 5 ∨ i = 6 ∨ i = 7 ∨ i = 8 ∨ i = 9 ∨ i = 10 ∨ i = 11 ∨ i = 12 ∨ i = 13 ∨ i = 14 ∨ i = 15 ∨ i = 16 ∨ i = 17 ∨ i = 18 ∨ i = 19 ∨ i = 20 ∨ i = 21 ∨ i = 22 ∨ i = 23 ∨ i = 24 ∨ i = 25 ∨ i = 26 ∨ i = 27 ∨ i = 28 ∨ i = 29 ∨ i = 30 ∨ i = 31 ∨ i = 32 ∨ i = 33 ∨ i = 34 ∨ i = 35 ∨ i = 36 ∨ i = 37 ∨ i = 38 ∨ i = 39 ∨ i = 40 ∨ i = 41 ∨ i = 42 ∨ i = 43 ∨ i = 44 ∨ i = 45 ∨ i = 46 ∨ i = 47 by omega) with rfl | rfl | rfl | rfl | rfl | rfl | rfl | rfl | rfl | rfl | rfl | rfl | rfl | rfl | rfl | rfl | rfl | rfl | rfl | rfl | rfl | rfl | rfl | rfl | rfl | rfl | rfl | rfl | rfl | rfl | rfl | rfl | rfl | rfl | rfl | rfl | rfl | rfl | rfl | rfl | rfl | rfl | rfl | rfl | rfl | rfl | rfl | rfl <;> rfl
theorem ch31_hi (im : IM) (i : Nat) (hi : 48 ≤ i) : chR9 im 31 0 i = im 31 0 i := by
  have e : ∀ (f : IM) (p : Nat) (a1 a2 a3 a4 a5 a6 a7 a8 : Int), p ≤ 40 → spM f p a1 a2 a3 a4 a5 a6 a7 a8 31 0 i = f 31 0 i := by
    intro f p a1 a2 a3 a4 a5 a6 a7 a8 hp
    unfold spM
    rw [up_app, if_neg (by omega), up_app, if_neg (by omega), up_app, if_neg (by omega), up_app, if_neg (by omega), up_app, if_neg (by omega), up_app, if_neg (by omega), up_app, if_neg (by omega), up_app, if_neg (by omega)]
  unfold chR9
  rw [up_app, if_neg (by omega), up_app, if_neg (by omega), e _ 40 _ _ _ _ _ _ _ _ (by omega), e _ 32 _ _ _ _ _ _ _ _ (by omega), e _ 24 _ _ _ _ _ _ _ _ (by omega), e _ 16 _ _ _ _ _ _ _ _ (by omega), e _ 8 _ _ _ _ _ _ _ _ (by omega), e _ 0 _ _ _ _ _ _ _ _ (by omega), up_app, if_neg (by omega), up_app, if_neg (by omega)]
theorem REL_0 {im : IM} (h : ∀ k i s, 24 ≤ k → im k i s = 0) (hS0 : SC0 im) : REL (chR9 im) (chR9 im) := by
  have hlo : ∀ k i s, k < 24 → chR9 im k i s = im k i s := fun k i s hk => chR9_o (by omega) (by omega) (by omega)
  have hRI := chR9_ri hS0.1
  have hSC := SC_lo hlo hRI (SC0_SC hS0)
  have hSF := SF_lo hlo (SC0_SF hS0)
  have h30 := chR9_30 h
  have r3 : chR9 im 30 0 3 = 1 := by rw [h30]; rfl
  have r4 : chR9 im 30 0 4 = 0 := by rw [h30]; rfl
  have r6 : chR9 im 30 0 6 = 0 := by rw [h30]; rfl
  have r7 : chR9 im 30 0 7 = 0 := by rw [h30]; rfl
  have r8 : chR9 im 30 0 8 = 1024 := by rw [h30]; rfl
  have r9 : chR9 im 30 0 9 = 0 := by rw [h30]; rfl
  have r12 : chR9 im 30 0 12 = 0 := by rw [h30]; rfl
  have r46 : chR9 im 30 0 46 = -1 := by rw [h30]; rfl
  have r32 : chR9 im 32 0 0 = 48 := rfl
  have hb : agB (rowR (chR9 im) 0) b48 48 := fun i hi => by
    show chR9 im 31 0 (160 * 0 + i) = b48 i
    rw [show 160 * 0 + i = i by omega]
    exact ch31_lo im i hi
  obtain ⟨s3, s4, s5, s6, s7, s8, s9, s14, sj⟩ := hSF
  have f46 := rd_first fst46
  have f48 := rd_first fst48
  have hTX : TX b46 46 0 im := hS0.2.2.2.2.1
  refine ⟨hSC, hRI, ⟨fun i hi => ?_, fun i hi => ?_, by omega, by omega, fun t ht => ?_⟩, fun q hq => absurd hq (by omega), ⟨by omega, by omega, by omega, by omega, by omega⟩, fun p hp => absurd hp (by omega), ⟨by omega, fun t ht part hp nm => ?_⟩, ⟨by omega, fun i hi => absurd hi (by omega)⟩, Or.inl ⟨s9, r46⟩, fun j hj => Or.inl ⟨(sj j hj).1, ?_⟩⟩
  · rw [chR9_o (by omega) (by omega) (by omega), h 33 0 i (by omega)]
    omega
  · by_cases z : i < 48
    · rw [ch31_lo im i z]
      exact b48_in i z
    · rw [ch31_hi im i (by omega), h 31 0 i (by omega)]
      omega
  · have et : t = 0 := by omega
    subst et
    rw [r32]
    refine ⟨by omega, by omega, ?_⟩
    show rdF (rowR (chR9 im) 0) 48 = -1
    rw [rdF_cg hb]
    exact f48.1
  · have et : t = 0 := by omega
    subst et
    rw [tellV_congr (im := im) (im' := chR9 im) (fun s => hlo 3 0 s (by omega)) (fun s => hlo 4 0 s (by omega)), TX_tellV f46.1 hTX part hp nm]
    unfold sayR
    rw [r32]
    show clip (valT b46 46 part nm) = clip (valT (rowR (chR9 im) 0) 48 part nm)
    rw [valT_cg hb]
    have e46 := f46.2 nm
    have e48 := f48.2 nm
    rcases (show part = 0 ∨ part = 1 ∨ part = 2 by omega) with rfl | rfl | rfl
    · rw [e46.1, e48.1]
    · rw [e46.2.1, e48.2.1]
    · rw [e46.2.2, e48.2.2]
  · rw [chR9_o (by omega) (by omega) (by omega)]
    exact h 47 0 j (by omega)
/-- what REL looks at: the class's kinds of C, the reference's of R -/
theorem REL.mix {C R C' R' : IM} (h : REL C R) (hC : ∀ k i s, k < 24 → C' k i s = C k i s) (hR : ∀ k i s, 30 ≤ k → k < 51 → R' k i s = R k i s) (h1 : RI C') (h2 : RI R') : REL C' R' := by
  have h5 := h.h5
  obtain ⟨hS, hRR, hX, hA, ⟨a3, a4, a5, a6, a7⟩, hPe, hT, hTp, hK, hSh⟩ := h
  have e : ∀ s, R' 30 0 s = R 30 0 s := fun s => hR 30 0 s (by omega) (by omega)
  have c : ∀ i s, C' 18 i s = C 18 i s := fun i s => hC 18 i s (by omega)
  exact ⟨SC_lo hC h1 hS, h2, hX.same (fun s => hR _ _ _ (by omega) (by omega)) (fun s => hR _ _ _ (by omega) (by omega)) (fun s => hR _ _ _ (by omega) (by omega)) (e 3) (e 6), hA.C ⟨fun k s _ _ => hR k 0 s (by omega) (by omega), e 3, e 4, e 6, e 8, e 12⟩, ⟨by rw [c, e]; exact a3, by rw [c, e]; exact a4, by rw [c, e]; exact a5, by rw [c, e]; exact a6, by rw [c, e]; exact a7⟩, PEO_c hPe (e 12) (fun k p s _ _ _ => hC _ _ _ (by omega)) (fun k s _ _ => hR _ _ _ (by omega) (by omega)) h5.2, TXT_c hT (hC _ _ _ (by omega)) (e 3) (fun k j s _ => hC _ _ _ (by omega)) (fun k s _ _ => hR _ _ _ (by omega) (by omega)), TPE_c hTp (hC _ _ _ (by omega)) (e 6) (fun s => hC _ _ _ (by omega)) (fun s => hR _ _ _ (by omega) (by omega)), KEP_c hK (hC _ _ _ (by omega)) (Int.le_of_eq (e 12).symm) (fun k i s _ => hC _ _ _ (by omega)) (fun s _ _ => e s) (fun k s _ _ => hR _ _ _ (by omega) (by omega)) (fun p _ => hR _ _ _ (by omega) (by omega)) h5.2, SHE_c hSh (fun k j s _ => hC _ _ _ (by omega)) (fun k s _ _ => hR _ _ _ (by omega) (by omega))⟩
end
section
/-! BOTH: every call of the reference keeps it beside the class's -/
theorem lyI_ag {a b : IM} (h : agY a b) (what : Int) (p : Nat) (v : Int) : agY (lyI a what p v) (lyI b what p v) := by
  unfold lyI
  (repeat' split) <;> exact h.up rfl
theorem lyI_RI {a : IM} (h : RI a) {what v : Int} {p : Nat} (hv : ri v) : RI (lyI a what p v) := by
  unfold lyI
  (repeat' split) <;> exact RI_up h hv
theorem q_told (l : Launch) (G : GS) {C R : IM} (h : REL C R) (bt rt : Nat) (lm : IM) (p : Int) (w : Int) (hp : ri p) (hw : ri w) : Cn l (XR G) yX9_told Y_X9_told [vR 30 0, vI p, vI w] (R, rs bt rt, lm) (pI fun y m' => ∃ im2 lm2, REL (C) im2 ∧ m' = (im2, rs bt rt, lm2)) := by
  obtain ⟨hRC, h79, hSH⟩ := h.RC
  have hAG := h.2.2.2.1
  refine (c_X9_told l G R bt rt lm hRC p w hp hw).mono ?_
  rintro r m' ⟨y, hr, im2, lm2, -, hR2, ha, -, rfl⟩
  exact ⟨y, hr, im2, lm2, h.S ha.O.S hR2, rfl⟩
theorem q_foods (l : Launch) (G : GS) {C R : IM} (h : REL C R) (bt rt : Nat) (lm : IM) (p : Int) (w : Int) (g : Int) (hp : ri p) (hw : ri w) (hg : ri g) : Cn l (XR G) yX9_foods Y_X9_foods [vR 30 0, vI p, vI w, vI g] (R, rs bt rt, lm) (pI fun y m' => ∃ im2 lm2, REL (C) im2 ∧ m' = (im2, rs bt rt, lm2)) := by
  obtain ⟨hRC, h79, hSH⟩ := h.RC
  have hAG := h.2.2.2.1
  refine (c_X9_foods l G R bt rt lm hRC p w g hp hw hg).mono ?_
  rintro r m' ⟨y, hr, im2, lm2, -, hR2, ha, -, rfl⟩
  exact ⟨y, hr, im2, lm2, h.S ha.O.S hR2, rfl⟩
theorem q_kissing (l : Launch) (G : GS) {C R : IM} (h : REL C R) (bt rt : Nat) (lm : IM) (n : Int) (w : Int) (hn : ri n) (hw : ri w) : Cn l (XR G) yX9_kissing Y_X9_kissing [vR 30 0, vI n, vI w] (R, rs bt rt, lm) (pI fun y m' => ∃ im2 lm2, REL (C) im2 ∧ m' = (im2, rs bt rt, lm2)) := by
  obtain ⟨hRC, h79, hSH⟩ := h.RC
  have hAG := h.2.2.2.1
  refine (c_X9_kissing l G R bt rt lm hRC hAG h79 n w hn hw).mono ?_
  rintro r m' ⟨y, hr, im2, lm2, -, hR2, ha, -, rfl⟩
  exact ⟨y, hr, im2, lm2, h.S ha hR2, rfl⟩
theorem q_church (l : Launch) (G : GS) {C R : IM} (h : REL C R) (bt rt : Nat) (lm : IM) (n : Int) (w : Int) (hn : ri n) (hw : ri w) : Cn l (XR G) yX9_church Y_X9_church [vR 30 0, vI n, vI w] (R, rs bt rt, lm) (pI fun y m' => ∃ im2 lm2, REL (C) im2 ∧ m' = (im2, rs bt rt, lm2)) := by
  obtain ⟨hRC, h79, hSH⟩ := h.RC
  have hAG := h.2.2.2.1
  refine (c_X9_church l G R bt rt lm hRC hAG h79 n w hn hw).mono ?_
  rintro r m' ⟨y, hr, im2, lm2, -, hR2, ha, -, rfl⟩
  exact ⟨y, hr, im2, lm2, h.S ha hR2, rfl⟩
theorem q_plan (l : Launch) (G : GS) {C R : IM} (h : REL C R) (bt rt : Nat) (lm : IM) (s : Int) (w : Int) (hs : ri s) (hw : ri w) : Cn l (XR G) yX9_plan Y_X9_plan [vR 30 0, vI s, vI w] (R, rs bt rt, lm) (pI fun y m' => ∃ im2 lm2, REL (C) im2 ∧ m' = (im2, rs bt rt, lm2)) := by
  obtain ⟨hRC, h79, hSH⟩ := h.RC
  have hAG := h.2.2.2.1
  refine (c_X9_plan l G R bt rt lm hRC hAG h79 hSH s w hs hw).mono ?_
  rintro r m' ⟨y, hr, im2, lm2, -, -, hR2, ha, -, rfl⟩
  exact ⟨y, hr, im2, lm2, h.S ha hR2, rfl⟩
theorem q_tells (l : Launch) (G : GS) {C R : IM} (h : REL C R) (bt rt : Nat) (lm : IM) (s : Int) (p : Int) (w : Int) (hs : ri s) (hp : ri p) (hw : ri w) : Cn l (XR G) yX9_tells Y_X9_tells [vR 30 0, vI s, vI p, vI w] (R, rs bt rt, lm) (pI fun y m' => ∃ im2 lm2, REL (C) im2 ∧ m' = (im2, rs bt rt, lm2)) := by
  obtain ⟨hRC, h79, hSH⟩ := h.RC
  have hAG := h.2.2.2.1
  refine (c_X9_tells l G R bt rt lm hRC hAG h79 hSH s p w hs hp hw).mono ?_
  rintro r m' ⟨y, hr, -, im2, lm2, hR2, ha, -, rfl⟩
  exact ⟨y, hr, im2, lm2, h.S ha hR2, rfl⟩
theorem q_drawn (l : Launch) (G : GS) {C R : IM} (h : REL C R) (bt rt : Nat) (lm : IM) (p : Int) (s : Int) (n : Int) (hp : ri p) (hs : ri s) (hn : ri n) : Cn l (XR G) yX9_drawn Y_X9_drawn [vR 30 0, vI p, vI s, vI n] (R, rs bt rt, lm) (pI fun y m' => ∃ im2 lm2, REL (C) im2 ∧ m' = (im2, rs bt rt, lm2)) := by
  obtain ⟨hRC, h79, hSH⟩ := h.RC
  have hAG := h.2.2.2.1
  refine (c_X9_drawn l G R bt rt lm hRC p s n hp hs hn).mono ?_
  rintro r m' ⟨y, hr, im2, lm2, -, hR2, ha, -, rfl⟩
  exact ⟨y, hr, im2, lm2, h.S ha hR2, rfl⟩
theorem q_chance (l : Launch) (G : GS) {C R : IM} (h : REL C R) (bt rt : Nat) (lm : IM) (p : Int) (s : Int) (n : Int) (w : Int) (hp : ri p) (hs : ri s) (hn : ri n) (hw : ri w) : Cn l (XR G) yX9_chance Y_X9_chance [vR 30 0, vI p, vI s, vI n, vI w] (R, rs bt rt, lm) (pL fun y m' => ∃ im2 lm2, REL (C) im2 ∧ m' = (im2, rs bt rt, lm2)) := by
  obtain ⟨hRC, h79, hSH⟩ := h.RC
  have hAG := h.2.2.2.1
  refine (c_X9_chance l G R bt rt lm hRC p s n w hp hs hn hw).mono ?_
  rintro r m' ⟨y, hr, im2, lm2, -, hR2, ha, -, rfl⟩
  exact ⟨y, hr, im2, lm2, h.S ha hR2, rfl⟩
theorem q_run (l : Launch) (G : GS) {C R : IM} (h : REL C R) (bt rt : Nat) (lm : IM) (n : Int) (w : Int) (hn : ri n) (hw : ri w) : Cn l (XR G) yX9_run Y_X9_run [vR 30 0, vI n, vI w] (R, rs bt rt, lm) (pI fun y m' => ∃ im2 lm2, REL (C) im2 ∧ m' = (im2, rs bt rt, lm2)) := by
  obtain ⟨hRC, h79, hSH⟩ := h.RC
  have hAG := h.2.2.2.1
  refine (c_X9_run l G R bt rt lm hRC hAG h79 n w hn hw).mono ?_
  rintro r m' ⟨y, hr, h1, h2⟩
  by_cases ok : (0 ≤ n ∧ n ≤ 60) ∧ 0 ≤ w ∧ w ≤ 4
  · obtain ⟨im2, lm2, -, hR2, hU, -, rfl⟩ := h2 ok
    exact ⟨y, hr, im2, lm2, h.S hU.1.S hR2, rfl⟩
  · obtain ⟨-, rfl⟩ := h1 ok
    exact ⟨y, hr, R, lm, h, rfl⟩
theorem q_off (l : Launch) (G : GS) {C R : IM} (h : REL C R) (bt rt : Nat) (lm : IM) (p : Int) (g : Int) (n : Int) (hp : ri p) (hg : ri g) (hn : ri n) : Cn l (XR G) yX9_off Y_X9_off [vR 30 0, vI p, vI g, vI n] (R, rs bt rt, lm) (pI fun y m' => ∃ im2 lm2, REL (C) im2 ∧ m' = (im2, rs bt rt, lm2)) := by
  obtain ⟨hRC, h79, hSH⟩ := h.RC
  have hAG := h.2.2.2.1
  refine (c_X9_off l G R bt rt lm hRC hAG h79 p g n hp hg hn).mono ?_
  rintro r m' ⟨y, hr, h1, h2⟩
  by_cases ok : (0 ≤ p ∧ p < R 30 0 12) ∧ (0 ≤ g ∧ g ≤ 9) ∧ 0 ≤ n ∧ n ≤ 60
  · obtain ⟨im2, lm2, -, hR2, hU, -, rfl⟩ := h2 ok
    exact ⟨y, hr, im2, lm2, h.S hU.1.S hR2, rfl⟩
  · obtain ⟨-, rfl⟩ := h1 ok
    exact ⟨y, hr, R, lm, h, rfl⟩
theorem q_best (l : Launch) (G : GS) {C R : IM} (h : REL C R) (bt rt : Nat) (lm : IM) (n : Int) (w : Int) (hn : ri n) (hw : ri w) : Cn l (XR G) yX9_best Y_X9_best [vR 30 0, vI n, vI w] (R, rs bt rt, lm) (pI fun y m' => ∃ im2 lm2, REL (C) im2 ∧ m' = (im2, rs bt rt, lm2)) := by
  obtain ⟨hRC, h79, hSH⟩ := h.RC
  have hAG := h.2.2.2.1
  refine (c_X9_best l G R bt rt lm hRC hAG h79 n w hn hw).mono ?_
  rintro r m' ⟨y, hr, h1, h2⟩
  by_cases ok : (0 ≤ n ∧ n ≤ 60) ∧ 0 ≤ w ∧ w ≤ 1
  · obtain ⟨im2, lm2, -, hR2, hU, -, rfl⟩ := h2 ok
    exact ⟨y, hr, im2, lm2, h.S hU.1.S hR2, rfl⟩
  · obtain ⟨-, rfl⟩ := h1 ok
    exact ⟨y, hr, R, lm, h, rfl⟩
theorem q_few (l : Launch) (G : GS) {C R : IM} (h : REL C R) (bt rt : Nat) (lm : IM) (p : Int) (n : Int) (e : Int) (hp : ri p) (hn : ri n) (he : ri e) : Cn l (XR G) yX9_few Y_X9_few [vR 30 0, vI p, vI n, vI e] (R, rs bt rt, lm) (pI fun y m' => ∃ im2 lm2, REL (C) im2 ∧ m' = (im2, rs bt rt, lm2)) := by
  obtain ⟨hRC, h79, hSH⟩ := h.RC
  have hAG := h.2.2.2.1
  refine (c_X9_few l G R bt rt lm hRC hAG h79 p n e hp hn he).mono ?_
  rintro r m' ⟨y, hr, h1, h2⟩
  by_cases ok : (0 ≤ p ∧ p < R 30 0 12) ∧ (0 ≤ n ∧ n ≤ 60) ∧ 0 ≤ e ∧ e ≤ 9999
  · obtain ⟨im2, lm2, -, hR2, hU, -, rfl⟩ := h2 ok
    exact ⟨y, hr, im2, lm2, h.S hU.1.S hR2, rfl⟩
  · obtain ⟨-, rfl⟩ := h1 ok
    exact ⟨y, hr, R, lm, h, rfl⟩
theorem q_count (l : Launch) (G : GS) {C R : IM} (h : REL C R) (bt rt : Nat) (lm : IM) (w : Int) (hw : ri w) : Cn l (XR G) yX9_count Y_X9_count [vR 30 0, vI w] (R, rs bt rt, lm) (pI fun y m' => ∃ im2 lm2, REL (C) im2 ∧ m' = (im2, rs bt rt, lm2)) := by
  obtain ⟨hRC, h79, hSH⟩ := h.RC
  have hAG := h.2.2.2.1
  refine (c_X9_count l G R bt rt lm hRC w hw).mono ?_
  rintro r m' ⟨y, hr, -, rfl⟩
  exact ⟨y, hr, R, lm, h, rfl⟩
theorem q_set (l : Launch) (G : GS) {C R : IM} (h : REL C R) (bt rt : Nat) (lm : IM) (w : Int) (p : Int) (v : Int) (hw : ri w) (hp : ri p) (hv : ri v) : Cn l (XR G) yX9_set Y_X9_set [vR 30 0, vI w, vI p, vI v] (R, rs bt rt, lm) (pI fun y m' => ∃ im2 lm2, REL (setM C w p v) im2 ∧ m' = (im2, rs bt rt, lm2)) := by
  obtain ⟨hRC, h79, hSH⟩ := h.RC
  have hAG := h.2.2.2.1
  refine (c_X9_set l G R bt rt lm hRC w p v hw hp hv).mono ?_
  rintro r m' ⟨y, hr, h1, h2⟩
  by_cases ok : (w = 0 ∧ 0 ≤ v ∧ v ≤ 999) ∨ (w = 1 ∧ 0 ≤ v ∧ v ≤ 16777215) ∨ (w = 2 ∧ (0 ≤ p ∧ p < R 30 0 12) ∧ 0 ≤ v ∧ v ≤ 9)
  · obtain ⟨im2, lm2, -, hR2, ha, -, rfl⟩ := h2 ok
    exact ⟨y, hr, _, lm2, (REL_set h hv ok).S (lyI_ag ha w p.toNat v).O.S (lyI_RI hR2 hv), rfl⟩
  · obtain ⟨-, rfl⟩ := h1 ok
    exact ⟨y, hr, R, lm, by rw [REL_set0 h ok]; exact h, rfl⟩
theorem q_man (l : Launch) (G : GS) {C R : IM} (h : REL C R) (bt rt : Nat) (lm : IM) (a : Int) (c : Int) (ha : ri a) (hc : ri c) : Cn l (XR G) yX9_man Y_X9_man [vR 30 0, vI a, vI c] (R, rs bt rt, lm) (pI fun y m' => ∃ im2 lm2, REL (manM C a c) im2 ∧ m' = (im2, rs bt rt, lm2)) := by
  obtain ⟨hRC, h79, hSH⟩ := h.RC
  have hAG := h.2.2.2.1
  refine (c_manR l G R bt rt lm hRC a c ha hc).mono ?_
  rintro r m' ⟨y, hr, -, rfl⟩
  exact ⟨y, hr, _, lm, REL_man h ha hc, rfl⟩
theorem q_fill (l : Launch) (G : GS) {C R : IM} (h : REL C R) (bt rt : Nat) (lm : IM) (p : Int) (g : Int) (w : Int) (r0 : Int) (hp : ri p) (hg : ri g) (hw : ri w) (hr0 : ri r0) : Cn l (XR G) yX9_fill Y_X9_fill [vR 30 0, vI p, vI g, vI w, vI r0] (R, rs bt rt, lm) (pI fun y m' => ∃ im2 lm2, REL (fillM C p g w r0) im2 ∧ m' = (im2, rs bt rt, lm2)) := by
  obtain ⟨hRC, h79, hSH⟩ := h.RC
  have hAG := h.2.2.2.1
  refine (c_X9_fill l G R bt rt lm hRC p g w r0 hp hg hw hr0).mono ?_
  rintro r m' ⟨y, hr, h1, h2⟩
  by_cases ok : (0 ≤ p ∧ p < R 30 0 12) ∧ (0 ≤ g ∧ g ≤ 9) ∧ (-1 ≤ w ∧ w ≤ 15) ∧ 0 ≤ r0 ∧ r0 ≤ 999
  · obtain ⟨-, rfl⟩ := h2 ok
    exact ⟨y, hr, _, lm, REL_fill h ok, rfl⟩
  · obtain ⟨-, rfl⟩ := h1 ok
    exact ⟨y, hr, R, lm, by rw [REL_fill0 h ok]; exact h, rfl⟩
theorem q_floss (l : Launch) (G : GS) {C R : IM} (h : REL C R) (bt rt : Nat) (lm : IM) (p : Int) (g : Int) (hp : ri p) (hg : ri g) : Cn l (XR G) yX9_floss Y_X9_floss [vR 30 0, vI p, vI g] (R, rs bt rt, lm) (pI fun y m' => ∃ im2 lm2, REL (flossM C p g) im2 ∧ m' = (im2, rs bt rt, lm2)) := by
  obtain ⟨hRC, h79, hSH⟩ := h.RC
  have hAG := h.2.2.2.1
  refine (c_X9_floss l G R bt rt lm hRC p g hp hg).mono ?_
  rintro r m' ⟨y, hr, h2, h1⟩
  by_cases ok : (0 ≤ p ∧ p < R 30 0 12) ∧ (0 ≤ g ∧ g ≤ 9)
  · obtain ⟨-, rfl⟩ := h2 ok
    exact ⟨y, hr, _, lm, REL_floss h ok, rfl⟩
  · obtain ⟨-, rfl⟩ := h1 ok
    exact ⟨y, hr, R, lm, by rw [REL_floss0 h ok]; exact h, rfl⟩
theorem q_kiss (l : Launch) (G : GS) {C R : IM} (h : REL C R) (bt rt : Nat) (lm : IM) (p : Int) (q : Int) (hp : ri p) (hq : ri q) : Cn l (XR G) yX9_kiss Y_X9_kiss [vR 30 0, vI p, vI q] (R, rs bt rt, lm) (pI fun y m' => ∃ im2 lm2, REL (kissM C p q) im2 ∧ m' = (im2, rs bt rt, lm2)) := by
  obtain ⟨hRC, h79, hSH⟩ := h.RC
  have hAG := h.2.2.2.1
  refine (c_X9_kiss l G R bt rt lm hRC p q hp hq).mono ?_
  rintro r m' ⟨y, hr, h2, h1⟩
  by_cases ok : (0 ≤ p ∧ p < R 30 0 12) ∧ (0 ≤ q ∧ q < R 30 0 12) ∧ p ≠ q
  · obtain ⟨-, rfl⟩ := h2 ok
    exact ⟨y, hr, _, lm, REL_kiss h ok, rfl⟩
  · obtain ⟨-, rfl⟩ := h1 ok
    exact ⟨y, hr, R, lm, by rw [REL_kiss0 h ok]; exact h, rfl⟩
theorem q_force (l : Launch) (G : GS) {C R : IM} (h : REL C R) (bt rt : Nat) (lm : IM) (t : Int) (ht : ri t) : Cn l (XR G) yX9_force Y_X9_force [vR 30 0, vI t] (R, rs bt rt, lm) (pI fun y m' => ∃ im2 lm2, REL (forceM C t) im2 ∧ m' = (im2, rs bt rt, lm2)) := by
  obtain ⟨hRC, h79, hSH⟩ := h.RC
  have hAG := h.2.2.2.1
  refine (c_X9_force l G R bt rt lm hRC t ht).mono ?_
  rintro r m' ⟨y, hr, h2, h1⟩
  by_cases ok : 0 ≤ t ∧ t < R 30 0 3
  · obtain ⟨-, rfl⟩ := h2 ok
    exact ⟨y, hr, _, lm, REL_force h ok, rfl⟩
  · obtain ⟨-, rfl⟩ := h1 ok
    exact ⟨y, hr, R, lm, by rw [REL_force0 h ok]; exact h, rfl⟩
theorem q_feed (l : Launch) (G : GS) {C R : IM} (h : REL C R) (bt rt : Nat) (lm : IM) (c : Int) (hc : ri c) : Cn l (XR G) yX9_feed Y_X9_feed [vR 30 0, vI c] (R, rs bt rt, lm) (pI fun y m' => ∃ im2 lm2, REL (feedM C c) im2 ∧ m' = (im2, rs bt rt, lm2)) := by
  obtain ⟨hRC, h79, hSH⟩ := h.RC
  have hAG := h.2.2.2.1
  refine (c_X9_feed l G R bt rt lm hRC c hc).mono ?_
  rintro r m' ⟨y, hr, h1, h2, h3⟩
  by_cases ok : 0 ≤ c ∧ c ≤ 255
  · by_cases h6 : R 30 0 6 = 160
    · obtain ⟨-, rfl⟩ := h2 ok h6
      exact ⟨y, hr, R, lm, by rw [REL_feed0 h (fun z => z.2 h6)]; exact h, rfl⟩
    · obtain ⟨-, rfl⟩ := h3 ok h6
      exact ⟨y, hr, _, lm, REL_feed h ok h6, rfl⟩
  · obtain ⟨-, rfl⟩ := h1 ok
    exact ⟨y, hr, R, lm, by rw [REL_feed0 h (fun z => ok z.1)]; exact h, rfl⟩
theorem q_say (l : Launch) (G : GS) {C R : IM} (h : REL C R) (bt rt : Nat) (lm : IM) (p : Int) (w : Int) (f : Int) (hp : ri p) (hw : ri w) (hf : ri f) : Cn l (XR G) yX9_say Y_X9_say [vR 30 0, vI p, vI w, vI f] (R, rs bt rt, lm) (pI fun y m' => ∃ im2 lm2, REL (sayM C p w f) im2 ∧ m' = (im2, rs bt rt, lm2)) := by
  obtain ⟨hRC, h79, hSH⟩ := h.RC
  have hAG := h.2.2.2.1
  refine (c_X9_say l G R bt rt lm hRC p w f hp hw hf).mono ?_
  rintro r m' ⟨y, hr, im2, lm2, hR2, ha, -, h2, h1⟩
  by_cases ok : (0 ≤ p ∧ p < R 30 0 12) ∧ (0 ≤ w ∧ w ≤ 15) ∧ (0 ≤ f ∧ f ≤ 9)
  · obtain ⟨-, rfl⟩ := h2 ok
    exact ⟨y, hr, _, lm2, REL_say h ha hR2 ok, rfl⟩
  · obtain ⟨-, rfl⟩ := h1 ok
    exact ⟨y, hr, R, lm, by rw [REL_say0 h ok]; exact h, rfl⟩
theorem q_text (l : Launch) (G : GS) {C R : IM} (h : REL C R) (bt rt : Nat) (lm : IM) {F : IM} (hF : textR C F) (hRF : RI F) : Cn l (XR G) yX9_text Y_X9_text [vR 30 0] (R, rs bt rt, lm) (pI fun y m' => ∃ im2 lm2, REL (F) im2 ∧ m' = (im2, rs bt rt, lm2)) := by
  obtain ⟨hRC, h79, hSH⟩ := h.RC
  have hAG := h.2.2.2.1
  refine (c_X9_text l G R bt rt lm hRC).mono ?_
  rintro r m' ⟨y, hr, h1, h2⟩
  by_cases h3 : R 30 0 3 = 6
  · obtain ⟨-, rfl⟩ := h1 h3
    exact ⟨y, hr, R, lm, by rw [REL_text6 h hF h3]; exact h, rfl⟩
  · obtain ⟨im2, lm2, hR2, ha, -, g1, g2⟩ := h2 h3
    by_cases hf : rdF (txB R) (R 30 0 6).toNat = -1
    · obtain ⟨-, rfl⟩ := g1 hf
      exact ⟨y, hr, _, lm2, REL_text h hF hRF h3 ha (RC_text1 hRC h3 hf hR2 ha) (R 30 0 3 + 1) (Or.inr ⟨rfl, hf⟩) (fun k s z => by rw [up_app, if_neg (fun q => z ⟨q.1, q.2.2⟩)]) (by rw [up_app, if_pos ⟨rfl, rfl, rfl⟩]), rfl⟩
    · obtain ⟨-, rfl⟩ := g2 hf
      exact ⟨y, hr, im2, lm2, REL_text h hF hRF h3 ha (RC_text0 hRC hR2 ha) (R 30 0 3) (Or.inl ⟨rfl, hf⟩) (fun k s z => rfl) (by rw [ha 30 0 3 (by omega)]; rfl), rfl⟩
theorem q_live (l : Launch) (G : GS) {C R : IM} (h : REL C R) (bt rt : Nat) (lm : IM) : Cn l (XR G) yX9_live Y_X9_live [vR 30 0] (R, rs bt rt, lm) (pI fun y m' => ∃ im2 lm2, REL (liveM C) im2 ∧ m' = (im2, rs bt rt, lm2)) := by
  obtain ⟨hRC, h79, hSH⟩ := h.RC
  have hAG := h.2.2.2.1
  refine (c_X9_live l G R bt rt lm hRC hAG).mono ?_
  rintro r m' ⟨y, hr, h1, h2⟩
  by_cases h9 : R 30 0 7 = 999
  · obtain ⟨-, rfl⟩ := h1 h9
    exact ⟨y, hr, R, lm, by rw [REL_live0 h h9]; exact h, rfl⟩
  · obtain ⟨im2, lm2, -, hR2, ha, -, rfl⟩ := h2 h9
    exact ⟨y, hr, im2, lm2, REL_live h h9 hR2 ha, rfl⟩
theorem q_film (l : Launch) (G : GS) {C R : IM} (h : REL C R) (bt rt : Nat) (lm : IM) (s : Int) (p : Int) (hs : ri s) (hp : ri p) : Cn l (XR G) yX9_film Y_X9_film [vR 30 0, vI s, vI p] (R, rs bt rt, lm) (pI fun y m' => ∃ im2 lm2, REL (filmM C s p) im2 ∧ m' = (im2, rs bt rt, lm2)) := by
  obtain ⟨hRC, h79, hSH⟩ := h.RC
  have hAG := h.2.2.2.1
  refine (c_X9_film l G R bt rt lm hRC hAG h79 s p hs hp).mono ?_
  rintro r m' ⟨y, hr, h1, h2⟩
  by_cases ok : ((0 : Int) ≤ s ∧ (s : Int) ≤ 3) ∧ ((0 : Int) ≤ p ∧ p < R 30 0 12)
  · obtain ⟨-, im2, lm2, hR2, hU, -, rfl⟩ := h2 ok
    exact ⟨y, hr, _, lm2, REL_film h ok hR2 hU.1.S, rfl⟩
  · obtain ⟨-, rfl⟩ := h1 ok
    exact ⟨y, hr, R, lm, by rw [REL_film0 h ok]; exact h, rfl⟩
theorem q_image (l : Launch) (G : GS) {C R : IM} (h : REL C R) (bt rt : Nat) (lm : IM) : Cn l (XR G) yX9_image Y_X9_image [vR 30 0] (R, rs bt rt, lm) (pI fun y m' => ∃ im2 lm2, REL (imageM C) im2 ∧ m' = (im2, rs bt rt, lm2)) := by
  obtain ⟨hRC, h79, hSH⟩ := h.RC
  have hAG := h.2.2.2.1
  refine (c_X9_image l G R bt rt lm hRC.1).mono ?_
  rintro r m' ⟨y, hr, -, rfl⟩
  exact ⟨y, hr, _, lm, REL_image h, rfl⟩
theorem q_back (l : Launch) (G : GS) {C R : IM} (h : REL C R) (bt rt : Nat) (lm : IM) : Cn l (XR G) yX9_back Y_X9_back [vR 30 0] (R, rs bt rt, lm) (pI fun y m' => ∃ im2 lm2, REL (backM C) im2 ∧ m' = (im2, rs bt rt, lm2)) := by
  obtain ⟨hRC, h79, hSH⟩ := h.RC
  have hAG := h.2.2.2.1
  refine (c_X9_back l G R bt rt lm hRC.1).mono ?_
  rintro r m' ⟨y, hr, h1, h2⟩
  by_cases hk : R 30 0 46 = -1
  · obtain ⟨-, rfl⟩ := h1 hk
    exact ⟨y, hr, R, lm, by rw [REL_back0 h hk]; exact h, rfl⟩
  · obtain ⟨-, rfl⟩ := h2 hk
    exact ⟨y, hr, _, lm, REL_back h hk, rfl⟩
theorem q_sheet (l : Launch) (G : GS) {C R : IM} (h : REL C R) (bt rt : Nat) (lm : IM) (s : Int) (t : Int) (n : Int) (hs : ri s) (ht : ri t) (hn : ri n) : Cn l (XR G) yX9_sheet Y_X9_sheet [vR 30 0, vI s, vI t, vI n] (R, rs bt rt, lm) (pI fun y m' => ∃ im2 lm2, REL (sheetM C s t n) im2 ∧ y = sheetA s t n ∧ m' = (im2, rs bt rt, lm2)) := by
  obtain ⟨hRC, h79, hSH⟩ := h.RC
  have hAG := h.2.2.2.1
  refine (c_X9_sheet l G R bt rt lm s t n hs ht hn).mono ?_
  rintro r m' ⟨y, hr, h1, h2⟩
  rw [sheetA_eq]
  by_cases o1 : ¬ (((0 : Int) ≤ s ∧ (s : Int) ≤ 3) ∧ (-1 ≤ t ∧ t ≤ 2)) ∨ (0 ≤ t ∧ 40 < n)
  · obtain ⟨e, rfl⟩ := h1 o1
    rw [if_pos o1]
    exact ⟨y, hr, R, lm, by rw [REL_sheet0 (by omega)]; exact h, e, rfl⟩
  · have h3 := h2 (by omega) (by omega)
    rw [if_neg o1]
    by_cases o2 : 0 ≤ t ∧ n < 0
    · obtain ⟨e, rfl⟩ := h3.1 o2
      rw [if_pos o2]
      exact ⟨y, hr, R, lm, by rw [REL_sheet0 (by omega)]; exact h, e, rfl⟩
    · obtain ⟨e, rfl⟩ := h3.2 o2
      rw [if_neg o2]
      exact ⟨y, hr, _, lm, REL_sheet h ht hn (by omega), e, rfl⟩
theorem q_cell (l : Launch) (G : GS) {C R : IM} (h : REL C R) (bt rt : Nat) (lm : IM) (s : Int) (i : Int) (v : Int) (hs : ri s) (hi : ri i) (hv : ri v) : Cn l (XR G) yX9_cell Y_X9_cell [vR 30 0, vI s, vI i, vI v] (R, rs bt rt, lm) (pI fun y m' => ∃ im2 lm2, REL (cellM C s i v) im2 ∧ m' = (im2, rs bt rt, lm2)) := by
  obtain ⟨hRC, h79, hSH⟩ := h.RC
  have hAG := h.2.2.2.1
  refine (c_X9_cell l G R bt rt lm hRC.1 hSH s i v hs hi hv).mono ?_
  rintro r m' ⟨y, hr, h1, h2⟩
  by_cases o1 : (0 : Int) ≤ s ∧ (s : Int) ≤ 3
  · have h3 := h2 o1
    have hj := (hSH s.toNat (by omega)).1
    by_cases o2 : R 47 0 s.toNat = 1
    · by_cases o3 : 0 ≤ i ∧ i < R 49 0 s.toNat
      · obtain ⟨-, rfl⟩ := h3.2.2 o2 o3
        exact ⟨y, hr, _, lm, REL_cell h hv ⟨o1, o2, o3⟩, rfl⟩
      · obtain ⟨-, rfl⟩ := h3.2.1 o2 o3
        exact ⟨y, hr, R, lm, by rw [REL_cell0 h (fun z => o3 z.2.2)]; exact h, rfl⟩
    · obtain ⟨-, rfl⟩ := h3.1 (by omega)
      exact ⟨y, hr, R, lm, by rw [REL_cell0 h (fun z => o2 z.2.1)]; exact h, rfl⟩
  · obtain ⟨-, rfl⟩ := h1 o1
    exact ⟨y, hr, R, lm, by rw [REL_cell0 h (fun z => o1 z.1)]; exact h, rfl⟩
theorem q_copy (l : Launch) (G : GS) {C R : IM} (h : REL C R) (bt rt : Nat) (lm : IM) (a : Int) (i : Int) (b : Int) (j : Int) (n : Int) (ha : ri a) (hi : ri i) (hb : ri b) (hj : ri j) (hn : ri n) : Cn l (XR G) yX9_copy Y_X9_copy [vR 30 0, vI a, vI i, vI b, vI j, vI n] (R, rs bt rt, lm) (pI fun y m' => ∃ im2 lm2, REL (copyM C a i b j n) im2 ∧ m' = (im2, rs bt rt, lm2)) := by
  obtain ⟨hRC, h79, hSH⟩ := h.RC
  have hAG := h.2.2.2.1
  refine (c_X9_copy l G R bt rt lm hRC.1 hSH a i b j n ha hi hb hj hn).mono ?_
  rintro r m' ⟨y, hr, h1, h2⟩
  by_cases o1 : ((0 : Int) ≤ a ∧ (a : Int) ≤ 3) ∧ (0 : Int) ≤ b ∧ (b : Int) ≤ 3
  · have h3 := h2 o1
    have ja := (hSH a.toNat (by omega)).1
    have jb := (hSH b.toNat (by omega)).1
    by_cases o2 : R 47 0 a.toNat = 0 ∨ R 47 0 b.toNat = 0
    · obtain ⟨-, rfl⟩ := h3.1 o2
      exact ⟨y, hr, R, lm, by rw [REL_copy0 h (by omega)]; exact h, rfl⟩
    · have h4 := h3.2 (by omega) (by omega)
      by_cases o3 : R 48 0 a.toNat = R 48 0 b.toNat
      · have h5 := h4.2 o3
        by_cases o4 : ((0 : Int) ≤ i ∧ (0 : Int) ≤ n ∧ (i : Int) + (n : Int) ≤ R 49 0 (Int.toNat a)) ∧ (0 : Int) ≤ j ∧ (0 : Int) ≤ n ∧ (j : Int) + (n : Int) ≤ R 49 0 (Int.toNat b)
        · obtain ⟨-, rfl⟩ := h5.2 o4
          exact ⟨y, hr, _, lm, REL_copy h ⟨o1, by omega, o3, o4⟩, rfl⟩
        · obtain ⟨-, rfl⟩ := h5.1 o4
          exact ⟨y, hr, R, lm, by rw [REL_copy0 h (fun z => o4 z.2.2.2)]; exact h, rfl⟩
      · obtain ⟨-, rfl⟩ := h4.1 o3
        exact ⟨y, hr, R, lm, by rw [REL_copy0 h (fun z => o3 z.2.2.1)]; exact h, rfl⟩
  · obtain ⟨-, rfl⟩ := h1 o1
    exact ⟨y, hr, R, lm, by rw [REL_copy0 h (fun z => o1 z.1)]; exact h, rfl⟩
theorem q_people (l : Launch) (G : GS) {C R : IM} (h : REL C R) (bt rt : Nat) (lm : IM) (s : Int) (t : Int) (f : Int) (n : Int) (hs : ri s) (ht : ri t) (hf : ri f) (hn : ri n) : Cn l (XR G) yX9_people Y_X9_people [vR 30 0, vI s, vI t, vI f, vI n] (R, rs bt rt, lm) (pI fun y m' => ∃ im2 lm2, REL (peopleM C s t f n) im2 ∧ m' = (im2, rs bt rt, lm2)) := by
  obtain ⟨hRC, h79, hSH⟩ := h.RC
  have hAG := h.2.2.2.1
  refine (c_X9_people l G R bt rt lm hRC hSH s t f n hs ht hf hn).mono ?_
  rintro r m' ⟨y, hr, h1, h2⟩
  by_cases o1 : ((0 : Int) ≤ s ∧ (s : Int) ≤ 3) ∧ (0 ≤ t ∧ t ≤ 2) ∧ (0 : Int) ≤ n ∧ (n : Int) ≤ 5
  · have h3 := h2 o1
    have js := (hSH s.toNat (by omega)).1
    by_cases o2 : R 47 0 s.toNat = 1
    · have h4 := h3.2 o2
      by_cases o3 : R 48 0 s.toNat = t
      · obtain ⟨-, rfl⟩ := h4.2 o3
        exact ⟨y, hr, _, lm, (REL_people h hf ⟨o1, o2, o3⟩).2, rfl⟩
      · obtain ⟨-, rfl⟩ := h4.1 o3
        exact ⟨y, hr, R, lm, by rw [(REL_people0 h (fun z => o3 z.2.2)).2]; exact h, rfl⟩
    · obtain ⟨-, rfl⟩ := h3.1 (by omega)
      exact ⟨y, hr, R, lm, by rw [(REL_people0 h (fun z => o2 z.2.1)).2]; exact h, rfl⟩
  · obtain ⟨-, rfl⟩ := h1 o1
    exact ⟨y, hr, R, lm, by rw [(REL_people0 h (fun z => o1 z.1)).2]; exact h, rfl⟩
end
section
/-! BOTH: the answers too -/

theorem s_taken (l : Launch) (G : GS) {C R : IM} (h : REL C R) (bt rt : Nat) (lm : IM) (p : Int) (k : Int) (hp : ri p) (hk : ri k) : Cn l (XR G) yX9_taken Y_X9_taken [vR 30 0, vI p, vI k] (R, rs bt rt, lm) (pI fun y m' => ∃ im2 lm2, REL (C) im2 ∧ (y = takenA C p k ∧ ri y) ∧ m' = (im2, rs bt rt, lm2)) := by
  obtain ⟨hRC, h79, hSH⟩ := h.RC
  have hAG := h.2.2.2.1
  have h5 := h.h5
  obtain ⟨a3, a4, a5, a6, a7⟩ := h.2.2.2.2.1
  have hRi := h.2.1
  refine (c_X9_taken l G R bt rt lm hRC p k hp hk).mono ?_
  rintro r m' ⟨y, hr, e, rfl⟩
  refine ⟨y, hr, R, lm, h, ⟨?_, by rw [e]; (repeat' split) <;> first | exact hRi _ _ _ | (constructor <;> omega)⟩, rfl⟩
  rw [e]
  unfold takenA
  by_cases o1 : 0 ≤ k ∧ k ≤ 5
  · rw [if_pos o1, if_pos (show 0 ≤ k ∧ k < 6 by omega)]
    by_cases o2 : (0 : Int) ≤ p ∧ p < R 30 0 12
    · have q := h.2.2.2.2.2.1 p.toNat (by omega)
      rw [if_pos o2, if_pos (show 0 ≤ p ∧ p < C 18 0 3 by omega), q.1, q.2.1]
    · rw [if_neg o2, if_neg (show ¬ (0 ≤ p ∧ p < C 18 0 3) by omega)]
  · rw [if_neg o1, if_neg (show ¬ (0 ≤ k ∧ k < 6) by omega)]
end
section
/-! THE LAW: what is the same for every part of the promise -/
theorem mix_C2 {im im1 lm : IM} {bt rt bt1 rt1 : Nat} : mixk pC (im1, rs bt1 rt1, lm) (im, rs bt rt, lm) = (fun k i s => if pC k = true then im1 k i s else im k i s, rs bt1 rt1, lm) := by
  refine Prod.ext rfl (Prod.ext ?_ ?_)
  · funext k i s
    show (if pC k = true then rs bt1 rt1 k i s else rs bt rt k i s) = rs bt1 rt1 k i s
    split
    · rfl
    · rename_i hk
      exact rs_hi (Nat.le_of_not_lt (fun z => hk (decide_eq_true z)))
  · funext k i s
    show (if pC k = true then lm k i s else lm k i s) = lm k i s
    split <;> rfl
def mxC (a b : IM) : IM := fun k i s => if pC k = true then a k i s else b k i s
def mxR (a b : IM) : IM := fun k i s => if pRk k = true then a k i s else b k i s
theorem mix_R2 {im im2 lm lm2 : IM} {bt rt : Nat} : mixk pRk (im2, rs bt rt, lm2) (im, rs bt rt, lm) = (mxR im2 im, rs bt rt, mxR lm2 lm) := by
  refine Prod.ext rfl (Prod.ext ?_ rfl)
  funext k i s
  show (if pRk k = true then rs bt rt k i s else rs bt rt k i s) = rs bt rt k i s
  split <;> rfl
theorem mx_RI {a b : IM} (h : RI a) (h2 : RI b) : RI (mxC a b) ∧ RI (mxR a b) := by
  constructor
  · intro k i s
    unfold mxC
    split
    · exact h _ _ _
    · exact h2 _ _ _
  · intro k i s
    unfold mxR
    split
    · exact h _ _ _
    · exact h2 _ _ _
theorem REL_mid {Z im1 : IM} (h : REL Z Z) (h1 : RI im1) : REL Z (mxC im1 Z) := by
  refine h.mix (fun _ _ _ _ => rfl) (fun k i s hk hk2 => ?_) h.2.1 (mx_RI h1 h.2.1).1
  have hp : ¬ pC k = true := fun z => by have h9 : k < 24 := of_decide_eq_true z; omega
  unfold mxC
  rw [if_neg hp]
theorem REL_fin {F im1 Z im2 : IM} (h : REL F im2) (hag : agP im1 F) (h1 : RI im1) (hZ : RI Z) : REL (mxR im2 (mxC im1 Z)) (mxR im2 (mxC im1 Z)) := by
  have hR := (mx_RI h.2.1 (mx_RI h1 hZ).1).2
  refine (h.P hag h1).mix (fun k i s hk => ?_) (fun k i s hk hk2 => ?_) hR hR
  · have hp : ¬ pRk k = true := fun z => by have h9 : 30 ≤ k ∧ k < 51 := of_decide_eq_true z; omega
    have hp2 : pC k = true := decide_eq_true hk
    unfold mxR
    rw [if_neg hp]
    unfold mxC
    rw [if_pos hp2]
  · have hp : pRk k = true := decide_eq_true (show 30 ≤ k ∧ k < 51 from ⟨hk, hk2⟩)
    unfold mxR
    rw [if_pos hp]
section Law2
variable {M : MS} {G : GS} {A0 : Nat → Prop} {Y : YS} {R : Room} {Q : State → Prop} {c s : Nat} {ad : Ads} {n : Nat → Nat} {pc t : Nat} {ls : List (Option SV)} {st : List SV} {m : Mem}
theorem j_ofNat2 (L : Nat) : Int32.ofNat L = jI (L : Int) := by
  unfold jI
  first
    | rfl
    | exact (Int32.ofInt_natCast L).symm
    | simp
theorem z_slen2 {L : Nat} {xs : Nat → Int32} (F : Fg M G A0 Y) (hd : decode Y.2.1 pc = .ok (.arraylength, 1)) (hX : Sx M A0 ad L xs) (ht : t = pc + 1) (kk : Wg M G A0 Y R Q c s ad n t ls (vI (L : Int) :: st) m) : Wg M G A0 Y R Q c s ad n pc ls (vR 96 0 :: st) m := by
  subst ht
  intro H locs a hI hl
  refine va_slen F.1 F.2.1 hX.1 hX.2.1 hX.2.2 hI.2.1 hd ?_
  rw [j_ofNat2 L]
  exact kk H locs a hI hl
theorem z_sld2 {L k : Nat} {x : Int} {xs : Nat → Int32} (F : Fg M G A0 Y) (hd : decode Y.2.1 pc = .ok (.iaload, 1)) (hX : Sx M A0 ad L xs) (hk : x = (k : Int)) (hL : k < L) (hL6 : L ≤ 3072) (ht : t = pc + 1) (kk : Wg M G A0 Y R Q c s ad n t ls (vI (xs k).toInt :: st) m) : Wg M G A0 Y R Q c s ad n pc ls (vI x :: vR 96 0 :: st) m := by
  subst ht
  subst hk
  intro H locs a hI hl
  refine va_sld F.1 F.2.1 hX.1 hX.2.1 hX.2.2 hI.2.1 (i := jI (k : Int)) (j_in (by omega) (by omega) (by omega)) hd ?_
  rw [j_cl ⟨by omega, by omega⟩, Int.toNat_natCast]
  have h := kk H locs a hI hl
  rw [List.map_cons] at h
  have e : tr ad (vI (xs k).toInt) = .int (xs k) := congrArg Value.int (j_asI (xs k))
  rw [e] at h
  exact h
theorem z_popL {x : Int} (F : Fg M G A0 Y) (hd : decode Y.2.1 pc = .ok (.pop2, 1)) (ht : t = pc + 1) (k : Wg M G A0 Y R Q c s ad n t ls st m) : Wg M G A0 Y R Q c s ad n pc ls (vL x :: st) m := by
  subst ht
  intro H locs a hI hl
  exact lv_pop2_2 F.1 F.2.1 hd rfl (k H locs a hI hl)
end Law2
end
