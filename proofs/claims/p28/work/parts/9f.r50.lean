/-! BOTH: what the class holds and what the reference holds are the same -/

def PEO (C R : IM) : Prop := ∀ p : Nat, (p : Int) < R 30 0 12 → C 21 (5 * 0 + p) 0 = R 34 0 p ∧ C 21 (5 * 0 + p) 1 = R 35 0 p ∧ ∀ g, g < 10 → C 22 (5 * 0 + p) g = R 36 0 (10 * p + g) ∧ (C 22 (5 * 0 + p) g ≠ -1 → C 23 (5 * 0 + p) g = R 37 0 (10 * p + g))
def TXT (C R : IM) : Prop := C 0 0 8 = R 30 0 3 ∧ ∀ t : Nat, (t : Int) < R 30 0 3 → ∀ part, part < 3 → ∀ nm, tellV C t part nm = sayR R t part nm
def TPE (C R : IM) : Prop := C 14 0 1 = R 30 0 6 ∧ ∀ i : Nat, (i : Int) < R 30 0 6 → C 15 0 i = R 33 0 i
def KEP (C R : IM) : Prop := (C 0 0 9 = 0 ∧ R 30 0 46 = -1) ∨ (C 0 0 9 = 1 ∧ (0 ≤ R 30 0 46 ∧ R 30 0 46 ≤ R 30 0 12) ∧ (C 18 2 3 = R 30 0 46 ∧ C 18 2 4 = R 30 0 47 ∧ C 18 2 5 = R 30 0 48 ∧ C 18 2 6 = R 30 0 49 ∧ C 18 2 7 = R 30 0 50) ∧ ∀ p : Nat, (p : Int) < R 30 0 46 → C 21 (5 * 2 + p) 0 = R 34 0 p ∧ C 21 (5 * 2 + p) 1 = R 44 0 p ∧ ∀ g, g < 10 → C 22 (5 * 2 + p) g = R 45 0 (10 * p + g) ∧ (C 22 (5 * 2 + p) g ≠ -1 → C 23 (5 * 2 + p) g = R 46 0 (10 * p + g) ∧ R 46 0 (10 * p + g) ≤ 1000))
def SHE (C R : IM) : Prop := ∀ j, j < 4 → (C 7 j 1 = -1 ∧ R 47 0 j = 0) ∨ (C 7 j 1 ≠ -1 ∧ R 47 0 j = 1 ∧ R 48 0 j = C 7 j 1 ∧ R 49 0 j = C 7 j 2 ∧ ∀ i : Nat, (i : Int) < C 7 j 2 → C 8 j i = R 50 0 (40 * j + i))
def NUM (C R : IM) : Prop := C 18 0 3 = R 30 0 12 ∧ C 18 0 4 = R 30 0 7 ∧ C 18 0 5 = R 30 0 8 ∧ C 18 0 6 = R 30 0 9 ∧ C 18 0 7 = R 30 0 4
def REL (C R : IM) : Prop := SC C ∧ RI R ∧ RX R ∧ AG R 1000 ∧ NUM C R ∧ PEO C R ∧ TXT C R ∧ TPE C R ∧ KEP C R ∧ SHE C R
theorem PEO_c {C R C' R' : IM} (h : PEO C R) (e12 : R' 30 0 12 = R 30 0 12) (hC : ∀ k p s, 21 ≤ k → k ≤ 23 → p < 5 → C' k (5 * 0 + p) s = C k (5 * 0 + p) s) (hR : ∀ k s, 34 ≤ k → k ≤ 37 → R' k 0 s = R k 0 s) (h5 : R 30 0 12 ≤ 5) : PEO C' R' := by
  intro p hp
  rw [e12] at hp
  have q := h p hp
  have c := fun k s h1 h2 => hC k p s h1 h2 (by omega)
  rw [c 21 0 (by omega) (by omega), c 21 1 (by omega) (by omega), hR 34 _ (by omega) (by omega), hR 35 _ (by omega) (by omega)]
  refine ⟨q.1, q.2.1, fun g hg => ?_⟩
  rw [c 22 g (by omega) (by omega), c 23 g (by omega) (by omega), hR 36 _ (by omega) (by omega), hR 37 _ (by omega) (by omega)]
  exact q.2.2 g hg
theorem sayR_c {a b : IM} {t : Nat} (h31 : ∀ i, a 31 0 (160 * t + i) = b 31 0 (160 * t + i)) (h32 : a 32 0 t = b 32 0 t) (part : Nat) (nm : Nat → Int) : sayR a t part nm = sayR b t part nm := by
  unfold sayR
  have e31 : rowR a t = rowR b t := funext fun i => h31 i
  rw [h32, e31]
theorem TXT_c {C R C' R' : IM} (h : TXT C R) (e8 : C' 0 0 8 = C 0 0 8) (e3 : R' 30 0 3 = R 30 0 3) (hC : ∀ k j s, k = 3 ∨ k = 4 → C' k j s = C k j s) (hR : ∀ k s, 31 ≤ k → k ≤ 32 → R' k 0 s = R k 0 s) : TXT C' R' := by
  refine ⟨by rw [e8, e3]; exact h.1, fun t ht part hp nm => ?_⟩
  rw [e3] at ht
  rw [tellV_congr (fun s => hC 3 t s (Or.inl rfl)) (fun s => hC 4 t s (Or.inr rfl)), sayR_c (fun i => hR 31 _ (by omega) (by omega)) (hR 32 _ (by omega) (by omega))]
  exact h.2 t ht part hp nm
theorem TPE_c {C R C' R' : IM} (h : TPE C R) (e1 : C' 14 0 1 = C 14 0 1) (e6 : R' 30 0 6 = R 30 0 6) (hC : ∀ s, C' 15 0 s = C 15 0 s) (hR : ∀ s, R' 33 0 s = R 33 0 s) : TPE C' R' := by
  refine ⟨by rw [e1, e6]; exact h.1, fun i hi => ?_⟩
  rw [hC, hR]
  rw [e6] at hi
  exact h.2 i hi
theorem KEP_c {C R C' R' : IM} (h : KEP C R) (e9 : C' 0 0 9 = C 0 0 9) (h12 : R 30 0 12 ≤ R' 30 0 12) (hC : ∀ k i s, (k = 18 ∧ i = 2 ∧ 3 ≤ s ∧ s ≤ 7) ∨ (21 ≤ k ∧ k ≤ 23 ∧ 10 ≤ i ∧ i < 15) → C' k i s = C k i s) (hR : ∀ s, 46 ≤ s → s ≤ 50 → R' 30 0 s = R 30 0 s) (hR2 : ∀ k s, 44 ≤ k → k ≤ 46 → R' k 0 s = R k 0 s) (h34 : ∀ p : Nat, (p : Int) < R 30 0 12 → R' 34 0 p = R 34 0 p) (h5 : R 30 0 12 ≤ 5) : KEP C' R' := by
  rcases h with ⟨a, b⟩ | ⟨a, b, ⟨c1, c2, c3, c4, c5⟩, d⟩
  · exact Or.inl ⟨e9.trans a, (hR 46 (by omega) (by omega)).trans b⟩
  · refine Or.inr ⟨e9.trans a, by rw [hR 46 (by omega) (by omega)]; omega, ⟨?_, ?_, ?_, ?_, ?_⟩, fun p hp => ?_⟩
    · rw [hC 18 2 3 (by omega), hR 46 (by omega) (by omega)]; exact c1
    · rw [hC 18 2 4 (by omega), hR 47 (by omega) (by omega)]; exact c2
    · rw [hC 18 2 5 (by omega), hR 48 (by omega) (by omega)]; exact c3
    · rw [hC 18 2 6 (by omega), hR 49 (by omega) (by omega)]; exact c4
    · rw [hC 18 2 7 (by omega), hR 50 (by omega) (by omega)]; exact c5
    · rw [hR 46 (by omega) (by omega)] at hp
      have q := d p hp
      rw [hC 21 (5 * 2 + p) 0 (by omega), hC 21 (5 * 2 + p) 1 (by omega), h34 p (by omega), hR2 44 _ (by omega) (by omega)]
      refine ⟨q.1, q.2.1, fun g hg => ?_⟩
      rw [hC 22 (5 * 2 + p) g (by omega), hC 23 (5 * 2 + p) g (by omega), hR2 45 _ (by omega) (by omega), hR2 46 _ (by omega) (by omega)]
      exact q.2.2 g hg
theorem SHE_c {C R C' R' : IM} (h : SHE C R) (hC : ∀ k j s, (k = 7 ∧ (s = 1 ∨ s = 2)) ∨ k = 8 → C' k j s = C k j s) (hR : ∀ k s, 47 ≤ k → k ≤ 50 → R' k 0 s = R k 0 s) : SHE C' R' := by
  intro j hj
  rw [hC 7 j 1 (by omega), hC 7 j 2 (by omega), hR 47 j (by omega) (by omega), hR 48 j (by omega) (by omega), hR 49 j (by omega) (by omega)]
  rcases h j hj with q | ⟨a, b, c, d, e⟩
  · exact Or.inl q
  · exact Or.inr ⟨a, b, c, d, fun i hi => by rw [hC 8 j i (by omega), hR 50 _ (by omega) (by omega)]; exact e i hi⟩
theorem REL.h5 {C R : IM} (h : REL C R) : 0 ≤ R 30 0 12 ∧ R 30 0 12 ≤ 5 := by
  have w := h.1.2.1.1
  rw [h.2.2.2.2.1.1] at w
  exact w
/-- the class's cells may be others' that later calls can't tell apart -/
theorem REL.P {C R C' : IM} (h : REL C R) (hP : agP C' C) (hRI : RI C') : REL C' R := by
  have h5 := h.h5
  obtain ⟨hS, hRR, hX, hA, hN, hPe, hT, hTp, hK, hSh⟩ := h
  have e : ∀ k i s, per k i s → C' k i s = C k i s := hP.1
  have e18 : ∀ i s, i ≠ 1 → C' 18 i s = C 18 i s := fun i s hi => e 18 i s (by unfold per; omega)
  refine ⟨SC_agP hP hRI hS, hRR, hX, hA, ?_, PEO_c hPe rfl (fun k p s _ _ _ => e _ _ _ (by unfold per; omega)) (fun _ _ _ _ => rfl) h5.2, TXT_c hT (e _ _ _ (by unfold per; omega)) rfl (fun k j s _ => e _ _ _ (by unfold per; omega)) (fun _ _ _ _ => rfl), TPE_c hTp (e _ _ _ (by unfold per; omega)) rfl (fun s => e _ _ _ (by unfold per; omega)) (fun _ => rfl), KEP_c hK (e _ _ _ (by unfold per; omega)) (Int.le_refl _) (fun k i s _ => e _ _ _ (by unfold per; omega)) (fun _ _ _ => rfl) (fun _ _ _ _ => rfl) (fun _ _ => rfl) h5.2, SHE_c hSh (fun k j s _ => e _ _ _ (by unfold per; omega)) (fun _ _ _ _ => rfl)⟩
  obtain ⟨a, b, c, d, f⟩ := hN
  exact ⟨(e18 0 3 (by omega)).trans a, (e18 0 4 (by omega)).trans b, (e18 0 5 (by omega)).trans c, (e18 0 6 (by omega)).trans d, (e18 0 7 (by omega)).trans f⟩
/-- so may the reference's -/
theorem REL.S {C R R' : IM} (h : REL C R) (hP : agS R' R) (hRI : RI R') : REL C R' := by
  have h5 := h.h5
  obtain ⟨hS, hRR, hX, hA, hN, hPe, hT, hTp, hK, hSh⟩ := h
  have e : ∀ s, (s < 15 ∨ 40 < s) → R' 30 0 s = R 30 0 s := fun s hs => hP 30 s (by omega) (by omega)
  have r : ∀ k s, ¬ (38 ≤ k ∧ k ≤ 43) → k ≠ 30 → R' k 0 s = R k 0 s := fun k s h1 h2 => hP k s h1 (by omega)
  refine ⟨hS, hRI, hX.same (fun s => r _ _ (by omega) (by omega)) (fun s => r _ _ (by omega) (by omega)) (fun s => r _ _ (by omega) (by omega)) (e 3 (by omega)) (e 6 (by omega)), hA.C hP.C.1, ?_, PEO_c hPe (e 12 (by omega)) (fun _ _ _ _ _ _ => rfl) (fun k s _ _ => r _ _ (by omega) (by omega)) h5.2, TXT_c hT rfl (e 3 (by omega)) (fun _ _ _ _ => rfl) (fun k s _ _ => r _ _ (by omega) (by omega)), TPE_c hTp rfl (e 6 (by omega)) (fun _ => rfl) (fun s => r _ _ (by omega) (by omega)), KEP_c hK rfl (Int.le_of_eq (e 12 (by omega)).symm) (fun _ _ _ _ => rfl) (fun s _ _ => e s (by omega)) (fun k s _ _ => r _ _ (by omega) (by omega)) (fun p _ => r _ _ (by omega) (by omega)) h5.2, SHE_c hSh (fun _ _ _ _ => rfl) (fun k s _ _ => r _ _ (by omega) (by omega))⟩
  obtain ⟨a, b, c, d, f⟩ := hN
  exact ⟨a.trans (e 12 (by omega)).symm, b.trans (e 7 (by omega)).symm, c.trans (e 8 (by omega)).symm, d.trans (e 9 (by omega)).symm, f.trans (e 4 (by omega)).symm⟩
/-- the reference is in order then -/
theorem REL.RC {C R : IM} (h : REL C R) : RC R ∧ R 30 0 7 ≤ 999 ∧ SH R := by
  obtain ⟨hS, hRR, hX, hA, ⟨a3, a4, a5, a6, a7⟩, hPe, hT, hTp, hK, hSh⟩ := h
  obtain ⟨hR, hW, hh, htc, hru, hgt, hz, hrd, hsh, him, htp⟩ := hS
  obtain ⟨w1, w2, w3, w4, w5, w6⟩ := hW
  refine ⟨⟨hRR, hX, by rw [← a7, ← hT.1]; omega, by rw [← a3]; exact w1, by rw [← a4]; exact w2, by rw [← a5]; exact w3, fun p hp => ?_⟩, by rw [← a4]; exact hh, fun j hj => ?_⟩
  · have q := hPe p hp
    have v := w6 p (by rw [a3]; exact hp)
    unfold PI at v
    rw [q.1, q.2.1] at v
    refine ⟨v.1, v.2.1, fun g hg => ?_⟩
    have q2 := q.2.2 g hg
    have v2 := v.2.2 g hg
    rw [q2.1] at v2 q2
    refine ⟨v2.1, v2.2.1, fun z => ?_⟩
    have v3 := v2.2.2 z
    rw [q2.2 z] at v3
    exact v3
  · have s := hsh j hj
    rcases hSh j hj with ⟨a, b⟩ | ⟨a, b, c, d, e⟩
    · exact ⟨Or.inl b, fun z => absurd z (by omega)⟩
    · exact ⟨Or.inr b, fun _ => ⟨by omega, by omega⟩⟩
theorem REL.tell {C R : IM} (h : REL C R) {part : Nat} (hp : part < 3) (nm : Nat → Int) : tellV C (C 18 0 7).toNat part nm = TR R part nm := by
  have hRC := h.RC
  rw [h.2.2.2.2.1.2.2.2.2]
  exact h.2.2.2.2.2.2.1.2 _ (by have := hRC.1.2.2.1; omega) part hp nm
theorem goK_c {T T' : Nat → (Nat → Int) → Int} (hT : ∀ nm, T 1 nm = T' 1 nm) (k nb w a g h : Int) (n : Nat) : goK T k nb w a g h n = goK T' k nb w a g h n := by
  unfold goK
  split
  · rfl
  · have e : offK T k nb w a g h = offK T' k nb w a g h := by
      funext i
      unfold offK hoK
      rw [hT]
    rw [e]
theorem goW_eq {C R : IM} (h : REL C R) {p g : Nat} (hp : (p : Int) < R 30 0 12) (hg : g < 10) (n : Nat) : goesW C 0 p g n = goR R (10 * p + g) n := by
  have q := h.2.2.2.2.2.1 p hp
  have q2 := q.2.2 g hg
  have a4 := h.2.2.2.2.1.2.1
  unfold goesW goR
  rw [goK_c (T' := TR R) (fun nm => h.tell (by omega) nm), show (10 * p + g) / 10 = p by omega, show (10 * p + g) % 10 = g by omega, q.1, q.2.1, q2.1, a4]
  by_cases hw : C 22 (5 * 0 + p) g = -1
  · have hw2 : R 36 0 (10 * p + g) = -1 := by rw [← q2.1]; exact hw
    unfold goK
    rw [if_pos hw2, if_pos hw2]
  · rw [q2.2 hw]
theorem beW_eq {C R : IM} (h : REL C R) {p g : Nat} (hp : (p : Int) < R 30 0 12) (hg : g < 10) (hw : C 22 (5 * 0 + p) g ≠ -1) (x : Int) : bearsW C 0 p g x (chI (C 18 0 5) (C 18 0 4 + x)) = beT R (10 * p + g) x := by
  have q := h.2.2.2.2.2.1 p hp
  have q2 := q.2.2 g hg
  obtain ⟨a3, a4, a5, a6, a7⟩ := h.2.2.2.2.1
  unfold bearsW beT beK
  rw [h.tell (by omega), show (10 * p + g) / 10 = p by omega, show (10 * p + g) % 10 = g by omega, q.1, q.2.1, q2.2 hw, q2.1, a4, a5]
theorem when_eq {C R : IM} (h : REL C R) (n N : Nat) : whenF C 0 n N = whenR R n N := by
  unfold whenF whenR
  rw [h.2.2.2.2.1.1]
  split
  · rename_i hp
    rw [goW_eq h hp (by omega), show 10 * (N / 10) + N % 10 = N by omega]
  · rfl
theorem goes_ne {C : IM} {w p g n : Nat} (h : goesW C w p g n ≠ -1) : C 22 (5 * w + p) g ≠ -1 := by
  intro z
  exact h (by unfold goesW goK; rw [if_pos z])
theorem cost_eq {C R : IM} (h : REL C R) (n N : Nat) : costF C 0 n N = costR R n N := by
  unfold costF costR
  rw [when_eq h]
  split
  · rfl
  · rename_i hw
    have hp : ((N / 10 : Nat) : Int) < R 30 0 12 := Decidable.byContradiction fun y => hw (by unfold whenR; rw [if_neg y])
    have hne : C 22 (5 * 0 + N / 10) (N % 10) ≠ -1 := goes_ne (n := n) (by
      rw [goW_eq h hp (by omega), show 10 * (N / 10) + N % 10 = N by omega]
      intro z
      exact hw (by unfold whenR; rw [if_pos hp]; exact z))
    rw [beW_eq h hp (by omega) hne, show 10 * (N / 10) + N % 10 = N by omega]
theorem sum_eq {C R : IM} (h : REL C R) (n N : Nat) : sumF C 0 n N = smF (costR R n) N ∧ cntF C 0 n N = smF (cnR R n) N ∧ firstF C 0 n N = fstG (whenR R n) N := by
  induction N with
  | zero => exact ⟨rfl, rfl, rfl⟩
  | succ N ih =>
    obtain ⟨a, b, c⟩ := ih
    refine ⟨?_, ?_, ?_⟩
    · show sumF C 0 n N + costF C 0 n N = smF (costR R n) N + costR R n N
      rw [a, cost_eq h]
    · show cntF C 0 n N + (if whenF C 0 n N = -1 then 0 else 1) = smF (cnR R n) N + cnR R n N
      rw [b, when_eq h]
      rfl
    · show (if whenF C 0 n N ≠ -1 ∧ (firstF C 0 n N = -1 ∨ whenF C 0 n N < whenF C 0 n (firstF C 0 n N).toNat) then (N : Int) else firstF C 0 n N) = if whenR R n N ≠ -1 ∧ (fstG (whenR R n) N = -1 ∨ whenR R n N < whenR R n (fstG (whenR R n) N).toNat) then (N : Int) else fstG (whenR R n) N
      rw [c, when_eq h, when_eq h]
theorem cnt_eq {C R : IM} (h : REL C R) {p : Nat} (hp : (p : Int) < R 30 0 12) : cntW (C 22 (5 * 0 + p)) 10 = cntW (stR R p) 10 := cntW_c 10 fun g hg => ((h.2.2.2.2.2.1 p hp).2.2 g hg).1
theorem ut_eq {C R : IM} (h : REL C R) {p : Nat} (hp : (p : Int) < R 30 0 12) (w fd : Int) : takesW C 0 p w fd = gpR R p w fd ∧ uttW C 0 p w fd = utR R p w fd := by
  have q := h.2.2.2.2.2.1 p hp
  obtain ⟨a3, a4, a5, a6, a7⟩ := h.2.2.2.2.1
  have hv := h.RC.1.2.2.1
  have e : takesW C 0 p w fd = gpR R p w fd := by
    unfold takesW gpR nmW
    rw [h.tell (by omega), q.1, q.2.1, cnt_eq h hp, a4]
    rfl
  refine ⟨e, ?_⟩
  unfold uttW utR
  rw [e]
  by_cases h0 : 0 ≤ gpR R p w fd
  · have h9 : gpR R p w fd ≤ 9 := by
      have := takesR_in (k := R 34 0 p) (sayR_in R (R 30 0 4).toNat 0 (nmA w fd (R 30 0 7) (R 35 0 p) 0 (cntW (stR R p) 10)))
      exact this.2
    rw [(q.2.2 (gpR R p w fd).toNat (by omega)).1]
  · rw [if_neg (fun z => h0 z.1), if_neg (fun z => h0 z.1)]
