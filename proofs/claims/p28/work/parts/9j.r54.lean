/-! BOTH: the sheets, people off a sheet -/

theorem REL_h {C R C' R' : IM} (h : REL C R) (hS : SC C') (hR : RI R') (hC : ∀ k i s, k ≠ 7 → k ≠ 8 → C' k i s = C k i s) (hR2 : ∀ k s, ¬ (47 ≤ k ∧ k ≤ 50) → R' k 0 s = R k 0 s) (hSh : SHE C' R') : REL C' R' := by
  have h5 := h.h5
  obtain ⟨-, hRR, hX, hA, ⟨a3, a4, a5, a6, a7⟩, hPe, hT, hTp, hK, -⟩ := h
  have c18 : ∀ s, C' 18 0 s = C 18 0 s := fun s => hC _ _ _ (by omega) (by omega)
  have r30 : ∀ s, R' 30 0 s = R 30 0 s := fun s => hR2 _ _ (by omega)
  exact ⟨hS, hR, hX.same (fun s => hR2 _ _ (by omega)) (fun s => hR2 _ _ (by omega)) (fun s => hR2 _ _ (by omega)) (r30 3) (r30 6), hA.C ⟨fun k s _ _ => hR2 k s (by omega), r30 3, r30 4, r30 6, r30 8, r30 12⟩, ⟨by rw [c18, r30]; exact a3, by rw [c18, r30]; exact a4, by rw [c18, r30]; exact a5, by rw [c18, r30]; exact a6, by rw [c18, r30]; exact a7⟩, PEO_c hPe (r30 12) (fun k p s _ _ _ => hC _ _ _ (by omega) (by omega)) (fun k s _ _ => hR2 _ _ (by omega)) h5.2, TXT_c hT (hC _ _ _ (by omega) (by omega)) (r30 3) (fun k j s _ => hC _ _ _ (by omega) (by omega)) (fun k s _ _ => hR2 _ _ (by omega)), TPE_c hTp (hC _ _ _ (by omega) (by omega)) (r30 6) (fun s => hC _ _ _ (by omega) (by omega)) (fun s => hR2 _ _ (by omega)), KEP_c hK (hC _ _ _ (by omega) (by omega)) (Int.le_of_eq (r30 12).symm) (fun k i s _ => hC _ _ _ (by omega) (by omega)) (fun s _ _ => r30 s) (fun k s _ _ => hR2 _ _ (by omega)) (fun p _ => hR2 _ _ (by omega)) h5.2, hSh⟩
theorem sheetR_RI {R : IM} (h : RI R) {s : Nat} {sort n : Int} (hs : ri sort) (hn : ri n) : RI (sheetR R s sort n) := by
  have h3 : RI (shI3 R s sort n) := by
    unfold shI3
    refine RI_up (RI_up (RI_up h ?_) hs) hn
    split <;> (constructor <;> omega)
  intro k i x
  unfold sheetR
  rw [zeS_app]
  generalize (if sort < 0 then 0 else n.toNat) = m
  split
  · constructor <;> omega
  · exact h3 _ _ _
theorem sheetR_o (R : IM) {s : Nat} {sort n : Int} {k x : Nat} (h : ¬ (47 ≤ k ∧ k ≤ 50)) : sheetR R s sort n k 0 x = R k 0 x := by
  unfold sheetR shI3
  rw [zeS_app, if_neg (by omega), up_app, if_neg (by omega), up_app, if_neg (by omega), up_app, if_neg (by omega)]
theorem sheetR_h (R : IM) (s : Nat) (sort n : Int) (j : Nat) : sheetR R s sort n 47 0 j = (if j = s then (if sort < 0 then 0 else 1) else R 47 0 j) ∧ sheetR R s sort n 48 0 j = (if j = s then sort else R 48 0 j) ∧ sheetR R s sort n 49 0 j = (if j = s then n else R 49 0 j) := by
  unfold sheetR shI3
  refine ⟨?_, ?_, ?_⟩
  · rw [zeS_app, if_neg (by omega), up_app, if_neg (by omega), up_app, if_neg (by omega), up_app]
    by_cases z : j = s
    · rw [if_pos ⟨rfl, rfl, z⟩, if_pos z]
    · rw [if_neg (fun y => z y.2.2), if_neg z]
  · rw [zeS_app, if_neg (by omega), up_app, if_neg (by omega), up_app]
    by_cases z : j = s
    · rw [if_pos ⟨rfl, rfl, z⟩, if_pos z]
    · rw [if_neg (fun y => z y.2.2), if_neg z, up_app, if_neg (by omega)]
  · rw [zeS_app, if_neg (by omega), up_app]
    by_cases z : j = s
    · rw [if_pos ⟨rfl, rfl, z⟩, if_pos z]
    · rw [if_neg (fun y => z y.2.2), if_neg z, up_app, if_neg (by omega), up_app, if_neg (by omega)]
theorem sheetR_i (R : IM) (s : Nat) (sort n : Int) (x : Nat) : sheetR R s sort n 50 0 x = if 40 * s ≤ x ∧ x < 40 * s + (if sort < 0 then 0 else n.toNat) then 0 else R 50 0 x := by
  unfold sheetR shI3
  rw [zeS_app]
  by_cases z : 40 * s ≤ x ∧ x < 40 * s + (if sort < 0 then 0 else n.toNat)
  · rw [if_pos ⟨rfl, rfl, z.1, z.2⟩, if_pos z]
  · rw [if_neg (fun y => z ⟨y.2.2.1, y.2.2.2⟩), if_neg z, up_app, if_neg (by omega), up_app, if_neg (by omega), up_app, if_neg (by omega)]
theorem sheetA_eq (s sort n : Int) : sheetA s sort n = if ¬ (((0 : Int) ≤ s ∧ (s : Int) ≤ 3) ∧ (-1 ≤ sort ∧ sort ≤ 2)) ∨ (0 ≤ sort ∧ 40 < n) then -2 else if 0 ≤ sort ∧ n < 0 then -14 else 1 := by
  unfold sheetA
  (repeat' split) <;> first | rfl | (exfalso; omega)
theorem REL_sheet {C R : IM} (h : REL C R) {s sort n : Int} (hsort : ri sort) (hn : ri n) (ok : ((0 ≤ s ∧ s ≤ 3) ∧ (-1 ≤ sort ∧ sort ≤ 2)) ∧ ¬ (0 ≤ sort ∧ 40 < n) ∧ ¬ (0 ≤ sort ∧ n < 0)) : REL (sheetM C s sort n) (sheetR R s.toNat sort n) := by
  have hS' := SC_sheet (sheet := s) (sort := sort) (n := n) h.1
  have hSh := h.2.2.2.2.2.2.2.2.2
  have hsz := h.1.2.2.2.2.2.2.2.2.1
  have e1 : sheetM C s sort n = zr (up (up C 7 s.toNat 1 sort) 7 s.toNat 2 (if sort = -1 then 0 else n)) 8 s.toNat 40 := by
    unfold sheetM
    rw [if_pos (by rw [sheetA_eq, if_neg (by omega), if_neg (by omega)])]
  rw [e1] at hS' ⊢
  refine REL_h h hS' (sheetR_RI h.2.1 hsort hn) (fun k i x h7 h8 => by rw [zr_app, if_neg (by omega), up_app, if_neg (by omega), up_app, if_neg (by omega)]) (fun k x hk => sheetR_o R hk) (fun j hj => ?_)
  have g := sheetR_h R s.toNat sort n j
  rw [g.1, g.2.1, g.2.2]
  have c7 : ∀ x, zr (up (up C 7 s.toNat 1 sort) 7 s.toNat 2 (if sort = -1 then 0 else n)) 8 s.toNat 40 7 j x = up (up C 7 s.toNat 1 sort) 7 s.toNat 2 (if sort = -1 then 0 else n) 7 j x := fun x => by rw [zr_app, if_neg (by omega)]
  rw [c7, c7]
  by_cases z : j = s.toNat
  · subst z
    rw [if_pos rfl, if_pos rfl, if_pos rfl]
    have d1 : up (up C 7 s.toNat 1 sort) 7 s.toNat 2 (if sort = -1 then 0 else n) 7 s.toNat 1 = sort := by rw [up_app, if_neg (by omega), up_app, if_pos ⟨rfl, rfl, rfl⟩]
    have d2 : up (up C 7 s.toNat 1 sort) 7 s.toNat 2 (if sort = -1 then 0 else n) 7 s.toNat 2 = (if sort = -1 then 0 else n) := by rw [up_app, if_pos ⟨rfl, rfl, rfl⟩]
    rw [d1, d2]
    by_cases y : sort = -1
    · left
      exact ⟨y, by rw [if_pos (by omega)]⟩
    · right
      rw [if_neg (by omega), if_neg y]
      refine ⟨y, rfl, rfl, rfl, fun i hi => ?_⟩
      have em : (if sort < 0 then 0 else n.toNat) = n.toNat := if_neg (by omega)
      rw [zr_app, if_pos ⟨rfl, rfl, by omega⟩, sheetR_i, em, if_pos (by omega)]
  · rw [if_neg z, if_neg z, if_neg z]
    have d : ∀ x, up (up C 7 s.toNat 1 sort) 7 s.toNat 2 (if sort = -1 then 0 else n) 7 j x = C 7 j x := fun x => by rw [up_app, if_neg (fun y => z y.2.1), up_app, if_neg (fun y => z y.2.1)]
    rw [d, d]
    have w := hsz j hj
    rcases hSh j hj with q | ⟨a, b, c, dd, e⟩
    · exact Or.inl q
    · refine Or.inr ⟨a, b, c, dd, fun i hi => ?_⟩
      rw [zr_app, if_neg (fun y => z y.2.1), up_app, if_neg (by omega), up_app, if_neg (by omega), sheetR_i, if_neg (by split <;> omega)]
      exact e i hi
theorem REL_sheet0 {C : IM} {s sort n : Int} (ok : ¬ (((0 ≤ s ∧ s ≤ 3) ∧ (-1 ≤ sort ∧ sort ≤ 2)) ∧ ¬ (0 ≤ sort ∧ 40 < n) ∧ ¬ (0 ≤ sort ∧ n < 0))) : sheetM C s sort n = C := by
  unfold sheetM
  rw [if_neg (fun z => ?_)]
  rw [sheetA_eq] at z
  split at z
  · omega
  · split at z
    · omega
    · exact ok (by omega)
theorem cellA_eq {C R : IM} (h : REL C R) (s i : Int) : cellA C s i = if 0 ≤ s ∧ s ≤ 3 then (if R 47 0 s.toNat = 0 then -11 else if 0 ≤ i ∧ i < R 49 0 s.toNat then 1 else -12) else -2 := by
  have hSh := h.2.2.2.2.2.2.2.2.2
  unfold cellA
  by_cases hs : 0 ≤ s ∧ s ≤ 3
  · rw [if_pos hs, if_pos (by omega)]
    rcases hSh s.toNat (by omega) with ⟨a, b⟩ | ⟨a, b, c, d, e⟩
    · rw [if_pos a, if_pos b]
    · rw [if_neg a, if_neg (show ¬ R 47 0 s.toNat = 0 by omega), d]
  · rw [if_neg hs, if_neg (by omega)]
theorem REL_cell {C R : IM} (h : REL C R) {s i v : Int} (hv : ri v) (ok : (0 ≤ s ∧ s ≤ 3) ∧ R 47 0 s.toNat = 1 ∧ (0 ≤ i ∧ i < R 49 0 s.toNat)) : REL (cellM C s i v) (up R 50 0 (40 * s.toNat + i.toNat) (cutN (R 48 0 s.toNat) v)) := by
  have hS' := SC_cell (sheet := s) (i := i) h.1 hv
  have hSh := h.2.2.2.2.2.2.2.2.2
  have hsz := h.1.2.2.2.2.2.2.2.2.1
  have e1 : cellM C s i v = up C 8 s.toNat i.toNat (cutN (C 7 s.toNat 1) v) := by
    unfold cellM
    rw [if_pos (by rw [cellA_eq h, if_pos ok.1, if_neg (by omega), if_pos ok.2.2])]
  rw [e1] at hS' ⊢
  have e48 : R 48 0 s.toNat = C 7 s.toNat 1 ∧ R 49 0 s.toNat = C 7 s.toNat 2 := by
    rcases hSh s.toNat (by omega) with ⟨a, b⟩ | ⟨a, b, c, d, e⟩
    · exact absurd ok.2.1 (by omega)
    · exact ⟨c, d⟩
  refine REL_h h hS' (RI_up h.2.1 (cutN_ri hv)) (fun k j x h7 h8 => by rw [up_app, if_neg (by omega)]) (fun k x hk => by rw [up_app, if_neg (by omega)]) (fun j hj => ?_)
  have w := hsz j hj
  have ws := hsz s.toNat (by omega)
  have c7 : ∀ x, up C 8 s.toNat i.toNat (cutN (C 7 s.toNat 1) v) 7 j x = C 7 j x := fun x => by rw [up_app, if_neg (by omega)]
  have r4 : ∀ k, k < 50 → up R 50 0 (40 * s.toNat + i.toNat) (cutN (R 48 0 s.toNat) v) k 0 j = R k 0 j := fun k hk => by rw [up_app, if_neg (by omega)]
  rw [c7, c7, r4 47 (by omega), r4 48 (by omega), r4 49 (by omega)]
  rcases hSh j hj with q | ⟨a, b, c, d, e⟩
  · exact Or.inl q
  · refine Or.inr ⟨a, b, c, d, fun x hx => ?_⟩
    rw [up_app, up_app]
    by_cases z : j = s.toNat ∧ x = i.toNat
    · rw [if_pos ⟨rfl, z.1, z.2⟩, if_pos ⟨rfl, rfl, by rw [z.1, z.2]⟩, e48.1]
    · rw [if_neg (fun y => z y.2), if_neg (by omega)]
      exact e x hx
theorem REL_cell0 {C R : IM} (h : REL C R) {s i v : Int} (ok : ¬ ((0 ≤ s ∧ s ≤ 3) ∧ R 47 0 s.toNat = 1 ∧ (0 ≤ i ∧ i < R 49 0 s.toNat))) : cellM C s i v = C := by
  have hSh := h.2.2.2.2.2.2.2.2.2
  unfold cellM
  rw [if_neg (fun z => ?_)]
  rw [cellA_eq h] at z
  by_cases hs : 0 ≤ s ∧ s ≤ 3
  · rw [if_pos hs] at z
    rcases hSh s.toNat (by omega) with ⟨a, b⟩ | ⟨a, b, c, d, e⟩
    · rw [if_pos b] at z
      omega
    · rw [if_neg (by omega)] at z
      split at z <;> omega
  · rw [if_neg hs] at z
    omega
theorem copyA_eq {C R : IM} (h : REL C R) (a i b j n : Int) : copyA C a i b j n = if (0 ≤ a ∧ a ≤ 3) ∧ 0 ≤ b ∧ b ≤ 3 then (if R 47 0 a.toNat = 0 ∨ R 47 0 b.toNat = 0 then -11 else if R 48 0 a.toNat ≠ R 48 0 b.toNat then -13 else if (0 ≤ i ∧ 0 ≤ n ∧ i + n ≤ R 49 0 a.toNat) ∧ 0 ≤ j ∧ 0 ≤ n ∧ j + n ≤ R 49 0 b.toNat then n else -12) else -2 := by
  have hSh := h.2.2.2.2.2.2.2.2.2
  unfold copyA
  by_cases hs : (0 ≤ a ∧ a ≤ 3) ∧ 0 ≤ b ∧ b ≤ 3
  · rw [if_pos hs, if_pos (by omega)]
    rcases hSh a.toNat (by omega) with ⟨a1, a2⟩ | ⟨a1, a2, a3, a4, a5⟩
    · rw [if_pos (Or.inl a1), if_pos (Or.inl a2)]
    · rcases hSh b.toNat (by omega) with ⟨b1, b2⟩ | ⟨b1, b2, b3, b4, b5⟩
      · rw [if_pos (Or.inr b1), if_pos (Or.inr b2)]
      · rw [if_neg (show ¬ (C 7 a.toNat 1 = -1 ∨ C 7 b.toNat 1 = -1) by omega), if_neg (show ¬ (R 47 0 a.toNat = 0 ∨ R 47 0 b.toNat = 0) by omega), a3, b3, a4, b4]
  · rw [if_neg hs, if_neg (by omega)]
theorem REL_copy {C R : IM} (h : REL C R) {a i b j n : Int} (ok : ((0 ≤ a ∧ a ≤ 3) ∧ 0 ≤ b ∧ b ≤ 3) ∧ (R 47 0 a.toNat = 1 ∧ R 47 0 b.toNat = 1) ∧ R 48 0 a.toNat = R 48 0 b.toNat ∧ (0 ≤ i ∧ 0 ≤ n ∧ i + n ≤ R 49 0 a.toNat) ∧ 0 ≤ j ∧ 0 ≤ n ∧ j + n ≤ R 49 0 b.toNat) : REL (copyM C a i b j n) (cpy R 50 0 (40 * a.toNat + i.toNat) 50 0 (40 * b.toNat + j.toNat) n.toNat) := by
  have hS' := SC_copy (a := a) (i := i) (b := b) (j := j) (n := n) h.1
  have hSh := h.2.2.2.2.2.2.2.2.2
  have hsz := h.1.2.2.2.2.2.2.2.2.1
  have e1 : copyM C a i b j n = cpy C 8 a.toNat i.toNat 8 b.toNat j.toNat n.toNat := by
    unfold copyM
    rw [if_pos (by rw [copyA_eq h, if_pos ok.1, if_neg (by omega), if_neg (by omega), if_pos (by omega)]; omega)]
  rw [e1] at hS' ⊢
  refine REL_h h hS' (RI_cpy h.2.1) (fun k j x h7 h8 => by rw [cpy_app, if_neg (by omega)]) (fun k x hk => by rw [cpy_app, if_neg (by omega)]) (fun m hm => ?_)
  have w := hsz m hm
  have wa := hsz a.toNat (by omega)
  have wb := hsz b.toNat (by omega)
  have ha : R 49 0 a.toNat = C 7 a.toNat 2 ∧ ∀ x : Nat, (x : Int) < C 7 a.toNat 2 → C 8 a.toNat x = R 50 0 (40 * a.toNat + x) := by
    rcases hSh a.toNat (by omega) with ⟨a1, a2⟩ | ⟨a1, a2, a3, a4, a5⟩
    · exact absurd ok.2.1.1 (by omega)
    · exact ⟨a4, a5⟩
  have hb : R 49 0 b.toNat = C 7 b.toNat 2 := by
    rcases hSh b.toNat (by omega) with ⟨a1, a2⟩ | ⟨a1, a2, a3, a4, a5⟩
    · exact absurd ok.2.1.2 (by omega)
    · exact a4
  have c7 : ∀ x, cpy C 8 a.toNat i.toNat 8 b.toNat j.toNat n.toNat 7 m x = C 7 m x := fun x => by rw [cpy_app, if_neg (by omega)]
  have r4 : ∀ k, k < 50 → cpy R 50 0 (40 * a.toNat + i.toNat) 50 0 (40 * b.toNat + j.toNat) n.toNat k 0 m = R k 0 m := fun k hk => by rw [cpy_app, if_neg (by omega)]
  rw [c7, c7, r4 47 (by omega), r4 48 (by omega), r4 49 (by omega)]
  rcases hSh m hm with q | ⟨a1, a2, a3, a4, a5⟩
  · exact Or.inl q
  · refine Or.inr ⟨a1, a2, a3, a4, fun x hx => ?_⟩
    rw [cpy_app, cpy_app]
    by_cases z : m = b.toNat ∧ j.toNat ≤ x ∧ x < j.toNat + n.toNat
    · rw [if_pos ⟨rfl, z.1, z.2.1, z.2.2⟩, if_pos ⟨rfl, rfl, by omega, by omega⟩, ha.2 _ (by omega), show 40 * a.toNat + i.toNat + (40 * m + x - (40 * b.toNat + j.toNat)) = 40 * a.toNat + (i.toNat + (x - j.toNat)) by omega]
    · rw [if_neg (fun y => z y.2), if_neg (by omega)]
      exact a5 x hx
theorem REL_copy0 {C R : IM} (h : REL C R) {a i b j n : Int} (ok : ¬ (((0 ≤ a ∧ a ≤ 3) ∧ 0 ≤ b ∧ b ≤ 3) ∧ (R 47 0 a.toNat = 1 ∧ R 47 0 b.toNat = 1) ∧ R 48 0 a.toNat = R 48 0 b.toNat ∧ (0 ≤ i ∧ 0 ≤ n ∧ i + n ≤ R 49 0 a.toNat) ∧ 0 ≤ j ∧ 0 ≤ n ∧ j + n ≤ R 49 0 b.toNat)) : copyM C a i b j n = C := by
  have hSH := h.RC.2.2
  unfold copyM
  rw [if_neg (fun z => ?_)]
  rw [copyA_eq h] at z
  by_cases hs : (0 ≤ a ∧ a ≤ 3) ∧ 0 ≤ b ∧ b ≤ 3
  · rw [if_pos hs] at z
    have ha := (hSH a.toNat (by omega)).1
    have hb := (hSH b.toNat (by omega)).1
    (repeat' split at z) <;> omega
  · rw [if_neg hs] at z
    omega
theorem REL_film {C R R2 : IM} (h : REL C R) {s p : Int} (ok : (0 ≤ s ∧ s ≤ 3) ∧ (0 ≤ p ∧ p < R 30 0 12)) (hR2 : RI R2) (hU : agS R2 R) : REL (filmM C s p) (flR R (sheetR R2 s.toNat 0 10) s.toNat p.toNat 10) := by
  have hS' := SC_film (sheet := s) (man := p) h.1
  have h5 := h.h5
  have a3 := h.2.2.2.2.1.1
  have h2 := h.S hU hR2
  have hSh := h2.2.2.2.2.2.2.2.2.2
  have hsz := h.1.2.2.2.2.2.2.2.2.1
  have e1 : filmM C s p = flmM C s.toNat p.toNat 10 := by unfold filmM; rw [if_pos (by omega)]
  rw [e1] at hS' ⊢
  have e8 : ∀ g j x, g ≤ 10 → flmM C s.toNat p.toNat g 8 j x = if j = s.toNat ∧ x < 40 then (if x < g then goesW C 0 p.toNat x 60 else 0) else C 8 j x := by
    intro g
    induction g with
    | zero =>
      intro j x _
      show zr (up (up C 7 s.toNat 1 0) 7 s.toNat 2 10) 8 s.toNat 40 8 j x = _
      rw [zr_app]
      by_cases z : j = s.toNat ∧ x < 40
      · rw [if_pos ⟨rfl, z.1, z.2⟩, if_pos z, if_neg (by omega)]
      · rw [if_neg (fun y => z y.2), if_neg z, up_app, if_neg (by omega), up_app, if_neg (by omega)]
    | succ g ih =>
      intro j x hg
      show up (flmM C s.toNat p.toNat g) 8 s.toNat g (goesW C 0 p.toNat g 60) 8 j x = _
      rw [up_app, ih j x (by omega)]
      by_cases z : j = s.toNat ∧ x = g
      · rw [if_pos ⟨rfl, z.1, z.2⟩, if_pos (by omega), if_pos (by omega), z.2]
      · rw [if_neg (fun y => z y.2)]
        by_cases y : j = s.toNat ∧ x < 40
        · rw [if_pos y, if_pos y]
          by_cases v : x < g
          · rw [if_pos v, if_pos (by omega)]
          · rw [if_neg v, if_neg (by omega)]
        · rw [if_neg y, if_neg y]
  have e7 := fun j x => flm_7 C s.toNat p.toNat 10 j x
  have rf : ∀ k x, k ≠ 50 → flR R (sheetR R2 s.toNat 0 10) s.toNat p.toNat 10 k 0 x = sheetR R2 s.toNat 0 10 k 0 x := fun k x hk => by
    unfold flR
    rw [if_neg (by omega)]
  have hRf : RI (flR R (sheetR R2 s.toNat 0 10) s.toNat p.toNat 10) := by
    intro k i x
    unfold flR
    split
    · have := whenR_in R 60 (10 * p.toNat + (x - 40 * s.toNat))
      constructor <;> omega
    · exact sheetR_RI hR2 (by constructor <;> omega) (by constructor <;> omega) _ _ _
  refine REL_h h2 hS' hRf (fun k i x h7 h8 => flm_ag C s.toNat p.toNat 10 k (by simp; omega) i x) (fun k x hk => by rw [rf k x (by omega), sheetR_o R2 hk]) (fun j hj => ?_)
  have g := sheetR_h R2 s.toNat 0 10 j
  have d1 : flmM C s.toNat p.toNat 10 7 j 1 = if j = s.toNat then 0 else C 7 j 1 := by
    rw [e7]
    by_cases z : j = s.toNat
    · rw [if_pos ⟨z, rfl⟩, if_pos z]
    · rw [if_neg (fun y => z y.1), if_neg (fun y => z y.1), if_neg z]
  have d2 : flmM C s.toNat p.toNat 10 7 j 2 = if j = s.toNat then 10 else C 7 j 2 := by
    rw [e7]
    by_cases z : j = s.toNat
    · rw [if_neg (by omega), if_pos ⟨z, rfl⟩, if_pos z]
    · rw [if_neg (fun y => z y.1), if_neg (fun y => z y.1), if_neg z]
  rw [rf 47 j (by omega), rf 48 j (by omega), rf 49 j (by omega), g.1, g.2.1, g.2.2, d1, d2]
  by_cases z : j = s.toNat
  · right
    rw [if_pos z, if_pos z, if_pos z, if_pos z, if_pos z, if_neg (show ¬ (0 : Int) < 0 by omega)]
    refine ⟨by omega, rfl, rfl, rfl, fun i hi => ?_⟩
    rw [e8 10 j i (by omega), if_pos ⟨z, by omega⟩, if_pos (by omega), goW_eq h (by omega) (by omega), z]
    unfold flR
    rw [if_pos ⟨rfl, rfl, by omega, by omega⟩, show 40 * s.toNat + i - 40 * s.toNat = i by omega]
    unfold whenR
    rw [if_pos (by omega)]
  · rw [if_neg z, if_neg z, if_neg z, if_neg z, if_neg z]
    have w := hsz j hj
    rcases hSh j hj with q | ⟨a, b, c, d, e⟩
    · exact Or.inl q
    · refine Or.inr ⟨a, b, c, d, fun i hi => ?_⟩
      rw [e8 10 j i (by omega), if_neg (fun y => z y.1)]
      unfold flR
      rw [if_neg (by omega), sheetR_i, if_neg (by rw [if_neg (show ¬ (0 : Int) < 0 by omega)]; omega)]
      exact e i hi
theorem REL_film0 {C R : IM} (h : REL C R) {s p : Int} (ok : ¬ ((0 ≤ s ∧ s ≤ 3) ∧ (0 ≤ p ∧ p < R 30 0 12))) : filmM C s p = C := by
  have a3 := h.2.2.2.2.1.1
  unfold filmM
  rw [if_neg (by omega)]
theorem REL_ppl {s : Nat} (hs : s < 4) {fr : Int} (hfr : ri fr) (f : Nat) : ∀ (k : Nat) (c : Int) (C R : IM), f + k ≤ 5 → (k = 0 ∨ 0 ≤ fr) → REL C R → R 47 0 s = 1 → (pplS s fr f k c C).1 = (pplR s fr f k c R).1 ∧ REL (pplS s fr f k c C).2 (pplR s fr f k c R).2 := by
  induction f with
  | zero => intro k c C R _ _ h _; exact ⟨rfl, h⟩
  | succ f ih =>
    intro k c C R hk h0 h h47
    have hsz := h.1.2.2.2.2.2.2.2.2.1 s hs
    have hSh := h.2.2.2.2.2.2.2.2.2 s hs
    rcases hSh with ⟨a, b⟩ | ⟨a, b, cc, d, e⟩
    · exact absurd h47 (by omega)
    have f1 := hfr.1
    have f2 := hfr.2
    rw [pplS_s, pplR_s]
    by_cases z : 0 ≤ fr ∧ fr + 2 * k + 2 ≤ R 49 0 s
    · have eb : bm (fr + 2 * k) = fr + 2 * k := bm_idd (by constructor <;> omega)
      rw [if_pos z, eb, if_pos (by omega), e (fr + 2 * (k : Int)).toNat (by omega), e ((fr + 2 * (k : Int)).toNat + 1) (by omega), show 40 * s + (fr + 2 * (k : Int)).toNat = 40 * s + fr.toNat + 2 * k by omega, show 40 * s + ((fr + 2 * (k : Int)).toNat + 1) = 40 * s + fr.toNat + 2 * k + 1 by omega, manA_eq h]
      exact ih (k + 1) _ _ _ (by omega) (Or.inr z.1) (REL_man h (h.2.1 _ _ _) (h.2.1 _ _ _)) (by rw [mnI_o R _ _ (by omega) (by omega)]; exact h47)
    · have nb : ¬ (0 ≤ bm (fr + 2 * k) ∧ bm (fr + 2 * k) + 2 ≤ C 7 s 2) := by
        rcases h0 with k0 | fr0
        · subst k0
          rw [show fr + 2 * ((0 : Nat) : Int) = fr by omega, bm_idd hfr]
          omega
        · by_cases big : fr + 2 * (k : Int) < 2147483648
          · rw [bm_idd (by constructor <;> omega)]
            omega
          · unfold bm
            have e3 := Int.bmod_eq_emod (x := fr + 2 * (k : Int)) (m := 4294967296)
            rw [e3]
            split <;> omega
      rw [if_neg z, if_neg nb]
      exact ⟨rfl, h⟩
theorem peopleV_eq {C R : IM} (h : REL C R) (s sort n : Int) : peopleV C s sort n = if (0 ≤ s ∧ s ≤ 3) ∧ (0 ≤ sort ∧ sort ≤ 2) ∧ 0 ≤ n ∧ n ≤ 5 then (if R 47 0 s.toNat = 0 then -11 else if R 48 0 s.toNat = sort then 1 else -13) else -2 := by
  have hSh := h.2.2.2.2.2.2.2.2.2
  unfold peopleV
  by_cases hs : (0 ≤ s ∧ s ≤ 3) ∧ (0 ≤ sort ∧ sort ≤ 2) ∧ 0 ≤ n ∧ n ≤ 5
  · rw [if_pos hs, if_pos (by omega)]
    rcases hSh s.toNat (by omega) with ⟨a, b⟩ | ⟨a, b, c, d, e⟩
    · rw [if_pos a, if_pos b]
    · rw [if_neg a, if_neg (show ¬ R 47 0 s.toNat = 0 by omega), c]
  · rw [if_neg hs, if_neg (by omega)]
theorem REL_people {C R : IM} (h : REL C R) {s sort fr n : Int} (hfr : ri fr) (ok : ((0 ≤ s ∧ s ≤ 3) ∧ (0 ≤ sort ∧ sort ≤ 2) ∧ 0 ≤ n ∧ n ≤ 5) ∧ R 47 0 s.toNat = 1 ∧ R 48 0 s.toNat = sort) : peopleA C s sort fr n = (pplR s.toNat fr n.toNat 0 0 R).1 ∧ REL (peopleM C s sort fr n) (pplR s.toNat fr n.toNat 0 0 R).2 := by
  have hv : peopleV C s sort n = 1 := by rw [peopleV_eq h, if_pos ok.1, if_neg (by omega), if_pos ok.2.2]
  unfold peopleA peopleM
  rw [if_pos hv, if_pos hv]
  exact REL_ppl (by omega) hfr n.toNat 0 0 C R (by omega) (Or.inl rfl) h ok.2.1
theorem REL_people0 {C R : IM} (h : REL C R) {s sort fr n : Int} (ok : ¬ (((0 ≤ s ∧ s ≤ 3) ∧ (0 ≤ sort ∧ sort ≤ 2) ∧ 0 ≤ n ∧ n ≤ 5) ∧ R 47 0 s.toNat = 1 ∧ R 48 0 s.toNat = sort)) : peopleA C s sort fr n = peopleV C s sort n ∧ peopleM C s sort fr n = C := by
  have hSH := h.RC.2.2
  have hv : peopleV C s sort n ≠ 1 := fun z => by
    rw [peopleV_eq h] at z
    by_cases hs : (0 ≤ s ∧ s ≤ 3) ∧ (0 ≤ sort ∧ sort ≤ 2) ∧ 0 ≤ n ∧ n ≤ 5
    · have ha := (hSH s.toNat (by omega)).1
      rw [if_pos hs] at z
      (repeat' split at z) <;> omega
    · rw [if_neg hs] at z
      omega
  unfold peopleA peopleM
  rw [if_neg hv, if_neg hv]
  exact ⟨rfl, rfl⟩
