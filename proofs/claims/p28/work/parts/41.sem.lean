/-! WHAT THE STEPS OF A TEXT MAKE -/
theorem runS_app (f nm : Nat → Int) (a c : Nat) : ∀ (i : Nat) (q : Nat × (Nat → Int)), runS f nm i (a + c) q = runS f nm (i + a) c (runS f nm i a q) := by
  induction a with
  | zero => intro i q; rw [Nat.zero_add, Nat.add_zero]; rfl
  | succ a ih =>
    intro i q
    rw [show a + 1 + c = (a + c) + 1 by omega]
    show runS f nm (i + 1) (a + c) (stepS nm (f i) q) = runS f nm (i + (a + 1)) c (runS f nm (i + 1) a (stepS nm (f i) q))
    rw [ih, show i + 1 + a = i + (a + 1) by omega]
def EV (d : Nat) (L : List Int) (V : (Nat → Int) → Int) : Prop := ∀ (f nm : Nat → Int) (i t : Nat) (k : Nat → Int), (∀ s, s < L.length → f (i + s) = L.getD s 0) → t + d ≤ 31 → ∃ k', runS f nm i L.length (t, k) = (t + 1, k') ∧ k' t = V nm ∧ ∀ s, s < t → k' s = k s
theorem EV.le {d d2 : Nat} {L : List Int} {V : (Nat → Int) → Int} (h : EV d L V) (hd : d ≤ d2) : EV d2 L V := fun f nm i t k h1 h2 => h f nm i t k h1 (by omega)
theorem us_at (k : Nat → Int) (t : Nat) (x : Int) : us k t x t = x := if_pos rfl
theorem us_ne {k : Nat → Int} {t s : Nat} {x : Int} (h : s ≠ t) : us k t x s = k s := if_neg h
theorem EV_put {d : Nat} {s : Int} {V : (Nat → Int) → Int} (hd : 1 ≤ d) (hs : -7 < s) (hV : ∀ nm : Nat → Int, (if 0 ≤ s then s else nm (-1 - s).toNat) = V nm) : EV d [s] V := by
  intro f nm i t k h1 h2
  have e : f i = s := h1 0 Nat.zero_lt_one
  refine ⟨us k t (V nm), ?_, us_at _ _ _, fun q hq => us_ne (by omega)⟩
  show stepS nm (f i) (t, k) = _
  rw [e]
  unfold stepS
  rw [if_pos hs]
  unfold putS
  rw [if_pos (show t < 31 by omega)]
  show (t + 1, us k t (if 0 ≤ s then s else nm (-1 - s).toNat)) = _
  rw [hV]
theorem runS_1 (f nm : Nat → Int) (i : Nat) (q : Nat × (Nat → Int)) : runS f nm i 1 q = stepS nm (f i) q := rfl
theorem EV_un {d : Nat} {L : List Int} {V : (Nat → Int) → Int} {s : Int} (h : EV d L V) (hs : s = -7 ∨ s = -8) : EV d (L ++ [s]) (fun nm => un1 s (V nm)) := by
  intro f nm i t k h1 h2
  obtain ⟨k', e1, e2, e3⟩ := h f nm i t k (fun q hq => by rw [h1 q (by rw [List.length_append]; omega), List.getD_eq_getElem?_getD, List.getElem?_append_left hq, ← List.getD_eq_getElem?_getD]) h2
  have e4 : f (i + L.length) = s := by
    rw [h1 L.length (by rw [List.length_append, List.length_singleton]; omega), List.getD_eq_getElem?_getD, List.getElem?_append_right (Nat.le_refl _), Nat.sub_self]
    rfl
  refine ⟨us k' t (un1 s (V nm)), ?_, us_at _ _ _, fun q hq => (us_ne (by omega)).trans (e3 q hq)⟩
  rw [List.length_append, List.length_singleton, runS_app, e1, runS_1, e4]
  unfold stepS
  rw [if_neg (by omega), joinS_1 (by omega), e2]
theorem EV_bin {d : Nat} {L1 L2 : List Int} {V1 V2 : (Nat → Int) → Int} {s : Int} (h : EV (d + 1) L1 V1) (h2 : EV d L2 V2) (hs : s < -8) : EV (d + 1) (L1 ++ L2 ++ [s]) (fun nm => bi2 s (V1 nm) (V2 nm)) := by
  intro f nm i t k k1 k2
  have g : ∀ q, q < L1.length + L2.length + 1 → f (i + q) = (L1 ++ L2 ++ [s]).getD q 0 := fun q hq => k1 q (by rw [List.length_append, List.length_append, List.length_singleton]; omega)
  obtain ⟨ka, a1, a2, a3⟩ := h f nm i t k (fun q hq => by rw [g q (by omega), List.append_assoc, List.getD_eq_getElem?_getD, List.getElem?_append_left hq, ← List.getD_eq_getElem?_getD]) k2
  obtain ⟨kb, b1, b2, b3⟩ := h2 f nm (i + L1.length) (t + 1) ka (fun q hq => by
    rw [show i + L1.length + q = i + (L1.length + q) by omega, g _ (by omega), List.append_assoc, List.getD_eq_getElem?_getD, List.getElem?_append_right (by omega), show L1.length + q - L1.length = q by omega, List.getElem?_append_left hq, ← List.getD_eq_getElem?_getD]) (by omega)
  have e4 : f (i + L1.length + L2.length) = s := by
    rw [show i + L1.length + L2.length = i + (L1.length + L2.length) by omega, g _ (by omega), List.getD_eq_getElem?_getD, List.getElem?_append_right (by rw [List.length_append]; omega), List.length_append, Nat.sub_self]
    rfl
  refine ⟨us kb t (bi2 s (V1 nm) (V2 nm)), ?_, us_at _ _ _, fun q hq => (us_ne (by omega)).trans ((b3 q (by omega)).trans (a3 q hq))⟩
  rw [List.length_append, List.length_append, List.length_singleton, runS_app, runS_app, a1, b1, runS_1, show i + (L1.length + L2.length) = i + L1.length + L2.length by omega, e4]
  unfold stepS
  rw [if_neg (by omega), joinS_2 hs, b2, b3 t (by omega), a2]
/-- so many places of the stack are enough for what stands at any place -/
def EVP (n d : Nat) (F : Nat → PT) : Prop := ∀ p, p ≤ n → (F p).2.1 = -1 → EV d (F p).2.2.1 (F p).2.2.2
theorem EVP_fail (n d : Nat) : EVP n d pFail := fun p _ h => by have : ((p : Nat) : Int) = -1 := h; omega
theorem EV_loop {b : Nat → Int} {n d : Nat} {op : Int → Int} {sub : Nat → PT} (h0 : op 0 = 0) (hop : ∀ t, op t ≠ 0 → op t < -8) (hg : PG n sub) (hs : EVP n d sub) : ∀ (f : Nat) (r : PT), r.1 ≤ n → (r.2.1 = -1 → EV (d + 1) r.2.2.1 r.2.2.2) → (loopP b n op sub f r).2.1 = -1 → EV (d + 1) (loopP b n op sub f r).2.2.1 (loopP b n op sub f r).2.2.2 := by
  intro f
  induction f with
  | zero => intro r hr h hf; exact h hf
  | succ f ih =>
    intro r hr h
    by_cases hc : r.2.1 = -1 ∧ op (tk b n r.1) ≠ 0
    · rw [loopP_y hc.1 hc.2]
      have hlt : r.1 < n := tk_lt (fun z => hc.2 (by rw [z]; exact h0))
      have ha := adv_in (b := b) hlt
      exact ih _ (hg _ ha.2).2.1 (fun q => EV_bin (h hc.1) (hs _ ha.2 q) (hop _ hc.2))
    · rw [loopP_n hc]
      exact h
theorem opM_lt (t : Int) (h : opM t ≠ 0) : opM t < -8 := by unfold opM at *; split at h <;> simp_all
theorem opS_lt (t : Int) (h : opS t ≠ 0) : opS t < -8 := by unfold opS at *; (repeat' split at h) <;> simp_all
theorem opA_lt (t : Int) (h : opA t ≠ 0) : opA t < -8 := by unfold opA at *; split at h <;> simp_all
theorem opO_lt (t : Int) (h : opO t ≠ 0) : opO t < -8 := by unfold opO at *; split at h <;> simp_all
theorem opC_lt (t : Int) (h : opC t ≠ 0) : opC t < -8 := by unfold opC at *; (repeat' split at h) <;> simp_all
theorem EVP_term {b : Nat → Int} {n d : Nat} {one : Nat → PT} (hg : PG n one) (h : EVP n d one) : EVP n (d + 1) (termP b n one) := fun p hp hf => EV_loop (by decide) opM_lt hg h 160 (one p) (hg p hp).2.1 (fun q => (h p hp q).le (by omega)) hf
theorem EVP_sum {b : Nat → Int} {n d : Nat} {one : Nat → PT} (hg : PG n one) (h : EVP n d one) : EVP n (d + 2) (sumP b n one) := fun p hp hf => EV_loop (by decide) opS_lt (PG_term hg) (EVP_term hg h) 160 _ (PG_term hg p hp).2.1 (fun q => (EVP_term hg h p hp q).le (by omega)) hf
theorem EVP_denX {b : Nat → Int} {n d : Nat} {one : Nat → PT} (hg : PG n one) (h : EVP n d one) : EVP n (d + 3) (denX b n one) := fun p hp hf => EV_loop (by decide) opC_lt (PG_sum hg) (EVP_sum hg h) 1 _ (PG_sum hg p hp).2.1 (fun q => (EVP_sum hg h p hp q).le (by omega)) hf
theorem EVP_both {b : Nat → Int} {n d : Nat} {den : Nat → PT} (hg : PG n den) (h : EVP n d den) : EVP n (d + 1) (bothP b n den) := fun p hp hf => EV_loop (by decide) opA_lt hg h 160 _ (hg p hp).2.1 (fun q => (h p hp q).le (by omega)) hf
theorem EVP_eit {b : Nat → Int} {n d : Nat} {den : Nat → PT} (hg : PG n den) (h : EVP n d den) : EVP n (d + 2) (eitP b n den) := fun p hp hf => EV_loop (by decide) opO_lt (PG_both hg) (EVP_both hg h) 160 _ (PG_both hg p hp).2.1 (fun q => (EVP_both hg h p hp q).le (by omega)) hf
theorem span_all {P : Int → Bool} {b : Nat → Int} {n : Nat} : ∀ (k p : Nat), n - p = k → ∀ q, p ≤ q → q < span P b n p → P (b q) = true := by
  intro k
  induction k with
  | zero =>
    intro p hk q h1 h2
    rw [span_n (by omega)] at h2
    omega
  | succ k ih =>
    intro p hk q h1 h2
    by_cases h : P (b p) = true
    · rw [span_y (by omega) h] at h2
      by_cases hq : q = p
      · rw [hq]; exact h
      · exact ih (p + 1) (by omega) q (by omega) h2
    · rw [span_n (fun z => h z.2)] at h2
      omega
theorem numF_in {b : Nat → Int} {p : Nat} : ∀ (k : Nat), k ≤ 4 → (∀ q, q < k → 48 ≤ b (p + q) ∧ b (p + q) ≤ 57) → 0 ≤ numF b p k ∧ numF b p k < 10 ^ k := by
  intro k
  induction k with
  | zero => intro _ _; exact ⟨Int.le_refl 0, by show (0 : Int) < 1; omega⟩
  | succ k ih =>
    intro hk h
    have h1 := ih (by omega) (fun q hq => h q (by omega))
    have h2 := h k (by omega)
    have h3 : (10 : Int) ^ k ≤ 1000 := by
      rcases (by omega : k = 0 ∨ k = 1 ∨ k = 2 ∨ k = 3) with rfl | rfl | rfl | rfl <;> decide
    rw [numF_s, show bm (numF b p k * 10 + b (p + k) - 48) = numF b p k * 10 + b (p + k) - 48 from bm_id ⟨by omega, by omega⟩, Int.pow_succ]
    constructor <;> omega
theorem tk_num {b : Nat → Int} {n p : Nat} (h : tk b n p = 2) : 0 ≤ vl b n p ∧ vl b n p < 10000 := by
  have hlt : p < n := tk_lt (by rw [h]; decide)
  have hw := wIx_in b p (span isL b n p) 12
  unfold tk at h
  rw [if_neg (by omega)] at h
  unfold vl
  by_cases hl : isL (b p) = true
  · rw [if_pos hl] at h
    unfold tkW at h
    (repeat' split at h) <;> omega
  · rw [if_neg hl] at h ⊢
    by_cases hd : isD (b p) = true
    · rw [if_pos hd] at h
      have hk : span isD b n p - p ≤ 4 := by split at h <;> omega
      have h1 := numF_in (b := b) (p := p) (span isD b n p - p) hk (fun q hq => isD_iff.mp (span_all (n := n) _ p rfl (p + q) (by omega) (by omega)))
      have h2 : (10 : Int) ^ (span isD b n p - p) ≤ 10000 := by
        generalize span isD b n p - p = k at hk
        rcases (by omega : k = 0 ∨ k = 1 ∨ k = 2 ∨ k = 3 ∨ k = 4) with rfl | rfl | rfl | rfl | rfl <;> decide
      omega
    · rw [if_neg hd] at h
      unfold sgn at h
      exfalso
      split at h <;> omega
theorem tk_nam {b : Nat → Int} {n p : Nat} (h : tk b n p = 3) : 0 ≤ vl b n p ∧ vl b n p < 6 := by
  have hlt : p < n := tk_lt (by rw [h]; decide)
  have hw := wIx_in b p (span isL b n p) 12
  unfold tk at h
  rw [if_neg (by omega)] at h
  unfold vl
  by_cases hl : isL (b p) = true
  · rw [if_pos hl] at h ⊢
    unfold tkW at h
    (repeat' split at h) <;> omega
  · rw [if_neg hl] at h
    exfalso
    by_cases hd : isD (b p) = true
    · rw [if_pos hd] at h
      split at h <;> omega
    · rw [if_neg hd] at h
      unfold sgn at h
      split at h <;> omega
theorem EVP_atomX {b : Nat → Int} {n m d : Nat} {nE : Nat → PT} (hd : 1 ≤ d) (h : m ≠ 0 → EVP n d nE) : EVP n d (atomX b n m nE) := by
  intro p hp
  unfold atomX
  split
  · rename_i h1
    have ha := adv_in (b := b) (tk_lt (b := b) (n := n) (p := p) (by rw [h1.1]; decide))
    split
    · rename_i h2
      split
      · exact fun _ => h h1.2 _ ha.2 h2
      · exact fun q => by have : (((nE (adv b n p)).1 : Nat) : Int) = -1 := q; omega
    · rename_i h2
      exact fun q => absurd q h2
  split
  · rename_i h1
    have hv := tk_num h1
    exact fun _ => EV_put hd (by omega) (fun nm => if_pos hv.1)
  split
  · rename_i h1
    have hv := tk_nam h1
    refine fun _ => EV_put hd (by omega) (fun nm => ?_)
    rw [if_neg (by omega), show (-1 - (-1 - vl b n p)) = vl b n p by omega]
  · exact EVP_fail n d p hp
theorem EVP_lvl (b : Nat → Int) (n : Nat) : ∀ m, EVP n (1 + 5 * m) (oneL b n m) ∧ EVP n (4 + 5 * m) (denL b n m) := by
  intro m
  induction m with
  | zero =>
    have h1 : EVP n (1 + 5 * 0) (oneL b n 0) := by
      intro p hp
      rw [oneL_0]
      split
      · exact EVP_fail n _ p hp
      · exact EVP_atomX (Nat.le_refl _) (fun q => absurd rfl q) p hp
    refine ⟨h1, fun p hp => ?_⟩
    rw [denL_0]
    split
    · exact EVP_fail n _ p hp
    · exact EVP_denX (PG_one b n 0) h1 p hp
  | succ m ih =>
    have hE : EVP n (1 + 5 * (m + 1)) (eitL b n m) := fun p hp hf => (EVP_eit (PG_den b n m) ih.2 p hp hf).le (by omega)
    have h1 : EVP n (1 + 5 * (m + 1)) (oneL b n (m + 1)) := by
      intro p hp
      rw [oneL_s]
      split
      · rename_i h
        have ha := adv_in (b := b) (tk_lt (b := b) (n := n) (p := p) (by rw [h]; decide))
        exact fun q => EV_un ((ih.1 _ ha.2 q).le (by omega)) (Or.inl rfl)
      · exact EVP_atomX (by omega) (fun _ => hE) p hp
    refine ⟨h1, fun p hp => ?_⟩
    rw [denL_s]
    split
    · rename_i h
      have ha := adv_in (b := b) (tk_lt (b := b) (n := n) (p := p) (by rw [h]; decide))
      exact fun q => EV_un ((ih.2 _ ha.2 q).le (by omega)) (Or.inr rfl)
    · exact fun q => (EVP_denX (PG_one b n (m + 1)) h1 p hp q).le (by omega)
theorem EVP_eit5 (b : Nat → Int) (n : Nat) : EVP n 31 (eitL b n 5) := EVP_eit (PG_den b n 5) (EVP_lvl b n 5).2
theorem EVP_part (b : Nat → Int) (n : Nat) (key : Int) (hk : key ≠ 0) : EVP n 31 (partP b n key) := by
  intro p hp
  unfold partP
  split
  · rename_i h
    have ha := adv_in (b := b) (tk_lt (b := b) (n := n) (p := p) (by rw [h]; exact hk))
    split
    · rename_i h2
      split
      · exact fun _ => EVP_eit5 b n _ ha.2 h2
      · exact fun q => by have : (((eitL b n 5 (adv b n p)).1 : Nat) : Int) = -1 := q; omega
    · rename_i h2
      exact fun q => absurd q h2
  · exact EVP_fail n _ p hp
