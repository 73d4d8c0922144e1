/-! the reference: what an hour does, gap by gap -/

/-- it would go off in this hour; how bad then -/
def ho1 (im : IM) (q : Nat) : Int := holdsK (im 34 0 (q / 10)) (im 35 0 (q / 10)) (sayR im (im 30 0 4).toNat 1 (nmA (im 36 0 q) 0 (im 30 0 7) (im 35 0 (q / 10)) ((q % 10 : Nat) : Int) (im 37 0 q + 1)))
def be1 (im : IM) (q : Nat) : Int := bearsK (im 34 0 (q / 10)) (im 35 0 (q / 10)) (sayR im (im 30 0 4).toNat 2 (nmA (im 36 0 q) 0 (im 30 0 7) (im 35 0 (q / 10)) ((q % 10 : Nat) : Int) (im 37 0 q + 1))) (chI (im 30 0 8) (im 30 0 7))
abbrev ofI (im : IM) (q : Nat) : Prop := im 36 0 q ≠ -1 ∧ ho1 im q ≤ im 37 0 q + 1
/-- all but what an hour goes through -/
def agH (a b : IM) : Prop := ∀ k i s, ¬ (36 ≤ k ∧ k ≤ 39) → ¬ (k = 30 ∧ (s = 9 ∨ 30 ≤ s ∧ s ≤ 33)) → a k i s = b k i s
theorem agH_rfl (a : IM) : agH a a := fun _ _ _ _ _ => rfl
theorem agH.trans {a b c : IM} (h : agH a b) (h2 : agH b c) : agH a c := fun k i s x y => (h k i s x y).trans (h2 k i s x y)
theorem agH_up {a b : IM} (h : agH a b) {k i s : Nat} {x : Int} (hk : (36 ≤ k ∧ k ≤ 39) ∨ (k = 30 ∧ (s = 9 ∨ 30 ≤ s ∧ s ≤ 33))) : agH (up a k i s x) b := by
  intro k' i' s' h1 h2
  rw [up_app, if_neg (by omega)]
  exact h k' i' s' h1 h2
theorem sayR_H {a b : IM} (h : agH a b) (t part : Nat) (nm : Nat → Int) : sayR a t part nm = sayR b t part nm := by
  unfold sayR
  have e31 : rowR a t = rowR b t := funext fun i => h 31 0 _ (by omega) (by omega)
  rw [h 32 0 t (by omega) (by omega), e31]
theorem ho1_H {a b : IM} (h : agH a b) {q : Nat} (h36 : a 36 0 q = b 36 0 q) (h37 : a 37 0 q = b 37 0 q) : ho1 a q = ho1 b q := by
  unfold ho1
  rw [sayR_H h, h 34 0 _ (by omega) (by omega), h 35 0 _ (by omega) (by omega), h36, h37, h 30 0 4 (by omega) (by omega), h 30 0 7 (by omega) (by omega)]
theorem be1_H {a b : IM} (h : agH a b) {q : Nat} (h36 : a 36 0 q = b 36 0 q) (h37 : a 37 0 q = b 37 0 q) : be1 a q = be1 b q := by
  unfold be1
  rw [sayR_H h, h 34 0 _ (by omega) (by omega), h 35 0 _ (by omega) (by omega), h36, h37, h 30 0 4 (by omega) (by omega), h 30 0 7 (by omega) (by omega), h 30 0 8 (by omega) (by omega)]
theorem ofI_H {a b : IM} (h : agH a b) {q : Nat} (h36 : a 36 0 q = b 36 0 q) (h37 : a 37 0 q = b 37 0 q) : ofI a q ↔ ofI b q := by
  unfold ofI
  rw [ho1_H h h36 h37, h36, h37]
theorem hoA (im : IM) (q : Nat) : hoR (lvA im q) q = ho1 im q := by
  have e : lvA im q 37 0 q = im 37 0 q + 1 := by unfold lvA; rw [up_app, if_pos ⟨rfl, rfl, rfl⟩]
  have eH : agH (lvA im q) im := agH_up (agH_rfl im) (Or.inl (by omega))
  unfold hoR ho1
  rw [e, sayR_H eH, eH 34 0 _ (by omega) (by omega), eH 35 0 _ (by omega) (by omega), eH 30 0 4 (by omega) (by omega), eH 30 0 7 (by omega) (by omega)]
  rfl
theorem beA (im : IM) (q : Nat) : beR (lvA im q) q = be1 im q := by
  have e : lvA im q 37 0 q = im 37 0 q + 1 := by unfold lvA; rw [up_app, if_pos ⟨rfl, rfl, rfl⟩]
  have eH : agH (lvA im q) im := agH_up (agH_rfl im) (Or.inl (by omega))
  unfold beR be1
  rw [e, sayR_H eH, eH 34 0 _ (by omega) (by omega), eH 35 0 _ (by omega) (by omega), eH 30 0 4 (by omega) (by omega), eH 30 0 7 (by omega) (by omega), eH 30 0 8 (by omega) (by omega)]
  rfl
theorem ofI_not {im : IM} {q : Nat} (h : im 36 0 q = -1) : ¬ ofI im q := fun z => z.1 h
/-- the sum and the number of those that go off, the first of them -/
def shI (im : IM) : Nat → Int
  | 0 => im 30 0 9
  | n + 1 => if ofI im n then bm (shI im n + be1 im n) else shI im n
def cnI (im : IM) : Nat → Int
  | 0 => im 30 0 30
  | n + 1 => if ofI im n then bm (cnI im n + 1) else cnI im n
/-- behind n gaps of an hour -/
def LV (im : IM) (t : Int) (n : Nat) (F : IM) : Prop := agH F im ∧ (∀ s, n ≤ s → F 36 0 s = im 36 0 s ∧ F 37 0 s = im 37 0 s ∧ F 38 0 s = im 38 0 s ∧ F 39 0 s = im 39 0 s) ∧ (∀ s, s < n → (ofI im s → F 36 0 s = -1 ∧ F 38 0 s = t ∧ F 39 0 s = be1 im s) ∧ (¬ ofI im s → F 36 0 s = im 36 0 s ∧ (im 36 0 s ≠ -1 → F 37 0 s = im 37 0 s + 1) ∧ (im 36 0 s = -1 → F 37 0 s = im 37 0 s) ∧ F 38 0 s = im 38 0 s ∧ F 39 0 s = im 39 0 s)) ∧ F 30 0 9 = shI im n ∧ F 30 0 30 = cnI im n ∧ (im 30 0 33 ≠ -1 → F 30 0 31 = im 30 0 31 ∧ F 30 0 32 = im 30 0 32 ∧ F 30 0 33 = im 30 0 33) ∧ (im 30 0 33 = -1 → (∀ s, s < n → ¬ ofI im s) → F 30 0 31 = im 30 0 31 ∧ F 30 0 32 = im 30 0 32 ∧ F 30 0 33 = im 30 0 33) ∧ (im 30 0 33 = -1 → ∀ s, s < n → ofI im s → (∀ j, j < s → ¬ ofI im j) → F 30 0 31 = im 36 0 s ∧ F 30 0 32 = ((s / 10 : Nat) : Int) ∧ F 30 0 33 = t)
theorem LV_0 (im : IM) (t : Int) : LV im t 0 im := ⟨agH_rfl im, fun _ _ => ⟨rfl, rfl, rfl, rfl⟩, fun s hs => absurd hs (Nat.not_lt_zero s), rfl, rfl, fun _ => ⟨rfl, rfl, rfl⟩, fun _ _ => ⟨rfl, rfl, rfl⟩, fun _ s hs => absurd hs (Nat.not_lt_zero s)⟩
theorem lvC_app (F : IM) (t : Int) (n k i s : Nat) : lvC F t n k i s = if k = 36 ∧ i = 0 ∧ s = n then -1 else if k = 30 ∧ i = 0 ∧ s = 30 then bm (F 30 0 30 + 1) else if F 30 0 33 = -1 ∧ k = 30 ∧ i = 0 ∧ s = 33 then t else if F 30 0 33 = -1 ∧ k = 30 ∧ i = 0 ∧ s = 32 then ((n / 10 : Nat) : Int) else if F 30 0 33 = -1 ∧ k = 30 ∧ i = 0 ∧ s = 31 then F 36 0 n else if k = 30 ∧ i = 0 ∧ s = 9 then bm (F 30 0 9 + be1 F n) else if k = 38 ∧ i = 0 ∧ s = n then t else if k = 39 ∧ i = 0 ∧ s = n then be1 F n else if k = 37 ∧ i = 0 ∧ s = n then F 37 0 n + 1 else F k i s := by
  unfold lvC
  rw [up_app, up_app]
  have e33 : lvB F t n 30 0 33 = F 30 0 33 := rfl
  have e36 : lvB F t n 36 0 n = F 36 0 n := by
    unfold lvB lvA
    rw [up_app, if_neg (by omega), up_app, if_neg (by omega), up_app, if_neg (by omega), up_app, if_neg (by omega)]
  have eB : lvB F t n k i s = if k = 30 ∧ i = 0 ∧ s = 9 then bm (F 30 0 9 + be1 F n) else if k = 38 ∧ i = 0 ∧ s = n then t else if k = 39 ∧ i = 0 ∧ s = n then be1 F n else if k = 37 ∧ i = 0 ∧ s = n then F 37 0 n + 1 else F k i s := by
    unfold lvB
    rw [beA, up_app, up_app, up_app]
    unfold lvA
    rw [up_app]
  unfold lvF
  rw [e33]
  by_cases h : F 30 0 33 = -1
  · rw [if_pos h, up_app, up_app, up_app, eB, e36]
    simp only [h, true_and]
  · rw [if_neg h, eB]
    simp only [h, false_and, if_false]
theorem LV_s {im F : IM} {t : Int} {n : Nat} (htt : t ≠ -1) (h : LV im t n F) : LV im t (n + 1) (lv1 F t n) := by
  obtain ⟨hH, hge, hlt, h9, h30, hn0, hn1, hn2⟩ := h
  have hn := hge n (Nat.le_refl n)
  have ho : ho1 F n = ho1 im n := ho1_H hH hn.1 hn.2.1
  have hb : be1 F n = be1 im n := be1_H hH hn.1 hn.2.1
  have s9 : shI im (n + 1) = if ofI im n then bm (shI im n + be1 im n) else shI im n := rfl
  have s30 : cnI im (n + 1) = if ofI im n then bm (cnI im n + 1) else cnI im n := rfl
  by_cases hw : im 36 0 n = -1
  · have hno : ¬ ofI im n := fun z => z.1 hw
    have e : lv1 F t n = F := if_pos (hn.1.trans hw)
    rw [e]
    refine ⟨hH, fun s hs => hge s (by omega), fun s hs => ?_, by rw [s9, if_neg hno]; exact h9, by rw [s30, if_neg hno]; exact h30, hn0, fun h33 hs => hn1 h33 (fun s hs2 => hs s (by omega)), fun h33 s hs hos hj => hn2 h33 s ?_ hos hj⟩
    · by_cases q : s = n
      · subst q
        exact ⟨fun z => absurd z hno, fun _ => ⟨hn.1, fun z => absurd hw z, fun _ => hn.2.1, hn.2.2.1, hn.2.2.2⟩⟩
      · exact hlt s (by omega)
    · have : s ≠ n := fun e => hno (e ▸ hos)
      omega
  · by_cases hof : ho1 im n ≤ im 37 0 n + 1
    · have hyes : ofI im n := ⟨hw, hof⟩
      have e : lv1 F t n = lvC F t n := by
        unfold lv1
        rw [if_neg (by rw [hn.1]; exact hw), if_neg (by rw [hoA, ho, hn.2.1]; omega)]
      rw [e]
      refine ⟨fun k i s x y => ?_, fun s hs => ?_, fun s hs => ?_, ?_, ?_, fun h33 => ?_, fun h33 hs => absurd hyes (hs n (by omega)), fun h33 s hs hos hj => ?_⟩
      · rw [lvC_app, if_neg (by omega), if_neg (by omega), if_neg (by omega), if_neg (by omega), if_neg (by omega), if_neg (by omega), if_neg (by omega), if_neg (by omega), if_neg (by omega)]
        exact hH k i s x y
      · have q := hge s (by omega)
        refine ⟨?_, ?_, ?_, ?_⟩ <;> rw [lvC_app, if_neg (by omega), if_neg (by omega), if_neg (by omega), if_neg (by omega), if_neg (by omega), if_neg (by omega), if_neg (by omega), if_neg (by omega), if_neg (by omega)]
        · exact q.1
        · exact q.2.1
        · exact q.2.2.1
        · exact q.2.2.2
      · by_cases q : s = n
        · subst q
          refine ⟨fun _ => ⟨?_, ?_, ?_⟩, fun z => absurd hyes z⟩
          · rw [lvC_app, if_pos ⟨rfl, rfl, rfl⟩]
          · rw [lvC_app, if_neg (by omega), if_neg (by omega), if_neg (by omega), if_neg (by omega), if_neg (by omega), if_neg (by omega), if_pos ⟨rfl, rfl, rfl⟩]
          · rw [lvC_app, if_neg (by omega), if_neg (by omega), if_neg (by omega), if_neg (by omega), if_neg (by omega), if_neg (by omega), if_neg (by omega), if_pos ⟨rfl, rfl, rfl⟩, hb]
        · have c : ∀ k, 36 ≤ k → k ≤ 39 → lvC F t n k 0 s = F k 0 s := fun k _ _ => by
            rw [lvC_app, if_neg (by omega), if_neg (by omega), if_neg (by omega), if_neg (by omega), if_neg (by omega), if_neg (by omega), if_neg (by omega), if_neg (by omega), if_neg (by omega)]
          rw [c 36 (by omega) (by omega), c 37 (by omega) (by omega), c 38 (by omega) (by omega), c 39 (by omega) (by omega)]
          exact hlt s (by omega)
      · rw [lvC_app, if_neg (by omega), if_neg (by omega), if_neg (by omega), if_neg (by omega), if_neg (by omega), if_pos ⟨rfl, rfl, rfl⟩, s9, if_pos hyes, h9, hb]
      · rw [lvC_app, if_neg (by omega), if_pos ⟨rfl, rfl, rfl⟩, s30, if_pos hyes, h30]
      · have e33 := (hn0 h33).2.2
        have c : ∀ s, 31 ≤ s → s ≤ 33 → lvC F t n 30 0 s = F 30 0 s := fun s _ _ => by
          rw [lvC_app, if_neg (by omega), if_neg (by omega), if_neg (fun z => h33 (e33 ▸ z.1)), if_neg (fun z => h33 (e33 ▸ z.1)), if_neg (fun z => h33 (e33 ▸ z.1)), if_neg (by omega), if_neg (by omega), if_neg (by omega), if_neg (by omega)]
        rw [c 31 (by omega) (by omega), c 32 (by omega) (by omega), c 33 (by omega) (by omega)]
        exact hn0 h33
      · by_cases q : s = n
        · subst q
          have e33 := (hn1 h33 hj).2.2
          have z33 : F 30 0 33 = -1 := e33.trans h33
          refine ⟨?_, ?_, ?_⟩
          · rw [lvC_app, if_neg (by omega), if_neg (by omega), if_neg (by omega), if_neg (by omega), if_pos ⟨z33, rfl, rfl, rfl⟩]
            exact hn.1
          · rw [lvC_app, if_neg (by omega), if_neg (by omega), if_neg (by omega), if_pos ⟨z33, rfl, rfl, rfl⟩]
          · rw [lvC_app, if_neg (by omega), if_neg (by omega), if_pos ⟨z33, rfl, rfl, rfl⟩]
        · have old := hn2 h33 s (by omega) hos hj
          have c : F 30 0 33 ≠ -1 → ∀ s, 31 ≤ s → s ≤ 33 → lvC F t n 30 0 s = F 30 0 s := fun z s _ _ => by
            rw [lvC_app, if_neg (by omega), if_neg (by omega), if_neg (fun w => z w.1), if_neg (fun w => z w.1), if_neg (fun w => z w.1), if_neg (by omega), if_neg (by omega), if_neg (by omega), if_neg (by omega)]
          have ht : t ≠ -1 := htt
          have z : F 30 0 33 ≠ -1 := by rw [old.2.2]; exact ht
          rw [c z 31 (by omega) (by omega), c z 32 (by omega) (by omega), c z 33 (by omega) (by omega)]
          exact old
    · have hno : ¬ ofI im n := fun z => hof z.2
      have e : lv1 F t n = lvA F n := by
        unfold lv1
        rw [if_neg (by rw [hn.1]; exact hw), if_pos (by rw [hoA, ho, hn.2.1]; omega)]
      rw [e]
      have c : ∀ k i s, ¬ (k = 37 ∧ i = 0 ∧ s = n) → lvA F n k i s = F k i s := fun k i s z => by
        unfold lvA
        rw [up_app, if_neg z]
      have c30 : ∀ s, lvA F n 30 0 s = F 30 0 s := fun s => c 30 0 s (by omega)
      refine ⟨fun k i s x y => (c k i s (by omega)).trans (hH k i s x y), fun s hs => ?_, fun s hs => ?_, by rw [s9, if_neg hno, c30]; exact h9, by rw [s30, if_neg hno, c30]; exact h30, by rw [c30, c30, c30]; exact hn0, fun h33 hs => by rw [c30, c30, c30]; exact hn1 h33 (fun s hs2 => hs s (by omega)), fun h33 s hs hos hj => ?_⟩
      · rw [c 36 0 s (by omega), c 37 0 s (by omega), c 38 0 s (by omega), c 39 0 s (by omega)]
        exact hge s (by omega)
      · by_cases q : s = n
        · subst q
          rw [c 36 0 s (by omega), c 38 0 s (by omega), c 39 0 s (by omega)]
          refine ⟨fun z => absurd z hno, fun _ => ⟨hn.1, fun _ => ?_, fun z => absurd z hw, hn.2.2.1, hn.2.2.2⟩⟩
          unfold lvA
          rw [up_app, if_pos ⟨rfl, rfl, rfl⟩, hn.2.1]
        · rw [c 36 0 s (by omega), c 37 0 s (by omega), c 38 0 s (by omega), c 39 0 s (by omega)]
          exact hlt s (by omega)
      · rw [c30, c30, c30]
        have : s ≠ n := fun e => hno (e ▸ hos)
        exact hn2 h33 s (by omega) hos hj
theorem LV_N (im : IM) {t : Int} (htt : t ≠ -1) (n : Nat) : LV im t n (lvN im t n) := by
  induction n with
  | zero => exact LV_0 im t
  | succ n ih => exact LV_s htt ih
