section
/-! the reference: hours, one behind the other -/

theorem findF_snoc (P : Nat → Bool) (n : Nat) : ∀ i, findF P i (n + 1) = if findF P i n = -1 then (if P (i + n) = true then ((i + n : Nat) : Int) else -1) else findF P i n := by
  induction n with
  | zero =>
    intro i
    show (if P i = true then (i : Int) else -1) = if (-1 : Int) = -1 then (if P (i + 0) = true then ((i + 0 : Nat) : Int) else -1) else -1
    rw [if_pos rfl, Nat.add_zero]
  | succ n ih =>
    intro i
    rw [findF_s P i (n + 1), findF_s P i n]
    by_cases h : P i = true
    · rw [if_pos h, if_pos h, if_neg (by omega)]
    · rw [if_neg h, if_neg h, ih (i + 1), show i + 1 + n = i + (n + 1) by omega]
theorem goK_s (T : Nat → (Nat → Int) → Int) (k nb w a g h : Int) (n : Nat) : goK T k nb w a g h (n + 1) = if goK T k nb w a g h n = -1 then (if w ≠ -1 ∧ hoK T k nb w g (h + n) (a + n + 1) ≤ a + n + 1 then (n : Int) else -1) else goK T k nb w a g h n := by
  unfold goK
  by_cases hw : w = -1
  · rw [if_pos hw, if_pos hw, if_pos rfl, if_neg (fun z => z.1 hw)]
  · rw [if_neg hw, if_neg hw, findF_snoc, Nat.zero_add]
    by_cases hf : findF (offK T k nb w a g h) 0 n = -1
    · rw [if_pos hf, if_pos hf]
      unfold offK
      by_cases hh : hoK T k nb w g (h + n) (a + n + 1) ≤ a + n + 1
      · rw [if_pos (decide_eq_true hh), if_pos ⟨hw, hh⟩]
      · rw [if_neg (fun z => hh (of_decide_eq_true z)), if_neg (fun z => hh z.2)]
    · rw [if_neg hf, if_neg hf]
theorem goK_0 (T : Nat → (Nat → Int) → Int) (k nb w a g h : Int) : goK T k nb w a g h 0 = -1 := by
  unfold goK
  split <;> rfl
theorem goK_in (T : Nat → (Nat → Int) → Int) (k nb w a g h : Int) (n : Nat) : goK T k nb w a g h n = -1 ∨ 0 ≤ goK T k nb w a g h n ∧ goK T k nb w a g h n < n := by
  unfold goK
  split
  · exact Or.inl rfl
  · have := findF_in (offK T k nb w a g h) n 0
    omega
def TR (im : IM) : Nat → (Nat → Int) → Int := sayR im (im 30 0 4).toNat
def goR (im : IM) (q n : Nat) : Int := goK (TR im) (im 34 0 (q / 10)) (im 35 0 (q / 10)) (im 36 0 q) (im 37 0 q) ((q % 10 : Nat) : Int) (im 30 0 7) n
def beT (im : IM) (q : Nat) (later : Int) : Int := beK (TR im) (im 34 0 (q / 10)) (im 35 0 (q / 10)) (im 36 0 q) (im 37 0 q) ((q % 10 : Nat) : Int) (im 30 0 7) later (chI (im 30 0 8) (im 30 0 7 + later))
def whenR (im : IM) (n q : Nat) : Int := if ((q / 10 : Nat) : Int) < im 30 0 12 then goR im q n else -1
def costR (im : IM) (n q : Nat) : Int := if whenR im n q = -1 then 0 else beT im q (whenR im n q)
def smF (f : Nat → Int) : Nat → Int
  | 0 => 0
  | N + 1 => smF f N + f N
def fstG (f : Nat → Int) : Nat → Int
  | 0 => -1
  | N + 1 => if f N ≠ -1 ∧ (fstG f N = -1 ∨ f N < f (fstG f N).toNat) then (N : Int) else fstG f N
def cnR (im : IM) (n q : Nat) : Int := if whenR im n q = -1 then 0 else 1
theorem smF_c {f g : Nat → Int} {N : Nat} (h : ∀ q, q < N → f q = g q) : smF f N = smF g N := by
  induction N with
  | zero => rfl
  | succ N ih =>
    show smF f N + f N = smF g N + g N
    rw [ih (fun q hq => h q (by omega)), h N (by omega)]
theorem smF_add (f g : Nat → Int) (N : Nat) : smF (fun q => f q + g q) N = smF f N + smF g N := by
  induction N with
  | zero => rfl
  | succ N ih =>
    show smF (fun q => f q + g q) N + (f N + g N) = smF f N + f N + (smF g N + g N)
    rw [ih]
    omega
theorem smF_ext {f : Nat → Int} {N : Nat} (m : Nat) (h : ∀ q, N ≤ q → f q = 0) : smF f (N + m) = smF f N := by
  induction m with
  | zero => rfl
  | succ m ih =>
    show smF f (N + m) + f (N + m) = smF f N
    rw [ih, h (N + m) (by omega)]
    omega
theorem smF_in {f : Nat → Int} {a b : Int} {N : Nat} (h : ∀ q, q < N → a ≤ f q ∧ f q ≤ b) (ha : a ≤ 0) (hb : 0 ≤ b) : a * N ≤ smF f N ∧ smF f N ≤ b * N := by
  induction N with
  | zero => exact ⟨by show a * ((0 : Nat) : Int) ≤ 0; simp, by show 0 ≤ b * ((0 : Nat) : Int); simp⟩
  | succ N ih =>
    have h1 := ih (fun q hq => h q (by omega))
    have h2 := h N (by omega)
    show a * ((N + 1 : Nat) : Int) ≤ smF f N + f N ∧ smF f N + f N ≤ b * ((N + 1 : Nat) : Int)
    rw [Int.natCast_add, Int.mul_add, Int.mul_add]
    simp only [Int.natCast_one, Int.mul_one]
    omega
theorem fstG_in (f : Nat → Int) (N : Nat) : ((∀ q, q < N → f q = -1) ∧ fstG f N = -1) ∨ ∃ s, s < N ∧ fstG f N = s ∧ f s ≠ -1 ∧ ∀ j, j < N → f j ≠ -1 → f s < f j ∨ f s = f j ∧ s ≤ j := by
  induction N with
  | zero => exact Or.inl ⟨fun q hq => absurd hq (Nat.not_lt_zero q), rfl⟩
  | succ N ih =>
    have e : fstG f (N + 1) = if f N ≠ -1 ∧ (fstG f N = -1 ∨ f N < f (fstG f N).toNat) then (N : Int) else fstG f N := rfl
    rw [e]
    rcases ih with ⟨h1, h2⟩ | ⟨s, hs, h2, h3, h4⟩
    · by_cases hN : f N = -1
      · left
        rw [if_neg (fun z => z.1 hN)]
        refine ⟨fun q hq => ?_, h2⟩
        by_cases e : q = N
        · rw [e]; exact hN
        · exact h1 q (by omega)
      · right
        rw [if_pos ⟨hN, Or.inl h2⟩]
        refine ⟨N, by omega, rfl, hN, fun j hj hne => ?_⟩
        by_cases e : j = N
        · rw [e]; right; exact ⟨rfl, Nat.le_refl N⟩
        · exact absurd (h1 j (by omega)) hne
    · right
      have e2 : (fstG f N).toNat = s := by rw [h2]; rfl
      by_cases hN : f N ≠ -1 ∧ f N < f s
      · rw [if_pos ⟨hN.1, Or.inr (by rw [e2]; exact hN.2)⟩]
        refine ⟨N, by omega, rfl, hN.1, fun j hj hne => ?_⟩
        by_cases e : j = N
        · rw [e]; right; exact ⟨rfl, Nat.le_refl N⟩
        · have := h4 j (by omega) hne
          omega
      · rw [if_neg (fun z => hN ⟨z.1, by rcases z.2 with q | q; (· exfalso; omega); (· rw [e2] at q; exact q)⟩)]
        refine ⟨s, by omega, h2, h3, fun j hj hne => ?_⟩
        by_cases e : j = N
        · rw [e] at hne ⊢
          have : ¬ f N < f s := fun q => hN ⟨hne, q⟩
          omega
        · exact h4 j (by omega) hne
theorem bm_add (x y : Int) : bm (bm x + y) = bm (x + y) := by
  unfold bm
  first
    | exact Int.bmod_add_bmod
    | exact Int.bmod_add_bmod_congr
    | simp
theorem bm_sub (x y : Int) : bm (bm x - y) = bm (x - y) := by
  rw [Int.sub_eq_add_neg, bm_add, ← Int.sub_eq_add_neg]
theorem bm_idd {x : Int} (h : ri x) : bm x = x := bm_id h
theorem shI_sm {im : IM} {x : Int} (h : im 30 0 9 = bm x) (n : Nat) : shI im n = bm (x + smF (fun q => if ofI im q then be1 im q else 0) n) := by
  induction n with
  | zero =>
    show im 30 0 9 = bm (x + 0)
    rw [h, Int.add_zero]
  | succ n ih =>
    show (if ofI im n then bm (shI im n + be1 im n) else shI im n) = bm (x + (smF (fun q => if ofI im q then be1 im q else 0) n + if ofI im n then be1 im n else 0))
    by_cases ho : ofI im n
    · rw [if_pos ho, if_pos ho, ih, bm_add, Int.add_assoc]
    · rw [if_neg ho, if_neg ho, ih, Int.add_zero]
theorem cnI_sm {im : IM} (h0 : 0 ≤ im 30 0 30) (h1 : im 30 0 30 ≤ 1000) {n : Nat} (hn : n ≤ 50) : cnI im n = im 30 0 30 + smF (fun q => if ofI im q then 1 else 0) n := by
  induction n with
  | zero => exact (Int.add_zero _).symm
  | succ n ih =>
    have ih := ih (by omega)
    have hb := smF_in (f := fun q => if ofI im q then (1 : Int) else 0) (a := 0) (b := 1) (N := n) (fun q _ => by show 0 ≤ (if ofI im q then (1 : Int) else 0) ∧ (if ofI im q then (1 : Int) else 0) ≤ 1; split <;> omega) (by omega) (by omega)
    show (if ofI im n then bm (cnI im n + 1) else cnI im n) = im 30 0 30 + (smF (fun q => if ofI im q then 1 else 0) n + if ofI im n then 1 else 0)
    by_cases ho : ofI im n
    · rw [if_pos ho, if_pos ho, ih, bm_idd (by constructor <;> omega)]
      omega
    · rw [if_neg ho, if_neg ho, ih, Int.add_zero]
/-- all but what hours go through -/
def agE (a b : IM) : Prop := ∀ k i s, ¬ (36 ≤ k ∧ k ≤ 39) → ¬ (k = 30 ∧ (s = 7 ∨ s = 9 ∨ 15 ≤ s ∧ s ≤ 33)) → a k i s = b k i s
theorem sayR_E {a b : IM} (h : agE a b) (t part : Nat) (nm : Nat → Int) : sayR a t part nm = sayR b t part nm := by
  unfold sayR
  have e31 : rowR a t = rowR b t := funext fun i => h 31 0 _ (by omega) (by omega)
  rw [h 32 0 t (by omega) (by omega), e31]
/-- behind t hours -/
def RN (B : IM) (t : Nat) (F : IM) : Prop := agE F B ∧ F 30 0 7 = B 30 0 7 + t ∧ (∀ q : Nat, (q : Int) < 10 * B 30 0 12 → (whenR B t q = -1 → F 36 0 q = B 36 0 q ∧ (B 36 0 q ≠ -1 → F 37 0 q = B 37 0 q + t)) ∧ (whenR B t q ≠ -1 → F 36 0 q = -1) ∧ F 38 0 q = whenR B t q ∧ F 39 0 q = costR B t q) ∧ (∀ q : Nat, 10 * B 30 0 12 ≤ (q : Int) → F 36 0 q = B 36 0 q ∧ F 37 0 q = B 37 0 q ∧ F 38 0 q = B 38 0 q ∧ F 39 0 q = B 39 0 q) ∧ F 30 0 9 = bm (B 30 0 9 + smF (costR B t) (10 * B 30 0 12).toNat) ∧ F 30 0 30 = smF (cnR B t) (10 * B 30 0 12).toNat ∧ ((∀ q : Nat, (q : Int) < 10 * B 30 0 12 → whenR B t q = -1) → F 30 0 31 = -1 ∧ F 30 0 32 = -1 ∧ F 30 0 33 = -1) ∧ (∀ s : Nat, (s : Int) < 10 * B 30 0 12 → whenR B t s ≠ -1 → (∀ j : Nat, (j : Int) < 10 * B 30 0 12 → whenR B t j ≠ -1 → whenR B t s < whenR B t j ∨ whenR B t s = whenR B t j ∧ s ≤ j) → F 30 0 31 = B 36 0 s ∧ F 30 0 32 = ((s / 10 : Nat) : Int) ∧ F 30 0 33 = whenR B t s)
theorem whenR_0 (B : IM) (q : Nat) : whenR B 0 q = -1 := by
  unfold whenR goR
  rw [goK_0]
  split <;> rfl
theorem whenR_in (B : IM) (n q : Nat) : whenR B n q = -1 ∨ 0 ≤ whenR B n q ∧ whenR B n q < n := by
  unfold whenR goR
  split
  · exact goK_in _ _ _ _ _ _ _ _
  · exact Or.inl rfl
theorem RN_0 {B : IM} (h38 : ∀ q : Nat, (q : Int) < 10 * B 30 0 12 → B 38 0 q = -1 ∧ B 39 0 q = 0) (h9 : ri (B 30 0 9)) (h30 : B 30 0 30 = 0) (h31 : B 30 0 31 = -1 ∧ B 30 0 32 = -1 ∧ B 30 0 33 = -1) : RN B 0 B := by
  have hz : ∀ f : Nat → Int, (∀ q, f q = 0) → ∀ N, smF f N = 0 := by
    intro f hf N
    induction N with
    | zero => rfl
    | succ N ih => show smF f N + f N = 0; rw [ih, hf]; rfl
  have hc : ∀ q, costR B 0 q = 0 := fun q => by unfold costR; rw [if_pos (whenR_0 B q)]
  have hn : ∀ q, cnR B 0 q = 0 := fun q => by unfold cnR; rw [if_pos (whenR_0 B q)]
  refine ⟨fun _ _ _ _ _ => rfl, by omega, fun q hq => ⟨fun _ => ⟨rfl, fun _ => by omega⟩, fun z => absurd (whenR_0 B q) z, ?_, ?_⟩, fun q hq => ⟨rfl, rfl, rfl, rfl⟩, ?_, ?_, fun _ => h31, fun s hs z => absurd (whenR_0 B s) z⟩
  · rw [whenR_0]; exact (h38 q hq).1
  · rw [hc]; exact (h38 q hq).2
  · rw [hz _ hc, Int.add_zero, bm_idd h9]
  · rw [hz _ hn]; exact h30
theorem RN_q {B F : IM} {t : Nat} (h : RN B t F) {q : Nat} (hq : (q : Int) < 10 * B 30 0 12) : (ofI F q ∧ whenR B t q = -1 ∧ whenR B (t + 1) q = t ∧ be1 F q = beT B q t) ∨ (¬ ofI F q ∧ whenR B (t + 1) q = whenR B t q) := by
  obtain ⟨hE, h7, hc, hge, h9, h30, hn1, hn2⟩ := h
  have hp : ((q / 10 : Nat) : Int) < B 30 0 12 := by omega
  have ew : ∀ n, whenR B n q = goR B q n := fun n => by unfold whenR; rw [if_pos hp]
  have es : goR B q (t + 1) = if goR B q t = -1 then (if B 36 0 q ≠ -1 ∧ hoK (TR B) (B 34 0 (q / 10)) (B 35 0 (q / 10)) (B 36 0 q) ((q % 10 : Nat) : Int) (B 30 0 7 + t) (B 37 0 q + t + 1) ≤ B 37 0 q + t + 1 then (t : Int) else -1) else goR B q t := goK_s _ _ _ _ _ _ _ _
  have hcq := hc q hq
  rw [ew, ew]
  rw [ew] at hcq
  by_cases hg : goR B q t = -1
  · have e36 := (hcq.1 hg).1
    rw [if_pos hg] at es
    by_cases hw : B 36 0 q = -1
    · right
      rw [if_neg (fun z => z.1 hw)] at es
      exact ⟨fun z => z.1 (e36.trans hw), by rw [es, hg]⟩
    · have e37 := (hcq.1 hg).2 hw
      have eho : ho1 F q = hoK (TR B) (B 34 0 (q / 10)) (B 35 0 (q / 10)) (B 36 0 q) ((q % 10 : Nat) : Int) (B 30 0 7 + t) (B 37 0 q + t + 1) := by
        unfold ho1
        rw [sayR_E hE, hE 34 0 _ (by omega) (by omega), hE 35 0 _ (by omega) (by omega), e36, e37, h7, hE 30 0 4 (by omega) (by omega)]
        rfl
      have ebe : be1 F q = beT B q t := by
        unfold be1
        rw [sayR_E hE, hE 34 0 _ (by omega) (by omega), hE 35 0 _ (by omega) (by omega), e36, e37, h7, hE 30 0 4 (by omega) (by omega), hE 30 0 8 (by omega) (by omega)]
        rfl
      by_cases ho : hoK (TR B) (B 34 0 (q / 10)) (B 35 0 (q / 10)) (B 36 0 q) ((q % 10 : Nat) : Int) (B 30 0 7 + t) (B 37 0 q + t + 1) ≤ B 37 0 q + t + 1
      · left
        rw [if_pos ⟨hw, ho⟩] at es
        exact ⟨⟨by rw [e36]; exact hw, by rw [eho, e37]; exact ho⟩, hg, es, ebe⟩
      · right
        rw [if_neg (fun z => ho z.2)] at es
        exact ⟨fun z => ho (by have := z.2; rw [eho, e37] at this; exact this), by rw [es, hg]⟩
  · right
    rw [if_neg hg] at es
    exact ⟨fun z => z.1 (hcq.2.1 hg), es⟩
theorem RN_s {B F F1 : IM} {t : Nat} (h12 : 0 ≤ B 30 0 12 ∧ B 30 0 12 ≤ 5) (h : RN B t F) (hL : LV F t (10 * B 30 0 12).toNat F1) : RN B (t + 1) (up F1 30 0 7 (F 30 0 7 + 1)) := by
  have hq := fun q hq => RN_q h (q := q) hq
  obtain ⟨hE, h7, hc, hge, h9, h30, hn1, hn2⟩ := h
  obtain ⟨lH, lge, llt, l9, l30, ln0, ln1, ln2⟩ := hL
  have u : ∀ k s, ¬ (k = 30 ∧ s = 7) → up F1 30 0 7 (F 30 0 7 + 1) k 0 s = F1 k 0 s := fun k s z => by rw [up_app, if_neg (by omega)]
  have hcnt := smF_in (f := cnR B t) (a := 0) (b := 1) (N := (10 * B 30 0 12).toNat) (fun q _ => by unfold cnR; split <;> omega) (by omega) (by omega)
  refine ⟨fun k i s a b => ?_, ?_, fun q hqq => ?_, fun q hqq => ?_, ?_, ?_, fun hall => ?_, fun s hs hne hmin => ?_⟩
  · rw [up_app, if_neg (by omega), lH k i s a (by omega)]
    exact hE k i s a b
  · rw [up_app, if_pos ⟨rfl, rfl, rfl⟩, h7]
    omega
  · rw [u 36 q (by omega), u 37 q (by omega), u 38 q (by omega), u 39 q (by omega)]
    have hcq := hc q hqq
    have hl := llt q (by omega)
    rcases hq q hqq with ⟨a1, a2, a3, a4⟩ | ⟨a1, a2⟩
    · have l := hl.1 a1
      refine ⟨fun z => absurd z (by omega), fun _ => l.1, by rw [a3]; exact l.2.1, ?_⟩
      unfold costR
      rw [if_neg (by omega), a3, ← a4]
      exact l.2.2
    · have l := hl.2 a1
      have ec : costR B (t + 1) q = costR B t q := by unfold costR; rw [a2]
      rw [a2, ec]
      refine ⟨fun z => ⟨l.1.trans (hcq.1 z).1, fun w => ?_⟩, fun z => ?_, l.2.2.2.1.trans hcq.2.2.1, l.2.2.2.2.trans hcq.2.2.2⟩
      · rw [l.2.1 (by rw [(hcq.1 z).1]; exact w), (hcq.1 z).2 w]
        omega
      · rw [l.1]; exact hcq.2.1 z
  · rw [u 36 q (by omega), u 37 q (by omega), u 38 q (by omega), u 39 q (by omega)]
    have l := lge q (by omega)
    have g := hge q hqq
    exact ⟨l.1.trans g.1, l.2.1.trans g.2.1, l.2.2.1.trans g.2.2.1, l.2.2.2.trans g.2.2.2⟩
  · rw [u 30 9 (by omega), l9, shI_sm h9, Int.add_assoc, ← smF_add]
    refine congrArg (fun z => bm (B 30 0 9 + z)) (smF_c fun q hqq => ?_)
    rcases hq q (by omega) with ⟨a1, a2, a3, a4⟩ | ⟨a1, a2⟩
    · show costR B t q + (if ofI F q then be1 F q else 0) = costR B (t + 1) q
      unfold costR
      rw [if_pos a1, if_pos a2, if_neg (by omega), a3, a4]
      omega
    · show costR B t q + (if ofI F q then be1 F q else 0) = costR B (t + 1) q
      unfold costR
      rw [if_neg a1, a2]
      omega
  · rw [u 30 30 (by omega), l30, cnI_sm (by omega) (by omega) (by omega), h30, ← smF_add]
    refine smF_c fun q hqq => ?_
    rcases hq q (by omega) with ⟨a1, a2, a3, a4⟩ | ⟨a1, a2⟩
    · show cnR B t q + (if ofI F q then 1 else 0) = cnR B (t + 1) q
      unfold cnR
      rw [if_pos a1, if_pos a2, if_neg (by omega)]
      omega
    · show cnR B t q + (if ofI F q then 1 else 0) = cnR B (t + 1) q
      unfold cnR
      rw [if_neg a1, a2]
      omega
  · rw [u 30 31 (by omega), u 30 32 (by omega), u 30 33 (by omega)]
    have hno : ∀ q : Nat, (q : Int) < 10 * B 30 0 12 → ¬ ofI F q ∧ whenR B t q = -1 := fun q hqq => by
      rcases hq q hqq with ⟨a1, a2, a3, a4⟩ | ⟨a1, a2⟩
      · have := hall q hqq
        omega
      · exact ⟨a1, a2 ▸ hall q hqq⟩
    have g := hn1 (fun q hqq => (hno q hqq).2)
    have l := ln1 g.2.2 (fun q hqq => (hno q (by omega)).1)
    exact ⟨l.1.trans g.1, l.2.1.trans g.2.1, l.2.2.trans g.2.2⟩
  · rw [u 30 31 (by omega), u 30 32 (by omega), u 30 33 (by omega)]
    have hst : ∀ j : Nat, (j : Int) < 10 * B 30 0 12 → whenR B t j ≠ -1 → whenR B (t + 1) j = whenR B t j := fun j hj z => by
      rcases hq j hj with ⟨a1, a2, a3, a4⟩ | ⟨a1, a2⟩
      · exact absurd a2 z
      · exact a2
    by_cases hs1 : whenR B t s = -1
    · have hall : ∀ j : Nat, (j : Int) < 10 * B 30 0 12 → whenR B t j = -1 := fun j hj => by
        refine Decidable.byContradiction fun z => ?_
        have e := hst j hj z
        have m := hmin j hj (by rw [e]; exact z)
        have i := whenR_in B t j
        rcases hq s hs with ⟨a1, a2, a3, a4⟩ | ⟨a1, a2⟩
        · omega
        · omega
      have g := hn1 hall
      rcases hq s hs with ⟨a1, a2, a3, a4⟩ | ⟨a1, a2⟩
      · have l := ln2 g.2.2 s (by omega) a1 (fun j hj z => by
          rcases hq j (by omega) with ⟨b1, b2, b3, b4⟩ | ⟨b1, b2⟩
          · have m := hmin j (by omega) (by omega)
            omega
          · exact b1 z)
        rw [a3]
        exact ⟨l.1.trans ((hc s hs).1 hs1).1, l.2.1, l.2.2⟩
      · exact absurd (a2.trans hs1) hne
    · have e := hst s hs hs1
      have g := hn2 s hs hs1 (fun j hj z => by
        have m := hmin j hj (by rw [hst j hj z]; exact z)
        rw [hst j hj z, e] at m
        exact m)
      have l := ln0 (by rw [g.2.2]; exact hs1)
      rw [e]
      exact ⟨l.1.trans g.1, l.2.1.trans g.2.1, l.2.2.trans g.2.2⟩
end
section
/-! the reference: runs, run, off -/

theorem RN.ag {B F S : IM} {t : Nat} (h : RN B t F) (ha : agY S F) : RN B t S := by
  obtain ⟨hE, h7, hc, hge, h9, h30, hn1, hn2⟩ := h
  have r : ∀ k s, 36 ≤ k → S k 0 s = F k 0 s := fun k s _ => ha k 0 s (by omega)
  have e : ∀ s, (s < 15 ∨ 29 < s) → S 30 0 s = F 30 0 s := fun s _ => ha 30 0 s (by omega)
  refine ⟨fun k i s a b => (ha k i s (by omega)).trans (hE k i s a b), by rw [e 7 (by omega)]; exact h7, fun q hq => ?_, fun q hq => ?_, by rw [e 9 (by omega)]; exact h9, by rw [e 30 (by omega)]; exact h30, ?_, ?_⟩
  · rw [r 36 q (by omega), r 37 q (by omega), r 38 q (by omega), r 39 q (by omega)]
    exact hc q hq
  · rw [r 36 q (by omega), r 37 q (by omega), r 38 q (by omega), r 39 q (by omega)]
    exact hge q hq
  · rw [e 31 (by omega), e 32 (by omega), e 33 (by omega)]
    exact hn1
  · rw [e 31 (by omega), e 32 (by omega), e 33 (by omega)]
    exact hn2
theorem ho1_in {im : IM} {q : Nat} (hk : 0 ≤ im 35 0 (q / 10) ∧ im 35 0 (q / 10) < 10) : 1 ≤ ho1 im q ∧ ho1 im q ≤ 108 := by
  have h := sayR_in im (im 30 0 4).toNat 1 (nmA (im 36 0 q) 0 (im 30 0 7) (im 35 0 (q / 10)) ((q % 10 : Nat) : Int) (im 37 0 q + 1))
  unfold ho1 holdsK heldK
  (repeat' split) <;> omega
theorem beT_in {im : IM} {q : Nat} (hk : 0 ≤ im 35 0 (q / 10) ∧ im 35 0 (q / 10) < 10) (x : Int) : 0 ≤ beT im q x ∧ beT im q x ≤ 700 := beK_in (fun a b => sayR_in im _ a b) hk.1 hk.2
/-- an hour keeps it -/
theorem RC_hr {S S1 : IM} {t : Int} (ht : t ≠ -1) (h : RC S) (hA : AG S 1000) (h7 : S 30 0 7 ≤ 1099) (hR : RI S1) (ha : agY S1 (up (lvN S t (10 * S 30 0 12).toNat) 30 0 7 (S 30 0 7 + 1))) : RC S1 ∧ AG S1 1000 := by
  have hL := LV_N S ht (10 * S 30 0 12).toNat
  have h12 := h.2.2.2.1
  have h7b := h.2.2.2.2.1
  have e7 : lvN S t (10 * S 30 0 12).toNat 30 0 7 = S 30 0 7 := hL.1 30 0 7 (by omega) (by omega)
  have hR0 : RI (up S1 30 0 7 (S 30 0 7)) := RI_up hR (h.1 _ _ _)
  have ha0 : agY (up S1 30 0 7 (S 30 0 7)) (lvN S t (10 * S 30 0 12).toNat) := by
    intro k i s hs
    rw [up_app]
    split
    · rename_i e
      obtain ⟨rfl, rfl, rfl⟩ := e
      exact e7.symm
    · rename_i e
      rw [ha k i s hs, up_app, if_neg e]
  have g := RC_lv h hA hR0 ha0 hL
  have s7 : S1 30 0 7 = S 30 0 7 + 1 := (ha 30 0 7 (by omega)).trans (by rw [up_app, if_pos ⟨rfl, rfl, rfl⟩])
  have s12 : S1 30 0 12 = S 30 0 12 := ((ha 30 0 12 (by omega)).trans (by rw [up_app, if_neg (by omega)])).trans (hL.1 30 0 12 (by omega) (by omega))
  refine ⟨g.1.C hR ⟨fun k s h1 h2 => ?_, ?_, ?_, ?_, ?_, ?_⟩ (by omega), fun q hq hne => ?_⟩
  · rw [up_app, if_neg (by omega)]
  · rw [up_app, if_neg (by omega)]
  · rw [up_app, if_neg (by omega)]
  · rw [up_app, if_neg (by omega)]
  · rw [up_app, if_neg (by omega)]
  · rw [up_app, if_neg (by omega)]
  · rw [s12] at hq
    have e36 : S1 36 0 q = lvN S t (10 * S 30 0 12).toNat 36 0 q := (ha 36 0 q (by omega)).trans (by rw [up_app, if_neg (by omega)])
    have e37 : S1 37 0 q = lvN S t (10 * S 30 0 12).toNat 37 0 q := (ha 37 0 q (by omega)).trans (by rw [up_app, if_neg (by omega)])
    rw [e36] at hne
    rw [e37]
    have l := hL.2.2.1 q (by omega)
    by_cases ho : ofI S q
    · exact absurd (l.1 ho).1 hne
    · have l2 := l.2 ho
      have hw : S 36 0 q ≠ -1 := by rw [← l2.1]; exact hne
      rw [l2.2.1 hw]
      have hp := (h.2.2.2.2.2.2 (q / 10) (by omega)).2.1
      have i := ho1_in (im := S) (q := q) hp
      have : ¬ ho1 S q ≤ S 37 0 q + 1 := fun z => ho ⟨hw, z⟩
      omega
theorem TR_C {a b : IM} (h : agC a b) : TR a = TR b := by
  obtain ⟨c, e3, e4, e6, e8, e12⟩ := h
  funext part nm
  unfold TR sayR
  have e31 : rowR a (a 30 0 4).toNat = rowR b (b 30 0 4).toNat := by
    rw [e4]
    exact funext fun i => c 31 _ (by omega) (by omega)
  rw [e31, e4, c 32 _ (by omega) (by omega)]
theorem when_C {a b : IM} (h : agC a b) (h7 : a 30 0 7 = b 30 0 7) : whenR a = whenR b ∧ costR a = costR b ∧ cnR a = cnR b := by
  have hT := TR_C h
  obtain ⟨c, e3, e4, e6, e8, e12⟩ := h
  have ew : whenR a = whenR b := by
    funext n q
    unfold whenR goR
    rw [e12, hT, c 34 _ (by omega) (by omega), c 35 _ (by omega) (by omega), c 36 _ (by omega) (by omega), c 37 _ (by omega) (by omega), h7]
  refine ⟨ew, ?_, ?_⟩
  · funext n q
    unfold costR beT
    rw [ew, hT, c 34 _ (by omega) (by omega), c 35 _ (by omega) (by omega), c 36 _ (by omega) (by omega), c 37 _ (by omega) (by omega), h7, e8]
  · funext n q
    unfold cnR
    rw [ew]
/-- all but what a run may leave another -/
def agO (a b : IM) : Prop := ∀ k s, ¬ (38 ≤ k ∧ k ≤ 41) → ¬ (k = 30 ∧ (15 ≤ s ∧ s ≤ 33 ∨ 38 ≤ s ∧ s ≤ 40)) → a k 0 s = b k 0 s
theorem agO_rfl (a : IM) : agO a a := fun _ _ _ _ => rfl
theorem agO.trans {a b c : IM} (h : agO a b) (h2 : agO b c) : agO a c := fun k s x y => (h k s x y).trans (h2 k s x y)
theorem agO.C {a b : IM} (h : agO a b) : agC a b ∧ a 30 0 7 = b 30 0 7 := ⟨⟨fun k s _ _ => h k s (by omega) (by omega), h 30 3 (by omega) (by omega), h 30 4 (by omega) (by omega), h 30 6 (by omega) (by omega), h 30 8 (by omega) (by omega), h 30 12 (by omega) (by omega)⟩, h 30 7 (by omega) (by omega)⟩
theorem RC.O {a b : IM} (h : RC b) (hR : RI a) (ha : agO a b) : RC a := h.C hR ha.C.1 (by rw [ha.C.2]; exact h.2.2.2.2.1)
theorem agY.O {a b : IM} (h : agY a b) : agO a b := fun k s _ _ => h k 0 s (by omega)
/-- what a run leaves to be asked -/
def RU (im : IM) (n : Nat) (a : IM) : Prop := agO a im ∧ (∀ q, q < 50 → a 38 0 q = whenR im n q ∧ a 39 0 q = costR im n q) ∧ a 30 0 40 = smF (costR im n) 50 ∧ a 30 0 30 = smF (cnR im n) 50 ∧ a 30 0 31 = (if fstG (whenR im n) 50 = -1 then -1 else im 36 0 (fstG (whenR im n) 50).toNat) ∧ a 30 0 32 = (if fstG (whenR im n) 50 = -1 then -1 else fstG (whenR im n) 50 / 10) ∧ a 30 0 33 = (if fstG (whenR im n) 50 = -1 then -1 else whenR im n (fstG (whenR im n) 50).toNat)
theorem asideI_c (im : IM) {k i s : Nat} (h : ¬ (38 ≤ k ∧ k ≤ 41)) (h2 : ¬ (k = 30 ∧ (30 ≤ s ∧ s ≤ 33 ∨ s = 38 ∨ s = 39))) : asideI im k i s = im k i s := by
  unfold asideI
  rw [bgI_c 50 (by omega) (by omega), up_app, if_neg (by omega), up_app, if_neg (by omega), cp2_app, if_neg (by omega), if_neg (by omega)]
theorem asideI_C (im : IM) : agC (asideI im) im := ⟨fun k s _ _ => asideI_c im (by omega) (by omega), asideI_c im (by omega) (by omega), asideI_c im (by omega) (by omega), asideI_c im (by omega) (by omega), asideI_c im (by omega) (by omega), asideI_c im (by omega) (by omega)⟩
theorem asideI_RI {im : IM} (h : RI im) : RI (asideI im) := bgI_RI (RI_up (RI_up (cp2_RI h _ _ _ _ _) (h _ _ _)) (h _ _ _)) _
theorem asideI_k (im : IM) {s : Nat} (hs : s < 50) : asideI im 38 0 s = -1 ∧ asideI im 39 0 s = 0 ∧ asideI im 40 0 s = im 36 0 s ∧ asideI im 41 0 s = im 37 0 s := by
  unfold asideI
  refine ⟨?_, ?_, ?_, ?_⟩
  · rw [bgI_app, if_pos ⟨rfl, rfl, hs⟩]
  · rw [bgI_app, if_neg (by omega), if_pos ⟨rfl, rfl, hs⟩]
  · rw [bgI_c 50 (by omega) (by omega), up_app, if_neg (by omega), up_app, if_neg (by omega), cp2_app, if_pos ⟨rfl, rfl, hs⟩]
  · rw [bgI_c 50 (by omega) (by omega), up_app, if_neg (by omega), up_app, if_neg (by omega), cp2_app, if_neg (by omega), if_pos ⟨rfl, rfl, hs⟩]
theorem asideI_RN {im : IM} (h : RC im) : RN (asideI im) 0 (asideI im) := by
  have h12 := h.2.2.2.1
  have e12 : asideI im 30 0 12 = im 30 0 12 := rfl
  refine RN_0 (fun q hq => ?_) (h.1 30 0 9) rfl ⟨rfl, rfl, rfl⟩
  have := asideI_k im (s := q) (by omega)
  exact ⟨this.1, this.2.1⟩
theorem backI_c (im : IM) {k i s : Nat} (h : ¬ (k = 36 ∨ k = 37)) (h2 : ¬ (k = 30 ∧ (s = 40 ∨ s = 7 ∨ s = 9))) : backI im k i s = im k i s := by
  unfold backI
  rw [up_app, if_neg (by omega), up_app, if_neg (by omega), up_app, if_neg (by omega), cp2_app, if_neg (by omega), if_neg (by omega)]
theorem backI_RI {im : IM} (h : RI im) : RI (backI im) := RI_up (RI_up (RI_up (cp2_RI h _ _ _ _ _) (ri_b _)) (h _ _ _)) (h _ _ _)
theorem backI_R {im S : IM} (hS : ∀ k s, ¬ (36 ≤ k ∧ k ≤ 39) → ¬ (k = 30 ∧ (s = 7 ∨ s = 9 ∨ 15 ≤ s ∧ s ≤ 33)) → S k 0 s = asideI im k 0 s) (hx : ∀ k s, (k = 36 ∨ k = 37) → 50 ≤ s → S k 0 s = im k 0 s) : agO (backI S) im := by
  intro k s a b
  by_cases h36 : k = 36 ∨ k = 37
  · by_cases hs : s < 50
    · have k4 := asideI_k im hs
      have e40 : S 40 0 s = im 36 0 s := (hS 40 s (by omega) (by omega)).trans k4.2.2.1
      have e41 : S 41 0 s = im 37 0 s := (hS 41 s (by omega) (by omega)).trans k4.2.2.2
      unfold backI
      rw [up_app, if_neg (by omega), up_app, if_neg (by omega), up_app, if_neg (by omega), cp2_app]
      rcases h36 with rfl | rfl
      · rw [if_pos ⟨rfl, rfl, hs⟩]; exact e40
      · rw [if_neg (by omega), if_pos ⟨rfl, rfl, hs⟩]; exact e41
    · unfold backI
      rw [up_app, if_neg (by omega), up_app, if_neg (by omega), up_app, if_neg (by omega), cp2_app, if_neg (by omega), if_neg (by omega)]
      exact hx k s h36 (by omega)
  · by_cases h7 : k = 30 ∧ (s = 7 ∨ s = 9)
    · obtain ⟨rfl, h7⟩ := h7
      have e38 : S 30 0 38 = im 30 0 7 := hS 30 38 (by omega) (by omega)
      have e39 : S 30 0 39 = im 30 0 9 := hS 30 39 (by omega) (by omega)
      rcases h7 with rfl | rfl
      · exact e38
      · exact e39
    · rw [backI_c S h36 (by omega), hS k s (by omega) (by omega)]
      exact asideI_c im (by omega) (by omega)
/-- hours over: what a run answers -/
theorem RU_of {im S : IM} {n : Nat} (h : RC im) (hN : RN (asideI im) n S) (hxx : ∀ k s, (k = 36 ∨ k = 37) → 50 ≤ s → asideI im k 0 s = im k 0 s) : RU im n (backI S) := by
  have h12 := h.2.2.2.1
  have hP := h.2.2.2.2.2.2
  have e12 : asideI im 30 0 12 = im 30 0 12 := rfl
  have eW := when_C (asideI_C im) rfl
  obtain ⟨hE, h7, hc, hge, h9, h30, hn1, hn2⟩ := hN
  rw [e12] at hc hge h9 h30 hn1 hn2
  rw [eW.1] at hc hn1 hn2
  rw [eW.2.1] at hc h9
  rw [eW.2.2] at h30
  have hm : ∀ n q : Nat, 10 * im 30 0 12 ≤ (q : Int) → whenR im n q = -1 := fun n q hq => by
    unfold whenR
    rw [if_neg (by omega)]
  have hm2 : ∀ q : Nat, 10 * im 30 0 12 ≤ (q : Int) → costR im n q = 0 := fun q hq => by
    unfold costR
    rw [if_pos (hm n q hq)]
  have hm3 : ∀ q : Nat, 10 * im 30 0 12 ≤ (q : Int) → cnR im n q = 0 := fun q hq => by
    unfold cnR
    rw [if_pos (hm n q hq)]
  have e50 : (10 * im 30 0 12).toNat + (50 - (10 * im 30 0 12).toNat) = 50 := by omega
  have s9 := smF_ext (f := costR im n) (N := (10 * im 30 0 12).toNat) (50 - (10 * im 30 0 12).toNat) (fun q hq => hm2 q (by omega))
  have s30 := smF_ext (f := cnR im n) (N := (10 * im 30 0 12).toNat) (50 - (10 * im 30 0 12).toNat) (fun q hq => hm3 q (by omega))
  rw [e50] at s9 s30
  have hb := smF_in (f := costR im n) (a := 0) (b := 700) (N := 50) (fun q hq => by
    unfold costR
    split
    · omega
    · rename_i z
      have hq2 : ((q / 10 : Nat) : Int) < im 30 0 12 := Decidable.byContradiction fun y => z (by unfold whenR; rw [if_neg y])
      exact beT_in (hP (q / 10) hq2).2.1 _) (by omega) (by omega)
  have c : ∀ s, ¬ (s = 40 ∨ s = 7 ∨ s = 9) → backI S 30 0 s = S 30 0 s := fun s hs => backI_c S (by omega) (by omega)
  have hr : ∀ q, q < 50 → S 38 0 q = whenR im n q ∧ S 39 0 q = costR im n q := fun q hq => by
    by_cases y : (q : Int) < 10 * im 30 0 12
    · exact (hc q y).2.2
    · have g := hge q (by omega)
      have a := asideI_k im hq
      rw [hm n q (by omega), hm2 q (by omega), g.2.2.1, g.2.2.2]
      exact ⟨a.1, a.2.1⟩
  refine ⟨backI_R (fun k s a b => hE k 0 s a (by omega)) (fun k s hk hs => ?_), fun q hq => ?_, ?_, ?_, ?_⟩
  · have g := hge s (by omega)
    rw [← hxx k s hk hs]
    rcases hk with rfl | rfl
    · exact g.1
    · exact g.2.1
  · rw [backI_c S (by omega) (by omega), backI_c S (by omega) (by omega)]
    exact hr q hq
  · show bm (S 30 0 9 - S 30 0 39) = smF (costR im n) 50
    have e39 : S 30 0 39 = im 30 0 9 := hE 30 0 39 (by omega) (by omega)
    have e9 : asideI im 30 0 9 = im 30 0 9 := rfl
    rw [h9, e39, e9, bm_sub, ← s9, Int.add_comm, Int.add_sub_cancel]
    exact bm_idd (by constructor <;> omega)
  · rw [c 30 (by omega), h30, s30]
  · rw [c 31 (by omega), c 32 (by omega), c 33 (by omega)]
    rcases fstG_in (whenR im n) 50 with ⟨a1, a2⟩ | ⟨s, hs, a2, a3, a4⟩
    · rw [a2, if_pos rfl, if_pos rfl, if_pos rfl]
      exact hn1 (fun q hq => a1 q (by omega))
    · have e : (fstG (whenR im n) 50).toNat = s := by omega
      rw [e, if_neg (by omega), if_neg (by omega), if_neg (by omega), a2]
      have hs2 : (s : Int) < 10 * im 30 0 12 := Decidable.byContradiction fun y => a3 (hm n s (by omega))
      have g := hn2 s hs2 a3 (fun j hj => a4 j (by omega))
      exact ⟨g.1, g.2.1, g.2.2⟩
theorem RU.cost {im a : IM} {n : Nat} (h : RC im) (hU : RU im n a) : (∀ q, 0 ≤ costR im n q ∧ costR im n q ≤ 700) ∧ (0 ≤ smF (costR im n) 50 ∧ smF (costR im n) 50 ≤ 35000) := by
  have hP := h.2.2.2.2.2.2
  have hc : ∀ q, 0 ≤ costR im n q ∧ costR im n q ≤ 700 := fun q => by
    unfold costR
    split
    · omega
    · rename_i z
      have hq2 : ((q / 10 : Nat) : Int) < im 30 0 12 := Decidable.byContradiction fun y => z (by unfold whenR; rw [if_neg y])
      exact beT_in (hP (q / 10) hq2).2.1 _
  have := smF_in (f := costR im n) (a := 0) (b := 700) (N := 50) (fun q _ => hc q) (by omega) (by omega)
  exact ⟨hc, by omega, by omega⟩
end
section
/-! the reference: runs, run, off: the walks -/

set_option maxHeartbeats 4000000 in
theorem c_X9_runs (l : Launch) (G : GS) (im : IM) (bt rt : Nat) (lm : IM) (h : RC im) (hA : AG im 1000) (h7 : im 30 0 7 ≤ 999) (n : Nat) (hn : n ≤ 60) : Cn l (XR G) yX9_runs Y_X9_runs [vR 30 0, vI (n : Int)] (im, rs bt rt, lm) (pV fun m' => ∃ im' lm', RI im' ∧ RU im n im' ∧ lgQ lm' lm ∧ m' = (im', rs bt rt, lm')) := by
  refine cn_of (by decide) (okR G) rfl (Nat.le_of_ble_eq_true rfl) ?_
  intro M ad hMl F
  subst hMl
  have hR := h.1
  have hRa := asideI_RI h.1
  have hRCa : RC (asideI im) := h.C hRa (asideI_C im) h.2.2.2.2.1
  have hAa : AG (asideI im) 1000 := hA.C (asideI_C im)
  have h70 := h.2.2.2.2.1
  have h12 := h.2.2.2.1
  have hN0 := asideI_RN h
  have ea7 : asideI im 30 0 7 = im 30 0 7 := rfl
  have ea12 : asideI im 30 0 12 = im 30 0 12 := rfl
  refine wp_pad 1 ?_
  show Wp M (XR G) ad Y_X9_runs (pV fun m' => ∃ im' lm', RI im' ∧ RU im n im' ∧ lgQ lm' lm ∧ m' = (im', rs bt rt, lm')) 0 [some (vR 30 0), some (vI (n : Int)), none] [] (im, rs bt rt, lm)
  refine q_aload_n (t := 1) F dX9_runs_0 rfl rfl rfl ?_
  refine wp_callV (t := 4) [] F dX9_runs_1 k_X9_laysAside v_X9_laysAside ml_X9_404 rfl rfl rfl rfl (Nat.le_of_ble_eq_true rfl) (by decide) (m_30 (by omega)) (g_X9_laysAside _ G im bt rt lm hR) rfl (kV ?_)
  rintro m' rfl
  refine q_iconst (t := 5) F dX9_runs_4 rfl ?_
  refine q_istore_n (t := 6) F dX9_runs_5 rfl (by decide) rfl rfl ?_
  have L6 : ∀ (fz : Nat) (t : Nat) (S lg : IM), 61 - t < fz → (t ≤ n ∧ RI S ∧ RC S ∧ AG S 1000 ∧ RN (asideI im) t S ∧ lgQ lg lm) → Wp M (XR G) ad Y_X9_runs (pV fun m' => ∃ im' lm', RI im' ∧ RU im n im' ∧ lgQ lm' lm ∧ m' = (im', rs bt rt, lm')) 6 [some (vR 30 0), some (vI (n : Int)), some (vI (t : Int))] [] (S, rs bt rt, lg) := by
    intro fz
    induction fz with
    | zero => intro t S lg h; exact absurd h (Nat.not_lt_zero _)
    | succ fz ih =>
      have ih6 := ih
      intro t S lg hmeas ⟨ht, hR, hRC, hAS, hN, hlg⟩
      refine q_iload_n (t := 7) F dX9_runs_6 rfl rfl rfl ?_
      refine q_iload_n (t := 8) F dX9_runs_7 rfl rfl rfl ?_
      refine q_icmp_ge (t := 11) (u := 22) F dX9_runs_8 (by constructor <;> omega) (by constructor <;> omega) (by decide) rfl (fun c8 => ?_) (fun c8 => ?_)
      · refine q_aload_n (t := 23) F dX9_runs_22 rfl rfl rfl ?_
        refine wp_callV (t := 26) [] F dX9_runs_23 k_X9_laysBack v_X9_laysBack ml_X9_407 rfl rfl rfl rfl (Nat.le_of_ble_eq_true rfl) (by decide) (m_30 (by omega)) (g_X9_laysBack _ G S bt rt lg hR) rfl (kV ?_)
        rintro m' rfl
        refine q_vret F dX9_runs_26 rfl ?_
        obtain rfl : t = n := by omega
        exact ⟨rfl, _, lg, backI_RI hR, RU_of h hN (fun k s hk hs => asideI_c im (by omega) (by omega)), hlg, rfl⟩
      · refine q_aload_n (t := 12) F dX9_runs_11 rfl rfl rfl ?_
        refine q_iload_n (t := 13) F dX9_runs_12 rfl rfl rfl ?_
        refine wp_callV (t := 16) [_] F dX9_runs_13 k_X9_lives v_X9_lives ml_X9_391 rfl rfl rfl rfl (Nat.le_of_ble_eq_true rfl) (by decide) (m_30 (by omega)) (c_X9_lives _ G S bt rt lg hRC hAS (t : Int) (by constructor <;> omega) (by omega)) rfl (kV ?_)
        rintro m' ⟨im2, lg2, hR2, hag2, hlg2, rfl⟩
        have eS12 : S 30 0 12 = im 30 0 12 := (hN.1 30 0 12 (by omega) (by omega)).trans ea12
        have eS7 := hN.2.1
        have hk := RC_hr (t := (t : Int)) (by omega) hRC hAS (by omega) hR2 hag2
        have hN2 : RN (asideI im) (t + 1) im2 := (RN_s (F1 := lvN S (t : Int) (10 * S 30 0 12).toNat) (by rw [ea12]; exact h12) hN (by rw [ea12, ← eS12]; exact LV_N S (t := (t : Int)) (by omega) _)).ag hag2
        refine q_iinc (t := 19) F dX9_runs_16 rfl (by decide) rfl rfl ?_
        refine q_goto (t := 6) F dX9_runs_19 (by decide) ?_
        rw [show (t : Int) + 1 = ((t + 1 : Nat) : Int) by omega]
        exact ih6 (t + 1) im2 lg2 (by omega) ⟨by omega, hR2, hk.1, hk.2, hN2, hlg2.trans hlg⟩
  exact L6 _ 0 (asideI im) lm (Nat.lt_succ_self _) ⟨by omega, hRa, hRCa, hAa, hN0, lgQ_rfl lm⟩

set_option maxHeartbeats 4000000 in
theorem c_X9_run (l : Launch) (G : GS) (im : IM) (bt rt : Nat) (lm : IM) (h : RC im) (hA : AG im 1000) (h79 : im 30 0 7 ≤ 999) (n what : Int) (hn : ri n) (hwhat : ri what) : Cn l (XR G) yX9_run Y_X9_run [vR 30 0, vI n, vI what] (im, rs bt rt, lm) (pI fun x m' => (¬ ((0 ≤ n ∧ n ≤ 60) ∧ 0 ≤ what ∧ what ≤ 4) → x = -2 ∧ m' = (im, rs bt rt, lm)) ∧ ((0 ≤ n ∧ n ≤ 60) ∧ 0 ≤ what ∧ what ≤ 4 → ∃ im' lm', x = (if what = 0 then im' 30 0 40 else if what = 1 then im' 30 0 30 else if what = 2 then im' 30 0 31 else if what = 3 then im' 30 0 32 else im' 30 0 33) ∧ RI im' ∧ RU im n.toNat im' ∧ lgQ lm' lm ∧ m' = (im', rs bt rt, lm'))) := by
  refine cn_of (by decide) (okR G) rfl (Nat.le_of_ble_eq_true rfl) ?_
  intro M ad hMl F
  subst hMl
  have hR := h.1
  have hX := h.2.1
  have h4 := h.2.2.1
  have h12 := h.2.2.2.1
  have h7 := h.2.2.2.2.1
  have h6 := hX.2.2.1
  have h3 := hX.2.2.2.1
  have hP := h.2.2.2.2.2.2
  have hR := h.1
  have n1 := hn.1
  have n2 := hn.2
  have what1 := hwhat.1
  have what2 := hwhat.2
  refine wp_pad 0 ?_
  show Wp M (XR G) ad Y_X9_run (pI fun x m' => (¬ ((0 ≤ n ∧ n ≤ 60) ∧ 0 ≤ what ∧ what ≤ 4) → x = -2 ∧ m' = (im, rs bt rt, lm)) ∧ ((0 ≤ n ∧ n ≤ 60) ∧ 0 ≤ what ∧ what ≤ 4 → ∃ im' lm', x = (if what = 0 then im' 30 0 40 else if what = 1 then im' 30 0 30 else if what = 2 then im' 30 0 31 else if what = 3 then im' 30 0 32 else im' 30 0 33) ∧ RI im' ∧ RU im n.toNat im' ∧ lgQ lm' lm ∧ m' = (im', rs bt rt, lm'))) 0 [some (vR 30 0), some (vI n), some (vI what)] [] (im, rs bt rt, lm)
  refine q_iload_n (t := 1) F dX9_run_0 rfl rfl rfl ?_
  refine q_i2l (t := 2) F dX9_run_1 (by first | exact hR _ _ _ | (constructor <;> omega)) rfl ?_
  refine q_lconst (t := 3) (x := 0) F dX9_run_2 (by decide) rfl ?_
  refine q_ldc2 (t := 6) (x := 60) F dX9_run_3 kl_X9_242 (by decide) rfl ?_
  refine wp_callS (t := 9) [_, _, _] F dX9_run_6 k_X9_in st_X9_in ml_X9_91 rfl rfl (Nat.le_of_ble_eq_true rfl) (by decide) (c_X9_in _ G _ _ _ _ _ _ _ (by constructor <;> omega) (by constructor <;> omega) (by constructor <;> omega)) rfl (kI ?_)
  rintro x6 m' ⟨hx6, rfl⟩
  have hx6 := if01 hx6
  refine q_if_eq (t := 12) (u := 24) F dX9_run_9 (by first | exact hR _ _ _ | (constructor <;> omega)) (by decide) rfl (fun c9 => ?_) (fun c9 => ?_)
  · refine q_bipush (t := 26) F dX9_run_24 (by decide) rfl ?_
    refine q_iret F dX9_run_26 rfl ?_
    first
      | exact ⟨_, rfl, fun _ => ⟨rfl, rfl⟩, fun z => absurd z (by omega)⟩
      | (refine ⟨_, rfl, fun z => absurd (by omega) z, fun _ => ⟨im2, lm2, ?_, hR2, hU, hlg2, rfl⟩⟩
         (repeat' split) <;> first | rfl | (exfalso; omega))
  · refine q_iload_n (t := 13) F dX9_run_12 rfl rfl rfl ?_
    refine q_i2l (t := 14) F dX9_run_13 (by first | exact hR _ _ _ | (constructor <;> omega)) rfl ?_
    refine q_lconst (t := 15) (x := 0) F dX9_run_14 (by decide) rfl ?_
    refine q_ldc2 (t := 18) (x := 4) F dX9_run_15 kl_X9_125 (by decide) rfl ?_
    refine wp_callS (t := 21) [_, _, _] F dX9_run_18 k_X9_in st_X9_in ml_X9_91 rfl rfl (Nat.le_of_ble_eq_true rfl) (by decide) (c_X9_in _ G _ _ _ _ _ _ _ (by constructor <;> omega) (by constructor <;> omega) (by constructor <;> omega)) rfl (kI ?_)
    rintro x18 m' ⟨hx18, rfl⟩
    have hx18 := if01 hx18
    refine q_if_ne (t := 24) (u := 27) F dX9_run_21 (by first | exact hR _ _ _ | (constructor <;> omega)) (by decide) rfl (fun c21 => ?_) (fun c21 => ?_)
    · refine q_aload_n (t := 28) F dX9_run_27 rfl rfl rfl ?_
      refine q_iload_n (t := 29) F dX9_run_28 rfl rfl rfl ?_
      rw [show vI n = vI ((n.toNat : Nat) : Int) by rw [Int.toNat_of_nonneg (by omega)]]
      refine wp_callV (t := 32) [_] F dX9_run_29 k_X9_runs v_X9_runs ml_X9_410 rfl rfl rfl rfl (Nat.le_of_ble_eq_true rfl) (by decide) (m_30 (by omega)) (c_X9_runs _ G im bt rt lm h hA h79 n.toNat (by omega)) rfl (kV ?_)
      rintro m' ⟨im2, lm2, hR2, hU, hlg2, rfl⟩
      rw [show vI ((n.toNat : Nat) : Int) = vI n by rw [Int.toNat_of_nonneg (by omega)]]
      refine q_iload_n (t := 33) F dX9_run_32 rfl rfl rfl ?_
      refine q_iconst (t := 34) F dX9_run_33 rfl ?_
      refine q_icmp_ge (t := 37) (u := 53) F dX9_run_34 (by first | exact hR _ _ _ | (constructor <;> omega)) (by first | exact hR _ _ _ | (constructor <;> omega)) (by decide) rfl (fun c34 => ?_) (fun c34 => ?_)
      · refine q_iload_n (t := 54) F dX9_run_53 rfl rfl rfl ?_
        refine q_iconst (t := 55) F dX9_run_54 rfl ?_
        refine q_icmp_ne (t := 58) (u := 65) F dX9_run_55 (by first | exact hR _ _ _ | (constructor <;> omega)) (by first | exact hR _ _ _ | (constructor <;> omega)) (by decide) rfl (fun c55 => ?_) (fun c55 => ?_)
        · refine q_iload_n (t := 66) F dX9_run_65 rfl rfl rfl ?_
          refine q_iconst (t := 67) F dX9_run_66 rfl ?_
          refine q_icmp_ne (t := 70) (u := 77) F dX9_run_67 (by first | exact hR _ _ _ | (constructor <;> omega)) (by first | exact hR _ _ _ | (constructor <;> omega)) (by decide) rfl (fun c67 => ?_) (fun c67 => ?_)
          · refine q_aload_n (t := 78) F dX9_run_77 rfl rfl rfl ?_
            refine g_X9_379 (t := 81) F dX9_run_78 rfl rfl ?_
            try simp only [up_app, row_app, scr_app, cpy_app, Nat.reduceEqDiff, Int.reduceToNat, Int.toNat_natCast, and_true, true_and, and_false, false_and, and_self, reduceIte]
            refine q_iret F dX9_run_81 rfl ?_
            first
              | exact ⟨_, rfl, fun _ => ⟨rfl, rfl⟩, fun z => absurd z (by omega)⟩
              | (refine ⟨_, rfl, fun z => absurd (by omega) z, fun _ => ⟨im2, lm2, ?_, hR2, hU, hlg2, rfl⟩⟩
                 (repeat' split) <;> first | rfl | (exfalso; omega))
          · refine q_aload_n (t := 71) F dX9_run_70 rfl rfl rfl ?_
            refine g_X9_376 (t := 74) F dX9_run_71 rfl rfl ?_
            try simp only [up_app, row_app, scr_app, cpy_app, Nat.reduceEqDiff, Int.reduceToNat, Int.toNat_natCast, and_true, true_and, and_false, false_and, and_self, reduceIte]
            refine q_goto (t := 81) F dX9_run_74 (by decide) ?_
            refine q_iret F dX9_run_81 rfl ?_
            first
              | exact ⟨_, rfl, fun _ => ⟨rfl, rfl⟩, fun z => absurd z (by omega)⟩
              | (refine ⟨_, rfl, fun z => absurd (by omega) z, fun _ => ⟨im2, lm2, ?_, hR2, hU, hlg2, rfl⟩⟩
                 (repeat' split) <;> first | rfl | (exfalso; omega))
        · refine q_aload_n (t := 59) F dX9_run_58 rfl rfl rfl ?_
          refine g_X9_373 (t := 62) F dX9_run_59 rfl rfl ?_
          try simp only [up_app, row_app, scr_app, cpy_app, Nat.reduceEqDiff, Int.reduceToNat, Int.toNat_natCast, and_true, true_and, and_false, false_and, and_self, reduceIte]
          refine q_goto (t := 81) F dX9_run_62 (by decide) ?_
          refine q_iret F dX9_run_81 rfl ?_
          first
            | exact ⟨_, rfl, fun _ => ⟨rfl, rfl⟩, fun z => absurd z (by omega)⟩
            | (refine ⟨_, rfl, fun z => absurd (by omega) z, fun _ => ⟨im2, lm2, ?_, hR2, hU, hlg2, rfl⟩⟩
               (repeat' split) <;> first | rfl | (exfalso; omega))
      · refine q_iload_n (t := 38) F dX9_run_37 rfl rfl rfl ?_
        refine q_if_ne (t := 41) (u := 48) F dX9_run_38 (by first | exact hR _ _ _ | (constructor <;> omega)) (by decide) rfl (fun c38 => ?_) (fun c38 => ?_)
        · refine q_aload_n (t := 49) F dX9_run_48 rfl rfl rfl ?_
          refine g_X9_370 (t := 52) F dX9_run_49 rfl rfl ?_
          try simp only [up_app, row_app, scr_app, cpy_app, Nat.reduceEqDiff, Int.reduceToNat, Int.toNat_natCast, and_true, true_and, and_false, false_and, and_self, reduceIte]
          refine q_iret F dX9_run_52 rfl ?_
          first
            | exact ⟨_, rfl, fun _ => ⟨rfl, rfl⟩, fun z => absurd z (by omega)⟩
            | (refine ⟨_, rfl, fun z => absurd (by omega) z, fun _ => ⟨im2, lm2, ?_, hR2, hU, hlg2, rfl⟩⟩
               (repeat' split) <;> first | rfl | (exfalso; omega))
        · refine q_aload_n (t := 42) F dX9_run_41 rfl rfl rfl ?_
          refine g_X9_401 (t := 45) F dX9_run_42 rfl rfl ?_
          try simp only [up_app, row_app, scr_app, cpy_app, Nat.reduceEqDiff, Int.reduceToNat, Int.toNat_natCast, and_true, true_and, and_false, false_and, and_self, reduceIte]
          refine q_goto (t := 52) F dX9_run_45 (by decide) ?_
          refine q_iret F dX9_run_52 rfl ?_
          first
            | exact ⟨_, rfl, fun _ => ⟨rfl, rfl⟩, fun z => absurd z (by omega)⟩
            | (refine ⟨_, rfl, fun z => absurd (by omega) z, fun _ => ⟨im2, lm2, ?_, hR2, hU, hlg2, rfl⟩⟩
               (repeat' split) <;> first | rfl | (exfalso; omega))
    · refine q_bipush (t := 26) F dX9_run_24 (by decide) rfl ?_
      refine q_iret F dX9_run_26 rfl ?_
      first
        | exact ⟨_, rfl, fun _ => ⟨rfl, rfl⟩, fun z => absurd z (by omega)⟩
        | (refine ⟨_, rfl, fun z => absurd (by omega) z, fun _ => ⟨im2, lm2, ?_, hR2, hU, hlg2, rfl⟩⟩
           (repeat' split) <;> first | rfl | (exfalso; omega))

set_option maxHeartbeats 4000000 in
theorem c_X9_off (l : Launch) (G : GS) (im : IM) (bt rt : Nat) (lm : IM) (h : RC im) (hA : AG im 1000) (h79 : im 30 0 7 ≤ 999) (p g n : Int) (hp : ri p) (hg : ri g) (hn : ri n) : Cn l (XR G) yX9_off Y_X9_off [vR 30 0, vI p, vI g, vI n] (im, rs bt rt, lm) (pI fun x m' => (¬ ((0 ≤ p ∧ p < im 30 0 12) ∧ (0 ≤ g ∧ g ≤ 9) ∧ 0 ≤ n ∧ n ≤ 60) → x = -2 ∧ m' = (im, rs bt rt, lm)) ∧ ((0 ≤ p ∧ p < im 30 0 12) ∧ (0 ≤ g ∧ g ≤ 9) ∧ 0 ≤ n ∧ n ≤ 60 → ∃ im' lm', x = whenR im n.toNat (10 * p.toNat + g.toNat) ∧ RI im' ∧ RU im n.toNat im' ∧ lgQ lm' lm ∧ m' = (im', rs bt rt, lm'))) := by
  refine cn_of (by decide) (okR G) rfl (Nat.le_of_ble_eq_true rfl) ?_
  intro M ad hMl F
  subst hMl
  have hR := h.1
  have hX := h.2.1
  have h4 := h.2.2.1
  have h12 := h.2.2.2.1
  have h7 := h.2.2.2.2.1
  have h6 := hX.2.2.1
  have h3 := hX.2.2.2.1
  have hP := h.2.2.2.2.2.2
  have hR := h.1
  have p1 := hp.1
  have p2 := hp.2
  have g1 := hg.1
  have g2 := hg.2
  have n1 := hn.1
  have n2 := hn.2
  refine wp_pad 0 ?_
  show Wp M (XR G) ad Y_X9_off (pI fun x m' => (¬ ((0 ≤ p ∧ p < im 30 0 12) ∧ (0 ≤ g ∧ g ≤ 9) ∧ 0 ≤ n ∧ n ≤ 60) → x = -2 ∧ m' = (im, rs bt rt, lm)) ∧ ((0 ≤ p ∧ p < im 30 0 12) ∧ (0 ≤ g ∧ g ≤ 9) ∧ 0 ≤ n ∧ n ≤ 60 → ∃ im' lm', x = whenR im n.toNat (10 * p.toNat + g.toNat) ∧ RI im' ∧ RU im n.toNat im' ∧ lgQ lm' lm ∧ m' = (im', rs bt rt, lm'))) 0 [some (vR 30 0), some (vI p), some (vI g), some (vI n)] [] (im, rs bt rt, lm)
  refine q_aload_n (t := 1) F dX9_off_0 rfl rfl rfl ?_
  refine q_iload_n (t := 2) F dX9_off_1 rfl rfl rfl ?_
  refine wp_callV (t := 5) [_] F dX9_off_2 k_X9_isOne v_X9_isOne ml_X9_101 rfl rfl rfl rfl (Nat.le_of_ble_eq_true rfl) (by decide) (m_30 (by omega)) (c_X9_isOne _ G im bt rt lm hR h12.1 h12.2 p (by constructor <;> omega)) rfl (kI ?_)
  rintro x2 m' ⟨hx2, rfl⟩
  have hx2 := if01 hx2
  refine q_if_eq (t := 8) (u := 27) F dX9_off_5 (by first | exact hR _ _ _ | (constructor <;> omega)) (by decide) rfl (fun c5 => ?_) (fun c5 => ?_)
  · refine q_bipush (t := 29) F dX9_off_27 (by decide) rfl ?_
    refine q_iret F dX9_off_29 rfl ?_
    first
      | exact ⟨_, rfl, fun _ => ⟨rfl, rfl⟩, fun z => absurd z (by omega)⟩
      | (refine ⟨_, rfl, fun z => absurd (by omega) z, fun _ => ⟨im2, lm2, ?_, hR2, hU, hlg2, rfl⟩⟩
         exact (hU.2.1 (10 * p.toNat + g.toNat) (by omega)).1)
  · refine q_iload_n (t := 9) F dX9_off_8 rfl rfl rfl ?_
    refine wp_callS (t := 12) [_] F dX9_off_9 k_X9_isGap st_X9_isGap ml_X9_138 rfl rfl (Nat.le_of_ble_eq_true rfl) (by decide) (c_X9_isGap _ G im bt rt lm g (by constructor <;> omega)) rfl (kI ?_)
    rintro x9 m' ⟨hx9, rfl⟩
    have hx9 := if01 hx9
    refine q_if_eq (t := 15) (u := 27) F dX9_off_12 (by first | exact hR _ _ _ | (constructor <;> omega)) (by decide) rfl (fun c12 => ?_) (fun c12 => ?_)
    · refine q_bipush (t := 29) F dX9_off_27 (by decide) rfl ?_
      refine q_iret F dX9_off_29 rfl ?_
      first
        | exact ⟨_, rfl, fun _ => ⟨rfl, rfl⟩, fun z => absurd z (by omega)⟩
        | (refine ⟨_, rfl, fun z => absurd (by omega) z, fun _ => ⟨im2, lm2, ?_, hR2, hU, hlg2, rfl⟩⟩
           exact (hU.2.1 (10 * p.toNat + g.toNat) (by omega)).1)
    · refine q_iload_n (t := 16) F dX9_off_15 rfl rfl rfl ?_
      refine q_i2l (t := 17) F dX9_off_16 (by first | exact hR _ _ _ | (constructor <;> omega)) rfl ?_
      refine q_lconst (t := 18) (x := 0) F dX9_off_17 (by decide) rfl ?_
      refine q_ldc2 (t := 21) (x := 60) F dX9_off_18 kl_X9_242 (by decide) rfl ?_
      refine wp_callS (t := 24) [_, _, _] F dX9_off_21 k_X9_in st_X9_in ml_X9_91 rfl rfl (Nat.le_of_ble_eq_true rfl) (by decide) (c_X9_in _ G _ _ _ _ _ _ _ (by constructor <;> omega) (by constructor <;> omega) (by constructor <;> omega)) rfl (kI ?_)
      rintro x21 m' ⟨hx21, rfl⟩
      have hx21 := if01 hx21
      refine q_if_ne (t := 27) (u := 30) F dX9_off_24 (by first | exact hR _ _ _ | (constructor <;> omega)) (by decide) rfl (fun c24 => ?_) (fun c24 => ?_)
      · refine q_aload_n (t := 31) F dX9_off_30 rfl rfl rfl ?_
        refine q_iload_n (t := 32) F dX9_off_31 rfl rfl rfl ?_
        rw [show vI n = vI ((n.toNat : Nat) : Int) by rw [Int.toNat_of_nonneg (by omega)]]
        refine wp_callV (t := 35) [_] F dX9_off_32 k_X9_runs v_X9_runs ml_X9_410 rfl rfl rfl rfl (Nat.le_of_ble_eq_true rfl) (by decide) (m_30 (by omega)) (c_X9_runs _ G im bt rt lm h hA h79 n.toNat (by omega)) rfl (kV ?_)
        rintro m' ⟨im2, lm2, hR2, hU, hlg2, rfl⟩
        rw [show vI ((n.toNat : Nat) : Int) = vI n by rw [Int.toNat_of_nonneg (by omega)]]
        refine q_aload_n (t := 36) F dX9_off_35 rfl rfl rfl ?_
        refine g_X9_38 (t := 39) F dX9_off_36 rfl rfl ?_
        refine q_bipush (t := 41) F dX9_off_39 (by decide) rfl ?_
        refine q_iload_n (t := 42) F dX9_off_41 rfl rfl rfl ?_
        refine q_imul (t := 43) F dX9_off_42 rfl ?_
        refine q_iload_n (t := 44) F dX9_off_43 rfl rfl rfl ?_
        refine q_iadd (t := 45) F dX9_off_44 rfl ?_
        rw [show (10 : Int) * p + g = ((10 * p.toNat + g.toNat : Nat) : Int) by omega]
        first | refine ldN_38 (t := 46) F dX9_off_45 (by omega) rfl ?_ | refine ld_38 (t := 46) F dX9_off_45 (by omega) (by omega) rfl ?_
        try simp only [up_app, row_app, scr_app, cpy_app, Nat.reduceEqDiff, Int.reduceToNat, Int.toNat_natCast, and_true, true_and, and_false, false_and, and_self, reduceIte]
        refine q_iret F dX9_off_46 rfl ?_
        first
          | exact ⟨_, rfl, fun _ => ⟨rfl, rfl⟩, fun z => absurd z (by omega)⟩
          | (refine ⟨_, rfl, fun z => absurd (by omega) z, fun _ => ⟨im2, lm2, ?_, hR2, hU, hlg2, rfl⟩⟩
             exact (hU.2.1 (10 * p.toNat + g.toNat) (by omega)).1)
      · refine q_bipush (t := 29) F dX9_off_27 (by decide) rfl ?_
        refine q_iret F dX9_off_29 rfl ?_
        first
          | exact ⟨_, rfl, fun _ => ⟨rfl, rfl⟩, fun z => absurd z (by omega)⟩
          | (refine ⟨_, rfl, fun z => absurd (by omega) z, fun _ => ⟨im2, lm2, ?_, hR2, hU, hlg2, rfl⟩⟩
             exact (hU.2.1 (10 * p.toNat + g.toNat) (by omega)).1)
end
section
/-! the reference: foods, best, few -/

theorem utR_ag {S im : IM} (h : agY S im) (p : Nat) (w fd : Int) : utR S p w fd = utR im p w fd := by
  have es : stR S p = stR im p := funext fun g => h 36 0 _ (by omega)
  have eg : gpR S p w fd = gpR im p w fd := by
    unfold gpR
    rw [es, sayR_ag h, h 34 0 _ (by omega), h 35 0 _ (by omega), h 30 0 4 (by omega), h 30 0 7 (by omega)]
  unfold utR
  rw [eg, h 36 0 _ (by omega)]
def alR (im : IM) : Nat → Int := smF (fun p => cntW (stR im p) 10)
def fdR (im : IM) (p : Nat) (w gap : Int) : Nat → Nat
  | 0 => 0
  | f + 1 => if utR im p w f = gap then fdR im p w gap f ||| 2 ^ f else fdR im p w gap f
theorem fdR_s (im : IM) (p : Nat) (w gap : Int) (f : Nat) : fdR im p w gap (f + 1) = if utR im p w f = gap then fdR im p w gap f ||| 2 ^ f else fdR im p w gap f := rfl
theorem pow_cast0 (g : Nat) : (0 : Int) * 2 ^ (g : Int).toNat = ((0 : Nat) : Int) := by
  rw [Int.zero_mul]
  rfl
theorem dB_lim {f : Nat → Int} (h : ∀ q, 0 ≤ f q ∧ f q ≤ 700) (n : Nat) : (0 ≤ (dB f n).2 ∧ (dB f n).2 ≤ 700) ∧ -1 ≤ (dB f n).1 ∧ (dB f n).1 < n ∧ ((dB f n).1 = -1 → (dB f n).2 = 0) ∧ ((dB f n).1 ≠ -1 → (dB f n).2 = f (dB f n).1.toNat) := by
  induction n with
  | zero => exact ⟨⟨Int.le_refl 0, by show (0 : Int) ≤ 700; omega⟩, by show (-1 : Int) ≤ -1; omega, by show (-1 : Int) < 0; omega, fun _ => rfl, fun z => absurd rfl z⟩
  | succ n ih =>
    rw [dB_s]
    have := h n
    split
    · exact ⟨this, by show (-1 : Int) ≤ n; omega, by show (n : Int) < ((n + 1 : Nat) : Int); omega, fun z => absurd z (by show (n : Int) ≠ -1; omega), fun _ => rfl⟩
    · obtain ⟨a, b, c, d, e⟩ := ih
      exact ⟨a, b, by omega, d, e⟩
theorem dB_ext {f : Nat → Int} (h : ∀ q, 0 ≤ f q ∧ f q ≤ 700) {N : Nat} (m : Nat) (hz : ∀ q, N ≤ q → f q = 0) : dB f (N + m) = dB f N := by
  induction m with
  | zero => rfl
  | succ m ih =>
    rw [show N + (m + 1) = N + m + 1 by omega, dB_s, ih, if_neg (by rw [hz (N + m) (by omega)]; have := (dB_lim h N).1.1; omega)]
theorem bit_cost (b g : Nat) (c : Int) : ((b : Int) / 2 ^ g % 2) * c = if b.testBit g = true then c else 0 := by
  have e : (b : Int) / 2 ^ g % 2 = ((b / 2 ^ g % 2 : Nat) : Int) := by
    rw [Int.natCast_emod, Int.natCast_ediv, Int.natCast_pow]
    rfl
  rw [e, Nat.testBit_eq_decide_div_mod_eq]
  rcases Nat.mod_two_eq_zero_or_one (b / 2 ^ g) with h | h <;> rw [h] <;> simp
theorem pop_and : ∀ x, x < 1024 → x ≠ 0 → pop (x &&& (x - 1)) + 1 = pop x := by decide +kernel
theorem RU.e {im a : IM} {n : Nat} (h : RU im n a) : a 30 0 12 = im 30 0 12 := h.1 30 12 (by omega) (by omega)

set_option maxHeartbeats 4000000 in
theorem c_X9_stuckAll (l : Launch) (G : GS) (im : IM) (bt rt : Nat) (lm : IM) (h : RC im) : Cn l (XR G) yX9_stuckAll Y_X9_stuckAll [vR 30 0] (im, rs bt rt, lm) (pI fun x m' => x = alR im (im 30 0 12).toNat ∧ m' = (im, rs bt rt, lm)) := by
  refine cn_of (by decide) (okR G) rfl (Nat.le_of_ble_eq_true rfl) ?_
  intro M ad hMl F
  subst hMl
  have hR := h.1
  have h12 := h.2.2.2.1
  have hb := fun N => smF_in (f := fun p => cntW (stR im p) 10) (a := 0) (b := 10) (N := N) (fun p _ => by have := cntW_in (stR im p) 10; omega) (by omega) (by omega)
  refine wp_pad 2 ?_
  show Wp M (XR G) ad Y_X9_stuckAll (pI fun x m' => x = alR im (im 30 0 12).toNat ∧ m' = (im, rs bt rt, lm)) 0 [some (vR 30 0), none, none] [] (im, rs bt rt, lm)
  refine q_iconst (t := 1) F dX9_stuckAll_0 rfl ?_
  refine q_istore_n (t := 2) F dX9_stuckAll_1 rfl (by decide) rfl rfl ?_
  refine q_iconst (t := 3) F dX9_stuckAll_2 rfl ?_
  refine q_istore_n (t := 4) F dX9_stuckAll_3 rfl (by decide) rfl rfl ?_
  have L4 : ∀ (fz : Nat) (p : Nat), 5 - p < fz → (p : Int) ≤ im 30 0 12 → Wp M (XR G) ad Y_X9_stuckAll (pI fun x m' => x = alR im (im 30 0 12).toNat ∧ m' = (im, rs bt rt, lm)) 4 [some (vR 30 0), some (vI (alR im p)), some (vI (p : Int))] [] (im, rs bt rt, lm) := by
    intro fz
    induction fz with
    | zero => intro p h; exact absurd h (Nat.not_lt_zero _)
    | succ fz ih =>
      have ih4 := ih
      intro p hmeas hp
      have hbp := hb p
      have ha : alR im p = smF (fun p => cntW (stR im p) 10) p := rfl
      refine q_iload_n (t := 5) F dX9_stuckAll_4 rfl rfl rfl ?_
      refine q_aload_n (t := 6) F dX9_stuckAll_5 rfl rfl rfl ?_
      refine g_X9_88 (t := 9) F dX9_stuckAll_6 rfl rfl ?_
      refine q_icmp_ge (t := 12) (u := 26) F dX9_stuckAll_9 (by first | exact hR _ _ _ | (constructor <;> omega)) (by first | exact hR _ _ _ | (constructor <;> omega)) (by decide) rfl (fun c9 => ?_) (fun c9 => ?_)
      · refine q_iload_n (t := 27) F dX9_stuckAll_26 rfl rfl rfl ?_
        refine q_iret F dX9_stuckAll_27 rfl ?_
        obtain rfl : p = (im 30 0 12).toNat := by omega
        exact ⟨_, rfl, rfl, rfl⟩
      · refine q_iload_n (t := 13) F dX9_stuckAll_12 rfl rfl rfl ?_
        refine q_aload_n (t := 14) F dX9_stuckAll_13 rfl rfl rfl ?_
        refine q_iload_n (t := 15) F dX9_stuckAll_14 rfl rfl rfl ?_
        refine wp_callV (t := 18) [_] F dX9_stuckAll_15 k_X9_stuckOf v_X9_stuckOf ml_X9_131 rfl rfl rfl rfl (Nat.le_of_ble_eq_true rfl) (by decide) (m_30 (by omega)) (c_X9_stuckOf _ G im bt rt lm hR p (by omega)) rfl (kI ?_)
        rintro x15 m' ⟨rfl, rfl⟩
        refine q_iadd (t := 19) F dX9_stuckAll_18 rfl ?_
        refine q_istore_n (t := 20) F dX9_stuckAll_19 rfl (by decide) rfl rfl ?_
        refine q_iinc (t := 23) F dX9_stuckAll_20 rfl (by decide) rfl rfl ?_
        refine q_goto (t := 4) F dX9_stuckAll_23 (by decide) ?_
        rw [show (p : Int) + 1 = ((p + 1 : Nat) : Int) by omega]
        exact ih4 (p + 1) (by omega) (by omega)
  exact L4 _ 0 (Nat.lt_succ_self _) (by omega)

set_option maxHeartbeats 4000000 in
theorem c_X9_foods (l : Launch) (G : GS) (im : IM) (bt rt : Nat) (lm : IM) (h : RC im) (p w g : Int) (hp : ri p) (hw : ri w) (hg : ri g) : Cn l (XR G) yX9_foods Y_X9_foods [vR 30 0, vI p, vI w, vI g] (im, rs bt rt, lm) (pI fun x m' => ∃ im' lm', x = (if (0 ≤ p ∧ p < im 30 0 12) ∧ (0 ≤ w ∧ w ≤ 15) ∧ (0 ≤ g ∧ g ≤ 9) then ((fdR im p.toNat w g 10 : Nat) : Int) else -2) ∧ RI im' ∧ agY im' im ∧ lgQ lm' lm ∧ m' = (im', rs bt rt, lm')) := by
  refine cn_of (by decide) (okR G) rfl (Nat.le_of_ble_eq_true rfl) ?_
  intro M ad hMl F
  subst hMl
  have hR := h.1
  have hX := h.2.1
  have h4 := h.2.2.1
  have h12 := h.2.2.2.1
  have h7 := h.2.2.2.2.1
  have h6 := hX.2.2.1
  have h3 := hX.2.2.2.1
  have hP := h.2.2.2.2.2.2
  have hR := h.1
  have p1 := hp.1
  have p2 := hp.2
  have w1 := hw.1
  have w2 := hw.2
  have g1 := hg.1
  have g2 := hg.2
  refine wp_pad 2 ?_
  show Wp M (XR G) ad Y_X9_foods (pI fun x m' => ∃ im' lm', x = (if (0 ≤ p ∧ p < im 30 0 12) ∧ (0 ≤ w ∧ w ≤ 15) ∧ (0 ≤ g ∧ g ≤ 9) then ((fdR im p.toNat w g 10 : Nat) : Int) else -2) ∧ RI im' ∧ agY im' im ∧ lgQ lm' lm ∧ m' = (im', rs bt rt, lm')) 0 [some (vR 30 0), some (vI p), some (vI w), some (vI g), none, none] [] (im, rs bt rt, lm)
  refine q_aload_n (t := 1) F dX9_foods_0 rfl rfl rfl ?_
  refine q_iload_n (t := 2) F dX9_foods_1 rfl rfl rfl ?_
  refine wp_callV (t := 5) [_] F dX9_foods_2 k_X9_isOne v_X9_isOne ml_X9_101 rfl rfl rfl rfl (Nat.le_of_ble_eq_true rfl) (by decide) (m_30 (by omega)) (c_X9_isOne _ G im bt rt lm hR h12.1 h12.2 p (by constructor <;> omega)) rfl (kI ?_)
  rintro x2 m' ⟨hx2, rfl⟩
  have hx2 := if01 hx2
  refine q_if_eq (t := 8) (u := 22) F dX9_foods_5 (by first | exact hR _ _ _ | (constructor <;> omega)) (by decide) rfl (fun c5 => ?_) (fun c5 => ?_)
  · refine q_bipush (t := 24) F dX9_foods_22 (by decide) rfl ?_
    refine q_iret F dX9_foods_24 rfl ?_
    first
      | (refine ⟨_, rfl, im, lm, ?_, hR, agY_rfl im, lgQ_rfl lm, rfl⟩
         rw [if_neg (by omega)])
      | (obtain rfl : f = 10 := by omega
         refine ⟨_, rfl, S, lg, ?_, hRS, hag, hlg, rfl⟩
         rw [if_pos (by omega)])
  · refine q_iload_n (t := 9) F dX9_foods_8 rfl rfl rfl ?_
    refine wp_callS (t := 12) [_] F dX9_foods_9 k_X9_isWord st_X9_isWord ml_X9_141 rfl rfl (Nat.le_of_ble_eq_true rfl) (by decide) (c_X9_isWord _ G im bt rt lm w (by constructor <;> omega)) rfl (kI ?_)
    rintro x9 m' ⟨hx9, rfl⟩
    have hx9 := if01 hx9
    refine q_if_eq (t := 15) (u := 22) F dX9_foods_12 (by first | exact hR _ _ _ | (constructor <;> omega)) (by decide) rfl (fun c12 => ?_) (fun c12 => ?_)
    · refine q_bipush (t := 24) F dX9_foods_22 (by decide) rfl ?_
      refine q_iret F dX9_foods_24 rfl ?_
      first
        | (refine ⟨_, rfl, im, lm, ?_, hR, agY_rfl im, lgQ_rfl lm, rfl⟩
           rw [if_neg (by omega)])
        | (obtain rfl : f = 10 := by omega
           refine ⟨_, rfl, S, lg, ?_, hRS, hag, hlg, rfl⟩
           rw [if_pos (by omega)])
    · refine q_iload_n (t := 16) F dX9_foods_15 rfl rfl rfl ?_
      refine wp_callS (t := 19) [_] F dX9_foods_16 k_X9_isGap st_X9_isGap ml_X9_138 rfl rfl (Nat.le_of_ble_eq_true rfl) (by decide) (c_X9_isGap _ G im bt rt lm g (by constructor <;> omega)) rfl (kI ?_)
      rintro x16 m' ⟨hx16, rfl⟩
      have hx16 := if01 hx16
      refine q_if_ne (t := 22) (u := 25) F dX9_foods_19 (by first | exact hR _ _ _ | (constructor <;> omega)) (by decide) rfl (fun c19 => ?_) (fun c19 => ?_)
      · refine q_iconst (t := 26) F dX9_foods_25 rfl ?_
        refine q_istore (t := 28) F dX9_foods_26 (by decide) rfl rfl ?_
        refine q_iconst (t := 29) F dX9_foods_28 rfl ?_
        refine q_istore (t := 31) F dX9_foods_29 (by decide) rfl rfl ?_
        have L31 : ∀ (fz : Nat) (f : Nat) (S lg : IM), 10 - f < fz → (f ≤ 10 ∧ RI S ∧ agY S im ∧ lgQ lg lm) → Wp M (XR G) ad Y_X9_foods (pI fun x m' => ∃ im' lm', x = (if (0 ≤ p ∧ p < im 30 0 12) ∧ (0 ≤ w ∧ w ≤ 15) ∧ (0 ≤ g ∧ g ≤ 9) then ((fdR im p.toNat w g 10 : Nat) : Int) else -2) ∧ RI im' ∧ agY im' im ∧ lgQ lm' lm ∧ m' = (im', rs bt rt, lm')) 31 [some (vR 30 0), some (vI p), some (vI w), some (vI g), some (vI ((fdR im p.toNat w g f : Nat) : Int)), some (vI (f : Int))] [] (S, rs bt rt, lg) := by
          intro fz
          induction fz with
          | zero => intro f S lg h; exact absurd h (Nat.not_lt_zero _)
          | succ fz ih =>
            have ih31 := ih
            intro f S lg hmeas ⟨hf, hRS, hag, hlg⟩
            refine q_iload (t := 33) F dX9_foods_31 rfl rfl ?_
            refine q_bipush (t := 35) F dX9_foods_33 (by decide) rfl ?_
            refine q_icmp_ge (t := 38) (u := 69) F dX9_foods_35 (by first | exact hR _ _ _ | (constructor <;> omega)) (by first | exact hR _ _ _ | (constructor <;> omega)) (by decide) rfl (fun c35 => ?_) (fun c35 => ?_)
            · refine q_iload (t := 71) F dX9_foods_69 rfl rfl ?_
              refine q_iret F dX9_foods_71 rfl ?_
              first
                | (refine ⟨_, rfl, im, lm, ?_, hR, agY_rfl im, lgQ_rfl lm, rfl⟩
                   rw [if_neg (by omega)])
                | (obtain rfl : f = 10 := by omega
                   refine ⟨_, rfl, S, lg, ?_, hRS, hag, hlg, rfl⟩
                   rw [if_pos (by omega)])
            · refine q_iload (t := 40) F dX9_foods_38 rfl rfl ?_
              refine q_aload_n (t := 41) F dX9_foods_40 rfl rfl rfl ?_
              refine q_iload_n (t := 42) F dX9_foods_41 rfl rfl rfl ?_
              refine q_iload_n (t := 43) F dX9_foods_42 rfl rfl rfl ?_
              refine q_iload (t := 45) F dX9_foods_43 rfl rfl ?_
              rw [show vI p = vI ((p.toNat : Nat) : Int) by rw [Int.toNat_of_nonneg (by omega)]]
              refine wp_callV (t := 48) [_, _, _] F dX9_foods_45 k_X9_wouldStick v_X9_wouldStick ml_X9_361 rfl rfl rfl rfl (Nat.le_of_ble_eq_true rfl) (by decide) (m_30 (by omega)) (c_X9_wouldStick _ G S bt rt lg (h.ag hRS hag) p.toNat (by rw [hag 30 0 12 (by omega)]; omega) w (f : Int) hw (by constructor <;> omega)) rfl (kI ?_)
              rintro x45 m' ⟨im2, lm2, hx45, hR2, hag2, hlg2, rfl⟩
              rw [show vI ((p.toNat : Nat) : Int) = vI p by rw [Int.toNat_of_nonneg (by omega)]]
              rw [utR_ag hag] at hx45
              have hut := utR_in (im := im) (p := p.toNat) (w := w) (fd := (f : Int))
              refine q_iload_n (t := 49) F dX9_foods_48 rfl rfl rfl ?_
              refine q_icmp_ne (t := 52) (u := 56) F dX9_foods_49 (by constructor <;> omega) (by constructor <;> omega) (by decide) rfl (fun c49 => ?_) (fun c49 => ?_)
              · refine q_iconst (t := 57) F dX9_foods_56 rfl ?_
                refine q_iload (t := 59) F dX9_foods_57 rfl rfl ?_
                refine q_ishl (t := 60) F dX9_foods_59 (by omega) (by omega) rfl ?_
                first | rw [pow_cast f] | rw [pow_cast0 f]
                refine q_ior (t := 61) F dX9_foods_60 rfl ?_
                refine q_istore (t := 63) F dX9_foods_61 (by decide) rfl rfl ?_
                refine q_iinc (t := 66) F dX9_foods_63 rfl (by decide) rfl rfl ?_
                refine q_goto (t := 31) F dX9_foods_66 (by decide) ?_
                rw [show (f : Int) + 1 = ((f + 1 : Nat) : Int) by omega]
                first
                  | (rw [show fdR im p.toNat w g f ||| 2 ^ f = fdR im p.toNat w g (f + 1) from by rw [fdR_s, if_pos (by omega)]]
                     exact ih31 (f + 1) im2 lm2 (by omega) ⟨by omega, hR2, hag2.trans hag, hlg2.trans hlg⟩)
                  | (rw [show fdR im p.toNat w g f ||| 0 = fdR im p.toNat w g (f + 1) from by rw [fdR_s, if_neg (by omega), Nat.or_zero]]
                     exact ih31 (f + 1) im2 lm2 (by omega) ⟨by omega, hR2, hag2.trans hag, hlg2.trans hlg⟩)
              · refine q_iconst (t := 53) F dX9_foods_52 rfl ?_
                refine q_goto (t := 57) F dX9_foods_53 (by decide) ?_
                refine q_iload (t := 59) F dX9_foods_57 rfl rfl ?_
                refine q_ishl (t := 60) F dX9_foods_59 (by omega) (by omega) rfl ?_
                first | rw [pow_cast f] | rw [pow_cast0 f]
                refine q_ior (t := 61) F dX9_foods_60 rfl ?_
                refine q_istore (t := 63) F dX9_foods_61 (by decide) rfl rfl ?_
                refine q_iinc (t := 66) F dX9_foods_63 rfl (by decide) rfl rfl ?_
                refine q_goto (t := 31) F dX9_foods_66 (by decide) ?_
                rw [show (f : Int) + 1 = ((f + 1 : Nat) : Int) by omega]
                first
                  | (rw [show fdR im p.toNat w g f ||| 2 ^ f = fdR im p.toNat w g (f + 1) from by rw [fdR_s, if_pos (by omega)]]
                     exact ih31 (f + 1) im2 lm2 (by omega) ⟨by omega, hR2, hag2.trans hag, hlg2.trans hlg⟩)
                  | (rw [show fdR im p.toNat w g f ||| 0 = fdR im p.toNat w g (f + 1) from by rw [fdR_s, if_neg (by omega), Nat.or_zero]]
                     exact ih31 (f + 1) im2 lm2 (by omega) ⟨by omega, hR2, hag2.trans hag, hlg2.trans hlg⟩)
        exact L31 _ 0 im lm (Nat.lt_succ_self _) ⟨by omega, hR, agY_rfl im, lgQ_rfl lm⟩
      · refine q_bipush (t := 24) F dX9_foods_22 (by decide) rfl ?_
        refine q_iret F dX9_foods_24 rfl ?_
        first
          | (refine ⟨_, rfl, im, lm, ?_, hR, agY_rfl im, lgQ_rfl lm, rfl⟩
             rw [if_neg (by omega)])
          | (obtain rfl : f = 10 := by omega
             refine ⟨_, rfl, S, lg, ?_, hRS, hag, hlg, rfl⟩
             rw [if_pos (by omega)])

set_option maxHeartbeats 4000000 in
theorem c_X9_best (l : Launch) (G : GS) (im : IM) (bt rt : Nat) (lm : IM) (h : RC im) (hA : AG im 1000) (h79 : im 30 0 7 ≤ 999) (n what : Int) (hn : ri n) (hwhat : ri what) : Cn l (XR G) yX9_best Y_X9_best [vR 30 0, vI n, vI what] (im, rs bt rt, lm) (pI fun x m' => (¬ ((0 ≤ n ∧ n ≤ 60) ∧ 0 ≤ what ∧ what ≤ 1) → x = -2 ∧ m' = (im, rs bt rt, lm)) ∧ ((0 ≤ n ∧ n ≤ 60) ∧ 0 ≤ what ∧ what ≤ 1 → ∃ im' lm', x = (if what = 0 then (dB (costR im n.toNat) 50).1 else smF (costR im n.toNat) 50 - (dB (costR im n.toNat) 50).2) ∧ RI im' ∧ RU im n.toNat im' ∧ lgQ lm' lm ∧ m' = (im', rs bt rt, lm'))) := by
  refine cn_of (by decide) (okR G) rfl (Nat.le_of_ble_eq_true rfl) ?_
  intro M ad hMl F
  subst hMl
  have hR := h.1
  have hX := h.2.1
  have h4 := h.2.2.1
  have h12 := h.2.2.2.1
  have h7 := h.2.2.2.2.1
  have h6 := hX.2.2.1
  have h3 := hX.2.2.2.1
  have hP := h.2.2.2.2.2.2
  have hR := h.1
  have n1 := hn.1
  have n2 := hn.2
  have what1 := hwhat.1
  have what2 := hwhat.2
  refine wp_pad 4 ?_
  show Wp M (XR G) ad Y_X9_best (pI fun x m' => (¬ ((0 ≤ n ∧ n ≤ 60) ∧ 0 ≤ what ∧ what ≤ 1) → x = -2 ∧ m' = (im, rs bt rt, lm)) ∧ ((0 ≤ n ∧ n ≤ 60) ∧ 0 ≤ what ∧ what ≤ 1 → ∃ im' lm', x = (if what = 0 then (dB (costR im n.toNat) 50).1 else smF (costR im n.toNat) 50 - (dB (costR im n.toNat) 50).2) ∧ RI im' ∧ RU im n.toNat im' ∧ lgQ lm' lm ∧ m' = (im', rs bt rt, lm'))) 0 [some (vR 30 0), some (vI n), some (vI what), none, none, none, none] [] (im, rs bt rt, lm)
  refine q_iload_n (t := 1) F dX9_best_0 rfl rfl rfl ?_
  refine q_i2l (t := 2) F dX9_best_1 (by first | exact hR _ _ _ | (constructor <;> omega)) rfl ?_
  refine q_lconst (t := 3) (x := 0) F dX9_best_2 (by decide) rfl ?_
  refine q_ldc2 (t := 6) (x := 60) F dX9_best_3 kl_X9_242 (by decide) rfl ?_
  refine wp_callS (t := 9) [_, _, _] F dX9_best_6 k_X9_in st_X9_in ml_X9_91 rfl rfl (Nat.le_of_ble_eq_true rfl) (by decide) (c_X9_in _ G _ _ _ _ _ _ _ (by constructor <;> omega) (by constructor <;> omega) (by constructor <;> omega)) rfl (kI ?_)
  rintro x6 m' ⟨hx6, rfl⟩
  have hx6 := if01 hx6
  refine q_if_eq (t := 12) (u := 22) F dX9_best_9 (by first | exact hR _ _ _ | (constructor <;> omega)) (by decide) rfl (fun c9 => ?_) (fun c9 => ?_)
  · refine q_bipush (t := 24) F dX9_best_22 (by decide) rfl ?_
    refine q_iret F dX9_best_24 rfl ?_
    first
      | exact ⟨_, rfl, fun _ => ⟨rfl, rfl⟩, fun z => absurd z (by omega)⟩
      | (refine ⟨_, rfl, fun z => absurd (by omega) z, fun _ => ⟨im2, lm2, ?_, hR2, hU, hlg2, rfl⟩⟩
         have ex := dB_ext (f := costR im n.toNat) hcs.1 (N := q) (50 - q) (fun j hj => by unfold costR; rw [if_pos (by unfold whenR; rw [if_neg (by omega)])])
         rw [show q + (50 - q) = 50 by omega] at ex
         rw [ex]
         first
           | (rw [if_pos (by omega)])
           | (rw [if_neg (by omega)]))
  · refine q_iload_n (t := 13) F dX9_best_12 rfl rfl rfl ?_
    refine q_i2l (t := 14) F dX9_best_13 (by first | exact hR _ _ _ | (constructor <;> omega)) rfl ?_
    refine q_lconst (t := 15) (x := 0) F dX9_best_14 (by decide) rfl ?_
    refine q_lconst (t := 16) (x := 1) F dX9_best_15 (by decide) rfl ?_
    refine wp_callS (t := 19) [_, _, _] F dX9_best_16 k_X9_in st_X9_in ml_X9_91 rfl rfl (Nat.le_of_ble_eq_true rfl) (by decide) (c_X9_in _ G _ _ _ _ _ _ _ (by constructor <;> omega) (by constructor <;> omega) (by constructor <;> omega)) rfl (kI ?_)
    rintro x16 m' ⟨hx16, rfl⟩
    have hx16 := if01 hx16
    refine q_if_ne (t := 22) (u := 25) F dX9_best_19 (by first | exact hR _ _ _ | (constructor <;> omega)) (by decide) rfl (fun c19 => ?_) (fun c19 => ?_)
    · refine q_aload_n (t := 26) F dX9_best_25 rfl rfl rfl ?_
      refine q_iload_n (t := 27) F dX9_best_26 rfl rfl rfl ?_
      rw [show vI n = vI ((n.toNat : Nat) : Int) by rw [Int.toNat_of_nonneg (by omega)]]
      refine wp_callV (t := 30) [_] F dX9_best_27 k_X9_runs v_X9_runs ml_X9_410 rfl rfl rfl rfl (Nat.le_of_ble_eq_true rfl) (by decide) (m_30 (by omega)) (c_X9_runs _ G im bt rt lm h hA h79 n.toNat (by omega)) rfl (kV ?_)
      rintro m' ⟨im2, lm2, hR2, hU, hlg2, rfl⟩
      rw [show vI ((n.toNat : Nat) : Int) = vI n by rw [Int.toNat_of_nonneg (by omega)]]
      have hcs := hU.cost h
      have e40 := hU.2.2.1
      have e12 := hU.e
      have hdb := fun q => dB_lim hcs.1 q
      refine q_aload_n (t := 31) F dX9_best_30 rfl rfl rfl ?_
      refine g_X9_401 (t := 34) F dX9_best_31 rfl rfl ?_
      try simp only [up_app, row_app, scr_app, cpy_app, Nat.reduceEqDiff, Int.reduceToNat, Int.toNat_natCast, and_true, true_and, and_false, false_and, and_self, reduceIte]
      rw [e40]
      refine q_istore_n (t := 35) F dX9_best_34 rfl (by decide) rfl rfl ?_
      refine q_iload_n (t := 36) F dX9_best_35 rfl rfl rfl ?_
      refine q_istore (t := 38) F dX9_best_36 (by decide) rfl rfl ?_
      refine q_iconst (t := 39) F dX9_best_38 rfl ?_
      refine q_istore (t := 41) F dX9_best_39 (by decide) rfl rfl ?_
      refine q_iconst (t := 42) F dX9_best_41 rfl ?_
      refine q_istore (t := 44) F dX9_best_42 (by decide) rfl rfl ?_
      have L44 : ∀ (fz : Nat) (q : Nat), 51 - q < fz → (q : Int) ≤ 10 * im 30 0 12 → Wp M (XR G) ad Y_X9_best (pI fun x m' => (¬ ((0 ≤ n ∧ n ≤ 60) ∧ 0 ≤ what ∧ what ≤ 1) → x = -2 ∧ m' = (im, rs bt rt, lm)) ∧ ((0 ≤ n ∧ n ≤ 60) ∧ 0 ≤ what ∧ what ≤ 1 → ∃ im' lm', x = (if what = 0 then (dB (costR im n.toNat) 50).1 else smF (costR im n.toNat) 50 - (dB (costR im n.toNat) 50).2) ∧ RI im' ∧ RU im n.toNat im' ∧ lgQ lm' lm ∧ m' = (im', rs bt rt, lm'))) 44 [some (vR 30 0), some (vI n), some (vI what), some (vI (smF (costR im n.toNat) 50)), some (vI (smF (costR im n.toNat) 50 - (dB (costR im n.toNat) q).2)), some (vI (dB (costR im n.toNat) q).1), some (vI (q : Int))] [] (im2, rs bt rt, lm2) := by
        intro fz
        induction fz with
        | zero => intro q h; exact absurd h (Nat.not_lt_zero _)
        | succ fz ih =>
          have ih44 := ih
          intro q hmeas hq
          have hdq := hdb q
          have hcq := hcs.1 q
          have hds := dB_s (costR im n.toNat) q
          refine q_iload (t := 46) F dX9_best_44 rfl rfl ?_
          refine q_bipush (t := 48) F dX9_best_46 (by decide) rfl ?_
          refine q_aload_n (t := 49) F dX9_best_48 rfl rfl rfl ?_
          refine g_X9_88 (t := 52) F dX9_best_49 rfl rfl ?_
          try simp only [up_app, row_app, scr_app, cpy_app, Nat.reduceEqDiff, Int.reduceToNat, Int.toNat_natCast, and_true, true_and, and_false, false_and, and_self, reduceIte]
          rw [e12]
          refine q_imul (t := 53) F dX9_best_52 rfl ?_
          refine q_icmp_ge (t := 56) (u := 91) F dX9_best_53 (by first | exact hR _ _ _ | (constructor <;> omega)) (by first | exact hR _ _ _ | (constructor <;> omega)) (by decide) rfl (fun c53 => ?_) (fun c53 => ?_)
          · refine q_iload_n (t := 92) F dX9_best_91 rfl rfl rfl ?_
            refine q_if_ne (t := 95) (u := 100) F dX9_best_92 (by first | exact hR _ _ _ | (constructor <;> omega)) (by decide) rfl (fun c92 => ?_) (fun c92 => ?_)
            · refine q_iload (t := 102) F dX9_best_100 rfl rfl ?_
              refine q_iret F dX9_best_102 rfl ?_
              first
                | exact ⟨_, rfl, fun _ => ⟨rfl, rfl⟩, fun z => absurd z (by omega)⟩
                | (refine ⟨_, rfl, fun z => absurd (by omega) z, fun _ => ⟨im2, lm2, ?_, hR2, hU, hlg2, rfl⟩⟩
                   have ex := dB_ext (f := costR im n.toNat) hcs.1 (N := q) (50 - q) (fun j hj => by unfold costR; rw [if_pos (by unfold whenR; rw [if_neg (by omega)])])
                   rw [show q + (50 - q) = 50 by omega] at ex
                   rw [ex]
                   first
                     | (rw [if_pos (by omega)])
                     | (rw [if_neg (by omega)]))
            · refine q_iload (t := 97) F dX9_best_95 rfl rfl ?_
              refine q_goto (t := 102) F dX9_best_97 (by decide) ?_
              refine q_iret F dX9_best_102 rfl ?_
              first
                | exact ⟨_, rfl, fun _ => ⟨rfl, rfl⟩, fun z => absurd z (by omega)⟩
                | (refine ⟨_, rfl, fun z => absurd (by omega) z, fun _ => ⟨im2, lm2, ?_, hR2, hU, hlg2, rfl⟩⟩
                   have ex := dB_ext (f := costR im n.toNat) hcs.1 (N := q) (50 - q) (fun j hj => by unfold costR; rw [if_pos (by unfold whenR; rw [if_neg (by omega)])])
                   rw [show q + (50 - q) = 50 by omega] at ex
                   rw [ex]
                   first
                     | (rw [if_pos (by omega)])
                     | (rw [if_neg (by omega)]))
          · refine q_iload_n (t := 57) F dX9_best_56 rfl rfl rfl ?_
            refine q_aload_n (t := 58) F dX9_best_57 rfl rfl rfl ?_
            refine g_X9_41 (t := 61) F dX9_best_58 rfl rfl ?_
            refine q_iload (t := 63) F dX9_best_61 rfl rfl ?_
            first | refine ldN_39 (t := 64) F dX9_best_63 (by omega) rfl ?_ | refine ld_39 (t := 64) F dX9_best_63 (by omega) (by omega) rfl ?_
            try simp only [up_app, row_app, scr_app, cpy_app, Nat.reduceEqDiff, Int.reduceToNat, Int.toNat_natCast, and_true, true_and, and_false, false_and, and_self, reduceIte]
            rw [(hU.2.1 q (by omega)).2]
            refine q_isub (t := 65) F dX9_best_64 rfl ?_
            refine q_iload (t := 67) F dX9_best_65 rfl rfl ?_
            refine q_icmp_ge (t := 70) (u := 85) F dX9_best_67 (by constructor <;> omega) (by constructor <;> omega) (by decide) rfl (fun c67 => ?_) (fun c67 => ?_)
            · refine q_iinc (t := 88) F dX9_best_85 rfl (by decide) rfl rfl ?_
              refine q_goto (t := 44) F dX9_best_88 (by decide) ?_
              rw [show (q : Int) + 1 = ((q + 1 : Nat) : Int) by omega]
              first
                | (have e : dB (costR im n.toNat) (q + 1) = ((q : Int), costR im n.toNat q) := by rw [hds, if_pos (by omega)]
                   have h9 := ih44 (q + 1) (by omega) (by omega)
                   rw [e] at h9
                   exact h9)
                | (have e : dB (costR im n.toNat) (q + 1) = dB (costR im n.toNat) q := by rw [hds, if_neg (by omega)]
                   have h9 := ih44 (q + 1) (by omega) (by omega)
                   rw [e] at h9
                   exact h9)
            · refine q_iload (t := 72) F dX9_best_70 rfl rfl ?_
              refine q_istore (t := 74) F dX9_best_72 (by decide) rfl rfl ?_
              refine q_iload_n (t := 75) F dX9_best_74 rfl rfl rfl ?_
              refine q_aload_n (t := 76) F dX9_best_75 rfl rfl rfl ?_
              refine g_X9_41 (t := 79) F dX9_best_76 rfl rfl ?_
              refine q_iload (t := 81) F dX9_best_79 rfl rfl ?_
              first | refine ldN_39 (t := 82) F dX9_best_81 (by omega) rfl ?_ | refine ld_39 (t := 82) F dX9_best_81 (by omega) (by omega) rfl ?_
              try simp only [up_app, row_app, scr_app, cpy_app, Nat.reduceEqDiff, Int.reduceToNat, Int.toNat_natCast, and_true, true_and, and_false, false_and, and_self, reduceIte]
              rw [(hU.2.1 q (by omega)).2]
              refine q_isub (t := 83) F dX9_best_82 rfl ?_
              refine q_istore (t := 85) F dX9_best_83 (by decide) rfl rfl ?_
              refine q_iinc (t := 88) F dX9_best_85 rfl (by decide) rfl rfl ?_
              refine q_goto (t := 44) F dX9_best_88 (by decide) ?_
              rw [show (q : Int) + 1 = ((q + 1 : Nat) : Int) by omega]
              first
                | (have e : dB (costR im n.toNat) (q + 1) = ((q : Int), costR im n.toNat q) := by rw [hds, if_pos (by omega)]
                   have h9 := ih44 (q + 1) (by omega) (by omega)
                   rw [e] at h9
                   exact h9)
                | (have e : dB (costR im n.toNat) (q + 1) = dB (costR im n.toNat) q := by rw [hds, if_neg (by omega)]
                   have h9 := ih44 (q + 1) (by omega) (by omega)
                   rw [e] at h9
                   exact h9)
      have L0 := L44 _ 0 (Nat.lt_succ_self _) (by omega)
      rw [show (dB (costR im n.toNat) 0).2 = 0 from rfl, Int.sub_zero] at L0
      exact L0
    · refine q_bipush (t := 24) F dX9_best_22 (by decide) rfl ?_
      refine q_iret F dX9_best_24 rfl ?_
      first
        | exact ⟨_, rfl, fun _ => ⟨rfl, rfl⟩, fun z => absurd z (by omega)⟩
        | (refine ⟨_, rfl, fun z => absurd (by omega) z, fun _ => ⟨im2, lm2, ?_, hR2, hU, hlg2, rfl⟩⟩
           have ex := dB_ext (f := costR im n.toNat) hcs.1 (N := q) (50 - q) (fun j hj => by unfold costR; rw [if_pos (by unfold whenR; rw [if_neg (by omega)])])
           rw [show q + (50 - q) = 50 by omega] at ex
           rw [ex]
           first
             | (rw [if_pos (by omega)])
             | (rw [if_neg (by omega)]))

set_option maxHeartbeats 4000000 in
theorem c_X9_bitsOf (l : Launch) (G : GS) (im : IM) (bt rt : Nat) (lm : IM) (v : Nat) (hv : v < 1024) : Cn l (XR G) yX9_bitsOf Y_X9_bitsOf [vI (v : Int)] (im, rs bt rt, lm) (pI fun x m' => x = pop v ∧ m' = (im, rs bt rt, lm)) := by
  refine cn_of (by decide) (okR G) rfl (Nat.le_of_ble_eq_true rfl) ?_
  intro M ad hMl F
  subst hMl
  refine wp_pad 2 ?_
  show Wp M (XR G) ad Y_X9_bitsOf (pI fun x m' => x = pop v ∧ m' = (im, rs bt rt, lm)) 0 [some (vI (v : Int)), none, none] [] (im, rs bt rt, lm)
  refine q_iconst (t := 1) F dX9_bitsOf_0 rfl ?_
  refine q_istore_n (t := 2) F dX9_bitsOf_1 rfl (by decide) rfl rfl ?_
  refine q_iload_n (t := 3) F dX9_bitsOf_2 rfl rfl rfl ?_
  refine q_istore_n (t := 4) F dX9_bitsOf_3 rfl (by decide) rfl rfl ?_
  have L4 : ∀ (fz : Nat) (b : Nat), b < fz → b < 1024 → Wp M (XR G) ad Y_X9_bitsOf (pI fun x m' => x = pop v ∧ m' = (im, rs bt rt, lm)) 4 [some (vI (v : Int)), some (vI (pop v - pop b)), some (vI (b : Int))] [] (im, rs bt rt, lm) := by
    intro fz
    induction fz with
    | zero => intro b h; exact absurd h (Nat.not_lt_zero _)
    | succ fz ih =>
      have ih4 := ih
      intro b hmeas hb
      have hpb := pop_in b
      have hpv := pop_in v
      refine q_iload_n (t := 5) F dX9_bitsOf_4 rfl rfl rfl ?_
      refine q_if_eq (t := 8) (u := 20) F dX9_bitsOf_5 (by first | exact hR _ _ _ | (constructor <;> omega)) (by decide) rfl (fun c5 => ?_) (fun c5 => ?_)
      · refine q_iload_n (t := 21) F dX9_bitsOf_20 rfl rfl rfl ?_
        refine q_iret F dX9_bitsOf_21 rfl ?_
        obtain rfl : b = 0 := by omega
        exact ⟨_, rfl, by rw [show pop 0 = 0 from rfl, Int.sub_zero], rfl⟩
      · refine q_iinc (t := 11) F dX9_bitsOf_8 rfl (by decide) rfl rfl ?_
        refine q_iload_n (t := 12) F dX9_bitsOf_11 rfl rfl rfl ?_
        refine q_iload_n (t := 13) F dX9_bitsOf_12 rfl rfl rfl ?_
        refine q_iconst (t := 14) F dX9_bitsOf_13 rfl ?_
        refine q_isub (t := 15) F dX9_bitsOf_14 rfl ?_
        rw [show (b : Int) - 1 = ((b - 1 : Nat) : Int) by omega]
        refine q_iand (t := 16) F dX9_bitsOf_15 rfl ?_
        refine q_istore_n (t := 17) F dX9_bitsOf_16 rfl (by decide) rfl rfl ?_
        refine q_goto (t := 4) F dX9_bitsOf_17 (by decide) ?_
        have hz : b ≠ 0 := by omega
        have e := pop_and b hb hz
        have hle := Nat.and_le_right (n := b) (m := b - 1)
        rw [show pop v - pop b + 1 = pop v - pop (b &&& (b - 1)) by omega]
        exact ih4 (b &&& (b - 1)) (by omega) (by omega)
  have L0 := L4 _ v (Nat.lt_succ_self _) hv
  rw [Int.sub_self] at L0
  exact L0

set_option maxHeartbeats 4000000 in
theorem c_X9_few (l : Launch) (G : GS) (im : IM) (bt rt : Nat) (lm : IM) (h : RC im) (hA : AG im 1000) (h79 : im 30 0 7 ≤ 999) (p n e : Int) (hp : ri p) (hn : ri n) (he : ri e) : Cn l (XR G) yX9_few Y_X9_few [vR 30 0, vI p, vI n, vI e] (im, rs bt rt, lm) (pI fun x m' => (¬ ((0 ≤ p ∧ p < im 30 0 12) ∧ (0 ≤ n ∧ n ≤ 60) ∧ 0 ≤ e ∧ e ≤ 9999) → x = -2 ∧ m' = (im, rs bt rt, lm)) ∧ ((0 ≤ p ∧ p < im 30 0 12) ∧ (0 ≤ n ∧ n ≤ 60) ∧ 0 ≤ e ∧ e ≤ 9999 → ∃ im' lm', x = fwB (smF (costR im n.toNat) 50) (fun g => costR im n.toNat (10 * p.toNat + g)) e 1024 ∧ RI im' ∧ RU im n.toNat im' ∧ lgQ lm' lm ∧ m' = (im', rs bt rt, lm'))) := by
  refine cn_of (by decide) (okR G) rfl (Nat.le_of_ble_eq_true rfl) ?_
  intro M ad hMl F
  subst hMl
  have hR := h.1
  have hX := h.2.1
  have h4 := h.2.2.1
  have h12 := h.2.2.2.1
  have h7 := h.2.2.2.2.1
  have h6 := hX.2.2.1
  have h3 := hX.2.2.2.1
  have hP := h.2.2.2.2.2.2
  have hR := h.1
  have p1 := hp.1
  have p2 := hp.2
  have n1 := hn.1
  have n2 := hn.2
  have e1 := he.1
  have e2 := he.2
  refine wp_pad 4 ?_
  show Wp M (XR G) ad Y_X9_few (pI fun x m' => (¬ ((0 ≤ p ∧ p < im 30 0 12) ∧ (0 ≤ n ∧ n ≤ 60) ∧ 0 ≤ e ∧ e ≤ 9999) → x = -2 ∧ m' = (im, rs bt rt, lm)) ∧ ((0 ≤ p ∧ p < im 30 0 12) ∧ (0 ≤ n ∧ n ≤ 60) ∧ 0 ≤ e ∧ e ≤ 9999 → ∃ im' lm', x = fwB (smF (costR im n.toNat) 50) (fun g => costR im n.toNat (10 * p.toNat + g)) e 1024 ∧ RI im' ∧ RU im n.toNat im' ∧ lgQ lm' lm ∧ m' = (im', rs bt rt, lm'))) 0 [some (vR 30 0), some (vI p), some (vI n), some (vI e), none, none, none, none] [] (im, rs bt rt, lm)
  refine q_aload_n (t := 1) F dX9_few_0 rfl rfl rfl ?_
  refine q_iload_n (t := 2) F dX9_few_1 rfl rfl rfl ?_
  refine wp_callV (t := 5) [_] F dX9_few_2 k_X9_isOne v_X9_isOne ml_X9_101 rfl rfl rfl rfl (Nat.le_of_ble_eq_true rfl) (by decide) (m_30 (by omega)) (c_X9_isOne _ G im bt rt lm hR h12.1 h12.2 p (by constructor <;> omega)) rfl (kI ?_)
  rintro x2 m' ⟨hx2, rfl⟩
  have hx2 := if01 hx2
  refine q_if_eq (t := 8) (u := 32) F dX9_few_5 (by first | exact hR _ _ _ | (constructor <;> omega)) (by decide) rfl (fun c5 => ?_) (fun c5 => ?_)
  · refine q_bipush (t := 34) F dX9_few_32 (by decide) rfl ?_
    refine q_iret F dX9_few_34 rfl ?_
    first
      | exact ⟨_, rfl, fun _ => ⟨rfl, rfl⟩, fun z => absurd z (by omega)⟩
      | (obtain rfl : b = 1024 := by omega
         exact ⟨_, rfl, fun z => absurd (by omega) z, fun _ => ⟨im2, lm2, rfl, hR2, hU, hlg2, rfl⟩⟩)
  · refine q_iload_n (t := 9) F dX9_few_8 rfl rfl rfl ?_
    refine q_i2l (t := 10) F dX9_few_9 (by first | exact hR _ _ _ | (constructor <;> omega)) rfl ?_
    refine q_lconst (t := 11) (x := 0) F dX9_few_10 (by decide) rfl ?_
    refine q_ldc2 (t := 14) (x := 60) F dX9_few_11 kl_X9_242 (by decide) rfl ?_
    refine wp_callS (t := 17) [_, _, _] F dX9_few_14 k_X9_in st_X9_in ml_X9_91 rfl rfl (Nat.le_of_ble_eq_true rfl) (by decide) (c_X9_in _ G _ _ _ _ _ _ _ (by constructor <;> omega) (by constructor <;> omega) (by constructor <;> omega)) rfl (kI ?_)
    rintro x14 m' ⟨hx14, rfl⟩
    have hx14 := if01 hx14
    refine q_if_eq (t := 20) (u := 32) F dX9_few_17 (by first | exact hR _ _ _ | (constructor <;> omega)) (by decide) rfl (fun c17 => ?_) (fun c17 => ?_)
    · refine q_bipush (t := 34) F dX9_few_32 (by decide) rfl ?_
      refine q_iret F dX9_few_34 rfl ?_
      first
        | exact ⟨_, rfl, fun _ => ⟨rfl, rfl⟩, fun z => absurd z (by omega)⟩
        | (obtain rfl : b = 1024 := by omega
           exact ⟨_, rfl, fun z => absurd (by omega) z, fun _ => ⟨im2, lm2, rfl, hR2, hU, hlg2, rfl⟩⟩)
    · refine q_iload_n (t := 21) F dX9_few_20 rfl rfl rfl ?_
      refine q_i2l (t := 22) F dX9_few_21 (by first | exact hR _ _ _ | (constructor <;> omega)) rfl ?_
      refine q_lconst (t := 23) (x := 0) F dX9_few_22 (by decide) rfl ?_
      refine q_ldc2 (t := 26) (x := 9999) F dX9_few_23 kl_X9_413 (by decide) rfl ?_
      refine wp_callS (t := 29) [_, _, _] F dX9_few_26 k_X9_in st_X9_in ml_X9_91 rfl rfl (Nat.le_of_ble_eq_true rfl) (by decide) (c_X9_in _ G _ _ _ _ _ _ _ (by constructor <;> omega) (by constructor <;> omega) (by constructor <;> omega)) rfl (kI ?_)
      rintro x26 m' ⟨hx26, rfl⟩
      have hx26 := if01 hx26
      refine q_if_ne (t := 32) (u := 35) F dX9_few_29 (by first | exact hR _ _ _ | (constructor <;> omega)) (by decide) rfl (fun c29 => ?_) (fun c29 => ?_)
      · refine q_aload_n (t := 36) F dX9_few_35 rfl rfl rfl ?_
        refine q_iload_n (t := 37) F dX9_few_36 rfl rfl rfl ?_
        rw [show vI n = vI ((n.toNat : Nat) : Int) by rw [Int.toNat_of_nonneg (by omega)]]
        refine wp_callV (t := 40) [_] F dX9_few_37 k_X9_runs v_X9_runs ml_X9_410 rfl rfl rfl rfl (Nat.le_of_ble_eq_true rfl) (by decide) (m_30 (by omega)) (c_X9_runs _ G im bt rt lm h hA h79 n.toNat (by omega)) rfl (kV ?_)
        rintro m' ⟨im2, lm2, hR2, hU, hlg2, rfl⟩
        rw [show vI ((n.toNat : Nat) : Int) = vI n by rw [Int.toNat_of_nonneg (by omega)]]
        have hcs := hU.cost h
        have e40 := hU.2.2.1
        have e12 := hU.e
        have hsv := fun b k hk => svF_in (c := (fun g => costR im n.toNat (10 * p.toNat + g))) (fun g _ => hcs.1 (10 * p.toNat + g)) b k hk
        refine q_iconst (t := 41) F dX9_few_40 rfl ?_
        refine q_istore (t := 43) F dX9_few_41 (by decide) rfl rfl ?_
        refine q_iconst (t := 44) F dX9_few_43 rfl ?_
        refine q_istore (t := 46) F dX9_few_44 (by decide) rfl rfl ?_
        have L46 : ∀ (fz : Nat) (b : Nat), 1024 - b < fz → b ≤ 1024 → Wp M (XR G) ad Y_X9_few (pI fun x m' => (¬ ((0 ≤ p ∧ p < im 30 0 12) ∧ (0 ≤ n ∧ n ≤ 60) ∧ 0 ≤ e ∧ e ≤ 9999) → x = -2 ∧ m' = (im, rs bt rt, lm)) ∧ ((0 ≤ p ∧ p < im 30 0 12) ∧ (0 ≤ n ∧ n ≤ 60) ∧ 0 ≤ e ∧ e ≤ 9999 → ∃ im' lm', x = fwB (smF (costR im n.toNat) 50) (fun g => costR im n.toNat (10 * p.toNat + g)) e 1024 ∧ RI im' ∧ RU im n.toNat im' ∧ lgQ lm' lm ∧ m' = (im', rs bt rt, lm'))) 46 [some (vR 30 0), some (vI p), some (vI n), some (vI e), some (vI (fwB (smF (costR im n.toNat) 50) (fun g => costR im n.toNat (10 * p.toNat + g)) e b)), some (vI (b : Int)), none, none] [] (im2, rs bt rt, lm2) := by
          intro fz
          induction fz with
          | zero => intro b h; exact absurd h (Nat.not_lt_zero _)
          | succ fz ih =>
            have ih46 := ih
            intro b hmeas hb
            have hfw := fwB_in (smF (costR im n.toNat) 50) (fun g => costR im n.toNat (10 * p.toNat + g)) e b
            have hfs := fwB_s (smF (costR im n.toNat) 50) (fun g => costR im n.toNat (10 * p.toNat + g)) e b
            have hpb := pop_in b
            have hpf := pop_in (fwB (smF (costR im n.toNat) 50) (fun g => costR im n.toNat (10 * p.toNat + g)) e b).toNat
            have hs10 := hsv b 10 (Nat.le_refl 10)
            refine q_iload (t := 48) F dX9_few_46 rfl rfl ?_
            refine q_sipush (t := 51) F dX9_few_48 (by decide) rfl ?_
            refine q_icmp_ge (t := 54) (u := 136) F dX9_few_51 (by first | exact hR _ _ _ | (constructor <;> omega)) (by first | exact hR _ _ _ | (constructor <;> omega)) (by decide) rfl (fun c51 => ?_) (fun c51 => ?_)
            · refine q_iload (t := 138) F dX9_few_136 rfl rfl ?_
              refine q_iret F dX9_few_138 rfl ?_
              first
                | exact ⟨_, rfl, fun _ => ⟨rfl, rfl⟩, fun z => absurd z (by omega)⟩
                | (obtain rfl : b = 1024 := by omega
                   exact ⟨_, rfl, fun z => absurd (by omega) z, fun _ => ⟨im2, lm2, rfl, hR2, hU, hlg2, rfl⟩⟩)
            · refine q_aload_n (t := 55) F dX9_few_54 rfl rfl rfl ?_
              refine g_X9_401 (t := 58) F dX9_few_55 rfl rfl ?_
              try simp only [up_app, row_app, scr_app, cpy_app, Nat.reduceEqDiff, Int.reduceToNat, Int.toNat_natCast, and_true, true_and, and_false, false_and, and_self, reduceIte]
              rw [e40]
              refine q_istore (t := 60) F dX9_few_58 (by decide) rfl rfl ?_
              refine q_iconst (t := 61) F dX9_few_60 rfl ?_
              refine q_istore (t := 63) F dX9_few_61 (by decide) rfl rfl ?_
              have L63 : ∀ (fz : Nat) (g : Nat), 10 - g < fz → g ≤ 10 → Wp M (XR G) ad Y_X9_few (pI fun x m' => (¬ ((0 ≤ p ∧ p < im 30 0 12) ∧ (0 ≤ n ∧ n ≤ 60) ∧ 0 ≤ e ∧ e ≤ 9999) → x = -2 ∧ m' = (im, rs bt rt, lm)) ∧ ((0 ≤ p ∧ p < im 30 0 12) ∧ (0 ≤ n ∧ n ≤ 60) ∧ 0 ≤ e ∧ e ≤ 9999 → ∃ im' lm', x = fwB (smF (costR im n.toNat) 50) (fun g => costR im n.toNat (10 * p.toNat + g)) e 1024 ∧ RI im' ∧ RU im n.toNat im' ∧ lgQ lm' lm ∧ m' = (im', rs bt rt, lm'))) 63 [some (vR 30 0), some (vI p), some (vI n), some (vI e), some (vI (fwB (smF (costR im n.toNat) 50) (fun g => costR im n.toNat (10 * p.toNat + g)) e b)), some (vI (b : Int)), some (vI (smF (costR im n.toNat) 50 - svF (fun g => costR im n.toNat (10 * p.toNat + g)) b g)), some (vI (g : Int))] [] (im2, rs bt rt, lm2) := by
                intro fz
                induction fz with
                | zero => intro g h; exact absurd h (Nat.not_lt_zero _)
                | succ fz ih =>
                  have ih63 := ih
                  intro g hmeas hg
                  have hsg := hsv b g hg
                  have hss : svF (fun g => costR im n.toNat (10 * p.toNat + g)) b (g + 1) = svF (fun g => costR im n.toNat (10 * p.toNat + g)) b g + (if b.testBit g = true then costR im n.toNat (10 * p.toNat + g) else 0) := rfl
                  refine q_iload (t := 65) F dX9_few_63 rfl rfl ?_
                  refine q_bipush (t := 67) F dX9_few_65 (by decide) rfl ?_
                  refine q_icmp_ge (t := 70) (u := 101) F dX9_few_67 (by first | exact hR _ _ _ | (constructor <;> omega)) (by first | exact hR _ _ _ | (constructor <;> omega)) (by decide) rfl (fun c67 => ?_) (fun c67 => ?_)
                  · obtain rfl : g = 10 := by omega
                    refine q_iload (t := 103) F dX9_few_101 rfl rfl ?_
                    refine q_iload_n (t := 104) F dX9_few_103 rfl rfl rfl ?_
                    refine q_icmp_gt (t := 107) (u := 130) F dX9_few_104 (by constructor <;> omega) (by constructor <;> omega) (by decide) rfl (fun c104 => ?_) (fun c104 => ?_)
                    · refine q_iinc (t := 133) F dX9_few_130 rfl (by decide) rfl rfl ?_
                      refine q_goto (t := 46) F dX9_few_133 (by decide) ?_
                      refine wp_less 7 ?_
                      refine wp_less 6 ?_
                      rw [show (b : Int) + 1 = ((b + 1 : Nat) : Int) by omega]
                      first
                        | (have e9 : fwB (smF (costR im n.toNat) 50) (fun g => costR im n.toNat (10 * p.toNat + g)) e (b + 1) = b := by rw [hfs, if_neg (by omega), if_pos (by omega)]
                           have h9 := ih46 (b + 1) (by omega) (by omega)
                           rw [e9] at h9
                           exact h9)
                        | (have e9 : fwB (smF (costR im n.toNat) 50) (fun g => costR im n.toNat (10 * p.toNat + g)) e (b + 1) = fwB (smF (costR im n.toNat) 50) (fun g => costR im n.toNat (10 * p.toNat + g)) e b := by first | rw [hfs, if_pos (by omega)] | rw [hfs, if_neg (by omega), if_neg (by omega)]
                           have h9 := ih46 (b + 1) (by omega) (by omega)
                           rw [e9] at h9
                           exact h9)
                    · refine q_iload (t := 109) F dX9_few_107 rfl rfl ?_
                      refine q_iconst (t := 110) F dX9_few_109 rfl ?_
                      refine q_icmp_eq (t := 113) (u := 126) F dX9_few_110 (by first | exact hR _ _ _ | (constructor <;> omega)) (by first | exact hR _ _ _ | (constructor <;> omega)) (by decide) rfl (fun c110 => ?_) (fun c110 => ?_)
                      · refine q_iload (t := 128) F dX9_few_126 rfl rfl ?_
                        refine q_istore (t := 130) F dX9_few_128 (by decide) rfl rfl ?_
                        refine q_iinc (t := 133) F dX9_few_130 rfl (by decide) rfl rfl ?_
                        refine q_goto (t := 46) F dX9_few_133 (by decide) ?_
                        refine wp_less 7 ?_
                        refine wp_less 6 ?_
                        rw [show (b : Int) + 1 = ((b + 1 : Nat) : Int) by omega]
                        first
                          | (have e9 : fwB (smF (costR im n.toNat) 50) (fun g => costR im n.toNat (10 * p.toNat + g)) e (b + 1) = b := by rw [hfs, if_neg (by omega), if_pos (by omega)]
                             have h9 := ih46 (b + 1) (by omega) (by omega)
                             rw [e9] at h9
                             exact h9)
                          | (have e9 : fwB (smF (costR im n.toNat) 50) (fun g => costR im n.toNat (10 * p.toNat + g)) e (b + 1) = fwB (smF (costR im n.toNat) 50) (fun g => costR im n.toNat (10 * p.toNat + g)) e b := by first | rw [hfs, if_pos (by omega)] | rw [hfs, if_neg (by omega), if_neg (by omega)]
                             have h9 := ih46 (b + 1) (by omega) (by omega)
                             rw [e9] at h9
                             exact h9)
                      · refine q_iload (t := 115) F dX9_few_113 rfl rfl ?_
                        refine wp_callS (t := 118) [_] F dX9_few_115 k_X9_bitsOf st_X9_bitsOf ml_X9_415 rfl rfl (Nat.le_of_ble_eq_true rfl) (by decide) (c_X9_bitsOf _ G im2 bt rt lm2 b (by omega)) rfl (kI ?_)
                        rintro x115 m' ⟨rfl, rfl⟩
                        refine q_iload (t := 120) F dX9_few_118 rfl rfl ?_
                        rw [show vI (fwB (smF (costR im n.toNat) 50) (fun g => costR im n.toNat (10 * p.toNat + g)) e b) = vI (((fwB (smF (costR im n.toNat) 50) (fun g => costR im n.toNat (10 * p.toNat + g)) e b).toNat : Nat) : Int) by rw [Int.toNat_of_nonneg (by omega)]]
                        refine wp_callS (t := 123) [_] F dX9_few_120 k_X9_bitsOf st_X9_bitsOf ml_X9_415 rfl rfl (Nat.le_of_ble_eq_true rfl) (by decide) (c_X9_bitsOf _ G im2 bt rt lm2 (fwB (smF (costR im n.toNat) 50) (fun g => costR im n.toNat (10 * p.toNat + g)) e b).toNat (by omega)) rfl (kI ?_)
                        rintro x120 m' ⟨rfl, rfl⟩
                        rw [show vI (((fwB (smF (costR im n.toNat) 50) (fun g => costR im n.toNat (10 * p.toNat + g)) e b).toNat : Nat) : Int) = vI (fwB (smF (costR im n.toNat) 50) (fun g => costR im n.toNat (10 * p.toNat + g)) e b) by rw [Int.toNat_of_nonneg (by omega)]]
                        refine q_icmp_ge (t := 126) (u := 130) F dX9_few_123 (by first | exact hR _ _ _ | (constructor <;> omega)) (by first | exact hR _ _ _ | (constructor <;> omega)) (by decide) rfl (fun c123 => ?_) (fun c123 => ?_)
                        · refine q_iinc (t := 133) F dX9_few_130 rfl (by decide) rfl rfl ?_
                          refine q_goto (t := 46) F dX9_few_133 (by decide) ?_
                          refine wp_less 7 ?_
                          refine wp_less 6 ?_
                          rw [show (b : Int) + 1 = ((b + 1 : Nat) : Int) by omega]
                          first
                            | (have e9 : fwB (smF (costR im n.toNat) 50) (fun g => costR im n.toNat (10 * p.toNat + g)) e (b + 1) = b := by rw [hfs, if_neg (by omega), if_pos (by omega)]
                               have h9 := ih46 (b + 1) (by omega) (by omega)
                               rw [e9] at h9
                               exact h9)
                            | (have e9 : fwB (smF (costR im n.toNat) 50) (fun g => costR im n.toNat (10 * p.toNat + g)) e (b + 1) = fwB (smF (costR im n.toNat) 50) (fun g => costR im n.toNat (10 * p.toNat + g)) e b := by first | rw [hfs, if_pos (by omega)] | rw [hfs, if_neg (by omega), if_neg (by omega)]
                               have h9 := ih46 (b + 1) (by omega) (by omega)
                               rw [e9] at h9
                               exact h9)
                        · refine q_iload (t := 128) F dX9_few_126 rfl rfl ?_
                          refine q_istore (t := 130) F dX9_few_128 (by decide) rfl rfl ?_
                          refine q_iinc (t := 133) F dX9_few_130 rfl (by decide) rfl rfl ?_
                          refine q_goto (t := 46) F dX9_few_133 (by decide) ?_
                          refine wp_less 7 ?_
                          refine wp_less 6 ?_
                          rw [show (b : Int) + 1 = ((b + 1 : Nat) : Int) by omega]
                          first
                            | (have e9 : fwB (smF (costR im n.toNat) 50) (fun g => costR im n.toNat (10 * p.toNat + g)) e (b + 1) = b := by rw [hfs, if_neg (by omega), if_pos (by omega)]
                               have h9 := ih46 (b + 1) (by omega) (by omega)
                               rw [e9] at h9
                               exact h9)
                            | (have e9 : fwB (smF (costR im n.toNat) 50) (fun g => costR im n.toNat (10 * p.toNat + g)) e (b + 1) = fwB (smF (costR im n.toNat) 50) (fun g => costR im n.toNat (10 * p.toNat + g)) e b := by first | rw [hfs, if_pos (by omega)] | rw [hfs, if_neg (by omega), if_neg (by omega)]
                               have h9 := ih46 (b + 1) (by omega) (by omega)
                               rw [e9] at h9
                               exact h9)
                  · refine q_iload (t := 72) F dX9_few_70 rfl rfl ?_
                    refine q_iload (t := 74) F dX9_few_72 rfl rfl ?_
                    refine q_iload (t := 76) F dX9_few_74 rfl rfl ?_
                    refine q_ishr (t := 77) F dX9_few_76 (by constructor <;> omega) (by omega) (by omega) (by omega) rfl ?_
                    refine q_iconst (t := 78) F dX9_few_77 rfl ?_
                    refine q_iand1 (t := 79) F dX9_few_78 rfl ?_
                    have hbz : 0 ≤ (b : Int) / 2 ^ (g : Int).toNat % 2 ∧ (b : Int) / 2 ^ (g : Int).toNat % 2 ≤ 1 := by omega
                    refine q_aload_n (t := 80) F dX9_few_79 rfl rfl rfl ?_
                    refine g_X9_41 (t := 83) F dX9_few_80 rfl rfl ?_
                    refine q_bipush (t := 85) F dX9_few_83 (by decide) rfl ?_
                    refine q_iload_n (t := 86) F dX9_few_85 rfl rfl rfl ?_
                    refine q_imul (t := 87) F dX9_few_86 rfl ?_
                    refine q_iload (t := 89) F dX9_few_87 rfl rfl ?_
                    refine q_iadd (t := 90) F dX9_few_89 rfl ?_
                    rw [show (10 : Int) * p + (g : Int) = ((10 * p.toNat + g : Nat) : Int) by omega]
                    first | refine ldN_39 (t := 91) F dX9_few_90 (by omega) rfl ?_ | refine ld_39 (t := 91) F dX9_few_90 (by omega) (by omega) rfl ?_
                    try simp only [up_app, row_app, scr_app, cpy_app, Nat.reduceEqDiff, Int.reduceToNat, Int.toNat_natCast, and_true, true_and, and_false, false_and, and_self, reduceIte]
                    rw [(hU.2.1 (10 * p.toNat + g) (by omega)).2]
                    refine q_imul (t := 92) F dX9_few_91 rfl ?_
                    first | rw [bit_cost b g] | rw [Int.toNat_natCast, bit_cost b g]
                    refine q_isub (t := 93) F dX9_few_92 rfl ?_
                    refine q_istore (t := 95) F dX9_few_93 (by decide) rfl rfl ?_
                    refine q_iinc (t := 98) F dX9_few_95 rfl (by decide) rfl rfl ?_
                    refine q_goto (t := 63) F dX9_few_98 (by decide) ?_
                    rw [show (g : Int) + 1 = ((g + 1 : Nat) : Int) by omega]
                    rw [show smF (costR im n.toNat) 50 - svF (fun g => costR im n.toNat (10 * p.toNat + g)) b g - (if b.testBit g = true then costR im n.toNat (10 * p.toNat + g) else 0) = smF (costR im n.toNat) 50 - svF (fun g => costR im n.toNat (10 * p.toNat + g)) b (g + 1) by rw [hss]; omega]
                    exact ih63 (g + 1) (by omega) (by omega)
              have L0 := L63 _ 0 (Nat.lt_succ_self _) (by omega)
              rw [show svF (fun g => costR im n.toNat (10 * p.toNat + g)) b 0 = 0 from rfl, Int.sub_zero] at L0
              exact L0
        exact L46 _ 0 (Nat.lt_succ_self _) (by omega)
      · refine q_bipush (t := 34) F dX9_few_32 (by decide) rfl ?_
        refine q_iret F dX9_few_34 rfl ?_
        first
          | exact ⟨_, rfl, fun _ => ⟨rfl, rfl⟩, fun z => absurd z (by omega)⟩
          | (obtain rfl : b = 1024 := by omega
             exact ⟨_, rfl, fun z => absurd (by omega) z, fun _ => ⟨im2, lm2, rfl, hR2, hU, hlg2, rfl⟩⟩)
end
