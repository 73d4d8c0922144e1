/-! the reference: hours, one behind the other -/

theorem findF_snoc (P : Nat → Bool) (n : Nat) : ∀ i, findF P i (n + 1) = if findF P i n = -1 then (if P (i + n) = true then ((i + n : Nat) : Int) else -1) else findF P i n := by
  induction n with
  | zero =>
    intro i
    show (if P i = true then (i : Int) else -1) = if (-1 : Int) = -1 then (if P (i + 0) = true then ((i + 0 : Nat) : Int) else -1) else -1
    rw [if_pos rfl, Nat.add_zero]
  | succ n ih =>
    intro i
    rw [findF_s P i (n + 1), findF_s P i n]
    by_cases h : P i = true
    · rw [if_pos h, if_pos h, if_neg (by omega)]
    · rw [if_neg h, if_neg h, ih (i + 1), show i + 1 + n = i + (n + 1) by omega]
theorem goK_s (T : Nat → (Nat → Int) → Int) (k nb w a g h : Int) (n : Nat) : goK T k nb w a g h (n + 1) = if goK T k nb w a g h n = -1 then (if w ≠ -1 ∧ hoK T k nb w g (h + n) (a + n + 1) ≤ a + n + 1 then (n : Int) else -1) else goK T k nb w a g h n := by
  unfold goK
  by_cases hw : w = -1
  · rw [if_pos hw, if_pos hw, if_pos rfl, if_neg (fun z => z.1 hw)]
  · rw [if_neg hw, if_neg hw, findF_snoc, Nat.zero_add]
    by_cases hf : findF (offK T k nb w a g h) 0 n = -1
    · rw [if_pos hf, if_pos hf]
      unfold offK
      by_cases hh : hoK T k nb w g (h + n) (a + n + 1) ≤ a + n + 1
      · rw [if_pos (decide_eq_true hh), if_pos ⟨hw, hh⟩]
      · rw [if_neg (fun z => hh (of_decide_eq_true z)), if_neg (fun z => hh z.2)]
    · rw [if_neg hf, if_neg hf]
theorem goK_0 (T : Nat → (Nat → Int) → Int) (k nb w a g h : Int) : goK T k nb w a g h 0 = -1 := by
  unfold goK
  split <;> rfl
theorem goK_in (T : Nat → (Nat → Int) → Int) (k nb w a g h : Int) (n : Nat) : goK T k nb w a g h n = -1 ∨ 0 ≤ goK T k nb w a g h n ∧ goK T k nb w a g h n < n := by
  unfold goK
  split
  · exact Or.inl rfl
  · have := findF_in (offK T k nb w a g h) n 0
    omega
def TR (im : IM) : Nat → (Nat → Int) → Int := sayR im (im 30 0 4).toNat
def goR (im : IM) (q n : Nat) : Int := goK (TR im) (im 34 0 (q / 10)) (im 35 0 (q / 10)) (im 36 0 q) (im 37 0 q) ((q % 10 : Nat) : Int) (im 30 0 7) n
def beT (im : IM) (q : Nat) (later : Int) : Int := beK (TR im) (im 34 0 (q / 10)) (im 35 0 (q / 10)) (im 36 0 q) (im 37 0 q) ((q % 10 : Nat) : Int) (im 30 0 7) later (chI (im 30 0 8) (im 30 0 7 + later))
def whenR (im : IM) (n q : Nat) : Int := if ((q / 10 : Nat) : Int) < im 30 0 12 then goR im q n else -1
def costR (im : IM) (n q : Nat) : Int := if whenR im n q = -1 then 0 else beT im q (whenR im n q)
def smF (f : Nat → Int) : Nat → Int
  | 0 => 0
  | N + 1 => smF f N + f N
def fstG (f : Nat → Int) : Nat → Int
  | 0 => -1
  | N + 1 => if f N ≠ -1 ∧ (fstG f N = -1 ∨ f N < f (fstG f N).toNat) then (N : Int) else fstG f N
def cnR (im : IM) (n q : Nat) : Int := if whenR im n q = -1 then 0 else 1
theorem smF_c {f g : Nat → Int} {N : Nat} (h : ∀ q, q < N → f q = g q) : smF f N = smF g N := by
  induction N with
  | zero => rfl
  | succ N ih =>
    show smF f N + f N = smF g N + g N
    rw [ih (fun q hq => h q (by omega)), h N (by omega)]
theorem smF_add (f g : Nat → Int) (N : Nat) : smF (fun q => f q + g q) N = smF f N + smF g N := by
  induction N with
  | zero => rfl
  | succ N ih =>
    show smF (fun q => f q + g q) N + (f N + g N) = smF f N + f N + (smF g N + g N)
    rw [ih]
    omega
theorem smF_ext {f : Nat → Int} {N : Nat} (m : Nat) (h : ∀ q, N ≤ q → f q = 0) : smF f (N + m) = smF f N := by
  induction m with
  | zero => rfl
  | succ m ih =>
    show smF f (N + m) + f (N + m) = smF f N
    rw [ih, h (N + m) (by omega)]
    omega
theorem smF_in {f : Nat → Int} {a b : Int} {N : Nat} (h : ∀ q, q < N → a ≤ f q ∧ f q ≤ b) (ha : a ≤ 0) (hb : 0 ≤ b) : a * N ≤ smF f N ∧ smF f N ≤ b * N := by
  induction N with
  | zero => exact ⟨by show a * ((0 : Nat) : Int) ≤ 0; simp, by show 0 ≤ b * ((0 : Nat) : Int); simp⟩
  | succ N ih =>
    have h1 := ih (fun q hq => h q (by omega))
    have h2 := h N (by omega)
    show a * ((N + 1 : Nat) : Int) ≤ smF f N + f N ∧ smF f N + f N ≤ b * ((N + 1 : Nat) : Int)
    rw [Int.natCast_add, Int.mul_add, Int.mul_add]
    simp only [Int.natCast_one, Int.mul_one]
    omega
theorem fstG_in (f : Nat → Int) (N : Nat) : ((∀ q, q < N → f q = -1) ∧ fstG f N = -1) ∨ ∃ s, s < N ∧ fstG f N = s ∧ f s ≠ -1 ∧ ∀ j, j < N → f j ≠ -1 → f s < f j ∨ f s = f j ∧ s ≤ j := by
  induction N with
  | zero => exact Or.inl ⟨fun q hq => absurd hq (Nat.not_lt_zero q), rfl⟩
  | succ N ih =>
    have e : fstG f (N + 1) = if f N ≠ -1 ∧ (fstG f N = -1 ∨ f N < f (fstG f N).toNat) then (N : Int) else fstG f N := rfl
    rw [e]
    rcases ih with ⟨h1, h2⟩ | ⟨s, hs, h2, h3, h4⟩
    · by_cases hN : f N = -1
      · left
        rw [if_neg (fun z => z.1 hN)]
        refine ⟨fun q hq => ?_, h2⟩
        by_cases e : q = N
        · rw [e]; exact hN
        · exact h1 q (by omega)
      · right
        rw [if_pos ⟨hN, Or.inl h2⟩]
        refine ⟨N, by omega, rfl, hN, fun j hj hne => ?_⟩
        by_cases e : j = N
        · rw [e]; right; exact ⟨rfl, Nat.le_refl N⟩
        · exact absurd (h1 j (by omega)) hne
    · right
      have e2 : (fstG f N).toNat = s := by rw [h2]; rfl
      by_cases hN : f N ≠ -1 ∧ f N < f s
      · rw [if_pos ⟨hN.1, Or.inr (by rw [e2]; exact hN.2)⟩]
        refine ⟨N, by omega, rfl, hN.1, fun j hj hne => ?_⟩
        by_cases e : j = N
        · rw [e]; right; exact ⟨rfl, Nat.le_refl N⟩
        · have := h4 j (by omega) hne
          omega
      · rw [if_neg (fun z => hN ⟨z.1, by rcases z.2 with q | q; (· exfalso; omega); (· rw [e2] at q; exact q)⟩)]
        refine ⟨s, by omega, h2, h3, fun j hj hne => ?_⟩
        by_cases e : j = N
        · rw [e] at hne ⊢
          have : ¬ f N < f s := fun q => hN ⟨hne, q⟩
          omega
        · exact h4 j (by omega) hne
theorem bm_add (x y : Int) : bm (bm x + y) = bm (x + y) := by
  unfold bm
  first
    | exact Int.bmod_add_bmod
    | exact Int.bmod_add_bmod_congr
    | simp
theorem bm_sub (x y : Int) : bm (bm x - y) = bm (x - y) := by
  rw [Int.sub_eq_add_neg, bm_add, ← Int.sub_eq_add_neg]
theorem bm_idd {x : Int} (h : ri x) : bm x = x := bm_id h
theorem shI_sm {im : IM} {x : Int} (h : im 30 0 9 = bm x) (n : Nat) : shI im n = bm (x + smF (fun q => if ofI im q then be1 im q else 0) n) := by
  induction n with
  | zero =>
    show im 30 0 9 = bm (x + 0)
    rw [h, Int.add_zero]
  | succ n ih =>
    show (if ofI im n then bm (shI im n + be1 im n) else shI im n) = bm (x + (smF (fun q => if ofI im q then be1 im q else 0) n + if ofI im n then be1 im n else 0))
    by_cases ho : ofI im n
    · rw [if_pos ho, if_pos ho, ih, bm_add, Int.add_assoc]
    · rw [if_neg ho, if_neg ho, ih, Int.add_zero]
theorem cnI_sm {im : IM} (h0 : 0 ≤ im 30 0 30) (h1 : im 30 0 30 ≤ 1000) {n : Nat} (hn : n ≤ 50) : cnI im n = im 30 0 30 + smF (fun q => if ofI im q then 1 else 0) n := by
  induction n with
  | zero => exact (Int.add_zero _).symm
  | succ n ih =>
    have ih := ih (by omega)
    have hb := smF_in (f := fun q => if ofI im q then (1 : Int) else 0) (a := 0) (b := 1) (N := n) (fun q _ => by show 0 ≤ (if ofI im q then (1 : Int) else 0) ∧ (if ofI im q then (1 : Int) else 0) ≤ 1; split <;> omega) (by omega) (by omega)
    show (if ofI im n then bm (cnI im n + 1) else cnI im n) = im 30 0 30 + (smF (fun q => if ofI im q then 1 else 0) n + if ofI im n then 1 else 0)
    by_cases ho : ofI im n
    · rw [if_pos ho, if_pos ho, ih, bm_idd (by constructor <;> omega)]
      omega
    · rw [if_neg ho, if_neg ho, ih, Int.add_zero]
/-- all but what hours go through -/
def agE (a b : IM) : Prop := ∀ k i s, ¬ (36 ≤ k ∧ k ≤ 39) → ¬ (k = 30 ∧ (s = 7 ∨ s = 9 ∨ 15 ≤ s ∧ s ≤ 33)) → a k i s = b k i s
theorem sayR_E {a b : IM} (h : agE a b) (t part : Nat) (nm : Nat → Int) : sayR a t part nm = sayR b t part nm := by
  unfold sayR
  have e31 : rowR a t = rowR b t := funext fun i => h 31 0 _ (by omega) (by omega)
  rw [h 32 0 t (by omega) (by omega), e31]
/-- behind t hours -/
def RN (B : IM) (t : Nat) (F : IM) : Prop := agE F B ∧ F 30 0 7 = B 30 0 7 + t ∧ (∀ q : Nat, (q : Int) < 10 * B 30 0 12 → (whenR B t q = -1 → F 36 0 q = B 36 0 q ∧ (B 36 0 q ≠ -1 → F 37 0 q = B 37 0 q + t)) ∧ (whenR B t q ≠ -1 → F 36 0 q = -1) ∧ F 38 0 q = whenR B t q ∧ F 39 0 q = costR B t q) ∧ (∀ q : Nat, 10 * B 30 0 12 ≤ (q : Int) → F 36 0 q = B 36 0 q ∧ F 37 0 q = B 37 0 q ∧ F 38 0 q = B 38 0 q ∧ F 39 0 q = B 39 0 q) ∧ F 30 0 9 = bm (B 30 0 9 + smF (costR B t) (10 * B 30 0 12).toNat) ∧ F 30 0 30 = smF (cnR B t) (10 * B 30 0 12).toNat ∧ ((∀ q : Nat, (q : Int) < 10 * B 30 0 12 → whenR B t q = -1) → F 30 0 31 = -1 ∧ F 30 0 32 = -1 ∧ F 30 0 33 = -1) ∧ (∀ s : Nat, (s : Int) < 10 * B 30 0 12 → whenR B t s ≠ -1 → (∀ j : Nat, (j : Int) < 10 * B 30 0 12 → whenR B t j ≠ -1 → whenR B t s < whenR B t j ∨ whenR B t s = whenR B t j ∧ s ≤ j) → F 30 0 31 = B 36 0 s ∧ F 30 0 32 = ((s / 10 : Nat) : Int) ∧ F 30 0 33 = whenR B t s)
theorem whenR_0 (B : IM) (q : Nat) : whenR B 0 q = -1 := by
  unfold whenR goR
  rw [goK_0]
  split <;> rfl
theorem whenR_in (B : IM) (n q : Nat) : whenR B n q = -1 ∨ 0 ≤ whenR B n q ∧ whenR B n q < n := by
  unfold whenR goR
  split
  · exact goK_in _ _ _ _ _ _ _ _
  · exact Or.inl rfl
theorem RN_0 {B : IM} (h38 : ∀ q : Nat, (q : Int) < 10 * B 30 0 12 → B 38 0 q = -1 ∧ B 39 0 q = 0) (h9 : ri (B 30 0 9)) (h30 : B 30 0 30 = 0) (h31 : B 30 0 31 = -1 ∧ B 30 0 32 = -1 ∧ B 30 0 33 = -1) : RN B 0 B := by
  have hz : ∀ f : Nat → Int, (∀ q, f q = 0) → ∀ N, smF f N = 0 := by
    intro f hf N
    induction N with
    | zero => rfl
    | succ N ih => show smF f N + f N = 0; rw [ih, hf]; rfl
  have hc : ∀ q, costR B 0 q = 0 := fun q => by unfold costR; rw [if_pos (whenR_0 B q)]
  have hn : ∀ q, cnR B 0 q = 0 := fun q => by unfold cnR; rw [if_pos (whenR_0 B q)]
  refine ⟨fun _ _ _ _ _ => rfl, by omega, fun q hq => ⟨fun _ => ⟨rfl, fun _ => by omega⟩, fun z => absurd (whenR_0 B q) z, ?_, ?_⟩, fun q hq => ⟨rfl, rfl, rfl, rfl⟩, ?_, ?_, fun _ => h31, fun s hs z => absurd (whenR_0 B s) z⟩
  · rw [whenR_0]; exact (h38 q hq).1
  · rw [hc]; exact (h38 q hq).2
  · rw [hz _ hc, Int.add_zero, bm_idd h9]
  · rw [hz _ hn]; exact h30
theorem RN_q {B F : IM} {t : Nat} (h : RN B t F) {q : Nat} (hq : (q : Int) < 10 * B 30 0 12) : (ofI F q ∧ whenR B t q = -1 ∧ whenR B (t + 1) q = t ∧ be1 F q = beT B q t) ∨ (¬ ofI F q ∧ whenR B (t + 1) q = whenR B t q) := by
  obtain ⟨hE, h7, hc, hge, h9, h30, hn1, hn2⟩ := h
  have hp : ((q / 10 : Nat) : Int) < B 30 0 12 := by omega
  have ew : ∀ n, whenR B n q = goR B q n := fun n => by unfold whenR; rw [if_pos hp]
  have es : goR B q (t + 1) = if goR B q t = -1 then (if B 36 0 q ≠ -1 ∧ hoK (TR B) (B 34 0 (q / 10)) (B 35 0 (q / 10)) (B 36 0 q) ((q % 10 : Nat) : Int) (B 30 0 7 + t) (B 37 0 q + t + 1) ≤ B 37 0 q + t + 1 then (t : Int) else -1) else goR B q t := goK_s _ _ _ _ _ _ _ _
  have hcq := hc q hq
  rw [ew, ew]
  rw [ew] at hcq
  by_cases hg : goR B q t = -1
  · have e36 := (hcq.1 hg).1
    rw [if_pos hg] at es
    by_cases hw : B 36 0 q = -1
    · right
      rw [if_neg (fun z => z.1 hw)] at es
      exact ⟨fun z => z.1 (e36.trans hw), by rw [es, hg]⟩
    · have e37 := (hcq.1 hg).2 hw
      have eho : ho1 F q = hoK (TR B) (B 34 0 (q / 10)) (B 35 0 (q / 10)) (B 36 0 q) ((q % 10 : Nat) : Int) (B 30 0 7 + t) (B 37 0 q + t + 1) := by
        unfold ho1
        rw [sayR_E hE, hE 34 0 _ (by omega) (by omega), hE 35 0 _ (by omega) (by omega), e36, e37, h7, hE 30 0 4 (by omega) (by omega)]
        rfl
      have ebe : be1 F q = beT B q t := by
        unfold be1
        rw [sayR_E hE, hE 34 0 _ (by omega) (by omega), hE 35 0 _ (by omega) (by omega), e36, e37, h7, hE 30 0 4 (by omega) (by omega), hE 30 0 8 (by omega) (by omega)]
        rfl
      by_cases ho : hoK (TR B) (B 34 0 (q / 10)) (B 35 0 (q / 10)) (B 36 0 q) ((q % 10 : Nat) : Int) (B 30 0 7 + t) (B 37 0 q + t + 1) ≤ B 37 0 q + t + 1
      · left
        rw [if_pos ⟨hw, ho⟩] at es
        exact ⟨⟨by rw [e36]; exact hw, by rw [eho, e37]; exact ho⟩, hg, es, ebe⟩
      · right
        rw [if_neg (fun z => ho z.2)] at es
        exact ⟨fun z => ho (by have := z.2; rw [eho, e37] at this; exact this), by rw [es, hg]⟩
  · right
    rw [if_neg hg] at es
    exact ⟨fun z => z.1 (hcq.2.1 hg), es⟩
theorem RN_s {B F F1 : IM} {t : Nat} (h12 : 0 ≤ B 30 0 12 ∧ B 30 0 12 ≤ 5) (h : RN B t F) (hL : LV F t (10 * B 30 0 12).toNat F1) : RN B (t + 1) (up F1 30 0 7 (F 30 0 7 + 1)) := by
  have hq := fun q hq => RN_q h (q := q) hq
  obtain ⟨hE, h7, hc, hge, h9, h30, hn1, hn2⟩ := h
  obtain ⟨lH, lge, llt, l9, l30, ln0, ln1, ln2⟩ := hL
  have u : ∀ k s, ¬ (k = 30 ∧ s = 7) → up F1 30 0 7 (F 30 0 7 + 1) k 0 s = F1 k 0 s := fun k s z => by rw [up_app, if_neg (by omega)]
  have hcnt := smF_in (f := cnR B t) (a := 0) (b := 1) (N := (10 * B 30 0 12).toNat) (fun q _ => by unfold cnR; split <;> omega) (by omega) (by omega)
  refine ⟨fun k i s a b => ?_, ?_, fun q hqq => ?_, fun q hqq => ?_, ?_, ?_, fun hall => ?_, fun s hs hne hmin => ?_⟩
  · rw [up_app, if_neg (by omega), lH k i s a (by omega)]
    exact hE k i s a b
  · rw [up_app, if_pos ⟨rfl, rfl, rfl⟩, h7]
    omega
  · rw [u 36 q (by omega), u 37 q (by omega), u 38 q (by omega), u 39 q (by omega)]
    have hcq := hc q hqq
    have hl := llt q (by omega)
    rcases hq q hqq with ⟨a1, a2, a3, a4⟩ | ⟨a1, a2⟩
    · have l := hl.1 a1
      refine ⟨fun z => absurd z (by omega), fun _ => l.1, by rw [a3]; exact l.2.1, ?_⟩
      unfold costR
      rw [if_neg (by omega), a3, ← a4]
      exact l.2.2
    · have l := hl.2 a1
      have ec : costR B (t + 1) q = costR B t q := by unfold costR; rw [a2]
      rw [a2, ec]
      refine ⟨fun z => ⟨l.1.trans (hcq.1 z).1, fun w => ?_⟩, fun z => ?_, l.2.2.2.1.trans hcq.2.2.1, l.2.2.2.2.trans hcq.2.2.2⟩
      · rw [l.2.1 (by rw [(hcq.1 z).1]; exact w), (hcq.1 z).2 w]
        omega
      · rw [l.1]; exact hcq.2.1 z
  · rw [u 36 q (by omega), u 37 q (by omega), u 38 q (by omega), u 39 q (by omega)]
    have l := lge q (by omega)
    have g := hge q hqq
    exact ⟨l.1.trans g.1, l.2.1.trans g.2.1, l.2.2.1.trans g.2.2.1, l.2.2.2.trans g.2.2.2⟩
  · rw [u 30 9 (by omega), l9, shI_sm h9, Int.add_assoc, ← smF_add]
    refine congrArg (fun z => bm (B 30 0 9 + z)) (smF_c fun q hqq => ?_)
    rcases hq q (by omega) with ⟨a1, a2, a3, a4⟩ | ⟨a1, a2⟩
    · show costR B t q + (if ofI F q then be1 F q else 0) = costR B (t + 1) q
      unfold costR
      rw [if_pos a1, if_pos a2, if_neg (by omega), a3, a4]
      omega
    · show costR B t q + (if ofI F q then be1 F q else 0) = costR B (t + 1) q
      unfold costR
      rw [if_neg a1, a2]
      omega
  · rw [u 30 30 (by omega), l30, cnI_sm (by omega) (by omega) (by omega), h30, ← smF_add]
    refine smF_c fun q hqq => ?_
    rcases hq q (by omega) with ⟨a1, a2, a3, a4⟩ | ⟨a1, a2⟩
    · show cnR B t q + (if ofI F q then 1 else 0) = cnR B (t + 1) q
      unfold cnR
      rw [if_pos a1, if_pos a2, if_neg (by omega)]
      omega
    · show cnR B t q + (if ofI F q then 1 else 0) = cnR B (t + 1) q
      unfold cnR
      rw [if_neg a1, a2]
      omega
  · rw [u 30 31 (by omega), u 30 32 (by omega), u 30 33 (by omega)]
    have hno : ∀ q : Nat, (q : Int) < 10 * B 30 0 12 → ¬ ofI F q ∧ whenR B t q = -1 := fun q hqq => by
      rcases hq q hqq with ⟨a1, a2, a3, a4⟩ | ⟨a1, a2⟩
      · have := hall q hqq
        omega
      · exact ⟨a1, a2 ▸ hall q hqq⟩
    have g := hn1 (fun q hqq => (hno q hqq).2)
    have l := ln1 g.2.2 (fun q hqq => (hno q (by omega)).1)
    exact ⟨l.1.trans g.1, l.2.1.trans g.2.1, l.2.2.trans g.2.2⟩
  · rw [u 30 31 (by omega), u 30 32 (by omega), u 30 33 (by omega)]
    have hst : ∀ j : Nat, (j : Int) < 10 * B 30 0 12 → whenR B t j ≠ -1 → whenR B (t + 1) j = whenR B t j := fun j hj z => by
      rcases hq j hj with ⟨a1, a2, a3, a4⟩ | ⟨a1, a2⟩
      · exact absurd a2 z
      · exact a2
    by_cases hs1 : whenR B t s = -1
    · have hall : ∀ j : Nat, (j : Int) < 10 * B 30 0 12 → whenR B t j = -1 := fun j hj => by
        refine Decidable.byContradiction fun z => ?_
        have e := hst j hj z
        have m := hmin j hj (by rw [e]; exact z)
        have i := whenR_in B t j
        rcases hq s hs with ⟨a1, a2, a3, a4⟩ | ⟨a1, a2⟩
        · omega
        · omega
      have g := hn1 hall
      rcases hq s hs with ⟨a1, a2, a3, a4⟩ | ⟨a1, a2⟩
      · have l := ln2 g.2.2 s (by omega) a1 (fun j hj z => by
          rcases hq j (by omega) with ⟨b1, b2, b3, b4⟩ | ⟨b1, b2⟩
          · have m := hmin j (by omega) (by omega)
            omega
          · exact b1 z)
        rw [a3]
        exact ⟨l.1.trans ((hc s hs).1 hs1).1, l.2.1, l.2.2⟩
      · exact absurd (a2.trans hs1) hne
    · have e := hst s hs hs1
      have g := hn2 s hs hs1 (fun j hj z => by
        have m := hmin j hj (by rw [hst j hj z]; exact z)
        rw [hst j hj z, e] at m
        exact m)
      have l := ln0 (by rw [g.2.2]; exact hs1)
      rw [e]
      exact ⟨l.1.trans g.1, l.2.1.trans g.2.1, l.2.2.trans g.2.2⟩
