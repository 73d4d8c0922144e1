/-! BOTH: a world that is thought of; foods that are drawn -/

def RW (w : Nat) (C R : IM) : Prop := (C 18 w 3 = R 30 0 12 ∧ C 18 w 4 = R 30 0 7 ∧ C 18 w 5 = R 30 0 8) ∧ (∀ part, part < 3 → ∀ nm, tellV C (C 18 w 7).toNat part nm = TR R part nm) ∧ (∀ p : Nat, (p : Int) < R 30 0 12 → C 21 (5 * w + p) 0 = R 34 0 p ∧ C 21 (5 * w + p) 1 = R 35 0 p ∧ ∀ g, g < 10 → C 22 (5 * w + p) g = R 36 0 (10 * p + g) ∧ (C 22 (5 * w + p) g ≠ -1 → C 23 (5 * w + p) g = R 37 0 (10 * p + g)))
theorem TR_x {a b : IM} (h31 : ∀ s, a 31 0 s = b 31 0 s) (h32 : ∀ s, a 32 0 s = b 32 0 s) (h4 : a 30 0 4 = b 30 0 4) : TR a = TR b := by
  funext part nm
  unfold TR sayR
  have e31 : rowR a (a 30 0 4).toNat = rowR b (b 30 0 4).toNat := by
    rw [h4]
    exact funext fun i => h31 _
  rw [e31, h4, h32]
theorem RW_0 {C R : IM} (h : REL C R) : RW 0 C R := ⟨⟨h.2.2.2.2.1.1, h.2.2.2.2.1.2.1, h.2.2.2.2.1.2.2.1⟩, fun part hp nm => h.tell hp nm, h.2.2.2.2.2.1⟩
/-- the true world is gone through in another -/
theorem RW_1 {C R : IM} (h : REL C R) {S : IM} (hS : agC S R) (h7 : S 30 0 7 = R 30 0 7) : RW 1 (becM C 1 0) S := by
  obtain ⟨⟨a3, a4, a5⟩, hT, hP⟩ := RW_0 h
  have eT := TR_C hS
  obtain ⟨c, e3, e4, e6, e8, e12⟩ := hS
  have b18 : ∀ s, 3 ≤ s → s ≤ 7 → becM C 1 0 18 1 s = C 18 0 s := fun s s1 s2 => bec_18 ⟨s1, s2⟩
  refine ⟨⟨by rw [b18 3 (by omega) (by omega), e12]; exact a3, by rw [b18 4 (by omega) (by omega), h7]; exact a4, by rw [b18 5 (by omega) (by omega), e8]; exact a5⟩, fun part hp nm => ?_, fun p hp => ?_⟩
  · rw [b18 7 (by omega) (by omega), eT, ← hT part hp nm]
    exact tellV_congr (fun s => bec_k (by omega) _ _) (fun s => bec_k (by omega) _ _)
  · rw [e12] at hp
    have q := hP p hp
    have m3 : p < (C 18 0 3).toNat := by omega
    have bc : ∀ k s, (k = 21 ∧ s < 2 ∨ k = 22 ∧ s < 10 ∨ k = 23 ∧ s < 10) → becM C 1 0 k (5 * 1 + p) s = C k (5 * 0 + p) s := fun k s hk => bec_c hk m3
    rw [bc 21 0 (by omega), bc 21 1 (by omega), c 34 _ (by omega) (by omega), c 35 _ (by omega) (by omega)]
    refine ⟨q.1, q.2.1, fun g hg => ?_⟩
    rw [bc 22 g (by omega), bc 23 g (by omega), c 36 _ (by omega) (by omega), c 37 _ (by omega) (by omega)]
    exact q.2.2 g hg
theorem RW.cnt {w : Nat} {C R : IM} (h : RW w C R) {p : Nat} (hp : (p : Int) < R 30 0 12) : cntW (C 22 (5 * w + p)) 10 = cntW (stR R p) 10 := cntW_c 10 fun g hg => ((h.2.2 p hp).2.2 g hg).1
theorem RW.ut {w : Nat} {C R : IM} (h : RW w C R) {p : Nat} (hp : (p : Int) < R 30 0 12) (wd fd : Int) : uttW C w p wd fd = utR R p wd fd := by
  have q := h.2.2 p hp
  obtain ⟨a3, a4, a5⟩ := h.1
  have e : takesW C w p wd fd = gpR R p wd fd := by
    show takesK (C 21 (5 * w + p) 0) (tellV C (C 18 w 7).toNat 0 (nmW C w p wd fd)) = takesK (R 34 0 p) (TR R 0 (nmA wd fd (R 30 0 7) (R 35 0 p) 0 (cntW (stR R p) 10)))
    unfold nmW
    rw [h.2.1 0 (by omega), q.1, q.2.1, h.cnt hp, a4]
    rfl
  unfold uttW utR
  rw [e]
  by_cases h0 : 0 ≤ gpR R p wd fd
  · have h9 : gpR R p wd fd ≤ 9 := by
      have := takesR_in (k := R 34 0 p) (sayR_in R (R 30 0 4).toNat 0 (nmA wd fd (R 30 0 7) (R 35 0 p) 0 (cntW (stR R p) 10)))
      exact this.2
    rw [(q.2.2 (gpR R p wd fd).toNat (by omega)).1]
  · rw [if_neg (fun z => h0 z.1), if_neg (fun z => h0 z.1)]
theorem RW.Y {w : Nat} {C R S : IM} (h : RW w C R) (ha : agY S R) : RW w C S := by
  obtain ⟨⟨a3, a4, a5⟩, hT, hP⟩ := h
  have e : ∀ s, s < 15 → S 30 0 s = R 30 0 s := fun s _ => ha 30 0 s (by omega)
  have eT : TR S = TR R := TR_x (fun s => ha 31 0 s (by omega)) (fun s => ha 32 0 s (by omega)) (e 4 (by omega))
  refine ⟨⟨by rw [e 12 (by omega)]; exact a3, by rw [e 7 (by omega)]; exact a4, by rw [e 8 (by omega)]; exact a5⟩, by rw [eT]; exact hT, fun p hp => ?_⟩
  rw [e 12 (by omega)] at hp
  rw [ha 34 0 p (by omega), ha 35 0 p (by omega)]
  refine ⟨(hP p hp).1, (hP p hp).2.1, fun g hg => ?_⟩
  rw [ha 36 0 _ (by omega), ha 37 0 _ (by omega)]
  exact (hP p hp).2.2 g hg
theorem RW_put {w : Nat} {C R : IM} (h : RW w C R) (p g : Nat) (x a : Int) (hg : g < 10) : RW w (up (up C 22 (5 * w + p) g x) 23 (5 * w + p) g a) (up (up R 36 0 (10 * p + g) x) 37 0 (10 * p + g) a) := by
  obtain ⟨hN, hT, hP⟩ := h
  have c : ∀ k i s, k ≠ 22 → k ≠ 23 → up (up C 22 (5 * w + p) g x) 23 (5 * w + p) g a k i s = C k i s := fun k i s k1 k2 => by rw [up_app, if_neg (by omega), up_app, if_neg (by omega)]
  have r : ∀ k s, k ≠ 36 → k ≠ 37 → up (up R 36 0 (10 * p + g) x) 37 0 (10 * p + g) a k 0 s = R k 0 s := fun k s k1 k2 => by rw [up_app, if_neg (by omega), up_app, if_neg (by omega)]
  have eT : TR (up (up R 36 0 (10 * p + g) x) 37 0 (10 * p + g) a) = TR R := TR_x (fun s => r 31 s (by omega) (by omega)) (fun s => r 32 s (by omega) (by omega)) (r 30 4 (by omega) (by omega))
  refine ⟨hN, fun part hp nm => ?_, fun m hm => ?_⟩
  · rw [eT, c 18 w 7 (by omega) (by omega), ← hT part hp nm]
    exact tellV_congr (fun s => c 3 _ s (by omega) (by omega)) (fun s => c 4 _ s (by omega) (by omega))
  · have q := hP m hm
    rw [c 21 _ 0 (by omega) (by omega), c 21 _ 1 (by omega) (by omega), r 34 m (by omega) (by omega), r 35 m (by omega) (by omega)]
    refine ⟨q.1, q.2.1, fun i hi => ?_⟩
    have q2 := q.2.2 i hi
    simp only [up_app]
    by_cases z : m = p ∧ i = g
    · obtain ⟨rfl, rfl⟩ := z
      simp
    · rw [if_neg (by omega), if_neg (by omega), if_neg (by omega), if_neg (by omega), if_neg (by omega), if_neg (by omega), if_neg (by omega), if_neg (by omega)]
      exact q2
theorem RW_utt {w : Nat} {C R : IM} (h : RW w C R) {p : Nat} (hp : (p : Int) < R 30 0 12) (wd fd : Int) : RW w (uttM C w p wd fd) (spR R R p wd fd) := by
  have hu := utR_in (im := R) (p := p) (w := wd) (fd := fd)
  unfold uttM spR
  rw [h.ut hp]
  by_cases z : utR R p wd fd = -1
  · rw [if_pos z, if_pos z]; exact h
  · rw [if_neg z, if_neg z]
    exact RW_put h p _ wd 0 (by omega)
theorem ea_eq {C R : IM} (h : REL C R) {p : Nat} (hp : (p : Int) < R 30 0 12) (seed : Int) (i : Nat) : (RW 1 (dwI C p seed i) (eaI R p seed i) ∧ eaI R p seed i 30 0 12 = R 30 0 12) ∧ dwN C p seed i = eaN R p seed i := by
  induction i with
  | zero => exact ⟨⟨RW_1 h (asideI_C R) rfl, rfl⟩, rfl⟩
  | succ i ih =>
    obtain ⟨⟨a, b⟩, c⟩ := ih
    have hp2 : (p : Int) < eaI R p seed i 30 0 12 := by rw [b]; exact hp
    have e12 : eaI R p seed (i + 1) 30 0 12 = eaI R p seed i 30 0 12 := by
      show spR (eaI R p seed i) (eaI R p seed i) p i (dwF seed i) 30 0 12 = _
      unfold spR
      split
      · rfl
      · rw [up_app, if_neg (by omega), up_app, if_neg (by omega)]
    refine ⟨⟨RW_utt a hp2 _ _, e12.trans b⟩, ?_⟩
    rw [dwN_s, eaN_s, a.ut hp2, c]
theorem hi_eq {C R : IM} (h : REL C R) {p : Nat} (hp : (p : Int) < R 30 0 12) (seed : Int) (n : Nat) : hitF C p seed n = hiR R p seed n := by
  induction n with
  | zero => rfl
  | succ n ih => rw [hitF_s, hiR_s, ih, (ea_eq h hp (bm (seed + n)) 16).2]
theorem cd_gcd (a n : Nat) (hn : 0 < n) : ∀ d : Nat, (∀ e, d < e → e ≤ n → ¬ (e ∣ a ∧ e ∣ n)) → d ≤ n → cdF (a : Int) (n : Int) d = ((Nat.gcd a n : Nat) : Int) := by
  have hg : 0 < Nat.gcd a n := Nat.gcd_pos_of_pos_right a hn
  have hgn : Nat.gcd a n ≤ n := Nat.gcd_le_right a hn
  intro d
  induction d with
  | zero =>
    intro h hd
    exact absurd ⟨Nat.gcd_dvd_left a n, Nat.gcd_dvd_right a n⟩ (h (Nat.gcd a n) hg hgn)
  | succ d ih =>
    intro h hd
    rw [cdF_s]
    have e1 : ((a : Int) % ((d + 1 : Nat) : Int) = 0) ↔ (d + 1) ∣ a := by
      rw [← Int.natCast_emod]
      constructor
      · intro z; exact Nat.dvd_of_mod_eq_zero (by omega)
      · intro z; have := Nat.mod_eq_zero_of_dvd z; omega
    have e2 : ((n : Int) % ((d + 1 : Nat) : Int) = 0) ↔ (d + 1) ∣ n := by
      rw [← Int.natCast_emod]
      constructor
      · intro z; exact Nat.dvd_of_mod_eq_zero (by omega)
      · intro z; have := Nat.mod_eq_zero_of_dvd z; omega
    by_cases z : (d + 1) ∣ a ∧ (d + 1) ∣ n
    · have hdg : (d + 1) ∣ Nat.gcd a n := Nat.dvd_gcd z.1 z.2
      have hle : d + 1 ≤ Nat.gcd a n := Nat.le_of_dvd hg hdg
      have hge : ¬ d + 1 < Nat.gcd a n := fun y => h (Nat.gcd a n) y hgn ⟨Nat.gcd_dvd_left a n, Nat.gcd_dvd_right a n⟩
      have eg : d + 1 = Nat.gcd a n := by omega
      by_cases d0 : d = 0
      · subst d0
        rw [if_neg (by omega), ← eg]
        rfl
      · rw [if_pos ⟨by omega, e1.mpr z.1, e2.mpr z.2⟩, ← eg]
    · rw [if_neg (fun y => z ⟨e1.mp y.2.1, e2.mp y.2.2⟩)]
      refine ih (fun e he hen => ?_) (by omega)
      by_cases q : e = d + 1
      · rw [q]; exact z
      · exact h e (by omega) hen

theorem s_drawn (l : Launch) (G : GS) {C R : IM} (h : REL C R) (bt rt : Nat) (lm : IM) (p : Int) (s : Int) (n : Int) (hp : ri p) (hs : ri s) (hn : ri n) : Cn l (XR G) yX9_drawn Y_X9_drawn [vR 30 0, vI p, vI s, vI n] (R, rs bt rt, lm) (pI fun y m' => ∃ im2 lm2, REL (C) im2 ∧ (y = drawnA C p s n ∧ ri y) ∧ m' = (im2, rs bt rt, lm2)) := by
  obtain ⟨hRC, h79, hSH⟩ := h.RC
  have hAG := h.2.2.2.1
  have h5 := h.h5
  obtain ⟨a3, a4, a5, a6, a7⟩ := h.2.2.2.2.1
  have hRi := h.2.1
  refine (c_X9_drawn l G R bt rt lm hRC p s n hp hs hn).mono ?_
  rintro r m' ⟨y, hr, im2, lm2, e, hR2, ha, -, rfl⟩
  have hea := eaN_in R p.toNat s n.toNat
  refine ⟨y, hr, im2, lm2, h.S ha hR2, ⟨?_, by rw [e]; split <;> (constructor <;> omega)⟩, rfl⟩
  rw [e]
  unfold drawnA
  by_cases ok : (0 ≤ p ∧ p < R 30 0 12) ∧ 0 ≤ n ∧ n ≤ 16
  · rw [if_pos ok, if_pos (show (0 ≤ p ∧ p < C 18 0 3) ∧ 0 ≤ n ∧ n ≤ 16 by omega), (ea_eq h (by omega) s n.toNat).2]
  · rw [if_neg ok, if_neg (show ¬ ((0 ≤ p ∧ p < C 18 0 3) ∧ 0 ≤ n ∧ n ≤ 16) by omega)]
theorem s_chance (l : Launch) (G : GS) {C R : IM} (h : REL C R) (bt rt : Nat) (lm : IM) (p : Int) (s : Int) (n : Int) (w : Int) (hp : ri p) (hs : ri s) (hn : ri n) (hw : ri w) : Cn l (XR G) yX9_chance Y_X9_chance [vR 30 0, vI p, vI s, vI n, vI w] (R, rs bt rt, lm) (pL fun y m' => ∃ im2 lm2, REL (C) im2 ∧ (y = chanceA C p s n w ∧ rl y) ∧ m' = (im2, rs bt rt, lm2)) := by
  obtain ⟨hRC, h79, hSH⟩ := h.RC
  have hAG := h.2.2.2.1
  have h5 := h.h5
  obtain ⟨a3, a4, a5, a6, a7⟩ := h.2.2.2.2.1
  have hRi := h.2.1
  refine (c_X9_chance l G R bt rt lm hRC p s n w hp hs hn hw).mono ?_
  rintro r m' ⟨y, hr, im2, lm2, e, hR2, ha, -, rfl⟩
  have hhi := hiR_in R p.toNat s n.toNat
  have e2 : y = chanceA C p s n w := by
    rw [e]
    unfold chanceA
    by_cases ok : ((0 : Int) ≤ p ∧ p < R 30 0 12) ∧ ((1 : Int) ≤ n ∧ (n : Int) ≤ 20) ∧ 0 ≤ w ∧ w ≤ 1
    · have ec := cd_gcd (hiR R p.toNat s n.toNat).toNat n.toNat (by omega) n.toNat (fun e h1 h2 => by omega) (Nat.le_refl _)
      rw [Int.toNat_of_nonneg hhi.1, Int.toNat_of_nonneg (show 0 ≤ n by omega)] at ec
      rw [if_pos ok, if_pos (show (0 ≤ p ∧ p < C 18 0 3) ∧ (1 ≤ n ∧ n ≤ 20) ∧ 0 ≤ w ∧ w < 2 by omega), hi_eq h (by omega), ec]
    · rw [if_neg ok, if_neg (show ¬ ((0 ≤ p ∧ p < C 18 0 3) ∧ (1 ≤ n ∧ n ≤ 20) ∧ 0 ≤ w ∧ w < 2) by omega)]
  refine ⟨y, hr, im2, lm2, h.S ha hR2, ⟨e2, ?_⟩, rfl⟩
  rw [e]
  split
  · rename_i ok
    have d1 : ∀ a g : Int, 0 ≤ a → a ≤ 20 → 0 ≤ a / g ∨ g < 0 := fun a g h1 h2 => by
      by_cases g0 : 0 ≤ g
      · exact Or.inl (Int.ediv_nonneg h1 g0)
      · exact Or.inr (by omega)
    have d2 : ∀ a g : Int, 0 ≤ a → a ≤ 20 → 0 ≤ g → a / g ≤ 20 := fun a g h1 h2 h3 => Int.le_trans (Int.ediv_le_self g h1) h2
    have g0 : (0 : Int) ≤ ((Nat.gcd (hiR R p.toNat s n.toNat).toNat n.toNat : Nat) : Int) := Int.natCast_nonneg _
    by_cases w0 : w = 0
    · rw [if_pos w0]
      have q1 := d1 (hiR R p.toNat s n.toNat) ((Nat.gcd (hiR R p.toNat s n.toNat).toNat n.toNat : Nat) : Int) hhi.1 (by omega)
      have q2 := d2 (hiR R p.toNat s n.toNat) ((Nat.gcd (hiR R p.toNat s n.toNat).toNat n.toNat : Nat) : Int) hhi.1 (by omega) g0
      constructor <;> omega
    · rw [if_neg w0]
      have q1 := d1 n ((Nat.gcd (hiR R p.toNat s n.toNat).toNat n.toNat : Nat) : Int) (by omega) (by omega)
      have q2 := d2 n ((Nat.gcd (hiR R p.toNat s n.toNat).toNat n.toNat : Nat) : Int) (by omega) (by omega) g0
      constructor <;> omega
  · constructor <;> omega
