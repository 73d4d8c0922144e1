/-! BOTH: church, kissing -/

theorem pow_bit : ∀ i, i < 24 → ∀ j, j < 24 → (2 ^ i % 4294967296 / 2 ^ j % 2 = 0 ↔ i ≠ j) := by decide +kernel
theorem chI_pow {i : Nat} (hi : i < 24) (h : Int) : chI ((2 ^ i : Nat) : Int) h = if h % 24 = i then 1 else 0 := by
  unfold chI
  have hj : (h % 24).toNat < 24 := by omega
  have e : ((2 ^ i : Nat) : Int) % 4294967296 / 2 ^ (h % 24).toNat % 2 = ((2 ^ i % 4294967296 / 2 ^ (h % 24).toNat % 2 : Nat) : Int) := by
    rw [Int.natCast_emod, Int.natCast_ediv, Int.natCast_emod, Int.natCast_pow 2 (h % 24).toNat]
    rfl
  rw [e]
  have p := pow_bit i hi (h % 24).toNat hj
  by_cases z : h % 24 = i
  · rw [if_pos z, if_neg (fun y => p.mp (by omega) (by omega))]
  · rw [if_neg z, if_pos (by have := p.mpr (by omega); omega)]
theorem beW_c {C R : IM} (h : REL C R) {p g : Nat} (hp : (p : Int) < R 30 0 12) (hg : g < 10) (hw : C 22 (5 * 0 + p) g ≠ -1) (x c : Int) : bearsW C 0 p g x c = beK (TR R) (R 34 0 p) (R 35 0 p) (R 36 0 (10 * p + g)) (R 37 0 (10 * p + g)) (g : Int) (R 30 0 7) x c := by
  have q := h.2.2.2.2.2.1 p hp
  have q2 := q.2.2 g hg
  obtain ⟨a3, a4, a5, a6, a7⟩ := h.2.2.2.2.1
  unfold bearsW beK
  rw [h.tell (by omega), q.1, q.2.1, q2.2 hw, q2.1, a4]
theorem ch_eq {C R : IM} (h : REL C R) {i : Nat} (hi : i < 24) (n N : Nat) : smF (costR (up R 30 0 8 ((2 ^ i : Nat) : Int)) n) N = elsF C n N + byF C n i N := by
  have a4 := h.2.2.2.2.1.2.1
  have eT : TR (up R 30 0 8 ((2 ^ i : Nat) : Int)) = TR R := TR_x (fun _ => rfl) (fun _ => rfl) rfl
  have ew : ∀ q, whenR (up R 30 0 8 ((2 ^ i : Nat) : Int)) n q = whenR R n q := fun q => by
    unfold whenR goR
    rw [eT]
    rfl
  induction N with
  | zero => rfl
  | succ N ih =>
    show smF (costR (up R 30 0 8 ((2 ^ i : Nat) : Int)) n) N + costR (up R 30 0 8 ((2 ^ i : Nat) : Int)) n N = elsF C n (N + 1) + byF C n i (N + 1)
    rw [ih, elsF_s, byF_s, when_eq h]
    unfold costR
    rw [ew]
    by_cases z : whenR R n N = -1
    · rw [if_pos z, if_pos z, if_neg (fun y => y.1 z)]
      omega
    · have hp : ((N / 10 : Nat) : Int) < R 30 0 12 := Decidable.byContradiction fun y => z (by unfold whenR; rw [if_neg y])
      have hne : C 22 (5 * 0 + N / 10) (N % 10) ≠ -1 := goes_ne (n := n) (by
        rw [goW_eq h hp (by omega), show 10 * (N / 10) + N % 10 = N by omega]
        intro y
        exact z (by unfold whenR; rw [if_pos hp]; exact y))
      have eb : ∀ c, b0F C n N c = beK (TR R) (R 34 0 (N / 10)) (R 35 0 (N / 10)) (R 36 0 N) (R 37 0 N) ((N % 10 : Nat) : Int) (R 30 0 7) (whenR R n N) c := fun c => by
        unfold b0F
        rw [when_eq h, beW_c h hp (by omega) hne, show 10 * (N / 10) + N % 10 = N by omega]
      have eB : beT (up R 30 0 8 ((2 ^ i : Nat) : Int)) N (whenR R n N) = beK (TR R) (R 34 0 (N / 10)) (R 35 0 (N / 10)) (R 36 0 N) (R 37 0 N) ((N % 10 : Nat) : Int) (R 30 0 7) (whenR R n N) (if (R 30 0 7 + whenR R n N) % 24 = i then 1 else 0) := by
        rw [← chI_pow hi]
        unfold beT
        rw [eT]
        rfl
      rw [if_neg z, if_neg z, eB, eb, eb, a4]
      by_cases y : (R 30 0 7 + whenR R n N) % 24 = i
      · rw [if_pos y, if_pos ⟨z, y⟩]
        omega
      · rw [if_neg y, if_neg (fun x => y x.2)]
        omega
theorem smF_two {g : Nat → Int} {x y : Nat} (hxy : x ≠ y) (hg : ∀ q, q ≠ x → q ≠ y → g q = 0) (N : Nat) : smF g N = (if x < N then g x else 0) + (if y < N then g y else 0) := by
  induction N with
  | zero => rfl
  | succ N ih =>
    show smF g N + g N = _
    rw [ih]
    by_cases h1 : N = x
    · subst h1
      rw [if_neg (by omega), if_pos (show N < N + 1 by omega)]
      by_cases h2 : y < N
      · rw [if_pos h2, if_pos (show y < N + 1 by omega)]; omega
      · rw [if_neg h2, if_neg (show ¬ y < N + 1 by omega)]; omega
    · by_cases h2 : N = y
      · subst h2
        rw [if_neg (show ¬ N < N by omega), if_pos (show N < N + 1 by omega)]
        by_cases h3 : x < N
        · rw [if_pos h3, if_pos (show x < N + 1 by omega)]; omega
        · rw [if_neg h3, if_neg (show ¬ x < N + 1 by omega)]; omega
      · rw [hg N h1 h2]
        by_cases h3 : x < N
        · by_cases h4 : y < N
          · rw [if_pos h3, if_pos h4, if_pos (show x < N + 1 by omega), if_pos (show y < N + 1 by omega)]; omega
          · rw [if_pos h3, if_neg h4, if_pos (show x < N + 1 by omega), if_neg (show ¬ y < N + 1 by omega)]; omega
        · by_cases h4 : y < N
          · rw [if_neg h3, if_pos h4, if_neg (show ¬ x < N + 1 by omega), if_pos (show y < N + 1 by omega)]; omega
          · rw [if_neg h3, if_neg h4, if_neg (show ¬ x < N + 1 by omega), if_neg (show ¬ y < N + 1 by omega)]; omega
theorem smF_upd2 {f f' : Nat → Int} {x y N : Nat} (hxy : x ≠ y) (hx : x < N) (hy : y < N) (hg : ∀ q, q ≠ x → q ≠ y → f' q = f q) : smF f' N = smF f N + (f' x - f x) + (f' y - f y) := by
  have e : f' = fun q => f q + (f' q - f q) := funext fun q => by omega
  have h2 := smF_two (g := fun q => f' q - f q) hxy (fun q h1 h2 => by show f' q - f q = 0; rw [hg q h1 h2]; omega) N
  rw [if_pos hx, if_pos hy] at h2
  have h3 := smF_add f (fun q => f' q - f q) N
  rw [← e, h2] at h3
  rw [h3]
  omega
theorem sk_eq {C R : IM} (h : REL C R) {a b : Nat} (ha : (a : Int) < R 30 0 12) (hb : (b : Int) < R 30 0 12) (hab : a ≠ b) (n m : Nat) (hm : m ≤ 10) : skF C n a b m = smF (costR (hnR R a b m) n) 50 := by
  have h5 := h.h5
  have qa := h.2.2.2.2.2.1 a ha
  have qb := h.2.2.2.2.2.1 b hb
  obtain ⟨a3, a4, a5, a6, a7⟩ := h.2.2.2.2.1
  induction m with
  | zero => rw [hnR_0]; exact (sum_eq h n 50).1
  | succ m ih =>
    have ih := ih (by omega)
    have a2 := (qa.2.2 m (by omega)).1
    have b2 := (qb.2.2 m (by omega)).1
    rw [skF_s, a2, b2]
    by_cases z : R 36 0 (10 * a + m) ≠ -1 ∧ R 36 0 (10 * b + m) = -1
    · rw [if_pos z, ih]
      have ey := hnR_y (im := R) (n := m) hab (by omega) z
      have ep := hnR_p (im := R) (n := m) hab (by omega)
      have eo : ∀ k s, k ≠ 36 → k ≠ 37 → hnR R a b (m + 1) k 0 s = R k 0 s ∧ hnR R a b m k 0 s = R k 0 s := fun k s k1 k2 => by
        constructor <;> (unfold hnR; rw [if_neg (by omega), if_neg (by omega)])
      have e36 : ∀ q, hnR R a b (m + 1) 36 0 q = if q = 10 * a + m then -1 else if q = 10 * b + m then R 36 0 (10 * a + m) else hnR R a b m 36 0 q := fun q => by
        rw [← ey, up_app]
        by_cases c1 : q = 10 * a + m
        · rw [if_pos ⟨rfl, rfl, c1⟩, if_pos c1]
        · rw [if_neg (by omega), if_neg c1, up_app, if_neg (by omega), up_app]
          by_cases c2 : q = 10 * b + m
          · rw [if_pos ⟨rfl, rfl, c2⟩, if_pos c2]
          · rw [if_neg (by omega), if_neg c2]
      have e37 : ∀ q, hnR R a b (m + 1) 37 0 q = if q = 10 * b + m then 0 else hnR R a b m 37 0 q := fun q => by
        rw [← ey, up_app, if_neg (by omega), up_app]
        by_cases c2 : q = 10 * b + m
        · rw [if_pos ⟨rfl, rfl, c2⟩, if_pos c2]
        · rw [if_neg (by omega), if_neg c2, up_app, if_neg (by omega)]
      have eT : TR (hnR R a b (m + 1)) = TR R := TR_x (fun s => (eo 31 s (by omega) (by omega)).1) (fun s => (eo 32 s (by omega) (by omega)).1) (eo 30 4 (by omega) (by omega)).1
      have eT2 : TR (hnR R a b m) = TR R := TR_x (fun s => (eo 31 s (by omega) (by omega)).2) (fun s => (eo 32 s (by omega) (by omega)).2) (eo 30 4 (by omega) (by omega)).2
      have n1 := fun s => (eo 30 s (by omega) (by omega)).1
      have n2 := fun s => (eo 30 s (by omega) (by omega)).2
      have hwn : ∀ B : IM, ∀ q, B 36 0 q = -1 → costR B n q = 0 := fun B q y => by
        unfold costR
        rw [if_pos]
        unfold whenR
        split
        · unfold goR goK
          rw [if_pos y]
        · rfl
      have same : ∀ q, q ≠ 10 * a + m → q ≠ 10 * b + m → costR (hnR R a b (m + 1)) n q = costR (hnR R a b m) n q := fun q c1 c2 => by
        have w36 : hnR R a b (m + 1) 36 0 q = hnR R a b m 36 0 q := by rw [e36, if_neg c1, if_neg c2]
        have w37 : hnR R a b (m + 1) 37 0 q = hnR R a b m 37 0 q := by rw [e37, if_neg c2]
        have ew : whenR (hnR R a b (m + 1)) n q = whenR (hnR R a b m) n q := by
          unfold whenR goR
          rw [eT, eT2, w36, w37, n1, n2, n1, n2, (eo 34 _ (by omega) (by omega)).1, (eo 34 _ (by omega) (by omega)).2, (eo 35 _ (by omega) (by omega)).1, (eo 35 _ (by omega) (by omega)).2]
        unfold costR beT
        rw [ew, eT, eT2, w36, w37, n1, n2, n1, n2, (eo 34 _ (by omega) (by omega)).1, (eo 34 _ (by omega) (by omega)).2, (eo 35 _ (by omega) (by omega)).1, (eo 35 _ (by omega) (by omega)).2]
      have c1 : costR (hnR R a b (m + 1)) n (10 * a + m) = 0 := hwn _ _ (by rw [e36, if_pos rfl])
      have c2 : costR (hnR R a b m) n (10 * b + m) = 0 := hwn _ _ (by rw [ep.2]; exact z.2)
      have w37a : hnR R a b m 37 0 (10 * a + m) = R 37 0 (10 * a + m) := by
        unfold hnR
        rw [if_neg (by omega), if_neg (by omega)]
      have c3 : costR (hnR R a b m) n (10 * a + m) = costF C 0 n (10 * a + m) := by
        rw [cost_eq h]
        have ew : whenR (hnR R a b m) n (10 * a + m) = whenR R n (10 * a + m) := by
          unfold whenR goR
          rw [eT2, ep.1, w37a, n2, n2, (eo 34 _ (by omega) (by omega)).2, (eo 35 _ (by omega) (by omega)).2]
        unfold costR beT
        rw [ew, eT2, ep.1, w37a, n2, n2, (eo 34 _ (by omega) (by omega)).2, (eo 35 _ (by omega) (by omega)).2]
      have hT : ∀ part, part < 3 → ∀ nm, tellV C (C 18 0 7).toNat part nm = TR R part nm := fun part hp nm => h.tell hp nm
      have ew4 : whenR (hnR R a b (m + 1)) n (10 * b + m) = laterK C n a b m := by
        unfold whenR goR laterK
        rw [n1, if_pos (by omega), n1, eT, e36, if_neg (by omega), if_pos rfl, e37, if_pos rfl, show (10 * b + m) / 10 = b by omega, show (10 * b + m) % 10 = m by omega, (eo 34 _ (by omega) (by omega)).1, (eo 35 _ (by omega) (by omega)).1, goK_c (fun nm => (hT 1 (by omega) nm).symm), qb.1, qb.2.1, a2, a4]
      have c4 : costR (hnR R a b (m + 1)) n (10 * b + m) = if laterK C n a b m = -1 then 0 else badK C n a b m := by
        unfold costR
        rw [ew4]
        split
        · rfl
        · unfold beT badK beK
          rw [eT, e36, if_neg (by omega), if_pos rfl, e37, if_pos rfl, show (10 * b + m) / 10 = b by omega, show (10 * b + m) % 10 = m by omega, (eo 34 _ (by omega) (by omega)).1, (eo 35 _ (by omega) (by omega)).1, n1, n1, hT 2 (by omega), qb.1, qb.2.1, a2, a4, a5]
      have u := smF_upd2 (f := costR (hnR R a b m) n) (f' := costR (hnR R a b (m + 1)) n) (x := 10 * a + m) (y := 10 * b + m) (N := 50) (by omega) (by omega) (by omega) same
      rw [u, c1, c2, c3, c4]
      omega
    · rw [if_neg z, ih, hnR_n (by omega) z]
theorem kI_eq {C R : IM} (h : REL C R) (n : Nat) {a : Nat} (ha : (a : Int) < R 30 0 12) (q : Int × Int) (b : Nat) (hb : (b : Int) ≤ R 30 0 12) : kI' C n a q b = kxI R n a q b := by
  induction b with
  | zero => rfl
  | succ b ih =>
    rw [kI'_s, kxI_s, ih (by omega)]
    by_cases ab : a = b
    · rw [if_neg (fun z => z.1 ab), if_neg (fun z => z.1 ab)]
    · have e : skF C n a b 10 = skR R n a b := sk_eq h ha (by omega) ab n 10 (by omega)
      rw [e]
theorem kO_eq {C R : IM} (h : REL C R) (n : Nat) (a : Nat) (ha : (a : Int) ≤ R 30 0 12) : kO C n (C 18 0 3).toNat a = kxO R n (R 30 0 12).toNat a := by
  have h5 := h.h5
  have a3 := h.2.2.2.2.1.1
  induction a with
  | zero => show ((-1 : Int), sumF C 0 n 50) = ((-1 : Int), smF (costR R n) 50); rw [(sum_eq h n 50).1]
  | succ a ih =>
    show kI' C n a (kO C n (C 18 0 3).toNat a) (C 18 0 3).toNat = kxI R n a (kxO R n (R 30 0 12).toNat a) (R 30 0 12).toNat
    rw [ih (by omega), kI_eq h n (by omega) _ _ (by omega), a3]
theorem kx_in {R : IM} (hz : True) {n p : Nat} {z : Int × Int} (h1 : -1 ≤ z.1 ∧ z.1 ≤ 100) (hp : p ≤ 5) (b : Nat) (hb : b ≤ 5) : -1 ≤ (kxI R n p z b).1 ∧ (kxI R n p z b).1 ≤ 100 := by
  induction b with
  | zero => exact h1
  | succ b ih =>
    rw [kxI_s]
    split
    · show -1 ≤ (p : Int) * 10 + b ∧ (p : Int) * 10 + b ≤ 100
      omega
    · exact ih (by omega)
theorem kxO_1 {R : IM} {n sz : Nat} (hs : sz ≤ 5) (p : Nat) (hp : p ≤ 5) : -1 ≤ (kxO R n sz p).1 ∧ (kxO R n sz p).1 ≤ 100 := by
  induction p with
  | zero => show -1 ≤ (-1 : Int) ∧ (-1 : Int) ≤ 100; omega
  | succ p ih => exact kx_in trivial (ih (by omega)) (by omega) sz hs

theorem s_church (l : Launch) (G : GS) {C R : IM} (h : REL C R) (bt rt : Nat) (lm : IM) (n : Int) (w : Int) (hn : ri n) (hw : ri w) : Cn l (XR G) yX9_church Y_X9_church [vR 30 0, vI n, vI w] (R, rs bt rt, lm) (pI fun y m' => ∃ im2 lm2, REL (C) im2 ∧ (y = churchA C n w ∧ ri y) ∧ m' = (im2, rs bt rt, lm2)) := by
  obtain ⟨hRC, h79, hSH⟩ := h.RC
  have hAG := h.2.2.2.1
  have h5 := h.h5
  obtain ⟨a3, a4, a5, a6, a7⟩ := h.2.2.2.2.1
  have hRi := h.2.1
  refine (c_X9_church l G R bt rt lm hRC hAG h79 n w hn hw).mono ?_
  rintro r m' ⟨y, hr, im2, lm2, e, hR2, ha, -, rfl⟩
  have hl := lst_in (chV R n.toNat) 24 (by omega)
  have hpw := Int.ofNat_lt.mpr (pow_24 (h := lst (chV R n.toNat) 24) hl)
  have hpz : (0 : Int) ≤ ((2 ^ lst (chV R n.toNat) 24 : Nat) : Int) := Int.natCast_nonneg _
  have hb := (cost_in (RC_bell hRC (v := ((2 ^ lst (chV R n.toNat) 24 : Nat) : Int)) ⟨hpz, hpw⟩) n.toNat).2
  have hv : chV R n.toNat (lst (chV R n.toNat) 24) = smF (costR (up R 30 0 8 ((2 ^ lst (chV R n.toNat) 24 : Nat) : Int)) n.toNat) 50 := rfl
  refine ⟨y, hr, im2, lm2, h.S ha hR2, ⟨?_, by rw [e]; (repeat' split) <;> (constructor <;> omega)⟩, rfl⟩
  have ec : ∀ k, k < 24 → chF C n.toNat k = chV R n.toNat k := fun k hk => (ch_eq h hk n.toNat 50).symm
  have el : lst (chF C n.toNat) 24 = lst (chV R n.toNat) 24 := lst_congr 24 ec
  rw [e]
  unfold churchA
  by_cases ok : (0 ≤ n ∧ n ≤ 60) ∧ 0 ≤ w ∧ w ≤ 1
  · rw [if_pos ok, if_pos (show (0 ≤ n ∧ n ≤ 60) ∧ 0 ≤ w ∧ w < 2 by omega), el, ec _ hl]
  · rw [if_neg ok, if_neg (show ¬ ((0 ≤ n ∧ n ≤ 60) ∧ 0 ≤ w ∧ w < 2) by omega)]
theorem s_kissing (l : Launch) (G : GS) {C R : IM} (h : REL C R) (bt rt : Nat) (lm : IM) (n : Int) (w : Int) (hn : ri n) (hw : ri w) : Cn l (XR G) yX9_kissing Y_X9_kissing [vR 30 0, vI n, vI w] (R, rs bt rt, lm) (pI fun y m' => ∃ im2 lm2, REL (C) im2 ∧ (y = kissingA C n w ∧ ri y) ∧ m' = (im2, rs bt rt, lm2)) := by
  obtain ⟨hRC, h79, hSH⟩ := h.RC
  have hAG := h.2.2.2.1
  have h5 := h.h5
  obtain ⟨a3, a4, a5, a6, a7⟩ := h.2.2.2.2.1
  have hRi := h.2.1
  refine (c_X9_kissing l G R bt rt lm hRC hAG h79 n w hn hw).mono ?_
  rintro r m' ⟨y, hr, im2, lm2, e, hR2, ha, -, rfl⟩
  have hk := kxO_in hRC (n := n.toNat) (sz := (R 30 0 12).toNat) (by omega) (R 30 0 12).toNat (by omega)
  have hk1 := kxO_1 (R := R) (n := n.toNat) (sz := (R 30 0 12).toNat) (by omega) (R 30 0 12).toNat (by omega)
  refine ⟨y, hr, im2, lm2, h.S ha hR2, ⟨?_, by rw [e]; (repeat' split) <;> (constructor <;> omega)⟩, rfl⟩
  rw [e]
  unfold kissingA
  by_cases ok : (0 ≤ n ∧ n ≤ 60) ∧ 0 ≤ w ∧ w ≤ 1
  · have ek := kO_eq h n.toNat (R 30 0 12).toNat (by omega)
    rw [a3] at ek
    rw [if_pos ok, if_pos (show (0 ≤ n ∧ n ≤ 60) ∧ 0 ≤ w ∧ w < 2 by omega), a3, ek]
  · rw [if_neg ok, if_neg (show ¬ ((0 ≤ n ∧ n ≤ 60) ∧ 0 ≤ w ∧ w < 2) by omega)]
