/-! a cell of a world: what goes off when, how bad that is -/
def nmP (word hour number gap stuck : Int) : Nat → Int := fun s => if s = 0 then word else if s = 1 then 0 else if s = 2 then hour else if s = 3 then number else if s = 4 then gap else stuck
def hoK (T : Nat → (Nat → Int) → Int) (kind number word gap hour stuck : Int) : Int := holdsK kind number (T 1 (nmP word hour number gap stuck))
def offK (T : Nat → (Nat → Int) → Int) (kind number word age gap hour : Int) (i : Nat) : Bool := decide (hoK T kind number word gap (hour + i) (age + i + 1) ≤ age + i + 1)
def goK (T : Nat → (Nat → Int) → Int) (kind number word age gap hour : Int) (n : Nat) : Int := if word = -1 then -1 else findF (offK T kind number word age gap hour) 0 n
def beK (T : Nat → (Nat → Int) → Int) (kind number word age gap hour later c : Int) : Int := bearsK kind number (T 2 (nmP word (hour + later) number gap (age + later + 1))) c
/-- Bite in pure words: what it looks at is in its cells -/
theorem nmB_P (im : IM) (x y : Int) (h1 : im 17 0 1 = 0) : ∀ s, s < 6 → nmB im x y s = nmP (im 17 0 0) y (im 17 0 3) (im 17 0 4) x s := by
  intro s hs
  unfold nmB nmP
  rcases (show s = 0 ∨ s = 1 ∨ s = 2 ∨ s = 3 ∨ s = 4 ∨ s = 5 by omega) with rfl | rfl | rfl | rfl | rfl | rfl <;> simp [h1]
theorem goesB_K (im : IM) (j n : Nat) (h1 : im 17 0 1 = 0) : goesB im j n = goK (tellV im j) (im 16 0 2) (im 17 0 3) (im 17 0 0) (im 16 0 3) (im 17 0 4) (im 16 0 4) n := by
  unfold goesB goK
  have e : offB im j = offK (tellV im j) (im 16 0 2) (im 17 0 3) (im 17 0 0) (im 16 0 3) (im 17 0 4) (im 16 0 4) := by
    funext i
    unfold offB offK hoK holdsB
    rw [tellV_nm (nmB_P im _ _ h1)]
  rw [e]
theorem bearsB_K (im : IM) (j : Nat) (later c : Int) (h1 : im 17 0 1 = 0) : bearsB im j later c = beK (tellV im j) (im 16 0 2) (im 17 0 3) (im 17 0 0) (im 16 0 3) (im 17 0 4) (im 16 0 4) later c := by
  unfold bearsB beK
  rw [tellV_nm (nmB_P im _ _ h1)]
def goesW (im : IM) (w man gap n : Nat) : Int := goK (tellV im (im 18 w 7).toNat) (im 21 (5 * w + man) 0) (im 21 (5 * w + man) 1) (im 22 (5 * w + man) gap) (im 23 (5 * w + man) gap) gap (im 18 w 4) n
def bearsW (im : IM) (w man gap : Nat) (later c : Int) : Int := beK (tellV im (im 18 w 7).toNat) (im 21 (5 * w + man) 0) (im 21 (5 * w + man) 1) (im 22 (5 * w + man) gap) (im 23 (5 * w + man) gap) gap (im 18 w 4) later c
theorem tellV_fun {a b : IM} {j : Nat} (h3 : ∀ s, a 3 j s = b 3 j s) (h4 : ∀ s, a 4 j s = b 4 j s) : tellV a j = tellV b j := by
  funext part nm
  exact tellV_congr h3 h4
theorem look_goes (im : IM) (w man gap n : Nat) : goesB (lookM im w man gap) (im 18 w 7).toNat n = goesW im w man gap n := by
  rw [goesB_K _ _ _ rfl]
  unfold goesW
  rw [show tellV (lookM im w man gap) (im 18 w 7).toNat = tellV im (im 18 w 7).toNat from tellV_fun (fun s => rfl) (fun s => rfl)]
  rfl
theorem look_bears (im : IM) (w man gap : Nat) (later c : Int) : bearsB (lookM im w man gap) (im 18 w 7).toNat later c = bearsW im w man gap later c := by
  rw [bearsB_K _ _ _ _ rfl]
  unfold bearsW
  rw [show tellV (lookM im w man gap) (im 18 w 7).toNat = tellV im (im 18 w 7).toNat from tellV_fun (fun s => rfl) (fun s => rfl)]
  rfl
theorem goesW_congr {a b : IM} {w man gap n : Nat} (h21 : ∀ s, a 21 (5 * w + man) s = b 21 (5 * w + man) s) (h22 : a 22 (5 * w + man) gap = b 22 (5 * w + man) gap) (h23 : a 23 (5 * w + man) gap = b 23 (5 * w + man) gap) (h4 : a 18 w 4 = b 18 w 4) (h7 : a 18 w 7 = b 18 w 7) (t3 : ∀ j s, a 3 j s = b 3 j s) (t4 : ∀ j s, a 4 j s = b 4 j s) : goesW a w man gap n = goesW b w man gap n := by
  unfold goesW
  rw [h21, h21, h22, h23, h4, h7, tellV_fun (t3 _) (t4 _)]
theorem bearsW_congr {a b : IM} {w man gap : Nat} {x c : Int} (h21 : ∀ s, a 21 (5 * w + man) s = b 21 (5 * w + man) s) (h22 : a 22 (5 * w + man) gap = b 22 (5 * w + man) gap) (h23 : a 23 (5 * w + man) gap = b 23 (5 * w + man) gap) (h4 : a 18 w 4 = b 18 w 4) (h7 : a 18 w 7 = b 18 w 7) (t3 : ∀ j s, a 3 j s = b 3 j s) (t4 : ∀ j s, a 4 j s = b 4 j s) : bearsW a w man gap x c = bearsW b w man gap x c := by
  unfold bearsW
  rw [h21, h21, h22, h23, h4, h7, tellV_fun (t3 _) (t4 _)]
theorem goesW_ag {a b : IM} {l : List Nat} (h : ag l a b) (h3 : 3 ∉ l) (h4 : 4 ∉ l) (h0 : 18 ∉ l) (h1 : 21 ∉ l) (h2 : 22 ∉ l) (h5 : 23 ∉ l) (w man gap n : Nat) : goesW a w man gap n = goesW b w man gap n :=
  goesW_congr (fun s => h 21 h1 _ s) (h 22 h2 _ _) (h 23 h5 _ _) (h 18 h0 _ _) (h 18 h0 _ _) (fun j s => h 3 h3 j s) (fun j s => h 4 h4 j s)
theorem bearsW_ag {a b : IM} {l : List Nat} (h : ag l a b) (h3 : 3 ∉ l) (h4 : 4 ∉ l) (h0 : 18 ∉ l) (h1 : 21 ∉ l) (h2 : 22 ∉ l) (h5 : 23 ∉ l) (w man gap : Nat) (x c : Int) : bearsW a w man gap x c = bearsW b w man gap x c :=
  bearsW_congr (fun s => h 21 h1 _ s) (h 22 h2 _ _) (h 23 h5 _ _) (h 18 h0 _ _) (h 18 h0 _ _) (fun j s => h 3 h3 j s) (fun j s => h 4 h4 j s)
theorem goesW_in (im : IM) (w man gap n : Nat) : goesW im w man gap n = -1 ∨ 0 ≤ goesW im w man gap n ∧ goesW im w man gap n < n := by
  unfold goesW goK
  split
  · exact Or.inl rfl
  · have := findF_in (offK (tellV im (im 18 w 7).toNat) (im 21 (5 * w + man) 0) (im 21 (5 * w + man) 1) (im 22 (5 * w + man) gap) (im 23 (5 * w + man) gap) gap (im 18 w 4)) n 0
    omega
theorem goesW_none {im : IM} {w man gap n : Nat} (h : im 22 (5 * w + man) gap = -1) : goesW im w man gap n = -1 := by
  unfold goesW goK
  rw [if_pos h]
/-! AN HOUR -/
def offP (im : IM) (w N : Nat) : Prop := goesW im w (N / 10) (N % 10) 1 ≠ -1
def dOff (im : IM) (w N : Nat) : Decidable (offP im w N) := by unfold offP; exact inferInstance
def badP (im : IM) (w N : Nat) : Int := bearsW im w (N / 10) (N % 10) 0 (chI (im 18 w 5) (im 18 w 4))
def shP (im : IM) (w : Nat) : Nat → Int
  | 0 => im 18 w 6
  | N + 1 => if goesW im w (N / 10) (N % 10) 1 = -1 then shP im w N else bm (shP im w N + badP im w N)
def cntO (im : IM) (w : Nat) : Nat → Int
  | 0 => 0
  | N + 1 => if goesW im w (N / 10) (N % 10) 1 = -1 then cntO im w N else cntO im w N + 1
theorem cntO_in (im : IM) (w N : Nat) : 0 ≤ cntO im w N ∧ cntO im w N ≤ N := by
  induction N with
  | zero => exact ⟨Int.le_refl 0, Int.le_refl 0⟩
  | succ N ih =>
    have h : cntO im w (N + 1) = if goesW im w (N / 10) (N % 10) 1 = -1 then cntO im w N else cntO im w N + 1 := rfl
    rw [h]
    split <;> constructor <;> omega
def pasM (im : IM) (w N : Nat) : IM := fun k i s =>
  if (k = 22 ∨ k = 23) ∧ 5 * w ≤ i ∧ s < 10 ∧ 10 * (i - 5 * w) + s < N then
    (if goesW im w (i - 5 * w) s 1 = -1 then (if k = 23 then bm (im 23 i s + 1) else im k i s) else (if k = 22 then -1 else im k i s))
  else if k = 18 ∧ i = w ∧ s = 6 then shP im w N else im k i s
theorem pasM_app (im : IM) (w N k i s : Nat) : pasM im w N k i s = if (k = 22 ∨ k = 23) ∧ 5 * w ≤ i ∧ s < 10 ∧ 10 * (i - 5 * w) + s < N then
    (if goesW im w (i - 5 * w) s 1 = -1 then (if k = 23 then bm (im 23 i s + 1) else im k i s) else (if k = 22 then -1 else im k i s))
  else if k = 18 ∧ i = w ∧ s = 6 then shP im w N else im k i s := rfl
theorem pasM_0 (im : IM) (w : Nat) : pasM im w 0 = im := by
  funext k i s
  rw [pasM_app, if_neg (by omega)]
  split
  · rename_i h; obtain ⟨rfl, rfl, rfl⟩ := h; rfl
  · rfl
theorem pasM_k (im : IM) (w N : Nat) {k : Nat} (h : k ≠ 22) (h2 : k ≠ 23) (h3 : k ≠ 18) (i s : Nat) : pasM im w N k i s = im k i s := by
  rw [pasM_app, if_neg (by omega), if_neg (by omega)]
theorem pasM_18 (im : IM) (w N : Nat) {s : Nat} (h : s ≠ 6) (i : Nat) : pasM im w N 18 i s = im 18 i s := by
  rw [pasM_app, if_neg (by omega), if_neg (by omega)]
theorem pasM_sh (im : IM) (w N : Nat) : pasM im w N 18 w 6 = shP im w N := by
  rw [pasM_app, if_neg (by omega), if_pos ⟨rfl, rfl, rfl⟩]
theorem pasM_c (im : IM) (w : Nat) {N man gap : Nat} (hN : N ≤ 10 * man + gap) {k : Nat} (hk : k = 22 ∨ k = 23) : pasM im w N k (5 * w + man) gap = im k (5 * w + man) gap := by
  rw [pasM_app, if_neg (by omega), if_neg (by omega)]
theorem RI_pas {im : IM} {w N : Nat} (h : RI im) : RI (pasM im w N) := by
  have hs : ∀ N, ri (shP im w N) := by
    intro N
    induction N with
    | zero => exact h _ _ _
    | succ N ih =>
      show ri (if goesW im w (N / 10) (N % 10) 1 = -1 then shP im w N else bm (shP im w N + badP im w N))
      split
      · exact ih
      · exact ri_b _
  intro k i s
  rw [pasM_app]
  repeat' split
  all_goals first | exact h _ _ _ | exact ri_b _ | exact hs _ | (constructor <;> omega)
/-- a cell that stays -/
theorem pasM_n {im : IM} {w man gap : Nat} (hg : gap < 10) (h : goesW im w man gap 1 = -1) : up (pasM im w (10 * man + gap)) 23 (5 * w + man) gap (bm (im 23 (5 * w + man) gap + 1)) = pasM im w (10 * man + gap + 1) := by
  have e1 : (10 * man + gap) / 10 = man := by omega
  have e2 : (10 * man + gap) % 10 = gap := by omega
  have hsh : shP im w (10 * man + gap + 1) = shP im w (10 * man + gap) := by
    show (if goesW im w ((10 * man + gap) / 10) ((10 * man + gap) % 10) 1 = -1 then shP im w (10 * man + gap) else _) = _
    rw [e1, e2, if_pos h]
  funext k i s
  rw [up_app, pasM_app im w (10 * man + gap + 1), pasM_app im w (10 * man + gap), hsh]
  by_cases hc : i = 5 * w + man ∧ s = gap ∧ (k = 22 ∨ k = 23)
  · obtain ⟨rfl, rfl, hk⟩ := hc
    rw [if_pos (show (k = 22 ∨ k = 23) ∧ 5 * w ≤ 5 * w + man ∧ s < 10 ∧ 10 * (5 * w + man - 5 * w) + s < 10 * man + s + 1 by omega), show 5 * w + man - 5 * w = man by omega, if_pos h]
    rcases hk with rfl | rfl
    · rw [if_neg (by omega), if_neg (by omega), if_neg (by omega), if_neg (by omega)]
    · rw [if_pos ⟨rfl, rfl, rfl⟩, if_pos rfl]
  · rw [if_neg (by omega)]
    by_cases h2 : (k = 22 ∨ k = 23) ∧ 5 * w ≤ i ∧ s < 10 ∧ 10 * (i - 5 * w) + s < 10 * man + gap
    · rw [if_pos h2, if_pos (show (k = 22 ∨ k = 23) ∧ 5 * w ≤ i ∧ s < 10 ∧ 10 * (i - 5 * w) + s < 10 * man + gap + 1 by omega)]
    · rw [if_neg h2, if_neg (show ¬ ((k = 22 ∨ k = 23) ∧ 5 * w ≤ i ∧ s < 10 ∧ 10 * (i - 5 * w) + s < 10 * man + gap + 1) by omega)]
theorem pasM_y {im : IM} {w man gap : Nat} (hg : gap < 10) (h : ¬ goesW im w man gap 1 = -1) : up (up (pasM im w (10 * man + gap)) 18 w 6 (bm (shP im w (10 * man + gap) + badP im w (10 * man + gap)))) 22 (5 * w + man) gap (-1) = pasM im w (10 * man + gap + 1) := by
  have e1 : (10 * man + gap) / 10 = man := by omega
  have e2 : (10 * man + gap) % 10 = gap := by omega
  have hsh : shP im w (10 * man + gap + 1) = bm (shP im w (10 * man + gap) + badP im w (10 * man + gap)) := by
    show (if goesW im w ((10 * man + gap) / 10) ((10 * man + gap) % 10) 1 = -1 then shP im w (10 * man + gap) else _) = _
    rw [e1, e2, if_neg h]
  rw [← hsh]
  funext k i s
  rw [up_app, up_app, pasM_app im w (10 * man + gap + 1), pasM_app im w (10 * man + gap)]
  by_cases hc : i = 5 * w + man ∧ s = gap ∧ (k = 22 ∨ k = 23)
  · obtain ⟨rfl, rfl, hk⟩ := hc
    rw [if_pos (show (k = 22 ∨ k = 23) ∧ 5 * w ≤ 5 * w + man ∧ s < 10 ∧ 10 * (5 * w + man - 5 * w) + s < 10 * man + s + 1 by omega), show 5 * w + man - 5 * w = man by omega, if_neg h]
    rcases hk with rfl | rfl
    · rw [if_pos ⟨rfl, rfl, rfl⟩, if_pos rfl]
    · rw [if_neg (by omega), if_neg (by omega), if_neg (by omega), if_neg (by omega), if_neg (by omega)]
  · rw [if_neg (by omega)]
    by_cases h2 : (k = 22 ∨ k = 23) ∧ 5 * w ≤ i ∧ s < 10 ∧ 10 * (i - 5 * w) + s < 10 * man + gap
    · rw [if_neg (by omega), if_pos h2, if_pos (show (k = 22 ∨ k = 23) ∧ 5 * w ≤ i ∧ s < 10 ∧ 10 * (i - 5 * w) + s < 10 * man + gap + 1 by omega)]
    · rw [if_neg h2, if_neg (show ¬ ((k = 22 ∨ k = 23) ∧ 5 * w ≤ i ∧ s < 10 ∧ 10 * (i - 5 * w) + s < 10 * man + gap + 1) by omega)]
      by_cases h3 : k = 18 ∧ i = w ∧ s = 6
      · rw [if_pos h3, if_pos h3]
      · rw [if_neg h3, if_neg h3, if_neg h3]

theorem scr_ag (im : IM) (a b : Int) (g : Nat → Nat → Int) : ag [5, 17] (scr im a b g) im := by
  intro k hk i s
  have h1 : k ≠ 5 := fun q => hk (by rw [q]; decide)
  have h2 : k ≠ 17 := fun q => hk (by rw [q]; decide)
  rw [scr_app, if_neg h1, if_neg (fun q => h2 q.1), if_neg (fun q => h2 q.1)]
theorem cntO_n {im : IM} {w man gap : Nat} (hg : gap < 10) (h : goesW im w man gap 1 = -1) : cntO im w (10 * man + (gap + 1)) = cntO im w (10 * man + gap) := by
  show (if goesW im w ((10 * man + gap) / 10) ((10 * man + gap) % 10) 1 = -1 then cntO im w (10 * man + gap) else _) = _
  rw [show (10 * man + gap) / 10 = man by omega, show (10 * man + gap) % 10 = gap by omega, if_pos h]
theorem cntO_y {im : IM} {w man gap : Nat} (hg : gap < 10) (h : goesW im w man gap 1 ≠ -1) : cntO im w (10 * man + (gap + 1)) = cntO im w (10 * man + gap) + 1 := by
  show (if goesW im w ((10 * man + gap) / 10) ((10 * man + gap) % 10) 1 = -1 then cntO im w (10 * man + gap) else cntO im w (10 * man + gap) + 1) = _
  rw [show (10 * man + gap) / 10 = man by omega, show (10 * man + gap) % 10 = gap by omega, if_neg h]

set_option maxHeartbeats 4000000 in
theorem c_X7_pass (l : Launch) (G : GS) (im : IM) (bt rt : Nat) (lm : IM) (w : Nat) (hw : w < 3) (hbt : bt < 6) (hR : RI im) (hW : WI im w) : Cn l (XC G) yX7_pass Y_X7_pass [vR 18 w, vR 16 0] (im, rs bt rt, lm) (pI fun x m' => x = cntO im w (10 * (im 18 w 3).toNat) ∧ ∃ im' bt', bt' < 6 ∧ RI im' ∧ ag [5, 16, 17] im' (up (pasM im w (10 * (im 18 w 3).toNat)) 18 w 4 (im 18 w 4 + 1)) ∧ m' = (im', rs bt' rt, lm)) := by
  refine cn_of (by decide) (okC G) rfl (Nat.le_of_ble_eq_true rfl) ?_
  intro M ad hMl F
  subst hMl
  have w1 := hW.1
  have w2 := hW.2.1
  have w3 := hW.2.2.1
  obtain ⟨sz, hsz⟩ : ∃ sz : Nat, im 18 w 3 = sz := ⟨(im 18 w 3).toNat, by omega⟩
  have hszN : (im 18 w 3).toNat = sz := by omega
  refine wp_pad 3 ?_
  show Wp M (XC G) ad Y_X7_pass (pI fun x m' => x = cntO im w (10 * (im 18 w 3).toNat) ∧ ∃ im' bt', bt' < 6 ∧ RI im' ∧ ag [5, 16, 17] im' (up (pasM im w (10 * (im 18 w 3).toNat)) 18 w 4 (im 18 w 4 + 1)) ∧ m' = (im', rs bt' rt, lm)) 0 [some (vR 18 w), some (vR 16 0), none, none, none] [] (im, rs bt rt, lm)
  refine q_iconst (t := 1) F dX7_pass_0 rfl ?_
  refine q_istore_n (t := 2) F dX7_pass_1 rfl (by decide) rfl rfl ?_
  refine q_iconst (t := 3) F dX7_pass_2 rfl ?_
  refine q_istore_n (t := 4) F dX7_pass_3 rfl (by decide) rfl rfl ?_
  have L4 : ∀ (fz : Nat) (man : Nat) (im2 : IM) (bt2 : Nat), sz - man < fz → man ≤ sz → bt2 < 6 → RI im2 → ag [5, 16, 17] im2 (pasM im w (10 * man)) → Wp M (XC G) ad Y_X7_pass (pI fun x m' => x = cntO im w (10 * (im 18 w 3).toNat) ∧ ∃ im' bt', bt' < 6 ∧ RI im' ∧ ag [5, 16, 17] im' (up (pasM im w (10 * (im 18 w 3).toNat)) 18 w 4 (im 18 w 4 + 1)) ∧ m' = (im', rs bt' rt, lm)) 4 [some (vR 18 w), some (vR 16 0), some (vI (cntO im w (10 * man))), some (vI (man : Int)), none] [] (im2, rs bt2 rt, lm) := by
    intro fz
    induction fz with
    | zero => intro man im2 bt2 h; exact absurd h (Nat.not_lt_zero _)
    | succ fz ih =>
      have ih4 := ih
      intro man im2 bt2 hmeas hman hbt2 hR2 hag
      have e3' : im2 18 w 3 = sz := by rw [← hsz]; exact (hag 18 (by decide) w 3).trans (pasM_18 im w _ (by decide) w)
      have e4' : im2 18 w 4 = im 18 w 4 := (hag 18 (by decide) w 4).trans (pasM_18 im w _ (by decide) w)
      refine q_iload_n (t := 5) F dX7_pass_4 rfl rfl rfl ?_
      refine q_aload_n (t := 6) F dX7_pass_5 rfl rfl rfl ?_
      refine g_X7_30 (t := 9) F dX7_pass_6 rfl (by omega) rfl ?_
      refine q_icmp_ge (t := 12) (u := 104) F dX7_pass_9 (by constructor <;> omega) (by rw [e3']; constructor <;> omega) (by decide) rfl (fun c9 => ?_) (fun c9 => ?_)
      · refine q_aload_n (t := 105) F dX7_pass_104 rfl rfl rfl ?_
        refine q_dupR (t := 106) F dX7_pass_105 rfl ?_
        refine g_X7_33 (t := 109) F dX7_pass_106 rfl (by omega) rfl ?_
        refine q_iconst (t := 110) F dX7_pass_109 rfl ?_
        refine q_iadd (t := 111) F dX7_pass_110 rfl ?_
        refine p_X7_33 (t := 114) F dX7_pass_111 rfl (by omega) rfl ?_
        refine q_iload_n (t := 115) F dX7_pass_114 rfl rfl rfl ?_
        refine q_iret F dX7_pass_115 rfl ?_
        rw [e3'] at c9
        have eN : man = sz := by omega
        subst eN
        rw [hszN]
        refine ⟨_, rfl, rfl, _, bt2, hbt2, RI_up hR2 (by constructor <;> omega), ?_, rfl⟩
        rw [e4']
        exact ag_upup hag
      · refine q_iconst (t := 13) F dX7_pass_12 rfl ?_
        refine q_istore (t := 15) F dX7_pass_13 (by decide) rfl rfl ?_
        have L15 : ∀ (fz : Nat) (gap : Nat) (im2 : IM) (bt2 : Nat), 10 - gap < fz → gap ≤ 10 → bt2 < 6 → RI im2 → ag [5, 16, 17] im2 (pasM im w (10 * man + gap)) → Wp M (XC G) ad Y_X7_pass (pI fun x m' => x = cntO im w (10 * (im 18 w 3).toNat) ∧ ∃ im' bt', bt' < 6 ∧ RI im' ∧ ag [5, 16, 17] im' (up (pasM im w (10 * (im 18 w 3).toNat)) 18 w 4 (im 18 w 4 + 1)) ∧ m' = (im', rs bt' rt, lm)) 15 [some (vR 18 w), some (vR 16 0), some (vI (cntO im w (10 * man + gap))), some (vI (man : Int)), some (vI (gap : Int))] [] (im2, rs bt2 rt, lm) := by
          intro fz
          induction fz with
          | zero => intro gap im2 bt2 h; exact absurd h (Nat.not_lt_zero _)
          | succ fz ih =>
            have ih15 := ih
            intro gap im2 bt2 hmeas hgap hbt2 hR2 hag
            refine q_iload (t := 17) F dX7_pass_15 rfl rfl ?_
            refine q_bipush (t := 19) F dX7_pass_17 (by decide) rfl ?_
            refine q_icmp_ge (t := 22) (u := 98) F dX7_pass_19 (by first | exact hR _ _ _ | (constructor <;> omega)) (by first | exact hR _ _ _ | (constructor <;> omega)) (by decide) rfl (fun c19 => ?_) (fun c19 => ?_)
            · refine q_iinc (t := 101) F dX7_pass_98 rfl (by decide) rfl rfl ?_
              refine q_goto (t := 4) F dX7_pass_101 (by decide) ?_
              refine wp_less 4 ?_
              have eN : 10 * man + gap = 10 * (man + 1) := by omega
              rw [eN]
              exact ih4 (man + 1) im2 bt2 (by omega) (by omega) hbt2 hR2 (by rw [← eN]; exact hag)
            · have hg10 : gap < 10 := by omega
              have e0 : pasM im w (10 * man + gap) 18 w 7 = im 18 w 7 := pasM_18 im w _ (by decide) w
              have e0' : im2 18 w 7 = im 18 w 7 := (hag 18 (by decide) w 7).trans e0
              have e3' : im2 18 w 3 = im 18 w 3 := (hag 18 (by decide) w 3).trans (pasM_18 im w _ (by decide) w)
              have e4' : im2 18 w 4 = im 18 w 4 := (hag 18 (by decide) w 4).trans (pasM_18 im w _ (by decide) w)
              have e5' : im2 18 w 5 = im 18 w 5 := (hag 18 (by decide) w 5).trans (pasM_18 im w _ (by decide) w)
              have e21 : ∀ s, im2 21 (5 * w + man) s = im 21 (5 * w + man) s := fun s => (hag 21 (by decide) _ s).trans (pasM_k im w _ (by decide) (by decide) (by decide) _ s)
              have e22 : im2 22 (5 * w + man) gap = im 22 (5 * w + man) gap := (hag 22 (by decide) _ gap).trans (pasM_c im w (Nat.le_refl _) (Or.inl rfl))
              have e23 : im2 23 (5 * w + man) gap = im 23 (5 * w + man) gap := (hag 23 (by decide) _ gap).trans (pasM_c im w (Nat.le_refl _) (Or.inr rfl))
              have et3 : ∀ j s, im2 3 j s = im 3 j s := fun j s => (hag 3 (by decide) j s).trans (pasM_k im w _ (by decide) (by decide) (by decide) _ s)
              have et4 : ∀ j s, im2 4 j s = im 4 j s := fun j s => (hag 4 (by decide) j s).trans (pasM_k im w _ (by decide) (by decide) (by decide) _ s)
              have hgo : goesW im2 w man gap 1 = goesW im w man gap 1 := goesW_congr e21 e22 e23 e4' e0' et3 et4
              have hbe : ∀ x c, bearsW im2 w man gap x c = bearsW im w man gap x c := fun x c => bearsW_congr e21 e22 e23 e4' e0' et3 et4
              have hpm := hW.2.2.2.2.2 man (by omega)
              have hpg := hpm.2.2 gap hg10
              have r20 : 0 ≤ im2 18 w 7 := by rw [e0']; exact hW.2.2.2.1.1
              have r21 : im2 18 w 7 < 6 := by rw [e0']; exact hW.2.2.2.1.2
              have hT2 : goodT (lookM im2 w man gap) (im2 18 w 7).toNat := by
                rw [e0']
                exact goodT_congr (fun s => et3 _ s) (fun s => et4 _ s) hW.2.2.2.2.1
              have k20 : 0 ≤ im2 21 (5 * w + man) 0 := by rw [e21]; exact hpm.1.1
              have k21 : im2 21 (5 * w + man) 0 < 6 := by rw [e21]; exact hpm.1.2
              have n20 : 0 ≤ im2 21 (5 * w + man) 1 := by rw [e21]; exact hpm.2.1.1
              have n21 : im2 21 (5 * w + man) 1 < 10 := by rw [e21]; exact hpm.2.1.2
              have ag2 : im2 22 (5 * w + man) gap ≠ -1 → 0 ≤ im2 23 (5 * w + man) gap ∧ im2 23 (5 * w + man) gap ≤ 3000 := by
                rw [e22, e23]
                intro hne
                have := hpg.2.2 hne
                omega
              have h20 : 0 ≤ im2 18 w 4 := by rw [e4']; exact w2.1
              have h21 : im2 18 w 4 ≤ 3000 := by rw [e4']; omega
              have hRl := RI_look (w := w) (p := man) hR2 hg10
              refine q_aload_n (t := 23) F dX7_pass_22 rfl rfl rfl ?_
              refine q_aload_n (t := 24) F dX7_pass_23 rfl rfl rfl ?_
              refine q_iload_n (t := 25) F dX7_pass_24 rfl rfl rfl ?_
              refine q_iload (t := 27) F dX7_pass_25 rfl rfl ?_
              refine wp_callV (t := 30) [_, _, _] F dX7_pass_27 k_X0_look v_X0_look ml_X7_85 rfl rfl rfl rfl (Nat.le_of_ble_eq_true rfl) (by decide) (m_16 (by omega)) (c_X0_look _ G im2 bt2 rt lm w man gap hw (by omega) hg10 r20 r21) rfl (kV ?_)
              rintro m' rfl
              refine q_aload_n (t := 31) F dX7_pass_30 rfl rfl rfl ?_
              refine q_iconst (t := 32) F dX7_pass_31 rfl ?_
              refine wp_callV (t := 35) [_] F dX7_pass_32 k_X0_goesOffIn v_X0_goesOffIn ml_X7_91 rfl rfl rfl rfl (Nat.le_of_ble_eq_true rfl) (by decide) (m_16 (by omega)) (c_X0_goesOffIn _ G (lookM im2 w man gap) (im2 18 w 7).toNat rt lm 1 (by omega) (by omega) hRl hT2 k20 k21 n20 n21 ag2 h20 h21) rfl (kI ?_)
              rintro x m' ⟨hx, xa, xb, xg, hxa, hxb, hxg, rfl⟩
              rw [look_goes, hgo] at hx
              subst hx
              have hgi := goesW_in im w man gap 1
              have hbt3 : (im2 18 w 7).toNat < 6 := by omega
              have hR3 := RI_scr hRl hxa hxb hxg
              have hag3 : ag [5, 16, 17] (scr (lookM im2 w man gap) xa xb xg) (pasM im w (10 * man + gap)) := ((scr_ag _ _ _ _).mono (by decide)).trans (((look_ag im2 w man gap).mono (by decide)).trans hag)
              have e23b : lookM im2 w man gap 23 (5 * w + man) gap = im 23 (5 * w + man) gap := (hag3 23 (by decide) _ gap).trans (pasM_c im w (Nat.le_refl _) (Or.inr rfl))
              refine q_iconst (t := 36) F dX7_pass_35 rfl ?_
              refine q_icmp_ne (t := 39) (u := 58) F dX7_pass_36 (by first | exact hR _ _ _ | (constructor <;> omega)) (by first | exact hR _ _ _ | (constructor <;> omega)) (by decide) rfl (fun c36 => ?_) (fun c36 => ?_)
              · refine q_aload_n (t := 59) F dX7_pass_58 rfl rfl rfl ?_
                refine q_dupR (t := 60) F dX7_pass_59 rfl ?_
                refine g_X7_36 (t := 63) F dX7_pass_60 rfl (by omega) rfl ?_
                try simp only [up_app, row_app, scr_app, cpy_app, Nat.reduceEqDiff, Int.reduceToNat, Int.toNat_natCast, and_true, true_and, and_false, false_and, and_self, reduceIte]
                refine q_aload_n (t := 64) F dX7_pass_63 rfl rfl rfl ?_
                refine q_iconst (t := 65) F dX7_pass_64 rfl ?_
                refine q_aload_n (t := 66) F dX7_pass_65 rfl rfl rfl ?_
                refine q_iconst (t := 67) F dX7_pass_66 rfl ?_
                refine wp_callV (t := 70) [_] F dX7_pass_67 k_X7_isChurchIn v_X7_isChurchIn ml_X7_94 rfl rfl rfl rfl (Nat.le_of_ble_eq_true rfl) (by decide) (m_18 (by omega)) (c_X7_isChurchIn _ G _ _ rt lm w hw 0 (by omega) (by omega) h20 h21) rfl (kI ?_)
                rintro x m' ⟨rfl, rfl⟩
                have hch : chI (scr (lookM im2 w man gap) xa xb xg 18 w 5) (scr (lookM im2 w man gap) xa xb xg 18 w 4 + 0) = chI (im 18 w 5) (im 18 w 4) := by
                  rw [show scr (lookM im2 w man gap) xa xb xg 18 w 5 = im2 18 w 5 from rfl, show scr (lookM im2 w man gap) xa xb xg 18 w 4 = im2 18 w 4 from rfl, e5', e4', Int.add_zero]
                rw [hch]
                have hci := chI_in (im 18 w 5) (im 18 w 4)
                have hwne : im2 22 (5 * w + man) gap ≠ -1 := fun z => c36 (goesW_none (e22.symm.trans z))
                refine wp_callV (t := 73) [_, _] F dX7_pass_70 k_X0_bears v_X0_bears ml_X7_98 rfl rfl rfl rfl (Nat.le_of_ble_eq_true rfl) (by decide) (m_16 (by omega)) (c_X0_bears _ G (scr (lookM im2 w man gap) xa xb xg) (im2 18 w 7).toNat rt lm 0 (chI (im 18 w 5) (im 18 w 4)) (by omega) (by omega) hci.1 hci.2 hbt3 hR3 (goodT_scr hT2) k20 k21 n20 n21 (ag2 hwne) h20 h21) rfl (kI ?_)
                rintro x m' ⟨hx, ya, yb, yg, hya, hyb, hyg, rfl⟩
                rw [bearsB_scr, look_bears, hbe] at hx
                rw [scr_scr]
                have hbb : x = badP im w (10 * man + gap) := by
                  rw [hx]
                  unfold badP
                  rw [show (10 * man + gap) / 10 = man by omega, show (10 * man + gap) % 10 = gap by omega]
                have hR4 := RI_scr hRl hya hyb hyg
                have hag4 : ag [5, 16, 17] (scr (lookM im2 w man gap) ya yb yg) (pasM im w (10 * man + gap)) := ((scr_ag _ _ _ _).mono (by decide)).trans (((look_ag im2 w man gap).mono (by decide)).trans hag)
                have hshb : lookM im2 w man gap 18 w 6 = shP im w (10 * man + gap) := (hag3 18 (by decide) w 6).trans (pasM_sh im w _)
                refine q_iadd (t := 74) F dX7_pass_73 rfl ?_
                refine q_norm ?_
                rw [hshb, hbb]
                refine p_X7_36 (t := 77) F dX7_pass_74 rfl (by omega) rfl ?_
                refine q_aload_n (t := 78) F dX7_pass_77 rfl rfl rfl ?_
                refine g_X7_11 (t := 81) F dX7_pass_78 rfl (by omega) rfl ?_
                refine q_iload_n (t := 82) F dX7_pass_81 rfl rfl rfl ?_
                first | refine laN_19 (t := 83) F dX7_pass_82 (by omega) (by omega) rfl ?_ | refine la_19 (t := 83) F dX7_pass_82 (by omega) (by omega) (by omega) rfl ?_
                refine q_iload (t := 85) F dX7_pass_83 rfl rfl ?_
                refine wp_callV (t := 88) [_] F dX7_pass_85 k_X3_empty v_X3_empty ml_X7_81 rfl rfl rfl rfl (Nat.le_of_ble_eq_true rfl) (by decide) (m_21 (by omega)) (c_X3_empty _ G _ _ rt lm (5 * w + man) (by omega) gap hg10) rfl (kI ?_)
                rintro x m' ⟨rfl, rfl⟩
                refine q_popI (t := 89) F dX7_pass_88 rfl ?_
                refine q_iinc (t := 92) F dX7_pass_89 rfl (by decide) rfl rfl ?_
                refine q_iinc (t := 95) F dX7_pass_92 rfl (by decide) rfl rfl ?_
                refine q_goto (t := 15) F dX7_pass_95 (by decide) ?_
                first
                  | (rw [← cntO_n (by omega) c36]
                     exact ih15 (gap + 1) _ _ (by omega) (by omega) hbt3 (RI_up hR3 (ri_b _)) (by rw [show 10 * man + (gap + 1) = 10 * man + gap + 1 by omega, ← pasM_n hg10 c36]; exact ag_upup hag3))
                  | (rw [← cntO_y (by omega) c36]
                     exact ih15 (gap + 1) _ _ (by omega) (by omega) hbt3 (RI_up (RI_up hR4 (ri_b _)) (by constructor <;> omega)) (by rw [show 10 * man + (gap + 1) = 10 * man + gap + 1 by omega, ← pasM_y hg10 c36]; exact ag_upup (ag_upup hag4)))
              · refine q_aload_n (t := 40) F dX7_pass_39 rfl rfl rfl ?_
                refine g_X7_11 (t := 43) F dX7_pass_40 rfl (by omega) rfl ?_
                refine q_iload_n (t := 44) F dX7_pass_43 rfl rfl rfl ?_
                first | refine laN_19 (t := 45) F dX7_pass_44 (by omega) (by omega) rfl ?_ | refine la_19 (t := 45) F dX7_pass_44 (by omega) (by omega) (by omega) rfl ?_
                refine g_X7_78 (t := 48) F dX7_pass_45 rfl (by omega) rfl ?_
                refine q_iload (t := 50) F dX7_pass_48 rfl rfl ?_
                refine q_dup2 (t := 51) F dX7_pass_50 rfl ?_
                first | refine ldN_23 (t := 52) F dX7_pass_51 (by omega) (by omega) rfl ?_ | refine ld_23 (t := 52) F dX7_pass_51 (by omega) (by omega) (by omega) rfl ?_
                try simp only [up_app, row_app, scr_app, cpy_app, Nat.reduceEqDiff, Int.reduceToNat, Int.toNat_natCast, and_true, true_and, and_false, false_and, and_self, reduceIte]
                refine q_iconst (t := 53) F dX7_pass_52 rfl ?_
                refine q_iadd (t := 54) F dX7_pass_53 rfl ?_
                refine q_norm ?_
                rw [e23b]
                first | refine stN_23 (t := 55) F dX7_pass_54 (by omega) (by omega) rfl ?_ | refine st_23 (t := 55) F dX7_pass_54 (by omega) (by omega) (by omega) rfl ?_
                refine q_goto (t := 92) F dX7_pass_55 (by decide) ?_
                refine q_iinc (t := 95) F dX7_pass_92 rfl (by decide) rfl rfl ?_
                refine q_goto (t := 15) F dX7_pass_95 (by decide) ?_
                first
                  | (rw [← cntO_n (by omega) c36]
                     exact ih15 (gap + 1) _ _ (by omega) (by omega) hbt3 (RI_up hR3 (ri_b _)) (by rw [show 10 * man + (gap + 1) = 10 * man + gap + 1 by omega, ← pasM_n hg10 c36]; exact ag_upup hag3))
                  | (rw [← cntO_y (by omega) c36]
                     exact ih15 (gap + 1) _ _ (by omega) (by omega) hbt3 (RI_up (RI_up hR4 (ri_b _)) (by constructor <;> omega)) (by rw [show 10 * man + (gap + 1) = 10 * man + gap + 1 by omega, ← pasM_y hg10 c36]; exact ag_upup (ag_upup hag4)))
        exact L15 _ 0 im2 bt2 (Nat.lt_succ_self _) (by omega) hbt2 hR2 hag
  refine wp_less 4 ?_
  exact L4 _ 0 im bt (Nat.lt_succ_self _) (by omega) hbt hR (by rw [pasM_0]; exact ag_rfl _ _)
