/-! PURE WORDS for what the class does -/
abbrev IM : Type := Nat → Nat → Nat → Int
/-- all that stands in the cells is an int -/
def RI (im : IM) : Prop := ∀ k i s, ri (im k i s)
theorem RI_up {im : IM} {k i s : Nat} {x : Int} (h : RI im) (hx : ri x) : RI (up im k i s x) := by
  intro k' i' s'
  unfold up
  split
  · exact hx
  · exact h _ _ _
def bm (x : Int) : Int := x.bmod 4294967296
theorem ri_b (x : Int) : ri (bm x) := ri_bm x
theorem q_norm {M : MS} {X : XS} {ad : Ads} {Y : YS} {post : Option SV → Mem → Prop} {pc : Nat} {ls : List (Option SV)} {st : List SV} {m : Mem} {x : Int} (k : Wp M X ad Y post pc ls (vI (bm x) :: st) m) : Wp M X ad Y post pc ls (vI x :: st) m := by
  intro H locs a hP hS hl
  have h := k H locs a hP hS hl
  have e : tr ad (vI (bm x)) = tr ad (vI x) := by
    show Value.int (jI (bm x)) = Value.int (jI x)
    rw [show jI (bm x) = jI x from (j_bm x).symm]
  rw [List.map_cons, e] at h
  exact h
theorem ri_01 {c : Prop} [Decidable c] : ri (if c then 1 else 0) := by split <;> constructor <;> omega
/-! kinds -/
def takesK (k v : Int) : Int := if k = 1 then v % 10 / 2 else if k = 3 then (if v % 2 = 0 then v % 10 / 2 else -1) else if k = 4 then 9 - v % 10 else if k = 5 then v / 10 else v % 10
def heldK (k n v : Int) : Int := if k = 1 then v + n else if k = 2 then v / 2 else if k = 3 then v + n - 3 else if k = 4 then v / 2 else if k = 5 then (if 9 < v then 9 else v) else v
def holdsK (k n v : Int) : Int := if 1 < heldK k n v then heldK k n v else 1
def bearsK (k n v c : Int) : Int := if k = 2 then (if c = 0 then v else 2 * v) + n else if k = 4 then (if c = 0 then v + n else 3 * (2 * v + n)) else if k = 5 then 0 else (if c = 0 then v else 2 * v)
def aboveK (k : Int) : Int := if k = 1 then 0 else if k = 2 then 0 else if k = 3 then 1 else if k = 4 then 2 else if k = 5 then 0 else -1
/-- one of a kind is one of another, or under it: six steps at most -/
def underK (b : Int) : Nat → Int → Int
  | 0, _ => 0
  | n + 1, k => if k = -1 then 0 else if k = b then 1 else underK b n (aboveK k)
/-! people -/
def cntW (f : Nat → Int) : Nat → Int
  | 0 => 0
  | n + 1 => cntW f n + (if f n = -1 then 0 else 1)
theorem cntW_in (f : Nat → Int) (n : Nat) : 0 ≤ cntW f n ∧ cntW f n ≤ n := by
  induction n with
  | zero => exact ⟨Int.le_refl 0, Int.le_refl 0⟩
  | succ n ih =>
    have h : cntW f (n + 1) = cntW f n + (if f n = -1 then 0 else 1) := rfl
    rw [h]
    split <;> constructor <;> omega
/-- a row anew -/
def row (im : IM) (k i : Nat) (f : Nat → Int) : IM := fun k' i' s' => if k' = k ∧ i' = i then f s' else im k' i' s'
theorem row_app (im : IM) (k i : Nat) (f : Nat → Int) (k' i' s' : Nat) : row im k i f k' i' s' = if k' = k ∧ i' = i then f s' else im k' i' s' := rfl
theorem RI_row {im : IM} {k i : Nat} {f : Nat → Int} (h : RI im) (hf : ∀ s, ri (f s)) : RI (row im k i f) := by
  intro k' i' s'
  unfold row
  split
  · exact hf _
  · exact h _ _ _
theorem cpy_app {α : Type} (f : Nat → Nat → Nat → α) (ks is sp kd id dp n k i s : Nat) : cpy f ks is sp kd id dp n k i s = if k = kd ∧ i = id ∧ dp ≤ s ∧ s < dp + n then f ks is (sp + (s - dp)) else f k i s := rfl
theorem RI_cpy {im : IM} {ks is sp kd id dp n : Nat} (h : RI im) : RI (cpy im ks is sp kd id dp n) := by
  intro k i s
  unfold cpy
  split <;> exact h _ _ _
/-! texts: a machine with a stack -/
def us (k : Nat → Int) (t : Nat) (x : Int) : Nat → Int := fun j => if j = t then x else k j
def un1 (s b : Int) : Int := if s = -7 then bm (-b) else (if b = 0 then 1 else 0)
def bi2 (s a b : Int) : Int := if s = -9 then bm (a * b) else if s = -10 then bm (a + b) else if s = -11 then bm (a - b) else if s = -12 then (if a < b then 1 else 0) else if s = -13 then (if a = b then 1 else 0) else if s = -14 then (if a ≠ 0 ∧ b ≠ 0 then 1 else 0) else (if a ≠ 0 ∨ b ≠ 0 then 1 else 0)
def putS (nm : Nat → Int) (s : Int) (q : Nat × (Nat → Int)) : Nat × (Nat → Int) := if q.1 < 31 then (q.1 + 1, us q.2 q.1 (if 0 ≤ s then s else nm (-1 - s).toNat)) else q
def joinS (s : Int) (q : Nat × (Nat → Int)) : Nat × (Nat → Int) := if -8 ≤ s then (if q.1 < 1 then q else (q.1, us q.2 (q.1 - 1) (un1 s (q.2 (q.1 - 1))))) else (if q.1 < 2 then q else (q.1 - 1, us q.2 (q.1 - 2) (bi2 s (q.2 (q.1 - 2)) (q.2 (q.1 - 1)))))
def stepS (nm : Nat → Int) (s : Int) (q : Nat × (Nat → Int)) : Nat × (Nat → Int) := if -7 < s then putS nm s q else joinS s q
def runS (f nm : Nat → Int) : Nat → Nat → Nat × (Nat → Int) → Nat × (Nat → Int)
  | _, 0, q => q
  | i, n + 1, q => runS f nm (i + 1) n (stepS nm (f i) q)
theorem runS_snoc (f nm : Nat → Int) (n : Nat) : ∀ (i : Nat) (q : Nat × (Nat → Int)), runS f nm i (n + 1) q = stepS nm (f (i + n)) (runS f nm i n q) := by
  induction n with
  | zero => intro i q; rfl
  | succ n ih =>
    intro i q
    have h : runS f nm i (n + 1 + 1) q = runS f nm (i + 1) (n + 1) (stepS nm (f i) q) := rfl
    rw [h, ih (i + 1)]
    have h2 : i + 1 + n = i + (n + 1) := by omega
    rw [h2]
    rfl
theorem stepS_top {nm : Nat → Int} {s : Int} {q : Nat × (Nat → Int)} (h : q.1 ≤ 31) : (stepS nm s q).1 ≤ 31 := by
  unfold stepS putS joinS
  repeat' split
  all_goals first | omega | (simp only []; omega)
theorem runS_top {f nm : Nat → Int} (n : Nat) : ∀ {i : Nat} {q : Nat × (Nat → Int)}, q.1 ≤ 31 → (runS f nm i n q).1 ≤ 31 := by
  induction n with
  | zero => intro i q h; exact h
  | succ n ih => intro i q h; exact ih (stepS_top h)
theorem un1_ri {s b : Int} : ri (un1 s b) := by
  unfold un1
  split
  · exact ri_b _
  · exact ri_01
theorem bi2_ri {s a b : Int} : ri (bi2 s a b) := by
  unfold bi2
  split; · exact ri_b _
  split; · exact ri_b _
  split; · exact ri_b _
  split; · exact ri_01
  split; · exact ri_01
  split; · exact ri_01
  exact ri_01
theorem us_ri {k : Nat → Int} {t : Nat} {x : Int} (h : ∀ s, ri (k s)) (hx : ri x) : ∀ s, ri (us k t x s) := by
  intro s
  unfold us
  split
  · exact hx
  · exact h s
theorem stepS_ri {nm : Nat → Int} {s : Int} {q : Nat × (Nat → Int)} (hs : ri s) (hn : ∀ s, ri (nm s)) (h : ∀ s, ri (q.2 s)) : ∀ j, ri ((stepS nm s q).2 j) := by
  unfold stepS putS joinS
  split
  · split
    · refine us_ri h ?_
      split
      · exact hs
      · exact hn _
    · exact h
  · split
    · split
      · exact h
      · exact us_ri h un1_ri
    · split
      · exact h
      · exact us_ri h bi2_ri
theorem runS_ri {f nm : Nat → Int} (hf : ∀ s, ri (f s)) (hn : ∀ s, ri (nm s)) (n : Nat) : ∀ {i : Nat} {q : Nat × (Nat → Int)}, (∀ s, ri (q.2 s)) → ∀ s, ri ((runS f nm i n q).2 s) := by
  induction n with
  | zero => intro i q h; exact h
  | succ n ih => intro i q h; exact ih (stepS_ri (hf i) hn h)
def clip (x : Int) : Int := if x < 0 then 0 else if 99 < x then 99 else x
theorem clip_in (x : Int) : 0 ≤ clip x ∧ clip x ≤ 99 := by
  unfold clip
  split
  · omega
  · split <;> omega
/-- where a part of text j begins and ends -/
def pa (im : IM) (j part : Nat) : Nat := if part = 0 then 0 else (im 4 j (part - 1)).toNat
def pb (im : IM) (j part : Nat) : Nat := (im 4 j part).toNat
/-- the stack behind a part, out of another -/
def tellQ (im : IM) (j part : Nat) (nm k : Nat → Int) : Nat × (Nat → Int) := runS (im 3 j) nm (pa im j part) (pb im j part - pa im j part) (0, k)
/-- what a part tells -/
def tellV (im : IM) (j part : Nat) (nm : Nat → Int) : Int := clip ((tellQ im j part nm (fun _ => 0)).2 0)
/-- a text is good: its ends lie in it, and what it tells doesn't hang on what the stack held -/
def goodT (im : IM) (j : Nat) : Prop := (∀ part, part < 3 → 0 ≤ im 4 j part ∧ im 4 j part ≤ 160) ∧ ∀ part, part < 3 → ∀ nm k, (tellQ im j part nm k).2 0 = (tellQ im j part nm (fun _ => 0)).2 0
theorem tellV_in (im : IM) (j part : Nat) (nm : Nat → Int) : 0 ≤ tellV im j part nm ∧ tellV im j part nm ≤ 99 := clip_in _
/-! Bite -/
/-- what is garbage behind a look at a text: its stack, two of the names -/
def scr (im : IM) (a b : Int) (g : Nat → Nat → Int) : IM := fun k i s => if k = 5 then g i s else if k = 17 ∧ i = 0 ∧ s = 2 then a else if k = 17 ∧ i = 0 ∧ s = 5 then b else im k i s
theorem scr_app (im : IM) (a b : Int) (g : Nat → Nat → Int) (k i s : Nat) : scr im a b g k i s = if k = 5 then g i s else if k = 17 ∧ i = 0 ∧ s = 2 then a else if k = 17 ∧ i = 0 ∧ s = 5 then b else im k i s := rfl
theorem scr_scr (im : IM) (a b a' b' : Int) (g g' : Nat → Nat → Int) : scr (scr im a b g) a' b' g' = scr im a' b' g' := by
  funext k i s
  simp only [scr_app]
  repeat' split
  all_goals rfl
theorem scr_self (im : IM) : scr im (im 17 0 2) (im 17 0 5) (im 5) = im := by
  funext k i s
  simp only [scr_app]
  split
  · rename_i h1; subst h1; rfl
  · split
    · rename_i h2; obtain ⟨rfl, rfl, rfl⟩ := h2; rfl
    · split
      · rename_i h2; obtain ⟨rfl, rfl, rfl⟩ := h2; rfl
      · rfl
theorem RI_scr {im : IM} {a b : Int} {g : Nat → Nat → Int} (h : RI im) (ha : ri a) (hb : ri b) (hg : ∀ i s, ri (g i s)) : RI (scr im a b g) := by
  intro k i s
  rw [scr_app]
  split
  · exact hg _ _
  · split
    · exact ha
    · split
      · exact hb
      · exact h _ _ _
def nmB (im : IM) (stuck now : Int) : Nat → Int := fun s => if s = 2 then now else if s = 5 then stuck else im 17 0 s
def holdsB (im : IM) (j : Nat) (stuck now : Int) : Int := holdsK (im 16 0 2) (im 17 0 3) (tellV im j 1 (nmB im stuck now))
def bearsB (im : IM) (j : Nat) (later c : Int) : Int := bearsK (im 16 0 2) (im 17 0 3) (tellV im j 2 (nmB im (im 16 0 3 + later + 1) (im 16 0 4 + later))) c
def findF (P : Nat → Bool) : Nat → Nat → Int
  | _, 0 => -1
  | i, n + 1 => if P i = true then i else findF P (i + 1) n
def offB (im : IM) (j : Nat) (i : Nat) : Bool := decide (holdsB im j (im 16 0 3 + i + 1) (im 16 0 4 + i) ≤ im 16 0 3 + i + 1)
def goesB (im : IM) (j n : Nat) : Int := if im 17 0 0 = -1 then -1 else findF (offB im j) 0 n
