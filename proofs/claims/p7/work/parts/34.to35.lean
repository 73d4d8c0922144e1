section
/-! READING A TEXT, in pure words -/
def spanF (P : Int → Bool) (b : Nat → Int) : Nat → Nat → Nat
  | 0, p => p
  | f + 1, p => if P (b p) = true then spanF P b f (p + 1) else p
/-- the end of a row of such letters -/
def span (P : Int → Bool) (b : Nat → Int) (n p : Nat) : Nat := spanF P b (n - p) p
theorem span_y {P : Int → Bool} {b : Nat → Int} {n p : Nat} (h : p < n) (h2 : P (b p) = true) : span P b n p = span P b n (p + 1) := by
  unfold span
  rw [show n - p = (n - (p + 1)) + 1 by omega]
  show (if P (b p) = true then _ else _) = _
  rw [if_pos h2]
theorem span_n {P : Int → Bool} {b : Nat → Int} {n p : Nat} (h : ¬ (p < n ∧ P (b p) = true)) : span P b n p = p := by
  unfold span
  by_cases hp : p < n
  · rw [show n - p = (n - (p + 1)) + 1 by omega]
    show (if P (b p) = true then _ else _) = _
    rw [if_neg (fun q => h ⟨hp, q⟩)]
  · rw [show n - p = 0 by omega]
    rfl
theorem span_in (P : Int → Bool) (b : Nat → Int) (n : Nat) : ∀ (k p : Nat), n - p = k → p ≤ span P b n p ∧ (p ≤ n → span P b n p ≤ n) := by
  intro k
  induction k with
  | zero =>
    intro p hk
    rw [span_n (by omega)]
    omega
  | succ k ih =>
    intro p hk
    by_cases h : P (b p) = true
    · rw [span_y (by omega) h]
      have := ih (p + 1) (by omega)
      omega
    · rw [span_n (fun q => h q.2)]
      omega
def isW (c : Int) : Bool := decide (c = 32 ∨ c = 10)
def isL (c : Int) : Bool := decide (97 ≤ c ∧ c ≤ 122)
def isD (c : Int) : Bool := decide (48 ≤ c ∧ c ≤ 57)
theorem isW_iff {c : Int} : isW c = true ↔ (c = 32 ∨ c = 10) := decide_eq_true_iff
theorem isL_iff {c : Int} : isL c = true ↔ (97 ≤ c ∧ c ≤ 122) := decide_eq_true_iff
theorem isD_iff {c : Int} : isD c = true ↔ (48 ≤ c ∧ c ≤ 57) := decide_eq_true_iff
def numF (b : Nat → Int) (p : Nat) : Nat → Int
  | 0 => 0
  | k + 1 => bm (numF b p k * 10 + b (p + k) - 48)
abbrev stdS (b : Nat → Int) (p q i : Nat) : Prop := lenS.getD i 0 = q - p ∧ ∀ j, j < lenS.getD i 0 → b (p + j) = letS i j
/-- which of the known words stands there -/
def wIx (b : Nat → Int) (p q : Nat) : Nat → Int
  | 0 => -1
  | i + 1 => if stdS b p q i then (i : Int) else wIx b p q i
theorem wIx_s (b : Nat → Int) (p q i : Nat) : wIx b p q (i + 1) = if stdS b p q i then (i : Int) else wIx b p q i := rfl
theorem wIx_in (b : Nat → Int) (p q i : Nat) : -1 ≤ wIx b p q i ∧ wIx b p q i < i := by
  induction i with
  | zero => exact ⟨Int.le_refl _, by show (-1 : Int) < 0; decide⟩
  | succ i ih =>
    rw [wIx_s]
    split <;> omega
def tkW (i : Int) : Int := if i = -1 then 1 else if i < 6 then 3 else i - 2
abbrev sgn (c : Int) : Prop := c = 40 ∨ c = 41 ∨ c = 59 ∨ c = 43 ∨ c = 45 ∨ c = 42 ∨ c = 60 ∨ c = 61
/-- the token at a place -/
def tk (b : Nat → Int) (n p : Nat) : Int := if n ≤ p then 0 else if isL (b p) = true then tkW (wIx b p (span isL b n p) 12) else if isD (b p) = true then (if 4 < span isD b n p - p then 1 else 2) else if sgn (b p) then b p else 1
def vl (b : Nat → Int) (n p : Nat) : Int := if isL (b p) = true then wIx b p (span isL b n p) 12 else numF b p (span isD b n p - p)
/-- the place behind it -/
def nx (b : Nat → Int) (n p : Nat) : Nat := if n ≤ p then p else if isL (b p) = true then span isL b n p else if isD (b p) = true then span isD b n p else p + 1
/-- the next token's place -/
def adv (b : Nat → Int) (n p : Nat) : Nat := span isW b n (nx b n p)
theorem tk_0 {b : Nat → Int} {n p : Nat} (h : n ≤ p) : tk b n p = 0 := by
  unfold tk
  rw [if_pos h]
theorem tk_lt {b : Nat → Int} {n p : Nat} (h : tk b n p ≠ 0) : p < n := by
  by_cases hp : n ≤ p
  · exact absurd (tk_0 hp) h
  · omega
theorem tk_in (b : Nat → Int) (n p : Nat) : 0 ≤ tk b n p ∧ tk b n p ≤ 61 := by
  have h1 := wIx_in b p (span isL b n p) 12
  unfold tk tkW sgn
  (repeat' split) <;> omega
theorem nx_in {b : Nat → Int} {n p : Nat} (h : p < n) : p < nx b n p ∧ nx b n p ≤ n := by
  unfold nx
  rw [if_neg (by omega)]
  split
  · rename_i hl
    rw [span_y h hl]
    have := span_in isL b n _ (p + 1) rfl
    omega
  split
  · rename_i hd
    rw [span_y h hd]
    have := span_in isD b n _ (p + 1) rfl
    omega
  · omega
theorem adv_in {b : Nat → Int} {n p : Nat} (h : p < n) : p < adv b n p ∧ adv b n p ≤ n := by
  have h1 := nx_in (b := b) h
  have h2 := span_in isW b n _ (nx b n p) rfl
  unfold adv
  omega
/-! the grammar: (where it stands, the FAULT's place or -1, the steps, the value) -/
abbrev PT : Type := Nat × Int × List Int × ((Nat → Int) → Int)
def pFail (p : Nat) : PT := (p, (p : Int), [], fun _ => 0)
def wrap1 (s : Int) (r : PT) : PT := (r.1, r.2.1, r.2.2.1 ++ [s], fun nm => un1 s (r.2.2.2 nm))
def wrapK (s : Int) : Nat → PT → PT
  | 0, r => r
  | k + 1, r => wrap1 s (wrapK s k r)
/-- a token that opens one more: as often as it stands there -/
def opn (b : Nat → Int) (n : Nat) (key : Int) : Nat → Nat → Nat × Nat
  | 0, p => (0, p)
  | m + 1, p => if tk b n p = key then opn b n key m (adv b n p) else (m + 1, p)
def loopP (b : Nat → Int) (n : Nat) (op : Int → Int) (sub : Nat → PT) : Nat → PT → PT
  | 0, r => r
  | f + 1, r => if r.2.1 = -1 ∧ op (tk b n r.1) ≠ 0 then loopP b n op sub f ((sub (adv b n r.1)).1, (sub (adv b n r.1)).2.1, r.2.2.1 ++ (sub (adv b n r.1)).2.2.1 ++ [op (tk b n r.1)], fun nm => bi2 (op (tk b n r.1)) (r.2.2.2 nm) ((sub (adv b n r.1)).2.2.2 nm)) else r
theorem loopP_y {b : Nat → Int} {n : Nat} {op : Int → Int} {sub : Nat → PT} {f : Nat} {r : PT} (h1 : r.2.1 = -1) (h2 : op (tk b n r.1) ≠ 0) : loopP b n op sub (f + 1) r = loopP b n op sub f ((sub (adv b n r.1)).1, (sub (adv b n r.1)).2.1, r.2.2.1 ++ (sub (adv b n r.1)).2.2.1 ++ [op (tk b n r.1)], fun nm => bi2 (op (tk b n r.1)) (r.2.2.2 nm) ((sub (adv b n r.1)).2.2.2 nm)) := by
  show (if _ then _ else _) = _
  rw [if_pos ⟨h1, h2⟩]
theorem loopP_n {b : Nat → Int} {n : Nat} {op : Int → Int} {sub : Nat → PT} {f : Nat} {r : PT} (h : ¬ (r.2.1 = -1 ∧ op (tk b n r.1) ≠ 0)) : loopP b n op sub f r = r := by
  cases f with
  | zero => rfl
  | succ f =>
    show (if _ then _ else _) = _
    rw [if_neg h]
def opM (t : Int) : Int := if t = 42 then -9 else 0
def opS (t : Int) : Int := if t = 43 then -10 else if t = 45 then -11 else 0
def opA (t : Int) : Int := if t = 8 then -14 else 0
def opO (t : Int) : Int := if t = 7 then -15 else 0
/-- one, where no sign of minus stands -/
def atomX (b : Nat → Int) (n m : Nat) (nE : Nat → PT) (p : Nat) : PT :=
  if tk b n p = 40 ∧ m ≠ 0 then (if (nE (adv b n p)).2.1 = -1 then (if tk b n (nE (adv b n p)).1 = 41 then (adv b n (nE (adv b n p)).1, -1, (nE (adv b n p)).2.2) else ((nE (adv b n p)).1, ((nE (adv b n p)).1 : Int), (nE (adv b n p)).2.2)) else nE (adv b n p))
  else if tk b n p = 2 then (adv b n p, -1, [vl b n p], fun _ => vl b n p)
  else if tk b n p = 3 then (adv b n p, -1, [-1 - vl b n p], fun nm => nm (vl b n p).toNat)
  else pFail p
def atomP (b : Nat → Int) (n m : Nat) (n1 nE : Nat → PT) (p : Nat) : PT := if tk b n p = 45 then (if m = 0 then pFail p else wrap1 (-7) (n1 (adv b n p))) else atomX b n m nE p
def termP (b : Nat → Int) (n : Nat) (one : Nat → PT) (p : Nat) : PT := loopP b n opM one 160 (one p)
def sumP (b : Nat → Int) (n : Nat) (one : Nat → PT) (p : Nat) : PT := loopP b n opS (termP b n one) 160 (termP b n one p)
def opC (t : Int) : Int := if t = 60 then -12 else if t = 61 then -13 else 0
/-- a denial, where no "not" stands -/
def denX (b : Nat → Int) (n : Nat) (one : Nat → PT) (p : Nat) : PT := loopP b n opC (sumP b n one) 1 (sumP b n one p)
def denP (b : Nat → Int) (n m : Nat) (one nD : Nat → PT) (p : Nat) : PT := if tk b n p = 9 then (if m = 0 then pFail p else wrap1 (-8) (nD (adv b n p))) else denX b n one p
def bothP (b : Nat → Int) (n : Nat) (den : Nat → PT) (p : Nat) : PT := loopP b n opA den 160 (den p)
def eitP (b : Nat → Int) (n : Nat) (den : Nat → PT) (p : Nat) : PT := loopP b n opO (bothP b n den) 160 (bothP b n den p)
abbrev PL : Type := (Nat → PT) × (Nat → PT)
/-- one, a denial, where so many more may be opened -/
def lvl (b : Nat → Int) (n : Nat) : Nat → PL
  | 0 => (atomP b n 0 pFail pFail, denP b n 0 (atomP b n 0 pFail pFail) pFail)
  | m + 1 => (atomP b n (m + 1) (lvl b n m).1 (eitP b n (lvl b n m).2), denP b n (m + 1) (atomP b n (m + 1) (lvl b n m).1 (eitP b n (lvl b n m).2)) (lvl b n m).2)
def oneL (b : Nat → Int) (n m : Nat) : Nat → PT := (lvl b n m).1
def denL (b : Nat → Int) (n m : Nat) : Nat → PT := (lvl b n m).2
def termL (b : Nat → Int) (n m : Nat) : Nat → PT := termP b n (oneL b n m)
def sumL (b : Nat → Int) (n m : Nat) : Nat → PT := sumP b n (oneL b n m)
def bothL (b : Nat → Int) (n m : Nat) : Nat → PT := bothP b n (denL b n m)
def eitL (b : Nat → Int) (n m : Nat) : Nat → PT := eitP b n (denL b n m)
theorem oneL_s (b : Nat → Int) (n m p : Nat) : oneL b n (m + 1) p = if tk b n p = 45 then wrap1 (-7) (oneL b n m (adv b n p)) else atomX b n (m + 1) (eitL b n m) p := by
  show atomP b n (m + 1) (oneL b n m) (eitL b n m) p = _
  unfold atomP
  rw [if_neg (show ¬ m + 1 = 0 by omega)]
theorem oneL_0 (b : Nat → Int) (n p : Nat) : oneL b n 0 p = if tk b n p = 45 then pFail p else atomX b n 0 pFail p := by
  show atomP b n 0 pFail pFail p = _
  unfold atomP
  rw [if_pos (rfl : (0 : Nat) = 0)]
theorem denL_s (b : Nat → Int) (n m p : Nat) : denL b n (m + 1) p = if tk b n p = 9 then wrap1 (-8) (denL b n m (adv b n p)) else denX b n (oneL b n (m + 1)) p := by
  show denP b n (m + 1) (oneL b n (m + 1)) (denL b n m) p = _
  unfold denP
  rw [if_neg (show ¬ m + 1 = 0 by omega)]
theorem denL_0 (b : Nat → Int) (n p : Nat) : denL b n 0 p = if tk b n p = 9 then pFail p else denX b n (oneL b n 0) p := by
  show denP b n 0 (oneL b n 0) pFail p = _
  unfold denP
  rw [if_pos (rfl : (0 : Nat) = 0)]
/-- the level below, where something may be opened -/
def eitB (b : Nat → Int) (n : Nat) : Nat → Nat → PT
  | 0 => pFail
  | m + 1 => eitL b n m
theorem opn_in (b : Nat → Int) (n : Nat) (key : Int) : ∀ (m p : Nat), (opn b n key m p).1 ≤ m := by
  intro m
  induction m with
  | zero => intro p; exact Nat.le_refl _
  | succ m ih =>
    intro p
    show (if tk b n p = key then opn b n key m (adv b n p) else (m + 1, p)).1 ≤ m + 1
    split
    · have := ih (adv b n p); omega
    · exact Nat.le_refl _
/-- past all signs of minus -/
theorem oneL_opn (b : Nat → Int) (n : Nat) : ∀ (m p : Nat), oneL b n m p = (if tk b n (opn b n 45 m p).2 = 45 then wrapK (-7) (m - (opn b n 45 m p).1) (pFail (opn b n 45 m p).2) else wrapK (-7) (m - (opn b n 45 m p).1) (atomX b n (opn b n 45 m p).1 (eitB b n (opn b n 45 m p).1) (opn b n 45 m p).2)) := by
  intro m
  induction m with
  | zero =>
    intro p
    rw [oneL_0]
    rfl
  | succ m ih =>
    intro p
    rw [oneL_s]
    have h1 : opn b n 45 (m + 1) p = if tk b n p = 45 then opn b n 45 m (adv b n p) else (m + 1, p) := rfl
    by_cases h : tk b n p = 45
    · rw [if_pos h, ih, h1, if_pos h]
      have h2 := opn_in b n 45 m (adv b n p)
      rw [show m + 1 - (opn b n 45 m (adv b n p)).1 = (m - (opn b n 45 m (adv b n p)).1) + 1 by omega]
      split <;> rfl
    · rw [if_neg h, h1, if_neg h]
      show _ = if tk b n p = 45 then _ else wrapK (-7) (m + 1 - (m + 1)) (atomX b n (m + 1) (eitB b n (m + 1)) p)
      rw [if_neg h, Nat.sub_self]
      rfl
theorem denL_opn (b : Nat → Int) (n : Nat) : ∀ (m p : Nat), denL b n m p = (if tk b n (opn b n 9 m p).2 = 9 then wrapK (-8) (m - (opn b n 9 m p).1) (pFail (opn b n 9 m p).2) else wrapK (-8) (m - (opn b n 9 m p).1) (denX b n (oneL b n (opn b n 9 m p).1) (opn b n 9 m p).2)) := by
  intro m
  induction m with
  | zero =>
    intro p
    rw [denL_0]
    rfl
  | succ m ih =>
    intro p
    rw [denL_s]
    have h1 : opn b n 9 (m + 1) p = if tk b n p = 9 then opn b n 9 m (adv b n p) else (m + 1, p) := rfl
    by_cases h : tk b n p = 9
    · rw [if_pos h, ih, h1, if_pos h]
      have h2 := opn_in b n 9 m (adv b n p)
      rw [show m + 1 - (opn b n 9 m (adv b n p)).1 = (m - (opn b n 9 m (adv b n p)).1) + 1 by omega]
      split <;> rfl
    · rw [if_neg h, h1, if_neg h]
      show _ = if tk b n p = 9 then _ else wrapK (-8) (m + 1 - (m + 1)) (denX b n (oneL b n (m + 1)) p)
      rw [if_neg h, Nat.sub_self]
      rfl
/-! places: each goes on, its steps are no more than the letters it takes -/
def PG (n : Nat) (F : Nat → PT) : Prop := ∀ p, p ≤ n → p ≤ (F p).1 ∧ (F p).1 ≤ n ∧ ((F p).2.1 = -1 → p + (F p).2.2.1.length ≤ (F p).1) ∧ ((F p).2.1 = -1 ∨ 0 ≤ (F p).2.1 ∧ (F p).2.1 ≤ n)
theorem PG_fail (n : Nat) : PG n pFail := fun p hp => ⟨Nat.le_refl _, hp, fun h => by have : ((p : Nat) : Int) = -1 := h; omega, Or.inr ⟨by show (0 : Int) ≤ (p : Int); omega, by show (p : Int) ≤ n; omega⟩⟩
theorem PG_loop {b : Nat → Int} {n : Nat} {op : Int → Int} {sub : Nat → PT} (h0 : op 0 = 0) (hs : PG n sub) : ∀ (f p : Nat) (r : PT), p ≤ n → (p ≤ r.1 ∧ r.1 ≤ n ∧ (r.2.1 = -1 → p + r.2.2.1.length ≤ r.1) ∧ (r.2.1 = -1 ∨ 0 ≤ r.2.1 ∧ r.2.1 ≤ n)) → p ≤ (loopP b n op sub f r).1 ∧ (loopP b n op sub f r).1 ≤ n ∧ ((loopP b n op sub f r).2.1 = -1 → p + (loopP b n op sub f r).2.2.1.length ≤ (loopP b n op sub f r).1) ∧ ((loopP b n op sub f r).2.1 = -1 ∨ 0 ≤ (loopP b n op sub f r).2.1 ∧ (loopP b n op sub f r).2.1 ≤ n) := by
  intro f
  induction f with
  | zero => intro p r hp h; exact h
  | succ f ih =>
    intro p r hp h
    by_cases hc : r.2.1 = -1 ∧ op (tk b n r.1) ≠ 0
    · rw [loopP_y hc.1 hc.2]
      have hlt : r.1 < n := tk_lt (fun z => hc.2 (by rw [z]; exact h0))
      have ha := adv_in (b := b) hlt
      have hsub := hs (adv b n r.1) ha.2
      refine ih p _ hp ⟨by show p ≤ (sub _).1; omega, hsub.2.1, fun h1 => ?_, hsub.2.2.2⟩
      have h2 := hsub.2.2.1 h1
      have h3 := h.2.2.1 hc.1
      show p + (r.2.2.1 ++ (sub (adv b n r.1)).2.2.1 ++ [op (tk b n r.1)]).length ≤ (sub (adv b n r.1)).1
      rw [List.length_append, List.length_append, List.length_singleton]
      omega
    · rw [loopP_n hc]
      exact h
theorem PG_wrap {n : Nat} {s : Int} {k : Nat} {r : PT} {p q : Nat} (hq : p + k ≤ q) (h : q ≤ r.1 ∧ r.1 ≤ n ∧ (r.2.1 = -1 → q + r.2.2.1.length ≤ r.1) ∧ (r.2.1 = -1 ∨ 0 ≤ r.2.1 ∧ r.2.1 ≤ n)) : (wrapK s k r).1 = r.1 ∧ (wrapK s k r).2.1 = r.2.1 ∧ (wrapK s k r).2.2.1 = r.2.2.1 ++ List.replicate k s ∧ p ≤ (wrapK s k r).1 ∧ (wrapK s k r).1 ≤ n ∧ ((wrapK s k r).2.1 = -1 → p + (wrapK s k r).2.2.1.length ≤ (wrapK s k r).1) ∧ ((wrapK s k r).2.1 = -1 ∨ 0 ≤ (wrapK s k r).2.1 ∧ (wrapK s k r).2.1 ≤ n) := by
  have e : (wrapK s k r).1 = r.1 ∧ (wrapK s k r).2.1 = r.2.1 ∧ (wrapK s k r).2.2.1 = r.2.2.1 ++ List.replicate k s := by
    clear hq
    induction k with
    | zero => exact ⟨rfl, rfl, (List.append_nil _).symm⟩
    | succ k ih =>
      refine ⟨ih.1, ih.2.1, ?_⟩
      show (wrapK s k r).2.2.1 ++ [s] = _
      rw [ih.2.2, List.append_assoc, List.replicate_succ']
  refine ⟨e.1, e.2.1, e.2.2, ?_, ?_, fun h1 => ?_, ?_⟩
  · rw [e.1]; omega
  · rw [e.1]; exact h.2.1
  · rw [e.2.1] at h1
    rw [e.1, e.2.2, List.length_append, List.length_replicate]
    have := h.2.2.1 h1
    omega
  · rw [e.2.1]; exact h.2.2.2
theorem PG_atomX {b : Nat → Int} {n m : Nat} {nE : Nat → PT} (hE : PG n nE) : PG n (atomX b n m nE) := by
  intro p hp
  unfold atomX
  split
  · rename_i h
    have hlt : p < n := tk_lt (by rw [h.1]; decide)
    have ha := adv_in (b := b) hlt
    have he := hE (adv b n p) ha.2
    split
    · rename_i h1
      split
      · rename_i h2
        have hlt2 : (nE (adv b n p)).1 < n := tk_lt (by rw [h2]; decide)
        have ha2 := adv_in (b := b) hlt2
        have h3 := he.2.2.1 h1
        refine ⟨by show p ≤ adv b n _; omega, ha2.2, fun _ => ?_, Or.inl rfl⟩
        show p + (nE (adv b n p)).2.2.1.length ≤ adv b n (nE (adv b n p)).1
        omega
      · exact ⟨by show p ≤ (nE _).1; omega, he.2.1, fun h4 => by have : (((nE (adv b n p)).1 : Nat) : Int) = -1 := h4; omega, Or.inr ⟨by show (0 : Int) ≤ ((nE (adv b n p)).1 : Int); omega, by show ((nE (adv b n p)).1 : Int) ≤ n; omega⟩⟩
    · exact ⟨by omega, he.2.1, fun h1 => by have := he.2.2.1 h1; omega, he.2.2.2⟩
  split
  · rename_i h
    have ha := adv_in (b := b) (tk_lt (b := b) (n := n) (p := p) (by rw [h]; decide))
    exact ⟨by show p ≤ adv b n p; omega, ha.2, fun _ => by show p + 1 ≤ adv b n p; omega, Or.inl rfl⟩
  split
  · rename_i h
    have ha := adv_in (b := b) (tk_lt (b := b) (n := n) (p := p) (by rw [h]; decide))
    exact ⟨by show p ≤ adv b n p; omega, ha.2, fun _ => by show p + 1 ≤ adv b n p; omega, Or.inl rfl⟩
  · exact PG_fail n p hp
theorem PG_term {b : Nat → Int} {n : Nat} {one : Nat → PT} (h : PG n one) : PG n (termP b n one) := fun p hp => PG_loop (by decide) h 160 p _ hp (h p hp)
theorem PG_sum {b : Nat → Int} {n : Nat} {one : Nat → PT} (h : PG n one) : PG n (sumP b n one) := fun p hp => PG_loop (by decide) (PG_term h) 160 p _ hp (PG_term h p hp)
theorem PG_denX {b : Nat → Int} {n : Nat} {one : Nat → PT} (h : PG n one) : PG n (denX b n one) := fun p hp => PG_loop (by decide) (PG_sum h) 1 p _ hp (PG_sum h p hp)
theorem PG_both {b : Nat → Int} {n : Nat} {den : Nat → PT} (h : PG n den) : PG n (bothP b n den) := fun p hp => PG_loop (by decide) h 160 p _ hp (h p hp)
theorem PG_eit {b : Nat → Int} {n : Nat} {den : Nat → PT} (h : PG n den) : PG n (eitP b n den) := fun p hp => PG_loop (by decide) (PG_both h) 160 p _ hp (PG_both h p hp)
theorem PG_w1 {b : Nat → Int} {n p : Nat} {s : Int} {F : Nat → PT} (h : PG n F) (hlt : p < n) : p ≤ (wrap1 s (F (adv b n p))).1 ∧ (wrap1 s (F (adv b n p))).1 ≤ n ∧ ((wrap1 s (F (adv b n p))).2.1 = -1 → p + (wrap1 s (F (adv b n p))).2.2.1.length ≤ (wrap1 s (F (adv b n p))).1) ∧ ((wrap1 s (F (adv b n p))).2.1 = -1 ∨ 0 ≤ (wrap1 s (F (adv b n p))).2.1 ∧ (wrap1 s (F (adv b n p))).2.1 ≤ n) := by
  have ha := adv_in (b := b) hlt
  exact (PG_wrap (s := s) (k := 1) (p := p) (q := adv b n p) ha.1 (h _ ha.2)).2.2.2
theorem PG_lvl (b : Nat → Int) (n m : Nat) : PG n (oneL b n m) ∧ PG n (denL b n m) := by
  induction m with
  | zero =>
    have h1 : PG n (oneL b n 0) := by
      intro p hp
      rw [oneL_0]
      split
      · exact PG_fail n p hp
      · exact PG_atomX (PG_fail n) p hp
    refine ⟨h1, fun p hp => ?_⟩
    rw [denL_0]
    split
    · exact PG_fail n p hp
    · exact PG_denX h1 p hp
  | succ m ih =>
    have h1 : PG n (oneL b n (m + 1)) := by
      intro p hp
      rw [oneL_s]
      split
      · rename_i h
        exact PG_w1 ih.1 (tk_lt (by rw [h]; decide))
      · exact PG_atomX (PG_eit ih.2) p hp
    refine ⟨h1, fun p hp => ?_⟩
    rw [denL_s]
    split
    · rename_i h
      exact PG_w1 ih.2 (tk_lt (by rw [h]; decide))
    · exact PG_denX h1 p hp
theorem PG_one (b : Nat → Int) (n m : Nat) : PG n (oneL b n m) := (PG_lvl b n m).1
theorem PG_den (b : Nat → Int) (n m : Nat) : PG n (denL b n m) := (PG_lvl b n m).2
theorem PG_eitL (b : Nat → Int) (n m : Nat) : PG n (eitL b n m) := PG_eit (PG_den b n m)
theorem PG_eitB (b : Nat → Int) (n m : Nat) : PG n (eitB b n m) := by
  cases m with
  | zero => exact PG_fail n
  | succ m => exact PG_eitL b n m
/-! three parts -/
def partP (b : Nat → Int) (n : Nat) (key : Int) (p : Nat) : PT := if tk b n p = key then (if (eitL b n 5 (adv b n p)).2.1 = -1 then (if tk b n (eitL b n 5 (adv b n p)).1 = 59 then (adv b n (eitL b n 5 (adv b n p)).1, -1, (eitL b n 5 (adv b n p)).2.2) else ((eitL b n 5 (adv b n p)).1, ((eitL b n 5 (adv b n p)).1 : Int), (eitL b n 5 (adv b n p)).2.2)) else eitL b n 5 (adv b n p)) else pFail p
def stP (F : Nat → PT) (p : Nat) (f : Int) : PT := if f = -1 then F p else (p, f, [], fun _ => 0)
def rd0 (b : Nat → Int) (n : Nat) : PT := partP b n 4 (span isW b n 0)
def rd1 (b : Nat → Int) (n : Nat) : PT := stP (partP b n 5) (rd0 b n).1 (rd0 b n).2.1
def rd2 (b : Nat → Int) (n : Nat) : PT := stP (partP b n 6) (rd1 b n).1 (rd1 b n).2.1
/-- the FAULT's place, or -1 -/
def rdF (b : Nat → Int) (n : Nat) : Int := if (rd2 b n).2.1 = -1 then (if tk b n (rd2 b n).1 = 0 then -1 else ((rd2 b n).1 : Int)) else (rd2 b n).2.1
theorem PG_part (b : Nat → Int) (n : Nat) (key : Int) (hk : key ≠ 0) : PG n (partP b n key) := by
  intro p hp
  unfold partP
  split
  · rename_i h
    have hlt : p < n := tk_lt (by rw [h]; exact hk)
    have ha := adv_in (b := b) hlt
    have he := PG_eitL b n 5 (adv b n p) ha.2
    split
    · rename_i h1
      split
      · rename_i h2
        have hlt2 : (eitL b n 5 (adv b n p)).1 < n := tk_lt (by rw [h2]; decide)
        have ha2 := adv_in (b := b) hlt2
        have h3 := he.2.2.1 h1
        refine ⟨by show p ≤ adv b n _; omega, ha2.2, fun _ => ?_, Or.inl rfl⟩
        show p + (eitL b n 5 (adv b n p)).2.2.1.length ≤ adv b n (eitL b n 5 (adv b n p)).1
        omega
      · exact ⟨by show p ≤ (eitL b n 5 _).1; omega, he.2.1, fun h4 => by have : (((eitL b n 5 (adv b n p)).1 : Nat) : Int) = -1 := h4; omega, Or.inr ⟨by show (0 : Int) ≤ ((eitL b n 5 (adv b n p)).1 : Int); omega, by show ((eitL b n 5 (adv b n p)).1 : Int) ≤ n; omega⟩⟩
    · exact ⟨by omega, he.2.1, fun h1 => by have := he.2.2.1 h1; omega, he.2.2.2⟩
  · exact PG_fail n p hp
end
section
/-! THE TAPE'S READER -/
def byt (b : Nat → Int) (n : Nat) : Prop := n ≤ 160 ∧ ∀ i, i < 160 → 0 ≤ b i ∧ b i ≤ 255
/-- where the reading stands -/
def RS (b : Nat → Int) (n : Nat) (im : IM) (p : Nat) (f : Int) : Prop := im 14 0 2 = nx b n p ∧ im 14 0 3 = p ∧ im 14 0 4 = tk b n p ∧ (tk b n p = 2 ∨ tk b n p = 3 → im 14 0 5 = vl b n p) ∧ im 14 0 6 = f
def PR (b : Nat → Int) (n j : Nat) (im : IM) (p : Nat) (f : Int) : Prop := RS b n im p f ∧ RI im ∧ im 15 0 = b ∧ im 14 0 1 = n ∧ (0 ≤ im 2 j 3 ∧ im 2 j 3 ≤ 160) ∧ p ≤ n ∧ (f = -1 → im 2 j 3 ≤ p)
/-- the same but for the reading -/
def agR (j : Nat) (a b : IM) : Prop := ∀ k i s, ¬ (k = 14 ∧ 2 ≤ s ∧ s ≤ 6) → ¬ (k = 2 ∧ i = j ∧ s = 3) → ¬ (k = 3 ∧ i = j) → a k i s = b k i s
theorem agR_rfl (j : Nat) (a : IM) : agR j a a := fun _ _ _ _ _ _ => rfl
theorem agR.trans {j : Nat} {a b c : IM} (h : agR j a b) (h2 : agR j b c) : agR j a c := fun k i s h1 h3 h4 => (h k i s h1 h3 h4).trans (h2 k i s h1 h3 h4)
theorem agR_up {j : Nat} {a b : IM} {k i s : Nat} {x : Int} (h : agR j a b) (hk : (k = 14 ∧ 2 ≤ s ∧ s ≤ 6) ∨ (k = 2 ∧ i = j ∧ s = 3) ∨ (k = 3 ∧ i = j)) : agR j (up a k i s x) b := fun k' i' s' h1 h2 h3 => by
  rw [up_app, if_neg (by omega)]
  exact h k' i' s' h1 h2 h3

set_option maxHeartbeats 4000000 in
theorem c_X4_isLetter (l : Launch) (G : GS) (im : IM) (bt j : Nat) (lm : IM) (c : Int) (hc : ri c) : Cn l (XC G) yX4_isLetter Y_X4_isLetter [vI c] (im, rs bt j, lm) (pI fun x m' => x = (if isL c = true then 1 else 0) ∧ m' = (im, rs bt j, lm)) := by
  refine cn_of (by decide) (okC G) rfl (Nat.le_of_ble_eq_true rfl) ?_
  intro M ad hMl F
  subst hMl
  have hc1 := hc.1
  have hc2 := hc.2
  refine wp_pad 0 ?_
  show Wp M (XC G) ad Y_X4_isLetter (pI fun x m' => x = (if isL c = true then 1 else 0) ∧ m' = (im, rs bt j, lm)) 0 [some (vI c)] [] (im, rs bt j, lm)
  refine q_iload_n (t := 1) F dX4_isLetter_0 rfl rfl rfl ?_
  refine q_bipush (t := 3) F dX4_isLetter_1 (by decide) rfl ?_
  refine q_icmp_lt (t := 6) (u := 16) F dX4_isLetter_3 (by first | exact hR _ _ _ | (constructor <;> omega)) (by first | exact hR _ _ _ | (constructor <;> omega)) (by decide) rfl (fun c3 => ?_) (fun c3 => ?_)
  · refine q_iconst (t := 17) F dX4_isLetter_16 rfl ?_
    refine q_zret F dX4_isLetter_17 rfl (by decide) ?_
    first
      | exact ⟨_, rfl, by rw [if_pos (isL_iff.mpr (by omega))], rfl⟩
      | exact ⟨_, rfl, by rw [if_neg (fun q => by have := isL_iff.mp q; omega)], rfl⟩
  · refine q_iload_n (t := 7) F dX4_isLetter_6 rfl rfl rfl ?_
    refine q_bipush (t := 9) F dX4_isLetter_7 (by decide) rfl ?_
    refine q_icmp_gt (t := 12) (u := 16) F dX4_isLetter_9 (by first | exact hR _ _ _ | (constructor <;> omega)) (by first | exact hR _ _ _ | (constructor <;> omega)) (by decide) rfl (fun c9 => ?_) (fun c9 => ?_)
    · refine q_iconst (t := 17) F dX4_isLetter_16 rfl ?_
      refine q_zret F dX4_isLetter_17 rfl (by decide) ?_
      first
        | exact ⟨_, rfl, by rw [if_pos (isL_iff.mpr (by omega))], rfl⟩
        | exact ⟨_, rfl, by rw [if_neg (fun q => by have := isL_iff.mp q; omega)], rfl⟩
    · refine q_iconst (t := 13) F dX4_isLetter_12 rfl ?_
      refine q_goto (t := 17) F dX4_isLetter_13 (by decide) ?_
      refine q_zret F dX4_isLetter_17 rfl (by decide) ?_
      first
        | exact ⟨_, rfl, by rw [if_pos (isL_iff.mpr (by omega))], rfl⟩
        | exact ⟨_, rfl, by rw [if_neg (fun q => by have := isL_iff.mp q; omega)], rfl⟩

set_option maxHeartbeats 4000000 in
theorem c_X4_isDigit (l : Launch) (G : GS) (im : IM) (bt j : Nat) (lm : IM) (c : Int) (hc : ri c) : Cn l (XC G) yX4_isDigit Y_X4_isDigit [vI c] (im, rs bt j, lm) (pI fun x m' => x = (if isD c = true then 1 else 0) ∧ m' = (im, rs bt j, lm)) := by
  refine cn_of (by decide) (okC G) rfl (Nat.le_of_ble_eq_true rfl) ?_
  intro M ad hMl F
  subst hMl
  have hc1 := hc.1
  have hc2 := hc.2
  refine wp_pad 0 ?_
  show Wp M (XC G) ad Y_X4_isDigit (pI fun x m' => x = (if isD c = true then 1 else 0) ∧ m' = (im, rs bt j, lm)) 0 [some (vI c)] [] (im, rs bt j, lm)
  refine q_iload_n (t := 1) F dX4_isDigit_0 rfl rfl rfl ?_
  refine q_bipush (t := 3) F dX4_isDigit_1 (by decide) rfl ?_
  refine q_icmp_lt (t := 6) (u := 16) F dX4_isDigit_3 (by first | exact hR _ _ _ | (constructor <;> omega)) (by first | exact hR _ _ _ | (constructor <;> omega)) (by decide) rfl (fun c3 => ?_) (fun c3 => ?_)
  · refine q_iconst (t := 17) F dX4_isDigit_16 rfl ?_
    refine q_zret F dX4_isDigit_17 rfl (by decide) ?_
    first
      | exact ⟨_, rfl, by rw [if_pos (isD_iff.mpr (by omega))], rfl⟩
      | exact ⟨_, rfl, by rw [if_neg (fun q => by have := isD_iff.mp q; omega)], rfl⟩
  · refine q_iload_n (t := 7) F dX4_isDigit_6 rfl rfl rfl ?_
    refine q_bipush (t := 9) F dX4_isDigit_7 (by decide) rfl ?_
    refine q_icmp_gt (t := 12) (u := 16) F dX4_isDigit_9 (by first | exact hR _ _ _ | (constructor <;> omega)) (by first | exact hR _ _ _ | (constructor <;> omega)) (by decide) rfl (fun c9 => ?_) (fun c9 => ?_)
    · refine q_iconst (t := 17) F dX4_isDigit_16 rfl ?_
      refine q_zret F dX4_isDigit_17 rfl (by decide) ?_
      first
        | exact ⟨_, rfl, by rw [if_pos (isD_iff.mpr (by omega))], rfl⟩
        | exact ⟨_, rfl, by rw [if_neg (fun q => by have := isD_iff.mp q; omega)], rfl⟩
    · refine q_iconst (t := 13) F dX4_isDigit_12 rfl ?_
      refine q_goto (t := 17) F dX4_isDigit_13 (by decide) ?_
      refine q_zret F dX4_isDigit_17 rfl (by decide) ?_
      first
        | exact ⟨_, rfl, by rw [if_pos (isD_iff.mpr (by omega))], rfl⟩
        | exact ⟨_, rfl, by rw [if_neg (fun q => by have := isD_iff.mp q; omega)], rfl⟩

set_option maxHeartbeats 4000000 in
theorem c_X4_at (l : Launch) (G : GS) (im : IM) (bt j : Nat) (lm : IM) (hR : RI im) (k : Int) (hk : ri k) : Cn l (XC G) yX4_at Y_X4_at [vR 14 0, vI k] (im, rs bt j, lm) (pI fun x m' => x = (if im 14 0 6 = -1 ∧ im 14 0 4 = k then 1 else 0) ∧ m' = (im, rs bt j, lm)) := by
  refine cn_of (by decide) (okC G) rfl (Nat.le_of_ble_eq_true rfl) ?_
  intro M ad hMl F
  subst hMl
  have hk1 := hk.1
  have hk2 := hk.2
  refine wp_pad 0 ?_
  show Wp M (XC G) ad Y_X4_at (pI fun x m' => x = (if im 14 0 6 = -1 ∧ im 14 0 4 = k then 1 else 0) ∧ m' = (im, rs bt j, lm)) 0 [some (vR 14 0), some (vI k)] [] (im, rs bt j, lm)
  refine q_aload_n (t := 1) F dX4_at_0 rfl rfl rfl ?_
  refine g_X4_28 (t := 4) F dX4_at_1 rfl rfl ?_
  refine q_iconst (t := 5) F dX4_at_4 rfl ?_
  refine q_icmp_ne (t := 8) (u := 20) F dX4_at_5 (by first | exact hR _ _ _ | (constructor <;> omega)) (by first | exact hR _ _ _ | (constructor <;> omega)) (by decide) rfl (fun c5 => ?_) (fun c5 => ?_)
  · refine q_iconst (t := 21) F dX4_at_20 rfl ?_
    refine q_zret F dX4_at_21 rfl (by decide) ?_
    first
      | exact ⟨_, rfl, by rw [if_pos (by omega)], rfl⟩
      | exact ⟨_, rfl, by rw [if_neg (by omega)], rfl⟩
  · refine q_aload_n (t := 9) F dX4_at_8 rfl rfl rfl ?_
    refine g_X4_54 (t := 12) F dX4_at_9 rfl rfl ?_
    refine q_iload_n (t := 13) F dX4_at_12 rfl rfl rfl ?_
    refine q_icmp_ne (t := 16) (u := 20) F dX4_at_13 (by exact hR _ _ _) (by constructor <;> omega) (by decide) rfl (fun c13 => ?_) (fun c13 => ?_)
    · refine q_iconst (t := 21) F dX4_at_20 rfl ?_
      refine q_zret F dX4_at_21 rfl (by decide) ?_
      first
        | exact ⟨_, rfl, by rw [if_pos (by omega)], rfl⟩
        | exact ⟨_, rfl, by rw [if_neg (by omega)], rfl⟩
    · refine q_iconst (t := 17) F dX4_at_16 rfl ?_
      refine q_goto (t := 21) F dX4_at_17 (by decide) ?_
      refine q_zret F dX4_at_21 rfl (by decide) ?_
      first
        | exact ⟨_, rfl, by rw [if_pos (by omega)], rfl⟩
        | exact ⟨_, rfl, by rw [if_neg (by omega)], rfl⟩

set_option maxHeartbeats 4000000 in
theorem c_X4_fail (l : Launch) (G : GS) (im : IM) (bt j : Nat) (lm : IM) (hR : RI im) : Cn l (XC G) yX4_fail Y_X4_fail [vR 14 0] (im, rs bt j, lm) (pV fun m' => m' = ((if im 14 0 6 = -1 then up im 14 0 6 (im 14 0 3) else im), rs bt j, lm)) := by
  refine cn_of (by decide) (okC G) rfl (Nat.le_of_ble_eq_true rfl) ?_
  intro M ad hMl F
  subst hMl
  refine wp_pad 0 ?_
  show Wp M (XC G) ad Y_X4_fail (pV fun m' => m' = ((if im 14 0 6 = -1 then up im 14 0 6 (im 14 0 3) else im), rs bt j, lm)) 0 [some (vR 14 0)] [] (im, rs bt j, lm)
  refine q_aload_n (t := 1) F dX4_fail_0 rfl rfl rfl ?_
  refine g_X4_28 (t := 4) F dX4_fail_1 rfl rfl ?_
  refine q_iconst (t := 5) F dX4_fail_4 rfl ?_
  refine q_icmp_ne (t := 8) (u := 16) F dX4_fail_5 (by first | exact hR _ _ _ | (constructor <;> omega)) (by first | exact hR _ _ _ | (constructor <;> omega)) (by decide) rfl (fun c5 => ?_) (fun c5 => ?_)
  · refine q_vret F dX4_fail_16 rfl ?_
    first
      | exact ⟨rfl, by rw [if_pos (by omega)]⟩
      | exact ⟨rfl, by rw [if_neg (by omega)]⟩
  · refine q_aload_n (t := 9) F dX4_fail_8 rfl rfl rfl ?_
    refine q_aload_n (t := 10) F dX4_fail_9 rfl rfl rfl ?_
    refine g_X4_57 (t := 13) F dX4_fail_10 rfl rfl ?_
    refine p_X4_28 (t := 16) F dX4_fail_13 rfl rfl ?_
    refine q_vret F dX4_fail_16 rfl ?_
    first
      | exact ⟨rfl, by rw [if_pos (by omega)]⟩
      | exact ⟨rfl, by rw [if_neg (by omega)]⟩

set_option maxHeartbeats 4000000 in
theorem c_X4_readSign (l : Launch) (G : GS) (im : IM) (bt j : Nat) (lm : IM) (b : Nat → Int) (n : Nat) (hb : byt b n) (hR : RI im) (hb2 : im 15 0 = b) (p : Nat) (hp : p < n) (hnx : im 14 0 2 = p) : Cn l (XC G) yX4_readSign Y_X4_readSign [vR 14 0] (im, rs bt j, lm) (pV fun m' => m' = (up (up im 14 0 4 (if sgn (b p) then b p else 1)) 14 0 2 ((p : Int) + 1), rs bt j, lm)) := by
  refine cn_of (by decide) (okC G) rfl (Nat.le_of_ble_eq_true rfl) ?_
  intro M ad hMl F
  subst hMl
  have hn := hb.1
  have hbp := hb.2 p (by omega)
  have e15 : ∀ s, im 15 0 s = b s := fun s => congrFun hb2 s
  refine wp_pad 2 ?_
  show Wp M (XC G) ad Y_X4_readSign (pV fun m' => m' = (up (up im 14 0 4 (if sgn (b p) then b p else 1)) 14 0 2 ((p : Int) + 1), rs bt j, lm)) 0 [some (vR 14 0), none, none] [] (im, rs bt j, lm)
  refine q_aload_n (t := 1) F dX4_readSign_0 rfl rfl rfl ?_
  refine g_X4_9 (t := 4) F dX4_readSign_1 rfl rfl ?_
  refine q_aload_n (t := 5) F dX4_readSign_4 rfl rfl rfl ?_
  refine g_X4_31 (t := 8) F dX4_readSign_5 rfl rfl ?_
  try simp only [up_app, row_app, scr_app, cpy_app, Nat.reduceEqDiff, Int.reduceToNat, Int.toNat_natCast, and_true, true_and, and_false, false_and, and_self, reduceIte]
  rw [hnx]
  first | refine ldN_15 (t := 9) F dX4_readSign_8 (by omega) rfl ?_ | refine ld_15 (t := 9) F dX4_readSign_8 (by omega) (by omega) rfl ?_
  try simp only [up_app, row_app, scr_app, cpy_app, Nat.reduceEqDiff, Int.reduceToNat, Int.toNat_natCast, and_true, true_and, and_false, false_and, and_self, reduceIte]
  rw [e15]
  refine q_istore_n (t := 10) F dX4_readSign_9 rfl (by decide) rfl rfl ?_
  refine q_iload_n (t := 11) F dX4_readSign_10 rfl rfl rfl ?_
  refine q_bipush (t := 13) F dX4_readSign_11 (by decide) rfl ?_
  refine q_icmp_eq (t := 16) (u := 58) F dX4_readSign_13 (by first | exact hR _ _ _ | (constructor <;> omega)) (by first | exact hR _ _ _ | (constructor <;> omega)) (by decide) rfl (fun c13 => ?_) (fun c13 => ?_)
  · refine q_iconst (t := 59) F dX4_readSign_58 rfl ?_
    refine q_goto (t := 63) F dX4_readSign_59 (by decide) ?_
    refine q_istore_n (t := 64) F dX4_readSign_63 rfl (by decide) rfl rfl ?_
    refine q_aload_n (t := 65) F dX4_readSign_64 rfl rfl rfl ?_
    refine q_iload_n (t := 66) F dX4_readSign_65 rfl rfl rfl ?_
    refine q_if_eq (t := 69) (u := 73) F dX4_readSign_66 (by first | exact hR _ _ _ | (constructor <;> omega)) (by decide) rfl (fun c66 => ?_) (fun c66 => ?_)
    · refine q_iconst (t := 74) F dX4_readSign_73 rfl ?_
      refine p_X4_54 (t := 77) F dX4_readSign_74 rfl rfl ?_
      refine q_aload_n (t := 78) F dX4_readSign_77 rfl rfl rfl ?_
      refine q_dupR (t := 79) F dX4_readSign_78 rfl ?_
      refine g_X4_31 (t := 82) F dX4_readSign_79 rfl rfl ?_
      try simp only [up_app, row_app, scr_app, cpy_app, Nat.reduceEqDiff, Int.reduceToNat, Int.toNat_natCast, and_true, true_and, and_false, false_and, and_self, reduceIte]
      refine q_iconst (t := 83) F dX4_readSign_82 rfl ?_
      refine q_iadd (t := 84) F dX4_readSign_83 rfl ?_
      refine p_X4_31 (t := 87) F dX4_readSign_84 rfl rfl ?_
      refine q_vret F dX4_readSign_87 rfl ?_
      first
        | (exfalso; omega)
        | (refine ⟨rfl, ?_⟩
           show (_ : Mem) = _
           rw [hnx]
           first | rw [if_pos (by omega)] | rw [if_neg (by omega)])
    · refine q_iload_n (t := 70) F dX4_readSign_69 rfl rfl rfl ?_
      refine q_goto (t := 74) F dX4_readSign_70 (by decide) ?_
      refine p_X4_54 (t := 77) F dX4_readSign_74 rfl rfl ?_
      refine q_aload_n (t := 78) F dX4_readSign_77 rfl rfl rfl ?_
      refine q_dupR (t := 79) F dX4_readSign_78 rfl ?_
      refine g_X4_31 (t := 82) F dX4_readSign_79 rfl rfl ?_
      try simp only [up_app, row_app, scr_app, cpy_app, Nat.reduceEqDiff, Int.reduceToNat, Int.toNat_natCast, and_true, true_and, and_false, false_and, and_self, reduceIte]
      refine q_iconst (t := 83) F dX4_readSign_82 rfl ?_
      refine q_iadd (t := 84) F dX4_readSign_83 rfl ?_
      refine p_X4_31 (t := 87) F dX4_readSign_84 rfl rfl ?_
      refine q_vret F dX4_readSign_87 rfl ?_
      first
        | (exfalso; omega)
        | (refine ⟨rfl, ?_⟩
           show (_ : Mem) = _
           rw [hnx]
           first | rw [if_pos (by omega)] | rw [if_neg (by omega)])
  · refine q_iload_n (t := 17) F dX4_readSign_16 rfl rfl rfl ?_
    refine q_bipush (t := 19) F dX4_readSign_17 (by decide) rfl ?_
    refine q_icmp_eq (t := 22) (u := 58) F dX4_readSign_19 (by first | exact hR _ _ _ | (constructor <;> omega)) (by first | exact hR _ _ _ | (constructor <;> omega)) (by decide) rfl (fun c19 => ?_) (fun c19 => ?_)
    · refine q_iconst (t := 59) F dX4_readSign_58 rfl ?_
      refine q_goto (t := 63) F dX4_readSign_59 (by decide) ?_
      refine q_istore_n (t := 64) F dX4_readSign_63 rfl (by decide) rfl rfl ?_
      refine q_aload_n (t := 65) F dX4_readSign_64 rfl rfl rfl ?_
      refine q_iload_n (t := 66) F dX4_readSign_65 rfl rfl rfl ?_
      refine q_if_eq (t := 69) (u := 73) F dX4_readSign_66 (by first | exact hR _ _ _ | (constructor <;> omega)) (by decide) rfl (fun c66 => ?_) (fun c66 => ?_)
      · refine q_iconst (t := 74) F dX4_readSign_73 rfl ?_
        refine p_X4_54 (t := 77) F dX4_readSign_74 rfl rfl ?_
        refine q_aload_n (t := 78) F dX4_readSign_77 rfl rfl rfl ?_
        refine q_dupR (t := 79) F dX4_readSign_78 rfl ?_
        refine g_X4_31 (t := 82) F dX4_readSign_79 rfl rfl ?_
        try simp only [up_app, row_app, scr_app, cpy_app, Nat.reduceEqDiff, Int.reduceToNat, Int.toNat_natCast, and_true, true_and, and_false, false_and, and_self, reduceIte]
        refine q_iconst (t := 83) F dX4_readSign_82 rfl ?_
        refine q_iadd (t := 84) F dX4_readSign_83 rfl ?_
        refine p_X4_31 (t := 87) F dX4_readSign_84 rfl rfl ?_
        refine q_vret F dX4_readSign_87 rfl ?_
        first
          | (exfalso; omega)
          | (refine ⟨rfl, ?_⟩
             show (_ : Mem) = _
             rw [hnx]
             first | rw [if_pos (by omega)] | rw [if_neg (by omega)])
      · refine q_iload_n (t := 70) F dX4_readSign_69 rfl rfl rfl ?_
        refine q_goto (t := 74) F dX4_readSign_70 (by decide) ?_
        refine p_X4_54 (t := 77) F dX4_readSign_74 rfl rfl ?_
        refine q_aload_n (t := 78) F dX4_readSign_77 rfl rfl rfl ?_
        refine q_dupR (t := 79) F dX4_readSign_78 rfl ?_
        refine g_X4_31 (t := 82) F dX4_readSign_79 rfl rfl ?_
        try simp only [up_app, row_app, scr_app, cpy_app, Nat.reduceEqDiff, Int.reduceToNat, Int.toNat_natCast, and_true, true_and, and_false, false_and, and_self, reduceIte]
        refine q_iconst (t := 83) F dX4_readSign_82 rfl ?_
        refine q_iadd (t := 84) F dX4_readSign_83 rfl ?_
        refine p_X4_31 (t := 87) F dX4_readSign_84 rfl rfl ?_
        refine q_vret F dX4_readSign_87 rfl ?_
        first
          | (exfalso; omega)
          | (refine ⟨rfl, ?_⟩
             show (_ : Mem) = _
             rw [hnx]
             first | rw [if_pos (by omega)] | rw [if_neg (by omega)])
    · refine q_iload_n (t := 23) F dX4_readSign_22 rfl rfl rfl ?_
      refine q_bipush (t := 25) F dX4_readSign_23 (by decide) rfl ?_
      refine q_icmp_eq (t := 28) (u := 58) F dX4_readSign_25 (by first | exact hR _ _ _ | (constructor <;> omega)) (by first | exact hR _ _ _ | (constructor <;> omega)) (by decide) rfl (fun c25 => ?_) (fun c25 => ?_)
      · refine q_iconst (t := 59) F dX4_readSign_58 rfl ?_
        refine q_goto (t := 63) F dX4_readSign_59 (by decide) ?_
        refine q_istore_n (t := 64) F dX4_readSign_63 rfl (by decide) rfl rfl ?_
        refine q_aload_n (t := 65) F dX4_readSign_64 rfl rfl rfl ?_
        refine q_iload_n (t := 66) F dX4_readSign_65 rfl rfl rfl ?_
        refine q_if_eq (t := 69) (u := 73) F dX4_readSign_66 (by first | exact hR _ _ _ | (constructor <;> omega)) (by decide) rfl (fun c66 => ?_) (fun c66 => ?_)
        · refine q_iconst (t := 74) F dX4_readSign_73 rfl ?_
          refine p_X4_54 (t := 77) F dX4_readSign_74 rfl rfl ?_
          refine q_aload_n (t := 78) F dX4_readSign_77 rfl rfl rfl ?_
          refine q_dupR (t := 79) F dX4_readSign_78 rfl ?_
          refine g_X4_31 (t := 82) F dX4_readSign_79 rfl rfl ?_
          try simp only [up_app, row_app, scr_app, cpy_app, Nat.reduceEqDiff, Int.reduceToNat, Int.toNat_natCast, and_true, true_and, and_false, false_and, and_self, reduceIte]
          refine q_iconst (t := 83) F dX4_readSign_82 rfl ?_
          refine q_iadd (t := 84) F dX4_readSign_83 rfl ?_
          refine p_X4_31 (t := 87) F dX4_readSign_84 rfl rfl ?_
          refine q_vret F dX4_readSign_87 rfl ?_
          first
            | (exfalso; omega)
            | (refine ⟨rfl, ?_⟩
               show (_ : Mem) = _
               rw [hnx]
               first | rw [if_pos (by omega)] | rw [if_neg (by omega)])
        · refine q_iload_n (t := 70) F dX4_readSign_69 rfl rfl rfl ?_
          refine q_goto (t := 74) F dX4_readSign_70 (by decide) ?_
          refine p_X4_54 (t := 77) F dX4_readSign_74 rfl rfl ?_
          refine q_aload_n (t := 78) F dX4_readSign_77 rfl rfl rfl ?_
          refine q_dupR (t := 79) F dX4_readSign_78 rfl ?_
          refine g_X4_31 (t := 82) F dX4_readSign_79 rfl rfl ?_
          try simp only [up_app, row_app, scr_app, cpy_app, Nat.reduceEqDiff, Int.reduceToNat, Int.toNat_natCast, and_true, true_and, and_false, false_and, and_self, reduceIte]
          refine q_iconst (t := 83) F dX4_readSign_82 rfl ?_
          refine q_iadd (t := 84) F dX4_readSign_83 rfl ?_
          refine p_X4_31 (t := 87) F dX4_readSign_84 rfl rfl ?_
          refine q_vret F dX4_readSign_87 rfl ?_
          first
            | (exfalso; omega)
            | (refine ⟨rfl, ?_⟩
               show (_ : Mem) = _
               rw [hnx]
               first | rw [if_pos (by omega)] | rw [if_neg (by omega)])
      · refine q_iload_n (t := 29) F dX4_readSign_28 rfl rfl rfl ?_
        refine q_bipush (t := 31) F dX4_readSign_29 (by decide) rfl ?_
        refine q_icmp_eq (t := 34) (u := 58) F dX4_readSign_31 (by first | exact hR _ _ _ | (constructor <;> omega)) (by first | exact hR _ _ _ | (constructor <;> omega)) (by decide) rfl (fun c31 => ?_) (fun c31 => ?_)
        · refine q_iconst (t := 59) F dX4_readSign_58 rfl ?_
          refine q_goto (t := 63) F dX4_readSign_59 (by decide) ?_
          refine q_istore_n (t := 64) F dX4_readSign_63 rfl (by decide) rfl rfl ?_
          refine q_aload_n (t := 65) F dX4_readSign_64 rfl rfl rfl ?_
          refine q_iload_n (t := 66) F dX4_readSign_65 rfl rfl rfl ?_
          refine q_if_eq (t := 69) (u := 73) F dX4_readSign_66 (by first | exact hR _ _ _ | (constructor <;> omega)) (by decide) rfl (fun c66 => ?_) (fun c66 => ?_)
          · refine q_iconst (t := 74) F dX4_readSign_73 rfl ?_
            refine p_X4_54 (t := 77) F dX4_readSign_74 rfl rfl ?_
            refine q_aload_n (t := 78) F dX4_readSign_77 rfl rfl rfl ?_
            refine q_dupR (t := 79) F dX4_readSign_78 rfl ?_
            refine g_X4_31 (t := 82) F dX4_readSign_79 rfl rfl ?_
            try simp only [up_app, row_app, scr_app, cpy_app, Nat.reduceEqDiff, Int.reduceToNat, Int.toNat_natCast, and_true, true_and, and_false, false_and, and_self, reduceIte]
            refine q_iconst (t := 83) F dX4_readSign_82 rfl ?_
            refine q_iadd (t := 84) F dX4_readSign_83 rfl ?_
            refine p_X4_31 (t := 87) F dX4_readSign_84 rfl rfl ?_
            refine q_vret F dX4_readSign_87 rfl ?_
            first
              | (exfalso; omega)
              | (refine ⟨rfl, ?_⟩
                 show (_ : Mem) = _
                 rw [hnx]
                 first | rw [if_pos (by omega)] | rw [if_neg (by omega)])
          · refine q_iload_n (t := 70) F dX4_readSign_69 rfl rfl rfl ?_
            refine q_goto (t := 74) F dX4_readSign_70 (by decide) ?_
            refine p_X4_54 (t := 77) F dX4_readSign_74 rfl rfl ?_
            refine q_aload_n (t := 78) F dX4_readSign_77 rfl rfl rfl ?_
            refine q_dupR (t := 79) F dX4_readSign_78 rfl ?_
            refine g_X4_31 (t := 82) F dX4_readSign_79 rfl rfl ?_
            try simp only [up_app, row_app, scr_app, cpy_app, Nat.reduceEqDiff, Int.reduceToNat, Int.toNat_natCast, and_true, true_and, and_false, false_and, and_self, reduceIte]
            refine q_iconst (t := 83) F dX4_readSign_82 rfl ?_
            refine q_iadd (t := 84) F dX4_readSign_83 rfl ?_
            refine p_X4_31 (t := 87) F dX4_readSign_84 rfl rfl ?_
            refine q_vret F dX4_readSign_87 rfl ?_
            first
              | (exfalso; omega)
              | (refine ⟨rfl, ?_⟩
                 show (_ : Mem) = _
                 rw [hnx]
                 first | rw [if_pos (by omega)] | rw [if_neg (by omega)])
        · refine q_iload_n (t := 35) F dX4_readSign_34 rfl rfl rfl ?_
          refine q_bipush (t := 37) F dX4_readSign_35 (by decide) rfl ?_
          refine q_icmp_eq (t := 40) (u := 58) F dX4_readSign_37 (by first | exact hR _ _ _ | (constructor <;> omega)) (by first | exact hR _ _ _ | (constructor <;> omega)) (by decide) rfl (fun c37 => ?_) (fun c37 => ?_)
          · refine q_iconst (t := 59) F dX4_readSign_58 rfl ?_
            refine q_goto (t := 63) F dX4_readSign_59 (by decide) ?_
            refine q_istore_n (t := 64) F dX4_readSign_63 rfl (by decide) rfl rfl ?_
            refine q_aload_n (t := 65) F dX4_readSign_64 rfl rfl rfl ?_
            refine q_iload_n (t := 66) F dX4_readSign_65 rfl rfl rfl ?_
            refine q_if_eq (t := 69) (u := 73) F dX4_readSign_66 (by first | exact hR _ _ _ | (constructor <;> omega)) (by decide) rfl (fun c66 => ?_) (fun c66 => ?_)
            · refine q_iconst (t := 74) F dX4_readSign_73 rfl ?_
              refine p_X4_54 (t := 77) F dX4_readSign_74 rfl rfl ?_
              refine q_aload_n (t := 78) F dX4_readSign_77 rfl rfl rfl ?_
              refine q_dupR (t := 79) F dX4_readSign_78 rfl ?_
              refine g_X4_31 (t := 82) F dX4_readSign_79 rfl rfl ?_
              try simp only [up_app, row_app, scr_app, cpy_app, Nat.reduceEqDiff, Int.reduceToNat, Int.toNat_natCast, and_true, true_and, and_false, false_and, and_self, reduceIte]
              refine q_iconst (t := 83) F dX4_readSign_82 rfl ?_
              refine q_iadd (t := 84) F dX4_readSign_83 rfl ?_
              refine p_X4_31 (t := 87) F dX4_readSign_84 rfl rfl ?_
              refine q_vret F dX4_readSign_87 rfl ?_
              first
                | (exfalso; omega)
                | (refine ⟨rfl, ?_⟩
                   show (_ : Mem) = _
                   rw [hnx]
                   first | rw [if_pos (by omega)] | rw [if_neg (by omega)])
            · refine q_iload_n (t := 70) F dX4_readSign_69 rfl rfl rfl ?_
              refine q_goto (t := 74) F dX4_readSign_70 (by decide) ?_
              refine p_X4_54 (t := 77) F dX4_readSign_74 rfl rfl ?_
              refine q_aload_n (t := 78) F dX4_readSign_77 rfl rfl rfl ?_
              refine q_dupR (t := 79) F dX4_readSign_78 rfl ?_
              refine g_X4_31 (t := 82) F dX4_readSign_79 rfl rfl ?_
              try simp only [up_app, row_app, scr_app, cpy_app, Nat.reduceEqDiff, Int.reduceToNat, Int.toNat_natCast, and_true, true_and, and_false, false_and, and_self, reduceIte]
              refine q_iconst (t := 83) F dX4_readSign_82 rfl ?_
              refine q_iadd (t := 84) F dX4_readSign_83 rfl ?_
              refine p_X4_31 (t := 87) F dX4_readSign_84 rfl rfl ?_
              refine q_vret F dX4_readSign_87 rfl ?_
              first
                | (exfalso; omega)
                | (refine ⟨rfl, ?_⟩
                   show (_ : Mem) = _
                   rw [hnx]
                   first | rw [if_pos (by omega)] | rw [if_neg (by omega)])
          · refine q_iload_n (t := 41) F dX4_readSign_40 rfl rfl rfl ?_
            refine q_bipush (t := 43) F dX4_readSign_41 (by decide) rfl ?_
            refine q_icmp_eq (t := 46) (u := 58) F dX4_readSign_43 (by first | exact hR _ _ _ | (constructor <;> omega)) (by first | exact hR _ _ _ | (constructor <;> omega)) (by decide) rfl (fun c43 => ?_) (fun c43 => ?_)
            · refine q_iconst (t := 59) F dX4_readSign_58 rfl ?_
              refine q_goto (t := 63) F dX4_readSign_59 (by decide) ?_
              refine q_istore_n (t := 64) F dX4_readSign_63 rfl (by decide) rfl rfl ?_
              refine q_aload_n (t := 65) F dX4_readSign_64 rfl rfl rfl ?_
              refine q_iload_n (t := 66) F dX4_readSign_65 rfl rfl rfl ?_
              refine q_if_eq (t := 69) (u := 73) F dX4_readSign_66 (by first | exact hR _ _ _ | (constructor <;> omega)) (by decide) rfl (fun c66 => ?_) (fun c66 => ?_)
              · refine q_iconst (t := 74) F dX4_readSign_73 rfl ?_
                refine p_X4_54 (t := 77) F dX4_readSign_74 rfl rfl ?_
                refine q_aload_n (t := 78) F dX4_readSign_77 rfl rfl rfl ?_
                refine q_dupR (t := 79) F dX4_readSign_78 rfl ?_
                refine g_X4_31 (t := 82) F dX4_readSign_79 rfl rfl ?_
                try simp only [up_app, row_app, scr_app, cpy_app, Nat.reduceEqDiff, Int.reduceToNat, Int.toNat_natCast, and_true, true_and, and_false, false_and, and_self, reduceIte]
                refine q_iconst (t := 83) F dX4_readSign_82 rfl ?_
                refine q_iadd (t := 84) F dX4_readSign_83 rfl ?_
                refine p_X4_31 (t := 87) F dX4_readSign_84 rfl rfl ?_
                refine q_vret F dX4_readSign_87 rfl ?_
                first
                  | (exfalso; omega)
                  | (refine ⟨rfl, ?_⟩
                     show (_ : Mem) = _
                     rw [hnx]
                     first | rw [if_pos (by omega)] | rw [if_neg (by omega)])
              · refine q_iload_n (t := 70) F dX4_readSign_69 rfl rfl rfl ?_
                refine q_goto (t := 74) F dX4_readSign_70 (by decide) ?_
                refine p_X4_54 (t := 77) F dX4_readSign_74 rfl rfl ?_
                refine q_aload_n (t := 78) F dX4_readSign_77 rfl rfl rfl ?_
                refine q_dupR (t := 79) F dX4_readSign_78 rfl ?_
                refine g_X4_31 (t := 82) F dX4_readSign_79 rfl rfl ?_
                try simp only [up_app, row_app, scr_app, cpy_app, Nat.reduceEqDiff, Int.reduceToNat, Int.toNat_natCast, and_true, true_and, and_false, false_and, and_self, reduceIte]
                refine q_iconst (t := 83) F dX4_readSign_82 rfl ?_
                refine q_iadd (t := 84) F dX4_readSign_83 rfl ?_
                refine p_X4_31 (t := 87) F dX4_readSign_84 rfl rfl ?_
                refine q_vret F dX4_readSign_87 rfl ?_
                first
                  | (exfalso; omega)
                  | (refine ⟨rfl, ?_⟩
                     show (_ : Mem) = _
                     rw [hnx]
                     first | rw [if_pos (by omega)] | rw [if_neg (by omega)])
            · refine q_iload_n (t := 47) F dX4_readSign_46 rfl rfl rfl ?_
              refine q_bipush (t := 49) F dX4_readSign_47 (by decide) rfl ?_
              refine q_icmp_eq (t := 52) (u := 58) F dX4_readSign_49 (by first | exact hR _ _ _ | (constructor <;> omega)) (by first | exact hR _ _ _ | (constructor <;> omega)) (by decide) rfl (fun c49 => ?_) (fun c49 => ?_)
              · refine q_iconst (t := 59) F dX4_readSign_58 rfl ?_
                refine q_goto (t := 63) F dX4_readSign_59 (by decide) ?_
                refine q_istore_n (t := 64) F dX4_readSign_63 rfl (by decide) rfl rfl ?_
                refine q_aload_n (t := 65) F dX4_readSign_64 rfl rfl rfl ?_
                refine q_iload_n (t := 66) F dX4_readSign_65 rfl rfl rfl ?_
                refine q_if_eq (t := 69) (u := 73) F dX4_readSign_66 (by first | exact hR _ _ _ | (constructor <;> omega)) (by decide) rfl (fun c66 => ?_) (fun c66 => ?_)
                · refine q_iconst (t := 74) F dX4_readSign_73 rfl ?_
                  refine p_X4_54 (t := 77) F dX4_readSign_74 rfl rfl ?_
                  refine q_aload_n (t := 78) F dX4_readSign_77 rfl rfl rfl ?_
                  refine q_dupR (t := 79) F dX4_readSign_78 rfl ?_
                  refine g_X4_31 (t := 82) F dX4_readSign_79 rfl rfl ?_
                  try simp only [up_app, row_app, scr_app, cpy_app, Nat.reduceEqDiff, Int.reduceToNat, Int.toNat_natCast, and_true, true_and, and_false, false_and, and_self, reduceIte]
                  refine q_iconst (t := 83) F dX4_readSign_82 rfl ?_
                  refine q_iadd (t := 84) F dX4_readSign_83 rfl ?_
                  refine p_X4_31 (t := 87) F dX4_readSign_84 rfl rfl ?_
                  refine q_vret F dX4_readSign_87 rfl ?_
                  first
                    | (exfalso; omega)
                    | (refine ⟨rfl, ?_⟩
                       show (_ : Mem) = _
                       rw [hnx]
                       first | rw [if_pos (by omega)] | rw [if_neg (by omega)])
                · refine q_iload_n (t := 70) F dX4_readSign_69 rfl rfl rfl ?_
                  refine q_goto (t := 74) F dX4_readSign_70 (by decide) ?_
                  refine p_X4_54 (t := 77) F dX4_readSign_74 rfl rfl ?_
                  refine q_aload_n (t := 78) F dX4_readSign_77 rfl rfl rfl ?_
                  refine q_dupR (t := 79) F dX4_readSign_78 rfl ?_
                  refine g_X4_31 (t := 82) F dX4_readSign_79 rfl rfl ?_
                  try simp only [up_app, row_app, scr_app, cpy_app, Nat.reduceEqDiff, Int.reduceToNat, Int.toNat_natCast, and_true, true_and, and_false, false_and, and_self, reduceIte]
                  refine q_iconst (t := 83) F dX4_readSign_82 rfl ?_
                  refine q_iadd (t := 84) F dX4_readSign_83 rfl ?_
                  refine p_X4_31 (t := 87) F dX4_readSign_84 rfl rfl ?_
                  refine q_vret F dX4_readSign_87 rfl ?_
                  first
                    | (exfalso; omega)
                    | (refine ⟨rfl, ?_⟩
                       show (_ : Mem) = _
                       rw [hnx]
                       first | rw [if_pos (by omega)] | rw [if_neg (by omega)])
              · refine q_iload_n (t := 53) F dX4_readSign_52 rfl rfl rfl ?_
                refine q_bipush (t := 55) F dX4_readSign_53 (by decide) rfl ?_
                refine q_icmp_ne (t := 58) (u := 62) F dX4_readSign_55 (by first | exact hR _ _ _ | (constructor <;> omega)) (by first | exact hR _ _ _ | (constructor <;> omega)) (by decide) rfl (fun c55 => ?_) (fun c55 => ?_)
                · refine q_iconst (t := 63) F dX4_readSign_62 rfl ?_
                  refine q_istore_n (t := 64) F dX4_readSign_63 rfl (by decide) rfl rfl ?_
                  refine q_aload_n (t := 65) F dX4_readSign_64 rfl rfl rfl ?_
                  refine q_iload_n (t := 66) F dX4_readSign_65 rfl rfl rfl ?_
                  refine q_if_eq (t := 69) (u := 73) F dX4_readSign_66 (by first | exact hR _ _ _ | (constructor <;> omega)) (by decide) rfl (fun c66 => ?_) (fun c66 => ?_)
                  · refine q_iconst (t := 74) F dX4_readSign_73 rfl ?_
                    refine p_X4_54 (t := 77) F dX4_readSign_74 rfl rfl ?_
                    refine q_aload_n (t := 78) F dX4_readSign_77 rfl rfl rfl ?_
                    refine q_dupR (t := 79) F dX4_readSign_78 rfl ?_
                    refine g_X4_31 (t := 82) F dX4_readSign_79 rfl rfl ?_
                    try simp only [up_app, row_app, scr_app, cpy_app, Nat.reduceEqDiff, Int.reduceToNat, Int.toNat_natCast, and_true, true_and, and_false, false_and, and_self, reduceIte]
                    refine q_iconst (t := 83) F dX4_readSign_82 rfl ?_
                    refine q_iadd (t := 84) F dX4_readSign_83 rfl ?_
                    refine p_X4_31 (t := 87) F dX4_readSign_84 rfl rfl ?_
                    refine q_vret F dX4_readSign_87 rfl ?_
                    first
                      | (exfalso; omega)
                      | (refine ⟨rfl, ?_⟩
                         show (_ : Mem) = _
                         rw [hnx]
                         first | rw [if_pos (by omega)] | rw [if_neg (by omega)])
                  · refine q_iload_n (t := 70) F dX4_readSign_69 rfl rfl rfl ?_
                    refine q_goto (t := 74) F dX4_readSign_70 (by decide) ?_
                    refine p_X4_54 (t := 77) F dX4_readSign_74 rfl rfl ?_
                    refine q_aload_n (t := 78) F dX4_readSign_77 rfl rfl rfl ?_
                    refine q_dupR (t := 79) F dX4_readSign_78 rfl ?_
                    refine g_X4_31 (t := 82) F dX4_readSign_79 rfl rfl ?_
                    try simp only [up_app, row_app, scr_app, cpy_app, Nat.reduceEqDiff, Int.reduceToNat, Int.toNat_natCast, and_true, true_and, and_false, false_and, and_self, reduceIte]
                    refine q_iconst (t := 83) F dX4_readSign_82 rfl ?_
                    refine q_iadd (t := 84) F dX4_readSign_83 rfl ?_
                    refine p_X4_31 (t := 87) F dX4_readSign_84 rfl rfl ?_
                    refine q_vret F dX4_readSign_87 rfl ?_
                    first
                      | (exfalso; omega)
                      | (refine ⟨rfl, ?_⟩
                         show (_ : Mem) = _
                         rw [hnx]
                         first | rw [if_pos (by omega)] | rw [if_neg (by omega)])
                · refine q_iconst (t := 59) F dX4_readSign_58 rfl ?_
                  refine q_goto (t := 63) F dX4_readSign_59 (by decide) ?_
                  refine q_istore_n (t := 64) F dX4_readSign_63 rfl (by decide) rfl rfl ?_
                  refine q_aload_n (t := 65) F dX4_readSign_64 rfl rfl rfl ?_
                  refine q_iload_n (t := 66) F dX4_readSign_65 rfl rfl rfl ?_
                  refine q_if_eq (t := 69) (u := 73) F dX4_readSign_66 (by first | exact hR _ _ _ | (constructor <;> omega)) (by decide) rfl (fun c66 => ?_) (fun c66 => ?_)
                  · refine q_iconst (t := 74) F dX4_readSign_73 rfl ?_
                    refine p_X4_54 (t := 77) F dX4_readSign_74 rfl rfl ?_
                    refine q_aload_n (t := 78) F dX4_readSign_77 rfl rfl rfl ?_
                    refine q_dupR (t := 79) F dX4_readSign_78 rfl ?_
                    refine g_X4_31 (t := 82) F dX4_readSign_79 rfl rfl ?_
                    try simp only [up_app, row_app, scr_app, cpy_app, Nat.reduceEqDiff, Int.reduceToNat, Int.toNat_natCast, and_true, true_and, and_false, false_and, and_self, reduceIte]
                    refine q_iconst (t := 83) F dX4_readSign_82 rfl ?_
                    refine q_iadd (t := 84) F dX4_readSign_83 rfl ?_
                    refine p_X4_31 (t := 87) F dX4_readSign_84 rfl rfl ?_
                    refine q_vret F dX4_readSign_87 rfl ?_
                    first
                      | (exfalso; omega)
                      | (refine ⟨rfl, ?_⟩
                         show (_ : Mem) = _
                         rw [hnx]
                         first | rw [if_pos (by omega)] | rw [if_neg (by omega)])
                  · refine q_iload_n (t := 70) F dX4_readSign_69 rfl rfl rfl ?_
                    refine q_goto (t := 74) F dX4_readSign_70 (by decide) ?_
                    refine p_X4_54 (t := 77) F dX4_readSign_74 rfl rfl ?_
                    refine q_aload_n (t := 78) F dX4_readSign_77 rfl rfl rfl ?_
                    refine q_dupR (t := 79) F dX4_readSign_78 rfl ?_
                    refine g_X4_31 (t := 82) F dX4_readSign_79 rfl rfl ?_
                    try simp only [up_app, row_app, scr_app, cpy_app, Nat.reduceEqDiff, Int.reduceToNat, Int.toNat_natCast, and_true, true_and, and_false, false_and, and_self, reduceIte]
                    refine q_iconst (t := 83) F dX4_readSign_82 rfl ?_
                    refine q_iadd (t := 84) F dX4_readSign_83 rfl ?_
                    refine p_X4_31 (t := 87) F dX4_readSign_84 rfl rfl ?_
                    refine q_vret F dX4_readSign_87 rfl ?_
                    first
                      | (exfalso; omega)
                      | (refine ⟨rfl, ?_⟩
                         show (_ : Mem) = _
                         rw [hnx]
                         first | rw [if_pos (by omega)] | rw [if_neg (by omega)])

theorem numF_s (b : Nat → Int) (p k : Nat) : numF b p (k + 1) = bm (numF b p k * 10 + b (p + k) - 48) := rfl
theorem numF_ri (b : Nat → Int) (p k : Nat) : ri (numF b p k) := by
  cases k with
  | zero => exact ⟨by show (-2147483648 : Int) ≤ 0; omega, by show (0 : Int) < 2147483648; omega⟩
  | succ k => exact ri_b _
theorem RI_14 {im : IM} {s : Nat} {x : Int} (h : RI im) (hx : ri x) : RI (up im 14 0 s x) := RI_up h hx

set_option maxHeartbeats 4000000 in
theorem c_X4_readNumber (l : Launch) (G : GS) (im : IM) (bt j : Nat) (lm : IM) (b : Nat → Int) (n : Nat) (hb : byt b n) (hR : RI im) (hb2 : im 15 0 = b) (hsz : im 14 0 1 = n) (p : Nat) (hp : p < n) (hnx : im 14 0 2 = p) (hst : im 14 0 3 = p) : Cn l (XC G) yX4_readNumber Y_X4_readNumber [vR 14 0] (im, rs bt j, lm) (pV fun m' => ∃ im', RI im' ∧ (∀ k i s, ¬ (k = 14 ∧ (s = 2 ∨ s = 4 ∨ s = 5)) → im' k i s = im k i s) ∧ im' 14 0 2 = span isD b n p ∧ im' 14 0 4 = (if 4 < span isD b n p - p then 1 else 2) ∧ im' 14 0 5 = numF b p (span isD b n p - p) ∧ m' = (im', rs bt j, lm)) := by
  refine cn_of (by decide) (okC G) rfl (Nat.le_of_ble_eq_true rfl) ?_
  intro M ad hMl F
  subst hMl
  have hn := hb.1
  have e15 : ∀ s, im 15 0 s = b s := fun s => congrFun hb2 s
  refine wp_pad 0 ?_
  show Wp M (XC G) ad Y_X4_readNumber (pV fun m' => ∃ im', RI im' ∧ (∀ k i s, ¬ (k = 14 ∧ (s = 2 ∨ s = 4 ∨ s = 5)) → im' k i s = im k i s) ∧ im' 14 0 2 = span isD b n p ∧ im' 14 0 4 = (if 4 < span isD b n p - p then 1 else 2) ∧ im' 14 0 5 = numF b p (span isD b n p - p) ∧ m' = (im', rs bt j, lm)) 0 [some (vR 14 0)] [] (im, rs bt j, lm)
  refine q_aload_n (t := 1) F dX4_readNumber_0 rfl rfl rfl ?_
  refine q_iconst (t := 2) F dX4_readNumber_1 rfl ?_
  refine p_X4_82 (t := 5) F dX4_readNumber_2 rfl rfl ?_
  have L5 : ∀ (fz : Nat) (q : Nat) (im2 : IM), n - q < fz → p ≤ q → q ≤ n → RI im2 → (∀ k i s, ¬ (k = 14 ∧ (s = 2 ∨ s = 4 ∨ s = 5)) → im2 k i s = im k i s) → im2 14 0 2 = q → im2 14 0 5 = numF b p (q - p) → span isD b n p = span isD b n q → Wp M (XC G) ad Y_X4_readNumber (pV fun m' => ∃ im', RI im' ∧ (∀ k i s, ¬ (k = 14 ∧ (s = 2 ∨ s = 4 ∨ s = 5)) → im' k i s = im k i s) ∧ im' 14 0 2 = span isD b n p ∧ im' 14 0 4 = (if 4 < span isD b n p - p then 1 else 2) ∧ im' 14 0 5 = numF b p (span isD b n p - p) ∧ m' = (im', rs bt j, lm)) 5 [some (vR 14 0)] [] (im2, rs bt j, lm) := by
    intro fz
    induction fz with
    | zero => intro q im2 h; exact absurd h (Nat.not_lt_zero _)
    | succ fz ih =>
      have ih5 := ih
      intro q im2 hmeas hpq hqn hR2 hag g2 g5 hspn
      have g15 : ∀ s, im2 15 0 s = b s := fun s => (hag 15 0 s (by omega)).trans (e15 s)
      have g1 : im2 14 0 1 = n := (hag 14 0 1 (by omega)).trans hsz
      have g3 : im2 14 0 3 = p := (hag 14 0 3 (by omega)).trans hst
      refine q_aload_n (t := 6) F dX4_readNumber_5 rfl rfl rfl ?_
      refine g_X4_31 (t := 9) F dX4_readNumber_6 rfl rfl ?_
      try simp only [up_app, row_app, scr_app, cpy_app, Nat.reduceEqDiff, Int.reduceToNat, Int.toNat_natCast, and_true, true_and, and_false, false_and, and_self, reduceIte]
      refine q_aload_n (t := 10) F dX4_readNumber_9 rfl rfl rfl ?_
      refine g_X4_19 (t := 13) F dX4_readNumber_10 rfl rfl ?_
      try simp only [up_app, row_app, scr_app, cpy_app, Nat.reduceEqDiff, Int.reduceToNat, Int.toNat_natCast, and_true, true_and, and_false, false_and, and_self, reduceIte]
      refine q_icmp_ge (t := 16) (u := 68) F dX4_readNumber_13 (by constructor <;> omega) (by exact hR2 _ _ _) (by decide) rfl (fun c13 => ?_) (fun c13 => ?_)
      · refine q_aload_n (t := 69) F dX4_readNumber_68 rfl rfl rfl ?_
        refine q_aload_n (t := 70) F dX4_readNumber_69 rfl rfl rfl ?_
        refine g_X4_31 (t := 73) F dX4_readNumber_70 rfl rfl ?_
        try simp only [up_app, row_app, scr_app, cpy_app, Nat.reduceEqDiff, Int.reduceToNat, Int.toNat_natCast, and_true, true_and, and_false, false_and, and_self, reduceIte]
        refine q_aload_n (t := 74) F dX4_readNumber_73 rfl rfl rfl ?_
        refine g_X4_57 (t := 77) F dX4_readNumber_74 rfl rfl ?_
        try simp only [up_app, row_app, scr_app, cpy_app, Nat.reduceEqDiff, Int.reduceToNat, Int.toNat_natCast, and_true, true_and, and_false, false_and, and_self, reduceIte]
        refine q_isub (t := 78) F dX4_readNumber_77 rfl ?_
        refine q_iconst (t := 79) F dX4_readNumber_78 rfl ?_
        refine q_icmp_le (t := 82) (u := 86) F dX4_readNumber_79 (by constructor <;> omega) (by constructor <;> omega) (by decide) rfl (fun c79 => ?_) (fun c79 => ?_)
        · refine q_iconst (t := 87) F dX4_readNumber_86 rfl ?_
          refine p_X4_54 (t := 90) F dX4_readNumber_87 rfl rfl ?_
          refine q_vret F dX4_readNumber_90 rfl ?_
          have hspq : span isD b n p = q := by
            rw [hspn]
            refine span_n (fun z => ?_)
            first
              | omega
              | (rcases hx25 with h | h
                 · omega
                 · exact h.2 z.2)
          have hd : im2 14 0 2 - im2 14 0 3 = ((q - p : Nat) : Int) := by omega
          first
            | (refine ⟨rfl, _, RI_up hR2 (by constructor <;> omega), (fun k i s h => by rw [up_app, if_neg (by omega)]; exact hag k i s h), ?_, ?_, ?_, rfl⟩
               · rw [up_app, if_neg (by omega), hspq]; exact g2
               · rw [up_app, if_pos ⟨rfl, rfl, rfl⟩, hspq, if_pos (by omega)]
               · rw [up_app, if_neg (by omega), hspq]; exact g5)
            | (refine ⟨rfl, _, RI_up hR2 (by constructor <;> omega), (fun k i s h => by rw [up_app, if_neg (by omega)]; exact hag k i s h), ?_, ?_, ?_, rfl⟩
               · rw [up_app, if_neg (by omega), hspq]; exact g2
               · rw [up_app, if_pos ⟨rfl, rfl, rfl⟩, hspq, if_neg (by omega)]
               · rw [up_app, if_neg (by omega), hspq]; exact g5)
        · refine q_iconst (t := 83) F dX4_readNumber_82 rfl ?_
          refine q_goto (t := 87) F dX4_readNumber_83 (by decide) ?_
          refine p_X4_54 (t := 90) F dX4_readNumber_87 rfl rfl ?_
          refine q_vret F dX4_readNumber_90 rfl ?_
          have hspq : span isD b n p = q := by
            rw [hspn]
            refine span_n (fun z => ?_)
            first
              | omega
              | (rcases hx25 with h | h
                 · omega
                 · exact h.2 z.2)
          have hd : im2 14 0 2 - im2 14 0 3 = ((q - p : Nat) : Int) := by omega
          first
            | (refine ⟨rfl, _, RI_up hR2 (by constructor <;> omega), (fun k i s h => by rw [up_app, if_neg (by omega)]; exact hag k i s h), ?_, ?_, ?_, rfl⟩
               · rw [up_app, if_neg (by omega), hspq]; exact g2
               · rw [up_app, if_pos ⟨rfl, rfl, rfl⟩, hspq, if_pos (by omega)]
               · rw [up_app, if_neg (by omega), hspq]; exact g5)
            | (refine ⟨rfl, _, RI_up hR2 (by constructor <;> omega), (fun k i s h => by rw [up_app, if_neg (by omega)]; exact hag k i s h), ?_, ?_, ?_, rfl⟩
               · rw [up_app, if_neg (by omega), hspq]; exact g2
               · rw [up_app, if_pos ⟨rfl, rfl, rfl⟩, hspq, if_neg (by omega)]
               · rw [up_app, if_neg (by omega), hspq]; exact g5)
      · refine q_aload_n (t := 17) F dX4_readNumber_16 rfl rfl rfl ?_
        refine g_X4_9 (t := 20) F dX4_readNumber_17 rfl rfl ?_
        refine q_aload_n (t := 21) F dX4_readNumber_20 rfl rfl rfl ?_
        refine g_X4_31 (t := 24) F dX4_readNumber_21 rfl rfl ?_
        try simp only [up_app, row_app, scr_app, cpy_app, Nat.reduceEqDiff, Int.reduceToNat, Int.toNat_natCast, and_true, true_and, and_false, false_and, and_self, reduceIte]
        rw [g2]
        first | refine ldN_15 (t := 25) F dX4_readNumber_24 (by omega) rfl ?_ | refine ld_15 (t := 25) F dX4_readNumber_24 (by omega) (by omega) rfl ?_
        try simp only [up_app, row_app, scr_app, cpy_app, Nat.reduceEqDiff, Int.reduceToNat, Int.toNat_natCast, and_true, true_and, and_false, false_and, and_self, reduceIte]
        rw [g15]
        refine wp_callS (t := 28) [_] F dX4_readNumber_25 k_X4_isDigit st_X4_isDigit ml_X4_91 rfl rfl (Nat.le_of_ble_eq_true rfl) (by decide) (c_X4_isDigit _ G im2 bt j lm (b q) (by have := hb.2 q (by omega); constructor <;> omega)) rfl (kI ?_)
        rintro x25 m' ⟨hx25, rfl⟩
        have hx25 := if01 hx25
        refine q_if_eq (t := 31) (u := 68) F dX4_readNumber_28 (by first | exact hR _ _ _ | (constructor <;> omega)) (by decide) rfl (fun c28 => ?_) (fun c28 => ?_)
        · refine q_aload_n (t := 69) F dX4_readNumber_68 rfl rfl rfl ?_
          refine q_aload_n (t := 70) F dX4_readNumber_69 rfl rfl rfl ?_
          refine g_X4_31 (t := 73) F dX4_readNumber_70 rfl rfl ?_
          try simp only [up_app, row_app, scr_app, cpy_app, Nat.reduceEqDiff, Int.reduceToNat, Int.toNat_natCast, and_true, true_and, and_false, false_and, and_self, reduceIte]
          refine q_aload_n (t := 74) F dX4_readNumber_73 rfl rfl rfl ?_
          refine g_X4_57 (t := 77) F dX4_readNumber_74 rfl rfl ?_
          try simp only [up_app, row_app, scr_app, cpy_app, Nat.reduceEqDiff, Int.reduceToNat, Int.toNat_natCast, and_true, true_and, and_false, false_and, and_self, reduceIte]
          refine q_isub (t := 78) F dX4_readNumber_77 rfl ?_
          refine q_iconst (t := 79) F dX4_readNumber_78 rfl ?_
          refine q_icmp_le (t := 82) (u := 86) F dX4_readNumber_79 (by constructor <;> omega) (by constructor <;> omega) (by decide) rfl (fun c79 => ?_) (fun c79 => ?_)
          · refine q_iconst (t := 87) F dX4_readNumber_86 rfl ?_
            refine p_X4_54 (t := 90) F dX4_readNumber_87 rfl rfl ?_
            refine q_vret F dX4_readNumber_90 rfl ?_
            have hspq : span isD b n p = q := by
              rw [hspn]
              refine span_n (fun z => ?_)
              first
                | omega
                | (rcases hx25 with h | h
                   · omega
                   · exact h.2 z.2)
            have hd : im2 14 0 2 - im2 14 0 3 = ((q - p : Nat) : Int) := by omega
            first
              | (refine ⟨rfl, _, RI_up hR2 (by constructor <;> omega), (fun k i s h => by rw [up_app, if_neg (by omega)]; exact hag k i s h), ?_, ?_, ?_, rfl⟩
                 · rw [up_app, if_neg (by omega), hspq]; exact g2
                 · rw [up_app, if_pos ⟨rfl, rfl, rfl⟩, hspq, if_pos (by omega)]
                 · rw [up_app, if_neg (by omega), hspq]; exact g5)
              | (refine ⟨rfl, _, RI_up hR2 (by constructor <;> omega), (fun k i s h => by rw [up_app, if_neg (by omega)]; exact hag k i s h), ?_, ?_, ?_, rfl⟩
                 · rw [up_app, if_neg (by omega), hspq]; exact g2
                 · rw [up_app, if_pos ⟨rfl, rfl, rfl⟩, hspq, if_neg (by omega)]
                 · rw [up_app, if_neg (by omega), hspq]; exact g5)
          · refine q_iconst (t := 83) F dX4_readNumber_82 rfl ?_
            refine q_goto (t := 87) F dX4_readNumber_83 (by decide) ?_
            refine p_X4_54 (t := 90) F dX4_readNumber_87 rfl rfl ?_
            refine q_vret F dX4_readNumber_90 rfl ?_
            have hspq : span isD b n p = q := by
              rw [hspn]
              refine span_n (fun z => ?_)
              first
                | omega
                | (rcases hx25 with h | h
                   · omega
                   · exact h.2 z.2)
            have hd : im2 14 0 2 - im2 14 0 3 = ((q - p : Nat) : Int) := by omega
            first
              | (refine ⟨rfl, _, RI_up hR2 (by constructor <;> omega), (fun k i s h => by rw [up_app, if_neg (by omega)]; exact hag k i s h), ?_, ?_, ?_, rfl⟩
                 · rw [up_app, if_neg (by omega), hspq]; exact g2
                 · rw [up_app, if_pos ⟨rfl, rfl, rfl⟩, hspq, if_pos (by omega)]
                 · rw [up_app, if_neg (by omega), hspq]; exact g5)
              | (refine ⟨rfl, _, RI_up hR2 (by constructor <;> omega), (fun k i s h => by rw [up_app, if_neg (by omega)]; exact hag k i s h), ?_, ?_, ?_, rfl⟩
                 · rw [up_app, if_neg (by omega), hspq]; exact g2
                 · rw [up_app, if_pos ⟨rfl, rfl, rfl⟩, hspq, if_neg (by omega)]
                 · rw [up_app, if_neg (by omega), hspq]; exact g5)
        · refine q_aload_n (t := 32) F dX4_readNumber_31 rfl rfl rfl ?_
          refine q_aload_n (t := 33) F dX4_readNumber_32 rfl rfl rfl ?_
          refine g_X4_82 (t := 36) F dX4_readNumber_33 rfl rfl ?_
          try simp only [up_app, row_app, scr_app, cpy_app, Nat.reduceEqDiff, Int.reduceToNat, Int.toNat_natCast, and_true, true_and, and_false, false_and, and_self, reduceIte]
          refine q_bipush (t := 38) F dX4_readNumber_36 (by decide) rfl ?_
          refine q_imul (t := 39) F dX4_readNumber_38 rfl ?_
          refine q_aload_n (t := 40) F dX4_readNumber_39 rfl rfl rfl ?_
          refine g_X4_9 (t := 43) F dX4_readNumber_40 rfl rfl ?_
          refine q_aload_n (t := 44) F dX4_readNumber_43 rfl rfl rfl ?_
          refine g_X4_31 (t := 47) F dX4_readNumber_44 rfl rfl ?_
          try simp only [up_app, row_app, scr_app, cpy_app, Nat.reduceEqDiff, Int.reduceToNat, Int.toNat_natCast, and_true, true_and, and_false, false_and, and_self, reduceIte]
          rw [g2]
          first | refine ldN_15 (t := 48) F dX4_readNumber_47 (by omega) rfl ?_ | refine ld_15 (t := 48) F dX4_readNumber_47 (by omega) (by omega) rfl ?_
          try simp only [up_app, row_app, scr_app, cpy_app, Nat.reduceEqDiff, Int.reduceToNat, Int.toNat_natCast, and_true, true_and, and_false, false_and, and_self, reduceIte]
          rw [g15, g5]
          refine q_iadd (t := 49) F dX4_readNumber_48 rfl ?_
          refine q_bipush (t := 51) F dX4_readNumber_49 (by decide) rfl ?_
          refine q_isub (t := 52) F dX4_readNumber_51 rfl ?_
          refine q_norm ?_
          refine p_X4_82 (t := 55) F dX4_readNumber_52 rfl rfl ?_
          refine q_aload_n (t := 56) F dX4_readNumber_55 rfl rfl rfl ?_
          refine q_dupR (t := 57) F dX4_readNumber_56 rfl ?_
          refine g_X4_31 (t := 60) F dX4_readNumber_57 rfl rfl ?_
          try simp only [up_app, row_app, scr_app, cpy_app, Nat.reduceEqDiff, Int.reduceToNat, Int.toNat_natCast, and_true, true_and, and_false, false_and, and_self, reduceIte]
          refine q_iconst (t := 61) F dX4_readNumber_60 rfl ?_
          refine q_iadd (t := 62) F dX4_readNumber_61 rfl ?_
          
          refine p_X4_31 (t := 65) F dX4_readNumber_62 rfl rfl ?_
          refine q_goto (t := 5) F dX4_readNumber_65 (by decide) ?_
          refine ih5 (q + 1) _ (by omega) (by omega) (by omega) (RI_up (RI_up hR2 (ri_b _)) (by constructor <;> omega)) (fun k i s h => by rw [up_app, if_neg (by omega), up_app, if_neg (by omega)]; exact hag k i s h) ?_ ?_ ?_
          · rw [up_app, if_pos ⟨rfl, rfl, rfl⟩, g2]; omega
          · rw [up_app, if_neg (by omega), up_app, if_pos ⟨rfl, rfl, rfl⟩, show q + 1 - p = (q - p) + 1 by omega, numF_s, show p + (q - p) = q by omega]
          · rw [hspn, span_y (by omega) (by rcases hx25 with h | h
                                            · exact h.2
                                            · omega)]
  exact L5 _ p _ (Nat.lt_succ_self _) (Nat.le_refl _) (by omega) (RI_up hR (by constructor <;> omega)) (fun k i s h => by rw [up_app, if_neg (by omega)]) (by rw [up_app, if_neg (by omega)]; exact hnx) (by rw [up_app, if_pos ⟨rfl, rfl, rfl⟩, Nat.sub_self]; rfl) rfl
end
