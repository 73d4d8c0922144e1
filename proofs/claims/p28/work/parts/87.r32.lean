/-! reading: only the letters count -/

def agB (b c : Nat → Int) (n : Nat) : Prop := ∀ i, i < n → b i = c i
theorem span_cg {P : Int → Bool} {b c : Nat → Int} {n : Nat} (h : agB b c n) : ∀ (k p : Nat), n - p = k → span P b n p = span P c n p := by
  intro k
  induction k with
  | zero => intro p hk; rw [span_n (by omega), span_n (by omega)]
  | succ k ih =>
    intro p hk
    have e := h p (by omega)
    by_cases hp : P (b p) = true
    · rw [span_y (by omega) hp, span_y (b := c) (p := p) (by omega) (by rw [← e]; exact hp)]
      exact ih (p + 1) (by omega)
    · rw [span_n (fun q => hp q.2), span_n (fun q => hp (by rw [e]; exact q.2))]
theorem wIx_cg {b c : Nat → Int} {n p q : Nat} (h : agB b c n) (hq : q ≤ n) : ∀ i, wIx b p q i = wIx c p q i := by
  intro i
  induction i with
  | zero => rfl
  | succ i ih =>
    rw [wIx_s, wIx_s, ih]
    have e : stdS b p q i ↔ stdS c p q i := by
      constructor
      · intro z
        refine ⟨z.1, fun j hj => ?_⟩
        rw [← h (p + j) (by have := z.1; omega)]
        exact z.2 j hj
      · intro z
        refine ⟨z.1, fun j hj => ?_⟩
        rw [h (p + j) (by have := z.1; omega)]
        exact z.2 j hj
    by_cases hs : stdS b p q i
    · rw [if_pos hs, if_pos (e.mp hs)]
    · rw [if_neg hs, if_neg (fun z => hs (e.mpr z))]
theorem numF_cg {b c : Nat → Int} {n p : Nat} (h : agB b c n) : ∀ k, p + k ≤ n → numF b p k = numF c p k := by
  intro k
  induction k with
  | zero => intro _; rfl
  | succ k ih =>
    intro hk
    show bm (numF b p k * 10 + b (p + k) - 48) = bm (numF c p k * 10 + c (p + k) - 48)
    rw [ih (by omega), h (p + k) (by omega)]
theorem tk_cg {b c : Nat → Int} {n : Nat} (h : agB b c n) : tk b n = tk c n := by
  funext p
  unfold tk
  by_cases hp : n ≤ p
  · rw [if_pos hp, if_pos hp]
  · rw [if_neg hp, if_neg hp, h p (by omega), span_cg h _ p rfl, span_cg h _ p rfl, wIx_cg h ((span_in isL c n _ p rfl).2 (by omega))]
theorem nx_cg {b c : Nat → Int} {n : Nat} (h : agB b c n) : nx b n = nx c n := by
  funext p
  unfold nx
  by_cases hp : n ≤ p
  · rw [if_pos hp, if_pos hp]
  · rw [if_neg hp, if_neg hp, h p (by omega), span_cg h _ p rfl, span_cg h _ p rfl]
theorem adv_cg {b c : Nat → Int} {n : Nat} (h : agB b c n) : adv b n = adv c n := by
  funext p
  unfold adv
  rw [nx_cg h, span_cg h _ _ rfl]
theorem vl_cg {b c : Nat → Int} {n p : Nat} (h : agB b c n) (hp : p < n) : vl b n p = vl c n p := by
  unfold vl
  have h2 := (span_in isD c n _ p rfl).2 (by omega)
  have h1 := (span_in isD c n _ p rfl).1
  rw [h p hp, span_cg h _ p rfl, span_cg h _ p rfl, wIx_cg h ((span_in isL c n _ p rfl).2 (by omega)), numF_cg h _ (by omega)]
theorem loopP_cg {b c : Nat → Int} {n : Nat} (h : agB b c n) (op : Int → Int) (sub : Nat → PT) : ∀ (f : Nat) (r : PT), loopP b n op sub f r = loopP c n op sub f r := by
  intro f
  induction f with
  | zero => intro r; rfl
  | succ f ih =>
    intro r
    show (if r.2.1 = -1 ∧ op (tk b n r.1) ≠ 0 then loopP b n op sub f _ else r) = (if r.2.1 = -1 ∧ op (tk c n r.1) ≠ 0 then loopP c n op sub f _ else r)
    rw [tk_cg h, adv_cg h, ih]
theorem atomX_cg {b c : Nat → Int} {n m : Nat} (h : agB b c n) (nE : Nat → PT) : atomX b n m nE = atomX c n m nE := by
  funext p
  unfold atomX
  rw [tk_cg h, adv_cg h]
  by_cases hp : p < n
  · rw [vl_cg h hp]
  · rw [tk_0 (b := c) (n := n) (p := p) (by omega), if_neg (by omega), if_neg (by omega), if_neg (by omega), if_neg (by omega), if_neg (by omega), if_neg (by omega)]
theorem atomP_cg {b c : Nat → Int} {n m : Nat} (h : agB b c n) (n1 nE : Nat → PT) : atomP b n m n1 nE = atomP c n m n1 nE := by
  funext p
  unfold atomP
  rw [tk_cg h, adv_cg h, atomX_cg h]
theorem termP_cg {b c : Nat → Int} {n : Nat} (h : agB b c n) (one : Nat → PT) : termP b n one = termP c n one := by
  funext p
  unfold termP
  rw [loopP_cg h]
theorem sumP_cg {b c : Nat → Int} {n : Nat} (h : agB b c n) (one : Nat → PT) : sumP b n one = sumP c n one := by
  funext p
  unfold sumP
  rw [termP_cg h, loopP_cg h]
theorem denP_cg {b c : Nat → Int} {n m : Nat} (h : agB b c n) (one nD : Nat → PT) : denP b n m one nD = denP c n m one nD := by
  funext p
  unfold denP denX
  rw [tk_cg h, adv_cg h, sumP_cg h, loopP_cg h]
theorem eitP_cg {b c : Nat → Int} {n : Nat} (h : agB b c n) (den : Nat → PT) : eitP b n den = eitP c n den := by
  funext p
  have e : bothP b n den = bothP c n den := by
    funext q
    unfold bothP
    rw [loopP_cg h]
  unfold eitP
  rw [e, loopP_cg h]
theorem lvl_cg {b c : Nat → Int} {n : Nat} (h : agB b c n) : ∀ m, lvl b n m = lvl c n m := by
  intro m
  induction m with
  | zero =>
    show (atomP b n 0 pFail pFail, denP b n 0 (atomP b n 0 pFail pFail) pFail) = (atomP c n 0 pFail pFail, denP c n 0 (atomP c n 0 pFail pFail) pFail)
    rw [atomP_cg h, denP_cg h]
  | succ m ih =>
    show (atomP b n (m + 1) (lvl b n m).1 (eitP b n (lvl b n m).2), denP b n (m + 1) (atomP b n (m + 1) (lvl b n m).1 (eitP b n (lvl b n m).2)) (lvl b n m).2) = (atomP c n (m + 1) (lvl c n m).1 (eitP c n (lvl c n m).2), denP c n (m + 1) (atomP c n (m + 1) (lvl c n m).1 (eitP c n (lvl c n m).2)) (lvl c n m).2)
    rw [ih, eitP_cg h, atomP_cg h, denP_cg h]
theorem partP_cg {b c : Nat → Int} {n : Nat} (h : agB b c n) (key : Int) : partP b n key = partP c n key := by
  have e : eitL b n 5 = eitL c n 5 := by
    unfold eitL denL
    rw [lvl_cg h, eitP_cg h]
  funext p
  unfold partP
  rw [tk_cg h, adv_cg h, e]
theorem rdk_cg {b c : Nat → Int} {n : Nat} (h : agB b c n) : ∀ k, rdk b n k = rdk c n k := by
  intro k
  induction k with
  | zero =>
    show (span isW b n 0, (-1 : Int), ([] : List Int), fun _ => (0 : Int)) = (span isW c n 0, -1, [], fun _ => 0)
    rw [span_cg h _ 0 rfl]
  | succ k ih =>
    show stP (partP b n (4 + (k : Int))) (rdk b n k).1 (rdk b n k).2.1 = stP (partP c n (4 + (k : Int))) (rdk c n k).1 (rdk c n k).2.1
    rw [ih, partP_cg h]
theorem rdF_cg {b c : Nat → Int} {n : Nat} (h : agB b c n) : rdF b n = rdF c n := by
  rw [rdF_eq, rdF_eq, rdk_cg h, tk_cg h]
theorem valT_cg {b c : Nat → Int} {n : Nat} (h : agB b c n) (part : Nat) (nm : Nat → Int) : valT b n part nm = valT c n part nm := by
  unfold valT
  rw [rdk_cg h]
