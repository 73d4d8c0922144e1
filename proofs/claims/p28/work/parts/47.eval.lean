/-! THE FIRST RULE: sticks word + food * 3 ; lasts 5 ; shames 10 ; -/
section Ev
variable {b : Nat → Int} {n : Nat}
theorem loop0 {op : Int → Int} {sub : Nat → PT} {f : Nat} {r : PT} (h : op (tk b n r.1) = 0) : loopP b n op sub f r = r := loopP_n (fun q => q.2 h)
theorem one_num {m p : Nat} (h : tk b n p = 2) : oneL b n m p = (adv b n p, -1, [vl b n p], fun _ => vl b n p) := by
  have hx : ∀ nE, atomX b n m nE p = (adv b n p, -1, [vl b n p], fun _ => vl b n p) := fun nE => by
    unfold atomX
    rw [if_neg (by omega), if_pos h]
  cases m with
  | zero => rw [oneL_0, if_neg (by omega)]; exact hx _
  | succ m => rw [oneL_s, if_neg (by omega)]; exact hx _
theorem one_nam {m p : Nat} (h : tk b n p = 3) : oneL b n m p = (adv b n p, -1, [-1 - vl b n p], fun nm => nm (vl b n p).toNat) := by
  have hx : ∀ nE, atomX b n m nE p = (adv b n p, -1, [-1 - vl b n p], fun nm => nm (vl b n p).toNat) := fun nE => by
    unfold atomX
    rw [if_neg (by omega), if_neg (by omega), if_pos h]
  cases m with
  | zero => rw [oneL_0, if_neg (by omega)]; exact hx _
  | succ m => rw [oneL_s, if_neg (by omega)]; exact hx _
theorem den_x {m p : Nat} (h : tk b n p ≠ 9) : denL b n m p = denX b n (oneL b n m) p := by
  cases m with
  | zero => rw [denL_0, if_neg h]
  | succ m => rw [denL_s, if_neg h]
/-- a sum that a ';' ends -/
theorem eit_of {m p : Nat} {r : PT} (h9 : tk b n p ≠ 9) (hs : sumL b n m p = r) (h : tk b n r.1 = 59) : eitL b n m p = r := by
  have hd : denL b n m p = r := by
    rw [den_x h9]
    show loopP b n opC (sumP b n (oneL b n m)) 1 (sumL b n m p) = r
    rw [hs, loop0 (by rw [h]; rfl)]
  have hb : bothL b n m p = r := by
    show loopP b n opA (denL b n m) 160 (denL b n m p) = r
    rw [hd, loop0 (by rw [h]; rfl)]
  show loopP b n opO (bothL b n m) 160 (bothL b n m p) = r
  rw [hb, loop0 (by rw [h]; rfl)]
theorem eit_num {m p : Nat} (h : tk b n p = 2) (h2 : tk b n (adv b n p) = 59) : eitL b n m p = (adv b n p, -1, [vl b n p], fun _ => vl b n p) := by
  refine eit_of (by omega) ?_ h2
  have ht : termL b n m p = (adv b n p, -1, [vl b n p], fun _ => vl b n p) := by
    show loopP b n opM (oneL b n m) 160 (oneL b n m p) = _
    rw [one_num h, loop0 (by show opM (tk b n (adv b n p)) = 0; rw [h2]; rfl)]
  show loopP b n opS (termL b n m) 160 (termL b n m p) = _
  rw [ht, loop0 (by show opS (tk b n (adv b n p)) = 0; rw [h2]; rfl)]
/-- what stands where -/
def fstT (b : Nat → Int) (n e : Nat) : Prop := span isW b n 0 = 0 ∧ (tk b n 0 = 4 ∧ adv b n 0 = 7) ∧ (tk b n 7 = 3 ∧ adv b n 7 = 12 ∧ vl b n 7 = 0) ∧ (tk b n 12 = 43 ∧ adv b n 12 = 14) ∧ (tk b n 14 = 3 ∧ adv b n 14 = 19 ∧ vl b n 14 = 1) ∧ (tk b n 19 = 42 ∧ adv b n 19 = 21) ∧ (tk b n 21 = 2 ∧ adv b n 21 = 23 ∧ vl b n 21 = 3) ∧ (tk b n 23 = 59 ∧ adv b n 23 = 25) ∧ (tk b n 25 = 5 ∧ adv b n 25 = 31) ∧ (tk b n 31 = 2 ∧ adv b n 31 = 33 ∧ vl b n 31 = 5) ∧ (tk b n 33 = 59 ∧ adv b n 33 = 35) ∧ (tk b n 35 = 6 ∧ adv b n 35 = 42) ∧ (tk b n 42 = 2 ∧ adv b n 42 = 45 ∧ vl b n 42 = 10) ∧ (tk b n 45 = 59 ∧ adv b n 45 = e) ∧ tk b n e = 0
theorem eit_first {e : Nat} (h : fstT b n e) : eitL b n 5 7 = (23, -1, [-1, -2, 3, -9, -10], fun nm => bi2 (-10) (nm 0) (bi2 (-9) (nm 1) 3)) := by
  obtain ⟨-, -, ⟨t7, a7, v7⟩, ⟨t12, a12⟩, ⟨t14, a14, v14⟩, ⟨t19, a19⟩, ⟨t21, a21, v21⟩, ⟨t23, -⟩, -⟩ := h
  refine eit_of (by omega) ?_ t23
  have h7 : termL b n 5 7 = (12, -1, [-1], fun nm => nm 0) := by
    show loopP b n opM (oneL b n 5) 160 (oneL b n 5 7) = _
    rw [one_nam t7, a7, v7, loop0 (by show opM (tk b n 12) = 0; rw [t12]; rfl)]
    rfl
  have h14 : termL b n 5 14 = (23, -1, [-2, 3, -9], fun nm => bi2 (-9) (nm 1) 3) := by
    show loopP b n opM (oneL b n 5) (159 + 1) (oneL b n 5 14) = _
    rw [one_nam t14, a14, v14, loopP_y2 rfl (by show opM (tk b n 19) ≠ 0; rw [t19]; decide)]
    have e1 : lpS b n opM (oneL b n 5) (19, -1, [-1 - 1], fun nm => nm (1 : Int).toNat) = (23, -1, [-2, 3, -9], fun nm => bi2 (-9) (nm 1) 3) := by
      unfold lpS
      show ((oneL b n 5 (adv b n 19)).1, (oneL b n 5 (adv b n 19)).2.1, [-1 - 1] ++ (oneL b n 5 (adv b n 19)).2.2.1 ++ [opM (tk b n 19)], fun nm => bi2 (opM (tk b n 19)) (nm 1) ((oneL b n 5 (adv b n 19)).2.2.2 nm)) = _
      rw [a19, one_num t21, a21, v21, t19]
      rfl
    rw [e1, loop0 (by show opM (tk b n 23) = 0; rw [t23]; rfl)]
  show loopP b n opS (termL b n 5) (159 + 1) (termL b n 5 7) = _
  rw [h7, loopP_y2 rfl (by show opS (tk b n 12) ≠ 0; rw [t12]; decide)]
  have e1 : lpS b n opS (termL b n 5) (12, -1, [-1], fun nm => nm 0) = (23, -1, [-1, -2, 3, -9, -10], fun nm => bi2 (-10) (nm 0) (bi2 (-9) (nm 1) 3)) := by
    unfold lpS
    show ((termL b n 5 (adv b n 12)).1, (termL b n 5 (adv b n 12)).2.1, [-1] ++ (termL b n 5 (adv b n 12)).2.2.1 ++ [opS (tk b n 12)], fun nm => bi2 (opS (tk b n 12)) (nm 0) ((termL b n 5 (adv b n 12)).2.2.2 nm)) = _
    rw [a12, h14, t12]
    rfl
  rw [e1, loop0 (by show opS (tk b n 23) = 0; rw [t23]; rfl)]
theorem part_of {key : Int} {p q : Nat} {r : PT} (hk : tk b n p = key) (ha : adv b n p = q) (he : eitL b n 5 q = r) (h1 : r.2.1 = -1) (h2 : tk b n r.1 = 59) : partP b n key p = (adv b n r.1, -1, r.2.2) := by
  unfold partP
  rw [if_pos hk, ha, he, if_pos h1, if_pos h2]
theorem rd_first {e : Nat} (h : fstT b n e) : rdF b n = -1 ∧ ∀ nm, valT b n 0 nm = bi2 (-10) (nm 0) (bi2 (-9) (nm 1) 3) ∧ valT b n 1 nm = 5 ∧ valT b n 2 nm = 10 := by
  have hE := eit_first h
  obtain ⟨s0, ⟨t0, a0⟩, -, -, -, -, -, ⟨t23, a23⟩, ⟨t25, a25⟩, ⟨t31, a31, v31⟩, ⟨t33, a33⟩, ⟨t35, a35⟩, ⟨t42, a42, v42⟩, ⟨t45, a45⟩, te⟩ := h
  have r0 : (rdk b n 0).1 = 0 := s0
  have p0 := part_of t0 a0 hE rfl t23
  have p1 := part_of t25 a25 (eit_num (m := 5) t31 (by rw [a31]; exact t33)) rfl (by show tk b n (adv b n 31) = 59; rw [a31]; exact t33)
  have p2 := part_of t35 a35 (eit_num (m := 5) t42 (by rw [a42]; exact t45)) rfl (by show tk b n (adv b n 42) = 59; rw [a42]; exact t45)
  have k1 : rdk b n 1 = (25, -1, [-1, -2, 3, -9, -10], fun nm => bi2 (-10) (nm 0) (bi2 (-9) (nm 1) 3)) := by
    have : rdk b n 1 = partP b n 4 (rdk b n 0).1 := stP_y
    rw [this, r0, p0]
    show (adv b n 23, _) = _
    rw [a23]
  have k2 : rdk b n 2 = (35, -1, [5], fun _ => 5) := by
    have : rdk b n 2 = stP (partP b n 5) (rdk b n 1).1 (rdk b n 1).2.1 := rfl
    rw [this, k1, stP_y]
    show partP b n 5 25 = _
    rw [p1]
    show (adv b n (adv b n 31), _) = _
    rw [a31, a33, v31]
  have k3 : rdk b n 3 = (e, -1, [10], fun _ => 10) := by
    have : rdk b n 3 = stP (partP b n 6) (rdk b n 2).1 (rdk b n 2).2.1 := rfl
    rw [this, k2, stP_y]
    show partP b n 6 35 = _
    rw [p2]
    show (adv b n (adv b n 42), _) = _
    rw [a42, a45, v42]
  refine ⟨?_, fun nm => ⟨?_, ?_, ?_⟩⟩
  · rw [rdF_eq, k3, if_pos rfl, if_pos te]
  · unfold valT; rw [k1]
  · unfold valT; rw [k2]
  · unfold valT; rw [k3]
end Ev
/-- the class's own letters -/
def b46 : Nat → Int := fun s => if s < 46 then letS 12 s else 0
theorem fst46 : fstT b46 46 46 := by unfold fstT; decide +kernel
