/-! the reference: an hour, gap by gap -/

def beR (im : IM) (q : Nat) : Int := bearsK (im 34 0 (q / 10)) (im 35 0 (q / 10)) (sayR im (im 30 0 4).toNat 2 (nmA (im 36 0 q) 0 (im 30 0 7) (im 35 0 (q / 10)) ((q % 10 : Nat) : Int) (im 37 0 q))) (chI (im 30 0 8) (im 30 0 7))
theorem hoR_ag {im im' : IM} (h : agY im' im) (q : Nat) : hoR im' q = hoR im q := by
  unfold hoR
  rw [sayR_ag h, h 34 0 _ (by omega), h 35 0 _ (by omega), h 36 0 _ (by omega), h 37 0 _ (by omega), h 30 0 4 (by omega), h 30 0 7 (by omega)]
theorem beR_ag {im im' : IM} (h : agY im' im) (q : Nat) : beR im' q = beR im q := by
  unfold beR
  rw [sayR_ag h, h 34 0 _ (by omega), h 35 0 _ (by omega), h 36 0 _ (by omega), h 37 0 _ (by omega), h 30 0 4 (by omega), h 30 0 7 (by omega), h 30 0 8 (by omega)]
theorem hoR_in {im : IM} {q : Nat} (hk : 0 ≤ im 35 0 (q / 10) ∧ im 35 0 (q / 10) < 10) : 1 ≤ hoR im q ∧ hoR im q ≤ 108 := by
  have h := sayR_in im (im 30 0 4).toNat 1 (nmA (im 36 0 q) 0 (im 30 0 7) (im 35 0 (q / 10)) ((q % 10 : Nat) : Int) (im 37 0 q))
  unfold hoR holdsK heldK
  (repeat' split) <;> omega
theorem beR_in {im : IM} {q : Nat} (hk : 0 ≤ im 35 0 (q / 10) ∧ im 35 0 (q / 10) < 10) : 0 ≤ beR im q ∧ beR im q ≤ 621 := by
  have h := sayR_in im (im 30 0 4).toNat 2 (nmA (im 36 0 q) 0 (im 30 0 7) (im 35 0 (q / 10)) ((q % 10 : Nat) : Int) (im 37 0 q))
  unfold beR bearsK
  (repeat' split) <;> omega
theorem agY.up {a b : IM} (h : agY a b) {k i s : Nat} {x y : Int} (e : x = y) : agY (up a k i s x) (up b k i s y) := by
  intro k' i' s' hn
  rw [up_app, up_app, e]
  split
  · rfl
  · exact h k' i' s' hn
theorem agY.at {a b : IM} (h : agY a b) {k i s : Nat} (hs : ¬ (k = 30 ∧ 15 ≤ s ∧ s ≤ 29)) : a k i s = b k i s := h k i s hs
/-- one gap's hour, t hours from now -/
def lvA (im : IM) (q : Nat) : IM := up im 37 0 q (im 37 0 q + 1)
def lvB (im : IM) (t : Int) (q : Nat) : IM := up (up (up (lvA im q) 39 0 q (beR (lvA im q) q)) 38 0 q t) 30 0 9 (bm (im 30 0 9 + beR (lvA im q) q))
def lvF (im : IM) (t : Int) (q : Nat) : IM := if im 30 0 33 = -1 then up (up (up im 30 0 31 (im 36 0 q)) 30 0 32 ((q / 10 : Nat) : Int)) 30 0 33 t else im
def lvC (im : IM) (t : Int) (q : Nat) : IM := up (up (lvF (lvB im t q) t q) 30 0 30 (bm (im 30 0 30 + 1))) 36 0 q (-1)
def lv1 (im : IM) (t : Int) (q : Nat) : IM := if im 36 0 q = -1 then im else if im 37 0 q + 1 < hoR (lvA im q) q then lvA im q else lvC im t q
def lvN (im : IM) (t : Int) : Nat → IM
  | 0 => im
  | n + 1 => lv1 (lvN im t n) t n
