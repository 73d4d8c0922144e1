/-! the reference: an hour, gap by gap -/

def beR (im : IM) (q : Nat) : Int := bearsK (im 34 0 (q / 10)) (im 35 0 (q / 10)) (sayR im (im 30 0 4).toNat 2 (nmA (im 36 0 q) 0 (im 30 0 7) (im 35 0 (q / 10)) ((q % 10 : Nat) : Int) (im 37 0 q))) (chI (im 30 0 8) (im 30 0 7))
theorem hoR_ag {im im' : IM} (h : agY im' im) (q : Nat) : hoR im' q = hoR im q := by
  unfold hoR
  rw [sayR_ag h, h 34 0 _ (by omega), h 35 0 _ (by omega), h 36 0 _ (by omega), h 37 0 _ (by omega), h 30 0 4 (by omega), h 30 0 7 (by omega)]
theorem beR_ag {im im' : IM} (h : agY im' im) (q : Nat) : beR im' q = beR im q := by
  unfold beR
  rw [sayR_ag h, h 34 0 _ (by omega), h 35 0 _ (by omega), h 36 0 _ (by omega), h 37 0 _ (by omega), h 30 0 4 (by omega), h 30 0 7 (by omega), h 30 0 8 (by omega)]
theorem hoR_in {im : IM} {q : Nat} (hk : 0 ≤ im 35 0 (q / 10) ∧ im 35 0 (q / 10) < 10) : 1 ≤ hoR im q ∧ hoR im q ≤ 108 := by
  have h := sayR_in im (im 30 0 4).toNat 1 (nmA (im 36 0 q) 0 (im 30 0 7) (im 35 0 (q / 10)) ((q % 10 : Nat) : Int) (im 37 0 q))
  unfold hoR holdsK heldK
  (repeat' split) <;> omega
theorem beR_in {im : IM} {q : Nat} (hk : 0 ≤ im 35 0 (q / 10) ∧ im 35 0 (q / 10) < 10) : 0 ≤ beR im q ∧ beR im q ≤ 621 := by
  have h := sayR_in im (im 30 0 4).toNat 2 (nmA (im 36 0 q) 0 (im 30 0 7) (im 35 0 (q / 10)) ((q % 10 : Nat) : Int) (im 37 0 q))
  unfold beR bearsK
  (repeat' split) <;> omega
/-- one gap's hour, t hours from now -/
def lv1 (im : IM) (t : Int) (q : Nat) : IM :=
  if im 36 0 q = -1 then im
  else if im 37 0 q + 1 < hoR (up im 37 0 q (im 37 0 q + 1)) q then up im 37 0 q (im 37 0 q + 1)
  else up (up (up (up (up (up (up (up (up im 37 0 q (im 37 0 q + 1)) 39 0 q (beR (up im 37 0 q (im 37 0 q + 1)) q)) 38 0 q t) 30 0 9 (im 30 0 9 + beR (up im 37 0 q (im 37 0 q + 1)) q)) 30 0 31 (if im 30 0 33 = -1 then im 36 0 q else im 30 0 31)) 30 0 32 (if im 30 0 33 = -1 then ((q / 10 : Nat) : Int) else im 30 0 32)) 30 0 33 (if im 30 0 33 = -1 then t else im 30 0 33)) 30 0 30 (im 30 0 30 + 1)) 36 0 q (-1)
def lvN (im : IM) (t : Int) : Nat → IM
  | 0 => im
  | n + 1 => lv1 (lvN im t n) t n
