/-! dearest, fewest, lookAtChurch -/
def dB (f : Nat → Int) : Nat → Int × Int
  | 0 => (-1, 0)
  | n + 1 => if (dB f n).2 < f n then ((n : Int), f n) else dB f n
theorem dB_s (f : Nat → Int) (n : Nat) : dB f (n + 1) = if (dB f n).2 < f n then ((n : Int), f n) else dB f n := rfl
theorem dB_ri {f : Nat → Int} (h : ∀ s, ri (f s)) (n : Nat) : ri (dB f n).2 := by
  induction n with
  | zero => exact ⟨by show -2147483648 ≤ (0 : Int); omega, by show (0 : Int) < 2147483648; omega⟩
  | succ n ih =>
    rw [dB_s]
    split
    · exact h n
    · exact ih
theorem dB_in (f : Nat → Int) (n : Nat) : (dB f n).1 = -1 ∨ 0 ≤ (dB f n).1 ∧ (dB f n).1 < n := by
  induction n with
  | zero => exact Or.inl rfl
  | succ n ih =>
    rw [dB_s]
    split
    · right; show 0 ≤ (n : Int) ∧ (n : Int) < ((n + 1 : Nat) : Int); omega
    · omega

set_option maxHeartbeats 4000000 in
theorem c_X1_dearest (l : Launch) (G : GS) (im : IM) (bt rt : Nat) (lm : IM) (hR : RI im) : Cn l (XC G) yX1_dearest Y_X1_dearest [vR 9 0] (im, rs bt rt, lm) (pI fun x m' => x = (dB (im 11 0) 50).1 ∧ m' = (im, rs bt rt, lm)) := by
  refine cn_of (by decide) (okC G) rfl (Nat.le_of_ble_eq_true rfl) ?_
  intro M ad hMl F
  subst hMl
  refine wp_pad 3 ?_
  show Wp M (XC G) ad Y_X1_dearest (pI fun x m' => x = (dB (im 11 0) 50).1 ∧ m' = (im, rs bt rt, lm)) 0 [some (vR 9 0), none, none, none] [] (im, rs bt rt, lm)
  refine q_iconst (t := 1) F dX1_dearest_0 rfl ?_
  refine q_istore_n (t := 2) F dX1_dearest_1 rfl (by decide) rfl rfl ?_
  refine q_iconst (t := 3) F dX1_dearest_2 rfl ?_
  refine q_istore_n (t := 4) F dX1_dearest_3 rfl (by decide) rfl rfl ?_
  refine q_iconst (t := 5) F dX1_dearest_4 rfl ?_
  refine q_istore_n (t := 6) F dX1_dearest_5 rfl (by decide) rfl rfl ?_
  have L6 : ∀ (fz : Nat) (n : Nat), 50 - n < fz → n ≤ 50 → Wp M (XC G) ad Y_X1_dearest (pI fun x m' => x = (dB (im 11 0) 50).1 ∧ m' = (im, rs bt rt, lm)) 6 [some (vR 9 0), some (vI (dB (im 11 0) n).1), some (vI (dB (im 11 0) n).2), some (vI (n : Int))] [] (im, rs bt rt, lm) := by
    intro fz
    induction fz with
    | zero => intro n h; exact absurd h (Nat.not_lt_zero _)
    | succ fz ih =>
      have ih6 := ih
      intro n hmeas hn
      have hd := dB_ri (hR 11 0) n
      refine q_iload_n (t := 7) F dX1_dearest_6 rfl rfl rfl ?_
      refine q_bipush (t := 9) F dX1_dearest_7 (by decide) rfl ?_
      refine q_icmp_ge (t := 12) (u := 37) F dX1_dearest_9 (by first | exact hR _ _ _ | (constructor <;> omega)) (by first | exact hR _ _ _ | (constructor <;> omega)) (by decide) rfl (fun c9 => ?_) (fun c9 => ?_)
      · refine q_iload_n (t := 38) F dX1_dearest_37 rfl rfl rfl ?_
        refine q_iret F dX1_dearest_38 rfl ?_
        exact ⟨_, rfl, by rw [show n = 50 by omega], rfl⟩
      · refine q_aload_n (t := 13) F dX1_dearest_12 rfl rfl rfl ?_
        refine g_X1_15 (t := 16) F dX1_dearest_13 rfl rfl ?_
        refine q_iload_n (t := 17) F dX1_dearest_16 rfl rfl rfl ?_
        first | refine ldN_11 (t := 18) F dX1_dearest_17 (by omega) rfl ?_ | refine ld_11 (t := 18) F dX1_dearest_17 (by omega) (by omega) rfl ?_
        refine q_iload_n (t := 19) F dX1_dearest_18 rfl rfl rfl ?_
        refine q_icmp_le (t := 22) (u := 31) F dX1_dearest_19 (by exact hR _ _ _) (by exact hd) (by decide) rfl (fun c19 => ?_) (fun c19 => ?_)
        · refine q_iinc (t := 34) F dX1_dearest_31 rfl (by decide) rfl rfl ?_
          refine q_goto (t := 6) F dX1_dearest_34 (by decide) ?_
          first
            | (have e : dB (im 11 0) (n + 1) = ((n : Int), im 11 0 n) := by rw [dB_s, if_pos c19]
               have h := ih6 (n + 1) (by omega) (by omega)
               rw [e] at h
               exact h)
            | (have e : dB (im 11 0) (n + 1) = dB (im 11 0) n := by rw [dB_s, if_neg (by omega)]
               have h := ih6 (n + 1) (by omega) (by omega)
               rw [e] at h
               exact h)
        · refine q_aload_n (t := 23) F dX1_dearest_22 rfl rfl rfl ?_
          refine g_X1_15 (t := 26) F dX1_dearest_23 rfl rfl ?_
          refine q_iload_n (t := 27) F dX1_dearest_26 rfl rfl rfl ?_
          first | refine ldN_11 (t := 28) F dX1_dearest_27 (by omega) rfl ?_ | refine ld_11 (t := 28) F dX1_dearest_27 (by omega) (by omega) rfl ?_
          refine q_istore_n (t := 29) F dX1_dearest_28 rfl (by decide) rfl rfl ?_
          refine q_iload_n (t := 30) F dX1_dearest_29 rfl rfl rfl ?_
          refine q_istore_n (t := 31) F dX1_dearest_30 rfl (by decide) rfl rfl ?_
          refine q_iinc (t := 34) F dX1_dearest_31 rfl (by decide) rfl rfl ?_
          refine q_goto (t := 6) F dX1_dearest_34 (by decide) ?_
          first
            | (have e : dB (im 11 0) (n + 1) = ((n : Int), im 11 0 n) := by rw [dB_s, if_pos c19]
               have h := ih6 (n + 1) (by omega) (by omega)
               rw [e] at h
               exact h)
            | (have e : dB (im 11 0) (n + 1) = dB (im 11 0) n := by rw [dB_s, if_neg (by omega)]
               have h := ih6 (n + 1) (by omega) (by omega)
               rw [e] at h
               exact h)
  exact L6 _ 0 (Nat.lt_succ_self _) (by omega)

/-- the sum over a number's bits -/
def svF (c : Nat → Int) (b : Nat) : Nat → Int
  | 0 => 0
  | n + 1 => svF c b n + (if b.testBit n = true then c n else 0)
theorem svF_0 (c : Nat → Int) (n : Nat) : svF c 0 n = 0 := by
  induction n with
  | zero => rfl
  | succ n ih =>
    show svF c 0 n + _ = _
    rw [ih, Nat.zero_testBit]
    rfl
theorem svF_lo {c : Nat → Int} {g b : Nat} (n : Nat) (h : n ≤ g) : svF c (2 ^ g + b) n = svF c b n := by
  induction n with
  | zero => rfl
  | succ n ih =>
    show svF c (2 ^ g + b) n + _ = svF c b n + _
    rw [ih (by omega), Nat.testBit_two_pow_add_gt (by omega)]
theorem svF_hi {c : Nat → Int} {g b : Nat} (hb : b < 2 ^ g) (n : Nat) : svF c b (g + n) = svF c b g := by
  induction n with
  | zero => rfl
  | succ n ih =>
    show svF c b (g + n) + _ = _
    rw [ih, Nat.testBit_lt_two_pow (Nat.lt_of_lt_of_le hb (Nat.pow_le_pow_right (by omega) (show g ≤ g.add n from Nat.le_add_right g n)))]
    simp
theorem svF_s {c : Nat → Int} {g b : Nat} (hb : b < 2 ^ g) (hg : g < 10) : svF c (2 ^ g + b) 10 = svF c b 10 + c g := by
  have h1 : svF c (2 ^ g + b) 10 = svF c (2 ^ g + b) (g + 1) := by
    have := svF_hi (c := c) (g := g + 1) (b := 2 ^ g + b) (by rw [Nat.pow_succ]; omega) (10 - (g + 1))
    rw [show g + 1 + (10 - (g + 1)) = 10 by omega] at this
    exact this
  have h2 : svF c b 10 = svF c b g := by
    have := svF_hi (c := c) hb (10 - g)
    rw [show g + (10 - g) = 10 by omega] at this
    exact this
  rw [h1, h2]
  show svF c (2 ^ g + b) g + _ = _
  rw [svF_lo g (Nat.le_refl g), Nat.testBit_two_pow_add_eq, Nat.testBit_lt_two_pow hb]
  simp
theorem svF_in {c : Nat → Int} (hc : ∀ n, n < 10 → 0 ≤ c n ∧ c n ≤ 700) (b n : Nat) (hn : n ≤ 10) : 0 ≤ svF c b n ∧ svF c b n ≤ 700 * n := by
  induction n with
  | zero => exact ⟨Int.le_refl 0, Int.le_refl 0⟩
  | succ n ih =>
    have h : svF c b (n + 1) = svF c b n + (if b.testBit n = true then c n else 0) := rfl
    have h1 := ih (by omega)
    have h2 := hc n (by omega)
    rw [h]
    split <;> omega
/-- how many bits -/
def pop (b : Nat) : Int := svF (fun _ => 1) b 10
theorem pop_in (b : Nat) : 0 ≤ pop b ∧ pop b ≤ 7000 := svF_in (fun n _ => by constructor <;> omega) b 10 (Nat.le_refl _)
def bcF (x : Nat) : Nat :=
  let a := x - (x / 2 &&& 1431655765)
  let b := (a &&& 858993459) + (a / 4 &&& 858993459)
  let c := (b + b / 16) &&& 252645135
  let d := c + c / 256
  (d + d / 65536) &&& 63
theorem bcF_pop : ∀ x, x < 1024 → ((bcF x : Nat) : Int) = pop x := by decide +kernel
theorem or_pow {g b : Nat} (hb : b < 2 ^ g) : b ||| 2 ^ g = 2 ^ g + b := by
  rw [Nat.or_comm]
  have := Nat.two_pow_add_eq_or_of_lt hb 1
  rw [Nat.mul_one] at this
  exact this.symm

set_option maxHeartbeats 4000000 in
theorem c_J6_bitCount_0f7a4 (l : Launch) (G : GS) (im : IM) (bt rt : Nat) (lm : IM) (x : Nat) (hx : x < 1024) : Cn l (XC G) yJ6_bitCount_0f7a4 Y_J6_bitCount_0f7a4 [vI (x : Int)] (im, rs bt rt, lm) (pI fun y m' => y = pop x ∧ m' = (im, rs bt rt, lm)) := by
  refine cn_of (by decide) (okC G) rfl (Nat.le_of_ble_eq_true rfl) ?_
  intro M ad hMl F
  subst hMl
  have h1 := Nat.and_le_left (n := x / 2) (m := 1431655765)
  obtain ⟨a, ha⟩ : ∃ a, a = x - (x / 2 &&& 1431655765) := ⟨_, rfl⟩
  have h2 := Nat.and_le_left (n := a) (m := 858993459)
  have h3 := Nat.and_le_left (n := a / 4) (m := 858993459)
  obtain ⟨b, hb⟩ : ∃ b, b = (a &&& 858993459) + (a / 4 &&& 858993459) := ⟨_, rfl⟩
  obtain ⟨c, hc⟩ : ∃ c, c = (b + b / 16) &&& 252645135 := ⟨_, rfl⟩
  have h4 := Nat.and_le_left (n := b + b / 16) (m := 252645135)
  obtain ⟨d, hd⟩ : ∃ d, d = c + c / 256 := ⟨_, rfl⟩
  refine wp_pad 0 ?_
  show Wp M (XC G) ad Y_J6_bitCount_0f7a4 (pI fun y m' => y = pop x ∧ m' = (im, rs bt rt, lm)) 0 [some (vI (x : Int))] [] (im, rs bt rt, lm)
  refine q_iload_n (t := 1) F dJ6_bitCount_0f7a4_0 rfl rfl rfl ?_
  refine q_iload_n (t := 2) F dJ6_bitCount_0f7a4_1 rfl rfl rfl ?_
  refine q_iconst (t := 3) F dJ6_bitCount_0f7a4_2 rfl ?_
  refine q_iushr (t := 4) F dJ6_bitCount_0f7a4_3 (by omega) (by omega) rfl ?_
  rw [show (x : Int) % 4294967296 / 2 ^ (1 : Int).toNat = ((x / 2 : Nat) : Int) by (rw [show (2 : Int) ^ (1 : Int).toNat = 2 by decide]; omega)]
  refine q_ldcw (t := 7) (x := 1431655765) F dJ6_bitCount_0f7a4_4 ki_J6_265 (by decide) rfl ?_
  refine q_iand (t := 8) (x := x / 2) (y := 1431655765) F dJ6_bitCount_0f7a4_7 rfl ?_
  refine q_isub (t := 9) F dJ6_bitCount_0f7a4_8 rfl ?_
  rw [show (x : Int) - ((x / 2 &&& 1431655765 : Nat) : Int) = (a : Int) by omega]
  refine q_istore_n (t := 10) F dJ6_bitCount_0f7a4_9 rfl (by decide) rfl rfl ?_
  refine q_iload_n (t := 11) F dJ6_bitCount_0f7a4_10 rfl rfl rfl ?_
  refine q_ldcw (t := 14) (x := 858993459) F dJ6_bitCount_0f7a4_11 ki_J6_266 (by decide) rfl ?_
  refine q_iand (t := 15) (x := a) (y := 858993459) F dJ6_bitCount_0f7a4_14 rfl ?_
  refine q_iload_n (t := 16) F dJ6_bitCount_0f7a4_15 rfl rfl rfl ?_
  refine q_iconst (t := 17) F dJ6_bitCount_0f7a4_16 rfl ?_
  refine q_iushr (t := 18) F dJ6_bitCount_0f7a4_17 (by omega) (by omega) rfl ?_
  rw [show (a : Int) % 4294967296 / 2 ^ (2 : Int).toNat = ((a / 4 : Nat) : Int) by (rw [show (2 : Int) ^ (2 : Int).toNat = 4 by decide]; omega)]
  refine q_ldcw (t := 21) (x := 858993459) F dJ6_bitCount_0f7a4_18 ki_J6_266 (by decide) rfl ?_
  refine q_iand (t := 22) (x := a / 4) (y := 858993459) F dJ6_bitCount_0f7a4_21 rfl ?_
  refine q_iadd (t := 23) F dJ6_bitCount_0f7a4_22 rfl ?_
  rw [show ((a &&& 858993459 : Nat) : Int) + ((a / 4 &&& 858993459 : Nat) : Int) = (b : Int) by omega]
  refine q_istore_n (t := 24) F dJ6_bitCount_0f7a4_23 rfl (by decide) rfl rfl ?_
  refine q_iload_n (t := 25) F dJ6_bitCount_0f7a4_24 rfl rfl rfl ?_
  refine q_iload_n (t := 26) F dJ6_bitCount_0f7a4_25 rfl rfl rfl ?_
  refine q_iconst (t := 27) F dJ6_bitCount_0f7a4_26 rfl ?_
  refine q_iushr (t := 28) F dJ6_bitCount_0f7a4_27 (by omega) (by omega) rfl ?_
  rw [show (b : Int) % 4294967296 / 2 ^ (4 : Int).toNat = ((b / 16 : Nat) : Int) by (rw [show (2 : Int) ^ (4 : Int).toNat = 16 by decide]; omega)]
  refine q_iadd (t := 29) F dJ6_bitCount_0f7a4_28 rfl ?_
  rw [show (b : Int) + ((b / 16 : Nat) : Int) = ((b + b / 16 : Nat) : Int) by omega]
  refine q_ldcw (t := 32) (x := 252645135) F dJ6_bitCount_0f7a4_29 ki_J6_267 (by decide) rfl ?_
  refine q_iand (t := 33) (x := b + b / 16) (y := 252645135) F dJ6_bitCount_0f7a4_32 rfl ?_
  rw [← hc]
  refine q_istore_n (t := 34) F dJ6_bitCount_0f7a4_33 rfl (by decide) rfl rfl ?_
  refine q_iload_n (t := 35) F dJ6_bitCount_0f7a4_34 rfl rfl rfl ?_
  refine q_iload_n (t := 36) F dJ6_bitCount_0f7a4_35 rfl rfl rfl ?_
  refine q_bipush (t := 38) F dJ6_bitCount_0f7a4_36 (by decide) rfl ?_
  refine q_iushr (t := 39) F dJ6_bitCount_0f7a4_38 (by omega) (by omega) rfl ?_
  rw [show (c : Int) % 4294967296 / 2 ^ (8 : Int).toNat = ((c / 256 : Nat) : Int) by (rw [show (2 : Int) ^ (8 : Int).toNat = 256 by decide]; omega)]
  refine q_iadd (t := 40) F dJ6_bitCount_0f7a4_39 rfl ?_
  rw [show (c : Int) + ((c / 256 : Nat) : Int) = (d : Int) by omega]
  refine q_istore_n (t := 41) F dJ6_bitCount_0f7a4_40 rfl (by decide) rfl rfl ?_
  refine q_iload_n (t := 42) F dJ6_bitCount_0f7a4_41 rfl rfl rfl ?_
  refine q_iload_n (t := 43) F dJ6_bitCount_0f7a4_42 rfl rfl rfl ?_
  refine q_bipush (t := 45) F dJ6_bitCount_0f7a4_43 (by decide) rfl ?_
  refine q_iushr (t := 46) F dJ6_bitCount_0f7a4_45 (by omega) (by omega) rfl ?_
  rw [show (d : Int) % 4294967296 / 2 ^ (16 : Int).toNat = ((d / 65536 : Nat) : Int) by (rw [show (2 : Int) ^ (16 : Int).toNat = 65536 by decide]; omega)]
  refine q_iadd (t := 47) F dJ6_bitCount_0f7a4_46 rfl ?_
  rw [show (d : Int) + ((d / 65536 : Nat) : Int) = ((d + d / 65536 : Nat) : Int) by omega]
  refine q_istore_n (t := 48) F dJ6_bitCount_0f7a4_47 rfl (by decide) rfl rfl ?_
  refine q_iload_n (t := 49) F dJ6_bitCount_0f7a4_48 rfl rfl rfl ?_
  refine q_bipush (t := 51) F dJ6_bitCount_0f7a4_49 (by decide) rfl ?_
  refine q_iand (t := 52) (x := d + d / 65536) (y := 63) F dJ6_bitCount_0f7a4_51 rfl ?_
  refine q_iret F dJ6_bitCount_0f7a4_52 rfl ?_
  refine ⟨_, rfl, ?_, rfl⟩
  rw [← bcF_pop x hx]
  show _ = ((bcF x : Nat) : Int)
  unfold bcF
  simp only []
  rw [← ha, ← hb, ← hc, ← hd]

/-- the fewest bits so far -/
def fwB (S : Int) (c : Nat → Int) (e : Int) : Nat → Int
  | 0 => -1
  | b + 1 => if e < S - svF c b 10 then fwB S c e b else if fwB S c e b = -1 ∨ pop b < pop (fwB S c e b).toNat then (b : Int) else fwB S c e b
theorem fwB_s (S : Int) (c : Nat → Int) (e : Int) (b : Nat) : fwB S c e (b + 1) = if e < S - svF c b 10 then fwB S c e b else if fwB S c e b = -1 ∨ pop b < pop (fwB S c e b).toNat then (b : Int) else fwB S c e b := rfl
theorem fwB_in (S : Int) (c : Nat → Int) (e : Int) (b : Nat) : fwB S c e b = -1 ∨ 0 ≤ fwB S c e b ∧ fwB S c e b < b := by
  induction b with
  | zero => exact Or.inl rfl
  | succ b ih =>
    rw [fwB_s]
    repeat' split
    all_goals omega

set_option maxHeartbeats 4000000 in
theorem c_X1_fewest (l : Launch) (G : GS) (im : IM) (bt rt : Nat) (lm : IM) (hR : RI im) (man : Nat) (hm : man < 5) (e : Int) (hc : ∀ g, g < 10 → 0 ≤ im 11 0 (10 * man + g) ∧ im 11 0 (10 * man + g) ≤ 700) (hs0 : 0 ≤ im 9 0 4) (hs1 : im 9 0 4 ≤ 100000) (e0 : 0 ≤ e) (e1 : e ≤ 9999) (hz : im 13 0 0 = 0) : Cn l (XC G) yX1_fewest Y_X1_fewest [vR 9 0, vI (man : Int), vI e] (im, rs bt rt, lm) (pI fun x m' => x = fwB (im 9 0 4) (fun g => im 11 0 (10 * man + g)) e 1024 ∧ ∃ im', RI im' ∧ im' 13 0 0 = 0 ∧ ag [13] im' im ∧ m' = (im', rs bt rt, lm)) := by
  refine cn_of (by decide) (okC G) rfl (Nat.le_of_ble_eq_true rfl) ?_
  intro M ad hMl F
  subst hMl
  have hsv := fun b => svF_in (c := (fun g => im 11 0 (10 * man + g))) hc b 10 (Nat.le_refl 10)
  refine wp_pad 2 ?_
  show Wp M (XC G) ad Y_X1_fewest (pI fun x m' => x = fwB (im 9 0 4) (fun g => im 11 0 (10 * man + g)) e 1024 ∧ ∃ im', RI im' ∧ im' 13 0 0 = 0 ∧ ag [13] im' im ∧ m' = (im', rs bt rt, lm)) 0 [some (vR 9 0), some (vI (man : Int)), some (vI e), none, none] [] (im, rs bt rt, lm)
  refine q_iconst (t := 1) F dX1_fewest_0 rfl ?_
  refine q_istore_n (t := 2) F dX1_fewest_1 rfl (by decide) rfl rfl ?_
  have L2 : ∀ (fz : Nat) (g : Nat) (im2 : IM), 10 - g < fz → g ≤ 10 → RI im2 → ag [13] im2 im → (∀ b, b < 2 ^ g → im2 13 0 b = svF (fun g => im 11 0 (10 * man + g)) b 10) → Wp M (XC G) ad Y_X1_fewest (pI fun x m' => x = fwB (im 9 0 4) (fun g => im 11 0 (10 * man + g)) e 1024 ∧ ∃ im', RI im' ∧ im' 13 0 0 = 0 ∧ ag [13] im' im ∧ m' = (im', rs bt rt, lm)) 2 [some (vR 9 0), some (vI (man : Int)), some (vI e), some (vI (g : Int)), none] [] (im2, rs bt rt, lm) := by
    intro fz
    induction fz with
    | zero => intro g im2 h; exact absurd h (Nat.not_lt_zero _)
    | succ fz ih =>
      have ih2 := ih
      intro g im2 hmeas hg hR2 hag hsb
      have hp : 2 ^ g ≤ 1024 := by
        have h9 := Nat.pow_le_pow_right (n := 2) (by omega) hg
        exact h9
      have hpi : (1 : Int) * 2 ^ (g : Int).toNat = ((2 ^ g : Nat) : Int) := by
        rw [Int.toNat_natCast, Int.one_mul]
        exact (Int.natCast_pow 2 g).symm
      refine q_iload_n (t := 3) F dX1_fewest_2 rfl rfl rfl ?_
      refine q_bipush (t := 5) F dX1_fewest_3 (by decide) rfl ?_
      refine q_icmp_ge (t := 8) (u := 61) F dX1_fewest_5 (by first | exact hR _ _ _ | (constructor <;> omega)) (by first | exact hR _ _ _ | (constructor <;> omega)) (by decide) rfl (fun c5 => ?_) (fun c5 => ?_)
      · obtain rfl : g = 10 := by omega
        refine q_iconst (t := 62) F dX1_fewest_61 rfl ?_
        refine q_istore_n (t := 63) F dX1_fewest_62 rfl (by decide) rfl rfl ?_
        refine q_iconst (t := 64) F dX1_fewest_63 rfl ?_
        refine q_istore (t := 66) F dX1_fewest_64 (by decide) rfl rfl ?_
        have L66 : ∀ (fz : Nat) (b : Nat), 1024 - b < fz → b ≤ 1024 → Wp M (XC G) ad Y_X1_fewest (pI fun x m' => x = fwB (im 9 0 4) (fun g => im 11 0 (10 * man + g)) e 1024 ∧ ∃ im', RI im' ∧ im' 13 0 0 = 0 ∧ ag [13] im' im ∧ m' = (im', rs bt rt, lm)) 66 [some (vR 9 0), some (vI (man : Int)), some (vI e), some (vI (fwB (im 9 0 4) (fun g => im 11 0 (10 * man + g)) e b)), some (vI (b : Int))] [] (im2, rs bt rt, lm) := by
          intro fz
          induction fz with
          | zero => intro b h; exact absurd h (Nat.not_lt_zero _)
          | succ fz ih =>
            have ih66 := ih
            intro b hmeas hb
            have hfi := fwB_in (im 9 0 4) (fun g => im 11 0 (10 * man + g)) e b
            have hsv2 := hsv b
            have e94 : im2 9 0 4 = im 9 0 4 := hag 9 (by decide) 0 4
            refine q_iload (t := 68) F dX1_fewest_66 rfl rfl ?_
            refine q_sipush (t := 71) F dX1_fewest_68 (by decide) rfl ?_
            refine q_icmp_ge (t := 74) (u := 119) F dX1_fewest_71 (by first | exact hR _ _ _ | (constructor <;> omega)) (by first | exact hR _ _ _ | (constructor <;> omega)) (by decide) rfl (fun c71 => ?_) (fun c71 => ?_)
            · refine q_iload_n (t := 120) F dX1_fewest_119 rfl rfl rfl ?_
              refine q_iret F dX1_fewest_120 rfl ?_
              exact ⟨_, rfl, by rw [show b = 1024 by omega], im2, hR2, by rw [hsb 0 (by omega), svF_0], hag, rfl⟩
            · refine q_aload_n (t := 75) F dX1_fewest_74 rfl rfl rfl ?_
              refine g_X1_24 (t := 78) F dX1_fewest_75 rfl rfl ?_
              refine q_aload_n (t := 79) F dX1_fewest_78 rfl rfl rfl ?_
              refine g_X1_21 (t := 82) F dX1_fewest_79 rfl rfl ?_
              refine q_iload (t := 84) F dX1_fewest_82 rfl rfl ?_
              first | refine ldN_13 (t := 85) F dX1_fewest_84 (by omega) rfl ?_ | refine ld_13 (t := 85) F dX1_fewest_84 (by omega) (by omega) rfl ?_
              rw [e94, hsb b (by omega)]
              refine q_isub (t := 86) F dX1_fewest_85 rfl ?_
              refine q_iload_n (t := 87) F dX1_fewest_86 rfl rfl rfl ?_
              refine q_icmp_le (t := 90) (u := 93) F dX1_fewest_87 (by first | exact hR _ _ _ | (constructor <;> omega)) (by first | exact hR _ _ _ | (constructor <;> omega)) (by decide) rfl (fun c87 => ?_) (fun c87 => ?_)
              · refine q_iload_n (t := 94) F dX1_fewest_93 rfl rfl rfl ?_
                refine q_iconst (t := 95) F dX1_fewest_94 rfl ?_
                refine q_icmp_eq (t := 98) (u := 110) F dX1_fewest_95 (by first | exact hR _ _ _ | (constructor <;> omega)) (by first | exact hR _ _ _ | (constructor <;> omega)) (by decide) rfl (fun c95 => ?_) (fun c95 => ?_)
                · refine q_iload (t := 112) F dX1_fewest_110 rfl rfl ?_
                  refine q_istore_n (t := 113) F dX1_fewest_112 rfl (by decide) rfl rfl ?_
                  refine q_iinc (t := 116) F dX1_fewest_113 rfl (by decide) rfl rfl ?_
                  refine q_goto (t := 66) F dX1_fewest_116 (by decide) ?_
                  first
                    | (have e9 : fwB (im 9 0 4) (fun g => im 11 0 (10 * man + g)) e (b + 1) = fwB (im 9 0 4) (fun g => im 11 0 (10 * man + g)) e b := by rw [fwB_s, if_pos (by omega)]
                       rw [← e9]
                       exact ih66 (b + 1) (by omega) (by omega))
                    | (have e9 : fwB (im 9 0 4) (fun g => im 11 0 (10 * man + g)) e (b + 1) = b := by rw [fwB_s, if_neg (by omega), if_pos (by omega)]
                       have h := ih66 (b + 1) (by omega) (by omega)
                       rw [e9] at h
                       exact h)
                    | (have e9 : fwB (im 9 0 4) (fun g => im 11 0 (10 * man + g)) e (b + 1) = fwB (im 9 0 4) (fun g => im 11 0 (10 * man + g)) e b := by rw [fwB_s, if_neg (by omega), if_neg (by omega)]
                       rw [← e9]
                       exact ih66 (b + 1) (by omega) (by omega))
                · refine q_iload (t := 100) F dX1_fewest_98 rfl rfl ?_
                  refine wp_callS (t := 103) [_] F dX1_fewest_100 k_J6_bitCount_0f7a4 st_J6_bitCount_0f7a4 ml_X1_64 rfl rfl (Nat.le_of_ble_eq_true rfl) (by decide) (c_J6_bitCount_0f7a4 _ G im2 bt rt lm b (by omega)) rfl (kI ?_)
                  rintro y m' ⟨rfl, rfl⟩
                  refine q_iload_n (t := 104) F dX1_fewest_103 rfl rfl rfl ?_
                  rw [show fwB (im 9 0 4) (fun g => im 11 0 (10 * man + g)) e b = (((fwB (im 9 0 4) (fun g => im 11 0 (10 * man + g)) e b).toNat : Nat) : Int) by omega]
                  refine wp_callS (t := 107) [_] F dX1_fewest_104 k_J6_bitCount_0f7a4 st_J6_bitCount_0f7a4 ml_X1_64 rfl rfl (Nat.le_of_ble_eq_true rfl) (by decide) (c_J6_bitCount_0f7a4 _ G im2 bt rt lm (fwB (im 9 0 4) (fun g => im 11 0 (10 * man + g)) e b).toNat (by omega)) rfl (kI ?_)
                  rintro y m' ⟨rfl, rfl⟩
                  rw [show (((fwB (im 9 0 4) (fun g => im 11 0 (10 * man + g)) e b).toNat : Nat) : Int) = fwB (im 9 0 4) (fun g => im 11 0 (10 * man + g)) e b by omega]
                  have hp1 := pop_in b
                  have hp2 := pop_in (fwB (im 9 0 4) (fun g => im 11 0 (10 * man + g)) e b).toNat
                  refine q_icmp_ge (t := 110) (u := 113) F dX1_fewest_107 (by first | exact hR _ _ _ | (constructor <;> omega)) (by first | exact hR _ _ _ | (constructor <;> omega)) (by decide) rfl (fun c107 => ?_) (fun c107 => ?_)
                  · refine q_iinc (t := 116) F dX1_fewest_113 rfl (by decide) rfl rfl ?_
                    refine q_goto (t := 66) F dX1_fewest_116 (by decide) ?_
                    first
                      | (have e9 : fwB (im 9 0 4) (fun g => im 11 0 (10 * man + g)) e (b + 1) = fwB (im 9 0 4) (fun g => im 11 0 (10 * man + g)) e b := by rw [fwB_s, if_pos (by omega)]
                         rw [← e9]
                         exact ih66 (b + 1) (by omega) (by omega))
                      | (have e9 : fwB (im 9 0 4) (fun g => im 11 0 (10 * man + g)) e (b + 1) = b := by rw [fwB_s, if_neg (by omega), if_pos (by omega)]
                         have h := ih66 (b + 1) (by omega) (by omega)
                         rw [e9] at h
                         exact h)
                      | (have e9 : fwB (im 9 0 4) (fun g => im 11 0 (10 * man + g)) e (b + 1) = fwB (im 9 0 4) (fun g => im 11 0 (10 * man + g)) e b := by rw [fwB_s, if_neg (by omega), if_neg (by omega)]
                         rw [← e9]
                         exact ih66 (b + 1) (by omega) (by omega))
                  · refine q_iload (t := 112) F dX1_fewest_110 rfl rfl ?_
                    refine q_istore_n (t := 113) F dX1_fewest_112 rfl (by decide) rfl rfl ?_
                    refine q_iinc (t := 116) F dX1_fewest_113 rfl (by decide) rfl rfl ?_
                    refine q_goto (t := 66) F dX1_fewest_116 (by decide) ?_
                    first
                      | (have e9 : fwB (im 9 0 4) (fun g => im 11 0 (10 * man + g)) e (b + 1) = fwB (im 9 0 4) (fun g => im 11 0 (10 * man + g)) e b := by rw [fwB_s, if_pos (by omega)]
                         rw [← e9]
                         exact ih66 (b + 1) (by omega) (by omega))
                      | (have e9 : fwB (im 9 0 4) (fun g => im 11 0 (10 * man + g)) e (b + 1) = b := by rw [fwB_s, if_neg (by omega), if_pos (by omega)]
                         have h := ih66 (b + 1) (by omega) (by omega)
                         rw [e9] at h
                         exact h)
                      | (have e9 : fwB (im 9 0 4) (fun g => im 11 0 (10 * man + g)) e (b + 1) = fwB (im 9 0 4) (fun g => im 11 0 (10 * man + g)) e b := by rw [fwB_s, if_neg (by omega), if_neg (by omega)]
                         rw [← e9]
                         exact ih66 (b + 1) (by omega) (by omega))
              · refine q_goto (t := 113) F dX1_fewest_90 (by decide) ?_
                refine q_iinc (t := 116) F dX1_fewest_113 rfl (by decide) rfl rfl ?_
                refine q_goto (t := 66) F dX1_fewest_116 (by decide) ?_
                first
                  | (have e9 : fwB (im 9 0 4) (fun g => im 11 0 (10 * man + g)) e (b + 1) = fwB (im 9 0 4) (fun g => im 11 0 (10 * man + g)) e b := by rw [fwB_s, if_pos (by omega)]
                     rw [← e9]
                     exact ih66 (b + 1) (by omega) (by omega))
                  | (have e9 : fwB (im 9 0 4) (fun g => im 11 0 (10 * man + g)) e (b + 1) = b := by rw [fwB_s, if_neg (by omega), if_pos (by omega)]
                     have h := ih66 (b + 1) (by omega) (by omega)
                     rw [e9] at h
                     exact h)
                  | (have e9 : fwB (im 9 0 4) (fun g => im 11 0 (10 * man + g)) e (b + 1) = fwB (im 9 0 4) (fun g => im 11 0 (10 * man + g)) e b := by rw [fwB_s, if_neg (by omega), if_neg (by omega)]
                     rw [← e9]
                     exact ih66 (b + 1) (by omega) (by omega))
        exact L66 _ 0 (Nat.lt_succ_self _) (by omega)
      · refine q_iconst (t := 9) F dX1_fewest_8 rfl ?_
        refine q_istore (t := 11) F dX1_fewest_9 (by decide) rfl rfl ?_
        have L11 : ∀ (fz : Nat) (b0 : Nat) (im2 : IM), 2 ^ g - b0 < fz → b0 ≤ 2 ^ g → RI im2 → ag [13] im2 im → (∀ b, b < 2 ^ g + b0 → im2 13 0 b = svF (fun g => im 11 0 (10 * man + g)) b 10) → Wp M (XC G) ad Y_X1_fewest (pI fun x m' => x = fwB (im 9 0 4) (fun g => im 11 0 (10 * man + g)) e 1024 ∧ ∃ im', RI im' ∧ im' 13 0 0 = 0 ∧ ag [13] im' im ∧ m' = (im', rs bt rt, lm)) 11 [some (vR 9 0), some (vI (man : Int)), some (vI e), some (vI (g : Int)), some (vI (b0 : Int))] [] (im2, rs bt rt, lm) := by
          intro fz
          induction fz with
          | zero => intro b0 im2 h; exact absurd h (Nat.not_lt_zero _)
          | succ fz ih =>
            have ih11 := ih
            intro b0 im2 hmeas hb0 hR2 hag hsb
            refine q_iload (t := 13) F dX1_fewest_11 rfl rfl ?_
            refine q_iconst (t := 14) F dX1_fewest_13 rfl ?_
            refine q_iload_n (t := 15) F dX1_fewest_14 rfl rfl rfl ?_
            refine q_ishl (t := 16) F dX1_fewest_15 (by omega) (by omega) rfl ?_
            rw [hpi]
            refine q_icmp_ge (t := 19) (u := 55) F dX1_fewest_16 (by constructor <;> omega) (by constructor <;> omega) (by decide) rfl (fun c16 => ?_) (fun c16 => ?_)
            · refine q_iinc (t := 58) F dX1_fewest_55 rfl (by decide) rfl rfl ?_
              refine q_goto (t := 2) F dX1_fewest_58 (by decide) ?_
              refine wp_less 4 ?_
              exact ih2 (g + 1) im2 (by omega) (by omega) hR2 hag (fun b hb => hsb b (by have e9 : 2 ^ (g + 1) = 2 ^ g + 2 ^ g := (by rw [Nat.pow_succ]; omega); omega))
            · refine q_aload_n (t := 20) F dX1_fewest_19 rfl rfl rfl ?_
              refine g_X1_21 (t := 23) F dX1_fewest_20 rfl rfl ?_
              refine q_iload (t := 25) F dX1_fewest_23 rfl rfl ?_
              refine q_iconst (t := 26) F dX1_fewest_25 rfl ?_
              refine q_iload_n (t := 27) F dX1_fewest_26 rfl rfl rfl ?_
              refine q_ishl (t := 28) F dX1_fewest_27 (by omega) (by omega) rfl ?_
              rw [hpi]
              refine q_ior (t := 29) F dX1_fewest_28 rfl ?_
              have hbl : b0 < 2 ^ g := by omega
              have hg10 : g < 10 := by omega
              have hp2 : 2 ^ g + 2 ^ g ≤ 1024 := by
                have h9 := Nat.pow_le_pow_right (n := 2) (by omega) (show g + 1 ≤ 10 by omega)
                rw [Nat.pow_succ] at h9
                omega
              rw [or_pow hbl]
              refine q_aload_n (t := 30) F dX1_fewest_29 rfl rfl rfl ?_
              refine g_X1_21 (t := 33) F dX1_fewest_30 rfl rfl ?_
              refine q_iload (t := 35) F dX1_fewest_33 rfl rfl ?_
              first | refine ldN_13 (t := 36) F dX1_fewest_35 (by omega) rfl ?_ | refine ld_13 (t := 36) F dX1_fewest_35 (by omega) (by omega) rfl ?_
              refine q_aload_n (t := 37) F dX1_fewest_36 rfl rfl rfl ?_
              refine g_X1_15 (t := 40) F dX1_fewest_37 rfl rfl ?_
              refine q_iload_n (t := 41) F dX1_fewest_40 rfl rfl rfl ?_
              refine q_bipush (t := 43) F dX1_fewest_41 (by decide) rfl ?_
              refine q_imul (t := 44) F dX1_fewest_43 rfl ?_
              refine q_iload_n (t := 45) F dX1_fewest_44 rfl rfl rfl ?_
              refine q_iadd (t := 46) F dX1_fewest_45 rfl ?_
              rw [show (man : Int) * 10 + (g : Int) = ((10 * man + g : Nat) : Int) by omega]
              first | refine ldN_11 (t := 47) F dX1_fewest_46 (by omega) rfl ?_ | refine ld_11 (t := 47) F dX1_fewest_46 (by omega) (by omega) rfl ?_
              refine q_iadd (t := 48) F dX1_fewest_47 rfl ?_
              first | refine stN_13 (t := 49) F dX1_fewest_48 (by omega) rfl ?_ | refine st_13 (t := 49) F dX1_fewest_48 (by omega) (by omega) rfl ?_
              refine q_iinc (t := 52) F dX1_fewest_49 rfl (by decide) rfl rfl ?_
              refine q_goto (t := 11) F dX1_fewest_52 (by decide) ?_
              have ev : im2 13 0 b0 + im2 11 0 (10 * man + g) = svF (fun g => im 11 0 (10 * man + g)) (2 ^ g + b0) 10 := by
                rw [hsb b0 (by omega), hag 11 (by decide), svF_s hbl hg10]
              rw [ev]
              refine ih11 (b0 + 1) _ (by omega) (by omega) (RI_up hR2 (by have := hsv (2 ^ g + b0); constructor <;> omega)) (ag_up hag (by decide)) (fun b hb => ?_)
              rw [up_app]
              by_cases h : b = 2 ^ g + b0
              · rw [if_pos ⟨rfl, rfl, h⟩, h]
              · rw [if_neg (fun z => h z.2.2)]
                exact hsb b (by omega)
        exact L11 _ 0 im2 (Nat.lt_succ_self _) (Nat.zero_le _) hR2 hag (fun b hb => hsb b (by omega))
  exact L2 _ 0 im (Nat.lt_succ_self _) (by omega) hR (ag_rfl _ _) (fun b hb => by rw [show b = 0 by omega, hz, svF_0])
