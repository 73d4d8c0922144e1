section
/-! the reference: tells (what it keeps) -/

theorem agS_try {S im : IM} {k s : Nat} (v : Int) (h : agS (up S k 0 s (im k 0 s)) im) : agS (up S k 0 s v) (up im k 0 s v) := by
  intro k' s' a b
  have e := h k' s' a b
  rw [up_app] at e
  rw [up_app, up_app]
  by_cases z : k' = k ∧ 0 = 0 ∧ s' = s
  · rw [if_pos z, if_pos z]
  · rw [if_neg z] at e
    rw [if_neg z, if_neg z]
    exact e
theorem agS_bk {S S2 im : IM} {k s : Nat} {v : Int} (h : agS (up S k 0 s (im k 0 s)) im) (h2 : agS S2 (up S k 0 s v)) : agS (up S2 k 0 s (im k 0 s)) im := by
  intro k' s' a b
  have e := h k' s' a b
  have e2 := h2 k' s' a b
  rw [up_app] at e e2 ⊢
  by_cases z : k' = k ∧ 0 = 0 ∧ s' = s
  · rw [if_pos z, z.1, z.2.2]
  · rw [if_neg z] at e e2 ⊢
    exact e2.trans e
theorem agS_id {S im : IM} (k s : Nat) (h : agS S im) : agS (up S k 0 s (im k 0 s)) im := by
  intro k' s' a b
  rw [up_app]
  by_cases z : k' = k ∧ 0 = 0 ∧ s' = s
  · rw [if_pos z, z.1, z.2.2]
  · rw [if_neg z]
    exact h k' s' a b
theorem RC_ly {im : IM} (h : RC im) {what v : Int} {p : Nat} (hv : (what = 0 ∧ 0 ≤ v ∧ v ≤ 999) ∨ (what = 1 ∧ 0 ≤ v ∧ v < 16777216) ∨ (what = 2 ∧ 0 ≤ v ∧ v ≤ 9) ∨ (what = 3 ∧ 0 ≤ v ∧ v ≤ 5) ∨ (what = 4 ∧ 0 ≤ v ∧ v < im 30 0 3)) : RC (lyI im what p v) := by
  have h' := h
  obtain ⟨hR, hX, h4, h12, h7, h8, hP⟩ := h
  have h3 := hX.2.2.2.1
  rcases hv with ⟨rfl, a, b⟩ | ⟨rfl, a, b⟩ | ⟨rfl, a, b⟩ | ⟨rfl, a, b⟩ | ⟨rfl, a, b⟩
  · exact ⟨RI_up hR (by constructor <;> omega), hX.same (fun _ => rfl) (fun _ => rfl) (fun _ => rfl) rfl rfl, h4, h12, by (show 0 ≤ v ∧ v ≤ 1100); omega, h8, hP⟩
  · exact RC_bell h' ⟨a, b⟩
  · refine ⟨RI_up hR (by constructor <;> omega), hX.same (fun _ => rfl) (fun _ => rfl) (fun _ => rfl) rfl rfl, h4, h12, h7, h8, fun m hm => ?_⟩
    have e := hP m hm
    refine ⟨e.1, ?_, e.2.2⟩
    show 0 ≤ up im 35 0 p v 35 0 m ∧ up im 35 0 p v 35 0 m < 10
    rw [up_app]
    split
    · omega
    · exact e.2.1
  · refine ⟨RI_up hR (by constructor <;> omega), hX.same (fun _ => rfl) (fun _ => rfl) (fun _ => rfl) rfl rfl, h4, h12, h7, h8, fun m hm => ?_⟩
    have e := hP m hm
    refine ⟨?_, e.2.1, e.2.2⟩
    show 0 ≤ up im 34 0 p v 34 0 m ∧ up im 34 0 p v 34 0 m < 6
    rw [up_app]
    split
    · omega
    · exact e.1
  · exact RC_force h' a b
theorem AG_ly {im : IM} {x : Int} (h : AG im x) (what v : Int) (p : Nat) : AG (lyI im what p v) x := by
  intro q hq hne
  have e : ∀ k s, (k = 36 ∨ k = 37 ∨ k = 30 ∧ s = 12) → lyI im what p v k 0 s = im k 0 s := fun k s z => by
    unfold lyI
    (repeat' split) <;> rw [up_app, if_neg (by omega)]
  rw [e 30 12 (by omega)] at hq
  rw [e 36 q (by omega)] at hne
  rw [e 37 q (by omega)]
  exact h q hq hne
theorem RP_one {im : IM} {p : Nat} (h : RP im p) {k s : Nat} {v : Int} (hk : (k = 36 ∧ -1 ≤ v ∧ v < 16 ∧ im 36 0 s ≠ -1) ∨ (k = 37 ∧ 0 ≤ v ∧ v ≤ 1100)) : RP (up im k 0 s v) p := by
  obtain ⟨a, b, c⟩ := h
  have e : ∀ k', k' = 34 ∨ k' = 35 → up im k 0 s v k' 0 p = im k' 0 p := fun k' _ => by rw [up_app, if_neg (by omega)]
  refine ⟨by rw [e 34 (by omega)]; exact a, by rw [e 35 (by omega)]; exact b, fun g hg => ?_⟩
  have d := c g hg
  rcases hk with ⟨rfl, v0, v1, hs⟩ | ⟨rfl, v0, v1⟩
  · rw [up_app, up_app, if_neg (show ¬ (37 = 36 ∧ 0 = 0 ∧ 10 * p + g = s) by omega)]
    by_cases z : 36 = 36 ∧ 0 = 0 ∧ 10 * p + g = s
    · rw [if_pos z]
      rw [z.2.2] at d ⊢
      exact ⟨v0, v1, fun _ => d.2.2 hs⟩
    · rw [if_neg z]
      exact d
  · rw [up_app, if_neg (show ¬ (36 = 37 ∧ 0 = 0 ∧ 10 * p + g = s) by omega), up_app]
    refine ⟨d.1, d.2.1, fun z => ?_⟩
    split
    · omega
    · exact d.2.2 z
theorem RC_one {im : IM} (h : RC im) {k s : Nat} {v : Int} (hk : (k = 36 ∧ -1 ≤ v ∧ v < 16 ∧ im 36 0 s ≠ -1) ∨ (k = 37 ∧ 0 ≤ v ∧ v ≤ 1100)) : RC (up im k 0 s v) := by
  obtain ⟨hR, hX, h4, h12, h7, h8, hP⟩ := h
  have e : ∀ k' s', ¬ (k' = 36 ∨ k' = 37) → up im k 0 s v k' 0 s' = im k' 0 s' := fun k' s' _ => by rw [up_app, if_neg (by omega)]
  have h3 := e 30 3 (by omega)
  refine ⟨RI_up hR (by rcases hk with z | z <;> (constructor <;> omega)), hX.same (fun _ => e _ _ (by omega)) (fun _ => e _ _ (by omega)) (fun _ => e _ _ (by omega)) h3 (e _ _ (by omega)), by rw [h3, e 30 4 (by omega)]; exact h4, by rw [e 30 12 (by omega)]; exact h12, by rw [e 30 7 (by omega)]; exact h7, by rw [e 30 8 (by omega)]; exact h8, fun m hm => ?_⟩
  rw [e 30 12 (by omega)] at hm
  exact RP_one (hP m hm) hk
theorem AG_one {im : IM} (h : AG im 1000) {k s : Nat} {v : Int} (hk : (k = 36 ∧ im 36 0 s ≠ -1) ∨ (k = 37 ∧ v ≤ 1000)) : AG (up im k 0 s v) 1000 := by
  intro q hq hne
  rw [up_app, if_neg (by omega)] at hq
  have g := h q hq
  rcases hk with ⟨rfl, hs⟩ | ⟨rfl, v1⟩
  · rw [up_app, if_neg (by omega)]
    rw [up_app] at hne
    split at hne
    · rename_i z
      rw [z.2.2] at g ⊢
      exact g hs
    · exact g hne
  · rw [up_app, if_neg (by omega)] at hne
    rw [up_app]
    split
    · exact v1
    · exact g hne
/-- what is tried may stand -/
def TRY (im : IM) (k s : Nat) (v : Int) : Prop := RC (up im k 0 s v) ∧ AG (up im k 0 s v) 1000
theorem or_lt {z v : Nat} (h : z < 2 ^ v) : z ||| 2 ^ v < 2 ^ (v + 1) ∧ z ||| 0 < 2 ^ (v + 1) := by
  have h1 : 2 ^ v < 2 ^ (v + 1) := Nat.pow_lt_pow_right (by omega) (by omega)
  exact ⟨Nat.or_lt_two_pow (by omega) h1, Nat.or_lt_two_pow (by omega) (Nat.two_pow_pos _)⟩
theorem pow_le16 {v : Nat} (h : v ≤ 16) : 2 ^ v ≤ 65536 := by
  have h9 := Nat.pow_le_pow_right (n := 2) (by omega) h
  exact h9

set_option maxHeartbeats 4000000 in
theorem c_X9_firstOther (l : Launch) (G : GS) (im : IM) (bt rt : Nat) (lm : IM) (h : RC im) (hA : AG im 1000) (h79 : im 30 0 7 ≤ 999) (s p : Nat) (hs : s < 4) (hp : (p : Int) < im 30 0 12) : Cn l (XR G) yX9_firstOther Y_X9_firstOther [vR 30 0, vI (s : Int), vI (p : Int)] (im, rs bt rt, lm) (pI fun x m' => (-1 ≤ x ∧ x ≤ 9) ∧ ∃ im' lm', RI im' ∧ agS im' im ∧ lgQ lm' lm ∧ m' = (im', rs bt rt, lm')) := by
  refine cn_of (by decide) (okR G) rfl (Nat.le_of_ble_eq_true rfl) ?_
  intro M ad hMl F
  subst hMl
  have hR := h.1
  have h12 := h.2.2.2.1
  refine wp_pad 1 ?_
  show Wp M (XR G) ad Y_X9_firstOther (pI fun x m' => (-1 ≤ x ∧ x ≤ 9) ∧ ∃ im' lm', RI im' ∧ agS im' im ∧ lgQ lm' lm ∧ m' = (im', rs bt rt, lm')) 0 [some (vR 30 0), some (vI (s : Int)), some (vI (p : Int)), none] [] (im, rs bt rt, lm)
  refine q_aload_n (t := 1) F dX9_firstOther_0 rfl rfl rfl ?_
  refine q_bipush (t := 3) F dX9_firstOther_1 (by decide) rfl ?_
  refine wp_callV (t := 6) [_] F dX9_firstOther_3 k_X9_runs v_X9_runs ml_X9_410 rfl rfl rfl rfl (Nat.le_of_ble_eq_true rfl) (by decide) (m_30 (by omega)) (c_X9_runs _ G im bt rt lm h hA h79 60 (by omega)) rfl (kV ?_)
  rintro m' ⟨im2, lm2, hR2, hU, hlg2, rfl⟩
  refine q_iconst (t := 7) F dX9_firstOther_6 rfl ?_
  refine q_istore_n (t := 8) F dX9_firstOther_7 rfl (by decide) rfl rfl ?_
  have L8 : ∀ (fz : Nat) (g : Nat), 10 - g < fz → g ≤ 10 → Wp M (XR G) ad Y_X9_firstOther (pI fun x m' => (-1 ≤ x ∧ x ≤ 9) ∧ ∃ im' lm', RI im' ∧ agS im' im ∧ lgQ lm' lm ∧ m' = (im', rs bt rt, lm')) 8 [some (vR 30 0), some (vI (s : Int)), some (vI (p : Int)), some (vI (g : Int))] [] (im2, rs bt rt, lm2) := by
    intro fz
    induction fz with
    | zero => intro g h; exact absurd h (Nat.not_lt_zero _)
    | succ fz ih =>
      have ih8 := ih
      intro g hmeas hg
      refine q_iload_n (t := 9) F dX9_firstOther_8 rfl rfl rfl ?_
      refine q_bipush (t := 11) F dX9_firstOther_9 (by decide) rfl ?_
      refine q_icmp_ge (t := 14) (u := 47) F dX9_firstOther_11 (by constructor <;> omega) (by constructor <;> omega) (by decide) rfl (fun c11 => ?_) (fun c11 => ?_)
      · refine q_iconst (t := 48) F dX9_firstOther_47 rfl ?_
        refine q_iret F dX9_firstOther_48 rfl ?_
        exact ⟨_, rfl, by omega, im2, lm2, hR2, hU.1.S, hlg2, rfl⟩
      · refine q_aload_n (t := 15) F dX9_firstOther_14 rfl rfl rfl ?_
        refine g_X9_38 (t := 18) F dX9_firstOther_15 rfl rfl ?_
        refine q_bipush (t := 20) F dX9_firstOther_18 (by decide) rfl ?_
        refine q_iload_n (t := 21) F dX9_firstOther_20 rfl rfl rfl ?_
        refine q_imul (t := 22) F dX9_firstOther_21 rfl ?_
        refine q_iload_n (t := 23) F dX9_firstOther_22 rfl rfl rfl ?_
        refine q_iadd (t := 24) F dX9_firstOther_23 rfl ?_
        rw [show (10 : Int) * (p : Int) + (g : Int) = ((10 * p + g : Nat) : Int) by omega]
        first | refine ldN_38 (t := 25) F dX9_firstOther_24 (by omega) rfl ?_ | refine ld_38 (t := 25) F dX9_firstOther_24 (by omega) (by omega) rfl ?_
        try simp only [up_app, row_app, scr_app, cpy_app, Nat.reduceEqDiff, Int.reduceToNat, Int.toNat_natCast, and_true, true_and, and_false, false_and, and_self, reduceIte]
        refine q_aload_n (t := 26) F dX9_firstOther_25 rfl rfl rfl ?_
        refine g_X9_78 (t := 29) F dX9_firstOther_26 rfl rfl ?_
        refine q_bipush (t := 31) F dX9_firstOther_29 (by decide) rfl ?_
        refine q_iload_n (t := 32) F dX9_firstOther_31 rfl rfl rfl ?_
        refine q_imul (t := 33) F dX9_firstOther_32 rfl ?_
        refine q_iload_n (t := 34) F dX9_firstOther_33 rfl rfl rfl ?_
        refine q_iadd (t := 35) F dX9_firstOther_34 rfl ?_
        rw [show (40 : Int) * (s : Int) + (g : Int) = ((40 * s + g : Nat) : Int) by omega]
        first | refine ldN_50 (t := 36) F dX9_firstOther_35 (by omega) rfl ?_ | refine ld_50 (t := 36) F dX9_firstOther_35 (by omega) (by omega) rfl ?_
        try simp only [up_app, row_app, scr_app, cpy_app, Nat.reduceEqDiff, Int.reduceToNat, Int.toNat_natCast, and_true, true_and, and_false, false_and, and_self, reduceIte]
        refine q_icmp_eq (t := 39) (u := 41) F dX9_firstOther_36 (by exact hR2 _ _ _) (by exact hR2 _ _ _) (by decide) rfl (fun c36 => ?_) (fun c36 => ?_)
        · refine q_iinc (t := 44) F dX9_firstOther_41 rfl (by decide) rfl rfl ?_
          refine q_goto (t := 8) F dX9_firstOther_44 (by decide) ?_
          rw [show (g : Int) + 1 = ((g + 1 : Nat) : Int) by omega]
          exact ih8 (g + 1) (by omega) (by omega)
        · refine q_iload_n (t := 40) F dX9_firstOther_39 rfl rfl rfl ?_
          refine q_iret F dX9_firstOther_40 rfl ?_
          exact ⟨_, rfl, by omega, im2, lm2, hR2, hU.1.S, hlg2, rfl⟩
  exact L8 _ 0 (Nat.lt_succ_self _) (by omega)

set_option maxHeartbeats 4000000 in
theorem c_X9_setBy (l : Launch) (G : GS) (im : IM) (bt rt : Nat) (lm : IM) (h : RC im) (hA : AG im 1000) (h79 : im 30 0 7 ≤ 999) (s p : Nat) (hs : s < 4) (hp : (p : Int) < im 30 0 12) (sort : Int) (hso : sort = 2 ∨ sort = 3 ∨ sort = 4) (all : Nat) (hall : all ≤ 10) (k t : Nat) (hkt : k = 35 ∧ t < 5 ∨ k = 34 ∧ t < 5 ∨ k = 30 ∧ t = 4) (hly : ∀ S v, lyI S sort p v = up S k 0 t v) (htd : sort ≠ 4 → tdR im p sort = im k 0 t) (ht4 : sort = 4 → k = 30 ∧ t = 4) (htry : ∀ v : Nat, v < all → TRY im k t v) : Cn l (XR G) yX9_setBy Y_X9_setBy [vR 30 0, vI (s : Int), vI (p : Int), vI sort, vI (all : Int)] (im, rs bt rt, lm) (pI fun x m' => ri x ∧ ∃ im' lm', RI im' ∧ agS im' im ∧ lgQ lm' lm ∧ m' = (im', rs bt rt, lm')) := by
  refine cn_of (by decide) (okR G) rfl (Nat.le_of_ble_eq_true rfl) ?_
  intro M ad hMl F
  subst hMl
  have hR := h.1
  have h12 := h.2.2.2.1
  refine wp_pad 3 ?_
  show Wp M (XR G) ad Y_X9_setBy (pI fun x m' => ri x ∧ ∃ im' lm', RI im' ∧ agS im' im ∧ lgQ lm' lm ∧ m' = (im', rs bt rt, lm')) 0 [some (vR 30 0), some (vI (s : Int)), some (vI (p : Int)), some (vI sort), some (vI (all : Int)), none, none, none] [] (im, rs bt rt, lm)
  refine q_iload_n (t := 1) F dX9_setBy_0 rfl rfl rfl ?_
  refine q_iconst (t := 2) F dX9_setBy_1 rfl ?_
  refine q_icmp_ne (t := 5) (u := 12) F dX9_setBy_2 (by constructor <;> omega) (by constructor <;> omega) (by decide) rfl (fun c2 => ?_) (fun c2 => ?_)
  · refine q_aload_n (t := 13) F dX9_setBy_12 rfl rfl rfl ?_
    refine q_iload_n (t := 14) F dX9_setBy_13 rfl rfl rfl ?_
    refine q_iload_n (t := 15) F dX9_setBy_14 rfl rfl rfl ?_
    refine wp_callV (t := 18) [_, _] F dX9_setBy_15 k_X9_told v_X9_told ml_X9_109 rfl rfl rfl rfl (Nat.le_of_ble_eq_true rfl) (by decide) (m_30 (by omega)) (c_X9_told _ G im bt rt lm h (p : Int) sort (by constructor <;> omega) (by constructor <;> omega)) rfl (kI ?_)
    rintro x15 m' ⟨im1, lm1, hx15, hR1, hag1, hlg1, rfl⟩
    have hx15 := hx15.trans (htd (by omega))
    first
      | (rw [hx15])
      | (obtain ⟨hk9, ht9⟩ := ht4 (by omega)
         rw [show im 30 0 4 = im k 0 t by rw [hk9, ht9]])
    refine q_istore (t := 20) F dX9_setBy_18 (by decide) rfl rfl ?_
    refine q_iconst (t := 21) F dX9_setBy_20 rfl ?_
    refine q_istore (t := 23) F dX9_setBy_21 (by decide) rfl rfl ?_
    refine q_iconst (t := 24) F dX9_setBy_23 rfl ?_
    refine q_istore (t := 26) F dX9_setBy_24 (by decide) rfl rfl ?_
    have L26 : ∀ (fz : Nat) (v z : Nat) (S lg : IM), 11 - v < fz → (v ≤ all ∧ z < 2 ^ v ∧ RI S ∧ agS (up S k 0 t (im k 0 t)) im ∧ lgQ lg lm) → Wp M (XR G) ad Y_X9_setBy (pI fun x m' => ri x ∧ ∃ im' lm', RI im' ∧ agS im' im ∧ lgQ lm' lm ∧ m' = (im', rs bt rt, lm')) 26 [some (vR 30 0), some (vI (s : Int)), some (vI (p : Int)), some (vI sort), some (vI (all : Int)), some (vI (im k 0 t)), some (vI (z : Int)), some (vI (v : Int))] [] (S, rs bt rt, lg) := by
      intro fz
      induction fz with
      | zero => intro v z S lg h; exact absurd h (Nat.not_lt_zero _)
      | succ fz ih =>
        have ih26 := ih
        intro v z S lg hmeas ⟨hv, hz, hRS, hag, hlg⟩
        have hpw := pow_le16 (v := v) (by omega)
        have hor := or_lt hz
        refine q_iload (t := 28) F dX9_setBy_26 rfl rfl ?_
        refine q_iload (t := 30) F dX9_setBy_28 rfl rfl ?_
        refine q_icmp_ge (t := 33) (u := 70) F dX9_setBy_30 (by constructor <;> omega) (by constructor <;> omega) (by decide) rfl (fun c30 => ?_) (fun c30 => ?_)
        · refine q_aload_n (t := 71) F dX9_setBy_70 rfl rfl rfl ?_
          refine q_iload_n (t := 72) F dX9_setBy_71 rfl rfl rfl ?_
          refine q_iload_n (t := 73) F dX9_setBy_72 rfl rfl rfl ?_
          refine q_iload (t := 75) F dX9_setBy_73 rfl rfl ?_
          refine wp_callV (t := 78) [_, _, _] F dX9_setBy_75 k_X9_lays v_X9_lays ml_X9_113 rfl rfl rfl rfl (Nat.le_of_ble_eq_true rfl) (by decide) (m_30 (by omega)) (c_X9_lays _ G S bt rt lg sort (im k 0 t) p (by constructor <;> omega) (fun _ => by omega)) rfl (kV ?_)
          rintro m' rfl
          rw [hly]
          refine q_iload (t := 80) F dX9_setBy_78 rfl rfl ?_
          refine q_iret F dX9_setBy_80 rfl ?_
          exact ⟨_, rfl, by constructor <;> omega, _, lg, RI_up hRS (hR _ _ _), hag, hlg, rfl⟩
        · refine q_aload_n (t := 34) F dX9_setBy_33 rfl rfl rfl ?_
          refine q_iload_n (t := 35) F dX9_setBy_34 rfl rfl rfl ?_
          refine q_iload_n (t := 36) F dX9_setBy_35 rfl rfl rfl ?_
          refine q_iload (t := 38) F dX9_setBy_36 rfl rfl ?_
          refine wp_callV (t := 41) [_, _, _] F dX9_setBy_38 k_X9_lays v_X9_lays ml_X9_113 rfl rfl rfl rfl (Nat.le_of_ble_eq_true rfl) (by decide) (m_30 (by omega)) (c_X9_lays _ G S bt rt lg sort (v : Int) p (by constructor <;> omega) (fun _ => by omega)) rfl (kV ?_)
          rintro m' rfl
          rw [hly]
          have hag1 := agS_try (v : Int) hag
          have hRS1 : RI (up S k 0 t (v : Int)) := RI_up hRS (by constructor <;> omega)
          have hRC1 : RC (up S k 0 t (v : Int)) := (htry v (by omega)).1.S hRS1 hag1
          have hA1 : AG (up S k 0 t (v : Int)) 1000 := (htry v (by omega)).2.C hag1.C.1
          refine q_iload (t := 43) F dX9_setBy_41 rfl rfl ?_
          refine q_aload_n (t := 44) F dX9_setBy_43 rfl rfl rfl ?_
          refine q_iload_n (t := 45) F dX9_setBy_44 rfl rfl rfl ?_
          refine q_iload_n (t := 46) F dX9_setBy_45 rfl rfl rfl ?_
          refine wp_callV (t := 49) [_, _] F dX9_setBy_46 k_X9_firstOther v_X9_firstOther ml_X9_430 rfl rfl rfl rfl (Nat.le_of_ble_eq_true rfl) (by decide) (m_30 (by omega)) (c_X9_firstOther _ G (up S k 0 t (v : Int)) bt rt lg hRC1 hA1 (by rw [hag1.C.2, up_app, if_neg (by omega)]; exact h79) s p hs (by rw [hag1.C.1.2.2.2.2.2, up_app, if_neg (by omega)]; exact hp)) rfl (kI ?_)
          rintro x46 m' ⟨hx46, im2, lg2, hR2, hag2, hlg2, rfl⟩
          have hbk := agS_bk hag hag2
          refine q_iconst (t := 50) F dX9_setBy_49 rfl ?_
          refine q_icmp_ne (t := 53) (u := 57) F dX9_setBy_50 (by constructor <;> omega) (by constructor <;> omega) (by decide) rfl (fun c50 => ?_) (fun c50 => ?_)
          · refine q_iconst (t := 58) F dX9_setBy_57 rfl ?_
            refine q_iload (t := 60) F dX9_setBy_58 rfl rfl ?_
            refine q_ishl (t := 61) F dX9_setBy_60 (by omega) (by omega) rfl ?_
            first | rw [pow_cast v] | rw [pow_cast0 v]
            refine q_ior (t := 62) F dX9_setBy_61 rfl ?_
            refine q_istore (t := 64) F dX9_setBy_62 (by decide) rfl rfl ?_
            refine q_iinc (t := 67) F dX9_setBy_64 rfl (by decide) rfl rfl ?_
            refine q_goto (t := 26) F dX9_setBy_67 (by decide) ?_
            rw [show (v : Int) + 1 = ((v + 1 : Nat) : Int) by omega]
            first
              | exact ih26 (v + 1) (z ||| 2 ^ v) im2 lg2 (by omega) ⟨by omega, hor.1, hR2, hbk, hlg2.trans hlg⟩
              | exact ih26 (v + 1) (z ||| 0) im2 lg2 (by omega) ⟨by omega, hor.2, hR2, hbk, hlg2.trans hlg⟩
          · refine q_iconst (t := 54) F dX9_setBy_53 rfl ?_
            refine q_goto (t := 58) F dX9_setBy_54 (by decide) ?_
            refine q_iload (t := 60) F dX9_setBy_58 rfl rfl ?_
            refine q_ishl (t := 61) F dX9_setBy_60 (by omega) (by omega) rfl ?_
            first | rw [pow_cast v] | rw [pow_cast0 v]
            refine q_ior (t := 62) F dX9_setBy_61 rfl ?_
            refine q_istore (t := 64) F dX9_setBy_62 (by decide) rfl rfl ?_
            refine q_iinc (t := 67) F dX9_setBy_64 rfl (by decide) rfl rfl ?_
            refine q_goto (t := 26) F dX9_setBy_67 (by decide) ?_
            rw [show (v : Int) + 1 = ((v + 1 : Nat) : Int) by omega]
            first
              | exact ih26 (v + 1) (z ||| 2 ^ v) im2 lg2 (by omega) ⟨by omega, hor.1, hR2, hbk, hlg2.trans hlg⟩
              | exact ih26 (v + 1) (z ||| 0) im2 lg2 (by omega) ⟨by omega, hor.2, hR2, hbk, hlg2.trans hlg⟩
    first
      | exact L26 _ 0 0 im1 lm1 (Nat.lt_succ_self _) ⟨by omega, by decide, hR1, agS_id _ _ (hag1.O.S), hlg1⟩
      | exact L26 _ 0 0 im lm (Nat.lt_succ_self _) ⟨by omega, by decide, hR, agS_id _ _ (agS_rfl im), lgQ_rfl lm⟩
  · refine q_aload_n (t := 6) F dX9_setBy_5 rfl rfl rfl ?_
    refine g_X9_120 (t := 9) F dX9_setBy_6 rfl rfl ?_
    refine q_goto (t := 18) F dX9_setBy_9 (by decide) ?_
    first
      | (rw [hx15])
      | (obtain ⟨hk9, ht9⟩ := ht4 (by omega)
         rw [show im 30 0 4 = im k 0 t by rw [hk9, ht9]])
    refine q_istore (t := 20) F dX9_setBy_18 (by decide) rfl rfl ?_
    refine q_iconst (t := 21) F dX9_setBy_20 rfl ?_
    refine q_istore (t := 23) F dX9_setBy_21 (by decide) rfl rfl ?_
    refine q_iconst (t := 24) F dX9_setBy_23 rfl ?_
    refine q_istore (t := 26) F dX9_setBy_24 (by decide) rfl rfl ?_
    have L26 : ∀ (fz : Nat) (v z : Nat) (S lg : IM), 11 - v < fz → (v ≤ all ∧ z < 2 ^ v ∧ RI S ∧ agS (up S k 0 t (im k 0 t)) im ∧ lgQ lg lm) → Wp M (XR G) ad Y_X9_setBy (pI fun x m' => ri x ∧ ∃ im' lm', RI im' ∧ agS im' im ∧ lgQ lm' lm ∧ m' = (im', rs bt rt, lm')) 26 [some (vR 30 0), some (vI (s : Int)), some (vI (p : Int)), some (vI sort), some (vI (all : Int)), some (vI (im k 0 t)), some (vI (z : Int)), some (vI (v : Int))] [] (S, rs bt rt, lg) := by
      intro fz
      induction fz with
      | zero => intro v z S lg h; exact absurd h (Nat.not_lt_zero _)
      | succ fz ih =>
        have ih26 := ih
        intro v z S lg hmeas ⟨hv, hz, hRS, hag, hlg⟩
        have hpw := pow_le16 (v := v) (by omega)
        have hor := or_lt hz
        refine q_iload (t := 28) F dX9_setBy_26 rfl rfl ?_
        refine q_iload (t := 30) F dX9_setBy_28 rfl rfl ?_
        refine q_icmp_ge (t := 33) (u := 70) F dX9_setBy_30 (by constructor <;> omega) (by constructor <;> omega) (by decide) rfl (fun c30 => ?_) (fun c30 => ?_)
        · refine q_aload_n (t := 71) F dX9_setBy_70 rfl rfl rfl ?_
          refine q_iload_n (t := 72) F dX9_setBy_71 rfl rfl rfl ?_
          refine q_iload_n (t := 73) F dX9_setBy_72 rfl rfl rfl ?_
          refine q_iload (t := 75) F dX9_setBy_73 rfl rfl ?_
          refine wp_callV (t := 78) [_, _, _] F dX9_setBy_75 k_X9_lays v_X9_lays ml_X9_113 rfl rfl rfl rfl (Nat.le_of_ble_eq_true rfl) (by decide) (m_30 (by omega)) (c_X9_lays _ G S bt rt lg sort (im k 0 t) p (by constructor <;> omega) (fun _ => by omega)) rfl (kV ?_)
          rintro m' rfl
          rw [hly]
          refine q_iload (t := 80) F dX9_setBy_78 rfl rfl ?_
          refine q_iret F dX9_setBy_80 rfl ?_
          exact ⟨_, rfl, by constructor <;> omega, _, lg, RI_up hRS (hR _ _ _), hag, hlg, rfl⟩
        · refine q_aload_n (t := 34) F dX9_setBy_33 rfl rfl rfl ?_
          refine q_iload_n (t := 35) F dX9_setBy_34 rfl rfl rfl ?_
          refine q_iload_n (t := 36) F dX9_setBy_35 rfl rfl rfl ?_
          refine q_iload (t := 38) F dX9_setBy_36 rfl rfl ?_
          refine wp_callV (t := 41) [_, _, _] F dX9_setBy_38 k_X9_lays v_X9_lays ml_X9_113 rfl rfl rfl rfl (Nat.le_of_ble_eq_true rfl) (by decide) (m_30 (by omega)) (c_X9_lays _ G S bt rt lg sort (v : Int) p (by constructor <;> omega) (fun _ => by omega)) rfl (kV ?_)
          rintro m' rfl
          rw [hly]
          have hag1 := agS_try (v : Int) hag
          have hRS1 : RI (up S k 0 t (v : Int)) := RI_up hRS (by constructor <;> omega)
          have hRC1 : RC (up S k 0 t (v : Int)) := (htry v (by omega)).1.S hRS1 hag1
          have hA1 : AG (up S k 0 t (v : Int)) 1000 := (htry v (by omega)).2.C hag1.C.1
          refine q_iload (t := 43) F dX9_setBy_41 rfl rfl ?_
          refine q_aload_n (t := 44) F dX9_setBy_43 rfl rfl rfl ?_
          refine q_iload_n (t := 45) F dX9_setBy_44 rfl rfl rfl ?_
          refine q_iload_n (t := 46) F dX9_setBy_45 rfl rfl rfl ?_
          refine wp_callV (t := 49) [_, _] F dX9_setBy_46 k_X9_firstOther v_X9_firstOther ml_X9_430 rfl rfl rfl rfl (Nat.le_of_ble_eq_true rfl) (by decide) (m_30 (by omega)) (c_X9_firstOther _ G (up S k 0 t (v : Int)) bt rt lg hRC1 hA1 (by rw [hag1.C.2, up_app, if_neg (by omega)]; exact h79) s p hs (by rw [hag1.C.1.2.2.2.2.2, up_app, if_neg (by omega)]; exact hp)) rfl (kI ?_)
          rintro x46 m' ⟨hx46, im2, lg2, hR2, hag2, hlg2, rfl⟩
          have hbk := agS_bk hag hag2
          refine q_iconst (t := 50) F dX9_setBy_49 rfl ?_
          refine q_icmp_ne (t := 53) (u := 57) F dX9_setBy_50 (by constructor <;> omega) (by constructor <;> omega) (by decide) rfl (fun c50 => ?_) (fun c50 => ?_)
          · refine q_iconst (t := 58) F dX9_setBy_57 rfl ?_
            refine q_iload (t := 60) F dX9_setBy_58 rfl rfl ?_
            refine q_ishl (t := 61) F dX9_setBy_60 (by omega) (by omega) rfl ?_
            first | rw [pow_cast v] | rw [pow_cast0 v]
            refine q_ior (t := 62) F dX9_setBy_61 rfl ?_
            refine q_istore (t := 64) F dX9_setBy_62 (by decide) rfl rfl ?_
            refine q_iinc (t := 67) F dX9_setBy_64 rfl (by decide) rfl rfl ?_
            refine q_goto (t := 26) F dX9_setBy_67 (by decide) ?_
            rw [show (v : Int) + 1 = ((v + 1 : Nat) : Int) by omega]
            first
              | exact ih26 (v + 1) (z ||| 2 ^ v) im2 lg2 (by omega) ⟨by omega, hor.1, hR2, hbk, hlg2.trans hlg⟩
              | exact ih26 (v + 1) (z ||| 0) im2 lg2 (by omega) ⟨by omega, hor.2, hR2, hbk, hlg2.trans hlg⟩
          · refine q_iconst (t := 54) F dX9_setBy_53 rfl ?_
            refine q_goto (t := 58) F dX9_setBy_54 (by decide) ?_
            refine q_iload (t := 60) F dX9_setBy_58 rfl rfl ?_
            refine q_ishl (t := 61) F dX9_setBy_60 (by omega) (by omega) rfl ?_
            first | rw [pow_cast v] | rw [pow_cast0 v]
            refine q_ior (t := 62) F dX9_setBy_61 rfl ?_
            refine q_istore (t := 64) F dX9_setBy_62 (by decide) rfl rfl ?_
            refine q_iinc (t := 67) F dX9_setBy_64 rfl (by decide) rfl rfl ?_
            refine q_goto (t := 26) F dX9_setBy_67 (by decide) ?_
            rw [show (v : Int) + 1 = ((v + 1 : Nat) : Int) by omega]
            first
              | exact ih26 (v + 1) (z ||| 2 ^ v) im2 lg2 (by omega) ⟨by omega, hor.1, hR2, hbk, hlg2.trans hlg⟩
              | exact ih26 (v + 1) (z ||| 0) im2 lg2 (by omega) ⟨by omega, hor.2, hR2, hbk, hlg2.trans hlg⟩
    first
      | exact L26 _ 0 0 im1 lm1 (Nat.lt_succ_self _) ⟨by omega, by decide, hR1, agS_id _ _ (hag1.O.S), hlg1⟩
      | exact L26 _ 0 0 im lm (Nat.lt_succ_self _) ⟨by omega, by decide, hR, agS_id _ _ (agS_rfl im), lgQ_rfl lm⟩

set_option maxHeartbeats 4000000 in
theorem c_X9_wordsBy (l : Launch) (G : GS) (im : IM) (bt rt : Nat) (lm : IM) (h : RC im) (hA : AG im 1000) (h79 : im 30 0 7 ≤ 999) (s p q : Nat) (hs : s < 4) (hp : (p : Int) < im 30 0 12) (hq : q < 50) (hw : im 36 0 q ≠ -1) : Cn l (XR G) yX9_wordsBy Y_X9_wordsBy [vR 30 0, vI (s : Int), vI (p : Int), vI (q : Int)] (im, rs bt rt, lm) (pI fun x m' => ri x ∧ ∃ im' lm', RI im' ∧ agS im' im ∧ lgQ lm' lm ∧ m' = (im', rs bt rt, lm')) := by
  refine cn_of (by decide) (okR G) rfl (Nat.le_of_ble_eq_true rfl) ?_
  intro M ad hMl F
  subst hMl
  have hR := h.1
  have h12 := h.2.2.2.1
  refine wp_pad 3 ?_
  show Wp M (XR G) ad Y_X9_wordsBy (pI fun x m' => ri x ∧ ∃ im' lm', RI im' ∧ agS im' im ∧ lgQ lm' lm ∧ m' = (im', rs bt rt, lm')) 0 [some (vR 30 0), some (vI (s : Int)), some (vI (p : Int)), some (vI (q : Int)), none, none, none] [] (im, rs bt rt, lm)
  refine q_aload_n (t := 1) F dX9_wordsBy_0 rfl rfl rfl ?_
  refine g_X9_32 (t := 4) F dX9_wordsBy_1 rfl rfl ?_
  refine q_iload_n (t := 5) F dX9_wordsBy_4 rfl rfl rfl ?_
  first | refine ldN_36 (t := 6) F dX9_wordsBy_5 (by omega) rfl ?_ | refine ld_36 (t := 6) F dX9_wordsBy_5 (by omega) (by omega) rfl ?_
  refine q_istore (t := 8) F dX9_wordsBy_6 (by decide) rfl rfl ?_
  refine q_iconst (t := 9) F dX9_wordsBy_8 rfl ?_
  refine q_istore (t := 11) F dX9_wordsBy_9 (by decide) rfl rfl ?_
  refine q_iconst (t := 12) F dX9_wordsBy_11 rfl ?_
  refine q_istore (t := 14) F dX9_wordsBy_12 (by decide) rfl rfl ?_
  have L14 : ∀ (fz : Nat) (v z : Nat) (S lg : IM), 17 - v < fz → (v ≤ 16 ∧ z < 2 ^ v ∧ RI S ∧ agS (up S 36 0 q (im 36 0 q)) im ∧ lgQ lg lm) → Wp M (XR G) ad Y_X9_wordsBy (pI fun x m' => ri x ∧ ∃ im' lm', RI im' ∧ agS im' im ∧ lgQ lm' lm ∧ m' = (im', rs bt rt, lm')) 14 [some (vR 30 0), some (vI (s : Int)), some (vI (p : Int)), some (vI (q : Int)), some (vI (im 36 0 q)), some (vI (z : Int)), some (vI (v : Int))] [] (S, rs bt rt, lg) := by
    intro fz
    induction fz with
    | zero => intro v z S lg h; exact absurd h (Nat.not_lt_zero _)
    | succ fz ih =>
      have ih14 := ih
      intro v z S lg hmeas ⟨hv, hz, hRS, hag, hlg⟩
      have hpw := pow_le16 (v := v) (by omega)
      have hor := or_lt hz
      refine q_iload (t := 16) F dX9_wordsBy_14 rfl rfl ?_
      refine q_bipush (t := 18) F dX9_wordsBy_16 (by decide) rfl ?_
      refine q_icmp_ge (t := 21) (u := 58) F dX9_wordsBy_18 (by constructor <;> omega) (by constructor <;> omega) (by decide) rfl (fun c18 => ?_) (fun c18 => ?_)
      · refine q_aload_n (t := 59) F dX9_wordsBy_58 rfl rfl rfl ?_
        refine g_X9_32 (t := 62) F dX9_wordsBy_59 rfl rfl ?_
        refine q_iload_n (t := 63) F dX9_wordsBy_62 rfl rfl rfl ?_
        refine q_iload (t := 65) F dX9_wordsBy_63 rfl rfl ?_
        first | refine stN_36 (t := 66) F dX9_wordsBy_65 (by omega) rfl ?_ | refine st_36 (t := 66) F dX9_wordsBy_65 (by omega) (by omega) rfl ?_
        refine q_iload (t := 68) F dX9_wordsBy_66 rfl rfl ?_
        refine q_iret F dX9_wordsBy_68 rfl ?_
        exact ⟨_, rfl, by constructor <;> omega, _, lg, RI_up hRS (hR _ _ _), hag, hlg, rfl⟩
      · refine q_aload_n (t := 22) F dX9_wordsBy_21 rfl rfl rfl ?_
        refine g_X9_32 (t := 25) F dX9_wordsBy_22 rfl rfl ?_
        refine q_iload_n (t := 26) F dX9_wordsBy_25 rfl rfl rfl ?_
        refine q_iload (t := 28) F dX9_wordsBy_26 rfl rfl ?_
        first | refine stN_36 (t := 29) F dX9_wordsBy_28 (by omega) rfl ?_ | refine st_36 (t := 29) F dX9_wordsBy_28 (by omega) (by omega) rfl ?_
        have hag1 := agS_try (v : Int) hag
        have hRS1 : RI (up S 36 0 q (v : Int)) := RI_up hRS (by constructor <;> omega)
        have hRC1 : RC (up S 36 0 q (v : Int)) := (RC_one h (k := 36) (s := q) (v := (v : Int)) (Or.inl ⟨rfl, by omega, by omega, hw⟩)).S hRS1 hag1
        have hA1 : AG (up S 36 0 q (v : Int)) 1000 := (AG_one hA (k := 36) (s := q) (v := (v : Int)) (Or.inl ⟨rfl, hw⟩)).C hag1.C.1
        refine q_iload (t := 31) F dX9_wordsBy_29 rfl rfl ?_
        refine q_aload_n (t := 32) F dX9_wordsBy_31 rfl rfl rfl ?_
        refine q_iload_n (t := 33) F dX9_wordsBy_32 rfl rfl rfl ?_
        refine q_iload_n (t := 34) F dX9_wordsBy_33 rfl rfl rfl ?_
        refine wp_callV (t := 37) [_, _] F dX9_wordsBy_34 k_X9_firstOther v_X9_firstOther ml_X9_430 rfl rfl rfl rfl (Nat.le_of_ble_eq_true rfl) (by decide) (m_30 (by omega)) (c_X9_firstOther _ G (up S 36 0 q (v : Int)) bt rt lg hRC1 hA1 (by rw [hag1.C.2, up_app, if_neg (by omega)]; exact h79) s p hs (by rw [hag1.C.1.2.2.2.2.2, up_app, if_neg (by omega)]; exact hp)) rfl (kI ?_)
        rintro x34 m' ⟨hx34, im2, lg2, hR2, hag2, hlg2, rfl⟩
        have hbk := agS_bk hag hag2
        refine q_iconst (t := 38) F dX9_wordsBy_37 rfl ?_
        refine q_icmp_ne (t := 41) (u := 45) F dX9_wordsBy_38 (by constructor <;> omega) (by constructor <;> omega) (by decide) rfl (fun c38 => ?_) (fun c38 => ?_)
        · refine q_iconst (t := 46) F dX9_wordsBy_45 rfl ?_
          refine q_iload (t := 48) F dX9_wordsBy_46 rfl rfl ?_
          refine q_ishl (t := 49) F dX9_wordsBy_48 (by omega) (by omega) rfl ?_
          first | rw [pow_cast v] | rw [pow_cast0 v]
          refine q_ior (t := 50) F dX9_wordsBy_49 rfl ?_
          refine q_istore (t := 52) F dX9_wordsBy_50 (by decide) rfl rfl ?_
          refine q_iinc (t := 55) F dX9_wordsBy_52 rfl (by decide) rfl rfl ?_
          refine q_goto (t := 14) F dX9_wordsBy_55 (by decide) ?_
          rw [show (v : Int) + 1 = ((v + 1 : Nat) : Int) by omega]
          first
            | exact ih14 (v + 1) (z ||| 2 ^ v) im2 lg2 (by omega) ⟨by omega, hor.1, hR2, hbk, hlg2.trans hlg⟩
            | exact ih14 (v + 1) (z ||| 0) im2 lg2 (by omega) ⟨by omega, hor.2, hR2, hbk, hlg2.trans hlg⟩
        · refine q_iconst (t := 42) F dX9_wordsBy_41 rfl ?_
          refine q_goto (t := 46) F dX9_wordsBy_42 (by decide) ?_
          refine q_iload (t := 48) F dX9_wordsBy_46 rfl rfl ?_
          refine q_ishl (t := 49) F dX9_wordsBy_48 (by omega) (by omega) rfl ?_
          first | rw [pow_cast v] | rw [pow_cast0 v]
          refine q_ior (t := 50) F dX9_wordsBy_49 rfl ?_
          refine q_istore (t := 52) F dX9_wordsBy_50 (by decide) rfl rfl ?_
          refine q_iinc (t := 55) F dX9_wordsBy_52 rfl (by decide) rfl rfl ?_
          refine q_goto (t := 14) F dX9_wordsBy_55 (by decide) ?_
          rw [show (v : Int) + 1 = ((v + 1 : Nat) : Int) by omega]
          first
            | exact ih14 (v + 1) (z ||| 2 ^ v) im2 lg2 (by omega) ⟨by omega, hor.1, hR2, hbk, hlg2.trans hlg⟩
            | exact ih14 (v + 1) (z ||| 0) im2 lg2 (by omega) ⟨by omega, hor.2, hR2, hbk, hlg2.trans hlg⟩
  exact L14 _ 0 0 im lm (Nat.lt_succ_self _) ⟨by omega, by decide, hR, agS_id _ _ (agS_rfl im), lgQ_rfl lm⟩

set_option maxHeartbeats 4000000 in
theorem c_X9_agesBy (l : Launch) (G : GS) (im : IM) (bt rt : Nat) (lm : IM) (h : RC im) (hA : AG im 1000) (h79 : im 30 0 7 ≤ 999) (s p q : Nat) (hs : s < 4) (hp : (p : Int) < im 30 0 12) (hq : q < 50) (many : Int) (hmany : many = 0 ∨ many = 1) : Cn l (XR G) yX9_agesBy Y_X9_agesBy [vR 30 0, vI (s : Int), vI (p : Int), vI (q : Int), vI many] (im, rs bt rt, lm) (pI fun x m' => ri x ∧ ∃ im' lm', RI im' ∧ agS im' im ∧ lgQ lm' lm ∧ m' = (im', rs bt rt, lm')) := by
  refine cn_of (by decide) (okR G) rfl (Nat.le_of_ble_eq_true rfl) ?_
  intro M ad hMl F
  subst hMl
  have hR := h.1
  have h12 := h.2.2.2.1
  refine wp_pad 4 ?_
  show Wp M (XR G) ad Y_X9_agesBy (pI fun x m' => ri x ∧ ∃ im' lm', RI im' ∧ agS im' im ∧ lgQ lm' lm ∧ m' = (im', rs bt rt, lm')) 0 [some (vR 30 0), some (vI (s : Int)), some (vI (p : Int)), some (vI (q : Int)), some (vI many), none, none, none, none] [] (im, rs bt rt, lm)
  refine q_aload_n (t := 1) F dX9_agesBy_0 rfl rfl rfl ?_
  refine g_X9_35 (t := 4) F dX9_agesBy_1 rfl rfl ?_
  refine q_iload_n (t := 5) F dX9_agesBy_4 rfl rfl rfl ?_
  first | refine ldN_37 (t := 6) F dX9_agesBy_5 (by omega) rfl ?_ | refine ld_37 (t := 6) F dX9_agesBy_5 (by omega) (by omega) rfl ?_
  refine q_istore (t := 8) F dX9_agesBy_6 (by decide) rfl rfl ?_
  refine q_iconst (t := 9) F dX9_agesBy_8 rfl ?_
  refine q_istore (t := 11) F dX9_agesBy_9 (by decide) rfl rfl ?_
  refine q_iconst (t := 12) F dX9_agesBy_11 rfl ?_
  refine q_istore (t := 14) F dX9_agesBy_12 (by decide) rfl rfl ?_
  refine q_iconst (t := 15) F dX9_agesBy_14 rfl ?_
  refine q_istore (t := 17) F dX9_agesBy_15 (by decide) rfl rfl ?_
  have L17 : ∀ (fz : Nat) (v : Nat) (c le : Int) (S lg : IM), 62 - v < fz → (v ≤ 61 ∧ (0 ≤ c ∧ c ≤ v) ∧ (-1 ≤ le ∧ le ≤ 60) ∧ RI S ∧ agS (up S 37 0 q (im 37 0 q)) im ∧ lgQ lg lm) → Wp M (XR G) ad Y_X9_agesBy (pI fun x m' => ri x ∧ ∃ im' lm', RI im' ∧ agS im' im ∧ lgQ lm' lm ∧ m' = (im', rs bt rt, lm')) 17 [some (vR 30 0), some (vI (s : Int)), some (vI (p : Int)), some (vI (q : Int)), some (vI many), some (vI (im 37 0 q)), some (vI c), some (vI le), some (vI (v : Int))] [] (S, rs bt rt, lg) := by
    intro fz
    induction fz with
    | zero => intro v c le S lg h; exact absurd h (Nat.not_lt_zero _)
    | succ fz ih =>
      have ih17 := ih
      intro v c le S lg hmeas ⟨hv, hc, hle, hRS, hag, hlg⟩
      refine q_iload (t := 19) F dX9_agesBy_17 rfl rfl ?_
      refine q_bipush (t := 21) F dX9_agesBy_19 (by decide) rfl ?_
      refine q_icmp_gt (t := 24) (u := 66) F dX9_agesBy_21 (by constructor <;> omega) (by constructor <;> omega) (by decide) rfl (fun c21 => ?_) (fun c21 => ?_)
      · refine q_aload_n (t := 67) F dX9_agesBy_66 rfl rfl rfl ?_
        refine g_X9_35 (t := 70) F dX9_agesBy_67 rfl rfl ?_
        refine q_iload_n (t := 71) F dX9_agesBy_70 rfl rfl rfl ?_
        refine q_iload (t := 73) F dX9_agesBy_71 rfl rfl ?_
        first | refine stN_37 (t := 74) F dX9_agesBy_73 (by omega) rfl ?_ | refine st_37 (t := 74) F dX9_agesBy_73 (by omega) (by omega) rfl ?_
        refine q_iload (t := 76) F dX9_agesBy_74 rfl rfl ?_
        refine q_if_eq (t := 79) (u := 84) F dX9_agesBy_76 (by constructor <;> omega) (by decide) rfl (fun c76 => ?_) (fun c76 => ?_)
        · refine q_iload (t := 86) F dX9_agesBy_84 rfl rfl ?_
          refine q_iret F dX9_agesBy_86 rfl ?_
          exact ⟨_, rfl, by constructor <;> omega, _, lg, RI_up hRS (hR _ _ _), hag, hlg, rfl⟩
        · refine q_iload (t := 81) F dX9_agesBy_79 rfl rfl ?_
          refine q_goto (t := 86) F dX9_agesBy_81 (by decide) ?_
          refine q_iret F dX9_agesBy_86 rfl ?_
          exact ⟨_, rfl, by constructor <;> omega, _, lg, RI_up hRS (hR _ _ _), hag, hlg, rfl⟩
      · refine q_aload_n (t := 25) F dX9_agesBy_24 rfl rfl rfl ?_
        refine g_X9_35 (t := 28) F dX9_agesBy_25 rfl rfl ?_
        refine q_iload_n (t := 29) F dX9_agesBy_28 rfl rfl rfl ?_
        refine q_iload (t := 31) F dX9_agesBy_29 rfl rfl ?_
        first | refine stN_37 (t := 32) F dX9_agesBy_31 (by omega) rfl ?_ | refine st_37 (t := 32) F dX9_agesBy_31 (by omega) (by omega) rfl ?_
        have hag1 := agS_try (v : Int) hag
        have hRS1 : RI (up S 37 0 q (v : Int)) := RI_up hRS (by constructor <;> omega)
        have hRC1 : RC (up S 37 0 q (v : Int)) := (RC_one h (k := 37) (s := q) (v := (v : Int)) (Or.inr ⟨rfl, by omega, by omega⟩)).S hRS1 hag1
        have hA1 : AG (up S 37 0 q (v : Int)) 1000 := (AG_one hA (k := 37) (s := q) (v := (v : Int)) (Or.inr ⟨rfl, by omega⟩)).C hag1.C.1
        refine q_aload_n (t := 33) F dX9_agesBy_32 rfl rfl rfl ?_
        refine q_iload_n (t := 34) F dX9_agesBy_33 rfl rfl rfl ?_
        refine q_iload_n (t := 35) F dX9_agesBy_34 rfl rfl rfl ?_
        refine wp_callV (t := 38) [_, _] F dX9_agesBy_35 k_X9_firstOther v_X9_firstOther ml_X9_430 rfl rfl rfl rfl (Nat.le_of_ble_eq_true rfl) (by decide) (m_30 (by omega)) (c_X9_firstOther _ G (up S 37 0 q (v : Int)) bt rt lg hRC1 hA1 (by rw [hag1.C.2, up_app, if_neg (by omega)]; exact h79) s p hs (by rw [hag1.C.1.2.2.2.2.2, up_app, if_neg (by omega)]; exact hp)) rfl (kI ?_)
        rintro x35 m' ⟨hx35, im2, lg2, hR2, hag2, hlg2, rfl⟩
        have hbk := agS_bk hag hag2
        refine q_iconst (t := 39) F dX9_agesBy_38 rfl ?_
        refine q_icmp_ne (t := 42) (u := 60) F dX9_agesBy_39 (by constructor <;> omega) (by constructor <;> omega) (by decide) rfl (fun c39 => ?_) (fun c39 => ?_)
        · refine q_iinc (t := 63) F dX9_agesBy_60 rfl (by decide) rfl rfl ?_
          refine q_goto (t := 17) F dX9_agesBy_63 (by decide) ?_
          rw [show (v : Int) + 1 = ((v + 1 : Nat) : Int) by omega]
          first
            | exact ih17 (v + 1) (c + 1) (v : Int) im2 lg2 (by omega) ⟨by omega, by omega, by omega, hR2, hbk, hlg2.trans hlg⟩
            | exact ih17 (v + 1) (c + 1) le im2 lg2 (by omega) ⟨by omega, by omega, by omega, hR2, hbk, hlg2.trans hlg⟩
            | exact ih17 (v + 1) c le im2 lg2 (by omega) ⟨by omega, by omega, by omega, hR2, hbk, hlg2.trans hlg⟩
        · refine q_iinc (t := 45) F dX9_agesBy_42 rfl (by decide) rfl rfl ?_
          refine q_iload (t := 47) F dX9_agesBy_45 rfl rfl ?_
          refine q_iconst (t := 48) F dX9_agesBy_47 rfl ?_
          refine q_icmp_ne (t := 51) (u := 56) F dX9_agesBy_48 (by constructor <;> omega) (by constructor <;> omega) (by decide) rfl (fun c48 => ?_) (fun c48 => ?_)
          · refine q_iload (t := 58) F dX9_agesBy_56 rfl rfl ?_
            refine q_istore (t := 60) F dX9_agesBy_58 (by decide) rfl rfl ?_
            refine q_iinc (t := 63) F dX9_agesBy_60 rfl (by decide) rfl rfl ?_
            refine q_goto (t := 17) F dX9_agesBy_63 (by decide) ?_
            rw [show (v : Int) + 1 = ((v + 1 : Nat) : Int) by omega]
            first
              | exact ih17 (v + 1) (c + 1) (v : Int) im2 lg2 (by omega) ⟨by omega, by omega, by omega, hR2, hbk, hlg2.trans hlg⟩
              | exact ih17 (v + 1) (c + 1) le im2 lg2 (by omega) ⟨by omega, by omega, by omega, hR2, hbk, hlg2.trans hlg⟩
              | exact ih17 (v + 1) c le im2 lg2 (by omega) ⟨by omega, by omega, by omega, hR2, hbk, hlg2.trans hlg⟩
          · refine q_iload (t := 53) F dX9_agesBy_51 rfl rfl ?_
            refine q_goto (t := 58) F dX9_agesBy_53 (by decide) ?_
            refine q_istore (t := 60) F dX9_agesBy_58 (by decide) rfl rfl ?_
            refine q_iinc (t := 63) F dX9_agesBy_60 rfl (by decide) rfl rfl ?_
            refine q_goto (t := 17) F dX9_agesBy_63 (by decide) ?_
            rw [show (v : Int) + 1 = ((v + 1 : Nat) : Int) by omega]
            first
              | exact ih17 (v + 1) (c + 1) (v : Int) im2 lg2 (by omega) ⟨by omega, by omega, by omega, hR2, hbk, hlg2.trans hlg⟩
              | exact ih17 (v + 1) (c + 1) le im2 lg2 (by omega) ⟨by omega, by omega, by omega, hR2, hbk, hlg2.trans hlg⟩
              | exact ih17 (v + 1) c le im2 lg2 (by omega) ⟨by omega, by omega, by omega, hR2, hbk, hlg2.trans hlg⟩
  exact L17 _ 0 0 (-1) im lm (Nat.lt_succ_self _) ⟨by omega, by omega, by omega, hR, agS_id _ _ (agS_rfl im), lgQ_rfl lm⟩

theorem tdR_23 {im : IM} {p : Nat} (hp : (p : Int) < im 30 0 12) : tdR im p 2 = im 35 0 p ∧ tdR im p 3 = im 34 0 p := by
  have hp0 : (0 : Int) ≤ p := by omega
  constructor <;> (unfold tdR; rw [if_pos (by omega)]; (repeat (first | rw [if_pos (by omega)] | rw [if_neg (by omega)])); rw [Int.toNat_natCast])

set_option maxHeartbeats 4000000 in
theorem c_X9_tells (l : Launch) (G : GS) (im : IM) (bt rt : Nat) (lm : IM) (h : RC im) (hA : AG im 1000) (h79 : im 30 0 7 ≤ 999) (hSH : SH im) (s p what : Int) (hs : ri s) (hp : ri p) (hwhat : ri what) : Cn l (XR G) yX9_tells Y_X9_tells [vR 30 0, vI s, vI p, vI what] (im, rs bt rt, lm) (pI fun x m' => ri x ∧ ∃ im' lm', RI im' ∧ agS im' im ∧ lgQ lm' lm ∧ m' = (im', rs bt rt, lm')) := by
  refine cn_of (by decide) (okR G) rfl (Nat.le_of_ble_eq_true rfl) ?_
  intro M ad hMl F
  subst hMl
  have hR := h.1
  have hX := h.2.1
  have h4 := h.2.2.1
  have h12 := h.2.2.2.1
  have h7 := h.2.2.2.2.1
  have h6 := hX.2.2.1
  have h3 := hX.2.2.2.1
  have hP := h.2.2.2.2.2.2
  have hR := h.1
  have s1 := hs.1
  have s2 := hs.2
  have p1 := hp.1
  have p2 := hp.2
  have what1 := hwhat.1
  have what2 := hwhat.2
  refine wp_pad 1 ?_
  show Wp M (XR G) ad Y_X9_tells (pI fun x m' => ri x ∧ ∃ im' lm', RI im' ∧ agS im' im ∧ lgQ lm' lm ∧ m' = (im', rs bt rt, lm')) 0 [some (vR 30 0), some (vI s), some (vI p), some (vI what), none] [] (im, rs bt rt, lm)
  refine q_iload_n (t := 1) F dX9_tells_0 rfl rfl rfl ?_
  refine wp_callS (t := 4) [_] F dX9_tells_1 k_X9_isSheet st_X9_isSheet ml_X9_421 rfl rfl (Nat.le_of_ble_eq_true rfl) (by decide) (c_X9_isSheet _ G im bt rt lm s (by constructor <;> omega)) rfl (kI ?_)
  rintro x1 m' ⟨hx1, rfl⟩
  have hx1 := if01 hx1
  refine q_if_eq (t := 7) (u := 41) F dX9_tells_4 (by first | exact hR _ _ _ | (constructor <;> omega)) (by decide) rfl (fun c4 => ?_) (fun c4 => ?_)
  · refine q_bipush (t := 43) F dX9_tells_41 (by decide) rfl ?_
    refine q_iret F dX9_tells_43 rfl ?_
    first
      | exact ⟨_, rfl, by constructor <;> omega, im, lm, hR, agS_rfl im, lgQ_rfl lm, rfl⟩
      | exact ⟨_, rfl, by first | assumption | (constructor <;> omega), im2, lm2, hR2, hag2, hlg2, rfl⟩
  · refine q_aload_n (t := 8) F dX9_tells_7 rfl rfl rfl ?_
    refine q_iload_n (t := 9) F dX9_tells_8 rfl rfl rfl ?_
    refine wp_callV (t := 12) [_] F dX9_tells_9 k_X9_isOne v_X9_isOne ml_X9_101 rfl rfl rfl rfl (Nat.le_of_ble_eq_true rfl) (by decide) (m_30 (by omega)) (c_X9_isOne _ G im bt rt lm hR h12.1 h12.2 p (by constructor <;> omega)) rfl (kI ?_)
    rintro x9 m' ⟨hx9, rfl⟩
    have hx9 := if01 hx9
    refine q_if_eq (t := 15) (u := 41) F dX9_tells_12 (by first | exact hR _ _ _ | (constructor <;> omega)) (by decide) rfl (fun c12 => ?_) (fun c12 => ?_)
    · refine q_bipush (t := 43) F dX9_tells_41 (by decide) rfl ?_
      refine q_iret F dX9_tells_43 rfl ?_
      first
        | exact ⟨_, rfl, by constructor <;> omega, im, lm, hR, agS_rfl im, lgQ_rfl lm, rfl⟩
        | exact ⟨_, rfl, by first | assumption | (constructor <;> omega), im2, lm2, hR2, hag2, hlg2, rfl⟩
    · refine q_iload_n (t := 16) F dX9_tells_15 rfl rfl rfl ?_
      refine q_i2l (t := 17) F dX9_tells_16 (by first | exact hR _ _ _ | (constructor <;> omega)) rfl ?_
      refine q_lconst (t := 18) (x := 0) F dX9_tells_17 (by decide) rfl ?_
      refine q_ldc2 (t := 21) (x := 3) F dX9_tells_18 kl_X9_433 (by decide) rfl ?_
      refine wp_callS (t := 24) [_, _, _] F dX9_tells_21 k_X9_in st_X9_in ml_X9_91 rfl rfl (Nat.le_of_ble_eq_true rfl) (by decide) (c_X9_in _ G _ _ _ _ _ _ _ (by constructor <;> omega) (by constructor <;> omega) (by constructor <;> omega)) rfl (kI ?_)
      rintro x21 m' ⟨hx21, rfl⟩
      have hx21 := if01 hx21
      refine q_if_ne (t := 27) (u := 44) F dX9_tells_24 (by first | exact hR _ _ _ | (constructor <;> omega)) (by decide) rfl (fun c24 => ?_) (fun c24 => ?_)
      · obtain ⟨s, rfl⟩ : ∃ j : Nat, s = (j : Int) := ⟨s.toNat, by omega⟩
        obtain ⟨p, rfl⟩ : ∃ j : Nat, p = (j : Int) := ⟨p.toNat, by omega⟩
        refine q_aload_n (t := 45) F dX9_tells_44 rfl rfl rfl ?_
        refine g_X9_68 (t := 48) F dX9_tells_45 rfl rfl ?_
        refine q_iload_n (t := 49) F dX9_tells_48 rfl rfl rfl ?_
        first | refine ldN_47 (t := 50) F dX9_tells_49 (by omega) rfl ?_ | refine ld_47 (t := 50) F dX9_tells_49 (by omega) (by omega) rfl ?_
        try simp only [up_app, row_app, scr_app, cpy_app, Nat.reduceEqDiff, Int.reduceToNat, Int.toNat_natCast, and_true, true_and, and_false, false_and, and_self, reduceIte]
        refine q_if_ne (t := 53) (u := 56) F dX9_tells_50 (by exact hR _ _ _) (by decide) rfl (fun c50 => ?_) (fun c50 => ?_)
        · refine q_aload_n (t := 57) F dX9_tells_56 rfl rfl rfl ?_
          refine g_X9_75 (t := 60) F dX9_tells_57 rfl rfl ?_
          refine q_iload_n (t := 61) F dX9_tells_60 rfl rfl rfl ?_
          first | refine ldN_49 (t := 62) F dX9_tells_61 (by omega) rfl ?_ | refine ld_49 (t := 62) F dX9_tells_61 (by omega) (by omega) rfl ?_
          try simp only [up_app, row_app, scr_app, cpy_app, Nat.reduceEqDiff, Int.reduceToNat, Int.toNat_natCast, and_true, true_and, and_false, false_and, and_self, reduceIte]
          refine q_bipush (t := 64) F dX9_tells_62 (by decide) rfl ?_
          refine q_icmp_eq (t := 67) (u := 70) F dX9_tells_64 (by exact hR _ _ _) (by constructor <;> omega) (by decide) rfl (fun c64 => ?_) (fun c64 => ?_)
          · refine q_iload_n (t := 71) F dX9_tells_70 rfl rfl rfl ?_
            refine q_iconst (t := 72) F dX9_tells_71 rfl ?_
            refine q_icmp_ge (t := 75) (u := 134) F dX9_tells_72 (by first | exact hR _ _ _ | (constructor <;> omega)) (by first | exact hR _ _ _ | (constructor <;> omega)) (by decide) rfl (fun c72 => ?_) (fun c72 => ?_)
            · refine q_bipush (t := 136) F dX9_tells_134 (by decide) rfl ?_
              refine q_iload_n (t := 137) F dX9_tells_136 rfl rfl rfl ?_
              refine q_imul (t := 138) F dX9_tells_137 rfl ?_
              refine q_iload_n (t := 139) F dX9_tells_138 rfl rfl rfl ?_
              refine q_bipush (t := 141) F dX9_tells_139 (by decide) rfl ?_
              refine q_irem (t := 142) F dX9_tells_141 (by first | exact hR _ _ _ | (constructor <;> omega)) (by first | exact hR _ _ _ | (constructor <;> omega)) (by omega) (by omega) rfl ?_
              refine q_iadd (t := 143) F dX9_tells_142 rfl ?_
              rw [show (10 : Int) * (p : Int) + what % 10 = ((10 * p + (what % 10).toNat : Nat) : Int) by omega]
              refine q_istore (t := 145) F dX9_tells_143 (by decide) rfl rfl ?_
              refine q_aload_n (t := 146) F dX9_tells_145 rfl rfl rfl ?_
              refine g_X9_32 (t := 149) F dX9_tells_146 rfl rfl ?_
              refine q_iload (t := 151) F dX9_tells_149 rfl rfl ?_
              first | refine ldN_36 (t := 152) F dX9_tells_151 (by omega) rfl ?_ | refine ld_36 (t := 152) F dX9_tells_151 (by omega) (by omega) rfl ?_
              try simp only [up_app, row_app, scr_app, cpy_app, Nat.reduceEqDiff, Int.reduceToNat, Int.toNat_natCast, and_true, true_and, and_false, false_and, and_self, reduceIte]
              refine q_iconst (t := 153) F dX9_tells_152 rfl ?_
              refine q_icmp_ne (t := 156) (u := 168) F dX9_tells_153 (by first | exact hR _ _ _ | (constructor <;> omega)) (by first | exact hR _ _ _ | (constructor <;> omega)) (by decide) rfl (fun c153 => ?_) (fun c153 => ?_)
              · refine q_iload_n (t := 169) F dX9_tells_168 rfl rfl rfl ?_
                refine q_bipush (t := 171) F dX9_tells_169 (by decide) rfl ?_
                refine q_icmp_ge (t := 174) (u := 185) F dX9_tells_171 (by first | exact hR _ _ _ | (constructor <;> omega)) (by first | exact hR _ _ _ | (constructor <;> omega)) (by decide) rfl (fun c171 => ?_) (fun c171 => ?_)
                · refine q_aload_n (t := 186) F dX9_tells_185 rfl rfl rfl ?_
                  refine q_iload_n (t := 187) F dX9_tells_186 rfl rfl rfl ?_
                  refine q_iload_n (t := 188) F dX9_tells_187 rfl rfl rfl ?_
                  refine q_iload (t := 190) F dX9_tells_188 rfl rfl ?_
                  refine q_iload_n (t := 191) F dX9_tells_190 rfl rfl rfl ?_
                  refine q_bipush (t := 193) F dX9_tells_191 (by decide) rfl ?_
                  refine q_icmp_ge (t := 196) (u := 200) F dX9_tells_193 (by first | exact hR _ _ _ | (constructor <;> omega)) (by first | exact hR _ _ _ | (constructor <;> omega)) (by decide) rfl (fun c193 => ?_) (fun c193 => ?_)
                  · refine q_iconst (t := 201) F dX9_tells_200 rfl ?_
                    refine wp_callV (t := 204) [_, _, _, _] F dX9_tells_201 k_X9_agesBy v_X9_agesBy ml_X9_442 rfl rfl rfl rfl (Nat.le_of_ble_eq_true rfl) (by decide) (m_30 (by omega)) (c_X9_agesBy _ G im bt rt lm h hA h79 s p (10 * p + (what % 10).toNat) (by omega) (by omega) (by omega) _ (by omega)) rfl (kI ?_)
                    rintro x201 m' ⟨hx201, im2, lm2, hR2, hag2, hlg2, rfl⟩
                    refine q_iret F dX9_tells_204 rfl ?_
                    first
                      | exact ⟨_, rfl, by constructor <;> omega, im, lm, hR, agS_rfl im, lgQ_rfl lm, rfl⟩
                      | exact ⟨_, rfl, by first | assumption | (constructor <;> omega), im2, lm2, hR2, hag2, hlg2, rfl⟩
                  · refine q_iconst (t := 197) F dX9_tells_196 rfl ?_
                    refine q_goto (t := 201) F dX9_tells_197 (by decide) ?_
                    refine wp_callV (t := 204) [_, _, _, _] F dX9_tells_201 k_X9_agesBy v_X9_agesBy ml_X9_442 rfl rfl rfl rfl (Nat.le_of_ble_eq_true rfl) (by decide) (m_30 (by omega)) (c_X9_agesBy _ G im bt rt lm h hA h79 s p (10 * p + (what % 10).toNat) (by omega) (by omega) (by omega) _ (by omega)) rfl (kI ?_)
                    rintro x201 m' ⟨hx201, im2, lm2, hR2, hag2, hlg2, rfl⟩
                    refine q_iret F dX9_tells_204 rfl ?_
                    first
                      | exact ⟨_, rfl, by constructor <;> omega, im, lm, hR, agS_rfl im, lgQ_rfl lm, rfl⟩
                      | exact ⟨_, rfl, by first | assumption | (constructor <;> omega), im2, lm2, hR2, hag2, hlg2, rfl⟩
                · refine q_aload_n (t := 175) F dX9_tells_174 rfl rfl rfl ?_
                  refine q_iload_n (t := 176) F dX9_tells_175 rfl rfl rfl ?_
                  refine q_iload_n (t := 177) F dX9_tells_176 rfl rfl rfl ?_
                  refine q_iload (t := 179) F dX9_tells_177 rfl rfl ?_
                  refine wp_callV (t := 182) [_, _, _] F dX9_tells_179 k_X9_wordsBy v_X9_wordsBy ml_X9_439 rfl rfl rfl rfl (Nat.le_of_ble_eq_true rfl) (by decide) (m_30 (by omega)) (c_X9_wordsBy _ G im bt rt lm h hA h79 s p (10 * p + (what % 10).toNat) (by omega) (by omega) (by omega) (by omega)) rfl (kI ?_)
                  rintro x179 m' ⟨hx179, im2, lm2, hR2, hag2, hlg2, rfl⟩
                  refine q_goto (t := 204) F dX9_tells_182 (by decide) ?_
                  refine q_iret F dX9_tells_204 rfl ?_
                  first
                    | exact ⟨_, rfl, by constructor <;> omega, im, lm, hR, agS_rfl im, lgQ_rfl lm, rfl⟩
                    | exact ⟨_, rfl, by first | assumption | (constructor <;> omega), im2, lm2, hR2, hag2, hlg2, rfl⟩
              · refine q_iload_n (t := 157) F dX9_tells_156 rfl rfl rfl ?_
                refine q_bipush (t := 159) F dX9_tells_157 (by decide) rfl ?_
                refine q_icmp_ge (t := 162) (u := 166) F dX9_tells_159 (by first | exact hR _ _ _ | (constructor <;> omega)) (by first | exact hR _ _ _ | (constructor <;> omega)) (by decide) rfl (fun c159 => ?_) (fun c159 => ?_)
                · refine q_iconst (t := 167) F dX9_tells_166 rfl ?_
                  refine q_iret F dX9_tells_167 rfl ?_
                  first
                    | exact ⟨_, rfl, by constructor <;> omega, im, lm, hR, agS_rfl im, lgQ_rfl lm, rfl⟩
                    | exact ⟨_, rfl, by first | assumption | (constructor <;> omega), im2, lm2, hR2, hag2, hlg2, rfl⟩
                · refine q_iconst (t := 163) F dX9_tells_162 rfl ?_
                  refine q_goto (t := 167) F dX9_tells_163 (by decide) ?_
                  refine q_iret F dX9_tells_167 rfl ?_
                  first
                    | exact ⟨_, rfl, by constructor <;> omega, im, lm, hR, agS_rfl im, lgQ_rfl lm, rfl⟩
                    | exact ⟨_, rfl, by first | assumption | (constructor <;> omega), im2, lm2, hR2, hag2, hlg2, rfl⟩
            · refine q_iload_n (t := 76) F dX9_tells_75 rfl rfl rfl ?_
              refine q_if_ne (t := 79) (u := 88) F dX9_tells_76 (by first | exact hR _ _ _ | (constructor <;> omega)) (by decide) rfl (fun c76 => ?_) (fun c76 => ?_)
              · refine q_iload_n (t := 89) F dX9_tells_88 rfl rfl rfl ?_
                refine q_iconst (t := 90) F dX9_tells_89 rfl ?_
                refine q_icmp_ne (t := 93) (u := 105) F dX9_tells_90 (by first | exact hR _ _ _ | (constructor <;> omega)) (by first | exact hR _ _ _ | (constructor <;> omega)) (by decide) rfl (fun c90 => ?_) (fun c90 => ?_)
                · refine q_iload_n (t := 106) F dX9_tells_105 rfl rfl rfl ?_
                  refine q_iconst (t := 107) F dX9_tells_106 rfl ?_
                  refine q_icmp_ne (t := 110) (u := 122) F dX9_tells_107 (by first | exact hR _ _ _ | (constructor <;> omega)) (by first | exact hR _ _ _ | (constructor <;> omega)) (by decide) rfl (fun c107 => ?_) (fun c107 => ?_)
                  · refine q_aload_n (t := 123) F dX9_tells_122 rfl rfl rfl ?_
                    refine q_iload_n (t := 124) F dX9_tells_123 rfl rfl rfl ?_
                    refine q_iload_n (t := 125) F dX9_tells_124 rfl rfl rfl ?_
                    refine q_iconst (t := 126) F dX9_tells_125 rfl ?_
                    refine q_aload_n (t := 127) F dX9_tells_126 rfl rfl rfl ?_
                    refine g_X9_85 (t := 130) F dX9_tells_127 rfl rfl ?_
                    try simp only [up_app, row_app, scr_app, cpy_app, Nat.reduceEqDiff, Int.reduceToNat, Int.toNat_natCast, and_true, true_and, and_false, false_and, and_self, reduceIte]
                    rw [show vI (im 30 0 3) = vI (((im 30 0 3).toNat : Nat) : Int) by rw [Int.toNat_of_nonneg (by omega)]]
                    refine wp_callV (t := 133) [_, _, _, _] F dX9_tells_130 k_X9_setBy v_X9_setBy ml_X9_435 rfl rfl rfl rfl (Nat.le_of_ble_eq_true rfl) (by decide) (m_30 (by omega)) (c_X9_setBy _ G im bt rt lm h hA h79 s p (by omega) (by omega) 4 (by omega) (im 30 0 3).toNat (by omega) 30 4 (by omega) (fun S v => rfl) (fun _ => by exact absurd rfl ‹_›) (fun z => by omega) (fun v hv => ⟨RC_ly h (what := 4) (p := p) (v := (v : Int)) (by omega), AG_ly hA 4 (v : Int) p⟩)) rfl (kI ?_)
                    rintro x130 m' ⟨hx130, im2, lm2, hR2, hag2, hlg2, rfl⟩
                    refine q_iret F dX9_tells_133 rfl ?_
                    first
                      | exact ⟨_, rfl, by constructor <;> omega, im, lm, hR, agS_rfl im, lgQ_rfl lm, rfl⟩
                      | exact ⟨_, rfl, by first | assumption | (constructor <;> omega), im2, lm2, hR2, hag2, hlg2, rfl⟩
                  · refine q_aload_n (t := 111) F dX9_tells_110 rfl rfl rfl ?_
                    refine q_iload_n (t := 112) F dX9_tells_111 rfl rfl rfl ?_
                    refine q_iload_n (t := 113) F dX9_tells_112 rfl rfl rfl ?_
                    refine q_iconst (t := 114) F dX9_tells_113 rfl ?_
                    refine q_bipush (t := 116) F dX9_tells_114 (by decide) rfl ?_
                    refine wp_callV (t := 119) [_, _, _, _] F dX9_tells_116 k_X9_setBy v_X9_setBy ml_X9_435 rfl rfl rfl rfl (Nat.le_of_ble_eq_true rfl) (by decide) (m_30 (by omega)) (c_X9_setBy _ G im bt rt lm h hA h79 s p (by omega) (by omega) 2 (by omega) 10 (by omega) 35 p (by omega) (fun S v => rfl) (fun _ => (tdR_23 (by omega)).1) (fun z => by omega) (fun v hv => ⟨RC_ly h (what := 2) (p := p) (v := (v : Int)) (by omega), AG_ly hA 2 (v : Int) p⟩)) rfl (kI ?_)
                    rintro x116 m' ⟨hx116, im2, lm2, hR2, hag2, hlg2, rfl⟩
                    refine q_goto (t := 133) F dX9_tells_119 (by decide) ?_
                    refine q_iret F dX9_tells_133 rfl ?_
                    first
                      | exact ⟨_, rfl, by constructor <;> omega, im, lm, hR, agS_rfl im, lgQ_rfl lm, rfl⟩
                      | exact ⟨_, rfl, by first | assumption | (constructor <;> omega), im2, lm2, hR2, hag2, hlg2, rfl⟩
                · refine q_aload_n (t := 94) F dX9_tells_93 rfl rfl rfl ?_
                  refine q_iload_n (t := 95) F dX9_tells_94 rfl rfl rfl ?_
                  refine q_iload_n (t := 96) F dX9_tells_95 rfl rfl rfl ?_
                  refine q_iconst (t := 97) F dX9_tells_96 rfl ?_
                  refine q_bipush (t := 99) F dX9_tells_97 (by decide) rfl ?_
                  refine wp_callV (t := 102) [_, _, _, _] F dX9_tells_99 k_X9_setBy v_X9_setBy ml_X9_435 rfl rfl rfl rfl (Nat.le_of_ble_eq_true rfl) (by decide) (m_30 (by omega)) (c_X9_setBy _ G im bt rt lm h hA h79 s p (by omega) (by omega) 3 (by omega) 6 (by omega) 34 p (by omega) (fun S v => rfl) (fun _ => (tdR_23 (by omega)).2) (fun z => by omega) (fun v hv => ⟨RC_ly h (what := 3) (p := p) (v := (v : Int)) (by omega), AG_ly hA 3 (v : Int) p⟩)) rfl (kI ?_)
                  rintro x99 m' ⟨hx99, im2, lm2, hR2, hag2, hlg2, rfl⟩
                  refine q_goto (t := 133) F dX9_tells_102 (by decide) ?_
                  refine q_iret F dX9_tells_133 rfl ?_
                  first
                    | exact ⟨_, rfl, by constructor <;> omega, im, lm, hR, agS_rfl im, lgQ_rfl lm, rfl⟩
                    | exact ⟨_, rfl, by first | assumption | (constructor <;> omega), im2, lm2, hR2, hag2, hlg2, rfl⟩
              · refine q_aload_n (t := 80) F dX9_tells_79 rfl rfl rfl ?_
                refine q_iload_n (t := 81) F dX9_tells_80 rfl rfl rfl ?_
                refine q_iload_n (t := 82) F dX9_tells_81 rfl rfl rfl ?_
                refine wp_callV (t := 85) [_, _] F dX9_tells_82 k_X9_firstOther v_X9_firstOther ml_X9_430 rfl rfl rfl rfl (Nat.le_of_ble_eq_true rfl) (by decide) (m_30 (by omega)) (c_X9_firstOther _ G im bt rt lm h hA h79 s p (by omega) (by omega)) rfl (kI ?_)
                rintro x82 m' ⟨hx82, im2, lm2, hR2, hag2, hlg2, rfl⟩
                refine q_goto (t := 133) F dX9_tells_85 (by decide) ?_
                refine q_iret F dX9_tells_133 rfl ?_
                first
                  | exact ⟨_, rfl, by constructor <;> omega, im, lm, hR, agS_rfl im, lgQ_rfl lm, rfl⟩
                  | exact ⟨_, rfl, by first | assumption | (constructor <;> omega), im2, lm2, hR2, hag2, hlg2, rfl⟩
          · refine q_bipush (t := 69) F dX9_tells_67 (by decide) rfl ?_
            refine q_iret F dX9_tells_69 rfl ?_
            first
              | exact ⟨_, rfl, by constructor <;> omega, im, lm, hR, agS_rfl im, lgQ_rfl lm, rfl⟩
              | exact ⟨_, rfl, by first | assumption | (constructor <;> omega), im2, lm2, hR2, hag2, hlg2, rfl⟩
        · refine q_bipush (t := 55) F dX9_tells_53 (by decide) rfl ?_
          refine q_iret F dX9_tells_55 rfl ?_
          first
            | exact ⟨_, rfl, by constructor <;> omega, im, lm, hR, agS_rfl im, lgQ_rfl lm, rfl⟩
            | exact ⟨_, rfl, by first | assumption | (constructor <;> omega), im2, lm2, hR2, hag2, hlg2, rfl⟩
      · refine q_iload_n (t := 28) F dX9_tells_27 rfl rfl rfl ?_
        refine q_i2l (t := 29) F dX9_tells_28 (by first | exact hR _ _ _ | (constructor <;> omega)) rfl ?_
        refine q_ldc2 (t := 32) (x := 10) F dX9_tells_29 kl_X9_127 (by decide) rfl ?_
        refine q_ldc2 (t := 35) (x := 39) F dX9_tells_32 kl_X9_129 (by decide) rfl ?_
        refine wp_callS (t := 38) [_, _, _] F dX9_tells_35 k_X9_in st_X9_in ml_X9_91 rfl rfl (Nat.le_of_ble_eq_true rfl) (by decide) (c_X9_in _ G _ _ _ _ _ _ _ (by constructor <;> omega) (by constructor <;> omega) (by constructor <;> omega)) rfl (kI ?_)
        rintro x35 m' ⟨hx35, rfl⟩
        have hx35 := if01 hx35
        refine q_if_ne (t := 41) (u := 44) F dX9_tells_38 (by first | exact hR _ _ _ | (constructor <;> omega)) (by decide) rfl (fun c38 => ?_) (fun c38 => ?_)
        · obtain ⟨s, rfl⟩ : ∃ j : Nat, s = (j : Int) := ⟨s.toNat, by omega⟩
          obtain ⟨p, rfl⟩ : ∃ j : Nat, p = (j : Int) := ⟨p.toNat, by omega⟩
          refine q_aload_n (t := 45) F dX9_tells_44 rfl rfl rfl ?_
          refine g_X9_68 (t := 48) F dX9_tells_45 rfl rfl ?_
          refine q_iload_n (t := 49) F dX9_tells_48 rfl rfl rfl ?_
          first | refine ldN_47 (t := 50) F dX9_tells_49 (by omega) rfl ?_ | refine ld_47 (t := 50) F dX9_tells_49 (by omega) (by omega) rfl ?_
          try simp only [up_app, row_app, scr_app, cpy_app, Nat.reduceEqDiff, Int.reduceToNat, Int.toNat_natCast, and_true, true_and, and_false, false_and, and_self, reduceIte]
          refine q_if_ne (t := 53) (u := 56) F dX9_tells_50 (by exact hR _ _ _) (by decide) rfl (fun c50 => ?_) (fun c50 => ?_)
          · refine q_aload_n (t := 57) F dX9_tells_56 rfl rfl rfl ?_
            refine g_X9_75 (t := 60) F dX9_tells_57 rfl rfl ?_
            refine q_iload_n (t := 61) F dX9_tells_60 rfl rfl rfl ?_
            first | refine ldN_49 (t := 62) F dX9_tells_61 (by omega) rfl ?_ | refine ld_49 (t := 62) F dX9_tells_61 (by omega) (by omega) rfl ?_
            try simp only [up_app, row_app, scr_app, cpy_app, Nat.reduceEqDiff, Int.reduceToNat, Int.toNat_natCast, and_true, true_and, and_false, false_and, and_self, reduceIte]
            refine q_bipush (t := 64) F dX9_tells_62 (by decide) rfl ?_
            refine q_icmp_eq (t := 67) (u := 70) F dX9_tells_64 (by exact hR _ _ _) (by constructor <;> omega) (by decide) rfl (fun c64 => ?_) (fun c64 => ?_)
            · refine q_iload_n (t := 71) F dX9_tells_70 rfl rfl rfl ?_
              refine q_iconst (t := 72) F dX9_tells_71 rfl ?_
              refine q_icmp_ge (t := 75) (u := 134) F dX9_tells_72 (by first | exact hR _ _ _ | (constructor <;> omega)) (by first | exact hR _ _ _ | (constructor <;> omega)) (by decide) rfl (fun c72 => ?_) (fun c72 => ?_)
              · refine q_bipush (t := 136) F dX9_tells_134 (by decide) rfl ?_
                refine q_iload_n (t := 137) F dX9_tells_136 rfl rfl rfl ?_
                refine q_imul (t := 138) F dX9_tells_137 rfl ?_
                refine q_iload_n (t := 139) F dX9_tells_138 rfl rfl rfl ?_
                refine q_bipush (t := 141) F dX9_tells_139 (by decide) rfl ?_
                refine q_irem (t := 142) F dX9_tells_141 (by first | exact hR _ _ _ | (constructor <;> omega)) (by first | exact hR _ _ _ | (constructor <;> omega)) (by omega) (by omega) rfl ?_
                refine q_iadd (t := 143) F dX9_tells_142 rfl ?_
                rw [show (10 : Int) * (p : Int) + what % 10 = ((10 * p + (what % 10).toNat : Nat) : Int) by omega]
                refine q_istore (t := 145) F dX9_tells_143 (by decide) rfl rfl ?_
                refine q_aload_n (t := 146) F dX9_tells_145 rfl rfl rfl ?_
                refine g_X9_32 (t := 149) F dX9_tells_146 rfl rfl ?_
                refine q_iload (t := 151) F dX9_tells_149 rfl rfl ?_
                first | refine ldN_36 (t := 152) F dX9_tells_151 (by omega) rfl ?_ | refine ld_36 (t := 152) F dX9_tells_151 (by omega) (by omega) rfl ?_
                try simp only [up_app, row_app, scr_app, cpy_app, Nat.reduceEqDiff, Int.reduceToNat, Int.toNat_natCast, and_true, true_and, and_false, false_and, and_self, reduceIte]
                refine q_iconst (t := 153) F dX9_tells_152 rfl ?_
                refine q_icmp_ne (t := 156) (u := 168) F dX9_tells_153 (by first | exact hR _ _ _ | (constructor <;> omega)) (by first | exact hR _ _ _ | (constructor <;> omega)) (by decide) rfl (fun c153 => ?_) (fun c153 => ?_)
                · refine q_iload_n (t := 169) F dX9_tells_168 rfl rfl rfl ?_
                  refine q_bipush (t := 171) F dX9_tells_169 (by decide) rfl ?_
                  refine q_icmp_ge (t := 174) (u := 185) F dX9_tells_171 (by first | exact hR _ _ _ | (constructor <;> omega)) (by first | exact hR _ _ _ | (constructor <;> omega)) (by decide) rfl (fun c171 => ?_) (fun c171 => ?_)
                  · refine q_aload_n (t := 186) F dX9_tells_185 rfl rfl rfl ?_
                    refine q_iload_n (t := 187) F dX9_tells_186 rfl rfl rfl ?_
                    refine q_iload_n (t := 188) F dX9_tells_187 rfl rfl rfl ?_
                    refine q_iload (t := 190) F dX9_tells_188 rfl rfl ?_
                    refine q_iload_n (t := 191) F dX9_tells_190 rfl rfl rfl ?_
                    refine q_bipush (t := 193) F dX9_tells_191 (by decide) rfl ?_
                    refine q_icmp_ge (t := 196) (u := 200) F dX9_tells_193 (by first | exact hR _ _ _ | (constructor <;> omega)) (by first | exact hR _ _ _ | (constructor <;> omega)) (by decide) rfl (fun c193 => ?_) (fun c193 => ?_)
                    · refine q_iconst (t := 201) F dX9_tells_200 rfl ?_
                      refine wp_callV (t := 204) [_, _, _, _] F dX9_tells_201 k_X9_agesBy v_X9_agesBy ml_X9_442 rfl rfl rfl rfl (Nat.le_of_ble_eq_true rfl) (by decide) (m_30 (by omega)) (c_X9_agesBy _ G im bt rt lm h hA h79 s p (10 * p + (what % 10).toNat) (by omega) (by omega) (by omega) _ (by omega)) rfl (kI ?_)
                      rintro x201 m' ⟨hx201, im2, lm2, hR2, hag2, hlg2, rfl⟩
                      refine q_iret F dX9_tells_204 rfl ?_
                      first
                        | exact ⟨_, rfl, by constructor <;> omega, im, lm, hR, agS_rfl im, lgQ_rfl lm, rfl⟩
                        | exact ⟨_, rfl, by first | assumption | (constructor <;> omega), im2, lm2, hR2, hag2, hlg2, rfl⟩
                    · refine q_iconst (t := 197) F dX9_tells_196 rfl ?_
                      refine q_goto (t := 201) F dX9_tells_197 (by decide) ?_
                      refine wp_callV (t := 204) [_, _, _, _] F dX9_tells_201 k_X9_agesBy v_X9_agesBy ml_X9_442 rfl rfl rfl rfl (Nat.le_of_ble_eq_true rfl) (by decide) (m_30 (by omega)) (c_X9_agesBy _ G im bt rt lm h hA h79 s p (10 * p + (what % 10).toNat) (by omega) (by omega) (by omega) _ (by omega)) rfl (kI ?_)
                      rintro x201 m' ⟨hx201, im2, lm2, hR2, hag2, hlg2, rfl⟩
                      refine q_iret F dX9_tells_204 rfl ?_
                      first
                        | exact ⟨_, rfl, by constructor <;> omega, im, lm, hR, agS_rfl im, lgQ_rfl lm, rfl⟩
                        | exact ⟨_, rfl, by first | assumption | (constructor <;> omega), im2, lm2, hR2, hag2, hlg2, rfl⟩
                  · refine q_aload_n (t := 175) F dX9_tells_174 rfl rfl rfl ?_
                    refine q_iload_n (t := 176) F dX9_tells_175 rfl rfl rfl ?_
                    refine q_iload_n (t := 177) F dX9_tells_176 rfl rfl rfl ?_
                    refine q_iload (t := 179) F dX9_tells_177 rfl rfl ?_
                    refine wp_callV (t := 182) [_, _, _] F dX9_tells_179 k_X9_wordsBy v_X9_wordsBy ml_X9_439 rfl rfl rfl rfl (Nat.le_of_ble_eq_true rfl) (by decide) (m_30 (by omega)) (c_X9_wordsBy _ G im bt rt lm h hA h79 s p (10 * p + (what % 10).toNat) (by omega) (by omega) (by omega) (by omega)) rfl (kI ?_)
                    rintro x179 m' ⟨hx179, im2, lm2, hR2, hag2, hlg2, rfl⟩
                    refine q_goto (t := 204) F dX9_tells_182 (by decide) ?_
                    refine q_iret F dX9_tells_204 rfl ?_
                    first
                      | exact ⟨_, rfl, by constructor <;> omega, im, lm, hR, agS_rfl im, lgQ_rfl lm, rfl⟩
                      | exact ⟨_, rfl, by first | assumption | (constructor <;> omega), im2, lm2, hR2, hag2, hlg2, rfl⟩
                · refine q_iload_n (t := 157) F dX9_tells_156 rfl rfl rfl ?_
                  refine q_bipush (t := 159) F dX9_tells_157 (by decide) rfl ?_
                  refine q_icmp_ge (t := 162) (u := 166) F dX9_tells_159 (by first | exact hR _ _ _ | (constructor <;> omega)) (by first | exact hR _ _ _ | (constructor <;> omega)) (by decide) rfl (fun c159 => ?_) (fun c159 => ?_)
                  · refine q_iconst (t := 167) F dX9_tells_166 rfl ?_
                    refine q_iret F dX9_tells_167 rfl ?_
                    first
                      | exact ⟨_, rfl, by constructor <;> omega, im, lm, hR, agS_rfl im, lgQ_rfl lm, rfl⟩
                      | exact ⟨_, rfl, by first | assumption | (constructor <;> omega), im2, lm2, hR2, hag2, hlg2, rfl⟩
                  · refine q_iconst (t := 163) F dX9_tells_162 rfl ?_
                    refine q_goto (t := 167) F dX9_tells_163 (by decide) ?_
                    refine q_iret F dX9_tells_167 rfl ?_
                    first
                      | exact ⟨_, rfl, by constructor <;> omega, im, lm, hR, agS_rfl im, lgQ_rfl lm, rfl⟩
                      | exact ⟨_, rfl, by first | assumption | (constructor <;> omega), im2, lm2, hR2, hag2, hlg2, rfl⟩
              · refine q_iload_n (t := 76) F dX9_tells_75 rfl rfl rfl ?_
                refine q_if_ne (t := 79) (u := 88) F dX9_tells_76 (by first | exact hR _ _ _ | (constructor <;> omega)) (by decide) rfl (fun c76 => ?_) (fun c76 => ?_)
                · refine q_iload_n (t := 89) F dX9_tells_88 rfl rfl rfl ?_
                  refine q_iconst (t := 90) F dX9_tells_89 rfl ?_
                  refine q_icmp_ne (t := 93) (u := 105) F dX9_tells_90 (by first | exact hR _ _ _ | (constructor <;> omega)) (by first | exact hR _ _ _ | (constructor <;> omega)) (by decide) rfl (fun c90 => ?_) (fun c90 => ?_)
                  · refine q_iload_n (t := 106) F dX9_tells_105 rfl rfl rfl ?_
                    refine q_iconst (t := 107) F dX9_tells_106 rfl ?_
                    refine q_icmp_ne (t := 110) (u := 122) F dX9_tells_107 (by first | exact hR _ _ _ | (constructor <;> omega)) (by first | exact hR _ _ _ | (constructor <;> omega)) (by decide) rfl (fun c107 => ?_) (fun c107 => ?_)
                    · refine q_aload_n (t := 123) F dX9_tells_122 rfl rfl rfl ?_
                      refine q_iload_n (t := 124) F dX9_tells_123 rfl rfl rfl ?_
                      refine q_iload_n (t := 125) F dX9_tells_124 rfl rfl rfl ?_
                      refine q_iconst (t := 126) F dX9_tells_125 rfl ?_
                      refine q_aload_n (t := 127) F dX9_tells_126 rfl rfl rfl ?_
                      refine g_X9_85 (t := 130) F dX9_tells_127 rfl rfl ?_
                      try simp only [up_app, row_app, scr_app, cpy_app, Nat.reduceEqDiff, Int.reduceToNat, Int.toNat_natCast, and_true, true_and, and_false, false_and, and_self, reduceIte]
                      rw [show vI (im 30 0 3) = vI (((im 30 0 3).toNat : Nat) : Int) by rw [Int.toNat_of_nonneg (by omega)]]
                      refine wp_callV (t := 133) [_, _, _, _] F dX9_tells_130 k_X9_setBy v_X9_setBy ml_X9_435 rfl rfl rfl rfl (Nat.le_of_ble_eq_true rfl) (by decide) (m_30 (by omega)) (c_X9_setBy _ G im bt rt lm h hA h79 s p (by omega) (by omega) 4 (by omega) (im 30 0 3).toNat (by omega) 30 4 (by omega) (fun S v => rfl) (fun _ => by exact absurd rfl ‹_›) (fun z => by omega) (fun v hv => ⟨RC_ly h (what := 4) (p := p) (v := (v : Int)) (by omega), AG_ly hA 4 (v : Int) p⟩)) rfl (kI ?_)
                      rintro x130 m' ⟨hx130, im2, lm2, hR2, hag2, hlg2, rfl⟩
                      refine q_iret F dX9_tells_133 rfl ?_
                      first
                        | exact ⟨_, rfl, by constructor <;> omega, im, lm, hR, agS_rfl im, lgQ_rfl lm, rfl⟩
                        | exact ⟨_, rfl, by first | assumption | (constructor <;> omega), im2, lm2, hR2, hag2, hlg2, rfl⟩
                    · refine q_aload_n (t := 111) F dX9_tells_110 rfl rfl rfl ?_
                      refine q_iload_n (t := 112) F dX9_tells_111 rfl rfl rfl ?_
                      refine q_iload_n (t := 113) F dX9_tells_112 rfl rfl rfl ?_
                      refine q_iconst (t := 114) F dX9_tells_113 rfl ?_
                      refine q_bipush (t := 116) F dX9_tells_114 (by decide) rfl ?_
                      refine wp_callV (t := 119) [_, _, _, _] F dX9_tells_116 k_X9_setBy v_X9_setBy ml_X9_435 rfl rfl rfl rfl (Nat.le_of_ble_eq_true rfl) (by decide) (m_30 (by omega)) (c_X9_setBy _ G im bt rt lm h hA h79 s p (by omega) (by omega) 2 (by omega) 10 (by omega) 35 p (by omega) (fun S v => rfl) (fun _ => (tdR_23 (by omega)).1) (fun z => by omega) (fun v hv => ⟨RC_ly h (what := 2) (p := p) (v := (v : Int)) (by omega), AG_ly hA 2 (v : Int) p⟩)) rfl (kI ?_)
                      rintro x116 m' ⟨hx116, im2, lm2, hR2, hag2, hlg2, rfl⟩
                      refine q_goto (t := 133) F dX9_tells_119 (by decide) ?_
                      refine q_iret F dX9_tells_133 rfl ?_
                      first
                        | exact ⟨_, rfl, by constructor <;> omega, im, lm, hR, agS_rfl im, lgQ_rfl lm, rfl⟩
                        | exact ⟨_, rfl, by first | assumption | (constructor <;> omega), im2, lm2, hR2, hag2, hlg2, rfl⟩
                  · refine q_aload_n (t := 94) F dX9_tells_93 rfl rfl rfl ?_
                    refine q_iload_n (t := 95) F dX9_tells_94 rfl rfl rfl ?_
                    refine q_iload_n (t := 96) F dX9_tells_95 rfl rfl rfl ?_
                    refine q_iconst (t := 97) F dX9_tells_96 rfl ?_
                    refine q_bipush (t := 99) F dX9_tells_97 (by decide) rfl ?_
                    refine wp_callV (t := 102) [_, _, _, _] F dX9_tells_99 k_X9_setBy v_X9_setBy ml_X9_435 rfl rfl rfl rfl (Nat.le_of_ble_eq_true rfl) (by decide) (m_30 (by omega)) (c_X9_setBy _ G im bt rt lm h hA h79 s p (by omega) (by omega) 3 (by omega) 6 (by omega) 34 p (by omega) (fun S v => rfl) (fun _ => (tdR_23 (by omega)).2) (fun z => by omega) (fun v hv => ⟨RC_ly h (what := 3) (p := p) (v := (v : Int)) (by omega), AG_ly hA 3 (v : Int) p⟩)) rfl (kI ?_)
                    rintro x99 m' ⟨hx99, im2, lm2, hR2, hag2, hlg2, rfl⟩
                    refine q_goto (t := 133) F dX9_tells_102 (by decide) ?_
                    refine q_iret F dX9_tells_133 rfl ?_
                    first
                      | exact ⟨_, rfl, by constructor <;> omega, im, lm, hR, agS_rfl im, lgQ_rfl lm, rfl⟩
                      | exact ⟨_, rfl, by first | assumption | (constructor <;> omega), im2, lm2, hR2, hag2, hlg2, rfl⟩
                · refine q_aload_n (t := 80) F dX9_tells_79 rfl rfl rfl ?_
                  refine q_iload_n (t := 81) F dX9_tells_80 rfl rfl rfl ?_
                  refine q_iload_n (t := 82) F dX9_tells_81 rfl rfl rfl ?_
                  refine wp_callV (t := 85) [_, _] F dX9_tells_82 k_X9_firstOther v_X9_firstOther ml_X9_430 rfl rfl rfl rfl (Nat.le_of_ble_eq_true rfl) (by decide) (m_30 (by omega)) (c_X9_firstOther _ G im bt rt lm h hA h79 s p (by omega) (by omega)) rfl (kI ?_)
                  rintro x82 m' ⟨hx82, im2, lm2, hR2, hag2, hlg2, rfl⟩
                  refine q_goto (t := 133) F dX9_tells_85 (by decide) ?_
                  refine q_iret F dX9_tells_133 rfl ?_
                  first
                    | exact ⟨_, rfl, by constructor <;> omega, im, lm, hR, agS_rfl im, lgQ_rfl lm, rfl⟩
                    | exact ⟨_, rfl, by first | assumption | (constructor <;> omega), im2, lm2, hR2, hag2, hlg2, rfl⟩
            · refine q_bipush (t := 69) F dX9_tells_67 (by decide) rfl ?_
              refine q_iret F dX9_tells_69 rfl ?_
              first
                | exact ⟨_, rfl, by constructor <;> omega, im, lm, hR, agS_rfl im, lgQ_rfl lm, rfl⟩
                | exact ⟨_, rfl, by first | assumption | (constructor <;> omega), im2, lm2, hR2, hag2, hlg2, rfl⟩
          · refine q_bipush (t := 55) F dX9_tells_53 (by decide) rfl ?_
            refine q_iret F dX9_tells_55 rfl ?_
            first
              | exact ⟨_, rfl, by constructor <;> omega, im, lm, hR, agS_rfl im, lgQ_rfl lm, rfl⟩
              | exact ⟨_, rfl, by first | assumption | (constructor <;> omega), im2, lm2, hR2, hag2, hlg2, rfl⟩
        · refine q_bipush (t := 43) F dX9_tells_41 (by decide) rfl ?_
          refine q_iret F dX9_tells_43 rfl ?_
          first
            | exact ⟨_, rfl, by constructor <;> omega, im, lm, hR, agS_rfl im, lgQ_rfl lm, rfl⟩
            | exact ⟨_, rfl, by first | assumption | (constructor <;> omega), im2, lm2, hR2, hag2, hlg2, rfl⟩
end
section
/-! BOTH: what the class holds and what the reference holds are the same -/

def PEO (C R : IM) : Prop := ∀ p : Nat, (p : Int) < R 30 0 12 → C 21 (5 * 0 + p) 0 = R 34 0 p ∧ C 21 (5 * 0 + p) 1 = R 35 0 p ∧ ∀ g, g < 10 → C 22 (5 * 0 + p) g = R 36 0 (10 * p + g) ∧ (C 22 (5 * 0 + p) g ≠ -1 → C 23 (5 * 0 + p) g = R 37 0 (10 * p + g))
def TXT (C R : IM) : Prop := C 0 0 8 = R 30 0 3 ∧ ∀ t : Nat, (t : Int) < R 30 0 3 → ∀ part, part < 3 → ∀ nm, tellV C t part nm = sayR R t part nm
def TPE (C R : IM) : Prop := C 14 0 1 = R 30 0 6 ∧ ∀ i : Nat, (i : Int) < R 30 0 6 → C 15 0 i = R 33 0 i
def KEP (C R : IM) : Prop := (C 0 0 9 = 0 ∧ R 30 0 46 = -1) ∨ (C 0 0 9 = 1 ∧ (0 ≤ R 30 0 46 ∧ R 30 0 46 ≤ R 30 0 12) ∧ (C 18 2 3 = R 30 0 46 ∧ C 18 2 4 = R 30 0 47 ∧ C 18 2 5 = R 30 0 48 ∧ C 18 2 6 = R 30 0 49 ∧ C 18 2 7 = R 30 0 50) ∧ ∀ p : Nat, (p : Int) < R 30 0 46 → C 21 (5 * 2 + p) 0 = R 34 0 p ∧ C 21 (5 * 2 + p) 1 = R 44 0 p ∧ ∀ g, g < 10 → C 22 (5 * 2 + p) g = R 45 0 (10 * p + g) ∧ (C 22 (5 * 2 + p) g ≠ -1 → C 23 (5 * 2 + p) g = R 46 0 (10 * p + g) ∧ R 46 0 (10 * p + g) ≤ 1000))
def SHE (C R : IM) : Prop := ∀ j, j < 4 → (C 7 j 1 = -1 ∧ R 47 0 j = 0) ∨ (C 7 j 1 ≠ -1 ∧ R 47 0 j = 1 ∧ R 48 0 j = C 7 j 1 ∧ R 49 0 j = C 7 j 2 ∧ ∀ i : Nat, (i : Int) < C 7 j 2 → C 8 j i = R 50 0 (40 * j + i))
def NUM (C R : IM) : Prop := C 18 0 3 = R 30 0 12 ∧ C 18 0 4 = R 30 0 7 ∧ C 18 0 5 = R 30 0 8 ∧ C 18 0 6 = R 30 0 9 ∧ C 18 0 7 = R 30 0 4
def REL (C R : IM) : Prop := SC C ∧ RI R ∧ RX R ∧ AG R 1000 ∧ NUM C R ∧ PEO C R ∧ TXT C R ∧ TPE C R ∧ KEP C R ∧ SHE C R
theorem PEO_c {C R C' R' : IM} (h : PEO C R) (e12 : R' 30 0 12 = R 30 0 12) (hC : ∀ k p s, 21 ≤ k → k ≤ 23 → p < 5 → C' k (5 * 0 + p) s = C k (5 * 0 + p) s) (hR : ∀ k s, 34 ≤ k → k ≤ 37 → R' k 0 s = R k 0 s) (h5 : R 30 0 12 ≤ 5) : PEO C' R' := by
  intro p hp
  rw [e12] at hp
  have q := h p hp
  have c := fun k s h1 h2 => hC k p s h1 h2 (by omega)
  rw [c 21 0 (by omega) (by omega), c 21 1 (by omega) (by omega), hR 34 _ (by omega) (by omega), hR 35 _ (by omega) (by omega)]
  refine ⟨q.1, q.2.1, fun g hg => ?_⟩
  rw [c 22 g (by omega) (by omega), c 23 g (by omega) (by omega), hR 36 _ (by omega) (by omega), hR 37 _ (by omega) (by omega)]
  exact q.2.2 g hg
theorem sayR_c {a b : IM} {t : Nat} (h31 : ∀ i, a 31 0 (160 * t + i) = b 31 0 (160 * t + i)) (h32 : a 32 0 t = b 32 0 t) (part : Nat) (nm : Nat → Int) : sayR a t part nm = sayR b t part nm := by
  unfold sayR
  have e31 : rowR a t = rowR b t := funext fun i => h31 i
  rw [h32, e31]
theorem TXT_c {C R C' R' : IM} (h : TXT C R) (e8 : C' 0 0 8 = C 0 0 8) (e3 : R' 30 0 3 = R 30 0 3) (hC : ∀ k j s, k = 3 ∨ k = 4 → C' k j s = C k j s) (hR : ∀ k s, 31 ≤ k → k ≤ 32 → R' k 0 s = R k 0 s) : TXT C' R' := by
  refine ⟨by rw [e8, e3]; exact h.1, fun t ht part hp nm => ?_⟩
  rw [e3] at ht
  rw [tellV_congr (fun s => hC 3 t s (Or.inl rfl)) (fun s => hC 4 t s (Or.inr rfl)), sayR_c (fun i => hR 31 _ (by omega) (by omega)) (hR 32 _ (by omega) (by omega))]
  exact h.2 t ht part hp nm
theorem TPE_c {C R C' R' : IM} (h : TPE C R) (e1 : C' 14 0 1 = C 14 0 1) (e6 : R' 30 0 6 = R 30 0 6) (hC : ∀ s, C' 15 0 s = C 15 0 s) (hR : ∀ s, R' 33 0 s = R 33 0 s) : TPE C' R' := by
  refine ⟨by rw [e1, e6]; exact h.1, fun i hi => ?_⟩
  rw [hC, hR]
  rw [e6] at hi
  exact h.2 i hi
theorem KEP_c {C R C' R' : IM} (h : KEP C R) (e9 : C' 0 0 9 = C 0 0 9) (h12 : R 30 0 12 ≤ R' 30 0 12) (hC : ∀ k i s, (k = 18 ∧ i = 2 ∧ 3 ≤ s ∧ s ≤ 7) ∨ (21 ≤ k ∧ k ≤ 23 ∧ 10 ≤ i ∧ i < 15) → C' k i s = C k i s) (hR : ∀ s, 46 ≤ s → s ≤ 50 → R' 30 0 s = R 30 0 s) (hR2 : ∀ k s, 44 ≤ k → k ≤ 46 → R' k 0 s = R k 0 s) (h34 : ∀ p : Nat, (p : Int) < R 30 0 12 → R' 34 0 p = R 34 0 p) (h5 : R 30 0 12 ≤ 5) : KEP C' R' := by
  rcases h with ⟨a, b⟩ | ⟨a, b, ⟨c1, c2, c3, c4, c5⟩, d⟩
  · exact Or.inl ⟨e9.trans a, (hR 46 (by omega) (by omega)).trans b⟩
  · refine Or.inr ⟨e9.trans a, by rw [hR 46 (by omega) (by omega)]; omega, ⟨?_, ?_, ?_, ?_, ?_⟩, fun p hp => ?_⟩
    · rw [hC 18 2 3 (by omega), hR 46 (by omega) (by omega)]; exact c1
    · rw [hC 18 2 4 (by omega), hR 47 (by omega) (by omega)]; exact c2
    · rw [hC 18 2 5 (by omega), hR 48 (by omega) (by omega)]; exact c3
    · rw [hC 18 2 6 (by omega), hR 49 (by omega) (by omega)]; exact c4
    · rw [hC 18 2 7 (by omega), hR 50 (by omega) (by omega)]; exact c5
    · rw [hR 46 (by omega) (by omega)] at hp
      have q := d p hp
      rw [hC 21 (5 * 2 + p) 0 (by omega), hC 21 (5 * 2 + p) 1 (by omega), h34 p (by omega), hR2 44 _ (by omega) (by omega)]
      refine ⟨q.1, q.2.1, fun g hg => ?_⟩
      rw [hC 22 (5 * 2 + p) g (by omega), hC 23 (5 * 2 + p) g (by omega), hR2 45 _ (by omega) (by omega), hR2 46 _ (by omega) (by omega)]
      exact q.2.2 g hg
theorem SHE_c {C R C' R' : IM} (h : SHE C R) (hC : ∀ k j s, (k = 7 ∧ (s = 1 ∨ s = 2)) ∨ k = 8 → C' k j s = C k j s) (hR : ∀ k s, 47 ≤ k → k ≤ 50 → R' k 0 s = R k 0 s) : SHE C' R' := by
  intro j hj
  rw [hC 7 j 1 (by omega), hC 7 j 2 (by omega), hR 47 j (by omega) (by omega), hR 48 j (by omega) (by omega), hR 49 j (by omega) (by omega)]
  rcases h j hj with q | ⟨a, b, c, d, e⟩
  · exact Or.inl q
  · exact Or.inr ⟨a, b, c, d, fun i hi => by rw [hC 8 j i (by omega), hR 50 _ (by omega) (by omega)]; exact e i hi⟩
theorem REL.h5 {C R : IM} (h : REL C R) : 0 ≤ R 30 0 12 ∧ R 30 0 12 ≤ 5 := by
  have w := h.1.2.1.1
  rw [h.2.2.2.2.1.1] at w
  exact w
/-- the class's cells may be others' that later calls can't tell apart -/
theorem REL.P {C R C' : IM} (h : REL C R) (hP : agP C' C) (hRI : RI C') : REL C' R := by
  have h5 := h.h5
  obtain ⟨hS, hRR, hX, hA, hN, hPe, hT, hTp, hK, hSh⟩ := h
  have e : ∀ k i s, per k i s → C' k i s = C k i s := hP.1
  have e18 : ∀ i s, i ≠ 1 → C' 18 i s = C 18 i s := fun i s hi => e 18 i s (by unfold per; omega)
  refine ⟨SC_agP hP hRI hS, hRR, hX, hA, ?_, PEO_c hPe rfl (fun k p s _ _ _ => e _ _ _ (by unfold per; omega)) (fun _ _ _ _ => rfl) h5.2, TXT_c hT (e _ _ _ (by unfold per; omega)) rfl (fun k j s _ => e _ _ _ (by unfold per; omega)) (fun _ _ _ _ => rfl), TPE_c hTp (e _ _ _ (by unfold per; omega)) rfl (fun s => e _ _ _ (by unfold per; omega)) (fun _ => rfl), KEP_c hK (e _ _ _ (by unfold per; omega)) (Int.le_refl _) (fun k i s _ => e _ _ _ (by unfold per; omega)) (fun _ _ _ => rfl) (fun _ _ _ _ => rfl) (fun _ _ => rfl) h5.2, SHE_c hSh (fun k j s _ => e _ _ _ (by unfold per; omega)) (fun _ _ _ _ => rfl)⟩
  obtain ⟨a, b, c, d, f⟩ := hN
  exact ⟨(e18 0 3 (by omega)).trans a, (e18 0 4 (by omega)).trans b, (e18 0 5 (by omega)).trans c, (e18 0 6 (by omega)).trans d, (e18 0 7 (by omega)).trans f⟩
/-- so may the reference's -/
theorem REL.S {C R R' : IM} (h : REL C R) (hP : agS R' R) (hRI : RI R') : REL C R' := by
  have h5 := h.h5
  obtain ⟨hS, hRR, hX, hA, hN, hPe, hT, hTp, hK, hSh⟩ := h
  have e : ∀ s, (s < 15 ∨ 40 < s) → R' 30 0 s = R 30 0 s := fun s hs => hP 30 s (by omega) (by omega)
  have r : ∀ k s, ¬ (38 ≤ k ∧ k ≤ 43) → k ≠ 30 → R' k 0 s = R k 0 s := fun k s h1 h2 => hP k s h1 (by omega)
  refine ⟨hS, hRI, hX.same (fun s => r _ _ (by omega) (by omega)) (fun s => r _ _ (by omega) (by omega)) (fun s => r _ _ (by omega) (by omega)) (e 3 (by omega)) (e 6 (by omega)), hA.C hP.C.1, ?_, PEO_c hPe (e 12 (by omega)) (fun _ _ _ _ _ _ => rfl) (fun k s _ _ => r _ _ (by omega) (by omega)) h5.2, TXT_c hT rfl (e 3 (by omega)) (fun _ _ _ _ => rfl) (fun k s _ _ => r _ _ (by omega) (by omega)), TPE_c hTp rfl (e 6 (by omega)) (fun _ => rfl) (fun s => r _ _ (by omega) (by omega)), KEP_c hK rfl (Int.le_of_eq (e 12 (by omega)).symm) (fun _ _ _ _ => rfl) (fun s _ _ => e s (by omega)) (fun k s _ _ => r _ _ (by omega) (by omega)) (fun p _ => r _ _ (by omega) (by omega)) h5.2, SHE_c hSh (fun _ _ _ _ => rfl) (fun k s _ _ => r _ _ (by omega) (by omega))⟩
  obtain ⟨a, b, c, d, f⟩ := hN
  exact ⟨a.trans (e 12 (by omega)).symm, b.trans (e 7 (by omega)).symm, c.trans (e 8 (by omega)).symm, d.trans (e 9 (by omega)).symm, f.trans (e 4 (by omega)).symm⟩
/-- the reference is in order then -/
theorem REL.RC {C R : IM} (h : REL C R) : RC R ∧ R 30 0 7 ≤ 999 ∧ SH R := by
  obtain ⟨hS, hRR, hX, hA, ⟨a3, a4, a5, a6, a7⟩, hPe, hT, hTp, hK, hSh⟩ := h
  obtain ⟨hR, hW, hh, htc, hru, hgt, hz, hrd, hsh, him, htp⟩ := hS
  obtain ⟨w1, w2, w3, w4, w5, w6⟩ := hW
  refine ⟨⟨hRR, hX, by rw [← a7, ← hT.1]; omega, by rw [← a3]; exact w1, by rw [← a4]; exact w2, by rw [← a5]; exact w3, fun p hp => ?_⟩, by rw [← a4]; exact hh, fun j hj => ?_⟩
  · have q := hPe p hp
    have v := w6 p (by rw [a3]; exact hp)
    unfold PI at v
    rw [q.1, q.2.1] at v
    refine ⟨v.1, v.2.1, fun g hg => ?_⟩
    have q2 := q.2.2 g hg
    have v2 := v.2.2 g hg
    rw [q2.1] at v2 q2
    refine ⟨v2.1, v2.2.1, fun z => ?_⟩
    have v3 := v2.2.2 z
    rw [q2.2 z] at v3
    exact v3
  · have s := hsh j hj
    rcases hSh j hj with ⟨a, b⟩ | ⟨a, b, c, d, e⟩
    · exact ⟨Or.inl b, fun z => absurd z (by omega)⟩
    · exact ⟨Or.inr b, fun _ => ⟨by omega, by omega⟩⟩
theorem REL.tell {C R : IM} (h : REL C R) {part : Nat} (hp : part < 3) (nm : Nat → Int) : tellV C (C 18 0 7).toNat part nm = TR R part nm := by
  have hRC := h.RC
  rw [h.2.2.2.2.1.2.2.2.2]
  exact h.2.2.2.2.2.2.1.2 _ (by have := hRC.1.2.2.1; omega) part hp nm
theorem goK_c {T T' : Nat → (Nat → Int) → Int} (hT : ∀ nm, T 1 nm = T' 1 nm) (k nb w a g h : Int) (n : Nat) : goK T k nb w a g h n = goK T' k nb w a g h n := by
  unfold goK
  split
  · rfl
  · have e : offK T k nb w a g h = offK T' k nb w a g h := by
      funext i
      unfold offK hoK
      rw [hT]
    rw [e]
theorem goW_eq {C R : IM} (h : REL C R) {p g : Nat} (hp : (p : Int) < R 30 0 12) (hg : g < 10) (n : Nat) : goesW C 0 p g n = goR R (10 * p + g) n := by
  have q := h.2.2.2.2.2.1 p hp
  have q2 := q.2.2 g hg
  have a4 := h.2.2.2.2.1.2.1
  unfold goesW goR
  rw [goK_c (T' := TR R) (fun nm => h.tell (by omega) nm), show (10 * p + g) / 10 = p by omega, show (10 * p + g) % 10 = g by omega, q.1, q.2.1, q2.1, a4]
  by_cases hw : C 22 (5 * 0 + p) g = -1
  · have hw2 : R 36 0 (10 * p + g) = -1 := by rw [← q2.1]; exact hw
    unfold goK
    rw [if_pos hw2, if_pos hw2]
  · rw [q2.2 hw]
theorem beW_eq {C R : IM} (h : REL C R) {p g : Nat} (hp : (p : Int) < R 30 0 12) (hg : g < 10) (hw : C 22 (5 * 0 + p) g ≠ -1) (x : Int) : bearsW C 0 p g x (chI (C 18 0 5) (C 18 0 4 + x)) = beT R (10 * p + g) x := by
  have q := h.2.2.2.2.2.1 p hp
  have q2 := q.2.2 g hg
  obtain ⟨a3, a4, a5, a6, a7⟩ := h.2.2.2.2.1
  unfold bearsW beT beK
  rw [h.tell (by omega), show (10 * p + g) / 10 = p by omega, show (10 * p + g) % 10 = g by omega, q.1, q.2.1, q2.2 hw, q2.1, a4, a5]
theorem when_eq {C R : IM} (h : REL C R) (n N : Nat) : whenF C 0 n N = whenR R n N := by
  unfold whenF whenR
  rw [h.2.2.2.2.1.1]
  split
  · rename_i hp
    rw [goW_eq h hp (by omega), show 10 * (N / 10) + N % 10 = N by omega]
  · rfl
theorem goes_ne {C : IM} {w p g n : Nat} (h : goesW C w p g n ≠ -1) : C 22 (5 * w + p) g ≠ -1 := by
  intro z
  exact h (by unfold goesW goK; rw [if_pos z])
theorem cost_eq {C R : IM} (h : REL C R) (n N : Nat) : costF C 0 n N = costR R n N := by
  unfold costF costR
  rw [when_eq h]
  split
  · rfl
  · rename_i hw
    have hp : ((N / 10 : Nat) : Int) < R 30 0 12 := Decidable.byContradiction fun y => hw (by unfold whenR; rw [if_neg y])
    have hne : C 22 (5 * 0 + N / 10) (N % 10) ≠ -1 := goes_ne (n := n) (by
      rw [goW_eq h hp (by omega), show 10 * (N / 10) + N % 10 = N by omega]
      intro z
      exact hw (by unfold whenR; rw [if_pos hp]; exact z))
    rw [beW_eq h hp (by omega) hne, show 10 * (N / 10) + N % 10 = N by omega]
theorem sum_eq {C R : IM} (h : REL C R) (n N : Nat) : sumF C 0 n N = smF (costR R n) N ∧ cntF C 0 n N = smF (cnR R n) N ∧ firstF C 0 n N = fstG (whenR R n) N := by
  induction N with
  | zero => exact ⟨rfl, rfl, rfl⟩
  | succ N ih =>
    obtain ⟨a, b, c⟩ := ih
    refine ⟨?_, ?_, ?_⟩
    · show sumF C 0 n N + costF C 0 n N = smF (costR R n) N + costR R n N
      rw [a, cost_eq h]
    · show cntF C 0 n N + (if whenF C 0 n N = -1 then 0 else 1) = smF (cnR R n) N + cnR R n N
      rw [b, when_eq h]
      rfl
    · show (if whenF C 0 n N ≠ -1 ∧ (firstF C 0 n N = -1 ∨ whenF C 0 n N < whenF C 0 n (firstF C 0 n N).toNat) then (N : Int) else firstF C 0 n N) = if whenR R n N ≠ -1 ∧ (fstG (whenR R n) N = -1 ∨ whenR R n N < whenR R n (fstG (whenR R n) N).toNat) then (N : Int) else fstG (whenR R n) N
      rw [c, when_eq h, when_eq h]
theorem cnt_eq {C R : IM} (h : REL C R) {p : Nat} (hp : (p : Int) < R 30 0 12) : cntW (C 22 (5 * 0 + p)) 10 = cntW (stR R p) 10 := cntW_c 10 fun g hg => ((h.2.2.2.2.2.1 p hp).2.2 g hg).1
theorem ut_eq {C R : IM} (h : REL C R) {p : Nat} (hp : (p : Int) < R 30 0 12) (w fd : Int) : takesW C 0 p w fd = gpR R p w fd ∧ uttW C 0 p w fd = utR R p w fd := by
  have q := h.2.2.2.2.2.1 p hp
  obtain ⟨a3, a4, a5, a6, a7⟩ := h.2.2.2.2.1
  have hv := h.RC.1.2.2.1
  have e : takesW C 0 p w fd = gpR R p w fd := by
    unfold takesW gpR nmW
    rw [h.tell (by omega), q.1, q.2.1, cnt_eq h hp, a4]
    rfl
  refine ⟨e, ?_⟩
  unfold uttW utR
  rw [e]
  by_cases h0 : 0 ≤ gpR R p w fd
  · have h9 : gpR R p w fd ≤ 9 := by
      have := takesR_in (k := R 34 0 p) (sayR_in R (R 30 0 4).toNat 0 (nmA w fd (R 30 0 7) (R 35 0 p) 0 (cntW (stR R p) 10)))
      exact this.2
    rw [(q.2.2 (gpR R p w fd).toNat (by omega)).1]
  · rw [if_neg (fun z => h0 z.1), if_neg (fun z => h0 z.1)]
end
section
/-! BOTH: what sets, comes, is filled, flossed, said, kissed keeps them the same -/

theorem REL_w {C R C' R' : IM} (h : REL C R) (hS : SC C') (hR : RI R') (hA : AG R' 1000) (hN : NUM C' R') (hP : PEO C' R') (hC : ∀ k i s, ¬ (k = 18 ∧ i = 0) → ¬ (21 ≤ k ∧ k ≤ 23 ∧ i < 5) → C' k i s = C k i s) (hR2 : ∀ k s, ¬ (34 ≤ k ∧ k ≤ 43) → ¬ (k = 30 ∧ (s = 4 ∨ s = 7 ∨ s = 8 ∨ s = 9 ∨ s = 12 ∨ 15 ≤ s ∧ s ≤ 33 ∨ 38 ≤ s ∧ s ≤ 40)) → R' k 0 s = R k 0 s) (h12 : R 30 0 12 ≤ R' 30 0 12) (h34 : ∀ p : Nat, (p : Int) < R 30 0 12 → R' 34 0 p = R 34 0 p) : REL C' R' := by
  have h5 := h.h5
  obtain ⟨-, hRR, hX, -, -, hPe, hT, hTp, hK, hSh⟩ := h
  have e : ∀ s, ¬ (s = 4 ∨ s = 7 ∨ s = 8 ∨ s = 9 ∨ s = 12 ∨ 15 ≤ s ∧ s ≤ 33 ∨ 38 ≤ s ∧ s ≤ 40) → R' 30 0 s = R 30 0 s := fun s hs => hR2 30 s (by omega) (by omega)
  have r : ∀ k s, ¬ (34 ≤ k ∧ k ≤ 43) → k ≠ 30 → R' k 0 s = R k 0 s := fun k s h1 h2 => hR2 k s h1 (by omega)
  exact ⟨hS, hR, hX.same (fun s => r _ _ (by omega) (by omega)) (fun s => r _ _ (by omega) (by omega)) (fun s => r _ _ (by omega) (by omega)) (e 3 (by omega)) (e 6 (by omega)), hA, hN, hP, TXT_c hT (hC _ _ _ (by omega) (by omega)) (e 3 (by omega)) (fun k j s _ => hC _ _ _ (by omega) (by omega)) (fun k s _ _ => r _ _ (by omega) (by omega)), TPE_c hTp (hC _ _ _ (by omega) (by omega)) (e 6 (by omega)) (fun s => hC _ _ _ (by omega) (by omega)) (fun s => r _ _ (by omega) (by omega)), KEP_c hK (hC _ _ _ (by omega) (by omega)) h12 (fun k i s _ => hC _ _ _ (by omega) (by omega)) (fun s _ _ => e s (by omega)) (fun k s _ _ => r _ _ (by omega) (by omega)) h34 h5.2, SHE_c hSh (fun k j s _ => hC _ _ _ (by omega) (by omega)) (fun k s _ _ => r _ _ (by omega) (by omega))⟩
theorem REL_set {C R : IM} (h : REL C R) {what of v : Int} (hv : ri v) (ok : (what = 0 ∧ 0 ≤ v ∧ v ≤ 999) ∨ (what = 1 ∧ 0 ≤ v ∧ v ≤ 16777215) ∨ (what = 2 ∧ (0 ≤ of ∧ of < R 30 0 12) ∧ 0 ≤ v ∧ v ≤ 9)) : REL (setM C what of v) (lyI R what of.toNat v) := by
  have hRC := h.RC.1
  have h5 := h.h5
  have hS' := SC_set (what := what) (of := of) h.1 hv
  have hRC' : RC (lyI R what of.toNat v) := RC_ly hRC (by omega)
  have hA' := AG_ly h.2.2.2.1 what v of.toNat
  obtain ⟨a3, a4, a5, a6, a7⟩ := h.2.2.2.2.1
  have hPe := h.2.2.2.2.2.1
  rcases ok with ⟨rfl, v0, v1⟩ | ⟨rfl, v0, v1⟩ | ⟨rfl, ⟨o0, o1⟩, v0, v1⟩
  · have e1 : setM C 0 of v = up C 18 0 4 v := by unfold setM; rw [if_pos rfl, if_pos (by omega)]
    have e2 : lyI R 0 of.toNat v = up R 30 0 7 v := by unfold lyI; rw [if_pos rfl]
    rw [e1] at hS' ⊢
    rw [e2] at hRC' hA' ⊢
    exact REL_w h hS' hRC'.1 hA' ⟨a3, rfl, a5, a6, a7⟩ (PEO_c hPe rfl (fun k p s _ _ _ => by rw [up_app, if_neg (by omega)]) (fun k s _ _ => by rw [up_app, if_neg (by omega)]) h5.2) (fun k i s x y => by rw [up_app, if_neg (by omega)]) (fun k s x y => by rw [up_app, if_neg (by omega)]) (Int.le_refl _) (fun _ _ => rfl)
  · have e1 : setM C 1 of v = up C 18 0 5 v := by unfold setM; rw [if_neg (by omega), if_pos rfl, if_pos (by omega)]
    have e2 : lyI R 1 of.toNat v = up R 30 0 8 v := by unfold lyI; rw [if_neg (by omega), if_pos rfl]
    rw [e1] at hS' ⊢
    rw [e2] at hRC' hA' ⊢
    exact REL_w h hS' hRC'.1 hA' ⟨a3, a4, rfl, a6, a7⟩ (PEO_c hPe rfl (fun k p s _ _ _ => by rw [up_app, if_neg (by omega)]) (fun k s _ _ => by rw [up_app, if_neg (by omega)]) h5.2) (fun k i s x y => by rw [up_app, if_neg (by omega)]) (fun k s x y => by rw [up_app, if_neg (by omega)]) (Int.le_refl _) (fun _ _ => rfl)
  · have e1 : setM C 2 of v = up C 21 (5 * 0 + of.toNat) 1 v := by unfold setM; rw [if_neg (by omega), if_neg (by omega), if_pos (by omega)]
    have e2 : lyI R 2 of.toNat v = up R 35 0 of.toNat v := by unfold lyI; rw [if_neg (by omega), if_neg (by omega), if_pos rfl]
    rw [e1] at hS' ⊢
    rw [e2] at hRC' hA' ⊢
    refine REL_w h hS' hRC'.1 hA' ⟨a3, a4, a5, a6, a7⟩ (fun p hp => ?_) (fun k i s x y => by rw [up_app, if_neg (by omega)]) (fun k s x y => by rw [up_app, if_neg (by omega)]) (Int.le_refl _) (fun _ _ => rfl)
    have q := hPe p hp
    rw [up_app, if_neg (show ¬ (21 = 21 ∧ 5 * 0 + p = 5 * 0 + of.toNat ∧ 0 = 1) by omega), up_app, if_neg (show ¬ (34 = 35 ∧ 0 = 0 ∧ p = of.toNat) by omega), up_app, up_app]
    refine ⟨q.1, ?_, fun g hg => ?_⟩
    · by_cases z : p = of.toNat
      · rw [if_pos ⟨rfl, by omega, rfl⟩, if_pos ⟨rfl, rfl, z⟩]
      · rw [if_neg (by omega), if_neg (by omega)]
        exact q.2.1
    · rw [up_app, if_neg (by omega), up_app, if_neg (by omega), up_app, if_neg (by omega), up_app, if_neg (by omega)]
      exact q.2.2 g hg
theorem REL_set0 {C R : IM} (h : REL C R) {what of v : Int} (ok : ¬ ((what = 0 ∧ 0 ≤ v ∧ v ≤ 999) ∨ (what = 1 ∧ 0 ≤ v ∧ v ≤ 16777215) ∨ (what = 2 ∧ (0 ≤ of ∧ of < R 30 0 12) ∧ 0 ≤ v ∧ v ≤ 9))) : setM C what of v = C := by
  have a3 := h.2.2.2.2.1.1
  unfold setM
  (repeat' split) <;> first | rfl | (exfalso; omega)
theorem REL_man {C R : IM} (h : REL C R) {a c : Int} (ha : ri a) (hc : ri c) : REL (manM C a c) (mnI R a c) := by
  have hRC := h.RC.1
  have h5 := h.h5
  have hS' := SC_man h.1 ha hc
  have hRC' := RC_mn hRC a c
  obtain ⟨a3, a4, a5, a6, a7⟩ := h.2.2.2.2.1
  have hPe := h.2.2.2.2.2.1
  by_cases ok : ((0 ≤ a ∧ a ≤ 5) ∧ (0 ≤ c ∧ c ≤ 9)) ∧ R 30 0 12 ≠ 5
  · have e1 : manM C a c = welM C 0 a c := by unfold manM; rw [if_pos (by omega)]
    have e2 : mnI R a c = up (fiR (up (up R 34 0 (R 30 0 12).toNat a) 35 0 (R 30 0 12).toNat c) (10 * (R 30 0 12).toNat) 10 (-1)) 30 0 12 (R 30 0 12 + 1) := by unfold mnI; rw [if_pos ok]
    have f12 : mnI R a c 30 0 12 = R 30 0 12 + 1 := by rw [e2, up_app, if_pos ⟨rfl, rfl, rfl⟩]
    have fo : ∀ k s, ¬ (k = 30 ∧ s = 12) → mnI R a c k 0 s = fiR (up (up R 34 0 (R 30 0 12).toNat a) 35 0 (R 30 0 12).toNat c) (10 * (R 30 0 12).toNat) 10 (-1) k 0 s := fun k s z => by rw [e2, up_app, if_neg (by omega)]
    have f34 : ∀ k s, k = 34 ∨ k = 35 → mnI R a c k 0 s = if s = (R 30 0 12).toNat then (if k = 34 then a else c) else R k 0 s := fun k s z => by
      rw [fo k s (by omega)]
      unfold fiR
      rw [if_neg (by omega), up_app, up_app]
      rcases z with rfl | rfl
      · rw [if_neg (by omega)]
        by_cases y : s = (R 30 0 12).toNat
        · rw [if_pos ⟨rfl, rfl, y⟩, if_pos y, if_pos rfl]
        · rw [if_neg (by omega), if_neg y]
      · by_cases y : s = (R 30 0 12).toNat
        · rw [if_pos ⟨rfl, rfl, y⟩, if_pos y, if_neg (by omega)]
        · rw [if_neg (by omega), if_neg (by omega), if_neg y]
    have f36 : ∀ s, mnI R a c 36 0 s = if 10 * (R 30 0 12).toNat ≤ s ∧ s < 10 * (R 30 0 12).toNat + 10 then -1 else R 36 0 s := fun s => by
      rw [fo 36 s (by omega)]
      unfold fiR
      by_cases y : 10 * (R 30 0 12).toNat ≤ s ∧ s < 10 * (R 30 0 12).toNat + 10
      · rw [if_pos ⟨rfl, rfl, y.1, y.2⟩, if_pos y]
      · rw [if_neg (by omega), if_neg y, up_app, if_neg (by omega), up_app, if_neg (by omega)]
    have m3 : (C 18 0 3).toNat = (R 30 0 12).toNat := by rw [a3]
    have g3 : welM C 0 a c 18 0 3 = C 18 0 3 + 1 := by unfold welM; rw [up_app, if_pos ⟨rfl, rfl, rfl⟩]
    have g18 : ∀ s, s ≠ 3 → welM C 0 a c 18 0 s = C 18 0 s := fun s z => by
      unfold welM
      rw [up_app, if_neg (by omega), fl_app, if_neg (by omega), up_app, if_neg (by omega), up_app, if_neg (by omega)]
    have g21 : ∀ p s, s < 2 → welM C 0 a c 21 (5 * 0 + p) s = if p = (R 30 0 12).toNat then (if s = 0 then a else c) else C 21 (5 * 0 + p) s := fun p s z => by
      unfold welM
      rw [m3, up_app, if_neg (by omega), fl_app, if_neg (by omega), up_app, up_app]
      by_cases y : p = (R 30 0 12).toNat
      · rw [if_pos y]
        by_cases x : s = 0
        · rw [if_neg (by omega), if_pos ⟨rfl, by omega, x⟩, if_pos x]
        · rw [if_pos ⟨rfl, by omega, by omega⟩, if_neg x]
      · rw [if_neg (by omega), if_neg (by omega), if_neg y]
    have g22 : ∀ p g, g < 10 → welM C 0 a c 22 (5 * 0 + p) g = if p = (R 30 0 12).toNat then -1 else C 22 (5 * 0 + p) g := fun p g z => by
      unfold welM
      rw [m3, up_app, if_neg (by omega), fl_app]
      by_cases y : p = (R 30 0 12).toNat
      · rw [if_pos ⟨rfl, by omega, z⟩, if_pos y]
      · rw [if_neg (by omega), if_neg y, up_app, if_neg (by omega), up_app, if_neg (by omega)]
    have g23 : ∀ p g, welM C 0 a c 23 (5 * 0 + p) g = C 23 (5 * 0 + p) g := fun p g => by
      unfold welM
      rw [up_app, if_neg (by omega), fl_app, if_neg (by omega), up_app, if_neg (by omega), up_app, if_neg (by omega)]
    rw [e1] at hS' ⊢
    have hA' : AG (mnI R a c) 1000 := fun q hq hne => by
      rw [f12] at hq
      rw [f36] at hne
      rw [mnI_o R a c (by omega) (by omega)]
      split at hne
      · exact absurd rfl hne
      · exact h.2.2.2.1 q (by omega) hne
    refine REL_w h hS' hRC'.1 hA' ⟨by rw [g3, f12, a3], by rw [g18 4 (by omega), mnI_o R a c (by omega) (by omega)]; exact a4, by rw [g18 5 (by omega), mnI_o R a c (by omega) (by omega)]; exact a5, by rw [g18 6 (by omega), mnI_o R a c (by omega) (by omega)]; exact a6, by rw [g18 7 (by omega), mnI_o R a c (by omega) (by omega)]; exact a7⟩ (fun p hp => ?_) (fun k i s x y => ?_) (fun k s x y => mnI_o R a c (by omega) (by omega)) (by rw [f12]; omega) (fun p hp => by rw [f34 34 p (by omega), if_neg (by omega)])
    · rw [f12] at hp
      rw [g21 p 0 (by omega), g21 p 1 (by omega), f34 34 p (by omega), f34 35 p (by omega)]
      by_cases y : p = (R 30 0 12).toNat
      · rw [if_pos y, if_pos y, if_pos y, if_pos y, if_pos rfl, if_pos rfl, if_neg (by omega), if_neg (by omega)]
        refine ⟨rfl, rfl, fun g hg => ?_⟩
        rw [g22 p g hg, if_pos y, f36, if_pos (by omega)]
        exact ⟨rfl, fun z => absurd rfl z⟩
      · rw [if_neg y, if_neg y, if_neg y, if_neg y]
        have q := hPe p (by omega)
        refine ⟨q.1, q.2.1, fun g hg => ?_⟩
        rw [g22 p g hg, if_neg y, f36, if_neg (by omega), g23, mnI_o R a c (by omega) (by omega)]
        exact q.2.2 g hg
    · unfold welM
      rw [up_app, if_neg (by omega), fl_app, if_neg (by omega), up_app, if_neg (by omega), up_app, if_neg (by omega)]
  · have e1 : manM C a c = C := by unfold manM; rw [if_neg (by omega)]
    have e2 : mnI R a c = R := by unfold mnI; rw [if_neg ok]
    rw [e1, e2]
    exact h
theorem manA_eq {C R : IM} (h : REL C R) (a c : Int) : manA C a c = mnA R a c := by
  have a3 := h.2.2.2.2.1.1
  have h5 := h.h5
  unfold manA mnA
  (repeat' split) <;> omega
/-- a word laid down with its age; taken out -/
theorem PEO_put {C R : IM} (h : PEO C R) (p g : Nat) (w a : Int) (hg : g < 10) : PEO (up (up C 22 (5 * 0 + p) g w) 23 (5 * 0 + p) g a) (up (up R 36 0 (10 * p + g) w) 37 0 (10 * p + g) a) := by
  intro m hm
  have q := h m hm
  refine ⟨?_, ?_, fun i hi => ?_⟩
  · rw [up_app, if_neg (by omega), up_app, if_neg (by omega), up_app, if_neg (by omega), up_app, if_neg (by omega)]
    exact q.1
  · rw [up_app, if_neg (by omega), up_app, if_neg (by omega), up_app, if_neg (by omega), up_app, if_neg (by omega)]
    exact q.2.1
  · have q2 := q.2.2 i hi
    simp only [up_app]
    by_cases z : m = p ∧ i = g
    · obtain ⟨rfl, rfl⟩ := z
      simp
    · have z1 : ¬ (5 * 0 + m = 5 * 0 + p ∧ i = g) := by omega
      have z2 : ¬ (10 * m + i = 10 * p + g) := by omega
      rw [if_neg (by omega), if_neg (by omega), if_neg (by omega), if_neg (by omega), if_neg (by omega), if_neg (by omega), if_neg (by omega), if_neg (by omega)]
      exact q2
theorem PEO_out {C R : IM} (h : PEO C R) (p g : Nat) (hg : g < 10) : PEO (up C 22 (5 * 0 + p) g (-1)) (up R 36 0 (10 * p + g) (-1)) := by
  intro m hm
  have q := h m hm
  refine ⟨?_, ?_, fun i hi => ?_⟩
  · rw [up_app, if_neg (by omega), up_app, if_neg (by omega)]
    exact q.1
  · rw [up_app, if_neg (by omega), up_app, if_neg (by omega)]
    exact q.2.1
  · have q2 := q.2.2 i hi
    rw [up_app, up_app, up_app, if_neg (show ¬ (23 = 22 ∧ 5 * 0 + m = 5 * 0 + p ∧ i = g) by omega), up_app, if_neg (show ¬ (37 = 36 ∧ 0 = 0 ∧ 10 * m + i = 10 * p + g) by omega)]
    by_cases z : m = p ∧ i = g
    · rw [if_pos (by omega), if_pos (by omega)]
      exact ⟨rfl, fun y => absurd rfl y⟩
    · rw [if_neg (by omega), if_neg (by omega)]
      exact q2
theorem REL_put {C R : IM} (h : REL C R) {p g : Nat} {w a : Int} (hS : SC (up (up C 22 (5 * 0 + p) g w) 23 (5 * 0 + p) g a)) (hp : p < 5) (hg : g < 10) (hw : -1 ≤ w ∧ w < 16) (ha : 0 ≤ a ∧ a ≤ 1000) : REL (up (up C 22 (5 * 0 + p) g w) 23 (5 * 0 + p) g a) (up (up R 36 0 (10 * p + g) w) 37 0 (10 * p + g) a) := by
  have hRC' := RC_put h.RC.1 (s := 10 * p + g) (w := w) (a := a) hw (by omega)
  refine REL_w h hS hRC'.1 (fun q hq hne => ?_) h.2.2.2.2.1 (PEO_put h.2.2.2.2.2.1 p g w a hg) (fun k i s x y => by rw [up_app, if_neg (by omega), up_app, if_neg (by omega)]) (fun k s x y => by rw [up_app, if_neg (by omega), up_app, if_neg (by omega)]) (Int.le_refl _) (fun _ _ => rfl)
  have hq : (q : Int) < 10 * R 30 0 12 := hq
  have g9 := h.2.2.2.1 q hq
  rw [up_app]
  split
  · exact ha.2
  · rename_i z
    rw [up_app, if_neg (by omega), up_app, if_neg (by omega)] at hne
    rw [up_app, if_neg (by omega)]
    exact g9 hne
theorem REL_fill {C R : IM} (h : REL C R) {p g w hr : Int} (ok : (0 ≤ p ∧ p < R 30 0 12) ∧ (0 ≤ g ∧ g ≤ 9) ∧ (-1 ≤ w ∧ w ≤ 15) ∧ 0 ≤ hr ∧ hr ≤ 999) : REL (fillM C p g w hr) (up (up R 36 0 (10 * p.toNat + g.toNat) w) 37 0 (10 * p.toNat + g.toNat) hr) := by
  have a3 := h.2.2.2.2.1.1
  have h5 := h.h5
  have e1 : fillM C p g w hr = up (up C 22 (5 * 0 + p.toNat) g.toNat w) 23 (5 * 0 + p.toNat) g.toNat hr := by unfold fillM; rw [if_pos (by omega)]
  have hS := SC_fill (man := p) (gap := g) (w := w) (hours := hr) h.1
  rw [e1] at hS ⊢
  exact REL_put h hS (by omega) (by omega) (by omega) (by omega)
theorem REL_fill0 {C R : IM} (h : REL C R) {p g w hr : Int} (ok : ¬ ((0 ≤ p ∧ p < R 30 0 12) ∧ (0 ≤ g ∧ g ≤ 9) ∧ (-1 ≤ w ∧ w ≤ 15) ∧ 0 ≤ hr ∧ hr ≤ 999)) : fillM C p g w hr = C := by
  have a3 := h.2.2.2.2.1.1
  unfold fillM
  rw [if_neg (by omega)]
theorem REL_out {C R : IM} (h : REL C R) {p g : Nat} (hS : SC (up C 22 (5 * 0 + p) g (-1))) (hp : p < 5) (hg : g < 10) : REL (up C 22 (5 * 0 + p) g (-1)) (up R 36 0 (10 * p + g) (-1)) :=
  REL_w h hS (RC_out h.RC.1 (s := 10 * p + g)).1 (AG_out h.2.2.2.1 _) h.2.2.2.2.1 (PEO_out h.2.2.2.2.2.1 p g hg) (fun k i s x y => by rw [up_app, if_neg (by omega)]) (fun k s x y => by rw [up_app, if_neg (by omega)]) (Int.le_refl _) (fun _ _ => rfl)
theorem REL_floss {C R : IM} (h : REL C R) {p g : Int} (ok : (0 ≤ p ∧ p < R 30 0 12) ∧ (0 ≤ g ∧ g ≤ 9)) : REL (flossM C p g) (up R 36 0 (10 * p.toNat + g.toNat) (-1)) := by
  have a3 := h.2.2.2.2.1.1
  have h5 := h.h5
  have e1 : flossM C p g = up C 22 (5 * 0 + p.toNat) g.toNat (-1) := by unfold flossM; rw [if_pos (by omega)]
  have hS := SC_floss (man := p) (gap := g) h.1
  rw [e1] at hS ⊢
  exact REL_out h hS (by omega) (by omega)
theorem REL_floss0 {C R : IM} (h : REL C R) {p g : Int} (ok : ¬ ((0 ≤ p ∧ p < R 30 0 12) ∧ (0 ≤ g ∧ g ≤ 9))) : flossM C p g = C := by
  have a3 := h.2.2.2.2.1.1
  unfold flossM
  rw [if_neg (by omega)]
theorem REL_say {C R R2 : IM} (h : REL C R) (hag : agY R2 R) (hR2 : RI R2) {p w fd : Int} (ok : (0 ≤ p ∧ p < R 30 0 12) ∧ (0 ≤ w ∧ w ≤ 15) ∧ (0 ≤ fd ∧ fd ≤ 9)) : REL (sayM C p w fd) (spR R R2 p.toNat w fd) := by
  have a3 := h.2.2.2.2.1.1
  have h5 := h.h5
  have e1 : sayM C p w fd = uttM C 0 p.toNat w fd := by unfold sayM; rw [if_pos (by omega)]
  have hS := SC_say (man := p) (w := w) (food := fd) h.1
  rw [e1] at hS ⊢
  have eu := (ut_eq h (p := p.toNat) (by omega) w fd).2
  have hu := utR_in (im := R) (p := p.toNat) (w := w) (fd := fd)
  have hrel : REL (uttM C 0 p.toNat w fd) (spR R R p.toNat w fd) := by
    unfold uttM at hS ⊢
    unfold spR
    rw [eu] at hS ⊢
    by_cases z : utR R p.toNat w fd = -1
    · rw [if_pos z, if_pos z]
      exact h
    · rw [if_neg z] at hS ⊢
      rw [if_neg z]
      exact REL_put h hS (by omega) (by omega) (by omega) (by omega)
  exact hrel.S (spR_ag hag _ _ _).O.S (RC_say h.RC.1 hR2 hag (by omega)).1
theorem REL_say0 {C R : IM} (h : REL C R) {p w fd : Int} (ok : ¬ ((0 ≤ p ∧ p < R 30 0 12) ∧ (0 ≤ w ∧ w ≤ 15) ∧ (0 ≤ fd ∧ fd ≤ 9))) : sayM C p w fd = C := by
  have a3 := h.2.2.2.2.1.1
  unfold sayM
  rw [if_neg (by omega)]
theorem REL_force {C R : IM} (h : REL C R) {t : Int} (ok : 0 ≤ t ∧ t < R 30 0 3) : REL (forceM C t) (up R 30 0 4 t) := by
  have t8 := h.2.2.2.2.2.2.1.1
  have h5 := h.h5
  obtain ⟨a3, a4, a5, a6, a7⟩ := h.2.2.2.2.1
  have e1 : forceM C t = up C 18 0 7 t := by unfold forceM; rw [if_pos (by omega)]
  have hS := SC_force (t := t) h.1
  rw [e1] at hS ⊢
  exact REL_w h hS (RC_force h.RC.1 ok.1 ok.2).1 h.2.2.2.1 ⟨a3, a4, a5, a6, rfl⟩ (PEO_c h.2.2.2.2.2.1 rfl (fun k p s _ _ _ => by rw [up_app, if_neg (by omega)]) (fun k s _ _ => by rw [up_app, if_neg (by omega)]) h5.2) (fun k i s x y => by rw [up_app, if_neg (by omega)]) (fun k s x y => by rw [up_app, if_neg (by omega)]) (Int.le_refl _) (fun _ _ => rfl)
theorem REL_force0 {C R : IM} (h : REL C R) {t : Int} (ok : ¬ (0 ≤ t ∧ t < R 30 0 3)) : forceM C t = C := by
  have t8 := h.2.2.2.2.2.2.1.1
  unfold forceM
  rw [if_neg (by omega)]
theorem REL_kiss {C R : IM} (h : REL C R) {p q : Int} (ok : (0 ≤ p ∧ p < R 30 0 12) ∧ (0 ≤ q ∧ q < R 30 0 12) ∧ p ≠ q) : REL (kissM C p q) (hnR R p.toNat q.toNat 10) := by
  have a3 := h.2.2.2.2.1.1
  have h5 := h.h5
  have hPe := h.2.2.2.2.2.1
  have e1 : kissM C p q = hnd C (5 * 0 + p.toNat) (5 * 0 + q.toNat) 10 := by unfold kissM; rw [if_pos (by omega)]
  have hS := SC_kiss (man := p) (other := q) h.1
  rw [e1] at hS ⊢
  generalize hpn : p.toNat = pn at *
  generalize hqn : q.toNat = qn at *
  have hpq : pn ≠ qn := by omega
  refine REL_w h hS (RC_hn h.RC.1 (p := pn) (q := qn) (by omega) (by omega)).1 (AG_hn h.2.2.2.1 pn qn) ?_ (fun m hm => ?_) (fun k i s x y => ?_) (fun k s x y => ?_) (Int.le_refl _) (fun _ _ => rfl)
  · obtain ⟨b3, b4, b5, b6, b7⟩ := h.2.2.2.2.1
    have e : ∀ s, hnd C (5 * 0 + pn) (5 * 0 + qn) 10 18 0 s = C 18 0 s := fun s => by
      unfold hnd
      split
      · rw [if_neg (by omega), if_neg (by omega), if_neg (by omega)]
      · rfl
    exact ⟨(e 3).trans b3, (e 4).trans b4, (e 5).trans b5, (e 6).trans b6, (e 7).trans b7⟩
  · have hm : (m : Int) < R 30 0 12 := hm
    have r := hPe m hm
    have rp := hPe pn (by omega)
    have rq := hPe qn (by omega)
    have e21 : ∀ s, hnd C (5 * 0 + pn) (5 * 0 + qn) 10 21 (5 * 0 + m) s = C 21 (5 * 0 + m) s := fun s => by
      unfold hnd
      split
      · rw [if_neg (by omega), if_neg (by omega), if_neg (by omega)]
      · rfl
    refine ⟨(e21 0).trans r.1, (e21 1).trans r.2.1, fun g hg => ?_⟩
    have r2 := r.2.2 g hg
    have p2 := rp.2.2 g hg
    have q2 := rq.2.2 g hg
    unfold hnd hnR
    rw [show (10 * m + g) % 10 = g by omega, show (10 * m + g) / 10 = m by omega, p2.1, q2.1]
    by_cases z : R 36 0 (10 * pn + g) ≠ -1 ∧ R 36 0 (10 * qn + g) = -1
    · rw [if_pos (show g < 10 ∧ R 36 0 (10 * pn + g) ≠ -1 ∧ R 36 0 (10 * qn + g) = -1 from ⟨hg, z⟩), if_pos (show g < 10 ∧ R 36 0 (10 * pn + g) ≠ -1 ∧ R 36 0 (10 * qn + g) = -1 from ⟨hg, z⟩)]
      by_cases mq : m = qn
      · subst mq
        rw [if_pos ⟨rfl, rfl⟩, if_pos ⟨Or.inl rfl, rfl, rfl, hg, z⟩, if_pos rfl, if_neg (by omega), if_neg (by omega), if_pos ⟨rfl, rfl⟩, if_pos ⟨Or.inr rfl, rfl, rfl, hg, z⟩, if_neg (by omega)]
        exact ⟨rfl, fun _ => rfl⟩
      · rw [if_neg (by omega)]
        by_cases mp : m = pn
        · subst mp
          rw [if_pos ⟨rfl, rfl⟩, if_neg (by omega), if_pos ⟨rfl, rfl, rfl, hg, z⟩]
          exact ⟨rfl, fun y => absurd rfl y⟩
        · rw [if_neg (by omega), if_neg (by omega), if_neg (by omega), if_neg (by omega), if_neg (by omega), if_neg (by omega), if_neg (by omega), if_neg (by omega), if_neg (by omega)]
          exact r2
    · rw [if_neg (fun y => z y.2), if_neg (fun y => z y.2.2.2.2), if_neg (fun y => z y.2.2.2.2), if_neg (fun y => z y.2), if_neg (fun y => z y.2.2.2.2), if_neg (fun y => z y.2.2.2.2)]
      exact r2
  · unfold hnd
    split
    · rw [if_neg (by omega), if_neg (by omega), if_neg (by omega)]
    · rfl
  · unfold hnR
    rw [if_neg (by omega), if_neg (by omega)]
theorem REL_kiss0 {C R : IM} (h : REL C R) {p q : Int} (ok : ¬ ((0 ≤ p ∧ p < R 30 0 12) ∧ (0 ≤ q ∧ q < R 30 0 12) ∧ p ≠ q)) : kissM C p q = C := by
  have a3 := h.2.2.2.2.1.1
  unfold kissM
  rw [if_neg (by omega)]
end
