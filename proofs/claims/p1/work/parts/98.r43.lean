/-! the reference: kissing, church -/

/-- all but what a call that only asks may leave another -/
def agS (a b : IM) : Prop := ∀ k s, ¬ (38 ≤ k ∧ k ≤ 43) → ¬ (k = 30 ∧ (15 ≤ s ∧ s ≤ 33 ∨ 38 ≤ s ∧ s ≤ 40)) → a k 0 s = b k 0 s
theorem agS_rfl (a : IM) : agS a a := fun _ _ _ _ => rfl
theorem agS.trans {a b c : IM} (h : agS a b) (h2 : agS b c) : agS a c := fun k s x y => (h k s x y).trans (h2 k s x y)
theorem agO.S {a b : IM} (h : agO a b) : agS a b := fun k s x y => h k s (by omega) y
theorem agS.C {a b : IM} (h : agS a b) : agC a b ∧ a 30 0 7 = b 30 0 7 := ⟨⟨fun k s _ _ => h k s (by omega) (by omega), h 30 3 (by omega) (by omega), h 30 4 (by omega) (by omega), h 30 6 (by omega) (by omega), h 30 8 (by omega) (by omega), h 30 12 (by omega) (by omega)⟩, h 30 7 (by omega) (by omega)⟩
theorem RC.S {a b : IM} (h : RC b) (hR : RI a) (ha : agS a b) : RC a := h.C hR ha.C.1 (by rw [ha.C.2]; exact h.2.2.2.2.1)
theorem hnR_C {a b : IM} (h : agC a b) (p q n : Nat) : agC (hnR a p q n) (hnR b p q n) := by
  obtain ⟨c, e3, e4, e6, e8, e12⟩ := h
  refine ⟨fun k s h1 h2 => ?_, e3, e4, e6, e8, e12⟩
  unfold hnR
  rw [c 36 _ (by omega) (by omega), c 36 _ (by omega) (by omega), c k s h1 h2]
theorem AG_hn {im : IM} (h : AG im 1000) (p q : Nat) : AG (hnR im p q 10) 1000 := by
  intro m hm hne
  have hm : (m : Int) < 10 * im 30 0 12 := hm
  have g := h m hm
  unfold hnR at hne ⊢
  (repeat' split at hne) <;> (repeat' split) <;> first | exact g hne | omega | (exfalso; omega)
def skR (im : IM) (n p q : Nat) : Int := smF (costR (hnR im p q 10) n) 50
def kxI (im : IM) (n p : Nat) (z : Int × Int) : Nat → Int × Int
  | 0 => z
  | b + 1 => if p ≠ b ∧ skR im n p b < (kxI im n p z b).2 then ((p : Int) * 10 + b, skR im n p b) else kxI im n p z b
def kxO (im : IM) (n sz : Nat) : Nat → Int × Int
  | 0 => (-1, smF (costR im n) 50)
  | p + 1 => kxI im n p (kxO im n sz p) sz
theorem kxI_s (im : IM) (n p : Nat) (z : Int × Int) (b : Nat) : kxI im n p z (b + 1) = if p ≠ b ∧ skR im n p b < (kxI im n p z b).2 then ((p : Int) * 10 + b, skR im n p b) else kxI im n p z b := rfl
theorem cost_in {im : IM} (h : RC im) (n : Nat) : (∀ q, 0 ≤ costR im n q ∧ costR im n q ≤ 700) ∧ (0 ≤ smF (costR im n) 50 ∧ smF (costR im n) 50 ≤ 35000) := by
  have hP := h.2.2.2.2.2.2
  have hc : ∀ q, 0 ≤ costR im n q ∧ costR im n q ≤ 700 := fun q => by
    unfold costR
    split
    · omega
    · rename_i z
      have hq2 : ((q / 10 : Nat) : Int) < im 30 0 12 := Decidable.byContradiction fun y => z (by unfold whenR; rw [if_neg y])
      exact beT_in (hP (q / 10) hq2).2.1 _
  have := smF_in (f := costR im n) (a := 0) (b := 700) (N := 50) (fun q _ => hc q) (by omega) (by omega)
  exact ⟨hc, by omega, by omega⟩
theorem skR_in {im : IM} (h : RC im) {n p q : Nat} (hp : (p : Int) < im 30 0 12) (hq : (q : Int) < im 30 0 12) : 0 ≤ skR im n p q ∧ skR im n p q ≤ 35000 := (cost_in (RC_hn h hp hq) n).2
theorem kxI_in {im : IM} (h : RC im) {n p : Nat} (hp : (p : Int) < im 30 0 12) {z : Int × Int} (hz : 0 ≤ z.2 ∧ z.2 ≤ 35000) (b : Nat) (hb : (b : Int) ≤ im 30 0 12) : 0 ≤ (kxI im n p z b).2 ∧ (kxI im n p z b).2 ≤ 35000 := by
  induction b with
  | zero => exact hz
  | succ b ih =>
    rw [kxI_s]
    split
    · exact skR_in h hp (by omega)
    · exact ih (by omega)
theorem kxO_in {im : IM} (h : RC im) {n sz : Nat} (hz : (sz : Int) ≤ im 30 0 12) (p : Nat) (hp : (p : Int) ≤ im 30 0 12) : 0 ≤ (kxO im n sz p).2 ∧ (kxO im n sz p).2 ≤ 35000 := by
  induction p with
  | zero => exact (cost_in h n).2
  | succ p ih => exact kxI_in h (by omega) (ih (by omega)) sz hz
theorem cp2_C (im : IM) {a b c d n : Nat} (ha : 37 < a) (hc : 37 < c) : agC (cp2 im a b c d n) im := by
  have e : ∀ k s, k ≤ 37 → cp2 im a b c d n k 0 s = im k 0 s := fun k s _ => by rw [cp2_app, if_neg (by omega), if_neg (by omega)]
  exact ⟨fun k s _ h => e k s h, e 30 3 (by omega), e 30 4 (by omega), e 30 6 (by omega), e 30 8 (by omega), e 30 12 (by omega)⟩

set_option maxHeartbeats 4000000 in
theorem c_X9_shameByKiss (l : Launch) (G : GS) (im : IM) (bt rt : Nat) (lm : IM) (h : RC im) (hA : AG im 1000) (h79 : im 30 0 7 ≤ 999) (p q n : Nat) (hp : (p : Int) < im 30 0 12) (hq : (q : Int) < im 30 0 12) (hpq : p ≠ q) (hn : n ≤ 60) : Cn l (XR G) yX9_shameByKiss Y_X9_shameByKiss [vR 30 0, vI (p : Int), vI (q : Int), vI (n : Int)] (im, rs bt rt, lm) (pI fun x m' => ∃ im' lm', x = skR im n p q ∧ RI im' ∧ agS im' im ∧ lgQ lm' lm ∧ m' = (im', rs bt rt, lm')) := by
  refine cn_of (by decide) (okR G) rfl (Nat.le_of_ble_eq_true rfl) ?_
  intro M ad hMl F
  subst hMl
  have hR := h.1
  have h12 := h.2.2.2.1
  have hC1 : agC (cp2 im 42 36 43 37 50) im := cp2_C im (by omega) (by omega)
  have hR1 := cp2_RI hR 42 36 43 37 50
  have hRC1 : RC (cp2 im 42 36 43 37 50) := h.C hR1 hC1 h.2.2.2.2.1
  have hA1 : AG (cp2 im 42 36 43 37 50) 1000 := hA.C hC1
  have hRC2 : RC (hnR (cp2 im 42 36 43 37 50) p q 10) := RC_hn hRC1 hp hq
  have hA2 : AG (hnR (cp2 im 42 36 43 37 50) p q 10) 1000 := AG_hn hA1 p q
  have hC2 := hnR_C hC1 p q 10
  have eW := when_C hC2 rfl
  refine wp_pad 1 ?_
  show Wp M (XR G) ad Y_X9_shameByKiss (pI fun x m' => ∃ im' lm', x = skR im n p q ∧ RI im' ∧ agS im' im ∧ lgQ lm' lm ∧ m' = (im', rs bt rt, lm')) 0 [some (vR 30 0), some (vI (p : Int)), some (vI (q : Int)), some (vI (n : Int)), none] [] (im, rs bt rt, lm)
  refine q_iconst (t := 1) F dX9_shameByKiss_0 rfl ?_
  refine q_istore (t := 3) F dX9_shameByKiss_1 (by decide) rfl rfl ?_
  have L3 : ∀ (fz : Nat) (m : Nat), 50 - m < fz → m ≤ 50 → Wp M (XR G) ad Y_X9_shameByKiss (pI fun x m' => ∃ im' lm', x = skR im n p q ∧ RI im' ∧ agS im' im ∧ lgQ lm' lm ∧ m' = (im', rs bt rt, lm')) 3 [some (vR 30 0), some (vI (p : Int)), some (vI (q : Int)), some (vI (n : Int)), some (vI (m : Int))] [] (cp2 im 42 36 43 37 m, rs bt rt, lm) := by
    intro fz
    induction fz with
    | zero => intro m h; exact absurd h (Nat.not_lt_zero _)
    | succ fz ih =>
      have ih3 := ih
      intro m hmeas hm
      have c36 : cp2 im 42 36 43 37 m 36 0 m = im 36 0 m := rfl
      have c37 : cp2 im 42 36 43 37 m 37 0 m = im 37 0 m := rfl
      refine q_iload (t := 5) F dX9_shameByKiss_3 rfl rfl ?_
      refine q_bipush (t := 7) F dX9_shameByKiss_5 (by decide) rfl ?_
      refine q_icmp_ge (t := 10) (u := 44) F dX9_shameByKiss_7 (by constructor <;> omega) (by constructor <;> omega) (by decide) rfl (fun c7 => ?_) (fun c7 => ?_)
      · obtain rfl : m = 50 := by omega
        refine q_aload_n (t := 45) F dX9_shameByKiss_44 rfl rfl rfl ?_
        refine q_iload_n (t := 46) F dX9_shameByKiss_45 rfl rfl rfl ?_
        refine q_iload_n (t := 47) F dX9_shameByKiss_46 rfl rfl rfl ?_
        refine wp_callV (t := 50) [_, _] F dX9_shameByKiss_47 k_X9_hands v_X9_hands ml_X9_367 rfl rfl rfl rfl (Nat.le_of_ble_eq_true rfl) (by decide) (m_30 (by omega)) (c_X9_hands _ G (cp2 im 42 36 43 37 50) bt rt lm hR1 p q (by omega) (by omega) hpq) rfl (kI ?_)
        rintro x47 m' ⟨hx47, rfl⟩
        refine q_popI (t := 51) F dX9_shameByKiss_50 rfl ?_
        refine q_aload_n (t := 52) F dX9_shameByKiss_51 rfl rfl rfl ?_
        refine q_iload_n (t := 53) F dX9_shameByKiss_52 rfl rfl rfl ?_
        refine wp_callV (t := 56) [_] F dX9_shameByKiss_53 k_X9_runs v_X9_runs ml_X9_410 rfl rfl rfl rfl (Nat.le_of_ble_eq_true rfl) (by decide) (m_30 (by omega)) (c_X9_runs _ G (hnR (cp2 im 42 36 43 37 50) p q 10) bt rt lm hRC2 hA2 h79 n hn) rfl (kV ?_)
        rintro m' ⟨im2, lm2, hR2, hU, hlg2, rfl⟩
        refine q_iconst (t := 57) F dX9_shameByKiss_56 rfl ?_
        refine q_istore (t := 59) F dX9_shameByKiss_57 (by decide) rfl rfl ?_
        have L59 : ∀ (fz : Nat) (m : Nat), 50 - m < fz → m ≤ 50 → Wp M (XR G) ad Y_X9_shameByKiss (pI fun x m' => ∃ im' lm', x = skR im n p q ∧ RI im' ∧ agS im' im ∧ lgQ lm' lm ∧ m' = (im', rs bt rt, lm')) 59 [some (vR 30 0), some (vI (p : Int)), some (vI (q : Int)), some (vI (n : Int)), some (vI (m : Int))] [] (cp2 im2 36 42 37 43 m, rs bt rt, lm2) := by
          intro fz
          induction fz with
          | zero => intro m h; exact absurd h (Nat.not_lt_zero _)
          | succ fz ih =>
            have ih59 := ih
            intro m hmeas hm
            have c42 : cp2 im2 36 42 37 43 m 42 0 m = im2 42 0 m := rfl
            have c43 : cp2 im2 36 42 37 43 m 43 0 m = im2 43 0 m := rfl
            have c40 : cp2 im2 36 42 37 43 m 30 0 40 = im2 30 0 40 := rfl
            refine q_iload (t := 61) F dX9_shameByKiss_59 rfl rfl ?_
            refine q_bipush (t := 63) F dX9_shameByKiss_61 (by decide) rfl ?_
            refine q_icmp_ge (t := 66) (u := 100) F dX9_shameByKiss_63 (by constructor <;> omega) (by constructor <;> omega) (by decide) rfl (fun c63 => ?_) (fun c63 => ?_)
            · refine q_aload_n (t := 101) F dX9_shameByKiss_100 rfl rfl rfl ?_
              refine g_X9_401 (t := 104) F dX9_shameByKiss_101 rfl rfl ?_
              try simp only [up_app, row_app, scr_app, cpy_app, Nat.reduceEqDiff, Int.reduceToNat, Int.toNat_natCast, and_true, true_and, and_false, false_and, and_self, reduceIte]
              rw [c40]
              refine q_iret F dX9_shameByKiss_104 rfl ?_
              obtain rfl : m = 50 := by omega
              refine ⟨_, rfl, _, lm2, ?_, cp2_RI hR2 36 42 37 43 50, fun k s a b => ?_, hlg2, rfl⟩
              · rw [hU.2.2.1, eW.2.1]
                rfl
              · have e42 : ∀ s, s < 50 → im2 42 0 s = im 36 0 s := fun s hs => by
                  rw [hU.1 42 s (by omega) (by omega)]
                  unfold hnR
                  rw [if_neg (by omega), if_neg (by omega), cp2_app, if_pos ⟨rfl, rfl, hs⟩]
                have e43 : ∀ s, s < 50 → im2 43 0 s = im 37 0 s := fun s hs => by
                  rw [hU.1 43 s (by omega) (by omega)]
                  unfold hnR
                  rw [if_neg (by omega), if_neg (by omega), cp2_app, if_neg (by omega), if_pos ⟨rfl, rfl, hs⟩]
                rw [cp2_app]
                split
                · rename_i z
                  rw [e42 s z.2.2, z.1]
                · split
                  · rename_i z
                    rw [e43 s z.2.2, z.1]
                  · rw [hU.1 k s (by omega) (by omega)]
                    unfold hnR
                    rw [if_neg (by omega), if_neg (by omega), cp2_app, if_neg (by omega), if_neg (by omega)]
            · refine q_aload_n (t := 67) F dX9_shameByKiss_66 rfl rfl rfl ?_
              refine g_X9_32 (t := 70) F dX9_shameByKiss_67 rfl rfl ?_
              refine q_iload (t := 72) F dX9_shameByKiss_70 rfl rfl ?_
              refine q_aload_n (t := 73) F dX9_shameByKiss_72 rfl rfl rfl ?_
              refine g_X9_50 (t := 76) F dX9_shameByKiss_73 rfl rfl ?_
              refine q_iload (t := 78) F dX9_shameByKiss_76 rfl rfl ?_
              first | refine ldN_42 (t := 79) F dX9_shameByKiss_78 (by omega) rfl ?_ | refine ld_42 (t := 79) F dX9_shameByKiss_78 (by omega) (by omega) rfl ?_
              try simp only [up_app, row_app, scr_app, cpy_app, Nat.reduceEqDiff, Int.reduceToNat, Int.toNat_natCast, and_true, true_and, and_false, false_and, and_self, reduceIte]
              rw [c42]
              first | refine stN_36 (t := 80) F dX9_shameByKiss_79 (by omega) rfl ?_ | refine st_36 (t := 80) F dX9_shameByKiss_79 (by omega) (by omega) rfl ?_
              refine q_aload_n (t := 81) F dX9_shameByKiss_80 rfl rfl rfl ?_
              refine g_X9_35 (t := 84) F dX9_shameByKiss_81 rfl rfl ?_
              refine q_iload (t := 86) F dX9_shameByKiss_84 rfl rfl ?_
              refine q_aload_n (t := 87) F dX9_shameByKiss_86 rfl rfl rfl ?_
              refine g_X9_53 (t := 90) F dX9_shameByKiss_87 rfl rfl ?_
              refine q_iload (t := 92) F dX9_shameByKiss_90 rfl rfl ?_
              first | refine ldN_43 (t := 93) F dX9_shameByKiss_92 (by omega) rfl ?_ | refine ld_43 (t := 93) F dX9_shameByKiss_92 (by omega) (by omega) rfl ?_
              try simp only [up_app, row_app, scr_app, cpy_app, Nat.reduceEqDiff, Int.reduceToNat, Int.toNat_natCast, and_true, true_and, and_false, false_and, and_self, reduceIte]
              rw [c43]
              first | refine stN_37 (t := 94) F dX9_shameByKiss_93 (by omega) rfl ?_ | refine st_37 (t := 94) F dX9_shameByKiss_93 (by omega) (by omega) rfl ?_
              refine q_iinc (t := 97) F dX9_shameByKiss_94 rfl (by decide) rfl rfl ?_
              refine q_goto (t := 59) F dX9_shameByKiss_97 (by decide) ?_
              rw [show (m : Int) + 1 = ((m + 1 : Nat) : Int) by omega, cp2_s im2 m (by omega)]
              exact ih59 (m + 1) (by omega) (by omega)
        have L0 := L59 _ 0 (Nat.lt_succ_self _) (Nat.zero_le _)
        rw [cp2_0] at L0
        exact L0
      · refine q_aload_n (t := 11) F dX9_shameByKiss_10 rfl rfl rfl ?_
        refine g_X9_50 (t := 14) F dX9_shameByKiss_11 rfl rfl ?_
        refine q_iload (t := 16) F dX9_shameByKiss_14 rfl rfl ?_
        refine q_aload_n (t := 17) F dX9_shameByKiss_16 rfl rfl rfl ?_
        refine g_X9_32 (t := 20) F dX9_shameByKiss_17 rfl rfl ?_
        refine q_iload (t := 22) F dX9_shameByKiss_20 rfl rfl ?_
        first | refine ldN_36 (t := 23) F dX9_shameByKiss_22 (by omega) rfl ?_ | refine ld_36 (t := 23) F dX9_shameByKiss_22 (by omega) (by omega) rfl ?_
        rw [c36]
        first | refine stN_42 (t := 24) F dX9_shameByKiss_23 (by omega) rfl ?_ | refine st_42 (t := 24) F dX9_shameByKiss_23 (by omega) (by omega) rfl ?_
        refine q_aload_n (t := 25) F dX9_shameByKiss_24 rfl rfl rfl ?_
        refine g_X9_53 (t := 28) F dX9_shameByKiss_25 rfl rfl ?_
        refine q_iload (t := 30) F dX9_shameByKiss_28 rfl rfl ?_
        refine q_aload_n (t := 31) F dX9_shameByKiss_30 rfl rfl rfl ?_
        refine g_X9_35 (t := 34) F dX9_shameByKiss_31 rfl rfl ?_
        refine q_iload (t := 36) F dX9_shameByKiss_34 rfl rfl ?_
        first | refine ldN_37 (t := 37) F dX9_shameByKiss_36 (by omega) rfl ?_ | refine ld_37 (t := 37) F dX9_shameByKiss_36 (by omega) (by omega) rfl ?_
        try simp only [up_app, row_app, scr_app, cpy_app, Nat.reduceEqDiff, Int.reduceToNat, Int.toNat_natCast, and_true, true_and, and_false, false_and, and_self, reduceIte]
        rw [c37]
        first | refine stN_43 (t := 38) F dX9_shameByKiss_37 (by omega) rfl ?_ | refine st_43 (t := 38) F dX9_shameByKiss_37 (by omega) (by omega) rfl ?_
        refine q_iinc (t := 41) F dX9_shameByKiss_38 rfl (by decide) rfl rfl ?_
        refine q_goto (t := 3) F dX9_shameByKiss_41 (by decide) ?_
        rw [show (m : Int) + 1 = ((m + 1 : Nat) : Int) by omega, cp2_s im m (by omega)]
        exact ih3 (m + 1) (by omega) (by omega)
  have L0 := L3 _ 0 (Nat.lt_succ_self _) (Nat.zero_le _)
  rw [cp2_0] at L0
  exact L0

set_option maxHeartbeats 4000000 in
theorem c_X9_kissing (l : Launch) (G : GS) (im : IM) (bt rt : Nat) (lm : IM) (h : RC im) (hA : AG im 1000) (h79 : im 30 0 7 ≤ 999) (n what : Int) (hn : ri n) (hwhat : ri what) : Cn l (XR G) yX9_kissing Y_X9_kissing [vR 30 0, vI n, vI what] (im, rs bt rt, lm) (pI fun x m' => ∃ im' lm', x = (if (0 ≤ n ∧ n ≤ 60) ∧ 0 ≤ what ∧ what ≤ 1 then (if what = 0 then (kxO im n.toNat (im 30 0 12).toNat (im 30 0 12).toNat).1 else (kxO im n.toNat (im 30 0 12).toNat (im 30 0 12).toNat).2) else -2) ∧ RI im' ∧ agS im' im ∧ lgQ lm' lm ∧ m' = (im', rs bt rt, lm')) := by
  refine cn_of (by decide) (okR G) rfl (Nat.le_of_ble_eq_true rfl) ?_
  intro M ad hMl F
  subst hMl
  have hR := h.1
  have hX := h.2.1
  have h4 := h.2.2.1
  have h12 := h.2.2.2.1
  have h7 := h.2.2.2.2.1
  have h6 := hX.2.2.1
  have h3 := hX.2.2.2.1
  have hP := h.2.2.2.2.2.2
  have hR := h.1
  have n1 := hn.1
  have n2 := hn.2
  have what1 := hwhat.1
  have what2 := hwhat.2
  refine wp_pad 5 ?_
  show Wp M (XR G) ad Y_X9_kissing (pI fun x m' => ∃ im' lm', x = (if (0 ≤ n ∧ n ≤ 60) ∧ 0 ≤ what ∧ what ≤ 1 then (if what = 0 then (kxO im n.toNat (im 30 0 12).toNat (im 30 0 12).toNat).1 else (kxO im n.toNat (im 30 0 12).toNat (im 30 0 12).toNat).2) else -2) ∧ RI im' ∧ agS im' im ∧ lgQ lm' lm ∧ m' = (im', rs bt rt, lm')) 0 [some (vR 30 0), some (vI n), some (vI what), none, none, none, none, none] [] (im, rs bt rt, lm)
  refine q_iload_n (t := 1) F dX9_kissing_0 rfl rfl rfl ?_
  refine q_i2l (t := 2) F dX9_kissing_1 (by first | exact hR _ _ _ | (constructor <;> omega)) rfl ?_
  refine q_lconst (t := 3) (x := 0) F dX9_kissing_2 (by decide) rfl ?_
  refine q_ldc2 (t := 6) (x := 60) F dX9_kissing_3 kl_X9_242 (by decide) rfl ?_
  refine wp_callS (t := 9) [_, _, _] F dX9_kissing_6 k_X9_in st_X9_in ml_X9_91 rfl rfl (Nat.le_of_ble_eq_true rfl) (by decide) (c_X9_in _ G _ _ _ _ _ _ _ (by constructor <;> omega) (by constructor <;> omega) (by constructor <;> omega)) rfl (kI ?_)
  rintro x6 m' ⟨hx6, rfl⟩
  have hx6 := if01 hx6
  refine q_if_eq (t := 12) (u := 22) F dX9_kissing_9 (by first | exact hR _ _ _ | (constructor <;> omega)) (by decide) rfl (fun c9 => ?_) (fun c9 => ?_)
  · refine q_bipush (t := 24) F dX9_kissing_22 (by decide) rfl ?_
    refine q_iret F dX9_kissing_24 rfl ?_
    first
      | (refine ⟨_, rfl, im, lm, ?_, hR, agS_rfl im, lgQ_rfl lm, rfl⟩
         rw [if_neg (by omega)])
      | (obtain rfl : p = (im 30 0 12).toNat := by omega
         refine ⟨_, rfl, S, lg, ?_, hRS, hag, hlg, rfl⟩
         rw [if_pos (by omega)]
         first
           | rw [if_pos (by omega)]
           | rw [if_neg (by omega)])
  · refine q_iload_n (t := 13) F dX9_kissing_12 rfl rfl rfl ?_
    refine q_i2l (t := 14) F dX9_kissing_13 (by first | exact hR _ _ _ | (constructor <;> omega)) rfl ?_
    refine q_lconst (t := 15) (x := 0) F dX9_kissing_14 (by decide) rfl ?_
    refine q_lconst (t := 16) (x := 1) F dX9_kissing_15 (by decide) rfl ?_
    refine wp_callS (t := 19) [_, _, _] F dX9_kissing_16 k_X9_in st_X9_in ml_X9_91 rfl rfl (Nat.le_of_ble_eq_true rfl) (by decide) (c_X9_in _ G _ _ _ _ _ _ _ (by constructor <;> omega) (by constructor <;> omega) (by constructor <;> omega)) rfl (kI ?_)
    rintro x16 m' ⟨hx16, rfl⟩
    have hx16 := if01 hx16
    refine q_if_ne (t := 22) (u := 25) F dX9_kissing_19 (by first | exact hR _ _ _ | (constructor <;> omega)) (by decide) rfl (fun c19 => ?_) (fun c19 => ?_)
    · refine q_aload_n (t := 26) F dX9_kissing_25 rfl rfl rfl ?_
      refine q_iload_n (t := 27) F dX9_kissing_26 rfl rfl rfl ?_
      rw [show vI n = vI ((n.toNat : Nat) : Int) by rw [Int.toNat_of_nonneg (by omega)]]
      refine wp_callV (t := 30) [_] F dX9_kissing_27 k_X9_runs v_X9_runs ml_X9_410 rfl rfl rfl rfl (Nat.le_of_ble_eq_true rfl) (by decide) (m_30 (by omega)) (c_X9_runs _ G im bt rt lm h hA h79 n.toNat (by omega)) rfl (kV ?_)
      rintro m' ⟨im2, lm2, hR2, hU, hlg2, rfl⟩
      rw [show vI ((n.toNat : Nat) : Int) = vI n by rw [Int.toNat_of_nonneg (by omega)]]
      have hag2 := hU.1.S
      have e40 := hU.2.2.1
      have e12b : im2 30 0 12 = im 30 0 12 := hU.e
      refine q_aload_n (t := 31) F dX9_kissing_30 rfl rfl rfl ?_
      refine g_X9_401 (t := 34) F dX9_kissing_31 rfl rfl ?_
      try simp only [up_app, row_app, scr_app, cpy_app, Nat.reduceEqDiff, Int.reduceToNat, Int.toNat_natCast, and_true, true_and, and_false, false_and, and_self, reduceIte]
      rw [e40]
      refine q_istore_n (t := 35) F dX9_kissing_34 rfl (by decide) rfl rfl ?_
      refine q_iconst (t := 36) F dX9_kissing_35 rfl ?_
      refine q_istore (t := 38) F dX9_kissing_36 (by decide) rfl rfl ?_
      refine q_iconst (t := 39) F dX9_kissing_38 rfl ?_
      refine q_istore (t := 41) F dX9_kissing_39 (by decide) rfl rfl ?_
      have L41 : ∀ (fz : Nat) (p : Nat) (S lg : IM), 6 - p < fz → ((p : Int) ≤ im 30 0 12 ∧ RI S ∧ agS S im ∧ lgQ lg lm) → Wp M (XR G) ad Y_X9_kissing (pI fun x m' => ∃ im' lm', x = (if (0 ≤ n ∧ n ≤ 60) ∧ 0 ≤ what ∧ what ≤ 1 then (if what = 0 then (kxO im n.toNat (im 30 0 12).toNat (im 30 0 12).toNat).1 else (kxO im n.toNat (im 30 0 12).toNat (im 30 0 12).toNat).2) else -2) ∧ RI im' ∧ agS im' im ∧ lgQ lm' lm ∧ m' = (im', rs bt rt, lm')) 41 [some (vR 30 0), some (vI n), some (vI what), some (vI (kxO im n.toNat (im 30 0 12).toNat p).2), some (vI (kxO im n.toNat (im 30 0 12).toNat p).1), some (vI (p : Int)), none, none] [] (S, rs bt rt, lg) := by
        intro fz
        induction fz with
        | zero => intro p S lg h; exact absurd h (Nat.not_lt_zero _)
        | succ fz ih =>
          have ih41 := ih
          intro p S lg hmeas ⟨hp, hRS, hag, hlg⟩
          have e12 : S 30 0 12 = im 30 0 12 := hag.C.1.2.2.2.2.2
          have hko := kxO_in h (n := n.toNat) (sz := (im 30 0 12).toNat) (by omega) p hp
          refine q_iload (t := 43) F dX9_kissing_41 rfl rfl ?_
          refine q_aload_n (t := 44) F dX9_kissing_43 rfl rfl rfl ?_
          refine g_X9_88 (t := 47) F dX9_kissing_44 rfl rfl ?_
          try simp only [up_app, row_app, scr_app, cpy_app, Nat.reduceEqDiff, Int.reduceToNat, Int.toNat_natCast, and_true, true_and, and_false, false_and, and_self, reduceIte]
          rw [e12]
          refine q_icmp_ge (t := 50) (u := 115) F dX9_kissing_47 (by constructor <;> omega) (by constructor <;> omega) (by decide) rfl (fun c47 => ?_) (fun c47 => ?_)
          · refine q_iload_n (t := 116) F dX9_kissing_115 rfl rfl rfl ?_
            refine q_if_ne (t := 119) (u := 124) F dX9_kissing_116 (by first | exact hR _ _ _ | (constructor <;> omega)) (by decide) rfl (fun c116 => ?_) (fun c116 => ?_)
            · refine q_iload_n (t := 125) F dX9_kissing_124 rfl rfl rfl ?_
              refine q_iret F dX9_kissing_125 rfl ?_
              first
                | (refine ⟨_, rfl, im, lm, ?_, hR, agS_rfl im, lgQ_rfl lm, rfl⟩
                   rw [if_neg (by omega)])
                | (obtain rfl : p = (im 30 0 12).toNat := by omega
                   refine ⟨_, rfl, S, lg, ?_, hRS, hag, hlg, rfl⟩
                   rw [if_pos (by omega)]
                   first
                     | rw [if_pos (by omega)]
                     | rw [if_neg (by omega)])
            · refine q_iload (t := 121) F dX9_kissing_119 rfl rfl ?_
              refine q_goto (t := 125) F dX9_kissing_121 (by decide) ?_
              refine q_iret F dX9_kissing_125 rfl ?_
              first
                | (refine ⟨_, rfl, im, lm, ?_, hR, agS_rfl im, lgQ_rfl lm, rfl⟩
                   rw [if_neg (by omega)])
                | (obtain rfl : p = (im 30 0 12).toNat := by omega
                   refine ⟨_, rfl, S, lg, ?_, hRS, hag, hlg, rfl⟩
                   rw [if_pos (by omega)]
                   first
                     | rw [if_pos (by omega)]
                     | rw [if_neg (by omega)])
          · refine q_iconst (t := 51) F dX9_kissing_50 rfl ?_
            refine q_istore (t := 53) F dX9_kissing_51 (by decide) rfl rfl ?_
            have L53 : ∀ (fz : Nat) (b : Nat) (S lg : IM), 6 - b < fz → ((b : Int) ≤ im 30 0 12 ∧ RI S ∧ agS S im ∧ lgQ lg lm) → Wp M (XR G) ad Y_X9_kissing (pI fun x m' => ∃ im' lm', x = (if (0 ≤ n ∧ n ≤ 60) ∧ 0 ≤ what ∧ what ≤ 1 then (if what = 0 then (kxO im n.toNat (im 30 0 12).toNat (im 30 0 12).toNat).1 else (kxO im n.toNat (im 30 0 12).toNat (im 30 0 12).toNat).2) else -2) ∧ RI im' ∧ agS im' im ∧ lgQ lm' lm ∧ m' = (im', rs bt rt, lm')) 53 [some (vR 30 0), some (vI n), some (vI what), some (vI (kxI im n.toNat p (kxO im n.toNat (im 30 0 12).toNat p) b).2), some (vI (kxI im n.toNat p (kxO im n.toNat (im 30 0 12).toNat p) b).1), some (vI (p : Int)), some (vI (b : Int)), none] [] (S, rs bt rt, lg) := by
              intro fz
              induction fz with
              | zero => intro b S lg h; exact absurd h (Nat.not_lt_zero _)
              | succ fz ih =>
                have ih53 := ih
                intro b S lg hmeas ⟨hb, hRS, hag, hlg⟩
                have e12 : S 30 0 12 = im 30 0 12 := hag.C.1.2.2.2.2.2
                have hki := kxI_in h (n := n.toNat) (p := p) (by omega) hko b hb
                have hks := kxI_s im n.toNat p (kxO im n.toNat (im 30 0 12).toNat p) b
                refine q_iload (t := 55) F dX9_kissing_53 rfl rfl ?_
                refine q_aload_n (t := 56) F dX9_kissing_55 rfl rfl rfl ?_
                refine g_X9_88 (t := 59) F dX9_kissing_56 rfl rfl ?_
                try simp only [up_app, row_app, scr_app, cpy_app, Nat.reduceEqDiff, Int.reduceToNat, Int.toNat_natCast, and_true, true_and, and_false, false_and, and_self, reduceIte]
                rw [e12]
                refine q_icmp_ge (t := 62) (u := 109) F dX9_kissing_59 (by constructor <;> omega) (by constructor <;> omega) (by decide) rfl (fun c59 => ?_) (fun c59 => ?_)
                · refine q_iinc (t := 112) F dX9_kissing_109 rfl (by decide) rfl rfl ?_
                  refine q_goto (t := 41) F dX9_kissing_112 (by decide) ?_
                  refine wp_less 7 ?_
                  refine wp_less 6 ?_
                  obtain rfl : b = (im 30 0 12).toNat := by omega
                  rw [show (p : Int) + 1 = ((p + 1 : Nat) : Int) by omega]
                  exact ih41 (p + 1) S lg (by omega) ⟨by omega, hRS, hag, hlg⟩
                · refine q_iload (t := 64) F dX9_kissing_62 rfl rfl ?_
                  refine q_iload (t := 66) F dX9_kissing_64 rfl rfl ?_
                  refine q_icmp_ne (t := 69) (u := 73) F dX9_kissing_66 (by constructor <;> omega) (by constructor <;> omega) (by decide) rfl (fun c66 => ?_) (fun c66 => ?_)
                  · refine q_aload_n (t := 74) F dX9_kissing_73 rfl rfl rfl ?_
                    refine q_iload (t := 76) F dX9_kissing_74 rfl rfl ?_
                    refine q_iload (t := 78) F dX9_kissing_76 rfl rfl ?_
                    refine q_iload_n (t := 79) F dX9_kissing_78 rfl rfl rfl ?_
                    rw [show vI n = vI ((n.toNat : Nat) : Int) by rw [Int.toNat_of_nonneg (by omega)]]
                    refine wp_callV (t := 82) [_, _, _] F dX9_kissing_79 k_X9_shameByKiss v_X9_shameByKiss ml_X9_418 rfl rfl rfl rfl (Nat.le_of_ble_eq_true rfl) (by decide) (m_30 (by omega)) (c_X9_shameByKiss _ G S bt rt lg (h.S hRS hag) (hA.C hag.C.1) (by rw [hag.C.2]; exact h79) p b n.toNat (by rw [e12]; omega) (by rw [e12]; omega) (by omega) (by omega)) rfl (kI ?_)
                    rintro x79 m' ⟨im3, lm3, hx79, hR3, hag3, hlg3, rfl⟩
                    rw [show vI ((n.toNat : Nat) : Int) = vI n by rw [Int.toNat_of_nonneg (by omega)]]
                    rw [show skR S n.toNat p b = skR im n.toNat p b from by unfold skR; rw [(when_C (hnR_C hag.C.1 p b 10) hag.C.2).2.1]] at hx79
                    have hk3 := skR_in h (n := n.toNat) (p := p) (q := b) (by omega) (by omega)
                    have hag3 := hag3.trans hag
                    have hlg3 := hlg3.trans hlg
                    refine q_istore (t := 84) F dX9_kissing_82 (by decide) rfl rfl ?_
                    refine q_iload (t := 86) F dX9_kissing_84 rfl rfl ?_
                    refine q_iload_n (t := 87) F dX9_kissing_86 rfl rfl rfl ?_
                    refine q_icmp_ge (t := 90) (u := 103) F dX9_kissing_87 (by constructor <;> omega) (by constructor <;> omega) (by decide) rfl (fun c87 => ?_) (fun c87 => ?_)
                    · refine q_iinc (t := 106) F dX9_kissing_103 rfl (by decide) rfl rfl ?_
                      refine q_goto (t := 53) F dX9_kissing_106 (by decide) ?_
                      refine wp_less 7 ?_
                      rw [show (b : Int) + 1 = ((b + 1 : Nat) : Int) by omega]
                      first
                        | (exfalso; omega)
                        | (have e9 : kxI im n.toNat p (kxO im n.toNat (im 30 0 12).toNat p) (b + 1) = ((p : Int) * 10 + b, skR im n.toNat p b) := by rw [hks, if_pos ⟨by omega, by omega⟩]
                           have h9 := ih53 (b + 1) im3 lm3 (by omega) ⟨by omega, hR3, hag3, hlg3⟩
                           rw [e9] at h9
                           rw [hx79, Int.mul_comm 10 (p : Int)]
                           exact h9)
                        | (have e9 : kxI im n.toNat p (kxO im n.toNat (im 30 0 12).toNat p) (b + 1) = kxI im n.toNat p (kxO im n.toNat (im 30 0 12).toNat p) b := by rw [hks, if_neg (by omega)]
                           have h9 := ih53 (b + 1) im3 lm3 (by omega) ⟨by omega, hR3, hag3, hlg3⟩
                           rw [e9] at h9
                           exact h9)
                        | (have e9 : kxI im n.toNat p (kxO im n.toNat (im 30 0 12).toNat p) (b + 1) = kxI im n.toNat p (kxO im n.toNat (im 30 0 12).toNat p) b := by rw [hks, if_neg (by omega)]
                           have h9 := ih53 (b + 1) S lg (by omega) ⟨by omega, hRS, hag, hlg⟩
                           rw [e9] at h9
                           exact h9)
                    · refine q_bipush (t := 92) F dX9_kissing_90 (by decide) rfl ?_
                      refine q_iload (t := 94) F dX9_kissing_92 rfl rfl ?_
                      refine q_imul (t := 95) F dX9_kissing_94 rfl ?_
                      refine q_iload (t := 97) F dX9_kissing_95 rfl rfl ?_
                      refine q_iadd (t := 98) F dX9_kissing_97 rfl ?_
                      refine q_istore (t := 100) F dX9_kissing_98 (by decide) rfl rfl ?_
                      refine q_iload (t := 102) F dX9_kissing_100 rfl rfl ?_
                      refine q_istore_n (t := 103) F dX9_kissing_102 rfl (by decide) rfl rfl ?_
                      refine q_iinc (t := 106) F dX9_kissing_103 rfl (by decide) rfl rfl ?_
                      refine q_goto (t := 53) F dX9_kissing_106 (by decide) ?_
                      refine wp_less 7 ?_
                      rw [show (b : Int) + 1 = ((b + 1 : Nat) : Int) by omega]
                      first
                        | (exfalso; omega)
                        | (have e9 : kxI im n.toNat p (kxO im n.toNat (im 30 0 12).toNat p) (b + 1) = ((p : Int) * 10 + b, skR im n.toNat p b) := by rw [hks, if_pos ⟨by omega, by omega⟩]
                           have h9 := ih53 (b + 1) im3 lm3 (by omega) ⟨by omega, hR3, hag3, hlg3⟩
                           rw [e9] at h9
                           rw [hx79, Int.mul_comm 10 (p : Int)]
                           exact h9)
                        | (have e9 : kxI im n.toNat p (kxO im n.toNat (im 30 0 12).toNat p) (b + 1) = kxI im n.toNat p (kxO im n.toNat (im 30 0 12).toNat p) b := by rw [hks, if_neg (by omega)]
                           have h9 := ih53 (b + 1) im3 lm3 (by omega) ⟨by omega, hR3, hag3, hlg3⟩
                           rw [e9] at h9
                           exact h9)
                        | (have e9 : kxI im n.toNat p (kxO im n.toNat (im 30 0 12).toNat p) (b + 1) = kxI im n.toNat p (kxO im n.toNat (im 30 0 12).toNat p) b := by rw [hks, if_neg (by omega)]
                           have h9 := ih53 (b + 1) S lg (by omega) ⟨by omega, hRS, hag, hlg⟩
                           rw [e9] at h9
                           exact h9)
                  · refine q_iload_n (t := 70) F dX9_kissing_69 rfl rfl rfl ?_
                    refine q_goto (t := 82) F dX9_kissing_70 (by decide) ?_
                    refine q_istore (t := 84) F dX9_kissing_82 (by decide) rfl rfl ?_
                    refine q_iload (t := 86) F dX9_kissing_84 rfl rfl ?_
                    refine q_iload_n (t := 87) F dX9_kissing_86 rfl rfl rfl ?_
                    refine q_icmp_ge (t := 90) (u := 103) F dX9_kissing_87 (by constructor <;> omega) (by constructor <;> omega) (by decide) rfl (fun c87 => ?_) (fun c87 => ?_)
                    · refine q_iinc (t := 106) F dX9_kissing_103 rfl (by decide) rfl rfl ?_
                      refine q_goto (t := 53) F dX9_kissing_106 (by decide) ?_
                      refine wp_less 7 ?_
                      rw [show (b : Int) + 1 = ((b + 1 : Nat) : Int) by omega]
                      first
                        | (exfalso; omega)
                        | (have e9 : kxI im n.toNat p (kxO im n.toNat (im 30 0 12).toNat p) (b + 1) = ((p : Int) * 10 + b, skR im n.toNat p b) := by rw [hks, if_pos ⟨by omega, by omega⟩]
                           have h9 := ih53 (b + 1) im3 lm3 (by omega) ⟨by omega, hR3, hag3, hlg3⟩
                           rw [e9] at h9
                           rw [hx79, Int.mul_comm 10 (p : Int)]
                           exact h9)
                        | (have e9 : kxI im n.toNat p (kxO im n.toNat (im 30 0 12).toNat p) (b + 1) = kxI im n.toNat p (kxO im n.toNat (im 30 0 12).toNat p) b := by rw [hks, if_neg (by omega)]
                           have h9 := ih53 (b + 1) im3 lm3 (by omega) ⟨by omega, hR3, hag3, hlg3⟩
                           rw [e9] at h9
                           exact h9)
                        | (have e9 : kxI im n.toNat p (kxO im n.toNat (im 30 0 12).toNat p) (b + 1) = kxI im n.toNat p (kxO im n.toNat (im 30 0 12).toNat p) b := by rw [hks, if_neg (by omega)]
                           have h9 := ih53 (b + 1) S lg (by omega) ⟨by omega, hRS, hag, hlg⟩
                           rw [e9] at h9
                           exact h9)
                    · refine q_bipush (t := 92) F dX9_kissing_90 (by decide) rfl ?_
                      refine q_iload (t := 94) F dX9_kissing_92 rfl rfl ?_
                      refine q_imul (t := 95) F dX9_kissing_94 rfl ?_
                      refine q_iload (t := 97) F dX9_kissing_95 rfl rfl ?_
                      refine q_iadd (t := 98) F dX9_kissing_97 rfl ?_
                      refine q_istore (t := 100) F dX9_kissing_98 (by decide) rfl rfl ?_
                      refine q_iload (t := 102) F dX9_kissing_100 rfl rfl ?_
                      refine q_istore_n (t := 103) F dX9_kissing_102 rfl (by decide) rfl rfl ?_
                      refine q_iinc (t := 106) F dX9_kissing_103 rfl (by decide) rfl rfl ?_
                      refine q_goto (t := 53) F dX9_kissing_106 (by decide) ?_
                      refine wp_less 7 ?_
                      rw [show (b : Int) + 1 = ((b + 1 : Nat) : Int) by omega]
                      first
                        | (exfalso; omega)
                        | (have e9 : kxI im n.toNat p (kxO im n.toNat (im 30 0 12).toNat p) (b + 1) = ((p : Int) * 10 + b, skR im n.toNat p b) := by rw [hks, if_pos ⟨by omega, by omega⟩]
                           have h9 := ih53 (b + 1) im3 lm3 (by omega) ⟨by omega, hR3, hag3, hlg3⟩
                           rw [e9] at h9
                           rw [hx79, Int.mul_comm 10 (p : Int)]
                           exact h9)
                        | (have e9 : kxI im n.toNat p (kxO im n.toNat (im 30 0 12).toNat p) (b + 1) = kxI im n.toNat p (kxO im n.toNat (im 30 0 12).toNat p) b := by rw [hks, if_neg (by omega)]
                           have h9 := ih53 (b + 1) im3 lm3 (by omega) ⟨by omega, hR3, hag3, hlg3⟩
                           rw [e9] at h9
                           exact h9)
                        | (have e9 : kxI im n.toNat p (kxO im n.toNat (im 30 0 12).toNat p) (b + 1) = kxI im n.toNat p (kxO im n.toNat (im 30 0 12).toNat p) b := by rw [hks, if_neg (by omega)]
                           have h9 := ih53 (b + 1) S lg (by omega) ⟨by omega, hRS, hag, hlg⟩
                           rw [e9] at h9
                           exact h9)
            exact L53 _ 0 S lg (Nat.lt_succ_self _) ⟨by omega, hRS, hag, hlg⟩
      exact L41 _ 0 im2 lm2 (Nat.lt_succ_self _) ⟨by omega, hR2, hag2, hlg2⟩
    · refine q_bipush (t := 24) F dX9_kissing_22 (by decide) rfl ?_
      refine q_iret F dX9_kissing_24 rfl ?_
      first
        | (refine ⟨_, rfl, im, lm, ?_, hR, agS_rfl im, lgQ_rfl lm, rfl⟩
           rw [if_neg (by omega)])
        | (obtain rfl : p = (im 30 0 12).toNat := by omega
           refine ⟨_, rfl, S, lg, ?_, hRS, hag, hlg, rfl⟩
           rw [if_pos (by omega)]
           first
             | rw [if_pos (by omega)]
             | rw [if_neg (by omega)])

def chV (im : IM) (n h : Nat) : Int := smF (costR (up im 30 0 8 ((2 ^ h : Nat) : Int)) n) 50
theorem RC_bell {im : IM} (h : RC im) {v : Int} (hv : 0 ≤ v ∧ v < 16777216) : RC (up im 30 0 8 v) := by
  obtain ⟨hR, hX, h4, h12, h7, h8, hP⟩ := h
  exact ⟨RI_up hR (by constructor <;> omega), hX.same (fun _ => rfl) (fun _ => rfl) (fun _ => rfl) rfl rfl, h4, h12, h7, hv, hP⟩
theorem pow_24 {h : Nat} (hh : h < 24) : 2 ^ h < 16777216 := by
  have := Nat.pow_lt_pow_right (a := 2) (by omega) hh
  exact this

set_option maxHeartbeats 4000000 in
theorem c_X9_church (l : Launch) (G : GS) (im : IM) (bt rt : Nat) (lm : IM) (h : RC im) (hA : AG im 1000) (h79 : im 30 0 7 ≤ 999) (n what : Int) (hn : ri n) (hwhat : ri what) : Cn l (XR G) yX9_church Y_X9_church [vR 30 0, vI n, vI what] (im, rs bt rt, lm) (pI fun x m' => ∃ im' lm', x = (if (0 ≤ n ∧ n ≤ 60) ∧ 0 ≤ what ∧ what ≤ 1 then (if what = 0 then ((lst (chV im n.toNat) 24 : Nat) : Int) else chV im n.toNat (lst (chV im n.toNat) 24)) else -2) ∧ RI im' ∧ agS im' im ∧ lgQ lm' lm ∧ m' = (im', rs bt rt, lm')) := by
  refine cn_of (by decide) (okR G) rfl (Nat.le_of_ble_eq_true rfl) ?_
  intro M ad hMl F
  subst hMl
  have hR := h.1
  have hX := h.2.1
  have h4 := h.2.2.1
  have h12 := h.2.2.2.1
  have h7 := h.2.2.2.2.1
  have h6 := hX.2.2.1
  have h3 := hX.2.2.2.1
  have hP := h.2.2.2.2.2.2
  have hR := h.1
  have n1 := hn.1
  have n2 := hn.2
  have what1 := hwhat.1
  have what2 := hwhat.2
  refine wp_pad 4 ?_
  show Wp M (XR G) ad Y_X9_church (pI fun x m' => ∃ im' lm', x = (if (0 ≤ n ∧ n ≤ 60) ∧ 0 ≤ what ∧ what ≤ 1 then (if what = 0 then ((lst (chV im n.toNat) 24 : Nat) : Int) else chV im n.toNat (lst (chV im n.toNat) 24)) else -2) ∧ RI im' ∧ agS im' im ∧ lgQ lm' lm ∧ m' = (im', rs bt rt, lm')) 0 [some (vR 30 0), some (vI n), some (vI what), none, none, none, none] [] (im, rs bt rt, lm)
  refine q_iload_n (t := 1) F dX9_church_0 rfl rfl rfl ?_
  refine q_i2l (t := 2) F dX9_church_1 (by first | exact hR _ _ _ | (constructor <;> omega)) rfl ?_
  refine q_lconst (t := 3) (x := 0) F dX9_church_2 (by decide) rfl ?_
  refine q_ldc2 (t := 6) (x := 60) F dX9_church_3 kl_X9_242 (by decide) rfl ?_
  refine wp_callS (t := 9) [_, _, _] F dX9_church_6 k_X9_in st_X9_in ml_X9_91 rfl rfl (Nat.le_of_ble_eq_true rfl) (by decide) (c_X9_in _ G _ _ _ _ _ _ _ (by constructor <;> omega) (by constructor <;> omega) (by constructor <;> omega)) rfl (kI ?_)
  rintro x6 m' ⟨hx6, rfl⟩
  have hx6 := if01 hx6
  refine q_if_eq (t := 12) (u := 22) F dX9_church_9 (by first | exact hR _ _ _ | (constructor <;> omega)) (by decide) rfl (fun c9 => ?_) (fun c9 => ?_)
  · refine q_bipush (t := 24) F dX9_church_22 (by decide) rfl ?_
    refine q_iret F dX9_church_24 rfl ?_
    first
      | (refine ⟨_, rfl, im, lm, ?_, hR, agS_rfl im, lgQ_rfl lm, rfl⟩
         rw [if_neg (by omega)])
      | (obtain rfl : i = 24 := by omega
         have e1 := hs (by omega)
         refine ⟨_, rfl, _, lg, ?_, RI_up hRS (hR 30 0 8), hag, hlg, rfl⟩
         rw [if_pos (by omega)]
         first
           | (rw [if_pos (by omega)]; exact e1.1)
           | (rw [if_neg (by omega)]; exact e1.2))
  · refine q_iload_n (t := 13) F dX9_church_12 rfl rfl rfl ?_
    refine q_i2l (t := 14) F dX9_church_13 (by first | exact hR _ _ _ | (constructor <;> omega)) rfl ?_
    refine q_lconst (t := 15) (x := 0) F dX9_church_14 (by decide) rfl ?_
    refine q_lconst (t := 16) (x := 1) F dX9_church_15 (by decide) rfl ?_
    refine wp_callS (t := 19) [_, _, _] F dX9_church_16 k_X9_in st_X9_in ml_X9_91 rfl rfl (Nat.le_of_ble_eq_true rfl) (by decide) (c_X9_in _ G _ _ _ _ _ _ _ (by constructor <;> omega) (by constructor <;> omega) (by constructor <;> omega)) rfl (kI ?_)
    rintro x16 m' ⟨hx16, rfl⟩
    have hx16 := if01 hx16
    refine q_if_ne (t := 22) (u := 25) F dX9_church_19 (by first | exact hR _ _ _ | (constructor <;> omega)) (by decide) rfl (fun c19 => ?_) (fun c19 => ?_)
    · refine q_aload_n (t := 26) F dX9_church_25 rfl rfl rfl ?_
      refine g_X9_23 (t := 29) F dX9_church_26 rfl rfl ?_
      try simp only [up_app, row_app, scr_app, cpy_app, Nat.reduceEqDiff, Int.reduceToNat, Int.toNat_natCast, and_true, true_and, and_false, false_and, and_self, reduceIte]
      refine q_istore_n (t := 30) F dX9_church_29 rfl (by decide) rfl rfl ?_
      refine q_iconst (t := 31) F dX9_church_30 rfl ?_
      refine q_istore (t := 33) F dX9_church_31 (by decide) rfl rfl ?_
      refine q_iconst (t := 34) F dX9_church_33 rfl ?_
      refine q_istore (t := 36) F dX9_church_34 (by decide) rfl rfl ?_
      refine q_iconst (t := 37) F dX9_church_36 rfl ?_
      refine q_istore (t := 39) F dX9_church_37 (by decide) rfl rfl ?_
      have L39 : ∀ (fz : Nat) (i : Nat) (fo le : Int) (S lg : IM), 24 - i < fz → (i ≤ 24 ∧ (i = 0 → fo = -1 ∧ le = 0) ∧ (0 < i → fo = (lst (chV im n.toNat) i : Nat) ∧ le = chV im n.toNat (lst (chV im n.toNat) i)) ∧ (0 ≤ le ∧ le ≤ 35000) ∧ RI S ∧ agS (up S 30 0 8 (im 30 0 8)) im ∧ lgQ lg lm) → Wp M (XR G) ad Y_X9_church (pI fun x m' => ∃ im' lm', x = (if (0 ≤ n ∧ n ≤ 60) ∧ 0 ≤ what ∧ what ≤ 1 then (if what = 0 then ((lst (chV im n.toNat) 24 : Nat) : Int) else chV im n.toNat (lst (chV im n.toNat) 24)) else -2) ∧ RI im' ∧ agS im' im ∧ lgQ lm' lm ∧ m' = (im', rs bt rt, lm')) 39 [some (vR 30 0), some (vI n), some (vI what), some (vI (im 30 0 8)), some (vI fo), some (vI le), some (vI (i : Int))] [] (S, rs bt rt, lg) := by
        intro fz
        induction fz with
        | zero => intro i fo le S lg h; exact absurd h (Nat.not_lt_zero _)
        | succ fz ih =>
          have ih39 := ih
          intro i fo le S lg hmeas ⟨hi, hz, hs, hle, hRS, hag, hlg⟩
          have hls := lst_s (chV im n.toNat) i
          have hli : 0 < i → lst (chV im n.toNat) i < i := lst_in (chV im n.toNat) i
          refine q_iload (t := 41) F dX9_church_39 rfl rfl ?_
          refine q_bipush (t := 43) F dX9_church_41 (by decide) rfl ?_
          refine q_icmp_ge (t := 46) (u := 90) F dX9_church_43 (by constructor <;> omega) (by constructor <;> omega) (by decide) rfl (fun c43 => ?_) (fun c43 => ?_)
          · refine q_aload_n (t := 91) F dX9_church_90 rfl rfl rfl ?_
            refine q_iload_n (t := 92) F dX9_church_91 rfl rfl rfl ?_
            refine p_X9_23 (t := 95) F dX9_church_92 rfl rfl ?_
            refine q_iload_n (t := 96) F dX9_church_95 rfl rfl rfl ?_
            refine q_if_ne (t := 99) (u := 104) F dX9_church_96 (by first | exact hR _ _ _ | (constructor <;> omega)) (by decide) rfl (fun c96 => ?_) (fun c96 => ?_)
            · refine q_iload (t := 106) F dX9_church_104 rfl rfl ?_
              refine q_iret F dX9_church_106 rfl ?_
              first
                | (refine ⟨_, rfl, im, lm, ?_, hR, agS_rfl im, lgQ_rfl lm, rfl⟩
                   rw [if_neg (by omega)])
                | (obtain rfl : i = 24 := by omega
                   have e1 := hs (by omega)
                   refine ⟨_, rfl, _, lg, ?_, RI_up hRS (hR 30 0 8), hag, hlg, rfl⟩
                   rw [if_pos (by omega)]
                   first
                     | (rw [if_pos (by omega)]; exact e1.1)
                     | (rw [if_neg (by omega)]; exact e1.2))
            · refine q_iload (t := 101) F dX9_church_99 rfl rfl ?_
              refine q_goto (t := 106) F dX9_church_101 (by decide) ?_
              refine q_iret F dX9_church_106 rfl ?_
              first
                | (refine ⟨_, rfl, im, lm, ?_, hR, agS_rfl im, lgQ_rfl lm, rfl⟩
                   rw [if_neg (by omega)])
                | (obtain rfl : i = 24 := by omega
                   have e1 := hs (by omega)
                   refine ⟨_, rfl, _, lg, ?_, RI_up hRS (hR 30 0 8), hag, hlg, rfl⟩
                   rw [if_pos (by omega)]
                   first
                     | (rw [if_pos (by omega)]; exact e1.1)
                     | (rw [if_neg (by omega)]; exact e1.2))
          · refine q_aload_n (t := 47) F dX9_church_46 rfl rfl rfl ?_
            refine q_iconst (t := 48) F dX9_church_47 rfl ?_
            refine q_iload (t := 50) F dX9_church_48 rfl rfl ?_
            refine q_ishl (t := 51) F dX9_church_50 (by omega) (by omega) rfl ?_
            rw [pow_cast i]
            refine p_X9_23 (t := 54) F dX9_church_51 rfl rfl ?_
            have hpw := Int.ofNat_lt.mpr (pow_24 (h := i) (by omega))
            have hpz : (0 : Int) ≤ ((2 ^ i : Nat) : Int) := Int.natCast_nonneg _
            have hS8 : agS (up S 30 0 8 ((2 ^ i : Nat) : Int)) (up im 30 0 8 ((2 ^ i : Nat) : Int)) := fun k s a b => by
              rw [up_app, up_app]
              split
              · rfl
              · rename_i z
                have z2 := hag k s a b
                rw [up_app, if_neg z] at z2
                exact z2
            have hRC1 : RC (up S 30 0 8 ((2 ^ i : Nat) : Int)) := (RC_bell h (v := ((2 ^ i : Nat) : Int)) (by omega)).S (RI_up hRS (by constructor <;> omega)) hS8
            have eW := when_C hS8.C.1 hS8.C.2
            have hC1 : agC (up S 30 0 8 ((2 ^ i : Nat) : Int)) (up S 30 0 8 ((2 ^ i : Nat) : Int)) := ⟨fun _ _ _ _ => rfl, rfl, rfl, rfl, rfl, rfl⟩
            have e7 : S 30 0 7 = im 30 0 7 := hag 30 7 (by omega) (by omega)
            have hA : AG (up S 30 0 8 ((2 ^ i : Nat) : Int)) 1000 := fun q hq hne => by
              have e36 : S 36 0 q = im 36 0 q := hag 36 q (by omega) (by omega)
              have e37 : S 37 0 q = im 37 0 q := hag 37 q (by omega) (by omega)
              have e12 : S 30 0 12 = im 30 0 12 := hag 30 12 (by omega) (by omega)
              rw [up_app, if_neg (by omega)] at hq hne ⊢
              rw [e37]
              exact hA q (by rw [← e12]; exact hq) (by rw [← e36]; exact hne)
            have hch := (cost_in (RC_bell h (v := ((2 ^ i : Nat) : Int)) (by omega)) n.toNat).2
            have hci : chV im n.toNat i = smF (costR (up im 30 0 8 ((2 ^ i : Nat) : Int)) n.toNat) 50 := rfl
            refine q_aload_n (t := 55) F dX9_church_54 rfl rfl rfl ?_
            refine q_iload_n (t := 56) F dX9_church_55 rfl rfl rfl ?_
            rw [show vI n = vI ((n.toNat : Nat) : Int) by rw [Int.toNat_of_nonneg (by omega)]]
            refine wp_callV (t := 59) [_] F dX9_church_56 k_X9_runs v_X9_runs ml_X9_410 rfl rfl rfl rfl (Nat.le_of_ble_eq_true rfl) (by decide) (m_30 (by omega)) (c_X9_runs _ G (up S 30 0 8 ((2 ^ i : Nat) : Int)) bt rt lg hRC1 (hA.C hC1) (by rw [up_app, if_neg (by omega), e7]; exact h79) n.toNat (by omega)) rfl (kV ?_)
            rintro m' ⟨im2, lm2, hR2, hU, hlg2, rfl⟩
            rw [show vI ((n.toNat : Nat) : Int) = vI n by rw [Int.toNat_of_nonneg (by omega)]]
            have e40 : im2 30 0 40 = chV im n.toNat i := by rw [hU.2.2.1, eW.2.1]; rfl
            have hlg2 := hlg2.trans hlg
            have hag2 : agS (up im2 30 0 8 (im 30 0 8)) im := fun k s a b => by
              rw [up_app]
              split
              · rename_i z; rw [z.1, z.2.2]
              · rename_i z
                rw [hU.1 k s (by omega) b, up_app, if_neg z]
                have z2 := hag k s a b
                rw [up_app, if_neg z] at z2
                exact z2
            refine q_iload (t := 61) F dX9_church_59 rfl rfl ?_
            refine q_iconst (t := 62) F dX9_church_61 rfl ?_
            refine q_icmp_eq (t := 65) (u := 74) F dX9_church_62 (by by_cases i0 : i = 0; (· have := hz i0; constructor <;> omega); (· have := hs (by omega); have := hli (by omega); constructor <;> omega)) (by constructor <;> omega) (by decide) rfl (fun c62 => ?_) (fun c62 => ?_)
            · refine q_iload (t := 76) F dX9_church_74 rfl rfl ?_
              refine q_istore (t := 78) F dX9_church_76 (by decide) rfl rfl ?_
              refine q_aload_n (t := 79) F dX9_church_78 rfl rfl rfl ?_
              refine g_X9_401 (t := 82) F dX9_church_79 rfl rfl ?_
              try simp only [up_app, row_app, scr_app, cpy_app, Nat.reduceEqDiff, Int.reduceToNat, Int.toNat_natCast, and_true, true_and, and_false, false_and, and_self, reduceIte]
              rw [e40]
              refine q_istore (t := 84) F dX9_church_82 (by decide) rfl rfl ?_
              refine q_iinc (t := 87) F dX9_church_84 rfl (by decide) rfl rfl ?_
              refine q_goto (t := 39) F dX9_church_87 (by decide) ?_
              rw [show (i : Int) + 1 = ((i + 1 : Nat) : Int) by omega]
              first
                | (refine ih39 (i + 1) (i : Int) (chV im n.toNat i) im2 lm2 (by omega) ⟨by omega, fun z => absurd z (by omega), fun _ => ?_, by omega, hR2, hag2, hlg2⟩
                   by_cases i0 : i = 0
                   · subst i0
                     have e0 : lst (chV im n.toNat) 1 = 0 := by have := lst_in (chV im n.toNat) 1 (by omega); omega
                     rw [e0]
                     exact ⟨rfl, rfl⟩
                   · have e1 := hs (by omega)
                     have e9 : lst (chV im n.toNat) (i + 1) = i := by rw [hls, if_pos (by omega)]
                     rw [e9]
                     exact ⟨rfl, rfl⟩)
                | (refine ih39 (i + 1) fo le im2 lm2 (by omega) ⟨by omega, fun z => absurd z (by omega), fun _ => ?_, hle, hR2, hag2, hlg2⟩
                   by_cases i0 : i = 0
                   · exact absurd (hz i0).1 (by omega)
                   · have e1 := hs (by omega)
                     have e9 : lst (chV im n.toNat) (i + 1) = lst (chV im n.toNat) i := by rw [hls, if_neg (by omega)]
                     rw [e9]
                     exact e1)
            · refine q_aload_n (t := 66) F dX9_church_65 rfl rfl rfl ?_
              refine g_X9_401 (t := 69) F dX9_church_66 rfl rfl ?_
              try simp only [up_app, row_app, scr_app, cpy_app, Nat.reduceEqDiff, Int.reduceToNat, Int.toNat_natCast, and_true, true_and, and_false, false_and, and_self, reduceIte]
              rw [e40]
              refine q_iload (t := 71) F dX9_church_69 rfl rfl ?_
              refine q_icmp_ge (t := 74) (u := 84) F dX9_church_71 (by constructor <;> omega) (by constructor <;> omega) (by decide) rfl (fun c71 => ?_) (fun c71 => ?_)
              · refine q_iinc (t := 87) F dX9_church_84 rfl (by decide) rfl rfl ?_
                refine q_goto (t := 39) F dX9_church_87 (by decide) ?_
                rw [show (i : Int) + 1 = ((i + 1 : Nat) : Int) by omega]
                first
                  | (refine ih39 (i + 1) (i : Int) (chV im n.toNat i) im2 lm2 (by omega) ⟨by omega, fun z => absurd z (by omega), fun _ => ?_, by omega, hR2, hag2, hlg2⟩
                     by_cases i0 : i = 0
                     · subst i0
                       have e0 : lst (chV im n.toNat) 1 = 0 := by have := lst_in (chV im n.toNat) 1 (by omega); omega
                       rw [e0]
                       exact ⟨rfl, rfl⟩
                     · have e1 := hs (by omega)
                       have e9 : lst (chV im n.toNat) (i + 1) = i := by rw [hls, if_pos (by omega)]
                       rw [e9]
                       exact ⟨rfl, rfl⟩)
                  | (refine ih39 (i + 1) fo le im2 lm2 (by omega) ⟨by omega, fun z => absurd z (by omega), fun _ => ?_, hle, hR2, hag2, hlg2⟩
                     by_cases i0 : i = 0
                     · exact absurd (hz i0).1 (by omega)
                     · have e1 := hs (by omega)
                       have e9 : lst (chV im n.toNat) (i + 1) = lst (chV im n.toNat) i := by rw [hls, if_neg (by omega)]
                       rw [e9]
                       exact e1)
              · refine q_iload (t := 76) F dX9_church_74 rfl rfl ?_
                refine q_istore (t := 78) F dX9_church_76 (by decide) rfl rfl ?_
                refine q_aload_n (t := 79) F dX9_church_78 rfl rfl rfl ?_
                refine g_X9_401 (t := 82) F dX9_church_79 rfl rfl ?_
                try simp only [up_app, row_app, scr_app, cpy_app, Nat.reduceEqDiff, Int.reduceToNat, Int.toNat_natCast, and_true, true_and, and_false, false_and, and_self, reduceIte]
                rw [e40]
                refine q_istore (t := 84) F dX9_church_82 (by decide) rfl rfl ?_
                refine q_iinc (t := 87) F dX9_church_84 rfl (by decide) rfl rfl ?_
                refine q_goto (t := 39) F dX9_church_87 (by decide) ?_
                rw [show (i : Int) + 1 = ((i + 1 : Nat) : Int) by omega]
                first
                  | (refine ih39 (i + 1) (i : Int) (chV im n.toNat i) im2 lm2 (by omega) ⟨by omega, fun z => absurd z (by omega), fun _ => ?_, by omega, hR2, hag2, hlg2⟩
                     by_cases i0 : i = 0
                     · subst i0
                       have e0 : lst (chV im n.toNat) 1 = 0 := by have := lst_in (chV im n.toNat) 1 (by omega); omega
                       rw [e0]
                       exact ⟨rfl, rfl⟩
                     · have e1 := hs (by omega)
                       have e9 : lst (chV im n.toNat) (i + 1) = i := by rw [hls, if_pos (by omega)]
                       rw [e9]
                       exact ⟨rfl, rfl⟩)
                  | (refine ih39 (i + 1) fo le im2 lm2 (by omega) ⟨by omega, fun z => absurd z (by omega), fun _ => ?_, hle, hR2, hag2, hlg2⟩
                     by_cases i0 : i = 0
                     · exact absurd (hz i0).1 (by omega)
                     · have e1 := hs (by omega)
                       have e9 : lst (chV im n.toNat) (i + 1) = lst (chV im n.toNat) i := by rw [hls, if_neg (by omega)]
                       rw [e9]
                       exact e1)
      refine L39 _ 0 (-1) 0 im lm (Nat.lt_succ_self _) ⟨by omega, fun _ => ⟨rfl, rfl⟩, fun z => absurd z (by omega), by omega, hR, fun k s a b => ?_, lgQ_rfl lm⟩
      rw [up_app]
      split
      · rename_i z; rw [z.1, z.2.2]
      · rfl
    · refine q_bipush (t := 24) F dX9_church_22 (by decide) rfl ?_
      refine q_iret F dX9_church_24 rfl ?_
      first
        | (refine ⟨_, rfl, im, lm, ?_, hR, agS_rfl im, lgQ_rfl lm, rfl⟩
           rw [if_neg (by omega)])
        | (obtain rfl : i = 24 := by omega
           have e1 := hs (by omega)
           refine ⟨_, rfl, _, lg, ?_, RI_up hRS (hR 30 0 8), hag, hlg, rfl⟩
           rw [if_pos (by omega)]
           first
             | (rw [if_pos (by omega)]; exact e1.1)
             | (rw [if_neg (by omega)]; exact e1.2))
