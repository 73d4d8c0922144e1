/-! the reference: plan -/

def SH (im : IM) : Prop := ∀ j, j < 4 → (im 47 0 j = 0 ∨ im 47 0 j = 1) ∧ (im 47 0 j = 1 → (0 ≤ im 48 0 j ∧ im 48 0 j ≤ 2) ∧ 0 ≤ im 49 0 j ∧ im 49 0 j ≤ 40)
abbrev okP (im : IM) (s : Nat) : Prop := im 49 0 s % 4 = 0 ∧ ∀ k, k < (im 49 0 s / 4).toNat → stepB (im 30 0 12) (im 50 0 (40 * s + 4 * k)) (im 50 0 (40 * s + 4 * k + 1)) (im 50 0 (40 * s + 4 * k + 2)) (im 50 0 (40 * s + 4 * k + 3)) = 1
def tkR (S : IM) (act who f g t : Int) : IM := if act = 0 then spR S S who.toNat f g else if act = 1 then up S 36 0 (10 * who.toNat + f.toNat) (-1) else if act = 2 then hnR S who.toNat f.toNat 10 else up (lvN S t (10 * S 30 0 12).toNat) 30 0 7 (S 30 0 7 + 1)
def plS (im : IM) (s : Nat) : Nat → IM → Prop
  | 0, S => agY S (asideI im)
  | k + 1, S => ∃ S0, plS im s k S0 ∧ agY S (tkR S0 (im 50 0 (40 * s + 4 * k)) (im 50 0 (40 * s + 4 * k + 1)) (im 50 0 (40 * s + 4 * k + 2)) (im 50 0 (40 * s + 4 * k + 3)) ((4 * k : Nat) : Int))
/-- what a plan goes through is within what is laid back -/
def PK (im S : IM) : Prop := (∀ k s, ¬ (36 ≤ k ∧ k ≤ 39) → ¬ (k = 30 ∧ (s = 7 ∨ s = 9 ∨ 15 ≤ s ∧ s ≤ 33)) → S k 0 s = asideI im k 0 s) ∧ (∀ k s, (k = 36 ∨ k = 37) → 50 ≤ s → S k 0 s = im k 0 s)
theorem PK_tk {im S S1 : IM} {act who f g t : Int} (hS : PK im S) (ht : t ≠ -1) (h12 : 0 ≤ im 30 0 12 ∧ im 30 0 12 ≤ 5) (hst : stepB (im 30 0 12) act who f g = 1) (ha : agY S1 (tkR S act who f g t)) : PK im S1 := by
  have e12 : S 30 0 12 = im 30 0 12 := hS.1 30 12 (by omega) (by omega)
  have hL := LV_N S ht (10 * S 30 0 12).toNat
  have hu := utR_in (im := S) (p := who.toNat) (w := f) (fd := g)
  have hs : act = 3 ∨ (0 ≤ who ∧ who < 5) ∧ (act = 0 ∨ (act = 1 ∧ 0 ≤ f ∧ f < 10) ∨ (act = 2 ∧ 0 ≤ f ∧ f < 5)) := by
    unfold stepB at hst
    (repeat' split at hst) <;> omega
  have key : (∀ k s, ¬ (36 ≤ k ∧ k ≤ 39) → ¬ (k = 30 ∧ (s = 7 ∨ s = 9 ∨ 15 ≤ s ∧ s ≤ 33)) → tkR S act who f g t k 0 s = S k 0 s) ∧ (∀ k s, (k = 36 ∨ k = 37) → 50 ≤ s → tkR S act who f g t k 0 s = S k 0 s) := by
    unfold tkR
    by_cases a0 : act = 0
    · rw [if_pos a0]
      unfold spR
      by_cases u : utR S who.toNat f g = -1
      · rw [if_pos u]
        exact ⟨fun _ _ _ _ => rfl, fun _ _ _ _ => rfl⟩
      · rw [if_neg u]
        refine ⟨fun k s h1 h2 => ?_, fun k s h1 h2 => ?_⟩ <;> rw [up_app, if_neg (by omega), up_app, if_neg (by omega)]
    · rw [if_neg a0]
      by_cases a1 : act = 1
      · rw [if_pos a1]
        refine ⟨fun k s h1 h2 => ?_, fun k s h1 h2 => ?_⟩ <;> rw [up_app, if_neg (by omega)]
      · rw [if_neg a1]
        by_cases a2 : act = 2
        · rw [if_pos a2]
          refine ⟨fun k s h1 h2 => ?_, fun k s h1 h2 => ?_⟩ <;> (unfold hnR; rw [if_neg (by omega), if_neg (by omega)])
        · rw [if_neg a2]
          refine ⟨fun k s h1 h2 => ?_, fun k s h1 h2 => ?_⟩
          · rw [up_app, if_neg (by omega)]
            exact hL.1 k 0 s h1 (by omega)
          · rw [up_app, if_neg (by omega)]
            have l := hL.2.1 s (by omega)
            rcases h1 with rfl | rfl
            · exact l.1
            · exact l.2.1
  exact ⟨fun k s h1 h2 => ((ha k 0 s (by omega)).trans (key.1 k s h1 h2)).trans (hS.1 k s h1 h2), fun k s h1 h2 => ((ha k 0 s (by omega)).trans (key.2 k s h1 h2)).trans (hS.2 k s h1 h2)⟩
theorem AG_say {im im2 : IM} (h : AG im 1000) (hag : agY im2 im) (p : Nat) (w fd : Int) : AG (spR im im2 p w fd) 1000 := by
  have h2 : AG im2 1000 := h.C (hag.O.C).1
  unfold spR
  split
  · exact h2
  · intro q hq hne
    have hq : (q : Int) < 10 * im2 30 0 12 := hq
    have g := h2 q hq
    rw [up_app]
    split
    · omega
    · rename_i z
      rw [up_app, if_neg (by omega), up_app, if_neg (by omega)] at hne
      rw [up_app, if_neg (by omega)]
      exact g hne
theorem AG_out {im : IM} (h : AG im 1000) (s : Nat) : AG (up im 36 0 s (-1)) 1000 := by
  intro q hq hne
  have hq : (q : Int) < 10 * im 30 0 12 := hq
  have g := h q hq
  rw [up_app] at hne
  rw [up_app, if_neg (by omega)]
  split at hne
  · exact absurd rfl hne
  · exact g hne
theorem spR_ag {im im2 : IM} (h : agY im2 im) (p : Nat) (w fd : Int) : agY (spR im im2 p w fd) (spR im im p w fd) := by
  unfold spR
  split
  · exact h
  · exact (h.up rfl).up rfl
theorem PK_0 {im S : IM} (h : agY S (asideI im)) : PK im S := ⟨fun k s h1 h2 => h k 0 s (by omega), fun k s h1 h2 => (h k 0 s (by omega)).trans (asideI_c im (by omega) (by omega))⟩

set_option maxHeartbeats 4000000 in
theorem c_X9_isRow (l : Launch) (G : GS) (im : IM) (bt rt : Nat) (lm : IM) (h : RC im) (q : Nat) (hq : q + 3 < 160) (a w f g : Int) (ha : im 50 0 q = a) (hw : im 50 0 (q + 1) = w) (hf : im 50 0 (q + 2) = f) (hg : im 50 0 (q + 3) = g) : Cn l (XR G) yX9_isRow Y_X9_isRow [vR 30 0, vI (q : Int)] (im, rs bt rt, lm) (pI fun x m' => x = stepB (im 30 0 12) a w f g ∧ m' = (im, rs bt rt, lm)) := by
  refine cn_of (by decide) (okR G) rfl (Nat.le_of_ble_eq_true rfl) ?_
  intro M ad hMl F
  subst hMl
  have hR := h.1
  have h12 := h.2.2.2.1
  have hA : ri a := ha ▸ hR 50 0 q
  have hW : ri w := hw ▸ hR 50 0 (q + 1)
  have hF : ri f := hf ▸ hR 50 0 (q + 2)
  have hG : ri g := hg ▸ hR 50 0 (q + 3)
  have hA1 := hA.1
  have hA2 := hA.2
  have hW1 := hW.1
  have hW2 := hW.2
  have hF1 := hF.1
  have hF2 := hF.2
  have hG1 := hG.1
  have hG2 := hG.2
  refine wp_pad 4 ?_
  show Wp M (XR G) ad Y_X9_isRow (pI fun x m' => x = stepB (im 30 0 12) a w f g ∧ m' = (im, rs bt rt, lm)) 0 [some (vR 30 0), some (vI (q : Int)), none, none, none, none] [] (im, rs bt rt, lm)
  refine q_aload_n (t := 1) F dX9_isRow_0 rfl rfl rfl ?_
  refine g_X9_78 (t := 4) F dX9_isRow_1 rfl rfl ?_
  refine q_iload_n (t := 5) F dX9_isRow_4 rfl rfl rfl ?_
  first | refine ldN_50 (t := 6) F dX9_isRow_5 (by omega) rfl ?_ | refine ld_50 (t := 6) F dX9_isRow_5 (by omega) (by omega) rfl ?_
  rw [ha]
  refine q_istore_n (t := 7) F dX9_isRow_6 rfl (by decide) rfl rfl ?_
  refine q_aload_n (t := 8) F dX9_isRow_7 rfl rfl rfl ?_
  refine g_X9_78 (t := 11) F dX9_isRow_8 rfl rfl ?_
  refine q_iload_n (t := 12) F dX9_isRow_11 rfl rfl rfl ?_
  refine q_iconst (t := 13) F dX9_isRow_12 rfl ?_
  refine q_iadd (t := 14) F dX9_isRow_13 rfl ?_
  rw [show (q : Int) + 1 = ((q + 1 : Nat) : Int) by omega]
  first | refine ldN_50 (t := 15) F dX9_isRow_14 (by omega) rfl ?_ | refine ld_50 (t := 15) F dX9_isRow_14 (by omega) (by omega) rfl ?_
  rw [hw]
  refine q_istore_n (t := 16) F dX9_isRow_15 rfl (by decide) rfl rfl ?_
  refine q_aload_n (t := 17) F dX9_isRow_16 rfl rfl rfl ?_
  refine g_X9_78 (t := 20) F dX9_isRow_17 rfl rfl ?_
  refine q_iload_n (t := 21) F dX9_isRow_20 rfl rfl rfl ?_
  refine q_iconst (t := 22) F dX9_isRow_21 rfl ?_
  refine q_iadd (t := 23) F dX9_isRow_22 rfl ?_
  rw [show (q : Int) + 2 = ((q + 2 : Nat) : Int) by omega]
  first | refine ldN_50 (t := 24) F dX9_isRow_23 (by omega) rfl ?_ | refine ld_50 (t := 24) F dX9_isRow_23 (by omega) (by omega) rfl ?_
  rw [hf]
  refine q_istore (t := 26) F dX9_isRow_24 (by decide) rfl rfl ?_
  refine q_aload_n (t := 27) F dX9_isRow_26 rfl rfl rfl ?_
  refine g_X9_78 (t := 30) F dX9_isRow_27 rfl rfl ?_
  refine q_iload_n (t := 31) F dX9_isRow_30 rfl rfl rfl ?_
  refine q_iconst (t := 32) F dX9_isRow_31 rfl ?_
  refine q_iadd (t := 33) F dX9_isRow_32 rfl ?_
  rw [show (q : Int) + 3 = ((q + 3 : Nat) : Int) by omega]
  first | refine ldN_50 (t := 34) F dX9_isRow_33 (by omega) rfl ?_ | refine ld_50 (t := 34) F dX9_isRow_33 (by omega) (by omega) rfl ?_
  rw [hg]
  refine q_istore (t := 36) F dX9_isRow_34 (by decide) rfl rfl ?_
  refine q_iload_n (t := 37) F dX9_isRow_36 rfl rfl rfl ?_
  refine q_iconst (t := 38) F dX9_isRow_37 rfl ?_
  refine q_icmp_ne (t := 41) (u := 61) F dX9_isRow_38 (by constructor <;> omega) (by constructor <;> omega) (by decide) rfl (fun c38 => ?_) (fun c38 => ?_)
  · refine q_iload_n (t := 62) F dX9_isRow_61 rfl rfl rfl ?_
    refine q_i2l (t := 63) F dX9_isRow_62 (by first | exact hR _ _ _ | (constructor <;> omega)) rfl ?_
    refine q_lconst (t := 64) (x := 0) F dX9_isRow_63 (by decide) rfl ?_
    refine q_ldc2 (t := 67) (x := 2) F dX9_isRow_64 kl_X9_99 (by decide) rfl ?_
    refine wp_callS (t := 70) [_, _, _] F dX9_isRow_67 k_X9_in st_X9_in ml_X9_91 rfl rfl (Nat.le_of_ble_eq_true rfl) (by decide) (c_X9_in _ G _ _ _ _ _ _ _ (by constructor <;> omega) (by constructor <;> omega) (by constructor <;> omega)) rfl (kI ?_)
    rintro x67 m' ⟨hx67, rfl⟩
    have hx67 := if01 hx67
    refine q_if_eq (t := 73) (u := 81) F dX9_isRow_70 (by first | exact hR _ _ _ | (constructor <;> omega)) (by decide) rfl (fun c70 => ?_) (fun c70 => ?_)
    · refine q_iconst (t := 82) F dX9_isRow_81 rfl ?_
      refine q_zret F dX9_isRow_82 rfl (by decide) ?_
      refine ⟨_, rfl, ?_, rfl⟩
      unfold stepB
      (repeat' split) <;> first | rfl | (exfalso; omega)
    · refine q_aload_n (t := 74) F dX9_isRow_73 rfl rfl rfl ?_
      refine q_iload_n (t := 75) F dX9_isRow_74 rfl rfl rfl ?_
      refine wp_callV (t := 78) [_] F dX9_isRow_75 k_X9_isOne v_X9_isOne ml_X9_101 rfl rfl rfl rfl (Nat.le_of_ble_eq_true rfl) (by decide) (m_30 (by omega)) (c_X9_isOne _ G im bt rt lm hR h12.1 h12.2 w (by constructor <;> omega)) rfl (kI ?_)
      rintro x75 m' ⟨hx75, rfl⟩
      have hx75 := if01 hx75
      refine q_if_ne (t := 81) (u := 83) F dX9_isRow_78 (by first | exact hR _ _ _ | (constructor <;> omega)) (by decide) rfl (fun c78 => ?_) (fun c78 => ?_)
      · refine q_iload_n (t := 84) F dX9_isRow_83 rfl rfl rfl ?_
        refine q_if_ne (t := 87) (u := 116) F dX9_isRow_84 (by first | exact hR _ _ _ | (constructor <;> omega)) (by decide) rfl (fun c84 => ?_) (fun c84 => ?_)
        · refine q_iload (t := 118) F dX9_isRow_116 rfl rfl ?_
          refine q_if_ne (t := 121) (u := 156) F dX9_isRow_118 (by first | exact hR _ _ _ | (constructor <;> omega)) (by decide) rfl (fun c118 => ?_) (fun c118 => ?_)
          · refine q_iconst (t := 157) F dX9_isRow_156 rfl ?_
            refine q_zret F dX9_isRow_157 rfl (by decide) ?_
            refine ⟨_, rfl, ?_, rfl⟩
            unfold stepB
            (repeat' split) <;> first | rfl | (exfalso; omega)
          · refine q_iload_n (t := 122) F dX9_isRow_121 rfl rfl rfl ?_
            refine q_iconst (t := 123) F dX9_isRow_122 rfl ?_
            refine q_icmp_ne (t := 126) (u := 137) F dX9_isRow_123 (by constructor <;> omega) (by constructor <;> omega) (by decide) rfl (fun c123 => ?_) (fun c123 => ?_)
            · refine q_aload_n (t := 138) F dX9_isRow_137 rfl rfl rfl ?_
              refine q_iload (t := 140) F dX9_isRow_138 rfl rfl ?_
              refine wp_callV (t := 143) [_] F dX9_isRow_140 k_X9_isOne v_X9_isOne ml_X9_101 rfl rfl rfl rfl (Nat.le_of_ble_eq_true rfl) (by decide) (m_30 (by omega)) (c_X9_isOne _ G im bt rt lm hR h12.1 h12.2 f (by constructor <;> omega)) rfl (kI ?_)
              rintro x140 m' ⟨hx140, rfl⟩
              have hx140 := if01 hx140
              refine q_if_eq (t := 146) (u := 156) F dX9_isRow_143 (by first | exact hR _ _ _ | (constructor <;> omega)) (by decide) rfl (fun c143 => ?_) (fun c143 => ?_)
              · refine q_iconst (t := 157) F dX9_isRow_156 rfl ?_
                refine q_zret F dX9_isRow_157 rfl (by decide) ?_
                refine ⟨_, rfl, ?_, rfl⟩
                unfold stepB
                (repeat' split) <;> first | rfl | (exfalso; omega)
              · refine q_iload (t := 148) F dX9_isRow_146 rfl rfl ?_
                refine q_iload_n (t := 149) F dX9_isRow_148 rfl rfl rfl ?_
                refine q_icmp_eq (t := 152) (u := 156) F dX9_isRow_149 (by constructor <;> omega) (by constructor <;> omega) (by decide) rfl (fun c149 => ?_) (fun c149 => ?_)
                · refine q_iconst (t := 157) F dX9_isRow_156 rfl ?_
                  refine q_zret F dX9_isRow_157 rfl (by decide) ?_
                  refine ⟨_, rfl, ?_, rfl⟩
                  unfold stepB
                  (repeat' split) <;> first | rfl | (exfalso; omega)
                · refine q_iconst (t := 153) F dX9_isRow_152 rfl ?_
                  refine q_goto (t := 157) F dX9_isRow_153 (by decide) ?_
                  refine q_zret F dX9_isRow_157 rfl (by decide) ?_
                  refine ⟨_, rfl, ?_, rfl⟩
                  unfold stepB
                  (repeat' split) <;> first | rfl | (exfalso; omega)
            · refine q_iload (t := 128) F dX9_isRow_126 rfl rfl ?_
              refine wp_callS (t := 131) [_] F dX9_isRow_128 k_X9_isGap st_X9_isGap ml_X9_138 rfl rfl (Nat.le_of_ble_eq_true rfl) (by decide) (c_X9_isGap _ G im bt rt lm f (by constructor <;> omega)) rfl (kI ?_)
              rintro x128 m' ⟨hx128, rfl⟩
              have hx128 := if01 hx128
              refine q_if_eq (t := 134) (u := 156) F dX9_isRow_131 (by first | exact hR _ _ _ | (constructor <;> omega)) (by decide) rfl (fun c131 => ?_) (fun c131 => ?_)
              · refine q_iconst (t := 157) F dX9_isRow_156 rfl ?_
                refine q_zret F dX9_isRow_157 rfl (by decide) ?_
                refine ⟨_, rfl, ?_, rfl⟩
                unfold stepB
                (repeat' split) <;> first | rfl | (exfalso; omega)
              · refine q_goto (t := 152) F dX9_isRow_134 (by decide) ?_
                refine q_iconst (t := 153) F dX9_isRow_152 rfl ?_
                refine q_goto (t := 157) F dX9_isRow_153 (by decide) ?_
                refine q_zret F dX9_isRow_157 rfl (by decide) ?_
                refine ⟨_, rfl, ?_, rfl⟩
                unfold stepB
                (repeat' split) <;> first | rfl | (exfalso; omega)
        · refine q_iload (t := 89) F dX9_isRow_87 rfl rfl ?_
          refine wp_callS (t := 92) [_] F dX9_isRow_89 k_X9_isWord st_X9_isWord ml_X9_141 rfl rfl (Nat.le_of_ble_eq_true rfl) (by decide) (c_X9_isWord _ G im bt rt lm f (by constructor <;> omega)) rfl (kI ?_)
          rintro x89 m' ⟨hx89, rfl⟩
          have hx89 := if01 hx89
          refine q_if_eq (t := 95) (u := 112) F dX9_isRow_92 (by first | exact hR _ _ _ | (constructor <;> omega)) (by decide) rfl (fun c92 => ?_) (fun c92 => ?_)
          · refine q_iconst (t := 113) F dX9_isRow_112 rfl ?_
            refine q_goto (t := 157) F dX9_isRow_113 (by decide) ?_
            refine q_zret F dX9_isRow_157 rfl (by decide) ?_
            refine ⟨_, rfl, ?_, rfl⟩
            unfold stepB
            (repeat' split) <;> first | rfl | (exfalso; omega)
          · refine q_iload (t := 97) F dX9_isRow_95 rfl rfl ?_
            refine q_i2l (t := 98) F dX9_isRow_97 (by first | exact hR _ _ _ | (constructor <;> omega)) rfl ?_
            refine q_lconst (t := 99) (x := 0) F dX9_isRow_98 (by decide) rfl ?_
            refine q_ldc2 (t := 102) (x := 9) F dX9_isRow_99 kl_X9_95 (by decide) rfl ?_
            refine wp_callS (t := 105) [_, _, _] F dX9_isRow_102 k_X9_in st_X9_in ml_X9_91 rfl rfl (Nat.le_of_ble_eq_true rfl) (by decide) (c_X9_in _ G _ _ _ _ _ _ _ (by constructor <;> omega) (by constructor <;> omega) (by constructor <;> omega)) rfl (kI ?_)
            rintro x102 m' ⟨hx102, rfl⟩
            have hx102 := if01 hx102
            refine q_if_eq (t := 108) (u := 112) F dX9_isRow_105 (by first | exact hR _ _ _ | (constructor <;> omega)) (by decide) rfl (fun c105 => ?_) (fun c105 => ?_)
            · refine q_iconst (t := 113) F dX9_isRow_112 rfl ?_
              refine q_goto (t := 157) F dX9_isRow_113 (by decide) ?_
              refine q_zret F dX9_isRow_157 rfl (by decide) ?_
              refine ⟨_, rfl, ?_, rfl⟩
              unfold stepB
              (repeat' split) <;> first | rfl | (exfalso; omega)
            · refine q_iconst (t := 109) F dX9_isRow_108 rfl ?_
              refine q_goto (t := 157) F dX9_isRow_109 (by decide) ?_
              refine q_zret F dX9_isRow_157 rfl (by decide) ?_
              refine ⟨_, rfl, ?_, rfl⟩
              unfold stepB
              (repeat' split) <;> first | rfl | (exfalso; omega)
      · refine q_iconst (t := 82) F dX9_isRow_81 rfl ?_
        refine q_zret F dX9_isRow_82 rfl (by decide) ?_
        refine ⟨_, rfl, ?_, rfl⟩
        unfold stepB
        (repeat' split) <;> first | rfl | (exfalso; omega)
  · refine q_iload_n (t := 42) F dX9_isRow_41 rfl rfl rfl ?_
    refine q_if_ne (t := 45) (u := 59) F dX9_isRow_42 (by first | exact hR _ _ _ | (constructor <;> omega)) (by decide) rfl (fun c42 => ?_) (fun c42 => ?_)
    · refine q_iconst (t := 60) F dX9_isRow_59 rfl ?_
      refine q_zret F dX9_isRow_60 rfl (by decide) ?_
      refine ⟨_, rfl, ?_, rfl⟩
      unfold stepB
      (repeat' split) <;> first | rfl | (exfalso; omega)
    · refine q_iload (t := 47) F dX9_isRow_45 rfl rfl ?_
      refine q_if_ne (t := 50) (u := 59) F dX9_isRow_47 (by first | exact hR _ _ _ | (constructor <;> omega)) (by decide) rfl (fun c47 => ?_) (fun c47 => ?_)
      · refine q_iconst (t := 60) F dX9_isRow_59 rfl ?_
        refine q_zret F dX9_isRow_60 rfl (by decide) ?_
        refine ⟨_, rfl, ?_, rfl⟩
        unfold stepB
        (repeat' split) <;> first | rfl | (exfalso; omega)
      · refine q_iload (t := 52) F dX9_isRow_50 rfl rfl ?_
        refine q_if_ne (t := 55) (u := 59) F dX9_isRow_52 (by first | exact hR _ _ _ | (constructor <;> omega)) (by decide) rfl (fun c52 => ?_) (fun c52 => ?_)
        · refine q_iconst (t := 60) F dX9_isRow_59 rfl ?_
          refine q_zret F dX9_isRow_60 rfl (by decide) ?_
          refine ⟨_, rfl, ?_, rfl⟩
          unfold stepB
          (repeat' split) <;> first | rfl | (exfalso; omega)
        · refine q_iconst (t := 56) F dX9_isRow_55 rfl ?_
          refine q_goto (t := 60) F dX9_isRow_56 (by decide) ?_
          refine q_zret F dX9_isRow_60 rfl (by decide) ?_
          refine ⟨_, rfl, ?_, rfl⟩
          unfold stepB
          (repeat' split) <;> first | rfl | (exfalso; omega)

set_option maxHeartbeats 4000000 in
theorem c_X9_plan (l : Launch) (G : GS) (im : IM) (bt rt : Nat) (lm : IM) (h : RC im) (hA : AG im 1000) (h79 : im 30 0 7 ≤ 999) (hSH : SH im) (s what : Int) (hs : ri s) (hwhat : ri what) : Cn l (XR G) yX9_plan Y_X9_plan [vR 30 0, vI s, vI what] (im, rs bt rt, lm) (pI fun x m' => ∃ im' lm', (¬ (((0 : Int) ≤ s ∧ (s : Int) ≤ 3) ∧ 0 ≤ what ∧ what ≤ 1) → x = -2) ∧ (((0 : Int) ≤ s ∧ (s : Int) ≤ 3) ∧ 0 ≤ what ∧ what ≤ 1 → (im 47 0 (Int.toNat s) = 0 → x = -11) ∧ (im 47 0 (Int.toNat s) = 1 → ¬ okP im (Int.toNat s) → x = -2) ∧ (im 47 0 (Int.toNat s) = 1 → okP im (Int.toNat s) → ∃ S, plS im (Int.toNat s) (im 49 0 (Int.toNat s) / 4).toNat S ∧ x = (if what = 0 then bm (S 30 0 9 - im 30 0 9) else alR S (im 30 0 12).toNat))) ∧ RI im' ∧ agS im' im ∧ lgQ lm' lm ∧ m' = (im', rs bt rt, lm')) := by
  refine cn_of (by decide) (okR G) rfl (Nat.le_of_ble_eq_true rfl) ?_
  intro M ad hMl F
  subst hMl
  have hR := h.1
  have hX := h.2.1
  have h4 := h.2.2.1
  have h12 := h.2.2.2.1
  have h7 := h.2.2.2.2.1
  have h6 := hX.2.2.1
  have h3 := hX.2.2.2.1
  have hP := h.2.2.2.2.2.2
  have hR := h.1
  have s1 := hs.1
  have s2 := hs.2
  have what1 := hwhat.1
  have what2 := hwhat.2
  have hRa := asideI_RI h.1
  have hRCa : RC (asideI im) := h.C hRa (asideI_C im) h.2.2.2.2.1
  have hAa : AG (asideI im) 1000 := hA.C (asideI_C im)
  have ea7 : asideI im 30 0 7 = im 30 0 7 := rfl
  refine wp_pad 2 ?_
  show Wp M (XR G) ad Y_X9_plan (pI fun x m' => ∃ im' lm', (¬ (((0 : Int) ≤ s ∧ (s : Int) ≤ 3) ∧ 0 ≤ what ∧ what ≤ 1) → x = -2) ∧ (((0 : Int) ≤ s ∧ (s : Int) ≤ 3) ∧ 0 ≤ what ∧ what ≤ 1 → (im 47 0 (Int.toNat s) = 0 → x = -11) ∧ (im 47 0 (Int.toNat s) = 1 → ¬ okP im (Int.toNat s) → x = -2) ∧ (im 47 0 (Int.toNat s) = 1 → okP im (Int.toNat s) → ∃ S, plS im (Int.toNat s) (im 49 0 (Int.toNat s) / 4).toNat S ∧ x = (if what = 0 then bm (S 30 0 9 - im 30 0 9) else alR S (im 30 0 12).toNat))) ∧ RI im' ∧ agS im' im ∧ lgQ lm' lm ∧ m' = (im', rs bt rt, lm')) 0 [some (vR 30 0), some (vI s), some (vI what), none, none] [] (im, rs bt rt, lm)
  refine q_iload_n (t := 1) F dX9_plan_0 rfl rfl rfl ?_
  refine wp_callS (t := 4) [_] F dX9_plan_1 k_X9_isSheet st_X9_isSheet ml_X9_421 rfl rfl (Nat.le_of_ble_eq_true rfl) (by decide) (c_X9_isSheet _ G im bt rt lm s hs) rfl (kI ?_)
  rintro x1 m' ⟨hx1, rfl⟩
  have hx1 := if01 hx1
  refine q_if_eq (t := 7) (u := 17) F dX9_plan_4 (by first | exact hR _ _ _ | (constructor <;> omega)) (by decide) rfl (fun c4 => ?_) (fun c4 => ?_)
  · refine q_bipush (t := 19) F dX9_plan_17 (by decide) rfl ?_
    refine q_iret F dX9_plan_19 rfl ?_
    first
      | exact ⟨_, rfl, im, lm, fun _ => rfl, fun z => absurd z (by omega), hR, agS_rfl im, lgQ_rfl lm, rfl⟩
      | exact ⟨_, rfl, im, lm, fun z => absurd (by omega) z, fun _ => ⟨fun _ => rfl, fun z => absurd z (by (try rw [ets]); omega), fun z => absurd z (by (try rw [ets]); omega)⟩, hR, agS_rfl im, lgQ_rfl lm, rfl⟩
      | exact ⟨_, rfl, im, lm, fun z => absurd (by omega) z, fun _ => ⟨fun z => absurd z (by (try rw [ets]); omega), fun _ _ => rfl, fun _ z => absurd z.1 (by (try rw [ets]); omega)⟩, hR, agS_rfl im, lgQ_rfl lm, rfl⟩
      | exact ⟨_, rfl, im, lm, fun z => absurd (by omega) z, fun _ => ⟨fun z => absurd z (by (try rw [ets]); omega), fun _ _ => rfl, fun _ z => by (try rw [ets] at z); have := z.2 k (by omega); omega⟩, hR, agS_rfl im, lgQ_rfl lm, rfl⟩
      | (have ek : (im 49 0 s / 4).toNat = k := by omega
         have e39 : S 30 0 39 = im 30 0 9 := (hpk.1 30 39 (by omega) (by omega)).trans rfl
         refine ⟨_, rfl, _, lg, fun z => absurd (by omega) z, fun _ => ⟨fun z => absurd z (by (try rw [ets]); omega), fun _ z => absurd (by (try rw [ets]); exact hok) z, fun _ _ => ⟨S, by (try rw [ets]); rw [ek]; exact hpl, ?_⟩⟩, backI_RI hRS, (backI_R hpk.1 hpk.2).S, hlg, rfl⟩
         first
           | (rw [if_pos (by omega)]
              show bm (S 30 0 9 - S 30 0 39) = _
              rw [e39])
           | (rw [if_neg (by omega), hx240, e12]))
  · refine q_iload_n (t := 8) F dX9_plan_7 rfl rfl rfl ?_
    refine q_i2l (t := 9) F dX9_plan_8 (by first | exact hR _ _ _ | (constructor <;> omega)) rfl ?_
    refine q_lconst (t := 10) (x := 0) F dX9_plan_9 (by decide) rfl ?_
    refine q_lconst (t := 11) (x := 1) F dX9_plan_10 (by decide) rfl ?_
    refine wp_callS (t := 14) [_, _, _] F dX9_plan_11 k_X9_in st_X9_in ml_X9_91 rfl rfl (Nat.le_of_ble_eq_true rfl) (by decide) (c_X9_in _ G _ _ _ _ _ _ _ (by constructor <;> omega) (by constructor <;> omega) (by constructor <;> omega)) rfl (kI ?_)
    rintro x11 m' ⟨hx11, rfl⟩
    have hx11 := if01 hx11
    refine q_if_ne (t := 17) (u := 20) F dX9_plan_14 (by first | exact hR _ _ _ | (constructor <;> omega)) (by decide) rfl (fun c14 => ?_) (fun c14 => ?_)
    · obtain ⟨s, rfl⟩ : ∃ j : Nat, s = (j : Int) := ⟨s.toNat, by omega⟩
      have hsh := hSH s (by omega)
      have ets : ((s : Nat) : Int).toNat = s := Int.toNat_natCast s
      refine q_aload_n (t := 21) F dX9_plan_20 rfl rfl rfl ?_
      refine g_X9_68 (t := 24) F dX9_plan_21 rfl rfl ?_
      refine q_iload_n (t := 25) F dX9_plan_24 rfl rfl rfl ?_
      first | refine ldN_47 (t := 26) F dX9_plan_25 (by omega) rfl ?_ | refine ld_47 (t := 26) F dX9_plan_25 (by omega) (by omega) rfl ?_
      try simp only [up_app, row_app, scr_app, cpy_app, Nat.reduceEqDiff, Int.reduceToNat, Int.toNat_natCast, and_true, true_and, and_false, false_and, and_self, reduceIte]
      refine q_if_ne (t := 29) (u := 32) F dX9_plan_26 (by first | exact hR _ _ _ | (constructor <;> omega)) (by decide) rfl (fun c26 => ?_) (fun c26 => ?_)
      · have h47 : im 47 0 s = 1 := by omega
        have hsz := (hsh.2 h47).2
        refine q_aload_n (t := 33) F dX9_plan_32 rfl rfl rfl ?_
        refine g_X9_75 (t := 36) F dX9_plan_33 rfl rfl ?_
        refine q_iload_n (t := 37) F dX9_plan_36 rfl rfl rfl ?_
        first | refine ldN_49 (t := 38) F dX9_plan_37 (by omega) rfl ?_ | refine ld_49 (t := 38) F dX9_plan_37 (by omega) (by omega) rfl ?_
        try simp only [up_app, row_app, scr_app, cpy_app, Nat.reduceEqDiff, Int.reduceToNat, Int.toNat_natCast, and_true, true_and, and_false, false_and, and_self, reduceIte]
        refine q_iconst (t := 39) F dX9_plan_38 rfl ?_
        refine q_irem (t := 40) F dX9_plan_39 (by first | exact hR _ _ _ | (constructor <;> omega)) (by first | exact hR _ _ _ | (constructor <;> omega)) (by omega) (by omega) rfl ?_
        refine q_if_eq (t := 43) (u := 46) F dX9_plan_40 (by constructor <;> omega) (by decide) rfl (fun c40 => ?_) (fun c40 => ?_)
        · refine q_iconst (t := 47) F dX9_plan_46 rfl ?_
          refine q_istore_n (t := 48) F dX9_plan_47 rfl (by decide) rfl rfl ?_
          have L48 : ∀ (fz : Nat) (k : Nat), 11 - k < fz → (((4 * k : Nat) : Int) ≤ im 49 0 s ∧ ∀ j, j < k → stepB (im 30 0 12) (im 50 0 (40 * s + 4 * j)) (im 50 0 (40 * s + 4 * j + 1)) (im 50 0 (40 * s + 4 * j + 2)) (im 50 0 (40 * s + 4 * j + 3)) = 1) → Wp M (XR G) ad Y_X9_plan (pI fun x m' => ∃ im' lm', (¬ (((0 : Int) ≤ s ∧ (s : Int) ≤ 3) ∧ 0 ≤ what ∧ what ≤ 1) → x = -2) ∧ (((0 : Int) ≤ s ∧ (s : Int) ≤ 3) ∧ 0 ≤ what ∧ what ≤ 1 → (im 47 0 (Int.toNat s) = 0 → x = -11) ∧ (im 47 0 (Int.toNat s) = 1 → ¬ okP im (Int.toNat s) → x = -2) ∧ (im 47 0 (Int.toNat s) = 1 → okP im (Int.toNat s) → ∃ S, plS im (Int.toNat s) (im 49 0 (Int.toNat s) / 4).toNat S ∧ x = (if what = 0 then bm (S 30 0 9 - im 30 0 9) else alR S (im 30 0 12).toNat))) ∧ RI im' ∧ agS im' im ∧ lgQ lm' lm ∧ m' = (im', rs bt rt, lm')) 48 [some (vR 30 0), some (vI (s : Int)), some (vI what), some (vI ((4 * k : Nat) : Int)), none] [] (im, rs bt rt, lm) := by
            intro fz
            induction fz with
            | zero => intro k h; exact absurd h (Nat.not_lt_zero _)
            | succ fz ih =>
              have ih48 := ih
              intro k hmeas ⟨hk, hall⟩
              refine q_iload_n (t := 49) F dX9_plan_48 rfl rfl rfl ?_
              refine q_aload_n (t := 50) F dX9_plan_49 rfl rfl rfl ?_
              refine g_X9_75 (t := 53) F dX9_plan_50 rfl rfl ?_
              refine q_iload_n (t := 54) F dX9_plan_53 rfl rfl rfl ?_
              first | refine ldN_49 (t := 55) F dX9_plan_54 (by omega) rfl ?_ | refine ld_49 (t := 55) F dX9_plan_54 (by omega) (by omega) rfl ?_
              try simp only [up_app, row_app, scr_app, cpy_app, Nat.reduceEqDiff, Int.reduceToNat, Int.toNat_natCast, and_true, true_and, and_false, false_and, and_self, reduceIte]
              refine q_icmp_ge (t := 58) (u := 80) F dX9_plan_55 (by constructor <;> omega) (by constructor <;> omega) (by decide) rfl (fun c55 => ?_) (fun c55 => ?_)
              · have hok : okP im s := ⟨by omega, fun j hj => hall j (by omega)⟩
                refine q_aload_n (t := 81) F dX9_plan_80 rfl rfl rfl ?_
                refine wp_callV (t := 84) [] F dX9_plan_81 k_X9_laysAside v_X9_laysAside ml_X9_404 rfl rfl rfl rfl (Nat.le_of_ble_eq_true rfl) (by decide) (m_30 (by omega)) (g_X9_laysAside _ G im bt rt lm hR) rfl (kV ?_)
                rintro m' rfl
                refine q_iconst (t := 85) F dX9_plan_84 rfl ?_
                refine q_istore_n (t := 86) F dX9_plan_85 rfl (by decide) rfl rfl ?_
                have L86 : ∀ (fz : Nat) (k : Nat) (S lg : IM), 11 - k < fz → (((4 * k : Nat) : Int) ≤ im 49 0 s ∧ RI S ∧ RC S ∧ AG S 1000 ∧ S 30 0 7 ≤ im 30 0 7 + k ∧ plS im s k S ∧ PK im S ∧ lgQ lg lm) → Wp M (XR G) ad Y_X9_plan (pI fun x m' => ∃ im' lm', (¬ (((0 : Int) ≤ s ∧ (s : Int) ≤ 3) ∧ 0 ≤ what ∧ what ≤ 1) → x = -2) ∧ (((0 : Int) ≤ s ∧ (s : Int) ≤ 3) ∧ 0 ≤ what ∧ what ≤ 1 → (im 47 0 (Int.toNat s) = 0 → x = -11) ∧ (im 47 0 (Int.toNat s) = 1 → ¬ okP im (Int.toNat s) → x = -2) ∧ (im 47 0 (Int.toNat s) = 1 → okP im (Int.toNat s) → ∃ S, plS im (Int.toNat s) (im 49 0 (Int.toNat s) / 4).toNat S ∧ x = (if what = 0 then bm (S 30 0 9 - im 30 0 9) else alR S (im 30 0 12).toNat))) ∧ RI im' ∧ agS im' im ∧ lgQ lm' lm ∧ m' = (im', rs bt rt, lm')) 86 [some (vR 30 0), some (vI (s : Int)), some (vI what), some (vI ((4 * k : Nat) : Int)), none] [] (S, rs bt rt, lg) := by
                  intro fz
                  induction fz with
                  | zero => intro k S lg h; exact absurd h (Nat.not_lt_zero _)
                  | succ fz ih =>
                    have ih86 := ih
                    intro k S lg hmeas ⟨hk, hRS, hRC, hAS, hh7, hpl, hpk, hlg⟩
                    have e49 : S 49 0 s = im 49 0 s := (hpk.1 49 s (by omega) (by omega)).trans (asideI_c im (by omega) (by omega))
                    have e50 : ∀ x, S 50 0 x = im 50 0 x := fun x => (hpk.1 50 x (by omega) (by omega)).trans (asideI_c im (by omega) (by omega))
                    have e12 : S 30 0 12 = im 30 0 12 := (hpk.1 30 12 (by omega) (by omega)).trans (asideI_c im (by omega) (by omega))
                    refine q_iload_n (t := 87) F dX9_plan_86 rfl rfl rfl ?_
                    refine q_aload_n (t := 88) F dX9_plan_87 rfl rfl rfl ?_
                    refine g_X9_75 (t := 91) F dX9_plan_88 rfl rfl ?_
                    refine q_iload_n (t := 92) F dX9_plan_91 rfl rfl rfl ?_
                    first | refine ldN_49 (t := 93) F dX9_plan_92 (by omega) rfl ?_ | refine ld_49 (t := 93) F dX9_plan_92 (by omega) (by omega) rfl ?_
                    try simp only [up_app, row_app, scr_app, cpy_app, Nat.reduceEqDiff, Int.reduceToNat, Int.toNat_natCast, and_true, true_and, and_false, false_and, and_self, reduceIte]
                    rw [e49]
                    refine q_icmp_ge (t := 96) (u := 239) F dX9_plan_93 (by constructor <;> omega) (by constructor <;> omega) (by decide) rfl (fun c93 => ?_) (fun c93 => ?_)
                    · refine q_aload_n (t := 240) F dX9_plan_239 rfl rfl rfl ?_
                      refine wp_callV (t := 243) [] F dX9_plan_240 k_X9_stuckAll v_X9_stuckAll ml_X9_427 rfl rfl rfl rfl (Nat.le_of_ble_eq_true rfl) (by decide) (m_30 (by omega)) (c_X9_stuckAll _ G S bt rt lg hRC) rfl (kI ?_)
                      rintro x240 m' ⟨hx240, rfl⟩
                      refine q_istore_n (t := 244) F dX9_plan_243 rfl (by decide) rfl rfl ?_
                      refine q_aload_n (t := 245) F dX9_plan_244 rfl rfl rfl ?_
                      refine wp_callV (t := 248) [] F dX9_plan_245 k_X9_laysBack v_X9_laysBack ml_X9_407 rfl rfl rfl rfl (Nat.le_of_ble_eq_true rfl) (by decide) (m_30 (by omega)) (g_X9_laysBack _ G S bt rt lg hRS) rfl (kV ?_)
                      rintro m' rfl
                      refine q_iload_n (t := 249) F dX9_plan_248 rfl rfl rfl ?_
                      refine q_if_ne (t := 252) (u := 259) F dX9_plan_249 (by first | exact hR _ _ _ | (constructor <;> omega)) (by decide) rfl (fun c249 => ?_) (fun c249 => ?_)
                      · refine q_iload_n (t := 260) F dX9_plan_259 rfl rfl rfl ?_
                        refine q_iret F dX9_plan_260 rfl ?_
                        first
                          | exact ⟨_, rfl, im, lm, fun _ => rfl, fun z => absurd z (by omega), hR, agS_rfl im, lgQ_rfl lm, rfl⟩
                          | exact ⟨_, rfl, im, lm, fun z => absurd (by omega) z, fun _ => ⟨fun _ => rfl, fun z => absurd z (by (try rw [ets]); omega), fun z => absurd z (by (try rw [ets]); omega)⟩, hR, agS_rfl im, lgQ_rfl lm, rfl⟩
                          | exact ⟨_, rfl, im, lm, fun z => absurd (by omega) z, fun _ => ⟨fun z => absurd z (by (try rw [ets]); omega), fun _ _ => rfl, fun _ z => absurd z.1 (by (try rw [ets]); omega)⟩, hR, agS_rfl im, lgQ_rfl lm, rfl⟩
                          | exact ⟨_, rfl, im, lm, fun z => absurd (by omega) z, fun _ => ⟨fun z => absurd z (by (try rw [ets]); omega), fun _ _ => rfl, fun _ z => by (try rw [ets] at z); have := z.2 k (by omega); omega⟩, hR, agS_rfl im, lgQ_rfl lm, rfl⟩
                          | (have ek : (im 49 0 s / 4).toNat = k := by omega
                             have e39 : S 30 0 39 = im 30 0 9 := (hpk.1 30 39 (by omega) (by omega)).trans rfl
                             refine ⟨_, rfl, _, lg, fun z => absurd (by omega) z, fun _ => ⟨fun z => absurd z (by (try rw [ets]); omega), fun _ z => absurd (by (try rw [ets]); exact hok) z, fun _ _ => ⟨S, by (try rw [ets]); rw [ek]; exact hpl, ?_⟩⟩, backI_RI hRS, (backI_R hpk.1 hpk.2).S, hlg, rfl⟩
                             first
                               | (rw [if_pos (by omega)]
                                  show bm (S 30 0 9 - S 30 0 39) = _
                                  rw [e39])
                               | (rw [if_neg (by omega), hx240, e12]))
                      · refine q_aload_n (t := 253) F dX9_plan_252 rfl rfl rfl ?_
                        refine g_X9_401 (t := 256) F dX9_plan_253 rfl rfl ?_
                        try simp only [up_app, row_app, scr_app, cpy_app, Nat.reduceEqDiff, Int.reduceToNat, Int.toNat_natCast, and_true, true_and, and_false, false_and, and_self, reduceIte]
                        refine q_goto (t := 260) F dX9_plan_256 (by decide) ?_
                        refine q_iret F dX9_plan_260 rfl ?_
                        first
                          | exact ⟨_, rfl, im, lm, fun _ => rfl, fun z => absurd z (by omega), hR, agS_rfl im, lgQ_rfl lm, rfl⟩
                          | exact ⟨_, rfl, im, lm, fun z => absurd (by omega) z, fun _ => ⟨fun _ => rfl, fun z => absurd z (by (try rw [ets]); omega), fun z => absurd z (by (try rw [ets]); omega)⟩, hR, agS_rfl im, lgQ_rfl lm, rfl⟩
                          | exact ⟨_, rfl, im, lm, fun z => absurd (by omega) z, fun _ => ⟨fun z => absurd z (by (try rw [ets]); omega), fun _ _ => rfl, fun _ z => absurd z.1 (by (try rw [ets]); omega)⟩, hR, agS_rfl im, lgQ_rfl lm, rfl⟩
                          | exact ⟨_, rfl, im, lm, fun z => absurd (by omega) z, fun _ => ⟨fun z => absurd z (by (try rw [ets]); omega), fun _ _ => rfl, fun _ z => by (try rw [ets] at z); have := z.2 k (by omega); omega⟩, hR, agS_rfl im, lgQ_rfl lm, rfl⟩
                          | (have ek : (im 49 0 s / 4).toNat = k := by omega
                             have e39 : S 30 0 39 = im 30 0 9 := (hpk.1 30 39 (by omega) (by omega)).trans rfl
                             refine ⟨_, rfl, _, lg, fun z => absurd (by omega) z, fun _ => ⟨fun z => absurd z (by (try rw [ets]); omega), fun _ z => absurd (by (try rw [ets]); exact hok) z, fun _ _ => ⟨S, by (try rw [ets]); rw [ek]; exact hpl, ?_⟩⟩, backI_RI hRS, (backI_R hpk.1 hpk.2).S, hlg, rfl⟩
                             first
                               | (rw [if_pos (by omega)]
                                  show bm (S 30 0 9 - S 30 0 39) = _
                                  rw [e39])
                               | (rw [if_neg (by omega), hx240, e12]))
                    · have hk40 : 4 * k + 4 ≤ 40 := by omega
                      have hst := hok.2 k (by omega)
                      obtain ⟨a, hi0⟩ : ∃ z, z = im 50 0 (40 * s + 4 * k) := ⟨_, rfl⟩
                      obtain ⟨who, hi1⟩ : ∃ z, z = im 50 0 (40 * s + 4 * k + 1) := ⟨_, rfl⟩
                      obtain ⟨f, hi2⟩ : ∃ z, z = im 50 0 (40 * s + 4 * k + 2) := ⟨_, rfl⟩
                      obtain ⟨g, hi3⟩ : ∃ z, z = im 50 0 (40 * s + 4 * k + 3) := ⟨_, rfl⟩
                      have hps : ∀ S2, agY S2 (tkR S a who f g ((4 * k : Nat) : Int)) → plS im s (k + 1) S2 := fun S2 z => ⟨S, hpl, by rw [← hi0, ← hi1, ← hi2, ← hi3]; exact z⟩
                      rw [← hi0, ← hi1, ← hi2, ← hi3] at hst
                      have hra : ri a := hi0 ▸ hR 50 0 _
                      have hra1 := hra.1
                      have hra2 := hra.2
                      have hpk2 := fun S2 (z : agY S2 (tkR S a who f g ((4 * k : Nat) : Int))) => PK_tk hpk (t := ((4 * k : Nat) : Int)) (by omega) h12 hst z
                      refine q_bipush (t := 98) F dX9_plan_96 (by decide) rfl ?_
                      refine q_iload_n (t := 99) F dX9_plan_98 rfl rfl rfl ?_
                      refine q_imul (t := 100) F dX9_plan_99 rfl ?_
                      refine q_iload_n (t := 101) F dX9_plan_100 rfl rfl rfl ?_
                      refine q_iadd (t := 102) F dX9_plan_101 rfl ?_
                      rw [show (40 : Int) * (s : Int) + ((4 * k : Nat) : Int) = ((40 * s + 4 * k : Nat) : Int) by omega]
                      refine q_istore (t := 104) F dX9_plan_102 (by decide) rfl rfl ?_
                      refine q_aload_n (t := 105) F dX9_plan_104 rfl rfl rfl ?_
                      refine g_X9_78 (t := 108) F dX9_plan_105 rfl rfl ?_
                      refine q_iload (t := 110) F dX9_plan_108 rfl rfl ?_
                      first | refine ldN_50 (t := 111) F dX9_plan_110 (by omega) rfl ?_ | refine ld_50 (t := 111) F dX9_plan_110 (by omega) (by omega) rfl ?_
                      try simp only [up_app, row_app, scr_app, cpy_app, Nat.reduceEqDiff, Int.reduceToNat, Int.toNat_natCast, and_true, true_and, and_false, false_and, and_self, reduceIte]
                      rw [e50, ← hi0]
                      refine q_if_ne (t := 114) (u := 149) F dX9_plan_111 (by first | exact hR _ _ _ | (constructor <;> omega)) (by decide) rfl (fun c111 => ?_) (fun c111 => ?_)
                      · refine q_aload_n (t := 150) F dX9_plan_149 rfl rfl rfl ?_
                        refine g_X9_78 (t := 153) F dX9_plan_150 rfl rfl ?_
                        refine q_iload (t := 155) F dX9_plan_153 rfl rfl ?_
                        first | refine ldN_50 (t := 156) F dX9_plan_155 (by omega) rfl ?_ | refine ld_50 (t := 156) F dX9_plan_155 (by omega) (by omega) rfl ?_
                        try simp only [up_app, row_app, scr_app, cpy_app, Nat.reduceEqDiff, Int.reduceToNat, Int.toNat_natCast, and_true, true_and, and_false, false_and, and_self, reduceIte]
                        rw [e50, ← hi0]
                        refine q_iconst (t := 157) F dX9_plan_156 rfl ?_
                        refine q_icmp_ne (t := 160) (u := 191) F dX9_plan_157 (by constructor <;> omega) (by constructor <;> omega) (by decide) rfl (fun c157 => ?_) (fun c157 => ?_)
                        · refine q_aload_n (t := 192) F dX9_plan_191 rfl rfl rfl ?_
                          refine g_X9_78 (t := 195) F dX9_plan_192 rfl rfl ?_
                          refine q_iload (t := 197) F dX9_plan_195 rfl rfl ?_
                          first | refine ldN_50 (t := 198) F dX9_plan_197 (by omega) rfl ?_ | refine ld_50 (t := 198) F dX9_plan_197 (by omega) (by omega) rfl ?_
                          try simp only [up_app, row_app, scr_app, cpy_app, Nat.reduceEqDiff, Int.reduceToNat, Int.toNat_natCast, and_true, true_and, and_false, false_and, and_self, reduceIte]
                          rw [e50, ← hi0]
                          refine q_iconst (t := 199) F dX9_plan_198 rfl ?_
                          refine q_icmp_ne (t := 202) (u := 228) F dX9_plan_199 (by constructor <;> omega) (by constructor <;> omega) (by decide) rfl (fun c199 => ?_) (fun c199 => ?_)
                          · refine q_aload_n (t := 229) F dX9_plan_228 rfl rfl rfl ?_
                            refine q_iload_n (t := 230) F dX9_plan_229 rfl rfl rfl ?_
                            refine wp_callV (t := 233) [_] F dX9_plan_230 k_X9_lives v_X9_lives ml_X9_391 rfl rfl rfl rfl (Nat.le_of_ble_eq_true rfl) (by decide) (m_30 (by omega)) (c_X9_lives _ G S bt rt lg hRC hAS ((4 * k : Nat) : Int) (by constructor <;> omega) (by omega)) rfl (kV ?_)
                            rintro m' ⟨im2, lg2, hR2, hag2, hlg2, rfl⟩
                            have hk := RC_hr (t := ((4 * k : Nat) : Int)) (by omega) hRC hAS (by omega) hR2 hag2
                            refine q_iinc (t := 236) F dX9_plan_233 rfl (by decide) rfl rfl ?_
                            refine q_goto (t := 86) F dX9_plan_236 (by decide) ?_
                            refine wp_less 4 ?_
                            rw [show ((4 * k : Nat) : Int) + 4 = ((4 * (k + 1) : Nat) : Int) by omega]
                            first
                              | (have ek : agY (spR S im2 who.toNat f g) (tkR S a who f g ((4 * k : Nat) : Int)) := by
                                   unfold tkR
                                   rw [if_pos (by omega)]
                                   exact spR_ag hag2 _ _ _
                                 have hrc := RC_say hRC hR2 hag2 (p := who.toNat) (w := f) (fd := g) (by omega)
                                 exact ih86 (k + 1) _ lg2 (by omega) ⟨by omega, hrc.1, hrc, AG_say hAS hag2 _ _ _, by (have e7 : spR S im2 who.toNat f g 30 0 7 = S 30 0 7 := by unfold spR; split <;> exact hag2 30 0 7 (by omega)); rw [e7]; omega, hps _ ek, hpk2 _ ek, hlg2.trans hlg⟩)
                              | (have ek : agY (up S 36 0 (10 * who.toNat + f.toNat) (-1)) (tkR S a who f g ((4 * k : Nat) : Int)) := by
                                   unfold tkR
                                   rw [if_neg (by omega), if_pos (by omega)]
                                   exact agY_rfl _
                                 have hrc := RC_out hRC (s := 10 * who.toNat + f.toNat)
                                 exact ih86 (k + 1) _ lg (by omega) ⟨by omega, hrc.1, hrc, AG_out hAS _, by (show S 30 0 7 ≤ _); omega, hps _ ek, hpk2 _ ek, hlg⟩)
                              | (have ek : agY (hnR S who.toNat f.toNat 10) (tkR S a who f g ((4 * k : Nat) : Int)) := by
                                   unfold tkR
                                   rw [if_neg (by omega), if_neg (by omega), if_pos (by omega)]
                                   exact agY_rfl _
                                 have hrc := RC_hn hRC (p := who.toNat) (q := f.toNat) (by omega) (by omega)
                                 exact ih86 (k + 1) _ lg (by omega) ⟨by omega, hrc.1, hrc, AG_hn hAS _ _, by (show S 30 0 7 ≤ _); omega, hps _ ek, hpk2 _ ek, hlg⟩)
                              | (have ek : agY im2 (tkR S a who f g ((4 * k : Nat) : Int)) := by
                                   unfold tkR
                                   rw [if_neg (by omega), if_neg (by omega), if_neg (by omega)]
                                   exact hag2
                                 have e7 : im2 30 0 7 = S 30 0 7 + 1 := (hag2 30 0 7 (by omega)).trans (by rw [up_app, if_pos ⟨rfl, rfl, rfl⟩])
                                 exact ih86 (k + 1) _ lg2 (by omega) ⟨by omega, hR2, hk.1, hk.2, by omega, hps _ ek, hpk2 _ ek, hlg2.trans hlg⟩)
                          · have hqq : (0 ≤ who ∧ who < im 30 0 12) ∧ (0 ≤ f ∧ f < im 30 0 12) ∧ f ≠ who := by
                              unfold stepB at hst
                              (repeat' split at hst) <;> omega
                            refine q_aload_n (t := 203) F dX9_plan_202 rfl rfl rfl ?_
                            refine q_aload_n (t := 204) F dX9_plan_203 rfl rfl rfl ?_
                            refine g_X9_78 (t := 207) F dX9_plan_204 rfl rfl ?_
                            refine q_iload (t := 209) F dX9_plan_207 rfl rfl ?_
                            refine q_iconst (t := 210) F dX9_plan_209 rfl ?_
                            refine q_iadd (t := 211) F dX9_plan_210 rfl ?_
                            rw [show ((40 * s + 4 * k : Nat) : Int) + 1 = ((40 * s + 4 * k + 1 : Nat) : Int) by omega]
                            first | refine ldN_50 (t := 212) F dX9_plan_211 (by omega) rfl ?_ | refine ld_50 (t := 212) F dX9_plan_211 (by omega) (by omega) rfl ?_
                            try simp only [up_app, row_app, scr_app, cpy_app, Nat.reduceEqDiff, Int.reduceToNat, Int.toNat_natCast, and_true, true_and, and_false, false_and, and_self, reduceIte]
                            rw [e50, ← hi1]
                            rw [show vI who = vI ((who.toNat : Nat) : Int) by rw [Int.toNat_of_nonneg (by omega)]]
                            refine q_aload_n (t := 213) F dX9_plan_212 rfl rfl rfl ?_
                            refine g_X9_78 (t := 216) F dX9_plan_213 rfl rfl ?_
                            refine q_iload (t := 218) F dX9_plan_216 rfl rfl ?_
                            refine q_iconst (t := 219) F dX9_plan_218 rfl ?_
                            refine q_iadd (t := 220) F dX9_plan_219 rfl ?_
                            rw [show ((40 * s + 4 * k : Nat) : Int) + 2 = ((40 * s + 4 * k + 2 : Nat) : Int) by omega]
                            first | refine ldN_50 (t := 221) F dX9_plan_220 (by omega) rfl ?_ | refine ld_50 (t := 221) F dX9_plan_220 (by omega) (by omega) rfl ?_
                            try simp only [up_app, row_app, scr_app, cpy_app, Nat.reduceEqDiff, Int.reduceToNat, Int.toNat_natCast, and_true, true_and, and_false, false_and, and_self, reduceIte]
                            rw [e50, ← hi2]
                            rw [show vI f = vI ((f.toNat : Nat) : Int) by rw [Int.toNat_of_nonneg (by omega)]]
                            refine wp_callV (t := 224) [_, _] F dX9_plan_221 k_X9_hands v_X9_hands ml_X9_367 rfl rfl rfl rfl (Nat.le_of_ble_eq_true rfl) (by decide) (m_30 (by omega)) (c_X9_hands _ G S bt rt lg hRS who.toNat f.toNat (by omega) (by omega) (by omega)) rfl (kI ?_)
                            rintro x221 m' ⟨hx221, rfl⟩
                            refine q_popI (t := 225) F dX9_plan_224 rfl ?_
                            refine q_goto (t := 233) F dX9_plan_225 (by decide) ?_
                            refine q_iinc (t := 236) F dX9_plan_233 rfl (by decide) rfl rfl ?_
                            refine q_goto (t := 86) F dX9_plan_236 (by decide) ?_
                            refine wp_less 4 ?_
                            rw [show ((4 * k : Nat) : Int) + 4 = ((4 * (k + 1) : Nat) : Int) by omega]
                            first
                              | (have ek : agY (spR S im2 who.toNat f g) (tkR S a who f g ((4 * k : Nat) : Int)) := by
                                   unfold tkR
                                   rw [if_pos (by omega)]
                                   exact spR_ag hag2 _ _ _
                                 have hrc := RC_say hRC hR2 hag2 (p := who.toNat) (w := f) (fd := g) (by omega)
                                 exact ih86 (k + 1) _ lg2 (by omega) ⟨by omega, hrc.1, hrc, AG_say hAS hag2 _ _ _, by (have e7 : spR S im2 who.toNat f g 30 0 7 = S 30 0 7 := by unfold spR; split <;> exact hag2 30 0 7 (by omega)); rw [e7]; omega, hps _ ek, hpk2 _ ek, hlg2.trans hlg⟩)
                              | (have ek : agY (up S 36 0 (10 * who.toNat + f.toNat) (-1)) (tkR S a who f g ((4 * k : Nat) : Int)) := by
                                   unfold tkR
                                   rw [if_neg (by omega), if_pos (by omega)]
                                   exact agY_rfl _
                                 have hrc := RC_out hRC (s := 10 * who.toNat + f.toNat)
                                 exact ih86 (k + 1) _ lg (by omega) ⟨by omega, hrc.1, hrc, AG_out hAS _, by (show S 30 0 7 ≤ _); omega, hps _ ek, hpk2 _ ek, hlg⟩)
                              | (have ek : agY (hnR S who.toNat f.toNat 10) (tkR S a who f g ((4 * k : Nat) : Int)) := by
                                   unfold tkR
                                   rw [if_neg (by omega), if_neg (by omega), if_pos (by omega)]
                                   exact agY_rfl _
                                 have hrc := RC_hn hRC (p := who.toNat) (q := f.toNat) (by omega) (by omega)
                                 exact ih86 (k + 1) _ lg (by omega) ⟨by omega, hrc.1, hrc, AG_hn hAS _ _, by (show S 30 0 7 ≤ _); omega, hps _ ek, hpk2 _ ek, hlg⟩)
                              | (have ek : agY im2 (tkR S a who f g ((4 * k : Nat) : Int)) := by
                                   unfold tkR
                                   rw [if_neg (by omega), if_neg (by omega), if_neg (by omega)]
                                   exact hag2
                                 have e7 : im2 30 0 7 = S 30 0 7 + 1 := (hag2 30 0 7 (by omega)).trans (by rw [up_app, if_pos ⟨rfl, rfl, rfl⟩])
                                 exact ih86 (k + 1) _ lg2 (by omega) ⟨by omega, hR2, hk.1, hk.2, by omega, hps _ ek, hpk2 _ ek, hlg2.trans hlg⟩)
                        · have hqq : (0 ≤ who ∧ who < im 30 0 12) ∧ (0 ≤ f ∧ f < 10) := by
                            unfold stepB at hst
                            (repeat' split at hst) <;> omega
                          refine q_aload_n (t := 161) F dX9_plan_160 rfl rfl rfl ?_
                          refine g_X9_32 (t := 164) F dX9_plan_161 rfl rfl ?_
                          refine q_bipush (t := 166) F dX9_plan_164 (by decide) rfl ?_
                          refine q_aload_n (t := 167) F dX9_plan_166 rfl rfl rfl ?_
                          refine g_X9_78 (t := 170) F dX9_plan_167 rfl rfl ?_
                          refine q_iload (t := 172) F dX9_plan_170 rfl rfl ?_
                          refine q_iconst (t := 173) F dX9_plan_172 rfl ?_
                          refine q_iadd (t := 174) F dX9_plan_173 rfl ?_
                          rw [show ((40 * s + 4 * k : Nat) : Int) + 1 = ((40 * s + 4 * k + 1 : Nat) : Int) by omega]
                          first | refine ldN_50 (t := 175) F dX9_plan_174 (by omega) rfl ?_ | refine ld_50 (t := 175) F dX9_plan_174 (by omega) (by omega) rfl ?_
                          try simp only [up_app, row_app, scr_app, cpy_app, Nat.reduceEqDiff, Int.reduceToNat, Int.toNat_natCast, and_true, true_and, and_false, false_and, and_self, reduceIte]
                          rw [e50, ← hi1]
                          refine q_imul (t := 176) F dX9_plan_175 rfl ?_
                          refine q_aload_n (t := 177) F dX9_plan_176 rfl rfl rfl ?_
                          refine g_X9_78 (t := 180) F dX9_plan_177 rfl rfl ?_
                          refine q_iload (t := 182) F dX9_plan_180 rfl rfl ?_
                          refine q_iconst (t := 183) F dX9_plan_182 rfl ?_
                          refine q_iadd (t := 184) F dX9_plan_183 rfl ?_
                          rw [show ((40 * s + 4 * k : Nat) : Int) + 2 = ((40 * s + 4 * k + 2 : Nat) : Int) by omega]
                          first | refine ldN_50 (t := 185) F dX9_plan_184 (by omega) rfl ?_ | refine ld_50 (t := 185) F dX9_plan_184 (by omega) (by omega) rfl ?_
                          try simp only [up_app, row_app, scr_app, cpy_app, Nat.reduceEqDiff, Int.reduceToNat, Int.toNat_natCast, and_true, true_and, and_false, false_and, and_self, reduceIte]
                          rw [e50, ← hi2]
                          refine q_iadd (t := 186) F dX9_plan_185 rfl ?_
                          refine q_iconst (t := 187) F dX9_plan_186 rfl ?_
                          rw [show (10 : Int) * who + f = ((10 * who.toNat + f.toNat : Nat) : Int) by omega]
                          first | refine stN_36 (t := 188) F dX9_plan_187 (by omega) rfl ?_ | refine st_36 (t := 188) F dX9_plan_187 (by omega) (by omega) rfl ?_
                          refine q_goto (t := 233) F dX9_plan_188 (by decide) ?_
                          refine q_iinc (t := 236) F dX9_plan_233 rfl (by decide) rfl rfl ?_
                          refine q_goto (t := 86) F dX9_plan_236 (by decide) ?_
                          refine wp_less 4 ?_
                          rw [show ((4 * k : Nat) : Int) + 4 = ((4 * (k + 1) : Nat) : Int) by omega]
                          first
                            | (have ek : agY (spR S im2 who.toNat f g) (tkR S a who f g ((4 * k : Nat) : Int)) := by
                                 unfold tkR
                                 rw [if_pos (by omega)]
                                 exact spR_ag hag2 _ _ _
                               have hrc := RC_say hRC hR2 hag2 (p := who.toNat) (w := f) (fd := g) (by omega)
                               exact ih86 (k + 1) _ lg2 (by omega) ⟨by omega, hrc.1, hrc, AG_say hAS hag2 _ _ _, by (have e7 : spR S im2 who.toNat f g 30 0 7 = S 30 0 7 := by unfold spR; split <;> exact hag2 30 0 7 (by omega)); rw [e7]; omega, hps _ ek, hpk2 _ ek, hlg2.trans hlg⟩)
                            | (have ek : agY (up S 36 0 (10 * who.toNat + f.toNat) (-1)) (tkR S a who f g ((4 * k : Nat) : Int)) := by
                                 unfold tkR
                                 rw [if_neg (by omega), if_pos (by omega)]
                                 exact agY_rfl _
                               have hrc := RC_out hRC (s := 10 * who.toNat + f.toNat)
                               exact ih86 (k + 1) _ lg (by omega) ⟨by omega, hrc.1, hrc, AG_out hAS _, by (show S 30 0 7 ≤ _); omega, hps _ ek, hpk2 _ ek, hlg⟩)
                            | (have ek : agY (hnR S who.toNat f.toNat 10) (tkR S a who f g ((4 * k : Nat) : Int)) := by
                                 unfold tkR
                                 rw [if_neg (by omega), if_neg (by omega), if_pos (by omega)]
                                 exact agY_rfl _
                               have hrc := RC_hn hRC (p := who.toNat) (q := f.toNat) (by omega) (by omega)
                               exact ih86 (k + 1) _ lg (by omega) ⟨by omega, hrc.1, hrc, AG_hn hAS _ _, by (show S 30 0 7 ≤ _); omega, hps _ ek, hpk2 _ ek, hlg⟩)
                            | (have ek : agY im2 (tkR S a who f g ((4 * k : Nat) : Int)) := by
                                 unfold tkR
                                 rw [if_neg (by omega), if_neg (by omega), if_neg (by omega)]
                                 exact hag2
                               have e7 : im2 30 0 7 = S 30 0 7 + 1 := (hag2 30 0 7 (by omega)).trans (by rw [up_app, if_pos ⟨rfl, rfl, rfl⟩])
                               exact ih86 (k + 1) _ lg2 (by omega) ⟨by omega, hR2, hk.1, hk.2, by omega, hps _ ek, hpk2 _ ek, hlg2.trans hlg⟩)
                      · have hqq : (0 ≤ who ∧ who < im 30 0 12) ∧ (0 ≤ f ∧ f < 16) ∧ 0 ≤ g ∧ g < 10 := by
                          unfold stepB at hst
                          (repeat' split at hst) <;> omega
                        refine q_aload_n (t := 115) F dX9_plan_114 rfl rfl rfl ?_
                        refine q_aload_n (t := 116) F dX9_plan_115 rfl rfl rfl ?_
                        refine g_X9_78 (t := 119) F dX9_plan_116 rfl rfl ?_
                        refine q_iload (t := 121) F dX9_plan_119 rfl rfl ?_
                        refine q_iconst (t := 122) F dX9_plan_121 rfl ?_
                        refine q_iadd (t := 123) F dX9_plan_122 rfl ?_
                        rw [show ((40 * s + 4 * k : Nat) : Int) + 1 = ((40 * s + 4 * k + 1 : Nat) : Int) by omega]
                        first | refine ldN_50 (t := 124) F dX9_plan_123 (by omega) rfl ?_ | refine ld_50 (t := 124) F dX9_plan_123 (by omega) (by omega) rfl ?_
                        try simp only [up_app, row_app, scr_app, cpy_app, Nat.reduceEqDiff, Int.reduceToNat, Int.toNat_natCast, and_true, true_and, and_false, false_and, and_self, reduceIte]
                        rw [e50, ← hi1]
                        refine q_aload_n (t := 125) F dX9_plan_124 rfl rfl rfl ?_
                        refine g_X9_78 (t := 128) F dX9_plan_125 rfl rfl ?_
                        refine q_iload (t := 130) F dX9_plan_128 rfl rfl ?_
                        refine q_iconst (t := 131) F dX9_plan_130 rfl ?_
                        refine q_iadd (t := 132) F dX9_plan_131 rfl ?_
                        rw [show ((40 * s + 4 * k : Nat) : Int) + 2 = ((40 * s + 4 * k + 2 : Nat) : Int) by omega]
                        first | refine ldN_50 (t := 133) F dX9_plan_132 (by omega) rfl ?_ | refine ld_50 (t := 133) F dX9_plan_132 (by omega) (by omega) rfl ?_
                        try simp only [up_app, row_app, scr_app, cpy_app, Nat.reduceEqDiff, Int.reduceToNat, Int.toNat_natCast, and_true, true_and, and_false, false_and, and_self, reduceIte]
                        rw [e50, ← hi2]
                        refine q_aload_n (t := 134) F dX9_plan_133 rfl rfl rfl ?_
                        refine g_X9_78 (t := 137) F dX9_plan_134 rfl rfl ?_
                        refine q_iload (t := 139) F dX9_plan_137 rfl rfl ?_
                        refine q_iconst (t := 140) F dX9_plan_139 rfl ?_
                        refine q_iadd (t := 141) F dX9_plan_140 rfl ?_
                        rw [show ((40 * s + 4 * k : Nat) : Int) + 3 = ((40 * s + 4 * k + 3 : Nat) : Int) by omega]
                        first | refine ldN_50 (t := 142) F dX9_plan_141 (by omega) rfl ?_ | refine ld_50 (t := 142) F dX9_plan_141 (by omega) (by omega) rfl ?_
                        try simp only [up_app, row_app, scr_app, cpy_app, Nat.reduceEqDiff, Int.reduceToNat, Int.toNat_natCast, and_true, true_and, and_false, false_and, and_self, reduceIte]
                        rw [e50, ← hi3]
                        rw [show vI who = vI ((who.toNat : Nat) : Int) by rw [Int.toNat_of_nonneg (by omega)]]
                        refine wp_callV (t := 145) [_, _, _] F dX9_plan_142 k_X9_speaks v_X9_speaks ml_X9_364 rfl rfl rfl rfl (Nat.le_of_ble_eq_true rfl) (by decide) (m_30 (by omega)) (c_X9_speaks _ G S bt rt lg hRC who.toNat (by omega) f g (by constructor <;> omega) (by constructor <;> omega)) rfl (kI ?_)
                        rintro x142 m' ⟨im2, lg2, hx142, hR2, hag2, hlg2, rfl⟩
                        refine q_popI (t := 146) F dX9_plan_145 rfl ?_
                        refine q_goto (t := 233) F dX9_plan_146 (by decide) ?_
                        refine q_iinc (t := 236) F dX9_plan_233 rfl (by decide) rfl rfl ?_
                        refine q_goto (t := 86) F dX9_plan_236 (by decide) ?_
                        refine wp_less 4 ?_
                        rw [show ((4 * k : Nat) : Int) + 4 = ((4 * (k + 1) : Nat) : Int) by omega]
                        first
                          | (have ek : agY (spR S im2 who.toNat f g) (tkR S a who f g ((4 * k : Nat) : Int)) := by
                               unfold tkR
                               rw [if_pos (by omega)]
                               exact spR_ag hag2 _ _ _
                             have hrc := RC_say hRC hR2 hag2 (p := who.toNat) (w := f) (fd := g) (by omega)
                             exact ih86 (k + 1) _ lg2 (by omega) ⟨by omega, hrc.1, hrc, AG_say hAS hag2 _ _ _, by (have e7 : spR S im2 who.toNat f g 30 0 7 = S 30 0 7 := by unfold spR; split <;> exact hag2 30 0 7 (by omega)); rw [e7]; omega, hps _ ek, hpk2 _ ek, hlg2.trans hlg⟩)
                          | (have ek : agY (up S 36 0 (10 * who.toNat + f.toNat) (-1)) (tkR S a who f g ((4 * k : Nat) : Int)) := by
                               unfold tkR
                               rw [if_neg (by omega), if_pos (by omega)]
                               exact agY_rfl _
                             have hrc := RC_out hRC (s := 10 * who.toNat + f.toNat)
                             exact ih86 (k + 1) _ lg (by omega) ⟨by omega, hrc.1, hrc, AG_out hAS _, by (show S 30 0 7 ≤ _); omega, hps _ ek, hpk2 _ ek, hlg⟩)
                          | (have ek : agY (hnR S who.toNat f.toNat 10) (tkR S a who f g ((4 * k : Nat) : Int)) := by
                               unfold tkR
                               rw [if_neg (by omega), if_neg (by omega), if_pos (by omega)]
                               exact agY_rfl _
                             have hrc := RC_hn hRC (p := who.toNat) (q := f.toNat) (by omega) (by omega)
                             exact ih86 (k + 1) _ lg (by omega) ⟨by omega, hrc.1, hrc, AG_hn hAS _ _, by (show S 30 0 7 ≤ _); omega, hps _ ek, hpk2 _ ek, hlg⟩)
                          | (have ek : agY im2 (tkR S a who f g ((4 * k : Nat) : Int)) := by
                               unfold tkR
                               rw [if_neg (by omega), if_neg (by omega), if_neg (by omega)]
                               exact hag2
                             have e7 : im2 30 0 7 = S 30 0 7 + 1 := (hag2 30 0 7 (by omega)).trans (by rw [up_app, if_pos ⟨rfl, rfl, rfl⟩])
                             exact ih86 (k + 1) _ lg2 (by omega) ⟨by omega, hR2, hk.1, hk.2, by omega, hps _ ek, hpk2 _ ek, hlg2.trans hlg⟩)
                exact L86 _ 0 (asideI im) lm (Nat.lt_succ_self _) ⟨by omega, hRa, hRCa, hAa, by omega, agY_rfl _, PK_0 (agY_rfl _), lgQ_rfl lm⟩
              · refine q_aload_n (t := 59) F dX9_plan_58 rfl rfl rfl ?_
                refine q_bipush (t := 61) F dX9_plan_59 (by decide) rfl ?_
                refine q_iload_n (t := 62) F dX9_plan_61 rfl rfl rfl ?_
                refine q_imul (t := 63) F dX9_plan_62 rfl ?_
                refine q_iload_n (t := 64) F dX9_plan_63 rfl rfl rfl ?_
                refine q_iadd (t := 65) F dX9_plan_64 rfl ?_
                rw [show (40 : Int) * (s : Int) + ((4 * k : Nat) : Int) = ((40 * s + 4 * k : Nat) : Int) by omega]
                refine wp_callV (t := 68) [_] F dX9_plan_65 k_X9_isRow v_X9_isRow ml_X9_424 rfl rfl rfl rfl (Nat.le_of_ble_eq_true rfl) (by decide) (m_30 (by omega)) (c_X9_isRow _ G im bt rt lm h (40 * s + 4 * k) (by omega) _ _ _ _ rfl rfl rfl rfl) rfl (kI ?_)
                rintro x65 m' ⟨hx65, rfl⟩
                have hx65b := stepB_in (im 30 0 12) (im 50 0 (40 * s + 4 * k)) (im 50 0 (40 * s + 4 * k + 1)) (im 50 0 (40 * s + 4 * k + 2)) (im 50 0 (40 * s + 4 * k + 3))
                rw [← hx65] at hx65b
                refine q_if_ne (t := 71) (u := 74) F dX9_plan_68 (by first | exact hR _ _ _ | (constructor <;> omega)) (by decide) rfl (fun c68 => ?_) (fun c68 => ?_)
                · refine q_iinc (t := 77) F dX9_plan_74 rfl (by decide) rfl rfl ?_
                  refine q_goto (t := 48) F dX9_plan_77 (by decide) ?_
                  rw [show ((4 * k : Nat) : Int) + 4 = ((4 * (k + 1) : Nat) : Int) by omega]
                  refine ih48 (k + 1) (by omega) ⟨by omega, fun j hj => ?_⟩
                  by_cases e : j = k
                  · rw [e, ← hx65]
                    omega
                  · exact hall j (by omega)
                · refine q_bipush (t := 73) F dX9_plan_71 (by decide) rfl ?_
                  refine q_iret F dX9_plan_73 rfl ?_
                  first
                    | exact ⟨_, rfl, im, lm, fun _ => rfl, fun z => absurd z (by omega), hR, agS_rfl im, lgQ_rfl lm, rfl⟩
                    | exact ⟨_, rfl, im, lm, fun z => absurd (by omega) z, fun _ => ⟨fun _ => rfl, fun z => absurd z (by (try rw [ets]); omega), fun z => absurd z (by (try rw [ets]); omega)⟩, hR, agS_rfl im, lgQ_rfl lm, rfl⟩
                    | exact ⟨_, rfl, im, lm, fun z => absurd (by omega) z, fun _ => ⟨fun z => absurd z (by (try rw [ets]); omega), fun _ _ => rfl, fun _ z => absurd z.1 (by (try rw [ets]); omega)⟩, hR, agS_rfl im, lgQ_rfl lm, rfl⟩
                    | exact ⟨_, rfl, im, lm, fun z => absurd (by omega) z, fun _ => ⟨fun z => absurd z (by (try rw [ets]); omega), fun _ _ => rfl, fun _ z => by (try rw [ets] at z); have := z.2 k (by omega); omega⟩, hR, agS_rfl im, lgQ_rfl lm, rfl⟩
                    | (have ek : (im 49 0 s / 4).toNat = k := by omega
                       have e39 : S 30 0 39 = im 30 0 9 := (hpk.1 30 39 (by omega) (by omega)).trans rfl
                       refine ⟨_, rfl, _, lg, fun z => absurd (by omega) z, fun _ => ⟨fun z => absurd z (by (try rw [ets]); omega), fun _ z => absurd (by (try rw [ets]); exact hok) z, fun _ _ => ⟨S, by (try rw [ets]); rw [ek]; exact hpl, ?_⟩⟩, backI_RI hRS, (backI_R hpk.1 hpk.2).S, hlg, rfl⟩
                       first
                         | (rw [if_pos (by omega)]
                            show bm (S 30 0 9 - S 30 0 39) = _
                            rw [e39])
                         | (rw [if_neg (by omega), hx240, e12]))
          exact L48 _ 0 (Nat.lt_succ_self _) ⟨by omega, fun j hj => absurd hj (Nat.not_lt_zero j)⟩
        · refine q_bipush (t := 45) F dX9_plan_43 (by decide) rfl ?_
          refine q_iret F dX9_plan_45 rfl ?_
          first
            | exact ⟨_, rfl, im, lm, fun _ => rfl, fun z => absurd z (by omega), hR, agS_rfl im, lgQ_rfl lm, rfl⟩
            | exact ⟨_, rfl, im, lm, fun z => absurd (by omega) z, fun _ => ⟨fun _ => rfl, fun z => absurd z (by (try rw [ets]); omega), fun z => absurd z (by (try rw [ets]); omega)⟩, hR, agS_rfl im, lgQ_rfl lm, rfl⟩
            | exact ⟨_, rfl, im, lm, fun z => absurd (by omega) z, fun _ => ⟨fun z => absurd z (by (try rw [ets]); omega), fun _ _ => rfl, fun _ z => absurd z.1 (by (try rw [ets]); omega)⟩, hR, agS_rfl im, lgQ_rfl lm, rfl⟩
            | exact ⟨_, rfl, im, lm, fun z => absurd (by omega) z, fun _ => ⟨fun z => absurd z (by (try rw [ets]); omega), fun _ _ => rfl, fun _ z => by (try rw [ets] at z); have := z.2 k (by omega); omega⟩, hR, agS_rfl im, lgQ_rfl lm, rfl⟩
            | (have ek : (im 49 0 s / 4).toNat = k := by omega
               have e39 : S 30 0 39 = im 30 0 9 := (hpk.1 30 39 (by omega) (by omega)).trans rfl
               refine ⟨_, rfl, _, lg, fun z => absurd (by omega) z, fun _ => ⟨fun z => absurd z (by (try rw [ets]); omega), fun _ z => absurd (by (try rw [ets]); exact hok) z, fun _ _ => ⟨S, by (try rw [ets]); rw [ek]; exact hpl, ?_⟩⟩, backI_RI hRS, (backI_R hpk.1 hpk.2).S, hlg, rfl⟩
               first
                 | (rw [if_pos (by omega)]
                    show bm (S 30 0 9 - S 30 0 39) = _
                    rw [e39])
                 | (rw [if_neg (by omega), hx240, e12]))
      · refine q_bipush (t := 31) F dX9_plan_29 (by decide) rfl ?_
        refine q_iret F dX9_plan_31 rfl ?_
        first
          | exact ⟨_, rfl, im, lm, fun _ => rfl, fun z => absurd z (by omega), hR, agS_rfl im, lgQ_rfl lm, rfl⟩
          | exact ⟨_, rfl, im, lm, fun z => absurd (by omega) z, fun _ => ⟨fun _ => rfl, fun z => absurd z (by (try rw [ets]); omega), fun z => absurd z (by (try rw [ets]); omega)⟩, hR, agS_rfl im, lgQ_rfl lm, rfl⟩
          | exact ⟨_, rfl, im, lm, fun z => absurd (by omega) z, fun _ => ⟨fun z => absurd z (by (try rw [ets]); omega), fun _ _ => rfl, fun _ z => absurd z.1 (by (try rw [ets]); omega)⟩, hR, agS_rfl im, lgQ_rfl lm, rfl⟩
          | exact ⟨_, rfl, im, lm, fun z => absurd (by omega) z, fun _ => ⟨fun z => absurd z (by (try rw [ets]); omega), fun _ _ => rfl, fun _ z => by (try rw [ets] at z); have := z.2 k (by omega); omega⟩, hR, agS_rfl im, lgQ_rfl lm, rfl⟩
          | (have ek : (im 49 0 s / 4).toNat = k := by omega
             have e39 : S 30 0 39 = im 30 0 9 := (hpk.1 30 39 (by omega) (by omega)).trans rfl
             refine ⟨_, rfl, _, lg, fun z => absurd (by omega) z, fun _ => ⟨fun z => absurd z (by (try rw [ets]); omega), fun _ z => absurd (by (try rw [ets]); exact hok) z, fun _ _ => ⟨S, by (try rw [ets]); rw [ek]; exact hpl, ?_⟩⟩, backI_RI hRS, (backI_R hpk.1 hpk.2).S, hlg, rfl⟩
             first
               | (rw [if_pos (by omega)]
                  show bm (S 30 0 9 - S 30 0 39) = _
                  rw [e39])
               | (rw [if_neg (by omega), hx240, e12]))
    · refine q_bipush (t := 19) F dX9_plan_17 (by decide) rfl ?_
      refine q_iret F dX9_plan_19 rfl ?_
      first
        | exact ⟨_, rfl, im, lm, fun _ => rfl, fun z => absurd z (by omega), hR, agS_rfl im, lgQ_rfl lm, rfl⟩
        | exact ⟨_, rfl, im, lm, fun z => absurd (by omega) z, fun _ => ⟨fun _ => rfl, fun z => absurd z (by (try rw [ets]); omega), fun z => absurd z (by (try rw [ets]); omega)⟩, hR, agS_rfl im, lgQ_rfl lm, rfl⟩
        | exact ⟨_, rfl, im, lm, fun z => absurd (by omega) z, fun _ => ⟨fun z => absurd z (by (try rw [ets]); omega), fun _ _ => rfl, fun _ z => absurd z.1 (by (try rw [ets]); omega)⟩, hR, agS_rfl im, lgQ_rfl lm, rfl⟩
        | exact ⟨_, rfl, im, lm, fun z => absurd (by omega) z, fun _ => ⟨fun z => absurd z (by (try rw [ets]); omega), fun _ _ => rfl, fun _ z => by (try rw [ets] at z); have := z.2 k (by omega); omega⟩, hR, agS_rfl im, lgQ_rfl lm, rfl⟩
        | (have ek : (im 49 0 s / 4).toNat = k := by omega
           have e39 : S 30 0 39 = im 30 0 9 := (hpk.1 30 39 (by omega) (by omega)).trans rfl
           refine ⟨_, rfl, _, lg, fun z => absurd (by omega) z, fun _ => ⟨fun z => absurd z (by (try rw [ets]); omega), fun _ z => absurd (by (try rw [ets]); exact hok) z, fun _ _ => ⟨S, by (try rw [ets]); rw [ek]; exact hpl, ?_⟩⟩, backI_RI hRS, (backI_R hpk.1 hpk.2).S, hlg, rfl⟩
           first
             | (rw [if_pos (by omega)]
                show bm (S 30 0 9 - S 30 0 39) = _
                rw [e39])
             | (rw [if_neg (by omega), hx240, e12]))
