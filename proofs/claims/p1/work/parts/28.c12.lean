/-! what a world's deeds keep -/
abbrev lS : List Nat := [5, 16, 17, 20]
theorem uttW_ag {a b : IM} (h : ag lS a b) (w man : Nat) (word food : Int) : uttW a w man word food = uttW b w man word food := by
  unfold uttW
  rw [takesW_ag h (by decide) (by decide) (by decide) (by decide) (by decide), h 22 (by decide)]
theorem uttM_ag {a b : IM} (h : ag lS a b) (w man : Nat) (word food : Int) : ag lS (uttM a w man word food) (uttM b w man word food) := by
  unfold uttM
  rw [uttW_ag h]
  split
  · exact h
  · exact ag_upup (ag_upup h)
theorem hnd_ag {a b : IM} (h : ag lS a b) (p q n : Nat) : ag lS (hnd a p q n) (hnd b p q n) := by
  intro k hk i s
  rw [hnd_app, hnd_app]
  simp only [h 22 (by decide), h k hk]
theorem shP_ag {a b : IM} (h : ag lS a b) (w N : Nat) : shP a w N = shP b w N := by
  induction N with
  | zero => exact h 18 (by decide) w 6
  | succ N ih =>
    show (if goesW a w (N / 10) (N % 10) 1 = -1 then shP a w N else bm (shP a w N + badP a w N)) = (if goesW b w (N / 10) (N % 10) 1 = -1 then shP b w N else bm (shP b w N + badP b w N))
    unfold badP
    rw [ih, goesW_ag h (by decide) (by decide) (by decide) (by decide) (by decide) (by decide), bearsW_ag h (by decide) (by decide) (by decide) (by decide) (by decide) (by decide), h 18 (by decide), h 18 (by decide)]
theorem pasM_ag {a b : IM} (h : ag lS a b) (w N : Nat) : ag lS (pasM a w N) (pasM b w N) := by
  intro k hk i s
  rw [pasM_app, pasM_app, shP_ag h, goesW_ag h (by decide) (by decide) (by decide) (by decide) (by decide) (by decide), h k hk, h 23 (by decide)]
theorem WI_cells {a b : IM} {w : Nat} (hW : WI b w) (h18 : ∀ s, s = 3 ∨ s = 5 ∨ s = 7 → a 18 w s = b 18 w s) (hh : 0 ≤ a 18 w 4 ∧ a 18 w 4 ≤ 1100) (h21 : ∀ p s, p < 5 → a 21 (5 * w + p) s = b 21 (5 * w + p) s) (t3 : ∀ j s, a 3 j s = b 3 j s) (t4 : ∀ j s, a 4 j s = b 4 j s) (hc : ∀ p g : Nat, p < 5 → (p : Int) < b 18 w 3 → g < 10 → -1 ≤ a 22 (5 * w + p) g ∧ a 22 (5 * w + p) g < 16 ∧ (a 22 (5 * w + p) g ≠ -1 → 0 ≤ a 23 (5 * w + p) g ∧ a 23 (5 * w + p) g ≤ 1100)) : WI a w := by
  have w1 := hW.1
  refine ⟨by rw [h18 3 (by omega)]; exact hW.1, hh, by rw [h18 5 (by omega)]; exact hW.2.2.1, by rw [h18 7 (by omega)]; exact hW.2.2.2.1, ?_, fun p hp => ?_⟩
  · rw [h18 7 (by omega)]
    exact goodT_congr (fun s => t3 _ s) (fun s => t4 _ s) hW.2.2.2.2.1
  · rw [h18 3 (by omega)] at hp
    have hq := hW.2.2.2.2.2 p hp
    refine ⟨by rw [h21 p 0 (by omega)]; exact hq.1, by rw [h21 p 1 (by omega)]; exact hq.2.1, fun g hg => hc p g (by omega) hp hg⟩
theorem utt_WI {im : IM} {w man : Nat} {word food : Int} (hW : WI im w) (hwo : 0 ≤ word ∧ word < 16) : WI (uttM im w man word food) w := by
  unfold uttM
  split
  · exact hW
  · refine WI_cells hW (fun s _ => rfl) hW.2.1 (fun p s _ => rfl) (fun j s => rfl) (fun j s => rfl) (fun p g h5 hp hg => ?_)
    have hb := (hW.2.2.2.2.2 p hp).2.2 g hg
    simp only [up_app]
    (repeat' split) <;> omega
theorem flo_WI {im : IM} {w man gap : Nat} (hW : WI im w) : WI (up im 22 (5 * w + man) gap (-1)) w := by
  refine WI_cells hW (fun s _ => rfl) hW.2.1 (fun p s _ => rfl) (fun j s => rfl) (fun j s => rfl) (fun p g h5 hp hg => ?_)
  have hb := (hW.2.2.2.2.2 p hp).2.2 g hg
  simp only [up_app]
  (repeat' split) <;> omega
theorem hnd_k (im : IM) (p q n : Nat) {k : Nat} (h : k ≠ 22) (h2 : k ≠ 23) (i s : Nat) : hnd im p q n k i s = im k i s := by
  rw [hnd_app]
  (repeat' split) <;> first | rfl | omega
theorem hnd_WI {im : IM} {w a b : Nat} (hW : WI im w) (ha : (a : Int) < im 18 w 3) : WI (hnd im (5 * w + a) (5 * w + b) 10) w := by
  refine WI_cells hW (fun s _ => hnd_k _ _ _ _ (by decide) (by decide) _ _) (by rw [hnd_k _ _ _ _ (by decide) (by decide)]; exact hW.2.1) (fun p s _ => hnd_k _ _ _ _ (by decide) (by decide) _ _) (fun j s => hnd_k _ _ _ _ (by decide) (by decide) _ _) (fun j s => hnd_k _ _ _ _ (by decide) (by decide) _ _) (fun p g h5 hp hg => ?_)
  have hb := (hW.2.2.2.2.2 p hp).2.2 g hg
  have ha2 := (hW.2.2.2.2.2 a ha).2.2 g hg
  rw [hnd_app, hnd_app]
  (repeat' split) <;> omega
theorem goes1 {im : IM} {w man gap : Nat} (n0 : 0 ≤ im 21 (5 * w + man) 1) (n1 : im 21 (5 * w + man) 1 < 10) (h : goesW im w man gap 1 = -1) : im 22 (5 * w + man) gap = -1 ∨ im 23 (5 * w + man) gap + 1 < 108 := by
  unfold goesW goK at h
  split at h
  · left; assumption
  · right
    rw [findF_s] at h
    split at h
    · exact absurd h (by decide)
    · rename_i h2
      unfold offK hoK at h2
      have := (holdsK_in (k := im 21 (5 * w + man) 0) n0 n1 (tellV_in im (im 18 w 7).toNat 1 (nmP (im 22 (5 * w + man) gap) (im 18 w 4 + ((0 : Nat) : Int)) (im 21 (5 * w + man) 1) gap (im 23 (5 * w + man) gap + ((0 : Nat) : Int) + 1))).1 (tellV_in _ _ _ _).2).2
      rw [decide_eq_true_eq] at h2
      omega
theorem pas_WI {im : IM} {w N : Nat} (hW : WI im w) (hh : im 18 w 4 < 1100) : WI (up (pasM im w N) 18 w 4 (im 18 w 4 + 1)) w := by
  have w2 := hW.2.1
  refine WI_cells hW (fun s hs => ?_) ?_ (fun p s _ => ?_) (fun j s => ?_) (fun j s => ?_) (fun p g h5 hp hg => ?_)
  · rw [up_app, if_neg (by omega), pasM_18 _ _ _ (by omega)]
  · rw [up_app, if_pos ⟨rfl, rfl, rfl⟩]; omega
  · rw [up_app, if_neg (by omega), pasM_k _ _ _ (by decide) (by decide) (by decide)]
  · rw [up_app, if_neg (by omega), pasM_k _ _ _ (by decide) (by decide) (by decide)]
  · rw [up_app, if_neg (by omega), pasM_k _ _ _ (by decide) (by decide) (by decide)]
  · have hq := hW.2.2.2.2.2 p hp
    have hb := hq.2.2 g hg
    have h1 := goes1 (gap := g) hq.2.1.1 hq.2.1.2
    rw [up_app, if_neg (by omega), up_app, if_neg (by omega), pasM_app, pasM_app, show 5 * w + p - 5 * w = p by omega]
    by_cases hg1 : goesW im w p g 1 = -1
    · simp only [if_pos hg1]
      have h2 := h1 hg1
      have hbm : im 22 (5 * w + p) g ≠ -1 → bm (im 23 (5 * w + p) g + 1) = im 23 (5 * w + p) g + 1 := by
        intro hne
        unfold bm
        have := hb.2.2 hne
        rw [Int.bmod_eq_emod]
        split <;> omega
      (repeat' split) <;> first | omega | (refine ⟨hb.1, hb.2.1, fun hne => ?_⟩; rw [hbm hne]; have := hb.2.2 hne; omega)
    · simp only [if_neg hg1]
      (repeat' split) <;> omega
theorem bec_18 {im : IM} {w v n s : Nat} (h : 3 ≤ s ∧ s ≤ 7) : becP im w v n 18 w s = im 18 v s := by
  rw [becP_app, if_pos (by omega)]
theorem bec_c {im : IM} {w v n p k s : Nat} (h : k = 21 ∧ s < 2 ∨ k = 22 ∧ s < 10 ∨ k = 23 ∧ s < 10) (hp : p < n) : becP im w v n k (5 * w + p) s = im k (5 * v + p) s := by
  rw [becP_app, if_neg (by omega), if_pos (by omega), show 5 * w + p - 5 * w = p by omega]
theorem bec_k {im : IM} {w v n k : Nat} (h : k ≠ 18 ∧ k ≠ 21 ∧ k ≠ 22 ∧ k ≠ 23) (i s : Nat) : becP im w v n k i s = im k i s := by
  rw [becP_app, if_neg (by omega), if_neg (by omega)]
theorem bec_WI {im : IM} {w v : Nat} (hW : WI im v) : WI (becM im w v) w := by
  unfold becM
  have w1 := hW.1
  refine ⟨?_, ?_, ?_, ?_, ?_, fun p hp => ?_⟩
  · rw [bec_18 (by omega)]; exact hW.1
  · rw [bec_18 (by omega)]; exact hW.2.1
  · rw [bec_18 (by omega)]; exact hW.2.2.1
  · rw [bec_18 (by omega)]; exact hW.2.2.2.1
  · rw [bec_18 (by omega)]
    exact goodT_congr (fun s => bec_k (by omega) _ _) (fun s => bec_k (by omega) _ _) hW.2.2.2.2.1
  · rw [bec_18 (by omega)] at hp
    have hq := hW.2.2.2.2.2 p hp
    refine ⟨?_, ?_, fun g hg => ?_⟩
    · rw [bec_c (by omega) (by omega)]; exact hq.1
    · rw [bec_c (by omega) (by omega)]; exact hq.2.1
    · rw [bec_c (by omega) (by omega), bec_c (by omega) (by omega)]; exact hq.2.2 g hg
/-! steps of a plan -/
def stepB (z act who f s : Int) : Int := if act = 3 then (if who = 0 ∧ f = 0 ∧ s = 0 then 1 else 0) else if ¬ (0 ≤ who ∧ who < z) then 0 else if act = 0 then (if (0 ≤ f ∧ f < 16) ∧ 0 ≤ s ∧ s < 10 then 1 else 0) else if act = 1 then (if (0 ≤ f ∧ f < 10) ∧ s = 0 then 1 else 0) else if act = 2 ∧ (0 ≤ f ∧ f < z) ∧ f ≠ who ∧ s = 0 then 1 else 0
def takM (im : IM) (act who f s : Int) : IM := if act = 0 then uttM im 1 who.toNat f s else if act = 1 then up im 22 (5 * 1 + who.toNat) f.toNat (-1) else if act = 2 then hnd im (5 * 1 + who.toNat) (5 * 1 + f.toNat) 10 else up (pasM im 1 (10 * (im 18 1 3).toNat)) 18 1 4 (im 18 1 4 + 1)
theorem takM_ag {a b : IM} (h : ag lS a b) (act who f s : Int) : ag lS (takM a act who f s) (takM b act who f s) := by
  unfold takM
  rw [h 18 (by decide) 1 3, h 18 (by decide) 1 4]
  split
  · exact uttM_ag h _ _ _ _
  split
  · exact ag_upup h
  split
  · exact hnd_ag h _ _ _
  · exact ag_upup (pasM_ag h _ _)
theorem takM_WI {im : IM} {act who f s : Int} (hW : WI im 1) (hh : im 18 1 4 < 1100) (hs : stepB (im 18 1 3) act who f s = 1) : WI (takM im act who f s) 1 := by
  unfold stepB at hs
  unfold takM
  split
  · refine utt_WI hW ?_
    subst act
    rw [if_neg (by decide)] at hs
    (repeat' split at hs) <;> omega
  split
  · exact flo_WI hW
  split
  · refine hnd_WI hW ?_
    have := hW.1
    (repeat' split at hs) <;> omega
  · exact pas_WI hW hh
theorem utt_o (im : IM) (w man : Nat) (word food : Int) {k i s : Nat} (h : ¬ ((k = 22 ∨ k = 23) ∧ i = 5 * w + man)) : uttM im w man word food k i s = im k i s := by
  unfold uttM
  split
  · rfl
  · rw [up_app, if_neg (by omega), up_app, if_neg (by omega)]
theorem hnd_o (im : IM) (p q n : Nat) {k i s : Nat} (h : ¬ ((k = 22 ∨ k = 23) ∧ (i = p ∨ i = q))) : hnd im p q n k i s = im k i s := by
  rw [hnd_app]
  (repeat' split) <;> first | rfl | omega
theorem pasM_o (im : IM) (w N : Nat) {k i s : Nat} (hN : N ≤ 50) (h : ¬ ((k = 22 ∨ k = 23) ∧ 5 * w ≤ i ∧ i < 5 * w + 5)) (h2 : ¬ (k = 18 ∧ i = w ∧ s = 6)) : pasM im w N k i s = im k i s := by
  rw [pasM_app, if_neg (by omega), if_neg h2]
theorem takM_agP {im : IM} {act who f s : Int} (hW : WI im 1) (hs : stepB (im 18 1 3) act who f s = 1) : agP (takM im act who f s) im := by
  have w1 := hW.1
  unfold stepB at hs
  have h : ∀ k i t, ¬ (k = 18 ∧ i = 1) → ¬ (21 ≤ k ∧ k ≤ 23 ∧ 5 ≤ i ∧ i < 10) → takM im act who f s k i t = im k i t := by
    intro k i t hk1 hk2
    unfold takM
    split
    · refine utt_o _ _ _ _ _ ?_
      rw [if_neg (by omega)] at hs
      (repeat' split at hs) <;> omega
    split
    · rw [up_app, if_neg]
      rw [if_neg (by omega)] at hs
      (repeat' split at hs) <;> omega
    split
    · refine hnd_o _ _ _ _ ?_
      rw [if_neg (by omega)] at hs
      (repeat' split at hs) <;> omega
    · rw [up_app, if_neg (by omega), pasM_o _ _ _ (by omega) (by omega) (by omega)]
  refine ⟨fun k i t hp => h k i t ?_ ?_, h 13 0 0 (by decide) (by decide)⟩
  · unfold per at hp; omega
  · unfold per at hp; omega
theorem takM_18 {im : IM} {act who f s : Int} : takM im act who f s 18 1 3 = im 18 1 3 ∧ takM im act who f s 18 1 4 ≤ (if im 18 1 4 + 1 ≤ im 18 1 4 then im 18 1 4 else im 18 1 4 + 1) := by
  rw [if_neg (by omega)]
  unfold takM
  split
  · rw [utt_o _ _ _ _ _ (by omega), utt_o _ _ _ _ _ (by omega)]; omega
  split
  · rw [up_app, if_neg (by omega), up_app, if_neg (by omega)]; omega
  split
  · rw [hnd_o _ _ _ _ (by omega), hnd_o _ _ _ _ (by omega)]; omega
  · rw [up_app, if_neg (by omega), up_app, if_pos ⟨rfl, rfl, rfl⟩, pasM_18 _ _ _ (by decide)]; omega

set_option maxHeartbeats 4000000 in
theorem c_X8_isStep (l : Launch) (G : GS) (im : IM) (bt rt : Nat) (lm : IM) (hR : RI im) (act who f s : Int) (hact : ri act) (hwho : ri who) (hf : ri f) (hs : ri s) : Cn l (XC G) yX8_isStep Y_X8_isStep [vR 0 0, vI act, vI who, vI f, vI s] (im, rs bt rt, lm) (pI fun x m' => x = stepB (im 18 0 3) act who f s ∧ m' = (im, rs bt rt, lm)) := by
  refine cn_of (by decide) (okC G) rfl (Nat.le_of_ble_eq_true rfl) ?_
  intro M ad hMl F
  subst hMl
  have hact1 := hact.1
  have hact2 := hact.2
  have hwho1 := hwho.1
  have hwho2 := hwho.2
  have hf1 := hf.1
  have hf2 := hf.2
  have hs1 := hs.1
  have hs2 := hs.2
  refine wp_pad 0 ?_
  show Wp M (XC G) ad Y_X8_isStep (pI fun x m' => x = stepB (im 18 0 3) act who f s ∧ m' = (im, rs bt rt, lm)) 0 [some (vR 0 0), some (vI act), some (vI who), some (vI f), some (vI s)] [] (im, rs bt rt, lm)
  refine q_iload_n (t := 1) F dX8_isStep_0 rfl rfl rfl ?_
  refine q_iconst (t := 2) F dX8_isStep_1 rfl ?_
  refine q_icmp_ne (t := 5) (u := 24) F dX8_isStep_2 (by first | exact hR _ _ _ | (constructor <;> omega)) (by first | exact hR _ _ _ | (constructor <;> omega)) (by decide) rfl (fun c2 => ?_) (fun c2 => ?_)
  · refine q_aload_n (t := 25) F dX8_isStep_24 rfl rfl rfl ?_
    refine q_iload_n (t := 26) F dX8_isStep_25 rfl rfl rfl ?_
    refine wp_callV (t := 29) [_] F dX8_isStep_26 k_X8_isOne v_X8_isOne ml_X8_91 rfl rfl rfl rfl (Nat.le_of_ble_eq_true rfl) (by decide) (m_0 (by omega)) (c_X8_isOne _ G _ bt rt lm who hwho hR) rfl (kI ?_)
    rintro x26 m' ⟨hx26, rfl⟩
    have hx26 := if01 hx26
    refine q_if_ne (t := 32) (u := 34) F dX8_isStep_29 (by first | exact hR _ _ _ | (constructor <;> omega)) (by decide) rfl (fun c29 => ?_) (fun c29 => ?_)
    · refine q_iload_n (t := 35) F dX8_isStep_34 rfl rfl rfl ?_
      refine q_if_ne (t := 38) (u := 63) F dX8_isStep_35 (by first | exact hR _ _ _ | (constructor <;> omega)) (by decide) rfl (fun c35 => ?_) (fun c35 => ?_)
      · refine q_iload_n (t := 64) F dX8_isStep_63 rfl rfl rfl ?_
        refine q_iconst (t := 65) F dX8_isStep_64 rfl ?_
        refine q_icmp_ne (t := 68) (u := 88) F dX8_isStep_65 (by first | exact hR _ _ _ | (constructor <;> omega)) (by first | exact hR _ _ _ | (constructor <;> omega)) (by decide) rfl (fun c65 => ?_) (fun c65 => ?_)
        · refine q_iload_n (t := 89) F dX8_isStep_88 rfl rfl rfl ?_
          refine q_iconst (t := 90) F dX8_isStep_89 rfl ?_
          refine q_icmp_ne (t := 93) (u := 115) F dX8_isStep_90 (by first | exact hR _ _ _ | (constructor <;> omega)) (by first | exact hR _ _ _ | (constructor <;> omega)) (by decide) rfl (fun c90 => ?_) (fun c90 => ?_)
          · refine q_iconst (t := 116) F dX8_isStep_115 rfl ?_
            refine q_zret F dX8_isStep_116 rfl (by decide) ?_
            refine ⟨_, rfl, ?_, rfl⟩
            unfold stepB
            (repeat' split) <;> omega
          · refine q_aload_n (t := 94) F dX8_isStep_93 rfl rfl rfl ?_
            refine q_iload_n (t := 95) F dX8_isStep_94 rfl rfl rfl ?_
            refine wp_callV (t := 98) [_] F dX8_isStep_95 k_X8_isOne v_X8_isOne ml_X8_91 rfl rfl rfl rfl (Nat.le_of_ble_eq_true rfl) (by decide) (m_0 (by omega)) (c_X8_isOne _ G _ bt rt lm f hf hR) rfl (kI ?_)
            rintro x95 m' ⟨hx95, rfl⟩
            have hx95 := if01 hx95
            refine q_if_eq (t := 101) (u := 115) F dX8_isStep_98 (by first | exact hR _ _ _ | (constructor <;> omega)) (by decide) rfl (fun c98 => ?_) (fun c98 => ?_)
            · refine q_iconst (t := 116) F dX8_isStep_115 rfl ?_
              refine q_zret F dX8_isStep_116 rfl (by decide) ?_
              refine ⟨_, rfl, ?_, rfl⟩
              unfold stepB
              (repeat' split) <;> omega
            · refine q_iload_n (t := 102) F dX8_isStep_101 rfl rfl rfl ?_
              refine q_iload_n (t := 103) F dX8_isStep_102 rfl rfl rfl ?_
              refine q_icmp_eq (t := 106) (u := 115) F dX8_isStep_103 (by first | exact hR _ _ _ | (constructor <;> omega)) (by first | exact hR _ _ _ | (constructor <;> omega)) (by decide) rfl (fun c103 => ?_) (fun c103 => ?_)
              · refine q_iconst (t := 116) F dX8_isStep_115 rfl ?_
                refine q_zret F dX8_isStep_116 rfl (by decide) ?_
                refine ⟨_, rfl, ?_, rfl⟩
                unfold stepB
                (repeat' split) <;> omega
              · refine q_iload (t := 108) F dX8_isStep_106 rfl rfl ?_
                refine q_if_ne (t := 111) (u := 115) F dX8_isStep_108 (by first | exact hR _ _ _ | (constructor <;> omega)) (by decide) rfl (fun c108 => ?_) (fun c108 => ?_)
                · refine q_iconst (t := 116) F dX8_isStep_115 rfl ?_
                  refine q_zret F dX8_isStep_116 rfl (by decide) ?_
                  refine ⟨_, rfl, ?_, rfl⟩
                  unfold stepB
                  (repeat' split) <;> omega
                · refine q_iconst (t := 112) F dX8_isStep_111 rfl ?_
                  refine q_goto (t := 116) F dX8_isStep_112 (by decide) ?_
                  refine q_zret F dX8_isStep_116 rfl (by decide) ?_
                  refine ⟨_, rfl, ?_, rfl⟩
                  unfold stepB
                  (repeat' split) <;> omega
        · refine q_iload_n (t := 69) F dX8_isStep_68 rfl rfl rfl ?_
          refine q_bipush (t := 71) F dX8_isStep_69 (by decide) rfl ?_
          refine wp_callS (t := 74) [_, _] F dX8_isStep_71 k_X8_within st_X8_within ml_X8_95 rfl rfl (Nat.le_of_ble_eq_true rfl) (by decide) (c_X8_within _ G _ bt rt lm f 10 hf (by constructor <;> omega)) rfl (kI ?_)
          rintro x71 m' ⟨hx71, rfl⟩
          have hx71 := if01 hx71
          refine q_if_eq (t := 77) (u := 86) F dX8_isStep_74 (by first | exact hR _ _ _ | (constructor <;> omega)) (by decide) rfl (fun c74 => ?_) (fun c74 => ?_)
          · refine q_iconst (t := 87) F dX8_isStep_86 rfl ?_
            refine q_zret F dX8_isStep_87 rfl (by decide) ?_
            refine ⟨_, rfl, ?_, rfl⟩
            unfold stepB
            (repeat' split) <;> omega
          · refine q_iload (t := 79) F dX8_isStep_77 rfl rfl ?_
            refine q_if_ne (t := 82) (u := 86) F dX8_isStep_79 (by first | exact hR _ _ _ | (constructor <;> omega)) (by decide) rfl (fun c79 => ?_) (fun c79 => ?_)
            · refine q_iconst (t := 87) F dX8_isStep_86 rfl ?_
              refine q_zret F dX8_isStep_87 rfl (by decide) ?_
              refine ⟨_, rfl, ?_, rfl⟩
              unfold stepB
              (repeat' split) <;> omega
            · refine q_iconst (t := 83) F dX8_isStep_82 rfl ?_
              refine q_goto (t := 87) F dX8_isStep_83 (by decide) ?_
              refine q_zret F dX8_isStep_87 rfl (by decide) ?_
              refine ⟨_, rfl, ?_, rfl⟩
              unfold stepB
              (repeat' split) <;> omega
      · refine q_iload_n (t := 39) F dX8_isStep_38 rfl rfl rfl ?_
        refine q_bipush (t := 41) F dX8_isStep_39 (by decide) rfl ?_
        refine wp_callS (t := 44) [_, _] F dX8_isStep_41 k_X8_within st_X8_within ml_X8_95 rfl rfl (Nat.le_of_ble_eq_true rfl) (by decide) (c_X8_within _ G _ bt rt lm f 16 hf (by constructor <;> omega)) rfl (kI ?_)
        rintro x41 m' ⟨hx41, rfl⟩
        have hx41 := if01 hx41
        refine q_if_eq (t := 47) (u := 61) F dX8_isStep_44 (by first | exact hR _ _ _ | (constructor <;> omega)) (by decide) rfl (fun c44 => ?_) (fun c44 => ?_)
        · refine q_iconst (t := 62) F dX8_isStep_61 rfl ?_
          refine q_zret F dX8_isStep_62 rfl (by decide) ?_
          refine ⟨_, rfl, ?_, rfl⟩
          unfold stepB
          (repeat' split) <;> omega
        · refine q_iload (t := 49) F dX8_isStep_47 rfl rfl ?_
          refine q_bipush (t := 51) F dX8_isStep_49 (by decide) rfl ?_
          refine wp_callS (t := 54) [_, _] F dX8_isStep_51 k_X8_within st_X8_within ml_X8_95 rfl rfl (Nat.le_of_ble_eq_true rfl) (by decide) (c_X8_within _ G _ bt rt lm s 10 hs (by constructor <;> omega)) rfl (kI ?_)
          rintro x51 m' ⟨hx51, rfl⟩
          have hx51 := if01 hx51
          refine q_if_eq (t := 57) (u := 61) F dX8_isStep_54 (by first | exact hR _ _ _ | (constructor <;> omega)) (by decide) rfl (fun c54 => ?_) (fun c54 => ?_)
          · refine q_iconst (t := 62) F dX8_isStep_61 rfl ?_
            refine q_zret F dX8_isStep_62 rfl (by decide) ?_
            refine ⟨_, rfl, ?_, rfl⟩
            unfold stepB
            (repeat' split) <;> omega
          · refine q_iconst (t := 58) F dX8_isStep_57 rfl ?_
            refine q_goto (t := 62) F dX8_isStep_58 (by decide) ?_
            refine q_zret F dX8_isStep_62 rfl (by decide) ?_
            refine ⟨_, rfl, ?_, rfl⟩
            unfold stepB
            (repeat' split) <;> omega
    · refine q_iconst (t := 33) F dX8_isStep_32 rfl ?_
      refine q_zret F dX8_isStep_33 rfl (by decide) ?_
      refine ⟨_, rfl, ?_, rfl⟩
      unfold stepB
      (repeat' split) <;> omega
  · refine q_iload_n (t := 6) F dX8_isStep_5 rfl rfl rfl ?_
    refine q_if_ne (t := 9) (u := 22) F dX8_isStep_6 (by first | exact hR _ _ _ | (constructor <;> omega)) (by decide) rfl (fun c6 => ?_) (fun c6 => ?_)
    · refine q_iconst (t := 23) F dX8_isStep_22 rfl ?_
      refine q_zret F dX8_isStep_23 rfl (by decide) ?_
      refine ⟨_, rfl, ?_, rfl⟩
      unfold stepB
      (repeat' split) <;> omega
    · refine q_iload_n (t := 10) F dX8_isStep_9 rfl rfl rfl ?_
      refine q_if_ne (t := 13) (u := 22) F dX8_isStep_10 (by first | exact hR _ _ _ | (constructor <;> omega)) (by decide) rfl (fun c10 => ?_) (fun c10 => ?_)
      · refine q_iconst (t := 23) F dX8_isStep_22 rfl ?_
        refine q_zret F dX8_isStep_23 rfl (by decide) ?_
        refine ⟨_, rfl, ?_, rfl⟩
        unfold stepB
        (repeat' split) <;> omega
      · refine q_iload (t := 15) F dX8_isStep_13 rfl rfl ?_
        refine q_if_ne (t := 18) (u := 22) F dX8_isStep_15 (by first | exact hR _ _ _ | (constructor <;> omega)) (by decide) rfl (fun c15 => ?_) (fun c15 => ?_)
        · refine q_iconst (t := 23) F dX8_isStep_22 rfl ?_
          refine q_zret F dX8_isStep_23 rfl (by decide) ?_
          refine ⟨_, rfl, ?_, rfl⟩
          unfold stepB
          (repeat' split) <;> omega
        · refine q_iconst (t := 19) F dX8_isStep_18 rfl ?_
          refine q_goto (t := 23) F dX8_isStep_19 (by decide) ?_
          refine q_zret F dX8_isStep_23 rfl (by decide) ?_
          refine ⟨_, rfl, ?_, rfl⟩
          unfold stepB
          (repeat' split) <;> omega

set_option maxHeartbeats 4000000 in
theorem c_X8_take (l : Launch) (G : GS) (im : IM) (bt rt : Nat) (lm : IM) (hbt : bt < 6) (hR : RI im) (hW : WI im 1) (act who f s : Int) (hact : ri act) (hwho : ri who) (hf : ri f) (hs : ri s) (hst : stepB (im 18 1 3) act who f s = 1) : Cn l (XC G) yX8_take Y_X8_take [vR 0 0, vI act, vI who, vI f, vI s] (im, rs bt rt, lm) (pV fun m' => ∃ im' bt', bt' < 6 ∧ RI im' ∧ ag lS im' (takM im act who f s) ∧ m' = (im', rs bt' rt, lm)) := by
  refine cn_of (by decide) (okC G) rfl (Nat.le_of_ble_eq_true rfl) ?_
  intro M ad hMl F
  subst hMl
  have hact1 := hact.1
  have hact2 := hact.2
  have hwho1 := hwho.1
  have hwho2 := hwho.2
  have hf1 := hf.1
  have hf2 := hf.2
  have hs1 := hs.1
  have hs2 := hs.2
  have w1 := hW.1
  have hst2 := hst
  unfold stepB at hst2
  refine wp_pad 0 ?_
  show Wp M (XC G) ad Y_X8_take (pV fun m' => ∃ im' bt', bt' < 6 ∧ RI im' ∧ ag lS im' (takM im act who f s) ∧ m' = (im', rs bt' rt, lm)) 0 [some (vR 0 0), some (vI act), some (vI who), some (vI f), some (vI s)] [] (im, rs bt rt, lm)
  refine q_iload_n (t := 1) F dX8_take_0 rfl rfl rfl ?_
  refine q_if_ne (t := 4) (u := 19) F dX8_take_1 (by first | exact hR _ _ _ | (constructor <;> omega)) (by decide) rfl (fun c1 => ?_) (fun c1 => ?_)
  · refine q_iload_n (t := 20) F dX8_take_19 rfl rfl rfl ?_
    refine q_iconst (t := 21) F dX8_take_20 rfl ?_
    refine q_icmp_ne (t := 24) (u := 41) F dX8_take_21 (by first | exact hR _ _ _ | (constructor <;> omega)) (by first | exact hR _ _ _ | (constructor <;> omega)) (by decide) rfl (fun c21 => ?_) (fun c21 => ?_)
    · refine q_iload_n (t := 42) F dX8_take_41 rfl rfl rfl ?_
      refine q_iconst (t := 43) F dX8_take_42 rfl ?_
      refine q_icmp_ne (t := 46) (u := 59) F dX8_take_43 (by first | exact hR _ _ _ | (constructor <;> omega)) (by first | exact hR _ _ _ | (constructor <;> omega)) (by decide) rfl (fun c43 => ?_) (fun c43 => ?_)
      · refine q_aload_n (t := 60) F dX8_take_59 rfl rfl rfl ?_
        refine g_X8_55 (t := 63) F dX8_take_60 rfl rfl ?_
        refine q_aload_n (t := 64) F dX8_take_63 rfl rfl rfl ?_
        refine g_X8_42 (t := 67) F dX8_take_64 rfl rfl ?_
        refine wp_callV (t := 70) [_] F dX8_take_67 k_X7_pass v_X7_pass ml_X8_159 rfl rfl rfl rfl (Nat.le_of_ble_eq_true rfl) (by decide) (m_18 (by omega)) (c_X7_pass _ G im bt rt lm 1 (by omega) hbt hR hW) rfl (kI ?_)
        rintro x67 m' ⟨hx, im2, bt2, hbt2, hR2, hag2, rfl⟩
        refine q_popI (t := 71) F dX8_take_70 rfl ?_
        refine q_vret F dX8_take_71 rfl ?_
        first
          | (refine ⟨rfl, im2, bt, hbt, hR2, ?_, rfl⟩
             unfold takM
             rw [if_pos (by omega)]
             try rw [Int.toNat_natCast]
             exact hag2.mono (by decide))
          | (refine ⟨rfl, _, bt, hbt, RI_up hR (by constructor <;> omega), ?_, rfl⟩
             unfold takM
             rw [if_neg (by omega), if_pos (by omega)]
             try simp only [Int.toNat_natCast]
             exact ag_rfl _ _)
          | (refine ⟨rfl, _, bt, hbt, RI_hnd hR, ?_, rfl⟩
             unfold takM
             rw [if_neg (by omega), if_neg (by omega), if_pos (by omega)]
             try simp only [Int.toNat_natCast]
             exact ag_rfl _ _)
          | (refine ⟨rfl, im2, bt2, hbt2, hR2, ?_, rfl⟩
             unfold takM
             rw [if_neg (by omega), if_neg (by omega), if_neg (by omega)]
             exact hag2.mono (by decide))
      · refine q_aload_n (t := 47) F dX8_take_46 rfl rfl rfl ?_
        refine g_X8_55 (t := 50) F dX8_take_47 rfl rfl ?_
        refine q_iload_n (t := 51) F dX8_take_50 rfl rfl rfl ?_
        refine q_iload_n (t := 52) F dX8_take_51 rfl rfl rfl ?_
        have g1 : (0 ≤ who ∧ who < im 18 1 3) ∧ (0 ≤ f ∧ f < im 18 1 3) ∧ f ≠ who := by (repeat' split at hst2) <;> omega
        rw [show f = ((f.toNat : Nat) : Int) by omega, show who = ((who.toNat : Nat) : Int) by omega]
        refine wp_callV (t := 55) [_, _] F dX8_take_52 k_X7_handOn v_X7_handOn ml_X8_156 rfl rfl rfl rfl (Nat.le_of_ble_eq_true rfl) (by decide) (m_18 (by omega)) (c_X7_handOn _ G im bt rt lm 1 (by omega) hR who.toNat f.toNat (by omega) (by omega) (by omega)) rfl (kI ?_)
        rintro x52 m' ⟨rfl, rfl⟩
        refine q_popI (t := 56) F dX8_take_55 rfl ?_
        refine q_goto (t := 71) F dX8_take_56 (by decide) ?_
        refine q_vret F dX8_take_71 rfl ?_
        first
          | (refine ⟨rfl, im2, bt, hbt, hR2, ?_, rfl⟩
             unfold takM
             rw [if_pos (by omega)]
             try rw [Int.toNat_natCast]
             exact hag2.mono (by decide))
          | (refine ⟨rfl, _, bt, hbt, RI_up hR (by constructor <;> omega), ?_, rfl⟩
             unfold takM
             rw [if_neg (by omega), if_pos (by omega)]
             try simp only [Int.toNat_natCast]
             exact ag_rfl _ _)
          | (refine ⟨rfl, _, bt, hbt, RI_hnd hR, ?_, rfl⟩
             unfold takM
             rw [if_neg (by omega), if_neg (by omega), if_pos (by omega)]
             try simp only [Int.toNat_natCast]
             exact ag_rfl _ _)
          | (refine ⟨rfl, im2, bt2, hbt2, hR2, ?_, rfl⟩
             unfold takM
             rw [if_neg (by omega), if_neg (by omega), if_neg (by omega)]
             exact hag2.mono (by decide))
    · refine q_aload_n (t := 25) F dX8_take_24 rfl rfl rfl ?_
      refine g_X8_55 (t := 28) F dX8_take_25 rfl rfl ?_
      refine g_X8_99 (t := 31) F dX8_take_28 rfl (by omega) rfl ?_
      refine q_iload_n (t := 32) F dX8_take_31 rfl rfl rfl ?_
      have g1 : (0 ≤ who ∧ who < im 18 1 3) ∧ (0 ≤ f ∧ f < 10) := by (repeat' split at hst2) <;> omega
      refine la_19 (t := 33) F dX8_take_32 (by omega) (by omega) (by omega) rfl ?_
      refine q_iload_n (t := 34) F dX8_take_33 rfl rfl rfl ?_
      have g1 : (0 ≤ who ∧ who < im 18 1 3) ∧ (0 ≤ f ∧ f < 10) := by (repeat' split at hst2) <;> omega
      rw [show f = ((f.toNat : Nat) : Int) by omega]
      refine wp_callV (t := 37) [_] F dX8_take_34 k_X3_empty v_X3_empty ml_X8_153 rfl rfl rfl rfl (Nat.le_of_ble_eq_true rfl) (by decide) (m_21 (by omega)) (c_X3_empty _ G im bt rt lm (5 * 1 + who.toNat) (by omega) f.toNat (by omega)) rfl (kI ?_)
      rintro x34 m' ⟨rfl, rfl⟩
      refine q_popI (t := 38) F dX8_take_37 rfl ?_
      refine q_goto (t := 71) F dX8_take_38 (by decide) ?_
      refine q_vret F dX8_take_71 rfl ?_
      first
        | (refine ⟨rfl, im2, bt, hbt, hR2, ?_, rfl⟩
           unfold takM
           rw [if_pos (by omega)]
           try rw [Int.toNat_natCast]
           exact hag2.mono (by decide))
        | (refine ⟨rfl, _, bt, hbt, RI_up hR (by constructor <;> omega), ?_, rfl⟩
           unfold takM
           rw [if_neg (by omega), if_pos (by omega)]
           try simp only [Int.toNat_natCast]
           exact ag_rfl _ _)
        | (refine ⟨rfl, _, bt, hbt, RI_hnd hR, ?_, rfl⟩
           unfold takM
           rw [if_neg (by omega), if_neg (by omega), if_pos (by omega)]
           try simp only [Int.toNat_natCast]
           exact ag_rfl _ _)
        | (refine ⟨rfl, im2, bt2, hbt2, hR2, ?_, rfl⟩
           unfold takM
           rw [if_neg (by omega), if_neg (by omega), if_neg (by omega)]
           exact hag2.mono (by decide))
  · refine q_aload_n (t := 5) F dX8_take_4 rfl rfl rfl ?_
    refine g_X8_55 (t := 8) F dX8_take_5 rfl rfl ?_
    refine q_iload_n (t := 9) F dX8_take_8 rfl rfl rfl ?_
    refine q_iload_n (t := 10) F dX8_take_9 rfl rfl rfl ?_
    refine q_iload (t := 12) F dX8_take_10 rfl rfl ?_
    have g1 : (0 ≤ who ∧ who < im 18 1 3) ∧ (0 ≤ f ∧ f < 16) := by (repeat' split at hst2) <;> omega
    rw [show who = ((who.toNat : Nat) : Int) by omega]
    refine wp_callV (t := 15) [_, _, _] F dX8_take_12 k_X7_utter v_X7_utter ml_X8_150 rfl rfl rfl rfl (Nat.le_of_ble_eq_true rfl) (by decide) (m_18 (by omega)) (c_X7_utter _ G im bt rt lm 1 (by omega) hR hW who.toNat (by omega) f s g1.2 hs) rfl (kI ?_)
    rintro x12 m' ⟨hx, im2, hR2, hag2, rfl⟩
    refine q_popI (t := 16) F dX8_take_15 rfl ?_
    refine q_goto (t := 71) F dX8_take_16 (by decide) ?_
    refine q_vret F dX8_take_71 rfl ?_
    first
      | (refine ⟨rfl, im2, bt, hbt, hR2, ?_, rfl⟩
         unfold takM
         rw [if_pos (by omega)]
         try rw [Int.toNat_natCast]
         exact hag2.mono (by decide))
      | (refine ⟨rfl, _, bt, hbt, RI_up hR (by constructor <;> omega), ?_, rfl⟩
         unfold takM
         rw [if_neg (by omega), if_pos (by omega)]
         try simp only [Int.toNat_natCast]
         exact ag_rfl _ _)
      | (refine ⟨rfl, _, bt, hbt, RI_hnd hR, ?_, rfl⟩
         unfold takM
         rw [if_neg (by omega), if_neg (by omega), if_pos (by omega)]
         try simp only [Int.toNat_natCast]
         exact ag_rfl _ _)
      | (refine ⟨rfl, im2, bt2, hbt2, hR2, ?_, rfl⟩
         unfold takM
         rw [if_neg (by omega), if_neg (by omega), if_neg (by omega)]
         exact hag2.mono (by decide))

abbrev okA (im : IM) (j : Nat) : Prop := im 7 j 2 % 4 = 0 ∧ ∀ k, k < (im 7 j 2 / 4).toNat → stepB (im 18 0 3) (im 8 j (4 * k)) (im 8 j (4 * k + 1)) (im 8 j (4 * k + 2)) (im 8 j (4 * k + 3)) = 1
/-- the world that is thought of, behind so many steps -/
def plM (im : IM) (j : Nat) : Nat → IM
  | 0 => up (becM im 1 0) 18 1 6 0
  | k + 1 => takM (plM im j k) (im 8 j (4 * k)) (im 8 j (4 * k + 1)) (im 8 j (4 * k + 2)) (im 8 j (4 * k + 3))
theorem plM_s (im : IM) (j k : Nat) : plM im j (k + 1) = takM (plM im j k) (im 8 j (4 * k)) (im 8 j (4 * k + 1)) (im 8 j (4 * k + 2)) (im 8 j (4 * k + 3)) := rfl
def planA (im : IM) (sheet what : Int) : Int := if (0 ≤ sheet ∧ sheet < 4) ∧ 0 ≤ what ∧ what < 2 then (if im 7 sheet.toNat 1 = -1 then -11 else if okA im sheet.toNat then (if what = 0 then plM im sheet.toNat (im 7 sheet.toNat 2 / 4).toNat 18 1 6 else cntA (plM im sheet.toNat (im 7 sheet.toNat 2 / 4).toNat) 1 (im 18 0 3).toNat) else -2) else -2

theorem stepB_in (z act who f s : Int) : stepB z act who f s = 0 ∨ stepB z act who f s = 1 := by
  unfold stepB
  (repeat' split) <;> first | exact Or.inl rfl | exact Or.inr rfl
theorem stepB_01 {z act who f s : Int} (h : ¬ stepB z act who f s = 1) : stepB z act who f s = 0 := by
  rcases stepB_in z act who f s with h2 | h2
  · exact h2
  · exact absurd h2 h

set_option maxHeartbeats 4000000 in
theorem c_X8_isPlan (l : Launch) (G : GS) (im : IM) (bt rt : Nat) (lm : IM) (hR : RI im) (j : Nat) (hj : j < 4) (z0 : 0 ≤ im 7 j 2) (z1 : im 7 j 2 ≤ 40) : Cn l (XC G) yX8_isPlan Y_X8_isPlan [vR 0 0, vR 7 j] (im, rs bt rt, lm) (pI fun x m' => (x = 1 ∧ okA im j ∨ x = 0 ∧ ¬ okA im j) ∧ m' = (im, rs bt rt, lm)) := by
  refine cn_of (by decide) (okC G) rfl (Nat.le_of_ble_eq_true rfl) ?_
  intro M ad hMl F
  subst hMl
  refine wp_pad 1 ?_
  show Wp M (XC G) ad Y_X8_isPlan (pI fun x m' => (x = 1 ∧ okA im j ∨ x = 0 ∧ ¬ okA im j) ∧ m' = (im, rs bt rt, lm)) 0 [some (vR 0 0), some (vR 7 j), none] [] (im, rs bt rt, lm)
  refine q_aload_n (t := 1) F dX8_isPlan_0 rfl rfl rfl ?_
  refine g_X8_231 (t := 4) F dX8_isPlan_1 rfl (by omega) rfl ?_
  refine q_iconst (t := 5) F dX8_isPlan_4 rfl ?_
  refine q_irem (t := 6) F dX8_isPlan_5 (by first | exact hR _ _ _ | (constructor <;> omega)) (by first | exact hR _ _ _ | (constructor <;> omega)) (by omega) (by omega) rfl ?_
  refine q_if_eq (t := 9) (u := 11) F dX8_isPlan_6 (by first | exact hR _ _ _ | (constructor <;> omega)) (by decide) rfl (fun c6 => ?_) (fun c6 => ?_)
  · refine q_iconst (t := 12) F dX8_isPlan_11 rfl ?_
    refine q_istore_n (t := 13) F dX8_isPlan_12 rfl (by decide) rfl rfl ?_
    have L13 : ∀ (fz : Nat) (k : Nat), 10 - k < fz → 4 * (k : Int) ≤ im 7 j 2 → (∀ q, q < k → stepB (im 18 0 3) (im 8 j (4 * q)) (im 8 j (4 * q + 1)) (im 8 j (4 * q + 2)) (im 8 j (4 * q + 3)) = 1) → Wp M (XC G) ad Y_X8_isPlan (pI fun x m' => (x = 1 ∧ okA im j ∨ x = 0 ∧ ¬ okA im j) ∧ m' = (im, rs bt rt, lm)) 13 [some (vR 0 0), some (vR 7 j), some (vI (4 * (k : Int)))] [] (im, rs bt rt, lm) := by
      intro fz
      induction fz with
      | zero => intro k h; exact absurd h (Nat.not_lt_zero _)
      | succ fz ih =>
        have ih13 := ih
        intro k hmeas hk hq
        refine q_iload_n (t := 14) F dX8_isPlan_13 rfl rfl rfl ?_
        refine q_iconst (t := 15) F dX8_isPlan_14 rfl ?_
        refine q_iadd (t := 16) F dX8_isPlan_15 rfl ?_
        refine q_aload_n (t := 17) F dX8_isPlan_16 rfl rfl rfl ?_
        refine g_X8_231 (t := 20) F dX8_isPlan_17 rfl (by omega) rfl ?_
        refine q_icmp_gt (t := 23) (u := 68) F dX8_isPlan_20 (by constructor <;> omega) (by exact hR _ _ _) (by decide) rfl (fun c20 => ?_) (fun c20 => ?_)
        · refine q_iconst (t := 69) F dX8_isPlan_68 rfl ?_
          refine q_zret F dX8_isPlan_69 rfl (by decide) ?_
          exact ⟨_, rfl, Or.inl ⟨rfl, by omega, fun q hq2 => hq q (by omega)⟩, rfl⟩
        · refine q_aload_n (t := 24) F dX8_isPlan_23 rfl rfl rfl ?_
          refine q_aload_n (t := 25) F dX8_isPlan_24 rfl rfl rfl ?_
          refine g_X8_232 (t := 28) F dX8_isPlan_25 rfl (by omega) rfl ?_
          refine q_iload_n (t := 29) F dX8_isPlan_28 rfl rfl rfl ?_
          rw [show (4 * (k : Int)) = ((4 * k : Nat) : Int) by omega]
          first | refine ldN_8 (t := 30) F dX8_isPlan_29 (by omega) (by omega) rfl ?_ | refine ld_8 (t := 30) F dX8_isPlan_29 (by omega) (by omega) (by omega) rfl ?_
          refine q_aload_n (t := 31) F dX8_isPlan_30 rfl rfl rfl ?_
          refine g_X8_232 (t := 34) F dX8_isPlan_31 rfl (by omega) rfl ?_
          refine q_iload_n (t := 35) F dX8_isPlan_34 rfl rfl rfl ?_
          refine q_iconst (t := 36) F dX8_isPlan_35 rfl ?_
          refine q_iadd (t := 37) F dX8_isPlan_36 rfl ?_
          rw [show ((4 * k : Nat) : Int) + 1 = ((4 * k + 1 : Nat) : Int) by omega]
          first | refine ldN_8 (t := 38) F dX8_isPlan_37 (by omega) (by omega) rfl ?_ | refine ld_8 (t := 38) F dX8_isPlan_37 (by omega) (by omega) (by omega) rfl ?_
          refine q_aload_n (t := 39) F dX8_isPlan_38 rfl rfl rfl ?_
          refine g_X8_232 (t := 42) F dX8_isPlan_39 rfl (by omega) rfl ?_
          refine q_iload_n (t := 43) F dX8_isPlan_42 rfl rfl rfl ?_
          refine q_iconst (t := 44) F dX8_isPlan_43 rfl ?_
          refine q_iadd (t := 45) F dX8_isPlan_44 rfl ?_
          rw [show ((4 * k : Nat) : Int) + 2 = ((4 * k + 2 : Nat) : Int) by omega]
          first | refine ldN_8 (t := 46) F dX8_isPlan_45 (by omega) (by omega) rfl ?_ | refine ld_8 (t := 46) F dX8_isPlan_45 (by omega) (by omega) (by omega) rfl ?_
          refine q_aload_n (t := 47) F dX8_isPlan_46 rfl rfl rfl ?_
          refine g_X8_232 (t := 50) F dX8_isPlan_47 rfl (by omega) rfl ?_
          refine q_iload_n (t := 51) F dX8_isPlan_50 rfl rfl rfl ?_
          refine q_iconst (t := 52) F dX8_isPlan_51 rfl ?_
          refine q_iadd (t := 53) F dX8_isPlan_52 rfl ?_
          rw [show ((4 * k : Nat) : Int) + 3 = ((4 * k + 3 : Nat) : Int) by omega]
          first | refine ldN_8 (t := 54) F dX8_isPlan_53 (by omega) (by omega) rfl ?_ | refine ld_8 (t := 54) F dX8_isPlan_53 (by omega) (by omega) (by omega) rfl ?_
          refine wp_callV (t := 57) [_, _, _, _] F dX8_isPlan_54 k_X8_isStep v_X8_isStep ml_X8_240 rfl rfl rfl rfl (Nat.le_of_ble_eq_true rfl) (by decide) (m_0 (by omega)) (c_X8_isStep _ G im bt rt lm hR (im 8 j (4 * k)) (im 8 j (4 * k + 1)) (im 8 j (4 * k + 2)) (im 8 j (4 * k + 3)) (hR _ _ _) (hR _ _ _) (hR _ _ _) (hR _ _ _)) rfl (kI ?_)
          rintro x54 m' ⟨rfl, rfl⟩
          refine q_if_ne (t := 60) (u := 62) F dX8_isPlan_57 (by rcases stepB_in (im 18 0 3) (im 8 j (4 * k)) (im 8 j (4 * k + 1)) (im 8 j (4 * k + 2)) (im 8 j (4 * k + 3)) with h | h <;> rw [h] <;> (constructor <;> omega)) (by decide) rfl (fun c57 => ?_) (fun c57 => ?_)
          · refine q_iinc (t := 65) F dX8_isPlan_62 rfl (by decide) rfl rfl ?_
            refine q_goto (t := 13) F dX8_isPlan_65 (by decide) ?_
            rw [show ((4 * k : Nat) : Int) + 4 = 4 * ((k + 1 : Nat) : Int) by omega]
            refine ih13 (k + 1) (by omega) (by omega) (fun q hq2 => ?_)
            by_cases hqk : q = k
            · subst hqk; by_cases h1 : stepB (im 18 0 3) (im 8 j (4 * q)) (im 8 j (4 * q + 1)) (im 8 j (4 * q + 2)) (im 8 j (4 * q + 3)) = 1
              · exact h1
              · exact absurd (stepB_01 h1) c57
            · exact hq q (by omega)
          · refine q_iconst (t := 61) F dX8_isPlan_60 rfl ?_
            refine q_zret F dX8_isPlan_61 rfl (by decide) ?_
            exact ⟨_, rfl, Or.inr ⟨rfl, fun h => by have := h.2 k (by omega); omega⟩, rfl⟩
    exact L13 _ 0 (Nat.lt_succ_self _) (by omega) (fun q hq => absurd hq (Nat.not_lt_zero _))
  · refine q_iconst (t := 10) F dX8_isPlan_9 rfl ?_
    refine q_zret F dX8_isPlan_10 rfl (by decide) ?_
    exact ⟨_, rfl, Or.inr ⟨rfl, fun h => by have := h.1; omega⟩, rfl⟩

theorem cntA_ag {a b : IM} (h : ∀ p s, a 22 p s = b 22 p s) (w n : Nat) : cntA a w n = cntA b w n := by
  induction n with
  | zero => rfl
  | succ n ih =>
    show cntA a w n + cntW (a 22 (5 * w + n)) 10 = cntA b w n + cntW (b 22 (5 * w + n)) 10
    rw [ih, show a 22 (5 * w + n) = b 22 (5 * w + n) from funext (h _)]

set_option maxHeartbeats 4000000 in
theorem c_X8_plan (l : Launch) (G : GS) (im : IM) (bt rt : Nat) (lm : IM) (hbt : bt < 6) (hrt : rt < 6) (hS : SC im) (sheet : Int) (what : Int) (hsheet : ri sheet) (hwhat : ri what) : Cn l (XC G) yX8_plan Y_X8_plan [vR 0 0, vI sheet, vI what] (im, rs bt rt, lm) (pI fun x m' => x = planA im sheet what ∧ stC lm im m') := by
  refine cn_of (by decide) (okC G) rfl (Nat.le_of_ble_eq_true rfl) ?_
  intro M ad hMl F
  subst hMl
  obtain ⟨hR, hW, hh, htc, hru, hgt, hz, hrd, hsh, him, htp⟩ := hS
  have w1 := hW.1
  have w2 := hW.2.1
  have w3 := hW.2.2.1
  have w4 := hW.2.2.2.1
  have w5 := hW.2.2.2.2.1
  have hsheet1 := hsheet.1
  have hsheet2 := hsheet.2
  have hwhat1 := hwhat.1
  have hwhat2 := hwhat.2
  refine wp_pad 2 ?_
  show Wp M (XC G) ad Y_X8_plan (pI fun x m' => x = planA im sheet what ∧ stC lm im m') 0 [some (vR 0 0), some (vI sheet), some (vI what), none, none] [] (im, rs bt rt, lm)
  refine q_iload_n (t := 1) F dX8_plan_0 rfl rfl rfl ?_
  refine q_iconst (t := 2) F dX8_plan_1 rfl ?_
  refine wp_callS (t := 5) [_, _] F dX8_plan_2 k_X8_within st_X8_within ml_X8_95 rfl rfl (Nat.le_of_ble_eq_true rfl) (by decide) (c_X8_within _ G _ bt rt lm sheet 4 hsheet (by constructor <;> omega)) rfl (kI ?_)
  rintro x2 m' ⟨hx2, rfl⟩
  have hx2 := if01 hx2
  refine q_if_eq (t := 8) (u := 16) F dX8_plan_5 (by first | exact hR _ _ _ | (constructor <;> omega)) (by decide) rfl (fun c5 => ?_) (fun c5 => ?_)
  · refine q_bipush (t := 18) F dX8_plan_16 (by decide) rfl ?_
    refine q_iret F dX8_plan_18 rfl ?_
    refine ⟨_, rfl, ?_, _, bt, rt, hbt, hrt, (by repeat' first | exact hR | refine RI_up ?_ ?_ | assumption | exact hR _ _ _ | (constructor <;> omega)), ?_, rfl⟩
    · unfold planA
      (repeat' split) <;> omega
    · exact agP_rfl _
  · refine q_iload_n (t := 9) F dX8_plan_8 rfl rfl rfl ?_
    refine q_iconst (t := 10) F dX8_plan_9 rfl ?_
    refine wp_callS (t := 13) [_, _] F dX8_plan_10 k_X8_within st_X8_within ml_X8_95 rfl rfl (Nat.le_of_ble_eq_true rfl) (by decide) (c_X8_within _ G _ bt rt lm what 2 hwhat (by constructor <;> omega)) rfl (kI ?_)
    rintro x10 m' ⟨hx10, rfl⟩
    have hx10 := if01 hx10
    refine q_if_ne (t := 16) (u := 19) F dX8_plan_13 (by first | exact hR _ _ _ | (constructor <;> omega)) (by decide) rfl (fun c13 => ?_) (fun c13 => ?_)
    · refine q_aload_n (t := 20) F dX8_plan_19 rfl rfl rfl ?_
      refine g_X8_17 (t := 23) F dX8_plan_20 rfl rfl ?_
      refine q_iload_n (t := 24) F dX8_plan_23 rfl rfl rfl ?_
      obtain ⟨sheet, rfl⟩ : ∃ k : Nat, sheet = (k : Int) := ⟨sheet.toNat, by omega⟩
      have hj : sheet < 4 := by omega
      have hs4 := hsh sheet hj
      first | refine laN_6 (t := 25) F dX8_plan_24 (by omega) rfl ?_ | refine la_6 (t := 25) F dX8_plan_24 (by omega) (by omega) rfl ?_
      refine q_astore_n (t := 26) F dX8_plan_25 rfl (by decide) rfl rfl ?_
      refine q_aload_n (t := 27) F dX8_plan_26 rfl rfl rfl ?_
      refine wp_callV (t := 30) [] F dX8_plan_27 k_X5_isMissing v_X5_isMissing ml_X8_218 rfl rfl rfl rfl (Nat.le_of_ble_eq_true rfl) (by decide) (m_7 (by omega)) (c_X5_isMissing _ G im bt rt lm sheet hj hR) rfl (kI ?_)
      rintro x27 m' ⟨hx27, rfl⟩
      have hx27 := if01 hx27
      refine q_if_eq (t := 33) (u := 36) F dX8_plan_30 (by constructor <;> omega) (by decide) rfl (fun c30 => ?_) (fun c30 => ?_)
      · refine q_aload_n (t := 37) F dX8_plan_36 rfl rfl rfl ?_
        refine q_aload_n (t := 38) F dX8_plan_37 rfl rfl rfl ?_
        refine wp_callV (t := 41) [_] F dX8_plan_38 k_X8_isPlan v_X8_isPlan ml_X8_222 rfl rfl rfl rfl (Nat.le_of_ble_eq_true rfl) (by decide) (m_0 (by omega)) (c_X8_isPlan _ G im bt rt lm hR sheet hj hs4.2.2.1 hs4.2.2.2) rfl (kI ?_)
        rintro x38 m' ⟨hx38, rfl⟩
        refine q_if_ne (t := 44) (u := 47) F dX8_plan_41 (by constructor <;> omega) (by decide) rfl (fun c41 => ?_) (fun c41 => ?_)
        · refine q_aload_n (t := 48) F dX8_plan_47 rfl rfl rfl ?_
          refine g_X8_55 (t := 51) F dX8_plan_48 rfl rfl ?_
          refine q_aload_n (t := 52) F dX8_plan_51 rfl rfl rfl ?_
          refine g_X8_51 (t := 55) F dX8_plan_52 rfl rfl ?_
          refine wp_callV (t := 58) [_] F dX8_plan_55 k_X7_become v_X7_become ml_X8_226 rfl rfl rfl rfl (Nat.le_of_ble_eq_true rfl) (by decide) (m_18 (by omega)) (c_X7_become _ G im bt rt lm 1 0 (by omega) (by omega) (by omega) hR w1.1 w1.2) rfl (kV ?_)
          rintro m' rfl
          have hok : okA im sheet := by
            rcases hx38 with h | h
            · exact h.2
            · omega
          have hWb : WI (up (becM im 1 0) 18 1 6 0) 1 := WI_cells (bec_WI hW) (fun s hs => by rw [up_app, if_neg (by omega)]) (by rw [up_app, if_neg (by omega)]; exact (bec_WI hW).2.1) (fun p s _ => rfl) (fun j s => rfl) (fun j s => rfl) (fun p g h5 hp hg => ((bec_WI hW).2.2.2.2.2 p hp).2.2 g hg)
          have hRb : RI (up (becM im 1 0) 18 1 6 0) := RI_up (RI_bec hR) (by constructor <;> omega)
          have hPb : agP (up (becM im 1 0) 18 1 6 0) im := by
            refine ⟨fun k i t hp => ?_, ?_⟩
            · rw [up_app, if_neg (by unfold per at hp; omega)]
              unfold becM
              rw [becP_app, if_neg (by unfold per at hp; omega), if_neg (by unfold per at hp; omega)]
            · rw [up_app, if_neg (by omega)]
              exact bec_k (by omega) _ _
          refine q_aload_n (t := 59) F dX8_plan_58 rfl rfl rfl ?_
          refine g_X8_55 (t := 62) F dX8_plan_59 rfl rfl ?_
          refine q_iconst (t := 63) F dX8_plan_62 rfl ?_
          refine p_X8_230 (t := 66) F dX8_plan_63 rfl (by omega) rfl ?_
          refine q_iconst (t := 67) F dX8_plan_66 rfl ?_
          refine q_istore (t := 69) F dX8_plan_67 (by decide) rfl rfl ?_
          have L69 : ∀ (fz : Nat) (k : Nat) (im2 : IM) (bt2 : Nat), 10 - k < fz → 4 * (k : Int) ≤ im 7 sheet 2 → bt2 < 6 → RI im2 → WI im2 1 → im2 18 1 3 = im 18 0 3 → im2 18 1 4 ≤ 999 + k → ag lS im2 (plM im sheet k) → agP im2 im → Wp M (XC G) ad Y_X8_plan (pI fun x m' => x = planA im sheet what ∧ stC lm im m') 69 [some (vR 0 0), some (vI (sheet : Int)), some (vI what), some (vR 7 sheet), some (vI (4 * (k : Int)))] [] (im2, rs bt2 rt, lm) := by
            intro fz
            induction fz with
            | zero => intro k im2 bt2 h; exact absurd h (Nat.not_lt_zero _)
            | succ fz ih =>
              have ih69 := ih
              intro k im2 bt2 hmeas hk hbt2 hR2 hW2 hz2 hh2 hag2 hP2
              have e8 : ∀ s, im2 8 sheet s = im 8 sheet s := fun s => hP2.1 8 sheet s (by unfold per; omega)
              have e7 : im2 7 sheet 2 = im 7 sheet 2 := hP2.1 7 sheet 2 (by unfold per; omega)
              refine q_iload (t := 71) F dX8_plan_69 rfl rfl ?_
              refine q_iconst (t := 72) F dX8_plan_71 rfl ?_
              refine q_iadd (t := 73) F dX8_plan_72 rfl ?_
              refine q_aload_n (t := 74) F dX8_plan_73 rfl rfl rfl ?_
              refine g_X8_231 (t := 77) F dX8_plan_74 rfl (by omega) rfl ?_
              try simp only [up_app, row_app, scr_app, cpy_app, Nat.reduceEqDiff, Int.reduceToNat, Int.toNat_natCast, and_true, true_and, and_false, false_and, and_self, reduceIte]
              refine q_icmp_gt (t := 80) (u := 124) F dX8_plan_77 (by constructor <;> omega) (by exact hR2 _ _ _) (by decide) rfl (fun c77 => ?_) (fun c77 => ?_)
              · refine q_iload_n (t := 125) F dX8_plan_124 rfl rfl rfl ?_
                refine q_if_ne (t := 128) (u := 138) F dX8_plan_125 (by first | exact hR _ _ _ | (constructor <;> omega)) (by decide) rfl (fun c125 => ?_) (fun c125 => ?_)
                · refine q_aload_n (t := 139) F dX8_plan_138 rfl rfl rfl ?_
                  refine g_X8_55 (t := 142) F dX8_plan_139 rfl rfl ?_
                  refine wp_callV (t := 145) [] F dX8_plan_142 k_X7_stuckInAll v_X7_stuckInAll ml_X8_239 rfl rfl rfl rfl (Nat.le_of_ble_eq_true rfl) (by decide) (m_18 (by omega)) (c_X7_stuckInAll _ G im2 bt2 rt lm 1 (by omega) hR2 (by omega) (by omega)) rfl (kI ?_)
                  rintro x142 m' ⟨rfl, rfl⟩
                  refine q_iret F dX8_plan_145 rfl ?_
                  refine ⟨_, rfl, ?_, im2, bt2, rt, hbt2, hrt, hR2, hP2, rfl⟩
                  have hkk : (im 7 sheet 2 / 4).toNat = k := by have := hok.1; omega
                  unfold planA
                  simp only [Int.toNat_natCast]
                  first
                    | (rw [if_pos (by omega), if_neg (by omega), if_pos hok, if_pos (by omega), hkk]
                       exact hag2 18 (by decide) 1 6)
                    | (rw [if_pos (by omega), if_neg (by omega), if_pos hok, if_neg (by omega), hkk, hz2]
                       exact cntA_ag (fun p s => hag2 22 (by decide) p s) _ _)
                · refine q_aload_n (t := 129) F dX8_plan_128 rfl rfl rfl ?_
                  refine g_X8_55 (t := 132) F dX8_plan_129 rfl rfl ?_
                  refine g_X8_230 (t := 135) F dX8_plan_132 rfl (by omega) rfl ?_
                  try simp only [up_app, row_app, scr_app, cpy_app, Nat.reduceEqDiff, Int.reduceToNat, Int.toNat_natCast, and_true, true_and, and_false, false_and, and_self, reduceIte]
                  refine q_goto (t := 145) F dX8_plan_135 (by decide) ?_
                  refine q_iret F dX8_plan_145 rfl ?_
                  refine ⟨_, rfl, ?_, im2, bt2, rt, hbt2, hrt, hR2, hP2, rfl⟩
                  have hkk : (im 7 sheet 2 / 4).toNat = k := by have := hok.1; omega
                  unfold planA
                  simp only [Int.toNat_natCast]
                  first
                    | (rw [if_pos (by omega), if_neg (by omega), if_pos hok, if_pos (by omega), hkk]
                       exact hag2 18 (by decide) 1 6)
                    | (rw [if_pos (by omega), if_neg (by omega), if_pos hok, if_neg (by omega), hkk, hz2]
                       exact cntA_ag (fun p s => hag2 22 (by decide) p s) _ _)
              · refine q_aload_n (t := 81) F dX8_plan_80 rfl rfl rfl ?_
                refine q_aload_n (t := 82) F dX8_plan_81 rfl rfl rfl ?_
                refine g_X8_232 (t := 85) F dX8_plan_82 rfl (by omega) rfl ?_
                refine q_iload (t := 87) F dX8_plan_85 rfl rfl ?_
                rw [show (4 * (k : Int)) = ((4 * k : Nat) : Int) by omega]
                first | refine ldN_8 (t := 88) F dX8_plan_87 (by omega) (by omega) rfl ?_ | refine ld_8 (t := 88) F dX8_plan_87 (by omega) (by omega) (by omega) rfl ?_
                try simp only [up_app, row_app, scr_app, cpy_app, Nat.reduceEqDiff, Int.reduceToNat, Int.toNat_natCast, and_true, true_and, and_false, false_and, and_self, reduceIte]
                rw [e8 (4 * k)]
                refine q_aload_n (t := 89) F dX8_plan_88 rfl rfl rfl ?_
                refine g_X8_232 (t := 92) F dX8_plan_89 rfl (by omega) rfl ?_
                refine q_iload (t := 94) F dX8_plan_92 rfl rfl ?_
                refine q_iconst (t := 95) F dX8_plan_94 rfl ?_
                refine q_iadd (t := 96) F dX8_plan_95 rfl ?_
                rw [show ((4 * k : Nat) : Int) + 1 = ((4 * k + 1 : Nat) : Int) by omega]
                first | refine ldN_8 (t := 97) F dX8_plan_96 (by omega) (by omega) rfl ?_ | refine ld_8 (t := 97) F dX8_plan_96 (by omega) (by omega) (by omega) rfl ?_
                try simp only [up_app, row_app, scr_app, cpy_app, Nat.reduceEqDiff, Int.reduceToNat, Int.toNat_natCast, and_true, true_and, and_false, false_and, and_self, reduceIte]
                rw [e8 (4 * k + 1)]
                refine q_aload_n (t := 98) F dX8_plan_97 rfl rfl rfl ?_
                refine g_X8_232 (t := 101) F dX8_plan_98 rfl (by omega) rfl ?_
                refine q_iload (t := 103) F dX8_plan_101 rfl rfl ?_
                refine q_iconst (t := 104) F dX8_plan_103 rfl ?_
                refine q_iadd (t := 105) F dX8_plan_104 rfl ?_
                rw [show ((4 * k : Nat) : Int) + 2 = ((4 * k + 2 : Nat) : Int) by omega]
                first | refine ldN_8 (t := 106) F dX8_plan_105 (by omega) (by omega) rfl ?_ | refine ld_8 (t := 106) F dX8_plan_105 (by omega) (by omega) (by omega) rfl ?_
                try simp only [up_app, row_app, scr_app, cpy_app, Nat.reduceEqDiff, Int.reduceToNat, Int.toNat_natCast, and_true, true_and, and_false, false_and, and_self, reduceIte]
                rw [e8 (4 * k + 2)]
                refine q_aload_n (t := 107) F dX8_plan_106 rfl rfl rfl ?_
                refine g_X8_232 (t := 110) F dX8_plan_107 rfl (by omega) rfl ?_
                refine q_iload (t := 112) F dX8_plan_110 rfl rfl ?_
                refine q_iconst (t := 113) F dX8_plan_112 rfl ?_
                refine q_iadd (t := 114) F dX8_plan_113 rfl ?_
                rw [show ((4 * k : Nat) : Int) + 3 = ((4 * k + 3 : Nat) : Int) by omega]
                first | refine ldN_8 (t := 115) F dX8_plan_114 (by omega) (by omega) rfl ?_ | refine ld_8 (t := 115) F dX8_plan_114 (by omega) (by omega) (by omega) rfl ?_
                try simp only [up_app, row_app, scr_app, cpy_app, Nat.reduceEqDiff, Int.reduceToNat, Int.toNat_natCast, and_true, true_and, and_false, false_and, and_self, reduceIte]
                rw [e8 (4 * k + 3)]
                have hst : stepB (im2 18 1 3) (im 8 sheet (4 * k)) (im 8 sheet (4 * k + 1)) (im 8 sheet (4 * k + 2)) (im 8 sheet (4 * k + 3)) = 1 := by rw [hz2]; exact hok.2 k (by omega)
                refine wp_callV (t := 118) [_, _, _, _] F dX8_plan_115 k_X8_take v_X8_take ml_X8_235 rfl rfl rfl rfl (Nat.le_of_ble_eq_true rfl) (by decide) (m_0 (by omega)) (c_X8_take _ G im2 bt2 rt lm hbt2 hR2 hW2 (im 8 sheet (4 * k)) (im 8 sheet (4 * k + 1)) (im 8 sheet (4 * k + 2)) (im 8 sheet (4 * k + 3)) (hR _ _ _) (hR _ _ _) (hR _ _ _) (hR _ _ _) hst) rfl (kV ?_)
                rintro m' ⟨im3, bt3, hbt3, hR3, hag3, rfl⟩
                refine q_iinc (t := 121) F dX8_plan_118 rfl (by decide) rfl rfl ?_
                refine q_goto (t := 69) F dX8_plan_121 (by decide) ?_
                rw [show ((4 * k : Nat) : Int) + 4 = 4 * ((k + 1 : Nat) : Int) by omega]
                have ht := @takM_18 im2 (im 8 sheet (4 * k)) (im 8 sheet (4 * k + 1)) (im 8 sheet (4 * k + 2)) (im 8 sheet (4 * k + 3))
                refine ih69 (k + 1) im3 bt3 (by omega) (by omega) hbt3 hR3 (WI_ag hag3 (by decide) (by decide) (by decide) (by decide) (by decide) (by decide) (takM_WI hW2 (by omega) hst)) ?_ ?_ ?_ ?_
                · rw [hag3 18 (by decide), ht.1, hz2]
                · rw [hag3 18 (by decide)]
                  have := ht.2
                  rw [if_neg (by omega)] at this
                  omega
                · rw [plM_s]
                  exact hag3.trans (takM_ag hag2 _ _ _ _)
                · exact (agP_of (hag3.mono (by decide))).trans ((takM_agP hW2 hst).trans hP2)
          exact L69 _ 0 (up (becM im 1 0) 18 1 6 0) bt (Nat.lt_succ_self _) (by omega) hbt hRb hWb (by rw [up_app, if_neg (by omega)]; exact bec_18 (by omega)) (by rw [up_app, if_neg (by omega), show becM im 1 0 18 1 4 = im 18 0 4 from bec_18 (by omega)]; omega) (ag_rfl _ _) hPb
        · refine q_bipush (t := 46) F dX8_plan_44 (by decide) rfl ?_
          refine q_iret F dX8_plan_46 rfl ?_
          refine ⟨_, rfl, ?_, _, bt, rt, hbt, hrt, hR, agP_rfl _, rfl⟩
          have hnok : ¬ okA im sheet := by
            rcases hx38 with h | h
            · omega
            · exact h.2
          unfold planA
          rw [if_pos (by omega), if_neg (by rw [Int.toNat_natCast]; omega), if_neg (by rw [Int.toNat_natCast]; exact hnok)]
      · refine q_bipush (t := 35) F dX8_plan_33 (by decide) rfl ?_
        refine q_iret F dX8_plan_35 rfl ?_
        refine ⟨_, rfl, ?_, _, bt, rt, hbt, hrt, hR, agP_rfl _, rfl⟩
        unfold planA
        rw [if_pos (by omega), if_pos (by rw [Int.toNat_natCast]; omega)]
    · refine q_bipush (t := 18) F dX8_plan_16 (by decide) rfl ?_
      refine q_iret F dX8_plan_18 rfl ?_
      refine ⟨_, rfl, ?_, _, bt, rt, hbt, hrt, (by repeat' first | exact hR | refine RI_up ?_ ?_ | assumption | exact hR _ _ _ | (constructor <;> omega)), ?_, rfl⟩
      · unfold planA
        (repeat' split) <;> omega
      · exact agP_rfl _
