/-! drawn, chance -/
def dwZ (seed : Int) : Nat → Int
  | 0 => seed
  | i + 1 => bm (dwZ seed i * 1103515245 + 12345)
def dwF (seed : Int) (i : Nat) : Int := dwZ seed (i + 1) % 4294967296 / 512 % 10
def dwI (im : IM) (man : Nat) (seed : Int) : Nat → IM
  | 0 => becM im 1 0
  | i + 1 => uttM (dwI im man seed i) 1 man i (dwF seed i)
def dwN (im : IM) (man : Nat) (seed : Int) : Nat → Int
  | 0 => 0
  | i + 1 => if uttW (dwI im man seed i) 1 man i (dwF seed i) = -1 then dwN im man seed i else dwN im man seed i + 1
theorem dwI_s (im : IM) (man : Nat) (seed : Int) (i : Nat) : dwI im man seed (i + 1) = uttM (dwI im man seed i) 1 man i (dwF seed i) := rfl
theorem dwN_s (im : IM) (man : Nat) (seed : Int) (i : Nat) : dwN im man seed (i + 1) = if uttW (dwI im man seed i) 1 man i (dwF seed i) = -1 then dwN im man seed i else dwN im man seed i + 1 := rfl
theorem dwN_in (im : IM) (man : Nat) (seed : Int) (i : Nat) : 0 ≤ dwN im man seed i ∧ dwN im man seed i ≤ i := by
  induction i with
  | zero => exact ⟨Int.le_refl 0, Int.le_refl 0⟩
  | succ i ih =>
    rw [dwN_s]
    split <;> omega
theorem dwF_in (seed : Int) (i : Nat) : 0 ≤ dwF seed i ∧ dwF seed i < 10 := by
  unfold dwF
  omega
/-- one world, as far as it counts -/
def eqW (a b : IM) (w : Nat) : Prop := (∀ s, 3 ≤ s → s ≤ 7 → a 18 w s = b 18 w s) ∧ (∀ p k s : Nat, (p : Int) < b 18 w 3 → (k = 21 ∧ s < 2 ∨ (k = 22 ∨ k = 23) ∧ s < 10) → a k (5 * w + p) s = b k (5 * w + p) s) ∧ ∀ k j s, (k = 3 ∨ k = 4) → a k j s = b k j s
theorem cntW_c {f g : Nat → Int} (n : Nat) (h : ∀ s, s < n → f s = g s) : cntW f n = cntW g n := by
  induction n with
  | zero => rfl
  | succ n ih =>
    show cntW f n + (if f n = -1 then 0 else 1) = cntW g n + (if g n = -1 then 0 else 1)
    rw [ih (fun s hs => h s (by omega)), h n (by omega)]
theorem takesW_eq {a b : IM} {w man : Nat} (h : eqW a b w) (hm : (man : Int) < b 18 w 3) (word food : Int) : takesW a w man word food = takesW b w man word food := by
  have e22 : cntW (a 22 (5 * w + man)) 10 = cntW (b 22 (5 * w + man)) 10 := cntW_c 10 (fun s hs => h.2.1 man 22 s hm (by omega))
  unfold takesW nmW
  rw [h.1 7 (by omega) (by omega), h.1 4 (by omega) (by omega), h.2.1 man 21 0 hm (by omega), h.2.1 man 21 1 hm (by omega), e22, tellV_congr (fun s => h.2.2 3 _ s (by omega)) (fun s => h.2.2 4 _ s (by omega))]
theorem uttW_eq {a b : IM} {w man : Nat} (h : eqW a b w) (hm : (man : Int) < b 18 w 3) (word food : Int) : uttW a w man word food = uttW b w man word food := by
  have ht := takesW_in b w man word food
  unfold uttW
  rw [takesW_eq h hm, h.2.1 man 22 _ hm (by omega)]
theorem uttM_eq {a b : IM} {w man : Nat} (h : eqW a b w) (hm : (man : Int) < b 18 w 3) (word food : Int) : eqW (uttM a w man word food) (uttM b w man word food) w := by
  refine ⟨fun s h3 h7 => ?_, fun p k s hp hk => ?_, fun k j s hk => ?_⟩
  · rw [utt_o _ _ _ _ _ (by omega), utt_o _ _ _ _ _ (by omega)]; exact h.1 s h3 h7
  · rw [utt_o _ _ _ _ _ (by omega)] at hp
    have e := h.2.1 p k s hp hk
    unfold uttM
    rw [uttW_eq h hm]
    split
    · exact e
    · simp only [up_app]
      (repeat' split) <;> first | rfl | exact e
  · rw [utt_o _ _ _ _ _ (by omega), utt_o _ _ _ _ _ (by omega)]; exact h.2.2 k j s hk
theorem bec_eq {a b : IM} (h : agP a b) (hW : WI b 0) : eqW (becM a 1 0) (becM b 1 0) 1 := by
  have w1 := hW.1
  have e18 : ∀ s, a 18 0 s = b 18 0 s := fun s => h.1 18 0 s (by unfold per; omega)
  unfold becM
  rw [e18]
  refine ⟨fun s h3 h7 => ?_, fun p k s hp hk => ?_, fun k j s hk => ?_⟩
  · rw [bec_18 ⟨h3, h7⟩, bec_18 ⟨h3, h7⟩, e18]
  · rw [bec_18 (by omega)] at hp
    rw [bec_c (by omega) (by omega), bec_c (by omega) (by omega)]
    exact h.1 k _ s (by unfold per; omega)
  · rw [bec_k (by omega), bec_k (by omega)]
    exact h.1 k j s (by unfold per; omega)
theorem dw_eq {a b : IM} (h : agP a b) (hW : WI b 0) {man : Nat} (hm : (man : Int) < b 18 0 3) (seed : Int) (i : Nat) : eqW (dwI a man seed i) (dwI b man seed i) 1 ∧ dwI b man seed i 18 1 3 = b 18 0 3 ∧ dwN a man seed i = dwN b man seed i := by
  induction i with
  | zero => exact ⟨bec_eq h hW, by show becM b 1 0 18 1 3 = _; unfold becM; rw [bec_18 (by omega)], rfl⟩
  | succ i ih =>
    obtain ⟨h1, h2, h3⟩ := ih
    have hm2 : (man : Int) < dwI b man seed i 18 1 3 := by omega
    refine ⟨?_, ?_, ?_⟩
    · rw [dwI_s, dwI_s]; exact uttM_eq h1 hm2 _ _
    · rw [dwI_s, utt_o _ _ _ _ _ (by omega)]; exact h2
    · rw [dwN_s, dwN_s, uttW_eq h1 hm2, h3]
def drawnA (im : IM) (man seed n : Int) : Int := if (0 ≤ man ∧ man < im 18 0 3) ∧ 0 ≤ n ∧ n ≤ 16 then dwN im man.toNat seed n.toNat else -2

theorem uttW_in (im : IM) (w man : Nat) (word food : Int) : -1 ≤ uttW im w man word food ∧ uttW im w man word food ≤ 9 := by
  have := takesW_in im w man word food
  unfold uttW
  split <;> omega

set_option maxHeartbeats 4000000 in
theorem c_X8_stuckByDraw (l : Launch) (G : GS) (im : IM) (bt rt : Nat) (lm : IM) (hbt : bt < 6) (hrt : rt < 6) (hS : SC im) (man n : Nat) (hm : (man : Int) < im 18 0 3) (hn : n ≤ 16) (seed : Int) (hseed : ri seed) : Cn l (XC G) yX8_stuckByDraw Y_X8_stuckByDraw [vR 0 0, vI (man : Int), vI seed, vI (n : Int)] (im, rs bt rt, lm) (pI fun x m' => x = dwN im man seed n ∧ stC lm im m') := by
  refine cn_of (by decide) (okC G) rfl (Nat.le_of_ble_eq_true rfl) ?_
  intro M ad hMl F
  subst hMl
  obtain ⟨hR, hW, hh, htc, hru, hgt, hz, hrd, hsh, him, htp⟩ := hS
  have w1 := hW.1
  have w2 := hW.2.1
  have w3 := hW.2.2.1
  have w4 := hW.2.2.2.1
  have w5 := hW.2.2.2.2.1
  have hWb : WI (becM im 1 0) 1 := bec_WI hW
  have hPb : agP (becM im 1 0) im := by
    refine ⟨fun k i t hp => ?_, bec_k (by omega) _ _⟩
    unfold becM
    rw [becP_app, if_neg (by unfold per at hp; omega), if_neg (by unfold per at hp; omega)]
  refine wp_pad 3 ?_
  show Wp M (XC G) ad Y_X8_stuckByDraw (pI fun x m' => x = dwN im man seed n ∧ stC lm im m') 0 [some (vR 0 0), some (vI (man : Int)), some (vI seed), some (vI (n : Int)), none, none, none] [] (im, rs bt rt, lm)
  refine q_aload_n (t := 1) F dX8_stuckByDraw_0 rfl rfl rfl ?_
  refine g_X8_55 (t := 4) F dX8_stuckByDraw_1 rfl rfl ?_
  refine q_aload_n (t := 5) F dX8_stuckByDraw_4 rfl rfl rfl ?_
  refine g_X8_51 (t := 8) F dX8_stuckByDraw_5 rfl rfl ?_
  refine wp_callV (t := 11) [_] F dX8_stuckByDraw_8 k_X7_become v_X7_become ml_X8_226 rfl rfl rfl rfl (Nat.le_of_ble_eq_true rfl) (by decide) (m_18 (by omega)) (c_X7_become _ G im bt rt lm 1 0 (by omega) (by omega) (by omega) hR w1.1 w1.2) rfl (kV ?_)
  rintro m' rfl
  refine q_iconst (t := 12) F dX8_stuckByDraw_11 rfl ?_
  refine q_istore (t := 14) F dX8_stuckByDraw_12 (by decide) rfl rfl ?_
  refine q_iload_n (t := 15) F dX8_stuckByDraw_14 rfl rfl rfl ?_
  refine q_istore (t := 17) F dX8_stuckByDraw_15 (by decide) rfl rfl ?_
  refine q_iconst (t := 18) F dX8_stuckByDraw_17 rfl ?_
  refine q_istore (t := 20) F dX8_stuckByDraw_18 (by decide) rfl rfl ?_
  have L20 : ∀ (fz : Nat) (i : Nat) (im2 : IM), n - i < fz → i ≤ n → RI im2 → WI im2 1 → im2 18 1 3 = im 18 0 3 → ag lS im2 (dwI im man seed i) → agP im2 im → Wp M (XC G) ad Y_X8_stuckByDraw (pI fun x m' => x = dwN im man seed n ∧ stC lm im m') 20 [some (vR 0 0), some (vI (man : Int)), some (vI seed), some (vI (n : Int)), some (vI (dwN im man seed i)), some (vI (dwZ seed i)), some (vI (i : Int))] [] (im2, rs bt rt, lm) := by
    intro fz
    induction fz with
    | zero => intro i im2 h; exact absurd h (Nat.not_lt_zero _)
    | succ fz ih =>
      have ih20 := ih
      intro i im2 hmeas hi hR2 hW2 hz2 hag2 hP2
      refine q_iload (t := 22) F dX8_stuckByDraw_20 rfl rfl ?_
      refine q_iload_n (t := 23) F dX8_stuckByDraw_22 rfl rfl rfl ?_
      refine q_icmp_ge (t := 26) (u := 69) F dX8_stuckByDraw_23 (by first | exact hR _ _ _ | (constructor <;> omega)) (by first | exact hR _ _ _ | (constructor <;> omega)) (by decide) rfl (fun c23 => ?_) (fun c23 => ?_)
      · refine q_iload (t := 71) F dX8_stuckByDraw_69 rfl rfl ?_
        refine q_iret F dX8_stuckByDraw_71 rfl ?_
        obtain rfl : i = n := by omega
        exact ⟨_, rfl, rfl, im2, bt, rt, hbt, hrt, hR2, hP2, rfl⟩
      · refine q_iload (t := 28) F dX8_stuckByDraw_26 rfl rfl ?_
        refine q_ldcw (t := 31) (x := 1103515245) F dX8_stuckByDraw_28 ki_X8_271 (by decide) rfl ?_
        refine q_imul (t := 32) F dX8_stuckByDraw_31 rfl ?_
        refine q_sipush (t := 35) F dX8_stuckByDraw_32 (by decide) rfl ?_
        refine q_iadd (t := 36) F dX8_stuckByDraw_35 rfl ?_
        refine q_norm ?_
        refine q_istore (t := 38) F dX8_stuckByDraw_36 (by decide) rfl rfl ?_
        refine q_aload_n (t := 39) F dX8_stuckByDraw_38 rfl rfl rfl ?_
        refine g_X8_55 (t := 42) F dX8_stuckByDraw_39 rfl rfl ?_
        refine q_iload_n (t := 43) F dX8_stuckByDraw_42 rfl rfl rfl ?_
        refine q_iload (t := 45) F dX8_stuckByDraw_43 rfl rfl ?_
        refine q_iload (t := 47) F dX8_stuckByDraw_45 rfl rfl ?_
        refine q_bipush (t := 49) F dX8_stuckByDraw_47 (by decide) rfl ?_
        refine q_iushr (t := 50) F dX8_stuckByDraw_49 (by omega) (by omega) rfl ?_
        rw [show (2 : Int) ^ (9 : Int).toNat = 512 from rfl]
        refine q_bipush (t := 52) F dX8_stuckByDraw_50 (by decide) rfl ?_
        refine q_irem (t := 53) F dX8_stuckByDraw_52 (by constructor <;> omega) (by constructor <;> omega) (by omega) (by omega) rfl ?_
        rw [show bm (dwZ seed i * 1103515245 + 12345) % 4294967296 / 512 % 10 = dwF seed i from rfl]
        refine wp_callV (t := 56) [_, _, _] F dX8_stuckByDraw_53 k_X7_utter v_X7_utter ml_X8_150 rfl rfl rfl rfl (Nat.le_of_ble_eq_true rfl) (by decide) (m_18 (by omega)) (c_X7_utter _ G im2 bt rt lm 1 (by omega) hR2 hW2 man (by omega) (i : Int) (dwF seed i) (by omega) (by have := dwF_in seed i; constructor <;> omega)) rfl (kI ?_)
        rintro x53 m' ⟨hx53, im3, hR3, hag3, rfl⟩
        rw [uttW_ag hag2] at hx53
        have hui := uttW_in im2 1 man (i : Int) (dwF seed i)
        rw [uttW_ag hag2] at hui
        refine q_iconst (t := 57) F dX8_stuckByDraw_56 rfl ?_
        refine q_icmp_eq (t := 60) (u := 63) F dX8_stuckByDraw_57 (by constructor <;> omega) (by constructor <;> omega) (by decide) rfl (fun c57 => ?_) (fun c57 => ?_)
        · refine q_iinc (t := 66) F dX8_stuckByDraw_63 rfl (by decide) rfl rfl ?_
          refine q_goto (t := 20) F dX8_stuckByDraw_66 (by decide) ?_
          have hP3 : agP im3 im := (agP_of (hag3.mono (by decide))).trans (⟨fun k j t hp => (utt_o _ _ _ _ _ (by unfold per at hp; omega)), utt_o _ _ _ _ _ (by omega)⟩ : agP (uttM im2 1 man (i : Int) (dwF seed i)) im2) |>.trans hP2
          have hW3 : WI im3 1 := WI_ag hag3 (by decide) (by decide) (by decide) (by decide) (by decide) (by decide) (utt_WI hW2 (by omega))
          have hz3 : im3 18 1 3 = im 18 0 3 := by rw [hag3 18 (by decide), utt_o _ _ _ _ _ (by omega), hz2]
          have hag4 : ag lS im3 (dwI im man seed (i + 1)) := (hag3.mono (by decide)).trans (uttM_ag hag2 _ _ _ _)
          first
            | (rw [show dwN im man seed i = dwN im man seed (i + 1) from by rw [dwN_s, if_pos (by omega)]]
               exact ih20 (i + 1) im3 (by omega) (by omega) hR3 hW3 hz3 hag4 hP3)
            | (rw [show dwN im man seed i + 1 = dwN im man seed (i + 1) from by rw [dwN_s, if_neg (by omega)]]
               exact ih20 (i + 1) im3 (by omega) (by omega) hR3 hW3 hz3 hag4 hP3)
        · refine q_iinc (t := 63) F dX8_stuckByDraw_60 rfl (by decide) rfl rfl ?_
          refine q_iinc (t := 66) F dX8_stuckByDraw_63 rfl (by decide) rfl rfl ?_
          refine q_goto (t := 20) F dX8_stuckByDraw_66 (by decide) ?_
          have hP3 : agP im3 im := (agP_of (hag3.mono (by decide))).trans (⟨fun k j t hp => (utt_o _ _ _ _ _ (by unfold per at hp; omega)), utt_o _ _ _ _ _ (by omega)⟩ : agP (uttM im2 1 man (i : Int) (dwF seed i)) im2) |>.trans hP2
          have hW3 : WI im3 1 := WI_ag hag3 (by decide) (by decide) (by decide) (by decide) (by decide) (by decide) (utt_WI hW2 (by omega))
          have hz3 : im3 18 1 3 = im 18 0 3 := by rw [hag3 18 (by decide), utt_o _ _ _ _ _ (by omega), hz2]
          have hag4 : ag lS im3 (dwI im man seed (i + 1)) := (hag3.mono (by decide)).trans (uttM_ag hag2 _ _ _ _)
          first
            | (rw [show dwN im man seed i = dwN im man seed (i + 1) from by rw [dwN_s, if_pos (by omega)]]
               exact ih20 (i + 1) im3 (by omega) (by omega) hR3 hW3 hz3 hag4 hP3)
            | (rw [show dwN im man seed i + 1 = dwN im man seed (i + 1) from by rw [dwN_s, if_neg (by omega)]]
               exact ih20 (i + 1) im3 (by omega) (by omega) hR3 hW3 hz3 hag4 hP3)
  exact L20 _ 0 _ (Nat.lt_succ_self _) (by omega) (RI_bec hR) hWb (bec_18 (by omega)) (ag_rfl _ _) hPb

set_option maxHeartbeats 4000000 in
theorem c_X8_drawn (l : Launch) (G : GS) (im : IM) (bt rt : Nat) (lm : IM) (hbt : bt < 6) (hrt : rt < 6) (hS : SC im) (man : Int) (seed : Int) (n : Int) (hman : ri man) (hseed : ri seed) (hn : ri n) : Cn l (XC G) yX8_drawn Y_X8_drawn [vR 0 0, vI man, vI seed, vI n] (im, rs bt rt, lm) (pI fun x m' => x = drawnA im man seed n ∧ stC lm im m') := by
  refine cn_of (by decide) (okC G) rfl (Nat.le_of_ble_eq_true rfl) ?_
  intro M ad hMl F
  subst hMl
  obtain ⟨hR, hW, hh, htc, hru, hgt, hz, hrd, hsh, him, htp⟩ := hS
  have w1 := hW.1
  have w2 := hW.2.1
  have w3 := hW.2.2.1
  have w4 := hW.2.2.2.1
  have w5 := hW.2.2.2.2.1
  have hman1 := hman.1
  have hman2 := hman.2
  have hseed1 := hseed.1
  have hseed2 := hseed.2
  have hn1 := hn.1
  have hn2 := hn.2
  refine wp_pad 0 ?_
  show Wp M (XC G) ad Y_X8_drawn (pI fun x m' => x = drawnA im man seed n ∧ stC lm im m') 0 [some (vR 0 0), some (vI man), some (vI seed), some (vI n)] [] (im, rs bt rt, lm)
  refine q_aload_n (t := 1) F dX8_drawn_0 rfl rfl rfl ?_
  refine q_iload_n (t := 2) F dX8_drawn_1 rfl rfl rfl ?_
  refine wp_callV (t := 5) [_] F dX8_drawn_2 k_X8_isOne v_X8_isOne ml_X8_91 rfl rfl rfl rfl (Nat.le_of_ble_eq_true rfl) (by decide) (m_0 (by omega)) (c_X8_isOne _ G _ bt rt lm man hman hR) rfl (kI ?_)
  rintro x2 m' ⟨hx2, rfl⟩
  have hx2 := if01 hx2
  refine q_if_eq (t := 8) (u := 18) F dX8_drawn_5 (by first | exact hR _ _ _ | (constructor <;> omega)) (by decide) rfl (fun c5 => ?_) (fun c5 => ?_)
  · refine q_bipush (t := 20) F dX8_drawn_18 (by decide) rfl ?_
    refine q_iret F dX8_drawn_20 rfl ?_
    refine ⟨_, rfl, ?_, _, bt, rt, hbt, hrt, (by repeat' first | exact hR | refine RI_up ?_ ?_ | assumption | exact hR _ _ _ | (constructor <;> omega)), ?_, rfl⟩
    · unfold drawnA
      (repeat' split) <;> omega
    · exact agP_rfl _
  · refine q_iload_n (t := 9) F dX8_drawn_8 rfl rfl rfl ?_
    refine q_if_lt (t := 12) (u := 18) F dX8_drawn_9 (by first | exact hR _ _ _ | (constructor <;> omega)) (by decide) rfl (fun c9 => ?_) (fun c9 => ?_)
    · refine q_bipush (t := 20) F dX8_drawn_18 (by decide) rfl ?_
      refine q_iret F dX8_drawn_20 rfl ?_
      refine ⟨_, rfl, ?_, _, bt, rt, hbt, hrt, (by repeat' first | exact hR | refine RI_up ?_ ?_ | assumption | exact hR _ _ _ | (constructor <;> omega)), ?_, rfl⟩
      · unfold drawnA
        (repeat' split) <;> omega
      · exact agP_rfl _
    · refine q_iload_n (t := 13) F dX8_drawn_12 rfl rfl rfl ?_
      refine q_bipush (t := 15) F dX8_drawn_13 (by decide) rfl ?_
      refine q_icmp_le (t := 18) (u := 21) F dX8_drawn_15 (by first | exact hR _ _ _ | (constructor <;> omega)) (by first | exact hR _ _ _ | (constructor <;> omega)) (by decide) rfl (fun c15 => ?_) (fun c15 => ?_)
      · obtain ⟨man, rfl⟩ : ∃ k : Nat, man = (k : Int) := ⟨man.toNat, by omega⟩
        obtain ⟨n, rfl⟩ : ∃ k : Nat, n = (k : Int) := ⟨n.toNat, by omega⟩
        refine q_aload_n (t := 22) F dX8_drawn_21 rfl rfl rfl ?_
        refine q_iload_n (t := 23) F dX8_drawn_22 rfl rfl rfl ?_
        refine q_iload_n (t := 24) F dX8_drawn_23 rfl rfl rfl ?_
        refine q_iload_n (t := 25) F dX8_drawn_24 rfl rfl rfl ?_
        refine wp_callV (t := 28) [_, _, _] F dX8_drawn_25 k_X8_stuckByDraw v_X8_stuckByDraw ml_X8_268 rfl rfl rfl rfl (Nat.le_of_ble_eq_true rfl) (by decide) (m_0 (by omega)) (c_X8_stuckByDraw _ G im bt rt lm hbt hrt ⟨hR, hW, hh, htc, hru, hgt, hz, hrd, hsh, him, htp⟩ man n (by omega) (by omega) seed hseed) rfl (kI ?_)
        rintro x25 m' ⟨hx, hst⟩
        refine q_iret F dX8_drawn_28 rfl ?_
        refine ⟨_, rfl, ?_, hst⟩
        unfold drawnA
        simp only [Int.toNat_natCast]
        rw [if_pos (by omega), hx]
      · refine q_bipush (t := 20) F dX8_drawn_18 (by decide) rfl ?_
        refine q_iret F dX8_drawn_20 rfl ?_
        refine ⟨_, rfl, ?_, _, bt, rt, hbt, hrt, (by repeat' first | exact hR | refine RI_up ?_ ?_ | assumption | exact hR _ _ _ | (constructor <;> omega)), ?_, rfl⟩
        · unfold drawnA
          (repeat' split) <;> omega
        · exact agP_rfl _

def cdF (h n : Int) : Nat → Int
  | 0 => 1
  | d + 1 => if 1 < d + 1 ∧ h % ((d + 1 : Nat) : Int) = 0 ∧ n % ((d + 1 : Nat) : Int) = 0 then ((d + 1 : Nat) : Int) else cdF h n d
theorem cdF_s (h n : Int) (d : Nat) : cdF h n (d + 1) = if 1 < d + 1 ∧ h % ((d + 1 : Nat) : Int) = 0 ∧ n % ((d + 1 : Nat) : Int) = 0 then ((d + 1 : Nat) : Int) else cdF h n d := rfl
theorem cdF_in (h n : Int) (d : Nat) : 1 ≤ cdF h n d ∧ (cdF h n d ≤ d ∨ cdF h n d = 1) := by
  induction d with
  | zero => exact ⟨Int.le_refl 1, Or.inr rfl⟩
  | succ d ih =>
    rw [cdF_s]
    split <;> omega
def hitF (im : IM) (man : Nat) (seed : Int) : Nat → Int
  | 0 => 0
  | i + 1 => if 5 ≤ dwN im man (bm (seed + i)) 16 then hitF im man seed i + 1 else hitF im man seed i
theorem hitF_s (im : IM) (man : Nat) (seed : Int) (i : Nat) : hitF im man seed (i + 1) = if 5 ≤ dwN im man (bm (seed + i)) 16 then hitF im man seed i + 1 else hitF im man seed i := rfl
theorem hitF_in (im : IM) (man : Nat) (seed : Int) (i : Nat) : 0 ≤ hitF im man seed i ∧ hitF im man seed i ≤ i := by
  induction i with
  | zero => exact ⟨Int.le_refl 0, Int.le_refl 0⟩
  | succ i ih =>
    rw [hitF_s]
    split <;> omega
def chanceA (im : IM) (man seed n part : Int) : Int := if (0 ≤ man ∧ man < im 18 0 3) ∧ (1 ≤ n ∧ n ≤ 20) ∧ 0 ≤ part ∧ part < 2 then (if part = 0 then hitF im man.toNat seed n.toNat else n) / cdF (hitF im man.toNat seed n.toNat) n n.toNat else -4611686018427387904

set_option maxHeartbeats 4000000 in
theorem c_X8_commonDivisor (l : Launch) (G : GS) (im : IM) (bt rt : Nat) (lm : IM) (h : Int) (n : Nat) (h0 : 0 ≤ h) (h1 : h ≤ 20) (hn : n ≤ 20) : Cn l (XC G) yX8_commonDivisor Y_X8_commonDivisor [vI h, vI (n : Int)] (im, rs bt rt, lm) (pI fun x m' => x = cdF h n n ∧ m' = (im, rs bt rt, lm)) := by
  refine cn_of (by decide) (okC G) rfl (Nat.le_of_ble_eq_true rfl) ?_
  intro M ad hMl F
  subst hMl
  refine wp_pad 1 ?_
  show Wp M (XC G) ad Y_X8_commonDivisor (pI fun x m' => x = cdF h n n ∧ m' = (im, rs bt rt, lm)) 0 [some (vI h), some (vI (n : Int)), none] [] (im, rs bt rt, lm)
  refine q_iload_n (t := 1) F dX8_commonDivisor_0 rfl rfl rfl ?_
  refine q_istore_n (t := 2) F dX8_commonDivisor_1 rfl (by decide) rfl rfl ?_
  have L2 : ∀ (fz : Nat) (d : Nat), d < fz → d ≤ n → cdF h n d = cdF h n n → Wp M (XC G) ad Y_X8_commonDivisor (pI fun x m' => x = cdF h n n ∧ m' = (im, rs bt rt, lm)) 2 [some (vI h), some (vI (n : Int)), some (vI (d : Int))] [] (im, rs bt rt, lm) := by
    intro fz
    induction fz with
    | zero => intro d h; exact absurd h (Nat.not_lt_zero _)
    | succ fz ih =>
      have ih2 := ih
      intro d hmeas hd hcd
      refine q_iload_n (t := 3) F dX8_commonDivisor_2 rfl rfl rfl ?_
      refine q_iconst (t := 4) F dX8_commonDivisor_3 rfl ?_
      refine q_icmp_le (t := 7) (u := 27) F dX8_commonDivisor_4 (by first | exact hR _ _ _ | (constructor <;> omega)) (by first | exact hR _ _ _ | (constructor <;> omega)) (by decide) rfl (fun c4 => ?_) (fun c4 => ?_)
      · refine q_iconst (t := 28) F dX8_commonDivisor_27 rfl ?_
        refine q_iret F dX8_commonDivisor_28 rfl ?_
        refine ⟨_, rfl, ?_, rfl⟩
        rw [← hcd]
        rcases (show d = 0 ∨ d = 1 by omega) with rfl | rfl
        · rfl
        · rw [cdF_s, if_neg (by omega)]; rfl
      · refine q_iload_n (t := 8) F dX8_commonDivisor_7 rfl rfl rfl ?_
        refine q_iload_n (t := 9) F dX8_commonDivisor_8 rfl rfl rfl ?_
        refine q_irem (t := 10) F dX8_commonDivisor_9 (by constructor <;> omega) (by constructor <;> omega) (by omega) (by omega) rfl ?_
        refine q_if_ne (t := 13) (u := 21) F dX8_commonDivisor_10 (by have := Int.emod_lt_of_pos h (show (0 : Int) < d by omega); have := Int.emod_nonneg h (show (d : Int) ≠ 0 by omega); constructor <;> omega) (by decide) rfl (fun c10 => ?_) (fun c10 => ?_)
        · refine q_iinc (t := 24) F dX8_commonDivisor_21 rfl (by decide) rfl rfl ?_
          refine q_goto (t := 2) F dX8_commonDivisor_24 (by decide) ?_
          obtain ⟨e, rfl⟩ : ∃ e, d = e + 1 := ⟨d - 1, by omega⟩
          rw [cdF_s, if_neg (by omega)] at hcd
          rw [show ((e + 1 : Nat) : Int) + -1 = (e : Int) by omega]
          exact ih2 e (by omega) (by omega) hcd
        · refine q_iload_n (t := 14) F dX8_commonDivisor_13 rfl rfl rfl ?_
          refine q_iload_n (t := 15) F dX8_commonDivisor_14 rfl rfl rfl ?_
          refine q_irem (t := 16) F dX8_commonDivisor_15 (by constructor <;> omega) (by constructor <;> omega) (by omega) (by omega) rfl ?_
          refine q_if_ne (t := 19) (u := 21) F dX8_commonDivisor_16 (by have := Int.emod_lt_of_pos (n : Int) (show (0 : Int) < d by omega); have := Int.emod_nonneg (n : Int) (show (d : Int) ≠ 0 by omega); constructor <;> omega) (by decide) rfl (fun c16 => ?_) (fun c16 => ?_)
          · refine q_iinc (t := 24) F dX8_commonDivisor_21 rfl (by decide) rfl rfl ?_
            refine q_goto (t := 2) F dX8_commonDivisor_24 (by decide) ?_
            obtain ⟨e, rfl⟩ : ∃ e, d = e + 1 := ⟨d - 1, by omega⟩
            rw [cdF_s, if_neg (by omega)] at hcd
            rw [show ((e + 1 : Nat) : Int) + -1 = (e : Int) by omega]
            exact ih2 e (by omega) (by omega) hcd
          · refine q_iload_n (t := 20) F dX8_commonDivisor_19 rfl rfl rfl ?_
            refine q_iret F dX8_commonDivisor_20 rfl ?_
            obtain ⟨e, rfl⟩ : ∃ e, d = e + 1 := ⟨d - 1, by omega⟩
            rw [cdF_s, if_pos ⟨by omega, by assumption, by assumption⟩] at hcd
            exact ⟨_, rfl, hcd, rfl⟩
  exact L2 _ n (Nat.lt_succ_self _) (Nat.le_refl _) rfl

theorem quo_ri {a b : Int} (h0 : 0 ≤ a) (h1 : a ≤ 20) (hb : 1 ≤ b) : ri (a / b) := by
  have h2 : 0 ≤ a / b := Int.ediv_nonneg h0 (by omega)
  have h3 : a / b ≤ a := Int.ediv_le_self b h0
  constructor <;> omega

set_option maxHeartbeats 4000000 in
theorem c_X8_chance (l : Launch) (G : GS) (im : IM) (bt rt : Nat) (lm : IM) (hbt : bt < 6) (hrt : rt < 6) (hS : SC im) (man : Int) (seed : Int) (n : Int) (part : Int) (hman : ri man) (hseed : ri seed) (hn : ri n) (hpart : ri part) : Cn l (XC G) yX8_chance Y_X8_chance [vR 0 0, vI man, vI seed, vI n, vI part] (im, rs bt rt, lm) (pL fun x m' => x = chanceA im man seed n part ∧ stC lm im m') := by
  refine cn_of (by decide) (okC G) rfl (Nat.le_of_ble_eq_true rfl) ?_
  intro M ad hMl F
  subst hMl
  obtain ⟨hR, hW, hh, htc, hru, hgt, hz, hrd, hsh, him, htp⟩ := hS
  have w1 := hW.1
  have w2 := hW.2.1
  have w3 := hW.2.2.1
  have w4 := hW.2.2.2.1
  have w5 := hW.2.2.2.2.1
  have hman1 := hman.1
  have hman2 := hman.2
  have hseed1 := hseed.1
  have hseed2 := hseed.2
  have hn1 := hn.1
  have hn2 := hn.2
  have hpart1 := hpart.1
  have hpart2 := hpart.2
  refine wp_pad 2 ?_
  show Wp M (XC G) ad Y_X8_chance (pL fun x m' => x = chanceA im man seed n part ∧ stC lm im m') 0 [some (vR 0 0), some (vI man), some (vI seed), some (vI n), some (vI part), none, none] [] (im, rs bt rt, lm)
  refine q_aload_n (t := 1) F dX8_chance_0 rfl rfl rfl ?_
  refine q_iload_n (t := 2) F dX8_chance_1 rfl rfl rfl ?_
  refine wp_callV (t := 5) [_] F dX8_chance_2 k_X8_isOne v_X8_isOne ml_X8_91 rfl rfl rfl rfl (Nat.le_of_ble_eq_true rfl) (by decide) (m_0 (by omega)) (c_X8_isOne _ G _ bt rt lm man hman hR) rfl (kI ?_)
  rintro x2 m' ⟨hx2, rfl⟩
  have hx2 := if01 hx2
  refine q_if_eq (t := 8) (u := 28) F dX8_chance_5 (by first | exact hR _ _ _ | (constructor <;> omega)) (by decide) rfl (fun c5 => ?_) (fun c5 => ?_)
  · refine q_ldc2 (t := 31) (x := -4611686018427387904) F dX8_chance_28 kl_X8_272 (by decide) rfl ?_
    refine q_lret F dX8_chance_31 rfl ?_
    refine ⟨_, rfl, ?_, _, bt, rt, hbt, hrt, hR, agP_rfl _, rfl⟩
    unfold chanceA
    rw [if_neg (by omega)]
  · refine q_iload_n (t := 9) F dX8_chance_8 rfl rfl rfl ?_
    refine q_iconst (t := 10) F dX8_chance_9 rfl ?_
    refine q_icmp_lt (t := 13) (u := 28) F dX8_chance_10 (by first | exact hR _ _ _ | (constructor <;> omega)) (by first | exact hR _ _ _ | (constructor <;> omega)) (by decide) rfl (fun c10 => ?_) (fun c10 => ?_)
    · refine q_ldc2 (t := 31) (x := -4611686018427387904) F dX8_chance_28 kl_X8_272 (by decide) rfl ?_
      refine q_lret F dX8_chance_31 rfl ?_
      refine ⟨_, rfl, ?_, _, bt, rt, hbt, hrt, hR, agP_rfl _, rfl⟩
      unfold chanceA
      rw [if_neg (by omega)]
    · refine q_iload_n (t := 14) F dX8_chance_13 rfl rfl rfl ?_
      refine q_bipush (t := 16) F dX8_chance_14 (by decide) rfl ?_
      refine q_icmp_gt (t := 19) (u := 28) F dX8_chance_16 (by first | exact hR _ _ _ | (constructor <;> omega)) (by first | exact hR _ _ _ | (constructor <;> omega)) (by decide) rfl (fun c16 => ?_) (fun c16 => ?_)
      · refine q_ldc2 (t := 31) (x := -4611686018427387904) F dX8_chance_28 kl_X8_272 (by decide) rfl ?_
        refine q_lret F dX8_chance_31 rfl ?_
        refine ⟨_, rfl, ?_, _, bt, rt, hbt, hrt, hR, agP_rfl _, rfl⟩
        unfold chanceA
        rw [if_neg (by omega)]
      · refine q_iload (t := 21) F dX8_chance_19 rfl rfl ?_
        refine q_iconst (t := 22) F dX8_chance_21 rfl ?_
        refine wp_callS (t := 25) [_, _] F dX8_chance_22 k_X8_within st_X8_within ml_X8_95 rfl rfl (Nat.le_of_ble_eq_true rfl) (by decide) (c_X8_within _ G _ bt rt lm part 2 hpart (by constructor <;> omega)) rfl (kI ?_)
        rintro x22 m' ⟨hx22, rfl⟩
        have hx22 := if01 hx22
        refine q_if_ne (t := 28) (u := 32) F dX8_chance_25 (by first | exact hR _ _ _ | (constructor <;> omega)) (by decide) rfl (fun c25 => ?_) (fun c25 => ?_)
        · obtain ⟨man, rfl⟩ : ∃ k : Nat, man = (k : Int) := ⟨man.toNat, by omega⟩
          obtain ⟨n, rfl⟩ : ∃ k : Nat, n = (k : Int) := ⟨n.toNat, by omega⟩
          refine q_iconst (t := 33) F dX8_chance_32 rfl ?_
          refine q_istore (t := 35) F dX8_chance_33 (by decide) rfl rfl ?_
          refine q_iconst (t := 36) F dX8_chance_35 rfl ?_
          refine q_istore (t := 38) F dX8_chance_36 (by decide) rfl rfl ?_
          have L38 : ∀ (fz : Nat) (i : Nat) (im2 : IM) (bt2 rt2 : Nat), n - i < fz → i ≤ n → bt2 < 6 → rt2 < 6 → SC im2 → agP im2 im → Wp M (XC G) ad Y_X8_chance (pL fun x m' => x = chanceA im man seed n part ∧ stC lm im m') 38 [some (vR 0 0), some (vI (man : Int)), some (vI seed), some (vI (n : Int)), some (vI part), some (vI (hitF im man seed i)), some (vI (i : Int))] [] (im2, rs bt2 rt2, lm) := by
            intro fz
            induction fz with
            | zero => intro i im2 bt2 rt2 h; exact absurd h (Nat.not_lt_zero _)
            | succ fz ih =>
              have ih38 := ih
              intro i im2 bt2 rt2 hmeas hi hbt2 hrt2 hS2 hP2
              have e3 : im2 18 0 3 = im 18 0 3 := hP2.1 18 0 3 (by unfold per; omega)
              have hhi := hitF_in im man seed i
              refine q_iload (t := 40) F dX8_chance_38 rfl rfl ?_
              refine q_iload_n (t := 41) F dX8_chance_40 rfl rfl rfl ?_
              refine q_icmp_ge (t := 44) (u := 68) F dX8_chance_41 (by first | exact hR _ _ _ | (constructor <;> omega)) (by first | exact hR _ _ _ | (constructor <;> omega)) (by decide) rfl (fun c41 => ?_) (fun c41 => ?_)
              · have ein : i = n := by omega
                rw [ein]
                rw [ein] at hhi
                refine q_iload (t := 70) F dX8_chance_68 rfl rfl ?_
                refine q_iload_n (t := 71) F dX8_chance_70 rfl rfl rfl ?_
                refine wp_callS (t := 74) [_, _] F dX8_chance_71 k_X8_commonDivisor st_X8_commonDivisor ml_X8_274 rfl rfl (Nat.le_of_ble_eq_true rfl) (by decide) (c_X8_commonDivisor _ G im2 bt2 rt2 lm (hitF im man seed n) n hhi.1 (by omega) (by omega)) rfl (kI ?_)
                rintro x71 m' ⟨rfl, rfl⟩
                have hcd := cdF_in (hitF im man seed n) n n
                refine q_istore (t := 76) F dX8_chance_74 (by decide) rfl rfl ?_
                refine q_iload (t := 78) F dX8_chance_76 rfl rfl ?_
                refine q_if_ne (t := 81) (u := 86) F dX8_chance_78 (by first | exact hR _ _ _ | (constructor <;> omega)) (by decide) rfl (fun c78 => ?_) (fun c78 => ?_)
                · refine q_iload_n (t := 87) F dX8_chance_86 rfl rfl rfl ?_
                  refine q_iload (t := 89) F dX8_chance_87 rfl rfl ?_
                  refine q_idiv (t := 90) F dX8_chance_89 (by constructor <;> omega) (by constructor <;> omega) (by omega) (by omega) rfl ?_
                  refine q_i2l (t := 91) F dX8_chance_90 (by exact quo_ri (by omega) (by omega) (by omega)) rfl ?_
                  refine q_lret F dX8_chance_91 rfl ?_
                  refine ⟨_, rfl, ?_, im2, bt2, rt2, hbt2, hrt2, hS2.1, hP2, rfl⟩
                  unfold chanceA
                  simp only [Int.toNat_natCast]
                  first
                    | (rw [if_pos (by omega), if_pos (by omega)])
                    | (rw [if_pos (by omega), if_neg (by omega)])
                · refine q_iload (t := 83) F dX8_chance_81 rfl rfl ?_
                  refine q_goto (t := 87) F dX8_chance_83 (by decide) ?_
                  refine q_iload (t := 89) F dX8_chance_87 rfl rfl ?_
                  refine q_idiv (t := 90) F dX8_chance_89 (by constructor <;> omega) (by constructor <;> omega) (by omega) (by omega) rfl ?_
                  refine q_i2l (t := 91) F dX8_chance_90 (by exact quo_ri (by omega) (by omega) (by omega)) rfl ?_
                  refine q_lret F dX8_chance_91 rfl ?_
                  refine ⟨_, rfl, ?_, im2, bt2, rt2, hbt2, hrt2, hS2.1, hP2, rfl⟩
                  unfold chanceA
                  simp only [Int.toNat_natCast]
                  first
                    | (rw [if_pos (by omega), if_pos (by omega)])
                    | (rw [if_pos (by omega), if_neg (by omega)])
              · refine q_aload_n (t := 45) F dX8_chance_44 rfl rfl rfl ?_
                refine q_iload_n (t := 46) F dX8_chance_45 rfl rfl rfl ?_
                refine q_iload_n (t := 47) F dX8_chance_46 rfl rfl rfl ?_
                refine q_iload (t := 49) F dX8_chance_47 rfl rfl ?_
                refine q_iadd (t := 50) F dX8_chance_49 rfl ?_
                refine q_norm ?_
                refine q_bipush (t := 52) F dX8_chance_50 (by decide) rfl ?_
                refine wp_callV (t := 55) [_, _, _] F dX8_chance_52 k_X8_stuckByDraw v_X8_stuckByDraw ml_X8_268 rfl rfl rfl rfl (Nat.le_of_ble_eq_true rfl) (by decide) (m_0 (by omega)) (c_X8_stuckByDraw _ G im2 bt2 rt2 lm hbt2 hrt2 hS2 man 16 (by rw [e3]; omega) (by omega) (bm (seed + i)) (ri_b _)) rfl (kI ?_)
                rintro x52 m' ⟨hx, hst⟩
                obtain ⟨im3, bt3, rt3, hbt3, hrt3, hS3, hP3, rfl⟩ := SC_st hst hS2
                rw [(dw_eq hP2 hW (by omega) _ _).2.2] at hx
                have hdi := dwN_in im man (bm (seed + i)) 16
                refine q_iconst (t := 56) F dX8_chance_55 rfl ?_
                refine q_icmp_lt (t := 59) (u := 62) F dX8_chance_56 (by constructor <;> omega) (by constructor <;> omega) (by decide) rfl (fun c56 => ?_) (fun c56 => ?_)
                · refine q_iinc (t := 65) F dX8_chance_62 rfl (by decide) rfl rfl ?_
                  refine q_goto (t := 38) F dX8_chance_65 (by decide) ?_
                  first
                    | (rw [show hitF im man seed i + 1 = hitF im man seed (i + 1) from by rw [hitF_s, if_pos (by omega)]]
                       exact ih38 (i + 1) im3 bt3 rt3 (by omega) (by omega) hbt3 hrt3 hS3 (hP3.trans hP2))
                    | (rw [show hitF im man seed i = hitF im man seed (i + 1) from by rw [hitF_s, if_neg (by omega)]]
                       exact ih38 (i + 1) im3 bt3 rt3 (by omega) (by omega) hbt3 hrt3 hS3 (hP3.trans hP2))
                · refine q_iinc (t := 62) F dX8_chance_59 rfl (by decide) rfl rfl ?_
                  refine q_iinc (t := 65) F dX8_chance_62 rfl (by decide) rfl rfl ?_
                  refine q_goto (t := 38) F dX8_chance_65 (by decide) ?_
                  first
                    | (rw [show hitF im man seed i + 1 = hitF im man seed (i + 1) from by rw [hitF_s, if_pos (by omega)]]
                       exact ih38 (i + 1) im3 bt3 rt3 (by omega) (by omega) hbt3 hrt3 hS3 (hP3.trans hP2))
                    | (rw [show hitF im man seed i = hitF im man seed (i + 1) from by rw [hitF_s, if_neg (by omega)]]
                       exact ih38 (i + 1) im3 bt3 rt3 (by omega) (by omega) hbt3 hrt3 hS3 (hP3.trans hP2))
          exact L38 _ 0 im bt rt (Nat.lt_succ_self _) (by omega) hbt hrt ⟨hR, hW, hh, htc, hru, hgt, hz, hrd, hsh, him, htp⟩ (agP_rfl _)
        · refine q_ldc2 (t := 31) (x := -4611686018427387904) F dX8_chance_28 kl_X8_272 (by decide) rfl ?_
          refine q_lret F dX8_chance_31 rfl ?_
          refine ⟨_, rfl, ?_, _, bt, rt, hbt, hrt, hR, agP_rfl _, rfl⟩
          unfold chanceA
          rw [if_neg (by omega)]
