/-! the reference's grammar: what is made of them -/
theorem c_isKey (l : Launch) (G : GS) (im : IM) (bt rt : Nat) (lm : IM) (b : Nat → Int) (n : Nat) (hb : byt b n) (p : Nat) (f : Int) (h : PQ b n im lm p f) (i : Nat) (h6 : 6 ≤ i) (hi : i < 12) (t : Int) (htt : t = (i : Int) - 2) (a0 a1 a2 a3 a4 a5 a6 a7 : Int) (ha : a0 = wlr i 0 ∧ a1 = wlr i 1 ∧ a2 = wlr i 2 ∧ a3 = wlr i 3 ∧ a4 = wlr i 4 ∧ a5 = wlr i 5 ∧ a6 = wlr i 6 ∧ a7 = wlr i 7) : Cn l (XR G) yX9_isWord_ Y_X9_isWord_ [vR 30 0, vI a0, vI a1, vI a2, vI a3, vI a4, vI a5, vI a6, vI a7] (im, rs bt rt, lm) (pI fun x m' => x = (if f = -1 ∧ tk b n p = t then 1 else 0) ∧ m' = (im, rs bt rt, lm)) := by
  refine (c_isWordA l G im bt rt lm b n hb p f h i hi a0 a1 a2 a3 a4 a5 a6 a7 ha).mono (fun r m' hq => ?_)
  obtain ⟨x, hr, hx, hm⟩ := hq
  refine ⟨x, hr, ?_, hm⟩
  rw [hx]
  have hw := wd_kw (b := b) (n := n) (p := p) h6 hi
  by_cases hc : f = -1 ∧ tk b n p = t
  · rw [if_pos hc, if_pos ⟨hc.1, hw.mpr (hc.2.trans htt)⟩]
  · rw [if_neg hc, if_neg (fun q => hc ⟨q.1, (hw.mp q.2).trans htt.symm⟩)]
theorem RPO_step {b : Nat → Int} {n : Nat} {op : Int → Int} {sub : Nat → PT} {im lm im1 lm1 im2 lm2 im3 lm3 : IM} {nm : Nat → Int} {r : PT} {v w x : Int} (h : RPO b n im lm nm r v im1 lm1) (h1 : r.2.1 = -1) (h2 : agQ im2 im1) (h2l : lgQ lm2 lm1) (h3 : RPO b n im2 lm2 nm (sub (adv b n r.1)) w im3 lm3) (hx : ri x) (he : x = bi2 (op (tk b n r.1)) v w) : RPO b n im lm nm (lpS b n op sub r) x im3 lm3 := by
  refine ⟨hx, h3.2.1, (h3.2.2.1.trans h2).trans h.2.2.1, (h3.2.2.2.1.trans h2l).trans h.2.2.2.1, fun q => ?_⟩
  show x = bi2 _ (r.2.2.2 nm) ((sub (adv b n r.1)).2.2.2 nm)
  rw [← h.2.2.2.2 h1, ← h3.2.2.2.2 q]
  exact he
theorem den_not {b : Nat → Int} {n m p : Nat} (ht : tk b n p = 9) : denL b n (m + 1) p = wrap1 (-8) (denL b n m (adv b n p)) := by rw [denL_s, if_pos ht]
theorem den_non {b : Nat → Int} {n p : Nat} (ht : tk b n p = 9) : denL b n 0 p = pFail p := by rw [denL_0, if_pos ht]
theorem den_oth {b : Nat → Int} {n m p : Nat} {f : Int} (ht : f = -1 → tk b n p ≠ 9) : stP (denL b n m) p f = loopP b n opC (sumL b n m) 1 (stP (sumL b n m) p f) := by
  by_cases hf : f = -1
  · subst hf
    rw [stP_y, stP_y]
    cases m with
    | zero => rw [denL_0, if_neg (ht rfl)]; rfl
    | succ m => rw [denL_s, if_neg (ht rfl)]; rfl
  · rw [stP_n hf, stP_n hf]
    exact (loopP_n (fun q => hf q.1)).symm
theorem RPO_not {b : Nat → Int} {n d : Nat} {im lm im2 lm2 im3 lm3 : IM} {nm : Nat → Int} {r : PT} {v x : Int} (hd : d ≤ 5) (h27 : im 30 0 27 = (d : Int)) (hag : agQ im2 (up im 30 0 27 ((d : Int) + 1))) (hlg : lgQ lm2 lm) (h : RPO b n im2 lm2 nm r v im3 lm3) (hx : x = if v = 0 then 1 else 0) : RPO b n im lm nm (wrap1 (-8) r) x (up im3 30 0 27 (d : Int)) lm3 := by
  obtain ⟨h1, h2, h3, h4, h5⟩ := h
  exact ⟨by rw [hx]; split <;> constructor <;> omega, PQ_27 h2 (by constructor <;> omega), ag_27 (h3.trans hag) h27, h4.trans hlg, fun q => by rw [hx, h5 q]; rfl⟩
theorem bi2_9 (v w : Int) : bm (v * w) = bi2 (-9) v w := rfl
theorem bi2_10 (v w : Int) : bm (v + w) = bi2 (-10) v w := rfl
theorem bi2_11 (v w : Int) : bm (v - w) = bi2 (-11) v w := rfl
theorem bi2_12 (v w : Int) : (if v < w then (1 : Int) else 0) = bi2 (-12) v w := rfl
theorem bi2_13 (v w : Int) : (if v = w then (1 : Int) else 0) = bi2 (-13) v w := rfl
theorem bi2_14 (v w : Int) : (if v ≠ 0 ∧ w ≠ 0 then (1 : Int) else 0) = bi2 (-14) v w := rfl
theorem bi2_15 (v w : Int) : (if v ≠ 0 ∨ w ≠ 0 then (1 : Int) else 0) = bi2 (-15) v w := rfl

set_option maxHeartbeats 4000000 in
theorem c_X9_term5 (l : Launch) (G : GS)  (bt rt : Nat)  (b : Nat → Int) (n : Nat) (hb : byt b n) (hO : RT l G bt rt b n yX9_atom5 Y_X9_atom5 (oneL b n 0) 5) (im lm : IM) (nm : Nat → Int) (p : Nat) (f : Int) (h : PQ b n im lm p f) (h27 : im 30 0 27 = ((5 : Nat) : Int)) (hnm : NMr im nm) : Cn l (XR G) yX9_term5 Y_X9_term5 [vR 30 0] (im, rs bt rt, lm) (pI fun x m' => ∃ im' lm', RPO b n im lm nm (stP (termL b n 0) p f) x im' lm' ∧ m' = (im', rs bt rt, lm')) := by
  refine cn_of (by decide) (okR G) rfl (Nat.le_of_ble_eq_true rfl) ?_
  intro M ad hMl F
  subst hMl
  have hn := hb.1
  have hR := h.2.1
  refine wp_pad 1 ?_
  show Wp M (XR G) ad Y_X9_term5 (pI fun x m' => ∃ im' lm', RPO b n im lm nm (stP (termL b n 0) p f) x im' lm' ∧ m' = (im', rs bt rt, lm')) 0 [some (vR 30 0), none] [] (im, rs bt rt, lm)
  refine q_aload_n (t := 1) F dX9_term5_0 rfl rfl rfl ?_
  refine wp_callV (t := 4) [] F dX9_term5_1 k_X9_atom5 v_X9_atom5 ml_X9_231 rfl rfl rfl rfl (Nat.le_of_ble_eq_true rfl) (by decide) (m_30 (by omega)) (hO im lm nm p f h h27 hnm) rfl (kI ?_)
  rintro x1 m' ⟨im0, lm0, h0, rfl⟩
  refine q_istore_n (t := 5) F dX9_term5_4 rfl (by decide) rfl rfl ?_
  have L5 : ∀ (fz : Nat) (k : Nat) (r : PT) (v : Int) (im1 lm1 : IM), k < fz → loopP b n opM (oneL b n 0) 160 (stP (oneL b n 0) p f) = loopP b n opM (oneL b n 0) k r → n - r.1 ≤ k → RPO b n im lm nm r v im1 lm1 → Wp M (XR G) ad Y_X9_term5 (pI fun x m' => ∃ im' lm', RPO b n im lm nm (stP (termL b n 0) p f) x im' lm' ∧ m' = (im', rs bt rt, lm')) 5 [some (vR 30 0), some (vI v)] [] (im1, rs bt rt, lm1) := by
    intro fz
    induction fz with
    | zero => intro k r v im1 lm1 h; exact absurd h (Nat.not_lt_zero _)
    | succ fz ih =>
      have ih5 := ih
      intro k r v im1 lm1 hmeas hlp hk hr
      have hti := tk_in b n r.1
      have hb1 := hr.2.1.b01
      have hrv := hr.1
      have hrv1 := hrv.1
      have hrv2 := hrv.2
      refine q_aload_n (t := 6) F dX9_term5_5 rfl rfl rfl ?_
      refine q_bipush (t := 8) F dX9_term5_6 (by decide) rfl ?_
      refine wp_callV (t := 11) [_] F dX9_term5_8 k_X9_isSign v_X9_isSign ml_X9_220 rfl rfl rfl rfl (Nat.le_of_ble_eq_true rfl) (by decide) (m_30 (by omega)) (c_X9_isSign _ G im1 bt rt lm1 b n hb r.1 r.2.1 hr.2.1 42 (by omega) (by omega)) rfl (kI ?_)
      rintro x8 m' ⟨hx8, rfl⟩
      have hx8 := if01 hx8
      refine q_if_eq (t := 14) (u := 28) F dX9_term5_11 (by first | exact hR _ _ _ | (constructor <;> omega)) (by decide) rfl (fun c11 => ?_) (fun c11 => ?_)
      · refine q_iload_n (t := 29) F dX9_term5_28 rfl rfl rfl ?_
        refine q_iret F dX9_term5_29 rfl ?_
        have e : stP (termL b n 0) p f = r := by
          have e0 : stP (termL b n 0) p f = loopP b n opM (oneL b n 0) 160 (stP (oneL b n 0) p f) := stP_loop (F := oneL b n 0) (k := 160)
          rw [e0, hlp]
          refine loopP_n (fun q => ?_)
          have q1 := q.1
          have q2 := q.2
          unfold opM at q2
          rw [if_neg (by omega)] at q2
          exact q2 rfl
        exact ⟨v, rfl, im1, lm1, by rw [e]; exact hr, rfl⟩
      · have hq : r.2.1 = -1 ∧ tk b n r.1 = 42 := by omega
        have hlt : r.1 < n := tk_lt (b := b) (by omega)
        have hop : opM (tk b n r.1) = -9 := by unfold opM; rw [if_pos hq.2]
        have hgd := PG_one b n 0 (adv b n r.1) (adv_in hlt).2
        have had := (adv_in (b := b) hlt).1
        have h11 := hr.2.1
        rw [hq.1] at h11
        refine q_aload_n (t := 15) F dX9_term5_14 rfl rfl rfl ?_
        refine wp_callV (t := 18) [] F dX9_term5_15 k_X9_next v_X9_next ml_X9_196 rfl rfl rfl rfl (Nat.le_of_ble_eq_true rfl) (by decide) (m_30 (by omega)) (c_nextQ _ G im1 bt rt lm1 b n hb r.1 h11 hlt (by omega)) rfl (kV ?_)
        rintro m' ⟨im2, lm2, h2, hag2, hlg2, rfl⟩
        refine q_iload_n (t := 19) F dX9_term5_18 rfl rfl rfl ?_
        refine q_aload_n (t := 20) F dX9_term5_19 rfl rfl rfl ?_
        refine wp_callV (t := 23) [] F dX9_term5_20 k_X9_atom5 v_X9_atom5 ml_X9_231 rfl rfl rfl rfl (Nat.le_of_ble_eq_true rfl) (by decide) (m_30 (by omega)) (hO im2 lm2 nm (adv b n r.1) (-1) h2 (((hag2.trans hr.2.2.1) 30 0 27 (by omega)).trans h27) (hnm.ag (hag2.trans hr.2.2.1))) rfl (kI ?_)
        rintro x20 m' ⟨im3, lm3, h3, rfl⟩
        rw [stP_y] at h3
        refine q_imul (t := 24) F dX9_term5_23 rfl ?_
        refine q_norm ?_
        refine q_istore_n (t := 25) F dX9_term5_24 rfl (by decide) rfl rfl ?_
        refine q_goto (t := 5) F dX9_term5_25 (by decide) ?_
        refine ih5 (k - 1) (lpS b n opM (oneL b n 0) r) _ im3 lm3 (by omega) ?_ ?_ (RPO_step hr hq.1 hag2 hlg2 h3 (ri_b _) (by rw [hop]; exact bi2_9 _ _))
        · rw [hlp]
          obtain ⟨k', hk'⟩ : ∃ k', k = k' + 1 := ⟨k - 1, by omega⟩
          rw [hk', loopP_y2 hq.1 (by rw [hop]; decide)]
          rfl
        · have := hgd.1
          show n - (oneL b n 0 (adv b n r.1)).1 ≤ k - 1
          omega
  exact L5 _ 160 _ _ _ _ (Nat.lt_succ_self _) rfl (by omega) h0

set_option maxHeartbeats 4000000 in
theorem c_X9_added5 (l : Launch) (G : GS)  (bt rt : Nat)  (b : Nat → Int) (n : Nat) (hb : byt b n) (hO : RT l G bt rt b n yX9_term5 Y_X9_term5 (termL b n 0) 5) (im lm : IM) (nm : Nat → Int) (p : Nat) (f : Int) (h : PQ b n im lm p f) (h27 : im 30 0 27 = ((5 : Nat) : Int)) (hnm : NMr im nm) : Cn l (XR G) yX9_added5 Y_X9_added5 [vR 30 0] (im, rs bt rt, lm) (pI fun x m' => ∃ im' lm', RPO b n im lm nm (stP (sumL b n 0) p f) x im' lm' ∧ m' = (im', rs bt rt, lm')) := by
  refine cn_of (by decide) (okR G) rfl (Nat.le_of_ble_eq_true rfl) ?_
  intro M ad hMl F
  subst hMl
  have hn := hb.1
  have hR := h.2.1
  refine wp_pad 3 ?_
  show Wp M (XR G) ad Y_X9_added5 (pI fun x m' => ∃ im' lm', RPO b n im lm nm (stP (sumL b n 0) p f) x im' lm' ∧ m' = (im', rs bt rt, lm')) 0 [some (vR 30 0), none, none, none] [] (im, rs bt rt, lm)
  refine q_aload_n (t := 1) F dX9_added5_0 rfl rfl rfl ?_
  refine wp_callV (t := 4) [] F dX9_added5_1 k_X9_term5 v_X9_term5 ml_X9_234 rfl rfl rfl rfl (Nat.le_of_ble_eq_true rfl) (by decide) (m_30 (by omega)) (hO im lm nm p f h h27 hnm) rfl (kI ?_)
  rintro x1 m' ⟨im0, lm0, h0, rfl⟩
  refine q_istore_n (t := 5) F dX9_added5_4 rfl (by decide) rfl rfl ?_
  have L5 : ∀ (fz : Nat) (k : Nat) (r : PT) (v : Int) (im1 lm1 : IM), k < fz → loopP b n opS (termL b n 0) 160 (stP (termL b n 0) p f) = loopP b n opS (termL b n 0) k r → n - r.1 ≤ k → RPO b n im lm nm r v im1 lm1 → Wp M (XR G) ad Y_X9_added5 (pI fun x m' => ∃ im' lm', RPO b n im lm nm (stP (sumL b n 0) p f) x im' lm' ∧ m' = (im', rs bt rt, lm')) 5 [some (vR 30 0), some (vI v), none, none] [] (im1, rs bt rt, lm1) := by
    intro fz
    induction fz with
    | zero => intro k r v im1 lm1 h; exact absurd h (Nat.not_lt_zero _)
    | succ fz ih =>
      have ih5 := ih
      intro k r v im1 lm1 hmeas hlp hk hr
      have hti := tk_in b n r.1
      have hb1 := hr.2.1.b01
      have hrv := hr.1
      have hrv1 := hrv.1
      have hrv2 := hrv.2
      refine q_aload_n (t := 6) F dX9_added5_5 rfl rfl rfl ?_
      refine q_bipush (t := 8) F dX9_added5_6 (by decide) rfl ?_
      refine wp_callV (t := 11) [_] F dX9_added5_8 k_X9_isSign v_X9_isSign ml_X9_220 rfl rfl rfl rfl (Nat.le_of_ble_eq_true rfl) (by decide) (m_30 (by omega)) (c_X9_isSign _ G im1 bt rt lm1 b n hb r.1 r.2.1 hr.2.1 43 (by omega) (by omega)) rfl (kI ?_)
      rintro x8 m' ⟨hx8, rfl⟩
      have hx8 := if01 hx8
      refine q_if_ne (t := 14) (u := 23) F dX9_added5_11 (by first | exact hR _ _ _ | (constructor <;> omega)) (by decide) rfl (fun c11 => ?_) (fun c11 => ?_)
      · have hq : r.2.1 = -1 ∧ (tk b n r.1 = 43 ∨ tk b n r.1 = 45) := by omega
        have hlt : r.1 < n := tk_lt (b := b) (by omega)
        
        have hgd := PG_termL b n 0 (adv b n r.1) (adv_in hlt).2
        have had := (adv_in (b := b) hlt).1
        have h11 := hr.2.1
        rw [hq.1] at h11
        have hw1 : lm1 30 0 26 = tk b n r.1 := ((TK_sign (h11.1.1 rfl).2.2 (s := tk b n r.1) (by omega)).mpr rfl).2
        have hcm : cmpI (lm1 30 0 26) 43 = 0 ↔ lm1 30 0 26 = 43 := cmpI_eq
        refine q_aload_n (t := 24) F dX9_added5_23 rfl rfl rfl ?_
        refine g_X9_175 (t := 27) F dX9_added5_24 rfl rfl ?_
        try simp only [up_app, row_app, scr_app, cpy_app, Nat.reduceEqDiff, Int.reduceToNat, Int.toNat_natCast, and_true, true_and, and_false, false_and, and_self, reduceIte]
        refine q_ldc2 (t := 30) (x := 43) F dX9_added5_27 kl_X9_237 (by decide) rfl ?_
        refine q_lcmp (t := 31) F dX9_added5_30 ⟨by omega, by omega⟩ ⟨by omega, by omega⟩ rfl ?_
        refine q_if_ne (t := 34) (u := 38) F dX9_added5_31 (by exact cmpI_ri _ _) (by decide) rfl (fun c31 => ?_) (fun c31 => ?_)
        · refine q_iconst (t := 39) F dX9_added5_38 rfl ?_
          refine q_istore_n (t := 40) F dX9_added5_39 rfl (by decide) rfl rfl ?_
          refine q_aload_n (t := 41) F dX9_added5_40 rfl rfl rfl ?_
          refine wp_callV (t := 44) [] F dX9_added5_41 k_X9_next v_X9_next ml_X9_196 rfl rfl rfl rfl (Nat.le_of_ble_eq_true rfl) (by decide) (m_30 (by omega)) (c_nextQ _ G im1 bt rt lm1 b n hb r.1 h11 hlt (by omega)) rfl (kV ?_)
          rintro m' ⟨im2, lm2, h2, hag2, hlg2, rfl⟩
          refine q_aload_n (t := 45) F dX9_added5_44 rfl rfl rfl ?_
          refine wp_callV (t := 48) [] F dX9_added5_45 k_X9_term5 v_X9_term5 ml_X9_234 rfl rfl rfl rfl (Nat.le_of_ble_eq_true rfl) (by decide) (m_30 (by omega)) (hO im2 lm2 nm (adv b n r.1) (-1) h2 (((hag2.trans hr.2.2.1) 30 0 27 (by omega)).trans h27) (hnm.ag (hag2.trans hr.2.2.1))) rfl (kI ?_)
          rintro x45 m' ⟨im3, lm3, h3, rfl⟩
          rw [stP_y] at h3
          refine q_istore_n (t := 49) F dX9_added5_48 rfl (by decide) rfl rfl ?_
          refine q_iload_n (t := 50) F dX9_added5_49 rfl rfl rfl ?_
          refine q_if_eq (t := 53) (u := 59) F dX9_added5_50 (by first | exact hR _ _ _ | (constructor <;> omega)) (by decide) rfl (fun c50 => ?_) (fun c50 => ?_)
          · refine q_iload_n (t := 60) F dX9_added5_59 rfl rfl rfl ?_
            refine q_iload_n (t := 61) F dX9_added5_60 rfl rfl rfl ?_
            refine q_isub (t := 62) F dX9_added5_61 rfl ?_
            refine q_norm ?_
            refine q_istore_n (t := 63) F dX9_added5_62 rfl (by decide) rfl rfl ?_
            refine q_goto (t := 5) F dX9_added5_63 (by decide) ?_
            refine wp_less 3 ?_
            refine wp_less 2 ?_
            first
              | (exfalso; omega)
              | (have hop : opS (tk b n r.1) = -10 := by unfold opS; rw [if_pos (by omega)]
                 refine ih5 (k - 1) (lpS b n opS (termL b n 0) r) _ im3 lm3 (by omega) ?_ ?_ (RPO_step hr hq.1 hag2 hlg2 h3 (ri_b _) (by rw [hop]; exact bi2_10 _ _))
                 · rw [hlp]
                   obtain ⟨k', hk'⟩ : ∃ k', k = k' + 1 := ⟨k - 1, by omega⟩
                   rw [hk', loopP_y2 hq.1 (by rw [hop]; decide)]
                   rfl
                 · have := hgd.1
                   show n - (termL b n 0 (adv b n r.1)).1 ≤ k - 1
                   omega)
              | (have hop : opS (tk b n r.1) = -11 := by unfold opS; rw [if_neg (by omega), if_pos (by omega)]
                 refine ih5 (k - 1) (lpS b n opS (termL b n 0) r) _ im3 lm3 (by omega) ?_ ?_ (RPO_step hr hq.1 hag2 hlg2 h3 (ri_b _) (by rw [hop]; exact bi2_11 _ _))
                 · rw [hlp]
                   obtain ⟨k', hk'⟩ : ∃ k', k = k' + 1 := ⟨k - 1, by omega⟩
                   rw [hk', loopP_y2 hq.1 (by rw [hop]; decide)]
                   rfl
                 · have := hgd.1
                   show n - (termL b n 0 (adv b n r.1)).1 ≤ k - 1
                   omega)
          · refine q_iload_n (t := 54) F dX9_added5_53 rfl rfl rfl ?_
            refine q_iload_n (t := 55) F dX9_added5_54 rfl rfl rfl ?_
            refine q_iadd (t := 56) F dX9_added5_55 rfl ?_
            refine q_goto (t := 62) F dX9_added5_56 (by decide) ?_
            refine q_norm ?_
            refine q_istore_n (t := 63) F dX9_added5_62 rfl (by decide) rfl rfl ?_
            refine q_goto (t := 5) F dX9_added5_63 (by decide) ?_
            refine wp_less 3 ?_
            refine wp_less 2 ?_
            first
              | (exfalso; omega)
              | (have hop : opS (tk b n r.1) = -10 := by unfold opS; rw [if_pos (by omega)]
                 refine ih5 (k - 1) (lpS b n opS (termL b n 0) r) _ im3 lm3 (by omega) ?_ ?_ (RPO_step hr hq.1 hag2 hlg2 h3 (ri_b _) (by rw [hop]; exact bi2_10 _ _))
                 · rw [hlp]
                   obtain ⟨k', hk'⟩ : ∃ k', k = k' + 1 := ⟨k - 1, by omega⟩
                   rw [hk', loopP_y2 hq.1 (by rw [hop]; decide)]
                   rfl
                 · have := hgd.1
                   show n - (termL b n 0 (adv b n r.1)).1 ≤ k - 1
                   omega)
              | (have hop : opS (tk b n r.1) = -11 := by unfold opS; rw [if_neg (by omega), if_pos (by omega)]
                 refine ih5 (k - 1) (lpS b n opS (termL b n 0) r) _ im3 lm3 (by omega) ?_ ?_ (RPO_step hr hq.1 hag2 hlg2 h3 (ri_b _) (by rw [hop]; exact bi2_11 _ _))
                 · rw [hlp]
                   obtain ⟨k', hk'⟩ : ∃ k', k = k' + 1 := ⟨k - 1, by omega⟩
                   rw [hk', loopP_y2 hq.1 (by rw [hop]; decide)]
                   rfl
                 · have := hgd.1
                   show n - (termL b n 0 (adv b n r.1)).1 ≤ k - 1
                   omega)
        · refine q_iconst (t := 35) F dX9_added5_34 rfl ?_
          refine q_goto (t := 39) F dX9_added5_35 (by decide) ?_
          refine q_istore_n (t := 40) F dX9_added5_39 rfl (by decide) rfl rfl ?_
          refine q_aload_n (t := 41) F dX9_added5_40 rfl rfl rfl ?_
          refine wp_callV (t := 44) [] F dX9_added5_41 k_X9_next v_X9_next ml_X9_196 rfl rfl rfl rfl (Nat.le_of_ble_eq_true rfl) (by decide) (m_30 (by omega)) (c_nextQ _ G im1 bt rt lm1 b n hb r.1 h11 hlt (by omega)) rfl (kV ?_)
          rintro m' ⟨im2, lm2, h2, hag2, hlg2, rfl⟩
          refine q_aload_n (t := 45) F dX9_added5_44 rfl rfl rfl ?_
          refine wp_callV (t := 48) [] F dX9_added5_45 k_X9_term5 v_X9_term5 ml_X9_234 rfl rfl rfl rfl (Nat.le_of_ble_eq_true rfl) (by decide) (m_30 (by omega)) (hO im2 lm2 nm (adv b n r.1) (-1) h2 (((hag2.trans hr.2.2.1) 30 0 27 (by omega)).trans h27) (hnm.ag (hag2.trans hr.2.2.1))) rfl (kI ?_)
          rintro x45 m' ⟨im3, lm3, h3, rfl⟩
          rw [stP_y] at h3
          refine q_istore_n (t := 49) F dX9_added5_48 rfl (by decide) rfl rfl ?_
          refine q_iload_n (t := 50) F dX9_added5_49 rfl rfl rfl ?_
          refine q_if_eq (t := 53) (u := 59) F dX9_added5_50 (by first | exact hR _ _ _ | (constructor <;> omega)) (by decide) rfl (fun c50 => ?_) (fun c50 => ?_)
          · refine q_iload_n (t := 60) F dX9_added5_59 rfl rfl rfl ?_
            refine q_iload_n (t := 61) F dX9_added5_60 rfl rfl rfl ?_
            refine q_isub (t := 62) F dX9_added5_61 rfl ?_
            refine q_norm ?_
            refine q_istore_n (t := 63) F dX9_added5_62 rfl (by decide) rfl rfl ?_
            refine q_goto (t := 5) F dX9_added5_63 (by decide) ?_
            refine wp_less 3 ?_
            refine wp_less 2 ?_
            first
              | (exfalso; omega)
              | (have hop : opS (tk b n r.1) = -10 := by unfold opS; rw [if_pos (by omega)]
                 refine ih5 (k - 1) (lpS b n opS (termL b n 0) r) _ im3 lm3 (by omega) ?_ ?_ (RPO_step hr hq.1 hag2 hlg2 h3 (ri_b _) (by rw [hop]; exact bi2_10 _ _))
                 · rw [hlp]
                   obtain ⟨k', hk'⟩ : ∃ k', k = k' + 1 := ⟨k - 1, by omega⟩
                   rw [hk', loopP_y2 hq.1 (by rw [hop]; decide)]
                   rfl
                 · have := hgd.1
                   show n - (termL b n 0 (adv b n r.1)).1 ≤ k - 1
                   omega)
              | (have hop : opS (tk b n r.1) = -11 := by unfold opS; rw [if_neg (by omega), if_pos (by omega)]
                 refine ih5 (k - 1) (lpS b n opS (termL b n 0) r) _ im3 lm3 (by omega) ?_ ?_ (RPO_step hr hq.1 hag2 hlg2 h3 (ri_b _) (by rw [hop]; exact bi2_11 _ _))
                 · rw [hlp]
                   obtain ⟨k', hk'⟩ : ∃ k', k = k' + 1 := ⟨k - 1, by omega⟩
                   rw [hk', loopP_y2 hq.1 (by rw [hop]; decide)]
                   rfl
                 · have := hgd.1
                   show n - (termL b n 0 (adv b n r.1)).1 ≤ k - 1
                   omega)
          · refine q_iload_n (t := 54) F dX9_added5_53 rfl rfl rfl ?_
            refine q_iload_n (t := 55) F dX9_added5_54 rfl rfl rfl ?_
            refine q_iadd (t := 56) F dX9_added5_55 rfl ?_
            refine q_goto (t := 62) F dX9_added5_56 (by decide) ?_
            refine q_norm ?_
            refine q_istore_n (t := 63) F dX9_added5_62 rfl (by decide) rfl rfl ?_
            refine q_goto (t := 5) F dX9_added5_63 (by decide) ?_
            refine wp_less 3 ?_
            refine wp_less 2 ?_
            first
              | (exfalso; omega)
              | (have hop : opS (tk b n r.1) = -10 := by unfold opS; rw [if_pos (by omega)]
                 refine ih5 (k - 1) (lpS b n opS (termL b n 0) r) _ im3 lm3 (by omega) ?_ ?_ (RPO_step hr hq.1 hag2 hlg2 h3 (ri_b _) (by rw [hop]; exact bi2_10 _ _))
                 · rw [hlp]
                   obtain ⟨k', hk'⟩ : ∃ k', k = k' + 1 := ⟨k - 1, by omega⟩
                   rw [hk', loopP_y2 hq.1 (by rw [hop]; decide)]
                   rfl
                 · have := hgd.1
                   show n - (termL b n 0 (adv b n r.1)).1 ≤ k - 1
                   omega)
              | (have hop : opS (tk b n r.1) = -11 := by unfold opS; rw [if_neg (by omega), if_pos (by omega)]
                 refine ih5 (k - 1) (lpS b n opS (termL b n 0) r) _ im3 lm3 (by omega) ?_ ?_ (RPO_step hr hq.1 hag2 hlg2 h3 (ri_b _) (by rw [hop]; exact bi2_11 _ _))
                 · rw [hlp]
                   obtain ⟨k', hk'⟩ : ∃ k', k = k' + 1 := ⟨k - 1, by omega⟩
                   rw [hk', loopP_y2 hq.1 (by rw [hop]; decide)]
                   rfl
                 · have := hgd.1
                   show n - (termL b n 0 (adv b n r.1)).1 ≤ k - 1
                   omega)
      · refine q_aload_n (t := 15) F dX9_added5_14 rfl rfl rfl ?_
        refine q_bipush (t := 17) F dX9_added5_15 (by decide) rfl ?_
        refine wp_callV (t := 20) [_] F dX9_added5_17 k_X9_isSign v_X9_isSign ml_X9_220 rfl rfl rfl rfl (Nat.le_of_ble_eq_true rfl) (by decide) (m_30 (by omega)) (c_X9_isSign _ G im1 bt rt lm1 b n hb r.1 r.2.1 hr.2.1 45 (by omega) (by omega)) rfl (kI ?_)
        rintro x17 m' ⟨hx17, rfl⟩
        have hx17 := if01 hx17
        refine q_if_eq (t := 23) (u := 66) F dX9_added5_20 (by first | exact hR _ _ _ | (constructor <;> omega)) (by decide) rfl (fun c20 => ?_) (fun c20 => ?_)
        · refine q_iload_n (t := 67) F dX9_added5_66 rfl rfl rfl ?_
          refine q_iret F dX9_added5_67 rfl ?_
          have e : stP (sumL b n 0) p f = r := by
            have e0 : stP (sumL b n 0) p f = loopP b n opS (termL b n 0) 160 (stP (termL b n 0) p f) := stP_loop (F := termL b n 0) (k := 160)
            rw [e0, hlp]
            refine loopP_n (fun q => ?_)
            have q1 := q.1
            have q2 := q.2
            unfold opS at q2
            rw [if_neg (by omega), if_neg (by omega)] at q2
            exact q2 rfl
          exact ⟨v, rfl, im1, lm1, by rw [e]; exact hr, rfl⟩
        · have hq : r.2.1 = -1 ∧ (tk b n r.1 = 43 ∨ tk b n r.1 = 45) := by omega
          have hlt : r.1 < n := tk_lt (b := b) (by omega)
          
          have hgd := PG_termL b n 0 (adv b n r.1) (adv_in hlt).2
          have had := (adv_in (b := b) hlt).1
          have h11 := hr.2.1
          rw [hq.1] at h11
          have hw1 : lm1 30 0 26 = tk b n r.1 := ((TK_sign (h11.1.1 rfl).2.2 (s := tk b n r.1) (by omega)).mpr rfl).2
          have hcm : cmpI (lm1 30 0 26) 43 = 0 ↔ lm1 30 0 26 = 43 := cmpI_eq
          refine q_aload_n (t := 24) F dX9_added5_23 rfl rfl rfl ?_
          refine g_X9_175 (t := 27) F dX9_added5_24 rfl rfl ?_
          try simp only [up_app, row_app, scr_app, cpy_app, Nat.reduceEqDiff, Int.reduceToNat, Int.toNat_natCast, and_true, true_and, and_false, false_and, and_self, reduceIte]
          refine q_ldc2 (t := 30) (x := 43) F dX9_added5_27 kl_X9_237 (by decide) rfl ?_
          refine q_lcmp (t := 31) F dX9_added5_30 ⟨by omega, by omega⟩ ⟨by omega, by omega⟩ rfl ?_
          refine q_if_ne (t := 34) (u := 38) F dX9_added5_31 (by exact cmpI_ri _ _) (by decide) rfl (fun c31 => ?_) (fun c31 => ?_)
          · refine q_iconst (t := 39) F dX9_added5_38 rfl ?_
            refine q_istore_n (t := 40) F dX9_added5_39 rfl (by decide) rfl rfl ?_
            refine q_aload_n (t := 41) F dX9_added5_40 rfl rfl rfl ?_
            refine wp_callV (t := 44) [] F dX9_added5_41 k_X9_next v_X9_next ml_X9_196 rfl rfl rfl rfl (Nat.le_of_ble_eq_true rfl) (by decide) (m_30 (by omega)) (c_nextQ _ G im1 bt rt lm1 b n hb r.1 h11 hlt (by omega)) rfl (kV ?_)
            rintro m' ⟨im2, lm2, h2, hag2, hlg2, rfl⟩
            refine q_aload_n (t := 45) F dX9_added5_44 rfl rfl rfl ?_
            refine wp_callV (t := 48) [] F dX9_added5_45 k_X9_term5 v_X9_term5 ml_X9_234 rfl rfl rfl rfl (Nat.le_of_ble_eq_true rfl) (by decide) (m_30 (by omega)) (hO im2 lm2 nm (adv b n r.1) (-1) h2 (((hag2.trans hr.2.2.1) 30 0 27 (by omega)).trans h27) (hnm.ag (hag2.trans hr.2.2.1))) rfl (kI ?_)
            rintro x45 m' ⟨im3, lm3, h3, rfl⟩
            rw [stP_y] at h3
            refine q_istore_n (t := 49) F dX9_added5_48 rfl (by decide) rfl rfl ?_
            refine q_iload_n (t := 50) F dX9_added5_49 rfl rfl rfl ?_
            refine q_if_eq (t := 53) (u := 59) F dX9_added5_50 (by first | exact hR _ _ _ | (constructor <;> omega)) (by decide) rfl (fun c50 => ?_) (fun c50 => ?_)
            · refine q_iload_n (t := 60) F dX9_added5_59 rfl rfl rfl ?_
              refine q_iload_n (t := 61) F dX9_added5_60 rfl rfl rfl ?_
              refine q_isub (t := 62) F dX9_added5_61 rfl ?_
              refine q_norm ?_
              refine q_istore_n (t := 63) F dX9_added5_62 rfl (by decide) rfl rfl ?_
              refine q_goto (t := 5) F dX9_added5_63 (by decide) ?_
              refine wp_less 3 ?_
              refine wp_less 2 ?_
              first
                | (exfalso; omega)
                | (have hop : opS (tk b n r.1) = -10 := by unfold opS; rw [if_pos (by omega)]
                   refine ih5 (k - 1) (lpS b n opS (termL b n 0) r) _ im3 lm3 (by omega) ?_ ?_ (RPO_step hr hq.1 hag2 hlg2 h3 (ri_b _) (by rw [hop]; exact bi2_10 _ _))
                   · rw [hlp]
                     obtain ⟨k', hk'⟩ : ∃ k', k = k' + 1 := ⟨k - 1, by omega⟩
                     rw [hk', loopP_y2 hq.1 (by rw [hop]; decide)]
                     rfl
                   · have := hgd.1
                     show n - (termL b n 0 (adv b n r.1)).1 ≤ k - 1
                     omega)
                | (have hop : opS (tk b n r.1) = -11 := by unfold opS; rw [if_neg (by omega), if_pos (by omega)]
                   refine ih5 (k - 1) (lpS b n opS (termL b n 0) r) _ im3 lm3 (by omega) ?_ ?_ (RPO_step hr hq.1 hag2 hlg2 h3 (ri_b _) (by rw [hop]; exact bi2_11 _ _))
                   · rw [hlp]
                     obtain ⟨k', hk'⟩ : ∃ k', k = k' + 1 := ⟨k - 1, by omega⟩
                     rw [hk', loopP_y2 hq.1 (by rw [hop]; decide)]
                     rfl
                   · have := hgd.1
                     show n - (termL b n 0 (adv b n r.1)).1 ≤ k - 1
                     omega)
            · refine q_iload_n (t := 54) F dX9_added5_53 rfl rfl rfl ?_
              refine q_iload_n (t := 55) F dX9_added5_54 rfl rfl rfl ?_
              refine q_iadd (t := 56) F dX9_added5_55 rfl ?_
              refine q_goto (t := 62) F dX9_added5_56 (by decide) ?_
              refine q_norm ?_
              refine q_istore_n (t := 63) F dX9_added5_62 rfl (by decide) rfl rfl ?_
              refine q_goto (t := 5) F dX9_added5_63 (by decide) ?_
              refine wp_less 3 ?_
              refine wp_less 2 ?_
              first
                | (exfalso; omega)
                | (have hop : opS (tk b n r.1) = -10 := by unfold opS; rw [if_pos (by omega)]
                   refine ih5 (k - 1) (lpS b n opS (termL b n 0) r) _ im3 lm3 (by omega) ?_ ?_ (RPO_step hr hq.1 hag2 hlg2 h3 (ri_b _) (by rw [hop]; exact bi2_10 _ _))
                   · rw [hlp]
                     obtain ⟨k', hk'⟩ : ∃ k', k = k' + 1 := ⟨k - 1, by omega⟩
                     rw [hk', loopP_y2 hq.1 (by rw [hop]; decide)]
                     rfl
                   · have := hgd.1
                     show n - (termL b n 0 (adv b n r.1)).1 ≤ k - 1
                     omega)
                | (have hop : opS (tk b n r.1) = -11 := by unfold opS; rw [if_neg (by omega), if_pos (by omega)]
                   refine ih5 (k - 1) (lpS b n opS (termL b n 0) r) _ im3 lm3 (by omega) ?_ ?_ (RPO_step hr hq.1 hag2 hlg2 h3 (ri_b _) (by rw [hop]; exact bi2_11 _ _))
                   · rw [hlp]
                     obtain ⟨k', hk'⟩ : ∃ k', k = k' + 1 := ⟨k - 1, by omega⟩
                     rw [hk', loopP_y2 hq.1 (by rw [hop]; decide)]
                     rfl
                   · have := hgd.1
                     show n - (termL b n 0 (adv b n r.1)).1 ≤ k - 1
                     omega)
          · refine q_iconst (t := 35) F dX9_added5_34 rfl ?_
            refine q_goto (t := 39) F dX9_added5_35 (by decide) ?_
            refine q_istore_n (t := 40) F dX9_added5_39 rfl (by decide) rfl rfl ?_
            refine q_aload_n (t := 41) F dX9_added5_40 rfl rfl rfl ?_
            refine wp_callV (t := 44) [] F dX9_added5_41 k_X9_next v_X9_next ml_X9_196 rfl rfl rfl rfl (Nat.le_of_ble_eq_true rfl) (by decide) (m_30 (by omega)) (c_nextQ _ G im1 bt rt lm1 b n hb r.1 h11 hlt (by omega)) rfl (kV ?_)
            rintro m' ⟨im2, lm2, h2, hag2, hlg2, rfl⟩
            refine q_aload_n (t := 45) F dX9_added5_44 rfl rfl rfl ?_
            refine wp_callV (t := 48) [] F dX9_added5_45 k_X9_term5 v_X9_term5 ml_X9_234 rfl rfl rfl rfl (Nat.le_of_ble_eq_true rfl) (by decide) (m_30 (by omega)) (hO im2 lm2 nm (adv b n r.1) (-1) h2 (((hag2.trans hr.2.2.1) 30 0 27 (by omega)).trans h27) (hnm.ag (hag2.trans hr.2.2.1))) rfl (kI ?_)
            rintro x45 m' ⟨im3, lm3, h3, rfl⟩
            rw [stP_y] at h3
            refine q_istore_n (t := 49) F dX9_added5_48 rfl (by decide) rfl rfl ?_
            refine q_iload_n (t := 50) F dX9_added5_49 rfl rfl rfl ?_
            refine q_if_eq (t := 53) (u := 59) F dX9_added5_50 (by first | exact hR _ _ _ | (constructor <;> omega)) (by decide) rfl (fun c50 => ?_) (fun c50 => ?_)
            · refine q_iload_n (t := 60) F dX9_added5_59 rfl rfl rfl ?_
              refine q_iload_n (t := 61) F dX9_added5_60 rfl rfl rfl ?_
              refine q_isub (t := 62) F dX9_added5_61 rfl ?_
              refine q_norm ?_
              refine q_istore_n (t := 63) F dX9_added5_62 rfl (by decide) rfl rfl ?_
              refine q_goto (t := 5) F dX9_added5_63 (by decide) ?_
              refine wp_less 3 ?_
              refine wp_less 2 ?_
              first
                | (exfalso; omega)
                | (have hop : opS (tk b n r.1) = -10 := by unfold opS; rw [if_pos (by omega)]
                   refine ih5 (k - 1) (lpS b n opS (termL b n 0) r) _ im3 lm3 (by omega) ?_ ?_ (RPO_step hr hq.1 hag2 hlg2 h3 (ri_b _) (by rw [hop]; exact bi2_10 _ _))
                   · rw [hlp]
                     obtain ⟨k', hk'⟩ : ∃ k', k = k' + 1 := ⟨k - 1, by omega⟩
                     rw [hk', loopP_y2 hq.1 (by rw [hop]; decide)]
                     rfl
                   · have := hgd.1
                     show n - (termL b n 0 (adv b n r.1)).1 ≤ k - 1
                     omega)
                | (have hop : opS (tk b n r.1) = -11 := by unfold opS; rw [if_neg (by omega), if_pos (by omega)]
                   refine ih5 (k - 1) (lpS b n opS (termL b n 0) r) _ im3 lm3 (by omega) ?_ ?_ (RPO_step hr hq.1 hag2 hlg2 h3 (ri_b _) (by rw [hop]; exact bi2_11 _ _))
                   · rw [hlp]
                     obtain ⟨k', hk'⟩ : ∃ k', k = k' + 1 := ⟨k - 1, by omega⟩
                     rw [hk', loopP_y2 hq.1 (by rw [hop]; decide)]
                     rfl
                   · have := hgd.1
                     show n - (termL b n 0 (adv b n r.1)).1 ≤ k - 1
                     omega)
            · refine q_iload_n (t := 54) F dX9_added5_53 rfl rfl rfl ?_
              refine q_iload_n (t := 55) F dX9_added5_54 rfl rfl rfl ?_
              refine q_iadd (t := 56) F dX9_added5_55 rfl ?_
              refine q_goto (t := 62) F dX9_added5_56 (by decide) ?_
              refine q_norm ?_
              refine q_istore_n (t := 63) F dX9_added5_62 rfl (by decide) rfl rfl ?_
              refine q_goto (t := 5) F dX9_added5_63 (by decide) ?_
              refine wp_less 3 ?_
              refine wp_less 2 ?_
              first
                | (exfalso; omega)
                | (have hop : opS (tk b n r.1) = -10 := by unfold opS; rw [if_pos (by omega)]
                   refine ih5 (k - 1) (lpS b n opS (termL b n 0) r) _ im3 lm3 (by omega) ?_ ?_ (RPO_step hr hq.1 hag2 hlg2 h3 (ri_b _) (by rw [hop]; exact bi2_10 _ _))
                   · rw [hlp]
                     obtain ⟨k', hk'⟩ : ∃ k', k = k' + 1 := ⟨k - 1, by omega⟩
                     rw [hk', loopP_y2 hq.1 (by rw [hop]; decide)]
                     rfl
                   · have := hgd.1
                     show n - (termL b n 0 (adv b n r.1)).1 ≤ k - 1
                     omega)
                | (have hop : opS (tk b n r.1) = -11 := by unfold opS; rw [if_neg (by omega), if_pos (by omega)]
                   refine ih5 (k - 1) (lpS b n opS (termL b n 0) r) _ im3 lm3 (by omega) ?_ ?_ (RPO_step hr hq.1 hag2 hlg2 h3 (ri_b _) (by rw [hop]; exact bi2_11 _ _))
                   · rw [hlp]
                     obtain ⟨k', hk'⟩ : ∃ k', k = k' + 1 := ⟨k - 1, by omega⟩
                     rw [hk', loopP_y2 hq.1 (by rw [hop]; decide)]
                     rfl
                   · have := hgd.1
                     show n - (termL b n 0 (adv b n r.1)).1 ≤ k - 1
                     omega)
  refine wp_less 3 ?_
  refine wp_less 2 ?_
  exact L5 _ 160 _ _ _ _ (Nat.lt_succ_self _) rfl (by omega) h0

set_option maxHeartbeats 4000000 in
theorem c_X9_both5 (l : Launch) (G : GS)  (bt rt : Nat)  (b : Nat → Int) (n : Nat) (hb : byt b n) (hO : RT l G bt rt b n yX9_not5 Y_X9_not5 (denL b n 0) 5) (im lm : IM) (nm : Nat → Int) (p : Nat) (f : Int) (h : PQ b n im lm p f) (h27 : im 30 0 27 = ((5 : Nat) : Int)) (hnm : NMr im nm) : Cn l (XR G) yX9_both5 Y_X9_both5 [vR 30 0] (im, rs bt rt, lm) (pI fun x m' => ∃ im' lm', RPO b n im lm nm (stP (bothL b n 0) p f) x im' lm' ∧ m' = (im', rs bt rt, lm')) := by
  refine cn_of (by decide) (okR G) rfl (Nat.le_of_ble_eq_true rfl) ?_
  intro M ad hMl F
  subst hMl
  have hn := hb.1
  have hR := h.2.1
  refine wp_pad 2 ?_
  show Wp M (XR G) ad Y_X9_both5 (pI fun x m' => ∃ im' lm', RPO b n im lm nm (stP (bothL b n 0) p f) x im' lm' ∧ m' = (im', rs bt rt, lm')) 0 [some (vR 30 0), none, none] [] (im, rs bt rt, lm)
  refine q_aload_n (t := 1) F dX9_both5_0 rfl rfl rfl ?_
  refine wp_callV (t := 4) [] F dX9_both5_1 k_X9_not5 v_X9_not5 ml_X9_244 rfl rfl rfl rfl (Nat.le_of_ble_eq_true rfl) (by decide) (m_30 (by omega)) (hO im lm nm p f h h27 hnm) rfl (kI ?_)
  rintro x1 m' ⟨im0, lm0, h0, rfl⟩
  refine q_istore_n (t := 5) F dX9_both5_4 rfl (by decide) rfl rfl ?_
  have L5 : ∀ (fz : Nat) (k : Nat) (r : PT) (v : Int) (im1 lm1 : IM), k < fz → loopP b n opA (denL b n 0) 160 (stP (denL b n 0) p f) = loopP b n opA (denL b n 0) k r → n - r.1 ≤ k → RPO b n im lm nm r v im1 lm1 → Wp M (XR G) ad Y_X9_both5 (pI fun x m' => ∃ im' lm', RPO b n im lm nm (stP (bothL b n 0) p f) x im' lm' ∧ m' = (im', rs bt rt, lm')) 5 [some (vR 30 0), some (vI v), none] [] (im1, rs bt rt, lm1) := by
    intro fz
    induction fz with
    | zero => intro k r v im1 lm1 h; exact absurd h (Nat.not_lt_zero _)
    | succ fz ih =>
      have ih5 := ih
      intro k r v im1 lm1 hmeas hlp hk hr
      have hti := tk_in b n r.1
      have hb1 := hr.2.1.b01
      have hrv := hr.1
      have hrv1 := hrv.1
      have hrv2 := hrv.2
      refine q_aload_n (t := 6) F dX9_both5_5 rfl rfl rfl ?_
      refine q_bipush (t := 8) F dX9_both5_6 (by decide) rfl ?_
      refine q_bipush (t := 10) F dX9_both5_8 (by decide) rfl ?_
      refine q_bipush (t := 12) F dX9_both5_10 (by decide) rfl ?_
      refine q_iconst (t := 13) F dX9_both5_12 rfl ?_
      refine q_iconst (t := 14) F dX9_both5_13 rfl ?_
      refine q_iconst (t := 15) F dX9_both5_14 rfl ?_
      refine q_iconst (t := 16) F dX9_both5_15 rfl ?_
      refine q_iconst (t := 17) F dX9_both5_16 rfl ?_
      refine wp_callV (t := 20) [_, _, _, _, _, _, _, _] F dX9_both5_17 k_X9_isWord_ v_X9_isWord_ ml_X9_199 rfl rfl rfl rfl (Nat.le_of_ble_eq_true rfl) (by decide) (m_30 (by omega)) (c_isKey _ G im1 bt rt lm1 b n hb r.1 r.2.1 hr.2.1 10 (by omega) (by omega) 8 (by omega) _ _ _ _ _ _ _ _ (by decide)) rfl (kI ?_)
      rintro x17 m' ⟨hx17, rfl⟩
      have hx17 := if01 hx17
      refine q_if_eq (t := 23) (u := 49) F dX9_both5_20 (by first | exact hR _ _ _ | (constructor <;> omega)) (by decide) rfl (fun c20 => ?_) (fun c20 => ?_)
      · refine q_iload_n (t := 50) F dX9_both5_49 rfl rfl rfl ?_
        refine q_iret F dX9_both5_50 rfl ?_
        have e : stP (bothL b n 0) p f = r := by
          have e0 : stP (bothL b n 0) p f = loopP b n opA (denL b n 0) 160 (stP (denL b n 0) p f) := stP_loop (F := denL b n 0) (k := 160)
          rw [e0, hlp]
          refine loopP_n (fun q => ?_)
          have q1 := q.1
          have q2 := q.2
          unfold opA at q2
          rw [if_neg (by omega)] at q2
          exact q2 rfl
        exact ⟨v, rfl, im1, lm1, by rw [e]; exact hr, rfl⟩
      · have hq : r.2.1 = -1 ∧ tk b n r.1 = 8 := by omega
        have hlt : r.1 < n := tk_lt (b := b) (by omega)
        have hop : opA (tk b n r.1) = -14 := by unfold opA; rw [if_pos hq.2]
        have hgd := PG_den b n 0 (adv b n r.1) (adv_in hlt).2
        have had := (adv_in (b := b) hlt).1
        have h11 := hr.2.1
        rw [hq.1] at h11
        refine q_aload_n (t := 24) F dX9_both5_23 rfl rfl rfl ?_
        refine wp_callV (t := 27) [] F dX9_both5_24 k_X9_next v_X9_next ml_X9_196 rfl rfl rfl rfl (Nat.le_of_ble_eq_true rfl) (by decide) (m_30 (by omega)) (c_nextQ _ G im1 bt rt lm1 b n hb r.1 h11 hlt (by omega)) rfl (kV ?_)
        rintro m' ⟨im2, lm2, h2, hag2, hlg2, rfl⟩
        refine q_aload_n (t := 28) F dX9_both5_27 rfl rfl rfl ?_
        refine wp_callV (t := 31) [] F dX9_both5_28 k_X9_not5 v_X9_not5 ml_X9_244 rfl rfl rfl rfl (Nat.le_of_ble_eq_true rfl) (by decide) (m_30 (by omega)) (hO im2 lm2 nm (adv b n r.1) (-1) h2 (((hag2.trans hr.2.2.1) 30 0 27 (by omega)).trans h27) (hnm.ag (hag2.trans hr.2.2.1))) rfl (kI ?_)
        rintro x28 m' ⟨im3, lm3, h3, rfl⟩
        rw [stP_y] at h3
        refine q_istore_n (t := 32) F dX9_both5_31 rfl (by decide) rfl rfl ?_
        refine q_iload_n (t := 33) F dX9_both5_32 rfl rfl rfl ?_
        refine q_if_eq (t := 36) (u := 44) F dX9_both5_33 (by exact hrv) (by decide) rfl (fun c33 => ?_) (fun c33 => ?_)
        · refine q_iconst (t := 45) F dX9_both5_44 rfl ?_
          refine q_istore_n (t := 46) F dX9_both5_45 rfl (by decide) rfl rfl ?_
          refine q_goto (t := 5) F dX9_both5_46 (by decide) ?_
          refine wp_less 2 ?_
          refine ih5 (k - 1) (lpS b n opA (denL b n 0) r) _ im3 lm3 (by omega) ?_ ?_ (RPO_step hr hq.1 hag2 hlg2 h3 (by constructor <;> omega) (by rw [hop]; refine Eq.trans ?_ (bi2_14 _ _); first | exact (if_pos (by omega)).symm | exact (if_neg (by omega)).symm))
          · rw [hlp]
            obtain ⟨k', hk'⟩ : ∃ k', k = k' + 1 := ⟨k - 1, by omega⟩
            rw [hk', loopP_y2 hq.1 (by rw [hop]; decide)]
            rfl
          · have := hgd.1
            show n - (denL b n 0 (adv b n r.1)).1 ≤ k - 1
            omega
        · refine q_iload_n (t := 37) F dX9_both5_36 rfl rfl rfl ?_
          refine q_if_eq (t := 40) (u := 44) F dX9_both5_37 (by exact h3.1) (by decide) rfl (fun c37 => ?_) (fun c37 => ?_)
          · refine q_iconst (t := 45) F dX9_both5_44 rfl ?_
            refine q_istore_n (t := 46) F dX9_both5_45 rfl (by decide) rfl rfl ?_
            refine q_goto (t := 5) F dX9_both5_46 (by decide) ?_
            refine wp_less 2 ?_
            refine ih5 (k - 1) (lpS b n opA (denL b n 0) r) _ im3 lm3 (by omega) ?_ ?_ (RPO_step hr hq.1 hag2 hlg2 h3 (by constructor <;> omega) (by rw [hop]; refine Eq.trans ?_ (bi2_14 _ _); first | exact (if_pos (by omega)).symm | exact (if_neg (by omega)).symm))
            · rw [hlp]
              obtain ⟨k', hk'⟩ : ∃ k', k = k' + 1 := ⟨k - 1, by omega⟩
              rw [hk', loopP_y2 hq.1 (by rw [hop]; decide)]
              rfl
            · have := hgd.1
              show n - (denL b n 0 (adv b n r.1)).1 ≤ k - 1
              omega
          · refine q_iconst (t := 41) F dX9_both5_40 rfl ?_
            refine q_goto (t := 45) F dX9_both5_41 (by decide) ?_
            refine q_istore_n (t := 46) F dX9_both5_45 rfl (by decide) rfl rfl ?_
            refine q_goto (t := 5) F dX9_both5_46 (by decide) ?_
            refine wp_less 2 ?_
            refine ih5 (k - 1) (lpS b n opA (denL b n 0) r) _ im3 lm3 (by omega) ?_ ?_ (RPO_step hr hq.1 hag2 hlg2 h3 (by constructor <;> omega) (by rw [hop]; refine Eq.trans ?_ (bi2_14 _ _); first | exact (if_pos (by omega)).symm | exact (if_neg (by omega)).symm))
            · rw [hlp]
              obtain ⟨k', hk'⟩ : ∃ k', k = k' + 1 := ⟨k - 1, by omega⟩
              rw [hk', loopP_y2 hq.1 (by rw [hop]; decide)]
              rfl
            · have := hgd.1
              show n - (denL b n 0 (adv b n r.1)).1 ≤ k - 1
              omega
  refine wp_less 2 ?_
  exact L5 _ 160 _ _ _ _ (Nat.lt_succ_self _) rfl (by omega) h0

set_option maxHeartbeats 4000000 in
theorem c_X9_either5 (l : Launch) (G : GS)  (bt rt : Nat)  (b : Nat → Int) (n : Nat) (hb : byt b n) (hO : RT l G bt rt b n yX9_both5 Y_X9_both5 (bothL b n 0) 5) (im lm : IM) (nm : Nat → Int) (p : Nat) (f : Int) (h : PQ b n im lm p f) (h27 : im 30 0 27 = ((5 : Nat) : Int)) (hnm : NMr im nm) : Cn l (XR G) yX9_either5 Y_X9_either5 [vR 30 0] (im, rs bt rt, lm) (pI fun x m' => ∃ im' lm', RPO b n im lm nm (stP (eitL b n 0) p f) x im' lm' ∧ m' = (im', rs bt rt, lm')) := by
  refine cn_of (by decide) (okR G) rfl (Nat.le_of_ble_eq_true rfl) ?_
  intro M ad hMl F
  subst hMl
  have hn := hb.1
  have hR := h.2.1
  refine wp_pad 2 ?_
  show Wp M (XR G) ad Y_X9_either5 (pI fun x m' => ∃ im' lm', RPO b n im lm nm (stP (eitL b n 0) p f) x im' lm' ∧ m' = (im', rs bt rt, lm')) 0 [some (vR 30 0), none, none] [] (im, rs bt rt, lm)
  refine q_aload_n (t := 1) F dX9_either5_0 rfl rfl rfl ?_
  refine wp_callV (t := 4) [] F dX9_either5_1 k_X9_both5 v_X9_both5 ml_X9_247 rfl rfl rfl rfl (Nat.le_of_ble_eq_true rfl) (by decide) (m_30 (by omega)) (hO im lm nm p f h h27 hnm) rfl (kI ?_)
  rintro x1 m' ⟨im0, lm0, h0, rfl⟩
  refine q_istore_n (t := 5) F dX9_either5_4 rfl (by decide) rfl rfl ?_
  have L5 : ∀ (fz : Nat) (k : Nat) (r : PT) (v : Int) (im1 lm1 : IM), k < fz → loopP b n opO (bothL b n 0) 160 (stP (bothL b n 0) p f) = loopP b n opO (bothL b n 0) k r → n - r.1 ≤ k → RPO b n im lm nm r v im1 lm1 → Wp M (XR G) ad Y_X9_either5 (pI fun x m' => ∃ im' lm', RPO b n im lm nm (stP (eitL b n 0) p f) x im' lm' ∧ m' = (im', rs bt rt, lm')) 5 [some (vR 30 0), some (vI v), none] [] (im1, rs bt rt, lm1) := by
    intro fz
    induction fz with
    | zero => intro k r v im1 lm1 h; exact absurd h (Nat.not_lt_zero _)
    | succ fz ih =>
      have ih5 := ih
      intro k r v im1 lm1 hmeas hlp hk hr
      have hti := tk_in b n r.1
      have hb1 := hr.2.1.b01
      have hrv := hr.1
      have hrv1 := hrv.1
      have hrv2 := hrv.2
      refine q_aload_n (t := 6) F dX9_either5_5 rfl rfl rfl ?_
      refine q_bipush (t := 8) F dX9_either5_6 (by decide) rfl ?_
      refine q_bipush (t := 10) F dX9_either5_8 (by decide) rfl ?_
      refine q_iconst (t := 11) F dX9_either5_10 rfl ?_
      refine q_iconst (t := 12) F dX9_either5_11 rfl ?_
      refine q_iconst (t := 13) F dX9_either5_12 rfl ?_
      refine q_iconst (t := 14) F dX9_either5_13 rfl ?_
      refine q_iconst (t := 15) F dX9_either5_14 rfl ?_
      refine q_iconst (t := 16) F dX9_either5_15 rfl ?_
      refine wp_callV (t := 19) [_, _, _, _, _, _, _, _] F dX9_either5_16 k_X9_isWord_ v_X9_isWord_ ml_X9_199 rfl rfl rfl rfl (Nat.le_of_ble_eq_true rfl) (by decide) (m_30 (by omega)) (c_isKey _ G im1 bt rt lm1 b n hb r.1 r.2.1 hr.2.1 9 (by omega) (by omega) 7 (by omega) _ _ _ _ _ _ _ _ (by decide)) rfl (kI ?_)
      rintro x16 m' ⟨hx16, rfl⟩
      have hx16 := if01 hx16
      refine q_if_eq (t := 22) (u := 48) F dX9_either5_19 (by first | exact hR _ _ _ | (constructor <;> omega)) (by decide) rfl (fun c19 => ?_) (fun c19 => ?_)
      · refine q_iload_n (t := 49) F dX9_either5_48 rfl rfl rfl ?_
        refine q_iret F dX9_either5_49 rfl ?_
        have e : stP (eitL b n 0) p f = r := by
          have e0 : stP (eitL b n 0) p f = loopP b n opO (bothL b n 0) 160 (stP (bothL b n 0) p f) := stP_loop (F := bothL b n 0) (k := 160)
          rw [e0, hlp]
          refine loopP_n (fun q => ?_)
          have q1 := q.1
          have q2 := q.2
          unfold opO at q2
          rw [if_neg (by omega)] at q2
          exact q2 rfl
        exact ⟨v, rfl, im1, lm1, by rw [e]; exact hr, rfl⟩
      · have hq : r.2.1 = -1 ∧ tk b n r.1 = 7 := by omega
        have hlt : r.1 < n := tk_lt (b := b) (by omega)
        have hop : opO (tk b n r.1) = -15 := by unfold opO; rw [if_pos hq.2]
        have hgd := PG_bothL b n 0 (adv b n r.1) (adv_in hlt).2
        have had := (adv_in (b := b) hlt).1
        have h11 := hr.2.1
        rw [hq.1] at h11
        refine q_aload_n (t := 23) F dX9_either5_22 rfl rfl rfl ?_
        refine wp_callV (t := 26) [] F dX9_either5_23 k_X9_next v_X9_next ml_X9_196 rfl rfl rfl rfl (Nat.le_of_ble_eq_true rfl) (by decide) (m_30 (by omega)) (c_nextQ _ G im1 bt rt lm1 b n hb r.1 h11 hlt (by omega)) rfl (kV ?_)
        rintro m' ⟨im2, lm2, h2, hag2, hlg2, rfl⟩
        refine q_aload_n (t := 27) F dX9_either5_26 rfl rfl rfl ?_
        refine wp_callV (t := 30) [] F dX9_either5_27 k_X9_both5 v_X9_both5 ml_X9_247 rfl rfl rfl rfl (Nat.le_of_ble_eq_true rfl) (by decide) (m_30 (by omega)) (hO im2 lm2 nm (adv b n r.1) (-1) h2 (((hag2.trans hr.2.2.1) 30 0 27 (by omega)).trans h27) (hnm.ag (hag2.trans hr.2.2.1))) rfl (kI ?_)
        rintro x27 m' ⟨im3, lm3, h3, rfl⟩
        rw [stP_y] at h3
        refine q_istore_n (t := 31) F dX9_either5_30 rfl (by decide) rfl rfl ?_
        refine q_iload_n (t := 32) F dX9_either5_31 rfl rfl rfl ?_
        refine q_if_ne (t := 35) (u := 39) F dX9_either5_32 (by exact hrv) (by decide) rfl (fun c32 => ?_) (fun c32 => ?_)
        · refine q_iconst (t := 40) F dX9_either5_39 rfl ?_
          refine q_goto (t := 44) F dX9_either5_40 (by decide) ?_
          refine q_istore_n (t := 45) F dX9_either5_44 rfl (by decide) rfl rfl ?_
          refine q_goto (t := 5) F dX9_either5_45 (by decide) ?_
          refine wp_less 2 ?_
          refine ih5 (k - 1) (lpS b n opO (bothL b n 0) r) _ im3 lm3 (by omega) ?_ ?_ (RPO_step hr hq.1 hag2 hlg2 h3 (by constructor <;> omega) (by rw [hop]; refine Eq.trans ?_ (bi2_15 _ _); first | exact (if_pos (by omega)).symm | exact (if_neg (by omega)).symm))
          · rw [hlp]
            obtain ⟨k', hk'⟩ : ∃ k', k = k' + 1 := ⟨k - 1, by omega⟩
            rw [hk', loopP_y2 hq.1 (by rw [hop]; decide)]
            rfl
          · have := hgd.1
            show n - (bothL b n 0 (adv b n r.1)).1 ≤ k - 1
            omega
        · refine q_iload_n (t := 36) F dX9_either5_35 rfl rfl rfl ?_
          refine q_if_eq (t := 39) (u := 43) F dX9_either5_36 (by exact h3.1) (by decide) rfl (fun c36 => ?_) (fun c36 => ?_)
          · refine q_iconst (t := 44) F dX9_either5_43 rfl ?_
            refine q_istore_n (t := 45) F dX9_either5_44 rfl (by decide) rfl rfl ?_
            refine q_goto (t := 5) F dX9_either5_45 (by decide) ?_
            refine wp_less 2 ?_
            refine ih5 (k - 1) (lpS b n opO (bothL b n 0) r) _ im3 lm3 (by omega) ?_ ?_ (RPO_step hr hq.1 hag2 hlg2 h3 (by constructor <;> omega) (by rw [hop]; refine Eq.trans ?_ (bi2_15 _ _); first | exact (if_pos (by omega)).symm | exact (if_neg (by omega)).symm))
            · rw [hlp]
              obtain ⟨k', hk'⟩ : ∃ k', k = k' + 1 := ⟨k - 1, by omega⟩
              rw [hk', loopP_y2 hq.1 (by rw [hop]; decide)]
              rfl
            · have := hgd.1
              show n - (bothL b n 0 (adv b n r.1)).1 ≤ k - 1
              omega
          · refine q_iconst (t := 40) F dX9_either5_39 rfl ?_
            refine q_goto (t := 44) F dX9_either5_40 (by decide) ?_
            refine q_istore_n (t := 45) F dX9_either5_44 rfl (by decide) rfl rfl ?_
            refine q_goto (t := 5) F dX9_either5_45 (by decide) ?_
            refine wp_less 2 ?_
            refine ih5 (k - 1) (lpS b n opO (bothL b n 0) r) _ im3 lm3 (by omega) ?_ ?_ (RPO_step hr hq.1 hag2 hlg2 h3 (by constructor <;> omega) (by rw [hop]; refine Eq.trans ?_ (bi2_15 _ _); first | exact (if_pos (by omega)).symm | exact (if_neg (by omega)).symm))
            · rw [hlp]
              obtain ⟨k', hk'⟩ : ∃ k', k = k' + 1 := ⟨k - 1, by omega⟩
              rw [hk', loopP_y2 hq.1 (by rw [hop]; decide)]
              rfl
            · have := hgd.1
              show n - (bothL b n 0 (adv b n r.1)).1 ≤ k - 1
              omega
  refine wp_less 2 ?_
  exact L5 _ 160 _ _ _ _ (Nat.lt_succ_self _) rfl (by omega) h0
