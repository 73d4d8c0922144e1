section
/-! the grammar -/
def CT (l : Launch) (G : GS) (bt j : Nat) (lm : IM) (b : Nat → Int) (n : Nat) (y : MethodName) (Y : YS) (F : Nat → PT) (o : Nat) : Prop := ∀ (im : IM) (p : Nat) (f : Int), PR b n j im p f → Cn l (XC G) y Y [vR 14 0, vI (o : Int)] (im, rs bt j, lm) (pV fun m' => ∃ im', PO b n j im (stP F p f) im' ∧ m' = (im', rs bt j, lm))
theorem PO.cg {b : Nat → Int} {n j : Nat} {im im' : IM} {r r' : PT} (h : PO b n j im r im') (e1 : r'.1 = r.1) (e2 : r'.2.1 = r.2.1) (e3 : r'.2.2.1 = r.2.2.1) : PO b n j im r' im' := by
  unfold PO
  rw [e1, e2, e3]
  exact h
theorem addM_c {im : IM} {j : Nat} {s : Int} (h : im 2 j 3 < 160) : addM im j s 2 j 3 = im 2 j 3 + 1 := by
  unfold addM
  rw [if_pos h, up_app, if_pos ⟨rfl, rfl, rfl⟩]
theorem stP_y {F : Nat → PT} {p : Nat} : stP F p (-1) = F p := by
  unfold stP
  rw [if_pos rfl]
theorem stP_n {F : Nat → PT} {p : Nat} {f : Int} (h : f ≠ -1) : stP F p f = (p, f, [], fun _ => 0) := by
  unfold stP
  rw [if_neg h]
theorem stP_loop {b : Nat → Int} {n : Nat} {op : Int → Int} {sub F : Nat → PT} {k p : Nat} {f : Int} : stP (fun q => loopP b n op sub k (F q)) p f = loopP b n op sub k (stP F p f) := by
  by_cases h : f = -1
  · subst h
    rw [stP_y, stP_y]
  · rw [stP_n h, stP_n h]
    exact (loopP_n (fun q => h q.1)).symm
/-- one more behind a sign -/
def lpS (b : Nat → Int) (n : Nat) (op : Int → Int) (sub : Nat → PT) (r : PT) : PT := ((sub (adv b n r.1)).1, (sub (adv b n r.1)).2.1, r.2.2.1 ++ (sub (adv b n r.1)).2.2.1 ++ [op (tk b n r.1)], fun nm => bi2 (op (tk b n r.1)) (r.2.2.2 nm) ((sub (adv b n r.1)).2.2.2 nm))
theorem loopP_y2 {b : Nat → Int} {n : Nat} {op : Int → Int} {sub : Nat → PT} {f : Nat} {r : PT} (h1 : r.2.1 = -1) (h2 : op (tk b n r.1) ≠ 0) : loopP b n op sub (f + 1) r = loopP b n op sub f (lpS b n op sub r) := loopP_y h1 h2
theorem LP_step {b : Nat → Int} {n j : Nat} {op : Int → Int} {sub : Nat → PT} {im im2 im3 im4 : IM} {r : PT} {s : Int} (hn : n ≤ 160) (hz : 0 ≤ im 2 j 3) (h : PO b n j im r im2) (h1 : r.2.1 = -1) (hs : op (tk b n r.1) = s) (hs2 : ri s) (hlt : r.1 < n) (h3 : PO b n j im2 (adv b n r.1, -1, [], fun _ => 0) im3) (hg : PG n sub) (h4 : PO b n j im3 (stP sub (adv b n r.1) (-1)) im4) : PO b n j im (lpS b n op sub r) (addM im4 j s) := by
  rw [stP_y] at h4
  have ha := adv_in (b := b) hlt
  have h13 := PO.seq0 (V := fun _ => 0) hz h (fun _ => h1) (fun _ => rfl) h3
  have h14 := PO.seq (V := fun _ => 0) hz h13 (fun _ => rfl) h4
  have h15 := PO.add (V := fun _ => 0) (s := s) hn hs2 h14 hz (fun q => ?_)
  · refine h15.cg rfl rfl ?_
    show _ ++ [op (tk b n r.1)] = _
    rw [hs]
  · have q2 : (sub (adv b n r.1)).2.1 = -1 := q
    have h5 := h4.2.2 q2
    have h6 := h3.2.2 rfl
    have h7 := h.1.2.2.2.2.2.2 h1
    have h8 := (hg (adv b n r.1) ha.2).2.2.1 q2
    have h9 := h5.1
    have h10 : im3 2 j 3 = im2 2 j 3 + 0 := h6.1
    show im4 2 j 3 < ((sub (adv b n r.1)).1 : Int)
    omega
theorem wrapK_1 (s : Int) (r : PT) (k : Nat) : (wrapK s k r).1 = r.1 ∧ (wrapK s k r).2.1 = r.2.1 := by
  induction k with
  | zero => exact ⟨rfl, rfl⟩
  | succ k ih => exact ih
theorem wrapK_s (s : Int) (r : PT) (k : Nat) : wrapK s (k + 1) r = wrap1 s (wrapK s k r) := rfl
theorem OAL_f {b : Nat → Int} {n : Nat} {key : Int} {m p : Nat} {f : Int} {m2 p2 : Nat} {f2 : Int} (h : OAL b n key m p f m2 p2 f2) (h2 : f2 = -1) : f = -1 ∧ opn b n key m p = (m2, p2) ∧ tk b n p2 ≠ key := by
  by_cases hf : f = -1
  · have h3 := h.1 hf
    refine ⟨hf, h3.1, fun q => ?_⟩
    have h4 := h3.2
    rw [if_pos q] at h4
    omega
  · have := (h.2 hf).2.2
    omega
theorem one_eq {b : Nat → Int} {n m p : Nat} {f : Int} {m2 p2 : Nat} {f2 : Int} (h : OAL b n 45 m p f m2 p2 f2) : (f2 = -1 → stP (oneL b n m) p f = wrapK (-7) (m - m2) (atomX b n m2 (eitB b n m2) p2)) ∧ (f2 ≠ -1 → stP (oneL b n m) p f = wrapK (-7) (m - m2) (p2, f2, [], fun _ => 0)) := by
  refine ⟨fun h2 => ?_, fun h2 => ?_⟩
  · obtain ⟨hf, ho, ht⟩ := OAL_f h h2
    subst hf
    rw [stP_y, oneL_opn, ho]
    show (if tk b n p2 = 45 then _ else _) = _
    rw [if_neg ht]
  · by_cases hf : f = -1
    · have h3 := h.1 hf
      have ht : tk b n p2 = 45 := by
        refine Classical.byContradiction (fun q => h2 ?_)
        rw [h3.2, if_neg q]
      subst hf
      rw [stP_y, oneL_opn, h3.1]
      show (if tk b n p2 = 45 then _ else _) = _
      rw [if_pos ht]
      have h4 := h3.2
      rw [if_pos ht] at h4
      rw [h4]
      rfl
    · obtain ⟨e1, e2, e3⟩ := h.2 hf
      subst e1 e2 e3
      rw [stP_n hf, Nat.sub_self]
      rfl
theorem den_eq {b : Nat → Int} {n m p : Nat} {f : Int} {m2 p2 : Nat} {f2 : Int} (h : OAL b n 9 m p f m2 p2 f2) : (f2 = -1 → stP (denL b n m) p f = wrapK (-8) (m - m2) (denX b n (oneL b n m2) p2)) ∧ (f2 ≠ -1 → stP (denL b n m) p f = wrapK (-8) (m - m2) (p2, f2, [], fun _ => 0)) := by
  refine ⟨fun h2 => ?_, fun h2 => ?_⟩
  · obtain ⟨hf, ho, ht⟩ := OAL_f h h2
    subst hf
    rw [stP_y, denL_opn, ho]
    show (if tk b n p2 = 9 then _ else _) = _
    rw [if_neg ht]
  · by_cases hf : f = -1
    · have h3 := h.1 hf
      have ht : tk b n p2 = 9 := by
        refine Classical.byContradiction (fun q => h2 ?_)
        rw [h3.2, if_neg q]
      subst hf
      rw [stP_y, denL_opn, h3.1]
      show (if tk b n p2 = 9 then _ else _) = _
      rw [if_pos ht]
      have h4 := h3.2
      rw [if_pos ht] at h4
      rw [h4]
      rfl
    · obtain ⟨e1, e2, e3⟩ := h.2 hf
      subst e1 e2 e3
      rw [stP_n hf, Nat.sub_self]
      rfl
theorem ap_add {im : IM} {j : Nat} {s : Int} (h0 : 0 ≤ im 2 j 3) (h : im 2 j 3 < 160) : ap j im [s] (addM im j s) := by
  have e3 : ∀ t : Nat, addM im j s 3 j t = if t = (im 2 j 3).toNat then s else im 3 j t := by
    intro t
    unfold addM
    rw [if_pos h, up_app, if_neg (by omega), up_app]
    by_cases ht : t = (im 2 j 3).toNat
    · rw [if_pos ⟨rfl, rfl, ht⟩, if_pos ht]
    · rw [if_neg (fun z => ht z.2.2), if_neg ht]
  refine ⟨addM_c h, fun t ht => ?_, fun t ht => ?_⟩
  · rw [e3, if_neg (by omega)]
  · have ht0 : t = 0 := by have : t < 1 := ht; omega
    subst ht0
    rw [e3, if_pos (by omega)]
    rfl
theorem atomX_par {b : Nat → Int} {n m p : Nat} {nE : Nat → PT} (h : tk b n p = 40) (hm : m ≠ 0) : (atomX b n m nE p).1 = (stP (exP b n 41) (nE (adv b n p)).1 (nE (adv b n p)).2.1).1 ∧ (atomX b n m nE p).2.1 = (stP (exP b n 41) (nE (adv b n p)).1 (nE (adv b n p)).2.1).2.1 ∧ (atomX b n m nE p).2.2.1 = (nE (adv b n p)).2.2.1 ∧ ((stP (exP b n 41) (nE (adv b n p)).1 (nE (adv b n p)).2.1).2.1 = -1 → (nE (adv b n p)).2.1 = -1 ∧ (stP (exP b n 41) (nE (adv b n p)).1 (nE (adv b n p)).2.1).2.2.1 = []) := by
  unfold atomX
  rw [if_pos ⟨h, hm⟩]
  by_cases h1 : (nE (adv b n p)).2.1 = -1
  · rw [if_pos h1, h1, stP_y]
    unfold exP
    by_cases h2 : tk b n (nE (adv b n p)).1 = 41
    · rw [if_pos h2, if_pos h2]
      exact ⟨rfl, rfl, rfl, fun _ => ⟨rfl, rfl⟩⟩
    · rw [if_neg h2, if_neg h2]
      exact ⟨rfl, rfl, rfl, fun _ => ⟨rfl, rfl⟩⟩
  · rw [if_neg h1, stP_n h1]
    exact ⟨rfl, rfl, rfl, fun q => absurd q h1⟩
/-- a number or a name, and on -/
theorem c_advN (l : Launch) (G : GS) (im : IM) (bt j : Nat) (lm : IM) (b : Nat → Int) (n : Nat) (hb : byt b n) (p : Nat) (s : Int) (hs : ri s) (h : PR b n j im p (-1)) (hlt : p < n) : Cn l (XC G) yX4_advance Y_X4_advance [vR 14 0] (addM im j s, rs bt j, lm) (pV fun m' => ∃ im', PO b n j im (adv b n p, -1, [s], fun _ => 0) im' ∧ m' = (im', rs bt j, lm)) := by
  obtain ⟨⟨a1, a2, a3, a4, a5⟩, hR, h15, h1, hst, hp, hf⟩ := h
  have hn := hb.1
  have hf2 := hf rfl
  have hc : im 2 j 3 < 160 := by omega
  have e14 : ∀ t, addM im j s 14 0 t = im 14 0 t := fun t => addM_k (by omega) (by omega)
  have ha := adv_in (b := b) hlt
  have hR2 : RI (addM im j s) := by
    unfold addM
    rw [if_pos hc]
    exact RI_up (RI_up hR hs) (by constructor <;> omega)
  refine (c_X4_advance l G (addM im j s) bt j lm b n hb hR2 ((funext fun t => addM_k (by omega) (by omega)).trans h15) ((e14 1).trans h1) (nx b n p) (nx_in hlt).2 ((e14 2).trans a1)).mono (fun r m' hq => ?_)
  obtain ⟨hr, im', hR', hag, hRS, hm⟩ := hq
  have e3 : ap j im [s] im' := by
    have := ap.app (L2 := []) hst.1 (ap_add (s := s) hst.1 hc) (ap_nil (hag 2 j 3 (by omega)) (fun t => hag 3 j t (by omega)))
    exact this
  refine ⟨hr, im', ⟨⟨⟨hRS.1, hRS.2.1, hRS.2.2.1, hRS.2.2.2.1, hRS.2.2.2.2.trans ((e14 6).trans a5)⟩, hR', (funext fun t => (hag 15 0 t (by omega)).trans (addM_k (by omega) (by omega))).trans h15, ((hag 14 0 1 (by omega)).trans (e14 1)).trans h1, ?_, ha.2, fun q => ?_⟩, fun k i t q1 q2 q3 => (hag k i t (by omega)).trans (addM_k q2 q3), fun _ => e3⟩, hm⟩
  · rw [hag 2 j 3 (by omega), addM_c hc]; omega
  · rw [hag 2 j 3 (by omega), addM_c hc]
    show im 2 j 3 + 1 ≤ (adv b n p : Nat)
    omega

set_option maxHeartbeats 4000000 in
theorem c_X4_one (l : Launch) (G : GS) (im : IM) (bt j : Nat) (lm : IM) (hj : j < 6) (b : Nat → Int) (n : Nat) (hb : byt b n) (m o : Nat) (hmo : m + o = 5) (hE : ∀ m2 o2, m2 + o2 = 5 → m2 < m → CT l G bt j lm b n yX4_either (Y_X4_either o2) (eitL b n m2) o2) (p : Nat) (f : Int) (h : PR b n j im p f) : Cn l (XC G) yX4_one (Y_X4_one o) [vR 14 0, vI (o : Int)] (im, rs bt j, lm) (pV fun m' => ∃ im', PO b n j im (stP (oneL b n m) p f) im' ∧ m' = (im', rs bt j, lm)) := by
  refine cn_of (by decide) (okC G) rfl (Nat.le_of_ble_eq_true rfl) ?_
  intro M ad hMl F
  subst hMl
  have hn := hb.1
  have hR := h.2.1
  have hz := h.z
  refine wp_pad 2 ?_
  show Wp M (XC G) ad (Y_X4_one o) (pV fun m' => ∃ im', PO b n j im (stP (oneL b n m) p f) im' ∧ m' = (im', rs bt j, lm)) 0 [some (vR 14 0), some (vI (o : Int)), none, none] [] (im, rs bt j, lm)
  have T97 : ∀ (m2 a2 p2 : Nat) (im3 : IM) (r : PT), m2 + a2 = 5 → m2 ≤ m → PO b n j im r im3 → stP (oneL b n m) p f = wrapK (-7) (m - m2) r → (r.2.1 = -1 → f = -1 ∧ p2 + r.2.2.1.length ≤ r.1) → p + (m - m2) ≤ p2 → Wp M (XC G) ad (Y_X4_one o) (pV fun m' => ∃ im', PO b n j im (stP (oneL b n m) p f) im' ∧ m' = (im', rs bt j, lm)) 97 [some (vR 14 0), some (vI (o : Int)), some (vI (a2 : Int)), none] [] (im3, rs bt j, lm) := by
    intro m2 a2 p2 im3 r hma2 hmm2 h3 heq hsl hpp
    refine q_iload_n (t := 98) F dX4_one_97 rfl rfl rfl ?_
    refine q_istore_n (t := 99) F dX4_one_98 rfl (by first | decide | exact Nat.le_of_ble_eq_true rfl) rfl rfl ?_
    have L99 : ∀ (fz : Nat) (k : Nat) (im1 : IM), m - m2 - k < fz → k ≤ m - m2 → PO b n j im (wrapK (-7) k r) im1 → (r.2.1 = -1 → im1 2 j 3 + ((m - m2 - k : Nat) : Int) ≤ r.1) → Wp M (XC G) ad (Y_X4_one o) (pV fun m' => ∃ im', PO b n j im (stP (oneL b n m) p f) im' ∧ m' = (im', rs bt j, lm)) 99 [some (vR 14 0), some (vI (o : Int)), some (vI (a2 : Int)), some (vI ((o + k : Nat) : Int))] [] (im1, rs bt j, lm) := by
      intro fz
      induction fz with
      | zero => intro k im1 h; exact absurd h (Nat.not_lt_zero _)
      | succ fz ih =>
        have ih99 := ih
        intro k im1 hmeas hk hk1 hks
        have hz1 := hk1.1.z
        have hR1 := hk1.1.2.1
        have hz2 := hk1.1.2.2.2.2.1.2
        have hwk := wrapK_1 (-7) r k
        have hle : r.1 ≤ n := h3.1.2.2.2.2.2.1
        refine q_iload_n (t := 100) F dX4_one_99 rfl rfl rfl ?_
        refine q_iload_n (t := 101) F dX4_one_100 rfl rfl rfl ?_
        refine q_icmp_ge (t := 104) (u := 119) F dX4_one_101 (by constructor <;> omega) (by constructor <;> omega) (by decide) rfl (fun c101 => ?_) (fun c101 => ?_)
        · refine q_vret F dX4_one_119 rfl ?_
          obtain rfl : k = m - m2 := by omega
          exact ⟨rfl, im1, by rw [heq]; exact hk1, rfl⟩
        · refine q_aload_n (t := 105) F dX4_one_104 rfl rfl rfl ?_
          refine g_X4_15 (t := 108) F dX4_one_105 rfl rfl ?_
          refine q_bipush (t := 110) F dX4_one_108 (by decide) rfl ?_
          refine wp_callV (t := 113) [_] F dX4_one_110 k_X6_add v_X6_add ml_X4_63 rfl rfl rfl rfl (Nat.le_of_ble_eq_true rfl) (by first | exact Nat.le_of_ble_eq_true rfl | (simp only [Y_X4_one, Y_X4_term, Y_X4_sum, Y_X4_denial, Y_X4_both, Y_X4_either, Y_X4_advance, Y_X6_add, Y_X4_at, Y_X4_fail, Y_X4_expect, Y_X4_openAll]; omega)) (m_2 (by omega)) (c_X6_add _ G _ bt j lm j hj _ hz1 hz2 hR1) rfl (kV ?_)
          rintro m' rfl
          refine q_iinc (t := 116) F dX4_one_113 rfl (by first | decide | exact Nat.le_of_ble_eq_true rfl) rfl rfl ?_
          refine q_goto (t := 99) F dX4_one_116 (by decide) ?_
          rw [show ((o + k : Nat) : Int) + 1 = ((o + (k + 1) : Nat) : Int) by omega]
          refine ih99 (k + 1) _ (by omega) (by omega) ?_ (fun q => ?_)
          · rw [wrapK_s]
            refine (PO.add (V := fun _ => 0) (s := -7) hn (by constructor <;> omega) hk1 hz (fun q => ?_)).cg rfl rfl rfl
            rw [hwk.2] at q
            have := hks q
            rw [hwk.1]
            omega
          · have := hks q
            rw [addM_c (by omega)]
            omega
    refine L99 _ 0 im3 (Nat.lt_succ_self _) (Nat.zero_le _) h3 (fun q => ?_)
    have q1 := (h3.2.2 q).1
    have q2 := hsl q
    have q3 := h.2.2.2.2.2.2 q2.1
    omega
  refine q_aload_n (t := 1) F dX4_one_0 rfl rfl rfl ?_
  refine q_bipush (t := 3) F dX4_one_1 (by decide) rfl ?_
  refine q_iload_n (t := 4) F dX4_one_3 rfl rfl rfl ?_
  refine wp_callV (t := 7) [_, _] F dX4_one_4 k_X4_openAll v_X4_openAll ml_X4_69 rfl rfl rfl rfl (Nat.le_of_ble_eq_true rfl) (by first | exact Nat.le_of_ble_eq_true rfl | (simp only [Y_X4_one, Y_X4_term, Y_X4_sum, Y_X4_denial, Y_X4_both, Y_X4_either, Y_X4_advance, Y_X6_add, Y_X4_at, Y_X4_fail, Y_X4_expect, Y_X4_openAll]; omega)) (m_14 (by omega)) (c_X4_openAll _ G im bt j lm b n hb 45 (by omega) (by omega) m o hmo p f h) rfl (kI ?_)
  rintro x4 m' ⟨im2, m2, a2, p2, f2, rfl, hma2, hmm2, hO, hpp, h2, rfl⟩
  have h22 : PR b n j im2 p2 f2 := h2.1
  have hR2 := h22.2.1
  have hp2 : p2 ≤ n := h22.2.2.2.2.2.1
  have g4 : im2 14 0 4 = tk b n p2 := h22.1.2.2.1
  have g6 : im2 14 0 6 = f2 := h22.1.2.2.2.2
  have hti := tk_in b n p2
  refine q_istore_n (t := 8) F dX4_one_7 rfl (by first | decide | exact Nat.le_of_ble_eq_true rfl) rfl rfl ?_
  refine q_aload_n (t := 9) F dX4_one_8 rfl rfl rfl ?_
  refine q_iconst (t := 10) F dX4_one_9 rfl ?_
  refine wp_callV (t := 13) [_] F dX4_one_10 k_X4_at v_X4_at ml_X4_47 rfl rfl rfl rfl (Nat.le_of_ble_eq_true rfl) (by first | exact Nat.le_of_ble_eq_true rfl | (simp only [Y_X4_one, Y_X4_term, Y_X4_sum, Y_X4_denial, Y_X4_both, Y_X4_either, Y_X4_advance, Y_X6_add, Y_X4_at, Y_X4_fail, Y_X4_expect, Y_X4_openAll]; omega)) (m_14 (by omega)) (c_X4_at _ G im2 bt j lm hR2 2 (by constructor <;> omega)) rfl (kI ?_)
  rintro x10 m' ⟨hx10, rfl⟩
  have hx10 := if01 hx10
  refine q_if_ne (t := 16) (u := 24) F dX4_one_13 (by first | exact hR _ _ _ | (constructor <;> omega)) (by decide) rfl (fun c13 => ?_) (fun c13 => ?_)
  · have hq : f2 = -1 ∧ (tk b n p2 = 2 ∨ tk b n p2 = 3) := by omega
    have hlt2 : p2 < n := tk_lt (b := b) (by omega)
    have hq1 : PR b n j im2 p2 (-1) := by
      have h0 := h22
      rw [hq.1] at h0
      exact h0
    have g5 : im2 14 0 5 = vl b n p2 := h22.1.2.2.2.1 hq.2
    have hv0 := hR2 14 0 5
    have hv1 := hv0.1
    have hv2 := hv0.2
    refine q_aload_n (t := 25) F dX4_one_24 rfl rfl rfl ?_
    refine g_X4_15 (t := 28) F dX4_one_25 rfl rfl ?_
    refine q_aload_n (t := 29) F dX4_one_28 rfl rfl rfl ?_
    refine g_X4_54 (t := 32) F dX4_one_29 rfl rfl ?_
    try simp only [up_app, row_app, scr_app, cpy_app, Nat.reduceEqDiff, Int.reduceToNat, Int.toNat_natCast, and_true, true_and, and_false, false_and, and_self, reduceIte]
    refine q_iconst (t := 33) F dX4_one_32 rfl ?_
    refine q_icmp_ne (t := 36) (u := 43) F dX4_one_33 (by rw [g4]; constructor <;> omega) (by constructor <;> omega) (by decide) rfl (fun c33 => ?_) (fun c33 => ?_)
    · have hvr : ri (-1 - im2 14 0 5) := by constructor <;> omega
      have hax : atomX b n m2 (eitB b n m2) p2 = (adv b n p2, -1, [-1 - im2 14 0 5], fun nm => nm (vl b n p2).toNat) := by
        unfold atomX
        rw [if_neg (by omega), if_neg (by omega), if_pos (by omega), g5]
      have hax1 : (atomX b n m2 (eitB b n m2) p2).1 = adv b n p2 := by rw [hax]
      have hax2 : (atomX b n m2 (eitB b n m2) p2).2.1 = -1 := by rw [hax]
      have hax3 : (atomX b n m2 (eitB b n m2) p2).2.2.1 = [-1 - im2 14 0 5] := by rw [hax]
      refine q_iconst (t := 44) F dX4_one_43 rfl ?_
      refine q_aload_n (t := 45) F dX4_one_44 rfl rfl rfl ?_
      refine g_X4_82 (t := 48) F dX4_one_45 rfl rfl ?_
      try simp only [up_app, row_app, scr_app, cpy_app, Nat.reduceEqDiff, Int.reduceToNat, Int.toNat_natCast, and_true, true_and, and_false, false_and, and_self, reduceIte]
      refine q_isub (t := 49) F dX4_one_48 rfl ?_
      refine wp_callV (t := 52) [_] F dX4_one_49 k_X6_add v_X6_add ml_X4_63 rfl rfl rfl rfl (Nat.le_of_ble_eq_true rfl) (by first | exact Nat.le_of_ble_eq_true rfl | (simp only [Y_X4_one, Y_X4_term, Y_X4_sum, Y_X4_denial, Y_X4_both, Y_X4_either, Y_X4_advance, Y_X6_add, Y_X4_at, Y_X4_fail, Y_X4_expect, Y_X4_openAll]; omega)) (m_2 (by omega)) (c_X6_add _ G im2 bt j lm j hj _ h22.2.2.2.2.1.1 h22.2.2.2.2.1.2 hR2) rfl (kV ?_)
      rintro m' rfl
      refine q_aload_n (t := 53) F dX4_one_52 rfl rfl rfl ?_
      refine wp_callV (t := 56) [] F dX4_one_53 k_X4_advance v_X4_advance ml_X4_34 rfl rfl rfl rfl (Nat.le_of_ble_eq_true rfl) (by first | exact Nat.le_of_ble_eq_true rfl | (simp only [Y_X4_one, Y_X4_term, Y_X4_sum, Y_X4_denial, Y_X4_both, Y_X4_either, Y_X4_advance, Y_X6_add, Y_X4_at, Y_X4_fail, Y_X4_expect, Y_X4_openAll]; omega)) (m_14 (by omega)) (c_advN _ G im2 bt j lm b n hb p2 _ hvr hq1 hlt2) rfl (kV ?_)
      rintro m' ⟨im5, h5, rfl⟩
      refine q_goto (t := 97) F dX4_one_56 (by decide) ?_
      exact T97 m2 a2 p2 im5 (atomX b n m2 (eitB b n m2) p2) hma2 hmm2 ((PO.seq (V := fun _ => 0) hz h2 (fun _ => hq.1) h5).cg hax1 hax2 hax3) ((one_eq hO).1 hq.1) (fun q => ⟨(OAL_f hO hq.1).1, ((PG_atomX (PG_eitB b n m2)) p2 hp2).2.2.1 q⟩) hpp
    · have hvr : ri (im2 14 0 5) := hv0
      have hax : atomX b n m2 (eitB b n m2) p2 = (adv b n p2, -1, [im2 14 0 5], fun _ => vl b n p2) := by
        unfold atomX
        rw [if_neg (by omega), if_pos (by omega), g5]
      have hax1 : (atomX b n m2 (eitB b n m2) p2).1 = adv b n p2 := by rw [hax]
      have hax2 : (atomX b n m2 (eitB b n m2) p2).2.1 = -1 := by rw [hax]
      have hax3 : (atomX b n m2 (eitB b n m2) p2).2.2.1 = [im2 14 0 5] := by rw [hax]
      refine q_aload_n (t := 37) F dX4_one_36 rfl rfl rfl ?_
      refine g_X4_82 (t := 40) F dX4_one_37 rfl rfl ?_
      try simp only [up_app, row_app, scr_app, cpy_app, Nat.reduceEqDiff, Int.reduceToNat, Int.toNat_natCast, and_true, true_and, and_false, false_and, and_self, reduceIte]
      refine q_goto (t := 49) F dX4_one_40 (by decide) ?_
      refine wp_callV (t := 52) [_] F dX4_one_49 k_X6_add v_X6_add ml_X4_63 rfl rfl rfl rfl (Nat.le_of_ble_eq_true rfl) (by first | exact Nat.le_of_ble_eq_true rfl | (simp only [Y_X4_one, Y_X4_term, Y_X4_sum, Y_X4_denial, Y_X4_both, Y_X4_either, Y_X4_advance, Y_X6_add, Y_X4_at, Y_X4_fail, Y_X4_expect, Y_X4_openAll]; omega)) (m_2 (by omega)) (c_X6_add _ G im2 bt j lm j hj _ h22.2.2.2.2.1.1 h22.2.2.2.2.1.2 hR2) rfl (kV ?_)
      rintro m' rfl
      refine q_aload_n (t := 53) F dX4_one_52 rfl rfl rfl ?_
      refine wp_callV (t := 56) [] F dX4_one_53 k_X4_advance v_X4_advance ml_X4_34 rfl rfl rfl rfl (Nat.le_of_ble_eq_true rfl) (by first | exact Nat.le_of_ble_eq_true rfl | (simp only [Y_X4_one, Y_X4_term, Y_X4_sum, Y_X4_denial, Y_X4_both, Y_X4_either, Y_X4_advance, Y_X6_add, Y_X4_at, Y_X4_fail, Y_X4_expect, Y_X4_openAll]; omega)) (m_14 (by omega)) (c_advN _ G im2 bt j lm b n hb p2 _ hvr hq1 hlt2) rfl (kV ?_)
      rintro m' ⟨im5, h5, rfl⟩
      refine q_goto (t := 97) F dX4_one_56 (by decide) ?_
      exact T97 m2 a2 p2 im5 (atomX b n m2 (eitB b n m2) p2) hma2 hmm2 ((PO.seq (V := fun _ => 0) hz h2 (fun _ => hq.1) h5).cg hax1 hax2 hax3) ((one_eq hO).1 hq.1) (fun q => ⟨(OAL_f hO hq.1).1, ((PG_atomX (PG_eitB b n m2)) p2 hp2).2.2.1 q⟩) hpp
  · refine q_aload_n (t := 17) F dX4_one_16 rfl rfl rfl ?_
    refine q_iconst (t := 18) F dX4_one_17 rfl ?_
    refine wp_callV (t := 21) [_] F dX4_one_18 k_X4_at v_X4_at ml_X4_47 rfl rfl rfl rfl (Nat.le_of_ble_eq_true rfl) (by first | exact Nat.le_of_ble_eq_true rfl | (simp only [Y_X4_one, Y_X4_term, Y_X4_sum, Y_X4_denial, Y_X4_both, Y_X4_either, Y_X4_advance, Y_X6_add, Y_X4_at, Y_X4_fail, Y_X4_expect, Y_X4_openAll]; omega)) (m_14 (by omega)) (c_X4_at _ G im2 bt j lm hR2 3 (by constructor <;> omega)) rfl (kI ?_)
    rintro x18 m' ⟨hx18, rfl⟩
    have hx18 := if01 hx18
    refine q_if_eq (t := 24) (u := 59) F dX4_one_21 (by first | exact hR _ _ _ | (constructor <;> omega)) (by decide) rfl (fun c21 => ?_) (fun c21 => ?_)
    · refine q_aload_n (t := 60) F dX4_one_59 rfl rfl rfl ?_
      refine q_bipush (t := 62) F dX4_one_60 (by decide) rfl ?_
      refine wp_callV (t := 65) [_] F dX4_one_62 k_X4_at v_X4_at ml_X4_47 rfl rfl rfl rfl (Nat.le_of_ble_eq_true rfl) (by first | exact Nat.le_of_ble_eq_true rfl | (simp only [Y_X4_one, Y_X4_term, Y_X4_sum, Y_X4_denial, Y_X4_both, Y_X4_either, Y_X4_advance, Y_X6_add, Y_X4_at, Y_X4_fail, Y_X4_expect, Y_X4_openAll]; omega)) (m_14 (by omega)) (c_X4_at _ G im2 bt j lm hR2 40 (by constructor <;> omega)) rfl (kI ?_)
      rintro x62 m' ⟨hx62, rfl⟩
      have hx62 := if01 hx62
      refine q_if_eq (t := 68) (u := 93) F dX4_one_65 (by first | exact hR _ _ _ | (constructor <;> omega)) (by decide) rfl (fun c65 => ?_) (fun c65 => ?_)
      · refine q_aload_n (t := 94) F dX4_one_93 rfl rfl rfl ?_
        refine wp_callV (t := 97) [] F dX4_one_94 k_X4_fail v_X4_fail ml_X4_51 rfl rfl rfl rfl (Nat.le_of_ble_eq_true rfl) (by first | exact Nat.le_of_ble_eq_true rfl | (simp only [Y_X4_one, Y_X4_term, Y_X4_sum, Y_X4_denial, Y_X4_both, Y_X4_either, Y_X4_advance, Y_X6_add, Y_X4_at, Y_X4_fail, Y_X4_expect, Y_X4_openAll]; omega)) (m_14 (by omega)) (c_X4_fail _ G im2 bt j lm hR2) rfl (kV ?_)
        rintro m' rfl
        have h5 := PO_fail (F := pFail) h22 (fun _ => rfl)
        by_cases hf2 : f2 = -1
        · have hat : atomX b n m2 (eitB b n m2) p2 = pFail p2 := by
            unfold atomX
            rw [if_neg (by omega), if_neg (by omega), if_neg (by omega)]
          refine T97 m2 a2 p2 _ (pFail p2) hma2 hmm2 ?_ (by rw [(one_eq hO).1 hf2, hat]) (fun q => ?_) hpp
          · rw [show stP pFail p2 f2 = pFail p2 by rw [hf2, stP_y]] at h5
            exact PO.seq0 (V := fun _ => 0) hz h2 (fun _ => hf2) (fun _ => rfl) h5
          · have : ((p2 : Nat) : Int) = -1 := q
            omega
        · refine T97 m2 a2 p2 _ (p2, f2, [], fun _ => 0) hma2 hmm2 ?_ ((one_eq hO).2 hf2) (fun q => absurd q hf2) hpp
          rw [stP_n hf2] at h5
          exact PO.seq0 (V := fun _ => 0) hz h2 (fun q => q) (fun _ => rfl) h5
      · refine q_iload_n (t := 69) F dX4_one_68 rfl rfl rfl ?_
        refine q_iconst (t := 70) F dX4_one_69 rfl ?_
        refine q_icmp_ge (t := 73) (u := 93) F dX4_one_70 (by constructor <;> omega) (by constructor <;> omega) (by decide) rfl (fun c70 => ?_) (fun c70 => ?_)
        · refine q_aload_n (t := 94) F dX4_one_93 rfl rfl rfl ?_
          refine wp_callV (t := 97) [] F dX4_one_94 k_X4_fail v_X4_fail ml_X4_51 rfl rfl rfl rfl (Nat.le_of_ble_eq_true rfl) (by first | exact Nat.le_of_ble_eq_true rfl | (simp only [Y_X4_one, Y_X4_term, Y_X4_sum, Y_X4_denial, Y_X4_both, Y_X4_either, Y_X4_advance, Y_X6_add, Y_X4_at, Y_X4_fail, Y_X4_expect, Y_X4_openAll]; omega)) (m_14 (by omega)) (c_X4_fail _ G im2 bt j lm hR2) rfl (kV ?_)
          rintro m' rfl
          have h5 := PO_fail (F := pFail) h22 (fun _ => rfl)
          by_cases hf2 : f2 = -1
          · have hat : atomX b n m2 (eitB b n m2) p2 = pFail p2 := by
              unfold atomX
              rw [if_neg (by omega), if_neg (by omega), if_neg (by omega)]
            refine T97 m2 a2 p2 _ (pFail p2) hma2 hmm2 ?_ (by rw [(one_eq hO).1 hf2, hat]) (fun q => ?_) hpp
            · rw [show stP pFail p2 f2 = pFail p2 by rw [hf2, stP_y]] at h5
              exact PO.seq0 (V := fun _ => 0) hz h2 (fun _ => hf2) (fun _ => rfl) h5
            · have : ((p2 : Nat) : Int) = -1 := q
              omega
          · refine T97 m2 a2 p2 _ (p2, f2, [], fun _ => 0) hma2 hmm2 ?_ ((one_eq hO).2 hf2) (fun q => absurd q hf2) hpp
            rw [stP_n hf2] at h5
            exact PO.seq0 (V := fun _ => 0) hz h2 (fun q => q) (fun _ => rfl) h5
        · refine q_aload_n (t := 74) F dX4_one_73 rfl rfl rfl ?_
          refine wp_callV (t := 77) [] F dX4_one_74 k_X4_advance v_X4_advance ml_X4_34 rfl rfl rfl rfl (Nat.le_of_ble_eq_true rfl) (by first | exact Nat.le_of_ble_eq_true rfl | (simp only [Y_X4_one, Y_X4_term, Y_X4_sum, Y_X4_denial, Y_X4_both, Y_X4_either, Y_X4_advance, Y_X6_add, Y_X4_at, Y_X4_fail, Y_X4_expect, Y_X4_openAll]; omega)) (m_14 (by omega)) (c_adv _ G im2 bt j lm b n hb p2 f2 h22) rfl (kV ?_)
          rintro m' ⟨im3, h3, rfl⟩
          have hq : f2 = -1 ∧ tk b n p2 = 40 ∧ m2 ≠ 0 := by omega
          have h3 := h3 (tk_lt (b := b) (by omega))
          rw [hq.1] at h3
          obtain ⟨m3, hm3⟩ : ∃ m3, m2 = m3 + 1 := ⟨m2 - 1, by omega⟩
          have heB : eitB b n m2 = eitL b n m3 := by rw [hm3]; rfl
          refine q_aload_n (t := 78) F dX4_one_77 rfl rfl rfl ?_
          refine q_iload_n (t := 79) F dX4_one_78 rfl rfl rfl ?_
          refine q_iconst (t := 80) F dX4_one_79 rfl ?_
          refine q_iadd (t := 81) F dX4_one_80 rfl ?_
          rw [show (a2 : Int) + 1 = ((a2 + 1 : Nat) : Int) by omega]
          refine wp_callV (t := 84) [_] F dX4_one_81 (k_X4_either _) v_X4_either ml_X4_41 rfl rfl rfl rfl (Nat.le_of_ble_eq_true rfl) (by first | exact Nat.le_of_ble_eq_true rfl | (simp only [Y_X4_one, Y_X4_term, Y_X4_sum, Y_X4_denial, Y_X4_both, Y_X4_either, Y_X4_advance, Y_X6_add, Y_X4_at, Y_X4_fail, Y_X4_expect, Y_X4_openAll]; omega)) (m_14 (by omega)) (hE m3 (a2 + 1) (by omega) (by omega) im3 (adv b n p2) (-1) h3.1) rfl (kV ?_)
          rintro m' ⟨im4, h4, rfl⟩
          rw [stP_y] at h4
          refine q_aload_n (t := 85) F dX4_one_84 rfl rfl rfl ?_
          refine q_bipush (t := 87) F dX4_one_85 (by decide) rfl ?_
          refine wp_callV (t := 90) [_] F dX4_one_87 k_X4_expect v_X4_expect ml_X4_37 rfl rfl rfl rfl (Nat.le_of_ble_eq_true rfl) (by first | exact Nat.le_of_ble_eq_true rfl | (simp only [Y_X4_one, Y_X4_term, Y_X4_sum, Y_X4_denial, Y_X4_both, Y_X4_either, Y_X4_advance, Y_X6_add, Y_X4_at, Y_X4_fail, Y_X4_expect, Y_X4_openAll]; omega)) (m_14 (by omega)) (c_X4_expect _ G im4 bt j lm b n hb 41 (by omega) (by omega) _ _ h4.1) rfl (kV ?_)
          rintro m' ⟨im5, h5, rfl⟩
          refine q_goto (t := 97) F dX4_one_90 (by decide) ?_
          have hap := atomX_par (b := b) (n := n) (m := m2) (p := p2) (nE := eitL b n m3) hq.2.1 hq.2.2
          have hpar : PO b n j im (atomX b n m2 (eitL b n m3) p2) im5 := by
            have k1 := PO.seq0 (V := fun _ => 0) hz h2 (fun _ => hq.1) (fun _ => rfl) h3
            have k2 := PO.seq (V := fun _ => 0) hz k1 (fun _ => rfl) h4
            have k3 := PO.seq0 (V := fun _ => 0) hz k2 (fun q => (hap.2.2.2 q).1) (fun q => (hap.2.2.2 q).2) h5
            exact k3.cg hap.1 hap.2.1 hap.2.2.1
          rw [← heB] at hpar
          exact T97 m2 a2 p2 im5 (atomX b n m2 (eitB b n m2) p2) hma2 hmm2 hpar ((one_eq hO).1 hq.1) (fun q => ⟨(OAL_f hO hq.1).1, ((PG_atomX (PG_eitB b n m2)) p2 hp2).2.2.1 q⟩) hpp
    · have hq : f2 = -1 ∧ (tk b n p2 = 2 ∨ tk b n p2 = 3) := by omega
      have hlt2 : p2 < n := tk_lt (b := b) (by omega)
      have hq1 : PR b n j im2 p2 (-1) := by
        have h0 := h22
        rw [hq.1] at h0
        exact h0
      have g5 : im2 14 0 5 = vl b n p2 := h22.1.2.2.2.1 hq.2
      have hv0 := hR2 14 0 5
      have hv1 := hv0.1
      have hv2 := hv0.2
      refine q_aload_n (t := 25) F dX4_one_24 rfl rfl rfl ?_
      refine g_X4_15 (t := 28) F dX4_one_25 rfl rfl ?_
      refine q_aload_n (t := 29) F dX4_one_28 rfl rfl rfl ?_
      refine g_X4_54 (t := 32) F dX4_one_29 rfl rfl ?_
      try simp only [up_app, row_app, scr_app, cpy_app, Nat.reduceEqDiff, Int.reduceToNat, Int.toNat_natCast, and_true, true_and, and_false, false_and, and_self, reduceIte]
      refine q_iconst (t := 33) F dX4_one_32 rfl ?_
      refine q_icmp_ne (t := 36) (u := 43) F dX4_one_33 (by rw [g4]; constructor <;> omega) (by constructor <;> omega) (by decide) rfl (fun c33 => ?_) (fun c33 => ?_)
      · have hvr : ri (-1 - im2 14 0 5) := by constructor <;> omega
        have hax : atomX b n m2 (eitB b n m2) p2 = (adv b n p2, -1, [-1 - im2 14 0 5], fun nm => nm (vl b n p2).toNat) := by
          unfold atomX
          rw [if_neg (by omega), if_neg (by omega), if_pos (by omega), g5]
        have hax1 : (atomX b n m2 (eitB b n m2) p2).1 = adv b n p2 := by rw [hax]
        have hax2 : (atomX b n m2 (eitB b n m2) p2).2.1 = -1 := by rw [hax]
        have hax3 : (atomX b n m2 (eitB b n m2) p2).2.2.1 = [-1 - im2 14 0 5] := by rw [hax]
        refine q_iconst (t := 44) F dX4_one_43 rfl ?_
        refine q_aload_n (t := 45) F dX4_one_44 rfl rfl rfl ?_
        refine g_X4_82 (t := 48) F dX4_one_45 rfl rfl ?_
        try simp only [up_app, row_app, scr_app, cpy_app, Nat.reduceEqDiff, Int.reduceToNat, Int.toNat_natCast, and_true, true_and, and_false, false_and, and_self, reduceIte]
        refine q_isub (t := 49) F dX4_one_48 rfl ?_
        refine wp_callV (t := 52) [_] F dX4_one_49 k_X6_add v_X6_add ml_X4_63 rfl rfl rfl rfl (Nat.le_of_ble_eq_true rfl) (by first | exact Nat.le_of_ble_eq_true rfl | (simp only [Y_X4_one, Y_X4_term, Y_X4_sum, Y_X4_denial, Y_X4_both, Y_X4_either, Y_X4_advance, Y_X6_add, Y_X4_at, Y_X4_fail, Y_X4_expect, Y_X4_openAll]; omega)) (m_2 (by omega)) (c_X6_add _ G im2 bt j lm j hj _ h22.2.2.2.2.1.1 h22.2.2.2.2.1.2 hR2) rfl (kV ?_)
        rintro m' rfl
        refine q_aload_n (t := 53) F dX4_one_52 rfl rfl rfl ?_
        refine wp_callV (t := 56) [] F dX4_one_53 k_X4_advance v_X4_advance ml_X4_34 rfl rfl rfl rfl (Nat.le_of_ble_eq_true rfl) (by first | exact Nat.le_of_ble_eq_true rfl | (simp only [Y_X4_one, Y_X4_term, Y_X4_sum, Y_X4_denial, Y_X4_both, Y_X4_either, Y_X4_advance, Y_X6_add, Y_X4_at, Y_X4_fail, Y_X4_expect, Y_X4_openAll]; omega)) (m_14 (by omega)) (c_advN _ G im2 bt j lm b n hb p2 _ hvr hq1 hlt2) rfl (kV ?_)
        rintro m' ⟨im5, h5, rfl⟩
        refine q_goto (t := 97) F dX4_one_56 (by decide) ?_
        exact T97 m2 a2 p2 im5 (atomX b n m2 (eitB b n m2) p2) hma2 hmm2 ((PO.seq (V := fun _ => 0) hz h2 (fun _ => hq.1) h5).cg hax1 hax2 hax3) ((one_eq hO).1 hq.1) (fun q => ⟨(OAL_f hO hq.1).1, ((PG_atomX (PG_eitB b n m2)) p2 hp2).2.2.1 q⟩) hpp
      · have hvr : ri (im2 14 0 5) := hv0
        have hax : atomX b n m2 (eitB b n m2) p2 = (adv b n p2, -1, [im2 14 0 5], fun _ => vl b n p2) := by
          unfold atomX
          rw [if_neg (by omega), if_pos (by omega), g5]
        have hax1 : (atomX b n m2 (eitB b n m2) p2).1 = adv b n p2 := by rw [hax]
        have hax2 : (atomX b n m2 (eitB b n m2) p2).2.1 = -1 := by rw [hax]
        have hax3 : (atomX b n m2 (eitB b n m2) p2).2.2.1 = [im2 14 0 5] := by rw [hax]
        refine q_aload_n (t := 37) F dX4_one_36 rfl rfl rfl ?_
        refine g_X4_82 (t := 40) F dX4_one_37 rfl rfl ?_
        try simp only [up_app, row_app, scr_app, cpy_app, Nat.reduceEqDiff, Int.reduceToNat, Int.toNat_natCast, and_true, true_and, and_false, false_and, and_self, reduceIte]
        refine q_goto (t := 49) F dX4_one_40 (by decide) ?_
        refine wp_callV (t := 52) [_] F dX4_one_49 k_X6_add v_X6_add ml_X4_63 rfl rfl rfl rfl (Nat.le_of_ble_eq_true rfl) (by first | exact Nat.le_of_ble_eq_true rfl | (simp only [Y_X4_one, Y_X4_term, Y_X4_sum, Y_X4_denial, Y_X4_both, Y_X4_either, Y_X4_advance, Y_X6_add, Y_X4_at, Y_X4_fail, Y_X4_expect, Y_X4_openAll]; omega)) (m_2 (by omega)) (c_X6_add _ G im2 bt j lm j hj _ h22.2.2.2.2.1.1 h22.2.2.2.2.1.2 hR2) rfl (kV ?_)
        rintro m' rfl
        refine q_aload_n (t := 53) F dX4_one_52 rfl rfl rfl ?_
        refine wp_callV (t := 56) [] F dX4_one_53 k_X4_advance v_X4_advance ml_X4_34 rfl rfl rfl rfl (Nat.le_of_ble_eq_true rfl) (by first | exact Nat.le_of_ble_eq_true rfl | (simp only [Y_X4_one, Y_X4_term, Y_X4_sum, Y_X4_denial, Y_X4_both, Y_X4_either, Y_X4_advance, Y_X6_add, Y_X4_at, Y_X4_fail, Y_X4_expect, Y_X4_openAll]; omega)) (m_14 (by omega)) (c_advN _ G im2 bt j lm b n hb p2 _ hvr hq1 hlt2) rfl (kV ?_)
        rintro m' ⟨im5, h5, rfl⟩
        refine q_goto (t := 97) F dX4_one_56 (by decide) ?_
        exact T97 m2 a2 p2 im5 (atomX b n m2 (eitB b n m2) p2) hma2 hmm2 ((PO.seq (V := fun _ => 0) hz h2 (fun _ => hq.1) h5).cg hax1 hax2 hax3) ((one_eq hO).1 hq.1) (fun q => ⟨(OAL_f hO hq.1).1, ((PG_atomX (PG_eitB b n m2)) p2 hp2).2.2.1 q⟩) hpp

set_option maxHeartbeats 4000000 in
theorem c_X4_term (l : Launch) (G : GS) (im : IM) (bt j : Nat) (lm : IM) (hj : j < 6) (b : Nat → Int) (n : Nat) (hb : byt b n) (m o : Nat) (hmo : m + o = 5) (hO : CT l G bt j lm b n yX4_one (Y_X4_one o) (oneL b n m) o) (p : Nat) (f : Int) (h : PR b n j im p f) : Cn l (XC G) yX4_term (Y_X4_term o) [vR 14 0, vI (o : Int)] (im, rs bt j, lm) (pV fun m' => ∃ im', PO b n j im (stP (termL b n m) p f) im' ∧ m' = (im', rs bt j, lm)) := by
  refine cn_of (by decide) (okC G) rfl (Nat.le_of_ble_eq_true rfl) ?_
  intro M ad hMl F
  subst hMl
  have hn := hb.1
  have hR := h.2.1
  have hz := h.z
  refine wp_pad 1 ?_
  show Wp M (XC G) ad (Y_X4_term o) (pV fun m' => ∃ im', PO b n j im (stP (termL b n m) p f) im' ∧ m' = (im', rs bt j, lm)) 0 [some (vR 14 0), some (vI (o : Int)), none] [] (im, rs bt j, lm)
  refine q_aload_n (t := 1) F dX4_term_0 rfl rfl rfl ?_
  refine q_iload_n (t := 2) F dX4_term_1 rfl rfl rfl ?_
  refine wp_callV (t := 5) [_] F dX4_term_2 (k_X4_one _) v_X4_one ml_X4_79 rfl rfl rfl rfl (Nat.le_of_ble_eq_true rfl) (by first | exact Nat.le_of_ble_eq_true rfl | (simp only [Y_X4_one, Y_X4_term, Y_X4_sum, Y_X4_denial, Y_X4_both, Y_X4_either, Y_X4_advance, Y_X6_add, Y_X4_at, Y_X4_fail, Y_X4_expect, Y_X4_openAll]; omega)) (m_14 (by omega)) (hO im p f h) rfl (kV ?_)
  rintro m' ⟨im0, h0, rfl⟩
  refine q_iconst (t := 6) F dX4_term_5 rfl ?_
  refine q_istore_n (t := 7) F dX4_term_6 rfl (by first | decide | exact Nat.le_of_ble_eq_true rfl) rfl rfl ?_
  have L7 : ∀ (fz : Nat) (i : Nat) (r : PT) (im1 : IM), 160 - i < fz → i ≤ 160 → loopP b n opM (oneL b n m) 160 (stP (oneL b n m) p f) = loopP b n opM (oneL b n m) (160 - i) r → PO b n j im r im1 → Wp M (XC G) ad (Y_X4_term o) (pV fun m' => ∃ im', PO b n j im (stP (termL b n m) p f) im' ∧ m' = (im', rs bt j, lm)) 7 [some (vR 14 0), some (vI (o : Int)), some (vI (i : Int))] [] (im1, rs bt j, lm) := by
    intro fz
    induction fz with
    | zero => intro i r im1 h; exact absurd h (Nat.not_lt_zero _)
    | succ fz ih =>
      have ih7 := ih
      intro i r im1 hmeas hi hlp hr
      have h11 : PR b n j im1 r.1 r.2.1 := hr.1
      have hR1 := h11.2.1
      have g4 : im1 14 0 4 = tk b n r.1 := h11.1.2.2.1
      have g6 : im1 14 0 6 = r.2.1 := h11.1.2.2.2.2
      have hti := tk_in b n r.1
      refine q_iload_n (t := 8) F dX4_term_7 rfl rfl rfl ?_
      refine q_sipush (t := 11) F dX4_term_8 (by decide) rfl ?_
      refine q_icmp_ge (t := 14) (u := 47) F dX4_term_11 (by constructor <;> omega) (by constructor <;> omega) (by decide) rfl (fun c11 => ?_) (fun c11 => ?_)
      · refine q_vret F dX4_term_47 rfl ?_
        have e : stP (termL b n m) p f = r := by
          have e0 : stP (termL b n m) p f = loopP b n opM (oneL b n m) 160 (stP (oneL b n m) p f) := stP_loop (F := oneL b n m) (k := 160)
          rw [e0, hlp]
          first
            | (rw [show 160 - i = 0 by omega]; rfl)
            | (refine loopP_n (fun q => ?_)
               have q2 := q.2
               unfold opM at q2
               rw [if_neg (by omega)] at q2
               exact q2 rfl)
        exact ⟨rfl, im1, by rw [e]; exact hr, rfl⟩
      · refine q_aload_n (t := 15) F dX4_term_14 rfl rfl rfl ?_
        refine q_bipush (t := 17) F dX4_term_15 (by decide) rfl ?_
        refine wp_callV (t := 20) [_] F dX4_term_17 k_X4_at v_X4_at ml_X4_47 rfl rfl rfl rfl (Nat.le_of_ble_eq_true rfl) (by first | exact Nat.le_of_ble_eq_true rfl | (simp only [Y_X4_one, Y_X4_term, Y_X4_sum, Y_X4_denial, Y_X4_both, Y_X4_either, Y_X4_advance, Y_X6_add, Y_X4_at, Y_X4_fail, Y_X4_expect, Y_X4_openAll]; omega)) (m_14 (by omega)) (c_X4_at _ G im1 bt j lm hR1 42 (by constructor <;> omega)) rfl (kI ?_)
        rintro x17 m' ⟨hx17, rfl⟩
        have hx17 := if01 hx17
        refine q_if_eq (t := 23) (u := 47) F dX4_term_20 (by first | exact hR _ _ _ | (constructor <;> omega)) (by decide) rfl (fun c20 => ?_) (fun c20 => ?_)
        · refine q_vret F dX4_term_47 rfl ?_
          have e : stP (termL b n m) p f = r := by
            have e0 : stP (termL b n m) p f = loopP b n opM (oneL b n m) 160 (stP (oneL b n m) p f) := stP_loop (F := oneL b n m) (k := 160)
            rw [e0, hlp]
            first
              | (rw [show 160 - i = 0 by omega]; rfl)
              | (refine loopP_n (fun q => ?_)
                 have q2 := q.2
                 unfold opM at q2
                 rw [if_neg (by omega)] at q2
                 exact q2 rfl)
          exact ⟨rfl, im1, by rw [e]; exact hr, rfl⟩
        · refine q_aload_n (t := 24) F dX4_term_23 rfl rfl rfl ?_
          refine wp_callV (t := 27) [] F dX4_term_24 k_X4_advance v_X4_advance ml_X4_34 rfl rfl rfl rfl (Nat.le_of_ble_eq_true rfl) (by first | exact Nat.le_of_ble_eq_true rfl | (simp only [Y_X4_one, Y_X4_term, Y_X4_sum, Y_X4_denial, Y_X4_both, Y_X4_either, Y_X4_advance, Y_X6_add, Y_X4_at, Y_X4_fail, Y_X4_expect, Y_X4_openAll]; omega)) (m_14 (by omega)) (c_adv _ G im1 bt j lm b n hb r.1 r.2.1 h11) rfl (kV ?_)
          rintro m' ⟨im2, h2, rfl⟩
          have hq : r.2.1 = -1 ∧ tk b n r.1 = 42 := by omega
          have hlt : r.1 < n := tk_lt (b := b) (by omega)
          have h2 := h2 hlt
          rw [hq.1] at h2
          have hop : opM (tk b n r.1) = -9 := by unfold opM; rw [if_pos hq.2]
          refine q_aload_n (t := 28) F dX4_term_27 rfl rfl rfl ?_
          refine q_iload_n (t := 29) F dX4_term_28 rfl rfl rfl ?_
          refine wp_callV (t := 32) [_] F dX4_term_29 (k_X4_one _) v_X4_one ml_X4_79 rfl rfl rfl rfl (Nat.le_of_ble_eq_true rfl) (by first | exact Nat.le_of_ble_eq_true rfl | (simp only [Y_X4_one, Y_X4_term, Y_X4_sum, Y_X4_denial, Y_X4_both, Y_X4_either, Y_X4_advance, Y_X6_add, Y_X4_at, Y_X4_fail, Y_X4_expect, Y_X4_openAll]; omega)) (m_14 (by omega)) (hO im2 (adv b n r.1) (-1) h2.1) rfl (kV ?_)
          rintro m' ⟨im3, h3, rfl⟩
          refine q_aload_n (t := 33) F dX4_term_32 rfl rfl rfl ?_
          refine g_X4_15 (t := 36) F dX4_term_33 rfl rfl ?_
          refine q_bipush (t := 38) F dX4_term_36 (by decide) rfl ?_
          refine wp_callV (t := 41) [_] F dX4_term_38 k_X6_add v_X6_add ml_X4_63 rfl rfl rfl rfl (Nat.le_of_ble_eq_true rfl) (by first | exact Nat.le_of_ble_eq_true rfl | (simp only [Y_X4_one, Y_X4_term, Y_X4_sum, Y_X4_denial, Y_X4_both, Y_X4_either, Y_X4_advance, Y_X6_add, Y_X4_at, Y_X4_fail, Y_X4_expect, Y_X4_openAll]; omega)) (m_2 (by omega)) (c_X6_add _ G im3 bt j lm j hj _ h3.1.2.2.2.2.1.1 h3.1.2.2.2.2.1.2 h3.1.2.1) rfl (kV ?_)
          rintro m' rfl
          refine q_iinc (t := 44) F dX4_term_41 rfl (by first | decide | exact Nat.le_of_ble_eq_true rfl) rfl rfl ?_
          refine q_goto (t := 7) F dX4_term_44 (by decide) ?_
          refine ih7 (i + 1) (lpS b n opM (oneL b n m) r) (addM im3 j (-9)) (by omega) (by omega) ?_ (LP_step hn hz hr hq.1 hop (by constructor <;> omega) hlt h2 (PG_one b n m) h3)
          rw [hlp, show 160 - i = (160 - (i + 1)) + 1 by omega, loopP_y2 hq.1 (by rw [hop]; decide)]
  exact L7 _ 0 _ im0 (Nat.lt_succ_self _) (Nat.zero_le _) rfl h0

theorem PG_termL (b : Nat → Int) (n m : Nat) : PG n (termL b n m) := PG_term (PG_one b n m)
theorem PG_sumL (b : Nat → Int) (n m : Nat) : PG n (sumL b n m) := PG_sum (PG_one b n m)
theorem PG_bothL (b : Nat → Int) (n m : Nat) : PG n (bothL b n m) := PG_both (PG_den b n m)

set_option maxHeartbeats 4000000 in
theorem c_X4_sum (l : Launch) (G : GS) (im : IM) (bt j : Nat) (lm : IM) (hj : j < 6) (b : Nat → Int) (n : Nat) (hb : byt b n) (m o : Nat) (hmo : m + o = 5) (hO : CT l G bt j lm b n yX4_term (Y_X4_term o) (termL b n m) o) (p : Nat) (f : Int) (h : PR b n j im p f) : Cn l (XC G) yX4_sum (Y_X4_sum o) [vR 14 0, vI (o : Int)] (im, rs bt j, lm) (pV fun m' => ∃ im', PO b n j im (stP (sumL b n m) p f) im' ∧ m' = (im', rs bt j, lm)) := by
  refine cn_of (by decide) (okC G) rfl (Nat.le_of_ble_eq_true rfl) ?_
  intro M ad hMl F
  subst hMl
  have hn := hb.1
  have hR := h.2.1
  have hz := h.z
  refine wp_pad 2 ?_
  show Wp M (XC G) ad (Y_X4_sum o) (pV fun m' => ∃ im', PO b n j im (stP (sumL b n m) p f) im' ∧ m' = (im', rs bt j, lm)) 0 [some (vR 14 0), some (vI (o : Int)), none, none] [] (im, rs bt j, lm)
  refine q_aload_n (t := 1) F dX4_sum_0 rfl rfl rfl ?_
  refine q_iload_n (t := 2) F dX4_sum_1 rfl rfl rfl ?_
  refine wp_callV (t := 5) [_] F dX4_sum_2 (k_X4_term _) v_X4_term ml_X4_76 rfl rfl rfl rfl (Nat.le_of_ble_eq_true rfl) (by first | exact Nat.le_of_ble_eq_true rfl | (simp only [Y_X4_one, Y_X4_term, Y_X4_sum, Y_X4_denial, Y_X4_both, Y_X4_either, Y_X4_advance, Y_X6_add, Y_X4_at, Y_X4_fail, Y_X4_expect, Y_X4_openAll]; omega)) (m_14 (by omega)) (hO im p f h) rfl (kV ?_)
  rintro m' ⟨im0, h0, rfl⟩
  refine q_iconst (t := 6) F dX4_sum_5 rfl ?_
  refine q_istore_n (t := 7) F dX4_sum_6 rfl (by first | decide | exact Nat.le_of_ble_eq_true rfl) rfl rfl ?_
  have L7 : ∀ (fz : Nat) (i : Nat) (r : PT) (im1 : IM), 160 - i < fz → i ≤ 160 → loopP b n opS (termL b n m) 160 (stP (termL b n m) p f) = loopP b n opS (termL b n m) (160 - i) r → PO b n j im r im1 → Wp M (XC G) ad (Y_X4_sum o) (pV fun m' => ∃ im', PO b n j im (stP (sumL b n m) p f) im' ∧ m' = (im', rs bt j, lm)) 7 [some (vR 14 0), some (vI (o : Int)), some (vI (i : Int)), none] [] (im1, rs bt j, lm) := by
    intro fz
    induction fz with
    | zero => intro i r im1 h; exact absurd h (Nat.not_lt_zero _)
    | succ fz ih =>
      have ih7 := ih
      intro i r im1 hmeas hi hlp hr
      have h11 : PR b n j im1 r.1 r.2.1 := hr.1
      have hR1 := h11.2.1
      have g4 : im1 14 0 4 = tk b n r.1 := h11.1.2.2.1
      have g6 : im1 14 0 6 = r.2.1 := h11.1.2.2.2.2
      have hti := tk_in b n r.1
      refine q_iload_n (t := 8) F dX4_sum_7 rfl rfl rfl ?_
      refine q_sipush (t := 11) F dX4_sum_8 (by decide) rfl ?_
      refine q_icmp_ge (t := 14) (u := 72) F dX4_sum_11 (by constructor <;> omega) (by constructor <;> omega) (by decide) rfl (fun c11 => ?_) (fun c11 => ?_)
      · refine q_vret F dX4_sum_72 rfl ?_
        have e : stP (sumL b n m) p f = r := by
          have e0 : stP (sumL b n m) p f = loopP b n opS (termL b n m) 160 (stP (termL b n m) p f) := stP_loop (F := termL b n m) (k := 160)
          rw [e0, hlp]
          first
            | (rw [show 160 - i = 0 by omega]; rfl)
            | (refine loopP_n (fun q => ?_)
               have q2 := q.2
               unfold opS at q2
               rw [if_neg (by omega), if_neg (by omega)] at q2
               exact q2 rfl)
        exact ⟨rfl, im1, by rw [e]; exact hr, rfl⟩
      · refine q_aload_n (t := 15) F dX4_sum_14 rfl rfl rfl ?_
        refine q_bipush (t := 17) F dX4_sum_15 (by decide) rfl ?_
        refine wp_callV (t := 20) [_] F dX4_sum_17 k_X4_at v_X4_at ml_X4_47 rfl rfl rfl rfl (Nat.le_of_ble_eq_true rfl) (by first | exact Nat.le_of_ble_eq_true rfl | (simp only [Y_X4_one, Y_X4_term, Y_X4_sum, Y_X4_denial, Y_X4_both, Y_X4_either, Y_X4_advance, Y_X6_add, Y_X4_at, Y_X4_fail, Y_X4_expect, Y_X4_openAll]; omega)) (m_14 (by omega)) (c_X4_at _ G im1 bt j lm hR1 43 (by constructor <;> omega)) rfl (kI ?_)
        rintro x17 m' ⟨hx17, rfl⟩
        have hx17 := if01 hx17
        refine q_if_ne (t := 23) (u := 32) F dX4_sum_20 (by first | exact hR _ _ _ | (constructor <;> omega)) (by decide) rfl (fun c20 => ?_) (fun c20 => ?_)
        · have hq : r.2.1 = -1 ∧ (tk b n r.1 = 43 ∨ tk b n r.1 = 45) := by omega
          refine q_aload_n (t := 33) F dX4_sum_32 rfl rfl rfl ?_
          refine g_X4_54 (t := 36) F dX4_sum_33 rfl rfl ?_
          try simp only [up_app, row_app, scr_app, cpy_app, Nat.reduceEqDiff, Int.reduceToNat, Int.toNat_natCast, and_true, true_and, and_false, false_and, and_self, reduceIte]
          refine q_bipush (t := 38) F dX4_sum_36 (by decide) rfl ?_
          refine q_icmp_ne (t := 41) (u := 46) F dX4_sum_38 (by rw [g4]; constructor <;> omega) (by constructor <;> omega) (by decide) rfl (fun c38 => ?_) (fun c38 => ?_)
          · have hop : opS (tk b n r.1) = -11 := by unfold opS; rw [if_neg (by omega), if_pos (by omega)]
            refine q_bipush (t := 48) F dX4_sum_46 (by decide) rfl ?_
            refine q_istore_n (t := 49) F dX4_sum_48 rfl (by first | decide | exact Nat.le_of_ble_eq_true rfl) rfl rfl ?_
            refine q_aload_n (t := 50) F dX4_sum_49 rfl rfl rfl ?_
            refine wp_callV (t := 53) [] F dX4_sum_50 k_X4_advance v_X4_advance ml_X4_34 rfl rfl rfl rfl (Nat.le_of_ble_eq_true rfl) (by first | exact Nat.le_of_ble_eq_true rfl | (simp only [Y_X4_one, Y_X4_term, Y_X4_sum, Y_X4_denial, Y_X4_both, Y_X4_either, Y_X4_advance, Y_X6_add, Y_X4_at, Y_X4_fail, Y_X4_expect, Y_X4_openAll]; omega)) (m_14 (by omega)) (c_adv _ G im1 bt j lm b n hb r.1 r.2.1 h11) rfl (kV ?_)
            rintro m' ⟨im2, h2, rfl⟩
            have hlt : r.1 < n := tk_lt (b := b) (by omega)
            have h2 := h2 hlt
            rw [hq.1] at h2
            refine q_aload_n (t := 54) F dX4_sum_53 rfl rfl rfl ?_
            refine q_iload_n (t := 55) F dX4_sum_54 rfl rfl rfl ?_
            refine wp_callV (t := 58) [_] F dX4_sum_55 (k_X4_term _) v_X4_term ml_X4_76 rfl rfl rfl rfl (Nat.le_of_ble_eq_true rfl) (by first | exact Nat.le_of_ble_eq_true rfl | (simp only [Y_X4_one, Y_X4_term, Y_X4_sum, Y_X4_denial, Y_X4_both, Y_X4_either, Y_X4_advance, Y_X6_add, Y_X4_at, Y_X4_fail, Y_X4_expect, Y_X4_openAll]; omega)) (m_14 (by omega)) (hO im2 (adv b n r.1) (-1) h2.1) rfl (kV ?_)
            rintro m' ⟨im3, h3, rfl⟩
            refine q_aload_n (t := 59) F dX4_sum_58 rfl rfl rfl ?_
            refine g_X4_15 (t := 62) F dX4_sum_59 rfl rfl ?_
            refine q_iload_n (t := 63) F dX4_sum_62 rfl rfl rfl ?_
            refine wp_callV (t := 66) [_] F dX4_sum_63 k_X6_add v_X6_add ml_X4_63 rfl rfl rfl rfl (Nat.le_of_ble_eq_true rfl) (by first | exact Nat.le_of_ble_eq_true rfl | (simp only [Y_X4_one, Y_X4_term, Y_X4_sum, Y_X4_denial, Y_X4_both, Y_X4_either, Y_X4_advance, Y_X6_add, Y_X4_at, Y_X4_fail, Y_X4_expect, Y_X4_openAll]; omega)) (m_2 (by omega)) (c_X6_add _ G im3 bt j lm j hj _ h3.1.2.2.2.2.1.1 h3.1.2.2.2.2.1.2 h3.1.2.1) rfl (kV ?_)
            rintro m' rfl
            refine q_iinc (t := 69) F dX4_sum_66 rfl (by first | decide | exact Nat.le_of_ble_eq_true rfl) rfl rfl ?_
            refine q_goto (t := 7) F dX4_sum_69 (by decide) ?_
            refine wp_less 3 ?_
            refine ih7 (i + 1) (lpS b n opS (termL b n m) r) _ (by omega) (by omega) ?_ (LP_step hn hz hr hq.1 hop (by constructor <;> omega) hlt h2 (PG_termL b n m) h3)
            rw [hlp, show 160 - i = (160 - (i + 1)) + 1 by omega, loopP_y2 hq.1 (by rw [hop]; decide)]
          · have hop : opS (tk b n r.1) = -10 := by unfold opS; rw [if_pos (by omega)]
            refine q_bipush (t := 43) F dX4_sum_41 (by decide) rfl ?_
            refine q_goto (t := 48) F dX4_sum_43 (by decide) ?_
            refine q_istore_n (t := 49) F dX4_sum_48 rfl (by first | decide | exact Nat.le_of_ble_eq_true rfl) rfl rfl ?_
            refine q_aload_n (t := 50) F dX4_sum_49 rfl rfl rfl ?_
            refine wp_callV (t := 53) [] F dX4_sum_50 k_X4_advance v_X4_advance ml_X4_34 rfl rfl rfl rfl (Nat.le_of_ble_eq_true rfl) (by first | exact Nat.le_of_ble_eq_true rfl | (simp only [Y_X4_one, Y_X4_term, Y_X4_sum, Y_X4_denial, Y_X4_both, Y_X4_either, Y_X4_advance, Y_X6_add, Y_X4_at, Y_X4_fail, Y_X4_expect, Y_X4_openAll]; omega)) (m_14 (by omega)) (c_adv _ G im1 bt j lm b n hb r.1 r.2.1 h11) rfl (kV ?_)
            rintro m' ⟨im2, h2, rfl⟩
            have hlt : r.1 < n := tk_lt (b := b) (by omega)
            have h2 := h2 hlt
            rw [hq.1] at h2
            refine q_aload_n (t := 54) F dX4_sum_53 rfl rfl rfl ?_
            refine q_iload_n (t := 55) F dX4_sum_54 rfl rfl rfl ?_
            refine wp_callV (t := 58) [_] F dX4_sum_55 (k_X4_term _) v_X4_term ml_X4_76 rfl rfl rfl rfl (Nat.le_of_ble_eq_true rfl) (by first | exact Nat.le_of_ble_eq_true rfl | (simp only [Y_X4_one, Y_X4_term, Y_X4_sum, Y_X4_denial, Y_X4_both, Y_X4_either, Y_X4_advance, Y_X6_add, Y_X4_at, Y_X4_fail, Y_X4_expect, Y_X4_openAll]; omega)) (m_14 (by omega)) (hO im2 (adv b n r.1) (-1) h2.1) rfl (kV ?_)
            rintro m' ⟨im3, h3, rfl⟩
            refine q_aload_n (t := 59) F dX4_sum_58 rfl rfl rfl ?_
            refine g_X4_15 (t := 62) F dX4_sum_59 rfl rfl ?_
            refine q_iload_n (t := 63) F dX4_sum_62 rfl rfl rfl ?_
            refine wp_callV (t := 66) [_] F dX4_sum_63 k_X6_add v_X6_add ml_X4_63 rfl rfl rfl rfl (Nat.le_of_ble_eq_true rfl) (by first | exact Nat.le_of_ble_eq_true rfl | (simp only [Y_X4_one, Y_X4_term, Y_X4_sum, Y_X4_denial, Y_X4_both, Y_X4_either, Y_X4_advance, Y_X6_add, Y_X4_at, Y_X4_fail, Y_X4_expect, Y_X4_openAll]; omega)) (m_2 (by omega)) (c_X6_add _ G im3 bt j lm j hj _ h3.1.2.2.2.2.1.1 h3.1.2.2.2.2.1.2 h3.1.2.1) rfl (kV ?_)
            rintro m' rfl
            refine q_iinc (t := 69) F dX4_sum_66 rfl (by first | decide | exact Nat.le_of_ble_eq_true rfl) rfl rfl ?_
            refine q_goto (t := 7) F dX4_sum_69 (by decide) ?_
            refine wp_less 3 ?_
            refine ih7 (i + 1) (lpS b n opS (termL b n m) r) _ (by omega) (by omega) ?_ (LP_step hn hz hr hq.1 hop (by constructor <;> omega) hlt h2 (PG_termL b n m) h3)
            rw [hlp, show 160 - i = (160 - (i + 1)) + 1 by omega, loopP_y2 hq.1 (by rw [hop]; decide)]
        · refine q_aload_n (t := 24) F dX4_sum_23 rfl rfl rfl ?_
          refine q_bipush (t := 26) F dX4_sum_24 (by decide) rfl ?_
          refine wp_callV (t := 29) [_] F dX4_sum_26 k_X4_at v_X4_at ml_X4_47 rfl rfl rfl rfl (Nat.le_of_ble_eq_true rfl) (by first | exact Nat.le_of_ble_eq_true rfl | (simp only [Y_X4_one, Y_X4_term, Y_X4_sum, Y_X4_denial, Y_X4_both, Y_X4_either, Y_X4_advance, Y_X6_add, Y_X4_at, Y_X4_fail, Y_X4_expect, Y_X4_openAll]; omega)) (m_14 (by omega)) (c_X4_at _ G im1 bt j lm hR1 45 (by constructor <;> omega)) rfl (kI ?_)
          rintro x26 m' ⟨hx26, rfl⟩
          have hx26 := if01 hx26
          refine q_if_eq (t := 32) (u := 72) F dX4_sum_29 (by first | exact hR _ _ _ | (constructor <;> omega)) (by decide) rfl (fun c29 => ?_) (fun c29 => ?_)
          · refine q_vret F dX4_sum_72 rfl ?_
            have e : stP (sumL b n m) p f = r := by
              have e0 : stP (sumL b n m) p f = loopP b n opS (termL b n m) 160 (stP (termL b n m) p f) := stP_loop (F := termL b n m) (k := 160)
              rw [e0, hlp]
              first
                | (rw [show 160 - i = 0 by omega]; rfl)
                | (refine loopP_n (fun q => ?_)
                   have q2 := q.2
                   unfold opS at q2
                   rw [if_neg (by omega), if_neg (by omega)] at q2
                   exact q2 rfl)
            exact ⟨rfl, im1, by rw [e]; exact hr, rfl⟩
          · have hq : r.2.1 = -1 ∧ (tk b n r.1 = 43 ∨ tk b n r.1 = 45) := by omega
            refine q_aload_n (t := 33) F dX4_sum_32 rfl rfl rfl ?_
            refine g_X4_54 (t := 36) F dX4_sum_33 rfl rfl ?_
            try simp only [up_app, row_app, scr_app, cpy_app, Nat.reduceEqDiff, Int.reduceToNat, Int.toNat_natCast, and_true, true_and, and_false, false_and, and_self, reduceIte]
            refine q_bipush (t := 38) F dX4_sum_36 (by decide) rfl ?_
            refine q_icmp_ne (t := 41) (u := 46) F dX4_sum_38 (by rw [g4]; constructor <;> omega) (by constructor <;> omega) (by decide) rfl (fun c38 => ?_) (fun c38 => ?_)
            · have hop : opS (tk b n r.1) = -11 := by unfold opS; rw [if_neg (by omega), if_pos (by omega)]
              refine q_bipush (t := 48) F dX4_sum_46 (by decide) rfl ?_
              refine q_istore_n (t := 49) F dX4_sum_48 rfl (by first | decide | exact Nat.le_of_ble_eq_true rfl) rfl rfl ?_
              refine q_aload_n (t := 50) F dX4_sum_49 rfl rfl rfl ?_
              refine wp_callV (t := 53) [] F dX4_sum_50 k_X4_advance v_X4_advance ml_X4_34 rfl rfl rfl rfl (Nat.le_of_ble_eq_true rfl) (by first | exact Nat.le_of_ble_eq_true rfl | (simp only [Y_X4_one, Y_X4_term, Y_X4_sum, Y_X4_denial, Y_X4_both, Y_X4_either, Y_X4_advance, Y_X6_add, Y_X4_at, Y_X4_fail, Y_X4_expect, Y_X4_openAll]; omega)) (m_14 (by omega)) (c_adv _ G im1 bt j lm b n hb r.1 r.2.1 h11) rfl (kV ?_)
              rintro m' ⟨im2, h2, rfl⟩
              have hlt : r.1 < n := tk_lt (b := b) (by omega)
              have h2 := h2 hlt
              rw [hq.1] at h2
              refine q_aload_n (t := 54) F dX4_sum_53 rfl rfl rfl ?_
              refine q_iload_n (t := 55) F dX4_sum_54 rfl rfl rfl ?_
              refine wp_callV (t := 58) [_] F dX4_sum_55 (k_X4_term _) v_X4_term ml_X4_76 rfl rfl rfl rfl (Nat.le_of_ble_eq_true rfl) (by first | exact Nat.le_of_ble_eq_true rfl | (simp only [Y_X4_one, Y_X4_term, Y_X4_sum, Y_X4_denial, Y_X4_both, Y_X4_either, Y_X4_advance, Y_X6_add, Y_X4_at, Y_X4_fail, Y_X4_expect, Y_X4_openAll]; omega)) (m_14 (by omega)) (hO im2 (adv b n r.1) (-1) h2.1) rfl (kV ?_)
              rintro m' ⟨im3, h3, rfl⟩
              refine q_aload_n (t := 59) F dX4_sum_58 rfl rfl rfl ?_
              refine g_X4_15 (t := 62) F dX4_sum_59 rfl rfl ?_
              refine q_iload_n (t := 63) F dX4_sum_62 rfl rfl rfl ?_
              refine wp_callV (t := 66) [_] F dX4_sum_63 k_X6_add v_X6_add ml_X4_63 rfl rfl rfl rfl (Nat.le_of_ble_eq_true rfl) (by first | exact Nat.le_of_ble_eq_true rfl | (simp only [Y_X4_one, Y_X4_term, Y_X4_sum, Y_X4_denial, Y_X4_both, Y_X4_either, Y_X4_advance, Y_X6_add, Y_X4_at, Y_X4_fail, Y_X4_expect, Y_X4_openAll]; omega)) (m_2 (by omega)) (c_X6_add _ G im3 bt j lm j hj _ h3.1.2.2.2.2.1.1 h3.1.2.2.2.2.1.2 h3.1.2.1) rfl (kV ?_)
              rintro m' rfl
              refine q_iinc (t := 69) F dX4_sum_66 rfl (by first | decide | exact Nat.le_of_ble_eq_true rfl) rfl rfl ?_
              refine q_goto (t := 7) F dX4_sum_69 (by decide) ?_
              refine wp_less 3 ?_
              refine ih7 (i + 1) (lpS b n opS (termL b n m) r) _ (by omega) (by omega) ?_ (LP_step hn hz hr hq.1 hop (by constructor <;> omega) hlt h2 (PG_termL b n m) h3)
              rw [hlp, show 160 - i = (160 - (i + 1)) + 1 by omega, loopP_y2 hq.1 (by rw [hop]; decide)]
            · have hop : opS (tk b n r.1) = -10 := by unfold opS; rw [if_pos (by omega)]
              refine q_bipush (t := 43) F dX4_sum_41 (by decide) rfl ?_
              refine q_goto (t := 48) F dX4_sum_43 (by decide) ?_
              refine q_istore_n (t := 49) F dX4_sum_48 rfl (by first | decide | exact Nat.le_of_ble_eq_true rfl) rfl rfl ?_
              refine q_aload_n (t := 50) F dX4_sum_49 rfl rfl rfl ?_
              refine wp_callV (t := 53) [] F dX4_sum_50 k_X4_advance v_X4_advance ml_X4_34 rfl rfl rfl rfl (Nat.le_of_ble_eq_true rfl) (by first | exact Nat.le_of_ble_eq_true rfl | (simp only [Y_X4_one, Y_X4_term, Y_X4_sum, Y_X4_denial, Y_X4_both, Y_X4_either, Y_X4_advance, Y_X6_add, Y_X4_at, Y_X4_fail, Y_X4_expect, Y_X4_openAll]; omega)) (m_14 (by omega)) (c_adv _ G im1 bt j lm b n hb r.1 r.2.1 h11) rfl (kV ?_)
              rintro m' ⟨im2, h2, rfl⟩
              have hlt : r.1 < n := tk_lt (b := b) (by omega)
              have h2 := h2 hlt
              rw [hq.1] at h2
              refine q_aload_n (t := 54) F dX4_sum_53 rfl rfl rfl ?_
              refine q_iload_n (t := 55) F dX4_sum_54 rfl rfl rfl ?_
              refine wp_callV (t := 58) [_] F dX4_sum_55 (k_X4_term _) v_X4_term ml_X4_76 rfl rfl rfl rfl (Nat.le_of_ble_eq_true rfl) (by first | exact Nat.le_of_ble_eq_true rfl | (simp only [Y_X4_one, Y_X4_term, Y_X4_sum, Y_X4_denial, Y_X4_both, Y_X4_either, Y_X4_advance, Y_X6_add, Y_X4_at, Y_X4_fail, Y_X4_expect, Y_X4_openAll]; omega)) (m_14 (by omega)) (hO im2 (adv b n r.1) (-1) h2.1) rfl (kV ?_)
              rintro m' ⟨im3, h3, rfl⟩
              refine q_aload_n (t := 59) F dX4_sum_58 rfl rfl rfl ?_
              refine g_X4_15 (t := 62) F dX4_sum_59 rfl rfl ?_
              refine q_iload_n (t := 63) F dX4_sum_62 rfl rfl rfl ?_
              refine wp_callV (t := 66) [_] F dX4_sum_63 k_X6_add v_X6_add ml_X4_63 rfl rfl rfl rfl (Nat.le_of_ble_eq_true rfl) (by first | exact Nat.le_of_ble_eq_true rfl | (simp only [Y_X4_one, Y_X4_term, Y_X4_sum, Y_X4_denial, Y_X4_both, Y_X4_either, Y_X4_advance, Y_X6_add, Y_X4_at, Y_X4_fail, Y_X4_expect, Y_X4_openAll]; omega)) (m_2 (by omega)) (c_X6_add _ G im3 bt j lm j hj _ h3.1.2.2.2.2.1.1 h3.1.2.2.2.2.1.2 h3.1.2.1) rfl (kV ?_)
              rintro m' rfl
              refine q_iinc (t := 69) F dX4_sum_66 rfl (by first | decide | exact Nat.le_of_ble_eq_true rfl) rfl rfl ?_
              refine q_goto (t := 7) F dX4_sum_69 (by decide) ?_
              refine wp_less 3 ?_
              refine ih7 (i + 1) (lpS b n opS (termL b n m) r) _ (by omega) (by omega) ?_ (LP_step hn hz hr hq.1 hop (by constructor <;> omega) hlt h2 (PG_termL b n m) h3)
              rw [hlp, show 160 - i = (160 - (i + 1)) + 1 by omega, loopP_y2 hq.1 (by rw [hop]; decide)]
  exact L7 _ 0 _ im0 (Nat.lt_succ_self _) (Nat.zero_le _) rfl h0

set_option maxHeartbeats 4000000 in
theorem c_X4_denial (l : Launch) (G : GS) (im : IM) (bt j : Nat) (lm : IM) (hj : j < 6) (b : Nat → Int) (n : Nat) (hb : byt b n) (m o : Nat) (hmo : m + o = 5) (hS : ∀ m2 o2, m2 + o2 = 5 → m2 ≤ m → CT l G bt j lm b n yX4_sum (Y_X4_sum o2) (sumL b n m2) o2) (p : Nat) (f : Int) (h : PR b n j im p f) : Cn l (XC G) yX4_denial (Y_X4_denial o) [vR 14 0, vI (o : Int)] (im, rs bt j, lm) (pV fun m' => ∃ im', PO b n j im (stP (denL b n m) p f) im' ∧ m' = (im', rs bt j, lm)) := by
  refine cn_of (by decide) (okC G) rfl (Nat.le_of_ble_eq_true rfl) ?_
  intro M ad hMl F
  subst hMl
  have hn := hb.1
  have hR := h.2.1
  have hz := h.z
  refine wp_pad 2 ?_
  show Wp M (XC G) ad (Y_X4_denial o) (pV fun m' => ∃ im', PO b n j im (stP (denL b n m) p f) im' ∧ m' = (im', rs bt j, lm)) 0 [some (vR 14 0), some (vI (o : Int)), none, none] [] (im, rs bt j, lm)
  have T65 : ∀ (m2 a2 p2 : Nat) (im3 : IM) (r : PT), m2 + a2 = 5 → m2 ≤ m → PO b n j im r im3 → stP (denL b n m) p f = wrapK (-8) (m - m2) r → (r.2.1 = -1 → f = -1 ∧ p2 + r.2.2.1.length ≤ r.1) → p + (m - m2) ≤ p2 → Wp M (XC G) ad (Y_X4_denial o) (pV fun m' => ∃ im', PO b n j im (stP (denL b n m) p f) im' ∧ m' = (im', rs bt j, lm)) 65 [some (vR 14 0), some (vI (o : Int)), some (vI (a2 : Int)), none] [] (im3, rs bt j, lm) := by
    intro m2 a2 p2 im3 r hma2 hmm2 h3 heq hsl hpp
    refine q_iload_n (t := 66) F dX4_denial_65 rfl rfl rfl ?_
    refine q_istore_n (t := 67) F dX4_denial_66 rfl (by first | decide | exact Nat.le_of_ble_eq_true rfl) rfl rfl ?_
    have L67 : ∀ (fz : Nat) (k : Nat) (im1 : IM), m - m2 - k < fz → k ≤ m - m2 → PO b n j im (wrapK (-8) k r) im1 → (r.2.1 = -1 → im1 2 j 3 + ((m - m2 - k : Nat) : Int) ≤ r.1) → Wp M (XC G) ad (Y_X4_denial o) (pV fun m' => ∃ im', PO b n j im (stP (denL b n m) p f) im' ∧ m' = (im', rs bt j, lm)) 67 [some (vR 14 0), some (vI (o : Int)), some (vI (a2 : Int)), some (vI ((o + k : Nat) : Int))] [] (im1, rs bt j, lm) := by
      intro fz
      induction fz with
      | zero => intro k im1 h; exact absurd h (Nat.not_lt_zero _)
      | succ fz ih =>
        have ih67 := ih
        intro k im1 hmeas hk hk1 hks
        have hz1 := hk1.1.z
        have hR1 := hk1.1.2.1
        have hz2 := hk1.1.2.2.2.2.1.2
        have hwk := wrapK_1 (-8) r k
        have hle : r.1 ≤ n := h3.1.2.2.2.2.2.1
        refine q_iload_n (t := 68) F dX4_denial_67 rfl rfl rfl ?_
        refine q_iload_n (t := 69) F dX4_denial_68 rfl rfl rfl ?_
        refine q_icmp_ge (t := 72) (u := 87) F dX4_denial_69 (by constructor <;> omega) (by constructor <;> omega) (by decide) rfl (fun c69 => ?_) (fun c69 => ?_)
        · refine q_vret F dX4_denial_87 rfl ?_
          obtain rfl : k = m - m2 := by omega
          exact ⟨rfl, im1, by rw [heq]; exact hk1, rfl⟩
        · refine q_aload_n (t := 73) F dX4_denial_72 rfl rfl rfl ?_
          refine g_X4_15 (t := 76) F dX4_denial_73 rfl rfl ?_
          refine q_bipush (t := 78) F dX4_denial_76 (by decide) rfl ?_
          refine wp_callV (t := 81) [_] F dX4_denial_78 k_X6_add v_X6_add ml_X4_63 rfl rfl rfl rfl (Nat.le_of_ble_eq_true rfl) (by first | exact Nat.le_of_ble_eq_true rfl | (simp only [Y_X4_one, Y_X4_term, Y_X4_sum, Y_X4_denial, Y_X4_both, Y_X4_either, Y_X4_advance, Y_X6_add, Y_X4_at, Y_X4_fail, Y_X4_expect, Y_X4_openAll]; omega)) (m_2 (by omega)) (c_X6_add _ G _ bt j lm j hj _ hz1 hz2 hR1) rfl (kV ?_)
          rintro m' rfl
          refine q_iinc (t := 84) F dX4_denial_81 rfl (by first | decide | exact Nat.le_of_ble_eq_true rfl) rfl rfl ?_
          refine q_goto (t := 67) F dX4_denial_84 (by decide) ?_
          rw [show ((o + k : Nat) : Int) + 1 = ((o + (k + 1) : Nat) : Int) by omega]
          refine ih67 (k + 1) _ (by omega) (by omega) ?_ (fun q => ?_)
          · rw [wrapK_s]
            refine (PO.add (V := fun _ => 0) (s := -8) hn (by constructor <;> omega) hk1 hz (fun q => ?_)).cg rfl rfl rfl
            rw [hwk.2] at q
            have := hks q
            rw [hwk.1]
            omega
          · have := hks q
            rw [addM_c (by omega)]
            omega
    refine L67 _ 0 im3 (Nat.lt_succ_self _) (Nat.zero_le _) h3 (fun q => ?_)
    have q1 := (h3.2.2 q).1
    have q2 := hsl q
    have q3 := h.2.2.2.2.2.2 q2.1
    omega
  refine q_aload_n (t := 1) F dX4_denial_0 rfl rfl rfl ?_
  refine q_bipush (t := 3) F dX4_denial_1 (by decide) rfl ?_
  refine q_iload_n (t := 4) F dX4_denial_3 rfl rfl rfl ?_
  refine wp_callV (t := 7) [_, _] F dX4_denial_4 k_X4_openAll v_X4_openAll ml_X4_69 rfl rfl rfl rfl (Nat.le_of_ble_eq_true rfl) (by first | exact Nat.le_of_ble_eq_true rfl | (simp only [Y_X4_one, Y_X4_term, Y_X4_sum, Y_X4_denial, Y_X4_both, Y_X4_either, Y_X4_advance, Y_X6_add, Y_X4_at, Y_X4_fail, Y_X4_expect, Y_X4_openAll]; omega)) (m_14 (by omega)) (c_X4_openAll _ G im bt j lm b n hb 9 (by omega) (by omega) m o hmo p f h) rfl (kI ?_)
  rintro x4 m' ⟨im2, m2, a2, p2, f2, rfl, hma2, hmm2, hO, hpp, h2, rfl⟩
  have h22 : PR b n j im2 p2 f2 := h2.1
  have hR2 := h22.2.1
  have hp2 : p2 ≤ n := h22.2.2.2.2.2.1
  have g4 : im2 14 0 4 = tk b n p2 := h22.1.2.2.1
  have g6 : im2 14 0 6 = f2 := h22.1.2.2.2.2
  have hti := tk_in b n p2
  refine q_istore_n (t := 8) F dX4_denial_7 rfl (by first | decide | exact Nat.le_of_ble_eq_true rfl) rfl rfl ?_
  refine q_aload_n (t := 9) F dX4_denial_8 rfl rfl rfl ?_
  refine q_iload_n (t := 10) F dX4_denial_9 rfl rfl rfl ?_
  refine wp_callV (t := 13) [_] F dX4_denial_10 (k_X4_sum _) v_X4_sum ml_X4_73 rfl rfl rfl rfl (Nat.le_of_ble_eq_true rfl) (by first | exact Nat.le_of_ble_eq_true rfl | (simp only [Y_X4_one, Y_X4_term, Y_X4_sum, Y_X4_denial, Y_X4_both, Y_X4_either, Y_X4_advance, Y_X6_add, Y_X4_at, Y_X4_fail, Y_X4_expect, Y_X4_openAll]; omega)) (m_14 (by omega)) (hS m2 a2 hma2 hmm2 im2 p2 f2 h22) rfl (kV ?_)
  rintro m' ⟨im3, h3, rfl⟩
  have h33 := h3.1
  have hR3 := h33.2.1
  have k4 : im3 14 0 4 = tk b n (stP (sumL b n m2) p2 f2).1 := h33.1.2.2.1
  have k6 : im3 14 0 6 = (stP (sumL b n m2) p2 f2).2.1 := h33.1.2.2.2.2
  have hti3 := tk_in b n (stP (sumL b n m2) p2 f2).1
  have hr1 : PO b n j im (stP (sumL b n m2) p2 f2) im3 := by
    refine (PO.seq (V := fun _ => 0) hz h2 (fun q => ?_) h3).cg rfl rfl rfl
    refine Classical.byContradiction (fun z => ?_)
    rw [stP_n z] at q
    exact z q
  refine q_aload_n (t := 14) F dX4_denial_13 rfl rfl rfl ?_
  refine q_bipush (t := 16) F dX4_denial_14 (by decide) rfl ?_
  refine wp_callV (t := 19) [_] F dX4_denial_16 k_X4_at v_X4_at ml_X4_47 rfl rfl rfl rfl (Nat.le_of_ble_eq_true rfl) (by first | exact Nat.le_of_ble_eq_true rfl | (simp only [Y_X4_one, Y_X4_term, Y_X4_sum, Y_X4_denial, Y_X4_both, Y_X4_either, Y_X4_advance, Y_X6_add, Y_X4_at, Y_X4_fail, Y_X4_expect, Y_X4_openAll]; omega)) (m_14 (by omega)) (c_X4_at _ G im3 bt j lm hR3 60 (by constructor <;> omega)) rfl (kI ?_)
  rintro x16 m' ⟨hx16, rfl⟩
  have hx16 := if01 hx16
  refine q_if_ne (t := 22) (u := 31) F dX4_denial_19 (by first | exact hR _ _ _ | (constructor <;> omega)) (by decide) rfl (fun c19 => ?_) (fun c19 => ?_)
  · have hq : (stP (sumL b n m2) p2 f2).2.1 = -1 ∧ (tk b n (stP (sumL b n m2) p2 f2).1 = 60 ∨ tk b n (stP (sumL b n m2) p2 f2).1 = 61) := by omega
    refine q_aload_n (t := 32) F dX4_denial_31 rfl rfl rfl ?_
    refine g_X4_54 (t := 35) F dX4_denial_32 rfl rfl ?_
    try simp only [up_app, row_app, scr_app, cpy_app, Nat.reduceEqDiff, Int.reduceToNat, Int.toNat_natCast, and_true, true_and, and_false, false_and, and_self, reduceIte]
    refine q_bipush (t := 37) F dX4_denial_35 (by decide) rfl ?_
    refine q_icmp_ne (t := 40) (u := 45) F dX4_denial_37 (by rw [k4]; constructor <;> omega) (by constructor <;> omega) (by decide) rfl (fun c37 => ?_) (fun c37 => ?_)
    · have hop : opC (tk b n (stP (sumL b n m2) p2 f2).1) = -13 := by unfold opC; rw [if_neg (by omega), if_pos (by omega)]
      refine q_bipush (t := 47) F dX4_denial_45 (by decide) rfl ?_
      refine q_istore_n (t := 48) F dX4_denial_47 rfl (by first | decide | exact Nat.le_of_ble_eq_true rfl) rfl rfl ?_
      refine q_aload_n (t := 49) F dX4_denial_48 rfl rfl rfl ?_
      refine wp_callV (t := 52) [] F dX4_denial_49 k_X4_advance v_X4_advance ml_X4_34 rfl rfl rfl rfl (Nat.le_of_ble_eq_true rfl) (by first | exact Nat.le_of_ble_eq_true rfl | (simp only [Y_X4_one, Y_X4_term, Y_X4_sum, Y_X4_denial, Y_X4_both, Y_X4_either, Y_X4_advance, Y_X6_add, Y_X4_at, Y_X4_fail, Y_X4_expect, Y_X4_openAll]; omega)) (m_14 (by omega)) (c_adv _ G im3 bt j lm b n hb _ _ h33) rfl (kV ?_)
      rintro m' ⟨im4, h4, rfl⟩
      have hlt : (stP (sumL b n m2) p2 f2).1 < n := tk_lt (b := b) (by omega)
      have h4 := h4 hlt
      rw [hq.1] at h4
      refine q_aload_n (t := 53) F dX4_denial_52 rfl rfl rfl ?_
      refine q_iload_n (t := 54) F dX4_denial_53 rfl rfl rfl ?_
      refine wp_callV (t := 57) [_] F dX4_denial_54 (k_X4_sum _) v_X4_sum ml_X4_73 rfl rfl rfl rfl (Nat.le_of_ble_eq_true rfl) (by first | exact Nat.le_of_ble_eq_true rfl | (simp only [Y_X4_one, Y_X4_term, Y_X4_sum, Y_X4_denial, Y_X4_both, Y_X4_either, Y_X4_advance, Y_X6_add, Y_X4_at, Y_X4_fail, Y_X4_expect, Y_X4_openAll]; omega)) (m_14 (by omega)) (hS m2 a2 hma2 hmm2 im4 _ _ h4.1) rfl (kV ?_)
      rintro m' ⟨im5, h5, rfl⟩
      refine q_aload_n (t := 58) F dX4_denial_57 rfl rfl rfl ?_
      refine g_X4_15 (t := 61) F dX4_denial_58 rfl rfl ?_
      refine q_iload_n (t := 62) F dX4_denial_61 rfl rfl rfl ?_
      refine wp_callV (t := 65) [_] F dX4_denial_62 k_X6_add v_X6_add ml_X4_63 rfl rfl rfl rfl (Nat.le_of_ble_eq_true rfl) (by first | exact Nat.le_of_ble_eq_true rfl | (simp only [Y_X4_one, Y_X4_term, Y_X4_sum, Y_X4_denial, Y_X4_both, Y_X4_either, Y_X4_advance, Y_X6_add, Y_X4_at, Y_X4_fail, Y_X4_expect, Y_X4_openAll]; omega)) (m_2 (by omega)) (c_X6_add _ G im5 bt j lm j hj _ h5.1.2.2.2.2.1.1 h5.1.2.2.2.2.1.2 h5.1.2.1) rfl (kV ?_)
      rintro m' rfl
      refine wp_less 3 ?_
      have hf2 : f2 = -1 := by
        refine Classical.byContradiction (fun z => ?_)
        have q1 := hq.1
        rw [stP_n z] at q1
        exact z q1
      have hdx : denX b n (oneL b n m2) p2 = lpS b n opC (sumL b n m2) (stP (sumL b n m2) p2 f2) := by
        have e0 : denX b n (oneL b n m2) p2 = loopP b n opC (sumL b n m2) (0 + 1) (stP (sumL b n m2) p2 f2) := by
          rw [hf2, stP_y]
          rfl
        rw [e0, loopP_y2 hq.1 (by rw [hop]; decide)]
        rfl
      refine T65 m2 a2 p2 _ (lpS b n opC (sumL b n m2) (stP (sumL b n m2) p2 f2)) hma2 hmm2 (LP_step hn hz hr1 hq.1 hop (by constructor <;> omega) hlt h4 (PG_sumL b n m2) h5) ?_ (fun q => ⟨(OAL_f hO hf2).1, ?_⟩) hpp
      · rw [(den_eq hO).1 hf2, hdx]
      · rw [← hdx] at q ⊢
        exact (PG_denX (PG_one b n m2) p2 hp2).2.2.1 q
    · have hop : opC (tk b n (stP (sumL b n m2) p2 f2).1) = -12 := by unfold opC; rw [if_pos (by omega)]
      refine q_bipush (t := 42) F dX4_denial_40 (by decide) rfl ?_
      refine q_goto (t := 47) F dX4_denial_42 (by decide) ?_
      refine q_istore_n (t := 48) F dX4_denial_47 rfl (by first | decide | exact Nat.le_of_ble_eq_true rfl) rfl rfl ?_
      refine q_aload_n (t := 49) F dX4_denial_48 rfl rfl rfl ?_
      refine wp_callV (t := 52) [] F dX4_denial_49 k_X4_advance v_X4_advance ml_X4_34 rfl rfl rfl rfl (Nat.le_of_ble_eq_true rfl) (by first | exact Nat.le_of_ble_eq_true rfl | (simp only [Y_X4_one, Y_X4_term, Y_X4_sum, Y_X4_denial, Y_X4_both, Y_X4_either, Y_X4_advance, Y_X6_add, Y_X4_at, Y_X4_fail, Y_X4_expect, Y_X4_openAll]; omega)) (m_14 (by omega)) (c_adv _ G im3 bt j lm b n hb _ _ h33) rfl (kV ?_)
      rintro m' ⟨im4, h4, rfl⟩
      have hlt : (stP (sumL b n m2) p2 f2).1 < n := tk_lt (b := b) (by omega)
      have h4 := h4 hlt
      rw [hq.1] at h4
      refine q_aload_n (t := 53) F dX4_denial_52 rfl rfl rfl ?_
      refine q_iload_n (t := 54) F dX4_denial_53 rfl rfl rfl ?_
      refine wp_callV (t := 57) [_] F dX4_denial_54 (k_X4_sum _) v_X4_sum ml_X4_73 rfl rfl rfl rfl (Nat.le_of_ble_eq_true rfl) (by first | exact Nat.le_of_ble_eq_true rfl | (simp only [Y_X4_one, Y_X4_term, Y_X4_sum, Y_X4_denial, Y_X4_both, Y_X4_either, Y_X4_advance, Y_X6_add, Y_X4_at, Y_X4_fail, Y_X4_expect, Y_X4_openAll]; omega)) (m_14 (by omega)) (hS m2 a2 hma2 hmm2 im4 _ _ h4.1) rfl (kV ?_)
      rintro m' ⟨im5, h5, rfl⟩
      refine q_aload_n (t := 58) F dX4_denial_57 rfl rfl rfl ?_
      refine g_X4_15 (t := 61) F dX4_denial_58 rfl rfl ?_
      refine q_iload_n (t := 62) F dX4_denial_61 rfl rfl rfl ?_
      refine wp_callV (t := 65) [_] F dX4_denial_62 k_X6_add v_X6_add ml_X4_63 rfl rfl rfl rfl (Nat.le_of_ble_eq_true rfl) (by first | exact Nat.le_of_ble_eq_true rfl | (simp only [Y_X4_one, Y_X4_term, Y_X4_sum, Y_X4_denial, Y_X4_both, Y_X4_either, Y_X4_advance, Y_X6_add, Y_X4_at, Y_X4_fail, Y_X4_expect, Y_X4_openAll]; omega)) (m_2 (by omega)) (c_X6_add _ G im5 bt j lm j hj _ h5.1.2.2.2.2.1.1 h5.1.2.2.2.2.1.2 h5.1.2.1) rfl (kV ?_)
      rintro m' rfl
      refine wp_less 3 ?_
      have hf2 : f2 = -1 := by
        refine Classical.byContradiction (fun z => ?_)
        have q1 := hq.1
        rw [stP_n z] at q1
        exact z q1
      have hdx : denX b n (oneL b n m2) p2 = lpS b n opC (sumL b n m2) (stP (sumL b n m2) p2 f2) := by
        have e0 : denX b n (oneL b n m2) p2 = loopP b n opC (sumL b n m2) (0 + 1) (stP (sumL b n m2) p2 f2) := by
          rw [hf2, stP_y]
          rfl
        rw [e0, loopP_y2 hq.1 (by rw [hop]; decide)]
        rfl
      refine T65 m2 a2 p2 _ (lpS b n opC (sumL b n m2) (stP (sumL b n m2) p2 f2)) hma2 hmm2 (LP_step hn hz hr1 hq.1 hop (by constructor <;> omega) hlt h4 (PG_sumL b n m2) h5) ?_ (fun q => ⟨(OAL_f hO hf2).1, ?_⟩) hpp
      · rw [(den_eq hO).1 hf2, hdx]
      · rw [← hdx] at q ⊢
        exact (PG_denX (PG_one b n m2) p2 hp2).2.2.1 q
  · refine q_aload_n (t := 23) F dX4_denial_22 rfl rfl rfl ?_
    refine q_bipush (t := 25) F dX4_denial_23 (by decide) rfl ?_
    refine wp_callV (t := 28) [_] F dX4_denial_25 k_X4_at v_X4_at ml_X4_47 rfl rfl rfl rfl (Nat.le_of_ble_eq_true rfl) (by first | exact Nat.le_of_ble_eq_true rfl | (simp only [Y_X4_one, Y_X4_term, Y_X4_sum, Y_X4_denial, Y_X4_both, Y_X4_either, Y_X4_advance, Y_X6_add, Y_X4_at, Y_X4_fail, Y_X4_expect, Y_X4_openAll]; omega)) (m_14 (by omega)) (c_X4_at _ G im3 bt j lm hR3 61 (by constructor <;> omega)) rfl (kI ?_)
    rintro x25 m' ⟨hx25, rfl⟩
    have hx25 := if01 hx25
    refine q_if_eq (t := 31) (u := 65) F dX4_denial_28 (by first | exact hR _ _ _ | (constructor <;> omega)) (by decide) rfl (fun c28 => ?_) (fun c28 => ?_)
    · have hnl : loopP b n opC (sumL b n m2) 1 (stP (sumL b n m2) p2 f2) = stP (sumL b n m2) p2 f2 := by
        refine loopP_n (fun q => ?_)
        have q1 := q.1
        have q2 := q.2
        unfold opC at q2
        rw [if_neg (by omega), if_neg (by omega)] at q2
        exact q2 rfl
      by_cases hf2 : f2 = -1
      · refine T65 m2 a2 p2 im3 (stP (sumL b n m2) p2 f2) hma2 hmm2 hr1 ?_ (fun q => ⟨(OAL_f hO hf2).1, ?_⟩) hpp
        · rw [(den_eq hO).1 hf2, ← hnl, hf2, stP_y]
          rfl
        · rw [hf2, stP_y] at q ⊢
          exact (PG_sumL b n m2 p2 hp2).2.2.1 q
      · rw [stP_n hf2] at hr1
        exact T65 m2 a2 p2 im3 (p2, f2, [], fun _ => 0) hma2 hmm2 hr1 ((den_eq hO).2 hf2) (fun q => absurd q hf2) hpp
    · have hq : (stP (sumL b n m2) p2 f2).2.1 = -1 ∧ (tk b n (stP (sumL b n m2) p2 f2).1 = 60 ∨ tk b n (stP (sumL b n m2) p2 f2).1 = 61) := by omega
      refine q_aload_n (t := 32) F dX4_denial_31 rfl rfl rfl ?_
      refine g_X4_54 (t := 35) F dX4_denial_32 rfl rfl ?_
      try simp only [up_app, row_app, scr_app, cpy_app, Nat.reduceEqDiff, Int.reduceToNat, Int.toNat_natCast, and_true, true_and, and_false, false_and, and_self, reduceIte]
      refine q_bipush (t := 37) F dX4_denial_35 (by decide) rfl ?_
      refine q_icmp_ne (t := 40) (u := 45) F dX4_denial_37 (by rw [k4]; constructor <;> omega) (by constructor <;> omega) (by decide) rfl (fun c37 => ?_) (fun c37 => ?_)
      · have hop : opC (tk b n (stP (sumL b n m2) p2 f2).1) = -13 := by unfold opC; rw [if_neg (by omega), if_pos (by omega)]
        refine q_bipush (t := 47) F dX4_denial_45 (by decide) rfl ?_
        refine q_istore_n (t := 48) F dX4_denial_47 rfl (by first | decide | exact Nat.le_of_ble_eq_true rfl) rfl rfl ?_
        refine q_aload_n (t := 49) F dX4_denial_48 rfl rfl rfl ?_
        refine wp_callV (t := 52) [] F dX4_denial_49 k_X4_advance v_X4_advance ml_X4_34 rfl rfl rfl rfl (Nat.le_of_ble_eq_true rfl) (by first | exact Nat.le_of_ble_eq_true rfl | (simp only [Y_X4_one, Y_X4_term, Y_X4_sum, Y_X4_denial, Y_X4_both, Y_X4_either, Y_X4_advance, Y_X6_add, Y_X4_at, Y_X4_fail, Y_X4_expect, Y_X4_openAll]; omega)) (m_14 (by omega)) (c_adv _ G im3 bt j lm b n hb _ _ h33) rfl (kV ?_)
        rintro m' ⟨im4, h4, rfl⟩
        have hlt : (stP (sumL b n m2) p2 f2).1 < n := tk_lt (b := b) (by omega)
        have h4 := h4 hlt
        rw [hq.1] at h4
        refine q_aload_n (t := 53) F dX4_denial_52 rfl rfl rfl ?_
        refine q_iload_n (t := 54) F dX4_denial_53 rfl rfl rfl ?_
        refine wp_callV (t := 57) [_] F dX4_denial_54 (k_X4_sum _) v_X4_sum ml_X4_73 rfl rfl rfl rfl (Nat.le_of_ble_eq_true rfl) (by first | exact Nat.le_of_ble_eq_true rfl | (simp only [Y_X4_one, Y_X4_term, Y_X4_sum, Y_X4_denial, Y_X4_both, Y_X4_either, Y_X4_advance, Y_X6_add, Y_X4_at, Y_X4_fail, Y_X4_expect, Y_X4_openAll]; omega)) (m_14 (by omega)) (hS m2 a2 hma2 hmm2 im4 _ _ h4.1) rfl (kV ?_)
        rintro m' ⟨im5, h5, rfl⟩
        refine q_aload_n (t := 58) F dX4_denial_57 rfl rfl rfl ?_
        refine g_X4_15 (t := 61) F dX4_denial_58 rfl rfl ?_
        refine q_iload_n (t := 62) F dX4_denial_61 rfl rfl rfl ?_
        refine wp_callV (t := 65) [_] F dX4_denial_62 k_X6_add v_X6_add ml_X4_63 rfl rfl rfl rfl (Nat.le_of_ble_eq_true rfl) (by first | exact Nat.le_of_ble_eq_true rfl | (simp only [Y_X4_one, Y_X4_term, Y_X4_sum, Y_X4_denial, Y_X4_both, Y_X4_either, Y_X4_advance, Y_X6_add, Y_X4_at, Y_X4_fail, Y_X4_expect, Y_X4_openAll]; omega)) (m_2 (by omega)) (c_X6_add _ G im5 bt j lm j hj _ h5.1.2.2.2.2.1.1 h5.1.2.2.2.2.1.2 h5.1.2.1) rfl (kV ?_)
        rintro m' rfl
        refine wp_less 3 ?_
        have hf2 : f2 = -1 := by
          refine Classical.byContradiction (fun z => ?_)
          have q1 := hq.1
          rw [stP_n z] at q1
          exact z q1
        have hdx : denX b n (oneL b n m2) p2 = lpS b n opC (sumL b n m2) (stP (sumL b n m2) p2 f2) := by
          have e0 : denX b n (oneL b n m2) p2 = loopP b n opC (sumL b n m2) (0 + 1) (stP (sumL b n m2) p2 f2) := by
            rw [hf2, stP_y]
            rfl
          rw [e0, loopP_y2 hq.1 (by rw [hop]; decide)]
          rfl
        refine T65 m2 a2 p2 _ (lpS b n opC (sumL b n m2) (stP (sumL b n m2) p2 f2)) hma2 hmm2 (LP_step hn hz hr1 hq.1 hop (by constructor <;> omega) hlt h4 (PG_sumL b n m2) h5) ?_ (fun q => ⟨(OAL_f hO hf2).1, ?_⟩) hpp
        · rw [(den_eq hO).1 hf2, hdx]
        · rw [← hdx] at q ⊢
          exact (PG_denX (PG_one b n m2) p2 hp2).2.2.1 q
      · have hop : opC (tk b n (stP (sumL b n m2) p2 f2).1) = -12 := by unfold opC; rw [if_pos (by omega)]
        refine q_bipush (t := 42) F dX4_denial_40 (by decide) rfl ?_
        refine q_goto (t := 47) F dX4_denial_42 (by decide) ?_
        refine q_istore_n (t := 48) F dX4_denial_47 rfl (by first | decide | exact Nat.le_of_ble_eq_true rfl) rfl rfl ?_
        refine q_aload_n (t := 49) F dX4_denial_48 rfl rfl rfl ?_
        refine wp_callV (t := 52) [] F dX4_denial_49 k_X4_advance v_X4_advance ml_X4_34 rfl rfl rfl rfl (Nat.le_of_ble_eq_true rfl) (by first | exact Nat.le_of_ble_eq_true rfl | (simp only [Y_X4_one, Y_X4_term, Y_X4_sum, Y_X4_denial, Y_X4_both, Y_X4_either, Y_X4_advance, Y_X6_add, Y_X4_at, Y_X4_fail, Y_X4_expect, Y_X4_openAll]; omega)) (m_14 (by omega)) (c_adv _ G im3 bt j lm b n hb _ _ h33) rfl (kV ?_)
        rintro m' ⟨im4, h4, rfl⟩
        have hlt : (stP (sumL b n m2) p2 f2).1 < n := tk_lt (b := b) (by omega)
        have h4 := h4 hlt
        rw [hq.1] at h4
        refine q_aload_n (t := 53) F dX4_denial_52 rfl rfl rfl ?_
        refine q_iload_n (t := 54) F dX4_denial_53 rfl rfl rfl ?_
        refine wp_callV (t := 57) [_] F dX4_denial_54 (k_X4_sum _) v_X4_sum ml_X4_73 rfl rfl rfl rfl (Nat.le_of_ble_eq_true rfl) (by first | exact Nat.le_of_ble_eq_true rfl | (simp only [Y_X4_one, Y_X4_term, Y_X4_sum, Y_X4_denial, Y_X4_both, Y_X4_either, Y_X4_advance, Y_X6_add, Y_X4_at, Y_X4_fail, Y_X4_expect, Y_X4_openAll]; omega)) (m_14 (by omega)) (hS m2 a2 hma2 hmm2 im4 _ _ h4.1) rfl (kV ?_)
        rintro m' ⟨im5, h5, rfl⟩
        refine q_aload_n (t := 58) F dX4_denial_57 rfl rfl rfl ?_
        refine g_X4_15 (t := 61) F dX4_denial_58 rfl rfl ?_
        refine q_iload_n (t := 62) F dX4_denial_61 rfl rfl rfl ?_
        refine wp_callV (t := 65) [_] F dX4_denial_62 k_X6_add v_X6_add ml_X4_63 rfl rfl rfl rfl (Nat.le_of_ble_eq_true rfl) (by first | exact Nat.le_of_ble_eq_true rfl | (simp only [Y_X4_one, Y_X4_term, Y_X4_sum, Y_X4_denial, Y_X4_both, Y_X4_either, Y_X4_advance, Y_X6_add, Y_X4_at, Y_X4_fail, Y_X4_expect, Y_X4_openAll]; omega)) (m_2 (by omega)) (c_X6_add _ G im5 bt j lm j hj _ h5.1.2.2.2.2.1.1 h5.1.2.2.2.2.1.2 h5.1.2.1) rfl (kV ?_)
        rintro m' rfl
        refine wp_less 3 ?_
        have hf2 : f2 = -1 := by
          refine Classical.byContradiction (fun z => ?_)
          have q1 := hq.1
          rw [stP_n z] at q1
          exact z q1
        have hdx : denX b n (oneL b n m2) p2 = lpS b n opC (sumL b n m2) (stP (sumL b n m2) p2 f2) := by
          have e0 : denX b n (oneL b n m2) p2 = loopP b n opC (sumL b n m2) (0 + 1) (stP (sumL b n m2) p2 f2) := by
            rw [hf2, stP_y]
            rfl
          rw [e0, loopP_y2 hq.1 (by rw [hop]; decide)]
          rfl
        refine T65 m2 a2 p2 _ (lpS b n opC (sumL b n m2) (stP (sumL b n m2) p2 f2)) hma2 hmm2 (LP_step hn hz hr1 hq.1 hop (by constructor <;> omega) hlt h4 (PG_sumL b n m2) h5) ?_ (fun q => ⟨(OAL_f hO hf2).1, ?_⟩) hpp
        · rw [(den_eq hO).1 hf2, hdx]
        · rw [← hdx] at q ⊢
          exact (PG_denX (PG_one b n m2) p2 hp2).2.2.1 q

set_option maxHeartbeats 4000000 in
theorem c_X4_both (l : Launch) (G : GS) (im : IM) (bt j : Nat) (lm : IM) (hj : j < 6) (b : Nat → Int) (n : Nat) (hb : byt b n) (m o : Nat) (hmo : m + o = 5) (hO : CT l G bt j lm b n yX4_denial (Y_X4_denial o) (denL b n m) o) (p : Nat) (f : Int) (h : PR b n j im p f) : Cn l (XC G) yX4_both (Y_X4_both o) [vR 14 0, vI (o : Int)] (im, rs bt j, lm) (pV fun m' => ∃ im', PO b n j im (stP (bothL b n m) p f) im' ∧ m' = (im', rs bt j, lm)) := by
  refine cn_of (by decide) (okC G) rfl (Nat.le_of_ble_eq_true rfl) ?_
  intro M ad hMl F
  subst hMl
  have hn := hb.1
  have hR := h.2.1
  have hz := h.z
  refine wp_pad 1 ?_
  show Wp M (XC G) ad (Y_X4_both o) (pV fun m' => ∃ im', PO b n j im (stP (bothL b n m) p f) im' ∧ m' = (im', rs bt j, lm)) 0 [some (vR 14 0), some (vI (o : Int)), none] [] (im, rs bt j, lm)
  refine q_aload_n (t := 1) F dX4_both_0 rfl rfl rfl ?_
  refine q_iload_n (t := 2) F dX4_both_1 rfl rfl rfl ?_
  refine wp_callV (t := 5) [_] F dX4_both_2 (k_X4_denial _) v_X4_denial ml_X4_66 rfl rfl rfl rfl (Nat.le_of_ble_eq_true rfl) (by first | exact Nat.le_of_ble_eq_true rfl | (simp only [Y_X4_one, Y_X4_term, Y_X4_sum, Y_X4_denial, Y_X4_both, Y_X4_either, Y_X4_advance, Y_X6_add, Y_X4_at, Y_X4_fail, Y_X4_expect, Y_X4_openAll]; omega)) (m_14 (by omega)) (hO im p f h) rfl (kV ?_)
  rintro m' ⟨im0, h0, rfl⟩
  refine q_iconst (t := 6) F dX4_both_5 rfl ?_
  refine q_istore_n (t := 7) F dX4_both_6 rfl (by first | decide | exact Nat.le_of_ble_eq_true rfl) rfl rfl ?_
  have L7 : ∀ (fz : Nat) (i : Nat) (r : PT) (im1 : IM), 160 - i < fz → i ≤ 160 → loopP b n opA (denL b n m) 160 (stP (denL b n m) p f) = loopP b n opA (denL b n m) (160 - i) r → PO b n j im r im1 → Wp M (XC G) ad (Y_X4_both o) (pV fun m' => ∃ im', PO b n j im (stP (bothL b n m) p f) im' ∧ m' = (im', rs bt j, lm)) 7 [some (vR 14 0), some (vI (o : Int)), some (vI (i : Int))] [] (im1, rs bt j, lm) := by
    intro fz
    induction fz with
    | zero => intro i r im1 h; exact absurd h (Nat.not_lt_zero _)
    | succ fz ih =>
      have ih7 := ih
      intro i r im1 hmeas hi hlp hr
      have h11 : PR b n j im1 r.1 r.2.1 := hr.1
      have hR1 := h11.2.1
      have g4 : im1 14 0 4 = tk b n r.1 := h11.1.2.2.1
      have g6 : im1 14 0 6 = r.2.1 := h11.1.2.2.2.2
      have hti := tk_in b n r.1
      refine q_iload_n (t := 8) F dX4_both_7 rfl rfl rfl ?_
      refine q_sipush (t := 11) F dX4_both_8 (by decide) rfl ?_
      refine q_icmp_ge (t := 14) (u := 47) F dX4_both_11 (by constructor <;> omega) (by constructor <;> omega) (by decide) rfl (fun c11 => ?_) (fun c11 => ?_)
      · refine q_vret F dX4_both_47 rfl ?_
        have e : stP (bothL b n m) p f = r := by
          have e0 : stP (bothL b n m) p f = loopP b n opA (denL b n m) 160 (stP (denL b n m) p f) := stP_loop (F := denL b n m) (k := 160)
          rw [e0, hlp]
          first
            | (rw [show 160 - i = 0 by omega]; rfl)
            | (refine loopP_n (fun q => ?_)
               have q2 := q.2
               unfold opA at q2
               rw [if_neg (by omega)] at q2
               exact q2 rfl)
        exact ⟨rfl, im1, by rw [e]; exact hr, rfl⟩
      · refine q_aload_n (t := 15) F dX4_both_14 rfl rfl rfl ?_
        refine q_bipush (t := 17) F dX4_both_15 (by decide) rfl ?_
        refine wp_callV (t := 20) [_] F dX4_both_17 k_X4_at v_X4_at ml_X4_47 rfl rfl rfl rfl (Nat.le_of_ble_eq_true rfl) (by first | exact Nat.le_of_ble_eq_true rfl | (simp only [Y_X4_one, Y_X4_term, Y_X4_sum, Y_X4_denial, Y_X4_both, Y_X4_either, Y_X4_advance, Y_X6_add, Y_X4_at, Y_X4_fail, Y_X4_expect, Y_X4_openAll]; omega)) (m_14 (by omega)) (c_X4_at _ G im1 bt j lm hR1 8 (by constructor <;> omega)) rfl (kI ?_)
        rintro x17 m' ⟨hx17, rfl⟩
        have hx17 := if01 hx17
        refine q_if_eq (t := 23) (u := 47) F dX4_both_20 (by first | exact hR _ _ _ | (constructor <;> omega)) (by decide) rfl (fun c20 => ?_) (fun c20 => ?_)
        · refine q_vret F dX4_both_47 rfl ?_
          have e : stP (bothL b n m) p f = r := by
            have e0 : stP (bothL b n m) p f = loopP b n opA (denL b n m) 160 (stP (denL b n m) p f) := stP_loop (F := denL b n m) (k := 160)
            rw [e0, hlp]
            first
              | (rw [show 160 - i = 0 by omega]; rfl)
              | (refine loopP_n (fun q => ?_)
                 have q2 := q.2
                 unfold opA at q2
                 rw [if_neg (by omega)] at q2
                 exact q2 rfl)
          exact ⟨rfl, im1, by rw [e]; exact hr, rfl⟩
        · refine q_aload_n (t := 24) F dX4_both_23 rfl rfl rfl ?_
          refine wp_callV (t := 27) [] F dX4_both_24 k_X4_advance v_X4_advance ml_X4_34 rfl rfl rfl rfl (Nat.le_of_ble_eq_true rfl) (by first | exact Nat.le_of_ble_eq_true rfl | (simp only [Y_X4_one, Y_X4_term, Y_X4_sum, Y_X4_denial, Y_X4_both, Y_X4_either, Y_X4_advance, Y_X6_add, Y_X4_at, Y_X4_fail, Y_X4_expect, Y_X4_openAll]; omega)) (m_14 (by omega)) (c_adv _ G im1 bt j lm b n hb r.1 r.2.1 h11) rfl (kV ?_)
          rintro m' ⟨im2, h2, rfl⟩
          have hq : r.2.1 = -1 ∧ tk b n r.1 = 8 := by omega
          have hlt : r.1 < n := tk_lt (b := b) (by omega)
          have h2 := h2 hlt
          rw [hq.1] at h2
          have hop : opA (tk b n r.1) = -14 := by unfold opA; rw [if_pos hq.2]
          refine q_aload_n (t := 28) F dX4_both_27 rfl rfl rfl ?_
          refine q_iload_n (t := 29) F dX4_both_28 rfl rfl rfl ?_
          refine wp_callV (t := 32) [_] F dX4_both_29 (k_X4_denial _) v_X4_denial ml_X4_66 rfl rfl rfl rfl (Nat.le_of_ble_eq_true rfl) (by first | exact Nat.le_of_ble_eq_true rfl | (simp only [Y_X4_one, Y_X4_term, Y_X4_sum, Y_X4_denial, Y_X4_both, Y_X4_either, Y_X4_advance, Y_X6_add, Y_X4_at, Y_X4_fail, Y_X4_expect, Y_X4_openAll]; omega)) (m_14 (by omega)) (hO im2 (adv b n r.1) (-1) h2.1) rfl (kV ?_)
          rintro m' ⟨im3, h3, rfl⟩
          refine q_aload_n (t := 33) F dX4_both_32 rfl rfl rfl ?_
          refine g_X4_15 (t := 36) F dX4_both_33 rfl rfl ?_
          refine q_bipush (t := 38) F dX4_both_36 (by decide) rfl ?_
          refine wp_callV (t := 41) [_] F dX4_both_38 k_X6_add v_X6_add ml_X4_63 rfl rfl rfl rfl (Nat.le_of_ble_eq_true rfl) (by first | exact Nat.le_of_ble_eq_true rfl | (simp only [Y_X4_one, Y_X4_term, Y_X4_sum, Y_X4_denial, Y_X4_both, Y_X4_either, Y_X4_advance, Y_X6_add, Y_X4_at, Y_X4_fail, Y_X4_expect, Y_X4_openAll]; omega)) (m_2 (by omega)) (c_X6_add _ G im3 bt j lm j hj _ h3.1.2.2.2.2.1.1 h3.1.2.2.2.2.1.2 h3.1.2.1) rfl (kV ?_)
          rintro m' rfl
          refine q_iinc (t := 44) F dX4_both_41 rfl (by first | decide | exact Nat.le_of_ble_eq_true rfl) rfl rfl ?_
          refine q_goto (t := 7) F dX4_both_44 (by decide) ?_
          refine ih7 (i + 1) (lpS b n opA (denL b n m) r) (addM im3 j (-14)) (by omega) (by omega) ?_ (LP_step hn hz hr hq.1 hop (by constructor <;> omega) hlt h2 (PG_den b n m) h3)
          rw [hlp, show 160 - i = (160 - (i + 1)) + 1 by omega, loopP_y2 hq.1 (by rw [hop]; decide)]
  exact L7 _ 0 _ im0 (Nat.lt_succ_self _) (Nat.zero_le _) rfl h0

set_option maxHeartbeats 4000000 in
theorem c_X4_either (l : Launch) (G : GS) (im : IM) (bt j : Nat) (lm : IM) (hj : j < 6) (b : Nat → Int) (n : Nat) (hb : byt b n) (m o : Nat) (hmo : m + o = 5) (hO : CT l G bt j lm b n yX4_both (Y_X4_both o) (bothL b n m) o) (p : Nat) (f : Int) (h : PR b n j im p f) : Cn l (XC G) yX4_either (Y_X4_either o) [vR 14 0, vI (o : Int)] (im, rs bt j, lm) (pV fun m' => ∃ im', PO b n j im (stP (eitL b n m) p f) im' ∧ m' = (im', rs bt j, lm)) := by
  refine cn_of (by decide) (okC G) rfl (Nat.le_of_ble_eq_true rfl) ?_
  intro M ad hMl F
  subst hMl
  have hn := hb.1
  have hR := h.2.1
  have hz := h.z
  refine wp_pad 1 ?_
  show Wp M (XC G) ad (Y_X4_either o) (pV fun m' => ∃ im', PO b n j im (stP (eitL b n m) p f) im' ∧ m' = (im', rs bt j, lm)) 0 [some (vR 14 0), some (vI (o : Int)), none] [] (im, rs bt j, lm)
  refine q_aload_n (t := 1) F dX4_either_0 rfl rfl rfl ?_
  refine q_iload_n (t := 2) F dX4_either_1 rfl rfl rfl ?_
  refine wp_callV (t := 5) [_] F dX4_either_2 (k_X4_both _) v_X4_both ml_X4_60 rfl rfl rfl rfl (Nat.le_of_ble_eq_true rfl) (by first | exact Nat.le_of_ble_eq_true rfl | (simp only [Y_X4_one, Y_X4_term, Y_X4_sum, Y_X4_denial, Y_X4_both, Y_X4_either, Y_X4_advance, Y_X6_add, Y_X4_at, Y_X4_fail, Y_X4_expect, Y_X4_openAll]; omega)) (m_14 (by omega)) (hO im p f h) rfl (kV ?_)
  rintro m' ⟨im0, h0, rfl⟩
  refine q_iconst (t := 6) F dX4_either_5 rfl ?_
  refine q_istore_n (t := 7) F dX4_either_6 rfl (by first | decide | exact Nat.le_of_ble_eq_true rfl) rfl rfl ?_
  have L7 : ∀ (fz : Nat) (i : Nat) (r : PT) (im1 : IM), 160 - i < fz → i ≤ 160 → loopP b n opO (bothL b n m) 160 (stP (bothL b n m) p f) = loopP b n opO (bothL b n m) (160 - i) r → PO b n j im r im1 → Wp M (XC G) ad (Y_X4_either o) (pV fun m' => ∃ im', PO b n j im (stP (eitL b n m) p f) im' ∧ m' = (im', rs bt j, lm)) 7 [some (vR 14 0), some (vI (o : Int)), some (vI (i : Int))] [] (im1, rs bt j, lm) := by
    intro fz
    induction fz with
    | zero => intro i r im1 h; exact absurd h (Nat.not_lt_zero _)
    | succ fz ih =>
      have ih7 := ih
      intro i r im1 hmeas hi hlp hr
      have h11 : PR b n j im1 r.1 r.2.1 := hr.1
      have hR1 := h11.2.1
      have g4 : im1 14 0 4 = tk b n r.1 := h11.1.2.2.1
      have g6 : im1 14 0 6 = r.2.1 := h11.1.2.2.2.2
      have hti := tk_in b n r.1
      refine q_iload_n (t := 8) F dX4_either_7 rfl rfl rfl ?_
      refine q_sipush (t := 11) F dX4_either_8 (by decide) rfl ?_
      refine q_icmp_ge (t := 14) (u := 47) F dX4_either_11 (by constructor <;> omega) (by constructor <;> omega) (by decide) rfl (fun c11 => ?_) (fun c11 => ?_)
      · refine q_vret F dX4_either_47 rfl ?_
        have e : stP (eitL b n m) p f = r := by
          have e0 : stP (eitL b n m) p f = loopP b n opO (bothL b n m) 160 (stP (bothL b n m) p f) := stP_loop (F := bothL b n m) (k := 160)
          rw [e0, hlp]
          first
            | (rw [show 160 - i = 0 by omega]; rfl)
            | (refine loopP_n (fun q => ?_)
               have q2 := q.2
               unfold opO at q2
               rw [if_neg (by omega)] at q2
               exact q2 rfl)
        exact ⟨rfl, im1, by rw [e]; exact hr, rfl⟩
      · refine q_aload_n (t := 15) F dX4_either_14 rfl rfl rfl ?_
        refine q_bipush (t := 17) F dX4_either_15 (by decide) rfl ?_
        refine wp_callV (t := 20) [_] F dX4_either_17 k_X4_at v_X4_at ml_X4_47 rfl rfl rfl rfl (Nat.le_of_ble_eq_true rfl) (by first | exact Nat.le_of_ble_eq_true rfl | (simp only [Y_X4_one, Y_X4_term, Y_X4_sum, Y_X4_denial, Y_X4_both, Y_X4_either, Y_X4_advance, Y_X6_add, Y_X4_at, Y_X4_fail, Y_X4_expect, Y_X4_openAll]; omega)) (m_14 (by omega)) (c_X4_at _ G im1 bt j lm hR1 7 (by constructor <;> omega)) rfl (kI ?_)
        rintro x17 m' ⟨hx17, rfl⟩
        have hx17 := if01 hx17
        refine q_if_eq (t := 23) (u := 47) F dX4_either_20 (by first | exact hR _ _ _ | (constructor <;> omega)) (by decide) rfl (fun c20 => ?_) (fun c20 => ?_)
        · refine q_vret F dX4_either_47 rfl ?_
          have e : stP (eitL b n m) p f = r := by
            have e0 : stP (eitL b n m) p f = loopP b n opO (bothL b n m) 160 (stP (bothL b n m) p f) := stP_loop (F := bothL b n m) (k := 160)
            rw [e0, hlp]
            first
              | (rw [show 160 - i = 0 by omega]; rfl)
              | (refine loopP_n (fun q => ?_)
                 have q2 := q.2
                 unfold opO at q2
                 rw [if_neg (by omega)] at q2
                 exact q2 rfl)
          exact ⟨rfl, im1, by rw [e]; exact hr, rfl⟩
        · refine q_aload_n (t := 24) F dX4_either_23 rfl rfl rfl ?_
          refine wp_callV (t := 27) [] F dX4_either_24 k_X4_advance v_X4_advance ml_X4_34 rfl rfl rfl rfl (Nat.le_of_ble_eq_true rfl) (by first | exact Nat.le_of_ble_eq_true rfl | (simp only [Y_X4_one, Y_X4_term, Y_X4_sum, Y_X4_denial, Y_X4_both, Y_X4_either, Y_X4_advance, Y_X6_add, Y_X4_at, Y_X4_fail, Y_X4_expect, Y_X4_openAll]; omega)) (m_14 (by omega)) (c_adv _ G im1 bt j lm b n hb r.1 r.2.1 h11) rfl (kV ?_)
          rintro m' ⟨im2, h2, rfl⟩
          have hq : r.2.1 = -1 ∧ tk b n r.1 = 7 := by omega
          have hlt : r.1 < n := tk_lt (b := b) (by omega)
          have h2 := h2 hlt
          rw [hq.1] at h2
          have hop : opO (tk b n r.1) = -15 := by unfold opO; rw [if_pos hq.2]
          refine q_aload_n (t := 28) F dX4_either_27 rfl rfl rfl ?_
          refine q_iload_n (t := 29) F dX4_either_28 rfl rfl rfl ?_
          refine wp_callV (t := 32) [_] F dX4_either_29 (k_X4_both _) v_X4_both ml_X4_60 rfl rfl rfl rfl (Nat.le_of_ble_eq_true rfl) (by first | exact Nat.le_of_ble_eq_true rfl | (simp only [Y_X4_one, Y_X4_term, Y_X4_sum, Y_X4_denial, Y_X4_both, Y_X4_either, Y_X4_advance, Y_X6_add, Y_X4_at, Y_X4_fail, Y_X4_expect, Y_X4_openAll]; omega)) (m_14 (by omega)) (hO im2 (adv b n r.1) (-1) h2.1) rfl (kV ?_)
          rintro m' ⟨im3, h3, rfl⟩
          refine q_aload_n (t := 33) F dX4_either_32 rfl rfl rfl ?_
          refine g_X4_15 (t := 36) F dX4_either_33 rfl rfl ?_
          refine q_bipush (t := 38) F dX4_either_36 (by decide) rfl ?_
          refine wp_callV (t := 41) [_] F dX4_either_38 k_X6_add v_X6_add ml_X4_63 rfl rfl rfl rfl (Nat.le_of_ble_eq_true rfl) (by first | exact Nat.le_of_ble_eq_true rfl | (simp only [Y_X4_one, Y_X4_term, Y_X4_sum, Y_X4_denial, Y_X4_both, Y_X4_either, Y_X4_advance, Y_X6_add, Y_X4_at, Y_X4_fail, Y_X4_expect, Y_X4_openAll]; omega)) (m_2 (by omega)) (c_X6_add _ G im3 bt j lm j hj _ h3.1.2.2.2.2.1.1 h3.1.2.2.2.2.1.2 h3.1.2.1) rfl (kV ?_)
          rintro m' rfl
          refine q_iinc (t := 44) F dX4_either_41 rfl (by first | decide | exact Nat.le_of_ble_eq_true rfl) rfl rfl ?_
          refine q_goto (t := 7) F dX4_either_44 (by decide) ?_
          refine ih7 (i + 1) (lpS b n opO (bothL b n m) r) (addM im3 j (-15)) (by omega) (by omega) ?_ (LP_step hn hz hr hq.1 hop (by constructor <;> omega) hlt h2 (PG_bothL b n m) h3)
          rw [hlp, show 160 - i = (160 - (i + 1)) + 1 by omega, loopP_y2 hq.1 (by rw [hop]; decide)]
  exact L7 _ 0 _ im0 (Nat.lt_succ_self _) (Nat.zero_le _) rfl h0

/-- all six, wherever they stand -/
theorem c_gram (l : Launch) (G : GS) (bt j : Nat) (lm : IM) (hj : j < 6) (b : Nat → Int) (n : Nat) (hb : byt b n) : ∀ (m o : Nat), m + o = 5 → CT l G bt j lm b n yX4_sum (Y_X4_sum o) (sumL b n m) o ∧ CT l G bt j lm b n yX4_either (Y_X4_either o) (eitL b n m) o := by
  intro m
  induction m using Nat.strongRecOn with
  | _ m ih =>
    intro o hmo
    have h1 : CT l G bt j lm b n yX4_one (Y_X4_one o) (oneL b n m) o := fun im p f h => c_X4_one l G im bt j lm hj b n hb m o hmo (fun m2 o2 h2 h3 => (ih m2 h3 o2 h2).2) p f h
    have h2 : CT l G bt j lm b n yX4_term (Y_X4_term o) (termL b n m) o := fun im p f h => c_X4_term l G im bt j lm hj b n hb m o hmo h1 p f h
    have h3 : CT l G bt j lm b n yX4_sum (Y_X4_sum o) (sumL b n m) o := fun im p f h => c_X4_sum l G im bt j lm hj b n hb m o hmo h2 p f h
    have h4 : CT l G bt j lm b n yX4_denial (Y_X4_denial o) (denL b n m) o := fun im p f h => c_X4_denial l G im bt j lm hj b n hb m o hmo (fun m2 o2 k1 k2 => by
      by_cases hm : m2 = m
      · subst hm
        obtain rfl : o2 = o := by omega
        exact h3
      · exact (ih m2 (by omega) o2 k1).1) p f h
    have h5 : CT l G bt j lm b n yX4_both (Y_X4_both o) (bothL b n m) o := fun im p f h => c_X4_both l G im bt j lm hj b n hb m o hmo h4 p f h
    exact ⟨h3, fun im p f h => c_X4_either l G im bt j lm hj b n hb m o hmo h5 p f h⟩
end
section
/-! reading the tape -/
def rdk (b : Nat → Int) (n : Nat) : Nat → PT
  | 0 => (span isW b n 0, -1, [], fun _ => 0)
  | k + 1 => stP (partP b n (4 + (k : Int))) (rdk b n k).1 (rdk b n k).2.1
def stL (b : Nat → Int) (n : Nat) : Nat → List Int
  | 0 => []
  | k + 1 => stL b n k ++ (rdk b n (k + 1)).2.2.1
theorem rdk_1 (b : Nat → Int) (n : Nat) : rdk b n 1 = rd0 b n := stP_y
theorem rdk_2 (b : Nat → Int) (n : Nat) : rdk b n 2 = rd1 b n := by
  show stP (partP b n 5) (rdk b n 1).1 (rdk b n 1).2.1 = _
  rw [rdk_1]
  rfl
theorem rdk_3 (b : Nat → Int) (n : Nat) : rdk b n 3 = rd2 b n := by
  show stP (partP b n 6) (rdk b n 2).1 (rdk b n 2).2.1 = _
  rw [rdk_2]
  rfl
/-- the steps so far -/
def TS (j : Nat) (L : List Int) (im : IM) : Prop := im 2 j 3 = L.length ∧ ∀ s : Nat, s < L.length → im 3 j s = L.getD s 0
theorem TS.app {j : Nat} {a c : IM} {L L2 : List Int} (h : TS j L a) (h2 : ap j a L2 c) : TS j (L ++ L2) c := by
  have e := h.1
  have e2 := h2.1
  refine ⟨by rw [List.length_append]; omega, fun s hs => ?_⟩
  rw [List.length_append] at hs
  rw [List.getD_eq_getElem?_getD]
  by_cases hl : s < L.length
  · rw [List.getElem?_append_left hl, ← List.getD_eq_getElem?_getD, h2.2.1 _ (by omega)]
    exact h.2 s hl
  · rw [List.getElem?_append_right (by omega), ← List.getD_eq_getElem?_getD]
    have h3 := h2.2.2 (s - L.length) (by omega)
    rw [show (a 2 j 3).toNat + (s - L.length) = s by omega] at h3
    exact h3
theorem part_eq (b : Nat → Int) (n : Nat) (key : Int) (p : Nat) (f : Int) : let x1 := stP (exP b n key) p f; let x2 := stP (eitL b n 5) x1.1 x1.2.1; let x3 := stP (exP b n 59) x2.1 x2.2.1; (stP (partP b n key) p f).1 = x3.1 ∧ (stP (partP b n key) p f).2.1 = x3.2.1 ∧ (x3.2.1 = -1 → f = -1 ∧ x1.2.1 = -1 ∧ x2.2.1 = -1 ∧ x1.2.2.1 = [] ∧ x3.2.2.1 = [] ∧ (stP (partP b n key) p f).2.2.1 = x2.2.2.1) := by
  intro x1 x2 x3
  by_cases hf : f = -1
  · subst hf
    by_cases hk : tk b n p = key
    · have e1 : x1 = (adv b n p, -1, [], fun _ => 0) := by
        show stP (exP b n key) p (-1) = _
        rw [stP_y]
        unfold exP
        rw [if_pos hk]
      have e2 : x2 = eitL b n 5 (adv b n p) := by
        show stP (eitL b n 5) x1.1 x1.2.1 = _
        rw [e1, stP_y]
      have e3 : x3 = stP (exP b n 59) (eitL b n 5 (adv b n p)).1 (eitL b n 5 (adv b n p)).2.1 := by
        show stP (exP b n 59) x2.1 x2.2.1 = _
        rw [e2]
      rw [stP_y, e3, e2, e1]
      unfold partP
      rw [if_pos hk]
      by_cases h1 : (eitL b n 5 (adv b n p)).2.1 = -1
      · rw [if_pos h1, h1, stP_y]
        unfold exP
        by_cases h2 : tk b n (eitL b n 5 (adv b n p)).1 = 59
        · rw [if_pos h2, if_pos h2]
          exact ⟨rfl, rfl, fun _ => ⟨rfl, rfl, rfl, rfl, rfl, rfl⟩⟩
        · rw [if_neg h2, if_neg h2]
          exact ⟨rfl, rfl, fun _ => ⟨rfl, rfl, rfl, rfl, rfl, rfl⟩⟩
      · rw [if_neg h1, stP_n h1]
        exact ⟨rfl, rfl, fun q => absurd q h1⟩
    · have e1 : x1 = pFail p := by
        show stP (exP b n key) p (-1) = _
        rw [stP_y]
        unfold exP
        rw [if_neg hk]
      have hp : (pFail p).2.1 ≠ -1 := fun q => by have : ((p : Nat) : Int) = -1 := q; omega
      have e2 : x2 = pFail p := by
        show stP (eitL b n 5) x1.1 x1.2.1 = _
        rw [e1, stP_n hp]
        rfl
      have e3 : x3 = pFail p := by
        show stP (exP b n 59) x2.1 x2.2.1 = _
        rw [e2, stP_n hp]
        rfl
      rw [stP_y, e3]
      unfold partP
      rw [if_neg hk]
      exact ⟨rfl, rfl, fun q => absurd q hp⟩
  · have e1 : x1 = (p, f, [], fun _ => 0) := stP_n hf
    have e2 : x2 = (p, f, [], fun _ => 0) := by
      show stP (eitL b n 5) x1.1 x1.2.1 = _
      rw [e1]
      exact stP_n hf
    have e3 : x3 = (p, f, [], fun _ => 0) := by
      show stP (exP b n 59) x2.1 x2.2.1 = _
      rw [e2]
      exact stP_n hf
    rw [stP_n hf, e3]
    exact ⟨rfl, rfl, fun q => absurd q hf⟩
/-- the same but for the reading, and the text's ends -/
def agT (j : Nat) (a b : IM) : Prop := ∀ k i s, k ≠ 14 → ¬ (k = 2 ∧ i = j ∧ s = 3) → ¬ (k = 3 ∧ i = j) → ¬ (k = 4 ∧ i = j) → a k i s = b k i s
/-- a text that was read -/
def TX (b : Nat → Int) (n j : Nat) (im : IM) : Prop := (∀ k, k < 3 → im 4 j k = (stL b n (k + 1)).length) ∧ ∀ s : Nat, s < (stL b n 3).length → im 3 j s = (stL b n 3).getD s 0
theorem rdF_eq (b : Nat → Int) (n : Nat) : rdF b n = if (rdk b n 3).2.1 = -1 then (if tk b n (rdk b n 3).1 = 0 then -1 else ((rdk b n 3).1 : Int)) else (rdk b n 3).2.1 := by
  rw [rdk_3]
  rfl

set_option maxHeartbeats 4000000 in
theorem c_X4_read (l : Launch) (G : GS) (im : IM) (bt rt j : Nat) (lm : IM) (hj : j < 6) (b : Nat → Int) (n : Nat) (hb : byt b n) (hR : RI im) (hb2 : im 15 0 = b) (hsz : im 14 0 1 = n) : Cn l (XC G) yX4_read Y_X4_read [vR 14 0, vR 2 j] (im, rs bt rt, lm) (pI fun x m' => ∃ im', x = rdF b n ∧ RI im' ∧ agT j im' im ∧ im' 14 0 1 = 0 ∧ (rdF b n = -1 → TX b n j im') ∧ m' = (im', rs bt j, lm)) := by
  refine cn_of (by decide) (okC G) rfl (Nat.le_of_ble_eq_true rfl) ?_
  intro M ad hMl F
  subst hMl
  have hn := hb.1
  refine wp_pad 1 ?_
  show Wp M (XC G) ad Y_X4_read (pI fun x m' => ∃ im', x = rdF b n ∧ RI im' ∧ agT j im' im ∧ im' 14 0 1 = 0 ∧ (rdF b n = -1 → TX b n j im') ∧ m' = (im', rs bt j, lm)) 0 [some (vR 14 0), some (vR 2 j), none] [] (im, rs bt rt, lm)
  refine q_aload_n (t := 1) F dX4_read_0 rfl rfl rfl ?_
  refine q_aload_n (t := 2) F dX4_read_1 rfl rfl rfl ?_
  refine p_X4_15 (t := 5) F dX4_read_2 rfl rfl ?_
  refine q_aload_n (t := 6) F dX4_read_5 rfl rfl rfl ?_
  refine g_X4_15 (t := 9) F dX4_read_6 rfl rfl ?_
  refine wp_callV (t := 12) [] F dX4_read_9 k_X6_clear v_X6_clear ml_X4_23 rfl rfl rfl rfl (Nat.le_of_ble_eq_true rfl) (by decide) (m_2 (by omega)) (c_X6_clear _ G im bt j lm j hj) rfl (kV ?_)
  rintro m' rfl
  refine q_aload_n (t := 13) F dX4_read_12 rfl rfl rfl ?_
  refine q_iconst (t := 14) F dX4_read_13 rfl ?_
  refine p_X4_28 (t := 17) F dX4_read_14 rfl rfl ?_
  refine q_aload_n (t := 18) F dX4_read_17 rfl rfl rfl ?_
  refine q_iconst (t := 19) F dX4_read_18 rfl ?_
  refine p_X4_31 (t := 22) F dX4_read_19 rfl rfl ?_
  refine q_aload_n (t := 23) F dX4_read_22 rfl rfl rfl ?_
  refine wp_callV (t := 26) [] F dX4_read_23 k_X4_advance v_X4_advance ml_X4_34 rfl rfl rfl rfl (Nat.le_of_ble_eq_true rfl) (by decide) (m_14 (by omega)) (c_X4_advance _ G _ bt j lm b n hb (RI_up (RI_up (RI_up hR (by constructor <;> omega)) (by constructor <;> omega)) (by constructor <;> omega)) ((funext fun s => by rw [up_app, if_neg (by omega), up_app, if_neg (by omega), up_app, if_neg (by omega)]; exact congrFun hb2 s)) (by rw [up_app, if_neg (by omega), up_app, if_neg (by omega), up_app, if_neg (by omega)]; exact hsz) 0 (Nat.zero_le _) rfl) rfl (kV ?_)
  rintro m' ⟨im0, hR0, hag0, hRS0, rfl⟩
  have hsp := span_in isW b n _ 0 rfl
  have hr0 : PR b n j im0 (rdk b n 0).1 (rdk b n 0).2.1 := by
    refine ⟨hRS0, hR0, (funext fun s => hag0 15 0 s (by omega)).trans hb2, (hag0 14 0 1 (by omega)).trans hsz, ?_, ?_, fun _ => ?_⟩
    · rw [hag0 2 j 3 (by omega), up_app, if_neg (by omega), up_app, if_neg (by omega), up_app, if_pos ⟨rfl, rfl, rfl⟩]; omega
    · show span isW b n 0 ≤ n
      omega
    · rw [hag0 2 j 3 (by omega), up_app, if_neg (by omega), up_app, if_neg (by omega), up_app, if_pos ⟨rfl, rfl, rfl⟩]
      show (0 : Int) ≤ (span isW b n 0 : Nat)
      omega
  have hz0 : im0 2 j 3 = 0 := by rw [hag0 2 j 3 (by omega), up_app, if_neg (by omega), up_app, if_neg (by omega), up_app, if_pos ⟨rfl, rfl, rfl⟩]
  have ha0 : agT j im0 im := fun k i s h1 h2 h3 h4 => by rw [hag0 k i s (by omega), up_app, if_neg (by omega), up_app, if_neg (by omega), up_app, if_neg (by omega)]
  refine q_iconst (t := 27) F dX4_read_26 rfl ?_
  refine q_istore_n (t := 28) F dX4_read_27 rfl (by decide) rfl rfl ?_
  have L28 : ∀ (fz : Nat) (k : Nat) (im1 : IM), 3 - k < fz → k ≤ 3 → PR b n j im1 (rdk b n k).1 (rdk b n k).2.1 → agT j im1 im → ((rdk b n k).2.1 = -1 → TS j (stL b n k) im1 ∧ ∀ q, q < k → im1 4 j q = (stL b n (q + 1)).length) → Wp M (XC G) ad Y_X4_read (pI fun x m' => ∃ im', x = rdF b n ∧ RI im' ∧ agT j im' im ∧ im' 14 0 1 = 0 ∧ (rdF b n = -1 → TX b n j im') ∧ m' = (im', rs bt j, lm)) 28 [some (vR 14 0), some (vR 2 j), some (vI (k : Int))] [] (im1, rs bt j, lm) := by
    intro fz
    induction fz with
    | zero => intro k im1 h; exact absurd h (Nat.not_lt_zero _)
    | succ fz ih =>
      have ih28 := ih
      intro k im1 hmeas hk h1 ha ht
      have hR1 := h1.2.1
      have g4 : im1 14 0 4 = tk b n (rdk b n k).1 := h1.1.2.2.1
      have g3 : im1 14 0 3 = (rdk b n k).1 := h1.1.2.1
      have g6 : im1 14 0 6 = (rdk b n k).2.1 := h1.1.2.2.2.2
      refine q_iload_n (t := 29) F dX4_read_28 rfl rfl rfl ?_
      refine q_iconst (t := 30) F dX4_read_29 rfl ?_
      refine q_icmp_ge (t := 33) (u := 65) F dX4_read_30 (by constructor <;> omega) (by constructor <;> omega) (by decide) rfl (fun c30 => ?_) (fun c30 => ?_)
      · refine q_aload_n (t := 66) F dX4_read_65 rfl rfl rfl ?_
        refine q_iconst (t := 67) F dX4_read_66 rfl ?_
        refine wp_callV (t := 70) [_] F dX4_read_67 k_X4_at v_X4_at ml_X4_47 rfl rfl rfl rfl (Nat.le_of_ble_eq_true rfl) (by decide) (m_14 (by omega)) (c_X4_at _ G im1 bt j lm hR1 0 (by constructor <;> omega)) rfl (kI ?_)
        rintro x67 m' ⟨hx67, rfl⟩
        have hx67 := if01 hx67
        refine q_if_ne (t := 73) (u := 77) F dX4_read_70 (by first | exact hR _ _ _ | (constructor <;> omega)) (by decide) rfl (fun c70 => ?_) (fun c70 => ?_)
        · refine q_aload_n (t := 78) F dX4_read_77 rfl rfl rfl ?_
          refine q_iconst (t := 79) F dX4_read_78 rfl ?_
          refine p_X4_19 (t := 82) F dX4_read_79 rfl rfl ?_
          refine q_aload_n (t := 83) F dX4_read_82 rfl rfl rfl ?_
          refine g_X4_28 (t := 86) F dX4_read_83 rfl rfl ?_
          try simp only [up_app, row_app, scr_app, cpy_app, Nat.reduceEqDiff, Int.reduceToNat, Int.toNat_natCast, and_true, true_and, and_false, false_and, and_self, reduceIte]
          refine q_iret F dX4_read_86 rfl ?_
          obtain rfl : k = 3 := by omega
          have hre := rdF_eq b n
          have hTX : (rdk b n 3).2.1 = -1 → ∀ m2 : IM, (∀ t s, t ≠ 14 → m2 t j s = im1 t j s) → TX b n j m2 := fun q m2 hm => by
            have t0 := ht q
            exact ⟨fun s hs => by rw [hm 4 s (by omega)]; exact t0.2 s hs, fun s hs => by rw [hm 3 s (by omega)]; exact t0.1.2 s hs⟩
          by_cases hf : (rdk b n 3).2.1 = -1
          · rw [if_pos hf] at hre
            by_cases ht0 : tk b n (rdk b n 3).1 = 0
            · rw [if_pos ht0] at hre
              first
                | (exfalso; omega)
                | exact ⟨_, rfl, _, by rw [hre, ← hf, ← g6] <;> rfl, RI_up hR1 (by constructor <;> omega), (fun t i s q1 q2 q3 q4 => by rw [up_app, if_neg (by omega)]; exact ha t i s q1 q2 q3 q4), rfl, (fun _ => hTX hf _ (fun t s q => by rw [up_app, if_neg (by omega)])), rfl⟩
            · rw [if_neg ht0] at hre
              first
                | (exfalso; omega)
                | (rw [if_pos (by omega)]
                   refine ⟨_, rfl, _, by rw [hre, ← g3] <;> rfl, RI_up (RI_up hR1 (hR1 _ _ _)) (by constructor <;> omega), (fun t i s q1 q2 q3 q4 => by rw [up_app, if_neg (by omega), up_app, if_neg (by omega)]; exact ha t i s q1 q2 q3 q4), rfl, (fun q => ?_), rfl⟩
                   rw [hre] at q
                   omega)
          · rw [if_neg hf] at hre
            first
              | (exfalso; omega)
              | (rw [if_neg (by omega)]
                 refine ⟨_, rfl, _, by rw [hre, ← g6] <;> rfl, RI_up hR1 (by constructor <;> omega), (fun t i s q1 q2 q3 q4 => by rw [up_app, if_neg (by omega)]; exact ha t i s q1 q2 q3 q4), rfl, (fun q => ?_), rfl⟩
                 rw [hre] at q
                 omega)
        · refine q_aload_n (t := 74) F dX4_read_73 rfl rfl rfl ?_
          refine wp_callV (t := 77) [] F dX4_read_74 k_X4_fail v_X4_fail ml_X4_51 rfl rfl rfl rfl (Nat.le_of_ble_eq_true rfl) (by decide) (m_14 (by omega)) (c_X4_fail _ G im1 bt j lm hR1) rfl (kV ?_)
          rintro m' rfl
          refine q_aload_n (t := 78) F dX4_read_77 rfl rfl rfl ?_
          refine q_iconst (t := 79) F dX4_read_78 rfl ?_
          refine p_X4_19 (t := 82) F dX4_read_79 rfl rfl ?_
          refine q_aload_n (t := 83) F dX4_read_82 rfl rfl rfl ?_
          refine g_X4_28 (t := 86) F dX4_read_83 rfl rfl ?_
          try simp only [up_app, row_app, scr_app, cpy_app, Nat.reduceEqDiff, Int.reduceToNat, Int.toNat_natCast, and_true, true_and, and_false, false_and, and_self, reduceIte]
          refine q_iret F dX4_read_86 rfl ?_
          obtain rfl : k = 3 := by omega
          have hre := rdF_eq b n
          have hTX : (rdk b n 3).2.1 = -1 → ∀ m2 : IM, (∀ t s, t ≠ 14 → m2 t j s = im1 t j s) → TX b n j m2 := fun q m2 hm => by
            have t0 := ht q
            exact ⟨fun s hs => by rw [hm 4 s (by omega)]; exact t0.2 s hs, fun s hs => by rw [hm 3 s (by omega)]; exact t0.1.2 s hs⟩
          by_cases hf : (rdk b n 3).2.1 = -1
          · rw [if_pos hf] at hre
            by_cases ht0 : tk b n (rdk b n 3).1 = 0
            · rw [if_pos ht0] at hre
              first
                | (exfalso; omega)
                | exact ⟨_, rfl, _, by rw [hre, ← hf, ← g6] <;> rfl, RI_up hR1 (by constructor <;> omega), (fun t i s q1 q2 q3 q4 => by rw [up_app, if_neg (by omega)]; exact ha t i s q1 q2 q3 q4), rfl, (fun _ => hTX hf _ (fun t s q => by rw [up_app, if_neg (by omega)])), rfl⟩
            · rw [if_neg ht0] at hre
              first
                | (exfalso; omega)
                | (rw [if_pos (by omega)]
                   refine ⟨_, rfl, _, by rw [hre, ← g3] <;> rfl, RI_up (RI_up hR1 (hR1 _ _ _)) (by constructor <;> omega), (fun t i s q1 q2 q3 q4 => by rw [up_app, if_neg (by omega), up_app, if_neg (by omega)]; exact ha t i s q1 q2 q3 q4), rfl, (fun q => ?_), rfl⟩
                   rw [hre] at q
                   omega)
          · rw [if_neg hf] at hre
            first
              | (exfalso; omega)
              | (rw [if_neg (by omega)]
                 refine ⟨_, rfl, _, by rw [hre, ← g6] <;> rfl, RI_up hR1 (by constructor <;> omega), (fun t i s q1 q2 q3 q4 => by rw [up_app, if_neg (by omega)]; exact ha t i s q1 q2 q3 q4), rfl, (fun q => ?_), rfl⟩
                 rw [hre] at q
                 omega)
      · refine q_aload_n (t := 34) F dX4_read_33 rfl rfl rfl ?_
        refine q_iconst (t := 35) F dX4_read_34 rfl ?_
        refine q_iload_n (t := 36) F dX4_read_35 rfl rfl rfl ?_
        refine q_iadd (t := 37) F dX4_read_36 rfl ?_
        refine wp_callV (t := 40) [_] F dX4_read_37 k_X4_expect v_X4_expect ml_X4_37 rfl rfl rfl rfl (Nat.le_of_ble_eq_true rfl) (by decide) (m_14 (by omega)) (c_X4_expect _ G im1 bt j lm b n hb (4 + (k : Int)) (by omega) (by omega) _ _ h1) rfl (kV ?_)
        rintro m' ⟨im2, h2, rfl⟩
        refine q_aload_n (t := 41) F dX4_read_40 rfl rfl rfl ?_
        refine q_iconst (t := 42) F dX4_read_41 rfl ?_
        refine wp_callV (t := 45) [_] F dX4_read_42 (k_X4_either _) v_X4_either ml_X4_41 rfl rfl rfl rfl (Nat.le_of_ble_eq_true rfl) (by decide) (m_14 (by omega)) ((c_gram _ G bt j lm hj b n hb 5 0 rfl).2 im2 _ _ h2.1) rfl (kV ?_)
        rintro m' ⟨im3, h3, rfl⟩
        refine q_aload_n (t := 46) F dX4_read_45 rfl rfl rfl ?_
        refine q_bipush (t := 48) F dX4_read_46 (by decide) rfl ?_
        refine wp_callV (t := 51) [_] F dX4_read_48 k_X4_expect v_X4_expect ml_X4_37 rfl rfl rfl rfl (Nat.le_of_ble_eq_true rfl) (by decide) (m_14 (by omega)) (c_X4_expect _ G im3 bt j lm b n hb 59 (by omega) (by omega) _ _ h3.1) rfl (kV ?_)
        rintro m' ⟨im4, h4, rfl⟩
        refine q_aload_n (t := 52) F dX4_read_51 rfl rfl rfl ?_
        refine g_X4_15 (t := 55) F dX4_read_52 rfl rfl ?_
        refine q_iload_n (t := 56) F dX4_read_55 rfl rfl rfl ?_
        refine wp_callV (t := 59) [_] F dX4_read_56 k_X6_endPart v_X6_endPart ml_X4_44 rfl rfl rfl rfl (Nat.le_of_ble_eq_true rfl) (by decide) (m_2 (by omega)) (c_X6_endPart _ G im4 bt j lm j hj k (by omega)) rfl (kV ?_)
        rintro m' rfl
        refine q_iinc (t := 62) F dX4_read_59 rfl (by decide) rfl rfl ?_
        refine q_goto (t := 28) F dX4_read_62 (by decide) ?_
        have hpe := part_eq b n (4 + (k : Int)) (rdk b n k).1 (rdk b n k).2.1
        have h41 := h4.1
        rw [← hpe.1, ← hpe.2.1] at h41
        have h41 : PR b n j im4 (rdk b n (k + 1)).1 (rdk b n (k + 1)).2.1 := h41
        have ea : ∀ t s, t ≠ 4 → up im4 4 j k (im4 2 j 3) t j s = im4 t j s := fun t s h => by rw [up_app, if_neg (by omega)]
        have e14 : ∀ s, up im4 4 j k (im4 2 j 3) 14 0 s = im4 14 0 s := fun s => by rw [up_app, if_neg (by omega)]
        refine ih28 (k + 1) _ (by omega) (by omega) ⟨⟨h41.1.1, h41.1.2.1, h41.1.2.2.1, h41.1.2.2.2.1, h41.1.2.2.2.2⟩, RI_up h41.2.1 (h41.2.1 _ _ _), (funext fun s => by rw [up_app, if_neg (by omega)]).trans h41.2.2.1, (e14 1).trans h41.2.2.2.1, ?_, h41.2.2.2.2.2.1, fun q => ?_⟩ (fun t i s q1 q2 q3 q4 => ?_) (fun q => ?_)
        · rw [ea 2 3 (by omega)]; exact h41.2.2.2.2.1
        · rw [ea 2 3 (by omega)]; exact h41.2.2.2.2.2.2 q
        · rw [up_app, if_neg (by omega), h4.2.1 t i s (by omega) (by omega) (by omega), h3.2.1 t i s (by omega) (by omega) (by omega), h2.2.1 t i s (by omega) (by omega) (by omega)]
          exact ha t i s q1 q2 q3 q4
        · have q2 : (stP (exP b n 59) (stP (eitL b n 5) (stP (exP b n (4 + (k : Int))) (rdk b n k).1 (rdk b n k).2.1).1 (stP (exP b n (4 + (k : Int))) (rdk b n k).1 (rdk b n k).2.1).2.1).1 (stP (eitL b n 5) (stP (exP b n (4 + (k : Int))) (rdk b n k).1 (rdk b n k).2.1).1 (stP (exP b n (4 + (k : Int))) (rdk b n k).1 (rdk b n k).2.1).2.1).2.1).2.1 = -1 := hpe.2.1.symm.trans q
          obtain ⟨f1, f2, f3, f4, f5, f6⟩ := hpe.2.2 q2
          have t0 := ht f1
          have a2 := h2.2.2 f2
          have a3 := h3.2.2 f3
          have a4 := h4.2.2 q2
          rw [f4] at a2
          rw [f5] at a4
          rw [← f6] at a3
          have t4 := ((t0.1.app a2).app a3).app a4
          rw [List.append_nil, List.append_nil] at t4
          have t4 : TS j (stL b n (k + 1)) im4 := t4
          refine ⟨⟨?_, fun s hs => ?_⟩, fun s hs => ?_⟩
          · rw [ea 2 3 (by omega)]; exact t4.1
          · rw [ea 3 s (by omega)]; exact t4.2 s hs
          · rw [up_app]
            by_cases hsk : s = k
            · rw [if_pos ⟨rfl, rfl, hsk⟩, hsk]; exact t4.1
            · rw [if_neg (by omega), h4.2.1 4 j s (by omega) (by omega) (by omega), h3.2.1 4 j s (by omega) (by omega) (by omega), h2.2.1 4 j s (by omega) (by omega) (by omega)]
              exact t0.2 s (by omega)
  exact L28 _ 0 im0 (Nat.lt_succ_self _) (Nat.zero_le _) hr0 ha0 (fun _ => ⟨⟨hz0, fun s hs => absurd hs (Nat.not_lt_zero _)⟩, fun q hq => absurd hq (Nat.not_lt_zero _)⟩)
end
