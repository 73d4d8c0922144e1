/-! the reference's grammar: one -/
def NMr (im : IM) (nm : Nat → Int) : Prop := ∀ i, i < 6 → im 30 0 (15 + i) = nm i
def RPO (b : Nat → Int) (n : Nat) (im lm : IM) (nm : Nat → Int) (r : PT) (x : Int) (im' lm' : IM) : Prop := ri x ∧ PQ b n im' lm' r.1 r.2.1 ∧ agQ im' im ∧ lgQ lm' lm ∧ (r.2.1 = -1 → x = r.2.2.2 nm)
def RT (l : Launch) (G : GS) (bt rt : Nat) (b : Nat → Int) (n : Nat) (y : MethodName) (Y : YS) (F : Nat → PT) (d : Nat) : Prop := ∀ (im lm : IM) (nm : Nat → Int) (p : Nat) (f : Int), PQ b n im lm p f → im 30 0 27 = (d : Int) → NMr im nm → Cn l (XR G) y Y [vR 30 0] (im, rs bt rt, lm) (pI fun x m' => ∃ im' lm', RPO b n im lm nm (stP F p f) x im' lm' ∧ m' = (im', rs bt rt, lm'))
theorem NMr.ag {im im' : IM} {nm : Nat → Int} (h : NMr im nm) (ha : agQ im' im) : NMr im' nm := fun i hi => (ha 30 0 (15 + i) (by omega)).trans (h i hi)
theorem NMr.ag27 {im im' : IM} {nm : Nat → Int} {x : Int} (h : NMr im nm) (ha : agQ im' (up im 30 0 27 x)) : NMr im' nm := fun i hi => (ha 30 0 (15 + i) (by omega)).trans (by rw [up_app, if_neg (by omega)]; exact h i hi)
theorem ag_27 {im im3 : IM} {d x : Int} (h : agQ im3 (up im 30 0 27 x)) (h27 : im 30 0 27 = d) : agQ (up im3 30 0 27 d) im := fun k i s hs => by
  rw [up_app]
  split
  · rename_i q
    obtain ⟨rfl, rfl, rfl⟩ := q
    exact h27.symm
  · rename_i q
    exact (h k i s hs).trans (by rw [up_app, if_neg q])
theorem RPO_neg {b : Nat → Int} {n d : Nat} {im lm im2 lm2 im3 lm3 : IM} {nm : Nat → Int} {r : PT} {x : Int} (hd : d ≤ 5) (h27 : im 30 0 27 = (d : Int)) (hag : agQ im2 (up im 30 0 27 ((d : Int) + 1))) (hlg : lgQ lm2 lm) (h : RPO b n im2 lm2 nm r x im3 lm3) : RPO b n im lm nm (wrap1 (-7) r) (bm (-x)) (up im3 30 0 27 (d : Int)) lm3 := by
  obtain ⟨h1, h2, h3, h4, h5⟩ := h
  exact ⟨ri_b _, PQ_27 h2 (by constructor <;> omega), ag_27 (h3.trans hag) h27, h4.trans hlg, fun q => by rw [h5 q]; rfl⟩
theorem one_min {b : Nat → Int} {n m p : Nat} (ht : tk b n p = 45) : oneL b n (m + 1) p = wrap1 (-7) (oneL b n m (adv b n p)) := by rw [oneL_s, if_pos ht]
theorem one_oth {b : Nat → Int} {n m p : Nat} (ht : tk b n p ≠ 45) : oneL b n m p = atomX b n m (eitB b n m) p := by
  cases m with
  | zero => rw [oneL_0, if_neg ht]; rfl
  | succ m => rw [oneL_s, if_neg ht]; rfl
theorem one_par {b : Nat → Int} {n m p : Nat} (ht : tk b n p = 40) : oneL b n (m + 1) p = (if (eitL b n m (adv b n p)).2.1 = -1 then (if tk b n (eitL b n m (adv b n p)).1 = 41 then (adv b n (eitL b n m (adv b n p)).1, -1, (eitL b n m (adv b n p)).2.2) else ((eitL b n m (adv b n p)).1, ((eitL b n m (adv b n p)).1 : Int), (eitL b n m (adv b n p)).2.2)) else eitL b n m (adv b n p)) := by
  rw [one_oth (by omega)]
  unfold atomX
  rw [if_pos ⟨ht, by omega⟩]
  rfl
theorem oneR_num {b : Nat → Int} {n m p : Nat} (ht : tk b n p = 2) : oneL b n m p = (adv b n p, -1, [vl b n p], fun _ => vl b n p) := by
  rw [one_oth (by omega)]
  unfold atomX
  rw [if_neg (by omega), if_pos ht]
theorem oneR_nam {b : Nat → Int} {n m p : Nat} (ht : tk b n p = 3) : oneL b n m p = (adv b n p, -1, [-1 - vl b n p], fun nm => nm (vl b n p).toNat) := by
  rw [one_oth (by omega)]
  unfold atomX
  rw [if_neg (by omega), if_neg (by omega), if_pos ht]
theorem one_non {b : Nat → Int} {n m p : Nat} (h1 : tk b n p ≠ 2) (h2 : tk b n p ≠ 3) (h3 : m = 0 ∨ (tk b n p ≠ 45 ∧ tk b n p ≠ 40)) : oneL b n m p = pFail p := by
  by_cases h : tk b n p = 45
  · have : m = 0 := by omega
    subst this
    rw [oneL_0, if_pos h]
  · rw [one_oth h]
    unfold atomX
    rw [if_neg (by omega), if_neg h1, if_neg h2]
theorem vl_2 {b : Nat → Int} {n p : Nat} (h : tk b n p = 2) : 0 ≤ vl b n p ∧ vl b n p ≤ 9999 := by
  have hp := tk_lt (b := b) (n := n) (p := p) (by omega)
  by_cases hl : isL (b p) = true
  · have e := (tk_L hp hl).1
    have hw := wIx_in b p (span isL b n p) 12
    unfold tkW at e
    (repeat' split at e) <;> omega
  · by_cases hd : isD (b p) = true
    · have e : tk b n p = (if 4 < span isD b n p - p then 1 else 2) := by unfold tk; rw [if_neg (by omega), if_neg hl, if_pos hd]
      have e4 : vl b n p = numF b p (span isD b n p - p) := by unfold vl; rw [if_neg hl]
      have hk : span isD b n p - p ≤ 4 := by split at e <;> omega
      have hf := numF_in (b := b) (p := p) (span isD b n p - p) hk (fun q hq => isD_iff.mp (span_all (P := isD) (b := b) (n := n) _ p rfl (p + q) (by omega) (by omega)))
      rw [e4]
      refine ⟨hf.1, ?_⟩
      have h10 : (10 : Int) ^ (span isD b n p - p) ≤ 10 ^ 4 := by
        rcases (show span isD b n p - p = 0 ∨ span isD b n p - p = 1 ∨ span isD b n p - p = 2 ∨ span isD b n p - p = 3 ∨ span isD b n p - p = 4 by omega) with q | q | q | q | q <;> rw [q] <;> decide
      have : (10 : Int) ^ 4 = 10000 := rfl
      omega
    · have e : tk b n p = (if sgn (b p) then b p else 1) := by unfold tk; rw [if_neg (by omega), if_neg hl, if_neg hd]
      unfold sgn at e
      split at e <;> omega
theorem c_nameQ (l : Launch) (G : GS) (im : IM) (bt rt : Nat) (lm : IM) (b : Nat → Int) (n : Nat) (hb : byt b n) (nm : Nat → Int) (p : Nat) (h : PQ b n im lm p (-1)) (hnm : NMr im nm) : Cn l (XR G) yX9_name Y_X9_name [vR 30 0] (im, rs bt rt, lm) (pI fun x m' => ∃ im', ri x ∧ PQ b n im' lm p (if tk b n p = 3 then -1 else (p : Int)) ∧ agQ im' im ∧ (tk b n p = 3 → x = nm (vl b n p).toNat) ∧ m' = (im', rs bt rt, lm)) := by
  refine (c_X9_name l G im bt rt lm b n hb p h).mono (fun r m' hq => ?_)
  obtain ⟨x, hr, hq⟩ := hq
  rcases hq with ⟨ht, hx, hm⟩ | ⟨ht, hx, im', hP, hag, hm⟩
  · obtain ⟨i, hi, hv, -⟩ := tk_3 ht
    refine ⟨x, hr, im, by rw [hx]; exact h.2.1 _ _ _, by rw [if_pos ht]; exact h, agQ_rfl im, fun _ => ?_, hm⟩
    rw [hx]
    refine hnm _ ?_
    rw [hv]
    omega
  · exact ⟨x, hr, im', by rw [hx]; constructor <;> omega, by rw [if_neg ht]; exact hP, hag, fun q => absurd q ht, hm⟩
theorem TK_is {b : Nat → Int} {n p : Nat} {im lm : IM} {f : Int} (h : PQ b n im lm p f) : f = -1 → (im 30 0 24 = 2 ↔ tk b n p = 2) ∧ (tk b n p = 2 → lm 30 0 26 = vl b n p) ∧ (im 30 0 24 = 1 ↔ p < n ∧ isL (b p) = true) := fun hf => ⟨(TK_num (h.1.1 hf).2.2).1, (TK_num (h.1.1 hf).2.2).2, (TK_word (h.1.1 hf).2.2).1⟩
theorem TK_lw {b : Nat → Int} {n p : Nat} (hp : p < n) (hl : isL (b p) = true) (h : tk b n p ≠ 1) : True := trivial
theorem tk_3L {b : Nat → Int} {n p : Nat} (h : tk b n p = 3) : p < n ∧ isL (b p) = true := by
  obtain ⟨i, hi, hv, hw⟩ := tk_3 h
  exact ⟨hw.1, hw.2.1⟩
theorem tk_L9 {b : Nat → Int} {n p : Nat} (hp : p < n) (hl : isL (b p) = true) : tk b n p ≠ 2 ∧ tk b n p ≤ 9 := by
  have hw := wIx_in b p (span isL b n p) 12
  rw [(tk_L hp hl).1]
  unfold tkW
  (repeat' split) <;> omega

set_option maxHeartbeats 4000000 in
theorem c_X9_atom5 (l : Launch) (G : GS)  (bt rt : Nat)  (b : Nat → Int) (n : Nat) (hb : byt b n) (im lm : IM) (nm : Nat → Int) (p : Nat) (f : Int) (h : PQ b n im lm p f) (h27 : im 30 0 27 = ((5 : Nat) : Int)) (hnm : NMr im nm) : Cn l (XR G) yX9_atom5 Y_X9_atom5 [vR 30 0] (im, rs bt rt, lm) (pI fun x m' => ∃ im' lm', RPO b n im lm nm (stP (oneL b n 0) p f) x im' lm' ∧ m' = (im', rs bt rt, lm')) := by
  refine cn_of (by decide) (okR G) rfl (Nat.le_of_ble_eq_true rfl) ?_
  intro M ad hMl F
  subst hMl
  have hn := hb.1
  have hR := h.2.1
  have hbb := h.b01
  have hti := tk_in b n p
  have hTK := TK_is h
  refine wp_pad 1 ?_
  show Wp M (XR G) ad Y_X9_atom5 (pI fun x m' => ∃ im' lm', RPO b n im lm nm (stP (oneL b n 0) p f) x im' lm' ∧ m' = (im', rs bt rt, lm')) 0 [some (vR 30 0), none] [] (im, rs bt rt, lm)
  have T102 : ∀ (x : Int) (im1 lm1 : IM), RPO b n im lm nm (stP (oneL b n 0) p f) x im1 lm1 → Wp M (XR G) ad Y_X9_atom5 (pI fun x m' => ∃ im' lm', RPO b n im lm nm (stP (oneL b n 0) p f) x im' lm' ∧ m' = (im', rs bt rt, lm')) 102 [some (vR 30 0), some (vI x)] [] (im1, rs bt rt, lm1) := by
    intro x im1 lm1 hr
    refine q_iload_n (t := 103) F dX9_atom5_102 rfl rfl rfl ?_
    refine q_iret F dX9_atom5_103 rfl ?_
    exact ⟨x, rfl, im1, lm1, hr, rfl⟩
  refine q_iconst (t := 1) F dX9_atom5_0 rfl ?_
  refine q_istore_n (t := 2) F dX9_atom5_1 rfl (by decide) rfl rfl ?_
  refine q_aload_n (t := 3) F dX9_atom5_2 rfl rfl rfl ?_
  refine q_bipush (t := 5) F dX9_atom5_3 (by decide) rfl ?_
  refine wp_callV (t := 8) [_] F dX9_atom5_5 k_X9_isSign v_X9_isSign ml_X9_220 rfl rfl rfl rfl (Nat.le_of_ble_eq_true rfl) (by decide) (m_30 (by omega)) (c_X9_isSign _ G im bt rt lm b n hb p f h 45 (by omega) (by omega)) rfl (kI ?_)
  rintro x5 m' ⟨hx5, rfl⟩
  have hx5 := if01 hx5
  refine q_if_eq (t := 11) (u := 19) F dX9_atom5_8 (by first | exact hR _ _ _ | (constructor <;> omega)) (by decide) rfl (fun c8 => ?_) (fun c8 => ?_)
  · refine q_aload_n (t := 20) F dX9_atom5_19 rfl rfl rfl ?_
    refine q_bipush (t := 22) F dX9_atom5_20 (by decide) rfl ?_
    refine wp_callV (t := 25) [_] F dX9_atom5_22 k_X9_isSign v_X9_isSign ml_X9_220 rfl rfl rfl rfl (Nat.le_of_ble_eq_true rfl) (by decide) (m_30 (by omega)) (c_X9_isSign _ G im bt rt lm b n hb p f h 40 (by omega) (by omega)) rfl (kI ?_)
    rintro x22 m' ⟨hx22, rfl⟩
    have hx22 := if01 hx22
    refine q_if_eq (t := 28) (u := 36) F dX9_atom5_25 (by first | exact hR _ _ _ | (constructor <;> omega)) (by decide) rfl (fun c25 => ?_) (fun c25 => ?_)
    · refine q_aload_n (t := 37) F dX9_atom5_36 rfl rfl rfl ?_
      refine g_X9_179 (t := 40) F dX9_atom5_37 rfl rfl ?_
      try simp only [up_app, row_app, scr_app, cpy_app, Nat.reduceEqDiff, Int.reduceToNat, Int.toNat_natCast, and_true, true_and, and_false, false_and, and_self, reduceIte]
      refine q_if_ne (t := 43) (u := 64) F dX9_atom5_40 (by exact hR _ _ _) (by decide) rfl (fun c40 => ?_) (fun c40 => ?_)
      · refine q_aload_n (t := 65) F dX9_atom5_64 rfl rfl rfl ?_
        refine g_X9_179 (t := 68) F dX9_atom5_65 rfl rfl ?_
        try simp only [up_app, row_app, scr_app, cpy_app, Nat.reduceEqDiff, Int.reduceToNat, Int.toNat_natCast, and_true, true_and, and_false, false_and, and_self, reduceIte]
        refine q_if_ne (t := 71) (u := 98) F dX9_atom5_68 (by exact hR _ _ _) (by decide) rfl (fun c68 => ?_) (fun c68 => ?_)
        · refine q_aload_n (t := 99) F dX9_atom5_98 rfl rfl rfl ?_
          refine wp_callV (t := 102) [] F dX9_atom5_99 k_X9_fail v_X9_fail ml_X9_193 rfl rfl rfl rfl (Nat.le_of_ble_eq_true rfl) (by decide) (m_30 (by omega)) (c_failQ _ G im bt rt lm b n p f h) rfl (kV ?_)
          rintro m' ⟨im9, h9, hag9, rfl⟩
          by_cases hf : f = -1
          · subst hf
            have e : oneL b n 0 p = pFail p := by
              refine one_non ?_ ?_ ?_
              · intro q
                have := (hTK rfl).1.mpr q
                omega
              · intro q
                have := (hTK rfl).2.2.mpr (tk_3L q)
                omega
              · omega
            refine T102 0 im9 lm ⟨by constructor <;> omega, ?_, hag9, lgQ_rfl lm, fun q => ?_⟩
            · rw [stP_y, e]; exact h9
            · rw [stP_y, e] at q
              have : (p : Int) = -1 := q
              omega
          · refine T102 0 im9 lm ⟨by constructor <;> omega, ?_, hag9, lgQ_rfl lm, fun q => ?_⟩
            · rw [if_neg hf] at h9
              rw [stP_n hf]; exact h9
            · rw [stP_n hf] at q
              exact absurd q hf
        · refine q_aload_n (t := 72) F dX9_atom5_71 rfl rfl rfl ?_
          refine g_X9_164 (t := 75) F dX9_atom5_72 rfl rfl ?_
          try simp only [up_app, row_app, scr_app, cpy_app, Nat.reduceEqDiff, Int.reduceToNat, Int.toNat_natCast, and_true, true_and, and_false, false_and, and_self, reduceIte]
          refine q_iconst (t := 76) F dX9_atom5_75 rfl ?_
          refine q_icmp_ne (t := 79) (u := 98) F dX9_atom5_76 (by exact hR _ _ _) (by constructor <;> omega) (by decide) rfl (fun c76 => ?_) (fun c76 => ?_)
          · refine q_aload_n (t := 99) F dX9_atom5_98 rfl rfl rfl ?_
            refine wp_callV (t := 102) [] F dX9_atom5_99 k_X9_fail v_X9_fail ml_X9_193 rfl rfl rfl rfl (Nat.le_of_ble_eq_true rfl) (by decide) (m_30 (by omega)) (c_failQ _ G im bt rt lm b n p f h) rfl (kV ?_)
            rintro m' ⟨im9, h9, hag9, rfl⟩
            by_cases hf : f = -1
            · subst hf
              have e : oneL b n 0 p = pFail p := by
                refine one_non ?_ ?_ ?_
                · intro q
                  have := (hTK rfl).1.mpr q
                  omega
                · intro q
                  have := (hTK rfl).2.2.mpr (tk_3L q)
                  omega
                · omega
              refine T102 0 im9 lm ⟨by constructor <;> omega, ?_, hag9, lgQ_rfl lm, fun q => ?_⟩
              · rw [stP_y, e]; exact h9
              · rw [stP_y, e] at q
                have : (p : Int) = -1 := q
                omega
            · refine T102 0 im9 lm ⟨by constructor <;> omega, ?_, hag9, lgQ_rfl lm, fun q => ?_⟩
              · rw [if_neg hf] at h9
                rw [stP_n hf]; exact h9
              · rw [stP_n hf] at q
                exact absurd q hf
          · have hf : f = -1 := by first | (clear hx5 hx22; omega) | omega
            subst hf
            have hwd := (hTK rfl).2.2.mp (by omega)
            refine q_aload_n (t := 80) F dX9_atom5_79 rfl rfl rfl ?_
            refine wp_callV (t := 83) [] F dX9_atom5_80 k_X9_name v_X9_name ml_X9_227 rfl rfl rfl rfl (Nat.le_of_ble_eq_true rfl) (by decide) (m_30 (by omega)) (c_nameQ _ G im bt rt lm b n hb nm p h hnm) rfl (kI ?_)
            rintro x80 m' ⟨im6, hri6, h6, hag6, hx6, rfl⟩
            have hb6 : (tk b n p = 3 ∧ im6 30 0 28 = 0) ∨ (tk b n p ≠ 3 ∧ im6 30 0 28 = 1) := by
              have q6 := h6.b01
              split at q6 <;> omega
            refine q_istore_n (t := 84) F dX9_atom5_83 rfl (by decide) rfl rfl ?_
            refine q_aload_n (t := 85) F dX9_atom5_84 rfl rfl rfl ?_
            refine g_X9_179 (t := 88) F dX9_atom5_85 rfl rfl ?_
            try simp only [up_app, row_app, scr_app, cpy_app, Nat.reduceEqDiff, Int.reduceToNat, Int.toNat_natCast, and_true, true_and, and_false, false_and, and_self, reduceIte]
            refine q_if_ne (t := 91) (u := 102) F dX9_atom5_88 (by exact h6.2.1 _ _ _) (by decide) rfl (fun c88 => ?_) (fun c88 => ?_)
            · have e : oneL b n 0 p = pFail p := by
                have h29 := tk_L9 hwd.1 hwd.2
                exact one_non h29.1 (fun q => by omega) (by omega)
              have ht3 : tk b n p ≠ 3 := by omega
              rw [if_neg ht3] at h6
              refine T102 x80 im6 lm ⟨hri6, ?_, hag6, lgQ_rfl lm, fun q => ?_⟩
              · rw [stP_y, e]; exact h6
              · rw [stP_y, e] at q
                have : (p : Int) = -1 := q
                omega
            · have ht3 : tk b n p = 3 := by omega
              rw [if_pos ht3] at h6
              refine q_aload_n (t := 92) F dX9_atom5_91 rfl rfl rfl ?_
              refine wp_callV (t := 95) [] F dX9_atom5_92 k_X9_next v_X9_next ml_X9_196 rfl rfl rfl rfl (Nat.le_of_ble_eq_true rfl) (by decide) (m_30 (by omega)) (c_nextQ _ G im6 bt rt lm b n hb p h6 hwd.1 (by omega)) rfl (kV ?_)
              rintro m' ⟨im7, lm7, h7, hag7, hlg7, rfl⟩
              refine q_goto (t := 102) F dX9_atom5_95 (by decide) ?_
              refine T102 x80 im7 lm7 ⟨hri6, ?_, hag7.trans hag6, hlg7, fun q => ?_⟩
              · rw [stP_y, oneR_nam ht3]; exact h7
              · rw [stP_y, oneR_nam ht3]; exact hx6 ht3
      · refine q_aload_n (t := 44) F dX9_atom5_43 rfl rfl rfl ?_
        refine g_X9_164 (t := 47) F dX9_atom5_44 rfl rfl ?_
        try simp only [up_app, row_app, scr_app, cpy_app, Nat.reduceEqDiff, Int.reduceToNat, Int.toNat_natCast, and_true, true_and, and_false, false_and, and_self, reduceIte]
        refine q_iconst (t := 48) F dX9_atom5_47 rfl ?_
        refine q_icmp_ne (t := 51) (u := 64) F dX9_atom5_48 (by exact hR _ _ _) (by constructor <;> omega) (by decide) rfl (fun c48 => ?_) (fun c48 => ?_)
        · refine q_aload_n (t := 65) F dX9_atom5_64 rfl rfl rfl ?_
          refine g_X9_179 (t := 68) F dX9_atom5_65 rfl rfl ?_
          try simp only [up_app, row_app, scr_app, cpy_app, Nat.reduceEqDiff, Int.reduceToNat, Int.toNat_natCast, and_true, true_and, and_false, false_and, and_self, reduceIte]
          refine q_if_ne (t := 71) (u := 98) F dX9_atom5_68 (by exact hR _ _ _) (by decide) rfl (fun c68 => ?_) (fun c68 => ?_)
          · refine q_aload_n (t := 99) F dX9_atom5_98 rfl rfl rfl ?_
            refine wp_callV (t := 102) [] F dX9_atom5_99 k_X9_fail v_X9_fail ml_X9_193 rfl rfl rfl rfl (Nat.le_of_ble_eq_true rfl) (by decide) (m_30 (by omega)) (c_failQ _ G im bt rt lm b n p f h) rfl (kV ?_)
            rintro m' ⟨im9, h9, hag9, rfl⟩
            by_cases hf : f = -1
            · subst hf
              have e : oneL b n 0 p = pFail p := by
                refine one_non ?_ ?_ ?_
                · intro q
                  have := (hTK rfl).1.mpr q
                  omega
                · intro q
                  have := (hTK rfl).2.2.mpr (tk_3L q)
                  omega
                · omega
              refine T102 0 im9 lm ⟨by constructor <;> omega, ?_, hag9, lgQ_rfl lm, fun q => ?_⟩
              · rw [stP_y, e]; exact h9
              · rw [stP_y, e] at q
                have : (p : Int) = -1 := q
                omega
            · refine T102 0 im9 lm ⟨by constructor <;> omega, ?_, hag9, lgQ_rfl lm, fun q => ?_⟩
              · rw [if_neg hf] at h9
                rw [stP_n hf]; exact h9
              · rw [stP_n hf] at q
                exact absurd q hf
          · refine q_aload_n (t := 72) F dX9_atom5_71 rfl rfl rfl ?_
            refine g_X9_164 (t := 75) F dX9_atom5_72 rfl rfl ?_
            try simp only [up_app, row_app, scr_app, cpy_app, Nat.reduceEqDiff, Int.reduceToNat, Int.toNat_natCast, and_true, true_and, and_false, false_and, and_self, reduceIte]
            refine q_iconst (t := 76) F dX9_atom5_75 rfl ?_
            refine q_icmp_ne (t := 79) (u := 98) F dX9_atom5_76 (by exact hR _ _ _) (by constructor <;> omega) (by decide) rfl (fun c76 => ?_) (fun c76 => ?_)
            · refine q_aload_n (t := 99) F dX9_atom5_98 rfl rfl rfl ?_
              refine wp_callV (t := 102) [] F dX9_atom5_99 k_X9_fail v_X9_fail ml_X9_193 rfl rfl rfl rfl (Nat.le_of_ble_eq_true rfl) (by decide) (m_30 (by omega)) (c_failQ _ G im bt rt lm b n p f h) rfl (kV ?_)
              rintro m' ⟨im9, h9, hag9, rfl⟩
              by_cases hf : f = -1
              · subst hf
                have e : oneL b n 0 p = pFail p := by
                  refine one_non ?_ ?_ ?_
                  · intro q
                    have := (hTK rfl).1.mpr q
                    omega
                  · intro q
                    have := (hTK rfl).2.2.mpr (tk_3L q)
                    omega
                  · omega
                refine T102 0 im9 lm ⟨by constructor <;> omega, ?_, hag9, lgQ_rfl lm, fun q => ?_⟩
                · rw [stP_y, e]; exact h9
                · rw [stP_y, e] at q
                  have : (p : Int) = -1 := q
                  omega
              · refine T102 0 im9 lm ⟨by constructor <;> omega, ?_, hag9, lgQ_rfl lm, fun q => ?_⟩
                · rw [if_neg hf] at h9
                  rw [stP_n hf]; exact h9
                · rw [stP_n hf] at q
                  exact absurd q hf
            · have hf : f = -1 := by first | (clear hx5 hx22; omega) | omega
              subst hf
              have hwd := (hTK rfl).2.2.mp (by omega)
              refine q_aload_n (t := 80) F dX9_atom5_79 rfl rfl rfl ?_
              refine wp_callV (t := 83) [] F dX9_atom5_80 k_X9_name v_X9_name ml_X9_227 rfl rfl rfl rfl (Nat.le_of_ble_eq_true rfl) (by decide) (m_30 (by omega)) (c_nameQ _ G im bt rt lm b n hb nm p h hnm) rfl (kI ?_)
              rintro x80 m' ⟨im6, hri6, h6, hag6, hx6, rfl⟩
              have hb6 : (tk b n p = 3 ∧ im6 30 0 28 = 0) ∨ (tk b n p ≠ 3 ∧ im6 30 0 28 = 1) := by
                have q6 := h6.b01
                split at q6 <;> omega
              refine q_istore_n (t := 84) F dX9_atom5_83 rfl (by decide) rfl rfl ?_
              refine q_aload_n (t := 85) F dX9_atom5_84 rfl rfl rfl ?_
              refine g_X9_179 (t := 88) F dX9_atom5_85 rfl rfl ?_
              try simp only [up_app, row_app, scr_app, cpy_app, Nat.reduceEqDiff, Int.reduceToNat, Int.toNat_natCast, and_true, true_and, and_false, false_and, and_self, reduceIte]
              refine q_if_ne (t := 91) (u := 102) F dX9_atom5_88 (by exact h6.2.1 _ _ _) (by decide) rfl (fun c88 => ?_) (fun c88 => ?_)
              · have e : oneL b n 0 p = pFail p := by
                  have h29 := tk_L9 hwd.1 hwd.2
                  exact one_non h29.1 (fun q => by omega) (by omega)
                have ht3 : tk b n p ≠ 3 := by omega
                rw [if_neg ht3] at h6
                refine T102 x80 im6 lm ⟨hri6, ?_, hag6, lgQ_rfl lm, fun q => ?_⟩
                · rw [stP_y, e]; exact h6
                · rw [stP_y, e] at q
                  have : (p : Int) = -1 := q
                  omega
              · have ht3 : tk b n p = 3 := by omega
                rw [if_pos ht3] at h6
                refine q_aload_n (t := 92) F dX9_atom5_91 rfl rfl rfl ?_
                refine wp_callV (t := 95) [] F dX9_atom5_92 k_X9_next v_X9_next ml_X9_196 rfl rfl rfl rfl (Nat.le_of_ble_eq_true rfl) (by decide) (m_30 (by omega)) (c_nextQ _ G im6 bt rt lm b n hb p h6 hwd.1 (by omega)) rfl (kV ?_)
                rintro m' ⟨im7, lm7, h7, hag7, hlg7, rfl⟩
                refine q_goto (t := 102) F dX9_atom5_95 (by decide) ?_
                refine T102 x80 im7 lm7 ⟨hri6, ?_, hag7.trans hag6, hlg7, fun q => ?_⟩
                · rw [stP_y, oneR_nam ht3]; exact h7
                · rw [stP_y, oneR_nam ht3]; exact hx6 ht3
        · have hf : f = -1 := by first | (clear hx5 hx22; omega) | omega
          subst hf
          have ht2 : tk b n p = 2 := by have := (hTK rfl).1; omega
          have hlt : p < n := tk_lt (b := b) (by omega)
          have hvl := (hTK rfl).2.1 ht2
          have hv2 := vl_2 ht2
          refine q_aload_n (t := 52) F dX9_atom5_51 rfl rfl rfl ?_
          refine g_X9_175 (t := 55) F dX9_atom5_52 rfl rfl ?_
          try simp only [up_app, row_app, scr_app, cpy_app, Nat.reduceEqDiff, Int.reduceToNat, Int.toNat_natCast, and_true, true_and, and_false, false_and, and_self, reduceIte]
          refine q_l2i (t := 56) F dX9_atom5_55 rfl ?_
          refine q_istore_n (t := 57) F dX9_atom5_56 rfl (by decide) rfl rfl ?_
          refine q_aload_n (t := 58) F dX9_atom5_57 rfl rfl rfl ?_
          refine wp_callV (t := 61) [] F dX9_atom5_58 k_X9_next v_X9_next ml_X9_196 rfl rfl rfl rfl (Nat.le_of_ble_eq_true rfl) (by decide) (m_30 (by omega)) (c_nextQ _ G im bt rt lm b n hb p h hlt (by omega)) rfl (kV ?_)
          rintro m' ⟨im5, lm5, h5, hag5, hlg5, rfl⟩
          refine q_goto (t := 102) F dX9_atom5_61 (by decide) ?_
          refine T102 (lm 30 0 26) im5 lm5 ⟨by constructor <;> omega, ?_, hag5, hlg5, fun q => ?_⟩
          · rw [stP_y, oneR_num ht2]; exact h5
          · rw [stP_y, oneR_num ht2]; exact hvl
    · have hf : f = -1 := by omega
      subst hf
      have hlt : p < n := tk_lt (b := b) (by omega)
      refine q_aload_n (t := 29) F dX9_atom5_28 rfl rfl rfl ?_
      refine wp_callV (t := 32) [] F dX9_atom5_29 k_X9_opens v_X9_opens ml_X9_223 rfl rfl rfl rfl (Nat.le_of_ble_eq_true rfl) (by decide) (m_30 (by omega)) (c_X9_opens _ G im bt rt lm b n hb p h hlt (by omega) 5 (by omega) h27) rfl (kI ?_)
      rintro x29 m' (⟨-, rfl, im2, h2, hag, rfl⟩ | ⟨q, -⟩)
      rotate_left
      · exact absurd q (by omega)
      refine q_popI (t := 33) F dX9_atom5_32 rfl ?_
      refine q_goto (t := 102) F dX9_atom5_33 (by decide) ?_
      have e : oneL b n 0 p = pFail p := one_non (by omega) (by omega) (Or.inl rfl)
      refine T102 0 im2 lm ⟨by constructor <;> omega, ?_, hag, lgQ_rfl lm, fun q => ?_⟩
      · rw [stP_y, e]; exact h2
      · rw [stP_y, e] at q
        have : (p : Int) = -1 := q
        omega
  · have hf : f = -1 := by omega
    subst hf
    have hlt : p < n := tk_lt (b := b) (by omega)
    refine q_aload_n (t := 12) F dX9_atom5_11 rfl rfl rfl ?_
    refine wp_callV (t := 15) [] F dX9_atom5_12 k_X9_opens v_X9_opens ml_X9_223 rfl rfl rfl rfl (Nat.le_of_ble_eq_true rfl) (by decide) (m_30 (by omega)) (c_X9_opens _ G im bt rt lm b n hb p h hlt (by omega) 5 (by omega) h27) rfl (kI ?_)
    rintro x12 m' (⟨-, rfl, im2, h2, hag, rfl⟩ | ⟨q, -⟩)
    rotate_left
    · exact absurd q (by omega)
    refine q_popI (t := 16) F dX9_atom5_15 rfl ?_
    refine q_goto (t := 102) F dX9_atom5_16 (by decide) ?_
    have e : oneL b n 0 p = pFail p := one_non (by omega) (by omega) (Or.inl rfl)
    refine T102 0 im2 lm ⟨by constructor <;> omega, ?_, hag, lgQ_rfl lm, fun q => ?_⟩
    · rw [stP_y, e]; exact h2
    · rw [stP_y, e] at q
      have : (p : Int) = -1 := q
      omega
