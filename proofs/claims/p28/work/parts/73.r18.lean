/-! the reference: a part -/
theorem ex_y {b : Nat → Int} {n p : Nat} {key f : Int} (hf : f = -1) (h : tk b n p = key) : stP (exP b n key) p f = (adv b n p, -1, [], fun _ => 0) := by
  subst hf
  rw [stP_y]
  unfold exP
  rw [if_pos h]
theorem ex_n {b : Nat → Int} {n p : Nat} {key f : Int} (h : ¬ (f = -1 ∧ tk b n p = key)) : (stP (exP b n key) p f).1 = p ∧ (stP (exP b n key) p f).2.1 = (if f = -1 then (p : Int) else f) := by
  by_cases hf : f = -1
  · subst hf
    rw [stP_y]
    unfold exP
    rw [if_neg (fun q => h ⟨rfl, q⟩), if_pos rfl]
    exact ⟨rfl, rfl⟩
  · rw [stP_n hf, if_neg hf]
    exact ⟨rfl, rfl⟩
theorem part_V {b : Nat → Int} {n p : Nat} {key f : Int} (hf : f = -1) (h1 : tk b n p = key) (h2 : (eitL b n 5 (adv b n p)).2.1 = -1) (h3 : tk b n (eitL b n 5 (adv b n p)).1 = 59) : (stP (partP b n key) p f).2.2.2 = (eitL b n 5 (adv b n p)).2.2.2 := by
  subst hf
  rw [stP_y]
  unfold partP
  rw [if_pos h1, if_pos h2, if_pos h3]

set_option maxHeartbeats 4000000 in
theorem c_X9_part (l : Launch) (G : GS)  (bt rt : Nat)  (b : Nat → Int) (n : Nat) (hb : byt b n) (hE : RT l G bt rt b n yX9_either0 Y_X9_either0 (eitL b n 5) 0) (key : Int) (hk1 : 4 ≤ key) (hk2 : key ≤ 6) (im lm : IM) (nm : Nat → Int) (p : Nat) (f : Int) (h : PQ b n im lm p f) (h27 : im 30 0 27 = ((0 : Nat) : Int)) (hnm : NMr im nm) (x0 : Int) (hx0 : (x0 = 1 ∧ (f = -1 ∧ tk b n p = key)) ∨ (x0 = 0 ∧ ¬ (f = -1 ∧ tk b n p = key))) : Cn l (XR G) yX9_part Y_X9_part [vR 30 0, vI x0] (im, rs bt rt, lm) (pI fun x m' => ∃ im' lm', RPO b n im lm nm (stP (partP b n key) p f) x im' lm' ∧ m' = (im', rs bt rt, lm')) := by
  refine cn_of (by decide) (okR G) rfl (Nat.le_of_ble_eq_true rfl) ?_
  intro M ad hMl F
  subst hMl
  have hn := hb.1
  have hR := h.2.1
  have hx01 : ri x0 := by rcases hx0 with q | q <;> rw [q.1] <;> constructor <;> omega
  have hpe := part_eq b n key p f
  refine wp_pad 1 ?_
  show Wp M (XR G) ad Y_X9_part (pI fun x m' => ∃ im' lm', RPO b n im lm nm (stP (partP b n key) p f) x im' lm' ∧ m' = (im', rs bt rt, lm')) 0 [some (vR 30 0), some (vI x0), none] [] (im, rs bt rt, lm)
  have T59 : ∀ (x : Int) (im1 lm1 : IM), RPO b n im lm nm (stP (partP b n key) p f) x im1 lm1 → Wp M (XR G) ad Y_X9_part (pI fun x m' => ∃ im' lm', RPO b n im lm nm (stP (partP b n key) p f) x im' lm' ∧ m' = (im', rs bt rt, lm')) 59 [some (vR 30 0), some (vI x0), some (vI x)] [] (im1, rs bt rt, lm1) := by
    intro x im1 lm1 hr
    refine q_iload_n (t := 60) F dX9_part_59 rfl rfl rfl ?_
    refine q_iret F dX9_part_60 rfl ?_
    exact ⟨x, rfl, im1, lm1, hr, rfl⟩
  have T48 : ∀ (x f8 : Int) (im1 lm1 : IM), ri x → PQ b n im1 lm1 (stP (eitL b n 5) (stP (exP b n key) p f).1 (stP (exP b n key) p f).2.1).1 f8 → agQ im1 im → lgQ lm1 lm → (f8 = -1 → (stP (eitL b n 5) (stP (exP b n key) p f).1 (stP (exP b n key) p f).2.1).2.1 = -1 ∧ tk b n (stP (eitL b n 5) (stP (exP b n key) p f).1 (stP (exP b n key) p f).2.1).1 = 59 ∧ x = (stP (eitL b n 5) (stP (exP b n key) p f).1 (stP (exP b n key) p f).2.1).2.2.2 nm) → (f8 ≠ -1 → (stP (exP b n 59) (stP (eitL b n 5) (stP (exP b n key) p f).1 (stP (exP b n key) p f).2.1).1 (stP (eitL b n 5) (stP (exP b n key) p f).1 (stP (exP b n key) p f).2.1).2.1).1 = (stP (eitL b n 5) (stP (exP b n key) p f).1 (stP (exP b n key) p f).2.1).1 ∧ (stP (exP b n 59) (stP (eitL b n 5) (stP (exP b n key) p f).1 (stP (exP b n key) p f).2.1).1 (stP (eitL b n 5) (stP (exP b n key) p f).1 (stP (exP b n key) p f).2.1).2.1).2.1 = f8) → Wp M (XR G) ad Y_X9_part (pI fun x m' => ∃ im' lm', RPO b n im lm nm (stP (partP b n key) p f) x im' lm' ∧ m' = (im', rs bt rt, lm')) 48 [some (vR 30 0), some (vI x0), some (vI x)] [] (im1, rs bt rt, lm1) := by
    intro x f8 im1 lm1 hrx h8 hag hlg hy8 hn8
    have hb8 := h8.b01
    refine q_aload_n (t := 49) F dX9_part_48 rfl rfl rfl ?_
    refine g_X9_179 (t := 52) F dX9_part_49 rfl rfl ?_
    refine q_if_ne (t := 55) (u := 59) F dX9_part_52 (by exact h8.2.1 _ _ _) (by decide) rfl (fun c52 => ?_) (fun c52 => ?_)
    · have hne : f8 ≠ -1 := by omega
      have e := hn8 hne
      refine T59 x im1 lm1 ⟨hrx, ?_, hag, hlg, fun q => ?_⟩
      · rw [hpe.1, hpe.2.1, e.1, e.2]; exact h8
      · rw [hpe.2.1, e.2] at q
        exact absurd q hne
    · have hf8 : f8 = -1 := by omega
      have hq8 := (hy8 hf8).2.1
      have hlt : (stP (eitL b n 5) (stP (exP b n key) p f).1 (stP (exP b n key) p f).2.1).1 < n := tk_lt (b := b) (by omega)
      have h88 := h8
      rw [hf8] at h88
      refine q_aload_n (t := 56) F dX9_part_55 rfl rfl rfl ?_
      refine wp_callV (t := 59) [] F dX9_part_56 k_X9_next v_X9_next ml_X9_196 rfl rfl rfl rfl (Nat.le_of_ble_eq_true rfl) (by decide) (m_30 (by omega)) (c_nextQ _ G im1 bt rt lm1 b n hb (stP (eitL b n 5) (stP (exP b n key) p f).1 (stP (exP b n key) p f).2.1).1 h88 hlt (by omega)) rfl (kV ?_)
      rintro m' ⟨im5, lm5, h5, hag5, hlg5, rfl⟩
      have e := hy8 hf8
      have e3 : (stP (exP b n 59) (stP (eitL b n 5) (stP (exP b n key) p f).1 (stP (exP b n key) p f).2.1).1 (stP (eitL b n 5) (stP (exP b n key) p f).1 (stP (exP b n key) p f).2.1).2.1) = (adv b n (stP (eitL b n 5) (stP (exP b n key) p f).1 (stP (exP b n key) p f).2.1).1, -1, [], fun _ => 0) := ex_y e.1 e.2.1
      refine T59 x im5 lm5 ⟨hrx, ?_, hag5.trans hag, hlg5.trans hlg, fun q => ?_⟩
      · rw [hpe.1, hpe.2.1, e3]; exact h5
      · have e4 := hpe.2.2 (by rw [e3])
        have hk : f = -1 ∧ tk b n p = key := by
          by_cases hc : f = -1 ∧ tk b n p = key
          · exact hc
          · exfalso
            have e5 := (ex_n hc).2
            have e6 := e4.2.1
            rw [e5] at e6
            split at e6
            · omega
            · exact absurd e6 (by assumption)
        have e1 := ex_y hk.1 hk.2
        have e7 : (stP (eitL b n 5) (stP (exP b n key) p f).1 (stP (exP b n key) p f).2.1) = eitL b n 5 (adv b n p) := by rw [e1, stP_y]
        rw [e7] at e
        rw [part_V hk.1 hk.2 e.1 e.2.1]
        exact e.2.2
  have T35 : ∀ (x : Int) (im1 lm1 : IM), RPO b n im lm nm (stP (eitL b n 5) (stP (exP b n key) p f).1 (stP (exP b n key) p f).2.1) x im1 lm1 → Wp M (XR G) ad Y_X9_part (pI fun x m' => ∃ im' lm', RPO b n im lm nm (stP (partP b n key) p f) x im' lm' ∧ m' = (im', rs bt rt, lm')) 35 [some (vR 30 0), some (vI x0), some (vI x)] [] (im1, rs bt rt, lm1) := by
    intro x im1 lm1 hr
    have hti := tk_in b n (stP (eitL b n 5) (stP (exP b n key) p f).1 (stP (exP b n key) p f).2.1).1
    refine q_aload_n (t := 36) F dX9_part_35 rfl rfl rfl ?_
    refine q_bipush (t := 38) F dX9_part_36 (by decide) rfl ?_
    refine wp_callV (t := 41) [_] F dX9_part_38 k_X9_isSign v_X9_isSign ml_X9_220 rfl rfl rfl rfl (Nat.le_of_ble_eq_true rfl) (by decide) (m_30 (by omega)) (c_X9_isSign _ G im1 bt rt lm1 b n hb (stP (eitL b n 5) (stP (exP b n key) p f).1 (stP (exP b n key) p f).2.1).1 (stP (eitL b n 5) (stP (exP b n key) p f).1 (stP (exP b n key) p f).2.1).2.1 hr.2.1 59 (by omega) (by omega)) rfl (kI ?_)
    rintro x38 m' ⟨hx38, rfl⟩
    have hx38 := if01 hx38
    refine q_if_ne (t := 44) (u := 48) F dX9_part_41 (by first | exact hR _ _ _ | (constructor <;> omega)) (by decide) rfl (fun c41 => ?_) (fun c41 => ?_)
    · have hq : (stP (eitL b n 5) (stP (exP b n key) p f).1 (stP (exP b n key) p f).2.1).2.1 = -1 ∧ tk b n (stP (eitL b n 5) (stP (exP b n key) p f).1 (stP (exP b n key) p f).2.1).1 = 59 := by omega
      have h22 := hr.2.1
      rw [hq.1] at h22
      exact T48 x (-1) im1 lm1 hr.1 h22 hr.2.2.1 hr.2.2.2.1 (fun _ => ⟨hq.1, hq.2, hr.2.2.2.2 hq.1⟩) (fun q => absurd rfl q)
    · refine q_aload_n (t := 45) F dX9_part_44 rfl rfl rfl ?_
      refine wp_callV (t := 48) [] F dX9_part_45 k_X9_fail v_X9_fail ml_X9_193 rfl rfl rfl rfl (Nat.le_of_ble_eq_true rfl) (by decide) (m_30 (by omega)) (c_failQ _ G im1 bt rt lm1 b n (stP (eitL b n 5) (stP (exP b n key) p f).1 (stP (exP b n key) p f).2.1).1 (stP (eitL b n 5) (stP (exP b n key) p f).1 (stP (exP b n key) p f).2.1).2.1 hr.2.1) rfl (kV ?_)
      rintro m' ⟨im9, h9, hag9, rfl⟩
      have hq : ¬ ((stP (eitL b n 5) (stP (exP b n key) p f).1 (stP (exP b n key) p f).2.1).2.1 = -1 ∧ tk b n (stP (eitL b n 5) (stP (exP b n key) p f).1 (stP (exP b n key) p f).2.1).1 = 59) := by omega
      have e := ex_n (b := b) (n := n) (p := (stP (eitL b n 5) (stP (exP b n key) p f).1 (stP (exP b n key) p f).2.1).1) (key := 59) (f := (stP (eitL b n 5) (stP (exP b n key) p f).1 (stP (exP b n key) p f).2.1).2.1) hq
      refine T48 x (if (stP (eitL b n 5) (stP (exP b n key) p f).1 (stP (exP b n key) p f).2.1).2.1 = -1 then ((stP (eitL b n 5) (stP (exP b n key) p f).1 (stP (exP b n key) p f).2.1).1 : Int) else (stP (eitL b n 5) (stP (exP b n key) p f).1 (stP (exP b n key) p f).2.1).2.1) im9 lm1 hr.1 h9 (hag9.trans hr.2.2.1) hr.2.2.2.1 (fun q => ?_) (fun _ => e)
      split at q <;> omega
  have T19 : ∀ (im1 lm1 : IM), PQ b n im1 lm1 (stP (exP b n key) p f).1 (stP (exP b n key) p f).2.1 → agQ im1 im → lgQ lm1 lm → Wp M (XR G) ad Y_X9_part (pI fun x m' => ∃ im' lm', RPO b n im lm nm (stP (partP b n key) p f) x im' lm' ∧ m' = (im', rs bt rt, lm')) 19 [some (vR 30 0), some (vI x0), none] [] (im1, rs bt rt, lm1) := by
    intro im1 lm1 h1 hag hlg
    have hb1 := h1.b01
    have hR1 := h1.2.1
    refine q_aload_n (t := 20) F dX9_part_19 rfl rfl rfl ?_
    refine g_X9_179 (t := 23) F dX9_part_20 rfl rfl ?_
    refine q_if_eq (t := 26) (u := 30) F dX9_part_23 (by exact hR1 _ _ _) (by decide) rfl (fun c23 => ?_) (fun c23 => ?_)
    · refine q_aload_n (t := 31) F dX9_part_30 rfl rfl rfl ?_
      refine wp_callV (t := 34) [] F dX9_part_31 k_X9_either0 v_X9_either0 ml_X9_340 rfl rfl rfl rfl (Nat.le_of_ble_eq_true rfl) (by decide) (m_30 (by omega)) (hE im1 lm1 nm (stP (exP b n key) p f).1 (stP (exP b n key) p f).2.1 h1 ((hag 30 0 27 (by omega)).trans h27) (hnm.ag hag)) rfl (kI ?_)
      rintro x31 m' ⟨im4, lm4, h4, rfl⟩
      refine q_istore_n (t := 35) F dX9_part_34 rfl (by decide) rfl rfl ?_
      first
        | (have hne : (stP (exP b n key) p f).2.1 ≠ -1 := by omega
           refine T35 0 im1 lm1 ⟨by constructor <;> omega, ?_, hag, hlg, fun q => ?_⟩
           · rw [stP_n hne]; exact h1
           · rw [stP_n hne] at q; exact absurd q hne)
        | exact T35 x31 im4 lm4 ⟨h4.1, h4.2.1, h4.2.2.1.trans hag, h4.2.2.2.1.trans hlg, h4.2.2.2.2⟩
    · refine q_iconst (t := 27) F dX9_part_26 rfl ?_
      refine q_goto (t := 34) F dX9_part_27 (by decide) ?_
      refine q_istore_n (t := 35) F dX9_part_34 rfl (by decide) rfl rfl ?_
      first
        | (have hne : (stP (exP b n key) p f).2.1 ≠ -1 := by omega
           refine T35 0 im1 lm1 ⟨by constructor <;> omega, ?_, hag, hlg, fun q => ?_⟩
           · rw [stP_n hne]; exact h1
           · rw [stP_n hne] at q; exact absurd q hne)
        | exact T35 x31 im4 lm4 ⟨h4.1, h4.2.1, h4.2.2.1.trans hag, h4.2.2.2.1.trans hlg, h4.2.2.2.2⟩
  have T8 : ∀ (f8 : Int) (im1 : IM), PQ b n im1 lm p f8 → agQ im1 im → (f8 = -1 → f = -1 ∧ tk b n p = key) → (f8 ≠ -1 → (stP (exP b n key) p f).1 = p ∧ (stP (exP b n key) p f).2.1 = f8) → Wp M (XR G) ad Y_X9_part (pI fun x m' => ∃ im' lm', RPO b n im lm nm (stP (partP b n key) p f) x im' lm' ∧ m' = (im', rs bt rt, lm')) 8 [some (vR 30 0), some (vI x0), none] [] (im1, rs bt rt, lm) := by
    intro f8 im1 h8 hag hy8 hn8
    have hb8 := h8.b01
    have hR8 := h8.2.1
    refine q_aload_n (t := 9) F dX9_part_8 rfl rfl rfl ?_
    refine g_X9_179 (t := 12) F dX9_part_9 rfl rfl ?_
    refine q_if_ne (t := 15) (u := 19) F dX9_part_12 (by exact h8.2.1 _ _ _) (by decide) rfl (fun c12 => ?_) (fun c12 => ?_)
    · have hne : f8 ≠ -1 := by omega
      have e := hn8 hne
      exact T19 im1 lm (by rw [e.1, e.2]; exact h8) hag (lgQ_rfl lm)
    · have hf8 : f8 = -1 := by omega
      have hq8 := (hy8 hf8).2
      have hlt : p < n := tk_lt (b := b) (by omega)
      have h88 := h8
      rw [hf8] at h88
      refine q_aload_n (t := 16) F dX9_part_15 rfl rfl rfl ?_
      refine wp_callV (t := 19) [] F dX9_part_16 k_X9_next v_X9_next ml_X9_196 rfl rfl rfl rfl (Nat.le_of_ble_eq_true rfl) (by decide) (m_30 (by omega)) (c_nextQ _ G im1 bt rt lm b n hb p h88 hlt (by omega)) rfl (kV ?_)
      rintro m' ⟨im5, lm5, h5, hag5, hlg5, rfl⟩
      have e := hy8 hf8
      exact T19 im5 lm5 (by rw [ex_y e.1 e.2]; exact h5) (hag5.trans hag) hlg5
  refine q_iload_n (t := 1) F dX9_part_0 rfl rfl rfl ?_
  refine q_if_ne (t := 4) (u := 8) F dX9_part_1 (by exact hx01) (by decide) rfl (fun c1 => ?_) (fun c1 => ?_)
  · have hq : f = -1 ∧ tk b n p = key := by omega
    exact T8 f im h (agQ_rfl im) (fun _ => hq) (fun q => absurd hq.1 q)
  · refine q_aload_n (t := 5) F dX9_part_4 rfl rfl rfl ?_
    refine wp_callV (t := 8) [] F dX9_part_5 k_X9_fail v_X9_fail ml_X9_193 rfl rfl rfl rfl (Nat.le_of_ble_eq_true rfl) (by decide) (m_30 (by omega)) (c_failQ _ G im bt rt lm b n p f h) rfl (kV ?_)
    rintro m' ⟨im9, h9, hag9, rfl⟩
    have hq : ¬ (f = -1 ∧ tk b n p = key) := by omega
    refine T8 (if f = -1 then (p : Int) else f) im9 h9 hag9 (fun q => ?_) (fun _ => ex_n hq)
    split at q <;> omega
