/-! the reference asks a text -/
def nmA (w fd hr nb gp st : Int) : Nat → Int := fun i => if i = 0 then w else if i = 1 then fd else if i = 2 then hr else if i = 3 then nb else if i = 4 then gp else st
def agY (a b : IM) : Prop := ∀ k i s, ¬ (k = 30 ∧ 15 ≤ s ∧ s ≤ 29) → a k i s = b k i s
theorem agY_rfl (a : IM) : agY a a := fun _ _ _ _ => rfl
theorem agY.trans {a b c : IM} (h : agY a b) (h2 : agY b c) : agY a c := fun k i s hs => (h k i s hs).trans (h2 k i s hs)
/-- the names as they are asked -/
def asI (im : IM) (w fd hr nb gp st : Int) : IM := up (up (up (up (up (up im 30 0 15 w) 30 0 16 fd) 30 0 17 hr) 30 0 18 nb) 30 0 19 gp) 30 0 20 st
theorem asI_f {im : IM} {w fd hr nb gp st : Int} (hR : RI im) (h1 : ri w) (h2 : ri fd) (h3 : ri hr) (h4 : ri nb) (h5 : ri gp) (h6 : ri st) : RI (asI im w fd hr nb gp st) ∧ NMr (asI im w fd hr nb gp st) (nmA w fd hr nb gp st) ∧ agY (asI im w fd hr nb gp st) im := by
  refine ⟨RI_up (RI_up (RI_up (RI_up (RI_up (RI_up hR h1) h2) h3) h4) h5) h6, fun i hi => ?_, fun k i s hs => ?_⟩
  · rcases (show i = 0 ∨ i = 1 ∨ i = 2 ∨ i = 3 ∨ i = 4 ∨ i = 5 by omega) with rfl | rfl | rfl | rfl | rfl | rfl <;> rfl
  · unfold asI
    rw [up_app, if_neg (by omega), up_app, if_neg (by omega), up_app, if_neg (by omega), up_app, if_neg (by omega), up_app, if_neg (by omega), up_app, if_neg (by omega)]
/-- a text that stands in the reference's row -/
def ROW (b : Nat → Int) (n t : Nat) (im : IM) : Prop := byt b n ∧ t < 6 ∧ im 32 0 t = n ∧ ∀ i, i < 160 → im 31 0 (160 * t + i) = b i

set_option maxHeartbeats 4000000 in
theorem c_X9_within (l : Launch) (G : GS) (im : IM) (bt rt : Nat) (lm : IM) (v a c : Int) (hv : ri v) (ha : ri a) (hc : ri c) : Cn l (XR G) yX9_within Y_X9_within [vI v, vI a, vI c] (im, rs bt rt, lm) (pI fun x m' => x = (if v < a then a else if c < v then c else v) ∧ m' = (im, rs bt rt, lm)) := by
  refine cn_of (by decide) (okR G) rfl (Nat.le_of_ble_eq_true rfl) ?_
  intro M ad hMl F
  subst hMl
  refine wp_pad 0 ?_
  show Wp M (XR G) ad Y_X9_within (pI fun x m' => x = (if v < a then a else if c < v then c else v) ∧ m' = (im, rs bt rt, lm)) 0 [some (vI v), some (vI a), some (vI c)] [] (im, rs bt rt, lm)
  refine q_iload_n (t := 1) F dX9_within_0 rfl rfl rfl ?_
  refine q_iload_n (t := 2) F dX9_within_1 rfl rfl rfl ?_
  refine q_icmp_ge (t := 5) (u := 9) F dX9_within_2 (by exact hv) (by exact ha) (by decide) rfl (fun c2 => ?_) (fun c2 => ?_)
  · refine q_iload_n (t := 10) F dX9_within_9 rfl rfl rfl ?_
    refine q_iload_n (t := 11) F dX9_within_10 rfl rfl rfl ?_
    refine q_icmp_le (t := 14) (u := 18) F dX9_within_11 (by exact hv) (by exact hc) (by decide) rfl (fun c11 => ?_) (fun c11 => ?_)
    · refine q_iload_n (t := 19) F dX9_within_18 rfl rfl rfl ?_
      refine q_iret F dX9_within_19 rfl ?_
      refine ⟨_, rfl, ?_, rfl⟩
      refine Eq.symm ?_
      first
        | exact if_pos (by omega)
        | exact (if_neg (by omega)).trans (if_pos (by omega))
        | exact (if_neg (by omega)).trans (if_neg (by omega))
    · refine q_iload_n (t := 15) F dX9_within_14 rfl rfl rfl ?_
      refine q_goto (t := 19) F dX9_within_15 (by decide) ?_
      refine q_iret F dX9_within_19 rfl ?_
      refine ⟨_, rfl, ?_, rfl⟩
      refine Eq.symm ?_
      first
        | exact if_pos (by omega)
        | exact (if_neg (by omega)).trans (if_pos (by omega))
        | exact (if_neg (by omega)).trans (if_neg (by omega))
  · refine q_iload_n (t := 6) F dX9_within_5 rfl rfl rfl ?_
    refine q_goto (t := 19) F dX9_within_6 (by decide) ?_
    refine q_iret F dX9_within_19 rfl ?_
    refine ⟨_, rfl, ?_, rfl⟩
    refine Eq.symm ?_
    first
      | exact if_pos (by omega)
      | exact (if_neg (by omega)).trans (if_pos (by omega))
      | exact (if_neg (by omega)).trans (if_neg (by omega))

set_option maxHeartbeats 4000000 in
theorem c_X9_asks (l : Launch) (G : GS)  (bt rt : Nat)  (b : Nat → Int) (n : Nat) (im lm : IM) (hR : RI im) (t : Nat) (hT : ROW b n t im) (h4 : im 30 0 4 = t) (hF : rdF b n = -1) (wh p : Nat) (hwh : wh < 3) (hp : p < 5) (w fd gp st : Int) (hw : ri w) (hfd : ri fd) (hgp : ri gp) (hst : ri st) : Cn l (XR G) yX9_asks Y_X9_asks [vR 30 0, vI (wh : Int), vI (p : Int), vI w, vI fd, vI gp, vI st] (im, rs bt rt, lm) (pI fun x m' => ∃ im' lm', x = clip (valT b n wh (nmA w fd (im 30 0 7) (im 35 0 p) gp st)) ∧ RI im' ∧ agY im' im ∧ lgQ lm' lm ∧ m' = (im', rs bt rt, lm')) := by
  refine cn_of (by decide) (okR G) rfl (Nat.le_of_ble_eq_true rfl) ?_
  intro M ad hMl F
  subst hMl
  obtain ⟨hb, ht, h32, h31⟩ := hT
  obtain ⟨fR, fN, fag⟩ := asI_f hR hw hfd (hR 30 0 7) (hR 35 0 p) hgp hst
  refine wp_pad 0 ?_
  show Wp M (XR G) ad Y_X9_asks (pI fun x m' => ∃ im' lm', x = clip (valT b n wh (nmA w fd (im 30 0 7) (im 35 0 p) gp st)) ∧ RI im' ∧ agY im' im ∧ lgQ lm' lm ∧ m' = (im', rs bt rt, lm')) 0 [some (vR 30 0), some (vI (wh : Int)), some (vI (p : Int)), some (vI w), some (vI fd), some (vI gp), some (vI st)] [] (im, rs bt rt, lm)
  refine q_aload_n (t := 1) F dX9_asks_0 rfl rfl rfl ?_
  refine q_iload_n (t := 2) F dX9_asks_1 rfl rfl rfl ?_
  refine p_X9_202 (t := 5) F dX9_asks_2 rfl rfl ?_
  refine q_aload_n (t := 6) F dX9_asks_5 rfl rfl rfl ?_
  refine q_iload (t := 8) F dX9_asks_6 rfl rfl ?_
  refine p_X9_205 (t := 11) F dX9_asks_8 rfl rfl ?_
  refine q_aload_n (t := 12) F dX9_asks_11 rfl rfl rfl ?_
  refine q_aload_n (t := 13) F dX9_asks_12 rfl rfl rfl ?_
  refine g_X9_117 (t := 16) F dX9_asks_13 rfl rfl ?_
  try simp only [up_app, row_app, scr_app, cpy_app, Nat.reduceEqDiff, Int.reduceToNat, Int.toNat_natCast, and_true, true_and, and_false, false_and, and_self, reduceIte]
  refine p_X9_208 (t := 19) F dX9_asks_16 rfl rfl ?_
  refine q_aload_n (t := 20) F dX9_asks_19 rfl rfl rfl ?_
  refine q_aload_n (t := 21) F dX9_asks_20 rfl rfl rfl ?_
  refine g_X9_29 (t := 24) F dX9_asks_21 rfl rfl ?_
  refine q_iload_n (t := 25) F dX9_asks_24 rfl rfl rfl ?_
  first | refine ldN_35 (t := 26) F dX9_asks_25 (by omega) rfl ?_ | refine ld_35 (t := 26) F dX9_asks_25 (by omega) (by omega) rfl ?_
  try simp only [up_app, row_app, scr_app, cpy_app, Nat.reduceEqDiff, Int.reduceToNat, Int.toNat_natCast, and_true, true_and, and_false, false_and, and_self, reduceIte]
  refine p_X9_211 (t := 29) F dX9_asks_26 rfl rfl ?_
  refine q_aload_n (t := 30) F dX9_asks_29 rfl rfl rfl ?_
  refine q_iload (t := 32) F dX9_asks_30 rfl rfl ?_
  refine p_X9_214 (t := 35) F dX9_asks_32 rfl rfl ?_
  refine q_aload_n (t := 36) F dX9_asks_35 rfl rfl rfl ?_
  refine q_iload (t := 38) F dX9_asks_36 rfl rfl ?_
  refine p_X9_217 (t := 41) F dX9_asks_38 rfl rfl ?_
  refine q_aload_n (t := 42) F dX9_asks_41 rfl rfl rfl ?_
  refine q_aload_n (t := 43) F dX9_asks_42 rfl rfl rfl ?_
  refine g_X9_120 (t := 46) F dX9_asks_43 rfl rfl ?_
  try simp only [up_app, row_app, scr_app, cpy_app, Nat.reduceEqDiff, Int.reduceToNat, Int.toNat_natCast, and_true, true_and, and_false, false_and, and_self, reduceIte]
  rw [h4]
  refine q_iload_n (t := 47) F dX9_asks_46 rfl rfl rfl ?_
  refine wp_callV (t := 50) [_, _] F dX9_asks_47 k_X9_read v_X9_read ml_X9_347 rfl rfl rfl rfl (Nat.le_of_ble_eq_true rfl) (by decide) (m_30 (by omega)) (c_X9_read _ G bt rt b n hb ((c_gramR _ G bt rt b n hb).1) (asI im w fd (im 30 0 7) (im 35 0 p) gp st) lm fR t ht h32 h31 (nmA w fd (im 30 0 7) (im 35 0 p) gp st) fN (wh : Int) (by constructor <;> omega)) rfl (kI ?_)
  rintro x47 m' ⟨im2, lm2, hrx, hR2, hag2, hlg2, hy2, -, rfl⟩
  have hy2 := hy2 hF
  have hx : x47 = valT b n wh (nmA w fd (im 30 0 7) (im 35 0 p) gp st) := by
    rcases (show wh = 0 ∨ wh = 1 ∨ wh = 2 by omega) with rfl | rfl | rfl
    · exact hy2.2.1 rfl
    · exact hy2.2.2.1 rfl
    · exact hy2.2.2.2 (by omega) (by omega)
  have hagY : agY im2 im := fun k i s hs => (hag2 k i s (by omega)).trans (fag k i s hs)
  refine q_iconst (t := 51) F dX9_asks_50 rfl ?_
  refine q_bipush (t := 53) F dX9_asks_51 (by decide) rfl ?_
  refine wp_callS (t := 56) [_, _, _] F dX9_asks_53 k_X9_within st_X9_within ml_X9_350 rfl rfl (Nat.le_of_ble_eq_true rfl) (by decide) (c_X9_within _ G im2 bt rt lm2 x47 0 99 hrx (by constructor <;> omega) (by constructor <;> omega)) rfl (kI ?_)
  rintro x53 m' ⟨hx53, rfl⟩
  refine q_iret F dX9_asks_56 rfl ?_
  exact ⟨x53, rfl, im2, lm2, by rw [hx53, hx]; rfl, hR2, hagY, hlg2, rfl⟩
