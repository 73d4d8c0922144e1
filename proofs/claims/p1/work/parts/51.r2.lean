/-! the reference as it begins: what each call answers -/
def FR (im : IM) : Prop := RI im ∧ im 30 0 3 = 1 ∧ im 30 0 4 = 0 ∧ im 30 0 6 = 0 ∧ im 30 0 7 = 0 ∧ im 30 0 8 = 1024 ∧ im 30 0 9 = 0 ∧ im 30 0 12 = 0 ∧ im 30 0 46 = -1 ∧ ∀ s, im 47 0 s = 0

set_option maxHeartbeats 4000000 in
theorem f_X9_say (l : Launch) (G : GS) (im : IM) (bt rt : Nat) (lm : IM) (hF : FR im) (man : Int) (w : Int) (food : Int) (hman : ri man) (hw : ri w) (hfood : ri food) : Cn l (XR G) yX9_say Y_X9_say [vR 30 0, vI man, vI w, vI food] (im, rs bt rt, lm) (pI fun x m' => x = (-2) ∧ ∃ im' lm', m' = (im', rs bt rt, lm')) := by
  refine cn_of (by decide) (okR G) rfl (Nat.le_of_ble_eq_true rfl) ?_
  intro M ad hMl F
  subst hMl
  obtain ⟨hR, f3, f4, f6, f7, f8, f9, f12, f46, f47⟩ := hF
  have hman1 := hman.1
  have hman2 := hman.2
  have hw1 := hw.1
  have hw2 := hw.2
  have hfood1 := hfood.1
  have hfood2 := hfood.2
  refine wp_pad 0 ?_
  show Wp M (XR G) ad Y_X9_say (pI fun x m' => x = (-2) ∧ ∃ im' lm', m' = (im', rs bt rt, lm')) 0 [some (vR 30 0), some (vI man), some (vI w), some (vI food)] [] (im, rs bt rt, lm)
  refine q_aload_n (t := 1) F dX9_say_0 rfl rfl rfl ?_
  refine q_iload_n (t := 2) F dX9_say_1 rfl rfl rfl ?_
  refine wp_callV (t := 5) [_] F dX9_say_2 k_X9_isOne v_X9_isOne ml_X9_101 rfl rfl rfl rfl (Nat.le_of_ble_eq_true rfl) (by decide) (m_30 (by omega)) (c_X9_isOne _ G im bt rt lm hR (by omega) (by omega) man hman) rfl (kI ?_)
  rintro x2 m' ⟨hx2, rfl⟩
  have hx2 := if01 hx2
  refine q_if_eq (t := 8) (u := 37) F dX9_say_5 (by first | exact hR _ _ _ | (constructor <;> omega)) (by decide) rfl (fun c5 => ?_) (fun c5 => ?_)
  · refine q_bipush (t := 39) F dX9_say_37 (by decide) rfl ?_
    refine q_iret F dX9_say_39 rfl ?_
    first
      | (refine ⟨_, rfl, ?_, _, _, rfl⟩
         (repeat' split) <;> omega)
      | (exfalso; omega)
  · exfalso; omega

set_option maxHeartbeats 4000000 in
theorem f_X9_floss (l : Launch) (G : GS) (im : IM) (bt rt : Nat) (lm : IM) (hF : FR im) (man : Int) (gap : Int) (hman : ri man) (hgap : ri gap) : Cn l (XR G) yX9_floss Y_X9_floss [vR 30 0, vI man, vI gap] (im, rs bt rt, lm) (pI fun x m' => x = (-2) ∧ ∃ im' lm', m' = (im', rs bt rt, lm')) := by
  refine cn_of (by decide) (okR G) rfl (Nat.le_of_ble_eq_true rfl) ?_
  intro M ad hMl F
  subst hMl
  obtain ⟨hR, f3, f4, f6, f7, f8, f9, f12, f46, f47⟩ := hF
  have hman1 := hman.1
  have hman2 := hman.2
  have hgap1 := hgap.1
  have hgap2 := hgap.2
  refine wp_pad 1 ?_
  show Wp M (XR G) ad Y_X9_floss (pI fun x m' => x = (-2) ∧ ∃ im' lm', m' = (im', rs bt rt, lm')) 0 [some (vR 30 0), some (vI man), some (vI gap), none] [] (im, rs bt rt, lm)
  refine q_aload_n (t := 1) F dX9_floss_0 rfl rfl rfl ?_
  refine q_iload_n (t := 2) F dX9_floss_1 rfl rfl rfl ?_
  refine wp_callV (t := 5) [_] F dX9_floss_2 k_X9_isOne v_X9_isOne ml_X9_101 rfl rfl rfl rfl (Nat.le_of_ble_eq_true rfl) (by decide) (m_30 (by omega)) (c_X9_isOne _ G im bt rt lm hR (by omega) (by omega) man hman) rfl (kI ?_)
  rintro x2 m' ⟨hx2, rfl⟩
  have hx2 := if01 hx2
  refine q_if_eq (t := 8) (u := 15) F dX9_floss_5 (by first | exact hR _ _ _ | (constructor <;> omega)) (by decide) rfl (fun c5 => ?_) (fun c5 => ?_)
  · refine q_bipush (t := 17) F dX9_floss_15 (by decide) rfl ?_
    refine q_iret F dX9_floss_17 rfl ?_
    first
      | (refine ⟨_, rfl, ?_, _, _, rfl⟩
         (repeat' split) <;> omega)
      | (exfalso; omega)
  · exfalso; omega

set_option maxHeartbeats 4000000 in
theorem f_X9_kiss (l : Launch) (G : GS) (im : IM) (bt rt : Nat) (lm : IM) (hF : FR im) (man : Int) (other : Int) (hman : ri man) (hother : ri other) : Cn l (XR G) yX9_kiss Y_X9_kiss [vR 30 0, vI man, vI other] (im, rs bt rt, lm) (pI fun x m' => x = (-2) ∧ ∃ im' lm', m' = (im', rs bt rt, lm')) := by
  refine cn_of (by decide) (okR G) rfl (Nat.le_of_ble_eq_true rfl) ?_
  intro M ad hMl F
  subst hMl
  obtain ⟨hR, f3, f4, f6, f7, f8, f9, f12, f46, f47⟩ := hF
  have hman1 := hman.1
  have hman2 := hman.2
  have hother1 := hother.1
  have hother2 := hother.2
  refine wp_pad 0 ?_
  show Wp M (XR G) ad Y_X9_kiss (pI fun x m' => x = (-2) ∧ ∃ im' lm', m' = (im', rs bt rt, lm')) 0 [some (vR 30 0), some (vI man), some (vI other)] [] (im, rs bt rt, lm)
  refine q_aload_n (t := 1) F dX9_kiss_0 rfl rfl rfl ?_
  refine q_iload_n (t := 2) F dX9_kiss_1 rfl rfl rfl ?_
  refine wp_callV (t := 5) [_] F dX9_kiss_2 k_X9_isOne v_X9_isOne ml_X9_101 rfl rfl rfl rfl (Nat.le_of_ble_eq_true rfl) (by decide) (m_30 (by omega)) (c_X9_isOne _ G im bt rt lm hR (by omega) (by omega) man hman) rfl (kI ?_)
  rintro x2 m' ⟨hx2, rfl⟩
  have hx2 := if01 hx2
  refine q_if_eq (t := 8) (u := 30) F dX9_kiss_5 (by first | exact hR _ _ _ | (constructor <;> omega)) (by decide) rfl (fun c5 => ?_) (fun c5 => ?_)
  · refine q_bipush (t := 32) F dX9_kiss_30 (by decide) rfl ?_
    refine q_iret F dX9_kiss_32 rfl ?_
    first
      | (refine ⟨_, rfl, ?_, _, _, rfl⟩
         (repeat' split) <;> omega)
      | (exfalso; omega)
  · exfalso; omega

set_option maxHeartbeats 4000000 in
theorem f_X9_off (l : Launch) (G : GS) (im : IM) (bt rt : Nat) (lm : IM) (hF : FR im) (man : Int) (gap : Int) (n : Int) (hman : ri man) (hgap : ri gap) (hn : ri n) : Cn l (XR G) yX9_off Y_X9_off [vR 30 0, vI man, vI gap, vI n] (im, rs bt rt, lm) (pI fun x m' => x = (-2) ∧ ∃ im' lm', m' = (im', rs bt rt, lm')) := by
  refine cn_of (by decide) (okR G) rfl (Nat.le_of_ble_eq_true rfl) ?_
  intro M ad hMl F
  subst hMl
  obtain ⟨hR, f3, f4, f6, f7, f8, f9, f12, f46, f47⟩ := hF
  have hman1 := hman.1
  have hman2 := hman.2
  have hgap1 := hgap.1
  have hgap2 := hgap.2
  have hn1 := hn.1
  have hn2 := hn.2
  refine wp_pad 0 ?_
  show Wp M (XR G) ad Y_X9_off (pI fun x m' => x = (-2) ∧ ∃ im' lm', m' = (im', rs bt rt, lm')) 0 [some (vR 30 0), some (vI man), some (vI gap), some (vI n)] [] (im, rs bt rt, lm)
  refine q_aload_n (t := 1) F dX9_off_0 rfl rfl rfl ?_
  refine q_iload_n (t := 2) F dX9_off_1 rfl rfl rfl ?_
  refine wp_callV (t := 5) [_] F dX9_off_2 k_X9_isOne v_X9_isOne ml_X9_101 rfl rfl rfl rfl (Nat.le_of_ble_eq_true rfl) (by decide) (m_30 (by omega)) (c_X9_isOne _ G im bt rt lm hR (by omega) (by omega) man hman) rfl (kI ?_)
  rintro x2 m' ⟨hx2, rfl⟩
  have hx2 := if01 hx2
  refine q_if_eq (t := 8) (u := 27) F dX9_off_5 (by first | exact hR _ _ _ | (constructor <;> omega)) (by decide) rfl (fun c5 => ?_) (fun c5 => ?_)
  · refine q_bipush (t := 29) F dX9_off_27 (by decide) rfl ?_
    refine q_iret F dX9_off_29 rfl ?_
    first
      | (refine ⟨_, rfl, ?_, _, _, rfl⟩
         (repeat' split) <;> omega)
      | (exfalso; omega)
  · exfalso; omega

set_option maxHeartbeats 4000000 in
theorem f_X9_foods (l : Launch) (G : GS) (im : IM) (bt rt : Nat) (lm : IM) (hF : FR im) (man : Int) (w : Int) (gap : Int) (hman : ri man) (hw : ri w) (hgap : ri gap) : Cn l (XR G) yX9_foods Y_X9_foods [vR 30 0, vI man, vI w, vI gap] (im, rs bt rt, lm) (pI fun x m' => x = (-2) ∧ ∃ im' lm', m' = (im', rs bt rt, lm')) := by
  refine cn_of (by decide) (okR G) rfl (Nat.le_of_ble_eq_true rfl) ?_
  intro M ad hMl F
  subst hMl
  obtain ⟨hR, f3, f4, f6, f7, f8, f9, f12, f46, f47⟩ := hF
  have hman1 := hman.1
  have hman2 := hman.2
  have hw1 := hw.1
  have hw2 := hw.2
  have hgap1 := hgap.1
  have hgap2 := hgap.2
  refine wp_pad 2 ?_
  show Wp M (XR G) ad Y_X9_foods (pI fun x m' => x = (-2) ∧ ∃ im' lm', m' = (im', rs bt rt, lm')) 0 [some (vR 30 0), some (vI man), some (vI w), some (vI gap), none, none] [] (im, rs bt rt, lm)
  refine q_aload_n (t := 1) F dX9_foods_0 rfl rfl rfl ?_
  refine q_iload_n (t := 2) F dX9_foods_1 rfl rfl rfl ?_
  refine wp_callV (t := 5) [_] F dX9_foods_2 k_X9_isOne v_X9_isOne ml_X9_101 rfl rfl rfl rfl (Nat.le_of_ble_eq_true rfl) (by decide) (m_30 (by omega)) (c_X9_isOne _ G im bt rt lm hR (by omega) (by omega) man hman) rfl (kI ?_)
  rintro x2 m' ⟨hx2, rfl⟩
  have hx2 := if01 hx2
  refine q_if_eq (t := 8) (u := 22) F dX9_foods_5 (by first | exact hR _ _ _ | (constructor <;> omega)) (by decide) rfl (fun c5 => ?_) (fun c5 => ?_)
  · refine q_bipush (t := 24) F dX9_foods_22 (by decide) rfl ?_
    refine q_iret F dX9_foods_24 rfl ?_
    first
      | (refine ⟨_, rfl, ?_, _, _, rfl⟩
         (repeat' split) <;> omega)
      | (exfalso; omega)
  · exfalso; omega

set_option maxHeartbeats 4000000 in
theorem f_X9_few (l : Launch) (G : GS) (im : IM) (bt rt : Nat) (lm : IM) (hF : FR im) (man : Int) (n : Int) (sh : Int) (hman : ri man) (hn : ri n) (hsh : ri sh) : Cn l (XR G) yX9_few Y_X9_few [vR 30 0, vI man, vI n, vI sh] (im, rs bt rt, lm) (pI fun x m' => x = (-2) ∧ ∃ im' lm', m' = (im', rs bt rt, lm')) := by
  refine cn_of (by decide) (okR G) rfl (Nat.le_of_ble_eq_true rfl) ?_
  intro M ad hMl F
  subst hMl
  obtain ⟨hR, f3, f4, f6, f7, f8, f9, f12, f46, f47⟩ := hF
  have hman1 := hman.1
  have hman2 := hman.2
  have hn1 := hn.1
  have hn2 := hn.2
  have hsh1 := hsh.1
  have hsh2 := hsh.2
  refine wp_pad 4 ?_
  show Wp M (XR G) ad Y_X9_few (pI fun x m' => x = (-2) ∧ ∃ im' lm', m' = (im', rs bt rt, lm')) 0 [some (vR 30 0), some (vI man), some (vI n), some (vI sh), none, none, none, none] [] (im, rs bt rt, lm)
  refine q_aload_n (t := 1) F dX9_few_0 rfl rfl rfl ?_
  refine q_iload_n (t := 2) F dX9_few_1 rfl rfl rfl ?_
  refine wp_callV (t := 5) [_] F dX9_few_2 k_X9_isOne v_X9_isOne ml_X9_101 rfl rfl rfl rfl (Nat.le_of_ble_eq_true rfl) (by decide) (m_30 (by omega)) (c_X9_isOne _ G im bt rt lm hR (by omega) (by omega) man hman) rfl (kI ?_)
  rintro x2 m' ⟨hx2, rfl⟩
  have hx2 := if01 hx2
  refine q_if_eq (t := 8) (u := 32) F dX9_few_5 (by first | exact hR _ _ _ | (constructor <;> omega)) (by decide) rfl (fun c5 => ?_) (fun c5 => ?_)
  · refine q_bipush (t := 34) F dX9_few_32 (by decide) rfl ?_
    refine q_iret F dX9_few_34 rfl ?_
    first
      | (refine ⟨_, rfl, ?_, _, _, rfl⟩
         (repeat' split) <;> omega)
      | (exfalso; omega)
  · exfalso; omega

set_option maxHeartbeats 4000000 in
theorem f_X9_drawn (l : Launch) (G : GS) (im : IM) (bt rt : Nat) (lm : IM) (hF : FR im) (man : Int) (sd : Int) (n : Int) (hman : ri man) (hsd : ri sd) (hn : ri n) : Cn l (XR G) yX9_drawn Y_X9_drawn [vR 30 0, vI man, vI sd, vI n] (im, rs bt rt, lm) (pI fun x m' => x = (-2) ∧ ∃ im' lm', m' = (im', rs bt rt, lm')) := by
  refine cn_of (by decide) (okR G) rfl (Nat.le_of_ble_eq_true rfl) ?_
  intro M ad hMl F
  subst hMl
  obtain ⟨hR, f3, f4, f6, f7, f8, f9, f12, f46, f47⟩ := hF
  have hman1 := hman.1
  have hman2 := hman.2
  have hsd1 := hsd.1
  have hsd2 := hsd.2
  have hn1 := hn.1
  have hn2 := hn.2
  refine wp_pad 0 ?_
  show Wp M (XR G) ad Y_X9_drawn (pI fun x m' => x = (-2) ∧ ∃ im' lm', m' = (im', rs bt rt, lm')) 0 [some (vR 30 0), some (vI man), some (vI sd), some (vI n)] [] (im, rs bt rt, lm)
  refine q_aload_n (t := 1) F dX9_drawn_0 rfl rfl rfl ?_
  refine q_iload_n (t := 2) F dX9_drawn_1 rfl rfl rfl ?_
  refine wp_callV (t := 5) [_] F dX9_drawn_2 k_X9_isOne v_X9_isOne ml_X9_101 rfl rfl rfl rfl (Nat.le_of_ble_eq_true rfl) (by decide) (m_30 (by omega)) (c_X9_isOne _ G im bt rt lm hR (by omega) (by omega) man hman) rfl (kI ?_)
  rintro x2 m' ⟨hx2, rfl⟩
  have hx2 := if01 hx2
  refine q_if_eq (t := 8) (u := 30) F dX9_drawn_5 (by first | exact hR _ _ _ | (constructor <;> omega)) (by decide) rfl (fun c5 => ?_) (fun c5 => ?_)
  · refine q_bipush (t := 32) F dX9_drawn_30 (by decide) rfl ?_
    refine q_iret F dX9_drawn_32 rfl ?_
    first
      | (refine ⟨_, rfl, ?_, _, _, rfl⟩
         (repeat' split) <;> omega)
      | (exfalso; omega)
  · exfalso; omega

set_option maxHeartbeats 4000000 in
theorem f_X9_fill (l : Launch) (G : GS) (im : IM) (bt rt : Nat) (lm : IM) (hF : FR im) (man : Int) (gap : Int) (w : Int) (hrs : Int) (hman : ri man) (hgap : ri gap) (hw : ri w) (hhrs : ri hrs) : Cn l (XR G) yX9_fill Y_X9_fill [vR 30 0, vI man, vI gap, vI w, vI hrs] (im, rs bt rt, lm) (pI fun x m' => x = (-2) ∧ ∃ im' lm', m' = (im', rs bt rt, lm')) := by
  refine cn_of (by decide) (okR G) rfl (Nat.le_of_ble_eq_true rfl) ?_
  intro M ad hMl F
  subst hMl
  obtain ⟨hR, f3, f4, f6, f7, f8, f9, f12, f46, f47⟩ := hF
  have hman1 := hman.1
  have hman2 := hman.2
  have hgap1 := hgap.1
  have hgap2 := hgap.2
  have hw1 := hw.1
  have hw2 := hw.2
  have hhrs1 := hhrs.1
  have hhrs2 := hhrs.2
  refine wp_pad 2 ?_
  show Wp M (XR G) ad Y_X9_fill (pI fun x m' => x = (-2) ∧ ∃ im' lm', m' = (im', rs bt rt, lm')) 0 [some (vR 30 0), some (vI man), some (vI gap), some (vI w), some (vI hrs), none, none] [] (im, rs bt rt, lm)
  refine q_aload_n (t := 1) F dX9_fill_0 rfl rfl rfl ?_
  refine q_iload_n (t := 2) F dX9_fill_1 rfl rfl rfl ?_
  refine wp_callV (t := 5) [_] F dX9_fill_2 k_X9_isOne v_X9_isOne ml_X9_101 rfl rfl rfl rfl (Nat.le_of_ble_eq_true rfl) (by decide) (m_30 (by omega)) (c_X9_isOne _ G im bt rt lm hR (by omega) (by omega) man hman) rfl (kI ?_)
  rintro x2 m' ⟨hx2, rfl⟩
  have hx2 := if01 hx2
  refine q_if_eq (t := 8) (u := 40) F dX9_fill_5 (by first | exact hR _ _ _ | (constructor <;> omega)) (by decide) rfl (fun c5 => ?_) (fun c5 => ?_)
  · refine q_bipush (t := 42) F dX9_fill_40 (by decide) rfl ?_
    refine q_iret F dX9_fill_42 rfl ?_
    first
      | (refine ⟨_, rfl, ?_, _, _, rfl⟩
         (repeat' split) <;> omega)
      | (exfalso; omega)
  · exfalso; omega

set_option maxHeartbeats 4000000 in
theorem f_X9_chance (l : Launch) (G : GS) (im : IM) (bt rt : Nat) (lm : IM) (hF : FR im) (man : Int) (sd : Int) (n : Int) (pt : Int) (hman : ri man) (hsd : ri sd) (hn : ri n) (hpt : ri pt) : Cn l (XR G) yX9_chance Y_X9_chance [vR 30 0, vI man, vI sd, vI n, vI pt] (im, rs bt rt, lm) (pL fun x m' => x = (-4611686018427387904) ∧ ∃ im' lm', m' = (im', rs bt rt, lm')) := by
  refine cn_of (by decide) (okR G) rfl (Nat.le_of_ble_eq_true rfl) ?_
  intro M ad hMl F
  subst hMl
  obtain ⟨hR, f3, f4, f6, f7, f8, f9, f12, f46, f47⟩ := hF
  have hman1 := hman.1
  have hman2 := hman.2
  have hsd1 := hsd.1
  have hsd2 := hsd.2
  have hn1 := hn.1
  have hn2 := hn.2
  have hpt1 := hpt.1
  have hpt2 := hpt.2
  refine wp_pad 8 ?_
  show Wp M (XR G) ad Y_X9_chance (pL fun x m' => x = (-4611686018427387904) ∧ ∃ im' lm', m' = (im', rs bt rt, lm')) 0 [some (vR 30 0), some (vI man), some (vI sd), some (vI n), some (vI pt), none, none, none, none, none, none, none, none] [] (im, rs bt rt, lm)
  refine q_aload_n (t := 1) F dX9_chance_0 rfl rfl rfl ?_
  refine q_iload_n (t := 2) F dX9_chance_1 rfl rfl rfl ?_
  refine wp_callV (t := 5) [_] F dX9_chance_2 k_X9_isOne v_X9_isOne ml_X9_101 rfl rfl rfl rfl (Nat.le_of_ble_eq_true rfl) (by decide) (m_30 (by omega)) (c_X9_isOne _ G im bt rt lm hR (by omega) (by omega) man hman) rfl (kI ?_)
  rintro x2 m' ⟨hx2, rfl⟩
  have hx2 := if01 hx2
  refine q_if_eq (t := 8) (u := 31) F dX9_chance_5 (by first | exact hR _ _ _ | (constructor <;> omega)) (by decide) rfl (fun c5 => ?_) (fun c5 => ?_)
  · refine q_ldc2 (t := 34) (x := -4611686018427387904) F dX9_chance_31 kl_X9_457 (by decide) rfl ?_
    refine q_lret F dX9_chance_34 rfl ?_
    exact ⟨_, rfl, rfl, _, _, rfl⟩
  · exfalso; omega

set_option maxHeartbeats 4000000 in
theorem f_X9_tells (l : Launch) (G : GS) (im : IM) (bt rt : Nat) (lm : IM) (hF : FR im) (sh : Int) (man : Int) (what : Int) (hsh : ri sh) (hman : ri man) (hwhat : ri what) : Cn l (XR G) yX9_tells Y_X9_tells [vR 30 0, vI sh, vI man, vI what] (im, rs bt rt, lm) (pI fun x m' => x = (-2) ∧ ∃ im' lm', m' = (im', rs bt rt, lm')) := by
  refine cn_of (by decide) (okR G) rfl (Nat.le_of_ble_eq_true rfl) ?_
  intro M ad hMl F
  subst hMl
  obtain ⟨hR, f3, f4, f6, f7, f8, f9, f12, f46, f47⟩ := hF
  have hsh1 := hsh.1
  have hsh2 := hsh.2
  have hman1 := hman.1
  have hman2 := hman.2
  have hwhat1 := hwhat.1
  have hwhat2 := hwhat.2
  refine wp_pad 1 ?_
  show Wp M (XR G) ad Y_X9_tells (pI fun x m' => x = (-2) ∧ ∃ im' lm', m' = (im', rs bt rt, lm')) 0 [some (vR 30 0), some (vI sh), some (vI man), some (vI what), none] [] (im, rs bt rt, lm)
  refine q_iload_n (t := 1) F dX9_tells_0 rfl rfl rfl ?_
  refine wp_callS (t := 4) [_] F dX9_tells_1 k_X9_isSheet st_X9_isSheet ml_X9_421 rfl rfl (Nat.le_of_ble_eq_true rfl) (by decide) (c_X9_isSheet _ G _ _ _ _ sh hsh) rfl (kI ?_)
  rintro x1 m' ⟨hx1, rfl⟩
  have hx1 := if01 hx1
  refine q_if_eq (t := 7) (u := 41) F dX9_tells_4 (by first | exact hR _ _ _ | (constructor <;> omega)) (by decide) rfl (fun c4 => ?_) (fun c4 => ?_)
  · refine q_bipush (t := 43) F dX9_tells_41 (by decide) rfl ?_
    refine q_iret F dX9_tells_43 rfl ?_
    first
      | (refine ⟨_, rfl, ?_, _, _, rfl⟩
         (repeat' split) <;> omega)
      | (exfalso; omega)
  · refine q_aload_n (t := 8) F dX9_tells_7 rfl rfl rfl ?_
    refine q_iload_n (t := 9) F dX9_tells_8 rfl rfl rfl ?_
    refine wp_callV (t := 12) [_] F dX9_tells_9 k_X9_isOne v_X9_isOne ml_X9_101 rfl rfl rfl rfl (Nat.le_of_ble_eq_true rfl) (by decide) (m_30 (by omega)) (c_X9_isOne _ G im bt rt lm hR (by omega) (by omega) man hman) rfl (kI ?_)
    rintro x9 m' ⟨hx9, rfl⟩
    have hx9 := if01 hx9
    refine q_if_eq (t := 15) (u := 41) F dX9_tells_12 (by first | exact hR _ _ _ | (constructor <;> omega)) (by decide) rfl (fun c12 => ?_) (fun c12 => ?_)
    · refine q_bipush (t := 43) F dX9_tells_41 (by decide) rfl ?_
      refine q_iret F dX9_tells_43 rfl ?_
      first
        | (refine ⟨_, rfl, ?_, _, _, rfl⟩
           (repeat' split) <;> omega)
        | (exfalso; omega)
    · exfalso; omega

set_option maxHeartbeats 4000000 in
theorem f_X9_film (l : Launch) (G : GS) (im : IM) (bt rt : Nat) (lm : IM) (hF : FR im) (sh : Int) (man : Int) (hsh : ri sh) (hman : ri man) : Cn l (XR G) yX9_film Y_X9_film [vR 30 0, vI sh, vI man] (im, rs bt rt, lm) (pI fun x m' => x = (-2) ∧ ∃ im' lm', m' = (im', rs bt rt, lm')) := by
  refine cn_of (by decide) (okR G) rfl (Nat.le_of_ble_eq_true rfl) ?_
  intro M ad hMl F
  subst hMl
  obtain ⟨hR, f3, f4, f6, f7, f8, f9, f12, f46, f47⟩ := hF
  have hsh1 := hsh.1
  have hsh2 := hsh.2
  have hman1 := hman.1
  have hman2 := hman.2
  refine wp_pad 1 ?_
  show Wp M (XR G) ad Y_X9_film (pI fun x m' => x = (-2) ∧ ∃ im' lm', m' = (im', rs bt rt, lm')) 0 [some (vR 30 0), some (vI sh), some (vI man), none] [] (im, rs bt rt, lm)
  refine q_iload_n (t := 1) F dX9_film_0 rfl rfl rfl ?_
  refine wp_callS (t := 4) [_] F dX9_film_1 k_X9_isSheet st_X9_isSheet ml_X9_421 rfl rfl (Nat.le_of_ble_eq_true rfl) (by decide) (c_X9_isSheet _ G _ _ _ _ sh hsh) rfl (kI ?_)
  rintro x1 m' ⟨hx1, rfl⟩
  have hx1 := if01 hx1
  refine q_if_eq (t := 7) (u := 15) F dX9_film_4 (by first | exact hR _ _ _ | (constructor <;> omega)) (by decide) rfl (fun c4 => ?_) (fun c4 => ?_)
  · refine q_bipush (t := 17) F dX9_film_15 (by decide) rfl ?_
    refine q_iret F dX9_film_17 rfl ?_
    first
      | (refine ⟨_, rfl, ?_, _, _, rfl⟩
         (repeat' split) <;> omega)
      | (exfalso; omega)
  · refine q_aload_n (t := 8) F dX9_film_7 rfl rfl rfl ?_
    refine q_iload_n (t := 9) F dX9_film_8 rfl rfl rfl ?_
    refine wp_callV (t := 12) [_] F dX9_film_9 k_X9_isOne v_X9_isOne ml_X9_101 rfl rfl rfl rfl (Nat.le_of_ble_eq_true rfl) (by decide) (m_30 (by omega)) (c_X9_isOne _ G im bt rt lm hR (by omega) (by omega) man hman) rfl (kI ?_)
    rintro x9 m' ⟨hx9, rfl⟩
    have hx9 := if01 hx9
    refine q_if_ne (t := 15) (u := 18) F dX9_film_12 (by first | exact hR _ _ _ | (constructor <;> omega)) (by decide) rfl (fun c12 => ?_) (fun c12 => ?_)
    · exfalso; omega
    · refine q_bipush (t := 17) F dX9_film_15 (by decide) rfl ?_
      refine q_iret F dX9_film_17 rfl ?_
      first
        | (refine ⟨_, rfl, ?_, _, _, rfl⟩
           (repeat' split) <;> omega)
        | (exfalso; omega)

set_option maxHeartbeats 4000000 in
theorem f_X9_taken (l : Launch) (G : GS) (im : IM) (bt rt : Nat) (lm : IM) (hF : FR im) (man : Int) (k : Int) (hman : ri man) (hk : ri k) : Cn l (XR G) yX9_taken Y_X9_taken [vR 30 0, vI man, vI k] (im, rs bt rt, lm) (pI fun x m' => x = (if 0 ≤ k ∧ k ≤ 5 then -11 else -2) ∧ ∃ im' lm', m' = (im', rs bt rt, lm')) := by
  refine cn_of (by decide) (okR G) rfl (Nat.le_of_ble_eq_true rfl) ?_
  intro M ad hMl F
  subst hMl
  obtain ⟨hR, f3, f4, f6, f7, f8, f9, f12, f46, f47⟩ := hF
  have hman1 := hman.1
  have hman2 := hman.2
  have hk1 := hk.1
  have hk2 := hk.2
  refine wp_pad 1 ?_
  show Wp M (XR G) ad Y_X9_taken (pI fun x m' => x = (if 0 ≤ k ∧ k ≤ 5 then -11 else -2) ∧ ∃ im' lm', m' = (im', rs bt rt, lm')) 0 [some (vR 30 0), some (vI man), some (vI k), none] [] (im, rs bt rt, lm)
  refine q_iload_n (t := 1) F dX9_taken_0 rfl rfl rfl ?_
  refine q_i2l (t := 2) F dX9_taken_1 (by first | exact hR _ _ _ | (constructor <;> omega)) rfl ?_
  refine q_lconst (t := 3) (x := 0) F dX9_taken_2 (by decide) rfl ?_
  refine q_ldc2 (t := 6) (x := 5) F dX9_taken_3 kl_X9_123 (by decide) rfl ?_
  refine wp_callS (t := 9) [_, _, _] F dX9_taken_6 k_X9_in st_X9_in ml_X9_91 rfl rfl (Nat.le_of_ble_eq_true rfl) (by decide) (c_X9_in _ G _ _ _ _ k 0 5 (by constructor <;> omega) (by constructor <;> omega) (by constructor <;> omega)) rfl (kI ?_)
  rintro x6 m' ⟨hx6, rfl⟩
  have hx6 := if01 hx6
  refine q_if_ne (t := 12) (u := 15) F dX9_taken_9 (by first | exact hR _ _ _ | (constructor <;> omega)) (by decide) rfl (fun c9 => ?_) (fun c9 => ?_)
  · refine q_aload_n (t := 16) F dX9_taken_15 rfl rfl rfl ?_
    refine q_iload_n (t := 17) F dX9_taken_16 rfl rfl rfl ?_
    refine wp_callV (t := 20) [_] F dX9_taken_17 k_X9_isOne v_X9_isOne ml_X9_101 rfl rfl rfl rfl (Nat.le_of_ble_eq_true rfl) (by decide) (m_30 (by omega)) (c_X9_isOne _ G im bt rt lm hR (by omega) (by omega) man hman) rfl (kI ?_)
    rintro x17 m' ⟨hx17, rfl⟩
    have hx17 := if01 hx17
    refine q_if_ne (t := 23) (u := 26) F dX9_taken_20 (by first | exact hR _ _ _ | (constructor <;> omega)) (by decide) rfl (fun c20 => ?_) (fun c20 => ?_)
    · exfalso; omega
    · refine q_bipush (t := 25) F dX9_taken_23 (by decide) rfl ?_
      refine q_iret F dX9_taken_25 rfl ?_
      first
        | (refine ⟨_, rfl, ?_, _, _, rfl⟩
           (repeat' split) <;> omega)
        | (exfalso; omega)
  · refine q_bipush (t := 14) F dX9_taken_12 (by decide) rfl ?_
    refine q_iret F dX9_taken_14 rfl ?_
    first
      | (refine ⟨_, rfl, ?_, _, _, rfl⟩
         (repeat' split) <;> omega)
      | (exfalso; omega)

set_option maxHeartbeats 4000000 in
theorem f_X9_people (l : Launch) (G : GS) (im : IM) (bt rt : Nat) (lm : IM) (hF : FR im) (sh : Int) (srt : Int) (at0 : Int) (n : Int) (hsh : ri sh) (hsrt : ri srt) (hat0 : ri at0) (hn : ri n) : Cn l (XR G) yX9_people Y_X9_people [vR 30 0, vI sh, vI srt, vI at0, vI n] (im, rs bt rt, lm) (pI fun x m' => x = (if (0 ≤ sh ∧ sh ≤ 3) ∧ (0 ≤ srt ∧ srt ≤ 2) ∧ 0 ≤ n ∧ n ≤ 5 then -11 else -2) ∧ ∃ im' lm', m' = (im', rs bt rt, lm')) := by
  refine cn_of (by decide) (okR G) rfl (Nat.le_of_ble_eq_true rfl) ?_
  intro M ad hMl F
  subst hMl
  obtain ⟨hR, f3, f4, f6, f7, f8, f9, f12, f46, f47⟩ := hF
  have hsh1 := hsh.1
  have hsh2 := hsh.2
  have hsrt1 := hsrt.1
  have hsrt2 := hsrt.2
  have hat01 := hat0.1
  have hat02 := hat0.2
  have hn1 := hn.1
  have hn2 := hn.2
  refine wp_pad 3 ?_
  show Wp M (XR G) ad Y_X9_people (pI fun x m' => x = (if (0 ≤ sh ∧ sh ≤ 3) ∧ (0 ≤ srt ∧ srt ≤ 2) ∧ 0 ≤ n ∧ n ≤ 5 then -11 else -2) ∧ ∃ im' lm', m' = (im', rs bt rt, lm')) 0 [some (vR 30 0), some (vI sh), some (vI srt), some (vI at0), some (vI n), none, none, none] [] (im, rs bt rt, lm)
  refine q_iload_n (t := 1) F dX9_people_0 rfl rfl rfl ?_
  refine wp_callS (t := 4) [_] F dX9_people_1 k_X9_isSheet st_X9_isSheet ml_X9_421 rfl rfl (Nat.le_of_ble_eq_true rfl) (by decide) (c_X9_isSheet _ G _ _ _ _ sh hsh) rfl (kI ?_)
  rintro x1 m' ⟨hx1, rfl⟩
  have hx1 := if01 hx1
  refine q_if_eq (t := 7) (u := 32) F dX9_people_4 (by first | exact hR _ _ _ | (constructor <;> omega)) (by decide) rfl (fun c4 => ?_) (fun c4 => ?_)
  · refine q_bipush (t := 34) F dX9_people_32 (by decide) rfl ?_
    refine q_iret F dX9_people_34 rfl ?_
    first
      | (refine ⟨_, rfl, ?_, _, _, rfl⟩
         (repeat' split) <;> omega)
      | (exfalso; omega)
  · refine q_iload_n (t := 8) F dX9_people_7 rfl rfl rfl ?_
    refine q_i2l (t := 9) F dX9_people_8 (by first | exact hR _ _ _ | (constructor <;> omega)) rfl ?_
    refine q_lconst (t := 10) (x := 0) F dX9_people_9 (by decide) rfl ?_
    refine q_ldc2 (t := 13) (x := 2) F dX9_people_10 kl_X9_99 (by decide) rfl ?_
    refine wp_callS (t := 16) [_, _, _] F dX9_people_13 k_X9_in st_X9_in ml_X9_91 rfl rfl (Nat.le_of_ble_eq_true rfl) (by decide) (c_X9_in _ G _ _ _ _ _ _ _ (by constructor <;> omega) (by constructor <;> omega) (by constructor <;> omega)) rfl (kI ?_)
    rintro x13 m' ⟨hx13, rfl⟩
    have hx13 := if01 hx13
    refine q_if_eq (t := 19) (u := 32) F dX9_people_16 (by first | exact hR _ _ _ | (constructor <;> omega)) (by decide) rfl (fun c16 => ?_) (fun c16 => ?_)
    · refine q_bipush (t := 34) F dX9_people_32 (by decide) rfl ?_
      refine q_iret F dX9_people_34 rfl ?_
      first
        | (refine ⟨_, rfl, ?_, _, _, rfl⟩
           (repeat' split) <;> omega)
        | (exfalso; omega)
    · refine q_iload (t := 21) F dX9_people_19 rfl rfl ?_
      refine q_i2l (t := 22) F dX9_people_21 (by first | exact hR _ _ _ | (constructor <;> omega)) rfl ?_
      refine q_lconst (t := 23) (x := 0) F dX9_people_22 (by decide) rfl ?_
      refine q_ldc2 (t := 26) (x := 5) F dX9_people_23 kl_X9_123 (by decide) rfl ?_
      refine wp_callS (t := 29) [_, _, _] F dX9_people_26 k_X9_in st_X9_in ml_X9_91 rfl rfl (Nat.le_of_ble_eq_true rfl) (by decide) (c_X9_in _ G _ _ _ _ _ _ _ (by constructor <;> omega) (by constructor <;> omega) (by constructor <;> omega)) rfl (kI ?_)
      rintro x26 m' ⟨hx26, rfl⟩
      have hx26 := if01 hx26
      refine q_if_ne (t := 32) (u := 35) F dX9_people_29 (by first | exact hR _ _ _ | (constructor <;> omega)) (by decide) rfl (fun c29 => ?_) (fun c29 => ?_)
      · refine q_aload_n (t := 36) F dX9_people_35 rfl rfl rfl ?_
        refine g_X9_68 (t := 39) F dX9_people_36 rfl rfl ?_
        refine q_iload_n (t := 40) F dX9_people_39 rfl rfl rfl ?_
        first | refine ldN_47 (t := 41) F dX9_people_40 (by omega) rfl ?_ | refine ld_47 (t := 41) F dX9_people_40 (by omega) (by omega) rfl ?_
        try simp only [up_app, row_app, scr_app, cpy_app, Nat.reduceEqDiff, Int.reduceToNat, Int.toNat_natCast, and_true, true_and, and_false, false_and, and_self, reduceIte]
        refine q_if_eq (t := 44) (u := 57) F dX9_people_41 (by first | exact hR _ _ _ | (constructor <;> omega)) (by decide) rfl (fun c41 => ?_) (fun c41 => ?_)
        · refine q_aload_n (t := 58) F dX9_people_57 rfl rfl rfl ?_
          refine g_X9_68 (t := 61) F dX9_people_58 rfl rfl ?_
          refine q_iload_n (t := 62) F dX9_people_61 rfl rfl rfl ?_
          first | refine ldN_47 (t := 63) F dX9_people_62 (by omega) rfl ?_ | refine ld_47 (t := 63) F dX9_people_62 (by omega) (by omega) rfl ?_
          try simp only [up_app, row_app, scr_app, cpy_app, Nat.reduceEqDiff, Int.reduceToNat, Int.toNat_natCast, and_true, true_and, and_false, false_and, and_self, reduceIte]
          refine q_if_ne (t := 66) (u := 69) F dX9_people_63 (by first | exact hR _ _ _ | (constructor <;> omega)) (by decide) rfl (fun c63 => ?_) (fun c63 => ?_)
          · exfalso; rw [f47] at *; omega
          · refine q_bipush (t := 68) F dX9_people_66 (by decide) rfl ?_
            refine q_iret F dX9_people_68 rfl ?_
            first
              | (refine ⟨_, rfl, ?_, _, _, rfl⟩
                 (repeat' split) <;> omega)
              | (exfalso; omega)
        · exfalso; rw [f47] at *; omega
      · refine q_bipush (t := 34) F dX9_people_32 (by decide) rfl ?_
        refine q_iret F dX9_people_34 rfl ?_
        first
          | (refine ⟨_, rfl, ?_, _, _, rfl⟩
             (repeat' split) <;> omega)
          | (exfalso; omega)

set_option maxHeartbeats 4000000 in
theorem f_X9_plan (l : Launch) (G : GS) (im : IM) (bt rt : Nat) (lm : IM) (hF : FR im) (sh : Int) (what : Int) (hsh : ri sh) (hwhat : ri what) : Cn l (XR G) yX9_plan Y_X9_plan [vR 30 0, vI sh, vI what] (im, rs bt rt, lm) (pI fun x m' => x = (if (0 ≤ sh ∧ sh ≤ 3) ∧ 0 ≤ what ∧ what ≤ 1 then -11 else -2) ∧ ∃ im' lm', m' = (im', rs bt rt, lm')) := by
  refine cn_of (by decide) (okR G) rfl (Nat.le_of_ble_eq_true rfl) ?_
  intro M ad hMl F
  subst hMl
  obtain ⟨hR, f3, f4, f6, f7, f8, f9, f12, f46, f47⟩ := hF
  have hsh1 := hsh.1
  have hsh2 := hsh.2
  have hwhat1 := hwhat.1
  have hwhat2 := hwhat.2
  refine wp_pad 2 ?_
  show Wp M (XR G) ad Y_X9_plan (pI fun x m' => x = (if (0 ≤ sh ∧ sh ≤ 3) ∧ 0 ≤ what ∧ what ≤ 1 then -11 else -2) ∧ ∃ im' lm', m' = (im', rs bt rt, lm')) 0 [some (vR 30 0), some (vI sh), some (vI what), none, none] [] (im, rs bt rt, lm)
  refine q_iload_n (t := 1) F dX9_plan_0 rfl rfl rfl ?_
  refine wp_callS (t := 4) [_] F dX9_plan_1 k_X9_isSheet st_X9_isSheet ml_X9_421 rfl rfl (Nat.le_of_ble_eq_true rfl) (by decide) (c_X9_isSheet _ G _ _ _ _ sh hsh) rfl (kI ?_)
  rintro x1 m' ⟨hx1, rfl⟩
  have hx1 := if01 hx1
  refine q_if_eq (t := 7) (u := 17) F dX9_plan_4 (by first | exact hR _ _ _ | (constructor <;> omega)) (by decide) rfl (fun c4 => ?_) (fun c4 => ?_)
  · refine q_bipush (t := 19) F dX9_plan_17 (by decide) rfl ?_
    refine q_iret F dX9_plan_19 rfl ?_
    first
      | (refine ⟨_, rfl, ?_, _, _, rfl⟩
         (repeat' split) <;> omega)
      | (exfalso; omega)
  · refine q_iload_n (t := 8) F dX9_plan_7 rfl rfl rfl ?_
    refine q_i2l (t := 9) F dX9_plan_8 (by first | exact hR _ _ _ | (constructor <;> omega)) rfl ?_
    refine q_lconst (t := 10) (x := 0) F dX9_plan_9 (by decide) rfl ?_
    refine q_lconst (t := 11) (x := 1) F dX9_plan_10 (by decide) rfl ?_
    refine wp_callS (t := 14) [_, _, _] F dX9_plan_11 k_X9_in st_X9_in ml_X9_91 rfl rfl (Nat.le_of_ble_eq_true rfl) (by decide) (c_X9_in _ G _ _ _ _ _ _ _ (by constructor <;> omega) (by constructor <;> omega) (by constructor <;> omega)) rfl (kI ?_)
    rintro x11 m' ⟨hx11, rfl⟩
    have hx11 := if01 hx11
    refine q_if_ne (t := 17) (u := 20) F dX9_plan_14 (by first | exact hR _ _ _ | (constructor <;> omega)) (by decide) rfl (fun c14 => ?_) (fun c14 => ?_)
    · refine q_aload_n (t := 21) F dX9_plan_20 rfl rfl rfl ?_
      refine g_X9_68 (t := 24) F dX9_plan_21 rfl rfl ?_
      refine q_iload_n (t := 25) F dX9_plan_24 rfl rfl rfl ?_
      first | refine ldN_47 (t := 26) F dX9_plan_25 (by omega) rfl ?_ | refine ld_47 (t := 26) F dX9_plan_25 (by omega) (by omega) rfl ?_
      try simp only [up_app, row_app, scr_app, cpy_app, Nat.reduceEqDiff, Int.reduceToNat, Int.toNat_natCast, and_true, true_and, and_false, false_and, and_self, reduceIte]
      refine q_if_ne (t := 29) (u := 32) F dX9_plan_26 (by first | exact hR _ _ _ | (constructor <;> omega)) (by decide) rfl (fun c26 => ?_) (fun c26 => ?_)
      · exfalso; rw [f47] at *; omega
      · refine q_bipush (t := 31) F dX9_plan_29 (by decide) rfl ?_
        refine q_iret F dX9_plan_31 rfl ?_
        first
          | (refine ⟨_, rfl, ?_, _, _, rfl⟩
             (repeat' split) <;> omega)
          | (exfalso; omega)
    · refine q_bipush (t := 19) F dX9_plan_17 (by decide) rfl ?_
      refine q_iret F dX9_plan_19 rfl ?_
      first
        | (refine ⟨_, rfl, ?_, _, _, rfl⟩
           (repeat' split) <;> omega)
        | (exfalso; omega)

set_option maxHeartbeats 4000000 in
theorem f_X9_cell (l : Launch) (G : GS) (im : IM) (bt rt : Nat) (lm : IM) (hF : FR im) (sh : Int) (i : Int) (v : Int) (hsh : ri sh) (hi : ri i) (hv : ri v) : Cn l (XR G) yX9_cell Y_X9_cell [vR 30 0, vI sh, vI i, vI v] (im, rs bt rt, lm) (pI fun x m' => x = (if 0 ≤ sh ∧ sh ≤ 3 then -11 else -2) ∧ ∃ im' lm', m' = (im', rs bt rt, lm')) := by
  refine cn_of (by decide) (okR G) rfl (Nat.le_of_ble_eq_true rfl) ?_
  intro M ad hMl F
  subst hMl
  obtain ⟨hR, f3, f4, f6, f7, f8, f9, f12, f46, f47⟩ := hF
  have hsh1 := hsh.1
  have hsh2 := hsh.2
  have hi1 := hi.1
  have hi2 := hi.2
  have hv1 := hv.1
  have hv2 := hv.2
  refine wp_pad 0 ?_
  show Wp M (XR G) ad Y_X9_cell (pI fun x m' => x = (if 0 ≤ sh ∧ sh ≤ 3 then -11 else -2) ∧ ∃ im' lm', m' = (im', rs bt rt, lm')) 0 [some (vR 30 0), some (vI sh), some (vI i), some (vI v)] [] (im, rs bt rt, lm)
  refine q_iload_n (t := 1) F dX9_cell_0 rfl rfl rfl ?_
  refine wp_callS (t := 4) [_] F dX9_cell_1 k_X9_isSheet st_X9_isSheet ml_X9_421 rfl rfl (Nat.le_of_ble_eq_true rfl) (by decide) (c_X9_isSheet _ G _ _ _ _ sh hsh) rfl (kI ?_)
  rintro x1 m' ⟨hx1, rfl⟩
  have hx1 := if01 hx1
  refine q_if_ne (t := 7) (u := 10) F dX9_cell_4 (by first | exact hR _ _ _ | (constructor <;> omega)) (by decide) rfl (fun c4 => ?_) (fun c4 => ?_)
  · refine q_aload_n (t := 11) F dX9_cell_10 rfl rfl rfl ?_
    refine g_X9_68 (t := 14) F dX9_cell_11 rfl rfl ?_
    refine q_iload_n (t := 15) F dX9_cell_14 rfl rfl rfl ?_
    first | refine ldN_47 (t := 16) F dX9_cell_15 (by omega) rfl ?_ | refine ld_47 (t := 16) F dX9_cell_15 (by omega) (by omega) rfl ?_
    try simp only [up_app, row_app, scr_app, cpy_app, Nat.reduceEqDiff, Int.reduceToNat, Int.toNat_natCast, and_true, true_and, and_false, false_and, and_self, reduceIte]
    refine q_if_ne (t := 19) (u := 22) F dX9_cell_16 (by first | exact hR _ _ _ | (constructor <;> omega)) (by decide) rfl (fun c16 => ?_) (fun c16 => ?_)
    · exfalso; rw [f47] at *; omega
    · refine q_bipush (t := 21) F dX9_cell_19 (by decide) rfl ?_
      refine q_iret F dX9_cell_21 rfl ?_
      first
        | (refine ⟨_, rfl, ?_, _, _, rfl⟩
           (repeat' split) <;> omega)
        | (exfalso; omega)
  · refine q_bipush (t := 9) F dX9_cell_7 (by decide) rfl ?_
    refine q_iret F dX9_cell_9 rfl ?_
    first
      | (refine ⟨_, rfl, ?_, _, _, rfl⟩
         (repeat' split) <;> omega)
      | (exfalso; omega)

set_option maxHeartbeats 4000000 in
theorem f_X9_copy (l : Launch) (G : GS) (im : IM) (bt rt : Nat) (lm : IM) (hF : FR im) (sh : Int) (i : Int) (ot : Int) (j : Int) (n : Int) (hsh : ri sh) (hi : ri i) (hot : ri ot) (hj : ri j) (hn : ri n) : Cn l (XR G) yX9_copy Y_X9_copy [vR 30 0, vI sh, vI i, vI ot, vI j, vI n] (im, rs bt rt, lm) (pI fun x m' => x = (if (0 ≤ sh ∧ sh ≤ 3) ∧ 0 ≤ ot ∧ ot ≤ 3 then -11 else -2) ∧ ∃ im' lm', m' = (im', rs bt rt, lm')) := by
  refine cn_of (by decide) (okR G) rfl (Nat.le_of_ble_eq_true rfl) ?_
  intro M ad hMl F
  subst hMl
  obtain ⟨hR, f3, f4, f6, f7, f8, f9, f12, f46, f47⟩ := hF
  have hsh1 := hsh.1
  have hsh2 := hsh.2
  have hi1 := hi.1
  have hi2 := hi.2
  have hot1 := hot.1
  have hot2 := hot.2
  have hj1 := hj.1
  have hj2 := hj.2
  have hn1 := hn.1
  have hn2 := hn.2
  refine wp_pad 3 ?_
  show Wp M (XR G) ad Y_X9_copy (pI fun x m' => x = (if (0 ≤ sh ∧ sh ≤ 3) ∧ 0 ≤ ot ∧ ot ≤ 3 then -11 else -2) ∧ ∃ im' lm', m' = (im', rs bt rt, lm')) 0 [some (vR 30 0), some (vI sh), some (vI i), some (vI ot), some (vI j), some (vI n), none, none, none] [] (im, rs bt rt, lm)
  refine q_iload_n (t := 1) F dX9_copy_0 rfl rfl rfl ?_
  refine wp_callS (t := 4) [_] F dX9_copy_1 k_X9_isSheet st_X9_isSheet ml_X9_421 rfl rfl (Nat.le_of_ble_eq_true rfl) (by decide) (c_X9_isSheet _ G _ _ _ _ sh hsh) rfl (kI ?_)
  rintro x1 m' ⟨hx1, rfl⟩
  have hx1 := if01 hx1
  refine q_if_eq (t := 7) (u := 14) F dX9_copy_4 (by first | exact hR _ _ _ | (constructor <;> omega)) (by decide) rfl (fun c4 => ?_) (fun c4 => ?_)
  · refine q_bipush (t := 16) F dX9_copy_14 (by decide) rfl ?_
    refine q_iret F dX9_copy_16 rfl ?_
    first
      | (refine ⟨_, rfl, ?_, _, _, rfl⟩
         (repeat' split) <;> omega)
      | (exfalso; omega)
  · refine q_iload_n (t := 8) F dX9_copy_7 rfl rfl rfl ?_
    refine wp_callS (t := 11) [_] F dX9_copy_8 k_X9_isSheet st_X9_isSheet ml_X9_421 rfl rfl (Nat.le_of_ble_eq_true rfl) (by decide) (c_X9_isSheet _ G _ _ _ _ ot hot) rfl (kI ?_)
    rintro x8 m' ⟨hx8, rfl⟩
    have hx8 := if01 hx8
    refine q_if_ne (t := 14) (u := 17) F dX9_copy_11 (by first | exact hR _ _ _ | (constructor <;> omega)) (by decide) rfl (fun c11 => ?_) (fun c11 => ?_)
    · refine q_aload_n (t := 18) F dX9_copy_17 rfl rfl rfl ?_
      refine g_X9_68 (t := 21) F dX9_copy_18 rfl rfl ?_
      refine q_iload_n (t := 22) F dX9_copy_21 rfl rfl rfl ?_
      first | refine ldN_47 (t := 23) F dX9_copy_22 (by omega) rfl ?_ | refine ld_47 (t := 23) F dX9_copy_22 (by omega) (by omega) rfl ?_
      try simp only [up_app, row_app, scr_app, cpy_app, Nat.reduceEqDiff, Int.reduceToNat, Int.toNat_natCast, and_true, true_and, and_false, false_and, and_self, reduceIte]
      refine q_if_eq (t := 26) (u := 35) F dX9_copy_23 (by first | exact hR _ _ _ | (constructor <;> omega)) (by decide) rfl (fun c23 => ?_) (fun c23 => ?_)
      · refine q_bipush (t := 37) F dX9_copy_35 (by decide) rfl ?_
        refine q_iret F dX9_copy_37 rfl ?_
        first
          | (refine ⟨_, rfl, ?_, _, _, rfl⟩
             (repeat' split) <;> omega)
          | (exfalso; omega)
      · exfalso; rw [f47] at *; omega
    · refine q_bipush (t := 16) F dX9_copy_14 (by decide) rfl ?_
      refine q_iret F dX9_copy_16 rfl ?_
      first
        | (refine ⟨_, rfl, ?_, _, _, rfl⟩
           (repeat' split) <;> omega)
        | (exfalso; omega)

set_option maxHeartbeats 4000000 in
theorem f_X9_back (l : Launch) (G : GS) (im : IM) (bt rt : Nat) (lm : IM) (hF : FR im) : Cn l (XR G) yX9_back Y_X9_back [vR 30 0] (im, rs bt rt, lm) (pI fun x m' => x = (-3) ∧ ∃ im' lm', m' = (im', rs bt rt, lm')) := by
  refine cn_of (by decide) (okR G) rfl (Nat.le_of_ble_eq_true rfl) ?_
  intro M ad hMl F
  subst hMl
  obtain ⟨hR, f3, f4, f6, f7, f8, f9, f12, f46, f47⟩ := hF
  refine wp_pad 1 ?_
  show Wp M (XR G) ad Y_X9_back (pI fun x m' => x = (-3) ∧ ∃ im' lm', m' = (im', rs bt rt, lm')) 0 [some (vR 30 0), none] [] (im, rs bt rt, lm)
  refine q_aload_n (t := 1) F dX9_back_0 rfl rfl rfl ?_
  refine g_X9_65 (t := 4) F dX9_back_1 rfl rfl ?_
  refine q_iconst (t := 5) F dX9_back_4 rfl ?_
  refine q_icmp_ne (t := 8) (u := 11) F dX9_back_5 (by first | exact hR _ _ _ | (constructor <;> omega)) (by first | exact hR _ _ _ | (constructor <;> omega)) (by decide) rfl (fun c5 => ?_) (fun c5 => ?_)
  · exfalso; omega
  · refine q_bipush (t := 10) F dX9_back_8 (by decide) rfl ?_
    refine q_iret F dX9_back_10 rfl ?_
    first
      | (refine ⟨_, rfl, ?_, _, _, rfl⟩
         (repeat' split) <;> omega)
      | (exfalso; omega)

set_option maxHeartbeats 4000000 in
theorem f_X9_force (l : Launch) (G : GS) (im : IM) (bt rt : Nat) (lm : IM) (hF : FR im) (t : Int) (ht : ri t) : Cn l (XR G) yX9_force Y_X9_force [vR 30 0, vI t] (im, rs bt rt, lm) (pI fun x m' => x = (if t = 0 then 0 else -2) ∧ ∃ im' lm', m' = (im', rs bt rt, lm')) := by
  refine cn_of (by decide) (okR G) rfl (Nat.le_of_ble_eq_true rfl) ?_
  intro M ad hMl F
  subst hMl
  obtain ⟨hR, f3, f4, f6, f7, f8, f9, f12, f46, f47⟩ := hF
  have ht1 := ht.1
  have ht2 := ht.2
  refine wp_pad 1 ?_
  show Wp M (XR G) ad Y_X9_force (pI fun x m' => x = (if t = 0 then 0 else -2) ∧ ∃ im' lm', m' = (im', rs bt rt, lm')) 0 [some (vR 30 0), some (vI t), none] [] (im, rs bt rt, lm)
  refine q_iload_n (t := 1) F dX9_force_0 rfl rfl rfl ?_
  refine q_i2l (t := 2) F dX9_force_1 (by first | exact hR _ _ _ | (constructor <;> omega)) rfl ?_
  refine q_lconst (t := 3) (x := 0) F dX9_force_2 (by decide) rfl ?_
  refine q_aload_n (t := 4) F dX9_force_3 rfl rfl rfl ?_
  refine g_X9_85 (t := 7) F dX9_force_4 rfl rfl ?_
  refine q_iconst (t := 8) F dX9_force_7 rfl ?_
  refine q_isub (t := 9) F dX9_force_8 rfl ?_
  refine q_i2l (t := 10) F dX9_force_9 (by first | exact hR _ _ _ | (constructor <;> omega)) rfl ?_
  refine wp_callS (t := 13) [_, _, _] F dX9_force_10 k_X9_in st_X9_in ml_X9_91 rfl rfl (Nat.le_of_ble_eq_true rfl) (by decide) (c_X9_in _ G _ _ _ _ _ _ _ (by constructor <;> omega) (by constructor <;> omega) (by constructor <;> omega)) rfl (kI ?_)
  rintro x10 m' ⟨hx10, rfl⟩
  have hx10 := if01 hx10
  refine q_if_ne (t := 16) (u := 19) F dX9_force_13 (by first | exact hR _ _ _ | (constructor <;> omega)) (by decide) rfl (fun c13 => ?_) (fun c13 => ?_)
  · refine q_aload_n (t := 20) F dX9_force_19 rfl rfl rfl ?_
    refine g_X9_120 (t := 23) F dX9_force_20 rfl rfl ?_
    try simp only [up_app, row_app, scr_app, cpy_app, Nat.reduceEqDiff, Int.reduceToNat, Int.toNat_natCast, and_true, true_and, and_false, false_and, and_self, reduceIte]
    refine q_istore_n (t := 24) F dX9_force_23 rfl (by decide) rfl rfl ?_
    refine q_aload_n (t := 25) F dX9_force_24 rfl rfl rfl ?_
    refine q_iload_n (t := 26) F dX9_force_25 rfl rfl rfl ?_
    refine p_X9_120 (t := 29) F dX9_force_26 rfl rfl ?_
    refine q_iload_n (t := 30) F dX9_force_29 rfl rfl rfl ?_
    refine q_iret F dX9_force_30 rfl ?_
    first
      | (refine ⟨_, rfl, ?_, _, _, rfl⟩
         (repeat' split) <;> omega)
      | (exfalso; omega)
  · refine q_bipush (t := 18) F dX9_force_16 (by decide) rfl ?_
    refine q_iret F dX9_force_18 rfl ?_
    first
      | (refine ⟨_, rfl, ?_, _, _, rfl⟩
         (repeat' split) <;> omega)
      | (exfalso; omega)

set_option maxHeartbeats 4000000 in
theorem f_X9_feed (l : Launch) (G : GS) (im : IM) (bt rt : Nat) (lm : IM) (hF : FR im) (letter : Int) (hletter : ri letter) : Cn l (XR G) yX9_feed Y_X9_feed [vR 30 0, vI letter] (im, rs bt rt, lm) (pI fun x m' => x = (if 0 ≤ letter ∧ letter ≤ 255 then 1 else -2) ∧ ∃ im' lm', m' = (im', rs bt rt, lm')) := by
  refine cn_of (by decide) (okR G) rfl (Nat.le_of_ble_eq_true rfl) ?_
  intro M ad hMl F
  subst hMl
  obtain ⟨hR, f3, f4, f6, f7, f8, f9, f12, f46, f47⟩ := hF
  have hletter1 := hletter.1
  have hletter2 := hletter.2
  refine wp_pad 0 ?_
  show Wp M (XR G) ad Y_X9_feed (pI fun x m' => x = (if 0 ≤ letter ∧ letter ≤ 255 then 1 else -2) ∧ ∃ im' lm', m' = (im', rs bt rt, lm')) 0 [some (vR 30 0), some (vI letter)] [] (im, rs bt rt, lm)
  refine q_iload_n (t := 1) F dX9_feed_0 rfl rfl rfl ?_
  refine q_i2l (t := 2) F dX9_feed_1 (by first | exact hR _ _ _ | (constructor <;> omega)) rfl ?_
  refine q_lconst (t := 3) (x := 0) F dX9_feed_2 (by decide) rfl ?_
  refine q_ldc2 (t := 6) (x := 255) F dX9_feed_3 kl_X9_144 (by decide) rfl ?_
  refine wp_callS (t := 9) [_, _, _] F dX9_feed_6 k_X9_in st_X9_in ml_X9_91 rfl rfl (Nat.le_of_ble_eq_true rfl) (by decide) (c_X9_in _ G _ _ _ _ _ _ _ (by constructor <;> omega) (by constructor <;> omega) (by constructor <;> omega)) rfl (kI ?_)
  rintro x6 m' ⟨hx6, rfl⟩
  have hx6 := if01 hx6
  refine q_if_ne (t := 12) (u := 15) F dX9_feed_9 (by first | exact hR _ _ _ | (constructor <;> omega)) (by decide) rfl (fun c9 => ?_) (fun c9 => ?_)
  · refine q_aload_n (t := 16) F dX9_feed_15 rfl rfl rfl ?_
    refine g_X9_146 (t := 19) F dX9_feed_16 rfl rfl ?_
    try simp only [up_app, row_app, scr_app, cpy_app, Nat.reduceEqDiff, Int.reduceToNat, Int.toNat_natCast, and_true, true_and, and_false, false_and, and_self, reduceIte]
    refine q_sipush (t := 22) F dX9_feed_19 (by decide) rfl ?_
    refine q_icmp_ne (t := 25) (u := 28) F dX9_feed_22 (by first | exact hR _ _ _ | (constructor <;> omega)) (by first | exact hR _ _ _ | (constructor <;> omega)) (by decide) rfl (fun c22 => ?_) (fun c22 => ?_)
    · refine q_aload_n (t := 29) F dX9_feed_28 rfl rfl rfl ?_
      refine g_X9_20 (t := 32) F dX9_feed_29 rfl rfl ?_
      refine q_aload_n (t := 33) F dX9_feed_32 rfl rfl rfl ?_
      refine g_X9_146 (t := 36) F dX9_feed_33 rfl rfl ?_
      try simp only [up_app, row_app, scr_app, cpy_app, Nat.reduceEqDiff, Int.reduceToNat, Int.toNat_natCast, and_true, true_and, and_false, false_and, and_self, reduceIte]
      refine q_iload_n (t := 37) F dX9_feed_36 rfl rfl rfl ?_
      first | refine stN_33 (t := 38) F dX9_feed_37 (by omega) rfl ?_ | refine st_33 (t := 38) F dX9_feed_37 (by omega) (by omega) rfl ?_
      refine q_aload_n (t := 39) F dX9_feed_38 rfl rfl rfl ?_
      refine q_dupR (t := 40) F dX9_feed_39 rfl ?_
      refine g_X9_146 (t := 43) F dX9_feed_40 rfl rfl ?_
      try simp only [up_app, row_app, scr_app, cpy_app, Nat.reduceEqDiff, Int.reduceToNat, Int.toNat_natCast, and_true, true_and, and_false, false_and, and_self, reduceIte]
      refine q_iconst (t := 44) F dX9_feed_43 rfl ?_
      refine q_iadd (t := 45) F dX9_feed_44 rfl ?_
      refine p_X9_146 (t := 48) F dX9_feed_45 rfl rfl ?_
      refine q_aload_n (t := 49) F dX9_feed_48 rfl rfl rfl ?_
      refine g_X9_146 (t := 52) F dX9_feed_49 rfl rfl ?_
      try simp only [up_app, row_app, scr_app, cpy_app, Nat.reduceEqDiff, Int.reduceToNat, Int.toNat_natCast, and_true, true_and, and_false, false_and, and_self, reduceIte]
      refine q_iret F dX9_feed_52 rfl ?_
      first
        | (refine ⟨_, rfl, ?_, _, _, rfl⟩
           (repeat' split) <;> omega)
        | (exfalso; omega)
    · exfalso; omega
  · refine q_bipush (t := 14) F dX9_feed_12 (by decide) rfl ?_
    refine q_iret F dX9_feed_14 rfl ?_
    first
      | (refine ⟨_, rfl, ?_, _, _, rfl⟩
         (repeat' split) <;> omega)
      | (exfalso; omega)

set_option maxHeartbeats 4000000 in
theorem f_X9_stuckAll (l : Launch) (G : GS) (im : IM) (bt rt : Nat) (lm : IM) (hF : FR im) : Cn l (XR G) yX9_stuckAll Y_X9_stuckAll [vR 30 0] (im, rs bt rt, lm) (pI fun x m' => x = 0 ∧ m' = (im, rs bt rt, lm)) := by
  refine cn_of (by decide) (okR G) rfl (Nat.le_of_ble_eq_true rfl) ?_
  intro M ad hMl F
  subst hMl
  obtain ⟨hR, f3, f4, f6, f7, f8, f9, f12, f46, f47⟩ := hF
  refine wp_pad 2 ?_
  show Wp M (XR G) ad Y_X9_stuckAll (pI fun x m' => x = 0 ∧ m' = (im, rs bt rt, lm)) 0 [some (vR 30 0), none, none] [] (im, rs bt rt, lm)
  refine q_iconst (t := 1) F dX9_stuckAll_0 rfl ?_
  refine q_istore_n (t := 2) F dX9_stuckAll_1 rfl (by decide) rfl rfl ?_
  refine q_iconst (t := 3) F dX9_stuckAll_2 rfl ?_
  refine q_istore_n (t := 4) F dX9_stuckAll_3 rfl (by decide) rfl rfl ?_
  refine q_iload_n (t := 5) F dX9_stuckAll_4 rfl rfl rfl ?_
  refine q_aload_n (t := 6) F dX9_stuckAll_5 rfl rfl rfl ?_
  refine g_X9_88 (t := 9) F dX9_stuckAll_6 rfl rfl ?_
  refine q_icmp_ge (t := 12) (u := 26) F dX9_stuckAll_9 (by first | exact hR _ _ _ | (constructor <;> omega)) (by first | exact hR _ _ _ | (constructor <;> omega)) (by decide) rfl (fun c9 => ?_) (fun c9 => ?_)
  · refine q_iload_n (t := 27) F dX9_stuckAll_26 rfl rfl rfl ?_
    refine q_iret F dX9_stuckAll_27 rfl ?_
    exact ⟨_, rfl, rfl, rfl⟩
  · exfalso; omega

set_option maxHeartbeats 4000000 in
theorem f_X9_count (l : Launch) (G : GS) (im : IM) (bt rt : Nat) (lm : IM) (hF : FR im) (what : Int) (hwhat : ri what) : Cn l (XR G) yX9_count Y_X9_count [vR 30 0, vI what] (im, rs bt rt, lm) (pI fun x m' => x = (if what = 3 then 1 else if 0 ≤ what ∧ what ≤ 5 then 0 else -2) ∧ ∃ im' lm', m' = (im', rs bt rt, lm')) := by
  refine cn_of (by decide) (okR G) rfl (Nat.le_of_ble_eq_true rfl) ?_
  intro M ad hMl F
  subst hMl
  obtain ⟨hR, f3, f4, f6, f7, f8, f9, f12, f46, f47⟩ := hF
  have hwhat1 := hwhat.1
  have hwhat2 := hwhat.2
  refine wp_pad 0 ?_
  show Wp M (XR G) ad Y_X9_count (pI fun x m' => x = (if what = 3 then 1 else if 0 ≤ what ∧ what ≤ 5 then 0 else -2) ∧ ∃ im' lm', m' = (im', rs bt rt, lm')) 0 [some (vR 30 0), some (vI what)] [] (im, rs bt rt, lm)
  refine q_iload_n (t := 1) F dX9_count_0 rfl rfl rfl ?_
  refine q_if_ne (t := 4) (u := 11) F dX9_count_1 (by first | exact hR _ _ _ | (constructor <;> omega)) (by decide) rfl (fun c1 => ?_) (fun c1 => ?_)
  · refine q_iload_n (t := 12) F dX9_count_11 rfl rfl rfl ?_
    refine q_iconst (t := 13) F dX9_count_12 rfl ?_
    refine q_icmp_ne (t := 16) (u := 23) F dX9_count_13 (by first | exact hR _ _ _ | (constructor <;> omega)) (by first | exact hR _ _ _ | (constructor <;> omega)) (by decide) rfl (fun c13 => ?_) (fun c13 => ?_)
    · refine q_iload_n (t := 24) F dX9_count_23 rfl rfl rfl ?_
      refine q_iconst (t := 25) F dX9_count_24 rfl ?_
      refine q_icmp_ne (t := 28) (u := 35) F dX9_count_25 (by first | exact hR _ _ _ | (constructor <;> omega)) (by first | exact hR _ _ _ | (constructor <;> omega)) (by decide) rfl (fun c25 => ?_) (fun c25 => ?_)
      · refine q_iload_n (t := 36) F dX9_count_35 rfl rfl rfl ?_
        refine q_iconst (t := 37) F dX9_count_36 rfl ?_
        refine q_icmp_ne (t := 40) (u := 47) F dX9_count_37 (by first | exact hR _ _ _ | (constructor <;> omega)) (by first | exact hR _ _ _ | (constructor <;> omega)) (by decide) rfl (fun c37 => ?_) (fun c37 => ?_)
        · refine q_iload_n (t := 48) F dX9_count_47 rfl rfl rfl ?_
          refine q_iconst (t := 49) F dX9_count_48 rfl ?_
          refine q_icmp_ne (t := 52) (u := 59) F dX9_count_49 (by first | exact hR _ _ _ | (constructor <;> omega)) (by first | exact hR _ _ _ | (constructor <;> omega)) (by decide) rfl (fun c49 => ?_) (fun c49 => ?_)
          · refine q_iload_n (t := 60) F dX9_count_59 rfl rfl rfl ?_
            refine q_iconst (t := 61) F dX9_count_60 rfl ?_
            refine q_icmp_ne (t := 64) (u := 71) F dX9_count_61 (by first | exact hR _ _ _ | (constructor <;> omega)) (by first | exact hR _ _ _ | (constructor <;> omega)) (by decide) rfl (fun c61 => ?_) (fun c61 => ?_)
            · refine q_bipush (t := 73) F dX9_count_71 (by decide) rfl ?_
              refine q_iret F dX9_count_73 rfl ?_
              first
                | (refine ⟨_, rfl, ?_, _, _, rfl⟩
                   (repeat' split) <;> omega)
                | (exfalso; omega)
            · refine q_aload_n (t := 65) F dX9_count_64 rfl rfl rfl ?_
              refine g_X9_120 (t := 68) F dX9_count_65 rfl rfl ?_
              refine q_goto (t := 73) F dX9_count_68 (by decide) ?_
              refine q_iret F dX9_count_73 rfl ?_
              first
                | (refine ⟨_, rfl, ?_, _, _, rfl⟩
                   (repeat' split) <;> omega)
                | (exfalso; omega)
          · refine q_aload_n (t := 53) F dX9_count_52 rfl rfl rfl ?_
            refine g_X9_146 (t := 56) F dX9_count_53 rfl rfl ?_
            refine q_goto (t := 73) F dX9_count_56 (by decide) ?_
            refine q_iret F dX9_count_73 rfl ?_
            first
              | (refine ⟨_, rfl, ?_, _, _, rfl⟩
                 (repeat' split) <;> omega)
              | (exfalso; omega)
        · refine q_aload_n (t := 41) F dX9_count_40 rfl rfl rfl ?_
          refine g_X9_85 (t := 44) F dX9_count_41 rfl rfl ?_
          refine q_goto (t := 73) F dX9_count_44 (by decide) ?_
          refine q_iret F dX9_count_73 rfl ?_
          first
            | (refine ⟨_, rfl, ?_, _, _, rfl⟩
               (repeat' split) <;> omega)
            | (exfalso; omega)
      · refine q_aload_n (t := 29) F dX9_count_28 rfl rfl rfl ?_
        refine g_X9_385 (t := 32) F dX9_count_29 rfl rfl ?_
        refine q_goto (t := 73) F dX9_count_32 (by decide) ?_
        refine q_iret F dX9_count_73 rfl ?_
        first
          | (refine ⟨_, rfl, ?_, _, _, rfl⟩
             (repeat' split) <;> omega)
          | (exfalso; omega)
    · refine q_aload_n (t := 17) F dX9_count_16 rfl rfl rfl ?_
      refine wp_callV (t := 20) [] F dX9_count_17 k_X9_stuckAll v_X9_stuckAll ml_X9_427 rfl rfl rfl rfl (Nat.le_of_ble_eq_true rfl) (by decide) (m_30 (by omega)) (f_X9_stuckAll _ G im bt rt lm ⟨hR, f3, f4, f6, f7, f8, f9, f12, f46, f47⟩) rfl (kI ?_)
      rintro x17 m' ⟨rfl, rfl⟩
      refine q_goto (t := 73) F dX9_count_20 (by decide) ?_
      refine q_iret F dX9_count_73 rfl ?_
      first
        | (refine ⟨_, rfl, ?_, _, _, rfl⟩
           (repeat' split) <;> omega)
        | (exfalso; omega)
  · refine q_aload_n (t := 5) F dX9_count_4 rfl rfl rfl ?_
    refine g_X9_88 (t := 8) F dX9_count_5 rfl rfl ?_
    refine q_goto (t := 73) F dX9_count_8 (by decide) ?_
    refine q_iret F dX9_count_73 rfl ?_
    first
      | (refine ⟨_, rfl, ?_, _, _, rfl⟩
         (repeat' split) <;> omega)
      | (exfalso; omega)
