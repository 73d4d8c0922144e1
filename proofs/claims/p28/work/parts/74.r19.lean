/-! the reference reads a text -/
def agZ (a b : IM) : Prop := ∀ k i s, ¬ (k = 30 ∧ 21 ≤ s ∧ s ≤ 29) → a k i s = b k i s
theorem agZ_rfl (a : IM) : agZ a a := fun _ _ _ _ => rfl
theorem agZ.trans {a b c : IM} (h : agZ a b) (h2 : agZ b c) : agZ a c := fun k i s hs => (h k i s hs).trans (h2 k i s hs)
theorem agQ.Z {a b : IM} (h : agQ a b) : agZ a b := fun k i s hs => h k i s (by omega)
theorem NMr.agZ {im im' : IM} {nm : Nat → Int} (h : NMr im nm) (ha : agZ im' im) : NMr im' nm := fun i hi => (ha 30 0 (15 + i) (by omega)).trans (h i hi)
/-- where it begins -/
def rdI (im : IM) (t n : Nat) : IM := up (up (up (up (up im 30 0 21 ((160 * t : Nat) : Int)) 30 0 22 (n : Int)) 30 0 23 0) 30 0 27 0) 30 0 28 0
theorem rdI_f {im : IM} {t n : Nat} {b : Nat → Int} (hR : RI im) (ht : t < 6) (hn : n ≤ 160) (h31 : ∀ i, i < 160 → im 31 0 (160 * t + i) = b i) : RI (rdI im t n) ∧ BRr b n (rdI im t n) ∧ rdI im t n 30 0 23 = ((0 : Nat) : Int) ∧ rdI im t n 30 0 27 = ((0 : Nat) : Int) ∧ rdI im t n 30 0 28 = 0 ∧ agZ (rdI im t n) im := by
  refine ⟨RI_up (RI_up (RI_up (RI_up (RI_up hR (by constructor <;> omega)) (by constructor <;> omega)) (by constructor <;> omega)) (by constructor <;> omega)) (by constructor <;> omega), ⟨rfl, t, ht, rfl, fun i hi => ?_⟩, rfl, rfl, rfl, fun k i s hs => ?_⟩
  · exact h31 i hi
  · unfold rdI
    rw [up_app, if_neg (by omega), up_app, if_neg (by omega), up_app, if_neg (by omega), up_app, if_neg (by omega), up_app, if_neg (by omega)]
/-- what was read so far -/
def RRd (b : Nat → Int) (n : Nat) (im lm : IM) (nm : Nat → Int) (k : Nat) (x : Int) (im1 lm1 : IM) : Prop := ri x ∧ PQ b n im1 lm1 (rdk b n k).1 (rdk b n k).2.1 ∧ agZ im1 im ∧ im1 30 0 27 = ((0 : Nat) : Int) ∧ lgQ lm1 lm ∧ ((rdk b n k).2.1 = -1 → x = (rdk b n k).2.2.2 nm)
theorem RRd_s {b : Nat → Int} {n : Nat} {im lm im1 lm1 im2 lm2 : IM} {nm : Nat → Int} {k : Nat} {x y : Int} (h : RRd b n im lm nm k x im1 lm1) (h2 : RPO b n im1 lm1 nm (rdk b n (k + 1)) y im2 lm2) : RRd b n im lm nm (k + 1) y im2 lm2 := ⟨h2.1, h2.2.1, h2.2.2.1.Z.trans h.2.2.1, (h2.2.2.1 30 0 27 (by omega)).trans h.2.2.2.1, h2.2.2.2.1.trans h.2.2.2.2.1, h2.2.2.2.2⟩
theorem rdk_bad {b : Nat → Int} {n k : Nat} (h : (rdk b n k).2.1 ≠ -1) : (rdk b n (k + 1)).1 = (rdk b n k).1 ∧ (rdk b n (k + 1)).2.1 = (rdk b n k).2.1 := by
  show (stP _ _ _).1 = _ ∧ (stP _ _ _).2.1 = _
  rw [stP_n h]
  exact ⟨rfl, rfl⟩
theorem RRd_b {b : Nat → Int} {n : Nat} {im lm im1 lm1 : IM} {nm : Nat → Int} {k : Nat} {x : Int} (h : RRd b n im lm nm k x im1 lm1) (hb : (rdk b n k).2.1 ≠ -1) : RRd b n im lm nm (k + 1) 0 im1 lm1 := by
  have e := rdk_bad hb
  refine ⟨by constructor <;> omega, by rw [e.1, e.2]; exact h.2.1, h.2.2.1, h.2.2.2.1, h.2.2.2.2.1, fun q => ?_⟩
  rw [e.2] at q
  exact absurd q hb
theorem c_nextS (l : Launch) (G : GS) (im0 : IM) (bt rt : Nat) (lm : IM) (b : Nat → Int) (n : Nat) (hb : byt b n) (hR : RI im0) (hB : BRr b n im0) (h23 : im0 30 0 23 = ((0 : Nat) : Int)) (h27 : im0 30 0 27 = ((0 : Nat) : Int)) (h28 : im0 30 0 28 = 0) (nm : Nat → Int) (im : IM) (ha : agZ im0 im) : Cn l (XR G) yX9_next Y_X9_next [vR 30 0] (im0, rs bt rt, lm) (pV fun m' => ∃ im' lm', RRd b n im lm nm 0 0 im' lm' ∧ m' = (im', rs bt rt, lm')) := by
  refine (c_X9_next l G im0 bt rt lm b n hb hR hB 0 (by omega) h23).mono (fun r m' hq => ?_)
  obtain ⟨hr, im', lm', hR', hT', h25, hag, hlg, hm⟩ := hq
  have hs := span_in isW b n _ 0 rfl
  have e28 : im' 30 0 28 = 0 := (hag 30 0 28 (by omega)).trans h28
  refine ⟨hr, im', lm', ⟨by constructor <;> omega, ⟨⟨fun _ => ⟨e28, h25, hT'⟩, fun q => absurd rfl q⟩, hR', BRr_agN hB hag, hs.2 (by omega), Or.inl e28⟩, ?_, (hag 30 0 27 (by omega)).trans h27, hlg, fun _ => rfl⟩, hm⟩
  intro k i s hk
  exact (hag k i s (by omega)).trans (ha k i s hk)

set_option maxHeartbeats 4000000 in
theorem c_X9_read (l : Launch) (G : GS)  (bt rt : Nat)  (b : Nat → Int) (n : Nat) (hb : byt b n) (hE : RT l G bt rt b n yX9_either0 Y_X9_either0 (eitL b n 5) 0) (im lm : IM) (hR : RI im) (t : Nat) (ht : t < 6) (h32 : im 32 0 t = n) (h31 : ∀ i, i < 160 → im 31 0 (160 * t + i) = b i) (nm : Nat → Int) (hnm : NMr im nm) (w : Int) (hw : ri w) : Cn l (XR G) yX9_read Y_X9_read [vR 30 0, vI (t : Int), vI w] (im, rs bt rt, lm) (pI fun x m' => ∃ im' lm', ri x ∧ RI im' ∧ agZ im' im ∧ lgQ lm' lm ∧ (rdF b n = -1 → im' 30 0 28 = 0 ∧ (w = 0 → x = valT b n 0 nm) ∧ (w = 1 → x = valT b n 1 nm) ∧ (w ≠ 0 → w ≠ 1 → x = valT b n 2 nm)) ∧ (rdF b n ≠ -1 → im' 30 0 28 = 1 ∧ im' 30 0 29 = rdF b n) ∧ m' = (im', rs bt rt, lm')) := by
  refine cn_of (by decide) (okR G) rfl (Nat.le_of_ble_eq_true rfl) ?_
  intro M ad hMl F
  subst hMl
  have hn := hb.1
  have hF := rdF_eq b n
  refine wp_pad 3 ?_
  show Wp M (XR G) ad Y_X9_read (pI fun x m' => ∃ im' lm', ri x ∧ RI im' ∧ agZ im' im ∧ lgQ lm' lm ∧ (rdF b n = -1 → im' 30 0 28 = 0 ∧ (w = 0 → x = valT b n 0 nm) ∧ (w = 1 → x = valT b n 1 nm) ∧ (w ≠ 0 → w ≠ 1 → x = valT b n 2 nm)) ∧ (rdF b n ≠ -1 → im' 30 0 28 = 1 ∧ im' 30 0 29 = rdF b n) ∧ m' = (im', rs bt rt, lm')) 0 [some (vR 30 0), some (vI (t : Int)), some (vI w), none, none, none] [] (im, rs bt rt, lm)
  have T148 : ∀ (x3 x4 x5 : Int) (im1 lm1 : IM), ri x3 → ri x4 → ri x5 → RI im1 → agZ im1 im → lgQ lm1 lm → (rdF b n = -1 → im1 30 0 28 = 0 ∧ x3 = valT b n 0 nm ∧ x4 = valT b n 1 nm ∧ x5 = valT b n 2 nm) → (rdF b n ≠ -1 → im1 30 0 28 = 1 ∧ im1 30 0 29 = rdF b n) → Wp M (XR G) ad Y_X9_read (pI fun x m' => ∃ im' lm', ri x ∧ RI im' ∧ agZ im' im ∧ lgQ lm' lm ∧ (rdF b n = -1 → im' 30 0 28 = 0 ∧ (w = 0 → x = valT b n 0 nm) ∧ (w = 1 → x = valT b n 1 nm) ∧ (w ≠ 0 → w ≠ 1 → x = valT b n 2 nm)) ∧ (rdF b n ≠ -1 → im' 30 0 28 = 1 ∧ im' 30 0 29 = rdF b n) ∧ m' = (im', rs bt rt, lm')) 148 [some (vR 30 0), some (vI (t : Int)), some (vI w), some (vI x3), some (vI x4), some (vI x5)] [] (im1, rs bt rt, lm1) := by
    intro x3 x4 x5 im1 lm1 hr3 hr4 hr5 hR1 hag hlg hy hn1
    refine q_iload_n (t := 149) F dX9_read_148 rfl rfl rfl ?_
    refine q_if_ne (t := 152) (u := 156) F dX9_read_149 (by exact hw) (by decide) rfl (fun c149 => ?_) (fun c149 => ?_)
    · refine q_iload_n (t := 157) F dX9_read_156 rfl rfl rfl ?_
      refine q_iconst (t := 158) F dX9_read_157 rfl ?_
      refine q_icmp_ne (t := 161) (u := 166) F dX9_read_158 (by exact hw) (by constructor <;> omega) (by decide) rfl (fun c158 => ?_) (fun c158 => ?_)
      · refine q_iload (t := 168) F dX9_read_166 rfl rfl ?_
        refine q_iret F dX9_read_168 rfl ?_
        first
          | exact ⟨_, rfl, im1, lm1, hr3, hR1, hag, hlg, fun q => ⟨(hy q).1, fun _ => (hy q).2.1, fun q2 => by omega, fun q2 => by omega⟩, hn1, rfl⟩
          | exact ⟨_, rfl, im1, lm1, hr4, hR1, hag, hlg, fun q => ⟨(hy q).1, fun q2 => by omega, fun _ => (hy q).2.2.1, fun _ q2 => by omega⟩, hn1, rfl⟩
          | exact ⟨_, rfl, im1, lm1, hr5, hR1, hag, hlg, fun q => ⟨(hy q).1, fun q2 => by omega, fun q2 => by omega, fun _ _ => (hy q).2.2.2⟩, hn1, rfl⟩
      · refine q_iload (t := 163) F dX9_read_161 rfl rfl ?_
        refine q_goto (t := 168) F dX9_read_163 (by decide) ?_
        refine q_iret F dX9_read_168 rfl ?_
        first
          | exact ⟨_, rfl, im1, lm1, hr3, hR1, hag, hlg, fun q => ⟨(hy q).1, fun _ => (hy q).2.1, fun q2 => by omega, fun q2 => by omega⟩, hn1, rfl⟩
          | exact ⟨_, rfl, im1, lm1, hr4, hR1, hag, hlg, fun q => ⟨(hy q).1, fun q2 => by omega, fun _ => (hy q).2.2.1, fun _ q2 => by omega⟩, hn1, rfl⟩
          | exact ⟨_, rfl, im1, lm1, hr5, hR1, hag, hlg, fun q => ⟨(hy q).1, fun q2 => by omega, fun q2 => by omega, fun _ _ => (hy q).2.2.2⟩, hn1, rfl⟩
    · refine q_iload_n (t := 153) F dX9_read_152 rfl rfl rfl ?_
      refine q_goto (t := 168) F dX9_read_153 (by decide) ?_
      refine q_iret F dX9_read_168 rfl ?_
      first
        | exact ⟨_, rfl, im1, lm1, hr3, hR1, hag, hlg, fun q => ⟨(hy q).1, fun _ => (hy q).2.1, fun q2 => by omega, fun q2 => by omega⟩, hn1, rfl⟩
        | exact ⟨_, rfl, im1, lm1, hr4, hR1, hag, hlg, fun q => ⟨(hy q).1, fun q2 => by omega, fun _ => (hy q).2.2.1, fun _ q2 => by omega⟩, hn1, rfl⟩
        | exact ⟨_, rfl, im1, lm1, hr5, hR1, hag, hlg, fun q => ⟨(hy q).1, fun q2 => by omega, fun q2 => by omega, fun _ _ => (hy q).2.2.2⟩, hn1, rfl⟩
  have T130 : ∀ (x3 x4 x5 : Int) (im1 lm1 : IM), ((rdk b n 1).2.1 = -1 → x3 = (rdk b n 1).2.2.2 nm) → ri x3 → ((rdk b n 2).2.1 = -1 → x4 = (rdk b n 2).2.2.2 nm) → ri x4 → RRd b n im lm nm 3 x5 im1 lm1 → Wp M (XR G) ad Y_X9_read (pI fun x m' => ∃ im' lm', ri x ∧ RI im' ∧ agZ im' im ∧ lgQ lm' lm ∧ (rdF b n = -1 → im' 30 0 28 = 0 ∧ (w = 0 → x = valT b n 0 nm) ∧ (w = 1 → x = valT b n 1 nm) ∧ (w ≠ 0 → w ≠ 1 → x = valT b n 2 nm)) ∧ (rdF b n ≠ -1 → im' 30 0 28 = 1 ∧ im' 30 0 29 = rdF b n) ∧ m' = (im', rs bt rt, lm')) 130 [some (vR 30 0), some (vI (t : Int)), some (vI w), some (vI x3), some (vI x4), some (vI x5)] [] (im1, rs bt rt, lm1) := by
    intro x3 x4 x5 im1 lm1 hv3 hr3 hv4 hr4 h5
    have hb5 := h5.2.1.b01
    have hR5 := h5.2.1.2.1
    refine q_aload_n (t := 131) F dX9_read_130 rfl rfl rfl ?_
    refine g_X9_179 (t := 134) F dX9_read_131 rfl rfl ?_
    refine q_if_ne (t := 137) (u := 148) F dX9_read_134 (by exact hR5 _ _ _) (by decide) rfl (fun c134 => ?_) (fun c134 => ?_)
    · have hf : (rdk b n 3).2.1 ≠ -1 := by omega
      rw [if_neg hf] at hF
      exact T148 x3 x4 x5 im1 lm1 hr3 hr4 h5.1 h5.2.1.2.1 h5.2.2.1 h5.2.2.2.2.1 (fun q => absurd (hF.symm.trans q) hf) (fun _ => ⟨by omega, by omega⟩)
    · refine q_aload_n (t := 138) F dX9_read_137 rfl rfl rfl ?_
      refine g_X9_164 (t := 141) F dX9_read_138 rfl rfl ?_
      refine q_if_eq (t := 144) (u := 148) F dX9_read_141 (by exact hR5 _ _ _) (by decide) rfl (fun c141 => ?_) (fun c141 => ?_)
      · have hf : (rdk b n 3).2.1 = -1 := by omega
        have ht0 : tk b n (rdk b n 3).1 = 0 := (TK_word (h5.2.1.1.1 hf).2.2).2.mp (by omega)
        rw [if_pos hf, if_pos ht0] at hF
        exact T148 x3 x4 x5 im1 lm1 hr3 hr4 h5.1 h5.2.1.2.1 h5.2.2.1 h5.2.2.2.2.1 (fun q => ⟨by omega, hv3 (rdF_k hF 1 (by omega)), hv4 (rdF_k hF 2 (by omega)), h5.2.2.2.2.2 hf⟩) (fun q => absurd hF q)
      · refine q_aload_n (t := 145) F dX9_read_144 rfl rfl rfl ?_
        refine wp_callV (t := 148) [] F dX9_read_145 k_X9_fail v_X9_fail ml_X9_193 rfl rfl rfl rfl (Nat.le_of_ble_eq_true rfl) (by decide) (m_30 (by omega)) (c_failQ _ G im1 bt rt lm1 b n _ _ h5.2.1) rfl (kV ?_)
        rintro m' ⟨im9, h9, hag9, rfl⟩
        have hf : (rdk b n 3).2.1 = -1 := by omega
        have ht0 : tk b n (rdk b n 3).1 ≠ 0 := fun q => by have := (TK_word (h5.2.1.1.1 hf).2.2).2.mpr q; omega
        rw [if_pos hf, if_neg ht0] at hF
        rw [if_pos hf] at h9
        have hb9 := h9.b01
        exact T148 x3 x4 x5 im9 lm1 hr3 hr4 h5.1 h9.2.1 (hag9.Z.trans h5.2.2.1) h5.2.2.2.2.1 (fun q => by omega) (fun _ => ⟨by omega, by omega⟩)
  have T95 : ∀ (x3 x4 : Int) (im1 lm1 : IM), ((rdk b n 1).2.1 = -1 → x3 = (rdk b n 1).2.2.2 nm) → ri x3 → RRd b n im lm nm 2 x4 im1 lm1 → Wp M (XR G) ad Y_X9_read (pI fun x m' => ∃ im' lm', ri x ∧ RI im' ∧ agZ im' im ∧ lgQ lm' lm ∧ (rdF b n = -1 → im' 30 0 28 = 0 ∧ (w = 0 → x = valT b n 0 nm) ∧ (w = 1 → x = valT b n 1 nm) ∧ (w ≠ 0 → w ≠ 1 → x = valT b n 2 nm)) ∧ (rdF b n ≠ -1 → im' 30 0 28 = 1 ∧ im' 30 0 29 = rdF b n) ∧ m' = (im', rs bt rt, lm')) 95 [some (vR 30 0), some (vI (t : Int)), some (vI w), some (vI x3), some (vI x4), none] [] (im1, rs bt rt, lm1) := by
    intro x3 x4 im1 lm1 hv3 hr3 h4
    have hb4 := h4.2.1.b01
    have hR4 := h4.2.1.2.1
    refine q_aload_n (t := 96) F dX9_read_95 rfl rfl rfl ?_
    refine g_X9_179 (t := 99) F dX9_read_96 rfl rfl ?_
    refine q_if_eq (t := 102) (u := 106) F dX9_read_99 (by exact hR4 _ _ _) (by decide) rfl (fun c99 => ?_) (fun c99 => ?_)
    · refine q_aload_n (t := 107) F dX9_read_106 rfl rfl rfl ?_
      refine q_aload_n (t := 108) F dX9_read_107 rfl rfl rfl ?_
      refine q_bipush (t := 110) F dX9_read_108 (by decide) rfl ?_
      refine q_bipush (t := 112) F dX9_read_110 (by decide) rfl ?_
      refine q_bipush (t := 114) F dX9_read_112 (by decide) rfl ?_
      refine q_bipush (t := 116) F dX9_read_114 (by decide) rfl ?_
      refine q_bipush (t := 118) F dX9_read_116 (by decide) rfl ?_
      refine q_bipush (t := 120) F dX9_read_118 (by decide) rfl ?_
      refine q_iconst (t := 121) F dX9_read_120 rfl ?_
      refine q_iconst (t := 122) F dX9_read_121 rfl ?_
      refine wp_callV (t := 125) [_, _, _, _, _, _, _, _] F dX9_read_122 k_X9_isWord_ v_X9_isWord_ ml_X9_199 rfl rfl rfl rfl (Nat.le_of_ble_eq_true rfl) (by decide) (m_30 (by omega)) (c_isKey _ G im1 bt rt lm1 b n hb (rdk b n 2).1 (rdk b n 2).2.1 h4.2.1 8 (by omega) (by omega) 6 (by omega) _ _ _ _ _ _ _ _ (by decide)) rfl (kI ?_)
      rintro x122 m' ⟨hx122, rfl⟩
      have hx122 := if01 hx122
      refine wp_callV (t := 128) [_] F dX9_read_125 k_X9_part v_X9_part ml_X9_343 rfl rfl rfl rfl (Nat.le_of_ble_eq_true rfl) (by decide) (m_30 (by omega)) (c_X9_part _ G bt rt b n hb hE (4 + ((2 : Nat) : Int)) (by omega) (by omega) im1 lm1 nm _ _ h4.2.1 h4.2.2.2.1 (hnm.agZ h4.2.2.1) _ (by omega)) rfl (kI ?_)
      rintro y125 m' ⟨im3, lm3, h3, rfl⟩
      refine q_istore (t := 130) F dX9_read_128 (by decide) rfl rfl ?_
      first
        | exact T130 x3 x4 0 im1 lm1 hv3 hr3 h4.2.2.2.2.2 h4.1 (RRd_b h4 (by omega))
        | exact T130 x3 x4 y125 im3 lm3 hv3 hr3 h4.2.2.2.2.2 h4.1 (RRd_s h4 h3)
    · refine q_iconst (t := 103) F dX9_read_102 rfl ?_
      refine q_goto (t := 128) F dX9_read_103 (by decide) ?_
      refine q_istore (t := 130) F dX9_read_128 (by decide) rfl rfl ?_
      first
        | exact T130 x3 x4 0 im1 lm1 hv3 hr3 h4.2.2.2.2.2 h4.1 (RRd_b h4 (by omega))
        | exact T130 x3 x4 y125 im3 lm3 hv3 hr3 h4.2.2.2.2.2 h4.1 (RRd_s h4 h3)
  have T61 : ∀ (x3 : Int) (im1 lm1 : IM), RRd b n im lm nm 1 x3 im1 lm1 → Wp M (XR G) ad Y_X9_read (pI fun x m' => ∃ im' lm', ri x ∧ RI im' ∧ agZ im' im ∧ lgQ lm' lm ∧ (rdF b n = -1 → im' 30 0 28 = 0 ∧ (w = 0 → x = valT b n 0 nm) ∧ (w = 1 → x = valT b n 1 nm) ∧ (w ≠ 0 → w ≠ 1 → x = valT b n 2 nm)) ∧ (rdF b n ≠ -1 → im' 30 0 28 = 1 ∧ im' 30 0 29 = rdF b n) ∧ m' = (im', rs bt rt, lm')) 61 [some (vR 30 0), some (vI (t : Int)), some (vI w), some (vI x3), none, none] [] (im1, rs bt rt, lm1) := by
    intro x3 im1 lm1 h2
    have hb2 := h2.2.1.b01
    have hR2 := h2.2.1.2.1
    refine q_aload_n (t := 62) F dX9_read_61 rfl rfl rfl ?_
    refine g_X9_179 (t := 65) F dX9_read_62 rfl rfl ?_
    refine q_if_eq (t := 68) (u := 72) F dX9_read_65 (by exact hR2 _ _ _) (by decide) rfl (fun c65 => ?_) (fun c65 => ?_)
    · refine q_aload_n (t := 73) F dX9_read_72 rfl rfl rfl ?_
      refine q_aload_n (t := 74) F dX9_read_73 rfl rfl rfl ?_
      refine q_bipush (t := 76) F dX9_read_74 (by decide) rfl ?_
      refine q_bipush (t := 78) F dX9_read_76 (by decide) rfl ?_
      refine q_bipush (t := 80) F dX9_read_78 (by decide) rfl ?_
      refine q_bipush (t := 82) F dX9_read_80 (by decide) rfl ?_
      refine q_bipush (t := 84) F dX9_read_82 (by decide) rfl ?_
      refine q_iconst (t := 85) F dX9_read_84 rfl ?_
      refine q_iconst (t := 86) F dX9_read_85 rfl ?_
      refine q_iconst (t := 87) F dX9_read_86 rfl ?_
      refine wp_callV (t := 90) [_, _, _, _, _, _, _, _] F dX9_read_87 k_X9_isWord_ v_X9_isWord_ ml_X9_199 rfl rfl rfl rfl (Nat.le_of_ble_eq_true rfl) (by decide) (m_30 (by omega)) (c_isKey _ G im1 bt rt lm1 b n hb (rdk b n 1).1 (rdk b n 1).2.1 h2.2.1 7 (by omega) (by omega) 5 (by omega) _ _ _ _ _ _ _ _ (by decide)) rfl (kI ?_)
      rintro x87 m' ⟨hx87, rfl⟩
      have hx87 := if01 hx87
      refine wp_callV (t := 93) [_] F dX9_read_90 k_X9_part v_X9_part ml_X9_343 rfl rfl rfl rfl (Nat.le_of_ble_eq_true rfl) (by decide) (m_30 (by omega)) (c_X9_part _ G bt rt b n hb hE (4 + ((1 : Nat) : Int)) (by omega) (by omega) im1 lm1 nm _ _ h2.2.1 h2.2.2.2.1 (hnm.agZ h2.2.2.1) _ (by omega)) rfl (kI ?_)
      rintro y90 m' ⟨im3, lm3, h3, rfl⟩
      refine q_istore (t := 95) F dX9_read_93 (by decide) rfl rfl ?_
      first
        | exact T95 x3 0 im1 lm1 h2.2.2.2.2.2 h2.1 (RRd_b h2 (by omega))
        | exact T95 x3 y90 im3 lm3 h2.2.2.2.2.2 h2.1 (RRd_s h2 h3)
    · refine q_iconst (t := 69) F dX9_read_68 rfl ?_
      refine q_goto (t := 93) F dX9_read_69 (by decide) ?_
      refine q_istore (t := 95) F dX9_read_93 (by decide) rfl rfl ?_
      first
        | exact T95 x3 0 im1 lm1 h2.2.2.2.2.2 h2.1 (RRd_b h2 (by omega))
        | exact T95 x3 y90 im3 lm3 h2.2.2.2.2.2 h2.1 (RRd_s h2 h3)
  refine q_aload_n (t := 1) F dX9_read_0 rfl rfl rfl ?_
  refine q_sipush (t := 4) F dX9_read_1 (by decide) rfl ?_
  refine q_iload_n (t := 5) F dX9_read_4 rfl rfl rfl ?_
  refine q_imul (t := 6) F dX9_read_5 rfl ?_
  rw [show (160 : Int) * (t : Int) = ((160 * t : Nat) : Int) by omega]
  refine p_X9_152 (t := 9) F dX9_read_6 rfl rfl ?_
  refine q_aload_n (t := 10) F dX9_read_9 rfl rfl rfl ?_
  refine q_aload_n (t := 11) F dX9_read_10 rfl rfl rfl ?_
  refine g_X9_17 (t := 14) F dX9_read_11 rfl rfl ?_
  refine q_iload_n (t := 15) F dX9_read_14 rfl rfl rfl ?_
  first | refine ldN_32 (t := 16) F dX9_read_15 (by omega) rfl ?_ | refine ld_32 (t := 16) F dX9_read_15 (by omega) (by omega) rfl ?_
  try simp only [up_app, row_app, scr_app, cpy_app, Nat.reduceEqDiff, Int.reduceToNat, Int.toNat_natCast, and_true, true_and, and_false, false_and, and_self, reduceIte]
  rw [h32]
  refine p_X9_149 (t := 19) F dX9_read_16 rfl rfl ?_
  refine q_aload_n (t := 20) F dX9_read_19 rfl rfl rfl ?_
  refine q_iconst (t := 21) F dX9_read_20 rfl ?_
  refine p_X9_155 (t := 24) F dX9_read_21 rfl rfl ?_
  refine q_aload_n (t := 25) F dX9_read_24 rfl rfl rfl ?_
  refine q_iconst (t := 26) F dX9_read_25 rfl ?_
  refine p_X9_190 (t := 29) F dX9_read_26 rfl rfl ?_
  refine q_aload_n (t := 30) F dX9_read_29 rfl rfl rfl ?_
  refine q_iconst (t := 31) F dX9_read_30 rfl ?_
  refine p_X9_179 (t := 34) F dX9_read_31 rfl (by omega) rfl ?_
  obtain ⟨fR, fB, f23, f27, f28, fag⟩ := rdI_f hR ht hn h31
  refine q_aload_n (t := 35) F dX9_read_34 rfl rfl rfl ?_
  refine wp_callV (t := 38) [] F dX9_read_35 k_X9_next v_X9_next ml_X9_196 rfl rfl rfl rfl (Nat.le_of_ble_eq_true rfl) (by decide) (m_30 (by omega)) (c_nextS _ G (rdI im t n) bt rt lm b n hb fR fB f23 f27 f28 nm im fag) rfl (kV ?_)
  rintro m' ⟨im2, lm2, h0, rfl⟩
  have hb0 := h0.2.1.b01
  refine q_aload_n (t := 39) F dX9_read_38 rfl rfl rfl ?_
  refine q_aload_n (t := 40) F dX9_read_39 rfl rfl rfl ?_
  refine q_bipush (t := 42) F dX9_read_40 (by decide) rfl ?_
  refine q_bipush (t := 44) F dX9_read_42 (by decide) rfl ?_
  refine q_bipush (t := 46) F dX9_read_44 (by decide) rfl ?_
  refine q_bipush (t := 48) F dX9_read_46 (by decide) rfl ?_
  refine q_bipush (t := 50) F dX9_read_48 (by decide) rfl ?_
  refine q_bipush (t := 52) F dX9_read_50 (by decide) rfl ?_
  refine q_iconst (t := 53) F dX9_read_52 rfl ?_
  refine q_iconst (t := 54) F dX9_read_53 rfl ?_
  refine wp_callV (t := 57) [_, _, _, _, _, _, _, _] F dX9_read_54 k_X9_isWord_ v_X9_isWord_ ml_X9_199 rfl rfl rfl rfl (Nat.le_of_ble_eq_true rfl) (by decide) (m_30 (by omega)) (c_isKey _ G im2 bt rt lm2 b n hb (rdk b n 0).1 (rdk b n 0).2.1 h0.2.1 6 (by omega) (by omega) 4 (by omega) _ _ _ _ _ _ _ _ (by decide)) rfl (kI ?_)
  rintro x54 m' ⟨hx54, rfl⟩
  have hx54 := if01 hx54
  refine wp_callV (t := 60) [_] F dX9_read_57 k_X9_part v_X9_part ml_X9_343 rfl rfl rfl rfl (Nat.le_of_ble_eq_true rfl) (by decide) (m_30 (by omega)) (c_X9_part _ G bt rt b n hb hE (4 + ((0 : Nat) : Int)) (by omega) (by omega) im2 lm2 nm _ _ h0.2.1 h0.2.2.2.1 (hnm.agZ h0.2.2.1) _ (by omega)) rfl (kI ?_)
  rintro y57 m' ⟨im3, lm3, h3, rfl⟩
  refine q_istore_n (t := 61) F dX9_read_60 rfl (by decide) rfl rfl ?_
  exact T61 y57 im3 lm3 (RRd_s h0 h3)
