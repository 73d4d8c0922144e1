/-! THE REFERENCE: what holds of it -/
def rowR (im : IM) (t : Nat) : Nat → Int := fun i => im 31 0 (160 * t + i)
/-- what its text says -/
def sayR (im : IM) (t part : Nat) (nm : Nat → Int) : Int := clip (valT (rowR im t) (im 32 0 t).toNat part nm)
def RP (im : IM) (p : Nat) : Prop := (0 ≤ im 34 0 p ∧ im 34 0 p < 6) ∧ (0 ≤ im 35 0 p ∧ im 35 0 p < 10) ∧ ∀ g, g < 10 → -1 ≤ im 36 0 (10 * p + g) ∧ im 36 0 (10 * p + g) < 16 ∧ (im 36 0 (10 * p + g) ≠ -1 → 0 ≤ im 37 0 (10 * p + g) ∧ im 37 0 (10 * p + g) ≤ 1100)
def RX (im : IM) : Prop := (∀ i, i < 160 → 0 ≤ im 33 0 i ∧ im 33 0 i ≤ 255) ∧ (∀ i, i < 960 → 0 ≤ im 31 0 i ∧ im 31 0 i ≤ 255) ∧ (0 ≤ im 30 0 6 ∧ im 30 0 6 ≤ 160) ∧ (0 ≤ im 30 0 3 ∧ im 30 0 3 ≤ 6) ∧ ∀ t : Nat, (t : Int) < im 30 0 3 → 0 ≤ im 32 0 t ∧ im 32 0 t ≤ 160 ∧ rdF (rowR im t) (im 32 0 t).toNat = -1
def RC (im : IM) : Prop := RI im ∧ RX im ∧ (0 ≤ im 30 0 4 ∧ im 30 0 4 < im 30 0 3) ∧ (0 ≤ im 30 0 12 ∧ im 30 0 12 ≤ 5) ∧ (0 ≤ im 30 0 7 ∧ im 30 0 7 ≤ 1100) ∧ (0 ≤ im 30 0 8 ∧ im 30 0 8 < 16777216) ∧ ∀ p : Nat, (p : Int) < im 30 0 12 → RP im p
theorem RX.row {im : IM} (h : RX im) {t : Nat} (ht : (t : Int) < im 30 0 3) : ROW (rowR im t) (im 32 0 t).toNat t im := by
  obtain ⟨-, h31, -, h3, hT⟩ := h
  have e := hT t ht
  exact ⟨⟨by omega, fun i hi => h31 (160 * t + i) (by omega)⟩, by omega, by omega, fun i hi => rfl⟩
theorem RX.ag {im im' : IM} (h : RX im) (ha : agY im' im) : RX im' := by
  obtain ⟨h1, h2, h3, h4, h5⟩ := h
  have e3 : im' 30 0 3 = im 30 0 3 := ha 30 0 3 (by omega)
  have e6 : im' 30 0 6 = im 30 0 6 := ha 30 0 6 (by omega)
  refine ⟨fun i hi => by rw [ha 33 0 i (by omega)]; exact h1 i hi, fun i hi => by rw [ha 31 0 i (by omega)]; exact h2 i hi, by rw [e6]; exact h3, by rw [e3]; exact h4, fun t ht => ?_⟩
  rw [e3] at ht
  have e31 : rowR im' t = rowR im t := funext fun i => ha 31 0 _ (by omega)
  rw [ha 32 0 t (by omega), e31]
  exact h5 t ht
theorem RC.ag {im im' : IM} (h : RC im) (hR : RI im') (ha : agY im' im) : RC im' := by
  obtain ⟨-, hX, h4, h12, h7, h8, hP⟩ := h
  have e : ∀ s, (s < 15 ∨ 29 < s) → im' 30 0 s = im 30 0 s := fun s hs => ha 30 0 s (by omega)
  refine ⟨hR, hX.ag ha, by rw [e 4 (by omega), e 3 (by omega)]; exact h4, by rw [e 12 (by omega)]; exact h12, by rw [e 7 (by omega)]; exact h7, by rw [e 8 (by omega)]; exact h8, fun p hp => ?_⟩
  rw [e 12 (by omega)] at hp
  have := hP p hp
  unfold RP at this ⊢
  rw [ha 34 0 p (by omega), ha 35 0 p (by omega)]
  refine ⟨this.1, this.2.1, fun g hg => ?_⟩
  rw [ha 36 0 _ (by omega), ha 37 0 _ (by omega)]
  exact this.2.2 g hg
theorem sayR_ag {im im' : IM} (ha : agY im' im) (t part : Nat) (nm : Nat → Int) : sayR im' t part nm = sayR im t part nm := by
  unfold sayR
  have e31 : rowR im' t = rowR im t := funext fun i => ha 31 0 _ (by omega)
  rw [ha 32 0 t (by omega), e31]
theorem sayR_in (im : IM) (t part : Nat) (nm : Nat → Int) : 0 ≤ sayR im t part nm ∧ sayR im t part nm ≤ 99 := clip_in _
theorem c_asksC (l : Launch) (G : GS) (im : IM) (bt rt : Nat) (lm : IM) (h : RC im) (wh p : Nat) (hwh : wh < 3) (hp : p < 5) (w fd gp st : Int) (hw : ri w) (hfd : ri fd) (hgp : ri gp) (hst : ri st) : Cn l (XR G) yX9_asks Y_X9_asks [vR 30 0, vI (wh : Int), vI (p : Int), vI w, vI fd, vI gp, vI st] (im, rs bt rt, lm) (pI fun x m' => ∃ im' lm', x = sayR im (im 30 0 4).toNat wh (nmA w fd (im 30 0 7) (im 35 0 p) gp st) ∧ RI im' ∧ agY im' im ∧ lgQ lm' lm ∧ m' = (im', rs bt rt, lm')) := by
  have h4 := h.2.2.1
  have h3 := h.2.1.2.2.2.1
  have hF := (h.2.1.2.2.2.2 (im 30 0 4).toNat (by omega)).2.2
  exact c_X9_asks l G bt rt _ _ im lm h.1 (im 30 0 4).toNat (h.2.1.row (by omega)) (by omega) hF wh p hwh hp w fd gp st hw hfd hgp hst

set_option maxHeartbeats 4000000 in
theorem c_X9_takesOf (l : Launch) (G : GS) (im : IM) (bt rt : Nat) (lm : IM) (hR : RI im) (p : Nat) (hp : p < 5) (hk : 0 ≤ im 34 0 p ∧ im 34 0 p < 6) (v : Int) (hv : 0 ≤ v ∧ v ≤ 99) : Cn l (XR G) yX9_takesOf Y_X9_takesOf [vR 30 0, vI (p : Int), vI v] (im, rs bt rt, lm) (pI fun x m' => x = takesK (im 34 0 p) v ∧ m' = (im, rs bt rt, lm)) := by
  refine cn_of (by decide) (okR G) rfl (Nat.le_of_ble_eq_true rfl) ?_
  intro M ad hMl F
  subst hMl
  refine wp_pad 1 ?_
  show Wp M (XR G) ad Y_X9_takesOf (pI fun x m' => x = takesK (im 34 0 p) v ∧ m' = (im, rs bt rt, lm)) 0 [some (vR 30 0), some (vI (p : Int)), some (vI v), none] [] (im, rs bt rt, lm)
  refine q_aload_n (t := 1) F dX9_takesOf_0 rfl rfl rfl ?_
  refine g_X9_26 (t := 4) F dX9_takesOf_1 rfl rfl ?_
  refine q_iload_n (t := 5) F dX9_takesOf_4 rfl rfl rfl ?_
  first | refine ldN_34 (t := 6) F dX9_takesOf_5 (by omega) rfl ?_ | refine ld_34 (t := 6) F dX9_takesOf_5 (by omega) (by omega) rfl ?_
  refine q_istore_n (t := 7) F dX9_takesOf_6 rfl (by decide) rfl rfl ?_
  refine q_iload_n (t := 8) F dX9_takesOf_7 rfl rfl rfl ?_
  refine q_iconst (t := 9) F dX9_takesOf_8 rfl ?_
  refine q_icmp_ne (t := 12) (u := 21) F dX9_takesOf_9 (by first | exact hR _ _ _ | (constructor <;> omega)) (by first | exact hR _ _ _ | (constructor <;> omega)) (by decide) rfl (fun c9 => ?_) (fun c9 => ?_)
  · refine q_iload_n (t := 22) F dX9_takesOf_21 rfl rfl rfl ?_
    refine q_iconst (t := 23) F dX9_takesOf_22 rfl ?_
    refine q_icmp_eq (t := 26) (u := 31) F dX9_takesOf_23 (by first | exact hR _ _ _ | (constructor <;> omega)) (by first | exact hR _ _ _ | (constructor <;> omega)) (by decide) rfl (fun c23 => ?_) (fun c23 => ?_)
    · refine q_iload_n (t := 32) F dX9_takesOf_31 rfl rfl rfl ?_
      refine q_bipush (t := 34) F dX9_takesOf_32 (by decide) rfl ?_
      refine q_irem (t := 35) F dX9_takesOf_34 (by first | exact hR _ _ _ | (constructor <;> omega)) (by first | exact hR _ _ _ | (constructor <;> omega)) (by omega) (by omega) rfl ?_
      refine q_iconst (t := 36) F dX9_takesOf_35 rfl ?_
      refine q_idiv (t := 37) F dX9_takesOf_36 (by first | exact hR _ _ _ | (constructor <;> omega)) (by first | exact hR _ _ _ | (constructor <;> omega)) (by omega) (by omega) rfl ?_
      refine q_goto (t := 71) F dX9_takesOf_37 (by decide) ?_
      refine q_iret F dX9_takesOf_71 rfl ?_
      refine ⟨_, rfl, ?_, rfl⟩
      unfold takesK
      (repeat' split) <;> first | rfl | omega
    · refine q_iload_n (t := 27) F dX9_takesOf_26 rfl rfl rfl ?_
      refine q_iconst (t := 28) F dX9_takesOf_27 rfl ?_
      refine q_icmp_ne (t := 31) (u := 40) F dX9_takesOf_28 (by first | exact hR _ _ _ | (constructor <;> omega)) (by first | exact hR _ _ _ | (constructor <;> omega)) (by decide) rfl (fun c28 => ?_) (fun c28 => ?_)
      · refine q_iload_n (t := 41) F dX9_takesOf_40 rfl rfl rfl ?_
        refine q_iconst (t := 42) F dX9_takesOf_41 rfl ?_
        refine q_icmp_ne (t := 45) (u := 55) F dX9_takesOf_42 (by first | exact hR _ _ _ | (constructor <;> omega)) (by first | exact hR _ _ _ | (constructor <;> omega)) (by decide) rfl (fun c42 => ?_) (fun c42 => ?_)
        · refine q_iload_n (t := 56) F dX9_takesOf_55 rfl rfl rfl ?_
          refine q_iconst (t := 57) F dX9_takesOf_56 rfl ?_
          refine q_icmp_ne (t := 60) (u := 67) F dX9_takesOf_57 (by first | exact hR _ _ _ | (constructor <;> omega)) (by first | exact hR _ _ _ | (constructor <;> omega)) (by decide) rfl (fun c57 => ?_) (fun c57 => ?_)
          · refine q_iload_n (t := 68) F dX9_takesOf_67 rfl rfl rfl ?_
            refine q_bipush (t := 70) F dX9_takesOf_68 (by decide) rfl ?_
            refine q_irem (t := 71) F dX9_takesOf_70 (by first | exact hR _ _ _ | (constructor <;> omega)) (by first | exact hR _ _ _ | (constructor <;> omega)) (by omega) (by omega) rfl ?_
            refine q_iret F dX9_takesOf_71 rfl ?_
            refine ⟨_, rfl, ?_, rfl⟩
            unfold takesK
            (repeat' split) <;> first | rfl | omega
          · refine q_iload_n (t := 61) F dX9_takesOf_60 rfl rfl rfl ?_
            refine q_bipush (t := 63) F dX9_takesOf_61 (by decide) rfl ?_
            refine q_idiv (t := 64) F dX9_takesOf_63 (by first | exact hR _ _ _ | (constructor <;> omega)) (by first | exact hR _ _ _ | (constructor <;> omega)) (by omega) (by omega) rfl ?_
            refine q_goto (t := 71) F dX9_takesOf_64 (by decide) ?_
            refine q_iret F dX9_takesOf_71 rfl ?_
            refine ⟨_, rfl, ?_, rfl⟩
            unfold takesK
            (repeat' split) <;> first | rfl | omega
        · refine q_bipush (t := 47) F dX9_takesOf_45 (by decide) rfl ?_
          refine q_iload_n (t := 48) F dX9_takesOf_47 rfl rfl rfl ?_
          refine q_bipush (t := 50) F dX9_takesOf_48 (by decide) rfl ?_
          refine q_irem (t := 51) F dX9_takesOf_50 (by first | exact hR _ _ _ | (constructor <;> omega)) (by first | exact hR _ _ _ | (constructor <;> omega)) (by omega) (by omega) rfl ?_
          refine q_isub (t := 52) F dX9_takesOf_51 rfl ?_
          refine q_goto (t := 71) F dX9_takesOf_52 (by decide) ?_
          refine q_iret F dX9_takesOf_71 rfl ?_
          refine ⟨_, rfl, ?_, rfl⟩
          unfold takesK
          (repeat' split) <;> first | rfl | omega
      · refine q_iload_n (t := 32) F dX9_takesOf_31 rfl rfl rfl ?_
        refine q_bipush (t := 34) F dX9_takesOf_32 (by decide) rfl ?_
        refine q_irem (t := 35) F dX9_takesOf_34 (by first | exact hR _ _ _ | (constructor <;> omega)) (by first | exact hR _ _ _ | (constructor <;> omega)) (by omega) (by omega) rfl ?_
        refine q_iconst (t := 36) F dX9_takesOf_35 rfl ?_
        refine q_idiv (t := 37) F dX9_takesOf_36 (by first | exact hR _ _ _ | (constructor <;> omega)) (by first | exact hR _ _ _ | (constructor <;> omega)) (by omega) (by omega) rfl ?_
        refine q_goto (t := 71) F dX9_takesOf_37 (by decide) ?_
        refine q_iret F dX9_takesOf_71 rfl ?_
        refine ⟨_, rfl, ?_, rfl⟩
        unfold takesK
        (repeat' split) <;> first | rfl | omega
  · refine q_iload_n (t := 13) F dX9_takesOf_12 rfl rfl rfl ?_
    refine q_iconst (t := 14) F dX9_takesOf_13 rfl ?_
    refine q_irem (t := 15) F dX9_takesOf_14 (by first | exact hR _ _ _ | (constructor <;> omega)) (by first | exact hR _ _ _ | (constructor <;> omega)) (by omega) (by omega) rfl ?_
    refine q_iconst (t := 16) F dX9_takesOf_15 rfl ?_
    refine q_icmp_ne (t := 19) (u := 21) F dX9_takesOf_16 (by first | exact hR _ _ _ | (constructor <;> omega)) (by first | exact hR _ _ _ | (constructor <;> omega)) (by decide) rfl (fun c16 => ?_) (fun c16 => ?_)
    · refine q_iload_n (t := 22) F dX9_takesOf_21 rfl rfl rfl ?_
      refine q_iconst (t := 23) F dX9_takesOf_22 rfl ?_
      refine q_icmp_eq (t := 26) (u := 31) F dX9_takesOf_23 (by first | exact hR _ _ _ | (constructor <;> omega)) (by first | exact hR _ _ _ | (constructor <;> omega)) (by decide) rfl (fun c23 => ?_) (fun c23 => ?_)
      · refine q_iload_n (t := 32) F dX9_takesOf_31 rfl rfl rfl ?_
        refine q_bipush (t := 34) F dX9_takesOf_32 (by decide) rfl ?_
        refine q_irem (t := 35) F dX9_takesOf_34 (by first | exact hR _ _ _ | (constructor <;> omega)) (by first | exact hR _ _ _ | (constructor <;> omega)) (by omega) (by omega) rfl ?_
        refine q_iconst (t := 36) F dX9_takesOf_35 rfl ?_
        refine q_idiv (t := 37) F dX9_takesOf_36 (by first | exact hR _ _ _ | (constructor <;> omega)) (by first | exact hR _ _ _ | (constructor <;> omega)) (by omega) (by omega) rfl ?_
        refine q_goto (t := 71) F dX9_takesOf_37 (by decide) ?_
        refine q_iret F dX9_takesOf_71 rfl ?_
        refine ⟨_, rfl, ?_, rfl⟩
        unfold takesK
        (repeat' split) <;> first | rfl | omega
      · refine q_iload_n (t := 27) F dX9_takesOf_26 rfl rfl rfl ?_
        refine q_iconst (t := 28) F dX9_takesOf_27 rfl ?_
        refine q_icmp_ne (t := 31) (u := 40) F dX9_takesOf_28 (by first | exact hR _ _ _ | (constructor <;> omega)) (by first | exact hR _ _ _ | (constructor <;> omega)) (by decide) rfl (fun c28 => ?_) (fun c28 => ?_)
        · refine q_iload_n (t := 41) F dX9_takesOf_40 rfl rfl rfl ?_
          refine q_iconst (t := 42) F dX9_takesOf_41 rfl ?_
          refine q_icmp_ne (t := 45) (u := 55) F dX9_takesOf_42 (by first | exact hR _ _ _ | (constructor <;> omega)) (by first | exact hR _ _ _ | (constructor <;> omega)) (by decide) rfl (fun c42 => ?_) (fun c42 => ?_)
          · refine q_iload_n (t := 56) F dX9_takesOf_55 rfl rfl rfl ?_
            refine q_iconst (t := 57) F dX9_takesOf_56 rfl ?_
            refine q_icmp_ne (t := 60) (u := 67) F dX9_takesOf_57 (by first | exact hR _ _ _ | (constructor <;> omega)) (by first | exact hR _ _ _ | (constructor <;> omega)) (by decide) rfl (fun c57 => ?_) (fun c57 => ?_)
            · refine q_iload_n (t := 68) F dX9_takesOf_67 rfl rfl rfl ?_
              refine q_bipush (t := 70) F dX9_takesOf_68 (by decide) rfl ?_
              refine q_irem (t := 71) F dX9_takesOf_70 (by first | exact hR _ _ _ | (constructor <;> omega)) (by first | exact hR _ _ _ | (constructor <;> omega)) (by omega) (by omega) rfl ?_
              refine q_iret F dX9_takesOf_71 rfl ?_
              refine ⟨_, rfl, ?_, rfl⟩
              unfold takesK
              (repeat' split) <;> first | rfl | omega
            · refine q_iload_n (t := 61) F dX9_takesOf_60 rfl rfl rfl ?_
              refine q_bipush (t := 63) F dX9_takesOf_61 (by decide) rfl ?_
              refine q_idiv (t := 64) F dX9_takesOf_63 (by first | exact hR _ _ _ | (constructor <;> omega)) (by first | exact hR _ _ _ | (constructor <;> omega)) (by omega) (by omega) rfl ?_
              refine q_goto (t := 71) F dX9_takesOf_64 (by decide) ?_
              refine q_iret F dX9_takesOf_71 rfl ?_
              refine ⟨_, rfl, ?_, rfl⟩
              unfold takesK
              (repeat' split) <;> first | rfl | omega
          · refine q_bipush (t := 47) F dX9_takesOf_45 (by decide) rfl ?_
            refine q_iload_n (t := 48) F dX9_takesOf_47 rfl rfl rfl ?_
            refine q_bipush (t := 50) F dX9_takesOf_48 (by decide) rfl ?_
            refine q_irem (t := 51) F dX9_takesOf_50 (by first | exact hR _ _ _ | (constructor <;> omega)) (by first | exact hR _ _ _ | (constructor <;> omega)) (by omega) (by omega) rfl ?_
            refine q_isub (t := 52) F dX9_takesOf_51 rfl ?_
            refine q_goto (t := 71) F dX9_takesOf_52 (by decide) ?_
            refine q_iret F dX9_takesOf_71 rfl ?_
            refine ⟨_, rfl, ?_, rfl⟩
            unfold takesK
            (repeat' split) <;> first | rfl | omega
        · refine q_iload_n (t := 32) F dX9_takesOf_31 rfl rfl rfl ?_
          refine q_bipush (t := 34) F dX9_takesOf_32 (by decide) rfl ?_
          refine q_irem (t := 35) F dX9_takesOf_34 (by first | exact hR _ _ _ | (constructor <;> omega)) (by first | exact hR _ _ _ | (constructor <;> omega)) (by omega) (by omega) rfl ?_
          refine q_iconst (t := 36) F dX9_takesOf_35 rfl ?_
          refine q_idiv (t := 37) F dX9_takesOf_36 (by first | exact hR _ _ _ | (constructor <;> omega)) (by first | exact hR _ _ _ | (constructor <;> omega)) (by omega) (by omega) rfl ?_
          refine q_goto (t := 71) F dX9_takesOf_37 (by decide) ?_
          refine q_iret F dX9_takesOf_71 rfl ?_
          refine ⟨_, rfl, ?_, rfl⟩
          unfold takesK
          (repeat' split) <;> first | rfl | omega
    · refine q_iconst (t := 20) F dX9_takesOf_19 rfl ?_
      refine q_iret F dX9_takesOf_20 rfl ?_
      refine ⟨_, rfl, ?_, rfl⟩
      unfold takesK
      (repeat' split) <;> first | rfl | omega
