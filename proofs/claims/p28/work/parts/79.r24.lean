/-! the reference: a word is said -/

def stR (im : IM) (p : Nat) : Nat → Int := fun g => im 36 0 (10 * p + g)
def gpR (im : IM) (p : Nat) (w fd : Int) : Int := takesK (im 34 0 p) (sayR im (im 30 0 4).toNat 0 (nmA w fd (im 30 0 7) (im 35 0 p) 0 (cntW (stR im p) 10)))
def utR (im : IM) (p : Nat) (w fd : Int) : Int := if 0 ≤ gpR im p w fd ∧ im 36 0 (10 * p + (gpR im p w fd).toNat) = -1 then gpR im p w fd else -1
theorem takesR_in {k v : Int} (h : 0 ≤ v ∧ v ≤ 99) : -1 ≤ takesK k v ∧ takesK k v ≤ 9 := by
  unfold takesK
  (repeat' split) <;> omega

set_option maxHeartbeats 4000000 in
theorem c_X9_stuckOf (l : Launch) (G : GS) (im : IM) (bt rt : Nat) (lm : IM) (hR : RI im) (p : Nat) (hp : p < 5) : Cn l (XR G) yX9_stuckOf Y_X9_stuckOf [vR 30 0, vI (p : Int)] (im, rs bt rt, lm) (pI fun x m' => x = cntW (stR im p) 10 ∧ m' = (im, rs bt rt, lm)) := by
  refine cn_of (by decide) (okR G) rfl (Nat.le_of_ble_eq_true rfl) ?_
  intro M ad hMl F
  subst hMl
  refine wp_pad 2 ?_
  show Wp M (XR G) ad Y_X9_stuckOf (pI fun x m' => x = cntW (stR im p) 10 ∧ m' = (im, rs bt rt, lm)) 0 [some (vR 30 0), some (vI (p : Int)), none, none] [] (im, rs bt rt, lm)
  refine q_iconst (t := 1) F dX9_stuckOf_0 rfl ?_
  refine q_istore_n (t := 2) F dX9_stuckOf_1 rfl (by decide) rfl rfl ?_
  refine q_iconst (t := 3) F dX9_stuckOf_2 rfl ?_
  refine q_istore_n (t := 4) F dX9_stuckOf_3 rfl (by decide) rfl rfl ?_
  have L4 : ∀ (fz : Nat) (i : Nat), 10 - i < fz → i ≤ 10 → Wp M (XR G) ad Y_X9_stuckOf (pI fun x m' => x = cntW (stR im p) 10 ∧ m' = (im, rs bt rt, lm)) 4 [some (vR 30 0), some (vI (p : Int)), some (vI (cntW (stR im p) i)), some (vI (i : Int))] [] (im, rs bt rt, lm) := by
    intro fz
    induction fz with
    | zero => intro i h; exact absurd h (Nat.not_lt_zero _)
    | succ fz ih =>
      have ih4 := ih
      intro i hmeas hi
      have hc := cntW_in (stR im p) i
      have hs : cntW (stR im p) (i + 1) = cntW (stR im p) i + (if im 36 0 (10 * p + i) = -1 then 0 else 1) := rfl
      refine q_iload_n (t := 5) F dX9_stuckOf_4 rfl rfl rfl ?_
      refine q_bipush (t := 7) F dX9_stuckOf_5 (by decide) rfl ?_
      refine q_icmp_ge (t := 10) (u := 39) F dX9_stuckOf_7 (by constructor <;> omega) (by constructor <;> omega) (by decide) rfl (fun c7 => ?_) (fun c7 => ?_)
      · refine q_iload_n (t := 40) F dX9_stuckOf_39 rfl rfl rfl ?_
        refine q_iret F dX9_stuckOf_40 rfl ?_
        obtain rfl : i = 10 := by omega
        exact ⟨_, rfl, rfl, rfl⟩
      · refine q_iload_n (t := 11) F dX9_stuckOf_10 rfl rfl rfl ?_
        refine q_aload_n (t := 12) F dX9_stuckOf_11 rfl rfl rfl ?_
        refine g_X9_32 (t := 15) F dX9_stuckOf_12 rfl rfl ?_
        refine q_bipush (t := 17) F dX9_stuckOf_15 (by decide) rfl ?_
        refine q_iload_n (t := 18) F dX9_stuckOf_17 rfl rfl rfl ?_
        refine q_imul (t := 19) F dX9_stuckOf_18 rfl ?_
        refine q_iload_n (t := 20) F dX9_stuckOf_19 rfl rfl rfl ?_
        refine q_iadd (t := 21) F dX9_stuckOf_20 rfl ?_
        rw [show (10 : Int) * (p : Int) + (i : Int) = ((10 * p + i : Nat) : Int) by omega]
        first | refine ldN_36 (t := 22) F dX9_stuckOf_21 (by omega) rfl ?_ | refine ld_36 (t := 22) F dX9_stuckOf_21 (by omega) (by omega) rfl ?_
        refine q_iconst (t := 23) F dX9_stuckOf_22 rfl ?_
        refine q_icmp_ne (t := 26) (u := 30) F dX9_stuckOf_23 (by exact hR _ _ _) (by constructor <;> omega) (by decide) rfl (fun c23 => ?_) (fun c23 => ?_)
        · refine q_iconst (t := 31) F dX9_stuckOf_30 rfl ?_
          refine q_iadd (t := 32) F dX9_stuckOf_31 rfl ?_
          refine q_istore_n (t := 33) F dX9_stuckOf_32 rfl (by decide) rfl rfl ?_
          refine q_iinc (t := 36) F dX9_stuckOf_33 rfl (by decide) rfl rfl ?_
          refine q_goto (t := 4) F dX9_stuckOf_36 (by decide) ?_
          rw [show (i : Int) + 1 = ((i + 1 : Nat) : Int) by omega]
          first
            | (rw [show cntW (stR im p) i + 0 = cntW (stR im p) (i + 1) by rw [hs, if_pos (by omega)]]
               exact ih4 (i + 1) (by omega) (by omega))
            | (rw [show cntW (stR im p) i + 1 = cntW (stR im p) (i + 1) by rw [hs, if_neg (by omega)]]
               exact ih4 (i + 1) (by omega) (by omega))
        · refine q_iconst (t := 27) F dX9_stuckOf_26 rfl ?_
          refine q_goto (t := 31) F dX9_stuckOf_27 (by decide) ?_
          refine q_iadd (t := 32) F dX9_stuckOf_31 rfl ?_
          refine q_istore_n (t := 33) F dX9_stuckOf_32 rfl (by decide) rfl rfl ?_
          refine q_iinc (t := 36) F dX9_stuckOf_33 rfl (by decide) rfl rfl ?_
          refine q_goto (t := 4) F dX9_stuckOf_36 (by decide) ?_
          rw [show (i : Int) + 1 = ((i + 1 : Nat) : Int) by omega]
          first
            | (rw [show cntW (stR im p) i + 0 = cntW (stR im p) (i + 1) by rw [hs, if_pos (by omega)]]
               exact ih4 (i + 1) (by omega) (by omega))
            | (rw [show cntW (stR im p) i + 1 = cntW (stR im p) (i + 1) by rw [hs, if_neg (by omega)]]
               exact ih4 (i + 1) (by omega) (by omega))
  exact L4 _ 0 (Nat.lt_succ_self _) (Nat.zero_le _)

set_option maxHeartbeats 4000000 in
theorem c_X9_wouldStick (l : Launch) (G : GS) (im : IM) (bt rt : Nat) (lm : IM) (h : RC im) (p : Nat) (hp : (p : Int) < im 30 0 12) (w fd : Int) (hw : ri w) (hfd : ri fd) : Cn l (XR G) yX9_wouldStick Y_X9_wouldStick [vR 30 0, vI (p : Int), vI w, vI fd] (im, rs bt rt, lm) (pI fun x m' => ∃ im' lm', x = utR im p w fd ∧ RI im' ∧ agY im' im ∧ lgQ lm' lm ∧ m' = (im', rs bt rt, lm')) := by
  refine cn_of (by decide) (okR G) rfl (Nat.le_of_ble_eq_true rfl) ?_
  intro M ad hMl F
  subst hMl
  obtain ⟨hR, hX, h4, h12, h7, h8, hP⟩ := id h
  have hp5 : p < 5 := by omega
  obtain ⟨hk, hn, hg⟩ := hP p (by omega)
  have hcn := cntW_in (stR im p) 10
  refine wp_pad 1 ?_
  show Wp M (XR G) ad Y_X9_wouldStick (pI fun x m' => ∃ im' lm', x = utR im p w fd ∧ RI im' ∧ agY im' im ∧ lgQ lm' lm ∧ m' = (im', rs bt rt, lm')) 0 [some (vR 30 0), some (vI (p : Int)), some (vI w), some (vI fd), none] [] (im, rs bt rt, lm)
  refine q_aload_n (t := 1) F dX9_wouldStick_0 rfl rfl rfl ?_
  refine q_iload_n (t := 2) F dX9_wouldStick_1 rfl rfl rfl ?_
  refine q_aload_n (t := 3) F dX9_wouldStick_2 rfl rfl rfl ?_
  refine q_iconst (t := 4) F dX9_wouldStick_3 rfl ?_
  refine q_iload_n (t := 5) F dX9_wouldStick_4 rfl rfl rfl ?_
  refine q_iload_n (t := 6) F dX9_wouldStick_5 rfl rfl rfl ?_
  refine q_iload_n (t := 7) F dX9_wouldStick_6 rfl rfl rfl ?_
  refine q_iconst (t := 8) F dX9_wouldStick_7 rfl ?_
  refine q_aload_n (t := 9) F dX9_wouldStick_8 rfl rfl rfl ?_
  refine q_iload_n (t := 10) F dX9_wouldStick_9 rfl rfl rfl ?_
  refine wp_callV (t := 13) [_] F dX9_wouldStick_10 k_X9_stuckOf v_X9_stuckOf ml_X9_131 rfl rfl rfl rfl (Nat.le_of_ble_eq_true rfl) (by decide) (m_30 (by omega)) (c_X9_stuckOf _ G im bt rt lm hR p hp5) rfl (kI ?_)
  rintro x10 m' ⟨rfl, rfl⟩
  refine wp_callV (t := 16) [_, _, _, _, _, _] F dX9_wouldStick_13 k_X9_asks v_X9_asks ml_X9_354 rfl rfl rfl rfl (Nat.le_of_ble_eq_true rfl) (by decide) (m_30 (by omega)) (c_asksC _ G im bt rt lm h 0 p (by omega) hp5 w fd 0 _ hw hfd (by constructor <;> omega) (by constructor <;> omega)) rfl (kI ?_)
  rintro v m' ⟨im2, lm2, hv, hR2, hag, hlg, rfl⟩
  have hv1 := sayR_in im (im 30 0 4).toNat 0 (nmA w fd (im 30 0 7) (im 35 0 p) 0 (cntW (stR im p) 10))
  rw [← hv] at hv1
  refine wp_callV (t := 19) [_, _] F dX9_wouldStick_16 k_X9_takesOf v_X9_takesOf ml_X9_358 rfl rfl rfl rfl (Nat.le_of_ble_eq_true rfl) (by decide) (m_30 (by omega)) (c_X9_takesOf _ G im2 bt rt lm2 hR2 p hp5 (by rw [hag 34 0 p (by omega)]; exact hk) v hv1) rfl (kI ?_)
  rintro g m' ⟨hgg, rfl⟩
  have hg1 := takesR_in (k := im2 34 0 p) hv1
  rw [← hgg] at hg1
  have hge : g = gpR im p w fd := by rw [hgg, hag 34 0 p (by omega), hv]; rfl
  refine q_istore (t := 21) F dX9_wouldStick_19 (by decide) rfl rfl ?_
  refine q_iload (t := 23) F dX9_wouldStick_21 rfl rfl ?_
  refine q_iconst (t := 24) F dX9_wouldStick_23 rfl ?_
  refine q_icmp_eq (t := 27) (u := 43) F dX9_wouldStick_24 (by constructor <;> omega) (by constructor <;> omega) (by decide) rfl (fun c24 => ?_) (fun c24 => ?_)
  · refine q_iconst (t := 44) F dX9_wouldStick_43 rfl ?_
    refine q_goto (t := 49) F dX9_wouldStick_44 (by decide) ?_
    refine q_iret F dX9_wouldStick_49 rfl ?_
    refine ⟨_, rfl, im2, lm2, ?_, hR2, hag, hlg, rfl⟩
    unfold utR
    rw [← hge]
    refine Eq.symm ?_
    first
      | exact if_pos (by omega)
      | exact if_neg (by omega)
  · refine q_aload_n (t := 28) F dX9_wouldStick_27 rfl rfl rfl ?_
    refine g_X9_32 (t := 31) F dX9_wouldStick_28 rfl rfl ?_
    refine q_bipush (t := 33) F dX9_wouldStick_31 (by decide) rfl ?_
    refine q_iload_n (t := 34) F dX9_wouldStick_33 rfl rfl rfl ?_
    refine q_imul (t := 35) F dX9_wouldStick_34 rfl ?_
    refine q_iload (t := 37) F dX9_wouldStick_35 rfl rfl ?_
    refine q_iadd (t := 38) F dX9_wouldStick_37 rfl ?_
    rw [show (10 : Int) * (p : Int) + g = ((10 * p + g.toNat : Nat) : Int) by omega]
    first | refine ldN_36 (t := 39) F dX9_wouldStick_38 (by omega) rfl ?_ | refine ld_36 (t := 39) F dX9_wouldStick_38 (by omega) (by omega) rfl ?_
    try simp only [up_app, row_app, scr_app, cpy_app, Nat.reduceEqDiff, Int.reduceToNat, Int.toNat_natCast, and_true, true_and, and_false, false_and, and_self, reduceIte]
    rw [hag 36 0 _ (by omega)]
    refine q_iconst (t := 40) F dX9_wouldStick_39 rfl ?_
    refine q_icmp_eq (t := 43) (u := 47) F dX9_wouldStick_40 (by exact hR _ _ _) (by constructor <;> omega) (by decide) rfl (fun c40 => ?_) (fun c40 => ?_)
    · refine q_iload (t := 49) F dX9_wouldStick_47 rfl rfl ?_
      refine q_iret F dX9_wouldStick_49 rfl ?_
      refine ⟨_, rfl, im2, lm2, ?_, hR2, hag, hlg, rfl⟩
      unfold utR
      rw [← hge]
      refine Eq.symm ?_
      first
        | exact if_pos (by omega)
        | exact if_neg (by omega)
    · refine q_iconst (t := 44) F dX9_wouldStick_43 rfl ?_
      refine q_goto (t := 49) F dX9_wouldStick_44 (by decide) ?_
      refine q_iret F dX9_wouldStick_49 rfl ?_
      refine ⟨_, rfl, im2, lm2, ?_, hR2, hag, hlg, rfl⟩
      unfold utR
      rw [← hge]
      refine Eq.symm ?_
      first
        | exact if_pos (by omega)
        | exact if_neg (by omega)
