/-! the reference: foods that are drawn -/

theorem agC.trans {a b c : IM} (h : agC a b) (h2 : agC b c) : agC a c := by
  obtain ⟨x, x3, x4, x6, x8, x12⟩ := h
  obtain ⟨y, y3, y4, y6, y8, y12⟩ := h2
  exact ⟨fun k s u v => (x k s u v).trans (y k s u v), x3.trans y3, x4.trans y4, x6.trans y6, x8.trans y8, x12.trans y12⟩
theorem agC.symm {a b : IM} (h : agC a b) : agC b a := by
  obtain ⟨x, x3, x4, x6, x8, x12⟩ := h
  exact ⟨fun k s u v => (x k s u v).symm, x3.symm, x4.symm, x6.symm, x8.symm, x12.symm⟩
theorem utR_C {a b : IM} (h : agC a b) (h7 : a 30 0 7 = b 30 0 7) (p : Nat) (w fd : Int) : utR a p w fd = utR b p w fd := by
  have hT := TR_C h
  obtain ⟨c, e3, e4, e6, e8, e12⟩ := h
  have es : stR a p = stR b p := funext fun g => c 36 _ (by omega) (by omega)
  have eg : gpR a p w fd = gpR b p w fd := by
    show takesK (a 34 0 p) (TR a 0 _) = takesK (b 34 0 p) (TR b 0 _)
    rw [es, hT, c 34 _ (by omega) (by omega), c 35 _ (by omega) (by omega), h7]
  unfold utR
  rw [eg, c 36 _ (by omega) (by omega)]
theorem agC_up {a b : IM} (h : agC a b) (k s : Nat) (x : Int) : agC (up a k 0 s x) (up b k 0 s x) := by
  obtain ⟨c, e3, e4, e6, e8, e12⟩ := h
  have hh : ∀ k' s', a k' 0 s' = b k' 0 s' → up a k 0 s x k' 0 s' = up b k 0 s x k' 0 s' := fun k' s' e => by
    rw [up_app, up_app, e]
  exact ⟨fun k' s' u v => hh k' s' (c k' s' u v), hh _ _ e3, hh _ _ e4, hh _ _ e6, hh _ _ e8, hh _ _ e12⟩
def eaI (im : IM) (p : Nat) (seed : Int) : Nat → IM
  | 0 => asideI im
  | i + 1 => spR (eaI im p seed i) (eaI im p seed i) p i (dwF seed i)
def eaN (im : IM) (p : Nat) (seed : Int) : Nat → Int
  | 0 => 0
  | i + 1 => if utR (eaI im p seed i) p i (dwF seed i) = -1 then eaN im p seed i else eaN im p seed i + 1
def hiR (im : IM) (p : Nat) (seed : Int) : Nat → Int
  | 0 => 0
  | i + 1 => if 5 ≤ eaN im p (bm (seed + i)) 16 then hiR im p seed i + 1 else hiR im p seed i
theorem eaN_s (im : IM) (p : Nat) (seed : Int) (i : Nat) : eaN im p seed (i + 1) = if utR (eaI im p seed i) p i (dwF seed i) = -1 then eaN im p seed i else eaN im p seed i + 1 := rfl
theorem hiR_s (im : IM) (p : Nat) (seed : Int) (i : Nat) : hiR im p seed (i + 1) = if 5 ≤ eaN im p (bm (seed + i)) 16 then hiR im p seed i + 1 else hiR im p seed i := rfl
theorem eaN_in (im : IM) (p : Nat) (seed : Int) (i : Nat) : 0 ≤ eaN im p seed i ∧ eaN im p seed i ≤ i := by
  induction i with
  | zero => exact ⟨Int.le_refl 0, Int.le_refl 0⟩
  | succ i ih =>
    rw [eaN_s]
    split <;> omega
theorem hiR_in (im : IM) (p : Nat) (seed : Int) (i : Nat) : 0 ≤ hiR im p seed i ∧ hiR im p seed i ≤ i := by
  induction i with
  | zero => exact ⟨Int.le_refl 0, Int.le_refl 0⟩
  | succ i ih =>
    rw [hiR_s]
    split <;> omega
theorem spR_C {a b : IM} (h : agC a b) (h7 : a 30 0 7 = b 30 0 7) (p : Nat) (w fd : Int) : agC (spR a a p w fd) (spR b b p w fd) ∧ spR a a p w fd 30 0 7 = spR b b p w fd 30 0 7 := by
  unfold spR
  rw [utR_C h h7]
  split
  · exact ⟨h, h7⟩
  · exact ⟨agC_up (agC_up h _ _ _) _ _ _, h7⟩
theorem eaI_C {a b : IM} (h : agC a b) (h7 : a 30 0 7 = b 30 0 7) (p : Nat) (seed : Int) (i : Nat) : (agC (eaI a p seed i) (eaI b p seed i) ∧ eaI a p seed i 30 0 7 = eaI b p seed i 30 0 7) ∧ eaN a p seed i = eaN b p seed i := by
  induction i with
  | zero => exact ⟨⟨((asideI_C a).trans h).trans (asideI_C b).symm, h7⟩, rfl⟩
  | succ i ih =>
    refine ⟨spR_C ih.1.1 ih.1.2 p i (dwF seed i), ?_⟩
    rw [eaN_s, eaN_s, ih.2, utR_C ih.1.1 ih.1.2]
theorem spR_ag2 {S im2 F : IM} (hS : agY S F) (h2 : agY im2 F) (p : Nat) (w fd : Int) : agY (spR S im2 p w fd) (spR F F p w fd) := by
  unfold spR
  rw [utR_ag hS]
  split
  · exact h2
  · exact (h2.up rfl).up rfl

set_option maxHeartbeats 4000000 in
theorem c_X9_eats (l : Launch) (G : GS) (im : IM) (bt rt : Nat) (lm : IM) (h : RC im) (p n : Nat) (hp : (p : Int) < im 30 0 12) (hn : n ≤ 16) (seed : Int) (hseed : ri seed) : Cn l (XR G) yX9_eats Y_X9_eats [vR 30 0, vI (p : Int), vI seed, vI (n : Int)] (im, rs bt rt, lm) (pI fun x m' => ∃ im' lm', x = eaN im p seed n ∧ RI im' ∧ agS im' im ∧ lgQ lm' lm ∧ m' = (im', rs bt rt, lm')) := by
  refine cn_of (by decide) (okR G) rfl (Nat.le_of_ble_eq_true rfl) ?_
  intro M ad hMl F
  subst hMl
  have hR := h.1
  have h12 := h.2.2.2.1
  have hRa := asideI_RI h.1
  have hRCa : RC (asideI im) := h.C hRa (asideI_C im) h.2.2.2.2.1
  refine wp_pad 3 ?_
  show Wp M (XR G) ad Y_X9_eats (pI fun x m' => ∃ im' lm', x = eaN im p seed n ∧ RI im' ∧ agS im' im ∧ lgQ lm' lm ∧ m' = (im', rs bt rt, lm')) 0 [some (vR 30 0), some (vI (p : Int)), some (vI seed), some (vI (n : Int)), none, none, none] [] (im, rs bt rt, lm)
  refine q_aload_n (t := 1) F dX9_eats_0 rfl rfl rfl ?_
  refine wp_callV (t := 4) [] F dX9_eats_1 k_X9_laysAside v_X9_laysAside ml_X9_404 rfl rfl rfl rfl (Nat.le_of_ble_eq_true rfl) (by decide) (m_30 (by omega)) (g_X9_laysAside _ G im bt rt lm hR) rfl (kV ?_)
  rintro m' rfl
  refine q_iload_n (t := 5) F dX9_eats_4 rfl rfl rfl ?_
  refine q_istore (t := 7) F dX9_eats_5 (by decide) rfl rfl ?_
  refine q_iconst (t := 8) F dX9_eats_7 rfl ?_
  refine q_istore (t := 10) F dX9_eats_8 (by decide) rfl rfl ?_
  refine q_iconst (t := 11) F dX9_eats_10 rfl ?_
  refine q_istore (t := 13) F dX9_eats_11 (by decide) rfl rfl ?_
  have L13 : ∀ (fz : Nat) (i : Nat) (S lg : IM), 17 - i < fz → (i ≤ n ∧ RI S ∧ RC S ∧ agY S (eaI im p seed i) ∧ PK im S ∧ lgQ lg lm) → Wp M (XR G) ad Y_X9_eats (pI fun x m' => ∃ im' lm', x = eaN im p seed n ∧ RI im' ∧ agS im' im ∧ lgQ lm' lm ∧ m' = (im', rs bt rt, lm')) 13 [some (vR 30 0), some (vI (p : Int)), some (vI seed), some (vI (n : Int)), some (vI (dwZ seed i)), some (vI (eaN im p seed i)), some (vI (i : Int))] [] (S, rs bt rt, lg) := by
    intro fz
    induction fz with
    | zero => intro i S lg h; exact absurd h (Nat.not_lt_zero _)
    | succ fz ih =>
      have ih13 := ih
      intro i S lg hmeas ⟨hi, hRS, hRC, hag, hpk, hlg⟩
      have hea := eaN_in im p seed i
      have hes := eaN_s im p seed i
      have e12 : S 30 0 12 = im 30 0 12 := (hpk.1 30 12 (by omega) (by omega)).trans rfl
      refine q_iload (t := 15) F dX9_eats_13 rfl rfl ?_
      refine q_iload_n (t := 16) F dX9_eats_15 rfl rfl rfl ?_
      refine q_icmp_ge (t := 19) (u := 66) F dX9_eats_16 (by constructor <;> omega) (by constructor <;> omega) (by decide) rfl (fun c16 => ?_) (fun c16 => ?_)
      · refine q_aload_n (t := 67) F dX9_eats_66 rfl rfl rfl ?_
        refine wp_callV (t := 70) [] F dX9_eats_67 k_X9_laysBack v_X9_laysBack ml_X9_407 rfl rfl rfl rfl (Nat.le_of_ble_eq_true rfl) (by decide) (m_30 (by omega)) (g_X9_laysBack _ G S bt rt lg hRS) rfl (kV ?_)
        rintro m' rfl
        refine q_iload (t := 72) F dX9_eats_70 rfl rfl ?_
        refine q_iret F dX9_eats_72 rfl ?_
        obtain rfl : i = n := by omega
        exact ⟨_, rfl, _, lg, rfl, backI_RI hRS, (backI_R hpk.1 hpk.2).S, hlg, rfl⟩
      · refine q_iload (t := 21) F dX9_eats_19 rfl rfl ?_
        refine q_ldcw (t := 24) (x := 1103515245) F dX9_eats_21 ki_X9_449 (by decide) rfl ?_
        refine q_imul (t := 25) F dX9_eats_24 rfl ?_
        refine q_sipush (t := 28) F dX9_eats_25 (by decide) rfl ?_
        refine q_iadd (t := 29) F dX9_eats_28 rfl ?_
        refine q_norm ?_
        refine q_istore (t := 31) F dX9_eats_29 (by decide) rfl rfl ?_
        refine q_iload (t := 33) F dX9_eats_31 rfl rfl ?_
        refine q_aload_n (t := 34) F dX9_eats_33 rfl rfl rfl ?_
        refine q_iload_n (t := 35) F dX9_eats_34 rfl rfl rfl ?_
        refine q_iload (t := 37) F dX9_eats_35 rfl rfl ?_
        refine q_iload (t := 39) F dX9_eats_37 rfl rfl ?_
        refine q_bipush (t := 41) F dX9_eats_39 (by decide) rfl ?_
        refine q_iushr (t := 42) F dX9_eats_41 (by omega) (by omega) rfl ?_
        rw [show (2 : Int) ^ (9 : Int).toNat = 512 from rfl]
        have hdw : 0 ≤ dwF seed i ∧ dwF seed i < 10 := by unfold dwF; omega
        refine q_bipush (t := 44) F dX9_eats_42 (by decide) rfl ?_
        refine q_irem (t := 45) F dX9_eats_44 (by constructor <;> omega) (by constructor <;> omega) (by omega) (by omega) rfl ?_
        rw [show bm (dwZ seed i * 1103515245 + 12345) % 4294967296 / 512 % 10 = dwF seed i from rfl]
        refine wp_callV (t := 48) [_, _, _] F dX9_eats_45 k_X9_speaks v_X9_speaks ml_X9_364 rfl rfl rfl rfl (Nat.le_of_ble_eq_true rfl) (by decide) (m_30 (by omega)) (c_X9_speaks _ G S bt rt lg hRC p (by rw [e12]; exact hp) (i : Int) (dwF seed i) (by constructor <;> omega) (by constructor <;> omega)) rfl (kI ?_)
        rintro x45 m' ⟨im2, lg2, hx45, hR2, hag2, hlg2, rfl⟩
        rw [utR_ag hag] at hx45
        have hut := utR_in (im := eaI im p seed i) (p := p) (w := (i : Int)) (fd := dwF seed i)
        have hrc := RC_say hRC hR2 hag2 (p := p) (w := (i : Int)) (fd := dwF seed i) (by omega)
        have hst : stepB (im 30 0 12) 0 (p : Int) (i : Int) (dwF seed i) = 1 := by
          unfold stepB
          rw [if_neg (by omega), if_neg (by omega), if_pos rfl, if_pos (by omega)]
        have hpk2 := PK_tk hpk (S1 := spR S im2 p (i : Int) (dwF seed i)) (t := 0) (by omega) h12 hst (by unfold tkR; rw [if_pos rfl, Int.toNat_natCast]; exact spR_ag hag2 _ _ _)
        have hag3 : agY (spR S im2 p (i : Int) (dwF seed i)) (eaI im p seed (i + 1)) := spR_ag2 hag (hag2.trans hag) _ _ _
        refine q_iconst (t := 49) F dX9_eats_48 rfl ?_
        refine q_icmp_ne (t := 52) (u := 56) F dX9_eats_49 (by constructor <;> omega) (by constructor <;> omega) (by decide) rfl (fun c49 => ?_) (fun c49 => ?_)
        · refine q_iconst (t := 57) F dX9_eats_56 rfl ?_
          refine q_iadd (t := 58) F dX9_eats_57 rfl ?_
          refine q_istore (t := 60) F dX9_eats_58 (by decide) rfl rfl ?_
          refine q_iinc (t := 63) F dX9_eats_60 rfl (by decide) rfl rfl ?_
          refine q_goto (t := 13) F dX9_eats_63 (by decide) ?_
          rw [show (i : Int) + 1 = ((i + 1 : Nat) : Int) by omega]
          first
            | (rw [show eaN im p seed i + 0 = eaN im p seed (i + 1) by rw [hes, if_pos (by omega), Int.add_zero]]
               exact ih13 (i + 1) _ lg2 (by omega) ⟨by omega, hrc.1, hrc, hag3, hpk2, hlg2.trans hlg⟩)
            | (rw [show eaN im p seed i + 1 = eaN im p seed (i + 1) by rw [hes, if_neg (by omega)]]
               exact ih13 (i + 1) _ lg2 (by omega) ⟨by omega, hrc.1, hrc, hag3, hpk2, hlg2.trans hlg⟩)
            | omega
        · refine q_iconst (t := 53) F dX9_eats_52 rfl ?_
          refine q_goto (t := 57) F dX9_eats_53 (by decide) ?_
          refine q_iadd (t := 58) F dX9_eats_57 rfl ?_
          refine q_istore (t := 60) F dX9_eats_58 (by decide) rfl rfl ?_
          refine q_iinc (t := 63) F dX9_eats_60 rfl (by decide) rfl rfl ?_
          refine q_goto (t := 13) F dX9_eats_63 (by decide) ?_
          rw [show (i : Int) + 1 = ((i + 1 : Nat) : Int) by omega]
          first
            | (rw [show eaN im p seed i + 0 = eaN im p seed (i + 1) by rw [hes, if_pos (by omega), Int.add_zero]]
               exact ih13 (i + 1) _ lg2 (by omega) ⟨by omega, hrc.1, hrc, hag3, hpk2, hlg2.trans hlg⟩)
            | (rw [show eaN im p seed i + 1 = eaN im p seed (i + 1) by rw [hes, if_neg (by omega)]]
               exact ih13 (i + 1) _ lg2 (by omega) ⟨by omega, hrc.1, hrc, hag3, hpk2, hlg2.trans hlg⟩)
            | omega
  exact L13 _ 0 (asideI im) lm (Nat.lt_succ_self _) ⟨by omega, hRa, hRCa, agY_rfl _, PK_0 (agY_rfl _), lgQ_rfl lm⟩

set_option maxHeartbeats 4000000 in
theorem c_X9_drawn (l : Launch) (G : GS) (im : IM) (bt rt : Nat) (lm : IM) (h : RC im) (p seed n : Int) (hp : ri p) (hseed : ri seed) (hn : ri n) : Cn l (XR G) yX9_drawn Y_X9_drawn [vR 30 0, vI p, vI seed, vI n] (im, rs bt rt, lm) (pI fun x m' => ∃ im' lm', x = (if ((0 ≤ p ∧ p < im 30 0 12) ∧ 0 ≤ n ∧ n ≤ 16) then eaN im p.toNat seed n.toNat else -2) ∧ RI im' ∧ agS im' im ∧ lgQ lm' lm ∧ m' = (im', rs bt rt, lm')) := by
  refine cn_of (by decide) (okR G) rfl (Nat.le_of_ble_eq_true rfl) ?_
  intro M ad hMl F
  subst hMl
  have hR := h.1
  have hX := h.2.1
  have h4 := h.2.2.1
  have h12 := h.2.2.2.1
  have h7 := h.2.2.2.2.1
  have h6 := hX.2.2.1
  have h3 := hX.2.2.2.1
  have hP := h.2.2.2.2.2.2
  have hR := h.1
  have p1 := hp.1
  have p2 := hp.2
  have n1 := hn.1
  have n2 := hn.2
  refine wp_pad 0 ?_
  show Wp M (XR G) ad Y_X9_drawn (pI fun x m' => ∃ im' lm', x = (if ((0 ≤ p ∧ p < im 30 0 12) ∧ 0 ≤ n ∧ n ≤ 16) then eaN im p.toNat seed n.toNat else -2) ∧ RI im' ∧ agS im' im ∧ lgQ lm' lm ∧ m' = (im', rs bt rt, lm')) 0 [some (vR 30 0), some (vI p), some (vI seed), some (vI n)] [] (im, rs bt rt, lm)
  refine q_aload_n (t := 1) F dX9_drawn_0 rfl rfl rfl ?_
  refine q_iload_n (t := 2) F dX9_drawn_1 rfl rfl rfl ?_
  refine wp_callV (t := 5) [_] F dX9_drawn_2 k_X9_isOne v_X9_isOne ml_X9_101 rfl rfl rfl rfl (Nat.le_of_ble_eq_true rfl) (by decide) (m_30 (by omega)) (c_X9_isOne _ G im bt rt lm hR h12.1 h12.2 p (by constructor <;> omega)) rfl (kI ?_)
  rintro x2 m' ⟨hx2, rfl⟩
  have hx2 := if01 hx2
  refine q_if_eq (t := 8) (u := 30) F dX9_drawn_5 (by first | exact hR _ _ _ | (constructor <;> omega)) (by decide) rfl (fun c5 => ?_) (fun c5 => ?_)
  · refine q_bipush (t := 32) F dX9_drawn_30 (by decide) rfl ?_
    refine q_iret F dX9_drawn_32 rfl ?_
    first
      | (refine ⟨_, rfl, im, lm, ?_, hR, agS_rfl im, lgQ_rfl lm, rfl⟩
         rw [if_neg (by omega)])
      | (refine ⟨_, rfl, im2, lm2, ?_, hR2, hag2, hlg2, rfl⟩
         rw [if_pos (by omega)]
         exact hx24)
      | omega
  · refine q_iload_n (t := 9) F dX9_drawn_8 rfl rfl rfl ?_
    refine q_i2l (t := 10) F dX9_drawn_9 (by first | exact hR _ _ _ | (constructor <;> omega)) rfl ?_
    refine q_lconst (t := 11) (x := 0) F dX9_drawn_10 (by decide) rfl ?_
    refine q_ldc2 (t := 14) (x := 16) F dX9_drawn_11 kl_X9_450 (by decide) rfl ?_
    refine wp_callS (t := 17) [_, _, _] F dX9_drawn_14 k_X9_in st_X9_in ml_X9_91 rfl rfl (Nat.le_of_ble_eq_true rfl) (by decide) (c_X9_in _ G _ _ _ _ _ _ _ (by constructor <;> omega) (by constructor <;> omega) (by constructor <;> omega)) rfl (kI ?_)
    rintro x14 m' ⟨hx14, rfl⟩
    have hx14 := if01 hx14
    refine q_if_eq (t := 20) (u := 30) F dX9_drawn_17 (by first | exact hR _ _ _ | (constructor <;> omega)) (by decide) rfl (fun c17 => ?_) (fun c17 => ?_)
    · refine q_bipush (t := 32) F dX9_drawn_30 (by decide) rfl ?_
      refine q_iret F dX9_drawn_32 rfl ?_
      first
        | (refine ⟨_, rfl, im, lm, ?_, hR, agS_rfl im, lgQ_rfl lm, rfl⟩
           rw [if_neg (by omega)])
        | (refine ⟨_, rfl, im2, lm2, ?_, hR2, hag2, hlg2, rfl⟩
           rw [if_pos (by omega)]
           exact hx24)
        | omega
    · refine q_aload_n (t := 21) F dX9_drawn_20 rfl rfl rfl ?_
      rw [show vI p = vI ((p.toNat : Nat) : Int) by rw [Int.toNat_of_nonneg (by omega)]]
      refine q_iload_n (t := 22) F dX9_drawn_21 rfl rfl rfl ?_
      refine q_iload_n (t := 23) F dX9_drawn_22 rfl rfl rfl ?_
      refine q_iload_n (t := 24) F dX9_drawn_23 rfl rfl rfl ?_
      rw [show vI n = vI ((n.toNat : Nat) : Int) by rw [Int.toNat_of_nonneg (by omega)]]
      try rw [show vI p = vI ((p.toNat : Nat) : Int) by rw [Int.toNat_of_nonneg (by omega)]]
      refine wp_callV (t := 27) [_, _, _] F dX9_drawn_24 k_X9_eats v_X9_eats ml_X9_452 rfl rfl rfl rfl (Nat.le_of_ble_eq_true rfl) (by decide) (m_30 (by omega)) (c_X9_eats _ G im bt rt lm h p.toNat n.toNat (by omega) (by omega) seed hseed) rfl (kI ?_)
      rintro x24 m' ⟨im2, lm2, hx24, hR2, hag2, hlg2, rfl⟩
      refine q_goto (t := 32) F dX9_drawn_27 (by decide) ?_
      refine q_iret F dX9_drawn_32 rfl ?_
      first
        | (refine ⟨_, rfl, im, lm, ?_, hR, agS_rfl im, lgQ_rfl lm, rfl⟩
           rw [if_neg (by omega)])
        | (refine ⟨_, rfl, im2, lm2, ?_, hR2, hag2, hlg2, rfl⟩
           rw [if_pos (by omega)]
           exact hx24)
        | omega

set_option maxHeartbeats 4000000 in
theorem c_X9_chance (l : Launch) (G : GS) (im : IM) (bt rt : Nat) (lm : IM) (h : RC im) (p seed n part : Int) (hp : ri p) (hseed : ri seed) (hn : ri n) (hpart : ri part) : Cn l (XR G) yX9_chance Y_X9_chance [vR 30 0, vI p, vI seed, vI n, vI part] (im, rs bt rt, lm) (pL fun x m' => ∃ im' lm', x = (if (((0 : Int) ≤ p ∧ p < im 30 0 12) ∧ ((1 : Int) ≤ n ∧ (n : Int) ≤ 20) ∧ 0 ≤ part ∧ part ≤ 1) then (if part = 0 then hiR im (Int.toNat p) seed (Int.toNat n) else n) / ((Nat.gcd (hiR im (Int.toNat p) seed (Int.toNat n)).toNat (Int.toNat n) : Nat) : Int) else -4611686018427387904) ∧ RI im' ∧ agS im' im ∧ lgQ lm' lm ∧ m' = (im', rs bt rt, lm')) := by
  refine cn_of (by decide) (okR G) rfl (Nat.le_of_ble_eq_true rfl) ?_
  intro M ad hMl F
  subst hMl
  have hR := h.1
  have hX := h.2.1
  have h4 := h.2.2.1
  have h12 := h.2.2.2.1
  have h7 := h.2.2.2.2.1
  have h6 := hX.2.2.1
  have h3 := hX.2.2.2.1
  have hP := h.2.2.2.2.2.2
  have hR := h.1
  have p1 := hp.1
  have p2 := hp.2
  have n1 := hn.1
  have n2 := hn.2
  have part1 := hpart.1
  have part2 := hpart.2
  refine wp_pad 8 ?_
  show Wp M (XR G) ad Y_X9_chance (pL fun x m' => ∃ im' lm', x = (if (((0 : Int) ≤ p ∧ p < im 30 0 12) ∧ ((1 : Int) ≤ n ∧ (n : Int) ≤ 20) ∧ 0 ≤ part ∧ part ≤ 1) then (if part = 0 then hiR im (Int.toNat p) seed (Int.toNat n) else n) / ((Nat.gcd (hiR im (Int.toNat p) seed (Int.toNat n)).toNat (Int.toNat n) : Nat) : Int) else -4611686018427387904) ∧ RI im' ∧ agS im' im ∧ lgQ lm' lm ∧ m' = (im', rs bt rt, lm')) 0 [some (vR 30 0), some (vI p), some (vI seed), some (vI n), some (vI part), none, none, none, none, none, none, none, none] [] (im, rs bt rt, lm)
  refine q_aload_n (t := 1) F dX9_chance_0 rfl rfl rfl ?_
  refine q_iload_n (t := 2) F dX9_chance_1 rfl rfl rfl ?_
  refine wp_callV (t := 5) [_] F dX9_chance_2 k_X9_isOne v_X9_isOne ml_X9_101 rfl rfl rfl rfl (Nat.le_of_ble_eq_true rfl) (by decide) (m_30 (by omega)) (c_X9_isOne _ G im bt rt lm hR h12.1 h12.2 p (by constructor <;> omega)) rfl (kI ?_)
  rintro x2 m' ⟨hx2, rfl⟩
  have hx2 := if01 hx2
  refine q_if_eq (t := 8) (u := 31) F dX9_chance_5 (by first | exact hR _ _ _ | (constructor <;> omega)) (by decide) rfl (fun c5 => ?_) (fun c5 => ?_)
  · refine q_ldc2 (t := 34) (x := -4611686018427387904) F dX9_chance_31 kl_X9_457 (by decide) rfl ?_
    refine q_lret F dX9_chance_34 rfl ?_
    try simp only [Int.toNat_natCast]
    first
      | (refine ⟨_, rfl, im, lm, ?_, hR, agS_rfl im, lgQ_rfl lm, rfl⟩
         rw [if_neg (by omega)])
      | (have ey : y = 0 := by omega
         subst ey
         refine ⟨_, rfl, S, lg, ?_, hRS, hag, hlg, rfl⟩
         rw [Nat.gcd_zero_right] at hgc
         (try rw [etp, etn])
         rw [if_pos (by first | exact hok | omega), ← hgc]
         first
           | rw [if_pos (by omega)]
           | rw [if_neg (by omega)])
      | omega
  · refine q_iload_n (t := 9) F dX9_chance_8 rfl rfl rfl ?_
    refine q_i2l (t := 10) F dX9_chance_9 (by first | exact hR _ _ _ | (constructor <;> omega)) rfl ?_
    refine q_lconst (t := 11) (x := 1) F dX9_chance_10 (by decide) rfl ?_
    refine q_ldc2 (t := 14) (x := 20) F dX9_chance_11 kl_X9_455 (by decide) rfl ?_
    refine wp_callS (t := 17) [_, _, _] F dX9_chance_14 k_X9_in st_X9_in ml_X9_91 rfl rfl (Nat.le_of_ble_eq_true rfl) (by decide) (c_X9_in _ G _ _ _ _ _ _ _ (by constructor <;> omega) (by constructor <;> omega) (by constructor <;> omega)) rfl (kI ?_)
    rintro x14 m' ⟨hx14, rfl⟩
    have hx14 := if01 hx14
    refine q_if_eq (t := 20) (u := 31) F dX9_chance_17 (by first | exact hR _ _ _ | (constructor <;> omega)) (by decide) rfl (fun c17 => ?_) (fun c17 => ?_)
    · refine q_ldc2 (t := 34) (x := -4611686018427387904) F dX9_chance_31 kl_X9_457 (by decide) rfl ?_
      refine q_lret F dX9_chance_34 rfl ?_
      try simp only [Int.toNat_natCast]
      first
        | (refine ⟨_, rfl, im, lm, ?_, hR, agS_rfl im, lgQ_rfl lm, rfl⟩
           rw [if_neg (by omega)])
        | (have ey : y = 0 := by omega
           subst ey
           refine ⟨_, rfl, S, lg, ?_, hRS, hag, hlg, rfl⟩
           rw [Nat.gcd_zero_right] at hgc
           (try rw [etp, etn])
           rw [if_pos (by first | exact hok | omega), ← hgc]
           first
             | rw [if_pos (by omega)]
             | rw [if_neg (by omega)])
        | omega
    · refine q_iload (t := 22) F dX9_chance_20 rfl rfl ?_
      refine q_i2l (t := 23) F dX9_chance_22 (by first | exact hR _ _ _ | (constructor <;> omega)) rfl ?_
      refine q_lconst (t := 24) (x := 0) F dX9_chance_23 (by decide) rfl ?_
      refine q_lconst (t := 25) (x := 1) F dX9_chance_24 (by decide) rfl ?_
      refine wp_callS (t := 28) [_, _, _] F dX9_chance_25 k_X9_in st_X9_in ml_X9_91 rfl rfl (Nat.le_of_ble_eq_true rfl) (by decide) (c_X9_in _ G _ _ _ _ _ _ _ (by constructor <;> omega) (by constructor <;> omega) (by constructor <;> omega)) rfl (kI ?_)
      rintro x25 m' ⟨hx25, rfl⟩
      have hx25 := if01 hx25
      refine q_if_ne (t := 31) (u := 35) F dX9_chance_28 (by first | exact hR _ _ _ | (constructor <;> omega)) (by decide) rfl (fun c28 => ?_) (fun c28 => ?_)
      · obtain ⟨p, rfl⟩ : ∃ j : Nat, p = (j : Int) := ⟨p.toNat, by omega⟩
        obtain ⟨n, rfl⟩ : ∃ j : Nat, n = (j : Int) := ⟨n.toNat, by omega⟩
        have hok : (((0 : Int) ≤ p ∧ (p : Int) < im 30 0 12) ∧ ((1 : Int) ≤ n ∧ (n : Int) ≤ 20) ∧ 0 ≤ part ∧ part ≤ 1) := by omega
        have etp : ((p : Nat) : Int).toNat = p := Int.toNat_natCast p
        have etn : ((n : Nat) : Int).toNat = n := Int.toNat_natCast n
        refine q_lconst (t := 36) (x := 0) F dX9_chance_35 (by decide) rfl ?_
        refine q_lstore (t := 38) F dX9_chance_36 (by decide) rfl rfl ?_
        refine q_iconst (t := 39) F dX9_chance_38 rfl ?_
        refine q_istore (t := 41) F dX9_chance_39 (by decide) rfl rfl ?_
        have L41 : ∀ (fz : Nat) (k : Nat) (S lg : IM), 21 - k < fz → (k ≤ n ∧ RI S ∧ agS S im ∧ lgQ lg lm) → Wp M (XR G) ad Y_X9_chance (pL fun x m' => ∃ im' lm', x = (if (((0 : Int) ≤ p ∧ p < im 30 0 12) ∧ ((1 : Int) ≤ n ∧ (n : Int) ≤ 20) ∧ 0 ≤ part ∧ part ≤ 1) then (if part = 0 then hiR im (Int.toNat p) seed (Int.toNat n) else n) / ((Nat.gcd (hiR im (Int.toNat p) seed (Int.toNat n)).toNat (Int.toNat n) : Nat) : Int) else -4611686018427387904) ∧ RI im' ∧ agS im' im ∧ lgQ lm' lm ∧ m' = (im', rs bt rt, lm')) 41 [some (vR 30 0), some (vI (p : Int)), some (vI seed), some (vI (n : Int)), some (vI part), some (vL (hiR im p seed k)), none, some (vI (k : Int)), none, none, none, none, none] [] (S, rs bt rt, lg) := by
          intro fz
          induction fz with
          | zero => intro k S lg h; exact absurd h (Nat.not_lt_zero _)
          | succ fz ih =>
            have ih41 := ih
            intro k S lg hmeas ⟨hk, hRS, hag, hlg⟩
            have e12 : S 30 0 12 = im 30 0 12 := hag.C.1.2.2.2.2.2
            have hhi := hiR_in im p seed k
            have hhs := hiR_s im p seed k
            refine q_iload (t := 43) F dX9_chance_41 rfl rfl ?_
            refine q_iload_n (t := 44) F dX9_chance_43 rfl rfl rfl ?_
            refine q_icmp_ge (t := 47) (u := 78) F dX9_chance_44 (by constructor <;> omega) (by constructor <;> omega) (by decide) rfl (fun c44 => ?_) (fun c44 => ?_)
            · obtain rfl : n = k := by omega
              refine q_lload (t := 80) F dX9_chance_78 rfl rfl ?_
              refine q_lstore (t := 82) F dX9_chance_80 (by decide) rfl rfl ?_
              refine q_iload_n (t := 83) F dX9_chance_82 rfl rfl rfl ?_
              refine q_i2l (t := 84) F dX9_chance_83 (by constructor <;> omega) rfl ?_
              refine q_lstore (t := 86) F dX9_chance_84 (by decide) rfl rfl ?_
              have L86 : ∀ (fz : Nat) (x y : Nat), y < fz → (x ≤ 20 ∧ y ≤ 20 ∧ Nat.gcd x y = Nat.gcd (hiR im p seed n).toNat n) → Wp M (XR G) ad Y_X9_chance (pL fun x m' => ∃ im' lm', x = (if (((0 : Int) ≤ p ∧ p < im 30 0 12) ∧ ((1 : Int) ≤ n ∧ (n : Int) ≤ 20) ∧ 0 ≤ part ∧ part ≤ 1) then (if part = 0 then hiR im (Int.toNat p) seed (Int.toNat n) else n) / ((Nat.gcd (hiR im (Int.toNat p) seed (Int.toNat n)).toNat (Int.toNat n) : Nat) : Int) else -4611686018427387904) ∧ RI im' ∧ agS im' im ∧ lgQ lm' lm ∧ m' = (im', rs bt rt, lm')) 86 [some (vR 30 0), some (vI (p : Int)), some (vI seed), some (vI (n : Int)), some (vI part), some (vL (hiR im p seed n)), none, some (vL (x : Int)), none, some (vL (y : Int)), none, none, none] [] (S, rs bt rt, lg) := by
                intro fz
                induction fz with
                | zero => intro x y h; exact absurd h (Nat.not_lt_zero _)
                | succ fz ih =>
                  have ih86 := ih
                  intro x y hmeas ⟨hx, hy, hgc⟩
                  have hgp : 0 < Nat.gcd (hiR im p seed n).toNat n := Nat.gcd_pos_of_pos_right _ (by omega)
                  have e1 : cmpI (y : Int) 0 < 0 ↔ (y : Int) < 0 := cmpI_lt
                  have e2 : 0 < cmpI (y : Int) 0 ↔ 0 < (y : Int) := cmpI_gt
                  refine q_lload (t := 88) F dX9_chance_86 rfl rfl ?_
                  refine q_lconst (t := 89) (x := 0) F dX9_chance_88 (by decide) rfl ?_
                  refine q_lcmp (t := 90) F dX9_chance_89 (by constructor <;> omega) (by constructor <;> omega) rfl ?_
                  refine q_if_eq (t := 93) (u := 111) F dX9_chance_90 (by exact cmpI_ri _ _) (by decide) rfl (fun c90 => ?_) (fun c90 => ?_)
                  · have y0 : y = 0 := by omega
                    have hx0 : 0 < x := by rw [y0, Nat.gcd_zero_right] at hgc; omega
                    refine q_iload (t := 113) F dX9_chance_111 rfl rfl ?_
                    refine q_if_ne (t := 116) (u := 124) F dX9_chance_113 (by first | exact hR _ _ _ | (constructor <;> omega)) (by decide) rfl (fun c113 => ?_) (fun c113 => ?_)
                    · refine q_iload_n (t := 125) F dX9_chance_124 rfl rfl rfl ?_
                      refine q_i2l (t := 126) F dX9_chance_125 (by constructor <;> omega) rfl ?_
                      refine q_lload (t := 128) F dX9_chance_126 rfl rfl ?_
                      refine q_ldiv (t := 129) F dX9_chance_128 (by constructor <;> omega) (by constructor <;> omega) (by omega) (by omega) rfl ?_
                      refine q_lret F dX9_chance_129 rfl ?_
                      try simp only [Int.toNat_natCast]
                      first
                        | (refine ⟨_, rfl, im, lm, ?_, hR, agS_rfl im, lgQ_rfl lm, rfl⟩
                           rw [if_neg (by omega)])
                        | (have ey : y = 0 := by omega
                           subst ey
                           refine ⟨_, rfl, S, lg, ?_, hRS, hag, hlg, rfl⟩
                           rw [Nat.gcd_zero_right] at hgc
                           (try rw [etp, etn])
                           rw [if_pos (by first | exact hok | omega), ← hgc]
                           first
                             | rw [if_pos (by omega)]
                             | rw [if_neg (by omega)])
                        | omega
                    · refine q_lload (t := 118) F dX9_chance_116 rfl rfl ?_
                      refine q_lload (t := 120) F dX9_chance_118 rfl rfl ?_
                      refine q_ldiv (t := 121) F dX9_chance_120 (by constructor <;> omega) (by constructor <;> omega) (by omega) (by omega) rfl ?_
                      refine q_goto (t := 129) F dX9_chance_121 (by decide) ?_
                      refine q_lret F dX9_chance_129 rfl ?_
                      try simp only [Int.toNat_natCast]
                      first
                        | (refine ⟨_, rfl, im, lm, ?_, hR, agS_rfl im, lgQ_rfl lm, rfl⟩
                           rw [if_neg (by omega)])
                        | (have ey : y = 0 := by omega
                           subst ey
                           refine ⟨_, rfl, S, lg, ?_, hRS, hag, hlg, rfl⟩
                           rw [Nat.gcd_zero_right] at hgc
                           (try rw [etp, etn])
                           rw [if_pos (by first | exact hok | omega), ← hgc]
                           first
                             | rw [if_pos (by omega)]
                             | rw [if_neg (by omega)])
                        | omega
                  · refine q_lload (t := 95) F dX9_chance_93 rfl rfl ?_
                    refine q_lload (t := 97) F dX9_chance_95 rfl rfl ?_
                    refine q_lrem (t := 98) F dX9_chance_97 (by constructor <;> omega) (by constructor <;> omega) (by omega) (by omega) rfl ?_
                    refine q_lstore (t := 100) F dX9_chance_98 (by decide) rfl rfl ?_
                    refine q_lload (t := 102) F dX9_chance_100 rfl rfl ?_
                    refine q_lstore (t := 104) F dX9_chance_102 (by decide) rfl rfl ?_
                    refine q_lload (t := 106) F dX9_chance_104 rfl rfl ?_
                    refine q_lstore (t := 108) F dX9_chance_106 (by decide) rfl rfl ?_
                    refine q_goto (t := 86) F dX9_chance_108 (by decide) ?_
                    refine wp_less 11 ?_
                    have hy0 : 0 < y := by omega
                    rw [show (x : Int) % (y : Int) = ((x % y : Nat) : Int) from (Int.natCast_emod x y).symm]
                    have hml := Nat.mod_lt x hy0
                    exact ih86 y (x % y) (by omega) ⟨by omega, by omega, by rw [← hgc, Nat.gcd_comm y (x % y), ← Nat.gcd_rec, Nat.gcd_comm]⟩
              have L0 := L86 _ (hiR im p seed n).toNat n (Nat.lt_succ_self _) ⟨by omega, by omega, rfl⟩
              rw [Int.toNat_of_nonneg hhi.1] at L0
              exact L0
            · refine q_lload (t := 49) F dX9_chance_47 rfl rfl ?_
              refine q_aload_n (t := 50) F dX9_chance_49 rfl rfl rfl ?_
              refine q_iload_n (t := 51) F dX9_chance_50 rfl rfl rfl ?_
              refine q_iload_n (t := 52) F dX9_chance_51 rfl rfl rfl ?_
              refine q_iload (t := 54) F dX9_chance_52 rfl rfl ?_
              refine q_iadd (t := 55) F dX9_chance_54 rfl ?_
              refine q_norm ?_
              refine q_bipush (t := 57) F dX9_chance_55 (by decide) rfl ?_
              refine wp_callV (t := 60) [_, _, _] F dX9_chance_57 k_X9_eats v_X9_eats ml_X9_452 rfl rfl rfl rfl (Nat.le_of_ble_eq_true rfl) (by decide) (m_30 (by omega)) (c_X9_eats _ G S bt rt lg (h.S hRS hag) p 16 (by rw [e12]; omega) (by omega) (bm (seed + (k : Int))) (ri_b _)) rfl (kI ?_)
              rintro x57 m' ⟨im2, lm2, hx57, hR2, hag2, hlg2, rfl⟩
              rw [(eaI_C hag.C.1 hag.C.2 p (bm (seed + (k : Int))) 16).2] at hx57
              have hea := eaN_in im p (bm (seed + (k : Int))) 16
              refine q_iconst (t := 61) F dX9_chance_60 rfl ?_
              refine q_icmp_le (t := 64) (u := 68) F dX9_chance_61 (by first | exact hR _ _ _ | (constructor <;> omega)) (by first | exact hR _ _ _ | (constructor <;> omega)) (by decide) rfl (fun c61 => ?_) (fun c61 => ?_)
              · refine q_lconst (t := 69) (x := 0) F dX9_chance_68 (by decide) rfl ?_
                refine q_ladd (t := 70) F dX9_chance_69 rfl ?_
                refine q_lstore (t := 72) F dX9_chance_70 (by decide) rfl rfl ?_
                refine q_iinc (t := 75) F dX9_chance_72 rfl (by decide) rfl rfl ?_
                refine q_goto (t := 41) F dX9_chance_75 (by decide) ?_
                rw [show (k : Int) + 1 = ((k + 1 : Nat) : Int) by omega]
                first
                  | (rw [show hiR im p seed k + 1 = hiR im p seed (k + 1) by rw [hhs, if_pos (by omega)]]
                     exact ih41 (k + 1) _ lm2 (by omega) ⟨by omega, hR2, hag2.trans hag, hlg2.trans hlg⟩)
                  | (rw [show hiR im p seed k + 0 = hiR im p seed (k + 1) by rw [hhs, if_neg (by omega), Int.add_zero]]
                     exact ih41 (k + 1) _ lm2 (by omega) ⟨by omega, hR2, hag2.trans hag, hlg2.trans hlg⟩)
                  | omega
              · refine q_lconst (t := 65) (x := 1) F dX9_chance_64 (by decide) rfl ?_
                refine q_goto (t := 69) F dX9_chance_65 (by decide) ?_
                refine q_ladd (t := 70) F dX9_chance_69 rfl ?_
                refine q_lstore (t := 72) F dX9_chance_70 (by decide) rfl rfl ?_
                refine q_iinc (t := 75) F dX9_chance_72 rfl (by decide) rfl rfl ?_
                refine q_goto (t := 41) F dX9_chance_75 (by decide) ?_
                rw [show (k : Int) + 1 = ((k + 1 : Nat) : Int) by omega]
                first
                  | (rw [show hiR im p seed k + 1 = hiR im p seed (k + 1) by rw [hhs, if_pos (by omega)]]
                     exact ih41 (k + 1) _ lm2 (by omega) ⟨by omega, hR2, hag2.trans hag, hlg2.trans hlg⟩)
                  | (rw [show hiR im p seed k + 0 = hiR im p seed (k + 1) by rw [hhs, if_neg (by omega), Int.add_zero]]
                     exact ih41 (k + 1) _ lm2 (by omega) ⟨by omega, hR2, hag2.trans hag, hlg2.trans hlg⟩)
                  | omega
        exact L41 _ 0 im lm (Nat.lt_succ_self _) ⟨by omega, hR, agS_rfl im, lgQ_rfl lm⟩
      · refine q_ldc2 (t := 34) (x := -4611686018427387904) F dX9_chance_31 kl_X9_457 (by decide) rfl ?_
        refine q_lret F dX9_chance_34 rfl ?_
        try simp only [Int.toNat_natCast]
        first
          | (refine ⟨_, rfl, im, lm, ?_, hR, agS_rfl im, lgQ_rfl lm, rfl⟩
             rw [if_neg (by omega)])
          | (have ey : y = 0 := by omega
             subst ey
             refine ⟨_, rfl, S, lg, ?_, hRS, hag, hlg, rfl⟩
             rw [Nat.gcd_zero_right] at hgc
             (try rw [etp, etn])
             rw [if_pos (by first | exact hok | omega), ← hgc]
             first
               | rw [if_pos (by omega)]
               | rw [if_neg (by omega)])
          | omega
