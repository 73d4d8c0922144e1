/-! where the reference's reading stands -/
def RQ (b : Nat → Int) (n : Nat) (im lm : IM) (p : Nat) (f : Int) : Prop := (f = -1 → im 30 0 28 = 0 ∧ im 30 0 25 = p ∧ TKr b n im lm p) ∧ (f ≠ -1 → im 30 0 28 = 1 ∧ im 30 0 29 = f)
def PQ (b : Nat → Int) (n : Nat) (im lm : IM) (p : Nat) (f : Int) : Prop := RQ b n im lm p f ∧ RI im ∧ BRr b n im ∧ p ≤ n ∧ (im 30 0 28 = 0 ∨ im 30 0 28 = 1)
/-- the same but for the reading -/
def agQ (a b : IM) : Prop := ∀ k i s, ¬ (k = 30 ∧ (23 ≤ s ∧ s ≤ 25 ∨ 28 ≤ s ∧ s ≤ 29)) → a k i s = b k i s
def lgQ (a b : IM) : Prop := ∀ k i s, ¬ (k = 30 ∧ s = 26) → a k i s = b k i s
theorem agQ_rfl (a : IM) : agQ a a := fun _ _ _ _ => rfl
theorem lgQ_rfl (a : IM) : lgQ a a := fun _ _ _ _ => rfl
theorem agQ.trans {a b c : IM} (h : agQ a b) (h2 : agQ b c) : agQ a c := fun k i s hs => (h k i s hs).trans (h2 k i s hs)
theorem lgQ.trans {a b c : IM} (h : lgQ a b) (h2 : lgQ b c) : lgQ a c := fun k i s hs => (h k i s hs).trans (h2 k i s hs)
theorem tkW_in {i : Int} (h : -1 ≤ i ∧ i < 12) : 1 ≤ tkW i ∧ tkW i ≤ 9 := by
  unfold tkW
  (repeat' split) <;> omega
theorem TK_sign {b : Nat → Int} {n p : Nat} {im lm : IM} {s : Int} (h : TKr b n im lm p) (hs : 40 ≤ s) : (im 30 0 24 = 3 ∧ lm 30 0 26 = s) ↔ tk b n p = s := by
  obtain ⟨h0, h1, h2, h3⟩ := h
  have hw := tkW_in (wIx_in b p (span isL b n p) 12)
  by_cases hp : n ≤ p
  · have e := h0 hp
    rw [tk_0 hp]
    omega
  · by_cases hl : isL (b p) = true
    · have e := h1 (by omega) hl
      have e2 : tk b n p = tkW (wIx b p (span isL b n p) 12) := by unfold tk; rw [if_neg hp, if_pos hl]
      omega
    · by_cases hd : isD (b p) = true
      · have e := (h2 (by omega) hl hd).2.1
        have e2 : tk b n p = (if 4 < span isD b n p - p then 1 else 2) := by unfold tk; rw [if_neg hp, if_neg hl, if_pos hd]
        rw [e2]
        split at e <;> split <;> omega
      · have e := h3 (by omega) hl hd
        have e2 : tk b n p = (if sgn (b p) then b p else 1) := by unfold tk; rw [if_neg hp, if_neg hl, if_neg hd]
        rw [e2]
        by_cases hg : sgn (b p)
        · have e3 := e.1 hg
          rw [if_pos hg]
          omega
        · have e3 := e.2 hg
          rw [if_neg hg]
          omega
theorem TK_num {b : Nat → Int} {n p : Nat} {im lm : IM} (h : TKr b n im lm p) : (im 30 0 24 = 2 ↔ tk b n p = 2) ∧ (tk b n p = 2 → lm 30 0 26 = vl b n p) := by
  obtain ⟨h0, h1, h2, h3⟩ := h
  have hw := wIx_in b p (span isL b n p) 12
  by_cases hp : n ≤ p
  · have e := h0 hp
    rw [tk_0 hp]
    omega
  · by_cases hl : isL (b p) = true
    · have e := h1 (by omega) hl
      have e2 : tk b n p = tkW (wIx b p (span isL b n p) 12) := by unfold tk; rw [if_neg hp, if_pos hl]
      have e3 : tkW (wIx b p (span isL b n p) 12) ≠ 2 := by unfold tkW; (repeat' split) <;> omega
      omega
    · by_cases hd : isD (b p) = true
      · have e := h2 (by omega) hl hd
        have e1 := e.2.1
        have e2 : tk b n p = (if 4 < span isD b n p - p then 1 else 2) := by unfold tk; rw [if_neg hp, if_neg hl, if_pos hd]
        have e4 : vl b n p = numF b p (span isD b n p - p) := by unfold vl; rw [if_neg hl]
        rw [e2, e4]
        split at e1
        · rw [if_pos (by assumption)]; omega
        · rw [if_neg (by assumption)]
          exact ⟨by omega, fun _ => e.2.2 (by omega)⟩
      · have e := h3 (by omega) hl hd
        have e2 : tk b n p = (if sgn (b p) then b p else 1) := by unfold tk; rw [if_neg hp, if_neg hl, if_neg hd]
        rw [e2]
        by_cases hg : sgn (b p)
        · have e3 := e.1 hg
          rw [if_pos hg]
          unfold sgn at hg
          omega
        · have e3 := e.2 hg
          rw [if_neg hg]
          omega
theorem TK_word {b : Nat → Int} {n p : Nat} {im lm : IM} (h : TKr b n im lm p) : (im 30 0 24 = 1 ↔ p < n ∧ isL (b p) = true) ∧ (im 30 0 24 = 0 ↔ tk b n p = 0) := by
  obtain ⟨h0, h1, h2, h3⟩ := h
  have hw := tkW_in (wIx_in b p (span isL b n p) 12)
  by_cases hp : n ≤ p
  · have e := h0 hp
    rw [tk_0 hp]
    exact ⟨⟨fun q => by omega, fun q => by omega⟩, by omega⟩
  · by_cases hl : isL (b p) = true
    · have e := h1 (by omega) hl
      have e2 : tk b n p = tkW (wIx b p (span isL b n p) 12) := by unfold tk; rw [if_neg hp, if_pos hl]
      exact ⟨⟨fun _ => ⟨by omega, hl⟩, fun _ => e.1⟩, by omega⟩
    · by_cases hd : isD (b p) = true
      · have e := (h2 (by omega) hl hd).2.1
        have e2 : tk b n p = (if 4 < span isD b n p - p then 1 else 2) := by unfold tk; rw [if_neg hp, if_neg hl, if_pos hd]
        rw [e2]
        refine ⟨⟨fun q => ?_, fun q => absurd q.2 hl⟩, ?_⟩
        · split at e <;> omega
        · split at e <;> split <;> omega
      · have e := h3 (by omega) hl hd
        have e2 : tk b n p = (if sgn (b p) then b p else 1) := by unfold tk; rw [if_neg hp, if_neg hl, if_neg hd]
        rw [e2]
        by_cases hg : sgn (b p)
        · have e3 := e.1 hg
          rw [if_pos hg]
          refine ⟨⟨fun q => by omega, fun q => absurd q.2 hl⟩, ?_⟩
          unfold sgn at hg
          omega
        · have e3 := e.2 hg
          rw [if_neg hg]
          exact ⟨⟨fun q => by omega, fun q => absurd q.2 hl⟩, by omega⟩
theorem TK_nx {b : Nat → Int} {n p : Nat} {im lm : IM} (h : TKr b n im lm p) (hp : p < n) (h1t : tk b n p ≠ 1) : im 30 0 23 = nx b n p := by
  obtain ⟨h0, h1, h2, h3⟩ := h
  unfold nx
  rw [if_neg (by omega)]
  by_cases hl : isL (b p) = true
  · rw [if_pos hl]; exact (h1 hp hl).2
  · rw [if_neg hl]
    by_cases hd : isD (b p) = true
    · rw [if_pos hd]; exact (h2 hp hl hd).1
    · rw [if_neg hd]
      by_cases hg : sgn (b p)
      · have := ((h3 hp hl hd).1 hg).2.2
        omega
      · exfalso
        apply h1t
        unfold tk
        rw [if_neg (by omega), if_neg hl, if_neg hd, if_neg hg]
/-- behind a token -/
theorem c_nextQ (l : Launch) (G : GS) (im : IM) (bt rt : Nat) (lm : IM) (b : Nat → Int) (n : Nat) (hb : byt b n) (p : Nat) (h : PQ b n im lm p (-1)) (hp : p < n) (ht : tk b n p ≠ 1) : Cn l (XR G) yX9_next Y_X9_next [vR 30 0] (im, rs bt rt, lm) (pV fun m' => ∃ im' lm', PQ b n im' lm' (adv b n p) (-1) ∧ agQ im' im ∧ lgQ lm' lm ∧ m' = (im', rs bt rt, lm')) := by
  obtain ⟨hq, hR, hB, hpn, h28⟩ := h
  obtain ⟨k28, k25, kT⟩ := hq.1 rfl
  have hnx := nx_in (b := b) hp
  refine (c_X9_next l G im bt rt lm b n hb hR hB (nx b n p) hnx.2 (TK_nx kT hp ht)).mono (fun r m' hq => ?_)
  obtain ⟨hr, im', lm', hR', hT', h25, hag, hlg, hm⟩ := hq
  have e28 : im' 30 0 28 = im 30 0 28 := hag 30 0 28 (by omega)
  exact ⟨hr, im', lm', ⟨⟨fun _ => ⟨e28.trans k28, h25, hT'⟩, fun q => absurd rfl q⟩, hR', BRr_agN hB hag, (adv_in hp).2, by rw [e28]; exact h28⟩, fun k i s hs => hag k i s (by omega), fun k i s hs => hlg k i s hs, hm⟩
theorem PQ.b01 {b : Nat → Int} {n p : Nat} {im lm : IM} {f : Int} (h : PQ b n im lm p f) : (f = -1 ∧ im 30 0 28 = 0) ∨ (f ≠ -1 ∧ im 30 0 28 = 1 ∧ im 30 0 29 = f) := by
  by_cases hf : f = -1
  · exact Or.inl ⟨hf, (h.1.1 hf).1⟩
  · exact Or.inr ⟨hf, h.1.2 hf⟩
theorem PQ_fail {b : Nat → Int} {n p : Nat} {im lm : IM} {f : Int} (h : PQ b n im lm p f) : PQ b n (if im 30 0 28 = 0 then up (up im 30 0 28 1) 30 0 29 (im 30 0 25) else im) lm p (if f = -1 then (p : Int) else f) ∧ agQ (if im 30 0 28 = 0 then up (up im 30 0 28 1) 30 0 29 (im 30 0 25) else im) im := by
  rcases h.b01 with ⟨hf, h28⟩ | ⟨hf, h28, h29⟩
  · rw [if_pos h28, if_pos hf]
    obtain ⟨hq, hR, hB, hpn, -⟩ := h
    obtain ⟨-, k25, -⟩ := hq.1 hf
    refine ⟨⟨⟨fun q => by omega, fun _ => ⟨by rw [up_app, if_neg (by omega), up_app, if_pos ⟨rfl, rfl, rfl⟩], by rw [up_app, if_pos ⟨rfl, rfl, rfl⟩]; exact k25⟩⟩, RI_up (RI_up hR (by constructor <;> omega)) (hR _ _ _), BRr_up (BRr_up hB (by omega) (by omega)) (by omega) (by omega), hpn, Or.inr (by rw [up_app, if_neg (by omega), up_app, if_pos ⟨rfl, rfl, rfl⟩])⟩, fun k i s hs => by rw [up_app, if_neg (by omega), up_app, if_neg (by omega)]⟩
  · rw [if_neg (by omega), if_neg hf]
    exact ⟨h, agQ_rfl im⟩
theorem c_failQ (l : Launch) (G : GS) (im : IM) (bt rt : Nat) (lm : IM) (b : Nat → Int) (n p : Nat) (f : Int) (h : PQ b n im lm p f) : Cn l (XR G) yX9_fail Y_X9_fail [vR 30 0] (im, rs bt rt, lm) (pV fun m' => ∃ im', PQ b n im' lm p (if f = -1 then (p : Int) else f) ∧ agQ im' im ∧ m' = (im', rs bt rt, lm)) := by
  refine (f_X9_fail l G im bt rt lm h.2.1).mono (fun r m' hq => ?_)
  have := PQ_fail h
  exact ⟨hq.1, _, this.1, this.2, hq.2⟩

set_option maxHeartbeats 4000000 in
theorem c_X9_isSign (l : Launch) (G : GS) (im : IM) (bt rt : Nat) (lm : IM) (b : Nat → Int) (n : Nat) (hb : byt b n) (p : Nat) (f : Int) (h : PQ b n im lm p f) (a : Int) (ha : 40 ≤ a) (ha2 : a < 100) : Cn l (XR G) yX9_isSign Y_X9_isSign [vR 30 0, vI a] (im, rs bt rt, lm) (pI fun x m' => x = (if f = -1 ∧ tk b n p = a then 1 else 0) ∧ m' = (im, rs bt rt, lm)) := by
  refine cn_of (by decide) (okR G) rfl (Nat.le_of_ble_eq_true rfl) ?_
  intro M ad hMl F
  subst hMl
  have hR := h.2.1
  have hbb := h.b01
  have hbw : f = -1 → im 30 0 24 = 3 → 0 ≤ lm 30 0 26 ∧ lm 30 0 26 ≤ 255 := by
    intro hf h3
    have hT := (h.1.1 hf).2.2
    have hpn := h.2.2.2.1
    have hn := hb.1
    have hlt : p < n := by
      refine Nat.lt_of_not_le (fun q => ?_)
      have := hT.1 q
      omega
    have hbp := hb.2 p (by omega)
    by_cases hl : isL (b p) = true
    · have := (hT.2.1 hlt hl).1
      omega
    · by_cases hd : isD (b p) = true
      · have := (hT.2.2.1 hlt hl hd).2.1
        split at this <;> omega
      · by_cases hg : sgn (b p)
        · have := ((hT.2.2.2 hlt hl hd).1 hg).2.1
          omega
        · have := (hT.2.2.2 hlt hl hd).2 hg
          omega
  have hTS : f = -1 → ((im 30 0 24 = 3 ∧ lm 30 0 26 = a) ↔ tk b n p = a) := fun hf => TK_sign (h.1.1 hf).2.2 ha
  refine wp_pad 0 ?_
  show Wp M (XR G) ad Y_X9_isSign (pI fun x m' => x = (if f = -1 ∧ tk b n p = a then 1 else 0) ∧ m' = (im, rs bt rt, lm)) 0 [some (vR 30 0), some (vI a)] [] (im, rs bt rt, lm)
  refine q_aload_n (t := 1) F dX9_isSign_0 rfl rfl rfl ?_
  refine g_X9_179 (t := 4) F dX9_isSign_1 rfl rfl ?_
  refine q_if_ne (t := 7) (u := 29) F dX9_isSign_4 (by exact hR _ _ _) (by decide) rfl (fun c4 => ?_) (fun c4 => ?_)
  · refine q_iconst (t := 30) F dX9_isSign_29 rfl ?_
    refine q_zret F dX9_isSign_30 rfl (by decide) ?_
    have e0 : cmpI (lm 30 0 26) a = 0 ↔ lm 30 0 26 = a := cmpI_eq
    refine ⟨_, rfl, ?_, rfl⟩
    by_cases hc : f = -1 ∧ tk b n p = a
    · refine Eq.trans ?_ (if_pos hc).symm
      have hh := (hTS hc.1).mpr hc.2
      omega
    · refine Eq.trans ?_ (if_neg hc).symm
      by_cases hf : f = -1
      · have hh : ¬ (im 30 0 24 = 3 ∧ lm 30 0 26 = a) := fun q => hc ⟨hf, (hTS hf).mp q⟩
        omega
      · omega
  · refine q_aload_n (t := 8) F dX9_isSign_7 rfl rfl rfl ?_
    refine g_X9_164 (t := 11) F dX9_isSign_8 rfl rfl ?_
    refine q_iconst (t := 12) F dX9_isSign_11 rfl ?_
    refine q_icmp_ne (t := 15) (u := 29) F dX9_isSign_12 (by exact hR _ _ _) (by constructor <;> omega) (by decide) rfl (fun c12 => ?_) (fun c12 => ?_)
    · refine q_iconst (t := 30) F dX9_isSign_29 rfl ?_
      refine q_zret F dX9_isSign_30 rfl (by decide) ?_
      have e0 : cmpI (lm 30 0 26) a = 0 ↔ lm 30 0 26 = a := cmpI_eq
      refine ⟨_, rfl, ?_, rfl⟩
      by_cases hc : f = -1 ∧ tk b n p = a
      · refine Eq.trans ?_ (if_pos hc).symm
        have hh := (hTS hc.1).mpr hc.2
        omega
      · refine Eq.trans ?_ (if_neg hc).symm
        by_cases hf : f = -1
        · have hh : ¬ (im 30 0 24 = 3 ∧ lm 30 0 26 = a) := fun q => hc ⟨hf, (hTS hf).mp q⟩
          omega
        · omega
    · refine q_aload_n (t := 16) F dX9_isSign_15 rfl rfl rfl ?_
      refine g_X9_175 (t := 19) F dX9_isSign_16 rfl rfl ?_
      refine q_iload_n (t := 20) F dX9_isSign_19 rfl rfl rfl ?_
      refine q_i2l (t := 21) F dX9_isSign_20 (by first | exact hR _ _ _ | (constructor <;> omega)) rfl ?_
      refine q_lcmp (t := 22) F dX9_isSign_21 ⟨by have := hbw (by omega) (by omega); omega, by have := hbw (by omega) (by omega); omega⟩ ⟨by omega, by omega⟩ rfl ?_
      refine q_if_ne (t := 25) (u := 29) F dX9_isSign_22 (by exact cmpI_ri _ _) (by decide) rfl (fun c22 => ?_) (fun c22 => ?_)
      · refine q_iconst (t := 30) F dX9_isSign_29 rfl ?_
        refine q_zret F dX9_isSign_30 rfl (by decide) ?_
        have e0 : cmpI (lm 30 0 26) a = 0 ↔ lm 30 0 26 = a := cmpI_eq
        refine ⟨_, rfl, ?_, rfl⟩
        by_cases hc : f = -1 ∧ tk b n p = a
        · refine Eq.trans ?_ (if_pos hc).symm
          have hh := (hTS hc.1).mpr hc.2
          omega
        · refine Eq.trans ?_ (if_neg hc).symm
          by_cases hf : f = -1
          · have hh : ¬ (im 30 0 24 = 3 ∧ lm 30 0 26 = a) := fun q => hc ⟨hf, (hTS hf).mp q⟩
            omega
          · omega
      · refine q_iconst (t := 26) F dX9_isSign_25 rfl ?_
        refine q_goto (t := 30) F dX9_isSign_26 (by decide) ?_
        refine q_zret F dX9_isSign_30 rfl (by decide) ?_
        have e0 : cmpI (lm 30 0 26) a = 0 ↔ lm 30 0 26 = a := cmpI_eq
        refine ⟨_, rfl, ?_, rfl⟩
        by_cases hc : f = -1 ∧ tk b n p = a
        · refine Eq.trans ?_ (if_pos hc).symm
          have hh := (hTS hc.1).mpr hc.2
          omega
        · refine Eq.trans ?_ (if_neg hc).symm
          by_cases hf : f = -1
          · have hh : ¬ (im 30 0 24 = 3 ∧ lm 30 0 26 = a) := fun q => hc ⟨hf, (hTS hf).mp q⟩
            omega
          · omega
