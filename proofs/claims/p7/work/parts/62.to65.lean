section
/-! where the reference's reading stands -/
def RQ (b : Nat → Int) (n : Nat) (im lm : IM) (p : Nat) (f : Int) : Prop := (f = -1 → im 30 0 28 = 0 ∧ im 30 0 25 = p ∧ TKr b n im lm p) ∧ (f ≠ -1 → im 30 0 28 = 1 ∧ im 30 0 29 = f)
def PQ (b : Nat → Int) (n : Nat) (im lm : IM) (p : Nat) (f : Int) : Prop := RQ b n im lm p f ∧ RI im ∧ BRr b n im ∧ p ≤ n ∧ (im 30 0 28 = 0 ∨ im 30 0 28 = 1)
/-- the same but for the reading -/
def agQ (a b : IM) : Prop := ∀ k i s, ¬ (k = 30 ∧ (23 ≤ s ∧ s ≤ 25 ∨ 28 ≤ s ∧ s ≤ 29)) → a k i s = b k i s
def lgQ (a b : IM) : Prop := ∀ k i s, ¬ (k = 30 ∧ s = 26) → a k i s = b k i s
theorem agQ_rfl (a : IM) : agQ a a := fun _ _ _ _ => rfl
theorem lgQ_rfl (a : IM) : lgQ a a := fun _ _ _ _ => rfl
theorem agQ.trans {a b c : IM} (h : agQ a b) (h2 : agQ b c) : agQ a c := fun k i s hs => (h k i s hs).trans (h2 k i s hs)
theorem lgQ.trans {a b c : IM} (h : lgQ a b) (h2 : lgQ b c) : lgQ a c := fun k i s hs => (h k i s hs).trans (h2 k i s hs)
theorem tkW_in {i : Int} (h : -1 ≤ i ∧ i < 12) : 1 ≤ tkW i ∧ tkW i ≤ 9 := by
  unfold tkW
  (repeat' split) <;> omega
theorem TK_sign {b : Nat → Int} {n p : Nat} {im lm : IM} {s : Int} (h : TKr b n im lm p) (hs : 40 ≤ s) : (im 30 0 24 = 3 ∧ lm 30 0 26 = s) ↔ tk b n p = s := by
  obtain ⟨h0, h1, h2, h3⟩ := h
  have hw := tkW_in (wIx_in b p (span isL b n p) 12)
  by_cases hp : n ≤ p
  · have e := h0 hp
    rw [tk_0 hp]
    omega
  · by_cases hl : isL (b p) = true
    · have e := h1 (by omega) hl
      have e2 : tk b n p = tkW (wIx b p (span isL b n p) 12) := by unfold tk; rw [if_neg hp, if_pos hl]
      omega
    · by_cases hd : isD (b p) = true
      · have e := (h2 (by omega) hl hd).2.1
        have e2 : tk b n p = (if 4 < span isD b n p - p then 1 else 2) := by unfold tk; rw [if_neg hp, if_neg hl, if_pos hd]
        rw [e2]
        split at e <;> split <;> omega
      · have e := h3 (by omega) hl hd
        have e2 : tk b n p = (if sgn (b p) then b p else 1) := by unfold tk; rw [if_neg hp, if_neg hl, if_neg hd]
        rw [e2]
        by_cases hg : sgn (b p)
        · have e3 := e.1 hg
          rw [if_pos hg]
          omega
        · have e3 := e.2 hg
          rw [if_neg hg]
          omega
theorem TK_num {b : Nat → Int} {n p : Nat} {im lm : IM} (h : TKr b n im lm p) : (im 30 0 24 = 2 ↔ tk b n p = 2) ∧ (tk b n p = 2 → lm 30 0 26 = vl b n p) := by
  obtain ⟨h0, h1, h2, h3⟩ := h
  have hw := wIx_in b p (span isL b n p) 12
  by_cases hp : n ≤ p
  · have e := h0 hp
    rw [tk_0 hp]
    omega
  · by_cases hl : isL (b p) = true
    · have e := h1 (by omega) hl
      have e2 : tk b n p = tkW (wIx b p (span isL b n p) 12) := by unfold tk; rw [if_neg hp, if_pos hl]
      have e3 : tkW (wIx b p (span isL b n p) 12) ≠ 2 := by unfold tkW; (repeat' split) <;> omega
      omega
    · by_cases hd : isD (b p) = true
      · have e := h2 (by omega) hl hd
        have e1 := e.2.1
        have e2 : tk b n p = (if 4 < span isD b n p - p then 1 else 2) := by unfold tk; rw [if_neg hp, if_neg hl, if_pos hd]
        have e4 : vl b n p = numF b p (span isD b n p - p) := by unfold vl; rw [if_neg hl]
        rw [e2, e4]
        split at e1
        · rw [if_pos (by assumption)]; omega
        · rw [if_neg (by assumption)]
          exact ⟨by omega, fun _ => e.2.2 (by omega)⟩
      · have e := h3 (by omega) hl hd
        have e2 : tk b n p = (if sgn (b p) then b p else 1) := by unfold tk; rw [if_neg hp, if_neg hl, if_neg hd]
        rw [e2]
        by_cases hg : sgn (b p)
        · have e3 := e.1 hg
          rw [if_pos hg]
          unfold sgn at hg
          omega
        · have e3 := e.2 hg
          rw [if_neg hg]
          omega
theorem TK_word {b : Nat → Int} {n p : Nat} {im lm : IM} (h : TKr b n im lm p) : (im 30 0 24 = 1 ↔ p < n ∧ isL (b p) = true) ∧ (im 30 0 24 = 0 ↔ tk b n p = 0) := by
  obtain ⟨h0, h1, h2, h3⟩ := h
  have hw := tkW_in (wIx_in b p (span isL b n p) 12)
  by_cases hp : n ≤ p
  · have e := h0 hp
    rw [tk_0 hp]
    exact ⟨⟨fun q => by omega, fun q => by omega⟩, by omega⟩
  · by_cases hl : isL (b p) = true
    · have e := h1 (by omega) hl
      have e2 : tk b n p = tkW (wIx b p (span isL b n p) 12) := by unfold tk; rw [if_neg hp, if_pos hl]
      exact ⟨⟨fun _ => ⟨by omega, hl⟩, fun _ => e.1⟩, by omega⟩
    · by_cases hd : isD (b p) = true
      · have e := (h2 (by omega) hl hd).2.1
        have e2 : tk b n p = (if 4 < span isD b n p - p then 1 else 2) := by unfold tk; rw [if_neg hp, if_neg hl, if_pos hd]
        rw [e2]
        refine ⟨⟨fun q => ?_, fun q => absurd q.2 hl⟩, ?_⟩
        · split at e <;> omega
        · split at e <;> split <;> omega
      · have e := h3 (by omega) hl hd
        have e2 : tk b n p = (if sgn (b p) then b p else 1) := by unfold tk; rw [if_neg hp, if_neg hl, if_neg hd]
        rw [e2]
        by_cases hg : sgn (b p)
        · have e3 := e.1 hg
          rw [if_pos hg]
          refine ⟨⟨fun q => by omega, fun q => absurd q.2 hl⟩, ?_⟩
          unfold sgn at hg
          omega
        · have e3 := e.2 hg
          rw [if_neg hg]
          exact ⟨⟨fun q => by omega, fun q => absurd q.2 hl⟩, by omega⟩
theorem TK_nx {b : Nat → Int} {n p : Nat} {im lm : IM} (h : TKr b n im lm p) (hp : p < n) (h1t : tk b n p ≠ 1) : im 30 0 23 = nx b n p := by
  obtain ⟨h0, h1, h2, h3⟩ := h
  unfold nx
  rw [if_neg (by omega)]
  by_cases hl : isL (b p) = true
  · rw [if_pos hl]; exact (h1 hp hl).2
  · rw [if_neg hl]
    by_cases hd : isD (b p) = true
    · rw [if_pos hd]; exact (h2 hp hl hd).1
    · rw [if_neg hd]
      by_cases hg : sgn (b p)
      · have := ((h3 hp hl hd).1 hg).2.2
        omega
      · exfalso
        apply h1t
        unfold tk
        rw [if_neg (by omega), if_neg hl, if_neg hd, if_neg hg]
/-- behind a token -/
theorem c_nextQ (l : Launch) (G : GS) (im : IM) (bt rt : Nat) (lm : IM) (b : Nat → Int) (n : Nat) (hb : byt b n) (p : Nat) (h : PQ b n im lm p (-1)) (hp : p < n) (ht : tk b n p ≠ 1) : Cn l (XR G) yX9_next Y_X9_next [vR 30 0] (im, rs bt rt, lm) (pV fun m' => ∃ im' lm', PQ b n im' lm' (adv b n p) (-1) ∧ agQ im' im ∧ lgQ lm' lm ∧ m' = (im', rs bt rt, lm')) := by
  obtain ⟨hq, hR, hB, hpn, h28⟩ := h
  obtain ⟨k28, k25, kT⟩ := hq.1 rfl
  have hnx := nx_in (b := b) hp
  refine (c_X9_next l G im bt rt lm b n hb hR hB (nx b n p) hnx.2 (TK_nx kT hp ht)).mono (fun r m' hq => ?_)
  obtain ⟨hr, im', lm', hR', hT', h25, hag, hlg, hm⟩ := hq
  have e28 : im' 30 0 28 = im 30 0 28 := hag 30 0 28 (by omega)
  exact ⟨hr, im', lm', ⟨⟨fun _ => ⟨e28.trans k28, h25, hT'⟩, fun q => absurd rfl q⟩, hR', BRr_agN hB hag, (adv_in hp).2, by rw [e28]; exact h28⟩, fun k i s hs => hag k i s (by omega), fun k i s hs => hlg k i s hs, hm⟩
theorem PQ.b01 {b : Nat → Int} {n p : Nat} {im lm : IM} {f : Int} (h : PQ b n im lm p f) : (f = -1 ∧ im 30 0 28 = 0) ∨ (f ≠ -1 ∧ im 30 0 28 = 1 ∧ im 30 0 29 = f) := by
  by_cases hf : f = -1
  · exact Or.inl ⟨hf, (h.1.1 hf).1⟩
  · exact Or.inr ⟨hf, h.1.2 hf⟩
theorem PQ_fail {b : Nat → Int} {n p : Nat} {im lm : IM} {f : Int} (h : PQ b n im lm p f) : PQ b n (if im 30 0 28 = 0 then up (up im 30 0 28 1) 30 0 29 (im 30 0 25) else im) lm p (if f = -1 then (p : Int) else f) ∧ agQ (if im 30 0 28 = 0 then up (up im 30 0 28 1) 30 0 29 (im 30 0 25) else im) im := by
  rcases h.b01 with ⟨hf, h28⟩ | ⟨hf, h28, h29⟩
  · rw [if_pos h28, if_pos hf]
    obtain ⟨hq, hR, hB, hpn, -⟩ := h
    obtain ⟨-, k25, -⟩ := hq.1 hf
    refine ⟨⟨⟨fun q => by omega, fun _ => ⟨by rw [up_app, if_neg (by omega), up_app, if_pos ⟨rfl, rfl, rfl⟩], by rw [up_app, if_pos ⟨rfl, rfl, rfl⟩]; exact k25⟩⟩, RI_up (RI_up hR (by constructor <;> omega)) (hR _ _ _), BRr_up (BRr_up hB (by omega) (by omega)) (by omega) (by omega), hpn, Or.inr (by rw [up_app, if_neg (by omega), up_app, if_pos ⟨rfl, rfl, rfl⟩])⟩, fun k i s hs => by rw [up_app, if_neg (by omega), up_app, if_neg (by omega)]⟩
  · rw [if_neg (by omega), if_neg hf]
    exact ⟨h, agQ_rfl im⟩
theorem c_failQ (l : Launch) (G : GS) (im : IM) (bt rt : Nat) (lm : IM) (b : Nat → Int) (n p : Nat) (f : Int) (h : PQ b n im lm p f) : Cn l (XR G) yX9_fail Y_X9_fail [vR 30 0] (im, rs bt rt, lm) (pV fun m' => ∃ im', PQ b n im' lm p (if f = -1 then (p : Int) else f) ∧ agQ im' im ∧ m' = (im', rs bt rt, lm)) := by
  refine (f_X9_fail l G im bt rt lm h.2.1).mono (fun r m' hq => ?_)
  have := PQ_fail h
  exact ⟨hq.1, _, this.1, this.2, hq.2⟩

set_option maxHeartbeats 4000000 in
theorem c_X9_isSign (l : Launch) (G : GS) (im : IM) (bt rt : Nat) (lm : IM) (b : Nat → Int) (n : Nat) (hb : byt b n) (p : Nat) (f : Int) (h : PQ b n im lm p f) (a : Int) (ha : 40 ≤ a) (ha2 : a < 100) : Cn l (XR G) yX9_isSign Y_X9_isSign [vR 30 0, vI a] (im, rs bt rt, lm) (pI fun x m' => x = (if f = -1 ∧ tk b n p = a then 1 else 0) ∧ m' = (im, rs bt rt, lm)) := by
  refine cn_of (by decide) (okR G) rfl (Nat.le_of_ble_eq_true rfl) ?_
  intro M ad hMl F
  subst hMl
  have hR := h.2.1
  have hbb := h.b01
  have hbw : f = -1 → im 30 0 24 = 3 → 0 ≤ lm 30 0 26 ∧ lm 30 0 26 ≤ 255 := by
    intro hf h3
    have hT := (h.1.1 hf).2.2
    have hpn := h.2.2.2.1
    have hn := hb.1
    have hlt : p < n := by
      refine Nat.lt_of_not_le (fun q => ?_)
      have := hT.1 q
      omega
    have hbp := hb.2 p (by omega)
    by_cases hl : isL (b p) = true
    · have := (hT.2.1 hlt hl).1
      omega
    · by_cases hd : isD (b p) = true
      · have := (hT.2.2.1 hlt hl hd).2.1
        split at this <;> omega
      · by_cases hg : sgn (b p)
        · have := ((hT.2.2.2 hlt hl hd).1 hg).2.1
          omega
        · have := (hT.2.2.2 hlt hl hd).2 hg
          omega
  have hTS : f = -1 → ((im 30 0 24 = 3 ∧ lm 30 0 26 = a) ↔ tk b n p = a) := fun hf => TK_sign (h.1.1 hf).2.2 ha
  refine wp_pad 0 ?_
  show Wp M (XR G) ad Y_X9_isSign (pI fun x m' => x = (if f = -1 ∧ tk b n p = a then 1 else 0) ∧ m' = (im, rs bt rt, lm)) 0 [some (vR 30 0), some (vI a)] [] (im, rs bt rt, lm)
  refine q_aload_n (t := 1) F dX9_isSign_0 rfl rfl rfl ?_
  refine g_X9_179 (t := 4) F dX9_isSign_1 rfl rfl ?_
  refine q_if_ne (t := 7) (u := 29) F dX9_isSign_4 (by exact hR _ _ _) (by decide) rfl (fun c4 => ?_) (fun c4 => ?_)
  · refine q_iconst (t := 30) F dX9_isSign_29 rfl ?_
    refine q_zret F dX9_isSign_30 rfl (by decide) ?_
    have e0 : cmpI (lm 30 0 26) a = 0 ↔ lm 30 0 26 = a := cmpI_eq
    refine ⟨_, rfl, ?_, rfl⟩
    by_cases hc : f = -1 ∧ tk b n p = a
    · refine Eq.trans ?_ (if_pos hc).symm
      have hh := (hTS hc.1).mpr hc.2
      omega
    · refine Eq.trans ?_ (if_neg hc).symm
      by_cases hf : f = -1
      · have hh : ¬ (im 30 0 24 = 3 ∧ lm 30 0 26 = a) := fun q => hc ⟨hf, (hTS hf).mp q⟩
        omega
      · omega
  · refine q_aload_n (t := 8) F dX9_isSign_7 rfl rfl rfl ?_
    refine g_X9_164 (t := 11) F dX9_isSign_8 rfl rfl ?_
    refine q_iconst (t := 12) F dX9_isSign_11 rfl ?_
    refine q_icmp_ne (t := 15) (u := 29) F dX9_isSign_12 (by exact hR _ _ _) (by constructor <;> omega) (by decide) rfl (fun c12 => ?_) (fun c12 => ?_)
    · refine q_iconst (t := 30) F dX9_isSign_29 rfl ?_
      refine q_zret F dX9_isSign_30 rfl (by decide) ?_
      have e0 : cmpI (lm 30 0 26) a = 0 ↔ lm 30 0 26 = a := cmpI_eq
      refine ⟨_, rfl, ?_, rfl⟩
      by_cases hc : f = -1 ∧ tk b n p = a
      · refine Eq.trans ?_ (if_pos hc).symm
        have hh := (hTS hc.1).mpr hc.2
        omega
      · refine Eq.trans ?_ (if_neg hc).symm
        by_cases hf : f = -1
        · have hh : ¬ (im 30 0 24 = 3 ∧ lm 30 0 26 = a) := fun q => hc ⟨hf, (hTS hf).mp q⟩
          omega
        · omega
    · refine q_aload_n (t := 16) F dX9_isSign_15 rfl rfl rfl ?_
      refine g_X9_175 (t := 19) F dX9_isSign_16 rfl rfl ?_
      refine q_iload_n (t := 20) F dX9_isSign_19 rfl rfl rfl ?_
      refine q_i2l (t := 21) F dX9_isSign_20 (by first | exact hR _ _ _ | (constructor <;> omega)) rfl ?_
      refine q_lcmp (t := 22) F dX9_isSign_21 ⟨by have := hbw (by omega) (by omega); omega, by have := hbw (by omega) (by omega); omega⟩ ⟨by omega, by omega⟩ rfl ?_
      refine q_if_ne (t := 25) (u := 29) F dX9_isSign_22 (by exact cmpI_ri _ _) (by decide) rfl (fun c22 => ?_) (fun c22 => ?_)
      · refine q_iconst (t := 30) F dX9_isSign_29 rfl ?_
        refine q_zret F dX9_isSign_30 rfl (by decide) ?_
        have e0 : cmpI (lm 30 0 26) a = 0 ↔ lm 30 0 26 = a := cmpI_eq
        refine ⟨_, rfl, ?_, rfl⟩
        by_cases hc : f = -1 ∧ tk b n p = a
        · refine Eq.trans ?_ (if_pos hc).symm
          have hh := (hTS hc.1).mpr hc.2
          omega
        · refine Eq.trans ?_ (if_neg hc).symm
          by_cases hf : f = -1
          · have hh : ¬ (im 30 0 24 = 3 ∧ lm 30 0 26 = a) := fun q => hc ⟨hf, (hTS hf).mp q⟩
            omega
          · omega
      · refine q_iconst (t := 26) F dX9_isSign_25 rfl ?_
        refine q_goto (t := 30) F dX9_isSign_26 (by decide) ?_
        refine q_zret F dX9_isSign_30 rfl (by decide) ?_
        have e0 : cmpI (lm 30 0 26) a = 0 ↔ lm 30 0 26 = a := cmpI_eq
        refine ⟨_, rfl, ?_, rfl⟩
        by_cases hc : f = -1 ∧ tk b n p = a
        · refine Eq.trans ?_ (if_pos hc).symm
          have hh := (hTS hc.1).mpr hc.2
          omega
        · refine Eq.trans ?_ (if_neg hc).symm
          by_cases hf : f = -1
          · have hh : ¬ (im 30 0 24 = 3 ∧ lm 30 0 26 = a) := fun q => hc ⟨hf, (hTS hf).mp q⟩
            omega
          · omega
end
section
/-! the known words, as the reference asks for them: eight letters, 0 behind the last -/
def wlr (i k : Nat) : Int := if k < lenS.getD i 0 then letS i k else 0
theorem wl_0 : ∀ i, i < 12 → ∀ k, k < 8 → lenS.getD i 0 ≤ 6 ∧ 0 < lenS.getD i 0 ∧ (wlr i k = 0 ↔ lenS.getD i 0 ≤ k) := by decide
theorem wl_ri : ∀ i, i < 12 → ∀ k, k < 8 → 0 ≤ wlr i k ∧ wlr i k ≤ 122 := by decide
theorem wl_ne : ∀ i, i < 12 → ∀ i2, i2 < 12 → i ≠ i2 → lenS.getD i 0 ≠ lenS.getD i2 0 ∨ ∃ j, j < 8 ∧ j < lenS.getD i 0 ∧ letS i j ≠ letS i2 j := by decide
theorem std_one {b : Nat → Int} {p q i i2 : Nat} (hi : i < 12) (hi2 : i2 < 12) (h : stdS b p q i) (h2 : stdS b p q i2) : i = i2 := by
  by_cases e : i = i2
  · exact e
  · exfalso
    rcases wl_ne i hi i2 hi2 e with k | ⟨j, hj, hj2, k⟩
    · exact k (h.1.trans h2.1.symm)
    · exact k ((h.2 j hj2).symm.trans (h2.2 j (by rw [h2.1, ← h.1]; exact hj2)))
theorem wIx_std {b : Nat → Int} {p q i : Nat} (hi : i < 12) (h : stdS b p q i) : ∀ N, i < N → N ≤ 12 → wIx b p q N = i := by
  intro N
  induction N with
  | zero => intro q; omega
  | succ N ih =>
    intro h1 h2
    rw [wIx_s]
    split
    · rename_i hs
      rw [std_one (by omega) hi hs h]
    · rename_i hs
      refine ih ?_ (by omega)
      refine Nat.lt_of_le_of_ne (by omega) (fun e => hs (e ▸ h))
theorem wIx_of {b : Nat → Int} {p q : Nat} : ∀ N : Nat, wIx b p q N ≠ -1 → stdS b p q (wIx b p q N).toNat := by
  intro N
  induction N with
  | zero => intro h; exact absurd rfl h
  | succ N ih =>
    rw [wIx_s]
    split
    · rename_i hs
      intro _
      exact hs
    · exact ih
theorem wIx_iff {b : Nat → Int} {p q i : Nat} (hi : i < 12) : wIx b p q 12 = i ↔ stdS b p q i := by
  constructor
  · intro h
    have := wIx_of (b := b) (p := p) (q := q) 12 (by omega)
    rw [h] at this
    exact this
  · intro h
    exact wIx_std hi h 12 hi (Nat.le_refl 12)
theorem std_iff {b : Nat → Int} {n p e i : Nat} (hi : i < 12) (hpe : p < e) (hl : ∀ q, p ≤ q → q < e → isL (b q) = true) : stdS b p e i ↔ (e ≤ p + 8 ∧ ∀ k, k < 8 → (p + k < e ∧ b (p + k) = wlr i k ∨ e ≤ p + k ∧ wlr i k = 0)) := by
  have h6 := (wl_0 i hi 0 (by omega)).1
  have h7 := (wl_0 i hi 0 (by omega)).2.1
  constructor
  · intro h
    have hL := h.1
    refine ⟨by omega, fun k hk => ?_⟩
    have hw := (wl_0 i hi k hk).2.2
    by_cases hke : p + k < e
    · refine Or.inl ⟨hke, ?_⟩
      have hkl : k < lenS.getD i 0 := by omega
      rw [h.2 k hkl]
      unfold wlr
      rw [if_pos hkl]
    · exact Or.inr ⟨by omega, hw.mpr (by omega)⟩
  · intro h
    have hlen : lenS.getD i 0 = e - p := by
      refine Nat.le_antisymm ?_ ?_
      · by_cases hq : lenS.getD i 0 ≤ e - p
        · exact hq
        · exfalso
          have hk : e - p < 8 := by omega
          have h1 := h.2 (e - p) hk
          have hw := (wl_0 i hi (e - p) hk).2.2
          rcases h1 with k | k
          · omega
          · exact hq (hw.mp k.2)
      · by_cases hq : e - p ≤ lenS.getD i 0
        · exact hq
        · exfalso
          have hk : lenS.getD i 0 < 8 := by omega
          have h1 := h.2 (lenS.getD i 0) hk
          have hw := (wl_0 i hi (lenS.getD i 0) hk).2.2.mpr (Nat.le_refl _)
          have hl1 := isL_iff.mp (hl (p + lenS.getD i 0) (by omega) (by omega))
          rcases h1 with k | k <;> omega
    refine ⟨hlen, fun j hj => ?_⟩
    have h1 := h.2 j (by omega)
    have hw : wlr i j = letS i j := by unfold wlr; rw [if_pos hj]
    rcases h1 with k | k
    · exact k.2.trans hw
    · omega
/-- the word at hand is that one -/
abbrev wd (b : Nat → Int) (n p i : Nat) : Prop := p < n ∧ isL (b p) = true ∧ wIx b p (span isL b n p) 12 = i
theorem tk_L {b : Nat → Int} {n p : Nat} (hp : p < n) (hl : isL (b p) = true) : tk b n p = tkW (wIx b p (span isL b n p) 12) ∧ vl b n p = wIx b p (span isL b n p) 12 := by
  unfold tk vl
  rw [if_neg (by omega), if_pos hl, if_pos hl]
  exact ⟨rfl, rfl⟩
theorem tk_nL {b : Nat → Int} {n p : Nat} (h : ¬ (p < n ∧ isL (b p) = true)) : tk b n p < 3 ∨ 40 ≤ tk b n p := by
  unfold tk sgn
  by_cases hp : n ≤ p
  · rw [if_pos hp]; omega
  · rw [if_neg hp, if_neg (fun q => h ⟨by omega, q⟩)]
    (repeat' split) <;> omega
theorem wd_kw {b : Nat → Int} {n p i : Nat} (h1 : 6 ≤ i) (h2 : i < 12) : wd b n p i ↔ tk b n p = (i : Int) - 2 := by
  unfold wd
  constructor
  · intro ⟨hp, hl, h⟩
    rw [(tk_L hp hl).1, h]
    unfold tkW
    rw [if_neg (by omega), if_neg (by omega)]
  · intro h
    by_cases hc : p < n ∧ isL (b p) = true
    · refine ⟨hc.1, hc.2, ?_⟩
      rw [(tk_L hc.1 hc.2).1] at h
      unfold tkW at h
      (repeat' split at h) <;> omega
    · have := tk_nL hc
      omega
theorem wd_nm {b : Nat → Int} {n p i : Nat} (h2 : i < 6) : wd b n p i ↔ tk b n p = 3 ∧ vl b n p = i := by
  unfold wd
  have hw := wIx_in b p (span isL b n p) 12
  constructor
  · intro ⟨hp, hl, h⟩
    rw [(tk_L hp hl).1, (tk_L hp hl).2, h]
    refine ⟨?_, rfl⟩
    unfold tkW
    rw [if_neg (by omega), if_pos (by omega)]
  · intro ⟨h, h3⟩
    by_cases hc : p < n ∧ isL (b p) = true
    · refine ⟨hc.1, hc.2, ?_⟩
      rw [(tk_L hc.1 hc.2).2] at h3
      exact h3
    · have := tk_nL hc
      omega
theorem tk_3 {b : Nat → Int} {n p : Nat} (h : tk b n p = 3) : ∃ i : Nat, i < 6 ∧ vl b n p = i ∧ wd b n p i := by
  by_cases hc : p < n ∧ isL (b p) = true
  · have hw := wIx_in b p (span isL b n p) 12
    have e := tk_L hc.1 hc.2
    rw [h] at e
    have e1 := e.1
    unfold tkW at e1
    obtain ⟨i, hi⟩ : ∃ i : Nat, wIx b p (span isL b n p) 12 = i := ⟨(wIx b p (span isL b n p) 12).toNat, by split at e1; omega; split at e1 <;> omega⟩
    refine ⟨i, ?_, e.2.trans hi, hc.1, hc.2, hi⟩
    split at e1
    · omega
    · split at e1 <;> omega
  · have := tk_nL hc
    omega
/-- the end of the token at hand -/
def eT (b : Nat → Int) (n p : Nat) : Nat := span isL b n p

set_option maxHeartbeats 4000000 in
theorem c_X9_isLetter (l : Launch) (G : GS) (im : IM) (bt rt : Nat) (lm : IM) (b : Nat → Int) (n : Nat) (hb : byt b n) (hR : RI im) (hB : BRr b n im) (p e : Nat) (he : e ≤ n) (h25 : im 30 0 25 = p) (h23 : im 30 0 23 = e) (k : Nat) (hk : k < 8) (hpn : p ≤ n) (c : Int) (hc : 0 ≤ c ∧ c ≤ 122) : Cn l (XR G) yX9_isLetter Y_X9_isLetter [vR 30 0, vI (k : Int), vI c] (im, rs bt rt, lm) (pI fun x m' => x = (if p + k < e ∧ b (p + k) = c ∨ e ≤ p + k ∧ c = 0 then 1 else 0) ∧ m' = (im, rs bt rt, lm)) := by
  refine cn_of (by decide) (okR G) rfl (Nat.le_of_ble_eq_true rfl) ?_
  intro M ad hMl F
  subst hMl
  have hn := hb.1
  have e25 : im 30 0 25 + (k : Int) = ((p + k : Nat) : Int) := by omega
  have hbp : p + k < n → 0 ≤ b (p + k) ∧ b (p + k) ≤ 255 := fun q => hb.2 (p + k) (by omega)
  refine wp_pad 0 ?_
  show Wp M (XR G) ad Y_X9_isLetter (pI fun x m' => x = (if p + k < e ∧ b (p + k) = c ∨ e ≤ p + k ∧ c = 0 then 1 else 0) ∧ m' = (im, rs bt rt, lm)) 0 [some (vR 30 0), some (vI (k : Int)), some (vI c)] [] (im, rs bt rt, lm)
  refine q_aload_n (t := 1) F dX9_isLetter_0 rfl rfl rfl ?_
  refine g_X9_161 (t := 4) F dX9_isLetter_1 rfl rfl ?_
  refine q_iload_n (t := 5) F dX9_isLetter_4 rfl rfl rfl ?_
  refine q_iadd (t := 6) F dX9_isLetter_5 rfl ?_
  refine q_aload_n (t := 7) F dX9_isLetter_6 rfl rfl rfl ?_
  refine g_X9_155 (t := 10) F dX9_isLetter_7 rfl rfl ?_
  refine q_icmp_ge (t := 13) (u := 35) F dX9_isLetter_10 (by rw [h25]; constructor <;> omega) (by rw [h23]; constructor <;> omega) (by decide) rfl (fun c10 => ?_) (fun c10 => ?_)
  · refine q_iload_n (t := 36) F dX9_isLetter_35 rfl rfl rfl ?_
    refine q_if_ne (t := 39) (u := 43) F dX9_isLetter_36 (by constructor <;> omega) (by decide) rfl (fun c36 => ?_) (fun c36 => ?_)
    · refine q_iconst (t := 44) F dX9_isLetter_43 rfl ?_
      refine q_zret F dX9_isLetter_44 rfl (by decide) ?_
      refine ⟨_, rfl, ?_, rfl⟩
      refine Eq.symm ?_
      first
        | exact if_pos (by omega)
        | exact if_neg (by omega)
    · refine q_iconst (t := 40) F dX9_isLetter_39 rfl ?_
      refine q_goto (t := 44) F dX9_isLetter_40 (by decide) ?_
      refine q_zret F dX9_isLetter_44 rfl (by decide) ?_
      refine ⟨_, rfl, ?_, rfl⟩
      refine Eq.symm ?_
      first
        | exact if_pos (by omega)
        | exact if_neg (by omega)
  · refine q_aload_n (t := 14) F dX9_isLetter_13 rfl rfl rfl ?_
    refine q_aload_n (t := 15) F dX9_isLetter_14 rfl rfl rfl ?_
    refine g_X9_161 (t := 18) F dX9_isLetter_15 rfl rfl ?_
    refine q_iload_n (t := 19) F dX9_isLetter_18 rfl rfl rfl ?_
    refine q_iadd (t := 20) F dX9_isLetter_19 rfl ?_
    rw [e25]
    refine wp_callV (t := 23) [_] F dX9_isLetter_20 k_X9_byteAt v_X9_byteAt ml_X9_158 rfl rfl rfl rfl (Nat.le_of_ble_eq_true rfl) (by decide) (m_30 (by omega)) (c_X9_byteAt _ G im bt rt _ b n hb hR hB (p + k) (by omega)) rfl (kI ?_)
    rintro x20 m' ⟨hx20, rfl⟩
    refine q_iload_n (t := 24) F dX9_isLetter_23 rfl rfl rfl ?_
    refine q_icmp_ne (t := 27) (u := 31) F dX9_isLetter_24 (by rcases hx20 with q | q <;> constructor <;> omega) (by constructor <;> omega) (by decide) rfl (fun c24 => ?_) (fun c24 => ?_)
    · refine q_iconst (t := 32) F dX9_isLetter_31 rfl ?_
      refine q_goto (t := 44) F dX9_isLetter_32 (by decide) ?_
      refine q_zret F dX9_isLetter_44 rfl (by decide) ?_
      refine ⟨_, rfl, ?_, rfl⟩
      refine Eq.symm ?_
      first
        | exact if_pos (by omega)
        | exact if_neg (by omega)
    · refine q_iconst (t := 28) F dX9_isLetter_27 rfl ?_
      refine q_goto (t := 44) F dX9_isLetter_28 (by decide) ?_
      refine q_zret F dX9_isLetter_44 rfl (by decide) ?_
      refine ⟨_, rfl, ?_, rfl⟩
      refine Eq.symm ?_
      first
        | exact if_pos (by omega)
        | exact if_neg (by omega)
end
section
/-! a known word, what is opened, a name -/
theorem TK_end {b : Nat → Int} {n p : Nat} {im lm : IM} (hn : p ≤ n) (h : TKr b n im lm p) (h1 : im 30 0 24 = 1) : p < n ∧ isL (b p) = true ∧ im 30 0 23 = (span isL b n p : Nat) := by
  have e := (TK_word h).1.mp h1
  exact ⟨e.1, e.2, (h.2.1 e.1 e.2).2⟩
abbrev wdL (b : Nat → Int) (p e i k : Nat) : Prop := p + k < e ∧ b (p + k) = wlr i k ∨ e ≤ p + k ∧ wlr i k = 0
theorem wd_L {b : Nat → Int} {n p i : Nat} (hp : p < n) (hl : isL (b p) = true) (hi : i < 12) : wd b n p i ↔ (span isL b n p ≤ p + 8 ∧ wdL b p (span isL b n p) i 0 ∧ wdL b p (span isL b n p) i 1 ∧ wdL b p (span isL b n p) i 2 ∧ wdL b p (span isL b n p) i 3 ∧ wdL b p (span isL b n p) i 4 ∧ wdL b p (span isL b n p) i 5 ∧ wdL b p (span isL b n p) i 6 ∧ wdL b p (span isL b n p) i 7) := by
  have hs := span_in isL b n _ p rfl
  have hlt : p < span isL b n p := by
    rw [span_y hp hl]
    have := span_in isL b n _ (p + 1) rfl
    omega
  have h1 := std_iff (n := n) hi hlt (fun q hq hq2 => span_all _ p rfl q hq hq2)
  unfold wd
  rw [wIx_iff hi, h1]
  constructor
  · intro ⟨_, _, h8, h⟩
    exact ⟨h8, h 0 (by omega), h 1 (by omega), h 2 (by omega), h 3 (by omega), h 4 (by omega), h 5 (by omega), h 6 (by omega), h 7 (by omega)⟩
  · intro ⟨h8, a0, a1, a2, a3, a4, a5, a6, a7⟩
    refine ⟨hp, hl, h8, fun k hk => ?_⟩
    rcases (show k = 0 ∨ k = 1 ∨ k = 2 ∨ k = 3 ∨ k = 4 ∨ k = 5 ∨ k = 6 ∨ k = 7 by omega) with rfl | rfl | rfl | rfl | rfl | rfl | rfl | rfl
    · exact a0
    · exact a1
    · exact a2
    · exact a3
    · exact a4
    · exact a5
    · exact a6
    · exact a7

set_option maxHeartbeats 4000000 in
theorem c_X9_isWord_ (l : Launch) (G : GS) (im : IM) (bt rt : Nat) (lm : IM) (b : Nat → Int) (n : Nat) (hb : byt b n) (p : Nat) (f : Int) (h : PQ b n im lm p f) (i : Nat) (hi : i < 12) : Cn l (XR G) yX9_isWord_ Y_X9_isWord_ [vR 30 0, vI (wlr i 0), vI (wlr i 1), vI (wlr i 2), vI (wlr i 3), vI (wlr i 4), vI (wlr i 5), vI (wlr i 6), vI (wlr i 7)] (im, rs bt rt, lm) (pI fun x m' => x = (if f = -1 ∧ wd b n p i then 1 else 0) ∧ m' = (im, rs bt rt, lm)) := by
  refine cn_of (by decide) (okR G) rfl (Nat.le_of_ble_eq_true rfl) ?_
  intro M ad hMl F
  subst hMl
  have hR := h.2.1
  have hB := h.2.2.1
  have hpn := h.2.2.2.1
  have hn := hb.1
  have hbb := h.b01
  have hT1 : f = -1 → im 30 0 24 = 1 → p < n ∧ isL (b p) = true ∧ im 30 0 23 = (span isL b n p : Nat) := fun hf h1 => TK_end hpn (h.1.1 hf).2.2 h1
  have hT2 : f = -1 → p < n → isL (b p) = true → im 30 0 24 = 1 := fun hf h1 h2 => ((h.1.1 hf).2.2.2.1 h1 h2).1
  refine wp_pad 0 ?_
  show Wp M (XR G) ad Y_X9_isWord_ (pI fun x m' => x = (if f = -1 ∧ wd b n p i then 1 else 0) ∧ m' = (im, rs bt rt, lm)) 0 [some (vR 30 0), some (vI (wlr i 0)), some (vI (wlr i 1)), some (vI (wlr i 2)), some (vI (wlr i 3)), some (vI (wlr i 4)), some (vI (wlr i 5)), some (vI (wlr i 6)), some (vI (wlr i 7))] [] (im, rs bt rt, lm)
  refine q_aload_n (t := 1) F dX9_isWord__0 rfl rfl rfl ?_
  refine g_X9_179 (t := 4) F dX9_isWord__1 rfl rfl ?_
  refine q_if_ne (t := 7) (u := 112) F dX9_isWord__4 (by exact hR _ _ _) (by decide) rfl (fun c4 => ?_) (fun c4 => ?_)
  · refine q_iconst (t := 113) F dX9_isWord__112 rfl ?_
    refine q_zret F dX9_isWord__113 rfl (by decide) ?_
    refine ⟨_, rfl, ?_, rfl⟩
    refine Eq.symm ?_
    by_cases hc : f = -1 ∧ wd b n p i
    · refine (if_pos hc).trans ?_
      have g1 := hT2 hc.1 hc.2.1 hc.2.2.1
      have g2 := hT1 hc.1 g1
      have g3 := (wd_L g2.1 g2.2.1 hi).mp hc.2
      have g4 := (h.1.1 hc.1).2.1
      first
        | rfl
        | (exfalso; omega)
        | (exfalso; subst he; simp_all)
        | (exfalso; rw [← he] at g3; simp_all; done)
    · refine (if_neg hc).trans ?_
      first
        | rfl
        | (exfalso; refine hc ⟨by omega, (wd_L hp hl hi).mpr ?_⟩; rw [← he]; exact ⟨by omega, hx32.elim (fun q => q.2) (fun q => absurd q.1 c35), hx41.elim (fun q => q.2) (fun q => absurd q.1 c44), hx50.elim (fun q => q.2) (fun q => absurd q.1 c53), hx60.elim (fun q => q.2) (fun q => absurd q.1 c63), hx70.elim (fun q => q.2) (fun q => absurd q.1 c73), hx80.elim (fun q => q.2) (fun q => absurd q.1 c83), hx91.elim (fun q => q.2) (fun q => absurd q.1 c94), hx102.elim (fun q => q.2) (fun q => absurd q.1 c105)⟩)
  · refine q_aload_n (t := 8) F dX9_isWord__7 rfl rfl rfl ?_
    refine g_X9_164 (t := 11) F dX9_isWord__8 rfl rfl ?_
    refine q_iconst (t := 12) F dX9_isWord__11 rfl ?_
    refine q_icmp_ne (t := 15) (u := 112) F dX9_isWord__12 (by exact hR _ _ _) (by constructor <;> omega) (by decide) rfl (fun c12 => ?_) (fun c12 => ?_)
    · refine q_iconst (t := 113) F dX9_isWord__112 rfl ?_
      refine q_zret F dX9_isWord__113 rfl (by decide) ?_
      refine ⟨_, rfl, ?_, rfl⟩
      refine Eq.symm ?_
      by_cases hc : f = -1 ∧ wd b n p i
      · refine (if_pos hc).trans ?_
        have g1 := hT2 hc.1 hc.2.1 hc.2.2.1
        have g2 := hT1 hc.1 g1
        have g3 := (wd_L g2.1 g2.2.1 hi).mp hc.2
        have g4 := (h.1.1 hc.1).2.1
        first
          | rfl
          | (exfalso; omega)
          | (exfalso; subst he; simp_all)
          | (exfalso; rw [← he] at g3; simp_all; done)
      · refine (if_neg hc).trans ?_
        first
          | rfl
          | (exfalso; refine hc ⟨by omega, (wd_L hp hl hi).mpr ?_⟩; rw [← he]; exact ⟨by omega, hx32.elim (fun q => q.2) (fun q => absurd q.1 c35), hx41.elim (fun q => q.2) (fun q => absurd q.1 c44), hx50.elim (fun q => q.2) (fun q => absurd q.1 c53), hx60.elim (fun q => q.2) (fun q => absurd q.1 c63), hx70.elim (fun q => q.2) (fun q => absurd q.1 c73), hx80.elim (fun q => q.2) (fun q => absurd q.1 c83), hx91.elim (fun q => q.2) (fun q => absurd q.1 c94), hx102.elim (fun q => q.2) (fun q => absurd q.1 c105)⟩)
    · obtain ⟨hp, hl, h23⟩ := hT1 (by omega) (by omega)
      obtain ⟨e, he⟩ : ∃ e, e = span isL b n p := ⟨_, rfl⟩
      rw [← he] at h23
      have h25 := (h.1.1 (by omega)).2.1
      have hen : e ≤ n := by rw [he]; exact (span_in isL b n _ p rfl).2 (by omega)
      refine q_aload_n (t := 16) F dX9_isWord__15 rfl rfl rfl ?_
      refine g_X9_155 (t := 19) F dX9_isWord__16 rfl rfl ?_
      refine q_aload_n (t := 20) F dX9_isWord__19 rfl rfl rfl ?_
      refine g_X9_161 (t := 23) F dX9_isWord__20 rfl rfl ?_
      refine q_bipush (t := 25) F dX9_isWord__23 (by decide) rfl ?_
      refine q_iadd (t := 26) F dX9_isWord__25 rfl ?_
      refine q_icmp_gt (t := 29) (u := 112) F dX9_isWord__26 (by rw [h23]; constructor <;> omega) (by rw [h25]; constructor <;> omega) (by decide) rfl (fun c26 => ?_) (fun c26 => ?_)
      · refine q_iconst (t := 113) F dX9_isWord__112 rfl ?_
        refine q_zret F dX9_isWord__113 rfl (by decide) ?_
        refine ⟨_, rfl, ?_, rfl⟩
        refine Eq.symm ?_
        by_cases hc : f = -1 ∧ wd b n p i
        · refine (if_pos hc).trans ?_
          have g1 := hT2 hc.1 hc.2.1 hc.2.2.1
          have g2 := hT1 hc.1 g1
          have g3 := (wd_L g2.1 g2.2.1 hi).mp hc.2
          have g4 := (h.1.1 hc.1).2.1
          first
            | rfl
            | (exfalso; omega)
            | (exfalso; subst he; simp_all)
            | (exfalso; rw [← he] at g3; simp_all; done)
        · refine (if_neg hc).trans ?_
          first
            | rfl
            | (exfalso; refine hc ⟨by omega, (wd_L hp hl hi).mpr ?_⟩; rw [← he]; exact ⟨by omega, hx32.elim (fun q => q.2) (fun q => absurd q.1 c35), hx41.elim (fun q => q.2) (fun q => absurd q.1 c44), hx50.elim (fun q => q.2) (fun q => absurd q.1 c53), hx60.elim (fun q => q.2) (fun q => absurd q.1 c63), hx70.elim (fun q => q.2) (fun q => absurd q.1 c73), hx80.elim (fun q => q.2) (fun q => absurd q.1 c83), hx91.elim (fun q => q.2) (fun q => absurd q.1 c94), hx102.elim (fun q => q.2) (fun q => absurd q.1 c105)⟩)
      · refine q_aload_n (t := 30) F dX9_isWord__29 rfl rfl rfl ?_
        refine q_iconst (t := 31) F dX9_isWord__30 rfl ?_
        refine q_iload_n (t := 32) F dX9_isWord__31 rfl rfl rfl ?_
        refine wp_callV (t := 35) [_, _] F dX9_isWord__32 k_X9_isLetter v_X9_isLetter ml_X9_186 rfl rfl rfl rfl (Nat.le_of_ble_eq_true rfl) (by decide) (m_30 (by omega)) (c_X9_isLetter _ G im bt rt _ b n hb hR hB p e hen h25 h23 0 (by omega) hpn (wlr i 0) (wl_ri i hi 0 (by omega))) rfl (kI ?_)
        rintro x32 m' ⟨hx32, rfl⟩
        have hx32 := if01 hx32
        refine q_if_eq (t := 38) (u := 112) F dX9_isWord__35 (by first | exact hR _ _ _ | (constructor <;> omega)) (by decide) rfl (fun c35 => ?_) (fun c35 => ?_)
        · refine q_iconst (t := 113) F dX9_isWord__112 rfl ?_
          refine q_zret F dX9_isWord__113 rfl (by decide) ?_
          refine ⟨_, rfl, ?_, rfl⟩
          refine Eq.symm ?_
          by_cases hc : f = -1 ∧ wd b n p i
          · refine (if_pos hc).trans ?_
            have g1 := hT2 hc.1 hc.2.1 hc.2.2.1
            have g2 := hT1 hc.1 g1
            have g3 := (wd_L g2.1 g2.2.1 hi).mp hc.2
            have g4 := (h.1.1 hc.1).2.1
            first
              | rfl
              | (exfalso; omega)
              | (exfalso; subst he; simp_all)
              | (exfalso; rw [← he] at g3; simp_all; done)
          · refine (if_neg hc).trans ?_
            first
              | rfl
              | (exfalso; refine hc ⟨by omega, (wd_L hp hl hi).mpr ?_⟩; rw [← he]; exact ⟨by omega, hx32.elim (fun q => q.2) (fun q => absurd q.1 c35), hx41.elim (fun q => q.2) (fun q => absurd q.1 c44), hx50.elim (fun q => q.2) (fun q => absurd q.1 c53), hx60.elim (fun q => q.2) (fun q => absurd q.1 c63), hx70.elim (fun q => q.2) (fun q => absurd q.1 c73), hx80.elim (fun q => q.2) (fun q => absurd q.1 c83), hx91.elim (fun q => q.2) (fun q => absurd q.1 c94), hx102.elim (fun q => q.2) (fun q => absurd q.1 c105)⟩)
        · refine q_aload_n (t := 39) F dX9_isWord__38 rfl rfl rfl ?_
          refine q_iconst (t := 40) F dX9_isWord__39 rfl ?_
          refine q_iload_n (t := 41) F dX9_isWord__40 rfl rfl rfl ?_
          refine wp_callV (t := 44) [_, _] F dX9_isWord__41 k_X9_isLetter v_X9_isLetter ml_X9_186 rfl rfl rfl rfl (Nat.le_of_ble_eq_true rfl) (by decide) (m_30 (by omega)) (c_X9_isLetter _ G im bt rt _ b n hb hR hB p e hen h25 h23 1 (by omega) hpn (wlr i 1) (wl_ri i hi 1 (by omega))) rfl (kI ?_)
          rintro x41 m' ⟨hx41, rfl⟩
          have hx41 := if01 hx41
          refine q_if_eq (t := 47) (u := 112) F dX9_isWord__44 (by first | exact hR _ _ _ | (constructor <;> omega)) (by decide) rfl (fun c44 => ?_) (fun c44 => ?_)
          · refine q_iconst (t := 113) F dX9_isWord__112 rfl ?_
            refine q_zret F dX9_isWord__113 rfl (by decide) ?_
            refine ⟨_, rfl, ?_, rfl⟩
            refine Eq.symm ?_
            by_cases hc : f = -1 ∧ wd b n p i
            · refine (if_pos hc).trans ?_
              have g1 := hT2 hc.1 hc.2.1 hc.2.2.1
              have g2 := hT1 hc.1 g1
              have g3 := (wd_L g2.1 g2.2.1 hi).mp hc.2
              have g4 := (h.1.1 hc.1).2.1
              first
                | rfl
                | (exfalso; omega)
                | (exfalso; subst he; simp_all)
                | (exfalso; rw [← he] at g3; simp_all; done)
            · refine (if_neg hc).trans ?_
              first
                | rfl
                | (exfalso; refine hc ⟨by omega, (wd_L hp hl hi).mpr ?_⟩; rw [← he]; exact ⟨by omega, hx32.elim (fun q => q.2) (fun q => absurd q.1 c35), hx41.elim (fun q => q.2) (fun q => absurd q.1 c44), hx50.elim (fun q => q.2) (fun q => absurd q.1 c53), hx60.elim (fun q => q.2) (fun q => absurd q.1 c63), hx70.elim (fun q => q.2) (fun q => absurd q.1 c73), hx80.elim (fun q => q.2) (fun q => absurd q.1 c83), hx91.elim (fun q => q.2) (fun q => absurd q.1 c94), hx102.elim (fun q => q.2) (fun q => absurd q.1 c105)⟩)
          · refine q_aload_n (t := 48) F dX9_isWord__47 rfl rfl rfl ?_
            refine q_iconst (t := 49) F dX9_isWord__48 rfl ?_
            refine q_iload_n (t := 50) F dX9_isWord__49 rfl rfl rfl ?_
            refine wp_callV (t := 53) [_, _] F dX9_isWord__50 k_X9_isLetter v_X9_isLetter ml_X9_186 rfl rfl rfl rfl (Nat.le_of_ble_eq_true rfl) (by decide) (m_30 (by omega)) (c_X9_isLetter _ G im bt rt _ b n hb hR hB p e hen h25 h23 2 (by omega) hpn (wlr i 2) (wl_ri i hi 2 (by omega))) rfl (kI ?_)
            rintro x50 m' ⟨hx50, rfl⟩
            have hx50 := if01 hx50
            refine q_if_eq (t := 56) (u := 112) F dX9_isWord__53 (by first | exact hR _ _ _ | (constructor <;> omega)) (by decide) rfl (fun c53 => ?_) (fun c53 => ?_)
            · refine q_iconst (t := 113) F dX9_isWord__112 rfl ?_
              refine q_zret F dX9_isWord__113 rfl (by decide) ?_
              refine ⟨_, rfl, ?_, rfl⟩
              refine Eq.symm ?_
              by_cases hc : f = -1 ∧ wd b n p i
              · refine (if_pos hc).trans ?_
                have g1 := hT2 hc.1 hc.2.1 hc.2.2.1
                have g2 := hT1 hc.1 g1
                have g3 := (wd_L g2.1 g2.2.1 hi).mp hc.2
                have g4 := (h.1.1 hc.1).2.1
                first
                  | rfl
                  | (exfalso; omega)
                  | (exfalso; subst he; simp_all)
                  | (exfalso; rw [← he] at g3; simp_all; done)
              · refine (if_neg hc).trans ?_
                first
                  | rfl
                  | (exfalso; refine hc ⟨by omega, (wd_L hp hl hi).mpr ?_⟩; rw [← he]; exact ⟨by omega, hx32.elim (fun q => q.2) (fun q => absurd q.1 c35), hx41.elim (fun q => q.2) (fun q => absurd q.1 c44), hx50.elim (fun q => q.2) (fun q => absurd q.1 c53), hx60.elim (fun q => q.2) (fun q => absurd q.1 c63), hx70.elim (fun q => q.2) (fun q => absurd q.1 c73), hx80.elim (fun q => q.2) (fun q => absurd q.1 c83), hx91.elim (fun q => q.2) (fun q => absurd q.1 c94), hx102.elim (fun q => q.2) (fun q => absurd q.1 c105)⟩)
            · refine q_aload_n (t := 57) F dX9_isWord__56 rfl rfl rfl ?_
              refine q_iconst (t := 58) F dX9_isWord__57 rfl ?_
              refine q_iload (t := 60) F dX9_isWord__58 rfl rfl ?_
              refine wp_callV (t := 63) [_, _] F dX9_isWord__60 k_X9_isLetter v_X9_isLetter ml_X9_186 rfl rfl rfl rfl (Nat.le_of_ble_eq_true rfl) (by decide) (m_30 (by omega)) (c_X9_isLetter _ G im bt rt _ b n hb hR hB p e hen h25 h23 3 (by omega) hpn (wlr i 3) (wl_ri i hi 3 (by omega))) rfl (kI ?_)
              rintro x60 m' ⟨hx60, rfl⟩
              have hx60 := if01 hx60
              refine q_if_eq (t := 66) (u := 112) F dX9_isWord__63 (by first | exact hR _ _ _ | (constructor <;> omega)) (by decide) rfl (fun c63 => ?_) (fun c63 => ?_)
              · refine q_iconst (t := 113) F dX9_isWord__112 rfl ?_
                refine q_zret F dX9_isWord__113 rfl (by decide) ?_
                refine ⟨_, rfl, ?_, rfl⟩
                refine Eq.symm ?_
                by_cases hc : f = -1 ∧ wd b n p i
                · refine (if_pos hc).trans ?_
                  have g1 := hT2 hc.1 hc.2.1 hc.2.2.1
                  have g2 := hT1 hc.1 g1
                  have g3 := (wd_L g2.1 g2.2.1 hi).mp hc.2
                  have g4 := (h.1.1 hc.1).2.1
                  first
                    | rfl
                    | (exfalso; omega)
                    | (exfalso; subst he; simp_all)
                    | (exfalso; rw [← he] at g3; simp_all; done)
                · refine (if_neg hc).trans ?_
                  first
                    | rfl
                    | (exfalso; refine hc ⟨by omega, (wd_L hp hl hi).mpr ?_⟩; rw [← he]; exact ⟨by omega, hx32.elim (fun q => q.2) (fun q => absurd q.1 c35), hx41.elim (fun q => q.2) (fun q => absurd q.1 c44), hx50.elim (fun q => q.2) (fun q => absurd q.1 c53), hx60.elim (fun q => q.2) (fun q => absurd q.1 c63), hx70.elim (fun q => q.2) (fun q => absurd q.1 c73), hx80.elim (fun q => q.2) (fun q => absurd q.1 c83), hx91.elim (fun q => q.2) (fun q => absurd q.1 c94), hx102.elim (fun q => q.2) (fun q => absurd q.1 c105)⟩)
              · refine q_aload_n (t := 67) F dX9_isWord__66 rfl rfl rfl ?_
                refine q_iconst (t := 68) F dX9_isWord__67 rfl ?_
                refine q_iload (t := 70) F dX9_isWord__68 rfl rfl ?_
                refine wp_callV (t := 73) [_, _] F dX9_isWord__70 k_X9_isLetter v_X9_isLetter ml_X9_186 rfl rfl rfl rfl (Nat.le_of_ble_eq_true rfl) (by decide) (m_30 (by omega)) (c_X9_isLetter _ G im bt rt _ b n hb hR hB p e hen h25 h23 4 (by omega) hpn (wlr i 4) (wl_ri i hi 4 (by omega))) rfl (kI ?_)
                rintro x70 m' ⟨hx70, rfl⟩
                have hx70 := if01 hx70
                refine q_if_eq (t := 76) (u := 112) F dX9_isWord__73 (by first | exact hR _ _ _ | (constructor <;> omega)) (by decide) rfl (fun c73 => ?_) (fun c73 => ?_)
                · refine q_iconst (t := 113) F dX9_isWord__112 rfl ?_
                  refine q_zret F dX9_isWord__113 rfl (by decide) ?_
                  refine ⟨_, rfl, ?_, rfl⟩
                  refine Eq.symm ?_
                  by_cases hc : f = -1 ∧ wd b n p i
                  · refine (if_pos hc).trans ?_
                    have g1 := hT2 hc.1 hc.2.1 hc.2.2.1
                    have g2 := hT1 hc.1 g1
                    have g3 := (wd_L g2.1 g2.2.1 hi).mp hc.2
                    have g4 := (h.1.1 hc.1).2.1
                    first
                      | rfl
                      | (exfalso; omega)
                      | (exfalso; subst he; simp_all)
                      | (exfalso; rw [← he] at g3; simp_all; done)
                  · refine (if_neg hc).trans ?_
                    first
                      | rfl
                      | (exfalso; refine hc ⟨by omega, (wd_L hp hl hi).mpr ?_⟩; rw [← he]; exact ⟨by omega, hx32.elim (fun q => q.2) (fun q => absurd q.1 c35), hx41.elim (fun q => q.2) (fun q => absurd q.1 c44), hx50.elim (fun q => q.2) (fun q => absurd q.1 c53), hx60.elim (fun q => q.2) (fun q => absurd q.1 c63), hx70.elim (fun q => q.2) (fun q => absurd q.1 c73), hx80.elim (fun q => q.2) (fun q => absurd q.1 c83), hx91.elim (fun q => q.2) (fun q => absurd q.1 c94), hx102.elim (fun q => q.2) (fun q => absurd q.1 c105)⟩)
                · refine q_aload_n (t := 77) F dX9_isWord__76 rfl rfl rfl ?_
                  refine q_iconst (t := 78) F dX9_isWord__77 rfl ?_
                  refine q_iload (t := 80) F dX9_isWord__78 rfl rfl ?_
                  refine wp_callV (t := 83) [_, _] F dX9_isWord__80 k_X9_isLetter v_X9_isLetter ml_X9_186 rfl rfl rfl rfl (Nat.le_of_ble_eq_true rfl) (by decide) (m_30 (by omega)) (c_X9_isLetter _ G im bt rt _ b n hb hR hB p e hen h25 h23 5 (by omega) hpn (wlr i 5) (wl_ri i hi 5 (by omega))) rfl (kI ?_)
                  rintro x80 m' ⟨hx80, rfl⟩
                  have hx80 := if01 hx80
                  refine q_if_eq (t := 86) (u := 112) F dX9_isWord__83 (by first | exact hR _ _ _ | (constructor <;> omega)) (by decide) rfl (fun c83 => ?_) (fun c83 => ?_)
                  · refine q_iconst (t := 113) F dX9_isWord__112 rfl ?_
                    refine q_zret F dX9_isWord__113 rfl (by decide) ?_
                    refine ⟨_, rfl, ?_, rfl⟩
                    refine Eq.symm ?_
                    by_cases hc : f = -1 ∧ wd b n p i
                    · refine (if_pos hc).trans ?_
                      have g1 := hT2 hc.1 hc.2.1 hc.2.2.1
                      have g2 := hT1 hc.1 g1
                      have g3 := (wd_L g2.1 g2.2.1 hi).mp hc.2
                      have g4 := (h.1.1 hc.1).2.1
                      first
                        | rfl
                        | (exfalso; omega)
                        | (exfalso; subst he; simp_all)
                        | (exfalso; rw [← he] at g3; simp_all; done)
                    · refine (if_neg hc).trans ?_
                      first
                        | rfl
                        | (exfalso; refine hc ⟨by omega, (wd_L hp hl hi).mpr ?_⟩; rw [← he]; exact ⟨by omega, hx32.elim (fun q => q.2) (fun q => absurd q.1 c35), hx41.elim (fun q => q.2) (fun q => absurd q.1 c44), hx50.elim (fun q => q.2) (fun q => absurd q.1 c53), hx60.elim (fun q => q.2) (fun q => absurd q.1 c63), hx70.elim (fun q => q.2) (fun q => absurd q.1 c73), hx80.elim (fun q => q.2) (fun q => absurd q.1 c83), hx91.elim (fun q => q.2) (fun q => absurd q.1 c94), hx102.elim (fun q => q.2) (fun q => absurd q.1 c105)⟩)
                  · refine q_aload_n (t := 87) F dX9_isWord__86 rfl rfl rfl ?_
                    refine q_bipush (t := 89) F dX9_isWord__87 (by decide) rfl ?_
                    refine q_iload (t := 91) F dX9_isWord__89 rfl rfl ?_
                    refine wp_callV (t := 94) [_, _] F dX9_isWord__91 k_X9_isLetter v_X9_isLetter ml_X9_186 rfl rfl rfl rfl (Nat.le_of_ble_eq_true rfl) (by decide) (m_30 (by omega)) (c_X9_isLetter _ G im bt rt _ b n hb hR hB p e hen h25 h23 6 (by omega) hpn (wlr i 6) (wl_ri i hi 6 (by omega))) rfl (kI ?_)
                    rintro x91 m' ⟨hx91, rfl⟩
                    have hx91 := if01 hx91
                    refine q_if_eq (t := 97) (u := 112) F dX9_isWord__94 (by first | exact hR _ _ _ | (constructor <;> omega)) (by decide) rfl (fun c94 => ?_) (fun c94 => ?_)
                    · refine q_iconst (t := 113) F dX9_isWord__112 rfl ?_
                      refine q_zret F dX9_isWord__113 rfl (by decide) ?_
                      refine ⟨_, rfl, ?_, rfl⟩
                      refine Eq.symm ?_
                      by_cases hc : f = -1 ∧ wd b n p i
                      · refine (if_pos hc).trans ?_
                        have g1 := hT2 hc.1 hc.2.1 hc.2.2.1
                        have g2 := hT1 hc.1 g1
                        have g3 := (wd_L g2.1 g2.2.1 hi).mp hc.2
                        have g4 := (h.1.1 hc.1).2.1
                        first
                          | rfl
                          | (exfalso; omega)
                          | (exfalso; subst he; simp_all)
                          | (exfalso; rw [← he] at g3; simp_all; done)
                      · refine (if_neg hc).trans ?_
                        first
                          | rfl
                          | (exfalso; refine hc ⟨by omega, (wd_L hp hl hi).mpr ?_⟩; rw [← he]; exact ⟨by omega, hx32.elim (fun q => q.2) (fun q => absurd q.1 c35), hx41.elim (fun q => q.2) (fun q => absurd q.1 c44), hx50.elim (fun q => q.2) (fun q => absurd q.1 c53), hx60.elim (fun q => q.2) (fun q => absurd q.1 c63), hx70.elim (fun q => q.2) (fun q => absurd q.1 c73), hx80.elim (fun q => q.2) (fun q => absurd q.1 c83), hx91.elim (fun q => q.2) (fun q => absurd q.1 c94), hx102.elim (fun q => q.2) (fun q => absurd q.1 c105)⟩)
                    · refine q_aload_n (t := 98) F dX9_isWord__97 rfl rfl rfl ?_
                      refine q_bipush (t := 100) F dX9_isWord__98 (by decide) rfl ?_
                      refine q_iload (t := 102) F dX9_isWord__100 rfl rfl ?_
                      refine wp_callV (t := 105) [_, _] F dX9_isWord__102 k_X9_isLetter v_X9_isLetter ml_X9_186 rfl rfl rfl rfl (Nat.le_of_ble_eq_true rfl) (by decide) (m_30 (by omega)) (c_X9_isLetter _ G im bt rt _ b n hb hR hB p e hen h25 h23 7 (by omega) hpn (wlr i 7) (wl_ri i hi 7 (by omega))) rfl (kI ?_)
                      rintro x102 m' ⟨hx102, rfl⟩
                      have hx102 := if01 hx102
                      refine q_if_eq (t := 108) (u := 112) F dX9_isWord__105 (by first | exact hR _ _ _ | (constructor <;> omega)) (by decide) rfl (fun c105 => ?_) (fun c105 => ?_)
                      · refine q_iconst (t := 113) F dX9_isWord__112 rfl ?_
                        refine q_zret F dX9_isWord__113 rfl (by decide) ?_
                        refine ⟨_, rfl, ?_, rfl⟩
                        refine Eq.symm ?_
                        by_cases hc : f = -1 ∧ wd b n p i
                        · refine (if_pos hc).trans ?_
                          have g1 := hT2 hc.1 hc.2.1 hc.2.2.1
                          have g2 := hT1 hc.1 g1
                          have g3 := (wd_L g2.1 g2.2.1 hi).mp hc.2
                          have g4 := (h.1.1 hc.1).2.1
                          first
                            | rfl
                            | (exfalso; omega)
                            | (exfalso; subst he; simp_all)
                            | (exfalso; rw [← he] at g3; simp_all; done)
                        · refine (if_neg hc).trans ?_
                          first
                            | rfl
                            | (exfalso; refine hc ⟨by omega, (wd_L hp hl hi).mpr ?_⟩; rw [← he]; exact ⟨by omega, hx32.elim (fun q => q.2) (fun q => absurd q.1 c35), hx41.elim (fun q => q.2) (fun q => absurd q.1 c44), hx50.elim (fun q => q.2) (fun q => absurd q.1 c53), hx60.elim (fun q => q.2) (fun q => absurd q.1 c63), hx70.elim (fun q => q.2) (fun q => absurd q.1 c73), hx80.elim (fun q => q.2) (fun q => absurd q.1 c83), hx91.elim (fun q => q.2) (fun q => absurd q.1 c94), hx102.elim (fun q => q.2) (fun q => absurd q.1 c105)⟩)
                      · refine q_iconst (t := 109) F dX9_isWord__108 rfl ?_
                        refine q_goto (t := 113) F dX9_isWord__109 (by decide) ?_
                        refine q_zret F dX9_isWord__113 rfl (by decide) ?_
                        refine ⟨_, rfl, ?_, rfl⟩
                        refine Eq.symm ?_
                        by_cases hc : f = -1 ∧ wd b n p i
                        · refine (if_pos hc).trans ?_
                          have g1 := hT2 hc.1 hc.2.1 hc.2.2.1
                          have g2 := hT1 hc.1 g1
                          have g3 := (wd_L g2.1 g2.2.1 hi).mp hc.2
                          have g4 := (h.1.1 hc.1).2.1
                          first
                            | rfl
                            | (exfalso; omega)
                            | (exfalso; subst he; simp_all)
                            | (exfalso; rw [← he] at g3; simp_all; done)
                        · refine (if_neg hc).trans ?_
                          first
                            | rfl
                            | (exfalso; refine hc ⟨by omega, (wd_L hp hl hi).mpr ?_⟩; rw [← he]; exact ⟨by omega, hx32.elim (fun q => q.2) (fun q => absurd q.1 c35), hx41.elim (fun q => q.2) (fun q => absurd q.1 c44), hx50.elim (fun q => q.2) (fun q => absurd q.1 c53), hx60.elim (fun q => q.2) (fun q => absurd q.1 c63), hx70.elim (fun q => q.2) (fun q => absurd q.1 c73), hx80.elim (fun q => q.2) (fun q => absurd q.1 c83), hx91.elim (fun q => q.2) (fun q => absurd q.1 c94), hx102.elim (fun q => q.2) (fun q => absurd q.1 c105)⟩)
end
section
/-! what is opened, a name -/
theorem PQ_27 {b : Nat → Int} {n p : Nat} {im lm : IM} {f x : Int} (h : PQ b n im lm p f) (hx : ri x) : PQ b n (up im 30 0 27 x) lm p f := by
  obtain ⟨hq, hR, hB, hpn, h28⟩ := h
  have e : ∀ s, s ≠ 27 → up im 30 0 27 x 30 0 s = im 30 0 s := fun s hs => by rw [up_app, if_neg (by omega)]
  refine ⟨⟨fun q => ?_, fun q => ?_⟩, RI_up hR hx, BRr_up hB (by omega) (by omega), hpn, by rw [e 28 (by omega)]; exact h28⟩
  · have := hq.1 q
    refine ⟨(e 28 (by omega)).trans this.1, (e 25 (by omega)).trans this.2.1, ?_⟩
    have h2 := this.2.2
    unfold TKr at h2 ⊢
    rw [e 24 (by omega), e 23 (by omega)]
    exact h2
  · have := hq.2 q
    exact ⟨(e 28 (by omega)).trans this.1, (e 29 (by omega)).trans this.2⟩
theorem c_isWordA (l : Launch) (G : GS) (im : IM) (bt rt : Nat) (lm : IM) (b : Nat → Int) (n : Nat) (hb : byt b n) (p : Nat) (f : Int) (h : PQ b n im lm p f) (i : Nat) (hi : i < 12) (a0 a1 a2 a3 a4 a5 a6 a7 : Int) (ha : a0 = wlr i 0 ∧ a1 = wlr i 1 ∧ a2 = wlr i 2 ∧ a3 = wlr i 3 ∧ a4 = wlr i 4 ∧ a5 = wlr i 5 ∧ a6 = wlr i 6 ∧ a7 = wlr i 7) : Cn l (XR G) yX9_isWord_ Y_X9_isWord_ [vR 30 0, vI a0, vI a1, vI a2, vI a3, vI a4, vI a5, vI a6, vI a7] (im, rs bt rt, lm) (pI fun x m' => x = (if f = -1 ∧ wd b n p i then 1 else 0) ∧ m' = (im, rs bt rt, lm)) := by
  obtain ⟨rfl, rfl, rfl, rfl, rfl, rfl, rfl, rfl⟩ := ha
  exact c_X9_isWord_ l G im bt rt lm b n hb p f h i hi

set_option maxHeartbeats 4000000 in
theorem c_X9_opens (l : Launch) (G : GS) (im : IM) (bt rt : Nat) (lm : IM) (b : Nat → Int) (n : Nat) (hb : byt b n) (p : Nat) (h : PQ b n im lm p (-1)) (hp : p < n) (ht : tk b n p ≠ 1) (d : Nat) (hd : d ≤ 5) (h27 : im 30 0 27 = d) : Cn l (XR G) yX9_opens Y_X9_opens [vR 30 0] (im, rs bt rt, lm) (pI fun x m' => (d = 5 ∧ x = 0 ∧ ∃ im', PQ b n im' lm p (p : Int) ∧ agQ im' im ∧ m' = (im', rs bt rt, lm)) ∨ (d < 5 ∧ x = 1 ∧ ∃ im' lm', PQ b n im' lm' (adv b n p) (-1) ∧ im' 30 0 27 = (d : Int) + 1 ∧ agQ im' (up im 30 0 27 ((d : Int) + 1)) ∧ lgQ lm' lm ∧ m' = (im', rs bt rt, lm'))) := by
  refine cn_of (by decide) (okR G) rfl (Nat.le_of_ble_eq_true rfl) ?_
  intro M ad hMl F
  subst hMl
  have hR := h.2.1
  refine wp_pad 0 ?_
  show Wp M (XR G) ad Y_X9_opens (pI fun x m' => (d = 5 ∧ x = 0 ∧ ∃ im', PQ b n im' lm p (p : Int) ∧ agQ im' im ∧ m' = (im', rs bt rt, lm)) ∨ (d < 5 ∧ x = 1 ∧ ∃ im' lm', PQ b n im' lm' (adv b n p) (-1) ∧ im' 30 0 27 = (d : Int) + 1 ∧ agQ im' (up im 30 0 27 ((d : Int) + 1)) ∧ lgQ lm' lm ∧ m' = (im', rs bt rt, lm'))) 0 [some (vR 30 0)] [] (im, rs bt rt, lm)
  refine q_aload_n (t := 1) F dX9_opens_0 rfl rfl rfl ?_
  refine g_X9_190 (t := 4) F dX9_opens_1 rfl rfl ?_
  refine q_iconst (t := 5) F dX9_opens_4 rfl ?_
  refine q_icmp_ne (t := 8) (u := 14) F dX9_opens_5 (by rw [h27]; constructor <;> omega) (by constructor <;> omega) (by decide) rfl (fun c5 => ?_) (fun c5 => ?_)
  · refine q_aload_n (t := 15) F dX9_opens_14 rfl rfl rfl ?_
    refine q_dupR (t := 16) F dX9_opens_15 rfl ?_
    refine g_X9_190 (t := 19) F dX9_opens_16 rfl rfl ?_
    refine q_iconst (t := 20) F dX9_opens_19 rfl ?_
    refine q_iadd (t := 21) F dX9_opens_20 rfl ?_
    rw [h27]
    refine p_X9_190 (t := 24) F dX9_opens_21 rfl rfl ?_
    refine q_aload_n (t := 25) F dX9_opens_24 rfl rfl rfl ?_
    refine wp_callV (t := 28) [] F dX9_opens_25 k_X9_next v_X9_next ml_X9_196 rfl rfl rfl rfl (Nat.le_of_ble_eq_true rfl) (by decide) (m_30 (by omega)) (c_nextQ _ G _ bt rt lm b n hb p (PQ_27 h (by constructor <;> omega)) hp ht) rfl (kV ?_)
    rintro m' ⟨im2, lm2, h2, hag, hlg, rfl⟩
    refine q_iconst (t := 29) F dX9_opens_28 rfl ?_
    refine q_zret F dX9_opens_29 rfl (by decide) ?_
    first
      | exact ⟨_, rfl, Or.inl ⟨by omega, rfl, im2, h2, hag, rfl⟩⟩
      | exact ⟨_, rfl, Or.inr ⟨by omega, rfl, im2, lm2, h2, (hag 30 0 27 (by omega)).trans (by rw [up_app, if_pos ⟨rfl, rfl, rfl⟩]), hag, hlg, rfl⟩⟩
  · refine q_aload_n (t := 9) F dX9_opens_8 rfl rfl rfl ?_
    refine wp_callV (t := 12) [] F dX9_opens_9 k_X9_fail v_X9_fail ml_X9_193 rfl rfl rfl rfl (Nat.le_of_ble_eq_true rfl) (by decide) (m_30 (by omega)) (c_failQ _ G im bt rt lm b n p (-1) h) rfl (kV ?_)
    rintro m' ⟨im2, h2, hag, rfl⟩
    rw [if_pos rfl] at h2
    refine q_iconst (t := 13) F dX9_opens_12 rfl ?_
    refine q_zret F dX9_opens_13 rfl (by decide) ?_
    first
      | exact ⟨_, rfl, Or.inl ⟨by omega, rfl, im2, h2, hag, rfl⟩⟩
      | exact ⟨_, rfl, Or.inr ⟨by omega, rfl, im2, lm2, h2, (hag 30 0 27 (by omega)).trans (by rw [up_app, if_pos ⟨rfl, rfl, rfl⟩]), hag, hlg, rfl⟩⟩

set_option maxHeartbeats 4000000 in
theorem c_X9_name (l : Launch) (G : GS) (im : IM) (bt rt : Nat) (lm : IM) (b : Nat → Int) (n : Nat) (hb : byt b n) (p : Nat) (h : PQ b n im lm p (-1)) : Cn l (XR G) yX9_name Y_X9_name [vR 30 0] (im, rs bt rt, lm) (pI fun x m' => (tk b n p = 3 ∧ x = im 30 0 (15 + (vl b n p).toNat) ∧ m' = (im, rs bt rt, lm)) ∨ (tk b n p ≠ 3 ∧ x = 0 ∧ ∃ im', PQ b n im' lm p (p : Int) ∧ agQ im' im ∧ m' = (im', rs bt rt, lm))) := by
  refine cn_of (by decide) (okR G) rfl (Nat.le_of_ble_eq_true rfl) ?_
  intro M ad hMl F
  subst hMl
  have hR := h.2.1
  refine wp_pad 0 ?_
  show Wp M (XR G) ad Y_X9_name (pI fun x m' => (tk b n p = 3 ∧ x = im 30 0 (15 + (vl b n p).toNat) ∧ m' = (im, rs bt rt, lm)) ∨ (tk b n p ≠ 3 ∧ x = 0 ∧ ∃ im', PQ b n im' lm p (p : Int) ∧ agQ im' im ∧ m' = (im', rs bt rt, lm))) 0 [some (vR 30 0)] [] (im, rs bt rt, lm)
  refine q_aload_n (t := 1) F dX9_name_0 rfl rfl rfl ?_
  refine q_bipush (t := 3) F dX9_name_1 (by decide) rfl ?_
  refine q_bipush (t := 5) F dX9_name_3 (by decide) rfl ?_
  refine q_bipush (t := 7) F dX9_name_5 (by decide) rfl ?_
  refine q_bipush (t := 9) F dX9_name_7 (by decide) rfl ?_
  refine q_iconst (t := 10) F dX9_name_9 rfl ?_
  refine q_iconst (t := 11) F dX9_name_10 rfl ?_
  refine q_iconst (t := 12) F dX9_name_11 rfl ?_
  refine q_iconst (t := 13) F dX9_name_12 rfl ?_
  refine wp_callV (t := 16) [_, _, _, _, _, _, _, _] F dX9_name_13 k_X9_isWord_ v_X9_isWord_ ml_X9_199 rfl rfl rfl rfl (Nat.le_of_ble_eq_true rfl) (by decide) (m_30 (by omega)) (c_isWordA _ G im bt rt lm b n hb p (-1) h 0 (by omega) _ _ _ _ _ _ _ _ (by decide)) rfl (kI ?_)
  rintro x13 m' ⟨hx13, rfl⟩
  have hx13 := if01 hx13
  refine q_if_eq (t := 19) (u := 24) F dX9_name_16 (by first | exact hR _ _ _ | (constructor <;> omega)) (by decide) rfl (fun c16 => ?_) (fun c16 => ?_)
  · refine q_aload_n (t := 25) F dX9_name_24 rfl rfl rfl ?_
    refine q_bipush (t := 27) F dX9_name_25 (by decide) rfl ?_
    refine q_bipush (t := 29) F dX9_name_27 (by decide) rfl ?_
    refine q_bipush (t := 31) F dX9_name_29 (by decide) rfl ?_
    refine q_bipush (t := 33) F dX9_name_31 (by decide) rfl ?_
    refine q_iconst (t := 34) F dX9_name_33 rfl ?_
    refine q_iconst (t := 35) F dX9_name_34 rfl ?_
    refine q_iconst (t := 36) F dX9_name_35 rfl ?_
    refine q_iconst (t := 37) F dX9_name_36 rfl ?_
    refine wp_callV (t := 40) [_, _, _, _, _, _, _, _] F dX9_name_37 k_X9_isWord_ v_X9_isWord_ ml_X9_199 rfl rfl rfl rfl (Nat.le_of_ble_eq_true rfl) (by decide) (m_30 (by omega)) (c_isWordA _ G im bt rt lm b n hb p (-1) h 1 (by omega) _ _ _ _ _ _ _ _ (by decide)) rfl (kI ?_)
    rintro x37 m' ⟨hx37, rfl⟩
    have hx37 := if01 hx37
    refine q_if_eq (t := 43) (u := 48) F dX9_name_40 (by first | exact hR _ _ _ | (constructor <;> omega)) (by decide) rfl (fun c40 => ?_) (fun c40 => ?_)
    · refine q_aload_n (t := 49) F dX9_name_48 rfl rfl rfl ?_
      refine q_bipush (t := 51) F dX9_name_49 (by decide) rfl ?_
      refine q_bipush (t := 53) F dX9_name_51 (by decide) rfl ?_
      refine q_bipush (t := 55) F dX9_name_53 (by decide) rfl ?_
      refine q_bipush (t := 57) F dX9_name_55 (by decide) rfl ?_
      refine q_iconst (t := 58) F dX9_name_57 rfl ?_
      refine q_iconst (t := 59) F dX9_name_58 rfl ?_
      refine q_iconst (t := 60) F dX9_name_59 rfl ?_
      refine q_iconst (t := 61) F dX9_name_60 rfl ?_
      refine wp_callV (t := 64) [_, _, _, _, _, _, _, _] F dX9_name_61 k_X9_isWord_ v_X9_isWord_ ml_X9_199 rfl rfl rfl rfl (Nat.le_of_ble_eq_true rfl) (by decide) (m_30 (by omega)) (c_isWordA _ G im bt rt lm b n hb p (-1) h 2 (by omega) _ _ _ _ _ _ _ _ (by decide)) rfl (kI ?_)
      rintro x61 m' ⟨hx61, rfl⟩
      have hx61 := if01 hx61
      refine q_if_eq (t := 67) (u := 72) F dX9_name_64 (by first | exact hR _ _ _ | (constructor <;> omega)) (by decide) rfl (fun c64 => ?_) (fun c64 => ?_)
      · refine q_aload_n (t := 73) F dX9_name_72 rfl rfl rfl ?_
        refine q_bipush (t := 75) F dX9_name_73 (by decide) rfl ?_
        refine q_bipush (t := 77) F dX9_name_75 (by decide) rfl ?_
        refine q_bipush (t := 79) F dX9_name_77 (by decide) rfl ?_
        refine q_bipush (t := 81) F dX9_name_79 (by decide) rfl ?_
        refine q_bipush (t := 83) F dX9_name_81 (by decide) rfl ?_
        refine q_bipush (t := 85) F dX9_name_83 (by decide) rfl ?_
        refine q_iconst (t := 86) F dX9_name_85 rfl ?_
        refine q_iconst (t := 87) F dX9_name_86 rfl ?_
        refine wp_callV (t := 90) [_, _, _, _, _, _, _, _] F dX9_name_87 k_X9_isWord_ v_X9_isWord_ ml_X9_199 rfl rfl rfl rfl (Nat.le_of_ble_eq_true rfl) (by decide) (m_30 (by omega)) (c_isWordA _ G im bt rt lm b n hb p (-1) h 3 (by omega) _ _ _ _ _ _ _ _ (by decide)) rfl (kI ?_)
        rintro x87 m' ⟨hx87, rfl⟩
        have hx87 := if01 hx87
        refine q_if_eq (t := 93) (u := 98) F dX9_name_90 (by first | exact hR _ _ _ | (constructor <;> omega)) (by decide) rfl (fun c90 => ?_) (fun c90 => ?_)
        · refine q_aload_n (t := 99) F dX9_name_98 rfl rfl rfl ?_
          refine q_bipush (t := 101) F dX9_name_99 (by decide) rfl ?_
          refine q_bipush (t := 103) F dX9_name_101 (by decide) rfl ?_
          refine q_bipush (t := 105) F dX9_name_103 (by decide) rfl ?_
          refine q_iconst (t := 106) F dX9_name_105 rfl ?_
          refine q_iconst (t := 107) F dX9_name_106 rfl ?_
          refine q_iconst (t := 108) F dX9_name_107 rfl ?_
          refine q_iconst (t := 109) F dX9_name_108 rfl ?_
          refine q_iconst (t := 110) F dX9_name_109 rfl ?_
          refine wp_callV (t := 113) [_, _, _, _, _, _, _, _] F dX9_name_110 k_X9_isWord_ v_X9_isWord_ ml_X9_199 rfl rfl rfl rfl (Nat.le_of_ble_eq_true rfl) (by decide) (m_30 (by omega)) (c_isWordA _ G im bt rt lm b n hb p (-1) h 4 (by omega) _ _ _ _ _ _ _ _ (by decide)) rfl (kI ?_)
          rintro x110 m' ⟨hx110, rfl⟩
          have hx110 := if01 hx110
          refine q_if_eq (t := 116) (u := 121) F dX9_name_113 (by first | exact hR _ _ _ | (constructor <;> omega)) (by decide) rfl (fun c113 => ?_) (fun c113 => ?_)
          · refine q_aload_n (t := 122) F dX9_name_121 rfl rfl rfl ?_
            refine q_bipush (t := 124) F dX9_name_122 (by decide) rfl ?_
            refine q_bipush (t := 126) F dX9_name_124 (by decide) rfl ?_
            refine q_bipush (t := 128) F dX9_name_126 (by decide) rfl ?_
            refine q_bipush (t := 130) F dX9_name_128 (by decide) rfl ?_
            refine q_bipush (t := 132) F dX9_name_130 (by decide) rfl ?_
            refine q_iconst (t := 133) F dX9_name_132 rfl ?_
            refine q_iconst (t := 134) F dX9_name_133 rfl ?_
            refine q_iconst (t := 135) F dX9_name_134 rfl ?_
            refine wp_callV (t := 138) [_, _, _, _, _, _, _, _] F dX9_name_135 k_X9_isWord_ v_X9_isWord_ ml_X9_199 rfl rfl rfl rfl (Nat.le_of_ble_eq_true rfl) (by decide) (m_30 (by omega)) (c_isWordA _ G im bt rt lm b n hb p (-1) h 5 (by omega) _ _ _ _ _ _ _ _ (by decide)) rfl (kI ?_)
            rintro x135 m' ⟨hx135, rfl⟩
            have hx135 := if01 hx135
            refine q_if_eq (t := 141) (u := 146) F dX9_name_138 (by first | exact hR _ _ _ | (constructor <;> omega)) (by decide) rfl (fun c138 => ?_) (fun c138 => ?_)
            · refine q_aload_n (t := 147) F dX9_name_146 rfl rfl rfl ?_
              refine wp_callV (t := 150) [] F dX9_name_147 k_X9_fail v_X9_fail ml_X9_193 rfl rfl rfl rfl (Nat.le_of_ble_eq_true rfl) (by decide) (m_30 (by omega)) (c_failQ _ G im bt rt lm b n p (-1) h) rfl (kV ?_)
              rintro m' ⟨im2, h2, hag, rfl⟩
              rw [if_pos rfl] at h2
              refine q_iconst (t := 151) F dX9_name_150 rfl ?_
              refine q_iret F dX9_name_151 rfl ?_
              first
                | (have w : wd b n p 0 := hx13.elim (fun q => q.2.2) (fun q => absurd q.1 (by omega))
                   have e := (wd_nm (by omega)).mp w
                   refine ⟨_, rfl, Or.inl ⟨e.1, ?_, rfl⟩⟩
                   rw [e.2]
                   rfl)
                | (have w : wd b n p 1 := hx37.elim (fun q => q.2.2) (fun q => absurd q.1 (by omega))
                   have e := (wd_nm (by omega)).mp w
                   refine ⟨_, rfl, Or.inl ⟨e.1, ?_, rfl⟩⟩
                   rw [e.2]
                   rfl)
                | (have w : wd b n p 2 := hx61.elim (fun q => q.2.2) (fun q => absurd q.1 (by omega))
                   have e := (wd_nm (by omega)).mp w
                   refine ⟨_, rfl, Or.inl ⟨e.1, ?_, rfl⟩⟩
                   rw [e.2]
                   rfl)
                | (have w : wd b n p 3 := hx87.elim (fun q => q.2.2) (fun q => absurd q.1 (by omega))
                   have e := (wd_nm (by omega)).mp w
                   refine ⟨_, rfl, Or.inl ⟨e.1, ?_, rfl⟩⟩
                   rw [e.2]
                   rfl)
                | (have w : wd b n p 4 := hx110.elim (fun q => q.2.2) (fun q => absurd q.1 (by omega))
                   have e := (wd_nm (by omega)).mp w
                   refine ⟨_, rfl, Or.inl ⟨e.1, ?_, rfl⟩⟩
                   rw [e.2]
                   rfl)
                | (have w : wd b n p 5 := hx135.elim (fun q => q.2.2) (fun q => absurd q.1 (by omega))
                   have e := (wd_nm (by omega)).mp w
                   refine ⟨_, rfl, Or.inl ⟨e.1, ?_, rfl⟩⟩
                   rw [e.2]
                   rfl)
                | (refine ⟨_, rfl, Or.inr ⟨fun q => ?_, rfl, im2, h2, hag, rfl⟩⟩
                   obtain ⟨i, hi, hv, hw⟩ := tk_3 q
                   rcases (show i = 0 ∨ i = 1 ∨ i = 2 ∨ i = 3 ∨ i = 4 ∨ i = 5 by omega) with rfl | rfl | rfl | rfl | rfl | rfl
                   · exact hx13.elim (fun q => by omega) (fun q => q.2 ⟨rfl, hw⟩)
                   · exact hx37.elim (fun q => by omega) (fun q => q.2 ⟨rfl, hw⟩)
                   · exact hx61.elim (fun q => by omega) (fun q => q.2 ⟨rfl, hw⟩)
                   · exact hx87.elim (fun q => by omega) (fun q => q.2 ⟨rfl, hw⟩)
                   · exact hx110.elim (fun q => by omega) (fun q => q.2 ⟨rfl, hw⟩)
                   · exact hx135.elim (fun q => by omega) (fun q => q.2 ⟨rfl, hw⟩))
            · refine q_aload_n (t := 142) F dX9_name_141 rfl rfl rfl ?_
              refine g_X9_217 (t := 145) F dX9_name_142 rfl rfl ?_
              try simp only [up_app, row_app, scr_app, cpy_app, Nat.reduceEqDiff, Int.reduceToNat, Int.toNat_natCast, and_true, true_and, and_false, false_and, and_self, reduceIte]
              refine q_iret F dX9_name_145 rfl ?_
              first
                | (have w : wd b n p 0 := hx13.elim (fun q => q.2.2) (fun q => absurd q.1 (by omega))
                   have e := (wd_nm (by omega)).mp w
                   refine ⟨_, rfl, Or.inl ⟨e.1, ?_, rfl⟩⟩
                   rw [e.2]
                   rfl)
                | (have w : wd b n p 1 := hx37.elim (fun q => q.2.2) (fun q => absurd q.1 (by omega))
                   have e := (wd_nm (by omega)).mp w
                   refine ⟨_, rfl, Or.inl ⟨e.1, ?_, rfl⟩⟩
                   rw [e.2]
                   rfl)
                | (have w : wd b n p 2 := hx61.elim (fun q => q.2.2) (fun q => absurd q.1 (by omega))
                   have e := (wd_nm (by omega)).mp w
                   refine ⟨_, rfl, Or.inl ⟨e.1, ?_, rfl⟩⟩
                   rw [e.2]
                   rfl)
                | (have w : wd b n p 3 := hx87.elim (fun q => q.2.2) (fun q => absurd q.1 (by omega))
                   have e := (wd_nm (by omega)).mp w
                   refine ⟨_, rfl, Or.inl ⟨e.1, ?_, rfl⟩⟩
                   rw [e.2]
                   rfl)
                | (have w : wd b n p 4 := hx110.elim (fun q => q.2.2) (fun q => absurd q.1 (by omega))
                   have e := (wd_nm (by omega)).mp w
                   refine ⟨_, rfl, Or.inl ⟨e.1, ?_, rfl⟩⟩
                   rw [e.2]
                   rfl)
                | (have w : wd b n p 5 := hx135.elim (fun q => q.2.2) (fun q => absurd q.1 (by omega))
                   have e := (wd_nm (by omega)).mp w
                   refine ⟨_, rfl, Or.inl ⟨e.1, ?_, rfl⟩⟩
                   rw [e.2]
                   rfl)
                | (refine ⟨_, rfl, Or.inr ⟨fun q => ?_, rfl, im2, h2, hag, rfl⟩⟩
                   obtain ⟨i, hi, hv, hw⟩ := tk_3 q
                   rcases (show i = 0 ∨ i = 1 ∨ i = 2 ∨ i = 3 ∨ i = 4 ∨ i = 5 by omega) with rfl | rfl | rfl | rfl | rfl | rfl
                   · exact hx13.elim (fun q => by omega) (fun q => q.2 ⟨rfl, hw⟩)
                   · exact hx37.elim (fun q => by omega) (fun q => q.2 ⟨rfl, hw⟩)
                   · exact hx61.elim (fun q => by omega) (fun q => q.2 ⟨rfl, hw⟩)
                   · exact hx87.elim (fun q => by omega) (fun q => q.2 ⟨rfl, hw⟩)
                   · exact hx110.elim (fun q => by omega) (fun q => q.2 ⟨rfl, hw⟩)
                   · exact hx135.elim (fun q => by omega) (fun q => q.2 ⟨rfl, hw⟩))
          · refine q_aload_n (t := 117) F dX9_name_116 rfl rfl rfl ?_
            refine g_X9_214 (t := 120) F dX9_name_117 rfl rfl ?_
            try simp only [up_app, row_app, scr_app, cpy_app, Nat.reduceEqDiff, Int.reduceToNat, Int.toNat_natCast, and_true, true_and, and_false, false_and, and_self, reduceIte]
            refine q_iret F dX9_name_120 rfl ?_
            first
              | (have w : wd b n p 0 := hx13.elim (fun q => q.2.2) (fun q => absurd q.1 (by omega))
                 have e := (wd_nm (by omega)).mp w
                 refine ⟨_, rfl, Or.inl ⟨e.1, ?_, rfl⟩⟩
                 rw [e.2]
                 rfl)
              | (have w : wd b n p 1 := hx37.elim (fun q => q.2.2) (fun q => absurd q.1 (by omega))
                 have e := (wd_nm (by omega)).mp w
                 refine ⟨_, rfl, Or.inl ⟨e.1, ?_, rfl⟩⟩
                 rw [e.2]
                 rfl)
              | (have w : wd b n p 2 := hx61.elim (fun q => q.2.2) (fun q => absurd q.1 (by omega))
                 have e := (wd_nm (by omega)).mp w
                 refine ⟨_, rfl, Or.inl ⟨e.1, ?_, rfl⟩⟩
                 rw [e.2]
                 rfl)
              | (have w : wd b n p 3 := hx87.elim (fun q => q.2.2) (fun q => absurd q.1 (by omega))
                 have e := (wd_nm (by omega)).mp w
                 refine ⟨_, rfl, Or.inl ⟨e.1, ?_, rfl⟩⟩
                 rw [e.2]
                 rfl)
              | (have w : wd b n p 4 := hx110.elim (fun q => q.2.2) (fun q => absurd q.1 (by omega))
                 have e := (wd_nm (by omega)).mp w
                 refine ⟨_, rfl, Or.inl ⟨e.1, ?_, rfl⟩⟩
                 rw [e.2]
                 rfl)
              | (have w : wd b n p 5 := hx135.elim (fun q => q.2.2) (fun q => absurd q.1 (by omega))
                 have e := (wd_nm (by omega)).mp w
                 refine ⟨_, rfl, Or.inl ⟨e.1, ?_, rfl⟩⟩
                 rw [e.2]
                 rfl)
              | (refine ⟨_, rfl, Or.inr ⟨fun q => ?_, rfl, im2, h2, hag, rfl⟩⟩
                 obtain ⟨i, hi, hv, hw⟩ := tk_3 q
                 rcases (show i = 0 ∨ i = 1 ∨ i = 2 ∨ i = 3 ∨ i = 4 ∨ i = 5 by omega) with rfl | rfl | rfl | rfl | rfl | rfl
                 · exact hx13.elim (fun q => by omega) (fun q => q.2 ⟨rfl, hw⟩)
                 · exact hx37.elim (fun q => by omega) (fun q => q.2 ⟨rfl, hw⟩)
                 · exact hx61.elim (fun q => by omega) (fun q => q.2 ⟨rfl, hw⟩)
                 · exact hx87.elim (fun q => by omega) (fun q => q.2 ⟨rfl, hw⟩)
                 · exact hx110.elim (fun q => by omega) (fun q => q.2 ⟨rfl, hw⟩)
                 · exact hx135.elim (fun q => by omega) (fun q => q.2 ⟨rfl, hw⟩))
        · refine q_aload_n (t := 94) F dX9_name_93 rfl rfl rfl ?_
          refine g_X9_211 (t := 97) F dX9_name_94 rfl rfl ?_
          try simp only [up_app, row_app, scr_app, cpy_app, Nat.reduceEqDiff, Int.reduceToNat, Int.toNat_natCast, and_true, true_and, and_false, false_and, and_self, reduceIte]
          refine q_iret F dX9_name_97 rfl ?_
          first
            | (have w : wd b n p 0 := hx13.elim (fun q => q.2.2) (fun q => absurd q.1 (by omega))
               have e := (wd_nm (by omega)).mp w
               refine ⟨_, rfl, Or.inl ⟨e.1, ?_, rfl⟩⟩
               rw [e.2]
               rfl)
            | (have w : wd b n p 1 := hx37.elim (fun q => q.2.2) (fun q => absurd q.1 (by omega))
               have e := (wd_nm (by omega)).mp w
               refine ⟨_, rfl, Or.inl ⟨e.1, ?_, rfl⟩⟩
               rw [e.2]
               rfl)
            | (have w : wd b n p 2 := hx61.elim (fun q => q.2.2) (fun q => absurd q.1 (by omega))
               have e := (wd_nm (by omega)).mp w
               refine ⟨_, rfl, Or.inl ⟨e.1, ?_, rfl⟩⟩
               rw [e.2]
               rfl)
            | (have w : wd b n p 3 := hx87.elim (fun q => q.2.2) (fun q => absurd q.1 (by omega))
               have e := (wd_nm (by omega)).mp w
               refine ⟨_, rfl, Or.inl ⟨e.1, ?_, rfl⟩⟩
               rw [e.2]
               rfl)
            | (have w : wd b n p 4 := hx110.elim (fun q => q.2.2) (fun q => absurd q.1 (by omega))
               have e := (wd_nm (by omega)).mp w
               refine ⟨_, rfl, Or.inl ⟨e.1, ?_, rfl⟩⟩
               rw [e.2]
               rfl)
            | (have w : wd b n p 5 := hx135.elim (fun q => q.2.2) (fun q => absurd q.1 (by omega))
               have e := (wd_nm (by omega)).mp w
               refine ⟨_, rfl, Or.inl ⟨e.1, ?_, rfl⟩⟩
               rw [e.2]
               rfl)
            | (refine ⟨_, rfl, Or.inr ⟨fun q => ?_, rfl, im2, h2, hag, rfl⟩⟩
               obtain ⟨i, hi, hv, hw⟩ := tk_3 q
               rcases (show i = 0 ∨ i = 1 ∨ i = 2 ∨ i = 3 ∨ i = 4 ∨ i = 5 by omega) with rfl | rfl | rfl | rfl | rfl | rfl
               · exact hx13.elim (fun q => by omega) (fun q => q.2 ⟨rfl, hw⟩)
               · exact hx37.elim (fun q => by omega) (fun q => q.2 ⟨rfl, hw⟩)
               · exact hx61.elim (fun q => by omega) (fun q => q.2 ⟨rfl, hw⟩)
               · exact hx87.elim (fun q => by omega) (fun q => q.2 ⟨rfl, hw⟩)
               · exact hx110.elim (fun q => by omega) (fun q => q.2 ⟨rfl, hw⟩)
               · exact hx135.elim (fun q => by omega) (fun q => q.2 ⟨rfl, hw⟩))
      · refine q_aload_n (t := 68) F dX9_name_67 rfl rfl rfl ?_
        refine g_X9_208 (t := 71) F dX9_name_68 rfl rfl ?_
        try simp only [up_app, row_app, scr_app, cpy_app, Nat.reduceEqDiff, Int.reduceToNat, Int.toNat_natCast, and_true, true_and, and_false, false_and, and_self, reduceIte]
        refine q_iret F dX9_name_71 rfl ?_
        first
          | (have w : wd b n p 0 := hx13.elim (fun q => q.2.2) (fun q => absurd q.1 (by omega))
             have e := (wd_nm (by omega)).mp w
             refine ⟨_, rfl, Or.inl ⟨e.1, ?_, rfl⟩⟩
             rw [e.2]
             rfl)
          | (have w : wd b n p 1 := hx37.elim (fun q => q.2.2) (fun q => absurd q.1 (by omega))
             have e := (wd_nm (by omega)).mp w
             refine ⟨_, rfl, Or.inl ⟨e.1, ?_, rfl⟩⟩
             rw [e.2]
             rfl)
          | (have w : wd b n p 2 := hx61.elim (fun q => q.2.2) (fun q => absurd q.1 (by omega))
             have e := (wd_nm (by omega)).mp w
             refine ⟨_, rfl, Or.inl ⟨e.1, ?_, rfl⟩⟩
             rw [e.2]
             rfl)
          | (have w : wd b n p 3 := hx87.elim (fun q => q.2.2) (fun q => absurd q.1 (by omega))
             have e := (wd_nm (by omega)).mp w
             refine ⟨_, rfl, Or.inl ⟨e.1, ?_, rfl⟩⟩
             rw [e.2]
             rfl)
          | (have w : wd b n p 4 := hx110.elim (fun q => q.2.2) (fun q => absurd q.1 (by omega))
             have e := (wd_nm (by omega)).mp w
             refine ⟨_, rfl, Or.inl ⟨e.1, ?_, rfl⟩⟩
             rw [e.2]
             rfl)
          | (have w : wd b n p 5 := hx135.elim (fun q => q.2.2) (fun q => absurd q.1 (by omega))
             have e := (wd_nm (by omega)).mp w
             refine ⟨_, rfl, Or.inl ⟨e.1, ?_, rfl⟩⟩
             rw [e.2]
             rfl)
          | (refine ⟨_, rfl, Or.inr ⟨fun q => ?_, rfl, im2, h2, hag, rfl⟩⟩
             obtain ⟨i, hi, hv, hw⟩ := tk_3 q
             rcases (show i = 0 ∨ i = 1 ∨ i = 2 ∨ i = 3 ∨ i = 4 ∨ i = 5 by omega) with rfl | rfl | rfl | rfl | rfl | rfl
             · exact hx13.elim (fun q => by omega) (fun q => q.2 ⟨rfl, hw⟩)
             · exact hx37.elim (fun q => by omega) (fun q => q.2 ⟨rfl, hw⟩)
             · exact hx61.elim (fun q => by omega) (fun q => q.2 ⟨rfl, hw⟩)
             · exact hx87.elim (fun q => by omega) (fun q => q.2 ⟨rfl, hw⟩)
             · exact hx110.elim (fun q => by omega) (fun q => q.2 ⟨rfl, hw⟩)
             · exact hx135.elim (fun q => by omega) (fun q => q.2 ⟨rfl, hw⟩))
    · refine q_aload_n (t := 44) F dX9_name_43 rfl rfl rfl ?_
      refine g_X9_205 (t := 47) F dX9_name_44 rfl rfl ?_
      try simp only [up_app, row_app, scr_app, cpy_app, Nat.reduceEqDiff, Int.reduceToNat, Int.toNat_natCast, and_true, true_and, and_false, false_and, and_self, reduceIte]
      refine q_iret F dX9_name_47 rfl ?_
      first
        | (have w : wd b n p 0 := hx13.elim (fun q => q.2.2) (fun q => absurd q.1 (by omega))
           have e := (wd_nm (by omega)).mp w
           refine ⟨_, rfl, Or.inl ⟨e.1, ?_, rfl⟩⟩
           rw [e.2]
           rfl)
        | (have w : wd b n p 1 := hx37.elim (fun q => q.2.2) (fun q => absurd q.1 (by omega))
           have e := (wd_nm (by omega)).mp w
           refine ⟨_, rfl, Or.inl ⟨e.1, ?_, rfl⟩⟩
           rw [e.2]
           rfl)
        | (have w : wd b n p 2 := hx61.elim (fun q => q.2.2) (fun q => absurd q.1 (by omega))
           have e := (wd_nm (by omega)).mp w
           refine ⟨_, rfl, Or.inl ⟨e.1, ?_, rfl⟩⟩
           rw [e.2]
           rfl)
        | (have w : wd b n p 3 := hx87.elim (fun q => q.2.2) (fun q => absurd q.1 (by omega))
           have e := (wd_nm (by omega)).mp w
           refine ⟨_, rfl, Or.inl ⟨e.1, ?_, rfl⟩⟩
           rw [e.2]
           rfl)
        | (have w : wd b n p 4 := hx110.elim (fun q => q.2.2) (fun q => absurd q.1 (by omega))
           have e := (wd_nm (by omega)).mp w
           refine ⟨_, rfl, Or.inl ⟨e.1, ?_, rfl⟩⟩
           rw [e.2]
           rfl)
        | (have w : wd b n p 5 := hx135.elim (fun q => q.2.2) (fun q => absurd q.1 (by omega))
           have e := (wd_nm (by omega)).mp w
           refine ⟨_, rfl, Or.inl ⟨e.1, ?_, rfl⟩⟩
           rw [e.2]
           rfl)
        | (refine ⟨_, rfl, Or.inr ⟨fun q => ?_, rfl, im2, h2, hag, rfl⟩⟩
           obtain ⟨i, hi, hv, hw⟩ := tk_3 q
           rcases (show i = 0 ∨ i = 1 ∨ i = 2 ∨ i = 3 ∨ i = 4 ∨ i = 5 by omega) with rfl | rfl | rfl | rfl | rfl | rfl
           · exact hx13.elim (fun q => by omega) (fun q => q.2 ⟨rfl, hw⟩)
           · exact hx37.elim (fun q => by omega) (fun q => q.2 ⟨rfl, hw⟩)
           · exact hx61.elim (fun q => by omega) (fun q => q.2 ⟨rfl, hw⟩)
           · exact hx87.elim (fun q => by omega) (fun q => q.2 ⟨rfl, hw⟩)
           · exact hx110.elim (fun q => by omega) (fun q => q.2 ⟨rfl, hw⟩)
           · exact hx135.elim (fun q => by omega) (fun q => q.2 ⟨rfl, hw⟩))
  · refine q_aload_n (t := 20) F dX9_name_19 rfl rfl rfl ?_
    refine g_X9_202 (t := 23) F dX9_name_20 rfl rfl ?_
    try simp only [up_app, row_app, scr_app, cpy_app, Nat.reduceEqDiff, Int.reduceToNat, Int.toNat_natCast, and_true, true_and, and_false, false_and, and_self, reduceIte]
    refine q_iret F dX9_name_23 rfl ?_
    first
      | (have w : wd b n p 0 := hx13.elim (fun q => q.2.2) (fun q => absurd q.1 (by omega))
         have e := (wd_nm (by omega)).mp w
         refine ⟨_, rfl, Or.inl ⟨e.1, ?_, rfl⟩⟩
         rw [e.2]
         rfl)
      | (have w : wd b n p 1 := hx37.elim (fun q => q.2.2) (fun q => absurd q.1 (by omega))
         have e := (wd_nm (by omega)).mp w
         refine ⟨_, rfl, Or.inl ⟨e.1, ?_, rfl⟩⟩
         rw [e.2]
         rfl)
      | (have w : wd b n p 2 := hx61.elim (fun q => q.2.2) (fun q => absurd q.1 (by omega))
         have e := (wd_nm (by omega)).mp w
         refine ⟨_, rfl, Or.inl ⟨e.1, ?_, rfl⟩⟩
         rw [e.2]
         rfl)
      | (have w : wd b n p 3 := hx87.elim (fun q => q.2.2) (fun q => absurd q.1 (by omega))
         have e := (wd_nm (by omega)).mp w
         refine ⟨_, rfl, Or.inl ⟨e.1, ?_, rfl⟩⟩
         rw [e.2]
         rfl)
      | (have w : wd b n p 4 := hx110.elim (fun q => q.2.2) (fun q => absurd q.1 (by omega))
         have e := (wd_nm (by omega)).mp w
         refine ⟨_, rfl, Or.inl ⟨e.1, ?_, rfl⟩⟩
         rw [e.2]
         rfl)
      | (have w : wd b n p 5 := hx135.elim (fun q => q.2.2) (fun q => absurd q.1 (by omega))
         have e := (wd_nm (by omega)).mp w
         refine ⟨_, rfl, Or.inl ⟨e.1, ?_, rfl⟩⟩
         rw [e.2]
         rfl)
      | (refine ⟨_, rfl, Or.inr ⟨fun q => ?_, rfl, im2, h2, hag, rfl⟩⟩
         obtain ⟨i, hi, hv, hw⟩ := tk_3 q
         rcases (show i = 0 ∨ i = 1 ∨ i = 2 ∨ i = 3 ∨ i = 4 ∨ i = 5 by omega) with rfl | rfl | rfl | rfl | rfl | rfl
         · exact hx13.elim (fun q => by omega) (fun q => q.2 ⟨rfl, hw⟩)
         · exact hx37.elim (fun q => by omega) (fun q => q.2 ⟨rfl, hw⟩)
         · exact hx61.elim (fun q => by omega) (fun q => q.2 ⟨rfl, hw⟩)
         · exact hx87.elim (fun q => by omega) (fun q => q.2 ⟨rfl, hw⟩)
         · exact hx110.elim (fun q => by omega) (fun q => q.2 ⟨rfl, hw⟩)
         · exact hx135.elim (fun q => by omega) (fun q => q.2 ⟨rfl, hw⟩))
end
