section
/-! helpers -/
theorem wp_less {M : MS} {X : XS} {ad : Ads} {Y : YS} {post : Option SV → Mem → Prop} {pc : Nat} {ls : List (Option SV)} {st : List SV} {m : Mem} (n : Nat) (k : Wp M X ad Y post pc (ls.set n none) st m) : Wp M X ad Y post pc ls st m := by
  intro H locs a hP hS hl
  refine k H locs a hP hS ⟨hl.1, hl.2.1, fun i v hv => ?_⟩
  by_cases h : i = n
  · subst h
    have hlt : i < (ls.set i none).length := (List.getElem?_eq_some_iff.mp hv).1
    rw [List.length_set] at hlt
    rw [List.getElem?_set_self hlt] at hv
    cases hv
  · rw [List.getElem?_set_ne (Ne.symm h)] at hv
    exact hl.2.2 i v hv
/-- the same but for cells of these kinds -/
def ag (l : List Nat) (a b : IM) : Prop := ∀ k, k ∉ l → ∀ i s, a k i s = b k i s
theorem ag_rfl (l : List Nat) (a : IM) : ag l a a := fun _ _ _ _ => rfl
theorem ag.trans {l : List Nat} {a b c : IM} (h : ag l a b) (h2 : ag l b c) : ag l a c := fun k hk i s => (h k hk i s).trans (h2 k hk i s)
theorem ag.symm {l : List Nat} {a b : IM} (h : ag l a b) : ag l b a := fun k hk i s => (h k hk i s).symm
theorem ag.mono {l l' : List Nat} {a b : IM} (h : ag l a b) (hl : ∀ k, k ∈ l → k ∈ l') : ag l' a b := fun k hk i s => h k (fun q => hk (hl k q)) i s
theorem ag_up {l : List Nat} {a b : IM} {k i s : Nat} {x : Int} (h : ag l a b) (hk : k ∈ l) : ag l (up a k i s x) b := fun k' hk' i' s' => by
  rw [up_app, if_neg (fun (q : k' = k ∧ i' = i ∧ s' = s) => hk' (q.1 ▸ hk))]
  exact h k' hk' i' s'
theorem ag_upup {l : List Nat} {a b : IM} {k i s : Nat} {x : Int} (h : ag l a b) : ag l (up a k i s x) (up b k i s x) := fun k' hk' i' s' => by
  rw [up_app, up_app, h k' hk']
theorem garb_ag {im : IM} {bt rt : Nat} {lm : IM} {m' : Mem} (h : garb im bt rt lm m') (hR : RI im) : ∃ im', RI im' ∧ ag [5, 17] im' im ∧ m' = (im', rs bt rt, lm) := by
  obtain ⟨a, b, g, ha, hb, hg, rfl⟩ := h
  refine ⟨_, RI_scr hR ha hb hg, ?_, rfl⟩
  intro k hk i s
  have h1 : k ≠ 5 := fun q => hk (by rw [q]; decide)
  have h2 : k ≠ 17 := fun q => hk (by rw [q]; decide)
  rw [scr_app, if_neg h1, if_neg (fun q => h2 q.1), if_neg (fun q => h2 q.1)]
theorem look_ag (im : IM) (w p g : Nat) : ag [16, 17] (lookM im w p g) im := by
  unfold lookM
  exact ag_up (ag_up (ag_up (ag_up (ag_up (ag_up (ag_up (ag_rfl _ _) (by decide)) (by decide)) (by decide)) (by decide)) (by decide)) (by decide)) (by decide)
/-- a person is in order -/
def PI (im : IM) (p : Nat) : Prop := (0 ≤ im 21 p 0 ∧ im 21 p 0 < 6) ∧ (0 ≤ im 21 p 1 ∧ im 21 p 1 < 10) ∧ ∀ g, g < 10 → -1 ≤ im 22 p g ∧ im 22 p g < 16 ∧ (im 22 p g ≠ -1 → 0 ≤ im 23 p g ∧ im 23 p g ≤ 1100)
/-- a world is in order -/
def WI (im : IM) (w : Nat) : Prop := (0 ≤ im 18 w 3 ∧ im 18 w 3 ≤ 5) ∧ (0 ≤ im 18 w 4 ∧ im 18 w 4 ≤ 1100) ∧ (0 ≤ im 18 w 5 ∧ im 18 w 5 < 16777216) ∧ (0 ≤ im 18 w 7 ∧ im 18 w 7 < 6) ∧ goodT im (im 18 w 7).toNat ∧ ∀ p : Nat, (p : Int) < im 18 w 3 → PI im (5 * w + p)
theorem PI_ag {a b : IM} {l : List Nat} {p : Nat} (h : ag l a b) (h1 : 21 ∉ l) (h2 : 22 ∉ l) (h3 : 23 ∉ l) (hp : PI b p) : PI a p := by
  unfold PI
  simp only [h 21 h1, h 22 h2, h 23 h3]
  exact hp
theorem WI_ag {a b : IM} {l : List Nat} {w : Nat} (h : ag l a b) (h0 : 18 ∉ l) (h1 : 21 ∉ l) (h2 : 22 ∉ l) (h3 : 23 ∉ l) (h4 : 3 ∉ l) (h5 : 4 ∉ l) (hw : WI b w) : WI a w := by
  unfold WI
  simp only [h 18 h0]
  exact ⟨hw.1, hw.2.1, hw.2.2.1, hw.2.2.2.1, goodT_congr (fun s => h 3 h4 _ s) (fun s => h 4 h5 _ s) hw.2.2.2.2.1, fun p hp => PI_ag h h1 h2 h3 (hw.2.2.2.2.2 p hp)⟩

set_option maxHeartbeats 4000000 in
theorem c_X8_within (l : Launch) (G : GS) (im : IM) (bt rt : Nat) (lm : IM) (i n : Int) (hi : ri i) (hn : ri n) : Cn l (XC G) yX8_within Y_X8_within [vI i, vI n] (im, rs bt rt, lm) (pI fun x m' => x = (if 0 ≤ i ∧ i < n then 1 else 0) ∧ m' = (im, rs bt rt, lm)) := by
  refine cn_of (by decide) (okC G) rfl (Nat.le_of_ble_eq_true rfl) ?_
  intro M ad hMl F
  subst hMl
  have hi1 := hi.1
  have hi2 := hi.2
  have hn1 := hn.1
  have hn2 := hn.2
  refine wp_pad 0 ?_
  show Wp M (XC G) ad Y_X8_within (pI fun x m' => x = (if 0 ≤ i ∧ i < n then 1 else 0) ∧ m' = (im, rs bt rt, lm)) 0 [some (vI i), some (vI n)] [] (im, rs bt rt, lm)
  refine q_iload_n (t := 1) F dX8_within_0 rfl rfl rfl ?_
  refine q_if_lt (t := 4) (u := 13) F dX8_within_1 (by first | exact hR _ _ _ | (constructor <;> omega)) (by decide) rfl (fun c1 => ?_) (fun c1 => ?_)
  · refine q_iconst (t := 14) F dX8_within_13 rfl ?_
    refine q_zret F dX8_within_14 rfl (by decide) ?_
    first | exact ⟨_, rfl, by rw [if_pos (by omega)], rfl⟩ | exact ⟨_, rfl, by rw [if_neg (by omega)], rfl⟩
  · refine q_iload_n (t := 5) F dX8_within_4 rfl rfl rfl ?_
    refine q_iload_n (t := 6) F dX8_within_5 rfl rfl rfl ?_
    refine q_icmp_ge (t := 9) (u := 13) F dX8_within_6 (by first | exact hR _ _ _ | (constructor <;> omega)) (by first | exact hR _ _ _ | (constructor <;> omega)) (by decide) rfl (fun c6 => ?_) (fun c6 => ?_)
    · refine q_iconst (t := 14) F dX8_within_13 rfl ?_
      refine q_zret F dX8_within_14 rfl (by decide) ?_
      first | exact ⟨_, rfl, by rw [if_pos (by omega)], rfl⟩ | exact ⟨_, rfl, by rw [if_neg (by omega)], rfl⟩
    · refine q_iconst (t := 10) F dX8_within_9 rfl ?_
      refine q_goto (t := 14) F dX8_within_10 (by decide) ?_
      refine q_zret F dX8_within_14 rfl (by decide) ?_
      first | exact ⟨_, rfl, by rw [if_pos (by omega)], rfl⟩ | exact ⟨_, rfl, by rw [if_neg (by omega)], rfl⟩

set_option maxHeartbeats 4000000 in
theorem c_X8_isSpan (l : Launch) (G : GS) (im : IM) (bt rt : Nat) (lm : IM) (n : Int) (hn : ri n) : Cn l (XC G) yX8_isSpan Y_X8_isSpan [vI n] (im, rs bt rt, lm) (pI fun x m' => x = (if 0 ≤ n ∧ n ≤ 60 then 1 else 0) ∧ m' = (im, rs bt rt, lm)) := by
  refine cn_of (by decide) (okC G) rfl (Nat.le_of_ble_eq_true rfl) ?_
  intro M ad hMl F
  subst hMl
  have hn1 := hn.1
  have hn2 := hn.2
  refine wp_pad 0 ?_
  show Wp M (XC G) ad Y_X8_isSpan (pI fun x m' => x = (if 0 ≤ n ∧ n ≤ 60 then 1 else 0) ∧ m' = (im, rs bt rt, lm)) 0 [some (vI n)] [] (im, rs bt rt, lm)
  refine q_iload_n (t := 1) F dX8_isSpan_0 rfl rfl rfl ?_
  refine q_if_lt (t := 4) (u := 14) F dX8_isSpan_1 (by first | exact hR _ _ _ | (constructor <;> omega)) (by decide) rfl (fun c1 => ?_) (fun c1 => ?_)
  · refine q_iconst (t := 15) F dX8_isSpan_14 rfl ?_
    refine q_zret F dX8_isSpan_15 rfl (by decide) ?_
    first | exact ⟨_, rfl, by rw [if_pos (by omega)], rfl⟩ | exact ⟨_, rfl, by rw [if_neg (by omega)], rfl⟩
  · refine q_iload_n (t := 5) F dX8_isSpan_4 rfl rfl rfl ?_
    refine q_bipush (t := 7) F dX8_isSpan_5 (by decide) rfl ?_
    refine q_icmp_gt (t := 10) (u := 14) F dX8_isSpan_7 (by first | exact hR _ _ _ | (constructor <;> omega)) (by first | exact hR _ _ _ | (constructor <;> omega)) (by decide) rfl (fun c7 => ?_) (fun c7 => ?_)
    · refine q_iconst (t := 15) F dX8_isSpan_14 rfl ?_
      refine q_zret F dX8_isSpan_15 rfl (by decide) ?_
      first | exact ⟨_, rfl, by rw [if_pos (by omega)], rfl⟩ | exact ⟨_, rfl, by rw [if_neg (by omega)], rfl⟩
    · refine q_iconst (t := 11) F dX8_isSpan_10 rfl ?_
      refine q_goto (t := 15) F dX8_isSpan_11 (by decide) ?_
      refine q_zret F dX8_isSpan_15 rfl (by decide) ?_
      first | exact ⟨_, rfl, by rw [if_pos (by omega)], rfl⟩ | exact ⟨_, rfl, by rw [if_neg (by omega)], rfl⟩

set_option maxHeartbeats 4000000 in
theorem c_X8_isOne (l : Launch) (G : GS) (im : IM) (bt rt : Nat) (lm : IM) (i : Int) (hi : ri i) (hR : RI im) : Cn l (XC G) yX8_isOne Y_X8_isOne [vR 0 0, vI i] (im, rs bt rt, lm) (pI fun x m' => x = (if 0 ≤ i ∧ i < im 18 0 3 then 1 else 0) ∧ m' = (im, rs bt rt, lm)) := by
  refine cn_of (by decide) (okC G) rfl (Nat.le_of_ble_eq_true rfl) ?_
  intro M ad hMl F
  subst hMl
  refine wp_pad 0 ?_
  show Wp M (XC G) ad Y_X8_isOne (pI fun x m' => x = (if 0 ≤ i ∧ i < im 18 0 3 then 1 else 0) ∧ m' = (im, rs bt rt, lm)) 0 [some (vR 0 0), some (vI i)] [] (im, rs bt rt, lm)
  refine q_iload_n (t := 1) F dX8_isOne_0 rfl rfl rfl ?_
  refine q_aload_n (t := 2) F dX8_isOne_1 rfl rfl rfl ?_
  refine g_X8_51 (t := 5) F dX8_isOne_2 rfl rfl ?_
  refine g_X8_115 (t := 8) F dX8_isOne_5 rfl (by omega) rfl ?_
  refine wp_callS (t := 11) [_, _] F dX8_isOne_8 k_X8_within st_X8_within ml_X8_95 rfl rfl (Nat.le_of_ble_eq_true rfl) (by decide) (c_X8_within _ G im bt rt lm i (im 18 0 3) hi (hR _ _ _)) rfl (kI ?_)
  rintro x m' ⟨rfl, rfl⟩
  refine q_zret F dX8_isOne_11 rfl (by split <;> decide) ?_
  exact ⟨_, rfl, rfl, rfl⟩

/-! World -/
/-- it is CHURCH in that hour -/
def chI (ch h : Int) : Int := if ch % 4294967296 / 2 ^ (h % 24).toNat % 2 = 0 then 0 else 1
theorem chI_in (ch h : Int) : 0 ≤ chI ch h ∧ chI ch h ≤ 1 := by
  unfold chI
  split <;> omega

set_option maxHeartbeats 4000000 in
theorem c_X7_isChurchIn (l : Launch) (G : GS) (im : IM) (bt rt : Nat) (lm : IM) (w : Nat) (hw : w < 3) (later : Int) (l0 : 0 ≤ later) (l1 : later ≤ 3000) (h0 : 0 ≤ im 18 w 4) (h1 : im 18 w 4 ≤ 3000) : Cn l (XC G) yX7_isChurchIn Y_X7_isChurchIn [vR 18 w, vI later] (im, rs bt rt, lm) (pI fun x m' => x = chI (im 18 w 5) (im 18 w 4 + later) ∧ m' = (im, rs bt rt, lm)) := by
  refine cn_of (by decide) (okC G) rfl (Nat.le_of_ble_eq_true rfl) ?_
  intro M ad hMl F
  subst hMl
  refine wp_pad 0 ?_
  show Wp M (XC G) ad Y_X7_isChurchIn (pI fun x m' => x = chI (im 18 w 5) (im 18 w 4 + later) ∧ m' = (im, rs bt rt, lm)) 0 [some (vR 18 w), some (vI later)] [] (im, rs bt rt, lm)
  refine q_aload_n (t := 1) F dX7_isChurchIn_0 rfl rfl rfl ?_
  refine g_X7_21 (t := 4) F dX7_isChurchIn_1 rfl (by omega) rfl ?_
  refine q_aload_n (t := 5) F dX7_isChurchIn_4 rfl rfl rfl ?_
  refine g_X7_33 (t := 8) F dX7_isChurchIn_5 rfl (by omega) rfl ?_
  refine q_iload_n (t := 9) F dX7_isChurchIn_8 rfl rfl rfl ?_
  refine q_iadd (t := 10) F dX7_isChurchIn_9 rfl ?_
  refine q_bipush (t := 12) F dX7_isChurchIn_10 (by decide) rfl ?_
  refine q_irem (t := 13) F dX7_isChurchIn_12 (by first | exact hR _ _ _ | (constructor <;> omega)) (by first | exact hR _ _ _ | (constructor <;> omega)) (by omega) (by omega) rfl ?_
  refine q_iushr (t := 14) F dX7_isChurchIn_13 (by omega) (by omega) rfl ?_
  refine q_iconst (t := 15) F dX7_isChurchIn_14 rfl ?_
  refine q_iand1 (t := 16) F dX7_isChurchIn_15 rfl ?_
  refine q_if_eq (t := 19) (u := 23) F dX7_isChurchIn_16 (by first | exact hR _ _ _ | (constructor <;> omega)) (by decide) rfl (fun c16 => ?_) (fun c16 => ?_)
  · refine q_iconst (t := 24) F dX7_isChurchIn_23 rfl ?_
    refine q_zret F dX7_isChurchIn_24 rfl (by decide) ?_
    first | exact ⟨_, rfl, by unfold chI; rw [if_pos (by assumption)], rfl⟩ | exact ⟨_, rfl, by unfold chI; rw [if_neg (by assumption)], rfl⟩
  · refine q_iconst (t := 20) F dX7_isChurchIn_19 rfl ?_
    refine q_goto (t := 24) F dX7_isChurchIn_20 (by decide) ?_
    refine q_zret F dX7_isChurchIn_24 rfl (by decide) ?_
    first | exact ⟨_, rfl, by unfold chI; rw [if_pos (by assumption)], rfl⟩ | exact ⟨_, rfl, by unfold chI; rw [if_neg (by assumption)], rfl⟩

/-- how many WORDS are STUCK in the first n of a world's people -/
def cntA (im : IM) (w : Nat) : Nat → Int
  | 0 => 0
  | n + 1 => cntA im w n + cntW (im 22 (5 * w + n)) 10
theorem cntA_in (im : IM) (w n : Nat) : 0 ≤ cntA im w n ∧ cntA im w n ≤ 10 * n := by
  induction n with
  | zero => exact ⟨Int.le_refl 0, Int.le_refl 0⟩
  | succ n ih =>
    have h : cntA im w (n + 1) = cntA im w n + cntW (im 22 (5 * w + n)) 10 := rfl
    have h2 := cntW_in (im 22 (5 * w + n)) 10
    rw [h]
    omega

set_option maxHeartbeats 4000000 in
theorem c_X7_stuckInAll (l : Launch) (G : GS) (im : IM) (bt rt : Nat) (lm : IM) (w : Nat) (hw : w < 3) (hR : RI im) (s0 : 0 ≤ im 18 w 3) (s1 : im 18 w 3 ≤ 5) : Cn l (XC G) yX7_stuckInAll Y_X7_stuckInAll [vR 18 w] (im, rs bt rt, lm) (pI fun x m' => x = cntA im w (im 18 w 3).toNat ∧ m' = (im, rs bt rt, lm)) := by
  refine cn_of (by decide) (okC G) rfl (Nat.le_of_ble_eq_true rfl) ?_
  intro M ad hMl F
  subst hMl
  refine wp_pad 2 ?_
  show Wp M (XC G) ad Y_X7_stuckInAll (pI fun x m' => x = cntA im w (im 18 w 3).toNat ∧ m' = (im, rs bt rt, lm)) 0 [some (vR 18 w), none, none] [] (im, rs bt rt, lm)
  refine q_iconst (t := 1) F dX7_stuckInAll_0 rfl ?_
  refine q_istore_n (t := 2) F dX7_stuckInAll_1 rfl (by decide) rfl rfl ?_
  refine q_iconst (t := 3) F dX7_stuckInAll_2 rfl ?_
  refine q_istore_n (t := 4) F dX7_stuckInAll_3 rfl (by decide) rfl rfl ?_
  have L4 : ∀ (fz : Nat) (i : Nat), (im 18 w 3).toNat - i < fz → (i : Int) ≤ im 18 w 3 → Wp M (XC G) ad Y_X7_stuckInAll (pI fun x m' => x = cntA im w (im 18 w 3).toNat ∧ m' = (im, rs bt rt, lm)) 4 [some (vR 18 w), some (vI (cntA im w i)), some (vI (i : Int))] [] (im, rs bt rt, lm) := by
    intro fz
    induction fz with
    | zero => intro i h; exact absurd h (Nat.not_lt_zero _)
    | succ fz ih =>
      intro i hmeas hi
      refine q_iload_n (t := 5) F dX7_stuckInAll_4 rfl rfl rfl ?_
      refine q_aload_n (t := 6) F dX7_stuckInAll_5 rfl rfl rfl ?_
      refine g_X7_30 (t := 9) F dX7_stuckInAll_6 rfl (by omega) rfl ?_
      refine q_icmp_ge (t := 12) (u := 30) F dX7_stuckInAll_9 (by first | exact hR _ _ _ | (constructor <;> omega)) (by first | exact hR _ _ _ | (constructor <;> omega)) (by decide) rfl (fun c9 => ?_) (fun c9 => ?_)
      · refine q_iload_n (t := 31) F dX7_stuckInAll_30 rfl rfl rfl ?_
        refine q_iret F dX7_stuckInAll_31 rfl ?_
        exact ⟨_, rfl, by rw [show (im 18 w 3).toNat = i by omega], rfl⟩
      · refine q_iload_n (t := 13) F dX7_stuckInAll_12 rfl rfl rfl ?_
        refine q_aload_n (t := 14) F dX7_stuckInAll_13 rfl rfl rfl ?_
        refine g_X7_11 (t := 17) F dX7_stuckInAll_14 rfl (by omega) rfl ?_
        refine q_iload_n (t := 18) F dX7_stuckInAll_17 rfl rfl rfl ?_
        first | refine laN_19 (t := 19) F dX7_stuckInAll_18 (by omega) (by omega) rfl ?_ | refine la_19 (t := 19) F dX7_stuckInAll_18 (by omega) (by omega) (by omega) rfl ?_
        refine wp_callV (t := 22) [] F dX7_stuckInAll_19 k_X3_stuckInAll v_X3_stuckInAll ml_X7_55 rfl rfl rfl rfl (Nat.le_of_ble_eq_true rfl) (by decide) (m_21 (by omega)) (c_X3_stuckInAll _ G im bt rt lm (5 * w + i) (by omega) hR) rfl (kI ?_)
        rintro x m' ⟨rfl, rfl⟩
        refine q_iadd (t := 23) F dX7_stuckInAll_22 rfl ?_
        refine q_istore_n (t := 24) F dX7_stuckInAll_23 rfl (by decide) rfl rfl ?_
        refine q_iinc (t := 27) F dX7_stuckInAll_24 rfl (by decide) rfl rfl ?_
        refine q_goto (t := 4) F dX7_stuckInAll_27 (by decide) ?_
        exact ih (i + 1) (by omega) (by omega)
  exact L4 _ 0 (Nat.lt_succ_self _) (by omega)

/-- the first n people of a world become another's -/
def becP (im : IM) (w v n : Nat) : IM := fun k i s => if k = 18 ∧ i = w ∧ 3 ≤ s ∧ s ≤ 7 then im 18 v s else if (k = 21 ∧ s < 2 ∨ k = 22 ∧ s < 10 ∨ k = 23 ∧ s < 10) ∧ 5 * w ≤ i ∧ i < 5 * w + n then im k (5 * v + (i - 5 * w)) s else im k i s
theorem becP_app (im : IM) (w v n k i s : Nat) : becP im w v n k i s = if k = 18 ∧ i = w ∧ 3 ≤ s ∧ s ≤ 7 then im 18 v s else if (k = 21 ∧ s < 2 ∨ k = 22 ∧ s < 10 ∨ k = 23 ∧ s < 10) ∧ 5 * w ≤ i ∧ i < 5 * w + n then im k (5 * v + (i - 5 * w)) s else im k i s := rfl
theorem becP_0 (im : IM) (w v : Nat) : up (up (up (up (up im 18 w 3 (im 18 v 3)) 18 w 4 (im 18 v 4)) 18 w 5 (im 18 v 5)) 18 w 6 (im 18 v 6)) 18 w 7 (im 18 v 7) = becP im w v 0 := by
  funext k i s
  simp only [up_app, becP_app]
  by_cases h : k = 18 ∧ i = w ∧ 3 ≤ s ∧ s ≤ 7
  · obtain ⟨rfl, rfl, h3, h4⟩ := h
    rcases (show s = 3 ∨ s = 4 ∨ s = 5 ∨ s = 6 ∨ s = 7 by omega) with rfl | rfl | rfl | rfl | rfl <;> simp
  · rw [if_neg h, if_neg (show ¬ ((k = 21 ∧ s < 2 ∨ k = 22 ∧ s < 10 ∨ k = 23 ∧ s < 10) ∧ 5 * w ≤ i ∧ i < 5 * w + 0) by omega)]
    rw [if_neg (by omega), if_neg (by omega), if_neg (by omega), if_neg (by omega), if_neg (by omega)]
theorem becP_s (im : IM) {w v n : Nat} (hwv : w ≠ v) (hn : n < 5) : cpy (cpy (up (up (becP im w v n) 21 (5 * w + n) 0 (becP im w v n 21 (5 * v + n) 0)) 21 (5 * w + n) 1 (becP im w v n 21 (5 * v + n) 1)) 22 (5 * v + n) 0 22 (5 * w + n) 0 10) 23 (5 * v + n) 0 23 (5 * w + n) 0 10 = becP im w v (n + 1) := by
  have hv : ∀ k s, (k = 21 ∨ k = 22 ∨ k = 23) → becP im w v n k (5 * v + n) s = im k (5 * v + n) s := by
    intro k s hk
    rw [becP_app, if_neg (by omega), if_neg (by omega)]
  funext k i s
  by_cases h : (k = 21 ∧ s < 2 ∨ k = 22 ∧ s < 10 ∨ k = 23 ∧ s < 10) ∧ i = 5 * w + n
  · obtain ⟨hk, rfl⟩ := h
    rw [show becP im w v (n + 1) k (5 * w + n) s = im k (5 * v + n) s by
      rw [becP_app, if_neg (by omega), if_pos (by omega), show 5 * w + n - 5 * w = n by omega]]
    simp only [cpy_app, up_app, Nat.zero_add, Nat.sub_zero, Nat.zero_le, true_and, hv 21 0 (Or.inl rfl), hv 21 1 (Or.inl rfl)]
    rcases hk with ⟨rfl, hs⟩ | ⟨rfl, hs⟩ | ⟨rfl, hs⟩
    · rcases (show s = 0 ∨ s = 1 by omega) with rfl | rfl <;> simp
    · rw [if_neg (by omega), if_pos (by omega)]
      first | exact hv 22 s (by omega) | (rw [if_neg (by omega), if_neg (by omega)]; exact hv 22 s (by omega))
    · rw [if_pos (by omega)]
      first | exact hv 23 s (by omega) | (rw [if_neg (by omega), if_neg (by omega), if_neg (by omega)]; exact hv 23 s (by omega))
  · have e : becP im w v (n + 1) k i s = becP im w v n k i s := by
      rw [becP_app, becP_app]
      by_cases h2 : k = 18 ∧ i = w ∧ 3 ≤ s ∧ s ≤ 7
      · rw [if_pos h2, if_pos h2]
      · rw [if_neg h2, if_neg h2]
        by_cases h3 : (k = 21 ∧ s < 2 ∨ k = 22 ∧ s < 10 ∨ k = 23 ∧ s < 10) ∧ 5 * w ≤ i ∧ i < 5 * w + n
        · rw [if_pos (by omega), if_pos h3]
        · rw [if_neg (by omega), if_neg h3]
    rw [e]
    simp only [cpy_app, up_app, Nat.zero_add, Nat.sub_zero, Nat.zero_le, true_and]
    rw [if_neg (by omega), if_neg (by omega), if_neg (by omega), if_neg (by omega)]
/-- World.become -/
def becM (im : IM) (w v : Nat) : IM := becP im w v (im 18 v 3).toNat
theorem RI_bec {im : IM} {w v n : Nat} (h : RI im) : RI (becP im w v n) := by
  intro k i s
  rw [becP_app]
  repeat' split
  all_goals exact h _ _ _

set_option maxHeartbeats 4000000 in
theorem c_X7_become (l : Launch) (G : GS) (im : IM) (bt rt : Nat) (lm : IM) (w v : Nat) (hw : w < 3) (hv : v < 3) (hwv : w ≠ v) (hR : RI im) (s0 : 0 ≤ im 18 v 3) (s1 : im 18 v 3 ≤ 5) : Cn l (XC G) yX7_become Y_X7_become [vR 18 w, vR 18 v] (im, rs bt rt, lm) (pV fun m' => m' = (becM im w v, rs bt rt, lm)) := by
  refine cn_of (by decide) (okC G) rfl (Nat.le_of_ble_eq_true rfl) ?_
  intro M ad hMl F
  subst hMl
  refine wp_pad 1 ?_
  show Wp M (XC G) ad Y_X7_become (pV fun m' => m' = (becM im w v, rs bt rt, lm)) 0 [some (vR 18 w), some (vR 18 v), none] [] (im, rs bt rt, lm)
  refine q_aload_n (t := 1) F dX7_become_0 rfl rfl rfl ?_
  refine q_aload_n (t := 2) F dX7_become_1 rfl rfl rfl ?_
  refine g_X7_30 (t := 5) F dX7_become_2 rfl (by omega) rfl ?_
  refine p_X7_30 (t := 8) F dX7_become_5 rfl (by omega) rfl ?_
  refine q_aload_n (t := 9) F dX7_become_8 rfl rfl rfl ?_
  refine q_aload_n (t := 10) F dX7_become_9 rfl rfl rfl ?_
  refine g_X7_33 (t := 13) F dX7_become_10 rfl (by omega) rfl ?_
  try simp only [up_app, row_app, scr_app, cpy_app, Nat.reduceEqDiff, Int.reduceToNat, Int.toNat_natCast, and_true, true_and, and_false, false_and, and_self, reduceIte]
  refine p_X7_33 (t := 16) F dX7_become_13 rfl (by omega) rfl ?_
  refine q_aload_n (t := 17) F dX7_become_16 rfl rfl rfl ?_
  refine q_aload_n (t := 18) F dX7_become_17 rfl rfl rfl ?_
  refine g_X7_21 (t := 21) F dX7_become_18 rfl (by omega) rfl ?_
  try simp only [up_app, row_app, scr_app, cpy_app, Nat.reduceEqDiff, Int.reduceToNat, Int.toNat_natCast, and_true, true_and, and_false, false_and, and_self, reduceIte]
  refine p_X7_21 (t := 24) F dX7_become_21 rfl (by omega) rfl ?_
  refine q_aload_n (t := 25) F dX7_become_24 rfl rfl rfl ?_
  refine q_aload_n (t := 26) F dX7_become_25 rfl rfl rfl ?_
  refine g_X7_36 (t := 29) F dX7_become_26 rfl (by omega) rfl ?_
  try simp only [up_app, row_app, scr_app, cpy_app, Nat.reduceEqDiff, Int.reduceToNat, Int.toNat_natCast, and_true, true_and, and_false, false_and, and_self, reduceIte]
  refine p_X7_36 (t := 32) F dX7_become_29 rfl (by omega) rfl ?_
  refine q_aload_n (t := 33) F dX7_become_32 rfl rfl rfl ?_
  refine q_aload_n (t := 34) F dX7_become_33 rfl rfl rfl ?_
  refine g_X7_39 (t := 37) F dX7_become_34 rfl (by omega) rfl ?_
  try simp only [up_app, row_app, scr_app, cpy_app, Nat.reduceEqDiff, Int.reduceToNat, Int.toNat_natCast, and_true, true_and, and_false, false_and, and_self, reduceIte]
  refine p_X7_39 (t := 40) F dX7_become_37 rfl (by omega) rfl ?_
  refine q_iconst (t := 41) F dX7_become_40 rfl ?_
  refine q_istore_n (t := 42) F dX7_become_41 rfl (by decide) rfl rfl ?_
  have L42 : ∀ (fz : Nat) (i : Nat), (im 18 v 3).toNat - i < fz → (i : Int) ≤ im 18 v 3 → Wp M (XC G) ad Y_X7_become (pV fun m' => m' = (becM im w v, rs bt rt, lm)) 42 [some (vR 18 w), some (vR 18 v), some (vI (i : Int))] [] (becP im w v i, rs bt rt, lm) := by
    intro fz
    induction fz with
    | zero => intro i h; exact absurd h (Nat.not_lt_zero _)
    | succ fz ih =>
      intro i hmeas hi
      have e3 : becP im w v i 18 w 3 = im 18 v 3 := by rw [becP_app, if_pos (by omega)]
      refine q_iload_n (t := 43) F dX7_become_42 rfl rfl rfl ?_
      refine q_aload_n (t := 44) F dX7_become_43 rfl rfl rfl ?_
      refine g_X7_30 (t := 47) F dX7_become_44 rfl (by omega) rfl ?_
      try simp only [up_app, row_app, scr_app, cpy_app, Nat.reduceEqDiff, Int.reduceToNat, Int.toNat_natCast, and_true, true_and, and_false, false_and, and_self, reduceIte]
      rw [e3]
      refine q_icmp_ge (t := 50) (u := 71) F dX7_become_47 (by first | exact hR _ _ _ | (constructor <;> omega)) (by first | exact hR _ _ _ | (constructor <;> omega)) (by decide) rfl (fun c47 => ?_) (fun c47 => ?_)
      · refine q_vret F dX7_become_71 rfl ?_
        exact ⟨rfl, by unfold becM; rw [show (im 18 v 3).toNat = i by omega]⟩
      · refine q_aload_n (t := 51) F dX7_become_50 rfl rfl rfl ?_
        refine g_X7_11 (t := 54) F dX7_become_51 rfl (by omega) rfl ?_
        refine q_iload_n (t := 55) F dX7_become_54 rfl rfl rfl ?_
        first | refine laN_19 (t := 56) F dX7_become_55 (by omega) (by omega) rfl ?_ | refine la_19 (t := 56) F dX7_become_55 (by omega) (by omega) (by omega) rfl ?_
        refine q_aload_n (t := 57) F dX7_become_56 rfl rfl rfl ?_
        refine g_X7_11 (t := 60) F dX7_become_57 rfl (by omega) rfl ?_
        refine q_iload_n (t := 61) F dX7_become_60 rfl rfl rfl ?_
        first | refine laN_19 (t := 62) F dX7_become_61 (by omega) (by omega) rfl ?_ | refine la_19 (t := 62) F dX7_become_61 (by omega) (by omega) (by omega) rfl ?_
        refine wp_callV (t := 65) [_] F dX7_become_62 k_X3_become v_X3_become ml_X7_42 rfl rfl rfl rfl (Nat.le_of_ble_eq_true rfl) (by decide) (m_21 (by omega)) (c_X3_become _ G (becP im w v i) bt rt lm (5 * w + i) (5 * v + i) (by omega) (by omega)) rfl (kV ?_)
        rintro m' rfl
        rw [becP_s im hwv (by omega)]
        refine q_iinc (t := 68) F dX7_become_65 rfl (by decide) rfl rfl ?_
        refine q_goto (t := 42) F dX7_become_68 (by decide) ?_
        exact ih (i + 1) (by omega) (by omega)
  have h := L42 _ 0 (Nat.lt_succ_self _) (by omega)
  rw [← becP_0] at h
  exact h
end
section
/-- the first n items of a row are v -/
def fl (im : IM) (k i n : Nat) (v : Int) : IM := fun k' i' s' => if k' = k ∧ i' = i ∧ s' < n then v else im k' i' s'
theorem fl_app (im : IM) (k i n : Nat) (v : Int) (k' i' s' : Nat) : fl im k i n v k' i' s' = if k' = k ∧ i' = i ∧ s' < n then v else im k' i' s' := rfl
theorem fl_0 (im : IM) (k i : Nat) (v : Int) : fl im k i 0 v = im := by
  funext k' i' s'
  rw [fl_app, if_neg (by omega)]
theorem fl_s (im : IM) (k i n : Nat) (v : Int) : up (fl im k i n v) k i n v = fl im k i (n + 1) v := by
  funext k' i' s'
  simp only [up_app, fl_app]
  repeat' split
  all_goals first | rfl | omega
theorem RI_fl {im : IM} {k i n : Nat} {v : Int} (h : RI im) (hv : ri v) : RI (fl im k i n v) := by
  intro k' i' s'
  rw [fl_app]
  split
  · exact hv
  · exact h _ _ _
/-- one more of a world's people -/
def welM (im : IM) (w : Nat) (a b : Int) : IM := up (fl (up (up im 21 (5 * w + (im 18 w 3).toNat) 0 a) 21 (5 * w + (im 18 w 3).toNat) 1 b) 22 (5 * w + (im 18 w 3).toNat) 10 (-1)) 18 w 3 (im 18 w 3 + 1)

set_option maxHeartbeats 4000000 in
theorem c_X7_welcome (l : Launch) (G : GS) (im : IM) (bt rt : Nat) (lm : IM) (w : Nat) (hw : w < 3) (a b : Int) (s0 : 0 ≤ im 18 w 3) (s1 : im 18 w 3 < 5) : Cn l (XC G) yX7_welcome Y_X7_welcome [vR 18 w, vI a, vI b] (im, rs bt rt, lm) (pI fun x m' => x = im 18 w 3 ∧ m' = (welM im w a b, rs bt rt, lm)) := by
  refine cn_of (by decide) (okC G) rfl (Nat.le_of_ble_eq_true rfl) ?_
  intro M ad hMl F
  subst hMl
  obtain ⟨p, hp⟩ : ∃ p : Nat, p = (im 18 w 3).toNat := ⟨_, rfl⟩
  obtain ⟨B, hB⟩ : ∃ B, B = up (up im 21 (5 * w + p) 0 a) 21 (5 * w + p) 1 b := ⟨_, rfl⟩
  refine wp_pad 2 ?_
  show Wp M (XC G) ad Y_X7_welcome (pI fun x m' => x = im 18 w 3 ∧ m' = (welM im w a b, rs bt rt, lm)) 0 [some (vR 18 w), some (vI a), some (vI b), none, none] [] (im, rs bt rt, lm)
  refine q_aload_n (t := 1) F dX7_welcome_0 rfl rfl rfl ?_
  refine g_X7_11 (t := 4) F dX7_welcome_1 rfl (by omega) rfl ?_
  refine q_aload_n (t := 5) F dX7_welcome_4 rfl rfl rfl ?_
  refine g_X7_30 (t := 8) F dX7_welcome_5 rfl (by omega) rfl ?_
  first | refine laN_19 (t := 9) F dX7_welcome_8 (by omega) (by omega) rfl ?_ | refine la_19 (t := 9) F dX7_welcome_8 (by omega) (by omega) (by omega) rfl ?_
  rw [← hp]
  refine q_astore_n (t := 10) F dX7_welcome_9 rfl (by decide) rfl rfl ?_
  refine q_aload_n (t := 11) F dX7_welcome_10 rfl rfl rfl ?_
  refine q_iload_n (t := 12) F dX7_welcome_11 rfl rfl rfl ?_
  refine p_X7_46 (t := 15) F dX7_welcome_12 rfl (by omega) rfl ?_
  refine q_aload_n (t := 16) F dX7_welcome_15 rfl rfl rfl ?_
  refine q_iload_n (t := 17) F dX7_welcome_16 rfl rfl rfl ?_
  refine p_X7_49 (t := 20) F dX7_welcome_17 rfl (by omega) rfl ?_
  refine q_iconst (t := 21) F dX7_welcome_20 rfl ?_
  refine q_istore (t := 23) F dX7_welcome_21 (by decide) rfl rfl ?_
  have L23 : ∀ (fz : Nat) (i : Nat), 10 - i < fz → i ≤ 10 → Wp M (XC G) ad Y_X7_welcome (pI fun x m' => x = im 18 w 3 ∧ m' = (welM im w a b, rs bt rt, lm)) 23 [some (vR 18 w), some (vI a), some (vI b), some (vR 21 (5 * w + p)), some (vI (i : Int))] [] (fl B 22 (5 * w + p) i (-1), rs bt rt, lm) := by
    intro fz
    induction fz with
    | zero => intro i h; exact absurd h (Nat.not_lt_zero _)
    | succ fz ih =>
      intro i hmeas hi
      refine q_iload (t := 25) F dX7_welcome_23 rfl rfl ?_
      refine q_bipush (t := 27) F dX7_welcome_25 (by decide) rfl ?_
      refine q_icmp_ge (t := 30) (u := 44) F dX7_welcome_27 (by first | exact hR _ _ _ | (constructor <;> omega)) (by first | exact hR _ _ _ | (constructor <;> omega)) (by decide) rfl (fun c27 => ?_) (fun c27 => ?_)
      · refine q_aload_n (t := 45) F dX7_welcome_44 rfl rfl rfl ?_
        refine q_dupR (t := 46) F dX7_welcome_45 rfl ?_
        refine g_X7_30 (t := 49) F dX7_welcome_46 rfl (by omega) rfl ?_
        try simp only [up_app, row_app, scr_app, cpy_app, Nat.reduceEqDiff, Int.reduceToNat, Int.toNat_natCast, and_true, true_and, and_false, false_and, and_self, reduceIte]
        refine q_iconst (t := 50) F dX7_welcome_49 rfl ?_
        rw [show fl B 22 (5 * w + p) i (-1) 18 w 3 = im 18 w 3 by rw [hB]; rfl]
        refine q_iadd (t := 51) F dX7_welcome_50 rfl ?_
        refine p_X7_30 (t := 54) F dX7_welcome_51 rfl (by omega) rfl ?_
        refine q_aload_n (t := 55) F dX7_welcome_54 rfl rfl rfl ?_
        refine g_X7_30 (t := 58) F dX7_welcome_55 rfl (by omega) rfl ?_
        try simp only [up_app, row_app, scr_app, cpy_app, Nat.reduceEqDiff, Int.reduceToNat, Int.toNat_natCast, and_true, true_and, and_false, false_and, and_self, reduceIte]
        refine q_iconst (t := 59) F dX7_welcome_58 rfl ?_
        refine q_isub (t := 60) F dX7_welcome_59 rfl ?_
        refine q_iret F dX7_welcome_60 rfl ?_
        refine ⟨_, rfl, ?_, ?_⟩
        · omega
        · unfold welM
          rw [← hp, hB, show i = 10 by omega]
      · refine q_aload_n (t := 31) F dX7_welcome_30 rfl rfl rfl ?_
        refine g_X7_52 (t := 34) F dX7_welcome_31 rfl (by omega) rfl ?_
        refine q_iload (t := 36) F dX7_welcome_34 rfl rfl ?_
        refine q_iconst (t := 37) F dX7_welcome_36 rfl ?_
        first | refine stN_22 (t := 38) F dX7_welcome_37 (by omega) (by omega) rfl ?_ | refine st_22 (t := 38) F dX7_welcome_37 (by omega) (by omega) (by omega) rfl ?_
        refine q_iinc (t := 41) F dX7_welcome_38 rfl (by decide) rfl rfl ?_
        refine q_goto (t := 23) F dX7_welcome_41 (by decide) ?_
        rw [fl_s]
        exact ih (i + 1) (by omega) (by omega)
  have h := L23 _ 0 (Nat.lt_succ_self _) (by omega)
  rw [fl_0, hB] at h
  exact h

theorem stepS_nm {nm nm' : Nat → Int} (h : ∀ s, s < 6 → nm s = nm' s) (s : Int) (q : Nat × (Nat → Int)) : stepS nm s q = stepS nm' s q := by
  unfold stepS putS
  split
  · split
    · split
      · rfl
      · rw [h _ (by omega)]
    · rfl
  · rfl
theorem runS_nm {nm nm' : Nat → Int} (h : ∀ s, s < 6 → nm s = nm' s) (f : Nat → Int) (n : Nat) : ∀ (i : Nat) (q : Nat × (Nat → Int)), runS f nm i n q = runS f nm' i n q := by
  induction n with
  | zero => intro i q; rfl
  | succ n ih =>
    intro i q
    show runS f nm (i + 1) n (stepS nm (f i) q) = runS f nm' (i + 1) n (stepS nm' (f i) q)
    rw [stepS_nm h, ih]
theorem tellV_nm {im : IM} {j part : Nat} {nm nm' : Nat → Int} (h : ∀ s, s < 6 → nm s = nm' s) : tellV im j part nm = tellV im j part nm' := by
  unfold tellV tellQ
  rw [runS_nm h]
/-- what a WORD's place is told by -/
def nmW (im : IM) (w man : Nat) (word food : Int) : Nat → Int := fun s => if s = 0 then word else if s = 1 then food else if s = 2 then im 18 w 4 else if s = 3 then im 21 (5 * w + man) 1 else if s = 4 then 0 else cntW (im 22 (5 * w + man)) 10
def takesW (im : IM) (w man : Nat) (word food : Int) : Int := takesK (im 21 (5 * w + man) 0) (tellV im (im 18 w 7).toNat 0 (nmW im w man word food))
theorem takesW_in (im : IM) (w man : Nat) (word food : Int) : -1 ≤ takesW im w man word food ∧ takesW im w man word food ≤ 9 := takesK_in (tellV_in _ _ _ _).1 (tellV_in _ _ _ _).2
theorem takesW_ag {a b : IM} {l : List Nat} {w : Nat} (h : ag l a b) (h0 : 18 ∉ l) (h1 : 21 ∉ l) (h2 : 22 ∉ l) (h4 : 3 ∉ l) (h5 : 4 ∉ l) (man : Nat) (word food : Int) : takesW a w man word food = takesW b w man word food := by
  have e22 : a 22 (5 * w + man) = b 22 (5 * w + man) := funext (fun s => h 22 h2 _ s)
  unfold takesW nmW
  simp only [h 18 h0, h 21 h1, e22]
  rw [tellV_congr (fun s => h 3 h4 _ s) (fun s => h 4 h5 _ s)]

/-- the names laid for it -/
def nmM (im : IM) (w man : Nat) (word food : Int) : IM := up (up (up (up (up (up im 20 w 0 word) 20 w 1 food) 20 w 2 (im 18 w 4)) 20 w 3 (im 21 (5 * w + man) 1)) 20 w 4 0) 20 w 5 (cntW (im 22 (5 * w + man)) 10)
theorem nmM_ag (im : IM) (w man : Nat) (word food : Int) : ag [5, 20] (nmM im w man word food) im := by
  unfold nmM
  exact ag_up (ag_up (ag_up (ag_up (ag_up (ag_up (ag_rfl _ _) (by decide)) (by decide)) (by decide)) (by decide)) (by decide)) (by decide)
theorem nmM_nm (im : IM) (w man : Nat) (word food : Int) : ∀ s, s < 6 → nmM im w man word food 20 w s = nmW im w man word food s := by
  intro s hs
  unfold nmM nmW
  rcases (show s = 0 ∨ s = 1 ∨ s = 2 ∨ s = 3 ∨ s = 4 ∨ s = 5 by omega) with rfl | rfl | rfl | rfl | rfl | rfl <;> simp [up_app]
theorem row_ag {l : List Nat} {a b : IM} {k i : Nat} {f : Nat → Int} (h : ag l a b) (hk : k ∈ l) : ag l (row a k i f) b := fun k' hk' i' s' => by
  rw [row_app, if_neg (fun (q : k' = k ∧ i' = i) => hk' (q.1 ▸ hk))]
  exact h k' hk' i' s'

set_option maxHeartbeats 4000000 in
theorem c_X7_takes (l : Launch) (G : GS) (im : IM) (bt rt : Nat) (lm : IM) (w : Nat) (hw : w < 3) (hR : RI im) (hW : WI im w) (man : Nat) (hm : (man : Int) < im 18 w 3) (word food : Int) (hwo : ri word) (hfo : ri food) : Cn l (XC G) yX7_takes Y_X7_takes [vR 18 w, vI (man : Int), vI word, vI food] (im, rs bt rt, lm) (pI fun x m' => x = takesW im w man word food ∧ ∃ im', RI im' ∧ ag [5, 20] im' im ∧ m' = (im', rs bt rt, lm)) := by
  refine cn_of (by decide) (okC G) rfl (Nat.le_of_ble_eq_true rfl) ?_
  intro M ad hMl F
  subst hMl
  have w1 := hW.1
  have w2 := hW.2.1
  have w4 := hW.2.2.2.1
  have hp := hW.2.2.2.2.2 man hm
  have hc := cntW_in (im 22 (5 * w + man)) 10
  have hR1 : RI (nmM im w man word food) := by
    unfold nmM
    refine RI_up (RI_up (RI_up (RI_up (RI_up (RI_up hR ?_) ?_) ?_) ?_) ?_) ?_
    all_goals first | assumption | exact hR _ _ _ | (constructor <;> omega)
  refine wp_pad 1 ?_
  show Wp M (XC G) ad Y_X7_takes (pI fun x m' => x = takesW im w man word food ∧ ∃ im', RI im' ∧ ag [5, 20] im' im ∧ m' = (im', rs bt rt, lm)) 0 [some (vR 18 w), some (vI (man : Int)), some (vI word), some (vI food), none] [] (im, rs bt rt, lm)
  refine q_aload_n (t := 1) F dX7_takes_0 rfl rfl rfl ?_
  refine g_X7_11 (t := 4) F dX7_takes_1 rfl (by omega) rfl ?_
  refine q_iload_n (t := 5) F dX7_takes_4 rfl rfl rfl ?_
  first | refine laN_19 (t := 6) F dX7_takes_5 (by omega) (by omega) rfl ?_ | refine la_19 (t := 6) F dX7_takes_5 (by omega) (by omega) (by omega) rfl ?_
  refine q_astore (t := 8) F dX7_takes_6 (by decide) rfl rfl ?_
  refine q_aload_n (t := 9) F dX7_takes_8 rfl rfl rfl ?_
  refine g_X7_17 (t := 12) F dX7_takes_9 rfl (by omega) rfl ?_
  refine q_iconst (t := 13) F dX7_takes_12 rfl ?_
  refine q_iload_n (t := 14) F dX7_takes_13 rfl rfl rfl ?_
  refine stN_20 (t := 15) (j := 0) F dX7_takes_14 (by omega) (by omega) rfl ?_
  refine q_aload_n (t := 16) F dX7_takes_15 rfl rfl rfl ?_
  refine g_X7_17 (t := 19) F dX7_takes_16 rfl (by omega) rfl ?_
  refine q_iconst (t := 20) F dX7_takes_19 rfl ?_
  refine q_iload_n (t := 21) F dX7_takes_20 rfl rfl rfl ?_
  refine stN_20 (t := 22) (j := 1) F dX7_takes_21 (by omega) (by omega) rfl ?_
  refine q_aload_n (t := 23) F dX7_takes_22 rfl rfl rfl ?_
  refine g_X7_17 (t := 26) F dX7_takes_23 rfl (by omega) rfl ?_
  refine q_iconst (t := 27) F dX7_takes_26 rfl ?_
  refine q_aload_n (t := 28) F dX7_takes_27 rfl rfl rfl ?_
  refine g_X7_33 (t := 31) F dX7_takes_28 rfl (by omega) rfl ?_
  try simp only [up_app, row_app, scr_app, cpy_app, Nat.reduceEqDiff, Int.reduceToNat, Int.toNat_natCast, and_true, true_and, and_false, false_and, and_self, reduceIte]
  refine stN_20 (t := 32) (j := 2) F dX7_takes_31 (by omega) (by omega) rfl ?_
  refine q_aload_n (t := 33) F dX7_takes_32 rfl rfl rfl ?_
  refine g_X7_17 (t := 36) F dX7_takes_33 rfl (by omega) rfl ?_
  refine q_iconst (t := 37) F dX7_takes_36 rfl ?_
  refine q_aload (t := 39) F dX7_takes_37 rfl rfl ?_
  refine g_X7_49 (t := 42) F dX7_takes_39 rfl (by omega) rfl ?_
  try simp only [up_app, row_app, scr_app, cpy_app, Nat.reduceEqDiff, Int.reduceToNat, Int.toNat_natCast, and_true, true_and, and_false, false_and, and_self, reduceIte]
  refine stN_20 (t := 43) (j := 3) F dX7_takes_42 (by omega) (by omega) rfl ?_
  refine q_aload_n (t := 44) F dX7_takes_43 rfl rfl rfl ?_
  refine g_X7_17 (t := 47) F dX7_takes_44 rfl (by omega) rfl ?_
  refine q_iconst (t := 48) F dX7_takes_47 rfl ?_
  refine q_iconst (t := 49) F dX7_takes_48 rfl ?_
  refine stN_20 (t := 50) (j := 4) F dX7_takes_49 (by omega) (by omega) rfl ?_
  refine q_aload_n (t := 51) F dX7_takes_50 rfl rfl rfl ?_
  refine g_X7_17 (t := 54) F dX7_takes_51 rfl (by omega) rfl ?_
  refine q_iconst (t := 55) F dX7_takes_54 rfl ?_
  refine q_aload (t := 57) F dX7_takes_55 rfl rfl ?_
  refine wp_callV (t := 60) [] F dX7_takes_57 k_X3_stuckInAll v_X3_stuckInAll ml_X7_55 rfl rfl rfl rfl (Nat.le_of_ble_eq_true rfl) (by decide) (m_21 (by omega)) (c_X3_stuckInAll _ G (up (up (up (up (up im 20 w 0 word) 20 w 1 food) 20 w 2 (im 18 w 4)) 20 w 3 (im 21 (5 * w + man) 1)) 20 w 4 0) bt rt lm (5 * w + man) (by omega) (RI_up (RI_up (RI_up (RI_up (RI_up hR (by assumption)) (by assumption)) (hR _ _ _)) (hR _ _ _)) (by constructor <;> omega))) rfl (kI ?_)
  rintro x m' ⟨rfl, rfl⟩
  rw [show (up (up (up (up (up im 20 w 0 word) 20 w 1 food) 20 w 2 (im 18 w 4)) 20 w 3 (im 21 (5 * w + man) 1)) 20 w 4 0) 22 (5 * w + man) = im 22 (5 * w + man) from rfl]
  refine stN_20 (t := 61) (j := 5) F dX7_takes_60 (by omega) (by omega) rfl ?_
  refine q_aload (t := 63) F dX7_takes_61 rfl rfl ?_
  refine g_X7_46 (t := 66) F dX7_takes_63 rfl (by omega) rfl ?_
  try simp only [up_app, row_app, scr_app, cpy_app, Nat.reduceEqDiff, Int.reduceToNat, Int.toNat_natCast, and_true, true_and, and_false, false_and, and_self, reduceIte]
  refine q_aload_n (t := 67) F dX7_takes_66 rfl rfl rfl ?_
  refine g_X7_25 (t := 70) F dX7_takes_67 rfl (by omega) rfl ?_
  refine q_aload_n (t := 71) F dX7_takes_70 rfl rfl rfl ?_
  refine g_X7_39 (t := 74) F dX7_takes_71 rfl (by omega) rfl ?_
  try simp only [up_app, row_app, scr_app, cpy_app, Nat.reduceEqDiff, Int.reduceToNat, Int.toNat_natCast, and_true, true_and, and_false, false_and, and_self, reduceIte]
  first | refine laN_1 (t := 75) F dX7_takes_74 (by omega) rfl ?_ | refine la_1 (t := 75) F dX7_takes_74 (by omega) (by omega) rfl ?_
  refine q_iconst (t := 76) F dX7_takes_75 rfl ?_
  refine q_aload_n (t := 77) F dX7_takes_76 rfl rfl rfl ?_
  refine g_X7_17 (t := 80) F dX7_takes_77 rfl (by omega) rfl ?_
  refine wp_callV (t := 83) [_, _] F dX7_takes_80 k_X6_tell v_X6_tell ml_X7_59 rfl rfl rfl rfl (Nat.le_of_ble_eq_true rfl) (by decide) (m_2 (by omega)) (c_X6_tell20 _ G (nmM im w man word food) bt rt lm (im 18 w 7).toNat (by omega) w hw 0 (by omega) hR1 (goodT_congr (fun s => rfl) (fun s => rfl) hW.2.2.2.2.1)) rfl (kI ?_)
  rintro v m' ⟨hv, kk, hkk, rfl⟩
  have hv2 := tellV_in (nmM im w man word food) (im 18 w 7).toNat 0 (nmM im w man word food 20 w)
  rw [← hv] at hv2
  refine wp_callS (t := 86) [_, _] F dX7_takes_83 k_X2_takes st_X2_takes ml_X7_65 rfl rfl (Nat.le_of_ble_eq_true rfl) (by decide) (c_X2_takes _ G _ bt rt lm (im 21 (5 * w + man) 0) v hp.1.1 hp.1.2 hv2.1 hv2.2) rfl (kI ?_)
  rintro x m' ⟨rfl, rfl⟩
  refine q_iret F dX7_takes_86 rfl ?_
  refine ⟨_, rfl, ?_, _, RI_row hR1 hkk, row_ag (nmM_ag im w man word food) (by decide), rfl⟩
  unfold takesW
  rw [hv, tellV_nm (nmM_nm im w man word food)]
  rw [show tellV (nmM im w man word food) (im 18 w 7).toNat 0 (nmW im w man word food) = tellV im (im 18 w 7).toNat 0 (nmW im w man word food) from tellV_congr (fun s => rfl) (fun s => rfl)]

/-- in which GAP it is STUCK then (-1: it isn't) -/
def uttW (im : IM) (w man : Nat) (word food : Int) : Int := if 0 ≤ takesW im w man word food ∧ im 22 (5 * w + man) (takesW im w man word food).toNat = -1 then takesW im w man word food else -1
def uttM (im : IM) (w man : Nat) (word food : Int) : IM := if uttW im w man word food = -1 then im else up (up im 22 (5 * w + man) (uttW im w man word food).toNat word) 23 (5 * w + man) (uttW im w man word food).toNat 0

set_option maxHeartbeats 4000000 in
theorem c_X7_utter (l : Launch) (G : GS) (im : IM) (bt rt : Nat) (lm : IM) (w : Nat) (hw : w < 3) (hR : RI im) (hW : WI im w) (man : Nat) (hm : (man : Int) < im 18 w 3) (word food : Int) (hwo : 0 ≤ word ∧ word < 16) (hfo : ri food) : Cn l (XC G) yX7_utter Y_X7_utter [vR 18 w, vI (man : Int), vI word, vI food] (im, rs bt rt, lm) (pI fun x m' => x = uttW im w man word food ∧ ∃ im', RI im' ∧ ag [5, 20] im' (uttM im w man word food) ∧ m' = (im', rs bt rt, lm)) := by
  refine cn_of (by decide) (okC G) rfl (Nat.le_of_ble_eq_true rfl) ?_
  intro M ad hMl F
  subst hMl
  have w1 := hW.1
  have ht := takesW_in im w man word food
  have hwr : ri word := by constructor <;> omega
  obtain ⟨tg, htg⟩ : ∃ z, z = takesW im w man word food := ⟨_, rfl⟩
  rw [← htg] at ht
  refine wp_pad 2 ?_
  show Wp M (XC G) ad Y_X7_utter (pI fun x m' => x = uttW im w man word food ∧ ∃ im', RI im' ∧ ag [5, 20] im' (uttM im w man word food) ∧ m' = (im', rs bt rt, lm)) 0 [some (vR 18 w), some (vI (man : Int)), some (vI word), some (vI food), none, none] [] (im, rs bt rt, lm)
  refine q_aload_n (t := 1) F dX7_utter_0 rfl rfl rfl ?_
  refine q_iload_n (t := 2) F dX7_utter_1 rfl rfl rfl ?_
  refine q_iload_n (t := 3) F dX7_utter_2 rfl rfl rfl ?_
  refine q_iload_n (t := 4) F dX7_utter_3 rfl rfl rfl ?_
  refine wp_callV (t := 7) [_, _, _] F dX7_utter_4 k_X7_takes v_X7_takes ml_X7_71 rfl rfl rfl rfl (Nat.le_of_ble_eq_true rfl) (by decide) (m_18 (by omega)) (c_X7_takes _ G im bt rt lm w hw hR hW man hm word food hwr hfo) rfl (kI ?_)
  rintro x m' ⟨rfl, im2, hR2, hag, rfl⟩
  rw [← htg]
  refine q_istore (t := 9) F dX7_utter_7 (by decide) rfl rfl ?_
  refine q_aload_n (t := 10) F dX7_utter_9 rfl rfl rfl ?_
  refine g_X7_11 (t := 13) F dX7_utter_10 rfl (by omega) rfl ?_
  refine q_iload_n (t := 14) F dX7_utter_13 rfl rfl rfl ?_
  first | refine laN_19 (t := 15) F dX7_utter_14 (by omega) (by omega) rfl ?_ | refine la_19 (t := 15) F dX7_utter_14 (by omega) (by omega) (by omega) rfl ?_
  refine q_astore (t := 17) F dX7_utter_15 (by decide) rfl rfl ?_
  refine q_iload (t := 19) F dX7_utter_17 rfl rfl ?_
  refine q_bipush (t := 21) F dX7_utter_19 (by decide) rfl ?_
  refine wp_callSN (t := 24) [_, _] F dX7_utter_21 k_X8_within st_X8_within (F.2.2.2.2.2.2.2.2.1.1 _ mn_X7_74) rfl rfl (Nat.le_of_ble_eq_true rfl) (by decide) (c_X8_within _ G _ bt rt lm tg 10 (by constructor <;> omega) (by constructor <;> omega)) rfl (kI ?_)
  rintro x m' ⟨rfl, rfl⟩
  refine q_if_eq (t := 27) (u := 39) F dX7_utter_24 (by split <;> (constructor <;> omega)) (by decide) rfl (fun c24 => ?_) (fun c24 => ?_)
  · refine q_iconst (t := 40) F dX7_utter_39 rfl ?_
    refine q_iret F dX7_utter_40 rfl ?_
    have hu : uttW im w man word food = -1 := by
      unfold uttW
      rw [← htg]
      first
        | (rw [if_neg]; intro hh; split at c24 <;> omega)
        | (rw [if_neg]; intro hh; rw [hag 22 (by decide)] at c36; exact c36 hh.2)
    exact ⟨_, rfl, hu.symm, im2, hR2, by unfold uttM; rw [if_pos hu]; exact hag, rfl⟩
  · refine q_aload (t := 29) F dX7_utter_27 rfl rfl ?_
    refine g_X7_52 (t := 32) F dX7_utter_29 rfl (by omega) rfl ?_
    refine q_iload (t := 34) F dX7_utter_32 rfl rfl ?_
    first | refine ldN_22 (t := 35) F dX7_utter_34 (by omega) (by split at c24 <;> omega) rfl ?_ | refine ld_22 (t := 35) F dX7_utter_34 (by omega) (by split at c24 <;> omega) (by split at c24 <;> omega) rfl ?_
    try simp only [up_app, row_app, scr_app, cpy_app, Nat.reduceEqDiff, Int.reduceToNat, Int.toNat_natCast, and_true, true_and, and_false, false_and, and_self, reduceIte]
    refine q_iconst (t := 36) F dX7_utter_35 rfl ?_
    refine q_icmp_eq (t := 39) (u := 41) F dX7_utter_36 (by exact hR2 _ _ _) (by constructor <;> omega) (by decide) rfl (fun c36 => ?_) (fun c36 => ?_)
    · refine q_aload (t := 43) F dX7_utter_41 rfl rfl ?_
      refine g_X7_52 (t := 46) F dX7_utter_43 rfl (by omega) rfl ?_
      refine q_iload (t := 48) F dX7_utter_46 rfl rfl ?_
      refine q_iload_n (t := 49) F dX7_utter_48 rfl rfl rfl ?_
      first | refine stN_22 (t := 50) F dX7_utter_49 (by omega) (by omega) rfl ?_ | refine st_22 (t := 50) F dX7_utter_49 (by omega) (by omega) (by omega) rfl ?_
      refine q_aload (t := 52) F dX7_utter_50 rfl rfl ?_
      refine g_X7_78 (t := 55) F dX7_utter_52 rfl (by omega) rfl ?_
      refine q_iload (t := 57) F dX7_utter_55 rfl rfl ?_
      refine q_iconst (t := 58) F dX7_utter_57 rfl ?_
      first | refine stN_23 (t := 59) F dX7_utter_58 (by omega) (by split at c24 <;> omega) rfl ?_ | refine st_23 (t := 59) F dX7_utter_58 (by omega) (by split at c24 <;> omega) (by split at c24 <;> omega) rfl ?_
      refine q_iload (t := 61) F dX7_utter_59 rfl rfl ?_
      refine q_iret F dX7_utter_61 rfl ?_
      have ht0 : 0 ≤ tg := by split at c24 <;> omega
      have hu : uttW im w man word food = tg := by
        unfold uttW
        rw [← htg, if_pos ⟨ht0, by rw [← hag 22 (by decide)]; exact c36⟩]
      refine ⟨_, rfl, hu.symm, _, RI_up (RI_up hR2 hwr) (by constructor <;> omega), ?_, rfl⟩
      unfold uttM
      rw [hu, if_neg (by omega)]
      exact ag_upup (ag_upup hag)
    · refine q_iconst (t := 40) F dX7_utter_39 rfl ?_
      refine q_iret F dX7_utter_40 rfl ?_
      have hu : uttW im w man word food = -1 := by
        unfold uttW
        rw [← htg]
        first
          | (rw [if_neg]; intro hh; split at c24 <;> omega)
          | (rw [if_neg]; intro hh; rw [hag 22 (by decide)] at c36; exact c36 hh.2)
      exact ⟨_, rfl, hu.symm, im2, hR2, by unfold uttM; rw [if_pos hu]; exact hag, rfl⟩

/-- KISSING: the first n GAPS -/
def hnd (im : IM) (p q n : Nat) : IM := fun k i s => if s < n ∧ im 22 p s ≠ -1 ∧ im 22 q s = -1 then (if k = 22 ∧ i = q then im 22 p s else if k = 22 ∧ i = p then -1 else if k = 23 ∧ i = q then 0 else im k i s) else im k i s
theorem hnd_app (im : IM) (p q n k i s : Nat) : hnd im p q n k i s = if s < n ∧ im 22 p s ≠ -1 ∧ im 22 q s = -1 then (if k = 22 ∧ i = q then im 22 p s else if k = 22 ∧ i = p then -1 else if k = 23 ∧ i = q then 0 else im k i s) else im k i s := rfl
def hndN (im : IM) (p q : Nat) : Nat → Int
  | 0 => 0
  | n + 1 => hndN im p q n + (if im 22 p n ≠ -1 ∧ im 22 q n = -1 then 1 else 0)
theorem hnd_0 (im : IM) (p q : Nat) : hnd im p q 0 = im := by
  funext k i s
  rw [hnd_app, if_neg (by omega)]
theorem hnd_n {im : IM} {p q n : Nat} (h : ¬ (im 22 p n ≠ -1 ∧ im 22 q n = -1)) : hnd im p q (n + 1) = hnd im p q n := by
  funext k i s
  rw [hnd_app, hnd_app]
  by_cases hs : s = n
  · subst hs
    rw [if_neg (fun z => h z.2), if_neg (fun z => h z.2)]
  · by_cases h2 : s < n ∧ im 22 p s ≠ -1 ∧ im 22 q s = -1
    · rw [if_pos ⟨by omega, h2.2⟩, if_pos h2]
    · rw [if_neg (fun z => h2 ⟨by omega, z.2⟩), if_neg h2]
theorem hnd_at {im : IM} {p q n : Nat} (k i : Nat) : hnd im p q n k i n = im k i n := by
  rw [hnd_app, if_neg (by omega)]
theorem hnd_y {im : IM} {p q n : Nat} (hpq : p ≠ q) (h : im 22 p n ≠ -1 ∧ im 22 q n = -1) : up (up (up (hnd im p q n) 22 p n (-1)) 22 q n (im 22 p n)) 23 q n 0 = hnd im p q (n + 1) := by
  funext k i s
  rw [hnd_app im p q (n + 1)]
  simp only [up_app]
  by_cases hs : s = n
  · subst hs
    rw [if_pos (show s < s + 1 ∧ im 22 p s ≠ -1 ∧ im 22 q s = -1 from ⟨Nat.lt_succ_self _, h⟩), hnd_at]
    by_cases h1 : k = 22 ∧ i = q
    · rw [if_neg (by omega), if_pos (by omega), if_pos h1]
    · by_cases h2 : k = 22 ∧ i = p
      · rw [if_neg (by omega), if_neg (by omega), if_pos (by omega), if_neg h1, if_pos h2]
      · by_cases h3 : k = 23 ∧ i = q
        · rw [if_pos (by omega), if_neg h1, if_neg h2, if_pos h3]
        · rw [if_neg (by omega), if_neg (by omega), if_neg (by omega), if_neg h1, if_neg h2, if_neg h3]
  · rw [if_neg (by omega), if_neg (by omega), if_neg (by omega), hnd_app]
    by_cases h2 : s < n ∧ im 22 p s ≠ -1 ∧ im 22 q s = -1
    · rw [if_pos h2, if_pos (show s < n + 1 ∧ im 22 p s ≠ -1 ∧ im 22 q s = -1 from ⟨by omega, h2.2⟩)]
    · rw [if_neg h2, if_neg (show ¬ (s < n + 1 ∧ im 22 p s ≠ -1 ∧ im 22 q s = -1) from fun z => h2 ⟨by omega, z.2⟩)]
theorem RI_hnd {im : IM} {p q n : Nat} (h : RI im) : RI (hnd im p q n) := by
  intro k i s
  rw [hnd_app]
  repeat' split
  all_goals first | exact h _ _ _ | (constructor <;> omega)
theorem hndN_in (im : IM) (p q n : Nat) : 0 ≤ hndN im p q n ∧ hndN im p q n ≤ n := by
  induction n with
  | zero => exact ⟨Int.le_refl 0, Int.le_refl 0⟩
  | succ n ih =>
    have h : hndN im p q (n + 1) = hndN im p q n + (if im 22 p n ≠ -1 ∧ im 22 q n = -1 then 1 else 0) := rfl
    rw [h]
    split <;> constructor <;> omega
theorem hndN_y {im : IM} {p q n : Nat} (h : im 22 p n ≠ -1 ∧ im 22 q n = -1) : hndN im p q (n + 1) = hndN im p q n + 1 := by
  show hndN im p q n + _ = _
  rw [if_pos h]
theorem hndN_n {im : IM} {p q n : Nat} (h : ¬ (im 22 p n ≠ -1 ∧ im 22 q n = -1)) : hndN im p q (n + 1) = hndN im p q n := by
  show hndN im p q n + _ = _
  rw [if_neg h, Int.add_zero]

set_option maxHeartbeats 4000000 in
theorem c_X7_handOn (l : Launch) (G : GS) (im : IM) (bt rt : Nat) (lm : IM) (w : Nat) (hw : w < 3) (hR : RI im) (a b : Nat) (ha : a < 5) (hb : b < 5) (hab : a ≠ b) : Cn l (XC G) yX7_handOn Y_X7_handOn [vR 18 w, vI (a : Int), vI (b : Int)] (im, rs bt rt, lm) (pI fun x m' => x = hndN im (5 * w + a) (5 * w + b) 10 ∧ m' = (hnd im (5 * w + a) (5 * w + b) 10, rs bt rt, lm)) := by
  refine cn_of (by decide) (okC G) rfl (Nat.le_of_ble_eq_true rfl) ?_
  intro M ad hMl F
  subst hMl
  refine wp_pad 4 ?_
  show Wp M (XC G) ad Y_X7_handOn (pI fun x m' => x = hndN im (5 * w + a) (5 * w + b) 10 ∧ m' = (hnd im (5 * w + a) (5 * w + b) 10, rs bt rt, lm)) 0 [some (vR 18 w), some (vI (a : Int)), some (vI (b : Int)), none, none, none, none] [] (im, rs bt rt, lm)
  refine q_aload_n (t := 1) F dX7_handOn_0 rfl rfl rfl ?_
  refine g_X7_11 (t := 4) F dX7_handOn_1 rfl (by omega) rfl ?_
  refine q_iload_n (t := 5) F dX7_handOn_4 rfl rfl rfl ?_
  first | refine laN_19 (t := 6) F dX7_handOn_5 (by omega) (by omega) rfl ?_ | refine la_19 (t := 6) F dX7_handOn_5 (by omega) (by omega) (by omega) rfl ?_
  refine q_astore_n (t := 7) F dX7_handOn_6 rfl (by decide) rfl rfl ?_
  refine q_aload_n (t := 8) F dX7_handOn_7 rfl rfl rfl ?_
  refine g_X7_11 (t := 11) F dX7_handOn_8 rfl (by omega) rfl ?_
  refine q_iload_n (t := 12) F dX7_handOn_11 rfl rfl rfl ?_
  first | refine laN_19 (t := 13) F dX7_handOn_12 (by omega) (by omega) rfl ?_ | refine la_19 (t := 13) F dX7_handOn_12 (by omega) (by omega) (by omega) rfl ?_
  refine q_astore (t := 15) F dX7_handOn_13 (by decide) rfl rfl ?_
  refine q_iconst (t := 16) F dX7_handOn_15 rfl ?_
  refine q_istore (t := 18) F dX7_handOn_16 (by decide) rfl rfl ?_
  refine q_iconst (t := 19) F dX7_handOn_18 rfl ?_
  refine q_istore (t := 21) F dX7_handOn_19 (by decide) rfl rfl ?_
  have L21 : ∀ (fz : Nat) (i : Nat), 10 - i < fz → i ≤ 10 → Wp M (XC G) ad Y_X7_handOn (pI fun x m' => x = hndN im (5 * w + a) (5 * w + b) 10 ∧ m' = (hnd im (5 * w + a) (5 * w + b) 10, rs bt rt, lm)) 21 [some (vR 18 w), some (vI (a : Int)), some (vI (b : Int)), some (vR 21 (5 * w + a)), some (vR 21 (5 * w + b)), some (vI (hndN im (5 * w + a) (5 * w + b) i)), some (vI (i : Int))] [] (hnd im (5 * w + a) (5 * w + b) i, rs bt rt, lm) := by
    intro fz
    induction fz with
    | zero => intro i h; exact absurd h (Nat.not_lt_zero _)
    | succ fz ih =>
      intro i hmeas hi
      have hRi : RI (hnd im (5 * w + a) (5 * w + b) i) := RI_hnd hR
      have hRR : ∀ k j, ri (im k j i) := fun k j => hR k j i
      refine q_iload (t := 23) F dX7_handOn_21 rfl rfl ?_
      refine q_bipush (t := 25) F dX7_handOn_23 (by decide) rfl ?_
      refine q_icmp_ge (t := 28) (u := 86) F dX7_handOn_25 (by first | exact hR _ _ _ | (constructor <;> omega)) (by first | exact hR _ _ _ | (constructor <;> omega)) (by decide) rfl (fun c25 => ?_) (fun c25 => ?_)
      · refine q_iload (t := 88) F dX7_handOn_86 rfl rfl ?_
        refine q_iret F dX7_handOn_88 rfl ?_
        exact ⟨_, rfl, by rw [show i = 10 by omega], by rw [show i = 10 by omega]⟩
      · refine q_aload_n (t := 29) F dX7_handOn_28 rfl rfl rfl ?_
        refine g_X7_52 (t := 32) F dX7_handOn_29 rfl (by omega) rfl ?_
        refine q_iload (t := 34) F dX7_handOn_32 rfl rfl ?_
        first | refine ldN_22 (t := 35) F dX7_handOn_34 (by omega) (by omega) rfl ?_ | refine ld_22 (t := 35) F dX7_handOn_34 (by omega) (by omega) (by omega) rfl ?_
        try rw [hnd_at]
        refine q_iconst (t := 36) F dX7_handOn_35 rfl ?_
        refine q_icmp_eq (t := 39) (u := 80) F dX7_handOn_36 (by first | exact hR _ _ _ | (constructor <;> omega)) (by first | exact hR _ _ _ | (constructor <;> omega)) (by decide) rfl (fun c36 => ?_) (fun c36 => ?_)
        · refine q_iinc (t := 83) F dX7_handOn_80 rfl (by decide) rfl rfl ?_
          refine q_goto (t := 21) F dX7_handOn_83 (by decide) ?_
          first
            | (rw [hnd_y (by omega) ⟨c36, c48⟩, ← hndN_y ⟨c36, c48⟩]
               exact ih (i + 1) (by omega) (by omega))
            | (have hno : ¬ (im 22 (5 * w + a) i ≠ -1 ∧ im 22 (5 * w + b) i = -1) := by omega
               rw [← hndN_n hno, ← hnd_n hno]
               exact ih (i + 1) (by omega) (by omega))
        · refine q_aload (t := 41) F dX7_handOn_39 rfl rfl ?_
          refine g_X7_52 (t := 44) F dX7_handOn_41 rfl (by omega) rfl ?_
          refine q_iload (t := 46) F dX7_handOn_44 rfl rfl ?_
          first | refine ldN_22 (t := 47) F dX7_handOn_46 (by omega) (by omega) rfl ?_ | refine ld_22 (t := 47) F dX7_handOn_46 (by omega) (by omega) (by omega) rfl ?_
          try rw [hnd_at]
          refine q_iconst (t := 48) F dX7_handOn_47 rfl ?_
          refine q_icmp_eq (t := 51) (u := 54) F dX7_handOn_48 (by first | exact hR _ _ _ | (constructor <;> omega)) (by first | exact hR _ _ _ | (constructor <;> omega)) (by decide) rfl (fun c48 => ?_) (fun c48 => ?_)
          · refine q_aload (t := 56) F dX7_handOn_54 rfl rfl ?_
            refine g_X7_52 (t := 59) F dX7_handOn_56 rfl (by omega) rfl ?_
            refine q_iload (t := 61) F dX7_handOn_59 rfl rfl ?_
            refine q_aload_n (t := 62) F dX7_handOn_61 rfl rfl rfl ?_
            refine q_iload (t := 64) F dX7_handOn_62 rfl rfl ?_
            refine wp_callV (t := 67) [_] F dX7_handOn_64 k_X3_empty v_X3_empty ml_X7_81 rfl rfl rfl rfl (Nat.le_of_ble_eq_true rfl) (by decide) (m_21 (by omega)) (c_X3_empty _ G (hnd im (5 * w + a) (5 * w + b) i) bt rt lm (5 * w + a) (by omega) i (by omega)) rfl (kI ?_)
            rintro x m' ⟨rfl, rfl⟩
            rw [hnd_at]
            first | refine stN_22 (t := 68) F dX7_handOn_67 (by omega) (by omega) rfl ?_ | refine st_22 (t := 68) F dX7_handOn_67 (by omega) (by omega) (by omega) rfl ?_
            refine q_aload (t := 70) F dX7_handOn_68 rfl rfl ?_
            refine g_X7_78 (t := 73) F dX7_handOn_70 rfl (by omega) rfl ?_
            refine q_iload (t := 75) F dX7_handOn_73 rfl rfl ?_
            refine q_iconst (t := 76) F dX7_handOn_75 rfl ?_
            first | refine stN_23 (t := 77) F dX7_handOn_76 (by omega) (by omega) rfl ?_ | refine st_23 (t := 77) F dX7_handOn_76 (by omega) (by omega) (by omega) rfl ?_
            refine q_iinc (t := 80) F dX7_handOn_77 rfl (by decide) rfl rfl ?_
            refine q_iinc (t := 83) F dX7_handOn_80 rfl (by decide) rfl rfl ?_
            refine q_goto (t := 21) F dX7_handOn_83 (by decide) ?_
            first
              | (rw [hnd_y (by omega) ⟨c36, c48⟩, ← hndN_y ⟨c36, c48⟩]
                 exact ih (i + 1) (by omega) (by omega))
              | (have hno : ¬ (im 22 (5 * w + a) i ≠ -1 ∧ im 22 (5 * w + b) i = -1) := by omega
                 rw [← hndN_n hno, ← hnd_n hno]
                 exact ih (i + 1) (by omega) (by omega))
          · refine q_goto (t := 80) F dX7_handOn_51 (by decide) ?_
            refine q_iinc (t := 83) F dX7_handOn_80 rfl (by decide) rfl rfl ?_
            refine q_goto (t := 21) F dX7_handOn_83 (by decide) ?_
            first
              | (rw [hnd_y (by omega) ⟨c36, c48⟩, ← hndN_y ⟨c36, c48⟩]
                 exact ih (i + 1) (by omega) (by omega))
              | (have hno : ¬ (im 22 (5 * w + a) i ≠ -1 ∧ im 22 (5 * w + b) i = -1) := by omega
                 rw [← hndN_n hno, ← hnd_n hno]
                 exact ih (i + 1) (by omega) (by omega))
  have h := L21 _ 0 (Nat.lt_succ_self _) (by omega)
  rw [hnd_0] at h
  exact h
end
section
/-! a cell of a world: what goes off when, how bad that is -/
def nmP (word hour number gap stuck : Int) : Nat → Int := fun s => if s = 0 then word else if s = 1 then 0 else if s = 2 then hour else if s = 3 then number else if s = 4 then gap else stuck
def hoK (T : Nat → (Nat → Int) → Int) (kind number word gap hour stuck : Int) : Int := holdsK kind number (T 1 (nmP word hour number gap stuck))
def offK (T : Nat → (Nat → Int) → Int) (kind number word age gap hour : Int) (i : Nat) : Bool := decide (hoK T kind number word gap (hour + i) (age + i + 1) ≤ age + i + 1)
def goK (T : Nat → (Nat → Int) → Int) (kind number word age gap hour : Int) (n : Nat) : Int := if word = -1 then -1 else findF (offK T kind number word age gap hour) 0 n
def beK (T : Nat → (Nat → Int) → Int) (kind number word age gap hour later c : Int) : Int := bearsK kind number (T 2 (nmP word (hour + later) number gap (age + later + 1))) c
/-- Bite in pure words: what it looks at is in its cells -/
theorem nmB_P (im : IM) (x y : Int) (h1 : im 17 0 1 = 0) : ∀ s, s < 6 → nmB im x y s = nmP (im 17 0 0) y (im 17 0 3) (im 17 0 4) x s := by
  intro s hs
  unfold nmB nmP
  rcases (show s = 0 ∨ s = 1 ∨ s = 2 ∨ s = 3 ∨ s = 4 ∨ s = 5 by omega) with rfl | rfl | rfl | rfl | rfl | rfl <;> simp [h1]
theorem goesB_K (im : IM) (j n : Nat) (h1 : im 17 0 1 = 0) : goesB im j n = goK (tellV im j) (im 16 0 2) (im 17 0 3) (im 17 0 0) (im 16 0 3) (im 17 0 4) (im 16 0 4) n := by
  unfold goesB goK
  have e : offB im j = offK (tellV im j) (im 16 0 2) (im 17 0 3) (im 17 0 0) (im 16 0 3) (im 17 0 4) (im 16 0 4) := by
    funext i
    unfold offB offK hoK holdsB
    rw [tellV_nm (nmB_P im _ _ h1)]
  rw [e]
theorem bearsB_K (im : IM) (j : Nat) (later c : Int) (h1 : im 17 0 1 = 0) : bearsB im j later c = beK (tellV im j) (im 16 0 2) (im 17 0 3) (im 17 0 0) (im 16 0 3) (im 17 0 4) (im 16 0 4) later c := by
  unfold bearsB beK
  rw [tellV_nm (nmB_P im _ _ h1)]
def goesW (im : IM) (w man gap n : Nat) : Int := goK (tellV im (im 18 w 7).toNat) (im 21 (5 * w + man) 0) (im 21 (5 * w + man) 1) (im 22 (5 * w + man) gap) (im 23 (5 * w + man) gap) gap (im 18 w 4) n
def bearsW (im : IM) (w man gap : Nat) (later c : Int) : Int := beK (tellV im (im 18 w 7).toNat) (im 21 (5 * w + man) 0) (im 21 (5 * w + man) 1) (im 22 (5 * w + man) gap) (im 23 (5 * w + man) gap) gap (im 18 w 4) later c
theorem tellV_fun {a b : IM} {j : Nat} (h3 : ∀ s, a 3 j s = b 3 j s) (h4 : ∀ s, a 4 j s = b 4 j s) : tellV a j = tellV b j := by
  funext part nm
  exact tellV_congr h3 h4
theorem look_goes (im : IM) (w man gap n : Nat) : goesB (lookM im w man gap) (im 18 w 7).toNat n = goesW im w man gap n := by
  rw [goesB_K _ _ _ rfl]
  unfold goesW
  rw [show tellV (lookM im w man gap) (im 18 w 7).toNat = tellV im (im 18 w 7).toNat from tellV_fun (fun s => rfl) (fun s => rfl)]
  rfl
theorem look_bears (im : IM) (w man gap : Nat) (later c : Int) : bearsB (lookM im w man gap) (im 18 w 7).toNat later c = bearsW im w man gap later c := by
  rw [bearsB_K _ _ _ _ rfl]
  unfold bearsW
  rw [show tellV (lookM im w man gap) (im 18 w 7).toNat = tellV im (im 18 w 7).toNat from tellV_fun (fun s => rfl) (fun s => rfl)]
  rfl
theorem goesW_congr {a b : IM} {w man gap n : Nat} (h21 : ∀ s, a 21 (5 * w + man) s = b 21 (5 * w + man) s) (h22 : a 22 (5 * w + man) gap = b 22 (5 * w + man) gap) (h23 : a 23 (5 * w + man) gap = b 23 (5 * w + man) gap) (h4 : a 18 w 4 = b 18 w 4) (h7 : a 18 w 7 = b 18 w 7) (t3 : ∀ j s, a 3 j s = b 3 j s) (t4 : ∀ j s, a 4 j s = b 4 j s) : goesW a w man gap n = goesW b w man gap n := by
  unfold goesW
  rw [h21, h21, h22, h23, h4, h7, tellV_fun (t3 _) (t4 _)]
theorem bearsW_congr {a b : IM} {w man gap : Nat} {x c : Int} (h21 : ∀ s, a 21 (5 * w + man) s = b 21 (5 * w + man) s) (h22 : a 22 (5 * w + man) gap = b 22 (5 * w + man) gap) (h23 : a 23 (5 * w + man) gap = b 23 (5 * w + man) gap) (h4 : a 18 w 4 = b 18 w 4) (h7 : a 18 w 7 = b 18 w 7) (t3 : ∀ j s, a 3 j s = b 3 j s) (t4 : ∀ j s, a 4 j s = b 4 j s) : bearsW a w man gap x c = bearsW b w man gap x c := by
  unfold bearsW
  rw [h21, h21, h22, h23, h4, h7, tellV_fun (t3 _) (t4 _)]
theorem goesW_ag {a b : IM} {l : List Nat} (h : ag l a b) (h3 : 3 ∉ l) (h4 : 4 ∉ l) (h0 : 18 ∉ l) (h1 : 21 ∉ l) (h2 : 22 ∉ l) (h5 : 23 ∉ l) (w man gap n : Nat) : goesW a w man gap n = goesW b w man gap n :=
  goesW_congr (fun s => h 21 h1 _ s) (h 22 h2 _ _) (h 23 h5 _ _) (h 18 h0 _ _) (h 18 h0 _ _) (fun j s => h 3 h3 j s) (fun j s => h 4 h4 j s)
theorem bearsW_ag {a b : IM} {l : List Nat} (h : ag l a b) (h3 : 3 ∉ l) (h4 : 4 ∉ l) (h0 : 18 ∉ l) (h1 : 21 ∉ l) (h2 : 22 ∉ l) (h5 : 23 ∉ l) (w man gap : Nat) (x c : Int) : bearsW a w man gap x c = bearsW b w man gap x c :=
  bearsW_congr (fun s => h 21 h1 _ s) (h 22 h2 _ _) (h 23 h5 _ _) (h 18 h0 _ _) (h 18 h0 _ _) (fun j s => h 3 h3 j s) (fun j s => h 4 h4 j s)
theorem goesW_in (im : IM) (w man gap n : Nat) : goesW im w man gap n = -1 ∨ 0 ≤ goesW im w man gap n ∧ goesW im w man gap n < n := by
  unfold goesW goK
  split
  · exact Or.inl rfl
  · have := findF_in (offK (tellV im (im 18 w 7).toNat) (im 21 (5 * w + man) 0) (im 21 (5 * w + man) 1) (im 22 (5 * w + man) gap) (im 23 (5 * w + man) gap) gap (im 18 w 4)) n 0
    omega
theorem goesW_none {im : IM} {w man gap n : Nat} (h : im 22 (5 * w + man) gap = -1) : goesW im w man gap n = -1 := by
  unfold goesW goK
  rw [if_pos h]
/-! AN HOUR -/
def offP (im : IM) (w N : Nat) : Prop := goesW im w (N / 10) (N % 10) 1 ≠ -1
def dOff (im : IM) (w N : Nat) : Decidable (offP im w N) := by unfold offP; exact inferInstance
def badP (im : IM) (w N : Nat) : Int := bearsW im w (N / 10) (N % 10) 0 (chI (im 18 w 5) (im 18 w 4))
def shP (im : IM) (w : Nat) : Nat → Int
  | 0 => im 18 w 6
  | N + 1 => if goesW im w (N / 10) (N % 10) 1 = -1 then shP im w N else bm (shP im w N + badP im w N)
def cntO (im : IM) (w : Nat) : Nat → Int
  | 0 => 0
  | N + 1 => if goesW im w (N / 10) (N % 10) 1 = -1 then cntO im w N else cntO im w N + 1
theorem cntO_in (im : IM) (w N : Nat) : 0 ≤ cntO im w N ∧ cntO im w N ≤ N := by
  induction N with
  | zero => exact ⟨Int.le_refl 0, Int.le_refl 0⟩
  | succ N ih =>
    have h : cntO im w (N + 1) = if goesW im w (N / 10) (N % 10) 1 = -1 then cntO im w N else cntO im w N + 1 := rfl
    rw [h]
    split <;> constructor <;> omega
def pasM (im : IM) (w N : Nat) : IM := fun k i s =>
  if (k = 22 ∨ k = 23) ∧ 5 * w ≤ i ∧ s < 10 ∧ 10 * (i - 5 * w) + s < N then
    (if goesW im w (i - 5 * w) s 1 = -1 then (if k = 23 then bm (im 23 i s + 1) else im k i s) else (if k = 22 then -1 else im k i s))
  else if k = 18 ∧ i = w ∧ s = 6 then shP im w N else im k i s
theorem pasM_app (im : IM) (w N k i s : Nat) : pasM im w N k i s = if (k = 22 ∨ k = 23) ∧ 5 * w ≤ i ∧ s < 10 ∧ 10 * (i - 5 * w) + s < N then
    (if goesW im w (i - 5 * w) s 1 = -1 then (if k = 23 then bm (im 23 i s + 1) else im k i s) else (if k = 22 then -1 else im k i s))
  else if k = 18 ∧ i = w ∧ s = 6 then shP im w N else im k i s := rfl
theorem pasM_0 (im : IM) (w : Nat) : pasM im w 0 = im := by
  funext k i s
  rw [pasM_app, if_neg (by omega)]
  split
  · rename_i h; obtain ⟨rfl, rfl, rfl⟩ := h; rfl
  · rfl
theorem pasM_k (im : IM) (w N : Nat) {k : Nat} (h : k ≠ 22) (h2 : k ≠ 23) (h3 : k ≠ 18) (i s : Nat) : pasM im w N k i s = im k i s := by
  rw [pasM_app, if_neg (by omega), if_neg (by omega)]
theorem pasM_18 (im : IM) (w N : Nat) {s : Nat} (h : s ≠ 6) (i : Nat) : pasM im w N 18 i s = im 18 i s := by
  rw [pasM_app, if_neg (by omega), if_neg (by omega)]
theorem pasM_sh (im : IM) (w N : Nat) : pasM im w N 18 w 6 = shP im w N := by
  rw [pasM_app, if_neg (by omega), if_pos ⟨rfl, rfl, rfl⟩]
theorem pasM_c (im : IM) (w : Nat) {N man gap : Nat} (hN : N ≤ 10 * man + gap) {k : Nat} (hk : k = 22 ∨ k = 23) : pasM im w N k (5 * w + man) gap = im k (5 * w + man) gap := by
  rw [pasM_app, if_neg (by omega), if_neg (by omega)]
theorem RI_pas {im : IM} {w N : Nat} (h : RI im) : RI (pasM im w N) := by
  have hs : ∀ N, ri (shP im w N) := by
    intro N
    induction N with
    | zero => exact h _ _ _
    | succ N ih =>
      show ri (if goesW im w (N / 10) (N % 10) 1 = -1 then shP im w N else bm (shP im w N + badP im w N))
      split
      · exact ih
      · exact ri_b _
  intro k i s
  rw [pasM_app]
  repeat' split
  all_goals first | exact h _ _ _ | exact ri_b _ | exact hs _ | (constructor <;> omega)
/-- a cell that stays -/
theorem pasM_n {im : IM} {w man gap : Nat} (hg : gap < 10) (h : goesW im w man gap 1 = -1) : up (pasM im w (10 * man + gap)) 23 (5 * w + man) gap (bm (im 23 (5 * w + man) gap + 1)) = pasM im w (10 * man + gap + 1) := by
  have e1 : (10 * man + gap) / 10 = man := by omega
  have e2 : (10 * man + gap) % 10 = gap := by omega
  have hsh : shP im w (10 * man + gap + 1) = shP im w (10 * man + gap) := by
    show (if goesW im w ((10 * man + gap) / 10) ((10 * man + gap) % 10) 1 = -1 then shP im w (10 * man + gap) else _) = _
    rw [e1, e2, if_pos h]
  funext k i s
  rw [up_app, pasM_app im w (10 * man + gap + 1), pasM_app im w (10 * man + gap), hsh]
  by_cases hc : i = 5 * w + man ∧ s = gap ∧ (k = 22 ∨ k = 23)
  · obtain ⟨rfl, rfl, hk⟩ := hc
    rw [if_pos (show (k = 22 ∨ k = 23) ∧ 5 * w ≤ 5 * w + man ∧ s < 10 ∧ 10 * (5 * w + man - 5 * w) + s < 10 * man + s + 1 by omega), show 5 * w + man - 5 * w = man by omega, if_pos h]
    rcases hk with rfl | rfl
    · rw [if_neg (by omega), if_neg (by omega), if_neg (by omega), if_neg (by omega)]
    · rw [if_pos ⟨rfl, rfl, rfl⟩, if_pos rfl]
  · rw [if_neg (by omega)]
    by_cases h2 : (k = 22 ∨ k = 23) ∧ 5 * w ≤ i ∧ s < 10 ∧ 10 * (i - 5 * w) + s < 10 * man + gap
    · rw [if_pos h2, if_pos (show (k = 22 ∨ k = 23) ∧ 5 * w ≤ i ∧ s < 10 ∧ 10 * (i - 5 * w) + s < 10 * man + gap + 1 by omega)]
    · rw [if_neg h2, if_neg (show ¬ ((k = 22 ∨ k = 23) ∧ 5 * w ≤ i ∧ s < 10 ∧ 10 * (i - 5 * w) + s < 10 * man + gap + 1) by omega)]
theorem pasM_y {im : IM} {w man gap : Nat} (hg : gap < 10) (h : ¬ goesW im w man gap 1 = -1) : up (up (pasM im w (10 * man + gap)) 18 w 6 (bm (shP im w (10 * man + gap) + badP im w (10 * man + gap)))) 22 (5 * w + man) gap (-1) = pasM im w (10 * man + gap + 1) := by
  have e1 : (10 * man + gap) / 10 = man := by omega
  have e2 : (10 * man + gap) % 10 = gap := by omega
  have hsh : shP im w (10 * man + gap + 1) = bm (shP im w (10 * man + gap) + badP im w (10 * man + gap)) := by
    show (if goesW im w ((10 * man + gap) / 10) ((10 * man + gap) % 10) 1 = -1 then shP im w (10 * man + gap) else _) = _
    rw [e1, e2, if_neg h]
  rw [← hsh]
  funext k i s
  rw [up_app, up_app, pasM_app im w (10 * man + gap + 1), pasM_app im w (10 * man + gap)]
  by_cases hc : i = 5 * w + man ∧ s = gap ∧ (k = 22 ∨ k = 23)
  · obtain ⟨rfl, rfl, hk⟩ := hc
    rw [if_pos (show (k = 22 ∨ k = 23) ∧ 5 * w ≤ 5 * w + man ∧ s < 10 ∧ 10 * (5 * w + man - 5 * w) + s < 10 * man + s + 1 by omega), show 5 * w + man - 5 * w = man by omega, if_neg h]
    rcases hk with rfl | rfl
    · rw [if_pos ⟨rfl, rfl, rfl⟩, if_pos rfl]
    · rw [if_neg (by omega), if_neg (by omega), if_neg (by omega), if_neg (by omega), if_neg (by omega)]
  · rw [if_neg (by omega)]
    by_cases h2 : (k = 22 ∨ k = 23) ∧ 5 * w ≤ i ∧ s < 10 ∧ 10 * (i - 5 * w) + s < 10 * man + gap
    · rw [if_neg (by omega), if_pos h2, if_pos (show (k = 22 ∨ k = 23) ∧ 5 * w ≤ i ∧ s < 10 ∧ 10 * (i - 5 * w) + s < 10 * man + gap + 1 by omega)]
    · rw [if_neg h2, if_neg (show ¬ ((k = 22 ∨ k = 23) ∧ 5 * w ≤ i ∧ s < 10 ∧ 10 * (i - 5 * w) + s < 10 * man + gap + 1) by omega)]
      by_cases h3 : k = 18 ∧ i = w ∧ s = 6
      · rw [if_pos h3, if_pos h3]
      · rw [if_neg h3, if_neg h3, if_neg h3]

theorem scr_ag (im : IM) (a b : Int) (g : Nat → Nat → Int) : ag [5, 17] (scr im a b g) im := by
  intro k hk i s
  have h1 : k ≠ 5 := fun q => hk (by rw [q]; decide)
  have h2 : k ≠ 17 := fun q => hk (by rw [q]; decide)
  rw [scr_app, if_neg h1, if_neg (fun q => h2 q.1), if_neg (fun q => h2 q.1)]
theorem cntO_n {im : IM} {w man gap : Nat} (hg : gap < 10) (h : goesW im w man gap 1 = -1) : cntO im w (10 * man + (gap + 1)) = cntO im w (10 * man + gap) := by
  show (if goesW im w ((10 * man + gap) / 10) ((10 * man + gap) % 10) 1 = -1 then cntO im w (10 * man + gap) else _) = _
  rw [show (10 * man + gap) / 10 = man by omega, show (10 * man + gap) % 10 = gap by omega, if_pos h]
theorem cntO_y {im : IM} {w man gap : Nat} (hg : gap < 10) (h : goesW im w man gap 1 ≠ -1) : cntO im w (10 * man + (gap + 1)) = cntO im w (10 * man + gap) + 1 := by
  show (if goesW im w ((10 * man + gap) / 10) ((10 * man + gap) % 10) 1 = -1 then cntO im w (10 * man + gap) else cntO im w (10 * man + gap) + 1) = _
  rw [show (10 * man + gap) / 10 = man by omega, show (10 * man + gap) % 10 = gap by omega, if_neg h]

set_option maxHeartbeats 4000000 in
theorem c_X7_pass (l : Launch) (G : GS) (im : IM) (bt rt : Nat) (lm : IM) (w : Nat) (hw : w < 3) (hbt : bt < 6) (hR : RI im) (hW : WI im w) : Cn l (XC G) yX7_pass Y_X7_pass [vR 18 w, vR 16 0] (im, rs bt rt, lm) (pI fun x m' => x = cntO im w (10 * (im 18 w 3).toNat) ∧ ∃ im' bt', bt' < 6 ∧ RI im' ∧ ag [5, 16, 17] im' (up (pasM im w (10 * (im 18 w 3).toNat)) 18 w 4 (im 18 w 4 + 1)) ∧ m' = (im', rs bt' rt, lm)) := by
  refine cn_of (by decide) (okC G) rfl (Nat.le_of_ble_eq_true rfl) ?_
  intro M ad hMl F
  subst hMl
  have w1 := hW.1
  have w2 := hW.2.1
  have w3 := hW.2.2.1
  obtain ⟨sz, hsz⟩ : ∃ sz : Nat, im 18 w 3 = sz := ⟨(im 18 w 3).toNat, by omega⟩
  have hszN : (im 18 w 3).toNat = sz := by omega
  refine wp_pad 3 ?_
  show Wp M (XC G) ad Y_X7_pass (pI fun x m' => x = cntO im w (10 * (im 18 w 3).toNat) ∧ ∃ im' bt', bt' < 6 ∧ RI im' ∧ ag [5, 16, 17] im' (up (pasM im w (10 * (im 18 w 3).toNat)) 18 w 4 (im 18 w 4 + 1)) ∧ m' = (im', rs bt' rt, lm)) 0 [some (vR 18 w), some (vR 16 0), none, none, none] [] (im, rs bt rt, lm)
  refine q_iconst (t := 1) F dX7_pass_0 rfl ?_
  refine q_istore_n (t := 2) F dX7_pass_1 rfl (by decide) rfl rfl ?_
  refine q_iconst (t := 3) F dX7_pass_2 rfl ?_
  refine q_istore_n (t := 4) F dX7_pass_3 rfl (by decide) rfl rfl ?_
  have L4 : ∀ (fz : Nat) (man : Nat) (im2 : IM) (bt2 : Nat), sz - man < fz → man ≤ sz → bt2 < 6 → RI im2 → ag [5, 16, 17] im2 (pasM im w (10 * man)) → Wp M (XC G) ad Y_X7_pass (pI fun x m' => x = cntO im w (10 * (im 18 w 3).toNat) ∧ ∃ im' bt', bt' < 6 ∧ RI im' ∧ ag [5, 16, 17] im' (up (pasM im w (10 * (im 18 w 3).toNat)) 18 w 4 (im 18 w 4 + 1)) ∧ m' = (im', rs bt' rt, lm)) 4 [some (vR 18 w), some (vR 16 0), some (vI (cntO im w (10 * man))), some (vI (man : Int)), none] [] (im2, rs bt2 rt, lm) := by
    intro fz
    induction fz with
    | zero => intro man im2 bt2 h; exact absurd h (Nat.not_lt_zero _)
    | succ fz ih =>
      have ih4 := ih
      intro man im2 bt2 hmeas hman hbt2 hR2 hag
      have e3' : im2 18 w 3 = sz := by rw [← hsz]; exact (hag 18 (by decide) w 3).trans (pasM_18 im w _ (by decide) w)
      have e4' : im2 18 w 4 = im 18 w 4 := (hag 18 (by decide) w 4).trans (pasM_18 im w _ (by decide) w)
      refine q_iload_n (t := 5) F dX7_pass_4 rfl rfl rfl ?_
      refine q_aload_n (t := 6) F dX7_pass_5 rfl rfl rfl ?_
      refine g_X7_30 (t := 9) F dX7_pass_6 rfl (by omega) rfl ?_
      refine q_icmp_ge (t := 12) (u := 104) F dX7_pass_9 (by constructor <;> omega) (by rw [e3']; constructor <;> omega) (by decide) rfl (fun c9 => ?_) (fun c9 => ?_)
      · refine q_aload_n (t := 105) F dX7_pass_104 rfl rfl rfl ?_
        refine q_dupR (t := 106) F dX7_pass_105 rfl ?_
        refine g_X7_33 (t := 109) F dX7_pass_106 rfl (by omega) rfl ?_
        refine q_iconst (t := 110) F dX7_pass_109 rfl ?_
        refine q_iadd (t := 111) F dX7_pass_110 rfl ?_
        refine p_X7_33 (t := 114) F dX7_pass_111 rfl (by omega) rfl ?_
        refine q_iload_n (t := 115) F dX7_pass_114 rfl rfl rfl ?_
        refine q_iret F dX7_pass_115 rfl ?_
        rw [e3'] at c9
        have eN : man = sz := by omega
        subst eN
        rw [hszN]
        refine ⟨_, rfl, rfl, _, bt2, hbt2, RI_up hR2 (by constructor <;> omega), ?_, rfl⟩
        rw [e4']
        exact ag_upup hag
      · refine q_iconst (t := 13) F dX7_pass_12 rfl ?_
        refine q_istore (t := 15) F dX7_pass_13 (by decide) rfl rfl ?_
        have L15 : ∀ (fz : Nat) (gap : Nat) (im2 : IM) (bt2 : Nat), 10 - gap < fz → gap ≤ 10 → bt2 < 6 → RI im2 → ag [5, 16, 17] im2 (pasM im w (10 * man + gap)) → Wp M (XC G) ad Y_X7_pass (pI fun x m' => x = cntO im w (10 * (im 18 w 3).toNat) ∧ ∃ im' bt', bt' < 6 ∧ RI im' ∧ ag [5, 16, 17] im' (up (pasM im w (10 * (im 18 w 3).toNat)) 18 w 4 (im 18 w 4 + 1)) ∧ m' = (im', rs bt' rt, lm)) 15 [some (vR 18 w), some (vR 16 0), some (vI (cntO im w (10 * man + gap))), some (vI (man : Int)), some (vI (gap : Int))] [] (im2, rs bt2 rt, lm) := by
          intro fz
          induction fz with
          | zero => intro gap im2 bt2 h; exact absurd h (Nat.not_lt_zero _)
          | succ fz ih =>
            have ih15 := ih
            intro gap im2 bt2 hmeas hgap hbt2 hR2 hag
            refine q_iload (t := 17) F dX7_pass_15 rfl rfl ?_
            refine q_bipush (t := 19) F dX7_pass_17 (by decide) rfl ?_
            refine q_icmp_ge (t := 22) (u := 98) F dX7_pass_19 (by first | exact hR _ _ _ | (constructor <;> omega)) (by first | exact hR _ _ _ | (constructor <;> omega)) (by decide) rfl (fun c19 => ?_) (fun c19 => ?_)
            · refine q_iinc (t := 101) F dX7_pass_98 rfl (by decide) rfl rfl ?_
              refine q_goto (t := 4) F dX7_pass_101 (by decide) ?_
              refine wp_less 4 ?_
              have eN : 10 * man + gap = 10 * (man + 1) := by omega
              rw [eN]
              exact ih4 (man + 1) im2 bt2 (by omega) (by omega) hbt2 hR2 (by rw [← eN]; exact hag)
            · have hg10 : gap < 10 := by omega
              have e0 : pasM im w (10 * man + gap) 18 w 7 = im 18 w 7 := pasM_18 im w _ (by decide) w
              have e0' : im2 18 w 7 = im 18 w 7 := (hag 18 (by decide) w 7).trans e0
              have e3' : im2 18 w 3 = im 18 w 3 := (hag 18 (by decide) w 3).trans (pasM_18 im w _ (by decide) w)
              have e4' : im2 18 w 4 = im 18 w 4 := (hag 18 (by decide) w 4).trans (pasM_18 im w _ (by decide) w)
              have e5' : im2 18 w 5 = im 18 w 5 := (hag 18 (by decide) w 5).trans (pasM_18 im w _ (by decide) w)
              have e21 : ∀ s, im2 21 (5 * w + man) s = im 21 (5 * w + man) s := fun s => (hag 21 (by decide) _ s).trans (pasM_k im w _ (by decide) (by decide) (by decide) _ s)
              have e22 : im2 22 (5 * w + man) gap = im 22 (5 * w + man) gap := (hag 22 (by decide) _ gap).trans (pasM_c im w (Nat.le_refl _) (Or.inl rfl))
              have e23 : im2 23 (5 * w + man) gap = im 23 (5 * w + man) gap := (hag 23 (by decide) _ gap).trans (pasM_c im w (Nat.le_refl _) (Or.inr rfl))
              have et3 : ∀ j s, im2 3 j s = im 3 j s := fun j s => (hag 3 (by decide) j s).trans (pasM_k im w _ (by decide) (by decide) (by decide) _ s)
              have et4 : ∀ j s, im2 4 j s = im 4 j s := fun j s => (hag 4 (by decide) j s).trans (pasM_k im w _ (by decide) (by decide) (by decide) _ s)
              have hgo : goesW im2 w man gap 1 = goesW im w man gap 1 := goesW_congr e21 e22 e23 e4' e0' et3 et4
              have hbe : ∀ x c, bearsW im2 w man gap x c = bearsW im w man gap x c := fun x c => bearsW_congr e21 e22 e23 e4' e0' et3 et4
              have hpm := hW.2.2.2.2.2 man (by omega)
              have hpg := hpm.2.2 gap hg10
              have r20 : 0 ≤ im2 18 w 7 := by rw [e0']; exact hW.2.2.2.1.1
              have r21 : im2 18 w 7 < 6 := by rw [e0']; exact hW.2.2.2.1.2
              have hT2 : goodT (lookM im2 w man gap) (im2 18 w 7).toNat := by
                rw [e0']
                exact goodT_congr (fun s => et3 _ s) (fun s => et4 _ s) hW.2.2.2.2.1
              have k20 : 0 ≤ im2 21 (5 * w + man) 0 := by rw [e21]; exact hpm.1.1
              have k21 : im2 21 (5 * w + man) 0 < 6 := by rw [e21]; exact hpm.1.2
              have n20 : 0 ≤ im2 21 (5 * w + man) 1 := by rw [e21]; exact hpm.2.1.1
              have n21 : im2 21 (5 * w + man) 1 < 10 := by rw [e21]; exact hpm.2.1.2
              have ag2 : im2 22 (5 * w + man) gap ≠ -1 → 0 ≤ im2 23 (5 * w + man) gap ∧ im2 23 (5 * w + man) gap ≤ 3000 := by
                rw [e22, e23]
                intro hne
                have := hpg.2.2 hne
                omega
              have h20 : 0 ≤ im2 18 w 4 := by rw [e4']; exact w2.1
              have h21 : im2 18 w 4 ≤ 3000 := by rw [e4']; omega
              have hRl := RI_look (w := w) (p := man) hR2 hg10
              refine q_aload_n (t := 23) F dX7_pass_22 rfl rfl rfl ?_
              refine q_aload_n (t := 24) F dX7_pass_23 rfl rfl rfl ?_
              refine q_iload_n (t := 25) F dX7_pass_24 rfl rfl rfl ?_
              refine q_iload (t := 27) F dX7_pass_25 rfl rfl ?_
              refine wp_callV (t := 30) [_, _, _] F dX7_pass_27 k_X0_look v_X0_look ml_X7_85 rfl rfl rfl rfl (Nat.le_of_ble_eq_true rfl) (by decide) (m_16 (by omega)) (c_X0_look _ G im2 bt2 rt lm w man gap hw (by omega) hg10 r20 r21) rfl (kV ?_)
              rintro m' rfl
              refine q_aload_n (t := 31) F dX7_pass_30 rfl rfl rfl ?_
              refine q_iconst (t := 32) F dX7_pass_31 rfl ?_
              refine wp_callV (t := 35) [_] F dX7_pass_32 k_X0_goesOffIn v_X0_goesOffIn ml_X7_91 rfl rfl rfl rfl (Nat.le_of_ble_eq_true rfl) (by decide) (m_16 (by omega)) (c_X0_goesOffIn _ G (lookM im2 w man gap) (im2 18 w 7).toNat rt lm 1 (by omega) (by omega) hRl hT2 k20 k21 n20 n21 ag2 h20 h21) rfl (kI ?_)
              rintro x m' ⟨hx, xa, xb, xg, hxa, hxb, hxg, rfl⟩
              rw [look_goes, hgo] at hx
              subst hx
              have hgi := goesW_in im w man gap 1
              have hbt3 : (im2 18 w 7).toNat < 6 := by omega
              have hR3 := RI_scr hRl hxa hxb hxg
              have hag3 : ag [5, 16, 17] (scr (lookM im2 w man gap) xa xb xg) (pasM im w (10 * man + gap)) := ((scr_ag _ _ _ _).mono (by decide)).trans (((look_ag im2 w man gap).mono (by decide)).trans hag)
              have e23b : lookM im2 w man gap 23 (5 * w + man) gap = im 23 (5 * w + man) gap := (hag3 23 (by decide) _ gap).trans (pasM_c im w (Nat.le_refl _) (Or.inr rfl))
              refine q_iconst (t := 36) F dX7_pass_35 rfl ?_
              refine q_icmp_ne (t := 39) (u := 58) F dX7_pass_36 (by first | exact hR _ _ _ | (constructor <;> omega)) (by first | exact hR _ _ _ | (constructor <;> omega)) (by decide) rfl (fun c36 => ?_) (fun c36 => ?_)
              · refine q_aload_n (t := 59) F dX7_pass_58 rfl rfl rfl ?_
                refine q_dupR (t := 60) F dX7_pass_59 rfl ?_
                refine g_X7_36 (t := 63) F dX7_pass_60 rfl (by omega) rfl ?_
                try simp only [up_app, row_app, scr_app, cpy_app, Nat.reduceEqDiff, Int.reduceToNat, Int.toNat_natCast, and_true, true_and, and_false, false_and, and_self, reduceIte]
                refine q_aload_n (t := 64) F dX7_pass_63 rfl rfl rfl ?_
                refine q_iconst (t := 65) F dX7_pass_64 rfl ?_
                refine q_aload_n (t := 66) F dX7_pass_65 rfl rfl rfl ?_
                refine q_iconst (t := 67) F dX7_pass_66 rfl ?_
                refine wp_callV (t := 70) [_] F dX7_pass_67 k_X7_isChurchIn v_X7_isChurchIn ml_X7_94 rfl rfl rfl rfl (Nat.le_of_ble_eq_true rfl) (by decide) (m_18 (by omega)) (c_X7_isChurchIn _ G _ _ rt lm w hw 0 (by omega) (by omega) h20 h21) rfl (kI ?_)
                rintro x m' ⟨rfl, rfl⟩
                have hch : chI (scr (lookM im2 w man gap) xa xb xg 18 w 5) (scr (lookM im2 w man gap) xa xb xg 18 w 4 + 0) = chI (im 18 w 5) (im 18 w 4) := by
                  rw [show scr (lookM im2 w man gap) xa xb xg 18 w 5 = im2 18 w 5 from rfl, show scr (lookM im2 w man gap) xa xb xg 18 w 4 = im2 18 w 4 from rfl, e5', e4', Int.add_zero]
                rw [hch]
                have hci := chI_in (im 18 w 5) (im 18 w 4)
                have hwne : im2 22 (5 * w + man) gap ≠ -1 := fun z => c36 (goesW_none (e22.symm.trans z))
                refine wp_callV (t := 73) [_, _] F dX7_pass_70 k_X0_bears v_X0_bears ml_X7_98 rfl rfl rfl rfl (Nat.le_of_ble_eq_true rfl) (by decide) (m_16 (by omega)) (c_X0_bears _ G (scr (lookM im2 w man gap) xa xb xg) (im2 18 w 7).toNat rt lm 0 (chI (im 18 w 5) (im 18 w 4)) (by omega) (by omega) hci.1 hci.2 hbt3 hR3 (goodT_scr hT2) k20 k21 n20 n21 (ag2 hwne) h20 h21) rfl (kI ?_)
                rintro x m' ⟨hx, ya, yb, yg, hya, hyb, hyg, rfl⟩
                rw [bearsB_scr, look_bears, hbe] at hx
                rw [scr_scr]
                have hbb : x = badP im w (10 * man + gap) := by
                  rw [hx]
                  unfold badP
                  rw [show (10 * man + gap) / 10 = man by omega, show (10 * man + gap) % 10 = gap by omega]
                have hR4 := RI_scr hRl hya hyb hyg
                have hag4 : ag [5, 16, 17] (scr (lookM im2 w man gap) ya yb yg) (pasM im w (10 * man + gap)) := ((scr_ag _ _ _ _).mono (by decide)).trans (((look_ag im2 w man gap).mono (by decide)).trans hag)
                have hshb : lookM im2 w man gap 18 w 6 = shP im w (10 * man + gap) := (hag3 18 (by decide) w 6).trans (pasM_sh im w _)
                refine q_iadd (t := 74) F dX7_pass_73 rfl ?_
                refine q_norm ?_
                rw [hshb, hbb]
                refine p_X7_36 (t := 77) F dX7_pass_74 rfl (by omega) rfl ?_
                refine q_aload_n (t := 78) F dX7_pass_77 rfl rfl rfl ?_
                refine g_X7_11 (t := 81) F dX7_pass_78 rfl (by omega) rfl ?_
                refine q_iload_n (t := 82) F dX7_pass_81 rfl rfl rfl ?_
                first | refine laN_19 (t := 83) F dX7_pass_82 (by omega) (by omega) rfl ?_ | refine la_19 (t := 83) F dX7_pass_82 (by omega) (by omega) (by omega) rfl ?_
                refine q_iload (t := 85) F dX7_pass_83 rfl rfl ?_
                refine wp_callV (t := 88) [_] F dX7_pass_85 k_X3_empty v_X3_empty ml_X7_81 rfl rfl rfl rfl (Nat.le_of_ble_eq_true rfl) (by decide) (m_21 (by omega)) (c_X3_empty _ G _ _ rt lm (5 * w + man) (by omega) gap hg10) rfl (kI ?_)
                rintro x m' ⟨rfl, rfl⟩
                refine q_popI (t := 89) F dX7_pass_88 rfl ?_
                refine q_iinc (t := 92) F dX7_pass_89 rfl (by decide) rfl rfl ?_
                refine q_iinc (t := 95) F dX7_pass_92 rfl (by decide) rfl rfl ?_
                refine q_goto (t := 15) F dX7_pass_95 (by decide) ?_
                first
                  | (rw [← cntO_n (by omega) c36]
                     exact ih15 (gap + 1) _ _ (by omega) (by omega) hbt3 (RI_up hR3 (ri_b _)) (by rw [show 10 * man + (gap + 1) = 10 * man + gap + 1 by omega, ← pasM_n hg10 c36]; exact ag_upup hag3))
                  | (rw [← cntO_y (by omega) c36]
                     exact ih15 (gap + 1) _ _ (by omega) (by omega) hbt3 (RI_up (RI_up hR4 (ri_b _)) (by constructor <;> omega)) (by rw [show 10 * man + (gap + 1) = 10 * man + gap + 1 by omega, ← pasM_y hg10 c36]; exact ag_upup (ag_upup hag4)))
              · refine q_aload_n (t := 40) F dX7_pass_39 rfl rfl rfl ?_
                refine g_X7_11 (t := 43) F dX7_pass_40 rfl (by omega) rfl ?_
                refine q_iload_n (t := 44) F dX7_pass_43 rfl rfl rfl ?_
                first | refine laN_19 (t := 45) F dX7_pass_44 (by omega) (by omega) rfl ?_ | refine la_19 (t := 45) F dX7_pass_44 (by omega) (by omega) (by omega) rfl ?_
                refine g_X7_78 (t := 48) F dX7_pass_45 rfl (by omega) rfl ?_
                refine q_iload (t := 50) F dX7_pass_48 rfl rfl ?_
                refine q_dup2 (t := 51) F dX7_pass_50 rfl ?_
                first | refine ldN_23 (t := 52) F dX7_pass_51 (by omega) (by omega) rfl ?_ | refine ld_23 (t := 52) F dX7_pass_51 (by omega) (by omega) (by omega) rfl ?_
                try simp only [up_app, row_app, scr_app, cpy_app, Nat.reduceEqDiff, Int.reduceToNat, Int.toNat_natCast, and_true, true_and, and_false, false_and, and_self, reduceIte]
                refine q_iconst (t := 53) F dX7_pass_52 rfl ?_
                refine q_iadd (t := 54) F dX7_pass_53 rfl ?_
                refine q_norm ?_
                rw [e23b]
                first | refine stN_23 (t := 55) F dX7_pass_54 (by omega) (by omega) rfl ?_ | refine st_23 (t := 55) F dX7_pass_54 (by omega) (by omega) (by omega) rfl ?_
                refine q_goto (t := 92) F dX7_pass_55 (by decide) ?_
                refine q_iinc (t := 95) F dX7_pass_92 rfl (by decide) rfl rfl ?_
                refine q_goto (t := 15) F dX7_pass_95 (by decide) ?_
                first
                  | (rw [← cntO_n (by omega) c36]
                     exact ih15 (gap + 1) _ _ (by omega) (by omega) hbt3 (RI_up hR3 (ri_b _)) (by rw [show 10 * man + (gap + 1) = 10 * man + gap + 1 by omega, ← pasM_n hg10 c36]; exact ag_upup hag3))
                  | (rw [← cntO_y (by omega) c36]
                     exact ih15 (gap + 1) _ _ (by omega) (by omega) hbt3 (RI_up (RI_up hR4 (ri_b _)) (by constructor <;> omega)) (by rw [show 10 * man + (gap + 1) = 10 * man + gap + 1 by omega, ← pasM_y hg10 c36]; exact ag_upup (ag_upup hag4)))
        exact L15 _ 0 im2 bt2 (Nat.lt_succ_self _) (by omega) hbt2 hR2 hag
  refine wp_less 4 ?_
  exact L4 _ 0 im bt (Nat.lt_succ_self _) (by omega) hbt hR (by rw [pasM_0]; exact ag_rfl _ _)
end
