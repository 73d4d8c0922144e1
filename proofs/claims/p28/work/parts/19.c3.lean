/-! helpers -/
theorem wp_less {M : MS} {X : XS} {ad : Ads} {Y : YS} {post : Option SV → Mem → Prop} {pc : Nat} {ls : List (Option SV)} {st : List SV} {m : Mem} (n : Nat) (k : Wp M X ad Y post pc (ls.set n none) st m) : Wp M X ad Y post pc ls st m := by
  intro H locs a hP hS hl
  refine k H locs a hP hS ⟨hl.1, hl.2.1, fun i v hv => ?_⟩
  by_cases h : i = n
  · subst h
    have hlt : i < (ls.set i none).length := (List.getElem?_eq_some_iff.mp hv).1
    rw [List.length_set] at hlt
    rw [List.getElem?_set_self hlt] at hv
    cases hv
  · rw [List.getElem?_set_ne (Ne.symm h)] at hv
    exact hl.2.2 i v hv
/-- the same but for cells of these kinds -/
def ag (l : List Nat) (a b : IM) : Prop := ∀ k, k ∉ l → ∀ i s, a k i s = b k i s
theorem ag_rfl (l : List Nat) (a : IM) : ag l a a := fun _ _ _ _ => rfl
theorem ag.trans {l : List Nat} {a b c : IM} (h : ag l a b) (h2 : ag l b c) : ag l a c := fun k hk i s => (h k hk i s).trans (h2 k hk i s)
theorem ag.symm {l : List Nat} {a b : IM} (h : ag l a b) : ag l b a := fun k hk i s => (h k hk i s).symm
theorem ag.mono {l l' : List Nat} {a b : IM} (h : ag l a b) (hl : ∀ k, k ∈ l → k ∈ l') : ag l' a b := fun k hk i s => h k (fun q => hk (hl k q)) i s
theorem ag_up {l : List Nat} {a b : IM} {k i s : Nat} {x : Int} (h : ag l a b) (hk : k ∈ l) : ag l (up a k i s x) b := fun k' hk' i' s' => by
  rw [up_app, if_neg (fun (q : k' = k ∧ i' = i ∧ s' = s) => hk' (q.1 ▸ hk))]
  exact h k' hk' i' s'
theorem ag_upup {l : List Nat} {a b : IM} {k i s : Nat} {x : Int} (h : ag l a b) : ag l (up a k i s x) (up b k i s x) := fun k' hk' i' s' => by
  rw [up_app, up_app, h k' hk']
theorem garb_ag {im : IM} {bt rt : Nat} {lm : IM} {m' : Mem} (h : garb im bt rt lm m') (hR : RI im) : ∃ im', RI im' ∧ ag [5, 17] im' im ∧ m' = (im', rs bt rt, lm) := by
  obtain ⟨a, b, g, ha, hb, hg, rfl⟩ := h
  refine ⟨_, RI_scr hR ha hb hg, ?_, rfl⟩
  intro k hk i s
  have h1 : k ≠ 5 := fun q => hk (by rw [q]; decide)
  have h2 : k ≠ 17 := fun q => hk (by rw [q]; decide)
  rw [scr_app, if_neg h1, if_neg (fun q => h2 q.1), if_neg (fun q => h2 q.1)]
theorem look_ag (im : IM) (w p g : Nat) : ag [16, 17] (lookM im w p g) im := by
  unfold lookM
  exact ag_up (ag_up (ag_up (ag_up (ag_up (ag_up (ag_up (ag_rfl _ _) (by decide)) (by decide)) (by decide)) (by decide)) (by decide)) (by decide)) (by decide)
/-- a person is in order -/
def PI (im : IM) (p : Nat) : Prop := (0 ≤ im 21 p 0 ∧ im 21 p 0 < 6) ∧ (0 ≤ im 21 p 1 ∧ im 21 p 1 < 10) ∧ ∀ g, g < 10 → -1 ≤ im 22 p g ∧ im 22 p g < 16 ∧ (im 22 p g ≠ -1 → 0 ≤ im 23 p g ∧ im 23 p g ≤ 1100)
/-- a world is in order -/
def WI (im : IM) (w : Nat) : Prop := (0 ≤ im 18 w 3 ∧ im 18 w 3 ≤ 5) ∧ (0 ≤ im 18 w 4 ∧ im 18 w 4 ≤ 1100) ∧ (0 ≤ im 18 w 5 ∧ im 18 w 5 < 16777216) ∧ (0 ≤ im 18 w 7 ∧ im 18 w 7 < 6) ∧ goodT im (im 18 w 7).toNat ∧ ∀ p : Nat, (p : Int) < im 18 w 3 → PI im (5 * w + p)
theorem PI_ag {a b : IM} {l : List Nat} {p : Nat} (h : ag l a b) (h1 : 21 ∉ l) (h2 : 22 ∉ l) (h3 : 23 ∉ l) (hp : PI b p) : PI a p := by
  unfold PI
  simp only [h 21 h1, h 22 h2, h 23 h3]
  exact hp
theorem WI_ag {a b : IM} {l : List Nat} {w : Nat} (h : ag l a b) (h0 : 18 ∉ l) (h1 : 21 ∉ l) (h2 : 22 ∉ l) (h3 : 23 ∉ l) (h4 : 3 ∉ l) (h5 : 4 ∉ l) (hw : WI b w) : WI a w := by
  unfold WI
  simp only [h 18 h0]
  exact ⟨hw.1, hw.2.1, hw.2.2.1, hw.2.2.2.1, goodT_congr (fun s => h 3 h4 _ s) (fun s => h 4 h5 _ s) hw.2.2.2.2.1, fun p hp => PI_ag h h1 h2 h3 (hw.2.2.2.2.2 p hp)⟩

set_option maxHeartbeats 4000000 in
theorem c_X8_within (l : Launch) (G : GS) (im : IM) (bt rt : Nat) (lm : IM) (i n : Int) (hi : ri i) (hn : ri n) : Cn l (XC G) yX8_within Y_X8_within [vI i, vI n] (im, rs bt rt, lm) (pI fun x m' => x = (if 0 ≤ i ∧ i < n then 1 else 0) ∧ m' = (im, rs bt rt, lm)) := by
  refine cn_of (by decide) (okC G) rfl (Nat.le_of_ble_eq_true rfl) ?_
  intro M ad hMl F
  subst hMl
  have hi1 := hi.1
  have hi2 := hi.2
  have hn1 := hn.1
  have hn2 := hn.2
  refine wp_pad 0 ?_
  show Wp M (XC G) ad Y_X8_within (pI fun x m' => x = (if 0 ≤ i ∧ i < n then 1 else 0) ∧ m' = (im, rs bt rt, lm)) 0 [some (vI i), some (vI n)] [] (im, rs bt rt, lm)
  refine q_iload_n (t := 1) F dX8_within_0 rfl rfl rfl ?_
  refine q_if_lt (t := 4) (u := 13) F dX8_within_1 (by first | exact hR _ _ _ | (constructor <;> omega)) (by decide) rfl (fun c1 => ?_) (fun c1 => ?_)
  · refine q_iconst (t := 14) F dX8_within_13 rfl ?_
    refine q_zret F dX8_within_14 rfl (by decide) ?_
    first | exact ⟨_, rfl, by rw [if_pos (by omega)], rfl⟩ | exact ⟨_, rfl, by rw [if_neg (by omega)], rfl⟩
  · refine q_iload_n (t := 5) F dX8_within_4 rfl rfl rfl ?_
    refine q_iload_n (t := 6) F dX8_within_5 rfl rfl rfl ?_
    refine q_icmp_ge (t := 9) (u := 13) F dX8_within_6 (by first | exact hR _ _ _ | (constructor <;> omega)) (by first | exact hR _ _ _ | (constructor <;> omega)) (by decide) rfl (fun c6 => ?_) (fun c6 => ?_)
    · refine q_iconst (t := 14) F dX8_within_13 rfl ?_
      refine q_zret F dX8_within_14 rfl (by decide) ?_
      first | exact ⟨_, rfl, by rw [if_pos (by omega)], rfl⟩ | exact ⟨_, rfl, by rw [if_neg (by omega)], rfl⟩
    · refine q_iconst (t := 10) F dX8_within_9 rfl ?_
      refine q_goto (t := 14) F dX8_within_10 (by decide) ?_
      refine q_zret F dX8_within_14 rfl (by decide) ?_
      first | exact ⟨_, rfl, by rw [if_pos (by omega)], rfl⟩ | exact ⟨_, rfl, by rw [if_neg (by omega)], rfl⟩

set_option maxHeartbeats 4000000 in
theorem c_X8_isSpan (l : Launch) (G : GS) (im : IM) (bt rt : Nat) (lm : IM) (n : Int) (hn : ri n) : Cn l (XC G) yX8_isSpan Y_X8_isSpan [vI n] (im, rs bt rt, lm) (pI fun x m' => x = (if 0 ≤ n ∧ n ≤ 60 then 1 else 0) ∧ m' = (im, rs bt rt, lm)) := by
  refine cn_of (by decide) (okC G) rfl (Nat.le_of_ble_eq_true rfl) ?_
  intro M ad hMl F
  subst hMl
  have hn1 := hn.1
  have hn2 := hn.2
  refine wp_pad 0 ?_
  show Wp M (XC G) ad Y_X8_isSpan (pI fun x m' => x = (if 0 ≤ n ∧ n ≤ 60 then 1 else 0) ∧ m' = (im, rs bt rt, lm)) 0 [some (vI n)] [] (im, rs bt rt, lm)
  refine q_iload_n (t := 1) F dX8_isSpan_0 rfl rfl rfl ?_
  refine q_if_lt (t := 4) (u := 14) F dX8_isSpan_1 (by first | exact hR _ _ _ | (constructor <;> omega)) (by decide) rfl (fun c1 => ?_) (fun c1 => ?_)
  · refine q_iconst (t := 15) F dX8_isSpan_14 rfl ?_
    refine q_zret F dX8_isSpan_15 rfl (by decide) ?_
    first | exact ⟨_, rfl, by rw [if_pos (by omega)], rfl⟩ | exact ⟨_, rfl, by rw [if_neg (by omega)], rfl⟩
  · refine q_iload_n (t := 5) F dX8_isSpan_4 rfl rfl rfl ?_
    refine q_bipush (t := 7) F dX8_isSpan_5 (by decide) rfl ?_
    refine q_icmp_gt (t := 10) (u := 14) F dX8_isSpan_7 (by first | exact hR _ _ _ | (constructor <;> omega)) (by first | exact hR _ _ _ | (constructor <;> omega)) (by decide) rfl (fun c7 => ?_) (fun c7 => ?_)
    · refine q_iconst (t := 15) F dX8_isSpan_14 rfl ?_
      refine q_zret F dX8_isSpan_15 rfl (by decide) ?_
      first | exact ⟨_, rfl, by rw [if_pos (by omega)], rfl⟩ | exact ⟨_, rfl, by rw [if_neg (by omega)], rfl⟩
    · refine q_iconst (t := 11) F dX8_isSpan_10 rfl ?_
      refine q_goto (t := 15) F dX8_isSpan_11 (by decide) ?_
      refine q_zret F dX8_isSpan_15 rfl (by decide) ?_
      first | exact ⟨_, rfl, by rw [if_pos (by omega)], rfl⟩ | exact ⟨_, rfl, by rw [if_neg (by omega)], rfl⟩

set_option maxHeartbeats 4000000 in
theorem c_X8_isOne (l : Launch) (G : GS) (im : IM) (bt rt : Nat) (lm : IM) (i : Int) (hi : ri i) (hR : RI im) : Cn l (XC G) yX8_isOne Y_X8_isOne [vR 0 0, vI i] (im, rs bt rt, lm) (pI fun x m' => x = (if 0 ≤ i ∧ i < im 18 0 3 then 1 else 0) ∧ m' = (im, rs bt rt, lm)) := by
  refine cn_of (by decide) (okC G) rfl (Nat.le_of_ble_eq_true rfl) ?_
  intro M ad hMl F
  subst hMl
  refine wp_pad 0 ?_
  show Wp M (XC G) ad Y_X8_isOne (pI fun x m' => x = (if 0 ≤ i ∧ i < im 18 0 3 then 1 else 0) ∧ m' = (im, rs bt rt, lm)) 0 [some (vR 0 0), some (vI i)] [] (im, rs bt rt, lm)
  refine q_iload_n (t := 1) F dX8_isOne_0 rfl rfl rfl ?_
  refine q_aload_n (t := 2) F dX8_isOne_1 rfl rfl rfl ?_
  refine g_X8_51 (t := 5) F dX8_isOne_2 rfl rfl ?_
  refine g_X8_115 (t := 8) F dX8_isOne_5 rfl (by omega) rfl ?_
  refine wp_callS (t := 11) [_, _] F dX8_isOne_8 k_X8_within st_X8_within ml_X8_95 rfl rfl (Nat.le_of_ble_eq_true rfl) (by decide) (c_X8_within _ G im bt rt lm i (im 18 0 3) hi (hR _ _ _)) rfl (kI ?_)
  rintro x m' ⟨rfl, rfl⟩
  refine q_zret F dX8_isOne_11 rfl (by split <;> decide) ?_
  exact ⟨_, rfl, rfl, rfl⟩

/-! World -/
/-- it is CHURCH in that hour -/
def chI (ch h : Int) : Int := if ch % 4294967296 / 2 ^ (h % 24).toNat % 2 = 0 then 0 else 1
theorem chI_in (ch h : Int) : 0 ≤ chI ch h ∧ chI ch h ≤ 1 := by
  unfold chI
  split <;> omega

set_option maxHeartbeats 4000000 in
theorem c_X7_isChurchIn (l : Launch) (G : GS) (im : IM) (bt rt : Nat) (lm : IM) (w : Nat) (hw : w < 3) (later : Int) (l0 : 0 ≤ later) (l1 : later ≤ 3000) (h0 : 0 ≤ im 18 w 4) (h1 : im 18 w 4 ≤ 3000) : Cn l (XC G) yX7_isChurchIn Y_X7_isChurchIn [vR 18 w, vI later] (im, rs bt rt, lm) (pI fun x m' => x = chI (im 18 w 5) (im 18 w 4 + later) ∧ m' = (im, rs bt rt, lm)) := by
  refine cn_of (by decide) (okC G) rfl (Nat.le_of_ble_eq_true rfl) ?_
  intro M ad hMl F
  subst hMl
  refine wp_pad 0 ?_
  show Wp M (XC G) ad Y_X7_isChurchIn (pI fun x m' => x = chI (im 18 w 5) (im 18 w 4 + later) ∧ m' = (im, rs bt rt, lm)) 0 [some (vR 18 w), some (vI later)] [] (im, rs bt rt, lm)
  refine q_aload_n (t := 1) F dX7_isChurchIn_0 rfl rfl rfl ?_
  refine g_X7_21 (t := 4) F dX7_isChurchIn_1 rfl (by omega) rfl ?_
  refine q_aload_n (t := 5) F dX7_isChurchIn_4 rfl rfl rfl ?_
  refine g_X7_33 (t := 8) F dX7_isChurchIn_5 rfl (by omega) rfl ?_
  refine q_iload_n (t := 9) F dX7_isChurchIn_8 rfl rfl rfl ?_
  refine q_iadd (t := 10) F dX7_isChurchIn_9 rfl ?_
  refine q_bipush (t := 12) F dX7_isChurchIn_10 (by decide) rfl ?_
  refine q_irem (t := 13) F dX7_isChurchIn_12 (by first | exact hR _ _ _ | (constructor <;> omega)) (by first | exact hR _ _ _ | (constructor <;> omega)) (by omega) (by omega) rfl ?_
  refine q_iushr (t := 14) F dX7_isChurchIn_13 (by omega) (by omega) rfl ?_
  refine q_iconst (t := 15) F dX7_isChurchIn_14 rfl ?_
  refine q_iand1 (t := 16) F dX7_isChurchIn_15 rfl ?_
  refine q_if_eq (t := 19) (u := 23) F dX7_isChurchIn_16 (by first | exact hR _ _ _ | (constructor <;> omega)) (by decide) rfl (fun c16 => ?_) (fun c16 => ?_)
  · refine q_iconst (t := 24) F dX7_isChurchIn_23 rfl ?_
    refine q_zret F dX7_isChurchIn_24 rfl (by decide) ?_
    first | exact ⟨_, rfl, by unfold chI; rw [if_pos (by assumption)], rfl⟩ | exact ⟨_, rfl, by unfold chI; rw [if_neg (by assumption)], rfl⟩
  · refine q_iconst (t := 20) F dX7_isChurchIn_19 rfl ?_
    refine q_goto (t := 24) F dX7_isChurchIn_20 (by decide) ?_
    refine q_zret F dX7_isChurchIn_24 rfl (by decide) ?_
    first | exact ⟨_, rfl, by unfold chI; rw [if_pos (by assumption)], rfl⟩ | exact ⟨_, rfl, by unfold chI; rw [if_neg (by assumption)], rfl⟩

/-- how many WORDS are STUCK in the first n of a world's people -/
def cntA (im : IM) (w : Nat) : Nat → Int
  | 0 => 0
  | n + 1 => cntA im w n + cntW (im 22 (5 * w + n)) 10
theorem cntA_in (im : IM) (w n : Nat) : 0 ≤ cntA im w n ∧ cntA im w n ≤ 10 * n := by
  induction n with
  | zero => exact ⟨Int.le_refl 0, Int.le_refl 0⟩
  | succ n ih =>
    have h : cntA im w (n + 1) = cntA im w n + cntW (im 22 (5 * w + n)) 10 := rfl
    have h2 := cntW_in (im 22 (5 * w + n)) 10
    rw [h]
    omega

set_option maxHeartbeats 4000000 in
theorem c_X7_stuckInAll (l : Launch) (G : GS) (im : IM) (bt rt : Nat) (lm : IM) (w : Nat) (hw : w < 3) (hR : RI im) (s0 : 0 ≤ im 18 w 3) (s1 : im 18 w 3 ≤ 5) : Cn l (XC G) yX7_stuckInAll Y_X7_stuckInAll [vR 18 w] (im, rs bt rt, lm) (pI fun x m' => x = cntA im w (im 18 w 3).toNat ∧ m' = (im, rs bt rt, lm)) := by
  refine cn_of (by decide) (okC G) rfl (Nat.le_of_ble_eq_true rfl) ?_
  intro M ad hMl F
  subst hMl
  refine wp_pad 2 ?_
  show Wp M (XC G) ad Y_X7_stuckInAll (pI fun x m' => x = cntA im w (im 18 w 3).toNat ∧ m' = (im, rs bt rt, lm)) 0 [some (vR 18 w), none, none] [] (im, rs bt rt, lm)
  refine q_iconst (t := 1) F dX7_stuckInAll_0 rfl ?_
  refine q_istore_n (t := 2) F dX7_stuckInAll_1 rfl (by decide) rfl rfl ?_
  refine q_iconst (t := 3) F dX7_stuckInAll_2 rfl ?_
  refine q_istore_n (t := 4) F dX7_stuckInAll_3 rfl (by decide) rfl rfl ?_
  have L4 : ∀ (fz : Nat) (i : Nat), (im 18 w 3).toNat - i < fz → (i : Int) ≤ im 18 w 3 → Wp M (XC G) ad Y_X7_stuckInAll (pI fun x m' => x = cntA im w (im 18 w 3).toNat ∧ m' = (im, rs bt rt, lm)) 4 [some (vR 18 w), some (vI (cntA im w i)), some (vI (i : Int))] [] (im, rs bt rt, lm) := by
    intro fz
    induction fz with
    | zero => intro i h; exact absurd h (Nat.not_lt_zero _)
    | succ fz ih =>
      intro i hmeas hi
      refine q_iload_n (t := 5) F dX7_stuckInAll_4 rfl rfl rfl ?_
      refine q_aload_n (t := 6) F dX7_stuckInAll_5 rfl rfl rfl ?_
      refine g_X7_30 (t := 9) F dX7_stuckInAll_6 rfl (by omega) rfl ?_
      refine q_icmp_ge (t := 12) (u := 30) F dX7_stuckInAll_9 (by first | exact hR _ _ _ | (constructor <;> omega)) (by first | exact hR _ _ _ | (constructor <;> omega)) (by decide) rfl (fun c9 => ?_) (fun c9 => ?_)
      · refine q_iload_n (t := 31) F dX7_stuckInAll_30 rfl rfl rfl ?_
        refine q_iret F dX7_stuckInAll_31 rfl ?_
        exact ⟨_, rfl, by rw [show (im 18 w 3).toNat = i by omega], rfl⟩
      · refine q_iload_n (t := 13) F dX7_stuckInAll_12 rfl rfl rfl ?_
        refine q_aload_n (t := 14) F dX7_stuckInAll_13 rfl rfl rfl ?_
        refine g_X7_11 (t := 17) F dX7_stuckInAll_14 rfl (by omega) rfl ?_
        refine q_iload_n (t := 18) F dX7_stuckInAll_17 rfl rfl rfl ?_
        first | refine laN_19 (t := 19) F dX7_stuckInAll_18 (by omega) (by omega) rfl ?_ | refine la_19 (t := 19) F dX7_stuckInAll_18 (by omega) (by omega) (by omega) rfl ?_
        refine wp_callV (t := 22) [] F dX7_stuckInAll_19 k_X3_stuckInAll v_X3_stuckInAll ml_X7_55 rfl rfl rfl rfl (Nat.le_of_ble_eq_true rfl) (by decide) (m_21 (by omega)) (c_X3_stuckInAll _ G im bt rt lm (5 * w + i) (by omega) hR) rfl (kI ?_)
        rintro x m' ⟨rfl, rfl⟩
        refine q_iadd (t := 23) F dX7_stuckInAll_22 rfl ?_
        refine q_istore_n (t := 24) F dX7_stuckInAll_23 rfl (by decide) rfl rfl ?_
        refine q_iinc (t := 27) F dX7_stuckInAll_24 rfl (by decide) rfl rfl ?_
        refine q_goto (t := 4) F dX7_stuckInAll_27 (by decide) ?_
        exact ih (i + 1) (by omega) (by omega)
  exact L4 _ 0 (Nat.lt_succ_self _) (by omega)

/-- the first n people of a world become another's -/
def becP (im : IM) (w v n : Nat) : IM := fun k i s => if k = 18 ∧ i = w ∧ 3 ≤ s ∧ s ≤ 7 then im 18 v s else if (k = 21 ∧ s < 2 ∨ k = 22 ∧ s < 10 ∨ k = 23 ∧ s < 10) ∧ 5 * w ≤ i ∧ i < 5 * w + n then im k (5 * v + (i - 5 * w)) s else im k i s
theorem becP_app (im : IM) (w v n k i s : Nat) : becP im w v n k i s = if k = 18 ∧ i = w ∧ 3 ≤ s ∧ s ≤ 7 then im 18 v s else if (k = 21 ∧ s < 2 ∨ k = 22 ∧ s < 10 ∨ k = 23 ∧ s < 10) ∧ 5 * w ≤ i ∧ i < 5 * w + n then im k (5 * v + (i - 5 * w)) s else im k i s := rfl
theorem becP_0 (im : IM) (w v : Nat) : up (up (up (up (up im 18 w 3 (im 18 v 3)) 18 w 4 (im 18 v 4)) 18 w 5 (im 18 v 5)) 18 w 6 (im 18 v 6)) 18 w 7 (im 18 v 7) = becP im w v 0 := by
  funext k i s
  simp only [up_app, becP_app]
  by_cases h : k = 18 ∧ i = w ∧ 3 ≤ s ∧ s ≤ 7
  · obtain ⟨rfl, rfl, h3, h4⟩ := h
    rcases (show s = 3 ∨ s = 4 ∨ s = 5 ∨ s = 6 ∨ s = 7 by omega) with rfl | rfl | rfl | rfl | rfl <;> simp
  · rw [if_neg h, if_neg (show ¬ ((k = 21 ∧ s < 2 ∨ k = 22 ∧ s < 10 ∨ k = 23 ∧ s < 10) ∧ 5 * w ≤ i ∧ i < 5 * w + 0) by omega)]
    rw [if_neg (by omega), if_neg (by omega), if_neg (by omega), if_neg (by omega), if_neg (by omega)]
theorem becP_s (im : IM) {w v n : Nat} (hwv : w ≠ v) (hn : n < 5) : cpy (cpy (up (up (becP im w v n) 21 (5 * w + n) 0 (becP im w v n 21 (5 * v + n) 0)) 21 (5 * w + n) 1 (becP im w v n 21 (5 * v + n) 1)) 22 (5 * v + n) 0 22 (5 * w + n) 0 10) 23 (5 * v + n) 0 23 (5 * w + n) 0 10 = becP im w v (n + 1) := by
  have hv : ∀ k s, (k = 21 ∨ k = 22 ∨ k = 23) → becP im w v n k (5 * v + n) s = im k (5 * v + n) s := by
    intro k s hk
    rw [becP_app, if_neg (by omega), if_neg (by omega)]
  funext k i s
  by_cases h : (k = 21 ∧ s < 2 ∨ k = 22 ∧ s < 10 ∨ k = 23 ∧ s < 10) ∧ i = 5 * w + n
  · obtain ⟨hk, rfl⟩ := h
    rw [show becP im w v (n + 1) k (5 * w + n) s = im k (5 * v + n) s by
      rw [becP_app, if_neg (by omega), if_pos (by omega), show 5 * w + n - 5 * w = n by omega]]
    simp only [cpy_app, up_app, Nat.zero_add, Nat.sub_zero, Nat.zero_le, true_and, hv 21 0 (Or.inl rfl), hv 21 1 (Or.inl rfl)]
    rcases hk with ⟨rfl, hs⟩ | ⟨rfl, hs⟩ | ⟨rfl, hs⟩
    · rcases (show s = 0 ∨ s = 1 by omega) with rfl | rfl <;> simp
    · rw [if_neg (by omega), if_pos (by omega)]
      first | exact hv 22 s (by omega) | (rw [if_neg (by omega), if_neg (by omega)]; exact hv 22 s (by omega))
    · rw [if_pos (by omega)]
      first | exact hv 23 s (by omega) | (rw [if_neg (by omega), if_neg (by omega), if_neg (by omega)]; exact hv 23 s (by omega))
  · have e : becP im w v (n + 1) k i s = becP im w v n k i s := by
      rw [becP_app, becP_app]
      by_cases h2 : k = 18 ∧ i = w ∧ 3 ≤ s ∧ s ≤ 7
      · rw [if_pos h2, if_pos h2]
      · rw [if_neg h2, if_neg h2]
        by_cases h3 : (k = 21 ∧ s < 2 ∨ k = 22 ∧ s < 10 ∨ k = 23 ∧ s < 10) ∧ 5 * w ≤ i ∧ i < 5 * w + n
        · rw [if_pos (by omega), if_pos h3]
        · rw [if_neg (by omega), if_neg h3]
    rw [e]
    simp only [cpy_app, up_app, Nat.zero_add, Nat.sub_zero, Nat.zero_le, true_and]
    rw [if_neg (by omega), if_neg (by omega), if_neg (by omega), if_neg (by omega)]
/-- World.become -/
def becM (im : IM) (w v : Nat) : IM := becP im w v (im 18 v 3).toNat
theorem RI_bec {im : IM} {w v n : Nat} (h : RI im) : RI (becP im w v n) := by
  intro k i s
  rw [becP_app]
  repeat' split
  all_goals exact h _ _ _

set_option maxHeartbeats 4000000 in
theorem c_X7_become (l : Launch) (G : GS) (im : IM) (bt rt : Nat) (lm : IM) (w v : Nat) (hw : w < 3) (hv : v < 3) (hwv : w ≠ v) (hR : RI im) (s0 : 0 ≤ im 18 v 3) (s1 : im 18 v 3 ≤ 5) : Cn l (XC G) yX7_become Y_X7_become [vR 18 w, vR 18 v] (im, rs bt rt, lm) (pV fun m' => m' = (becM im w v, rs bt rt, lm)) := by
  refine cn_of (by decide) (okC G) rfl (Nat.le_of_ble_eq_true rfl) ?_
  intro M ad hMl F
  subst hMl
  refine wp_pad 1 ?_
  show Wp M (XC G) ad Y_X7_become (pV fun m' => m' = (becM im w v, rs bt rt, lm)) 0 [some (vR 18 w), some (vR 18 v), none] [] (im, rs bt rt, lm)
  refine q_aload_n (t := 1) F dX7_become_0 rfl rfl rfl ?_
  refine q_aload_n (t := 2) F dX7_become_1 rfl rfl rfl ?_
  refine g_X7_30 (t := 5) F dX7_become_2 rfl (by omega) rfl ?_
  refine p_X7_30 (t := 8) F dX7_become_5 rfl (by omega) rfl ?_
  refine q_aload_n (t := 9) F dX7_become_8 rfl rfl rfl ?_
  refine q_aload_n (t := 10) F dX7_become_9 rfl rfl rfl ?_
  refine g_X7_33 (t := 13) F dX7_become_10 rfl (by omega) rfl ?_
  try simp only [up_app, row_app, scr_app, cpy_app, Nat.reduceEqDiff, Int.reduceToNat, Int.toNat_natCast, and_true, true_and, and_false, false_and, and_self, reduceIte]
  refine p_X7_33 (t := 16) F dX7_become_13 rfl (by omega) rfl ?_
  refine q_aload_n (t := 17) F dX7_become_16 rfl rfl rfl ?_
  refine q_aload_n (t := 18) F dX7_become_17 rfl rfl rfl ?_
  refine g_X7_21 (t := 21) F dX7_become_18 rfl (by omega) rfl ?_
  try simp only [up_app, row_app, scr_app, cpy_app, Nat.reduceEqDiff, Int.reduceToNat, Int.toNat_natCast, and_true, true_and, and_false, false_and, and_self, reduceIte]
  refine p_X7_21 (t := 24) F dX7_become_21 rfl (by omega) rfl ?_
  refine q_aload_n (t := 25) F dX7_become_24 rfl rfl rfl ?_
  refine q_aload_n (t := 26) F dX7_become_25 rfl rfl rfl ?_
  refine g_X7_36 (t := 29) F dX7_become_26 rfl (by omega) rfl ?_
  try simp only [up_app, row_app, scr_app, cpy_app, Nat.reduceEqDiff, Int.reduceToNat, Int.toNat_natCast, and_true, true_and, and_false, false_and, and_self, reduceIte]
  refine p_X7_36 (t := 32) F dX7_become_29 rfl (by omega) rfl ?_
  refine q_aload_n (t := 33) F dX7_become_32 rfl rfl rfl ?_
  refine q_aload_n (t := 34) F dX7_become_33 rfl rfl rfl ?_
  refine g_X7_39 (t := 37) F dX7_become_34 rfl (by omega) rfl ?_
  try simp only [up_app, row_app, scr_app, cpy_app, Nat.reduceEqDiff, Int.reduceToNat, Int.toNat_natCast, and_true, true_and, and_false, false_and, and_self, reduceIte]
  refine p_X7_39 (t := 40) F dX7_become_37 rfl (by omega) rfl ?_
  refine q_iconst (t := 41) F dX7_become_40 rfl ?_
  refine q_istore_n (t := 42) F dX7_become_41 rfl (by decide) rfl rfl ?_
  have L42 : ∀ (fz : Nat) (i : Nat), (im 18 v 3).toNat - i < fz → (i : Int) ≤ im 18 v 3 → Wp M (XC G) ad Y_X7_become (pV fun m' => m' = (becM im w v, rs bt rt, lm)) 42 [some (vR 18 w), some (vR 18 v), some (vI (i : Int))] [] (becP im w v i, rs bt rt, lm) := by
    intro fz
    induction fz with
    | zero => intro i h; exact absurd h (Nat.not_lt_zero _)
    | succ fz ih =>
      intro i hmeas hi
      have e3 : becP im w v i 18 w 3 = im 18 v 3 := by rw [becP_app, if_pos (by omega)]
      refine q_iload_n (t := 43) F dX7_become_42 rfl rfl rfl ?_
      refine q_aload_n (t := 44) F dX7_become_43 rfl rfl rfl ?_
      refine g_X7_30 (t := 47) F dX7_become_44 rfl (by omega) rfl ?_
      try simp only [up_app, row_app, scr_app, cpy_app, Nat.reduceEqDiff, Int.reduceToNat, Int.toNat_natCast, and_true, true_and, and_false, false_and, and_self, reduceIte]
      rw [e3]
      refine q_icmp_ge (t := 50) (u := 71) F dX7_become_47 (by first | exact hR _ _ _ | (constructor <;> omega)) (by first | exact hR _ _ _ | (constructor <;> omega)) (by decide) rfl (fun c47 => ?_) (fun c47 => ?_)
      · refine q_vret F dX7_become_71 rfl ?_
        exact ⟨rfl, by unfold becM; rw [show (im 18 v 3).toNat = i by omega]⟩
      · refine q_aload_n (t := 51) F dX7_become_50 rfl rfl rfl ?_
        refine g_X7_11 (t := 54) F dX7_become_51 rfl (by omega) rfl ?_
        refine q_iload_n (t := 55) F dX7_become_54 rfl rfl rfl ?_
        first | refine laN_19 (t := 56) F dX7_become_55 (by omega) (by omega) rfl ?_ | refine la_19 (t := 56) F dX7_become_55 (by omega) (by omega) (by omega) rfl ?_
        refine q_aload_n (t := 57) F dX7_become_56 rfl rfl rfl ?_
        refine g_X7_11 (t := 60) F dX7_become_57 rfl (by omega) rfl ?_
        refine q_iload_n (t := 61) F dX7_become_60 rfl rfl rfl ?_
        first | refine laN_19 (t := 62) F dX7_become_61 (by omega) (by omega) rfl ?_ | refine la_19 (t := 62) F dX7_become_61 (by omega) (by omega) (by omega) rfl ?_
        refine wp_callV (t := 65) [_] F dX7_become_62 k_X3_become v_X3_become ml_X7_42 rfl rfl rfl rfl (Nat.le_of_ble_eq_true rfl) (by decide) (m_21 (by omega)) (c_X3_become _ G (becP im w v i) bt rt lm (5 * w + i) (5 * v + i) (by omega) (by omega)) rfl (kV ?_)
        rintro m' rfl
        rw [becP_s im hwv (by omega)]
        refine q_iinc (t := 68) F dX7_become_65 rfl (by decide) rfl rfl ?_
        refine q_goto (t := 42) F dX7_become_68 (by decide) ?_
        exact ih (i + 1) (by omega) (by omega)
  have h := L42 _ 0 (Nat.lt_succ_self _) (by omega)
  rw [← becP_0] at h
  exact h
