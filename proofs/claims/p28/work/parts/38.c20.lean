/-! steps more -/
def ap (j : Nat) (a : IM) (L : List Int) (c : IM) : Prop := c 2 j 3 = a 2 j 3 + L.length ∧ (∀ s : Nat, (s : Int) < a 2 j 3 → c 3 j s = a 3 j s) ∧ ∀ s : Nat, s < L.length → c 3 j ((a 2 j 3).toNat + s) = L.getD s 0
theorem ap_nil {j : Nat} {a c : IM} (h2 : c 2 j 3 = a 2 j 3) (h3 : ∀ s, c 3 j s = a 3 j s) : ap j a [] c := ⟨by rw [h2]; exact (Int.add_zero _).symm, fun s _ => h3 s, fun s h => absurd h (Nat.not_lt_zero _)⟩
theorem ap.app {j : Nat} {a b c : IM} {L L2 : List Int} (h0 : 0 ≤ a 2 j 3) (h : ap j a L b) (h2 : ap j b L2 c) : ap j a (L ++ L2) c := by
  have e := h.1
  have e2 := h2.1
  refine ⟨by rw [List.length_append]; omega, fun s hs => (h2.2.1 s (by omega)).trans (h.2.1 s hs), fun s hs => ?_⟩
  rw [List.length_append] at hs
  rw [List.getD_eq_getElem?_getD]
  by_cases hl : s < L.length
  · rw [List.getElem?_append_left hl, ← List.getD_eq_getElem?_getD]
    rw [h2.2.1 _ (by omega)]
    exact h.2.2 s hl
  · rw [List.getElem?_append_right (by omega), ← List.getD_eq_getElem?_getD]
    have h3 := h2.2.2 (s - L.length) (by omega)
    rw [show (b 2 j 3).toNat + (s - L.length) = (a 2 j 3).toNat + s by omega] at h3
    exact h3
/-- what stands behind a reading from im: place, fault, steps -/
def PO (b : Nat → Int) (n j : Nat) (im : IM) (r : PT) (im' : IM) : Prop := PR b n j im' r.1 r.2.1 ∧ agR j im' im ∧ (r.2.1 = -1 → ap j im r.2.2.1 im')
theorem PO_id {b : Nat → Int} {n j : Nat} {im : IM} {p : Nat} {f : Int} {V : (Nat → Int) → Int} (h : PR b n j im p f) : PO b n j im (p, f, [], V) im := ⟨h, agR_rfl j im, fun _ => ap_nil rfl (fun _ => rfl)⟩
theorem PO.seq {b : Nat → Int} {n j : Nat} {im im2 im3 : IM} {r r2 : PT} {V : (Nat → Int) → Int} (z : 0 ≤ im 2 j 3) (h : PO b n j im r im2) (h1 : r2.2.1 = -1 → r.2.1 = -1) (h2 : PO b n j im2 r2 im3) : PO b n j im (r2.1, r2.2.1, r.2.2.1 ++ r2.2.2.1, V) im3 := ⟨h2.1, h2.2.1.trans h.2.1, fun q => ap.app z (h.2.2 (h1 q)) (h2.2.2 q)⟩
theorem PO.seq0 {b : Nat → Int} {n j : Nat} {im im2 im3 : IM} {r r2 : PT} {V : (Nat → Int) → Int} (z : 0 ≤ im 2 j 3) (h : PO b n j im r im2) (h1 : r2.2.1 = -1 → r.2.1 = -1) (e : r2.2.1 = -1 → r2.2.2.1 = []) (h2 : PO b n j im2 r2 im3) : PO b n j im (r2.1, r2.2.1, r.2.2.1, V) im3 := ⟨h2.1, h2.2.1.trans h.2.1, fun q => by
  have h4 := h2.2.2 q
  rw [e q] at h4
  have h5 := ap.app z (h.2.2 (h1 q)) h4
  rw [List.append_nil] at h5
  exact h5⟩
theorem PR.z {b : Nat → Int} {n j : Nat} {im : IM} {p : Nat} {f : Int} (h : PR b n j im p f) : 0 ≤ im 2 j 3 := h.2.2.2.2.1.1
theorem addM_k {im : IM} {j : Nat} {s : Int} {k i t : Nat} (h2 : ¬ (k = 2 ∧ i = j ∧ t = 3)) (h3 : ¬ (k = 3 ∧ i = j)) : addM im j s k i t = im k i t := by
  unfold addM
  split
  · rw [up_app, if_neg h2, up_app, if_neg (fun q => h3 ⟨q.1, q.2.1⟩)]
  · rfl
theorem PO.add {b : Nat → Int} {n j : Nat} {im im2 : IM} {r : PT} {V : (Nat → Int) → Int} {s : Int} (hn : n ≤ 160) (hs : ri s) (h : PO b n j im r im2) (hz : 0 ≤ im 2 j 3) (hl : r.2.1 = -1 → im2 2 j 3 < r.1) : PO b n j im (r.1, r.2.1, r.2.2.1 ++ [s], V) (addM im2 j s) := by
  obtain ⟨⟨⟨a1, a2, a3, a4, a5⟩, hR, h15, h1, hst, hp, hf⟩, hag, hap⟩ := h
  have e14 : ∀ t, addM im2 j s 14 0 t = im2 14 0 t := fun t => addM_k (by omega) (by omega)
  have e2 : addM im2 j s 2 j 3 = if im2 2 j 3 < 160 then im2 2 j 3 + 1 else im2 2 j 3 := by
    unfold addM
    split
    · rw [up_app, if_pos ⟨rfl, rfl, rfl⟩]
    · rfl
  refine ⟨⟨⟨(e14 2).trans a1, (e14 3).trans a2, (e14 4).trans a3, fun q => (e14 5).trans (a4 q), (e14 6).trans a5⟩, ?_, (funext fun t => addM_k (by omega) (by omega)).trans h15, (e14 1).trans h1, ?_, hp, fun q => ?_⟩, ?_, fun q => ?_⟩
  · unfold addM
    split
    · exact RI_up (RI_up hR hs) (by constructor <;> omega)
    · exact hR
  · rw [e2]; split <;> omega
  · have := hl q
    show addM im2 j s 2 j 3 ≤ r.1
    rw [e2]; split <;> omega
  · intro k i t q1 q2 q3
    rw [addM_k q2 q3]
    exact hag k i t q1 q2 q3
  · have hlt := hl q
    have hp' : r.1 ≤ n := hp
    refine ap.app hz (hap q) ?_
    have e3 : ∀ t : Nat, addM im2 j s 3 j t = if t = (im2 2 j 3).toNat then s else im2 3 j t := by
      intro t
      unfold addM
      rw [if_pos (by omega), up_app, if_neg (by omega), up_app]
      by_cases ht : t = (im2 2 j 3).toNat
      · rw [if_pos ⟨rfl, rfl, ht⟩, if_pos ht]
      · rw [if_neg (fun z => ht z.2.2), if_neg ht]
    refine ⟨?_, fun t ht => ?_, fun t ht => ?_⟩
    · rw [e2, if_pos (by omega)]; rfl
    · rw [e3, if_neg (by omega)]
    · have ht0 : t = 0 := by have : t < 1 := ht; omega
      subst ht0
      rw [e3, if_pos (by omega)]
      rfl
/-! advance, expect, openAll -/
theorem c_adv (l : Launch) (G : GS) (im : IM) (bt j : Nat) (lm : IM) (b : Nat → Int) (n : Nat) (hb : byt b n) (p : Nat) (f : Int) (h : PR b n j im p f) : Cn l (XC G) yX4_advance Y_X4_advance [vR 14 0] (im, rs bt j, lm) (pV fun m' => ∃ im', (p < n → PO b n j im (adv b n p, f, [], fun _ => 0) im') ∧ m' = (im', rs bt j, lm)) := by
  obtain ⟨⟨a1, a2, a3, a4, a5⟩, hR, h15, h1, hst, hp, hf⟩ := h
  have hnx : nx b n p ≤ n := by
    by_cases hlt : p < n
    · exact (nx_in hlt).2
    · unfold nx
      rw [if_pos (by omega)]; exact hp
  refine (c_X4_advance l G im bt j lm b n hb hR h15 h1 (nx b n p) hnx a1).mono (fun r m' hq => ?_)
  obtain ⟨hr, im', hR', hag, hRS, hm⟩ := hq
  refine ⟨hr, im', fun hlt => ?_, hm⟩
  have ha := adv_in (b := b) hlt
  refine ⟨⟨⟨hRS.1, hRS.2.1, hRS.2.2.1, hRS.2.2.2.1, hRS.2.2.2.2.trans a5⟩, hR', (funext fun t => hag 15 0 t (by omega)).trans h15, (hag 14 0 1 (by omega)).trans h1, ?_, ha.2, fun q => ?_⟩, fun k i t q1 q2 q3 => hag k i t (by omega), fun _ => ap_nil (hag 2 j 3 (by omega)) (fun t => hag 3 j t (by omega))⟩
  · rw [hag 2 j 3 (by omega)]; exact hst
  · rw [hag 2 j 3 (by omega)]
    have := hf q
    show im 2 j 3 ≤ (adv b n p : Nat)
    omega
/-- a token that must stand there -/
def exP (b : Nat → Int) (n : Nat) (key : Int) (p : Nat) : PT := if tk b n p = key then (adv b n p, -1, [], fun _ => 0) else pFail p

theorem PO_fault {b : Nat → Int} {n j : Nat} {im : IM} {p : Nat} {V : (Nat → Int) → Int} (h : PR b n j im p (-1)) : PO b n j im (p, (p : Int), [], V) (up im 14 0 6 (p : Int)) := by
  obtain ⟨⟨a1, a2, a3, a4, a5⟩, hR, h15, h1, hst, hp, hf⟩ := h
  refine ⟨⟨⟨a1, a2, a3, a4, rfl⟩, RI_up hR ?_, h15, h1, hst, hp, fun q => ?_⟩, agR_up (agR_rfl j im) (by omega), fun q => ?_⟩
  · have := hf rfl
    have h2 := hR 2 j 3
    have h3 := hR 14 0 3
    rw [a2] at h3
    exact h3
  · have : ((p : Nat) : Int) = -1 := q
    omega
  · have : ((p : Nat) : Int) = -1 := q
    omega
/-- failing where it stands -/
theorem PO_fail {b : Nat → Int} {n j : Nat} {im : IM} {p : Nat} {f : Int} {F : Nat → PT} (h : PR b n j im p f) (hF : f = -1 → F p = pFail p) : PO b n j im (stP F p f) (if im 14 0 6 = -1 then up im 14 0 6 (im 14 0 3) else im) := by
  have g6 : im 14 0 6 = f := h.1.2.2.2.2
  have g3 : im 14 0 3 = p := h.1.2.1
  rw [g6]
  unfold stP
  by_cases hf : f = -1
  · rw [if_pos hf, if_pos hf, hF hf, g3]
    subst hf
    exact PO_fault h
  · rw [if_neg hf, if_neg hf]
    exact PO_id h

set_option maxHeartbeats 4000000 in
theorem c_X4_expect (l : Launch) (G : GS) (im : IM) (bt j : Nat) (lm : IM) (b : Nat → Int) (n : Nat) (hb : byt b n) (key : Int) (hk : 0 < key) (hk2 : key < 100) (p : Nat) (f : Int) (h : PR b n j im p f) : Cn l (XC G) yX4_expect Y_X4_expect [vR 14 0, vI key] (im, rs bt j, lm) (pV fun m' => ∃ im', PO b n j im (stP (exP b n key) p f) im' ∧ m' = (im', rs bt j, lm)) := by
  refine cn_of (by decide) (okC G) rfl (Nat.le_of_ble_eq_true rfl) ?_
  intro M ad hMl F
  subst hMl
  have hn := hb.1
  have hR := h.2.1
  have hz := h.z
  have g4 : im 14 0 4 = tk b n p := h.1.2.2.1
  have g6 : im 14 0 6 = f := h.1.2.2.2.2
  have g3 : im 14 0 3 = p := h.1.2.1
  have hti := tk_in b n p
  refine wp_pad 0 ?_
  show Wp M (XC G) ad Y_X4_expect (pV fun m' => ∃ im', PO b n j im (stP (exP b n key) p f) im' ∧ m' = (im', rs bt j, lm)) 0 [some (vR 14 0), some (vI key)] [] (im, rs bt j, lm)
  refine q_aload_n (t := 1) F dX4_expect_0 rfl rfl rfl ?_
  refine q_iload_n (t := 2) F dX4_expect_1 rfl rfl rfl ?_
  refine wp_callV (t := 5) [_] F dX4_expect_2 k_X4_at v_X4_at ml_X4_47 rfl rfl rfl rfl (Nat.le_of_ble_eq_true rfl) (by decide) (m_14 (by omega)) (c_X4_at _ G im bt j lm hR key (by constructor <;> omega)) rfl (kI ?_)
  rintro x2 m' ⟨hx2, rfl⟩
  have hx2 := if01 hx2
  refine q_if_eq (t := 8) (u := 15) F dX4_expect_5 (by first | exact hR _ _ _ | (constructor <;> omega)) (by decide) rfl (fun c5 => ?_) (fun c5 => ?_)
  · refine q_aload_n (t := 16) F dX4_expect_15 rfl rfl rfl ?_
    refine wp_callV (t := 19) [] F dX4_expect_16 k_X4_fail v_X4_fail ml_X4_51 rfl rfl rfl rfl (Nat.le_of_ble_eq_true rfl) (by decide) (m_14 (by omega)) (c_X4_fail _ G im bt j lm hR) rfl (kV ?_)
    rintro m' rfl
    refine q_vret F dX4_expect_19 rfl ?_
    first
      | (have hq : f = -1 ∧ tk b n p = key := by
           rcases hx2 with q | q
           · omega
           · omega
         have hlt : p < n := tk_lt (b := b) (by omega)
         refine ⟨rfl, im2, ?_, rfl⟩
         unfold stP
         rw [if_pos hq.1]
         unfold exP
         rw [if_pos hq.2]
         have h3 := h2 hlt
         rw [hq.1] at h3
         exact h3)
      | (refine ⟨rfl, _, PO_fail h (fun q => ?_), rfl⟩
         unfold exP
         rw [if_neg (by
           rcases hx2 with q | q
           · omega
           · omega)])
  · refine q_aload_n (t := 9) F dX4_expect_8 rfl rfl rfl ?_
    refine wp_callV (t := 12) [] F dX4_expect_9 k_X4_advance v_X4_advance ml_X4_34 rfl rfl rfl rfl (Nat.le_of_ble_eq_true rfl) (by decide) (m_14 (by omega)) (c_adv _ G im bt j lm b n hb p f h) rfl (kV ?_)
    rintro m' ⟨im2, h2, rfl⟩
    refine q_goto (t := 19) F dX4_expect_12 (by decide) ?_
    refine q_vret F dX4_expect_19 rfl ?_
    first
      | (have hq : f = -1 ∧ tk b n p = key := by
           rcases hx2 with q | q
           · omega
           · omega
         have hlt : p < n := tk_lt (b := b) (by omega)
         refine ⟨rfl, im2, ?_, rfl⟩
         unfold stP
         rw [if_pos hq.1]
         unfold exP
         rw [if_pos hq.2]
         have h3 := h2 hlt
         rw [hq.1] at h3
         exact h3)
      | (refine ⟨rfl, _, PO_fail h (fun q => ?_), rfl⟩
         unfold exP
         rw [if_neg (by
           rcases hx2 with q | q
           · omega
           · omega)])

/-- how many more may be opened, where it stands, the fault, behind all of a token -/
def OAL (b : Nat → Int) (n : Nat) (key : Int) (m p : Nat) (f : Int) (m' p' : Nat) (f' : Int) : Prop := (f = -1 → opn b n key m p = (m', p') ∧ f' = if tk b n p' = key then (p' : Int) else -1) ∧ (f ≠ -1 → m' = m ∧ p' = p ∧ f' = f)
theorem opn_y {b : Nat → Int} {n : Nat} {key : Int} {m p : Nat} (h : tk b n p = key) : opn b n key (m + 1) p = opn b n key m (adv b n p) := by
  show (if _ then _ else _) = _
  rw [if_pos h]
theorem opn_n {b : Nat → Int} {n : Nat} {key : Int} {m p : Nat} (h : tk b n p ≠ key) : opn b n key m p = (m, p) := by
  cases m with
  | zero => rfl
  | succ m =>
    show (if _ then _ else _) = _
    rw [if_neg h]

set_option maxHeartbeats 4000000 in
theorem c_X4_openAll (l : Launch) (G : GS) (im : IM) (bt j : Nat) (lm : IM) (b : Nat → Int) (n : Nat) (hb : byt b n) (key : Int) (hk : 0 < key) (hk2 : key < 100) (m a : Nat) (hma : m + a = 5) (p : Nat) (f : Int) (h : PR b n j im p f) : Cn l (XC G) yX4_openAll Y_X4_openAll [vR 14 0, vI key, vI (a : Int)] (im, rs bt j, lm) (pI fun x m' => ∃ (im' : IM) (m2 a2 p2 : Nat) (f2 : Int), x = (a2 : Int) ∧ m2 + a2 = 5 ∧ m2 ≤ m ∧ OAL b n key m p f m2 p2 f2 ∧ p + (m - m2) ≤ p2 ∧ PO b n j im (p2, f2, [], fun _ => 0) im' ∧ m' = (im', rs bt j, lm)) := by
  refine cn_of (by decide) (okC G) rfl (Nat.le_of_ble_eq_true rfl) ?_
  intro M ad hMl F
  subst hMl
  have hn := hb.1
  have hz0 := h.z
  refine wp_pad 1 ?_
  show Wp M (XC G) ad Y_X4_openAll (pI fun x m' => ∃ (im' : IM) (m2 a2 p2 : Nat) (f2 : Int), x = (a2 : Int) ∧ m2 + a2 = 5 ∧ m2 ≤ m ∧ OAL b n key m p f m2 p2 f2 ∧ p + (m - m2) ≤ p2 ∧ PO b n j im (p2, f2, [], fun _ => 0) im' ∧ m' = (im', rs bt j, lm)) 0 [some (vR 14 0), some (vI key), some (vI (a : Int)), none] [] (im, rs bt j, lm)
  refine q_iload_n (t := 1) F dX4_openAll_0 rfl rfl rfl ?_
  refine q_istore_n (t := 2) F dX4_openAll_1 rfl (by decide) rfl rfl ?_
  have L2 : ∀ (fz : Nat) (m1 a1 p1 : Nat) (im1 : IM), m1 < fz → m1 + a1 = 5 → m1 ≤ m → (f = -1 → opn b n key m p = opn b n key m1 p1) → (f ≠ -1 → m1 = m ∧ p1 = p) → p + (m - m1) ≤ p1 → PO b n j im (p1, f, [], fun _ => 0) im1 → Wp M (XC G) ad Y_X4_openAll (pI fun x m' => ∃ (im' : IM) (m2 a2 p2 : Nat) (f2 : Int), x = (a2 : Int) ∧ m2 + a2 = 5 ∧ m2 ≤ m ∧ OAL b n key m p f m2 p2 f2 ∧ p + (m - m2) ≤ p2 ∧ PO b n j im (p2, f2, [], fun _ => 0) im' ∧ m' = (im', rs bt j, lm)) 2 [some (vR 14 0), some (vI key), some (vI (a : Int)), some (vI (a1 : Int))] [] (im1, rs bt j, lm) := by
    intro fz
    induction fz with
    | zero => intro m1 a1 p1 im1 h; exact absurd h (Nat.not_lt_zero _)
    | succ fz ih =>
      have ih2 := ih
      intro m1 a1 p1 im1 hmeas hma1 hmm ho1 ho2 hpp h1
      have h11 : PR b n j im1 p1 f := h1.1
      have hR1 := h11.2.1
      have g4 : im1 14 0 4 = tk b n p1 := h11.1.2.2.1
      have g6 : im1 14 0 6 = f := h11.1.2.2.2.2
      have hti := tk_in b n p1
      refine q_iload_n (t := 3) F dX4_openAll_2 rfl rfl rfl ?_
      refine q_iconst (t := 4) F dX4_openAll_3 rfl ?_
      refine q_icmp_ge (t := 7) (u := 25) F dX4_openAll_4 (by constructor <;> omega) (by constructor <;> omega) (by decide) rfl (fun c4 => ?_) (fun c4 => ?_)
      · refine q_aload_n (t := 26) F dX4_openAll_25 rfl rfl rfl ?_
        refine q_iload_n (t := 27) F dX4_openAll_26 rfl rfl rfl ?_
        refine wp_callV (t := 30) [_] F dX4_openAll_27 k_X4_at v_X4_at ml_X4_47 rfl rfl rfl rfl (Nat.le_of_ble_eq_true rfl) (by decide) (m_14 (by omega)) (c_X4_at _ G im1 bt j lm hR1 key (by constructor <;> omega)) rfl (kI ?_)
        rintro x27 m' ⟨hx27, rfl⟩
        have hx27 := if01 hx27
        refine q_if_eq (t := 33) (u := 37) F dX4_openAll_30 (by first | exact hR _ _ _ | (constructor <;> omega)) (by decide) rfl (fun c30 => ?_) (fun c30 => ?_)
        · refine q_iload_n (t := 38) F dX4_openAll_37 rfl rfl rfl ?_
          refine q_iret F dX4_openAll_38 rfl ?_
          first
            | (have hq : f = -1 ∧ tk b n p1 = key := by
                 rcases hx27 with q | q
                 · omega
                 · omega
               have hm0 : m1 = 0 := by
                 first
                   | omega
                   | (rcases hx9 with q | q <;> omega)
               subst hm0
               refine ⟨_, rfl, _, 0, a1, p1, (p1 : Int), rfl, by omega, by omega, ⟨fun q => ⟨(ho1 q).trans rfl, by rw [if_pos hq.2]⟩, fun q => absurd hq.1 q⟩, by omega, ?_, rfl⟩
               have h4 := PO_fail (F := pFail) h11 (fun _ => rfl)
               rw [show stP pFail p1 f = pFail p1 by unfold stP; rw [if_pos hq.1]] at h4
               exact PO.seq0 hz0 h1 (fun _ => hq.1) (fun q => rfl) h4)
            | (refine ⟨_, rfl, _, m1, a1, p1, f, rfl, hma1, hmm, ⟨fun q => ?_, fun q => ⟨(ho2 q).1, (ho2 q).2, rfl⟩⟩, hpp, h1, rfl⟩
               have hne : tk b n p1 ≠ key := by
                 intro z
                 rcases hx27 with q2 | q2 <;> omega
               refine ⟨by rw [ho1 q, opn_n hne], ?_⟩
               rw [if_neg hne]
               exact q)
        · refine q_aload_n (t := 34) F dX4_openAll_33 rfl rfl rfl ?_
          refine wp_callV (t := 37) [] F dX4_openAll_34 k_X4_fail v_X4_fail ml_X4_51 rfl rfl rfl rfl (Nat.le_of_ble_eq_true rfl) (by decide) (m_14 (by omega)) (c_X4_fail _ G im1 bt j lm hR1) rfl (kV ?_)
          rintro m' rfl
          refine q_iload_n (t := 38) F dX4_openAll_37 rfl rfl rfl ?_
          refine q_iret F dX4_openAll_38 rfl ?_
          first
            | (have hq : f = -1 ∧ tk b n p1 = key := by
                 rcases hx27 with q | q
                 · omega
                 · omega
               have hm0 : m1 = 0 := by
                 first
                   | omega
                   | (rcases hx9 with q | q <;> omega)
               subst hm0
               refine ⟨_, rfl, _, 0, a1, p1, (p1 : Int), rfl, by omega, by omega, ⟨fun q => ⟨(ho1 q).trans rfl, by rw [if_pos hq.2]⟩, fun q => absurd hq.1 q⟩, by omega, ?_, rfl⟩
               have h4 := PO_fail (F := pFail) h11 (fun _ => rfl)
               rw [show stP pFail p1 f = pFail p1 by unfold stP; rw [if_pos hq.1]] at h4
               exact PO.seq0 hz0 h1 (fun _ => hq.1) (fun q => rfl) h4)
            | (refine ⟨_, rfl, _, m1, a1, p1, f, rfl, hma1, hmm, ⟨fun q => ?_, fun q => ⟨(ho2 q).1, (ho2 q).2, rfl⟩⟩, hpp, h1, rfl⟩
               have hne : tk b n p1 ≠ key := by
                 intro z
                 rcases hx27 with q2 | q2 <;> omega
               refine ⟨by rw [ho1 q, opn_n hne], ?_⟩
               rw [if_neg hne]
               exact q)
      · refine q_aload_n (t := 8) F dX4_openAll_7 rfl rfl rfl ?_
        refine q_iload_n (t := 9) F dX4_openAll_8 rfl rfl rfl ?_
        refine wp_callV (t := 12) [_] F dX4_openAll_9 k_X4_at v_X4_at ml_X4_47 rfl rfl rfl rfl (Nat.le_of_ble_eq_true rfl) (by decide) (m_14 (by omega)) (c_X4_at _ G im1 bt j lm hR1 key (by constructor <;> omega)) rfl (kI ?_)
        rintro x9 m' ⟨hx9, rfl⟩
        have hx9 := if01 hx9
        refine q_if_eq (t := 15) (u := 25) F dX4_openAll_12 (by first | exact hR _ _ _ | (constructor <;> omega)) (by decide) rfl (fun c12 => ?_) (fun c12 => ?_)
        · refine q_aload_n (t := 26) F dX4_openAll_25 rfl rfl rfl ?_
          refine q_iload_n (t := 27) F dX4_openAll_26 rfl rfl rfl ?_
          refine wp_callV (t := 30) [_] F dX4_openAll_27 k_X4_at v_X4_at ml_X4_47 rfl rfl rfl rfl (Nat.le_of_ble_eq_true rfl) (by decide) (m_14 (by omega)) (c_X4_at _ G im1 bt j lm hR1 key (by constructor <;> omega)) rfl (kI ?_)
          rintro x27 m' ⟨hx27, rfl⟩
          have hx27 := if01 hx27
          refine q_if_eq (t := 33) (u := 37) F dX4_openAll_30 (by first | exact hR _ _ _ | (constructor <;> omega)) (by decide) rfl (fun c30 => ?_) (fun c30 => ?_)
          · refine q_iload_n (t := 38) F dX4_openAll_37 rfl rfl rfl ?_
            refine q_iret F dX4_openAll_38 rfl ?_
            first
              | (have hq : f = -1 ∧ tk b n p1 = key := by
                   rcases hx27 with q | q
                   · omega
                   · omega
                 have hm0 : m1 = 0 := by
                   first
                     | omega
                     | (rcases hx9 with q | q <;> omega)
                 subst hm0
                 refine ⟨_, rfl, _, 0, a1, p1, (p1 : Int), rfl, by omega, by omega, ⟨fun q => ⟨(ho1 q).trans rfl, by rw [if_pos hq.2]⟩, fun q => absurd hq.1 q⟩, by omega, ?_, rfl⟩
                 have h4 := PO_fail (F := pFail) h11 (fun _ => rfl)
                 rw [show stP pFail p1 f = pFail p1 by unfold stP; rw [if_pos hq.1]] at h4
                 exact PO.seq0 hz0 h1 (fun _ => hq.1) (fun q => rfl) h4)
              | (refine ⟨_, rfl, _, m1, a1, p1, f, rfl, hma1, hmm, ⟨fun q => ?_, fun q => ⟨(ho2 q).1, (ho2 q).2, rfl⟩⟩, hpp, h1, rfl⟩
                 have hne : tk b n p1 ≠ key := by
                   intro z
                   rcases hx27 with q2 | q2 <;> omega
                 refine ⟨by rw [ho1 q, opn_n hne], ?_⟩
                 rw [if_neg hne]
                 exact q)
          · refine q_aload_n (t := 34) F dX4_openAll_33 rfl rfl rfl ?_
            refine wp_callV (t := 37) [] F dX4_openAll_34 k_X4_fail v_X4_fail ml_X4_51 rfl rfl rfl rfl (Nat.le_of_ble_eq_true rfl) (by decide) (m_14 (by omega)) (c_X4_fail _ G im1 bt j lm hR1) rfl (kV ?_)
            rintro m' rfl
            refine q_iload_n (t := 38) F dX4_openAll_37 rfl rfl rfl ?_
            refine q_iret F dX4_openAll_38 rfl ?_
            first
              | (have hq : f = -1 ∧ tk b n p1 = key := by
                   rcases hx27 with q | q
                   · omega
                   · omega
                 have hm0 : m1 = 0 := by
                   first
                     | omega
                     | (rcases hx9 with q | q <;> omega)
                 subst hm0
                 refine ⟨_, rfl, _, 0, a1, p1, (p1 : Int), rfl, by omega, by omega, ⟨fun q => ⟨(ho1 q).trans rfl, by rw [if_pos hq.2]⟩, fun q => absurd hq.1 q⟩, by omega, ?_, rfl⟩
                 have h4 := PO_fail (F := pFail) h11 (fun _ => rfl)
                 rw [show stP pFail p1 f = pFail p1 by unfold stP; rw [if_pos hq.1]] at h4
                 exact PO.seq0 hz0 h1 (fun _ => hq.1) (fun q => rfl) h4)
              | (refine ⟨_, rfl, _, m1, a1, p1, f, rfl, hma1, hmm, ⟨fun q => ?_, fun q => ⟨(ho2 q).1, (ho2 q).2, rfl⟩⟩, hpp, h1, rfl⟩
                 have hne : tk b n p1 ≠ key := by
                   intro z
                   rcases hx27 with q2 | q2 <;> omega
                 refine ⟨by rw [ho1 q, opn_n hne], ?_⟩
                 rw [if_neg hne]
                 exact q)
        · refine q_aload_n (t := 16) F dX4_openAll_15 rfl rfl rfl ?_
          refine wp_callV (t := 19) [] F dX4_openAll_16 k_X4_advance v_X4_advance ml_X4_34 rfl rfl rfl rfl (Nat.le_of_ble_eq_true rfl) (by decide) (m_14 (by omega)) (c_adv _ G im1 bt j lm b n hb p1 f h11) rfl (kV ?_)
          rintro m' ⟨im3, h3, rfl⟩
          refine q_iinc (t := 22) F dX4_openAll_19 rfl (by decide) rfl rfl ?_
          refine q_goto (t := 2) F dX4_openAll_22 (by decide) ?_
          have hq : f = -1 ∧ tk b n p1 = key := by
            rcases hx9 with q | q
            · omega
            · omega
          have hlt : p1 < n := tk_lt (b := b) (by omega)
          have ha := adv_in (b := b) hlt
          obtain ⟨m3, rfl⟩ : ∃ m3, m1 = m3 + 1 := ⟨m1 - 1, by omega⟩
          rw [show (a1 : Int) + 1 = ((a1 + 1 : Nat) : Int) by omega]
          exact ih2 m3 (a1 + 1) (adv b n p1) im3 (by omega) (by omega) (by omega) (fun q => by rw [ho1 q, opn_y hq.2]) (fun q => absurd hq.1 q) (by omega) (PO.seq0 (r2 := (adv b n p1, f, [], fun _ => 0)) hz0 h1 (fun q => q) (fun _ => rfl) (h3 hlt))
  exact L2 _ m a p im (Nat.lt_succ_self _) hma (Nat.le_refl _) (fun _ => rfl) (fun _ => ⟨rfl, rfl⟩) (by omega) (PO_id h)
