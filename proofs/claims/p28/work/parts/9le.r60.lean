/-! BOTH: plan -/

def PB (S : IM) : Prop := (∀ p : Nat, (p : Int) < S 30 0 12 → 0 ≤ S 35 0 p ∧ S 35 0 p < 10) ∧ ∀ q : Nat, (q : Int) < 10 * S 30 0 12 → S 36 0 q ≠ -1 → 0 ≤ S 37 0 q ∧ S 37 0 q ≤ 1000
theorem go1 (T : Nat → (Nat → Int) → Int) (k nb w a g h : Int) : goK T k nb w a g h 1 = if w ≠ -1 ∧ hoK T k nb w g (h + ((0 : Nat) : Int)) (a + ((0 : Nat) : Int) + 1) ≤ a + ((0 : Nat) : Int) + 1 then ((0 : Nat) : Int) else -1 := by
  rw [show (1 : Nat) = 0 + 1 from rfl, goK_s, goK_0, if_pos rfl]
theorem off_w {w : Nat} {C S : IM} (h : RW w C S) {p g : Nat} (hp : (p : Int) < S 30 0 12) (hg : g < 10) : (ofI S (10 * p + g) ↔ goesW C w p g 1 ≠ -1) ∧ (ofI S (10 * p + g) → be1 S (10 * p + g) = badP C w (10 * p + g)) := by
  obtain ⟨⟨a3, a4, a5⟩, hT, hP⟩ := h
  have q := hP p hp
  have q2 := q.2.2 g hg
  have e1 : (10 * p + g) / 10 = p := by omega
  have e2 : (10 * p + g) % 10 = g := by omega
  by_cases hw : S 36 0 (10 * p + g) = -1
  · have hw2 : C 22 (5 * w + p) g = -1 := q2.1.trans hw
    exact ⟨⟨fun z => absurd hw z.1, fun z => absurd (goesW_none hw2) z⟩, fun z => absurd hw z.1⟩
  · have ag := q2.2 (by rw [q2.1]; exact hw)
    have eh : ho1 S (10 * p + g) = hoK (TR S) (S 34 0 p) (S 35 0 p) (S 36 0 (10 * p + g)) (g : Int) (S 30 0 7 + ((0 : Nat) : Int)) (S 37 0 (10 * p + g) + ((0 : Nat) : Int) + 1) := by
      unfold ho1
      rw [e1, e2, show S 30 0 7 + ((0 : Nat) : Int) = S 30 0 7 by omega, show S 37 0 (10 * p + g) + ((0 : Nat) : Int) + 1 = S 37 0 (10 * p + g) + 1 by omega]
      rfl
    have eg : goesW C w p g 1 = if ho1 S (10 * p + g) ≤ S 37 0 (10 * p + g) + 1 then 0 else -1 := by
      unfold goesW
      rw [goK_c (T' := TR S) (fun nm => hT 1 (by omega) nm), go1, q.1, q.2.1, ag, q2.1, a4, ← eh]
      by_cases z : ho1 S (10 * p + g) ≤ S 37 0 (10 * p + g) + 1
      · rw [if_pos ⟨hw, by omega⟩, if_pos z]
        rfl
      · rw [if_neg (fun y => z (by omega)), if_neg z]
    refine ⟨⟨fun z => ?_, fun z => ⟨hw, ?_⟩⟩, fun z => ?_⟩
    · rw [eg, if_pos z.2]
      decide
    · refine Decidable.byContradiction fun y => z ?_
      rw [eg, if_neg y]
    · unfold be1 badP bearsW beK
      rw [e1, e2, hT 2 (by omega), q.1, q.2.1, ag, q2.1, a4, a5]
      show bearsK _ _ (TR S 2 _) _ = bearsK _ _ (TR S 2 _) _
      rw [show S 30 0 7 + 0 = S 30 0 7 by omega, show S 37 0 (10 * p + g) + 0 + 1 = S 37 0 (10 * p + g) + 1 by omega]
      rfl
theorem sh_w {w : Nat} {C S : IM} (h : RW w C S) {a : Int} (h6 : C 18 w 6 = bm (S 30 0 9 - a)) (N : Nat) (hN : (N : Int) ≤ 10 * S 30 0 12) : shP C w N = bm (shI S N - a) := by
  induction N with
  | zero => exact h6
  | succ N ih =>
    have o := off_w h (p := N / 10) (g := N % 10) (by omega) (by omega)
    rw [show 10 * (N / 10) + N % 10 = N by omega] at o
    show (if goesW C w (N / 10) (N % 10) 1 = -1 then shP C w N else bm (shP C w N + badP C w N)) = bm ((if ofI S N then bm (shI S N + be1 S N) else shI S N) - a)
    by_cases z : ofI S N
    · rw [if_neg (o.1.mp z), if_pos z, ih (by omega), o.2 z, bm_add, bm_sub]
      exact congrArg bm (by omega)
    · rw [if_pos (Decidable.byContradiction fun y => z (o.1.mpr y)), if_neg z]
      exact ih (by omega)
theorem RW_hr {w : Nat} {C S F : IM} {t : Int} (h : RW w C S) (hb : PB S) (h5 : 0 ≤ S 30 0 12 ∧ S 30 0 12 ≤ 5) (hL : LV S t (10 * S 30 0 12).toNat F) : RW w (up (pasM C w (10 * (C 18 w 3).toNat)) 18 w 4 (C 18 w 4 + 1)) (up F 30 0 7 (S 30 0 7 + 1)) ∧ PB (up F 30 0 7 (S 30 0 7 + 1)) := by
  have hh := h
  obtain ⟨⟨a3, a4, a5⟩, hT, hP⟩ := h
  have eN : 10 * (C 18 w 3).toNat = (10 * S 30 0 12).toNat := by omega
  have r : ∀ k s, ¬ (k = 30 ∧ s = 7) → up F 30 0 7 (S 30 0 7 + 1) k 0 s = F k 0 s := fun k s z => by rw [up_app, if_neg (by omega)]
  have ro : ∀ k s, ¬ (36 ≤ k ∧ k ≤ 39) → ¬ (k = 30 ∧ (s = 7 ∨ s = 9 ∨ 30 ≤ s ∧ s ≤ 33)) → up F 30 0 7 (S 30 0 7 + 1) k 0 s = S k 0 s := fun k s z1 z2 => by
    rw [r k s (by omega), hL.1 k 0 s z1 (by omega)]
  have eT : TR (up F 30 0 7 (S 30 0 7 + 1)) = TR S := TR_x (fun s => ro 31 s (by omega) (by omega)) (fun s => ro 32 s (by omega) (by omega)) (ro 30 4 (by omega) (by omega))
  rw [eN]
  have c18 : ∀ s, s ≠ 4 → s ≠ 6 → up (pasM C w (10 * S 30 0 12).toNat) 18 w 4 (C 18 w 4 + 1) 18 w s = C 18 w s := fun s z1 z2 => by
    rw [up_app, if_neg (by omega), pasM_18 _ _ _ z2]
  have ck : ∀ k i s, k ≠ 18 → k ≠ 22 → k ≠ 23 → up (pasM C w (10 * S 30 0 12).toNat) 18 w 4 (C 18 w 4 + 1) k i s = C k i s := fun k i s k1 k2 k3 => by
    rw [up_app, if_neg (by omega), pasM_k _ _ _ k2 k3 k1]
  have u : ∀ k i s, k ≠ 18 → up (pasM C w (10 * S 30 0 12).toNat) 18 w 4 (C 18 w 4 + 1) k i s = pasM C w (10 * S 30 0 12).toNat k i s := fun k i s z => by rw [up_app, if_neg (by omega)]
  have main : ∀ p : Nat, (p : Int) < S 30 0 12 → ∀ g, g < 10 → (pasM C w (10 * S 30 0 12).toNat 22 (5 * w + p) g = F 36 0 (10 * p + g) ∧ (F 36 0 (10 * p + g) ≠ -1 → pasM C w (10 * S 30 0 12).toNat 23 (5 * w + p) g = F 37 0 (10 * p + g))) ∧ (F 36 0 (10 * p + g) ≠ -1 → 0 ≤ F 37 0 (10 * p + g) ∧ F 37 0 (10 * p + g) ≤ 1000) := fun p hp g hg => by
    have q := hP p hp
    have q2 := q.2.2 g hg
    have of := off_w hh hp hg
    have l := hL.2.2.1 (10 * p + g) (by omega)
    rw [pasM_app, pasM_app, if_pos (show (22 = 22 ∨ 22 = 23) ∧ 5 * w ≤ 5 * w + p ∧ g < 10 ∧ 10 * (5 * w + p - 5 * w) + g < (10 * S 30 0 12).toNat by omega), if_pos (show (23 = 22 ∨ 23 = 23) ∧ 5 * w ≤ 5 * w + p ∧ g < 10 ∧ 10 * (5 * w + p - 5 * w) + g < (10 * S 30 0 12).toNat by omega), show 5 * w + p - 5 * w = p by omega]
    by_cases z : ofI S (10 * p + g)
    · have z2 := of.1.mp z
      rw [if_neg z2, if_neg z2, if_pos rfl, (l.1 z).1]
      exact ⟨⟨rfl, fun y => absurd rfl y⟩, fun y => absurd rfl y⟩
    · have z2 : goesW C w p g 1 = -1 := Decidable.byContradiction fun y => z (of.1.mpr y)
      have l2 := l.2 z
      rw [if_pos z2, if_pos z2, if_neg (by omega), if_pos rfl, l2.1]
      refine ⟨⟨q2.1, fun y => ?_⟩, fun y => ?_⟩
      · have b := hb.2 (10 * p + g) (by omega) y
        rw [l2.2.1 y, q2.2 (by rw [q2.1]; exact y)]
        exact bm_idd (by constructor <;> omega)
      · have b := hb.2 (10 * p + g) (by omega) y
        have i := ho1_in (im := S) (q := 10 * p + g) (by rw [show (10 * p + g) / 10 = p by omega]; exact hb.1 p hp)
        have nlt : ¬ ho1 S (10 * p + g) ≤ S 37 0 (10 * p + g) + 1 := fun x => z ⟨y, x⟩
        rw [l2.2.1 y]
        omega
  have e12 : up F 30 0 7 (S 30 0 7 + 1) 30 0 12 = S 30 0 12 := ro 30 12 (by omega) (by omega)
  refine ⟨⟨⟨?_, ?_, ?_⟩, fun part hp nm => ?_, fun p hp => ?_⟩, fun p hp => ?_, fun q hq hne => ?_⟩
  · rw [c18 3 (by omega) (by omega), e12]; exact a3
  · rw [up_app, if_pos ⟨rfl, rfl, rfl⟩, up_app, if_pos ⟨rfl, rfl, rfl⟩, a4]
  · rw [c18 5 (by omega) (by omega), ro 30 8 (by omega) (by omega)]; exact a5
  · rw [eT, c18 7 (by omega) (by omega), ← hT part hp nm]
    exact tellV_congr (fun s => ck 3 _ s (by omega) (by omega) (by omega)) (fun s => ck 4 _ s (by omega) (by omega) (by omega))
  · rw [e12] at hp
    have q := hP p hp
    rw [ck 21 _ 0 (by omega) (by omega) (by omega), ck 21 _ 1 (by omega) (by omega) (by omega), ro 34 p (by omega) (by omega), ro 35 p (by omega) (by omega)]
    refine ⟨q.1, q.2.1, fun g hg => ?_⟩
    rw [u 22 _ g (by omega), u 23 _ g (by omega), r 36 _ (by omega), r 37 _ (by omega)]
    have m := (main p hp g hg).1
    exact ⟨m.1, fun y => m.2 (by rw [← m.1]; exact y)⟩
  · rw [e12] at hp
    rw [ro 35 p (by omega) (by omega)]
    exact hb.1 p hp
  · rw [e12] at hq
    rw [r 36 q (by omega)] at hne
    rw [r 37 q (by omega)]
    have m := (main (q / 10) (by omega) (q % 10) (by omega)).2
    rw [show 10 * (q / 10) + q % 10 = q by omega] at m
    exact m hne
theorem RW_out {w : Nat} {C R : IM} (h : RW w C R) (p g : Nat) (hg : g < 10) : RW w (up C 22 (5 * w + p) g (-1)) (up R 36 0 (10 * p + g) (-1)) := by
  obtain ⟨hN, hT, hP⟩ := h
  have c : ∀ k i s, k ≠ 22 → up C 22 (5 * w + p) g (-1) k i s = C k i s := fun k i s k1 => by rw [up_app, if_neg (by omega)]
  have r : ∀ k s, k ≠ 36 → up R 36 0 (10 * p + g) (-1) k 0 s = R k 0 s := fun k s k1 => by rw [up_app, if_neg (by omega)]
  have eT : TR (up R 36 0 (10 * p + g) (-1)) = TR R := TR_x (fun s => r 31 s (by omega)) (fun s => r 32 s (by omega)) (r 30 4 (by omega))
  refine ⟨hN, fun part hp nm => ?_, fun m hm => ?_⟩
  · rw [eT, c 18 w 7 (by omega), ← hT part hp nm]
    exact tellV_congr (fun s => c 3 _ s (by omega)) (fun s => c 4 _ s (by omega))
  · have q := hP m hm
    rw [c 21 _ 0 (by omega), c 21 _ 1 (by omega), r 34 m (by omega), r 35 m (by omega)]
    refine ⟨q.1, q.2.1, fun i hi => ?_⟩
    have q2 := q.2.2 i hi
    rw [c 23 _ _ (by omega), r 37 _ (by omega), up_app, up_app]
    by_cases z : m = p ∧ i = g
    · rw [if_pos (by omega), if_pos (by omega)]
      exact ⟨rfl, fun y => absurd rfl y⟩
    · rw [if_neg (by omega), if_neg (by omega)]
      exact q2
theorem RW_hnd {w : Nat} {C R : IM} (h : RW w C R) {pn qn : Nat} (hp : (pn : Int) < R 30 0 12) (hq : (qn : Int) < R 30 0 12) (hpq : pn ≠ qn) : RW w (hnd C (5 * w + pn) (5 * w + qn) 10) (hnR R pn qn 10) := by
  obtain ⟨hN, hT, hP⟩ := h
  have c : ∀ k i s, k ≠ 22 → k ≠ 23 → hnd C (5 * w + pn) (5 * w + qn) 10 k i s = C k i s := fun k i s k1 k2 => hnd_k _ _ _ _ k1 k2 _ _
  have r : ∀ k s, k ≠ 36 → k ≠ 37 → hnR R pn qn 10 k 0 s = R k 0 s := fun k s k1 k2 => by
    unfold hnR
    rw [if_neg (by omega), if_neg (by omega)]
  have eT : TR (hnR R pn qn 10) = TR R := TR_x (fun s => r 31 s (by omega) (by omega)) (fun s => r 32 s (by omega) (by omega)) (r 30 4 (by omega) (by omega))
  obtain ⟨n3, n4, n5⟩ := hN
  refine ⟨⟨by rw [c 18 w 3 (by omega) (by omega)]; exact n3, by rw [c 18 w 4 (by omega) (by omega)]; exact n4, by rw [c 18 w 5 (by omega) (by omega)]; exact n5⟩, fun part hp nm => ?_, fun m hm => ?_⟩
  · rw [eT, c 18 w 7 (by omega) (by omega), ← hT part hp nm]
    exact tellV_congr (fun s => c 3 _ s (by omega) (by omega)) (fun s => c 4 _ s (by omega) (by omega))
  · have hm : (m : Int) < R 30 0 12 := hm
    have q := hP m hm
    have rp := hP pn hp
    have rq := hP qn hq
    rw [c 21 _ 0 (by omega) (by omega), c 21 _ 1 (by omega) (by omega), r 34 m (by omega) (by omega), r 35 m (by omega) (by omega)]
    refine ⟨q.1, q.2.1, fun g hg => ?_⟩
    have r2 := q.2.2 g hg
    have p2 := rp.2.2 g hg
    have q2 := rq.2.2 g hg
    unfold hnd hnR
    rw [show (10 * m + g) % 10 = g by omega, show (10 * m + g) / 10 = m by omega, p2.1, q2.1]
    by_cases z : R 36 0 (10 * pn + g) ≠ -1 ∧ R 36 0 (10 * qn + g) = -1
    · rw [if_pos (show g < 10 ∧ R 36 0 (10 * pn + g) ≠ -1 ∧ R 36 0 (10 * qn + g) = -1 from ⟨hg, z⟩), if_pos (show g < 10 ∧ R 36 0 (10 * pn + g) ≠ -1 ∧ R 36 0 (10 * qn + g) = -1 from ⟨hg, z⟩)]
      by_cases mq : m = qn
      · subst mq
        rw [if_pos ⟨rfl, rfl⟩, if_pos ⟨Or.inl rfl, rfl, rfl, hg, z⟩, if_pos rfl, if_neg (by omega), if_neg (by omega), if_pos ⟨rfl, rfl⟩, if_pos ⟨Or.inr rfl, rfl, rfl, hg, z⟩, if_neg (by omega)]
        exact ⟨rfl, fun _ => rfl⟩
      · rw [if_neg (by omega)]
        by_cases mp : m = pn
        · subst mp
          rw [if_pos ⟨rfl, rfl⟩, if_neg (by omega), if_pos ⟨rfl, rfl, rfl, hg, z⟩]
          exact ⟨rfl, fun y => absurd rfl y⟩
        · rw [if_neg (by omega), if_neg (by omega), if_neg (by omega), if_neg (by omega), if_neg (by omega), if_neg (by omega), if_neg (by omega), if_neg (by omega), if_neg (by omega)]
          exact r2
    · rw [if_neg (fun y => z y.2), if_neg (fun y => z y.2.2.2.2), if_neg (fun y => z y.2.2.2.2), if_neg (fun y => z y.2), if_neg (fun y => z y.2.2.2.2), if_neg (fun y => z y.2.2.2.2)]
      exact r2
theorem PB_Y {S S1 : IM} (h : PB S) (ha : agY S1 S) : PB S1 := by
  have e : S1 30 0 12 = S 30 0 12 := ha 30 0 12 (by omega)
  refine ⟨fun p hp => ?_, fun q hq hne => ?_⟩
  · rw [e] at hp
    rw [ha 35 0 p (by omega)]
    exact h.1 p hp
  · rw [e] at hq
    rw [ha 36 0 q (by omega)] at hne
    rw [ha 37 0 q (by omega)]
    exact h.2 q hq hne
/-- step by step the plan is the same -/
theorem pl_eq {C R : IM} (h : REL C R) {s : Nat} (hs : s < 4) (h47 : R 47 0 s = 1) (ok : okP R s) : ∀ (k : Nat) (S : IM), (k : Int) ≤ R 49 0 s / 4 → plS R s k S → RW 1 (plM C s k) S ∧ plM C s k 18 1 6 = bm (S 30 0 9 - R 30 0 9) ∧ S 30 0 12 = R 30 0 12 ∧ PB S := by
  have h5 := h.h5
  have hRC := h.RC.1
  have hsz := h.1.2.2.2.2.2.2.2.2.1 s hs
  have e8 : R 49 0 s = C 7 s 2 ∧ ∀ i : Nat, (i : Int) < C 7 s 2 → C 8 s i = R 50 0 (40 * s + i) := by
    rcases h.2.2.2.2.2.2.2.2.2 s hs with ⟨a, b⟩ | ⟨a, b, c, d, e⟩
    · exact absurd h47 (by omega)
    · exact ⟨d, e⟩
  intro k
  induction k with
  | zero =>
    intro S _ ha
    have ha : agY S (asideI R) := ha
    have hC : agC S R := by
      have c1 := ha.O.C.1
      have c2 := asideI_C R
      obtain ⟨x, x3, x4, x6, x8, x12⟩ := c1
      obtain ⟨y, y3, y4, y6, y8, y12⟩ := c2
      exact ⟨fun k s u v => (x k s u v).trans (y k s u v), x3.trans y3, x4.trans y4, x6.trans y6, x8.trans y8, x12.trans y12⟩
    have e7 : S 30 0 7 = R 30 0 7 := (ha 30 0 7 (by omega)).trans rfl
    have e9 : S 30 0 9 = R 30 0 9 := (ha 30 0 9 (by omega)).trans rfl
    have e12 : S 30 0 12 = R 30 0 12 := hC.2.2.2.2.2
    have hw := RW_1 h hC e7
    have c : ∀ k i s, ¬ (k = 18 ∧ i = 1 ∧ s = 6) → plM C s 0 k i s = becM C 1 0 k i s := fun k i s z => by
      show up (becM C 1 0) 18 1 6 0 k i s = _
      rw [up_app, if_neg z]
    refine ⟨⟨hw.1, fun part hp nm => ?_, hw.2.2⟩, ?_, e12, fun p hp => ?_, fun q hq hne => ?_⟩
    · rw [← hw.2.1 part hp nm]
      exact tellV_congr (fun s => rfl) (fun s => rfl)
    · show up (becM C 1 0) 18 1 6 0 18 1 6 = _
      rw [up_app, if_pos ⟨rfl, rfl, rfl⟩, e9, Int.sub_self]
      rfl
    · rw [e12] at hp
      rw [hC.1 35 p (by omega) (by omega)]
      exact (hRC.2.2.2.2.2.2 p hp).2.1
    · rw [e12] at hq
      rw [hC.1 36 q (by omega) (by omega)] at hne
      rw [hC.1 37 q (by omega) (by omega)]
      have x := (hRC.2.2.2.2.2.2 (q / 10) (by omega)).2.2 (q % 10) (by omega)
      rw [show 10 * (q / 10) + q % 10 = q by omega] at x
      have y := h.2.2.2.1 q hq hne
      exact ⟨(x.2.2 hne).1, y⟩
  | succ k ih =>
    rintro S hk ⟨S0, hpl, ha⟩
    obtain ⟨hw, h6, e12, hb⟩ := ih S0 (by omega) hpl
    have hst := ok.2 k (by omega)
    have hC0 := e8.2 (4 * k) (by omega)
    have hC1 := e8.2 (4 * k + 1) (by omega)
    have hC2 := e8.2 (4 * k + 2) (by omega)
    have hC3 := e8.2 (4 * k + 3) (by omega)
    rw [show 40 * s + (4 * k + 1) = 40 * s + 4 * k + 1 by omega] at hC1
    rw [show 40 * s + (4 * k + 2) = 40 * s + 4 * k + 2 by omega] at hC2
    rw [show 40 * s + (4 * k + 3) = 40 * s + 4 * k + 3 by omega] at hC3
    rw [plM_s, hC0, hC1, hC2, hC3]
    generalize R 50 0 (40 * s + 4 * k) = act at *
    generalize R 50 0 (40 * s + 4 * k + 1) = who at *
    generalize R 50 0 (40 * s + 4 * k + 2) = f at *
    generalize R 50 0 (40 * s + 4 * k + 3) = g at *
    have hq : act = 3 ∨ (act = 0 ∨ act = 1 ∨ act = 2) := by
      unfold stepB at hst
      (repeat' split at hst) <;> omega
    have e12b : S 30 0 12 = tkR S0 act who f g ((4 * k : Nat) : Int) 30 0 12 := ha 30 0 12 (by omega)
    have e9b : S 30 0 9 = tkR S0 act who f g ((4 * k : Nat) : Int) 30 0 9 := ha 30 0 9 (by omega)
    have goal : ∀ X Y, takM (plM C s k) act who f g = X → tkR S0 act who f g ((4 * k : Nat) : Int) = Y → RW 1 X Y → X 18 1 6 = bm (Y 30 0 9 - R 30 0 9) → Y 30 0 12 = R 30 0 12 → PB Y → RW 1 (takM (plM C s k) act who f g) S ∧ takM (plM C s k) act who f g 18 1 6 = bm (S 30 0 9 - R 30 0 9) ∧ S 30 0 12 = R 30 0 12 ∧ PB S := by
      intro X Y hX hY g1 g2 g3 g4
      rw [hY] at ha e12b e9b
      rw [hX, e9b, e12b]
      exact ⟨g1.Y ha, g2, g3, PB_Y g4 ha⟩
    rcases hq with q | q | q | q
    · have hL := LV_N S0 (t := ((4 * k : Nat) : Int)) (by omega) (10 * S0 30 0 12).toNat
      have r := RW_hr hw hb (by rw [e12]; exact h5) hL
      have eN : 10 * (plM C s k 18 1 3).toNat = (10 * S0 30 0 12).toNat := by
        have := hw.1.1
        omega
      refine goal _ _ (by unfold takM; rw [if_neg (by omega), if_neg (by omega), if_neg (by omega)]) (by unfold tkR; rw [if_neg (by omega), if_neg (by omega), if_neg (by omega)]) r.1 ?_ ?_ r.2
      · rw [up_app, if_neg (by omega), pasM_sh, eN, sh_w hw h6 _ (by omega), up_app, if_neg (by omega), hL.2.2.2.1]
      · rw [up_app, if_neg (by omega), hL.1 30 0 12 (by omega) (by omega)]
        exact e12
    · have hv : (0 ≤ who ∧ who < R 30 0 12) := by
        unfold stepB at hst
        (repeat' split at hst) <;> omega
      have hu := utR_in (im := S0) (p := who.toNat) (w := f) (fd := g)
      have r := RW_utt hw (p := who.toNat) (by omega) f g
      refine goal _ _ (by unfold takM; rw [if_pos q]) (by unfold tkR; rw [if_pos q]) r ?_ ?_ ?_
      · have e1 : uttM (plM C s k) 1 who.toNat f g 18 1 6 = plM C s k 18 1 6 := by
          unfold uttM
          split
          · rfl
          · rw [up_app, if_neg (by omega), up_app, if_neg (by omega)]
        have e2 : spR S0 S0 who.toNat f g 30 0 9 = S0 30 0 9 := by
          unfold spR
          split
          · rfl
          · rw [up_app, if_neg (by omega), up_app, if_neg (by omega)]
        rw [e1, e2]
        exact h6
      · unfold spR
        split
        · exact e12
        · rw [up_app, if_neg (by omega), up_app, if_neg (by omega)]
          exact e12
      · unfold spR
        split
        · exact hb
        · refine ⟨hb.1, fun m hm hne => ?_⟩
          have hm : (m : Int) < 10 * S0 30 0 12 := hm
          rw [up_app]
          split
          · omega
          · rename_i z
            rw [up_app, if_neg (by omega), up_app, if_neg (by omega)] at hne
            rw [up_app, if_neg (by omega)]
            exact hb.2 m hm hne
    · have hv : (0 ≤ who ∧ who < R 30 0 12) ∧ 0 ≤ f ∧ f < 10 := by
        unfold stepB at hst
        (repeat' split at hst) <;> omega
      refine goal _ _ (by unfold takM; rw [if_neg (by omega), if_pos q]) (by unfold tkR; rw [if_neg (by omega), if_pos q]) (RW_out hw who.toNat f.toNat (by omega)) h6 e12 ⟨hb.1, fun m hm hne => ?_⟩
      have hm : (m : Int) < 10 * S0 30 0 12 := hm
      rw [up_app] at hne
      rw [up_app, if_neg (by omega)]
      split at hne
      · exact absurd rfl hne
      · exact hb.2 m hm hne
    · have hv : (0 ≤ who ∧ who < R 30 0 12) ∧ (0 ≤ f ∧ f < R 30 0 12) ∧ f ≠ who := by
        unfold stepB at hst
        (repeat' split at hst) <;> omega
      refine goal _ _ (by unfold takM; rw [if_neg (by omega), if_neg (by omega), if_pos q]) (by unfold tkR; rw [if_neg (by omega), if_neg (by omega), if_pos q]) (RW_hnd hw (pn := who.toNat) (qn := f.toNat) (by omega) (by omega) (by omega)) ?_ ?_ ⟨fun p hp => ?_, fun m hm hne => ?_⟩
      · rw [hnd_k _ _ _ _ (by omega) (by omega)]
        exact h6
      · exact e12
      · exact hb.1 p hp
      · have hm : (m : Int) < 10 * S0 30 0 12 := hm
        have g9 := hb.2 m hm
        unfold hnR at hne ⊢
        (repeat' split at hne) <;> (repeat' split) <;> first | omega | (exfalso; omega) | exact g9 hne
theorem cntA_w {C S : IM} (h : RW 1 C S) (n : Nat) (hn : (n : Int) ≤ S 30 0 12) : cntA C 1 n = alR S n := by
  induction n with
  | zero => rfl
  | succ n ih =>
    show cntA C 1 n + cntW (C 22 (5 * 1 + n)) 10 = alR S n + cntW (stR S n) 10
    rw [ih (by omega), h.cnt (by omega)]
theorem ok_eq {C R : IM} (h : REL C R) {s : Nat} (hs : s < 4) (h47 : R 47 0 s = 1) : okA C s ↔ okP R s := by
  have a3 := h.2.2.2.2.1.1
  have hsz := h.1.2.2.2.2.2.2.2.2.1 s hs
  have e8 : R 49 0 s = C 7 s 2 ∧ ∀ i : Nat, (i : Int) < C 7 s 2 → C 8 s i = R 50 0 (40 * s + i) := by
    rcases h.2.2.2.2.2.2.2.2.2 s hs with ⟨a, b⟩ | ⟨a, b, c, d, e⟩
    · exact absurd h47 (by omega)
    · exact ⟨d, e⟩
  unfold okA okP
  rw [e8.1]
  have e : ∀ k : Nat, k < (C 7 s 2 / 4).toNat → stepB (C 18 0 3) (C 8 s (4 * k)) (C 8 s (4 * k + 1)) (C 8 s (4 * k + 2)) (C 8 s (4 * k + 3)) = stepB (R 30 0 12) (R 50 0 (40 * s + 4 * k)) (R 50 0 (40 * s + 4 * k + 1)) (R 50 0 (40 * s + 4 * k + 2)) (R 50 0 (40 * s + 4 * k + 3)) := fun k hk => by
    rw [a3, e8.2 (4 * k) (by omega), e8.2 (4 * k + 1) (by omega), e8.2 (4 * k + 2) (by omega), e8.2 (4 * k + 3) (by omega), show 40 * s + (4 * k + 1) = 40 * s + 4 * k + 1 by omega, show 40 * s + (4 * k + 2) = 40 * s + 4 * k + 2 by omega, show 40 * s + (4 * k + 3) = 40 * s + 4 * k + 3 by omega]
  constructor
  · rintro ⟨x, y⟩
    exact ⟨x, fun k hk => by rw [← e k hk]; exact y k hk⟩
  · rintro ⟨x, y⟩
    exact ⟨x, fun k hk => by rw [e k hk]; exact y k hk⟩

theorem s_plan (l : Launch) (G : GS) {C R : IM} (h : REL C R) (bt rt : Nat) (lm : IM) (s : Int) (w : Int) (hs : ri s) (hw : ri w) : Cn l (XR G) yX9_plan Y_X9_plan [vR 30 0, vI s, vI w] (R, rs bt rt, lm) (pI fun y m' => ∃ im2 lm2, REL (C) im2 ∧ (y = planA C s w ∧ ri y) ∧ m' = (im2, rs bt rt, lm2)) := by
  obtain ⟨hRC, h79, hSH⟩ := h.RC
  have hAG := h.2.2.2.1
  have h5 := h.h5
  obtain ⟨a3, a4, a5, a6, a7⟩ := h.2.2.2.2.1
  have hRi := h.2.1
  refine (c_X9_plan l G R bt rt lm hRC hAG h79 hSH s w hs hw).mono ?_
  rintro r m' ⟨y, hr, im2, lm2, h1, h2, hR2, ha, -, rfl⟩
  have e2 : y = planA C s w ∧ ri y := by
    unfold planA
    by_cases ok : ((0 : Int) ≤ s ∧ (s : Int) ≤ 3) ∧ 0 ≤ w ∧ w ≤ 1
    · obtain ⟨g1, g2, g3⟩ := h2 ok
      have hj := (hSH s.toNat (by omega)).1
      have hsz := h.1.2.2.2.2.2.2.2.2.1 s.toNat (by omega)
      rw [if_pos (show (0 ≤ s ∧ s < 4) ∧ 0 ≤ w ∧ w < 2 by omega)]
      rcases h.2.2.2.2.2.2.2.2.2 s.toNat (by omega) with ⟨a, b⟩ | ⟨a, b, c, d, e⟩
      · rw [if_pos a, g1 b]
        exact ⟨rfl, by constructor <;> omega⟩
      · rw [if_neg a]
        have eo := ok_eq h (s := s.toNat) (by omega) b
        by_cases o2 : okP R s.toNat
        · obtain ⟨S, hpl, ey⟩ := g3 b o2
          have g := pl_eq h (s := s.toNat) (by omega) b o2 (R 49 0 s.toNat / 4).toNat S (by omega) hpl
          rw [if_pos (eo.mpr o2), ey, ← d, g.2.1]
          have ec := cntA_w g.1 (R 30 0 12).toNat (by rw [g.2.2.1]; omega)
          rw [a3, ec]
          have hal := alR_in S (R 30 0 12).toNat
          refine ⟨rfl, ?_⟩
          split
          · exact ri_b _
          · constructor <;> omega
        · rw [if_neg (fun z => o2 (eo.mp z)), g2 b o2]
          exact ⟨rfl, by constructor <;> omega⟩
    · rw [if_neg (show ¬ ((0 ≤ s ∧ s < 4) ∧ 0 ≤ w ∧ w < 2) by omega), h1 ok]
      exact ⟨rfl, by constructor <;> omega⟩
  exact ⟨y, hr, im2, lm2, h.S ha hR2, e2, rfl⟩
