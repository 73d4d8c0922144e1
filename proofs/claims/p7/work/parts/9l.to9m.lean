section
/-! BOTH: the answers too -/

theorem told_eq {C R : IM} (h : REL C R) (p w : Int) : toldA C p w = tdR R p w := by
  have h5 := h.h5
  obtain ⟨a3, a4, a5, a6, a7⟩ := h.2.2.2.2.1
  have hPe := h.2.2.2.2.2.1
  unfold toldA tdR
  by_cases w0 : w = 0
  · rw [if_pos w0, if_pos (by omega), if_pos w0]; exact a4
  · rw [if_neg w0]
    by_cases w1 : w = 1
    · rw [if_pos w1, if_pos (by omega), if_neg w0, if_pos w1]; exact a5
    · rw [if_neg w1]
      by_cases hp : 0 ≤ p ∧ p < R 30 0 12
      · have q := hPe p.toNat (by omega)
        rw [if_pos (show 0 ≤ p ∧ p < C 18 0 3 by omega)]
        by_cases w2 : w = 2
        · rw [if_pos w2, if_pos (by omega), if_neg w0, if_neg w1, if_pos w2]; exact q.2.1
        · rw [if_neg w2]
          by_cases w3 : w = 3
          · rw [if_pos w3, if_pos (by omega), if_neg w0, if_neg w1, if_neg w2, if_pos w3]; exact q.1
          · rw [if_neg w3]
            by_cases w4 : w = 4
            · rw [if_pos w4, if_pos (by omega), if_neg w0, if_neg w1, if_neg w2, if_neg w3, if_pos w4]; exact cnt_eq h (by omega)
            · rw [if_neg w4]
              by_cases w9 : w < 10 ∨ 39 < w
              · rw [if_pos w9, if_neg (by omega)]
              · rw [if_neg w9, if_pos (by omega), if_neg w0, if_neg w1, if_neg w2, if_neg w3, if_neg w4]
                have q2 := q.2.2 (w % 10).toNat (by omega)
                have hT : ∀ nm, tellV C (C 18 0 7).toNat 1 nm = sayR R (R 30 0 4).toNat 1 nm := fun nm => h.tell (by omega) nm
                unfold tgA hoR hoK
                rw [q.1, q.2.1, q2.1, a4, hT, show (10 * p.toNat + (w % 10).toNat) / 10 = p.toNat by omega, show (10 * p.toNat + (w % 10).toNat) % 10 = (w % 10).toNat by omega]
                by_cases e : R 36 0 (10 * p.toNat + (w % 10).toNat) = -1
                · rw [if_pos (Or.inr e), if_pos e]; exact e
                · have ag := q2.2 (by rw [q2.1]; exact e)
                  rw [if_neg e, ag]
                  by_cases s1 : w < 20
                  · rw [if_pos (Or.inl (by omega)), if_pos s1]
                  · rw [if_neg (by omega), if_neg s1]
                    by_cases s2 : w < 30
                    · rw [if_pos (by omega), if_pos s2]
                    · rw [if_neg (by omega), if_neg s2]
                      rfl
      · rw [if_neg (show ¬ (0 ≤ p ∧ p < C 18 0 3) by omega), if_neg (by omega)]
theorem hoR_in2 {R : IM} (h : RC R) {q : Nat} (hq : (q : Int) < 10 * R 30 0 12) : 1 ≤ hoR R q ∧ hoR R q ≤ 108 := hoR_in (h.2.2.2.2.2.2 (q / 10) (by omega)).2.1
theorem tdR_ri {R : IM} (h : RC R) (p w : Int) : ri (tdR R p w) := by
  have h12 := h.2.2.2.1
  have hc := fun p => cntW_in (stR R p) 10
  have hR := h.1
  unfold tdR
  split
  · rename_i z
    by_cases w4 : w ≤ 4
    · have := hc p.toNat
      (repeat' split) <;> first | exact hR _ _ _ | (constructor <;> omega)
    · have hq := hoR_in2 h (q := 10 * p.toNat + (w % 10).toNat) (by omega)
      (repeat' split) <;> first | exact hR _ _ _ | (constructor <;> omega)
  · constructor <;> omega
theorem set_eq {C R : IM} (h : REL C R) {w p v : Int} (ok : (w = 0 ∧ 0 ≤ v ∧ v ≤ 999) ∨ (w = 1 ∧ 0 ≤ v ∧ v ≤ 16777215) ∨ (w = 2 ∧ (0 ≤ p ∧ p < R 30 0 12) ∧ 0 ≤ v ∧ v ≤ 9)) : setA C w p v = tdR R p w := by
  have h5 := h.h5
  obtain ⟨a3, a4, a5, a6, a7⟩ := h.2.2.2.2.1
  have hPe := h.2.2.2.2.2.1
  unfold setA tdR
  rcases ok with ⟨rfl, v0, v1⟩ | ⟨rfl, v0, v1⟩ | ⟨rfl, o1, v0, v1⟩
  · rw [if_pos rfl, if_pos (by omega), if_pos (by omega), if_pos rfl]; exact a4
  · rw [if_neg (by omega), if_pos rfl, if_pos (by omega), if_pos (by omega), if_neg (by omega), if_pos rfl]; exact a5
  · rw [if_neg (by omega), if_neg (by omega), if_pos (by omega), if_pos (by omega), if_neg (by omega), if_neg (by omega), if_pos rfl]
    exact (hPe p.toNat (by omega)).2.1
theorem set_eq0 {C R : IM} (h : REL C R) {w p v : Int} (ok : ¬ ((w = 0 ∧ 0 ≤ v ∧ v ≤ 999) ∨ (w = 1 ∧ 0 ≤ v ∧ v ≤ 16777215) ∨ (w = 2 ∧ (0 ≤ p ∧ p < R 30 0 12) ∧ 0 ≤ v ∧ v ≤ 9))) : setA C w p v = -2 := by
  have a3 := h.2.2.2.2.1.1
  unfold setA
  (repeat' split) <;> first | rfl | (exfalso; omega)
theorem hnd_eq {C R : IM} (h : REL C R) {p q : Nat} (hp : (p : Int) < R 30 0 12) (hq : (q : Int) < R 30 0 12) (n : Nat) (hn : n ≤ 10) : hndN C (5 * 0 + p) (5 * 0 + q) n = hnN R p q n := by
  have hPe := h.2.2.2.2.2.1
  induction n with
  | zero => rfl
  | succ n ih =>
    show hndN C (5 * 0 + p) (5 * 0 + q) n + (if C 22 (5 * 0 + p) n ≠ -1 ∧ C 22 (5 * 0 + q) n = -1 then 1 else 0) = hnN R p q n + (if R 36 0 (10 * p + n) ≠ -1 ∧ R 36 0 (10 * q + n) = -1 then 1 else 0)
    rw [ih (by omega), ((hPe p hp).2.2 n (by omega)).1, ((hPe q hq).2.2 n (by omega)).1]
theorem cntA_eq {C R : IM} (h : REL C R) (n : Nat) (hn : (n : Int) ≤ R 30 0 12) : cntA C 0 n = alR R n := by
  induction n with
  | zero => rfl
  | succ n ih =>
    show cntA C 0 n + cntW (C 22 (5 * 0 + n)) 10 = alR R n + cntW (stR R n) 10
    rw [ih (by omega), cnt_eq h (by omega)]
theorem alR_in (R : IM) (n : Nat) : 0 ≤ alR R n ∧ alR R n ≤ 10 * n := by
  have := smF_in (f := fun p => cntW (stR R p) 10) (a := 0) (b := 10) (N := n) (fun p _ => by have := cntW_in (stR R p) 10; omega) (by omega) (by omega)
  show 0 ≤ smF (fun p => cntW (stR R p) 10) n ∧ smF (fun p => cntW (stR R p) 10) n ≤ 10 * n
  omega
theorem count_eq {C R : IM} (h : REL C R) (w : Int) : countA C w = cuR R w := by
  have h5 := h.h5
  obtain ⟨a3, a4, a5, a6, a7⟩ := h.2.2.2.2.1
  have t8 := h.2.2.2.2.2.2.1.1
  have t6 := h.2.2.2.2.2.2.2.1.1
  have ec := cntA_eq h (R 30 0 12).toNat (by omega)
  unfold countA cuR
  rw [a3, a6, a7, t8, t6, ec]
theorem cuR_ri {R : IM} (h : RC R) (w : Int) : ri (cuR R w) := by
  have := alR_in R (R 30 0 12).toNat
  have h12 := h.2.2.2.1
  have hR := h.1
  unfold cuR
  (repeat' split) <;> first | exact hR _ _ _ | (constructor <;> omega)
theorem fd_eq {C R : IM} (h : REL C R) {p : Nat} (hp : (p : Int) < R 30 0 12) (w : Int) {g : Int} (hg : 0 ≤ g ∧ g ≤ 9) (n : Nat) : fdR R p w g n = (if C 22 (5 * 0 + p) g.toNat = -1 then fdF C p w g n else 0) := by
  have q2 := ((h.2.2.2.2.2.1 p hp).2.2 g.toNat (by omega)).1
  induction n with
  | zero =>
    show 0 = if _ then 0 else 0
    split <;> rfl
  | succ n ih =>
    have e := (ut_eq h hp w (n : Int)).1
    rw [fdR_s, fdF_s, ih, e]
    have hu : utR R p w n = g ↔ (gpR R p w n = g ∧ C 22 (5 * 0 + p) g.toNat = -1) := by
      unfold utR
      constructor
      · intro z
        split at z
        · rename_i y
          rw [z] at y
          exact ⟨z, by rw [q2]; exact y.2⟩
        · omega
      · rintro ⟨z1, z2⟩
        rw [q2] at z2
        rw [if_pos (by rw [z1]; exact ⟨hg.1, z2⟩)]
        exact z1
    by_cases c : C 22 (5 * 0 + p) g.toNat = -1
    · rw [if_pos c, if_pos c]
      by_cases z : gpR R p w n = g
      · rw [if_pos (hu.mpr ⟨z, c⟩), if_pos z]
      · rw [if_neg (fun y => z (hu.mp y).1), if_neg z]
    · rw [if_neg c, if_neg c, if_neg (fun y => c (hu.mp y).2)]
theorem fdR_lt (R : IM) (p : Nat) (w g : Int) (n : Nat) (hn : n ≤ 10) : fdR R p w g n < 2 ^ n := by
  induction n with
  | zero => show 0 < 2 ^ 0; decide
  | succ n ih =>
    have := or_lt (ih (by omega))
    rw [fdR_s]
    split
    · exact this.1
    · have h2 := this.2
      rw [Nat.or_zero] at h2
      exact h2
theorem dB_eq {C R : IM} (h : REL C R) (n N : Nat) : dB (costF C 0 n) N = dB (costR R n) N := by
  have e : costF C 0 n = costR R n := funext fun q => cost_eq h n q
  rw [e]
theorem fw_ri (S : Int) (c : Nat → Int) (e : Int) : ri (fwB S c e 1024) := by
  have := fwB_in S c e 1024
  constructor <;> omega

theorem s_sheet (l : Launch) (G : GS) {C R : IM} (h : REL C R) (bt rt : Nat) (lm : IM) (s : Int) (t : Int) (n : Int) (hs : ri s) (ht : ri t) (hn : ri n) : Cn l (XR G) yX9_sheet Y_X9_sheet [vR 30 0, vI s, vI t, vI n] (R, rs bt rt, lm) (pI fun y m' => ∃ im2 lm2, REL (sheetM C s t n) im2 ∧ (y = sheetA s t n ∧ ri y) ∧ m' = (im2, rs bt rt, lm2)) := by
  refine (q_sheet l G h bt rt lm s t n hs ht hn).mono ?_
  rintro r m' ⟨y, hr, im2, lm2, h2, e, rfl⟩
  exact ⟨y, hr, im2, lm2, h2, ⟨e, by rw [e]; unfold sheetA; (repeat' split) <;> (constructor <;> omega)⟩, rfl⟩
theorem s_told (l : Launch) (G : GS) {C R : IM} (h : REL C R) (bt rt : Nat) (lm : IM) (p : Int) (w : Int) (hp : ri p) (hw : ri w) : Cn l (XR G) yX9_told Y_X9_told [vR 30 0, vI p, vI w] (R, rs bt rt, lm) (pI fun y m' => ∃ im2 lm2, REL (C) im2 ∧ (y = toldA C p w ∧ ri y) ∧ m' = (im2, rs bt rt, lm2)) := by
  obtain ⟨hRC, h79, hSH⟩ := h.RC
  have hAG := h.2.2.2.1
  have h5 := h.h5
  obtain ⟨a3, a4, a5, a6, a7⟩ := h.2.2.2.2.1
  have hRi := h.2.1
  refine (c_X9_told l G R bt rt lm hRC p w hp hw).mono ?_
  rintro r m' ⟨y, hr, im2, lm2, e, hR2, ha, -, rfl⟩
  exact ⟨y, hr, im2, lm2, h.S ha.O.S hR2, ⟨by rw [told_eq h]; exact e, by rw [e]; exact tdR_ri hRC p w⟩, rfl⟩
theorem s_set (l : Launch) (G : GS) {C R : IM} (h : REL C R) (bt rt : Nat) (lm : IM) (w : Int) (p : Int) (v : Int) (hw : ri w) (hp : ri p) (hv : ri v) : Cn l (XR G) yX9_set Y_X9_set [vR 30 0, vI w, vI p, vI v] (R, rs bt rt, lm) (pI fun y m' => ∃ im2 lm2, REL (setM C w p v) im2 ∧ (y = setA C w p v ∧ ri y) ∧ m' = (im2, rs bt rt, lm2)) := by
  obtain ⟨hRC, h79, hSH⟩ := h.RC
  have hAG := h.2.2.2.1
  have h5 := h.h5
  obtain ⟨a3, a4, a5, a6, a7⟩ := h.2.2.2.2.1
  have hRi := h.2.1
  refine (c_X9_set l G R bt rt lm hRC w p v hw hp hv).mono ?_
  rintro r m' ⟨y, hr, h1, h2⟩
  by_cases ok : (w = 0 ∧ 0 ≤ v ∧ v ≤ 999) ∨ (w = 1 ∧ 0 ≤ v ∧ v ≤ 16777215) ∨ (w = 2 ∧ (0 ≤ p ∧ p < R 30 0 12) ∧ 0 ≤ v ∧ v ≤ 9)
  · obtain ⟨im2, lm2, e, hR2, ha, -, rfl⟩ := h2 ok
    exact ⟨y, hr, _, lm2, (REL_set h hv ok).S (lyI_ag ha w p.toNat v).O.S (lyI_RI hR2 hv), ⟨by rw [set_eq h ok]; exact e, by rw [e]; exact tdR_ri hRC p w⟩, rfl⟩
  · obtain ⟨e, rfl⟩ := h1 ok
    exact ⟨y, hr, R, lm, by rw [REL_set0 h ok]; exact h, ⟨by rw [set_eq0 h ok]; exact e, by rw [e]; constructor <;> omega⟩, rfl⟩
theorem s_man (l : Launch) (G : GS) {C R : IM} (h : REL C R) (bt rt : Nat) (lm : IM) (a : Int) (c : Int) (ha : ri a) (hc : ri c) : Cn l (XR G) yX9_man Y_X9_man [vR 30 0, vI a, vI c] (R, rs bt rt, lm) (pI fun y m' => ∃ im2 lm2, REL (manM C a c) im2 ∧ (y = manA C a c ∧ ri y) ∧ m' = (im2, rs bt rt, lm2)) := by
  obtain ⟨hRC, h79, hSH⟩ := h.RC
  have hAG := h.2.2.2.1
  have h5 := h.h5
  obtain ⟨a3, a4, a5, a6, a7⟩ := h.2.2.2.2.1
  have hRi := h.2.1
  refine (c_manR l G R bt rt lm hRC a c ha hc).mono ?_
  rintro r m' ⟨y, hr, e, rfl⟩
  exact ⟨y, hr, _, lm, REL_man h ha hc, ⟨by rw [manA_eq h]; exact e, by rw [e]; have := mnA_in hRC a c; constructor <;> omega⟩, rfl⟩
theorem s_fill (l : Launch) (G : GS) {C R : IM} (h : REL C R) (bt rt : Nat) (lm : IM) (p : Int) (g : Int) (w : Int) (r0 : Int) (hp : ri p) (hg : ri g) (hw : ri w) (hr0 : ri r0) : Cn l (XR G) yX9_fill Y_X9_fill [vR 30 0, vI p, vI g, vI w, vI r0] (R, rs bt rt, lm) (pI fun y m' => ∃ im2 lm2, REL (fillM C p g w r0) im2 ∧ (y = fillA C p g w r0 ∧ ri y) ∧ m' = (im2, rs bt rt, lm2)) := by
  obtain ⟨hRC, h79, hSH⟩ := h.RC
  have hAG := h.2.2.2.1
  have h5 := h.h5
  obtain ⟨a3, a4, a5, a6, a7⟩ := h.2.2.2.2.1
  have hRi := h.2.1
  refine (c_X9_fill l G R bt rt lm hRC p g w r0 hp hg hw hr0).mono ?_
  rintro r m' ⟨y, hr, h1, h2⟩
  by_cases ok : (0 ≤ p ∧ p < R 30 0 12) ∧ (0 ≤ g ∧ g ≤ 9) ∧ (-1 ≤ w ∧ w ≤ 15) ∧ 0 ≤ r0 ∧ r0 ≤ 999
  · obtain ⟨e, rfl⟩ := h2 ok
    exact ⟨y, hr, _, lm, REL_fill h ok, ⟨by unfold fillA; rw [if_pos (by omega), ((h.2.2.2.2.2.1 p.toNat (by omega)).2.2 g.toNat (by omega)).1]; exact e, by rw [e]; exact hRi _ _ _⟩, rfl⟩
  · obtain ⟨e, rfl⟩ := h1 ok
    exact ⟨y, hr, R, lm, by rw [REL_fill0 h ok]; exact h, ⟨by unfold fillA; rw [if_neg (by omega)]; exact e, by rw [e]; constructor <;> omega⟩, rfl⟩
theorem s_floss (l : Launch) (G : GS) {C R : IM} (h : REL C R) (bt rt : Nat) (lm : IM) (p : Int) (g : Int) (hp : ri p) (hg : ri g) : Cn l (XR G) yX9_floss Y_X9_floss [vR 30 0, vI p, vI g] (R, rs bt rt, lm) (pI fun y m' => ∃ im2 lm2, REL (flossM C p g) im2 ∧ (y = flossA C p g ∧ ri y) ∧ m' = (im2, rs bt rt, lm2)) := by
  obtain ⟨hRC, h79, hSH⟩ := h.RC
  have hAG := h.2.2.2.1
  have h5 := h.h5
  obtain ⟨a3, a4, a5, a6, a7⟩ := h.2.2.2.2.1
  have hRi := h.2.1
  refine (c_X9_floss l G R bt rt lm hRC p g hp hg).mono ?_
  rintro r m' ⟨y, hr, h2, h1⟩
  by_cases ok : (0 ≤ p ∧ p < R 30 0 12) ∧ (0 ≤ g ∧ g ≤ 9)
  · obtain ⟨e, rfl⟩ := h2 ok
    exact ⟨y, hr, _, lm, REL_floss h ok, ⟨by unfold flossA; rw [if_pos (by omega), ((h.2.2.2.2.2.1 p.toNat (by omega)).2.2 g.toNat (by omega)).1]; exact e, by rw [e]; exact hRi _ _ _⟩, rfl⟩
  · obtain ⟨e, rfl⟩ := h1 ok
    exact ⟨y, hr, R, lm, by rw [REL_floss0 h ok]; exact h, ⟨by unfold flossA; rw [if_neg (by omega)]; exact e, by rw [e]; constructor <;> omega⟩, rfl⟩
theorem s_kiss (l : Launch) (G : GS) {C R : IM} (h : REL C R) (bt rt : Nat) (lm : IM) (p : Int) (q : Int) (hp : ri p) (hq : ri q) : Cn l (XR G) yX9_kiss Y_X9_kiss [vR 30 0, vI p, vI q] (R, rs bt rt, lm) (pI fun y m' => ∃ im2 lm2, REL (kissM C p q) im2 ∧ (y = kissA C p q ∧ ri y) ∧ m' = (im2, rs bt rt, lm2)) := by
  obtain ⟨hRC, h79, hSH⟩ := h.RC
  have hAG := h.2.2.2.1
  have h5 := h.h5
  obtain ⟨a3, a4, a5, a6, a7⟩ := h.2.2.2.2.1
  have hRi := h.2.1
  refine (c_X9_kiss l G R bt rt lm hRC p q hp hq).mono ?_
  rintro r m' ⟨y, hr, h2, h1⟩
  by_cases ok : (0 ≤ p ∧ p < R 30 0 12) ∧ (0 ≤ q ∧ q < R 30 0 12) ∧ p ≠ q
  · obtain ⟨e, rfl⟩ := h2 ok
    exact ⟨y, hr, _, lm, REL_kiss h ok, ⟨by unfold kissA; rw [if_pos (by omega), hnd_eq h (by omega) (by omega) 10 (by omega)]; exact e, by rw [e]; have := hnN_in R p.toNat q.toNat 10; constructor <;> omega⟩, rfl⟩
  · obtain ⟨e, rfl⟩ := h1 ok
    exact ⟨y, hr, R, lm, by rw [REL_kiss0 h ok]; exact h, ⟨by unfold kissA; rw [if_neg (by omega)]; exact e, by rw [e]; constructor <;> omega⟩, rfl⟩
theorem s_force (l : Launch) (G : GS) {C R : IM} (h : REL C R) (bt rt : Nat) (lm : IM) (t : Int) (ht : ri t) : Cn l (XR G) yX9_force Y_X9_force [vR 30 0, vI t] (R, rs bt rt, lm) (pI fun y m' => ∃ im2 lm2, REL (forceM C t) im2 ∧ (y = forceA C t ∧ ri y) ∧ m' = (im2, rs bt rt, lm2)) := by
  obtain ⟨hRC, h79, hSH⟩ := h.RC
  have hAG := h.2.2.2.1
  have h5 := h.h5
  obtain ⟨a3, a4, a5, a6, a7⟩ := h.2.2.2.2.1
  have hRi := h.2.1
  refine (c_X9_force l G R bt rt lm hRC t ht).mono ?_
  rintro r m' ⟨y, hr, h2, h1⟩
  have t8 := h.2.2.2.2.2.2.1.1
  by_cases ok : 0 ≤ t ∧ t < R 30 0 3
  · obtain ⟨e, rfl⟩ := h2 ok
    exact ⟨y, hr, _, lm, REL_force h ok, ⟨by unfold forceA; rw [if_pos (by omega), a7]; exact e, by rw [e]; exact hRi _ _ _⟩, rfl⟩
  · obtain ⟨e, rfl⟩ := h1 ok
    exact ⟨y, hr, R, lm, by rw [REL_force0 h ok]; exact h, ⟨by unfold forceA; rw [if_neg (by omega)]; exact e, by rw [e]; constructor <;> omega⟩, rfl⟩
theorem s_feed (l : Launch) (G : GS) {C R : IM} (h : REL C R) (bt rt : Nat) (lm : IM) (c : Int) (hc : ri c) : Cn l (XR G) yX9_feed Y_X9_feed [vR 30 0, vI c] (R, rs bt rt, lm) (pI fun y m' => ∃ im2 lm2, REL (feedM C c) im2 ∧ (y = feedA C c ∧ ri y) ∧ m' = (im2, rs bt rt, lm2)) := by
  obtain ⟨hRC, h79, hSH⟩ := h.RC
  have hAG := h.2.2.2.1
  have h5 := h.h5
  obtain ⟨a3, a4, a5, a6, a7⟩ := h.2.2.2.2.1
  have hRi := h.2.1
  refine (c_X9_feed l G R bt rt lm hRC c hc).mono ?_
  rintro r m' ⟨y, hr, h1, h2, h3⟩
  have t6 := h.2.2.2.2.2.2.2.1.1
  have x6 := hRC.2.1.2.2.1
  by_cases ok : 0 ≤ c ∧ c ≤ 255
  · by_cases h6 : R 30 0 6 = 160
    · obtain ⟨e, rfl⟩ := h2 ok h6
      exact ⟨y, hr, R, lm, by rw [REL_feed0 h (fun z => z.2 h6)]; exact h, ⟨by unfold feedA; rw [if_pos (by omega), if_pos (by omega)]; exact e, by rw [e]; constructor <;> omega⟩, rfl⟩
    · obtain ⟨e, rfl⟩ := h3 ok h6
      exact ⟨y, hr, _, lm, REL_feed h ok h6, ⟨by unfold feedA; rw [if_pos (by omega), if_neg (by omega), t6]; exact e, by rw [e]; constructor <;> omega⟩, rfl⟩
  · obtain ⟨e, rfl⟩ := h1 ok
    exact ⟨y, hr, R, lm, by rw [REL_feed0 h (fun z => ok z.1)]; exact h, ⟨by unfold feedA; rw [if_neg (by omega)]; exact e, by rw [e]; constructor <;> omega⟩, rfl⟩
theorem s_say (l : Launch) (G : GS) {C R : IM} (h : REL C R) (bt rt : Nat) (lm : IM) (p : Int) (w : Int) (f : Int) (hp : ri p) (hw : ri w) (hf : ri f) : Cn l (XR G) yX9_say Y_X9_say [vR 30 0, vI p, vI w, vI f] (R, rs bt rt, lm) (pI fun y m' => ∃ im2 lm2, REL (sayM C p w f) im2 ∧ (y = sayA C p w f ∧ ri y) ∧ m' = (im2, rs bt rt, lm2)) := by
  obtain ⟨hRC, h79, hSH⟩ := h.RC
  have hAG := h.2.2.2.1
  have h5 := h.h5
  obtain ⟨a3, a4, a5, a6, a7⟩ := h.2.2.2.2.1
  have hRi := h.2.1
  refine (c_X9_say l G R bt rt lm hRC p w f hp hw hf).mono ?_
  rintro r m' ⟨y, hr, im2, lm2, hR2, ha, -, h2, h1⟩
  by_cases ok : (0 ≤ p ∧ p < R 30 0 12) ∧ (0 ≤ w ∧ w ≤ 15) ∧ (0 ≤ f ∧ f ≤ 9)
  · obtain ⟨e, rfl⟩ := h2 ok
    exact ⟨y, hr, _, lm2, REL_say h ha hR2 ok, ⟨by unfold sayA; rw [if_pos (by omega), (ut_eq h (by omega) w f).2]; exact e, by rw [e]; have := utR_in (im := R) (p := p.toNat) (w := w) (fd := f); constructor <;> omega⟩, rfl⟩
  · obtain ⟨e, rfl⟩ := h1 ok
    exact ⟨y, hr, R, lm, by rw [REL_say0 h ok]; exact h, ⟨by unfold sayA; rw [if_neg (by omega)]; exact e, by rw [e]; constructor <;> omega⟩, rfl⟩
theorem s_text (l : Launch) (G : GS) {C R : IM} (h : REL C R) (bt rt : Nat) (lm : IM) {F : IM} (hF : textR C F) (hRF : RI F) : Cn l (XR G) yX9_text Y_X9_text [vR 30 0] (R, rs bt rt, lm) (pI fun y m' => ∃ im2 lm2, REL (F) im2 ∧ (y = textA C ∧ ri y) ∧ m' = (im2, rs bt rt, lm2)) := by
  obtain ⟨hRC, h79, hSH⟩ := h.RC
  have hAG := h.2.2.2.1
  have h5 := h.h5
  obtain ⟨a3, a4, a5, a6, a7⟩ := h.2.2.2.2.1
  have hRi := h.2.1
  refine (c_X9_text l G R bt rt lm hRC).mono ?_
  rintro r m' ⟨y, hr, h1, h2⟩
  have x3 := hRC.2.1.2.2.2.1
  have x6 := hRC.2.1.2.2.1
  have eA := textA_eq h
  have hf0 := rdF_in (txB R) (R 30 0 6).toNat
  by_cases h3 : R 30 0 3 = 6
  · obtain ⟨e, rfl⟩ := h1 h3
    rw [if_pos h3] at eA
    exact ⟨y, hr, R, lm, by rw [REL_text6 h hF h3]; exact h, ⟨by rw [eA]; exact e, by rw [e]; constructor <;> omega⟩, rfl⟩
  · obtain ⟨im2, lm2, hR2, ha, -, g1, g2⟩ := h2 h3
    rw [if_neg h3] at eA
    by_cases hf : rdF (txB R) (R 30 0 6).toNat = -1
    · obtain ⟨e, rfl⟩ := g1 hf
      rw [if_pos hf] at eA
      exact ⟨y, hr, _, lm2, REL_text h hF hRF h3 ha (RC_text1 hRC h3 hf hR2 ha) (R 30 0 3 + 1) (Or.inr ⟨rfl, hf⟩) (fun k s z => by rw [up_app, if_neg (fun q => z ⟨q.1, q.2.2⟩)]) (by rw [up_app, if_pos ⟨rfl, rfl, rfl⟩]), ⟨by rw [eA]; exact e, by rw [e]; constructor <;> omega⟩, rfl⟩
    · obtain ⟨e, rfl⟩ := g2 hf
      rw [if_neg hf] at eA
      exact ⟨y, hr, im2, lm2, REL_text h hF hRF h3 ha (RC_text0 hRC hR2 ha) (R 30 0 3) (Or.inl ⟨rfl, hf⟩) (fun k s z => rfl) (by rw [ha 30 0 3 (by omega)]; rfl), ⟨by rw [eA]; exact e, by rw [e]; constructor <;> omega⟩, rfl⟩
theorem s_live (l : Launch) (G : GS) {C R : IM} (h : REL C R) (bt rt : Nat) (lm : IM) : Cn l (XR G) yX9_live Y_X9_live [vR 30 0] (R, rs bt rt, lm) (pI fun y m' => ∃ im2 lm2, REL (liveM C) im2 ∧ (y = liveA C ∧ ri y) ∧ m' = (im2, rs bt rt, lm2)) := by
  obtain ⟨hRC, h79, hSH⟩ := h.RC
  have hAG := h.2.2.2.1
  have h5 := h.h5
  obtain ⟨a3, a4, a5, a6, a7⟩ := h.2.2.2.2.1
  have hRi := h.2.1
  refine (c_X9_live l G R bt rt lm hRC hAG).mono ?_
  rintro r m' ⟨y, hr, h1, h2⟩
  by_cases h9 : R 30 0 7 = 999
  · obtain ⟨e, rfl⟩ := h1 h9
    exact ⟨y, hr, R, lm, by rw [REL_live0 h h9]; exact h, ⟨by unfold liveA; rw [if_pos (by omega)]; exact e, by rw [e]; constructor <;> omega⟩, rfl⟩
  · obtain ⟨im2, lm2, e, hR2, ha, -, rfl⟩ := h2 h9
    have hc := cntO_in C 0 (10 * R 30 0 12).toNat
    have e2 := (hr_eq h (10 * R 30 0 12).toNat (by omega)).2
    exact ⟨y, hr, im2, lm2, REL_live h h9 hR2 ha, ⟨by rw [liveA_eq h h9]; exact e, by rw [e, ← e2]; constructor <;> omega⟩, rfl⟩
theorem s_run (l : Launch) (G : GS) {C R : IM} (h : REL C R) (bt rt : Nat) (lm : IM) (n : Int) (w : Int) (hn : ri n) (hw : ri w) : Cn l (XR G) yX9_run Y_X9_run [vR 30 0, vI n, vI w] (R, rs bt rt, lm) (pI fun y m' => ∃ im2 lm2, REL (C) im2 ∧ (y = runA C n w ∧ ri y) ∧ m' = (im2, rs bt rt, lm2)) := by
  obtain ⟨hRC, h79, hSH⟩ := h.RC
  have hAG := h.2.2.2.1
  have h5 := h.h5
  obtain ⟨a3, a4, a5, a6, a7⟩ := h.2.2.2.2.1
  have hRi := h.2.1
  refine (c_X9_run l G R bt rt lm hRC hAG h79 n w hn hw).mono ?_
  rintro r m' ⟨y, hr, h1, h2⟩
  by_cases ok : (0 ≤ n ∧ n ≤ 60) ∧ 0 ≤ w ∧ w ≤ 4
  · obtain ⟨im2, lm2, e, hR2, hU, -, rfl⟩ := h2 ok
    have es := sum_eq h n.toNat 50
    have hb := (cost_in hRC n.toNat).2
    have hcn := cntF_in C 0 n.toNat 50
    have hff := fstG_in (whenR R n.toNat) 50
    refine ⟨y, hr, im2, lm2, h.S hU.1.S hR2, ⟨?_, by rw [e]; (repeat' split) <;> exact hR2 _ _ _⟩, rfl⟩
    rw [e]
    unfold runA
    rw [if_pos (show (0 ≤ n ∧ n ≤ 60) ∧ 0 ≤ w ∧ w < 5 by omega), es.1, es.2.1, es.2.2, hU.2.2.1, hU.2.2.2.1, hU.2.2.2.2.1, hU.2.2.2.2.2.1, hU.2.2.2.2.2.2]
    by_cases w0 : w = 0
    · rw [if_pos w0, if_pos w0]
    · rw [if_neg w0, if_neg w0]
      by_cases w1 : w = 1
      · rw [if_pos w1, if_pos w1]
      · rw [if_neg w1, if_neg w1]
        by_cases f : fstG (whenR R n.toNat) 50 = -1
        · rw [if_pos f, if_pos f, if_pos f, if_pos f]
          (repeat' split) <;> rfl
        · rw [if_neg f, if_neg f, if_neg f, if_neg f]
          rcases hff with ⟨-, q⟩ | ⟨s, hs, q1, q2, -⟩
          · exact absurd q f
          · rw [q1]
            have hs2 : ((s / 10 : Nat) : Int) < R 30 0 12 := Decidable.byContradiction fun z => q2 (by unfold whenR; rw [if_neg z])
            have hc := ((h.2.2.2.2.2.1 (s / 10) hs2).2.2 (s % 10) (by omega)).1
            rw [show 10 * (s / 10) + s % 10 = s by omega] at hc
            rw [show ((s : Int) / 10).toNat = s / 10 by omega, show ((s : Int) % 10).toNat = s % 10 by omega, hc, Int.toNat_natCast, when_eq h]
  · obtain ⟨e, rfl⟩ := h1 ok
    exact ⟨y, hr, R, lm, h, ⟨by unfold runA; rw [if_neg (by omega)]; exact e, by rw [e]; constructor <;> omega⟩, rfl⟩
theorem s_off (l : Launch) (G : GS) {C R : IM} (h : REL C R) (bt rt : Nat) (lm : IM) (p : Int) (g : Int) (n : Int) (hp : ri p) (hg : ri g) (hn : ri n) : Cn l (XR G) yX9_off Y_X9_off [vR 30 0, vI p, vI g, vI n] (R, rs bt rt, lm) (pI fun y m' => ∃ im2 lm2, REL (C) im2 ∧ (y = offA C p g n ∧ ri y) ∧ m' = (im2, rs bt rt, lm2)) := by
  obtain ⟨hRC, h79, hSH⟩ := h.RC
  have hAG := h.2.2.2.1
  have h5 := h.h5
  obtain ⟨a3, a4, a5, a6, a7⟩ := h.2.2.2.2.1
  have hRi := h.2.1
  refine (c_X9_off l G R bt rt lm hRC hAG h79 p g n hp hg hn).mono ?_
  rintro r m' ⟨y, hr, h1, h2⟩
  by_cases ok : (0 ≤ p ∧ p < R 30 0 12) ∧ (0 ≤ g ∧ g ≤ 9) ∧ 0 ≤ n ∧ n ≤ 60
  · obtain ⟨im2, lm2, e, hR2, hU, -, rfl⟩ := h2 ok
    have hw := whenR_in R n.toNat (10 * p.toNat + g.toNat)
    refine ⟨y, hr, im2, lm2, h.S hU.1.S hR2, ⟨?_, by rw [e]; constructor <;> omega⟩, rfl⟩
    rw [e]
    unfold offA whenR
    rw [if_pos (by omega), if_pos (by omega), goW_eq h (by omega) (by omega)]
  · obtain ⟨e, rfl⟩ := h1 ok
    exact ⟨y, hr, R, lm, h, ⟨by unfold offA; rw [if_neg (by omega)]; exact e, by rw [e]; constructor <;> omega⟩, rfl⟩
theorem s_foods (l : Launch) (G : GS) {C R : IM} (h : REL C R) (bt rt : Nat) (lm : IM) (p : Int) (w : Int) (g : Int) (hp : ri p) (hw : ri w) (hg : ri g) : Cn l (XR G) yX9_foods Y_X9_foods [vR 30 0, vI p, vI w, vI g] (R, rs bt rt, lm) (pI fun y m' => ∃ im2 lm2, REL (C) im2 ∧ (y = foodsA C p w g ∧ ri y) ∧ m' = (im2, rs bt rt, lm2)) := by
  obtain ⟨hRC, h79, hSH⟩ := h.RC
  have hAG := h.2.2.2.1
  have h5 := h.h5
  obtain ⟨a3, a4, a5, a6, a7⟩ := h.2.2.2.2.1
  have hRi := h.2.1
  refine (c_X9_foods l G R bt rt lm hRC p w g hp hw hg).mono ?_
  rintro r m' ⟨y, hr, im2, lm2, e, hR2, ha, -, rfl⟩
  have hl := fdR_lt R p.toNat w g 10 (by omega)
  have hl2 : fdR R p.toNat w g 10 < 1024 := hl
  refine ⟨y, hr, im2, lm2, h.S ha.O.S hR2, ⟨?_, by rw [e]; split <;> (constructor <;> omega)⟩, rfl⟩
  rw [e]
  unfold foodsA
  by_cases ok : (0 ≤ p ∧ p < R 30 0 12) ∧ (0 ≤ w ∧ w ≤ 15) ∧ (0 ≤ g ∧ g ≤ 9)
  · rw [if_pos ok, if_pos (by omega), fd_eq h (by omega) w ok.2.2 10]
    split <;> rfl
  · rw [if_neg ok, if_neg (by omega)]
theorem s_best (l : Launch) (G : GS) {C R : IM} (h : REL C R) (bt rt : Nat) (lm : IM) (n : Int) (w : Int) (hn : ri n) (hw : ri w) : Cn l (XR G) yX9_best Y_X9_best [vR 30 0, vI n, vI w] (R, rs bt rt, lm) (pI fun y m' => ∃ im2 lm2, REL (C) im2 ∧ (y = bestA C n w ∧ ri y) ∧ m' = (im2, rs bt rt, lm2)) := by
  obtain ⟨hRC, h79, hSH⟩ := h.RC
  have hAG := h.2.2.2.1
  have h5 := h.h5
  obtain ⟨a3, a4, a5, a6, a7⟩ := h.2.2.2.2.1
  have hRi := h.2.1
  refine (c_X9_best l G R bt rt lm hRC hAG h79 n w hn hw).mono ?_
  rintro r m' ⟨y, hr, h1, h2⟩
  by_cases ok : (0 ≤ n ∧ n ≤ 60) ∧ 0 ≤ w ∧ w ≤ 1
  · obtain ⟨im2, lm2, e, hR2, hU, -, rfl⟩ := h2 ok
    have hb := cost_in hRC n.toNat
    have hd := dB_lim hb.1 50
    refine ⟨y, hr, im2, lm2, h.S hU.1.S hR2, ⟨?_, by rw [e]; split <;> (constructor <;> omega)⟩, rfl⟩
    rw [e]
    unfold bestA
    rw [if_pos (show (0 ≤ n ∧ n ≤ 60) ∧ 0 ≤ w ∧ w < 2 by omega), dB_eq h, (sum_eq h n.toNat 50).1]
    by_cases w0 : w = 0
    · rw [if_pos w0, if_pos w0]
    · rw [if_neg w0, if_neg w0]
      by_cases f : (dB (costR R n.toNat) 50).1 = -1
      · rw [if_pos f, hd.2.2.2.1 f]
        omega
      · rw [if_neg f, hd.2.2.2.2 f, cost_eq h]
  · obtain ⟨e, rfl⟩ := h1 ok
    exact ⟨y, hr, R, lm, h, ⟨by unfold bestA; rw [if_neg (by omega)]; exact e, by rw [e]; constructor <;> omega⟩, rfl⟩
theorem s_few (l : Launch) (G : GS) {C R : IM} (h : REL C R) (bt rt : Nat) (lm : IM) (p : Int) (n : Int) (e : Int) (hp : ri p) (hn : ri n) (he : ri e) : Cn l (XR G) yX9_few Y_X9_few [vR 30 0, vI p, vI n, vI e] (R, rs bt rt, lm) (pI fun y m' => ∃ im2 lm2, REL (C) im2 ∧ (y = fewA C p n e ∧ ri y) ∧ m' = (im2, rs bt rt, lm2)) := by
  obtain ⟨hRC, h79, hSH⟩ := h.RC
  have hAG := h.2.2.2.1
  have h5 := h.h5
  obtain ⟨a3, a4, a5, a6, a7⟩ := h.2.2.2.2.1
  have hRi := h.2.1
  refine (c_X9_few l G R bt rt lm hRC hAG h79 p n e hp hn he).mono ?_
  rintro r m' ⟨y, hr, h1, h2⟩
  by_cases ok : (0 ≤ p ∧ p < R 30 0 12) ∧ (0 ≤ n ∧ n ≤ 60) ∧ 0 ≤ e ∧ e ≤ 9999
  · obtain ⟨im2, lm2, ey, hR2, hU, -, rfl⟩ := h2 ok
    refine ⟨y, hr, im2, lm2, h.S hU.1.S hR2, ⟨?_, by rw [ey]; exact fw_ri _ _ _⟩, rfl⟩
    rw [ey]
    unfold fewA
    have ec : (fun g => costF C 0 n.toNat (10 * p.toNat + g)) = (fun g => costR R n.toNat (10 * p.toNat + g)) := funext fun g => cost_eq h _ _
    rw [if_pos (by omega), ec, (sum_eq h n.toNat 50).1]
  · obtain ⟨ey, rfl⟩ := h1 ok
    exact ⟨y, hr, R, lm, h, ⟨by unfold fewA; rw [if_neg (by omega)]; exact ey, by rw [ey]; constructor <;> omega⟩, rfl⟩
theorem s_film (l : Launch) (G : GS) {C R : IM} (h : REL C R) (bt rt : Nat) (lm : IM) (s : Int) (p : Int) (hs : ri s) (hp : ri p) : Cn l (XR G) yX9_film Y_X9_film [vR 30 0, vI s, vI p] (R, rs bt rt, lm) (pI fun y m' => ∃ im2 lm2, REL (filmM C s p) im2 ∧ (y = filmA C s p ∧ ri y) ∧ m' = (im2, rs bt rt, lm2)) := by
  obtain ⟨hRC, h79, hSH⟩ := h.RC
  have hAG := h.2.2.2.1
  have h5 := h.h5
  obtain ⟨a3, a4, a5, a6, a7⟩ := h.2.2.2.2.1
  have hRi := h.2.1
  refine (c_X9_film l G R bt rt lm hRC hAG h79 s p hs hp).mono ?_
  rintro r m' ⟨y, hr, h1, h2⟩
  by_cases ok : ((0 : Int) ≤ s ∧ (s : Int) ≤ 3) ∧ ((0 : Int) ≤ p ∧ p < R 30 0 12)
  · obtain ⟨e, im2, lm2, hR2, hU, -, rfl⟩ := h2 ok
    exact ⟨y, hr, _, lm2, REL_film h ok hR2 hU.1.S, ⟨by unfold filmA; rw [if_pos (by omega)]; exact e, by rw [e]; constructor <;> omega⟩, rfl⟩
  · obtain ⟨e, rfl⟩ := h1 ok
    exact ⟨y, hr, R, lm, by rw [REL_film0 h ok]; exact h, ⟨by unfold filmA; rw [if_neg (by omega)]; exact e, by rw [e]; constructor <;> omega⟩, rfl⟩
theorem s_image (l : Launch) (G : GS) {C R : IM} (h : REL C R) (bt rt : Nat) (lm : IM) : Cn l (XR G) yX9_image Y_X9_image [vR 30 0] (R, rs bt rt, lm) (pI fun y m' => ∃ im2 lm2, REL (imageM C) im2 ∧ (y = imageA C ∧ ri y) ∧ m' = (im2, rs bt rt, lm2)) := by
  obtain ⟨hRC, h79, hSH⟩ := h.RC
  have hAG := h.2.2.2.1
  have h5 := h.h5
  obtain ⟨a3, a4, a5, a6, a7⟩ := h.2.2.2.2.1
  have hRi := h.2.1
  refine (c_X9_image l G R bt rt lm hRC.1).mono ?_
  rintro r m' ⟨y, hr, e, rfl⟩
  have e3 : imageA C = C 18 0 3 := by
    unfold imageA imageM becM
    rw [up_app, if_neg (by omega), bec_o (by omega) (by omega)]
  exact ⟨y, hr, _, lm, REL_image h, ⟨by rw [e3, a3]; exact e, by rw [e]; exact hRi _ _ _⟩, rfl⟩
theorem s_back (l : Launch) (G : GS) {C R : IM} (h : REL C R) (bt rt : Nat) (lm : IM) : Cn l (XR G) yX9_back Y_X9_back [vR 30 0] (R, rs bt rt, lm) (pI fun y m' => ∃ im2 lm2, REL (backM C) im2 ∧ (y = backA C ∧ ri y) ∧ m' = (im2, rs bt rt, lm2)) := by
  obtain ⟨hRC, h79, hSH⟩ := h.RC
  have hAG := h.2.2.2.1
  have h5 := h.h5
  obtain ⟨a3, a4, a5, a6, a7⟩ := h.2.2.2.2.1
  have hRi := h.2.1
  refine (c_X9_back l G R bt rt lm hRC.1).mono ?_
  rintro r m' ⟨y, hr, h1, h2⟩
  by_cases hk : R 30 0 46 = -1
  · obtain ⟨e, rfl⟩ := h1 hk
    exact ⟨y, hr, R, lm, by rw [REL_back0 h hk]; exact h, ⟨by rw [backA_eq h, if_pos hk]; exact e, by rw [e]; constructor <;> omega⟩, rfl⟩
  · obtain ⟨e, rfl⟩ := h2 hk
    exact ⟨y, hr, _, lm, REL_back h hk, ⟨by rw [backA_eq h, if_neg hk]; exact e, by rw [e]; exact hRi _ _ _⟩, rfl⟩
theorem s_count (l : Launch) (G : GS) {C R : IM} (h : REL C R) (bt rt : Nat) (lm : IM) (w : Int) (hw : ri w) : Cn l (XR G) yX9_count Y_X9_count [vR 30 0, vI w] (R, rs bt rt, lm) (pI fun y m' => ∃ im2 lm2, REL (C) im2 ∧ (y = countA C w ∧ ri y) ∧ m' = (im2, rs bt rt, lm2)) := by
  obtain ⟨hRC, h79, hSH⟩ := h.RC
  have hAG := h.2.2.2.1
  have h5 := h.h5
  obtain ⟨a3, a4, a5, a6, a7⟩ := h.2.2.2.2.1
  have hRi := h.2.1
  refine (c_X9_count l G R bt rt lm hRC w hw).mono ?_
  rintro r m' ⟨y, hr, e, rfl⟩
  exact ⟨y, hr, R, lm, h, ⟨by rw [count_eq h]; exact e, by rw [e]; exact cuR_ri hRC w⟩, rfl⟩
theorem s_cell (l : Launch) (G : GS) {C R : IM} (h : REL C R) (bt rt : Nat) (lm : IM) (s : Int) (i : Int) (v : Int) (hs : ri s) (hi : ri i) (hv : ri v) : Cn l (XR G) yX9_cell Y_X9_cell [vR 30 0, vI s, vI i, vI v] (R, rs bt rt, lm) (pI fun y m' => ∃ im2 lm2, REL (cellM C s i v) im2 ∧ (y = cellAx C s i v ∧ ri y) ∧ m' = (im2, rs bt rt, lm2)) := by
  obtain ⟨hRC, h79, hSH⟩ := h.RC
  have hAG := h.2.2.2.1
  have h5 := h.h5
  obtain ⟨a3, a4, a5, a6, a7⟩ := h.2.2.2.2.1
  have hRi := h.2.1
  refine (c_X9_cell l G R bt rt lm hRC.1 hSH s i v hs hi hv).mono ?_
  rintro r m' ⟨y, hr, h1, h2⟩
  have eA : cellAx C s i v = _ := cellA_eq h s i
  by_cases o1 : (0 : Int) ≤ s ∧ (s : Int) ≤ 3
  · have h3 := h2 o1
    have hj := (hSH s.toNat (by omega)).1
    rw [if_pos o1] at eA
    by_cases o2 : R 47 0 s.toNat = 1
    · rw [if_neg (by omega)] at eA
      by_cases o3 : 0 ≤ i ∧ i < R 49 0 s.toNat
      · obtain ⟨e, rfl⟩ := h3.2.2 o2 o3
        rw [if_pos o3] at eA
        exact ⟨y, hr, _, lm, REL_cell h hv ⟨o1, o2, o3⟩, ⟨e.trans eA.symm, by rw [e]; constructor <;> omega⟩, rfl⟩
      · obtain ⟨e, rfl⟩ := h3.2.1 o2 o3
        rw [if_neg o3] at eA
        exact ⟨y, hr, R, lm, by rw [REL_cell0 h (fun z => o3 z.2.2)]; exact h, ⟨e.trans eA.symm, by rw [e]; constructor <;> omega⟩, rfl⟩
    · obtain ⟨e, rfl⟩ := h3.1 (by omega)
      rw [if_pos (by omega)] at eA
      exact ⟨y, hr, R, lm, by rw [REL_cell0 h (fun z => o2 z.2.1)]; exact h, ⟨e.trans eA.symm, by rw [e]; constructor <;> omega⟩, rfl⟩
  · obtain ⟨e, rfl⟩ := h1 o1
    rw [if_neg o1] at eA
    exact ⟨y, hr, R, lm, by rw [REL_cell0 h (fun z => o1 z.1)]; exact h, ⟨e.trans eA.symm, by rw [e]; constructor <;> omega⟩, rfl⟩
theorem s_copy (l : Launch) (G : GS) {C R : IM} (h : REL C R) (bt rt : Nat) (lm : IM) (a : Int) (i : Int) (b : Int) (j : Int) (n : Int) (ha : ri a) (hi : ri i) (hb : ri b) (hj : ri j) (hn : ri n) : Cn l (XR G) yX9_copy Y_X9_copy [vR 30 0, vI a, vI i, vI b, vI j, vI n] (R, rs bt rt, lm) (pI fun y m' => ∃ im2 lm2, REL (copyM C a i b j n) im2 ∧ (y = copyA C a i b j n ∧ ri y) ∧ m' = (im2, rs bt rt, lm2)) := by
  obtain ⟨hRC, h79, hSH⟩ := h.RC
  have hAG := h.2.2.2.1
  have h5 := h.h5
  obtain ⟨a3, a4, a5, a6, a7⟩ := h.2.2.2.2.1
  have hRi := h.2.1
  refine (c_X9_copy l G R bt rt lm hRC.1 hSH a i b j n ha hi hb hj hn).mono ?_
  rintro r m' ⟨y, hr, h1, h2⟩
  have eA := copyA_eq h a i b j n
  by_cases o1 : ((0 : Int) ≤ a ∧ (a : Int) ≤ 3) ∧ (0 : Int) ≤ b ∧ (b : Int) ≤ 3
  · have h3 := h2 o1
    have ja := (hSH a.toNat (by omega)).1
    have jb := (hSH b.toNat (by omega)).1
    rw [if_pos o1] at eA
    by_cases o2 : R 47 0 a.toNat = 0 ∨ R 47 0 b.toNat = 0
    · obtain ⟨e, rfl⟩ := h3.1 o2
      rw [if_pos o2] at eA
      exact ⟨y, hr, R, lm, by rw [REL_copy0 h (by omega)]; exact h, ⟨e.trans eA.symm, by rw [e]; constructor <;> omega⟩, rfl⟩
    · have h4 := h3.2 (by omega) (by omega)
      rw [if_neg o2] at eA
      by_cases o3 : R 48 0 a.toNat = R 48 0 b.toNat
      · have h5 := h4.2 o3
        rw [if_neg (fun z => z o3)] at eA
        by_cases o4 : ((0 : Int) ≤ i ∧ (0 : Int) ≤ n ∧ (i : Int) + (n : Int) ≤ R 49 0 (Int.toNat a)) ∧ (0 : Int) ≤ j ∧ (0 : Int) ≤ n ∧ (j : Int) + (n : Int) ≤ R 49 0 (Int.toNat b)
        · obtain ⟨e, rfl⟩ := h5.2 o4
          rw [if_pos o4] at eA
          exact ⟨y, hr, _, lm, REL_copy h ⟨o1, by omega, o3, o4⟩, ⟨e.trans eA.symm, by rw [e]; exact hn⟩, rfl⟩
        · obtain ⟨e, rfl⟩ := h5.1 o4
          rw [if_neg o4] at eA
          exact ⟨y, hr, R, lm, by rw [REL_copy0 h (fun z => o4 z.2.2.2)]; exact h, ⟨e.trans eA.symm, by rw [e]; constructor <;> omega⟩, rfl⟩
      · obtain ⟨e, rfl⟩ := h4.1 o3
        rw [if_pos o3] at eA
        exact ⟨y, hr, R, lm, by rw [REL_copy0 h (fun z => o3 z.2.2.1)]; exact h, ⟨e.trans eA.symm, by rw [e]; constructor <;> omega⟩, rfl⟩
  · obtain ⟨e, rfl⟩ := h1 o1
    rw [if_neg o1] at eA
    exact ⟨y, hr, R, lm, by rw [REL_copy0 h (fun z => o1 z.1)]; exact h, ⟨e.trans eA.symm, by rw [e]; constructor <;> omega⟩, rfl⟩
theorem pplR_ri {s : Nat} {fr : Int} (f : Nat) : ∀ (k : Nat) (c : Int) (R : IM), f + k ≤ 5 → 0 ≤ c → c ≤ k → ri (pplR s fr f k c R).1 := by
  induction f with
  | zero => intro k c R h1 h2 h3; constructor <;> (show _ ; show _ ; first | (show -2147483648 ≤ c; omega) | (show c < 2147483648; omega))
  | succ f ih =>
    intro k c R h1 h2 h3
    rw [pplR_s]
    split
    · refine ih (k + 1) _ _ (by omega) ?_ ?_ <;> split <;> omega
    · exact ⟨by show -2147483648 ≤ (-12 : Int); omega, by show (-12 : Int) < 2147483648; omega⟩

theorem s_people (l : Launch) (G : GS) {C R : IM} (h : REL C R) (bt rt : Nat) (lm : IM) (s : Int) (t : Int) (f : Int) (n : Int) (hs : ri s) (ht : ri t) (hf : ri f) (hn : ri n) : Cn l (XR G) yX9_people Y_X9_people [vR 30 0, vI s, vI t, vI f, vI n] (R, rs bt rt, lm) (pI fun y m' => ∃ im2 lm2, REL (peopleM C s t f n) im2 ∧ (y = peopleA C s t f n ∧ ri y) ∧ m' = (im2, rs bt rt, lm2)) := by
  obtain ⟨hRC, h79, hSH⟩ := h.RC
  have hAG := h.2.2.2.1
  have h5 := h.h5
  obtain ⟨a3, a4, a5, a6, a7⟩ := h.2.2.2.2.1
  have hRi := h.2.1
  refine (c_X9_people l G R bt rt lm hRC hSH s t f n hs ht hf hn).mono ?_
  rintro r m' ⟨y, hr, h1, h2⟩
  have eV := peopleV_eq h s t n
  by_cases o1 : ((0 : Int) ≤ s ∧ (s : Int) ≤ 3) ∧ (0 ≤ t ∧ t ≤ 2) ∧ (0 : Int) ≤ n ∧ (n : Int) ≤ 5
  · have h3 := h2 o1
    have js := (hSH s.toNat (by omega)).1
    rw [if_pos o1] at eV
    by_cases o2 : R 47 0 s.toNat = 1
    · have h4 := h3.2 o2
      rw [if_neg (by omega)] at eV
      by_cases o3 : R 48 0 s.toNat = t
      · obtain ⟨e, rfl⟩ := h4.2 o3
        have g := REL_people h hf ⟨o1, o2, o3⟩
        exact ⟨y, hr, _, lm, g.2, ⟨e.trans g.1.symm, by rw [e]; exact pplR_ri _ 0 0 R (by omega) (by omega) (by omega)⟩, rfl⟩
      · obtain ⟨e, rfl⟩ := h4.1 o3
        rw [if_neg o3] at eV
        have g := REL_people0 h (s := s) (sort := t) (fr := f) (n := n) (fun z => o3 z.2.2)
        exact ⟨y, hr, R, lm, by rw [g.2]; exact h, ⟨by rw [g.1, eV]; exact e, by rw [e]; constructor <;> omega⟩, rfl⟩
    · obtain ⟨e, rfl⟩ := h3.1 (by omega)
      rw [if_pos (by omega)] at eV
      have g := REL_people0 h (s := s) (sort := t) (fr := f) (n := n) (fun z => o2 z.2.1)
      exact ⟨y, hr, R, lm, by rw [g.2]; exact h, ⟨by rw [g.1, eV]; exact e, by rw [e]; constructor <;> omega⟩, rfl⟩
  · obtain ⟨e, rfl⟩ := h1 o1
    rw [if_neg o1] at eV
    have g := REL_people0 h (s := s) (sort := t) (fr := f) (n := n) (fun z => o1 z.1)
    exact ⟨y, hr, R, lm, by rw [g.2]; exact h, ⟨by rw [g.1, eV]; exact e, by rw [e]; constructor <;> omega⟩, rfl⟩
theorem s_taken (l : Launch) (G : GS) {C R : IM} (h : REL C R) (bt rt : Nat) (lm : IM) (p : Int) (k : Int) (hp : ri p) (hk : ri k) : Cn l (XR G) yX9_taken Y_X9_taken [vR 30 0, vI p, vI k] (R, rs bt rt, lm) (pI fun y m' => ∃ im2 lm2, REL (C) im2 ∧ (y = takenA C p k ∧ ri y) ∧ m' = (im2, rs bt rt, lm2)) := by
  obtain ⟨hRC, h79, hSH⟩ := h.RC
  have hAG := h.2.2.2.1
  have h5 := h.h5
  obtain ⟨a3, a4, a5, a6, a7⟩ := h.2.2.2.2.1
  have hRi := h.2.1
  refine (c_X9_taken l G R bt rt lm hRC p k hp hk).mono ?_
  rintro r m' ⟨y, hr, e, rfl⟩
  refine ⟨y, hr, R, lm, h, ⟨?_, by rw [e]; (repeat' split) <;> first | exact hRi _ _ _ | (constructor <;> omega)⟩, rfl⟩
  rw [e]
  unfold takenA
  by_cases o1 : 0 ≤ k ∧ k ≤ 5
  · rw [if_pos o1, if_pos (show 0 ≤ k ∧ k < 6 by omega)]
    by_cases o2 : (0 : Int) ≤ p ∧ p < R 30 0 12
    · have q := h.2.2.2.2.2.1 p.toNat (by omega)
      rw [if_pos o2, if_pos (show 0 ≤ p ∧ p < C 18 0 3 by omega), q.1, q.2.1]
    · rw [if_neg o2, if_neg (show ¬ (0 ≤ p ∧ p < C 18 0 3) by omega)]
  · rw [if_neg o1, if_neg (show ¬ (0 ≤ k ∧ k < 6) by omega)]
end
section
/-! THE LAW: what is the same for every part of the promise -/
theorem mix_C2 {im im1 lm : IM} {bt rt bt1 rt1 : Nat} : mixk pC (im1, rs bt1 rt1, lm) (im, rs bt rt, lm) = (fun k i s => if pC k = true then im1 k i s else im k i s, rs bt1 rt1, lm) := by
  refine Prod.ext rfl (Prod.ext ?_ ?_)
  · funext k i s
    show (if pC k = true then rs bt1 rt1 k i s else rs bt rt k i s) = rs bt1 rt1 k i s
    split
    · rfl
    · rename_i hk
      exact rs_hi (Nat.le_of_not_lt (fun z => hk (decide_eq_true z)))
  · funext k i s
    show (if pC k = true then lm k i s else lm k i s) = lm k i s
    split <;> rfl
def mxC (a b : IM) : IM := fun k i s => if pC k = true then a k i s else b k i s
def mxR (a b : IM) : IM := fun k i s => if pRk k = true then a k i s else b k i s
theorem mix_R2 {im im2 lm lm2 : IM} {bt rt : Nat} : mixk pRk (im2, rs bt rt, lm2) (im, rs bt rt, lm) = (mxR im2 im, rs bt rt, mxR lm2 lm) := by
  refine Prod.ext rfl (Prod.ext ?_ rfl)
  funext k i s
  show (if pRk k = true then rs bt rt k i s else rs bt rt k i s) = rs bt rt k i s
  split <;> rfl
theorem mx_RI {a b : IM} (h : RI a) (h2 : RI b) : RI (mxC a b) ∧ RI (mxR a b) := by
  constructor
  · intro k i s
    unfold mxC
    split
    · exact h _ _ _
    · exact h2 _ _ _
  · intro k i s
    unfold mxR
    split
    · exact h _ _ _
    · exact h2 _ _ _
theorem REL_mid {Z im1 : IM} (h : REL Z Z) (h1 : RI im1) : REL Z (mxC im1 Z) := by
  refine h.mix (fun _ _ _ _ => rfl) (fun k i s hk hk2 => ?_) h.2.1 (mx_RI h1 h.2.1).1
  have hp : ¬ pC k = true := fun z => by have h9 : k < 24 := of_decide_eq_true z; omega
  unfold mxC
  rw [if_neg hp]
theorem REL_fin {F im1 Z im2 : IM} (h : REL F im2) (hag : agP im1 F) (h1 : RI im1) (hZ : RI Z) : REL (mxR im2 (mxC im1 Z)) (mxR im2 (mxC im1 Z)) := by
  have hR := (mx_RI h.2.1 (mx_RI h1 hZ).1).2
  refine (h.P hag h1).mix (fun k i s hk => ?_) (fun k i s hk hk2 => ?_) hR hR
  · have hp : ¬ pRk k = true := fun z => by have h9 : 30 ≤ k ∧ k < 51 := of_decide_eq_true z; omega
    have hp2 : pC k = true := decide_eq_true hk
    unfold mxR
    rw [if_neg hp]
    unfold mxC
    rw [if_pos hp2]
  · have hp : pRk k = true := decide_eq_true (show 30 ≤ k ∧ k < 51 from ⟨hk, hk2⟩)
    unfold mxR
    rw [if_pos hp]
section Law2
variable {M : MS} {G : GS} {A0 : Nat → Prop} {Y : YS} {R : Room} {Q : State → Prop} {c s : Nat} {ad : Ads} {n : Nat → Nat} {pc t : Nat} {ls : List (Option SV)} {st : List SV} {m : Mem}
theorem j_ofNat2 (L : Nat) : Int32.ofNat L = jI (L : Int) := by
  unfold jI
  first
    | rfl
    | exact (Int32.ofInt_natCast L).symm
    | simp
theorem z_slen2 {L : Nat} {xs : Nat → Int32} (F : Fg M G A0 Y) (hd : decode Y.2.1 pc = .ok (.arraylength, 1)) (hX : Sx M A0 ad L xs) (ht : t = pc + 1) (kk : Wg M G A0 Y R Q c s ad n t ls (vI (L : Int) :: st) m) : Wg M G A0 Y R Q c s ad n pc ls (vR 96 0 :: st) m := by
  subst ht
  intro H locs a hI hl
  refine va_slen F.1 F.2.1 hX.1 hX.2.1 hX.2.2 hI.2.1 hd ?_
  rw [j_ofNat2 L]
  exact kk H locs a hI hl
theorem z_sld2 {L k : Nat} {x : Int} {xs : Nat → Int32} (F : Fg M G A0 Y) (hd : decode Y.2.1 pc = .ok (.iaload, 1)) (hX : Sx M A0 ad L xs) (hk : x = (k : Int)) (hL : k < L) (hL6 : L ≤ 3072) (ht : t = pc + 1) (kk : Wg M G A0 Y R Q c s ad n t ls (vI (xs k).toInt :: st) m) : Wg M G A0 Y R Q c s ad n pc ls (vI x :: vR 96 0 :: st) m := by
  subst ht
  subst hk
  intro H locs a hI hl
  refine va_sld F.1 F.2.1 hX.1 hX.2.1 hX.2.2 hI.2.1 (i := jI (k : Int)) (j_in (by omega) (by omega) (by omega)) hd ?_
  rw [j_cl ⟨by omega, by omega⟩, Int.toNat_natCast]
  have h := kk H locs a hI hl
  rw [List.map_cons] at h
  have e : tr ad (vI (xs k).toInt) = .int (xs k) := congrArg Value.int (j_asI (xs k))
  rw [e] at h
  exact h
theorem z_popL {x : Int} (F : Fg M G A0 Y) (hd : decode Y.2.1 pc = .ok (.pop2, 1)) (ht : t = pc + 1) (k : Wg M G A0 Y R Q c s ad n t ls st m) : Wg M G A0 Y R Q c s ad n pc ls (vL x :: st) m := by
  subst ht
  intro H locs a hI hl
  exact lv_pop2_2 F.1 F.2.1 hd rfl (k H locs a hI hl)
end Law2
end
