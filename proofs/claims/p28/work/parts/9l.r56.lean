/-! BOTH: every call of the reference keeps it beside the class's -/
theorem lyI_ag {a b : IM} (h : agY a b) (what : Int) (p : Nat) (v : Int) : agY (lyI a what p v) (lyI b what p v) := by
  unfold lyI
  (repeat' split) <;> exact h.up rfl
theorem lyI_RI {a : IM} (h : RI a) {what v : Int} {p : Nat} (hv : ri v) : RI (lyI a what p v) := by
  unfold lyI
  (repeat' split) <;> exact RI_up h hv
theorem q_told (l : Launch) (G : GS) {C R : IM} (h : REL C R) (bt rt : Nat) (lm : IM) (p : Int) (w : Int) (hp : ri p) (hw : ri w) : Cn l (XR G) yX9_told Y_X9_told [vR 30 0, vI p, vI w] (R, rs bt rt, lm) (pI fun y m' => ∃ im2 lm2, REL (C) im2 ∧ m' = (im2, rs bt rt, lm2)) := by
  obtain ⟨hRC, h79, hSH⟩ := h.RC
  have hAG := h.2.2.2.1
  refine (c_X9_told l G R bt rt lm hRC p w hp hw).mono ?_
  rintro r m' ⟨y, hr, im2, lm2, -, hR2, ha, -, rfl⟩
  exact ⟨y, hr, im2, lm2, h.S ha.O.S hR2, rfl⟩
theorem q_foods (l : Launch) (G : GS) {C R : IM} (h : REL C R) (bt rt : Nat) (lm : IM) (p : Int) (w : Int) (g : Int) (hp : ri p) (hw : ri w) (hg : ri g) : Cn l (XR G) yX9_foods Y_X9_foods [vR 30 0, vI p, vI w, vI g] (R, rs bt rt, lm) (pI fun y m' => ∃ im2 lm2, REL (C) im2 ∧ m' = (im2, rs bt rt, lm2)) := by
  obtain ⟨hRC, h79, hSH⟩ := h.RC
  have hAG := h.2.2.2.1
  refine (c_X9_foods l G R bt rt lm hRC p w g hp hw hg).mono ?_
  rintro r m' ⟨y, hr, im2, lm2, -, hR2, ha, -, rfl⟩
  exact ⟨y, hr, im2, lm2, h.S ha.O.S hR2, rfl⟩
theorem q_kissing (l : Launch) (G : GS) {C R : IM} (h : REL C R) (bt rt : Nat) (lm : IM) (n : Int) (w : Int) (hn : ri n) (hw : ri w) : Cn l (XR G) yX9_kissing Y_X9_kissing [vR 30 0, vI n, vI w] (R, rs bt rt, lm) (pI fun y m' => ∃ im2 lm2, REL (C) im2 ∧ m' = (im2, rs bt rt, lm2)) := by
  obtain ⟨hRC, h79, hSH⟩ := h.RC
  have hAG := h.2.2.2.1
  refine (c_X9_kissing l G R bt rt lm hRC hAG h79 n w hn hw).mono ?_
  rintro r m' ⟨y, hr, im2, lm2, -, hR2, ha, -, rfl⟩
  exact ⟨y, hr, im2, lm2, h.S ha hR2, rfl⟩
theorem q_church (l : Launch) (G : GS) {C R : IM} (h : REL C R) (bt rt : Nat) (lm : IM) (n : Int) (w : Int) (hn : ri n) (hw : ri w) : Cn l (XR G) yX9_church Y_X9_church [vR 30 0, vI n, vI w] (R, rs bt rt, lm) (pI fun y m' => ∃ im2 lm2, REL (C) im2 ∧ m' = (im2, rs bt rt, lm2)) := by
  obtain ⟨hRC, h79, hSH⟩ := h.RC
  have hAG := h.2.2.2.1
  refine (c_X9_church l G R bt rt lm hRC hAG h79 n w hn hw).mono ?_
  rintro r m' ⟨y, hr, im2, lm2, -, hR2, ha, -, rfl⟩
  exact ⟨y, hr, im2, lm2, h.S ha hR2, rfl⟩
theorem q_plan (l : Launch) (G : GS) {C R : IM} (h : REL C R) (bt rt : Nat) (lm : IM) (s : Int) (w : Int) (hs : ri s) (hw : ri w) : Cn l (XR G) yX9_plan Y_X9_plan [vR 30 0, vI s, vI w] (R, rs bt rt, lm) (pI fun y m' => ∃ im2 lm2, REL (C) im2 ∧ m' = (im2, rs bt rt, lm2)) := by
  obtain ⟨hRC, h79, hSH⟩ := h.RC
  have hAG := h.2.2.2.1
  refine (c_X9_plan l G R bt rt lm hRC hAG h79 hSH s w hs hw).mono ?_
  rintro r m' ⟨y, hr, im2, lm2, -, -, hR2, ha, -, rfl⟩
  exact ⟨y, hr, im2, lm2, h.S ha hR2, rfl⟩
theorem q_tells (l : Launch) (G : GS) {C R : IM} (h : REL C R) (bt rt : Nat) (lm : IM) (s : Int) (p : Int) (w : Int) (hs : ri s) (hp : ri p) (hw : ri w) : Cn l (XR G) yX9_tells Y_X9_tells [vR 30 0, vI s, vI p, vI w] (R, rs bt rt, lm) (pI fun y m' => ∃ im2 lm2, REL (C) im2 ∧ m' = (im2, rs bt rt, lm2)) := by
  obtain ⟨hRC, h79, hSH⟩ := h.RC
  have hAG := h.2.2.2.1
  refine (c_X9_tells l G R bt rt lm hRC hAG h79 hSH s p w hs hp hw).mono ?_
  rintro r m' ⟨y, hr, -, im2, lm2, hR2, ha, -, rfl⟩
  exact ⟨y, hr, im2, lm2, h.S ha hR2, rfl⟩
theorem q_drawn (l : Launch) (G : GS) {C R : IM} (h : REL C R) (bt rt : Nat) (lm : IM) (p : Int) (s : Int) (n : Int) (hp : ri p) (hs : ri s) (hn : ri n) : Cn l (XR G) yX9_drawn Y_X9_drawn [vR 30 0, vI p, vI s, vI n] (R, rs bt rt, lm) (pI fun y m' => ∃ im2 lm2, REL (C) im2 ∧ m' = (im2, rs bt rt, lm2)) := by
  obtain ⟨hRC, h79, hSH⟩ := h.RC
  have hAG := h.2.2.2.1
  refine (c_X9_drawn l G R bt rt lm hRC p s n hp hs hn).mono ?_
  rintro r m' ⟨y, hr, im2, lm2, -, hR2, ha, -, rfl⟩
  exact ⟨y, hr, im2, lm2, h.S ha hR2, rfl⟩
theorem q_chance (l : Launch) (G : GS) {C R : IM} (h : REL C R) (bt rt : Nat) (lm : IM) (p : Int) (s : Int) (n : Int) (w : Int) (hp : ri p) (hs : ri s) (hn : ri n) (hw : ri w) : Cn l (XR G) yX9_chance Y_X9_chance [vR 30 0, vI p, vI s, vI n, vI w] (R, rs bt rt, lm) (pL fun y m' => ∃ im2 lm2, REL (C) im2 ∧ m' = (im2, rs bt rt, lm2)) := by
  obtain ⟨hRC, h79, hSH⟩ := h.RC
  have hAG := h.2.2.2.1
  refine (c_X9_chance l G R bt rt lm hRC p s n w hp hs hn hw).mono ?_
  rintro r m' ⟨y, hr, im2, lm2, -, hR2, ha, -, rfl⟩
  exact ⟨y, hr, im2, lm2, h.S ha hR2, rfl⟩
theorem q_run (l : Launch) (G : GS) {C R : IM} (h : REL C R) (bt rt : Nat) (lm : IM) (n : Int) (w : Int) (hn : ri n) (hw : ri w) : Cn l (XR G) yX9_run Y_X9_run [vR 30 0, vI n, vI w] (R, rs bt rt, lm) (pI fun y m' => ∃ im2 lm2, REL (C) im2 ∧ m' = (im2, rs bt rt, lm2)) := by
  obtain ⟨hRC, h79, hSH⟩ := h.RC
  have hAG := h.2.2.2.1
  refine (c_X9_run l G R bt rt lm hRC hAG h79 n w hn hw).mono ?_
  rintro r m' ⟨y, hr, h1, h2⟩
  by_cases ok : (0 ≤ n ∧ n ≤ 60) ∧ 0 ≤ w ∧ w ≤ 4
  · obtain ⟨im2, lm2, -, hR2, hU, -, rfl⟩ := h2 ok
    exact ⟨y, hr, im2, lm2, h.S hU.1.S hR2, rfl⟩
  · obtain ⟨-, rfl⟩ := h1 ok
    exact ⟨y, hr, R, lm, h, rfl⟩
theorem q_off (l : Launch) (G : GS) {C R : IM} (h : REL C R) (bt rt : Nat) (lm : IM) (p : Int) (g : Int) (n : Int) (hp : ri p) (hg : ri g) (hn : ri n) : Cn l (XR G) yX9_off Y_X9_off [vR 30 0, vI p, vI g, vI n] (R, rs bt rt, lm) (pI fun y m' => ∃ im2 lm2, REL (C) im2 ∧ m' = (im2, rs bt rt, lm2)) := by
  obtain ⟨hRC, h79, hSH⟩ := h.RC
  have hAG := h.2.2.2.1
  refine (c_X9_off l G R bt rt lm hRC hAG h79 p g n hp hg hn).mono ?_
  rintro r m' ⟨y, hr, h1, h2⟩
  by_cases ok : (0 ≤ p ∧ p < R 30 0 12) ∧ (0 ≤ g ∧ g ≤ 9) ∧ 0 ≤ n ∧ n ≤ 60
  · obtain ⟨im2, lm2, -, hR2, hU, -, rfl⟩ := h2 ok
    exact ⟨y, hr, im2, lm2, h.S hU.1.S hR2, rfl⟩
  · obtain ⟨-, rfl⟩ := h1 ok
    exact ⟨y, hr, R, lm, h, rfl⟩
theorem q_best (l : Launch) (G : GS) {C R : IM} (h : REL C R) (bt rt : Nat) (lm : IM) (n : Int) (w : Int) (hn : ri n) (hw : ri w) : Cn l (XR G) yX9_best Y_X9_best [vR 30 0, vI n, vI w] (R, rs bt rt, lm) (pI fun y m' => ∃ im2 lm2, REL (C) im2 ∧ m' = (im2, rs bt rt, lm2)) := by
  obtain ⟨hRC, h79, hSH⟩ := h.RC
  have hAG := h.2.2.2.1
  refine (c_X9_best l G R bt rt lm hRC hAG h79 n w hn hw).mono ?_
  rintro r m' ⟨y, hr, h1, h2⟩
  by_cases ok : (0 ≤ n ∧ n ≤ 60) ∧ 0 ≤ w ∧ w ≤ 1
  · obtain ⟨im2, lm2, -, hR2, hU, -, rfl⟩ := h2 ok
    exact ⟨y, hr, im2, lm2, h.S hU.1.S hR2, rfl⟩
  · obtain ⟨-, rfl⟩ := h1 ok
    exact ⟨y, hr, R, lm, h, rfl⟩
theorem q_few (l : Launch) (G : GS) {C R : IM} (h : REL C R) (bt rt : Nat) (lm : IM) (p : Int) (n : Int) (e : Int) (hp : ri p) (hn : ri n) (he : ri e) : Cn l (XR G) yX9_few Y_X9_few [vR 30 0, vI p, vI n, vI e] (R, rs bt rt, lm) (pI fun y m' => ∃ im2 lm2, REL (C) im2 ∧ m' = (im2, rs bt rt, lm2)) := by
  obtain ⟨hRC, h79, hSH⟩ := h.RC
  have hAG := h.2.2.2.1
  refine (c_X9_few l G R bt rt lm hRC hAG h79 p n e hp hn he).mono ?_
  rintro r m' ⟨y, hr, h1, h2⟩
  by_cases ok : (0 ≤ p ∧ p < R 30 0 12) ∧ (0 ≤ n ∧ n ≤ 60) ∧ 0 ≤ e ∧ e ≤ 9999
  · obtain ⟨im2, lm2, -, hR2, hU, -, rfl⟩ := h2 ok
    exact ⟨y, hr, im2, lm2, h.S hU.1.S hR2, rfl⟩
  · obtain ⟨-, rfl⟩ := h1 ok
    exact ⟨y, hr, R, lm, h, rfl⟩
theorem q_count (l : Launch) (G : GS) {C R : IM} (h : REL C R) (bt rt : Nat) (lm : IM) (w : Int) (hw : ri w) : Cn l (XR G) yX9_count Y_X9_count [vR 30 0, vI w] (R, rs bt rt, lm) (pI fun y m' => ∃ im2 lm2, REL (C) im2 ∧ m' = (im2, rs bt rt, lm2)) := by
  obtain ⟨hRC, h79, hSH⟩ := h.RC
  have hAG := h.2.2.2.1
  refine (c_X9_count l G R bt rt lm hRC w hw).mono ?_
  rintro r m' ⟨y, hr, -, rfl⟩
  exact ⟨y, hr, R, lm, h, rfl⟩
theorem q_taken (l : Launch) (G : GS) {C R : IM} (h : REL C R) (bt rt : Nat) (lm : IM) (p : Int) (k : Int) (hp : ri p) (hk : ri k) : Cn l (XR G) yX9_taken Y_X9_taken [vR 30 0, vI p, vI k] (R, rs bt rt, lm) (pI fun y m' => ∃ im2 lm2, REL (C) im2 ∧ m' = (im2, rs bt rt, lm2)) := by
  obtain ⟨hRC, h79, hSH⟩ := h.RC
  have hAG := h.2.2.2.1
  refine (c_X9_taken l G R bt rt lm hRC p k hp hk).mono ?_
  rintro r m' ⟨y, hr, -, rfl⟩
  exact ⟨y, hr, R, lm, h, rfl⟩
theorem q_set (l : Launch) (G : GS) {C R : IM} (h : REL C R) (bt rt : Nat) (lm : IM) (w : Int) (p : Int) (v : Int) (hw : ri w) (hp : ri p) (hv : ri v) : Cn l (XR G) yX9_set Y_X9_set [vR 30 0, vI w, vI p, vI v] (R, rs bt rt, lm) (pI fun y m' => ∃ im2 lm2, REL (setM C w p v) im2 ∧ m' = (im2, rs bt rt, lm2)) := by
  obtain ⟨hRC, h79, hSH⟩ := h.RC
  have hAG := h.2.2.2.1
  refine (c_X9_set l G R bt rt lm hRC w p v hw hp hv).mono ?_
  rintro r m' ⟨y, hr, h1, h2⟩
  by_cases ok : (w = 0 ∧ 0 ≤ v ∧ v ≤ 999) ∨ (w = 1 ∧ 0 ≤ v ∧ v ≤ 16777215) ∨ (w = 2 ∧ (0 ≤ p ∧ p < R 30 0 12) ∧ 0 ≤ v ∧ v ≤ 9)
  · obtain ⟨im2, lm2, -, hR2, ha, -, rfl⟩ := h2 ok
    exact ⟨y, hr, _, lm2, (REL_set h hv ok).S (lyI_ag ha w p.toNat v).O.S (lyI_RI hR2 hv), rfl⟩
  · obtain ⟨-, rfl⟩ := h1 ok
    exact ⟨y, hr, R, lm, by rw [REL_set0 h ok]; exact h, rfl⟩
theorem q_man (l : Launch) (G : GS) {C R : IM} (h : REL C R) (bt rt : Nat) (lm : IM) (a : Int) (c : Int) (ha : ri a) (hc : ri c) : Cn l (XR G) yX9_man Y_X9_man [vR 30 0, vI a, vI c] (R, rs bt rt, lm) (pI fun y m' => ∃ im2 lm2, REL (manM C a c) im2 ∧ m' = (im2, rs bt rt, lm2)) := by
  obtain ⟨hRC, h79, hSH⟩ := h.RC
  have hAG := h.2.2.2.1
  refine (c_manR l G R bt rt lm hRC a c ha hc).mono ?_
  rintro r m' ⟨y, hr, -, rfl⟩
  exact ⟨y, hr, _, lm, REL_man h ha hc, rfl⟩
theorem q_fill (l : Launch) (G : GS) {C R : IM} (h : REL C R) (bt rt : Nat) (lm : IM) (p : Int) (g : Int) (w : Int) (r0 : Int) (hp : ri p) (hg : ri g) (hw : ri w) (hr0 : ri r0) : Cn l (XR G) yX9_fill Y_X9_fill [vR 30 0, vI p, vI g, vI w, vI r0] (R, rs bt rt, lm) (pI fun y m' => ∃ im2 lm2, REL (fillM C p g w r0) im2 ∧ m' = (im2, rs bt rt, lm2)) := by
  obtain ⟨hRC, h79, hSH⟩ := h.RC
  have hAG := h.2.2.2.1
  refine (c_X9_fill l G R bt rt lm hRC p g w r0 hp hg hw hr0).mono ?_
  rintro r m' ⟨y, hr, h1, h2⟩
  by_cases ok : (0 ≤ p ∧ p < R 30 0 12) ∧ (0 ≤ g ∧ g ≤ 9) ∧ (-1 ≤ w ∧ w ≤ 15) ∧ 0 ≤ r0 ∧ r0 ≤ 999
  · obtain ⟨-, rfl⟩ := h2 ok
    exact ⟨y, hr, _, lm, REL_fill h ok, rfl⟩
  · obtain ⟨-, rfl⟩ := h1 ok
    exact ⟨y, hr, R, lm, by rw [REL_fill0 h ok]; exact h, rfl⟩
theorem q_floss (l : Launch) (G : GS) {C R : IM} (h : REL C R) (bt rt : Nat) (lm : IM) (p : Int) (g : Int) (hp : ri p) (hg : ri g) : Cn l (XR G) yX9_floss Y_X9_floss [vR 30 0, vI p, vI g] (R, rs bt rt, lm) (pI fun y m' => ∃ im2 lm2, REL (flossM C p g) im2 ∧ m' = (im2, rs bt rt, lm2)) := by
  obtain ⟨hRC, h79, hSH⟩ := h.RC
  have hAG := h.2.2.2.1
  refine (c_X9_floss l G R bt rt lm hRC p g hp hg).mono ?_
  rintro r m' ⟨y, hr, h2, h1⟩
  by_cases ok : (0 ≤ p ∧ p < R 30 0 12) ∧ (0 ≤ g ∧ g ≤ 9)
  · obtain ⟨-, rfl⟩ := h2 ok
    exact ⟨y, hr, _, lm, REL_floss h ok, rfl⟩
  · obtain ⟨-, rfl⟩ := h1 ok
    exact ⟨y, hr, R, lm, by rw [REL_floss0 h ok]; exact h, rfl⟩
theorem q_kiss (l : Launch) (G : GS) {C R : IM} (h : REL C R) (bt rt : Nat) (lm : IM) (p : Int) (q : Int) (hp : ri p) (hq : ri q) : Cn l (XR G) yX9_kiss Y_X9_kiss [vR 30 0, vI p, vI q] (R, rs bt rt, lm) (pI fun y m' => ∃ im2 lm2, REL (kissM C p q) im2 ∧ m' = (im2, rs bt rt, lm2)) := by
  obtain ⟨hRC, h79, hSH⟩ := h.RC
  have hAG := h.2.2.2.1
  refine (c_X9_kiss l G R bt rt lm hRC p q hp hq).mono ?_
  rintro r m' ⟨y, hr, h2, h1⟩
  by_cases ok : (0 ≤ p ∧ p < R 30 0 12) ∧ (0 ≤ q ∧ q < R 30 0 12) ∧ p ≠ q
  · obtain ⟨-, rfl⟩ := h2 ok
    exact ⟨y, hr, _, lm, REL_kiss h ok, rfl⟩
  · obtain ⟨-, rfl⟩ := h1 ok
    exact ⟨y, hr, R, lm, by rw [REL_kiss0 h ok]; exact h, rfl⟩
theorem q_force (l : Launch) (G : GS) {C R : IM} (h : REL C R) (bt rt : Nat) (lm : IM) (t : Int) (ht : ri t) : Cn l (XR G) yX9_force Y_X9_force [vR 30 0, vI t] (R, rs bt rt, lm) (pI fun y m' => ∃ im2 lm2, REL (forceM C t) im2 ∧ m' = (im2, rs bt rt, lm2)) := by
  obtain ⟨hRC, h79, hSH⟩ := h.RC
  have hAG := h.2.2.2.1
  refine (c_X9_force l G R bt rt lm hRC t ht).mono ?_
  rintro r m' ⟨y, hr, h2, h1⟩
  by_cases ok : 0 ≤ t ∧ t < R 30 0 3
  · obtain ⟨-, rfl⟩ := h2 ok
    exact ⟨y, hr, _, lm, REL_force h ok, rfl⟩
  · obtain ⟨-, rfl⟩ := h1 ok
    exact ⟨y, hr, R, lm, by rw [REL_force0 h ok]; exact h, rfl⟩
theorem q_feed (l : Launch) (G : GS) {C R : IM} (h : REL C R) (bt rt : Nat) (lm : IM) (c : Int) (hc : ri c) : Cn l (XR G) yX9_feed Y_X9_feed [vR 30 0, vI c] (R, rs bt rt, lm) (pI fun y m' => ∃ im2 lm2, REL (feedM C c) im2 ∧ m' = (im2, rs bt rt, lm2)) := by
  obtain ⟨hRC, h79, hSH⟩ := h.RC
  have hAG := h.2.2.2.1
  refine (c_X9_feed l G R bt rt lm hRC c hc).mono ?_
  rintro r m' ⟨y, hr, h1, h2, h3⟩
  by_cases ok : 0 ≤ c ∧ c ≤ 255
  · by_cases h6 : R 30 0 6 = 160
    · obtain ⟨-, rfl⟩ := h2 ok h6
      exact ⟨y, hr, R, lm, by rw [REL_feed0 h (fun z => z.2 h6)]; exact h, rfl⟩
    · obtain ⟨-, rfl⟩ := h3 ok h6
      exact ⟨y, hr, _, lm, REL_feed h ok h6, rfl⟩
  · obtain ⟨-, rfl⟩ := h1 ok
    exact ⟨y, hr, R, lm, by rw [REL_feed0 h (fun z => ok z.1)]; exact h, rfl⟩
theorem q_say (l : Launch) (G : GS) {C R : IM} (h : REL C R) (bt rt : Nat) (lm : IM) (p : Int) (w : Int) (f : Int) (hp : ri p) (hw : ri w) (hf : ri f) : Cn l (XR G) yX9_say Y_X9_say [vR 30 0, vI p, vI w, vI f] (R, rs bt rt, lm) (pI fun y m' => ∃ im2 lm2, REL (sayM C p w f) im2 ∧ m' = (im2, rs bt rt, lm2)) := by
  obtain ⟨hRC, h79, hSH⟩ := h.RC
  have hAG := h.2.2.2.1
  refine (c_X9_say l G R bt rt lm hRC p w f hp hw hf).mono ?_
  rintro r m' ⟨y, hr, im2, lm2, hR2, ha, -, h2, h1⟩
  by_cases ok : (0 ≤ p ∧ p < R 30 0 12) ∧ (0 ≤ w ∧ w ≤ 15) ∧ (0 ≤ f ∧ f ≤ 9)
  · obtain ⟨-, rfl⟩ := h2 ok
    exact ⟨y, hr, _, lm2, REL_say h ha hR2 ok, rfl⟩
  · obtain ⟨-, rfl⟩ := h1 ok
    exact ⟨y, hr, R, lm, by rw [REL_say0 h ok]; exact h, rfl⟩
theorem q_text (l : Launch) (G : GS) {C R : IM} (h : REL C R) (bt rt : Nat) (lm : IM) {F : IM} (hF : textR C F) (hRF : RI F) : Cn l (XR G) yX9_text Y_X9_text [vR 30 0] (R, rs bt rt, lm) (pI fun y m' => ∃ im2 lm2, REL (F) im2 ∧ m' = (im2, rs bt rt, lm2)) := by
  obtain ⟨hRC, h79, hSH⟩ := h.RC
  have hAG := h.2.2.2.1
  refine (c_X9_text l G R bt rt lm hRC).mono ?_
  rintro r m' ⟨y, hr, h1, h2⟩
  by_cases h3 : R 30 0 3 = 6
  · obtain ⟨-, rfl⟩ := h1 h3
    exact ⟨y, hr, R, lm, by rw [REL_text6 h hF h3]; exact h, rfl⟩
  · obtain ⟨im2, lm2, hR2, ha, -, g1, g2⟩ := h2 h3
    by_cases hf : rdF (txB R) (R 30 0 6).toNat = -1
    · obtain ⟨-, rfl⟩ := g1 hf
      exact ⟨y, hr, _, lm2, REL_text h hF hRF h3 ha (RC_text1 hRC h3 hf hR2 ha) (R 30 0 3 + 1) (Or.inr ⟨rfl, hf⟩) (fun k s z => by rw [up_app, if_neg (fun q => z ⟨q.1, q.2.2⟩)]) (by rw [up_app, if_pos ⟨rfl, rfl, rfl⟩]), rfl⟩
    · obtain ⟨-, rfl⟩ := g2 hf
      exact ⟨y, hr, im2, lm2, REL_text h hF hRF h3 ha (RC_text0 hRC hR2 ha) (R 30 0 3) (Or.inl ⟨rfl, hf⟩) (fun k s z => rfl) (by rw [ha 30 0 3 (by omega)]; rfl), rfl⟩
theorem q_live (l : Launch) (G : GS) {C R : IM} (h : REL C R) (bt rt : Nat) (lm : IM) : Cn l (XR G) yX9_live Y_X9_live [vR 30 0] (R, rs bt rt, lm) (pI fun y m' => ∃ im2 lm2, REL (liveM C) im2 ∧ m' = (im2, rs bt rt, lm2)) := by
  obtain ⟨hRC, h79, hSH⟩ := h.RC
  have hAG := h.2.2.2.1
  refine (c_X9_live l G R bt rt lm hRC hAG).mono ?_
  rintro r m' ⟨y, hr, h1, h2⟩
  by_cases h9 : R 30 0 7 = 999
  · obtain ⟨-, rfl⟩ := h1 h9
    exact ⟨y, hr, R, lm, by rw [REL_live0 h h9]; exact h, rfl⟩
  · obtain ⟨im2, lm2, -, hR2, ha, -, rfl⟩ := h2 h9
    exact ⟨y, hr, im2, lm2, REL_live h h9 hR2 ha, rfl⟩
theorem q_film (l : Launch) (G : GS) {C R : IM} (h : REL C R) (bt rt : Nat) (lm : IM) (s : Int) (p : Int) (hs : ri s) (hp : ri p) : Cn l (XR G) yX9_film Y_X9_film [vR 30 0, vI s, vI p] (R, rs bt rt, lm) (pI fun y m' => ∃ im2 lm2, REL (filmM C s p) im2 ∧ m' = (im2, rs bt rt, lm2)) := by
  obtain ⟨hRC, h79, hSH⟩ := h.RC
  have hAG := h.2.2.2.1
  refine (c_X9_film l G R bt rt lm hRC hAG h79 s p hs hp).mono ?_
  rintro r m' ⟨y, hr, h1, h2⟩
  by_cases ok : ((0 : Int) ≤ s ∧ (s : Int) ≤ 3) ∧ ((0 : Int) ≤ p ∧ p < R 30 0 12)
  · obtain ⟨-, im2, lm2, hR2, hU, -, rfl⟩ := h2 ok
    exact ⟨y, hr, _, lm2, REL_film h ok hR2 hU.1.S, rfl⟩
  · obtain ⟨-, rfl⟩ := h1 ok
    exact ⟨y, hr, R, lm, by rw [REL_film0 h ok]; exact h, rfl⟩
theorem q_image (l : Launch) (G : GS) {C R : IM} (h : REL C R) (bt rt : Nat) (lm : IM) : Cn l (XR G) yX9_image Y_X9_image [vR 30 0] (R, rs bt rt, lm) (pI fun y m' => ∃ im2 lm2, REL (imageM C) im2 ∧ m' = (im2, rs bt rt, lm2)) := by
  obtain ⟨hRC, h79, hSH⟩ := h.RC
  have hAG := h.2.2.2.1
  refine (c_X9_image l G R bt rt lm hRC.1).mono ?_
  rintro r m' ⟨y, hr, -, rfl⟩
  exact ⟨y, hr, _, lm, REL_image h, rfl⟩
theorem q_back (l : Launch) (G : GS) {C R : IM} (h : REL C R) (bt rt : Nat) (lm : IM) : Cn l (XR G) yX9_back Y_X9_back [vR 30 0] (R, rs bt rt, lm) (pI fun y m' => ∃ im2 lm2, REL (backM C) im2 ∧ m' = (im2, rs bt rt, lm2)) := by
  obtain ⟨hRC, h79, hSH⟩ := h.RC
  have hAG := h.2.2.2.1
  refine (c_X9_back l G R bt rt lm hRC.1).mono ?_
  rintro r m' ⟨y, hr, h1, h2⟩
  by_cases hk : R 30 0 46 = -1
  · obtain ⟨-, rfl⟩ := h1 hk
    exact ⟨y, hr, R, lm, by rw [REL_back0 h hk]; exact h, rfl⟩
  · obtain ⟨-, rfl⟩ := h2 hk
    exact ⟨y, hr, _, lm, REL_back h hk, rfl⟩
theorem q_sheet (l : Launch) (G : GS) {C R : IM} (h : REL C R) (bt rt : Nat) (lm : IM) (s : Int) (t : Int) (n : Int) (hs : ri s) (ht : ri t) (hn : ri n) : Cn l (XR G) yX9_sheet Y_X9_sheet [vR 30 0, vI s, vI t, vI n] (R, rs bt rt, lm) (pI fun y m' => ∃ im2 lm2, REL (sheetM C s t n) im2 ∧ y = sheetA s t n ∧ m' = (im2, rs bt rt, lm2)) := by
  obtain ⟨hRC, h79, hSH⟩ := h.RC
  have hAG := h.2.2.2.1
  refine (c_X9_sheet l G R bt rt lm s t n hs ht hn).mono ?_
  rintro r m' ⟨y, hr, h1, h2⟩
  rw [sheetA_eq]
  by_cases o1 : ¬ (((0 : Int) ≤ s ∧ (s : Int) ≤ 3) ∧ (-1 ≤ t ∧ t ≤ 2)) ∨ (0 ≤ t ∧ 40 < n)
  · obtain ⟨e, rfl⟩ := h1 o1
    rw [if_pos o1]
    exact ⟨y, hr, R, lm, by rw [REL_sheet0 (by omega)]; exact h, e, rfl⟩
  · have h3 := h2 (by omega) (by omega)
    rw [if_neg o1]
    by_cases o2 : 0 ≤ t ∧ n < 0
    · obtain ⟨e, rfl⟩ := h3.1 o2
      rw [if_pos o2]
      exact ⟨y, hr, R, lm, by rw [REL_sheet0 (by omega)]; exact h, e, rfl⟩
    · obtain ⟨e, rfl⟩ := h3.2 o2
      rw [if_neg o2]
      exact ⟨y, hr, _, lm, REL_sheet h ht hn (by omega), e, rfl⟩
theorem q_cell (l : Launch) (G : GS) {C R : IM} (h : REL C R) (bt rt : Nat) (lm : IM) (s : Int) (i : Int) (v : Int) (hs : ri s) (hi : ri i) (hv : ri v) : Cn l (XR G) yX9_cell Y_X9_cell [vR 30 0, vI s, vI i, vI v] (R, rs bt rt, lm) (pI fun y m' => ∃ im2 lm2, REL (cellM C s i v) im2 ∧ m' = (im2, rs bt rt, lm2)) := by
  obtain ⟨hRC, h79, hSH⟩ := h.RC
  have hAG := h.2.2.2.1
  refine (c_X9_cell l G R bt rt lm hRC.1 hSH s i v hs hi hv).mono ?_
  rintro r m' ⟨y, hr, h1, h2⟩
  by_cases o1 : (0 : Int) ≤ s ∧ (s : Int) ≤ 3
  · have h3 := h2 o1
    have hj := (hSH s.toNat (by omega)).1
    by_cases o2 : R 47 0 s.toNat = 1
    · by_cases o3 : 0 ≤ i ∧ i < R 49 0 s.toNat
      · obtain ⟨-, rfl⟩ := h3.2.2 o2 o3
        exact ⟨y, hr, _, lm, REL_cell h hv ⟨o1, o2, o3⟩, rfl⟩
      · obtain ⟨-, rfl⟩ := h3.2.1 o2 o3
        exact ⟨y, hr, R, lm, by rw [REL_cell0 h (fun z => o3 z.2.2)]; exact h, rfl⟩
    · obtain ⟨-, rfl⟩ := h3.1 (by omega)
      exact ⟨y, hr, R, lm, by rw [REL_cell0 h (fun z => o2 z.2.1)]; exact h, rfl⟩
  · obtain ⟨-, rfl⟩ := h1 o1
    exact ⟨y, hr, R, lm, by rw [REL_cell0 h (fun z => o1 z.1)]; exact h, rfl⟩
theorem q_copy (l : Launch) (G : GS) {C R : IM} (h : REL C R) (bt rt : Nat) (lm : IM) (a : Int) (i : Int) (b : Int) (j : Int) (n : Int) (ha : ri a) (hi : ri i) (hb : ri b) (hj : ri j) (hn : ri n) : Cn l (XR G) yX9_copy Y_X9_copy [vR 30 0, vI a, vI i, vI b, vI j, vI n] (R, rs bt rt, lm) (pI fun y m' => ∃ im2 lm2, REL (copyM C a i b j n) im2 ∧ m' = (im2, rs bt rt, lm2)) := by
  obtain ⟨hRC, h79, hSH⟩ := h.RC
  have hAG := h.2.2.2.1
  refine (c_X9_copy l G R bt rt lm hRC.1 hSH a i b j n ha hi hb hj hn).mono ?_
  rintro r m' ⟨y, hr, h1, h2⟩
  by_cases o1 : ((0 : Int) ≤ a ∧ (a : Int) ≤ 3) ∧ (0 : Int) ≤ b ∧ (b : Int) ≤ 3
  · have h3 := h2 o1
    have ja := (hSH a.toNat (by omega)).1
    have jb := (hSH b.toNat (by omega)).1
    by_cases o2 : R 47 0 a.toNat = 0 ∨ R 47 0 b.toNat = 0
    · obtain ⟨-, rfl⟩ := h3.1 o2
      exact ⟨y, hr, R, lm, by rw [REL_copy0 h (by omega)]; exact h, rfl⟩
    · have h4 := h3.2 (by omega) (by omega)
      by_cases o3 : R 48 0 a.toNat = R 48 0 b.toNat
      · have h5 := h4.2 o3
        by_cases o4 : ((0 : Int) ≤ i ∧ (0 : Int) ≤ n ∧ (i : Int) + (n : Int) ≤ R 49 0 (Int.toNat a)) ∧ (0 : Int) ≤ j ∧ (0 : Int) ≤ n ∧ (j : Int) + (n : Int) ≤ R 49 0 (Int.toNat b)
        · obtain ⟨-, rfl⟩ := h5.2 o4
          exact ⟨y, hr, _, lm, REL_copy h ⟨o1, by omega, o3, o4⟩, rfl⟩
        · obtain ⟨-, rfl⟩ := h5.1 o4
          exact ⟨y, hr, R, lm, by rw [REL_copy0 h (fun z => o4 z.2.2.2)]; exact h, rfl⟩
      · obtain ⟨-, rfl⟩ := h4.1 o3
        exact ⟨y, hr, R, lm, by rw [REL_copy0 h (fun z => o3 z.2.2.1)]; exact h, rfl⟩
  · obtain ⟨-, rfl⟩ := h1 o1
    exact ⟨y, hr, R, lm, by rw [REL_copy0 h (fun z => o1 z.1)]; exact h, rfl⟩
theorem q_people (l : Launch) (G : GS) {C R : IM} (h : REL C R) (bt rt : Nat) (lm : IM) (s : Int) (t : Int) (f : Int) (n : Int) (hs : ri s) (ht : ri t) (hf : ri f) (hn : ri n) : Cn l (XR G) yX9_people Y_X9_people [vR 30 0, vI s, vI t, vI f, vI n] (R, rs bt rt, lm) (pI fun y m' => ∃ im2 lm2, REL (peopleM C s t f n) im2 ∧ m' = (im2, rs bt rt, lm2)) := by
  obtain ⟨hRC, h79, hSH⟩ := h.RC
  have hAG := h.2.2.2.1
  refine (c_X9_people l G R bt rt lm hRC hSH s t f n hs ht hf hn).mono ?_
  rintro r m' ⟨y, hr, h1, h2⟩
  by_cases o1 : ((0 : Int) ≤ s ∧ (s : Int) ≤ 3) ∧ (0 ≤ t ∧ t ≤ 2) ∧ (0 : Int) ≤ n ∧ (n : Int) ≤ 5
  · have h3 := h2 o1
    have js := (hSH s.toNat (by omega)).1
    by_cases o2 : R 47 0 s.toNat = 1
    · have h4 := h3.2 o2
      by_cases o3 : R 48 0 s.toNat = t
      · obtain ⟨-, rfl⟩ := h4.2 o3
        exact ⟨y, hr, _, lm, (REL_people h hf ⟨o1, o2, o3⟩).2, rfl⟩
      · obtain ⟨-, rfl⟩ := h4.1 o3
        exact ⟨y, hr, R, lm, by rw [(REL_people0 h (fun z => o3 z.2.2)).2]; exact h, rfl⟩
    · obtain ⟨-, rfl⟩ := h3.1 (by omega)
      exact ⟨y, hr, R, lm, by rw [(REL_people0 h (fun z => o2 z.2.1)).2]; exact h, rfl⟩
  · obtain ⟨-, rfl⟩ := h1 o1
    exact ⟨y, hr, R, lm, by rw [(REL_people0 h (fun z => o1 z.1)).2]; exact h, rfl⟩
