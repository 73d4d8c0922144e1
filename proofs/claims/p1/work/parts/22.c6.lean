/-! Foresight -/
/-- what a look at a cell needs -/
theorem cell_of {im : IM} {w man : Nat} (hW : WI im w) (hm : (man : Int) < im 18 w 3) : 0 ≤ im 18 w 7 ∧ im 18 w 7 < 6 ∧ goodT im (im 18 w 7).toNat ∧ 0 ≤ im 21 (5 * w + man) 0 ∧ im 21 (5 * w + man) 0 < 6 ∧ 0 ≤ im 21 (5 * w + man) 1 ∧ im 21 (5 * w + man) 1 < 10 ∧ (∀ gap, gap < 10 → im 22 (5 * w + man) gap ≠ -1 → 0 ≤ im 23 (5 * w + man) gap ∧ im 23 (5 * w + man) gap ≤ 3000) ∧ 0 ≤ im 18 w 4 ∧ im 18 w 4 ≤ 3000 ∧ man < 5 := by
  obtain ⟨h1, h2, h3, h4, h5, h6⟩ := hW
  have hp := h6 man hm
  refine ⟨h4.1, h4.2, h5, hp.1.1, hp.1.2, hp.2.1.1, hp.2.1.2, fun gap hg hne => ?_, h2.1, by omega, by omega⟩
  have := (hp.2.2 gap hg).2.2 hne
  omega
def whenF (im : IM) (w n N : Nat) : Int := if ((N / 10 : Nat) : Int) < im 18 w 3 then goesW im w (N / 10) (N % 10) n else -1
def costF (im : IM) (w n N : Nat) : Int := if whenF im w n N = -1 then 0 else bearsW im w (N / 10) (N % 10) (whenF im w n N) (chI (im 18 w 5) (im 18 w 4 + whenF im w n N))
def sumF (im : IM) (w n : Nat) : Nat → Int
  | 0 => 0
  | N + 1 => sumF im w n N + costF im w n N
def cntF (im : IM) (w n : Nat) : Nat → Int
  | 0 => 0
  | N + 1 => cntF im w n N + (if whenF im w n N = -1 then 0 else 1)
def firstF (im : IM) (w n : Nat) : Nat → Int
  | 0 => -1
  | N + 1 => if whenF im w n N ≠ -1 ∧ (firstF im w n N = -1 ∨ whenF im w n N < whenF im w n (firstF im w n N).toNat) then (N : Int) else firstF im w n N
theorem whenF_in (im : IM) (w n N : Nat) : whenF im w n N = -1 ∨ 0 ≤ whenF im w n N ∧ whenF im w n N < n := by
  unfold whenF
  split
  · exact goesW_in _ _ _ _ _
  · exact Or.inl rfl
theorem beK_in {T : Nat → (Nat → Int) → Int} (hT : ∀ a b, 0 ≤ T a b ∧ T a b ≤ 99) {k n a b c d x y : Int} (n0 : 0 ≤ n) (n1 : n < 10) : 0 ≤ beK T k n a b c d x y ∧ beK T k n a b c d x y ≤ 700 := bearsK_in n0 n1 (hT _ _).1 (hT _ _).2
theorem bearsW_in {im : IM} {w man : Nat} (hW : WI im w) (hm : (man : Int) < im 18 w 3) (gap : Nat) (x c : Int) : 0 ≤ bearsW im w man gap x c ∧ bearsW im w man gap x c ≤ 700 := beK_in (fun a b => tellV_in _ _ _ _) (hW.2.2.2.2.2 man hm).2.1.1 (hW.2.2.2.2.2 man hm).2.1.2
theorem costF_in {im : IM} {w n : Nat} (hW : WI im w) (N : Nat) : 0 ≤ costF im w n N ∧ costF im w n N ≤ 700 := by
  unfold costF
  split
  · omega
  · rename_i h
    by_cases hm : ((N / 10 : Nat) : Int) < im 18 w 3
    · exact bearsW_in hW hm _ _ _
    · exact absurd (by unfold whenF; rw [if_neg hm]) h
theorem sumF_in {im : IM} {w n : Nat} (hW : WI im w) (N : Nat) : 0 ≤ sumF im w n N ∧ sumF im w n N ≤ 700 * N := by
  induction N with
  | zero => exact ⟨Int.le_refl 0, Int.le_refl 0⟩
  | succ N ih =>
    have h : sumF im w n (N + 1) = sumF im w n N + costF im w n N := rfl
    have := costF_in (n := n) hW N
    rw [h]
    omega
theorem cntF_in (im : IM) (w n N : Nat) : 0 ≤ cntF im w n N ∧ cntF im w n N ≤ N := by
  induction N with
  | zero => exact ⟨Int.le_refl 0, Int.le_refl 0⟩
  | succ N ih =>
    have h : cntF im w n (N + 1) = cntF im w n N + (if whenF im w n N = -1 then 0 else 1) := rfl
    rw [h]
    split <;> constructor <;> omega
theorem firstF_in (im : IM) (w n N : Nat) : firstF im w n N = -1 ∨ 0 ≤ firstF im w n N ∧ firstF im w n N < N := by
  induction N with
  | zero => exact Or.inl rfl
  | succ N ih =>
    have h : firstF im w n (N + 1) = if whenF im w n N ≠ -1 ∧ (firstF im w n N = -1 ∨ whenF im w n N < whenF im w n (firstF im w n N).toNat) then (N : Int) else firstF im w n N := rfl
    rw [h]
    split
    · right; omega
    · omega
/-- Foresight.note -/
def noteM (im : IM) (N : Nat) (bad : Int) : IM := if im 9 0 6 = -1 ∨ im 10 0 N < im 10 0 (im 9 0 6).toNat then up (up (up (up im 11 0 N bad) 9 0 4 (im 9 0 4 + bad)) 9 0 5 (im 9 0 5 + 1)) 9 0 6 (N : Int) else up (up (up im 11 0 N bad) 9 0 4 (im 9 0 4 + bad)) 9 0 5 (im 9 0 5 + 1)

set_option maxHeartbeats 4000000 in
theorem c_X1_note (l : Launch) (G : GS) (im : IM) (bt rt : Nat) (lm : IM) (hR : RI im) (N : Nat) (hN : N < 50) (bad : Int) (f0 : im 9 0 6 = -1 ∨ 0 ≤ im 9 0 6 ∧ im 9 0 6 < 50) : Cn l (XC G) yX1_note Y_X1_note [vR 9 0, vI (N : Int), vI bad] (im, rs bt rt, lm) (pV fun m' => m' = (noteM im N bad, rs bt rt, lm)) := by
  refine cn_of (by decide) (okC G) rfl (Nat.le_of_ble_eq_true rfl) ?_
  intro M ad hMl F
  subst hMl
  refine wp_pad 0 ?_
  show Wp M (XC G) ad Y_X1_note (pV fun m' => m' = (noteM im N bad, rs bt rt, lm)) 0 [some (vR 9 0), some (vI (N : Int)), some (vI bad)] [] (im, rs bt rt, lm)
  refine q_aload_n (t := 1) F dX1_note_0 rfl rfl rfl ?_
  refine g_X1_15 (t := 4) F dX1_note_1 rfl rfl ?_
  refine q_iload_n (t := 5) F dX1_note_4 rfl rfl rfl ?_
  refine q_iload_n (t := 6) F dX1_note_5 rfl rfl rfl ?_
  first | refine stN_11 (t := 7) F dX1_note_6 (by omega) rfl ?_ | refine st_11 (t := 7) F dX1_note_6 (by omega) (by omega) rfl ?_
  refine q_aload_n (t := 8) F dX1_note_7 rfl rfl rfl ?_
  refine q_dupR (t := 9) F dX1_note_8 rfl ?_
  refine g_X1_24 (t := 12) F dX1_note_9 rfl rfl ?_
  try simp only [up_app, row_app, scr_app, cpy_app, Nat.reduceEqDiff, Int.reduceToNat, Int.toNat_natCast, and_true, true_and, and_false, false_and, and_self, reduceIte]
  refine q_iload_n (t := 13) F dX1_note_12 rfl rfl rfl ?_
  refine q_iadd (t := 14) F dX1_note_13 rfl ?_
  refine p_X1_24 (t := 17) F dX1_note_14 rfl rfl ?_
  refine q_aload_n (t := 18) F dX1_note_17 rfl rfl rfl ?_
  refine q_dupR (t := 19) F dX1_note_18 rfl ?_
  refine g_X1_28 (t := 22) F dX1_note_19 rfl rfl ?_
  try simp only [up_app, row_app, scr_app, cpy_app, Nat.reduceEqDiff, Int.reduceToNat, Int.toNat_natCast, and_true, true_and, and_false, false_and, and_self, reduceIte]
  refine q_iconst (t := 23) F dX1_note_22 rfl ?_
  refine q_iadd (t := 24) F dX1_note_23 rfl ?_
  refine p_X1_28 (t := 27) F dX1_note_24 rfl rfl ?_
  refine q_aload_n (t := 28) F dX1_note_27 rfl rfl rfl ?_
  refine g_X1_31 (t := 31) F dX1_note_28 rfl rfl ?_
  try simp only [up_app, row_app, scr_app, cpy_app, Nat.reduceEqDiff, Int.reduceToNat, Int.toNat_natCast, and_true, true_and, and_false, false_and, and_self, reduceIte]
  refine q_iconst (t := 32) F dX1_note_31 rfl ?_
  refine q_icmp_eq (t := 35) (u := 53) F dX1_note_32 (by first | exact hR _ _ _ | (constructor <;> omega)) (by first | exact hR _ _ _ | (constructor <;> omega)) (by decide) rfl (fun c32 => ?_) (fun c32 => ?_)
  · refine q_aload_n (t := 54) F dX1_note_53 rfl rfl rfl ?_
    refine q_iload_n (t := 55) F dX1_note_54 rfl rfl rfl ?_
    refine p_X1_31 (t := 58) F dX1_note_55 rfl rfl ?_
    refine q_vret F dX1_note_58 rfl ?_
    refine ⟨rfl, ?_⟩
    show (_ : Mem) = _
    unfold noteM
    first | (rw [if_pos (by omega)]) | (rw [if_neg (by omega)])
  · refine q_aload_n (t := 36) F dX1_note_35 rfl rfl rfl ?_
    refine g_X1_9 (t := 39) F dX1_note_36 rfl rfl ?_
    refine q_iload_n (t := 40) F dX1_note_39 rfl rfl rfl ?_
    first | refine ldN_10 (t := 41) F dX1_note_40 (by omega) rfl ?_ | refine ld_10 (t := 41) F dX1_note_40 (by omega) (by omega) rfl ?_
    try simp only [up_app, row_app, scr_app, cpy_app, Nat.reduceEqDiff, Int.reduceToNat, Int.toNat_natCast, and_true, true_and, and_false, false_and, and_self, reduceIte]
    refine q_aload_n (t := 42) F dX1_note_41 rfl rfl rfl ?_
    refine g_X1_9 (t := 45) F dX1_note_42 rfl rfl ?_
    refine q_aload_n (t := 46) F dX1_note_45 rfl rfl rfl ?_
    refine g_X1_31 (t := 49) F dX1_note_46 rfl rfl ?_
    try simp only [up_app, row_app, scr_app, cpy_app, Nat.reduceEqDiff, Int.reduceToNat, Int.toNat_natCast, and_true, true_and, and_false, false_and, and_self, reduceIte]
    refine ld_10 (t := 50) F dX1_note_49 (by omega) (by omega) rfl ?_
    try simp only [up_app, row_app, scr_app, cpy_app, Nat.reduceEqDiff, Int.reduceToNat, Int.toNat_natCast, and_true, true_and, and_false, false_and, and_self, reduceIte]
    refine q_icmp_ge (t := 53) (u := 58) F dX1_note_50 (by first | exact hR _ _ _ | (constructor <;> omega)) (by first | exact hR _ _ _ | (constructor <;> omega)) (by decide) rfl (fun c50 => ?_) (fun c50 => ?_)
    · refine q_vret F dX1_note_58 rfl ?_
      refine ⟨rfl, ?_⟩
      show (_ : Mem) = _
      unfold noteM
      first | (rw [if_pos (by omega)]) | (rw [if_neg (by omega)])
    · refine q_aload_n (t := 54) F dX1_note_53 rfl rfl rfl ?_
      refine q_iload_n (t := 55) F dX1_note_54 rfl rfl rfl ?_
      refine p_X1_31 (t := 58) F dX1_note_55 rfl rfl ?_
      refine q_vret F dX1_note_58 rfl ?_
      refine ⟨rfl, ?_⟩
      show (_ : Mem) = _
      unfold noteM
      first | (rw [if_pos (by omega)]) | (rw [if_neg (by omega)])

/-- the first N cells are foreseen -/
def FI (im im2 : IM) (w n N : Nat) : Prop := ag [5, 9, 10, 11, 16, 17] im2 im ∧ (∀ M, M < N → im2 10 0 M = whenF im w n M ∧ im2 11 0 M = costF im w n M) ∧ im2 9 0 4 = sumF im w n N ∧ im2 9 0 5 = cntF im w n N ∧ im2 9 0 6 = firstF im w n N
/-- a cell, its when and cost laid -/
def laid (im2 : IM) (N : Nat) (x c : Int) : IM := up (up im2 10 0 N x) 11 0 N c
theorem FI_none {im im2 im3 : IM} {w n N : Nat} (h : FI im im2 w n N) (hx : whenF im w n N = -1) (h3 : ag [5, 16, 17] im3 (laid im2 N (-1) 0)) : FI im im3 w n (N + 1) := by
  obtain ⟨g1, g2, g3, g4, g5⟩ := h
  have e9 : ∀ s, im3 9 0 s = im2 9 0 s := fun s => h3 9 (by decide) 0 s
  refine ⟨?_, fun M hM => ?_, ?_, ?_, ?_⟩
  · refine ag.trans (h3.mono (by decide)) ?_
    exact ag_up (ag_up g1 (by decide)) (by decide)
  · rw [h3 10 (by decide), h3 11 (by decide)]
    unfold laid
    by_cases hMN : M = N
    · subst hMN
      simp only [up_app, Nat.reduceEqDiff, false_and, true_and, if_false, if_true]
      exact ⟨hx.symm, by unfold costF; rw [if_pos hx]⟩
    · have := g2 M (by omega)
      simp only [up_app, Nat.reduceEqDiff, false_and, true_and, if_false, if_neg hMN]
      exact this
  · rw [e9, g3]
    show _ = sumF im w n N + costF im w n N
    unfold costF
    rw [if_pos hx, Int.add_zero]
  · rw [e9, g4]
    show _ = cntF im w n N + _
    rw [if_pos hx, Int.add_zero]
  · rw [e9, g5]
    show _ = if whenF im w n N ≠ -1 ∧ _ then _ else _
    rw [if_neg (fun z => z.1 hx)]
theorem FI_note {im im2 im3 : IM} {w n N : Nat} (h : FI im im2 w n N) (hx : whenF im w n N ≠ -1) (h3 : ag [5, 16, 17] im3 (laid im2 N (whenF im w n N) 0)) : FI im (noteM im3 N (costF im w n N)) w n (N + 1) := by
  obtain ⟨g1, g2, g3, g4, g5⟩ := h
  have e9 : ∀ s, im3 9 0 s = im2 9 0 s := fun s => h3 9 (by decide) 0 s
  have hf := firstF_in im w n N
  have e10 : im3 10 0 N = whenF im w n N := by
    rw [h3 10 (by decide)]
    simp only [laid, up_app, Nat.reduceEqDiff, false_and, true_and, if_false, if_true]
  have e10' : firstF im w n N ≠ -1 → im3 10 0 (firstF im w n N).toNat = whenF im w n (firstF im w n N).toNat := by
    intro hne
    have hlt : (firstF im w n N).toNat < N := by omega
    rw [h3 10 (by decide), ← (g2 _ hlt).1]
    have hne2 : (firstF im w n N).toNat ≠ N := by omega
    simp only [laid, up_app, Nat.reduceEqDiff, false_and, true_and, if_false, if_neg hne2]
  have hc : (im3 9 0 6 = -1 ∨ im3 10 0 N < im3 10 0 (im3 9 0 6).toNat) ↔ (whenF im w n N ≠ -1 ∧ (firstF im w n N = -1 ∨ whenF im w n N < whenF im w n (firstF im w n N).toNat)) := by
    rw [e9, g5, e10]
    by_cases hne : firstF im w n N = -1
    · simp [hne, hx]
    · rw [e10' hne]
      simp [hne, hx]
  have hk : ∀ k i s, k ≠ 9 → k ≠ 11 → noteM im3 N (costF im w n N) k i s = im3 k i s := by
    intro k i s h1 h2
    unfold noteM
    split <;> simp [up_app, h1, h2]
  have h11 : ∀ s, noteM im3 N (costF im w n N) 11 0 s = if s = N then costF im w n N else im3 11 0 s := by
    intro s
    unfold noteM
    split <;> simp [up_app]
  have h94 : noteM im3 N (costF im w n N) 9 0 4 = im3 9 0 4 + costF im w n N := by
    unfold noteM
    split <;> simp [up_app]
  have h95 : noteM im3 N (costF im w n N) 9 0 5 = im3 9 0 5 + 1 := by
    unfold noteM
    split <;> simp [up_app]
  have h96 : noteM im3 N (costF im w n N) 9 0 6 = if whenF im w n N ≠ -1 ∧ (firstF im w n N = -1 ∨ whenF im w n N < whenF im w n (firstF im w n N).toNat) then (N : Int) else im3 9 0 6 := by
    unfold noteM
    by_cases hcc : im3 9 0 6 = -1 ∨ im3 10 0 N < im3 10 0 (im3 9 0 6).toNat
    · rw [if_pos hcc, if_pos (hc.mp hcc)]
      simp [up_app]
    · rw [if_neg hcc, if_neg (fun z => hcc (hc.mpr z))]
      simp [up_app]
  refine ⟨?_, fun M hM => ?_, ?_, ?_, ?_⟩
  · intro k hk2 i s
    rw [hk k i s (fun z => hk2 (by rw [z]; decide)) (fun z => hk2 (by rw [z]; decide))]
    refine ((ag.trans (h3.mono (by decide)) ?_) : ag [5, 9, 10, 11, 16, 17] im3 im) k hk2 i s
    exact ag_up (ag_up g1 (by decide)) (by decide)
  · rw [hk 10 0 M (by decide) (by decide), h11]
    by_cases hMN : M = N
    · subst hMN
      rw [if_pos rfl, e10]
      exact ⟨rfl, rfl⟩
    · have := g2 M (by omega)
      rw [if_neg hMN, h3 10 (by decide), h3 11 (by decide)]
      simp only [laid, up_app, Nat.reduceEqDiff, false_and, true_and, if_false, if_neg hMN]
      exact this
  · rw [h94, e9, g3]; rfl
  · rw [h95, e9, g4]
    show _ = cntF im w n N + _
    rw [if_neg hx]
  · rw [h96, e9, g5]; rfl
theorem laid_ag {im2 im4 : IM} {N : Nat} {x : Int} (h : ag [5, 16, 17] im4 (up (up im2 10 0 N (-1)) 11 0 N 0)) : ag [5, 16, 17] (up im4 10 0 N x) (laid im2 N x 0) := by
  intro k hk i s
  have := h k hk i s
  unfold laid
  simp only [up_app] at this ⊢
  by_cases h1 : k = 10 ∧ i = 0 ∧ s = N
  · rw [if_pos h1, if_neg (by omega), if_pos h1]
  · rw [if_neg h1, this, if_neg h1, if_neg h1]
theorem RI_note {im : IM} {N : Nat} {b : Int} (h : RI im) (hN : N < 50) (hb : ri b) (h1 : ri (im 9 0 4 + b)) (h2 : ri (im 9 0 5 + 1)) : RI (noteM im N b) := by
  unfold noteM
  split
  · exact RI_up (RI_up (RI_up (RI_up h hb) h1) h2) (by constructor <;> omega)
  · exact RI_up (RI_up (RI_up h hb) h1) h2
theorem FI_RI {im im2 : IM} {w n N : Nat} (h : FI im im2 w n N) (hW : WI im w) (hN : N < 50) : ri (im2 9 0 4 + costF im w n N) ∧ ri (im2 9 0 5 + 1) := by
  obtain ⟨g1, g2, g3, g4, g5⟩ := h
  have h1 := sumF_in (n := n) hW N
  have h2 := costF_in (n := n) hW N
  have h3 := cntF_in im w n N
  rw [g3, g4]
  constructor <;> constructor <;> omega

set_option maxHeartbeats 4000000 in
theorem c_X1_look (l : Launch) (G : GS) (im : IM) (bt rt : Nat) (lm : IM) (w : Nat) (hw : w < 3) (hbt : bt < 6) (hR : RI im) (hW : WI im w) (n : Nat) (hn : n ≤ 60) : Cn l (XC G) yX1_look Y_X1_look [vR 9 0, vR 18 w, vR 16 0, vI (n : Int)] (im, rs bt rt, lm) (pV fun m' => ∃ im' bt', bt' < 6 ∧ RI im' ∧ FI im im' w n 50 ∧ m' = (im', rs bt' rt, lm)) := by
  refine cn_of (by decide) (okC G) rfl (Nat.le_of_ble_eq_true rfl) ?_
  intro M ad hMl F
  subst hMl
  refine wp_pad 1 ?_
  show Wp M (XC G) ad Y_X1_look (pV fun m' => ∃ im' bt', bt' < 6 ∧ RI im' ∧ FI im im' w n 50 ∧ m' = (im', rs bt' rt, lm)) 0 [some (vR 9 0), some (vR 18 w), some (vR 16 0), some (vI (n : Int)), none] [] (im, rs bt rt, lm)
  refine q_aload_n (t := 1) F dX1_look_0 rfl rfl rfl ?_
  refine q_iconst (t := 2) F dX1_look_1 rfl ?_
  refine p_X1_24 (t := 5) F dX1_look_2 rfl rfl ?_
  refine q_aload_n (t := 6) F dX1_look_5 rfl rfl rfl ?_
  refine q_iconst (t := 7) F dX1_look_6 rfl ?_
  refine p_X1_28 (t := 10) F dX1_look_7 rfl rfl ?_
  refine q_aload_n (t := 11) F dX1_look_10 rfl rfl rfl ?_
  refine q_iconst (t := 12) F dX1_look_11 rfl ?_
  refine p_X1_31 (t := 15) F dX1_look_12 rfl rfl ?_
  refine q_iconst (t := 16) F dX1_look_15 rfl ?_
  refine q_istore (t := 18) F dX1_look_16 (by decide) rfl rfl ?_
  have L18 : ∀ (fz : Nat) (N : Nat) (im2 : IM) (bt2 : Nat), 50 - N < fz → N ≤ 50 → bt2 < 6 → RI im2 → FI im im2 w n N → Wp M (XC G) ad Y_X1_look (pV fun m' => ∃ im' bt', bt' < 6 ∧ RI im' ∧ FI im im' w n 50 ∧ m' = (im', rs bt' rt, lm)) 18 [some (vR 9 0), some (vR 18 w), some (vR 16 0), some (vI (n : Int)), some (vI (N : Int))] [] (im2, rs bt2 rt, lm) := by
    intro fz
    induction fz with
    | zero => intro N im2 bt2 h; exact absurd h (Nat.not_lt_zero _)
    | succ fz ih =>
      have ih18 := ih
      intro N im2 bt2 hmeas hN hbt2 hR2 hFI
      have e3 : im2 18 w 3 = im 18 w 3 := hFI.1 18 (by decide) w 3
      refine q_iload (t := 20) F dX1_look_18 rfl rfl ?_
      refine q_bipush (t := 22) F dX1_look_20 (by decide) rfl ?_
      refine q_icmp_ge (t := 25) (u := 128) F dX1_look_22 (by first | exact hR _ _ _ | (constructor <;> omega)) (by first | exact hR _ _ _ | (constructor <;> omega)) (by decide) rfl (fun c22 => ?_) (fun c22 => ?_)
      · refine q_vret F dX1_look_128 rfl ?_
        have eN : N = 50 := by omega
        subst eN
        exact ⟨rfl, im2, bt2, hbt2, hR2, hFI, rfl⟩
      · refine q_aload_n (t := 26) F dX1_look_25 rfl rfl rfl ?_
        refine g_X1_9 (t := 29) F dX1_look_26 rfl rfl ?_
        refine q_iload (t := 31) F dX1_look_29 rfl rfl ?_
        refine q_iconst (t := 32) F dX1_look_31 rfl ?_
        first | refine stN_10 (t := 33) F dX1_look_32 (by omega) rfl ?_ | refine st_10 (t := 33) F dX1_look_32 (by omega) (by omega) rfl ?_
        refine q_aload_n (t := 34) F dX1_look_33 rfl rfl rfl ?_
        refine g_X1_15 (t := 37) F dX1_look_34 rfl rfl ?_
        refine q_iload (t := 39) F dX1_look_37 rfl rfl ?_
        refine q_iconst (t := 40) F dX1_look_39 rfl ?_
        first | refine stN_11 (t := 41) F dX1_look_40 (by omega) rfl ?_ | refine st_11 (t := 41) F dX1_look_40 (by omega) (by omega) rfl ?_
        refine q_iload (t := 43) F dX1_look_41 rfl rfl ?_
        refine q_bipush (t := 45) F dX1_look_43 (by decide) rfl ?_
        refine q_idiv (t := 46) F dX1_look_45 (by first | exact hR _ _ _ | (constructor <;> omega)) (by first | exact hR _ _ _ | (constructor <;> omega)) (by omega) (by omega) rfl ?_
        refine q_aload_n (t := 47) F dX1_look_46 rfl rfl rfl ?_
        refine g_X1_34 (t := 50) F dX1_look_47 rfl (by omega) rfl ?_
        try simp only [up_app, row_app, scr_app, cpy_app, Nat.reduceEqDiff, Int.reduceToNat, Int.toNat_natCast, and_true, true_and, and_false, false_and, and_self, reduceIte]
        rw [e3]
        refine q_icmp_lt (t := 53) (u := 56) F dX1_look_50 (by first | exact hR _ _ _ | (constructor <;> omega)) (by first | exact hR _ _ _ | (constructor <;> omega)) (by decide) rfl (fun c50 => ?_) (fun c50 => ?_)
        · refine q_aload_n (t := 57) F dX1_look_56 rfl rfl rfl ?_
          refine q_aload_n (t := 58) F dX1_look_57 rfl rfl rfl ?_
          refine q_iload (t := 60) F dX1_look_58 rfl rfl ?_
          refine q_bipush (t := 62) F dX1_look_60 (by decide) rfl ?_
          refine q_idiv (t := 63) F dX1_look_62 (by first | exact hR _ _ _ | (constructor <;> omega)) (by first | exact hR _ _ _ | (constructor <;> omega)) (by omega) (by omega) rfl ?_
          refine q_iload (t := 65) F dX1_look_63 rfl rfl ?_
          refine q_bipush (t := 67) F dX1_look_65 (by decide) rfl ?_
          refine q_irem (t := 68) F dX1_look_67 (by first | exact hR _ _ _ | (constructor <;> omega)) (by first | exact hR _ _ _ | (constructor <;> omega)) (by omega) (by omega) rfl ?_
          rw [show (N : Int) / 10 = ((N / 10 : Nat) : Int) by omega, show (N : Int) % 10 = ((N % 10 : Nat) : Int) by omega]
          have hB : ag [5, 9, 10, 11, 16, 17] (up (up im2 10 0 N (-1)) 11 0 N 0) im := ag_up (ag_up hFI.1 (by decide)) (by decide)
          have hRB : RI (up (up im2 10 0 N (-1)) 11 0 N 0) := RI_up (RI_up hR2 ⟨by omega, by omega⟩) ⟨by omega, by omega⟩
          have hWB := WI_ag hB (by decide) (by decide) (by decide) (by decide) (by decide) (by decide) hW
          have hmB : ((N / 10 : Nat) : Int) < up (up im2 10 0 N (-1)) 11 0 N 0 18 w 3 := by
            show ((N / 10 : Nat) : Int) < im2 18 w 3
            omega
          have hgoB : ∀ m, goesW (up (up im2 10 0 N (-1)) 11 0 N 0) w (N / 10) (N % 10) m = goesW im w (N / 10) (N % 10) m := fun m => goesW_ag hB (by decide) (by decide) (by decide) (by decide) (by decide) (by decide) _ _ _ _
          have hbeB : ∀ x c, bearsW (up (up im2 10 0 N (-1)) 11 0 N 0) w (N / 10) (N % 10) x c = bearsW im w (N / 10) (N % 10) x c := fun x c => bearsW_ag hB (by decide) (by decide) (by decide) (by decide) (by decide) (by decide) _ _ _ _ _
          have e5B : im2 18 w 5 = im 18 w 5 := hFI.1 18 (by decide) w 5
          have e4B : im2 18 w 4 = im 18 w 4 := hFI.1 18 (by decide) w 4
          have ewB : im2 22 (5 * w + N / 10) (N % 10) = im 22 (5 * w + N / 10) (N % 10) := hFI.1 22 (by decide) _ _
          obtain ⟨B, hBd⟩ : ∃ B, B = up (up im2 10 0 N (-1)) 11 0 N 0 := ⟨_, rfl⟩
          have eb3 : B 18 w 3 = im2 18 w 3 := by rw [hBd]; rfl
          have eb4 : B 18 w 4 = im2 18 w 4 := by rw [hBd]; rfl
          have eb5 : B 18 w 5 = im2 18 w 5 := by rw [hBd]; rfl
          have eb22 : ∀ i s, B 22 i s = im2 22 i s := by intro i s; rw [hBd]; rfl
          rw [← hBd] at hB hRB hWB hmB hgoB hbeB ⊢
          obtain ⟨r0, r1, hT, k0, k1, n0, n1, hga, hh0, hh1, hm5⟩ := cell_of hWB hmB
          refine wp_callV (t := 71) [_, _, _] F dX1_look_68 k_X0_look v_X0_look ml_X1_39 rfl rfl rfl rfl (Nat.le_of_ble_eq_true rfl) (by decide) (m_16 (by omega)) (c_X0_look _ G B bt2 rt lm w (N / 10) (N % 10) hw hm5 (by omega) r0 r1) rfl (kV ?_)
          rintro m' rfl
          have hRl := RI_look (w := w) (p := N / 10) (g := N % 10) hRB (by omega)
          have hbt4 : (B 18 w 7).toNat < 6 := by omega
          refine q_aload_n (t := 72) F dX1_look_71 rfl rfl rfl ?_
          refine g_X1_9 (t := 75) F dX1_look_72 rfl rfl ?_
          refine q_iload (t := 77) F dX1_look_75 rfl rfl ?_
          refine q_aload_n (t := 78) F dX1_look_77 rfl rfl rfl ?_
          refine q_iload_n (t := 79) F dX1_look_78 rfl rfl rfl ?_
          refine wp_callV (t := 82) [_] F dX1_look_79 k_X0_goesOffIn v_X0_goesOffIn ml_X1_45 rfl rfl rfl rfl (Nat.le_of_ble_eq_true rfl) (by decide) (m_16 (by omega)) (c_X0_goesOffIn _ G (lookM B w (N / 10) (N % 10)) (B 18 w 7).toNat rt lm n hn hbt4 hRl (goodT_congr (fun s => rfl) (fun s => rfl) hT) k0 k1 n0 n1 (hga _ (by omega)) hh0 hh1) rfl (kI ?_)
          rintro x m' ⟨hx, xa, xb, xg, hxa, hxb, hxg, rfl⟩
          rw [look_goes, hgoB] at hx
          have hwx : x = whenF im w n N := by
            unfold whenF
            rw [if_pos (by omega)]
            exact hx
          have hwi := whenF_in im w n N
          have hR5 : RI (up (scr (lookM B w (N / 10) (N % 10)) xa xb xg) 10 0 N x) := RI_up (RI_scr hRl hxa hxb hxg) (by constructor <;> omega)
          have hagx : ag [5, 16, 17] (up (scr (lookM B w (N / 10) (N % 10)) xa xb xg) 10 0 N x) (laid im2 N x 0) := by
            refine laid_ag ?_
            rw [← hBd]
            exact ((scr_ag _ _ _ _).mono (by decide)).trans ((look_ag B w _ _).mono (by decide))
          first | refine stN_10 (t := 83) F dX1_look_82 (by omega) rfl ?_ | refine st_10 (t := 83) F dX1_look_82 (by omega) (by omega) rfl ?_
          refine q_aload_n (t := 84) F dX1_look_83 rfl rfl rfl ?_
          refine g_X1_9 (t := 87) F dX1_look_84 rfl rfl ?_
          refine q_iload (t := 89) F dX1_look_87 rfl rfl ?_
          first | refine ldN_10 (t := 90) F dX1_look_89 (by omega) rfl ?_ | refine ld_10 (t := 90) F dX1_look_89 (by omega) (by omega) rfl ?_
          try simp only [up_app, row_app, scr_app, cpy_app, Nat.reduceEqDiff, Int.reduceToNat, Int.toNat_natCast, and_true, true_and, and_false, false_and, and_self, reduceIte]
          refine q_iconst (t := 91) F dX1_look_90 rfl ?_
          refine q_icmp_eq (t := 94) (u := 122) F dX1_look_91 (by constructor <;> omega) (by constructor <;> omega) (by decide) rfl (fun c91 => ?_) (fun c91 => ?_)
          · refine q_iinc (t := 125) F dX1_look_122 rfl (by decide) rfl rfl ?_
            refine q_goto (t := 18) F dX1_look_125 (by decide) ?_
            first
              | exact ih18 (N + 1) _ _ (by omega) (by omega) hbt2 (RI_up (RI_up hR2 ⟨by omega, by omega⟩) ⟨by omega, by omega⟩) (FI_none hFI (by unfold whenF; rw [if_neg (by omega)]) (ag_rfl _ _))
              | exact ih18 (N + 1) _ _ (by omega) (by omega) hbt4 hR5 (FI_none hFI (hwx.symm.trans c91) (by rw [show laid im2 N (-1) 0 = laid im2 N x 0 by rw [c91]]; exact hagx))
              | exact ih18 (N + 1) _ _ (by omega) (by omega) hbt4 hR7 hFI7
          · refine q_aload_n (t := 95) F dX1_look_94 rfl rfl rfl ?_
            refine q_iload (t := 97) F dX1_look_95 rfl rfl ?_
            refine q_aload_n (t := 98) F dX1_look_97 rfl rfl rfl ?_
            refine q_aload_n (t := 99) F dX1_look_98 rfl rfl rfl ?_
            refine g_X1_9 (t := 102) F dX1_look_99 rfl rfl ?_
            refine q_iload (t := 104) F dX1_look_102 rfl rfl ?_
            first | refine ldN_10 (t := 105) F dX1_look_104 (by omega) rfl ?_ | refine ld_10 (t := 105) F dX1_look_104 (by omega) (by omega) rfl ?_
            try simp only [up_app, row_app, scr_app, cpy_app, Nat.reduceEqDiff, Int.reduceToNat, Int.toNat_natCast, and_true, true_and, and_false, false_and, and_self, reduceIte]
            refine q_aload_n (t := 106) F dX1_look_105 rfl rfl rfl ?_
            refine q_aload_n (t := 107) F dX1_look_106 rfl rfl rfl ?_
            refine g_X1_9 (t := 110) F dX1_look_107 rfl rfl ?_
            refine q_iload (t := 112) F dX1_look_110 rfl rfl ?_
            first | refine ldN_10 (t := 113) F dX1_look_112 (by omega) rfl ?_ | refine ld_10 (t := 113) F dX1_look_112 (by omega) (by omega) rfl ?_
            try simp only [up_app, row_app, scr_app, cpy_app, Nat.reduceEqDiff, Int.reduceToNat, Int.toNat_natCast, and_true, true_and, and_false, false_and, and_self, reduceIte]
            refine wp_callV (t := 116) [_] F dX1_look_113 k_X7_isChurchIn v_X7_isChurchIn ml_X1_49 rfl rfl rfl rfl (Nat.le_of_ble_eq_true rfl) (by decide) (m_18 (by omega)) (c_X7_isChurchIn _ G _ _ rt lm w hw x (by omega) (by omega) hh0 hh1) rfl (kI ?_)
            rintro z m' ⟨rfl, rfl⟩
            have hch : chI (up (scr (lookM B w (N / 10) (N % 10)) xa xb xg) 10 0 N x 18 w 5) (up (scr (lookM B w (N / 10) (N % 10)) xa xb xg) 10 0 N x 18 w 4 + x) = chI (im 18 w 5) (im 18 w 4 + x) := by
              rw [show up (scr (lookM B w (N / 10) (N % 10)) xa xb xg) 10 0 N x 18 w 5 = B 18 w 5 from rfl, show up (scr (lookM B w (N / 10) (N % 10)) xa xb xg) 10 0 N x 18 w 4 = B 18 w 4 from rfl, eb5, eb4, e5B, e4B]
            rw [hch]
            have hci := chI_in (im 18 w 5) (im 18 w 4 + x)
            have hwne : B 22 (5 * w + N / 10) (N % 10) ≠ -1 := by
              intro z
              rw [eb22, ewB] at z
              exact c91 (hx.trans (goesW_none z))
            refine wp_callV (t := 119) [_, _] F dX1_look_116 k_X0_bears v_X0_bears ml_X1_53 rfl rfl rfl rfl (Nat.le_of_ble_eq_true rfl) (by decide) (m_16 (by omega)) (c_X0_bears _ G (up (scr (lookM B w (N / 10) (N % 10)) xa xb xg) 10 0 N x) (B 18 w 7).toNat rt lm x (chI (im 18 w 5) (im 18 w 4 + x)) (by omega) (by omega) hci.1 hci.2 hbt4 hR5 (goodT_congr (fun s => rfl) (fun s => rfl) hT) k0 k1 n0 n1 (hga _ (by omega) hwne) hh0 hh1) rfl (kI ?_)
            rintro y m' ⟨hy, ya, yb, yg, hya, hyb, hyg, rfl⟩
            rw [show bearsB (up (scr (lookM B w (N / 10) (N % 10)) xa xb xg) 10 0 N x) = bearsB (up (lookM B w (N / 10) (N % 10)) 10 0 N x) from by
              funext j u v
              rw [← bearsB_scr (up (lookM B w (N / 10) (N % 10)) 10 0 N x) xa xb xg]
              rw [show scr (up (lookM B w (N / 10) (N % 10)) 10 0 N x) xa xb xg = up (scr (lookM B w (N / 10) (N % 10)) xa xb xg) 10 0 N x from by
                funext k i s
                simp only [scr_app, up_app]
                repeat' split
                all_goals first | rfl | (exfalso; omega)]] at hy
            rw [show bearsB (up (lookM B w (N / 10) (N % 10)) 10 0 N x) (B 18 w 7).toNat x (chI (im 18 w 5) (im 18 w 4 + x)) = bearsB (lookM B w (N / 10) (N % 10)) (B 18 w 7).toNat x (chI (im 18 w 5) (im 18 w 4 + x)) from by
              rw [bearsB_K _ _ _ _ rfl, bearsB_K _ _ _ _ rfl]
              rw [show tellV (up (lookM B w (N / 10) (N % 10)) 10 0 N x) (B 18 w 7).toNat = tellV (lookM B w (N / 10) (N % 10)) (B 18 w 7).toNat from tellV_fun (fun s => rfl) (fun s => rfl)]
              rfl] at hy
            rw [look_bears, hbeB] at hy
            have hyc : y = costF im w n N := by
              unfold costF
              rw [if_neg (by rw [← hwx]; exact c91), ← hwx]
              exact hy
            have hag6 : ag [5, 16, 17] (scr (up (scr (lookM B w (N / 10) (N % 10)) xa xb xg) 10 0 N x) ya yb yg) (laid im2 N (whenF im w n N) 0) := by
              rw [← hwx]
              exact ((scr_ag _ _ _ _).mono (by decide)).trans hagx
            have hR6 := RI_scr hR5 hya hyb hyg
            have hff := FI_RI hFI hW (show N < 50 by omega)
            have hcc := costF_in (n := n) hW N
            have e94 : ∀ s, scr (up (scr (lookM B w (N / 10) (N % 10)) xa xb xg) 10 0 N x) ya yb yg 9 0 s = im2 9 0 s := fun s => hag6 9 (by decide) 0 s
            rw [hyc]
            have hfi := firstF_in im w n N
            have e96 : scr (up (scr (lookM B w (N / 10) (N % 10)) xa xb xg) 10 0 N x) ya yb yg 9 0 6 = firstF im w n N := (e94 6).trans hFI.2.2.2.2
            have hR7 : RI (noteM (scr (up (scr (lookM B w (N / 10) (N % 10)) xa xb xg) 10 0 N x) ya yb yg) N (costF im w n N)) := RI_note hR6 (by omega) (by constructor <;> omega) (by rw [e94]; exact hff.1) (by rw [e94]; exact hff.2)
            have hFI7 := FI_note hFI (by rw [← hwx]; exact c91) hag6
            refine wp_callV (t := 122) [_, _] F dX1_look_119 k_X1_note v_X1_note ml_X1_57 rfl rfl rfl rfl (Nat.le_of_ble_eq_true rfl) (by decide) (m_9 (by omega)) (c_X1_note _ G _ _ rt lm hR6 N (by omega) (costF im w n N) (by rw [e96]; omega)) rfl (kV ?_)
            rintro m' rfl
            refine q_iinc (t := 125) F dX1_look_122 rfl (by decide) rfl rfl ?_
            refine q_goto (t := 18) F dX1_look_125 (by decide) ?_
            first
              | exact ih18 (N + 1) _ _ (by omega) (by omega) hbt2 (RI_up (RI_up hR2 ⟨by omega, by omega⟩) ⟨by omega, by omega⟩) (FI_none hFI (by unfold whenF; rw [if_neg (by omega)]) (ag_rfl _ _))
              | exact ih18 (N + 1) _ _ (by omega) (by omega) hbt4 hR5 (FI_none hFI (hwx.symm.trans c91) (by rw [show laid im2 N (-1) 0 = laid im2 N x 0 by rw [c91]]; exact hagx))
              | exact ih18 (N + 1) _ _ (by omega) (by omega) hbt4 hR7 hFI7
        · refine q_goto (t := 122) F dX1_look_53 (by decide) ?_
          refine q_iinc (t := 125) F dX1_look_122 rfl (by decide) rfl rfl ?_
          refine q_goto (t := 18) F dX1_look_125 (by decide) ?_
          first
            | exact ih18 (N + 1) _ _ (by omega) (by omega) hbt2 (RI_up (RI_up hR2 ⟨by omega, by omega⟩) ⟨by omega, by omega⟩) (FI_none hFI (by unfold whenF; rw [if_neg (by omega)]) (ag_rfl _ _))
            | exact ih18 (N + 1) _ _ (by omega) (by omega) hbt4 hR5 (FI_none hFI (hwx.symm.trans c91) (by rw [show laid im2 N (-1) 0 = laid im2 N x 0 by rw [c91]]; exact hagx))
            | exact ih18 (N + 1) _ _ (by omega) (by omega) hbt4 hR7 hFI7
  refine L18 _ 0 _ bt (Nat.lt_succ_self _) (by omega) hbt (RI_up (RI_up (RI_up hR ⟨by omega, by omega⟩) ⟨by omega, by omega⟩) ⟨by omega, by omega⟩) ⟨?_, fun M hM => absurd hM (Nat.not_lt_zero _), rfl, rfl, rfl⟩
  exact ag_up (ag_up (ag_up (ag_rfl _ _) (by decide)) (by decide)) (by decide)
