section
/-! THE CLASS AS IT BEGINS: what each call answers -/
def SF (im : IM) : Prop := im 18 0 3 = 0 ∧ im 18 0 4 = 0 ∧ im 18 0 5 = 1024 ∧ im 18 0 6 = 0 ∧ im 18 0 7 = 0 ∧ im 0 0 8 = 1 ∧ im 0 0 9 = 0 ∧ im 14 0 1 = 0 ∧ ∀ j, j < 4 → im 7 j 1 = -1 ∧ im 7 j 2 = 0
theorem SC0_SF {im : IM} (h : SC0 im) : SF im := by
  obtain ⟨-, ha, h8, h14, -, -⟩ := h
  have e : ∀ k i s, k ≠ 14 → k ≠ 15 → ¬ (k = 2 ∧ i = 0 ∧ s = 3) → ¬ (k = 3 ∧ i = 0) → ¬ (k = 4 ∧ i = 0) → ¬ (k = 0 ∧ i = 0 ∧ s = 8) → im k i s = imC0 k i s := ha
  refine ⟨?_, ?_, ?_, ?_, ?_, h8, ?_, h14, fun j hj => ⟨?_, ?_⟩⟩
  · rw [e 18 0 3 (by omega) (by omega) (by omega) (by omega) (by omega) (by omega)]; decide
  · rw [e 18 0 4 (by omega) (by omega) (by omega) (by omega) (by omega) (by omega)]; decide
  · rw [e 18 0 5 (by omega) (by omega) (by omega) (by omega) (by omega) (by omega)]; decide
  · rw [e 18 0 6 (by omega) (by omega) (by omega) (by omega) (by omega) (by omega)]; decide
  · rw [e 18 0 7 (by omega) (by omega) (by omega) (by omega) (by omega) (by omega)]; decide
  · rw [e 0 0 9 (by omega) (by omega) (by omega) (by omega) (by omega) (by omega)]; decide
  · rw [e 7 j 1 (by omega) (by omega) (by omega) (by omega) (by omega) (by omega)]
    rcases (by omega : j = 0 ∨ j = 1 ∨ j = 2 ∨ j = 3) with rfl | rfl | rfl | rfl <;> decide
  · rw [e 7 j 2 (by omega) (by omega) (by omega) (by omega) (by omega) (by omega)]
    exact imC0_k (by omega) (by omega)
theorem SC0_SC {im : IM} (h : SC0 im) : SC im := by
  have hF := SC0_SF h
  obtain ⟨hR, ha, h8, h14, hT, h15⟩ := h
  obtain ⟨f3, f4, f5, f6, f7, -, f9, -, fj⟩ := hF
  have hg : goodT im 0 := TX_good (by omega) (rd_first fst46).1 hT
  refine ⟨hR, ⟨by omega, by omega, by omega, by omega, by rw [f7]; exact hg, fun p hp => by omega⟩, by omega, by omega, by omega, fun j hj => ?_, ?_, by omega, fun j hj => ?_, ⟨Or.inl f9, fun q => by omega⟩, fun i hi => ?_⟩
  · obtain rfl : j = 0 := by omega
    exact hg
  · rw [ha 13 0 0 (by omega) (by omega) (by omega) (by omega) (by omega) (by omega)]
    exact imC0_k (by omega) (by omega)
  · have := fj j hj
    omega
  · rw [h15]
    unfold b46
    split
    · have := let12 (j := i) (by assumption)
      omega
    · omega
section Ev1
variable {im : IM}
theorem whenF_0 (h : im 18 0 3 = 0) (n N : Nat) : whenF im 0 n N = -1 := by
  unfold whenF
  rw [if_neg (by omega)]
theorem costF_0 (h : im 18 0 3 = 0) (n N : Nat) : costF im 0 n N = 0 := by
  unfold costF
  rw [if_pos (whenF_0 h n N)]
theorem sumF_0 (h : im 18 0 3 = 0) (n N : Nat) : sumF im 0 n N = 0 := by
  induction N with
  | zero => rfl
  | succ N ih => show sumF im 0 n N + costF im 0 n N = 0; rw [ih, costF_0 h]; rfl
theorem cntF_0 (h : im 18 0 3 = 0) (n N : Nat) : cntF im 0 n N = 0 := by
  induction N with
  | zero => rfl
  | succ N ih => show cntF im 0 n N + (if whenF im 0 n N = -1 then 0 else 1) = 0; rw [ih, if_pos (whenF_0 h n N)]; rfl
theorem firstF_0 (h : im 18 0 3 = 0) (n N : Nat) : firstF im 0 n N = -1 := by
  induction N with
  | zero => rfl
  | succ N ih =>
    show (if whenF im 0 n N ≠ -1 ∧ _ then (N : Int) else firstF im 0 n N) = -1
    rw [if_neg (fun q => q.1 (whenF_0 h n N)), ih]
theorem dB_0 (h : im 18 0 3 = 0) (n N : Nat) : dB (costF im 0 n) N = (-1, 0) := by
  induction N with
  | zero => rfl
  | succ N ih => rw [dB_s, ih, if_neg (by rw [costF_0 h]; exact Int.lt_irrefl 0)]
theorem run_0 (h : im 18 0 3 = 0) (n what : Int) : runA im n what = if (0 ≤ n ∧ n ≤ 60) ∧ 0 ≤ what ∧ what ≤ 4 then (if what < 2 then 0 else -1) else -2 := by
  unfold runA
  rw [sumF_0 h, cntF_0 h, firstF_0 h]
  (repeat' split) <;> first | rfl | (exfalso; omega)
theorem best_0 (h : im 18 0 3 = 0) (n what : Int) : bestA im n what = if (0 ≤ n ∧ n ≤ 60) ∧ 0 ≤ what ∧ what ≤ 1 then (if what = 0 then -1 else 0) else -2 := by
  unfold bestA
  rw [sumF_0 h, dB_0 h]
  (repeat' split) <;> first | rfl | (exfalso; omega)
theorem kissing_0 (h : im 18 0 3 = 0) (n what : Int) : kissingA im n what = if (0 ≤ n ∧ n ≤ 60) ∧ 0 ≤ what ∧ what ≤ 1 then (if what = 0 then -1 else 0) else -2 := by
  unfold kissingA
  rw [h]
  have e : kO im n.toNat (0 : Int).toNat (0 : Int).toNat = (-1, 0) := by
    show ((-1 : Int), sumF im 0 n.toNat 50) = _
    rw [sumF_0 h]
  rw [e]
  (repeat' split) <;> first | rfl | (exfalso; omega)
theorem chF_0 (h : im 18 0 3 = 0) (n i : Nat) : chF im n i = 0 := by
  have e1 : ∀ N, elsF im n N = 0 := by
    intro N
    induction N with
    | zero => rfl
    | succ N ih =>
      unfold elsF
      rw [ih, if_pos (whenF_0 h n N)]
      try rfl
  have e2 : ∀ N, byF im n i N = 0 := by
    intro N
    induction N with
    | zero => rfl
    | succ N ih =>
      unfold byF
      rw [ih]
      first
        | (rw [if_neg (fun q => q.1 (whenF_0 h n N))]; try rfl)
        | (rw [if_pos (Or.inl (whenF_0 h n N))]; try rfl)
        | (rw [if_pos (whenF_0 h n N)]; try rfl)
  unfold chF
  rw [e1, e2]
  rfl
theorem church_0 (h : im 18 0 3 = 0) (n what : Int) : churchA im n what = if (0 ≤ n ∧ n ≤ 60) ∧ 0 ≤ what ∧ what ≤ 1 then 0 else -2 := by
  have e : ∀ k, lst (chF im n.toNat) k = 0 := by
    intro k
    induction k with
    | zero => rfl
    | succ k ih => rw [lst_s, chF_0 h, chF_0 h, if_neg (Int.lt_irrefl 0), ih]
  unfold churchA
  rw [e, chF_0 h]
  (repeat' split) <;> first | rfl | (exfalso; omega)
theorem text_0 (h8 : im 0 0 8 = 1) (h14 : im 14 0 1 = 0) : textA im = -100 := by
  have hs : span isW (im 15 0) 0 0 = 0 := rfl
  have ht : ∀ p, tk (im 15 0) 0 p = 0 := fun p => tk_0 (Nat.zero_le p)
  have k1 : rdk (im 15 0) 0 1 = pFail 0 := by
    have : rdk (im 15 0) 0 1 = partP (im 15 0) 0 4 0 := stP_y
    rw [this]
    unfold partP
    rw [if_neg (by rw [ht]; decide)]
  have hp : (pFail 0).2.1 ≠ -1 := by decide
  have k2 : rdk (im 15 0) 0 2 = pFail 0 := by
    have : rdk (im 15 0) 0 2 = stP (partP (im 15 0) 0 5) (rdk (im 15 0) 0 1).1 (rdk (im 15 0) 0 1).2.1 := rfl
    rw [this, k1, stP_n hp]
    rfl
  have k3 : rdk (im 15 0) 0 3 = pFail 0 := by
    have : rdk (im 15 0) 0 3 = stP (partP (im 15 0) 0 6) (rdk (im 15 0) 0 2).1 (rdk (im 15 0) 0 2).2.1 := rfl
    rw [this, k2, stP_n hp]
    rfl
  have hF : textF im = 0 := by
    unfold textF
    rw [h14]
    show rdF (im 15 0) 0 = 0
    rw [rdF_eq, k3, if_neg hp]
    rfl
  unfold textA
  rw [if_pos (by omega), if_neg (by omega), hF]
  rfl
end Ev1
end
section
section Law
variable {M : MS} {G : GS} {A0 : Nat → Prop} {Y : YS} {R : Room} {Q : State → Prop} {c s : Nat} {ad : Ads} {n : Nat → Nat} {pc t : Nat} {ls : List (Option SV)} {st : List SV} {m : Mem}
/-- the script -/
def Sx (M : MS) (A0 : Nat → Prop) (ad : Ads) (L : Nat) (xs : Nat → Int32) : Prop := va_X (ad 96 0) L xs M.2.2.2.1 M.2.2.2.1.heap ∧ ad 96 0 < M.2.2.2.1.heap.size ∧ ¬ A0 (ad 96 0)
theorem Sx_sam {ad' : Ads} {L : Nat} {xs : Nat → Int32} (h : Sx M A0 ad L xs) (hs : sam n ad ad') : Sx M A0 ad' L xs := by
  unfold Sx
  rw [hs 96 0 (Or.inr (by omega))]
  exact h
theorem j_ofNat {L : Nat} (h : L ≤ 6) : Int32.ofNat L = jI (L : Int) := by
  rcases (by omega : L = 0 ∨ L = 1 ∨ L = 2 ∨ L = 3 ∨ L = 4 ∨ L = 5 ∨ L = 6) with rfl | rfl | rfl | rfl | rfl | rfl | rfl <;> rfl
theorem z_slen {L : Nat} {xs : Nat → Int32} (F : Fg M G A0 Y) (hd : decode Y.2.1 pc = .ok (.arraylength, 1)) (hX : Sx M A0 ad L xs) (hL : L ≤ 6) (ht : t = pc + 1) (kk : Wg M G A0 Y R Q c s ad n t ls (vI (L : Int) :: st) m) : Wg M G A0 Y R Q c s ad n pc ls (vR 96 0 :: st) m := by
  subst ht
  intro H locs a hI hl
  refine va_slen F.1 F.2.1 hX.1 hX.2.1 hX.2.2 hI.2.1 hd ?_
  rw [j_ofNat hL]
  exact kk H locs a hI hl
theorem z_sld {L k : Nat} {x : Int} {xs : Nat → Int32} (F : Fg M G A0 Y) (hd : decode Y.2.1 pc = .ok (.iaload, 1)) (hX : Sx M A0 ad L xs) (hk : x = (k : Int)) (hL : k < L) (hL6 : L ≤ 6) (ht : t = pc + 1) (kk : Wg M G A0 Y R Q c s ad n t ls (vI (xs k).toInt :: st) m) : Wg M G A0 Y R Q c s ad n pc ls (vI x :: vR 96 0 :: st) m := by
  subst ht
  subst hk
  intro H locs a hI hl
  refine va_sld F.1 F.2.1 hX.1 hX.2.1 hX.2.2 hI.2.1 (i := jI (k : Int)) (j_in (by omega) (by omega) (by omega)) hd ?_
  rw [j_cl ⟨by omega, by omega⟩, Int.toNat_natCast]
  have h := kk H locs a hI hl
  rw [List.map_cons] at h
  have e : tr ad (vI (xs k).toInt) = .int (xs k) := congrArg Value.int (j_asI (xs k))
  rw [e] at h
  exact h
theorem and31 (a : Int32) : ∃ y : Int, 0 ≤ y ∧ y ≤ 31 ∧ a &&& 31 = jI y := by
  refine ⟨(a &&& 31).toInt, ?_, ?_, (j_asI _).symm⟩
  all_goals
    have h1 : (a &&& 31).toBitVec.toNat ≤ 31 := by
      have : (a &&& 31).toBitVec = a.toBitVec &&& (31 : Int32).toBitVec := rfl
      rw [this, BitVec.toNat_and]
      exact Nat.le_trans Nat.and_le_right (by decide)
    have h2 : (a &&& 31).toInt = ((a &&& 31).toBitVec.toNat : Int) := BitVec.toInt_eq_toNat_of_lt (by omega)
    omega
theorem z_and31 {x : Int} (F : Fg M G A0 Y) (hd : decode Y.2.1 pc = .ok (.iand, 1)) (ht : t = pc + 1) (k : ∀ y : Int, 0 ≤ y → y ≤ 31 → Wg M G A0 Y R Q c s ad n t ls (vI y :: st) m) : Wg M G A0 Y R Q c s ad n pc ls (vI 31 :: vI x :: st) m := by
  subst ht
  intro H locs a hI hl
  obtain ⟨y, h1, h2, h3⟩ := and31 (jI x)
  refine lv_iand F.1 F.2.1 hd ?_
  have e : jI x &&& jI 31 = jI y := h3
  rw [e]
  exact k y h1 h2 H locs a hI hl
theorem z_tableOut {dflt lo hi : Int} {offs : Array Int} {len : Nat} {x : Int} (F : Fg M G A0 Y) (hd : decode Y.2.1 pc = .ok (.tableswitch dflt lo hi offs, len)) (hx : ri x) (h : x < lo ∨ hi < x) (ht : (pc : Int) + dflt = (t : Int)) (k : Wg M G A0 Y R Q c s ad n t ls st m) : Wg M G A0 Y R Q c s ad n pc ls (vI x :: st) m := by
  intro H locs a hI hl
  exact lv_tableOut F.1 F.2.1 hd (by rw [j_toInt hx]; exact h) ht (k H locs a hI hl)
theorem z_tableIn {dflt lo hi : Int} {offs : Array Int} {len : Nat} {x off : Int} (F : Fg M G A0 Y) (hd : decode Y.2.1 pc = .ok (.tableswitch dflt lo hi offs, len)) (hx : ri x) (h1 : lo ≤ x) (h2 : x ≤ hi) (ho : offs[(x - lo).toNat]? = some off) (ht : (pc : Int) + off = (t : Int)) (k : Wg M G A0 Y R Q c s ad n t ls st m) : Wg M G A0 Y R Q c s ad n pc ls (vI x :: st) m := by
  intro H locs a hI hl
  exact lv_tableIn F.1 F.2.1 hd (by rw [j_toInt hx]; omega) (by rw [j_toInt hx]; omega) (by rw [j_toInt hx]; exact ho) ht (k H locs a hI hl)
/-- two answers that are the same -/
theorem z_same {x y : Int} {off : Int} {u : Nat} (F : Fg M G A0 Y) (hd : decode Y.2.1 pc = .ok (.if_icmp .eq off, 3)) (hx : ri x) (hxy : x = y) (hu : (pc : Int) + off = (u : Int)) (k1 : Wg M G A0 Y R Q c s ad n u ls st m) : Wg M G A0 Y R Q c s ad n pc ls (vI y :: vI x :: st) m := by
  subst hxy
  exact z_icmp_eq F hd hx hx hu rfl (fun _ => k1) (fun h => absurd rfl h)
theorem z_sameL {x y : Int} {off : Int} {u : Nat} (F : Fg M G A0 Y) (hd : decode Y.2.1 pc = .ok (.lcmp, 1)) (hd2 : decode Y.2.1 (pc + 1) = .ok (.ifCond .eq off, 3)) (hx : rl x) (hxy : x = y) (hu : ((pc + 1 : Nat) : Int) + off = (u : Int)) (k1 : Wg M G A0 Y R Q c s ad n u ls st m) : Wg M G A0 Y R Q c s ad n pc ls (vL y :: vL x :: st) m := by
  subst hxy
  intro H locs a hI hl
  refine W.lcmp F.1 F.2.1 hd ?_
  have e : lg_cmp (jL x) (jL x) = jI 0 := by
    unfold lg_cmp
    have h1 : ¬ (jL x > jL x) := fun h => Int.lt_irrefl x ((j_ltL hx hx).mp h)
    rw [if_neg h1, if_pos rfl]
    rfl
  rw [e]
  exact lv_if_eq F.1 F.2.1 hd2 hu (fun _ => k1 H locs a hI hl) (fun h => absurd rfl h)
end Law
end
section
/-! WHAT THE STATEMENT GIVES OF THE START -/
def tmS (i : Nat) : Term := .string ((refS.getD i ("", 0, "", 0)).1) ((refS.getD i ("", 0, "", 0)).2.1)
def FLc : List Cond := flatC (Jvm.Cond.and given_1 narrow_1)
theorem fl_S1 : ∀ i, i < 13 → (Cond.exactly (tmS i) "java/lang/String") ∈ FLc ∧ (Cond.eq (.field (tmS i) "java/lang/String" "coder" "B") (.int 0)) ∈ FLc ∧ (Cond.arrayOf (.field (tmS i) "java/lang/String" "value" "[B") .byte) ∈ FLc ∧ (Cond.eq (.length (.field (tmS i) "java/lang/String" "value" "[B")) (.int (Int32.ofNat (lenS.getD i 0)))) ∈ FLc := by decide +kernel
theorem fl_S2 : ∀ i, i < 13 → ∀ j, j < lenS.getD i 0 → (Cond.eq (.elem (.field (tmS i) "java/lang/String" "value" "[B") (.int (Int32.ofNat j))) (.int ((bytS.getD i []).getD j 0))) ∈ FLc := by decide +kernel
theorem fl_S3_0 : ∀ j, j < 13 → 0 = j ∨ FLc[([0, 104, 114, 127, 138, 152, 168, 184, 202, 217, 234, 252, 94] : List Nat).getD j 0]? = some (Cond.not (Cond.eq (tmS 0) (tmS j))) ∨ FLc[([0, 104, 114, 127, 138, 152, 168, 184, 202, 217, 234, 252, 94] : List Nat).getD j 0]? = some (Cond.not (Cond.eq (tmS j) (tmS 0))) := by decide +kernel
theorem fl_S3_1 : ∀ j, j < 13 → 1 = j ∨ FLc[([104, 0, 115, 128, 139, 153, 169, 185, 203, 218, 235, 253, 103] : List Nat).getD j 0]? = some (Cond.not (Cond.eq (tmS 1) (tmS j))) ∨ FLc[([104, 0, 115, 128, 139, 153, 169, 185, 203, 218, 235, 253, 103] : List Nat).getD j 0]? = some (Cond.not (Cond.eq (tmS j) (tmS 1))) := by decide +kernel
theorem fl_S3_2 : ∀ j, j < 13 → 2 = j ∨ FLc[([114, 115, 0, 129, 140, 154, 170, 186, 204, 219, 236, 254, 113] : List Nat).getD j 0]? = some (Cond.not (Cond.eq (tmS 2) (tmS j))) ∨ FLc[([114, 115, 0, 129, 140, 154, 170, 186, 204, 219, 236, 254, 113] : List Nat).getD j 0]? = some (Cond.not (Cond.eq (tmS j) (tmS 2))) := by decide +kernel
theorem fl_S3_3 : ∀ j, j < 13 → 3 = j ∨ FLc[([127, 128, 129, 0, 141, 155, 171, 187, 205, 220, 237, 255, 126] : List Nat).getD j 0]? = some (Cond.not (Cond.eq (tmS 3) (tmS j))) ∨ FLc[([127, 128, 129, 0, 141, 155, 171, 187, 205, 220, 237, 255, 126] : List Nat).getD j 0]? = some (Cond.not (Cond.eq (tmS j) (tmS 3))) := by decide +kernel
theorem fl_S3_4 : ∀ j, j < 13 → 4 = j ∨ FLc[([138, 139, 140, 141, 0, 156, 172, 188, 206, 221, 238, 256, 137] : List Nat).getD j 0]? = some (Cond.not (Cond.eq (tmS 4) (tmS j))) ∨ FLc[([138, 139, 140, 141, 0, 156, 172, 188, 206, 221, 238, 256, 137] : List Nat).getD j 0]? = some (Cond.not (Cond.eq (tmS j) (tmS 4))) := by decide +kernel
theorem fl_S3_5 : ∀ j, j < 13 → 5 = j ∨ FLc[([152, 153, 154, 155, 156, 0, 173, 189, 207, 222, 239, 257, 151] : List Nat).getD j 0]? = some (Cond.not (Cond.eq (tmS 5) (tmS j))) ∨ FLc[([152, 153, 154, 155, 156, 0, 173, 189, 207, 222, 239, 257, 151] : List Nat).getD j 0]? = some (Cond.not (Cond.eq (tmS j) (tmS 5))) := by decide +kernel
theorem fl_S3_6 : ∀ j, j < 13 → 6 = j ∨ FLc[([168, 169, 170, 171, 172, 173, 0, 190, 208, 223, 240, 258, 167] : List Nat).getD j 0]? = some (Cond.not (Cond.eq (tmS 6) (tmS j))) ∨ FLc[([168, 169, 170, 171, 172, 173, 0, 190, 208, 223, 240, 258, 167] : List Nat).getD j 0]? = some (Cond.not (Cond.eq (tmS j) (tmS 6))) := by decide +kernel
theorem fl_S3_7 : ∀ j, j < 13 → 7 = j ∨ FLc[([184, 185, 186, 187, 188, 189, 190, 0, 209, 224, 241, 259, 183] : List Nat).getD j 0]? = some (Cond.not (Cond.eq (tmS 7) (tmS j))) ∨ FLc[([184, 185, 186, 187, 188, 189, 190, 0, 209, 224, 241, 259, 183] : List Nat).getD j 0]? = some (Cond.not (Cond.eq (tmS j) (tmS 7))) := by decide +kernel
theorem fl_S3_8 : ∀ j, j < 13 → 8 = j ∨ FLc[([202, 203, 204, 205, 206, 207, 208, 209, 0, 225, 242, 260, 201] : List Nat).getD j 0]? = some (Cond.not (Cond.eq (tmS 8) (tmS j))) ∨ FLc[([202, 203, 204, 205, 206, 207, 208, 209, 0, 225, 242, 260, 201] : List Nat).getD j 0]? = some (Cond.not (Cond.eq (tmS j) (tmS 8))) := by decide +kernel
theorem fl_S3_9 : ∀ j, j < 13 → 9 = j ∨ FLc[([217, 218, 219, 220, 221, 222, 223, 224, 225, 0, 243, 261, 216] : List Nat).getD j 0]? = some (Cond.not (Cond.eq (tmS 9) (tmS j))) ∨ FLc[([217, 218, 219, 220, 221, 222, 223, 224, 225, 0, 243, 261, 216] : List Nat).getD j 0]? = some (Cond.not (Cond.eq (tmS j) (tmS 9))) := by decide +kernel
theorem fl_S3_10 : ∀ j, j < 13 → 10 = j ∨ FLc[([234, 235, 236, 237, 238, 239, 240, 241, 242, 243, 0, 262, 233] : List Nat).getD j 0]? = some (Cond.not (Cond.eq (tmS 10) (tmS j))) ∨ FLc[([234, 235, 236, 237, 238, 239, 240, 241, 242, 243, 0, 262, 233] : List Nat).getD j 0]? = some (Cond.not (Cond.eq (tmS j) (tmS 10))) := by decide +kernel
theorem fl_S3_11 : ∀ j, j < 13 → 11 = j ∨ FLc[([252, 253, 254, 255, 256, 257, 258, 259, 260, 261, 262, 0, 251] : List Nat).getD j 0]? = some (Cond.not (Cond.eq (tmS 11) (tmS j))) ∨ FLc[([252, 253, 254, 255, 256, 257, 258, 259, 260, 261, 262, 0, 251] : List Nat).getD j 0]? = some (Cond.not (Cond.eq (tmS j) (tmS 11))) := by decide +kernel
theorem fl_S3_12 : ∀ j, j < 13 → 12 = j ∨ FLc[([94, 103, 113, 126, 137, 151, 167, 183, 201, 216, 233, 251, 0] : List Nat).getD j 0]? = some (Cond.not (Cond.eq (tmS 12) (tmS j))) ∨ FLc[([94, 103, 113, 126, 137, 151, 167, 183, 201, 216, 233, 251, 0] : List Nat).getD j 0]? = some (Cond.not (Cond.eq (tmS j) (tmS 12))) := by decide +kernel
theorem fl_S3 : ∀ i, i < 13 → ∀ j, j < 13 → i = j ∨ (Cond.not (Cond.eq (tmS i) (tmS j))) ∈ FLc ∨ (Cond.not (Cond.eq (tmS j) (tmS i))) ∈ FLc := by
  intro i hi j hj
  rcases (show i = 0 ∨ i = 1 ∨ i = 2 ∨ i = 3 ∨ i = 4 ∨ i = 5 ∨ i = 6 ∨ i = 7 ∨ i = 8 ∨ i = 9 ∨ i = 10 ∨ i = 11 ∨ i = 12 by omega) with rfl | rfl | rfl | rfl | rfl | rfl | rfl | rfl | rfl | rfl | rfl | rfl | rfl
  · exact (fl_S3_0 j hj).imp id (fun h => h.imp List.mem_of_getElem? List.mem_of_getElem?)
  · exact (fl_S3_1 j hj).imp id (fun h => h.imp List.mem_of_getElem? List.mem_of_getElem?)
  · exact (fl_S3_2 j hj).imp id (fun h => h.imp List.mem_of_getElem? List.mem_of_getElem?)
  · exact (fl_S3_3 j hj).imp id (fun h => h.imp List.mem_of_getElem? List.mem_of_getElem?)
  · exact (fl_S3_4 j hj).imp id (fun h => h.imp List.mem_of_getElem? List.mem_of_getElem?)
  · exact (fl_S3_5 j hj).imp id (fun h => h.imp List.mem_of_getElem? List.mem_of_getElem?)
  · exact (fl_S3_6 j hj).imp id (fun h => h.imp List.mem_of_getElem? List.mem_of_getElem?)
  · exact (fl_S3_7 j hj).imp id (fun h => h.imp List.mem_of_getElem? List.mem_of_getElem?)
  · exact (fl_S3_8 j hj).imp id (fun h => h.imp List.mem_of_getElem? List.mem_of_getElem?)
  · exact (fl_S3_9 j hj).imp id (fun h => h.imp List.mem_of_getElem? List.mem_of_getElem?)
  · exact (fl_S3_10 j hj).imp id (fun h => h.imp List.mem_of_getElem? List.mem_of_getElem?)
  · exact (fl_S3_11 j hj).imp id (fun h => h.imp List.mem_of_getElem? List.mem_of_getElem?)
  · exact (fl_S3_12 j hj).imp id (fun h => h.imp List.mem_of_getElem? List.mem_of_getElem?)
theorem fl_Z : (Cond.eq (.static "java/lang/String" "COMPACT_STRINGS" "Z") (.int 1)) ∈ FLc ∧ (Cond.isRef (.static "jdk/internal/util/Preconditions" "SIOOBE_FORMATTER" "Ljava/util/function/BiFunction;")) ∈ FLc := by decide +kernel
theorem ref_at : ∀ q ∈ refS, refS.getD q.2.2.2 ("", 0, "", 0) = q ∧ q.2.2.2 < 13 := by decide +kernel
theorem tb_tbl {w : Cond} (h : w ∈ TB) : w ∈ lw_tbl := (List.mem_filter.mp h).1
theorem nf_tbl {w : Cond} (h : w ∈ NF) : w ∈ lw_tbl := (List.mem_filter.mp h).1
theorem ref_tbl : ∀ q ∈ refS, Cond.stringRef q.1 q.2.1 q.2.2.1 ∈ lw_tbl := by
  intro q hq
  unfold refS at hq
  simp only [List.mem_cons, List.not_mem_nil, or_false] at hq
  rcases hq with rfl | rfl | rfl | rfl | rfl | rfl | rfl | rfl | rfl | rfl | rfl | rfl | rfl
  all_goals first | exact sr_X8_61 | exact sr_X4_118 | exact sr_X4_120 | exact sr_X4_122 | exact sr_X4_124 | exact sr_X4_126 | exact sr_X4_128 | exact sr_X4_130 | exact sr_X4_132 | exact sr_X4_134 | exact sr_X4_136 | exact sr_X4_138 | exact sr_X4_140
section St
variable {s : State} {b : Nat}
theorem st_strings (hts : ∀ w ∈ lw_tbl, w.before #[Value.ref b] s = true) (hgv : (Jvm.Cond.and given_1 narrow_1).before #[Value.ref b] s = true) {A : Nat → Prop} (hA : ∀ a : Nat, a < s.heap.size → ¬ A a) : ∃ ad : Ads, ad 96 0 = b ∧ AMx ad A s := by
  have hs := flat_of_before _ hgv
  obtain ⟨adK, adV, hS, he⟩ := vk_Sof (args := #[Value.ref b]) (s := s) (N := 13) (tm := tmS) (len := lenS) (byt := bytS) (A := A) (fun i hi => Nat.lt_of_le_of_lt (len_in i hi) (by decide)) (fun i hi => hs _ (fl_S1 i hi).1) (fun i hi => hs _ (fl_S1 i hi).2.1) (fun i hi => hs _ (fl_S1 i hi).2.2.1) (fun i hi => hs _ (fl_S1 i hi).2.2.2) (fun i hi j hj => hs _ (fl_S2 i hi j hj)) (fun i j hi hj hne => (fl_S3 i hi j hj).elim (fun h => absurd h hne) (fun h => h.imp (hs _) (hs _))) hA
  have hZ := va_Zof (hts _ ls_J0_COMPACT_STRINGS) (hts _ (tb_tbl in_J0)) (va_eqt (hs _ fl_Z.1)) hA
  have hF := va_Zqof (hts _ ls_J3_SIOOBE_FORMATTER) (hts _ (tb_tbl in_J3)) (hs _ fl_Z.2) hA
  obtain ⟨z, hz⟩ : ∃ z : Nat, va_Z "jdk/internal/util/Preconditions" "SIOOBE_FORMATTER" "Ljava/util/function/BiFunction;" .null A s s.heap ∨ va_Z "jdk/internal/util/Preconditions" "SIOOBE_FORMATTER" "Ljava/util/function/BiFunction;" (.ref z) A s s.heap := by
    rcases hF with h | ⟨z, h⟩
    · exact ⟨0, Or.inl h⟩
    · exact ⟨z, Or.inr h⟩
  refine ⟨fun k i => if k = 99 then adK i else if k = 98 then adV i else if k = 97 then z else b, by show (if (96 : Nat) = 99 then adK 0 else if (96 : Nat) = 98 then adV 0 else if (96 : Nat) = 97 then z else b) = b; rw [if_neg (by omega), if_neg (by omega), if_neg (by omega)], ?_⟩
  have e99 : (fun i => if (99 : Nat) = 99 then adK i else if (99 : Nat) = 98 then adV i else if (99 : Nat) = 97 then z else b) = adK := funext fun i => if_pos rfl
  have e98 : (fun i => if (98 : Nat) = 99 then adK i else if (98 : Nat) = 98 then adV i else if (98 : Nat) = 97 then z else b) = adV := funext fun i => by rw [if_neg (by omega), if_pos rfl]
  refine ⟨nf_of hts, ?_, fun q hq => ?_, hZ, ?_⟩
  · show vk_S 13 lenS bytS (fun i => if (99 : Nat) = 99 then adK i else if (99 : Nat) = 98 then adV i else if (99 : Nat) = 97 then z else b) (fun i => if (98 : Nat) = 99 then adK i else if (98 : Nat) = 98 then adV i else if (98 : Nat) = 97 then z else b) A s s.heap
    rw [e99, e98]
    exact hS
  · have hq2 := ref_at q hq
    have h2 := he q.2.2.2 hq2.2
    unfold tmS at h2
    rw [hq2.1] at h2
    have h3 : (fun k i => if k = 99 then adK i else if k = 98 then adV i else if k = 97 then z else b) 99 q.2.2.2 = adK q.2.2.2 := if_pos rfl
    rw [h3]
    exact vk_R.of (hts _ (ref_tbl q hq)) h2
  · exact hz
theorem st_array {t0 : Nat} (ht : t0 < 5) (hts : ∀ w ∈ lw_tbl, w.before #[Value.ref b] s = true) : ∃ cA : ClassId, ArrOfT s cA (aty t0) ∧ va_RA s cA (aty t0) := by
  rcases (show t0 = 0 ∨ t0 = 1 ∨ t0 = 2 ∨ t0 = 3 ∨ t0 = 4 by omega) with rfl | rfl | rfl | rfl | rfl
  · obtain ⟨c, k, comp, h1, h2, h3⟩ := Cond.arrayClass_spec (hts _ (tb_tbl ac_int))
    exact ⟨c, fun N z => ⟨(fun k h => by cases h), k, h2, comp, h3⟩, h1⟩
  · obtain ⟨c, k, comp, h1, h2, h3⟩ := Cond.arrayClass_spec (hts _ (tb_tbl ac_boolean))
    exact ⟨c, fun N z => ⟨(fun k h => by cases h), k, h2, comp, h3⟩, h1⟩
  · obtain ⟨comp, c, k, h1, h2, h3, h4, h5⟩ := Cond.arrayOver_spec (hts _ ao_128)
    exact ⟨c, fun N z => ⟨(fun k h => by cases h), k, h3, comp, h4⟩, k, comp, h3, h4, h1, h5⟩
  · obtain ⟨comp, c, k, h1, h2, h3, h4, h5⟩ := Cond.arrayOver_spec (hts _ ao_130)
    exact ⟨c, fun N z => ⟨(fun k h => by cases h), k, h3, comp, h4⟩, k, comp, h3, h4, h1, h5⟩
  · obtain ⟨comp, c, k, h1, h2, h3, h4, h5⟩ := Cond.arrayOver_spec (hts _ ao_267)
    exact ⟨c, fun N z => ⟨(fun k h => by cases h), k, h3, comp, h4⟩, k, comp, h3, h4, h1, h5⟩
theorem st_K (hts : ∀ w ∈ lw_tbl, w.before #[Value.ref b] s = true) : ∃ G : GS, va_K G.1 vwCl (tyl G.2) s := by
  have ht : ∀ w ∈ TB, w.before #[Value.ref b] s = true := fun w hw => hts w (tb_tbl hw)
  obtain ⟨c0, i0, k0⟩ := u_known (C := RX0) (T := TX0) (N := 5) (n := 5) ht uX0 (ht _ is_X0)
  obtain ⟨c1, i1, k1⟩ := u_known (C := RX1) (T := TX1) (N := 7) (n := 7) ht uX1 (ht _ is_X1)
  obtain ⟨c2, i2, k2⟩ := u_known (C := RX3) (T := TX3) (N := 4) (n := 4) ht uX3 (ht _ is_X3)
  obtain ⟨c3, i3, k3⟩ := u_known (C := RX4) (T := TX4) (N := 8) (n := 8) ht uX4 (ht _ is_X4)
  obtain ⟨c4, i4, k4⟩ := u_known (C := RX5) (T := TX5) (N := 3) (n := 3) ht uX5 (ht _ is_X5)
  obtain ⟨c5, i5, k5⟩ := u_known (C := RX6) (T := TX6) (N := 4) (n := 4) ht uX6 (ht _ is_X6)
  obtain ⟨c6, i6, k6⟩ := u_known (C := RX7) (T := TX7) (N := 8) (n := 8) ht uX7 (ht _ is_X7)
  obtain ⟨c7, i7, k7⟩ := u_known (C := RX8) (T := TX8) (N := 10) (n := 10) ht uX8 (ht _ is_X8)
  obtain ⟨c8, i8, k8⟩ := u_known (C := RX9) (T := TX9) (N := 55) (n := 55) ht uX9 (ht _ is_X9)
  obtain ⟨a0, b0⟩ := st_array (t0 := 0) (by omega) hts
  obtain ⟨a1, b1⟩ := st_array (t0 := 1) (by omega) hts
  obtain ⟨a2, b2⟩ := st_array (t0 := 2) (by omega) hts
  obtain ⟨a3, b3⟩ := st_array (t0 := 3) (by omega) hts
  obtain ⟨a4, b4⟩ := st_array (t0 := 4) (by omega) hts
  refine ⟨((fun k => [c0, c1, c2, c3, c4, c5, c6, c7, c8].getD k c0, fun k => [i0, i1, i2, i3, i4, i5, i6, i7, i8].getD k i0), fun k => [a0, a1, a2, a3, a4].getD k a0), fun k q hq => ?_, fun k q hq => ?_⟩
  · match k, hq with
    | 0, hq => cases hq; exact k0
    | 1, hq => cases hq; exact k1
    | 2, hq => cases hq; exact k2
    | 3, hq => cases hq; exact k3
    | 4, hq => cases hq; exact k4
    | 5, hq => cases hq; exact k5
    | 6, hq => cases hq; exact k6
    | 7, hq => cases hq; exact k7
    | 8, hq => cases hq; exact k8
    | k + 9, hq => simp [vwCl] at hq
  · match k, hq with
    | 0, hq => cases hq; exact b0
    | 1, hq => cases hq; exact b1
    | 2, hq => cases hq; exact b2
    | 3, hq => cases hq; exact b3
    | 4, hq => cases hq; exact b4
    | k + 5, hq => simp [tyl] at hq
theorem st_AO (hts : ∀ w ∈ lw_tbl, w.before #[Value.ref b] s = true) : AO s := ⟨hts _ ao_128, hts _ ao_130, hts _ ao_267⟩
end St
end
section
/-! both sides as they begin -/
theorem spM_o {im : IM} {p : Nat} {a1 a2 a3 a4 a5 a6 a7 a8 : Int} {k i s : Nat} (h : k ≠ 31) : spM im p a1 a2 a3 a4 a5 a6 a7 a8 k i s = im k i s := by
  unfold spM
  simp only [up_app]
  repeat rw [if_neg (by omega)]
theorem spM_ri {im : IM} {p : Nat} {a1 a2 a3 a4 a5 a6 a7 a8 : Int} (h : RI im) (h1 : ri a1) (h2 : ri a2) (h3 : ri a3) (h4 : ri a4) (h5 : ri a5) (h6 : ri a6) (h7 : ri a7) (h8 : ri a8) : RI (spM im p a1 a2 a3 a4 a5 a6 a7 a8) := by
  unfold spM
  exact RI_up (RI_up (RI_up (RI_up (RI_up (RI_up (RI_up (RI_up h h1) h2) h3) h4) h5) h6) h7) h8
theorem chR9_ri {im : IM} (h : RI im) : RI (chR9 im) := by
  unfold chR9
  refine RI_up (RI_up (spM_ri (spM_ri (spM_ri (spM_ri (spM_ri (spM_ri (RI_up (RI_up h ?_) ?_) ?_ ?_ ?_ ?_ ?_ ?_ ?_ ?_) ?_ ?_ ?_ ?_ ?_ ?_ ?_ ?_) ?_ ?_ ?_ ?_ ?_ ?_ ?_ ?_) ?_ ?_ ?_ ?_ ?_ ?_ ?_ ?_) ?_ ?_ ?_ ?_ ?_ ?_ ?_ ?_) ?_ ?_ ?_ ?_ ?_ ?_ ?_ ?_) ?_) ?_
  all_goals (constructor <;> omega)
theorem chR9_o {im : IM} {k i s : Nat} (h : k ≠ 30) (h1 : k ≠ 31) (h2 : k ≠ 32) : chR9 im k i s = im k i s := by
  unfold chR9
  rw [up_app, if_neg (by omega), up_app, if_neg (by omega), spM_o h1, spM_o h1, spM_o h1, spM_o h1, spM_o h1, spM_o h1, up_app, if_neg (by omega), up_app, if_neg (by omega)]
theorem chR9_30 {im : IM} (h : ∀ k i s, 24 ≤ k → im k i s = 0) (s : Nat) : chR9 im 30 0 s = if s = 3 then 1 else if s = 46 then -1 else if s = 8 then 1024 else 0 := by
  have h1 : (30 : Nat) ≠ 31 := by decide
  unfold chR9
  rw [up_app]
  by_cases h3 : s = 3
  · rw [if_pos ⟨rfl, rfl, h3⟩, if_pos h3]
  · rw [if_neg (by omega), if_neg h3, up_app, if_neg (by omega), spM_o h1, spM_o h1, spM_o h1, spM_o h1, spM_o h1, spM_o h1, up_app]
    by_cases h46 : s = 46
    · rw [if_pos ⟨rfl, rfl, h46⟩, if_pos h46]
    · rw [if_neg (by omega), if_neg h46, up_app]
      by_cases h8 : s = 8
      · rw [if_pos ⟨rfl, rfl, h8⟩, if_pos h8]
      · rw [if_neg (by omega), if_neg h8]
        exact h 30 0 s (by omega)
theorem WI_lo {a b : IM} {w : Nat} (h : ∀ k i s, k < 24 → a k i s = b k i s) (hW : WI b w) : WI a w := by
  unfold WI
  simp only [h 18 _ _ (by omega)]
  refine ⟨hW.1, hW.2.1, hW.2.2.1, hW.2.2.2.1, goodT_congr (fun s => h 3 _ s (by omega)) (fun s => h 4 _ s (by omega)) hW.2.2.2.2.1, fun p hp => ?_⟩
  unfold PI
  simp only [h 21 _ _ (by omega), h 22 _ _ (by omega), h 23 _ _ (by omega)]
  exact hW.2.2.2.2.2 p hp
theorem SC_lo {a b : IM} (h : ∀ k i s, k < 24 → a k i s = b k i s) (hR : RI a) (hS : SC b) : SC a := by
  obtain ⟨-, hW, hh, htc, hru, hgt, hz, hrd, hsh, him, htp⟩ := hS
  unfold SC
  simp only [h 18 _ _ (by omega), h 0 _ _ (by omega), h 13 _ _ (by omega), h 14 _ _ (by omega), h 7 _ _ (by omega), h 15 _ _ (by omega)]
  exact ⟨hR, WI_lo h hW, hh, htc, hru, fun j hj => goodT_congr (fun s => h 3 _ s (by omega)) (fun s => h 4 _ s (by omega)) (hgt j hj), hz, hrd, hsh, ⟨him.1, fun h9 => ⟨WI_lo h (him.2 h9).1, (him.2 h9).2⟩⟩, htp⟩
theorem SF_lo {a b : IM} (h : ∀ k i s, k < 24 → a k i s = b k i s) (hF : SF b) : SF a := by
  unfold SF
  simp only [h 18 _ _ (by omega), h 0 _ _ (by omega), h 14 _ _ (by omega), h 7 _ _ (by omega)]
  exact hF
end
section
/-! the reference: a fault is noted -/
set_option maxHeartbeats 4000000 in
theorem f_X9_fail (l : Launch) (G : GS) (im : IM) (bt rt : Nat) (lm : IM) (hR : RI im) : Cn l (XR G) yX9_fail Y_X9_fail [vR 30 0] (im, rs bt rt, lm) (pV fun m' => m' = ((if im 30 0 28 = 0 then up (up im 30 0 28 1) 30 0 29 (im 30 0 25) else im), rs bt rt, lm)) := by
  refine cn_of (by decide) (okR G) rfl (Nat.le_of_ble_eq_true rfl) ?_
  intro M ad hMl F
  subst hMl
  refine wp_pad 0 ?_
  show Wp M (XR G) ad Y_X9_fail (pV fun m' => m' = ((if im 30 0 28 = 0 then up (up im 30 0 28 1) 30 0 29 (im 30 0 25) else im), rs bt rt, lm)) 0 [some (vR 30 0)] [] (im, rs bt rt, lm)
  refine q_aload_n (t := 1) F dX9_fail_0 rfl rfl rfl ?_
  refine g_X9_179 (t := 4) F dX9_fail_1 rfl rfl ?_
  refine q_if_ne (t := 7) (u := 20) F dX9_fail_4 (by first | exact hR _ _ _ | (constructor <;> omega)) (by decide) rfl (fun c4 => ?_) (fun c4 => ?_)
  · refine q_vret F dX9_fail_20 rfl ?_
    first
      | exact ⟨rfl, by rw [if_pos (by omega)]⟩
      | exact ⟨rfl, by rw [if_neg (by omega)]⟩
  · refine q_aload_n (t := 8) F dX9_fail_7 rfl rfl rfl ?_
    refine q_iconst (t := 9) F dX9_fail_8 rfl ?_
    refine p_X9_179 (t := 12) F dX9_fail_9 rfl (by omega) rfl ?_
    refine q_aload_n (t := 13) F dX9_fail_12 rfl rfl rfl ?_
    refine q_aload_n (t := 14) F dX9_fail_13 rfl rfl rfl ?_
    refine g_X9_161 (t := 17) F dX9_fail_14 rfl rfl ?_
    try simp only [up_app, row_app, scr_app, cpy_app, Nat.reduceEqDiff, Int.reduceToNat, Int.toNat_natCast, and_true, true_and, and_false, false_and, and_self, reduceIte]
    refine p_X9_183 (t := 20) F dX9_fail_17 rfl rfl ?_
    refine q_vret F dX9_fail_20 rfl ?_
    first
      | exact ⟨rfl, by rw [if_pos (by omega)]⟩
      | exact ⟨rfl, by rw [if_neg (by omega)]⟩
end
section
/-! THE REFERENCE READS: its tokens -/
/-- the letters that it reads -/
def BRr (b : Nat → Int) (n : Nat) (im : IM) : Prop := im 30 0 22 = n ∧ ∃ t : Nat, t < 6 ∧ im 30 0 21 = ((160 * t : Nat) : Int) ∧ ∀ i, i < 160 → im 31 0 (160 * t + i) = b i
theorem BRr_ag {b : Nat → Int} {n : Nat} {im im' : IM} (h : BRr b n im) (h22 : im' 30 0 22 = im 30 0 22) (h21 : im' 30 0 21 = im 30 0 21) (h31 : ∀ s, im' 31 0 s = im 31 0 s) : BRr b n im' := by
  obtain ⟨e, t, ht, e2, e3⟩ := h
  exact ⟨h22.trans e, t, ht, h21.trans e2, fun i hi => (h31 _).trans (e3 i hi)⟩
theorem BRr_up {b : Nat → Int} {n s : Nat} {x : Int} {im : IM} (h : BRr b n im) (h1 : s ≠ 21) (h2 : s ≠ 22) : BRr b n (up im 30 0 s x) := BRr_ag h (by rw [up_app, if_neg (by omega)]) (by rw [up_app, if_neg (by omega)]) (fun s' => by rw [up_app, if_neg (by omega)])
/-- its token at a place -/
def TKr (b : Nat → Int) (n : Nat) (im lm : IM) (p : Nat) : Prop := (n ≤ p → im 30 0 24 = 0) ∧ (p < n → isL (b p) = true → im 30 0 24 = 1 ∧ im 30 0 23 = span isL b n p) ∧ (p < n → ¬ isL (b p) = true → isD (b p) = true → im 30 0 23 = span isD b n p ∧ (im 30 0 24 = if 4 < span isD b n p - p then 4 else 2) ∧ (span isD b n p - p ≤ 4 → lm 30 0 26 = numF b p (span isD b n p - p))) ∧ (p < n → ¬ isL (b p) = true → ¬ isD (b p) = true → (sgn (b p) → im 30 0 24 = 3 ∧ lm 30 0 26 = b p ∧ im 30 0 23 = (p : Int) + 1) ∧ (¬ sgn (b p) → im 30 0 24 = 4))
def agN (a b : IM) : Prop := ∀ k i s, ¬ (k = 30 ∧ 23 ≤ s ∧ s ≤ 25) → a k i s = b k i s
theorem agN_rfl (a : IM) : agN a a := fun _ _ _ _ => rfl
theorem agN_up {a b : IM} {s : Nat} {x : Int} (h : agN a b) (h1 : 23 ≤ s) (h2 : s ≤ 25) : agN (up a 30 0 s x) b := fun k i s' hs => by rw [up_app, if_neg (by omega)]; exact h k i s' hs
theorem BRr_agN {b : Nat → Int} {n : Nat} {im im' : IM} (h : BRr b n im) (ha : agN im' im) : BRr b n im' := BRr_ag h (ha 30 0 22 (by omega)) (ha 30 0 21 (by omega)) (fun s => ha 31 0 s (by omega))

set_option maxHeartbeats 4000000 in
theorem c_X9_byteAt (l : Launch) (G : GS) (im : IM) (bt rt : Nat) (lm : IM) (b : Nat → Int) (n : Nat) (hb : byt b n) (hR : RI im) (hB : BRr b n im) (i : Nat) (hi : i ≤ 160) : Cn l (XR G) yX9_byteAt Y_X9_byteAt [vR 30 0, vI (i : Int)] (im, rs bt rt, lm) (pI fun x m' => (i < n ∧ x = b i ∨ n ≤ i ∧ x = -1) ∧ m' = (im, rs bt rt, lm)) := by
  refine cn_of (by decide) (okR G) rfl (Nat.le_of_ble_eq_true rfl) ?_
  intro M ad hMl F
  subst hMl
  obtain ⟨e22, t, ht, e21, e31⟩ := hB
  have hn := hb.1
  refine wp_pad 0 ?_
  show Wp M (XR G) ad Y_X9_byteAt (pI fun x m' => (i < n ∧ x = b i ∨ n ≤ i ∧ x = -1) ∧ m' = (im, rs bt rt, lm)) 0 [some (vR 30 0), some (vI (i : Int))] [] (im, rs bt rt, lm)
  refine q_iload_n (t := 1) F dX9_byteAt_0 rfl rfl rfl ?_
  refine q_aload_n (t := 2) F dX9_byteAt_1 rfl rfl rfl ?_
  refine g_X9_149 (t := 5) F dX9_byteAt_2 rfl rfl ?_
  refine q_icmp_ge (t := 8) (u := 22) F dX9_byteAt_5 (by constructor <;> omega) (by exact hR _ _ _) (by decide) rfl (fun c5 => ?_) (fun c5 => ?_)
  · refine q_iconst (t := 23) F dX9_byteAt_22 rfl ?_
    refine q_iret F dX9_byteAt_23 rfl ?_
    first
      | exact ⟨_, rfl, Or.inl ⟨by omega, rfl⟩, rfl⟩
      | exact ⟨_, rfl, Or.inr ⟨by omega, rfl⟩, rfl⟩
  · refine q_aload_n (t := 9) F dX9_byteAt_8 rfl rfl rfl ?_
    refine g_X9_13 (t := 12) F dX9_byteAt_9 rfl rfl ?_
    refine q_aload_n (t := 13) F dX9_byteAt_12 rfl rfl rfl ?_
    refine g_X9_152 (t := 16) F dX9_byteAt_13 rfl rfl ?_
    refine q_iload_n (t := 17) F dX9_byteAt_16 rfl rfl rfl ?_
    refine q_iadd (t := 18) F dX9_byteAt_17 rfl ?_
    rw [e21, show ((160 * t : Nat) : Int) + (i : Int) = ((160 * t + i : Nat) : Int) by omega]
    first | refine ldN_31 (t := 19) F dX9_byteAt_18 (by omega) rfl ?_ | refine ld_31 (t := 19) F dX9_byteAt_18 (by omega) (by omega) rfl ?_
    rw [e31 i (by omega)]
    refine q_goto (t := 23) F dX9_byteAt_19 (by decide) ?_
    refine q_iret F dX9_byteAt_23 rfl ?_
    first
      | exact ⟨_, rfl, Or.inl ⟨by omega, rfl⟩, rfl⟩
      | exact ⟨_, rfl, Or.inr ⟨by omega, rfl⟩, rfl⟩

set_option maxHeartbeats 4000000 in
theorem c_X9_next (l : Launch) (G : GS) (im : IM) (bt rt : Nat) (lm : IM) (b : Nat → Int) (n : Nat) (hb : byt b n) (hR : RI im) (hB : BRr b n im) (q : Nat) (hq : q ≤ n) (h23 : im 30 0 23 = q) : Cn l (XR G) yX9_next Y_X9_next [vR 30 0] (im, rs bt rt, lm) (pV fun m' => ∃ im' lm', RI im' ∧ TKr b n im' lm' (span isW b n q) ∧ im' 30 0 25 = span isW b n q ∧ agN im' im ∧ (∀ k i s, ¬ (k = 30 ∧ s = 26) → lm' k i s = lm k i s) ∧ m' = (im', rs bt rt, lm')) := by
  refine cn_of (by decide) (okR G) rfl (Nat.le_of_ble_eq_true rfl) ?_
  intro M ad hMl F
  subst hMl
  have hn := hb.1
  refine wp_pad 2 ?_
  show Wp M (XR G) ad Y_X9_next (pV fun m' => ∃ im' lm', RI im' ∧ TKr b n im' lm' (span isW b n q) ∧ im' 30 0 25 = span isW b n q ∧ agN im' im ∧ (∀ k i s, ¬ (k = 30 ∧ s = 26) → lm' k i s = lm k i s) ∧ m' = (im', rs bt rt, lm')) 0 [some (vR 30 0), none, none] [] (im, rs bt rt, lm)
  have L0 : ∀ (fz : Nat) (p : Nat) (im1 : IM), n - p < fz → q ≤ p → p ≤ n → RI im1 → agN im1 im → im1 30 0 23 = p → span isW b n q = span isW b n p → Wp M (XR G) ad Y_X9_next (pV fun m' => ∃ im' lm', RI im' ∧ TKr b n im' lm' (span isW b n q) ∧ im' 30 0 25 = span isW b n q ∧ agN im' im ∧ (∀ k i s, ¬ (k = 30 ∧ s = 26) → lm' k i s = lm k i s) ∧ m' = (im', rs bt rt, lm')) 0 [some (vR 30 0), none, none] [] (im1, rs bt rt, lm) := by
    intro fz
    induction fz with
    | zero => intro p im1 h; exact absurd h (Nat.not_lt_zero _)
    | succ fz ih =>
      have ih0 := ih
      intro p im1 hmeas hqp hpn hR1 hag g23 hsp
      have hB1 := BRr_agN hB hag
      have hbp : p < n → 0 ≤ b p ∧ b p ≤ 255 := fun h => hb.2 p (by omega)
      have hbq : 0 ≤ b p ∧ b p ≤ 255 ∨ n ≤ p := by
        by_cases h : p < n
        · exact Or.inl (hbp h)
        · exact Or.inr (by omega)
      refine q_aload_n (t := 1) F dX9_next_0 rfl rfl rfl ?_
      refine q_aload_n (t := 2) F dX9_next_1 rfl rfl rfl ?_
      refine g_X9_155 (t := 5) F dX9_next_2 rfl rfl ?_
      rw [g23]
      refine wp_callV (t := 8) [_] F dX9_next_5 k_X9_byteAt v_X9_byteAt ml_X9_158 rfl rfl rfl rfl (Nat.le_of_ble_eq_true rfl) (by decide) (m_30 (by omega)) (c_X9_byteAt _ G im1 bt rt _ b n hb hR1 hB1 p (by omega)) rfl (kI ?_)
      rintro x5 m' ⟨hx5, rfl⟩
      refine q_bipush (t := 10) F dX9_next_8 (by decide) rfl ?_
      refine q_icmp_eq (t := 13) (u := 26) F dX9_next_10 (by constructor <;> omega) (by constructor <;> omega) (by decide) rfl (fun c10 => ?_) (fun c10 => ?_)
      · refine q_aload_n (t := 27) F dX9_next_26 rfl rfl rfl ?_
        refine q_dupR (t := 28) F dX9_next_27 rfl ?_
        refine g_X9_155 (t := 31) F dX9_next_28 rfl rfl ?_
        try simp only [up_app, row_app, scr_app, cpy_app, Nat.reduceEqDiff, Int.reduceToNat, Int.toNat_natCast, and_true, true_and, and_false, false_and, and_self, reduceIte]
        refine q_iconst (t := 32) F dX9_next_31 rfl ?_
        refine q_iadd (t := 33) F dX9_next_32 rfl ?_
        refine p_X9_155 (t := 36) F dX9_next_33 rfl rfl ?_
        refine q_goto (t := 0) F dX9_next_36 (by decide) ?_
        have hlt : p < n ∧ (b p = 32 ∨ b p = 10) := by
          rcases hx5 with h | h
          · first
              | omega
              | (rcases hx18 with h2 | h2 <;> omega)
          · first
              | omega
              | (rcases hx18 with h2 | h2 <;> omega)
        exact ih0 (p + 1) _ (by omega) (by omega) (by omega) (RI_up hR1 (by rw [g23]; constructor <;> omega)) (agN_up hag (by omega) (by omega)) (by rw [up_app, if_pos ⟨rfl, rfl, rfl⟩, g23]; omega) (by rw [hsp, span_y hlt.1 (isW_iff.mpr hlt.2)])
      · refine q_aload_n (t := 14) F dX9_next_13 rfl rfl rfl ?_
        refine q_aload_n (t := 15) F dX9_next_14 rfl rfl rfl ?_
        refine g_X9_155 (t := 18) F dX9_next_15 rfl rfl ?_
        try simp only [up_app, row_app, scr_app, cpy_app, Nat.reduceEqDiff, Int.reduceToNat, Int.toNat_natCast, and_true, true_and, and_false, false_and, and_self, reduceIte]
        rw [g23]
        refine wp_callV (t := 21) [_] F dX9_next_18 k_X9_byteAt v_X9_byteAt ml_X9_158 rfl rfl rfl rfl (Nat.le_of_ble_eq_true rfl) (by decide) (m_30 (by omega)) (c_X9_byteAt _ G im1 bt rt _ b n hb hR1 hB1 p (by omega)) rfl (kI ?_)
        rintro x18 m' ⟨hx18, rfl⟩
        refine q_bipush (t := 23) F dX9_next_21 (by decide) rfl ?_
        refine q_icmp_ne (t := 26) (u := 39) F dX9_next_23 (by constructor <;> omega) (by constructor <;> omega) (by decide) rfl (fun c23 => ?_) (fun c23 => ?_)
        · have hspq : span isW b n q = p := by
            rw [hsp]
            refine span_n (fun z => ?_)
            have z2 := isW_iff.mp z.2
            rcases hx5 with h | h
            · first
                | omega
                | (rcases hx18 with h2 | h2 <;> omega)
            · omega
          have hRa : RI (up im1 30 0 25 (p : Int)) := RI_up hR1 (by constructor <;> omega)
          have hBa : BRr b n (up im1 30 0 25 (p : Int)) := BRr_up hB1 (by omega) (by omega)
          refine q_aload_n (t := 40) F dX9_next_39 rfl rfl rfl ?_
          refine q_aload_n (t := 41) F dX9_next_40 rfl rfl rfl ?_
          refine g_X9_155 (t := 44) F dX9_next_41 rfl rfl ?_
          try simp only [up_app, row_app, scr_app, cpy_app, Nat.reduceEqDiff, Int.reduceToNat, Int.toNat_natCast, and_true, true_and, and_false, false_and, and_self, reduceIte]
          rw [g23]
          refine p_X9_161 (t := 47) F dX9_next_44 rfl rfl ?_
          refine q_aload_n (t := 48) F dX9_next_47 rfl rfl rfl ?_
          refine q_aload_n (t := 49) F dX9_next_48 rfl rfl rfl ?_
          refine g_X9_155 (t := 52) F dX9_next_49 rfl rfl ?_
          try simp only [up_app, row_app, scr_app, cpy_app, Nat.reduceEqDiff, Int.reduceToNat, Int.toNat_natCast, and_true, true_and, and_false, false_and, and_self, reduceIte]
          rw [g23]
          refine wp_callV (t := 55) [_] F dX9_next_52 k_X9_byteAt v_X9_byteAt ml_X9_158 rfl rfl rfl rfl (Nat.le_of_ble_eq_true rfl) (by decide) (m_30 (by omega)) (c_X9_byteAt _ G _ bt rt _ b n hb hRa hBa p (by omega)) rfl (kI ?_)
          rintro x52 m' ⟨hx52, rfl⟩
          refine q_istore_n (t := 56) F dX9_next_55 rfl (by decide) rfl rfl ?_
          refine q_aload_n (t := 57) F dX9_next_56 rfl rfl rfl ?_
          refine q_iconst (t := 58) F dX9_next_57 rfl ?_
          refine p_X9_164 (t := 61) F dX9_next_58 rfl rfl ?_
          refine q_iload_n (t := 62) F dX9_next_61 rfl rfl rfl ?_
          refine q_if_ge (t := 65) (u := 81) F dX9_next_62 (by constructor <;> omega) (by decide) rfl (fun c62 => ?_) (fun c62 => ?_)
          · refine q_iload_n (t := 82) F dX9_next_81 rfl rfl rfl ?_
            refine q_i2l (t := 83) F dX9_next_82 (by first | exact hR _ _ _ | (constructor <;> omega)) rfl ?_
            refine q_ldc2 (t := 86) (x := 97) F dX9_next_83 kl_X9_167 (by decide) rfl ?_
            refine q_ldc2 (t := 89) (x := 122) F dX9_next_86 kl_X9_169 (by decide) rfl ?_
            refine wp_callS (t := 92) [_, _, _] F dX9_next_89 k_X9_in st_X9_in ml_X9_91 rfl rfl (Nat.le_of_ble_eq_true rfl) (by decide) (c_X9_in _ G _ _ _ _ _ _ _ (by constructor <;> omega) (by constructor <;> omega) (by constructor <;> omega)) rfl (kI ?_)
            rintro x89 m' ⟨hx89, rfl⟩
            have hx89 := if01 hx89
            refine q_if_eq (t := 95) (u := 134) F dX9_next_92 (by first | exact hR _ _ _ | (constructor <;> omega)) (by decide) rfl (fun c92 => ?_) (fun c92 => ?_)
            · refine q_iload_n (t := 135) F dX9_next_134 rfl rfl rfl ?_
              refine q_i2l (t := 136) F dX9_next_135 (by first | exact hR _ _ _ | (constructor <;> omega)) rfl ?_
              refine q_ldc2 (t := 139) (x := 48) F dX9_next_136 kl_X9_171 (by decide) rfl ?_
              refine q_ldc2 (t := 142) (x := 57) F dX9_next_139 kl_X9_173 (by decide) rfl ?_
              refine wp_callS (t := 145) [_, _, _] F dX9_next_142 k_X9_in st_X9_in ml_X9_91 rfl rfl (Nat.le_of_ble_eq_true rfl) (by decide) (c_X9_in _ G _ _ _ _ _ _ _ (by constructor <;> omega) (by constructor <;> omega) (by constructor <;> omega)) rfl (kI ?_)
              rintro x142 m' ⟨hx142, rfl⟩
              have hx142 := if01 hx142
              refine q_if_eq (t := 148) (u := 252) F dX9_next_145 (by first | exact hR _ _ _ | (constructor <;> omega)) (by decide) rfl (fun c145 => ?_) (fun c145 => ?_)
              · refine q_iload_n (t := 253) F dX9_next_252 rfl rfl rfl ?_
                refine q_bipush (t := 255) F dX9_next_253 (by decide) rfl ?_
                refine q_icmp_eq (t := 258) (u := 300) F dX9_next_255 (by constructor <;> omega) (by constructor <;> omega) (by decide) rfl (fun c255 => ?_) (fun c255 => ?_)
                · refine q_aload_n (t := 301) F dX9_next_300 rfl rfl rfl ?_
                  refine q_iconst (t := 302) F dX9_next_301 rfl ?_
                  refine p_X9_164 (t := 305) F dX9_next_302 rfl rfl ?_
                  refine q_aload_n (t := 306) F dX9_next_305 rfl rfl rfl ?_
                  refine q_iload_n (t := 307) F dX9_next_306 rfl rfl rfl ?_
                  refine q_i2l (t := 308) F dX9_next_307 (by first | exact hR _ _ _ | (constructor <;> omega)) rfl ?_
                  refine p_X9_175 (t := 311) F dX9_next_308 rfl rfl ?_
                  refine q_aload_n (t := 312) F dX9_next_311 rfl rfl rfl ?_
                  refine q_dupR (t := 313) F dX9_next_312 rfl ?_
                  refine g_X9_155 (t := 316) F dX9_next_313 rfl rfl ?_
                  try simp only [up_app, row_app, scr_app, cpy_app, Nat.reduceEqDiff, Int.reduceToNat, Int.toNat_natCast, and_true, true_and, and_false, false_and, and_self, reduceIte]
                  refine q_iconst (t := 317) F dX9_next_316 rfl ?_
                  refine q_iadd (t := 318) F dX9_next_317 rfl ?_
                  refine p_X9_155 (t := 321) F dX9_next_318 rfl rfl ?_
                  refine q_vret F dX9_next_321 rfl ?_
                  first
                    | (have hlt : p < n ∧ 97 ≤ b p ∧ b p ≤ 122 := by rcases hx52 with h | h <;> omega
                       have hrs : span isL b n p = r := by
                         rw [hsr]
                         exact span_n (fun z => by have z2 := isL_iff.mp z.2; rcases hx105 with h | h <;> omega)
                       refine ⟨rfl, im2, lm, hR2, ?_, ?_, hag2, (fun _ _ _ _ => rfl), rfl⟩
                       · rw [hspq]
                         exact ⟨fun h => by omega, fun _ _ => ⟨k24, by rw [hrs]; exact k23⟩, fun _ h => absurd (isL_iff.mpr hlt.2) h, fun _ h => absurd (isL_iff.mpr hlt.2) h⟩
                       · rw [hspq]; exact k25)
                    | (have hlt : p < n ∧ ¬ (97 ≤ b p ∧ b p ≤ 122) ∧ 48 ≤ b p ∧ b p ≤ 57 := by rcases hx52 with h | h <;> omega
                       have hrs : span isD b n p = r := by
                         rw [hsr]
                         exact span_n (fun z => by have z2 := isD_iff.mp z.2; rcases hx165 with h | h <;> omega)
                       refine ⟨rfl, _, lm2, RI_up hR2 (by constructor <;> omega), ?_, ?_, agN_up hag2 (by omega) (by omega), hlg, rfl⟩
                       · rw [hspq]
                         refine ⟨fun h => by omega, fun _ h => absurd (isL_iff.mp h) hlt.2.1, fun _ _ _ => ⟨by rw [up_app, if_neg (by omega), hrs]; exact k23, ?_, fun h4 => by rw [hrs] at h4 ⊢; exact hnm h4⟩, fun _ _ h => absurd (isD_iff.mpr hlt.2.2) h⟩
                         rw [up_app, if_pos ⟨rfl, rfl, rfl⟩, hrs]
                         first
                           | rw [if_pos (by omega)]
                           | rw [if_neg (by omega)]
                       · rw [hspq, up_app, if_neg (by omega)]; exact k25)
                    | (have hnp : n ≤ p := by rcases hx52 with h | h <;> omega
                       have e22 : im1 30 0 22 = n := hB1.1
                       refine ⟨rfl, _, lm, RI_up (RI_up (RI_up (RI_up hR1 (by constructor <;> omega)) (by constructor <;> omega)) (by constructor <;> omega)) (hR1 _ _ _), ?_, ?_, agN_up (agN_up (agN_up (agN_up hag (by omega) (by omega)) (by omega) (by omega)) (by omega) (by omega)) (by omega) (by omega), (fun _ _ _ _ => rfl), rfl⟩
                       · rw [hspq]
                         exact ⟨fun _ => by rw [up_app, if_neg (by omega), up_app, if_pos ⟨rfl, rfl, rfl⟩], fun h => by omega, fun h => by omega, fun h => by omega⟩
                       · rw [hspq, up_app, if_pos ⟨rfl, rfl, rfl⟩]; omega)
                    | (have hlt : p < n ∧ x52 = b p := by rcases hx52 with h | h <;> omega
                       have hsg : sgn (b p) := by unfold sgn; omega
                       refine ⟨rfl, _, _, RI_up (RI_up (RI_up (RI_up hR1 (by constructor <;> omega)) (by constructor <;> omega)) (by constructor <;> omega)) (by rw [g23]; constructor <;> omega), ?_, ?_, agN_up (agN_up (agN_up (agN_up hag (by omega) (by omega)) (by omega) (by omega)) (by omega) (by omega)) (by omega) (by omega), (fun k i s h => by rw [up_app, if_neg (by omega)]), rfl⟩
                       · rw [hspq]
                         refine ⟨fun h => by omega, fun _ h => absurd (isL_iff.mp h) (by omega), fun _ _ h => absurd (isD_iff.mp h) (by omega), fun _ _ _ => ⟨fun _ => ⟨?_, ?_, ?_⟩, fun h => absurd hsg h⟩⟩
                         · rw [up_app, if_neg (by omega), up_app, if_pos ⟨rfl, rfl, rfl⟩]
                         · rw [up_app, if_pos ⟨rfl, rfl, rfl⟩]; exact hlt.2
                         · rw [up_app, if_pos ⟨rfl, rfl, rfl⟩, g23]
                       · rw [hspq]; simp only [up_app]; repeat (first | rfl | rw [if_neg (by omega)] | rw [if_pos (by omega)]))
                    | (have hlt : p < n ∧ x52 = b p := by rcases hx52 with h | h <;> omega
                       have hsg : ¬ sgn (b p) := by unfold sgn; omega
                       refine ⟨rfl, _, lm, RI_up (RI_up hR1 (by constructor <;> omega)) (by constructor <;> omega), ?_, ?_, agN_up (agN_up hag (by omega) (by omega)) (by omega) (by omega), (fun _ _ _ _ => rfl), rfl⟩
                       · rw [hspq]
                         exact ⟨fun h => by omega, fun _ h => absurd (isL_iff.mp h) (by omega), fun _ _ h => absurd (isD_iff.mp h) (by omega), fun _ _ _ => ⟨fun h => absurd h hsg, fun _ => by rw [up_app, if_pos ⟨rfl, rfl, rfl⟩]⟩⟩
                       · rw [hspq, up_app, if_neg (by omega), up_app, if_pos ⟨rfl, rfl, rfl⟩])
                · refine q_iload_n (t := 259) F dX9_next_258 rfl rfl rfl ?_
                  refine q_bipush (t := 261) F dX9_next_259 (by decide) rfl ?_
                  refine q_icmp_eq (t := 264) (u := 300) F dX9_next_261 (by constructor <;> omega) (by constructor <;> omega) (by decide) rfl (fun c261 => ?_) (fun c261 => ?_)
                  · refine q_aload_n (t := 301) F dX9_next_300 rfl rfl rfl ?_
                    refine q_iconst (t := 302) F dX9_next_301 rfl ?_
                    refine p_X9_164 (t := 305) F dX9_next_302 rfl rfl ?_
                    refine q_aload_n (t := 306) F dX9_next_305 rfl rfl rfl ?_
                    refine q_iload_n (t := 307) F dX9_next_306 rfl rfl rfl ?_
                    refine q_i2l (t := 308) F dX9_next_307 (by first | exact hR _ _ _ | (constructor <;> omega)) rfl ?_
                    refine p_X9_175 (t := 311) F dX9_next_308 rfl rfl ?_
                    refine q_aload_n (t := 312) F dX9_next_311 rfl rfl rfl ?_
                    refine q_dupR (t := 313) F dX9_next_312 rfl ?_
                    refine g_X9_155 (t := 316) F dX9_next_313 rfl rfl ?_
                    try simp only [up_app, row_app, scr_app, cpy_app, Nat.reduceEqDiff, Int.reduceToNat, Int.toNat_natCast, and_true, true_and, and_false, false_and, and_self, reduceIte]
                    refine q_iconst (t := 317) F dX9_next_316 rfl ?_
                    refine q_iadd (t := 318) F dX9_next_317 rfl ?_
                    refine p_X9_155 (t := 321) F dX9_next_318 rfl rfl ?_
                    refine q_vret F dX9_next_321 rfl ?_
                    first
                      | (have hlt : p < n ∧ 97 ≤ b p ∧ b p ≤ 122 := by rcases hx52 with h | h <;> omega
                         have hrs : span isL b n p = r := by
                           rw [hsr]
                           exact span_n (fun z => by have z2 := isL_iff.mp z.2; rcases hx105 with h | h <;> omega)
                         refine ⟨rfl, im2, lm, hR2, ?_, ?_, hag2, (fun _ _ _ _ => rfl), rfl⟩
                         · rw [hspq]
                           exact ⟨fun h => by omega, fun _ _ => ⟨k24, by rw [hrs]; exact k23⟩, fun _ h => absurd (isL_iff.mpr hlt.2) h, fun _ h => absurd (isL_iff.mpr hlt.2) h⟩
                         · rw [hspq]; exact k25)
                      | (have hlt : p < n ∧ ¬ (97 ≤ b p ∧ b p ≤ 122) ∧ 48 ≤ b p ∧ b p ≤ 57 := by rcases hx52 with h | h <;> omega
                         have hrs : span isD b n p = r := by
                           rw [hsr]
                           exact span_n (fun z => by have z2 := isD_iff.mp z.2; rcases hx165 with h | h <;> omega)
                         refine ⟨rfl, _, lm2, RI_up hR2 (by constructor <;> omega), ?_, ?_, agN_up hag2 (by omega) (by omega), hlg, rfl⟩
                         · rw [hspq]
                           refine ⟨fun h => by omega, fun _ h => absurd (isL_iff.mp h) hlt.2.1, fun _ _ _ => ⟨by rw [up_app, if_neg (by omega), hrs]; exact k23, ?_, fun h4 => by rw [hrs] at h4 ⊢; exact hnm h4⟩, fun _ _ h => absurd (isD_iff.mpr hlt.2.2) h⟩
                           rw [up_app, if_pos ⟨rfl, rfl, rfl⟩, hrs]
                           first
                             | rw [if_pos (by omega)]
                             | rw [if_neg (by omega)]
                         · rw [hspq, up_app, if_neg (by omega)]; exact k25)
                      | (have hnp : n ≤ p := by rcases hx52 with h | h <;> omega
                         have e22 : im1 30 0 22 = n := hB1.1
                         refine ⟨rfl, _, lm, RI_up (RI_up (RI_up (RI_up hR1 (by constructor <;> omega)) (by constructor <;> omega)) (by constructor <;> omega)) (hR1 _ _ _), ?_, ?_, agN_up (agN_up (agN_up (agN_up hag (by omega) (by omega)) (by omega) (by omega)) (by omega) (by omega)) (by omega) (by omega), (fun _ _ _ _ => rfl), rfl⟩
                         · rw [hspq]
                           exact ⟨fun _ => by rw [up_app, if_neg (by omega), up_app, if_pos ⟨rfl, rfl, rfl⟩], fun h => by omega, fun h => by omega, fun h => by omega⟩
                         · rw [hspq, up_app, if_pos ⟨rfl, rfl, rfl⟩]; omega)
                      | (have hlt : p < n ∧ x52 = b p := by rcases hx52 with h | h <;> omega
                         have hsg : sgn (b p) := by unfold sgn; omega
                         refine ⟨rfl, _, _, RI_up (RI_up (RI_up (RI_up hR1 (by constructor <;> omega)) (by constructor <;> omega)) (by constructor <;> omega)) (by rw [g23]; constructor <;> omega), ?_, ?_, agN_up (agN_up (agN_up (agN_up hag (by omega) (by omega)) (by omega) (by omega)) (by omega) (by omega)) (by omega) (by omega), (fun k i s h => by rw [up_app, if_neg (by omega)]), rfl⟩
                         · rw [hspq]
                           refine ⟨fun h => by omega, fun _ h => absurd (isL_iff.mp h) (by omega), fun _ _ h => absurd (isD_iff.mp h) (by omega), fun _ _ _ => ⟨fun _ => ⟨?_, ?_, ?_⟩, fun h => absurd hsg h⟩⟩
                           · rw [up_app, if_neg (by omega), up_app, if_pos ⟨rfl, rfl, rfl⟩]
                           · rw [up_app, if_pos ⟨rfl, rfl, rfl⟩]; exact hlt.2
                           · rw [up_app, if_pos ⟨rfl, rfl, rfl⟩, g23]
                         · rw [hspq]; simp only [up_app]; repeat (first | rfl | rw [if_neg (by omega)] | rw [if_pos (by omega)]))
                      | (have hlt : p < n ∧ x52 = b p := by rcases hx52 with h | h <;> omega
                         have hsg : ¬ sgn (b p) := by unfold sgn; omega
                         refine ⟨rfl, _, lm, RI_up (RI_up hR1 (by constructor <;> omega)) (by constructor <;> omega), ?_, ?_, agN_up (agN_up hag (by omega) (by omega)) (by omega) (by omega), (fun _ _ _ _ => rfl), rfl⟩
                         · rw [hspq]
                           exact ⟨fun h => by omega, fun _ h => absurd (isL_iff.mp h) (by omega), fun _ _ h => absurd (isD_iff.mp h) (by omega), fun _ _ _ => ⟨fun h => absurd h hsg, fun _ => by rw [up_app, if_pos ⟨rfl, rfl, rfl⟩]⟩⟩
                         · rw [hspq, up_app, if_neg (by omega), up_app, if_pos ⟨rfl, rfl, rfl⟩])
                  · refine q_iload_n (t := 265) F dX9_next_264 rfl rfl rfl ?_
                    refine q_bipush (t := 267) F dX9_next_265 (by decide) rfl ?_
                    refine q_icmp_eq (t := 270) (u := 300) F dX9_next_267 (by constructor <;> omega) (by constructor <;> omega) (by decide) rfl (fun c267 => ?_) (fun c267 => ?_)
                    · refine q_aload_n (t := 301) F dX9_next_300 rfl rfl rfl ?_
                      refine q_iconst (t := 302) F dX9_next_301 rfl ?_
                      refine p_X9_164 (t := 305) F dX9_next_302 rfl rfl ?_
                      refine q_aload_n (t := 306) F dX9_next_305 rfl rfl rfl ?_
                      refine q_iload_n (t := 307) F dX9_next_306 rfl rfl rfl ?_
                      refine q_i2l (t := 308) F dX9_next_307 (by first | exact hR _ _ _ | (constructor <;> omega)) rfl ?_
                      refine p_X9_175 (t := 311) F dX9_next_308 rfl rfl ?_
                      refine q_aload_n (t := 312) F dX9_next_311 rfl rfl rfl ?_
                      refine q_dupR (t := 313) F dX9_next_312 rfl ?_
                      refine g_X9_155 (t := 316) F dX9_next_313 rfl rfl ?_
                      try simp only [up_app, row_app, scr_app, cpy_app, Nat.reduceEqDiff, Int.reduceToNat, Int.toNat_natCast, and_true, true_and, and_false, false_and, and_self, reduceIte]
                      refine q_iconst (t := 317) F dX9_next_316 rfl ?_
                      refine q_iadd (t := 318) F dX9_next_317 rfl ?_
                      refine p_X9_155 (t := 321) F dX9_next_318 rfl rfl ?_
                      refine q_vret F dX9_next_321 rfl ?_
                      first
                        | (have hlt : p < n ∧ 97 ≤ b p ∧ b p ≤ 122 := by rcases hx52 with h | h <;> omega
                           have hrs : span isL b n p = r := by
                             rw [hsr]
                             exact span_n (fun z => by have z2 := isL_iff.mp z.2; rcases hx105 with h | h <;> omega)
                           refine ⟨rfl, im2, lm, hR2, ?_, ?_, hag2, (fun _ _ _ _ => rfl), rfl⟩
                           · rw [hspq]
                             exact ⟨fun h => by omega, fun _ _ => ⟨k24, by rw [hrs]; exact k23⟩, fun _ h => absurd (isL_iff.mpr hlt.2) h, fun _ h => absurd (isL_iff.mpr hlt.2) h⟩
                           · rw [hspq]; exact k25)
                        | (have hlt : p < n ∧ ¬ (97 ≤ b p ∧ b p ≤ 122) ∧ 48 ≤ b p ∧ b p ≤ 57 := by rcases hx52 with h | h <;> omega
                           have hrs : span isD b n p = r := by
                             rw [hsr]
                             exact span_n (fun z => by have z2 := isD_iff.mp z.2; rcases hx165 with h | h <;> omega)
                           refine ⟨rfl, _, lm2, RI_up hR2 (by constructor <;> omega), ?_, ?_, agN_up hag2 (by omega) (by omega), hlg, rfl⟩
                           · rw [hspq]
                             refine ⟨fun h => by omega, fun _ h => absurd (isL_iff.mp h) hlt.2.1, fun _ _ _ => ⟨by rw [up_app, if_neg (by omega), hrs]; exact k23, ?_, fun h4 => by rw [hrs] at h4 ⊢; exact hnm h4⟩, fun _ _ h => absurd (isD_iff.mpr hlt.2.2) h⟩
                             rw [up_app, if_pos ⟨rfl, rfl, rfl⟩, hrs]
                             first
                               | rw [if_pos (by omega)]
                               | rw [if_neg (by omega)]
                           · rw [hspq, up_app, if_neg (by omega)]; exact k25)
                        | (have hnp : n ≤ p := by rcases hx52 with h | h <;> omega
                           have e22 : im1 30 0 22 = n := hB1.1
                           refine ⟨rfl, _, lm, RI_up (RI_up (RI_up (RI_up hR1 (by constructor <;> omega)) (by constructor <;> omega)) (by constructor <;> omega)) (hR1 _ _ _), ?_, ?_, agN_up (agN_up (agN_up (agN_up hag (by omega) (by omega)) (by omega) (by omega)) (by omega) (by omega)) (by omega) (by omega), (fun _ _ _ _ => rfl), rfl⟩
                           · rw [hspq]
                             exact ⟨fun _ => by rw [up_app, if_neg (by omega), up_app, if_pos ⟨rfl, rfl, rfl⟩], fun h => by omega, fun h => by omega, fun h => by omega⟩
                           · rw [hspq, up_app, if_pos ⟨rfl, rfl, rfl⟩]; omega)
                        | (have hlt : p < n ∧ x52 = b p := by rcases hx52 with h | h <;> omega
                           have hsg : sgn (b p) := by unfold sgn; omega
                           refine ⟨rfl, _, _, RI_up (RI_up (RI_up (RI_up hR1 (by constructor <;> omega)) (by constructor <;> omega)) (by constructor <;> omega)) (by rw [g23]; constructor <;> omega), ?_, ?_, agN_up (agN_up (agN_up (agN_up hag (by omega) (by omega)) (by omega) (by omega)) (by omega) (by omega)) (by omega) (by omega), (fun k i s h => by rw [up_app, if_neg (by omega)]), rfl⟩
                           · rw [hspq]
                             refine ⟨fun h => by omega, fun _ h => absurd (isL_iff.mp h) (by omega), fun _ _ h => absurd (isD_iff.mp h) (by omega), fun _ _ _ => ⟨fun _ => ⟨?_, ?_, ?_⟩, fun h => absurd hsg h⟩⟩
                             · rw [up_app, if_neg (by omega), up_app, if_pos ⟨rfl, rfl, rfl⟩]
                             · rw [up_app, if_pos ⟨rfl, rfl, rfl⟩]; exact hlt.2
                             · rw [up_app, if_pos ⟨rfl, rfl, rfl⟩, g23]
                           · rw [hspq]; simp only [up_app]; repeat (first | rfl | rw [if_neg (by omega)] | rw [if_pos (by omega)]))
                        | (have hlt : p < n ∧ x52 = b p := by rcases hx52 with h | h <;> omega
                           have hsg : ¬ sgn (b p) := by unfold sgn; omega
                           refine ⟨rfl, _, lm, RI_up (RI_up hR1 (by constructor <;> omega)) (by constructor <;> omega), ?_, ?_, agN_up (agN_up hag (by omega) (by omega)) (by omega) (by omega), (fun _ _ _ _ => rfl), rfl⟩
                           · rw [hspq]
                             exact ⟨fun h => by omega, fun _ h => absurd (isL_iff.mp h) (by omega), fun _ _ h => absurd (isD_iff.mp h) (by omega), fun _ _ _ => ⟨fun h => absurd h hsg, fun _ => by rw [up_app, if_pos ⟨rfl, rfl, rfl⟩]⟩⟩
                           · rw [hspq, up_app, if_neg (by omega), up_app, if_pos ⟨rfl, rfl, rfl⟩])
                    · refine q_iload_n (t := 271) F dX9_next_270 rfl rfl rfl ?_
                      refine q_bipush (t := 273) F dX9_next_271 (by decide) rfl ?_
                      refine q_icmp_eq (t := 276) (u := 300) F dX9_next_273 (by constructor <;> omega) (by constructor <;> omega) (by decide) rfl (fun c273 => ?_) (fun c273 => ?_)
                      · refine q_aload_n (t := 301) F dX9_next_300 rfl rfl rfl ?_
                        refine q_iconst (t := 302) F dX9_next_301 rfl ?_
                        refine p_X9_164 (t := 305) F dX9_next_302 rfl rfl ?_
                        refine q_aload_n (t := 306) F dX9_next_305 rfl rfl rfl ?_
                        refine q_iload_n (t := 307) F dX9_next_306 rfl rfl rfl ?_
                        refine q_i2l (t := 308) F dX9_next_307 (by first | exact hR _ _ _ | (constructor <;> omega)) rfl ?_
                        refine p_X9_175 (t := 311) F dX9_next_308 rfl rfl ?_
                        refine q_aload_n (t := 312) F dX9_next_311 rfl rfl rfl ?_
                        refine q_dupR (t := 313) F dX9_next_312 rfl ?_
                        refine g_X9_155 (t := 316) F dX9_next_313 rfl rfl ?_
                        try simp only [up_app, row_app, scr_app, cpy_app, Nat.reduceEqDiff, Int.reduceToNat, Int.toNat_natCast, and_true, true_and, and_false, false_and, and_self, reduceIte]
                        refine q_iconst (t := 317) F dX9_next_316 rfl ?_
                        refine q_iadd (t := 318) F dX9_next_317 rfl ?_
                        refine p_X9_155 (t := 321) F dX9_next_318 rfl rfl ?_
                        refine q_vret F dX9_next_321 rfl ?_
                        first
                          | (have hlt : p < n ∧ 97 ≤ b p ∧ b p ≤ 122 := by rcases hx52 with h | h <;> omega
                             have hrs : span isL b n p = r := by
                               rw [hsr]
                               exact span_n (fun z => by have z2 := isL_iff.mp z.2; rcases hx105 with h | h <;> omega)
                             refine ⟨rfl, im2, lm, hR2, ?_, ?_, hag2, (fun _ _ _ _ => rfl), rfl⟩
                             · rw [hspq]
                               exact ⟨fun h => by omega, fun _ _ => ⟨k24, by rw [hrs]; exact k23⟩, fun _ h => absurd (isL_iff.mpr hlt.2) h, fun _ h => absurd (isL_iff.mpr hlt.2) h⟩
                             · rw [hspq]; exact k25)
                          | (have hlt : p < n ∧ ¬ (97 ≤ b p ∧ b p ≤ 122) ∧ 48 ≤ b p ∧ b p ≤ 57 := by rcases hx52 with h | h <;> omega
                             have hrs : span isD b n p = r := by
                               rw [hsr]
                               exact span_n (fun z => by have z2 := isD_iff.mp z.2; rcases hx165 with h | h <;> omega)
                             refine ⟨rfl, _, lm2, RI_up hR2 (by constructor <;> omega), ?_, ?_, agN_up hag2 (by omega) (by omega), hlg, rfl⟩
                             · rw [hspq]
                               refine ⟨fun h => by omega, fun _ h => absurd (isL_iff.mp h) hlt.2.1, fun _ _ _ => ⟨by rw [up_app, if_neg (by omega), hrs]; exact k23, ?_, fun h4 => by rw [hrs] at h4 ⊢; exact hnm h4⟩, fun _ _ h => absurd (isD_iff.mpr hlt.2.2) h⟩
                               rw [up_app, if_pos ⟨rfl, rfl, rfl⟩, hrs]
                               first
                                 | rw [if_pos (by omega)]
                                 | rw [if_neg (by omega)]
                             · rw [hspq, up_app, if_neg (by omega)]; exact k25)
                          | (have hnp : n ≤ p := by rcases hx52 with h | h <;> omega
                             have e22 : im1 30 0 22 = n := hB1.1
                             refine ⟨rfl, _, lm, RI_up (RI_up (RI_up (RI_up hR1 (by constructor <;> omega)) (by constructor <;> omega)) (by constructor <;> omega)) (hR1 _ _ _), ?_, ?_, agN_up (agN_up (agN_up (agN_up hag (by omega) (by omega)) (by omega) (by omega)) (by omega) (by omega)) (by omega) (by omega), (fun _ _ _ _ => rfl), rfl⟩
                             · rw [hspq]
                               exact ⟨fun _ => by rw [up_app, if_neg (by omega), up_app, if_pos ⟨rfl, rfl, rfl⟩], fun h => by omega, fun h => by omega, fun h => by omega⟩
                             · rw [hspq, up_app, if_pos ⟨rfl, rfl, rfl⟩]; omega)
                          | (have hlt : p < n ∧ x52 = b p := by rcases hx52 with h | h <;> omega
                             have hsg : sgn (b p) := by unfold sgn; omega
                             refine ⟨rfl, _, _, RI_up (RI_up (RI_up (RI_up hR1 (by constructor <;> omega)) (by constructor <;> omega)) (by constructor <;> omega)) (by rw [g23]; constructor <;> omega), ?_, ?_, agN_up (agN_up (agN_up (agN_up hag (by omega) (by omega)) (by omega) (by omega)) (by omega) (by omega)) (by omega) (by omega), (fun k i s h => by rw [up_app, if_neg (by omega)]), rfl⟩
                             · rw [hspq]
                               refine ⟨fun h => by omega, fun _ h => absurd (isL_iff.mp h) (by omega), fun _ _ h => absurd (isD_iff.mp h) (by omega), fun _ _ _ => ⟨fun _ => ⟨?_, ?_, ?_⟩, fun h => absurd hsg h⟩⟩
                               · rw [up_app, if_neg (by omega), up_app, if_pos ⟨rfl, rfl, rfl⟩]
                               · rw [up_app, if_pos ⟨rfl, rfl, rfl⟩]; exact hlt.2
                               · rw [up_app, if_pos ⟨rfl, rfl, rfl⟩, g23]
                             · rw [hspq]; simp only [up_app]; repeat (first | rfl | rw [if_neg (by omega)] | rw [if_pos (by omega)]))
                          | (have hlt : p < n ∧ x52 = b p := by rcases hx52 with h | h <;> omega
                             have hsg : ¬ sgn (b p) := by unfold sgn; omega
                             refine ⟨rfl, _, lm, RI_up (RI_up hR1 (by constructor <;> omega)) (by constructor <;> omega), ?_, ?_, agN_up (agN_up hag (by omega) (by omega)) (by omega) (by omega), (fun _ _ _ _ => rfl), rfl⟩
                             · rw [hspq]
                               exact ⟨fun h => by omega, fun _ h => absurd (isL_iff.mp h) (by omega), fun _ _ h => absurd (isD_iff.mp h) (by omega), fun _ _ _ => ⟨fun h => absurd h hsg, fun _ => by rw [up_app, if_pos ⟨rfl, rfl, rfl⟩]⟩⟩
                             · rw [hspq, up_app, if_neg (by omega), up_app, if_pos ⟨rfl, rfl, rfl⟩])
                      · refine q_iload_n (t := 277) F dX9_next_276 rfl rfl rfl ?_
                        refine q_bipush (t := 279) F dX9_next_277 (by decide) rfl ?_
                        refine q_icmp_eq (t := 282) (u := 300) F dX9_next_279 (by constructor <;> omega) (by constructor <;> omega) (by decide) rfl (fun c279 => ?_) (fun c279 => ?_)
                        · refine q_aload_n (t := 301) F dX9_next_300 rfl rfl rfl ?_
                          refine q_iconst (t := 302) F dX9_next_301 rfl ?_
                          refine p_X9_164 (t := 305) F dX9_next_302 rfl rfl ?_
                          refine q_aload_n (t := 306) F dX9_next_305 rfl rfl rfl ?_
                          refine q_iload_n (t := 307) F dX9_next_306 rfl rfl rfl ?_
                          refine q_i2l (t := 308) F dX9_next_307 (by first | exact hR _ _ _ | (constructor <;> omega)) rfl ?_
                          refine p_X9_175 (t := 311) F dX9_next_308 rfl rfl ?_
                          refine q_aload_n (t := 312) F dX9_next_311 rfl rfl rfl ?_
                          refine q_dupR (t := 313) F dX9_next_312 rfl ?_
                          refine g_X9_155 (t := 316) F dX9_next_313 rfl rfl ?_
                          try simp only [up_app, row_app, scr_app, cpy_app, Nat.reduceEqDiff, Int.reduceToNat, Int.toNat_natCast, and_true, true_and, and_false, false_and, and_self, reduceIte]
                          refine q_iconst (t := 317) F dX9_next_316 rfl ?_
                          refine q_iadd (t := 318) F dX9_next_317 rfl ?_
                          refine p_X9_155 (t := 321) F dX9_next_318 rfl rfl ?_
                          refine q_vret F dX9_next_321 rfl ?_
                          first
                            | (have hlt : p < n ∧ 97 ≤ b p ∧ b p ≤ 122 := by rcases hx52 with h | h <;> omega
                               have hrs : span isL b n p = r := by
                                 rw [hsr]
                                 exact span_n (fun z => by have z2 := isL_iff.mp z.2; rcases hx105 with h | h <;> omega)
                               refine ⟨rfl, im2, lm, hR2, ?_, ?_, hag2, (fun _ _ _ _ => rfl), rfl⟩
                               · rw [hspq]
                                 exact ⟨fun h => by omega, fun _ _ => ⟨k24, by rw [hrs]; exact k23⟩, fun _ h => absurd (isL_iff.mpr hlt.2) h, fun _ h => absurd (isL_iff.mpr hlt.2) h⟩
                               · rw [hspq]; exact k25)
                            | (have hlt : p < n ∧ ¬ (97 ≤ b p ∧ b p ≤ 122) ∧ 48 ≤ b p ∧ b p ≤ 57 := by rcases hx52 with h | h <;> omega
                               have hrs : span isD b n p = r := by
                                 rw [hsr]
                                 exact span_n (fun z => by have z2 := isD_iff.mp z.2; rcases hx165 with h | h <;> omega)
                               refine ⟨rfl, _, lm2, RI_up hR2 (by constructor <;> omega), ?_, ?_, agN_up hag2 (by omega) (by omega), hlg, rfl⟩
                               · rw [hspq]
                                 refine ⟨fun h => by omega, fun _ h => absurd (isL_iff.mp h) hlt.2.1, fun _ _ _ => ⟨by rw [up_app, if_neg (by omega), hrs]; exact k23, ?_, fun h4 => by rw [hrs] at h4 ⊢; exact hnm h4⟩, fun _ _ h => absurd (isD_iff.mpr hlt.2.2) h⟩
                                 rw [up_app, if_pos ⟨rfl, rfl, rfl⟩, hrs]
                                 first
                                   | rw [if_pos (by omega)]
                                   | rw [if_neg (by omega)]
                               · rw [hspq, up_app, if_neg (by omega)]; exact k25)
                            | (have hnp : n ≤ p := by rcases hx52 with h | h <;> omega
                               have e22 : im1 30 0 22 = n := hB1.1
                               refine ⟨rfl, _, lm, RI_up (RI_up (RI_up (RI_up hR1 (by constructor <;> omega)) (by constructor <;> omega)) (by constructor <;> omega)) (hR1 _ _ _), ?_, ?_, agN_up (agN_up (agN_up (agN_up hag (by omega) (by omega)) (by omega) (by omega)) (by omega) (by omega)) (by omega) (by omega), (fun _ _ _ _ => rfl), rfl⟩
                               · rw [hspq]
                                 exact ⟨fun _ => by rw [up_app, if_neg (by omega), up_app, if_pos ⟨rfl, rfl, rfl⟩], fun h => by omega, fun h => by omega, fun h => by omega⟩
                               · rw [hspq, up_app, if_pos ⟨rfl, rfl, rfl⟩]; omega)
                            | (have hlt : p < n ∧ x52 = b p := by rcases hx52 with h | h <;> omega
                               have hsg : sgn (b p) := by unfold sgn; omega
                               refine ⟨rfl, _, _, RI_up (RI_up (RI_up (RI_up hR1 (by constructor <;> omega)) (by constructor <;> omega)) (by constructor <;> omega)) (by rw [g23]; constructor <;> omega), ?_, ?_, agN_up (agN_up (agN_up (agN_up hag (by omega) (by omega)) (by omega) (by omega)) (by omega) (by omega)) (by omega) (by omega), (fun k i s h => by rw [up_app, if_neg (by omega)]), rfl⟩
                               · rw [hspq]
                                 refine ⟨fun h => by omega, fun _ h => absurd (isL_iff.mp h) (by omega), fun _ _ h => absurd (isD_iff.mp h) (by omega), fun _ _ _ => ⟨fun _ => ⟨?_, ?_, ?_⟩, fun h => absurd hsg h⟩⟩
                                 · rw [up_app, if_neg (by omega), up_app, if_pos ⟨rfl, rfl, rfl⟩]
                                 · rw [up_app, if_pos ⟨rfl, rfl, rfl⟩]; exact hlt.2
                                 · rw [up_app, if_pos ⟨rfl, rfl, rfl⟩, g23]
                               · rw [hspq]; simp only [up_app]; repeat (first | rfl | rw [if_neg (by omega)] | rw [if_pos (by omega)]))
                            | (have hlt : p < n ∧ x52 = b p := by rcases hx52 with h | h <;> omega
                               have hsg : ¬ sgn (b p) := by unfold sgn; omega
                               refine ⟨rfl, _, lm, RI_up (RI_up hR1 (by constructor <;> omega)) (by constructor <;> omega), ?_, ?_, agN_up (agN_up hag (by omega) (by omega)) (by omega) (by omega), (fun _ _ _ _ => rfl), rfl⟩
                               · rw [hspq]
                                 exact ⟨fun h => by omega, fun _ h => absurd (isL_iff.mp h) (by omega), fun _ _ h => absurd (isD_iff.mp h) (by omega), fun _ _ _ => ⟨fun h => absurd h hsg, fun _ => by rw [up_app, if_pos ⟨rfl, rfl, rfl⟩]⟩⟩
                               · rw [hspq, up_app, if_neg (by omega), up_app, if_pos ⟨rfl, rfl, rfl⟩])
                        · refine q_iload_n (t := 283) F dX9_next_282 rfl rfl rfl ?_
                          refine q_bipush (t := 285) F dX9_next_283 (by decide) rfl ?_
                          refine q_icmp_eq (t := 288) (u := 300) F dX9_next_285 (by constructor <;> omega) (by constructor <;> omega) (by decide) rfl (fun c285 => ?_) (fun c285 => ?_)
                          · refine q_aload_n (t := 301) F dX9_next_300 rfl rfl rfl ?_
                            refine q_iconst (t := 302) F dX9_next_301 rfl ?_
                            refine p_X9_164 (t := 305) F dX9_next_302 rfl rfl ?_
                            refine q_aload_n (t := 306) F dX9_next_305 rfl rfl rfl ?_
                            refine q_iload_n (t := 307) F dX9_next_306 rfl rfl rfl ?_
                            refine q_i2l (t := 308) F dX9_next_307 (by first | exact hR _ _ _ | (constructor <;> omega)) rfl ?_
                            refine p_X9_175 (t := 311) F dX9_next_308 rfl rfl ?_
                            refine q_aload_n (t := 312) F dX9_next_311 rfl rfl rfl ?_
                            refine q_dupR (t := 313) F dX9_next_312 rfl ?_
                            refine g_X9_155 (t := 316) F dX9_next_313 rfl rfl ?_
                            try simp only [up_app, row_app, scr_app, cpy_app, Nat.reduceEqDiff, Int.reduceToNat, Int.toNat_natCast, and_true, true_and, and_false, false_and, and_self, reduceIte]
                            refine q_iconst (t := 317) F dX9_next_316 rfl ?_
                            refine q_iadd (t := 318) F dX9_next_317 rfl ?_
                            refine p_X9_155 (t := 321) F dX9_next_318 rfl rfl ?_
                            refine q_vret F dX9_next_321 rfl ?_
                            first
                              | (have hlt : p < n ∧ 97 ≤ b p ∧ b p ≤ 122 := by rcases hx52 with h | h <;> omega
                                 have hrs : span isL b n p = r := by
                                   rw [hsr]
                                   exact span_n (fun z => by have z2 := isL_iff.mp z.2; rcases hx105 with h | h <;> omega)
                                 refine ⟨rfl, im2, lm, hR2, ?_, ?_, hag2, (fun _ _ _ _ => rfl), rfl⟩
                                 · rw [hspq]
                                   exact ⟨fun h => by omega, fun _ _ => ⟨k24, by rw [hrs]; exact k23⟩, fun _ h => absurd (isL_iff.mpr hlt.2) h, fun _ h => absurd (isL_iff.mpr hlt.2) h⟩
                                 · rw [hspq]; exact k25)
                              | (have hlt : p < n ∧ ¬ (97 ≤ b p ∧ b p ≤ 122) ∧ 48 ≤ b p ∧ b p ≤ 57 := by rcases hx52 with h | h <;> omega
                                 have hrs : span isD b n p = r := by
                                   rw [hsr]
                                   exact span_n (fun z => by have z2 := isD_iff.mp z.2; rcases hx165 with h | h <;> omega)
                                 refine ⟨rfl, _, lm2, RI_up hR2 (by constructor <;> omega), ?_, ?_, agN_up hag2 (by omega) (by omega), hlg, rfl⟩
                                 · rw [hspq]
                                   refine ⟨fun h => by omega, fun _ h => absurd (isL_iff.mp h) hlt.2.1, fun _ _ _ => ⟨by rw [up_app, if_neg (by omega), hrs]; exact k23, ?_, fun h4 => by rw [hrs] at h4 ⊢; exact hnm h4⟩, fun _ _ h => absurd (isD_iff.mpr hlt.2.2) h⟩
                                   rw [up_app, if_pos ⟨rfl, rfl, rfl⟩, hrs]
                                   first
                                     | rw [if_pos (by omega)]
                                     | rw [if_neg (by omega)]
                                 · rw [hspq, up_app, if_neg (by omega)]; exact k25)
                              | (have hnp : n ≤ p := by rcases hx52 with h | h <;> omega
                                 have e22 : im1 30 0 22 = n := hB1.1
                                 refine ⟨rfl, _, lm, RI_up (RI_up (RI_up (RI_up hR1 (by constructor <;> omega)) (by constructor <;> omega)) (by constructor <;> omega)) (hR1 _ _ _), ?_, ?_, agN_up (agN_up (agN_up (agN_up hag (by omega) (by omega)) (by omega) (by omega)) (by omega) (by omega)) (by omega) (by omega), (fun _ _ _ _ => rfl), rfl⟩
                                 · rw [hspq]
                                   exact ⟨fun _ => by rw [up_app, if_neg (by omega), up_app, if_pos ⟨rfl, rfl, rfl⟩], fun h => by omega, fun h => by omega, fun h => by omega⟩
                                 · rw [hspq, up_app, if_pos ⟨rfl, rfl, rfl⟩]; omega)
                              | (have hlt : p < n ∧ x52 = b p := by rcases hx52 with h | h <;> omega
                                 have hsg : sgn (b p) := by unfold sgn; omega
                                 refine ⟨rfl, _, _, RI_up (RI_up (RI_up (RI_up hR1 (by constructor <;> omega)) (by constructor <;> omega)) (by constructor <;> omega)) (by rw [g23]; constructor <;> omega), ?_, ?_, agN_up (agN_up (agN_up (agN_up hag (by omega) (by omega)) (by omega) (by omega)) (by omega) (by omega)) (by omega) (by omega), (fun k i s h => by rw [up_app, if_neg (by omega)]), rfl⟩
                                 · rw [hspq]
                                   refine ⟨fun h => by omega, fun _ h => absurd (isL_iff.mp h) (by omega), fun _ _ h => absurd (isD_iff.mp h) (by omega), fun _ _ _ => ⟨fun _ => ⟨?_, ?_, ?_⟩, fun h => absurd hsg h⟩⟩
                                   · rw [up_app, if_neg (by omega), up_app, if_pos ⟨rfl, rfl, rfl⟩]
                                   · rw [up_app, if_pos ⟨rfl, rfl, rfl⟩]; exact hlt.2
                                   · rw [up_app, if_pos ⟨rfl, rfl, rfl⟩, g23]
                                 · rw [hspq]; simp only [up_app]; repeat (first | rfl | rw [if_neg (by omega)] | rw [if_pos (by omega)]))
                              | (have hlt : p < n ∧ x52 = b p := by rcases hx52 with h | h <;> omega
                                 have hsg : ¬ sgn (b p) := by unfold sgn; omega
                                 refine ⟨rfl, _, lm, RI_up (RI_up hR1 (by constructor <;> omega)) (by constructor <;> omega), ?_, ?_, agN_up (agN_up hag (by omega) (by omega)) (by omega) (by omega), (fun _ _ _ _ => rfl), rfl⟩
                                 · rw [hspq]
                                   exact ⟨fun h => by omega, fun _ h => absurd (isL_iff.mp h) (by omega), fun _ _ h => absurd (isD_iff.mp h) (by omega), fun _ _ _ => ⟨fun h => absurd h hsg, fun _ => by rw [up_app, if_pos ⟨rfl, rfl, rfl⟩]⟩⟩
                                 · rw [hspq, up_app, if_neg (by omega), up_app, if_pos ⟨rfl, rfl, rfl⟩])
                          · refine q_iload_n (t := 289) F dX9_next_288 rfl rfl rfl ?_
                            refine q_bipush (t := 291) F dX9_next_289 (by decide) rfl ?_
                            refine q_icmp_eq (t := 294) (u := 300) F dX9_next_291 (by constructor <;> omega) (by constructor <;> omega) (by decide) rfl (fun c291 => ?_) (fun c291 => ?_)
                            · refine q_aload_n (t := 301) F dX9_next_300 rfl rfl rfl ?_
                              refine q_iconst (t := 302) F dX9_next_301 rfl ?_
                              refine p_X9_164 (t := 305) F dX9_next_302 rfl rfl ?_
                              refine q_aload_n (t := 306) F dX9_next_305 rfl rfl rfl ?_
                              refine q_iload_n (t := 307) F dX9_next_306 rfl rfl rfl ?_
                              refine q_i2l (t := 308) F dX9_next_307 (by first | exact hR _ _ _ | (constructor <;> omega)) rfl ?_
                              refine p_X9_175 (t := 311) F dX9_next_308 rfl rfl ?_
                              refine q_aload_n (t := 312) F dX9_next_311 rfl rfl rfl ?_
                              refine q_dupR (t := 313) F dX9_next_312 rfl ?_
                              refine g_X9_155 (t := 316) F dX9_next_313 rfl rfl ?_
                              try simp only [up_app, row_app, scr_app, cpy_app, Nat.reduceEqDiff, Int.reduceToNat, Int.toNat_natCast, and_true, true_and, and_false, false_and, and_self, reduceIte]
                              refine q_iconst (t := 317) F dX9_next_316 rfl ?_
                              refine q_iadd (t := 318) F dX9_next_317 rfl ?_
                              refine p_X9_155 (t := 321) F dX9_next_318 rfl rfl ?_
                              refine q_vret F dX9_next_321 rfl ?_
                              first
                                | (have hlt : p < n ∧ 97 ≤ b p ∧ b p ≤ 122 := by rcases hx52 with h | h <;> omega
                                   have hrs : span isL b n p = r := by
                                     rw [hsr]
                                     exact span_n (fun z => by have z2 := isL_iff.mp z.2; rcases hx105 with h | h <;> omega)
                                   refine ⟨rfl, im2, lm, hR2, ?_, ?_, hag2, (fun _ _ _ _ => rfl), rfl⟩
                                   · rw [hspq]
                                     exact ⟨fun h => by omega, fun _ _ => ⟨k24, by rw [hrs]; exact k23⟩, fun _ h => absurd (isL_iff.mpr hlt.2) h, fun _ h => absurd (isL_iff.mpr hlt.2) h⟩
                                   · rw [hspq]; exact k25)
                                | (have hlt : p < n ∧ ¬ (97 ≤ b p ∧ b p ≤ 122) ∧ 48 ≤ b p ∧ b p ≤ 57 := by rcases hx52 with h | h <;> omega
                                   have hrs : span isD b n p = r := by
                                     rw [hsr]
                                     exact span_n (fun z => by have z2 := isD_iff.mp z.2; rcases hx165 with h | h <;> omega)
                                   refine ⟨rfl, _, lm2, RI_up hR2 (by constructor <;> omega), ?_, ?_, agN_up hag2 (by omega) (by omega), hlg, rfl⟩
                                   · rw [hspq]
                                     refine ⟨fun h => by omega, fun _ h => absurd (isL_iff.mp h) hlt.2.1, fun _ _ _ => ⟨by rw [up_app, if_neg (by omega), hrs]; exact k23, ?_, fun h4 => by rw [hrs] at h4 ⊢; exact hnm h4⟩, fun _ _ h => absurd (isD_iff.mpr hlt.2.2) h⟩
                                     rw [up_app, if_pos ⟨rfl, rfl, rfl⟩, hrs]
                                     first
                                       | rw [if_pos (by omega)]
                                       | rw [if_neg (by omega)]
                                   · rw [hspq, up_app, if_neg (by omega)]; exact k25)
                                | (have hnp : n ≤ p := by rcases hx52 with h | h <;> omega
                                   have e22 : im1 30 0 22 = n := hB1.1
                                   refine ⟨rfl, _, lm, RI_up (RI_up (RI_up (RI_up hR1 (by constructor <;> omega)) (by constructor <;> omega)) (by constructor <;> omega)) (hR1 _ _ _), ?_, ?_, agN_up (agN_up (agN_up (agN_up hag (by omega) (by omega)) (by omega) (by omega)) (by omega) (by omega)) (by omega) (by omega), (fun _ _ _ _ => rfl), rfl⟩
                                   · rw [hspq]
                                     exact ⟨fun _ => by rw [up_app, if_neg (by omega), up_app, if_pos ⟨rfl, rfl, rfl⟩], fun h => by omega, fun h => by omega, fun h => by omega⟩
                                   · rw [hspq, up_app, if_pos ⟨rfl, rfl, rfl⟩]; omega)
                                | (have hlt : p < n ∧ x52 = b p := by rcases hx52 with h | h <;> omega
                                   have hsg : sgn (b p) := by unfold sgn; omega
                                   refine ⟨rfl, _, _, RI_up (RI_up (RI_up (RI_up hR1 (by constructor <;> omega)) (by constructor <;> omega)) (by constructor <;> omega)) (by rw [g23]; constructor <;> omega), ?_, ?_, agN_up (agN_up (agN_up (agN_up hag (by omega) (by omega)) (by omega) (by omega)) (by omega) (by omega)) (by omega) (by omega), (fun k i s h => by rw [up_app, if_neg (by omega)]), rfl⟩
                                   · rw [hspq]
                                     refine ⟨fun h => by omega, fun _ h => absurd (isL_iff.mp h) (by omega), fun _ _ h => absurd (isD_iff.mp h) (by omega), fun _ _ _ => ⟨fun _ => ⟨?_, ?_, ?_⟩, fun h => absurd hsg h⟩⟩
                                     · rw [up_app, if_neg (by omega), up_app, if_pos ⟨rfl, rfl, rfl⟩]
                                     · rw [up_app, if_pos ⟨rfl, rfl, rfl⟩]; exact hlt.2
                                     · rw [up_app, if_pos ⟨rfl, rfl, rfl⟩, g23]
                                   · rw [hspq]; simp only [up_app]; repeat (first | rfl | rw [if_neg (by omega)] | rw [if_pos (by omega)]))
                                | (have hlt : p < n ∧ x52 = b p := by rcases hx52 with h | h <;> omega
                                   have hsg : ¬ sgn (b p) := by unfold sgn; omega
                                   refine ⟨rfl, _, lm, RI_up (RI_up hR1 (by constructor <;> omega)) (by constructor <;> omega), ?_, ?_, agN_up (agN_up hag (by omega) (by omega)) (by omega) (by omega), (fun _ _ _ _ => rfl), rfl⟩
                                   · rw [hspq]
                                     exact ⟨fun h => by omega, fun _ h => absurd (isL_iff.mp h) (by omega), fun _ _ h => absurd (isD_iff.mp h) (by omega), fun _ _ _ => ⟨fun h => absurd h hsg, fun _ => by rw [up_app, if_pos ⟨rfl, rfl, rfl⟩]⟩⟩
                                   · rw [hspq, up_app, if_neg (by omega), up_app, if_pos ⟨rfl, rfl, rfl⟩])
                            · refine q_iload_n (t := 295) F dX9_next_294 rfl rfl rfl ?_
                              refine q_bipush (t := 297) F dX9_next_295 (by decide) rfl ?_
                              refine q_icmp_ne (t := 300) (u := 321) F dX9_next_297 (by constructor <;> omega) (by constructor <;> omega) (by decide) rfl (fun c297 => ?_) (fun c297 => ?_)
                              · refine q_vret F dX9_next_321 rfl ?_
                                first
                                  | (have hlt : p < n ∧ 97 ≤ b p ∧ b p ≤ 122 := by rcases hx52 with h | h <;> omega
                                     have hrs : span isL b n p = r := by
                                       rw [hsr]
                                       exact span_n (fun z => by have z2 := isL_iff.mp z.2; rcases hx105 with h | h <;> omega)
                                     refine ⟨rfl, im2, lm, hR2, ?_, ?_, hag2, (fun _ _ _ _ => rfl), rfl⟩
                                     · rw [hspq]
                                       exact ⟨fun h => by omega, fun _ _ => ⟨k24, by rw [hrs]; exact k23⟩, fun _ h => absurd (isL_iff.mpr hlt.2) h, fun _ h => absurd (isL_iff.mpr hlt.2) h⟩
                                     · rw [hspq]; exact k25)
                                  | (have hlt : p < n ∧ ¬ (97 ≤ b p ∧ b p ≤ 122) ∧ 48 ≤ b p ∧ b p ≤ 57 := by rcases hx52 with h | h <;> omega
                                     have hrs : span isD b n p = r := by
                                       rw [hsr]
                                       exact span_n (fun z => by have z2 := isD_iff.mp z.2; rcases hx165 with h | h <;> omega)
                                     refine ⟨rfl, _, lm2, RI_up hR2 (by constructor <;> omega), ?_, ?_, agN_up hag2 (by omega) (by omega), hlg, rfl⟩
                                     · rw [hspq]
                                       refine ⟨fun h => by omega, fun _ h => absurd (isL_iff.mp h) hlt.2.1, fun _ _ _ => ⟨by rw [up_app, if_neg (by omega), hrs]; exact k23, ?_, fun h4 => by rw [hrs] at h4 ⊢; exact hnm h4⟩, fun _ _ h => absurd (isD_iff.mpr hlt.2.2) h⟩
                                       rw [up_app, if_pos ⟨rfl, rfl, rfl⟩, hrs]
                                       first
                                         | rw [if_pos (by omega)]
                                         | rw [if_neg (by omega)]
                                     · rw [hspq, up_app, if_neg (by omega)]; exact k25)
                                  | (have hnp : n ≤ p := by rcases hx52 with h | h <;> omega
                                     have e22 : im1 30 0 22 = n := hB1.1
                                     refine ⟨rfl, _, lm, RI_up (RI_up (RI_up (RI_up hR1 (by constructor <;> omega)) (by constructor <;> omega)) (by constructor <;> omega)) (hR1 _ _ _), ?_, ?_, agN_up (agN_up (agN_up (agN_up hag (by omega) (by omega)) (by omega) (by omega)) (by omega) (by omega)) (by omega) (by omega), (fun _ _ _ _ => rfl), rfl⟩
                                     · rw [hspq]
                                       exact ⟨fun _ => by rw [up_app, if_neg (by omega), up_app, if_pos ⟨rfl, rfl, rfl⟩], fun h => by omega, fun h => by omega, fun h => by omega⟩
                                     · rw [hspq, up_app, if_pos ⟨rfl, rfl, rfl⟩]; omega)
                                  | (have hlt : p < n ∧ x52 = b p := by rcases hx52 with h | h <;> omega
                                     have hsg : sgn (b p) := by unfold sgn; omega
                                     refine ⟨rfl, _, _, RI_up (RI_up (RI_up (RI_up hR1 (by constructor <;> omega)) (by constructor <;> omega)) (by constructor <;> omega)) (by rw [g23]; constructor <;> omega), ?_, ?_, agN_up (agN_up (agN_up (agN_up hag (by omega) (by omega)) (by omega) (by omega)) (by omega) (by omega)) (by omega) (by omega), (fun k i s h => by rw [up_app, if_neg (by omega)]), rfl⟩
                                     · rw [hspq]
                                       refine ⟨fun h => by omega, fun _ h => absurd (isL_iff.mp h) (by omega), fun _ _ h => absurd (isD_iff.mp h) (by omega), fun _ _ _ => ⟨fun _ => ⟨?_, ?_, ?_⟩, fun h => absurd hsg h⟩⟩
                                       · rw [up_app, if_neg (by omega), up_app, if_pos ⟨rfl, rfl, rfl⟩]
                                       · rw [up_app, if_pos ⟨rfl, rfl, rfl⟩]; exact hlt.2
                                       · rw [up_app, if_pos ⟨rfl, rfl, rfl⟩, g23]
                                     · rw [hspq]; simp only [up_app]; repeat (first | rfl | rw [if_neg (by omega)] | rw [if_pos (by omega)]))
                                  | (have hlt : p < n ∧ x52 = b p := by rcases hx52 with h | h <;> omega
                                     have hsg : ¬ sgn (b p) := by unfold sgn; omega
                                     refine ⟨rfl, _, lm, RI_up (RI_up hR1 (by constructor <;> omega)) (by constructor <;> omega), ?_, ?_, agN_up (agN_up hag (by omega) (by omega)) (by omega) (by omega), (fun _ _ _ _ => rfl), rfl⟩
                                     · rw [hspq]
                                       exact ⟨fun h => by omega, fun _ h => absurd (isL_iff.mp h) (by omega), fun _ _ h => absurd (isD_iff.mp h) (by omega), fun _ _ _ => ⟨fun h => absurd h hsg, fun _ => by rw [up_app, if_pos ⟨rfl, rfl, rfl⟩]⟩⟩
                                     · rw [hspq, up_app, if_neg (by omega), up_app, if_pos ⟨rfl, rfl, rfl⟩])
                              · refine q_aload_n (t := 301) F dX9_next_300 rfl rfl rfl ?_
                                refine q_iconst (t := 302) F dX9_next_301 rfl ?_
                                refine p_X9_164 (t := 305) F dX9_next_302 rfl rfl ?_
                                refine q_aload_n (t := 306) F dX9_next_305 rfl rfl rfl ?_
                                refine q_iload_n (t := 307) F dX9_next_306 rfl rfl rfl ?_
                                refine q_i2l (t := 308) F dX9_next_307 (by first | exact hR _ _ _ | (constructor <;> omega)) rfl ?_
                                refine p_X9_175 (t := 311) F dX9_next_308 rfl rfl ?_
                                refine q_aload_n (t := 312) F dX9_next_311 rfl rfl rfl ?_
                                refine q_dupR (t := 313) F dX9_next_312 rfl ?_
                                refine g_X9_155 (t := 316) F dX9_next_313 rfl rfl ?_
                                try simp only [up_app, row_app, scr_app, cpy_app, Nat.reduceEqDiff, Int.reduceToNat, Int.toNat_natCast, and_true, true_and, and_false, false_and, and_self, reduceIte]
                                refine q_iconst (t := 317) F dX9_next_316 rfl ?_
                                refine q_iadd (t := 318) F dX9_next_317 rfl ?_
                                refine p_X9_155 (t := 321) F dX9_next_318 rfl rfl ?_
                                refine q_vret F dX9_next_321 rfl ?_
                                first
                                  | (have hlt : p < n ∧ 97 ≤ b p ∧ b p ≤ 122 := by rcases hx52 with h | h <;> omega
                                     have hrs : span isL b n p = r := by
                                       rw [hsr]
                                       exact span_n (fun z => by have z2 := isL_iff.mp z.2; rcases hx105 with h | h <;> omega)
                                     refine ⟨rfl, im2, lm, hR2, ?_, ?_, hag2, (fun _ _ _ _ => rfl), rfl⟩
                                     · rw [hspq]
                                       exact ⟨fun h => by omega, fun _ _ => ⟨k24, by rw [hrs]; exact k23⟩, fun _ h => absurd (isL_iff.mpr hlt.2) h, fun _ h => absurd (isL_iff.mpr hlt.2) h⟩
                                     · rw [hspq]; exact k25)
                                  | (have hlt : p < n ∧ ¬ (97 ≤ b p ∧ b p ≤ 122) ∧ 48 ≤ b p ∧ b p ≤ 57 := by rcases hx52 with h | h <;> omega
                                     have hrs : span isD b n p = r := by
                                       rw [hsr]
                                       exact span_n (fun z => by have z2 := isD_iff.mp z.2; rcases hx165 with h | h <;> omega)
                                     refine ⟨rfl, _, lm2, RI_up hR2 (by constructor <;> omega), ?_, ?_, agN_up hag2 (by omega) (by omega), hlg, rfl⟩
                                     · rw [hspq]
                                       refine ⟨fun h => by omega, fun _ h => absurd (isL_iff.mp h) hlt.2.1, fun _ _ _ => ⟨by rw [up_app, if_neg (by omega), hrs]; exact k23, ?_, fun h4 => by rw [hrs] at h4 ⊢; exact hnm h4⟩, fun _ _ h => absurd (isD_iff.mpr hlt.2.2) h⟩
                                       rw [up_app, if_pos ⟨rfl, rfl, rfl⟩, hrs]
                                       first
                                         | rw [if_pos (by omega)]
                                         | rw [if_neg (by omega)]
                                     · rw [hspq, up_app, if_neg (by omega)]; exact k25)
                                  | (have hnp : n ≤ p := by rcases hx52 with h | h <;> omega
                                     have e22 : im1 30 0 22 = n := hB1.1
                                     refine ⟨rfl, _, lm, RI_up (RI_up (RI_up (RI_up hR1 (by constructor <;> omega)) (by constructor <;> omega)) (by constructor <;> omega)) (hR1 _ _ _), ?_, ?_, agN_up (agN_up (agN_up (agN_up hag (by omega) (by omega)) (by omega) (by omega)) (by omega) (by omega)) (by omega) (by omega), (fun _ _ _ _ => rfl), rfl⟩
                                     · rw [hspq]
                                       exact ⟨fun _ => by rw [up_app, if_neg (by omega), up_app, if_pos ⟨rfl, rfl, rfl⟩], fun h => by omega, fun h => by omega, fun h => by omega⟩
                                     · rw [hspq, up_app, if_pos ⟨rfl, rfl, rfl⟩]; omega)
                                  | (have hlt : p < n ∧ x52 = b p := by rcases hx52 with h | h <;> omega
                                     have hsg : sgn (b p) := by unfold sgn; omega
                                     refine ⟨rfl, _, _, RI_up (RI_up (RI_up (RI_up hR1 (by constructor <;> omega)) (by constructor <;> omega)) (by constructor <;> omega)) (by rw [g23]; constructor <;> omega), ?_, ?_, agN_up (agN_up (agN_up (agN_up hag (by omega) (by omega)) (by omega) (by omega)) (by omega) (by omega)) (by omega) (by omega), (fun k i s h => by rw [up_app, if_neg (by omega)]), rfl⟩
                                     · rw [hspq]
                                       refine ⟨fun h => by omega, fun _ h => absurd (isL_iff.mp h) (by omega), fun _ _ h => absurd (isD_iff.mp h) (by omega), fun _ _ _ => ⟨fun _ => ⟨?_, ?_, ?_⟩, fun h => absurd hsg h⟩⟩
                                       · rw [up_app, if_neg (by omega), up_app, if_pos ⟨rfl, rfl, rfl⟩]
                                       · rw [up_app, if_pos ⟨rfl, rfl, rfl⟩]; exact hlt.2
                                       · rw [up_app, if_pos ⟨rfl, rfl, rfl⟩, g23]
                                     · rw [hspq]; simp only [up_app]; repeat (first | rfl | rw [if_neg (by omega)] | rw [if_pos (by omega)]))
                                  | (have hlt : p < n ∧ x52 = b p := by rcases hx52 with h | h <;> omega
                                     have hsg : ¬ sgn (b p) := by unfold sgn; omega
                                     refine ⟨rfl, _, lm, RI_up (RI_up hR1 (by constructor <;> omega)) (by constructor <;> omega), ?_, ?_, agN_up (agN_up hag (by omega) (by omega)) (by omega) (by omega), (fun _ _ _ _ => rfl), rfl⟩
                                     · rw [hspq]
                                       exact ⟨fun h => by omega, fun _ h => absurd (isL_iff.mp h) (by omega), fun _ _ h => absurd (isD_iff.mp h) (by omega), fun _ _ _ => ⟨fun h => absurd h hsg, fun _ => by rw [up_app, if_pos ⟨rfl, rfl, rfl⟩]⟩⟩
                                     · rw [hspq, up_app, if_neg (by omega), up_app, if_pos ⟨rfl, rfl, rfl⟩])
              · refine q_aload_n (t := 149) F dX9_next_148 rfl rfl rfl ?_
                refine q_iconst (t := 150) F dX9_next_149 rfl ?_
                refine p_X9_164 (t := 153) F dX9_next_150 rfl rfl ?_
                refine q_aload_n (t := 154) F dX9_next_153 rfl rfl rfl ?_
                refine q_lconst (t := 155) (x := 0) F dX9_next_154 (by decide) rfl ?_
                refine p_X9_175 (t := 158) F dX9_next_155 rfl rfl ?_
                refine q_iconst (t := 159) F dX9_next_158 rfl ?_
                refine q_istore_n (t := 160) F dX9_next_159 rfl (by decide) rfl rfl ?_
                have L160 : ∀ (fz : Nat) (r : Nat) (im2 lm2 : IM), n - r < fz → p ≤ r → r ≤ n → RI im2 → agN im2 im → im2 30 0 23 = r → im2 30 0 25 = p → span isD b n p = span isD b n r → (r - p ≤ 4 → lm2 30 0 26 = numF b p (r - p)) → (∀ k i s, ¬ (k = 30 ∧ s = 26) → lm2 k i s = lm k i s) → Wp M (XR G) ad Y_X9_next (pV fun m' => ∃ im' lm', RI im' ∧ TKr b n im' lm' (span isW b n q) ∧ im' 30 0 25 = span isW b n q ∧ agN im' im ∧ (∀ k i s, ¬ (k = 30 ∧ s = 26) → lm' k i s = lm k i s) ∧ m' = (im', rs bt rt, lm')) 160 [some (vR 30 0), some (vI x52), some (vI ((r - p : Nat) : Int))] [] (im2, rs bt rt, lm2) := by
                  intro fz
                  induction fz with
                  | zero => intro r im2 lm2 h; exact absurd h (Nat.not_lt_zero _)
                  | succ fz ih =>
                    have ih160 := ih
                    intro r im2 lm2 hmeas hpr hrn hR2 hag2 k23 k25 hsr hnm hlg
                    have hB2 := BRr_agN hB hag2
                    have hbr : 0 ≤ b r ∧ b r ≤ 255 ∨ n ≤ r := by
                      by_cases h : r < n
                      · exact Or.inl (hb.2 r (by omega))
                      · exact Or.inr (by omega)
                    refine q_aload_n (t := 161) F dX9_next_160 rfl rfl rfl ?_
                    refine q_aload_n (t := 162) F dX9_next_161 rfl rfl rfl ?_
                    refine g_X9_155 (t := 165) F dX9_next_162 rfl rfl ?_
                    try simp only [up_app, row_app, scr_app, cpy_app, Nat.reduceEqDiff, Int.reduceToNat, Int.toNat_natCast, and_true, true_and, and_false, false_and, and_self, reduceIte]
                    rw [k23]
                    refine wp_callV (t := 168) [_] F dX9_next_165 k_X9_byteAt v_X9_byteAt ml_X9_158 rfl rfl rfl rfl (Nat.le_of_ble_eq_true rfl) (by decide) (m_30 (by omega)) (c_X9_byteAt _ G im2 bt rt _ b n hb hR2 hB2 r (by omega)) rfl (kI ?_)
                    rintro x165 m' ⟨hx165, rfl⟩
                    refine q_i2l (t := 169) F dX9_next_168 (by first | exact hR _ _ _ | (constructor <;> omega)) rfl ?_
                    refine q_ldc2 (t := 172) (x := 48) F dX9_next_169 kl_X9_171 (by decide) rfl ?_
                    refine q_ldc2 (t := 175) (x := 57) F dX9_next_172 kl_X9_173 (by decide) rfl ?_
                    refine wp_callS (t := 178) [_, _, _] F dX9_next_175 k_X9_in st_X9_in ml_X9_91 rfl rfl (Nat.le_of_ble_eq_true rfl) (by decide) (c_X9_in _ G _ _ _ _ _ _ _ (by constructor <;> omega) (by constructor <;> omega) (by constructor <;> omega)) rfl (kI ?_)
                    rintro x175 m' ⟨hx175, rfl⟩
                    have hx175 := if01 hx175
                    refine q_if_eq (t := 181) (u := 235) F dX9_next_178 (by first | exact hR _ _ _ | (constructor <;> omega)) (by decide) rfl (fun c178 => ?_) (fun c178 => ?_)
                    · refine q_aload_n (t := 236) F dX9_next_235 rfl rfl rfl ?_
                      refine q_iload_n (t := 237) F dX9_next_236 rfl rfl rfl ?_
                      refine q_iconst (t := 238) F dX9_next_237 rfl ?_
                      refine q_icmp_le (t := 241) (u := 245) F dX9_next_238 (by constructor <;> omega) (by constructor <;> omega) (by decide) rfl (fun c238 => ?_) (fun c238 => ?_)
                      · refine q_iconst (t := 246) F dX9_next_245 rfl ?_
                        refine p_X9_164 (t := 249) F dX9_next_246 rfl rfl ?_
                        refine q_goto (t := 321) F dX9_next_249 (by decide) ?_
                        refine q_vret F dX9_next_321 rfl ?_
                        first
                          | (have hlt : p < n ∧ 97 ≤ b p ∧ b p ≤ 122 := by rcases hx52 with h | h <;> omega
                             have hrs : span isL b n p = r := by
                               rw [hsr]
                               exact span_n (fun z => by have z2 := isL_iff.mp z.2; rcases hx105 with h | h <;> omega)
                             refine ⟨rfl, im2, lm, hR2, ?_, ?_, hag2, (fun _ _ _ _ => rfl), rfl⟩
                             · rw [hspq]
                               exact ⟨fun h => by omega, fun _ _ => ⟨k24, by rw [hrs]; exact k23⟩, fun _ h => absurd (isL_iff.mpr hlt.2) h, fun _ h => absurd (isL_iff.mpr hlt.2) h⟩
                             · rw [hspq]; exact k25)
                          | (have hlt : p < n ∧ ¬ (97 ≤ b p ∧ b p ≤ 122) ∧ 48 ≤ b p ∧ b p ≤ 57 := by rcases hx52 with h | h <;> omega
                             have hrs : span isD b n p = r := by
                               rw [hsr]
                               exact span_n (fun z => by have z2 := isD_iff.mp z.2; rcases hx165 with h | h <;> omega)
                             refine ⟨rfl, _, lm2, RI_up hR2 (by constructor <;> omega), ?_, ?_, agN_up hag2 (by omega) (by omega), hlg, rfl⟩
                             · rw [hspq]
                               refine ⟨fun h => by omega, fun _ h => absurd (isL_iff.mp h) hlt.2.1, fun _ _ _ => ⟨by rw [up_app, if_neg (by omega), hrs]; exact k23, ?_, fun h4 => by rw [hrs] at h4 ⊢; exact hnm h4⟩, fun _ _ h => absurd (isD_iff.mpr hlt.2.2) h⟩
                               rw [up_app, if_pos ⟨rfl, rfl, rfl⟩, hrs]
                               first
                                 | rw [if_pos (by omega)]
                                 | rw [if_neg (by omega)]
                             · rw [hspq, up_app, if_neg (by omega)]; exact k25)
                          | (have hnp : n ≤ p := by rcases hx52 with h | h <;> omega
                             have e22 : im1 30 0 22 = n := hB1.1
                             refine ⟨rfl, _, lm, RI_up (RI_up (RI_up (RI_up hR1 (by constructor <;> omega)) (by constructor <;> omega)) (by constructor <;> omega)) (hR1 _ _ _), ?_, ?_, agN_up (agN_up (agN_up (agN_up hag (by omega) (by omega)) (by omega) (by omega)) (by omega) (by omega)) (by omega) (by omega), (fun _ _ _ _ => rfl), rfl⟩
                             · rw [hspq]
                               exact ⟨fun _ => by rw [up_app, if_neg (by omega), up_app, if_pos ⟨rfl, rfl, rfl⟩], fun h => by omega, fun h => by omega, fun h => by omega⟩
                             · rw [hspq, up_app, if_pos ⟨rfl, rfl, rfl⟩]; omega)
                          | (have hlt : p < n ∧ x52 = b p := by rcases hx52 with h | h <;> omega
                             have hsg : sgn (b p) := by unfold sgn; omega
                             refine ⟨rfl, _, _, RI_up (RI_up (RI_up (RI_up hR1 (by constructor <;> omega)) (by constructor <;> omega)) (by constructor <;> omega)) (by rw [g23]; constructor <;> omega), ?_, ?_, agN_up (agN_up (agN_up (agN_up hag (by omega) (by omega)) (by omega) (by omega)) (by omega) (by omega)) (by omega) (by omega), (fun k i s h => by rw [up_app, if_neg (by omega)]), rfl⟩
                             · rw [hspq]
                               refine ⟨fun h => by omega, fun _ h => absurd (isL_iff.mp h) (by omega), fun _ _ h => absurd (isD_iff.mp h) (by omega), fun _ _ _ => ⟨fun _ => ⟨?_, ?_, ?_⟩, fun h => absurd hsg h⟩⟩
                               · rw [up_app, if_neg (by omega), up_app, if_pos ⟨rfl, rfl, rfl⟩]
                               · rw [up_app, if_pos ⟨rfl, rfl, rfl⟩]; exact hlt.2
                               · rw [up_app, if_pos ⟨rfl, rfl, rfl⟩, g23]
                             · rw [hspq]; simp only [up_app]; repeat (first | rfl | rw [if_neg (by omega)] | rw [if_pos (by omega)]))
                          | (have hlt : p < n ∧ x52 = b p := by rcases hx52 with h | h <;> omega
                             have hsg : ¬ sgn (b p) := by unfold sgn; omega
                             refine ⟨rfl, _, lm, RI_up (RI_up hR1 (by constructor <;> omega)) (by constructor <;> omega), ?_, ?_, agN_up (agN_up hag (by omega) (by omega)) (by omega) (by omega), (fun _ _ _ _ => rfl), rfl⟩
                             · rw [hspq]
                               exact ⟨fun h => by omega, fun _ h => absurd (isL_iff.mp h) (by omega), fun _ _ h => absurd (isD_iff.mp h) (by omega), fun _ _ _ => ⟨fun h => absurd h hsg, fun _ => by rw [up_app, if_pos ⟨rfl, rfl, rfl⟩]⟩⟩
                             · rw [hspq, up_app, if_neg (by omega), up_app, if_pos ⟨rfl, rfl, rfl⟩])
                      · refine q_iconst (t := 242) F dX9_next_241 rfl ?_
                        refine q_goto (t := 246) F dX9_next_242 (by decide) ?_
                        refine p_X9_164 (t := 249) F dX9_next_246 rfl rfl ?_
                        refine q_goto (t := 321) F dX9_next_249 (by decide) ?_
                        refine q_vret F dX9_next_321 rfl ?_
                        first
                          | (have hlt : p < n ∧ 97 ≤ b p ∧ b p ≤ 122 := by rcases hx52 with h | h <;> omega
                             have hrs : span isL b n p = r := by
                               rw [hsr]
                               exact span_n (fun z => by have z2 := isL_iff.mp z.2; rcases hx105 with h | h <;> omega)
                             refine ⟨rfl, im2, lm, hR2, ?_, ?_, hag2, (fun _ _ _ _ => rfl), rfl⟩
                             · rw [hspq]
                               exact ⟨fun h => by omega, fun _ _ => ⟨k24, by rw [hrs]; exact k23⟩, fun _ h => absurd (isL_iff.mpr hlt.2) h, fun _ h => absurd (isL_iff.mpr hlt.2) h⟩
                             · rw [hspq]; exact k25)
                          | (have hlt : p < n ∧ ¬ (97 ≤ b p ∧ b p ≤ 122) ∧ 48 ≤ b p ∧ b p ≤ 57 := by rcases hx52 with h | h <;> omega
                             have hrs : span isD b n p = r := by
                               rw [hsr]
                               exact span_n (fun z => by have z2 := isD_iff.mp z.2; rcases hx165 with h | h <;> omega)
                             refine ⟨rfl, _, lm2, RI_up hR2 (by constructor <;> omega), ?_, ?_, agN_up hag2 (by omega) (by omega), hlg, rfl⟩
                             · rw [hspq]
                               refine ⟨fun h => by omega, fun _ h => absurd (isL_iff.mp h) hlt.2.1, fun _ _ _ => ⟨by rw [up_app, if_neg (by omega), hrs]; exact k23, ?_, fun h4 => by rw [hrs] at h4 ⊢; exact hnm h4⟩, fun _ _ h => absurd (isD_iff.mpr hlt.2.2) h⟩
                               rw [up_app, if_pos ⟨rfl, rfl, rfl⟩, hrs]
                               first
                                 | rw [if_pos (by omega)]
                                 | rw [if_neg (by omega)]
                             · rw [hspq, up_app, if_neg (by omega)]; exact k25)
                          | (have hnp : n ≤ p := by rcases hx52 with h | h <;> omega
                             have e22 : im1 30 0 22 = n := hB1.1
                             refine ⟨rfl, _, lm, RI_up (RI_up (RI_up (RI_up hR1 (by constructor <;> omega)) (by constructor <;> omega)) (by constructor <;> omega)) (hR1 _ _ _), ?_, ?_, agN_up (agN_up (agN_up (agN_up hag (by omega) (by omega)) (by omega) (by omega)) (by omega) (by omega)) (by omega) (by omega), (fun _ _ _ _ => rfl), rfl⟩
                             · rw [hspq]
                               exact ⟨fun _ => by rw [up_app, if_neg (by omega), up_app, if_pos ⟨rfl, rfl, rfl⟩], fun h => by omega, fun h => by omega, fun h => by omega⟩
                             · rw [hspq, up_app, if_pos ⟨rfl, rfl, rfl⟩]; omega)
                          | (have hlt : p < n ∧ x52 = b p := by rcases hx52 with h | h <;> omega
                             have hsg : sgn (b p) := by unfold sgn; omega
                             refine ⟨rfl, _, _, RI_up (RI_up (RI_up (RI_up hR1 (by constructor <;> omega)) (by constructor <;> omega)) (by constructor <;> omega)) (by rw [g23]; constructor <;> omega), ?_, ?_, agN_up (agN_up (agN_up (agN_up hag (by omega) (by omega)) (by omega) (by omega)) (by omega) (by omega)) (by omega) (by omega), (fun k i s h => by rw [up_app, if_neg (by omega)]), rfl⟩
                             · rw [hspq]
                               refine ⟨fun h => by omega, fun _ h => absurd (isL_iff.mp h) (by omega), fun _ _ h => absurd (isD_iff.mp h) (by omega), fun _ _ _ => ⟨fun _ => ⟨?_, ?_, ?_⟩, fun h => absurd hsg h⟩⟩
                               · rw [up_app, if_neg (by omega), up_app, if_pos ⟨rfl, rfl, rfl⟩]
                               · rw [up_app, if_pos ⟨rfl, rfl, rfl⟩]; exact hlt.2
                               · rw [up_app, if_pos ⟨rfl, rfl, rfl⟩, g23]
                             · rw [hspq]; simp only [up_app]; repeat (first | rfl | rw [if_neg (by omega)] | rw [if_pos (by omega)]))
                          | (have hlt : p < n ∧ x52 = b p := by rcases hx52 with h | h <;> omega
                             have hsg : ¬ sgn (b p) := by unfold sgn; omega
                             refine ⟨rfl, _, lm, RI_up (RI_up hR1 (by constructor <;> omega)) (by constructor <;> omega), ?_, ?_, agN_up (agN_up hag (by omega) (by omega)) (by omega) (by omega), (fun _ _ _ _ => rfl), rfl⟩
                             · rw [hspq]
                               exact ⟨fun h => by omega, fun _ h => absurd (isL_iff.mp h) (by omega), fun _ _ h => absurd (isD_iff.mp h) (by omega), fun _ _ _ => ⟨fun h => absurd h hsg, fun _ => by rw [up_app, if_pos ⟨rfl, rfl, rfl⟩]⟩⟩
                             · rw [hspq, up_app, if_neg (by omega), up_app, if_pos ⟨rfl, rfl, rfl⟩])
                    · refine q_aload_n (t := 182) F dX9_next_181 rfl rfl rfl ?_
                      refine q_iload_n (t := 183) F dX9_next_182 rfl rfl rfl ?_
                      refine q_iconst (t := 184) F dX9_next_183 rfl ?_
                      refine q_icmp_ge (t := 187) (u := 212) F dX9_next_184 (by constructor <;> omega) (by constructor <;> omega) (by decide) rfl (fun c184 => ?_) (fun c184 => ?_)
                      · refine q_aload_n (t := 213) F dX9_next_212 rfl rfl rfl ?_
                        refine g_X9_175 (t := 216) F dX9_next_213 rfl rfl ?_
                        try simp only [up_app, row_app, scr_app, cpy_app, Nat.reduceEqDiff, Int.reduceToNat, Int.toNat_natCast, and_true, true_and, and_false, false_and, and_self, reduceIte]
                        refine p_X9_175 (t := 219) F dX9_next_216 rfl rfl ?_
                        refine q_iinc (t := 222) F dX9_next_219 rfl (by decide) rfl rfl ?_
                        refine q_aload_n (t := 223) F dX9_next_222 rfl rfl rfl ?_
                        refine q_dupR (t := 224) F dX9_next_223 rfl ?_
                        refine g_X9_155 (t := 227) F dX9_next_224 rfl rfl ?_
                        try simp only [up_app, row_app, scr_app, cpy_app, Nat.reduceEqDiff, Int.reduceToNat, Int.toNat_natCast, and_true, true_and, and_false, false_and, and_self, reduceIte]
                        refine q_iconst (t := 228) F dX9_next_227 rfl ?_
                        refine q_iadd (t := 229) F dX9_next_228 rfl ?_
                        refine p_X9_155 (t := 232) F dX9_next_229 rfl rfl ?_
                        refine q_goto (t := 160) F dX9_next_232 (by decide) ?_
                        have hlt : r < n ∧ 48 ≤ b r ∧ b r ≤ 57 := by
                          rcases hx165 with h | h
                          · omega
                          · omega
                        rw [show ((r - p : Nat) : Int) + 1 = ((r + 1 - p : Nat) : Int) by omega]
                        refine ih160 (r + 1) _ _ (by omega) (by omega) (by omega) (RI_up hR2 (by rw [k23]; constructor <;> omega)) (agN_up hag2 (by omega) (by omega)) (by rw [up_app, if_pos ⟨rfl, rfl, rfl⟩, k23]; omega) (by rw [up_app, if_neg (by omega)]; exact k25) (by rw [hsr, span_y hlt.1 (isD_iff.mpr hlt.2)]) (fun h4 => ?_) (fun k i s h => by rw [up_app, if_neg (by omega)]; exact hlg k i s h)
                        rw [up_app, if_pos ⟨rfl, rfl, rfl⟩]
                        first
                          | (exfalso; omega)
                          | (have hN := numF_in (b := b) (p := p) (r + 1 - p) h4 (fun d hd => isD_iff.mp (span_all (n := n) _ p rfl (p + d) (by omega) (by rw [hsr, span_y hlt.1 (isD_iff.mpr hlt.2)]; have := (span_in isD b n _ (r + 1) rfl).1; omega)))
                             have hN0 := numF_in (b := b) (p := p) (r - p) (by omega) (fun d hd => isD_iff.mp (span_all (n := n) _ p rfl (p + d) (by omega) (by rw [hsr, span_y hlt.1 (isD_iff.mpr hlt.2)]; have := (span_in isD b n _ (r + 1) rfl).1; omega)))
                             have h1000 : (10 : Int) ^ (r - p) ≤ 1000 := by
                               have : r - p ≤ 3 := by omega
                               generalize r - p = k at this
                               rcases (by omega : k = 0 ∨ k = 1 ∨ k = 2 ∨ k = 3) with rfl | rfl | rfl | rfl <;> decide
                             have hx : x200 = b r := by
                               rcases hx200 with h | h <;> omega
                             rw [hnm (by omega), hx, show r + 1 - p = (r - p) + 1 by omega, numF_s, show p + (r - p) = r by omega, show bm (numF b p (r - p) * 10 + b r - 48) = numF b p (r - p) * 10 + b r - 48 from bm_id ⟨by omega, by omega⟩]
                             omega)
                      · refine q_ldc2 (t := 190) (x := 10) F dX9_next_187 kl_X9_127 (by decide) rfl ?_
                        refine q_aload_n (t := 191) F dX9_next_190 rfl rfl rfl ?_
                        refine g_X9_175 (t := 194) F dX9_next_191 rfl rfl ?_
                        try simp only [up_app, row_app, scr_app, cpy_app, Nat.reduceEqDiff, Int.reduceToNat, Int.toNat_natCast, and_true, true_and, and_false, false_and, and_self, reduceIte]
                        refine q_lmul (t := 195) F dX9_next_194 rfl ?_
                        refine q_aload_n (t := 196) F dX9_next_195 rfl rfl rfl ?_
                        refine q_aload_n (t := 197) F dX9_next_196 rfl rfl rfl ?_
                        refine g_X9_155 (t := 200) F dX9_next_197 rfl rfl ?_
                        try simp only [up_app, row_app, scr_app, cpy_app, Nat.reduceEqDiff, Int.reduceToNat, Int.toNat_natCast, and_true, true_and, and_false, false_and, and_self, reduceIte]
                        rw [k23]
                        refine wp_callV (t := 203) [_] F dX9_next_200 k_X9_byteAt v_X9_byteAt ml_X9_158 rfl rfl rfl rfl (Nat.le_of_ble_eq_true rfl) (by decide) (m_30 (by omega)) (c_X9_byteAt _ G im2 bt rt _ b n hb hR2 hB2 r (by omega)) rfl (kI ?_)
                        rintro x200 m' ⟨hx200, rfl⟩
                        refine q_i2l (t := 204) F dX9_next_203 (by first | exact hR _ _ _ | (constructor <;> omega)) rfl ?_
                        refine q_ladd (t := 205) F dX9_next_204 rfl ?_
                        refine q_ldc2 (t := 208) (x := 48) F dX9_next_205 kl_X9_171 (by decide) rfl ?_
                        refine q_lsub (t := 209) F dX9_next_208 rfl ?_
                        refine q_goto (t := 216) F dX9_next_209 (by decide) ?_
                        refine p_X9_175 (t := 219) F dX9_next_216 rfl rfl ?_
                        refine q_iinc (t := 222) F dX9_next_219 rfl (by decide) rfl rfl ?_
                        refine q_aload_n (t := 223) F dX9_next_222 rfl rfl rfl ?_
                        refine q_dupR (t := 224) F dX9_next_223 rfl ?_
                        refine g_X9_155 (t := 227) F dX9_next_224 rfl rfl ?_
                        try simp only [up_app, row_app, scr_app, cpy_app, Nat.reduceEqDiff, Int.reduceToNat, Int.toNat_natCast, and_true, true_and, and_false, false_and, and_self, reduceIte]
                        refine q_iconst (t := 228) F dX9_next_227 rfl ?_
                        refine q_iadd (t := 229) F dX9_next_228 rfl ?_
                        refine p_X9_155 (t := 232) F dX9_next_229 rfl rfl ?_
                        refine q_goto (t := 160) F dX9_next_232 (by decide) ?_
                        have hlt : r < n ∧ 48 ≤ b r ∧ b r ≤ 57 := by
                          rcases hx165 with h | h
                          · omega
                          · omega
                        rw [show ((r - p : Nat) : Int) + 1 = ((r + 1 - p : Nat) : Int) by omega]
                        refine ih160 (r + 1) _ _ (by omega) (by omega) (by omega) (RI_up hR2 (by rw [k23]; constructor <;> omega)) (agN_up hag2 (by omega) (by omega)) (by rw [up_app, if_pos ⟨rfl, rfl, rfl⟩, k23]; omega) (by rw [up_app, if_neg (by omega)]; exact k25) (by rw [hsr, span_y hlt.1 (isD_iff.mpr hlt.2)]) (fun h4 => ?_) (fun k i s h => by rw [up_app, if_neg (by omega)]; exact hlg k i s h)
                        rw [up_app, if_pos ⟨rfl, rfl, rfl⟩]
                        first
                          | (exfalso; omega)
                          | (have hN := numF_in (b := b) (p := p) (r + 1 - p) h4 (fun d hd => isD_iff.mp (span_all (n := n) _ p rfl (p + d) (by omega) (by rw [hsr, span_y hlt.1 (isD_iff.mpr hlt.2)]; have := (span_in isD b n _ (r + 1) rfl).1; omega)))
                             have hN0 := numF_in (b := b) (p := p) (r - p) (by omega) (fun d hd => isD_iff.mp (span_all (n := n) _ p rfl (p + d) (by omega) (by rw [hsr, span_y hlt.1 (isD_iff.mpr hlt.2)]; have := (span_in isD b n _ (r + 1) rfl).1; omega)))
                             have h1000 : (10 : Int) ^ (r - p) ≤ 1000 := by
                               have : r - p ≤ 3 := by omega
                               generalize r - p = k at this
                               rcases (by omega : k = 0 ∨ k = 1 ∨ k = 2 ∨ k = 3) with rfl | rfl | rfl | rfl <;> decide
                             have hx : x200 = b r := by
                               rcases hx200 with h | h <;> omega
                             rw [hnm (by omega), hx, show r + 1 - p = (r - p) + 1 by omega, numF_s, show p + (r - p) = r by omega, show bm (numF b p (r - p) * 10 + b r - 48) = numF b p (r - p) * 10 + b r - 48 from bm_id ⟨by omega, by omega⟩]
                             omega)
                rw [show (0 : Int) = ((p - p : Nat) : Int) by omega]
                exact L160 _ p _ _ (Nat.lt_succ_self _) (Nat.le_refl _) hpn (RI_up (RI_up (RI_up hR1 (by constructor <;> omega)) (by constructor <;> omega)) (by constructor <;> omega)) (agN_up (agN_up (agN_up hag (by omega) (by omega)) (by omega) (by omega)) (by omega) (by omega)) (by simp only [up_app]; repeat (first | exact g23 | rw [if_neg (by omega)])) (by simp only [up_app]; repeat (first | rfl | rw [if_neg (by omega)] | rw [if_pos (by omega)])) rfl (fun _ => by rw [up_app, if_pos ⟨rfl, rfl, rfl⟩, Nat.sub_self]; simp [numF]) (fun k i s h => by rw [up_app, if_neg (by omega)])
            · refine q_aload_n (t := 96) F dX9_next_95 rfl rfl rfl ?_
              refine q_iconst (t := 97) F dX9_next_96 rfl ?_
              refine p_X9_164 (t := 100) F dX9_next_97 rfl rfl ?_
              have L100 : ∀ (fz : Nat) (r : Nat) (im2 : IM), n - r < fz → p ≤ r → r ≤ n → RI im2 → agN im2 im → im2 30 0 23 = r → im2 30 0 24 = 1 → im2 30 0 25 = p → span isL b n p = span isL b n r → Wp M (XR G) ad Y_X9_next (pV fun m' => ∃ im' lm', RI im' ∧ TKr b n im' lm' (span isW b n q) ∧ im' 30 0 25 = span isW b n q ∧ agN im' im ∧ (∀ k i s, ¬ (k = 30 ∧ s = 26) → lm' k i s = lm k i s) ∧ m' = (im', rs bt rt, lm')) 100 [some (vR 30 0), some (vI x52), none] [] (im2, rs bt rt, lm) := by
                intro fz
                induction fz with
                | zero => intro r im2 h; exact absurd h (Nat.not_lt_zero _)
                | succ fz ih =>
                  have ih100 := ih
                  intro r im2 hmeas hpr hrn hR2 hag2 k23 k24 k25 hsr
                  have hB2 := BRr_agN hB hag2
                  have hbr : 0 ≤ b r ∧ b r ≤ 255 ∨ n ≤ r := by
                    by_cases h : r < n
                    · exact Or.inl (hb.2 r (by omega))
                    · exact Or.inr (by omega)
                  refine q_aload_n (t := 101) F dX9_next_100 rfl rfl rfl ?_
                  refine q_aload_n (t := 102) F dX9_next_101 rfl rfl rfl ?_
                  refine g_X9_155 (t := 105) F dX9_next_102 rfl rfl ?_
                  try simp only [up_app, row_app, scr_app, cpy_app, Nat.reduceEqDiff, Int.reduceToNat, Int.toNat_natCast, and_true, true_and, and_false, false_and, and_self, reduceIte]
                  rw [k23]
                  refine wp_callV (t := 108) [_] F dX9_next_105 k_X9_byteAt v_X9_byteAt ml_X9_158 rfl rfl rfl rfl (Nat.le_of_ble_eq_true rfl) (by decide) (m_30 (by omega)) (c_X9_byteAt _ G im2 bt rt _ b n hb hR2 hB2 r (by omega)) rfl (kI ?_)
                  rintro x105 m' ⟨hx105, rfl⟩
                  refine q_i2l (t := 109) F dX9_next_108 (by first | exact hR _ _ _ | (constructor <;> omega)) rfl ?_
                  refine q_ldc2 (t := 112) (x := 97) F dX9_next_109 kl_X9_167 (by decide) rfl ?_
                  refine q_ldc2 (t := 115) (x := 122) F dX9_next_112 kl_X9_169 (by decide) rfl ?_
                  refine wp_callS (t := 118) [_, _, _] F dX9_next_115 k_X9_in st_X9_in ml_X9_91 rfl rfl (Nat.le_of_ble_eq_true rfl) (by decide) (c_X9_in _ G _ _ _ _ _ _ _ (by constructor <;> omega) (by constructor <;> omega) (by constructor <;> omega)) rfl (kI ?_)
                  rintro x115 m' ⟨hx115, rfl⟩
                  have hx115 := if01 hx115
                  refine q_if_eq (t := 121) (u := 321) F dX9_next_118 (by first | exact hR _ _ _ | (constructor <;> omega)) (by decide) rfl (fun c118 => ?_) (fun c118 => ?_)
                  · refine q_vret F dX9_next_321 rfl ?_
                    first
                      | (have hlt : p < n ∧ 97 ≤ b p ∧ b p ≤ 122 := by rcases hx52 with h | h <;> omega
                         have hrs : span isL b n p = r := by
                           rw [hsr]
                           exact span_n (fun z => by have z2 := isL_iff.mp z.2; rcases hx105 with h | h <;> omega)
                         refine ⟨rfl, im2, lm, hR2, ?_, ?_, hag2, (fun _ _ _ _ => rfl), rfl⟩
                         · rw [hspq]
                           exact ⟨fun h => by omega, fun _ _ => ⟨k24, by rw [hrs]; exact k23⟩, fun _ h => absurd (isL_iff.mpr hlt.2) h, fun _ h => absurd (isL_iff.mpr hlt.2) h⟩
                         · rw [hspq]; exact k25)
                      | (have hlt : p < n ∧ ¬ (97 ≤ b p ∧ b p ≤ 122) ∧ 48 ≤ b p ∧ b p ≤ 57 := by rcases hx52 with h | h <;> omega
                         have hrs : span isD b n p = r := by
                           rw [hsr]
                           exact span_n (fun z => by have z2 := isD_iff.mp z.2; rcases hx165 with h | h <;> omega)
                         refine ⟨rfl, _, lm2, RI_up hR2 (by constructor <;> omega), ?_, ?_, agN_up hag2 (by omega) (by omega), hlg, rfl⟩
                         · rw [hspq]
                           refine ⟨fun h => by omega, fun _ h => absurd (isL_iff.mp h) hlt.2.1, fun _ _ _ => ⟨by rw [up_app, if_neg (by omega), hrs]; exact k23, ?_, fun h4 => by rw [hrs] at h4 ⊢; exact hnm h4⟩, fun _ _ h => absurd (isD_iff.mpr hlt.2.2) h⟩
                           rw [up_app, if_pos ⟨rfl, rfl, rfl⟩, hrs]
                           first
                             | rw [if_pos (by omega)]
                             | rw [if_neg (by omega)]
                         · rw [hspq, up_app, if_neg (by omega)]; exact k25)
                      | (have hnp : n ≤ p := by rcases hx52 with h | h <;> omega
                         have e22 : im1 30 0 22 = n := hB1.1
                         refine ⟨rfl, _, lm, RI_up (RI_up (RI_up (RI_up hR1 (by constructor <;> omega)) (by constructor <;> omega)) (by constructor <;> omega)) (hR1 _ _ _), ?_, ?_, agN_up (agN_up (agN_up (agN_up hag (by omega) (by omega)) (by omega) (by omega)) (by omega) (by omega)) (by omega) (by omega), (fun _ _ _ _ => rfl), rfl⟩
                         · rw [hspq]
                           exact ⟨fun _ => by rw [up_app, if_neg (by omega), up_app, if_pos ⟨rfl, rfl, rfl⟩], fun h => by omega, fun h => by omega, fun h => by omega⟩
                         · rw [hspq, up_app, if_pos ⟨rfl, rfl, rfl⟩]; omega)
                      | (have hlt : p < n ∧ x52 = b p := by rcases hx52 with h | h <;> omega
                         have hsg : sgn (b p) := by unfold sgn; omega
                         refine ⟨rfl, _, _, RI_up (RI_up (RI_up (RI_up hR1 (by constructor <;> omega)) (by constructor <;> omega)) (by constructor <;> omega)) (by rw [g23]; constructor <;> omega), ?_, ?_, agN_up (agN_up (agN_up (agN_up hag (by omega) (by omega)) (by omega) (by omega)) (by omega) (by omega)) (by omega) (by omega), (fun k i s h => by rw [up_app, if_neg (by omega)]), rfl⟩
                         · rw [hspq]
                           refine ⟨fun h => by omega, fun _ h => absurd (isL_iff.mp h) (by omega), fun _ _ h => absurd (isD_iff.mp h) (by omega), fun _ _ _ => ⟨fun _ => ⟨?_, ?_, ?_⟩, fun h => absurd hsg h⟩⟩
                           · rw [up_app, if_neg (by omega), up_app, if_pos ⟨rfl, rfl, rfl⟩]
                           · rw [up_app, if_pos ⟨rfl, rfl, rfl⟩]; exact hlt.2
                           · rw [up_app, if_pos ⟨rfl, rfl, rfl⟩, g23]
                         · rw [hspq]; simp only [up_app]; repeat (first | rfl | rw [if_neg (by omega)] | rw [if_pos (by omega)]))
                      | (have hlt : p < n ∧ x52 = b p := by rcases hx52 with h | h <;> omega
                         have hsg : ¬ sgn (b p) := by unfold sgn; omega
                         refine ⟨rfl, _, lm, RI_up (RI_up hR1 (by constructor <;> omega)) (by constructor <;> omega), ?_, ?_, agN_up (agN_up hag (by omega) (by omega)) (by omega) (by omega), (fun _ _ _ _ => rfl), rfl⟩
                         · rw [hspq]
                           exact ⟨fun h => by omega, fun _ h => absurd (isL_iff.mp h) (by omega), fun _ _ h => absurd (isD_iff.mp h) (by omega), fun _ _ _ => ⟨fun h => absurd h hsg, fun _ => by rw [up_app, if_pos ⟨rfl, rfl, rfl⟩]⟩⟩
                         · rw [hspq, up_app, if_neg (by omega), up_app, if_pos ⟨rfl, rfl, rfl⟩])
                  · refine q_aload_n (t := 122) F dX9_next_121 rfl rfl rfl ?_
                    refine q_dupR (t := 123) F dX9_next_122 rfl ?_
                    refine g_X9_155 (t := 126) F dX9_next_123 rfl rfl ?_
                    try simp only [up_app, row_app, scr_app, cpy_app, Nat.reduceEqDiff, Int.reduceToNat, Int.toNat_natCast, and_true, true_and, and_false, false_and, and_self, reduceIte]
                    refine q_iconst (t := 127) F dX9_next_126 rfl ?_
                    refine q_iadd (t := 128) F dX9_next_127 rfl ?_
                    refine p_X9_155 (t := 131) F dX9_next_128 rfl rfl ?_
                    refine q_goto (t := 100) F dX9_next_131 (by decide) ?_
                    have hlt : r < n ∧ 97 ≤ b r ∧ b r ≤ 122 := by
                      rcases hx105 with h | h
                      · omega
                      · omega
                    exact ih100 (r + 1) _ (by omega) (by omega) (by omega) (RI_up hR2 (by rw [k23]; constructor <;> omega)) (agN_up hag2 (by omega) (by omega)) (by rw [up_app, if_pos ⟨rfl, rfl, rfl⟩, k23]; omega) (by rw [up_app, if_neg (by omega)]; exact k24) (by rw [up_app, if_neg (by omega)]; exact k25) (by rw [hsr, span_y hlt.1 (isL_iff.mpr hlt.2)])
              exact L100 _ p _ (Nat.lt_succ_self _) (Nat.le_refl _) hpn (RI_up (RI_up (RI_up hR1 (by constructor <;> omega)) (by constructor <;> omega)) (by constructor <;> omega)) (agN_up (agN_up (agN_up hag (by omega) (by omega)) (by omega) (by omega)) (by omega) (by omega)) (by simp only [up_app]; repeat (first | exact g23 | rw [if_neg (by omega)])) (by rw [up_app, if_pos ⟨rfl, rfl, rfl⟩]) (by simp only [up_app]; repeat (first | rfl | rw [if_neg (by omega)] | rw [if_pos (by omega)])) rfl
          · refine q_aload_n (t := 66) F dX9_next_65 rfl rfl rfl ?_
            refine q_iconst (t := 67) F dX9_next_66 rfl ?_
            refine p_X9_164 (t := 70) F dX9_next_67 rfl rfl ?_
            refine q_aload_n (t := 71) F dX9_next_70 rfl rfl rfl ?_
            refine q_aload_n (t := 72) F dX9_next_71 rfl rfl rfl ?_
            refine g_X9_149 (t := 75) F dX9_next_72 rfl rfl ?_
            try simp only [up_app, row_app, scr_app, cpy_app, Nat.reduceEqDiff, Int.reduceToNat, Int.toNat_natCast, and_true, true_and, and_false, false_and, and_self, reduceIte]
            refine p_X9_161 (t := 78) F dX9_next_75 rfl rfl ?_
            refine q_goto (t := 321) F dX9_next_78 (by decide) ?_
            refine q_vret F dX9_next_321 rfl ?_
            first
              | (have hlt : p < n ∧ 97 ≤ b p ∧ b p ≤ 122 := by rcases hx52 with h | h <;> omega
                 have hrs : span isL b n p = r := by
                   rw [hsr]
                   exact span_n (fun z => by have z2 := isL_iff.mp z.2; rcases hx105 with h | h <;> omega)
                 refine ⟨rfl, im2, lm, hR2, ?_, ?_, hag2, (fun _ _ _ _ => rfl), rfl⟩
                 · rw [hspq]
                   exact ⟨fun h => by omega, fun _ _ => ⟨k24, by rw [hrs]; exact k23⟩, fun _ h => absurd (isL_iff.mpr hlt.2) h, fun _ h => absurd (isL_iff.mpr hlt.2) h⟩
                 · rw [hspq]; exact k25)
              | (have hlt : p < n ∧ ¬ (97 ≤ b p ∧ b p ≤ 122) ∧ 48 ≤ b p ∧ b p ≤ 57 := by rcases hx52 with h | h <;> omega
                 have hrs : span isD b n p = r := by
                   rw [hsr]
                   exact span_n (fun z => by have z2 := isD_iff.mp z.2; rcases hx165 with h | h <;> omega)
                 refine ⟨rfl, _, lm2, RI_up hR2 (by constructor <;> omega), ?_, ?_, agN_up hag2 (by omega) (by omega), hlg, rfl⟩
                 · rw [hspq]
                   refine ⟨fun h => by omega, fun _ h => absurd (isL_iff.mp h) hlt.2.1, fun _ _ _ => ⟨by rw [up_app, if_neg (by omega), hrs]; exact k23, ?_, fun h4 => by rw [hrs] at h4 ⊢; exact hnm h4⟩, fun _ _ h => absurd (isD_iff.mpr hlt.2.2) h⟩
                   rw [up_app, if_pos ⟨rfl, rfl, rfl⟩, hrs]
                   first
                     | rw [if_pos (by omega)]
                     | rw [if_neg (by omega)]
                 · rw [hspq, up_app, if_neg (by omega)]; exact k25)
              | (have hnp : n ≤ p := by rcases hx52 with h | h <;> omega
                 have e22 : im1 30 0 22 = n := hB1.1
                 refine ⟨rfl, _, lm, RI_up (RI_up (RI_up (RI_up hR1 (by constructor <;> omega)) (by constructor <;> omega)) (by constructor <;> omega)) (hR1 _ _ _), ?_, ?_, agN_up (agN_up (agN_up (agN_up hag (by omega) (by omega)) (by omega) (by omega)) (by omega) (by omega)) (by omega) (by omega), (fun _ _ _ _ => rfl), rfl⟩
                 · rw [hspq]
                   exact ⟨fun _ => by rw [up_app, if_neg (by omega), up_app, if_pos ⟨rfl, rfl, rfl⟩], fun h => by omega, fun h => by omega, fun h => by omega⟩
                 · rw [hspq, up_app, if_pos ⟨rfl, rfl, rfl⟩]; omega)
              | (have hlt : p < n ∧ x52 = b p := by rcases hx52 with h | h <;> omega
                 have hsg : sgn (b p) := by unfold sgn; omega
                 refine ⟨rfl, _, _, RI_up (RI_up (RI_up (RI_up hR1 (by constructor <;> omega)) (by constructor <;> omega)) (by constructor <;> omega)) (by rw [g23]; constructor <;> omega), ?_, ?_, agN_up (agN_up (agN_up (agN_up hag (by omega) (by omega)) (by omega) (by omega)) (by omega) (by omega)) (by omega) (by omega), (fun k i s h => by rw [up_app, if_neg (by omega)]), rfl⟩
                 · rw [hspq]
                   refine ⟨fun h => by omega, fun _ h => absurd (isL_iff.mp h) (by omega), fun _ _ h => absurd (isD_iff.mp h) (by omega), fun _ _ _ => ⟨fun _ => ⟨?_, ?_, ?_⟩, fun h => absurd hsg h⟩⟩
                   · rw [up_app, if_neg (by omega), up_app, if_pos ⟨rfl, rfl, rfl⟩]
                   · rw [up_app, if_pos ⟨rfl, rfl, rfl⟩]; exact hlt.2
                   · rw [up_app, if_pos ⟨rfl, rfl, rfl⟩, g23]
                 · rw [hspq]; simp only [up_app]; repeat (first | rfl | rw [if_neg (by omega)] | rw [if_pos (by omega)]))
              | (have hlt : p < n ∧ x52 = b p := by rcases hx52 with h | h <;> omega
                 have hsg : ¬ sgn (b p) := by unfold sgn; omega
                 refine ⟨rfl, _, lm, RI_up (RI_up hR1 (by constructor <;> omega)) (by constructor <;> omega), ?_, ?_, agN_up (agN_up hag (by omega) (by omega)) (by omega) (by omega), (fun _ _ _ _ => rfl), rfl⟩
                 · rw [hspq]
                   exact ⟨fun h => by omega, fun _ h => absurd (isL_iff.mp h) (by omega), fun _ _ h => absurd (isD_iff.mp h) (by omega), fun _ _ _ => ⟨fun h => absurd h hsg, fun _ => by rw [up_app, if_pos ⟨rfl, rfl, rfl⟩]⟩⟩
                 · rw [hspq, up_app, if_neg (by omega), up_app, if_pos ⟨rfl, rfl, rfl⟩])
        · refine q_aload_n (t := 27) F dX9_next_26 rfl rfl rfl ?_
          refine q_dupR (t := 28) F dX9_next_27 rfl ?_
          refine g_X9_155 (t := 31) F dX9_next_28 rfl rfl ?_
          try simp only [up_app, row_app, scr_app, cpy_app, Nat.reduceEqDiff, Int.reduceToNat, Int.toNat_natCast, and_true, true_and, and_false, false_and, and_self, reduceIte]
          refine q_iconst (t := 32) F dX9_next_31 rfl ?_
          refine q_iadd (t := 33) F dX9_next_32 rfl ?_
          refine p_X9_155 (t := 36) F dX9_next_33 rfl rfl ?_
          refine q_goto (t := 0) F dX9_next_36 (by decide) ?_
          have hlt : p < n ∧ (b p = 32 ∨ b p = 10) := by
            rcases hx5 with h | h
            · first
                | omega
                | (rcases hx18 with h2 | h2 <;> omega)
            · first
                | omega
                | (rcases hx18 with h2 | h2 <;> omega)
          exact ih0 (p + 1) _ (by omega) (by omega) (by omega) (RI_up hR1 (by rw [g23]; constructor <;> omega)) (agN_up hag (by omega) (by omega)) (by rw [up_app, if_pos ⟨rfl, rfl, rfl⟩, g23]; omega) (by rw [hsp, span_y hlt.1 (isW_iff.mpr hlt.2)])
  exact L0 _ q im (Nat.lt_succ_self _) (Nat.le_refl _) hq hR (agN_rfl im) h23 rfl
end
