/-! THE LAW: what is the same for every part of the promise -/
theorem mix_C2 {im im1 lm : IM} {bt rt bt1 rt1 : Nat} : mixk pC (im1, rs bt1 rt1, lm) (im, rs bt rt, lm) = (fun k i s => if pC k = true then im1 k i s else im k i s, rs bt1 rt1, lm) := by
  refine Prod.ext rfl (Prod.ext ?_ ?_)
  · funext k i s
    show (if pC k = true then rs bt1 rt1 k i s else rs bt rt k i s) = rs bt1 rt1 k i s
    split
    · rfl
    · rename_i hk
      exact rs_hi (Nat.le_of_not_lt (fun z => hk (decide_eq_true z)))
  · funext k i s
    show (if pC k = true then lm k i s else lm k i s) = lm k i s
    split <;> rfl
def mxC (a b : IM) : IM := fun k i s => if pC k = true then a k i s else b k i s
def mxR (a b : IM) : IM := fun k i s => if pRk k = true then a k i s else b k i s
theorem mix_R2 {im im2 lm lm2 : IM} {bt rt : Nat} : mixk pRk (im2, rs bt rt, lm2) (im, rs bt rt, lm) = (mxR im2 im, rs bt rt, mxR lm2 lm) := by
  refine Prod.ext rfl (Prod.ext ?_ rfl)
  funext k i s
  show (if pRk k = true then rs bt rt k i s else rs bt rt k i s) = rs bt rt k i s
  split <;> rfl
theorem mx_RI {a b : IM} (h : RI a) (h2 : RI b) : RI (mxC a b) ∧ RI (mxR a b) := by
  constructor
  · intro k i s
    unfold mxC
    split
    · exact h _ _ _
    · exact h2 _ _ _
  · intro k i s
    unfold mxR
    split
    · exact h _ _ _
    · exact h2 _ _ _
theorem REL_mid {Z im1 : IM} (h : REL Z Z) (h1 : RI im1) : REL Z (mxC im1 Z) := by
  refine h.mix (fun _ _ _ _ => rfl) (fun k i s hk hk2 => ?_) h.2.1 (mx_RI h1 h.2.1).1
  have hp : ¬ pC k = true := fun z => by have h9 : k < 24 := of_decide_eq_true z; omega
  unfold mxC
  rw [if_neg hp]
theorem REL_fin {F im1 Z im2 : IM} (h : REL F im2) (hag : agP im1 F) (h1 : RI im1) (hZ : RI Z) : REL (mxR im2 (mxC im1 Z)) (mxR im2 (mxC im1 Z)) := by
  have hR := (mx_RI h.2.1 (mx_RI h1 hZ).1).2
  refine (h.P hag h1).mix (fun k i s hk => ?_) (fun k i s hk hk2 => ?_) hR hR
  · have hp : ¬ pRk k = true := fun z => by have h9 : 30 ≤ k ∧ k < 51 := of_decide_eq_true z; omega
    have hp2 : pC k = true := decide_eq_true hk
    unfold mxR
    rw [if_neg hp]
    unfold mxC
    rw [if_pos hp2]
  · have hp : pRk k = true := decide_eq_true (show 30 ≤ k ∧ k < 51 from ⟨hk, hk2⟩)
    unfold mxR
    rw [if_pos hp]
section Law2
variable {M : MS} {G : GS} {A0 : Nat → Prop} {Y : YS} {R : Room} {Q : State → Prop} {c s : Nat} {ad : Ads} {n : Nat → Nat} {pc t : Nat} {ls : List (Option SV)} {st : List SV} {m : Mem}
theorem j_ofNat2 (L : Nat) : Int32.ofNat L = jI (L : Int) := by
  unfold jI
  first
    | rfl
    | exact (Int32.ofInt_natCast L).symm
    | simp
theorem z_slen2 {L : Nat} {xs : Nat → Int32} (F : Fg M G A0 Y) (hd : decode Y.2.1 pc = .ok (.arraylength, 1)) (hX : Sx M A0 ad L xs) (ht : t = pc + 1) (kk : Wg M G A0 Y R Q c s ad n t ls (vI (L : Int) :: st) m) : Wg M G A0 Y R Q c s ad n pc ls (vR 96 0 :: st) m := by
  subst ht
  intro H locs a hI hl
  refine va_slen F.1 F.2.1 hX.1 hX.2.1 hX.2.2 hI.2.1 hd ?_
  rw [j_ofNat2 L]
  exact kk H locs a hI hl
theorem z_sld2 {L k : Nat} {x : Int} {xs : Nat → Int32} (F : Fg M G A0 Y) (hd : decode Y.2.1 pc = .ok (.iaload, 1)) (hX : Sx M A0 ad L xs) (hk : x = (k : Int)) (hL : k < L) (hL6 : L ≤ 3072) (ht : t = pc + 1) (kk : Wg M G A0 Y R Q c s ad n t ls (vI (xs k).toInt :: st) m) : Wg M G A0 Y R Q c s ad n pc ls (vI x :: vR 96 0 :: st) m := by
  subst ht
  subst hk
  intro H locs a hI hl
  refine va_sld F.1 F.2.1 hX.1 hX.2.1 hX.2.2 hI.2.1 (i := jI (k : Int)) (j_in (by omega) (by omega) (by omega)) hd ?_
  rw [j_cl ⟨by omega, by omega⟩, Int.toNat_natCast]
  have h := kk H locs a hI hl
  rw [List.map_cons] at h
  have e : tr ad (vI (xs k).toInt) = .int (xs k) := congrArg Value.int (j_asI (xs k))
  rw [e] at h
  exact h
theorem z_popL {x : Int} (F : Fg M G A0 Y) (hd : decode Y.2.1 pc = .ok (.pop2, 1)) (ht : t = pc + 1) (k : Wg M G A0 Y R Q c s ad n t ls st m) : Wg M G A0 Y R Q c s ad n pc ls (vL x :: st) m := by
  subst ht
  intro H locs a hI hl
  exact lv_pop2_2 F.1 F.2.1 hd rfl (k H locs a hI hl)
end Law2
