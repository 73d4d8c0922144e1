section Law
variable {M : MS} {G : GS} {A0 : Nat → Prop} {Y : YS} {R : Room} {Q : State → Prop} {c s : Nat} {ad : Ads} {n : Nat → Nat} {pc t : Nat} {ls : List (Option SV)} {st : List SV} {m : Mem}
/-- the script -/
def Sx (M : MS) (A0 : Nat → Prop) (ad : Ads) (L : Nat) (xs : Nat → Int32) : Prop := va_X (ad 96 0) L xs M.2.2.2.1 M.2.2.2.1.heap ∧ ad 96 0 < M.2.2.2.1.heap.size ∧ ¬ A0 (ad 96 0)
theorem Sx_sam {ad' : Ads} {L : Nat} {xs : Nat → Int32} (h : Sx M A0 ad L xs) (hs : sam n ad ad') : Sx M A0 ad' L xs := by
  unfold Sx
  rw [hs 96 0 (Or.inr (by omega))]
  exact h
theorem j_ofNat {L : Nat} (h : L ≤ 6) : Int32.ofNat L = jI (L : Int) := by
  rcases (by omega : L = 0 ∨ L = 1 ∨ L = 2 ∨ L = 3 ∨ L = 4 ∨ L = 5 ∨ L = 6) with rfl | rfl | rfl | rfl | rfl | rfl | rfl <;> rfl
theorem z_slen {L : Nat} {xs : Nat → Int32} (F : Fg M G A0 Y) (hd : decode Y.2.1 pc = .ok (.arraylength, 1)) (hX : Sx M A0 ad L xs) (hL : L ≤ 6) (ht : t = pc + 1) (kk : Wg M G A0 Y R Q c s ad n t ls (vI (L : Int) :: st) m) : Wg M G A0 Y R Q c s ad n pc ls (vR 96 0 :: st) m := by
  subst ht
  intro H locs a hI hl
  refine va_slen F.1 F.2.1 hX.1 hX.2.1 hX.2.2 hI.2.1 hd ?_
  rw [j_ofNat hL]
  exact kk H locs a hI hl
theorem z_sld {L k : Nat} {x : Int} {xs : Nat → Int32} (F : Fg M G A0 Y) (hd : decode Y.2.1 pc = .ok (.iaload, 1)) (hX : Sx M A0 ad L xs) (hk : x = (k : Int)) (hL : k < L) (hL6 : L ≤ 6) (ht : t = pc + 1) (kk : Wg M G A0 Y R Q c s ad n t ls (vI (xs k).toInt :: st) m) : Wg M G A0 Y R Q c s ad n pc ls (vI x :: vR 96 0 :: st) m := by
  subst ht
  subst hk
  intro H locs a hI hl
  refine va_sld F.1 F.2.1 hX.1 hX.2.1 hX.2.2 hI.2.1 (i := jI (k : Int)) (j_in (by omega) (by omega) (by omega)) hd ?_
  rw [j_cl ⟨by omega, by omega⟩, Int.toNat_natCast]
  have h := kk H locs a hI hl
  rw [List.map_cons] at h
  have e : tr ad (vI (xs k).toInt) = .int (xs k) := congrArg Value.int (j_asI (xs k))
  rw [e] at h
  exact h
theorem and31 (a : Int32) : ∃ y : Int, 0 ≤ y ∧ y ≤ 31 ∧ a &&& 31 = jI y := by
  refine ⟨(a &&& 31).toInt, ?_, ?_, (j_asI _).symm⟩
  all_goals
    have h1 : (a &&& 31).toBitVec.toNat ≤ 31 := by
      have : (a &&& 31).toBitVec = a.toBitVec &&& (31 : Int32).toBitVec := rfl
      rw [this, BitVec.toNat_and]
      exact Nat.le_trans Nat.and_le_right (by decide)
    have h2 : (a &&& 31).toInt = ((a &&& 31).toBitVec.toNat : Int) := BitVec.toInt_eq_toNat_of_lt (by omega)
    omega
theorem z_and31 {x : Int} (F : Fg M G A0 Y) (hd : decode Y.2.1 pc = .ok (.iand, 1)) (ht : t = pc + 1) (k : ∀ y : Int, 0 ≤ y → y ≤ 31 → Wg M G A0 Y R Q c s ad n t ls (vI y :: st) m) : Wg M G A0 Y R Q c s ad n pc ls (vI 31 :: vI x :: st) m := by
  subst ht
  intro H locs a hI hl
  obtain ⟨y, h1, h2, h3⟩ := and31 (jI x)
  refine lv_iand F.1 F.2.1 hd ?_
  have e : jI x &&& jI 31 = jI y := h3
  rw [e]
  exact k y h1 h2 H locs a hI hl
theorem z_tableOut {dflt lo hi : Int} {offs : Array Int} {len : Nat} {x : Int} (F : Fg M G A0 Y) (hd : decode Y.2.1 pc = .ok (.tableswitch dflt lo hi offs, len)) (hx : ri x) (h : x < lo ∨ hi < x) (ht : (pc : Int) + dflt = (t : Int)) (k : Wg M G A0 Y R Q c s ad n t ls st m) : Wg M G A0 Y R Q c s ad n pc ls (vI x :: st) m := by
  intro H locs a hI hl
  exact lv_tableOut F.1 F.2.1 hd (by rw [j_toInt hx]; exact h) ht (k H locs a hI hl)
theorem z_tableIn {dflt lo hi : Int} {offs : Array Int} {len : Nat} {x off : Int} (F : Fg M G A0 Y) (hd : decode Y.2.1 pc = .ok (.tableswitch dflt lo hi offs, len)) (hx : ri x) (h1 : lo ≤ x) (h2 : x ≤ hi) (ho : offs[(x - lo).toNat]? = some off) (ht : (pc : Int) + off = (t : Int)) (k : Wg M G A0 Y R Q c s ad n t ls st m) : Wg M G A0 Y R Q c s ad n pc ls (vI x :: st) m := by
  intro H locs a hI hl
  exact lv_tableIn F.1 F.2.1 hd (by rw [j_toInt hx]; omega) (by rw [j_toInt hx]; omega) (by rw [j_toInt hx]; exact ho) ht (k H locs a hI hl)
/-- two answers that are the same -/
theorem z_same {x y : Int} {off : Int} {u : Nat} (F : Fg M G A0 Y) (hd : decode Y.2.1 pc = .ok (.if_icmp .eq off, 3)) (hx : ri x) (hxy : x = y) (hu : (pc : Int) + off = (u : Int)) (k1 : Wg M G A0 Y R Q c s ad n u ls st m) : Wg M G A0 Y R Q c s ad n pc ls (vI y :: vI x :: st) m := by
  subst hxy
  exact z_icmp_eq F hd hx hx hu rfl (fun _ => k1) (fun h => absurd rfl h)
theorem z_sameL {x y : Int} {off : Int} {u : Nat} (F : Fg M G A0 Y) (hd : decode Y.2.1 pc = .ok (.lcmp, 1)) (hd2 : decode Y.2.1 (pc + 1) = .ok (.ifCond .eq off, 3)) (hx : rl x) (hxy : x = y) (hu : ((pc + 1 : Nat) : Int) + off = (u : Int)) (k1 : Wg M G A0 Y R Q c s ad n u ls st m) : Wg M G A0 Y R Q c s ad n pc ls (vL y :: vL x :: st) m := by
  subst hxy
  intro H locs a hI hl
  refine W.lcmp F.1 F.2.1 hd ?_
  have e : lg_cmp (jL x) (jL x) = jI 0 := by
    unfold lg_cmp
    have h1 : ¬ (jL x > jL x) := fun h => Int.lt_irrefl x ((j_ltL hx hx).mp h)
    rw [if_neg h1, if_pos rfl]
    rfl
  rw [e]
  exact lv_if_eq F.1 F.2.1 hd2 hu (fun _ => k1 H locs a hI hl) (fun h => absurd rfl h)
end Law
