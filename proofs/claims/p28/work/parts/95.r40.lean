/-! the reference: runs, run, off -/

theorem RN.ag {B F S : IM} {t : Nat} (h : RN B t F) (ha : agY S F) : RN B t S := by
  obtain ⟨hE, h7, hc, hge, h9, h30, hn1, hn2⟩ := h
  have r : ∀ k s, 36 ≤ k → S k 0 s = F k 0 s := fun k s _ => ha k 0 s (by omega)
  have e : ∀ s, (s < 15 ∨ 29 < s) → S 30 0 s = F 30 0 s := fun s _ => ha 30 0 s (by omega)
  refine ⟨fun k i s a b => (ha k i s (by omega)).trans (hE k i s a b), by rw [e 7 (by omega)]; exact h7, fun q hq => ?_, fun q hq => ?_, by rw [e 9 (by omega)]; exact h9, by rw [e 30 (by omega)]; exact h30, ?_, ?_⟩
  · rw [r 36 q (by omega), r 37 q (by omega), r 38 q (by omega), r 39 q (by omega)]
    exact hc q hq
  · rw [r 36 q (by omega), r 37 q (by omega), r 38 q (by omega), r 39 q (by omega)]
    exact hge q hq
  · rw [e 31 (by omega), e 32 (by omega), e 33 (by omega)]
    exact hn1
  · rw [e 31 (by omega), e 32 (by omega), e 33 (by omega)]
    exact hn2
theorem ho1_in {im : IM} {q : Nat} (hk : 0 ≤ im 35 0 (q / 10) ∧ im 35 0 (q / 10) < 10) : 1 ≤ ho1 im q ∧ ho1 im q ≤ 108 := by
  have h := sayR_in im (im 30 0 4).toNat 1 (nmA (im 36 0 q) 0 (im 30 0 7) (im 35 0 (q / 10)) ((q % 10 : Nat) : Int) (im 37 0 q + 1))
  unfold ho1 holdsK heldK
  (repeat' split) <;> omega
theorem beT_in {im : IM} {q : Nat} (hk : 0 ≤ im 35 0 (q / 10) ∧ im 35 0 (q / 10) < 10) (x : Int) : 0 ≤ beT im q x ∧ beT im q x ≤ 700 := beK_in (fun a b => sayR_in im _ a b) hk.1 hk.2
/-- an hour keeps it -/
theorem RC_hr {S S1 : IM} {t : Int} (ht : t ≠ -1) (h : RC S) (hA : AG S 1000) (h7 : S 30 0 7 ≤ 1099) (hR : RI S1) (ha : agY S1 (up (lvN S t (10 * S 30 0 12).toNat) 30 0 7 (S 30 0 7 + 1))) : RC S1 ∧ AG S1 1000 := by
  have hL := LV_N S ht (10 * S 30 0 12).toNat
  have h12 := h.2.2.2.1
  have h7b := h.2.2.2.2.1
  have e7 : lvN S t (10 * S 30 0 12).toNat 30 0 7 = S 30 0 7 := hL.1 30 0 7 (by omega) (by omega)
  have hR0 : RI (up S1 30 0 7 (S 30 0 7)) := RI_up hR (h.1 _ _ _)
  have ha0 : agY (up S1 30 0 7 (S 30 0 7)) (lvN S t (10 * S 30 0 12).toNat) := by
    intro k i s hs
    rw [up_app]
    split
    · rename_i e
      obtain ⟨rfl, rfl, rfl⟩ := e
      exact e7.symm
    · rename_i e
      rw [ha k i s hs, up_app, if_neg e]
  have g := RC_lv h hA hR0 ha0 hL
  have s7 : S1 30 0 7 = S 30 0 7 + 1 := (ha 30 0 7 (by omega)).trans (by rw [up_app, if_pos ⟨rfl, rfl, rfl⟩])
  have s12 : S1 30 0 12 = S 30 0 12 := ((ha 30 0 12 (by omega)).trans (by rw [up_app, if_neg (by omega)])).trans (hL.1 30 0 12 (by omega) (by omega))
  refine ⟨g.1.C hR ⟨fun k s h1 h2 => ?_, ?_, ?_, ?_, ?_, ?_⟩ (by omega), fun q hq hne => ?_⟩
  · rw [up_app, if_neg (by omega)]
  · rw [up_app, if_neg (by omega)]
  · rw [up_app, if_neg (by omega)]
  · rw [up_app, if_neg (by omega)]
  · rw [up_app, if_neg (by omega)]
  · rw [up_app, if_neg (by omega)]
  · rw [s12] at hq
    have e36 : S1 36 0 q = lvN S t (10 * S 30 0 12).toNat 36 0 q := (ha 36 0 q (by omega)).trans (by rw [up_app, if_neg (by omega)])
    have e37 : S1 37 0 q = lvN S t (10 * S 30 0 12).toNat 37 0 q := (ha 37 0 q (by omega)).trans (by rw [up_app, if_neg (by omega)])
    rw [e36] at hne
    rw [e37]
    have l := hL.2.2.1 q (by omega)
    by_cases ho : ofI S q
    · exact absurd (l.1 ho).1 hne
    · have l2 := l.2 ho
      have hw : S 36 0 q ≠ -1 := by rw [← l2.1]; exact hne
      rw [l2.2.1 hw]
      have hp := (h.2.2.2.2.2.2 (q / 10) (by omega)).2.1
      have i := ho1_in (im := S) (q := q) hp
      have : ¬ ho1 S q ≤ S 37 0 q + 1 := fun z => ho ⟨hw, z⟩
      omega
theorem TR_C {a b : IM} (h : agC a b) : TR a = TR b := by
  obtain ⟨c, e3, e4, e6, e8, e12⟩ := h
  funext part nm
  unfold TR sayR
  have e31 : rowR a (a 30 0 4).toNat = rowR b (b 30 0 4).toNat := by
    rw [e4]
    exact funext fun i => c 31 _ (by omega) (by omega)
  rw [e31, e4, c 32 _ (by omega) (by omega)]
theorem when_C {a b : IM} (h : agC a b) (h7 : a 30 0 7 = b 30 0 7) : whenR a = whenR b ∧ costR a = costR b ∧ cnR a = cnR b := by
  have hT := TR_C h
  obtain ⟨c, e3, e4, e6, e8, e12⟩ := h
  have ew : whenR a = whenR b := by
    funext n q
    unfold whenR goR
    rw [e12, hT, c 34 _ (by omega) (by omega), c 35 _ (by omega) (by omega), c 36 _ (by omega) (by omega), c 37 _ (by omega) (by omega), h7]
  refine ⟨ew, ?_, ?_⟩
  · funext n q
    unfold costR beT
    rw [ew, hT, c 34 _ (by omega) (by omega), c 35 _ (by omega) (by omega), c 36 _ (by omega) (by omega), c 37 _ (by omega) (by omega), h7, e8]
  · funext n q
    unfold cnR
    rw [ew]
/-- all but what a run may leave another -/
def agO (a b : IM) : Prop := ∀ k s, ¬ (38 ≤ k ∧ k ≤ 41) → ¬ (k = 30 ∧ (15 ≤ s ∧ s ≤ 33 ∨ 38 ≤ s ∧ s ≤ 40)) → a k 0 s = b k 0 s
theorem agO_rfl (a : IM) : agO a a := fun _ _ _ _ => rfl
theorem agO.trans {a b c : IM} (h : agO a b) (h2 : agO b c) : agO a c := fun k s x y => (h k s x y).trans (h2 k s x y)
theorem agO.C {a b : IM} (h : agO a b) : agC a b ∧ a 30 0 7 = b 30 0 7 := ⟨⟨fun k s _ _ => h k s (by omega) (by omega), h 30 3 (by omega) (by omega), h 30 4 (by omega) (by omega), h 30 6 (by omega) (by omega), h 30 8 (by omega) (by omega), h 30 12 (by omega) (by omega)⟩, h 30 7 (by omega) (by omega)⟩
theorem RC.O {a b : IM} (h : RC b) (hR : RI a) (ha : agO a b) : RC a := h.C hR ha.C.1 (by rw [ha.C.2]; exact h.2.2.2.2.1)
theorem agY.O {a b : IM} (h : agY a b) : agO a b := fun k s _ _ => h k 0 s (by omega)
/-- what a run leaves to be asked -/
def RU (im : IM) (n : Nat) (a : IM) : Prop := agO a im ∧ (∀ q, q < 50 → a 38 0 q = whenR im n q ∧ a 39 0 q = costR im n q) ∧ a 30 0 40 = smF (costR im n) 50 ∧ a 30 0 30 = smF (cnR im n) 50 ∧ a 30 0 31 = (if fstG (whenR im n) 50 = -1 then -1 else im 36 0 (fstG (whenR im n) 50).toNat) ∧ a 30 0 32 = (if fstG (whenR im n) 50 = -1 then -1 else fstG (whenR im n) 50 / 10) ∧ a 30 0 33 = (if fstG (whenR im n) 50 = -1 then -1 else whenR im n (fstG (whenR im n) 50).toNat)
theorem asideI_c (im : IM) {k i s : Nat} (h : ¬ (38 ≤ k ∧ k ≤ 41)) (h2 : ¬ (k = 30 ∧ (30 ≤ s ∧ s ≤ 33 ∨ s = 38 ∨ s = 39))) : asideI im k i s = im k i s := by
  unfold asideI
  rw [bgI_c 50 (by omega) (by omega), up_app, if_neg (by omega), up_app, if_neg (by omega), cp2_app, if_neg (by omega), if_neg (by omega)]
theorem asideI_C (im : IM) : agC (asideI im) im := ⟨fun k s _ _ => asideI_c im (by omega) (by omega), asideI_c im (by omega) (by omega), asideI_c im (by omega) (by omega), asideI_c im (by omega) (by omega), asideI_c im (by omega) (by omega), asideI_c im (by omega) (by omega)⟩
theorem asideI_RI {im : IM} (h : RI im) : RI (asideI im) := bgI_RI (RI_up (RI_up (cp2_RI h _ _ _ _ _) (h _ _ _)) (h _ _ _)) _
theorem asideI_k (im : IM) {s : Nat} (hs : s < 50) : asideI im 38 0 s = -1 ∧ asideI im 39 0 s = 0 ∧ asideI im 40 0 s = im 36 0 s ∧ asideI im 41 0 s = im 37 0 s := by
  unfold asideI
  refine ⟨?_, ?_, ?_, ?_⟩
  · rw [bgI_app, if_pos ⟨rfl, rfl, hs⟩]
  · rw [bgI_app, if_neg (by omega), if_pos ⟨rfl, rfl, hs⟩]
  · rw [bgI_c 50 (by omega) (by omega), up_app, if_neg (by omega), up_app, if_neg (by omega), cp2_app, if_pos ⟨rfl, rfl, hs⟩]
  · rw [bgI_c 50 (by omega) (by omega), up_app, if_neg (by omega), up_app, if_neg (by omega), cp2_app, if_neg (by omega), if_pos ⟨rfl, rfl, hs⟩]
theorem asideI_RN {im : IM} (h : RC im) : RN (asideI im) 0 (asideI im) := by
  have h12 := h.2.2.2.1
  have e12 : asideI im 30 0 12 = im 30 0 12 := rfl
  refine RN_0 (fun q hq => ?_) (h.1 30 0 9) rfl ⟨rfl, rfl, rfl⟩
  have := asideI_k im (s := q) (by omega)
  exact ⟨this.1, this.2.1⟩
theorem backI_c (im : IM) {k i s : Nat} (h : ¬ (k = 36 ∨ k = 37)) (h2 : ¬ (k = 30 ∧ (s = 40 ∨ s = 7 ∨ s = 9))) : backI im k i s = im k i s := by
  unfold backI
  rw [up_app, if_neg (by omega), up_app, if_neg (by omega), up_app, if_neg (by omega), cp2_app, if_neg (by omega), if_neg (by omega)]
theorem backI_RI {im : IM} (h : RI im) : RI (backI im) := RI_up (RI_up (RI_up (cp2_RI h _ _ _ _ _) (ri_b _)) (h _ _ _)) (h _ _ _)
theorem backI_R {im S : IM} (hS : ∀ k s, ¬ (36 ≤ k ∧ k ≤ 39) → ¬ (k = 30 ∧ (s = 7 ∨ s = 9 ∨ 15 ≤ s ∧ s ≤ 33)) → S k 0 s = asideI im k 0 s) (hx : ∀ k s, (k = 36 ∨ k = 37) → 50 ≤ s → S k 0 s = im k 0 s) : agO (backI S) im := by
  intro k s a b
  by_cases h36 : k = 36 ∨ k = 37
  · by_cases hs : s < 50
    · have k4 := asideI_k im hs
      have e40 : S 40 0 s = im 36 0 s := (hS 40 s (by omega) (by omega)).trans k4.2.2.1
      have e41 : S 41 0 s = im 37 0 s := (hS 41 s (by omega) (by omega)).trans k4.2.2.2
      unfold backI
      rw [up_app, if_neg (by omega), up_app, if_neg (by omega), up_app, if_neg (by omega), cp2_app]
      rcases h36 with rfl | rfl
      · rw [if_pos ⟨rfl, rfl, hs⟩]; exact e40
      · rw [if_neg (by omega), if_pos ⟨rfl, rfl, hs⟩]; exact e41
    · unfold backI
      rw [up_app, if_neg (by omega), up_app, if_neg (by omega), up_app, if_neg (by omega), cp2_app, if_neg (by omega), if_neg (by omega)]
      exact hx k s h36 (by omega)
  · by_cases h7 : k = 30 ∧ (s = 7 ∨ s = 9)
    · obtain ⟨rfl, h7⟩ := h7
      have e38 : S 30 0 38 = im 30 0 7 := hS 30 38 (by omega) (by omega)
      have e39 : S 30 0 39 = im 30 0 9 := hS 30 39 (by omega) (by omega)
      rcases h7 with rfl | rfl
      · exact e38
      · exact e39
    · rw [backI_c S h36 (by omega), hS k s (by omega) (by omega)]
      exact asideI_c im (by omega) (by omega)
/-- hours over: what a run answers -/
theorem RU_of {im S : IM} {n : Nat} (h : RC im) (hN : RN (asideI im) n S) (hxx : ∀ k s, (k = 36 ∨ k = 37) → 50 ≤ s → asideI im k 0 s = im k 0 s) : RU im n (backI S) := by
  have h12 := h.2.2.2.1
  have hP := h.2.2.2.2.2.2
  have e12 : asideI im 30 0 12 = im 30 0 12 := rfl
  have eW := when_C (asideI_C im) rfl
  obtain ⟨hE, h7, hc, hge, h9, h30, hn1, hn2⟩ := hN
  rw [e12] at hc hge h9 h30 hn1 hn2
  rw [eW.1] at hc hn1 hn2
  rw [eW.2.1] at hc h9
  rw [eW.2.2] at h30
  have hm : ∀ n q : Nat, 10 * im 30 0 12 ≤ (q : Int) → whenR im n q = -1 := fun n q hq => by
    unfold whenR
    rw [if_neg (by omega)]
  have hm2 : ∀ q : Nat, 10 * im 30 0 12 ≤ (q : Int) → costR im n q = 0 := fun q hq => by
    unfold costR
    rw [if_pos (hm n q hq)]
  have hm3 : ∀ q : Nat, 10 * im 30 0 12 ≤ (q : Int) → cnR im n q = 0 := fun q hq => by
    unfold cnR
    rw [if_pos (hm n q hq)]
  have e50 : (10 * im 30 0 12).toNat + (50 - (10 * im 30 0 12).toNat) = 50 := by omega
  have s9 := smF_ext (f := costR im n) (N := (10 * im 30 0 12).toNat) (50 - (10 * im 30 0 12).toNat) (fun q hq => hm2 q (by omega))
  have s30 := smF_ext (f := cnR im n) (N := (10 * im 30 0 12).toNat) (50 - (10 * im 30 0 12).toNat) (fun q hq => hm3 q (by omega))
  rw [e50] at s9 s30
  have hb := smF_in (f := costR im n) (a := 0) (b := 700) (N := 50) (fun q hq => by
    unfold costR
    split
    · omega
    · rename_i z
      have hq2 : ((q / 10 : Nat) : Int) < im 30 0 12 := Decidable.byContradiction fun y => z (by unfold whenR; rw [if_neg y])
      exact beT_in (hP (q / 10) hq2).2.1 _) (by omega) (by omega)
  have c : ∀ s, ¬ (s = 40 ∨ s = 7 ∨ s = 9) → backI S 30 0 s = S 30 0 s := fun s hs => backI_c S (by omega) (by omega)
  have hr : ∀ q, q < 50 → S 38 0 q = whenR im n q ∧ S 39 0 q = costR im n q := fun q hq => by
    by_cases y : (q : Int) < 10 * im 30 0 12
    · exact (hc q y).2.2
    · have g := hge q (by omega)
      have a := asideI_k im hq
      rw [hm n q (by omega), hm2 q (by omega), g.2.2.1, g.2.2.2]
      exact ⟨a.1, a.2.1⟩
  refine ⟨backI_R (fun k s a b => hE k 0 s a (by omega)) (fun k s hk hs => ?_), fun q hq => ?_, ?_, ?_, ?_⟩
  · have g := hge s (by omega)
    rw [← hxx k s hk hs]
    rcases hk with rfl | rfl
    · exact g.1
    · exact g.2.1
  · rw [backI_c S (by omega) (by omega), backI_c S (by omega) (by omega)]
    exact hr q hq
  · show bm (S 30 0 9 - S 30 0 39) = smF (costR im n) 50
    have e39 : S 30 0 39 = im 30 0 9 := hE 30 0 39 (by omega) (by omega)
    have e9 : asideI im 30 0 9 = im 30 0 9 := rfl
    rw [h9, e39, e9, bm_sub, ← s9, Int.add_comm, Int.add_sub_cancel]
    exact bm_idd (by constructor <;> omega)
  · rw [c 30 (by omega), h30, s30]
  · rw [c 31 (by omega), c 32 (by omega), c 33 (by omega)]
    rcases fstG_in (whenR im n) 50 with ⟨a1, a2⟩ | ⟨s, hs, a2, a3, a4⟩
    · rw [a2, if_pos rfl, if_pos rfl, if_pos rfl]
      exact hn1 (fun q hq => a1 q (by omega))
    · have e : (fstG (whenR im n) 50).toNat = s := by omega
      rw [e, if_neg (by omega), if_neg (by omega), if_neg (by omega), a2]
      have hs2 : (s : Int) < 10 * im 30 0 12 := Decidable.byContradiction fun y => a3 (hm n s (by omega))
      have g := hn2 s hs2 a3 (fun j hj => a4 j (by omega))
      exact ⟨g.1, g.2.1, g.2.2⟩
theorem RU.cost {im a : IM} {n : Nat} (h : RC im) (hU : RU im n a) : (∀ q, 0 ≤ costR im n q ∧ costR im n q ≤ 700) ∧ (0 ≤ smF (costR im n) 50 ∧ smF (costR im n) 50 ≤ 35000) := by
  have hP := h.2.2.2.2.2.2
  have hc : ∀ q, 0 ≤ costR im n q ∧ costR im n q ≤ 700 := fun q => by
    unfold costR
    split
    · omega
    · rename_i z
      have hq2 : ((q / 10 : Nat) : Int) < im 30 0 12 := Decidable.byContradiction fun y => z (by unfold whenR; rw [if_neg y])
      exact beT_in (hP (q / 10) hq2).2.1 _
  have := smF_in (f := costR im n) (a := 0) (b := 700) (N := 50) (fun q _ => hc q) (by omega) (by omega)
  exact ⟨hc, by omega, by omega⟩
