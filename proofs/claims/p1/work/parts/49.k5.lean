/-! the reference: its letters, its constructor -/
def spM (im : IM) (p : Nat) (a1 a2 a3 a4 a5 a6 a7 a8 : Int) : IM := up (up (up (up (up (up (up (up im 31 0 p a1) 31 0 (p + 1) a2) 31 0 (p + 2) a3) 31 0 (p + 3) a4) 31 0 (p + 4) a5) 31 0 (p + 5) a6) 31 0 (p + 6) a7) 31 0 (p + 7) a8

set_option maxHeartbeats 4000000 in
theorem c_X9_spell (l : Launch) (G : GS) (im : IM) (bt rt : Nat) (lm : IM) (p : Nat) (hp : p + 8 ≤ 960) (a1 : Int) (a2 : Int) (a3 : Int) (a4 : Int) (a5 : Int) (a6 : Int) (a7 : Int) (a8 : Int) : Cn l (XR G) yX9_spell Y_X9_spell [vR 30 0, vI (p : Int), vI a1, vI a2, vI a3, vI a4, vI a5, vI a6, vI a7, vI a8] (im, rs bt rt, lm) (pV fun m' => m' = (spM im p a1 a2 a3 a4 a5 a6 a7 a8, rs bt rt, lm)) := by
  refine cn_of (by decide) (okR G) rfl (Nat.le_of_ble_eq_true rfl) ?_
  intro M ad hMl F
  subst hMl
  refine wp_pad 0 ?_
  show Wp M (XR G) ad Y_X9_spell (pV fun m' => m' = (spM im p a1 a2 a3 a4 a5 a6 a7 a8, rs bt rt, lm)) 0 [some (vR 30 0), some (vI (p : Int)), some (vI a1), some (vI a2), some (vI a3), some (vI a4), some (vI a5), some (vI a6), some (vI a7), some (vI a8)] [] (im, rs bt rt, lm)
  refine q_aload_n (t := 1) F dX9_spell_0 rfl rfl rfl ?_
  refine g_X9_13 (t := 4) F dX9_spell_1 rfl rfl ?_
  refine q_iload_n (t := 5) F dX9_spell_4 rfl rfl rfl ?_
  refine q_iload_n (t := 6) F dX9_spell_5 rfl rfl rfl ?_
  first | refine stN_31 (t := 7) F dX9_spell_6 (by omega) rfl ?_ | refine st_31 (t := 7) F dX9_spell_6 (by omega) (by omega) rfl ?_
  refine q_aload_n (t := 8) F dX9_spell_7 rfl rfl rfl ?_
  refine g_X9_13 (t := 11) F dX9_spell_8 rfl rfl ?_
  refine q_iload_n (t := 12) F dX9_spell_11 rfl rfl rfl ?_
  refine q_iconst (t := 13) F dX9_spell_12 rfl ?_
  refine q_iadd (t := 14) F dX9_spell_13 rfl ?_
  rw [show (p : Int) + 1 = ((p + 1 : Nat) : Int) by omega]
  refine q_iload_n (t := 15) F dX9_spell_14 rfl rfl rfl ?_
  first | refine stN_31 (t := 16) F dX9_spell_15 (by omega) rfl ?_ | refine st_31 (t := 16) F dX9_spell_15 (by omega) (by omega) rfl ?_
  refine q_aload_n (t := 17) F dX9_spell_16 rfl rfl rfl ?_
  refine g_X9_13 (t := 20) F dX9_spell_17 rfl rfl ?_
  refine q_iload_n (t := 21) F dX9_spell_20 rfl rfl rfl ?_
  refine q_iconst (t := 22) F dX9_spell_21 rfl ?_
  refine q_iadd (t := 23) F dX9_spell_22 rfl ?_
  rw [show (p : Int) + 2 = ((p + 2 : Nat) : Int) by omega]
  refine q_iload (t := 25) F dX9_spell_23 rfl rfl ?_
  first | refine stN_31 (t := 26) F dX9_spell_25 (by omega) rfl ?_ | refine st_31 (t := 26) F dX9_spell_25 (by omega) (by omega) rfl ?_
  refine q_aload_n (t := 27) F dX9_spell_26 rfl rfl rfl ?_
  refine g_X9_13 (t := 30) F dX9_spell_27 rfl rfl ?_
  refine q_iload_n (t := 31) F dX9_spell_30 rfl rfl rfl ?_
  refine q_iconst (t := 32) F dX9_spell_31 rfl ?_
  refine q_iadd (t := 33) F dX9_spell_32 rfl ?_
  rw [show (p : Int) + 3 = ((p + 3 : Nat) : Int) by omega]
  refine q_iload (t := 35) F dX9_spell_33 rfl rfl ?_
  first | refine stN_31 (t := 36) F dX9_spell_35 (by omega) rfl ?_ | refine st_31 (t := 36) F dX9_spell_35 (by omega) (by omega) rfl ?_
  refine q_aload_n (t := 37) F dX9_spell_36 rfl rfl rfl ?_
  refine g_X9_13 (t := 40) F dX9_spell_37 rfl rfl ?_
  refine q_iload_n (t := 41) F dX9_spell_40 rfl rfl rfl ?_
  refine q_iconst (t := 42) F dX9_spell_41 rfl ?_
  refine q_iadd (t := 43) F dX9_spell_42 rfl ?_
  rw [show (p : Int) + 4 = ((p + 4 : Nat) : Int) by omega]
  refine q_iload (t := 45) F dX9_spell_43 rfl rfl ?_
  first | refine stN_31 (t := 46) F dX9_spell_45 (by omega) rfl ?_ | refine st_31 (t := 46) F dX9_spell_45 (by omega) (by omega) rfl ?_
  refine q_aload_n (t := 47) F dX9_spell_46 rfl rfl rfl ?_
  refine g_X9_13 (t := 50) F dX9_spell_47 rfl rfl ?_
  refine q_iload_n (t := 51) F dX9_spell_50 rfl rfl rfl ?_
  refine q_iconst (t := 52) F dX9_spell_51 rfl ?_
  refine q_iadd (t := 53) F dX9_spell_52 rfl ?_
  rw [show (p : Int) + 5 = ((p + 5 : Nat) : Int) by omega]
  refine q_iload (t := 55) F dX9_spell_53 rfl rfl ?_
  first | refine stN_31 (t := 56) F dX9_spell_55 (by omega) rfl ?_ | refine st_31 (t := 56) F dX9_spell_55 (by omega) (by omega) rfl ?_
  refine q_aload_n (t := 57) F dX9_spell_56 rfl rfl rfl ?_
  refine g_X9_13 (t := 60) F dX9_spell_57 rfl rfl ?_
  refine q_iload_n (t := 61) F dX9_spell_60 rfl rfl rfl ?_
  refine q_bipush (t := 63) F dX9_spell_61 (by decide) rfl ?_
  refine q_iadd (t := 64) F dX9_spell_63 rfl ?_
  rw [show (p : Int) + 6 = ((p + 6 : Nat) : Int) by omega]
  refine q_iload (t := 66) F dX9_spell_64 rfl rfl ?_
  first | refine stN_31 (t := 67) F dX9_spell_66 (by omega) rfl ?_ | refine st_31 (t := 67) F dX9_spell_66 (by omega) (by omega) rfl ?_
  refine q_aload_n (t := 68) F dX9_spell_67 rfl rfl rfl ?_
  refine g_X9_13 (t := 71) F dX9_spell_68 rfl rfl ?_
  refine q_iload_n (t := 72) F dX9_spell_71 rfl rfl rfl ?_
  refine q_bipush (t := 74) F dX9_spell_72 (by decide) rfl ?_
  refine q_iadd (t := 75) F dX9_spell_74 rfl ?_
  rw [show (p : Int) + 7 = ((p + 7 : Nat) : Int) by omega]
  refine q_iload (t := 77) F dX9_spell_75 rfl rfl ?_
  first | refine stN_31 (t := 78) F dX9_spell_77 (by omega) rfl ?_ | refine st_31 (t := 78) F dX9_spell_77 (by omega) (by omega) rfl ?_
  refine q_vret F dX9_spell_78 rfl ?_
  exact ⟨rfl, rfl⟩

/-- all cells -/
def nA : Nat → Nat := gl [1, 1, 6, 6, 6, 6, 1, 4, 4, 1, 1, 1, 1, 1, 1, 1, 1, 1, 3, 3, 3, 15, 15, 15, 0, 0, 0, 0, 0, 0, 1, 1, 1, 1, 1, 1, 1, 1, 1, 1, 1, 1, 1, 1, 1, 1, 1, 1, 1, 1, 1]
def rR0 : Nat → Nat → Nat → Option (Nat × Nat) := up (up (up (up (up (up (up (up (up (up (up (up (up (up (up (up (up (up (up (up (rsC 0 0) 30 0 1 (some (31, 0))) 30 0 2 (some (32, 0))) 30 0 5 (some (33, 0))) 30 0 10 (some (34, 0))) 30 0 11 (some (35, 0))) 30 0 13 (some (36, 0))) 30 0 14 (some (37, 0))) 30 0 34 (some (38, 0))) 30 0 35 (some (39, 0))) 30 0 36 (some (40, 0))) 30 0 37 (some (41, 0))) 30 0 41 (some (42, 0))) 30 0 42 (some (43, 0))) 30 0 43 (some (44, 0))) 30 0 44 (some (45, 0))) 30 0 45 (some (46, 0))) 30 0 51 (some (47, 0))) 30 0 52 (some (48, 0))) 30 0 53 (some (49, 0))) 30 0 54 (some (50, 0))
def chQ : Bool := (List.range 64).all fun k => (List.range (nA k)).all fun i => (List.range (siz k)).all fun s => !rdr k s || decide (rs 0 0 k i s = rR0 k i s) && (match rs 0 0 k i s with | none => true | some q => decide (q.1 < 64) && decide (q.2 < nA q.1))
theorem chQ_ok : chQ = true := by decide +kernel
theorem rR0_rs : ∀ k, k < 64 → ∀ i, i < nA k → ∀ s, s < siz k → rdr k s = true → rs 0 0 k i s = rR0 k i s ∧ ∀ q, rs 0 0 k i s = some q → okq nA q := by
  intro k hk i hi s hs hr
  have h := List.all_eq_true.mp chQ_ok k (List.mem_range.mpr hk)
  have h2 := List.all_eq_true.mp (List.all_eq_true.mp h i (List.mem_range.mpr hi)) s (List.mem_range.mpr hs)
  rw [hr] at h2
  have h2 : (decide (rs 0 0 k i s = rR0 k i s) && (match rs 0 0 k i s with | none => true | some q => decide (q.1 < 64) && decide (q.2 < nA q.1))) = true := h2
  rw [Bool.and_eq_true] at h2
  refine ⟨of_decide_eq_true h2.1, fun q hq => ?_⟩
  have h3 := h2.2
  rw [hq] at h3
  have h4 : (decide (q.1 < 64) && decide (q.2 < nA q.1)) = true := h3
  rw [Bool.and_eq_true] at h4
  exact ⟨of_decide_eq_true h4.1, of_decide_eq_true h4.2⟩
theorem cap_A : ∀ k, k < 51 → k < 24 ∨ 30 ≤ k → cap k ≤ nA k := by decide
theorem ids_A1 : ∀ q ∈ idsR, (q.1 < 64 ∧ q.2 < nA q.1) ∧ decide (30 ≤ q.1) = true := by decide +kernel
theorem ids_A2 : ∀ k, k < 64 → ∀ i, i < nA k → k < 30 ∨ (k, i) ∈ idsR := by decide +kernel
theorem nA_C : ∀ k, k < 24 → nA k = nC k := by decide

/-- the reference as it begins -/
def chR9 (im : IM) : IM := up (up (spM (spM (spM (spM (spM (spM ((up (up im 30 0 8 1024) 30 0 46 (-1))) 0 (115) (116) (105) (99) (107) (115) (32) (119)) 8 (111) (114) (100) (32) (43) (32) (102) (111)) 16 (111) (100) (32) (42) (32) (51) (32) (59)) 24 (32) (108) (97) (115) (116) (115) (32) (53)) 32 (32) (59) (32) (115) (104) (97) (109) (101)) 40 (115) (32) (49) (48) (32) (59) (32) (32)) 32 0 (0 : Int).toNat 48) 30 0 3 1
def RC0 (im : IM) : Prop := ∃ im0 : IM, (∀ k i s, 24 ≤ k → im0 k i s = 0) ∧ RI im0 ∧ im = chR9 im0
def pRk (k : Nat) : Bool := decide (30 ≤ k ∧ k < 51)
theorem rs_hi {bt rt bt' rt' k i s : Nat} (h : 24 ≤ k) : rs bt' rt' k i s = rs bt rt k i s := by
  unfold rs
  split <;> first | rfl | (exfalso; omega)
theorem rs_no {bt rt k i s : Nat} (h : 24 ≤ k) (h2 : ¬ (30 ≤ k ∧ k < 51)) : rs bt rt k i s = none := by
  unfold rs
  split <;> first | rfl | (exfalso; omega)
theorem sideR : sideOk nA pRk idsR := by
  refine ⟨fun q hq => ?_, fun q hq hp => ?_, fun k hk => ?_, ndR⟩
  · have h1 := ids_A1 q hq
    have h2 : 30 ≤ q.1 := of_decide_eq_true h1.2
    refine ⟨⟨h1.1.1, h1.1.2⟩, decide_eq_true ⟨h2, ?_⟩⟩
    refine Classical.byContradiction (fun z => ?_)
    have h3 : nA q.1 = 0 := by
      have := h1.1.1
      have h4 : ∀ k, k < 64 → 51 ≤ k → nA k = 0 := by decide
      exact h4 q.1 this (by omega)
    have := h1.1.2
    omega
  · have h2 : 30 ≤ q.1 ∧ q.1 < 51 := of_decide_eq_true hp
    rcases ids_A2 q.1 hq.1 q.2 hq.2 with h | h
    · omega
    · exact h
  · have h2 : 30 ≤ k ∧ k < 51 := of_decide_eq_true hk
    exact cap_A k h2.2 (Or.inr h2.1)
theorem sideCA : sideOk nA pC idsC := sideC nA_C
theorem mix_R {im im' lm lm' : IM} {bt rt bt' rt' : Nat} (h : ∀ k i s, ¬ (30 ≤ k ∧ k < 51) → im' k i s = im k i s) (h2 : ∀ k i s, ¬ (30 ≤ k ∧ k < 51) → lm' k i s = lm k i s) : mixk pRk (im', rs bt' rt', lm') (im, rs bt rt, lm) = (im', rs bt rt, lm') := by
  unfold mixk pRk
  refine Prod.ext ?_ (Prod.ext ?_ ?_)
  · funext k i s
    show (if decide (30 ≤ k ∧ k < 51) = true then im' k i s else im k i s) = im' k i s
    split
    · rfl
    · rename_i hk
      exact (h k i s (by simpa using hk)).symm
  · funext k i s
    show (if decide (30 ≤ k ∧ k < 51) = true then rs bt' rt' k i s else rs bt rt k i s) = rs bt rt k i s
    split
    · rename_i hk
      have := of_decide_eq_true hk
      exact rs_hi (by omega)
    · rfl
  · funext k i s
    show (if decide (30 ≤ k ∧ k < 51) = true then lm' k i s else lm k i s) = lm' k i s
    split
    · rfl
    · rename_i hk
      exact (h2 k i s (by simpa using hk)).symm
theorem mix_CA {im im' : IM} {bt rt bt' rt' : Nat} {lm : IM} (h : ∀ k i s, 24 ≤ k → im' k i s = im k i s) : mixk pC (im', rs bt' rt', lm) (im, rs bt rt, lm) = (im', rs bt' rt', lm) := by
  unfold mixk pC
  refine Prod.ext ?_ (Prod.ext ?_ ?_)
  · funext k i s
    show (if decide (k < 24) = true then im' k i s else im k i s) = im' k i s
    split
    · rfl
    · rename_i hk
      exact (h k i s (by simpa using hk)).symm
  · funext k i s
    show (if decide (k < 24) = true then rs bt' rt' k i s else rs bt rt k i s) = rs bt' rt' k i s
    split
    · rfl
    · rename_i hk
      exact rs_hi (by simpa using hk)
  · funext k i s
    show (if decide (k < 24) = true then lm k i s else lm k i s) = lm k i s
    split <;> rfl
theorem okM_R {im : IM} {bt rt : Nat} {lm : IM} (hbt : bt < 6) (hrt : rt < 6) : okM nA (im, rs bt rt, lm) := by
  intro k i s q hk hs hr hq
  by_cases hk2 : k < 24
  · exact rs_okC nA_C hbt hrt hk2 (by have := hk.2; rw [← nA_C k hk2]; exact this) hs hr hq
  · have hq : rs bt rt k i s = some q := hq
    rw [rs_hi (bt := 0) (rt := 0) (by omega)] at hq
    exact (rR0_rs k hk.1 i hk.2 s hs hr).2 q hq
theorem okM_A (im lm : IM) (x : Nat) : okM nA (im, rs 0 0, lm) := okM_R (by omega) (by omega)
theorem spM_k {im : IM} {p : Nat} {a1 a2 a3 a4 a5 a6 a7 a8 : Int} {k i s : Nat} (h : ¬ (30 ≤ k ∧ k < 51)) : spM im p a1 a2 a3 a4 a5 a6 a7 a8 k i s = im k i s := by
  unfold spM
  simp only [up_app]
  repeat rw [if_neg (by omega)]

theorem x9_tail {M : MS} {G : GS} {A0 : Nat → Prop} {Q : State → Prop} {c s : Nat} {ad : Ads} (im1 : IM) (F : Fg M G A0 Y_X9_init) (hcs : c ≤ 20 ∧ s ≤ 3000) (K : Wg M G A0 Y_X9_init (rmi 2 20 3000) Q c s ad nA 317 [some (vR 30 0)] [] (up (up (spM (spM (spM (spM (spM (spM (im1) 0 (115) (116) (105) (99) (107) (115) (32) (119)) 8 (111) (114) (100) (32) (43) (32) (102) (111)) 16 (111) (100) (32) (42) (32) (51) (32) (59)) 24 (32) (108) (97) (115) (116) (115) (32) (53)) 32 (32) (59) (32) (115) (104) (97) (109) (101)) 40 (115) (32) (49) (48) (32) (59) (32) (32)) 32 0 (0 : Int).toNat 48) 30 0 3 1, rs 0 0, lm0)) : Wg M G A0 Y_X9_init (rmi 2 20 3000) Q c s ad nA 173 [some (vR 30 0)] [] (im1, rs 0 0, lm0) := by
  have hsd := sideR
  refine z_aload_n (t := 174) F dX9_init_173 rfl rfl rfl ?_
  refine z_iconst (t := 175) F dX9_init_174 rfl ?_
  refine z_bipush (t := 177) F dX9_init_175 (by decide) rfl ?_
  refine z_bipush (t := 179) F dX9_init_177 (by decide) rfl ?_
  refine z_bipush (t := 181) F dX9_init_179 (by decide) rfl ?_
  refine z_bipush (t := 183) F dX9_init_181 (by decide) rfl ?_
  refine z_bipush (t := 185) F dX9_init_183 (by decide) rfl ?_
  refine z_bipush (t := 187) F dX9_init_185 (by decide) rfl ?_
  refine z_bipush (t := 189) F dX9_init_187 (by decide) rfl ?_
  refine z_bipush (t := 191) F dX9_init_189 (by decide) rfl ?_
  refine z_callV (t := 194) [vI 0, vI 115, vI 116, vI 105, vI 99, vI 107, vI 115, vI 32, vI 119] F dX9_init_191 k_X9_spell v_X9_spell ml_X9_81 rfl rfl rfl rfl (Nat.le_of_ble_eq_true rfl) (by decide) (by decide) hcs (okq_of (by decide) (by decide)) hsd (agI_rfl _ _) (c_X9_spell _ G _ 0 0 lm0 0 (by decide) (115) (116) (105) (99) (107) (115) (32) (119)) (fun r m' hp => ?_) rfl (fun r m' hp => ?_)
  · obtain ⟨-, rfl⟩ := hp
    exact okM_A _ _ 0
  obtain ⟨rfl, rfl⟩ := hp
  rw [mix_R (fun k i s hk => spM_k hk) (fun _ _ _ _ => rfl)]
  refine z_aload_n (t := 195) F dX9_init_194 rfl rfl rfl ?_
  refine z_bipush (t := 197) F dX9_init_195 (by decide) rfl ?_
  refine z_bipush (t := 199) F dX9_init_197 (by decide) rfl ?_
  refine z_bipush (t := 201) F dX9_init_199 (by decide) rfl ?_
  refine z_bipush (t := 203) F dX9_init_201 (by decide) rfl ?_
  refine z_bipush (t := 205) F dX9_init_203 (by decide) rfl ?_
  refine z_bipush (t := 207) F dX9_init_205 (by decide) rfl ?_
  refine z_bipush (t := 209) F dX9_init_207 (by decide) rfl ?_
  refine z_bipush (t := 211) F dX9_init_209 (by decide) rfl ?_
  refine z_bipush (t := 213) F dX9_init_211 (by decide) rfl ?_
  refine z_callV (t := 216) [vI 8, vI 111, vI 114, vI 100, vI 32, vI 43, vI 32, vI 102, vI 111] F dX9_init_213 k_X9_spell v_X9_spell ml_X9_81 rfl rfl rfl rfl (Nat.le_of_ble_eq_true rfl) (by decide) (by decide) hcs (okq_of (by decide) (by decide)) hsd (agI_rfl _ _) (c_X9_spell _ G _ 0 0 lm0 8 (by decide) (111) (114) (100) (32) (43) (32) (102) (111)) (fun r m' hp => ?_) rfl (fun r m' hp => ?_)
  · obtain ⟨-, rfl⟩ := hp
    exact okM_A _ _ 0
  obtain ⟨rfl, rfl⟩ := hp
  rw [mix_R (fun k i s hk => spM_k hk) (fun _ _ _ _ => rfl)]
  refine z_aload_n (t := 217) F dX9_init_216 rfl rfl rfl ?_
  refine z_bipush (t := 219) F dX9_init_217 (by decide) rfl ?_
  refine z_bipush (t := 221) F dX9_init_219 (by decide) rfl ?_
  refine z_bipush (t := 223) F dX9_init_221 (by decide) rfl ?_
  refine z_bipush (t := 225) F dX9_init_223 (by decide) rfl ?_
  refine z_bipush (t := 227) F dX9_init_225 (by decide) rfl ?_
  refine z_bipush (t := 229) F dX9_init_227 (by decide) rfl ?_
  refine z_bipush (t := 231) F dX9_init_229 (by decide) rfl ?_
  refine z_bipush (t := 233) F dX9_init_231 (by decide) rfl ?_
  refine z_bipush (t := 235) F dX9_init_233 (by decide) rfl ?_
  refine z_callV (t := 238) [vI 16, vI 111, vI 100, vI 32, vI 42, vI 32, vI 51, vI 32, vI 59] F dX9_init_235 k_X9_spell v_X9_spell ml_X9_81 rfl rfl rfl rfl (Nat.le_of_ble_eq_true rfl) (by decide) (by decide) hcs (okq_of (by decide) (by decide)) hsd (agI_rfl _ _) (c_X9_spell _ G _ 0 0 lm0 16 (by decide) (111) (100) (32) (42) (32) (51) (32) (59)) (fun r m' hp => ?_) rfl (fun r m' hp => ?_)
  · obtain ⟨-, rfl⟩ := hp
    exact okM_A _ _ 0
  obtain ⟨rfl, rfl⟩ := hp
  rw [mix_R (fun k i s hk => spM_k hk) (fun _ _ _ _ => rfl)]
  refine z_aload_n (t := 239) F dX9_init_238 rfl rfl rfl ?_
  refine z_bipush (t := 241) F dX9_init_239 (by decide) rfl ?_
  refine z_bipush (t := 243) F dX9_init_241 (by decide) rfl ?_
  refine z_bipush (t := 245) F dX9_init_243 (by decide) rfl ?_
  refine z_bipush (t := 247) F dX9_init_245 (by decide) rfl ?_
  refine z_bipush (t := 249) F dX9_init_247 (by decide) rfl ?_
  refine z_bipush (t := 251) F dX9_init_249 (by decide) rfl ?_
  refine z_bipush (t := 253) F dX9_init_251 (by decide) rfl ?_
  refine z_bipush (t := 255) F dX9_init_253 (by decide) rfl ?_
  refine z_bipush (t := 257) F dX9_init_255 (by decide) rfl ?_
  refine z_callV (t := 260) [vI 24, vI 32, vI 108, vI 97, vI 115, vI 116, vI 115, vI 32, vI 53] F dX9_init_257 k_X9_spell v_X9_spell ml_X9_81 rfl rfl rfl rfl (Nat.le_of_ble_eq_true rfl) (by decide) (by decide) hcs (okq_of (by decide) (by decide)) hsd (agI_rfl _ _) (c_X9_spell _ G _ 0 0 lm0 24 (by decide) (32) (108) (97) (115) (116) (115) (32) (53)) (fun r m' hp => ?_) rfl (fun r m' hp => ?_)
  · obtain ⟨-, rfl⟩ := hp
    exact okM_A _ _ 0
  obtain ⟨rfl, rfl⟩ := hp
  rw [mix_R (fun k i s hk => spM_k hk) (fun _ _ _ _ => rfl)]
  refine z_aload_n (t := 261) F dX9_init_260 rfl rfl rfl ?_
  refine z_bipush (t := 263) F dX9_init_261 (by decide) rfl ?_
  refine z_bipush (t := 265) F dX9_init_263 (by decide) rfl ?_
  refine z_bipush (t := 267) F dX9_init_265 (by decide) rfl ?_
  refine z_bipush (t := 269) F dX9_init_267 (by decide) rfl ?_
  refine z_bipush (t := 271) F dX9_init_269 (by decide) rfl ?_
  refine z_bipush (t := 273) F dX9_init_271 (by decide) rfl ?_
  refine z_bipush (t := 275) F dX9_init_273 (by decide) rfl ?_
  refine z_bipush (t := 277) F dX9_init_275 (by decide) rfl ?_
  refine z_bipush (t := 279) F dX9_init_277 (by decide) rfl ?_
  refine z_callV (t := 282) [vI 32, vI 32, vI 59, vI 32, vI 115, vI 104, vI 97, vI 109, vI 101] F dX9_init_279 k_X9_spell v_X9_spell ml_X9_81 rfl rfl rfl rfl (Nat.le_of_ble_eq_true rfl) (by decide) (by decide) hcs (okq_of (by decide) (by decide)) hsd (agI_rfl _ _) (c_X9_spell _ G _ 0 0 lm0 32 (by decide) (32) (59) (32) (115) (104) (97) (109) (101)) (fun r m' hp => ?_) rfl (fun r m' hp => ?_)
  · obtain ⟨-, rfl⟩ := hp
    exact okM_A _ _ 0
  obtain ⟨rfl, rfl⟩ := hp
  rw [mix_R (fun k i s hk => spM_k hk) (fun _ _ _ _ => rfl)]
  refine z_aload_n (t := 283) F dX9_init_282 rfl rfl rfl ?_
  refine z_bipush (t := 285) F dX9_init_283 (by decide) rfl ?_
  refine z_bipush (t := 287) F dX9_init_285 (by decide) rfl ?_
  refine z_bipush (t := 289) F dX9_init_287 (by decide) rfl ?_
  refine z_bipush (t := 291) F dX9_init_289 (by decide) rfl ?_
  refine z_bipush (t := 293) F dX9_init_291 (by decide) rfl ?_
  refine z_bipush (t := 295) F dX9_init_293 (by decide) rfl ?_
  refine z_bipush (t := 297) F dX9_init_295 (by decide) rfl ?_
  refine z_bipush (t := 299) F dX9_init_297 (by decide) rfl ?_
  refine z_bipush (t := 301) F dX9_init_299 (by decide) rfl ?_
  refine z_callV (t := 304) [vI 40, vI 115, vI 32, vI 49, vI 48, vI 32, vI 59, vI 32, vI 32] F dX9_init_301 k_X9_spell v_X9_spell ml_X9_81 rfl rfl rfl rfl (Nat.le_of_ble_eq_true rfl) (by decide) (by decide) hcs (okq_of (by decide) (by decide)) hsd (agI_rfl _ _) (c_X9_spell _ G _ 0 0 lm0 40 (by decide) (115) (32) (49) (48) (32) (59) (32) (32)) (fun r m' hp => ?_) rfl (fun r m' hp => ?_)
  · obtain ⟨-, rfl⟩ := hp
    exact okM_A _ _ 0
  obtain ⟨rfl, rfl⟩ := hp
  rw [mix_R (fun k i s hk => spM_k hk) (fun _ _ _ _ => rfl)]
  refine z_aload_n (t := 305) F dX9_init_304 rfl rfl rfl ?_
  refine z_getr3 (x := 2) (k' := 32) (i' := 0) (t := 308) F dX9_init_305 rfl uX9 fl_X9_17 (by decide) rfl (okq_of (by decide) (by decide)) rfl rfl rfl ?_
  refine z_iconst (t := 309) F dX9_init_308 rfl ?_
  refine z_bipush (t := 311) F dX9_init_309 (by decide) rfl ?_
  refine z_iast (m := (_, rs 0 0, lm0)) (t := 312) F dX9_init_311 rfl (by decide) (okq_of (by decide) (by decide)) (by decide) (by decide) rfl ?_
  refine z_aload_n (t := 313) F dX9_init_312 rfl rfl rfl ?_
  refine z_iconst (t := 314) F dX9_init_313 rfl ?_
  refine z_puti3 (x := 3) (t := 317) F dX9_init_314 rfl uX9 tyX9 tyX9_ok nmX9 fl_X9_85 (by decide) rfl rfl (okq_of (by decide) (by decide)) rfl rfl rfl ?_
  exact K

set_option maxHeartbeats 4000000 in
set_option maxRecDepth 20000 in
theorem ci_X9 (l : Launch) (G : GS) (im : IM) (him0 : ∀ k i s, 24 ≤ k → im k i s = 0) (hRi : RI im) : Ci l G yX9_init Y_X9_init 20 3000 [vR 30 0] (gl [1, 1, 6, 6, 6, 6, 1, 4, 4, 1, 1, 1, 1, 1, 1, 1, 1, 1, 3, 3, 3, 15, 15, 15, 0, 0, 0, 0, 0, 0, 1, 0, 0, 0, 0, 0, 0, 0, 0, 0, 0, 0, 0, 0, 0, 0, 0, 0, 0, 0, 0]) (im, rsC 0 0, lm0) (nA) (fun m' => ∃ im', m' = (im', rs 0 0, lm0) ∧ (∀ k i s, 24 ≤ k → im k i s = 0) ∧ RI im ∧ im' = chR9 im) := by
  refine ci_of (by decide) rfl rfl rfl (Nat.le_of_ble_eq_true rfl) ?_
  intro M ad hMl F hini
  subst hMl
  refine z_pad 0 ?_
  show Wg M G _ Y_X9_init _ _ 0 0 ad (gl [1, 1, 6, 6, 6, 6, 1, 4, 4, 1, 1, 1, 1, 1, 1, 1, 1, 1, 3, 3, 3, 15, 15, 15, 0, 0, 0, 0, 0, 0, 1, 0, 0, 0, 0, 0, 0, 0, 0, 0, 0, 0, 0, 0, 0, 0, 0, 0, 0, 0, 0]) 0 [some (vR 30 0)] [] (im, rsC 0 0, lm0)
  refine z_aload_n (t := 1) F dX9_init_0 rfl rfl rfl ?_
  refine z_objinit (t := 4) F dX9_init_1 ml_X9_7 (by decide) (by decide) rfl ?_
  refine z_aload_n (t := 5) F dX9_init_4 rfl rfl rfl ?_
  refine z_sipush (t := 8) F dX9_init_5 (by decide) rfl ?_
  refine z_newa (t := 10) (k := 31) (i := 0) (N := 960) F dX9_init_8 rfl (Or.inl ⟨rfl, rfl⟩) rfl (by omega) (by omega) (by omega) rfl (by decide) (ins_gl (L' := [1, 1, 6, 6, 6, 6, 1, 4, 4, 1, 1, 1, 1, 1, 1, 1, 1, 1, 3, 3, 3, 15, 15, 15, 0, 0, 0, 0, 0, 0, 1, 1, 0, 0, 0, 0, 0, 0, 0, 0, 0, 0, 0, 0, 0, 0, 0, 0, 0, 0, 0]) (by decide +kernel) (by decide +kernel)) (by simp only [okS, okL, okv, okq] <;> decide) (show okL _ [some (vR 30 0)] from (by simp only [okS, okL, okv, okq] <;> decide)) ⟨by decide, by decide⟩ rfl (fun ad1 hs1 => ?_)
  refine z_putr3 (x := 1) (t := 13) F dX9_init_10 rfl uX9 tyX9 tyX9_ok nmX9 fl_X9_13 (by decide) (by first | exact Or.inl rfl | exact Or.inr ⟨rfl, hini, rfl⟩) rfl (okq_of (by decide) (by decide)) (okq_of (by decide) (by decide)) rfl (by first | exact Or.inl ⟨_, rfl⟩ | exact Or.inr ⟨_, rfl⟩) rfl ?_
  refine z_aload_n (t := 14) F dX9_init_13 rfl rfl rfl ?_
  refine z_bipush (t := 16) F dX9_init_14 (by decide) rfl ?_
  refine z_newa (t := 18) (k := 32) (i := 0) (N := 6) F dX9_init_16 rfl (Or.inl ⟨rfl, rfl⟩) rfl (by omega) (by omega) (by omega) rfl (by decide) (ins_gl (L' := [1, 1, 6, 6, 6, 6, 1, 4, 4, 1, 1, 1, 1, 1, 1, 1, 1, 1, 3, 3, 3, 15, 15, 15, 0, 0, 0, 0, 0, 0, 1, 1, 1, 0, 0, 0, 0, 0, 0, 0, 0, 0, 0, 0, 0, 0, 0, 0, 0, 0, 0]) (by decide +kernel) (by decide +kernel)) (by simp only [okS, okL, okv, okq] <;> decide) (show okL _ [some (vR 30 0)] from (by simp only [okS, okL, okv, okq] <;> decide)) ⟨by decide, by decide⟩ rfl (fun ad2 hs2 => ?_)
  refine z_putr3 (x := 2) (t := 21) F dX9_init_18 rfl uX9 tyX9 tyX9_ok nmX9 fl_X9_17 (by decide) (by first | exact Or.inl rfl | exact Or.inr ⟨rfl, hini, rfl⟩) rfl (okq_of (by decide) (by decide)) (okq_of (by decide) (by decide)) rfl (by first | exact Or.inl ⟨_, rfl⟩ | exact Or.inr ⟨_, rfl⟩) rfl ?_
  refine z_aload_n (t := 22) F dX9_init_21 rfl rfl rfl ?_
  refine z_sipush (t := 25) F dX9_init_22 (by decide) rfl ?_
  refine z_newa (t := 27) (k := 33) (i := 0) (N := 160) F dX9_init_25 rfl (Or.inl ⟨rfl, rfl⟩) rfl (by omega) (by omega) (by omega) rfl (by decide) (ins_gl (L' := [1, 1, 6, 6, 6, 6, 1, 4, 4, 1, 1, 1, 1, 1, 1, 1, 1, 1, 3, 3, 3, 15, 15, 15, 0, 0, 0, 0, 0, 0, 1, 1, 1, 1, 0, 0, 0, 0, 0, 0, 0, 0, 0, 0, 0, 0, 0, 0, 0, 0, 0]) (by decide +kernel) (by decide +kernel)) (by simp only [okS, okL, okv, okq] <;> decide) (show okL _ [some (vR 30 0)] from (by simp only [okS, okL, okv, okq] <;> decide)) ⟨by decide, by decide⟩ rfl (fun ad3 hs3 => ?_)
  refine z_putr3 (x := 5) (t := 30) F dX9_init_27 rfl uX9 tyX9 tyX9_ok nmX9 fl_X9_20 (by decide) (by first | exact Or.inl rfl | exact Or.inr ⟨rfl, hini, rfl⟩) rfl (okq_of (by decide) (by decide)) (okq_of (by decide) (by decide)) rfl (by first | exact Or.inl ⟨_, rfl⟩ | exact Or.inr ⟨_, rfl⟩) rfl ?_
  refine z_aload_n (t := 31) F dX9_init_30 rfl rfl rfl ?_
  refine z_sipush (t := 34) F dX9_init_31 (by decide) rfl ?_
  refine z_puti3 (x := 8) (t := 37) F dX9_init_34 rfl uX9 tyX9 tyX9_ok nmX9 fl_X9_23 (by decide) rfl rfl (okq_of (by decide) (by decide)) rfl rfl rfl ?_
  refine z_aload_n (t := 38) F dX9_init_37 rfl rfl rfl ?_
  refine z_iconst (t := 39) F dX9_init_38 rfl ?_
  refine z_newa (t := 41) (k := 34) (i := 0) (N := 5) F dX9_init_39 rfl (Or.inl ⟨rfl, rfl⟩) rfl (by omega) (by omega) (by omega) rfl (by decide) (ins_gl (L' := [1, 1, 6, 6, 6, 6, 1, 4, 4, 1, 1, 1, 1, 1, 1, 1, 1, 1, 3, 3, 3, 15, 15, 15, 0, 0, 0, 0, 0, 0, 1, 1, 1, 1, 1, 0, 0, 0, 0, 0, 0, 0, 0, 0, 0, 0, 0, 0, 0, 0, 0]) (by decide +kernel) (by decide +kernel)) (by simp only [okS, okL, okv, okq] <;> decide) (show okL _ [some (vR 30 0)] from (by simp only [okS, okL, okv, okq] <;> decide)) ⟨by decide, by decide⟩ rfl (fun ad4 hs4 => ?_)
  refine z_putr3 (x := 10) (t := 44) F dX9_init_41 rfl uX9 tyX9 tyX9_ok nmX9 fl_X9_26 (by decide) (by first | exact Or.inl rfl | exact Or.inr ⟨rfl, hini, rfl⟩) rfl (okq_of (by decide) (by decide)) (okq_of (by decide) (by decide)) rfl (by first | exact Or.inl ⟨_, rfl⟩ | exact Or.inr ⟨_, rfl⟩) rfl ?_
  refine z_aload_n (t := 45) F dX9_init_44 rfl rfl rfl ?_
  refine z_iconst (t := 46) F dX9_init_45 rfl ?_
  refine z_newa (t := 48) (k := 35) (i := 0) (N := 5) F dX9_init_46 rfl (Or.inl ⟨rfl, rfl⟩) rfl (by omega) (by omega) (by omega) rfl (by decide) (ins_gl (L' := [1, 1, 6, 6, 6, 6, 1, 4, 4, 1, 1, 1, 1, 1, 1, 1, 1, 1, 3, 3, 3, 15, 15, 15, 0, 0, 0, 0, 0, 0, 1, 1, 1, 1, 1, 1, 0, 0, 0, 0, 0, 0, 0, 0, 0, 0, 0, 0, 0, 0, 0]) (by decide +kernel) (by decide +kernel)) (by simp only [okS, okL, okv, okq] <;> decide) (show okL _ [some (vR 30 0)] from (by simp only [okS, okL, okv, okq] <;> decide)) ⟨by decide, by decide⟩ rfl (fun ad5 hs5 => ?_)
  refine z_putr3 (x := 11) (t := 51) F dX9_init_48 rfl uX9 tyX9 tyX9_ok nmX9 fl_X9_29 (by decide) (by first | exact Or.inl rfl | exact Or.inr ⟨rfl, hini, rfl⟩) rfl (okq_of (by decide) (by decide)) (okq_of (by decide) (by decide)) rfl (by first | exact Or.inl ⟨_, rfl⟩ | exact Or.inr ⟨_, rfl⟩) rfl ?_
  refine z_aload_n (t := 52) F dX9_init_51 rfl rfl rfl ?_
  refine z_bipush (t := 54) F dX9_init_52 (by decide) rfl ?_
  refine z_newa (t := 56) (k := 36) (i := 0) (N := 50) F dX9_init_54 rfl (Or.inl ⟨rfl, rfl⟩) rfl (by omega) (by omega) (by omega) rfl (by decide) (ins_gl (L' := [1, 1, 6, 6, 6, 6, 1, 4, 4, 1, 1, 1, 1, 1, 1, 1, 1, 1, 3, 3, 3, 15, 15, 15, 0, 0, 0, 0, 0, 0, 1, 1, 1, 1, 1, 1, 1, 0, 0, 0, 0, 0, 0, 0, 0, 0, 0, 0, 0, 0, 0]) (by decide +kernel) (by decide +kernel)) (by simp only [okS, okL, okv, okq] <;> decide) (show okL _ [some (vR 30 0)] from (by simp only [okS, okL, okv, okq] <;> decide)) ⟨by decide, by decide⟩ rfl (fun ad6 hs6 => ?_)
  refine z_putr3 (x := 13) (t := 59) F dX9_init_56 rfl uX9 tyX9 tyX9_ok nmX9 fl_X9_32 (by decide) (by first | exact Or.inl rfl | exact Or.inr ⟨rfl, hini, rfl⟩) rfl (okq_of (by decide) (by decide)) (okq_of (by decide) (by decide)) rfl (by first | exact Or.inl ⟨_, rfl⟩ | exact Or.inr ⟨_, rfl⟩) rfl ?_
  refine z_aload_n (t := 60) F dX9_init_59 rfl rfl rfl ?_
  refine z_bipush (t := 62) F dX9_init_60 (by decide) rfl ?_
  refine z_newa (t := 64) (k := 37) (i := 0) (N := 50) F dX9_init_62 rfl (Or.inl ⟨rfl, rfl⟩) rfl (by omega) (by omega) (by omega) rfl (by decide) (ins_gl (L' := [1, 1, 6, 6, 6, 6, 1, 4, 4, 1, 1, 1, 1, 1, 1, 1, 1, 1, 3, 3, 3, 15, 15, 15, 0, 0, 0, 0, 0, 0, 1, 1, 1, 1, 1, 1, 1, 1, 0, 0, 0, 0, 0, 0, 0, 0, 0, 0, 0, 0, 0]) (by decide +kernel) (by decide +kernel)) (by simp only [okS, okL, okv, okq] <;> decide) (show okL _ [some (vR 30 0)] from (by simp only [okS, okL, okv, okq] <;> decide)) ⟨by decide, by decide⟩ rfl (fun ad7 hs7 => ?_)
  refine z_putr3 (x := 14) (t := 67) F dX9_init_64 rfl uX9 tyX9 tyX9_ok nmX9 fl_X9_35 (by decide) (by first | exact Or.inl rfl | exact Or.inr ⟨rfl, hini, rfl⟩) rfl (okq_of (by decide) (by decide)) (okq_of (by decide) (by decide)) rfl (by first | exact Or.inl ⟨_, rfl⟩ | exact Or.inr ⟨_, rfl⟩) rfl ?_
  refine z_aload_n (t := 68) F dX9_init_67 rfl rfl rfl ?_
  refine z_bipush (t := 70) F dX9_init_68 (by decide) rfl ?_
  refine z_newa (t := 72) (k := 38) (i := 0) (N := 50) F dX9_init_70 rfl (Or.inl ⟨rfl, rfl⟩) rfl (by omega) (by omega) (by omega) rfl (by decide) (ins_gl (L' := [1, 1, 6, 6, 6, 6, 1, 4, 4, 1, 1, 1, 1, 1, 1, 1, 1, 1, 3, 3, 3, 15, 15, 15, 0, 0, 0, 0, 0, 0, 1, 1, 1, 1, 1, 1, 1, 1, 1, 0, 0, 0, 0, 0, 0, 0, 0, 0, 0, 0, 0]) (by decide +kernel) (by decide +kernel)) (by simp only [okS, okL, okv, okq] <;> decide) (show okL _ [some (vR 30 0)] from (by simp only [okS, okL, okv, okq] <;> decide)) ⟨by decide, by decide⟩ rfl (fun ad8 hs8 => ?_)
  refine z_putr3 (x := 34) (t := 75) F dX9_init_72 rfl uX9 tyX9 tyX9_ok nmX9 fl_X9_38 (by decide) (by first | exact Or.inl rfl | exact Or.inr ⟨rfl, hini, rfl⟩) rfl (okq_of (by decide) (by decide)) (okq_of (by decide) (by decide)) rfl (by first | exact Or.inl ⟨_, rfl⟩ | exact Or.inr ⟨_, rfl⟩) rfl ?_
  refine z_aload_n (t := 76) F dX9_init_75 rfl rfl rfl ?_
  refine z_bipush (t := 78) F dX9_init_76 (by decide) rfl ?_
  refine z_newa (t := 80) (k := 39) (i := 0) (N := 50) F dX9_init_78 rfl (Or.inl ⟨rfl, rfl⟩) rfl (by omega) (by omega) (by omega) rfl (by decide) (ins_gl (L' := [1, 1, 6, 6, 6, 6, 1, 4, 4, 1, 1, 1, 1, 1, 1, 1, 1, 1, 3, 3, 3, 15, 15, 15, 0, 0, 0, 0, 0, 0, 1, 1, 1, 1, 1, 1, 1, 1, 1, 1, 0, 0, 0, 0, 0, 0, 0, 0, 0, 0, 0]) (by decide +kernel) (by decide +kernel)) (by simp only [okS, okL, okv, okq] <;> decide) (show okL _ [some (vR 30 0)] from (by simp only [okS, okL, okv, okq] <;> decide)) ⟨by decide, by decide⟩ rfl (fun ad9 hs9 => ?_)
  refine z_putr3 (x := 35) (t := 83) F dX9_init_80 rfl uX9 tyX9 tyX9_ok nmX9 fl_X9_41 (by decide) (by first | exact Or.inl rfl | exact Or.inr ⟨rfl, hini, rfl⟩) rfl (okq_of (by decide) (by decide)) (okq_of (by decide) (by decide)) rfl (by first | exact Or.inl ⟨_, rfl⟩ | exact Or.inr ⟨_, rfl⟩) rfl ?_
  refine z_aload_n (t := 84) F dX9_init_83 rfl rfl rfl ?_
  refine z_bipush (t := 86) F dX9_init_84 (by decide) rfl ?_
  refine z_newa (t := 88) (k := 40) (i := 0) (N := 50) F dX9_init_86 rfl (Or.inl ⟨rfl, rfl⟩) rfl (by omega) (by omega) (by omega) rfl (by decide) (ins_gl (L' := [1, 1, 6, 6, 6, 6, 1, 4, 4, 1, 1, 1, 1, 1, 1, 1, 1, 1, 3, 3, 3, 15, 15, 15, 0, 0, 0, 0, 0, 0, 1, 1, 1, 1, 1, 1, 1, 1, 1, 1, 1, 0, 0, 0, 0, 0, 0, 0, 0, 0, 0]) (by decide +kernel) (by decide +kernel)) (by simp only [okS, okL, okv, okq] <;> decide) (show okL _ [some (vR 30 0)] from (by simp only [okS, okL, okv, okq] <;> decide)) ⟨by decide, by decide⟩ rfl (fun ad10 hs10 => ?_)
  refine z_putr3 (x := 36) (t := 91) F dX9_init_88 rfl uX9 tyX9 tyX9_ok nmX9 fl_X9_44 (by decide) (by first | exact Or.inl rfl | exact Or.inr ⟨rfl, hini, rfl⟩) rfl (okq_of (by decide) (by decide)) (okq_of (by decide) (by decide)) rfl (by first | exact Or.inl ⟨_, rfl⟩ | exact Or.inr ⟨_, rfl⟩) rfl ?_
  refine z_aload_n (t := 92) F dX9_init_91 rfl rfl rfl ?_
  refine z_bipush (t := 94) F dX9_init_92 (by decide) rfl ?_
  refine z_newa (t := 96) (k := 41) (i := 0) (N := 50) F dX9_init_94 rfl (Or.inl ⟨rfl, rfl⟩) rfl (by omega) (by omega) (by omega) rfl (by decide) (ins_gl (L' := [1, 1, 6, 6, 6, 6, 1, 4, 4, 1, 1, 1, 1, 1, 1, 1, 1, 1, 3, 3, 3, 15, 15, 15, 0, 0, 0, 0, 0, 0, 1, 1, 1, 1, 1, 1, 1, 1, 1, 1, 1, 1, 0, 0, 0, 0, 0, 0, 0, 0, 0]) (by decide +kernel) (by decide +kernel)) (by simp only [okS, okL, okv, okq] <;> decide) (show okL _ [some (vR 30 0)] from (by simp only [okS, okL, okv, okq] <;> decide)) ⟨by decide, by decide⟩ rfl (fun ad11 hs11 => ?_)
  refine z_putr3 (x := 37) (t := 99) F dX9_init_96 rfl uX9 tyX9 tyX9_ok nmX9 fl_X9_47 (by decide) (by first | exact Or.inl rfl | exact Or.inr ⟨rfl, hini, rfl⟩) rfl (okq_of (by decide) (by decide)) (okq_of (by decide) (by decide)) rfl (by first | exact Or.inl ⟨_, rfl⟩ | exact Or.inr ⟨_, rfl⟩) rfl ?_
  refine z_aload_n (t := 100) F dX9_init_99 rfl rfl rfl ?_
  refine z_bipush (t := 102) F dX9_init_100 (by decide) rfl ?_
  refine z_newa (t := 104) (k := 42) (i := 0) (N := 50) F dX9_init_102 rfl (Or.inl ⟨rfl, rfl⟩) rfl (by omega) (by omega) (by omega) rfl (by decide) (ins_gl (L' := [1, 1, 6, 6, 6, 6, 1, 4, 4, 1, 1, 1, 1, 1, 1, 1, 1, 1, 3, 3, 3, 15, 15, 15, 0, 0, 0, 0, 0, 0, 1, 1, 1, 1, 1, 1, 1, 1, 1, 1, 1, 1, 1, 0, 0, 0, 0, 0, 0, 0, 0]) (by decide +kernel) (by decide +kernel)) (by simp only [okS, okL, okv, okq] <;> decide) (show okL _ [some (vR 30 0)] from (by simp only [okS, okL, okv, okq] <;> decide)) ⟨by decide, by decide⟩ rfl (fun ad12 hs12 => ?_)
  refine z_putr3 (x := 41) (t := 107) F dX9_init_104 rfl uX9 tyX9 tyX9_ok nmX9 fl_X9_50 (by decide) (by first | exact Or.inl rfl | exact Or.inr ⟨rfl, hini, rfl⟩) rfl (okq_of (by decide) (by decide)) (okq_of (by decide) (by decide)) rfl (by first | exact Or.inl ⟨_, rfl⟩ | exact Or.inr ⟨_, rfl⟩) rfl ?_
  refine z_aload_n (t := 108) F dX9_init_107 rfl rfl rfl ?_
  refine z_bipush (t := 110) F dX9_init_108 (by decide) rfl ?_
  refine z_newa (t := 112) (k := 43) (i := 0) (N := 50) F dX9_init_110 rfl (Or.inl ⟨rfl, rfl⟩) rfl (by omega) (by omega) (by omega) rfl (by decide) (ins_gl (L' := [1, 1, 6, 6, 6, 6, 1, 4, 4, 1, 1, 1, 1, 1, 1, 1, 1, 1, 3, 3, 3, 15, 15, 15, 0, 0, 0, 0, 0, 0, 1, 1, 1, 1, 1, 1, 1, 1, 1, 1, 1, 1, 1, 1, 0, 0, 0, 0, 0, 0, 0]) (by decide +kernel) (by decide +kernel)) (by simp only [okS, okL, okv, okq] <;> decide) (show okL _ [some (vR 30 0)] from (by simp only [okS, okL, okv, okq] <;> decide)) ⟨by decide, by decide⟩ rfl (fun ad13 hs13 => ?_)
  refine z_putr3 (x := 42) (t := 115) F dX9_init_112 rfl uX9 tyX9 tyX9_ok nmX9 fl_X9_53 (by decide) (by first | exact Or.inl rfl | exact Or.inr ⟨rfl, hini, rfl⟩) rfl (okq_of (by decide) (by decide)) (okq_of (by decide) (by decide)) rfl (by first | exact Or.inl ⟨_, rfl⟩ | exact Or.inr ⟨_, rfl⟩) rfl ?_
  refine z_aload_n (t := 116) F dX9_init_115 rfl rfl rfl ?_
  refine z_iconst (t := 117) F dX9_init_116 rfl ?_
  refine z_newa (t := 119) (k := 44) (i := 0) (N := 5) F dX9_init_117 rfl (Or.inl ⟨rfl, rfl⟩) rfl (by omega) (by omega) (by omega) rfl (by decide) (ins_gl (L' := [1, 1, 6, 6, 6, 6, 1, 4, 4, 1, 1, 1, 1, 1, 1, 1, 1, 1, 3, 3, 3, 15, 15, 15, 0, 0, 0, 0, 0, 0, 1, 1, 1, 1, 1, 1, 1, 1, 1, 1, 1, 1, 1, 1, 1, 0, 0, 0, 0, 0, 0]) (by decide +kernel) (by decide +kernel)) (by simp only [okS, okL, okv, okq] <;> decide) (show okL _ [some (vR 30 0)] from (by simp only [okS, okL, okv, okq] <;> decide)) ⟨by decide, by decide⟩ rfl (fun ad14 hs14 => ?_)
  refine z_putr3 (x := 43) (t := 122) F dX9_init_119 rfl uX9 tyX9 tyX9_ok nmX9 fl_X9_56 (by decide) (by first | exact Or.inl rfl | exact Or.inr ⟨rfl, hini, rfl⟩) rfl (okq_of (by decide) (by decide)) (okq_of (by decide) (by decide)) rfl (by first | exact Or.inl ⟨_, rfl⟩ | exact Or.inr ⟨_, rfl⟩) rfl ?_
  refine z_aload_n (t := 123) F dX9_init_122 rfl rfl rfl ?_
  refine z_bipush (t := 125) F dX9_init_123 (by decide) rfl ?_
  refine z_newa (t := 127) (k := 45) (i := 0) (N := 50) F dX9_init_125 rfl (Or.inl ⟨rfl, rfl⟩) rfl (by omega) (by omega) (by omega) rfl (by decide) (ins_gl (L' := [1, 1, 6, 6, 6, 6, 1, 4, 4, 1, 1, 1, 1, 1, 1, 1, 1, 1, 3, 3, 3, 15, 15, 15, 0, 0, 0, 0, 0, 0, 1, 1, 1, 1, 1, 1, 1, 1, 1, 1, 1, 1, 1, 1, 1, 1, 0, 0, 0, 0, 0]) (by decide +kernel) (by decide +kernel)) (by simp only [okS, okL, okv, okq] <;> decide) (show okL _ [some (vR 30 0)] from (by simp only [okS, okL, okv, okq] <;> decide)) ⟨by decide, by decide⟩ rfl (fun ad15 hs15 => ?_)
  refine z_putr3 (x := 44) (t := 130) F dX9_init_127 rfl uX9 tyX9 tyX9_ok nmX9 fl_X9_59 (by decide) (by first | exact Or.inl rfl | exact Or.inr ⟨rfl, hini, rfl⟩) rfl (okq_of (by decide) (by decide)) (okq_of (by decide) (by decide)) rfl (by first | exact Or.inl ⟨_, rfl⟩ | exact Or.inr ⟨_, rfl⟩) rfl ?_
  refine z_aload_n (t := 131) F dX9_init_130 rfl rfl rfl ?_
  refine z_bipush (t := 133) F dX9_init_131 (by decide) rfl ?_
  refine z_newa (t := 135) (k := 46) (i := 0) (N := 50) F dX9_init_133 rfl (Or.inl ⟨rfl, rfl⟩) rfl (by omega) (by omega) (by omega) rfl (by decide) (ins_gl (L' := [1, 1, 6, 6, 6, 6, 1, 4, 4, 1, 1, 1, 1, 1, 1, 1, 1, 1, 3, 3, 3, 15, 15, 15, 0, 0, 0, 0, 0, 0, 1, 1, 1, 1, 1, 1, 1, 1, 1, 1, 1, 1, 1, 1, 1, 1, 1, 0, 0, 0, 0]) (by decide +kernel) (by decide +kernel)) (by simp only [okS, okL, okv, okq] <;> decide) (show okL _ [some (vR 30 0)] from (by simp only [okS, okL, okv, okq] <;> decide)) ⟨by decide, by decide⟩ rfl (fun ad16 hs16 => ?_)
  refine z_putr3 (x := 45) (t := 138) F dX9_init_135 rfl uX9 tyX9 tyX9_ok nmX9 fl_X9_62 (by decide) (by first | exact Or.inl rfl | exact Or.inr ⟨rfl, hini, rfl⟩) rfl (okq_of (by decide) (by decide)) (okq_of (by decide) (by decide)) rfl (by first | exact Or.inl ⟨_, rfl⟩ | exact Or.inr ⟨_, rfl⟩) rfl ?_
  refine z_aload_n (t := 139) F dX9_init_138 rfl rfl rfl ?_
  refine z_iconst (t := 140) F dX9_init_139 rfl ?_
  refine z_puti3 (x := 46) (t := 143) F dX9_init_140 rfl uX9 tyX9 tyX9_ok nmX9 fl_X9_65 (by decide) rfl rfl (okq_of (by decide) (by decide)) rfl rfl rfl ?_
  refine z_aload_n (t := 144) F dX9_init_143 rfl rfl rfl ?_
  refine z_iconst (t := 145) F dX9_init_144 rfl ?_
  refine z_newa (t := 147) (k := 47) (i := 0) (N := 4) F dX9_init_145 rfl (Or.inr ⟨rfl, rfl⟩) rfl (by omega) (by omega) (by omega) rfl (by decide) (ins_gl (L' := [1, 1, 6, 6, 6, 6, 1, 4, 4, 1, 1, 1, 1, 1, 1, 1, 1, 1, 3, 3, 3, 15, 15, 15, 0, 0, 0, 0, 0, 0, 1, 1, 1, 1, 1, 1, 1, 1, 1, 1, 1, 1, 1, 1, 1, 1, 1, 1, 0, 0, 0]) (by decide +kernel) (by decide +kernel)) (by simp only [okS, okL, okv, okq] <;> decide) (show okL _ [some (vR 30 0)] from (by simp only [okS, okL, okv, okq] <;> decide)) ⟨by decide, by decide⟩ rfl (fun ad17 hs17 => ?_)
  refine z_putr3 (x := 51) (t := 150) F dX9_init_147 rfl uX9 tyX9 tyX9_ok nmX9 fl_X9_68 (by decide) (by first | exact Or.inl rfl | exact Or.inr ⟨rfl, hini, rfl⟩) rfl (okq_of (by decide) (by decide)) (okq_of (by decide) (by decide)) rfl (by first | exact Or.inl ⟨_, rfl⟩ | exact Or.inr ⟨_, rfl⟩) rfl ?_
  refine z_aload_n (t := 151) F dX9_init_150 rfl rfl rfl ?_
  refine z_iconst (t := 152) F dX9_init_151 rfl ?_
  refine z_newa (t := 154) (k := 48) (i := 0) (N := 4) F dX9_init_152 rfl (Or.inl ⟨rfl, rfl⟩) rfl (by omega) (by omega) (by omega) rfl (by decide) (ins_gl (L' := [1, 1, 6, 6, 6, 6, 1, 4, 4, 1, 1, 1, 1, 1, 1, 1, 1, 1, 3, 3, 3, 15, 15, 15, 0, 0, 0, 0, 0, 0, 1, 1, 1, 1, 1, 1, 1, 1, 1, 1, 1, 1, 1, 1, 1, 1, 1, 1, 1, 0, 0]) (by decide +kernel) (by decide +kernel)) (by simp only [okS, okL, okv, okq] <;> decide) (show okL _ [some (vR 30 0)] from (by simp only [okS, okL, okv, okq] <;> decide)) ⟨by decide, by decide⟩ rfl (fun ad18 hs18 => ?_)
  refine z_putr3 (x := 52) (t := 157) F dX9_init_154 rfl uX9 tyX9 tyX9_ok nmX9 fl_X9_72 (by decide) (by first | exact Or.inl rfl | exact Or.inr ⟨rfl, hini, rfl⟩) rfl (okq_of (by decide) (by decide)) (okq_of (by decide) (by decide)) rfl (by first | exact Or.inl ⟨_, rfl⟩ | exact Or.inr ⟨_, rfl⟩) rfl ?_
  refine z_aload_n (t := 158) F dX9_init_157 rfl rfl rfl ?_
  refine z_iconst (t := 159) F dX9_init_158 rfl ?_
  refine z_newa (t := 161) (k := 49) (i := 0) (N := 4) F dX9_init_159 rfl (Or.inl ⟨rfl, rfl⟩) rfl (by omega) (by omega) (by omega) rfl (by decide) (ins_gl (L' := [1, 1, 6, 6, 6, 6, 1, 4, 4, 1, 1, 1, 1, 1, 1, 1, 1, 1, 3, 3, 3, 15, 15, 15, 0, 0, 0, 0, 0, 0, 1, 1, 1, 1, 1, 1, 1, 1, 1, 1, 1, 1, 1, 1, 1, 1, 1, 1, 1, 1, 0]) (by decide +kernel) (by decide +kernel)) (by simp only [okS, okL, okv, okq] <;> decide) (show okL _ [some (vR 30 0)] from (by simp only [okS, okL, okv, okq] <;> decide)) ⟨by decide, by decide⟩ rfl (fun ad19 hs19 => ?_)
  refine z_putr3 (x := 53) (t := 164) F dX9_init_161 rfl uX9 tyX9 tyX9_ok nmX9 fl_X9_75 (by decide) (by first | exact Or.inl rfl | exact Or.inr ⟨rfl, hini, rfl⟩) rfl (okq_of (by decide) (by decide)) (okq_of (by decide) (by decide)) rfl (by first | exact Or.inl ⟨_, rfl⟩ | exact Or.inr ⟨_, rfl⟩) rfl ?_
  refine z_aload_n (t := 165) F dX9_init_164 rfl rfl rfl ?_
  refine z_sipush (t := 168) F dX9_init_165 (by decide) rfl ?_
  refine z_newa (t := 170) (k := 50) (i := 0) (N := 160) F dX9_init_168 rfl (Or.inl ⟨rfl, rfl⟩) rfl (by omega) (by omega) (by omega) rfl (by decide) (ins_gl (L' := [1, 1, 6, 6, 6, 6, 1, 4, 4, 1, 1, 1, 1, 1, 1, 1, 1, 1, 3, 3, 3, 15, 15, 15, 0, 0, 0, 0, 0, 0, 1, 1, 1, 1, 1, 1, 1, 1, 1, 1, 1, 1, 1, 1, 1, 1, 1, 1, 1, 1, 1]) (by decide +kernel) (by decide +kernel)) (by simp only [okS, okL, okv, okq] <;> decide) (show okL _ [some (vR 30 0)] from (by simp only [okS, okL, okv, okq] <;> decide)) ⟨by decide, by decide⟩ rfl (fun ad20 hs20 => ?_)
  refine z_putr3 (x := 54) (t := 173) F dX9_init_170 rfl uX9 tyX9 tyX9_ok nmX9 fl_X9_78 (by decide) (by first | exact Or.inl rfl | exact Or.inr ⟨rfl, hini, rfl⟩) rfl (okq_of (by decide) (by decide)) (okq_of (by decide) (by decide)) rfl (by first | exact Or.inl ⟨_, rfl⟩ | exact Or.inr ⟨_, rfl⟩) rfl ?_
  refine z_mem ((up (up im 30 0 8 1024) 30 0 46 (-1)), rs 0 0, lm0) (fun k i s hq hs => ?_) (fun hB => ?_) (okM_A _ _ 0) ?_
  · have hq := mem_idn.mp hq
    exact ⟨rfl, fun hr => (rR0_rs k hq.1 i hq.2 s hs hr).1, rfl⟩
  · intro k i hi hc s
    have h := hB k i hi hc s
    have hk : ¬ (k < 24 ∨ 30 ≤ k ∧ k < 51) := fun q => by
      have h9 : nA k ≤ i := hi
      have h8 := cap_A k (by omega) (by omega)
      omega
    exact ⟨h.1, rs_no (by omega) (by omega), rfl⟩
  exact x9_tail (up (up im 30 0 8 1024) 30 0 46 (-1)) F ⟨by decide, by decide⟩ (z_vret F dX9_init_317 rfl (by decide) (by decide) (sam_trans (sam_trans (sam_trans (sam_trans (sam_trans (sam_trans (sam_trans (sam_trans (sam_trans (sam_trans (sam_trans (sam_trans (sam_trans (sam_trans (sam_trans (sam_trans (sam_trans (sam_trans (sam_trans hs1 hs2 (fun q hq => by first | exact okq_gl (by decide +kernel) hq | (repeat (first | exact hq | apply ins_ok)))) hs3 (fun q hq => by first | exact okq_gl (by decide +kernel) hq | (repeat (first | exact hq | apply ins_ok)))) hs4 (fun q hq => by first | exact okq_gl (by decide +kernel) hq | (repeat (first | exact hq | apply ins_ok)))) hs5 (fun q hq => by first | exact okq_gl (by decide +kernel) hq | (repeat (first | exact hq | apply ins_ok)))) hs6 (fun q hq => by first | exact okq_gl (by decide +kernel) hq | (repeat (first | exact hq | apply ins_ok)))) hs7 (fun q hq => by first | exact okq_gl (by decide +kernel) hq | (repeat (first | exact hq | apply ins_ok)))) hs8 (fun q hq => by first | exact okq_gl (by decide +kernel) hq | (repeat (first | exact hq | apply ins_ok)))) hs9 (fun q hq => by first | exact okq_gl (by decide +kernel) hq | (repeat (first | exact hq | apply ins_ok)))) hs10 (fun q hq => by first | exact okq_gl (by decide +kernel) hq | (repeat (first | exact hq | apply ins_ok)))) hs11 (fun q hq => by first | exact okq_gl (by decide +kernel) hq | (repeat (first | exact hq | apply ins_ok)))) hs12 (fun q hq => by first | exact okq_gl (by decide +kernel) hq | (repeat (first | exact hq | apply ins_ok)))) hs13 (fun q hq => by first | exact okq_gl (by decide +kernel) hq | (repeat (first | exact hq | apply ins_ok)))) hs14 (fun q hq => by first | exact okq_gl (by decide +kernel) hq | (repeat (first | exact hq | apply ins_ok)))) hs15 (fun q hq => by first | exact okq_gl (by decide +kernel) hq | (repeat (first | exact hq | apply ins_ok)))) hs16 (fun q hq => by first | exact okq_gl (by decide +kernel) hq | (repeat (first | exact hq | apply ins_ok)))) hs17 (fun q hq => by first | exact okq_gl (by decide +kernel) hq | (repeat (first | exact hq | apply ins_ok)))) hs18 (fun q hq => by first | exact okq_gl (by decide +kernel) hq | (repeat (first | exact hq | apply ins_ok)))) hs19 (fun q hq => by first | exact okq_gl (by decide +kernel) hq | (repeat (first | exact hq | apply ins_ok)))) hs20 (fun q hq => by first | exact okq_gl (by decide +kernel) hq | (repeat (first | exact hq | apply ins_ok)))) ⟨_, rfl, him0, hRi, rfl⟩)
