/-! the class's constructor -/
def pC (k : Nat) : Bool := decide (k < 24)
def lm0 : IM := fun _ _ _ => 0
theorem imC0_k {k i s : Nat} (h : ¬ (k = 7 ∧ s = 1)) (h2 : ¬ (k = 18 ∧ s = 5)) : imC0 k i s = 0 := by
  unfold imC0
  simp only [up_app]
  repeat' split
  all_goals first | rfl | (exfalso; omega)
theorem sideC {n : Nat → Nat} (h : ∀ k, k < 24 → n k = nC k) : sideOk n pC idsC := by
  refine ⟨fun q hq => ?_, fun q hq hp => ?_, fun k hk => ?_, ndC⟩
  · have h1 := ids_C1 q hq
    have h2 : q.1 < 24 := of_decide_eq_true h1.2
    exact ⟨⟨h1.1.1, by rw [h q.1 h2]; exact h1.1.2⟩, h1.2⟩
  · have h2 : q.1 < 24 := of_decide_eq_true hp
    have h3 := hq.2
    rw [h q.1 h2] at h3
    exact ids_C2 q.1 h2 q.2 h3
  · have h2 : k < 24 := of_decide_eq_true hk
    rw [h k h2]
    exact cap_C k h2
theorem rsC_rs {bt rt k i s : Nat} (h : k < 24) : rsC bt rt k i s = rs bt rt k i s := if_pos h
theorem agI_C (im : IM) (bt rt : Nat) (lm : IM) : agI idsC (im, rs bt rt, lm) (im, rsC bt rt, lm) := fun k i s hq _ => ⟨rfl, fun _ => (rsC_rs (of_decide_eq_true (ids_C1 (k, i) hq).2)).symm, rfl⟩
theorem mix_C {im im' : IM} {bt rt bt' rt' : Nat} {lm : IM} (h : ∀ k i s, 24 ≤ k → im' k i s = im k i s) : mixk pC (im', rs bt' rt', lm) (im, rsC bt rt, lm) = (im', rsC bt' rt', lm) := by
  unfold mixk pC rsC
  refine Prod.ext ?_ (Prod.ext ?_ ?_)
  · funext k i s
    show (if decide (k < 24) = true then im' k i s else im k i s) = im' k i s
    split
    · rfl
    · rename_i hk
      exact (h k i s (by simpa using hk)).symm
  · funext k i s
    show (if decide (k < 24) = true then rs bt' rt' k i s else if k < 24 then rs bt rt k i s else none) = if k < 24 then rs bt' rt' k i s else none
    by_cases hk : k < 24
    · rw [if_pos (decide_eq_true hk), if_pos hk]
    · rw [if_neg (by simpa using hk), if_neg hk, if_neg hk]
  · funext k i s
    show (if decide (k < 24) = true then lm k i s else lm k i s) = lm k i s
    split <;> rfl
/-- any references of the class are in order -/
theorem rs_okC {n : Nat → Nat} (h : ∀ k, k < 24 → n k = nC k) {bt rt : Nat} (hbt : bt < 6) (hrt : rt < 6) {k i s : Nat} {q : Nat × Nat} (hk : k < 24) (hi : i < nC k) (hs : s < siz k) (hr : rdr k s = true) (hq : rs bt rt k i s = some q) : okq n q := by
  have h00 : rs 0 0 k i s = some q ∨ q = (2, bt) ∨ q = (2, rt) := by
    by_cases h14 : k = 14 ∧ s = 7
    · obtain ⟨rfl, rfl⟩ := h14
      have hi0 : i = 0 := by have : nC 14 = 1 := rfl; omega
      subst hi0
      have hq : some (2, rt) = some q := hq
      exact Or.inr (Or.inr (Option.some.inj hq).symm)
    · by_cases h16 : k = 16 ∧ s = 1
      · obtain ⟨rfl, rfl⟩ := h16
        have hi0 : i = 0 := by have : nC 16 = 1 := rfl; omega
        subst hi0
        have hq : some (2, bt) = some q := hq
        exact Or.inr (Or.inl (Option.some.inj hq).symm)
      · left
        rw [← hq]
        unfold rs
        split <;> try rfl
        · split <;> try rfl
          exact absurd ⟨rfl, rfl⟩ h14
        · split <;> try rfl
          exact absurd ⟨rfl, rfl⟩ h16
  have h2 : nC 2 = 6 := rfl
  have hx : okq nC q := by
    rcases h00 with h0 | rfl | rfl
    · exact (rC0_rs k (by omega) i hi s hs hr).2 q ((rsC_rs hk).trans h0)
    · exact ⟨by omega, by show bt < nC 2; omega⟩
    · exact ⟨by omega, by show rt < nC 2; omega⟩
  refine ⟨hx.1, ?_⟩
  by_cases hk : q.1 < 24
  · rw [h q.1 hk]; exact hx.2
  · have := nC_0 q.1 hx.1 (by omega)
    have := hx.2
    omega
theorem okM_C {n : Nat → Nat} (h : ∀ k, k < 24 → n k = nC k) (h2 : ∀ k, k < 64 → 24 ≤ k → n k = 0) {im : IM} {bt rt : Nat} {lm : IM} (hbt : bt < 6) (hrt : rt < 6) : okM n (im, rs bt rt, lm) := by
  intro k i s q hk hs hr hq
  by_cases hk2 : k < 24
  · exact rs_okC h hbt hrt hk2 (by have := hk.2; rw [← h k hk2]; exact this) hs hr hq
  · have h3 : i < n k := hk.2
    rw [h2 k hk.1 (by omega)] at h3
    omega
/-- the letters so far -/
def imF (j : Nat) : IM := fun k i s => if k = 15 ∧ i = 0 then (if s < j then letS 12 s else 0) else if k = 14 ∧ i = 0 ∧ s = 1 then (j : Int) else imC0 k i s
theorem imF_0 : imF 0 = imC0 := by
  funext k i s
  unfold imF
  split
  · rename_i h
    rw [if_neg (by omega), h.1]
    exact (imC0_k (by omega) (by omega)).symm
  split
  · rename_i h
    rw [h.1]
    exact (imC0_k (by omega) (by omega)).symm
  · rfl
theorem let12 {j : Nat} (h : j < 46) : 0 ≤ letS 12 j ∧ letS 12 j < 128 := let_in (i := 12) (by omega) h
theorem imC0_ri : RI imC0 := by
  unfold imC0
  repeat (first | refine RI_up ?_ (by constructor <;> omega))
  intro k i s
  exact ⟨by show (-2147483648 : Int) ≤ 0; omega, by show (0 : Int) < 2147483648; omega⟩
theorem imF_ri {j : Nat} (h : j ≤ 46) : RI (imF j) := by
  intro k i s
  unfold imF
  split
  · split
    · have := let12 (j := s) (by omega)
      exact ⟨by omega, by omega⟩
    · exact ri0
  split
  · exact ⟨by omega, by omega⟩
  · exact imC0_ri k i s
theorem imF_n (j : Nat) : imF j 14 0 1 = j := by
  unfold imF
  rw [if_neg (by omega), if_pos ⟨rfl, rfl, rfl⟩]
theorem imF_s {j : Nat} (h : j < 46) : (if imF j 14 0 1 < 160 then up (up (imF j) 15 0 (imF j 14 0 1).toNat (letS 12 j)) 14 0 1 (imF j 14 0 1 + 1) else imF j) = imF (j + 1) := by
  rw [imF_n, if_pos (by omega), Int.toNat_natCast]
  funext k i s
  simp only [up_app]
  unfold imF
  by_cases h1 : k = 14 ∧ i = 0 ∧ s = 1
  · rw [if_pos h1, if_neg (by omega), if_pos h1]; omega
  · rw [if_neg h1, if_neg h1]
    by_cases h2 : k = 15 ∧ i = 0
    · rw [if_pos h2, if_pos h2]
      by_cases h3 : s = j
      · rw [if_pos ⟨h2.1, h2.2, h3⟩, if_pos (by omega), h3]
      · rw [if_neg (fun z => h3 z.2.2)]
        by_cases h4 : s < j
        · rw [if_pos h4, if_pos (by omega)]
        · rw [if_neg h4, if_neg (by omega)]
    · rw [if_neg h2, if_neg (fun z => h2 ⟨z.1, z.2.1⟩), if_neg h2, if_neg h1]
/-- the class as it begins -/
def SC0 (im : IM) : Prop := RI im ∧ (∀ k i s, k ≠ 14 → k ≠ 15 → ¬ (k = 2 ∧ i = 0 ∧ s = 3) → ¬ (k = 3 ∧ i = 0) → ¬ (k = 4 ∧ i = 0) → ¬ (k = 0 ∧ i = 0 ∧ s = 8) → im k i s = imC0 k i s) ∧ im 0 0 8 = 1 ∧ im 14 0 1 = 0 ∧ TX b46 46 0 im ∧ im 15 0 = b46

theorem x8_tail {M : MS} {G : GS} {A0 : Nat → Prop} {Q : State → Prop} {c s : Nat} {ad : Ads} (F : Fg M G A0 Y_X8_init) (hcs : c ≤ 97 ∧ s ≤ 3121) (x1 : Option SV) (K : ∀ im', SC0 im' → Wg M G A0 Y_X8_init (rmi 48 97 3121) Q c s ad nC 214 [some (vR 0 0), some (vI 46)] [] (im', rsC 0 0, lm0)) : Wg M G A0 Y_X8_init (rmi 48 97 3121) Q c s ad nC 164 [some (vR 0 0), x1] [] (imF 0, rsC 0 0, lm0) := by
  refine z_less 1 ?_
  refine z_iconst (t := 165) F dX8_init_164 rfl ?_
  refine z_istore_n (t := 166) F dX8_init_165 rfl (by decide) rfl rfl ?_
  have hsd : sideOk nC pC idsC := sideC (fun _ _ => rfl)
  have hpo : ∀ (im' : IM) (bt rt : Nat) (lm' : IM), bt < 6 → rt < 6 → okM nC (im', rs bt rt, lm') := fun im' bt rt lm' h1 h2 => okM_C (fun _ _ => rfl) nC_0 h1 h2
  have LOOP : ∀ (fz j : Nat), 46 - j < fz → j ≤ 46 → Wg M G A0 Y_X8_init (rmi 48 97 3121) Q c s ad nC 166 [some (vR 0 0), some (vI (j : Int))] [] (imF j, rsC 0 0, lm0) := by
    intro fz
    induction fz with
    | zero => intro j h; exact absurd h (Nat.not_lt_zero _)
    | succ fz ih =>
      intro j hm hj
      have hri := imF_ri hj
      refine z_iload_n (t := 167) F dX8_init_166 rfl rfl rfl ?_
      refine z_ldcS (t := 169) 12 F dX8_init_167 refS_12 rfl ?_
      refine z_callK (t := 172) [] F (by omega) rfl dX8_init_169 k_J0_length_8abf5 v_J0_length_8abf5 ml_X8_63 rfl rfl (Nat.le_of_ble_eq_true rfl) (by decide) (by decide) hcs hsd (agI_C _ 0 0 _) (c_J0_length_8abf5 _ G _ 12 (by omega)) (fun r m' hp => ?_) rfl (fun r m' hp => ?_)
      · obtain ⟨x, -, -, rfl⟩ := hp
        exact hpo _ _ _ _ (by omega) (by omega)
      obtain ⟨x, rfl, rfl, rfl⟩ := hp
      rw [mix_C (fun _ _ _ _ => rfl)]
      refine z_icmp_ge (t := 175) (u := 195) F dX8_init_172 (by constructor <;> omega) (by constructor <;> decide) (by decide) rfl (fun c => ?_) (fun c => ?_)
      · obtain rfl : j = 46 := by have : ((lenS.getD 12 0 : Nat) : Int) = 46 := rfl; omega
        refine z_aload_n (t := 196) F dX8_init_195 rfl rfl rfl ?_
        refine z_getr3 (x := 3) (k' := 14) (i' := 0) (t := 199) F dX8_init_196 rfl uX8 fl_X8_35 (by decide) rfl (okq_of (by decide) (by decide)) rfl rfl rfl ?_
        refine z_aload_n (t := 200) F dX8_init_199 rfl rfl rfl ?_
        refine z_getr3 (x := 0) (k' := 1) (i' := 0) (t := 203) F dX8_init_200 rfl uX8 fl_X8_11 (by decide) rfl (okq_of (by decide) (by decide)) rfl rfl rfl ?_
        refine z_iconst (t := 204) F dX8_init_203 rfl ?_
        refine z_aald3 (k' := 2) (i' := 0) (t := 205) F dX8_init_204 rfl (by decide) (by decide) (by decide) (okq_of (by decide) (by decide)) (by decide) (by decide) rfl rfl ?_
        have hb : imF 46 15 0 = b46 := by
          funext s
          unfold imF b46
          rw [if_pos ⟨rfl, rfl⟩]
        have hby : byt b46 46 := ⟨by omega, fun s _ => by
          unfold b46
          split
          · have := let12 (j := s) (by omega)
            omega
          · omega⟩
        refine z_callV (t := 208) [vR 2 0] F dX8_init_205 k_X4_read v_X4_read ml_X8_77 rfl rfl rfl rfl (Nat.le_of_ble_eq_true rfl) (by decide) (by decide) hcs (okq_of (by decide) (by decide)) hsd (agI_C _ 0 0 _) (c_X4_read _ G (imF 46) 0 0 0 lm0 (by omega) b46 46 hby hri hb (imF_n 46)) (fun r m' hp => ?_) rfl (fun r m' hp => ?_)
        · obtain ⟨x, -, im', -, -, -, -, -, rfl⟩ := hp
          exact hpo _ _ _ _ (by omega) (by omega)
        obtain ⟨x, rfl, im', -, hR', hag, h141, hTX, rfl⟩ := hp
        rw [mix_C (fun k i s hk => hag k i s (by omega) (by omega) (by omega) (by omega))]
        refine z_popI (t := 209) F dX8_init_208 rfl ?_
        refine z_aload_n (t := 210) F dX8_init_209 rfl rfl rfl ?_
        refine z_iconst (t := 211) F dX8_init_210 rfl ?_
        refine z_puti3 (x := 8) (t := 214) F dX8_init_211 rfl uX8 tyX8 tyX8_ok nmX8 fl_X8_81 (by decide) rfl rfl (okq_of (by decide) (by decide)) rfl rfl rfl ?_
        have hT := hTX (rd_first fst46).1
        refine K _ ⟨RI_up hR' (by constructor <;> omega), fun k i s q1 q2 q3 q4 q5 q6 => ?_, ?_, ?_, ⟨fun k hk => ?_, fun s hs => ?_⟩, ?_⟩
        · rw [up_app, if_neg q6, hag k i s q1 q3 q4 q5]
          unfold imF
          rw [if_neg (fun z => q2 z.1), if_neg (fun z => q1 z.1)]
        · rw [up_app, if_pos ⟨rfl, rfl, rfl⟩]
        · rw [up_app, if_neg (by omega)]; exact h141
        · rw [up_app, if_neg (by omega)]; exact hT.1 k hk
        · rw [up_app, if_neg (by omega)]; exact hT.2 s hs
        · funext s
          rw [up_app, if_neg (by omega), hag 15 0 s (by omega) (by omega) (by omega) (by omega)]
          exact congrFun hb s
      · have hj2 : j < 46 := by have : ((lenS.getD 12 0 : Nat) : Int) = 46 := rfl; omega
        refine z_aload_n (t := 176) F dX8_init_175 rfl rfl rfl ?_
        refine z_getr3 (x := 3) (k' := 14) (i' := 0) (t := 179) F dX8_init_176 rfl uX8 fl_X8_35 (by decide) rfl (okq_of (by decide) (by decide)) rfl rfl rfl ?_
        refine z_ldcS (t := 181) 12 F dX8_init_179 refS_12 rfl ?_
        refine z_iload_n (t := 182) F dX8_init_181 rfl rfl rfl ?_
        refine z_callK (t := 185) [vI (j : Int)] F (by omega) rfl dX8_init_182 k_J0_charAt_5068e v_J0_charAt_5068e ml_X8_69 rfl rfl (Nat.le_of_ble_eq_true rfl) (by decide) (by decide) hcs hsd (agI_C _ 0 0 _) (c_J0_charAt_5068e _ G _ 12 j (by omega) hj2) (fun r m' hp => ?_) rfl (fun r m' hp => ?_)
        · obtain ⟨x, -, -, rfl⟩ := hp
          exact hpo _ _ _ _ (by omega) (by omega)
        obtain ⟨x, rfl, rfl, rfl⟩ := hp
        rw [mix_C (fun _ _ _ _ => rfl)]
        refine z_callV (t := 188) [vI (letS 12 j)] F dX8_init_185 k_X4_put v_X4_put ml_X8_73 rfl rfl rfl rfl (Nat.le_of_ble_eq_true rfl) (by decide) (by decide) hcs (okq_of (by decide) (by decide)) hsd (agI_C _ 0 0 _) (c_X4_put _ G (imF j) 0 0 lm0 hri (by rw [imF_n]; omega) (by rw [imF_n]; omega) (letS 12 j)) (fun r m' hp => ?_) rfl (fun r m' hp => ?_)
        · obtain ⟨x, -, -, rfl⟩ := hp
          exact hpo _ _ _ _ (by omega) (by omega)
        obtain ⟨x, hr0, -, hm0⟩ := hp
        subst hr0
        rw [imF_s hj2] at hm0
        subst hm0
        rw [mix_C (fun k i s hk => by
          unfold imF
          rw [if_neg (by omega), if_neg (by omega), if_neg (by omega), if_neg (by omega)])]
        refine z_popI (t := 189) F dX8_init_188 rfl ?_
        refine z_iinc2 (z := ((j + 1 : Nat) : Int)) (t := 192) F dX8_init_189 rfl (by decide) rfl (by omega) rfl ?_
        refine z_goto (t := 166) F dX8_init_192 (by decide) ?_
        exact ih (j + 1) (by omega) (by omega)
  
  exact LOOP 47 0 (by omega) (by omega)

set_option maxHeartbeats 4000000 in
set_option maxRecDepth 20000 in
theorem ci_X8 (l : Launch) (G : GS)  : Ci l G yX8_init Y_X8_init 97 3121 [vR 0 0] (gl [1, 0, 0, 0, 0, 0, 0, 0, 0, 0, 0, 0, 0, 0, 0, 0, 0, 0, 0, 0, 0, 0, 0, 0, 0, 0, 0, 0, 0, 0, 0, 0, 0, 0, 0, 0, 0, 0, 0, 0, 0, 0, 0, 0, 0, 0, 0, 0, 0, 0, 0]) (fun _ _ _ => 0, fun _ _ _ => none, fun _ _ _ => 0) (nC) (fun m' => ∃ im', m' = (im', rsC 0 0, lm0) ∧ SC0 im') := by
  refine ci_of (by decide) rfl rfl rfl (Nat.le_of_ble_eq_true rfl) ?_
  intro M ad hMl F hini
  subst hMl
  refine z_pad 1 ?_
  show Wg M G _ Y_X8_init _ _ 0 0 ad (gl [1, 0, 0, 0, 0, 0, 0, 0, 0, 0, 0, 0, 0, 0, 0, 0, 0, 0, 0, 0, 0, 0, 0, 0, 0, 0, 0, 0, 0, 0, 0, 0, 0, 0, 0, 0, 0, 0, 0, 0, 0, 0, 0, 0, 0, 0, 0, 0, 0, 0, 0]) 0 [some (vR 0 0), none] [] (fun _ _ _ => 0, fun _ _ _ => none, fun _ _ _ => 0)
  refine z_aload_n (t := 1) F dX8_init_0 rfl rfl rfl ?_
  refine z_objinit (t := 4) F dX8_init_1 ml_X8_1 (by decide) (by decide) rfl ?_
  refine z_aload_n (t := 5) F dX8_init_4 rfl rfl rfl ?_
  refine z_bipush (t := 7) F dX8_init_5 (by decide) rfl ?_
  refine z_newq (t := 10) (k := 1) (i := 0) (N := 6) F dX8_init_7 rfl (by omega) (by omega) rfl cl_X8_9 F.2.2.2.2.2.2.2.1.1 rfl (by omega) (by omega) (by omega) rfl (by decide) (ins_gl (L' := [1, 1, 0, 0, 0, 0, 0, 0, 0, 0, 0, 0, 0, 0, 0, 0, 0, 0, 0, 0, 0, 0, 0, 0, 0, 0, 0, 0, 0, 0, 0, 0, 0, 0, 0, 0, 0, 0, 0, 0, 0, 0, 0, 0, 0, 0, 0, 0, 0, 0, 0]) (by decide +kernel) (by decide +kernel)) (by simp only [okS, okL, okv, okq] <;> decide) (show okL _ [some (vR 0 0), none] from (by simp only [okS, okL, okv, okq] <;> decide)) ⟨by decide, by decide⟩ rfl (fun ad1 hs1 => ?_)
  refine z_putr3 (x := 0) (t := 13) F dX8_init_10 rfl uX8 tyX8 tyX8_ok nmX8 fl_X8_11 (by decide) (by first | exact Or.inl rfl | exact Or.inr ⟨rfl, hini, rfl⟩) rfl (okq_of (by decide) (by decide)) (okq_of (by decide) (by decide)) rfl (by first | exact Or.inl ⟨_, rfl⟩ | exact Or.inr ⟨_, rfl⟩) rfl ?_
  refine z_aload_n (t := 14) F dX8_init_13 rfl rfl rfl ?_
  refine z_iconst (t := 15) F dX8_init_14 rfl ?_
  refine z_newq (t := 18) (k := 6) (i := 0) (N := 4) F dX8_init_15 rfl (by omega) (by omega) rfl cl_X8_15 F.2.2.2.2.2.2.2.1.2.1 rfl (by omega) (by omega) (by omega) rfl (by decide) (ins_gl (L' := [1, 1, 0, 0, 0, 0, 1, 0, 0, 0, 0, 0, 0, 0, 0, 0, 0, 0, 0, 0, 0, 0, 0, 0, 0, 0, 0, 0, 0, 0, 0, 0, 0, 0, 0, 0, 0, 0, 0, 0, 0, 0, 0, 0, 0, 0, 0, 0, 0, 0, 0]) (by decide +kernel) (by decide +kernel)) (by simp only [okS, okL, okv, okq] <;> decide) (show okL _ [some (vR 0 0), none] from (by simp only [okS, okL, okv, okq] <;> decide)) ⟨by decide, by decide⟩ rfl (fun ad2 hs2 => ?_)
  refine z_putr3 (x := 1) (t := 21) F dX8_init_18 rfl uX8 tyX8 tyX8_ok nmX8 fl_X8_17 (by decide) (by first | exact Or.inl rfl | exact Or.inr ⟨rfl, hini, rfl⟩) rfl (okq_of (by decide) (by decide)) (okq_of (by decide) (by decide)) rfl (by first | exact Or.inl ⟨_, rfl⟩ | exact Or.inr ⟨_, rfl⟩) rfl ?_
  refine z_aload_n (t := 22) F dX8_init_21 rfl rfl rfl ?_
  refine z_new (t := 25) (k := 9) (i := 0) F dX8_init_22 rfl uX1 tyX1 tyX1_ok cl_X8_21 is_X1 in_X1 rfl (by omega) rfl (by decide) df_X1 (ins_gl (L' := [1, 1, 0, 0, 0, 0, 1, 0, 0, 1, 0, 0, 0, 0, 0, 0, 0, 0, 0, 0, 0, 0, 0, 0, 0, 0, 0, 0, 0, 0, 0, 0, 0, 0, 0, 0, 0, 0, 0, 0, 0, 0, 0, 0, 0, 0, 0, 0, 0, 0, 0]) (by decide +kernel) (by decide +kernel)) (by simp only [okS, okL, okv, okq] <;> decide) (show okL _ [some (vR 0 0), none] from (by simp only [okS, okL, okv, okq] <;> decide)) ⟨by decide, by decide⟩ rfl (fun ad3 hs3 => ?_)
  refine z_dupR (t := 26) F dX8_init_25 rfl ?_
  refine z_callI (t := 29) [] F dX8_init_26 k_X1_init rfl im_X1_init rfl (Or.inr ⟨_, mn_X8_23⟩) rfl rfl (Nat.le_of_ble_eq_true rfl) (by decide) (by decide) ⟨by decide, by decide⟩ (by simp only [okS, okL, okv, okq] <;> decide) (show okL _ [some (vR 0 0), none] from (by simp only [okS, okL, okv, okq] <;> decide)) (ci_X1 _ G _ _ _ _ (by decide) (by decide) (by decide) (by decide) (by decide)) rfl (fun ad4 m4 hs4 hm4 => ?_)
  subst hm4
  rw [show ins (ins (ins (ins (gl [1, 1, 0, 0, 0, 0, 1, 0, 0, 1, 0, 0, 0, 0, 0, 0, 0, 0, 0, 0, 0, 0, 0, 0, 0, 0, 0, 0, 0, 0, 0, 0, 0, 0, 0, 0, 0, 0, 0, 0, 0, 0, 0, 0, 0, 0, 0, 0, 0, 0, 0]) 10) 11) 12) 13 = gl [1, 1, 0, 0, 0, 0, 1, 0, 0, 1, 1, 1, 1, 1, 0, 0, 0, 0, 0, 0, 0, 0, 0, 0, 0, 0, 0, 0, 0, 0, 0, 0, 0, 0, 0, 0, 0, 0, 0, 0, 0, 0, 0, 0, 0, 0, 0, 0, 0, 0, 0] from by rw [ins_gl (L' := [1, 1, 0, 0, 0, 0, 1, 0, 0, 1, 1, 0, 0, 0, 0, 0, 0, 0, 0, 0, 0, 0, 0, 0, 0, 0, 0, 0, 0, 0, 0, 0, 0, 0, 0, 0, 0, 0, 0, 0, 0, 0, 0, 0, 0, 0, 0, 0, 0, 0, 0]) (by decide +kernel) (by decide +kernel), ins_gl (L' := [1, 1, 0, 0, 0, 0, 1, 0, 0, 1, 1, 1, 0, 0, 0, 0, 0, 0, 0, 0, 0, 0, 0, 0, 0, 0, 0, 0, 0, 0, 0, 0, 0, 0, 0, 0, 0, 0, 0, 0, 0, 0, 0, 0, 0, 0, 0, 0, 0, 0, 0]) (by decide +kernel) (by decide +kernel), ins_gl (L' := [1, 1, 0, 0, 0, 0, 1, 0, 0, 1, 1, 1, 1, 0, 0, 0, 0, 0, 0, 0, 0, 0, 0, 0, 0, 0, 0, 0, 0, 0, 0, 0, 0, 0, 0, 0, 0, 0, 0, 0, 0, 0, 0, 0, 0, 0, 0, 0, 0, 0, 0]) (by decide +kernel) (by decide +kernel), ins_gl (L' := [1, 1, 0, 0, 0, 0, 1, 0, 0, 1, 1, 1, 1, 1, 0, 0, 0, 0, 0, 0, 0, 0, 0, 0, 0, 0, 0, 0, 0, 0, 0, 0, 0, 0, 0, 0, 0, 0, 0, 0, 0, 0, 0, 0, 0, 0, 0, 0, 0, 0, 0]) (by decide +kernel) (by decide +kernel)]]
  refine z_putr3 (x := 2) (t := 32) F dX8_init_29 rfl uX8 tyX8 tyX8_ok nmX8 fl_X8_24 (by decide) (by first | exact Or.inl rfl | exact Or.inr ⟨rfl, hini, rfl⟩) rfl (okq_of (by decide) (by decide)) (okq_of (by decide) (by decide)) rfl (by first | exact Or.inl ⟨_, rfl⟩ | exact Or.inr ⟨_, rfl⟩) rfl ?_
  refine z_iconst (t := 33) F dX8_init_32 rfl ?_
  refine z_istore_n (j := 1) (t := 34) F dX8_init_33 rfl (by decide) rfl rfl ?_
  refine z_iload_n (t := 35) F dX8_init_34 rfl rfl rfl ?_
  refine z_bipush (t := 37) F dX8_init_35 (by decide) rfl ?_
  refine z_icmp_ge (u := 59) (t := 40) F dX8_init_37 (by constructor <;> omega) (by constructor <;> omega) (by decide) rfl (fun c0 => absurd c0 (by decide)) (fun _ => ?_)
  refine z_aload_n (t := 41) F dX8_init_40 rfl rfl rfl ?_
  refine z_getr3 (x := 0) (k' := 1) (i' := 0) (t := 44) F dX8_init_41 rfl uX8 fl_X8_11 (by decide) rfl (okq_of (by decide) (by decide)) rfl (by decide +kernel) rfl ?_
  refine z_iload_n (t := 45) F dX8_init_44 rfl rfl rfl ?_
  refine z_new (t := 48) (k := 2) (i := 0) F dX8_init_45 rfl uX6 tyX6 tyX6_ok cl_X8_9 is_X6 in_X6 rfl (by omega) rfl (by decide) df_X6 (ins_gl (L' := [1, 1, 1, 0, 0, 0, 1, 0, 0, 1, 1, 1, 1, 1, 0, 0, 0, 0, 0, 0, 0, 0, 0, 0, 0, 0, 0, 0, 0, 0, 0, 0, 0, 0, 0, 0, 0, 0, 0, 0, 0, 0, 0, 0, 0, 0, 0, 0, 0, 0, 0]) (by decide +kernel) (by decide +kernel)) (by simp only [okS, okL, okv, okq] <;> decide) (show okL _ [some (vR 0 0), some (vI 0)] from (by simp only [okS, okL, okv, okq] <;> decide)) ⟨by decide, by decide⟩ rfl (fun ad5 hs5 => ?_)
  refine z_dupR (t := 49) F dX8_init_48 rfl ?_
  refine z_callI (t := 52) [] F dX8_init_49 k_X6_init rfl im_X6_init rfl (Or.inr ⟨_, mn_X8_28⟩) rfl rfl (Nat.le_of_ble_eq_true rfl) (by decide) (by decide) ⟨by decide, by decide⟩ (by simp only [okS, okL, okv, okq] <;> decide) (show okL _ [some (vR 0 0), some (vI 0)] from (by simp only [okS, okL, okv, okq] <;> decide)) (ci_X6 _ G _ _ _ _ (0) (by decide) (by decide) (by decide) (by decide) (by decide)) rfl (fun ad6 m6 hs6 hm6 => ?_)
  subst hm6
  rw [show ins (ins (ins (gl [1, 1, 1, 0, 0, 0, 1, 0, 0, 1, 1, 1, 1, 1, 0, 0, 0, 0, 0, 0, 0, 0, 0, 0, 0, 0, 0, 0, 0, 0, 0, 0, 0, 0, 0, 0, 0, 0, 0, 0, 0, 0, 0, 0, 0, 0, 0, 0, 0, 0, 0]) 3) 4) 5 = gl [1, 1, 1, 1, 1, 1, 1, 0, 0, 1, 1, 1, 1, 1, 0, 0, 0, 0, 0, 0, 0, 0, 0, 0, 0, 0, 0, 0, 0, 0, 0, 0, 0, 0, 0, 0, 0, 0, 0, 0, 0, 0, 0, 0, 0, 0, 0, 0, 0, 0, 0] from by rw [ins_gl (L' := [1, 1, 1, 1, 0, 0, 1, 0, 0, 1, 1, 1, 1, 1, 0, 0, 0, 0, 0, 0, 0, 0, 0, 0, 0, 0, 0, 0, 0, 0, 0, 0, 0, 0, 0, 0, 0, 0, 0, 0, 0, 0, 0, 0, 0, 0, 0, 0, 0, 0, 0]) (by decide +kernel) (by decide +kernel), ins_gl (L' := [1, 1, 1, 1, 1, 0, 1, 0, 0, 1, 1, 1, 1, 1, 0, 0, 0, 0, 0, 0, 0, 0, 0, 0, 0, 0, 0, 0, 0, 0, 0, 0, 0, 0, 0, 0, 0, 0, 0, 0, 0, 0, 0, 0, 0, 0, 0, 0, 0, 0, 0]) (by decide +kernel) (by decide +kernel), ins_gl (L' := [1, 1, 1, 1, 1, 1, 1, 0, 0, 1, 1, 1, 1, 1, 0, 0, 0, 0, 0, 0, 0, 0, 0, 0, 0, 0, 0, 0, 0, 0, 0, 0, 0, 0, 0, 0, 0, 0, 0, 0, 0, 0, 0, 0, 0, 0, 0, 0, 0, 0, 0]) (by decide +kernel) (by decide +kernel)]]
  refine z_aast3 (x := 0) (t := 53) F dX8_init_52 rfl (by decide) (by decide) rfl (by decide) (okq_of (by decide) (by decide)) (okq_of (by decide) (by decide)) rfl rfl (by decide) (by decide) rfl ?_
  refine z_iinc2 (j := 1) (z := 1) (t := 56) F dX8_init_53 rfl (by decide) rfl (by decide) rfl ?_
  refine z_goto (t := 34) F dX8_init_56 (by decide) ?_
  refine z_iload_n (t := 35) F dX8_init_34 rfl rfl rfl ?_
  refine z_bipush (t := 37) F dX8_init_35 (by decide) rfl ?_
  refine z_icmp_ge (u := 59) (t := 40) F dX8_init_37 (by constructor <;> omega) (by constructor <;> omega) (by decide) rfl (fun c0 => absurd c0 (by decide)) (fun _ => ?_)
  refine z_aload_n (t := 41) F dX8_init_40 rfl rfl rfl ?_
  refine z_getr3 (x := 0) (k' := 1) (i' := 0) (t := 44) F dX8_init_41 rfl uX8 fl_X8_11 (by decide) rfl (okq_of (by decide) (by decide)) rfl (by decide +kernel) rfl ?_
  refine z_iload_n (t := 45) F dX8_init_44 rfl rfl rfl ?_
  refine z_new (t := 48) (k := 2) (i := 1) F dX8_init_45 rfl uX6 tyX6 tyX6_ok cl_X8_9 is_X6 in_X6 rfl (by omega) rfl (by decide) df_X6 (ins_gl (L' := [1, 1, 2, 1, 1, 1, 1, 0, 0, 1, 1, 1, 1, 1, 0, 0, 0, 0, 0, 0, 0, 0, 0, 0, 0, 0, 0, 0, 0, 0, 0, 0, 0, 0, 0, 0, 0, 0, 0, 0, 0, 0, 0, 0, 0, 0, 0, 0, 0, 0, 0]) (by decide +kernel) (by decide +kernel)) (by simp only [okS, okL, okv, okq] <;> decide) (show okL _ [some (vR 0 0), some (vI 1)] from (by simp only [okS, okL, okv, okq] <;> decide)) ⟨by decide, by decide⟩ rfl (fun ad7 hs7 => ?_)
  refine z_dupR (t := 49) F dX8_init_48 rfl ?_
  refine z_callI (t := 52) [] F dX8_init_49 k_X6_init rfl im_X6_init rfl (Or.inr ⟨_, mn_X8_28⟩) rfl rfl (Nat.le_of_ble_eq_true rfl) (by decide) (by decide) ⟨by decide, by decide⟩ (by simp only [okS, okL, okv, okq] <;> decide) (show okL _ [some (vR 0 0), some (vI 1)] from (by simp only [okS, okL, okv, okq] <;> decide)) (ci_X6 _ G _ _ _ _ (1) (by decide) (by decide) (by decide) (by decide) (by decide)) rfl (fun ad8 m8 hs8 hm8 => ?_)
  subst hm8
  rw [show ins (ins (ins (gl [1, 1, 2, 1, 1, 1, 1, 0, 0, 1, 1, 1, 1, 1, 0, 0, 0, 0, 0, 0, 0, 0, 0, 0, 0, 0, 0, 0, 0, 0, 0, 0, 0, 0, 0, 0, 0, 0, 0, 0, 0, 0, 0, 0, 0, 0, 0, 0, 0, 0, 0]) 3) 4) 5 = gl [1, 1, 2, 2, 2, 2, 1, 0, 0, 1, 1, 1, 1, 1, 0, 0, 0, 0, 0, 0, 0, 0, 0, 0, 0, 0, 0, 0, 0, 0, 0, 0, 0, 0, 0, 0, 0, 0, 0, 0, 0, 0, 0, 0, 0, 0, 0, 0, 0, 0, 0] from by rw [ins_gl (L' := [1, 1, 2, 2, 1, 1, 1, 0, 0, 1, 1, 1, 1, 1, 0, 0, 0, 0, 0, 0, 0, 0, 0, 0, 0, 0, 0, 0, 0, 0, 0, 0, 0, 0, 0, 0, 0, 0, 0, 0, 0, 0, 0, 0, 0, 0, 0, 0, 0, 0, 0]) (by decide +kernel) (by decide +kernel), ins_gl (L' := [1, 1, 2, 2, 2, 1, 1, 0, 0, 1, 1, 1, 1, 1, 0, 0, 0, 0, 0, 0, 0, 0, 0, 0, 0, 0, 0, 0, 0, 0, 0, 0, 0, 0, 0, 0, 0, 0, 0, 0, 0, 0, 0, 0, 0, 0, 0, 0, 0, 0, 0]) (by decide +kernel) (by decide +kernel), ins_gl (L' := [1, 1, 2, 2, 2, 2, 1, 0, 0, 1, 1, 1, 1, 1, 0, 0, 0, 0, 0, 0, 0, 0, 0, 0, 0, 0, 0, 0, 0, 0, 0, 0, 0, 0, 0, 0, 0, 0, 0, 0, 0, 0, 0, 0, 0, 0, 0, 0, 0, 0, 0]) (by decide +kernel) (by decide +kernel)]]
  refine z_aast3 (x := 1) (t := 53) F dX8_init_52 rfl (by decide) (by decide) rfl (by decide) (okq_of (by decide) (by decide)) (okq_of (by decide) (by decide)) rfl rfl (by decide) (by decide) rfl ?_
  refine z_iinc2 (j := 1) (z := 2) (t := 56) F dX8_init_53 rfl (by decide) rfl (by decide) rfl ?_
  refine z_goto (t := 34) F dX8_init_56 (by decide) ?_
  refine z_iload_n (t := 35) F dX8_init_34 rfl rfl rfl ?_
  refine z_bipush (t := 37) F dX8_init_35 (by decide) rfl ?_
  refine z_icmp_ge (u := 59) (t := 40) F dX8_init_37 (by constructor <;> omega) (by constructor <;> omega) (by decide) rfl (fun c0 => absurd c0 (by decide)) (fun _ => ?_)
  refine z_aload_n (t := 41) F dX8_init_40 rfl rfl rfl ?_
  refine z_getr3 (x := 0) (k' := 1) (i' := 0) (t := 44) F dX8_init_41 rfl uX8 fl_X8_11 (by decide) rfl (okq_of (by decide) (by decide)) rfl (by decide +kernel) rfl ?_
  refine z_iload_n (t := 45) F dX8_init_44 rfl rfl rfl ?_
  refine z_new (t := 48) (k := 2) (i := 2) F dX8_init_45 rfl uX6 tyX6 tyX6_ok cl_X8_9 is_X6 in_X6 rfl (by omega) rfl (by decide) df_X6 (ins_gl (L' := [1, 1, 3, 2, 2, 2, 1, 0, 0, 1, 1, 1, 1, 1, 0, 0, 0, 0, 0, 0, 0, 0, 0, 0, 0, 0, 0, 0, 0, 0, 0, 0, 0, 0, 0, 0, 0, 0, 0, 0, 0, 0, 0, 0, 0, 0, 0, 0, 0, 0, 0]) (by decide +kernel) (by decide +kernel)) (by simp only [okS, okL, okv, okq] <;> decide) (show okL _ [some (vR 0 0), some (vI 2)] from (by simp only [okS, okL, okv, okq] <;> decide)) ⟨by decide, by decide⟩ rfl (fun ad9 hs9 => ?_)
  refine z_dupR (t := 49) F dX8_init_48 rfl ?_
  refine z_callI (t := 52) [] F dX8_init_49 k_X6_init rfl im_X6_init rfl (Or.inr ⟨_, mn_X8_28⟩) rfl rfl (Nat.le_of_ble_eq_true rfl) (by decide) (by decide) ⟨by decide, by decide⟩ (by simp only [okS, okL, okv, okq] <;> decide) (show okL _ [some (vR 0 0), some (vI 2)] from (by simp only [okS, okL, okv, okq] <;> decide)) (ci_X6 _ G _ _ _ _ (2) (by decide) (by decide) (by decide) (by decide) (by decide)) rfl (fun ad10 m10 hs10 hm10 => ?_)
  subst hm10
  rw [show ins (ins (ins (gl [1, 1, 3, 2, 2, 2, 1, 0, 0, 1, 1, 1, 1, 1, 0, 0, 0, 0, 0, 0, 0, 0, 0, 0, 0, 0, 0, 0, 0, 0, 0, 0, 0, 0, 0, 0, 0, 0, 0, 0, 0, 0, 0, 0, 0, 0, 0, 0, 0, 0, 0]) 3) 4) 5 = gl [1, 1, 3, 3, 3, 3, 1, 0, 0, 1, 1, 1, 1, 1, 0, 0, 0, 0, 0, 0, 0, 0, 0, 0, 0, 0, 0, 0, 0, 0, 0, 0, 0, 0, 0, 0, 0, 0, 0, 0, 0, 0, 0, 0, 0, 0, 0, 0, 0, 0, 0] from by rw [ins_gl (L' := [1, 1, 3, 3, 2, 2, 1, 0, 0, 1, 1, 1, 1, 1, 0, 0, 0, 0, 0, 0, 0, 0, 0, 0, 0, 0, 0, 0, 0, 0, 0, 0, 0, 0, 0, 0, 0, 0, 0, 0, 0, 0, 0, 0, 0, 0, 0, 0, 0, 0, 0]) (by decide +kernel) (by decide +kernel), ins_gl (L' := [1, 1, 3, 3, 3, 2, 1, 0, 0, 1, 1, 1, 1, 1, 0, 0, 0, 0, 0, 0, 0, 0, 0, 0, 0, 0, 0, 0, 0, 0, 0, 0, 0, 0, 0, 0, 0, 0, 0, 0, 0, 0, 0, 0, 0, 0, 0, 0, 0, 0, 0]) (by decide +kernel) (by decide +kernel), ins_gl (L' := [1, 1, 3, 3, 3, 3, 1, 0, 0, 1, 1, 1, 1, 1, 0, 0, 0, 0, 0, 0, 0, 0, 0, 0, 0, 0, 0, 0, 0, 0, 0, 0, 0, 0, 0, 0, 0, 0, 0, 0, 0, 0, 0, 0, 0, 0, 0, 0, 0, 0, 0]) (by decide +kernel) (by decide +kernel)]]
  refine z_aast3 (x := 2) (t := 53) F dX8_init_52 rfl (by decide) (by decide) rfl (by decide) (okq_of (by decide) (by decide)) (okq_of (by decide) (by decide)) rfl rfl (by decide) (by decide) rfl ?_
  refine z_iinc2 (j := 1) (z := 3) (t := 56) F dX8_init_53 rfl (by decide) rfl (by decide) rfl ?_
  refine z_goto (t := 34) F dX8_init_56 (by decide) ?_
  refine z_iload_n (t := 35) F dX8_init_34 rfl rfl rfl ?_
  refine z_bipush (t := 37) F dX8_init_35 (by decide) rfl ?_
  refine z_icmp_ge (u := 59) (t := 40) F dX8_init_37 (by constructor <;> omega) (by constructor <;> omega) (by decide) rfl (fun c0 => absurd c0 (by decide)) (fun _ => ?_)
  refine z_aload_n (t := 41) F dX8_init_40 rfl rfl rfl ?_
  refine z_getr3 (x := 0) (k' := 1) (i' := 0) (t := 44) F dX8_init_41 rfl uX8 fl_X8_11 (by decide) rfl (okq_of (by decide) (by decide)) rfl (by decide +kernel) rfl ?_
  refine z_iload_n (t := 45) F dX8_init_44 rfl rfl rfl ?_
  refine z_new (t := 48) (k := 2) (i := 3) F dX8_init_45 rfl uX6 tyX6 tyX6_ok cl_X8_9 is_X6 in_X6 rfl (by omega) rfl (by decide) df_X6 (ins_gl (L' := [1, 1, 4, 3, 3, 3, 1, 0, 0, 1, 1, 1, 1, 1, 0, 0, 0, 0, 0, 0, 0, 0, 0, 0, 0, 0, 0, 0, 0, 0, 0, 0, 0, 0, 0, 0, 0, 0, 0, 0, 0, 0, 0, 0, 0, 0, 0, 0, 0, 0, 0]) (by decide +kernel) (by decide +kernel)) (by simp only [okS, okL, okv, okq] <;> decide) (show okL _ [some (vR 0 0), some (vI 3)] from (by simp only [okS, okL, okv, okq] <;> decide)) ⟨by decide, by decide⟩ rfl (fun ad11 hs11 => ?_)
  refine z_dupR (t := 49) F dX8_init_48 rfl ?_
  refine z_callI (t := 52) [] F dX8_init_49 k_X6_init rfl im_X6_init rfl (Or.inr ⟨_, mn_X8_28⟩) rfl rfl (Nat.le_of_ble_eq_true rfl) (by decide) (by decide) ⟨by decide, by decide⟩ (by simp only [okS, okL, okv, okq] <;> decide) (show okL _ [some (vR 0 0), some (vI 3)] from (by simp only [okS, okL, okv, okq] <;> decide)) (ci_X6 _ G _ _ _ _ (3) (by decide) (by decide) (by decide) (by decide) (by decide)) rfl (fun ad12 m12 hs12 hm12 => ?_)
  subst hm12
  rw [show ins (ins (ins (gl [1, 1, 4, 3, 3, 3, 1, 0, 0, 1, 1, 1, 1, 1, 0, 0, 0, 0, 0, 0, 0, 0, 0, 0, 0, 0, 0, 0, 0, 0, 0, 0, 0, 0, 0, 0, 0, 0, 0, 0, 0, 0, 0, 0, 0, 0, 0, 0, 0, 0, 0]) 3) 4) 5 = gl [1, 1, 4, 4, 4, 4, 1, 0, 0, 1, 1, 1, 1, 1, 0, 0, 0, 0, 0, 0, 0, 0, 0, 0, 0, 0, 0, 0, 0, 0, 0, 0, 0, 0, 0, 0, 0, 0, 0, 0, 0, 0, 0, 0, 0, 0, 0, 0, 0, 0, 0] from by rw [ins_gl (L' := [1, 1, 4, 4, 3, 3, 1, 0, 0, 1, 1, 1, 1, 1, 0, 0, 0, 0, 0, 0, 0, 0, 0, 0, 0, 0, 0, 0, 0, 0, 0, 0, 0, 0, 0, 0, 0, 0, 0, 0, 0, 0, 0, 0, 0, 0, 0, 0, 0, 0, 0]) (by decide +kernel) (by decide +kernel), ins_gl (L' := [1, 1, 4, 4, 4, 3, 1, 0, 0, 1, 1, 1, 1, 1, 0, 0, 0, 0, 0, 0, 0, 0, 0, 0, 0, 0, 0, 0, 0, 0, 0, 0, 0, 0, 0, 0, 0, 0, 0, 0, 0, 0, 0, 0, 0, 0, 0, 0, 0, 0, 0]) (by decide +kernel) (by decide +kernel), ins_gl (L' := [1, 1, 4, 4, 4, 4, 1, 0, 0, 1, 1, 1, 1, 1, 0, 0, 0, 0, 0, 0, 0, 0, 0, 0, 0, 0, 0, 0, 0, 0, 0, 0, 0, 0, 0, 0, 0, 0, 0, 0, 0, 0, 0, 0, 0, 0, 0, 0, 0, 0, 0]) (by decide +kernel) (by decide +kernel)]]
  refine z_aast3 (x := 3) (t := 53) F dX8_init_52 rfl (by decide) (by decide) rfl (by decide) (okq_of (by decide) (by decide)) (okq_of (by decide) (by decide)) rfl rfl (by decide) (by decide) rfl ?_
  refine z_iinc2 (j := 1) (z := 4) (t := 56) F dX8_init_53 rfl (by decide) rfl (by decide) rfl ?_
  refine z_goto (t := 34) F dX8_init_56 (by decide) ?_
  refine z_iload_n (t := 35) F dX8_init_34 rfl rfl rfl ?_
  refine z_bipush (t := 37) F dX8_init_35 (by decide) rfl ?_
  refine z_icmp_ge (u := 59) (t := 40) F dX8_init_37 (by constructor <;> omega) (by constructor <;> omega) (by decide) rfl (fun c0 => absurd c0 (by decide)) (fun _ => ?_)
  refine z_aload_n (t := 41) F dX8_init_40 rfl rfl rfl ?_
  refine z_getr3 (x := 0) (k' := 1) (i' := 0) (t := 44) F dX8_init_41 rfl uX8 fl_X8_11 (by decide) rfl (okq_of (by decide) (by decide)) rfl (by decide +kernel) rfl ?_
  refine z_iload_n (t := 45) F dX8_init_44 rfl rfl rfl ?_
  refine z_new (t := 48) (k := 2) (i := 4) F dX8_init_45 rfl uX6 tyX6 tyX6_ok cl_X8_9 is_X6 in_X6 rfl (by omega) rfl (by decide) df_X6 (ins_gl (L' := [1, 1, 5, 4, 4, 4, 1, 0, 0, 1, 1, 1, 1, 1, 0, 0, 0, 0, 0, 0, 0, 0, 0, 0, 0, 0, 0, 0, 0, 0, 0, 0, 0, 0, 0, 0, 0, 0, 0, 0, 0, 0, 0, 0, 0, 0, 0, 0, 0, 0, 0]) (by decide +kernel) (by decide +kernel)) (by simp only [okS, okL, okv, okq] <;> decide) (show okL _ [some (vR 0 0), some (vI 4)] from (by simp only [okS, okL, okv, okq] <;> decide)) ⟨by decide, by decide⟩ rfl (fun ad13 hs13 => ?_)
  refine z_dupR (t := 49) F dX8_init_48 rfl ?_
  refine z_callI (t := 52) [] F dX8_init_49 k_X6_init rfl im_X6_init rfl (Or.inr ⟨_, mn_X8_28⟩) rfl rfl (Nat.le_of_ble_eq_true rfl) (by decide) (by decide) ⟨by decide, by decide⟩ (by simp only [okS, okL, okv, okq] <;> decide) (show okL _ [some (vR 0 0), some (vI 4)] from (by simp only [okS, okL, okv, okq] <;> decide)) (ci_X6 _ G _ _ _ _ (4) (by decide) (by decide) (by decide) (by decide) (by decide)) rfl (fun ad14 m14 hs14 hm14 => ?_)
  subst hm14
  rw [show ins (ins (ins (gl [1, 1, 5, 4, 4, 4, 1, 0, 0, 1, 1, 1, 1, 1, 0, 0, 0, 0, 0, 0, 0, 0, 0, 0, 0, 0, 0, 0, 0, 0, 0, 0, 0, 0, 0, 0, 0, 0, 0, 0, 0, 0, 0, 0, 0, 0, 0, 0, 0, 0, 0]) 3) 4) 5 = gl [1, 1, 5, 5, 5, 5, 1, 0, 0, 1, 1, 1, 1, 1, 0, 0, 0, 0, 0, 0, 0, 0, 0, 0, 0, 0, 0, 0, 0, 0, 0, 0, 0, 0, 0, 0, 0, 0, 0, 0, 0, 0, 0, 0, 0, 0, 0, 0, 0, 0, 0] from by rw [ins_gl (L' := [1, 1, 5, 5, 4, 4, 1, 0, 0, 1, 1, 1, 1, 1, 0, 0, 0, 0, 0, 0, 0, 0, 0, 0, 0, 0, 0, 0, 0, 0, 0, 0, 0, 0, 0, 0, 0, 0, 0, 0, 0, 0, 0, 0, 0, 0, 0, 0, 0, 0, 0]) (by decide +kernel) (by decide +kernel), ins_gl (L' := [1, 1, 5, 5, 5, 4, 1, 0, 0, 1, 1, 1, 1, 1, 0, 0, 0, 0, 0, 0, 0, 0, 0, 0, 0, 0, 0, 0, 0, 0, 0, 0, 0, 0, 0, 0, 0, 0, 0, 0, 0, 0, 0, 0, 0, 0, 0, 0, 0, 0, 0]) (by decide +kernel) (by decide +kernel), ins_gl (L' := [1, 1, 5, 5, 5, 5, 1, 0, 0, 1, 1, 1, 1, 1, 0, 0, 0, 0, 0, 0, 0, 0, 0, 0, 0, 0, 0, 0, 0, 0, 0, 0, 0, 0, 0, 0, 0, 0, 0, 0, 0, 0, 0, 0, 0, 0, 0, 0, 0, 0, 0]) (by decide +kernel) (by decide +kernel)]]
  refine z_aast3 (x := 4) (t := 53) F dX8_init_52 rfl (by decide) (by decide) rfl (by decide) (okq_of (by decide) (by decide)) (okq_of (by decide) (by decide)) rfl rfl (by decide) (by decide) rfl ?_
  refine z_iinc2 (j := 1) (z := 5) (t := 56) F dX8_init_53 rfl (by decide) rfl (by decide) rfl ?_
  refine z_goto (t := 34) F dX8_init_56 (by decide) ?_
  refine z_iload_n (t := 35) F dX8_init_34 rfl rfl rfl ?_
  refine z_bipush (t := 37) F dX8_init_35 (by decide) rfl ?_
  refine z_icmp_ge (u := 59) (t := 40) F dX8_init_37 (by constructor <;> omega) (by constructor <;> omega) (by decide) rfl (fun c0 => absurd c0 (by decide)) (fun _ => ?_)
  refine z_aload_n (t := 41) F dX8_init_40 rfl rfl rfl ?_
  refine z_getr3 (x := 0) (k' := 1) (i' := 0) (t := 44) F dX8_init_41 rfl uX8 fl_X8_11 (by decide) rfl (okq_of (by decide) (by decide)) rfl (by decide +kernel) rfl ?_
  refine z_iload_n (t := 45) F dX8_init_44 rfl rfl rfl ?_
  refine z_new (t := 48) (k := 2) (i := 5) F dX8_init_45 rfl uX6 tyX6 tyX6_ok cl_X8_9 is_X6 in_X6 rfl (by omega) rfl (by decide) df_X6 (ins_gl (L' := [1, 1, 6, 5, 5, 5, 1, 0, 0, 1, 1, 1, 1, 1, 0, 0, 0, 0, 0, 0, 0, 0, 0, 0, 0, 0, 0, 0, 0, 0, 0, 0, 0, 0, 0, 0, 0, 0, 0, 0, 0, 0, 0, 0, 0, 0, 0, 0, 0, 0, 0]) (by decide +kernel) (by decide +kernel)) (by simp only [okS, okL, okv, okq] <;> decide) (show okL _ [some (vR 0 0), some (vI 5)] from (by simp only [okS, okL, okv, okq] <;> decide)) ⟨by decide, by decide⟩ rfl (fun ad15 hs15 => ?_)
  refine z_dupR (t := 49) F dX8_init_48 rfl ?_
  refine z_callI (t := 52) [] F dX8_init_49 k_X6_init rfl im_X6_init rfl (Or.inr ⟨_, mn_X8_28⟩) rfl rfl (Nat.le_of_ble_eq_true rfl) (by decide) (by decide) ⟨by decide, by decide⟩ (by simp only [okS, okL, okv, okq] <;> decide) (show okL _ [some (vR 0 0), some (vI 5)] from (by simp only [okS, okL, okv, okq] <;> decide)) (ci_X6 _ G _ _ _ _ (5) (by decide) (by decide) (by decide) (by decide) (by decide)) rfl (fun ad16 m16 hs16 hm16 => ?_)
  subst hm16
  rw [show ins (ins (ins (gl [1, 1, 6, 5, 5, 5, 1, 0, 0, 1, 1, 1, 1, 1, 0, 0, 0, 0, 0, 0, 0, 0, 0, 0, 0, 0, 0, 0, 0, 0, 0, 0, 0, 0, 0, 0, 0, 0, 0, 0, 0, 0, 0, 0, 0, 0, 0, 0, 0, 0, 0]) 3) 4) 5 = gl [1, 1, 6, 6, 6, 6, 1, 0, 0, 1, 1, 1, 1, 1, 0, 0, 0, 0, 0, 0, 0, 0, 0, 0, 0, 0, 0, 0, 0, 0, 0, 0, 0, 0, 0, 0, 0, 0, 0, 0, 0, 0, 0, 0, 0, 0, 0, 0, 0, 0, 0] from by rw [ins_gl (L' := [1, 1, 6, 6, 5, 5, 1, 0, 0, 1, 1, 1, 1, 1, 0, 0, 0, 0, 0, 0, 0, 0, 0, 0, 0, 0, 0, 0, 0, 0, 0, 0, 0, 0, 0, 0, 0, 0, 0, 0, 0, 0, 0, 0, 0, 0, 0, 0, 0, 0, 0]) (by decide +kernel) (by decide +kernel), ins_gl (L' := [1, 1, 6, 6, 6, 5, 1, 0, 0, 1, 1, 1, 1, 1, 0, 0, 0, 0, 0, 0, 0, 0, 0, 0, 0, 0, 0, 0, 0, 0, 0, 0, 0, 0, 0, 0, 0, 0, 0, 0, 0, 0, 0, 0, 0, 0, 0, 0, 0, 0, 0]) (by decide +kernel) (by decide +kernel), ins_gl (L' := [1, 1, 6, 6, 6, 6, 1, 0, 0, 1, 1, 1, 1, 1, 0, 0, 0, 0, 0, 0, 0, 0, 0, 0, 0, 0, 0, 0, 0, 0, 0, 0, 0, 0, 0, 0, 0, 0, 0, 0, 0, 0, 0, 0, 0, 0, 0, 0, 0, 0, 0]) (by decide +kernel) (by decide +kernel)]]
  refine z_aast3 (x := 5) (t := 53) F dX8_init_52 rfl (by decide) (by decide) rfl (by decide) (okq_of (by decide) (by decide)) (okq_of (by decide) (by decide)) rfl rfl (by decide) (by decide) rfl ?_
  refine z_iinc2 (j := 1) (z := 6) (t := 56) F dX8_init_53 rfl (by decide) rfl (by decide) rfl ?_
  refine z_goto (t := 34) F dX8_init_56 (by decide) ?_
  refine z_iload_n (t := 35) F dX8_init_34 rfl rfl rfl ?_
  refine z_bipush (t := 37) F dX8_init_35 (by decide) rfl ?_
  refine z_icmp_ge (u := 59) (t := 40) F dX8_init_37 (by constructor <;> omega) (by constructor <;> omega) (by decide) rfl (fun _ => ?_) (fun c0 => absurd c0 (by decide))
  refine z_iconst (t := 60) F dX8_init_59 rfl ?_
  refine z_istore_n (j := 1) (t := 61) F dX8_init_60 rfl (by decide) rfl rfl ?_
  refine z_iload_n (t := 62) F dX8_init_61 rfl rfl rfl ?_
  refine z_iconst (t := 63) F dX8_init_62 rfl ?_
  refine z_icmp_ge (u := 85) (t := 66) F dX8_init_63 (by constructor <;> omega) (by constructor <;> omega) (by decide) rfl (fun c0 => absurd c0 (by decide)) (fun _ => ?_)
  refine z_aload_n (t := 67) F dX8_init_66 rfl rfl rfl ?_
  refine z_getr3 (x := 1) (k' := 6) (i' := 0) (t := 70) F dX8_init_67 rfl uX8 fl_X8_17 (by decide) rfl (okq_of (by decide) (by decide)) rfl (by decide +kernel) rfl ?_
  refine z_iload_n (t := 71) F dX8_init_70 rfl rfl rfl ?_
  refine z_new (t := 74) (k := 7) (i := 0) F dX8_init_71 rfl uX5 tyX5 tyX5_ok cl_X8_15 is_X5 in_X5 rfl (by omega) rfl (by decide) df_X5 (ins_gl (L' := [1, 1, 6, 6, 6, 6, 1, 1, 0, 1, 1, 1, 1, 1, 0, 0, 0, 0, 0, 0, 0, 0, 0, 0, 0, 0, 0, 0, 0, 0, 0, 0, 0, 0, 0, 0, 0, 0, 0, 0, 0, 0, 0, 0, 0, 0, 0, 0, 0, 0, 0]) (by decide +kernel) (by decide +kernel)) (by simp only [okS, okL, okv, okq] <;> decide) (show okL _ [some (vR 0 0), some (vI 0)] from (by simp only [okS, okL, okv, okq] <;> decide)) ⟨by decide, by decide⟩ rfl (fun ad17 hs17 => ?_)
  refine z_dupR (t := 75) F dX8_init_74 rfl ?_
  refine z_callI (t := 78) [] F dX8_init_75 k_X5_init rfl im_X5_init rfl (Or.inr ⟨_, mn_X8_29⟩) rfl rfl (Nat.le_of_ble_eq_true rfl) (by decide) (by decide) ⟨by decide, by decide⟩ (by simp only [okS, okL, okv, okq] <;> decide) (show okL _ [some (vR 0 0), some (vI 0)] from (by simp only [okS, okL, okv, okq] <;> decide)) (ci_X5 _ G _ _ _ _ (0) (by decide) (by decide) (by decide)) rfl (fun ad18 m18 hs18 hm18 => ?_)
  subst hm18
  rw [show ins (gl [1, 1, 6, 6, 6, 6, 1, 1, 0, 1, 1, 1, 1, 1, 0, 0, 0, 0, 0, 0, 0, 0, 0, 0, 0, 0, 0, 0, 0, 0, 0, 0, 0, 0, 0, 0, 0, 0, 0, 0, 0, 0, 0, 0, 0, 0, 0, 0, 0, 0, 0]) 8 = gl [1, 1, 6, 6, 6, 6, 1, 1, 1, 1, 1, 1, 1, 1, 0, 0, 0, 0, 0, 0, 0, 0, 0, 0, 0, 0, 0, 0, 0, 0, 0, 0, 0, 0, 0, 0, 0, 0, 0, 0, 0, 0, 0, 0, 0, 0, 0, 0, 0, 0, 0] from by rw [ins_gl (L' := [1, 1, 6, 6, 6, 6, 1, 1, 1, 1, 1, 1, 1, 1, 0, 0, 0, 0, 0, 0, 0, 0, 0, 0, 0, 0, 0, 0, 0, 0, 0, 0, 0, 0, 0, 0, 0, 0, 0, 0, 0, 0, 0, 0, 0, 0, 0, 0, 0, 0, 0]) (by decide +kernel) (by decide +kernel)]]
  refine z_aast3 (x := 0) (t := 79) F dX8_init_78 rfl (by decide) (by decide) rfl (by decide) (okq_of (by decide) (by decide)) (okq_of (by decide) (by decide)) rfl rfl (by decide) (by decide) rfl ?_
  refine z_iinc2 (j := 1) (z := 1) (t := 82) F dX8_init_79 rfl (by decide) rfl (by decide) rfl ?_
  refine z_goto (t := 61) F dX8_init_82 (by decide) ?_
  refine z_iload_n (t := 62) F dX8_init_61 rfl rfl rfl ?_
  refine z_iconst (t := 63) F dX8_init_62 rfl ?_
  refine z_icmp_ge (u := 85) (t := 66) F dX8_init_63 (by constructor <;> omega) (by constructor <;> omega) (by decide) rfl (fun c0 => absurd c0 (by decide)) (fun _ => ?_)
  refine z_aload_n (t := 67) F dX8_init_66 rfl rfl rfl ?_
  refine z_getr3 (x := 1) (k' := 6) (i' := 0) (t := 70) F dX8_init_67 rfl uX8 fl_X8_17 (by decide) rfl (okq_of (by decide) (by decide)) rfl (by decide +kernel) rfl ?_
  refine z_iload_n (t := 71) F dX8_init_70 rfl rfl rfl ?_
  refine z_new (t := 74) (k := 7) (i := 1) F dX8_init_71 rfl uX5 tyX5 tyX5_ok cl_X8_15 is_X5 in_X5 rfl (by omega) rfl (by decide) df_X5 (ins_gl (L' := [1, 1, 6, 6, 6, 6, 1, 2, 1, 1, 1, 1, 1, 1, 0, 0, 0, 0, 0, 0, 0, 0, 0, 0, 0, 0, 0, 0, 0, 0, 0, 0, 0, 0, 0, 0, 0, 0, 0, 0, 0, 0, 0, 0, 0, 0, 0, 0, 0, 0, 0]) (by decide +kernel) (by decide +kernel)) (by simp only [okS, okL, okv, okq] <;> decide) (show okL _ [some (vR 0 0), some (vI 1)] from (by simp only [okS, okL, okv, okq] <;> decide)) ⟨by decide, by decide⟩ rfl (fun ad19 hs19 => ?_)
  refine z_dupR (t := 75) F dX8_init_74 rfl ?_
  refine z_callI (t := 78) [] F dX8_init_75 k_X5_init rfl im_X5_init rfl (Or.inr ⟨_, mn_X8_29⟩) rfl rfl (Nat.le_of_ble_eq_true rfl) (by decide) (by decide) ⟨by decide, by decide⟩ (by simp only [okS, okL, okv, okq] <;> decide) (show okL _ [some (vR 0 0), some (vI 1)] from (by simp only [okS, okL, okv, okq] <;> decide)) (ci_X5 _ G _ _ _ _ (1) (by decide) (by decide) (by decide)) rfl (fun ad20 m20 hs20 hm20 => ?_)
  subst hm20
  rw [show ins (gl [1, 1, 6, 6, 6, 6, 1, 2, 1, 1, 1, 1, 1, 1, 0, 0, 0, 0, 0, 0, 0, 0, 0, 0, 0, 0, 0, 0, 0, 0, 0, 0, 0, 0, 0, 0, 0, 0, 0, 0, 0, 0, 0, 0, 0, 0, 0, 0, 0, 0, 0]) 8 = gl [1, 1, 6, 6, 6, 6, 1, 2, 2, 1, 1, 1, 1, 1, 0, 0, 0, 0, 0, 0, 0, 0, 0, 0, 0, 0, 0, 0, 0, 0, 0, 0, 0, 0, 0, 0, 0, 0, 0, 0, 0, 0, 0, 0, 0, 0, 0, 0, 0, 0, 0] from by rw [ins_gl (L' := [1, 1, 6, 6, 6, 6, 1, 2, 2, 1, 1, 1, 1, 1, 0, 0, 0, 0, 0, 0, 0, 0, 0, 0, 0, 0, 0, 0, 0, 0, 0, 0, 0, 0, 0, 0, 0, 0, 0, 0, 0, 0, 0, 0, 0, 0, 0, 0, 0, 0, 0]) (by decide +kernel) (by decide +kernel)]]
  refine z_aast3 (x := 1) (t := 79) F dX8_init_78 rfl (by decide) (by decide) rfl (by decide) (okq_of (by decide) (by decide)) (okq_of (by decide) (by decide)) rfl rfl (by decide) (by decide) rfl ?_
  refine z_iinc2 (j := 1) (z := 2) (t := 82) F dX8_init_79 rfl (by decide) rfl (by decide) rfl ?_
  refine z_goto (t := 61) F dX8_init_82 (by decide) ?_
  refine z_iload_n (t := 62) F dX8_init_61 rfl rfl rfl ?_
  refine z_iconst (t := 63) F dX8_init_62 rfl ?_
  refine z_icmp_ge (u := 85) (t := 66) F dX8_init_63 (by constructor <;> omega) (by constructor <;> omega) (by decide) rfl (fun c0 => absurd c0 (by decide)) (fun _ => ?_)
  refine z_aload_n (t := 67) F dX8_init_66 rfl rfl rfl ?_
  refine z_getr3 (x := 1) (k' := 6) (i' := 0) (t := 70) F dX8_init_67 rfl uX8 fl_X8_17 (by decide) rfl (okq_of (by decide) (by decide)) rfl (by decide +kernel) rfl ?_
  refine z_iload_n (t := 71) F dX8_init_70 rfl rfl rfl ?_
  refine z_new (t := 74) (k := 7) (i := 2) F dX8_init_71 rfl uX5 tyX5 tyX5_ok cl_X8_15 is_X5 in_X5 rfl (by omega) rfl (by decide) df_X5 (ins_gl (L' := [1, 1, 6, 6, 6, 6, 1, 3, 2, 1, 1, 1, 1, 1, 0, 0, 0, 0, 0, 0, 0, 0, 0, 0, 0, 0, 0, 0, 0, 0, 0, 0, 0, 0, 0, 0, 0, 0, 0, 0, 0, 0, 0, 0, 0, 0, 0, 0, 0, 0, 0]) (by decide +kernel) (by decide +kernel)) (by simp only [okS, okL, okv, okq] <;> decide) (show okL _ [some (vR 0 0), some (vI 2)] from (by simp only [okS, okL, okv, okq] <;> decide)) ⟨by decide, by decide⟩ rfl (fun ad21 hs21 => ?_)
  refine z_dupR (t := 75) F dX8_init_74 rfl ?_
  refine z_callI (t := 78) [] F dX8_init_75 k_X5_init rfl im_X5_init rfl (Or.inr ⟨_, mn_X8_29⟩) rfl rfl (Nat.le_of_ble_eq_true rfl) (by decide) (by decide) ⟨by decide, by decide⟩ (by simp only [okS, okL, okv, okq] <;> decide) (show okL _ [some (vR 0 0), some (vI 2)] from (by simp only [okS, okL, okv, okq] <;> decide)) (ci_X5 _ G _ _ _ _ (2) (by decide) (by decide) (by decide)) rfl (fun ad22 m22 hs22 hm22 => ?_)
  subst hm22
  rw [show ins (gl [1, 1, 6, 6, 6, 6, 1, 3, 2, 1, 1, 1, 1, 1, 0, 0, 0, 0, 0, 0, 0, 0, 0, 0, 0, 0, 0, 0, 0, 0, 0, 0, 0, 0, 0, 0, 0, 0, 0, 0, 0, 0, 0, 0, 0, 0, 0, 0, 0, 0, 0]) 8 = gl [1, 1, 6, 6, 6, 6, 1, 3, 3, 1, 1, 1, 1, 1, 0, 0, 0, 0, 0, 0, 0, 0, 0, 0, 0, 0, 0, 0, 0, 0, 0, 0, 0, 0, 0, 0, 0, 0, 0, 0, 0, 0, 0, 0, 0, 0, 0, 0, 0, 0, 0] from by rw [ins_gl (L' := [1, 1, 6, 6, 6, 6, 1, 3, 3, 1, 1, 1, 1, 1, 0, 0, 0, 0, 0, 0, 0, 0, 0, 0, 0, 0, 0, 0, 0, 0, 0, 0, 0, 0, 0, 0, 0, 0, 0, 0, 0, 0, 0, 0, 0, 0, 0, 0, 0, 0, 0]) (by decide +kernel) (by decide +kernel)]]
  refine z_aast3 (x := 2) (t := 79) F dX8_init_78 rfl (by decide) (by decide) rfl (by decide) (okq_of (by decide) (by decide)) (okq_of (by decide) (by decide)) rfl rfl (by decide) (by decide) rfl ?_
  refine z_iinc2 (j := 1) (z := 3) (t := 82) F dX8_init_79 rfl (by decide) rfl (by decide) rfl ?_
  refine z_goto (t := 61) F dX8_init_82 (by decide) ?_
  refine z_iload_n (t := 62) F dX8_init_61 rfl rfl rfl ?_
  refine z_iconst (t := 63) F dX8_init_62 rfl ?_
  refine z_icmp_ge (u := 85) (t := 66) F dX8_init_63 (by constructor <;> omega) (by constructor <;> omega) (by decide) rfl (fun c0 => absurd c0 (by decide)) (fun _ => ?_)
  refine z_aload_n (t := 67) F dX8_init_66 rfl rfl rfl ?_
  refine z_getr3 (x := 1) (k' := 6) (i' := 0) (t := 70) F dX8_init_67 rfl uX8 fl_X8_17 (by decide) rfl (okq_of (by decide) (by decide)) rfl (by decide +kernel) rfl ?_
  refine z_iload_n (t := 71) F dX8_init_70 rfl rfl rfl ?_
  refine z_new (t := 74) (k := 7) (i := 3) F dX8_init_71 rfl uX5 tyX5 tyX5_ok cl_X8_15 is_X5 in_X5 rfl (by omega) rfl (by decide) df_X5 (ins_gl (L' := [1, 1, 6, 6, 6, 6, 1, 4, 3, 1, 1, 1, 1, 1, 0, 0, 0, 0, 0, 0, 0, 0, 0, 0, 0, 0, 0, 0, 0, 0, 0, 0, 0, 0, 0, 0, 0, 0, 0, 0, 0, 0, 0, 0, 0, 0, 0, 0, 0, 0, 0]) (by decide +kernel) (by decide +kernel)) (by simp only [okS, okL, okv, okq] <;> decide) (show okL _ [some (vR 0 0), some (vI 3)] from (by simp only [okS, okL, okv, okq] <;> decide)) ⟨by decide, by decide⟩ rfl (fun ad23 hs23 => ?_)
  refine z_dupR (t := 75) F dX8_init_74 rfl ?_
  refine z_callI (t := 78) [] F dX8_init_75 k_X5_init rfl im_X5_init rfl (Or.inr ⟨_, mn_X8_29⟩) rfl rfl (Nat.le_of_ble_eq_true rfl) (by decide) (by decide) ⟨by decide, by decide⟩ (by simp only [okS, okL, okv, okq] <;> decide) (show okL _ [some (vR 0 0), some (vI 3)] from (by simp only [okS, okL, okv, okq] <;> decide)) (ci_X5 _ G _ _ _ _ (3) (by decide) (by decide) (by decide)) rfl (fun ad24 m24 hs24 hm24 => ?_)
  subst hm24
  rw [show ins (gl [1, 1, 6, 6, 6, 6, 1, 4, 3, 1, 1, 1, 1, 1, 0, 0, 0, 0, 0, 0, 0, 0, 0, 0, 0, 0, 0, 0, 0, 0, 0, 0, 0, 0, 0, 0, 0, 0, 0, 0, 0, 0, 0, 0, 0, 0, 0, 0, 0, 0, 0]) 8 = gl [1, 1, 6, 6, 6, 6, 1, 4, 4, 1, 1, 1, 1, 1, 0, 0, 0, 0, 0, 0, 0, 0, 0, 0, 0, 0, 0, 0, 0, 0, 0, 0, 0, 0, 0, 0, 0, 0, 0, 0, 0, 0, 0, 0, 0, 0, 0, 0, 0, 0, 0] from by rw [ins_gl (L' := [1, 1, 6, 6, 6, 6, 1, 4, 4, 1, 1, 1, 1, 1, 0, 0, 0, 0, 0, 0, 0, 0, 0, 0, 0, 0, 0, 0, 0, 0, 0, 0, 0, 0, 0, 0, 0, 0, 0, 0, 0, 0, 0, 0, 0, 0, 0, 0, 0, 0, 0]) (by decide +kernel) (by decide +kernel)]]
  refine z_aast3 (x := 3) (t := 79) F dX8_init_78 rfl (by decide) (by decide) rfl (by decide) (okq_of (by decide) (by decide)) (okq_of (by decide) (by decide)) rfl rfl (by decide) (by decide) rfl ?_
  refine z_iinc2 (j := 1) (z := 4) (t := 82) F dX8_init_79 rfl (by decide) rfl (by decide) rfl ?_
  refine z_goto (t := 61) F dX8_init_82 (by decide) ?_
  refine z_iload_n (t := 62) F dX8_init_61 rfl rfl rfl ?_
  refine z_iconst (t := 63) F dX8_init_62 rfl ?_
  refine z_icmp_ge (u := 85) (t := 66) F dX8_init_63 (by constructor <;> omega) (by constructor <;> omega) (by decide) rfl (fun _ => ?_) (fun c0 => absurd c0 (by decide))
  refine z_aload_n (t := 86) F dX8_init_85 rfl rfl rfl ?_
  refine z_new (t := 89) (k := 14) (i := 0) F dX8_init_86 rfl uX4 tyX4 tyX4_ok cl_X8_30 is_X4 in_X4 rfl (by omega) rfl (by decide) df_X4 (ins_gl (L' := [1, 1, 6, 6, 6, 6, 1, 4, 4, 1, 1, 1, 1, 1, 1, 0, 0, 0, 0, 0, 0, 0, 0, 0, 0, 0, 0, 0, 0, 0, 0, 0, 0, 0, 0, 0, 0, 0, 0, 0, 0, 0, 0, 0, 0, 0, 0, 0, 0, 0, 0]) (by decide +kernel) (by decide +kernel)) (by simp only [okS, okL, okv, okq] <;> decide) (show okL _ [some (vR 0 0), some (vI 4)] from (by simp only [okS, okL, okv, okq] <;> decide)) ⟨by decide, by decide⟩ rfl (fun ad25 hs25 => ?_)
  refine z_dupR (t := 90) F dX8_init_89 rfl ?_
  refine z_aload_n (t := 91) F dX8_init_90 rfl rfl rfl ?_
  refine z_getr3 (x := 0) (k' := 1) (i' := 0) (t := 94) F dX8_init_91 rfl uX8 fl_X8_11 (by decide) rfl (okq_of (by decide) (by decide)) rfl (by decide +kernel) rfl ?_
  refine z_iconst (t := 95) F dX8_init_94 rfl ?_
  refine z_aald3 (k' := 2) (i' := 0) (t := 96) F dX8_init_95 rfl (by decide) (by decide) (by decide) (okq_of (by decide) (by decide)) (by decide) (by decide) (by decide +kernel) rfl ?_
  refine z_callI (t := 99) [_] F dX8_init_96 k_X4_init rfl im_X4_init rfl (Or.inl ml_X8_32) rfl rfl (Nat.le_of_ble_eq_true rfl) (by decide) (by decide) ⟨by decide, by decide⟩ (by simp only [okS, okL, okv, okq] <;> decide) (show okL _ [some (vR 0 0), some (vI 4)] from (by simp only [okS, okL, okv, okq] <;> decide)) (ci_X4 _ G _ _ _ _ (by decide) (by decide) (by decide)) rfl (fun ad26 m26 hs26 hm26 => ?_)
  subst hm26
  rw [show ins (gl [1, 1, 6, 6, 6, 6, 1, 4, 4, 1, 1, 1, 1, 1, 1, 0, 0, 0, 0, 0, 0, 0, 0, 0, 0, 0, 0, 0, 0, 0, 0, 0, 0, 0, 0, 0, 0, 0, 0, 0, 0, 0, 0, 0, 0, 0, 0, 0, 0, 0, 0]) 15 = gl [1, 1, 6, 6, 6, 6, 1, 4, 4, 1, 1, 1, 1, 1, 1, 1, 0, 0, 0, 0, 0, 0, 0, 0, 0, 0, 0, 0, 0, 0, 0, 0, 0, 0, 0, 0, 0, 0, 0, 0, 0, 0, 0, 0, 0, 0, 0, 0, 0, 0, 0] from by rw [ins_gl (L' := [1, 1, 6, 6, 6, 6, 1, 4, 4, 1, 1, 1, 1, 1, 1, 1, 0, 0, 0, 0, 0, 0, 0, 0, 0, 0, 0, 0, 0, 0, 0, 0, 0, 0, 0, 0, 0, 0, 0, 0, 0, 0, 0, 0, 0, 0, 0, 0, 0, 0, 0]) (by decide +kernel) (by decide +kernel)]]
  refine z_putr3 (x := 3) (t := 102) F dX8_init_99 rfl uX8 tyX8 tyX8_ok nmX8 fl_X8_35 (by decide) (by first | exact Or.inl rfl | exact Or.inr ⟨rfl, hini, rfl⟩) rfl (okq_of (by decide) (by decide)) (okq_of (by decide) (by decide)) rfl (by first | exact Or.inl ⟨_, rfl⟩ | exact Or.inr ⟨_, rfl⟩) rfl ?_
  refine z_aload_n (t := 103) F dX8_init_102 rfl rfl rfl ?_
  refine z_new (t := 106) (k := 16) (i := 0) F dX8_init_103 rfl uX0 tyX0 tyX0_ok cl_X8_39 is_X0 in_X0 rfl (by omega) rfl (by decide) df_X0 (ins_gl (L' := [1, 1, 6, 6, 6, 6, 1, 4, 4, 1, 1, 1, 1, 1, 1, 1, 1, 0, 0, 0, 0, 0, 0, 0, 0, 0, 0, 0, 0, 0, 0, 0, 0, 0, 0, 0, 0, 0, 0, 0, 0, 0, 0, 0, 0, 0, 0, 0, 0, 0, 0]) (by decide +kernel) (by decide +kernel)) (by simp only [okS, okL, okv, okq] <;> decide) (show okL _ [some (vR 0 0), some (vI 4)] from (by simp only [okS, okL, okv, okq] <;> decide)) ⟨by decide, by decide⟩ rfl (fun ad27 hs27 => ?_)
  refine z_dupR (t := 107) F dX8_init_106 rfl ?_
  refine z_aload_n (t := 108) F dX8_init_107 rfl rfl rfl ?_
  refine z_getr3 (x := 0) (k' := 1) (i' := 0) (t := 111) F dX8_init_108 rfl uX8 fl_X8_11 (by decide) rfl (okq_of (by decide) (by decide)) rfl (by decide +kernel) rfl ?_
  refine z_iconst (t := 112) F dX8_init_111 rfl ?_
  refine z_aald3 (k' := 2) (i' := 0) (t := 113) F dX8_init_112 rfl (by decide) (by decide) (by decide) (okq_of (by decide) (by decide)) (by decide) (by decide) (by decide +kernel) rfl ?_
  refine z_callI (t := 116) [_] F dX8_init_113 k_X0_init rfl im_X0_init rfl (Or.inl ml_X8_41) rfl rfl (Nat.le_of_ble_eq_true rfl) (by decide) (by decide) ⟨by decide, by decide⟩ (by simp only [okS, okL, okv, okq] <;> decide) (show okL _ [some (vR 0 0), some (vI 4)] from (by simp only [okS, okL, okv, okq] <;> decide)) (ci_X0 _ G _ _ _ _ (by decide) (by decide) (by decide)) rfl (fun ad28 m28 hs28 hm28 => ?_)
  subst hm28
  rw [show ins (gl [1, 1, 6, 6, 6, 6, 1, 4, 4, 1, 1, 1, 1, 1, 1, 1, 1, 0, 0, 0, 0, 0, 0, 0, 0, 0, 0, 0, 0, 0, 0, 0, 0, 0, 0, 0, 0, 0, 0, 0, 0, 0, 0, 0, 0, 0, 0, 0, 0, 0, 0]) 17 = gl [1, 1, 6, 6, 6, 6, 1, 4, 4, 1, 1, 1, 1, 1, 1, 1, 1, 1, 0, 0, 0, 0, 0, 0, 0, 0, 0, 0, 0, 0, 0, 0, 0, 0, 0, 0, 0, 0, 0, 0, 0, 0, 0, 0, 0, 0, 0, 0, 0, 0, 0] from by rw [ins_gl (L' := [1, 1, 6, 6, 6, 6, 1, 4, 4, 1, 1, 1, 1, 1, 1, 1, 1, 1, 0, 0, 0, 0, 0, 0, 0, 0, 0, 0, 0, 0, 0, 0, 0, 0, 0, 0, 0, 0, 0, 0, 0, 0, 0, 0, 0, 0, 0, 0, 0, 0, 0]) (by decide +kernel) (by decide +kernel)]]
  refine z_putr3 (x := 4) (t := 119) F dX8_init_116 rfl uX8 tyX8 tyX8_ok nmX8 fl_X8_42 (by decide) (by first | exact Or.inl rfl | exact Or.inr ⟨rfl, hini, rfl⟩) rfl (okq_of (by decide) (by decide)) (okq_of (by decide) (by decide)) rfl (by first | exact Or.inl ⟨_, rfl⟩ | exact Or.inr ⟨_, rfl⟩) rfl ?_
  refine z_aload_n (t := 120) F dX8_init_119 rfl rfl rfl ?_
  refine z_new (t := 123) (k := 18) (i := 0) F dX8_init_120 rfl uX7 tyX7 tyX7_ok cl_X8_46 is_X7 in_X7 rfl (by omega) rfl (by decide) df_X7 (ins_gl (L' := [1, 1, 6, 6, 6, 6, 1, 4, 4, 1, 1, 1, 1, 1, 1, 1, 1, 1, 1, 0, 0, 0, 0, 0, 0, 0, 0, 0, 0, 0, 0, 0, 0, 0, 0, 0, 0, 0, 0, 0, 0, 0, 0, 0, 0, 0, 0, 0, 0, 0, 0]) (by decide +kernel) (by decide +kernel)) (by simp only [okS, okL, okv, okq] <;> decide) (show okL _ [some (vR 0 0), some (vI 4)] from (by simp only [okS, okL, okv, okq] <;> decide)) ⟨by decide, by decide⟩ rfl (fun ad29 hs29 => ?_)
  refine z_dupR (t := 124) F dX8_init_123 rfl ?_
  refine z_aload_n (t := 125) F dX8_init_124 rfl rfl rfl ?_
  refine z_getr3 (x := 0) (k' := 1) (i' := 0) (t := 128) F dX8_init_125 rfl uX8 fl_X8_11 (by decide) rfl (okq_of (by decide) (by decide)) rfl (by decide +kernel) rfl ?_
  refine z_callI (t := 131) [_] F dX8_init_128 k_X7_init rfl im_X7_init rfl (Or.inl ml_X8_48) rfl rfl (Nat.le_of_ble_eq_true rfl) (by decide) (by decide) ⟨by decide, by decide⟩ (by simp only [okS, okL, okv, okq] <;> decide) (show okL _ [some (vR 0 0), some (vI 4)] from (by simp only [okS, okL, okv, okq] <;> decide)) (ci_X7 _ G _ _ _ _ 0 (by decide) (by decide) (by decide) (by decide) (by decide) (by decide) (by decide) (by decide)) rfl (fun ad30 m30 hs30 hm30 => ?_)
  subst hm30
  rw [show ins (ins (ins (ins (ins (ins (ins (ins (ins (ins (ins (ins (ins (ins (ins (ins (ins (gl [1, 1, 6, 6, 6, 6, 1, 4, 4, 1, 1, 1, 1, 1, 1, 1, 1, 1, 1, 0, 0, 0, 0, 0, 0, 0, 0, 0, 0, 0, 0, 0, 0, 0, 0, 0, 0, 0, 0, 0, 0, 0, 0, 0, 0, 0, 0, 0, 0, 0, 0]) 19) 20) 21) 22) 23) 21) 22) 23) 21) 22) 23) 21) 22) 23) 21) 22) 23 = gl [1, 1, 6, 6, 6, 6, 1, 4, 4, 1, 1, 1, 1, 1, 1, 1, 1, 1, 1, 1, 1, 5, 5, 5, 0, 0, 0, 0, 0, 0, 0, 0, 0, 0, 0, 0, 0, 0, 0, 0, 0, 0, 0, 0, 0, 0, 0, 0, 0, 0, 0] from by rw [ins_gl (L' := [1, 1, 6, 6, 6, 6, 1, 4, 4, 1, 1, 1, 1, 1, 1, 1, 1, 1, 1, 1, 0, 0, 0, 0, 0, 0, 0, 0, 0, 0, 0, 0, 0, 0, 0, 0, 0, 0, 0, 0, 0, 0, 0, 0, 0, 0, 0, 0, 0, 0, 0]) (by decide +kernel) (by decide +kernel), ins_gl (L' := [1, 1, 6, 6, 6, 6, 1, 4, 4, 1, 1, 1, 1, 1, 1, 1, 1, 1, 1, 1, 1, 0, 0, 0, 0, 0, 0, 0, 0, 0, 0, 0, 0, 0, 0, 0, 0, 0, 0, 0, 0, 0, 0, 0, 0, 0, 0, 0, 0, 0, 0]) (by decide +kernel) (by decide +kernel), ins_gl (L' := [1, 1, 6, 6, 6, 6, 1, 4, 4, 1, 1, 1, 1, 1, 1, 1, 1, 1, 1, 1, 1, 1, 0, 0, 0, 0, 0, 0, 0, 0, 0, 0, 0, 0, 0, 0, 0, 0, 0, 0, 0, 0, 0, 0, 0, 0, 0, 0, 0, 0, 0]) (by decide +kernel) (by decide +kernel), ins_gl (L' := [1, 1, 6, 6, 6, 6, 1, 4, 4, 1, 1, 1, 1, 1, 1, 1, 1, 1, 1, 1, 1, 1, 1, 0, 0, 0, 0, 0, 0, 0, 0, 0, 0, 0, 0, 0, 0, 0, 0, 0, 0, 0, 0, 0, 0, 0, 0, 0, 0, 0, 0]) (by decide +kernel) (by decide +kernel), ins_gl (L' := [1, 1, 6, 6, 6, 6, 1, 4, 4, 1, 1, 1, 1, 1, 1, 1, 1, 1, 1, 1, 1, 1, 1, 1, 0, 0, 0, 0, 0, 0, 0, 0, 0, 0, 0, 0, 0, 0, 0, 0, 0, 0, 0, 0, 0, 0, 0, 0, 0, 0, 0]) (by decide +kernel) (by decide +kernel), ins_gl (L' := [1, 1, 6, 6, 6, 6, 1, 4, 4, 1, 1, 1, 1, 1, 1, 1, 1, 1, 1, 1, 1, 2, 1, 1, 0, 0, 0, 0, 0, 0, 0, 0, 0, 0, 0, 0, 0, 0, 0, 0, 0, 0, 0, 0, 0, 0, 0, 0, 0, 0, 0]) (by decide +kernel) (by decide +kernel), ins_gl (L' := [1, 1, 6, 6, 6, 6, 1, 4, 4, 1, 1, 1, 1, 1, 1, 1, 1, 1, 1, 1, 1, 2, 2, 1, 0, 0, 0, 0, 0, 0, 0, 0, 0, 0, 0, 0, 0, 0, 0, 0, 0, 0, 0, 0, 0, 0, 0, 0, 0, 0, 0]) (by decide +kernel) (by decide +kernel), ins_gl (L' := [1, 1, 6, 6, 6, 6, 1, 4, 4, 1, 1, 1, 1, 1, 1, 1, 1, 1, 1, 1, 1, 2, 2, 2, 0, 0, 0, 0, 0, 0, 0, 0, 0, 0, 0, 0, 0, 0, 0, 0, 0, 0, 0, 0, 0, 0, 0, 0, 0, 0, 0]) (by decide +kernel) (by decide +kernel), ins_gl (L' := [1, 1, 6, 6, 6, 6, 1, 4, 4, 1, 1, 1, 1, 1, 1, 1, 1, 1, 1, 1, 1, 3, 2, 2, 0, 0, 0, 0, 0, 0, 0, 0, 0, 0, 0, 0, 0, 0, 0, 0, 0, 0, 0, 0, 0, 0, 0, 0, 0, 0, 0]) (by decide +kernel) (by decide +kernel), ins_gl (L' := [1, 1, 6, 6, 6, 6, 1, 4, 4, 1, 1, 1, 1, 1, 1, 1, 1, 1, 1, 1, 1, 3, 3, 2, 0, 0, 0, 0, 0, 0, 0, 0, 0, 0, 0, 0, 0, 0, 0, 0, 0, 0, 0, 0, 0, 0, 0, 0, 0, 0, 0]) (by decide +kernel) (by decide +kernel), ins_gl (L' := [1, 1, 6, 6, 6, 6, 1, 4, 4, 1, 1, 1, 1, 1, 1, 1, 1, 1, 1, 1, 1, 3, 3, 3, 0, 0, 0, 0, 0, 0, 0, 0, 0, 0, 0, 0, 0, 0, 0, 0, 0, 0, 0, 0, 0, 0, 0, 0, 0, 0, 0]) (by decide +kernel) (by decide +kernel), ins_gl (L' := [1, 1, 6, 6, 6, 6, 1, 4, 4, 1, 1, 1, 1, 1, 1, 1, 1, 1, 1, 1, 1, 4, 3, 3, 0, 0, 0, 0, 0, 0, 0, 0, 0, 0, 0, 0, 0, 0, 0, 0, 0, 0, 0, 0, 0, 0, 0, 0, 0, 0, 0]) (by decide +kernel) (by decide +kernel), ins_gl (L' := [1, 1, 6, 6, 6, 6, 1, 4, 4, 1, 1, 1, 1, 1, 1, 1, 1, 1, 1, 1, 1, 4, 4, 3, 0, 0, 0, 0, 0, 0, 0, 0, 0, 0, 0, 0, 0, 0, 0, 0, 0, 0, 0, 0, 0, 0, 0, 0, 0, 0, 0]) (by decide +kernel) (by decide +kernel), ins_gl (L' := [1, 1, 6, 6, 6, 6, 1, 4, 4, 1, 1, 1, 1, 1, 1, 1, 1, 1, 1, 1, 1, 4, 4, 4, 0, 0, 0, 0, 0, 0, 0, 0, 0, 0, 0, 0, 0, 0, 0, 0, 0, 0, 0, 0, 0, 0, 0, 0, 0, 0, 0]) (by decide +kernel) (by decide +kernel), ins_gl (L' := [1, 1, 6, 6, 6, 6, 1, 4, 4, 1, 1, 1, 1, 1, 1, 1, 1, 1, 1, 1, 1, 5, 4, 4, 0, 0, 0, 0, 0, 0, 0, 0, 0, 0, 0, 0, 0, 0, 0, 0, 0, 0, 0, 0, 0, 0, 0, 0, 0, 0, 0]) (by decide +kernel) (by decide +kernel), ins_gl (L' := [1, 1, 6, 6, 6, 6, 1, 4, 4, 1, 1, 1, 1, 1, 1, 1, 1, 1, 1, 1, 1, 5, 5, 4, 0, 0, 0, 0, 0, 0, 0, 0, 0, 0, 0, 0, 0, 0, 0, 0, 0, 0, 0, 0, 0, 0, 0, 0, 0, 0, 0]) (by decide +kernel) (by decide +kernel), ins_gl (L' := [1, 1, 6, 6, 6, 6, 1, 4, 4, 1, 1, 1, 1, 1, 1, 1, 1, 1, 1, 1, 1, 5, 5, 5, 0, 0, 0, 0, 0, 0, 0, 0, 0, 0, 0, 0, 0, 0, 0, 0, 0, 0, 0, 0, 0, 0, 0, 0, 0, 0, 0]) (by decide +kernel) (by decide +kernel)]]
  refine z_putr3 (x := 5) (t := 134) F dX8_init_131 rfl uX8 tyX8 tyX8_ok nmX8 fl_X8_51 (by decide) (by first | exact Or.inl rfl | exact Or.inr ⟨rfl, hini, rfl⟩) rfl (okq_of (by decide) (by decide)) (okq_of (by decide) (by decide)) rfl (by first | exact Or.inl ⟨_, rfl⟩ | exact Or.inr ⟨_, rfl⟩) rfl ?_
  refine z_aload_n (t := 135) F dX8_init_134 rfl rfl rfl ?_
  refine z_new (t := 138) (k := 18) (i := 1) F dX8_init_135 rfl uX7 tyX7 tyX7_ok cl_X8_46 is_X7 in_X7 rfl (by omega) rfl (by decide) df_X7 (ins_gl (L' := [1, 1, 6, 6, 6, 6, 1, 4, 4, 1, 1, 1, 1, 1, 1, 1, 1, 1, 2, 1, 1, 5, 5, 5, 0, 0, 0, 0, 0, 0, 0, 0, 0, 0, 0, 0, 0, 0, 0, 0, 0, 0, 0, 0, 0, 0, 0, 0, 0, 0, 0]) (by decide +kernel) (by decide +kernel)) (by simp only [okS, okL, okv, okq] <;> decide) (show okL _ [some (vR 0 0), some (vI 4)] from (by simp only [okS, okL, okv, okq] <;> decide)) ⟨by decide, by decide⟩ rfl (fun ad31 hs31 => ?_)
  refine z_dupR (t := 139) F dX8_init_138 rfl ?_
  refine z_aload_n (t := 140) F dX8_init_139 rfl rfl rfl ?_
  refine z_getr3 (x := 0) (k' := 1) (i' := 0) (t := 143) F dX8_init_140 rfl uX8 fl_X8_11 (by decide) rfl (okq_of (by decide) (by decide)) rfl (by decide +kernel) rfl ?_
  refine z_callI (t := 146) [_] F dX8_init_143 k_X7_init rfl im_X7_init rfl (Or.inl ml_X8_48) rfl rfl (Nat.le_of_ble_eq_true rfl) (by decide) (by decide) ⟨by decide, by decide⟩ (by simp only [okS, okL, okv, okq] <;> decide) (show okL _ [some (vR 0 0), some (vI 4)] from (by simp only [okS, okL, okv, okq] <;> decide)) (ci_X7 _ G _ _ _ _ 1 (by decide) (by decide) (by decide) (by decide) (by decide) (by decide) (by decide) (by decide)) rfl (fun ad32 m32 hs32 hm32 => ?_)
  subst hm32
  rw [show ins (ins (ins (ins (ins (ins (ins (ins (ins (ins (ins (ins (ins (ins (ins (ins (ins (gl [1, 1, 6, 6, 6, 6, 1, 4, 4, 1, 1, 1, 1, 1, 1, 1, 1, 1, 2, 1, 1, 5, 5, 5, 0, 0, 0, 0, 0, 0, 0, 0, 0, 0, 0, 0, 0, 0, 0, 0, 0, 0, 0, 0, 0, 0, 0, 0, 0, 0, 0]) 19) 20) 21) 22) 23) 21) 22) 23) 21) 22) 23) 21) 22) 23) 21) 22) 23 = gl [1, 1, 6, 6, 6, 6, 1, 4, 4, 1, 1, 1, 1, 1, 1, 1, 1, 1, 2, 2, 2, 10, 10, 10, 0, 0, 0, 0, 0, 0, 0, 0, 0, 0, 0, 0, 0, 0, 0, 0, 0, 0, 0, 0, 0, 0, 0, 0, 0, 0, 0] from by rw [ins_gl (L' := [1, 1, 6, 6, 6, 6, 1, 4, 4, 1, 1, 1, 1, 1, 1, 1, 1, 1, 2, 2, 1, 5, 5, 5, 0, 0, 0, 0, 0, 0, 0, 0, 0, 0, 0, 0, 0, 0, 0, 0, 0, 0, 0, 0, 0, 0, 0, 0, 0, 0, 0]) (by decide +kernel) (by decide +kernel), ins_gl (L' := [1, 1, 6, 6, 6, 6, 1, 4, 4, 1, 1, 1, 1, 1, 1, 1, 1, 1, 2, 2, 2, 5, 5, 5, 0, 0, 0, 0, 0, 0, 0, 0, 0, 0, 0, 0, 0, 0, 0, 0, 0, 0, 0, 0, 0, 0, 0, 0, 0, 0, 0]) (by decide +kernel) (by decide +kernel), ins_gl (L' := [1, 1, 6, 6, 6, 6, 1, 4, 4, 1, 1, 1, 1, 1, 1, 1, 1, 1, 2, 2, 2, 6, 5, 5, 0, 0, 0, 0, 0, 0, 0, 0, 0, 0, 0, 0, 0, 0, 0, 0, 0, 0, 0, 0, 0, 0, 0, 0, 0, 0, 0]) (by decide +kernel) (by decide +kernel), ins_gl (L' := [1, 1, 6, 6, 6, 6, 1, 4, 4, 1, 1, 1, 1, 1, 1, 1, 1, 1, 2, 2, 2, 6, 6, 5, 0, 0, 0, 0, 0, 0, 0, 0, 0, 0, 0, 0, 0, 0, 0, 0, 0, 0, 0, 0, 0, 0, 0, 0, 0, 0, 0]) (by decide +kernel) (by decide +kernel), ins_gl (L' := [1, 1, 6, 6, 6, 6, 1, 4, 4, 1, 1, 1, 1, 1, 1, 1, 1, 1, 2, 2, 2, 6, 6, 6, 0, 0, 0, 0, 0, 0, 0, 0, 0, 0, 0, 0, 0, 0, 0, 0, 0, 0, 0, 0, 0, 0, 0, 0, 0, 0, 0]) (by decide +kernel) (by decide +kernel), ins_gl (L' := [1, 1, 6, 6, 6, 6, 1, 4, 4, 1, 1, 1, 1, 1, 1, 1, 1, 1, 2, 2, 2, 7, 6, 6, 0, 0, 0, 0, 0, 0, 0, 0, 0, 0, 0, 0, 0, 0, 0, 0, 0, 0, 0, 0, 0, 0, 0, 0, 0, 0, 0]) (by decide +kernel) (by decide +kernel), ins_gl (L' := [1, 1, 6, 6, 6, 6, 1, 4, 4, 1, 1, 1, 1, 1, 1, 1, 1, 1, 2, 2, 2, 7, 7, 6, 0, 0, 0, 0, 0, 0, 0, 0, 0, 0, 0, 0, 0, 0, 0, 0, 0, 0, 0, 0, 0, 0, 0, 0, 0, 0, 0]) (by decide +kernel) (by decide +kernel), ins_gl (L' := [1, 1, 6, 6, 6, 6, 1, 4, 4, 1, 1, 1, 1, 1, 1, 1, 1, 1, 2, 2, 2, 7, 7, 7, 0, 0, 0, 0, 0, 0, 0, 0, 0, 0, 0, 0, 0, 0, 0, 0, 0, 0, 0, 0, 0, 0, 0, 0, 0, 0, 0]) (by decide +kernel) (by decide +kernel), ins_gl (L' := [1, 1, 6, 6, 6, 6, 1, 4, 4, 1, 1, 1, 1, 1, 1, 1, 1, 1, 2, 2, 2, 8, 7, 7, 0, 0, 0, 0, 0, 0, 0, 0, 0, 0, 0, 0, 0, 0, 0, 0, 0, 0, 0, 0, 0, 0, 0, 0, 0, 0, 0]) (by decide +kernel) (by decide +kernel), ins_gl (L' := [1, 1, 6, 6, 6, 6, 1, 4, 4, 1, 1, 1, 1, 1, 1, 1, 1, 1, 2, 2, 2, 8, 8, 7, 0, 0, 0, 0, 0, 0, 0, 0, 0, 0, 0, 0, 0, 0, 0, 0, 0, 0, 0, 0, 0, 0, 0, 0, 0, 0, 0]) (by decide +kernel) (by decide +kernel), ins_gl (L' := [1, 1, 6, 6, 6, 6, 1, 4, 4, 1, 1, 1, 1, 1, 1, 1, 1, 1, 2, 2, 2, 8, 8, 8, 0, 0, 0, 0, 0, 0, 0, 0, 0, 0, 0, 0, 0, 0, 0, 0, 0, 0, 0, 0, 0, 0, 0, 0, 0, 0, 0]) (by decide +kernel) (by decide +kernel), ins_gl (L' := [1, 1, 6, 6, 6, 6, 1, 4, 4, 1, 1, 1, 1, 1, 1, 1, 1, 1, 2, 2, 2, 9, 8, 8, 0, 0, 0, 0, 0, 0, 0, 0, 0, 0, 0, 0, 0, 0, 0, 0, 0, 0, 0, 0, 0, 0, 0, 0, 0, 0, 0]) (by decide +kernel) (by decide +kernel), ins_gl (L' := [1, 1, 6, 6, 6, 6, 1, 4, 4, 1, 1, 1, 1, 1, 1, 1, 1, 1, 2, 2, 2, 9, 9, 8, 0, 0, 0, 0, 0, 0, 0, 0, 0, 0, 0, 0, 0, 0, 0, 0, 0, 0, 0, 0, 0, 0, 0, 0, 0, 0, 0]) (by decide +kernel) (by decide +kernel), ins_gl (L' := [1, 1, 6, 6, 6, 6, 1, 4, 4, 1, 1, 1, 1, 1, 1, 1, 1, 1, 2, 2, 2, 9, 9, 9, 0, 0, 0, 0, 0, 0, 0, 0, 0, 0, 0, 0, 0, 0, 0, 0, 0, 0, 0, 0, 0, 0, 0, 0, 0, 0, 0]) (by decide +kernel) (by decide +kernel), ins_gl (L' := [1, 1, 6, 6, 6, 6, 1, 4, 4, 1, 1, 1, 1, 1, 1, 1, 1, 1, 2, 2, 2, 10, 9, 9, 0, 0, 0, 0, 0, 0, 0, 0, 0, 0, 0, 0, 0, 0, 0, 0, 0, 0, 0, 0, 0, 0, 0, 0, 0, 0, 0]) (by decide +kernel) (by decide +kernel), ins_gl (L' := [1, 1, 6, 6, 6, 6, 1, 4, 4, 1, 1, 1, 1, 1, 1, 1, 1, 1, 2, 2, 2, 10, 10, 9, 0, 0, 0, 0, 0, 0, 0, 0, 0, 0, 0, 0, 0, 0, 0, 0, 0, 0, 0, 0, 0, 0, 0, 0, 0, 0, 0]) (by decide +kernel) (by decide +kernel), ins_gl (L' := [1, 1, 6, 6, 6, 6, 1, 4, 4, 1, 1, 1, 1, 1, 1, 1, 1, 1, 2, 2, 2, 10, 10, 10, 0, 0, 0, 0, 0, 0, 0, 0, 0, 0, 0, 0, 0, 0, 0, 0, 0, 0, 0, 0, 0, 0, 0, 0, 0, 0, 0]) (by decide +kernel) (by decide +kernel)]]
  refine z_putr3 (x := 6) (t := 149) F dX8_init_146 rfl uX8 tyX8 tyX8_ok nmX8 fl_X8_55 (by decide) (by first | exact Or.inl rfl | exact Or.inr ⟨rfl, hini, rfl⟩) rfl (okq_of (by decide) (by decide)) (okq_of (by decide) (by decide)) rfl (by first | exact Or.inl ⟨_, rfl⟩ | exact Or.inr ⟨_, rfl⟩) rfl ?_
  refine z_aload_n (t := 150) F dX8_init_149 rfl rfl rfl ?_
  refine z_new (t := 153) (k := 18) (i := 2) F dX8_init_150 rfl uX7 tyX7 tyX7_ok cl_X8_46 is_X7 in_X7 rfl (by omega) rfl (by decide) df_X7 (ins_gl (L' := [1, 1, 6, 6, 6, 6, 1, 4, 4, 1, 1, 1, 1, 1, 1, 1, 1, 1, 3, 2, 2, 10, 10, 10, 0, 0, 0, 0, 0, 0, 0, 0, 0, 0, 0, 0, 0, 0, 0, 0, 0, 0, 0, 0, 0, 0, 0, 0, 0, 0, 0]) (by decide +kernel) (by decide +kernel)) (by simp only [okS, okL, okv, okq] <;> decide) (show okL _ [some (vR 0 0), some (vI 4)] from (by simp only [okS, okL, okv, okq] <;> decide)) ⟨by decide, by decide⟩ rfl (fun ad33 hs33 => ?_)
  refine z_dupR (t := 154) F dX8_init_153 rfl ?_
  refine z_aload_n (t := 155) F dX8_init_154 rfl rfl rfl ?_
  refine z_getr3 (x := 0) (k' := 1) (i' := 0) (t := 158) F dX8_init_155 rfl uX8 fl_X8_11 (by decide) rfl (okq_of (by decide) (by decide)) rfl (by decide +kernel) rfl ?_
  refine z_callI (t := 161) [_] F dX8_init_158 k_X7_init rfl im_X7_init rfl (Or.inl ml_X8_48) rfl rfl (Nat.le_of_ble_eq_true rfl) (by decide) (by decide) ⟨by decide, by decide⟩ (by simp only [okS, okL, okv, okq] <;> decide) (show okL _ [some (vR 0 0), some (vI 4)] from (by simp only [okS, okL, okv, okq] <;> decide)) (ci_X7 _ G _ _ _ _ 2 (by decide) (by decide) (by decide) (by decide) (by decide) (by decide) (by decide) (by decide)) rfl (fun ad34 m34 hs34 hm34 => ?_)
  subst hm34
  rw [show ins (ins (ins (ins (ins (ins (ins (ins (ins (ins (ins (ins (ins (ins (ins (ins (ins (gl [1, 1, 6, 6, 6, 6, 1, 4, 4, 1, 1, 1, 1, 1, 1, 1, 1, 1, 3, 2, 2, 10, 10, 10, 0, 0, 0, 0, 0, 0, 0, 0, 0, 0, 0, 0, 0, 0, 0, 0, 0, 0, 0, 0, 0, 0, 0, 0, 0, 0, 0]) 19) 20) 21) 22) 23) 21) 22) 23) 21) 22) 23) 21) 22) 23) 21) 22) 23 = gl [1, 1, 6, 6, 6, 6, 1, 4, 4, 1, 1, 1, 1, 1, 1, 1, 1, 1, 3, 3, 3, 15, 15, 15, 0, 0, 0, 0, 0, 0, 0, 0, 0, 0, 0, 0, 0, 0, 0, 0, 0, 0, 0, 0, 0, 0, 0, 0, 0, 0, 0] from by rw [ins_gl (L' := [1, 1, 6, 6, 6, 6, 1, 4, 4, 1, 1, 1, 1, 1, 1, 1, 1, 1, 3, 3, 2, 10, 10, 10, 0, 0, 0, 0, 0, 0, 0, 0, 0, 0, 0, 0, 0, 0, 0, 0, 0, 0, 0, 0, 0, 0, 0, 0, 0, 0, 0]) (by decide +kernel) (by decide +kernel), ins_gl (L' := [1, 1, 6, 6, 6, 6, 1, 4, 4, 1, 1, 1, 1, 1, 1, 1, 1, 1, 3, 3, 3, 10, 10, 10, 0, 0, 0, 0, 0, 0, 0, 0, 0, 0, 0, 0, 0, 0, 0, 0, 0, 0, 0, 0, 0, 0, 0, 0, 0, 0, 0]) (by decide +kernel) (by decide +kernel), ins_gl (L' := [1, 1, 6, 6, 6, 6, 1, 4, 4, 1, 1, 1, 1, 1, 1, 1, 1, 1, 3, 3, 3, 11, 10, 10, 0, 0, 0, 0, 0, 0, 0, 0, 0, 0, 0, 0, 0, 0, 0, 0, 0, 0, 0, 0, 0, 0, 0, 0, 0, 0, 0]) (by decide +kernel) (by decide +kernel), ins_gl (L' := [1, 1, 6, 6, 6, 6, 1, 4, 4, 1, 1, 1, 1, 1, 1, 1, 1, 1, 3, 3, 3, 11, 11, 10, 0, 0, 0, 0, 0, 0, 0, 0, 0, 0, 0, 0, 0, 0, 0, 0, 0, 0, 0, 0, 0, 0, 0, 0, 0, 0, 0]) (by decide +kernel) (by decide +kernel), ins_gl (L' := [1, 1, 6, 6, 6, 6, 1, 4, 4, 1, 1, 1, 1, 1, 1, 1, 1, 1, 3, 3, 3, 11, 11, 11, 0, 0, 0, 0, 0, 0, 0, 0, 0, 0, 0, 0, 0, 0, 0, 0, 0, 0, 0, 0, 0, 0, 0, 0, 0, 0, 0]) (by decide +kernel) (by decide +kernel), ins_gl (L' := [1, 1, 6, 6, 6, 6, 1, 4, 4, 1, 1, 1, 1, 1, 1, 1, 1, 1, 3, 3, 3, 12, 11, 11, 0, 0, 0, 0, 0, 0, 0, 0, 0, 0, 0, 0, 0, 0, 0, 0, 0, 0, 0, 0, 0, 0, 0, 0, 0, 0, 0]) (by decide +kernel) (by decide +kernel), ins_gl (L' := [1, 1, 6, 6, 6, 6, 1, 4, 4, 1, 1, 1, 1, 1, 1, 1, 1, 1, 3, 3, 3, 12, 12, 11, 0, 0, 0, 0, 0, 0, 0, 0, 0, 0, 0, 0, 0, 0, 0, 0, 0, 0, 0, 0, 0, 0, 0, 0, 0, 0, 0]) (by decide +kernel) (by decide +kernel), ins_gl (L' := [1, 1, 6, 6, 6, 6, 1, 4, 4, 1, 1, 1, 1, 1, 1, 1, 1, 1, 3, 3, 3, 12, 12, 12, 0, 0, 0, 0, 0, 0, 0, 0, 0, 0, 0, 0, 0, 0, 0, 0, 0, 0, 0, 0, 0, 0, 0, 0, 0, 0, 0]) (by decide +kernel) (by decide +kernel), ins_gl (L' := [1, 1, 6, 6, 6, 6, 1, 4, 4, 1, 1, 1, 1, 1, 1, 1, 1, 1, 3, 3, 3, 13, 12, 12, 0, 0, 0, 0, 0, 0, 0, 0, 0, 0, 0, 0, 0, 0, 0, 0, 0, 0, 0, 0, 0, 0, 0, 0, 0, 0, 0]) (by decide +kernel) (by decide +kernel), ins_gl (L' := [1, 1, 6, 6, 6, 6, 1, 4, 4, 1, 1, 1, 1, 1, 1, 1, 1, 1, 3, 3, 3, 13, 13, 12, 0, 0, 0, 0, 0, 0, 0, 0, 0, 0, 0, 0, 0, 0, 0, 0, 0, 0, 0, 0, 0, 0, 0, 0, 0, 0, 0]) (by decide +kernel) (by decide +kernel), ins_gl (L' := [1, 1, 6, 6, 6, 6, 1, 4, 4, 1, 1, 1, 1, 1, 1, 1, 1, 1, 3, 3, 3, 13, 13, 13, 0, 0, 0, 0, 0, 0, 0, 0, 0, 0, 0, 0, 0, 0, 0, 0, 0, 0, 0, 0, 0, 0, 0, 0, 0, 0, 0]) (by decide +kernel) (by decide +kernel), ins_gl (L' := [1, 1, 6, 6, 6, 6, 1, 4, 4, 1, 1, 1, 1, 1, 1, 1, 1, 1, 3, 3, 3, 14, 13, 13, 0, 0, 0, 0, 0, 0, 0, 0, 0, 0, 0, 0, 0, 0, 0, 0, 0, 0, 0, 0, 0, 0, 0, 0, 0, 0, 0]) (by decide +kernel) (by decide +kernel), ins_gl (L' := [1, 1, 6, 6, 6, 6, 1, 4, 4, 1, 1, 1, 1, 1, 1, 1, 1, 1, 3, 3, 3, 14, 14, 13, 0, 0, 0, 0, 0, 0, 0, 0, 0, 0, 0, 0, 0, 0, 0, 0, 0, 0, 0, 0, 0, 0, 0, 0, 0, 0, 0]) (by decide +kernel) (by decide +kernel), ins_gl (L' := [1, 1, 6, 6, 6, 6, 1, 4, 4, 1, 1, 1, 1, 1, 1, 1, 1, 1, 3, 3, 3, 14, 14, 14, 0, 0, 0, 0, 0, 0, 0, 0, 0, 0, 0, 0, 0, 0, 0, 0, 0, 0, 0, 0, 0, 0, 0, 0, 0, 0, 0]) (by decide +kernel) (by decide +kernel), ins_gl (L' := [1, 1, 6, 6, 6, 6, 1, 4, 4, 1, 1, 1, 1, 1, 1, 1, 1, 1, 3, 3, 3, 15, 14, 14, 0, 0, 0, 0, 0, 0, 0, 0, 0, 0, 0, 0, 0, 0, 0, 0, 0, 0, 0, 0, 0, 0, 0, 0, 0, 0, 0]) (by decide +kernel) (by decide +kernel), ins_gl (L' := [1, 1, 6, 6, 6, 6, 1, 4, 4, 1, 1, 1, 1, 1, 1, 1, 1, 1, 3, 3, 3, 15, 15, 14, 0, 0, 0, 0, 0, 0, 0, 0, 0, 0, 0, 0, 0, 0, 0, 0, 0, 0, 0, 0, 0, 0, 0, 0, 0, 0, 0]) (by decide +kernel) (by decide +kernel), ins_gl (L' := [1, 1, 6, 6, 6, 6, 1, 4, 4, 1, 1, 1, 1, 1, 1, 1, 1, 1, 3, 3, 3, 15, 15, 15, 0, 0, 0, 0, 0, 0, 0, 0, 0, 0, 0, 0, 0, 0, 0, 0, 0, 0, 0, 0, 0, 0, 0, 0, 0, 0, 0]) (by decide +kernel) (by decide +kernel)]]
  refine z_putr3 (x := 7) (t := 164) F dX8_init_161 rfl uX8 tyX8 tyX8_ok nmX8 fl_X8_58 (by decide) (by first | exact Or.inl rfl | exact Or.inr ⟨rfl, hini, rfl⟩) rfl (okq_of (by decide) (by decide)) (okq_of (by decide) (by decide)) rfl (by first | exact Or.inl ⟨_, rfl⟩ | exact Or.inr ⟨_, rfl⟩) rfl ?_
  refine z_mem (imF 0, rsC 0 0, lm0) (fun k i s hq hs => ?_) (fun hB => ?_) (fun k i s q hq hs hr h => ?_) ?_
  · have hq := mem_idn.mp hq
    refine ⟨by rw [imF_0]; rfl, fun hr => (rC0_rs k hq.1 i hq.2 s hs hr).1, rfl⟩
  · intro k i hi hc s
    have h := hB k i hi hc s
    have hk : ¬ k < 24 := fun q => by have := cap_C k q; have h9 : nC k ≤ i := hi; omega
    refine ⟨?_, if_neg hk, rfl⟩
    show imF 0 k i s = 0
    rw [imF_0]
    exact h.1
  · exact (rC0_rs k hq.1 i hq.2 s hs hr).2 q h
  exact x8_tail F ⟨by decide, by decide⟩ _ (fun im' h => z_vret F dX8_init_214 rfl (by decide) (by decide) (sam_trans (sam_trans (sam_trans (sam_trans (sam_trans (sam_trans (sam_trans (sam_trans (sam_trans (sam_trans (sam_trans (sam_trans (sam_trans (sam_trans (sam_trans (sam_trans (sam_trans (sam_trans (sam_trans (sam_trans (sam_trans (sam_trans (sam_trans (sam_trans (sam_trans (sam_trans (sam_trans (sam_trans (sam_trans (sam_trans (sam_trans (sam_trans (sam_trans hs1 hs2 (fun q hq => by first | exact okq_gl (by decide +kernel) hq | (repeat (first | exact hq | apply ins_ok)))) hs3 (fun q hq => by first | exact okq_gl (by decide +kernel) hq | (repeat (first | exact hq | apply ins_ok)))) hs4 (fun q hq => by first | exact okq_gl (by decide +kernel) hq | (repeat (first | exact hq | apply ins_ok)))) hs5 (fun q hq => by first | exact okq_gl (by decide +kernel) hq | (repeat (first | exact hq | apply ins_ok)))) hs6 (fun q hq => by first | exact okq_gl (by decide +kernel) hq | (repeat (first | exact hq | apply ins_ok)))) hs7 (fun q hq => by first | exact okq_gl (by decide +kernel) hq | (repeat (first | exact hq | apply ins_ok)))) hs8 (fun q hq => by first | exact okq_gl (by decide +kernel) hq | (repeat (first | exact hq | apply ins_ok)))) hs9 (fun q hq => by first | exact okq_gl (by decide +kernel) hq | (repeat (first | exact hq | apply ins_ok)))) hs10 (fun q hq => by first | exact okq_gl (by decide +kernel) hq | (repeat (first | exact hq | apply ins_ok)))) hs11 (fun q hq => by first | exact okq_gl (by decide +kernel) hq | (repeat (first | exact hq | apply ins_ok)))) hs12 (fun q hq => by first | exact okq_gl (by decide +kernel) hq | (repeat (first | exact hq | apply ins_ok)))) hs13 (fun q hq => by first | exact okq_gl (by decide +kernel) hq | (repeat (first | exact hq | apply ins_ok)))) hs14 (fun q hq => by first | exact okq_gl (by decide +kernel) hq | (repeat (first | exact hq | apply ins_ok)))) hs15 (fun q hq => by first | exact okq_gl (by decide +kernel) hq | (repeat (first | exact hq | apply ins_ok)))) hs16 (fun q hq => by first | exact okq_gl (by decide +kernel) hq | (repeat (first | exact hq | apply ins_ok)))) hs17 (fun q hq => by first | exact okq_gl (by decide +kernel) hq | (repeat (first | exact hq | apply ins_ok)))) hs18 (fun q hq => by first | exact okq_gl (by decide +kernel) hq | (repeat (first | exact hq | apply ins_ok)))) hs19 (fun q hq => by first | exact okq_gl (by decide +kernel) hq | (repeat (first | exact hq | apply ins_ok)))) hs20 (fun q hq => by first | exact okq_gl (by decide +kernel) hq | (repeat (first | exact hq | apply ins_ok)))) hs21 (fun q hq => by first | exact okq_gl (by decide +kernel) hq | (repeat (first | exact hq | apply ins_ok)))) hs22 (fun q hq => by first | exact okq_gl (by decide +kernel) hq | (repeat (first | exact hq | apply ins_ok)))) hs23 (fun q hq => by first | exact okq_gl (by decide +kernel) hq | (repeat (first | exact hq | apply ins_ok)))) hs24 (fun q hq => by first | exact okq_gl (by decide +kernel) hq | (repeat (first | exact hq | apply ins_ok)))) hs25 (fun q hq => by first | exact okq_gl (by decide +kernel) hq | (repeat (first | exact hq | apply ins_ok)))) hs26 (fun q hq => by first | exact okq_gl (by decide +kernel) hq | (repeat (first | exact hq | apply ins_ok)))) hs27 (fun q hq => by first | exact okq_gl (by decide +kernel) hq | (repeat (first | exact hq | apply ins_ok)))) hs28 (fun q hq => by first | exact okq_gl (by decide +kernel) hq | (repeat (first | exact hq | apply ins_ok)))) hs29 (fun q hq => by first | exact okq_gl (by decide +kernel) hq | (repeat (first | exact hq | apply ins_ok)))) hs30 (fun q hq => by first | exact okq_gl (by decide +kernel) hq | (repeat (first | exact hq | apply ins_ok)))) hs31 (fun q hq => by first | exact okq_gl (by decide +kernel) hq | (repeat (first | exact hq | apply ins_ok)))) hs32 (fun q hq => by first | exact okq_gl (by decide +kernel) hq | (repeat (first | exact hq | apply ins_ok)))) hs33 (fun q hq => by first | exact okq_gl (by decide +kernel) hq | (repeat (first | exact hq | apply ins_ok)))) hs34 (fun q hq => by first | exact okq_gl (by decide +kernel) hq | (repeat (first | exact hq | apply ins_ok)))) ⟨im', rfl, h⟩)
