/-! THE JDK'S METHODS on String constants -/
theorem len_in (i : Nat) (hi : i < 13) : lenS.getD i 0 ≤ 46 := by
  revert i
  decide
theorem let_in {i j : Nat} (hi : i < 13) (hj : j < lenS.getD i 0) : 0 ≤ ((bytS.getD i []).getD j 0).toInt ∧ ((bytS.getD i []).getD j 0).toInt < 128 := by
  have h : ∀ i, i < 13 → ∀ j, j < 46 → 0 ≤ ((bytS.getD i []).getD j 0).toInt ∧ ((bytS.getD i []).getD j 0).toInt < 128 := by decide +kernel
  exact h i hi j (by have := len_in i hi; omega)
theorem nar_char (n : Nat) (h : n < 128) : narrow .char (.int (jI n)) = .int (jI n) := by
  have h2 : ∀ n, n < 128 → narrow .char (.int (jI ((n : Nat) : Int))) = .int (jI ((n : Nat) : Int)) := by decide +kernel
  exact h2 n h
section JRules
variable {M : MS} {G : GS} {ad : Ads} {Y : YS} {post : Option SV → Mem → Prop} {pc t : Nat} {ls : List (Option SV)} {st : List SV} {m : Mem}
theorem wp_gcs {idx : Nat} (F : Fx M (XC G) ad Y) (hd : decode Y.2.1 pc = .ok (.getstatic idx, 3)) (hlink : Cond.fieldLink Y.1 idx "java/lang/String" "COMPACT_STRINGS" "Z" ∈ TB) (ht : t = pc + 3) (k : Wp M (XC G) ad Y post t ls (vI 1 :: st) m) : Wp M (XC G) ad Y post pc ls st m := by
  subst ht
  intro H locs a hP hS hl
  exact va_gets F.1 F.2.1 (v := .int 1) F.2.2.2.2.2.2.2.2.1.2.2.2.1 hS F.2.2.2.1 (F.2.2.2.2.1 _ hlink) (fun _ h => h) hd (k H locs a hP hS hl)
theorem wp_gfm {idx : Nat} (F : Fx M (XC G) ad Y) (hd : decode Y.2.1 pc = .ok (.getstatic idx, 3)) (hlink : Cond.fieldLink Y.1 idx "jdk/internal/util/Preconditions" "SIOOBE_FORMATTER" "Ljava/util/function/BiFunction;" ∈ TB) (ht : t = pc + 3) (k : ∀ v : SV, (v = vN ∨ v = vR 97 0) → Wp M (XC G) ad Y post t ls (v :: st) m) : Wp M (XC G) ad Y post pc ls st m := by
  subst ht
  intro H locs a hP hS hl
  rcases F.2.2.2.2.2.2.2.2.1.2.2.2.2 with h | h
  · exact va_gets F.1 F.2.1 (v := .null) h hS F.2.2.2.1 (F.2.2.2.2.1 _ hlink) (fun _ h => h) hd (k vN (Or.inl rfl) H locs a hP hS hl)
  · exact va_gets F.1 F.2.1 (v := .ref (ad 97 0)) h hS F.2.2.2.1 (F.2.2.2.2.1 _ hlink) (fun _ h => h) hd (k (vR 97 0) (Or.inr rfl) H locs a hP hS hl)
theorem wp_gval {idx i : Nat} (F : Fx M (XC G) ad Y) (hi : i < 13) (hd : decode Y.2.1 pc = .ok (.getfield idx, 3)) (hlink : Cond.fieldLink Y.1 idx "java/lang/String" "value" "[B" ∈ TB) (ht : t = pc + 3) (k : Wp M (XC G) ad Y post t ls (vR 98 i :: st) m) : Wp M (XC G) ad Y post pc ls (vR 99 i :: st) m := by
  subst ht
  intro H locs a hP hS hl
  exact vk_getf F.1 F.2.1 (F.2.2.2.2.2.2.2.2.1.2.1.1 i hi).2.2.1 hS F.2.2.2.1 (F.2.2.2.2.1 _ hlink) (fun _ h => h) hd (k H locs a hP hS hl)
theorem wp_gcod {idx i : Nat} (F : Fx M (XC G) ad Y) (hi : i < 13) (hd : decode Y.2.1 pc = .ok (.getfield idx, 3)) (hlink : Cond.fieldLink Y.1 idx "java/lang/String" "coder" "B" ∈ TB) (ht : t = pc + 3) (k : Wp M (XC G) ad Y post t ls (vI 0 :: st) m) : Wp M (XC G) ad Y post pc ls (vR 99 i :: st) m := by
  subst ht
  intro H locs a hP hS hl
  exact vk_getf F.1 F.2.1 (F.2.2.2.2.2.2.2.2.1.2.1.1 i hi).2.1 hS F.2.2.2.1 (F.2.2.2.2.1 _ hlink) (fun _ h => h) hd (k H locs a hP hS hl)
theorem wp_slen {i : Nat} (F : Fx M (XC G) ad Y) (hi : i < 13) (hd : decode Y.2.1 pc = .ok (.arraylength, 1)) (ht : t = pc + 1) (k : Wp M (XC G) ad Y post t ls (vI ((lenS.getD i 0 : Nat) : Int) :: st) m) : Wp M (XC G) ad Y post pc ls (vR 98 i :: st) m := by
  subst ht
  intro H locs a hP hS hl
  exact va_tlen F.1 F.2.1 (F.2.2.2.2.2.2.2.2.1.2.1.1 i hi).2.2.2 hS (v := jI ((lenS.getD i 0 : Nat) : Int)) (j_nI _) hd (k H locs a hP hS hl)
/-- a letter of a constant -/
def letS (i j : Nat) : Int := ((bytS.getD i []).getD j 0).toInt
theorem wp_sbal {i j : Nat} (F : Fx M (XC G) ad Y) (hi : i < 13) (hj : j < lenS.getD i 0) (hl31 : j < 2147483648) (hd : decode Y.2.1 pc = .ok (.baload, 1)) (ht : t = pc + 1) (k : Wp M (XC G) ad Y post t ls (vI (letS i j) :: st) m) : Wp M (XC G) ad Y post pc ls (vI (j : Int) :: vR 98 i :: st) m := by
  subst ht
  intro H locs a hP hS hl
  refine va_tb F.1 F.2.1 (F.2.2.2.2.2.2.2.2.1.2.1.1 i hi).2.2.2 hS (j_in (by omega) (by omega) (by have := len_in i hi; omega)) (v := .int (jI (letS i j))) ?_ hd (k H locs a hP hS hl)
  rw [j_cl ⟨by omega, by omega⟩, Int.toNat_natCast]
  show Value.int _ = Value.int _
  rw [show jI (letS i j) = (bytS.getD i []).getD j 0 from Int32.ofInt_toInt _]
theorem q_ldcS {idx : Nat} {tx : String} (i : Nat) (F : Fx M (XC G) ad Y) (hd : decode Y.2.1 pc = .ok (.ldc idx, 2)) (hr : (Y.1, idx, tx, i) ∈ refS) (ht : t = pc + 2) (k : Wp M (XC G) ad Y post t ls (vR 99 i :: st) m) : Wp M (XC G) ad Y post pc ls st m := by
  subst ht
  intro H locs a hP hS hl
  have q := F.2.2.2.2.2.2.2.2.1.2.2.1 _ hr
  exact va_ldcS F.1 F.2.1 F.2.2.2.1 q hd (k H locs a hP hS hl)
theorem q_i2c {x : Int} (F : Fx M (XC G) ad Y) (hd : decode Y.2.1 pc = .ok (.i2c, 1)) (h0 : 0 ≤ x) (h1 : x < 65536) (ht : t = pc + 1) (k : Wp M (XC G) ad Y post t ls (vI x :: st) m) : Wp M (XC G) ad Y post pc ls (vI x :: st) m := by
  subst ht
  intro H locs a hP hS hl
  refine lv_i2c F.1 F.2.1 hd (lg_i2c_word ?_ ?_) (k H locs a hP hS hl)
  · rw [j_toInt ⟨by omega, by omega⟩]; exact h0
  · rw [j_toInt ⟨by omega, by omega⟩]; exact h1
theorem q_and255 {x : Int} (F : Fx M (XC G) ad Y) (hd : decode Y.2.1 pc = .ok (.iand, 1)) (h0 : 0 ≤ x) (h1 : x < 256) (ht : t = pc + 1) (k : Wp M (XC G) ad Y post t ls (vI x :: st) m) : Wp M (XC G) ad Y post pc ls (vI 255 :: vI x :: st) m := by
  obtain ⟨n, rfl⟩ : ∃ n : Nat, x = (n : Int) := ⟨x.toNat, by omega⟩
  refine q_iand (x := n) (y := 255) F hd ht ?_
  rw [show n &&& 255 = n from by rw [show 255 = 2 ^ 8 - 1 from rfl, Nat.and_two_pow_sub_one_eq_mod]; exact Nat.mod_eq_of_lt (by omega)]
  exact k
theorem q_cret {x : Int} (F : Fx M (XC G) ad Y) (hd : decode Y.2.1 pc = .ok (.ireturn, 1)) (hr : Y.2.2.2.1 = some .char) (hz : narrow .char (.int (jI x)) = .int (jI x)) (k : post (some (vI x)) m) : Wp M (XC G) ad Y post pc ls [vI x] m := by
  intro H locs a hP hS hl
  exact W.zret (v := jI x) F.1 F.2.1 (F.2.2.2.2.2.2.2.2.2.2.trans hr) hz (fun t ht hW => ⟨⟨some (vI x), m, rfl, k, by rw [ht]; exact hP⟩, hS.F ht⟩) hS.2.2 hd F.2.2.2.2.2.2.2.2.2.1
theorem q_bret {x : Int} (F : Fx M (XC G) ad Y) (hd : decode Y.2.1 pc = .ok (.ireturn, 1)) (hr : Y.2.2.2.1 = some .byte) (hz : narrow .byte (.int (jI x)) = .int (jI x)) (k : post (some (vI x)) m) : Wp M (XC G) ad Y post pc ls [vI x] m := by
  intro H locs a hP hS hl
  exact W.zret (v := jI x) F.1 F.2.1 (F.2.2.2.2.2.2.2.2.2.2.trans hr) hz (fun t ht hW => ⟨⟨some (vI x), m, rfl, k, by rw [ht]; exact hP⟩, hS.F ht⟩) hS.2.2 hd F.2.2.2.2.2.2.2.2.2.1
theorem q_rret {k' i' : Nat} {C : String} (F : Fx M (XC G) ad Y) (hd : decode Y.2.1 pc = .ok (.areturn, 1)) (hr : Y.2.2.2.1 = some (.object C)) (k : post (some (vR k' i')) m) : Wp M (XC G) ad Y post pc ls [vR k' i'] m := by
  intro H locs a hP hS hl
  exact W.aret (v := .ref (ad k' i')) F.1 F.2.1 (F.2.2.2.2.2.2.2.2.2.2.trans hr) (Or.inl ⟨C, rfl⟩) (Or.inr ⟨_, rfl⟩) (fun t ht hW => ⟨⟨some (vR k' i'), m, rfl, k, by rw [ht]; exact hP⟩, hS.F ht⟩) hS.2.2 hd F.2.2.2.2.2.2.2.2.2.1
/-- invokevirtual on a String constant -/
theorem wp_callK {y : MethodName} {Yc : YS} {i idx n : Nat} (as : List SV) {rest st0 : List SV} {postc : Option SV → Mem → Prop} (F : Fx M (XC G) ad Y) (hi : i < 13) (hc : y.cls = "java/lang/String") (hd : decode Y.2.1 pc = .ok (.invokevirtual idx, 3)) (hk : mOk TB y Yc n) (hv : mV TB y) (hlink : Cond.methodLink Y.1 idx y ∈ TB) (hst : st0 = as.reverse ++ vR 99 i :: rest) (hn : as.length = n) (hrest : (rest.map sc).sum ≤ 8) (hlev : Yc.2.2.2.2 + 1 ≤ Y.2.2.2.2) (hC : Cn M.2.1 (XC G) y Yc (vR 99 i :: as) m postc) (ht : t = pc + 3) (kk : ∀ (r : Option SV) (m' : Mem), postc r m' → Wp M (XC G) ad Y post t ls (r.toList ++ rest) m') : Wp M (XC G) ad Y post pc ls st0 m := by
  subst ht
  intro H locs a hP hS hl
  refine wp_back hS hl (va_runV (As := as.map (tr ad)) (n := n) ⟨F.1, F.2.1, F.2.2.1, F.2.2.2.1, F.2.2.2.2.1⟩ (hC ad H.size) ⟨cb_of F hk hlev (F.2.2.2.2.1 _ hlink), F.2.2.2.2.1 _ hv.1, F.2.2.2.2.1 _ hv.2⟩ ⟨cn_blind F.2.2.2.2.2.2.1, ?_, cn_pre F hP hS⟩ rfl (by rw [List.length_map]; exact hn) hl.1 ?_ ?_ hd ⟨Nat.le_refl 0, Nat.le_refl 0⟩) kk
  · rw [hc]
    exact vk_recv F.2.2.2.2.2.2.2.2.1.2.1 hi hS
  · show st0.map (tr ad) = _
    rw [hst, List.map_append, List.map_reverse]; rfl
  · exact lv_room (by rw [sc_sum]; exact hrest)
end JRules
theorem c_J0_coder_7d493 (l : Launch) (G : GS) (m : Mem) (i : Nat) (hi : i < 13) : Cn l (XC G) yJ0_coder_7d493 Y_J0_coder_7d493 [vR 99 i] m (pI fun x m' => x = 0 ∧ m' = m) := by
  refine cn_of (by decide) (okC G) rfl (Nat.le_of_ble_eq_true rfl) ?_
  intro M ad hMl F
  show Wp M (XC G) ad Y_J0_coder_7d493 _ 0 [some (vR 99 i)] [] m
  refine wp_gcs (t := 3) F dJ0_coder_7d493_0 fl_J0_38 rfl ?_
  refine q_if_eq (t := 6) (u := 13) F dJ0_coder_7d493_3 (by constructor <;> omega) (by decide) rfl (fun c3 => by omega) (fun c3 => ?_)
  refine q_aload_n (t := 7) F dJ0_coder_7d493_6 rfl rfl rfl ?_
  refine wp_gcod (t := 10) F hi dJ0_coder_7d493_7 fl_J0_15 rfl ?_
  refine q_goto (t := 14) F dJ0_coder_7d493_10 (by decide) ?_
  refine q_bret F dJ0_coder_7d493_14 rfl (by decide) ?_
  exact ⟨_, rfl, rfl, rfl⟩
theorem c_J0_isLatin1_aae02 (l : Launch) (G : GS) (m : Mem) (i : Nat) (hi : i < 13) : Cn l (XC G) yJ0_isLatin1_aae02 Y_J0_isLatin1_aae02 [vR 99 i] m (pI fun x m' => x = 1 ∧ m' = m) := by
  refine cn_of (by decide) (okC G) rfl (Nat.le_of_ble_eq_true rfl) ?_
  intro M ad hMl F
  show Wp M (XC G) ad Y_J0_isLatin1_aae02 _ 0 [some (vR 99 i)] [] m
  refine wp_gcs (t := 3) F dJ0_isLatin1_aae02_0 fl_J0_38 rfl ?_
  refine q_if_eq (t := 6) (u := 17) F dJ0_isLatin1_aae02_3 (by constructor <;> omega) (by decide) rfl (fun c3 => by omega) (fun c3 => ?_)
  refine q_aload_n (t := 7) F dJ0_isLatin1_aae02_6 rfl rfl rfl ?_
  refine wp_gcod (t := 10) F hi dJ0_isLatin1_aae02_7 fl_J0_15 rfl ?_
  refine q_if_ne (t := 13) (u := 17) F dJ0_isLatin1_aae02_10 (by constructor <;> omega) (by decide) rfl (fun c10 => by omega) (fun c10 => ?_)
  refine q_iconst (t := 14) F dJ0_isLatin1_aae02_13 rfl ?_
  refine q_goto (t := 18) F dJ0_isLatin1_aae02_14 (by decide) ?_
  refine q_zret F dJ0_isLatin1_aae02_18 rfl (by decide) ?_
  exact ⟨_, rfl, rfl, rfl⟩
theorem c_J0_length_8abf5 (l : Launch) (G : GS) (m : Mem) (i : Nat) (hi : i < 13) : Cn l (XC G) yJ0_length_8abf5 Y_J0_length_8abf5 [vR 99 i] m (pI fun x m' => x = ((lenS.getD i 0 : Nat) : Int) ∧ m' = m) := by
  refine cn_of (by decide) (okC G) rfl (Nat.le_of_ble_eq_true rfl) ?_
  intro M ad hMl F
  subst hMl
  show Wp M (XC G) ad Y_J0_length_8abf5 _ 0 [some (vR 99 i)] [] m
  have hL := len_in i hi
  refine q_aload_n (t := 1) F dJ0_length_8abf5_0 rfl rfl rfl ?_
  refine wp_gval (t := 4) F hi dJ0_length_8abf5_1 fl_J0_9 rfl ?_
  refine wp_slen (t := 5) F hi dJ0_length_8abf5_4 rfl ?_
  refine q_aload_n (t := 6) F dJ0_length_8abf5_5 rfl rfl rfl ?_
  refine wp_callK (t := 9) [] F hi rfl dJ0_length_8abf5_6 k_J0_coder_7d493 v_J0_coder_7d493 ml_J0_335 rfl rfl (Nat.le_of_ble_eq_true rfl) (by decide) (c_J0_coder_7d493 _ G m i hi) rfl (kI ?_)
  rintro x m' ⟨rfl, rfl⟩
  refine q_ishr (t := 10) F dJ0_length_8abf5_9 (by constructor <;> omega) (by omega) (by omega) (by omega) rfl ?_
  refine q_iret F dJ0_length_8abf5_10 rfl ?_
  exact ⟨_, rfl, Int.ediv_one _, rfl⟩
theorem c_J3_checkIndex_8e157 (l : Launch) (G : GS) (m : Mem) (i n : Int) (v : SV) (hv : v = vN ∨ v = vR 97 0) (h0 : 0 ≤ i) (h1 : i < n) (hn : ri n) : Cn l (XC G) yJ3_checkIndex_8e157 Y_J3_checkIndex_8e157 [vI i, vI n, v] m (pI fun x m' => x = i ∧ m' = m) := by
  have hn2 := hn.2
  have hsz : ent [vI i, vI n, v] = [some (vI i), some (vI n), some v] := by rcases hv with rfl | rfl <;> rfl
  refine cn_of (by decide) (okC G) rfl (by rcases hv with rfl | rfl <;> exact Nat.le_of_ble_eq_true rfl) ?_
  intro M ad hMl F
  rw [hsz]
  refine q_iload_n (t := 1) F dJ3_checkIndex_8e157_0 rfl rfl rfl ?_
  refine q_if_lt (t := 4) (u := 9) F dJ3_checkIndex_8e157_1 (by constructor <;> omega) (by decide) rfl (fun c1 => by omega) (fun c1 => ?_)
  refine q_iload_n (t := 5) F dJ3_checkIndex_8e157_4 rfl rfl rfl ?_
  refine q_iload_n (t := 6) F dJ3_checkIndex_8e157_5 rfl rfl rfl ?_
  refine q_icmp_lt (t := 9) (u := 16) F dJ3_checkIndex_8e157_6 (by constructor <;> omega) (by constructor <;> omega) (by decide) rfl (fun c6 => ?_) (fun c6 => by omega)
  refine q_iload_n (t := 17) F dJ3_checkIndex_8e157_16 rfl rfl rfl ?_
  refine q_iret F dJ3_checkIndex_8e157_17 rfl ?_
  exact ⟨_, rfl, rfl, rfl⟩
theorem c_J0_checkIndex_df160 (l : Launch) (G : GS) (m : Mem) (i n : Int) (h0 : 0 ≤ i) (h1 : i < n) (hn : ri n) : Cn l (XC G) yJ0_checkIndex_df160 Y_J0_checkIndex_df160 [vI i, vI n] m (pV fun m' => m' = m) := by
  refine cn_of (by decide) (okC G) rfl (Nat.le_of_ble_eq_true rfl) ?_
  intro M ad hMl F
  subst hMl
  show Wp M (XC G) ad Y_J0_checkIndex_df160 _ 0 [some (vI i), some (vI n)] [] m
  refine q_iload_n (t := 1) F dJ0_checkIndex_df160_0 rfl rfl rfl ?_
  refine q_iload_n (t := 2) F dJ0_checkIndex_df160_1 rfl rfl rfl ?_
  refine wp_gfm (t := 5) F dJ0_checkIndex_df160_2 fl_J0_1053 rfl (fun v hv => ?_)
  refine wp_callS (t := 8) [vI i, vI n, v] F dJ0_checkIndex_df160_5 k_J3_checkIndex_8e157 st_J3_checkIndex_8e157 ml_J0_1059 rfl rfl (Nat.le_of_ble_eq_true rfl) (by decide) (c_J3_checkIndex_8e157 _ G m i n v hv h0 h1 hn) rfl (kI ?_)
  rintro x m' ⟨rfl, rfl⟩
  refine q_popI (t := 9) F dJ0_checkIndex_df160_8 rfl ?_
  refine q_vret F dJ0_checkIndex_df160_9 rfl ?_
  exact ⟨rfl, rfl⟩
theorem c_J1_charAt_3b067 (l : Launch) (G : GS) (m : Mem) (i j : Nat) (hi : i < 13) (hj : j < lenS.getD i 0) : Cn l (XC G) yJ1_charAt_3b067 Y_J1_charAt_3b067 [vR 98 i, vI (j : Int)] m (pI fun x m' => x = letS i j ∧ m' = m) := by
  refine cn_of (by decide) (okC G) rfl (Nat.le_of_ble_eq_true rfl) ?_
  intro M ad hMl F
  subst hMl
  show Wp M (XC G) ad Y_J1_charAt_3b067 _ 0 [some (vR 98 i), some (vI (j : Int))] [] m
  have hL := len_in i hi
  have hc : 0 ≤ letS i j ∧ letS i j < 128 := let_in hi hj
  refine q_iload_n (t := 1) F dJ1_charAt_3b067_0 rfl rfl rfl ?_
  refine q_aload_n (t := 2) F dJ1_charAt_3b067_1 rfl rfl rfl ?_
  refine wp_slen (t := 3) F hi dJ1_charAt_3b067_2 rfl ?_
  refine wp_callS (t := 6) [_, _] F dJ1_charAt_3b067_3 k_J0_checkIndex_df160 st_J0_checkIndex_df160 ml_J1_9 rfl rfl (Nat.le_of_ble_eq_true rfl) (by decide) (c_J0_checkIndex_df160 _ G m j ((lenS.getD i 0 : Nat) : Int) (by omega) (by omega) (by constructor <;> omega)) rfl (kV ?_)
  rintro m' rfl
  refine q_aload_n (t := 7) F dJ1_charAt_3b067_6 rfl rfl rfl ?_
  refine q_iload_n (t := 8) F dJ1_charAt_3b067_7 rfl rfl rfl ?_
  refine wp_sbal (t := 9) F hi hj (by omega) dJ1_charAt_3b067_8 rfl ?_
  refine q_sipush (t := 12) F dJ1_charAt_3b067_9 (by decide) rfl ?_
  refine q_and255 (t := 13) F dJ1_charAt_3b067_12 hc.1 (by omega) rfl ?_
  refine q_i2c (t := 14) F dJ1_charAt_3b067_13 hc.1 (by omega) rfl ?_
  refine q_cret F dJ1_charAt_3b067_14 rfl ?_ ?_
  · obtain ⟨n, hn⟩ : ∃ n : Nat, letS i j = (n : Int) := ⟨(letS i j).toNat, by omega⟩
    rw [hn]
    exact nar_char n (by omega)
  · exact ⟨_, rfl, rfl, rfl⟩
theorem c_J0_charAt_5068e (l : Launch) (G : GS) (m : Mem) (i j : Nat) (hi : i < 13) (hj : j < lenS.getD i 0) : Cn l (XC G) yJ0_charAt_5068e Y_J0_charAt_5068e [vR 99 i, vI (j : Int)] m (pI fun x m' => x = letS i j ∧ m' = m) := by
  refine cn_of (by decide) (okC G) rfl (Nat.le_of_ble_eq_true rfl) ?_
  intro M ad hMl F
  subst hMl
  show Wp M (XC G) ad Y_J0_charAt_5068e _ 0 [some (vR 99 i), some (vI (j : Int))] [] m
  have hc : 0 ≤ letS i j ∧ letS i j < 128 := let_in hi hj
  refine q_aload_n (t := 1) F dJ0_charAt_5068e_0 rfl rfl rfl ?_
  refine wp_callK (t := 4) [] F hi rfl dJ0_charAt_5068e_1 k_J0_isLatin1_aae02 v_J0_isLatin1_aae02 ml_J0_492 rfl rfl (Nat.le_of_ble_eq_true rfl) (by decide) (c_J0_isLatin1_aae02 _ G m i hi) rfl (kI ?_)
  rintro x m' ⟨rfl, rfl⟩
  refine q_if_eq (t := 7) (u := 16) F dJ0_charAt_5068e_4 (by constructor <;> omega) (by decide) rfl (fun c4 => by omega) (fun c4 => ?_)
  refine q_aload_n (t := 8) F dJ0_charAt_5068e_7 rfl rfl rfl ?_
  refine wp_gval (t := 11) F hi dJ0_charAt_5068e_8 fl_J0_9 rfl ?_
  refine q_iload_n (t := 12) F dJ0_charAt_5068e_11 rfl rfl rfl ?_
  refine wp_callS (t := 15) [_, _] F dJ0_charAt_5068e_12 k_J1_charAt_3b067 st_J1_charAt_3b067 ml_J0_495 rfl rfl (Nat.le_of_ble_eq_true rfl) (by decide) (c_J1_charAt_3b067 _ G m' i j hi hj) rfl (kI ?_)
  rintro x m2 ⟨rfl, rfl⟩
  refine q_cret F dJ0_charAt_5068e_15 rfl ?_ ?_
  · obtain ⟨n, hn⟩ : ∃ n : Nat, letS i j = (n : Int) := ⟨(letS i j).toNat, by omega⟩
    rw [hn]
    exact nar_char n (by omega)
  · exact ⟨_, rfl, rfl, rfl⟩
