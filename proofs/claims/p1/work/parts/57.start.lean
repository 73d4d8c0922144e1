/-! WHAT THE STATEMENT GIVES OF THE START -/
def tmS (i : Nat) : Term := .string ((refS.getD i ("", 0, "", 0)).1) ((refS.getD i ("", 0, "", 0)).2.1)
def FLc : List Cond := flatC (Jvm.Cond.and given_1 narrow_1)
def stS : List Nat := [86, 95, 105, 116, 130, 142, 157, 174, 191, 210, 226, 244, 36]
def exS (i : Nat) : List Cond := (Cond.exactly (tmS i) "java/lang/String") :: (Cond.eq (.field (tmS i) "java/lang/String" "coder" "B") (.int 0)) :: (Cond.arrayOf (.field (tmS i) "java/lang/String" "value" "[B") .byte) :: (Cond.eq (.length (.field (tmS i) "java/lang/String" "value" "[B")) (.int (Int32.ofNat (lenS.getD i 0)))) :: (List.range (lenS.getD i 0)).map (fun j => Cond.eq (.elem (.field (tmS i) "java/lang/String" "value" "[B") (.int (Int32.ofNat j))) (.int ((bytS.getD i []).getD j 0)))
theorem fl_S0 : ∀ i, i < 13 → (FLc.drop (stS.getD i 0)).take (4 + lenS.getD i 0) = exS i := by decide +kernel
theorem fl_Sm {i : Nat} (hi : i < 13) {c : Cond} (h : c ∈ exS i) : c ∈ FLc := by
  rw [← fl_S0 i hi] at h
  exact List.mem_of_mem_drop (List.mem_of_mem_take h)
theorem fl_S1 : ∀ i, i < 13 → (Cond.exactly (tmS i) "java/lang/String") ∈ FLc ∧ (Cond.eq (.field (tmS i) "java/lang/String" "coder" "B") (.int 0)) ∈ FLc ∧ (Cond.arrayOf (.field (tmS i) "java/lang/String" "value" "[B") .byte) ∈ FLc ∧ (Cond.eq (.length (.field (tmS i) "java/lang/String" "value" "[B")) (.int (Int32.ofNat (lenS.getD i 0)))) ∈ FLc := by
  intro i hi
  exact ⟨fl_Sm hi (.head _), fl_Sm hi (.tail _ (.head _)), fl_Sm hi (.tail _ (.tail _ (.head _))), fl_Sm hi (.tail _ (.tail _ (.tail _ (.head _))))⟩
theorem fl_S2 : ∀ i, i < 13 → ∀ j, j < lenS.getD i 0 → (Cond.eq (.elem (.field (tmS i) "java/lang/String" "value" "[B") (.int (Int32.ofNat j))) (.int ((bytS.getD i []).getD j 0))) ∈ FLc := by
  intro i hi j hj
  exact fl_Sm hi (.tail _ (.tail _ (.tail _ (.tail _ (List.mem_map.mpr ⟨j, List.mem_range.mpr hj, rfl⟩)))))
theorem fl_S3_0 : ∀ j, j < 13 → 0 = j ∨ FLc[([0, 104, 114, 127, 138, 152, 168, 184, 202, 217, 234, 252, 94] : List Nat).getD j 0]? = some (Cond.not (Cond.eq (tmS 0) (tmS j))) ∨ FLc[([0, 104, 114, 127, 138, 152, 168, 184, 202, 217, 234, 252, 94] : List Nat).getD j 0]? = some (Cond.not (Cond.eq (tmS j) (tmS 0))) := by decide +kernel
theorem fl_S3_1 : ∀ j, j < 13 → 1 = j ∨ FLc[([104, 0, 115, 128, 139, 153, 169, 185, 203, 218, 235, 253, 103] : List Nat).getD j 0]? = some (Cond.not (Cond.eq (tmS 1) (tmS j))) ∨ FLc[([104, 0, 115, 128, 139, 153, 169, 185, 203, 218, 235, 253, 103] : List Nat).getD j 0]? = some (Cond.not (Cond.eq (tmS j) (tmS 1))) := by decide +kernel
theorem fl_S3_2 : ∀ j, j < 13 → 2 = j ∨ FLc[([114, 115, 0, 129, 140, 154, 170, 186, 204, 219, 236, 254, 113] : List Nat).getD j 0]? = some (Cond.not (Cond.eq (tmS 2) (tmS j))) ∨ FLc[([114, 115, 0, 129, 140, 154, 170, 186, 204, 219, 236, 254, 113] : List Nat).getD j 0]? = some (Cond.not (Cond.eq (tmS j) (tmS 2))) := by decide +kernel
theorem fl_S3_3 : ∀ j, j < 13 → 3 = j ∨ FLc[([127, 128, 129, 0, 141, 155, 171, 187, 205, 220, 237, 255, 126] : List Nat).getD j 0]? = some (Cond.not (Cond.eq (tmS 3) (tmS j))) ∨ FLc[([127, 128, 129, 0, 141, 155, 171, 187, 205, 220, 237, 255, 126] : List Nat).getD j 0]? = some (Cond.not (Cond.eq (tmS j) (tmS 3))) := by decide +kernel
theorem fl_S3_4 : ∀ j, j < 13 → 4 = j ∨ FLc[([138, 139, 140, 141, 0, 156, 172, 188, 206, 221, 238, 256, 137] : List Nat).getD j 0]? = some (Cond.not (Cond.eq (tmS 4) (tmS j))) ∨ FLc[([138, 139, 140, 141, 0, 156, 172, 188, 206, 221, 238, 256, 137] : List Nat).getD j 0]? = some (Cond.not (Cond.eq (tmS j) (tmS 4))) := by decide +kernel
theorem fl_S3_5 : ∀ j, j < 13 → 5 = j ∨ FLc[([152, 153, 154, 155, 156, 0, 173, 189, 207, 222, 239, 257, 151] : List Nat).getD j 0]? = some (Cond.not (Cond.eq (tmS 5) (tmS j))) ∨ FLc[([152, 153, 154, 155, 156, 0, 173, 189, 207, 222, 239, 257, 151] : List Nat).getD j 0]? = some (Cond.not (Cond.eq (tmS j) (tmS 5))) := by decide +kernel
theorem fl_S3_6 : ∀ j, j < 13 → 6 = j ∨ FLc[([168, 169, 170, 171, 172, 173, 0, 190, 208, 223, 240, 258, 167] : List Nat).getD j 0]? = some (Cond.not (Cond.eq (tmS 6) (tmS j))) ∨ FLc[([168, 169, 170, 171, 172, 173, 0, 190, 208, 223, 240, 258, 167] : List Nat).getD j 0]? = some (Cond.not (Cond.eq (tmS j) (tmS 6))) := by decide +kernel
theorem fl_S3_7 : ∀ j, j < 13 → 7 = j ∨ FLc[([184, 185, 186, 187, 188, 189, 190, 0, 209, 224, 241, 259, 183] : List Nat).getD j 0]? = some (Cond.not (Cond.eq (tmS 7) (tmS j))) ∨ FLc[([184, 185, 186, 187, 188, 189, 190, 0, 209, 224, 241, 259, 183] : List Nat).getD j 0]? = some (Cond.not (Cond.eq (tmS j) (tmS 7))) := by decide +kernel
theorem fl_S3_8 : ∀ j, j < 13 → 8 = j ∨ FLc[([202, 203, 204, 205, 206, 207, 208, 209, 0, 225, 242, 260, 201] : List Nat).getD j 0]? = some (Cond.not (Cond.eq (tmS 8) (tmS j))) ∨ FLc[([202, 203, 204, 205, 206, 207, 208, 209, 0, 225, 242, 260, 201] : List Nat).getD j 0]? = some (Cond.not (Cond.eq (tmS j) (tmS 8))) := by decide +kernel
theorem fl_S3_9 : ∀ j, j < 13 → 9 = j ∨ FLc[([217, 218, 219, 220, 221, 222, 223, 224, 225, 0, 243, 261, 216] : List Nat).getD j 0]? = some (Cond.not (Cond.eq (tmS 9) (tmS j))) ∨ FLc[([217, 218, 219, 220, 221, 222, 223, 224, 225, 0, 243, 261, 216] : List Nat).getD j 0]? = some (Cond.not (Cond.eq (tmS j) (tmS 9))) := by decide +kernel
theorem fl_S3_10 : ∀ j, j < 13 → 10 = j ∨ FLc[([234, 235, 236, 237, 238, 239, 240, 241, 242, 243, 0, 262, 233] : List Nat).getD j 0]? = some (Cond.not (Cond.eq (tmS 10) (tmS j))) ∨ FLc[([234, 235, 236, 237, 238, 239, 240, 241, 242, 243, 0, 262, 233] : List Nat).getD j 0]? = some (Cond.not (Cond.eq (tmS j) (tmS 10))) := by decide +kernel
theorem fl_S3_11 : ∀ j, j < 13 → 11 = j ∨ FLc[([252, 253, 254, 255, 256, 257, 258, 259, 260, 261, 262, 0, 251] : List Nat).getD j 0]? = some (Cond.not (Cond.eq (tmS 11) (tmS j))) ∨ FLc[([252, 253, 254, 255, 256, 257, 258, 259, 260, 261, 262, 0, 251] : List Nat).getD j 0]? = some (Cond.not (Cond.eq (tmS j) (tmS 11))) := by decide +kernel
theorem fl_S3_12 : ∀ j, j < 13 → 12 = j ∨ FLc[([94, 103, 113, 126, 137, 151, 167, 183, 201, 216, 233, 251, 0] : List Nat).getD j 0]? = some (Cond.not (Cond.eq (tmS 12) (tmS j))) ∨ FLc[([94, 103, 113, 126, 137, 151, 167, 183, 201, 216, 233, 251, 0] : List Nat).getD j 0]? = some (Cond.not (Cond.eq (tmS j) (tmS 12))) := by decide +kernel
theorem fl_S3 : ∀ i, i < 13 → ∀ j, j < 13 → i = j ∨ (Cond.not (Cond.eq (tmS i) (tmS j))) ∈ FLc ∨ (Cond.not (Cond.eq (tmS j) (tmS i))) ∈ FLc := by
  intro i hi j hj
  rcases (show i = 0 ∨ i = 1 ∨ i = 2 ∨ i = 3 ∨ i = 4 ∨ i = 5 ∨ i = 6 ∨ i = 7 ∨ i = 8 ∨ i = 9 ∨ i = 10 ∨ i = 11 ∨ i = 12 by omega) with rfl | rfl | rfl | rfl | rfl | rfl | rfl | rfl | rfl | rfl | rfl | rfl | rfl
  · exact (fl_S3_0 j hj).imp id (fun h => h.imp List.mem_of_getElem? List.mem_of_getElem?)
  · exact (fl_S3_1 j hj).imp id (fun h => h.imp List.mem_of_getElem? List.mem_of_getElem?)
  · exact (fl_S3_2 j hj).imp id (fun h => h.imp List.mem_of_getElem? List.mem_of_getElem?)
  · exact (fl_S3_3 j hj).imp id (fun h => h.imp List.mem_of_getElem? List.mem_of_getElem?)
  · exact (fl_S3_4 j hj).imp id (fun h => h.imp List.mem_of_getElem? List.mem_of_getElem?)
  · exact (fl_S3_5 j hj).imp id (fun h => h.imp List.mem_of_getElem? List.mem_of_getElem?)
  · exact (fl_S3_6 j hj).imp id (fun h => h.imp List.mem_of_getElem? List.mem_of_getElem?)
  · exact (fl_S3_7 j hj).imp id (fun h => h.imp List.mem_of_getElem? List.mem_of_getElem?)
  · exact (fl_S3_8 j hj).imp id (fun h => h.imp List.mem_of_getElem? List.mem_of_getElem?)
  · exact (fl_S3_9 j hj).imp id (fun h => h.imp List.mem_of_getElem? List.mem_of_getElem?)
  · exact (fl_S3_10 j hj).imp id (fun h => h.imp List.mem_of_getElem? List.mem_of_getElem?)
  · exact (fl_S3_11 j hj).imp id (fun h => h.imp List.mem_of_getElem? List.mem_of_getElem?)
  · exact (fl_S3_12 j hj).imp id (fun h => h.imp List.mem_of_getElem? List.mem_of_getElem?)
theorem fl_Z : (Cond.eq (.static "java/lang/String" "COMPACT_STRINGS" "Z") (.int 1)) ∈ FLc ∧ (Cond.isRef (.static "jdk/internal/util/Preconditions" "SIOOBE_FORMATTER" "Ljava/util/function/BiFunction;")) ∈ FLc := by decide +kernel
theorem ref_at : ∀ q ∈ refS, refS.getD q.2.2.2 ("", 0, "", 0) = q ∧ q.2.2.2 < 13 := by decide +kernel
theorem tb_tbl {w : Cond} (h : w ∈ TB) : w ∈ lw_tbl := (List.mem_filter.mp h).1
theorem nf_tbl {w : Cond} (h : w ∈ NF) : w ∈ lw_tbl := (List.mem_filter.mp h).1
theorem ref_tbl : ∀ q ∈ refS, Cond.stringRef q.1 q.2.1 q.2.2.1 ∈ lw_tbl := by
  intro q hq
  unfold refS at hq
  simp only [List.mem_cons, List.not_mem_nil, or_false] at hq
  rcases hq with rfl | rfl | rfl | rfl | rfl | rfl | rfl | rfl | rfl | rfl | rfl | rfl | rfl
  all_goals first | exact sr_X8_61 | exact sr_X4_118 | exact sr_X4_120 | exact sr_X4_122 | exact sr_X4_124 | exact sr_X4_126 | exact sr_X4_128 | exact sr_X4_130 | exact sr_X4_132 | exact sr_X4_134 | exact sr_X4_136 | exact sr_X4_138 | exact sr_X4_140
section St
variable {s : State} {b : Nat}
theorem st_strings (hts : ∀ w ∈ lw_tbl, w.before #[Value.ref b] s = true) (hgv : (Jvm.Cond.and given_1 narrow_1).before #[Value.ref b] s = true) {A : Nat → Prop} (hA : ∀ a : Nat, a < s.heap.size → ¬ A a) : ∃ ad : Ads, ad 96 0 = b ∧ AMx ad A s := by
  have hs := flat_of_before _ hgv
  obtain ⟨adK, adV, hS, he⟩ := vk_Sof (args := #[Value.ref b]) (s := s) (N := 13) (tm := tmS) (len := lenS) (byt := bytS) (A := A) (fun i hi => Nat.lt_of_le_of_lt (len_in i hi) (by decide)) (fun i hi => hs _ (fl_S1 i hi).1) (fun i hi => hs _ (fl_S1 i hi).2.1) (fun i hi => hs _ (fl_S1 i hi).2.2.1) (fun i hi => hs _ (fl_S1 i hi).2.2.2) (fun i hi j hj => hs _ (fl_S2 i hi j hj)) (fun i j hi hj hne => (fl_S3 i hi j hj).elim (fun h => absurd h hne) (fun h => h.imp (hs _) (hs _))) hA
  have hZ := va_Zof (hts _ ls_J0_COMPACT_STRINGS) (hts _ (tb_tbl in_J0)) (va_eqt (hs _ fl_Z.1)) hA
  have hF := va_Zqof (hts _ ls_J3_SIOOBE_FORMATTER) (hts _ (tb_tbl in_J3)) (hs _ fl_Z.2) hA
  obtain ⟨z, hz⟩ : ∃ z : Nat, va_Z "jdk/internal/util/Preconditions" "SIOOBE_FORMATTER" "Ljava/util/function/BiFunction;" .null A s s.heap ∨ va_Z "jdk/internal/util/Preconditions" "SIOOBE_FORMATTER" "Ljava/util/function/BiFunction;" (.ref z) A s s.heap := by
    rcases hF with h | ⟨z, h⟩
    · exact ⟨0, Or.inl h⟩
    · exact ⟨z, Or.inr h⟩
  refine ⟨fun k i => if k = 99 then adK i else if k = 98 then adV i else if k = 97 then z else b, by show (if (96 : Nat) = 99 then adK 0 else if (96 : Nat) = 98 then adV 0 else if (96 : Nat) = 97 then z else b) = b; rw [if_neg (by omega), if_neg (by omega), if_neg (by omega)], ?_⟩
  have e99 : (fun i => if (99 : Nat) = 99 then adK i else if (99 : Nat) = 98 then adV i else if (99 : Nat) = 97 then z else b) = adK := funext fun i => if_pos rfl
  have e98 : (fun i => if (98 : Nat) = 99 then adK i else if (98 : Nat) = 98 then adV i else if (98 : Nat) = 97 then z else b) = adV := funext fun i => by rw [if_neg (by omega), if_pos rfl]
  refine ⟨nf_of hts, ?_, fun q hq => ?_, hZ, ?_⟩
  · show vk_S 13 lenS bytS (fun i => if (99 : Nat) = 99 then adK i else if (99 : Nat) = 98 then adV i else if (99 : Nat) = 97 then z else b) (fun i => if (98 : Nat) = 99 then adK i else if (98 : Nat) = 98 then adV i else if (98 : Nat) = 97 then z else b) A s s.heap
    rw [e99, e98]
    exact hS
  · have hq2 := ref_at q hq
    have h2 := he q.2.2.2 hq2.2
    unfold tmS at h2
    rw [hq2.1] at h2
    have h3 : (fun k i => if k = 99 then adK i else if k = 98 then adV i else if k = 97 then z else b) 99 q.2.2.2 = adK q.2.2.2 := if_pos rfl
    rw [h3]
    exact vk_R.of (hts _ (ref_tbl q hq)) h2
  · exact hz
theorem st_array {t0 : Nat} (ht : t0 < 5) (hts : ∀ w ∈ lw_tbl, w.before #[Value.ref b] s = true) : ∃ cA : ClassId, ArrOfT s cA (aty t0) ∧ va_RA s cA (aty t0) := by
  rcases (show t0 = 0 ∨ t0 = 1 ∨ t0 = 2 ∨ t0 = 3 ∨ t0 = 4 by omega) with rfl | rfl | rfl | rfl | rfl
  · obtain ⟨c, k, comp, h1, h2, h3⟩ := Cond.arrayClass_spec (hts _ (tb_tbl ac_int))
    exact ⟨c, fun N z => ⟨(fun k h => by cases h), k, h2, comp, h3⟩, h1⟩
  · obtain ⟨c, k, comp, h1, h2, h3⟩ := Cond.arrayClass_spec (hts _ (tb_tbl ac_boolean))
    exact ⟨c, fun N z => ⟨(fun k h => by cases h), k, h2, comp, h3⟩, h1⟩
  · obtain ⟨comp, c, k, h1, h2, h3, h4, h5⟩ := Cond.arrayOver_spec (hts _ ao_128)
    exact ⟨c, fun N z => ⟨(fun k h => by cases h), k, h3, comp, h4⟩, k, comp, h3, h4, h1, h5⟩
  · obtain ⟨comp, c, k, h1, h2, h3, h4, h5⟩ := Cond.arrayOver_spec (hts _ ao_130)
    exact ⟨c, fun N z => ⟨(fun k h => by cases h), k, h3, comp, h4⟩, k, comp, h3, h4, h1, h5⟩
  · obtain ⟨comp, c, k, h1, h2, h3, h4, h5⟩ := Cond.arrayOver_spec (hts _ ao_267)
    exact ⟨c, fun N z => ⟨(fun k h => by cases h), k, h3, comp, h4⟩, k, comp, h3, h4, h1, h5⟩
theorem st_K (hts : ∀ w ∈ lw_tbl, w.before #[Value.ref b] s = true) : ∃ G : GS, va_K G.1 vwCl (tyl G.2) s := by
  have ht : ∀ w ∈ TB, w.before #[Value.ref b] s = true := fun w hw => hts w (tb_tbl hw)
  obtain ⟨c0, i0, k0⟩ := u_known (C := RX0) (T := TX0) (N := 5) (n := 5) ht uX0 (ht _ is_X0)
  obtain ⟨c1, i1, k1⟩ := u_known (C := RX1) (T := TX1) (N := 7) (n := 7) ht uX1 (ht _ is_X1)
  obtain ⟨c2, i2, k2⟩ := u_known (C := RX3) (T := TX3) (N := 4) (n := 4) ht uX3 (ht _ is_X3)
  obtain ⟨c3, i3, k3⟩ := u_known (C := RX4) (T := TX4) (N := 8) (n := 8) ht uX4 (ht _ is_X4)
  obtain ⟨c4, i4, k4⟩ := u_known (C := RX5) (T := TX5) (N := 3) (n := 3) ht uX5 (ht _ is_X5)
  obtain ⟨c5, i5, k5⟩ := u_known (C := RX6) (T := TX6) (N := 4) (n := 4) ht uX6 (ht _ is_X6)
  obtain ⟨c6, i6, k6⟩ := u_known (C := RX7) (T := TX7) (N := 8) (n := 8) ht uX7 (ht _ is_X7)
  obtain ⟨c7, i7, k7⟩ := u_known (C := RX8) (T := TX8) (N := 10) (n := 10) ht uX8 (ht _ is_X8)
  obtain ⟨c8, i8, k8⟩ := u_known (C := RX9) (T := TX9) (N := 55) (n := 55) ht uX9 (ht _ is_X9)
  obtain ⟨a0, b0⟩ := st_array (t0 := 0) (by omega) hts
  obtain ⟨a1, b1⟩ := st_array (t0 := 1) (by omega) hts
  obtain ⟨a2, b2⟩ := st_array (t0 := 2) (by omega) hts
  obtain ⟨a3, b3⟩ := st_array (t0 := 3) (by omega) hts
  obtain ⟨a4, b4⟩ := st_array (t0 := 4) (by omega) hts
  refine ⟨((fun k => [c0, c1, c2, c3, c4, c5, c6, c7, c8].getD k c0, fun k => [i0, i1, i2, i3, i4, i5, i6, i7, i8].getD k i0), fun k => [a0, a1, a2, a3, a4].getD k a0), fun k q hq => ?_, fun k q hq => ?_⟩
  · match k, hq with
    | 0, hq => cases hq; exact k0
    | 1, hq => cases hq; exact k1
    | 2, hq => cases hq; exact k2
    | 3, hq => cases hq; exact k3
    | 4, hq => cases hq; exact k4
    | 5, hq => cases hq; exact k5
    | 6, hq => cases hq; exact k6
    | 7, hq => cases hq; exact k7
    | 8, hq => cases hq; exact k8
    | k + 9, hq => simp [vwCl] at hq
  · match k, hq with
    | 0, hq => cases hq; exact b0
    | 1, hq => cases hq; exact b1
    | 2, hq => cases hq; exact b2
    | 3, hq => cases hq; exact b3
    | 4, hq => cases hq; exact b4
    | k + 5, hq => simp [tyl] at hq
theorem st_AO (hts : ∀ w ∈ lw_tbl, w.before #[Value.ref b] s = true) : AO s := ⟨hts _ ao_128, hts _ ao_130, hts _ ao_267⟩
end St
