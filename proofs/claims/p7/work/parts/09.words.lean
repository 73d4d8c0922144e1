/-- the words of the tables that hold at every state that is warm: all rows of ours rest on these -/
def TB : List Cond := lw_tbl.filter goodWord
theorem tb_at {w : Cond} (i : Nat) (h : lw_tbl[i]? = some w) (g : goodWord w = true) : w ∈ TB := List.mem_filter.mpr ⟨List.mem_of_getElem? h, g⟩
def isNest : Cond → Bool
  | .fieldLinkNest .. => true
  | .methodLinkNest .. => true
  | _ => false
/-- the words of nest mates: they hold at a state by va_Nw -/
def NF : List Cond := lw_tbl.filter isNest
theorem nf_at {w : Cond} (i : Nat) (h : lw_tbl[i]? = some w) (g : isNest w = true) : w ∈ NF := List.mem_filter.mpr ⟨List.mem_of_getElem? h, g⟩
theorem nf_warm {s U : State} (hW : s.WarmedH U.vm) (h : ∀ w ∈ NF, va_Nw w s) : ∀ w ∈ NF, va_Nw w U := by
  intro w hw
  have h1 := h w hw
  have h2 := (List.mem_filter.mp hw).2
  cases w <;> first | exact va_Nw.warmF hW h1 | exact va_Nw.warmM hW h1 | (simp [isNest] at h2; done)
theorem nf_same {u U : State} (hv : u.vm = U.vm) (h : ∀ w ∈ NF, va_Nw w u) : ∀ w ∈ NF, va_Nw w U := by
  intro w hw
  have h1 := h w hw
  have h2 := (List.mem_filter.mp hw).2
  cases w <;> first | exact va_Nw.same rfl hv h1 | (simp [isNest] at h2; done)
theorem nf_of {A : Array Value} {U : State} (h : ∀ w ∈ lw_tbl, w.before A U = true) : ∀ w ∈ NF, va_Nw w U := by
  intro w hw
  have h1 := h w (List.mem_filter.mp hw).1
  have h2 := (List.mem_filter.mp hw).2
  cases w <;> first | exact va_Nw.of rfl h1 | (simp [isNest] at h2; done)
theorem tb_in : ∀ w ∈ TB, w ∈ lw_tbl := fun _ h => (List.mem_filter.mp h).1
theorem tb_good {ws : List Cond} (h : ∀ w ∈ ws, w ∈ TB) : GoodIn TB ws := fun w hw => ⟨h w hw, good_of_word (List.mem_filter.mp (h w hw)).2⟩
theorem tb_goodL {ws : List Cond} (h : ∀ w ∈ ws, w ∈ TB) : GoodIn lw_tbl ws := fun w hw => ⟨tb_in _ (h w hw), good_of_word (List.mem_filter.mp (h w hw)).2⟩
theorem tb_ws {ws : List Cond} (ps : List Nat) (hp : ws = ps.filterMap (fun i => lw_tbl[i]?)) (h : ws.all goodWord = true) : ∀ w ∈ ws, w ∈ TB := fun w hw => by
  have g := List.all_eq_true.mp h w hw
  rw [hp] at hw
  obtain ⟨i, -, hi⟩ := List.mem_filterMap.mp hw
  exact tb_at i hi g
theorem tb_wd {ws : List Cond} (s : Nat) (ps : List Nat) (hp : ws = ps.filterMap (fun i => (lw_tbl.drop s)[i]?)) (h : ws.all goodWord = true) : ∀ w ∈ ws, w ∈ TB := fun w hw => by
  have g := List.all_eq_true.mp h w hw
  rw [hp] at hw
  obtain ⟨i, -, hi⟩ := List.mem_filterMap.mp hw
  rw [List.getElem?_drop] at hi
  exact tb_at (s + i) hi g
theorem uX0 : ∀ w ∈ wsX00, w ∈ TB := tb_ws [249, 251, 253, 255, 257] (by decide +kernel) (by decide +kernel)
theorem uX1 : ∀ w ∈ wsX10, w ∈ TB := tb_ws [150, 152, 154, 156, 158, 160, 162] (by decide +kernel) (by decide +kernel)
theorem uX2 : ∀ w ∈ wsX20, w ∈ TB := tb_ws [] (by decide +kernel) (by decide +kernel)
theorem uX3 : ∀ w ∈ wsX30, w ∈ TB := tb_ws [289, 291, 293, 295] (by decide +kernel) (by decide +kernel)
theorem uX4 : ∀ w ∈ wsX40, w ∈ TB := tb_ws [217, 219, 221, 223, 225, 227, 229, 231] (by decide +kernel) (by decide +kernel)
theorem uX5 : ∀ w ∈ wsX50, w ∈ TB := tb_ws [195, 197, 199] (by decide +kernel) (by decide +kernel)
theorem uX6 : ∀ w ∈ wsX60, w ∈ TB := tb_ws [175, 177, 179, 181] (by decide +kernel) (by decide +kernel)
theorem uX7 : ∀ w ∈ wsX70, w ∈ TB := tb_ws [318, 320, 322, 324, 326, 328, 330, 332] (by decide +kernel) (by decide +kernel)
theorem uX8 : ∀ w ∈ wsX80, w ∈ TB := tb_ws [497, 499, 501, 503, 505, 507, 509, 511, 513, 515] (by decide +kernel) (by decide +kernel)
theorem uX9 : ∀ w ∈ wsX90, w ∈ TB := tb_ws [930, 932, 934, 936, 938, 940, 942, 944, 946, 948, 950, 952, 954, 956, 958, 960, 962, 964, 966, 968, 970, 972, 974, 976, 978, 980, 982, 984, 986, 988, 990, 992, 994, 996, 998, 1000, 1002, 1004, 1006, 1008, 1010, 1012, 1014, 1016, 1018, 1020, 1022, 1024, 1026, 1028, 1030, 1032, 1034, 1036, 1038] (by decide +kernel) (by decide +kernel)
theorem uJ6 : ∀ w ∈ wsJ60, w ∈ TB := tb_ws [] (by decide +kernel) (by decide +kernel)
theorem uJ9 : ∀ w ∈ wsJ90, w ∈ TB := tb_ws [] (by decide +kernel) (by decide +kernel)
theorem uJ0 : ∀ w ∈ wsJ00, w ∈ TB := tb_ws [] (by decide +kernel) (by decide +kernel)
theorem uJ1 : ∀ w ∈ wsJ10, w ∈ TB := tb_ws [] (by decide +kernel) (by decide +kernel)
theorem uJ2 : ∀ w ∈ wsJ20, w ∈ TB := tb_ws [] (by decide +kernel) (by decide +kernel)
theorem uJ10 : ∀ w ∈ wsJ100, w ∈ TB := tb_ws [] (by decide +kernel) (by decide +kernel)
theorem uJ3 : ∀ w ∈ wsJ30, w ∈ TB := tb_ws [] (by decide +kernel) (by decide +kernel)
def wc_0 : List Cond := [Cond.arrayClass Jvm.ClassFile.FieldType.byte, Cond.methodLink RL 13 yX8_set, Cond.instanceMethod yX8_set, Cond.selects RX8 yX8_set yX8_set, Cond.methodLink RX8 85 yX8_setHour, Cond.instanceMethod yX8_setHour, Cond.methodLink RX8 88 yX8_setChurch, Cond.instanceMethod yX8_setChurch, Cond.constant RX8 111 (16777216 : Int32), Cond.methodLink RX8 95 yX8_within, Cond.static yX8_within, Cond.methodLink RX8 91 yX8_isOne, Cond.instanceMethod yX8_isOne, Cond.methodLink RL 18 yX8_man, Cond.instanceMethod yX8_man, Cond.selects RX8 yX8_man yX8_man, Cond.methodLink RX8 118 yX7_welcome, Cond.instanceMethod yX7_welcome, Cond.selects RX7 yX7_welcome yX7_welcome, Cond.methodLink RL 23 yX8_told, Cond.instanceMethod yX8_told, Cond.selects RX8 yX8_told yX8_told, Cond.methodLink RX8 125 yX3_stuckInAll, Cond.instanceMethod yX3_stuckInAll, Cond.selects RX3 yX3_stuckInAll yX3_stuckInAll, Cond.methodLink RX8 128 yX8_toldOfGap, Cond.instanceMethod yX8_toldOfGap, Cond.methodLink RX8 139 yX0_look, Cond.instanceMethod yX0_look, Cond.selects RX0 yX0_look yX0_look, Cond.methodLink RX8 143 yX0_holds, Cond.instanceMethod yX0_holds, Cond.selects RX0 yX0_holds yX0_holds, Cond.methodLink RX0 54 yX6_tell, Cond.instanceMethod yX6_tell, Cond.selects RX6 yX6_tell yX6_tell, Cond.methodLink RX6 25 yX6_put, Cond.instanceMethod yX6_put, Cond.methodLink RX6 29 yX6_join, Cond.instanceMethod yX6_join]
theorem bc_0 : ∀ w ∈ wc_0, w ∈ TB := tb_wd 518 [0, 1, 2, 3, 5, 7, 9, 11, 13, 14, 15, 17, 19, 21, 22, 23, 25, 26, 27, 29, 30, 31, 33, 34, 35, 37, 39, 41, 42, 43, 45, 46, 47, 49, 50, 51, 53, 55, 57, 59] (by decide +kernel) (by decide +kernel)
def wc_1 : List Cond := [Cond.methodLink RX6 33 yJ9_min_7cf53, Cond.static yJ9_min_7cf53, Cond.methodLink RX6 38 yJ9_max_7cf53, Cond.static yJ9_max_7cf53, Cond.methodLink RX0 60 yX2_holds, Cond.static yX2_holds, Cond.methodLink RX2 9 yX2_heldFor, Cond.static yX2_heldFor, Cond.methodLink RX2 21 yJ9_min_7cf53, Cond.methodLink RX2 15 yJ9_max_7cf53, Cond.methodLink RL 27 yX8_fill, Cond.instanceMethod yX8_fill, Cond.selects RX8 yX8_fill yX8_fill, Cond.methodLink RL 32 yX8_feed, Cond.instanceMethod yX8_feed, Cond.selects RX8 yX8_feed yX8_feed, Cond.methodLink RL 37 yX8_text, Cond.instanceMethod yX8_text, Cond.selects RX8 yX8_text yX8_text, Cond.methodLink RL 42 yX8_force, Cond.instanceMethod yX8_force, Cond.selects RX8 yX8_force yX8_force, Cond.methodLink RL 46 yX8_say, Cond.instanceMethod yX8_say, Cond.selects RX8 yX8_say yX8_say, Cond.methodLink RX8 150 yX7_utter, Cond.instanceMethod yX7_utter, Cond.selects RX7 yX7_utter yX7_utter, Cond.methodLink RX7 71 yX7_takes, Cond.instanceMethod yX7_takes, Cond.selects RX7 yX7_takes yX7_takes, Cond.methodLink RX7 55 yX3_stuckInAll, Cond.methodLink RX7 59 yX6_tell, Cond.methodLink RX7 65 yX2_takes, Cond.static yX2_takes, Cond.methodLink RL 50 yX8_floss, Cond.instanceMethod yX8_floss, Cond.selects RX8 yX8_floss yX8_floss, Cond.methodLink RX8 153 yX3_empty, Cond.instanceMethod yX3_empty]
theorem bc_1 : ∀ w ∈ wc_1, w ∈ TB := tb_wd 579 [0, 1, 3, 4, 6, 7, 9, 10, 12, 13, 14, 15, 16, 18, 19, 20, 22, 23, 24, 26, 27, 28, 30, 31, 32, 34, 35, 36, 38, 39, 40, 42, 43, 44, 45, 48, 49, 50, 52, 53] (by decide +kernel) (by decide +kernel)
def wc_2 : List Cond := [Cond.selects RX3 yX3_empty yX3_empty, Cond.methodLink RL 54 yX8_kiss, Cond.instanceMethod yX8_kiss, Cond.selects RX8 yX8_kiss yX8_kiss, Cond.methodLink RX8 156 yX7_handOn, Cond.instanceMethod yX7_handOn, Cond.selects RX7 yX7_handOn yX7_handOn, Cond.methodLink RX7 81 yX3_empty, Cond.methodLink RL 58 yX8_live, Cond.instanceMethod yX8_live, Cond.selects RX8 yX8_live yX8_live, Cond.methodLink RX8 159 yX7_pass, Cond.instanceMethod yX7_pass, Cond.selects RX7 yX7_pass yX7_pass, Cond.methodLink RX7 85 yX0_look, Cond.methodLink RX7 91 yX0_goesOffIn, Cond.instanceMethod yX0_goesOffIn, Cond.selects RX0 yX0_goesOffIn yX0_goesOffIn, Cond.methodLink RX0 66 yX0_holds, Cond.methodLink RX7 94 yX7_isChurchIn, Cond.instanceMethod yX7_isChurchIn, Cond.selects RX7 yX7_isChurchIn yX7_isChurchIn, Cond.methodLink RX7 98 yX0_bears, Cond.instanceMethod yX0_bears, Cond.selects RX0 yX0_bears yX0_bears, Cond.methodLink RX0 69 yX2_bears, Cond.static yX2_bears, Cond.methodLink RL 62 yX8_run, Cond.instanceMethod yX8_run, Cond.selects RX8 yX8_run yX8_run, Cond.methodLink RX8 163 yX8_isSpan, Cond.static yX8_isSpan, Cond.methodLink RX8 166 yX1_look, Cond.instanceMethod yX1_look, Cond.selects RX1 yX1_look yX1_look, Cond.methodLink RX1 39 yX0_look, Cond.methodLink RX1 45 yX0_goesOffIn, Cond.methodLink RX1 49 yX7_isChurchIn, Cond.methodLink RX1 53 yX0_bears, Cond.methodLink RX1 57 yX1_note]
theorem bc_2 : ∀ w ∈ wc_2, w ∈ TB := tb_wd 633 [0, 2, 3, 4, 6, 7, 8, 10, 11, 12, 13, 15, 16, 17, 19, 20, 21, 22, 24, 25, 26, 27, 29, 30, 31, 33, 34, 36, 37, 38, 40, 41, 43, 44, 45, 47, 48, 49, 50, 51] (by decide +kernel) (by decide +kernel)
def wc_3 : List Cond := [Cond.instanceMethod yX1_note, Cond.methodLink RL 66 yX8_off, Cond.instanceMethod yX8_off, Cond.selects RX8 yX8_off yX8_off, Cond.methodLink RX8 181 yX0_goesOffIn, Cond.methodLink RL 70 yX8_foods, Cond.instanceMethod yX8_foods, Cond.selects RX8 yX8_foods yX8_foods, Cond.methodLink RX8 184 yX7_takes, Cond.methodLink RL 74 yX8_best, Cond.instanceMethod yX8_best, Cond.selects RX8 yX8_best yX8_best, Cond.methodLink RX8 187 yX1_dearest, Cond.instanceMethod yX1_dearest, Cond.selects RX1 yX1_dearest yX1_dearest, Cond.methodLink RL 78 yX8_few, Cond.instanceMethod yX8_few, Cond.selects RX8 yX8_few yX8_few, Cond.methodLink RX8 193 yX1_fewest, Cond.instanceMethod yX1_fewest, Cond.selects RX1 yX1_fewest yX1_fewest, Cond.methodLink RX1 64 yJ6_bitCount_0f7a4, Cond.static yJ6_bitCount_0f7a4, Cond.constant RJ6 265 (1431655765 : Int32), Cond.constant RJ6 266 (858993459 : Int32), Cond.constant RJ6 267 (252645135 : Int32), Cond.methodLink RL 82 yX8_kissing, Cond.instanceMethod yX8_kissing, Cond.selects RX8 yX8_kissing yX8_kissing, Cond.methodLink RX8 196 yX8_shameAfterKiss, Cond.instanceMethod yX8_shameAfterKiss, Cond.methodLink RX8 204 yX7_isChurchIn, Cond.methodLink RX8 207 yX0_bears, Cond.methodLink RL 86 yX8_church, Cond.instanceMethod yX8_church, Cond.selects RX8 yX8_church yX8_church, Cond.methodLink RX8 211 yX1_lookAtChurch, Cond.instanceMethod yX1_lookAtChurch, Cond.selects RX1 yX1_lookAtChurch yX1_lookAtChurch, Cond.methodLink RL 90 yX8_plan]
theorem bc_3 : ∀ w ∈ wc_3, w ∈ TB := tb_wd 686 [0, 2, 3, 4, 6, 7, 8, 9, 11, 12, 13, 14, 16, 17, 18, 20, 21, 22, 24, 25, 26, 28, 29, 31, 32, 33, 34, 35, 36, 38, 40, 42, 43, 44, 45, 46, 48, 49, 50, 52] (by decide +kernel) (by decide +kernel)
def wc_4 : List Cond := [Cond.instanceMethod yX8_plan, Cond.selects RX8 yX8_plan yX8_plan, Cond.methodLink RX8 218 yX5_isMissing, Cond.instanceMethod yX5_isMissing, Cond.selects RX5 yX5_isMissing yX5_isMissing, Cond.methodLink RX8 222 yX8_isPlan, Cond.instanceMethod yX8_isPlan, Cond.methodLink RX8 240 yX8_isStep, Cond.instanceMethod yX8_isStep, Cond.methodLink RX8 226 yX7_become, Cond.instanceMethod yX7_become, Cond.selects RX7 yX7_become yX7_become, Cond.methodLink RX7 42 yX3_become, Cond.instanceMethod yX3_become, Cond.selects RX3 yX3_become yX3_become, Cond.methodLink RX3 25 ({ cls := "java/lang/System", name := "arraycopy", desc := "(Ljava/lang/Object;ILjava/lang/Object;II)V" } : Jvm.MethodName), Cond.static ({ cls := "java/lang/System", name := "arraycopy", desc := "(Ljava/lang/Object;ILjava/lang/Object;II)V" } : Jvm.MethodName), Cond.native ({ cls := "java/lang/System", name := "arraycopy", desc := "(Ljava/lang/Object;ILjava/lang/Object;II)V" } : Jvm.MethodName), Cond.methodLink RX8 235 yX8_take, Cond.instanceMethod yX8_take, Cond.methodLink RX8 239 yX7_stuckInAll, Cond.instanceMethod yX7_stuckInAll, Cond.selects RX7 yX7_stuckInAll yX7_stuckInAll, Cond.methodLink RL 94 yX8_tells, Cond.instanceMethod yX8_tells, Cond.selects RX8 yX8_tells yX8_tells, Cond.methodLink RX8 244 yX8_firstOtherwise, Cond.instanceMethod yX8_firstOtherwise, Cond.methodLink RX8 248 yX8_allAsTold, Cond.instanceMethod yX8_allAsTold, Cond.methodLink RX8 252 yX8_wordsAsTold, Cond.instanceMethod yX8_wordsAsTold, Cond.methodLink RX8 255 yX8_agesAsTold, Cond.instanceMethod yX8_agesAsTold, Cond.methodLink RL 98 yX8_film, Cond.instanceMethod yX8_film, Cond.selects RX8 yX8_film yX8_film, Cond.methodLink RX8 263 yX5_become, Cond.instanceMethod yX5_become, Cond.selects RX5 yX5_become yX5_become]
theorem bc_4 : ∀ w ∈ wc_4, w ∈ TB := tb_wd 739 [0, 1, 3, 4, 5, 7, 9, 11, 13, 15, 16, 17, 19, 20, 21, 23, 24, 25, 26, 28, 30, 31, 32, 34, 35, 36, 38, 40, 42, 44, 46, 48, 50, 52, 54, 55, 56, 58, 59, 60] (by decide +kernel) (by decide +kernel)
def wc_5 : List Cond := [Cond.methodLink RX8 266 yX5_put, Cond.instanceMethod yX5_put, Cond.selects RX5 yX5_put yX5_put, Cond.methodLink RL 102 yX8_drawn, Cond.instanceMethod yX8_drawn, Cond.selects RX8 yX8_drawn yX8_drawn, Cond.methodLink RX8 268 yX8_stuckByDraw, Cond.instanceMethod yX8_stuckByDraw, Cond.constant RX8 271 (1103515245 : Int32), Cond.methodLink RL 106 yX8_chance, Cond.instanceMethod yX8_chance, Cond.selects RX8 yX8_chance yX8_chance, Cond.constantLong RX8 272 (-4611686018427387904 : Int64), Cond.methodLink RX8 274 yX8_commonDivisor, Cond.static yX8_commonDivisor, Cond.methodLink RL 111 yX8_image, Cond.instanceMethod yX8_image, Cond.selects RX8 yX8_image yX8_image, Cond.methodLink RL 115 yX8_back, Cond.instanceMethod yX8_back, Cond.selects RX8 yX8_back yX8_back, Cond.methodLink RL 119 yX8_count, Cond.instanceMethod yX8_count, Cond.selects RX8 yX8_count yX8_count, Cond.methodLink RL 123 yX8_sheet, Cond.instanceMethod yX8_sheet, Cond.selects RX8 yX8_sheet yX8_sheet, Cond.methodLink RL 127 yX8_cell, Cond.instanceMethod yX8_cell, Cond.selects RX8 yX8_cell yX8_cell, Cond.methodLink RL 131 yX8_copy, Cond.instanceMethod yX8_copy, Cond.selects RX8 yX8_copy yX8_copy, Cond.methodLink RX8 284 yX5_holds, Cond.instanceMethod yX5_holds, Cond.selects RX5 yX5_holds yX5_holds, Cond.methodLink RX8 286 ({ cls := "java/lang/System", name := "arraycopy", desc := "(Ljava/lang/Object;ILjava/lang/Object;II)V" } : Jvm.MethodName), Cond.methodLink RL 136 yX8_people, Cond.instanceMethod yX8_people, Cond.selects RX8 yX8_people yX8_people]
theorem bc_5 : ∀ w ∈ wc_5, w ∈ TB := tb_wd 801 [0, 1, 2, 4, 5, 6, 8, 10, 12, 13, 14, 15, 17, 18, 19, 21, 22, 23, 25, 26, 27, 29, 30, 31, 33, 34, 35, 37, 38, 39, 41, 42, 43, 45, 46, 47, 49, 50, 51, 52] (by decide +kernel) (by decide +kernel)
def wc_6 : List Cond := [Cond.methodLink RX8 292 yX8_man, Cond.methodLink RL 140 yX8_taken, Cond.instanceMethod yX8_taken, Cond.selects RX8 yX8_taken yX8_taken, Cond.methodLink RX8 295 yX2_isUnder, Cond.static yX2_isUnder, Cond.methodLink RX2 24 yX2_above, Cond.static yX2_above, Cond.classLink RL 10 RX9, Cond.instantiable RX9 55, Cond.methodLink RL 12 yX9_init, Cond.instanceMethod yX9_init, Cond.methodLink RX9 7 ({ cls := "java/lang/Object", name := "<init>", desc := "()V" } : Jvm.MethodName), Cond.methodLink RX9 81 yX9_spell, Cond.instanceMethod yX9_spell, Cond.fieldLink RX9 13 "AWordStuckModel" "texts" "[I", Cond.fieldLink RX9 17 "AWordStuckModel" "textSize" "[I", Cond.fieldLink RX9 85 "AWordStuckModel" "textCount" "I", Cond.fieldLink RX9 120 "AWordStuckModel" "rule" "I", Cond.fieldLink RX9 20 "AWordStuckModel" "tape" "[I", Cond.fieldLink RX9 146 "AWordStuckModel" "taped" "I", Cond.fieldLink RX9 117 "AWordStuckModel" "hourNow" "I", Cond.fieldLink RX9 23 "AWordStuckModel" "bells" "I", Cond.fieldLink RX9 385 "AWordStuckModel" "shame" "I", Cond.fieldLink RX9 26 "AWordStuckModel" "kinds" "[I", Cond.fieldLink RX9 29 "AWordStuckModel" "numbers" "[I", Cond.fieldLink RX9 88 "AWordStuckModel" "many" "I", Cond.fieldLink RX9 32 "AWordStuckModel" "stuck" "[I", Cond.fieldLink RX9 35 "AWordStuckModel" "ages" "[I", Cond.fieldLink RX9 202 "AWordStuckModel" "ofWord" "I", Cond.fieldLink RX9 205 "AWordStuckModel" "ofFood" "I", Cond.fieldLink RX9 208 "AWordStuckModel" "ofHour" "I", Cond.fieldLink RX9 211 "AWordStuckModel" "ofNumber" "I", Cond.fieldLink RX9 214 "AWordStuckModel" "ofGap" "I", Cond.fieldLink RX9 217 "AWordStuckModel" "ofStuck" "I", Cond.fieldLink RX9 152 "AWordStuckModel" "from" "I", Cond.fieldLink RX9 149 "AWordStuckModel" "size" "I", Cond.fieldLink RX9 155 "AWordStuckModel" "here" "I", Cond.fieldLink RX9 164 "AWordStuckModel" "token" "I", Cond.fieldLink RX9 161 "AWordStuckModel" "tokenAt" "I"]
theorem bc_6 : ∀ w ∈ wc_6, w ∈ TB := tb_wd 855 [0, 1, 2, 3, 5, 6, 8, 9, 11, 12, 13, 14, 16, 17, 19, 21, 22, 23, 24, 25, 26, 27, 28, 29, 30, 31, 32, 33, 34, 35, 36, 37, 38, 39, 40, 41, 42, 43, 44, 45] (by decide +kernel) (by decide +kernel)
def wc_7 : List Cond := [Cond.fieldLink RX9 175 "AWordStuckModel" "tokenWorth" "J", Cond.fieldLink RX9 190 "AWordStuckModel" "open" "I", Cond.fieldLink RX9 179 "AWordStuckModel" "bad" "Z", Cond.fieldLink RX9 183 "AWordStuckModel" "fault" "I", Cond.fieldLink RX9 370 "AWordStuckModel" "offMany" "I", Cond.fieldLink RX9 373 "AWordStuckModel" "firstWord" "I", Cond.fieldLink RX9 376 "AWordStuckModel" "firstWhose" "I", Cond.fieldLink RX9 379 "AWordStuckModel" "firstIn" "I", Cond.fieldLink RX9 38 "AWordStuckModel" "offIn" "[I", Cond.fieldLink RX9 41 "AWordStuckModel" "bears" "[I", Cond.fieldLink RX9 44 "AWordStuckModel" "stuckAside" "[I", Cond.fieldLink RX9 47 "AWordStuckModel" "agesAside" "[I", Cond.fieldLink RX9 395 "AWordStuckModel" "hourAside" "I", Cond.fieldLink RX9 398 "AWordStuckModel" "shameAside" "I", Cond.fieldLink RX9 401 "AWordStuckModel" "shameThen" "I", Cond.fieldLink RX9 50 "AWordStuckModel" "stuckWas" "[I", Cond.fieldLink RX9 53 "AWordStuckModel" "agesWas" "[I", Cond.fieldLink RX9 56 "AWordStuckModel" "numbersKept" "[I", Cond.fieldLink RX9 59 "AWordStuckModel" "stuckKept" "[I", Cond.fieldLink RX9 62 "AWordStuckModel" "agesKept" "[I", Cond.fieldLink RX9 65 "AWordStuckModel" "manyKept" "I", Cond.fieldLink RX9 459 "AWordStuckModel" "hourKept" "I", Cond.fieldLink RX9 462 "AWordStuckModel" "bellsKept" "I", Cond.fieldLink RX9 465 "AWordStuckModel" "shameKept" "I", Cond.fieldLink RX9 468 "AWordStuckModel" "ruleKept" "I", Cond.fieldLink RX9 68 "AWordStuckModel" "isThere" "[Z", Cond.fieldLink RX9 72 "AWordStuckModel" "sorts" "[I", Cond.fieldLink RX9 75 "AWordStuckModel" "sheetSize" "[I", Cond.fieldLink RX9 78 "AWordStuckModel" "items" "[I", Cond.arrayClass Jvm.ClassFile.FieldType.boolean, Cond.methodLink RL 17 yX9_set, Cond.instanceMethod yX9_set, Cond.selects RX9 yX9_set yX9_set, Cond.constantLong RX9 99 (2 : Int64), Cond.methodLink RX9 91 yX9_in, Cond.static yX9_in, Cond.methodLink RX9 101 yX9_isOne, Cond.instanceMethod yX9_isOne, Cond.constantLong RX9 105 (999 : Int64), Cond.constantLong RX9 107 (16777215 : Int64)]
theorem bc_7 : ∀ w ∈ wc_7, w ∈ TB := tb_wd 901 [0, 1, 2, 3, 4, 5, 6, 7, 8, 9, 10, 11, 12, 13, 14, 15, 16, 17, 18, 19, 20, 21, 22, 23, 24, 25, 26, 27, 28, 140, 141, 142, 143, 145, 146, 147, 149, 151, 153, 154] (by decide +kernel) (by decide +kernel)
def wc_8 : List Cond := [Cond.constantLong RX9 95 (9 : Int64), Cond.methodLink RX9 109 yX9_told, Cond.instanceMethod yX9_told, Cond.selects RX9 yX9_told yX9_told, Cond.constantLong RX9 125 (4 : Int64), Cond.constantLong RX9 127 (10 : Int64), Cond.constantLong RX9 129 (39 : Int64), Cond.methodLink RX9 131 yX9_stuckOf, Cond.instanceMethod yX9_stuckOf, Cond.methodLink RX9 135 yX9_holdsIn, Cond.instanceMethod yX9_holdsIn, Cond.methodLink RX9 354 yX9_asks, Cond.instanceMethod yX9_asks, Cond.methodLink RX9 347 yX9_read, Cond.instanceMethod yX9_read, Cond.methodLink RX9 196 yX9_next, Cond.instanceMethod yX9_next, Cond.methodLink RX9 158 yX9_byteAt, Cond.instanceMethod yX9_byteAt, Cond.constantLong RX9 167 (97 : Int64), Cond.constantLong RX9 169 (122 : Int64), Cond.constantLong RX9 171 (48 : Int64), Cond.constantLong RX9 173 (57 : Int64), Cond.methodLink RX9 199 yX9_isWord_, Cond.instanceMethod yX9_isWord_, Cond.methodLink RX9 186 yX9_isLetter, Cond.instanceMethod yX9_isLetter, Cond.methodLink RX9 343 yX9_part, Cond.instanceMethod yX9_part, Cond.methodLink RX9 193 yX9_fail, Cond.instanceMethod yX9_fail, Cond.methodLink RX9 340 yX9_either0, Cond.instanceMethod yX9_either0, Cond.methodLink RX9 337 yX9_both0, Cond.instanceMethod yX9_both0, Cond.methodLink RX9 334 yX9_not0, Cond.instanceMethod yX9_not0, Cond.methodLink RX9 223 yX9_opens, Cond.instanceMethod yX9_opens, Cond.methodLink RX9 316 yX9_not1]
theorem bc_8 : ∀ w ∈ wc_8, w ∈ TB := tb_wd 1056 [0, 1, 2, 3, 5, 6, 7, 8, 10, 12, 14, 16, 18, 20, 22, 24, 26, 28, 30, 32, 33, 34, 35, 36, 38, 40, 42, 44, 46, 48, 50, 52, 54, 56, 58, 60, 62, 64, 66, 68] (by decide +kernel) (by decide +kernel)
def wc_9 : List Cond := [Cond.instanceMethod yX9_not1, Cond.methodLink RX9 298 yX9_not2, Cond.instanceMethod yX9_not2, Cond.methodLink RX9 280 yX9_not3, Cond.instanceMethod yX9_not3, Cond.methodLink RX9 262 yX9_not4, Cond.instanceMethod yX9_not4, Cond.methodLink RX9 244 yX9_not5, Cond.instanceMethod yX9_not5, Cond.methodLink RX9 239 yX9_added5, Cond.instanceMethod yX9_added5, Cond.methodLink RX9 234 yX9_term5, Cond.instanceMethod yX9_term5, Cond.methodLink RX9 231 yX9_atom5, Cond.instanceMethod yX9_atom5, Cond.methodLink RX9 220 yX9_isSign, Cond.instanceMethod yX9_isSign, Cond.methodLink RX9 227 yX9_name, Cond.instanceMethod yX9_name, Cond.constantLong RX9 237 (43 : Int64), Cond.constantLong RX9 242 (60 : Int64), Cond.methodLink RX9 259 yX9_added4, Cond.instanceMethod yX9_added4, Cond.methodLink RX9 256 yX9_term4, Cond.instanceMethod yX9_term4, Cond.methodLink RX9 253 yX9_atom4, Cond.instanceMethod yX9_atom4, Cond.methodLink RX9 250 yX9_either5, Cond.instanceMethod yX9_either5, Cond.methodLink RX9 247 yX9_both5, Cond.instanceMethod yX9_both5, Cond.methodLink RX9 277 yX9_added3, Cond.instanceMethod yX9_added3, Cond.methodLink RX9 274 yX9_term3, Cond.instanceMethod yX9_term3, Cond.methodLink RX9 271 yX9_atom3, Cond.instanceMethod yX9_atom3, Cond.methodLink RX9 268 yX9_either4, Cond.instanceMethod yX9_either4, Cond.methodLink RX9 265 yX9_both4]
theorem bc_9 : ∀ w ∈ wc_9, w ∈ TB := tb_wd 1126 [0, 2, 4, 6, 8, 10, 12, 14, 16, 18, 20, 22, 24, 26, 28, 30, 32, 34, 36, 38, 39, 40, 42, 44, 46, 48, 50, 52, 54, 56, 58, 60, 62, 64, 66, 68, 70, 72, 74, 76] (by decide +kernel) (by decide +kernel)
def wc_10 : List Cond := [Cond.instanceMethod yX9_both4, Cond.methodLink RX9 295 yX9_added2, Cond.instanceMethod yX9_added2, Cond.methodLink RX9 292 yX9_term2, Cond.instanceMethod yX9_term2, Cond.methodLink RX9 289 yX9_atom2, Cond.instanceMethod yX9_atom2, Cond.methodLink RX9 286 yX9_either3, Cond.instanceMethod yX9_either3, Cond.methodLink RX9 283 yX9_both3, Cond.instanceMethod yX9_both3, Cond.methodLink RX9 313 yX9_added1, Cond.instanceMethod yX9_added1, Cond.methodLink RX9 310 yX9_term1, Cond.instanceMethod yX9_term1, Cond.methodLink RX9 307 yX9_atom1, Cond.instanceMethod yX9_atom1, Cond.methodLink RX9 304 yX9_either2, Cond.instanceMethod yX9_either2, Cond.methodLink RX9 301 yX9_both2, Cond.instanceMethod yX9_both2, Cond.methodLink RX9 331 yX9_added0, Cond.instanceMethod yX9_added0, Cond.methodLink RX9 328 yX9_term0, Cond.instanceMethod yX9_term0, Cond.methodLink RX9 325 yX9_atom0, Cond.instanceMethod yX9_atom0, Cond.methodLink RX9 322 yX9_either1, Cond.instanceMethod yX9_either1, Cond.methodLink RX9 319 yX9_both1, Cond.instanceMethod yX9_both1, Cond.methodLink RX9 350 yX9_within, Cond.static yX9_within, Cond.methodLink RX9 113 yX9_lays, Cond.instanceMethod yX9_lays, Cond.methodLink RL 22 yX9_man, Cond.instanceMethod yX9_man, Cond.selects RX9 yX9_man yX9_man, Cond.constantLong RX9 123 (5 : Int64), Cond.methodLink RL 26 yX9_told]
theorem bc_10 : ∀ w ∈ wc_10, w ∈ TB := tb_wd 1204 [0, 2, 4, 6, 8, 10, 12, 14, 16, 18, 20, 22, 24, 26, 28, 30, 32, 34, 36, 38, 40, 42, 44, 46, 48, 50, 52, 54, 56, 58, 60, 62, 63, 65, 67, 69, 70, 71, 73, 74] (by decide +kernel) (by decide +kernel)
def wc_11 : List Cond := [Cond.methodLink RL 31 yX9_fill, Cond.instanceMethod yX9_fill, Cond.selects RX9 yX9_fill yX9_fill, Cond.methodLink RX9 138 yX9_isGap, Cond.static yX9_isGap, Cond.methodLink RX9 141 yX9_isWord, Cond.static yX9_isWord, Cond.constantLong RX9 97 (15 : Int64), Cond.methodLink RL 36 yX9_feed, Cond.instanceMethod yX9_feed, Cond.selects RX9 yX9_feed yX9_feed, Cond.constantLong RX9 144 (255 : Int64), Cond.methodLink RL 41 yX9_text, Cond.instanceMethod yX9_text, Cond.selects RX9 yX9_text yX9_text, Cond.methodLink RL 45 yX9_force, Cond.instanceMethod yX9_force, Cond.selects RX9 yX9_force yX9_force, Cond.methodLink RL 49 yX9_say, Cond.instanceMethod yX9_say, Cond.selects RX9 yX9_say yX9_say, Cond.methodLink RX9 364 yX9_speaks, Cond.instanceMethod yX9_speaks, Cond.methodLink RX9 361 yX9_wouldStick, Cond.instanceMethod yX9_wouldStick, Cond.methodLink RX9 358 yX9_takesOf, Cond.instanceMethod yX9_takesOf, Cond.methodLink RL 53 yX9_floss, Cond.instanceMethod yX9_floss, Cond.selects RX9 yX9_floss yX9_floss, Cond.methodLink RL 57 yX9_kiss, Cond.instanceMethod yX9_kiss, Cond.selects RX9 yX9_kiss yX9_kiss, Cond.methodLink RX9 367 yX9_hands, Cond.instanceMethod yX9_hands, Cond.methodLink RL 61 yX9_live, Cond.instanceMethod yX9_live, Cond.selects RX9 yX9_live yX9_live, Cond.methodLink RX9 388 yX9_begins, Cond.instanceMethod yX9_begins]
theorem bc_11 : ∀ w ∈ wc_11, w ∈ TB := tb_wd 1279 [0, 1, 2, 4, 5, 7, 8, 10, 11, 12, 13, 15, 16, 17, 18, 20, 21, 22, 24, 25, 26, 28, 30, 32, 34, 36, 38, 40, 41, 42, 44, 45, 46, 48, 50, 52, 53, 54, 56, 58] (by decide +kernel) (by decide +kernel)
def wc_12 : List Cond := [Cond.methodLink RX9 391 yX9_lives, Cond.instanceMethod yX9_lives, Cond.methodLink RX9 382 yX9_bearsIn, Cond.instanceMethod yX9_bearsIn, Cond.methodLink RL 65 yX9_run, Cond.instanceMethod yX9_run, Cond.selects RX9 yX9_run yX9_run, Cond.methodLink RX9 410 yX9_runs, Cond.instanceMethod yX9_runs, Cond.methodLink RX9 404 yX9_laysAside, Cond.instanceMethod yX9_laysAside, Cond.methodLink RX9 407 yX9_laysBack, Cond.instanceMethod yX9_laysBack, Cond.methodLink RL 69 yX9_off, Cond.instanceMethod yX9_off, Cond.selects RX9 yX9_off yX9_off, Cond.methodLink RL 73 yX9_foods, Cond.instanceMethod yX9_foods, Cond.selects RX9 yX9_foods yX9_foods, Cond.methodLink RL 77 yX9_best, Cond.instanceMethod yX9_best, Cond.selects RX9 yX9_best yX9_best, Cond.methodLink RL 81 yX9_few, Cond.instanceMethod yX9_few, Cond.selects RX9 yX9_few yX9_few, Cond.constantLong RX9 413 (9999 : Int64), Cond.methodLink RX9 415 yX9_bitsOf, Cond.static yX9_bitsOf, Cond.methodLink RL 85 yX9_kissing, Cond.instanceMethod yX9_kissing, Cond.selects RX9 yX9_kissing yX9_kissing, Cond.methodLink RX9 418 yX9_shameByKiss, Cond.instanceMethod yX9_shameByKiss, Cond.methodLink RL 89 yX9_church, Cond.instanceMethod yX9_church, Cond.selects RX9 yX9_church yX9_church, Cond.methodLink RL 93 yX9_plan, Cond.instanceMethod yX9_plan, Cond.selects RX9 yX9_plan yX9_plan, Cond.methodLink RX9 421 yX9_isSheet]
theorem bc_12 : ∀ w ∈ wc_12, w ∈ TB := tb_wd 1339 [0, 2, 4, 6, 8, 9, 10, 12, 14, 16, 18, 20, 22, 24, 25, 26, 28, 29, 30, 32, 33, 34, 36, 37, 38, 40, 41, 42, 44, 45, 46, 48, 50, 52, 53, 54, 56, 57, 58, 60] (by decide +kernel) (by decide +kernel)
def wc_13 : List Cond := [Cond.static yX9_isSheet, Cond.constantLong RX9 433 (3 : Int64), Cond.methodLink RX9 424 yX9_isRow, Cond.instanceMethod yX9_isRow, Cond.methodLink RX9 427 yX9_stuckAll, Cond.instanceMethod yX9_stuckAll, Cond.methodLink RL 97 yX9_tells, Cond.instanceMethod yX9_tells, Cond.selects RX9 yX9_tells yX9_tells, Cond.methodLink RX9 430 yX9_firstOther, Cond.instanceMethod yX9_firstOther, Cond.methodLink RX9 435 yX9_setBy, Cond.instanceMethod yX9_setBy, Cond.methodLink RX9 439 yX9_wordsBy, Cond.instanceMethod yX9_wordsBy, Cond.methodLink RX9 442 yX9_agesBy, Cond.instanceMethod yX9_agesBy, Cond.methodLink RL 101 yX9_film, Cond.instanceMethod yX9_film, Cond.selects RX9 yX9_film yX9_film, Cond.methodLink RX9 446 yX9_sheet, Cond.instanceMethod yX9_sheet, Cond.selects RX9 yX9_sheet yX9_sheet, Cond.constantLong RX9 471 (-1 : Int64), Cond.methodLink RL 105 yX9_drawn, Cond.instanceMethod yX9_drawn, Cond.selects RX9 yX9_drawn yX9_drawn, Cond.constantLong RX9 450 (16 : Int64), Cond.methodLink RX9 452 yX9_eats, Cond.instanceMethod yX9_eats, Cond.constant RX9 449 (1103515245 : Int32), Cond.methodLink RL 110 yX9_chance, Cond.instanceMethod yX9_chance, Cond.selects RX9 yX9_chance yX9_chance, Cond.constantLong RX9 455 (20 : Int64), Cond.constantLong RX9 457 (-4611686018427387904 : Int64), Cond.methodLink RL 114 yX9_image, Cond.instanceMethod yX9_image, Cond.selects RX9 yX9_image yX9_image, Cond.methodLink RL 118 yX9_back]
theorem bc_13 : ∀ w ∈ wc_13, w ∈ TB := tb_wd 1400 [0, 2, 3, 5, 7, 9, 11, 12, 13, 15, 17, 19, 21, 23, 25, 27, 29, 31, 32, 33, 35, 36, 37, 39, 40, 41, 42, 44, 45, 47, 49, 50, 51, 52, 54, 55, 56, 57, 58, 60] (by decide +kernel) (by decide +kernel)
def wc_14 : List Cond := [Cond.instanceMethod yX9_back, Cond.selects RX9 yX9_back yX9_back, Cond.methodLink RL 122 yX9_count, Cond.instanceMethod yX9_count, Cond.selects RX9 yX9_count yX9_count, Cond.methodLink RL 126 yX9_sheet, Cond.methodLink RL 130 yX9_cell, Cond.instanceMethod yX9_cell, Cond.selects RX9 yX9_cell yX9_cell, Cond.methodLink RL 135 yX9_copy, Cond.instanceMethod yX9_copy, Cond.selects RX9 yX9_copy yX9_copy, Cond.methodLink RL 139 yX9_people, Cond.instanceMethod yX9_people, Cond.selects RX9 yX9_people yX9_people, Cond.methodLink RX9 473 yX9_man, Cond.methodLink RL 143 yX9_taken, Cond.instanceMethod yX9_taken, Cond.selects RX9 yX9_taken yX9_taken, Cond.methodLink RX9 476 yX9_over, Cond.static yX9_over, Cond.fieldLink RJ0 9 "java/lang/String" "value" "[B", Cond.fieldLink RJ0 15 "java/lang/String" "coder" "B"]
theorem bc_14 : ∀ w ∈ wc_14, w ∈ TB := tb_wd 1461 [0, 1, 3, 4, 5, 7, 8, 9, 10, 12, 13, 14, 16, 17, 18, 20, 21, 22, 23, 25, 26, 28, 29] (by decide +kernel) (by decide +kernel)
theorem sl_X4_advance : Cond.selects RX4 yX4_advance yX4_advance ∈ TB := tb_at 0 (by rfl) rfl
theorem sl_X4_readWord : Cond.selects RX4 yX4_readWord yX4_readWord ∈ TB := tb_at 1 (by rfl) rfl
theorem sl_X4_stands : Cond.selects RX4 yX4_stands yX4_stands ∈ TB := tb_at 2 (by rfl) rfl
theorem sl_X4_readNumber : Cond.selects RX4 yX4_readNumber yX4_readNumber ∈ TB := tb_at 3 (by rfl) rfl
theorem sl_X4_readSign : Cond.selects RX4 yX4_readSign yX4_readSign ∈ TB := tb_at 4 (by rfl) rfl
theorem sl_X4_expect : Cond.selects RX4 yX4_expect yX4_expect ∈ TB := tb_at 5 (by rfl) rfl
theorem sl_X4_at : Cond.selects RX4 yX4_at yX4_at ∈ TB := tb_at 6 (by rfl) rfl
theorem sl_X4_fail : Cond.selects RX4 yX4_fail yX4_fail ∈ TB := tb_at 7 (by rfl) rfl
theorem sl_X4_either : Cond.selects RX4 yX4_either yX4_either ∈ TB := tb_at 8 (by rfl) rfl
theorem sl_X4_both : Cond.selects RX4 yX4_both yX4_both ∈ TB := tb_at 9 (by rfl) rfl
theorem sl_X4_denial : Cond.selects RX4 yX4_denial yX4_denial ∈ TB := tb_at 10 (by rfl) rfl
theorem sl_X4_openAll : Cond.selects RX4 yX4_openAll yX4_openAll ∈ TB := tb_at 11 (by rfl) rfl
theorem sl_X4_sum : Cond.selects RX4 yX4_sum yX4_sum ∈ TB := tb_at 12 (by rfl) rfl
theorem sl_X4_term : Cond.selects RX4 yX4_term yX4_term ∈ TB := tb_at 13 (by rfl) rfl
theorem sl_X4_one : Cond.selects RX4 yX4_one yX4_one ∈ TB := tb_at 14 (by rfl) rfl
theorem sl_X8_setHour : Cond.selects RX8 yX8_setHour yX8_setHour ∈ TB := tb_at 15 (by rfl) rfl
theorem sl_X8_setChurch : Cond.selects RX8 yX8_setChurch yX8_setChurch ∈ TB := tb_at 16 (by rfl) rfl
theorem sl_X8_isOne : Cond.selects RX8 yX8_isOne yX8_isOne ∈ TB := tb_at 17 (by rfl) rfl
theorem sl_X8_toldOfGap : Cond.selects RX8 yX8_toldOfGap yX8_toldOfGap ∈ TB := tb_at 18 (by rfl) rfl
theorem sl_X6_put : Cond.selects RX6 yX6_put yX6_put ∈ TB := tb_at 19 (by rfl) rfl
theorem sl_X6_join : Cond.selects RX6 yX6_join yX6_join ∈ TB := tb_at 20 (by rfl) rfl
theorem sl_X1_note : Cond.selects RX1 yX1_note yX1_note ∈ TB := tb_at 21 (by rfl) rfl
theorem sl_X8_shameAfterKiss : Cond.selects RX8 yX8_shameAfterKiss yX8_shameAfterKiss ∈ TB := tb_at 22 (by rfl) rfl
theorem sl_X8_isPlan : Cond.selects RX8 yX8_isPlan yX8_isPlan ∈ TB := tb_at 23 (by rfl) rfl
theorem sl_X8_isStep : Cond.selects RX8 yX8_isStep yX8_isStep ∈ TB := tb_at 24 (by rfl) rfl
theorem sl_X8_take : Cond.selects RX8 yX8_take yX8_take ∈ TB := tb_at 25 (by rfl) rfl
theorem sl_X8_firstOtherwise : Cond.selects RX8 yX8_firstOtherwise yX8_firstOtherwise ∈ TB := tb_at 26 (by rfl) rfl
theorem sl_X8_allAsTold : Cond.selects RX8 yX8_allAsTold yX8_allAsTold ∈ TB := tb_at 27 (by rfl) rfl
theorem sl_X8_wordsAsTold : Cond.selects RX8 yX8_wordsAsTold yX8_wordsAsTold ∈ TB := tb_at 28 (by rfl) rfl
theorem sl_X8_agesAsTold : Cond.selects RX8 yX8_agesAsTold yX8_agesAsTold ∈ TB := tb_at 29 (by rfl) rfl
theorem sl_X8_stuckByDraw : Cond.selects RX8 yX8_stuckByDraw yX8_stuckByDraw ∈ TB := tb_at 30 (by rfl) rfl
theorem sl_X9_spell : Cond.selects RX9 yX9_spell yX9_spell ∈ TB := tb_at 31 (by rfl) rfl
theorem sl_X9_isOne : Cond.selects RX9 yX9_isOne yX9_isOne ∈ TB := tb_at 32 (by rfl) rfl
theorem sl_X9_stuckOf : Cond.selects RX9 yX9_stuckOf yX9_stuckOf ∈ TB := tb_at 33 (by rfl) rfl
theorem sl_X9_holdsIn : Cond.selects RX9 yX9_holdsIn yX9_holdsIn ∈ TB := tb_at 34 (by rfl) rfl
theorem sl_X9_asks : Cond.selects RX9 yX9_asks yX9_asks ∈ TB := tb_at 35 (by rfl) rfl
theorem sl_X9_read : Cond.selects RX9 yX9_read yX9_read ∈ TB := tb_at 36 (by rfl) rfl
theorem sl_X9_next : Cond.selects RX9 yX9_next yX9_next ∈ TB := tb_at 37 (by rfl) rfl
theorem sl_X9_byteAt : Cond.selects RX9 yX9_byteAt yX9_byteAt ∈ TB := tb_at 38 (by rfl) rfl
theorem sl_X9_isWord_ : Cond.selects RX9 yX9_isWord_ yX9_isWord_ ∈ TB := tb_at 39 (by rfl) rfl
theorem sl_X9_isLetter : Cond.selects RX9 yX9_isLetter yX9_isLetter ∈ TB := tb_at 40 (by rfl) rfl
theorem sl_X9_part : Cond.selects RX9 yX9_part yX9_part ∈ TB := tb_at 41 (by rfl) rfl
theorem sl_X9_fail : Cond.selects RX9 yX9_fail yX9_fail ∈ TB := tb_at 42 (by rfl) rfl
theorem sl_X9_either0 : Cond.selects RX9 yX9_either0 yX9_either0 ∈ TB := tb_at 43 (by rfl) rfl
theorem sl_X9_both0 : Cond.selects RX9 yX9_both0 yX9_both0 ∈ TB := tb_at 44 (by rfl) rfl
theorem sl_X9_not0 : Cond.selects RX9 yX9_not0 yX9_not0 ∈ TB := tb_at 45 (by rfl) rfl
theorem sl_X9_opens : Cond.selects RX9 yX9_opens yX9_opens ∈ TB := tb_at 46 (by rfl) rfl
theorem sl_X9_not1 : Cond.selects RX9 yX9_not1 yX9_not1 ∈ TB := tb_at 47 (by rfl) rfl
theorem sl_X9_not2 : Cond.selects RX9 yX9_not2 yX9_not2 ∈ TB := tb_at 48 (by rfl) rfl
theorem sl_X9_not3 : Cond.selects RX9 yX9_not3 yX9_not3 ∈ TB := tb_at 49 (by rfl) rfl
theorem sl_X9_not4 : Cond.selects RX9 yX9_not4 yX9_not4 ∈ TB := tb_at 50 (by rfl) rfl
theorem sl_X9_not5 : Cond.selects RX9 yX9_not5 yX9_not5 ∈ TB := tb_at 51 (by rfl) rfl
theorem sl_X9_added5 : Cond.selects RX9 yX9_added5 yX9_added5 ∈ TB := tb_at 52 (by rfl) rfl
theorem sl_X9_term5 : Cond.selects RX9 yX9_term5 yX9_term5 ∈ TB := tb_at 53 (by rfl) rfl
theorem sl_X9_atom5 : Cond.selects RX9 yX9_atom5 yX9_atom5 ∈ TB := tb_at 54 (by rfl) rfl
theorem sl_X9_isSign : Cond.selects RX9 yX9_isSign yX9_isSign ∈ TB := tb_at 55 (by rfl) rfl
theorem sl_X9_name : Cond.selects RX9 yX9_name yX9_name ∈ TB := tb_at 56 (by rfl) rfl
theorem sl_X9_added4 : Cond.selects RX9 yX9_added4 yX9_added4 ∈ TB := tb_at 57 (by rfl) rfl
theorem sl_X9_term4 : Cond.selects RX9 yX9_term4 yX9_term4 ∈ TB := tb_at 58 (by rfl) rfl
theorem sl_X9_atom4 : Cond.selects RX9 yX9_atom4 yX9_atom4 ∈ TB := tb_at 59 (by rfl) rfl
theorem sl_X9_either5 : Cond.selects RX9 yX9_either5 yX9_either5 ∈ TB := tb_at 60 (by rfl) rfl
theorem sl_X9_both5 : Cond.selects RX9 yX9_both5 yX9_both5 ∈ TB := tb_at 61 (by rfl) rfl
theorem sl_X9_added3 : Cond.selects RX9 yX9_added3 yX9_added3 ∈ TB := tb_at 62 (by rfl) rfl
theorem sl_X9_term3 : Cond.selects RX9 yX9_term3 yX9_term3 ∈ TB := tb_at 63 (by rfl) rfl
theorem sl_X9_atom3 : Cond.selects RX9 yX9_atom3 yX9_atom3 ∈ TB := tb_at 64 (by rfl) rfl
theorem sl_X9_either4 : Cond.selects RX9 yX9_either4 yX9_either4 ∈ TB := tb_at 65 (by rfl) rfl
theorem sl_X9_both4 : Cond.selects RX9 yX9_both4 yX9_both4 ∈ TB := tb_at 66 (by rfl) rfl
theorem sl_X9_added2 : Cond.selects RX9 yX9_added2 yX9_added2 ∈ TB := tb_at 67 (by rfl) rfl
theorem sl_X9_term2 : Cond.selects RX9 yX9_term2 yX9_term2 ∈ TB := tb_at 68 (by rfl) rfl
theorem sl_X9_atom2 : Cond.selects RX9 yX9_atom2 yX9_atom2 ∈ TB := tb_at 69 (by rfl) rfl
theorem sl_X9_either3 : Cond.selects RX9 yX9_either3 yX9_either3 ∈ TB := tb_at 70 (by rfl) rfl
theorem sl_X9_both3 : Cond.selects RX9 yX9_both3 yX9_both3 ∈ TB := tb_at 71 (by rfl) rfl
theorem sl_X9_added1 : Cond.selects RX9 yX9_added1 yX9_added1 ∈ TB := tb_at 72 (by rfl) rfl
theorem sl_X9_term1 : Cond.selects RX9 yX9_term1 yX9_term1 ∈ TB := tb_at 73 (by rfl) rfl
theorem sl_X9_atom1 : Cond.selects RX9 yX9_atom1 yX9_atom1 ∈ TB := tb_at 74 (by rfl) rfl
theorem sl_X9_either2 : Cond.selects RX9 yX9_either2 yX9_either2 ∈ TB := tb_at 75 (by rfl) rfl
theorem sl_X9_both2 : Cond.selects RX9 yX9_both2 yX9_both2 ∈ TB := tb_at 76 (by rfl) rfl
theorem sl_X9_added0 : Cond.selects RX9 yX9_added0 yX9_added0 ∈ TB := tb_at 77 (by rfl) rfl
theorem sl_X9_term0 : Cond.selects RX9 yX9_term0 yX9_term0 ∈ TB := tb_at 78 (by rfl) rfl
theorem sl_X9_atom0 : Cond.selects RX9 yX9_atom0 yX9_atom0 ∈ TB := tb_at 79 (by rfl) rfl
theorem sl_X9_either1 : Cond.selects RX9 yX9_either1 yX9_either1 ∈ TB := tb_at 80 (by rfl) rfl
theorem sl_X9_both1 : Cond.selects RX9 yX9_both1 yX9_both1 ∈ TB := tb_at 81 (by rfl) rfl
theorem sl_X9_lays : Cond.selects RX9 yX9_lays yX9_lays ∈ TB := tb_at 82 (by rfl) rfl
theorem sl_X9_speaks : Cond.selects RX9 yX9_speaks yX9_speaks ∈ TB := tb_at 83 (by rfl) rfl
theorem sl_X9_wouldStick : Cond.selects RX9 yX9_wouldStick yX9_wouldStick ∈ TB := tb_at 84 (by rfl) rfl
theorem sl_X9_takesOf : Cond.selects RX9 yX9_takesOf yX9_takesOf ∈ TB := tb_at 85 (by rfl) rfl
theorem sl_X9_hands : Cond.selects RX9 yX9_hands yX9_hands ∈ TB := tb_at 86 (by rfl) rfl
theorem sl_X9_begins : Cond.selects RX9 yX9_begins yX9_begins ∈ TB := tb_at 87 (by rfl) rfl
theorem sl_X9_lives : Cond.selects RX9 yX9_lives yX9_lives ∈ TB := tb_at 88 (by rfl) rfl
theorem sl_X9_bearsIn : Cond.selects RX9 yX9_bearsIn yX9_bearsIn ∈ TB := tb_at 89 (by rfl) rfl
theorem sl_X9_runs : Cond.selects RX9 yX9_runs yX9_runs ∈ TB := tb_at 90 (by rfl) rfl
theorem sl_X9_laysAside : Cond.selects RX9 yX9_laysAside yX9_laysAside ∈ TB := tb_at 91 (by rfl) rfl
theorem sl_X9_laysBack : Cond.selects RX9 yX9_laysBack yX9_laysBack ∈ TB := tb_at 92 (by rfl) rfl
theorem sl_X9_shameByKiss : Cond.selects RX9 yX9_shameByKiss yX9_shameByKiss ∈ TB := tb_at 93 (by rfl) rfl
theorem sl_X9_isRow : Cond.selects RX9 yX9_isRow yX9_isRow ∈ TB := tb_at 94 (by rfl) rfl
theorem sl_X9_stuckAll : Cond.selects RX9 yX9_stuckAll yX9_stuckAll ∈ TB := tb_at 95 (by rfl) rfl
theorem sl_X9_firstOther : Cond.selects RX9 yX9_firstOther yX9_firstOther ∈ TB := tb_at 96 (by rfl) rfl
theorem sl_X9_setBy : Cond.selects RX9 yX9_setBy yX9_setBy ∈ TB := tb_at 97 (by rfl) rfl
theorem sl_X9_wordsBy : Cond.selects RX9 yX9_wordsBy yX9_wordsBy ∈ TB := tb_at 98 (by rfl) rfl
theorem sl_X9_agesBy : Cond.selects RX9 yX9_agesBy yX9_agesBy ∈ TB := tb_at 99 (by rfl) rfl
theorem sl_X9_eats : Cond.selects RX9 yX9_eats yX9_eats ∈ TB := tb_at 100 (by rfl) rfl
theorem in_L : Cond.initialized RL ∈ TB := tb_at 101 (by rfl) rfl
theorem in_X8 : Cond.initialized RX8 ∈ TB := tb_at 102 (by rfl) rfl
theorem in_X1 : Cond.initialized RX1 ∈ TB := tb_at 103 (by rfl) rfl
theorem in_X6 : Cond.initialized RX6 ∈ TB := tb_at 104 (by rfl) rfl
theorem in_X5 : Cond.initialized RX5 ∈ TB := tb_at 105 (by rfl) rfl
theorem in_X4 : Cond.initialized RX4 ∈ TB := tb_at 106 (by rfl) rfl
theorem in_X0 : Cond.initialized RX0 ∈ TB := tb_at 107 (by rfl) rfl
theorem in_X7 : Cond.initialized RX7 ∈ TB := tb_at 108 (by rfl) rfl
theorem in_X3 : Cond.initialized RX3 ∈ TB := tb_at 109 (by rfl) rfl
theorem in_J0 : Cond.initialized RJ0 ∈ TB := tb_at 110 (by rfl) rfl
theorem in_J1 : Cond.initialized RJ1 ∈ TB := tb_at 111 (by rfl) rfl
theorem in_J3 : Cond.initialized RJ3 ∈ TB := tb_at 112 (by rfl) rfl
theorem in_J2 : Cond.initialized RJ2 ∈ TB := tb_at 113 (by rfl) rfl
theorem in_X9 : Cond.initialized RX9 ∈ TB := tb_at 114 (by rfl) rfl
theorem in_J9 : Cond.initialized RJ9 ∈ TB := tb_at 115 (by rfl) rfl
theorem in_X2 : Cond.initialized RX2 ∈ TB := tb_at 116 (by rfl) rfl
theorem in_J6 : Cond.initialized RJ6 ∈ TB := tb_at 117 (by rfl) rfl
theorem in_J10 : Cond.initialized RJ10 ∈ TB := tb_at 118 (by rfl) rfl
theorem cl_L_7 : Cond.classLink RL 7 RX8 ∈ TB := tb_at 119 (by rfl) rfl
theorem is_X8 : Cond.instantiable RX8 10 ∈ TB := tb_at 120 (by rfl) rfl
theorem ml_L_9 : Cond.methodLink RL 9 yX8_init ∈ TB := tb_at 121 (by rfl) rfl
theorem im_X8_init : Cond.instanceMethod yX8_init ∈ TB := tb_at 122 (by rfl) rfl
theorem cd_X8_init : Cond.code yX8_init prog_1_method_1_code (2 : Nat) (Option.none : Option Jvm.ClassFile.FieldType) ∈ TB := tb_at 123 (by rfl) rfl
theorem ml_X8_1 : Cond.methodLink RX8 1 ({ cls := "java/lang/Object", name := "<init>", desc := "()V" } : Jvm.MethodName) ∈ TB := tb_at 124 (by rfl) rfl
theorem im_Object__init_ : Cond.instanceMethod ({ cls := "java/lang/Object", name := "<init>", desc := "()V" } : Jvm.MethodName) ∈ TB := tb_at 125 (by rfl) rfl
theorem cd_Object__init_ : Cond.code ({ cls := "java/lang/Object", name := "<init>", desc := "()V" } : Jvm.MethodName) object_method_1_code (1 : Nat) (Option.none : Option Jvm.ClassFile.FieldType) ∈ TB := tb_at 126 (by rfl) rfl
theorem cl_X8_9 : Cond.classLink RX8 9 RX6 ∈ TB := tb_at 127 (by rfl) rfl
theorem ao_128 : Cond.arrayOver (Jvm.ClassFile.FieldType.object "AWordStuck$Text") ∈ lw_tbl := List.mem_of_getElem? (i := 128) (by decide +kernel)
theorem cl_X8_15 : Cond.classLink RX8 15 RX5 ∈ TB := tb_at 129 (by rfl) rfl
theorem ao_130 : Cond.arrayOver (Jvm.ClassFile.FieldType.object "AWordStuck$Sheet") ∈ lw_tbl := List.mem_of_getElem? (i := 130) (by decide +kernel)
theorem cl_X8_21 : Cond.classLink RX8 21 RX1 ∈ TB := tb_at 131 (by rfl) rfl
theorem is_X1 : Cond.instantiable RX1 7 ∈ TB := tb_at 132 (by rfl) rfl
theorem mn_X8_23 : Cond.methodLinkNest RX8 23 yX1_init "AWordStuck" ∈ NF := nf_at 133 (by decide +kernel) rfl
theorem im_X1_init : Cond.instanceMethod yX1_init ∈ TB := tb_at 134 (by rfl) rfl
theorem cd_X1_init : Cond.code yX1_init prog_3_method_1_code (1 : Nat) (Option.none : Option Jvm.ClassFile.FieldType) ∈ TB := tb_at 135 (by rfl) rfl
theorem ml_X1_3 : Cond.methodLink RX1 3 ({ cls := "java/lang/Object", name := "<init>", desc := "()V" } : Jvm.MethodName) ∈ TB := tb_at 136 (by rfl) rfl
theorem fl_X1_9 : Cond.fieldLink RX1 9 "AWordStuck$Foresight" "when" "[I" ∈ TB := tb_at 137 (by rfl) rfl
theorem fn_X8_178 : Cond.fieldLinkNest RX8 178 "AWordStuck$Foresight" "when" "[I" "AWordStuck" ∈ NF := nf_at 138 (by decide +kernel) rfl
theorem fl_X1_15 : Cond.fieldLink RX1 15 "AWordStuck$Foresight" "cost" "[I" ∈ TB := tb_at 139 (by rfl) rfl
theorem fn_X8_190 : Cond.fieldLinkNest RX8 190 "AWordStuck$Foresight" "cost" "[I" "AWordStuck" ∈ NF := nf_at 140 (by decide +kernel) rfl
theorem fl_X1_18 : Cond.fieldLink RX1 18 "AWordStuck$Foresight" "byChurch" "[I" ∈ TB := tb_at 141 (by rfl) rfl
theorem fn_X8_215 : Cond.fieldLinkNest RX8 215 "AWordStuck$Foresight" "byChurch" "[I" "AWordStuck" ∈ NF := nf_at 142 (by decide +kernel) rfl
theorem fl_X1_21 : Cond.fieldLink RX1 21 "AWordStuck$Foresight" "saved" "[I" ∈ TB := tb_at 143 (by rfl) rfl
theorem fl_X1_24 : Cond.fieldLink RX1 24 "AWordStuck$Foresight" "shame" "I" ∈ TB := tb_at 144 (by rfl) rfl
theorem fn_X8_169 : Cond.fieldLinkNest RX8 169 "AWordStuck$Foresight" "shame" "I" "AWordStuck" ∈ NF := nf_at 145 (by decide +kernel) rfl
theorem fl_X1_28 : Cond.fieldLink RX1 28 "AWordStuck$Foresight" "offs" "I" ∈ TB := tb_at 146 (by rfl) rfl
theorem fn_X8_172 : Cond.fieldLinkNest RX8 172 "AWordStuck$Foresight" "offs" "I" "AWordStuck" ∈ NF := nf_at 147 (by decide +kernel) rfl
theorem fl_X1_31 : Cond.fieldLink RX1 31 "AWordStuck$Foresight" "first" "I" ∈ TB := tb_at 148 (by rfl) rfl
theorem fn_X8_175 : Cond.fieldLinkNest RX8 175 "AWordStuck$Foresight" "first" "I" "AWordStuck" ∈ NF := nf_at 149 (by decide +kernel) rfl
theorem ac_int : Cond.arrayClass Jvm.ClassFile.FieldType.int ∈ TB := tb_at 165 (by rfl) rfl
theorem is_X6 : Cond.instantiable RX6 4 ∈ TB := tb_at 166 (by rfl) rfl
theorem mn_X8_28 : Cond.methodLinkNest RX8 28 yX6_init "AWordStuck" ∈ NF := nf_at 167 (by decide +kernel) rfl
theorem im_X6_init : Cond.instanceMethod yX6_init ∈ TB := tb_at 168 (by rfl) rfl
theorem cd_X6_init : Cond.code yX6_init prog_8_method_1_code (1 : Nat) (Option.none : Option Jvm.ClassFile.FieldType) ∈ TB := tb_at 169 (by rfl) rfl
theorem ml_X6_3 : Cond.methodLink RX6 3 ({ cls := "java/lang/Object", name := "<init>", desc := "()V" } : Jvm.MethodName) ∈ TB := tb_at 170 (by rfl) rfl
theorem fl_X6_9 : Cond.fieldLink RX6 9 "AWordStuck$Text" "steps" "[I" ∈ TB := tb_at 171 (by rfl) rfl
theorem fl_X6_15 : Cond.fieldLink RX6 15 "AWordStuck$Text" "ends" "[I" ∈ TB := tb_at 172 (by rfl) rfl
theorem fl_X6_18 : Cond.fieldLink RX6 18 "AWordStuck$Text" "stack" "[I" ∈ TB := tb_at 173 (by rfl) rfl
theorem fl_X6_21 : Cond.fieldLink RX6 21 "AWordStuck$Text" "size" "I" ∈ TB := tb_at 174 (by rfl) rfl
theorem is_X5 : Cond.instantiable RX5 3 ∈ TB := tb_at 184 (by rfl) rfl
theorem mn_X8_29 : Cond.methodLinkNest RX8 29 yX5_init "AWordStuck" ∈ NF := nf_at 185 (by decide +kernel) rfl
theorem im_X5_init : Cond.instanceMethod yX5_init ∈ TB := tb_at 186 (by rfl) rfl
theorem cd_X5_init : Cond.code yX5_init prog_7_method_1_code (1 : Nat) (Option.none : Option Jvm.ClassFile.FieldType) ∈ TB := tb_at 187 (by rfl) rfl
theorem ml_X5_3 : Cond.methodLink RX5 3 ({ cls := "java/lang/Object", name := "<init>", desc := "()V" } : Jvm.MethodName) ∈ TB := tb_at 188 (by rfl) rfl
theorem fl_X5_9 : Cond.fieldLink RX5 9 "AWordStuck$Sheet" "row" "[I" ∈ TB := tb_at 189 (by rfl) rfl
theorem fn_X8_232 : Cond.fieldLinkNest RX8 232 "AWordStuck$Sheet" "row" "[I" "AWordStuck" ∈ NF := nf_at 190 (by decide +kernel) rfl
theorem fl_X5_15 : Cond.fieldLink RX5 15 "AWordStuck$Sheet" "sort" "I" ∈ TB := tb_at 191 (by rfl) rfl
theorem fn_X8_281 : Cond.fieldLinkNest RX8 281 "AWordStuck$Sheet" "sort" "I" "AWordStuck" ∈ NF := nf_at 192 (by decide +kernel) rfl
theorem fl_X5_19 : Cond.fieldLink RX5 19 "AWordStuck$Sheet" "size" "I" ∈ TB := tb_at 193 (by rfl) rfl
theorem fn_X8_231 : Cond.fieldLinkNest RX8 231 "AWordStuck$Sheet" "size" "I" "AWordStuck" ∈ NF := nf_at 194 (by decide +kernel) rfl
theorem cl_X8_30 : Cond.classLink RX8 30 RX4 ∈ TB := tb_at 202 (by rfl) rfl
theorem is_X4 : Cond.instantiable RX4 8 ∈ TB := tb_at 203 (by rfl) rfl
theorem ml_X8_32 : Cond.methodLink RX8 32 yX4_init ∈ TB := tb_at 204 (by rfl) rfl
theorem im_X4_init : Cond.instanceMethod yX4_init ∈ TB := tb_at 205 (by rfl) rfl
theorem cd_X4_init : Cond.code yX4_init prog_6_method_1_code (2 : Nat) (Option.none : Option Jvm.ClassFile.FieldType) ∈ TB := tb_at 206 (by rfl) rfl
theorem ml_X4_3 : Cond.methodLink RX4 3 ({ cls := "java/lang/Object", name := "<init>", desc := "()V" } : Jvm.MethodName) ∈ TB := tb_at 207 (by rfl) rfl
theorem fl_X4_9 : Cond.fieldLink RX4 9 "AWordStuck$Reader" "tape" "[I" ∈ TB := tb_at 208 (by rfl) rfl
theorem fl_X4_19 : Cond.fieldLink RX4 19 "AWordStuck$Reader" "size" "I" ∈ TB := tb_at 209 (by rfl) rfl
theorem fn_X8_146 : Cond.fieldLinkNest RX8 146 "AWordStuck$Reader" "size" "I" "AWordStuck" ∈ NF := nf_at 210 (by decide +kernel) rfl
theorem fl_X4_31 : Cond.fieldLink RX4 31 "AWordStuck$Reader" "next" "I" ∈ TB := tb_at 211 (by rfl) rfl
theorem fl_X4_57 : Cond.fieldLink RX4 57 "AWordStuck$Reader" "start" "I" ∈ TB := tb_at 212 (by rfl) rfl
theorem fl_X4_54 : Cond.fieldLink RX4 54 "AWordStuck$Reader" "token" "I" ∈ TB := tb_at 213 (by rfl) rfl
theorem fl_X4_82 : Cond.fieldLink RX4 82 "AWordStuck$Reader" "value" "I" ∈ TB := tb_at 214 (by rfl) rfl
theorem fl_X4_28 : Cond.fieldLink RX4 28 "AWordStuck$Reader" "fault" "I" ∈ TB := tb_at 215 (by rfl) rfl
theorem fl_X4_15 : Cond.fieldLink RX4 15 "AWordStuck$Reader" "text" "LAWordStuck$Text;" ∈ TB := tb_at 216 (by rfl) rfl
theorem cl_X8_39 : Cond.classLink RX8 39 RX0 ∈ TB := tb_at 234 (by rfl) rfl
theorem is_X0 : Cond.instantiable RX0 5 ∈ TB := tb_at 235 (by rfl) rfl
theorem ml_X8_41 : Cond.methodLink RX8 41 yX0_init ∈ TB := tb_at 236 (by rfl) rfl
theorem im_X0_init : Cond.instanceMethod yX0_init ∈ TB := tb_at 237 (by rfl) rfl
theorem cd_X0_init : Cond.code yX0_init prog_2_method_1_code (2 : Nat) (Option.none : Option Jvm.ClassFile.FieldType) ∈ TB := tb_at 238 (by rfl) rfl
theorem ml_X0_3 : Cond.methodLink RX0 3 ({ cls := "java/lang/Object", name := "<init>", desc := "()V" } : Jvm.MethodName) ∈ TB := tb_at 239 (by rfl) rfl
theorem fl_X0_9 : Cond.fieldLink RX0 9 "AWordStuck$Bite" "names" "[I" ∈ TB := tb_at 240 (by rfl) rfl
theorem fn_X8_199 : Cond.fieldLinkNest RX8 199 "AWordStuck$Bite" "names" "[I" "AWordStuck" ∈ NF := nf_at 241 (by decide +kernel) rfl
theorem fl_X0_15 : Cond.fieldLink RX0 15 "AWordStuck$Bite" "text" "LAWordStuck$Text;" ∈ TB := tb_at 242 (by rfl) rfl
theorem fn_X8_259 : Cond.fieldLinkNest RX8 259 "AWordStuck$Bite" "text" "LAWordStuck$Text;" "AWordStuck" ∈ NF := nf_at 243 (by decide +kernel) rfl
theorem fl_X0_38 : Cond.fieldLink RX0 38 "AWordStuck$Bite" "kind" "I" ∈ TB := tb_at 244 (by rfl) rfl
theorem fn_X8_258 : Cond.fieldLinkNest RX8 258 "AWordStuck$Bite" "kind" "I" "AWordStuck" ∈ NF := nf_at 245 (by decide +kernel) rfl
theorem fl_X0_42 : Cond.fieldLink RX0 42 "AWordStuck$Bite" "age" "I" ∈ TB := tb_at 246 (by rfl) rfl
theorem fn_X8_202 : Cond.fieldLinkNest RX8 202 "AWordStuck$Bite" "age" "I" "AWordStuck" ∈ NF := nf_at 247 (by decide +kernel) rfl
theorem fl_X0_47 : Cond.fieldLink RX0 47 "AWordStuck$Bite" "hour" "I" ∈ TB := tb_at 248 (by rfl) rfl
theorem cl_X8_46 : Cond.classLink RX8 46 RX7 ∈ TB := tb_at 260 (by rfl) rfl
theorem is_X7 : Cond.instantiable RX7 8 ∈ TB := tb_at 261 (by rfl) rfl
theorem ml_X8_48 : Cond.methodLink RX8 48 yX7_init ∈ TB := tb_at 262 (by rfl) rfl
theorem im_X7_init : Cond.instanceMethod yX7_init ∈ TB := tb_at 263 (by rfl) rfl
theorem cd_X7_init : Cond.code yX7_init prog_9_method_1_code (3 : Nat) (Option.none : Option Jvm.ClassFile.FieldType) ∈ TB := tb_at 264 (by rfl) rfl
theorem ml_X7_3 : Cond.methodLink RX7 3 ({ cls := "java/lang/Object", name := "<init>", desc := "()V" } : Jvm.MethodName) ∈ TB := tb_at 265 (by rfl) rfl
theorem cl_X7_9 : Cond.classLink RX7 9 RX3 ∈ TB := tb_at 266 (by rfl) rfl
theorem ao_267 : Cond.arrayOver (Jvm.ClassFile.FieldType.object "AWordStuck$Person") ∈ lw_tbl := List.mem_of_getElem? (i := 267) (by decide +kernel)
theorem is_X3 : Cond.instantiable RX3 4 ∈ TB := tb_at 268 (by rfl) rfl
theorem mn_X7_29 : Cond.methodLinkNest RX7 29 yX3_init "AWordStuck" ∈ NF := nf_at 269 (by decide +kernel) rfl
theorem im_X3_init : Cond.instanceMethod yX3_init ∈ TB := tb_at 270 (by rfl) rfl
theorem cd_X3_init : Cond.code yX3_init prog_5_method_1_code (1 : Nat) (Option.none : Option Jvm.ClassFile.FieldType) ∈ TB := tb_at 271 (by rfl) rfl
theorem ml_X3_3 : Cond.methodLink RX3 3 ({ cls := "java/lang/Object", name := "<init>", desc := "()V" } : Jvm.MethodName) ∈ TB := tb_at 272 (by rfl) rfl
theorem fl_X3_18 : Cond.fieldLink RX3 18 "AWordStuck$Person" "kind" "I" ∈ TB := tb_at 273 (by rfl) rfl
theorem fn_X0_33 : Cond.fieldLinkNest RX0 33 "AWordStuck$Person" "kind" "I" "AWordStuck" ∈ NF := nf_at 274 (by decide +kernel) rfl
theorem fn_X7_46 : Cond.fieldLinkNest RX7 46 "AWordStuck$Person" "kind" "I" "AWordStuck" ∈ NF := nf_at 275 (by decide +kernel) rfl
theorem fn_X8_122 : Cond.fieldLinkNest RX8 122 "AWordStuck$Person" "kind" "I" "AWordStuck" ∈ NF := nf_at 276 (by decide +kernel) rfl
theorem fl_X3_22 : Cond.fieldLink RX3 22 "AWordStuck$Person" "number" "I" ∈ TB := tb_at 277 (by rfl) rfl
theorem fn_X8_103 : Cond.fieldLinkNest RX8 103 "AWordStuck$Person" "number" "I" "AWordStuck" ∈ NF := nf_at 278 (by decide +kernel) rfl
theorem fn_X0_51 : Cond.fieldLinkNest RX0 51 "AWordStuck$Person" "number" "I" "AWordStuck" ∈ NF := nf_at 279 (by decide +kernel) rfl
theorem fn_X7_49 : Cond.fieldLinkNest RX7 49 "AWordStuck$Person" "number" "I" "AWordStuck" ∈ NF := nf_at 280 (by decide +kernel) rfl
theorem fl_X3_9 : Cond.fieldLink RX3 9 "AWordStuck$Person" "word" "[I" ∈ TB := tb_at 281 (by rfl) rfl
theorem fn_X0_48 : Cond.fieldLinkNest RX0 48 "AWordStuck$Person" "word" "[I" "AWordStuck" ∈ NF := nf_at 282 (by decide +kernel) rfl
theorem fn_X7_52 : Cond.fieldLinkNest RX7 52 "AWordStuck$Person" "word" "[I" "AWordStuck" ∈ NF := nf_at 283 (by decide +kernel) rfl
theorem fn_X8_132 : Cond.fieldLinkNest RX8 132 "AWordStuck$Person" "word" "[I" "AWordStuck" ∈ NF := nf_at 284 (by decide +kernel) rfl
theorem fl_X3_15 : Cond.fieldLink RX3 15 "AWordStuck$Person" "age" "[I" ∈ TB := tb_at 285 (by rfl) rfl
theorem fn_X0_39 : Cond.fieldLinkNest RX0 39 "AWordStuck$Person" "age" "[I" "AWordStuck" ∈ NF := nf_at 286 (by decide +kernel) rfl
theorem fn_X7_78 : Cond.fieldLinkNest RX7 78 "AWordStuck$Person" "age" "[I" "AWordStuck" ∈ NF := nf_at 287 (by decide +kernel) rfl
theorem fn_X8_136 : Cond.fieldLinkNest RX8 136 "AWordStuck$Person" "age" "[I" "AWordStuck" ∈ NF := nf_at 288 (by decide +kernel) rfl
theorem fl_X7_25 : Cond.fieldLink RX7 25 "AWordStuck$World" "texts" "[LAWordStuck$Text;" ∈ TB := tb_at 298 (by rfl) rfl
theorem fn_X0_25 : Cond.fieldLinkNest RX0 25 "AWordStuck$World" "texts" "[LAWordStuck$Text;" "AWordStuck" ∈ NF := nf_at 299 (by decide +kernel) rfl
theorem fl_X7_11 : Cond.fieldLink RX7 11 "AWordStuck$World" "crowd" "[LAWordStuck$Person;" ∈ TB := tb_at 300 (by rfl) rfl
theorem fn_X0_19 : Cond.fieldLinkNest RX0 19 "AWordStuck$World" "crowd" "[LAWordStuck$Person;" "AWordStuck" ∈ NF := nf_at 301 (by decide +kernel) rfl
theorem fn_X8_99 : Cond.fieldLinkNest RX8 99 "AWordStuck$World" "crowd" "[LAWordStuck$Person;" "AWordStuck" ∈ NF := nf_at 302 (by decide +kernel) rfl
theorem fl_X7_17 : Cond.fieldLink RX7 17 "AWordStuck$World" "names" "[I" ∈ TB := tb_at 303 (by rfl) rfl
theorem fl_X7_30 : Cond.fieldLink RX7 30 "AWordStuck$World" "size" "I" ∈ TB := tb_at 304 (by rfl) rfl
theorem fn_X1_34 : Cond.fieldLinkNest RX1 34 "AWordStuck$World" "size" "I" "AWordStuck" ∈ NF := nf_at 305 (by decide +kernel) rfl
theorem fn_X8_115 : Cond.fieldLinkNest RX8 115 "AWordStuck$World" "size" "I" "AWordStuck" ∈ NF := nf_at 306 (by decide +kernel) rfl
theorem fl_X7_33 : Cond.fieldLink RX7 33 "AWordStuck$World" "hour" "I" ∈ TB := tb_at 307 (by rfl) rfl
theorem fn_X0_44 : Cond.fieldLinkNest RX0 44 "AWordStuck$World" "hour" "I" "AWordStuck" ∈ NF := nf_at 308 (by decide +kernel) rfl
theorem fn_X8_108 : Cond.fieldLinkNest RX8 108 "AWordStuck$World" "hour" "I" "AWordStuck" ∈ NF := nf_at 309 (by decide +kernel) rfl
theorem fn_X1_61 : Cond.fieldLinkNest RX1 61 "AWordStuck$World" "hour" "I" "AWordStuck" ∈ NF := nf_at 310 (by decide +kernel) rfl
theorem fl_X7_21 : Cond.fieldLink RX7 21 "AWordStuck$World" "church" "I" ∈ TB := tb_at 311 (by rfl) rfl
theorem fn_X8_112 : Cond.fieldLinkNest RX8 112 "AWordStuck$World" "church" "I" "AWordStuck" ∈ NF := nf_at 312 (by decide +kernel) rfl
theorem fl_X7_36 : Cond.fieldLink RX7 36 "AWordStuck$World" "shame" "I" ∈ TB := tb_at 313 (by rfl) rfl
theorem fn_X8_230 : Cond.fieldLinkNest RX8 230 "AWordStuck$World" "shame" "I" "AWordStuck" ∈ NF := nf_at 314 (by decide +kernel) rfl
theorem fn_X0_29 : Cond.fieldLinkNest RX0 29 "AWordStuck$World" "rule" "I" "AWordStuck" ∈ NF := nf_at 315 (by decide +kernel) rfl
theorem fl_X7_39 : Cond.fieldLink RX7 39 "AWordStuck$World" "rule" "I" ∈ TB := tb_at 316 (by rfl) rfl
theorem fn_X8_147 : Cond.fieldLinkNest RX8 147 "AWordStuck$World" "rule" "I" "AWordStuck" ∈ NF := nf_at 317 (by decide +kernel) rfl
theorem sr_X8_61 : Cond.stringRef RX8 61 "sticks word + food * 3 ; lasts 5 ; shames 10 ;" ∈ lw_tbl := List.mem_of_getElem? (i := 335) (by decide +kernel)
theorem ml_X8_63 : Cond.methodLink RX8 63 yJ0_length_8abf5 ∈ TB := tb_at 336 (by rfl) rfl
theorem im_J0_length_8abf5 : Cond.instanceMethod yJ0_length_8abf5 ∈ TB := tb_at 337 (by rfl) rfl
theorem sl_J0_length_8abf5 : Cond.selects RJ0 yJ0_length_8abf5 yJ0_length_8abf5 ∈ TB := tb_at 338 (by rfl) rfl
theorem cd_J0_length_8abf5 : Cond.code yJ0_length_8abf5 prog_14_method_54_code (1 : Nat) (Option.some Jvm.ClassFile.FieldType.int) ∈ TB := tb_at 339 (by rfl) rfl
theorem ml_J0_335 : Cond.methodLink RJ0 335 yJ0_coder_7d493 ∈ TB := tb_at 340 (by rfl) rfl
theorem im_J0_coder_7d493 : Cond.instanceMethod yJ0_coder_7d493 ∈ TB := tb_at 341 (by rfl) rfl
theorem sl_J0_coder_7d493 : Cond.selects RJ0 yJ0_coder_7d493 yJ0_coder_7d493 ∈ TB := tb_at 342 (by rfl) rfl
theorem cd_J0_coder_7d493 : Cond.code yJ0_coder_7d493 prog_14_method_152_code (1 : Nat) (Option.some Jvm.ClassFile.FieldType.byte) ∈ TB := tb_at 343 (by rfl) rfl
theorem fl_J0_38 : Cond.fieldLink RJ0 38 "java/lang/String" "COMPACT_STRINGS" "Z" ∈ TB := tb_at 344 (by rfl) rfl
theorem ls_J0_COMPACT_STRINGS : Cond.laysStatic "java/lang/String" "COMPACT_STRINGS" "Z" ∈ lw_tbl := List.mem_of_getElem? (i := 345) (by decide +kernel)
theorem ml_X8_69 : Cond.methodLink RX8 69 yJ0_charAt_5068e ∈ TB := tb_at 346 (by rfl) rfl
theorem im_J0_charAt_5068e : Cond.instanceMethod yJ0_charAt_5068e ∈ TB := tb_at 347 (by rfl) rfl
theorem sl_J0_charAt_5068e : Cond.selects RJ0 yJ0_charAt_5068e yJ0_charAt_5068e ∈ TB := tb_at 348 (by rfl) rfl
theorem cd_J0_charAt_5068e : Cond.code yJ0_charAt_5068e prog_14_method_56_code (2 : Nat) (Option.some Jvm.ClassFile.FieldType.char) ∈ TB := tb_at 349 (by rfl) rfl
theorem ml_J0_492 : Cond.methodLink RJ0 492 yJ0_isLatin1_aae02 ∈ TB := tb_at 350 (by rfl) rfl
theorem im_J0_isLatin1_aae02 : Cond.instanceMethod yJ0_isLatin1_aae02 ∈ TB := tb_at 351 (by rfl) rfl
theorem sl_J0_isLatin1_aae02 : Cond.selects RJ0 yJ0_isLatin1_aae02 yJ0_isLatin1_aae02 ∈ TB := tb_at 352 (by rfl) rfl
theorem cd_J0_isLatin1_aae02 : Cond.code yJ0_isLatin1_aae02 prog_14_method_154_code (1 : Nat) (Option.some Jvm.ClassFile.FieldType.boolean) ∈ TB := tb_at 353 (by rfl) rfl
theorem ml_J0_495 : Cond.methodLink RJ0 495 yJ1_charAt_3b067 ∈ TB := tb_at 354 (by rfl) rfl
theorem st_J1_charAt_3b067 : Cond.static yJ1_charAt_3b067 ∈ TB := tb_at 355 (by rfl) rfl
theorem cd_J1_charAt_3b067 : Cond.code yJ1_charAt_3b067 prog_15_method_2_code (2 : Nat) (Option.some Jvm.ClassFile.FieldType.char) ∈ TB := tb_at 356 (by rfl) rfl
theorem ml_J1_9 : Cond.methodLink RJ1 9 yJ0_checkIndex_df160 ∈ TB := tb_at 357 (by rfl) rfl
theorem st_J0_checkIndex_df160 : Cond.static yJ0_checkIndex_df160 ∈ TB := tb_at 358 (by rfl) rfl
theorem cd_J0_checkIndex_df160 : Cond.code yJ0_checkIndex_df160 prog_14_method_155_code (2 : Nat) (Option.none : Option Jvm.ClassFile.FieldType) ∈ TB := tb_at 359 (by rfl) rfl
theorem fl_J0_1053 : Cond.fieldLink RJ0 1053 "jdk/internal/util/Preconditions" "SIOOBE_FORMATTER" "Ljava/util/function/BiFunction;" ∈ TB := tb_at 360 (by rfl) rfl
theorem ls_J3_SIOOBE_FORMATTER : Cond.laysStatic "jdk/internal/util/Preconditions" "SIOOBE_FORMATTER" "Ljava/util/function/BiFunction;" ∈ lw_tbl := List.mem_of_getElem? (i := 361) (by decide +kernel)
theorem ml_J0_1059 : Cond.methodLink RJ0 1059 yJ3_checkIndex_8e157 ∈ TB := tb_at 362 (by rfl) rfl
theorem st_J3_checkIndex_8e157 : Cond.static yJ3_checkIndex_8e157 ∈ TB := tb_at 363 (by rfl) rfl
theorem cd_J3_checkIndex_8e157 : Cond.code yJ3_checkIndex_8e157 prog_18_method_11_code (3 : Nat) (Option.some Jvm.ClassFile.FieldType.int) ∈ TB := tb_at 364 (by rfl) rfl
theorem ml_J0_498 : Cond.methodLink RJ0 498 yJ2_charAt_3b067 ∈ TB := tb_at 365 (by rfl) rfl
theorem st_J2_charAt_3b067 : Cond.static yJ2_charAt_3b067 ∈ TB := tb_at 366 (by rfl) rfl
theorem cd_J2_charAt_3b067 : Cond.code yJ2_charAt_3b067 prog_16_method_83_code (2 : Nat) (Option.some Jvm.ClassFile.FieldType.char) ∈ TB := tb_at 367 (by rfl) rfl
theorem ml_J2_67 : Cond.methodLink RJ2 67 yJ2_checkIndex_2214a ∈ TB := tb_at 368 (by rfl) rfl
theorem st_J2_checkIndex_2214a : Cond.static yJ2_checkIndex_2214a ∈ TB := tb_at 369 (by rfl) rfl
theorem cd_J2_checkIndex_2214a : Cond.code yJ2_checkIndex_2214a prog_16_method_91_code (2 : Nat) (Option.none : Option Jvm.ClassFile.FieldType) ∈ TB := tb_at 370 (by rfl) rfl
theorem ml_J2_48 : Cond.methodLink RJ2 48 yJ2_length_9d52b ∈ TB := tb_at 371 (by rfl) rfl
theorem st_J2_length_9d52b : Cond.static yJ2_length_9d52b ∈ TB := tb_at 372 (by rfl) rfl
theorem cd_J2_length_9d52b : Cond.code yJ2_length_9d52b prog_16_method_6_code (1 : Nat) (Option.some Jvm.ClassFile.FieldType.int) ∈ TB := tb_at 373 (by rfl) rfl
theorem ml_J2_414 : Cond.methodLink RJ2 414 yJ0_checkIndex_df160 ∈ TB := tb_at 374 (by rfl) rfl
theorem ml_J2_71 : Cond.methodLink RJ2 71 yJ2_getChar_3b067 ∈ TB := tb_at 375 (by rfl) rfl
theorem st_J2_getChar_3b067 : Cond.static yJ2_getChar_3b067 ∈ TB := tb_at 376 (by rfl) rfl
theorem cd_J2_getChar_3b067 : Cond.code yJ2_getChar_3b067 prog_16_method_5_code (2 : Nat) (Option.some Jvm.ClassFile.FieldType.char) ∈ TB := tb_at 377 (by rfl) rfl
theorem fl_J2_44 : Cond.fieldLink RJ2 44 "java/lang/StringUTF16" "$assertionsDisabled" "Z" ∈ TB := tb_at 378 (by rfl) rfl
theorem ls_J2_assertionsDisabled : Cond.laysStatic "java/lang/StringUTF16" "$assertionsDisabled" "Z" ∈ lw_tbl := List.mem_of_getElem? (i := 379) (by decide +kernel)
theorem fl_J2_59 : Cond.fieldLink RJ2 59 "java/lang/StringUTF16" "HI_BYTE_SHIFT" "I" ∈ TB := tb_at 380 (by rfl) rfl
theorem ls_J2_HI_BYTE_SHIFT : Cond.laysStatic "java/lang/StringUTF16" "HI_BYTE_SHIFT" "I" ∈ lw_tbl := List.mem_of_getElem? (i := 381) (by decide +kernel)
theorem fl_J2_63 : Cond.fieldLink RJ2 63 "java/lang/StringUTF16" "LO_BYTE_SHIFT" "I" ∈ TB := tb_at 382 (by rfl) rfl
theorem ls_J2_LO_BYTE_SHIFT : Cond.laysStatic "java/lang/StringUTF16" "LO_BYTE_SHIFT" "I" ∈ lw_tbl := List.mem_of_getElem? (i := 383) (by decide +kernel)
theorem ml_X8_73 : Cond.methodLink RX8 73 yX4_put ∈ TB := tb_at 384 (by rfl) rfl
theorem im_X4_put : Cond.instanceMethod yX4_put ∈ TB := tb_at 385 (by rfl) rfl
theorem sl_X4_put : Cond.selects RX4 yX4_put yX4_put ∈ TB := tb_at 386 (by rfl) rfl
theorem cd_X4_put : Cond.code yX4_put prog_6_method_2_code (2 : Nat) (Option.some Jvm.ClassFile.FieldType.int) ∈ TB := tb_at 387 (by rfl) rfl
theorem ml_X8_77 : Cond.methodLink RX8 77 yX4_read ∈ TB := tb_at 388 (by rfl) rfl
theorem im_X4_read : Cond.instanceMethod yX4_read ∈ TB := tb_at 389 (by rfl) rfl
theorem sl_X4_read : Cond.selects RX4 yX4_read yX4_read ∈ TB := tb_at 390 (by rfl) rfl
theorem cd_X4_read : Cond.code yX4_read prog_6_method_3_code (3 : Nat) (Option.some Jvm.ClassFile.FieldType.int) ∈ TB := tb_at 391 (by rfl) rfl
theorem ml_X4_23 : Cond.methodLink RX4 23 yX6_clear ∈ TB := tb_at 392 (by rfl) rfl
theorem im_X6_clear : Cond.instanceMethod yX6_clear ∈ TB := tb_at 393 (by rfl) rfl
theorem sl_X6_clear : Cond.selects RX6 yX6_clear yX6_clear ∈ TB := tb_at 394 (by rfl) rfl
theorem cd_X6_clear : Cond.code yX6_clear prog_8_method_2_code (1 : Nat) (Option.none : Option Jvm.ClassFile.FieldType) ∈ TB := tb_at 395 (by rfl) rfl
theorem ml_X4_34 : Cond.methodLink RX4 34 yX4_advance ∈ TB := tb_at 396 (by rfl) rfl
theorem im_X4_advance : Cond.instanceMethod yX4_advance ∈ TB := tb_at 398 (by rfl) rfl
theorem cd_X4_advance : Cond.code yX4_advance prog_6_method_14_code (1 : Nat) (Option.none : Option Jvm.ClassFile.FieldType) ∈ TB := tb_at 399 (by rfl) rfl
theorem ml_X4_85 : Cond.methodLink RX4 85 yX4_isLetter ∈ TB := tb_at 400 (by rfl) rfl
set_option maxRecDepth 50000 in
theorem st_X4_isLetter : Cond.static yX4_isLetter ∈ TB := tb_at 401 (by rfl) rfl
set_option maxRecDepth 50000 in
theorem cd_X4_isLetter : Cond.code yX4_isLetter prog_6_method_20_code (1 : Nat) (Option.some Jvm.ClassFile.FieldType.boolean) ∈ TB := tb_at 402 (by rfl) rfl
set_option maxRecDepth 50000 in
theorem ml_X4_88 : Cond.methodLink RX4 88 yX4_readWord ∈ TB := tb_at 403 (by rfl) rfl
set_option maxRecDepth 50000 in
theorem im_X4_readWord : Cond.instanceMethod yX4_readWord ∈ TB := tb_at 405 (by rfl) rfl
set_option maxRecDepth 50000 in
theorem cd_X4_readWord : Cond.code yX4_readWord prog_6_method_15_code (2 : Nat) (Option.none : Option Jvm.ClassFile.FieldType) ∈ TB := tb_at 406 (by rfl) rfl
set_option maxRecDepth 50000 in
theorem ml_X4_100 : Cond.methodLink RX4 100 yX4_known ∈ TB := tb_at 407 (by rfl) rfl
set_option maxRecDepth 50000 in
theorem st_X4_known : Cond.static yX4_known ∈ TB := tb_at 408 (by rfl) rfl
set_option maxRecDepth 50000 in
theorem cd_X4_known : Cond.code yX4_known prog_6_method_17_code (1 : Nat) (Option.some (Jvm.ClassFile.FieldType.object "java/lang/String")) ∈ TB := tb_at 409 (by rfl) rfl
theorem sr_X4_118 : Cond.stringRef RX4 118 "word" ∈ lw_tbl := List.mem_of_getElem? (i := 410) (by decide +kernel)
theorem sr_X4_120 : Cond.stringRef RX4 120 "food" ∈ lw_tbl := List.mem_of_getElem? (i := 411) (by decide +kernel)
theorem sr_X4_122 : Cond.stringRef RX4 122 "hour" ∈ lw_tbl := List.mem_of_getElem? (i := 412) (by decide +kernel)
theorem sr_X4_124 : Cond.stringRef RX4 124 "number" ∈ lw_tbl := List.mem_of_getElem? (i := 413) (by decide +kernel)
theorem sr_X4_126 : Cond.stringRef RX4 126 "gap" ∈ lw_tbl := List.mem_of_getElem? (i := 414) (by decide +kernel)
theorem sr_X4_128 : Cond.stringRef RX4 128 "stuck" ∈ lw_tbl := List.mem_of_getElem? (i := 415) (by decide +kernel)
theorem sr_X4_130 : Cond.stringRef RX4 130 "sticks" ∈ lw_tbl := List.mem_of_getElem? (i := 416) (by decide +kernel)
theorem sr_X4_132 : Cond.stringRef RX4 132 "lasts" ∈ lw_tbl := List.mem_of_getElem? (i := 417) (by decide +kernel)
theorem sr_X4_134 : Cond.stringRef RX4 134 "shames" ∈ lw_tbl := List.mem_of_getElem? (i := 418) (by decide +kernel)
theorem sr_X4_136 : Cond.stringRef RX4 136 "or" ∈ lw_tbl := List.mem_of_getElem? (i := 419) (by decide +kernel)
theorem sr_X4_138 : Cond.stringRef RX4 138 "and" ∈ lw_tbl := List.mem_of_getElem? (i := 420) (by decide +kernel)
theorem sr_X4_140 : Cond.stringRef RX4 140 "not" ∈ lw_tbl := List.mem_of_getElem? (i := 421) (by decide +kernel)
set_option maxRecDepth 50000 in
theorem ml_X4_104 : Cond.methodLink RX4 104 yX4_stands ∈ TB := tb_at 422 (by rfl) rfl
set_option maxRecDepth 50000 in
theorem im_X4_stands : Cond.instanceMethod yX4_stands ∈ TB := tb_at 424 (by rfl) rfl
set_option maxRecDepth 50000 in
theorem cd_X4_stands : Cond.code yX4_stands prog_6_method_16_code (3 : Nat) (Option.some Jvm.ClassFile.FieldType.boolean) ∈ TB := tb_at 425 (by rfl) rfl
set_option maxRecDepth 50000 in
theorem ml_X4_108 : Cond.methodLink RX4 108 yJ0_length_8abf5 ∈ TB := tb_at 426 (by rfl) rfl
set_option maxRecDepth 50000 in
theorem ml_X4_114 : Cond.methodLink RX4 114 yJ0_charAt_5068e ∈ TB := tb_at 427 (by rfl) rfl
set_option maxRecDepth 50000 in
theorem ml_X4_91 : Cond.methodLink RX4 91 yX4_isDigit ∈ TB := tb_at 428 (by rfl) rfl
set_option maxRecDepth 50000 in
theorem st_X4_isDigit : Cond.static yX4_isDigit ∈ TB := tb_at 429 (by rfl) rfl
set_option maxRecDepth 50000 in
theorem cd_X4_isDigit : Cond.code yX4_isDigit prog_6_method_21_code (1 : Nat) (Option.some Jvm.ClassFile.FieldType.boolean) ∈ TB := tb_at 430 (by rfl) rfl
set_option maxRecDepth 50000 in
theorem ml_X4_94 : Cond.methodLink RX4 94 yX4_readNumber ∈ TB := tb_at 431 (by rfl) rfl
set_option maxRecDepth 50000 in
theorem im_X4_readNumber : Cond.instanceMethod yX4_readNumber ∈ TB := tb_at 433 (by rfl) rfl
set_option maxRecDepth 50000 in
theorem cd_X4_readNumber : Cond.code yX4_readNumber prog_6_method_18_code (1 : Nat) (Option.none : Option Jvm.ClassFile.FieldType) ∈ TB := tb_at 434 (by rfl) rfl
set_option maxRecDepth 50000 in
theorem ml_X4_97 : Cond.methodLink RX4 97 yX4_readSign ∈ TB := tb_at 435 (by rfl) rfl
set_option maxRecDepth 50000 in
theorem im_X4_readSign : Cond.instanceMethod yX4_readSign ∈ TB := tb_at 437 (by rfl) rfl
set_option maxRecDepth 50000 in
theorem cd_X4_readSign : Cond.code yX4_readSign prog_6_method_19_code (3 : Nat) (Option.none : Option Jvm.ClassFile.FieldType) ∈ TB := tb_at 438 (by rfl) rfl
set_option maxRecDepth 50000 in
theorem ml_X4_37 : Cond.methodLink RX4 37 yX4_expect ∈ TB := tb_at 439 (by rfl) rfl
set_option maxRecDepth 50000 in
theorem im_X4_expect : Cond.instanceMethod yX4_expect ∈ TB := tb_at 441 (by rfl) rfl
set_option maxRecDepth 50000 in
theorem cd_X4_expect : Cond.code yX4_expect prog_6_method_6_code (2 : Nat) (Option.none : Option Jvm.ClassFile.FieldType) ∈ TB := tb_at 442 (by rfl) rfl
set_option maxRecDepth 50000 in
theorem ml_X4_47 : Cond.methodLink RX4 47 yX4_at ∈ TB := tb_at 443 (by rfl) rfl
set_option maxRecDepth 50000 in
theorem im_X4_at : Cond.instanceMethod yX4_at ∈ TB := tb_at 445 (by rfl) rfl
set_option maxRecDepth 50000 in
theorem cd_X4_at : Cond.code yX4_at prog_6_method_4_code (2 : Nat) (Option.some Jvm.ClassFile.FieldType.boolean) ∈ TB := tb_at 446 (by rfl) rfl
set_option maxRecDepth 50000 in
theorem ml_X4_51 : Cond.methodLink RX4 51 yX4_fail ∈ TB := tb_at 447 (by rfl) rfl
set_option maxRecDepth 50000 in
theorem im_X4_fail : Cond.instanceMethod yX4_fail ∈ TB := tb_at 449 (by rfl) rfl
set_option maxRecDepth 50000 in
theorem cd_X4_fail : Cond.code yX4_fail prog_6_method_5_code (1 : Nat) (Option.none : Option Jvm.ClassFile.FieldType) ∈ TB := tb_at 450 (by rfl) rfl
set_option maxRecDepth 50000 in
theorem ml_X4_41 : Cond.methodLink RX4 41 yX4_either ∈ TB := tb_at 451 (by rfl) rfl
set_option maxRecDepth 50000 in
theorem im_X4_either : Cond.instanceMethod yX4_either ∈ TB := tb_at 453 (by rfl) rfl
set_option maxRecDepth 50000 in
theorem cd_X4_either : Cond.code yX4_either prog_6_method_7_code (3 : Nat) (Option.none : Option Jvm.ClassFile.FieldType) ∈ TB := tb_at 454 (by rfl) rfl
set_option maxRecDepth 50000 in
theorem ml_X4_60 : Cond.methodLink RX4 60 yX4_both ∈ TB := tb_at 455 (by rfl) rfl
set_option maxRecDepth 50000 in
theorem im_X4_both : Cond.instanceMethod yX4_both ∈ TB := tb_at 457 (by rfl) rfl
set_option maxRecDepth 50000 in
theorem cd_X4_both : Cond.code yX4_both prog_6_method_8_code (3 : Nat) (Option.none : Option Jvm.ClassFile.FieldType) ∈ TB := tb_at 458 (by rfl) rfl
set_option maxRecDepth 50000 in
theorem ml_X4_66 : Cond.methodLink RX4 66 yX4_denial ∈ TB := tb_at 459 (by rfl) rfl
set_option maxRecDepth 50000 in
theorem im_X4_denial : Cond.instanceMethod yX4_denial ∈ TB := tb_at 461 (by rfl) rfl
set_option maxRecDepth 50000 in
theorem cd_X4_denial : Cond.code yX4_denial prog_6_method_9_code (4 : Nat) (Option.none : Option Jvm.ClassFile.FieldType) ∈ TB := tb_at 462 (by rfl) rfl
set_option maxRecDepth 50000 in
theorem ml_X4_69 : Cond.methodLink RX4 69 yX4_openAll ∈ TB := tb_at 463 (by rfl) rfl
set_option maxRecDepth 50000 in
theorem im_X4_openAll : Cond.instanceMethod yX4_openAll ∈ TB := tb_at 465 (by rfl) rfl
set_option maxRecDepth 50000 in
theorem cd_X4_openAll : Cond.code yX4_openAll prog_6_method_13_code (4 : Nat) (Option.some Jvm.ClassFile.FieldType.int) ∈ TB := tb_at 466 (by rfl) rfl
set_option maxRecDepth 50000 in
theorem ml_X4_73 : Cond.methodLink RX4 73 yX4_sum ∈ TB := tb_at 467 (by rfl) rfl
set_option maxRecDepth 50000 in
theorem im_X4_sum : Cond.instanceMethod yX4_sum ∈ TB := tb_at 469 (by rfl) rfl
set_option maxRecDepth 50000 in
theorem cd_X4_sum : Cond.code yX4_sum prog_6_method_10_code (4 : Nat) (Option.none : Option Jvm.ClassFile.FieldType) ∈ TB := tb_at 470 (by rfl) rfl
set_option maxRecDepth 50000 in
theorem ml_X4_76 : Cond.methodLink RX4 76 yX4_term ∈ TB := tb_at 471 (by rfl) rfl
set_option maxRecDepth 50000 in
theorem im_X4_term : Cond.instanceMethod yX4_term ∈ TB := tb_at 473 (by rfl) rfl
set_option maxRecDepth 50000 in
theorem cd_X4_term : Cond.code yX4_term prog_6_method_11_code (3 : Nat) (Option.none : Option Jvm.ClassFile.FieldType) ∈ TB := tb_at 474 (by rfl) rfl
set_option maxRecDepth 50000 in
theorem ml_X4_79 : Cond.methodLink RX4 79 yX4_one ∈ TB := tb_at 475 (by rfl) rfl
set_option maxRecDepth 50000 in
theorem im_X4_one : Cond.instanceMethod yX4_one ∈ TB := tb_at 477 (by rfl) rfl
set_option maxRecDepth 50000 in
theorem cd_X4_one : Cond.code yX4_one prog_6_method_12_code (4 : Nat) (Option.none : Option Jvm.ClassFile.FieldType) ∈ TB := tb_at 478 (by rfl) rfl
set_option maxRecDepth 50000 in
theorem ml_X4_63 : Cond.methodLink RX4 63 yX6_add ∈ TB := tb_at 479 (by rfl) rfl
set_option maxRecDepth 50000 in
theorem im_X6_add : Cond.instanceMethod yX6_add ∈ TB := tb_at 480 (by rfl) rfl
set_option maxRecDepth 50000 in
theorem sl_X6_add : Cond.selects RX6 yX6_add yX6_add ∈ TB := tb_at 481 (by rfl) rfl
set_option maxRecDepth 50000 in
theorem cd_X6_add : Cond.code yX6_add prog_8_method_3_code (2 : Nat) (Option.none : Option Jvm.ClassFile.FieldType) ∈ TB := tb_at 482 (by rfl) rfl
set_option maxRecDepth 50000 in
theorem ml_X4_44 : Cond.methodLink RX4 44 yX6_endPart ∈ TB := tb_at 483 (by rfl) rfl
set_option maxRecDepth 50000 in
theorem im_X6_endPart : Cond.instanceMethod yX6_endPart ∈ TB := tb_at 484 (by rfl) rfl
set_option maxRecDepth 50000 in
theorem sl_X6_endPart : Cond.selects RX6 yX6_endPart yX6_endPart ∈ TB := tb_at 485 (by rfl) rfl
set_option maxRecDepth 50000 in
theorem cd_X6_endPart : Cond.code yX6_endPart prog_8_method_4_code (2 : Nat) (Option.none : Option Jvm.ClassFile.FieldType) ∈ TB := tb_at 486 (by rfl) rfl
set_option maxRecDepth 50000 in
theorem fl_X8_11 : Cond.fieldLink RX8 11 "AWordStuck" "texts" "[LAWordStuck$Text;" ∈ TB := tb_at 487 (by rfl) rfl
set_option maxRecDepth 50000 in
theorem fl_X8_17 : Cond.fieldLink RX8 17 "AWordStuck" "sheets" "[LAWordStuck$Sheet;" ∈ TB := tb_at 488 (by rfl) rfl
set_option maxRecDepth 50000 in
theorem fl_X8_24 : Cond.fieldLink RX8 24 "AWordStuck" "foresight" "LAWordStuck$Foresight;" ∈ TB := tb_at 489 (by rfl) rfl
set_option maxRecDepth 50000 in
theorem fl_X8_35 : Cond.fieldLink RX8 35 "AWordStuck" "reader" "LAWordStuck$Reader;" ∈ TB := tb_at 490 (by rfl) rfl
set_option maxRecDepth 50000 in
theorem fl_X8_42 : Cond.fieldLink RX8 42 "AWordStuck" "bite" "LAWordStuck$Bite;" ∈ TB := tb_at 491 (by rfl) rfl
set_option maxRecDepth 50000 in
theorem fl_X8_51 : Cond.fieldLink RX8 51 "AWordStuck" "truth" "LAWordStuck$World;" ∈ TB := tb_at 492 (by rfl) rfl
set_option maxRecDepth 50000 in
theorem fl_X8_55 : Cond.fieldLink RX8 55 "AWordStuck" "thought" "LAWordStuck$World;" ∈ TB := tb_at 493 (by rfl) rfl
set_option maxRecDepth 50000 in
theorem fl_X8_58 : Cond.fieldLink RX8 58 "AWordStuck" "kept" "LAWordStuck$World;" ∈ TB := tb_at 494 (by rfl) rfl
set_option maxRecDepth 50000 in
theorem fl_X8_81 : Cond.fieldLink RX8 81 "AWordStuck" "textCount" "I" ∈ TB := tb_at 495 (by rfl) rfl
set_option maxRecDepth 50000 in
theorem fl_X8_277 : Cond.fieldLink RX8 277 "AWordStuck" "hasImage" "Z" ∈ TB := tb_at 496 (by rfl) rfl
theorem ac_byte : Cond.arrayClass Jvm.ClassFile.FieldType.byte ∈ TB := bc_0 _ (List.mem_of_getElem? (i := 0) rfl)
theorem ml_L_13 : Cond.methodLink RL 13 yX8_set ∈ TB := bc_0 _ (List.mem_of_getElem? (i := 1) rfl)
theorem im_X8_set : Cond.instanceMethod yX8_set ∈ TB := bc_0 _ (List.mem_of_getElem? (i := 2) rfl)
theorem sl_X8_set : Cond.selects RX8 yX8_set yX8_set ∈ TB := bc_0 _ (List.mem_of_getElem? (i := 3) rfl)
set_option maxRecDepth 50000 in
theorem cd_X8_set : Cond.code yX8_set prog_1_method_2_code (6 : Nat) (Option.some Jvm.ClassFile.FieldType.int) ∈ TB := tb_at 522 (by rfl) rfl
theorem ml_X8_85 : Cond.methodLink RX8 85 yX8_setHour ∈ TB := bc_0 _ (List.mem_of_getElem? (i := 4) rfl)
theorem im_X8_setHour : Cond.instanceMethod yX8_setHour ∈ TB := bc_0 _ (List.mem_of_getElem? (i := 5) rfl)
set_option maxRecDepth 50000 in
theorem cd_X8_setHour : Cond.code yX8_setHour prog_1_method_3_code (3 : Nat) (Option.some Jvm.ClassFile.FieldType.int) ∈ TB := tb_at 526 (by rfl) rfl
theorem ml_X8_88 : Cond.methodLink RX8 88 yX8_setChurch ∈ TB := bc_0 _ (List.mem_of_getElem? (i := 6) rfl)
theorem im_X8_setChurch : Cond.instanceMethod yX8_setChurch ∈ TB := bc_0 _ (List.mem_of_getElem? (i := 7) rfl)
set_option maxRecDepth 50000 in
theorem cd_X8_setChurch : Cond.code yX8_setChurch prog_1_method_4_code (3 : Nat) (Option.some Jvm.ClassFile.FieldType.int) ∈ TB := tb_at 530 (by rfl) rfl
theorem ki_X8_111 : Cond.constant RX8 111 (16777216 : Int32) ∈ TB := bc_0 _ (List.mem_of_getElem? (i := 8) rfl)
theorem ml_X8_95 : Cond.methodLink RX8 95 yX8_within ∈ TB := bc_0 _ (List.mem_of_getElem? (i := 9) rfl)
theorem st_X8_within : Cond.static yX8_within ∈ TB := bc_0 _ (List.mem_of_getElem? (i := 10) rfl)
set_option maxRecDepth 50000 in
theorem cd_X8_within : Cond.code yX8_within prog_1_method_48_code (2 : Nat) (Option.some Jvm.ClassFile.FieldType.boolean) ∈ TB := tb_at 534 (by rfl) rfl
theorem ml_X8_91 : Cond.methodLink RX8 91 yX8_isOne ∈ TB := bc_0 _ (List.mem_of_getElem? (i := 11) rfl)
theorem im_X8_isOne : Cond.instanceMethod yX8_isOne ∈ TB := bc_0 _ (List.mem_of_getElem? (i := 12) rfl)
set_option maxRecDepth 50000 in
theorem cd_X8_isOne : Cond.code yX8_isOne prog_1_method_46_code (2 : Nat) (Option.some Jvm.ClassFile.FieldType.boolean) ∈ TB := tb_at 538 (by rfl) rfl
theorem ml_L_18 : Cond.methodLink RL 18 yX8_man ∈ TB := bc_0 _ (List.mem_of_getElem? (i := 13) rfl)
theorem im_X8_man : Cond.instanceMethod yX8_man ∈ TB := bc_0 _ (List.mem_of_getElem? (i := 14) rfl)
theorem sl_X8_man : Cond.selects RX8 yX8_man yX8_man ∈ TB := bc_0 _ (List.mem_of_getElem? (i := 15) rfl)
set_option maxRecDepth 50000 in
theorem cd_X8_man : Cond.code yX8_man prog_1_method_5_code (3 : Nat) (Option.some Jvm.ClassFile.FieldType.int) ∈ TB := tb_at 542 (by rfl) rfl
theorem ml_X8_118 : Cond.methodLink RX8 118 yX7_welcome ∈ TB := bc_0 _ (List.mem_of_getElem? (i := 16) rfl)
theorem im_X7_welcome : Cond.instanceMethod yX7_welcome ∈ TB := bc_0 _ (List.mem_of_getElem? (i := 17) rfl)
theorem sl_X7_welcome : Cond.selects RX7 yX7_welcome yX7_welcome ∈ TB := bc_0 _ (List.mem_of_getElem? (i := 18) rfl)
set_option maxRecDepth 50000 in
theorem cd_X7_welcome : Cond.code yX7_welcome prog_9_method_3_code (5 : Nat) (Option.some Jvm.ClassFile.FieldType.int) ∈ TB := tb_at 546 (by rfl) rfl
theorem ml_L_23 : Cond.methodLink RL 23 yX8_told ∈ TB := bc_0 _ (List.mem_of_getElem? (i := 19) rfl)
theorem im_X8_told : Cond.instanceMethod yX8_told ∈ TB := bc_0 _ (List.mem_of_getElem? (i := 20) rfl)
theorem sl_X8_told : Cond.selects RX8 yX8_told yX8_told ∈ TB := bc_0 _ (List.mem_of_getElem? (i := 21) rfl)
set_option maxRecDepth 50000 in
theorem cd_X8_told : Cond.code yX8_told prog_1_method_6_code (4 : Nat) (Option.some Jvm.ClassFile.FieldType.int) ∈ TB := tb_at 550 (by rfl) rfl
theorem ml_X8_125 : Cond.methodLink RX8 125 yX3_stuckInAll ∈ TB := bc_0 _ (List.mem_of_getElem? (i := 22) rfl)
theorem im_X3_stuckInAll : Cond.instanceMethod yX3_stuckInAll ∈ TB := bc_0 _ (List.mem_of_getElem? (i := 23) rfl)
theorem sl_X3_stuckInAll : Cond.selects RX3 yX3_stuckInAll yX3_stuckInAll ∈ TB := bc_0 _ (List.mem_of_getElem? (i := 24) rfl)
set_option maxRecDepth 50000 in
theorem cd_X3_stuckInAll : Cond.code yX3_stuckInAll prog_5_method_4_code (3 : Nat) (Option.some Jvm.ClassFile.FieldType.int) ∈ TB := tb_at 554 (by rfl) rfl
theorem ml_X8_128 : Cond.methodLink RX8 128 yX8_toldOfGap ∈ TB := bc_0 _ (List.mem_of_getElem? (i := 25) rfl)
theorem im_X8_toldOfGap : Cond.instanceMethod yX8_toldOfGap ∈ TB := bc_0 _ (List.mem_of_getElem? (i := 26) rfl)
set_option maxRecDepth 50000 in
theorem cd_X8_toldOfGap : Cond.code yX8_toldOfGap prog_1_method_7_code (5 : Nat) (Option.some Jvm.ClassFile.FieldType.int) ∈ TB := tb_at 558 (by rfl) rfl
theorem ml_X8_139 : Cond.methodLink RX8 139 yX0_look ∈ TB := bc_0 _ (List.mem_of_getElem? (i := 27) rfl)
theorem im_X0_look : Cond.instanceMethod yX0_look ∈ TB := bc_0 _ (List.mem_of_getElem? (i := 28) rfl)
theorem sl_X0_look : Cond.selects RX0 yX0_look yX0_look ∈ TB := bc_0 _ (List.mem_of_getElem? (i := 29) rfl)
set_option maxRecDepth 50000 in
theorem cd_X0_look : Cond.code yX0_look prog_2_method_2_code (5 : Nat) (Option.none : Option Jvm.ClassFile.FieldType) ∈ TB := tb_at 562 (by rfl) rfl
theorem ml_X8_143 : Cond.methodLink RX8 143 yX0_holds ∈ TB := bc_0 _ (List.mem_of_getElem? (i := 30) rfl)
theorem im_X0_holds : Cond.instanceMethod yX0_holds ∈ TB := bc_0 _ (List.mem_of_getElem? (i := 31) rfl)
theorem sl_X0_holds : Cond.selects RX0 yX0_holds yX0_holds ∈ TB := bc_0 _ (List.mem_of_getElem? (i := 32) rfl)
set_option maxRecDepth 50000 in
theorem cd_X0_holds : Cond.code yX0_holds prog_2_method_3_code (3 : Nat) (Option.some Jvm.ClassFile.FieldType.int) ∈ TB := tb_at 566 (by rfl) rfl
theorem ml_X0_54 : Cond.methodLink RX0 54 yX6_tell ∈ TB := bc_0 _ (List.mem_of_getElem? (i := 33) rfl)
theorem im_X6_tell : Cond.instanceMethod yX6_tell ∈ TB := bc_0 _ (List.mem_of_getElem? (i := 34) rfl)
theorem sl_X6_tell : Cond.selects RX6 yX6_tell yX6_tell ∈ TB := bc_0 _ (List.mem_of_getElem? (i := 35) rfl)
set_option maxRecDepth 50000 in
theorem cd_X6_tell : Cond.code yX6_tell prog_8_method_5_code (5 : Nat) (Option.some Jvm.ClassFile.FieldType.int) ∈ TB := tb_at 570 (by rfl) rfl
theorem ml_X6_25 : Cond.methodLink RX6 25 yX6_put ∈ TB := bc_0 _ (List.mem_of_getElem? (i := 36) rfl)
theorem im_X6_put : Cond.instanceMethod yX6_put ∈ TB := bc_0 _ (List.mem_of_getElem? (i := 37) rfl)
set_option maxRecDepth 50000 in
theorem cd_X6_put : Cond.code yX6_put prog_8_method_6_code (4 : Nat) (Option.some Jvm.ClassFile.FieldType.int) ∈ TB := tb_at 574 (by rfl) rfl
theorem ml_X6_29 : Cond.methodLink RX6 29 yX6_join ∈ TB := bc_0 _ (List.mem_of_getElem? (i := 38) rfl)
theorem im_X6_join : Cond.instanceMethod yX6_join ∈ TB := bc_0 _ (List.mem_of_getElem? (i := 39) rfl)
set_option maxRecDepth 50000 in
theorem cd_X6_join : Cond.code yX6_join prog_8_method_7_code (6 : Nat) (Option.some Jvm.ClassFile.FieldType.int) ∈ TB := tb_at 578 (by rfl) rfl
theorem ml_X6_33 : Cond.methodLink RX6 33 yJ9_min_7cf53 ∈ TB := bc_1 _ (List.mem_of_getElem? (i := 0) rfl)
theorem st_J9_min_7cf53 : Cond.static yJ9_min_7cf53 ∈ TB := bc_1 _ (List.mem_of_getElem? (i := 1) rfl)
set_option maxRecDepth 50000 in
theorem cd_J9_min_7cf53 : Cond.code yJ9_min_7cf53 prog_13_method_69_code (2 : Nat) (Option.some Jvm.ClassFile.FieldType.int) ∈ TB := tb_at 581 (by rfl) rfl
theorem ml_X6_38 : Cond.methodLink RX6 38 yJ9_max_7cf53 ∈ TB := bc_1 _ (List.mem_of_getElem? (i := 2) rfl)
theorem st_J9_max_7cf53 : Cond.static yJ9_max_7cf53 ∈ TB := bc_1 _ (List.mem_of_getElem? (i := 3) rfl)
set_option maxRecDepth 50000 in
theorem cd_J9_max_7cf53 : Cond.code yJ9_max_7cf53 prog_13_method_65_code (2 : Nat) (Option.some Jvm.ClassFile.FieldType.int) ∈ TB := tb_at 584 (by rfl) rfl
theorem ml_X0_60 : Cond.methodLink RX0 60 yX2_holds ∈ TB := bc_1 _ (List.mem_of_getElem? (i := 4) rfl)
theorem st_X2_holds : Cond.static yX2_holds ∈ TB := bc_1 _ (List.mem_of_getElem? (i := 5) rfl)
set_option maxRecDepth 50000 in
theorem cd_X2_holds : Cond.code yX2_holds prog_4_method_3_code (3 : Nat) (Option.some Jvm.ClassFile.FieldType.int) ∈ TB := tb_at 587 (by rfl) rfl
theorem ml_X2_9 : Cond.methodLink RX2 9 yX2_heldFor ∈ TB := bc_1 _ (List.mem_of_getElem? (i := 6) rfl)
theorem st_X2_heldFor : Cond.static yX2_heldFor ∈ TB := bc_1 _ (List.mem_of_getElem? (i := 7) rfl)
set_option maxRecDepth 50000 in
theorem cd_X2_heldFor : Cond.code yX2_heldFor prog_4_method_4_code (3 : Nat) (Option.some Jvm.ClassFile.FieldType.int) ∈ TB := tb_at 590 (by rfl) rfl
theorem ml_X2_21 : Cond.methodLink RX2 21 yJ9_min_7cf53 ∈ TB := bc_1 _ (List.mem_of_getElem? (i := 8) rfl)
theorem ml_X2_15 : Cond.methodLink RX2 15 yJ9_max_7cf53 ∈ TB := bc_1 _ (List.mem_of_getElem? (i := 9) rfl)
theorem ml_L_27 : Cond.methodLink RL 27 yX8_fill ∈ TB := bc_1 _ (List.mem_of_getElem? (i := 10) rfl)
theorem im_X8_fill : Cond.instanceMethod yX8_fill ∈ TB := bc_1 _ (List.mem_of_getElem? (i := 11) rfl)
theorem sl_X8_fill : Cond.selects RX8 yX8_fill yX8_fill ∈ TB := bc_1 _ (List.mem_of_getElem? (i := 12) rfl)
set_option maxRecDepth 50000 in
theorem cd_X8_fill : Cond.code yX8_fill prog_1_method_8_code (7 : Nat) (Option.some Jvm.ClassFile.FieldType.int) ∈ TB := tb_at 596 (by rfl) rfl
theorem ml_L_32 : Cond.methodLink RL 32 yX8_feed ∈ TB := bc_1 _ (List.mem_of_getElem? (i := 13) rfl)
theorem im_X8_feed : Cond.instanceMethod yX8_feed ∈ TB := bc_1 _ (List.mem_of_getElem? (i := 14) rfl)
theorem sl_X8_feed : Cond.selects RX8 yX8_feed yX8_feed ∈ TB := bc_1 _ (List.mem_of_getElem? (i := 15) rfl)
set_option maxRecDepth 50000 in
theorem cd_X8_feed : Cond.code yX8_feed prog_1_method_9_code (2 : Nat) (Option.some Jvm.ClassFile.FieldType.int) ∈ TB := tb_at 600 (by rfl) rfl
theorem ml_L_37 : Cond.methodLink RL 37 yX8_text ∈ TB := bc_1 _ (List.mem_of_getElem? (i := 16) rfl)
theorem im_X8_text : Cond.instanceMethod yX8_text ∈ TB := bc_1 _ (List.mem_of_getElem? (i := 17) rfl)
theorem sl_X8_text : Cond.selects RX8 yX8_text yX8_text ∈ TB := bc_1 _ (List.mem_of_getElem? (i := 18) rfl)
set_option maxRecDepth 50000 in
theorem cd_X8_text : Cond.code yX8_text prog_1_method_10_code (2 : Nat) (Option.some Jvm.ClassFile.FieldType.int) ∈ TB := tb_at 604 (by rfl) rfl
theorem ml_L_42 : Cond.methodLink RL 42 yX8_force ∈ TB := bc_1 _ (List.mem_of_getElem? (i := 19) rfl)
theorem im_X8_force : Cond.instanceMethod yX8_force ∈ TB := bc_1 _ (List.mem_of_getElem? (i := 20) rfl)
theorem sl_X8_force : Cond.selects RX8 yX8_force yX8_force ∈ TB := bc_1 _ (List.mem_of_getElem? (i := 21) rfl)
set_option maxRecDepth 50000 in
theorem cd_X8_force : Cond.code yX8_force prog_1_method_11_code (3 : Nat) (Option.some Jvm.ClassFile.FieldType.int) ∈ TB := tb_at 608 (by rfl) rfl
theorem ml_L_46 : Cond.methodLink RL 46 yX8_say ∈ TB := bc_1 _ (List.mem_of_getElem? (i := 22) rfl)
theorem im_X8_say : Cond.instanceMethod yX8_say ∈ TB := bc_1 _ (List.mem_of_getElem? (i := 23) rfl)
theorem sl_X8_say : Cond.selects RX8 yX8_say yX8_say ∈ TB := bc_1 _ (List.mem_of_getElem? (i := 24) rfl)
set_option maxRecDepth 50000 in
theorem cd_X8_say : Cond.code yX8_say prog_1_method_12_code (4 : Nat) (Option.some Jvm.ClassFile.FieldType.int) ∈ TB := tb_at 612 (by rfl) rfl
theorem ml_X8_150 : Cond.methodLink RX8 150 yX7_utter ∈ TB := bc_1 _ (List.mem_of_getElem? (i := 25) rfl)
theorem im_X7_utter : Cond.instanceMethod yX7_utter ∈ TB := bc_1 _ (List.mem_of_getElem? (i := 26) rfl)
theorem sl_X7_utter : Cond.selects RX7 yX7_utter yX7_utter ∈ TB := bc_1 _ (List.mem_of_getElem? (i := 27) rfl)
set_option maxRecDepth 50000 in
theorem cd_X7_utter : Cond.code yX7_utter prog_9_method_5_code (6 : Nat) (Option.some Jvm.ClassFile.FieldType.int) ∈ TB := tb_at 616 (by rfl) rfl
theorem ml_X7_71 : Cond.methodLink RX7 71 yX7_takes ∈ TB := bc_1 _ (List.mem_of_getElem? (i := 28) rfl)
theorem im_X7_takes : Cond.instanceMethod yX7_takes ∈ TB := bc_1 _ (List.mem_of_getElem? (i := 29) rfl)
theorem sl_X7_takes : Cond.selects RX7 yX7_takes yX7_takes ∈ TB := bc_1 _ (List.mem_of_getElem? (i := 30) rfl)
set_option maxRecDepth 50000 in
theorem cd_X7_takes : Cond.code yX7_takes prog_9_method_4_code (5 : Nat) (Option.some Jvm.ClassFile.FieldType.int) ∈ TB := tb_at 620 (by rfl) rfl
theorem ml_X7_55 : Cond.methodLink RX7 55 yX3_stuckInAll ∈ TB := bc_1 _ (List.mem_of_getElem? (i := 31) rfl)
theorem ml_X7_59 : Cond.methodLink RX7 59 yX6_tell ∈ TB := bc_1 _ (List.mem_of_getElem? (i := 32) rfl)
theorem ml_X7_65 : Cond.methodLink RX7 65 yX2_takes ∈ TB := bc_1 _ (List.mem_of_getElem? (i := 33) rfl)
theorem st_X2_takes : Cond.static yX2_takes ∈ TB := bc_1 _ (List.mem_of_getElem? (i := 34) rfl)
set_option maxRecDepth 50000 in
theorem cd_X2_takes : Cond.code yX2_takes prog_4_method_2_code (2 : Nat) (Option.some Jvm.ClassFile.FieldType.int) ∈ TB := tb_at 625 (by rfl) rfl
theorem mn_X7_74 : Cond.methodLinkNest RX7 74 yX8_within "AWordStuck" ∈ NF := nf_at 626 (by decide +kernel) rfl
theorem ml_L_50 : Cond.methodLink RL 50 yX8_floss ∈ TB := bc_1 _ (List.mem_of_getElem? (i := 35) rfl)
theorem im_X8_floss : Cond.instanceMethod yX8_floss ∈ TB := bc_1 _ (List.mem_of_getElem? (i := 36) rfl)
theorem sl_X8_floss : Cond.selects RX8 yX8_floss yX8_floss ∈ TB := bc_1 _ (List.mem_of_getElem? (i := 37) rfl)
set_option maxRecDepth 50000 in
theorem cd_X8_floss : Cond.code yX8_floss prog_1_method_13_code (3 : Nat) (Option.some Jvm.ClassFile.FieldType.int) ∈ TB := tb_at 630 (by rfl) rfl
theorem ml_X8_153 : Cond.methodLink RX8 153 yX3_empty ∈ TB := bc_1 _ (List.mem_of_getElem? (i := 38) rfl)
theorem im_X3_empty : Cond.instanceMethod yX3_empty ∈ TB := bc_1 _ (List.mem_of_getElem? (i := 39) rfl)
theorem sl_X3_empty : Cond.selects RX3 yX3_empty yX3_empty ∈ TB := bc_2 _ (List.mem_of_getElem? (i := 0) rfl)
set_option maxRecDepth 50000 in
theorem cd_X3_empty : Cond.code yX3_empty prog_5_method_3_code (3 : Nat) (Option.some Jvm.ClassFile.FieldType.int) ∈ TB := tb_at 634 (by rfl) rfl
theorem ml_L_54 : Cond.methodLink RL 54 yX8_kiss ∈ TB := bc_2 _ (List.mem_of_getElem? (i := 1) rfl)
theorem im_X8_kiss : Cond.instanceMethod yX8_kiss ∈ TB := bc_2 _ (List.mem_of_getElem? (i := 2) rfl)
theorem sl_X8_kiss : Cond.selects RX8 yX8_kiss yX8_kiss ∈ TB := bc_2 _ (List.mem_of_getElem? (i := 3) rfl)
set_option maxRecDepth 50000 in
theorem cd_X8_kiss : Cond.code yX8_kiss prog_1_method_14_code (3 : Nat) (Option.some Jvm.ClassFile.FieldType.int) ∈ TB := tb_at 638 (by rfl) rfl
theorem ml_X8_156 : Cond.methodLink RX8 156 yX7_handOn ∈ TB := bc_2 _ (List.mem_of_getElem? (i := 4) rfl)
theorem im_X7_handOn : Cond.instanceMethod yX7_handOn ∈ TB := bc_2 _ (List.mem_of_getElem? (i := 5) rfl)
theorem sl_X7_handOn : Cond.selects RX7 yX7_handOn yX7_handOn ∈ TB := bc_2 _ (List.mem_of_getElem? (i := 6) rfl)
set_option maxRecDepth 50000 in
theorem cd_X7_handOn : Cond.code yX7_handOn prog_9_method_6_code (7 : Nat) (Option.some Jvm.ClassFile.FieldType.int) ∈ TB := tb_at 642 (by rfl) rfl
theorem ml_X7_81 : Cond.methodLink RX7 81 yX3_empty ∈ TB := bc_2 _ (List.mem_of_getElem? (i := 7) rfl)
theorem ml_L_58 : Cond.methodLink RL 58 yX8_live ∈ TB := bc_2 _ (List.mem_of_getElem? (i := 8) rfl)
theorem im_X8_live : Cond.instanceMethod yX8_live ∈ TB := bc_2 _ (List.mem_of_getElem? (i := 9) rfl)
theorem sl_X8_live : Cond.selects RX8 yX8_live yX8_live ∈ TB := bc_2 _ (List.mem_of_getElem? (i := 10) rfl)
set_option maxRecDepth 50000 in
theorem cd_X8_live : Cond.code yX8_live prog_1_method_15_code (1 : Nat) (Option.some Jvm.ClassFile.FieldType.int) ∈ TB := tb_at 647 (by rfl) rfl
theorem ml_X8_159 : Cond.methodLink RX8 159 yX7_pass ∈ TB := bc_2 _ (List.mem_of_getElem? (i := 11) rfl)
theorem im_X7_pass : Cond.instanceMethod yX7_pass ∈ TB := bc_2 _ (List.mem_of_getElem? (i := 12) rfl)
theorem sl_X7_pass : Cond.selects RX7 yX7_pass yX7_pass ∈ TB := bc_2 _ (List.mem_of_getElem? (i := 13) rfl)
set_option maxRecDepth 50000 in
theorem cd_X7_pass : Cond.code yX7_pass prog_9_method_7_code (5 : Nat) (Option.some Jvm.ClassFile.FieldType.int) ∈ TB := tb_at 651 (by rfl) rfl
theorem ml_X7_85 : Cond.methodLink RX7 85 yX0_look ∈ TB := bc_2 _ (List.mem_of_getElem? (i := 14) rfl)
theorem ml_X7_91 : Cond.methodLink RX7 91 yX0_goesOffIn ∈ TB := bc_2 _ (List.mem_of_getElem? (i := 15) rfl)
theorem im_X0_goesOffIn : Cond.instanceMethod yX0_goesOffIn ∈ TB := bc_2 _ (List.mem_of_getElem? (i := 16) rfl)
theorem sl_X0_goesOffIn : Cond.selects RX0 yX0_goesOffIn yX0_goesOffIn ∈ TB := bc_2 _ (List.mem_of_getElem? (i := 17) rfl)
set_option maxRecDepth 50000 in
theorem cd_X0_goesOffIn : Cond.code yX0_goesOffIn prog_2_method_4_code (3 : Nat) (Option.some Jvm.ClassFile.FieldType.int) ∈ TB := tb_at 656 (by rfl) rfl
theorem ml_X0_66 : Cond.methodLink RX0 66 yX0_holds ∈ TB := bc_2 _ (List.mem_of_getElem? (i := 18) rfl)
theorem ml_X7_94 : Cond.methodLink RX7 94 yX7_isChurchIn ∈ TB := bc_2 _ (List.mem_of_getElem? (i := 19) rfl)
theorem im_X7_isChurchIn : Cond.instanceMethod yX7_isChurchIn ∈ TB := bc_2 _ (List.mem_of_getElem? (i := 20) rfl)
theorem sl_X7_isChurchIn : Cond.selects RX7 yX7_isChurchIn yX7_isChurchIn ∈ TB := bc_2 _ (List.mem_of_getElem? (i := 21) rfl)
set_option maxRecDepth 50000 in
theorem cd_X7_isChurchIn : Cond.code yX7_isChurchIn prog_9_method_9_code (2 : Nat) (Option.some Jvm.ClassFile.FieldType.boolean) ∈ TB := tb_at 661 (by rfl) rfl
theorem ml_X7_98 : Cond.methodLink RX7 98 yX0_bears ∈ TB := bc_2 _ (List.mem_of_getElem? (i := 22) rfl)
theorem im_X0_bears : Cond.instanceMethod yX0_bears ∈ TB := bc_2 _ (List.mem_of_getElem? (i := 23) rfl)
theorem sl_X0_bears : Cond.selects RX0 yX0_bears yX0_bears ∈ TB := bc_2 _ (List.mem_of_getElem? (i := 24) rfl)
set_option maxRecDepth 50000 in
theorem cd_X0_bears : Cond.code yX0_bears prog_2_method_5_code (3 : Nat) (Option.some Jvm.ClassFile.FieldType.int) ∈ TB := tb_at 665 (by rfl) rfl
theorem ml_X0_69 : Cond.methodLink RX0 69 yX2_bears ∈ TB := bc_2 _ (List.mem_of_getElem? (i := 25) rfl)
theorem st_X2_bears : Cond.static yX2_bears ∈ TB := bc_2 _ (List.mem_of_getElem? (i := 26) rfl)
set_option maxRecDepth 50000 in
theorem cd_X2_bears : Cond.code yX2_bears prog_4_method_5_code (5 : Nat) (Option.some Jvm.ClassFile.FieldType.int) ∈ TB := tb_at 668 (by rfl) rfl
theorem ml_L_62 : Cond.methodLink RL 62 yX8_run ∈ TB := bc_2 _ (List.mem_of_getElem? (i := 27) rfl)
theorem im_X8_run : Cond.instanceMethod yX8_run ∈ TB := bc_2 _ (List.mem_of_getElem? (i := 28) rfl)
theorem sl_X8_run : Cond.selects RX8 yX8_run yX8_run ∈ TB := bc_2 _ (List.mem_of_getElem? (i := 29) rfl)
set_option maxRecDepth 50000 in
theorem cd_X8_run : Cond.code yX8_run prog_1_method_16_code (4 : Nat) (Option.some Jvm.ClassFile.FieldType.int) ∈ TB := tb_at 672 (by rfl) rfl
theorem ml_X8_163 : Cond.methodLink RX8 163 yX8_isSpan ∈ TB := bc_2 _ (List.mem_of_getElem? (i := 30) rfl)
theorem st_X8_isSpan : Cond.static yX8_isSpan ∈ TB := bc_2 _ (List.mem_of_getElem? (i := 31) rfl)
set_option maxRecDepth 50000 in
theorem cd_X8_isSpan : Cond.code yX8_isSpan prog_1_method_47_code (1 : Nat) (Option.some Jvm.ClassFile.FieldType.boolean) ∈ TB := tb_at 675 (by rfl) rfl
theorem ml_X8_166 : Cond.methodLink RX8 166 yX1_look ∈ TB := bc_2 _ (List.mem_of_getElem? (i := 32) rfl)
theorem im_X1_look : Cond.instanceMethod yX1_look ∈ TB := bc_2 _ (List.mem_of_getElem? (i := 33) rfl)
theorem sl_X1_look : Cond.selects RX1 yX1_look yX1_look ∈ TB := bc_2 _ (List.mem_of_getElem? (i := 34) rfl)
set_option maxRecDepth 50000 in
theorem cd_X1_look : Cond.code yX1_look prog_3_method_2_code (5 : Nat) (Option.none : Option Jvm.ClassFile.FieldType) ∈ TB := tb_at 679 (by rfl) rfl
theorem ml_X1_39 : Cond.methodLink RX1 39 yX0_look ∈ TB := bc_2 _ (List.mem_of_getElem? (i := 35) rfl)
theorem ml_X1_45 : Cond.methodLink RX1 45 yX0_goesOffIn ∈ TB := bc_2 _ (List.mem_of_getElem? (i := 36) rfl)
theorem ml_X1_49 : Cond.methodLink RX1 49 yX7_isChurchIn ∈ TB := bc_2 _ (List.mem_of_getElem? (i := 37) rfl)
theorem ml_X1_53 : Cond.methodLink RX1 53 yX0_bears ∈ TB := bc_2 _ (List.mem_of_getElem? (i := 38) rfl)
theorem ml_X1_57 : Cond.methodLink RX1 57 yX1_note ∈ TB := bc_2 _ (List.mem_of_getElem? (i := 39) rfl)
theorem im_X1_note : Cond.instanceMethod yX1_note ∈ TB := bc_3 _ (List.mem_of_getElem? (i := 0) rfl)
set_option maxRecDepth 50000 in
theorem cd_X1_note : Cond.code yX1_note prog_3_method_3_code (3 : Nat) (Option.none : Option Jvm.ClassFile.FieldType) ∈ TB := tb_at 687 (by rfl) rfl
theorem ml_L_66 : Cond.methodLink RL 66 yX8_off ∈ TB := bc_3 _ (List.mem_of_getElem? (i := 1) rfl)
theorem im_X8_off : Cond.instanceMethod yX8_off ∈ TB := bc_3 _ (List.mem_of_getElem? (i := 2) rfl)
theorem sl_X8_off : Cond.selects RX8 yX8_off yX8_off ∈ TB := bc_3 _ (List.mem_of_getElem? (i := 3) rfl)
set_option maxRecDepth 50000 in
theorem cd_X8_off : Cond.code yX8_off prog_1_method_17_code (4 : Nat) (Option.some Jvm.ClassFile.FieldType.int) ∈ TB := tb_at 691 (by rfl) rfl
theorem ml_X8_181 : Cond.methodLink RX8 181 yX0_goesOffIn ∈ TB := bc_3 _ (List.mem_of_getElem? (i := 4) rfl)
theorem ml_L_70 : Cond.methodLink RL 70 yX8_foods ∈ TB := bc_3 _ (List.mem_of_getElem? (i := 5) rfl)
theorem im_X8_foods : Cond.instanceMethod yX8_foods ∈ TB := bc_3 _ (List.mem_of_getElem? (i := 6) rfl)
theorem sl_X8_foods : Cond.selects RX8 yX8_foods yX8_foods ∈ TB := bc_3 _ (List.mem_of_getElem? (i := 7) rfl)
set_option maxRecDepth 50000 in
theorem cd_X8_foods : Cond.code yX8_foods prog_1_method_18_code (6 : Nat) (Option.some Jvm.ClassFile.FieldType.int) ∈ TB := tb_at 696 (by rfl) rfl
theorem ml_X8_184 : Cond.methodLink RX8 184 yX7_takes ∈ TB := bc_3 _ (List.mem_of_getElem? (i := 8) rfl)
theorem ml_L_74 : Cond.methodLink RL 74 yX8_best ∈ TB := bc_3 _ (List.mem_of_getElem? (i := 9) rfl)
theorem im_X8_best : Cond.instanceMethod yX8_best ∈ TB := bc_3 _ (List.mem_of_getElem? (i := 10) rfl)
theorem sl_X8_best : Cond.selects RX8 yX8_best yX8_best ∈ TB := bc_3 _ (List.mem_of_getElem? (i := 11) rfl)
set_option maxRecDepth 50000 in
theorem cd_X8_best : Cond.code yX8_best prog_1_method_19_code (4 : Nat) (Option.some Jvm.ClassFile.FieldType.int) ∈ TB := tb_at 701 (by rfl) rfl
theorem ml_X8_187 : Cond.methodLink RX8 187 yX1_dearest ∈ TB := bc_3 _ (List.mem_of_getElem? (i := 12) rfl)
theorem im_X1_dearest : Cond.instanceMethod yX1_dearest ∈ TB := bc_3 _ (List.mem_of_getElem? (i := 13) rfl)
theorem sl_X1_dearest : Cond.selects RX1 yX1_dearest yX1_dearest ∈ TB := bc_3 _ (List.mem_of_getElem? (i := 14) rfl)
set_option maxRecDepth 50000 in
theorem cd_X1_dearest : Cond.code yX1_dearest prog_3_method_5_code (4 : Nat) (Option.some Jvm.ClassFile.FieldType.int) ∈ TB := tb_at 705 (by rfl) rfl
theorem ml_L_78 : Cond.methodLink RL 78 yX8_few ∈ TB := bc_3 _ (List.mem_of_getElem? (i := 15) rfl)
theorem im_X8_few : Cond.instanceMethod yX8_few ∈ TB := bc_3 _ (List.mem_of_getElem? (i := 16) rfl)
theorem sl_X8_few : Cond.selects RX8 yX8_few yX8_few ∈ TB := bc_3 _ (List.mem_of_getElem? (i := 17) rfl)
set_option maxRecDepth 50000 in
theorem cd_X8_few : Cond.code yX8_few prog_1_method_20_code (4 : Nat) (Option.some Jvm.ClassFile.FieldType.int) ∈ TB := tb_at 709 (by rfl) rfl
theorem ml_X8_193 : Cond.methodLink RX8 193 yX1_fewest ∈ TB := bc_3 _ (List.mem_of_getElem? (i := 18) rfl)
theorem im_X1_fewest : Cond.instanceMethod yX1_fewest ∈ TB := bc_3 _ (List.mem_of_getElem? (i := 19) rfl)
theorem sl_X1_fewest : Cond.selects RX1 yX1_fewest yX1_fewest ∈ TB := bc_3 _ (List.mem_of_getElem? (i := 20) rfl)
set_option maxRecDepth 50000 in
theorem cd_X1_fewest : Cond.code yX1_fewest prog_3_method_6_code (5 : Nat) (Option.some Jvm.ClassFile.FieldType.int) ∈ TB := tb_at 713 (by rfl) rfl
theorem ml_X1_64 : Cond.methodLink RX1 64 yJ6_bitCount_0f7a4 ∈ TB := bc_3 _ (List.mem_of_getElem? (i := 21) rfl)
theorem st_J6_bitCount_0f7a4 : Cond.static yJ6_bitCount_0f7a4 ∈ TB := bc_3 _ (List.mem_of_getElem? (i := 22) rfl)
set_option maxRecDepth 50000 in
theorem cd_J6_bitCount_0f7a4 : Cond.code yJ6_bitCount_0f7a4 prog_12_method_49_code (1 : Nat) (Option.some Jvm.ClassFile.FieldType.int) ∈ TB := tb_at 716 (by rfl) rfl
theorem ki_J6_265 : Cond.constant RJ6 265 (1431655765 : Int32) ∈ TB := bc_3 _ (List.mem_of_getElem? (i := 23) rfl)
theorem ki_J6_266 : Cond.constant RJ6 266 (858993459 : Int32) ∈ TB := bc_3 _ (List.mem_of_getElem? (i := 24) rfl)
theorem ki_J6_267 : Cond.constant RJ6 267 (252645135 : Int32) ∈ TB := bc_3 _ (List.mem_of_getElem? (i := 25) rfl)
theorem ml_L_82 : Cond.methodLink RL 82 yX8_kissing ∈ TB := bc_3 _ (List.mem_of_getElem? (i := 26) rfl)
theorem im_X8_kissing : Cond.instanceMethod yX8_kissing ∈ TB := bc_3 _ (List.mem_of_getElem? (i := 27) rfl)
theorem sl_X8_kissing : Cond.selects RX8 yX8_kissing yX8_kissing ∈ TB := bc_3 _ (List.mem_of_getElem? (i := 28) rfl)
set_option maxRecDepth 50000 in
theorem cd_X8_kissing : Cond.code yX8_kissing prog_1_method_21_code (8 : Nat) (Option.some Jvm.ClassFile.FieldType.int) ∈ TB := tb_at 723 (by rfl) rfl
theorem ml_X8_196 : Cond.methodLink RX8 196 yX8_shameAfterKiss ∈ TB := bc_3 _ (List.mem_of_getElem? (i := 29) rfl)
theorem im_X8_shameAfterKiss : Cond.instanceMethod yX8_shameAfterKiss ∈ TB := bc_3 _ (List.mem_of_getElem? (i := 30) rfl)
set_option maxRecDepth 50000 in
theorem cd_X8_shameAfterKiss : Cond.code yX8_shameAfterKiss prog_1_method_22_code (8 : Nat) (Option.some Jvm.ClassFile.FieldType.int) ∈ TB := tb_at 727 (by rfl) rfl
theorem ml_X8_204 : Cond.methodLink RX8 204 yX7_isChurchIn ∈ TB := bc_3 _ (List.mem_of_getElem? (i := 31) rfl)
theorem ml_X8_207 : Cond.methodLink RX8 207 yX0_bears ∈ TB := bc_3 _ (List.mem_of_getElem? (i := 32) rfl)
theorem ml_L_86 : Cond.methodLink RL 86 yX8_church ∈ TB := bc_3 _ (List.mem_of_getElem? (i := 33) rfl)
theorem im_X8_church : Cond.instanceMethod yX8_church ∈ TB := bc_3 _ (List.mem_of_getElem? (i := 34) rfl)
theorem sl_X8_church : Cond.selects RX8 yX8_church yX8_church ∈ TB := bc_3 _ (List.mem_of_getElem? (i := 35) rfl)
set_option maxRecDepth 50000 in
theorem cd_X8_church : Cond.code yX8_church prog_1_method_23_code (5 : Nat) (Option.some Jvm.ClassFile.FieldType.int) ∈ TB := tb_at 733 (by rfl) rfl
theorem ml_X8_211 : Cond.methodLink RX8 211 yX1_lookAtChurch ∈ TB := bc_3 _ (List.mem_of_getElem? (i := 36) rfl)
theorem im_X1_lookAtChurch : Cond.instanceMethod yX1_lookAtChurch ∈ TB := bc_3 _ (List.mem_of_getElem? (i := 37) rfl)
theorem sl_X1_lookAtChurch : Cond.selects RX1 yX1_lookAtChurch yX1_lookAtChurch ∈ TB := bc_3 _ (List.mem_of_getElem? (i := 38) rfl)
set_option maxRecDepth 50000 in
theorem cd_X1_lookAtChurch : Cond.code yX1_lookAtChurch prog_3_method_4_code (6 : Nat) (Option.none : Option Jvm.ClassFile.FieldType) ∈ TB := tb_at 737 (by rfl) rfl
theorem ml_L_90 : Cond.methodLink RL 90 yX8_plan ∈ TB := bc_3 _ (List.mem_of_getElem? (i := 39) rfl)
theorem im_X8_plan : Cond.instanceMethod yX8_plan ∈ TB := bc_4 _ (List.mem_of_getElem? (i := 0) rfl)
theorem sl_X8_plan : Cond.selects RX8 yX8_plan yX8_plan ∈ TB := bc_4 _ (List.mem_of_getElem? (i := 1) rfl)
set_option maxRecDepth 50000 in
theorem cd_X8_plan : Cond.code yX8_plan prog_1_method_24_code (5 : Nat) (Option.some Jvm.ClassFile.FieldType.int) ∈ TB := tb_at 741 (by rfl) rfl
theorem ml_X8_218 : Cond.methodLink RX8 218 yX5_isMissing ∈ TB := bc_4 _ (List.mem_of_getElem? (i := 2) rfl)
theorem im_X5_isMissing : Cond.instanceMethod yX5_isMissing ∈ TB := bc_4 _ (List.mem_of_getElem? (i := 3) rfl)
theorem sl_X5_isMissing : Cond.selects RX5 yX5_isMissing yX5_isMissing ∈ TB := bc_4 _ (List.mem_of_getElem? (i := 4) rfl)
set_option maxRecDepth 50000 in
theorem cd_X5_isMissing : Cond.code yX5_isMissing prog_7_method_2_code (1 : Nat) (Option.some Jvm.ClassFile.FieldType.boolean) ∈ TB := tb_at 745 (by rfl) rfl
theorem ml_X8_222 : Cond.methodLink RX8 222 yX8_isPlan ∈ TB := bc_4 _ (List.mem_of_getElem? (i := 5) rfl)
theorem im_X8_isPlan : Cond.instanceMethod yX8_isPlan ∈ TB := bc_4 _ (List.mem_of_getElem? (i := 6) rfl)
set_option maxRecDepth 50000 in
theorem cd_X8_isPlan : Cond.code yX8_isPlan prog_1_method_25_code (3 : Nat) (Option.some Jvm.ClassFile.FieldType.boolean) ∈ TB := tb_at 749 (by rfl) rfl
theorem ml_X8_240 : Cond.methodLink RX8 240 yX8_isStep ∈ TB := bc_4 _ (List.mem_of_getElem? (i := 7) rfl)
theorem im_X8_isStep : Cond.instanceMethod yX8_isStep ∈ TB := bc_4 _ (List.mem_of_getElem? (i := 8) rfl)
set_option maxRecDepth 50000 in
theorem cd_X8_isStep : Cond.code yX8_isStep prog_1_method_26_code (5 : Nat) (Option.some Jvm.ClassFile.FieldType.boolean) ∈ TB := tb_at 753 (by rfl) rfl
theorem ml_X8_226 : Cond.methodLink RX8 226 yX7_become ∈ TB := bc_4 _ (List.mem_of_getElem? (i := 9) rfl)
theorem im_X7_become : Cond.instanceMethod yX7_become ∈ TB := bc_4 _ (List.mem_of_getElem? (i := 10) rfl)
theorem sl_X7_become : Cond.selects RX7 yX7_become yX7_become ∈ TB := bc_4 _ (List.mem_of_getElem? (i := 11) rfl)
set_option maxRecDepth 50000 in
theorem cd_X7_become : Cond.code yX7_become prog_9_method_2_code (3 : Nat) (Option.none : Option Jvm.ClassFile.FieldType) ∈ TB := tb_at 757 (by rfl) rfl
theorem ml_X7_42 : Cond.methodLink RX7 42 yX3_become ∈ TB := bc_4 _ (List.mem_of_getElem? (i := 12) rfl)
theorem im_X3_become : Cond.instanceMethod yX3_become ∈ TB := bc_4 _ (List.mem_of_getElem? (i := 13) rfl)
theorem sl_X3_become : Cond.selects RX3 yX3_become yX3_become ∈ TB := bc_4 _ (List.mem_of_getElem? (i := 14) rfl)
set_option maxRecDepth 50000 in
theorem cd_X3_become : Cond.code yX3_become prog_5_method_2_code (2 : Nat) (Option.none : Option Jvm.ClassFile.FieldType) ∈ TB := tb_at 761 (by rfl) rfl
theorem ml_X3_25 : Cond.methodLink RX3 25 ({ cls := "java/lang/System", name := "arraycopy", desc := "(Ljava/lang/Object;ILjava/lang/Object;II)V" } : Jvm.MethodName) ∈ TB := bc_4 _ (List.mem_of_getElem? (i := 15) rfl)
theorem st_J10_arraycopy : Cond.static ({ cls := "java/lang/System", name := "arraycopy", desc := "(Ljava/lang/Object;ILjava/lang/Object;II)V" } : Jvm.MethodName) ∈ TB := bc_4 _ (List.mem_of_getElem? (i := 16) rfl)
theorem nv_J10_arraycopy : Cond.native ({ cls := "java/lang/System", name := "arraycopy", desc := "(Ljava/lang/Object;ILjava/lang/Object;II)V" } : Jvm.MethodName) ∈ TB := bc_4 _ (List.mem_of_getElem? (i := 17) rfl)
theorem ml_X8_235 : Cond.methodLink RX8 235 yX8_take ∈ TB := bc_4 _ (List.mem_of_getElem? (i := 18) rfl)
theorem im_X8_take : Cond.instanceMethod yX8_take ∈ TB := bc_4 _ (List.mem_of_getElem? (i := 19) rfl)
set_option maxRecDepth 50000 in
theorem cd_X8_take : Cond.code yX8_take prog_1_method_27_code (5 : Nat) (Option.none : Option Jvm.ClassFile.FieldType) ∈ TB := tb_at 768 (by rfl) rfl
theorem ml_X8_239 : Cond.methodLink RX8 239 yX7_stuckInAll ∈ TB := bc_4 _ (List.mem_of_getElem? (i := 20) rfl)
theorem im_X7_stuckInAll : Cond.instanceMethod yX7_stuckInAll ∈ TB := bc_4 _ (List.mem_of_getElem? (i := 21) rfl)
theorem sl_X7_stuckInAll : Cond.selects RX7 yX7_stuckInAll yX7_stuckInAll ∈ TB := bc_4 _ (List.mem_of_getElem? (i := 22) rfl)
set_option maxRecDepth 50000 in
theorem cd_X7_stuckInAll : Cond.code yX7_stuckInAll prog_9_method_8_code (3 : Nat) (Option.some Jvm.ClassFile.FieldType.int) ∈ TB := tb_at 772 (by rfl) rfl
theorem ml_L_94 : Cond.methodLink RL 94 yX8_tells ∈ TB := bc_4 _ (List.mem_of_getElem? (i := 23) rfl)
theorem im_X8_tells : Cond.instanceMethod yX8_tells ∈ TB := bc_4 _ (List.mem_of_getElem? (i := 24) rfl)
theorem sl_X8_tells : Cond.selects RX8 yX8_tells yX8_tells ∈ TB := bc_4 _ (List.mem_of_getElem? (i := 25) rfl)
set_option maxRecDepth 50000 in
theorem cd_X8_tells : Cond.code yX8_tells prog_1_method_28_code (6 : Nat) (Option.some Jvm.ClassFile.FieldType.int) ∈ TB := tb_at 776 (by rfl) rfl
theorem ml_X8_244 : Cond.methodLink RX8 244 yX8_firstOtherwise ∈ TB := bc_4 _ (List.mem_of_getElem? (i := 26) rfl)
theorem im_X8_firstOtherwise : Cond.instanceMethod yX8_firstOtherwise ∈ TB := bc_4 _ (List.mem_of_getElem? (i := 27) rfl)
set_option maxRecDepth 50000 in
theorem cd_X8_firstOtherwise : Cond.code yX8_firstOtherwise prog_1_method_29_code (6 : Nat) (Option.some Jvm.ClassFile.FieldType.int) ∈ TB := tb_at 780 (by rfl) rfl
theorem ml_X8_248 : Cond.methodLink RX8 248 yX8_allAsTold ∈ TB := bc_4 _ (List.mem_of_getElem? (i := 28) rfl)
theorem im_X8_allAsTold : Cond.instanceMethod yX8_allAsTold ∈ TB := bc_4 _ (List.mem_of_getElem? (i := 29) rfl)
set_option maxRecDepth 50000 in
theorem cd_X8_allAsTold : Cond.code yX8_allAsTold prog_1_method_30_code (7 : Nat) (Option.some Jvm.ClassFile.FieldType.int) ∈ TB := tb_at 784 (by rfl) rfl
theorem ml_X8_252 : Cond.methodLink RX8 252 yX8_wordsAsTold ∈ TB := bc_4 _ (List.mem_of_getElem? (i := 30) rfl)
theorem im_X8_wordsAsTold : Cond.instanceMethod yX8_wordsAsTold ∈ TB := bc_4 _ (List.mem_of_getElem? (i := 31) rfl)
set_option maxRecDepth 50000 in
theorem cd_X8_wordsAsTold : Cond.code yX8_wordsAsTold prog_1_method_31_code (4 : Nat) (Option.some Jvm.ClassFile.FieldType.int) ∈ TB := tb_at 788 (by rfl) rfl
theorem ml_X8_255 : Cond.methodLink RX8 255 yX8_agesAsTold ∈ TB := bc_4 _ (List.mem_of_getElem? (i := 32) rfl)
theorem im_X8_agesAsTold : Cond.instanceMethod yX8_agesAsTold ∈ TB := bc_4 _ (List.mem_of_getElem? (i := 33) rfl)
set_option maxRecDepth 50000 in
theorem cd_X8_agesAsTold : Cond.code yX8_agesAsTold prog_1_method_32_code (5 : Nat) (Option.some Jvm.ClassFile.FieldType.int) ∈ TB := tb_at 792 (by rfl) rfl
theorem ml_L_98 : Cond.methodLink RL 98 yX8_film ∈ TB := bc_4 _ (List.mem_of_getElem? (i := 34) rfl)
theorem im_X8_film : Cond.instanceMethod yX8_film ∈ TB := bc_4 _ (List.mem_of_getElem? (i := 35) rfl)
theorem sl_X8_film : Cond.selects RX8 yX8_film yX8_film ∈ TB := bc_4 _ (List.mem_of_getElem? (i := 36) rfl)
set_option maxRecDepth 50000 in
theorem cd_X8_film : Cond.code yX8_film prog_1_method_33_code (4 : Nat) (Option.some Jvm.ClassFile.FieldType.int) ∈ TB := tb_at 796 (by rfl) rfl
theorem ml_X8_263 : Cond.methodLink RX8 263 yX5_become ∈ TB := bc_4 _ (List.mem_of_getElem? (i := 37) rfl)
theorem im_X5_become : Cond.instanceMethod yX5_become ∈ TB := bc_4 _ (List.mem_of_getElem? (i := 38) rfl)
theorem sl_X5_become : Cond.selects RX5 yX5_become yX5_become ∈ TB := bc_4 _ (List.mem_of_getElem? (i := 39) rfl)
set_option maxRecDepth 50000 in
theorem cd_X5_become : Cond.code yX5_become prog_7_method_3_code (4 : Nat) (Option.none : Option Jvm.ClassFile.FieldType) ∈ TB := tb_at 800 (by rfl) rfl
theorem ml_X8_266 : Cond.methodLink RX8 266 yX5_put ∈ TB := bc_5 _ (List.mem_of_getElem? (i := 0) rfl)
theorem im_X5_put : Cond.instanceMethod yX5_put ∈ TB := bc_5 _ (List.mem_of_getElem? (i := 1) rfl)
theorem sl_X5_put : Cond.selects RX5 yX5_put yX5_put ∈ TB := bc_5 _ (List.mem_of_getElem? (i := 2) rfl)
set_option maxRecDepth 50000 in
theorem cd_X5_put : Cond.code yX5_put prog_7_method_4_code (3 : Nat) (Option.none : Option Jvm.ClassFile.FieldType) ∈ TB := tb_at 804 (by rfl) rfl
theorem ml_L_102 : Cond.methodLink RL 102 yX8_drawn ∈ TB := bc_5 _ (List.mem_of_getElem? (i := 3) rfl)
theorem im_X8_drawn : Cond.instanceMethod yX8_drawn ∈ TB := bc_5 _ (List.mem_of_getElem? (i := 4) rfl)
theorem sl_X8_drawn : Cond.selects RX8 yX8_drawn yX8_drawn ∈ TB := bc_5 _ (List.mem_of_getElem? (i := 5) rfl)
set_option maxRecDepth 50000 in
theorem cd_X8_drawn : Cond.code yX8_drawn prog_1_method_34_code (4 : Nat) (Option.some Jvm.ClassFile.FieldType.int) ∈ TB := tb_at 808 (by rfl) rfl
theorem ml_X8_268 : Cond.methodLink RX8 268 yX8_stuckByDraw ∈ TB := bc_5 _ (List.mem_of_getElem? (i := 6) rfl)
theorem im_X8_stuckByDraw : Cond.instanceMethod yX8_stuckByDraw ∈ TB := bc_5 _ (List.mem_of_getElem? (i := 7) rfl)
set_option maxRecDepth 50000 in
theorem cd_X8_stuckByDraw : Cond.code yX8_stuckByDraw prog_1_method_35_code (7 : Nat) (Option.some Jvm.ClassFile.FieldType.int) ∈ TB := tb_at 812 (by rfl) rfl
theorem ki_X8_271 : Cond.constant RX8 271 (1103515245 : Int32) ∈ TB := bc_5 _ (List.mem_of_getElem? (i := 8) rfl)
theorem ml_L_106 : Cond.methodLink RL 106 yX8_chance ∈ TB := bc_5 _ (List.mem_of_getElem? (i := 9) rfl)
theorem im_X8_chance : Cond.instanceMethod yX8_chance ∈ TB := bc_5 _ (List.mem_of_getElem? (i := 10) rfl)
theorem sl_X8_chance : Cond.selects RX8 yX8_chance yX8_chance ∈ TB := bc_5 _ (List.mem_of_getElem? (i := 11) rfl)
set_option maxRecDepth 50000 in
theorem cd_X8_chance : Cond.code yX8_chance prog_1_method_36_code (7 : Nat) (Option.some Jvm.ClassFile.FieldType.long) ∈ TB := tb_at 817 (by rfl) rfl
theorem kl_X8_272 : Cond.constantLong RX8 272 (-4611686018427387904 : Int64) ∈ TB := bc_5 _ (List.mem_of_getElem? (i := 12) rfl)
theorem ml_X8_274 : Cond.methodLink RX8 274 yX8_commonDivisor ∈ TB := bc_5 _ (List.mem_of_getElem? (i := 13) rfl)
theorem st_X8_commonDivisor : Cond.static yX8_commonDivisor ∈ TB := bc_5 _ (List.mem_of_getElem? (i := 14) rfl)
set_option maxRecDepth 50000 in
theorem cd_X8_commonDivisor : Cond.code yX8_commonDivisor prog_1_method_37_code (3 : Nat) (Option.some Jvm.ClassFile.FieldType.int) ∈ TB := tb_at 821 (by rfl) rfl
theorem ml_L_111 : Cond.methodLink RL 111 yX8_image ∈ TB := bc_5 _ (List.mem_of_getElem? (i := 15) rfl)
theorem im_X8_image : Cond.instanceMethod yX8_image ∈ TB := bc_5 _ (List.mem_of_getElem? (i := 16) rfl)
theorem sl_X8_image : Cond.selects RX8 yX8_image yX8_image ∈ TB := bc_5 _ (List.mem_of_getElem? (i := 17) rfl)
set_option maxRecDepth 50000 in
theorem cd_X8_image : Cond.code yX8_image prog_1_method_38_code (1 : Nat) (Option.some Jvm.ClassFile.FieldType.int) ∈ TB := tb_at 825 (by rfl) rfl
theorem ml_L_115 : Cond.methodLink RL 115 yX8_back ∈ TB := bc_5 _ (List.mem_of_getElem? (i := 18) rfl)
theorem im_X8_back : Cond.instanceMethod yX8_back ∈ TB := bc_5 _ (List.mem_of_getElem? (i := 19) rfl)
theorem sl_X8_back : Cond.selects RX8 yX8_back yX8_back ∈ TB := bc_5 _ (List.mem_of_getElem? (i := 20) rfl)
set_option maxRecDepth 50000 in
theorem cd_X8_back : Cond.code yX8_back prog_1_method_39_code (1 : Nat) (Option.some Jvm.ClassFile.FieldType.int) ∈ TB := tb_at 829 (by rfl) rfl
theorem ml_L_119 : Cond.methodLink RL 119 yX8_count ∈ TB := bc_5 _ (List.mem_of_getElem? (i := 21) rfl)
theorem im_X8_count : Cond.instanceMethod yX8_count ∈ TB := bc_5 _ (List.mem_of_getElem? (i := 22) rfl)
theorem sl_X8_count : Cond.selects RX8 yX8_count yX8_count ∈ TB := bc_5 _ (List.mem_of_getElem? (i := 23) rfl)
set_option maxRecDepth 50000 in
theorem cd_X8_count : Cond.code yX8_count prog_1_method_40_code (2 : Nat) (Option.some Jvm.ClassFile.FieldType.int) ∈ TB := tb_at 833 (by rfl) rfl
theorem ml_L_123 : Cond.methodLink RL 123 yX8_sheet ∈ TB := bc_5 _ (List.mem_of_getElem? (i := 24) rfl)
theorem im_X8_sheet : Cond.instanceMethod yX8_sheet ∈ TB := bc_5 _ (List.mem_of_getElem? (i := 25) rfl)
theorem sl_X8_sheet : Cond.selects RX8 yX8_sheet yX8_sheet ∈ TB := bc_5 _ (List.mem_of_getElem? (i := 26) rfl)
set_option maxRecDepth 50000 in
theorem cd_X8_sheet : Cond.code yX8_sheet prog_1_method_41_code (4 : Nat) (Option.some Jvm.ClassFile.FieldType.int) ∈ TB := tb_at 837 (by rfl) rfl
theorem ml_L_127 : Cond.methodLink RL 127 yX8_cell ∈ TB := bc_5 _ (List.mem_of_getElem? (i := 27) rfl)
theorem im_X8_cell : Cond.instanceMethod yX8_cell ∈ TB := bc_5 _ (List.mem_of_getElem? (i := 28) rfl)
theorem sl_X8_cell : Cond.selects RX8 yX8_cell yX8_cell ∈ TB := bc_5 _ (List.mem_of_getElem? (i := 29) rfl)
set_option maxRecDepth 50000 in
theorem cd_X8_cell : Cond.code yX8_cell prog_1_method_42_code (4 : Nat) (Option.some Jvm.ClassFile.FieldType.int) ∈ TB := tb_at 841 (by rfl) rfl
theorem ml_L_131 : Cond.methodLink RL 131 yX8_copy ∈ TB := bc_5 _ (List.mem_of_getElem? (i := 30) rfl)
theorem im_X8_copy : Cond.instanceMethod yX8_copy ∈ TB := bc_5 _ (List.mem_of_getElem? (i := 31) rfl)
theorem sl_X8_copy : Cond.selects RX8 yX8_copy yX8_copy ∈ TB := bc_5 _ (List.mem_of_getElem? (i := 32) rfl)
set_option maxRecDepth 50000 in
theorem cd_X8_copy : Cond.code yX8_copy prog_1_method_43_code (8 : Nat) (Option.some Jvm.ClassFile.FieldType.int) ∈ TB := tb_at 845 (by rfl) rfl
theorem ml_X8_284 : Cond.methodLink RX8 284 yX5_holds ∈ TB := bc_5 _ (List.mem_of_getElem? (i := 33) rfl)
theorem im_X5_holds : Cond.instanceMethod yX5_holds ∈ TB := bc_5 _ (List.mem_of_getElem? (i := 34) rfl)
theorem sl_X5_holds : Cond.selects RX5 yX5_holds yX5_holds ∈ TB := bc_5 _ (List.mem_of_getElem? (i := 35) rfl)
set_option maxRecDepth 50000 in
theorem cd_X5_holds : Cond.code yX5_holds prog_7_method_5_code (3 : Nat) (Option.some Jvm.ClassFile.FieldType.boolean) ∈ TB := tb_at 849 (by rfl) rfl
theorem ml_X8_286 : Cond.methodLink RX8 286 ({ cls := "java/lang/System", name := "arraycopy", desc := "(Ljava/lang/Object;ILjava/lang/Object;II)V" } : Jvm.MethodName) ∈ TB := bc_5 _ (List.mem_of_getElem? (i := 36) rfl)
theorem ml_L_136 : Cond.methodLink RL 136 yX8_people ∈ TB := bc_5 _ (List.mem_of_getElem? (i := 37) rfl)
theorem im_X8_people : Cond.instanceMethod yX8_people ∈ TB := bc_5 _ (List.mem_of_getElem? (i := 38) rfl)
theorem sl_X8_people : Cond.selects RX8 yX8_people yX8_people ∈ TB := bc_5 _ (List.mem_of_getElem? (i := 39) rfl)
set_option maxRecDepth 50000 in
theorem cd_X8_people : Cond.code yX8_people prog_1_method_44_code (9 : Nat) (Option.some Jvm.ClassFile.FieldType.int) ∈ TB := tb_at 854 (by rfl) rfl
theorem ml_X8_292 : Cond.methodLink RX8 292 yX8_man ∈ TB := bc_6 _ (List.mem_of_getElem? (i := 0) rfl)
theorem ml_L_140 : Cond.methodLink RL 140 yX8_taken ∈ TB := bc_6 _ (List.mem_of_getElem? (i := 1) rfl)
theorem im_X8_taken : Cond.instanceMethod yX8_taken ∈ TB := bc_6 _ (List.mem_of_getElem? (i := 2) rfl)
theorem sl_X8_taken : Cond.selects RX8 yX8_taken yX8_taken ∈ TB := bc_6 _ (List.mem_of_getElem? (i := 3) rfl)
set_option maxRecDepth 50000 in
theorem cd_X8_taken : Cond.code yX8_taken prog_1_method_45_code (4 : Nat) (Option.some Jvm.ClassFile.FieldType.int) ∈ TB := tb_at 859 (by rfl) rfl
theorem ml_X8_295 : Cond.methodLink RX8 295 yX2_isUnder ∈ TB := bc_6 _ (List.mem_of_getElem? (i := 4) rfl)
theorem st_X2_isUnder : Cond.static yX2_isUnder ∈ TB := bc_6 _ (List.mem_of_getElem? (i := 5) rfl)
set_option maxRecDepth 50000 in
theorem cd_X2_isUnder : Cond.code yX2_isUnder prog_4_method_6_code (4 : Nat) (Option.some Jvm.ClassFile.FieldType.boolean) ∈ TB := tb_at 862 (by rfl) rfl
theorem ml_X2_24 : Cond.methodLink RX2 24 yX2_above ∈ TB := bc_6 _ (List.mem_of_getElem? (i := 6) rfl)
theorem st_X2_above : Cond.static yX2_above ∈ TB := bc_6 _ (List.mem_of_getElem? (i := 7) rfl)
set_option maxRecDepth 50000 in
theorem cd_X2_above : Cond.code yX2_above prog_4_method_7_code (1 : Nat) (Option.some Jvm.ClassFile.FieldType.int) ∈ TB := tb_at 865 (by rfl) rfl
theorem cl_L_10 : Cond.classLink RL 10 RX9 ∈ TB := bc_6 _ (List.mem_of_getElem? (i := 8) rfl)
theorem is_X9 : Cond.instantiable RX9 55 ∈ TB := bc_6 _ (List.mem_of_getElem? (i := 9) rfl)
theorem ml_L_12 : Cond.methodLink RL 12 yX9_init ∈ TB := bc_6 _ (List.mem_of_getElem? (i := 10) rfl)
theorem im_X9_init : Cond.instanceMethod yX9_init ∈ TB := bc_6 _ (List.mem_of_getElem? (i := 11) rfl)
set_option maxRecDepth 50000 in
theorem cd_X9_init : Cond.code yX9_init prog_11_method_4_code (1 : Nat) (Option.none : Option Jvm.ClassFile.FieldType) ∈ TB := tb_at 870 (by rfl) rfl
theorem ml_X9_7 : Cond.methodLink RX9 7 ({ cls := "java/lang/Object", name := "<init>", desc := "()V" } : Jvm.MethodName) ∈ TB := bc_6 _ (List.mem_of_getElem? (i := 12) rfl)
theorem ml_X9_81 : Cond.methodLink RX9 81 yX9_spell ∈ TB := bc_6 _ (List.mem_of_getElem? (i := 13) rfl)
theorem im_X9_spell : Cond.instanceMethod yX9_spell ∈ TB := bc_6 _ (List.mem_of_getElem? (i := 14) rfl)
set_option maxRecDepth 50000 in
theorem cd_X9_spell : Cond.code yX9_spell prog_11_method_5_code (10 : Nat) (Option.none : Option Jvm.ClassFile.FieldType) ∈ TB := tb_at 875 (by rfl) rfl
theorem fl_X9_13 : Cond.fieldLink RX9 13 "AWordStuckModel" "texts" "[I" ∈ TB := bc_6 _ (List.mem_of_getElem? (i := 15) rfl)
theorem fl_X9_17 : Cond.fieldLink RX9 17 "AWordStuckModel" "textSize" "[I" ∈ TB := bc_6 _ (List.mem_of_getElem? (i := 16) rfl)
theorem fl_X9_85 : Cond.fieldLink RX9 85 "AWordStuckModel" "textCount" "I" ∈ TB := bc_6 _ (List.mem_of_getElem? (i := 17) rfl)
theorem fl_X9_120 : Cond.fieldLink RX9 120 "AWordStuckModel" "rule" "I" ∈ TB := bc_6 _ (List.mem_of_getElem? (i := 18) rfl)
theorem fl_X9_20 : Cond.fieldLink RX9 20 "AWordStuckModel" "tape" "[I" ∈ TB := bc_6 _ (List.mem_of_getElem? (i := 19) rfl)
theorem fl_X9_146 : Cond.fieldLink RX9 146 "AWordStuckModel" "taped" "I" ∈ TB := bc_6 _ (List.mem_of_getElem? (i := 20) rfl)
theorem fl_X9_117 : Cond.fieldLink RX9 117 "AWordStuckModel" "hourNow" "I" ∈ TB := bc_6 _ (List.mem_of_getElem? (i := 21) rfl)
theorem fl_X9_23 : Cond.fieldLink RX9 23 "AWordStuckModel" "bells" "I" ∈ TB := bc_6 _ (List.mem_of_getElem? (i := 22) rfl)
theorem fl_X9_385 : Cond.fieldLink RX9 385 "AWordStuckModel" "shame" "I" ∈ TB := bc_6 _ (List.mem_of_getElem? (i := 23) rfl)
theorem fl_X9_26 : Cond.fieldLink RX9 26 "AWordStuckModel" "kinds" "[I" ∈ TB := bc_6 _ (List.mem_of_getElem? (i := 24) rfl)
theorem fl_X9_29 : Cond.fieldLink RX9 29 "AWordStuckModel" "numbers" "[I" ∈ TB := bc_6 _ (List.mem_of_getElem? (i := 25) rfl)
theorem fl_X9_88 : Cond.fieldLink RX9 88 "AWordStuckModel" "many" "I" ∈ TB := bc_6 _ (List.mem_of_getElem? (i := 26) rfl)
theorem fl_X9_32 : Cond.fieldLink RX9 32 "AWordStuckModel" "stuck" "[I" ∈ TB := bc_6 _ (List.mem_of_getElem? (i := 27) rfl)
theorem fl_X9_35 : Cond.fieldLink RX9 35 "AWordStuckModel" "ages" "[I" ∈ TB := bc_6 _ (List.mem_of_getElem? (i := 28) rfl)
theorem fl_X9_202 : Cond.fieldLink RX9 202 "AWordStuckModel" "ofWord" "I" ∈ TB := bc_6 _ (List.mem_of_getElem? (i := 29) rfl)
theorem fl_X9_205 : Cond.fieldLink RX9 205 "AWordStuckModel" "ofFood" "I" ∈ TB := bc_6 _ (List.mem_of_getElem? (i := 30) rfl)
theorem fl_X9_208 : Cond.fieldLink RX9 208 "AWordStuckModel" "ofHour" "I" ∈ TB := bc_6 _ (List.mem_of_getElem? (i := 31) rfl)
theorem fl_X9_211 : Cond.fieldLink RX9 211 "AWordStuckModel" "ofNumber" "I" ∈ TB := bc_6 _ (List.mem_of_getElem? (i := 32) rfl)
theorem fl_X9_214 : Cond.fieldLink RX9 214 "AWordStuckModel" "ofGap" "I" ∈ TB := bc_6 _ (List.mem_of_getElem? (i := 33) rfl)
theorem fl_X9_217 : Cond.fieldLink RX9 217 "AWordStuckModel" "ofStuck" "I" ∈ TB := bc_6 _ (List.mem_of_getElem? (i := 34) rfl)
theorem fl_X9_152 : Cond.fieldLink RX9 152 "AWordStuckModel" "from" "I" ∈ TB := bc_6 _ (List.mem_of_getElem? (i := 35) rfl)
theorem fl_X9_149 : Cond.fieldLink RX9 149 "AWordStuckModel" "size" "I" ∈ TB := bc_6 _ (List.mem_of_getElem? (i := 36) rfl)
theorem fl_X9_155 : Cond.fieldLink RX9 155 "AWordStuckModel" "here" "I" ∈ TB := bc_6 _ (List.mem_of_getElem? (i := 37) rfl)
theorem fl_X9_164 : Cond.fieldLink RX9 164 "AWordStuckModel" "token" "I" ∈ TB := bc_6 _ (List.mem_of_getElem? (i := 38) rfl)
theorem fl_X9_161 : Cond.fieldLink RX9 161 "AWordStuckModel" "tokenAt" "I" ∈ TB := bc_6 _ (List.mem_of_getElem? (i := 39) rfl)
theorem fl_X9_175 : Cond.fieldLink RX9 175 "AWordStuckModel" "tokenWorth" "J" ∈ TB := bc_7 _ (List.mem_of_getElem? (i := 0) rfl)
theorem fl_X9_190 : Cond.fieldLink RX9 190 "AWordStuckModel" "open" "I" ∈ TB := bc_7 _ (List.mem_of_getElem? (i := 1) rfl)
theorem fl_X9_179 : Cond.fieldLink RX9 179 "AWordStuckModel" "bad" "Z" ∈ TB := bc_7 _ (List.mem_of_getElem? (i := 2) rfl)
theorem fl_X9_183 : Cond.fieldLink RX9 183 "AWordStuckModel" "fault" "I" ∈ TB := bc_7 _ (List.mem_of_getElem? (i := 3) rfl)
theorem fl_X9_370 : Cond.fieldLink RX9 370 "AWordStuckModel" "offMany" "I" ∈ TB := bc_7 _ (List.mem_of_getElem? (i := 4) rfl)
theorem fl_X9_373 : Cond.fieldLink RX9 373 "AWordStuckModel" "firstWord" "I" ∈ TB := bc_7 _ (List.mem_of_getElem? (i := 5) rfl)
theorem fl_X9_376 : Cond.fieldLink RX9 376 "AWordStuckModel" "firstWhose" "I" ∈ TB := bc_7 _ (List.mem_of_getElem? (i := 6) rfl)
theorem fl_X9_379 : Cond.fieldLink RX9 379 "AWordStuckModel" "firstIn" "I" ∈ TB := bc_7 _ (List.mem_of_getElem? (i := 7) rfl)
theorem fl_X9_38 : Cond.fieldLink RX9 38 "AWordStuckModel" "offIn" "[I" ∈ TB := bc_7 _ (List.mem_of_getElem? (i := 8) rfl)
theorem fl_X9_41 : Cond.fieldLink RX9 41 "AWordStuckModel" "bears" "[I" ∈ TB := bc_7 _ (List.mem_of_getElem? (i := 9) rfl)
theorem fl_X9_44 : Cond.fieldLink RX9 44 "AWordStuckModel" "stuckAside" "[I" ∈ TB := bc_7 _ (List.mem_of_getElem? (i := 10) rfl)
theorem fl_X9_47 : Cond.fieldLink RX9 47 "AWordStuckModel" "agesAside" "[I" ∈ TB := bc_7 _ (List.mem_of_getElem? (i := 11) rfl)
theorem fl_X9_395 : Cond.fieldLink RX9 395 "AWordStuckModel" "hourAside" "I" ∈ TB := bc_7 _ (List.mem_of_getElem? (i := 12) rfl)
theorem fl_X9_398 : Cond.fieldLink RX9 398 "AWordStuckModel" "shameAside" "I" ∈ TB := bc_7 _ (List.mem_of_getElem? (i := 13) rfl)
theorem fl_X9_401 : Cond.fieldLink RX9 401 "AWordStuckModel" "shameThen" "I" ∈ TB := bc_7 _ (List.mem_of_getElem? (i := 14) rfl)
theorem fl_X9_50 : Cond.fieldLink RX9 50 "AWordStuckModel" "stuckWas" "[I" ∈ TB := bc_7 _ (List.mem_of_getElem? (i := 15) rfl)
theorem fl_X9_53 : Cond.fieldLink RX9 53 "AWordStuckModel" "agesWas" "[I" ∈ TB := bc_7 _ (List.mem_of_getElem? (i := 16) rfl)
theorem fl_X9_56 : Cond.fieldLink RX9 56 "AWordStuckModel" "numbersKept" "[I" ∈ TB := bc_7 _ (List.mem_of_getElem? (i := 17) rfl)
theorem fl_X9_59 : Cond.fieldLink RX9 59 "AWordStuckModel" "stuckKept" "[I" ∈ TB := bc_7 _ (List.mem_of_getElem? (i := 18) rfl)
theorem fl_X9_62 : Cond.fieldLink RX9 62 "AWordStuckModel" "agesKept" "[I" ∈ TB := bc_7 _ (List.mem_of_getElem? (i := 19) rfl)
theorem fl_X9_65 : Cond.fieldLink RX9 65 "AWordStuckModel" "manyKept" "I" ∈ TB := bc_7 _ (List.mem_of_getElem? (i := 20) rfl)
theorem fl_X9_459 : Cond.fieldLink RX9 459 "AWordStuckModel" "hourKept" "I" ∈ TB := bc_7 _ (List.mem_of_getElem? (i := 21) rfl)
theorem fl_X9_462 : Cond.fieldLink RX9 462 "AWordStuckModel" "bellsKept" "I" ∈ TB := bc_7 _ (List.mem_of_getElem? (i := 22) rfl)
theorem fl_X9_465 : Cond.fieldLink RX9 465 "AWordStuckModel" "shameKept" "I" ∈ TB := bc_7 _ (List.mem_of_getElem? (i := 23) rfl)
theorem fl_X9_468 : Cond.fieldLink RX9 468 "AWordStuckModel" "ruleKept" "I" ∈ TB := bc_7 _ (List.mem_of_getElem? (i := 24) rfl)
theorem fl_X9_68 : Cond.fieldLink RX9 68 "AWordStuckModel" "isThere" "[Z" ∈ TB := bc_7 _ (List.mem_of_getElem? (i := 25) rfl)
theorem fl_X9_72 : Cond.fieldLink RX9 72 "AWordStuckModel" "sorts" "[I" ∈ TB := bc_7 _ (List.mem_of_getElem? (i := 26) rfl)
theorem fl_X9_75 : Cond.fieldLink RX9 75 "AWordStuckModel" "sheetSize" "[I" ∈ TB := bc_7 _ (List.mem_of_getElem? (i := 27) rfl)
theorem fl_X9_78 : Cond.fieldLink RX9 78 "AWordStuckModel" "items" "[I" ∈ TB := bc_7 _ (List.mem_of_getElem? (i := 28) rfl)
theorem ac_boolean : Cond.arrayClass Jvm.ClassFile.FieldType.boolean ∈ TB := bc_7 _ (List.mem_of_getElem? (i := 29) rfl)
theorem ml_L_17 : Cond.methodLink RL 17 yX9_set ∈ TB := bc_7 _ (List.mem_of_getElem? (i := 30) rfl)
theorem im_X9_set : Cond.instanceMethod yX9_set ∈ TB := bc_7 _ (List.mem_of_getElem? (i := 31) rfl)
theorem sl_X9_set : Cond.selects RX9 yX9_set yX9_set ∈ TB := bc_7 _ (List.mem_of_getElem? (i := 32) rfl)
set_option maxRecDepth 50000 in
theorem cd_X9_set : Cond.code yX9_set prog_11_method_9_code (5 : Nat) (Option.some Jvm.ClassFile.FieldType.int) ∈ TB := tb_at 1045 (by rfl) rfl
theorem kl_X9_99 : Cond.constantLong RX9 99 (2 : Int64) ∈ TB := bc_7 _ (List.mem_of_getElem? (i := 33) rfl)
theorem ml_X9_91 : Cond.methodLink RX9 91 yX9_in ∈ TB := bc_7 _ (List.mem_of_getElem? (i := 34) rfl)
theorem st_X9_in : Cond.static yX9_in ∈ TB := bc_7 _ (List.mem_of_getElem? (i := 35) rfl)
set_option maxRecDepth 50000 in
theorem cd_X9_in : Cond.code yX9_in prog_11_method_2_code (6 : Nat) (Option.some Jvm.ClassFile.FieldType.boolean) ∈ TB := tb_at 1049 (by rfl) rfl
theorem ml_X9_101 : Cond.methodLink RX9 101 yX9_isOne ∈ TB := bc_7 _ (List.mem_of_getElem? (i := 36) rfl)
theorem im_X9_isOne : Cond.instanceMethod yX9_isOne ∈ TB := bc_7 _ (List.mem_of_getElem? (i := 37) rfl)
set_option maxRecDepth 50000 in
theorem cd_X9_isOne : Cond.code yX9_isOne prog_11_method_6_code (2 : Nat) (Option.some Jvm.ClassFile.FieldType.boolean) ∈ TB := tb_at 1053 (by rfl) rfl
theorem kl_X9_105 : Cond.constantLong RX9 105 (999 : Int64) ∈ TB := bc_7 _ (List.mem_of_getElem? (i := 38) rfl)
theorem kl_X9_107 : Cond.constantLong RX9 107 (16777215 : Int64) ∈ TB := bc_7 _ (List.mem_of_getElem? (i := 39) rfl)
theorem kl_X9_95 : Cond.constantLong RX9 95 (9 : Int64) ∈ TB := bc_8 _ (List.mem_of_getElem? (i := 0) rfl)
theorem ml_X9_109 : Cond.methodLink RX9 109 yX9_told ∈ TB := bc_8 _ (List.mem_of_getElem? (i := 1) rfl)
theorem im_X9_told : Cond.instanceMethod yX9_told ∈ TB := bc_8 _ (List.mem_of_getElem? (i := 2) rfl)
theorem sl_X9_told : Cond.selects RX9 yX9_told yX9_told ∈ TB := bc_8 _ (List.mem_of_getElem? (i := 3) rfl)
set_option maxRecDepth 50000 in
theorem cd_X9_told : Cond.code yX9_told prog_11_method_12_code (4 : Nat) (Option.some Jvm.ClassFile.FieldType.int) ∈ TB := tb_at 1060 (by rfl) rfl
theorem kl_X9_125 : Cond.constantLong RX9 125 (4 : Int64) ∈ TB := bc_8 _ (List.mem_of_getElem? (i := 4) rfl)
theorem kl_X9_127 : Cond.constantLong RX9 127 (10 : Int64) ∈ TB := bc_8 _ (List.mem_of_getElem? (i := 5) rfl)
theorem kl_X9_129 : Cond.constantLong RX9 129 (39 : Int64) ∈ TB := bc_8 _ (List.mem_of_getElem? (i := 6) rfl)
theorem ml_X9_131 : Cond.methodLink RX9 131 yX9_stuckOf ∈ TB := bc_8 _ (List.mem_of_getElem? (i := 7) rfl)
theorem im_X9_stuckOf : Cond.instanceMethod yX9_stuckOf ∈ TB := bc_8 _ (List.mem_of_getElem? (i := 8) rfl)
set_option maxRecDepth 50000 in
theorem cd_X9_stuckOf : Cond.code yX9_stuckOf prog_11_method_13_code (4 : Nat) (Option.some Jvm.ClassFile.FieldType.int) ∈ TB := tb_at 1067 (by rfl) rfl
theorem ml_X9_135 : Cond.methodLink RX9 135 yX9_holdsIn ∈ TB := bc_8 _ (List.mem_of_getElem? (i := 9) rfl)
theorem im_X9_holdsIn : Cond.instanceMethod yX9_holdsIn ∈ TB := bc_8 _ (List.mem_of_getElem? (i := 10) rfl)
set_option maxRecDepth 50000 in
theorem cd_X9_holdsIn : Cond.code yX9_holdsIn prog_11_method_66_code (6 : Nat) (Option.some Jvm.ClassFile.FieldType.int) ∈ TB := tb_at 1071 (by rfl) rfl
theorem ml_X9_354 : Cond.methodLink RX9 354 yX9_asks ∈ TB := bc_8 _ (List.mem_of_getElem? (i := 11) rfl)
theorem im_X9_asks : Cond.instanceMethod yX9_asks ∈ TB := bc_8 _ (List.mem_of_getElem? (i := 12) rfl)
set_option maxRecDepth 50000 in
theorem cd_X9_asks : Cond.code yX9_asks prog_11_method_64_code (7 : Nat) (Option.some Jvm.ClassFile.FieldType.int) ∈ TB := tb_at 1075 (by rfl) rfl
theorem ml_X9_347 : Cond.methodLink RX9 347 yX9_read ∈ TB := bc_8 _ (List.mem_of_getElem? (i := 13) rfl)
theorem im_X9_read : Cond.instanceMethod yX9_read ∈ TB := bc_8 _ (List.mem_of_getElem? (i := 14) rfl)
set_option maxRecDepth 50000 in
theorem cd_X9_read : Cond.code yX9_read prog_11_method_61_code (6 : Nat) (Option.some Jvm.ClassFile.FieldType.int) ∈ TB := tb_at 1079 (by rfl) rfl
theorem ml_X9_196 : Cond.methodLink RX9 196 yX9_next ∈ TB := bc_8 _ (List.mem_of_getElem? (i := 15) rfl)
theorem im_X9_next : Cond.instanceMethod yX9_next ∈ TB := bc_8 _ (List.mem_of_getElem? (i := 16) rfl)
set_option maxRecDepth 50000 in
theorem cd_X9_next : Cond.code yX9_next prog_11_method_17_code (3 : Nat) (Option.none : Option Jvm.ClassFile.FieldType) ∈ TB := tb_at 1083 (by rfl) rfl
theorem ml_X9_158 : Cond.methodLink RX9 158 yX9_byteAt ∈ TB := bc_8 _ (List.mem_of_getElem? (i := 17) rfl)
theorem im_X9_byteAt : Cond.instanceMethod yX9_byteAt ∈ TB := bc_8 _ (List.mem_of_getElem? (i := 18) rfl)
set_option maxRecDepth 50000 in
theorem cd_X9_byteAt : Cond.code yX9_byteAt prog_11_method_16_code (2 : Nat) (Option.some Jvm.ClassFile.FieldType.int) ∈ TB := tb_at 1087 (by rfl) rfl
theorem kl_X9_167 : Cond.constantLong RX9 167 (97 : Int64) ∈ TB := bc_8 _ (List.mem_of_getElem? (i := 19) rfl)
theorem kl_X9_169 : Cond.constantLong RX9 169 (122 : Int64) ∈ TB := bc_8 _ (List.mem_of_getElem? (i := 20) rfl)
theorem kl_X9_171 : Cond.constantLong RX9 171 (48 : Int64) ∈ TB := bc_8 _ (List.mem_of_getElem? (i := 21) rfl)
theorem kl_X9_173 : Cond.constantLong RX9 173 (57 : Int64) ∈ TB := bc_8 _ (List.mem_of_getElem? (i := 22) rfl)
theorem ml_X9_199 : Cond.methodLink RX9 199 yX9_isWord_ ∈ TB := bc_8 _ (List.mem_of_getElem? (i := 23) rfl)
theorem im_X9_isWord_ : Cond.instanceMethod yX9_isWord_ ∈ TB := bc_8 _ (List.mem_of_getElem? (i := 24) rfl)
set_option maxRecDepth 50000 in
theorem cd_X9_isWord_ : Cond.code yX9_isWord_ prog_11_method_20_code (9 : Nat) (Option.some Jvm.ClassFile.FieldType.boolean) ∈ TB := tb_at 1095 (by rfl) rfl
theorem ml_X9_186 : Cond.methodLink RX9 186 yX9_isLetter ∈ TB := bc_8 _ (List.mem_of_getElem? (i := 25) rfl)
theorem im_X9_isLetter : Cond.instanceMethod yX9_isLetter ∈ TB := bc_8 _ (List.mem_of_getElem? (i := 26) rfl)
set_option maxRecDepth 50000 in
theorem cd_X9_isLetter : Cond.code yX9_isLetter prog_11_method_19_code (3 : Nat) (Option.some Jvm.ClassFile.FieldType.boolean) ∈ TB := tb_at 1099 (by rfl) rfl
theorem ml_X9_343 : Cond.methodLink RX9 343 yX9_part ∈ TB := bc_8 _ (List.mem_of_getElem? (i := 27) rfl)
theorem im_X9_part : Cond.instanceMethod yX9_part ∈ TB := bc_8 _ (List.mem_of_getElem? (i := 28) rfl)
set_option maxRecDepth 50000 in
theorem cd_X9_part : Cond.code yX9_part prog_11_method_60_code (3 : Nat) (Option.some Jvm.ClassFile.FieldType.int) ∈ TB := tb_at 1103 (by rfl) rfl
theorem ml_X9_193 : Cond.methodLink RX9 193 yX9_fail ∈ TB := bc_8 _ (List.mem_of_getElem? (i := 29) rfl)
theorem im_X9_fail : Cond.instanceMethod yX9_fail ∈ TB := bc_8 _ (List.mem_of_getElem? (i := 30) rfl)
set_option maxRecDepth 50000 in
theorem cd_X9_fail : Cond.code yX9_fail prog_11_method_18_code (1 : Nat) (Option.none : Option Jvm.ClassFile.FieldType) ∈ TB := tb_at 1107 (by rfl) rfl
theorem ml_X9_340 : Cond.methodLink RX9 340 yX9_either0 ∈ TB := bc_8 _ (List.mem_of_getElem? (i := 31) rfl)
theorem im_X9_either0 : Cond.instanceMethod yX9_either0 ∈ TB := bc_8 _ (List.mem_of_getElem? (i := 32) rfl)
set_option maxRecDepth 50000 in
theorem cd_X9_either0 : Cond.code yX9_either0 prog_11_method_59_code (3 : Nat) (Option.some Jvm.ClassFile.FieldType.int) ∈ TB := tb_at 1111 (by rfl) rfl
theorem ml_X9_337 : Cond.methodLink RX9 337 yX9_both0 ∈ TB := bc_8 _ (List.mem_of_getElem? (i := 33) rfl)
theorem im_X9_both0 : Cond.instanceMethod yX9_both0 ∈ TB := bc_8 _ (List.mem_of_getElem? (i := 34) rfl)
set_option maxRecDepth 50000 in
theorem cd_X9_both0 : Cond.code yX9_both0 prog_11_method_58_code (3 : Nat) (Option.some Jvm.ClassFile.FieldType.int) ∈ TB := tb_at 1115 (by rfl) rfl
theorem ml_X9_334 : Cond.methodLink RX9 334 yX9_not0 ∈ TB := bc_8 _ (List.mem_of_getElem? (i := 35) rfl)
theorem im_X9_not0 : Cond.instanceMethod yX9_not0 ∈ TB := bc_8 _ (List.mem_of_getElem? (i := 36) rfl)
set_option maxRecDepth 50000 in
theorem cd_X9_not0 : Cond.code yX9_not0 prog_11_method_57_code (4 : Nat) (Option.some Jvm.ClassFile.FieldType.int) ∈ TB := tb_at 1119 (by rfl) rfl
theorem ml_X9_223 : Cond.methodLink RX9 223 yX9_opens ∈ TB := bc_8 _ (List.mem_of_getElem? (i := 37) rfl)
theorem im_X9_opens : Cond.instanceMethod yX9_opens ∈ TB := bc_8 _ (List.mem_of_getElem? (i := 38) rfl)
set_option maxRecDepth 50000 in
theorem cd_X9_opens : Cond.code yX9_opens prog_11_method_22_code (1 : Nat) (Option.some Jvm.ClassFile.FieldType.boolean) ∈ TB := tb_at 1123 (by rfl) rfl
theorem ml_X9_316 : Cond.methodLink RX9 316 yX9_not1 ∈ TB := bc_8 _ (List.mem_of_getElem? (i := 39) rfl)
theorem im_X9_not1 : Cond.instanceMethod yX9_not1 ∈ TB := bc_9 _ (List.mem_of_getElem? (i := 0) rfl)
set_option maxRecDepth 50000 in
theorem cd_X9_not1 : Cond.code yX9_not1 prog_11_method_51_code (4 : Nat) (Option.some Jvm.ClassFile.FieldType.int) ∈ TB := tb_at 1127 (by rfl) rfl
theorem ml_X9_298 : Cond.methodLink RX9 298 yX9_not2 ∈ TB := bc_9 _ (List.mem_of_getElem? (i := 1) rfl)
theorem im_X9_not2 : Cond.instanceMethod yX9_not2 ∈ TB := bc_9 _ (List.mem_of_getElem? (i := 2) rfl)
set_option maxRecDepth 50000 in
theorem cd_X9_not2 : Cond.code yX9_not2 prog_11_method_45_code (4 : Nat) (Option.some Jvm.ClassFile.FieldType.int) ∈ TB := tb_at 1131 (by rfl) rfl
theorem ml_X9_280 : Cond.methodLink RX9 280 yX9_not3 ∈ TB := bc_9 _ (List.mem_of_getElem? (i := 3) rfl)
theorem im_X9_not3 : Cond.instanceMethod yX9_not3 ∈ TB := bc_9 _ (List.mem_of_getElem? (i := 4) rfl)
set_option maxRecDepth 50000 in
theorem cd_X9_not3 : Cond.code yX9_not3 prog_11_method_39_code (4 : Nat) (Option.some Jvm.ClassFile.FieldType.int) ∈ TB := tb_at 1135 (by rfl) rfl
theorem ml_X9_262 : Cond.methodLink RX9 262 yX9_not4 ∈ TB := bc_9 _ (List.mem_of_getElem? (i := 5) rfl)
theorem im_X9_not4 : Cond.instanceMethod yX9_not4 ∈ TB := bc_9 _ (List.mem_of_getElem? (i := 6) rfl)
set_option maxRecDepth 50000 in
theorem cd_X9_not4 : Cond.code yX9_not4 prog_11_method_33_code (4 : Nat) (Option.some Jvm.ClassFile.FieldType.int) ∈ TB := tb_at 1139 (by rfl) rfl
theorem ml_X9_244 : Cond.methodLink RX9 244 yX9_not5 ∈ TB := bc_9 _ (List.mem_of_getElem? (i := 7) rfl)
theorem im_X9_not5 : Cond.instanceMethod yX9_not5 ∈ TB := bc_9 _ (List.mem_of_getElem? (i := 8) rfl)
set_option maxRecDepth 50000 in
theorem cd_X9_not5 : Cond.code yX9_not5 prog_11_method_27_code (4 : Nat) (Option.some Jvm.ClassFile.FieldType.int) ∈ TB := tb_at 1143 (by rfl) rfl
theorem ml_X9_239 : Cond.methodLink RX9 239 yX9_added5 ∈ TB := bc_9 _ (List.mem_of_getElem? (i := 9) rfl)
theorem im_X9_added5 : Cond.instanceMethod yX9_added5 ∈ TB := bc_9 _ (List.mem_of_getElem? (i := 10) rfl)
set_option maxRecDepth 50000 in
theorem cd_X9_added5 : Cond.code yX9_added5 prog_11_method_26_code (4 : Nat) (Option.some Jvm.ClassFile.FieldType.int) ∈ TB := tb_at 1147 (by rfl) rfl
theorem ml_X9_234 : Cond.methodLink RX9 234 yX9_term5 ∈ TB := bc_9 _ (List.mem_of_getElem? (i := 11) rfl)
theorem im_X9_term5 : Cond.instanceMethod yX9_term5 ∈ TB := bc_9 _ (List.mem_of_getElem? (i := 12) rfl)
set_option maxRecDepth 50000 in
theorem cd_X9_term5 : Cond.code yX9_term5 prog_11_method_25_code (2 : Nat) (Option.some Jvm.ClassFile.FieldType.int) ∈ TB := tb_at 1151 (by rfl) rfl
theorem ml_X9_231 : Cond.methodLink RX9 231 yX9_atom5 ∈ TB := bc_9 _ (List.mem_of_getElem? (i := 13) rfl)
theorem im_X9_atom5 : Cond.instanceMethod yX9_atom5 ∈ TB := bc_9 _ (List.mem_of_getElem? (i := 14) rfl)
set_option maxRecDepth 50000 in
theorem cd_X9_atom5 : Cond.code yX9_atom5 prog_11_method_24_code (2 : Nat) (Option.some Jvm.ClassFile.FieldType.int) ∈ TB := tb_at 1155 (by rfl) rfl
theorem ml_X9_220 : Cond.methodLink RX9 220 yX9_isSign ∈ TB := bc_9 _ (List.mem_of_getElem? (i := 15) rfl)
theorem im_X9_isSign : Cond.instanceMethod yX9_isSign ∈ TB := bc_9 _ (List.mem_of_getElem? (i := 16) rfl)
set_option maxRecDepth 50000 in
theorem cd_X9_isSign : Cond.code yX9_isSign prog_11_method_21_code (2 : Nat) (Option.some Jvm.ClassFile.FieldType.boolean) ∈ TB := tb_at 1159 (by rfl) rfl
theorem ml_X9_227 : Cond.methodLink RX9 227 yX9_name ∈ TB := bc_9 _ (List.mem_of_getElem? (i := 17) rfl)
theorem im_X9_name : Cond.instanceMethod yX9_name ∈ TB := bc_9 _ (List.mem_of_getElem? (i := 18) rfl)
set_option maxRecDepth 50000 in
theorem cd_X9_name : Cond.code yX9_name prog_11_method_23_code (1 : Nat) (Option.some Jvm.ClassFile.FieldType.int) ∈ TB := tb_at 1163 (by rfl) rfl
theorem kl_X9_237 : Cond.constantLong RX9 237 (43 : Int64) ∈ TB := bc_9 _ (List.mem_of_getElem? (i := 19) rfl)
theorem kl_X9_242 : Cond.constantLong RX9 242 (60 : Int64) ∈ TB := bc_9 _ (List.mem_of_getElem? (i := 20) rfl)
theorem ml_X9_259 : Cond.methodLink RX9 259 yX9_added4 ∈ TB := bc_9 _ (List.mem_of_getElem? (i := 21) rfl)
theorem im_X9_added4 : Cond.instanceMethod yX9_added4 ∈ TB := bc_9 _ (List.mem_of_getElem? (i := 22) rfl)
set_option maxRecDepth 50000 in
theorem cd_X9_added4 : Cond.code yX9_added4 prog_11_method_32_code (4 : Nat) (Option.some Jvm.ClassFile.FieldType.int) ∈ TB := tb_at 1169 (by rfl) rfl
theorem ml_X9_256 : Cond.methodLink RX9 256 yX9_term4 ∈ TB := bc_9 _ (List.mem_of_getElem? (i := 23) rfl)
theorem im_X9_term4 : Cond.instanceMethod yX9_term4 ∈ TB := bc_9 _ (List.mem_of_getElem? (i := 24) rfl)
set_option maxRecDepth 50000 in
theorem cd_X9_term4 : Cond.code yX9_term4 prog_11_method_31_code (2 : Nat) (Option.some Jvm.ClassFile.FieldType.int) ∈ TB := tb_at 1173 (by rfl) rfl
theorem ml_X9_253 : Cond.methodLink RX9 253 yX9_atom4 ∈ TB := bc_9 _ (List.mem_of_getElem? (i := 25) rfl)
theorem im_X9_atom4 : Cond.instanceMethod yX9_atom4 ∈ TB := bc_9 _ (List.mem_of_getElem? (i := 26) rfl)
set_option maxRecDepth 50000 in
theorem cd_X9_atom4 : Cond.code yX9_atom4 prog_11_method_30_code (2 : Nat) (Option.some Jvm.ClassFile.FieldType.int) ∈ TB := tb_at 1177 (by rfl) rfl
theorem ml_X9_250 : Cond.methodLink RX9 250 yX9_either5 ∈ TB := bc_9 _ (List.mem_of_getElem? (i := 27) rfl)
theorem im_X9_either5 : Cond.instanceMethod yX9_either5 ∈ TB := bc_9 _ (List.mem_of_getElem? (i := 28) rfl)
set_option maxRecDepth 50000 in
theorem cd_X9_either5 : Cond.code yX9_either5 prog_11_method_29_code (3 : Nat) (Option.some Jvm.ClassFile.FieldType.int) ∈ TB := tb_at 1181 (by rfl) rfl
theorem ml_X9_247 : Cond.methodLink RX9 247 yX9_both5 ∈ TB := bc_9 _ (List.mem_of_getElem? (i := 29) rfl)
theorem im_X9_both5 : Cond.instanceMethod yX9_both5 ∈ TB := bc_9 _ (List.mem_of_getElem? (i := 30) rfl)
set_option maxRecDepth 50000 in
theorem cd_X9_both5 : Cond.code yX9_both5 prog_11_method_28_code (3 : Nat) (Option.some Jvm.ClassFile.FieldType.int) ∈ TB := tb_at 1185 (by rfl) rfl
theorem ml_X9_277 : Cond.methodLink RX9 277 yX9_added3 ∈ TB := bc_9 _ (List.mem_of_getElem? (i := 31) rfl)
theorem im_X9_added3 : Cond.instanceMethod yX9_added3 ∈ TB := bc_9 _ (List.mem_of_getElem? (i := 32) rfl)
set_option maxRecDepth 50000 in
theorem cd_X9_added3 : Cond.code yX9_added3 prog_11_method_38_code (4 : Nat) (Option.some Jvm.ClassFile.FieldType.int) ∈ TB := tb_at 1189 (by rfl) rfl
theorem ml_X9_274 : Cond.methodLink RX9 274 yX9_term3 ∈ TB := bc_9 _ (List.mem_of_getElem? (i := 33) rfl)
theorem im_X9_term3 : Cond.instanceMethod yX9_term3 ∈ TB := bc_9 _ (List.mem_of_getElem? (i := 34) rfl)
set_option maxRecDepth 50000 in
theorem cd_X9_term3 : Cond.code yX9_term3 prog_11_method_37_code (2 : Nat) (Option.some Jvm.ClassFile.FieldType.int) ∈ TB := tb_at 1193 (by rfl) rfl
theorem ml_X9_271 : Cond.methodLink RX9 271 yX9_atom3 ∈ TB := bc_9 _ (List.mem_of_getElem? (i := 35) rfl)
theorem im_X9_atom3 : Cond.instanceMethod yX9_atom3 ∈ TB := bc_9 _ (List.mem_of_getElem? (i := 36) rfl)
set_option maxRecDepth 50000 in
theorem cd_X9_atom3 : Cond.code yX9_atom3 prog_11_method_36_code (2 : Nat) (Option.some Jvm.ClassFile.FieldType.int) ∈ TB := tb_at 1197 (by rfl) rfl
theorem ml_X9_268 : Cond.methodLink RX9 268 yX9_either4 ∈ TB := bc_9 _ (List.mem_of_getElem? (i := 37) rfl)
theorem im_X9_either4 : Cond.instanceMethod yX9_either4 ∈ TB := bc_9 _ (List.mem_of_getElem? (i := 38) rfl)
set_option maxRecDepth 50000 in
theorem cd_X9_either4 : Cond.code yX9_either4 prog_11_method_35_code (3 : Nat) (Option.some Jvm.ClassFile.FieldType.int) ∈ TB := tb_at 1201 (by rfl) rfl
theorem ml_X9_265 : Cond.methodLink RX9 265 yX9_both4 ∈ TB := bc_9 _ (List.mem_of_getElem? (i := 39) rfl)
theorem im_X9_both4 : Cond.instanceMethod yX9_both4 ∈ TB := bc_10 _ (List.mem_of_getElem? (i := 0) rfl)
set_option maxRecDepth 50000 in
theorem cd_X9_both4 : Cond.code yX9_both4 prog_11_method_34_code (3 : Nat) (Option.some Jvm.ClassFile.FieldType.int) ∈ TB := tb_at 1205 (by rfl) rfl
theorem ml_X9_295 : Cond.methodLink RX9 295 yX9_added2 ∈ TB := bc_10 _ (List.mem_of_getElem? (i := 1) rfl)
theorem im_X9_added2 : Cond.instanceMethod yX9_added2 ∈ TB := bc_10 _ (List.mem_of_getElem? (i := 2) rfl)
set_option maxRecDepth 50000 in
theorem cd_X9_added2 : Cond.code yX9_added2 prog_11_method_44_code (4 : Nat) (Option.some Jvm.ClassFile.FieldType.int) ∈ TB := tb_at 1209 (by rfl) rfl
theorem ml_X9_292 : Cond.methodLink RX9 292 yX9_term2 ∈ TB := bc_10 _ (List.mem_of_getElem? (i := 3) rfl)
theorem im_X9_term2 : Cond.instanceMethod yX9_term2 ∈ TB := bc_10 _ (List.mem_of_getElem? (i := 4) rfl)
set_option maxRecDepth 50000 in
theorem cd_X9_term2 : Cond.code yX9_term2 prog_11_method_43_code (2 : Nat) (Option.some Jvm.ClassFile.FieldType.int) ∈ TB := tb_at 1213 (by rfl) rfl
theorem ml_X9_289 : Cond.methodLink RX9 289 yX9_atom2 ∈ TB := bc_10 _ (List.mem_of_getElem? (i := 5) rfl)
theorem im_X9_atom2 : Cond.instanceMethod yX9_atom2 ∈ TB := bc_10 _ (List.mem_of_getElem? (i := 6) rfl)
set_option maxRecDepth 50000 in
theorem cd_X9_atom2 : Cond.code yX9_atom2 prog_11_method_42_code (2 : Nat) (Option.some Jvm.ClassFile.FieldType.int) ∈ TB := tb_at 1217 (by rfl) rfl
theorem ml_X9_286 : Cond.methodLink RX9 286 yX9_either3 ∈ TB := bc_10 _ (List.mem_of_getElem? (i := 7) rfl)
theorem im_X9_either3 : Cond.instanceMethod yX9_either3 ∈ TB := bc_10 _ (List.mem_of_getElem? (i := 8) rfl)
set_option maxRecDepth 50000 in
theorem cd_X9_either3 : Cond.code yX9_either3 prog_11_method_41_code (3 : Nat) (Option.some Jvm.ClassFile.FieldType.int) ∈ TB := tb_at 1221 (by rfl) rfl
theorem ml_X9_283 : Cond.methodLink RX9 283 yX9_both3 ∈ TB := bc_10 _ (List.mem_of_getElem? (i := 9) rfl)
theorem im_X9_both3 : Cond.instanceMethod yX9_both3 ∈ TB := bc_10 _ (List.mem_of_getElem? (i := 10) rfl)
set_option maxRecDepth 50000 in
theorem cd_X9_both3 : Cond.code yX9_both3 prog_11_method_40_code (3 : Nat) (Option.some Jvm.ClassFile.FieldType.int) ∈ TB := tb_at 1225 (by rfl) rfl
theorem ml_X9_313 : Cond.methodLink RX9 313 yX9_added1 ∈ TB := bc_10 _ (List.mem_of_getElem? (i := 11) rfl)
theorem im_X9_added1 : Cond.instanceMethod yX9_added1 ∈ TB := bc_10 _ (List.mem_of_getElem? (i := 12) rfl)
set_option maxRecDepth 50000 in
theorem cd_X9_added1 : Cond.code yX9_added1 prog_11_method_50_code (4 : Nat) (Option.some Jvm.ClassFile.FieldType.int) ∈ TB := tb_at 1229 (by rfl) rfl
theorem ml_X9_310 : Cond.methodLink RX9 310 yX9_term1 ∈ TB := bc_10 _ (List.mem_of_getElem? (i := 13) rfl)
theorem im_X9_term1 : Cond.instanceMethod yX9_term1 ∈ TB := bc_10 _ (List.mem_of_getElem? (i := 14) rfl)
set_option maxRecDepth 50000 in
theorem cd_X9_term1 : Cond.code yX9_term1 prog_11_method_49_code (2 : Nat) (Option.some Jvm.ClassFile.FieldType.int) ∈ TB := tb_at 1233 (by rfl) rfl
theorem ml_X9_307 : Cond.methodLink RX9 307 yX9_atom1 ∈ TB := bc_10 _ (List.mem_of_getElem? (i := 15) rfl)
theorem im_X9_atom1 : Cond.instanceMethod yX9_atom1 ∈ TB := bc_10 _ (List.mem_of_getElem? (i := 16) rfl)
set_option maxRecDepth 50000 in
theorem cd_X9_atom1 : Cond.code yX9_atom1 prog_11_method_48_code (2 : Nat) (Option.some Jvm.ClassFile.FieldType.int) ∈ TB := tb_at 1237 (by rfl) rfl
theorem ml_X9_304 : Cond.methodLink RX9 304 yX9_either2 ∈ TB := bc_10 _ (List.mem_of_getElem? (i := 17) rfl)
theorem im_X9_either2 : Cond.instanceMethod yX9_either2 ∈ TB := bc_10 _ (List.mem_of_getElem? (i := 18) rfl)
set_option maxRecDepth 50000 in
theorem cd_X9_either2 : Cond.code yX9_either2 prog_11_method_47_code (3 : Nat) (Option.some Jvm.ClassFile.FieldType.int) ∈ TB := tb_at 1241 (by rfl) rfl
theorem ml_X9_301 : Cond.methodLink RX9 301 yX9_both2 ∈ TB := bc_10 _ (List.mem_of_getElem? (i := 19) rfl)
theorem im_X9_both2 : Cond.instanceMethod yX9_both2 ∈ TB := bc_10 _ (List.mem_of_getElem? (i := 20) rfl)
set_option maxRecDepth 50000 in
theorem cd_X9_both2 : Cond.code yX9_both2 prog_11_method_46_code (3 : Nat) (Option.some Jvm.ClassFile.FieldType.int) ∈ TB := tb_at 1245 (by rfl) rfl
theorem ml_X9_331 : Cond.methodLink RX9 331 yX9_added0 ∈ TB := bc_10 _ (List.mem_of_getElem? (i := 21) rfl)
theorem im_X9_added0 : Cond.instanceMethod yX9_added0 ∈ TB := bc_10 _ (List.mem_of_getElem? (i := 22) rfl)
set_option maxRecDepth 50000 in
theorem cd_X9_added0 : Cond.code yX9_added0 prog_11_method_56_code (4 : Nat) (Option.some Jvm.ClassFile.FieldType.int) ∈ TB := tb_at 1249 (by rfl) rfl
theorem ml_X9_328 : Cond.methodLink RX9 328 yX9_term0 ∈ TB := bc_10 _ (List.mem_of_getElem? (i := 23) rfl)
theorem im_X9_term0 : Cond.instanceMethod yX9_term0 ∈ TB := bc_10 _ (List.mem_of_getElem? (i := 24) rfl)
set_option maxRecDepth 50000 in
theorem cd_X9_term0 : Cond.code yX9_term0 prog_11_method_55_code (2 : Nat) (Option.some Jvm.ClassFile.FieldType.int) ∈ TB := tb_at 1253 (by rfl) rfl
theorem ml_X9_325 : Cond.methodLink RX9 325 yX9_atom0 ∈ TB := bc_10 _ (List.mem_of_getElem? (i := 25) rfl)
theorem im_X9_atom0 : Cond.instanceMethod yX9_atom0 ∈ TB := bc_10 _ (List.mem_of_getElem? (i := 26) rfl)
set_option maxRecDepth 50000 in
theorem cd_X9_atom0 : Cond.code yX9_atom0 prog_11_method_54_code (2 : Nat) (Option.some Jvm.ClassFile.FieldType.int) ∈ TB := tb_at 1257 (by rfl) rfl
theorem ml_X9_322 : Cond.methodLink RX9 322 yX9_either1 ∈ TB := bc_10 _ (List.mem_of_getElem? (i := 27) rfl)
theorem im_X9_either1 : Cond.instanceMethod yX9_either1 ∈ TB := bc_10 _ (List.mem_of_getElem? (i := 28) rfl)
set_option maxRecDepth 50000 in
theorem cd_X9_either1 : Cond.code yX9_either1 prog_11_method_53_code (3 : Nat) (Option.some Jvm.ClassFile.FieldType.int) ∈ TB := tb_at 1261 (by rfl) rfl
theorem ml_X9_319 : Cond.methodLink RX9 319 yX9_both1 ∈ TB := bc_10 _ (List.mem_of_getElem? (i := 29) rfl)
theorem im_X9_both1 : Cond.instanceMethod yX9_both1 ∈ TB := bc_10 _ (List.mem_of_getElem? (i := 30) rfl)
set_option maxRecDepth 50000 in
theorem cd_X9_both1 : Cond.code yX9_both1 prog_11_method_52_code (3 : Nat) (Option.some Jvm.ClassFile.FieldType.int) ∈ TB := tb_at 1265 (by rfl) rfl
theorem ml_X9_350 : Cond.methodLink RX9 350 yX9_within ∈ TB := bc_10 _ (List.mem_of_getElem? (i := 31) rfl)
theorem st_X9_within : Cond.static yX9_within ∈ TB := bc_10 _ (List.mem_of_getElem? (i := 32) rfl)
set_option maxRecDepth 50000 in
theorem cd_X9_within : Cond.code yX9_within prog_11_method_3_code (3 : Nat) (Option.some Jvm.ClassFile.FieldType.int) ∈ TB := tb_at 1268 (by rfl) rfl
theorem ml_X9_113 : Cond.methodLink RX9 113 yX9_lays ∈ TB := bc_10 _ (List.mem_of_getElem? (i := 33) rfl)
theorem im_X9_lays : Cond.instanceMethod yX9_lays ∈ TB := bc_10 _ (List.mem_of_getElem? (i := 34) rfl)
set_option maxRecDepth 50000 in
theorem cd_X9_lays : Cond.code yX9_lays prog_11_method_10_code (4 : Nat) (Option.none : Option Jvm.ClassFile.FieldType) ∈ TB := tb_at 1272 (by rfl) rfl
theorem ml_L_22 : Cond.methodLink RL 22 yX9_man ∈ TB := bc_10 _ (List.mem_of_getElem? (i := 35) rfl)
theorem im_X9_man : Cond.instanceMethod yX9_man ∈ TB := bc_10 _ (List.mem_of_getElem? (i := 36) rfl)
theorem sl_X9_man : Cond.selects RX9 yX9_man yX9_man ∈ TB := bc_10 _ (List.mem_of_getElem? (i := 37) rfl)
set_option maxRecDepth 50000 in
theorem cd_X9_man : Cond.code yX9_man prog_11_method_11_code (4 : Nat) (Option.some Jvm.ClassFile.FieldType.int) ∈ TB := tb_at 1276 (by rfl) rfl
theorem kl_X9_123 : Cond.constantLong RX9 123 (5 : Int64) ∈ TB := bc_10 _ (List.mem_of_getElem? (i := 38) rfl)
theorem ml_L_26 : Cond.methodLink RL 26 yX9_told ∈ TB := bc_10 _ (List.mem_of_getElem? (i := 39) rfl)
theorem ml_L_31 : Cond.methodLink RL 31 yX9_fill ∈ TB := bc_11 _ (List.mem_of_getElem? (i := 0) rfl)
theorem im_X9_fill : Cond.instanceMethod yX9_fill ∈ TB := bc_11 _ (List.mem_of_getElem? (i := 1) rfl)
theorem sl_X9_fill : Cond.selects RX9 yX9_fill yX9_fill ∈ TB := bc_11 _ (List.mem_of_getElem? (i := 2) rfl)
set_option maxRecDepth 50000 in
theorem cd_X9_fill : Cond.code yX9_fill prog_11_method_14_code (7 : Nat) (Option.some Jvm.ClassFile.FieldType.int) ∈ TB := tb_at 1282 (by rfl) rfl
theorem ml_X9_138 : Cond.methodLink RX9 138 yX9_isGap ∈ TB := bc_11 _ (List.mem_of_getElem? (i := 3) rfl)
theorem st_X9_isGap : Cond.static yX9_isGap ∈ TB := bc_11 _ (List.mem_of_getElem? (i := 4) rfl)
set_option maxRecDepth 50000 in
theorem cd_X9_isGap : Cond.code yX9_isGap prog_11_method_7_code (1 : Nat) (Option.some Jvm.ClassFile.FieldType.boolean) ∈ TB := tb_at 1285 (by rfl) rfl
theorem ml_X9_141 : Cond.methodLink RX9 141 yX9_isWord ∈ TB := bc_11 _ (List.mem_of_getElem? (i := 5) rfl)
theorem st_X9_isWord : Cond.static yX9_isWord ∈ TB := bc_11 _ (List.mem_of_getElem? (i := 6) rfl)
set_option maxRecDepth 50000 in
theorem cd_X9_isWord : Cond.code yX9_isWord prog_11_method_8_code (1 : Nat) (Option.some Jvm.ClassFile.FieldType.boolean) ∈ TB := tb_at 1288 (by rfl) rfl
theorem kl_X9_97 : Cond.constantLong RX9 97 (15 : Int64) ∈ TB := bc_11 _ (List.mem_of_getElem? (i := 7) rfl)
theorem ml_L_36 : Cond.methodLink RL 36 yX9_feed ∈ TB := bc_11 _ (List.mem_of_getElem? (i := 8) rfl)
theorem im_X9_feed : Cond.instanceMethod yX9_feed ∈ TB := bc_11 _ (List.mem_of_getElem? (i := 9) rfl)
theorem sl_X9_feed : Cond.selects RX9 yX9_feed yX9_feed ∈ TB := bc_11 _ (List.mem_of_getElem? (i := 10) rfl)
set_option maxRecDepth 50000 in
theorem cd_X9_feed : Cond.code yX9_feed prog_11_method_15_code (2 : Nat) (Option.some Jvm.ClassFile.FieldType.int) ∈ TB := tb_at 1293 (by rfl) rfl
theorem kl_X9_144 : Cond.constantLong RX9 144 (255 : Int64) ∈ TB := bc_11 _ (List.mem_of_getElem? (i := 11) rfl)
theorem ml_L_41 : Cond.methodLink RL 41 yX9_text ∈ TB := bc_11 _ (List.mem_of_getElem? (i := 12) rfl)
theorem im_X9_text : Cond.instanceMethod yX9_text ∈ TB := bc_11 _ (List.mem_of_getElem? (i := 13) rfl)
theorem sl_X9_text : Cond.selects RX9 yX9_text yX9_text ∈ TB := bc_11 _ (List.mem_of_getElem? (i := 14) rfl)
set_option maxRecDepth 50000 in
theorem cd_X9_text : Cond.code yX9_text prog_11_method_62_code (2 : Nat) (Option.some Jvm.ClassFile.FieldType.int) ∈ TB := tb_at 1298 (by rfl) rfl
theorem ml_L_45 : Cond.methodLink RL 45 yX9_force ∈ TB := bc_11 _ (List.mem_of_getElem? (i := 15) rfl)
theorem im_X9_force : Cond.instanceMethod yX9_force ∈ TB := bc_11 _ (List.mem_of_getElem? (i := 16) rfl)
theorem sl_X9_force : Cond.selects RX9 yX9_force yX9_force ∈ TB := bc_11 _ (List.mem_of_getElem? (i := 17) rfl)
set_option maxRecDepth 50000 in
theorem cd_X9_force : Cond.code yX9_force prog_11_method_63_code (3 : Nat) (Option.some Jvm.ClassFile.FieldType.int) ∈ TB := tb_at 1302 (by rfl) rfl
theorem ml_L_49 : Cond.methodLink RL 49 yX9_say ∈ TB := bc_11 _ (List.mem_of_getElem? (i := 18) rfl)
theorem im_X9_say : Cond.instanceMethod yX9_say ∈ TB := bc_11 _ (List.mem_of_getElem? (i := 19) rfl)
theorem sl_X9_say : Cond.selects RX9 yX9_say yX9_say ∈ TB := bc_11 _ (List.mem_of_getElem? (i := 20) rfl)
set_option maxRecDepth 50000 in
theorem cd_X9_say : Cond.code yX9_say prog_11_method_70_code (4 : Nat) (Option.some Jvm.ClassFile.FieldType.int) ∈ TB := tb_at 1306 (by rfl) rfl
theorem ml_X9_364 : Cond.methodLink RX9 364 yX9_speaks ∈ TB := bc_11 _ (List.mem_of_getElem? (i := 21) rfl)
theorem im_X9_speaks : Cond.instanceMethod yX9_speaks ∈ TB := bc_11 _ (List.mem_of_getElem? (i := 22) rfl)
set_option maxRecDepth 50000 in
theorem cd_X9_speaks : Cond.code yX9_speaks prog_11_method_69_code (5 : Nat) (Option.some Jvm.ClassFile.FieldType.int) ∈ TB := tb_at 1310 (by rfl) rfl
theorem ml_X9_361 : Cond.methodLink RX9 361 yX9_wouldStick ∈ TB := bc_11 _ (List.mem_of_getElem? (i := 23) rfl)
theorem im_X9_wouldStick : Cond.instanceMethod yX9_wouldStick ∈ TB := bc_11 _ (List.mem_of_getElem? (i := 24) rfl)
set_option maxRecDepth 50000 in
theorem cd_X9_wouldStick : Cond.code yX9_wouldStick prog_11_method_68_code (5 : Nat) (Option.some Jvm.ClassFile.FieldType.int) ∈ TB := tb_at 1314 (by rfl) rfl
theorem ml_X9_358 : Cond.methodLink RX9 358 yX9_takesOf ∈ TB := bc_11 _ (List.mem_of_getElem? (i := 25) rfl)
theorem im_X9_takesOf : Cond.instanceMethod yX9_takesOf ∈ TB := bc_11 _ (List.mem_of_getElem? (i := 26) rfl)
set_option maxRecDepth 50000 in
theorem cd_X9_takesOf : Cond.code yX9_takesOf prog_11_method_65_code (4 : Nat) (Option.some Jvm.ClassFile.FieldType.int) ∈ TB := tb_at 1318 (by rfl) rfl
theorem ml_L_53 : Cond.methodLink RL 53 yX9_floss ∈ TB := bc_11 _ (List.mem_of_getElem? (i := 27) rfl)
theorem im_X9_floss : Cond.instanceMethod yX9_floss ∈ TB := bc_11 _ (List.mem_of_getElem? (i := 28) rfl)
theorem sl_X9_floss : Cond.selects RX9 yX9_floss yX9_floss ∈ TB := bc_11 _ (List.mem_of_getElem? (i := 29) rfl)
set_option maxRecDepth 50000 in
theorem cd_X9_floss : Cond.code yX9_floss prog_11_method_71_code (4 : Nat) (Option.some Jvm.ClassFile.FieldType.int) ∈ TB := tb_at 1322 (by rfl) rfl
theorem ml_L_57 : Cond.methodLink RL 57 yX9_kiss ∈ TB := bc_11 _ (List.mem_of_getElem? (i := 30) rfl)
theorem im_X9_kiss : Cond.instanceMethod yX9_kiss ∈ TB := bc_11 _ (List.mem_of_getElem? (i := 31) rfl)
theorem sl_X9_kiss : Cond.selects RX9 yX9_kiss yX9_kiss ∈ TB := bc_11 _ (List.mem_of_getElem? (i := 32) rfl)
set_option maxRecDepth 50000 in
theorem cd_X9_kiss : Cond.code yX9_kiss prog_11_method_73_code (3 : Nat) (Option.some Jvm.ClassFile.FieldType.int) ∈ TB := tb_at 1326 (by rfl) rfl
theorem ml_X9_367 : Cond.methodLink RX9 367 yX9_hands ∈ TB := bc_11 _ (List.mem_of_getElem? (i := 33) rfl)
theorem im_X9_hands : Cond.instanceMethod yX9_hands ∈ TB := bc_11 _ (List.mem_of_getElem? (i := 34) rfl)
set_option maxRecDepth 50000 in
theorem cd_X9_hands : Cond.code yX9_hands prog_11_method_72_code (7 : Nat) (Option.some Jvm.ClassFile.FieldType.int) ∈ TB := tb_at 1330 (by rfl) rfl
theorem ml_L_61 : Cond.methodLink RL 61 yX9_live ∈ TB := bc_11 _ (List.mem_of_getElem? (i := 35) rfl)
theorem im_X9_live : Cond.instanceMethod yX9_live ∈ TB := bc_11 _ (List.mem_of_getElem? (i := 36) rfl)
theorem sl_X9_live : Cond.selects RX9 yX9_live yX9_live ∈ TB := bc_11 _ (List.mem_of_getElem? (i := 37) rfl)
set_option maxRecDepth 50000 in
theorem cd_X9_live : Cond.code yX9_live prog_11_method_76_code (1 : Nat) (Option.some Jvm.ClassFile.FieldType.int) ∈ TB := tb_at 1334 (by rfl) rfl
theorem ml_X9_388 : Cond.methodLink RX9 388 yX9_begins ∈ TB := bc_11 _ (List.mem_of_getElem? (i := 38) rfl)
theorem im_X9_begins : Cond.instanceMethod yX9_begins ∈ TB := bc_11 _ (List.mem_of_getElem? (i := 39) rfl)
set_option maxRecDepth 50000 in
theorem cd_X9_begins : Cond.code yX9_begins prog_11_method_74_code (2 : Nat) (Option.none : Option Jvm.ClassFile.FieldType) ∈ TB := tb_at 1338 (by rfl) rfl
theorem ml_X9_391 : Cond.methodLink RX9 391 yX9_lives ∈ TB := bc_12 _ (List.mem_of_getElem? (i := 0) rfl)
theorem im_X9_lives : Cond.instanceMethod yX9_lives ∈ TB := bc_12 _ (List.mem_of_getElem? (i := 1) rfl)
set_option maxRecDepth 50000 in
theorem cd_X9_lives : Cond.code yX9_lives prog_11_method_75_code (3 : Nat) (Option.none : Option Jvm.ClassFile.FieldType) ∈ TB := tb_at 1342 (by rfl) rfl
theorem ml_X9_382 : Cond.methodLink RX9 382 yX9_bearsIn ∈ TB := bc_12 _ (List.mem_of_getElem? (i := 2) rfl)
theorem im_X9_bearsIn : Cond.instanceMethod yX9_bearsIn ∈ TB := bc_12 _ (List.mem_of_getElem? (i := 3) rfl)
set_option maxRecDepth 50000 in
theorem cd_X9_bearsIn : Cond.code yX9_bearsIn prog_11_method_67_code (8 : Nat) (Option.some Jvm.ClassFile.FieldType.int) ∈ TB := tb_at 1346 (by rfl) rfl
theorem ml_L_65 : Cond.methodLink RL 65 yX9_run ∈ TB := bc_12 _ (List.mem_of_getElem? (i := 4) rfl)
theorem im_X9_run : Cond.instanceMethod yX9_run ∈ TB := bc_12 _ (List.mem_of_getElem? (i := 5) rfl)
theorem sl_X9_run : Cond.selects RX9 yX9_run yX9_run ∈ TB := bc_12 _ (List.mem_of_getElem? (i := 6) rfl)
set_option maxRecDepth 50000 in
theorem cd_X9_run : Cond.code yX9_run prog_11_method_80_code (3 : Nat) (Option.some Jvm.ClassFile.FieldType.int) ∈ TB := tb_at 1350 (by rfl) rfl
theorem ml_X9_410 : Cond.methodLink RX9 410 yX9_runs ∈ TB := bc_12 _ (List.mem_of_getElem? (i := 7) rfl)
theorem im_X9_runs : Cond.instanceMethod yX9_runs ∈ TB := bc_12 _ (List.mem_of_getElem? (i := 8) rfl)
set_option maxRecDepth 50000 in
theorem cd_X9_runs : Cond.code yX9_runs prog_11_method_79_code (3 : Nat) (Option.none : Option Jvm.ClassFile.FieldType) ∈ TB := tb_at 1354 (by rfl) rfl
theorem ml_X9_404 : Cond.methodLink RX9 404 yX9_laysAside ∈ TB := bc_12 _ (List.mem_of_getElem? (i := 9) rfl)
theorem im_X9_laysAside : Cond.instanceMethod yX9_laysAside ∈ TB := bc_12 _ (List.mem_of_getElem? (i := 10) rfl)
set_option maxRecDepth 50000 in
theorem cd_X9_laysAside : Cond.code yX9_laysAside prog_11_method_77_code (2 : Nat) (Option.none : Option Jvm.ClassFile.FieldType) ∈ TB := tb_at 1358 (by rfl) rfl
theorem ml_X9_407 : Cond.methodLink RX9 407 yX9_laysBack ∈ TB := bc_12 _ (List.mem_of_getElem? (i := 11) rfl)
theorem im_X9_laysBack : Cond.instanceMethod yX9_laysBack ∈ TB := bc_12 _ (List.mem_of_getElem? (i := 12) rfl)
set_option maxRecDepth 50000 in
theorem cd_X9_laysBack : Cond.code yX9_laysBack prog_11_method_78_code (2 : Nat) (Option.none : Option Jvm.ClassFile.FieldType) ∈ TB := tb_at 1362 (by rfl) rfl
theorem ml_L_69 : Cond.methodLink RL 69 yX9_off ∈ TB := bc_12 _ (List.mem_of_getElem? (i := 13) rfl)
theorem im_X9_off : Cond.instanceMethod yX9_off ∈ TB := bc_12 _ (List.mem_of_getElem? (i := 14) rfl)
theorem sl_X9_off : Cond.selects RX9 yX9_off yX9_off ∈ TB := bc_12 _ (List.mem_of_getElem? (i := 15) rfl)
set_option maxRecDepth 50000 in
theorem cd_X9_off : Cond.code yX9_off prog_11_method_81_code (4 : Nat) (Option.some Jvm.ClassFile.FieldType.int) ∈ TB := tb_at 1366 (by rfl) rfl
theorem ml_L_73 : Cond.methodLink RL 73 yX9_foods ∈ TB := bc_12 _ (List.mem_of_getElem? (i := 16) rfl)
theorem im_X9_foods : Cond.instanceMethod yX9_foods ∈ TB := bc_12 _ (List.mem_of_getElem? (i := 17) rfl)
theorem sl_X9_foods : Cond.selects RX9 yX9_foods yX9_foods ∈ TB := bc_12 _ (List.mem_of_getElem? (i := 18) rfl)
set_option maxRecDepth 50000 in
theorem cd_X9_foods : Cond.code yX9_foods prog_11_method_82_code (6 : Nat) (Option.some Jvm.ClassFile.FieldType.int) ∈ TB := tb_at 1370 (by rfl) rfl
theorem ml_L_77 : Cond.methodLink RL 77 yX9_best ∈ TB := bc_12 _ (List.mem_of_getElem? (i := 19) rfl)
theorem im_X9_best : Cond.instanceMethod yX9_best ∈ TB := bc_12 _ (List.mem_of_getElem? (i := 20) rfl)
theorem sl_X9_best : Cond.selects RX9 yX9_best yX9_best ∈ TB := bc_12 _ (List.mem_of_getElem? (i := 21) rfl)
set_option maxRecDepth 50000 in
theorem cd_X9_best : Cond.code yX9_best prog_11_method_83_code (7 : Nat) (Option.some Jvm.ClassFile.FieldType.int) ∈ TB := tb_at 1374 (by rfl) rfl
theorem ml_L_81 : Cond.methodLink RL 81 yX9_few ∈ TB := bc_12 _ (List.mem_of_getElem? (i := 22) rfl)
theorem im_X9_few : Cond.instanceMethod yX9_few ∈ TB := bc_12 _ (List.mem_of_getElem? (i := 23) rfl)
theorem sl_X9_few : Cond.selects RX9 yX9_few yX9_few ∈ TB := bc_12 _ (List.mem_of_getElem? (i := 24) rfl)
set_option maxRecDepth 50000 in
theorem cd_X9_few : Cond.code yX9_few prog_11_method_85_code (8 : Nat) (Option.some Jvm.ClassFile.FieldType.int) ∈ TB := tb_at 1378 (by rfl) rfl
theorem kl_X9_413 : Cond.constantLong RX9 413 (9999 : Int64) ∈ TB := bc_12 _ (List.mem_of_getElem? (i := 25) rfl)
theorem ml_X9_415 : Cond.methodLink RX9 415 yX9_bitsOf ∈ TB := bc_12 _ (List.mem_of_getElem? (i := 26) rfl)
theorem st_X9_bitsOf : Cond.static yX9_bitsOf ∈ TB := bc_12 _ (List.mem_of_getElem? (i := 27) rfl)
set_option maxRecDepth 50000 in
theorem cd_X9_bitsOf : Cond.code yX9_bitsOf prog_11_method_84_code (3 : Nat) (Option.some Jvm.ClassFile.FieldType.int) ∈ TB := tb_at 1382 (by rfl) rfl
theorem ml_L_85 : Cond.methodLink RL 85 yX9_kissing ∈ TB := bc_12 _ (List.mem_of_getElem? (i := 28) rfl)
theorem im_X9_kissing : Cond.instanceMethod yX9_kissing ∈ TB := bc_12 _ (List.mem_of_getElem? (i := 29) rfl)
theorem sl_X9_kissing : Cond.selects RX9 yX9_kissing yX9_kissing ∈ TB := bc_12 _ (List.mem_of_getElem? (i := 30) rfl)
set_option maxRecDepth 50000 in
theorem cd_X9_kissing : Cond.code yX9_kissing prog_11_method_87_code (8 : Nat) (Option.some Jvm.ClassFile.FieldType.int) ∈ TB := tb_at 1386 (by rfl) rfl
theorem ml_X9_418 : Cond.methodLink RX9 418 yX9_shameByKiss ∈ TB := bc_12 _ (List.mem_of_getElem? (i := 31) rfl)
theorem im_X9_shameByKiss : Cond.instanceMethod yX9_shameByKiss ∈ TB := bc_12 _ (List.mem_of_getElem? (i := 32) rfl)
set_option maxRecDepth 50000 in
theorem cd_X9_shameByKiss : Cond.code yX9_shameByKiss prog_11_method_86_code (5 : Nat) (Option.some Jvm.ClassFile.FieldType.int) ∈ TB := tb_at 1390 (by rfl) rfl
theorem ml_L_89 : Cond.methodLink RL 89 yX9_church ∈ TB := bc_12 _ (List.mem_of_getElem? (i := 33) rfl)
theorem im_X9_church : Cond.instanceMethod yX9_church ∈ TB := bc_12 _ (List.mem_of_getElem? (i := 34) rfl)
theorem sl_X9_church : Cond.selects RX9 yX9_church yX9_church ∈ TB := bc_12 _ (List.mem_of_getElem? (i := 35) rfl)
set_option maxRecDepth 50000 in
theorem cd_X9_church : Cond.code yX9_church prog_11_method_88_code (7 : Nat) (Option.some Jvm.ClassFile.FieldType.int) ∈ TB := tb_at 1394 (by rfl) rfl
theorem ml_L_93 : Cond.methodLink RL 93 yX9_plan ∈ TB := bc_12 _ (List.mem_of_getElem? (i := 36) rfl)
theorem im_X9_plan : Cond.instanceMethod yX9_plan ∈ TB := bc_12 _ (List.mem_of_getElem? (i := 37) rfl)
theorem sl_X9_plan : Cond.selects RX9 yX9_plan yX9_plan ∈ TB := bc_12 _ (List.mem_of_getElem? (i := 38) rfl)
set_option maxRecDepth 50000 in
theorem cd_X9_plan : Cond.code yX9_plan prog_11_method_90_code (5 : Nat) (Option.some Jvm.ClassFile.FieldType.int) ∈ TB := tb_at 1398 (by rfl) rfl
theorem ml_X9_421 : Cond.methodLink RX9 421 yX9_isSheet ∈ TB := bc_12 _ (List.mem_of_getElem? (i := 39) rfl)
theorem st_X9_isSheet : Cond.static yX9_isSheet ∈ TB := bc_13 _ (List.mem_of_getElem? (i := 0) rfl)
set_option maxRecDepth 50000 in
theorem cd_X9_isSheet : Cond.code yX9_isSheet prog_11_method_104_code (1 : Nat) (Option.some Jvm.ClassFile.FieldType.boolean) ∈ TB := tb_at 1401 (by rfl) rfl
theorem kl_X9_433 : Cond.constantLong RX9 433 (3 : Int64) ∈ TB := bc_13 _ (List.mem_of_getElem? (i := 1) rfl)
theorem ml_X9_424 : Cond.methodLink RX9 424 yX9_isRow ∈ TB := bc_13 _ (List.mem_of_getElem? (i := 2) rfl)
theorem im_X9_isRow : Cond.instanceMethod yX9_isRow ∈ TB := bc_13 _ (List.mem_of_getElem? (i := 3) rfl)
set_option maxRecDepth 50000 in
theorem cd_X9_isRow : Cond.code yX9_isRow prog_11_method_89_code (6 : Nat) (Option.some Jvm.ClassFile.FieldType.boolean) ∈ TB := tb_at 1406 (by rfl) rfl
theorem ml_X9_427 : Cond.methodLink RX9 427 yX9_stuckAll ∈ TB := bc_13 _ (List.mem_of_getElem? (i := 4) rfl)
theorem im_X9_stuckAll : Cond.instanceMethod yX9_stuckAll ∈ TB := bc_13 _ (List.mem_of_getElem? (i := 5) rfl)
set_option maxRecDepth 50000 in
theorem cd_X9_stuckAll : Cond.code yX9_stuckAll prog_11_method_91_code (3 : Nat) (Option.some Jvm.ClassFile.FieldType.int) ∈ TB := tb_at 1410 (by rfl) rfl
theorem ml_L_97 : Cond.methodLink RL 97 yX9_tells ∈ TB := bc_13 _ (List.mem_of_getElem? (i := 6) rfl)
theorem im_X9_tells : Cond.instanceMethod yX9_tells ∈ TB := bc_13 _ (List.mem_of_getElem? (i := 7) rfl)
theorem sl_X9_tells : Cond.selects RX9 yX9_tells yX9_tells ∈ TB := bc_13 _ (List.mem_of_getElem? (i := 8) rfl)
set_option maxRecDepth 50000 in
theorem cd_X9_tells : Cond.code yX9_tells prog_11_method_96_code (5 : Nat) (Option.some Jvm.ClassFile.FieldType.int) ∈ TB := tb_at 1414 (by rfl) rfl
theorem ml_X9_430 : Cond.methodLink RX9 430 yX9_firstOther ∈ TB := bc_13 _ (List.mem_of_getElem? (i := 9) rfl)
theorem im_X9_firstOther : Cond.instanceMethod yX9_firstOther ∈ TB := bc_13 _ (List.mem_of_getElem? (i := 10) rfl)
set_option maxRecDepth 50000 in
theorem cd_X9_firstOther : Cond.code yX9_firstOther prog_11_method_92_code (4 : Nat) (Option.some Jvm.ClassFile.FieldType.int) ∈ TB := tb_at 1418 (by rfl) rfl
theorem ml_X9_435 : Cond.methodLink RX9 435 yX9_setBy ∈ TB := bc_13 _ (List.mem_of_getElem? (i := 11) rfl)
theorem im_X9_setBy : Cond.instanceMethod yX9_setBy ∈ TB := bc_13 _ (List.mem_of_getElem? (i := 12) rfl)
set_option maxRecDepth 50000 in
theorem cd_X9_setBy : Cond.code yX9_setBy prog_11_method_93_code (8 : Nat) (Option.some Jvm.ClassFile.FieldType.int) ∈ TB := tb_at 1422 (by rfl) rfl
theorem ml_X9_439 : Cond.methodLink RX9 439 yX9_wordsBy ∈ TB := bc_13 _ (List.mem_of_getElem? (i := 13) rfl)
theorem im_X9_wordsBy : Cond.instanceMethod yX9_wordsBy ∈ TB := bc_13 _ (List.mem_of_getElem? (i := 14) rfl)
set_option maxRecDepth 50000 in
theorem cd_X9_wordsBy : Cond.code yX9_wordsBy prog_11_method_94_code (7 : Nat) (Option.some Jvm.ClassFile.FieldType.int) ∈ TB := tb_at 1426 (by rfl) rfl
theorem ml_X9_442 : Cond.methodLink RX9 442 yX9_agesBy ∈ TB := bc_13 _ (List.mem_of_getElem? (i := 15) rfl)
theorem im_X9_agesBy : Cond.instanceMethod yX9_agesBy ∈ TB := bc_13 _ (List.mem_of_getElem? (i := 16) rfl)
set_option maxRecDepth 50000 in
theorem cd_X9_agesBy : Cond.code yX9_agesBy prog_11_method_95_code (9 : Nat) (Option.some Jvm.ClassFile.FieldType.int) ∈ TB := tb_at 1430 (by rfl) rfl
theorem ml_L_101 : Cond.methodLink RL 101 yX9_film ∈ TB := bc_13 _ (List.mem_of_getElem? (i := 17) rfl)
theorem im_X9_film : Cond.instanceMethod yX9_film ∈ TB := bc_13 _ (List.mem_of_getElem? (i := 18) rfl)
theorem sl_X9_film : Cond.selects RX9 yX9_film yX9_film ∈ TB := bc_13 _ (List.mem_of_getElem? (i := 19) rfl)
set_option maxRecDepth 50000 in
theorem cd_X9_film : Cond.code yX9_film prog_11_method_97_code (4 : Nat) (Option.some Jvm.ClassFile.FieldType.int) ∈ TB := tb_at 1434 (by rfl) rfl
theorem ml_X9_446 : Cond.methodLink RX9 446 yX9_sheet ∈ TB := bc_13 _ (List.mem_of_getElem? (i := 20) rfl)
theorem im_X9_sheet : Cond.instanceMethod yX9_sheet ∈ TB := bc_13 _ (List.mem_of_getElem? (i := 21) rfl)
theorem sl_X9_sheet : Cond.selects RX9 yX9_sheet yX9_sheet ∈ TB := bc_13 _ (List.mem_of_getElem? (i := 22) rfl)
set_option maxRecDepth 50000 in
theorem cd_X9_sheet : Cond.code yX9_sheet prog_11_method_105_code (5 : Nat) (Option.some Jvm.ClassFile.FieldType.int) ∈ TB := tb_at 1438 (by rfl) rfl
theorem kl_X9_471 : Cond.constantLong RX9 471 (-1 : Int64) ∈ TB := bc_13 _ (List.mem_of_getElem? (i := 23) rfl)
theorem ml_L_105 : Cond.methodLink RL 105 yX9_drawn ∈ TB := bc_13 _ (List.mem_of_getElem? (i := 24) rfl)
theorem im_X9_drawn : Cond.instanceMethod yX9_drawn ∈ TB := bc_13 _ (List.mem_of_getElem? (i := 25) rfl)
theorem sl_X9_drawn : Cond.selects RX9 yX9_drawn yX9_drawn ∈ TB := bc_13 _ (List.mem_of_getElem? (i := 26) rfl)
set_option maxRecDepth 50000 in
theorem cd_X9_drawn : Cond.code yX9_drawn prog_11_method_99_code (4 : Nat) (Option.some Jvm.ClassFile.FieldType.int) ∈ TB := tb_at 1443 (by rfl) rfl
theorem kl_X9_450 : Cond.constantLong RX9 450 (16 : Int64) ∈ TB := bc_13 _ (List.mem_of_getElem? (i := 27) rfl)
theorem ml_X9_452 : Cond.methodLink RX9 452 yX9_eats ∈ TB := bc_13 _ (List.mem_of_getElem? (i := 28) rfl)
theorem im_X9_eats : Cond.instanceMethod yX9_eats ∈ TB := bc_13 _ (List.mem_of_getElem? (i := 29) rfl)
set_option maxRecDepth 50000 in
theorem cd_X9_eats : Cond.code yX9_eats prog_11_method_98_code (7 : Nat) (Option.some Jvm.ClassFile.FieldType.int) ∈ TB := tb_at 1448 (by rfl) rfl
theorem ki_X9_449 : Cond.constant RX9 449 (1103515245 : Int32) ∈ TB := bc_13 _ (List.mem_of_getElem? (i := 30) rfl)
theorem ml_L_110 : Cond.methodLink RL 110 yX9_chance ∈ TB := bc_13 _ (List.mem_of_getElem? (i := 31) rfl)
theorem im_X9_chance : Cond.instanceMethod yX9_chance ∈ TB := bc_13 _ (List.mem_of_getElem? (i := 32) rfl)
theorem sl_X9_chance : Cond.selects RX9 yX9_chance yX9_chance ∈ TB := bc_13 _ (List.mem_of_getElem? (i := 33) rfl)
set_option maxRecDepth 50000 in
theorem cd_X9_chance : Cond.code yX9_chance prog_11_method_100_code (13 : Nat) (Option.some Jvm.ClassFile.FieldType.long) ∈ TB := tb_at 1453 (by rfl) rfl
theorem kl_X9_455 : Cond.constantLong RX9 455 (20 : Int64) ∈ TB := bc_13 _ (List.mem_of_getElem? (i := 34) rfl)
theorem kl_X9_457 : Cond.constantLong RX9 457 (-4611686018427387904 : Int64) ∈ TB := bc_13 _ (List.mem_of_getElem? (i := 35) rfl)
theorem ml_L_114 : Cond.methodLink RL 114 yX9_image ∈ TB := bc_13 _ (List.mem_of_getElem? (i := 36) rfl)
theorem im_X9_image : Cond.instanceMethod yX9_image ∈ TB := bc_13 _ (List.mem_of_getElem? (i := 37) rfl)
theorem sl_X9_image : Cond.selects RX9 yX9_image yX9_image ∈ TB := bc_13 _ (List.mem_of_getElem? (i := 38) rfl)
set_option maxRecDepth 50000 in
theorem cd_X9_image : Cond.code yX9_image prog_11_method_101_code (2 : Nat) (Option.some Jvm.ClassFile.FieldType.int) ∈ TB := tb_at 1459 (by rfl) rfl
theorem ml_L_118 : Cond.methodLink RL 118 yX9_back ∈ TB := bc_13 _ (List.mem_of_getElem? (i := 39) rfl)
theorem im_X9_back : Cond.instanceMethod yX9_back ∈ TB := bc_14 _ (List.mem_of_getElem? (i := 0) rfl)
theorem sl_X9_back : Cond.selects RX9 yX9_back yX9_back ∈ TB := bc_14 _ (List.mem_of_getElem? (i := 1) rfl)
set_option maxRecDepth 50000 in
theorem cd_X9_back : Cond.code yX9_back prog_11_method_102_code (2 : Nat) (Option.some Jvm.ClassFile.FieldType.int) ∈ TB := tb_at 1463 (by rfl) rfl
theorem ml_L_122 : Cond.methodLink RL 122 yX9_count ∈ TB := bc_14 _ (List.mem_of_getElem? (i := 2) rfl)
theorem im_X9_count : Cond.instanceMethod yX9_count ∈ TB := bc_14 _ (List.mem_of_getElem? (i := 3) rfl)
theorem sl_X9_count : Cond.selects RX9 yX9_count yX9_count ∈ TB := bc_14 _ (List.mem_of_getElem? (i := 4) rfl)
set_option maxRecDepth 50000 in
theorem cd_X9_count : Cond.code yX9_count prog_11_method_103_code (2 : Nat) (Option.some Jvm.ClassFile.FieldType.int) ∈ TB := tb_at 1467 (by rfl) rfl
theorem ml_L_126 : Cond.methodLink RL 126 yX9_sheet ∈ TB := bc_14 _ (List.mem_of_getElem? (i := 5) rfl)
theorem ml_L_130 : Cond.methodLink RL 130 yX9_cell ∈ TB := bc_14 _ (List.mem_of_getElem? (i := 6) rfl)
theorem im_X9_cell : Cond.instanceMethod yX9_cell ∈ TB := bc_14 _ (List.mem_of_getElem? (i := 7) rfl)
theorem sl_X9_cell : Cond.selects RX9 yX9_cell yX9_cell ∈ TB := bc_14 _ (List.mem_of_getElem? (i := 8) rfl)
set_option maxRecDepth 50000 in
theorem cd_X9_cell : Cond.code yX9_cell prog_11_method_106_code (4 : Nat) (Option.some Jvm.ClassFile.FieldType.int) ∈ TB := tb_at 1472 (by rfl) rfl
theorem ml_L_135 : Cond.methodLink RL 135 yX9_copy ∈ TB := bc_14 _ (List.mem_of_getElem? (i := 9) rfl)
theorem im_X9_copy : Cond.instanceMethod yX9_copy ∈ TB := bc_14 _ (List.mem_of_getElem? (i := 10) rfl)
theorem sl_X9_copy : Cond.selects RX9 yX9_copy yX9_copy ∈ TB := bc_14 _ (List.mem_of_getElem? (i := 11) rfl)
set_option maxRecDepth 50000 in
theorem cd_X9_copy : Cond.code yX9_copy prog_11_method_107_code (9 : Nat) (Option.some Jvm.ClassFile.FieldType.int) ∈ TB := tb_at 1476 (by rfl) rfl
theorem ml_L_139 : Cond.methodLink RL 139 yX9_people ∈ TB := bc_14 _ (List.mem_of_getElem? (i := 12) rfl)
theorem im_X9_people : Cond.instanceMethod yX9_people ∈ TB := bc_14 _ (List.mem_of_getElem? (i := 13) rfl)
theorem sl_X9_people : Cond.selects RX9 yX9_people yX9_people ∈ TB := bc_14 _ (List.mem_of_getElem? (i := 14) rfl)
set_option maxRecDepth 50000 in
theorem cd_X9_people : Cond.code yX9_people prog_11_method_108_code (8 : Nat) (Option.some Jvm.ClassFile.FieldType.int) ∈ TB := tb_at 1480 (by rfl) rfl
theorem ml_X9_473 : Cond.methodLink RX9 473 yX9_man ∈ TB := bc_14 _ (List.mem_of_getElem? (i := 15) rfl)
theorem ml_L_143 : Cond.methodLink RL 143 yX9_taken ∈ TB := bc_14 _ (List.mem_of_getElem? (i := 16) rfl)
theorem im_X9_taken : Cond.instanceMethod yX9_taken ∈ TB := bc_14 _ (List.mem_of_getElem? (i := 17) rfl)
theorem sl_X9_taken : Cond.selects RX9 yX9_taken yX9_taken ∈ TB := bc_14 _ (List.mem_of_getElem? (i := 18) rfl)
set_option maxRecDepth 50000 in
theorem cd_X9_taken : Cond.code yX9_taken prog_11_method_110_code (4 : Nat) (Option.some Jvm.ClassFile.FieldType.int) ∈ TB := tb_at 1485 (by rfl) rfl
theorem ml_X9_476 : Cond.methodLink RX9 476 yX9_over ∈ TB := bc_14 _ (List.mem_of_getElem? (i := 19) rfl)
theorem st_X9_over : Cond.static yX9_over ∈ TB := bc_14 _ (List.mem_of_getElem? (i := 20) rfl)
set_option maxRecDepth 50000 in
theorem cd_X9_over : Cond.code yX9_over prog_11_method_109_code (1 : Nat) (Option.some Jvm.ClassFile.FieldType.int) ∈ TB := tb_at 1488 (by rfl) rfl
theorem fl_J0_9 : Cond.fieldLink RJ0 9 "java/lang/String" "value" "[B" ∈ TB := bc_14 _ (List.mem_of_getElem? (i := 21) rfl)
theorem fl_J0_15 : Cond.fieldLink RJ0 15 "java/lang/String" "coder" "B" ∈ TB := bc_14 _ (List.mem_of_getElem? (i := 22) rfl)
