def ziX0_init_0 : List (Nat × Instr × Nat) := [(0, .aload_n 0, 1), (1, .invokespecial 3, 3), (4, .aload_n 0, 1), (5, .bipush 6, 2)]
theorem zhX0_init_0 : zd_chk (cX0_init.data.toList.drop 0) 0 ziX0_init_0 = true := by decide +kernel
theorem dX0_init_0 : decode cX0_init 0 = .ok (.aload_n 0, 1) := zd_at zhX0_init_0 0 rfl
theorem dX0_init_1 : decode cX0_init 1 = .ok (.invokespecial 3, 3) := zd_at zhX0_init_0 1 rfl
theorem dX0_init_4 : decode cX0_init 4 = .ok (.aload_n 0, 1) := zd_at zhX0_init_0 2 rfl
theorem dX0_init_5 : decode cX0_init 5 = .ok (.bipush 6, 2) := zd_at zhX0_init_0 3 rfl
theorem dX0_init_7 : decode cX0_init 7 = .ok (.newarray .int, 2) := by decide +kernel
def ziX0_init_9 : List (Nat × Instr × Nat) := [(9, .putfield 9, 3), (12, .aload_n 0, 1), (13, .aload_n 1, 1), (14, .putfield 15, 3), (17, .return_, 1)]
theorem zhX0_init_9 : zd_chk (cX0_init.data.toList.drop 9) 9 ziX0_init_9 = true := by decide +kernel
theorem dX0_init_9 : decode cX0_init 9 = .ok (.putfield 9, 3) := zd_at zhX0_init_9 0 rfl
theorem dX0_init_12 : decode cX0_init 12 = .ok (.aload_n 0, 1) := zd_at zhX0_init_9 1 rfl
theorem dX0_init_13 : decode cX0_init 13 = .ok (.aload_n 1, 1) := zd_at zhX0_init_9 2 rfl
theorem dX0_init_14 : decode cX0_init 14 = .ok (.putfield 15, 3) := zd_at zhX0_init_9 3 rfl
theorem dX0_init_17 : decode cX0_init 17 = .ok (.return_, 1) := zd_at zhX0_init_9 4 rfl
def ziX0_look_0 : List (Nat × Instr × Nat) := [(0, .aload_n 1, 1), (1, .getfield 19, 3), (4, .iload_n 2, 1), (5, .aaload, 1), (6, .astore 4, 2), (8, .aload_n 0, 1), (9, .aload_n 1, 1), (10, .getfield 25, 3), (13, .aload_n 1, 1), (14, .getfield 29, 3), (17, .aaload, 1), (18, .putfield 15, 3), (21, .aload_n 0, 1), (22, .aload 4, 2), (24, .getfield 33, 3), (27, .putfield 38, 3), (30, .aload_n 0, 1), (31, .aload 4, 2), (33, .getfield 39, 3), (36, .iload_n 3, 1), (37, .iaload, 1), (38, .putfield 42, 3), (41, .aload_n 0, 1), (42, .aload_n 1, 1), (43, .getfield 44, 3), (46, .putfield 47, 3), (49, .aload_n 0, 1), (50, .getfield 9, 3), (53, .iconst 0, 1), (54, .aload 4, 2), (56, .getfield 48, 3), (59, .iload_n 3, 1), (60, .iaload, 1), (61, .iastore, 1), (62, .aload_n 0, 1), (63, .getfield 9, 3), (66, .iconst 1, 1), (67, .iconst 0, 1), (68, .iastore, 1), (69, .aload_n 0, 1)]
theorem zhX0_look_0 : zd_chk (cX0_look.data.toList.drop 0) 0 ziX0_look_0 = true := by decide +kernel
theorem dX0_look_0 : decode cX0_look 0 = .ok (.aload_n 1, 1) := zd_at zhX0_look_0 0 rfl
theorem dX0_look_1 : decode cX0_look 1 = .ok (.getfield 19, 3) := zd_at zhX0_look_0 1 rfl
theorem dX0_look_4 : decode cX0_look 4 = .ok (.iload_n 2, 1) := zd_at zhX0_look_0 2 rfl
theorem dX0_look_5 : decode cX0_look 5 = .ok (.aaload, 1) := zd_at zhX0_look_0 3 rfl
theorem dX0_look_6 : decode cX0_look 6 = .ok (.astore 4, 2) := zd_at zhX0_look_0 4 rfl
theorem dX0_look_8 : decode cX0_look 8 = .ok (.aload_n 0, 1) := zd_at zhX0_look_0 5 rfl
theorem dX0_look_9 : decode cX0_look 9 = .ok (.aload_n 1, 1) := zd_at zhX0_look_0 6 rfl
theorem dX0_look_10 : decode cX0_look 10 = .ok (.getfield 25, 3) := zd_at zhX0_look_0 7 rfl
theorem dX0_look_13 : decode cX0_look 13 = .ok (.aload_n 1, 1) := zd_at zhX0_look_0 8 rfl
theorem dX0_look_14 : decode cX0_look 14 = .ok (.getfield 29, 3) := zd_at zhX0_look_0 9 rfl
theorem dX0_look_17 : decode cX0_look 17 = .ok (.aaload, 1) := zd_at zhX0_look_0 10 rfl
theorem dX0_look_18 : decode cX0_look 18 = .ok (.putfield 15, 3) := zd_at zhX0_look_0 11 rfl
theorem dX0_look_21 : decode cX0_look 21 = .ok (.aload_n 0, 1) := zd_at zhX0_look_0 12 rfl
theorem dX0_look_22 : decode cX0_look 22 = .ok (.aload 4, 2) := zd_at zhX0_look_0 13 rfl
theorem dX0_look_24 : decode cX0_look 24 = .ok (.getfield 33, 3) := zd_at zhX0_look_0 14 rfl
theorem dX0_look_27 : decode cX0_look 27 = .ok (.putfield 38, 3) := zd_at zhX0_look_0 15 rfl
theorem dX0_look_30 : decode cX0_look 30 = .ok (.aload_n 0, 1) := zd_at zhX0_look_0 16 rfl
theorem dX0_look_31 : decode cX0_look 31 = .ok (.aload 4, 2) := zd_at zhX0_look_0 17 rfl
theorem dX0_look_33 : decode cX0_look 33 = .ok (.getfield 39, 3) := zd_at zhX0_look_0 18 rfl
theorem dX0_look_36 : decode cX0_look 36 = .ok (.iload_n 3, 1) := zd_at zhX0_look_0 19 rfl
theorem dX0_look_37 : decode cX0_look 37 = .ok (.iaload, 1) := zd_at zhX0_look_0 20 rfl
theorem dX0_look_38 : decode cX0_look 38 = .ok (.putfield 42, 3) := zd_at zhX0_look_0 21 rfl
theorem dX0_look_41 : decode cX0_look 41 = .ok (.aload_n 0, 1) := zd_at zhX0_look_0 22 rfl
theorem dX0_look_42 : decode cX0_look 42 = .ok (.aload_n 1, 1) := zd_at zhX0_look_0 23 rfl
theorem dX0_look_43 : decode cX0_look 43 = .ok (.getfield 44, 3) := zd_at zhX0_look_0 24 rfl
theorem dX0_look_46 : decode cX0_look 46 = .ok (.putfield 47, 3) := zd_at zhX0_look_0 25 rfl
theorem dX0_look_49 : decode cX0_look 49 = .ok (.aload_n 0, 1) := zd_at zhX0_look_0 26 rfl
theorem dX0_look_50 : decode cX0_look 50 = .ok (.getfield 9, 3) := zd_at zhX0_look_0 27 rfl
theorem dX0_look_53 : decode cX0_look 53 = .ok (.iconst 0, 1) := zd_at zhX0_look_0 28 rfl
theorem dX0_look_54 : decode cX0_look 54 = .ok (.aload 4, 2) := zd_at zhX0_look_0 29 rfl
theorem dX0_look_56 : decode cX0_look 56 = .ok (.getfield 48, 3) := zd_at zhX0_look_0 30 rfl
theorem dX0_look_59 : decode cX0_look 59 = .ok (.iload_n 3, 1) := zd_at zhX0_look_0 31 rfl
theorem dX0_look_60 : decode cX0_look 60 = .ok (.iaload, 1) := zd_at zhX0_look_0 32 rfl
theorem dX0_look_61 : decode cX0_look 61 = .ok (.iastore, 1) := zd_at zhX0_look_0 33 rfl
theorem dX0_look_62 : decode cX0_look 62 = .ok (.aload_n 0, 1) := zd_at zhX0_look_0 34 rfl
theorem dX0_look_63 : decode cX0_look 63 = .ok (.getfield 9, 3) := zd_at zhX0_look_0 35 rfl
theorem dX0_look_66 : decode cX0_look 66 = .ok (.iconst 1, 1) := zd_at zhX0_look_0 36 rfl
theorem dX0_look_67 : decode cX0_look 67 = .ok (.iconst 0, 1) := zd_at zhX0_look_0 37 rfl
theorem dX0_look_68 : decode cX0_look 68 = .ok (.iastore, 1) := zd_at zhX0_look_0 38 rfl
theorem dX0_look_69 : decode cX0_look 69 = .ok (.aload_n 0, 1) := zd_at zhX0_look_0 39 rfl
def ziX0_look_70 : List (Nat × Instr × Nat) := [(70, .getfield 9, 3), (73, .iconst 3, 1), (74, .aload 4, 2), (76, .getfield 51, 3), (79, .iastore, 1), (80, .aload_n 0, 1), (81, .getfield 9, 3), (84, .iconst 4, 1), (85, .iload_n 3, 1), (86, .iastore, 1), (87, .return_, 1)]
theorem zhX0_look_70 : zd_chk (cX0_look.data.toList.drop 70) 70 ziX0_look_70 = true := by decide +kernel
theorem dX0_look_70 : decode cX0_look 70 = .ok (.getfield 9, 3) := zd_at zhX0_look_70 0 rfl
theorem dX0_look_73 : decode cX0_look 73 = .ok (.iconst 3, 1) := zd_at zhX0_look_70 1 rfl
theorem dX0_look_74 : decode cX0_look 74 = .ok (.aload 4, 2) := zd_at zhX0_look_70 2 rfl
theorem dX0_look_76 : decode cX0_look 76 = .ok (.getfield 51, 3) := zd_at zhX0_look_70 3 rfl
theorem dX0_look_79 : decode cX0_look 79 = .ok (.iastore, 1) := zd_at zhX0_look_70 4 rfl
theorem dX0_look_80 : decode cX0_look 80 = .ok (.aload_n 0, 1) := zd_at zhX0_look_70 5 rfl
theorem dX0_look_81 : decode cX0_look 81 = .ok (.getfield 9, 3) := zd_at zhX0_look_70 6 rfl
theorem dX0_look_84 : decode cX0_look 84 = .ok (.iconst 4, 1) := zd_at zhX0_look_70 7 rfl
theorem dX0_look_85 : decode cX0_look 85 = .ok (.iload_n 3, 1) := zd_at zhX0_look_70 8 rfl
theorem dX0_look_86 : decode cX0_look 86 = .ok (.iastore, 1) := zd_at zhX0_look_70 9 rfl
theorem dX0_look_87 : decode cX0_look 87 = .ok (.return_, 1) := zd_at zhX0_look_70 10 rfl
def ziX0_holds_0 : List (Nat × Instr × Nat) := [(0, .aload_n 0, 1), (1, .getfield 9, 3), (4, .iconst 5, 1), (5, .iload_n 1, 1), (6, .iastore, 1), (7, .aload_n 0, 1), (8, .getfield 9, 3), (11, .iconst 2, 1), (12, .iload_n 2, 1), (13, .iastore, 1), (14, .aload_n 0, 1), (15, .getfield 38, 3), (18, .aload_n 0, 1), (19, .getfield 9, 3), (22, .iconst 3, 1), (23, .iaload, 1), (24, .aload_n 0, 1), (25, .getfield 15, 3), (28, .iconst 1, 1), (29, .aload_n 0, 1), (30, .getfield 9, 3), (33, .invokevirtual 54, 3), (36, .invokestatic 60, 3), (39, .ireturn, 1)]
theorem zhX0_holds_0 : zd_chk (cX0_holds.data.toList.drop 0) 0 ziX0_holds_0 = true := by decide +kernel
theorem dX0_holds_0 : decode cX0_holds 0 = .ok (.aload_n 0, 1) := zd_at zhX0_holds_0 0 rfl
theorem dX0_holds_1 : decode cX0_holds 1 = .ok (.getfield 9, 3) := zd_at zhX0_holds_0 1 rfl
theorem dX0_holds_4 : decode cX0_holds 4 = .ok (.iconst 5, 1) := zd_at zhX0_holds_0 2 rfl
theorem dX0_holds_5 : decode cX0_holds 5 = .ok (.iload_n 1, 1) := zd_at zhX0_holds_0 3 rfl
theorem dX0_holds_6 : decode cX0_holds 6 = .ok (.iastore, 1) := zd_at zhX0_holds_0 4 rfl
theorem dX0_holds_7 : decode cX0_holds 7 = .ok (.aload_n 0, 1) := zd_at zhX0_holds_0 5 rfl
theorem dX0_holds_8 : decode cX0_holds 8 = .ok (.getfield 9, 3) := zd_at zhX0_holds_0 6 rfl
theorem dX0_holds_11 : decode cX0_holds 11 = .ok (.iconst 2, 1) := zd_at zhX0_holds_0 7 rfl
theorem dX0_holds_12 : decode cX0_holds 12 = .ok (.iload_n 2, 1) := zd_at zhX0_holds_0 8 rfl
theorem dX0_holds_13 : decode cX0_holds 13 = .ok (.iastore, 1) := zd_at zhX0_holds_0 9 rfl
theorem dX0_holds_14 : decode cX0_holds 14 = .ok (.aload_n 0, 1) := zd_at zhX0_holds_0 10 rfl
theorem dX0_holds_15 : decode cX0_holds 15 = .ok (.getfield 38, 3) := zd_at zhX0_holds_0 11 rfl
theorem dX0_holds_18 : decode cX0_holds 18 = .ok (.aload_n 0, 1) := zd_at zhX0_holds_0 12 rfl
theorem dX0_holds_19 : decode cX0_holds 19 = .ok (.getfield 9, 3) := zd_at zhX0_holds_0 13 rfl
theorem dX0_holds_22 : decode cX0_holds 22 = .ok (.iconst 3, 1) := zd_at zhX0_holds_0 14 rfl
theorem dX0_holds_23 : decode cX0_holds 23 = .ok (.iaload, 1) := zd_at zhX0_holds_0 15 rfl
theorem dX0_holds_24 : decode cX0_holds 24 = .ok (.aload_n 0, 1) := zd_at zhX0_holds_0 16 rfl
theorem dX0_holds_25 : decode cX0_holds 25 = .ok (.getfield 15, 3) := zd_at zhX0_holds_0 17 rfl
theorem dX0_holds_28 : decode cX0_holds 28 = .ok (.iconst 1, 1) := zd_at zhX0_holds_0 18 rfl
theorem dX0_holds_29 : decode cX0_holds 29 = .ok (.aload_n 0, 1) := zd_at zhX0_holds_0 19 rfl
theorem dX0_holds_30 : decode cX0_holds 30 = .ok (.getfield 9, 3) := zd_at zhX0_holds_0 20 rfl
theorem dX0_holds_33 : decode cX0_holds 33 = .ok (.invokevirtual 54, 3) := zd_at zhX0_holds_0 21 rfl
theorem dX0_holds_36 : decode cX0_holds 36 = .ok (.invokestatic 60, 3) := zd_at zhX0_holds_0 22 rfl
theorem dX0_holds_39 : decode cX0_holds 39 = .ok (.ireturn, 1) := zd_at zhX0_holds_0 23 rfl
def ziX0_goesOffIn_0 : List (Nat × Instr × Nat) := [(0, .aload_n 0, 1), (1, .getfield 9, 3), (4, .iconst 0, 1), (5, .iaload, 1), (6, .iconst (-1), 1), (7, .if_icmp .ne 5, 3), (10, .iconst (-1), 1), (11, .ireturn, 1), (12, .iconst 0, 1), (13, .istore_n 2, 1), (14, .iload_n 2, 1), (15, .iload_n 1, 1), (16, .if_icmp .ge 40, 3), (19, .aload_n 0, 1), (20, .getfield 42, 3), (23, .iload_n 2, 1), (24, .iadd, 1), (25, .iconst 1, 1), (26, .iadd, 1), (27, .aload_n 0, 1), (28, .aload_n 0, 1), (29, .getfield 42, 3), (32, .iload_n 2, 1), (33, .iadd, 1), (34, .iconst 1, 1), (35, .iadd, 1), (36, .aload_n 0, 1), (37, .getfield 47, 3), (40, .iload_n 2, 1), (41, .iadd, 1), (42, .invokevirtual 66, 3), (45, .if_icmp .lt 5, 3), (48, .iload_n 2, 1), (49, .ireturn, 1), (50, .iinc 2 1, 3), (53, .goto (-39), 3), (56, .iconst (-1), 1), (57, .ireturn, 1)]
theorem zhX0_goesOffIn_0 : zd_chk (cX0_goesOffIn.data.toList.drop 0) 0 ziX0_goesOffIn_0 = true := by decide +kernel
theorem dX0_goesOffIn_0 : decode cX0_goesOffIn 0 = .ok (.aload_n 0, 1) := zd_at zhX0_goesOffIn_0 0 rfl
theorem dX0_goesOffIn_1 : decode cX0_goesOffIn 1 = .ok (.getfield 9, 3) := zd_at zhX0_goesOffIn_0 1 rfl
theorem dX0_goesOffIn_4 : decode cX0_goesOffIn 4 = .ok (.iconst 0, 1) := zd_at zhX0_goesOffIn_0 2 rfl
theorem dX0_goesOffIn_5 : decode cX0_goesOffIn 5 = .ok (.iaload, 1) := zd_at zhX0_goesOffIn_0 3 rfl
theorem dX0_goesOffIn_6 : decode cX0_goesOffIn 6 = .ok (.iconst (-1), 1) := zd_at zhX0_goesOffIn_0 4 rfl
theorem dX0_goesOffIn_7 : decode cX0_goesOffIn 7 = .ok (.if_icmp .ne 5, 3) := zd_at zhX0_goesOffIn_0 5 rfl
theorem dX0_goesOffIn_10 : decode cX0_goesOffIn 10 = .ok (.iconst (-1), 1) := zd_at zhX0_goesOffIn_0 6 rfl
theorem dX0_goesOffIn_11 : decode cX0_goesOffIn 11 = .ok (.ireturn, 1) := zd_at zhX0_goesOffIn_0 7 rfl
theorem dX0_goesOffIn_12 : decode cX0_goesOffIn 12 = .ok (.iconst 0, 1) := zd_at zhX0_goesOffIn_0 8 rfl
theorem dX0_goesOffIn_13 : decode cX0_goesOffIn 13 = .ok (.istore_n 2, 1) := zd_at zhX0_goesOffIn_0 9 rfl
theorem dX0_goesOffIn_14 : decode cX0_goesOffIn 14 = .ok (.iload_n 2, 1) := zd_at zhX0_goesOffIn_0 10 rfl
theorem dX0_goesOffIn_15 : decode cX0_goesOffIn 15 = .ok (.iload_n 1, 1) := zd_at zhX0_goesOffIn_0 11 rfl
theorem dX0_goesOffIn_16 : decode cX0_goesOffIn 16 = .ok (.if_icmp .ge 40, 3) := zd_at zhX0_goesOffIn_0 12 rfl
theorem dX0_goesOffIn_19 : decode cX0_goesOffIn 19 = .ok (.aload_n 0, 1) := zd_at zhX0_goesOffIn_0 13 rfl
theorem dX0_goesOffIn_20 : decode cX0_goesOffIn 20 = .ok (.getfield 42, 3) := zd_at zhX0_goesOffIn_0 14 rfl
theorem dX0_goesOffIn_23 : decode cX0_goesOffIn 23 = .ok (.iload_n 2, 1) := zd_at zhX0_goesOffIn_0 15 rfl
theorem dX0_goesOffIn_24 : decode cX0_goesOffIn 24 = .ok (.iadd, 1) := zd_at zhX0_goesOffIn_0 16 rfl
theorem dX0_goesOffIn_25 : decode cX0_goesOffIn 25 = .ok (.iconst 1, 1) := zd_at zhX0_goesOffIn_0 17 rfl
theorem dX0_goesOffIn_26 : decode cX0_goesOffIn 26 = .ok (.iadd, 1) := zd_at zhX0_goesOffIn_0 18 rfl
theorem dX0_goesOffIn_27 : decode cX0_goesOffIn 27 = .ok (.aload_n 0, 1) := zd_at zhX0_goesOffIn_0 19 rfl
theorem dX0_goesOffIn_28 : decode cX0_goesOffIn 28 = .ok (.aload_n 0, 1) := zd_at zhX0_goesOffIn_0 20 rfl
theorem dX0_goesOffIn_29 : decode cX0_goesOffIn 29 = .ok (.getfield 42, 3) := zd_at zhX0_goesOffIn_0 21 rfl
theorem dX0_goesOffIn_32 : decode cX0_goesOffIn 32 = .ok (.iload_n 2, 1) := zd_at zhX0_goesOffIn_0 22 rfl
theorem dX0_goesOffIn_33 : decode cX0_goesOffIn 33 = .ok (.iadd, 1) := zd_at zhX0_goesOffIn_0 23 rfl
theorem dX0_goesOffIn_34 : decode cX0_goesOffIn 34 = .ok (.iconst 1, 1) := zd_at zhX0_goesOffIn_0 24 rfl
theorem dX0_goesOffIn_35 : decode cX0_goesOffIn 35 = .ok (.iadd, 1) := zd_at zhX0_goesOffIn_0 25 rfl
theorem dX0_goesOffIn_36 : decode cX0_goesOffIn 36 = .ok (.aload_n 0, 1) := zd_at zhX0_goesOffIn_0 26 rfl
theorem dX0_goesOffIn_37 : decode cX0_goesOffIn 37 = .ok (.getfield 47, 3) := zd_at zhX0_goesOffIn_0 27 rfl
theorem dX0_goesOffIn_40 : decode cX0_goesOffIn 40 = .ok (.iload_n 2, 1) := zd_at zhX0_goesOffIn_0 28 rfl
theorem dX0_goesOffIn_41 : decode cX0_goesOffIn 41 = .ok (.iadd, 1) := zd_at zhX0_goesOffIn_0 29 rfl
theorem dX0_goesOffIn_42 : decode cX0_goesOffIn 42 = .ok (.invokevirtual 66, 3) := zd_at zhX0_goesOffIn_0 30 rfl
theorem dX0_goesOffIn_45 : decode cX0_goesOffIn 45 = .ok (.if_icmp .lt 5, 3) := zd_at zhX0_goesOffIn_0 31 rfl
theorem dX0_goesOffIn_48 : decode cX0_goesOffIn 48 = .ok (.iload_n 2, 1) := zd_at zhX0_goesOffIn_0 32 rfl
theorem dX0_goesOffIn_49 : decode cX0_goesOffIn 49 = .ok (.ireturn, 1) := zd_at zhX0_goesOffIn_0 33 rfl
theorem dX0_goesOffIn_50 : decode cX0_goesOffIn 50 = .ok (.iinc 2 1, 3) := zd_at zhX0_goesOffIn_0 34 rfl
theorem dX0_goesOffIn_53 : decode cX0_goesOffIn 53 = .ok (.goto (-39), 3) := zd_at zhX0_goesOffIn_0 35 rfl
theorem dX0_goesOffIn_56 : decode cX0_goesOffIn 56 = .ok (.iconst (-1), 1) := zd_at zhX0_goesOffIn_0 36 rfl
theorem dX0_goesOffIn_57 : decode cX0_goesOffIn 57 = .ok (.ireturn, 1) := zd_at zhX0_goesOffIn_0 37 rfl
def ziX0_bears_0 : List (Nat × Instr × Nat) := [(0, .aload_n 0, 1), (1, .getfield 9, 3), (4, .iconst 5, 1), (5, .aload_n 0, 1), (6, .getfield 42, 3), (9, .iload_n 1, 1), (10, .iadd, 1), (11, .iconst 1, 1), (12, .iadd, 1), (13, .iastore, 1), (14, .aload_n 0, 1), (15, .getfield 9, 3), (18, .iconst 2, 1), (19, .aload_n 0, 1), (20, .getfield 47, 3), (23, .iload_n 1, 1), (24, .iadd, 1), (25, .iastore, 1), (26, .aload_n 0, 1), (27, .getfield 38, 3), (30, .aload_n 0, 1), (31, .getfield 9, 3), (34, .iconst 3, 1), (35, .iaload, 1), (36, .aload_n 0, 1), (37, .getfield 15, 3), (40, .iconst 2, 1), (41, .aload_n 0, 1), (42, .getfield 9, 3), (45, .invokevirtual 54, 3), (48, .iload_n 2, 1), (49, .invokestatic 69, 3), (52, .ireturn, 1)]
theorem zhX0_bears_0 : zd_chk (cX0_bears.data.toList.drop 0) 0 ziX0_bears_0 = true := by decide +kernel
theorem dX0_bears_0 : decode cX0_bears 0 = .ok (.aload_n 0, 1) := zd_at zhX0_bears_0 0 rfl
theorem dX0_bears_1 : decode cX0_bears 1 = .ok (.getfield 9, 3) := zd_at zhX0_bears_0 1 rfl
theorem dX0_bears_4 : decode cX0_bears 4 = .ok (.iconst 5, 1) := zd_at zhX0_bears_0 2 rfl
theorem dX0_bears_5 : decode cX0_bears 5 = .ok (.aload_n 0, 1) := zd_at zhX0_bears_0 3 rfl
theorem dX0_bears_6 : decode cX0_bears 6 = .ok (.getfield 42, 3) := zd_at zhX0_bears_0 4 rfl
theorem dX0_bears_9 : decode cX0_bears 9 = .ok (.iload_n 1, 1) := zd_at zhX0_bears_0 5 rfl
theorem dX0_bears_10 : decode cX0_bears 10 = .ok (.iadd, 1) := zd_at zhX0_bears_0 6 rfl
theorem dX0_bears_11 : decode cX0_bears 11 = .ok (.iconst 1, 1) := zd_at zhX0_bears_0 7 rfl
theorem dX0_bears_12 : decode cX0_bears 12 = .ok (.iadd, 1) := zd_at zhX0_bears_0 8 rfl
theorem dX0_bears_13 : decode cX0_bears 13 = .ok (.iastore, 1) := zd_at zhX0_bears_0 9 rfl
theorem dX0_bears_14 : decode cX0_bears 14 = .ok (.aload_n 0, 1) := zd_at zhX0_bears_0 10 rfl
theorem dX0_bears_15 : decode cX0_bears 15 = .ok (.getfield 9, 3) := zd_at zhX0_bears_0 11 rfl
theorem dX0_bears_18 : decode cX0_bears 18 = .ok (.iconst 2, 1) := zd_at zhX0_bears_0 12 rfl
theorem dX0_bears_19 : decode cX0_bears 19 = .ok (.aload_n 0, 1) := zd_at zhX0_bears_0 13 rfl
theorem dX0_bears_20 : decode cX0_bears 20 = .ok (.getfield 47, 3) := zd_at zhX0_bears_0 14 rfl
theorem dX0_bears_23 : decode cX0_bears 23 = .ok (.iload_n 1, 1) := zd_at zhX0_bears_0 15 rfl
theorem dX0_bears_24 : decode cX0_bears 24 = .ok (.iadd, 1) := zd_at zhX0_bears_0 16 rfl
theorem dX0_bears_25 : decode cX0_bears 25 = .ok (.iastore, 1) := zd_at zhX0_bears_0 17 rfl
theorem dX0_bears_26 : decode cX0_bears 26 = .ok (.aload_n 0, 1) := zd_at zhX0_bears_0 18 rfl
theorem dX0_bears_27 : decode cX0_bears 27 = .ok (.getfield 38, 3) := zd_at zhX0_bears_0 19 rfl
theorem dX0_bears_30 : decode cX0_bears 30 = .ok (.aload_n 0, 1) := zd_at zhX0_bears_0 20 rfl
theorem dX0_bears_31 : decode cX0_bears 31 = .ok (.getfield 9, 3) := zd_at zhX0_bears_0 21 rfl
theorem dX0_bears_34 : decode cX0_bears 34 = .ok (.iconst 3, 1) := zd_at zhX0_bears_0 22 rfl
theorem dX0_bears_35 : decode cX0_bears 35 = .ok (.iaload, 1) := zd_at zhX0_bears_0 23 rfl
theorem dX0_bears_36 : decode cX0_bears 36 = .ok (.aload_n 0, 1) := zd_at zhX0_bears_0 24 rfl
theorem dX0_bears_37 : decode cX0_bears 37 = .ok (.getfield 15, 3) := zd_at zhX0_bears_0 25 rfl
theorem dX0_bears_40 : decode cX0_bears 40 = .ok (.iconst 2, 1) := zd_at zhX0_bears_0 26 rfl
theorem dX0_bears_41 : decode cX0_bears 41 = .ok (.aload_n 0, 1) := zd_at zhX0_bears_0 27 rfl
theorem dX0_bears_42 : decode cX0_bears 42 = .ok (.getfield 9, 3) := zd_at zhX0_bears_0 28 rfl
theorem dX0_bears_45 : decode cX0_bears 45 = .ok (.invokevirtual 54, 3) := zd_at zhX0_bears_0 29 rfl
theorem dX0_bears_48 : decode cX0_bears 48 = .ok (.iload_n 2, 1) := zd_at zhX0_bears_0 30 rfl
theorem dX0_bears_49 : decode cX0_bears 49 = .ok (.invokestatic 69, 3) := zd_at zhX0_bears_0 31 rfl
theorem dX0_bears_52 : decode cX0_bears 52 = .ok (.ireturn, 1) := zd_at zhX0_bears_0 32 rfl
def ziX1_init_0 : List (Nat × Instr × Nat) := [(0, .aload_n 0, 1), (1, .invokespecial 3, 3), (4, .aload_n 0, 1), (5, .bipush 50, 2)]
theorem zhX1_init_0 : zd_chk (cX1_init.data.toList.drop 0) 0 ziX1_init_0 = true := by decide +kernel
theorem dX1_init_0 : decode cX1_init 0 = .ok (.aload_n 0, 1) := zd_at zhX1_init_0 0 rfl
theorem dX1_init_1 : decode cX1_init 1 = .ok (.invokespecial 3, 3) := zd_at zhX1_init_0 1 rfl
theorem dX1_init_4 : decode cX1_init 4 = .ok (.aload_n 0, 1) := zd_at zhX1_init_0 2 rfl
theorem dX1_init_5 : decode cX1_init 5 = .ok (.bipush 50, 2) := zd_at zhX1_init_0 3 rfl
theorem dX1_init_7 : decode cX1_init 7 = .ok (.newarray .int, 2) := by decide +kernel
def ziX1_init_9 : List (Nat × Instr × Nat) := [(9, .putfield 9, 3), (12, .aload_n 0, 1), (13, .bipush 50, 2)]
theorem zhX1_init_9 : zd_chk (cX1_init.data.toList.drop 9) 9 ziX1_init_9 = true := by decide +kernel
theorem dX1_init_9 : decode cX1_init 9 = .ok (.putfield 9, 3) := zd_at zhX1_init_9 0 rfl
theorem dX1_init_12 : decode cX1_init 12 = .ok (.aload_n 0, 1) := zd_at zhX1_init_9 1 rfl
theorem dX1_init_13 : decode cX1_init 13 = .ok (.bipush 50, 2) := zd_at zhX1_init_9 2 rfl
theorem dX1_init_15 : decode cX1_init 15 = .ok (.newarray .int, 2) := by decide +kernel
def ziX1_init_17 : List (Nat × Instr × Nat) := [(17, .putfield 15, 3), (20, .aload_n 0, 1), (21, .bipush 24, 2)]
theorem zhX1_init_17 : zd_chk (cX1_init.data.toList.drop 17) 17 ziX1_init_17 = true := by decide +kernel
theorem dX1_init_17 : decode cX1_init 17 = .ok (.putfield 15, 3) := zd_at zhX1_init_17 0 rfl
theorem dX1_init_20 : decode cX1_init 20 = .ok (.aload_n 0, 1) := zd_at zhX1_init_17 1 rfl
theorem dX1_init_21 : decode cX1_init 21 = .ok (.bipush 24, 2) := zd_at zhX1_init_17 2 rfl
theorem dX1_init_23 : decode cX1_init 23 = .ok (.newarray .int, 2) := by decide +kernel
def ziX1_init_25 : List (Nat × Instr × Nat) := [(25, .putfield 18, 3), (28, .aload_n 0, 1), (29, .sipush 1024, 3)]
theorem zhX1_init_25 : zd_chk (cX1_init.data.toList.drop 25) 25 ziX1_init_25 = true := by decide +kernel
theorem dX1_init_25 : decode cX1_init 25 = .ok (.putfield 18, 3) := zd_at zhX1_init_25 0 rfl
theorem dX1_init_28 : decode cX1_init 28 = .ok (.aload_n 0, 1) := zd_at zhX1_init_25 1 rfl
theorem dX1_init_29 : decode cX1_init 29 = .ok (.sipush 1024, 3) := zd_at zhX1_init_25 2 rfl
theorem dX1_init_32 : decode cX1_init 32 = .ok (.newarray .int, 2) := by decide +kernel
def ziX1_init_34 : List (Nat × Instr × Nat) := [(34, .putfield 21, 3), (37, .return_, 1)]
theorem zhX1_init_34 : zd_chk (cX1_init.data.toList.drop 34) 34 ziX1_init_34 = true := by decide +kernel
theorem dX1_init_34 : decode cX1_init 34 = .ok (.putfield 21, 3) := zd_at zhX1_init_34 0 rfl
theorem dX1_init_37 : decode cX1_init 37 = .ok (.return_, 1) := zd_at zhX1_init_34 1 rfl
def ziX1_look_0 : List (Nat × Instr × Nat) := [(0, .aload_n 0, 1), (1, .iconst 0, 1), (2, .putfield 24, 3), (5, .aload_n 0, 1), (6, .iconst 0, 1), (7, .putfield 28, 3), (10, .aload_n 0, 1), (11, .iconst (-1), 1), (12, .putfield 31, 3), (15, .iconst 0, 1), (16, .istore 4, 2), (18, .iload 4, 2), (20, .bipush 50, 2), (22, .if_icmp .ge 106, 3), (25, .aload_n 0, 1), (26, .getfield 9, 3), (29, .iload 4, 2), (31, .iconst (-1), 1), (32, .iastore, 1), (33, .aload_n 0, 1), (34, .getfield 15, 3), (37, .iload 4, 2), (39, .iconst 0, 1), (40, .iastore, 1), (41, .iload 4, 2), (43, .bipush 10, 2), (45, .idiv, 1), (46, .aload_n 1, 1), (47, .getfield 34, 3), (50, .if_icmp .lt 6, 3), (53, .goto 69, 3), (56, .aload_n 2, 1), (57, .aload_n 1, 1), (58, .iload 4, 2), (60, .bipush 10, 2), (62, .idiv, 1), (63, .iload 4, 2), (65, .bipush 10, 2), (67, .irem, 1), (68, .invokevirtual 39, 3)]
theorem zhX1_look_0 : zd_chk (cX1_look.data.toList.drop 0) 0 ziX1_look_0 = true := by decide +kernel
theorem dX1_look_0 : decode cX1_look 0 = .ok (.aload_n 0, 1) := zd_at zhX1_look_0 0 rfl
theorem dX1_look_1 : decode cX1_look 1 = .ok (.iconst 0, 1) := zd_at zhX1_look_0 1 rfl
theorem dX1_look_2 : decode cX1_look 2 = .ok (.putfield 24, 3) := zd_at zhX1_look_0 2 rfl
theorem dX1_look_5 : decode cX1_look 5 = .ok (.aload_n 0, 1) := zd_at zhX1_look_0 3 rfl
theorem dX1_look_6 : decode cX1_look 6 = .ok (.iconst 0, 1) := zd_at zhX1_look_0 4 rfl
theorem dX1_look_7 : decode cX1_look 7 = .ok (.putfield 28, 3) := zd_at zhX1_look_0 5 rfl
theorem dX1_look_10 : decode cX1_look 10 = .ok (.aload_n 0, 1) := zd_at zhX1_look_0 6 rfl
theorem dX1_look_11 : decode cX1_look 11 = .ok (.iconst (-1), 1) := zd_at zhX1_look_0 7 rfl
theorem dX1_look_12 : decode cX1_look 12 = .ok (.putfield 31, 3) := zd_at zhX1_look_0 8 rfl
theorem dX1_look_15 : decode cX1_look 15 = .ok (.iconst 0, 1) := zd_at zhX1_look_0 9 rfl
theorem dX1_look_16 : decode cX1_look 16 = .ok (.istore 4, 2) := zd_at zhX1_look_0 10 rfl
theorem dX1_look_18 : decode cX1_look 18 = .ok (.iload 4, 2) := zd_at zhX1_look_0 11 rfl
theorem dX1_look_20 : decode cX1_look 20 = .ok (.bipush 50, 2) := zd_at zhX1_look_0 12 rfl
theorem dX1_look_22 : decode cX1_look 22 = .ok (.if_icmp .ge 106, 3) := zd_at zhX1_look_0 13 rfl
theorem dX1_look_25 : decode cX1_look 25 = .ok (.aload_n 0, 1) := zd_at zhX1_look_0 14 rfl
theorem dX1_look_26 : decode cX1_look 26 = .ok (.getfield 9, 3) := zd_at zhX1_look_0 15 rfl
theorem dX1_look_29 : decode cX1_look 29 = .ok (.iload 4, 2) := zd_at zhX1_look_0 16 rfl
theorem dX1_look_31 : decode cX1_look 31 = .ok (.iconst (-1), 1) := zd_at zhX1_look_0 17 rfl
theorem dX1_look_32 : decode cX1_look 32 = .ok (.iastore, 1) := zd_at zhX1_look_0 18 rfl
theorem dX1_look_33 : decode cX1_look 33 = .ok (.aload_n 0, 1) := zd_at zhX1_look_0 19 rfl
theorem dX1_look_34 : decode cX1_look 34 = .ok (.getfield 15, 3) := zd_at zhX1_look_0 20 rfl
theorem dX1_look_37 : decode cX1_look 37 = .ok (.iload 4, 2) := zd_at zhX1_look_0 21 rfl
theorem dX1_look_39 : decode cX1_look 39 = .ok (.iconst 0, 1) := zd_at zhX1_look_0 22 rfl
theorem dX1_look_40 : decode cX1_look 40 = .ok (.iastore, 1) := zd_at zhX1_look_0 23 rfl
theorem dX1_look_41 : decode cX1_look 41 = .ok (.iload 4, 2) := zd_at zhX1_look_0 24 rfl
theorem dX1_look_43 : decode cX1_look 43 = .ok (.bipush 10, 2) := zd_at zhX1_look_0 25 rfl
theorem dX1_look_45 : decode cX1_look 45 = .ok (.idiv, 1) := zd_at zhX1_look_0 26 rfl
theorem dX1_look_46 : decode cX1_look 46 = .ok (.aload_n 1, 1) := zd_at zhX1_look_0 27 rfl
theorem dX1_look_47 : decode cX1_look 47 = .ok (.getfield 34, 3) := zd_at zhX1_look_0 28 rfl
theorem dX1_look_50 : decode cX1_look 50 = .ok (.if_icmp .lt 6, 3) := zd_at zhX1_look_0 29 rfl
theorem dX1_look_53 : decode cX1_look 53 = .ok (.goto 69, 3) := zd_at zhX1_look_0 30 rfl
theorem dX1_look_56 : decode cX1_look 56 = .ok (.aload_n 2, 1) := zd_at zhX1_look_0 31 rfl
theorem dX1_look_57 : decode cX1_look 57 = .ok (.aload_n 1, 1) := zd_at zhX1_look_0 32 rfl
theorem dX1_look_58 : decode cX1_look 58 = .ok (.iload 4, 2) := zd_at zhX1_look_0 33 rfl
theorem dX1_look_60 : decode cX1_look 60 = .ok (.bipush 10, 2) := zd_at zhX1_look_0 34 rfl
theorem dX1_look_62 : decode cX1_look 62 = .ok (.idiv, 1) := zd_at zhX1_look_0 35 rfl
theorem dX1_look_63 : decode cX1_look 63 = .ok (.iload 4, 2) := zd_at zhX1_look_0 36 rfl
theorem dX1_look_65 : decode cX1_look 65 = .ok (.bipush 10, 2) := zd_at zhX1_look_0 37 rfl
theorem dX1_look_67 : decode cX1_look 67 = .ok (.irem, 1) := zd_at zhX1_look_0 38 rfl
theorem dX1_look_68 : decode cX1_look 68 = .ok (.invokevirtual 39, 3) := zd_at zhX1_look_0 39 rfl
def ziX1_look_71 : List (Nat × Instr × Nat) := [(71, .aload_n 0, 1), (72, .getfield 9, 3), (75, .iload 4, 2), (77, .aload_n 2, 1), (78, .iload_n 3, 1), (79, .invokevirtual 45, 3), (82, .iastore, 1), (83, .aload_n 0, 1), (84, .getfield 9, 3), (87, .iload 4, 2), (89, .iaload, 1), (90, .iconst (-1), 1), (91, .if_icmp .eq 31, 3), (94, .aload_n 0, 1), (95, .iload 4, 2), (97, .aload_n 2, 1), (98, .aload_n 0, 1), (99, .getfield 9, 3), (102, .iload 4, 2), (104, .iaload, 1), (105, .aload_n 1, 1), (106, .aload_n 0, 1), (107, .getfield 9, 3), (110, .iload 4, 2), (112, .iaload, 1), (113, .invokevirtual 49, 3), (116, .invokevirtual 53, 3), (119, .invokevirtual 57, 3), (122, .iinc 4 1, 3), (125, .goto (-107), 3), (128, .return_, 1)]
theorem zhX1_look_71 : zd_chk (cX1_look.data.toList.drop 71) 71 ziX1_look_71 = true := by decide +kernel
theorem dX1_look_71 : decode cX1_look 71 = .ok (.aload_n 0, 1) := zd_at zhX1_look_71 0 rfl
theorem dX1_look_72 : decode cX1_look 72 = .ok (.getfield 9, 3) := zd_at zhX1_look_71 1 rfl
theorem dX1_look_75 : decode cX1_look 75 = .ok (.iload 4, 2) := zd_at zhX1_look_71 2 rfl
theorem dX1_look_77 : decode cX1_look 77 = .ok (.aload_n 2, 1) := zd_at zhX1_look_71 3 rfl
theorem dX1_look_78 : decode cX1_look 78 = .ok (.iload_n 3, 1) := zd_at zhX1_look_71 4 rfl
theorem dX1_look_79 : decode cX1_look 79 = .ok (.invokevirtual 45, 3) := zd_at zhX1_look_71 5 rfl
theorem dX1_look_82 : decode cX1_look 82 = .ok (.iastore, 1) := zd_at zhX1_look_71 6 rfl
theorem dX1_look_83 : decode cX1_look 83 = .ok (.aload_n 0, 1) := zd_at zhX1_look_71 7 rfl
theorem dX1_look_84 : decode cX1_look 84 = .ok (.getfield 9, 3) := zd_at zhX1_look_71 8 rfl
theorem dX1_look_87 : decode cX1_look 87 = .ok (.iload 4, 2) := zd_at zhX1_look_71 9 rfl
theorem dX1_look_89 : decode cX1_look 89 = .ok (.iaload, 1) := zd_at zhX1_look_71 10 rfl
theorem dX1_look_90 : decode cX1_look 90 = .ok (.iconst (-1), 1) := zd_at zhX1_look_71 11 rfl
theorem dX1_look_91 : decode cX1_look 91 = .ok (.if_icmp .eq 31, 3) := zd_at zhX1_look_71 12 rfl
theorem dX1_look_94 : decode cX1_look 94 = .ok (.aload_n 0, 1) := zd_at zhX1_look_71 13 rfl
theorem dX1_look_95 : decode cX1_look 95 = .ok (.iload 4, 2) := zd_at zhX1_look_71 14 rfl
theorem dX1_look_97 : decode cX1_look 97 = .ok (.aload_n 2, 1) := zd_at zhX1_look_71 15 rfl
theorem dX1_look_98 : decode cX1_look 98 = .ok (.aload_n 0, 1) := zd_at zhX1_look_71 16 rfl
theorem dX1_look_99 : decode cX1_look 99 = .ok (.getfield 9, 3) := zd_at zhX1_look_71 17 rfl
theorem dX1_look_102 : decode cX1_look 102 = .ok (.iload 4, 2) := zd_at zhX1_look_71 18 rfl
theorem dX1_look_104 : decode cX1_look 104 = .ok (.iaload, 1) := zd_at zhX1_look_71 19 rfl
theorem dX1_look_105 : decode cX1_look 105 = .ok (.aload_n 1, 1) := zd_at zhX1_look_71 20 rfl
theorem dX1_look_106 : decode cX1_look 106 = .ok (.aload_n 0, 1) := zd_at zhX1_look_71 21 rfl
theorem dX1_look_107 : decode cX1_look 107 = .ok (.getfield 9, 3) := zd_at zhX1_look_71 22 rfl
theorem dX1_look_110 : decode cX1_look 110 = .ok (.iload 4, 2) := zd_at zhX1_look_71 23 rfl
theorem dX1_look_112 : decode cX1_look 112 = .ok (.iaload, 1) := zd_at zhX1_look_71 24 rfl
theorem dX1_look_113 : decode cX1_look 113 = .ok (.invokevirtual 49, 3) := zd_at zhX1_look_71 25 rfl
theorem dX1_look_116 : decode cX1_look 116 = .ok (.invokevirtual 53, 3) := zd_at zhX1_look_71 26 rfl
theorem dX1_look_119 : decode cX1_look 119 = .ok (.invokevirtual 57, 3) := zd_at zhX1_look_71 27 rfl
theorem dX1_look_122 : decode cX1_look 122 = .ok (.iinc 4 1, 3) := zd_at zhX1_look_71 28 rfl
theorem dX1_look_125 : decode cX1_look 125 = .ok (.goto (-107), 3) := zd_at zhX1_look_71 29 rfl
theorem dX1_look_128 : decode cX1_look 128 = .ok (.return_, 1) := zd_at zhX1_look_71 30 rfl
def ziX1_note_0 : List (Nat × Instr × Nat) := [(0, .aload_n 0, 1), (1, .getfield 15, 3), (4, .iload_n 1, 1), (5, .iload_n 2, 1), (6, .iastore, 1), (7, .aload_n 0, 1), (8, .dup, 1), (9, .getfield 24, 3), (12, .iload_n 2, 1), (13, .iadd, 1), (14, .putfield 24, 3), (17, .aload_n 0, 1), (18, .dup, 1), (19, .getfield 28, 3), (22, .iconst 1, 1), (23, .iadd, 1), (24, .putfield 28, 3), (27, .aload_n 0, 1), (28, .getfield 31, 3), (31, .iconst (-1), 1), (32, .if_icmp .eq 21, 3), (35, .aload_n 0, 1), (36, .getfield 9, 3), (39, .iload_n 1, 1), (40, .iaload, 1), (41, .aload_n 0, 1), (42, .getfield 9, 3), (45, .aload_n 0, 1), (46, .getfield 31, 3), (49, .iaload, 1), (50, .if_icmp .ge 8, 3), (53, .aload_n 0, 1), (54, .iload_n 1, 1), (55, .putfield 31, 3), (58, .return_, 1)]
theorem zhX1_note_0 : zd_chk (cX1_note.data.toList.drop 0) 0 ziX1_note_0 = true := by decide +kernel
theorem dX1_note_0 : decode cX1_note 0 = .ok (.aload_n 0, 1) := zd_at zhX1_note_0 0 rfl
theorem dX1_note_1 : decode cX1_note 1 = .ok (.getfield 15, 3) := zd_at zhX1_note_0 1 rfl
theorem dX1_note_4 : decode cX1_note 4 = .ok (.iload_n 1, 1) := zd_at zhX1_note_0 2 rfl
theorem dX1_note_5 : decode cX1_note 5 = .ok (.iload_n 2, 1) := zd_at zhX1_note_0 3 rfl
theorem dX1_note_6 : decode cX1_note 6 = .ok (.iastore, 1) := zd_at zhX1_note_0 4 rfl
theorem dX1_note_7 : decode cX1_note 7 = .ok (.aload_n 0, 1) := zd_at zhX1_note_0 5 rfl
theorem dX1_note_8 : decode cX1_note 8 = .ok (.dup, 1) := zd_at zhX1_note_0 6 rfl
theorem dX1_note_9 : decode cX1_note 9 = .ok (.getfield 24, 3) := zd_at zhX1_note_0 7 rfl
theorem dX1_note_12 : decode cX1_note 12 = .ok (.iload_n 2, 1) := zd_at zhX1_note_0 8 rfl
theorem dX1_note_13 : decode cX1_note 13 = .ok (.iadd, 1) := zd_at zhX1_note_0 9 rfl
theorem dX1_note_14 : decode cX1_note 14 = .ok (.putfield 24, 3) := zd_at zhX1_note_0 10 rfl
theorem dX1_note_17 : decode cX1_note 17 = .ok (.aload_n 0, 1) := zd_at zhX1_note_0 11 rfl
theorem dX1_note_18 : decode cX1_note 18 = .ok (.dup, 1) := zd_at zhX1_note_0 12 rfl
theorem dX1_note_19 : decode cX1_note 19 = .ok (.getfield 28, 3) := zd_at zhX1_note_0 13 rfl
theorem dX1_note_22 : decode cX1_note 22 = .ok (.iconst 1, 1) := zd_at zhX1_note_0 14 rfl
theorem dX1_note_23 : decode cX1_note 23 = .ok (.iadd, 1) := zd_at zhX1_note_0 15 rfl
theorem dX1_note_24 : decode cX1_note 24 = .ok (.putfield 28, 3) := zd_at zhX1_note_0 16 rfl
theorem dX1_note_27 : decode cX1_note 27 = .ok (.aload_n 0, 1) := zd_at zhX1_note_0 17 rfl
theorem dX1_note_28 : decode cX1_note 28 = .ok (.getfield 31, 3) := zd_at zhX1_note_0 18 rfl
theorem dX1_note_31 : decode cX1_note 31 = .ok (.iconst (-1), 1) := zd_at zhX1_note_0 19 rfl
theorem dX1_note_32 : decode cX1_note 32 = .ok (.if_icmp .eq 21, 3) := zd_at zhX1_note_0 20 rfl
theorem dX1_note_35 : decode cX1_note 35 = .ok (.aload_n 0, 1) := zd_at zhX1_note_0 21 rfl
theorem dX1_note_36 : decode cX1_note 36 = .ok (.getfield 9, 3) := zd_at zhX1_note_0 22 rfl
theorem dX1_note_39 : decode cX1_note 39 = .ok (.iload_n 1, 1) := zd_at zhX1_note_0 23 rfl
theorem dX1_note_40 : decode cX1_note 40 = .ok (.iaload, 1) := zd_at zhX1_note_0 24 rfl
theorem dX1_note_41 : decode cX1_note 41 = .ok (.aload_n 0, 1) := zd_at zhX1_note_0 25 rfl
theorem dX1_note_42 : decode cX1_note 42 = .ok (.getfield 9, 3) := zd_at zhX1_note_0 26 rfl
theorem dX1_note_45 : decode cX1_note 45 = .ok (.aload_n 0, 1) := zd_at zhX1_note_0 27 rfl
theorem dX1_note_46 : decode cX1_note 46 = .ok (.getfield 31, 3) := zd_at zhX1_note_0 28 rfl
theorem dX1_note_49 : decode cX1_note 49 = .ok (.iaload, 1) := zd_at zhX1_note_0 29 rfl
theorem dX1_note_50 : decode cX1_note 50 = .ok (.if_icmp .ge 8, 3) := zd_at zhX1_note_0 30 rfl
theorem dX1_note_53 : decode cX1_note 53 = .ok (.aload_n 0, 1) := zd_at zhX1_note_0 31 rfl
theorem dX1_note_54 : decode cX1_note 54 = .ok (.iload_n 1, 1) := zd_at zhX1_note_0 32 rfl
theorem dX1_note_55 : decode cX1_note 55 = .ok (.putfield 31, 3) := zd_at zhX1_note_0 33 rfl
theorem dX1_note_58 : decode cX1_note 58 = .ok (.return_, 1) := zd_at zhX1_note_0 34 rfl
def ziX1_lookAtChurch_0 : List (Nat × Instr × Nat) := [(0, .iconst 0, 1), (1, .istore_n 3, 1), (2, .iconst 0, 1), (3, .istore 4, 2), (5, .iload 4, 2), (7, .bipush 24, 2), (9, .if_icmp .ge 17, 3), (12, .aload_n 0, 1), (13, .getfield 18, 3), (16, .iload 4, 2), (18, .iconst 0, 1), (19, .iastore, 1), (20, .iinc 4 1, 3), (23, .goto (-18), 3), (26, .iconst 0, 1), (27, .istore 4, 2), (29, .iload 4, 2), (31, .bipush 50, 2), (33, .if_icmp .ge 95, 3), (36, .aload_n 0, 1), (37, .getfield 9, 3), (40, .iload 4, 2), (42, .iaload, 1), (43, .iconst (-1), 1), (44, .if_icmp .ne 6, 3), (47, .goto 75, 3), (50, .aload_n 2, 1), (51, .aload_n 1, 1), (52, .iload 4, 2), (54, .bipush 10, 2), (56, .idiv, 1), (57, .iload 4, 2), (59, .bipush 10, 2), (61, .irem, 1), (62, .invokevirtual 39, 3), (65, .aload_n 2, 1), (66, .aload_n 0, 1), (67, .getfield 9, 3), (70, .iload 4, 2), (72, .iaload, 1)]
theorem zhX1_lookAtChurch_0 : zd_chk (cX1_lookAtChurch.data.toList.drop 0) 0 ziX1_lookAtChurch_0 = true := by decide +kernel
theorem dX1_lookAtChurch_0 : decode cX1_lookAtChurch 0 = .ok (.iconst 0, 1) := zd_at zhX1_lookAtChurch_0 0 rfl
theorem dX1_lookAtChurch_1 : decode cX1_lookAtChurch 1 = .ok (.istore_n 3, 1) := zd_at zhX1_lookAtChurch_0 1 rfl
theorem dX1_lookAtChurch_2 : decode cX1_lookAtChurch 2 = .ok (.iconst 0, 1) := zd_at zhX1_lookAtChurch_0 2 rfl
theorem dX1_lookAtChurch_3 : decode cX1_lookAtChurch 3 = .ok (.istore 4, 2) := zd_at zhX1_lookAtChurch_0 3 rfl
theorem dX1_lookAtChurch_5 : decode cX1_lookAtChurch 5 = .ok (.iload 4, 2) := zd_at zhX1_lookAtChurch_0 4 rfl
theorem dX1_lookAtChurch_7 : decode cX1_lookAtChurch 7 = .ok (.bipush 24, 2) := zd_at zhX1_lookAtChurch_0 5 rfl
theorem dX1_lookAtChurch_9 : decode cX1_lookAtChurch 9 = .ok (.if_icmp .ge 17, 3) := zd_at zhX1_lookAtChurch_0 6 rfl
theorem dX1_lookAtChurch_12 : decode cX1_lookAtChurch 12 = .ok (.aload_n 0, 1) := zd_at zhX1_lookAtChurch_0 7 rfl
theorem dX1_lookAtChurch_13 : decode cX1_lookAtChurch 13 = .ok (.getfield 18, 3) := zd_at zhX1_lookAtChurch_0 8 rfl
theorem dX1_lookAtChurch_16 : decode cX1_lookAtChurch 16 = .ok (.iload 4, 2) := zd_at zhX1_lookAtChurch_0 9 rfl
theorem dX1_lookAtChurch_18 : decode cX1_lookAtChurch 18 = .ok (.iconst 0, 1) := zd_at zhX1_lookAtChurch_0 10 rfl
theorem dX1_lookAtChurch_19 : decode cX1_lookAtChurch 19 = .ok (.iastore, 1) := zd_at zhX1_lookAtChurch_0 11 rfl
theorem dX1_lookAtChurch_20 : decode cX1_lookAtChurch 20 = .ok (.iinc 4 1, 3) := zd_at zhX1_lookAtChurch_0 12 rfl
theorem dX1_lookAtChurch_23 : decode cX1_lookAtChurch 23 = .ok (.goto (-18), 3) := zd_at zhX1_lookAtChurch_0 13 rfl
theorem dX1_lookAtChurch_26 : decode cX1_lookAtChurch 26 = .ok (.iconst 0, 1) := zd_at zhX1_lookAtChurch_0 14 rfl
theorem dX1_lookAtChurch_27 : decode cX1_lookAtChurch 27 = .ok (.istore 4, 2) := zd_at zhX1_lookAtChurch_0 15 rfl
theorem dX1_lookAtChurch_29 : decode cX1_lookAtChurch 29 = .ok (.iload 4, 2) := zd_at zhX1_lookAtChurch_0 16 rfl
theorem dX1_lookAtChurch_31 : decode cX1_lookAtChurch 31 = .ok (.bipush 50, 2) := zd_at zhX1_lookAtChurch_0 17 rfl
theorem dX1_lookAtChurch_33 : decode cX1_lookAtChurch 33 = .ok (.if_icmp .ge 95, 3) := zd_at zhX1_lookAtChurch_0 18 rfl
theorem dX1_lookAtChurch_36 : decode cX1_lookAtChurch 36 = .ok (.aload_n 0, 1) := zd_at zhX1_lookAtChurch_0 19 rfl
theorem dX1_lookAtChurch_37 : decode cX1_lookAtChurch 37 = .ok (.getfield 9, 3) := zd_at zhX1_lookAtChurch_0 20 rfl
theorem dX1_lookAtChurch_40 : decode cX1_lookAtChurch 40 = .ok (.iload 4, 2) := zd_at zhX1_lookAtChurch_0 21 rfl
theorem dX1_lookAtChurch_42 : decode cX1_lookAtChurch 42 = .ok (.iaload, 1) := zd_at zhX1_lookAtChurch_0 22 rfl
theorem dX1_lookAtChurch_43 : decode cX1_lookAtChurch 43 = .ok (.iconst (-1), 1) := zd_at zhX1_lookAtChurch_0 23 rfl
theorem dX1_lookAtChurch_44 : decode cX1_lookAtChurch 44 = .ok (.if_icmp .ne 6, 3) := zd_at zhX1_lookAtChurch_0 24 rfl
theorem dX1_lookAtChurch_47 : decode cX1_lookAtChurch 47 = .ok (.goto 75, 3) := zd_at zhX1_lookAtChurch_0 25 rfl
theorem dX1_lookAtChurch_50 : decode cX1_lookAtChurch 50 = .ok (.aload_n 2, 1) := zd_at zhX1_lookAtChurch_0 26 rfl
theorem dX1_lookAtChurch_51 : decode cX1_lookAtChurch 51 = .ok (.aload_n 1, 1) := zd_at zhX1_lookAtChurch_0 27 rfl
theorem dX1_lookAtChurch_52 : decode cX1_lookAtChurch 52 = .ok (.iload 4, 2) := zd_at zhX1_lookAtChurch_0 28 rfl
theorem dX1_lookAtChurch_54 : decode cX1_lookAtChurch 54 = .ok (.bipush 10, 2) := zd_at zhX1_lookAtChurch_0 29 rfl
theorem dX1_lookAtChurch_56 : decode cX1_lookAtChurch 56 = .ok (.idiv, 1) := zd_at zhX1_lookAtChurch_0 30 rfl
theorem dX1_lookAtChurch_57 : decode cX1_lookAtChurch 57 = .ok (.iload 4, 2) := zd_at zhX1_lookAtChurch_0 31 rfl
theorem dX1_lookAtChurch_59 : decode cX1_lookAtChurch 59 = .ok (.bipush 10, 2) := zd_at zhX1_lookAtChurch_0 32 rfl
theorem dX1_lookAtChurch_61 : decode cX1_lookAtChurch 61 = .ok (.irem, 1) := zd_at zhX1_lookAtChurch_0 33 rfl
theorem dX1_lookAtChurch_62 : decode cX1_lookAtChurch 62 = .ok (.invokevirtual 39, 3) := zd_at zhX1_lookAtChurch_0 34 rfl
theorem dX1_lookAtChurch_65 : decode cX1_lookAtChurch 65 = .ok (.aload_n 2, 1) := zd_at zhX1_lookAtChurch_0 35 rfl
theorem dX1_lookAtChurch_66 : decode cX1_lookAtChurch 66 = .ok (.aload_n 0, 1) := zd_at zhX1_lookAtChurch_0 36 rfl
theorem dX1_lookAtChurch_67 : decode cX1_lookAtChurch 67 = .ok (.getfield 9, 3) := zd_at zhX1_lookAtChurch_0 37 rfl
theorem dX1_lookAtChurch_70 : decode cX1_lookAtChurch 70 = .ok (.iload 4, 2) := zd_at zhX1_lookAtChurch_0 38 rfl
theorem dX1_lookAtChurch_72 : decode cX1_lookAtChurch 72 = .ok (.iaload, 1) := zd_at zhX1_lookAtChurch_0 39 rfl
def ziX1_lookAtChurch_73 : List (Nat × Instr × Nat) := [(73, .iconst 0, 1), (74, .invokevirtual 53, 3), (77, .istore 5, 2), (79, .iload_n 3, 1), (80, .iload 5, 2), (82, .iadd, 1), (83, .istore_n 3, 1), (84, .aload_n 0, 1), (85, .getfield 18, 3), (88, .aload_n 1, 1), (89, .getfield 61, 3), (92, .aload_n 0, 1), (93, .getfield 9, 3), (96, .iload 4, 2), (98, .iaload, 1), (99, .iadd, 1), (100, .bipush 24, 2), (102, .irem, 1), (103, .dup2, 1), (104, .iaload, 1), (105, .aload_n 2, 1), (106, .aload_n 0, 1), (107, .getfield 9, 3), (110, .iload 4, 2), (112, .iaload, 1), (113, .iconst 1, 1), (114, .invokevirtual 53, 3), (117, .iload 5, 2), (119, .isub, 1), (120, .iadd, 1), (121, .iastore, 1), (122, .iinc 4 1, 3), (125, .goto (-96), 3), (128, .iconst 0, 1), (129, .istore 4, 2), (131, .iload 4, 2), (133, .bipush 24, 2), (135, .if_icmp .ge 20, 3), (138, .aload_n 0, 1), (139, .getfield 18, 3)]
theorem zhX1_lookAtChurch_73 : zd_chk (cX1_lookAtChurch.data.toList.drop 73) 73 ziX1_lookAtChurch_73 = true := by decide +kernel
theorem dX1_lookAtChurch_73 : decode cX1_lookAtChurch 73 = .ok (.iconst 0, 1) := zd_at zhX1_lookAtChurch_73 0 rfl
theorem dX1_lookAtChurch_74 : decode cX1_lookAtChurch 74 = .ok (.invokevirtual 53, 3) := zd_at zhX1_lookAtChurch_73 1 rfl
theorem dX1_lookAtChurch_77 : decode cX1_lookAtChurch 77 = .ok (.istore 5, 2) := zd_at zhX1_lookAtChurch_73 2 rfl
theorem dX1_lookAtChurch_79 : decode cX1_lookAtChurch 79 = .ok (.iload_n 3, 1) := zd_at zhX1_lookAtChurch_73 3 rfl
theorem dX1_lookAtChurch_80 : decode cX1_lookAtChurch 80 = .ok (.iload 5, 2) := zd_at zhX1_lookAtChurch_73 4 rfl
theorem dX1_lookAtChurch_82 : decode cX1_lookAtChurch 82 = .ok (.iadd, 1) := zd_at zhX1_lookAtChurch_73 5 rfl
theorem dX1_lookAtChurch_83 : decode cX1_lookAtChurch 83 = .ok (.istore_n 3, 1) := zd_at zhX1_lookAtChurch_73 6 rfl
theorem dX1_lookAtChurch_84 : decode cX1_lookAtChurch 84 = .ok (.aload_n 0, 1) := zd_at zhX1_lookAtChurch_73 7 rfl
theorem dX1_lookAtChurch_85 : decode cX1_lookAtChurch 85 = .ok (.getfield 18, 3) := zd_at zhX1_lookAtChurch_73 8 rfl
theorem dX1_lookAtChurch_88 : decode cX1_lookAtChurch 88 = .ok (.aload_n 1, 1) := zd_at zhX1_lookAtChurch_73 9 rfl
theorem dX1_lookAtChurch_89 : decode cX1_lookAtChurch 89 = .ok (.getfield 61, 3) := zd_at zhX1_lookAtChurch_73 10 rfl
theorem dX1_lookAtChurch_92 : decode cX1_lookAtChurch 92 = .ok (.aload_n 0, 1) := zd_at zhX1_lookAtChurch_73 11 rfl
theorem dX1_lookAtChurch_93 : decode cX1_lookAtChurch 93 = .ok (.getfield 9, 3) := zd_at zhX1_lookAtChurch_73 12 rfl
theorem dX1_lookAtChurch_96 : decode cX1_lookAtChurch 96 = .ok (.iload 4, 2) := zd_at zhX1_lookAtChurch_73 13 rfl
theorem dX1_lookAtChurch_98 : decode cX1_lookAtChurch 98 = .ok (.iaload, 1) := zd_at zhX1_lookAtChurch_73 14 rfl
theorem dX1_lookAtChurch_99 : decode cX1_lookAtChurch 99 = .ok (.iadd, 1) := zd_at zhX1_lookAtChurch_73 15 rfl
theorem dX1_lookAtChurch_100 : decode cX1_lookAtChurch 100 = .ok (.bipush 24, 2) := zd_at zhX1_lookAtChurch_73 16 rfl
theorem dX1_lookAtChurch_102 : decode cX1_lookAtChurch 102 = .ok (.irem, 1) := zd_at zhX1_lookAtChurch_73 17 rfl
theorem dX1_lookAtChurch_103 : decode cX1_lookAtChurch 103 = .ok (.dup2, 1) := zd_at zhX1_lookAtChurch_73 18 rfl
theorem dX1_lookAtChurch_104 : decode cX1_lookAtChurch 104 = .ok (.iaload, 1) := zd_at zhX1_lookAtChurch_73 19 rfl
theorem dX1_lookAtChurch_105 : decode cX1_lookAtChurch 105 = .ok (.aload_n 2, 1) := zd_at zhX1_lookAtChurch_73 20 rfl
theorem dX1_lookAtChurch_106 : decode cX1_lookAtChurch 106 = .ok (.aload_n 0, 1) := zd_at zhX1_lookAtChurch_73 21 rfl
theorem dX1_lookAtChurch_107 : decode cX1_lookAtChurch 107 = .ok (.getfield 9, 3) := zd_at zhX1_lookAtChurch_73 22 rfl
theorem dX1_lookAtChurch_110 : decode cX1_lookAtChurch 110 = .ok (.iload 4, 2) := zd_at zhX1_lookAtChurch_73 23 rfl
theorem dX1_lookAtChurch_112 : decode cX1_lookAtChurch 112 = .ok (.iaload, 1) := zd_at zhX1_lookAtChurch_73 24 rfl
theorem dX1_lookAtChurch_113 : decode cX1_lookAtChurch 113 = .ok (.iconst 1, 1) := zd_at zhX1_lookAtChurch_73 25 rfl
theorem dX1_lookAtChurch_114 : decode cX1_lookAtChurch 114 = .ok (.invokevirtual 53, 3) := zd_at zhX1_lookAtChurch_73 26 rfl
theorem dX1_lookAtChurch_117 : decode cX1_lookAtChurch 117 = .ok (.iload 5, 2) := zd_at zhX1_lookAtChurch_73 27 rfl
theorem dX1_lookAtChurch_119 : decode cX1_lookAtChurch 119 = .ok (.isub, 1) := zd_at zhX1_lookAtChurch_73 28 rfl
theorem dX1_lookAtChurch_120 : decode cX1_lookAtChurch 120 = .ok (.iadd, 1) := zd_at zhX1_lookAtChurch_73 29 rfl
theorem dX1_lookAtChurch_121 : decode cX1_lookAtChurch 121 = .ok (.iastore, 1) := zd_at zhX1_lookAtChurch_73 30 rfl
theorem dX1_lookAtChurch_122 : decode cX1_lookAtChurch 122 = .ok (.iinc 4 1, 3) := zd_at zhX1_lookAtChurch_73 31 rfl
theorem dX1_lookAtChurch_125 : decode cX1_lookAtChurch 125 = .ok (.goto (-96), 3) := zd_at zhX1_lookAtChurch_73 32 rfl
theorem dX1_lookAtChurch_128 : decode cX1_lookAtChurch 128 = .ok (.iconst 0, 1) := zd_at zhX1_lookAtChurch_73 33 rfl
theorem dX1_lookAtChurch_129 : decode cX1_lookAtChurch 129 = .ok (.istore 4, 2) := zd_at zhX1_lookAtChurch_73 34 rfl
theorem dX1_lookAtChurch_131 : decode cX1_lookAtChurch 131 = .ok (.iload 4, 2) := zd_at zhX1_lookAtChurch_73 35 rfl
theorem dX1_lookAtChurch_133 : decode cX1_lookAtChurch 133 = .ok (.bipush 24, 2) := zd_at zhX1_lookAtChurch_73 36 rfl
theorem dX1_lookAtChurch_135 : decode cX1_lookAtChurch 135 = .ok (.if_icmp .ge 20, 3) := zd_at zhX1_lookAtChurch_73 37 rfl
theorem dX1_lookAtChurch_138 : decode cX1_lookAtChurch 138 = .ok (.aload_n 0, 1) := zd_at zhX1_lookAtChurch_73 38 rfl
theorem dX1_lookAtChurch_139 : decode cX1_lookAtChurch 139 = .ok (.getfield 18, 3) := zd_at zhX1_lookAtChurch_73 39 rfl
def ziX1_lookAtChurch_142 : List (Nat × Instr × Nat) := [(142, .iload 4, 2), (144, .dup2, 1), (145, .iaload, 1), (146, .iload_n 3, 1), (147, .iadd, 1), (148, .iastore, 1), (149, .iinc 4 1, 3), (152, .goto (-21), 3), (155, .return_, 1)]
theorem zhX1_lookAtChurch_142 : zd_chk (cX1_lookAtChurch.data.toList.drop 142) 142 ziX1_lookAtChurch_142 = true := by decide +kernel
theorem dX1_lookAtChurch_142 : decode cX1_lookAtChurch 142 = .ok (.iload 4, 2) := zd_at zhX1_lookAtChurch_142 0 rfl
theorem dX1_lookAtChurch_144 : decode cX1_lookAtChurch 144 = .ok (.dup2, 1) := zd_at zhX1_lookAtChurch_142 1 rfl
theorem dX1_lookAtChurch_145 : decode cX1_lookAtChurch 145 = .ok (.iaload, 1) := zd_at zhX1_lookAtChurch_142 2 rfl
theorem dX1_lookAtChurch_146 : decode cX1_lookAtChurch 146 = .ok (.iload_n 3, 1) := zd_at zhX1_lookAtChurch_142 3 rfl
theorem dX1_lookAtChurch_147 : decode cX1_lookAtChurch 147 = .ok (.iadd, 1) := zd_at zhX1_lookAtChurch_142 4 rfl
theorem dX1_lookAtChurch_148 : decode cX1_lookAtChurch 148 = .ok (.iastore, 1) := zd_at zhX1_lookAtChurch_142 5 rfl
theorem dX1_lookAtChurch_149 : decode cX1_lookAtChurch 149 = .ok (.iinc 4 1, 3) := zd_at zhX1_lookAtChurch_142 6 rfl
theorem dX1_lookAtChurch_152 : decode cX1_lookAtChurch 152 = .ok (.goto (-21), 3) := zd_at zhX1_lookAtChurch_142 7 rfl
theorem dX1_lookAtChurch_155 : decode cX1_lookAtChurch 155 = .ok (.return_, 1) := zd_at zhX1_lookAtChurch_142 8 rfl
def ziX1_dearest_0 : List (Nat × Instr × Nat) := [(0, .iconst (-1), 1), (1, .istore_n 1, 1), (2, .iconst 0, 1), (3, .istore_n 2, 1), (4, .iconst 0, 1), (5, .istore_n 3, 1), (6, .iload_n 3, 1), (7, .bipush 50, 2), (9, .if_icmp .ge 28, 3), (12, .aload_n 0, 1), (13, .getfield 15, 3), (16, .iload_n 3, 1), (17, .iaload, 1), (18, .iload_n 2, 1), (19, .if_icmp .le 12, 3), (22, .aload_n 0, 1), (23, .getfield 15, 3), (26, .iload_n 3, 1), (27, .iaload, 1), (28, .istore_n 2, 1), (29, .iload_n 3, 1), (30, .istore_n 1, 1), (31, .iinc 3 1, 3), (34, .goto (-28), 3), (37, .iload_n 1, 1), (38, .ireturn, 1)]
theorem zhX1_dearest_0 : zd_chk (cX1_dearest.data.toList.drop 0) 0 ziX1_dearest_0 = true := by decide +kernel
theorem dX1_dearest_0 : decode cX1_dearest 0 = .ok (.iconst (-1), 1) := zd_at zhX1_dearest_0 0 rfl
theorem dX1_dearest_1 : decode cX1_dearest 1 = .ok (.istore_n 1, 1) := zd_at zhX1_dearest_0 1 rfl
theorem dX1_dearest_2 : decode cX1_dearest 2 = .ok (.iconst 0, 1) := zd_at zhX1_dearest_0 2 rfl
theorem dX1_dearest_3 : decode cX1_dearest 3 = .ok (.istore_n 2, 1) := zd_at zhX1_dearest_0 3 rfl
theorem dX1_dearest_4 : decode cX1_dearest 4 = .ok (.iconst 0, 1) := zd_at zhX1_dearest_0 4 rfl
theorem dX1_dearest_5 : decode cX1_dearest 5 = .ok (.istore_n 3, 1) := zd_at zhX1_dearest_0 5 rfl
theorem dX1_dearest_6 : decode cX1_dearest 6 = .ok (.iload_n 3, 1) := zd_at zhX1_dearest_0 6 rfl
theorem dX1_dearest_7 : decode cX1_dearest 7 = .ok (.bipush 50, 2) := zd_at zhX1_dearest_0 7 rfl
theorem dX1_dearest_9 : decode cX1_dearest 9 = .ok (.if_icmp .ge 28, 3) := zd_at zhX1_dearest_0 8 rfl
theorem dX1_dearest_12 : decode cX1_dearest 12 = .ok (.aload_n 0, 1) := zd_at zhX1_dearest_0 9 rfl
theorem dX1_dearest_13 : decode cX1_dearest 13 = .ok (.getfield 15, 3) := zd_at zhX1_dearest_0 10 rfl
theorem dX1_dearest_16 : decode cX1_dearest 16 = .ok (.iload_n 3, 1) := zd_at zhX1_dearest_0 11 rfl
theorem dX1_dearest_17 : decode cX1_dearest 17 = .ok (.iaload, 1) := zd_at zhX1_dearest_0 12 rfl
theorem dX1_dearest_18 : decode cX1_dearest 18 = .ok (.iload_n 2, 1) := zd_at zhX1_dearest_0 13 rfl
theorem dX1_dearest_19 : decode cX1_dearest 19 = .ok (.if_icmp .le 12, 3) := zd_at zhX1_dearest_0 14 rfl
theorem dX1_dearest_22 : decode cX1_dearest 22 = .ok (.aload_n 0, 1) := zd_at zhX1_dearest_0 15 rfl
theorem dX1_dearest_23 : decode cX1_dearest 23 = .ok (.getfield 15, 3) := zd_at zhX1_dearest_0 16 rfl
theorem dX1_dearest_26 : decode cX1_dearest 26 = .ok (.iload_n 3, 1) := zd_at zhX1_dearest_0 17 rfl
theorem dX1_dearest_27 : decode cX1_dearest 27 = .ok (.iaload, 1) := zd_at zhX1_dearest_0 18 rfl
theorem dX1_dearest_28 : decode cX1_dearest 28 = .ok (.istore_n 2, 1) := zd_at zhX1_dearest_0 19 rfl
theorem dX1_dearest_29 : decode cX1_dearest 29 = .ok (.iload_n 3, 1) := zd_at zhX1_dearest_0 20 rfl
theorem dX1_dearest_30 : decode cX1_dearest 30 = .ok (.istore_n 1, 1) := zd_at zhX1_dearest_0 21 rfl
theorem dX1_dearest_31 : decode cX1_dearest 31 = .ok (.iinc 3 1, 3) := zd_at zhX1_dearest_0 22 rfl
theorem dX1_dearest_34 : decode cX1_dearest 34 = .ok (.goto (-28), 3) := zd_at zhX1_dearest_0 23 rfl
theorem dX1_dearest_37 : decode cX1_dearest 37 = .ok (.iload_n 1, 1) := zd_at zhX1_dearest_0 24 rfl
theorem dX1_dearest_38 : decode cX1_dearest 38 = .ok (.ireturn, 1) := zd_at zhX1_dearest_0 25 rfl
def ziX1_fewest_0 : List (Nat × Instr × Nat) := [(0, .iconst 0, 1), (1, .istore_n 3, 1), (2, .iload_n 3, 1), (3, .bipush 10, 2), (5, .if_icmp .ge 56, 3), (8, .iconst 0, 1), (9, .istore 4, 2), (11, .iload 4, 2), (13, .iconst 1, 1), (14, .iload_n 3, 1), (15, .ishl, 1), (16, .if_icmp .ge 39, 3), (19, .aload_n 0, 1), (20, .getfield 21, 3), (23, .iload 4, 2), (25, .iconst 1, 1), (26, .iload_n 3, 1), (27, .ishl, 1), (28, .ior, 1), (29, .aload_n 0, 1), (30, .getfield 21, 3), (33, .iload 4, 2), (35, .iaload, 1), (36, .aload_n 0, 1), (37, .getfield 15, 3), (40, .iload_n 1, 1), (41, .bipush 10, 2), (43, .imul, 1), (44, .iload_n 3, 1), (45, .iadd, 1), (46, .iaload, 1), (47, .iadd, 1), (48, .iastore, 1), (49, .iinc 4 1, 3), (52, .goto (-41), 3), (55, .iinc 3 1, 3), (58, .goto (-56), 3), (61, .iconst (-1), 1), (62, .istore_n 3, 1), (63, .iconst 0, 1)]
theorem zhX1_fewest_0 : zd_chk (cX1_fewest.data.toList.drop 0) 0 ziX1_fewest_0 = true := by decide +kernel
theorem dX1_fewest_0 : decode cX1_fewest 0 = .ok (.iconst 0, 1) := zd_at zhX1_fewest_0 0 rfl
theorem dX1_fewest_1 : decode cX1_fewest 1 = .ok (.istore_n 3, 1) := zd_at zhX1_fewest_0 1 rfl
theorem dX1_fewest_2 : decode cX1_fewest 2 = .ok (.iload_n 3, 1) := zd_at zhX1_fewest_0 2 rfl
theorem dX1_fewest_3 : decode cX1_fewest 3 = .ok (.bipush 10, 2) := zd_at zhX1_fewest_0 3 rfl
theorem dX1_fewest_5 : decode cX1_fewest 5 = .ok (.if_icmp .ge 56, 3) := zd_at zhX1_fewest_0 4 rfl
theorem dX1_fewest_8 : decode cX1_fewest 8 = .ok (.iconst 0, 1) := zd_at zhX1_fewest_0 5 rfl
theorem dX1_fewest_9 : decode cX1_fewest 9 = .ok (.istore 4, 2) := zd_at zhX1_fewest_0 6 rfl
theorem dX1_fewest_11 : decode cX1_fewest 11 = .ok (.iload 4, 2) := zd_at zhX1_fewest_0 7 rfl
theorem dX1_fewest_13 : decode cX1_fewest 13 = .ok (.iconst 1, 1) := zd_at zhX1_fewest_0 8 rfl
theorem dX1_fewest_14 : decode cX1_fewest 14 = .ok (.iload_n 3, 1) := zd_at zhX1_fewest_0 9 rfl
theorem dX1_fewest_15 : decode cX1_fewest 15 = .ok (.ishl, 1) := zd_at zhX1_fewest_0 10 rfl
theorem dX1_fewest_16 : decode cX1_fewest 16 = .ok (.if_icmp .ge 39, 3) := zd_at zhX1_fewest_0 11 rfl
theorem dX1_fewest_19 : decode cX1_fewest 19 = .ok (.aload_n 0, 1) := zd_at zhX1_fewest_0 12 rfl
theorem dX1_fewest_20 : decode cX1_fewest 20 = .ok (.getfield 21, 3) := zd_at zhX1_fewest_0 13 rfl
theorem dX1_fewest_23 : decode cX1_fewest 23 = .ok (.iload 4, 2) := zd_at zhX1_fewest_0 14 rfl
theorem dX1_fewest_25 : decode cX1_fewest 25 = .ok (.iconst 1, 1) := zd_at zhX1_fewest_0 15 rfl
theorem dX1_fewest_26 : decode cX1_fewest 26 = .ok (.iload_n 3, 1) := zd_at zhX1_fewest_0 16 rfl
theorem dX1_fewest_27 : decode cX1_fewest 27 = .ok (.ishl, 1) := zd_at zhX1_fewest_0 17 rfl
theorem dX1_fewest_28 : decode cX1_fewest 28 = .ok (.ior, 1) := zd_at zhX1_fewest_0 18 rfl
theorem dX1_fewest_29 : decode cX1_fewest 29 = .ok (.aload_n 0, 1) := zd_at zhX1_fewest_0 19 rfl
theorem dX1_fewest_30 : decode cX1_fewest 30 = .ok (.getfield 21, 3) := zd_at zhX1_fewest_0 20 rfl
theorem dX1_fewest_33 : decode cX1_fewest 33 = .ok (.iload 4, 2) := zd_at zhX1_fewest_0 21 rfl
theorem dX1_fewest_35 : decode cX1_fewest 35 = .ok (.iaload, 1) := zd_at zhX1_fewest_0 22 rfl
theorem dX1_fewest_36 : decode cX1_fewest 36 = .ok (.aload_n 0, 1) := zd_at zhX1_fewest_0 23 rfl
theorem dX1_fewest_37 : decode cX1_fewest 37 = .ok (.getfield 15, 3) := zd_at zhX1_fewest_0 24 rfl
theorem dX1_fewest_40 : decode cX1_fewest 40 = .ok (.iload_n 1, 1) := zd_at zhX1_fewest_0 25 rfl
theorem dX1_fewest_41 : decode cX1_fewest 41 = .ok (.bipush 10, 2) := zd_at zhX1_fewest_0 26 rfl
theorem dX1_fewest_43 : decode cX1_fewest 43 = .ok (.imul, 1) := zd_at zhX1_fewest_0 27 rfl
theorem dX1_fewest_44 : decode cX1_fewest 44 = .ok (.iload_n 3, 1) := zd_at zhX1_fewest_0 28 rfl
theorem dX1_fewest_45 : decode cX1_fewest 45 = .ok (.iadd, 1) := zd_at zhX1_fewest_0 29 rfl
theorem dX1_fewest_46 : decode cX1_fewest 46 = .ok (.iaload, 1) := zd_at zhX1_fewest_0 30 rfl
theorem dX1_fewest_47 : decode cX1_fewest 47 = .ok (.iadd, 1) := zd_at zhX1_fewest_0 31 rfl
theorem dX1_fewest_48 : decode cX1_fewest 48 = .ok (.iastore, 1) := zd_at zhX1_fewest_0 32 rfl
theorem dX1_fewest_49 : decode cX1_fewest 49 = .ok (.iinc 4 1, 3) := zd_at zhX1_fewest_0 33 rfl
theorem dX1_fewest_52 : decode cX1_fewest 52 = .ok (.goto (-41), 3) := zd_at zhX1_fewest_0 34 rfl
theorem dX1_fewest_55 : decode cX1_fewest 55 = .ok (.iinc 3 1, 3) := zd_at zhX1_fewest_0 35 rfl
theorem dX1_fewest_58 : decode cX1_fewest 58 = .ok (.goto (-56), 3) := zd_at zhX1_fewest_0 36 rfl
theorem dX1_fewest_61 : decode cX1_fewest 61 = .ok (.iconst (-1), 1) := zd_at zhX1_fewest_0 37 rfl
theorem dX1_fewest_62 : decode cX1_fewest 62 = .ok (.istore_n 3, 1) := zd_at zhX1_fewest_0 38 rfl
theorem dX1_fewest_63 : decode cX1_fewest 63 = .ok (.iconst 0, 1) := zd_at zhX1_fewest_0 39 rfl
def ziX1_fewest_64 : List (Nat × Instr × Nat) := [(64, .istore 4, 2), (66, .iload 4, 2), (68, .sipush 1024, 3), (71, .if_icmp .ge 48, 3), (74, .aload_n 0, 1), (75, .getfield 24, 3), (78, .aload_n 0, 1), (79, .getfield 21, 3), (82, .iload 4, 2), (84, .iaload, 1), (85, .isub, 1), (86, .iload_n 2, 1), (87, .if_icmp .le 6, 3), (90, .goto 23, 3), (93, .iload_n 3, 1), (94, .iconst (-1), 1), (95, .if_icmp .eq 15, 3), (98, .iload 4, 2), (100, .invokestatic 64, 3), (103, .iload_n 3, 1), (104, .invokestatic 64, 3), (107, .if_icmp .ge 6, 3), (110, .iload 4, 2), (112, .istore_n 3, 1), (113, .iinc 4 1, 3), (116, .goto (-50), 3), (119, .iload_n 3, 1), (120, .ireturn, 1)]
theorem zhX1_fewest_64 : zd_chk (cX1_fewest.data.toList.drop 64) 64 ziX1_fewest_64 = true := by decide +kernel
theorem dX1_fewest_64 : decode cX1_fewest 64 = .ok (.istore 4, 2) := zd_at zhX1_fewest_64 0 rfl
theorem dX1_fewest_66 : decode cX1_fewest 66 = .ok (.iload 4, 2) := zd_at zhX1_fewest_64 1 rfl
theorem dX1_fewest_68 : decode cX1_fewest 68 = .ok (.sipush 1024, 3) := zd_at zhX1_fewest_64 2 rfl
theorem dX1_fewest_71 : decode cX1_fewest 71 = .ok (.if_icmp .ge 48, 3) := zd_at zhX1_fewest_64 3 rfl
theorem dX1_fewest_74 : decode cX1_fewest 74 = .ok (.aload_n 0, 1) := zd_at zhX1_fewest_64 4 rfl
theorem dX1_fewest_75 : decode cX1_fewest 75 = .ok (.getfield 24, 3) := zd_at zhX1_fewest_64 5 rfl
theorem dX1_fewest_78 : decode cX1_fewest 78 = .ok (.aload_n 0, 1) := zd_at zhX1_fewest_64 6 rfl
theorem dX1_fewest_79 : decode cX1_fewest 79 = .ok (.getfield 21, 3) := zd_at zhX1_fewest_64 7 rfl
theorem dX1_fewest_82 : decode cX1_fewest 82 = .ok (.iload 4, 2) := zd_at zhX1_fewest_64 8 rfl
theorem dX1_fewest_84 : decode cX1_fewest 84 = .ok (.iaload, 1) := zd_at zhX1_fewest_64 9 rfl
theorem dX1_fewest_85 : decode cX1_fewest 85 = .ok (.isub, 1) := zd_at zhX1_fewest_64 10 rfl
theorem dX1_fewest_86 : decode cX1_fewest 86 = .ok (.iload_n 2, 1) := zd_at zhX1_fewest_64 11 rfl
theorem dX1_fewest_87 : decode cX1_fewest 87 = .ok (.if_icmp .le 6, 3) := zd_at zhX1_fewest_64 12 rfl
theorem dX1_fewest_90 : decode cX1_fewest 90 = .ok (.goto 23, 3) := zd_at zhX1_fewest_64 13 rfl
theorem dX1_fewest_93 : decode cX1_fewest 93 = .ok (.iload_n 3, 1) := zd_at zhX1_fewest_64 14 rfl
theorem dX1_fewest_94 : decode cX1_fewest 94 = .ok (.iconst (-1), 1) := zd_at zhX1_fewest_64 15 rfl
theorem dX1_fewest_95 : decode cX1_fewest 95 = .ok (.if_icmp .eq 15, 3) := zd_at zhX1_fewest_64 16 rfl
theorem dX1_fewest_98 : decode cX1_fewest 98 = .ok (.iload 4, 2) := zd_at zhX1_fewest_64 17 rfl
theorem dX1_fewest_100 : decode cX1_fewest 100 = .ok (.invokestatic 64, 3) := zd_at zhX1_fewest_64 18 rfl
theorem dX1_fewest_103 : decode cX1_fewest 103 = .ok (.iload_n 3, 1) := zd_at zhX1_fewest_64 19 rfl
theorem dX1_fewest_104 : decode cX1_fewest 104 = .ok (.invokestatic 64, 3) := zd_at zhX1_fewest_64 20 rfl
theorem dX1_fewest_107 : decode cX1_fewest 107 = .ok (.if_icmp .ge 6, 3) := zd_at zhX1_fewest_64 21 rfl
theorem dX1_fewest_110 : decode cX1_fewest 110 = .ok (.iload 4, 2) := zd_at zhX1_fewest_64 22 rfl
theorem dX1_fewest_112 : decode cX1_fewest 112 = .ok (.istore_n 3, 1) := zd_at zhX1_fewest_64 23 rfl
theorem dX1_fewest_113 : decode cX1_fewest 113 = .ok (.iinc 4 1, 3) := zd_at zhX1_fewest_64 24 rfl
theorem dX1_fewest_116 : decode cX1_fewest 116 = .ok (.goto (-50), 3) := zd_at zhX1_fewest_64 25 rfl
theorem dX1_fewest_119 : decode cX1_fewest 119 = .ok (.iload_n 3, 1) := zd_at zhX1_fewest_64 26 rfl
theorem dX1_fewest_120 : decode cX1_fewest 120 = .ok (.ireturn, 1) := zd_at zhX1_fewest_64 27 rfl
def ziX2_takes_0 : List (Nat × Instr × Nat) := [(0, .iload_n 0, 1)]
theorem zhX2_takes_0 : zd_chk (cX2_takes.data.toList.drop 0) 0 ziX2_takes_0 = true := by decide +kernel
theorem dX2_takes_0 : decode cX2_takes 0 = .ok (.iload_n 0, 1) := zd_at zhX2_takes_0 0 rfl
theorem dX2_takes_1 : decode cX2_takes 1 = .ok (.tableswitch 72 1 5 #[35, 72, 42, 59, 67], 35) := by decide +kernel
def ziX2_takes_36 : List (Nat × Instr × Nat) := [(36, .iload_n 1, 1), (37, .bipush 10, 2), (39, .irem, 1), (40, .iconst 2, 1), (41, .idiv, 1), (42, .ireturn, 1), (43, .iload_n 1, 1), (44, .iconst 2, 1), (45, .irem, 1), (46, .ifCond .eq 7, 3), (49, .iconst (-1), 1), (50, .goto 9, 3), (53, .iload_n 1, 1), (54, .bipush 10, 2), (56, .irem, 1), (57, .iconst 2, 1), (58, .idiv, 1), (59, .ireturn, 1), (60, .bipush 9, 2), (62, .iload_n 1, 1), (63, .bipush 10, 2), (65, .irem, 1), (66, .isub, 1), (67, .ireturn, 1), (68, .iload_n 1, 1), (69, .bipush 10, 2), (71, .idiv, 1), (72, .ireturn, 1), (73, .iload_n 1, 1), (74, .bipush 10, 2), (76, .irem, 1), (77, .ireturn, 1)]
theorem zhX2_takes_36 : zd_chk (cX2_takes.data.toList.drop 36) 36 ziX2_takes_36 = true := by decide +kernel
theorem dX2_takes_36 : decode cX2_takes 36 = .ok (.iload_n 1, 1) := zd_at zhX2_takes_36 0 rfl
theorem dX2_takes_37 : decode cX2_takes 37 = .ok (.bipush 10, 2) := zd_at zhX2_takes_36 1 rfl
theorem dX2_takes_39 : decode cX2_takes 39 = .ok (.irem, 1) := zd_at zhX2_takes_36 2 rfl
theorem dX2_takes_40 : decode cX2_takes 40 = .ok (.iconst 2, 1) := zd_at zhX2_takes_36 3 rfl
theorem dX2_takes_41 : decode cX2_takes 41 = .ok (.idiv, 1) := zd_at zhX2_takes_36 4 rfl
theorem dX2_takes_42 : decode cX2_takes 42 = .ok (.ireturn, 1) := zd_at zhX2_takes_36 5 rfl
theorem dX2_takes_43 : decode cX2_takes 43 = .ok (.iload_n 1, 1) := zd_at zhX2_takes_36 6 rfl
theorem dX2_takes_44 : decode cX2_takes 44 = .ok (.iconst 2, 1) := zd_at zhX2_takes_36 7 rfl
theorem dX2_takes_45 : decode cX2_takes 45 = .ok (.irem, 1) := zd_at zhX2_takes_36 8 rfl
theorem dX2_takes_46 : decode cX2_takes 46 = .ok (.ifCond .eq 7, 3) := zd_at zhX2_takes_36 9 rfl
theorem dX2_takes_49 : decode cX2_takes 49 = .ok (.iconst (-1), 1) := zd_at zhX2_takes_36 10 rfl
theorem dX2_takes_50 : decode cX2_takes 50 = .ok (.goto 9, 3) := zd_at zhX2_takes_36 11 rfl
theorem dX2_takes_53 : decode cX2_takes 53 = .ok (.iload_n 1, 1) := zd_at zhX2_takes_36 12 rfl
theorem dX2_takes_54 : decode cX2_takes 54 = .ok (.bipush 10, 2) := zd_at zhX2_takes_36 13 rfl
theorem dX2_takes_56 : decode cX2_takes 56 = .ok (.irem, 1) := zd_at zhX2_takes_36 14 rfl
theorem dX2_takes_57 : decode cX2_takes 57 = .ok (.iconst 2, 1) := zd_at zhX2_takes_36 15 rfl
theorem dX2_takes_58 : decode cX2_takes 58 = .ok (.idiv, 1) := zd_at zhX2_takes_36 16 rfl
theorem dX2_takes_59 : decode cX2_takes 59 = .ok (.ireturn, 1) := zd_at zhX2_takes_36 17 rfl
theorem dX2_takes_60 : decode cX2_takes 60 = .ok (.bipush 9, 2) := zd_at zhX2_takes_36 18 rfl
theorem dX2_takes_62 : decode cX2_takes 62 = .ok (.iload_n 1, 1) := zd_at zhX2_takes_36 19 rfl
theorem dX2_takes_63 : decode cX2_takes 63 = .ok (.bipush 10, 2) := zd_at zhX2_takes_36 20 rfl
theorem dX2_takes_65 : decode cX2_takes 65 = .ok (.irem, 1) := zd_at zhX2_takes_36 21 rfl
theorem dX2_takes_66 : decode cX2_takes 66 = .ok (.isub, 1) := zd_at zhX2_takes_36 22 rfl
theorem dX2_takes_67 : decode cX2_takes 67 = .ok (.ireturn, 1) := zd_at zhX2_takes_36 23 rfl
theorem dX2_takes_68 : decode cX2_takes 68 = .ok (.iload_n 1, 1) := zd_at zhX2_takes_36 24 rfl
theorem dX2_takes_69 : decode cX2_takes 69 = .ok (.bipush 10, 2) := zd_at zhX2_takes_36 25 rfl
theorem dX2_takes_71 : decode cX2_takes 71 = .ok (.idiv, 1) := zd_at zhX2_takes_36 26 rfl
theorem dX2_takes_72 : decode cX2_takes 72 = .ok (.ireturn, 1) := zd_at zhX2_takes_36 27 rfl
theorem dX2_takes_73 : decode cX2_takes 73 = .ok (.iload_n 1, 1) := zd_at zhX2_takes_36 28 rfl
theorem dX2_takes_74 : decode cX2_takes 74 = .ok (.bipush 10, 2) := zd_at zhX2_takes_36 29 rfl
theorem dX2_takes_76 : decode cX2_takes 76 = .ok (.irem, 1) := zd_at zhX2_takes_36 30 rfl
theorem dX2_takes_77 : decode cX2_takes 77 = .ok (.ireturn, 1) := zd_at zhX2_takes_36 31 rfl
def ziX2_holds_0 : List (Nat × Instr × Nat) := [(0, .iconst 1, 1), (1, .iload_n 0, 1), (2, .iload_n 1, 1), (3, .iload_n 2, 1), (4, .invokestatic 9, 3), (7, .invokestatic 15, 3), (10, .ireturn, 1)]
theorem zhX2_holds_0 : zd_chk (cX2_holds.data.toList.drop 0) 0 ziX2_holds_0 = true := by decide +kernel
theorem dX2_holds_0 : decode cX2_holds 0 = .ok (.iconst 1, 1) := zd_at zhX2_holds_0 0 rfl
theorem dX2_holds_1 : decode cX2_holds 1 = .ok (.iload_n 0, 1) := zd_at zhX2_holds_0 1 rfl
theorem dX2_holds_2 : decode cX2_holds 2 = .ok (.iload_n 1, 1) := zd_at zhX2_holds_0 2 rfl
theorem dX2_holds_3 : decode cX2_holds 3 = .ok (.iload_n 2, 1) := zd_at zhX2_holds_0 3 rfl
theorem dX2_holds_4 : decode cX2_holds 4 = .ok (.invokestatic 9, 3) := zd_at zhX2_holds_0 4 rfl
theorem dX2_holds_7 : decode cX2_holds 7 = .ok (.invokestatic 15, 3) := zd_at zhX2_holds_0 5 rfl
theorem dX2_holds_10 : decode cX2_holds 10 = .ok (.ireturn, 1) := zd_at zhX2_holds_0 6 rfl
def ziX2_heldFor_0 : List (Nat × Instr × Nat) := [(0, .iload_n 0, 1)]
theorem zhX2_heldFor_0 : zd_chk (cX2_heldFor.data.toList.drop 0) 0 ziX2_heldFor_0 = true := by decide +kernel
theorem dX2_heldFor_0 : decode cX2_heldFor 0 = .ok (.iload_n 0, 1) := zd_at zhX2_heldFor_0 0 rfl
theorem dX2_heldFor_1 : decode cX2_heldFor 1 = .ok (.tableswitch 60 1 5 #[35, 39, 43, 49, 53], 35) := by decide +kernel
def ziX2_heldFor_36 : List (Nat × Instr × Nat) := [(36, .iload_n 2, 1), (37, .iload_n 1, 1), (38, .iadd, 1), (39, .ireturn, 1), (40, .iload_n 2, 1), (41, .iconst 2, 1), (42, .idiv, 1), (43, .ireturn, 1), (44, .iload_n 2, 1), (45, .iload_n 1, 1), (46, .iadd, 1), (47, .iconst 3, 1), (48, .isub, 1), (49, .ireturn, 1), (50, .iload_n 2, 1), (51, .iconst 2, 1), (52, .idiv, 1), (53, .ireturn, 1), (54, .iload_n 2, 1), (55, .bipush 9, 2), (57, .invokestatic 21, 3), (60, .ireturn, 1), (61, .iload_n 2, 1), (62, .ireturn, 1)]
theorem zhX2_heldFor_36 : zd_chk (cX2_heldFor.data.toList.drop 36) 36 ziX2_heldFor_36 = true := by decide +kernel
theorem dX2_heldFor_36 : decode cX2_heldFor 36 = .ok (.iload_n 2, 1) := zd_at zhX2_heldFor_36 0 rfl
theorem dX2_heldFor_37 : decode cX2_heldFor 37 = .ok (.iload_n 1, 1) := zd_at zhX2_heldFor_36 1 rfl
theorem dX2_heldFor_38 : decode cX2_heldFor 38 = .ok (.iadd, 1) := zd_at zhX2_heldFor_36 2 rfl
theorem dX2_heldFor_39 : decode cX2_heldFor 39 = .ok (.ireturn, 1) := zd_at zhX2_heldFor_36 3 rfl
theorem dX2_heldFor_40 : decode cX2_heldFor 40 = .ok (.iload_n 2, 1) := zd_at zhX2_heldFor_36 4 rfl
theorem dX2_heldFor_41 : decode cX2_heldFor 41 = .ok (.iconst 2, 1) := zd_at zhX2_heldFor_36 5 rfl
theorem dX2_heldFor_42 : decode cX2_heldFor 42 = .ok (.idiv, 1) := zd_at zhX2_heldFor_36 6 rfl
theorem dX2_heldFor_43 : decode cX2_heldFor 43 = .ok (.ireturn, 1) := zd_at zhX2_heldFor_36 7 rfl
theorem dX2_heldFor_44 : decode cX2_heldFor 44 = .ok (.iload_n 2, 1) := zd_at zhX2_heldFor_36 8 rfl
theorem dX2_heldFor_45 : decode cX2_heldFor 45 = .ok (.iload_n 1, 1) := zd_at zhX2_heldFor_36 9 rfl
theorem dX2_heldFor_46 : decode cX2_heldFor 46 = .ok (.iadd, 1) := zd_at zhX2_heldFor_36 10 rfl
theorem dX2_heldFor_47 : decode cX2_heldFor 47 = .ok (.iconst 3, 1) := zd_at zhX2_heldFor_36 11 rfl
theorem dX2_heldFor_48 : decode cX2_heldFor 48 = .ok (.isub, 1) := zd_at zhX2_heldFor_36 12 rfl
theorem dX2_heldFor_49 : decode cX2_heldFor 49 = .ok (.ireturn, 1) := zd_at zhX2_heldFor_36 13 rfl
theorem dX2_heldFor_50 : decode cX2_heldFor 50 = .ok (.iload_n 2, 1) := zd_at zhX2_heldFor_36 14 rfl
theorem dX2_heldFor_51 : decode cX2_heldFor 51 = .ok (.iconst 2, 1) := zd_at zhX2_heldFor_36 15 rfl
theorem dX2_heldFor_52 : decode cX2_heldFor 52 = .ok (.idiv, 1) := zd_at zhX2_heldFor_36 16 rfl
theorem dX2_heldFor_53 : decode cX2_heldFor 53 = .ok (.ireturn, 1) := zd_at zhX2_heldFor_36 17 rfl
theorem dX2_heldFor_54 : decode cX2_heldFor 54 = .ok (.iload_n 2, 1) := zd_at zhX2_heldFor_36 18 rfl
theorem dX2_heldFor_55 : decode cX2_heldFor 55 = .ok (.bipush 9, 2) := zd_at zhX2_heldFor_36 19 rfl
theorem dX2_heldFor_57 : decode cX2_heldFor 57 = .ok (.invokestatic 21, 3) := zd_at zhX2_heldFor_36 20 rfl
theorem dX2_heldFor_60 : decode cX2_heldFor 60 = .ok (.ireturn, 1) := zd_at zhX2_heldFor_36 21 rfl
theorem dX2_heldFor_61 : decode cX2_heldFor 61 = .ok (.iload_n 2, 1) := zd_at zhX2_heldFor_36 22 rfl
theorem dX2_heldFor_62 : decode cX2_heldFor 62 = .ok (.ireturn, 1) := zd_at zhX2_heldFor_36 23 rfl
def ziX2_bears_0 : List (Nat × Instr × Nat) := [(0, .iload_n 3, 1), (1, .ifCond .eq 9, 3), (4, .iconst 2, 1), (5, .iload_n 2, 1), (6, .imul, 1), (7, .goto 4, 3), (10, .iload_n 2, 1), (11, .istore 4, 2), (13, .iload_n 0, 1)]
theorem zhX2_bears_0 : zd_chk (cX2_bears.data.toList.drop 0) 0 ziX2_bears_0 = true := by decide +kernel
theorem dX2_bears_0 : decode cX2_bears 0 = .ok (.iload_n 3, 1) := zd_at zhX2_bears_0 0 rfl
theorem dX2_bears_1 : decode cX2_bears 1 = .ok (.ifCond .eq 9, 3) := zd_at zhX2_bears_0 1 rfl
theorem dX2_bears_4 : decode cX2_bears 4 = .ok (.iconst 2, 1) := zd_at zhX2_bears_0 2 rfl
theorem dX2_bears_5 : decode cX2_bears 5 = .ok (.iload_n 2, 1) := zd_at zhX2_bears_0 3 rfl
theorem dX2_bears_6 : decode cX2_bears 6 = .ok (.imul, 1) := zd_at zhX2_bears_0 4 rfl
theorem dX2_bears_7 : decode cX2_bears 7 = .ok (.goto 4, 3) := zd_at zhX2_bears_0 5 rfl
theorem dX2_bears_10 : decode cX2_bears 10 = .ok (.iload_n 2, 1) := zd_at zhX2_bears_0 6 rfl
theorem dX2_bears_11 : decode cX2_bears 11 = .ok (.istore 4, 2) := zd_at zhX2_bears_0 7 rfl
theorem dX2_bears_13 : decode cX2_bears 13 = .ok (.iload_n 0, 1) := zd_at zhX2_bears_0 8 rfl
theorem dX2_bears_14 : decode cX2_bears 14 = .ok (.tableswitch 55 2 5 #[30, 55, 35, 53], 30) := by decide +kernel
def ziX2_bears_44 : List (Nat × Instr × Nat) := [(44, .iload 4, 2), (46, .iload_n 1, 1), (47, .iadd, 1), (48, .ireturn, 1), (49, .iload_n 3, 1), (50, .ifCond .eq 12, 3), (53, .iconst 3, 1), (54, .iload 4, 2), (56, .iload_n 1, 1), (57, .iadd, 1), (58, .imul, 1), (59, .goto 7, 3), (62, .iload 4, 2), (64, .iload_n 1, 1), (65, .iadd, 1), (66, .ireturn, 1), (67, .iconst 0, 1), (68, .ireturn, 1), (69, .iload 4, 2), (71, .ireturn, 1)]
theorem zhX2_bears_44 : zd_chk (cX2_bears.data.toList.drop 44) 44 ziX2_bears_44 = true := by decide +kernel
theorem dX2_bears_44 : decode cX2_bears 44 = .ok (.iload 4, 2) := zd_at zhX2_bears_44 0 rfl
theorem dX2_bears_46 : decode cX2_bears 46 = .ok (.iload_n 1, 1) := zd_at zhX2_bears_44 1 rfl
theorem dX2_bears_47 : decode cX2_bears 47 = .ok (.iadd, 1) := zd_at zhX2_bears_44 2 rfl
theorem dX2_bears_48 : decode cX2_bears 48 = .ok (.ireturn, 1) := zd_at zhX2_bears_44 3 rfl
theorem dX2_bears_49 : decode cX2_bears 49 = .ok (.iload_n 3, 1) := zd_at zhX2_bears_44 4 rfl
theorem dX2_bears_50 : decode cX2_bears 50 = .ok (.ifCond .eq 12, 3) := zd_at zhX2_bears_44 5 rfl
theorem dX2_bears_53 : decode cX2_bears 53 = .ok (.iconst 3, 1) := zd_at zhX2_bears_44 6 rfl
theorem dX2_bears_54 : decode cX2_bears 54 = .ok (.iload 4, 2) := zd_at zhX2_bears_44 7 rfl
theorem dX2_bears_56 : decode cX2_bears 56 = .ok (.iload_n 1, 1) := zd_at zhX2_bears_44 8 rfl
theorem dX2_bears_57 : decode cX2_bears 57 = .ok (.iadd, 1) := zd_at zhX2_bears_44 9 rfl
theorem dX2_bears_58 : decode cX2_bears 58 = .ok (.imul, 1) := zd_at zhX2_bears_44 10 rfl
theorem dX2_bears_59 : decode cX2_bears 59 = .ok (.goto 7, 3) := zd_at zhX2_bears_44 11 rfl
theorem dX2_bears_62 : decode cX2_bears 62 = .ok (.iload 4, 2) := zd_at zhX2_bears_44 12 rfl
theorem dX2_bears_64 : decode cX2_bears 64 = .ok (.iload_n 1, 1) := zd_at zhX2_bears_44 13 rfl
theorem dX2_bears_65 : decode cX2_bears 65 = .ok (.iadd, 1) := zd_at zhX2_bears_44 14 rfl
theorem dX2_bears_66 : decode cX2_bears 66 = .ok (.ireturn, 1) := zd_at zhX2_bears_44 15 rfl
theorem dX2_bears_67 : decode cX2_bears 67 = .ok (.iconst 0, 1) := zd_at zhX2_bears_44 16 rfl
theorem dX2_bears_68 : decode cX2_bears 68 = .ok (.ireturn, 1) := zd_at zhX2_bears_44 17 rfl
theorem dX2_bears_69 : decode cX2_bears 69 = .ok (.iload 4, 2) := zd_at zhX2_bears_44 18 rfl
theorem dX2_bears_71 : decode cX2_bears 71 = .ok (.ireturn, 1) := zd_at zhX2_bears_44 19 rfl
def ziX2_isUnder_0 : List (Nat × Instr × Nat) := [(0, .iload_n 0, 1), (1, .istore_n 2, 1), (2, .iconst 0, 1), (3, .istore_n 3, 1), (4, .iload_n 3, 1), (5, .bipush 6, 2), (7, .if_icmp .ge 26, 3), (10, .iload_n 2, 1), (11, .iconst (-1), 1), (12, .if_icmp .eq 21, 3), (15, .iload_n 2, 1), (16, .iload_n 1, 1), (17, .if_icmp .ne 5, 3), (20, .iconst 1, 1), (21, .ireturn, 1), (22, .iload_n 2, 1), (23, .invokestatic 24, 3), (26, .istore_n 2, 1), (27, .iinc 3 1, 3), (30, .goto (-26), 3), (33, .iconst 0, 1), (34, .ireturn, 1)]
theorem zhX2_isUnder_0 : zd_chk (cX2_isUnder.data.toList.drop 0) 0 ziX2_isUnder_0 = true := by decide +kernel
theorem dX2_isUnder_0 : decode cX2_isUnder 0 = .ok (.iload_n 0, 1) := zd_at zhX2_isUnder_0 0 rfl
theorem dX2_isUnder_1 : decode cX2_isUnder 1 = .ok (.istore_n 2, 1) := zd_at zhX2_isUnder_0 1 rfl
theorem dX2_isUnder_2 : decode cX2_isUnder 2 = .ok (.iconst 0, 1) := zd_at zhX2_isUnder_0 2 rfl
theorem dX2_isUnder_3 : decode cX2_isUnder 3 = .ok (.istore_n 3, 1) := zd_at zhX2_isUnder_0 3 rfl
theorem dX2_isUnder_4 : decode cX2_isUnder 4 = .ok (.iload_n 3, 1) := zd_at zhX2_isUnder_0 4 rfl
theorem dX2_isUnder_5 : decode cX2_isUnder 5 = .ok (.bipush 6, 2) := zd_at zhX2_isUnder_0 5 rfl
theorem dX2_isUnder_7 : decode cX2_isUnder 7 = .ok (.if_icmp .ge 26, 3) := zd_at zhX2_isUnder_0 6 rfl
theorem dX2_isUnder_10 : decode cX2_isUnder 10 = .ok (.iload_n 2, 1) := zd_at zhX2_isUnder_0 7 rfl
theorem dX2_isUnder_11 : decode cX2_isUnder 11 = .ok (.iconst (-1), 1) := zd_at zhX2_isUnder_0 8 rfl
theorem dX2_isUnder_12 : decode cX2_isUnder 12 = .ok (.if_icmp .eq 21, 3) := zd_at zhX2_isUnder_0 9 rfl
theorem dX2_isUnder_15 : decode cX2_isUnder 15 = .ok (.iload_n 2, 1) := zd_at zhX2_isUnder_0 10 rfl
theorem dX2_isUnder_16 : decode cX2_isUnder 16 = .ok (.iload_n 1, 1) := zd_at zhX2_isUnder_0 11 rfl
theorem dX2_isUnder_17 : decode cX2_isUnder 17 = .ok (.if_icmp .ne 5, 3) := zd_at zhX2_isUnder_0 12 rfl
theorem dX2_isUnder_20 : decode cX2_isUnder 20 = .ok (.iconst 1, 1) := zd_at zhX2_isUnder_0 13 rfl
theorem dX2_isUnder_21 : decode cX2_isUnder 21 = .ok (.ireturn, 1) := zd_at zhX2_isUnder_0 14 rfl
theorem dX2_isUnder_22 : decode cX2_isUnder 22 = .ok (.iload_n 2, 1) := zd_at zhX2_isUnder_0 15 rfl
theorem dX2_isUnder_23 : decode cX2_isUnder 23 = .ok (.invokestatic 24, 3) := zd_at zhX2_isUnder_0 16 rfl
theorem dX2_isUnder_26 : decode cX2_isUnder 26 = .ok (.istore_n 2, 1) := zd_at zhX2_isUnder_0 17 rfl
theorem dX2_isUnder_27 : decode cX2_isUnder 27 = .ok (.iinc 3 1, 3) := zd_at zhX2_isUnder_0 18 rfl
theorem dX2_isUnder_30 : decode cX2_isUnder 30 = .ok (.goto (-26), 3) := zd_at zhX2_isUnder_0 19 rfl
theorem dX2_isUnder_33 : decode cX2_isUnder 33 = .ok (.iconst 0, 1) := zd_at zhX2_isUnder_0 20 rfl
theorem dX2_isUnder_34 : decode cX2_isUnder 34 = .ok (.ireturn, 1) := zd_at zhX2_isUnder_0 21 rfl
def ziX2_above_0 : List (Nat × Instr × Nat) := [(0, .iload_n 0, 1)]
theorem zhX2_above_0 : zd_chk (cX2_above.data.toList.drop 0) 0 ziX2_above_0 = true := by decide +kernel
theorem dX2_above_0 : decode cX2_above 0 = .ok (.iload_n 0, 1) := zd_at zhX2_above_0 0 rfl
theorem dX2_above_1 : decode cX2_above 1 = .ok (.tableswitch 45 1 5 #[35, 37, 39, 41, 43], 35) := by decide +kernel
def ziX2_above_36 : List (Nat × Instr × Nat) := [(36, .iconst 0, 1), (37, .ireturn, 1), (38, .iconst 0, 1), (39, .ireturn, 1), (40, .iconst 1, 1), (41, .ireturn, 1), (42, .iconst 2, 1), (43, .ireturn, 1), (44, .iconst 0, 1), (45, .ireturn, 1), (46, .iconst (-1), 1), (47, .ireturn, 1)]
theorem zhX2_above_36 : zd_chk (cX2_above.data.toList.drop 36) 36 ziX2_above_36 = true := by decide +kernel
theorem dX2_above_36 : decode cX2_above 36 = .ok (.iconst 0, 1) := zd_at zhX2_above_36 0 rfl
theorem dX2_above_37 : decode cX2_above 37 = .ok (.ireturn, 1) := zd_at zhX2_above_36 1 rfl
theorem dX2_above_38 : decode cX2_above 38 = .ok (.iconst 0, 1) := zd_at zhX2_above_36 2 rfl
theorem dX2_above_39 : decode cX2_above 39 = .ok (.ireturn, 1) := zd_at zhX2_above_36 3 rfl
theorem dX2_above_40 : decode cX2_above 40 = .ok (.iconst 1, 1) := zd_at zhX2_above_36 4 rfl
theorem dX2_above_41 : decode cX2_above 41 = .ok (.ireturn, 1) := zd_at zhX2_above_36 5 rfl
theorem dX2_above_42 : decode cX2_above 42 = .ok (.iconst 2, 1) := zd_at zhX2_above_36 6 rfl
theorem dX2_above_43 : decode cX2_above 43 = .ok (.ireturn, 1) := zd_at zhX2_above_36 7 rfl
theorem dX2_above_44 : decode cX2_above 44 = .ok (.iconst 0, 1) := zd_at zhX2_above_36 8 rfl
theorem dX2_above_45 : decode cX2_above 45 = .ok (.ireturn, 1) := zd_at zhX2_above_36 9 rfl
theorem dX2_above_46 : decode cX2_above 46 = .ok (.iconst (-1), 1) := zd_at zhX2_above_36 10 rfl
theorem dX2_above_47 : decode cX2_above 47 = .ok (.ireturn, 1) := zd_at zhX2_above_36 11 rfl
def ziX3_init_0 : List (Nat × Instr × Nat) := [(0, .aload_n 0, 1), (1, .invokespecial 3, 3), (4, .aload_n 0, 1), (5, .bipush 10, 2)]
theorem zhX3_init_0 : zd_chk (cX3_init.data.toList.drop 0) 0 ziX3_init_0 = true := by decide +kernel
theorem dX3_init_0 : decode cX3_init 0 = .ok (.aload_n 0, 1) := zd_at zhX3_init_0 0 rfl
theorem dX3_init_1 : decode cX3_init 1 = .ok (.invokespecial 3, 3) := zd_at zhX3_init_0 1 rfl
theorem dX3_init_4 : decode cX3_init 4 = .ok (.aload_n 0, 1) := zd_at zhX3_init_0 2 rfl
theorem dX3_init_5 : decode cX3_init 5 = .ok (.bipush 10, 2) := zd_at zhX3_init_0 3 rfl
theorem dX3_init_7 : decode cX3_init 7 = .ok (.newarray .int, 2) := by decide +kernel
def ziX3_init_9 : List (Nat × Instr × Nat) := [(9, .putfield 9, 3), (12, .aload_n 0, 1), (13, .bipush 10, 2)]
theorem zhX3_init_9 : zd_chk (cX3_init.data.toList.drop 9) 9 ziX3_init_9 = true := by decide +kernel
theorem dX3_init_9 : decode cX3_init 9 = .ok (.putfield 9, 3) := zd_at zhX3_init_9 0 rfl
theorem dX3_init_12 : decode cX3_init 12 = .ok (.aload_n 0, 1) := zd_at zhX3_init_9 1 rfl
theorem dX3_init_13 : decode cX3_init 13 = .ok (.bipush 10, 2) := zd_at zhX3_init_9 2 rfl
theorem dX3_init_15 : decode cX3_init 15 = .ok (.newarray .int, 2) := by decide +kernel
def ziX3_init_17 : List (Nat × Instr × Nat) := [(17, .putfield 15, 3), (20, .return_, 1)]
theorem zhX3_init_17 : zd_chk (cX3_init.data.toList.drop 17) 17 ziX3_init_17 = true := by decide +kernel
theorem dX3_init_17 : decode cX3_init 17 = .ok (.putfield 15, 3) := zd_at zhX3_init_17 0 rfl
theorem dX3_init_20 : decode cX3_init 20 = .ok (.return_, 1) := zd_at zhX3_init_17 1 rfl
def ziX3_become_0 : List (Nat × Instr × Nat) := [(0, .aload_n 0, 1), (1, .aload_n 1, 1), (2, .getfield 18, 3), (5, .putfield 18, 3), (8, .aload_n 0, 1), (9, .aload_n 1, 1), (10, .getfield 22, 3), (13, .putfield 22, 3), (16, .aload_n 1, 1), (17, .getfield 9, 3), (20, .iconst 0, 1), (21, .aload_n 0, 1), (22, .getfield 9, 3), (25, .iconst 0, 1), (26, .bipush 10, 2), (28, .invokestatic 25, 3), (31, .aload_n 1, 1), (32, .getfield 15, 3), (35, .iconst 0, 1), (36, .aload_n 0, 1), (37, .getfield 15, 3), (40, .iconst 0, 1), (41, .bipush 10, 2), (43, .invokestatic 25, 3), (46, .return_, 1)]
theorem zhX3_become_0 : zd_chk (cX3_become.data.toList.drop 0) 0 ziX3_become_0 = true := by decide +kernel
theorem dX3_become_0 : decode cX3_become 0 = .ok (.aload_n 0, 1) := zd_at zhX3_become_0 0 rfl
theorem dX3_become_1 : decode cX3_become 1 = .ok (.aload_n 1, 1) := zd_at zhX3_become_0 1 rfl
theorem dX3_become_2 : decode cX3_become 2 = .ok (.getfield 18, 3) := zd_at zhX3_become_0 2 rfl
theorem dX3_become_5 : decode cX3_become 5 = .ok (.putfield 18, 3) := zd_at zhX3_become_0 3 rfl
theorem dX3_become_8 : decode cX3_become 8 = .ok (.aload_n 0, 1) := zd_at zhX3_become_0 4 rfl
theorem dX3_become_9 : decode cX3_become 9 = .ok (.aload_n 1, 1) := zd_at zhX3_become_0 5 rfl
theorem dX3_become_10 : decode cX3_become 10 = .ok (.getfield 22, 3) := zd_at zhX3_become_0 6 rfl
theorem dX3_become_13 : decode cX3_become 13 = .ok (.putfield 22, 3) := zd_at zhX3_become_0 7 rfl
theorem dX3_become_16 : decode cX3_become 16 = .ok (.aload_n 1, 1) := zd_at zhX3_become_0 8 rfl
theorem dX3_become_17 : decode cX3_become 17 = .ok (.getfield 9, 3) := zd_at zhX3_become_0 9 rfl
theorem dX3_become_20 : decode cX3_become 20 = .ok (.iconst 0, 1) := zd_at zhX3_become_0 10 rfl
theorem dX3_become_21 : decode cX3_become 21 = .ok (.aload_n 0, 1) := zd_at zhX3_become_0 11 rfl
theorem dX3_become_22 : decode cX3_become 22 = .ok (.getfield 9, 3) := zd_at zhX3_become_0 12 rfl
theorem dX3_become_25 : decode cX3_become 25 = .ok (.iconst 0, 1) := zd_at zhX3_become_0 13 rfl
theorem dX3_become_26 : decode cX3_become 26 = .ok (.bipush 10, 2) := zd_at zhX3_become_0 14 rfl
theorem dX3_become_28 : decode cX3_become 28 = .ok (.invokestatic 25, 3) := zd_at zhX3_become_0 15 rfl
theorem dX3_become_31 : decode cX3_become 31 = .ok (.aload_n 1, 1) := zd_at zhX3_become_0 16 rfl
theorem dX3_become_32 : decode cX3_become 32 = .ok (.getfield 15, 3) := zd_at zhX3_become_0 17 rfl
theorem dX3_become_35 : decode cX3_become 35 = .ok (.iconst 0, 1) := zd_at zhX3_become_0 18 rfl
theorem dX3_become_36 : decode cX3_become 36 = .ok (.aload_n 0, 1) := zd_at zhX3_become_0 19 rfl
theorem dX3_become_37 : decode cX3_become 37 = .ok (.getfield 15, 3) := zd_at zhX3_become_0 20 rfl
theorem dX3_become_40 : decode cX3_become 40 = .ok (.iconst 0, 1) := zd_at zhX3_become_0 21 rfl
theorem dX3_become_41 : decode cX3_become 41 = .ok (.bipush 10, 2) := zd_at zhX3_become_0 22 rfl
theorem dX3_become_43 : decode cX3_become 43 = .ok (.invokestatic 25, 3) := zd_at zhX3_become_0 23 rfl
theorem dX3_become_46 : decode cX3_become 46 = .ok (.return_, 1) := zd_at zhX3_become_0 24 rfl
def ziX3_empty_0 : List (Nat × Instr × Nat) := [(0, .aload_n 0, 1), (1, .getfield 9, 3), (4, .iload_n 1, 1), (5, .iaload, 1), (6, .istore_n 2, 1), (7, .aload_n 0, 1), (8, .getfield 9, 3), (11, .iload_n 1, 1), (12, .iconst (-1), 1), (13, .iastore, 1), (14, .iload_n 2, 1), (15, .ireturn, 1)]
theorem zhX3_empty_0 : zd_chk (cX3_empty.data.toList.drop 0) 0 ziX3_empty_0 = true := by decide +kernel
theorem dX3_empty_0 : decode cX3_empty 0 = .ok (.aload_n 0, 1) := zd_at zhX3_empty_0 0 rfl
theorem dX3_empty_1 : decode cX3_empty 1 = .ok (.getfield 9, 3) := zd_at zhX3_empty_0 1 rfl
theorem dX3_empty_4 : decode cX3_empty 4 = .ok (.iload_n 1, 1) := zd_at zhX3_empty_0 2 rfl
theorem dX3_empty_5 : decode cX3_empty 5 = .ok (.iaload, 1) := zd_at zhX3_empty_0 3 rfl
theorem dX3_empty_6 : decode cX3_empty 6 = .ok (.istore_n 2, 1) := zd_at zhX3_empty_0 4 rfl
theorem dX3_empty_7 : decode cX3_empty 7 = .ok (.aload_n 0, 1) := zd_at zhX3_empty_0 5 rfl
theorem dX3_empty_8 : decode cX3_empty 8 = .ok (.getfield 9, 3) := zd_at zhX3_empty_0 6 rfl
theorem dX3_empty_11 : decode cX3_empty 11 = .ok (.iload_n 1, 1) := zd_at zhX3_empty_0 7 rfl
theorem dX3_empty_12 : decode cX3_empty 12 = .ok (.iconst (-1), 1) := zd_at zhX3_empty_0 8 rfl
theorem dX3_empty_13 : decode cX3_empty 13 = .ok (.iastore, 1) := zd_at zhX3_empty_0 9 rfl
theorem dX3_empty_14 : decode cX3_empty 14 = .ok (.iload_n 2, 1) := zd_at zhX3_empty_0 10 rfl
theorem dX3_empty_15 : decode cX3_empty 15 = .ok (.ireturn, 1) := zd_at zhX3_empty_0 11 rfl
def ziX3_stuckInAll_0 : List (Nat × Instr × Nat) := [(0, .iconst 0, 1), (1, .istore_n 1, 1), (2, .iconst 0, 1), (3, .istore_n 2, 1), (4, .iload_n 2, 1), (5, .bipush 10, 2), (7, .if_icmp .ge 22, 3), (10, .aload_n 0, 1), (11, .getfield 9, 3), (14, .iload_n 2, 1), (15, .iaload, 1), (16, .iconst (-1), 1), (17, .if_icmp .eq 6, 3), (20, .iinc 1 1, 3), (23, .iinc 2 1, 3), (26, .goto (-22), 3), (29, .iload_n 1, 1), (30, .ireturn, 1)]
theorem zhX3_stuckInAll_0 : zd_chk (cX3_stuckInAll.data.toList.drop 0) 0 ziX3_stuckInAll_0 = true := by decide +kernel
theorem dX3_stuckInAll_0 : decode cX3_stuckInAll 0 = .ok (.iconst 0, 1) := zd_at zhX3_stuckInAll_0 0 rfl
theorem dX3_stuckInAll_1 : decode cX3_stuckInAll 1 = .ok (.istore_n 1, 1) := zd_at zhX3_stuckInAll_0 1 rfl
theorem dX3_stuckInAll_2 : decode cX3_stuckInAll 2 = .ok (.iconst 0, 1) := zd_at zhX3_stuckInAll_0 2 rfl
theorem dX3_stuckInAll_3 : decode cX3_stuckInAll 3 = .ok (.istore_n 2, 1) := zd_at zhX3_stuckInAll_0 3 rfl
theorem dX3_stuckInAll_4 : decode cX3_stuckInAll 4 = .ok (.iload_n 2, 1) := zd_at zhX3_stuckInAll_0 4 rfl
theorem dX3_stuckInAll_5 : decode cX3_stuckInAll 5 = .ok (.bipush 10, 2) := zd_at zhX3_stuckInAll_0 5 rfl
theorem dX3_stuckInAll_7 : decode cX3_stuckInAll 7 = .ok (.if_icmp .ge 22, 3) := zd_at zhX3_stuckInAll_0 6 rfl
theorem dX3_stuckInAll_10 : decode cX3_stuckInAll 10 = .ok (.aload_n 0, 1) := zd_at zhX3_stuckInAll_0 7 rfl
theorem dX3_stuckInAll_11 : decode cX3_stuckInAll 11 = .ok (.getfield 9, 3) := zd_at zhX3_stuckInAll_0 8 rfl
theorem dX3_stuckInAll_14 : decode cX3_stuckInAll 14 = .ok (.iload_n 2, 1) := zd_at zhX3_stuckInAll_0 9 rfl
theorem dX3_stuckInAll_15 : decode cX3_stuckInAll 15 = .ok (.iaload, 1) := zd_at zhX3_stuckInAll_0 10 rfl
theorem dX3_stuckInAll_16 : decode cX3_stuckInAll 16 = .ok (.iconst (-1), 1) := zd_at zhX3_stuckInAll_0 11 rfl
theorem dX3_stuckInAll_17 : decode cX3_stuckInAll 17 = .ok (.if_icmp .eq 6, 3) := zd_at zhX3_stuckInAll_0 12 rfl
theorem dX3_stuckInAll_20 : decode cX3_stuckInAll 20 = .ok (.iinc 1 1, 3) := zd_at zhX3_stuckInAll_0 13 rfl
theorem dX3_stuckInAll_23 : decode cX3_stuckInAll 23 = .ok (.iinc 2 1, 3) := zd_at zhX3_stuckInAll_0 14 rfl
theorem dX3_stuckInAll_26 : decode cX3_stuckInAll 26 = .ok (.goto (-22), 3) := zd_at zhX3_stuckInAll_0 15 rfl
theorem dX3_stuckInAll_29 : decode cX3_stuckInAll 29 = .ok (.iload_n 1, 1) := zd_at zhX3_stuckInAll_0 16 rfl
theorem dX3_stuckInAll_30 : decode cX3_stuckInAll 30 = .ok (.ireturn, 1) := zd_at zhX3_stuckInAll_0 17 rfl
def ziX4_init_0 : List (Nat × Instr × Nat) := [(0, .aload_n 0, 1), (1, .invokespecial 3, 3), (4, .aload_n 0, 1), (5, .sipush 160, 3)]
theorem zhX4_init_0 : zd_chk (cX4_init.data.toList.drop 0) 0 ziX4_init_0 = true := by decide +kernel
theorem dX4_init_0 : decode cX4_init 0 = .ok (.aload_n 0, 1) := zd_at zhX4_init_0 0 rfl
theorem dX4_init_1 : decode cX4_init 1 = .ok (.invokespecial 3, 3) := zd_at zhX4_init_0 1 rfl
theorem dX4_init_4 : decode cX4_init 4 = .ok (.aload_n 0, 1) := zd_at zhX4_init_0 2 rfl
theorem dX4_init_5 : decode cX4_init 5 = .ok (.sipush 160, 3) := zd_at zhX4_init_0 3 rfl
theorem dX4_init_8 : decode cX4_init 8 = .ok (.newarray .int, 2) := by decide +kernel
def ziX4_init_10 : List (Nat × Instr × Nat) := [(10, .putfield 9, 3), (13, .aload_n 0, 1), (14, .aload_n 1, 1), (15, .putfield 15, 3), (18, .return_, 1)]
theorem zhX4_init_10 : zd_chk (cX4_init.data.toList.drop 10) 10 ziX4_init_10 = true := by decide +kernel
theorem dX4_init_10 : decode cX4_init 10 = .ok (.putfield 9, 3) := zd_at zhX4_init_10 0 rfl
theorem dX4_init_13 : decode cX4_init 13 = .ok (.aload_n 0, 1) := zd_at zhX4_init_10 1 rfl
theorem dX4_init_14 : decode cX4_init 14 = .ok (.aload_n 1, 1) := zd_at zhX4_init_10 2 rfl
theorem dX4_init_15 : decode cX4_init 15 = .ok (.putfield 15, 3) := zd_at zhX4_init_10 3 rfl
theorem dX4_init_18 : decode cX4_init 18 = .ok (.return_, 1) := zd_at zhX4_init_10 4 rfl
def ziX4_put_0 : List (Nat × Instr × Nat) := [(0, .aload_n 0, 1), (1, .getfield 19, 3), (4, .sipush 160, 3), (7, .if_icmp .ge 23, 3), (10, .aload_n 0, 1), (11, .getfield 9, 3), (14, .aload_n 0, 1), (15, .getfield 19, 3), (18, .iload_n 1, 1), (19, .iastore, 1), (20, .aload_n 0, 1), (21, .dup, 1), (22, .getfield 19, 3), (25, .iconst 1, 1), (26, .iadd, 1), (27, .putfield 19, 3), (30, .aload_n 0, 1), (31, .getfield 19, 3), (34, .ireturn, 1)]
theorem zhX4_put_0 : zd_chk (cX4_put.data.toList.drop 0) 0 ziX4_put_0 = true := by decide +kernel
theorem dX4_put_0 : decode cX4_put 0 = .ok (.aload_n 0, 1) := zd_at zhX4_put_0 0 rfl
theorem dX4_put_1 : decode cX4_put 1 = .ok (.getfield 19, 3) := zd_at zhX4_put_0 1 rfl
theorem dX4_put_4 : decode cX4_put 4 = .ok (.sipush 160, 3) := zd_at zhX4_put_0 2 rfl
theorem dX4_put_7 : decode cX4_put 7 = .ok (.if_icmp .ge 23, 3) := zd_at zhX4_put_0 3 rfl
theorem dX4_put_10 : decode cX4_put 10 = .ok (.aload_n 0, 1) := zd_at zhX4_put_0 4 rfl
theorem dX4_put_11 : decode cX4_put 11 = .ok (.getfield 9, 3) := zd_at zhX4_put_0 5 rfl
theorem dX4_put_14 : decode cX4_put 14 = .ok (.aload_n 0, 1) := zd_at zhX4_put_0 6 rfl
theorem dX4_put_15 : decode cX4_put 15 = .ok (.getfield 19, 3) := zd_at zhX4_put_0 7 rfl
theorem dX4_put_18 : decode cX4_put 18 = .ok (.iload_n 1, 1) := zd_at zhX4_put_0 8 rfl
theorem dX4_put_19 : decode cX4_put 19 = .ok (.iastore, 1) := zd_at zhX4_put_0 9 rfl
theorem dX4_put_20 : decode cX4_put 20 = .ok (.aload_n 0, 1) := zd_at zhX4_put_0 10 rfl
theorem dX4_put_21 : decode cX4_put 21 = .ok (.dup, 1) := zd_at zhX4_put_0 11 rfl
theorem dX4_put_22 : decode cX4_put 22 = .ok (.getfield 19, 3) := zd_at zhX4_put_0 12 rfl
theorem dX4_put_25 : decode cX4_put 25 = .ok (.iconst 1, 1) := zd_at zhX4_put_0 13 rfl
theorem dX4_put_26 : decode cX4_put 26 = .ok (.iadd, 1) := zd_at zhX4_put_0 14 rfl
theorem dX4_put_27 : decode cX4_put 27 = .ok (.putfield 19, 3) := zd_at zhX4_put_0 15 rfl
theorem dX4_put_30 : decode cX4_put 30 = .ok (.aload_n 0, 1) := zd_at zhX4_put_0 16 rfl
theorem dX4_put_31 : decode cX4_put 31 = .ok (.getfield 19, 3) := zd_at zhX4_put_0 17 rfl
theorem dX4_put_34 : decode cX4_put 34 = .ok (.ireturn, 1) := zd_at zhX4_put_0 18 rfl
def ziX4_read_0 : List (Nat × Instr × Nat) := [(0, .aload_n 0, 1), (1, .aload_n 1, 1), (2, .putfield 15, 3), (5, .aload_n 0, 1), (6, .getfield 15, 3), (9, .invokevirtual 23, 3), (12, .aload_n 0, 1), (13, .iconst (-1), 1), (14, .putfield 28, 3), (17, .aload_n 0, 1), (18, .iconst 0, 1), (19, .putfield 31, 3), (22, .aload_n 0, 1), (23, .invokevirtual 34, 3), (26, .iconst 0, 1), (27, .istore_n 2, 1), (28, .iload_n 2, 1), (29, .iconst 3, 1), (30, .if_icmp .ge 35, 3), (33, .aload_n 0, 1), (34, .iconst 4, 1), (35, .iload_n 2, 1), (36, .iadd, 1), (37, .invokevirtual 37, 3), (40, .aload_n 0, 1), (41, .iconst 0, 1), (42, .invokevirtual 41, 3), (45, .aload_n 0, 1), (46, .bipush 59, 2), (48, .invokevirtual 37, 3), (51, .aload_n 0, 1), (52, .getfield 15, 3), (55, .iload_n 2, 1), (56, .invokevirtual 44, 3), (59, .iinc 2 1, 3), (62, .goto (-34), 3), (65, .aload_n 0, 1), (66, .iconst 0, 1), (67, .invokevirtual 47, 3), (70, .ifCond .ne 7, 3)]
theorem zhX4_read_0 : zd_chk (cX4_read.data.toList.drop 0) 0 ziX4_read_0 = true := by decide +kernel
theorem dX4_read_0 : decode cX4_read 0 = .ok (.aload_n 0, 1) := zd_at zhX4_read_0 0 rfl
theorem dX4_read_1 : decode cX4_read 1 = .ok (.aload_n 1, 1) := zd_at zhX4_read_0 1 rfl
theorem dX4_read_2 : decode cX4_read 2 = .ok (.putfield 15, 3) := zd_at zhX4_read_0 2 rfl
theorem dX4_read_5 : decode cX4_read 5 = .ok (.aload_n 0, 1) := zd_at zhX4_read_0 3 rfl
theorem dX4_read_6 : decode cX4_read 6 = .ok (.getfield 15, 3) := zd_at zhX4_read_0 4 rfl
theorem dX4_read_9 : decode cX4_read 9 = .ok (.invokevirtual 23, 3) := zd_at zhX4_read_0 5 rfl
theorem dX4_read_12 : decode cX4_read 12 = .ok (.aload_n 0, 1) := zd_at zhX4_read_0 6 rfl
theorem dX4_read_13 : decode cX4_read 13 = .ok (.iconst (-1), 1) := zd_at zhX4_read_0 7 rfl
theorem dX4_read_14 : decode cX4_read 14 = .ok (.putfield 28, 3) := zd_at zhX4_read_0 8 rfl
theorem dX4_read_17 : decode cX4_read 17 = .ok (.aload_n 0, 1) := zd_at zhX4_read_0 9 rfl
theorem dX4_read_18 : decode cX4_read 18 = .ok (.iconst 0, 1) := zd_at zhX4_read_0 10 rfl
theorem dX4_read_19 : decode cX4_read 19 = .ok (.putfield 31, 3) := zd_at zhX4_read_0 11 rfl
theorem dX4_read_22 : decode cX4_read 22 = .ok (.aload_n 0, 1) := zd_at zhX4_read_0 12 rfl
theorem dX4_read_23 : decode cX4_read 23 = .ok (.invokevirtual 34, 3) := zd_at zhX4_read_0 13 rfl
theorem dX4_read_26 : decode cX4_read 26 = .ok (.iconst 0, 1) := zd_at zhX4_read_0 14 rfl
theorem dX4_read_27 : decode cX4_read 27 = .ok (.istore_n 2, 1) := zd_at zhX4_read_0 15 rfl
theorem dX4_read_28 : decode cX4_read 28 = .ok (.iload_n 2, 1) := zd_at zhX4_read_0 16 rfl
theorem dX4_read_29 : decode cX4_read 29 = .ok (.iconst 3, 1) := zd_at zhX4_read_0 17 rfl
theorem dX4_read_30 : decode cX4_read 30 = .ok (.if_icmp .ge 35, 3) := zd_at zhX4_read_0 18 rfl
theorem dX4_read_33 : decode cX4_read 33 = .ok (.aload_n 0, 1) := zd_at zhX4_read_0 19 rfl
theorem dX4_read_34 : decode cX4_read 34 = .ok (.iconst 4, 1) := zd_at zhX4_read_0 20 rfl
theorem dX4_read_35 : decode cX4_read 35 = .ok (.iload_n 2, 1) := zd_at zhX4_read_0 21 rfl
theorem dX4_read_36 : decode cX4_read 36 = .ok (.iadd, 1) := zd_at zhX4_read_0 22 rfl
theorem dX4_read_37 : decode cX4_read 37 = .ok (.invokevirtual 37, 3) := zd_at zhX4_read_0 23 rfl
theorem dX4_read_40 : decode cX4_read 40 = .ok (.aload_n 0, 1) := zd_at zhX4_read_0 24 rfl
theorem dX4_read_41 : decode cX4_read 41 = .ok (.iconst 0, 1) := zd_at zhX4_read_0 25 rfl
theorem dX4_read_42 : decode cX4_read 42 = .ok (.invokevirtual 41, 3) := zd_at zhX4_read_0 26 rfl
theorem dX4_read_45 : decode cX4_read 45 = .ok (.aload_n 0, 1) := zd_at zhX4_read_0 27 rfl
theorem dX4_read_46 : decode cX4_read 46 = .ok (.bipush 59, 2) := zd_at zhX4_read_0 28 rfl
theorem dX4_read_48 : decode cX4_read 48 = .ok (.invokevirtual 37, 3) := zd_at zhX4_read_0 29 rfl
theorem dX4_read_51 : decode cX4_read 51 = .ok (.aload_n 0, 1) := zd_at zhX4_read_0 30 rfl
theorem dX4_read_52 : decode cX4_read 52 = .ok (.getfield 15, 3) := zd_at zhX4_read_0 31 rfl
theorem dX4_read_55 : decode cX4_read 55 = .ok (.iload_n 2, 1) := zd_at zhX4_read_0 32 rfl
theorem dX4_read_56 : decode cX4_read 56 = .ok (.invokevirtual 44, 3) := zd_at zhX4_read_0 33 rfl
theorem dX4_read_59 : decode cX4_read 59 = .ok (.iinc 2 1, 3) := zd_at zhX4_read_0 34 rfl
theorem dX4_read_62 : decode cX4_read 62 = .ok (.goto (-34), 3) := zd_at zhX4_read_0 35 rfl
theorem dX4_read_65 : decode cX4_read 65 = .ok (.aload_n 0, 1) := zd_at zhX4_read_0 36 rfl
theorem dX4_read_66 : decode cX4_read 66 = .ok (.iconst 0, 1) := zd_at zhX4_read_0 37 rfl
theorem dX4_read_67 : decode cX4_read 67 = .ok (.invokevirtual 47, 3) := zd_at zhX4_read_0 38 rfl
theorem dX4_read_70 : decode cX4_read 70 = .ok (.ifCond .ne 7, 3) := zd_at zhX4_read_0 39 rfl
def ziX4_read_73 : List (Nat × Instr × Nat) := [(73, .aload_n 0, 1), (74, .invokevirtual 51, 3), (77, .aload_n 0, 1), (78, .iconst 0, 1), (79, .putfield 19, 3), (82, .aload_n 0, 1), (83, .getfield 28, 3), (86, .ireturn, 1)]
theorem zhX4_read_73 : zd_chk (cX4_read.data.toList.drop 73) 73 ziX4_read_73 = true := by decide +kernel
theorem dX4_read_73 : decode cX4_read 73 = .ok (.aload_n 0, 1) := zd_at zhX4_read_73 0 rfl
theorem dX4_read_74 : decode cX4_read 74 = .ok (.invokevirtual 51, 3) := zd_at zhX4_read_73 1 rfl
theorem dX4_read_77 : decode cX4_read 77 = .ok (.aload_n 0, 1) := zd_at zhX4_read_73 2 rfl
theorem dX4_read_78 : decode cX4_read 78 = .ok (.iconst 0, 1) := zd_at zhX4_read_73 3 rfl
theorem dX4_read_79 : decode cX4_read 79 = .ok (.putfield 19, 3) := zd_at zhX4_read_73 4 rfl
theorem dX4_read_82 : decode cX4_read 82 = .ok (.aload_n 0, 1) := zd_at zhX4_read_73 5 rfl
theorem dX4_read_83 : decode cX4_read 83 = .ok (.getfield 28, 3) := zd_at zhX4_read_73 6 rfl
theorem dX4_read_86 : decode cX4_read 86 = .ok (.ireturn, 1) := zd_at zhX4_read_73 7 rfl
def ziX4_at_0 : List (Nat × Instr × Nat) := [(0, .aload_n 0, 1), (1, .getfield 28, 3), (4, .iconst (-1), 1), (5, .if_icmp .ne 15, 3), (8, .aload_n 0, 1), (9, .getfield 54, 3), (12, .iload_n 1, 1), (13, .if_icmp .ne 7, 3), (16, .iconst 1, 1), (17, .goto 4, 3), (20, .iconst 0, 1), (21, .ireturn, 1)]
theorem zhX4_at_0 : zd_chk (cX4_at.data.toList.drop 0) 0 ziX4_at_0 = true := by decide +kernel
theorem dX4_at_0 : decode cX4_at 0 = .ok (.aload_n 0, 1) := zd_at zhX4_at_0 0 rfl
theorem dX4_at_1 : decode cX4_at 1 = .ok (.getfield 28, 3) := zd_at zhX4_at_0 1 rfl
theorem dX4_at_4 : decode cX4_at 4 = .ok (.iconst (-1), 1) := zd_at zhX4_at_0 2 rfl
theorem dX4_at_5 : decode cX4_at 5 = .ok (.if_icmp .ne 15, 3) := zd_at zhX4_at_0 3 rfl
theorem dX4_at_8 : decode cX4_at 8 = .ok (.aload_n 0, 1) := zd_at zhX4_at_0 4 rfl
theorem dX4_at_9 : decode cX4_at 9 = .ok (.getfield 54, 3) := zd_at zhX4_at_0 5 rfl
theorem dX4_at_12 : decode cX4_at 12 = .ok (.iload_n 1, 1) := zd_at zhX4_at_0 6 rfl
theorem dX4_at_13 : decode cX4_at 13 = .ok (.if_icmp .ne 7, 3) := zd_at zhX4_at_0 7 rfl
theorem dX4_at_16 : decode cX4_at 16 = .ok (.iconst 1, 1) := zd_at zhX4_at_0 8 rfl
theorem dX4_at_17 : decode cX4_at 17 = .ok (.goto 4, 3) := zd_at zhX4_at_0 9 rfl
theorem dX4_at_20 : decode cX4_at 20 = .ok (.iconst 0, 1) := zd_at zhX4_at_0 10 rfl
theorem dX4_at_21 : decode cX4_at 21 = .ok (.ireturn, 1) := zd_at zhX4_at_0 11 rfl
def ziX4_fail_0 : List (Nat × Instr × Nat) := [(0, .aload_n 0, 1), (1, .getfield 28, 3), (4, .iconst (-1), 1), (5, .if_icmp .ne 11, 3), (8, .aload_n 0, 1), (9, .aload_n 0, 1), (10, .getfield 57, 3), (13, .putfield 28, 3), (16, .return_, 1)]
theorem zhX4_fail_0 : zd_chk (cX4_fail.data.toList.drop 0) 0 ziX4_fail_0 = true := by decide +kernel
theorem dX4_fail_0 : decode cX4_fail 0 = .ok (.aload_n 0, 1) := zd_at zhX4_fail_0 0 rfl
theorem dX4_fail_1 : decode cX4_fail 1 = .ok (.getfield 28, 3) := zd_at zhX4_fail_0 1 rfl
theorem dX4_fail_4 : decode cX4_fail 4 = .ok (.iconst (-1), 1) := zd_at zhX4_fail_0 2 rfl
theorem dX4_fail_5 : decode cX4_fail 5 = .ok (.if_icmp .ne 11, 3) := zd_at zhX4_fail_0 3 rfl
theorem dX4_fail_8 : decode cX4_fail 8 = .ok (.aload_n 0, 1) := zd_at zhX4_fail_0 4 rfl
theorem dX4_fail_9 : decode cX4_fail 9 = .ok (.aload_n 0, 1) := zd_at zhX4_fail_0 5 rfl
theorem dX4_fail_10 : decode cX4_fail 10 = .ok (.getfield 57, 3) := zd_at zhX4_fail_0 6 rfl
theorem dX4_fail_13 : decode cX4_fail 13 = .ok (.putfield 28, 3) := zd_at zhX4_fail_0 7 rfl
theorem dX4_fail_16 : decode cX4_fail 16 = .ok (.return_, 1) := zd_at zhX4_fail_0 8 rfl
def ziX4_expect_0 : List (Nat × Instr × Nat) := [(0, .aload_n 0, 1), (1, .iload_n 1, 1), (2, .invokevirtual 47, 3), (5, .ifCond .eq 10, 3), (8, .aload_n 0, 1), (9, .invokevirtual 34, 3), (12, .goto 7, 3), (15, .aload_n 0, 1), (16, .invokevirtual 51, 3), (19, .return_, 1)]
theorem zhX4_expect_0 : zd_chk (cX4_expect.data.toList.drop 0) 0 ziX4_expect_0 = true := by decide +kernel
theorem dX4_expect_0 : decode cX4_expect 0 = .ok (.aload_n 0, 1) := zd_at zhX4_expect_0 0 rfl
theorem dX4_expect_1 : decode cX4_expect 1 = .ok (.iload_n 1, 1) := zd_at zhX4_expect_0 1 rfl
theorem dX4_expect_2 : decode cX4_expect 2 = .ok (.invokevirtual 47, 3) := zd_at zhX4_expect_0 2 rfl
theorem dX4_expect_5 : decode cX4_expect 5 = .ok (.ifCond .eq 10, 3) := zd_at zhX4_expect_0 3 rfl
theorem dX4_expect_8 : decode cX4_expect 8 = .ok (.aload_n 0, 1) := zd_at zhX4_expect_0 4 rfl
theorem dX4_expect_9 : decode cX4_expect 9 = .ok (.invokevirtual 34, 3) := zd_at zhX4_expect_0 5 rfl
theorem dX4_expect_12 : decode cX4_expect 12 = .ok (.goto 7, 3) := zd_at zhX4_expect_0 6 rfl
theorem dX4_expect_15 : decode cX4_expect 15 = .ok (.aload_n 0, 1) := zd_at zhX4_expect_0 7 rfl
theorem dX4_expect_16 : decode cX4_expect 16 = .ok (.invokevirtual 51, 3) := zd_at zhX4_expect_0 8 rfl
theorem dX4_expect_19 : decode cX4_expect 19 = .ok (.return_, 1) := zd_at zhX4_expect_0 9 rfl
def ziX4_either_0 : List (Nat × Instr × Nat) := [(0, .aload_n 0, 1), (1, .iload_n 1, 1), (2, .invokevirtual 60, 3), (5, .iconst 0, 1), (6, .istore_n 2, 1), (7, .iload_n 2, 1), (8, .sipush 160, 3), (11, .if_icmp .ge 36, 3), (14, .aload_n 0, 1), (15, .bipush 7, 2), (17, .invokevirtual 47, 3), (20, .ifCond .eq 27, 3), (23, .aload_n 0, 1), (24, .invokevirtual 34, 3), (27, .aload_n 0, 1), (28, .iload_n 1, 1), (29, .invokevirtual 60, 3), (32, .aload_n 0, 1), (33, .getfield 15, 3), (36, .bipush (-15), 2), (38, .invokevirtual 63, 3), (41, .iinc 2 1, 3), (44, .goto (-37), 3), (47, .return_, 1)]
theorem zhX4_either_0 : zd_chk (cX4_either.data.toList.drop 0) 0 ziX4_either_0 = true := by decide +kernel
theorem dX4_either_0 : decode cX4_either 0 = .ok (.aload_n 0, 1) := zd_at zhX4_either_0 0 rfl
theorem dX4_either_1 : decode cX4_either 1 = .ok (.iload_n 1, 1) := zd_at zhX4_either_0 1 rfl
theorem dX4_either_2 : decode cX4_either 2 = .ok (.invokevirtual 60, 3) := zd_at zhX4_either_0 2 rfl
theorem dX4_either_5 : decode cX4_either 5 = .ok (.iconst 0, 1) := zd_at zhX4_either_0 3 rfl
theorem dX4_either_6 : decode cX4_either 6 = .ok (.istore_n 2, 1) := zd_at zhX4_either_0 4 rfl
theorem dX4_either_7 : decode cX4_either 7 = .ok (.iload_n 2, 1) := zd_at zhX4_either_0 5 rfl
theorem dX4_either_8 : decode cX4_either 8 = .ok (.sipush 160, 3) := zd_at zhX4_either_0 6 rfl
theorem dX4_either_11 : decode cX4_either 11 = .ok (.if_icmp .ge 36, 3) := zd_at zhX4_either_0 7 rfl
theorem dX4_either_14 : decode cX4_either 14 = .ok (.aload_n 0, 1) := zd_at zhX4_either_0 8 rfl
theorem dX4_either_15 : decode cX4_either 15 = .ok (.bipush 7, 2) := zd_at zhX4_either_0 9 rfl
theorem dX4_either_17 : decode cX4_either 17 = .ok (.invokevirtual 47, 3) := zd_at zhX4_either_0 10 rfl
theorem dX4_either_20 : decode cX4_either 20 = .ok (.ifCond .eq 27, 3) := zd_at zhX4_either_0 11 rfl
theorem dX4_either_23 : decode cX4_either 23 = .ok (.aload_n 0, 1) := zd_at zhX4_either_0 12 rfl
theorem dX4_either_24 : decode cX4_either 24 = .ok (.invokevirtual 34, 3) := zd_at zhX4_either_0 13 rfl
theorem dX4_either_27 : decode cX4_either 27 = .ok (.aload_n 0, 1) := zd_at zhX4_either_0 14 rfl
theorem dX4_either_28 : decode cX4_either 28 = .ok (.iload_n 1, 1) := zd_at zhX4_either_0 15 rfl
theorem dX4_either_29 : decode cX4_either 29 = .ok (.invokevirtual 60, 3) := zd_at zhX4_either_0 16 rfl
theorem dX4_either_32 : decode cX4_either 32 = .ok (.aload_n 0, 1) := zd_at zhX4_either_0 17 rfl
theorem dX4_either_33 : decode cX4_either 33 = .ok (.getfield 15, 3) := zd_at zhX4_either_0 18 rfl
theorem dX4_either_36 : decode cX4_either 36 = .ok (.bipush (-15), 2) := zd_at zhX4_either_0 19 rfl
theorem dX4_either_38 : decode cX4_either 38 = .ok (.invokevirtual 63, 3) := zd_at zhX4_either_0 20 rfl
theorem dX4_either_41 : decode cX4_either 41 = .ok (.iinc 2 1, 3) := zd_at zhX4_either_0 21 rfl
theorem dX4_either_44 : decode cX4_either 44 = .ok (.goto (-37), 3) := zd_at zhX4_either_0 22 rfl
theorem dX4_either_47 : decode cX4_either 47 = .ok (.return_, 1) := zd_at zhX4_either_0 23 rfl
def ziX4_both_0 : List (Nat × Instr × Nat) := [(0, .aload_n 0, 1), (1, .iload_n 1, 1), (2, .invokevirtual 66, 3), (5, .iconst 0, 1), (6, .istore_n 2, 1), (7, .iload_n 2, 1), (8, .sipush 160, 3), (11, .if_icmp .ge 36, 3), (14, .aload_n 0, 1), (15, .bipush 8, 2), (17, .invokevirtual 47, 3), (20, .ifCond .eq 27, 3), (23, .aload_n 0, 1), (24, .invokevirtual 34, 3), (27, .aload_n 0, 1), (28, .iload_n 1, 1), (29, .invokevirtual 66, 3), (32, .aload_n 0, 1), (33, .getfield 15, 3), (36, .bipush (-14), 2), (38, .invokevirtual 63, 3), (41, .iinc 2 1, 3), (44, .goto (-37), 3), (47, .return_, 1)]
theorem zhX4_both_0 : zd_chk (cX4_both.data.toList.drop 0) 0 ziX4_both_0 = true := by decide +kernel
theorem dX4_both_0 : decode cX4_both 0 = .ok (.aload_n 0, 1) := zd_at zhX4_both_0 0 rfl
theorem dX4_both_1 : decode cX4_both 1 = .ok (.iload_n 1, 1) := zd_at zhX4_both_0 1 rfl
theorem dX4_both_2 : decode cX4_both 2 = .ok (.invokevirtual 66, 3) := zd_at zhX4_both_0 2 rfl
theorem dX4_both_5 : decode cX4_both 5 = .ok (.iconst 0, 1) := zd_at zhX4_both_0 3 rfl
theorem dX4_both_6 : decode cX4_both 6 = .ok (.istore_n 2, 1) := zd_at zhX4_both_0 4 rfl
theorem dX4_both_7 : decode cX4_both 7 = .ok (.iload_n 2, 1) := zd_at zhX4_both_0 5 rfl
theorem dX4_both_8 : decode cX4_both 8 = .ok (.sipush 160, 3) := zd_at zhX4_both_0 6 rfl
theorem dX4_both_11 : decode cX4_both 11 = .ok (.if_icmp .ge 36, 3) := zd_at zhX4_both_0 7 rfl
theorem dX4_both_14 : decode cX4_both 14 = .ok (.aload_n 0, 1) := zd_at zhX4_both_0 8 rfl
theorem dX4_both_15 : decode cX4_both 15 = .ok (.bipush 8, 2) := zd_at zhX4_both_0 9 rfl
theorem dX4_both_17 : decode cX4_both 17 = .ok (.invokevirtual 47, 3) := zd_at zhX4_both_0 10 rfl
theorem dX4_both_20 : decode cX4_both 20 = .ok (.ifCond .eq 27, 3) := zd_at zhX4_both_0 11 rfl
theorem dX4_both_23 : decode cX4_both 23 = .ok (.aload_n 0, 1) := zd_at zhX4_both_0 12 rfl
theorem dX4_both_24 : decode cX4_both 24 = .ok (.invokevirtual 34, 3) := zd_at zhX4_both_0 13 rfl
theorem dX4_both_27 : decode cX4_both 27 = .ok (.aload_n 0, 1) := zd_at zhX4_both_0 14 rfl
theorem dX4_both_28 : decode cX4_both 28 = .ok (.iload_n 1, 1) := zd_at zhX4_both_0 15 rfl
theorem dX4_both_29 : decode cX4_both 29 = .ok (.invokevirtual 66, 3) := zd_at zhX4_both_0 16 rfl
theorem dX4_both_32 : decode cX4_both 32 = .ok (.aload_n 0, 1) := zd_at zhX4_both_0 17 rfl
theorem dX4_both_33 : decode cX4_both 33 = .ok (.getfield 15, 3) := zd_at zhX4_both_0 18 rfl
theorem dX4_both_36 : decode cX4_both 36 = .ok (.bipush (-14), 2) := zd_at zhX4_both_0 19 rfl
theorem dX4_both_38 : decode cX4_both 38 = .ok (.invokevirtual 63, 3) := zd_at zhX4_both_0 20 rfl
theorem dX4_both_41 : decode cX4_both 41 = .ok (.iinc 2 1, 3) := zd_at zhX4_both_0 21 rfl
theorem dX4_both_44 : decode cX4_both 44 = .ok (.goto (-37), 3) := zd_at zhX4_both_0 22 rfl
theorem dX4_both_47 : decode cX4_both 47 = .ok (.return_, 1) := zd_at zhX4_both_0 23 rfl
def ziX4_denial_0 : List (Nat × Instr × Nat) := [(0, .aload_n 0, 1), (1, .bipush 9, 2), (3, .iload_n 1, 1), (4, .invokevirtual 69, 3), (7, .istore_n 2, 1), (8, .aload_n 0, 1), (9, .iload_n 2, 1), (10, .invokevirtual 73, 3), (13, .aload_n 0, 1), (14, .bipush 60, 2), (16, .invokevirtual 47, 3), (19, .ifCond .ne 12, 3), (22, .aload_n 0, 1), (23, .bipush 61, 2), (25, .invokevirtual 47, 3), (28, .ifCond .eq 37, 3), (31, .aload_n 0, 1), (32, .getfield 54, 3), (35, .bipush 60, 2), (37, .if_icmp .ne 8, 3), (40, .bipush (-12), 2), (42, .goto 5, 3), (45, .bipush (-13), 2), (47, .istore_n 3, 1), (48, .aload_n 0, 1), (49, .invokevirtual 34, 3), (52, .aload_n 0, 1), (53, .iload_n 2, 1), (54, .invokevirtual 73, 3), (57, .aload_n 0, 1), (58, .getfield 15, 3), (61, .iload_n 3, 1), (62, .invokevirtual 63, 3), (65, .iload_n 1, 1), (66, .istore_n 3, 1), (67, .iload_n 3, 1), (68, .iload_n 2, 1), (69, .if_icmp .ge 18, 3), (72, .aload_n 0, 1), (73, .getfield 15, 3)]
theorem zhX4_denial_0 : zd_chk (cX4_denial.data.toList.drop 0) 0 ziX4_denial_0 = true := by decide +kernel
theorem dX4_denial_0 : decode cX4_denial 0 = .ok (.aload_n 0, 1) := zd_at zhX4_denial_0 0 rfl
theorem dX4_denial_1 : decode cX4_denial 1 = .ok (.bipush 9, 2) := zd_at zhX4_denial_0 1 rfl
theorem dX4_denial_3 : decode cX4_denial 3 = .ok (.iload_n 1, 1) := zd_at zhX4_denial_0 2 rfl
theorem dX4_denial_4 : decode cX4_denial 4 = .ok (.invokevirtual 69, 3) := zd_at zhX4_denial_0 3 rfl
theorem dX4_denial_7 : decode cX4_denial 7 = .ok (.istore_n 2, 1) := zd_at zhX4_denial_0 4 rfl
theorem dX4_denial_8 : decode cX4_denial 8 = .ok (.aload_n 0, 1) := zd_at zhX4_denial_0 5 rfl
theorem dX4_denial_9 : decode cX4_denial 9 = .ok (.iload_n 2, 1) := zd_at zhX4_denial_0 6 rfl
theorem dX4_denial_10 : decode cX4_denial 10 = .ok (.invokevirtual 73, 3) := zd_at zhX4_denial_0 7 rfl
theorem dX4_denial_13 : decode cX4_denial 13 = .ok (.aload_n 0, 1) := zd_at zhX4_denial_0 8 rfl
theorem dX4_denial_14 : decode cX4_denial 14 = .ok (.bipush 60, 2) := zd_at zhX4_denial_0 9 rfl
theorem dX4_denial_16 : decode cX4_denial 16 = .ok (.invokevirtual 47, 3) := zd_at zhX4_denial_0 10 rfl
theorem dX4_denial_19 : decode cX4_denial 19 = .ok (.ifCond .ne 12, 3) := zd_at zhX4_denial_0 11 rfl
theorem dX4_denial_22 : decode cX4_denial 22 = .ok (.aload_n 0, 1) := zd_at zhX4_denial_0 12 rfl
theorem dX4_denial_23 : decode cX4_denial 23 = .ok (.bipush 61, 2) := zd_at zhX4_denial_0 13 rfl
theorem dX4_denial_25 : decode cX4_denial 25 = .ok (.invokevirtual 47, 3) := zd_at zhX4_denial_0 14 rfl
theorem dX4_denial_28 : decode cX4_denial 28 = .ok (.ifCond .eq 37, 3) := zd_at zhX4_denial_0 15 rfl
theorem dX4_denial_31 : decode cX4_denial 31 = .ok (.aload_n 0, 1) := zd_at zhX4_denial_0 16 rfl
theorem dX4_denial_32 : decode cX4_denial 32 = .ok (.getfield 54, 3) := zd_at zhX4_denial_0 17 rfl
theorem dX4_denial_35 : decode cX4_denial 35 = .ok (.bipush 60, 2) := zd_at zhX4_denial_0 18 rfl
theorem dX4_denial_37 : decode cX4_denial 37 = .ok (.if_icmp .ne 8, 3) := zd_at zhX4_denial_0 19 rfl
theorem dX4_denial_40 : decode cX4_denial 40 = .ok (.bipush (-12), 2) := zd_at zhX4_denial_0 20 rfl
theorem dX4_denial_42 : decode cX4_denial 42 = .ok (.goto 5, 3) := zd_at zhX4_denial_0 21 rfl
theorem dX4_denial_45 : decode cX4_denial 45 = .ok (.bipush (-13), 2) := zd_at zhX4_denial_0 22 rfl
theorem dX4_denial_47 : decode cX4_denial 47 = .ok (.istore_n 3, 1) := zd_at zhX4_denial_0 23 rfl
theorem dX4_denial_48 : decode cX4_denial 48 = .ok (.aload_n 0, 1) := zd_at zhX4_denial_0 24 rfl
theorem dX4_denial_49 : decode cX4_denial 49 = .ok (.invokevirtual 34, 3) := zd_at zhX4_denial_0 25 rfl
theorem dX4_denial_52 : decode cX4_denial 52 = .ok (.aload_n 0, 1) := zd_at zhX4_denial_0 26 rfl
theorem dX4_denial_53 : decode cX4_denial 53 = .ok (.iload_n 2, 1) := zd_at zhX4_denial_0 27 rfl
theorem dX4_denial_54 : decode cX4_denial 54 = .ok (.invokevirtual 73, 3) := zd_at zhX4_denial_0 28 rfl
theorem dX4_denial_57 : decode cX4_denial 57 = .ok (.aload_n 0, 1) := zd_at zhX4_denial_0 29 rfl
theorem dX4_denial_58 : decode cX4_denial 58 = .ok (.getfield 15, 3) := zd_at zhX4_denial_0 30 rfl
theorem dX4_denial_61 : decode cX4_denial 61 = .ok (.iload_n 3, 1) := zd_at zhX4_denial_0 31 rfl
theorem dX4_denial_62 : decode cX4_denial 62 = .ok (.invokevirtual 63, 3) := zd_at zhX4_denial_0 32 rfl
theorem dX4_denial_65 : decode cX4_denial 65 = .ok (.iload_n 1, 1) := zd_at zhX4_denial_0 33 rfl
theorem dX4_denial_66 : decode cX4_denial 66 = .ok (.istore_n 3, 1) := zd_at zhX4_denial_0 34 rfl
theorem dX4_denial_67 : decode cX4_denial 67 = .ok (.iload_n 3, 1) := zd_at zhX4_denial_0 35 rfl
theorem dX4_denial_68 : decode cX4_denial 68 = .ok (.iload_n 2, 1) := zd_at zhX4_denial_0 36 rfl
theorem dX4_denial_69 : decode cX4_denial 69 = .ok (.if_icmp .ge 18, 3) := zd_at zhX4_denial_0 37 rfl
theorem dX4_denial_72 : decode cX4_denial 72 = .ok (.aload_n 0, 1) := zd_at zhX4_denial_0 38 rfl
theorem dX4_denial_73 : decode cX4_denial 73 = .ok (.getfield 15, 3) := zd_at zhX4_denial_0 39 rfl
def ziX4_denial_76 : List (Nat × Instr × Nat) := [(76, .bipush (-8), 2), (78, .invokevirtual 63, 3), (81, .iinc 3 1, 3), (84, .goto (-17), 3), (87, .return_, 1)]
theorem zhX4_denial_76 : zd_chk (cX4_denial.data.toList.drop 76) 76 ziX4_denial_76 = true := by decide +kernel
theorem dX4_denial_76 : decode cX4_denial 76 = .ok (.bipush (-8), 2) := zd_at zhX4_denial_76 0 rfl
theorem dX4_denial_78 : decode cX4_denial 78 = .ok (.invokevirtual 63, 3) := zd_at zhX4_denial_76 1 rfl
theorem dX4_denial_81 : decode cX4_denial 81 = .ok (.iinc 3 1, 3) := zd_at zhX4_denial_76 2 rfl
theorem dX4_denial_84 : decode cX4_denial 84 = .ok (.goto (-17), 3) := zd_at zhX4_denial_76 3 rfl
theorem dX4_denial_87 : decode cX4_denial 87 = .ok (.return_, 1) := zd_at zhX4_denial_76 4 rfl
def ziX4_sum_0 : List (Nat × Instr × Nat) := [(0, .aload_n 0, 1), (1, .iload_n 1, 1), (2, .invokevirtual 76, 3), (5, .iconst 0, 1), (6, .istore_n 2, 1), (7, .iload_n 2, 1), (8, .sipush 160, 3), (11, .if_icmp .ge 61, 3), (14, .aload_n 0, 1), (15, .bipush 43, 2), (17, .invokevirtual 47, 3), (20, .ifCond .ne 12, 3), (23, .aload_n 0, 1), (24, .bipush 45, 2), (26, .invokevirtual 47, 3), (29, .ifCond .eq 43, 3), (32, .aload_n 0, 1), (33, .getfield 54, 3), (36, .bipush 43, 2), (38, .if_icmp .ne 8, 3), (41, .bipush (-10), 2), (43, .goto 5, 3), (46, .bipush (-11), 2), (48, .istore_n 3, 1), (49, .aload_n 0, 1), (50, .invokevirtual 34, 3), (53, .aload_n 0, 1), (54, .iload_n 1, 1), (55, .invokevirtual 76, 3), (58, .aload_n 0, 1), (59, .getfield 15, 3), (62, .iload_n 3, 1), (63, .invokevirtual 63, 3), (66, .iinc 2 1, 3), (69, .goto (-62), 3), (72, .return_, 1)]
theorem zhX4_sum_0 : zd_chk (cX4_sum.data.toList.drop 0) 0 ziX4_sum_0 = true := by decide +kernel
theorem dX4_sum_0 : decode cX4_sum 0 = .ok (.aload_n 0, 1) := zd_at zhX4_sum_0 0 rfl
theorem dX4_sum_1 : decode cX4_sum 1 = .ok (.iload_n 1, 1) := zd_at zhX4_sum_0 1 rfl
theorem dX4_sum_2 : decode cX4_sum 2 = .ok (.invokevirtual 76, 3) := zd_at zhX4_sum_0 2 rfl
theorem dX4_sum_5 : decode cX4_sum 5 = .ok (.iconst 0, 1) := zd_at zhX4_sum_0 3 rfl
theorem dX4_sum_6 : decode cX4_sum 6 = .ok (.istore_n 2, 1) := zd_at zhX4_sum_0 4 rfl
theorem dX4_sum_7 : decode cX4_sum 7 = .ok (.iload_n 2, 1) := zd_at zhX4_sum_0 5 rfl
theorem dX4_sum_8 : decode cX4_sum 8 = .ok (.sipush 160, 3) := zd_at zhX4_sum_0 6 rfl
theorem dX4_sum_11 : decode cX4_sum 11 = .ok (.if_icmp .ge 61, 3) := zd_at zhX4_sum_0 7 rfl
theorem dX4_sum_14 : decode cX4_sum 14 = .ok (.aload_n 0, 1) := zd_at zhX4_sum_0 8 rfl
theorem dX4_sum_15 : decode cX4_sum 15 = .ok (.bipush 43, 2) := zd_at zhX4_sum_0 9 rfl
theorem dX4_sum_17 : decode cX4_sum 17 = .ok (.invokevirtual 47, 3) := zd_at zhX4_sum_0 10 rfl
theorem dX4_sum_20 : decode cX4_sum 20 = .ok (.ifCond .ne 12, 3) := zd_at zhX4_sum_0 11 rfl
theorem dX4_sum_23 : decode cX4_sum 23 = .ok (.aload_n 0, 1) := zd_at zhX4_sum_0 12 rfl
theorem dX4_sum_24 : decode cX4_sum 24 = .ok (.bipush 45, 2) := zd_at zhX4_sum_0 13 rfl
theorem dX4_sum_26 : decode cX4_sum 26 = .ok (.invokevirtual 47, 3) := zd_at zhX4_sum_0 14 rfl
theorem dX4_sum_29 : decode cX4_sum 29 = .ok (.ifCond .eq 43, 3) := zd_at zhX4_sum_0 15 rfl
theorem dX4_sum_32 : decode cX4_sum 32 = .ok (.aload_n 0, 1) := zd_at zhX4_sum_0 16 rfl
theorem dX4_sum_33 : decode cX4_sum 33 = .ok (.getfield 54, 3) := zd_at zhX4_sum_0 17 rfl
theorem dX4_sum_36 : decode cX4_sum 36 = .ok (.bipush 43, 2) := zd_at zhX4_sum_0 18 rfl
theorem dX4_sum_38 : decode cX4_sum 38 = .ok (.if_icmp .ne 8, 3) := zd_at zhX4_sum_0 19 rfl
theorem dX4_sum_41 : decode cX4_sum 41 = .ok (.bipush (-10), 2) := zd_at zhX4_sum_0 20 rfl
theorem dX4_sum_43 : decode cX4_sum 43 = .ok (.goto 5, 3) := zd_at zhX4_sum_0 21 rfl
theorem dX4_sum_46 : decode cX4_sum 46 = .ok (.bipush (-11), 2) := zd_at zhX4_sum_0 22 rfl
theorem dX4_sum_48 : decode cX4_sum 48 = .ok (.istore_n 3, 1) := zd_at zhX4_sum_0 23 rfl
theorem dX4_sum_49 : decode cX4_sum 49 = .ok (.aload_n 0, 1) := zd_at zhX4_sum_0 24 rfl
theorem dX4_sum_50 : decode cX4_sum 50 = .ok (.invokevirtual 34, 3) := zd_at zhX4_sum_0 25 rfl
theorem dX4_sum_53 : decode cX4_sum 53 = .ok (.aload_n 0, 1) := zd_at zhX4_sum_0 26 rfl
theorem dX4_sum_54 : decode cX4_sum 54 = .ok (.iload_n 1, 1) := zd_at zhX4_sum_0 27 rfl
theorem dX4_sum_55 : decode cX4_sum 55 = .ok (.invokevirtual 76, 3) := zd_at zhX4_sum_0 28 rfl
theorem dX4_sum_58 : decode cX4_sum 58 = .ok (.aload_n 0, 1) := zd_at zhX4_sum_0 29 rfl
theorem dX4_sum_59 : decode cX4_sum 59 = .ok (.getfield 15, 3) := zd_at zhX4_sum_0 30 rfl
theorem dX4_sum_62 : decode cX4_sum 62 = .ok (.iload_n 3, 1) := zd_at zhX4_sum_0 31 rfl
theorem dX4_sum_63 : decode cX4_sum 63 = .ok (.invokevirtual 63, 3) := zd_at zhX4_sum_0 32 rfl
theorem dX4_sum_66 : decode cX4_sum 66 = .ok (.iinc 2 1, 3) := zd_at zhX4_sum_0 33 rfl
theorem dX4_sum_69 : decode cX4_sum 69 = .ok (.goto (-62), 3) := zd_at zhX4_sum_0 34 rfl
theorem dX4_sum_72 : decode cX4_sum 72 = .ok (.return_, 1) := zd_at zhX4_sum_0 35 rfl
def ziX4_term_0 : List (Nat × Instr × Nat) := [(0, .aload_n 0, 1), (1, .iload_n 1, 1), (2, .invokevirtual 79, 3), (5, .iconst 0, 1), (6, .istore_n 2, 1), (7, .iload_n 2, 1), (8, .sipush 160, 3), (11, .if_icmp .ge 36, 3), (14, .aload_n 0, 1), (15, .bipush 42, 2), (17, .invokevirtual 47, 3), (20, .ifCond .eq 27, 3), (23, .aload_n 0, 1), (24, .invokevirtual 34, 3), (27, .aload_n 0, 1), (28, .iload_n 1, 1), (29, .invokevirtual 79, 3), (32, .aload_n 0, 1), (33, .getfield 15, 3), (36, .bipush (-9), 2), (38, .invokevirtual 63, 3), (41, .iinc 2 1, 3), (44, .goto (-37), 3), (47, .return_, 1)]
theorem zhX4_term_0 : zd_chk (cX4_term.data.toList.drop 0) 0 ziX4_term_0 = true := by decide +kernel
theorem dX4_term_0 : decode cX4_term 0 = .ok (.aload_n 0, 1) := zd_at zhX4_term_0 0 rfl
theorem dX4_term_1 : decode cX4_term 1 = .ok (.iload_n 1, 1) := zd_at zhX4_term_0 1 rfl
theorem dX4_term_2 : decode cX4_term 2 = .ok (.invokevirtual 79, 3) := zd_at zhX4_term_0 2 rfl
theorem dX4_term_5 : decode cX4_term 5 = .ok (.iconst 0, 1) := zd_at zhX4_term_0 3 rfl
theorem dX4_term_6 : decode cX4_term 6 = .ok (.istore_n 2, 1) := zd_at zhX4_term_0 4 rfl
theorem dX4_term_7 : decode cX4_term 7 = .ok (.iload_n 2, 1) := zd_at zhX4_term_0 5 rfl
theorem dX4_term_8 : decode cX4_term 8 = .ok (.sipush 160, 3) := zd_at zhX4_term_0 6 rfl
theorem dX4_term_11 : decode cX4_term 11 = .ok (.if_icmp .ge 36, 3) := zd_at zhX4_term_0 7 rfl
theorem dX4_term_14 : decode cX4_term 14 = .ok (.aload_n 0, 1) := zd_at zhX4_term_0 8 rfl
theorem dX4_term_15 : decode cX4_term 15 = .ok (.bipush 42, 2) := zd_at zhX4_term_0 9 rfl
theorem dX4_term_17 : decode cX4_term 17 = .ok (.invokevirtual 47, 3) := zd_at zhX4_term_0 10 rfl
theorem dX4_term_20 : decode cX4_term 20 = .ok (.ifCond .eq 27, 3) := zd_at zhX4_term_0 11 rfl
theorem dX4_term_23 : decode cX4_term 23 = .ok (.aload_n 0, 1) := zd_at zhX4_term_0 12 rfl
theorem dX4_term_24 : decode cX4_term 24 = .ok (.invokevirtual 34, 3) := zd_at zhX4_term_0 13 rfl
theorem dX4_term_27 : decode cX4_term 27 = .ok (.aload_n 0, 1) := zd_at zhX4_term_0 14 rfl
theorem dX4_term_28 : decode cX4_term 28 = .ok (.iload_n 1, 1) := zd_at zhX4_term_0 15 rfl
theorem dX4_term_29 : decode cX4_term 29 = .ok (.invokevirtual 79, 3) := zd_at zhX4_term_0 16 rfl
theorem dX4_term_32 : decode cX4_term 32 = .ok (.aload_n 0, 1) := zd_at zhX4_term_0 17 rfl
theorem dX4_term_33 : decode cX4_term 33 = .ok (.getfield 15, 3) := zd_at zhX4_term_0 18 rfl
theorem dX4_term_36 : decode cX4_term 36 = .ok (.bipush (-9), 2) := zd_at zhX4_term_0 19 rfl
theorem dX4_term_38 : decode cX4_term 38 = .ok (.invokevirtual 63, 3) := zd_at zhX4_term_0 20 rfl
theorem dX4_term_41 : decode cX4_term 41 = .ok (.iinc 2 1, 3) := zd_at zhX4_term_0 21 rfl
theorem dX4_term_44 : decode cX4_term 44 = .ok (.goto (-37), 3) := zd_at zhX4_term_0 22 rfl
theorem dX4_term_47 : decode cX4_term 47 = .ok (.return_, 1) := zd_at zhX4_term_0 23 rfl
def ziX4_one_0 : List (Nat × Instr × Nat) := [(0, .aload_n 0, 1), (1, .bipush 45, 2), (3, .iload_n 1, 1), (4, .invokevirtual 69, 3), (7, .istore_n 2, 1), (8, .aload_n 0, 1), (9, .iconst 2, 1), (10, .invokevirtual 47, 3), (13, .ifCond .ne 11, 3), (16, .aload_n 0, 1), (17, .iconst 3, 1), (18, .invokevirtual 47, 3), (21, .ifCond .eq 38, 3), (24, .aload_n 0, 1), (25, .getfield 15, 3), (28, .aload_n 0, 1), (29, .getfield 54, 3), (32, .iconst 2, 1), (33, .if_icmp .ne 10, 3), (36, .aload_n 0, 1), (37, .getfield 82, 3), (40, .goto 9, 3), (43, .iconst (-1), 1), (44, .aload_n 0, 1), (45, .getfield 82, 3), (48, .isub, 1), (49, .invokevirtual 63, 3), (52, .aload_n 0, 1), (53, .invokevirtual 34, 3), (56, .goto 41, 3), (59, .aload_n 0, 1), (60, .bipush 40, 2), (62, .invokevirtual 47, 3), (65, .ifCond .eq 28, 3), (68, .iload_n 2, 1), (69, .iconst 5, 1), (70, .if_icmp .ge 23, 3), (73, .aload_n 0, 1), (74, .invokevirtual 34, 3), (77, .aload_n 0, 1)]
theorem zhX4_one_0 : zd_chk (cX4_one.data.toList.drop 0) 0 ziX4_one_0 = true := by decide +kernel
theorem dX4_one_0 : decode cX4_one 0 = .ok (.aload_n 0, 1) := zd_at zhX4_one_0 0 rfl
theorem dX4_one_1 : decode cX4_one 1 = .ok (.bipush 45, 2) := zd_at zhX4_one_0 1 rfl
theorem dX4_one_3 : decode cX4_one 3 = .ok (.iload_n 1, 1) := zd_at zhX4_one_0 2 rfl
theorem dX4_one_4 : decode cX4_one 4 = .ok (.invokevirtual 69, 3) := zd_at zhX4_one_0 3 rfl
theorem dX4_one_7 : decode cX4_one 7 = .ok (.istore_n 2, 1) := zd_at zhX4_one_0 4 rfl
theorem dX4_one_8 : decode cX4_one 8 = .ok (.aload_n 0, 1) := zd_at zhX4_one_0 5 rfl
theorem dX4_one_9 : decode cX4_one 9 = .ok (.iconst 2, 1) := zd_at zhX4_one_0 6 rfl
theorem dX4_one_10 : decode cX4_one 10 = .ok (.invokevirtual 47, 3) := zd_at zhX4_one_0 7 rfl
theorem dX4_one_13 : decode cX4_one 13 = .ok (.ifCond .ne 11, 3) := zd_at zhX4_one_0 8 rfl
theorem dX4_one_16 : decode cX4_one 16 = .ok (.aload_n 0, 1) := zd_at zhX4_one_0 9 rfl
theorem dX4_one_17 : decode cX4_one 17 = .ok (.iconst 3, 1) := zd_at zhX4_one_0 10 rfl
theorem dX4_one_18 : decode cX4_one 18 = .ok (.invokevirtual 47, 3) := zd_at zhX4_one_0 11 rfl
theorem dX4_one_21 : decode cX4_one 21 = .ok (.ifCond .eq 38, 3) := zd_at zhX4_one_0 12 rfl
theorem dX4_one_24 : decode cX4_one 24 = .ok (.aload_n 0, 1) := zd_at zhX4_one_0 13 rfl
theorem dX4_one_25 : decode cX4_one 25 = .ok (.getfield 15, 3) := zd_at zhX4_one_0 14 rfl
theorem dX4_one_28 : decode cX4_one 28 = .ok (.aload_n 0, 1) := zd_at zhX4_one_0 15 rfl
theorem dX4_one_29 : decode cX4_one 29 = .ok (.getfield 54, 3) := zd_at zhX4_one_0 16 rfl
theorem dX4_one_32 : decode cX4_one 32 = .ok (.iconst 2, 1) := zd_at zhX4_one_0 17 rfl
theorem dX4_one_33 : decode cX4_one 33 = .ok (.if_icmp .ne 10, 3) := zd_at zhX4_one_0 18 rfl
theorem dX4_one_36 : decode cX4_one 36 = .ok (.aload_n 0, 1) := zd_at zhX4_one_0 19 rfl
theorem dX4_one_37 : decode cX4_one 37 = .ok (.getfield 82, 3) := zd_at zhX4_one_0 20 rfl
theorem dX4_one_40 : decode cX4_one 40 = .ok (.goto 9, 3) := zd_at zhX4_one_0 21 rfl
theorem dX4_one_43 : decode cX4_one 43 = .ok (.iconst (-1), 1) := zd_at zhX4_one_0 22 rfl
theorem dX4_one_44 : decode cX4_one 44 = .ok (.aload_n 0, 1) := zd_at zhX4_one_0 23 rfl
theorem dX4_one_45 : decode cX4_one 45 = .ok (.getfield 82, 3) := zd_at zhX4_one_0 24 rfl
theorem dX4_one_48 : decode cX4_one 48 = .ok (.isub, 1) := zd_at zhX4_one_0 25 rfl
theorem dX4_one_49 : decode cX4_one 49 = .ok (.invokevirtual 63, 3) := zd_at zhX4_one_0 26 rfl
theorem dX4_one_52 : decode cX4_one 52 = .ok (.aload_n 0, 1) := zd_at zhX4_one_0 27 rfl
theorem dX4_one_53 : decode cX4_one 53 = .ok (.invokevirtual 34, 3) := zd_at zhX4_one_0 28 rfl
theorem dX4_one_56 : decode cX4_one 56 = .ok (.goto 41, 3) := zd_at zhX4_one_0 29 rfl
theorem dX4_one_59 : decode cX4_one 59 = .ok (.aload_n 0, 1) := zd_at zhX4_one_0 30 rfl
theorem dX4_one_60 : decode cX4_one 60 = .ok (.bipush 40, 2) := zd_at zhX4_one_0 31 rfl
theorem dX4_one_62 : decode cX4_one 62 = .ok (.invokevirtual 47, 3) := zd_at zhX4_one_0 32 rfl
theorem dX4_one_65 : decode cX4_one 65 = .ok (.ifCond .eq 28, 3) := zd_at zhX4_one_0 33 rfl
theorem dX4_one_68 : decode cX4_one 68 = .ok (.iload_n 2, 1) := zd_at zhX4_one_0 34 rfl
theorem dX4_one_69 : decode cX4_one 69 = .ok (.iconst 5, 1) := zd_at zhX4_one_0 35 rfl
theorem dX4_one_70 : decode cX4_one 70 = .ok (.if_icmp .ge 23, 3) := zd_at zhX4_one_0 36 rfl
theorem dX4_one_73 : decode cX4_one 73 = .ok (.aload_n 0, 1) := zd_at zhX4_one_0 37 rfl
theorem dX4_one_74 : decode cX4_one 74 = .ok (.invokevirtual 34, 3) := zd_at zhX4_one_0 38 rfl
theorem dX4_one_77 : decode cX4_one 77 = .ok (.aload_n 0, 1) := zd_at zhX4_one_0 39 rfl
def ziX4_one_78 : List (Nat × Instr × Nat) := [(78, .iload_n 2, 1), (79, .iconst 1, 1), (80, .iadd, 1), (81, .invokevirtual 41, 3), (84, .aload_n 0, 1), (85, .bipush 41, 2), (87, .invokevirtual 37, 3), (90, .goto 7, 3), (93, .aload_n 0, 1), (94, .invokevirtual 51, 3), (97, .iload_n 1, 1), (98, .istore_n 3, 1), (99, .iload_n 3, 1), (100, .iload_n 2, 1), (101, .if_icmp .ge 18, 3), (104, .aload_n 0, 1), (105, .getfield 15, 3), (108, .bipush (-7), 2), (110, .invokevirtual 63, 3), (113, .iinc 3 1, 3), (116, .goto (-17), 3), (119, .return_, 1)]
theorem zhX4_one_78 : zd_chk (cX4_one.data.toList.drop 78) 78 ziX4_one_78 = true := by decide +kernel
theorem dX4_one_78 : decode cX4_one 78 = .ok (.iload_n 2, 1) := zd_at zhX4_one_78 0 rfl
theorem dX4_one_79 : decode cX4_one 79 = .ok (.iconst 1, 1) := zd_at zhX4_one_78 1 rfl
theorem dX4_one_80 : decode cX4_one 80 = .ok (.iadd, 1) := zd_at zhX4_one_78 2 rfl
theorem dX4_one_81 : decode cX4_one 81 = .ok (.invokevirtual 41, 3) := zd_at zhX4_one_78 3 rfl
theorem dX4_one_84 : decode cX4_one 84 = .ok (.aload_n 0, 1) := zd_at zhX4_one_78 4 rfl
theorem dX4_one_85 : decode cX4_one 85 = .ok (.bipush 41, 2) := zd_at zhX4_one_78 5 rfl
theorem dX4_one_87 : decode cX4_one 87 = .ok (.invokevirtual 37, 3) := zd_at zhX4_one_78 6 rfl
theorem dX4_one_90 : decode cX4_one 90 = .ok (.goto 7, 3) := zd_at zhX4_one_78 7 rfl
theorem dX4_one_93 : decode cX4_one 93 = .ok (.aload_n 0, 1) := zd_at zhX4_one_78 8 rfl
theorem dX4_one_94 : decode cX4_one 94 = .ok (.invokevirtual 51, 3) := zd_at zhX4_one_78 9 rfl
theorem dX4_one_97 : decode cX4_one 97 = .ok (.iload_n 1, 1) := zd_at zhX4_one_78 10 rfl
theorem dX4_one_98 : decode cX4_one 98 = .ok (.istore_n 3, 1) := zd_at zhX4_one_78 11 rfl
theorem dX4_one_99 : decode cX4_one 99 = .ok (.iload_n 3, 1) := zd_at zhX4_one_78 12 rfl
theorem dX4_one_100 : decode cX4_one 100 = .ok (.iload_n 2, 1) := zd_at zhX4_one_78 13 rfl
theorem dX4_one_101 : decode cX4_one 101 = .ok (.if_icmp .ge 18, 3) := zd_at zhX4_one_78 14 rfl
theorem dX4_one_104 : decode cX4_one 104 = .ok (.aload_n 0, 1) := zd_at zhX4_one_78 15 rfl
theorem dX4_one_105 : decode cX4_one 105 = .ok (.getfield 15, 3) := zd_at zhX4_one_78 16 rfl
theorem dX4_one_108 : decode cX4_one 108 = .ok (.bipush (-7), 2) := zd_at zhX4_one_78 17 rfl
theorem dX4_one_110 : decode cX4_one 110 = .ok (.invokevirtual 63, 3) := zd_at zhX4_one_78 18 rfl
theorem dX4_one_113 : decode cX4_one 113 = .ok (.iinc 3 1, 3) := zd_at zhX4_one_78 19 rfl
theorem dX4_one_116 : decode cX4_one 116 = .ok (.goto (-17), 3) := zd_at zhX4_one_78 20 rfl
theorem dX4_one_119 : decode cX4_one 119 = .ok (.return_, 1) := zd_at zhX4_one_78 21 rfl
def ziX4_openAll_0 : List (Nat × Instr × Nat) := [(0, .iload_n 2, 1), (1, .istore_n 3, 1), (2, .iload_n 3, 1), (3, .iconst 5, 1), (4, .if_icmp .ge 21, 3), (7, .aload_n 0, 1), (8, .iload_n 1, 1), (9, .invokevirtual 47, 3), (12, .ifCond .eq 13, 3), (15, .aload_n 0, 1), (16, .invokevirtual 34, 3), (19, .iinc 3 1, 3), (22, .goto (-20), 3), (25, .aload_n 0, 1), (26, .iload_n 1, 1), (27, .invokevirtual 47, 3), (30, .ifCond .eq 7, 3), (33, .aload_n 0, 1), (34, .invokevirtual 51, 3), (37, .iload_n 3, 1), (38, .ireturn, 1)]
theorem zhX4_openAll_0 : zd_chk (cX4_openAll.data.toList.drop 0) 0 ziX4_openAll_0 = true := by decide +kernel
theorem dX4_openAll_0 : decode cX4_openAll 0 = .ok (.iload_n 2, 1) := zd_at zhX4_openAll_0 0 rfl
theorem dX4_openAll_1 : decode cX4_openAll 1 = .ok (.istore_n 3, 1) := zd_at zhX4_openAll_0 1 rfl
theorem dX4_openAll_2 : decode cX4_openAll 2 = .ok (.iload_n 3, 1) := zd_at zhX4_openAll_0 2 rfl
theorem dX4_openAll_3 : decode cX4_openAll 3 = .ok (.iconst 5, 1) := zd_at zhX4_openAll_0 3 rfl
theorem dX4_openAll_4 : decode cX4_openAll 4 = .ok (.if_icmp .ge 21, 3) := zd_at zhX4_openAll_0 4 rfl
theorem dX4_openAll_7 : decode cX4_openAll 7 = .ok (.aload_n 0, 1) := zd_at zhX4_openAll_0 5 rfl
theorem dX4_openAll_8 : decode cX4_openAll 8 = .ok (.iload_n 1, 1) := zd_at zhX4_openAll_0 6 rfl
theorem dX4_openAll_9 : decode cX4_openAll 9 = .ok (.invokevirtual 47, 3) := zd_at zhX4_openAll_0 7 rfl
theorem dX4_openAll_12 : decode cX4_openAll 12 = .ok (.ifCond .eq 13, 3) := zd_at zhX4_openAll_0 8 rfl
theorem dX4_openAll_15 : decode cX4_openAll 15 = .ok (.aload_n 0, 1) := zd_at zhX4_openAll_0 9 rfl
theorem dX4_openAll_16 : decode cX4_openAll 16 = .ok (.invokevirtual 34, 3) := zd_at zhX4_openAll_0 10 rfl
theorem dX4_openAll_19 : decode cX4_openAll 19 = .ok (.iinc 3 1, 3) := zd_at zhX4_openAll_0 11 rfl
theorem dX4_openAll_22 : decode cX4_openAll 22 = .ok (.goto (-20), 3) := zd_at zhX4_openAll_0 12 rfl
theorem dX4_openAll_25 : decode cX4_openAll 25 = .ok (.aload_n 0, 1) := zd_at zhX4_openAll_0 13 rfl
theorem dX4_openAll_26 : decode cX4_openAll 26 = .ok (.iload_n 1, 1) := zd_at zhX4_openAll_0 14 rfl
theorem dX4_openAll_27 : decode cX4_openAll 27 = .ok (.invokevirtual 47, 3) := zd_at zhX4_openAll_0 15 rfl
theorem dX4_openAll_30 : decode cX4_openAll 30 = .ok (.ifCond .eq 7, 3) := zd_at zhX4_openAll_0 16 rfl
theorem dX4_openAll_33 : decode cX4_openAll 33 = .ok (.aload_n 0, 1) := zd_at zhX4_openAll_0 17 rfl
theorem dX4_openAll_34 : decode cX4_openAll 34 = .ok (.invokevirtual 51, 3) := zd_at zhX4_openAll_0 18 rfl
theorem dX4_openAll_37 : decode cX4_openAll 37 = .ok (.iload_n 3, 1) := zd_at zhX4_openAll_0 19 rfl
theorem dX4_openAll_38 : decode cX4_openAll 38 = .ok (.ireturn, 1) := zd_at zhX4_openAll_0 20 rfl
def ziX4_advance_0 : List (Nat × Instr × Nat) := [(0, .aload_n 0, 1), (1, .getfield 31, 3), (4, .aload_n 0, 1), (5, .getfield 19, 3), (8, .if_icmp .ge 44, 3), (11, .aload_n 0, 1), (12, .getfield 9, 3), (15, .aload_n 0, 1), (16, .getfield 31, 3), (19, .iaload, 1), (20, .bipush 32, 2), (22, .if_icmp .eq 17, 3), (25, .aload_n 0, 1), (26, .getfield 9, 3), (29, .aload_n 0, 1), (30, .getfield 31, 3), (33, .iaload, 1), (34, .bipush 10, 2), (36, .if_icmp .ne 16, 3), (39, .aload_n 0, 1), (40, .dup, 1), (41, .getfield 31, 3), (44, .iconst 1, 1), (45, .iadd, 1), (46, .putfield 31, 3), (49, .goto (-49), 3), (52, .aload_n 0, 1), (53, .aload_n 0, 1), (54, .getfield 31, 3), (57, .putfield 57, 3), (60, .aload_n 0, 1), (61, .getfield 31, 3), (64, .aload_n 0, 1), (65, .getfield 19, 3), (68, .if_icmp .lt 11, 3), (71, .aload_n 0, 1), (72, .iconst 0, 1), (73, .putfield 54, 3), (76, .goto 51, 3), (79, .aload_n 0, 1)]
theorem zhX4_advance_0 : zd_chk (cX4_advance.data.toList.drop 0) 0 ziX4_advance_0 = true := by decide +kernel
theorem dX4_advance_0 : decode cX4_advance 0 = .ok (.aload_n 0, 1) := zd_at zhX4_advance_0 0 rfl
theorem dX4_advance_1 : decode cX4_advance 1 = .ok (.getfield 31, 3) := zd_at zhX4_advance_0 1 rfl
theorem dX4_advance_4 : decode cX4_advance 4 = .ok (.aload_n 0, 1) := zd_at zhX4_advance_0 2 rfl
theorem dX4_advance_5 : decode cX4_advance 5 = .ok (.getfield 19, 3) := zd_at zhX4_advance_0 3 rfl
theorem dX4_advance_8 : decode cX4_advance 8 = .ok (.if_icmp .ge 44, 3) := zd_at zhX4_advance_0 4 rfl
theorem dX4_advance_11 : decode cX4_advance 11 = .ok (.aload_n 0, 1) := zd_at zhX4_advance_0 5 rfl
theorem dX4_advance_12 : decode cX4_advance 12 = .ok (.getfield 9, 3) := zd_at zhX4_advance_0 6 rfl
theorem dX4_advance_15 : decode cX4_advance 15 = .ok (.aload_n 0, 1) := zd_at zhX4_advance_0 7 rfl
theorem dX4_advance_16 : decode cX4_advance 16 = .ok (.getfield 31, 3) := zd_at zhX4_advance_0 8 rfl
theorem dX4_advance_19 : decode cX4_advance 19 = .ok (.iaload, 1) := zd_at zhX4_advance_0 9 rfl
theorem dX4_advance_20 : decode cX4_advance 20 = .ok (.bipush 32, 2) := zd_at zhX4_advance_0 10 rfl
theorem dX4_advance_22 : decode cX4_advance 22 = .ok (.if_icmp .eq 17, 3) := zd_at zhX4_advance_0 11 rfl
theorem dX4_advance_25 : decode cX4_advance 25 = .ok (.aload_n 0, 1) := zd_at zhX4_advance_0 12 rfl
theorem dX4_advance_26 : decode cX4_advance 26 = .ok (.getfield 9, 3) := zd_at zhX4_advance_0 13 rfl
theorem dX4_advance_29 : decode cX4_advance 29 = .ok (.aload_n 0, 1) := zd_at zhX4_advance_0 14 rfl
theorem dX4_advance_30 : decode cX4_advance 30 = .ok (.getfield 31, 3) := zd_at zhX4_advance_0 15 rfl
theorem dX4_advance_33 : decode cX4_advance 33 = .ok (.iaload, 1) := zd_at zhX4_advance_0 16 rfl
theorem dX4_advance_34 : decode cX4_advance 34 = .ok (.bipush 10, 2) := zd_at zhX4_advance_0 17 rfl
theorem dX4_advance_36 : decode cX4_advance 36 = .ok (.if_icmp .ne 16, 3) := zd_at zhX4_advance_0 18 rfl
theorem dX4_advance_39 : decode cX4_advance 39 = .ok (.aload_n 0, 1) := zd_at zhX4_advance_0 19 rfl
theorem dX4_advance_40 : decode cX4_advance 40 = .ok (.dup, 1) := zd_at zhX4_advance_0 20 rfl
theorem dX4_advance_41 : decode cX4_advance 41 = .ok (.getfield 31, 3) := zd_at zhX4_advance_0 21 rfl
theorem dX4_advance_44 : decode cX4_advance 44 = .ok (.iconst 1, 1) := zd_at zhX4_advance_0 22 rfl
theorem dX4_advance_45 : decode cX4_advance 45 = .ok (.iadd, 1) := zd_at zhX4_advance_0 23 rfl
theorem dX4_advance_46 : decode cX4_advance 46 = .ok (.putfield 31, 3) := zd_at zhX4_advance_0 24 rfl
theorem dX4_advance_49 : decode cX4_advance 49 = .ok (.goto (-49), 3) := zd_at zhX4_advance_0 25 rfl
theorem dX4_advance_52 : decode cX4_advance 52 = .ok (.aload_n 0, 1) := zd_at zhX4_advance_0 26 rfl
theorem dX4_advance_53 : decode cX4_advance 53 = .ok (.aload_n 0, 1) := zd_at zhX4_advance_0 27 rfl
theorem dX4_advance_54 : decode cX4_advance 54 = .ok (.getfield 31, 3) := zd_at zhX4_advance_0 28 rfl
theorem dX4_advance_57 : decode cX4_advance 57 = .ok (.putfield 57, 3) := zd_at zhX4_advance_0 29 rfl
theorem dX4_advance_60 : decode cX4_advance 60 = .ok (.aload_n 0, 1) := zd_at zhX4_advance_0 30 rfl
theorem dX4_advance_61 : decode cX4_advance 61 = .ok (.getfield 31, 3) := zd_at zhX4_advance_0 31 rfl
theorem dX4_advance_64 : decode cX4_advance 64 = .ok (.aload_n 0, 1) := zd_at zhX4_advance_0 32 rfl
theorem dX4_advance_65 : decode cX4_advance 65 = .ok (.getfield 19, 3) := zd_at zhX4_advance_0 33 rfl
theorem dX4_advance_68 : decode cX4_advance 68 = .ok (.if_icmp .lt 11, 3) := zd_at zhX4_advance_0 34 rfl
theorem dX4_advance_71 : decode cX4_advance 71 = .ok (.aload_n 0, 1) := zd_at zhX4_advance_0 35 rfl
theorem dX4_advance_72 : decode cX4_advance 72 = .ok (.iconst 0, 1) := zd_at zhX4_advance_0 36 rfl
theorem dX4_advance_73 : decode cX4_advance 73 = .ok (.putfield 54, 3) := zd_at zhX4_advance_0 37 rfl
theorem dX4_advance_76 : decode cX4_advance 76 = .ok (.goto 51, 3) := zd_at zhX4_advance_0 38 rfl
theorem dX4_advance_79 : decode cX4_advance 79 = .ok (.aload_n 0, 1) := zd_at zhX4_advance_0 39 rfl
def ziX4_advance_80 : List (Nat × Instr × Nat) := [(80, .getfield 9, 3), (83, .aload_n 0, 1), (84, .getfield 31, 3), (87, .iaload, 1), (88, .invokestatic 85, 3), (91, .ifCond .eq 10, 3), (94, .aload_n 0, 1), (95, .invokevirtual 88, 3), (98, .goto 29, 3), (101, .aload_n 0, 1), (102, .getfield 9, 3), (105, .aload_n 0, 1), (106, .getfield 31, 3), (109, .iaload, 1), (110, .invokestatic 91, 3), (113, .ifCond .eq 10, 3), (116, .aload_n 0, 1), (117, .invokevirtual 94, 3), (120, .goto 7, 3), (123, .aload_n 0, 1), (124, .invokevirtual 97, 3), (127, .return_, 1)]
theorem zhX4_advance_80 : zd_chk (cX4_advance.data.toList.drop 80) 80 ziX4_advance_80 = true := by decide +kernel
theorem dX4_advance_80 : decode cX4_advance 80 = .ok (.getfield 9, 3) := zd_at zhX4_advance_80 0 rfl
theorem dX4_advance_83 : decode cX4_advance 83 = .ok (.aload_n 0, 1) := zd_at zhX4_advance_80 1 rfl
theorem dX4_advance_84 : decode cX4_advance 84 = .ok (.getfield 31, 3) := zd_at zhX4_advance_80 2 rfl
theorem dX4_advance_87 : decode cX4_advance 87 = .ok (.iaload, 1) := zd_at zhX4_advance_80 3 rfl
theorem dX4_advance_88 : decode cX4_advance 88 = .ok (.invokestatic 85, 3) := zd_at zhX4_advance_80 4 rfl
theorem dX4_advance_91 : decode cX4_advance 91 = .ok (.ifCond .eq 10, 3) := zd_at zhX4_advance_80 5 rfl
theorem dX4_advance_94 : decode cX4_advance 94 = .ok (.aload_n 0, 1) := zd_at zhX4_advance_80 6 rfl
theorem dX4_advance_95 : decode cX4_advance 95 = .ok (.invokevirtual 88, 3) := zd_at zhX4_advance_80 7 rfl
theorem dX4_advance_98 : decode cX4_advance 98 = .ok (.goto 29, 3) := zd_at zhX4_advance_80 8 rfl
theorem dX4_advance_101 : decode cX4_advance 101 = .ok (.aload_n 0, 1) := zd_at zhX4_advance_80 9 rfl
theorem dX4_advance_102 : decode cX4_advance 102 = .ok (.getfield 9, 3) := zd_at zhX4_advance_80 10 rfl
theorem dX4_advance_105 : decode cX4_advance 105 = .ok (.aload_n 0, 1) := zd_at zhX4_advance_80 11 rfl
theorem dX4_advance_106 : decode cX4_advance 106 = .ok (.getfield 31, 3) := zd_at zhX4_advance_80 12 rfl
theorem dX4_advance_109 : decode cX4_advance 109 = .ok (.iaload, 1) := zd_at zhX4_advance_80 13 rfl
theorem dX4_advance_110 : decode cX4_advance 110 = .ok (.invokestatic 91, 3) := zd_at zhX4_advance_80 14 rfl
theorem dX4_advance_113 : decode cX4_advance 113 = .ok (.ifCond .eq 10, 3) := zd_at zhX4_advance_80 15 rfl
theorem dX4_advance_116 : decode cX4_advance 116 = .ok (.aload_n 0, 1) := zd_at zhX4_advance_80 16 rfl
theorem dX4_advance_117 : decode cX4_advance 117 = .ok (.invokevirtual 94, 3) := zd_at zhX4_advance_80 17 rfl
theorem dX4_advance_120 : decode cX4_advance 120 = .ok (.goto 7, 3) := zd_at zhX4_advance_80 18 rfl
theorem dX4_advance_123 : decode cX4_advance 123 = .ok (.aload_n 0, 1) := zd_at zhX4_advance_80 19 rfl
theorem dX4_advance_124 : decode cX4_advance 124 = .ok (.invokevirtual 97, 3) := zd_at zhX4_advance_80 20 rfl
theorem dX4_advance_127 : decode cX4_advance 127 = .ok (.return_, 1) := zd_at zhX4_advance_80 21 rfl
def ziX4_readWord_0 : List (Nat × Instr × Nat) := [(0, .aload_n 0, 1), (1, .getfield 31, 3), (4, .aload_n 0, 1), (5, .getfield 19, 3), (8, .if_icmp .ge 31, 3), (11, .aload_n 0, 1), (12, .getfield 9, 3), (15, .aload_n 0, 1), (16, .getfield 31, 3), (19, .iaload, 1), (20, .invokestatic 85, 3), (23, .ifCond .eq 16, 3), (26, .aload_n 0, 1), (27, .dup, 1), (28, .getfield 31, 3), (31, .iconst 1, 1), (32, .iadd, 1), (33, .putfield 31, 3), (36, .goto (-36), 3), (39, .aload_n 0, 1), (40, .iconst 1, 1), (41, .putfield 54, 3), (44, .iconst 0, 1), (45, .istore_n 1, 1), (46, .iload_n 1, 1), (47, .bipush 12, 2), (49, .if_icmp .ge 48, 3), (52, .aload_n 0, 1), (53, .iload_n 1, 1), (54, .invokestatic 100, 3), (57, .invokevirtual 104, 3), (60, .ifCond .ne 6, 3), (63, .goto 28, 3), (66, .aload_n 0, 1), (67, .iload_n 1, 1), (68, .bipush 6, 2), (70, .if_icmp .ge 7, 3), (73, .iconst 3, 1), (74, .goto 9, 3), (77, .iconst 4, 1)]
theorem zhX4_readWord_0 : zd_chk (cX4_readWord.data.toList.drop 0) 0 ziX4_readWord_0 = true := by decide +kernel
theorem dX4_readWord_0 : decode cX4_readWord 0 = .ok (.aload_n 0, 1) := zd_at zhX4_readWord_0 0 rfl
theorem dX4_readWord_1 : decode cX4_readWord 1 = .ok (.getfield 31, 3) := zd_at zhX4_readWord_0 1 rfl
theorem dX4_readWord_4 : decode cX4_readWord 4 = .ok (.aload_n 0, 1) := zd_at zhX4_readWord_0 2 rfl
theorem dX4_readWord_5 : decode cX4_readWord 5 = .ok (.getfield 19, 3) := zd_at zhX4_readWord_0 3 rfl
theorem dX4_readWord_8 : decode cX4_readWord 8 = .ok (.if_icmp .ge 31, 3) := zd_at zhX4_readWord_0 4 rfl
theorem dX4_readWord_11 : decode cX4_readWord 11 = .ok (.aload_n 0, 1) := zd_at zhX4_readWord_0 5 rfl
theorem dX4_readWord_12 : decode cX4_readWord 12 = .ok (.getfield 9, 3) := zd_at zhX4_readWord_0 6 rfl
theorem dX4_readWord_15 : decode cX4_readWord 15 = .ok (.aload_n 0, 1) := zd_at zhX4_readWord_0 7 rfl
theorem dX4_readWord_16 : decode cX4_readWord 16 = .ok (.getfield 31, 3) := zd_at zhX4_readWord_0 8 rfl
theorem dX4_readWord_19 : decode cX4_readWord 19 = .ok (.iaload, 1) := zd_at zhX4_readWord_0 9 rfl
theorem dX4_readWord_20 : decode cX4_readWord 20 = .ok (.invokestatic 85, 3) := zd_at zhX4_readWord_0 10 rfl
theorem dX4_readWord_23 : decode cX4_readWord 23 = .ok (.ifCond .eq 16, 3) := zd_at zhX4_readWord_0 11 rfl
theorem dX4_readWord_26 : decode cX4_readWord 26 = .ok (.aload_n 0, 1) := zd_at zhX4_readWord_0 12 rfl
theorem dX4_readWord_27 : decode cX4_readWord 27 = .ok (.dup, 1) := zd_at zhX4_readWord_0 13 rfl
theorem dX4_readWord_28 : decode cX4_readWord 28 = .ok (.getfield 31, 3) := zd_at zhX4_readWord_0 14 rfl
theorem dX4_readWord_31 : decode cX4_readWord 31 = .ok (.iconst 1, 1) := zd_at zhX4_readWord_0 15 rfl
theorem dX4_readWord_32 : decode cX4_readWord 32 = .ok (.iadd, 1) := zd_at zhX4_readWord_0 16 rfl
theorem dX4_readWord_33 : decode cX4_readWord 33 = .ok (.putfield 31, 3) := zd_at zhX4_readWord_0 17 rfl
theorem dX4_readWord_36 : decode cX4_readWord 36 = .ok (.goto (-36), 3) := zd_at zhX4_readWord_0 18 rfl
theorem dX4_readWord_39 : decode cX4_readWord 39 = .ok (.aload_n 0, 1) := zd_at zhX4_readWord_0 19 rfl
theorem dX4_readWord_40 : decode cX4_readWord 40 = .ok (.iconst 1, 1) := zd_at zhX4_readWord_0 20 rfl
theorem dX4_readWord_41 : decode cX4_readWord 41 = .ok (.putfield 54, 3) := zd_at zhX4_readWord_0 21 rfl
theorem dX4_readWord_44 : decode cX4_readWord 44 = .ok (.iconst 0, 1) := zd_at zhX4_readWord_0 22 rfl
theorem dX4_readWord_45 : decode cX4_readWord 45 = .ok (.istore_n 1, 1) := zd_at zhX4_readWord_0 23 rfl
theorem dX4_readWord_46 : decode cX4_readWord 46 = .ok (.iload_n 1, 1) := zd_at zhX4_readWord_0 24 rfl
theorem dX4_readWord_47 : decode cX4_readWord 47 = .ok (.bipush 12, 2) := zd_at zhX4_readWord_0 25 rfl
theorem dX4_readWord_49 : decode cX4_readWord 49 = .ok (.if_icmp .ge 48, 3) := zd_at zhX4_readWord_0 26 rfl
theorem dX4_readWord_52 : decode cX4_readWord 52 = .ok (.aload_n 0, 1) := zd_at zhX4_readWord_0 27 rfl
theorem dX4_readWord_53 : decode cX4_readWord 53 = .ok (.iload_n 1, 1) := zd_at zhX4_readWord_0 28 rfl
theorem dX4_readWord_54 : decode cX4_readWord 54 = .ok (.invokestatic 100, 3) := zd_at zhX4_readWord_0 29 rfl
theorem dX4_readWord_57 : decode cX4_readWord 57 = .ok (.invokevirtual 104, 3) := zd_at zhX4_readWord_0 30 rfl
theorem dX4_readWord_60 : decode cX4_readWord 60 = .ok (.ifCond .ne 6, 3) := zd_at zhX4_readWord_0 31 rfl
theorem dX4_readWord_63 : decode cX4_readWord 63 = .ok (.goto 28, 3) := zd_at zhX4_readWord_0 32 rfl
theorem dX4_readWord_66 : decode cX4_readWord 66 = .ok (.aload_n 0, 1) := zd_at zhX4_readWord_0 33 rfl
theorem dX4_readWord_67 : decode cX4_readWord 67 = .ok (.iload_n 1, 1) := zd_at zhX4_readWord_0 34 rfl
theorem dX4_readWord_68 : decode cX4_readWord 68 = .ok (.bipush 6, 2) := zd_at zhX4_readWord_0 35 rfl
theorem dX4_readWord_70 : decode cX4_readWord 70 = .ok (.if_icmp .ge 7, 3) := zd_at zhX4_readWord_0 36 rfl
theorem dX4_readWord_73 : decode cX4_readWord 73 = .ok (.iconst 3, 1) := zd_at zhX4_readWord_0 37 rfl
theorem dX4_readWord_74 : decode cX4_readWord 74 = .ok (.goto 9, 3) := zd_at zhX4_readWord_0 38 rfl
theorem dX4_readWord_77 : decode cX4_readWord 77 = .ok (.iconst 4, 1) := zd_at zhX4_readWord_0 39 rfl
def ziX4_readWord_78 : List (Nat × Instr × Nat) := [(78, .iload_n 1, 1), (79, .iadd, 1), (80, .bipush 6, 2), (82, .isub, 1), (83, .putfield 54, 3), (86, .aload_n 0, 1), (87, .iload_n 1, 1), (88, .putfield 82, 3), (91, .iinc 1 1, 3), (94, .goto (-48), 3), (97, .return_, 1)]
theorem zhX4_readWord_78 : zd_chk (cX4_readWord.data.toList.drop 78) 78 ziX4_readWord_78 = true := by decide +kernel
theorem dX4_readWord_78 : decode cX4_readWord 78 = .ok (.iload_n 1, 1) := zd_at zhX4_readWord_78 0 rfl
theorem dX4_readWord_79 : decode cX4_readWord 79 = .ok (.iadd, 1) := zd_at zhX4_readWord_78 1 rfl
theorem dX4_readWord_80 : decode cX4_readWord 80 = .ok (.bipush 6, 2) := zd_at zhX4_readWord_78 2 rfl
theorem dX4_readWord_82 : decode cX4_readWord 82 = .ok (.isub, 1) := zd_at zhX4_readWord_78 3 rfl
theorem dX4_readWord_83 : decode cX4_readWord 83 = .ok (.putfield 54, 3) := zd_at zhX4_readWord_78 4 rfl
theorem dX4_readWord_86 : decode cX4_readWord 86 = .ok (.aload_n 0, 1) := zd_at zhX4_readWord_78 5 rfl
theorem dX4_readWord_87 : decode cX4_readWord 87 = .ok (.iload_n 1, 1) := zd_at zhX4_readWord_78 6 rfl
theorem dX4_readWord_88 : decode cX4_readWord 88 = .ok (.putfield 82, 3) := zd_at zhX4_readWord_78 7 rfl
theorem dX4_readWord_91 : decode cX4_readWord 91 = .ok (.iinc 1 1, 3) := zd_at zhX4_readWord_78 8 rfl
theorem dX4_readWord_94 : decode cX4_readWord 94 = .ok (.goto (-48), 3) := zd_at zhX4_readWord_78 9 rfl
theorem dX4_readWord_97 : decode cX4_readWord 97 = .ok (.return_, 1) := zd_at zhX4_readWord_78 10 rfl
def ziX4_stands_0 : List (Nat × Instr × Nat) := [(0, .aload_n 1, 1), (1, .invokevirtual 108, 3), (4, .aload_n 0, 1), (5, .getfield 31, 3), (8, .aload_n 0, 1), (9, .getfield 57, 3), (12, .isub, 1), (13, .if_icmp .eq 5, 3), (16, .iconst 0, 1), (17, .ireturn, 1), (18, .iconst 0, 1), (19, .istore_n 2, 1), (20, .iload_n 2, 1), (21, .aload_n 1, 1), (22, .invokevirtual 108, 3), (25, .if_icmp .ge 30, 3), (28, .aload_n 0, 1), (29, .getfield 9, 3), (32, .aload_n 0, 1), (33, .getfield 57, 3), (36, .iload_n 2, 1), (37, .iadd, 1), (38, .iaload, 1), (39, .aload_n 1, 1), (40, .iload_n 2, 1), (41, .invokevirtual 114, 3), (44, .if_icmp .eq 5, 3), (47, .iconst 0, 1), (48, .ireturn, 1), (49, .iinc 2 1, 3), (52, .goto (-32), 3), (55, .iconst 1, 1), (56, .ireturn, 1)]
theorem zhX4_stands_0 : zd_chk (cX4_stands.data.toList.drop 0) 0 ziX4_stands_0 = true := by decide +kernel
theorem dX4_stands_0 : decode cX4_stands 0 = .ok (.aload_n 1, 1) := zd_at zhX4_stands_0 0 rfl
theorem dX4_stands_1 : decode cX4_stands 1 = .ok (.invokevirtual 108, 3) := zd_at zhX4_stands_0 1 rfl
theorem dX4_stands_4 : decode cX4_stands 4 = .ok (.aload_n 0, 1) := zd_at zhX4_stands_0 2 rfl
theorem dX4_stands_5 : decode cX4_stands 5 = .ok (.getfield 31, 3) := zd_at zhX4_stands_0 3 rfl
theorem dX4_stands_8 : decode cX4_stands 8 = .ok (.aload_n 0, 1) := zd_at zhX4_stands_0 4 rfl
theorem dX4_stands_9 : decode cX4_stands 9 = .ok (.getfield 57, 3) := zd_at zhX4_stands_0 5 rfl
theorem dX4_stands_12 : decode cX4_stands 12 = .ok (.isub, 1) := zd_at zhX4_stands_0 6 rfl
theorem dX4_stands_13 : decode cX4_stands 13 = .ok (.if_icmp .eq 5, 3) := zd_at zhX4_stands_0 7 rfl
theorem dX4_stands_16 : decode cX4_stands 16 = .ok (.iconst 0, 1) := zd_at zhX4_stands_0 8 rfl
theorem dX4_stands_17 : decode cX4_stands 17 = .ok (.ireturn, 1) := zd_at zhX4_stands_0 9 rfl
theorem dX4_stands_18 : decode cX4_stands 18 = .ok (.iconst 0, 1) := zd_at zhX4_stands_0 10 rfl
theorem dX4_stands_19 : decode cX4_stands 19 = .ok (.istore_n 2, 1) := zd_at zhX4_stands_0 11 rfl
theorem dX4_stands_20 : decode cX4_stands 20 = .ok (.iload_n 2, 1) := zd_at zhX4_stands_0 12 rfl
theorem dX4_stands_21 : decode cX4_stands 21 = .ok (.aload_n 1, 1) := zd_at zhX4_stands_0 13 rfl
theorem dX4_stands_22 : decode cX4_stands 22 = .ok (.invokevirtual 108, 3) := zd_at zhX4_stands_0 14 rfl
theorem dX4_stands_25 : decode cX4_stands 25 = .ok (.if_icmp .ge 30, 3) := zd_at zhX4_stands_0 15 rfl
theorem dX4_stands_28 : decode cX4_stands 28 = .ok (.aload_n 0, 1) := zd_at zhX4_stands_0 16 rfl
theorem dX4_stands_29 : decode cX4_stands 29 = .ok (.getfield 9, 3) := zd_at zhX4_stands_0 17 rfl
theorem dX4_stands_32 : decode cX4_stands 32 = .ok (.aload_n 0, 1) := zd_at zhX4_stands_0 18 rfl
theorem dX4_stands_33 : decode cX4_stands 33 = .ok (.getfield 57, 3) := zd_at zhX4_stands_0 19 rfl
theorem dX4_stands_36 : decode cX4_stands 36 = .ok (.iload_n 2, 1) := zd_at zhX4_stands_0 20 rfl
theorem dX4_stands_37 : decode cX4_stands 37 = .ok (.iadd, 1) := zd_at zhX4_stands_0 21 rfl
theorem dX4_stands_38 : decode cX4_stands 38 = .ok (.iaload, 1) := zd_at zhX4_stands_0 22 rfl
theorem dX4_stands_39 : decode cX4_stands 39 = .ok (.aload_n 1, 1) := zd_at zhX4_stands_0 23 rfl
theorem dX4_stands_40 : decode cX4_stands 40 = .ok (.iload_n 2, 1) := zd_at zhX4_stands_0 24 rfl
theorem dX4_stands_41 : decode cX4_stands 41 = .ok (.invokevirtual 114, 3) := zd_at zhX4_stands_0 25 rfl
theorem dX4_stands_44 : decode cX4_stands 44 = .ok (.if_icmp .eq 5, 3) := zd_at zhX4_stands_0 26 rfl
theorem dX4_stands_47 : decode cX4_stands 47 = .ok (.iconst 0, 1) := zd_at zhX4_stands_0 27 rfl
theorem dX4_stands_48 : decode cX4_stands 48 = .ok (.ireturn, 1) := zd_at zhX4_stands_0 28 rfl
theorem dX4_stands_49 : decode cX4_stands 49 = .ok (.iinc 2 1, 3) := zd_at zhX4_stands_0 29 rfl
theorem dX4_stands_52 : decode cX4_stands 52 = .ok (.goto (-32), 3) := zd_at zhX4_stands_0 30 rfl
theorem dX4_stands_55 : decode cX4_stands 55 = .ok (.iconst 1, 1) := zd_at zhX4_stands_0 31 rfl
theorem dX4_stands_56 : decode cX4_stands 56 = .ok (.ireturn, 1) := zd_at zhX4_stands_0 32 rfl
def ziX4_known_0 : List (Nat × Instr × Nat) := [(0, .iload_n 0, 1)]
theorem zhX4_known_0 : zd_chk (cX4_known.data.toList.drop 0) 0 ziX4_known_0 = true := by decide +kernel
theorem dX4_known_0 : decode cX4_known 0 = .ok (.iload_n 0, 1) := zd_at zhX4_known_0 0 rfl
theorem dX4_known_1 : decode cX4_known 1 = .ok (.tableswitch 92 0 10 #[59, 62, 65, 68, 71, 74, 77, 80, 83, 86, 89], 59) := by decide +kernel
def ziX4_known_60 : List (Nat × Instr × Nat) := [(60, .ldc 118, 2), (62, .areturn, 1), (63, .ldc 120, 2), (65, .areturn, 1), (66, .ldc 122, 2), (68, .areturn, 1), (69, .ldc 124, 2), (71, .areturn, 1), (72, .ldc 126, 2), (74, .areturn, 1), (75, .ldc 128, 2), (77, .areturn, 1), (78, .ldc 130, 2), (80, .areturn, 1), (81, .ldc 132, 2), (83, .areturn, 1), (84, .ldc 134, 2), (86, .areturn, 1), (87, .ldc 136, 2), (89, .areturn, 1), (90, .ldc 138, 2), (92, .areturn, 1), (93, .ldc 140, 2), (95, .areturn, 1)]
theorem zhX4_known_60 : zd_chk (cX4_known.data.toList.drop 60) 60 ziX4_known_60 = true := by decide +kernel
theorem dX4_known_60 : decode cX4_known 60 = .ok (.ldc 118, 2) := zd_at zhX4_known_60 0 rfl
theorem dX4_known_62 : decode cX4_known 62 = .ok (.areturn, 1) := zd_at zhX4_known_60 1 rfl
theorem dX4_known_63 : decode cX4_known 63 = .ok (.ldc 120, 2) := zd_at zhX4_known_60 2 rfl
theorem dX4_known_65 : decode cX4_known 65 = .ok (.areturn, 1) := zd_at zhX4_known_60 3 rfl
theorem dX4_known_66 : decode cX4_known 66 = .ok (.ldc 122, 2) := zd_at zhX4_known_60 4 rfl
theorem dX4_known_68 : decode cX4_known 68 = .ok (.areturn, 1) := zd_at zhX4_known_60 5 rfl
theorem dX4_known_69 : decode cX4_known 69 = .ok (.ldc 124, 2) := zd_at zhX4_known_60 6 rfl
theorem dX4_known_71 : decode cX4_known 71 = .ok (.areturn, 1) := zd_at zhX4_known_60 7 rfl
theorem dX4_known_72 : decode cX4_known 72 = .ok (.ldc 126, 2) := zd_at zhX4_known_60 8 rfl
theorem dX4_known_74 : decode cX4_known 74 = .ok (.areturn, 1) := zd_at zhX4_known_60 9 rfl
theorem dX4_known_75 : decode cX4_known 75 = .ok (.ldc 128, 2) := zd_at zhX4_known_60 10 rfl
theorem dX4_known_77 : decode cX4_known 77 = .ok (.areturn, 1) := zd_at zhX4_known_60 11 rfl
theorem dX4_known_78 : decode cX4_known 78 = .ok (.ldc 130, 2) := zd_at zhX4_known_60 12 rfl
theorem dX4_known_80 : decode cX4_known 80 = .ok (.areturn, 1) := zd_at zhX4_known_60 13 rfl
theorem dX4_known_81 : decode cX4_known 81 = .ok (.ldc 132, 2) := zd_at zhX4_known_60 14 rfl
theorem dX4_known_83 : decode cX4_known 83 = .ok (.areturn, 1) := zd_at zhX4_known_60 15 rfl
theorem dX4_known_84 : decode cX4_known 84 = .ok (.ldc 134, 2) := zd_at zhX4_known_60 16 rfl
theorem dX4_known_86 : decode cX4_known 86 = .ok (.areturn, 1) := zd_at zhX4_known_60 17 rfl
theorem dX4_known_87 : decode cX4_known 87 = .ok (.ldc 136, 2) := zd_at zhX4_known_60 18 rfl
theorem dX4_known_89 : decode cX4_known 89 = .ok (.areturn, 1) := zd_at zhX4_known_60 19 rfl
theorem dX4_known_90 : decode cX4_known 90 = .ok (.ldc 138, 2) := zd_at zhX4_known_60 20 rfl
theorem dX4_known_92 : decode cX4_known 92 = .ok (.areturn, 1) := zd_at zhX4_known_60 21 rfl
theorem dX4_known_93 : decode cX4_known 93 = .ok (.ldc 140, 2) := zd_at zhX4_known_60 22 rfl
theorem dX4_known_95 : decode cX4_known 95 = .ok (.areturn, 1) := zd_at zhX4_known_60 23 rfl
def ziX4_readNumber_0 : List (Nat × Instr × Nat) := [(0, .aload_n 0, 1), (1, .iconst 0, 1), (2, .putfield 82, 3), (5, .aload_n 0, 1), (6, .getfield 31, 3), (9, .aload_n 0, 1), (10, .getfield 19, 3), (13, .if_icmp .ge 55, 3), (16, .aload_n 0, 1), (17, .getfield 9, 3), (20, .aload_n 0, 1), (21, .getfield 31, 3), (24, .iaload, 1), (25, .invokestatic 91, 3), (28, .ifCond .eq 40, 3), (31, .aload_n 0, 1), (32, .aload_n 0, 1), (33, .getfield 82, 3), (36, .bipush 10, 2), (38, .imul, 1), (39, .aload_n 0, 1), (40, .getfield 9, 3), (43, .aload_n 0, 1), (44, .getfield 31, 3), (47, .iaload, 1), (48, .iadd, 1), (49, .bipush 48, 2), (51, .isub, 1), (52, .putfield 82, 3), (55, .aload_n 0, 1), (56, .dup, 1), (57, .getfield 31, 3), (60, .iconst 1, 1), (61, .iadd, 1), (62, .putfield 31, 3), (65, .goto (-60), 3), (68, .aload_n 0, 1), (69, .aload_n 0, 1), (70, .getfield 31, 3), (73, .aload_n 0, 1)]
theorem zhX4_readNumber_0 : zd_chk (cX4_readNumber.data.toList.drop 0) 0 ziX4_readNumber_0 = true := by decide +kernel
theorem dX4_readNumber_0 : decode cX4_readNumber 0 = .ok (.aload_n 0, 1) := zd_at zhX4_readNumber_0 0 rfl
theorem dX4_readNumber_1 : decode cX4_readNumber 1 = .ok (.iconst 0, 1) := zd_at zhX4_readNumber_0 1 rfl
theorem dX4_readNumber_2 : decode cX4_readNumber 2 = .ok (.putfield 82, 3) := zd_at zhX4_readNumber_0 2 rfl
theorem dX4_readNumber_5 : decode cX4_readNumber 5 = .ok (.aload_n 0, 1) := zd_at zhX4_readNumber_0 3 rfl
theorem dX4_readNumber_6 : decode cX4_readNumber 6 = .ok (.getfield 31, 3) := zd_at zhX4_readNumber_0 4 rfl
theorem dX4_readNumber_9 : decode cX4_readNumber 9 = .ok (.aload_n 0, 1) := zd_at zhX4_readNumber_0 5 rfl
theorem dX4_readNumber_10 : decode cX4_readNumber 10 = .ok (.getfield 19, 3) := zd_at zhX4_readNumber_0 6 rfl
theorem dX4_readNumber_13 : decode cX4_readNumber 13 = .ok (.if_icmp .ge 55, 3) := zd_at zhX4_readNumber_0 7 rfl
theorem dX4_readNumber_16 : decode cX4_readNumber 16 = .ok (.aload_n 0, 1) := zd_at zhX4_readNumber_0 8 rfl
theorem dX4_readNumber_17 : decode cX4_readNumber 17 = .ok (.getfield 9, 3) := zd_at zhX4_readNumber_0 9 rfl
theorem dX4_readNumber_20 : decode cX4_readNumber 20 = .ok (.aload_n 0, 1) := zd_at zhX4_readNumber_0 10 rfl
theorem dX4_readNumber_21 : decode cX4_readNumber 21 = .ok (.getfield 31, 3) := zd_at zhX4_readNumber_0 11 rfl
theorem dX4_readNumber_24 : decode cX4_readNumber 24 = .ok (.iaload, 1) := zd_at zhX4_readNumber_0 12 rfl
theorem dX4_readNumber_25 : decode cX4_readNumber 25 = .ok (.invokestatic 91, 3) := zd_at zhX4_readNumber_0 13 rfl
theorem dX4_readNumber_28 : decode cX4_readNumber 28 = .ok (.ifCond .eq 40, 3) := zd_at zhX4_readNumber_0 14 rfl
theorem dX4_readNumber_31 : decode cX4_readNumber 31 = .ok (.aload_n 0, 1) := zd_at zhX4_readNumber_0 15 rfl
theorem dX4_readNumber_32 : decode cX4_readNumber 32 = .ok (.aload_n 0, 1) := zd_at zhX4_readNumber_0 16 rfl
theorem dX4_readNumber_33 : decode cX4_readNumber 33 = .ok (.getfield 82, 3) := zd_at zhX4_readNumber_0 17 rfl
theorem dX4_readNumber_36 : decode cX4_readNumber 36 = .ok (.bipush 10, 2) := zd_at zhX4_readNumber_0 18 rfl
theorem dX4_readNumber_38 : decode cX4_readNumber 38 = .ok (.imul, 1) := zd_at zhX4_readNumber_0 19 rfl
theorem dX4_readNumber_39 : decode cX4_readNumber 39 = .ok (.aload_n 0, 1) := zd_at zhX4_readNumber_0 20 rfl
theorem dX4_readNumber_40 : decode cX4_readNumber 40 = .ok (.getfield 9, 3) := zd_at zhX4_readNumber_0 21 rfl
theorem dX4_readNumber_43 : decode cX4_readNumber 43 = .ok (.aload_n 0, 1) := zd_at zhX4_readNumber_0 22 rfl
theorem dX4_readNumber_44 : decode cX4_readNumber 44 = .ok (.getfield 31, 3) := zd_at zhX4_readNumber_0 23 rfl
theorem dX4_readNumber_47 : decode cX4_readNumber 47 = .ok (.iaload, 1) := zd_at zhX4_readNumber_0 24 rfl
theorem dX4_readNumber_48 : decode cX4_readNumber 48 = .ok (.iadd, 1) := zd_at zhX4_readNumber_0 25 rfl
theorem dX4_readNumber_49 : decode cX4_readNumber 49 = .ok (.bipush 48, 2) := zd_at zhX4_readNumber_0 26 rfl
theorem dX4_readNumber_51 : decode cX4_readNumber 51 = .ok (.isub, 1) := zd_at zhX4_readNumber_0 27 rfl
theorem dX4_readNumber_52 : decode cX4_readNumber 52 = .ok (.putfield 82, 3) := zd_at zhX4_readNumber_0 28 rfl
theorem dX4_readNumber_55 : decode cX4_readNumber 55 = .ok (.aload_n 0, 1) := zd_at zhX4_readNumber_0 29 rfl
theorem dX4_readNumber_56 : decode cX4_readNumber 56 = .ok (.dup, 1) := zd_at zhX4_readNumber_0 30 rfl
theorem dX4_readNumber_57 : decode cX4_readNumber 57 = .ok (.getfield 31, 3) := zd_at zhX4_readNumber_0 31 rfl
theorem dX4_readNumber_60 : decode cX4_readNumber 60 = .ok (.iconst 1, 1) := zd_at zhX4_readNumber_0 32 rfl
theorem dX4_readNumber_61 : decode cX4_readNumber 61 = .ok (.iadd, 1) := zd_at zhX4_readNumber_0 33 rfl
theorem dX4_readNumber_62 : decode cX4_readNumber 62 = .ok (.putfield 31, 3) := zd_at zhX4_readNumber_0 34 rfl
theorem dX4_readNumber_65 : decode cX4_readNumber 65 = .ok (.goto (-60), 3) := zd_at zhX4_readNumber_0 35 rfl
theorem dX4_readNumber_68 : decode cX4_readNumber 68 = .ok (.aload_n 0, 1) := zd_at zhX4_readNumber_0 36 rfl
theorem dX4_readNumber_69 : decode cX4_readNumber 69 = .ok (.aload_n 0, 1) := zd_at zhX4_readNumber_0 37 rfl
theorem dX4_readNumber_70 : decode cX4_readNumber 70 = .ok (.getfield 31, 3) := zd_at zhX4_readNumber_0 38 rfl
theorem dX4_readNumber_73 : decode cX4_readNumber 73 = .ok (.aload_n 0, 1) := zd_at zhX4_readNumber_0 39 rfl
def ziX4_readNumber_74 : List (Nat × Instr × Nat) := [(74, .getfield 57, 3), (77, .isub, 1), (78, .iconst 4, 1), (79, .if_icmp .le 7, 3), (82, .iconst 1, 1), (83, .goto 4, 3), (86, .iconst 2, 1), (87, .putfield 54, 3), (90, .return_, 1)]
theorem zhX4_readNumber_74 : zd_chk (cX4_readNumber.data.toList.drop 74) 74 ziX4_readNumber_74 = true := by decide +kernel
theorem dX4_readNumber_74 : decode cX4_readNumber 74 = .ok (.getfield 57, 3) := zd_at zhX4_readNumber_74 0 rfl
theorem dX4_readNumber_77 : decode cX4_readNumber 77 = .ok (.isub, 1) := zd_at zhX4_readNumber_74 1 rfl
theorem dX4_readNumber_78 : decode cX4_readNumber 78 = .ok (.iconst 4, 1) := zd_at zhX4_readNumber_74 2 rfl
theorem dX4_readNumber_79 : decode cX4_readNumber 79 = .ok (.if_icmp .le 7, 3) := zd_at zhX4_readNumber_74 3 rfl
theorem dX4_readNumber_82 : decode cX4_readNumber 82 = .ok (.iconst 1, 1) := zd_at zhX4_readNumber_74 4 rfl
theorem dX4_readNumber_83 : decode cX4_readNumber 83 = .ok (.goto 4, 3) := zd_at zhX4_readNumber_74 5 rfl
theorem dX4_readNumber_86 : decode cX4_readNumber 86 = .ok (.iconst 2, 1) := zd_at zhX4_readNumber_74 6 rfl
theorem dX4_readNumber_87 : decode cX4_readNumber 87 = .ok (.putfield 54, 3) := zd_at zhX4_readNumber_74 7 rfl
theorem dX4_readNumber_90 : decode cX4_readNumber 90 = .ok (.return_, 1) := zd_at zhX4_readNumber_74 8 rfl
def ziX4_readSign_0 : List (Nat × Instr × Nat) := [(0, .aload_n 0, 1), (1, .getfield 9, 3), (4, .aload_n 0, 1), (5, .getfield 31, 3), (8, .iaload, 1), (9, .istore_n 1, 1), (10, .iload_n 1, 1), (11, .bipush 40, 2), (13, .if_icmp .eq 45, 3), (16, .iload_n 1, 1), (17, .bipush 41, 2), (19, .if_icmp .eq 39, 3), (22, .iload_n 1, 1), (23, .bipush 59, 2), (25, .if_icmp .eq 33, 3), (28, .iload_n 1, 1), (29, .bipush 43, 2), (31, .if_icmp .eq 27, 3), (34, .iload_n 1, 1), (35, .bipush 45, 2), (37, .if_icmp .eq 21, 3), (40, .iload_n 1, 1), (41, .bipush 42, 2), (43, .if_icmp .eq 15, 3), (46, .iload_n 1, 1), (47, .bipush 60, 2), (49, .if_icmp .eq 9, 3), (52, .iload_n 1, 1), (53, .bipush 61, 2), (55, .if_icmp .ne 7, 3), (58, .iconst 1, 1), (59, .goto 4, 3), (62, .iconst 0, 1), (63, .istore_n 2, 1), (64, .aload_n 0, 1), (65, .iload_n 2, 1), (66, .ifCond .eq 7, 3), (69, .iload_n 1, 1), (70, .goto 4, 3), (73, .iconst 1, 1)]
theorem zhX4_readSign_0 : zd_chk (cX4_readSign.data.toList.drop 0) 0 ziX4_readSign_0 = true := by decide +kernel
theorem dX4_readSign_0 : decode cX4_readSign 0 = .ok (.aload_n 0, 1) := zd_at zhX4_readSign_0 0 rfl
theorem dX4_readSign_1 : decode cX4_readSign 1 = .ok (.getfield 9, 3) := zd_at zhX4_readSign_0 1 rfl
theorem dX4_readSign_4 : decode cX4_readSign 4 = .ok (.aload_n 0, 1) := zd_at zhX4_readSign_0 2 rfl
theorem dX4_readSign_5 : decode cX4_readSign 5 = .ok (.getfield 31, 3) := zd_at zhX4_readSign_0 3 rfl
theorem dX4_readSign_8 : decode cX4_readSign 8 = .ok (.iaload, 1) := zd_at zhX4_readSign_0 4 rfl
theorem dX4_readSign_9 : decode cX4_readSign 9 = .ok (.istore_n 1, 1) := zd_at zhX4_readSign_0 5 rfl
theorem dX4_readSign_10 : decode cX4_readSign 10 = .ok (.iload_n 1, 1) := zd_at zhX4_readSign_0 6 rfl
theorem dX4_readSign_11 : decode cX4_readSign 11 = .ok (.bipush 40, 2) := zd_at zhX4_readSign_0 7 rfl
theorem dX4_readSign_13 : decode cX4_readSign 13 = .ok (.if_icmp .eq 45, 3) := zd_at zhX4_readSign_0 8 rfl
theorem dX4_readSign_16 : decode cX4_readSign 16 = .ok (.iload_n 1, 1) := zd_at zhX4_readSign_0 9 rfl
theorem dX4_readSign_17 : decode cX4_readSign 17 = .ok (.bipush 41, 2) := zd_at zhX4_readSign_0 10 rfl
theorem dX4_readSign_19 : decode cX4_readSign 19 = .ok (.if_icmp .eq 39, 3) := zd_at zhX4_readSign_0 11 rfl
theorem dX4_readSign_22 : decode cX4_readSign 22 = .ok (.iload_n 1, 1) := zd_at zhX4_readSign_0 12 rfl
theorem dX4_readSign_23 : decode cX4_readSign 23 = .ok (.bipush 59, 2) := zd_at zhX4_readSign_0 13 rfl
theorem dX4_readSign_25 : decode cX4_readSign 25 = .ok (.if_icmp .eq 33, 3) := zd_at zhX4_readSign_0 14 rfl
theorem dX4_readSign_28 : decode cX4_readSign 28 = .ok (.iload_n 1, 1) := zd_at zhX4_readSign_0 15 rfl
theorem dX4_readSign_29 : decode cX4_readSign 29 = .ok (.bipush 43, 2) := zd_at zhX4_readSign_0 16 rfl
theorem dX4_readSign_31 : decode cX4_readSign 31 = .ok (.if_icmp .eq 27, 3) := zd_at zhX4_readSign_0 17 rfl
theorem dX4_readSign_34 : decode cX4_readSign 34 = .ok (.iload_n 1, 1) := zd_at zhX4_readSign_0 18 rfl
theorem dX4_readSign_35 : decode cX4_readSign 35 = .ok (.bipush 45, 2) := zd_at zhX4_readSign_0 19 rfl
theorem dX4_readSign_37 : decode cX4_readSign 37 = .ok (.if_icmp .eq 21, 3) := zd_at zhX4_readSign_0 20 rfl
theorem dX4_readSign_40 : decode cX4_readSign 40 = .ok (.iload_n 1, 1) := zd_at zhX4_readSign_0 21 rfl
theorem dX4_readSign_41 : decode cX4_readSign 41 = .ok (.bipush 42, 2) := zd_at zhX4_readSign_0 22 rfl
theorem dX4_readSign_43 : decode cX4_readSign 43 = .ok (.if_icmp .eq 15, 3) := zd_at zhX4_readSign_0 23 rfl
theorem dX4_readSign_46 : decode cX4_readSign 46 = .ok (.iload_n 1, 1) := zd_at zhX4_readSign_0 24 rfl
theorem dX4_readSign_47 : decode cX4_readSign 47 = .ok (.bipush 60, 2) := zd_at zhX4_readSign_0 25 rfl
theorem dX4_readSign_49 : decode cX4_readSign 49 = .ok (.if_icmp .eq 9, 3) := zd_at zhX4_readSign_0 26 rfl
theorem dX4_readSign_52 : decode cX4_readSign 52 = .ok (.iload_n 1, 1) := zd_at zhX4_readSign_0 27 rfl
theorem dX4_readSign_53 : decode cX4_readSign 53 = .ok (.bipush 61, 2) := zd_at zhX4_readSign_0 28 rfl
theorem dX4_readSign_55 : decode cX4_readSign 55 = .ok (.if_icmp .ne 7, 3) := zd_at zhX4_readSign_0 29 rfl
theorem dX4_readSign_58 : decode cX4_readSign 58 = .ok (.iconst 1, 1) := zd_at zhX4_readSign_0 30 rfl
theorem dX4_readSign_59 : decode cX4_readSign 59 = .ok (.goto 4, 3) := zd_at zhX4_readSign_0 31 rfl
theorem dX4_readSign_62 : decode cX4_readSign 62 = .ok (.iconst 0, 1) := zd_at zhX4_readSign_0 32 rfl
theorem dX4_readSign_63 : decode cX4_readSign 63 = .ok (.istore_n 2, 1) := zd_at zhX4_readSign_0 33 rfl
theorem dX4_readSign_64 : decode cX4_readSign 64 = .ok (.aload_n 0, 1) := zd_at zhX4_readSign_0 34 rfl
theorem dX4_readSign_65 : decode cX4_readSign 65 = .ok (.iload_n 2, 1) := zd_at zhX4_readSign_0 35 rfl
theorem dX4_readSign_66 : decode cX4_readSign 66 = .ok (.ifCond .eq 7, 3) := zd_at zhX4_readSign_0 36 rfl
theorem dX4_readSign_69 : decode cX4_readSign 69 = .ok (.iload_n 1, 1) := zd_at zhX4_readSign_0 37 rfl
theorem dX4_readSign_70 : decode cX4_readSign 70 = .ok (.goto 4, 3) := zd_at zhX4_readSign_0 38 rfl
theorem dX4_readSign_73 : decode cX4_readSign 73 = .ok (.iconst 1, 1) := zd_at zhX4_readSign_0 39 rfl
def ziX4_readSign_74 : List (Nat × Instr × Nat) := [(74, .putfield 54, 3), (77, .aload_n 0, 1), (78, .dup, 1), (79, .getfield 31, 3), (82, .iconst 1, 1), (83, .iadd, 1), (84, .putfield 31, 3), (87, .return_, 1)]
theorem zhX4_readSign_74 : zd_chk (cX4_readSign.data.toList.drop 74) 74 ziX4_readSign_74 = true := by decide +kernel
theorem dX4_readSign_74 : decode cX4_readSign 74 = .ok (.putfield 54, 3) := zd_at zhX4_readSign_74 0 rfl
theorem dX4_readSign_77 : decode cX4_readSign 77 = .ok (.aload_n 0, 1) := zd_at zhX4_readSign_74 1 rfl
theorem dX4_readSign_78 : decode cX4_readSign 78 = .ok (.dup, 1) := zd_at zhX4_readSign_74 2 rfl
theorem dX4_readSign_79 : decode cX4_readSign 79 = .ok (.getfield 31, 3) := zd_at zhX4_readSign_74 3 rfl
theorem dX4_readSign_82 : decode cX4_readSign 82 = .ok (.iconst 1, 1) := zd_at zhX4_readSign_74 4 rfl
theorem dX4_readSign_83 : decode cX4_readSign 83 = .ok (.iadd, 1) := zd_at zhX4_readSign_74 5 rfl
theorem dX4_readSign_84 : decode cX4_readSign 84 = .ok (.putfield 31, 3) := zd_at zhX4_readSign_74 6 rfl
theorem dX4_readSign_87 : decode cX4_readSign 87 = .ok (.return_, 1) := zd_at zhX4_readSign_74 7 rfl
def ziX4_isLetter_0 : List (Nat × Instr × Nat) := [(0, .iload_n 0, 1), (1, .bipush 97, 2), (3, .if_icmp .lt 13, 3), (6, .iload_n 0, 1), (7, .bipush 122, 2), (9, .if_icmp .gt 7, 3), (12, .iconst 1, 1), (13, .goto 4, 3), (16, .iconst 0, 1), (17, .ireturn, 1)]
theorem zhX4_isLetter_0 : zd_chk (cX4_isLetter.data.toList.drop 0) 0 ziX4_isLetter_0 = true := by decide +kernel
theorem dX4_isLetter_0 : decode cX4_isLetter 0 = .ok (.iload_n 0, 1) := zd_at zhX4_isLetter_0 0 rfl
theorem dX4_isLetter_1 : decode cX4_isLetter 1 = .ok (.bipush 97, 2) := zd_at zhX4_isLetter_0 1 rfl
theorem dX4_isLetter_3 : decode cX4_isLetter 3 = .ok (.if_icmp .lt 13, 3) := zd_at zhX4_isLetter_0 2 rfl
theorem dX4_isLetter_6 : decode cX4_isLetter 6 = .ok (.iload_n 0, 1) := zd_at zhX4_isLetter_0 3 rfl
theorem dX4_isLetter_7 : decode cX4_isLetter 7 = .ok (.bipush 122, 2) := zd_at zhX4_isLetter_0 4 rfl
theorem dX4_isLetter_9 : decode cX4_isLetter 9 = .ok (.if_icmp .gt 7, 3) := zd_at zhX4_isLetter_0 5 rfl
theorem dX4_isLetter_12 : decode cX4_isLetter 12 = .ok (.iconst 1, 1) := zd_at zhX4_isLetter_0 6 rfl
theorem dX4_isLetter_13 : decode cX4_isLetter 13 = .ok (.goto 4, 3) := zd_at zhX4_isLetter_0 7 rfl
theorem dX4_isLetter_16 : decode cX4_isLetter 16 = .ok (.iconst 0, 1) := zd_at zhX4_isLetter_0 8 rfl
theorem dX4_isLetter_17 : decode cX4_isLetter 17 = .ok (.ireturn, 1) := zd_at zhX4_isLetter_0 9 rfl
def ziX4_isDigit_0 : List (Nat × Instr × Nat) := [(0, .iload_n 0, 1), (1, .bipush 48, 2), (3, .if_icmp .lt 13, 3), (6, .iload_n 0, 1), (7, .bipush 57, 2), (9, .if_icmp .gt 7, 3), (12, .iconst 1, 1), (13, .goto 4, 3), (16, .iconst 0, 1), (17, .ireturn, 1)]
theorem zhX4_isDigit_0 : zd_chk (cX4_isDigit.data.toList.drop 0) 0 ziX4_isDigit_0 = true := by decide +kernel
theorem dX4_isDigit_0 : decode cX4_isDigit 0 = .ok (.iload_n 0, 1) := zd_at zhX4_isDigit_0 0 rfl
theorem dX4_isDigit_1 : decode cX4_isDigit 1 = .ok (.bipush 48, 2) := zd_at zhX4_isDigit_0 1 rfl
theorem dX4_isDigit_3 : decode cX4_isDigit 3 = .ok (.if_icmp .lt 13, 3) := zd_at zhX4_isDigit_0 2 rfl
theorem dX4_isDigit_6 : decode cX4_isDigit 6 = .ok (.iload_n 0, 1) := zd_at zhX4_isDigit_0 3 rfl
theorem dX4_isDigit_7 : decode cX4_isDigit 7 = .ok (.bipush 57, 2) := zd_at zhX4_isDigit_0 4 rfl
theorem dX4_isDigit_9 : decode cX4_isDigit 9 = .ok (.if_icmp .gt 7, 3) := zd_at zhX4_isDigit_0 5 rfl
theorem dX4_isDigit_12 : decode cX4_isDigit 12 = .ok (.iconst 1, 1) := zd_at zhX4_isDigit_0 6 rfl
theorem dX4_isDigit_13 : decode cX4_isDigit 13 = .ok (.goto 4, 3) := zd_at zhX4_isDigit_0 7 rfl
theorem dX4_isDigit_16 : decode cX4_isDigit 16 = .ok (.iconst 0, 1) := zd_at zhX4_isDigit_0 8 rfl
theorem dX4_isDigit_17 : decode cX4_isDigit 17 = .ok (.ireturn, 1) := zd_at zhX4_isDigit_0 9 rfl
def ziX5_init_0 : List (Nat × Instr × Nat) := [(0, .aload_n 0, 1), (1, .invokespecial 3, 3), (4, .aload_n 0, 1), (5, .bipush 40, 2)]
theorem zhX5_init_0 : zd_chk (cX5_init.data.toList.drop 0) 0 ziX5_init_0 = true := by decide +kernel
theorem dX5_init_0 : decode cX5_init 0 = .ok (.aload_n 0, 1) := zd_at zhX5_init_0 0 rfl
theorem dX5_init_1 : decode cX5_init 1 = .ok (.invokespecial 3, 3) := zd_at zhX5_init_0 1 rfl
theorem dX5_init_4 : decode cX5_init 4 = .ok (.aload_n 0, 1) := zd_at zhX5_init_0 2 rfl
theorem dX5_init_5 : decode cX5_init 5 = .ok (.bipush 40, 2) := zd_at zhX5_init_0 3 rfl
theorem dX5_init_7 : decode cX5_init 7 = .ok (.newarray .int, 2) := by decide +kernel
def ziX5_init_9 : List (Nat × Instr × Nat) := [(9, .putfield 9, 3), (12, .aload_n 0, 1), (13, .iconst (-1), 1), (14, .putfield 15, 3), (17, .return_, 1)]
theorem zhX5_init_9 : zd_chk (cX5_init.data.toList.drop 9) 9 ziX5_init_9 = true := by decide +kernel
theorem dX5_init_9 : decode cX5_init 9 = .ok (.putfield 9, 3) := zd_at zhX5_init_9 0 rfl
theorem dX5_init_12 : decode cX5_init 12 = .ok (.aload_n 0, 1) := zd_at zhX5_init_9 1 rfl
theorem dX5_init_13 : decode cX5_init 13 = .ok (.iconst (-1), 1) := zd_at zhX5_init_9 2 rfl
theorem dX5_init_14 : decode cX5_init 14 = .ok (.putfield 15, 3) := zd_at zhX5_init_9 3 rfl
theorem dX5_init_17 : decode cX5_init 17 = .ok (.return_, 1) := zd_at zhX5_init_9 4 rfl
def ziX5_isMissing_0 : List (Nat × Instr × Nat) := [(0, .aload_n 0, 1), (1, .getfield 15, 3), (4, .iconst (-1), 1), (5, .if_icmp .ne 7, 3), (8, .iconst 1, 1), (9, .goto 4, 3), (12, .iconst 0, 1), (13, .ireturn, 1)]
theorem zhX5_isMissing_0 : zd_chk (cX5_isMissing.data.toList.drop 0) 0 ziX5_isMissing_0 = true := by decide +kernel
theorem dX5_isMissing_0 : decode cX5_isMissing 0 = .ok (.aload_n 0, 1) := zd_at zhX5_isMissing_0 0 rfl
theorem dX5_isMissing_1 : decode cX5_isMissing 1 = .ok (.getfield 15, 3) := zd_at zhX5_isMissing_0 1 rfl
theorem dX5_isMissing_4 : decode cX5_isMissing 4 = .ok (.iconst (-1), 1) := zd_at zhX5_isMissing_0 2 rfl
theorem dX5_isMissing_5 : decode cX5_isMissing 5 = .ok (.if_icmp .ne 7, 3) := zd_at zhX5_isMissing_0 3 rfl
theorem dX5_isMissing_8 : decode cX5_isMissing 8 = .ok (.iconst 1, 1) := zd_at zhX5_isMissing_0 4 rfl
theorem dX5_isMissing_9 : decode cX5_isMissing 9 = .ok (.goto 4, 3) := zd_at zhX5_isMissing_0 5 rfl
theorem dX5_isMissing_12 : decode cX5_isMissing 12 = .ok (.iconst 0, 1) := zd_at zhX5_isMissing_0 6 rfl
theorem dX5_isMissing_13 : decode cX5_isMissing 13 = .ok (.ireturn, 1) := zd_at zhX5_isMissing_0 7 rfl
def ziX5_become_0 : List (Nat × Instr × Nat) := [(0, .aload_n 0, 1), (1, .iload_n 1, 1), (2, .putfield 15, 3), (5, .aload_n 0, 1), (6, .iload_n 2, 1), (7, .putfield 19, 3), (10, .iconst 0, 1), (11, .istore_n 3, 1), (12, .iload_n 3, 1), (13, .bipush 40, 2), (15, .if_icmp .ge 16, 3), (18, .aload_n 0, 1), (19, .getfield 9, 3), (22, .iload_n 3, 1), (23, .iconst 0, 1), (24, .iastore, 1), (25, .iinc 3 1, 3), (28, .goto (-16), 3), (31, .return_, 1)]
theorem zhX5_become_0 : zd_chk (cX5_become.data.toList.drop 0) 0 ziX5_become_0 = true := by decide +kernel
theorem dX5_become_0 : decode cX5_become 0 = .ok (.aload_n 0, 1) := zd_at zhX5_become_0 0 rfl
theorem dX5_become_1 : decode cX5_become 1 = .ok (.iload_n 1, 1) := zd_at zhX5_become_0 1 rfl
theorem dX5_become_2 : decode cX5_become 2 = .ok (.putfield 15, 3) := zd_at zhX5_become_0 2 rfl
theorem dX5_become_5 : decode cX5_become 5 = .ok (.aload_n 0, 1) := zd_at zhX5_become_0 3 rfl
theorem dX5_become_6 : decode cX5_become 6 = .ok (.iload_n 2, 1) := zd_at zhX5_become_0 4 rfl
theorem dX5_become_7 : decode cX5_become 7 = .ok (.putfield 19, 3) := zd_at zhX5_become_0 5 rfl
theorem dX5_become_10 : decode cX5_become 10 = .ok (.iconst 0, 1) := zd_at zhX5_become_0 6 rfl
theorem dX5_become_11 : decode cX5_become 11 = .ok (.istore_n 3, 1) := zd_at zhX5_become_0 7 rfl
theorem dX5_become_12 : decode cX5_become 12 = .ok (.iload_n 3, 1) := zd_at zhX5_become_0 8 rfl
theorem dX5_become_13 : decode cX5_become 13 = .ok (.bipush 40, 2) := zd_at zhX5_become_0 9 rfl
theorem dX5_become_15 : decode cX5_become 15 = .ok (.if_icmp .ge 16, 3) := zd_at zhX5_become_0 10 rfl
theorem dX5_become_18 : decode cX5_become 18 = .ok (.aload_n 0, 1) := zd_at zhX5_become_0 11 rfl
theorem dX5_become_19 : decode cX5_become 19 = .ok (.getfield 9, 3) := zd_at zhX5_become_0 12 rfl
theorem dX5_become_22 : decode cX5_become 22 = .ok (.iload_n 3, 1) := zd_at zhX5_become_0 13 rfl
theorem dX5_become_23 : decode cX5_become 23 = .ok (.iconst 0, 1) := zd_at zhX5_become_0 14 rfl
theorem dX5_become_24 : decode cX5_become 24 = .ok (.iastore, 1) := zd_at zhX5_become_0 15 rfl
theorem dX5_become_25 : decode cX5_become 25 = .ok (.iinc 3 1, 3) := zd_at zhX5_become_0 16 rfl
theorem dX5_become_28 : decode cX5_become 28 = .ok (.goto (-16), 3) := zd_at zhX5_become_0 17 rfl
theorem dX5_become_31 : decode cX5_become 31 = .ok (.return_, 1) := zd_at zhX5_become_0 18 rfl
def ziX5_put_0 : List (Nat × Instr × Nat) := [(0, .aload_n 0, 1), (1, .getfield 9, 3), (4, .iload_n 1, 1), (5, .aload_n 0, 1), (6, .getfield 15, 3), (9, .ifCond .ne 8, 3), (12, .iload_n 2, 1), (13, .i2b, 1), (14, .goto 17, 3), (17, .aload_n 0, 1), (18, .getfield 15, 3), (21, .iconst 1, 1), (22, .if_icmp .ne 8, 3), (25, .iload_n 2, 1), (26, .i2s, 1), (27, .goto 4, 3), (30, .iload_n 2, 1), (31, .iastore, 1), (32, .return_, 1)]
theorem zhX5_put_0 : zd_chk (cX5_put.data.toList.drop 0) 0 ziX5_put_0 = true := by decide +kernel
theorem dX5_put_0 : decode cX5_put 0 = .ok (.aload_n 0, 1) := zd_at zhX5_put_0 0 rfl
theorem dX5_put_1 : decode cX5_put 1 = .ok (.getfield 9, 3) := zd_at zhX5_put_0 1 rfl
theorem dX5_put_4 : decode cX5_put 4 = .ok (.iload_n 1, 1) := zd_at zhX5_put_0 2 rfl
theorem dX5_put_5 : decode cX5_put 5 = .ok (.aload_n 0, 1) := zd_at zhX5_put_0 3 rfl
theorem dX5_put_6 : decode cX5_put 6 = .ok (.getfield 15, 3) := zd_at zhX5_put_0 4 rfl
theorem dX5_put_9 : decode cX5_put 9 = .ok (.ifCond .ne 8, 3) := zd_at zhX5_put_0 5 rfl
theorem dX5_put_12 : decode cX5_put 12 = .ok (.iload_n 2, 1) := zd_at zhX5_put_0 6 rfl
theorem dX5_put_13 : decode cX5_put 13 = .ok (.i2b, 1) := zd_at zhX5_put_0 7 rfl
theorem dX5_put_14 : decode cX5_put 14 = .ok (.goto 17, 3) := zd_at zhX5_put_0 8 rfl
theorem dX5_put_17 : decode cX5_put 17 = .ok (.aload_n 0, 1) := zd_at zhX5_put_0 9 rfl
theorem dX5_put_18 : decode cX5_put 18 = .ok (.getfield 15, 3) := zd_at zhX5_put_0 10 rfl
theorem dX5_put_21 : decode cX5_put 21 = .ok (.iconst 1, 1) := zd_at zhX5_put_0 11 rfl
theorem dX5_put_22 : decode cX5_put 22 = .ok (.if_icmp .ne 8, 3) := zd_at zhX5_put_0 12 rfl
theorem dX5_put_25 : decode cX5_put 25 = .ok (.iload_n 2, 1) := zd_at zhX5_put_0 13 rfl
theorem dX5_put_26 : decode cX5_put 26 = .ok (.i2s, 1) := zd_at zhX5_put_0 14 rfl
theorem dX5_put_27 : decode cX5_put 27 = .ok (.goto 4, 3) := zd_at zhX5_put_0 15 rfl
theorem dX5_put_30 : decode cX5_put 30 = .ok (.iload_n 2, 1) := zd_at zhX5_put_0 16 rfl
theorem dX5_put_31 : decode cX5_put 31 = .ok (.iastore, 1) := zd_at zhX5_put_0 17 rfl
theorem dX5_put_32 : decode cX5_put 32 = .ok (.return_, 1) := zd_at zhX5_put_0 18 rfl
def ziX5_holds_0 : List (Nat × Instr × Nat) := [(0, .iload_n 1, 1), (1, .ifCond .lt 29, 3), (4, .iload_n 2, 1), (5, .ifCond .lt 25, 3), (8, .iload_n 1, 1), (9, .aload_n 0, 1), (10, .getfield 19, 3), (13, .if_icmp .gt 17, 3), (16, .iload_n 2, 1), (17, .aload_n 0, 1), (18, .getfield 19, 3), (21, .iload_n 1, 1), (22, .isub, 1), (23, .if_icmp .gt 7, 3), (26, .iconst 1, 1), (27, .goto 4, 3), (30, .iconst 0, 1), (31, .ireturn, 1)]
theorem zhX5_holds_0 : zd_chk (cX5_holds.data.toList.drop 0) 0 ziX5_holds_0 = true := by decide +kernel
theorem dX5_holds_0 : decode cX5_holds 0 = .ok (.iload_n 1, 1) := zd_at zhX5_holds_0 0 rfl
theorem dX5_holds_1 : decode cX5_holds 1 = .ok (.ifCond .lt 29, 3) := zd_at zhX5_holds_0 1 rfl
theorem dX5_holds_4 : decode cX5_holds 4 = .ok (.iload_n 2, 1) := zd_at zhX5_holds_0 2 rfl
theorem dX5_holds_5 : decode cX5_holds 5 = .ok (.ifCond .lt 25, 3) := zd_at zhX5_holds_0 3 rfl
theorem dX5_holds_8 : decode cX5_holds 8 = .ok (.iload_n 1, 1) := zd_at zhX5_holds_0 4 rfl
theorem dX5_holds_9 : decode cX5_holds 9 = .ok (.aload_n 0, 1) := zd_at zhX5_holds_0 5 rfl
theorem dX5_holds_10 : decode cX5_holds 10 = .ok (.getfield 19, 3) := zd_at zhX5_holds_0 6 rfl
theorem dX5_holds_13 : decode cX5_holds 13 = .ok (.if_icmp .gt 17, 3) := zd_at zhX5_holds_0 7 rfl
theorem dX5_holds_16 : decode cX5_holds 16 = .ok (.iload_n 2, 1) := zd_at zhX5_holds_0 8 rfl
theorem dX5_holds_17 : decode cX5_holds 17 = .ok (.aload_n 0, 1) := zd_at zhX5_holds_0 9 rfl
theorem dX5_holds_18 : decode cX5_holds 18 = .ok (.getfield 19, 3) := zd_at zhX5_holds_0 10 rfl
theorem dX5_holds_21 : decode cX5_holds 21 = .ok (.iload_n 1, 1) := zd_at zhX5_holds_0 11 rfl
theorem dX5_holds_22 : decode cX5_holds 22 = .ok (.isub, 1) := zd_at zhX5_holds_0 12 rfl
theorem dX5_holds_23 : decode cX5_holds 23 = .ok (.if_icmp .gt 7, 3) := zd_at zhX5_holds_0 13 rfl
theorem dX5_holds_26 : decode cX5_holds 26 = .ok (.iconst 1, 1) := zd_at zhX5_holds_0 14 rfl
theorem dX5_holds_27 : decode cX5_holds 27 = .ok (.goto 4, 3) := zd_at zhX5_holds_0 15 rfl
theorem dX5_holds_30 : decode cX5_holds 30 = .ok (.iconst 0, 1) := zd_at zhX5_holds_0 16 rfl
theorem dX5_holds_31 : decode cX5_holds 31 = .ok (.ireturn, 1) := zd_at zhX5_holds_0 17 rfl
def ziX6_init_0 : List (Nat × Instr × Nat) := [(0, .aload_n 0, 1), (1, .invokespecial 3, 3), (4, .aload_n 0, 1), (5, .sipush 160, 3)]
theorem zhX6_init_0 : zd_chk (cX6_init.data.toList.drop 0) 0 ziX6_init_0 = true := by decide +kernel
theorem dX6_init_0 : decode cX6_init 0 = .ok (.aload_n 0, 1) := zd_at zhX6_init_0 0 rfl
theorem dX6_init_1 : decode cX6_init 1 = .ok (.invokespecial 3, 3) := zd_at zhX6_init_0 1 rfl
theorem dX6_init_4 : decode cX6_init 4 = .ok (.aload_n 0, 1) := zd_at zhX6_init_0 2 rfl
theorem dX6_init_5 : decode cX6_init 5 = .ok (.sipush 160, 3) := zd_at zhX6_init_0 3 rfl
theorem dX6_init_8 : decode cX6_init 8 = .ok (.newarray .int, 2) := by decide +kernel
def ziX6_init_10 : List (Nat × Instr × Nat) := [(10, .putfield 9, 3), (13, .aload_n 0, 1), (14, .iconst 3, 1)]
theorem zhX6_init_10 : zd_chk (cX6_init.data.toList.drop 10) 10 ziX6_init_10 = true := by decide +kernel
theorem dX6_init_10 : decode cX6_init 10 = .ok (.putfield 9, 3) := zd_at zhX6_init_10 0 rfl
theorem dX6_init_13 : decode cX6_init 13 = .ok (.aload_n 0, 1) := zd_at zhX6_init_10 1 rfl
theorem dX6_init_14 : decode cX6_init 14 = .ok (.iconst 3, 1) := zd_at zhX6_init_10 2 rfl
theorem dX6_init_15 : decode cX6_init 15 = .ok (.newarray .int, 2) := by decide +kernel
def ziX6_init_17 : List (Nat × Instr × Nat) := [(17, .putfield 15, 3), (20, .aload_n 0, 1), (21, .bipush 31, 2)]
theorem zhX6_init_17 : zd_chk (cX6_init.data.toList.drop 17) 17 ziX6_init_17 = true := by decide +kernel
theorem dX6_init_17 : decode cX6_init 17 = .ok (.putfield 15, 3) := zd_at zhX6_init_17 0 rfl
theorem dX6_init_20 : decode cX6_init 20 = .ok (.aload_n 0, 1) := zd_at zhX6_init_17 1 rfl
theorem dX6_init_21 : decode cX6_init 21 = .ok (.bipush 31, 2) := zd_at zhX6_init_17 2 rfl
theorem dX6_init_23 : decode cX6_init 23 = .ok (.newarray .int, 2) := by decide +kernel
def ziX6_init_25 : List (Nat × Instr × Nat) := [(25, .putfield 18, 3), (28, .return_, 1)]
theorem zhX6_init_25 : zd_chk (cX6_init.data.toList.drop 25) 25 ziX6_init_25 = true := by decide +kernel
theorem dX6_init_25 : decode cX6_init 25 = .ok (.putfield 18, 3) := zd_at zhX6_init_25 0 rfl
theorem dX6_init_28 : decode cX6_init 28 = .ok (.return_, 1) := zd_at zhX6_init_25 1 rfl
def ziX6_clear_0 : List (Nat × Instr × Nat) := [(0, .aload_n 0, 1), (1, .iconst 0, 1), (2, .putfield 21, 3), (5, .return_, 1)]
theorem zhX6_clear_0 : zd_chk (cX6_clear.data.toList.drop 0) 0 ziX6_clear_0 = true := by decide +kernel
theorem dX6_clear_0 : decode cX6_clear 0 = .ok (.aload_n 0, 1) := zd_at zhX6_clear_0 0 rfl
theorem dX6_clear_1 : decode cX6_clear 1 = .ok (.iconst 0, 1) := zd_at zhX6_clear_0 1 rfl
theorem dX6_clear_2 : decode cX6_clear 2 = .ok (.putfield 21, 3) := zd_at zhX6_clear_0 2 rfl
theorem dX6_clear_5 : decode cX6_clear 5 = .ok (.return_, 1) := zd_at zhX6_clear_0 3 rfl
def ziX6_add_0 : List (Nat × Instr × Nat) := [(0, .aload_n 0, 1), (1, .getfield 21, 3), (4, .sipush 160, 3), (7, .if_icmp .lt 4, 3), (10, .return_, 1), (11, .aload_n 0, 1), (12, .getfield 9, 3), (15, .aload_n 0, 1), (16, .getfield 21, 3), (19, .iload_n 1, 1), (20, .iastore, 1), (21, .aload_n 0, 1), (22, .dup, 1), (23, .getfield 21, 3), (26, .iconst 1, 1), (27, .iadd, 1), (28, .putfield 21, 3), (31, .return_, 1)]
theorem zhX6_add_0 : zd_chk (cX6_add.data.toList.drop 0) 0 ziX6_add_0 = true := by decide +kernel
theorem dX6_add_0 : decode cX6_add 0 = .ok (.aload_n 0, 1) := zd_at zhX6_add_0 0 rfl
theorem dX6_add_1 : decode cX6_add 1 = .ok (.getfield 21, 3) := zd_at zhX6_add_0 1 rfl
theorem dX6_add_4 : decode cX6_add 4 = .ok (.sipush 160, 3) := zd_at zhX6_add_0 2 rfl
theorem dX6_add_7 : decode cX6_add 7 = .ok (.if_icmp .lt 4, 3) := zd_at zhX6_add_0 3 rfl
theorem dX6_add_10 : decode cX6_add 10 = .ok (.return_, 1) := zd_at zhX6_add_0 4 rfl
theorem dX6_add_11 : decode cX6_add 11 = .ok (.aload_n 0, 1) := zd_at zhX6_add_0 5 rfl
theorem dX6_add_12 : decode cX6_add 12 = .ok (.getfield 9, 3) := zd_at zhX6_add_0 6 rfl
theorem dX6_add_15 : decode cX6_add 15 = .ok (.aload_n 0, 1) := zd_at zhX6_add_0 7 rfl
theorem dX6_add_16 : decode cX6_add 16 = .ok (.getfield 21, 3) := zd_at zhX6_add_0 8 rfl
theorem dX6_add_19 : decode cX6_add 19 = .ok (.iload_n 1, 1) := zd_at zhX6_add_0 9 rfl
theorem dX6_add_20 : decode cX6_add 20 = .ok (.iastore, 1) := zd_at zhX6_add_0 10 rfl
theorem dX6_add_21 : decode cX6_add 21 = .ok (.aload_n 0, 1) := zd_at zhX6_add_0 11 rfl
theorem dX6_add_22 : decode cX6_add 22 = .ok (.dup, 1) := zd_at zhX6_add_0 12 rfl
theorem dX6_add_23 : decode cX6_add 23 = .ok (.getfield 21, 3) := zd_at zhX6_add_0 13 rfl
theorem dX6_add_26 : decode cX6_add 26 = .ok (.iconst 1, 1) := zd_at zhX6_add_0 14 rfl
theorem dX6_add_27 : decode cX6_add 27 = .ok (.iadd, 1) := zd_at zhX6_add_0 15 rfl
theorem dX6_add_28 : decode cX6_add 28 = .ok (.putfield 21, 3) := zd_at zhX6_add_0 16 rfl
theorem dX6_add_31 : decode cX6_add 31 = .ok (.return_, 1) := zd_at zhX6_add_0 17 rfl
def ziX6_endPart_0 : List (Nat × Instr × Nat) := [(0, .aload_n 0, 1), (1, .getfield 15, 3), (4, .iload_n 1, 1), (5, .aload_n 0, 1), (6, .getfield 21, 3), (9, .iastore, 1), (10, .return_, 1)]
theorem zhX6_endPart_0 : zd_chk (cX6_endPart.data.toList.drop 0) 0 ziX6_endPart_0 = true := by decide +kernel
theorem dX6_endPart_0 : decode cX6_endPart 0 = .ok (.aload_n 0, 1) := zd_at zhX6_endPart_0 0 rfl
theorem dX6_endPart_1 : decode cX6_endPart 1 = .ok (.getfield 15, 3) := zd_at zhX6_endPart_0 1 rfl
theorem dX6_endPart_4 : decode cX6_endPart 4 = .ok (.iload_n 1, 1) := zd_at zhX6_endPart_0 2 rfl
theorem dX6_endPart_5 : decode cX6_endPart 5 = .ok (.aload_n 0, 1) := zd_at zhX6_endPart_0 3 rfl
theorem dX6_endPart_6 : decode cX6_endPart 6 = .ok (.getfield 21, 3) := zd_at zhX6_endPart_0 4 rfl
theorem dX6_endPart_9 : decode cX6_endPart 9 = .ok (.iastore, 1) := zd_at zhX6_endPart_0 5 rfl
theorem dX6_endPart_10 : decode cX6_endPart 10 = .ok (.return_, 1) := zd_at zhX6_endPart_0 6 rfl
def ziX6_tell_0 : List (Nat × Instr × Nat) := [(0, .iconst 0, 1), (1, .istore_n 3, 1), (2, .iload_n 1, 1), (3, .ifCond .ne 7, 3), (6, .iconst 0, 1), (7, .goto 11, 3), (10, .aload_n 0, 1), (11, .getfield 15, 3), (14, .iload_n 1, 1), (15, .iconst 1, 1), (16, .isub, 1), (17, .iaload, 1), (18, .istore 4, 2), (20, .iload 4, 2), (22, .aload_n 0, 1), (23, .getfield 15, 3), (26, .iload_n 1, 1), (27, .iaload, 1), (28, .if_icmp .ge 51, 3), (31, .aload_n 0, 1), (32, .getfield 9, 3), (35, .iload 4, 2), (37, .iaload, 1), (38, .bipush (-7), 2), (40, .if_icmp .le 20, 3), (43, .aload_n 0, 1), (44, .aload_n 0, 1), (45, .getfield 9, 3), (48, .iload 4, 2), (50, .iaload, 1), (51, .iload_n 3, 1), (52, .aload_n 2, 1), (53, .invokevirtual 25, 3), (56, .istore_n 3, 1), (57, .goto 16, 3), (60, .aload_n 0, 1), (61, .aload_n 0, 1), (62, .getfield 9, 3), (65, .iload 4, 2), (67, .iaload, 1)]
theorem zhX6_tell_0 : zd_chk (cX6_tell.data.toList.drop 0) 0 ziX6_tell_0 = true := by decide +kernel
theorem dX6_tell_0 : decode cX6_tell 0 = .ok (.iconst 0, 1) := zd_at zhX6_tell_0 0 rfl
theorem dX6_tell_1 : decode cX6_tell 1 = .ok (.istore_n 3, 1) := zd_at zhX6_tell_0 1 rfl
theorem dX6_tell_2 : decode cX6_tell 2 = .ok (.iload_n 1, 1) := zd_at zhX6_tell_0 2 rfl
theorem dX6_tell_3 : decode cX6_tell 3 = .ok (.ifCond .ne 7, 3) := zd_at zhX6_tell_0 3 rfl
theorem dX6_tell_6 : decode cX6_tell 6 = .ok (.iconst 0, 1) := zd_at zhX6_tell_0 4 rfl
theorem dX6_tell_7 : decode cX6_tell 7 = .ok (.goto 11, 3) := zd_at zhX6_tell_0 5 rfl
theorem dX6_tell_10 : decode cX6_tell 10 = .ok (.aload_n 0, 1) := zd_at zhX6_tell_0 6 rfl
theorem dX6_tell_11 : decode cX6_tell 11 = .ok (.getfield 15, 3) := zd_at zhX6_tell_0 7 rfl
theorem dX6_tell_14 : decode cX6_tell 14 = .ok (.iload_n 1, 1) := zd_at zhX6_tell_0 8 rfl
theorem dX6_tell_15 : decode cX6_tell 15 = .ok (.iconst 1, 1) := zd_at zhX6_tell_0 9 rfl
theorem dX6_tell_16 : decode cX6_tell 16 = .ok (.isub, 1) := zd_at zhX6_tell_0 10 rfl
theorem dX6_tell_17 : decode cX6_tell 17 = .ok (.iaload, 1) := zd_at zhX6_tell_0 11 rfl
theorem dX6_tell_18 : decode cX6_tell 18 = .ok (.istore 4, 2) := zd_at zhX6_tell_0 12 rfl
theorem dX6_tell_20 : decode cX6_tell 20 = .ok (.iload 4, 2) := zd_at zhX6_tell_0 13 rfl
theorem dX6_tell_22 : decode cX6_tell 22 = .ok (.aload_n 0, 1) := zd_at zhX6_tell_0 14 rfl
theorem dX6_tell_23 : decode cX6_tell 23 = .ok (.getfield 15, 3) := zd_at zhX6_tell_0 15 rfl
theorem dX6_tell_26 : decode cX6_tell 26 = .ok (.iload_n 1, 1) := zd_at zhX6_tell_0 16 rfl
theorem dX6_tell_27 : decode cX6_tell 27 = .ok (.iaload, 1) := zd_at zhX6_tell_0 17 rfl
theorem dX6_tell_28 : decode cX6_tell 28 = .ok (.if_icmp .ge 51, 3) := zd_at zhX6_tell_0 18 rfl
theorem dX6_tell_31 : decode cX6_tell 31 = .ok (.aload_n 0, 1) := zd_at zhX6_tell_0 19 rfl
theorem dX6_tell_32 : decode cX6_tell 32 = .ok (.getfield 9, 3) := zd_at zhX6_tell_0 20 rfl
theorem dX6_tell_35 : decode cX6_tell 35 = .ok (.iload 4, 2) := zd_at zhX6_tell_0 21 rfl
theorem dX6_tell_37 : decode cX6_tell 37 = .ok (.iaload, 1) := zd_at zhX6_tell_0 22 rfl
theorem dX6_tell_38 : decode cX6_tell 38 = .ok (.bipush (-7), 2) := zd_at zhX6_tell_0 23 rfl
theorem dX6_tell_40 : decode cX6_tell 40 = .ok (.if_icmp .le 20, 3) := zd_at zhX6_tell_0 24 rfl
theorem dX6_tell_43 : decode cX6_tell 43 = .ok (.aload_n 0, 1) := zd_at zhX6_tell_0 25 rfl
theorem dX6_tell_44 : decode cX6_tell 44 = .ok (.aload_n 0, 1) := zd_at zhX6_tell_0 26 rfl
theorem dX6_tell_45 : decode cX6_tell 45 = .ok (.getfield 9, 3) := zd_at zhX6_tell_0 27 rfl
theorem dX6_tell_48 : decode cX6_tell 48 = .ok (.iload 4, 2) := zd_at zhX6_tell_0 28 rfl
theorem dX6_tell_50 : decode cX6_tell 50 = .ok (.iaload, 1) := zd_at zhX6_tell_0 29 rfl
theorem dX6_tell_51 : decode cX6_tell 51 = .ok (.iload_n 3, 1) := zd_at zhX6_tell_0 30 rfl
theorem dX6_tell_52 : decode cX6_tell 52 = .ok (.aload_n 2, 1) := zd_at zhX6_tell_0 31 rfl
theorem dX6_tell_53 : decode cX6_tell 53 = .ok (.invokevirtual 25, 3) := zd_at zhX6_tell_0 32 rfl
theorem dX6_tell_56 : decode cX6_tell 56 = .ok (.istore_n 3, 1) := zd_at zhX6_tell_0 33 rfl
theorem dX6_tell_57 : decode cX6_tell 57 = .ok (.goto 16, 3) := zd_at zhX6_tell_0 34 rfl
theorem dX6_tell_60 : decode cX6_tell 60 = .ok (.aload_n 0, 1) := zd_at zhX6_tell_0 35 rfl
theorem dX6_tell_61 : decode cX6_tell 61 = .ok (.aload_n 0, 1) := zd_at zhX6_tell_0 36 rfl
theorem dX6_tell_62 : decode cX6_tell 62 = .ok (.getfield 9, 3) := zd_at zhX6_tell_0 37 rfl
theorem dX6_tell_65 : decode cX6_tell 65 = .ok (.iload 4, 2) := zd_at zhX6_tell_0 38 rfl
theorem dX6_tell_67 : decode cX6_tell 67 = .ok (.iaload, 1) := zd_at zhX6_tell_0 39 rfl
def ziX6_tell_68 : List (Nat × Instr × Nat) := [(68, .iload_n 3, 1), (69, .invokevirtual 29, 3), (72, .istore_n 3, 1), (73, .iinc 4 1, 3), (76, .goto (-56), 3), (79, .iconst 0, 1), (80, .bipush 99, 2), (82, .aload_n 0, 1), (83, .getfield 18, 3), (86, .iconst 0, 1), (87, .iaload, 1), (88, .invokestatic 33, 3), (91, .invokestatic 38, 3), (94, .ireturn, 1)]
theorem zhX6_tell_68 : zd_chk (cX6_tell.data.toList.drop 68) 68 ziX6_tell_68 = true := by decide +kernel
theorem dX6_tell_68 : decode cX6_tell 68 = .ok (.iload_n 3, 1) := zd_at zhX6_tell_68 0 rfl
theorem dX6_tell_69 : decode cX6_tell 69 = .ok (.invokevirtual 29, 3) := zd_at zhX6_tell_68 1 rfl
theorem dX6_tell_72 : decode cX6_tell 72 = .ok (.istore_n 3, 1) := zd_at zhX6_tell_68 2 rfl
theorem dX6_tell_73 : decode cX6_tell 73 = .ok (.iinc 4 1, 3) := zd_at zhX6_tell_68 3 rfl
theorem dX6_tell_76 : decode cX6_tell 76 = .ok (.goto (-56), 3) := zd_at zhX6_tell_68 4 rfl
theorem dX6_tell_79 : decode cX6_tell 79 = .ok (.iconst 0, 1) := zd_at zhX6_tell_68 5 rfl
theorem dX6_tell_80 : decode cX6_tell 80 = .ok (.bipush 99, 2) := zd_at zhX6_tell_68 6 rfl
theorem dX6_tell_82 : decode cX6_tell 82 = .ok (.aload_n 0, 1) := zd_at zhX6_tell_68 7 rfl
theorem dX6_tell_83 : decode cX6_tell 83 = .ok (.getfield 18, 3) := zd_at zhX6_tell_68 8 rfl
theorem dX6_tell_86 : decode cX6_tell 86 = .ok (.iconst 0, 1) := zd_at zhX6_tell_68 9 rfl
theorem dX6_tell_87 : decode cX6_tell 87 = .ok (.iaload, 1) := zd_at zhX6_tell_68 10 rfl
theorem dX6_tell_88 : decode cX6_tell 88 = .ok (.invokestatic 33, 3) := zd_at zhX6_tell_68 11 rfl
theorem dX6_tell_91 : decode cX6_tell 91 = .ok (.invokestatic 38, 3) := zd_at zhX6_tell_68 12 rfl
theorem dX6_tell_94 : decode cX6_tell 94 = .ok (.ireturn, 1) := zd_at zhX6_tell_68 13 rfl
def ziX6_put_0 : List (Nat × Instr × Nat) := [(0, .iload_n 2, 1), (1, .bipush 31, 2), (3, .if_icmp .lt 5, 3), (6, .iload_n 2, 1), (7, .ireturn, 1), (8, .aload_n 0, 1), (9, .getfield 18, 3), (12, .iload_n 2, 1), (13, .iload_n 1, 1), (14, .ifCond .lt 7, 3), (17, .iload_n 1, 1), (18, .goto 8, 3), (21, .aload_n 3, 1), (22, .iconst (-1), 1), (23, .iload_n 1, 1), (24, .isub, 1), (25, .iaload, 1), (26, .iastore, 1), (27, .iload_n 2, 1), (28, .iconst 1, 1), (29, .iadd, 1), (30, .ireturn, 1)]
theorem zhX6_put_0 : zd_chk (cX6_put.data.toList.drop 0) 0 ziX6_put_0 = true := by decide +kernel
theorem dX6_put_0 : decode cX6_put 0 = .ok (.iload_n 2, 1) := zd_at zhX6_put_0 0 rfl
theorem dX6_put_1 : decode cX6_put 1 = .ok (.bipush 31, 2) := zd_at zhX6_put_0 1 rfl
theorem dX6_put_3 : decode cX6_put 3 = .ok (.if_icmp .lt 5, 3) := zd_at zhX6_put_0 2 rfl
theorem dX6_put_6 : decode cX6_put 6 = .ok (.iload_n 2, 1) := zd_at zhX6_put_0 3 rfl
theorem dX6_put_7 : decode cX6_put 7 = .ok (.ireturn, 1) := zd_at zhX6_put_0 4 rfl
theorem dX6_put_8 : decode cX6_put 8 = .ok (.aload_n 0, 1) := zd_at zhX6_put_0 5 rfl
theorem dX6_put_9 : decode cX6_put 9 = .ok (.getfield 18, 3) := zd_at zhX6_put_0 6 rfl
theorem dX6_put_12 : decode cX6_put 12 = .ok (.iload_n 2, 1) := zd_at zhX6_put_0 7 rfl
theorem dX6_put_13 : decode cX6_put 13 = .ok (.iload_n 1, 1) := zd_at zhX6_put_0 8 rfl
theorem dX6_put_14 : decode cX6_put 14 = .ok (.ifCond .lt 7, 3) := zd_at zhX6_put_0 9 rfl
theorem dX6_put_17 : decode cX6_put 17 = .ok (.iload_n 1, 1) := zd_at zhX6_put_0 10 rfl
theorem dX6_put_18 : decode cX6_put 18 = .ok (.goto 8, 3) := zd_at zhX6_put_0 11 rfl
theorem dX6_put_21 : decode cX6_put 21 = .ok (.aload_n 3, 1) := zd_at zhX6_put_0 12 rfl
theorem dX6_put_22 : decode cX6_put 22 = .ok (.iconst (-1), 1) := zd_at zhX6_put_0 13 rfl
theorem dX6_put_23 : decode cX6_put 23 = .ok (.iload_n 1, 1) := zd_at zhX6_put_0 14 rfl
theorem dX6_put_24 : decode cX6_put 24 = .ok (.isub, 1) := zd_at zhX6_put_0 15 rfl
theorem dX6_put_25 : decode cX6_put 25 = .ok (.iaload, 1) := zd_at zhX6_put_0 16 rfl
theorem dX6_put_26 : decode cX6_put 26 = .ok (.iastore, 1) := zd_at zhX6_put_0 17 rfl
theorem dX6_put_27 : decode cX6_put 27 = .ok (.iload_n 2, 1) := zd_at zhX6_put_0 18 rfl
theorem dX6_put_28 : decode cX6_put 28 = .ok (.iconst 1, 1) := zd_at zhX6_put_0 19 rfl
theorem dX6_put_29 : decode cX6_put 29 = .ok (.iadd, 1) := zd_at zhX6_put_0 20 rfl
theorem dX6_put_30 : decode cX6_put 30 = .ok (.ireturn, 1) := zd_at zhX6_put_0 21 rfl
def ziX6_join_0 : List (Nat × Instr × Nat) := [(0, .iload_n 1, 1), (1, .bipush (-8), 2), (3, .if_icmp .lt 9, 3), (6, .iload_n 2, 1), (7, .iconst 1, 1), (8, .isub, 1), (9, .goto 6, 3), (12, .iload_n 2, 1), (13, .iconst 2, 1), (14, .isub, 1), (15, .istore_n 3, 1), (16, .iload_n 3, 1), (17, .ifCond .ge 5, 3), (20, .iload_n 2, 1), (21, .ireturn, 1), (22, .aload_n 0, 1), (23, .getfield 18, 3), (26, .iload_n 3, 1), (27, .iaload, 1), (28, .istore 4, 2), (30, .aload_n 0, 1), (31, .getfield 18, 3), (34, .iload_n 2, 1), (35, .iconst 1, 1), (36, .isub, 1), (37, .iaload, 1), (38, .istore 5, 2), (40, .iload_n 1, 1)]
theorem zhX6_join_0 : zd_chk (cX6_join.data.toList.drop 0) 0 ziX6_join_0 = true := by decide +kernel
theorem dX6_join_0 : decode cX6_join 0 = .ok (.iload_n 1, 1) := zd_at zhX6_join_0 0 rfl
theorem dX6_join_1 : decode cX6_join 1 = .ok (.bipush (-8), 2) := zd_at zhX6_join_0 1 rfl
theorem dX6_join_3 : decode cX6_join 3 = .ok (.if_icmp .lt 9, 3) := zd_at zhX6_join_0 2 rfl
theorem dX6_join_6 : decode cX6_join 6 = .ok (.iload_n 2, 1) := zd_at zhX6_join_0 3 rfl
theorem dX6_join_7 : decode cX6_join 7 = .ok (.iconst 1, 1) := zd_at zhX6_join_0 4 rfl
theorem dX6_join_8 : decode cX6_join 8 = .ok (.isub, 1) := zd_at zhX6_join_0 5 rfl
theorem dX6_join_9 : decode cX6_join 9 = .ok (.goto 6, 3) := zd_at zhX6_join_0 6 rfl
theorem dX6_join_12 : decode cX6_join 12 = .ok (.iload_n 2, 1) := zd_at zhX6_join_0 7 rfl
theorem dX6_join_13 : decode cX6_join 13 = .ok (.iconst 2, 1) := zd_at zhX6_join_0 8 rfl
theorem dX6_join_14 : decode cX6_join 14 = .ok (.isub, 1) := zd_at zhX6_join_0 9 rfl
theorem dX6_join_15 : decode cX6_join 15 = .ok (.istore_n 3, 1) := zd_at zhX6_join_0 10 rfl
theorem dX6_join_16 : decode cX6_join 16 = .ok (.iload_n 3, 1) := zd_at zhX6_join_0 11 rfl
theorem dX6_join_17 : decode cX6_join 17 = .ok (.ifCond .ge 5, 3) := zd_at zhX6_join_0 12 rfl
theorem dX6_join_20 : decode cX6_join 20 = .ok (.iload_n 2, 1) := zd_at zhX6_join_0 13 rfl
theorem dX6_join_21 : decode cX6_join 21 = .ok (.ireturn, 1) := zd_at zhX6_join_0 14 rfl
theorem dX6_join_22 : decode cX6_join 22 = .ok (.aload_n 0, 1) := zd_at zhX6_join_0 15 rfl
theorem dX6_join_23 : decode cX6_join 23 = .ok (.getfield 18, 3) := zd_at zhX6_join_0 16 rfl
theorem dX6_join_26 : decode cX6_join 26 = .ok (.iload_n 3, 1) := zd_at zhX6_join_0 17 rfl
theorem dX6_join_27 : decode cX6_join 27 = .ok (.iaload, 1) := zd_at zhX6_join_0 18 rfl
theorem dX6_join_28 : decode cX6_join 28 = .ok (.istore 4, 2) := zd_at zhX6_join_0 19 rfl
theorem dX6_join_30 : decode cX6_join 30 = .ok (.aload_n 0, 1) := zd_at zhX6_join_0 20 rfl
theorem dX6_join_31 : decode cX6_join 31 = .ok (.getfield 18, 3) := zd_at zhX6_join_0 21 rfl
theorem dX6_join_34 : decode cX6_join 34 = .ok (.iload_n 2, 1) := zd_at zhX6_join_0 22 rfl
theorem dX6_join_35 : decode cX6_join 35 = .ok (.iconst 1, 1) := zd_at zhX6_join_0 23 rfl
theorem dX6_join_36 : decode cX6_join 36 = .ok (.isub, 1) := zd_at zhX6_join_0 24 rfl
theorem dX6_join_37 : decode cX6_join 37 = .ok (.iaload, 1) := zd_at zhX6_join_0 25 rfl
theorem dX6_join_38 : decode cX6_join 38 = .ok (.istore 5, 2) := zd_at zhX6_join_0 26 rfl
theorem dX6_join_40 : decode cX6_join 40 = .ok (.iload_n 1, 1) := zd_at zhX6_join_0 27 rfl
theorem dX6_join_41 : decode cX6_join 41 = .ok (.tableswitch 186 (-14) (-7) #[162, 141, 120, 106, 92, 78, 59, 47], 47) := by decide +kernel
def ziX6_join_88 : List (Nat × Instr × Nat) := [(88, .aload_n 0, 1), (89, .getfield 18, 3), (92, .iload_n 3, 1), (93, .iload 5, 2), (95, .ineg, 1), (96, .iastore, 1), (97, .goto 151, 3), (100, .aload_n 0, 1), (101, .getfield 18, 3), (104, .iload_n 3, 1), (105, .iload 5, 2), (107, .ifCond .ne 7, 3), (110, .iconst 1, 1), (111, .goto 4, 3), (114, .iconst 0, 1), (115, .iastore, 1), (116, .goto 132, 3), (119, .aload_n 0, 1), (120, .getfield 18, 3), (123, .iload_n 3, 1), (124, .iload 4, 2), (126, .iload 5, 2), (128, .imul, 1), (129, .iastore, 1), (130, .goto 118, 3), (133, .aload_n 0, 1), (134, .getfield 18, 3), (137, .iload_n 3, 1), (138, .iload 4, 2), (140, .iload 5, 2), (142, .iadd, 1), (143, .iastore, 1), (144, .goto 104, 3), (147, .aload_n 0, 1), (148, .getfield 18, 3), (151, .iload_n 3, 1), (152, .iload 4, 2), (154, .iload 5, 2), (156, .isub, 1), (157, .iastore, 1)]
theorem zhX6_join_88 : zd_chk (cX6_join.data.toList.drop 88) 88 ziX6_join_88 = true := by decide +kernel
theorem dX6_join_88 : decode cX6_join 88 = .ok (.aload_n 0, 1) := zd_at zhX6_join_88 0 rfl
theorem dX6_join_89 : decode cX6_join 89 = .ok (.getfield 18, 3) := zd_at zhX6_join_88 1 rfl
theorem dX6_join_92 : decode cX6_join 92 = .ok (.iload_n 3, 1) := zd_at zhX6_join_88 2 rfl
theorem dX6_join_93 : decode cX6_join 93 = .ok (.iload 5, 2) := zd_at zhX6_join_88 3 rfl
theorem dX6_join_95 : decode cX6_join 95 = .ok (.ineg, 1) := zd_at zhX6_join_88 4 rfl
theorem dX6_join_96 : decode cX6_join 96 = .ok (.iastore, 1) := zd_at zhX6_join_88 5 rfl
theorem dX6_join_97 : decode cX6_join 97 = .ok (.goto 151, 3) := zd_at zhX6_join_88 6 rfl
theorem dX6_join_100 : decode cX6_join 100 = .ok (.aload_n 0, 1) := zd_at zhX6_join_88 7 rfl
theorem dX6_join_101 : decode cX6_join 101 = .ok (.getfield 18, 3) := zd_at zhX6_join_88 8 rfl
theorem dX6_join_104 : decode cX6_join 104 = .ok (.iload_n 3, 1) := zd_at zhX6_join_88 9 rfl
theorem dX6_join_105 : decode cX6_join 105 = .ok (.iload 5, 2) := zd_at zhX6_join_88 10 rfl
theorem dX6_join_107 : decode cX6_join 107 = .ok (.ifCond .ne 7, 3) := zd_at zhX6_join_88 11 rfl
theorem dX6_join_110 : decode cX6_join 110 = .ok (.iconst 1, 1) := zd_at zhX6_join_88 12 rfl
theorem dX6_join_111 : decode cX6_join 111 = .ok (.goto 4, 3) := zd_at zhX6_join_88 13 rfl
theorem dX6_join_114 : decode cX6_join 114 = .ok (.iconst 0, 1) := zd_at zhX6_join_88 14 rfl
theorem dX6_join_115 : decode cX6_join 115 = .ok (.iastore, 1) := zd_at zhX6_join_88 15 rfl
theorem dX6_join_116 : decode cX6_join 116 = .ok (.goto 132, 3) := zd_at zhX6_join_88 16 rfl
theorem dX6_join_119 : decode cX6_join 119 = .ok (.aload_n 0, 1) := zd_at zhX6_join_88 17 rfl
theorem dX6_join_120 : decode cX6_join 120 = .ok (.getfield 18, 3) := zd_at zhX6_join_88 18 rfl
theorem dX6_join_123 : decode cX6_join 123 = .ok (.iload_n 3, 1) := zd_at zhX6_join_88 19 rfl
theorem dX6_join_124 : decode cX6_join 124 = .ok (.iload 4, 2) := zd_at zhX6_join_88 20 rfl
theorem dX6_join_126 : decode cX6_join 126 = .ok (.iload 5, 2) := zd_at zhX6_join_88 21 rfl
theorem dX6_join_128 : decode cX6_join 128 = .ok (.imul, 1) := zd_at zhX6_join_88 22 rfl
theorem dX6_join_129 : decode cX6_join 129 = .ok (.iastore, 1) := zd_at zhX6_join_88 23 rfl
theorem dX6_join_130 : decode cX6_join 130 = .ok (.goto 118, 3) := zd_at zhX6_join_88 24 rfl
theorem dX6_join_133 : decode cX6_join 133 = .ok (.aload_n 0, 1) := zd_at zhX6_join_88 25 rfl
theorem dX6_join_134 : decode cX6_join 134 = .ok (.getfield 18, 3) := zd_at zhX6_join_88 26 rfl
theorem dX6_join_137 : decode cX6_join 137 = .ok (.iload_n 3, 1) := zd_at zhX6_join_88 27 rfl
theorem dX6_join_138 : decode cX6_join 138 = .ok (.iload 4, 2) := zd_at zhX6_join_88 28 rfl
theorem dX6_join_140 : decode cX6_join 140 = .ok (.iload 5, 2) := zd_at zhX6_join_88 29 rfl
theorem dX6_join_142 : decode cX6_join 142 = .ok (.iadd, 1) := zd_at zhX6_join_88 30 rfl
theorem dX6_join_143 : decode cX6_join 143 = .ok (.iastore, 1) := zd_at zhX6_join_88 31 rfl
theorem dX6_join_144 : decode cX6_join 144 = .ok (.goto 104, 3) := zd_at zhX6_join_88 32 rfl
theorem dX6_join_147 : decode cX6_join 147 = .ok (.aload_n 0, 1) := zd_at zhX6_join_88 33 rfl
theorem dX6_join_148 : decode cX6_join 148 = .ok (.getfield 18, 3) := zd_at zhX6_join_88 34 rfl
theorem dX6_join_151 : decode cX6_join 151 = .ok (.iload_n 3, 1) := zd_at zhX6_join_88 35 rfl
theorem dX6_join_152 : decode cX6_join 152 = .ok (.iload 4, 2) := zd_at zhX6_join_88 36 rfl
theorem dX6_join_154 : decode cX6_join 154 = .ok (.iload 5, 2) := zd_at zhX6_join_88 37 rfl
theorem dX6_join_156 : decode cX6_join 156 = .ok (.isub, 1) := zd_at zhX6_join_88 38 rfl
theorem dX6_join_157 : decode cX6_join 157 = .ok (.iastore, 1) := zd_at zhX6_join_88 39 rfl
def ziX6_join_158 : List (Nat × Instr × Nat) := [(158, .goto 90, 3), (161, .aload_n 0, 1), (162, .getfield 18, 3), (165, .iload_n 3, 1), (166, .iload 4, 2), (168, .iload 5, 2), (170, .if_icmp .ge 7, 3), (173, .iconst 1, 1), (174, .goto 4, 3), (177, .iconst 0, 1), (178, .iastore, 1), (179, .goto 69, 3), (182, .aload_n 0, 1), (183, .getfield 18, 3), (186, .iload_n 3, 1), (187, .iload 4, 2), (189, .iload 5, 2), (191, .if_icmp .ne 7, 3), (194, .iconst 1, 1), (195, .goto 4, 3), (198, .iconst 0, 1), (199, .iastore, 1), (200, .goto 48, 3), (203, .aload_n 0, 1), (204, .getfield 18, 3), (207, .iload_n 3, 1), (208, .iload 4, 2), (210, .ifCond .eq 12, 3), (213, .iload 5, 2), (215, .ifCond .eq 7, 3), (218, .iconst 1, 1), (219, .goto 4, 3), (222, .iconst 0, 1), (223, .iastore, 1), (224, .goto 24, 3), (227, .aload_n 0, 1), (228, .getfield 18, 3), (231, .iload_n 3, 1), (232, .iload 4, 2), (234, .ifCond .ne 8, 3)]
theorem zhX6_join_158 : zd_chk (cX6_join.data.toList.drop 158) 158 ziX6_join_158 = true := by decide +kernel
theorem dX6_join_158 : decode cX6_join 158 = .ok (.goto 90, 3) := zd_at zhX6_join_158 0 rfl
theorem dX6_join_161 : decode cX6_join 161 = .ok (.aload_n 0, 1) := zd_at zhX6_join_158 1 rfl
theorem dX6_join_162 : decode cX6_join 162 = .ok (.getfield 18, 3) := zd_at zhX6_join_158 2 rfl
theorem dX6_join_165 : decode cX6_join 165 = .ok (.iload_n 3, 1) := zd_at zhX6_join_158 3 rfl
theorem dX6_join_166 : decode cX6_join 166 = .ok (.iload 4, 2) := zd_at zhX6_join_158 4 rfl
theorem dX6_join_168 : decode cX6_join 168 = .ok (.iload 5, 2) := zd_at zhX6_join_158 5 rfl
theorem dX6_join_170 : decode cX6_join 170 = .ok (.if_icmp .ge 7, 3) := zd_at zhX6_join_158 6 rfl
theorem dX6_join_173 : decode cX6_join 173 = .ok (.iconst 1, 1) := zd_at zhX6_join_158 7 rfl
theorem dX6_join_174 : decode cX6_join 174 = .ok (.goto 4, 3) := zd_at zhX6_join_158 8 rfl
theorem dX6_join_177 : decode cX6_join 177 = .ok (.iconst 0, 1) := zd_at zhX6_join_158 9 rfl
theorem dX6_join_178 : decode cX6_join 178 = .ok (.iastore, 1) := zd_at zhX6_join_158 10 rfl
theorem dX6_join_179 : decode cX6_join 179 = .ok (.goto 69, 3) := zd_at zhX6_join_158 11 rfl
theorem dX6_join_182 : decode cX6_join 182 = .ok (.aload_n 0, 1) := zd_at zhX6_join_158 12 rfl
theorem dX6_join_183 : decode cX6_join 183 = .ok (.getfield 18, 3) := zd_at zhX6_join_158 13 rfl
theorem dX6_join_186 : decode cX6_join 186 = .ok (.iload_n 3, 1) := zd_at zhX6_join_158 14 rfl
theorem dX6_join_187 : decode cX6_join 187 = .ok (.iload 4, 2) := zd_at zhX6_join_158 15 rfl
theorem dX6_join_189 : decode cX6_join 189 = .ok (.iload 5, 2) := zd_at zhX6_join_158 16 rfl
theorem dX6_join_191 : decode cX6_join 191 = .ok (.if_icmp .ne 7, 3) := zd_at zhX6_join_158 17 rfl
theorem dX6_join_194 : decode cX6_join 194 = .ok (.iconst 1, 1) := zd_at zhX6_join_158 18 rfl
theorem dX6_join_195 : decode cX6_join 195 = .ok (.goto 4, 3) := zd_at zhX6_join_158 19 rfl
theorem dX6_join_198 : decode cX6_join 198 = .ok (.iconst 0, 1) := zd_at zhX6_join_158 20 rfl
theorem dX6_join_199 : decode cX6_join 199 = .ok (.iastore, 1) := zd_at zhX6_join_158 21 rfl
theorem dX6_join_200 : decode cX6_join 200 = .ok (.goto 48, 3) := zd_at zhX6_join_158 22 rfl
theorem dX6_join_203 : decode cX6_join 203 = .ok (.aload_n 0, 1) := zd_at zhX6_join_158 23 rfl
theorem dX6_join_204 : decode cX6_join 204 = .ok (.getfield 18, 3) := zd_at zhX6_join_158 24 rfl
theorem dX6_join_207 : decode cX6_join 207 = .ok (.iload_n 3, 1) := zd_at zhX6_join_158 25 rfl
theorem dX6_join_208 : decode cX6_join 208 = .ok (.iload 4, 2) := zd_at zhX6_join_158 26 rfl
theorem dX6_join_210 : decode cX6_join 210 = .ok (.ifCond .eq 12, 3) := zd_at zhX6_join_158 27 rfl
theorem dX6_join_213 : decode cX6_join 213 = .ok (.iload 5, 2) := zd_at zhX6_join_158 28 rfl
theorem dX6_join_215 : decode cX6_join 215 = .ok (.ifCond .eq 7, 3) := zd_at zhX6_join_158 29 rfl
theorem dX6_join_218 : decode cX6_join 218 = .ok (.iconst 1, 1) := zd_at zhX6_join_158 30 rfl
theorem dX6_join_219 : decode cX6_join 219 = .ok (.goto 4, 3) := zd_at zhX6_join_158 31 rfl
theorem dX6_join_222 : decode cX6_join 222 = .ok (.iconst 0, 1) := zd_at zhX6_join_158 32 rfl
theorem dX6_join_223 : decode cX6_join 223 = .ok (.iastore, 1) := zd_at zhX6_join_158 33 rfl
theorem dX6_join_224 : decode cX6_join 224 = .ok (.goto 24, 3) := zd_at zhX6_join_158 34 rfl
theorem dX6_join_227 : decode cX6_join 227 = .ok (.aload_n 0, 1) := zd_at zhX6_join_158 35 rfl
theorem dX6_join_228 : decode cX6_join 228 = .ok (.getfield 18, 3) := zd_at zhX6_join_158 36 rfl
theorem dX6_join_231 : decode cX6_join 231 = .ok (.iload_n 3, 1) := zd_at zhX6_join_158 37 rfl
theorem dX6_join_232 : decode cX6_join 232 = .ok (.iload 4, 2) := zd_at zhX6_join_158 38 rfl
theorem dX6_join_234 : decode cX6_join 234 = .ok (.ifCond .ne 8, 3) := zd_at zhX6_join_158 39 rfl
def ziX6_join_237 : List (Nat × Instr × Nat) := [(237, .iload 5, 2), (239, .ifCond .eq 7, 3), (242, .iconst 1, 1), (243, .goto 4, 3), (246, .iconst 0, 1), (247, .iastore, 1), (248, .iload_n 3, 1), (249, .iconst 1, 1), (250, .iadd, 1), (251, .ireturn, 1)]
theorem zhX6_join_237 : zd_chk (cX6_join.data.toList.drop 237) 237 ziX6_join_237 = true := by decide +kernel
theorem dX6_join_237 : decode cX6_join 237 = .ok (.iload 5, 2) := zd_at zhX6_join_237 0 rfl
theorem dX6_join_239 : decode cX6_join 239 = .ok (.ifCond .eq 7, 3) := zd_at zhX6_join_237 1 rfl
theorem dX6_join_242 : decode cX6_join 242 = .ok (.iconst 1, 1) := zd_at zhX6_join_237 2 rfl
theorem dX6_join_243 : decode cX6_join 243 = .ok (.goto 4, 3) := zd_at zhX6_join_237 3 rfl
theorem dX6_join_246 : decode cX6_join 246 = .ok (.iconst 0, 1) := zd_at zhX6_join_237 4 rfl
theorem dX6_join_247 : decode cX6_join 247 = .ok (.iastore, 1) := zd_at zhX6_join_237 5 rfl
theorem dX6_join_248 : decode cX6_join 248 = .ok (.iload_n 3, 1) := zd_at zhX6_join_237 6 rfl
theorem dX6_join_249 : decode cX6_join 249 = .ok (.iconst 1, 1) := zd_at zhX6_join_237 7 rfl
theorem dX6_join_250 : decode cX6_join 250 = .ok (.iadd, 1) := zd_at zhX6_join_237 8 rfl
theorem dX6_join_251 : decode cX6_join 251 = .ok (.ireturn, 1) := zd_at zhX6_join_237 9 rfl
def ziX7_init_0 : List (Nat × Instr × Nat) := [(0, .aload_n 0, 1), (1, .invokespecial 3, 3), (4, .aload_n 0, 1), (5, .iconst 5, 1), (6, .anewarray 9, 3), (9, .putfield 11, 3), (12, .aload_n 0, 1), (13, .bipush 6, 2)]
theorem zhX7_init_0 : zd_chk (cX7_init.data.toList.drop 0) 0 ziX7_init_0 = true := by decide +kernel
theorem dX7_init_0 : decode cX7_init 0 = .ok (.aload_n 0, 1) := zd_at zhX7_init_0 0 rfl
theorem dX7_init_1 : decode cX7_init 1 = .ok (.invokespecial 3, 3) := zd_at zhX7_init_0 1 rfl
theorem dX7_init_4 : decode cX7_init 4 = .ok (.aload_n 0, 1) := zd_at zhX7_init_0 2 rfl
theorem dX7_init_5 : decode cX7_init 5 = .ok (.iconst 5, 1) := zd_at zhX7_init_0 3 rfl
theorem dX7_init_6 : decode cX7_init 6 = .ok (.anewarray 9, 3) := zd_at zhX7_init_0 4 rfl
theorem dX7_init_9 : decode cX7_init 9 = .ok (.putfield 11, 3) := zd_at zhX7_init_0 5 rfl
theorem dX7_init_12 : decode cX7_init 12 = .ok (.aload_n 0, 1) := zd_at zhX7_init_0 6 rfl
theorem dX7_init_13 : decode cX7_init 13 = .ok (.bipush 6, 2) := zd_at zhX7_init_0 7 rfl
theorem dX7_init_15 : decode cX7_init 15 = .ok (.newarray .int, 2) := by decide +kernel
def ziX7_init_17 : List (Nat × Instr × Nat) := [(17, .putfield 17, 3), (20, .aload_n 0, 1), (21, .sipush 1024, 3), (24, .putfield 21, 3), (27, .aload_n 0, 1), (28, .aload_n 1, 1), (29, .putfield 25, 3), (32, .iconst 0, 1), (33, .istore_n 2, 1), (34, .iload_n 2, 1), (35, .iconst 5, 1), (36, .if_icmp .ge 22, 3), (39, .aload_n 0, 1), (40, .getfield 11, 3), (43, .iload_n 2, 1), (44, .new 9, 3), (47, .dup, 1), (48, .invokespecial 29, 3), (51, .aastore, 1), (52, .iinc 2 1, 3), (55, .goto (-21), 3), (58, .return_, 1)]
theorem zhX7_init_17 : zd_chk (cX7_init.data.toList.drop 17) 17 ziX7_init_17 = true := by decide +kernel
theorem dX7_init_17 : decode cX7_init 17 = .ok (.putfield 17, 3) := zd_at zhX7_init_17 0 rfl
theorem dX7_init_20 : decode cX7_init 20 = .ok (.aload_n 0, 1) := zd_at zhX7_init_17 1 rfl
theorem dX7_init_21 : decode cX7_init 21 = .ok (.sipush 1024, 3) := zd_at zhX7_init_17 2 rfl
theorem dX7_init_24 : decode cX7_init 24 = .ok (.putfield 21, 3) := zd_at zhX7_init_17 3 rfl
theorem dX7_init_27 : decode cX7_init 27 = .ok (.aload_n 0, 1) := zd_at zhX7_init_17 4 rfl
theorem dX7_init_28 : decode cX7_init 28 = .ok (.aload_n 1, 1) := zd_at zhX7_init_17 5 rfl
theorem dX7_init_29 : decode cX7_init 29 = .ok (.putfield 25, 3) := zd_at zhX7_init_17 6 rfl
theorem dX7_init_32 : decode cX7_init 32 = .ok (.iconst 0, 1) := zd_at zhX7_init_17 7 rfl
theorem dX7_init_33 : decode cX7_init 33 = .ok (.istore_n 2, 1) := zd_at zhX7_init_17 8 rfl
theorem dX7_init_34 : decode cX7_init 34 = .ok (.iload_n 2, 1) := zd_at zhX7_init_17 9 rfl
theorem dX7_init_35 : decode cX7_init 35 = .ok (.iconst 5, 1) := zd_at zhX7_init_17 10 rfl
theorem dX7_init_36 : decode cX7_init 36 = .ok (.if_icmp .ge 22, 3) := zd_at zhX7_init_17 11 rfl
theorem dX7_init_39 : decode cX7_init 39 = .ok (.aload_n 0, 1) := zd_at zhX7_init_17 12 rfl
theorem dX7_init_40 : decode cX7_init 40 = .ok (.getfield 11, 3) := zd_at zhX7_init_17 13 rfl
theorem dX7_init_43 : decode cX7_init 43 = .ok (.iload_n 2, 1) := zd_at zhX7_init_17 14 rfl
theorem dX7_init_44 : decode cX7_init 44 = .ok (.new 9, 3) := zd_at zhX7_init_17 15 rfl
theorem dX7_init_47 : decode cX7_init 47 = .ok (.dup, 1) := zd_at zhX7_init_17 16 rfl
theorem dX7_init_48 : decode cX7_init 48 = .ok (.invokespecial 29, 3) := zd_at zhX7_init_17 17 rfl
theorem dX7_init_51 : decode cX7_init 51 = .ok (.aastore, 1) := zd_at zhX7_init_17 18 rfl
theorem dX7_init_52 : decode cX7_init 52 = .ok (.iinc 2 1, 3) := zd_at zhX7_init_17 19 rfl
theorem dX7_init_55 : decode cX7_init 55 = .ok (.goto (-21), 3) := zd_at zhX7_init_17 20 rfl
theorem dX7_init_58 : decode cX7_init 58 = .ok (.return_, 1) := zd_at zhX7_init_17 21 rfl
def ziX7_become_0 : List (Nat × Instr × Nat) := [(0, .aload_n 0, 1), (1, .aload_n 1, 1), (2, .getfield 30, 3), (5, .putfield 30, 3), (8, .aload_n 0, 1), (9, .aload_n 1, 1), (10, .getfield 33, 3), (13, .putfield 33, 3), (16, .aload_n 0, 1), (17, .aload_n 1, 1), (18, .getfield 21, 3), (21, .putfield 21, 3), (24, .aload_n 0, 1), (25, .aload_n 1, 1), (26, .getfield 36, 3), (29, .putfield 36, 3), (32, .aload_n 0, 1), (33, .aload_n 1, 1), (34, .getfield 39, 3), (37, .putfield 39, 3), (40, .iconst 0, 1), (41, .istore_n 2, 1), (42, .iload_n 2, 1), (43, .aload_n 0, 1), (44, .getfield 30, 3), (47, .if_icmp .ge 24, 3), (50, .aload_n 0, 1), (51, .getfield 11, 3), (54, .iload_n 2, 1), (55, .aaload, 1), (56, .aload_n 1, 1), (57, .getfield 11, 3), (60, .iload_n 2, 1), (61, .aaload, 1), (62, .invokevirtual 42, 3), (65, .iinc 2 1, 3), (68, .goto (-26), 3), (71, .return_, 1)]
theorem zhX7_become_0 : zd_chk (cX7_become.data.toList.drop 0) 0 ziX7_become_0 = true := by decide +kernel
theorem dX7_become_0 : decode cX7_become 0 = .ok (.aload_n 0, 1) := zd_at zhX7_become_0 0 rfl
theorem dX7_become_1 : decode cX7_become 1 = .ok (.aload_n 1, 1) := zd_at zhX7_become_0 1 rfl
theorem dX7_become_2 : decode cX7_become 2 = .ok (.getfield 30, 3) := zd_at zhX7_become_0 2 rfl
theorem dX7_become_5 : decode cX7_become 5 = .ok (.putfield 30, 3) := zd_at zhX7_become_0 3 rfl
theorem dX7_become_8 : decode cX7_become 8 = .ok (.aload_n 0, 1) := zd_at zhX7_become_0 4 rfl
theorem dX7_become_9 : decode cX7_become 9 = .ok (.aload_n 1, 1) := zd_at zhX7_become_0 5 rfl
theorem dX7_become_10 : decode cX7_become 10 = .ok (.getfield 33, 3) := zd_at zhX7_become_0 6 rfl
theorem dX7_become_13 : decode cX7_become 13 = .ok (.putfield 33, 3) := zd_at zhX7_become_0 7 rfl
theorem dX7_become_16 : decode cX7_become 16 = .ok (.aload_n 0, 1) := zd_at zhX7_become_0 8 rfl
theorem dX7_become_17 : decode cX7_become 17 = .ok (.aload_n 1, 1) := zd_at zhX7_become_0 9 rfl
theorem dX7_become_18 : decode cX7_become 18 = .ok (.getfield 21, 3) := zd_at zhX7_become_0 10 rfl
theorem dX7_become_21 : decode cX7_become 21 = .ok (.putfield 21, 3) := zd_at zhX7_become_0 11 rfl
theorem dX7_become_24 : decode cX7_become 24 = .ok (.aload_n 0, 1) := zd_at zhX7_become_0 12 rfl
theorem dX7_become_25 : decode cX7_become 25 = .ok (.aload_n 1, 1) := zd_at zhX7_become_0 13 rfl
theorem dX7_become_26 : decode cX7_become 26 = .ok (.getfield 36, 3) := zd_at zhX7_become_0 14 rfl
theorem dX7_become_29 : decode cX7_become 29 = .ok (.putfield 36, 3) := zd_at zhX7_become_0 15 rfl
theorem dX7_become_32 : decode cX7_become 32 = .ok (.aload_n 0, 1) := zd_at zhX7_become_0 16 rfl
theorem dX7_become_33 : decode cX7_become 33 = .ok (.aload_n 1, 1) := zd_at zhX7_become_0 17 rfl
theorem dX7_become_34 : decode cX7_become 34 = .ok (.getfield 39, 3) := zd_at zhX7_become_0 18 rfl
theorem dX7_become_37 : decode cX7_become 37 = .ok (.putfield 39, 3) := zd_at zhX7_become_0 19 rfl
theorem dX7_become_40 : decode cX7_become 40 = .ok (.iconst 0, 1) := zd_at zhX7_become_0 20 rfl
theorem dX7_become_41 : decode cX7_become 41 = .ok (.istore_n 2, 1) := zd_at zhX7_become_0 21 rfl
theorem dX7_become_42 : decode cX7_become 42 = .ok (.iload_n 2, 1) := zd_at zhX7_become_0 22 rfl
theorem dX7_become_43 : decode cX7_become 43 = .ok (.aload_n 0, 1) := zd_at zhX7_become_0 23 rfl
theorem dX7_become_44 : decode cX7_become 44 = .ok (.getfield 30, 3) := zd_at zhX7_become_0 24 rfl
theorem dX7_become_47 : decode cX7_become 47 = .ok (.if_icmp .ge 24, 3) := zd_at zhX7_become_0 25 rfl
theorem dX7_become_50 : decode cX7_become 50 = .ok (.aload_n 0, 1) := zd_at zhX7_become_0 26 rfl
theorem dX7_become_51 : decode cX7_become 51 = .ok (.getfield 11, 3) := zd_at zhX7_become_0 27 rfl
theorem dX7_become_54 : decode cX7_become 54 = .ok (.iload_n 2, 1) := zd_at zhX7_become_0 28 rfl
theorem dX7_become_55 : decode cX7_become 55 = .ok (.aaload, 1) := zd_at zhX7_become_0 29 rfl
theorem dX7_become_56 : decode cX7_become 56 = .ok (.aload_n 1, 1) := zd_at zhX7_become_0 30 rfl
theorem dX7_become_57 : decode cX7_become 57 = .ok (.getfield 11, 3) := zd_at zhX7_become_0 31 rfl
theorem dX7_become_60 : decode cX7_become 60 = .ok (.iload_n 2, 1) := zd_at zhX7_become_0 32 rfl
theorem dX7_become_61 : decode cX7_become 61 = .ok (.aaload, 1) := zd_at zhX7_become_0 33 rfl
theorem dX7_become_62 : decode cX7_become 62 = .ok (.invokevirtual 42, 3) := zd_at zhX7_become_0 34 rfl
theorem dX7_become_65 : decode cX7_become 65 = .ok (.iinc 2 1, 3) := zd_at zhX7_become_0 35 rfl
theorem dX7_become_68 : decode cX7_become 68 = .ok (.goto (-26), 3) := zd_at zhX7_become_0 36 rfl
theorem dX7_become_71 : decode cX7_become 71 = .ok (.return_, 1) := zd_at zhX7_become_0 37 rfl
def ziX7_welcome_0 : List (Nat × Instr × Nat) := [(0, .aload_n 0, 1), (1, .getfield 11, 3), (4, .aload_n 0, 1), (5, .getfield 30, 3), (8, .aaload, 1), (9, .astore_n 3, 1), (10, .aload_n 3, 1), (11, .iload_n 1, 1), (12, .putfield 46, 3), (15, .aload_n 3, 1), (16, .iload_n 2, 1), (17, .putfield 49, 3), (20, .iconst 0, 1), (21, .istore 4, 2), (23, .iload 4, 2), (25, .bipush 10, 2), (27, .if_icmp .ge 17, 3), (30, .aload_n 3, 1), (31, .getfield 52, 3), (34, .iload 4, 2), (36, .iconst (-1), 1), (37, .iastore, 1), (38, .iinc 4 1, 3), (41, .goto (-18), 3), (44, .aload_n 0, 1), (45, .dup, 1), (46, .getfield 30, 3), (49, .iconst 1, 1), (50, .iadd, 1), (51, .putfield 30, 3), (54, .aload_n 0, 1), (55, .getfield 30, 3), (58, .iconst 1, 1), (59, .isub, 1), (60, .ireturn, 1)]
theorem zhX7_welcome_0 : zd_chk (cX7_welcome.data.toList.drop 0) 0 ziX7_welcome_0 = true := by decide +kernel
theorem dX7_welcome_0 : decode cX7_welcome 0 = .ok (.aload_n 0, 1) := zd_at zhX7_welcome_0 0 rfl
theorem dX7_welcome_1 : decode cX7_welcome 1 = .ok (.getfield 11, 3) := zd_at zhX7_welcome_0 1 rfl
theorem dX7_welcome_4 : decode cX7_welcome 4 = .ok (.aload_n 0, 1) := zd_at zhX7_welcome_0 2 rfl
theorem dX7_welcome_5 : decode cX7_welcome 5 = .ok (.getfield 30, 3) := zd_at zhX7_welcome_0 3 rfl
theorem dX7_welcome_8 : decode cX7_welcome 8 = .ok (.aaload, 1) := zd_at zhX7_welcome_0 4 rfl
theorem dX7_welcome_9 : decode cX7_welcome 9 = .ok (.astore_n 3, 1) := zd_at zhX7_welcome_0 5 rfl
theorem dX7_welcome_10 : decode cX7_welcome 10 = .ok (.aload_n 3, 1) := zd_at zhX7_welcome_0 6 rfl
theorem dX7_welcome_11 : decode cX7_welcome 11 = .ok (.iload_n 1, 1) := zd_at zhX7_welcome_0 7 rfl
theorem dX7_welcome_12 : decode cX7_welcome 12 = .ok (.putfield 46, 3) := zd_at zhX7_welcome_0 8 rfl
theorem dX7_welcome_15 : decode cX7_welcome 15 = .ok (.aload_n 3, 1) := zd_at zhX7_welcome_0 9 rfl
theorem dX7_welcome_16 : decode cX7_welcome 16 = .ok (.iload_n 2, 1) := zd_at zhX7_welcome_0 10 rfl
theorem dX7_welcome_17 : decode cX7_welcome 17 = .ok (.putfield 49, 3) := zd_at zhX7_welcome_0 11 rfl
theorem dX7_welcome_20 : decode cX7_welcome 20 = .ok (.iconst 0, 1) := zd_at zhX7_welcome_0 12 rfl
theorem dX7_welcome_21 : decode cX7_welcome 21 = .ok (.istore 4, 2) := zd_at zhX7_welcome_0 13 rfl
theorem dX7_welcome_23 : decode cX7_welcome 23 = .ok (.iload 4, 2) := zd_at zhX7_welcome_0 14 rfl
theorem dX7_welcome_25 : decode cX7_welcome 25 = .ok (.bipush 10, 2) := zd_at zhX7_welcome_0 15 rfl
theorem dX7_welcome_27 : decode cX7_welcome 27 = .ok (.if_icmp .ge 17, 3) := zd_at zhX7_welcome_0 16 rfl
theorem dX7_welcome_30 : decode cX7_welcome 30 = .ok (.aload_n 3, 1) := zd_at zhX7_welcome_0 17 rfl
theorem dX7_welcome_31 : decode cX7_welcome 31 = .ok (.getfield 52, 3) := zd_at zhX7_welcome_0 18 rfl
theorem dX7_welcome_34 : decode cX7_welcome 34 = .ok (.iload 4, 2) := zd_at zhX7_welcome_0 19 rfl
theorem dX7_welcome_36 : decode cX7_welcome 36 = .ok (.iconst (-1), 1) := zd_at zhX7_welcome_0 20 rfl
theorem dX7_welcome_37 : decode cX7_welcome 37 = .ok (.iastore, 1) := zd_at zhX7_welcome_0 21 rfl
theorem dX7_welcome_38 : decode cX7_welcome 38 = .ok (.iinc 4 1, 3) := zd_at zhX7_welcome_0 22 rfl
theorem dX7_welcome_41 : decode cX7_welcome 41 = .ok (.goto (-18), 3) := zd_at zhX7_welcome_0 23 rfl
theorem dX7_welcome_44 : decode cX7_welcome 44 = .ok (.aload_n 0, 1) := zd_at zhX7_welcome_0 24 rfl
theorem dX7_welcome_45 : decode cX7_welcome 45 = .ok (.dup, 1) := zd_at zhX7_welcome_0 25 rfl
theorem dX7_welcome_46 : decode cX7_welcome 46 = .ok (.getfield 30, 3) := zd_at zhX7_welcome_0 26 rfl
theorem dX7_welcome_49 : decode cX7_welcome 49 = .ok (.iconst 1, 1) := zd_at zhX7_welcome_0 27 rfl
theorem dX7_welcome_50 : decode cX7_welcome 50 = .ok (.iadd, 1) := zd_at zhX7_welcome_0 28 rfl
theorem dX7_welcome_51 : decode cX7_welcome 51 = .ok (.putfield 30, 3) := zd_at zhX7_welcome_0 29 rfl
theorem dX7_welcome_54 : decode cX7_welcome 54 = .ok (.aload_n 0, 1) := zd_at zhX7_welcome_0 30 rfl
theorem dX7_welcome_55 : decode cX7_welcome 55 = .ok (.getfield 30, 3) := zd_at zhX7_welcome_0 31 rfl
theorem dX7_welcome_58 : decode cX7_welcome 58 = .ok (.iconst 1, 1) := zd_at zhX7_welcome_0 32 rfl
theorem dX7_welcome_59 : decode cX7_welcome 59 = .ok (.isub, 1) := zd_at zhX7_welcome_0 33 rfl
theorem dX7_welcome_60 : decode cX7_welcome 60 = .ok (.ireturn, 1) := zd_at zhX7_welcome_0 34 rfl
def ziX7_takes_0 : List (Nat × Instr × Nat) := [(0, .aload_n 0, 1), (1, .getfield 11, 3), (4, .iload_n 1, 1), (5, .aaload, 1), (6, .astore 4, 2), (8, .aload_n 0, 1), (9, .getfield 17, 3), (12, .iconst 0, 1), (13, .iload_n 2, 1), (14, .iastore, 1), (15, .aload_n 0, 1), (16, .getfield 17, 3), (19, .iconst 1, 1), (20, .iload_n 3, 1), (21, .iastore, 1), (22, .aload_n 0, 1), (23, .getfield 17, 3), (26, .iconst 2, 1), (27, .aload_n 0, 1), (28, .getfield 33, 3), (31, .iastore, 1), (32, .aload_n 0, 1), (33, .getfield 17, 3), (36, .iconst 3, 1), (37, .aload 4, 2), (39, .getfield 49, 3), (42, .iastore, 1), (43, .aload_n 0, 1), (44, .getfield 17, 3), (47, .iconst 4, 1), (48, .iconst 0, 1), (49, .iastore, 1), (50, .aload_n 0, 1), (51, .getfield 17, 3), (54, .iconst 5, 1), (55, .aload 4, 2), (57, .invokevirtual 55, 3), (60, .iastore, 1), (61, .aload 4, 2), (63, .getfield 46, 3)]
theorem zhX7_takes_0 : zd_chk (cX7_takes.data.toList.drop 0) 0 ziX7_takes_0 = true := by decide +kernel
theorem dX7_takes_0 : decode cX7_takes 0 = .ok (.aload_n 0, 1) := zd_at zhX7_takes_0 0 rfl
theorem dX7_takes_1 : decode cX7_takes 1 = .ok (.getfield 11, 3) := zd_at zhX7_takes_0 1 rfl
theorem dX7_takes_4 : decode cX7_takes 4 = .ok (.iload_n 1, 1) := zd_at zhX7_takes_0 2 rfl
theorem dX7_takes_5 : decode cX7_takes 5 = .ok (.aaload, 1) := zd_at zhX7_takes_0 3 rfl
theorem dX7_takes_6 : decode cX7_takes 6 = .ok (.astore 4, 2) := zd_at zhX7_takes_0 4 rfl
theorem dX7_takes_8 : decode cX7_takes 8 = .ok (.aload_n 0, 1) := zd_at zhX7_takes_0 5 rfl
theorem dX7_takes_9 : decode cX7_takes 9 = .ok (.getfield 17, 3) := zd_at zhX7_takes_0 6 rfl
theorem dX7_takes_12 : decode cX7_takes 12 = .ok (.iconst 0, 1) := zd_at zhX7_takes_0 7 rfl
theorem dX7_takes_13 : decode cX7_takes 13 = .ok (.iload_n 2, 1) := zd_at zhX7_takes_0 8 rfl
theorem dX7_takes_14 : decode cX7_takes 14 = .ok (.iastore, 1) := zd_at zhX7_takes_0 9 rfl
theorem dX7_takes_15 : decode cX7_takes 15 = .ok (.aload_n 0, 1) := zd_at zhX7_takes_0 10 rfl
theorem dX7_takes_16 : decode cX7_takes 16 = .ok (.getfield 17, 3) := zd_at zhX7_takes_0 11 rfl
theorem dX7_takes_19 : decode cX7_takes 19 = .ok (.iconst 1, 1) := zd_at zhX7_takes_0 12 rfl
theorem dX7_takes_20 : decode cX7_takes 20 = .ok (.iload_n 3, 1) := zd_at zhX7_takes_0 13 rfl
theorem dX7_takes_21 : decode cX7_takes 21 = .ok (.iastore, 1) := zd_at zhX7_takes_0 14 rfl
theorem dX7_takes_22 : decode cX7_takes 22 = .ok (.aload_n 0, 1) := zd_at zhX7_takes_0 15 rfl
theorem dX7_takes_23 : decode cX7_takes 23 = .ok (.getfield 17, 3) := zd_at zhX7_takes_0 16 rfl
theorem dX7_takes_26 : decode cX7_takes 26 = .ok (.iconst 2, 1) := zd_at zhX7_takes_0 17 rfl
theorem dX7_takes_27 : decode cX7_takes 27 = .ok (.aload_n 0, 1) := zd_at zhX7_takes_0 18 rfl
theorem dX7_takes_28 : decode cX7_takes 28 = .ok (.getfield 33, 3) := zd_at zhX7_takes_0 19 rfl
theorem dX7_takes_31 : decode cX7_takes 31 = .ok (.iastore, 1) := zd_at zhX7_takes_0 20 rfl
theorem dX7_takes_32 : decode cX7_takes 32 = .ok (.aload_n 0, 1) := zd_at zhX7_takes_0 21 rfl
theorem dX7_takes_33 : decode cX7_takes 33 = .ok (.getfield 17, 3) := zd_at zhX7_takes_0 22 rfl
theorem dX7_takes_36 : decode cX7_takes 36 = .ok (.iconst 3, 1) := zd_at zhX7_takes_0 23 rfl
theorem dX7_takes_37 : decode cX7_takes 37 = .ok (.aload 4, 2) := zd_at zhX7_takes_0 24 rfl
theorem dX7_takes_39 : decode cX7_takes 39 = .ok (.getfield 49, 3) := zd_at zhX7_takes_0 25 rfl
theorem dX7_takes_42 : decode cX7_takes 42 = .ok (.iastore, 1) := zd_at zhX7_takes_0 26 rfl
theorem dX7_takes_43 : decode cX7_takes 43 = .ok (.aload_n 0, 1) := zd_at zhX7_takes_0 27 rfl
theorem dX7_takes_44 : decode cX7_takes 44 = .ok (.getfield 17, 3) := zd_at zhX7_takes_0 28 rfl
theorem dX7_takes_47 : decode cX7_takes 47 = .ok (.iconst 4, 1) := zd_at zhX7_takes_0 29 rfl
theorem dX7_takes_48 : decode cX7_takes 48 = .ok (.iconst 0, 1) := zd_at zhX7_takes_0 30 rfl
theorem dX7_takes_49 : decode cX7_takes 49 = .ok (.iastore, 1) := zd_at zhX7_takes_0 31 rfl
theorem dX7_takes_50 : decode cX7_takes 50 = .ok (.aload_n 0, 1) := zd_at zhX7_takes_0 32 rfl
theorem dX7_takes_51 : decode cX7_takes 51 = .ok (.getfield 17, 3) := zd_at zhX7_takes_0 33 rfl
theorem dX7_takes_54 : decode cX7_takes 54 = .ok (.iconst 5, 1) := zd_at zhX7_takes_0 34 rfl
theorem dX7_takes_55 : decode cX7_takes 55 = .ok (.aload 4, 2) := zd_at zhX7_takes_0 35 rfl
theorem dX7_takes_57 : decode cX7_takes 57 = .ok (.invokevirtual 55, 3) := zd_at zhX7_takes_0 36 rfl
theorem dX7_takes_60 : decode cX7_takes 60 = .ok (.iastore, 1) := zd_at zhX7_takes_0 37 rfl
theorem dX7_takes_61 : decode cX7_takes 61 = .ok (.aload 4, 2) := zd_at zhX7_takes_0 38 rfl
theorem dX7_takes_63 : decode cX7_takes 63 = .ok (.getfield 46, 3) := zd_at zhX7_takes_0 39 rfl
def ziX7_takes_66 : List (Nat × Instr × Nat) := [(66, .aload_n 0, 1), (67, .getfield 25, 3), (70, .aload_n 0, 1), (71, .getfield 39, 3), (74, .aaload, 1), (75, .iconst 0, 1), (76, .aload_n 0, 1), (77, .getfield 17, 3), (80, .invokevirtual 59, 3), (83, .invokestatic 65, 3), (86, .ireturn, 1)]
theorem zhX7_takes_66 : zd_chk (cX7_takes.data.toList.drop 66) 66 ziX7_takes_66 = true := by decide +kernel
theorem dX7_takes_66 : decode cX7_takes 66 = .ok (.aload_n 0, 1) := zd_at zhX7_takes_66 0 rfl
theorem dX7_takes_67 : decode cX7_takes 67 = .ok (.getfield 25, 3) := zd_at zhX7_takes_66 1 rfl
theorem dX7_takes_70 : decode cX7_takes 70 = .ok (.aload_n 0, 1) := zd_at zhX7_takes_66 2 rfl
theorem dX7_takes_71 : decode cX7_takes 71 = .ok (.getfield 39, 3) := zd_at zhX7_takes_66 3 rfl
theorem dX7_takes_74 : decode cX7_takes 74 = .ok (.aaload, 1) := zd_at zhX7_takes_66 4 rfl
theorem dX7_takes_75 : decode cX7_takes 75 = .ok (.iconst 0, 1) := zd_at zhX7_takes_66 5 rfl
theorem dX7_takes_76 : decode cX7_takes 76 = .ok (.aload_n 0, 1) := zd_at zhX7_takes_66 6 rfl
theorem dX7_takes_77 : decode cX7_takes 77 = .ok (.getfield 17, 3) := zd_at zhX7_takes_66 7 rfl
theorem dX7_takes_80 : decode cX7_takes 80 = .ok (.invokevirtual 59, 3) := zd_at zhX7_takes_66 8 rfl
theorem dX7_takes_83 : decode cX7_takes 83 = .ok (.invokestatic 65, 3) := zd_at zhX7_takes_66 9 rfl
theorem dX7_takes_86 : decode cX7_takes 86 = .ok (.ireturn, 1) := zd_at zhX7_takes_66 10 rfl
def ziX7_utter_0 : List (Nat × Instr × Nat) := [(0, .aload_n 0, 1), (1, .iload_n 1, 1), (2, .iload_n 2, 1), (3, .iload_n 3, 1), (4, .invokevirtual 71, 3), (7, .istore 4, 2), (9, .aload_n 0, 1), (10, .getfield 11, 3), (13, .iload_n 1, 1), (14, .aaload, 1), (15, .astore 5, 2), (17, .iload 4, 2), (19, .bipush 10, 2), (21, .invokestatic 74, 3), (24, .ifCond .eq 15, 3), (27, .aload 5, 2), (29, .getfield 52, 3), (32, .iload 4, 2), (34, .iaload, 1), (35, .iconst (-1), 1), (36, .if_icmp .eq 5, 3), (39, .iconst (-1), 1), (40, .ireturn, 1), (41, .aload 5, 2), (43, .getfield 52, 3), (46, .iload 4, 2), (48, .iload_n 2, 1), (49, .iastore, 1), (50, .aload 5, 2), (52, .getfield 78, 3), (55, .iload 4, 2), (57, .iconst 0, 1), (58, .iastore, 1), (59, .iload 4, 2), (61, .ireturn, 1)]
theorem zhX7_utter_0 : zd_chk (cX7_utter.data.toList.drop 0) 0 ziX7_utter_0 = true := by decide +kernel
theorem dX7_utter_0 : decode cX7_utter 0 = .ok (.aload_n 0, 1) := zd_at zhX7_utter_0 0 rfl
theorem dX7_utter_1 : decode cX7_utter 1 = .ok (.iload_n 1, 1) := zd_at zhX7_utter_0 1 rfl
theorem dX7_utter_2 : decode cX7_utter 2 = .ok (.iload_n 2, 1) := zd_at zhX7_utter_0 2 rfl
theorem dX7_utter_3 : decode cX7_utter 3 = .ok (.iload_n 3, 1) := zd_at zhX7_utter_0 3 rfl
theorem dX7_utter_4 : decode cX7_utter 4 = .ok (.invokevirtual 71, 3) := zd_at zhX7_utter_0 4 rfl
theorem dX7_utter_7 : decode cX7_utter 7 = .ok (.istore 4, 2) := zd_at zhX7_utter_0 5 rfl
theorem dX7_utter_9 : decode cX7_utter 9 = .ok (.aload_n 0, 1) := zd_at zhX7_utter_0 6 rfl
theorem dX7_utter_10 : decode cX7_utter 10 = .ok (.getfield 11, 3) := zd_at zhX7_utter_0 7 rfl
theorem dX7_utter_13 : decode cX7_utter 13 = .ok (.iload_n 1, 1) := zd_at zhX7_utter_0 8 rfl
theorem dX7_utter_14 : decode cX7_utter 14 = .ok (.aaload, 1) := zd_at zhX7_utter_0 9 rfl
theorem dX7_utter_15 : decode cX7_utter 15 = .ok (.astore 5, 2) := zd_at zhX7_utter_0 10 rfl
theorem dX7_utter_17 : decode cX7_utter 17 = .ok (.iload 4, 2) := zd_at zhX7_utter_0 11 rfl
theorem dX7_utter_19 : decode cX7_utter 19 = .ok (.bipush 10, 2) := zd_at zhX7_utter_0 12 rfl
theorem dX7_utter_21 : decode cX7_utter 21 = .ok (.invokestatic 74, 3) := zd_at zhX7_utter_0 13 rfl
theorem dX7_utter_24 : decode cX7_utter 24 = .ok (.ifCond .eq 15, 3) := zd_at zhX7_utter_0 14 rfl
theorem dX7_utter_27 : decode cX7_utter 27 = .ok (.aload 5, 2) := zd_at zhX7_utter_0 15 rfl
theorem dX7_utter_29 : decode cX7_utter 29 = .ok (.getfield 52, 3) := zd_at zhX7_utter_0 16 rfl
theorem dX7_utter_32 : decode cX7_utter 32 = .ok (.iload 4, 2) := zd_at zhX7_utter_0 17 rfl
theorem dX7_utter_34 : decode cX7_utter 34 = .ok (.iaload, 1) := zd_at zhX7_utter_0 18 rfl
theorem dX7_utter_35 : decode cX7_utter 35 = .ok (.iconst (-1), 1) := zd_at zhX7_utter_0 19 rfl
theorem dX7_utter_36 : decode cX7_utter 36 = .ok (.if_icmp .eq 5, 3) := zd_at zhX7_utter_0 20 rfl
theorem dX7_utter_39 : decode cX7_utter 39 = .ok (.iconst (-1), 1) := zd_at zhX7_utter_0 21 rfl
theorem dX7_utter_40 : decode cX7_utter 40 = .ok (.ireturn, 1) := zd_at zhX7_utter_0 22 rfl
theorem dX7_utter_41 : decode cX7_utter 41 = .ok (.aload 5, 2) := zd_at zhX7_utter_0 23 rfl
theorem dX7_utter_43 : decode cX7_utter 43 = .ok (.getfield 52, 3) := zd_at zhX7_utter_0 24 rfl
theorem dX7_utter_46 : decode cX7_utter 46 = .ok (.iload 4, 2) := zd_at zhX7_utter_0 25 rfl
theorem dX7_utter_48 : decode cX7_utter 48 = .ok (.iload_n 2, 1) := zd_at zhX7_utter_0 26 rfl
theorem dX7_utter_49 : decode cX7_utter 49 = .ok (.iastore, 1) := zd_at zhX7_utter_0 27 rfl
theorem dX7_utter_50 : decode cX7_utter 50 = .ok (.aload 5, 2) := zd_at zhX7_utter_0 28 rfl
theorem dX7_utter_52 : decode cX7_utter 52 = .ok (.getfield 78, 3) := zd_at zhX7_utter_0 29 rfl
theorem dX7_utter_55 : decode cX7_utter 55 = .ok (.iload 4, 2) := zd_at zhX7_utter_0 30 rfl
theorem dX7_utter_57 : decode cX7_utter 57 = .ok (.iconst 0, 1) := zd_at zhX7_utter_0 31 rfl
theorem dX7_utter_58 : decode cX7_utter 58 = .ok (.iastore, 1) := zd_at zhX7_utter_0 32 rfl
theorem dX7_utter_59 : decode cX7_utter 59 = .ok (.iload 4, 2) := zd_at zhX7_utter_0 33 rfl
theorem dX7_utter_61 : decode cX7_utter 61 = .ok (.ireturn, 1) := zd_at zhX7_utter_0 34 rfl
def ziX7_handOn_0 : List (Nat × Instr × Nat) := [(0, .aload_n 0, 1), (1, .getfield 11, 3), (4, .iload_n 1, 1), (5, .aaload, 1), (6, .astore_n 3, 1), (7, .aload_n 0, 1), (8, .getfield 11, 3), (11, .iload_n 2, 1), (12, .aaload, 1), (13, .astore 4, 2), (15, .iconst 0, 1), (16, .istore 5, 2), (18, .iconst 0, 1), (19, .istore 6, 2), (21, .iload 6, 2), (23, .bipush 10, 2), (25, .if_icmp .ge 61, 3), (28, .aload_n 3, 1), (29, .getfield 52, 3), (32, .iload 6, 2), (34, .iaload, 1), (35, .iconst (-1), 1), (36, .if_icmp .eq 44, 3), (39, .aload 4, 2), (41, .getfield 52, 3), (44, .iload 6, 2), (46, .iaload, 1), (47, .iconst (-1), 1), (48, .if_icmp .eq 6, 3), (51, .goto 29, 3), (54, .aload 4, 2), (56, .getfield 52, 3), (59, .iload 6, 2), (61, .aload_n 3, 1), (62, .iload 6, 2), (64, .invokevirtual 81, 3), (67, .iastore, 1), (68, .aload 4, 2), (70, .getfield 78, 3), (73, .iload 6, 2)]
theorem zhX7_handOn_0 : zd_chk (cX7_handOn.data.toList.drop 0) 0 ziX7_handOn_0 = true := by decide +kernel
theorem dX7_handOn_0 : decode cX7_handOn 0 = .ok (.aload_n 0, 1) := zd_at zhX7_handOn_0 0 rfl
theorem dX7_handOn_1 : decode cX7_handOn 1 = .ok (.getfield 11, 3) := zd_at zhX7_handOn_0 1 rfl
theorem dX7_handOn_4 : decode cX7_handOn 4 = .ok (.iload_n 1, 1) := zd_at zhX7_handOn_0 2 rfl
theorem dX7_handOn_5 : decode cX7_handOn 5 = .ok (.aaload, 1) := zd_at zhX7_handOn_0 3 rfl
theorem dX7_handOn_6 : decode cX7_handOn 6 = .ok (.astore_n 3, 1) := zd_at zhX7_handOn_0 4 rfl
theorem dX7_handOn_7 : decode cX7_handOn 7 = .ok (.aload_n 0, 1) := zd_at zhX7_handOn_0 5 rfl
theorem dX7_handOn_8 : decode cX7_handOn 8 = .ok (.getfield 11, 3) := zd_at zhX7_handOn_0 6 rfl
theorem dX7_handOn_11 : decode cX7_handOn 11 = .ok (.iload_n 2, 1) := zd_at zhX7_handOn_0 7 rfl
theorem dX7_handOn_12 : decode cX7_handOn 12 = .ok (.aaload, 1) := zd_at zhX7_handOn_0 8 rfl
theorem dX7_handOn_13 : decode cX7_handOn 13 = .ok (.astore 4, 2) := zd_at zhX7_handOn_0 9 rfl
theorem dX7_handOn_15 : decode cX7_handOn 15 = .ok (.iconst 0, 1) := zd_at zhX7_handOn_0 10 rfl
theorem dX7_handOn_16 : decode cX7_handOn 16 = .ok (.istore 5, 2) := zd_at zhX7_handOn_0 11 rfl
theorem dX7_handOn_18 : decode cX7_handOn 18 = .ok (.iconst 0, 1) := zd_at zhX7_handOn_0 12 rfl
theorem dX7_handOn_19 : decode cX7_handOn 19 = .ok (.istore 6, 2) := zd_at zhX7_handOn_0 13 rfl
theorem dX7_handOn_21 : decode cX7_handOn 21 = .ok (.iload 6, 2) := zd_at zhX7_handOn_0 14 rfl
theorem dX7_handOn_23 : decode cX7_handOn 23 = .ok (.bipush 10, 2) := zd_at zhX7_handOn_0 15 rfl
theorem dX7_handOn_25 : decode cX7_handOn 25 = .ok (.if_icmp .ge 61, 3) := zd_at zhX7_handOn_0 16 rfl
theorem dX7_handOn_28 : decode cX7_handOn 28 = .ok (.aload_n 3, 1) := zd_at zhX7_handOn_0 17 rfl
theorem dX7_handOn_29 : decode cX7_handOn 29 = .ok (.getfield 52, 3) := zd_at zhX7_handOn_0 18 rfl
theorem dX7_handOn_32 : decode cX7_handOn 32 = .ok (.iload 6, 2) := zd_at zhX7_handOn_0 19 rfl
theorem dX7_handOn_34 : decode cX7_handOn 34 = .ok (.iaload, 1) := zd_at zhX7_handOn_0 20 rfl
theorem dX7_handOn_35 : decode cX7_handOn 35 = .ok (.iconst (-1), 1) := zd_at zhX7_handOn_0 21 rfl
theorem dX7_handOn_36 : decode cX7_handOn 36 = .ok (.if_icmp .eq 44, 3) := zd_at zhX7_handOn_0 22 rfl
theorem dX7_handOn_39 : decode cX7_handOn 39 = .ok (.aload 4, 2) := zd_at zhX7_handOn_0 23 rfl
theorem dX7_handOn_41 : decode cX7_handOn 41 = .ok (.getfield 52, 3) := zd_at zhX7_handOn_0 24 rfl
theorem dX7_handOn_44 : decode cX7_handOn 44 = .ok (.iload 6, 2) := zd_at zhX7_handOn_0 25 rfl
theorem dX7_handOn_46 : decode cX7_handOn 46 = .ok (.iaload, 1) := zd_at zhX7_handOn_0 26 rfl
theorem dX7_handOn_47 : decode cX7_handOn 47 = .ok (.iconst (-1), 1) := zd_at zhX7_handOn_0 27 rfl
theorem dX7_handOn_48 : decode cX7_handOn 48 = .ok (.if_icmp .eq 6, 3) := zd_at zhX7_handOn_0 28 rfl
theorem dX7_handOn_51 : decode cX7_handOn 51 = .ok (.goto 29, 3) := zd_at zhX7_handOn_0 29 rfl
theorem dX7_handOn_54 : decode cX7_handOn 54 = .ok (.aload 4, 2) := zd_at zhX7_handOn_0 30 rfl
theorem dX7_handOn_56 : decode cX7_handOn 56 = .ok (.getfield 52, 3) := zd_at zhX7_handOn_0 31 rfl
theorem dX7_handOn_59 : decode cX7_handOn 59 = .ok (.iload 6, 2) := zd_at zhX7_handOn_0 32 rfl
theorem dX7_handOn_61 : decode cX7_handOn 61 = .ok (.aload_n 3, 1) := zd_at zhX7_handOn_0 33 rfl
theorem dX7_handOn_62 : decode cX7_handOn 62 = .ok (.iload 6, 2) := zd_at zhX7_handOn_0 34 rfl
theorem dX7_handOn_64 : decode cX7_handOn 64 = .ok (.invokevirtual 81, 3) := zd_at zhX7_handOn_0 35 rfl
theorem dX7_handOn_67 : decode cX7_handOn 67 = .ok (.iastore, 1) := zd_at zhX7_handOn_0 36 rfl
theorem dX7_handOn_68 : decode cX7_handOn 68 = .ok (.aload 4, 2) := zd_at zhX7_handOn_0 37 rfl
theorem dX7_handOn_70 : decode cX7_handOn 70 = .ok (.getfield 78, 3) := zd_at zhX7_handOn_0 38 rfl
theorem dX7_handOn_73 : decode cX7_handOn 73 = .ok (.iload 6, 2) := zd_at zhX7_handOn_0 39 rfl
def ziX7_handOn_75 : List (Nat × Instr × Nat) := [(75, .iconst 0, 1), (76, .iastore, 1), (77, .iinc 5 1, 3), (80, .iinc 6 1, 3), (83, .goto (-62), 3), (86, .iload 5, 2), (88, .ireturn, 1)]
theorem zhX7_handOn_75 : zd_chk (cX7_handOn.data.toList.drop 75) 75 ziX7_handOn_75 = true := by decide +kernel
theorem dX7_handOn_75 : decode cX7_handOn 75 = .ok (.iconst 0, 1) := zd_at zhX7_handOn_75 0 rfl
theorem dX7_handOn_76 : decode cX7_handOn 76 = .ok (.iastore, 1) := zd_at zhX7_handOn_75 1 rfl
theorem dX7_handOn_77 : decode cX7_handOn 77 = .ok (.iinc 5 1, 3) := zd_at zhX7_handOn_75 2 rfl
theorem dX7_handOn_80 : decode cX7_handOn 80 = .ok (.iinc 6 1, 3) := zd_at zhX7_handOn_75 3 rfl
theorem dX7_handOn_83 : decode cX7_handOn 83 = .ok (.goto (-62), 3) := zd_at zhX7_handOn_75 4 rfl
theorem dX7_handOn_86 : decode cX7_handOn 86 = .ok (.iload 5, 2) := zd_at zhX7_handOn_75 5 rfl
theorem dX7_handOn_88 : decode cX7_handOn 88 = .ok (.ireturn, 1) := zd_at zhX7_handOn_75 6 rfl
def ziX7_pass_0 : List (Nat × Instr × Nat) := [(0, .iconst 0, 1), (1, .istore_n 2, 1), (2, .iconst 0, 1), (3, .istore_n 3, 1), (4, .iload_n 3, 1), (5, .aload_n 0, 1), (6, .getfield 30, 3), (9, .if_icmp .ge 95, 3), (12, .iconst 0, 1), (13, .istore 4, 2), (15, .iload 4, 2), (17, .bipush 10, 2), (19, .if_icmp .ge 79, 3), (22, .aload_n 1, 1), (23, .aload_n 0, 1), (24, .iload_n 3, 1), (25, .iload 4, 2), (27, .invokevirtual 85, 3), (30, .aload_n 1, 1), (31, .iconst 1, 1), (32, .invokevirtual 91, 3), (35, .iconst (-1), 1), (36, .if_icmp .ne 22, 3), (39, .aload_n 0, 1), (40, .getfield 11, 3), (43, .iload_n 3, 1), (44, .aaload, 1), (45, .getfield 78, 3), (48, .iload 4, 2), (50, .dup2, 1), (51, .iaload, 1), (52, .iconst 1, 1), (53, .iadd, 1), (54, .iastore, 1), (55, .goto 37, 3), (58, .aload_n 0, 1), (59, .dup, 1), (60, .getfield 36, 3), (63, .aload_n 1, 1), (64, .iconst 0, 1)]
theorem zhX7_pass_0 : zd_chk (cX7_pass.data.toList.drop 0) 0 ziX7_pass_0 = true := by decide +kernel
theorem dX7_pass_0 : decode cX7_pass 0 = .ok (.iconst 0, 1) := zd_at zhX7_pass_0 0 rfl
theorem dX7_pass_1 : decode cX7_pass 1 = .ok (.istore_n 2, 1) := zd_at zhX7_pass_0 1 rfl
theorem dX7_pass_2 : decode cX7_pass 2 = .ok (.iconst 0, 1) := zd_at zhX7_pass_0 2 rfl
theorem dX7_pass_3 : decode cX7_pass 3 = .ok (.istore_n 3, 1) := zd_at zhX7_pass_0 3 rfl
theorem dX7_pass_4 : decode cX7_pass 4 = .ok (.iload_n 3, 1) := zd_at zhX7_pass_0 4 rfl
theorem dX7_pass_5 : decode cX7_pass 5 = .ok (.aload_n 0, 1) := zd_at zhX7_pass_0 5 rfl
theorem dX7_pass_6 : decode cX7_pass 6 = .ok (.getfield 30, 3) := zd_at zhX7_pass_0 6 rfl
theorem dX7_pass_9 : decode cX7_pass 9 = .ok (.if_icmp .ge 95, 3) := zd_at zhX7_pass_0 7 rfl
theorem dX7_pass_12 : decode cX7_pass 12 = .ok (.iconst 0, 1) := zd_at zhX7_pass_0 8 rfl
theorem dX7_pass_13 : decode cX7_pass 13 = .ok (.istore 4, 2) := zd_at zhX7_pass_0 9 rfl
theorem dX7_pass_15 : decode cX7_pass 15 = .ok (.iload 4, 2) := zd_at zhX7_pass_0 10 rfl
theorem dX7_pass_17 : decode cX7_pass 17 = .ok (.bipush 10, 2) := zd_at zhX7_pass_0 11 rfl
theorem dX7_pass_19 : decode cX7_pass 19 = .ok (.if_icmp .ge 79, 3) := zd_at zhX7_pass_0 12 rfl
theorem dX7_pass_22 : decode cX7_pass 22 = .ok (.aload_n 1, 1) := zd_at zhX7_pass_0 13 rfl
theorem dX7_pass_23 : decode cX7_pass 23 = .ok (.aload_n 0, 1) := zd_at zhX7_pass_0 14 rfl
theorem dX7_pass_24 : decode cX7_pass 24 = .ok (.iload_n 3, 1) := zd_at zhX7_pass_0 15 rfl
theorem dX7_pass_25 : decode cX7_pass 25 = .ok (.iload 4, 2) := zd_at zhX7_pass_0 16 rfl
theorem dX7_pass_27 : decode cX7_pass 27 = .ok (.invokevirtual 85, 3) := zd_at zhX7_pass_0 17 rfl
theorem dX7_pass_30 : decode cX7_pass 30 = .ok (.aload_n 1, 1) := zd_at zhX7_pass_0 18 rfl
theorem dX7_pass_31 : decode cX7_pass 31 = .ok (.iconst 1, 1) := zd_at zhX7_pass_0 19 rfl
theorem dX7_pass_32 : decode cX7_pass 32 = .ok (.invokevirtual 91, 3) := zd_at zhX7_pass_0 20 rfl
theorem dX7_pass_35 : decode cX7_pass 35 = .ok (.iconst (-1), 1) := zd_at zhX7_pass_0 21 rfl
theorem dX7_pass_36 : decode cX7_pass 36 = .ok (.if_icmp .ne 22, 3) := zd_at zhX7_pass_0 22 rfl
theorem dX7_pass_39 : decode cX7_pass 39 = .ok (.aload_n 0, 1) := zd_at zhX7_pass_0 23 rfl
theorem dX7_pass_40 : decode cX7_pass 40 = .ok (.getfield 11, 3) := zd_at zhX7_pass_0 24 rfl
theorem dX7_pass_43 : decode cX7_pass 43 = .ok (.iload_n 3, 1) := zd_at zhX7_pass_0 25 rfl
theorem dX7_pass_44 : decode cX7_pass 44 = .ok (.aaload, 1) := zd_at zhX7_pass_0 26 rfl
theorem dX7_pass_45 : decode cX7_pass 45 = .ok (.getfield 78, 3) := zd_at zhX7_pass_0 27 rfl
theorem dX7_pass_48 : decode cX7_pass 48 = .ok (.iload 4, 2) := zd_at zhX7_pass_0 28 rfl
theorem dX7_pass_50 : decode cX7_pass 50 = .ok (.dup2, 1) := zd_at zhX7_pass_0 29 rfl
theorem dX7_pass_51 : decode cX7_pass 51 = .ok (.iaload, 1) := zd_at zhX7_pass_0 30 rfl
theorem dX7_pass_52 : decode cX7_pass 52 = .ok (.iconst 1, 1) := zd_at zhX7_pass_0 31 rfl
theorem dX7_pass_53 : decode cX7_pass 53 = .ok (.iadd, 1) := zd_at zhX7_pass_0 32 rfl
theorem dX7_pass_54 : decode cX7_pass 54 = .ok (.iastore, 1) := zd_at zhX7_pass_0 33 rfl
theorem dX7_pass_55 : decode cX7_pass 55 = .ok (.goto 37, 3) := zd_at zhX7_pass_0 34 rfl
theorem dX7_pass_58 : decode cX7_pass 58 = .ok (.aload_n 0, 1) := zd_at zhX7_pass_0 35 rfl
theorem dX7_pass_59 : decode cX7_pass 59 = .ok (.dup, 1) := zd_at zhX7_pass_0 36 rfl
theorem dX7_pass_60 : decode cX7_pass 60 = .ok (.getfield 36, 3) := zd_at zhX7_pass_0 37 rfl
theorem dX7_pass_63 : decode cX7_pass 63 = .ok (.aload_n 1, 1) := zd_at zhX7_pass_0 38 rfl
theorem dX7_pass_64 : decode cX7_pass 64 = .ok (.iconst 0, 1) := zd_at zhX7_pass_0 39 rfl
def ziX7_pass_65 : List (Nat × Instr × Nat) := [(65, .aload_n 0, 1), (66, .iconst 0, 1), (67, .invokevirtual 94, 3), (70, .invokevirtual 98, 3), (73, .iadd, 1), (74, .putfield 36, 3), (77, .aload_n 0, 1), (78, .getfield 11, 3), (81, .iload_n 3, 1), (82, .aaload, 1), (83, .iload 4, 2), (85, .invokevirtual 81, 3), (88, .pop, 1), (89, .iinc 2 1, 3), (92, .iinc 4 1, 3), (95, .goto (-80), 3), (98, .iinc 3 1, 3), (101, .goto (-97), 3), (104, .aload_n 0, 1), (105, .dup, 1), (106, .getfield 33, 3), (109, .iconst 1, 1), (110, .iadd, 1), (111, .putfield 33, 3), (114, .iload_n 2, 1), (115, .ireturn, 1)]
theorem zhX7_pass_65 : zd_chk (cX7_pass.data.toList.drop 65) 65 ziX7_pass_65 = true := by decide +kernel
theorem dX7_pass_65 : decode cX7_pass 65 = .ok (.aload_n 0, 1) := zd_at zhX7_pass_65 0 rfl
theorem dX7_pass_66 : decode cX7_pass 66 = .ok (.iconst 0, 1) := zd_at zhX7_pass_65 1 rfl
theorem dX7_pass_67 : decode cX7_pass 67 = .ok (.invokevirtual 94, 3) := zd_at zhX7_pass_65 2 rfl
theorem dX7_pass_70 : decode cX7_pass 70 = .ok (.invokevirtual 98, 3) := zd_at zhX7_pass_65 3 rfl
theorem dX7_pass_73 : decode cX7_pass 73 = .ok (.iadd, 1) := zd_at zhX7_pass_65 4 rfl
theorem dX7_pass_74 : decode cX7_pass 74 = .ok (.putfield 36, 3) := zd_at zhX7_pass_65 5 rfl
theorem dX7_pass_77 : decode cX7_pass 77 = .ok (.aload_n 0, 1) := zd_at zhX7_pass_65 6 rfl
theorem dX7_pass_78 : decode cX7_pass 78 = .ok (.getfield 11, 3) := zd_at zhX7_pass_65 7 rfl
theorem dX7_pass_81 : decode cX7_pass 81 = .ok (.iload_n 3, 1) := zd_at zhX7_pass_65 8 rfl
theorem dX7_pass_82 : decode cX7_pass 82 = .ok (.aaload, 1) := zd_at zhX7_pass_65 9 rfl
theorem dX7_pass_83 : decode cX7_pass 83 = .ok (.iload 4, 2) := zd_at zhX7_pass_65 10 rfl
theorem dX7_pass_85 : decode cX7_pass 85 = .ok (.invokevirtual 81, 3) := zd_at zhX7_pass_65 11 rfl
theorem dX7_pass_88 : decode cX7_pass 88 = .ok (.pop, 1) := zd_at zhX7_pass_65 12 rfl
theorem dX7_pass_89 : decode cX7_pass 89 = .ok (.iinc 2 1, 3) := zd_at zhX7_pass_65 13 rfl
theorem dX7_pass_92 : decode cX7_pass 92 = .ok (.iinc 4 1, 3) := zd_at zhX7_pass_65 14 rfl
theorem dX7_pass_95 : decode cX7_pass 95 = .ok (.goto (-80), 3) := zd_at zhX7_pass_65 15 rfl
theorem dX7_pass_98 : decode cX7_pass 98 = .ok (.iinc 3 1, 3) := zd_at zhX7_pass_65 16 rfl
theorem dX7_pass_101 : decode cX7_pass 101 = .ok (.goto (-97), 3) := zd_at zhX7_pass_65 17 rfl
theorem dX7_pass_104 : decode cX7_pass 104 = .ok (.aload_n 0, 1) := zd_at zhX7_pass_65 18 rfl
theorem dX7_pass_105 : decode cX7_pass 105 = .ok (.dup, 1) := zd_at zhX7_pass_65 19 rfl
theorem dX7_pass_106 : decode cX7_pass 106 = .ok (.getfield 33, 3) := zd_at zhX7_pass_65 20 rfl
theorem dX7_pass_109 : decode cX7_pass 109 = .ok (.iconst 1, 1) := zd_at zhX7_pass_65 21 rfl
theorem dX7_pass_110 : decode cX7_pass 110 = .ok (.iadd, 1) := zd_at zhX7_pass_65 22 rfl
theorem dX7_pass_111 : decode cX7_pass 111 = .ok (.putfield 33, 3) := zd_at zhX7_pass_65 23 rfl
theorem dX7_pass_114 : decode cX7_pass 114 = .ok (.iload_n 2, 1) := zd_at zhX7_pass_65 24 rfl
theorem dX7_pass_115 : decode cX7_pass 115 = .ok (.ireturn, 1) := zd_at zhX7_pass_65 25 rfl
def ziX7_stuckInAll_0 : List (Nat × Instr × Nat) := [(0, .iconst 0, 1), (1, .istore_n 1, 1), (2, .iconst 0, 1), (3, .istore_n 2, 1), (4, .iload_n 2, 1), (5, .aload_n 0, 1), (6, .getfield 30, 3), (9, .if_icmp .ge 21, 3), (12, .iload_n 1, 1), (13, .aload_n 0, 1), (14, .getfield 11, 3), (17, .iload_n 2, 1), (18, .aaload, 1), (19, .invokevirtual 55, 3), (22, .iadd, 1), (23, .istore_n 1, 1), (24, .iinc 2 1, 3), (27, .goto (-23), 3), (30, .iload_n 1, 1), (31, .ireturn, 1)]
theorem zhX7_stuckInAll_0 : zd_chk (cX7_stuckInAll.data.toList.drop 0) 0 ziX7_stuckInAll_0 = true := by decide +kernel
theorem dX7_stuckInAll_0 : decode cX7_stuckInAll 0 = .ok (.iconst 0, 1) := zd_at zhX7_stuckInAll_0 0 rfl
theorem dX7_stuckInAll_1 : decode cX7_stuckInAll 1 = .ok (.istore_n 1, 1) := zd_at zhX7_stuckInAll_0 1 rfl
theorem dX7_stuckInAll_2 : decode cX7_stuckInAll 2 = .ok (.iconst 0, 1) := zd_at zhX7_stuckInAll_0 2 rfl
theorem dX7_stuckInAll_3 : decode cX7_stuckInAll 3 = .ok (.istore_n 2, 1) := zd_at zhX7_stuckInAll_0 3 rfl
theorem dX7_stuckInAll_4 : decode cX7_stuckInAll 4 = .ok (.iload_n 2, 1) := zd_at zhX7_stuckInAll_0 4 rfl
theorem dX7_stuckInAll_5 : decode cX7_stuckInAll 5 = .ok (.aload_n 0, 1) := zd_at zhX7_stuckInAll_0 5 rfl
theorem dX7_stuckInAll_6 : decode cX7_stuckInAll 6 = .ok (.getfield 30, 3) := zd_at zhX7_stuckInAll_0 6 rfl
theorem dX7_stuckInAll_9 : decode cX7_stuckInAll 9 = .ok (.if_icmp .ge 21, 3) := zd_at zhX7_stuckInAll_0 7 rfl
theorem dX7_stuckInAll_12 : decode cX7_stuckInAll 12 = .ok (.iload_n 1, 1) := zd_at zhX7_stuckInAll_0 8 rfl
theorem dX7_stuckInAll_13 : decode cX7_stuckInAll 13 = .ok (.aload_n 0, 1) := zd_at zhX7_stuckInAll_0 9 rfl
theorem dX7_stuckInAll_14 : decode cX7_stuckInAll 14 = .ok (.getfield 11, 3) := zd_at zhX7_stuckInAll_0 10 rfl
theorem dX7_stuckInAll_17 : decode cX7_stuckInAll 17 = .ok (.iload_n 2, 1) := zd_at zhX7_stuckInAll_0 11 rfl
theorem dX7_stuckInAll_18 : decode cX7_stuckInAll 18 = .ok (.aaload, 1) := zd_at zhX7_stuckInAll_0 12 rfl
theorem dX7_stuckInAll_19 : decode cX7_stuckInAll 19 = .ok (.invokevirtual 55, 3) := zd_at zhX7_stuckInAll_0 13 rfl
theorem dX7_stuckInAll_22 : decode cX7_stuckInAll 22 = .ok (.iadd, 1) := zd_at zhX7_stuckInAll_0 14 rfl
theorem dX7_stuckInAll_23 : decode cX7_stuckInAll 23 = .ok (.istore_n 1, 1) := zd_at zhX7_stuckInAll_0 15 rfl
theorem dX7_stuckInAll_24 : decode cX7_stuckInAll 24 = .ok (.iinc 2 1, 3) := zd_at zhX7_stuckInAll_0 16 rfl
theorem dX7_stuckInAll_27 : decode cX7_stuckInAll 27 = .ok (.goto (-23), 3) := zd_at zhX7_stuckInAll_0 17 rfl
theorem dX7_stuckInAll_30 : decode cX7_stuckInAll 30 = .ok (.iload_n 1, 1) := zd_at zhX7_stuckInAll_0 18 rfl
theorem dX7_stuckInAll_31 : decode cX7_stuckInAll 31 = .ok (.ireturn, 1) := zd_at zhX7_stuckInAll_0 19 rfl
def ziX7_isChurchIn_0 : List (Nat × Instr × Nat) := [(0, .aload_n 0, 1), (1, .getfield 21, 3), (4, .aload_n 0, 1), (5, .getfield 33, 3), (8, .iload_n 1, 1), (9, .iadd, 1), (10, .bipush 24, 2), (12, .irem, 1), (13, .iushr, 1), (14, .iconst 1, 1), (15, .iand, 1), (16, .ifCond .eq 7, 3), (19, .iconst 1, 1), (20, .goto 4, 3), (23, .iconst 0, 1), (24, .ireturn, 1)]
theorem zhX7_isChurchIn_0 : zd_chk (cX7_isChurchIn.data.toList.drop 0) 0 ziX7_isChurchIn_0 = true := by decide +kernel
theorem dX7_isChurchIn_0 : decode cX7_isChurchIn 0 = .ok (.aload_n 0, 1) := zd_at zhX7_isChurchIn_0 0 rfl
theorem dX7_isChurchIn_1 : decode cX7_isChurchIn 1 = .ok (.getfield 21, 3) := zd_at zhX7_isChurchIn_0 1 rfl
theorem dX7_isChurchIn_4 : decode cX7_isChurchIn 4 = .ok (.aload_n 0, 1) := zd_at zhX7_isChurchIn_0 2 rfl
theorem dX7_isChurchIn_5 : decode cX7_isChurchIn 5 = .ok (.getfield 33, 3) := zd_at zhX7_isChurchIn_0 3 rfl
theorem dX7_isChurchIn_8 : decode cX7_isChurchIn 8 = .ok (.iload_n 1, 1) := zd_at zhX7_isChurchIn_0 4 rfl
theorem dX7_isChurchIn_9 : decode cX7_isChurchIn 9 = .ok (.iadd, 1) := zd_at zhX7_isChurchIn_0 5 rfl
theorem dX7_isChurchIn_10 : decode cX7_isChurchIn 10 = .ok (.bipush 24, 2) := zd_at zhX7_isChurchIn_0 6 rfl
theorem dX7_isChurchIn_12 : decode cX7_isChurchIn 12 = .ok (.irem, 1) := zd_at zhX7_isChurchIn_0 7 rfl
theorem dX7_isChurchIn_13 : decode cX7_isChurchIn 13 = .ok (.iushr, 1) := zd_at zhX7_isChurchIn_0 8 rfl
theorem dX7_isChurchIn_14 : decode cX7_isChurchIn 14 = .ok (.iconst 1, 1) := zd_at zhX7_isChurchIn_0 9 rfl
theorem dX7_isChurchIn_15 : decode cX7_isChurchIn 15 = .ok (.iand, 1) := zd_at zhX7_isChurchIn_0 10 rfl
theorem dX7_isChurchIn_16 : decode cX7_isChurchIn 16 = .ok (.ifCond .eq 7, 3) := zd_at zhX7_isChurchIn_0 11 rfl
theorem dX7_isChurchIn_19 : decode cX7_isChurchIn 19 = .ok (.iconst 1, 1) := zd_at zhX7_isChurchIn_0 12 rfl
theorem dX7_isChurchIn_20 : decode cX7_isChurchIn 20 = .ok (.goto 4, 3) := zd_at zhX7_isChurchIn_0 13 rfl
theorem dX7_isChurchIn_23 : decode cX7_isChurchIn 23 = .ok (.iconst 0, 1) := zd_at zhX7_isChurchIn_0 14 rfl
theorem dX7_isChurchIn_24 : decode cX7_isChurchIn 24 = .ok (.ireturn, 1) := zd_at zhX7_isChurchIn_0 15 rfl
def ziX8_init_0 : List (Nat × Instr × Nat) := [(0, .aload_n 0, 1), (1, .invokespecial 1, 3), (4, .aload_n 0, 1), (5, .bipush 6, 2), (7, .anewarray 9, 3), (10, .putfield 11, 3), (13, .aload_n 0, 1), (14, .iconst 4, 1), (15, .anewarray 15, 3), (18, .putfield 17, 3), (21, .aload_n 0, 1), (22, .new 21, 3), (25, .dup, 1), (26, .invokespecial 23, 3), (29, .putfield 24, 3), (32, .iconst 0, 1), (33, .istore_n 1, 1), (34, .iload_n 1, 1), (35, .bipush 6, 2), (37, .if_icmp .ge 22, 3), (40, .aload_n 0, 1), (41, .getfield 11, 3), (44, .iload_n 1, 1), (45, .new 9, 3), (48, .dup, 1), (49, .invokespecial 28, 3), (52, .aastore, 1), (53, .iinc 1 1, 3), (56, .goto (-22), 3), (59, .iconst 0, 1), (60, .istore_n 1, 1), (61, .iload_n 1, 1), (62, .iconst 4, 1), (63, .if_icmp .ge 22, 3), (66, .aload_n 0, 1), (67, .getfield 17, 3), (70, .iload_n 1, 1), (71, .new 15, 3), (74, .dup, 1), (75, .invokespecial 29, 3)]
theorem zhX8_init_0 : zd_chk (cX8_init.data.toList.drop 0) 0 ziX8_init_0 = true := by decide +kernel
theorem dX8_init_0 : decode cX8_init 0 = .ok (.aload_n 0, 1) := zd_at zhX8_init_0 0 rfl
theorem dX8_init_1 : decode cX8_init 1 = .ok (.invokespecial 1, 3) := zd_at zhX8_init_0 1 rfl
theorem dX8_init_4 : decode cX8_init 4 = .ok (.aload_n 0, 1) := zd_at zhX8_init_0 2 rfl
theorem dX8_init_5 : decode cX8_init 5 = .ok (.bipush 6, 2) := zd_at zhX8_init_0 3 rfl
theorem dX8_init_7 : decode cX8_init 7 = .ok (.anewarray 9, 3) := zd_at zhX8_init_0 4 rfl
theorem dX8_init_10 : decode cX8_init 10 = .ok (.putfield 11, 3) := zd_at zhX8_init_0 5 rfl
theorem dX8_init_13 : decode cX8_init 13 = .ok (.aload_n 0, 1) := zd_at zhX8_init_0 6 rfl
theorem dX8_init_14 : decode cX8_init 14 = .ok (.iconst 4, 1) := zd_at zhX8_init_0 7 rfl
theorem dX8_init_15 : decode cX8_init 15 = .ok (.anewarray 15, 3) := zd_at zhX8_init_0 8 rfl
theorem dX8_init_18 : decode cX8_init 18 = .ok (.putfield 17, 3) := zd_at zhX8_init_0 9 rfl
theorem dX8_init_21 : decode cX8_init 21 = .ok (.aload_n 0, 1) := zd_at zhX8_init_0 10 rfl
theorem dX8_init_22 : decode cX8_init 22 = .ok (.new 21, 3) := zd_at zhX8_init_0 11 rfl
theorem dX8_init_25 : decode cX8_init 25 = .ok (.dup, 1) := zd_at zhX8_init_0 12 rfl
theorem dX8_init_26 : decode cX8_init 26 = .ok (.invokespecial 23, 3) := zd_at zhX8_init_0 13 rfl
theorem dX8_init_29 : decode cX8_init 29 = .ok (.putfield 24, 3) := zd_at zhX8_init_0 14 rfl
theorem dX8_init_32 : decode cX8_init 32 = .ok (.iconst 0, 1) := zd_at zhX8_init_0 15 rfl
theorem dX8_init_33 : decode cX8_init 33 = .ok (.istore_n 1, 1) := zd_at zhX8_init_0 16 rfl
theorem dX8_init_34 : decode cX8_init 34 = .ok (.iload_n 1, 1) := zd_at zhX8_init_0 17 rfl
theorem dX8_init_35 : decode cX8_init 35 = .ok (.bipush 6, 2) := zd_at zhX8_init_0 18 rfl
theorem dX8_init_37 : decode cX8_init 37 = .ok (.if_icmp .ge 22, 3) := zd_at zhX8_init_0 19 rfl
theorem dX8_init_40 : decode cX8_init 40 = .ok (.aload_n 0, 1) := zd_at zhX8_init_0 20 rfl
theorem dX8_init_41 : decode cX8_init 41 = .ok (.getfield 11, 3) := zd_at zhX8_init_0 21 rfl
theorem dX8_init_44 : decode cX8_init 44 = .ok (.iload_n 1, 1) := zd_at zhX8_init_0 22 rfl
theorem dX8_init_45 : decode cX8_init 45 = .ok (.new 9, 3) := zd_at zhX8_init_0 23 rfl
theorem dX8_init_48 : decode cX8_init 48 = .ok (.dup, 1) := zd_at zhX8_init_0 24 rfl
theorem dX8_init_49 : decode cX8_init 49 = .ok (.invokespecial 28, 3) := zd_at zhX8_init_0 25 rfl
theorem dX8_init_52 : decode cX8_init 52 = .ok (.aastore, 1) := zd_at zhX8_init_0 26 rfl
theorem dX8_init_53 : decode cX8_init 53 = .ok (.iinc 1 1, 3) := zd_at zhX8_init_0 27 rfl
theorem dX8_init_56 : decode cX8_init 56 = .ok (.goto (-22), 3) := zd_at zhX8_init_0 28 rfl
theorem dX8_init_59 : decode cX8_init 59 = .ok (.iconst 0, 1) := zd_at zhX8_init_0 29 rfl
theorem dX8_init_60 : decode cX8_init 60 = .ok (.istore_n 1, 1) := zd_at zhX8_init_0 30 rfl
theorem dX8_init_61 : decode cX8_init 61 = .ok (.iload_n 1, 1) := zd_at zhX8_init_0 31 rfl
theorem dX8_init_62 : decode cX8_init 62 = .ok (.iconst 4, 1) := zd_at zhX8_init_0 32 rfl
theorem dX8_init_63 : decode cX8_init 63 = .ok (.if_icmp .ge 22, 3) := zd_at zhX8_init_0 33 rfl
theorem dX8_init_66 : decode cX8_init 66 = .ok (.aload_n 0, 1) := zd_at zhX8_init_0 34 rfl
theorem dX8_init_67 : decode cX8_init 67 = .ok (.getfield 17, 3) := zd_at zhX8_init_0 35 rfl
theorem dX8_init_70 : decode cX8_init 70 = .ok (.iload_n 1, 1) := zd_at zhX8_init_0 36 rfl
theorem dX8_init_71 : decode cX8_init 71 = .ok (.new 15, 3) := zd_at zhX8_init_0 37 rfl
theorem dX8_init_74 : decode cX8_init 74 = .ok (.dup, 1) := zd_at zhX8_init_0 38 rfl
theorem dX8_init_75 : decode cX8_init 75 = .ok (.invokespecial 29, 3) := zd_at zhX8_init_0 39 rfl
def ziX8_init_78 : List (Nat × Instr × Nat) := [(78, .aastore, 1), (79, .iinc 1 1, 3), (82, .goto (-21), 3), (85, .aload_n 0, 1), (86, .new 30, 3), (89, .dup, 1), (90, .aload_n 0, 1), (91, .getfield 11, 3), (94, .iconst 0, 1), (95, .aaload, 1), (96, .invokespecial 32, 3), (99, .putfield 35, 3), (102, .aload_n 0, 1), (103, .new 39, 3), (106, .dup, 1), (107, .aload_n 0, 1), (108, .getfield 11, 3), (111, .iconst 0, 1), (112, .aaload, 1), (113, .invokespecial 41, 3), (116, .putfield 42, 3), (119, .aload_n 0, 1), (120, .new 46, 3), (123, .dup, 1), (124, .aload_n 0, 1), (125, .getfield 11, 3), (128, .invokespecial 48, 3), (131, .putfield 51, 3), (134, .aload_n 0, 1), (135, .new 46, 3), (138, .dup, 1), (139, .aload_n 0, 1), (140, .getfield 11, 3), (143, .invokespecial 48, 3), (146, .putfield 55, 3), (149, .aload_n 0, 1), (150, .new 46, 3), (153, .dup, 1), (154, .aload_n 0, 1), (155, .getfield 11, 3)]
theorem zhX8_init_78 : zd_chk (cX8_init.data.toList.drop 78) 78 ziX8_init_78 = true := by decide +kernel
theorem dX8_init_78 : decode cX8_init 78 = .ok (.aastore, 1) := zd_at zhX8_init_78 0 rfl
theorem dX8_init_79 : decode cX8_init 79 = .ok (.iinc 1 1, 3) := zd_at zhX8_init_78 1 rfl
theorem dX8_init_82 : decode cX8_init 82 = .ok (.goto (-21), 3) := zd_at zhX8_init_78 2 rfl
theorem dX8_init_85 : decode cX8_init 85 = .ok (.aload_n 0, 1) := zd_at zhX8_init_78 3 rfl
theorem dX8_init_86 : decode cX8_init 86 = .ok (.new 30, 3) := zd_at zhX8_init_78 4 rfl
theorem dX8_init_89 : decode cX8_init 89 = .ok (.dup, 1) := zd_at zhX8_init_78 5 rfl
theorem dX8_init_90 : decode cX8_init 90 = .ok (.aload_n 0, 1) := zd_at zhX8_init_78 6 rfl
theorem dX8_init_91 : decode cX8_init 91 = .ok (.getfield 11, 3) := zd_at zhX8_init_78 7 rfl
theorem dX8_init_94 : decode cX8_init 94 = .ok (.iconst 0, 1) := zd_at zhX8_init_78 8 rfl
theorem dX8_init_95 : decode cX8_init 95 = .ok (.aaload, 1) := zd_at zhX8_init_78 9 rfl
theorem dX8_init_96 : decode cX8_init 96 = .ok (.invokespecial 32, 3) := zd_at zhX8_init_78 10 rfl
theorem dX8_init_99 : decode cX8_init 99 = .ok (.putfield 35, 3) := zd_at zhX8_init_78 11 rfl
theorem dX8_init_102 : decode cX8_init 102 = .ok (.aload_n 0, 1) := zd_at zhX8_init_78 12 rfl
theorem dX8_init_103 : decode cX8_init 103 = .ok (.new 39, 3) := zd_at zhX8_init_78 13 rfl
theorem dX8_init_106 : decode cX8_init 106 = .ok (.dup, 1) := zd_at zhX8_init_78 14 rfl
theorem dX8_init_107 : decode cX8_init 107 = .ok (.aload_n 0, 1) := zd_at zhX8_init_78 15 rfl
theorem dX8_init_108 : decode cX8_init 108 = .ok (.getfield 11, 3) := zd_at zhX8_init_78 16 rfl
theorem dX8_init_111 : decode cX8_init 111 = .ok (.iconst 0, 1) := zd_at zhX8_init_78 17 rfl
theorem dX8_init_112 : decode cX8_init 112 = .ok (.aaload, 1) := zd_at zhX8_init_78 18 rfl
theorem dX8_init_113 : decode cX8_init 113 = .ok (.invokespecial 41, 3) := zd_at zhX8_init_78 19 rfl
theorem dX8_init_116 : decode cX8_init 116 = .ok (.putfield 42, 3) := zd_at zhX8_init_78 20 rfl
theorem dX8_init_119 : decode cX8_init 119 = .ok (.aload_n 0, 1) := zd_at zhX8_init_78 21 rfl
theorem dX8_init_120 : decode cX8_init 120 = .ok (.new 46, 3) := zd_at zhX8_init_78 22 rfl
theorem dX8_init_123 : decode cX8_init 123 = .ok (.dup, 1) := zd_at zhX8_init_78 23 rfl
theorem dX8_init_124 : decode cX8_init 124 = .ok (.aload_n 0, 1) := zd_at zhX8_init_78 24 rfl
theorem dX8_init_125 : decode cX8_init 125 = .ok (.getfield 11, 3) := zd_at zhX8_init_78 25 rfl
theorem dX8_init_128 : decode cX8_init 128 = .ok (.invokespecial 48, 3) := zd_at zhX8_init_78 26 rfl
theorem dX8_init_131 : decode cX8_init 131 = .ok (.putfield 51, 3) := zd_at zhX8_init_78 27 rfl
theorem dX8_init_134 : decode cX8_init 134 = .ok (.aload_n 0, 1) := zd_at zhX8_init_78 28 rfl
theorem dX8_init_135 : decode cX8_init 135 = .ok (.new 46, 3) := zd_at zhX8_init_78 29 rfl
theorem dX8_init_138 : decode cX8_init 138 = .ok (.dup, 1) := zd_at zhX8_init_78 30 rfl
theorem dX8_init_139 : decode cX8_init 139 = .ok (.aload_n 0, 1) := zd_at zhX8_init_78 31 rfl
theorem dX8_init_140 : decode cX8_init 140 = .ok (.getfield 11, 3) := zd_at zhX8_init_78 32 rfl
theorem dX8_init_143 : decode cX8_init 143 = .ok (.invokespecial 48, 3) := zd_at zhX8_init_78 33 rfl
theorem dX8_init_146 : decode cX8_init 146 = .ok (.putfield 55, 3) := zd_at zhX8_init_78 34 rfl
theorem dX8_init_149 : decode cX8_init 149 = .ok (.aload_n 0, 1) := zd_at zhX8_init_78 35 rfl
theorem dX8_init_150 : decode cX8_init 150 = .ok (.new 46, 3) := zd_at zhX8_init_78 36 rfl
theorem dX8_init_153 : decode cX8_init 153 = .ok (.dup, 1) := zd_at zhX8_init_78 37 rfl
theorem dX8_init_154 : decode cX8_init 154 = .ok (.aload_n 0, 1) := zd_at zhX8_init_78 38 rfl
theorem dX8_init_155 : decode cX8_init 155 = .ok (.getfield 11, 3) := zd_at zhX8_init_78 39 rfl
def ziX8_init_158 : List (Nat × Instr × Nat) := [(158, .invokespecial 48, 3), (161, .putfield 58, 3), (164, .iconst 0, 1), (165, .istore_n 1, 1), (166, .iload_n 1, 1), (167, .ldc 61, 2), (169, .invokevirtual 63, 3), (172, .if_icmp .ge 23, 3), (175, .aload_n 0, 1), (176, .getfield 35, 3), (179, .ldc 61, 2), (181, .iload_n 1, 1), (182, .invokevirtual 69, 3), (185, .invokevirtual 73, 3), (188, .pop, 1), (189, .iinc 1 1, 3), (192, .goto (-26), 3), (195, .aload_n 0, 1), (196, .getfield 35, 3), (199, .aload_n 0, 1), (200, .getfield 11, 3), (203, .iconst 0, 1), (204, .aaload, 1), (205, .invokevirtual 77, 3), (208, .pop, 1), (209, .aload_n 0, 1), (210, .iconst 1, 1), (211, .putfield 81, 3), (214, .return_, 1)]
theorem zhX8_init_158 : zd_chk (cX8_init.data.toList.drop 158) 158 ziX8_init_158 = true := by decide +kernel
theorem dX8_init_158 : decode cX8_init 158 = .ok (.invokespecial 48, 3) := zd_at zhX8_init_158 0 rfl
theorem dX8_init_161 : decode cX8_init 161 = .ok (.putfield 58, 3) := zd_at zhX8_init_158 1 rfl
theorem dX8_init_164 : decode cX8_init 164 = .ok (.iconst 0, 1) := zd_at zhX8_init_158 2 rfl
theorem dX8_init_165 : decode cX8_init 165 = .ok (.istore_n 1, 1) := zd_at zhX8_init_158 3 rfl
theorem dX8_init_166 : decode cX8_init 166 = .ok (.iload_n 1, 1) := zd_at zhX8_init_158 4 rfl
theorem dX8_init_167 : decode cX8_init 167 = .ok (.ldc 61, 2) := zd_at zhX8_init_158 5 rfl
theorem dX8_init_169 : decode cX8_init 169 = .ok (.invokevirtual 63, 3) := zd_at zhX8_init_158 6 rfl
theorem dX8_init_172 : decode cX8_init 172 = .ok (.if_icmp .ge 23, 3) := zd_at zhX8_init_158 7 rfl
theorem dX8_init_175 : decode cX8_init 175 = .ok (.aload_n 0, 1) := zd_at zhX8_init_158 8 rfl
theorem dX8_init_176 : decode cX8_init 176 = .ok (.getfield 35, 3) := zd_at zhX8_init_158 9 rfl
theorem dX8_init_179 : decode cX8_init 179 = .ok (.ldc 61, 2) := zd_at zhX8_init_158 10 rfl
theorem dX8_init_181 : decode cX8_init 181 = .ok (.iload_n 1, 1) := zd_at zhX8_init_158 11 rfl
theorem dX8_init_182 : decode cX8_init 182 = .ok (.invokevirtual 69, 3) := zd_at zhX8_init_158 12 rfl
theorem dX8_init_185 : decode cX8_init 185 = .ok (.invokevirtual 73, 3) := zd_at zhX8_init_158 13 rfl
theorem dX8_init_188 : decode cX8_init 188 = .ok (.pop, 1) := zd_at zhX8_init_158 14 rfl
theorem dX8_init_189 : decode cX8_init 189 = .ok (.iinc 1 1, 3) := zd_at zhX8_init_158 15 rfl
theorem dX8_init_192 : decode cX8_init 192 = .ok (.goto (-26), 3) := zd_at zhX8_init_158 16 rfl
theorem dX8_init_195 : decode cX8_init 195 = .ok (.aload_n 0, 1) := zd_at zhX8_init_158 17 rfl
theorem dX8_init_196 : decode cX8_init 196 = .ok (.getfield 35, 3) := zd_at zhX8_init_158 18 rfl
theorem dX8_init_199 : decode cX8_init 199 = .ok (.aload_n 0, 1) := zd_at zhX8_init_158 19 rfl
theorem dX8_init_200 : decode cX8_init 200 = .ok (.getfield 11, 3) := zd_at zhX8_init_158 20 rfl
theorem dX8_init_203 : decode cX8_init 203 = .ok (.iconst 0, 1) := zd_at zhX8_init_158 21 rfl
theorem dX8_init_204 : decode cX8_init 204 = .ok (.aaload, 1) := zd_at zhX8_init_158 22 rfl
theorem dX8_init_205 : decode cX8_init 205 = .ok (.invokevirtual 77, 3) := zd_at zhX8_init_158 23 rfl
theorem dX8_init_208 : decode cX8_init 208 = .ok (.pop, 1) := zd_at zhX8_init_158 24 rfl
theorem dX8_init_209 : decode cX8_init 209 = .ok (.aload_n 0, 1) := zd_at zhX8_init_158 25 rfl
theorem dX8_init_210 : decode cX8_init 210 = .ok (.iconst 1, 1) := zd_at zhX8_init_158 26 rfl
theorem dX8_init_211 : decode cX8_init 211 = .ok (.putfield 81, 3) := zd_at zhX8_init_158 27 rfl
theorem dX8_init_214 : decode cX8_init 214 = .ok (.return_, 1) := zd_at zhX8_init_158 28 rfl
def ziX8_set_0 : List (Nat × Instr × Nat) := [(0, .iload_n 1, 1), (1, .ifCond .ne 9, 3), (4, .aload_n 0, 1), (5, .iload_n 3, 1), (6, .invokevirtual 85, 3), (9, .ireturn, 1), (10, .iload_n 1, 1), (11, .iconst 1, 1), (12, .if_icmp .ne 9, 3), (15, .aload_n 0, 1), (16, .iload_n 3, 1), (17, .invokevirtual 88, 3), (20, .ireturn, 1), (21, .iload_n 1, 1), (22, .iconst 2, 1), (23, .if_icmp .ne 20, 3), (26, .aload_n 0, 1), (27, .iload_n 2, 1), (28, .invokevirtual 91, 3), (31, .ifCond .eq 12, 3), (34, .iload_n 3, 1), (35, .bipush 10, 2), (37, .invokestatic 95, 3), (40, .ifCond .ne 6, 3), (43, .bipush (-2), 2), (45, .ireturn, 1), (46, .aload_n 0, 1), (47, .getfield 51, 3), (50, .getfield 99, 3), (53, .iload_n 2, 1), (54, .aaload, 1), (55, .astore 4, 2), (57, .aload 4, 2), (59, .getfield 103, 3), (62, .istore 5, 2), (64, .aload 4, 2), (66, .iload_n 3, 1), (67, .putfield 103, 3), (70, .iload 5, 2), (72, .ireturn, 1)]
theorem zhX8_set_0 : zd_chk (cX8_set.data.toList.drop 0) 0 ziX8_set_0 = true := by decide +kernel
theorem dX8_set_0 : decode cX8_set 0 = .ok (.iload_n 1, 1) := zd_at zhX8_set_0 0 rfl
theorem dX8_set_1 : decode cX8_set 1 = .ok (.ifCond .ne 9, 3) := zd_at zhX8_set_0 1 rfl
theorem dX8_set_4 : decode cX8_set 4 = .ok (.aload_n 0, 1) := zd_at zhX8_set_0 2 rfl
theorem dX8_set_5 : decode cX8_set 5 = .ok (.iload_n 3, 1) := zd_at zhX8_set_0 3 rfl
theorem dX8_set_6 : decode cX8_set 6 = .ok (.invokevirtual 85, 3) := zd_at zhX8_set_0 4 rfl
theorem dX8_set_9 : decode cX8_set 9 = .ok (.ireturn, 1) := zd_at zhX8_set_0 5 rfl
theorem dX8_set_10 : decode cX8_set 10 = .ok (.iload_n 1, 1) := zd_at zhX8_set_0 6 rfl
theorem dX8_set_11 : decode cX8_set 11 = .ok (.iconst 1, 1) := zd_at zhX8_set_0 7 rfl
theorem dX8_set_12 : decode cX8_set 12 = .ok (.if_icmp .ne 9, 3) := zd_at zhX8_set_0 8 rfl
theorem dX8_set_15 : decode cX8_set 15 = .ok (.aload_n 0, 1) := zd_at zhX8_set_0 9 rfl
theorem dX8_set_16 : decode cX8_set 16 = .ok (.iload_n 3, 1) := zd_at zhX8_set_0 10 rfl
theorem dX8_set_17 : decode cX8_set 17 = .ok (.invokevirtual 88, 3) := zd_at zhX8_set_0 11 rfl
theorem dX8_set_20 : decode cX8_set 20 = .ok (.ireturn, 1) := zd_at zhX8_set_0 12 rfl
theorem dX8_set_21 : decode cX8_set 21 = .ok (.iload_n 1, 1) := zd_at zhX8_set_0 13 rfl
theorem dX8_set_22 : decode cX8_set 22 = .ok (.iconst 2, 1) := zd_at zhX8_set_0 14 rfl
theorem dX8_set_23 : decode cX8_set 23 = .ok (.if_icmp .ne 20, 3) := zd_at zhX8_set_0 15 rfl
theorem dX8_set_26 : decode cX8_set 26 = .ok (.aload_n 0, 1) := zd_at zhX8_set_0 16 rfl
theorem dX8_set_27 : decode cX8_set 27 = .ok (.iload_n 2, 1) := zd_at zhX8_set_0 17 rfl
theorem dX8_set_28 : decode cX8_set 28 = .ok (.invokevirtual 91, 3) := zd_at zhX8_set_0 18 rfl
theorem dX8_set_31 : decode cX8_set 31 = .ok (.ifCond .eq 12, 3) := zd_at zhX8_set_0 19 rfl
theorem dX8_set_34 : decode cX8_set 34 = .ok (.iload_n 3, 1) := zd_at zhX8_set_0 20 rfl
theorem dX8_set_35 : decode cX8_set 35 = .ok (.bipush 10, 2) := zd_at zhX8_set_0 21 rfl
theorem dX8_set_37 : decode cX8_set 37 = .ok (.invokestatic 95, 3) := zd_at zhX8_set_0 22 rfl
theorem dX8_set_40 : decode cX8_set 40 = .ok (.ifCond .ne 6, 3) := zd_at zhX8_set_0 23 rfl
theorem dX8_set_43 : decode cX8_set 43 = .ok (.bipush (-2), 2) := zd_at zhX8_set_0 24 rfl
theorem dX8_set_45 : decode cX8_set 45 = .ok (.ireturn, 1) := zd_at zhX8_set_0 25 rfl
theorem dX8_set_46 : decode cX8_set 46 = .ok (.aload_n 0, 1) := zd_at zhX8_set_0 26 rfl
theorem dX8_set_47 : decode cX8_set 47 = .ok (.getfield 51, 3) := zd_at zhX8_set_0 27 rfl
theorem dX8_set_50 : decode cX8_set 50 = .ok (.getfield 99, 3) := zd_at zhX8_set_0 28 rfl
theorem dX8_set_53 : decode cX8_set 53 = .ok (.iload_n 2, 1) := zd_at zhX8_set_0 29 rfl
theorem dX8_set_54 : decode cX8_set 54 = .ok (.aaload, 1) := zd_at zhX8_set_0 30 rfl
theorem dX8_set_55 : decode cX8_set 55 = .ok (.astore 4, 2) := zd_at zhX8_set_0 31 rfl
theorem dX8_set_57 : decode cX8_set 57 = .ok (.aload 4, 2) := zd_at zhX8_set_0 32 rfl
theorem dX8_set_59 : decode cX8_set 59 = .ok (.getfield 103, 3) := zd_at zhX8_set_0 33 rfl
theorem dX8_set_62 : decode cX8_set 62 = .ok (.istore 5, 2) := zd_at zhX8_set_0 34 rfl
theorem dX8_set_64 : decode cX8_set 64 = .ok (.aload 4, 2) := zd_at zhX8_set_0 35 rfl
theorem dX8_set_66 : decode cX8_set 66 = .ok (.iload_n 3, 1) := zd_at zhX8_set_0 36 rfl
theorem dX8_set_67 : decode cX8_set 67 = .ok (.putfield 103, 3) := zd_at zhX8_set_0 37 rfl
theorem dX8_set_70 : decode cX8_set 70 = .ok (.iload 5, 2) := zd_at zhX8_set_0 38 rfl
theorem dX8_set_72 : decode cX8_set 72 = .ok (.ireturn, 1) := zd_at zhX8_set_0 39 rfl
def ziX8_setHour_0 : List (Nat × Instr × Nat) := [(0, .iload_n 1, 1), (1, .ifCond .lt 10, 3), (4, .iload_n 1, 1), (5, .sipush 999, 3), (8, .if_icmp .le 6, 3), (11, .bipush (-2), 2), (13, .ireturn, 1), (14, .aload_n 0, 1), (15, .getfield 51, 3), (18, .getfield 108, 3), (21, .istore_n 2, 1), (22, .aload_n 0, 1), (23, .getfield 51, 3), (26, .iload_n 1, 1), (27, .putfield 108, 3), (30, .iload_n 2, 1), (31, .ireturn, 1)]
theorem zhX8_setHour_0 : zd_chk (cX8_setHour.data.toList.drop 0) 0 ziX8_setHour_0 = true := by decide +kernel
theorem dX8_setHour_0 : decode cX8_setHour 0 = .ok (.iload_n 1, 1) := zd_at zhX8_setHour_0 0 rfl
theorem dX8_setHour_1 : decode cX8_setHour 1 = .ok (.ifCond .lt 10, 3) := zd_at zhX8_setHour_0 1 rfl
theorem dX8_setHour_4 : decode cX8_setHour 4 = .ok (.iload_n 1, 1) := zd_at zhX8_setHour_0 2 rfl
theorem dX8_setHour_5 : decode cX8_setHour 5 = .ok (.sipush 999, 3) := zd_at zhX8_setHour_0 3 rfl
theorem dX8_setHour_8 : decode cX8_setHour 8 = .ok (.if_icmp .le 6, 3) := zd_at zhX8_setHour_0 4 rfl
theorem dX8_setHour_11 : decode cX8_setHour 11 = .ok (.bipush (-2), 2) := zd_at zhX8_setHour_0 5 rfl
theorem dX8_setHour_13 : decode cX8_setHour 13 = .ok (.ireturn, 1) := zd_at zhX8_setHour_0 6 rfl
theorem dX8_setHour_14 : decode cX8_setHour 14 = .ok (.aload_n 0, 1) := zd_at zhX8_setHour_0 7 rfl
theorem dX8_setHour_15 : decode cX8_setHour 15 = .ok (.getfield 51, 3) := zd_at zhX8_setHour_0 8 rfl
theorem dX8_setHour_18 : decode cX8_setHour 18 = .ok (.getfield 108, 3) := zd_at zhX8_setHour_0 9 rfl
theorem dX8_setHour_21 : decode cX8_setHour 21 = .ok (.istore_n 2, 1) := zd_at zhX8_setHour_0 10 rfl
theorem dX8_setHour_22 : decode cX8_setHour 22 = .ok (.aload_n 0, 1) := zd_at zhX8_setHour_0 11 rfl
theorem dX8_setHour_23 : decode cX8_setHour 23 = .ok (.getfield 51, 3) := zd_at zhX8_setHour_0 12 rfl
theorem dX8_setHour_26 : decode cX8_setHour 26 = .ok (.iload_n 1, 1) := zd_at zhX8_setHour_0 13 rfl
theorem dX8_setHour_27 : decode cX8_setHour 27 = .ok (.putfield 108, 3) := zd_at zhX8_setHour_0 14 rfl
theorem dX8_setHour_30 : decode cX8_setHour 30 = .ok (.iload_n 2, 1) := zd_at zhX8_setHour_0 15 rfl
theorem dX8_setHour_31 : decode cX8_setHour 31 = .ok (.ireturn, 1) := zd_at zhX8_setHour_0 16 rfl
def ziX8_setChurch_0 : List (Nat × Instr × Nat) := [(0, .iload_n 1, 1), (1, .ldc 111, 2), (3, .invokestatic 95, 3), (6, .ifCond .ne 6, 3), (9, .bipush (-2), 2), (11, .ireturn, 1), (12, .aload_n 0, 1), (13, .getfield 51, 3), (16, .getfield 112, 3), (19, .istore_n 2, 1), (20, .aload_n 0, 1), (21, .getfield 51, 3), (24, .iload_n 1, 1), (25, .putfield 112, 3), (28, .iload_n 2, 1), (29, .ireturn, 1)]
theorem zhX8_setChurch_0 : zd_chk (cX8_setChurch.data.toList.drop 0) 0 ziX8_setChurch_0 = true := by decide +kernel
theorem dX8_setChurch_0 : decode cX8_setChurch 0 = .ok (.iload_n 1, 1) := zd_at zhX8_setChurch_0 0 rfl
theorem dX8_setChurch_1 : decode cX8_setChurch 1 = .ok (.ldc 111, 2) := zd_at zhX8_setChurch_0 1 rfl
theorem dX8_setChurch_3 : decode cX8_setChurch 3 = .ok (.invokestatic 95, 3) := zd_at zhX8_setChurch_0 2 rfl
theorem dX8_setChurch_6 : decode cX8_setChurch 6 = .ok (.ifCond .ne 6, 3) := zd_at zhX8_setChurch_0 3 rfl
theorem dX8_setChurch_9 : decode cX8_setChurch 9 = .ok (.bipush (-2), 2) := zd_at zhX8_setChurch_0 4 rfl
theorem dX8_setChurch_11 : decode cX8_setChurch 11 = .ok (.ireturn, 1) := zd_at zhX8_setChurch_0 5 rfl
theorem dX8_setChurch_12 : decode cX8_setChurch 12 = .ok (.aload_n 0, 1) := zd_at zhX8_setChurch_0 6 rfl
theorem dX8_setChurch_13 : decode cX8_setChurch 13 = .ok (.getfield 51, 3) := zd_at zhX8_setChurch_0 7 rfl
theorem dX8_setChurch_16 : decode cX8_setChurch 16 = .ok (.getfield 112, 3) := zd_at zhX8_setChurch_0 8 rfl
theorem dX8_setChurch_19 : decode cX8_setChurch 19 = .ok (.istore_n 2, 1) := zd_at zhX8_setChurch_0 9 rfl
theorem dX8_setChurch_20 : decode cX8_setChurch 20 = .ok (.aload_n 0, 1) := zd_at zhX8_setChurch_0 10 rfl
theorem dX8_setChurch_21 : decode cX8_setChurch 21 = .ok (.getfield 51, 3) := zd_at zhX8_setChurch_0 11 rfl
theorem dX8_setChurch_24 : decode cX8_setChurch 24 = .ok (.iload_n 1, 1) := zd_at zhX8_setChurch_0 12 rfl
theorem dX8_setChurch_25 : decode cX8_setChurch 25 = .ok (.putfield 112, 3) := zd_at zhX8_setChurch_0 13 rfl
theorem dX8_setChurch_28 : decode cX8_setChurch 28 = .ok (.iload_n 2, 1) := zd_at zhX8_setChurch_0 14 rfl
theorem dX8_setChurch_29 : decode cX8_setChurch 29 = .ok (.ireturn, 1) := zd_at zhX8_setChurch_0 15 rfl
def ziX8_man_0 : List (Nat × Instr × Nat) := [(0, .iload_n 1, 1), (1, .bipush 6, 2), (3, .invokestatic 95, 3), (6, .ifCond .eq 12, 3), (9, .iload_n 2, 1), (10, .bipush 10, 2), (12, .invokestatic 95, 3), (15, .ifCond .ne 6, 3), (18, .bipush (-2), 2), (20, .ireturn, 1), (21, .aload_n 0, 1), (22, .getfield 51, 3), (25, .getfield 115, 3), (28, .iconst 5, 1), (29, .if_icmp .lt 6, 3), (32, .bipush (-4), 2), (34, .ireturn, 1), (35, .aload_n 0, 1), (36, .getfield 51, 3), (39, .iload_n 1, 1), (40, .iload_n 2, 1), (41, .invokevirtual 118, 3), (44, .ireturn, 1)]
theorem zhX8_man_0 : zd_chk (cX8_man.data.toList.drop 0) 0 ziX8_man_0 = true := by decide +kernel
theorem dX8_man_0 : decode cX8_man 0 = .ok (.iload_n 1, 1) := zd_at zhX8_man_0 0 rfl
theorem dX8_man_1 : decode cX8_man 1 = .ok (.bipush 6, 2) := zd_at zhX8_man_0 1 rfl
theorem dX8_man_3 : decode cX8_man 3 = .ok (.invokestatic 95, 3) := zd_at zhX8_man_0 2 rfl
theorem dX8_man_6 : decode cX8_man 6 = .ok (.ifCond .eq 12, 3) := zd_at zhX8_man_0 3 rfl
theorem dX8_man_9 : decode cX8_man 9 = .ok (.iload_n 2, 1) := zd_at zhX8_man_0 4 rfl
theorem dX8_man_10 : decode cX8_man 10 = .ok (.bipush 10, 2) := zd_at zhX8_man_0 5 rfl
theorem dX8_man_12 : decode cX8_man 12 = .ok (.invokestatic 95, 3) := zd_at zhX8_man_0 6 rfl
theorem dX8_man_15 : decode cX8_man 15 = .ok (.ifCond .ne 6, 3) := zd_at zhX8_man_0 7 rfl
theorem dX8_man_18 : decode cX8_man 18 = .ok (.bipush (-2), 2) := zd_at zhX8_man_0 8 rfl
theorem dX8_man_20 : decode cX8_man 20 = .ok (.ireturn, 1) := zd_at zhX8_man_0 9 rfl
theorem dX8_man_21 : decode cX8_man 21 = .ok (.aload_n 0, 1) := zd_at zhX8_man_0 10 rfl
theorem dX8_man_22 : decode cX8_man 22 = .ok (.getfield 51, 3) := zd_at zhX8_man_0 11 rfl
theorem dX8_man_25 : decode cX8_man 25 = .ok (.getfield 115, 3) := zd_at zhX8_man_0 12 rfl
theorem dX8_man_28 : decode cX8_man 28 = .ok (.iconst 5, 1) := zd_at zhX8_man_0 13 rfl
theorem dX8_man_29 : decode cX8_man 29 = .ok (.if_icmp .lt 6, 3) := zd_at zhX8_man_0 14 rfl
theorem dX8_man_32 : decode cX8_man 32 = .ok (.bipush (-4), 2) := zd_at zhX8_man_0 15 rfl
theorem dX8_man_34 : decode cX8_man 34 = .ok (.ireturn, 1) := zd_at zhX8_man_0 16 rfl
theorem dX8_man_35 : decode cX8_man 35 = .ok (.aload_n 0, 1) := zd_at zhX8_man_0 17 rfl
theorem dX8_man_36 : decode cX8_man 36 = .ok (.getfield 51, 3) := zd_at zhX8_man_0 18 rfl
theorem dX8_man_39 : decode cX8_man 39 = .ok (.iload_n 1, 1) := zd_at zhX8_man_0 19 rfl
theorem dX8_man_40 : decode cX8_man 40 = .ok (.iload_n 2, 1) := zd_at zhX8_man_0 20 rfl
theorem dX8_man_41 : decode cX8_man 41 = .ok (.invokevirtual 118, 3) := zd_at zhX8_man_0 21 rfl
theorem dX8_man_44 : decode cX8_man 44 = .ok (.ireturn, 1) := zd_at zhX8_man_0 22 rfl
def ziX8_told_0 : List (Nat × Instr × Nat) := [(0, .iload_n 2, 1), (1, .ifCond .ne 11, 3), (4, .aload_n 0, 1), (5, .getfield 51, 3), (8, .getfield 108, 3), (11, .ireturn, 1), (12, .iload_n 2, 1), (13, .iconst 1, 1), (14, .if_icmp .ne 11, 3), (17, .aload_n 0, 1), (18, .getfield 51, 3), (21, .getfield 112, 3), (24, .ireturn, 1), (25, .aload_n 0, 1), (26, .iload_n 1, 1), (27, .invokevirtual 91, 3), (30, .ifCond .ne 6, 3), (33, .bipush (-2), 2), (35, .ireturn, 1), (36, .aload_n 0, 1), (37, .getfield 51, 3), (40, .getfield 99, 3), (43, .iload_n 1, 1), (44, .aaload, 1), (45, .astore_n 3, 1), (46, .iload_n 2, 1), (47, .iconst 2, 1), (48, .if_icmp .ne 8, 3), (51, .aload_n 3, 1), (52, .getfield 103, 3), (55, .ireturn, 1), (56, .iload_n 2, 1), (57, .iconst 3, 1), (58, .if_icmp .ne 8, 3), (61, .aload_n 3, 1), (62, .getfield 122, 3), (65, .ireturn, 1), (66, .iload_n 2, 1), (67, .iconst 4, 1), (68, .if_icmp .ne 8, 3)]
theorem zhX8_told_0 : zd_chk (cX8_told.data.toList.drop 0) 0 ziX8_told_0 = true := by decide +kernel
theorem dX8_told_0 : decode cX8_told 0 = .ok (.iload_n 2, 1) := zd_at zhX8_told_0 0 rfl
theorem dX8_told_1 : decode cX8_told 1 = .ok (.ifCond .ne 11, 3) := zd_at zhX8_told_0 1 rfl
theorem dX8_told_4 : decode cX8_told 4 = .ok (.aload_n 0, 1) := zd_at zhX8_told_0 2 rfl
theorem dX8_told_5 : decode cX8_told 5 = .ok (.getfield 51, 3) := zd_at zhX8_told_0 3 rfl
theorem dX8_told_8 : decode cX8_told 8 = .ok (.getfield 108, 3) := zd_at zhX8_told_0 4 rfl
theorem dX8_told_11 : decode cX8_told 11 = .ok (.ireturn, 1) := zd_at zhX8_told_0 5 rfl
theorem dX8_told_12 : decode cX8_told 12 = .ok (.iload_n 2, 1) := zd_at zhX8_told_0 6 rfl
theorem dX8_told_13 : decode cX8_told 13 = .ok (.iconst 1, 1) := zd_at zhX8_told_0 7 rfl
theorem dX8_told_14 : decode cX8_told 14 = .ok (.if_icmp .ne 11, 3) := zd_at zhX8_told_0 8 rfl
theorem dX8_told_17 : decode cX8_told 17 = .ok (.aload_n 0, 1) := zd_at zhX8_told_0 9 rfl
theorem dX8_told_18 : decode cX8_told 18 = .ok (.getfield 51, 3) := zd_at zhX8_told_0 10 rfl
theorem dX8_told_21 : decode cX8_told 21 = .ok (.getfield 112, 3) := zd_at zhX8_told_0 11 rfl
theorem dX8_told_24 : decode cX8_told 24 = .ok (.ireturn, 1) := zd_at zhX8_told_0 12 rfl
theorem dX8_told_25 : decode cX8_told 25 = .ok (.aload_n 0, 1) := zd_at zhX8_told_0 13 rfl
theorem dX8_told_26 : decode cX8_told 26 = .ok (.iload_n 1, 1) := zd_at zhX8_told_0 14 rfl
theorem dX8_told_27 : decode cX8_told 27 = .ok (.invokevirtual 91, 3) := zd_at zhX8_told_0 15 rfl
theorem dX8_told_30 : decode cX8_told 30 = .ok (.ifCond .ne 6, 3) := zd_at zhX8_told_0 16 rfl
theorem dX8_told_33 : decode cX8_told 33 = .ok (.bipush (-2), 2) := zd_at zhX8_told_0 17 rfl
theorem dX8_told_35 : decode cX8_told 35 = .ok (.ireturn, 1) := zd_at zhX8_told_0 18 rfl
theorem dX8_told_36 : decode cX8_told 36 = .ok (.aload_n 0, 1) := zd_at zhX8_told_0 19 rfl
theorem dX8_told_37 : decode cX8_told 37 = .ok (.getfield 51, 3) := zd_at zhX8_told_0 20 rfl
theorem dX8_told_40 : decode cX8_told 40 = .ok (.getfield 99, 3) := zd_at zhX8_told_0 21 rfl
theorem dX8_told_43 : decode cX8_told 43 = .ok (.iload_n 1, 1) := zd_at zhX8_told_0 22 rfl
theorem dX8_told_44 : decode cX8_told 44 = .ok (.aaload, 1) := zd_at zhX8_told_0 23 rfl
theorem dX8_told_45 : decode cX8_told 45 = .ok (.astore_n 3, 1) := zd_at zhX8_told_0 24 rfl
theorem dX8_told_46 : decode cX8_told 46 = .ok (.iload_n 2, 1) := zd_at zhX8_told_0 25 rfl
theorem dX8_told_47 : decode cX8_told 47 = .ok (.iconst 2, 1) := zd_at zhX8_told_0 26 rfl
theorem dX8_told_48 : decode cX8_told 48 = .ok (.if_icmp .ne 8, 3) := zd_at zhX8_told_0 27 rfl
theorem dX8_told_51 : decode cX8_told 51 = .ok (.aload_n 3, 1) := zd_at zhX8_told_0 28 rfl
theorem dX8_told_52 : decode cX8_told 52 = .ok (.getfield 103, 3) := zd_at zhX8_told_0 29 rfl
theorem dX8_told_55 : decode cX8_told 55 = .ok (.ireturn, 1) := zd_at zhX8_told_0 30 rfl
theorem dX8_told_56 : decode cX8_told 56 = .ok (.iload_n 2, 1) := zd_at zhX8_told_0 31 rfl
theorem dX8_told_57 : decode cX8_told 57 = .ok (.iconst 3, 1) := zd_at zhX8_told_0 32 rfl
theorem dX8_told_58 : decode cX8_told 58 = .ok (.if_icmp .ne 8, 3) := zd_at zhX8_told_0 33 rfl
theorem dX8_told_61 : decode cX8_told 61 = .ok (.aload_n 3, 1) := zd_at zhX8_told_0 34 rfl
theorem dX8_told_62 : decode cX8_told 62 = .ok (.getfield 122, 3) := zd_at zhX8_told_0 35 rfl
theorem dX8_told_65 : decode cX8_told 65 = .ok (.ireturn, 1) := zd_at zhX8_told_0 36 rfl
theorem dX8_told_66 : decode cX8_told 66 = .ok (.iload_n 2, 1) := zd_at zhX8_told_0 37 rfl
theorem dX8_told_67 : decode cX8_told 67 = .ok (.iconst 4, 1) := zd_at zhX8_told_0 38 rfl
theorem dX8_told_68 : decode cX8_told 68 = .ok (.if_icmp .ne 8, 3) := zd_at zhX8_told_0 39 rfl
def ziX8_told_71 : List (Nat × Instr × Nat) := [(71, .aload_n 3, 1), (72, .invokevirtual 125, 3), (75, .ireturn, 1), (76, .iload_n 2, 1), (77, .bipush 10, 2), (79, .if_icmp .lt 9, 3), (82, .iload_n 2, 1), (83, .bipush 39, 2), (85, .if_icmp .le 6, 3), (88, .bipush (-2), 2), (90, .ireturn, 1), (91, .aload_n 0, 1), (92, .iload_n 1, 1), (93, .iload_n 2, 1), (94, .bipush 10, 2), (96, .irem, 1), (97, .iload_n 2, 1), (98, .bipush 10, 2), (100, .idiv, 1), (101, .invokevirtual 128, 3), (104, .ireturn, 1)]
theorem zhX8_told_71 : zd_chk (cX8_told.data.toList.drop 71) 71 ziX8_told_71 = true := by decide +kernel
theorem dX8_told_71 : decode cX8_told 71 = .ok (.aload_n 3, 1) := zd_at zhX8_told_71 0 rfl
theorem dX8_told_72 : decode cX8_told 72 = .ok (.invokevirtual 125, 3) := zd_at zhX8_told_71 1 rfl
theorem dX8_told_75 : decode cX8_told 75 = .ok (.ireturn, 1) := zd_at zhX8_told_71 2 rfl
theorem dX8_told_76 : decode cX8_told 76 = .ok (.iload_n 2, 1) := zd_at zhX8_told_71 3 rfl
theorem dX8_told_77 : decode cX8_told 77 = .ok (.bipush 10, 2) := zd_at zhX8_told_71 4 rfl
theorem dX8_told_79 : decode cX8_told 79 = .ok (.if_icmp .lt 9, 3) := zd_at zhX8_told_71 5 rfl
theorem dX8_told_82 : decode cX8_told 82 = .ok (.iload_n 2, 1) := zd_at zhX8_told_71 6 rfl
theorem dX8_told_83 : decode cX8_told 83 = .ok (.bipush 39, 2) := zd_at zhX8_told_71 7 rfl
theorem dX8_told_85 : decode cX8_told 85 = .ok (.if_icmp .le 6, 3) := zd_at zhX8_told_71 8 rfl
theorem dX8_told_88 : decode cX8_told 88 = .ok (.bipush (-2), 2) := zd_at zhX8_told_71 9 rfl
theorem dX8_told_90 : decode cX8_told 90 = .ok (.ireturn, 1) := zd_at zhX8_told_71 10 rfl
theorem dX8_told_91 : decode cX8_told 91 = .ok (.aload_n 0, 1) := zd_at zhX8_told_71 11 rfl
theorem dX8_told_92 : decode cX8_told 92 = .ok (.iload_n 1, 1) := zd_at zhX8_told_71 12 rfl
theorem dX8_told_93 : decode cX8_told 93 = .ok (.iload_n 2, 1) := zd_at zhX8_told_71 13 rfl
theorem dX8_told_94 : decode cX8_told 94 = .ok (.bipush 10, 2) := zd_at zhX8_told_71 14 rfl
theorem dX8_told_96 : decode cX8_told 96 = .ok (.irem, 1) := zd_at zhX8_told_71 15 rfl
theorem dX8_told_97 : decode cX8_told 97 = .ok (.iload_n 2, 1) := zd_at zhX8_told_71 16 rfl
theorem dX8_told_98 : decode cX8_told 98 = .ok (.bipush 10, 2) := zd_at zhX8_told_71 17 rfl
theorem dX8_told_100 : decode cX8_told 100 = .ok (.idiv, 1) := zd_at zhX8_told_71 18 rfl
theorem dX8_told_101 : decode cX8_told 101 = .ok (.invokevirtual 128, 3) := zd_at zhX8_told_71 19 rfl
theorem dX8_told_104 : decode cX8_told 104 = .ok (.ireturn, 1) := zd_at zhX8_told_71 20 rfl
def ziX8_toldOfGap_0 : List (Nat × Instr × Nat) := [(0, .aload_n 0, 1), (1, .getfield 51, 3), (4, .getfield 99, 3), (7, .iload_n 1, 1), (8, .aaload, 1), (9, .astore 4, 2), (11, .iload_n 3, 1), (12, .iconst 1, 1), (13, .if_icmp .eq 14, 3), (16, .aload 4, 2), (18, .getfield 132, 3), (21, .iload_n 2, 1), (22, .iaload, 1), (23, .iconst (-1), 1), (24, .if_icmp .ne 11, 3), (27, .aload 4, 2), (29, .getfield 132, 3), (32, .iload_n 2, 1), (33, .iaload, 1), (34, .ireturn, 1), (35, .iload_n 3, 1), (36, .iconst 2, 1), (37, .if_icmp .ne 11, 3), (40, .aload 4, 2), (42, .getfield 136, 3), (45, .iload_n 2, 1), (46, .iaload, 1), (47, .ireturn, 1), (48, .aload_n 0, 1), (49, .getfield 42, 3), (52, .aload_n 0, 1), (53, .getfield 51, 3), (56, .iload_n 1, 1), (57, .iload_n 2, 1), (58, .invokevirtual 139, 3), (61, .aload_n 0, 1), (62, .getfield 42, 3), (65, .aload 4, 2), (67, .getfield 136, 3), (70, .iload_n 2, 1)]
theorem zhX8_toldOfGap_0 : zd_chk (cX8_toldOfGap.data.toList.drop 0) 0 ziX8_toldOfGap_0 = true := by decide +kernel
theorem dX8_toldOfGap_0 : decode cX8_toldOfGap 0 = .ok (.aload_n 0, 1) := zd_at zhX8_toldOfGap_0 0 rfl
theorem dX8_toldOfGap_1 : decode cX8_toldOfGap 1 = .ok (.getfield 51, 3) := zd_at zhX8_toldOfGap_0 1 rfl
theorem dX8_toldOfGap_4 : decode cX8_toldOfGap 4 = .ok (.getfield 99, 3) := zd_at zhX8_toldOfGap_0 2 rfl
theorem dX8_toldOfGap_7 : decode cX8_toldOfGap 7 = .ok (.iload_n 1, 1) := zd_at zhX8_toldOfGap_0 3 rfl
theorem dX8_toldOfGap_8 : decode cX8_toldOfGap 8 = .ok (.aaload, 1) := zd_at zhX8_toldOfGap_0 4 rfl
theorem dX8_toldOfGap_9 : decode cX8_toldOfGap 9 = .ok (.astore 4, 2) := zd_at zhX8_toldOfGap_0 5 rfl
theorem dX8_toldOfGap_11 : decode cX8_toldOfGap 11 = .ok (.iload_n 3, 1) := zd_at zhX8_toldOfGap_0 6 rfl
theorem dX8_toldOfGap_12 : decode cX8_toldOfGap 12 = .ok (.iconst 1, 1) := zd_at zhX8_toldOfGap_0 7 rfl
theorem dX8_toldOfGap_13 : decode cX8_toldOfGap 13 = .ok (.if_icmp .eq 14, 3) := zd_at zhX8_toldOfGap_0 8 rfl
theorem dX8_toldOfGap_16 : decode cX8_toldOfGap 16 = .ok (.aload 4, 2) := zd_at zhX8_toldOfGap_0 9 rfl
theorem dX8_toldOfGap_18 : decode cX8_toldOfGap 18 = .ok (.getfield 132, 3) := zd_at zhX8_toldOfGap_0 10 rfl
theorem dX8_toldOfGap_21 : decode cX8_toldOfGap 21 = .ok (.iload_n 2, 1) := zd_at zhX8_toldOfGap_0 11 rfl
theorem dX8_toldOfGap_22 : decode cX8_toldOfGap 22 = .ok (.iaload, 1) := zd_at zhX8_toldOfGap_0 12 rfl
theorem dX8_toldOfGap_23 : decode cX8_toldOfGap 23 = .ok (.iconst (-1), 1) := zd_at zhX8_toldOfGap_0 13 rfl
theorem dX8_toldOfGap_24 : decode cX8_toldOfGap 24 = .ok (.if_icmp .ne 11, 3) := zd_at zhX8_toldOfGap_0 14 rfl
theorem dX8_toldOfGap_27 : decode cX8_toldOfGap 27 = .ok (.aload 4, 2) := zd_at zhX8_toldOfGap_0 15 rfl
theorem dX8_toldOfGap_29 : decode cX8_toldOfGap 29 = .ok (.getfield 132, 3) := zd_at zhX8_toldOfGap_0 16 rfl
theorem dX8_toldOfGap_32 : decode cX8_toldOfGap 32 = .ok (.iload_n 2, 1) := zd_at zhX8_toldOfGap_0 17 rfl
theorem dX8_toldOfGap_33 : decode cX8_toldOfGap 33 = .ok (.iaload, 1) := zd_at zhX8_toldOfGap_0 18 rfl
theorem dX8_toldOfGap_34 : decode cX8_toldOfGap 34 = .ok (.ireturn, 1) := zd_at zhX8_toldOfGap_0 19 rfl
theorem dX8_toldOfGap_35 : decode cX8_toldOfGap 35 = .ok (.iload_n 3, 1) := zd_at zhX8_toldOfGap_0 20 rfl
theorem dX8_toldOfGap_36 : decode cX8_toldOfGap 36 = .ok (.iconst 2, 1) := zd_at zhX8_toldOfGap_0 21 rfl
theorem dX8_toldOfGap_37 : decode cX8_toldOfGap 37 = .ok (.if_icmp .ne 11, 3) := zd_at zhX8_toldOfGap_0 22 rfl
theorem dX8_toldOfGap_40 : decode cX8_toldOfGap 40 = .ok (.aload 4, 2) := zd_at zhX8_toldOfGap_0 23 rfl
theorem dX8_toldOfGap_42 : decode cX8_toldOfGap 42 = .ok (.getfield 136, 3) := zd_at zhX8_toldOfGap_0 24 rfl
theorem dX8_toldOfGap_45 : decode cX8_toldOfGap 45 = .ok (.iload_n 2, 1) := zd_at zhX8_toldOfGap_0 25 rfl
theorem dX8_toldOfGap_46 : decode cX8_toldOfGap 46 = .ok (.iaload, 1) := zd_at zhX8_toldOfGap_0 26 rfl
theorem dX8_toldOfGap_47 : decode cX8_toldOfGap 47 = .ok (.ireturn, 1) := zd_at zhX8_toldOfGap_0 27 rfl
theorem dX8_toldOfGap_48 : decode cX8_toldOfGap 48 = .ok (.aload_n 0, 1) := zd_at zhX8_toldOfGap_0 28 rfl
theorem dX8_toldOfGap_49 : decode cX8_toldOfGap 49 = .ok (.getfield 42, 3) := zd_at zhX8_toldOfGap_0 29 rfl
theorem dX8_toldOfGap_52 : decode cX8_toldOfGap 52 = .ok (.aload_n 0, 1) := zd_at zhX8_toldOfGap_0 30 rfl
theorem dX8_toldOfGap_53 : decode cX8_toldOfGap 53 = .ok (.getfield 51, 3) := zd_at zhX8_toldOfGap_0 31 rfl
theorem dX8_toldOfGap_56 : decode cX8_toldOfGap 56 = .ok (.iload_n 1, 1) := zd_at zhX8_toldOfGap_0 32 rfl
theorem dX8_toldOfGap_57 : decode cX8_toldOfGap 57 = .ok (.iload_n 2, 1) := zd_at zhX8_toldOfGap_0 33 rfl
theorem dX8_toldOfGap_58 : decode cX8_toldOfGap 58 = .ok (.invokevirtual 139, 3) := zd_at zhX8_toldOfGap_0 34 rfl
theorem dX8_toldOfGap_61 : decode cX8_toldOfGap 61 = .ok (.aload_n 0, 1) := zd_at zhX8_toldOfGap_0 35 rfl
theorem dX8_toldOfGap_62 : decode cX8_toldOfGap 62 = .ok (.getfield 42, 3) := zd_at zhX8_toldOfGap_0 36 rfl
theorem dX8_toldOfGap_65 : decode cX8_toldOfGap 65 = .ok (.aload 4, 2) := zd_at zhX8_toldOfGap_0 37 rfl
theorem dX8_toldOfGap_67 : decode cX8_toldOfGap 67 = .ok (.getfield 136, 3) := zd_at zhX8_toldOfGap_0 38 rfl
theorem dX8_toldOfGap_70 : decode cX8_toldOfGap 70 = .ok (.iload_n 2, 1) := zd_at zhX8_toldOfGap_0 39 rfl
def ziX8_toldOfGap_71 : List (Nat × Instr × Nat) := [(71, .iaload, 1), (72, .aload_n 0, 1), (73, .getfield 51, 3), (76, .getfield 108, 3), (79, .invokevirtual 143, 3), (82, .ireturn, 1)]
theorem zhX8_toldOfGap_71 : zd_chk (cX8_toldOfGap.data.toList.drop 71) 71 ziX8_toldOfGap_71 = true := by decide +kernel
theorem dX8_toldOfGap_71 : decode cX8_toldOfGap 71 = .ok (.iaload, 1) := zd_at zhX8_toldOfGap_71 0 rfl
theorem dX8_toldOfGap_72 : decode cX8_toldOfGap 72 = .ok (.aload_n 0, 1) := zd_at zhX8_toldOfGap_71 1 rfl
theorem dX8_toldOfGap_73 : decode cX8_toldOfGap 73 = .ok (.getfield 51, 3) := zd_at zhX8_toldOfGap_71 2 rfl
theorem dX8_toldOfGap_76 : decode cX8_toldOfGap 76 = .ok (.getfield 108, 3) := zd_at zhX8_toldOfGap_71 3 rfl
theorem dX8_toldOfGap_79 : decode cX8_toldOfGap 79 = .ok (.invokevirtual 143, 3) := zd_at zhX8_toldOfGap_71 4 rfl
theorem dX8_toldOfGap_82 : decode cX8_toldOfGap 82 = .ok (.ireturn, 1) := zd_at zhX8_toldOfGap_71 5 rfl
def ziX8_fill_0 : List (Nat × Instr × Nat) := [(0, .aload_n 0, 1), (1, .iload_n 1, 1), (2, .invokevirtual 91, 3), (5, .ifCond .eq 12, 3), (8, .iload_n 2, 1), (9, .bipush 10, 2), (11, .invokestatic 95, 3), (14, .ifCond .ne 6, 3), (17, .bipush (-2), 2), (19, .ireturn, 1), (20, .iload_n 3, 1), (21, .iconst (-1), 1), (22, .if_icmp .eq 15, 3), (25, .iload_n 3, 1), (26, .bipush 16, 2), (28, .invokestatic 95, 3), (31, .ifCond .ne 6, 3), (34, .bipush (-2), 2), (36, .ireturn, 1), (37, .iload 4, 2), (39, .ifCond .lt 11, 3), (42, .iload 4, 2), (44, .sipush 999, 3), (47, .if_icmp .le 6, 3), (50, .bipush (-2), 2), (52, .ireturn, 1), (53, .aload_n 0, 1), (54, .getfield 51, 3), (57, .getfield 99, 3), (60, .iload_n 1, 1), (61, .aaload, 1), (62, .astore 5, 2), (64, .aload 5, 2), (66, .getfield 132, 3), (69, .iload_n 2, 1), (70, .iaload, 1), (71, .istore 6, 2), (73, .aload 5, 2), (75, .getfield 132, 3), (78, .iload_n 2, 1)]
theorem zhX8_fill_0 : zd_chk (cX8_fill.data.toList.drop 0) 0 ziX8_fill_0 = true := by decide +kernel
theorem dX8_fill_0 : decode cX8_fill 0 = .ok (.aload_n 0, 1) := zd_at zhX8_fill_0 0 rfl
theorem dX8_fill_1 : decode cX8_fill 1 = .ok (.iload_n 1, 1) := zd_at zhX8_fill_0 1 rfl
theorem dX8_fill_2 : decode cX8_fill 2 = .ok (.invokevirtual 91, 3) := zd_at zhX8_fill_0 2 rfl
theorem dX8_fill_5 : decode cX8_fill 5 = .ok (.ifCond .eq 12, 3) := zd_at zhX8_fill_0 3 rfl
theorem dX8_fill_8 : decode cX8_fill 8 = .ok (.iload_n 2, 1) := zd_at zhX8_fill_0 4 rfl
theorem dX8_fill_9 : decode cX8_fill 9 = .ok (.bipush 10, 2) := zd_at zhX8_fill_0 5 rfl
theorem dX8_fill_11 : decode cX8_fill 11 = .ok (.invokestatic 95, 3) := zd_at zhX8_fill_0 6 rfl
theorem dX8_fill_14 : decode cX8_fill 14 = .ok (.ifCond .ne 6, 3) := zd_at zhX8_fill_0 7 rfl
theorem dX8_fill_17 : decode cX8_fill 17 = .ok (.bipush (-2), 2) := zd_at zhX8_fill_0 8 rfl
theorem dX8_fill_19 : decode cX8_fill 19 = .ok (.ireturn, 1) := zd_at zhX8_fill_0 9 rfl
theorem dX8_fill_20 : decode cX8_fill 20 = .ok (.iload_n 3, 1) := zd_at zhX8_fill_0 10 rfl
theorem dX8_fill_21 : decode cX8_fill 21 = .ok (.iconst (-1), 1) := zd_at zhX8_fill_0 11 rfl
theorem dX8_fill_22 : decode cX8_fill 22 = .ok (.if_icmp .eq 15, 3) := zd_at zhX8_fill_0 12 rfl
theorem dX8_fill_25 : decode cX8_fill 25 = .ok (.iload_n 3, 1) := zd_at zhX8_fill_0 13 rfl
theorem dX8_fill_26 : decode cX8_fill 26 = .ok (.bipush 16, 2) := zd_at zhX8_fill_0 14 rfl
theorem dX8_fill_28 : decode cX8_fill 28 = .ok (.invokestatic 95, 3) := zd_at zhX8_fill_0 15 rfl
theorem dX8_fill_31 : decode cX8_fill 31 = .ok (.ifCond .ne 6, 3) := zd_at zhX8_fill_0 16 rfl
theorem dX8_fill_34 : decode cX8_fill 34 = .ok (.bipush (-2), 2) := zd_at zhX8_fill_0 17 rfl
theorem dX8_fill_36 : decode cX8_fill 36 = .ok (.ireturn, 1) := zd_at zhX8_fill_0 18 rfl
theorem dX8_fill_37 : decode cX8_fill 37 = .ok (.iload 4, 2) := zd_at zhX8_fill_0 19 rfl
theorem dX8_fill_39 : decode cX8_fill 39 = .ok (.ifCond .lt 11, 3) := zd_at zhX8_fill_0 20 rfl
theorem dX8_fill_42 : decode cX8_fill 42 = .ok (.iload 4, 2) := zd_at zhX8_fill_0 21 rfl
theorem dX8_fill_44 : decode cX8_fill 44 = .ok (.sipush 999, 3) := zd_at zhX8_fill_0 22 rfl
theorem dX8_fill_47 : decode cX8_fill 47 = .ok (.if_icmp .le 6, 3) := zd_at zhX8_fill_0 23 rfl
theorem dX8_fill_50 : decode cX8_fill 50 = .ok (.bipush (-2), 2) := zd_at zhX8_fill_0 24 rfl
theorem dX8_fill_52 : decode cX8_fill 52 = .ok (.ireturn, 1) := zd_at zhX8_fill_0 25 rfl
theorem dX8_fill_53 : decode cX8_fill 53 = .ok (.aload_n 0, 1) := zd_at zhX8_fill_0 26 rfl
theorem dX8_fill_54 : decode cX8_fill 54 = .ok (.getfield 51, 3) := zd_at zhX8_fill_0 27 rfl
theorem dX8_fill_57 : decode cX8_fill 57 = .ok (.getfield 99, 3) := zd_at zhX8_fill_0 28 rfl
theorem dX8_fill_60 : decode cX8_fill 60 = .ok (.iload_n 1, 1) := zd_at zhX8_fill_0 29 rfl
theorem dX8_fill_61 : decode cX8_fill 61 = .ok (.aaload, 1) := zd_at zhX8_fill_0 30 rfl
theorem dX8_fill_62 : decode cX8_fill 62 = .ok (.astore 5, 2) := zd_at zhX8_fill_0 31 rfl
theorem dX8_fill_64 : decode cX8_fill 64 = .ok (.aload 5, 2) := zd_at zhX8_fill_0 32 rfl
theorem dX8_fill_66 : decode cX8_fill 66 = .ok (.getfield 132, 3) := zd_at zhX8_fill_0 33 rfl
theorem dX8_fill_69 : decode cX8_fill 69 = .ok (.iload_n 2, 1) := zd_at zhX8_fill_0 34 rfl
theorem dX8_fill_70 : decode cX8_fill 70 = .ok (.iaload, 1) := zd_at zhX8_fill_0 35 rfl
theorem dX8_fill_71 : decode cX8_fill 71 = .ok (.istore 6, 2) := zd_at zhX8_fill_0 36 rfl
theorem dX8_fill_73 : decode cX8_fill 73 = .ok (.aload 5, 2) := zd_at zhX8_fill_0 37 rfl
theorem dX8_fill_75 : decode cX8_fill 75 = .ok (.getfield 132, 3) := zd_at zhX8_fill_0 38 rfl
theorem dX8_fill_78 : decode cX8_fill 78 = .ok (.iload_n 2, 1) := zd_at zhX8_fill_0 39 rfl
def ziX8_fill_79 : List (Nat × Instr × Nat) := [(79, .iload_n 3, 1), (80, .iastore, 1), (81, .aload 5, 2), (83, .getfield 136, 3), (86, .iload_n 2, 1), (87, .iload 4, 2), (89, .iastore, 1), (90, .iload 6, 2), (92, .ireturn, 1)]
theorem zhX8_fill_79 : zd_chk (cX8_fill.data.toList.drop 79) 79 ziX8_fill_79 = true := by decide +kernel
theorem dX8_fill_79 : decode cX8_fill 79 = .ok (.iload_n 3, 1) := zd_at zhX8_fill_79 0 rfl
theorem dX8_fill_80 : decode cX8_fill 80 = .ok (.iastore, 1) := zd_at zhX8_fill_79 1 rfl
theorem dX8_fill_81 : decode cX8_fill 81 = .ok (.aload 5, 2) := zd_at zhX8_fill_79 2 rfl
theorem dX8_fill_83 : decode cX8_fill 83 = .ok (.getfield 136, 3) := zd_at zhX8_fill_79 3 rfl
theorem dX8_fill_86 : decode cX8_fill 86 = .ok (.iload_n 2, 1) := zd_at zhX8_fill_79 4 rfl
theorem dX8_fill_87 : decode cX8_fill 87 = .ok (.iload 4, 2) := zd_at zhX8_fill_79 5 rfl
theorem dX8_fill_89 : decode cX8_fill 89 = .ok (.iastore, 1) := zd_at zhX8_fill_79 6 rfl
theorem dX8_fill_90 : decode cX8_fill 90 = .ok (.iload 6, 2) := zd_at zhX8_fill_79 7 rfl
theorem dX8_fill_92 : decode cX8_fill 92 = .ok (.ireturn, 1) := zd_at zhX8_fill_79 8 rfl
def ziX8_feed_0 : List (Nat × Instr × Nat) := [(0, .iload_n 1, 1), (1, .sipush 256, 3), (4, .invokestatic 95, 3), (7, .ifCond .ne 6, 3), (10, .bipush (-2), 2), (12, .ireturn, 1), (13, .aload_n 0, 1), (14, .getfield 35, 3), (17, .getfield 146, 3), (20, .sipush 160, 3), (23, .if_icmp .lt 6, 3), (26, .bipush (-4), 2), (28, .ireturn, 1), (29, .aload_n 0, 1), (30, .getfield 35, 3), (33, .iload_n 1, 1), (34, .invokevirtual 73, 3), (37, .ireturn, 1)]
theorem zhX8_feed_0 : zd_chk (cX8_feed.data.toList.drop 0) 0 ziX8_feed_0 = true := by decide +kernel
theorem dX8_feed_0 : decode cX8_feed 0 = .ok (.iload_n 1, 1) := zd_at zhX8_feed_0 0 rfl
theorem dX8_feed_1 : decode cX8_feed 1 = .ok (.sipush 256, 3) := zd_at zhX8_feed_0 1 rfl
theorem dX8_feed_4 : decode cX8_feed 4 = .ok (.invokestatic 95, 3) := zd_at zhX8_feed_0 2 rfl
theorem dX8_feed_7 : decode cX8_feed 7 = .ok (.ifCond .ne 6, 3) := zd_at zhX8_feed_0 3 rfl
theorem dX8_feed_10 : decode cX8_feed 10 = .ok (.bipush (-2), 2) := zd_at zhX8_feed_0 4 rfl
theorem dX8_feed_12 : decode cX8_feed 12 = .ok (.ireturn, 1) := zd_at zhX8_feed_0 5 rfl
theorem dX8_feed_13 : decode cX8_feed 13 = .ok (.aload_n 0, 1) := zd_at zhX8_feed_0 6 rfl
theorem dX8_feed_14 : decode cX8_feed 14 = .ok (.getfield 35, 3) := zd_at zhX8_feed_0 7 rfl
theorem dX8_feed_17 : decode cX8_feed 17 = .ok (.getfield 146, 3) := zd_at zhX8_feed_0 8 rfl
theorem dX8_feed_20 : decode cX8_feed 20 = .ok (.sipush 160, 3) := zd_at zhX8_feed_0 9 rfl
theorem dX8_feed_23 : decode cX8_feed 23 = .ok (.if_icmp .lt 6, 3) := zd_at zhX8_feed_0 10 rfl
theorem dX8_feed_26 : decode cX8_feed 26 = .ok (.bipush (-4), 2) := zd_at zhX8_feed_0 11 rfl
theorem dX8_feed_28 : decode cX8_feed 28 = .ok (.ireturn, 1) := zd_at zhX8_feed_0 12 rfl
theorem dX8_feed_29 : decode cX8_feed 29 = .ok (.aload_n 0, 1) := zd_at zhX8_feed_0 13 rfl
theorem dX8_feed_30 : decode cX8_feed 30 = .ok (.getfield 35, 3) := zd_at zhX8_feed_0 14 rfl
theorem dX8_feed_33 : decode cX8_feed 33 = .ok (.iload_n 1, 1) := zd_at zhX8_feed_0 15 rfl
theorem dX8_feed_34 : decode cX8_feed 34 = .ok (.invokevirtual 73, 3) := zd_at zhX8_feed_0 16 rfl
theorem dX8_feed_37 : decode cX8_feed 37 = .ok (.ireturn, 1) := zd_at zhX8_feed_0 17 rfl
def ziX8_text_0 : List (Nat × Instr × Nat) := [(0, .aload_n 0, 1), (1, .getfield 81, 3), (4, .bipush 6, 2), (6, .if_icmp .lt 6, 3), (9, .bipush (-4), 2), (11, .ireturn, 1), (12, .aload_n 0, 1), (13, .getfield 35, 3), (16, .aload_n 0, 1), (17, .getfield 11, 3), (20, .aload_n 0, 1), (21, .getfield 81, 3), (24, .aaload, 1), (25, .invokevirtual 77, 3), (28, .istore_n 1, 1), (29, .iload_n 1, 1), (30, .iconst (-1), 1), (31, .if_icmp .eq 8, 3), (34, .bipush (-100), 2), (36, .iload_n 1, 1), (37, .isub, 1), (38, .ireturn, 1), (39, .aload_n 0, 1), (40, .dup, 1), (41, .getfield 81, 3), (44, .iconst 1, 1), (45, .iadd, 1), (46, .putfield 81, 3), (49, .aload_n 0, 1), (50, .getfield 81, 3), (53, .iconst 1, 1), (54, .isub, 1), (55, .ireturn, 1)]
theorem zhX8_text_0 : zd_chk (cX8_text.data.toList.drop 0) 0 ziX8_text_0 = true := by decide +kernel
theorem dX8_text_0 : decode cX8_text 0 = .ok (.aload_n 0, 1) := zd_at zhX8_text_0 0 rfl
theorem dX8_text_1 : decode cX8_text 1 = .ok (.getfield 81, 3) := zd_at zhX8_text_0 1 rfl
theorem dX8_text_4 : decode cX8_text 4 = .ok (.bipush 6, 2) := zd_at zhX8_text_0 2 rfl
theorem dX8_text_6 : decode cX8_text 6 = .ok (.if_icmp .lt 6, 3) := zd_at zhX8_text_0 3 rfl
theorem dX8_text_9 : decode cX8_text 9 = .ok (.bipush (-4), 2) := zd_at zhX8_text_0 4 rfl
theorem dX8_text_11 : decode cX8_text 11 = .ok (.ireturn, 1) := zd_at zhX8_text_0 5 rfl
theorem dX8_text_12 : decode cX8_text 12 = .ok (.aload_n 0, 1) := zd_at zhX8_text_0 6 rfl
theorem dX8_text_13 : decode cX8_text 13 = .ok (.getfield 35, 3) := zd_at zhX8_text_0 7 rfl
theorem dX8_text_16 : decode cX8_text 16 = .ok (.aload_n 0, 1) := zd_at zhX8_text_0 8 rfl
theorem dX8_text_17 : decode cX8_text 17 = .ok (.getfield 11, 3) := zd_at zhX8_text_0 9 rfl
theorem dX8_text_20 : decode cX8_text 20 = .ok (.aload_n 0, 1) := zd_at zhX8_text_0 10 rfl
theorem dX8_text_21 : decode cX8_text 21 = .ok (.getfield 81, 3) := zd_at zhX8_text_0 11 rfl
theorem dX8_text_24 : decode cX8_text 24 = .ok (.aaload, 1) := zd_at zhX8_text_0 12 rfl
theorem dX8_text_25 : decode cX8_text 25 = .ok (.invokevirtual 77, 3) := zd_at zhX8_text_0 13 rfl
theorem dX8_text_28 : decode cX8_text 28 = .ok (.istore_n 1, 1) := zd_at zhX8_text_0 14 rfl
theorem dX8_text_29 : decode cX8_text 29 = .ok (.iload_n 1, 1) := zd_at zhX8_text_0 15 rfl
theorem dX8_text_30 : decode cX8_text 30 = .ok (.iconst (-1), 1) := zd_at zhX8_text_0 16 rfl
theorem dX8_text_31 : decode cX8_text 31 = .ok (.if_icmp .eq 8, 3) := zd_at zhX8_text_0 17 rfl
theorem dX8_text_34 : decode cX8_text 34 = .ok (.bipush (-100), 2) := zd_at zhX8_text_0 18 rfl
theorem dX8_text_36 : decode cX8_text 36 = .ok (.iload_n 1, 1) := zd_at zhX8_text_0 19 rfl
theorem dX8_text_37 : decode cX8_text 37 = .ok (.isub, 1) := zd_at zhX8_text_0 20 rfl
theorem dX8_text_38 : decode cX8_text 38 = .ok (.ireturn, 1) := zd_at zhX8_text_0 21 rfl
theorem dX8_text_39 : decode cX8_text 39 = .ok (.aload_n 0, 1) := zd_at zhX8_text_0 22 rfl
theorem dX8_text_40 : decode cX8_text 40 = .ok (.dup, 1) := zd_at zhX8_text_0 23 rfl
theorem dX8_text_41 : decode cX8_text 41 = .ok (.getfield 81, 3) := zd_at zhX8_text_0 24 rfl
theorem dX8_text_44 : decode cX8_text 44 = .ok (.iconst 1, 1) := zd_at zhX8_text_0 25 rfl
theorem dX8_text_45 : decode cX8_text 45 = .ok (.iadd, 1) := zd_at zhX8_text_0 26 rfl
theorem dX8_text_46 : decode cX8_text 46 = .ok (.putfield 81, 3) := zd_at zhX8_text_0 27 rfl
theorem dX8_text_49 : decode cX8_text 49 = .ok (.aload_n 0, 1) := zd_at zhX8_text_0 28 rfl
theorem dX8_text_50 : decode cX8_text 50 = .ok (.getfield 81, 3) := zd_at zhX8_text_0 29 rfl
theorem dX8_text_53 : decode cX8_text 53 = .ok (.iconst 1, 1) := zd_at zhX8_text_0 30 rfl
theorem dX8_text_54 : decode cX8_text 54 = .ok (.isub, 1) := zd_at zhX8_text_0 31 rfl
theorem dX8_text_55 : decode cX8_text 55 = .ok (.ireturn, 1) := zd_at zhX8_text_0 32 rfl
def ziX8_force_0 : List (Nat × Instr × Nat) := [(0, .iload_n 1, 1), (1, .aload_n 0, 1), (2, .getfield 81, 3), (5, .invokestatic 95, 3), (8, .ifCond .ne 6, 3), (11, .bipush (-2), 2), (13, .ireturn, 1), (14, .aload_n 0, 1), (15, .getfield 51, 3), (18, .getfield 147, 3), (21, .istore_n 2, 1), (22, .aload_n 0, 1), (23, .getfield 51, 3), (26, .iload_n 1, 1), (27, .putfield 147, 3), (30, .iload_n 2, 1), (31, .ireturn, 1)]
theorem zhX8_force_0 : zd_chk (cX8_force.data.toList.drop 0) 0 ziX8_force_0 = true := by decide +kernel
theorem dX8_force_0 : decode cX8_force 0 = .ok (.iload_n 1, 1) := zd_at zhX8_force_0 0 rfl
theorem dX8_force_1 : decode cX8_force 1 = .ok (.aload_n 0, 1) := zd_at zhX8_force_0 1 rfl
theorem dX8_force_2 : decode cX8_force 2 = .ok (.getfield 81, 3) := zd_at zhX8_force_0 2 rfl
theorem dX8_force_5 : decode cX8_force 5 = .ok (.invokestatic 95, 3) := zd_at zhX8_force_0 3 rfl
theorem dX8_force_8 : decode cX8_force 8 = .ok (.ifCond .ne 6, 3) := zd_at zhX8_force_0 4 rfl
theorem dX8_force_11 : decode cX8_force 11 = .ok (.bipush (-2), 2) := zd_at zhX8_force_0 5 rfl
theorem dX8_force_13 : decode cX8_force 13 = .ok (.ireturn, 1) := zd_at zhX8_force_0 6 rfl
theorem dX8_force_14 : decode cX8_force 14 = .ok (.aload_n 0, 1) := zd_at zhX8_force_0 7 rfl
theorem dX8_force_15 : decode cX8_force 15 = .ok (.getfield 51, 3) := zd_at zhX8_force_0 8 rfl
theorem dX8_force_18 : decode cX8_force 18 = .ok (.getfield 147, 3) := zd_at zhX8_force_0 9 rfl
theorem dX8_force_21 : decode cX8_force 21 = .ok (.istore_n 2, 1) := zd_at zhX8_force_0 10 rfl
theorem dX8_force_22 : decode cX8_force 22 = .ok (.aload_n 0, 1) := zd_at zhX8_force_0 11 rfl
theorem dX8_force_23 : decode cX8_force 23 = .ok (.getfield 51, 3) := zd_at zhX8_force_0 12 rfl
theorem dX8_force_26 : decode cX8_force 26 = .ok (.iload_n 1, 1) := zd_at zhX8_force_0 13 rfl
theorem dX8_force_27 : decode cX8_force 27 = .ok (.putfield 147, 3) := zd_at zhX8_force_0 14 rfl
theorem dX8_force_30 : decode cX8_force 30 = .ok (.iload_n 2, 1) := zd_at zhX8_force_0 15 rfl
theorem dX8_force_31 : decode cX8_force 31 = .ok (.ireturn, 1) := zd_at zhX8_force_0 16 rfl
def ziX8_say_0 : List (Nat × Instr × Nat) := [(0, .aload_n 0, 1), (1, .iload_n 1, 1), (2, .invokevirtual 91, 3), (5, .ifCond .eq 21, 3), (8, .iload_n 2, 1), (9, .bipush 16, 2), (11, .invokestatic 95, 3), (14, .ifCond .eq 12, 3), (17, .iload_n 3, 1), (18, .bipush 10, 2), (20, .invokestatic 95, 3), (23, .ifCond .ne 6, 3), (26, .bipush (-2), 2), (28, .ireturn, 1), (29, .aload_n 0, 1), (30, .getfield 51, 3), (33, .iload_n 1, 1), (34, .iload_n 2, 1), (35, .iload_n 3, 1), (36, .invokevirtual 150, 3), (39, .ireturn, 1)]
theorem zhX8_say_0 : zd_chk (cX8_say.data.toList.drop 0) 0 ziX8_say_0 = true := by decide +kernel
theorem dX8_say_0 : decode cX8_say 0 = .ok (.aload_n 0, 1) := zd_at zhX8_say_0 0 rfl
theorem dX8_say_1 : decode cX8_say 1 = .ok (.iload_n 1, 1) := zd_at zhX8_say_0 1 rfl
theorem dX8_say_2 : decode cX8_say 2 = .ok (.invokevirtual 91, 3) := zd_at zhX8_say_0 2 rfl
theorem dX8_say_5 : decode cX8_say 5 = .ok (.ifCond .eq 21, 3) := zd_at zhX8_say_0 3 rfl
theorem dX8_say_8 : decode cX8_say 8 = .ok (.iload_n 2, 1) := zd_at zhX8_say_0 4 rfl
theorem dX8_say_9 : decode cX8_say 9 = .ok (.bipush 16, 2) := zd_at zhX8_say_0 5 rfl
theorem dX8_say_11 : decode cX8_say 11 = .ok (.invokestatic 95, 3) := zd_at zhX8_say_0 6 rfl
theorem dX8_say_14 : decode cX8_say 14 = .ok (.ifCond .eq 12, 3) := zd_at zhX8_say_0 7 rfl
theorem dX8_say_17 : decode cX8_say 17 = .ok (.iload_n 3, 1) := zd_at zhX8_say_0 8 rfl
theorem dX8_say_18 : decode cX8_say 18 = .ok (.bipush 10, 2) := zd_at zhX8_say_0 9 rfl
theorem dX8_say_20 : decode cX8_say 20 = .ok (.invokestatic 95, 3) := zd_at zhX8_say_0 10 rfl
theorem dX8_say_23 : decode cX8_say 23 = .ok (.ifCond .ne 6, 3) := zd_at zhX8_say_0 11 rfl
theorem dX8_say_26 : decode cX8_say 26 = .ok (.bipush (-2), 2) := zd_at zhX8_say_0 12 rfl
theorem dX8_say_28 : decode cX8_say 28 = .ok (.ireturn, 1) := zd_at zhX8_say_0 13 rfl
theorem dX8_say_29 : decode cX8_say 29 = .ok (.aload_n 0, 1) := zd_at zhX8_say_0 14 rfl
theorem dX8_say_30 : decode cX8_say 30 = .ok (.getfield 51, 3) := zd_at zhX8_say_0 15 rfl
theorem dX8_say_33 : decode cX8_say 33 = .ok (.iload_n 1, 1) := zd_at zhX8_say_0 16 rfl
theorem dX8_say_34 : decode cX8_say 34 = .ok (.iload_n 2, 1) := zd_at zhX8_say_0 17 rfl
theorem dX8_say_35 : decode cX8_say 35 = .ok (.iload_n 3, 1) := zd_at zhX8_say_0 18 rfl
theorem dX8_say_36 : decode cX8_say 36 = .ok (.invokevirtual 150, 3) := zd_at zhX8_say_0 19 rfl
theorem dX8_say_39 : decode cX8_say 39 = .ok (.ireturn, 1) := zd_at zhX8_say_0 20 rfl
def ziX8_floss_0 : List (Nat × Instr × Nat) := [(0, .aload_n 0, 1), (1, .iload_n 1, 1), (2, .invokevirtual 91, 3), (5, .ifCond .eq 12, 3), (8, .iload_n 2, 1), (9, .bipush 10, 2), (11, .invokestatic 95, 3), (14, .ifCond .ne 6, 3), (17, .bipush (-2), 2), (19, .ireturn, 1), (20, .aload_n 0, 1), (21, .getfield 51, 3), (24, .getfield 99, 3), (27, .iload_n 1, 1), (28, .aaload, 1), (29, .iload_n 2, 1), (30, .invokevirtual 153, 3), (33, .ireturn, 1)]
theorem zhX8_floss_0 : zd_chk (cX8_floss.data.toList.drop 0) 0 ziX8_floss_0 = true := by decide +kernel
theorem dX8_floss_0 : decode cX8_floss 0 = .ok (.aload_n 0, 1) := zd_at zhX8_floss_0 0 rfl
theorem dX8_floss_1 : decode cX8_floss 1 = .ok (.iload_n 1, 1) := zd_at zhX8_floss_0 1 rfl
theorem dX8_floss_2 : decode cX8_floss 2 = .ok (.invokevirtual 91, 3) := zd_at zhX8_floss_0 2 rfl
theorem dX8_floss_5 : decode cX8_floss 5 = .ok (.ifCond .eq 12, 3) := zd_at zhX8_floss_0 3 rfl
theorem dX8_floss_8 : decode cX8_floss 8 = .ok (.iload_n 2, 1) := zd_at zhX8_floss_0 4 rfl
theorem dX8_floss_9 : decode cX8_floss 9 = .ok (.bipush 10, 2) := zd_at zhX8_floss_0 5 rfl
theorem dX8_floss_11 : decode cX8_floss 11 = .ok (.invokestatic 95, 3) := zd_at zhX8_floss_0 6 rfl
theorem dX8_floss_14 : decode cX8_floss 14 = .ok (.ifCond .ne 6, 3) := zd_at zhX8_floss_0 7 rfl
theorem dX8_floss_17 : decode cX8_floss 17 = .ok (.bipush (-2), 2) := zd_at zhX8_floss_0 8 rfl
theorem dX8_floss_19 : decode cX8_floss 19 = .ok (.ireturn, 1) := zd_at zhX8_floss_0 9 rfl
theorem dX8_floss_20 : decode cX8_floss 20 = .ok (.aload_n 0, 1) := zd_at zhX8_floss_0 10 rfl
theorem dX8_floss_21 : decode cX8_floss 21 = .ok (.getfield 51, 3) := zd_at zhX8_floss_0 11 rfl
theorem dX8_floss_24 : decode cX8_floss 24 = .ok (.getfield 99, 3) := zd_at zhX8_floss_0 12 rfl
theorem dX8_floss_27 : decode cX8_floss 27 = .ok (.iload_n 1, 1) := zd_at zhX8_floss_0 13 rfl
theorem dX8_floss_28 : decode cX8_floss 28 = .ok (.aaload, 1) := zd_at zhX8_floss_0 14 rfl
theorem dX8_floss_29 : decode cX8_floss 29 = .ok (.iload_n 2, 1) := zd_at zhX8_floss_0 15 rfl
theorem dX8_floss_30 : decode cX8_floss 30 = .ok (.invokevirtual 153, 3) := zd_at zhX8_floss_0 16 rfl
theorem dX8_floss_33 : decode cX8_floss 33 = .ok (.ireturn, 1) := zd_at zhX8_floss_0 17 rfl
def ziX8_kiss_0 : List (Nat × Instr × Nat) := [(0, .aload_n 0, 1), (1, .iload_n 1, 1), (2, .invokevirtual 91, 3), (5, .ifCond .eq 16, 3), (8, .aload_n 0, 1), (9, .iload_n 2, 1), (10, .invokevirtual 91, 3), (13, .ifCond .eq 8, 3), (16, .iload_n 1, 1), (17, .iload_n 2, 1), (18, .if_icmp .ne 6, 3), (21, .bipush (-2), 2), (23, .ireturn, 1), (24, .aload_n 0, 1), (25, .getfield 51, 3), (28, .iload_n 1, 1), (29, .iload_n 2, 1), (30, .invokevirtual 156, 3), (33, .ireturn, 1)]
theorem zhX8_kiss_0 : zd_chk (cX8_kiss.data.toList.drop 0) 0 ziX8_kiss_0 = true := by decide +kernel
theorem dX8_kiss_0 : decode cX8_kiss 0 = .ok (.aload_n 0, 1) := zd_at zhX8_kiss_0 0 rfl
theorem dX8_kiss_1 : decode cX8_kiss 1 = .ok (.iload_n 1, 1) := zd_at zhX8_kiss_0 1 rfl
theorem dX8_kiss_2 : decode cX8_kiss 2 = .ok (.invokevirtual 91, 3) := zd_at zhX8_kiss_0 2 rfl
theorem dX8_kiss_5 : decode cX8_kiss 5 = .ok (.ifCond .eq 16, 3) := zd_at zhX8_kiss_0 3 rfl
theorem dX8_kiss_8 : decode cX8_kiss 8 = .ok (.aload_n 0, 1) := zd_at zhX8_kiss_0 4 rfl
theorem dX8_kiss_9 : decode cX8_kiss 9 = .ok (.iload_n 2, 1) := zd_at zhX8_kiss_0 5 rfl
theorem dX8_kiss_10 : decode cX8_kiss 10 = .ok (.invokevirtual 91, 3) := zd_at zhX8_kiss_0 6 rfl
theorem dX8_kiss_13 : decode cX8_kiss 13 = .ok (.ifCond .eq 8, 3) := zd_at zhX8_kiss_0 7 rfl
theorem dX8_kiss_16 : decode cX8_kiss 16 = .ok (.iload_n 1, 1) := zd_at zhX8_kiss_0 8 rfl
theorem dX8_kiss_17 : decode cX8_kiss 17 = .ok (.iload_n 2, 1) := zd_at zhX8_kiss_0 9 rfl
theorem dX8_kiss_18 : decode cX8_kiss 18 = .ok (.if_icmp .ne 6, 3) := zd_at zhX8_kiss_0 10 rfl
theorem dX8_kiss_21 : decode cX8_kiss 21 = .ok (.bipush (-2), 2) := zd_at zhX8_kiss_0 11 rfl
theorem dX8_kiss_23 : decode cX8_kiss 23 = .ok (.ireturn, 1) := zd_at zhX8_kiss_0 12 rfl
theorem dX8_kiss_24 : decode cX8_kiss 24 = .ok (.aload_n 0, 1) := zd_at zhX8_kiss_0 13 rfl
theorem dX8_kiss_25 : decode cX8_kiss 25 = .ok (.getfield 51, 3) := zd_at zhX8_kiss_0 14 rfl
theorem dX8_kiss_28 : decode cX8_kiss 28 = .ok (.iload_n 1, 1) := zd_at zhX8_kiss_0 15 rfl
theorem dX8_kiss_29 : decode cX8_kiss 29 = .ok (.iload_n 2, 1) := zd_at zhX8_kiss_0 16 rfl
theorem dX8_kiss_30 : decode cX8_kiss 30 = .ok (.invokevirtual 156, 3) := zd_at zhX8_kiss_0 17 rfl
theorem dX8_kiss_33 : decode cX8_kiss 33 = .ok (.ireturn, 1) := zd_at zhX8_kiss_0 18 rfl
def ziX8_live_0 : List (Nat × Instr × Nat) := [(0, .aload_n 0, 1), (1, .getfield 51, 3), (4, .getfield 108, 3), (7, .sipush 999, 3), (10, .if_icmp .lt 6, 3), (13, .bipush (-3), 2), (15, .ireturn, 1), (16, .aload_n 0, 1), (17, .getfield 51, 3), (20, .aload_n 0, 1), (21, .getfield 42, 3), (24, .invokevirtual 159, 3), (27, .ireturn, 1)]
theorem zhX8_live_0 : zd_chk (cX8_live.data.toList.drop 0) 0 ziX8_live_0 = true := by decide +kernel
theorem dX8_live_0 : decode cX8_live 0 = .ok (.aload_n 0, 1) := zd_at zhX8_live_0 0 rfl
theorem dX8_live_1 : decode cX8_live 1 = .ok (.getfield 51, 3) := zd_at zhX8_live_0 1 rfl
theorem dX8_live_4 : decode cX8_live 4 = .ok (.getfield 108, 3) := zd_at zhX8_live_0 2 rfl
theorem dX8_live_7 : decode cX8_live 7 = .ok (.sipush 999, 3) := zd_at zhX8_live_0 3 rfl
theorem dX8_live_10 : decode cX8_live 10 = .ok (.if_icmp .lt 6, 3) := zd_at zhX8_live_0 4 rfl
theorem dX8_live_13 : decode cX8_live 13 = .ok (.bipush (-3), 2) := zd_at zhX8_live_0 5 rfl
theorem dX8_live_15 : decode cX8_live 15 = .ok (.ireturn, 1) := zd_at zhX8_live_0 6 rfl
theorem dX8_live_16 : decode cX8_live 16 = .ok (.aload_n 0, 1) := zd_at zhX8_live_0 7 rfl
theorem dX8_live_17 : decode cX8_live 17 = .ok (.getfield 51, 3) := zd_at zhX8_live_0 8 rfl
theorem dX8_live_20 : decode cX8_live 20 = .ok (.aload_n 0, 1) := zd_at zhX8_live_0 9 rfl
theorem dX8_live_21 : decode cX8_live 21 = .ok (.getfield 42, 3) := zd_at zhX8_live_0 10 rfl
theorem dX8_live_24 : decode cX8_live 24 = .ok (.invokevirtual 159, 3) := zd_at zhX8_live_0 11 rfl
theorem dX8_live_27 : decode cX8_live 27 = .ok (.ireturn, 1) := zd_at zhX8_live_0 12 rfl
def ziX8_run_0 : List (Nat × Instr × Nat) := [(0, .iload_n 1, 1), (1, .invokestatic 163, 3), (4, .ifCond .eq 11, 3), (7, .iload_n 2, 1), (8, .iconst 5, 1), (9, .invokestatic 95, 3), (12, .ifCond .ne 6, 3), (15, .bipush (-2), 2), (17, .ireturn, 1), (18, .aload_n 0, 1), (19, .getfield 24, 3), (22, .aload_n 0, 1), (23, .getfield 51, 3), (26, .aload_n 0, 1), (27, .getfield 42, 3), (30, .iload_n 1, 1), (31, .invokevirtual 166, 3), (34, .iload_n 2, 1), (35, .ifCond .ne 11, 3), (38, .aload_n 0, 1), (39, .getfield 24, 3), (42, .getfield 169, 3), (45, .ireturn, 1), (46, .iload_n 2, 1), (47, .iconst 1, 1), (48, .if_icmp .ne 11, 3), (51, .aload_n 0, 1), (52, .getfield 24, 3), (55, .getfield 172, 3), (58, .ireturn, 1), (59, .aload_n 0, 1), (60, .getfield 24, 3), (63, .getfield 175, 3), (66, .istore_n 3, 1), (67, .iload_n 3, 1), (68, .bipush 50, 2), (70, .invokestatic 95, 3), (73, .ifCond .ne 5, 3), (76, .iconst (-1), 1), (77, .ireturn, 1)]
theorem zhX8_run_0 : zd_chk (cX8_run.data.toList.drop 0) 0 ziX8_run_0 = true := by decide +kernel
theorem dX8_run_0 : decode cX8_run 0 = .ok (.iload_n 1, 1) := zd_at zhX8_run_0 0 rfl
theorem dX8_run_1 : decode cX8_run 1 = .ok (.invokestatic 163, 3) := zd_at zhX8_run_0 1 rfl
theorem dX8_run_4 : decode cX8_run 4 = .ok (.ifCond .eq 11, 3) := zd_at zhX8_run_0 2 rfl
theorem dX8_run_7 : decode cX8_run 7 = .ok (.iload_n 2, 1) := zd_at zhX8_run_0 3 rfl
theorem dX8_run_8 : decode cX8_run 8 = .ok (.iconst 5, 1) := zd_at zhX8_run_0 4 rfl
theorem dX8_run_9 : decode cX8_run 9 = .ok (.invokestatic 95, 3) := zd_at zhX8_run_0 5 rfl
theorem dX8_run_12 : decode cX8_run 12 = .ok (.ifCond .ne 6, 3) := zd_at zhX8_run_0 6 rfl
theorem dX8_run_15 : decode cX8_run 15 = .ok (.bipush (-2), 2) := zd_at zhX8_run_0 7 rfl
theorem dX8_run_17 : decode cX8_run 17 = .ok (.ireturn, 1) := zd_at zhX8_run_0 8 rfl
theorem dX8_run_18 : decode cX8_run 18 = .ok (.aload_n 0, 1) := zd_at zhX8_run_0 9 rfl
theorem dX8_run_19 : decode cX8_run 19 = .ok (.getfield 24, 3) := zd_at zhX8_run_0 10 rfl
theorem dX8_run_22 : decode cX8_run 22 = .ok (.aload_n 0, 1) := zd_at zhX8_run_0 11 rfl
theorem dX8_run_23 : decode cX8_run 23 = .ok (.getfield 51, 3) := zd_at zhX8_run_0 12 rfl
theorem dX8_run_26 : decode cX8_run 26 = .ok (.aload_n 0, 1) := zd_at zhX8_run_0 13 rfl
theorem dX8_run_27 : decode cX8_run 27 = .ok (.getfield 42, 3) := zd_at zhX8_run_0 14 rfl
theorem dX8_run_30 : decode cX8_run 30 = .ok (.iload_n 1, 1) := zd_at zhX8_run_0 15 rfl
theorem dX8_run_31 : decode cX8_run 31 = .ok (.invokevirtual 166, 3) := zd_at zhX8_run_0 16 rfl
theorem dX8_run_34 : decode cX8_run 34 = .ok (.iload_n 2, 1) := zd_at zhX8_run_0 17 rfl
theorem dX8_run_35 : decode cX8_run 35 = .ok (.ifCond .ne 11, 3) := zd_at zhX8_run_0 18 rfl
theorem dX8_run_38 : decode cX8_run 38 = .ok (.aload_n 0, 1) := zd_at zhX8_run_0 19 rfl
theorem dX8_run_39 : decode cX8_run 39 = .ok (.getfield 24, 3) := zd_at zhX8_run_0 20 rfl
theorem dX8_run_42 : decode cX8_run 42 = .ok (.getfield 169, 3) := zd_at zhX8_run_0 21 rfl
theorem dX8_run_45 : decode cX8_run 45 = .ok (.ireturn, 1) := zd_at zhX8_run_0 22 rfl
theorem dX8_run_46 : decode cX8_run 46 = .ok (.iload_n 2, 1) := zd_at zhX8_run_0 23 rfl
theorem dX8_run_47 : decode cX8_run 47 = .ok (.iconst 1, 1) := zd_at zhX8_run_0 24 rfl
theorem dX8_run_48 : decode cX8_run 48 = .ok (.if_icmp .ne 11, 3) := zd_at zhX8_run_0 25 rfl
theorem dX8_run_51 : decode cX8_run 51 = .ok (.aload_n 0, 1) := zd_at zhX8_run_0 26 rfl
theorem dX8_run_52 : decode cX8_run 52 = .ok (.getfield 24, 3) := zd_at zhX8_run_0 27 rfl
theorem dX8_run_55 : decode cX8_run 55 = .ok (.getfield 172, 3) := zd_at zhX8_run_0 28 rfl
theorem dX8_run_58 : decode cX8_run 58 = .ok (.ireturn, 1) := zd_at zhX8_run_0 29 rfl
theorem dX8_run_59 : decode cX8_run 59 = .ok (.aload_n 0, 1) := zd_at zhX8_run_0 30 rfl
theorem dX8_run_60 : decode cX8_run 60 = .ok (.getfield 24, 3) := zd_at zhX8_run_0 31 rfl
theorem dX8_run_63 : decode cX8_run 63 = .ok (.getfield 175, 3) := zd_at zhX8_run_0 32 rfl
theorem dX8_run_66 : decode cX8_run 66 = .ok (.istore_n 3, 1) := zd_at zhX8_run_0 33 rfl
theorem dX8_run_67 : decode cX8_run 67 = .ok (.iload_n 3, 1) := zd_at zhX8_run_0 34 rfl
theorem dX8_run_68 : decode cX8_run 68 = .ok (.bipush 50, 2) := zd_at zhX8_run_0 35 rfl
theorem dX8_run_70 : decode cX8_run 70 = .ok (.invokestatic 95, 3) := zd_at zhX8_run_0 36 rfl
theorem dX8_run_73 : decode cX8_run 73 = .ok (.ifCond .ne 5, 3) := zd_at zhX8_run_0 37 rfl
theorem dX8_run_76 : decode cX8_run 76 = .ok (.iconst (-1), 1) := zd_at zhX8_run_0 38 rfl
theorem dX8_run_77 : decode cX8_run 77 = .ok (.ireturn, 1) := zd_at zhX8_run_0 39 rfl
def ziX8_run_78 : List (Nat × Instr × Nat) := [(78, .iload_n 2, 1), (79, .iconst 2, 1), (80, .if_icmp .ne 24, 3), (83, .aload_n 0, 1), (84, .getfield 51, 3), (87, .getfield 99, 3), (90, .iload_n 3, 1), (91, .bipush 10, 2), (93, .idiv, 1), (94, .aaload, 1), (95, .getfield 132, 3), (98, .iload_n 3, 1), (99, .bipush 10, 2), (101, .irem, 1), (102, .iaload, 1), (103, .ireturn, 1), (104, .iload_n 2, 1), (105, .iconst 3, 1), (106, .if_icmp .ne 10, 3), (109, .iload_n 3, 1), (110, .bipush 10, 2), (112, .idiv, 1), (113, .goto 12, 3), (116, .aload_n 0, 1), (117, .getfield 24, 3), (120, .getfield 178, 3), (123, .iload_n 3, 1), (124, .iaload, 1), (125, .ireturn, 1)]
theorem zhX8_run_78 : zd_chk (cX8_run.data.toList.drop 78) 78 ziX8_run_78 = true := by decide +kernel
theorem dX8_run_78 : decode cX8_run 78 = .ok (.iload_n 2, 1) := zd_at zhX8_run_78 0 rfl
theorem dX8_run_79 : decode cX8_run 79 = .ok (.iconst 2, 1) := zd_at zhX8_run_78 1 rfl
theorem dX8_run_80 : decode cX8_run 80 = .ok (.if_icmp .ne 24, 3) := zd_at zhX8_run_78 2 rfl
theorem dX8_run_83 : decode cX8_run 83 = .ok (.aload_n 0, 1) := zd_at zhX8_run_78 3 rfl
theorem dX8_run_84 : decode cX8_run 84 = .ok (.getfield 51, 3) := zd_at zhX8_run_78 4 rfl
theorem dX8_run_87 : decode cX8_run 87 = .ok (.getfield 99, 3) := zd_at zhX8_run_78 5 rfl
theorem dX8_run_90 : decode cX8_run 90 = .ok (.iload_n 3, 1) := zd_at zhX8_run_78 6 rfl
theorem dX8_run_91 : decode cX8_run 91 = .ok (.bipush 10, 2) := zd_at zhX8_run_78 7 rfl
theorem dX8_run_93 : decode cX8_run 93 = .ok (.idiv, 1) := zd_at zhX8_run_78 8 rfl
theorem dX8_run_94 : decode cX8_run 94 = .ok (.aaload, 1) := zd_at zhX8_run_78 9 rfl
theorem dX8_run_95 : decode cX8_run 95 = .ok (.getfield 132, 3) := zd_at zhX8_run_78 10 rfl
theorem dX8_run_98 : decode cX8_run 98 = .ok (.iload_n 3, 1) := zd_at zhX8_run_78 11 rfl
theorem dX8_run_99 : decode cX8_run 99 = .ok (.bipush 10, 2) := zd_at zhX8_run_78 12 rfl
theorem dX8_run_101 : decode cX8_run 101 = .ok (.irem, 1) := zd_at zhX8_run_78 13 rfl
theorem dX8_run_102 : decode cX8_run 102 = .ok (.iaload, 1) := zd_at zhX8_run_78 14 rfl
theorem dX8_run_103 : decode cX8_run 103 = .ok (.ireturn, 1) := zd_at zhX8_run_78 15 rfl
theorem dX8_run_104 : decode cX8_run 104 = .ok (.iload_n 2, 1) := zd_at zhX8_run_78 16 rfl
theorem dX8_run_105 : decode cX8_run 105 = .ok (.iconst 3, 1) := zd_at zhX8_run_78 17 rfl
theorem dX8_run_106 : decode cX8_run 106 = .ok (.if_icmp .ne 10, 3) := zd_at zhX8_run_78 18 rfl
theorem dX8_run_109 : decode cX8_run 109 = .ok (.iload_n 3, 1) := zd_at zhX8_run_78 19 rfl
theorem dX8_run_110 : decode cX8_run 110 = .ok (.bipush 10, 2) := zd_at zhX8_run_78 20 rfl
theorem dX8_run_112 : decode cX8_run 112 = .ok (.idiv, 1) := zd_at zhX8_run_78 21 rfl
theorem dX8_run_113 : decode cX8_run 113 = .ok (.goto 12, 3) := zd_at zhX8_run_78 22 rfl
theorem dX8_run_116 : decode cX8_run 116 = .ok (.aload_n 0, 1) := zd_at zhX8_run_78 23 rfl
theorem dX8_run_117 : decode cX8_run 117 = .ok (.getfield 24, 3) := zd_at zhX8_run_78 24 rfl
theorem dX8_run_120 : decode cX8_run 120 = .ok (.getfield 178, 3) := zd_at zhX8_run_78 25 rfl
theorem dX8_run_123 : decode cX8_run 123 = .ok (.iload_n 3, 1) := zd_at zhX8_run_78 26 rfl
theorem dX8_run_124 : decode cX8_run 124 = .ok (.iaload, 1) := zd_at zhX8_run_78 27 rfl
theorem dX8_run_125 : decode cX8_run 125 = .ok (.ireturn, 1) := zd_at zhX8_run_78 28 rfl
def ziX8_off_0 : List (Nat × Instr × Nat) := [(0, .aload_n 0, 1), (1, .iload_n 1, 1), (2, .invokevirtual 91, 3), (5, .ifCond .eq 19, 3), (8, .iload_n 2, 1), (9, .bipush 10, 2), (11, .invokestatic 95, 3), (14, .ifCond .eq 10, 3), (17, .iload_n 3, 1), (18, .invokestatic 163, 3), (21, .ifCond .ne 6, 3), (24, .bipush (-2), 2), (26, .ireturn, 1), (27, .aload_n 0, 1), (28, .getfield 42, 3), (31, .aload_n 0, 1), (32, .getfield 51, 3), (35, .iload_n 1, 1), (36, .iload_n 2, 1), (37, .invokevirtual 139, 3), (40, .aload_n 0, 1), (41, .getfield 42, 3), (44, .iload_n 3, 1), (45, .invokevirtual 181, 3), (48, .ireturn, 1)]
theorem zhX8_off_0 : zd_chk (cX8_off.data.toList.drop 0) 0 ziX8_off_0 = true := by decide +kernel
theorem dX8_off_0 : decode cX8_off 0 = .ok (.aload_n 0, 1) := zd_at zhX8_off_0 0 rfl
theorem dX8_off_1 : decode cX8_off 1 = .ok (.iload_n 1, 1) := zd_at zhX8_off_0 1 rfl
theorem dX8_off_2 : decode cX8_off 2 = .ok (.invokevirtual 91, 3) := zd_at zhX8_off_0 2 rfl
theorem dX8_off_5 : decode cX8_off 5 = .ok (.ifCond .eq 19, 3) := zd_at zhX8_off_0 3 rfl
theorem dX8_off_8 : decode cX8_off 8 = .ok (.iload_n 2, 1) := zd_at zhX8_off_0 4 rfl
theorem dX8_off_9 : decode cX8_off 9 = .ok (.bipush 10, 2) := zd_at zhX8_off_0 5 rfl
theorem dX8_off_11 : decode cX8_off 11 = .ok (.invokestatic 95, 3) := zd_at zhX8_off_0 6 rfl
theorem dX8_off_14 : decode cX8_off 14 = .ok (.ifCond .eq 10, 3) := zd_at zhX8_off_0 7 rfl
theorem dX8_off_17 : decode cX8_off 17 = .ok (.iload_n 3, 1) := zd_at zhX8_off_0 8 rfl
theorem dX8_off_18 : decode cX8_off 18 = .ok (.invokestatic 163, 3) := zd_at zhX8_off_0 9 rfl
theorem dX8_off_21 : decode cX8_off 21 = .ok (.ifCond .ne 6, 3) := zd_at zhX8_off_0 10 rfl
theorem dX8_off_24 : decode cX8_off 24 = .ok (.bipush (-2), 2) := zd_at zhX8_off_0 11 rfl
theorem dX8_off_26 : decode cX8_off 26 = .ok (.ireturn, 1) := zd_at zhX8_off_0 12 rfl
theorem dX8_off_27 : decode cX8_off 27 = .ok (.aload_n 0, 1) := zd_at zhX8_off_0 13 rfl
theorem dX8_off_28 : decode cX8_off 28 = .ok (.getfield 42, 3) := zd_at zhX8_off_0 14 rfl
theorem dX8_off_31 : decode cX8_off 31 = .ok (.aload_n 0, 1) := zd_at zhX8_off_0 15 rfl
theorem dX8_off_32 : decode cX8_off 32 = .ok (.getfield 51, 3) := zd_at zhX8_off_0 16 rfl
theorem dX8_off_35 : decode cX8_off 35 = .ok (.iload_n 1, 1) := zd_at zhX8_off_0 17 rfl
theorem dX8_off_36 : decode cX8_off 36 = .ok (.iload_n 2, 1) := zd_at zhX8_off_0 18 rfl
theorem dX8_off_37 : decode cX8_off 37 = .ok (.invokevirtual 139, 3) := zd_at zhX8_off_0 19 rfl
theorem dX8_off_40 : decode cX8_off 40 = .ok (.aload_n 0, 1) := zd_at zhX8_off_0 20 rfl
theorem dX8_off_41 : decode cX8_off 41 = .ok (.getfield 42, 3) := zd_at zhX8_off_0 21 rfl
theorem dX8_off_44 : decode cX8_off 44 = .ok (.iload_n 3, 1) := zd_at zhX8_off_0 22 rfl
theorem dX8_off_45 : decode cX8_off 45 = .ok (.invokevirtual 181, 3) := zd_at zhX8_off_0 23 rfl
theorem dX8_off_48 : decode cX8_off 48 = .ok (.ireturn, 1) := zd_at zhX8_off_0 24 rfl
def ziX8_foods_0 : List (Nat × Instr × Nat) := [(0, .aload_n 0, 1), (1, .iload_n 1, 1), (2, .invokevirtual 91, 3), (5, .ifCond .eq 21, 3), (8, .iload_n 2, 1), (9, .bipush 16, 2), (11, .invokestatic 95, 3), (14, .ifCond .eq 12, 3), (17, .iload_n 3, 1), (18, .bipush 10, 2), (20, .invokestatic 95, 3), (23, .ifCond .ne 6, 3), (26, .bipush (-2), 2), (28, .ireturn, 1), (29, .aload_n 0, 1), (30, .getfield 51, 3), (33, .getfield 99, 3), (36, .iload_n 1, 1), (37, .aaload, 1), (38, .getfield 132, 3), (41, .iload_n 3, 1), (42, .iaload, 1), (43, .iconst (-1), 1), (44, .if_icmp .eq 5, 3), (47, .iconst 0, 1), (48, .ireturn, 1), (49, .iconst 0, 1), (50, .istore 4, 2), (52, .iconst 0, 1), (53, .istore 5, 2), (55, .iload 5, 2), (57, .bipush 10, 2), (59, .if_icmp .ge 33, 3), (62, .aload_n 0, 1), (63, .getfield 51, 3), (66, .iload_n 1, 1), (67, .iload_n 2, 1), (68, .iload 5, 2), (70, .invokevirtual 184, 3), (73, .iload_n 3, 1)]
theorem zhX8_foods_0 : zd_chk (cX8_foods.data.toList.drop 0) 0 ziX8_foods_0 = true := by decide +kernel
theorem dX8_foods_0 : decode cX8_foods 0 = .ok (.aload_n 0, 1) := zd_at zhX8_foods_0 0 rfl
theorem dX8_foods_1 : decode cX8_foods 1 = .ok (.iload_n 1, 1) := zd_at zhX8_foods_0 1 rfl
theorem dX8_foods_2 : decode cX8_foods 2 = .ok (.invokevirtual 91, 3) := zd_at zhX8_foods_0 2 rfl
theorem dX8_foods_5 : decode cX8_foods 5 = .ok (.ifCond .eq 21, 3) := zd_at zhX8_foods_0 3 rfl
theorem dX8_foods_8 : decode cX8_foods 8 = .ok (.iload_n 2, 1) := zd_at zhX8_foods_0 4 rfl
theorem dX8_foods_9 : decode cX8_foods 9 = .ok (.bipush 16, 2) := zd_at zhX8_foods_0 5 rfl
theorem dX8_foods_11 : decode cX8_foods 11 = .ok (.invokestatic 95, 3) := zd_at zhX8_foods_0 6 rfl
theorem dX8_foods_14 : decode cX8_foods 14 = .ok (.ifCond .eq 12, 3) := zd_at zhX8_foods_0 7 rfl
theorem dX8_foods_17 : decode cX8_foods 17 = .ok (.iload_n 3, 1) := zd_at zhX8_foods_0 8 rfl
theorem dX8_foods_18 : decode cX8_foods 18 = .ok (.bipush 10, 2) := zd_at zhX8_foods_0 9 rfl
theorem dX8_foods_20 : decode cX8_foods 20 = .ok (.invokestatic 95, 3) := zd_at zhX8_foods_0 10 rfl
theorem dX8_foods_23 : decode cX8_foods 23 = .ok (.ifCond .ne 6, 3) := zd_at zhX8_foods_0 11 rfl
theorem dX8_foods_26 : decode cX8_foods 26 = .ok (.bipush (-2), 2) := zd_at zhX8_foods_0 12 rfl
theorem dX8_foods_28 : decode cX8_foods 28 = .ok (.ireturn, 1) := zd_at zhX8_foods_0 13 rfl
theorem dX8_foods_29 : decode cX8_foods 29 = .ok (.aload_n 0, 1) := zd_at zhX8_foods_0 14 rfl
theorem dX8_foods_30 : decode cX8_foods 30 = .ok (.getfield 51, 3) := zd_at zhX8_foods_0 15 rfl
theorem dX8_foods_33 : decode cX8_foods 33 = .ok (.getfield 99, 3) := zd_at zhX8_foods_0 16 rfl
theorem dX8_foods_36 : decode cX8_foods 36 = .ok (.iload_n 1, 1) := zd_at zhX8_foods_0 17 rfl
theorem dX8_foods_37 : decode cX8_foods 37 = .ok (.aaload, 1) := zd_at zhX8_foods_0 18 rfl
theorem dX8_foods_38 : decode cX8_foods 38 = .ok (.getfield 132, 3) := zd_at zhX8_foods_0 19 rfl
theorem dX8_foods_41 : decode cX8_foods 41 = .ok (.iload_n 3, 1) := zd_at zhX8_foods_0 20 rfl
theorem dX8_foods_42 : decode cX8_foods 42 = .ok (.iaload, 1) := zd_at zhX8_foods_0 21 rfl
theorem dX8_foods_43 : decode cX8_foods 43 = .ok (.iconst (-1), 1) := zd_at zhX8_foods_0 22 rfl
theorem dX8_foods_44 : decode cX8_foods 44 = .ok (.if_icmp .eq 5, 3) := zd_at zhX8_foods_0 23 rfl
theorem dX8_foods_47 : decode cX8_foods 47 = .ok (.iconst 0, 1) := zd_at zhX8_foods_0 24 rfl
theorem dX8_foods_48 : decode cX8_foods 48 = .ok (.ireturn, 1) := zd_at zhX8_foods_0 25 rfl
theorem dX8_foods_49 : decode cX8_foods 49 = .ok (.iconst 0, 1) := zd_at zhX8_foods_0 26 rfl
theorem dX8_foods_50 : decode cX8_foods 50 = .ok (.istore 4, 2) := zd_at zhX8_foods_0 27 rfl
theorem dX8_foods_52 : decode cX8_foods 52 = .ok (.iconst 0, 1) := zd_at zhX8_foods_0 28 rfl
theorem dX8_foods_53 : decode cX8_foods 53 = .ok (.istore 5, 2) := zd_at zhX8_foods_0 29 rfl
theorem dX8_foods_55 : decode cX8_foods 55 = .ok (.iload 5, 2) := zd_at zhX8_foods_0 30 rfl
theorem dX8_foods_57 : decode cX8_foods 57 = .ok (.bipush 10, 2) := zd_at zhX8_foods_0 31 rfl
theorem dX8_foods_59 : decode cX8_foods 59 = .ok (.if_icmp .ge 33, 3) := zd_at zhX8_foods_0 32 rfl
theorem dX8_foods_62 : decode cX8_foods 62 = .ok (.aload_n 0, 1) := zd_at zhX8_foods_0 33 rfl
theorem dX8_foods_63 : decode cX8_foods 63 = .ok (.getfield 51, 3) := zd_at zhX8_foods_0 34 rfl
theorem dX8_foods_66 : decode cX8_foods 66 = .ok (.iload_n 1, 1) := zd_at zhX8_foods_0 35 rfl
theorem dX8_foods_67 : decode cX8_foods 67 = .ok (.iload_n 2, 1) := zd_at zhX8_foods_0 36 rfl
theorem dX8_foods_68 : decode cX8_foods 68 = .ok (.iload 5, 2) := zd_at zhX8_foods_0 37 rfl
theorem dX8_foods_70 : decode cX8_foods 70 = .ok (.invokevirtual 184, 3) := zd_at zhX8_foods_0 38 rfl
theorem dX8_foods_73 : decode cX8_foods 73 = .ok (.iload_n 3, 1) := zd_at zhX8_foods_0 39 rfl
def ziX8_foods_74 : List (Nat × Instr × Nat) := [(74, .if_icmp .ne 12, 3), (77, .iload 4, 2), (79, .iconst 1, 1), (80, .iload 5, 2), (82, .ishl, 1), (83, .ior, 1), (84, .istore 4, 2), (86, .iinc 5 1, 3), (89, .goto (-34), 3), (92, .iload 4, 2), (94, .ireturn, 1)]
theorem zhX8_foods_74 : zd_chk (cX8_foods.data.toList.drop 74) 74 ziX8_foods_74 = true := by decide +kernel
theorem dX8_foods_74 : decode cX8_foods 74 = .ok (.if_icmp .ne 12, 3) := zd_at zhX8_foods_74 0 rfl
theorem dX8_foods_77 : decode cX8_foods 77 = .ok (.iload 4, 2) := zd_at zhX8_foods_74 1 rfl
theorem dX8_foods_79 : decode cX8_foods 79 = .ok (.iconst 1, 1) := zd_at zhX8_foods_74 2 rfl
theorem dX8_foods_80 : decode cX8_foods 80 = .ok (.iload 5, 2) := zd_at zhX8_foods_74 3 rfl
theorem dX8_foods_82 : decode cX8_foods 82 = .ok (.ishl, 1) := zd_at zhX8_foods_74 4 rfl
theorem dX8_foods_83 : decode cX8_foods 83 = .ok (.ior, 1) := zd_at zhX8_foods_74 5 rfl
theorem dX8_foods_84 : decode cX8_foods 84 = .ok (.istore 4, 2) := zd_at zhX8_foods_74 6 rfl
theorem dX8_foods_86 : decode cX8_foods 86 = .ok (.iinc 5 1, 3) := zd_at zhX8_foods_74 7 rfl
theorem dX8_foods_89 : decode cX8_foods 89 = .ok (.goto (-34), 3) := zd_at zhX8_foods_74 8 rfl
theorem dX8_foods_92 : decode cX8_foods 92 = .ok (.iload 4, 2) := zd_at zhX8_foods_74 9 rfl
theorem dX8_foods_94 : decode cX8_foods 94 = .ok (.ireturn, 1) := zd_at zhX8_foods_74 10 rfl
def ziX8_best_0 : List (Nat × Instr × Nat) := [(0, .iload_n 1, 1), (1, .invokestatic 163, 3), (4, .ifCond .eq 11, 3), (7, .iload_n 2, 1), (8, .iconst 2, 1), (9, .invokestatic 95, 3), (12, .ifCond .ne 6, 3), (15, .bipush (-2), 2), (17, .ireturn, 1), (18, .aload_n 0, 1), (19, .getfield 24, 3), (22, .aload_n 0, 1), (23, .getfield 51, 3), (26, .aload_n 0, 1), (27, .getfield 42, 3), (30, .iload_n 1, 1), (31, .invokevirtual 166, 3), (34, .aload_n 0, 1), (35, .getfield 24, 3), (38, .invokevirtual 187, 3), (41, .istore_n 3, 1), (42, .iload_n 2, 1), (43, .ifCond .ne 5, 3), (46, .iload_n 3, 1), (47, .ireturn, 1), (48, .iload_n 3, 1), (49, .iconst (-1), 1), (50, .if_icmp .ne 13, 3), (53, .aload_n 0, 1), (54, .getfield 24, 3), (57, .getfield 169, 3), (60, .goto 20, 3), (63, .aload_n 0, 1), (64, .getfield 24, 3), (67, .getfield 169, 3), (70, .aload_n 0, 1), (71, .getfield 24, 3), (74, .getfield 190, 3), (77, .iload_n 3, 1), (78, .iaload, 1)]
theorem zhX8_best_0 : zd_chk (cX8_best.data.toList.drop 0) 0 ziX8_best_0 = true := by decide +kernel
theorem dX8_best_0 : decode cX8_best 0 = .ok (.iload_n 1, 1) := zd_at zhX8_best_0 0 rfl
theorem dX8_best_1 : decode cX8_best 1 = .ok (.invokestatic 163, 3) := zd_at zhX8_best_0 1 rfl
theorem dX8_best_4 : decode cX8_best 4 = .ok (.ifCond .eq 11, 3) := zd_at zhX8_best_0 2 rfl
theorem dX8_best_7 : decode cX8_best 7 = .ok (.iload_n 2, 1) := zd_at zhX8_best_0 3 rfl
theorem dX8_best_8 : decode cX8_best 8 = .ok (.iconst 2, 1) := zd_at zhX8_best_0 4 rfl
theorem dX8_best_9 : decode cX8_best 9 = .ok (.invokestatic 95, 3) := zd_at zhX8_best_0 5 rfl
theorem dX8_best_12 : decode cX8_best 12 = .ok (.ifCond .ne 6, 3) := zd_at zhX8_best_0 6 rfl
theorem dX8_best_15 : decode cX8_best 15 = .ok (.bipush (-2), 2) := zd_at zhX8_best_0 7 rfl
theorem dX8_best_17 : decode cX8_best 17 = .ok (.ireturn, 1) := zd_at zhX8_best_0 8 rfl
theorem dX8_best_18 : decode cX8_best 18 = .ok (.aload_n 0, 1) := zd_at zhX8_best_0 9 rfl
theorem dX8_best_19 : decode cX8_best 19 = .ok (.getfield 24, 3) := zd_at zhX8_best_0 10 rfl
theorem dX8_best_22 : decode cX8_best 22 = .ok (.aload_n 0, 1) := zd_at zhX8_best_0 11 rfl
theorem dX8_best_23 : decode cX8_best 23 = .ok (.getfield 51, 3) := zd_at zhX8_best_0 12 rfl
theorem dX8_best_26 : decode cX8_best 26 = .ok (.aload_n 0, 1) := zd_at zhX8_best_0 13 rfl
theorem dX8_best_27 : decode cX8_best 27 = .ok (.getfield 42, 3) := zd_at zhX8_best_0 14 rfl
theorem dX8_best_30 : decode cX8_best 30 = .ok (.iload_n 1, 1) := zd_at zhX8_best_0 15 rfl
theorem dX8_best_31 : decode cX8_best 31 = .ok (.invokevirtual 166, 3) := zd_at zhX8_best_0 16 rfl
theorem dX8_best_34 : decode cX8_best 34 = .ok (.aload_n 0, 1) := zd_at zhX8_best_0 17 rfl
theorem dX8_best_35 : decode cX8_best 35 = .ok (.getfield 24, 3) := zd_at zhX8_best_0 18 rfl
theorem dX8_best_38 : decode cX8_best 38 = .ok (.invokevirtual 187, 3) := zd_at zhX8_best_0 19 rfl
theorem dX8_best_41 : decode cX8_best 41 = .ok (.istore_n 3, 1) := zd_at zhX8_best_0 20 rfl
theorem dX8_best_42 : decode cX8_best 42 = .ok (.iload_n 2, 1) := zd_at zhX8_best_0 21 rfl
theorem dX8_best_43 : decode cX8_best 43 = .ok (.ifCond .ne 5, 3) := zd_at zhX8_best_0 22 rfl
theorem dX8_best_46 : decode cX8_best 46 = .ok (.iload_n 3, 1) := zd_at zhX8_best_0 23 rfl
theorem dX8_best_47 : decode cX8_best 47 = .ok (.ireturn, 1) := zd_at zhX8_best_0 24 rfl
theorem dX8_best_48 : decode cX8_best 48 = .ok (.iload_n 3, 1) := zd_at zhX8_best_0 25 rfl
theorem dX8_best_49 : decode cX8_best 49 = .ok (.iconst (-1), 1) := zd_at zhX8_best_0 26 rfl
theorem dX8_best_50 : decode cX8_best 50 = .ok (.if_icmp .ne 13, 3) := zd_at zhX8_best_0 27 rfl
theorem dX8_best_53 : decode cX8_best 53 = .ok (.aload_n 0, 1) := zd_at zhX8_best_0 28 rfl
theorem dX8_best_54 : decode cX8_best 54 = .ok (.getfield 24, 3) := zd_at zhX8_best_0 29 rfl
theorem dX8_best_57 : decode cX8_best 57 = .ok (.getfield 169, 3) := zd_at zhX8_best_0 30 rfl
theorem dX8_best_60 : decode cX8_best 60 = .ok (.goto 20, 3) := zd_at zhX8_best_0 31 rfl
theorem dX8_best_63 : decode cX8_best 63 = .ok (.aload_n 0, 1) := zd_at zhX8_best_0 32 rfl
theorem dX8_best_64 : decode cX8_best 64 = .ok (.getfield 24, 3) := zd_at zhX8_best_0 33 rfl
theorem dX8_best_67 : decode cX8_best 67 = .ok (.getfield 169, 3) := zd_at zhX8_best_0 34 rfl
theorem dX8_best_70 : decode cX8_best 70 = .ok (.aload_n 0, 1) := zd_at zhX8_best_0 35 rfl
theorem dX8_best_71 : decode cX8_best 71 = .ok (.getfield 24, 3) := zd_at zhX8_best_0 36 rfl
theorem dX8_best_74 : decode cX8_best 74 = .ok (.getfield 190, 3) := zd_at zhX8_best_0 37 rfl
theorem dX8_best_77 : decode cX8_best 77 = .ok (.iload_n 3, 1) := zd_at zhX8_best_0 38 rfl
theorem dX8_best_78 : decode cX8_best 78 = .ok (.iaload, 1) := zd_at zhX8_best_0 39 rfl
def ziX8_best_79 : List (Nat × Instr × Nat) := [(79, .isub, 1), (80, .ireturn, 1)]
theorem zhX8_best_79 : zd_chk (cX8_best.data.toList.drop 79) 79 ziX8_best_79 = true := by decide +kernel
theorem dX8_best_79 : decode cX8_best 79 = .ok (.isub, 1) := zd_at zhX8_best_79 0 rfl
theorem dX8_best_80 : decode cX8_best 80 = .ok (.ireturn, 1) := zd_at zhX8_best_79 1 rfl
def ziX8_few_0 : List (Nat × Instr × Nat) := [(0, .aload_n 0, 1), (1, .iload_n 1, 1), (2, .invokevirtual 91, 3), (5, .ifCond .eq 21, 3), (8, .iload_n 2, 1), (9, .invokestatic 163, 3), (12, .ifCond .eq 14, 3), (15, .iload_n 3, 1), (16, .ifCond .lt 10, 3), (19, .iload_n 3, 1), (20, .sipush 9999, 3), (23, .if_icmp .le 6, 3), (26, .bipush (-2), 2), (28, .ireturn, 1), (29, .aload_n 0, 1), (30, .getfield 24, 3), (33, .aload_n 0, 1), (34, .getfield 51, 3), (37, .aload_n 0, 1), (38, .getfield 42, 3), (41, .iload_n 2, 1), (42, .invokevirtual 166, 3), (45, .aload_n 0, 1), (46, .getfield 24, 3), (49, .iload_n 1, 1), (50, .iload_n 3, 1), (51, .invokevirtual 193, 3), (54, .ireturn, 1)]
theorem zhX8_few_0 : zd_chk (cX8_few.data.toList.drop 0) 0 ziX8_few_0 = true := by decide +kernel
theorem dX8_few_0 : decode cX8_few 0 = .ok (.aload_n 0, 1) := zd_at zhX8_few_0 0 rfl
theorem dX8_few_1 : decode cX8_few 1 = .ok (.iload_n 1, 1) := zd_at zhX8_few_0 1 rfl
theorem dX8_few_2 : decode cX8_few 2 = .ok (.invokevirtual 91, 3) := zd_at zhX8_few_0 2 rfl
theorem dX8_few_5 : decode cX8_few 5 = .ok (.ifCond .eq 21, 3) := zd_at zhX8_few_0 3 rfl
theorem dX8_few_8 : decode cX8_few 8 = .ok (.iload_n 2, 1) := zd_at zhX8_few_0 4 rfl
theorem dX8_few_9 : decode cX8_few 9 = .ok (.invokestatic 163, 3) := zd_at zhX8_few_0 5 rfl
theorem dX8_few_12 : decode cX8_few 12 = .ok (.ifCond .eq 14, 3) := zd_at zhX8_few_0 6 rfl
theorem dX8_few_15 : decode cX8_few 15 = .ok (.iload_n 3, 1) := zd_at zhX8_few_0 7 rfl
theorem dX8_few_16 : decode cX8_few 16 = .ok (.ifCond .lt 10, 3) := zd_at zhX8_few_0 8 rfl
theorem dX8_few_19 : decode cX8_few 19 = .ok (.iload_n 3, 1) := zd_at zhX8_few_0 9 rfl
theorem dX8_few_20 : decode cX8_few 20 = .ok (.sipush 9999, 3) := zd_at zhX8_few_0 10 rfl
theorem dX8_few_23 : decode cX8_few 23 = .ok (.if_icmp .le 6, 3) := zd_at zhX8_few_0 11 rfl
theorem dX8_few_26 : decode cX8_few 26 = .ok (.bipush (-2), 2) := zd_at zhX8_few_0 12 rfl
theorem dX8_few_28 : decode cX8_few 28 = .ok (.ireturn, 1) := zd_at zhX8_few_0 13 rfl
theorem dX8_few_29 : decode cX8_few 29 = .ok (.aload_n 0, 1) := zd_at zhX8_few_0 14 rfl
theorem dX8_few_30 : decode cX8_few 30 = .ok (.getfield 24, 3) := zd_at zhX8_few_0 15 rfl
theorem dX8_few_33 : decode cX8_few 33 = .ok (.aload_n 0, 1) := zd_at zhX8_few_0 16 rfl
theorem dX8_few_34 : decode cX8_few 34 = .ok (.getfield 51, 3) := zd_at zhX8_few_0 17 rfl
theorem dX8_few_37 : decode cX8_few 37 = .ok (.aload_n 0, 1) := zd_at zhX8_few_0 18 rfl
theorem dX8_few_38 : decode cX8_few 38 = .ok (.getfield 42, 3) := zd_at zhX8_few_0 19 rfl
theorem dX8_few_41 : decode cX8_few 41 = .ok (.iload_n 2, 1) := zd_at zhX8_few_0 20 rfl
theorem dX8_few_42 : decode cX8_few 42 = .ok (.invokevirtual 166, 3) := zd_at zhX8_few_0 21 rfl
theorem dX8_few_45 : decode cX8_few 45 = .ok (.aload_n 0, 1) := zd_at zhX8_few_0 22 rfl
theorem dX8_few_46 : decode cX8_few 46 = .ok (.getfield 24, 3) := zd_at zhX8_few_0 23 rfl
theorem dX8_few_49 : decode cX8_few 49 = .ok (.iload_n 1, 1) := zd_at zhX8_few_0 24 rfl
theorem dX8_few_50 : decode cX8_few 50 = .ok (.iload_n 3, 1) := zd_at zhX8_few_0 25 rfl
theorem dX8_few_51 : decode cX8_few 51 = .ok (.invokevirtual 193, 3) := zd_at zhX8_few_0 26 rfl
theorem dX8_few_54 : decode cX8_few 54 = .ok (.ireturn, 1) := zd_at zhX8_few_0 27 rfl
def ziX8_kissing_0 : List (Nat × Instr × Nat) := [(0, .iload_n 1, 1), (1, .invokestatic 163, 3), (4, .ifCond .eq 11, 3), (7, .iload_n 2, 1), (8, .iconst 2, 1), (9, .invokestatic 95, 3), (12, .ifCond .ne 6, 3), (15, .bipush (-2), 2), (17, .ireturn, 1), (18, .aload_n 0, 1), (19, .getfield 24, 3), (22, .aload_n 0, 1), (23, .getfield 51, 3), (26, .aload_n 0, 1), (27, .getfield 42, 3), (30, .iload_n 1, 1), (31, .invokevirtual 166, 3), (34, .iconst (-1), 1), (35, .istore_n 3, 1), (36, .aload_n 0, 1), (37, .getfield 24, 3), (40, .getfield 169, 3), (43, .istore 4, 2), (45, .iconst 0, 1), (46, .istore 5, 2), (48, .iload 5, 2), (50, .aload_n 0, 1), (51, .getfield 51, 3), (54, .getfield 115, 3), (57, .if_icmp .ge 71, 3), (60, .iconst 0, 1), (61, .istore 6, 2), (63, .iload 6, 2), (65, .aload_n 0, 1), (66, .getfield 51, 3), (69, .getfield 115, 3), (72, .if_icmp .ge 50, 3), (75, .iload 5, 2), (77, .iload 6, 2), (79, .if_icmp .ne 6, 3)]
theorem zhX8_kissing_0 : zd_chk (cX8_kissing.data.toList.drop 0) 0 ziX8_kissing_0 = true := by decide +kernel
theorem dX8_kissing_0 : decode cX8_kissing 0 = .ok (.iload_n 1, 1) := zd_at zhX8_kissing_0 0 rfl
theorem dX8_kissing_1 : decode cX8_kissing 1 = .ok (.invokestatic 163, 3) := zd_at zhX8_kissing_0 1 rfl
theorem dX8_kissing_4 : decode cX8_kissing 4 = .ok (.ifCond .eq 11, 3) := zd_at zhX8_kissing_0 2 rfl
theorem dX8_kissing_7 : decode cX8_kissing 7 = .ok (.iload_n 2, 1) := zd_at zhX8_kissing_0 3 rfl
theorem dX8_kissing_8 : decode cX8_kissing 8 = .ok (.iconst 2, 1) := zd_at zhX8_kissing_0 4 rfl
theorem dX8_kissing_9 : decode cX8_kissing 9 = .ok (.invokestatic 95, 3) := zd_at zhX8_kissing_0 5 rfl
theorem dX8_kissing_12 : decode cX8_kissing 12 = .ok (.ifCond .ne 6, 3) := zd_at zhX8_kissing_0 6 rfl
theorem dX8_kissing_15 : decode cX8_kissing 15 = .ok (.bipush (-2), 2) := zd_at zhX8_kissing_0 7 rfl
theorem dX8_kissing_17 : decode cX8_kissing 17 = .ok (.ireturn, 1) := zd_at zhX8_kissing_0 8 rfl
theorem dX8_kissing_18 : decode cX8_kissing 18 = .ok (.aload_n 0, 1) := zd_at zhX8_kissing_0 9 rfl
theorem dX8_kissing_19 : decode cX8_kissing 19 = .ok (.getfield 24, 3) := zd_at zhX8_kissing_0 10 rfl
theorem dX8_kissing_22 : decode cX8_kissing 22 = .ok (.aload_n 0, 1) := zd_at zhX8_kissing_0 11 rfl
theorem dX8_kissing_23 : decode cX8_kissing 23 = .ok (.getfield 51, 3) := zd_at zhX8_kissing_0 12 rfl
theorem dX8_kissing_26 : decode cX8_kissing 26 = .ok (.aload_n 0, 1) := zd_at zhX8_kissing_0 13 rfl
theorem dX8_kissing_27 : decode cX8_kissing 27 = .ok (.getfield 42, 3) := zd_at zhX8_kissing_0 14 rfl
theorem dX8_kissing_30 : decode cX8_kissing 30 = .ok (.iload_n 1, 1) := zd_at zhX8_kissing_0 15 rfl
theorem dX8_kissing_31 : decode cX8_kissing 31 = .ok (.invokevirtual 166, 3) := zd_at zhX8_kissing_0 16 rfl
theorem dX8_kissing_34 : decode cX8_kissing 34 = .ok (.iconst (-1), 1) := zd_at zhX8_kissing_0 17 rfl
theorem dX8_kissing_35 : decode cX8_kissing 35 = .ok (.istore_n 3, 1) := zd_at zhX8_kissing_0 18 rfl
theorem dX8_kissing_36 : decode cX8_kissing 36 = .ok (.aload_n 0, 1) := zd_at zhX8_kissing_0 19 rfl
theorem dX8_kissing_37 : decode cX8_kissing 37 = .ok (.getfield 24, 3) := zd_at zhX8_kissing_0 20 rfl
theorem dX8_kissing_40 : decode cX8_kissing 40 = .ok (.getfield 169, 3) := zd_at zhX8_kissing_0 21 rfl
theorem dX8_kissing_43 : decode cX8_kissing 43 = .ok (.istore 4, 2) := zd_at zhX8_kissing_0 22 rfl
theorem dX8_kissing_45 : decode cX8_kissing 45 = .ok (.iconst 0, 1) := zd_at zhX8_kissing_0 23 rfl
theorem dX8_kissing_46 : decode cX8_kissing 46 = .ok (.istore 5, 2) := zd_at zhX8_kissing_0 24 rfl
theorem dX8_kissing_48 : decode cX8_kissing 48 = .ok (.iload 5, 2) := zd_at zhX8_kissing_0 25 rfl
theorem dX8_kissing_50 : decode cX8_kissing 50 = .ok (.aload_n 0, 1) := zd_at zhX8_kissing_0 26 rfl
theorem dX8_kissing_51 : decode cX8_kissing 51 = .ok (.getfield 51, 3) := zd_at zhX8_kissing_0 27 rfl
theorem dX8_kissing_54 : decode cX8_kissing 54 = .ok (.getfield 115, 3) := zd_at zhX8_kissing_0 28 rfl
theorem dX8_kissing_57 : decode cX8_kissing 57 = .ok (.if_icmp .ge 71, 3) := zd_at zhX8_kissing_0 29 rfl
theorem dX8_kissing_60 : decode cX8_kissing 60 = .ok (.iconst 0, 1) := zd_at zhX8_kissing_0 30 rfl
theorem dX8_kissing_61 : decode cX8_kissing 61 = .ok (.istore 6, 2) := zd_at zhX8_kissing_0 31 rfl
theorem dX8_kissing_63 : decode cX8_kissing 63 = .ok (.iload 6, 2) := zd_at zhX8_kissing_0 32 rfl
theorem dX8_kissing_65 : decode cX8_kissing 65 = .ok (.aload_n 0, 1) := zd_at zhX8_kissing_0 33 rfl
theorem dX8_kissing_66 : decode cX8_kissing 66 = .ok (.getfield 51, 3) := zd_at zhX8_kissing_0 34 rfl
theorem dX8_kissing_69 : decode cX8_kissing 69 = .ok (.getfield 115, 3) := zd_at zhX8_kissing_0 35 rfl
theorem dX8_kissing_72 : decode cX8_kissing 72 = .ok (.if_icmp .ge 50, 3) := zd_at zhX8_kissing_0 36 rfl
theorem dX8_kissing_75 : decode cX8_kissing 75 = .ok (.iload 5, 2) := zd_at zhX8_kissing_0 37 rfl
theorem dX8_kissing_77 : decode cX8_kissing 77 = .ok (.iload 6, 2) := zd_at zhX8_kissing_0 38 rfl
theorem dX8_kissing_79 : decode cX8_kissing 79 = .ok (.if_icmp .ne 6, 3) := zd_at zhX8_kissing_0 39 rfl
def ziX8_kissing_82 : List (Nat × Instr × Nat) := [(82, .goto 34, 3), (85, .aload_n 0, 1), (86, .iload 5, 2), (88, .iload 6, 2), (90, .iload_n 1, 1), (91, .invokevirtual 196, 3), (94, .istore 7, 2), (96, .iload 7, 2), (98, .iload 4, 2), (100, .if_icmp .ge 16, 3), (103, .iload 7, 2), (105, .istore 4, 2), (107, .iload 5, 2), (109, .bipush 10, 2), (111, .imul, 1), (112, .iload 6, 2), (114, .iadd, 1), (115, .istore_n 3, 1), (116, .iinc 6 1, 3), (119, .goto (-56), 3), (122, .iinc 5 1, 3), (125, .goto (-77), 3), (128, .iload_n 2, 1), (129, .ifCond .ne 7, 3), (132, .iload_n 3, 1), (133, .goto 5, 3), (136, .iload 4, 2), (138, .ireturn, 1)]
theorem zhX8_kissing_82 : zd_chk (cX8_kissing.data.toList.drop 82) 82 ziX8_kissing_82 = true := by decide +kernel
theorem dX8_kissing_82 : decode cX8_kissing 82 = .ok (.goto 34, 3) := zd_at zhX8_kissing_82 0 rfl
theorem dX8_kissing_85 : decode cX8_kissing 85 = .ok (.aload_n 0, 1) := zd_at zhX8_kissing_82 1 rfl
theorem dX8_kissing_86 : decode cX8_kissing 86 = .ok (.iload 5, 2) := zd_at zhX8_kissing_82 2 rfl
theorem dX8_kissing_88 : decode cX8_kissing 88 = .ok (.iload 6, 2) := zd_at zhX8_kissing_82 3 rfl
theorem dX8_kissing_90 : decode cX8_kissing 90 = .ok (.iload_n 1, 1) := zd_at zhX8_kissing_82 4 rfl
theorem dX8_kissing_91 : decode cX8_kissing 91 = .ok (.invokevirtual 196, 3) := zd_at zhX8_kissing_82 5 rfl
theorem dX8_kissing_94 : decode cX8_kissing 94 = .ok (.istore 7, 2) := zd_at zhX8_kissing_82 6 rfl
theorem dX8_kissing_96 : decode cX8_kissing 96 = .ok (.iload 7, 2) := zd_at zhX8_kissing_82 7 rfl
theorem dX8_kissing_98 : decode cX8_kissing 98 = .ok (.iload 4, 2) := zd_at zhX8_kissing_82 8 rfl
theorem dX8_kissing_100 : decode cX8_kissing 100 = .ok (.if_icmp .ge 16, 3) := zd_at zhX8_kissing_82 9 rfl
theorem dX8_kissing_103 : decode cX8_kissing 103 = .ok (.iload 7, 2) := zd_at zhX8_kissing_82 10 rfl
theorem dX8_kissing_105 : decode cX8_kissing 105 = .ok (.istore 4, 2) := zd_at zhX8_kissing_82 11 rfl
theorem dX8_kissing_107 : decode cX8_kissing 107 = .ok (.iload 5, 2) := zd_at zhX8_kissing_82 12 rfl
theorem dX8_kissing_109 : decode cX8_kissing 109 = .ok (.bipush 10, 2) := zd_at zhX8_kissing_82 13 rfl
theorem dX8_kissing_111 : decode cX8_kissing 111 = .ok (.imul, 1) := zd_at zhX8_kissing_82 14 rfl
theorem dX8_kissing_112 : decode cX8_kissing 112 = .ok (.iload 6, 2) := zd_at zhX8_kissing_82 15 rfl
theorem dX8_kissing_114 : decode cX8_kissing 114 = .ok (.iadd, 1) := zd_at zhX8_kissing_82 16 rfl
theorem dX8_kissing_115 : decode cX8_kissing 115 = .ok (.istore_n 3, 1) := zd_at zhX8_kissing_82 17 rfl
theorem dX8_kissing_116 : decode cX8_kissing 116 = .ok (.iinc 6 1, 3) := zd_at zhX8_kissing_82 18 rfl
theorem dX8_kissing_119 : decode cX8_kissing 119 = .ok (.goto (-56), 3) := zd_at zhX8_kissing_82 19 rfl
theorem dX8_kissing_122 : decode cX8_kissing 122 = .ok (.iinc 5 1, 3) := zd_at zhX8_kissing_82 20 rfl
theorem dX8_kissing_125 : decode cX8_kissing 125 = .ok (.goto (-77), 3) := zd_at zhX8_kissing_82 21 rfl
theorem dX8_kissing_128 : decode cX8_kissing 128 = .ok (.iload_n 2, 1) := zd_at zhX8_kissing_82 22 rfl
theorem dX8_kissing_129 : decode cX8_kissing 129 = .ok (.ifCond .ne 7, 3) := zd_at zhX8_kissing_82 23 rfl
theorem dX8_kissing_132 : decode cX8_kissing 132 = .ok (.iload_n 3, 1) := zd_at zhX8_kissing_82 24 rfl
theorem dX8_kissing_133 : decode cX8_kissing 133 = .ok (.goto 5, 3) := zd_at zhX8_kissing_82 25 rfl
theorem dX8_kissing_136 : decode cX8_kissing 136 = .ok (.iload 4, 2) := zd_at zhX8_kissing_82 26 rfl
theorem dX8_kissing_138 : decode cX8_kissing 138 = .ok (.ireturn, 1) := zd_at zhX8_kissing_82 27 rfl
def ziX8_shameAfterKiss_0 : List (Nat × Instr × Nat) := [(0, .aload_n 0, 1), (1, .getfield 24, 3), (4, .getfield 169, 3), (7, .istore 4, 2), (9, .iconst 0, 1), (10, .istore 5, 2), (12, .iload 5, 2), (14, .bipush 10, 2), (16, .if_icmp .ge 146, 3), (19, .aload_n 0, 1), (20, .getfield 51, 3), (23, .getfield 99, 3), (26, .iload_n 1, 1), (27, .aaload, 1), (28, .getfield 132, 3), (31, .iload 5, 2), (33, .iaload, 1), (34, .istore 6, 2), (36, .iload 6, 2), (38, .iconst (-1), 1), (39, .if_icmp .eq 117, 3), (42, .aload_n 0, 1), (43, .getfield 51, 3), (46, .getfield 99, 3), (49, .iload_n 2, 1), (50, .aaload, 1), (51, .getfield 132, 3), (54, .iload 5, 2), (56, .iaload, 1), (57, .iconst (-1), 1), (58, .if_icmp .eq 6, 3), (61, .goto 95, 3), (64, .aload_n 0, 1), (65, .getfield 42, 3), (68, .aload_n 0, 1), (69, .getfield 51, 3), (72, .iload_n 2, 1), (73, .iload 5, 2), (75, .invokevirtual 139, 3), (78, .aload_n 0, 1)]
theorem zhX8_shameAfterKiss_0 : zd_chk (cX8_shameAfterKiss.data.toList.drop 0) 0 ziX8_shameAfterKiss_0 = true := by decide +kernel
theorem dX8_shameAfterKiss_0 : decode cX8_shameAfterKiss 0 = .ok (.aload_n 0, 1) := zd_at zhX8_shameAfterKiss_0 0 rfl
theorem dX8_shameAfterKiss_1 : decode cX8_shameAfterKiss 1 = .ok (.getfield 24, 3) := zd_at zhX8_shameAfterKiss_0 1 rfl
theorem dX8_shameAfterKiss_4 : decode cX8_shameAfterKiss 4 = .ok (.getfield 169, 3) := zd_at zhX8_shameAfterKiss_0 2 rfl
theorem dX8_shameAfterKiss_7 : decode cX8_shameAfterKiss 7 = .ok (.istore 4, 2) := zd_at zhX8_shameAfterKiss_0 3 rfl
theorem dX8_shameAfterKiss_9 : decode cX8_shameAfterKiss 9 = .ok (.iconst 0, 1) := zd_at zhX8_shameAfterKiss_0 4 rfl
theorem dX8_shameAfterKiss_10 : decode cX8_shameAfterKiss 10 = .ok (.istore 5, 2) := zd_at zhX8_shameAfterKiss_0 5 rfl
theorem dX8_shameAfterKiss_12 : decode cX8_shameAfterKiss 12 = .ok (.iload 5, 2) := zd_at zhX8_shameAfterKiss_0 6 rfl
theorem dX8_shameAfterKiss_14 : decode cX8_shameAfterKiss 14 = .ok (.bipush 10, 2) := zd_at zhX8_shameAfterKiss_0 7 rfl
theorem dX8_shameAfterKiss_16 : decode cX8_shameAfterKiss 16 = .ok (.if_icmp .ge 146, 3) := zd_at zhX8_shameAfterKiss_0 8 rfl
theorem dX8_shameAfterKiss_19 : decode cX8_shameAfterKiss 19 = .ok (.aload_n 0, 1) := zd_at zhX8_shameAfterKiss_0 9 rfl
theorem dX8_shameAfterKiss_20 : decode cX8_shameAfterKiss 20 = .ok (.getfield 51, 3) := zd_at zhX8_shameAfterKiss_0 10 rfl
theorem dX8_shameAfterKiss_23 : decode cX8_shameAfterKiss 23 = .ok (.getfield 99, 3) := zd_at zhX8_shameAfterKiss_0 11 rfl
theorem dX8_shameAfterKiss_26 : decode cX8_shameAfterKiss 26 = .ok (.iload_n 1, 1) := zd_at zhX8_shameAfterKiss_0 12 rfl
theorem dX8_shameAfterKiss_27 : decode cX8_shameAfterKiss 27 = .ok (.aaload, 1) := zd_at zhX8_shameAfterKiss_0 13 rfl
theorem dX8_shameAfterKiss_28 : decode cX8_shameAfterKiss 28 = .ok (.getfield 132, 3) := zd_at zhX8_shameAfterKiss_0 14 rfl
theorem dX8_shameAfterKiss_31 : decode cX8_shameAfterKiss 31 = .ok (.iload 5, 2) := zd_at zhX8_shameAfterKiss_0 15 rfl
theorem dX8_shameAfterKiss_33 : decode cX8_shameAfterKiss 33 = .ok (.iaload, 1) := zd_at zhX8_shameAfterKiss_0 16 rfl
theorem dX8_shameAfterKiss_34 : decode cX8_shameAfterKiss 34 = .ok (.istore 6, 2) := zd_at zhX8_shameAfterKiss_0 17 rfl
theorem dX8_shameAfterKiss_36 : decode cX8_shameAfterKiss 36 = .ok (.iload 6, 2) := zd_at zhX8_shameAfterKiss_0 18 rfl
theorem dX8_shameAfterKiss_38 : decode cX8_shameAfterKiss 38 = .ok (.iconst (-1), 1) := zd_at zhX8_shameAfterKiss_0 19 rfl
theorem dX8_shameAfterKiss_39 : decode cX8_shameAfterKiss 39 = .ok (.if_icmp .eq 117, 3) := zd_at zhX8_shameAfterKiss_0 20 rfl
theorem dX8_shameAfterKiss_42 : decode cX8_shameAfterKiss 42 = .ok (.aload_n 0, 1) := zd_at zhX8_shameAfterKiss_0 21 rfl
theorem dX8_shameAfterKiss_43 : decode cX8_shameAfterKiss 43 = .ok (.getfield 51, 3) := zd_at zhX8_shameAfterKiss_0 22 rfl
theorem dX8_shameAfterKiss_46 : decode cX8_shameAfterKiss 46 = .ok (.getfield 99, 3) := zd_at zhX8_shameAfterKiss_0 23 rfl
theorem dX8_shameAfterKiss_49 : decode cX8_shameAfterKiss 49 = .ok (.iload_n 2, 1) := zd_at zhX8_shameAfterKiss_0 24 rfl
theorem dX8_shameAfterKiss_50 : decode cX8_shameAfterKiss 50 = .ok (.aaload, 1) := zd_at zhX8_shameAfterKiss_0 25 rfl
theorem dX8_shameAfterKiss_51 : decode cX8_shameAfterKiss 51 = .ok (.getfield 132, 3) := zd_at zhX8_shameAfterKiss_0 26 rfl
theorem dX8_shameAfterKiss_54 : decode cX8_shameAfterKiss 54 = .ok (.iload 5, 2) := zd_at zhX8_shameAfterKiss_0 27 rfl
theorem dX8_shameAfterKiss_56 : decode cX8_shameAfterKiss 56 = .ok (.iaload, 1) := zd_at zhX8_shameAfterKiss_0 28 rfl
theorem dX8_shameAfterKiss_57 : decode cX8_shameAfterKiss 57 = .ok (.iconst (-1), 1) := zd_at zhX8_shameAfterKiss_0 29 rfl
theorem dX8_shameAfterKiss_58 : decode cX8_shameAfterKiss 58 = .ok (.if_icmp .eq 6, 3) := zd_at zhX8_shameAfterKiss_0 30 rfl
theorem dX8_shameAfterKiss_61 : decode cX8_shameAfterKiss 61 = .ok (.goto 95, 3) := zd_at zhX8_shameAfterKiss_0 31 rfl
theorem dX8_shameAfterKiss_64 : decode cX8_shameAfterKiss 64 = .ok (.aload_n 0, 1) := zd_at zhX8_shameAfterKiss_0 32 rfl
theorem dX8_shameAfterKiss_65 : decode cX8_shameAfterKiss 65 = .ok (.getfield 42, 3) := zd_at zhX8_shameAfterKiss_0 33 rfl
theorem dX8_shameAfterKiss_68 : decode cX8_shameAfterKiss 68 = .ok (.aload_n 0, 1) := zd_at zhX8_shameAfterKiss_0 34 rfl
theorem dX8_shameAfterKiss_69 : decode cX8_shameAfterKiss 69 = .ok (.getfield 51, 3) := zd_at zhX8_shameAfterKiss_0 35 rfl
theorem dX8_shameAfterKiss_72 : decode cX8_shameAfterKiss 72 = .ok (.iload_n 2, 1) := zd_at zhX8_shameAfterKiss_0 36 rfl
theorem dX8_shameAfterKiss_73 : decode cX8_shameAfterKiss 73 = .ok (.iload 5, 2) := zd_at zhX8_shameAfterKiss_0 37 rfl
theorem dX8_shameAfterKiss_75 : decode cX8_shameAfterKiss 75 = .ok (.invokevirtual 139, 3) := zd_at zhX8_shameAfterKiss_0 38 rfl
theorem dX8_shameAfterKiss_78 : decode cX8_shameAfterKiss 78 = .ok (.aload_n 0, 1) := zd_at zhX8_shameAfterKiss_0 39 rfl
def ziX8_shameAfterKiss_79 : List (Nat × Instr × Nat) := [(79, .getfield 42, 3), (82, .getfield 199, 3), (85, .iconst 0, 1), (86, .iload 6, 2), (88, .iastore, 1), (89, .aload_n 0, 1), (90, .getfield 42, 3), (93, .iconst 0, 1), (94, .putfield 202, 3), (97, .aload_n 0, 1), (98, .getfield 42, 3), (101, .iload_n 3, 1), (102, .invokevirtual 181, 3), (105, .istore 7, 2), (107, .iload 7, 2), (109, .iconst (-1), 1), (110, .if_icmp .eq 26, 3), (113, .iload 4, 2), (115, .aload_n 0, 1), (116, .getfield 42, 3), (119, .iload 7, 2), (121, .aload_n 0, 1), (122, .getfield 51, 3), (125, .iload 7, 2), (127, .invokevirtual 204, 3), (130, .invokevirtual 207, 3), (133, .iadd, 1), (134, .istore 4, 2), (136, .iload 4, 2), (138, .aload_n 0, 1), (139, .getfield 24, 3), (142, .getfield 190, 3), (145, .iload_n 1, 1), (146, .bipush 10, 2), (148, .imul, 1), (149, .iload 5, 2), (151, .iadd, 1), (152, .iaload, 1), (153, .isub, 1), (154, .istore 4, 2)]
theorem zhX8_shameAfterKiss_79 : zd_chk (cX8_shameAfterKiss.data.toList.drop 79) 79 ziX8_shameAfterKiss_79 = true := by decide +kernel
theorem dX8_shameAfterKiss_79 : decode cX8_shameAfterKiss 79 = .ok (.getfield 42, 3) := zd_at zhX8_shameAfterKiss_79 0 rfl
theorem dX8_shameAfterKiss_82 : decode cX8_shameAfterKiss 82 = .ok (.getfield 199, 3) := zd_at zhX8_shameAfterKiss_79 1 rfl
theorem dX8_shameAfterKiss_85 : decode cX8_shameAfterKiss 85 = .ok (.iconst 0, 1) := zd_at zhX8_shameAfterKiss_79 2 rfl
theorem dX8_shameAfterKiss_86 : decode cX8_shameAfterKiss 86 = .ok (.iload 6, 2) := zd_at zhX8_shameAfterKiss_79 3 rfl
theorem dX8_shameAfterKiss_88 : decode cX8_shameAfterKiss 88 = .ok (.iastore, 1) := zd_at zhX8_shameAfterKiss_79 4 rfl
theorem dX8_shameAfterKiss_89 : decode cX8_shameAfterKiss 89 = .ok (.aload_n 0, 1) := zd_at zhX8_shameAfterKiss_79 5 rfl
theorem dX8_shameAfterKiss_90 : decode cX8_shameAfterKiss 90 = .ok (.getfield 42, 3) := zd_at zhX8_shameAfterKiss_79 6 rfl
theorem dX8_shameAfterKiss_93 : decode cX8_shameAfterKiss 93 = .ok (.iconst 0, 1) := zd_at zhX8_shameAfterKiss_79 7 rfl
theorem dX8_shameAfterKiss_94 : decode cX8_shameAfterKiss 94 = .ok (.putfield 202, 3) := zd_at zhX8_shameAfterKiss_79 8 rfl
theorem dX8_shameAfterKiss_97 : decode cX8_shameAfterKiss 97 = .ok (.aload_n 0, 1) := zd_at zhX8_shameAfterKiss_79 9 rfl
theorem dX8_shameAfterKiss_98 : decode cX8_shameAfterKiss 98 = .ok (.getfield 42, 3) := zd_at zhX8_shameAfterKiss_79 10 rfl
theorem dX8_shameAfterKiss_101 : decode cX8_shameAfterKiss 101 = .ok (.iload_n 3, 1) := zd_at zhX8_shameAfterKiss_79 11 rfl
theorem dX8_shameAfterKiss_102 : decode cX8_shameAfterKiss 102 = .ok (.invokevirtual 181, 3) := zd_at zhX8_shameAfterKiss_79 12 rfl
theorem dX8_shameAfterKiss_105 : decode cX8_shameAfterKiss 105 = .ok (.istore 7, 2) := zd_at zhX8_shameAfterKiss_79 13 rfl
theorem dX8_shameAfterKiss_107 : decode cX8_shameAfterKiss 107 = .ok (.iload 7, 2) := zd_at zhX8_shameAfterKiss_79 14 rfl
theorem dX8_shameAfterKiss_109 : decode cX8_shameAfterKiss 109 = .ok (.iconst (-1), 1) := zd_at zhX8_shameAfterKiss_79 15 rfl
theorem dX8_shameAfterKiss_110 : decode cX8_shameAfterKiss 110 = .ok (.if_icmp .eq 26, 3) := zd_at zhX8_shameAfterKiss_79 16 rfl
theorem dX8_shameAfterKiss_113 : decode cX8_shameAfterKiss 113 = .ok (.iload 4, 2) := zd_at zhX8_shameAfterKiss_79 17 rfl
theorem dX8_shameAfterKiss_115 : decode cX8_shameAfterKiss 115 = .ok (.aload_n 0, 1) := zd_at zhX8_shameAfterKiss_79 18 rfl
theorem dX8_shameAfterKiss_116 : decode cX8_shameAfterKiss 116 = .ok (.getfield 42, 3) := zd_at zhX8_shameAfterKiss_79 19 rfl
theorem dX8_shameAfterKiss_119 : decode cX8_shameAfterKiss 119 = .ok (.iload 7, 2) := zd_at zhX8_shameAfterKiss_79 20 rfl
theorem dX8_shameAfterKiss_121 : decode cX8_shameAfterKiss 121 = .ok (.aload_n 0, 1) := zd_at zhX8_shameAfterKiss_79 21 rfl
theorem dX8_shameAfterKiss_122 : decode cX8_shameAfterKiss 122 = .ok (.getfield 51, 3) := zd_at zhX8_shameAfterKiss_79 22 rfl
theorem dX8_shameAfterKiss_125 : decode cX8_shameAfterKiss 125 = .ok (.iload 7, 2) := zd_at zhX8_shameAfterKiss_79 23 rfl
theorem dX8_shameAfterKiss_127 : decode cX8_shameAfterKiss 127 = .ok (.invokevirtual 204, 3) := zd_at zhX8_shameAfterKiss_79 24 rfl
theorem dX8_shameAfterKiss_130 : decode cX8_shameAfterKiss 130 = .ok (.invokevirtual 207, 3) := zd_at zhX8_shameAfterKiss_79 25 rfl
theorem dX8_shameAfterKiss_133 : decode cX8_shameAfterKiss 133 = .ok (.iadd, 1) := zd_at zhX8_shameAfterKiss_79 26 rfl
theorem dX8_shameAfterKiss_134 : decode cX8_shameAfterKiss 134 = .ok (.istore 4, 2) := zd_at zhX8_shameAfterKiss_79 27 rfl
theorem dX8_shameAfterKiss_136 : decode cX8_shameAfterKiss 136 = .ok (.iload 4, 2) := zd_at zhX8_shameAfterKiss_79 28 rfl
theorem dX8_shameAfterKiss_138 : decode cX8_shameAfterKiss 138 = .ok (.aload_n 0, 1) := zd_at zhX8_shameAfterKiss_79 29 rfl
theorem dX8_shameAfterKiss_139 : decode cX8_shameAfterKiss 139 = .ok (.getfield 24, 3) := zd_at zhX8_shameAfterKiss_79 30 rfl
theorem dX8_shameAfterKiss_142 : decode cX8_shameAfterKiss 142 = .ok (.getfield 190, 3) := zd_at zhX8_shameAfterKiss_79 31 rfl
theorem dX8_shameAfterKiss_145 : decode cX8_shameAfterKiss 145 = .ok (.iload_n 1, 1) := zd_at zhX8_shameAfterKiss_79 32 rfl
theorem dX8_shameAfterKiss_146 : decode cX8_shameAfterKiss 146 = .ok (.bipush 10, 2) := zd_at zhX8_shameAfterKiss_79 33 rfl
theorem dX8_shameAfterKiss_148 : decode cX8_shameAfterKiss 148 = .ok (.imul, 1) := zd_at zhX8_shameAfterKiss_79 34 rfl
theorem dX8_shameAfterKiss_149 : decode cX8_shameAfterKiss 149 = .ok (.iload 5, 2) := zd_at zhX8_shameAfterKiss_79 35 rfl
theorem dX8_shameAfterKiss_151 : decode cX8_shameAfterKiss 151 = .ok (.iadd, 1) := zd_at zhX8_shameAfterKiss_79 36 rfl
theorem dX8_shameAfterKiss_152 : decode cX8_shameAfterKiss 152 = .ok (.iaload, 1) := zd_at zhX8_shameAfterKiss_79 37 rfl
theorem dX8_shameAfterKiss_153 : decode cX8_shameAfterKiss 153 = .ok (.isub, 1) := zd_at zhX8_shameAfterKiss_79 38 rfl
theorem dX8_shameAfterKiss_154 : decode cX8_shameAfterKiss 154 = .ok (.istore 4, 2) := zd_at zhX8_shameAfterKiss_79 39 rfl
def ziX8_shameAfterKiss_156 : List (Nat × Instr × Nat) := [(156, .iinc 5 1, 3), (159, .goto (-147), 3), (162, .iload 4, 2), (164, .ireturn, 1)]
theorem zhX8_shameAfterKiss_156 : zd_chk (cX8_shameAfterKiss.data.toList.drop 156) 156 ziX8_shameAfterKiss_156 = true := by decide +kernel
theorem dX8_shameAfterKiss_156 : decode cX8_shameAfterKiss 156 = .ok (.iinc 5 1, 3) := zd_at zhX8_shameAfterKiss_156 0 rfl
theorem dX8_shameAfterKiss_159 : decode cX8_shameAfterKiss 159 = .ok (.goto (-147), 3) := zd_at zhX8_shameAfterKiss_156 1 rfl
theorem dX8_shameAfterKiss_162 : decode cX8_shameAfterKiss 162 = .ok (.iload 4, 2) := zd_at zhX8_shameAfterKiss_156 2 rfl
theorem dX8_shameAfterKiss_164 : decode cX8_shameAfterKiss 164 = .ok (.ireturn, 1) := zd_at zhX8_shameAfterKiss_156 3 rfl
def ziX8_church_0 : List (Nat × Instr × Nat) := [(0, .iload_n 1, 1), (1, .invokestatic 163, 3), (4, .ifCond .eq 11, 3), (7, .iload_n 2, 1), (8, .iconst 2, 1), (9, .invokestatic 95, 3), (12, .ifCond .ne 6, 3), (15, .bipush (-2), 2), (17, .ireturn, 1), (18, .aload_n 0, 1), (19, .getfield 24, 3), (22, .aload_n 0, 1), (23, .getfield 51, 3), (26, .aload_n 0, 1), (27, .getfield 42, 3), (30, .iload_n 1, 1), (31, .invokevirtual 166, 3), (34, .aload_n 0, 1), (35, .getfield 24, 3), (38, .aload_n 0, 1), (39, .getfield 51, 3), (42, .aload_n 0, 1), (43, .getfield 42, 3), (46, .invokevirtual 211, 3), (49, .iconst 0, 1), (50, .istore_n 3, 1), (51, .iconst 1, 1), (52, .istore 4, 2), (54, .iload 4, 2), (56, .bipush 24, 2), (58, .if_icmp .ge 34, 3), (61, .aload_n 0, 1), (62, .getfield 24, 3), (65, .getfield 215, 3), (68, .iload 4, 2), (70, .iaload, 1), (71, .aload_n 0, 1), (72, .getfield 24, 3), (75, .getfield 215, 3), (78, .iload_n 3, 1)]
theorem zhX8_church_0 : zd_chk (cX8_church.data.toList.drop 0) 0 ziX8_church_0 = true := by decide +kernel
theorem dX8_church_0 : decode cX8_church 0 = .ok (.iload_n 1, 1) := zd_at zhX8_church_0 0 rfl
theorem dX8_church_1 : decode cX8_church 1 = .ok (.invokestatic 163, 3) := zd_at zhX8_church_0 1 rfl
theorem dX8_church_4 : decode cX8_church 4 = .ok (.ifCond .eq 11, 3) := zd_at zhX8_church_0 2 rfl
theorem dX8_church_7 : decode cX8_church 7 = .ok (.iload_n 2, 1) := zd_at zhX8_church_0 3 rfl
theorem dX8_church_8 : decode cX8_church 8 = .ok (.iconst 2, 1) := zd_at zhX8_church_0 4 rfl
theorem dX8_church_9 : decode cX8_church 9 = .ok (.invokestatic 95, 3) := zd_at zhX8_church_0 5 rfl
theorem dX8_church_12 : decode cX8_church 12 = .ok (.ifCond .ne 6, 3) := zd_at zhX8_church_0 6 rfl
theorem dX8_church_15 : decode cX8_church 15 = .ok (.bipush (-2), 2) := zd_at zhX8_church_0 7 rfl
theorem dX8_church_17 : decode cX8_church 17 = .ok (.ireturn, 1) := zd_at zhX8_church_0 8 rfl
theorem dX8_church_18 : decode cX8_church 18 = .ok (.aload_n 0, 1) := zd_at zhX8_church_0 9 rfl
theorem dX8_church_19 : decode cX8_church 19 = .ok (.getfield 24, 3) := zd_at zhX8_church_0 10 rfl
theorem dX8_church_22 : decode cX8_church 22 = .ok (.aload_n 0, 1) := zd_at zhX8_church_0 11 rfl
theorem dX8_church_23 : decode cX8_church 23 = .ok (.getfield 51, 3) := zd_at zhX8_church_0 12 rfl
theorem dX8_church_26 : decode cX8_church 26 = .ok (.aload_n 0, 1) := zd_at zhX8_church_0 13 rfl
theorem dX8_church_27 : decode cX8_church 27 = .ok (.getfield 42, 3) := zd_at zhX8_church_0 14 rfl
theorem dX8_church_30 : decode cX8_church 30 = .ok (.iload_n 1, 1) := zd_at zhX8_church_0 15 rfl
theorem dX8_church_31 : decode cX8_church 31 = .ok (.invokevirtual 166, 3) := zd_at zhX8_church_0 16 rfl
theorem dX8_church_34 : decode cX8_church 34 = .ok (.aload_n 0, 1) := zd_at zhX8_church_0 17 rfl
theorem dX8_church_35 : decode cX8_church 35 = .ok (.getfield 24, 3) := zd_at zhX8_church_0 18 rfl
theorem dX8_church_38 : decode cX8_church 38 = .ok (.aload_n 0, 1) := zd_at zhX8_church_0 19 rfl
theorem dX8_church_39 : decode cX8_church 39 = .ok (.getfield 51, 3) := zd_at zhX8_church_0 20 rfl
theorem dX8_church_42 : decode cX8_church 42 = .ok (.aload_n 0, 1) := zd_at zhX8_church_0 21 rfl
theorem dX8_church_43 : decode cX8_church 43 = .ok (.getfield 42, 3) := zd_at zhX8_church_0 22 rfl
theorem dX8_church_46 : decode cX8_church 46 = .ok (.invokevirtual 211, 3) := zd_at zhX8_church_0 23 rfl
theorem dX8_church_49 : decode cX8_church 49 = .ok (.iconst 0, 1) := zd_at zhX8_church_0 24 rfl
theorem dX8_church_50 : decode cX8_church 50 = .ok (.istore_n 3, 1) := zd_at zhX8_church_0 25 rfl
theorem dX8_church_51 : decode cX8_church 51 = .ok (.iconst 1, 1) := zd_at zhX8_church_0 26 rfl
theorem dX8_church_52 : decode cX8_church 52 = .ok (.istore 4, 2) := zd_at zhX8_church_0 27 rfl
theorem dX8_church_54 : decode cX8_church 54 = .ok (.iload 4, 2) := zd_at zhX8_church_0 28 rfl
theorem dX8_church_56 : decode cX8_church 56 = .ok (.bipush 24, 2) := zd_at zhX8_church_0 29 rfl
theorem dX8_church_58 : decode cX8_church 58 = .ok (.if_icmp .ge 34, 3) := zd_at zhX8_church_0 30 rfl
theorem dX8_church_61 : decode cX8_church 61 = .ok (.aload_n 0, 1) := zd_at zhX8_church_0 31 rfl
theorem dX8_church_62 : decode cX8_church 62 = .ok (.getfield 24, 3) := zd_at zhX8_church_0 32 rfl
theorem dX8_church_65 : decode cX8_church 65 = .ok (.getfield 215, 3) := zd_at zhX8_church_0 33 rfl
theorem dX8_church_68 : decode cX8_church 68 = .ok (.iload 4, 2) := zd_at zhX8_church_0 34 rfl
theorem dX8_church_70 : decode cX8_church 70 = .ok (.iaload, 1) := zd_at zhX8_church_0 35 rfl
theorem dX8_church_71 : decode cX8_church 71 = .ok (.aload_n 0, 1) := zd_at zhX8_church_0 36 rfl
theorem dX8_church_72 : decode cX8_church 72 = .ok (.getfield 24, 3) := zd_at zhX8_church_0 37 rfl
theorem dX8_church_75 : decode cX8_church 75 = .ok (.getfield 215, 3) := zd_at zhX8_church_0 38 rfl
theorem dX8_church_78 : decode cX8_church 78 = .ok (.iload_n 3, 1) := zd_at zhX8_church_0 39 rfl
def ziX8_church_79 : List (Nat × Instr × Nat) := [(79, .iaload, 1), (80, .if_icmp .ge 6, 3), (83, .iload 4, 2), (85, .istore_n 3, 1), (86, .iinc 4 1, 3), (89, .goto (-35), 3), (92, .iload_n 2, 1), (93, .ifCond .ne 7, 3), (96, .iload_n 3, 1), (97, .goto 12, 3), (100, .aload_n 0, 1), (101, .getfield 24, 3), (104, .getfield 215, 3), (107, .iload_n 3, 1), (108, .iaload, 1), (109, .ireturn, 1)]
theorem zhX8_church_79 : zd_chk (cX8_church.data.toList.drop 79) 79 ziX8_church_79 = true := by decide +kernel
theorem dX8_church_79 : decode cX8_church 79 = .ok (.iaload, 1) := zd_at zhX8_church_79 0 rfl
theorem dX8_church_80 : decode cX8_church 80 = .ok (.if_icmp .ge 6, 3) := zd_at zhX8_church_79 1 rfl
theorem dX8_church_83 : decode cX8_church 83 = .ok (.iload 4, 2) := zd_at zhX8_church_79 2 rfl
theorem dX8_church_85 : decode cX8_church 85 = .ok (.istore_n 3, 1) := zd_at zhX8_church_79 3 rfl
theorem dX8_church_86 : decode cX8_church 86 = .ok (.iinc 4 1, 3) := zd_at zhX8_church_79 4 rfl
theorem dX8_church_89 : decode cX8_church 89 = .ok (.goto (-35), 3) := zd_at zhX8_church_79 5 rfl
theorem dX8_church_92 : decode cX8_church 92 = .ok (.iload_n 2, 1) := zd_at zhX8_church_79 6 rfl
theorem dX8_church_93 : decode cX8_church 93 = .ok (.ifCond .ne 7, 3) := zd_at zhX8_church_79 7 rfl
theorem dX8_church_96 : decode cX8_church 96 = .ok (.iload_n 3, 1) := zd_at zhX8_church_79 8 rfl
theorem dX8_church_97 : decode cX8_church 97 = .ok (.goto 12, 3) := zd_at zhX8_church_79 9 rfl
theorem dX8_church_100 : decode cX8_church 100 = .ok (.aload_n 0, 1) := zd_at zhX8_church_79 10 rfl
theorem dX8_church_101 : decode cX8_church 101 = .ok (.getfield 24, 3) := zd_at zhX8_church_79 11 rfl
theorem dX8_church_104 : decode cX8_church 104 = .ok (.getfield 215, 3) := zd_at zhX8_church_79 12 rfl
theorem dX8_church_107 : decode cX8_church 107 = .ok (.iload_n 3, 1) := zd_at zhX8_church_79 13 rfl
theorem dX8_church_108 : decode cX8_church 108 = .ok (.iaload, 1) := zd_at zhX8_church_79 14 rfl
theorem dX8_church_109 : decode cX8_church 109 = .ok (.ireturn, 1) := zd_at zhX8_church_79 15 rfl
def ziX8_plan_0 : List (Nat × Instr × Nat) := [(0, .iload_n 1, 1), (1, .iconst 4, 1), (2, .invokestatic 95, 3), (5, .ifCond .eq 11, 3), (8, .iload_n 2, 1), (9, .iconst 2, 1), (10, .invokestatic 95, 3), (13, .ifCond .ne 6, 3), (16, .bipush (-2), 2), (18, .ireturn, 1), (19, .aload_n 0, 1), (20, .getfield 17, 3), (23, .iload_n 1, 1), (24, .aaload, 1), (25, .astore_n 3, 1), (26, .aload_n 3, 1), (27, .invokevirtual 218, 3), (30, .ifCond .eq 6, 3), (33, .bipush (-11), 2), (35, .ireturn, 1), (36, .aload_n 0, 1), (37, .aload_n 3, 1), (38, .invokevirtual 222, 3), (41, .ifCond .ne 6, 3), (44, .bipush (-2), 2), (46, .ireturn, 1), (47, .aload_n 0, 1), (48, .getfield 55, 3), (51, .aload_n 0, 1), (52, .getfield 51, 3), (55, .invokevirtual 226, 3), (58, .aload_n 0, 1), (59, .getfield 55, 3), (62, .iconst 0, 1), (63, .putfield 230, 3), (66, .iconst 0, 1), (67, .istore 4, 2), (69, .iload 4, 2), (71, .iconst 4, 1), (72, .iadd, 1)]
theorem zhX8_plan_0 : zd_chk (cX8_plan.data.toList.drop 0) 0 ziX8_plan_0 = true := by decide +kernel
theorem dX8_plan_0 : decode cX8_plan 0 = .ok (.iload_n 1, 1) := zd_at zhX8_plan_0 0 rfl
theorem dX8_plan_1 : decode cX8_plan 1 = .ok (.iconst 4, 1) := zd_at zhX8_plan_0 1 rfl
theorem dX8_plan_2 : decode cX8_plan 2 = .ok (.invokestatic 95, 3) := zd_at zhX8_plan_0 2 rfl
theorem dX8_plan_5 : decode cX8_plan 5 = .ok (.ifCond .eq 11, 3) := zd_at zhX8_plan_0 3 rfl
theorem dX8_plan_8 : decode cX8_plan 8 = .ok (.iload_n 2, 1) := zd_at zhX8_plan_0 4 rfl
theorem dX8_plan_9 : decode cX8_plan 9 = .ok (.iconst 2, 1) := zd_at zhX8_plan_0 5 rfl
theorem dX8_plan_10 : decode cX8_plan 10 = .ok (.invokestatic 95, 3) := zd_at zhX8_plan_0 6 rfl
theorem dX8_plan_13 : decode cX8_plan 13 = .ok (.ifCond .ne 6, 3) := zd_at zhX8_plan_0 7 rfl
theorem dX8_plan_16 : decode cX8_plan 16 = .ok (.bipush (-2), 2) := zd_at zhX8_plan_0 8 rfl
theorem dX8_plan_18 : decode cX8_plan 18 = .ok (.ireturn, 1) := zd_at zhX8_plan_0 9 rfl
theorem dX8_plan_19 : decode cX8_plan 19 = .ok (.aload_n 0, 1) := zd_at zhX8_plan_0 10 rfl
theorem dX8_plan_20 : decode cX8_plan 20 = .ok (.getfield 17, 3) := zd_at zhX8_plan_0 11 rfl
theorem dX8_plan_23 : decode cX8_plan 23 = .ok (.iload_n 1, 1) := zd_at zhX8_plan_0 12 rfl
theorem dX8_plan_24 : decode cX8_plan 24 = .ok (.aaload, 1) := zd_at zhX8_plan_0 13 rfl
theorem dX8_plan_25 : decode cX8_plan 25 = .ok (.astore_n 3, 1) := zd_at zhX8_plan_0 14 rfl
theorem dX8_plan_26 : decode cX8_plan 26 = .ok (.aload_n 3, 1) := zd_at zhX8_plan_0 15 rfl
theorem dX8_plan_27 : decode cX8_plan 27 = .ok (.invokevirtual 218, 3) := zd_at zhX8_plan_0 16 rfl
theorem dX8_plan_30 : decode cX8_plan 30 = .ok (.ifCond .eq 6, 3) := zd_at zhX8_plan_0 17 rfl
theorem dX8_plan_33 : decode cX8_plan 33 = .ok (.bipush (-11), 2) := zd_at zhX8_plan_0 18 rfl
theorem dX8_plan_35 : decode cX8_plan 35 = .ok (.ireturn, 1) := zd_at zhX8_plan_0 19 rfl
theorem dX8_plan_36 : decode cX8_plan 36 = .ok (.aload_n 0, 1) := zd_at zhX8_plan_0 20 rfl
theorem dX8_plan_37 : decode cX8_plan 37 = .ok (.aload_n 3, 1) := zd_at zhX8_plan_0 21 rfl
theorem dX8_plan_38 : decode cX8_plan 38 = .ok (.invokevirtual 222, 3) := zd_at zhX8_plan_0 22 rfl
theorem dX8_plan_41 : decode cX8_plan 41 = .ok (.ifCond .ne 6, 3) := zd_at zhX8_plan_0 23 rfl
theorem dX8_plan_44 : decode cX8_plan 44 = .ok (.bipush (-2), 2) := zd_at zhX8_plan_0 24 rfl
theorem dX8_plan_46 : decode cX8_plan 46 = .ok (.ireturn, 1) := zd_at zhX8_plan_0 25 rfl
theorem dX8_plan_47 : decode cX8_plan 47 = .ok (.aload_n 0, 1) := zd_at zhX8_plan_0 26 rfl
theorem dX8_plan_48 : decode cX8_plan 48 = .ok (.getfield 55, 3) := zd_at zhX8_plan_0 27 rfl
theorem dX8_plan_51 : decode cX8_plan 51 = .ok (.aload_n 0, 1) := zd_at zhX8_plan_0 28 rfl
theorem dX8_plan_52 : decode cX8_plan 52 = .ok (.getfield 51, 3) := zd_at zhX8_plan_0 29 rfl
theorem dX8_plan_55 : decode cX8_plan 55 = .ok (.invokevirtual 226, 3) := zd_at zhX8_plan_0 30 rfl
theorem dX8_plan_58 : decode cX8_plan 58 = .ok (.aload_n 0, 1) := zd_at zhX8_plan_0 31 rfl
theorem dX8_plan_59 : decode cX8_plan 59 = .ok (.getfield 55, 3) := zd_at zhX8_plan_0 32 rfl
theorem dX8_plan_62 : decode cX8_plan 62 = .ok (.iconst 0, 1) := zd_at zhX8_plan_0 33 rfl
theorem dX8_plan_63 : decode cX8_plan 63 = .ok (.putfield 230, 3) := zd_at zhX8_plan_0 34 rfl
theorem dX8_plan_66 : decode cX8_plan 66 = .ok (.iconst 0, 1) := zd_at zhX8_plan_0 35 rfl
theorem dX8_plan_67 : decode cX8_plan 67 = .ok (.istore 4, 2) := zd_at zhX8_plan_0 36 rfl
theorem dX8_plan_69 : decode cX8_plan 69 = .ok (.iload 4, 2) := zd_at zhX8_plan_0 37 rfl
theorem dX8_plan_71 : decode cX8_plan 71 = .ok (.iconst 4, 1) := zd_at zhX8_plan_0 38 rfl
theorem dX8_plan_72 : decode cX8_plan 72 = .ok (.iadd, 1) := zd_at zhX8_plan_0 39 rfl
def ziX8_plan_73 : List (Nat × Instr × Nat) := [(73, .aload_n 3, 1), (74, .getfield 231, 3), (77, .if_icmp .gt 47, 3), (80, .aload_n 0, 1), (81, .aload_n 3, 1), (82, .getfield 232, 3), (85, .iload 4, 2), (87, .iaload, 1), (88, .aload_n 3, 1), (89, .getfield 232, 3), (92, .iload 4, 2), (94, .iconst 1, 1), (95, .iadd, 1), (96, .iaload, 1), (97, .aload_n 3, 1), (98, .getfield 232, 3), (101, .iload 4, 2), (103, .iconst 2, 1), (104, .iadd, 1), (105, .iaload, 1), (106, .aload_n 3, 1), (107, .getfield 232, 3), (110, .iload 4, 2), (112, .iconst 3, 1), (113, .iadd, 1), (114, .iaload, 1), (115, .invokevirtual 235, 3), (118, .iinc 4 4, 3), (121, .goto (-52), 3), (124, .iload_n 2, 1), (125, .ifCond .ne 13, 3), (128, .aload_n 0, 1), (129, .getfield 55, 3), (132, .getfield 230, 3), (135, .goto 10, 3), (138, .aload_n 0, 1), (139, .getfield 55, 3), (142, .invokevirtual 239, 3), (145, .ireturn, 1)]
theorem zhX8_plan_73 : zd_chk (cX8_plan.data.toList.drop 73) 73 ziX8_plan_73 = true := by decide +kernel
theorem dX8_plan_73 : decode cX8_plan 73 = .ok (.aload_n 3, 1) := zd_at zhX8_plan_73 0 rfl
theorem dX8_plan_74 : decode cX8_plan 74 = .ok (.getfield 231, 3) := zd_at zhX8_plan_73 1 rfl
theorem dX8_plan_77 : decode cX8_plan 77 = .ok (.if_icmp .gt 47, 3) := zd_at zhX8_plan_73 2 rfl
theorem dX8_plan_80 : decode cX8_plan 80 = .ok (.aload_n 0, 1) := zd_at zhX8_plan_73 3 rfl
theorem dX8_plan_81 : decode cX8_plan 81 = .ok (.aload_n 3, 1) := zd_at zhX8_plan_73 4 rfl
theorem dX8_plan_82 : decode cX8_plan 82 = .ok (.getfield 232, 3) := zd_at zhX8_plan_73 5 rfl
theorem dX8_plan_85 : decode cX8_plan 85 = .ok (.iload 4, 2) := zd_at zhX8_plan_73 6 rfl
theorem dX8_plan_87 : decode cX8_plan 87 = .ok (.iaload, 1) := zd_at zhX8_plan_73 7 rfl
theorem dX8_plan_88 : decode cX8_plan 88 = .ok (.aload_n 3, 1) := zd_at zhX8_plan_73 8 rfl
theorem dX8_plan_89 : decode cX8_plan 89 = .ok (.getfield 232, 3) := zd_at zhX8_plan_73 9 rfl
theorem dX8_plan_92 : decode cX8_plan 92 = .ok (.iload 4, 2) := zd_at zhX8_plan_73 10 rfl
theorem dX8_plan_94 : decode cX8_plan 94 = .ok (.iconst 1, 1) := zd_at zhX8_plan_73 11 rfl
theorem dX8_plan_95 : decode cX8_plan 95 = .ok (.iadd, 1) := zd_at zhX8_plan_73 12 rfl
theorem dX8_plan_96 : decode cX8_plan 96 = .ok (.iaload, 1) := zd_at zhX8_plan_73 13 rfl
theorem dX8_plan_97 : decode cX8_plan 97 = .ok (.aload_n 3, 1) := zd_at zhX8_plan_73 14 rfl
theorem dX8_plan_98 : decode cX8_plan 98 = .ok (.getfield 232, 3) := zd_at zhX8_plan_73 15 rfl
theorem dX8_plan_101 : decode cX8_plan 101 = .ok (.iload 4, 2) := zd_at zhX8_plan_73 16 rfl
theorem dX8_plan_103 : decode cX8_plan 103 = .ok (.iconst 2, 1) := zd_at zhX8_plan_73 17 rfl
theorem dX8_plan_104 : decode cX8_plan 104 = .ok (.iadd, 1) := zd_at zhX8_plan_73 18 rfl
theorem dX8_plan_105 : decode cX8_plan 105 = .ok (.iaload, 1) := zd_at zhX8_plan_73 19 rfl
theorem dX8_plan_106 : decode cX8_plan 106 = .ok (.aload_n 3, 1) := zd_at zhX8_plan_73 20 rfl
theorem dX8_plan_107 : decode cX8_plan 107 = .ok (.getfield 232, 3) := zd_at zhX8_plan_73 21 rfl
theorem dX8_plan_110 : decode cX8_plan 110 = .ok (.iload 4, 2) := zd_at zhX8_plan_73 22 rfl
theorem dX8_plan_112 : decode cX8_plan 112 = .ok (.iconst 3, 1) := zd_at zhX8_plan_73 23 rfl
theorem dX8_plan_113 : decode cX8_plan 113 = .ok (.iadd, 1) := zd_at zhX8_plan_73 24 rfl
theorem dX8_plan_114 : decode cX8_plan 114 = .ok (.iaload, 1) := zd_at zhX8_plan_73 25 rfl
theorem dX8_plan_115 : decode cX8_plan 115 = .ok (.invokevirtual 235, 3) := zd_at zhX8_plan_73 26 rfl
theorem dX8_plan_118 : decode cX8_plan 118 = .ok (.iinc 4 4, 3) := zd_at zhX8_plan_73 27 rfl
theorem dX8_plan_121 : decode cX8_plan 121 = .ok (.goto (-52), 3) := zd_at zhX8_plan_73 28 rfl
theorem dX8_plan_124 : decode cX8_plan 124 = .ok (.iload_n 2, 1) := zd_at zhX8_plan_73 29 rfl
theorem dX8_plan_125 : decode cX8_plan 125 = .ok (.ifCond .ne 13, 3) := zd_at zhX8_plan_73 30 rfl
theorem dX8_plan_128 : decode cX8_plan 128 = .ok (.aload_n 0, 1) := zd_at zhX8_plan_73 31 rfl
theorem dX8_plan_129 : decode cX8_plan 129 = .ok (.getfield 55, 3) := zd_at zhX8_plan_73 32 rfl
theorem dX8_plan_132 : decode cX8_plan 132 = .ok (.getfield 230, 3) := zd_at zhX8_plan_73 33 rfl
theorem dX8_plan_135 : decode cX8_plan 135 = .ok (.goto 10, 3) := zd_at zhX8_plan_73 34 rfl
theorem dX8_plan_138 : decode cX8_plan 138 = .ok (.aload_n 0, 1) := zd_at zhX8_plan_73 35 rfl
theorem dX8_plan_139 : decode cX8_plan 139 = .ok (.getfield 55, 3) := zd_at zhX8_plan_73 36 rfl
theorem dX8_plan_142 : decode cX8_plan 142 = .ok (.invokevirtual 239, 3) := zd_at zhX8_plan_73 37 rfl
theorem dX8_plan_145 : decode cX8_plan 145 = .ok (.ireturn, 1) := zd_at zhX8_plan_73 38 rfl
def ziX8_isPlan_0 : List (Nat × Instr × Nat) := [(0, .aload_n 1, 1), (1, .getfield 231, 3), (4, .iconst 4, 1), (5, .irem, 1), (6, .ifCond .eq 5, 3), (9, .iconst 0, 1), (10, .ireturn, 1), (11, .iconst 0, 1), (12, .istore_n 2, 1), (13, .iload_n 2, 1), (14, .iconst 4, 1), (15, .iadd, 1), (16, .aload_n 1, 1), (17, .getfield 231, 3), (20, .if_icmp .gt 48, 3), (23, .aload_n 0, 1), (24, .aload_n 1, 1), (25, .getfield 232, 3), (28, .iload_n 2, 1), (29, .iaload, 1), (30, .aload_n 1, 1), (31, .getfield 232, 3), (34, .iload_n 2, 1), (35, .iconst 1, 1), (36, .iadd, 1), (37, .iaload, 1), (38, .aload_n 1, 1), (39, .getfield 232, 3), (42, .iload_n 2, 1), (43, .iconst 2, 1), (44, .iadd, 1), (45, .iaload, 1), (46, .aload_n 1, 1), (47, .getfield 232, 3), (50, .iload_n 2, 1), (51, .iconst 3, 1), (52, .iadd, 1), (53, .iaload, 1), (54, .invokevirtual 240, 3), (57, .ifCond .ne 5, 3)]
theorem zhX8_isPlan_0 : zd_chk (cX8_isPlan.data.toList.drop 0) 0 ziX8_isPlan_0 = true := by decide +kernel
theorem dX8_isPlan_0 : decode cX8_isPlan 0 = .ok (.aload_n 1, 1) := zd_at zhX8_isPlan_0 0 rfl
theorem dX8_isPlan_1 : decode cX8_isPlan 1 = .ok (.getfield 231, 3) := zd_at zhX8_isPlan_0 1 rfl
theorem dX8_isPlan_4 : decode cX8_isPlan 4 = .ok (.iconst 4, 1) := zd_at zhX8_isPlan_0 2 rfl
theorem dX8_isPlan_5 : decode cX8_isPlan 5 = .ok (.irem, 1) := zd_at zhX8_isPlan_0 3 rfl
theorem dX8_isPlan_6 : decode cX8_isPlan 6 = .ok (.ifCond .eq 5, 3) := zd_at zhX8_isPlan_0 4 rfl
theorem dX8_isPlan_9 : decode cX8_isPlan 9 = .ok (.iconst 0, 1) := zd_at zhX8_isPlan_0 5 rfl
theorem dX8_isPlan_10 : decode cX8_isPlan 10 = .ok (.ireturn, 1) := zd_at zhX8_isPlan_0 6 rfl
theorem dX8_isPlan_11 : decode cX8_isPlan 11 = .ok (.iconst 0, 1) := zd_at zhX8_isPlan_0 7 rfl
theorem dX8_isPlan_12 : decode cX8_isPlan 12 = .ok (.istore_n 2, 1) := zd_at zhX8_isPlan_0 8 rfl
theorem dX8_isPlan_13 : decode cX8_isPlan 13 = .ok (.iload_n 2, 1) := zd_at zhX8_isPlan_0 9 rfl
theorem dX8_isPlan_14 : decode cX8_isPlan 14 = .ok (.iconst 4, 1) := zd_at zhX8_isPlan_0 10 rfl
theorem dX8_isPlan_15 : decode cX8_isPlan 15 = .ok (.iadd, 1) := zd_at zhX8_isPlan_0 11 rfl
theorem dX8_isPlan_16 : decode cX8_isPlan 16 = .ok (.aload_n 1, 1) := zd_at zhX8_isPlan_0 12 rfl
theorem dX8_isPlan_17 : decode cX8_isPlan 17 = .ok (.getfield 231, 3) := zd_at zhX8_isPlan_0 13 rfl
theorem dX8_isPlan_20 : decode cX8_isPlan 20 = .ok (.if_icmp .gt 48, 3) := zd_at zhX8_isPlan_0 14 rfl
theorem dX8_isPlan_23 : decode cX8_isPlan 23 = .ok (.aload_n 0, 1) := zd_at zhX8_isPlan_0 15 rfl
theorem dX8_isPlan_24 : decode cX8_isPlan 24 = .ok (.aload_n 1, 1) := zd_at zhX8_isPlan_0 16 rfl
theorem dX8_isPlan_25 : decode cX8_isPlan 25 = .ok (.getfield 232, 3) := zd_at zhX8_isPlan_0 17 rfl
theorem dX8_isPlan_28 : decode cX8_isPlan 28 = .ok (.iload_n 2, 1) := zd_at zhX8_isPlan_0 18 rfl
theorem dX8_isPlan_29 : decode cX8_isPlan 29 = .ok (.iaload, 1) := zd_at zhX8_isPlan_0 19 rfl
theorem dX8_isPlan_30 : decode cX8_isPlan 30 = .ok (.aload_n 1, 1) := zd_at zhX8_isPlan_0 20 rfl
theorem dX8_isPlan_31 : decode cX8_isPlan 31 = .ok (.getfield 232, 3) := zd_at zhX8_isPlan_0 21 rfl
theorem dX8_isPlan_34 : decode cX8_isPlan 34 = .ok (.iload_n 2, 1) := zd_at zhX8_isPlan_0 22 rfl
theorem dX8_isPlan_35 : decode cX8_isPlan 35 = .ok (.iconst 1, 1) := zd_at zhX8_isPlan_0 23 rfl
theorem dX8_isPlan_36 : decode cX8_isPlan 36 = .ok (.iadd, 1) := zd_at zhX8_isPlan_0 24 rfl
theorem dX8_isPlan_37 : decode cX8_isPlan 37 = .ok (.iaload, 1) := zd_at zhX8_isPlan_0 25 rfl
theorem dX8_isPlan_38 : decode cX8_isPlan 38 = .ok (.aload_n 1, 1) := zd_at zhX8_isPlan_0 26 rfl
theorem dX8_isPlan_39 : decode cX8_isPlan 39 = .ok (.getfield 232, 3) := zd_at zhX8_isPlan_0 27 rfl
theorem dX8_isPlan_42 : decode cX8_isPlan 42 = .ok (.iload_n 2, 1) := zd_at zhX8_isPlan_0 28 rfl
theorem dX8_isPlan_43 : decode cX8_isPlan 43 = .ok (.iconst 2, 1) := zd_at zhX8_isPlan_0 29 rfl
theorem dX8_isPlan_44 : decode cX8_isPlan 44 = .ok (.iadd, 1) := zd_at zhX8_isPlan_0 30 rfl
theorem dX8_isPlan_45 : decode cX8_isPlan 45 = .ok (.iaload, 1) := zd_at zhX8_isPlan_0 31 rfl
theorem dX8_isPlan_46 : decode cX8_isPlan 46 = .ok (.aload_n 1, 1) := zd_at zhX8_isPlan_0 32 rfl
theorem dX8_isPlan_47 : decode cX8_isPlan 47 = .ok (.getfield 232, 3) := zd_at zhX8_isPlan_0 33 rfl
theorem dX8_isPlan_50 : decode cX8_isPlan 50 = .ok (.iload_n 2, 1) := zd_at zhX8_isPlan_0 34 rfl
theorem dX8_isPlan_51 : decode cX8_isPlan 51 = .ok (.iconst 3, 1) := zd_at zhX8_isPlan_0 35 rfl
theorem dX8_isPlan_52 : decode cX8_isPlan 52 = .ok (.iadd, 1) := zd_at zhX8_isPlan_0 36 rfl
theorem dX8_isPlan_53 : decode cX8_isPlan 53 = .ok (.iaload, 1) := zd_at zhX8_isPlan_0 37 rfl
theorem dX8_isPlan_54 : decode cX8_isPlan 54 = .ok (.invokevirtual 240, 3) := zd_at zhX8_isPlan_0 38 rfl
theorem dX8_isPlan_57 : decode cX8_isPlan 57 = .ok (.ifCond .ne 5, 3) := zd_at zhX8_isPlan_0 39 rfl
def ziX8_isPlan_60 : List (Nat × Instr × Nat) := [(60, .iconst 0, 1), (61, .ireturn, 1), (62, .iinc 2 4, 3), (65, .goto (-52), 3), (68, .iconst 1, 1), (69, .ireturn, 1)]
theorem zhX8_isPlan_60 : zd_chk (cX8_isPlan.data.toList.drop 60) 60 ziX8_isPlan_60 = true := by decide +kernel
theorem dX8_isPlan_60 : decode cX8_isPlan 60 = .ok (.iconst 0, 1) := zd_at zhX8_isPlan_60 0 rfl
theorem dX8_isPlan_61 : decode cX8_isPlan 61 = .ok (.ireturn, 1) := zd_at zhX8_isPlan_60 1 rfl
theorem dX8_isPlan_62 : decode cX8_isPlan 62 = .ok (.iinc 2 4, 3) := zd_at zhX8_isPlan_60 2 rfl
theorem dX8_isPlan_65 : decode cX8_isPlan 65 = .ok (.goto (-52), 3) := zd_at zhX8_isPlan_60 3 rfl
theorem dX8_isPlan_68 : decode cX8_isPlan 68 = .ok (.iconst 1, 1) := zd_at zhX8_isPlan_60 4 rfl
theorem dX8_isPlan_69 : decode cX8_isPlan 69 = .ok (.ireturn, 1) := zd_at zhX8_isPlan_60 5 rfl
def ziX8_isStep_0 : List (Nat × Instr × Nat) := [(0, .iload_n 1, 1), (1, .iconst 3, 1), (2, .if_icmp .ne 22, 3), (5, .iload_n 2, 1), (6, .ifCond .ne 16, 3), (9, .iload_n 3, 1), (10, .ifCond .ne 12, 3), (13, .iload 4, 2), (15, .ifCond .ne 7, 3), (18, .iconst 1, 1), (19, .goto 4, 3), (22, .iconst 0, 1), (23, .ireturn, 1), (24, .aload_n 0, 1), (25, .iload_n 2, 1), (26, .invokevirtual 91, 3), (29, .ifCond .ne 5, 3), (32, .iconst 0, 1), (33, .ireturn, 1), (34, .iload_n 1, 1), (35, .ifCond .ne 28, 3), (38, .iload_n 3, 1), (39, .bipush 16, 2), (41, .invokestatic 95, 3), (44, .ifCond .eq 17, 3), (47, .iload 4, 2), (49, .bipush 10, 2), (51, .invokestatic 95, 3), (54, .ifCond .eq 7, 3), (57, .iconst 1, 1), (58, .goto 4, 3), (61, .iconst 0, 1), (62, .ireturn, 1), (63, .iload_n 1, 1), (64, .iconst 1, 1), (65, .if_icmp .ne 23, 3), (68, .iload_n 3, 1), (69, .bipush 10, 2), (71, .invokestatic 95, 3), (74, .ifCond .eq 12, 3)]
theorem zhX8_isStep_0 : zd_chk (cX8_isStep.data.toList.drop 0) 0 ziX8_isStep_0 = true := by decide +kernel
theorem dX8_isStep_0 : decode cX8_isStep 0 = .ok (.iload_n 1, 1) := zd_at zhX8_isStep_0 0 rfl
theorem dX8_isStep_1 : decode cX8_isStep 1 = .ok (.iconst 3, 1) := zd_at zhX8_isStep_0 1 rfl
theorem dX8_isStep_2 : decode cX8_isStep 2 = .ok (.if_icmp .ne 22, 3) := zd_at zhX8_isStep_0 2 rfl
theorem dX8_isStep_5 : decode cX8_isStep 5 = .ok (.iload_n 2, 1) := zd_at zhX8_isStep_0 3 rfl
theorem dX8_isStep_6 : decode cX8_isStep 6 = .ok (.ifCond .ne 16, 3) := zd_at zhX8_isStep_0 4 rfl
theorem dX8_isStep_9 : decode cX8_isStep 9 = .ok (.iload_n 3, 1) := zd_at zhX8_isStep_0 5 rfl
theorem dX8_isStep_10 : decode cX8_isStep 10 = .ok (.ifCond .ne 12, 3) := zd_at zhX8_isStep_0 6 rfl
theorem dX8_isStep_13 : decode cX8_isStep 13 = .ok (.iload 4, 2) := zd_at zhX8_isStep_0 7 rfl
theorem dX8_isStep_15 : decode cX8_isStep 15 = .ok (.ifCond .ne 7, 3) := zd_at zhX8_isStep_0 8 rfl
theorem dX8_isStep_18 : decode cX8_isStep 18 = .ok (.iconst 1, 1) := zd_at zhX8_isStep_0 9 rfl
theorem dX8_isStep_19 : decode cX8_isStep 19 = .ok (.goto 4, 3) := zd_at zhX8_isStep_0 10 rfl
theorem dX8_isStep_22 : decode cX8_isStep 22 = .ok (.iconst 0, 1) := zd_at zhX8_isStep_0 11 rfl
theorem dX8_isStep_23 : decode cX8_isStep 23 = .ok (.ireturn, 1) := zd_at zhX8_isStep_0 12 rfl
theorem dX8_isStep_24 : decode cX8_isStep 24 = .ok (.aload_n 0, 1) := zd_at zhX8_isStep_0 13 rfl
theorem dX8_isStep_25 : decode cX8_isStep 25 = .ok (.iload_n 2, 1) := zd_at zhX8_isStep_0 14 rfl
theorem dX8_isStep_26 : decode cX8_isStep 26 = .ok (.invokevirtual 91, 3) := zd_at zhX8_isStep_0 15 rfl
theorem dX8_isStep_29 : decode cX8_isStep 29 = .ok (.ifCond .ne 5, 3) := zd_at zhX8_isStep_0 16 rfl
theorem dX8_isStep_32 : decode cX8_isStep 32 = .ok (.iconst 0, 1) := zd_at zhX8_isStep_0 17 rfl
theorem dX8_isStep_33 : decode cX8_isStep 33 = .ok (.ireturn, 1) := zd_at zhX8_isStep_0 18 rfl
theorem dX8_isStep_34 : decode cX8_isStep 34 = .ok (.iload_n 1, 1) := zd_at zhX8_isStep_0 19 rfl
theorem dX8_isStep_35 : decode cX8_isStep 35 = .ok (.ifCond .ne 28, 3) := zd_at zhX8_isStep_0 20 rfl
theorem dX8_isStep_38 : decode cX8_isStep 38 = .ok (.iload_n 3, 1) := zd_at zhX8_isStep_0 21 rfl
theorem dX8_isStep_39 : decode cX8_isStep 39 = .ok (.bipush 16, 2) := zd_at zhX8_isStep_0 22 rfl
theorem dX8_isStep_41 : decode cX8_isStep 41 = .ok (.invokestatic 95, 3) := zd_at zhX8_isStep_0 23 rfl
theorem dX8_isStep_44 : decode cX8_isStep 44 = .ok (.ifCond .eq 17, 3) := zd_at zhX8_isStep_0 24 rfl
theorem dX8_isStep_47 : decode cX8_isStep 47 = .ok (.iload 4, 2) := zd_at zhX8_isStep_0 25 rfl
theorem dX8_isStep_49 : decode cX8_isStep 49 = .ok (.bipush 10, 2) := zd_at zhX8_isStep_0 26 rfl
theorem dX8_isStep_51 : decode cX8_isStep 51 = .ok (.invokestatic 95, 3) := zd_at zhX8_isStep_0 27 rfl
theorem dX8_isStep_54 : decode cX8_isStep 54 = .ok (.ifCond .eq 7, 3) := zd_at zhX8_isStep_0 28 rfl
theorem dX8_isStep_57 : decode cX8_isStep 57 = .ok (.iconst 1, 1) := zd_at zhX8_isStep_0 29 rfl
theorem dX8_isStep_58 : decode cX8_isStep 58 = .ok (.goto 4, 3) := zd_at zhX8_isStep_0 30 rfl
theorem dX8_isStep_61 : decode cX8_isStep 61 = .ok (.iconst 0, 1) := zd_at zhX8_isStep_0 31 rfl
theorem dX8_isStep_62 : decode cX8_isStep 62 = .ok (.ireturn, 1) := zd_at zhX8_isStep_0 32 rfl
theorem dX8_isStep_63 : decode cX8_isStep 63 = .ok (.iload_n 1, 1) := zd_at zhX8_isStep_0 33 rfl
theorem dX8_isStep_64 : decode cX8_isStep 64 = .ok (.iconst 1, 1) := zd_at zhX8_isStep_0 34 rfl
theorem dX8_isStep_65 : decode cX8_isStep 65 = .ok (.if_icmp .ne 23, 3) := zd_at zhX8_isStep_0 35 rfl
theorem dX8_isStep_68 : decode cX8_isStep 68 = .ok (.iload_n 3, 1) := zd_at zhX8_isStep_0 36 rfl
theorem dX8_isStep_69 : decode cX8_isStep 69 = .ok (.bipush 10, 2) := zd_at zhX8_isStep_0 37 rfl
theorem dX8_isStep_71 : decode cX8_isStep 71 = .ok (.invokestatic 95, 3) := zd_at zhX8_isStep_0 38 rfl
theorem dX8_isStep_74 : decode cX8_isStep 74 = .ok (.ifCond .eq 12, 3) := zd_at zhX8_isStep_0 39 rfl
def ziX8_isStep_77 : List (Nat × Instr × Nat) := [(77, .iload 4, 2), (79, .ifCond .ne 7, 3), (82, .iconst 1, 1), (83, .goto 4, 3), (86, .iconst 0, 1), (87, .ireturn, 1), (88, .iload_n 1, 1), (89, .iconst 2, 1), (90, .if_icmp .ne 25, 3), (93, .aload_n 0, 1), (94, .iload_n 3, 1), (95, .invokevirtual 91, 3), (98, .ifCond .eq 17, 3), (101, .iload_n 3, 1), (102, .iload_n 2, 1), (103, .if_icmp .eq 12, 3), (106, .iload 4, 2), (108, .ifCond .ne 7, 3), (111, .iconst 1, 1), (112, .goto 4, 3), (115, .iconst 0, 1), (116, .ireturn, 1)]
theorem zhX8_isStep_77 : zd_chk (cX8_isStep.data.toList.drop 77) 77 ziX8_isStep_77 = true := by decide +kernel
theorem dX8_isStep_77 : decode cX8_isStep 77 = .ok (.iload 4, 2) := zd_at zhX8_isStep_77 0 rfl
theorem dX8_isStep_79 : decode cX8_isStep 79 = .ok (.ifCond .ne 7, 3) := zd_at zhX8_isStep_77 1 rfl
theorem dX8_isStep_82 : decode cX8_isStep 82 = .ok (.iconst 1, 1) := zd_at zhX8_isStep_77 2 rfl
theorem dX8_isStep_83 : decode cX8_isStep 83 = .ok (.goto 4, 3) := zd_at zhX8_isStep_77 3 rfl
theorem dX8_isStep_86 : decode cX8_isStep 86 = .ok (.iconst 0, 1) := zd_at zhX8_isStep_77 4 rfl
theorem dX8_isStep_87 : decode cX8_isStep 87 = .ok (.ireturn, 1) := zd_at zhX8_isStep_77 5 rfl
theorem dX8_isStep_88 : decode cX8_isStep 88 = .ok (.iload_n 1, 1) := zd_at zhX8_isStep_77 6 rfl
theorem dX8_isStep_89 : decode cX8_isStep 89 = .ok (.iconst 2, 1) := zd_at zhX8_isStep_77 7 rfl
theorem dX8_isStep_90 : decode cX8_isStep 90 = .ok (.if_icmp .ne 25, 3) := zd_at zhX8_isStep_77 8 rfl
theorem dX8_isStep_93 : decode cX8_isStep 93 = .ok (.aload_n 0, 1) := zd_at zhX8_isStep_77 9 rfl
theorem dX8_isStep_94 : decode cX8_isStep 94 = .ok (.iload_n 3, 1) := zd_at zhX8_isStep_77 10 rfl
theorem dX8_isStep_95 : decode cX8_isStep 95 = .ok (.invokevirtual 91, 3) := zd_at zhX8_isStep_77 11 rfl
theorem dX8_isStep_98 : decode cX8_isStep 98 = .ok (.ifCond .eq 17, 3) := zd_at zhX8_isStep_77 12 rfl
theorem dX8_isStep_101 : decode cX8_isStep 101 = .ok (.iload_n 3, 1) := zd_at zhX8_isStep_77 13 rfl
theorem dX8_isStep_102 : decode cX8_isStep 102 = .ok (.iload_n 2, 1) := zd_at zhX8_isStep_77 14 rfl
theorem dX8_isStep_103 : decode cX8_isStep 103 = .ok (.if_icmp .eq 12, 3) := zd_at zhX8_isStep_77 15 rfl
theorem dX8_isStep_106 : decode cX8_isStep 106 = .ok (.iload 4, 2) := zd_at zhX8_isStep_77 16 rfl
theorem dX8_isStep_108 : decode cX8_isStep 108 = .ok (.ifCond .ne 7, 3) := zd_at zhX8_isStep_77 17 rfl
theorem dX8_isStep_111 : decode cX8_isStep 111 = .ok (.iconst 1, 1) := zd_at zhX8_isStep_77 18 rfl
theorem dX8_isStep_112 : decode cX8_isStep 112 = .ok (.goto 4, 3) := zd_at zhX8_isStep_77 19 rfl
theorem dX8_isStep_115 : decode cX8_isStep 115 = .ok (.iconst 0, 1) := zd_at zhX8_isStep_77 20 rfl
theorem dX8_isStep_116 : decode cX8_isStep 116 = .ok (.ireturn, 1) := zd_at zhX8_isStep_77 21 rfl
def ziX8_take_0 : List (Nat × Instr × Nat) := [(0, .iload_n 1, 1), (1, .ifCond .ne 18, 3), (4, .aload_n 0, 1), (5, .getfield 55, 3), (8, .iload_n 2, 1), (9, .iload_n 3, 1), (10, .iload 4, 2), (12, .invokevirtual 150, 3), (15, .pop, 1), (16, .goto 55, 3), (19, .iload_n 1, 1), (20, .iconst 1, 1), (21, .if_icmp .ne 20, 3), (24, .aload_n 0, 1), (25, .getfield 55, 3), (28, .getfield 99, 3), (31, .iload_n 2, 1), (32, .aaload, 1), (33, .iload_n 3, 1), (34, .invokevirtual 153, 3), (37, .pop, 1), (38, .goto 33, 3), (41, .iload_n 1, 1), (42, .iconst 2, 1), (43, .if_icmp .ne 16, 3), (46, .aload_n 0, 1), (47, .getfield 55, 3), (50, .iload_n 2, 1), (51, .iload_n 3, 1), (52, .invokevirtual 156, 3), (55, .pop, 1), (56, .goto 15, 3), (59, .aload_n 0, 1), (60, .getfield 55, 3), (63, .aload_n 0, 1), (64, .getfield 42, 3), (67, .invokevirtual 159, 3), (70, .pop, 1), (71, .return_, 1)]
theorem zhX8_take_0 : zd_chk (cX8_take.data.toList.drop 0) 0 ziX8_take_0 = true := by decide +kernel
theorem dX8_take_0 : decode cX8_take 0 = .ok (.iload_n 1, 1) := zd_at zhX8_take_0 0 rfl
theorem dX8_take_1 : decode cX8_take 1 = .ok (.ifCond .ne 18, 3) := zd_at zhX8_take_0 1 rfl
theorem dX8_take_4 : decode cX8_take 4 = .ok (.aload_n 0, 1) := zd_at zhX8_take_0 2 rfl
theorem dX8_take_5 : decode cX8_take 5 = .ok (.getfield 55, 3) := zd_at zhX8_take_0 3 rfl
theorem dX8_take_8 : decode cX8_take 8 = .ok (.iload_n 2, 1) := zd_at zhX8_take_0 4 rfl
theorem dX8_take_9 : decode cX8_take 9 = .ok (.iload_n 3, 1) := zd_at zhX8_take_0 5 rfl
theorem dX8_take_10 : decode cX8_take 10 = .ok (.iload 4, 2) := zd_at zhX8_take_0 6 rfl
theorem dX8_take_12 : decode cX8_take 12 = .ok (.invokevirtual 150, 3) := zd_at zhX8_take_0 7 rfl
theorem dX8_take_15 : decode cX8_take 15 = .ok (.pop, 1) := zd_at zhX8_take_0 8 rfl
theorem dX8_take_16 : decode cX8_take 16 = .ok (.goto 55, 3) := zd_at zhX8_take_0 9 rfl
theorem dX8_take_19 : decode cX8_take 19 = .ok (.iload_n 1, 1) := zd_at zhX8_take_0 10 rfl
theorem dX8_take_20 : decode cX8_take 20 = .ok (.iconst 1, 1) := zd_at zhX8_take_0 11 rfl
theorem dX8_take_21 : decode cX8_take 21 = .ok (.if_icmp .ne 20, 3) := zd_at zhX8_take_0 12 rfl
theorem dX8_take_24 : decode cX8_take 24 = .ok (.aload_n 0, 1) := zd_at zhX8_take_0 13 rfl
theorem dX8_take_25 : decode cX8_take 25 = .ok (.getfield 55, 3) := zd_at zhX8_take_0 14 rfl
theorem dX8_take_28 : decode cX8_take 28 = .ok (.getfield 99, 3) := zd_at zhX8_take_0 15 rfl
theorem dX8_take_31 : decode cX8_take 31 = .ok (.iload_n 2, 1) := zd_at zhX8_take_0 16 rfl
theorem dX8_take_32 : decode cX8_take 32 = .ok (.aaload, 1) := zd_at zhX8_take_0 17 rfl
theorem dX8_take_33 : decode cX8_take 33 = .ok (.iload_n 3, 1) := zd_at zhX8_take_0 18 rfl
theorem dX8_take_34 : decode cX8_take 34 = .ok (.invokevirtual 153, 3) := zd_at zhX8_take_0 19 rfl
theorem dX8_take_37 : decode cX8_take 37 = .ok (.pop, 1) := zd_at zhX8_take_0 20 rfl
theorem dX8_take_38 : decode cX8_take 38 = .ok (.goto 33, 3) := zd_at zhX8_take_0 21 rfl
theorem dX8_take_41 : decode cX8_take 41 = .ok (.iload_n 1, 1) := zd_at zhX8_take_0 22 rfl
theorem dX8_take_42 : decode cX8_take 42 = .ok (.iconst 2, 1) := zd_at zhX8_take_0 23 rfl
theorem dX8_take_43 : decode cX8_take 43 = .ok (.if_icmp .ne 16, 3) := zd_at zhX8_take_0 24 rfl
theorem dX8_take_46 : decode cX8_take 46 = .ok (.aload_n 0, 1) := zd_at zhX8_take_0 25 rfl
theorem dX8_take_47 : decode cX8_take 47 = .ok (.getfield 55, 3) := zd_at zhX8_take_0 26 rfl
theorem dX8_take_50 : decode cX8_take 50 = .ok (.iload_n 2, 1) := zd_at zhX8_take_0 27 rfl
theorem dX8_take_51 : decode cX8_take 51 = .ok (.iload_n 3, 1) := zd_at zhX8_take_0 28 rfl
theorem dX8_take_52 : decode cX8_take 52 = .ok (.invokevirtual 156, 3) := zd_at zhX8_take_0 29 rfl
theorem dX8_take_55 : decode cX8_take 55 = .ok (.pop, 1) := zd_at zhX8_take_0 30 rfl
theorem dX8_take_56 : decode cX8_take 56 = .ok (.goto 15, 3) := zd_at zhX8_take_0 31 rfl
theorem dX8_take_59 : decode cX8_take 59 = .ok (.aload_n 0, 1) := zd_at zhX8_take_0 32 rfl
theorem dX8_take_60 : decode cX8_take 60 = .ok (.getfield 55, 3) := zd_at zhX8_take_0 33 rfl
theorem dX8_take_63 : decode cX8_take 63 = .ok (.aload_n 0, 1) := zd_at zhX8_take_0 34 rfl
theorem dX8_take_64 : decode cX8_take 64 = .ok (.getfield 42, 3) := zd_at zhX8_take_0 35 rfl
theorem dX8_take_67 : decode cX8_take 67 = .ok (.invokevirtual 159, 3) := zd_at zhX8_take_0 36 rfl
theorem dX8_take_70 : decode cX8_take 70 = .ok (.pop, 1) := zd_at zhX8_take_0 37 rfl
theorem dX8_take_71 : decode cX8_take 71 = .ok (.return_, 1) := zd_at zhX8_take_0 38 rfl
def ziX8_tells_0 : List (Nat × Instr × Nat) := [(0, .iload_n 1, 1), (1, .iconst 4, 1), (2, .invokestatic 95, 3), (5, .ifCond .eq 11, 3), (8, .aload_n 0, 1), (9, .iload_n 2, 1), (10, .invokevirtual 91, 3), (13, .ifCond .ne 6, 3), (16, .bipush (-2), 2), (18, .ireturn, 1), (19, .iload_n 3, 1), (20, .ifCond .lt 20, 3), (23, .iload_n 3, 1), (24, .bipush 39, 2), (26, .if_icmp .gt 14, 3), (29, .iload_n 3, 1), (30, .iconst 3, 1), (31, .if_icmp .le 12, 3), (34, .iload_n 3, 1), (35, .bipush 10, 2), (37, .if_icmp .ge 6, 3), (40, .bipush (-2), 2), (42, .ireturn, 1), (43, .aload_n 0, 1), (44, .getfield 17, 3), (47, .iload_n 1, 1), (48, .aaload, 1), (49, .astore 4, 2), (51, .aload 4, 2), (53, .invokevirtual 218, 3), (56, .ifCond .eq 6, 3), (59, .bipush (-11), 2), (61, .ireturn, 1), (62, .aload 4, 2), (64, .getfield 231, 3), (67, .bipush 10, 2), (69, .if_icmp .eq 6, 3), (72, .bipush (-2), 2), (74, .ireturn, 1), (75, .iload_n 3, 1)]
theorem zhX8_tells_0 : zd_chk (cX8_tells.data.toList.drop 0) 0 ziX8_tells_0 = true := by decide +kernel
theorem dX8_tells_0 : decode cX8_tells 0 = .ok (.iload_n 1, 1) := zd_at zhX8_tells_0 0 rfl
theorem dX8_tells_1 : decode cX8_tells 1 = .ok (.iconst 4, 1) := zd_at zhX8_tells_0 1 rfl
theorem dX8_tells_2 : decode cX8_tells 2 = .ok (.invokestatic 95, 3) := zd_at zhX8_tells_0 2 rfl
theorem dX8_tells_5 : decode cX8_tells 5 = .ok (.ifCond .eq 11, 3) := zd_at zhX8_tells_0 3 rfl
theorem dX8_tells_8 : decode cX8_tells 8 = .ok (.aload_n 0, 1) := zd_at zhX8_tells_0 4 rfl
theorem dX8_tells_9 : decode cX8_tells 9 = .ok (.iload_n 2, 1) := zd_at zhX8_tells_0 5 rfl
theorem dX8_tells_10 : decode cX8_tells 10 = .ok (.invokevirtual 91, 3) := zd_at zhX8_tells_0 6 rfl
theorem dX8_tells_13 : decode cX8_tells 13 = .ok (.ifCond .ne 6, 3) := zd_at zhX8_tells_0 7 rfl
theorem dX8_tells_16 : decode cX8_tells 16 = .ok (.bipush (-2), 2) := zd_at zhX8_tells_0 8 rfl
theorem dX8_tells_18 : decode cX8_tells 18 = .ok (.ireturn, 1) := zd_at zhX8_tells_0 9 rfl
theorem dX8_tells_19 : decode cX8_tells 19 = .ok (.iload_n 3, 1) := zd_at zhX8_tells_0 10 rfl
theorem dX8_tells_20 : decode cX8_tells 20 = .ok (.ifCond .lt 20, 3) := zd_at zhX8_tells_0 11 rfl
theorem dX8_tells_23 : decode cX8_tells 23 = .ok (.iload_n 3, 1) := zd_at zhX8_tells_0 12 rfl
theorem dX8_tells_24 : decode cX8_tells 24 = .ok (.bipush 39, 2) := zd_at zhX8_tells_0 13 rfl
theorem dX8_tells_26 : decode cX8_tells 26 = .ok (.if_icmp .gt 14, 3) := zd_at zhX8_tells_0 14 rfl
theorem dX8_tells_29 : decode cX8_tells 29 = .ok (.iload_n 3, 1) := zd_at zhX8_tells_0 15 rfl
theorem dX8_tells_30 : decode cX8_tells 30 = .ok (.iconst 3, 1) := zd_at zhX8_tells_0 16 rfl
theorem dX8_tells_31 : decode cX8_tells 31 = .ok (.if_icmp .le 12, 3) := zd_at zhX8_tells_0 17 rfl
theorem dX8_tells_34 : decode cX8_tells 34 = .ok (.iload_n 3, 1) := zd_at zhX8_tells_0 18 rfl
theorem dX8_tells_35 : decode cX8_tells 35 = .ok (.bipush 10, 2) := zd_at zhX8_tells_0 19 rfl
theorem dX8_tells_37 : decode cX8_tells 37 = .ok (.if_icmp .ge 6, 3) := zd_at zhX8_tells_0 20 rfl
theorem dX8_tells_40 : decode cX8_tells 40 = .ok (.bipush (-2), 2) := zd_at zhX8_tells_0 21 rfl
theorem dX8_tells_42 : decode cX8_tells 42 = .ok (.ireturn, 1) := zd_at zhX8_tells_0 22 rfl
theorem dX8_tells_43 : decode cX8_tells 43 = .ok (.aload_n 0, 1) := zd_at zhX8_tells_0 23 rfl
theorem dX8_tells_44 : decode cX8_tells 44 = .ok (.getfield 17, 3) := zd_at zhX8_tells_0 24 rfl
theorem dX8_tells_47 : decode cX8_tells 47 = .ok (.iload_n 1, 1) := zd_at zhX8_tells_0 25 rfl
theorem dX8_tells_48 : decode cX8_tells 48 = .ok (.aaload, 1) := zd_at zhX8_tells_0 26 rfl
theorem dX8_tells_49 : decode cX8_tells 49 = .ok (.astore 4, 2) := zd_at zhX8_tells_0 27 rfl
theorem dX8_tells_51 : decode cX8_tells 51 = .ok (.aload 4, 2) := zd_at zhX8_tells_0 28 rfl
theorem dX8_tells_53 : decode cX8_tells 53 = .ok (.invokevirtual 218, 3) := zd_at zhX8_tells_0 29 rfl
theorem dX8_tells_56 : decode cX8_tells 56 = .ok (.ifCond .eq 6, 3) := zd_at zhX8_tells_0 30 rfl
theorem dX8_tells_59 : decode cX8_tells 59 = .ok (.bipush (-11), 2) := zd_at zhX8_tells_0 31 rfl
theorem dX8_tells_61 : decode cX8_tells 61 = .ok (.ireturn, 1) := zd_at zhX8_tells_0 32 rfl
theorem dX8_tells_62 : decode cX8_tells 62 = .ok (.aload 4, 2) := zd_at zhX8_tells_0 33 rfl
theorem dX8_tells_64 : decode cX8_tells 64 = .ok (.getfield 231, 3) := zd_at zhX8_tells_0 34 rfl
theorem dX8_tells_67 : decode cX8_tells 67 = .ok (.bipush 10, 2) := zd_at zhX8_tells_0 35 rfl
theorem dX8_tells_69 : decode cX8_tells 69 = .ok (.if_icmp .eq 6, 3) := zd_at zhX8_tells_0 36 rfl
theorem dX8_tells_72 : decode cX8_tells 72 = .ok (.bipush (-2), 2) := zd_at zhX8_tells_0 37 rfl
theorem dX8_tells_74 : decode cX8_tells 74 = .ok (.ireturn, 1) := zd_at zhX8_tells_0 38 rfl
theorem dX8_tells_75 : decode cX8_tells 75 = .ok (.iload_n 3, 1) := zd_at zhX8_tells_0 39 rfl
def ziX8_tells_76 : List (Nat × Instr × Nat) := [(76, .ifCond .ne 13, 3), (79, .aload_n 0, 1), (80, .aload 4, 2), (82, .iload_n 2, 1), (83, .iconst 0, 1), (84, .iconst 0, 1), (85, .invokevirtual 244, 3), (88, .ireturn, 1), (89, .iload_n 3, 1), (90, .iconst 3, 1), (91, .if_icmp .gt 12, 3), (94, .aload_n 0, 1), (95, .aload 4, 2), (97, .iload_n 2, 1), (98, .iload_n 3, 1), (99, .invokevirtual 248, 3), (102, .ireturn, 1), (103, .iload_n 3, 1), (104, .bipush 10, 2), (106, .irem, 1), (107, .istore 5, 2), (109, .aload_n 0, 1), (110, .getfield 42, 3), (113, .aload_n 0, 1), (114, .getfield 51, 3), (117, .iload_n 2, 1), (118, .iload 5, 2), (120, .invokevirtual 139, 3), (123, .aload_n 0, 1), (124, .getfield 42, 3), (127, .getfield 199, 3), (130, .iconst 0, 1), (131, .iaload, 1), (132, .iconst (-1), 1), (133, .if_icmp .ne 15, 3), (136, .iload_n 3, 1), (137, .bipush 30, 2), (139, .if_icmp .lt 7, 3), (142, .iconst (-1), 1), (143, .goto 4, 3)]
theorem zhX8_tells_76 : zd_chk (cX8_tells.data.toList.drop 76) 76 ziX8_tells_76 = true := by decide +kernel
theorem dX8_tells_76 : decode cX8_tells 76 = .ok (.ifCond .ne 13, 3) := zd_at zhX8_tells_76 0 rfl
theorem dX8_tells_79 : decode cX8_tells 79 = .ok (.aload_n 0, 1) := zd_at zhX8_tells_76 1 rfl
theorem dX8_tells_80 : decode cX8_tells 80 = .ok (.aload 4, 2) := zd_at zhX8_tells_76 2 rfl
theorem dX8_tells_82 : decode cX8_tells 82 = .ok (.iload_n 2, 1) := zd_at zhX8_tells_76 3 rfl
theorem dX8_tells_83 : decode cX8_tells 83 = .ok (.iconst 0, 1) := zd_at zhX8_tells_76 4 rfl
theorem dX8_tells_84 : decode cX8_tells 84 = .ok (.iconst 0, 1) := zd_at zhX8_tells_76 5 rfl
theorem dX8_tells_85 : decode cX8_tells 85 = .ok (.invokevirtual 244, 3) := zd_at zhX8_tells_76 6 rfl
theorem dX8_tells_88 : decode cX8_tells 88 = .ok (.ireturn, 1) := zd_at zhX8_tells_76 7 rfl
theorem dX8_tells_89 : decode cX8_tells 89 = .ok (.iload_n 3, 1) := zd_at zhX8_tells_76 8 rfl
theorem dX8_tells_90 : decode cX8_tells 90 = .ok (.iconst 3, 1) := zd_at zhX8_tells_76 9 rfl
theorem dX8_tells_91 : decode cX8_tells 91 = .ok (.if_icmp .gt 12, 3) := zd_at zhX8_tells_76 10 rfl
theorem dX8_tells_94 : decode cX8_tells 94 = .ok (.aload_n 0, 1) := zd_at zhX8_tells_76 11 rfl
theorem dX8_tells_95 : decode cX8_tells 95 = .ok (.aload 4, 2) := zd_at zhX8_tells_76 12 rfl
theorem dX8_tells_97 : decode cX8_tells 97 = .ok (.iload_n 2, 1) := zd_at zhX8_tells_76 13 rfl
theorem dX8_tells_98 : decode cX8_tells 98 = .ok (.iload_n 3, 1) := zd_at zhX8_tells_76 14 rfl
theorem dX8_tells_99 : decode cX8_tells 99 = .ok (.invokevirtual 248, 3) := zd_at zhX8_tells_76 15 rfl
theorem dX8_tells_102 : decode cX8_tells 102 = .ok (.ireturn, 1) := zd_at zhX8_tells_76 16 rfl
theorem dX8_tells_103 : decode cX8_tells 103 = .ok (.iload_n 3, 1) := zd_at zhX8_tells_76 17 rfl
theorem dX8_tells_104 : decode cX8_tells 104 = .ok (.bipush 10, 2) := zd_at zhX8_tells_76 18 rfl
theorem dX8_tells_106 : decode cX8_tells 106 = .ok (.irem, 1) := zd_at zhX8_tells_76 19 rfl
theorem dX8_tells_107 : decode cX8_tells 107 = .ok (.istore 5, 2) := zd_at zhX8_tells_76 20 rfl
theorem dX8_tells_109 : decode cX8_tells 109 = .ok (.aload_n 0, 1) := zd_at zhX8_tells_76 21 rfl
theorem dX8_tells_110 : decode cX8_tells 110 = .ok (.getfield 42, 3) := zd_at zhX8_tells_76 22 rfl
theorem dX8_tells_113 : decode cX8_tells 113 = .ok (.aload_n 0, 1) := zd_at zhX8_tells_76 23 rfl
theorem dX8_tells_114 : decode cX8_tells 114 = .ok (.getfield 51, 3) := zd_at zhX8_tells_76 24 rfl
theorem dX8_tells_117 : decode cX8_tells 117 = .ok (.iload_n 2, 1) := zd_at zhX8_tells_76 25 rfl
theorem dX8_tells_118 : decode cX8_tells 118 = .ok (.iload 5, 2) := zd_at zhX8_tells_76 26 rfl
theorem dX8_tells_120 : decode cX8_tells 120 = .ok (.invokevirtual 139, 3) := zd_at zhX8_tells_76 27 rfl
theorem dX8_tells_123 : decode cX8_tells 123 = .ok (.aload_n 0, 1) := zd_at zhX8_tells_76 28 rfl
theorem dX8_tells_124 : decode cX8_tells 124 = .ok (.getfield 42, 3) := zd_at zhX8_tells_76 29 rfl
theorem dX8_tells_127 : decode cX8_tells 127 = .ok (.getfield 199, 3) := zd_at zhX8_tells_76 30 rfl
theorem dX8_tells_130 : decode cX8_tells 130 = .ok (.iconst 0, 1) := zd_at zhX8_tells_76 31 rfl
theorem dX8_tells_131 : decode cX8_tells 131 = .ok (.iaload, 1) := zd_at zhX8_tells_76 32 rfl
theorem dX8_tells_132 : decode cX8_tells 132 = .ok (.iconst (-1), 1) := zd_at zhX8_tells_76 33 rfl
theorem dX8_tells_133 : decode cX8_tells 133 = .ok (.if_icmp .ne 15, 3) := zd_at zhX8_tells_76 34 rfl
theorem dX8_tells_136 : decode cX8_tells 136 = .ok (.iload_n 3, 1) := zd_at zhX8_tells_76 35 rfl
theorem dX8_tells_137 : decode cX8_tells 137 = .ok (.bipush 30, 2) := zd_at zhX8_tells_76 36 rfl
theorem dX8_tells_139 : decode cX8_tells 139 = .ok (.if_icmp .lt 7, 3) := zd_at zhX8_tells_76 37 rfl
theorem dX8_tells_142 : decode cX8_tells 142 = .ok (.iconst (-1), 1) := zd_at zhX8_tells_76 38 rfl
theorem dX8_tells_143 : decode cX8_tells 143 = .ok (.goto 4, 3) := zd_at zhX8_tells_76 39 rfl
def ziX8_tells_146 : List (Nat × Instr × Nat) := [(146, .iconst 0, 1), (147, .ireturn, 1), (148, .iload_n 3, 1), (149, .bipush 20, 2), (151, .if_icmp .ge 18, 3), (154, .aload_n 0, 1), (155, .aload 4, 2), (157, .getfield 232, 3), (160, .iload 5, 2), (162, .iaload, 1), (163, .invokevirtual 252, 3), (166, .goto 26, 3), (169, .aload_n 0, 1), (170, .aload 4, 2), (172, .getfield 232, 3), (175, .iload 5, 2), (177, .iaload, 1), (178, .iload_n 3, 1), (179, .bipush 30, 2), (181, .if_icmp .lt 7, 3), (184, .iconst 1, 1), (185, .goto 4, 3), (188, .iconst 0, 1), (189, .invokevirtual 255, 3), (192, .ireturn, 1)]
theorem zhX8_tells_146 : zd_chk (cX8_tells.data.toList.drop 146) 146 ziX8_tells_146 = true := by decide +kernel
theorem dX8_tells_146 : decode cX8_tells 146 = .ok (.iconst 0, 1) := zd_at zhX8_tells_146 0 rfl
theorem dX8_tells_147 : decode cX8_tells 147 = .ok (.ireturn, 1) := zd_at zhX8_tells_146 1 rfl
theorem dX8_tells_148 : decode cX8_tells 148 = .ok (.iload_n 3, 1) := zd_at zhX8_tells_146 2 rfl
theorem dX8_tells_149 : decode cX8_tells 149 = .ok (.bipush 20, 2) := zd_at zhX8_tells_146 3 rfl
theorem dX8_tells_151 : decode cX8_tells 151 = .ok (.if_icmp .ge 18, 3) := zd_at zhX8_tells_146 4 rfl
theorem dX8_tells_154 : decode cX8_tells 154 = .ok (.aload_n 0, 1) := zd_at zhX8_tells_146 5 rfl
theorem dX8_tells_155 : decode cX8_tells 155 = .ok (.aload 4, 2) := zd_at zhX8_tells_146 6 rfl
theorem dX8_tells_157 : decode cX8_tells 157 = .ok (.getfield 232, 3) := zd_at zhX8_tells_146 7 rfl
theorem dX8_tells_160 : decode cX8_tells 160 = .ok (.iload 5, 2) := zd_at zhX8_tells_146 8 rfl
theorem dX8_tells_162 : decode cX8_tells 162 = .ok (.iaload, 1) := zd_at zhX8_tells_146 9 rfl
theorem dX8_tells_163 : decode cX8_tells 163 = .ok (.invokevirtual 252, 3) := zd_at zhX8_tells_146 10 rfl
theorem dX8_tells_166 : decode cX8_tells 166 = .ok (.goto 26, 3) := zd_at zhX8_tells_146 11 rfl
theorem dX8_tells_169 : decode cX8_tells 169 = .ok (.aload_n 0, 1) := zd_at zhX8_tells_146 12 rfl
theorem dX8_tells_170 : decode cX8_tells 170 = .ok (.aload 4, 2) := zd_at zhX8_tells_146 13 rfl
theorem dX8_tells_172 : decode cX8_tells 172 = .ok (.getfield 232, 3) := zd_at zhX8_tells_146 14 rfl
theorem dX8_tells_175 : decode cX8_tells 175 = .ok (.iload 5, 2) := zd_at zhX8_tells_146 15 rfl
theorem dX8_tells_177 : decode cX8_tells 177 = .ok (.iaload, 1) := zd_at zhX8_tells_146 16 rfl
theorem dX8_tells_178 : decode cX8_tells 178 = .ok (.iload_n 3, 1) := zd_at zhX8_tells_146 17 rfl
theorem dX8_tells_179 : decode cX8_tells 179 = .ok (.bipush 30, 2) := zd_at zhX8_tells_146 18 rfl
theorem dX8_tells_181 : decode cX8_tells 181 = .ok (.if_icmp .lt 7, 3) := zd_at zhX8_tells_146 19 rfl
theorem dX8_tells_184 : decode cX8_tells 184 = .ok (.iconst 1, 1) := zd_at zhX8_tells_146 20 rfl
theorem dX8_tells_185 : decode cX8_tells 185 = .ok (.goto 4, 3) := zd_at zhX8_tells_146 21 rfl
theorem dX8_tells_188 : decode cX8_tells 188 = .ok (.iconst 0, 1) := zd_at zhX8_tells_146 22 rfl
theorem dX8_tells_189 : decode cX8_tells 189 = .ok (.invokevirtual 255, 3) := zd_at zhX8_tells_146 23 rfl
theorem dX8_tells_192 : decode cX8_tells 192 = .ok (.ireturn, 1) := zd_at zhX8_tells_146 24 rfl
def ziX8_firstOtherwise_0 : List (Nat × Instr × Nat) := [(0, .iconst 0, 1), (1, .istore 5, 2), (3, .iload 5, 2), (5, .bipush 10, 2), (7, .if_icmp .ge 106, 3), (10, .aload_n 0, 1), (11, .getfield 42, 3), (14, .aload_n 0, 1), (15, .getfield 51, 3), (18, .iload_n 2, 1), (19, .iload 5, 2), (21, .invokevirtual 139, 3), (24, .iload_n 3, 1), (25, .iconst 1, 1), (26, .if_icmp .ne 12, 3), (29, .aload_n 0, 1), (30, .getfield 42, 3), (33, .iload 4, 2), (35, .putfield 258, 3), (38, .iload_n 3, 1), (39, .iconst 2, 1), (40, .if_icmp .ne 14, 3), (43, .aload_n 0, 1), (44, .getfield 42, 3), (47, .getfield 199, 3), (50, .iconst 3, 1), (51, .iload 4, 2), (53, .iastore, 1), (54, .iload_n 3, 1), (55, .iconst 3, 1), (56, .if_icmp .ne 29, 3), (59, .iload 4, 2), (61, .aload_n 0, 1), (62, .getfield 81, 3), (65, .invokestatic 95, 3), (68, .ifCond .eq 17, 3), (71, .aload_n 0, 1), (72, .getfield 42, 3), (75, .aload_n 0, 1), (76, .getfield 11, 3)]
theorem zhX8_firstOtherwise_0 : zd_chk (cX8_firstOtherwise.data.toList.drop 0) 0 ziX8_firstOtherwise_0 = true := by decide +kernel
theorem dX8_firstOtherwise_0 : decode cX8_firstOtherwise 0 = .ok (.iconst 0, 1) := zd_at zhX8_firstOtherwise_0 0 rfl
theorem dX8_firstOtherwise_1 : decode cX8_firstOtherwise 1 = .ok (.istore 5, 2) := zd_at zhX8_firstOtherwise_0 1 rfl
theorem dX8_firstOtherwise_3 : decode cX8_firstOtherwise 3 = .ok (.iload 5, 2) := zd_at zhX8_firstOtherwise_0 2 rfl
theorem dX8_firstOtherwise_5 : decode cX8_firstOtherwise 5 = .ok (.bipush 10, 2) := zd_at zhX8_firstOtherwise_0 3 rfl
theorem dX8_firstOtherwise_7 : decode cX8_firstOtherwise 7 = .ok (.if_icmp .ge 106, 3) := zd_at zhX8_firstOtherwise_0 4 rfl
theorem dX8_firstOtherwise_10 : decode cX8_firstOtherwise 10 = .ok (.aload_n 0, 1) := zd_at zhX8_firstOtherwise_0 5 rfl
theorem dX8_firstOtherwise_11 : decode cX8_firstOtherwise 11 = .ok (.getfield 42, 3) := zd_at zhX8_firstOtherwise_0 6 rfl
theorem dX8_firstOtherwise_14 : decode cX8_firstOtherwise 14 = .ok (.aload_n 0, 1) := zd_at zhX8_firstOtherwise_0 7 rfl
theorem dX8_firstOtherwise_15 : decode cX8_firstOtherwise 15 = .ok (.getfield 51, 3) := zd_at zhX8_firstOtherwise_0 8 rfl
theorem dX8_firstOtherwise_18 : decode cX8_firstOtherwise 18 = .ok (.iload_n 2, 1) := zd_at zhX8_firstOtherwise_0 9 rfl
theorem dX8_firstOtherwise_19 : decode cX8_firstOtherwise 19 = .ok (.iload 5, 2) := zd_at zhX8_firstOtherwise_0 10 rfl
theorem dX8_firstOtherwise_21 : decode cX8_firstOtherwise 21 = .ok (.invokevirtual 139, 3) := zd_at zhX8_firstOtherwise_0 11 rfl
theorem dX8_firstOtherwise_24 : decode cX8_firstOtherwise 24 = .ok (.iload_n 3, 1) := zd_at zhX8_firstOtherwise_0 12 rfl
theorem dX8_firstOtherwise_25 : decode cX8_firstOtherwise 25 = .ok (.iconst 1, 1) := zd_at zhX8_firstOtherwise_0 13 rfl
theorem dX8_firstOtherwise_26 : decode cX8_firstOtherwise 26 = .ok (.if_icmp .ne 12, 3) := zd_at zhX8_firstOtherwise_0 14 rfl
theorem dX8_firstOtherwise_29 : decode cX8_firstOtherwise 29 = .ok (.aload_n 0, 1) := zd_at zhX8_firstOtherwise_0 15 rfl
theorem dX8_firstOtherwise_30 : decode cX8_firstOtherwise 30 = .ok (.getfield 42, 3) := zd_at zhX8_firstOtherwise_0 16 rfl
theorem dX8_firstOtherwise_33 : decode cX8_firstOtherwise 33 = .ok (.iload 4, 2) := zd_at zhX8_firstOtherwise_0 17 rfl
theorem dX8_firstOtherwise_35 : decode cX8_firstOtherwise 35 = .ok (.putfield 258, 3) := zd_at zhX8_firstOtherwise_0 18 rfl
theorem dX8_firstOtherwise_38 : decode cX8_firstOtherwise 38 = .ok (.iload_n 3, 1) := zd_at zhX8_firstOtherwise_0 19 rfl
theorem dX8_firstOtherwise_39 : decode cX8_firstOtherwise 39 = .ok (.iconst 2, 1) := zd_at zhX8_firstOtherwise_0 20 rfl
theorem dX8_firstOtherwise_40 : decode cX8_firstOtherwise 40 = .ok (.if_icmp .ne 14, 3) := zd_at zhX8_firstOtherwise_0 21 rfl
theorem dX8_firstOtherwise_43 : decode cX8_firstOtherwise 43 = .ok (.aload_n 0, 1) := zd_at zhX8_firstOtherwise_0 22 rfl
theorem dX8_firstOtherwise_44 : decode cX8_firstOtherwise 44 = .ok (.getfield 42, 3) := zd_at zhX8_firstOtherwise_0 23 rfl
theorem dX8_firstOtherwise_47 : decode cX8_firstOtherwise 47 = .ok (.getfield 199, 3) := zd_at zhX8_firstOtherwise_0 24 rfl
theorem dX8_firstOtherwise_50 : decode cX8_firstOtherwise 50 = .ok (.iconst 3, 1) := zd_at zhX8_firstOtherwise_0 25 rfl
theorem dX8_firstOtherwise_51 : decode cX8_firstOtherwise 51 = .ok (.iload 4, 2) := zd_at zhX8_firstOtherwise_0 26 rfl
theorem dX8_firstOtherwise_53 : decode cX8_firstOtherwise 53 = .ok (.iastore, 1) := zd_at zhX8_firstOtherwise_0 27 rfl
theorem dX8_firstOtherwise_54 : decode cX8_firstOtherwise 54 = .ok (.iload_n 3, 1) := zd_at zhX8_firstOtherwise_0 28 rfl
theorem dX8_firstOtherwise_55 : decode cX8_firstOtherwise 55 = .ok (.iconst 3, 1) := zd_at zhX8_firstOtherwise_0 29 rfl
theorem dX8_firstOtherwise_56 : decode cX8_firstOtherwise 56 = .ok (.if_icmp .ne 29, 3) := zd_at zhX8_firstOtherwise_0 30 rfl
theorem dX8_firstOtherwise_59 : decode cX8_firstOtherwise 59 = .ok (.iload 4, 2) := zd_at zhX8_firstOtherwise_0 31 rfl
theorem dX8_firstOtherwise_61 : decode cX8_firstOtherwise 61 = .ok (.aload_n 0, 1) := zd_at zhX8_firstOtherwise_0 32 rfl
theorem dX8_firstOtherwise_62 : decode cX8_firstOtherwise 62 = .ok (.getfield 81, 3) := zd_at zhX8_firstOtherwise_0 33 rfl
theorem dX8_firstOtherwise_65 : decode cX8_firstOtherwise 65 = .ok (.invokestatic 95, 3) := zd_at zhX8_firstOtherwise_0 34 rfl
theorem dX8_firstOtherwise_68 : decode cX8_firstOtherwise 68 = .ok (.ifCond .eq 17, 3) := zd_at zhX8_firstOtherwise_0 35 rfl
theorem dX8_firstOtherwise_71 : decode cX8_firstOtherwise 71 = .ok (.aload_n 0, 1) := zd_at zhX8_firstOtherwise_0 36 rfl
theorem dX8_firstOtherwise_72 : decode cX8_firstOtherwise 72 = .ok (.getfield 42, 3) := zd_at zhX8_firstOtherwise_0 37 rfl
theorem dX8_firstOtherwise_75 : decode cX8_firstOtherwise 75 = .ok (.aload_n 0, 1) := zd_at zhX8_firstOtherwise_0 38 rfl
theorem dX8_firstOtherwise_76 : decode cX8_firstOtherwise 76 = .ok (.getfield 11, 3) := zd_at zhX8_firstOtherwise_0 39 rfl
def ziX8_firstOtherwise_79 : List (Nat × Instr × Nat) := [(79, .iload 4, 2), (81, .aaload, 1), (82, .putfield 259, 3), (85, .aload_n 0, 1), (86, .getfield 42, 3), (89, .bipush 60, 2), (91, .invokevirtual 181, 3), (94, .aload_n 1, 1), (95, .getfield 232, 3), (98, .iload 5, 2), (100, .iaload, 1), (101, .if_icmp .eq 6, 3), (104, .iload 5, 2), (106, .ireturn, 1), (107, .iinc 5 1, 3), (110, .goto (-107), 3), (113, .iconst (-1), 1), (114, .ireturn, 1)]
theorem zhX8_firstOtherwise_79 : zd_chk (cX8_firstOtherwise.data.toList.drop 79) 79 ziX8_firstOtherwise_79 = true := by decide +kernel
theorem dX8_firstOtherwise_79 : decode cX8_firstOtherwise 79 = .ok (.iload 4, 2) := zd_at zhX8_firstOtherwise_79 0 rfl
theorem dX8_firstOtherwise_81 : decode cX8_firstOtherwise 81 = .ok (.aaload, 1) := zd_at zhX8_firstOtherwise_79 1 rfl
theorem dX8_firstOtherwise_82 : decode cX8_firstOtherwise 82 = .ok (.putfield 259, 3) := zd_at zhX8_firstOtherwise_79 2 rfl
theorem dX8_firstOtherwise_85 : decode cX8_firstOtherwise 85 = .ok (.aload_n 0, 1) := zd_at zhX8_firstOtherwise_79 3 rfl
theorem dX8_firstOtherwise_86 : decode cX8_firstOtherwise 86 = .ok (.getfield 42, 3) := zd_at zhX8_firstOtherwise_79 4 rfl
theorem dX8_firstOtherwise_89 : decode cX8_firstOtherwise 89 = .ok (.bipush 60, 2) := zd_at zhX8_firstOtherwise_79 5 rfl
theorem dX8_firstOtherwise_91 : decode cX8_firstOtherwise 91 = .ok (.invokevirtual 181, 3) := zd_at zhX8_firstOtherwise_79 6 rfl
theorem dX8_firstOtherwise_94 : decode cX8_firstOtherwise 94 = .ok (.aload_n 1, 1) := zd_at zhX8_firstOtherwise_79 7 rfl
theorem dX8_firstOtherwise_95 : decode cX8_firstOtherwise 95 = .ok (.getfield 232, 3) := zd_at zhX8_firstOtherwise_79 8 rfl
theorem dX8_firstOtherwise_98 : decode cX8_firstOtherwise 98 = .ok (.iload 5, 2) := zd_at zhX8_firstOtherwise_79 9 rfl
theorem dX8_firstOtherwise_100 : decode cX8_firstOtherwise 100 = .ok (.iaload, 1) := zd_at zhX8_firstOtherwise_79 10 rfl
theorem dX8_firstOtherwise_101 : decode cX8_firstOtherwise 101 = .ok (.if_icmp .eq 6, 3) := zd_at zhX8_firstOtherwise_79 11 rfl
theorem dX8_firstOtherwise_104 : decode cX8_firstOtherwise 104 = .ok (.iload 5, 2) := zd_at zhX8_firstOtherwise_79 12 rfl
theorem dX8_firstOtherwise_106 : decode cX8_firstOtherwise 106 = .ok (.ireturn, 1) := zd_at zhX8_firstOtherwise_79 13 rfl
theorem dX8_firstOtherwise_107 : decode cX8_firstOtherwise 107 = .ok (.iinc 5 1, 3) := zd_at zhX8_firstOtherwise_79 14 rfl
theorem dX8_firstOtherwise_110 : decode cX8_firstOtherwise 110 = .ok (.goto (-107), 3) := zd_at zhX8_firstOtherwise_79 15 rfl
theorem dX8_firstOtherwise_113 : decode cX8_firstOtherwise 113 = .ok (.iconst (-1), 1) := zd_at zhX8_firstOtherwise_79 16 rfl
theorem dX8_firstOtherwise_114 : decode cX8_firstOtherwise 114 = .ok (.ireturn, 1) := zd_at zhX8_firstOtherwise_79 17 rfl
def ziX8_allAsTold_0 : List (Nat × Instr × Nat) := [(0, .iload_n 3, 1), (1, .iconst 1, 1), (2, .if_icmp .ne 8, 3), (5, .bipush 6, 2), (7, .goto 17, 3), (10, .iload_n 3, 1), (11, .iconst 2, 1), (12, .if_icmp .ne 8, 3), (15, .bipush 10, 2), (17, .goto 7, 3), (20, .aload_n 0, 1), (21, .getfield 81, 3), (24, .istore 4, 2), (26, .iconst 0, 1), (27, .istore 5, 2), (29, .iconst 0, 1), (30, .istore 6, 2), (32, .iload 6, 2), (34, .iload 4, 2), (36, .if_icmp .ge 31, 3), (39, .aload_n 0, 1), (40, .aload_n 1, 1), (41, .iload_n 2, 1), (42, .iload_n 3, 1), (43, .iload 6, 2), (45, .invokevirtual 244, 3), (48, .iconst (-1), 1), (49, .if_icmp .ne 12, 3), (52, .iload 5, 2), (54, .iconst 1, 1), (55, .iload 6, 2), (57, .ishl, 1), (58, .ior, 1), (59, .istore 5, 2), (61, .iinc 6 1, 3), (64, .goto (-32), 3), (67, .iload 5, 2), (69, .ireturn, 1)]
theorem zhX8_allAsTold_0 : zd_chk (cX8_allAsTold.data.toList.drop 0) 0 ziX8_allAsTold_0 = true := by decide +kernel
theorem dX8_allAsTold_0 : decode cX8_allAsTold 0 = .ok (.iload_n 3, 1) := zd_at zhX8_allAsTold_0 0 rfl
theorem dX8_allAsTold_1 : decode cX8_allAsTold 1 = .ok (.iconst 1, 1) := zd_at zhX8_allAsTold_0 1 rfl
theorem dX8_allAsTold_2 : decode cX8_allAsTold 2 = .ok (.if_icmp .ne 8, 3) := zd_at zhX8_allAsTold_0 2 rfl
theorem dX8_allAsTold_5 : decode cX8_allAsTold 5 = .ok (.bipush 6, 2) := zd_at zhX8_allAsTold_0 3 rfl
theorem dX8_allAsTold_7 : decode cX8_allAsTold 7 = .ok (.goto 17, 3) := zd_at zhX8_allAsTold_0 4 rfl
theorem dX8_allAsTold_10 : decode cX8_allAsTold 10 = .ok (.iload_n 3, 1) := zd_at zhX8_allAsTold_0 5 rfl
theorem dX8_allAsTold_11 : decode cX8_allAsTold 11 = .ok (.iconst 2, 1) := zd_at zhX8_allAsTold_0 6 rfl
theorem dX8_allAsTold_12 : decode cX8_allAsTold 12 = .ok (.if_icmp .ne 8, 3) := zd_at zhX8_allAsTold_0 7 rfl
theorem dX8_allAsTold_15 : decode cX8_allAsTold 15 = .ok (.bipush 10, 2) := zd_at zhX8_allAsTold_0 8 rfl
theorem dX8_allAsTold_17 : decode cX8_allAsTold 17 = .ok (.goto 7, 3) := zd_at zhX8_allAsTold_0 9 rfl
theorem dX8_allAsTold_20 : decode cX8_allAsTold 20 = .ok (.aload_n 0, 1) := zd_at zhX8_allAsTold_0 10 rfl
theorem dX8_allAsTold_21 : decode cX8_allAsTold 21 = .ok (.getfield 81, 3) := zd_at zhX8_allAsTold_0 11 rfl
theorem dX8_allAsTold_24 : decode cX8_allAsTold 24 = .ok (.istore 4, 2) := zd_at zhX8_allAsTold_0 12 rfl
theorem dX8_allAsTold_26 : decode cX8_allAsTold 26 = .ok (.iconst 0, 1) := zd_at zhX8_allAsTold_0 13 rfl
theorem dX8_allAsTold_27 : decode cX8_allAsTold 27 = .ok (.istore 5, 2) := zd_at zhX8_allAsTold_0 14 rfl
theorem dX8_allAsTold_29 : decode cX8_allAsTold 29 = .ok (.iconst 0, 1) := zd_at zhX8_allAsTold_0 15 rfl
theorem dX8_allAsTold_30 : decode cX8_allAsTold 30 = .ok (.istore 6, 2) := zd_at zhX8_allAsTold_0 16 rfl
theorem dX8_allAsTold_32 : decode cX8_allAsTold 32 = .ok (.iload 6, 2) := zd_at zhX8_allAsTold_0 17 rfl
theorem dX8_allAsTold_34 : decode cX8_allAsTold 34 = .ok (.iload 4, 2) := zd_at zhX8_allAsTold_0 18 rfl
theorem dX8_allAsTold_36 : decode cX8_allAsTold 36 = .ok (.if_icmp .ge 31, 3) := zd_at zhX8_allAsTold_0 19 rfl
theorem dX8_allAsTold_39 : decode cX8_allAsTold 39 = .ok (.aload_n 0, 1) := zd_at zhX8_allAsTold_0 20 rfl
theorem dX8_allAsTold_40 : decode cX8_allAsTold 40 = .ok (.aload_n 1, 1) := zd_at zhX8_allAsTold_0 21 rfl
theorem dX8_allAsTold_41 : decode cX8_allAsTold 41 = .ok (.iload_n 2, 1) := zd_at zhX8_allAsTold_0 22 rfl
theorem dX8_allAsTold_42 : decode cX8_allAsTold 42 = .ok (.iload_n 3, 1) := zd_at zhX8_allAsTold_0 23 rfl
theorem dX8_allAsTold_43 : decode cX8_allAsTold 43 = .ok (.iload 6, 2) := zd_at zhX8_allAsTold_0 24 rfl
theorem dX8_allAsTold_45 : decode cX8_allAsTold 45 = .ok (.invokevirtual 244, 3) := zd_at zhX8_allAsTold_0 25 rfl
theorem dX8_allAsTold_48 : decode cX8_allAsTold 48 = .ok (.iconst (-1), 1) := zd_at zhX8_allAsTold_0 26 rfl
theorem dX8_allAsTold_49 : decode cX8_allAsTold 49 = .ok (.if_icmp .ne 12, 3) := zd_at zhX8_allAsTold_0 27 rfl
theorem dX8_allAsTold_52 : decode cX8_allAsTold 52 = .ok (.iload 5, 2) := zd_at zhX8_allAsTold_0 28 rfl
theorem dX8_allAsTold_54 : decode cX8_allAsTold 54 = .ok (.iconst 1, 1) := zd_at zhX8_allAsTold_0 29 rfl
theorem dX8_allAsTold_55 : decode cX8_allAsTold 55 = .ok (.iload 6, 2) := zd_at zhX8_allAsTold_0 30 rfl
theorem dX8_allAsTold_57 : decode cX8_allAsTold 57 = .ok (.ishl, 1) := zd_at zhX8_allAsTold_0 31 rfl
theorem dX8_allAsTold_58 : decode cX8_allAsTold 58 = .ok (.ior, 1) := zd_at zhX8_allAsTold_0 32 rfl
theorem dX8_allAsTold_59 : decode cX8_allAsTold 59 = .ok (.istore 5, 2) := zd_at zhX8_allAsTold_0 33 rfl
theorem dX8_allAsTold_61 : decode cX8_allAsTold 61 = .ok (.iinc 6 1, 3) := zd_at zhX8_allAsTold_0 34 rfl
theorem dX8_allAsTold_64 : decode cX8_allAsTold 64 = .ok (.goto (-32), 3) := zd_at zhX8_allAsTold_0 35 rfl
theorem dX8_allAsTold_67 : decode cX8_allAsTold 67 = .ok (.iload 5, 2) := zd_at zhX8_allAsTold_0 36 rfl
theorem dX8_allAsTold_69 : decode cX8_allAsTold 69 = .ok (.ireturn, 1) := zd_at zhX8_allAsTold_0 37 rfl
def ziX8_wordsAsTold_0 : List (Nat × Instr × Nat) := [(0, .iconst 0, 1), (1, .istore_n 2, 1), (2, .iconst 0, 1), (3, .istore_n 3, 1), (4, .iload_n 3, 1), (5, .bipush 16, 2), (7, .if_icmp .ge 38, 3), (10, .aload_n 0, 1), (11, .getfield 42, 3), (14, .getfield 199, 3), (17, .iconst 0, 1), (18, .iload_n 3, 1), (19, .iastore, 1), (20, .aload_n 0, 1), (21, .getfield 42, 3), (24, .bipush 60, 2), (26, .invokevirtual 181, 3), (29, .iload_n 1, 1), (30, .if_icmp .ne 9, 3), (33, .iload_n 2, 1), (34, .iconst 1, 1), (35, .iload_n 3, 1), (36, .ishl, 1), (37, .ior, 1), (38, .istore_n 2, 1), (39, .iinc 3 1, 3), (42, .goto (-38), 3), (45, .iload_n 2, 1), (46, .ireturn, 1)]
theorem zhX8_wordsAsTold_0 : zd_chk (cX8_wordsAsTold.data.toList.drop 0) 0 ziX8_wordsAsTold_0 = true := by decide +kernel
theorem dX8_wordsAsTold_0 : decode cX8_wordsAsTold 0 = .ok (.iconst 0, 1) := zd_at zhX8_wordsAsTold_0 0 rfl
theorem dX8_wordsAsTold_1 : decode cX8_wordsAsTold 1 = .ok (.istore_n 2, 1) := zd_at zhX8_wordsAsTold_0 1 rfl
theorem dX8_wordsAsTold_2 : decode cX8_wordsAsTold 2 = .ok (.iconst 0, 1) := zd_at zhX8_wordsAsTold_0 2 rfl
theorem dX8_wordsAsTold_3 : decode cX8_wordsAsTold 3 = .ok (.istore_n 3, 1) := zd_at zhX8_wordsAsTold_0 3 rfl
theorem dX8_wordsAsTold_4 : decode cX8_wordsAsTold 4 = .ok (.iload_n 3, 1) := zd_at zhX8_wordsAsTold_0 4 rfl
theorem dX8_wordsAsTold_5 : decode cX8_wordsAsTold 5 = .ok (.bipush 16, 2) := zd_at zhX8_wordsAsTold_0 5 rfl
theorem dX8_wordsAsTold_7 : decode cX8_wordsAsTold 7 = .ok (.if_icmp .ge 38, 3) := zd_at zhX8_wordsAsTold_0 6 rfl
theorem dX8_wordsAsTold_10 : decode cX8_wordsAsTold 10 = .ok (.aload_n 0, 1) := zd_at zhX8_wordsAsTold_0 7 rfl
theorem dX8_wordsAsTold_11 : decode cX8_wordsAsTold 11 = .ok (.getfield 42, 3) := zd_at zhX8_wordsAsTold_0 8 rfl
theorem dX8_wordsAsTold_14 : decode cX8_wordsAsTold 14 = .ok (.getfield 199, 3) := zd_at zhX8_wordsAsTold_0 9 rfl
theorem dX8_wordsAsTold_17 : decode cX8_wordsAsTold 17 = .ok (.iconst 0, 1) := zd_at zhX8_wordsAsTold_0 10 rfl
theorem dX8_wordsAsTold_18 : decode cX8_wordsAsTold 18 = .ok (.iload_n 3, 1) := zd_at zhX8_wordsAsTold_0 11 rfl
theorem dX8_wordsAsTold_19 : decode cX8_wordsAsTold 19 = .ok (.iastore, 1) := zd_at zhX8_wordsAsTold_0 12 rfl
theorem dX8_wordsAsTold_20 : decode cX8_wordsAsTold 20 = .ok (.aload_n 0, 1) := zd_at zhX8_wordsAsTold_0 13 rfl
theorem dX8_wordsAsTold_21 : decode cX8_wordsAsTold 21 = .ok (.getfield 42, 3) := zd_at zhX8_wordsAsTold_0 14 rfl
theorem dX8_wordsAsTold_24 : decode cX8_wordsAsTold 24 = .ok (.bipush 60, 2) := zd_at zhX8_wordsAsTold_0 15 rfl
theorem dX8_wordsAsTold_26 : decode cX8_wordsAsTold 26 = .ok (.invokevirtual 181, 3) := zd_at zhX8_wordsAsTold_0 16 rfl
theorem dX8_wordsAsTold_29 : decode cX8_wordsAsTold 29 = .ok (.iload_n 1, 1) := zd_at zhX8_wordsAsTold_0 17 rfl
theorem dX8_wordsAsTold_30 : decode cX8_wordsAsTold 30 = .ok (.if_icmp .ne 9, 3) := zd_at zhX8_wordsAsTold_0 18 rfl
theorem dX8_wordsAsTold_33 : decode cX8_wordsAsTold 33 = .ok (.iload_n 2, 1) := zd_at zhX8_wordsAsTold_0 19 rfl
theorem dX8_wordsAsTold_34 : decode cX8_wordsAsTold 34 = .ok (.iconst 1, 1) := zd_at zhX8_wordsAsTold_0 20 rfl
theorem dX8_wordsAsTold_35 : decode cX8_wordsAsTold 35 = .ok (.iload_n 3, 1) := zd_at zhX8_wordsAsTold_0 21 rfl
theorem dX8_wordsAsTold_36 : decode cX8_wordsAsTold 36 = .ok (.ishl, 1) := zd_at zhX8_wordsAsTold_0 22 rfl
theorem dX8_wordsAsTold_37 : decode cX8_wordsAsTold 37 = .ok (.ior, 1) := zd_at zhX8_wordsAsTold_0 23 rfl
theorem dX8_wordsAsTold_38 : decode cX8_wordsAsTold 38 = .ok (.istore_n 2, 1) := zd_at zhX8_wordsAsTold_0 24 rfl
theorem dX8_wordsAsTold_39 : decode cX8_wordsAsTold 39 = .ok (.iinc 3 1, 3) := zd_at zhX8_wordsAsTold_0 25 rfl
theorem dX8_wordsAsTold_42 : decode cX8_wordsAsTold 42 = .ok (.goto (-38), 3) := zd_at zhX8_wordsAsTold_0 26 rfl
theorem dX8_wordsAsTold_45 : decode cX8_wordsAsTold 45 = .ok (.iload_n 2, 1) := zd_at zhX8_wordsAsTold_0 27 rfl
theorem dX8_wordsAsTold_46 : decode cX8_wordsAsTold 46 = .ok (.ireturn, 1) := zd_at zhX8_wordsAsTold_0 28 rfl
def ziX8_agesAsTold_0 : List (Nat × Instr × Nat) := [(0, .iconst 0, 1), (1, .istore_n 3, 1), (2, .iconst 0, 1), (3, .istore 4, 2), (5, .iload 4, 2), (7, .bipush 61, 2), (9, .if_icmp .ge 44, 3), (12, .aload_n 0, 1), (13, .getfield 42, 3), (16, .iload 4, 2), (18, .putfield 202, 3), (21, .aload_n 0, 1), (22, .getfield 42, 3), (25, .bipush 60, 2), (27, .invokevirtual 181, 3), (30, .iload_n 1, 1), (31, .if_icmp .eq 6, 3), (34, .goto 13, 3), (37, .iload_n 2, 1), (38, .ifCond .eq 6, 3), (41, .iload 4, 2), (43, .ireturn, 1), (44, .iinc 3 1, 3), (47, .iinc 4 1, 3), (50, .goto (-45), 3), (53, .iload_n 2, 1), (54, .ifCond .eq 7, 3), (57, .iconst (-1), 1), (58, .goto 4, 3), (61, .iload_n 3, 1), (62, .ireturn, 1)]
theorem zhX8_agesAsTold_0 : zd_chk (cX8_agesAsTold.data.toList.drop 0) 0 ziX8_agesAsTold_0 = true := by decide +kernel
theorem dX8_agesAsTold_0 : decode cX8_agesAsTold 0 = .ok (.iconst 0, 1) := zd_at zhX8_agesAsTold_0 0 rfl
theorem dX8_agesAsTold_1 : decode cX8_agesAsTold 1 = .ok (.istore_n 3, 1) := zd_at zhX8_agesAsTold_0 1 rfl
theorem dX8_agesAsTold_2 : decode cX8_agesAsTold 2 = .ok (.iconst 0, 1) := zd_at zhX8_agesAsTold_0 2 rfl
theorem dX8_agesAsTold_3 : decode cX8_agesAsTold 3 = .ok (.istore 4, 2) := zd_at zhX8_agesAsTold_0 3 rfl
theorem dX8_agesAsTold_5 : decode cX8_agesAsTold 5 = .ok (.iload 4, 2) := zd_at zhX8_agesAsTold_0 4 rfl
theorem dX8_agesAsTold_7 : decode cX8_agesAsTold 7 = .ok (.bipush 61, 2) := zd_at zhX8_agesAsTold_0 5 rfl
theorem dX8_agesAsTold_9 : decode cX8_agesAsTold 9 = .ok (.if_icmp .ge 44, 3) := zd_at zhX8_agesAsTold_0 6 rfl
theorem dX8_agesAsTold_12 : decode cX8_agesAsTold 12 = .ok (.aload_n 0, 1) := zd_at zhX8_agesAsTold_0 7 rfl
theorem dX8_agesAsTold_13 : decode cX8_agesAsTold 13 = .ok (.getfield 42, 3) := zd_at zhX8_agesAsTold_0 8 rfl
theorem dX8_agesAsTold_16 : decode cX8_agesAsTold 16 = .ok (.iload 4, 2) := zd_at zhX8_agesAsTold_0 9 rfl
theorem dX8_agesAsTold_18 : decode cX8_agesAsTold 18 = .ok (.putfield 202, 3) := zd_at zhX8_agesAsTold_0 10 rfl
theorem dX8_agesAsTold_21 : decode cX8_agesAsTold 21 = .ok (.aload_n 0, 1) := zd_at zhX8_agesAsTold_0 11 rfl
theorem dX8_agesAsTold_22 : decode cX8_agesAsTold 22 = .ok (.getfield 42, 3) := zd_at zhX8_agesAsTold_0 12 rfl
theorem dX8_agesAsTold_25 : decode cX8_agesAsTold 25 = .ok (.bipush 60, 2) := zd_at zhX8_agesAsTold_0 13 rfl
theorem dX8_agesAsTold_27 : decode cX8_agesAsTold 27 = .ok (.invokevirtual 181, 3) := zd_at zhX8_agesAsTold_0 14 rfl
theorem dX8_agesAsTold_30 : decode cX8_agesAsTold 30 = .ok (.iload_n 1, 1) := zd_at zhX8_agesAsTold_0 15 rfl
theorem dX8_agesAsTold_31 : decode cX8_agesAsTold 31 = .ok (.if_icmp .eq 6, 3) := zd_at zhX8_agesAsTold_0 16 rfl
theorem dX8_agesAsTold_34 : decode cX8_agesAsTold 34 = .ok (.goto 13, 3) := zd_at zhX8_agesAsTold_0 17 rfl
theorem dX8_agesAsTold_37 : decode cX8_agesAsTold 37 = .ok (.iload_n 2, 1) := zd_at zhX8_agesAsTold_0 18 rfl
theorem dX8_agesAsTold_38 : decode cX8_agesAsTold 38 = .ok (.ifCond .eq 6, 3) := zd_at zhX8_agesAsTold_0 19 rfl
theorem dX8_agesAsTold_41 : decode cX8_agesAsTold 41 = .ok (.iload 4, 2) := zd_at zhX8_agesAsTold_0 20 rfl
theorem dX8_agesAsTold_43 : decode cX8_agesAsTold 43 = .ok (.ireturn, 1) := zd_at zhX8_agesAsTold_0 21 rfl
theorem dX8_agesAsTold_44 : decode cX8_agesAsTold 44 = .ok (.iinc 3 1, 3) := zd_at zhX8_agesAsTold_0 22 rfl
theorem dX8_agesAsTold_47 : decode cX8_agesAsTold 47 = .ok (.iinc 4 1, 3) := zd_at zhX8_agesAsTold_0 23 rfl
theorem dX8_agesAsTold_50 : decode cX8_agesAsTold 50 = .ok (.goto (-45), 3) := zd_at zhX8_agesAsTold_0 24 rfl
theorem dX8_agesAsTold_53 : decode cX8_agesAsTold 53 = .ok (.iload_n 2, 1) := zd_at zhX8_agesAsTold_0 25 rfl
theorem dX8_agesAsTold_54 : decode cX8_agesAsTold 54 = .ok (.ifCond .eq 7, 3) := zd_at zhX8_agesAsTold_0 26 rfl
theorem dX8_agesAsTold_57 : decode cX8_agesAsTold 57 = .ok (.iconst (-1), 1) := zd_at zhX8_agesAsTold_0 27 rfl
theorem dX8_agesAsTold_58 : decode cX8_agesAsTold 58 = .ok (.goto 4, 3) := zd_at zhX8_agesAsTold_0 28 rfl
theorem dX8_agesAsTold_61 : decode cX8_agesAsTold 61 = .ok (.iload_n 3, 1) := zd_at zhX8_agesAsTold_0 29 rfl
theorem dX8_agesAsTold_62 : decode cX8_agesAsTold 62 = .ok (.ireturn, 1) := zd_at zhX8_agesAsTold_0 30 rfl
def ziX8_film_0 : List (Nat × Instr × Nat) := [(0, .iload_n 1, 1), (1, .iconst 4, 1), (2, .invokestatic 95, 3), (5, .ifCond .eq 11, 3), (8, .aload_n 0, 1), (9, .iload_n 2, 1), (10, .invokevirtual 91, 3), (13, .ifCond .ne 6, 3), (16, .bipush (-2), 2), (18, .ireturn, 1), (19, .aload_n 0, 1), (20, .getfield 17, 3), (23, .iload_n 1, 1), (24, .aaload, 1), (25, .iconst 0, 1), (26, .bipush 10, 2), (28, .invokevirtual 263, 3), (31, .iconst 0, 1), (32, .istore_n 3, 1), (33, .iload_n 3, 1), (34, .bipush 10, 2), (36, .if_icmp .ge 41, 3), (39, .aload_n 0, 1), (40, .getfield 42, 3), (43, .aload_n 0, 1), (44, .getfield 51, 3), (47, .iload_n 2, 1), (48, .iload_n 3, 1), (49, .invokevirtual 139, 3), (52, .aload_n 0, 1), (53, .getfield 17, 3), (56, .iload_n 1, 1), (57, .aaload, 1), (58, .iload_n 3, 1), (59, .aload_n 0, 1), (60, .getfield 42, 3), (63, .bipush 60, 2), (65, .invokevirtual 181, 3), (68, .invokevirtual 266, 3), (71, .iinc 3 1, 3)]
theorem zhX8_film_0 : zd_chk (cX8_film.data.toList.drop 0) 0 ziX8_film_0 = true := by decide +kernel
theorem dX8_film_0 : decode cX8_film 0 = .ok (.iload_n 1, 1) := zd_at zhX8_film_0 0 rfl
theorem dX8_film_1 : decode cX8_film 1 = .ok (.iconst 4, 1) := zd_at zhX8_film_0 1 rfl
theorem dX8_film_2 : decode cX8_film 2 = .ok (.invokestatic 95, 3) := zd_at zhX8_film_0 2 rfl
theorem dX8_film_5 : decode cX8_film 5 = .ok (.ifCond .eq 11, 3) := zd_at zhX8_film_0 3 rfl
theorem dX8_film_8 : decode cX8_film 8 = .ok (.aload_n 0, 1) := zd_at zhX8_film_0 4 rfl
theorem dX8_film_9 : decode cX8_film 9 = .ok (.iload_n 2, 1) := zd_at zhX8_film_0 5 rfl
theorem dX8_film_10 : decode cX8_film 10 = .ok (.invokevirtual 91, 3) := zd_at zhX8_film_0 6 rfl
theorem dX8_film_13 : decode cX8_film 13 = .ok (.ifCond .ne 6, 3) := zd_at zhX8_film_0 7 rfl
theorem dX8_film_16 : decode cX8_film 16 = .ok (.bipush (-2), 2) := zd_at zhX8_film_0 8 rfl
theorem dX8_film_18 : decode cX8_film 18 = .ok (.ireturn, 1) := zd_at zhX8_film_0 9 rfl
theorem dX8_film_19 : decode cX8_film 19 = .ok (.aload_n 0, 1) := zd_at zhX8_film_0 10 rfl
theorem dX8_film_20 : decode cX8_film 20 = .ok (.getfield 17, 3) := zd_at zhX8_film_0 11 rfl
theorem dX8_film_23 : decode cX8_film 23 = .ok (.iload_n 1, 1) := zd_at zhX8_film_0 12 rfl
theorem dX8_film_24 : decode cX8_film 24 = .ok (.aaload, 1) := zd_at zhX8_film_0 13 rfl
theorem dX8_film_25 : decode cX8_film 25 = .ok (.iconst 0, 1) := zd_at zhX8_film_0 14 rfl
theorem dX8_film_26 : decode cX8_film 26 = .ok (.bipush 10, 2) := zd_at zhX8_film_0 15 rfl
theorem dX8_film_28 : decode cX8_film 28 = .ok (.invokevirtual 263, 3) := zd_at zhX8_film_0 16 rfl
theorem dX8_film_31 : decode cX8_film 31 = .ok (.iconst 0, 1) := zd_at zhX8_film_0 17 rfl
theorem dX8_film_32 : decode cX8_film 32 = .ok (.istore_n 3, 1) := zd_at zhX8_film_0 18 rfl
theorem dX8_film_33 : decode cX8_film 33 = .ok (.iload_n 3, 1) := zd_at zhX8_film_0 19 rfl
theorem dX8_film_34 : decode cX8_film 34 = .ok (.bipush 10, 2) := zd_at zhX8_film_0 20 rfl
theorem dX8_film_36 : decode cX8_film 36 = .ok (.if_icmp .ge 41, 3) := zd_at zhX8_film_0 21 rfl
theorem dX8_film_39 : decode cX8_film 39 = .ok (.aload_n 0, 1) := zd_at zhX8_film_0 22 rfl
theorem dX8_film_40 : decode cX8_film 40 = .ok (.getfield 42, 3) := zd_at zhX8_film_0 23 rfl
theorem dX8_film_43 : decode cX8_film 43 = .ok (.aload_n 0, 1) := zd_at zhX8_film_0 24 rfl
theorem dX8_film_44 : decode cX8_film 44 = .ok (.getfield 51, 3) := zd_at zhX8_film_0 25 rfl
theorem dX8_film_47 : decode cX8_film 47 = .ok (.iload_n 2, 1) := zd_at zhX8_film_0 26 rfl
theorem dX8_film_48 : decode cX8_film 48 = .ok (.iload_n 3, 1) := zd_at zhX8_film_0 27 rfl
theorem dX8_film_49 : decode cX8_film 49 = .ok (.invokevirtual 139, 3) := zd_at zhX8_film_0 28 rfl
theorem dX8_film_52 : decode cX8_film 52 = .ok (.aload_n 0, 1) := zd_at zhX8_film_0 29 rfl
theorem dX8_film_53 : decode cX8_film 53 = .ok (.getfield 17, 3) := zd_at zhX8_film_0 30 rfl
theorem dX8_film_56 : decode cX8_film 56 = .ok (.iload_n 1, 1) := zd_at zhX8_film_0 31 rfl
theorem dX8_film_57 : decode cX8_film 57 = .ok (.aaload, 1) := zd_at zhX8_film_0 32 rfl
theorem dX8_film_58 : decode cX8_film 58 = .ok (.iload_n 3, 1) := zd_at zhX8_film_0 33 rfl
theorem dX8_film_59 : decode cX8_film 59 = .ok (.aload_n 0, 1) := zd_at zhX8_film_0 34 rfl
theorem dX8_film_60 : decode cX8_film 60 = .ok (.getfield 42, 3) := zd_at zhX8_film_0 35 rfl
theorem dX8_film_63 : decode cX8_film 63 = .ok (.bipush 60, 2) := zd_at zhX8_film_0 36 rfl
theorem dX8_film_65 : decode cX8_film 65 = .ok (.invokevirtual 181, 3) := zd_at zhX8_film_0 37 rfl
theorem dX8_film_68 : decode cX8_film 68 = .ok (.invokevirtual 266, 3) := zd_at zhX8_film_0 38 rfl
theorem dX8_film_71 : decode cX8_film 71 = .ok (.iinc 3 1, 3) := zd_at zhX8_film_0 39 rfl
def ziX8_film_74 : List (Nat × Instr × Nat) := [(74, .goto (-41), 3), (77, .bipush 10, 2), (79, .ireturn, 1)]
theorem zhX8_film_74 : zd_chk (cX8_film.data.toList.drop 74) 74 ziX8_film_74 = true := by decide +kernel
theorem dX8_film_74 : decode cX8_film 74 = .ok (.goto (-41), 3) := zd_at zhX8_film_74 0 rfl
theorem dX8_film_77 : decode cX8_film 77 = .ok (.bipush 10, 2) := zd_at zhX8_film_74 1 rfl
theorem dX8_film_79 : decode cX8_film 79 = .ok (.ireturn, 1) := zd_at zhX8_film_74 2 rfl
def ziX8_drawn_0 : List (Nat × Instr × Nat) := [(0, .aload_n 0, 1), (1, .iload_n 1, 1), (2, .invokevirtual 91, 3), (5, .ifCond .eq 13, 3), (8, .iload_n 3, 1), (9, .ifCond .lt 9, 3), (12, .iload_n 3, 1), (13, .bipush 16, 2), (15, .if_icmp .le 6, 3), (18, .bipush (-2), 2), (20, .ireturn, 1), (21, .aload_n 0, 1), (22, .iload_n 1, 1), (23, .iload_n 2, 1), (24, .iload_n 3, 1), (25, .invokevirtual 268, 3), (28, .ireturn, 1)]
theorem zhX8_drawn_0 : zd_chk (cX8_drawn.data.toList.drop 0) 0 ziX8_drawn_0 = true := by decide +kernel
theorem dX8_drawn_0 : decode cX8_drawn 0 = .ok (.aload_n 0, 1) := zd_at zhX8_drawn_0 0 rfl
theorem dX8_drawn_1 : decode cX8_drawn 1 = .ok (.iload_n 1, 1) := zd_at zhX8_drawn_0 1 rfl
theorem dX8_drawn_2 : decode cX8_drawn 2 = .ok (.invokevirtual 91, 3) := zd_at zhX8_drawn_0 2 rfl
theorem dX8_drawn_5 : decode cX8_drawn 5 = .ok (.ifCond .eq 13, 3) := zd_at zhX8_drawn_0 3 rfl
theorem dX8_drawn_8 : decode cX8_drawn 8 = .ok (.iload_n 3, 1) := zd_at zhX8_drawn_0 4 rfl
theorem dX8_drawn_9 : decode cX8_drawn 9 = .ok (.ifCond .lt 9, 3) := zd_at zhX8_drawn_0 5 rfl
theorem dX8_drawn_12 : decode cX8_drawn 12 = .ok (.iload_n 3, 1) := zd_at zhX8_drawn_0 6 rfl
theorem dX8_drawn_13 : decode cX8_drawn 13 = .ok (.bipush 16, 2) := zd_at zhX8_drawn_0 7 rfl
theorem dX8_drawn_15 : decode cX8_drawn 15 = .ok (.if_icmp .le 6, 3) := zd_at zhX8_drawn_0 8 rfl
theorem dX8_drawn_18 : decode cX8_drawn 18 = .ok (.bipush (-2), 2) := zd_at zhX8_drawn_0 9 rfl
theorem dX8_drawn_20 : decode cX8_drawn 20 = .ok (.ireturn, 1) := zd_at zhX8_drawn_0 10 rfl
theorem dX8_drawn_21 : decode cX8_drawn 21 = .ok (.aload_n 0, 1) := zd_at zhX8_drawn_0 11 rfl
theorem dX8_drawn_22 : decode cX8_drawn 22 = .ok (.iload_n 1, 1) := zd_at zhX8_drawn_0 12 rfl
theorem dX8_drawn_23 : decode cX8_drawn 23 = .ok (.iload_n 2, 1) := zd_at zhX8_drawn_0 13 rfl
theorem dX8_drawn_24 : decode cX8_drawn 24 = .ok (.iload_n 3, 1) := zd_at zhX8_drawn_0 14 rfl
theorem dX8_drawn_25 : decode cX8_drawn 25 = .ok (.invokevirtual 268, 3) := zd_at zhX8_drawn_0 15 rfl
theorem dX8_drawn_28 : decode cX8_drawn 28 = .ok (.ireturn, 1) := zd_at zhX8_drawn_0 16 rfl
def ziX8_stuckByDraw_0 : List (Nat × Instr × Nat) := [(0, .aload_n 0, 1), (1, .getfield 55, 3), (4, .aload_n 0, 1), (5, .getfield 51, 3), (8, .invokevirtual 226, 3), (11, .iconst 0, 1), (12, .istore 4, 2), (14, .iload_n 2, 1), (15, .istore 5, 2), (17, .iconst 0, 1), (18, .istore 6, 2), (20, .iload 6, 2), (22, .iload_n 3, 1), (23, .if_icmp .ge 46, 3), (26, .iload 5, 2), (28, .ldc_w 271, 3), (31, .imul, 1), (32, .sipush 12345, 3), (35, .iadd, 1), (36, .istore 5, 2), (38, .aload_n 0, 1), (39, .getfield 55, 3), (42, .iload_n 1, 1), (43, .iload 6, 2), (45, .iload 5, 2), (47, .bipush 9, 2), (49, .iushr, 1), (50, .bipush 10, 2), (52, .irem, 1), (53, .invokevirtual 150, 3), (56, .iconst (-1), 1), (57, .if_icmp .eq 6, 3), (60, .iinc 4 1, 3), (63, .iinc 6 1, 3), (66, .goto (-46), 3), (69, .iload 4, 2), (71, .ireturn, 1)]
theorem zhX8_stuckByDraw_0 : zd_chk (cX8_stuckByDraw.data.toList.drop 0) 0 ziX8_stuckByDraw_0 = true := by decide +kernel
theorem dX8_stuckByDraw_0 : decode cX8_stuckByDraw 0 = .ok (.aload_n 0, 1) := zd_at zhX8_stuckByDraw_0 0 rfl
theorem dX8_stuckByDraw_1 : decode cX8_stuckByDraw 1 = .ok (.getfield 55, 3) := zd_at zhX8_stuckByDraw_0 1 rfl
theorem dX8_stuckByDraw_4 : decode cX8_stuckByDraw 4 = .ok (.aload_n 0, 1) := zd_at zhX8_stuckByDraw_0 2 rfl
theorem dX8_stuckByDraw_5 : decode cX8_stuckByDraw 5 = .ok (.getfield 51, 3) := zd_at zhX8_stuckByDraw_0 3 rfl
theorem dX8_stuckByDraw_8 : decode cX8_stuckByDraw 8 = .ok (.invokevirtual 226, 3) := zd_at zhX8_stuckByDraw_0 4 rfl
theorem dX8_stuckByDraw_11 : decode cX8_stuckByDraw 11 = .ok (.iconst 0, 1) := zd_at zhX8_stuckByDraw_0 5 rfl
theorem dX8_stuckByDraw_12 : decode cX8_stuckByDraw 12 = .ok (.istore 4, 2) := zd_at zhX8_stuckByDraw_0 6 rfl
theorem dX8_stuckByDraw_14 : decode cX8_stuckByDraw 14 = .ok (.iload_n 2, 1) := zd_at zhX8_stuckByDraw_0 7 rfl
theorem dX8_stuckByDraw_15 : decode cX8_stuckByDraw 15 = .ok (.istore 5, 2) := zd_at zhX8_stuckByDraw_0 8 rfl
theorem dX8_stuckByDraw_17 : decode cX8_stuckByDraw 17 = .ok (.iconst 0, 1) := zd_at zhX8_stuckByDraw_0 9 rfl
theorem dX8_stuckByDraw_18 : decode cX8_stuckByDraw 18 = .ok (.istore 6, 2) := zd_at zhX8_stuckByDraw_0 10 rfl
theorem dX8_stuckByDraw_20 : decode cX8_stuckByDraw 20 = .ok (.iload 6, 2) := zd_at zhX8_stuckByDraw_0 11 rfl
theorem dX8_stuckByDraw_22 : decode cX8_stuckByDraw 22 = .ok (.iload_n 3, 1) := zd_at zhX8_stuckByDraw_0 12 rfl
theorem dX8_stuckByDraw_23 : decode cX8_stuckByDraw 23 = .ok (.if_icmp .ge 46, 3) := zd_at zhX8_stuckByDraw_0 13 rfl
theorem dX8_stuckByDraw_26 : decode cX8_stuckByDraw 26 = .ok (.iload 5, 2) := zd_at zhX8_stuckByDraw_0 14 rfl
theorem dX8_stuckByDraw_28 : decode cX8_stuckByDraw 28 = .ok (.ldc_w 271, 3) := zd_at zhX8_stuckByDraw_0 15 rfl
theorem dX8_stuckByDraw_31 : decode cX8_stuckByDraw 31 = .ok (.imul, 1) := zd_at zhX8_stuckByDraw_0 16 rfl
theorem dX8_stuckByDraw_32 : decode cX8_stuckByDraw 32 = .ok (.sipush 12345, 3) := zd_at zhX8_stuckByDraw_0 17 rfl
theorem dX8_stuckByDraw_35 : decode cX8_stuckByDraw 35 = .ok (.iadd, 1) := zd_at zhX8_stuckByDraw_0 18 rfl
theorem dX8_stuckByDraw_36 : decode cX8_stuckByDraw 36 = .ok (.istore 5, 2) := zd_at zhX8_stuckByDraw_0 19 rfl
theorem dX8_stuckByDraw_38 : decode cX8_stuckByDraw 38 = .ok (.aload_n 0, 1) := zd_at zhX8_stuckByDraw_0 20 rfl
theorem dX8_stuckByDraw_39 : decode cX8_stuckByDraw 39 = .ok (.getfield 55, 3) := zd_at zhX8_stuckByDraw_0 21 rfl
theorem dX8_stuckByDraw_42 : decode cX8_stuckByDraw 42 = .ok (.iload_n 1, 1) := zd_at zhX8_stuckByDraw_0 22 rfl
theorem dX8_stuckByDraw_43 : decode cX8_stuckByDraw 43 = .ok (.iload 6, 2) := zd_at zhX8_stuckByDraw_0 23 rfl
theorem dX8_stuckByDraw_45 : decode cX8_stuckByDraw 45 = .ok (.iload 5, 2) := zd_at zhX8_stuckByDraw_0 24 rfl
theorem dX8_stuckByDraw_47 : decode cX8_stuckByDraw 47 = .ok (.bipush 9, 2) := zd_at zhX8_stuckByDraw_0 25 rfl
theorem dX8_stuckByDraw_49 : decode cX8_stuckByDraw 49 = .ok (.iushr, 1) := zd_at zhX8_stuckByDraw_0 26 rfl
theorem dX8_stuckByDraw_50 : decode cX8_stuckByDraw 50 = .ok (.bipush 10, 2) := zd_at zhX8_stuckByDraw_0 27 rfl
theorem dX8_stuckByDraw_52 : decode cX8_stuckByDraw 52 = .ok (.irem, 1) := zd_at zhX8_stuckByDraw_0 28 rfl
theorem dX8_stuckByDraw_53 : decode cX8_stuckByDraw 53 = .ok (.invokevirtual 150, 3) := zd_at zhX8_stuckByDraw_0 29 rfl
theorem dX8_stuckByDraw_56 : decode cX8_stuckByDraw 56 = .ok (.iconst (-1), 1) := zd_at zhX8_stuckByDraw_0 30 rfl
theorem dX8_stuckByDraw_57 : decode cX8_stuckByDraw 57 = .ok (.if_icmp .eq 6, 3) := zd_at zhX8_stuckByDraw_0 31 rfl
theorem dX8_stuckByDraw_60 : decode cX8_stuckByDraw 60 = .ok (.iinc 4 1, 3) := zd_at zhX8_stuckByDraw_0 32 rfl
theorem dX8_stuckByDraw_63 : decode cX8_stuckByDraw 63 = .ok (.iinc 6 1, 3) := zd_at zhX8_stuckByDraw_0 33 rfl
theorem dX8_stuckByDraw_66 : decode cX8_stuckByDraw 66 = .ok (.goto (-46), 3) := zd_at zhX8_stuckByDraw_0 34 rfl
theorem dX8_stuckByDraw_69 : decode cX8_stuckByDraw 69 = .ok (.iload 4, 2) := zd_at zhX8_stuckByDraw_0 35 rfl
theorem dX8_stuckByDraw_71 : decode cX8_stuckByDraw 71 = .ok (.ireturn, 1) := zd_at zhX8_stuckByDraw_0 36 rfl
def ziX8_chance_0 : List (Nat × Instr × Nat) := [(0, .aload_n 0, 1), (1, .iload_n 1, 1), (2, .invokevirtual 91, 3), (5, .ifCond .eq 23, 3), (8, .iload_n 3, 1), (9, .iconst 1, 1), (10, .if_icmp .lt 18, 3), (13, .iload_n 3, 1), (14, .bipush 20, 2), (16, .if_icmp .gt 12, 3), (19, .iload 4, 2), (21, .iconst 2, 1), (22, .invokestatic 95, 3), (25, .ifCond .ne 7, 3), (28, .ldc2_w 272, 3), (31, .lreturn, 1), (32, .iconst 0, 1), (33, .istore 5, 2), (35, .iconst 0, 1), (36, .istore 6, 2), (38, .iload 6, 2), (40, .iload_n 3, 1), (41, .if_icmp .ge 27, 3), (44, .aload_n 0, 1), (45, .iload_n 1, 1), (46, .iload_n 2, 1), (47, .iload 6, 2), (49, .iadd, 1), (50, .bipush 16, 2), (52, .invokevirtual 268, 3), (55, .iconst 5, 1), (56, .if_icmp .lt 6, 3), (59, .iinc 5 1, 3), (62, .iinc 6 1, 3), (65, .goto (-27), 3), (68, .iload 5, 2), (70, .iload_n 3, 1), (71, .invokestatic 274, 3), (74, .istore 6, 2), (76, .iload 4, 2)]
theorem zhX8_chance_0 : zd_chk (cX8_chance.data.toList.drop 0) 0 ziX8_chance_0 = true := by decide +kernel
theorem dX8_chance_0 : decode cX8_chance 0 = .ok (.aload_n 0, 1) := zd_at zhX8_chance_0 0 rfl
theorem dX8_chance_1 : decode cX8_chance 1 = .ok (.iload_n 1, 1) := zd_at zhX8_chance_0 1 rfl
theorem dX8_chance_2 : decode cX8_chance 2 = .ok (.invokevirtual 91, 3) := zd_at zhX8_chance_0 2 rfl
theorem dX8_chance_5 : decode cX8_chance 5 = .ok (.ifCond .eq 23, 3) := zd_at zhX8_chance_0 3 rfl
theorem dX8_chance_8 : decode cX8_chance 8 = .ok (.iload_n 3, 1) := zd_at zhX8_chance_0 4 rfl
theorem dX8_chance_9 : decode cX8_chance 9 = .ok (.iconst 1, 1) := zd_at zhX8_chance_0 5 rfl
theorem dX8_chance_10 : decode cX8_chance 10 = .ok (.if_icmp .lt 18, 3) := zd_at zhX8_chance_0 6 rfl
theorem dX8_chance_13 : decode cX8_chance 13 = .ok (.iload_n 3, 1) := zd_at zhX8_chance_0 7 rfl
theorem dX8_chance_14 : decode cX8_chance 14 = .ok (.bipush 20, 2) := zd_at zhX8_chance_0 8 rfl
theorem dX8_chance_16 : decode cX8_chance 16 = .ok (.if_icmp .gt 12, 3) := zd_at zhX8_chance_0 9 rfl
theorem dX8_chance_19 : decode cX8_chance 19 = .ok (.iload 4, 2) := zd_at zhX8_chance_0 10 rfl
theorem dX8_chance_21 : decode cX8_chance 21 = .ok (.iconst 2, 1) := zd_at zhX8_chance_0 11 rfl
theorem dX8_chance_22 : decode cX8_chance 22 = .ok (.invokestatic 95, 3) := zd_at zhX8_chance_0 12 rfl
theorem dX8_chance_25 : decode cX8_chance 25 = .ok (.ifCond .ne 7, 3) := zd_at zhX8_chance_0 13 rfl
theorem dX8_chance_28 : decode cX8_chance 28 = .ok (.ldc2_w 272, 3) := zd_at zhX8_chance_0 14 rfl
theorem dX8_chance_31 : decode cX8_chance 31 = .ok (.lreturn, 1) := zd_at zhX8_chance_0 15 rfl
theorem dX8_chance_32 : decode cX8_chance 32 = .ok (.iconst 0, 1) := zd_at zhX8_chance_0 16 rfl
theorem dX8_chance_33 : decode cX8_chance 33 = .ok (.istore 5, 2) := zd_at zhX8_chance_0 17 rfl
theorem dX8_chance_35 : decode cX8_chance 35 = .ok (.iconst 0, 1) := zd_at zhX8_chance_0 18 rfl
theorem dX8_chance_36 : decode cX8_chance 36 = .ok (.istore 6, 2) := zd_at zhX8_chance_0 19 rfl
theorem dX8_chance_38 : decode cX8_chance 38 = .ok (.iload 6, 2) := zd_at zhX8_chance_0 20 rfl
theorem dX8_chance_40 : decode cX8_chance 40 = .ok (.iload_n 3, 1) := zd_at zhX8_chance_0 21 rfl
theorem dX8_chance_41 : decode cX8_chance 41 = .ok (.if_icmp .ge 27, 3) := zd_at zhX8_chance_0 22 rfl
theorem dX8_chance_44 : decode cX8_chance 44 = .ok (.aload_n 0, 1) := zd_at zhX8_chance_0 23 rfl
theorem dX8_chance_45 : decode cX8_chance 45 = .ok (.iload_n 1, 1) := zd_at zhX8_chance_0 24 rfl
theorem dX8_chance_46 : decode cX8_chance 46 = .ok (.iload_n 2, 1) := zd_at zhX8_chance_0 25 rfl
theorem dX8_chance_47 : decode cX8_chance 47 = .ok (.iload 6, 2) := zd_at zhX8_chance_0 26 rfl
theorem dX8_chance_49 : decode cX8_chance 49 = .ok (.iadd, 1) := zd_at zhX8_chance_0 27 rfl
theorem dX8_chance_50 : decode cX8_chance 50 = .ok (.bipush 16, 2) := zd_at zhX8_chance_0 28 rfl
theorem dX8_chance_52 : decode cX8_chance 52 = .ok (.invokevirtual 268, 3) := zd_at zhX8_chance_0 29 rfl
theorem dX8_chance_55 : decode cX8_chance 55 = .ok (.iconst 5, 1) := zd_at zhX8_chance_0 30 rfl
theorem dX8_chance_56 : decode cX8_chance 56 = .ok (.if_icmp .lt 6, 3) := zd_at zhX8_chance_0 31 rfl
theorem dX8_chance_59 : decode cX8_chance 59 = .ok (.iinc 5 1, 3) := zd_at zhX8_chance_0 32 rfl
theorem dX8_chance_62 : decode cX8_chance 62 = .ok (.iinc 6 1, 3) := zd_at zhX8_chance_0 33 rfl
theorem dX8_chance_65 : decode cX8_chance 65 = .ok (.goto (-27), 3) := zd_at zhX8_chance_0 34 rfl
theorem dX8_chance_68 : decode cX8_chance 68 = .ok (.iload 5, 2) := zd_at zhX8_chance_0 35 rfl
theorem dX8_chance_70 : decode cX8_chance 70 = .ok (.iload_n 3, 1) := zd_at zhX8_chance_0 36 rfl
theorem dX8_chance_71 : decode cX8_chance 71 = .ok (.invokestatic 274, 3) := zd_at zhX8_chance_0 37 rfl
theorem dX8_chance_74 : decode cX8_chance 74 = .ok (.istore 6, 2) := zd_at zhX8_chance_0 38 rfl
theorem dX8_chance_76 : decode cX8_chance 76 = .ok (.iload 4, 2) := zd_at zhX8_chance_0 39 rfl
def ziX8_chance_78 : List (Nat × Instr × Nat) := [(78, .ifCond .ne 8, 3), (81, .iload 5, 2), (83, .goto 4, 3), (86, .iload_n 3, 1), (87, .iload 6, 2), (89, .idiv, 1), (90, .i2l, 1), (91, .lreturn, 1)]
theorem zhX8_chance_78 : zd_chk (cX8_chance.data.toList.drop 78) 78 ziX8_chance_78 = true := by decide +kernel
theorem dX8_chance_78 : decode cX8_chance 78 = .ok (.ifCond .ne 8, 3) := zd_at zhX8_chance_78 0 rfl
theorem dX8_chance_81 : decode cX8_chance 81 = .ok (.iload 5, 2) := zd_at zhX8_chance_78 1 rfl
theorem dX8_chance_83 : decode cX8_chance 83 = .ok (.goto 4, 3) := zd_at zhX8_chance_78 2 rfl
theorem dX8_chance_86 : decode cX8_chance 86 = .ok (.iload_n 3, 1) := zd_at zhX8_chance_78 3 rfl
theorem dX8_chance_87 : decode cX8_chance 87 = .ok (.iload 6, 2) := zd_at zhX8_chance_78 4 rfl
theorem dX8_chance_89 : decode cX8_chance 89 = .ok (.idiv, 1) := zd_at zhX8_chance_78 5 rfl
theorem dX8_chance_90 : decode cX8_chance 90 = .ok (.i2l, 1) := zd_at zhX8_chance_78 6 rfl
theorem dX8_chance_91 : decode cX8_chance 91 = .ok (.lreturn, 1) := zd_at zhX8_chance_78 7 rfl
def ziX8_commonDivisor_0 : List (Nat × Instr × Nat) := [(0, .iload_n 1, 1), (1, .istore_n 2, 1), (2, .iload_n 2, 1), (3, .iconst 1, 1), (4, .if_icmp .le 23, 3), (7, .iload_n 0, 1), (8, .iload_n 2, 1), (9, .irem, 1), (10, .ifCond .ne 11, 3), (13, .iload_n 1, 1), (14, .iload_n 2, 1), (15, .irem, 1), (16, .ifCond .ne 5, 3), (19, .iload_n 2, 1), (20, .ireturn, 1), (21, .iinc 2 (-1), 3), (24, .goto (-22), 3), (27, .iconst 1, 1), (28, .ireturn, 1)]
theorem zhX8_commonDivisor_0 : zd_chk (cX8_commonDivisor.data.toList.drop 0) 0 ziX8_commonDivisor_0 = true := by decide +kernel
theorem dX8_commonDivisor_0 : decode cX8_commonDivisor 0 = .ok (.iload_n 1, 1) := zd_at zhX8_commonDivisor_0 0 rfl
theorem dX8_commonDivisor_1 : decode cX8_commonDivisor 1 = .ok (.istore_n 2, 1) := zd_at zhX8_commonDivisor_0 1 rfl
theorem dX8_commonDivisor_2 : decode cX8_commonDivisor 2 = .ok (.iload_n 2, 1) := zd_at zhX8_commonDivisor_0 2 rfl
theorem dX8_commonDivisor_3 : decode cX8_commonDivisor 3 = .ok (.iconst 1, 1) := zd_at zhX8_commonDivisor_0 3 rfl
theorem dX8_commonDivisor_4 : decode cX8_commonDivisor 4 = .ok (.if_icmp .le 23, 3) := zd_at zhX8_commonDivisor_0 4 rfl
theorem dX8_commonDivisor_7 : decode cX8_commonDivisor 7 = .ok (.iload_n 0, 1) := zd_at zhX8_commonDivisor_0 5 rfl
theorem dX8_commonDivisor_8 : decode cX8_commonDivisor 8 = .ok (.iload_n 2, 1) := zd_at zhX8_commonDivisor_0 6 rfl
theorem dX8_commonDivisor_9 : decode cX8_commonDivisor 9 = .ok (.irem, 1) := zd_at zhX8_commonDivisor_0 7 rfl
theorem dX8_commonDivisor_10 : decode cX8_commonDivisor 10 = .ok (.ifCond .ne 11, 3) := zd_at zhX8_commonDivisor_0 8 rfl
theorem dX8_commonDivisor_13 : decode cX8_commonDivisor 13 = .ok (.iload_n 1, 1) := zd_at zhX8_commonDivisor_0 9 rfl
theorem dX8_commonDivisor_14 : decode cX8_commonDivisor 14 = .ok (.iload_n 2, 1) := zd_at zhX8_commonDivisor_0 10 rfl
theorem dX8_commonDivisor_15 : decode cX8_commonDivisor 15 = .ok (.irem, 1) := zd_at zhX8_commonDivisor_0 11 rfl
theorem dX8_commonDivisor_16 : decode cX8_commonDivisor 16 = .ok (.ifCond .ne 5, 3) := zd_at zhX8_commonDivisor_0 12 rfl
theorem dX8_commonDivisor_19 : decode cX8_commonDivisor 19 = .ok (.iload_n 2, 1) := zd_at zhX8_commonDivisor_0 13 rfl
theorem dX8_commonDivisor_20 : decode cX8_commonDivisor 20 = .ok (.ireturn, 1) := zd_at zhX8_commonDivisor_0 14 rfl
theorem dX8_commonDivisor_21 : decode cX8_commonDivisor 21 = .ok (.iinc 2 (-1), 3) := zd_at zhX8_commonDivisor_0 15 rfl
theorem dX8_commonDivisor_24 : decode cX8_commonDivisor 24 = .ok (.goto (-22), 3) := zd_at zhX8_commonDivisor_0 16 rfl
theorem dX8_commonDivisor_27 : decode cX8_commonDivisor 27 = .ok (.iconst 1, 1) := zd_at zhX8_commonDivisor_0 17 rfl
theorem dX8_commonDivisor_28 : decode cX8_commonDivisor 28 = .ok (.ireturn, 1) := zd_at zhX8_commonDivisor_0 18 rfl
def ziX8_image_0 : List (Nat × Instr × Nat) := [(0, .aload_n 0, 1), (1, .getfield 58, 3), (4, .aload_n 0, 1), (5, .getfield 51, 3), (8, .invokevirtual 226, 3), (11, .aload_n 0, 1), (12, .iconst 1, 1), (13, .putfield 277, 3), (16, .aload_n 0, 1), (17, .getfield 51, 3), (20, .getfield 115, 3), (23, .ireturn, 1)]
theorem zhX8_image_0 : zd_chk (cX8_image.data.toList.drop 0) 0 ziX8_image_0 = true := by decide +kernel
theorem dX8_image_0 : decode cX8_image 0 = .ok (.aload_n 0, 1) := zd_at zhX8_image_0 0 rfl
theorem dX8_image_1 : decode cX8_image 1 = .ok (.getfield 58, 3) := zd_at zhX8_image_0 1 rfl
theorem dX8_image_4 : decode cX8_image 4 = .ok (.aload_n 0, 1) := zd_at zhX8_image_0 2 rfl
theorem dX8_image_5 : decode cX8_image 5 = .ok (.getfield 51, 3) := zd_at zhX8_image_0 3 rfl
theorem dX8_image_8 : decode cX8_image 8 = .ok (.invokevirtual 226, 3) := zd_at zhX8_image_0 4 rfl
theorem dX8_image_11 : decode cX8_image 11 = .ok (.aload_n 0, 1) := zd_at zhX8_image_0 5 rfl
theorem dX8_image_12 : decode cX8_image 12 = .ok (.iconst 1, 1) := zd_at zhX8_image_0 6 rfl
theorem dX8_image_13 : decode cX8_image 13 = .ok (.putfield 277, 3) := zd_at zhX8_image_0 7 rfl
theorem dX8_image_16 : decode cX8_image 16 = .ok (.aload_n 0, 1) := zd_at zhX8_image_0 8 rfl
theorem dX8_image_17 : decode cX8_image 17 = .ok (.getfield 51, 3) := zd_at zhX8_image_0 9 rfl
theorem dX8_image_20 : decode cX8_image 20 = .ok (.getfield 115, 3) := zd_at zhX8_image_0 10 rfl
theorem dX8_image_23 : decode cX8_image 23 = .ok (.ireturn, 1) := zd_at zhX8_image_0 11 rfl
def ziX8_back_0 : List (Nat × Instr × Nat) := [(0, .aload_n 0, 1), (1, .getfield 277, 3), (4, .ifCond .ne 6, 3), (7, .bipush (-3), 2), (9, .ireturn, 1), (10, .aload_n 0, 1), (11, .getfield 51, 3), (14, .aload_n 0, 1), (15, .getfield 58, 3), (18, .invokevirtual 226, 3), (21, .aload_n 0, 1), (22, .getfield 51, 3), (25, .getfield 115, 3), (28, .ireturn, 1)]
theorem zhX8_back_0 : zd_chk (cX8_back.data.toList.drop 0) 0 ziX8_back_0 = true := by decide +kernel
theorem dX8_back_0 : decode cX8_back 0 = .ok (.aload_n 0, 1) := zd_at zhX8_back_0 0 rfl
theorem dX8_back_1 : decode cX8_back 1 = .ok (.getfield 277, 3) := zd_at zhX8_back_0 1 rfl
theorem dX8_back_4 : decode cX8_back 4 = .ok (.ifCond .ne 6, 3) := zd_at zhX8_back_0 2 rfl
theorem dX8_back_7 : decode cX8_back 7 = .ok (.bipush (-3), 2) := zd_at zhX8_back_0 3 rfl
theorem dX8_back_9 : decode cX8_back 9 = .ok (.ireturn, 1) := zd_at zhX8_back_0 4 rfl
theorem dX8_back_10 : decode cX8_back 10 = .ok (.aload_n 0, 1) := zd_at zhX8_back_0 5 rfl
theorem dX8_back_11 : decode cX8_back 11 = .ok (.getfield 51, 3) := zd_at zhX8_back_0 6 rfl
theorem dX8_back_14 : decode cX8_back 14 = .ok (.aload_n 0, 1) := zd_at zhX8_back_0 7 rfl
theorem dX8_back_15 : decode cX8_back 15 = .ok (.getfield 58, 3) := zd_at zhX8_back_0 8 rfl
theorem dX8_back_18 : decode cX8_back 18 = .ok (.invokevirtual 226, 3) := zd_at zhX8_back_0 9 rfl
theorem dX8_back_21 : decode cX8_back 21 = .ok (.aload_n 0, 1) := zd_at zhX8_back_0 10 rfl
theorem dX8_back_22 : decode cX8_back 22 = .ok (.getfield 51, 3) := zd_at zhX8_back_0 11 rfl
theorem dX8_back_25 : decode cX8_back 25 = .ok (.getfield 115, 3) := zd_at zhX8_back_0 12 rfl
theorem dX8_back_28 : decode cX8_back 28 = .ok (.ireturn, 1) := zd_at zhX8_back_0 13 rfl
def ziX8_count_0 : List (Nat × Instr × Nat) := [(0, .iload_n 1, 1)]
theorem zhX8_count_0 : zd_chk (cX8_count.data.toList.drop 0) 0 ziX8_count_0 = true := by decide +kernel
theorem dX8_count_0 : decode cX8_count 0 = .ok (.iload_n 1, 1) := zd_at zhX8_count_0 0 rfl
theorem dX8_count_1 : decode cX8_count 1 = .ok (.tableswitch 84 0 5 #[39, 47, 55, 63, 68, 76], 39) := by decide +kernel
def ziX8_count_40 : List (Nat × Instr × Nat) := [(40, .aload_n 0, 1), (41, .getfield 51, 3), (44, .getfield 115, 3), (47, .ireturn, 1), (48, .aload_n 0, 1), (49, .getfield 51, 3), (52, .invokevirtual 239, 3), (55, .ireturn, 1), (56, .aload_n 0, 1), (57, .getfield 51, 3), (60, .getfield 230, 3), (63, .ireturn, 1), (64, .aload_n 0, 1), (65, .getfield 81, 3), (68, .ireturn, 1), (69, .aload_n 0, 1), (70, .getfield 35, 3), (73, .getfield 146, 3), (76, .ireturn, 1), (77, .aload_n 0, 1), (78, .getfield 51, 3), (81, .getfield 147, 3), (84, .ireturn, 1), (85, .bipush (-2), 2), (87, .ireturn, 1)]
theorem zhX8_count_40 : zd_chk (cX8_count.data.toList.drop 40) 40 ziX8_count_40 = true := by decide +kernel
theorem dX8_count_40 : decode cX8_count 40 = .ok (.aload_n 0, 1) := zd_at zhX8_count_40 0 rfl
theorem dX8_count_41 : decode cX8_count 41 = .ok (.getfield 51, 3) := zd_at zhX8_count_40 1 rfl
theorem dX8_count_44 : decode cX8_count 44 = .ok (.getfield 115, 3) := zd_at zhX8_count_40 2 rfl
theorem dX8_count_47 : decode cX8_count 47 = .ok (.ireturn, 1) := zd_at zhX8_count_40 3 rfl
theorem dX8_count_48 : decode cX8_count 48 = .ok (.aload_n 0, 1) := zd_at zhX8_count_40 4 rfl
theorem dX8_count_49 : decode cX8_count 49 = .ok (.getfield 51, 3) := zd_at zhX8_count_40 5 rfl
theorem dX8_count_52 : decode cX8_count 52 = .ok (.invokevirtual 239, 3) := zd_at zhX8_count_40 6 rfl
theorem dX8_count_55 : decode cX8_count 55 = .ok (.ireturn, 1) := zd_at zhX8_count_40 7 rfl
theorem dX8_count_56 : decode cX8_count 56 = .ok (.aload_n 0, 1) := zd_at zhX8_count_40 8 rfl
theorem dX8_count_57 : decode cX8_count 57 = .ok (.getfield 51, 3) := zd_at zhX8_count_40 9 rfl
theorem dX8_count_60 : decode cX8_count 60 = .ok (.getfield 230, 3) := zd_at zhX8_count_40 10 rfl
theorem dX8_count_63 : decode cX8_count 63 = .ok (.ireturn, 1) := zd_at zhX8_count_40 11 rfl
theorem dX8_count_64 : decode cX8_count 64 = .ok (.aload_n 0, 1) := zd_at zhX8_count_40 12 rfl
theorem dX8_count_65 : decode cX8_count 65 = .ok (.getfield 81, 3) := zd_at zhX8_count_40 13 rfl
theorem dX8_count_68 : decode cX8_count 68 = .ok (.ireturn, 1) := zd_at zhX8_count_40 14 rfl
theorem dX8_count_69 : decode cX8_count 69 = .ok (.aload_n 0, 1) := zd_at zhX8_count_40 15 rfl
theorem dX8_count_70 : decode cX8_count 70 = .ok (.getfield 35, 3) := zd_at zhX8_count_40 16 rfl
theorem dX8_count_73 : decode cX8_count 73 = .ok (.getfield 146, 3) := zd_at zhX8_count_40 17 rfl
theorem dX8_count_76 : decode cX8_count 76 = .ok (.ireturn, 1) := zd_at zhX8_count_40 18 rfl
theorem dX8_count_77 : decode cX8_count 77 = .ok (.aload_n 0, 1) := zd_at zhX8_count_40 19 rfl
theorem dX8_count_78 : decode cX8_count 78 = .ok (.getfield 51, 3) := zd_at zhX8_count_40 20 rfl
theorem dX8_count_81 : decode cX8_count 81 = .ok (.getfield 147, 3) := zd_at zhX8_count_40 21 rfl
theorem dX8_count_84 : decode cX8_count 84 = .ok (.ireturn, 1) := zd_at zhX8_count_40 22 rfl
theorem dX8_count_85 : decode cX8_count 85 = .ok (.bipush (-2), 2) := zd_at zhX8_count_40 23 rfl
theorem dX8_count_87 : decode cX8_count 87 = .ok (.ireturn, 1) := zd_at zhX8_count_40 24 rfl
def ziX8_sheet_0 : List (Nat × Instr × Nat) := [(0, .iload_n 1, 1), (1, .iconst 4, 1), (2, .invokestatic 95, 3), (5, .ifCond .eq 13, 3), (8, .iload_n 2, 1), (9, .iconst (-1), 1), (10, .if_icmp .lt 8, 3), (13, .iload_n 2, 1), (14, .iconst 2, 1), (15, .if_icmp .le 6, 3), (18, .bipush (-2), 2), (20, .ireturn, 1), (21, .iload_n 2, 1), (22, .iconst (-1), 1), (23, .if_icmp .eq 12, 3), (26, .iload_n 3, 1), (27, .bipush 40, 2), (29, .if_icmp .le 6, 3), (32, .bipush (-2), 2), (34, .ireturn, 1), (35, .iload_n 2, 1), (36, .iconst (-1), 1), (37, .if_icmp .eq 10, 3), (40, .iload_n 3, 1), (41, .ifCond .ge 6, 3), (44, .bipush (-14), 2), (46, .ireturn, 1), (47, .aload_n 0, 1), (48, .getfield 17, 3), (51, .iload_n 1, 1), (52, .aaload, 1), (53, .iload_n 2, 1), (54, .iload_n 2, 1), (55, .iconst (-1), 1), (56, .if_icmp .ne 7, 3), (59, .iconst 0, 1), (60, .goto 4, 3), (63, .iload_n 3, 1), (64, .invokevirtual 263, 3), (67, .iconst 1, 1)]
theorem zhX8_sheet_0 : zd_chk (cX8_sheet.data.toList.drop 0) 0 ziX8_sheet_0 = true := by decide +kernel
theorem dX8_sheet_0 : decode cX8_sheet 0 = .ok (.iload_n 1, 1) := zd_at zhX8_sheet_0 0 rfl
theorem dX8_sheet_1 : decode cX8_sheet 1 = .ok (.iconst 4, 1) := zd_at zhX8_sheet_0 1 rfl
theorem dX8_sheet_2 : decode cX8_sheet 2 = .ok (.invokestatic 95, 3) := zd_at zhX8_sheet_0 2 rfl
theorem dX8_sheet_5 : decode cX8_sheet 5 = .ok (.ifCond .eq 13, 3) := zd_at zhX8_sheet_0 3 rfl
theorem dX8_sheet_8 : decode cX8_sheet 8 = .ok (.iload_n 2, 1) := zd_at zhX8_sheet_0 4 rfl
theorem dX8_sheet_9 : decode cX8_sheet 9 = .ok (.iconst (-1), 1) := zd_at zhX8_sheet_0 5 rfl
theorem dX8_sheet_10 : decode cX8_sheet 10 = .ok (.if_icmp .lt 8, 3) := zd_at zhX8_sheet_0 6 rfl
theorem dX8_sheet_13 : decode cX8_sheet 13 = .ok (.iload_n 2, 1) := zd_at zhX8_sheet_0 7 rfl
theorem dX8_sheet_14 : decode cX8_sheet 14 = .ok (.iconst 2, 1) := zd_at zhX8_sheet_0 8 rfl
theorem dX8_sheet_15 : decode cX8_sheet 15 = .ok (.if_icmp .le 6, 3) := zd_at zhX8_sheet_0 9 rfl
theorem dX8_sheet_18 : decode cX8_sheet 18 = .ok (.bipush (-2), 2) := zd_at zhX8_sheet_0 10 rfl
theorem dX8_sheet_20 : decode cX8_sheet 20 = .ok (.ireturn, 1) := zd_at zhX8_sheet_0 11 rfl
theorem dX8_sheet_21 : decode cX8_sheet 21 = .ok (.iload_n 2, 1) := zd_at zhX8_sheet_0 12 rfl
theorem dX8_sheet_22 : decode cX8_sheet 22 = .ok (.iconst (-1), 1) := zd_at zhX8_sheet_0 13 rfl
theorem dX8_sheet_23 : decode cX8_sheet 23 = .ok (.if_icmp .eq 12, 3) := zd_at zhX8_sheet_0 14 rfl
theorem dX8_sheet_26 : decode cX8_sheet 26 = .ok (.iload_n 3, 1) := zd_at zhX8_sheet_0 15 rfl
theorem dX8_sheet_27 : decode cX8_sheet 27 = .ok (.bipush 40, 2) := zd_at zhX8_sheet_0 16 rfl
theorem dX8_sheet_29 : decode cX8_sheet 29 = .ok (.if_icmp .le 6, 3) := zd_at zhX8_sheet_0 17 rfl
theorem dX8_sheet_32 : decode cX8_sheet 32 = .ok (.bipush (-2), 2) := zd_at zhX8_sheet_0 18 rfl
theorem dX8_sheet_34 : decode cX8_sheet 34 = .ok (.ireturn, 1) := zd_at zhX8_sheet_0 19 rfl
theorem dX8_sheet_35 : decode cX8_sheet 35 = .ok (.iload_n 2, 1) := zd_at zhX8_sheet_0 20 rfl
theorem dX8_sheet_36 : decode cX8_sheet 36 = .ok (.iconst (-1), 1) := zd_at zhX8_sheet_0 21 rfl
theorem dX8_sheet_37 : decode cX8_sheet 37 = .ok (.if_icmp .eq 10, 3) := zd_at zhX8_sheet_0 22 rfl
theorem dX8_sheet_40 : decode cX8_sheet 40 = .ok (.iload_n 3, 1) := zd_at zhX8_sheet_0 23 rfl
theorem dX8_sheet_41 : decode cX8_sheet 41 = .ok (.ifCond .ge 6, 3) := zd_at zhX8_sheet_0 24 rfl
theorem dX8_sheet_44 : decode cX8_sheet 44 = .ok (.bipush (-14), 2) := zd_at zhX8_sheet_0 25 rfl
theorem dX8_sheet_46 : decode cX8_sheet 46 = .ok (.ireturn, 1) := zd_at zhX8_sheet_0 26 rfl
theorem dX8_sheet_47 : decode cX8_sheet 47 = .ok (.aload_n 0, 1) := zd_at zhX8_sheet_0 27 rfl
theorem dX8_sheet_48 : decode cX8_sheet 48 = .ok (.getfield 17, 3) := zd_at zhX8_sheet_0 28 rfl
theorem dX8_sheet_51 : decode cX8_sheet 51 = .ok (.iload_n 1, 1) := zd_at zhX8_sheet_0 29 rfl
theorem dX8_sheet_52 : decode cX8_sheet 52 = .ok (.aaload, 1) := zd_at zhX8_sheet_0 30 rfl
theorem dX8_sheet_53 : decode cX8_sheet 53 = .ok (.iload_n 2, 1) := zd_at zhX8_sheet_0 31 rfl
theorem dX8_sheet_54 : decode cX8_sheet 54 = .ok (.iload_n 2, 1) := zd_at zhX8_sheet_0 32 rfl
theorem dX8_sheet_55 : decode cX8_sheet 55 = .ok (.iconst (-1), 1) := zd_at zhX8_sheet_0 33 rfl
theorem dX8_sheet_56 : decode cX8_sheet 56 = .ok (.if_icmp .ne 7, 3) := zd_at zhX8_sheet_0 34 rfl
theorem dX8_sheet_59 : decode cX8_sheet 59 = .ok (.iconst 0, 1) := zd_at zhX8_sheet_0 35 rfl
theorem dX8_sheet_60 : decode cX8_sheet 60 = .ok (.goto 4, 3) := zd_at zhX8_sheet_0 36 rfl
theorem dX8_sheet_63 : decode cX8_sheet 63 = .ok (.iload_n 3, 1) := zd_at zhX8_sheet_0 37 rfl
theorem dX8_sheet_64 : decode cX8_sheet 64 = .ok (.invokevirtual 263, 3) := zd_at zhX8_sheet_0 38 rfl
theorem dX8_sheet_67 : decode cX8_sheet 67 = .ok (.iconst 1, 1) := zd_at zhX8_sheet_0 39 rfl
def ziX8_sheet_68 : List (Nat × Instr × Nat) := [(68, .ireturn, 1)]
theorem zhX8_sheet_68 : zd_chk (cX8_sheet.data.toList.drop 68) 68 ziX8_sheet_68 = true := by decide +kernel
theorem dX8_sheet_68 : decode cX8_sheet 68 = .ok (.ireturn, 1) := zd_at zhX8_sheet_68 0 rfl
def ziX8_cell_0 : List (Nat × Instr × Nat) := [(0, .iload_n 1, 1), (1, .iconst 4, 1), (2, .invokestatic 95, 3), (5, .ifCond .ne 6, 3), (8, .bipush (-2), 2), (10, .ireturn, 1), (11, .aload_n 0, 1), (12, .getfield 17, 3), (15, .iload_n 1, 1), (16, .aaload, 1), (17, .invokevirtual 218, 3), (20, .ifCond .eq 6, 3), (23, .bipush (-11), 2), (25, .ireturn, 1), (26, .iload_n 2, 1), (27, .aload_n 0, 1), (28, .getfield 17, 3), (31, .iload_n 1, 1), (32, .aaload, 1), (33, .getfield 231, 3), (36, .invokestatic 95, 3), (39, .ifCond .ne 6, 3), (42, .bipush (-12), 2), (44, .ireturn, 1), (45, .aload_n 0, 1), (46, .getfield 17, 3), (49, .iload_n 1, 1), (50, .aaload, 1), (51, .iload_n 2, 1), (52, .iload_n 3, 1), (53, .invokevirtual 266, 3), (56, .iconst 1, 1), (57, .ireturn, 1)]
theorem zhX8_cell_0 : zd_chk (cX8_cell.data.toList.drop 0) 0 ziX8_cell_0 = true := by decide +kernel
theorem dX8_cell_0 : decode cX8_cell 0 = .ok (.iload_n 1, 1) := zd_at zhX8_cell_0 0 rfl
theorem dX8_cell_1 : decode cX8_cell 1 = .ok (.iconst 4, 1) := zd_at zhX8_cell_0 1 rfl
theorem dX8_cell_2 : decode cX8_cell 2 = .ok (.invokestatic 95, 3) := zd_at zhX8_cell_0 2 rfl
theorem dX8_cell_5 : decode cX8_cell 5 = .ok (.ifCond .ne 6, 3) := zd_at zhX8_cell_0 3 rfl
theorem dX8_cell_8 : decode cX8_cell 8 = .ok (.bipush (-2), 2) := zd_at zhX8_cell_0 4 rfl
theorem dX8_cell_10 : decode cX8_cell 10 = .ok (.ireturn, 1) := zd_at zhX8_cell_0 5 rfl
theorem dX8_cell_11 : decode cX8_cell 11 = .ok (.aload_n 0, 1) := zd_at zhX8_cell_0 6 rfl
theorem dX8_cell_12 : decode cX8_cell 12 = .ok (.getfield 17, 3) := zd_at zhX8_cell_0 7 rfl
theorem dX8_cell_15 : decode cX8_cell 15 = .ok (.iload_n 1, 1) := zd_at zhX8_cell_0 8 rfl
theorem dX8_cell_16 : decode cX8_cell 16 = .ok (.aaload, 1) := zd_at zhX8_cell_0 9 rfl
theorem dX8_cell_17 : decode cX8_cell 17 = .ok (.invokevirtual 218, 3) := zd_at zhX8_cell_0 10 rfl
theorem dX8_cell_20 : decode cX8_cell 20 = .ok (.ifCond .eq 6, 3) := zd_at zhX8_cell_0 11 rfl
theorem dX8_cell_23 : decode cX8_cell 23 = .ok (.bipush (-11), 2) := zd_at zhX8_cell_0 12 rfl
theorem dX8_cell_25 : decode cX8_cell 25 = .ok (.ireturn, 1) := zd_at zhX8_cell_0 13 rfl
theorem dX8_cell_26 : decode cX8_cell 26 = .ok (.iload_n 2, 1) := zd_at zhX8_cell_0 14 rfl
theorem dX8_cell_27 : decode cX8_cell 27 = .ok (.aload_n 0, 1) := zd_at zhX8_cell_0 15 rfl
theorem dX8_cell_28 : decode cX8_cell 28 = .ok (.getfield 17, 3) := zd_at zhX8_cell_0 16 rfl
theorem dX8_cell_31 : decode cX8_cell 31 = .ok (.iload_n 1, 1) := zd_at zhX8_cell_0 17 rfl
theorem dX8_cell_32 : decode cX8_cell 32 = .ok (.aaload, 1) := zd_at zhX8_cell_0 18 rfl
theorem dX8_cell_33 : decode cX8_cell 33 = .ok (.getfield 231, 3) := zd_at zhX8_cell_0 19 rfl
theorem dX8_cell_36 : decode cX8_cell 36 = .ok (.invokestatic 95, 3) := zd_at zhX8_cell_0 20 rfl
theorem dX8_cell_39 : decode cX8_cell 39 = .ok (.ifCond .ne 6, 3) := zd_at zhX8_cell_0 21 rfl
theorem dX8_cell_42 : decode cX8_cell 42 = .ok (.bipush (-12), 2) := zd_at zhX8_cell_0 22 rfl
theorem dX8_cell_44 : decode cX8_cell 44 = .ok (.ireturn, 1) := zd_at zhX8_cell_0 23 rfl
theorem dX8_cell_45 : decode cX8_cell 45 = .ok (.aload_n 0, 1) := zd_at zhX8_cell_0 24 rfl
theorem dX8_cell_46 : decode cX8_cell 46 = .ok (.getfield 17, 3) := zd_at zhX8_cell_0 25 rfl
theorem dX8_cell_49 : decode cX8_cell 49 = .ok (.iload_n 1, 1) := zd_at zhX8_cell_0 26 rfl
theorem dX8_cell_50 : decode cX8_cell 50 = .ok (.aaload, 1) := zd_at zhX8_cell_0 27 rfl
theorem dX8_cell_51 : decode cX8_cell 51 = .ok (.iload_n 2, 1) := zd_at zhX8_cell_0 28 rfl
theorem dX8_cell_52 : decode cX8_cell 52 = .ok (.iload_n 3, 1) := zd_at zhX8_cell_0 29 rfl
theorem dX8_cell_53 : decode cX8_cell 53 = .ok (.invokevirtual 266, 3) := zd_at zhX8_cell_0 30 rfl
theorem dX8_cell_56 : decode cX8_cell 56 = .ok (.iconst 1, 1) := zd_at zhX8_cell_0 31 rfl
theorem dX8_cell_57 : decode cX8_cell 57 = .ok (.ireturn, 1) := zd_at zhX8_cell_0 32 rfl
def ziX8_copy_0 : List (Nat × Instr × Nat) := [(0, .iload_n 1, 1), (1, .iconst 4, 1), (2, .invokestatic 95, 3), (5, .ifCond .eq 11, 3), (8, .iload_n 3, 1), (9, .iconst 4, 1), (10, .invokestatic 95, 3), (13, .ifCond .ne 6, 3), (16, .bipush (-2), 2), (18, .ireturn, 1), (19, .aload_n 0, 1), (20, .getfield 17, 3), (23, .iload_n 1, 1), (24, .aaload, 1), (25, .astore 6, 2), (27, .aload_n 0, 1), (28, .getfield 17, 3), (31, .iload_n 3, 1), (32, .aaload, 1), (33, .astore 7, 2), (35, .aload 6, 2), (37, .invokevirtual 218, 3), (40, .ifCond .ne 11, 3), (43, .aload 7, 2), (45, .invokevirtual 218, 3), (48, .ifCond .eq 6, 3), (51, .bipush (-11), 2), (53, .ireturn, 1), (54, .aload 6, 2), (56, .getfield 281, 3), (59, .aload 7, 2), (61, .getfield 281, 3), (64, .if_icmp .eq 6, 3), (67, .bipush (-13), 2), (69, .ireturn, 1), (70, .aload 6, 2), (72, .iload_n 2, 1), (73, .iload 5, 2), (75, .invokevirtual 284, 3), (78, .ifCond .eq 15, 3)]
theorem zhX8_copy_0 : zd_chk (cX8_copy.data.toList.drop 0) 0 ziX8_copy_0 = true := by decide +kernel
theorem dX8_copy_0 : decode cX8_copy 0 = .ok (.iload_n 1, 1) := zd_at zhX8_copy_0 0 rfl
theorem dX8_copy_1 : decode cX8_copy 1 = .ok (.iconst 4, 1) := zd_at zhX8_copy_0 1 rfl
theorem dX8_copy_2 : decode cX8_copy 2 = .ok (.invokestatic 95, 3) := zd_at zhX8_copy_0 2 rfl
theorem dX8_copy_5 : decode cX8_copy 5 = .ok (.ifCond .eq 11, 3) := zd_at zhX8_copy_0 3 rfl
theorem dX8_copy_8 : decode cX8_copy 8 = .ok (.iload_n 3, 1) := zd_at zhX8_copy_0 4 rfl
theorem dX8_copy_9 : decode cX8_copy 9 = .ok (.iconst 4, 1) := zd_at zhX8_copy_0 5 rfl
theorem dX8_copy_10 : decode cX8_copy 10 = .ok (.invokestatic 95, 3) := zd_at zhX8_copy_0 6 rfl
theorem dX8_copy_13 : decode cX8_copy 13 = .ok (.ifCond .ne 6, 3) := zd_at zhX8_copy_0 7 rfl
theorem dX8_copy_16 : decode cX8_copy 16 = .ok (.bipush (-2), 2) := zd_at zhX8_copy_0 8 rfl
theorem dX8_copy_18 : decode cX8_copy 18 = .ok (.ireturn, 1) := zd_at zhX8_copy_0 9 rfl
theorem dX8_copy_19 : decode cX8_copy 19 = .ok (.aload_n 0, 1) := zd_at zhX8_copy_0 10 rfl
theorem dX8_copy_20 : decode cX8_copy 20 = .ok (.getfield 17, 3) := zd_at zhX8_copy_0 11 rfl
theorem dX8_copy_23 : decode cX8_copy 23 = .ok (.iload_n 1, 1) := zd_at zhX8_copy_0 12 rfl
theorem dX8_copy_24 : decode cX8_copy 24 = .ok (.aaload, 1) := zd_at zhX8_copy_0 13 rfl
theorem dX8_copy_25 : decode cX8_copy 25 = .ok (.astore 6, 2) := zd_at zhX8_copy_0 14 rfl
theorem dX8_copy_27 : decode cX8_copy 27 = .ok (.aload_n 0, 1) := zd_at zhX8_copy_0 15 rfl
theorem dX8_copy_28 : decode cX8_copy 28 = .ok (.getfield 17, 3) := zd_at zhX8_copy_0 16 rfl
theorem dX8_copy_31 : decode cX8_copy 31 = .ok (.iload_n 3, 1) := zd_at zhX8_copy_0 17 rfl
theorem dX8_copy_32 : decode cX8_copy 32 = .ok (.aaload, 1) := zd_at zhX8_copy_0 18 rfl
theorem dX8_copy_33 : decode cX8_copy 33 = .ok (.astore 7, 2) := zd_at zhX8_copy_0 19 rfl
theorem dX8_copy_35 : decode cX8_copy 35 = .ok (.aload 6, 2) := zd_at zhX8_copy_0 20 rfl
theorem dX8_copy_37 : decode cX8_copy 37 = .ok (.invokevirtual 218, 3) := zd_at zhX8_copy_0 21 rfl
theorem dX8_copy_40 : decode cX8_copy 40 = .ok (.ifCond .ne 11, 3) := zd_at zhX8_copy_0 22 rfl
theorem dX8_copy_43 : decode cX8_copy 43 = .ok (.aload 7, 2) := zd_at zhX8_copy_0 23 rfl
theorem dX8_copy_45 : decode cX8_copy 45 = .ok (.invokevirtual 218, 3) := zd_at zhX8_copy_0 24 rfl
theorem dX8_copy_48 : decode cX8_copy 48 = .ok (.ifCond .eq 6, 3) := zd_at zhX8_copy_0 25 rfl
theorem dX8_copy_51 : decode cX8_copy 51 = .ok (.bipush (-11), 2) := zd_at zhX8_copy_0 26 rfl
theorem dX8_copy_53 : decode cX8_copy 53 = .ok (.ireturn, 1) := zd_at zhX8_copy_0 27 rfl
theorem dX8_copy_54 : decode cX8_copy 54 = .ok (.aload 6, 2) := zd_at zhX8_copy_0 28 rfl
theorem dX8_copy_56 : decode cX8_copy 56 = .ok (.getfield 281, 3) := zd_at zhX8_copy_0 29 rfl
theorem dX8_copy_59 : decode cX8_copy 59 = .ok (.aload 7, 2) := zd_at zhX8_copy_0 30 rfl
theorem dX8_copy_61 : decode cX8_copy 61 = .ok (.getfield 281, 3) := zd_at zhX8_copy_0 31 rfl
theorem dX8_copy_64 : decode cX8_copy 64 = .ok (.if_icmp .eq 6, 3) := zd_at zhX8_copy_0 32 rfl
theorem dX8_copy_67 : decode cX8_copy 67 = .ok (.bipush (-13), 2) := zd_at zhX8_copy_0 33 rfl
theorem dX8_copy_69 : decode cX8_copy 69 = .ok (.ireturn, 1) := zd_at zhX8_copy_0 34 rfl
theorem dX8_copy_70 : decode cX8_copy 70 = .ok (.aload 6, 2) := zd_at zhX8_copy_0 35 rfl
theorem dX8_copy_72 : decode cX8_copy 72 = .ok (.iload_n 2, 1) := zd_at zhX8_copy_0 36 rfl
theorem dX8_copy_73 : decode cX8_copy 73 = .ok (.iload 5, 2) := zd_at zhX8_copy_0 37 rfl
theorem dX8_copy_75 : decode cX8_copy 75 = .ok (.invokevirtual 284, 3) := zd_at zhX8_copy_0 38 rfl
theorem dX8_copy_78 : decode cX8_copy 78 = .ok (.ifCond .eq 15, 3) := zd_at zhX8_copy_0 39 rfl
def ziX8_copy_81 : List (Nat × Instr × Nat) := [(81, .aload 7, 2), (83, .iload 4, 2), (85, .iload 5, 2), (87, .invokevirtual 284, 3), (90, .ifCond .ne 6, 3), (93, .bipush (-12), 2), (95, .ireturn, 1), (96, .aload 6, 2), (98, .getfield 232, 3), (101, .iload_n 2, 1), (102, .aload 7, 2), (104, .getfield 232, 3), (107, .iload 4, 2), (109, .iload 5, 2), (111, .invokestatic 286, 3), (114, .iload 5, 2), (116, .ireturn, 1)]
theorem zhX8_copy_81 : zd_chk (cX8_copy.data.toList.drop 81) 81 ziX8_copy_81 = true := by decide +kernel
theorem dX8_copy_81 : decode cX8_copy 81 = .ok (.aload 7, 2) := zd_at zhX8_copy_81 0 rfl
theorem dX8_copy_83 : decode cX8_copy 83 = .ok (.iload 4, 2) := zd_at zhX8_copy_81 1 rfl
theorem dX8_copy_85 : decode cX8_copy 85 = .ok (.iload 5, 2) := zd_at zhX8_copy_81 2 rfl
theorem dX8_copy_87 : decode cX8_copy 87 = .ok (.invokevirtual 284, 3) := zd_at zhX8_copy_81 3 rfl
theorem dX8_copy_90 : decode cX8_copy 90 = .ok (.ifCond .ne 6, 3) := zd_at zhX8_copy_81 4 rfl
theorem dX8_copy_93 : decode cX8_copy 93 = .ok (.bipush (-12), 2) := zd_at zhX8_copy_81 5 rfl
theorem dX8_copy_95 : decode cX8_copy 95 = .ok (.ireturn, 1) := zd_at zhX8_copy_81 6 rfl
theorem dX8_copy_96 : decode cX8_copy 96 = .ok (.aload 6, 2) := zd_at zhX8_copy_81 7 rfl
theorem dX8_copy_98 : decode cX8_copy 98 = .ok (.getfield 232, 3) := zd_at zhX8_copy_81 8 rfl
theorem dX8_copy_101 : decode cX8_copy 101 = .ok (.iload_n 2, 1) := zd_at zhX8_copy_81 9 rfl
theorem dX8_copy_102 : decode cX8_copy 102 = .ok (.aload 7, 2) := zd_at zhX8_copy_81 10 rfl
theorem dX8_copy_104 : decode cX8_copy 104 = .ok (.getfield 232, 3) := zd_at zhX8_copy_81 11 rfl
theorem dX8_copy_107 : decode cX8_copy 107 = .ok (.iload 4, 2) := zd_at zhX8_copy_81 12 rfl
theorem dX8_copy_109 : decode cX8_copy 109 = .ok (.iload 5, 2) := zd_at zhX8_copy_81 13 rfl
theorem dX8_copy_111 : decode cX8_copy 111 = .ok (.invokestatic 286, 3) := zd_at zhX8_copy_81 14 rfl
theorem dX8_copy_114 : decode cX8_copy 114 = .ok (.iload 5, 2) := zd_at zhX8_copy_81 15 rfl
theorem dX8_copy_116 : decode cX8_copy 116 = .ok (.ireturn, 1) := zd_at zhX8_copy_81 16 rfl
def ziX8_people_0 : List (Nat × Instr × Nat) := [(0, .iload_n 1, 1), (1, .iconst 4, 1), (2, .invokestatic 95, 3), (5, .ifCond .eq 22, 3), (8, .iload_n 2, 1), (9, .iconst 3, 1), (10, .invokestatic 95, 3), (13, .ifCond .eq 14, 3), (16, .iload 4, 2), (18, .ifCond .lt 9, 3), (21, .iload 4, 2), (23, .iconst 5, 1), (24, .if_icmp .le 6, 3), (27, .bipush (-2), 2), (29, .ireturn, 1), (30, .aload_n 0, 1), (31, .getfield 17, 3), (34, .iload_n 1, 1), (35, .aaload, 1), (36, .astore 5, 2), (38, .aload 5, 2), (40, .invokevirtual 218, 3), (43, .ifCond .eq 6, 3), (46, .bipush (-11), 2), (48, .ireturn, 1), (49, .aload 5, 2), (51, .getfield 281, 3), (54, .iload_n 2, 1), (55, .if_icmp .eq 6, 3), (58, .bipush (-13), 2), (60, .ireturn, 1), (61, .iconst 0, 1), (62, .istore 6, 2), (64, .iconst 0, 1), (65, .istore 7, 2), (67, .iload 7, 2), (69, .iload 4, 2), (71, .if_icmp .ge 59, 3), (74, .iload_n 3, 1), (75, .iconst 2, 1)]
theorem zhX8_people_0 : zd_chk (cX8_people.data.toList.drop 0) 0 ziX8_people_0 = true := by decide +kernel
theorem dX8_people_0 : decode cX8_people 0 = .ok (.iload_n 1, 1) := zd_at zhX8_people_0 0 rfl
theorem dX8_people_1 : decode cX8_people 1 = .ok (.iconst 4, 1) := zd_at zhX8_people_0 1 rfl
theorem dX8_people_2 : decode cX8_people 2 = .ok (.invokestatic 95, 3) := zd_at zhX8_people_0 2 rfl
theorem dX8_people_5 : decode cX8_people 5 = .ok (.ifCond .eq 22, 3) := zd_at zhX8_people_0 3 rfl
theorem dX8_people_8 : decode cX8_people 8 = .ok (.iload_n 2, 1) := zd_at zhX8_people_0 4 rfl
theorem dX8_people_9 : decode cX8_people 9 = .ok (.iconst 3, 1) := zd_at zhX8_people_0 5 rfl
theorem dX8_people_10 : decode cX8_people 10 = .ok (.invokestatic 95, 3) := zd_at zhX8_people_0 6 rfl
theorem dX8_people_13 : decode cX8_people 13 = .ok (.ifCond .eq 14, 3) := zd_at zhX8_people_0 7 rfl
theorem dX8_people_16 : decode cX8_people 16 = .ok (.iload 4, 2) := zd_at zhX8_people_0 8 rfl
theorem dX8_people_18 : decode cX8_people 18 = .ok (.ifCond .lt 9, 3) := zd_at zhX8_people_0 9 rfl
theorem dX8_people_21 : decode cX8_people 21 = .ok (.iload 4, 2) := zd_at zhX8_people_0 10 rfl
theorem dX8_people_23 : decode cX8_people 23 = .ok (.iconst 5, 1) := zd_at zhX8_people_0 11 rfl
theorem dX8_people_24 : decode cX8_people 24 = .ok (.if_icmp .le 6, 3) := zd_at zhX8_people_0 12 rfl
theorem dX8_people_27 : decode cX8_people 27 = .ok (.bipush (-2), 2) := zd_at zhX8_people_0 13 rfl
theorem dX8_people_29 : decode cX8_people 29 = .ok (.ireturn, 1) := zd_at zhX8_people_0 14 rfl
theorem dX8_people_30 : decode cX8_people 30 = .ok (.aload_n 0, 1) := zd_at zhX8_people_0 15 rfl
theorem dX8_people_31 : decode cX8_people 31 = .ok (.getfield 17, 3) := zd_at zhX8_people_0 16 rfl
theorem dX8_people_34 : decode cX8_people 34 = .ok (.iload_n 1, 1) := zd_at zhX8_people_0 17 rfl
theorem dX8_people_35 : decode cX8_people 35 = .ok (.aaload, 1) := zd_at zhX8_people_0 18 rfl
theorem dX8_people_36 : decode cX8_people 36 = .ok (.astore 5, 2) := zd_at zhX8_people_0 19 rfl
theorem dX8_people_38 : decode cX8_people 38 = .ok (.aload 5, 2) := zd_at zhX8_people_0 20 rfl
theorem dX8_people_40 : decode cX8_people 40 = .ok (.invokevirtual 218, 3) := zd_at zhX8_people_0 21 rfl
theorem dX8_people_43 : decode cX8_people 43 = .ok (.ifCond .eq 6, 3) := zd_at zhX8_people_0 22 rfl
theorem dX8_people_46 : decode cX8_people 46 = .ok (.bipush (-11), 2) := zd_at zhX8_people_0 23 rfl
theorem dX8_people_48 : decode cX8_people 48 = .ok (.ireturn, 1) := zd_at zhX8_people_0 24 rfl
theorem dX8_people_49 : decode cX8_people 49 = .ok (.aload 5, 2) := zd_at zhX8_people_0 25 rfl
theorem dX8_people_51 : decode cX8_people 51 = .ok (.getfield 281, 3) := zd_at zhX8_people_0 26 rfl
theorem dX8_people_54 : decode cX8_people 54 = .ok (.iload_n 2, 1) := zd_at zhX8_people_0 27 rfl
theorem dX8_people_55 : decode cX8_people 55 = .ok (.if_icmp .eq 6, 3) := zd_at zhX8_people_0 28 rfl
theorem dX8_people_58 : decode cX8_people 58 = .ok (.bipush (-13), 2) := zd_at zhX8_people_0 29 rfl
theorem dX8_people_60 : decode cX8_people 60 = .ok (.ireturn, 1) := zd_at zhX8_people_0 30 rfl
theorem dX8_people_61 : decode cX8_people 61 = .ok (.iconst 0, 1) := zd_at zhX8_people_0 31 rfl
theorem dX8_people_62 : decode cX8_people 62 = .ok (.istore 6, 2) := zd_at zhX8_people_0 32 rfl
theorem dX8_people_64 : decode cX8_people 64 = .ok (.iconst 0, 1) := zd_at zhX8_people_0 33 rfl
theorem dX8_people_65 : decode cX8_people 65 = .ok (.istore 7, 2) := zd_at zhX8_people_0 34 rfl
theorem dX8_people_67 : decode cX8_people 67 = .ok (.iload 7, 2) := zd_at zhX8_people_0 35 rfl
theorem dX8_people_69 : decode cX8_people 69 = .ok (.iload 4, 2) := zd_at zhX8_people_0 36 rfl
theorem dX8_people_71 : decode cX8_people 71 = .ok (.if_icmp .ge 59, 3) := zd_at zhX8_people_0 37 rfl
theorem dX8_people_74 : decode cX8_people 74 = .ok (.iload_n 3, 1) := zd_at zhX8_people_0 38 rfl
theorem dX8_people_75 : decode cX8_people 75 = .ok (.iconst 2, 1) := zd_at zhX8_people_0 39 rfl
def ziX8_people_76 : List (Nat × Instr × Nat) := [(76, .iload 7, 2), (78, .imul, 1), (79, .iadd, 1), (80, .istore 8, 2), (82, .aload 5, 2), (84, .iload 8, 2), (86, .iconst 2, 1), (87, .invokevirtual 284, 3), (90, .ifCond .ne 6, 3), (93, .bipush (-12), 2), (95, .ireturn, 1), (96, .aload_n 0, 1), (97, .aload 5, 2), (99, .getfield 232, 3), (102, .iload 8, 2), (104, .iaload, 1), (105, .aload 5, 2), (107, .getfield 232, 3), (110, .iload 8, 2), (112, .iconst 1, 1), (113, .iadd, 1), (114, .iaload, 1), (115, .invokevirtual 292, 3), (118, .ifCond .lt 6, 3), (121, .iinc 6 1, 3), (124, .iinc 7 1, 3), (127, .goto (-60), 3), (130, .iload 6, 2), (132, .ireturn, 1)]
theorem zhX8_people_76 : zd_chk (cX8_people.data.toList.drop 76) 76 ziX8_people_76 = true := by decide +kernel
theorem dX8_people_76 : decode cX8_people 76 = .ok (.iload 7, 2) := zd_at zhX8_people_76 0 rfl
theorem dX8_people_78 : decode cX8_people 78 = .ok (.imul, 1) := zd_at zhX8_people_76 1 rfl
theorem dX8_people_79 : decode cX8_people 79 = .ok (.iadd, 1) := zd_at zhX8_people_76 2 rfl
theorem dX8_people_80 : decode cX8_people 80 = .ok (.istore 8, 2) := zd_at zhX8_people_76 3 rfl
theorem dX8_people_82 : decode cX8_people 82 = .ok (.aload 5, 2) := zd_at zhX8_people_76 4 rfl
theorem dX8_people_84 : decode cX8_people 84 = .ok (.iload 8, 2) := zd_at zhX8_people_76 5 rfl
theorem dX8_people_86 : decode cX8_people 86 = .ok (.iconst 2, 1) := zd_at zhX8_people_76 6 rfl
theorem dX8_people_87 : decode cX8_people 87 = .ok (.invokevirtual 284, 3) := zd_at zhX8_people_76 7 rfl
theorem dX8_people_90 : decode cX8_people 90 = .ok (.ifCond .ne 6, 3) := zd_at zhX8_people_76 8 rfl
theorem dX8_people_93 : decode cX8_people 93 = .ok (.bipush (-12), 2) := zd_at zhX8_people_76 9 rfl
theorem dX8_people_95 : decode cX8_people 95 = .ok (.ireturn, 1) := zd_at zhX8_people_76 10 rfl
theorem dX8_people_96 : decode cX8_people 96 = .ok (.aload_n 0, 1) := zd_at zhX8_people_76 11 rfl
theorem dX8_people_97 : decode cX8_people 97 = .ok (.aload 5, 2) := zd_at zhX8_people_76 12 rfl
theorem dX8_people_99 : decode cX8_people 99 = .ok (.getfield 232, 3) := zd_at zhX8_people_76 13 rfl
theorem dX8_people_102 : decode cX8_people 102 = .ok (.iload 8, 2) := zd_at zhX8_people_76 14 rfl
theorem dX8_people_104 : decode cX8_people 104 = .ok (.iaload, 1) := zd_at zhX8_people_76 15 rfl
theorem dX8_people_105 : decode cX8_people 105 = .ok (.aload 5, 2) := zd_at zhX8_people_76 16 rfl
theorem dX8_people_107 : decode cX8_people 107 = .ok (.getfield 232, 3) := zd_at zhX8_people_76 17 rfl
theorem dX8_people_110 : decode cX8_people 110 = .ok (.iload 8, 2) := zd_at zhX8_people_76 18 rfl
theorem dX8_people_112 : decode cX8_people 112 = .ok (.iconst 1, 1) := zd_at zhX8_people_76 19 rfl
theorem dX8_people_113 : decode cX8_people 113 = .ok (.iadd, 1) := zd_at zhX8_people_76 20 rfl
theorem dX8_people_114 : decode cX8_people 114 = .ok (.iaload, 1) := zd_at zhX8_people_76 21 rfl
theorem dX8_people_115 : decode cX8_people 115 = .ok (.invokevirtual 292, 3) := zd_at zhX8_people_76 22 rfl
theorem dX8_people_118 : decode cX8_people 118 = .ok (.ifCond .lt 6, 3) := zd_at zhX8_people_76 23 rfl
theorem dX8_people_121 : decode cX8_people 121 = .ok (.iinc 6 1, 3) := zd_at zhX8_people_76 24 rfl
theorem dX8_people_124 : decode cX8_people 124 = .ok (.iinc 7 1, 3) := zd_at zhX8_people_76 25 rfl
theorem dX8_people_127 : decode cX8_people 127 = .ok (.goto (-60), 3) := zd_at zhX8_people_76 26 rfl
theorem dX8_people_130 : decode cX8_people 130 = .ok (.iload 6, 2) := zd_at zhX8_people_76 27 rfl
theorem dX8_people_132 : decode cX8_people 132 = .ok (.ireturn, 1) := zd_at zhX8_people_76 28 rfl
def ziX8_taken_0 : List (Nat × Instr × Nat) := [(0, .iload_n 2, 1), (1, .bipush 6, 2), (3, .invokestatic 95, 3), (6, .ifCond .ne 6, 3), (9, .bipush (-2), 2), (11, .ireturn, 1), (12, .aload_n 0, 1), (13, .iload_n 1, 1), (14, .invokevirtual 91, 3), (17, .ifCond .ne 6, 3), (20, .bipush (-11), 2), (22, .ireturn, 1), (23, .aload_n 0, 1), (24, .getfield 51, 3), (27, .getfield 99, 3), (30, .iload_n 1, 1), (31, .aaload, 1), (32, .astore_n 3, 1), (33, .aload_n 3, 1), (34, .getfield 122, 3), (37, .iload_n 2, 1), (38, .invokestatic 295, 3), (41, .ifCond .eq 10, 3), (44, .aload_n 3, 1), (45, .getfield 103, 3), (48, .goto 5, 3), (51, .bipush (-13), 2), (53, .ireturn, 1)]
theorem zhX8_taken_0 : zd_chk (cX8_taken.data.toList.drop 0) 0 ziX8_taken_0 = true := by decide +kernel
theorem dX8_taken_0 : decode cX8_taken 0 = .ok (.iload_n 2, 1) := zd_at zhX8_taken_0 0 rfl
theorem dX8_taken_1 : decode cX8_taken 1 = .ok (.bipush 6, 2) := zd_at zhX8_taken_0 1 rfl
theorem dX8_taken_3 : decode cX8_taken 3 = .ok (.invokestatic 95, 3) := zd_at zhX8_taken_0 2 rfl
theorem dX8_taken_6 : decode cX8_taken 6 = .ok (.ifCond .ne 6, 3) := zd_at zhX8_taken_0 3 rfl
theorem dX8_taken_9 : decode cX8_taken 9 = .ok (.bipush (-2), 2) := zd_at zhX8_taken_0 4 rfl
theorem dX8_taken_11 : decode cX8_taken 11 = .ok (.ireturn, 1) := zd_at zhX8_taken_0 5 rfl
theorem dX8_taken_12 : decode cX8_taken 12 = .ok (.aload_n 0, 1) := zd_at zhX8_taken_0 6 rfl
theorem dX8_taken_13 : decode cX8_taken 13 = .ok (.iload_n 1, 1) := zd_at zhX8_taken_0 7 rfl
theorem dX8_taken_14 : decode cX8_taken 14 = .ok (.invokevirtual 91, 3) := zd_at zhX8_taken_0 8 rfl
theorem dX8_taken_17 : decode cX8_taken 17 = .ok (.ifCond .ne 6, 3) := zd_at zhX8_taken_0 9 rfl
theorem dX8_taken_20 : decode cX8_taken 20 = .ok (.bipush (-11), 2) := zd_at zhX8_taken_0 10 rfl
theorem dX8_taken_22 : decode cX8_taken 22 = .ok (.ireturn, 1) := zd_at zhX8_taken_0 11 rfl
theorem dX8_taken_23 : decode cX8_taken 23 = .ok (.aload_n 0, 1) := zd_at zhX8_taken_0 12 rfl
theorem dX8_taken_24 : decode cX8_taken 24 = .ok (.getfield 51, 3) := zd_at zhX8_taken_0 13 rfl
theorem dX8_taken_27 : decode cX8_taken 27 = .ok (.getfield 99, 3) := zd_at zhX8_taken_0 14 rfl
theorem dX8_taken_30 : decode cX8_taken 30 = .ok (.iload_n 1, 1) := zd_at zhX8_taken_0 15 rfl
theorem dX8_taken_31 : decode cX8_taken 31 = .ok (.aaload, 1) := zd_at zhX8_taken_0 16 rfl
theorem dX8_taken_32 : decode cX8_taken 32 = .ok (.astore_n 3, 1) := zd_at zhX8_taken_0 17 rfl
theorem dX8_taken_33 : decode cX8_taken 33 = .ok (.aload_n 3, 1) := zd_at zhX8_taken_0 18 rfl
theorem dX8_taken_34 : decode cX8_taken 34 = .ok (.getfield 122, 3) := zd_at zhX8_taken_0 19 rfl
theorem dX8_taken_37 : decode cX8_taken 37 = .ok (.iload_n 2, 1) := zd_at zhX8_taken_0 20 rfl
theorem dX8_taken_38 : decode cX8_taken 38 = .ok (.invokestatic 295, 3) := zd_at zhX8_taken_0 21 rfl
theorem dX8_taken_41 : decode cX8_taken 41 = .ok (.ifCond .eq 10, 3) := zd_at zhX8_taken_0 22 rfl
theorem dX8_taken_44 : decode cX8_taken 44 = .ok (.aload_n 3, 1) := zd_at zhX8_taken_0 23 rfl
theorem dX8_taken_45 : decode cX8_taken 45 = .ok (.getfield 103, 3) := zd_at zhX8_taken_0 24 rfl
theorem dX8_taken_48 : decode cX8_taken 48 = .ok (.goto 5, 3) := zd_at zhX8_taken_0 25 rfl
theorem dX8_taken_51 : decode cX8_taken 51 = .ok (.bipush (-13), 2) := zd_at zhX8_taken_0 26 rfl
theorem dX8_taken_53 : decode cX8_taken 53 = .ok (.ireturn, 1) := zd_at zhX8_taken_0 27 rfl
def ziX8_isOne_0 : List (Nat × Instr × Nat) := [(0, .iload_n 1, 1), (1, .aload_n 0, 1), (2, .getfield 51, 3), (5, .getfield 115, 3), (8, .invokestatic 95, 3), (11, .ireturn, 1)]
theorem zhX8_isOne_0 : zd_chk (cX8_isOne.data.toList.drop 0) 0 ziX8_isOne_0 = true := by decide +kernel
theorem dX8_isOne_0 : decode cX8_isOne 0 = .ok (.iload_n 1, 1) := zd_at zhX8_isOne_0 0 rfl
theorem dX8_isOne_1 : decode cX8_isOne 1 = .ok (.aload_n 0, 1) := zd_at zhX8_isOne_0 1 rfl
theorem dX8_isOne_2 : decode cX8_isOne 2 = .ok (.getfield 51, 3) := zd_at zhX8_isOne_0 2 rfl
theorem dX8_isOne_5 : decode cX8_isOne 5 = .ok (.getfield 115, 3) := zd_at zhX8_isOne_0 3 rfl
theorem dX8_isOne_8 : decode cX8_isOne 8 = .ok (.invokestatic 95, 3) := zd_at zhX8_isOne_0 4 rfl
theorem dX8_isOne_11 : decode cX8_isOne 11 = .ok (.ireturn, 1) := zd_at zhX8_isOne_0 5 rfl
def ziX8_isSpan_0 : List (Nat × Instr × Nat) := [(0, .iload_n 0, 1), (1, .ifCond .lt 13, 3), (4, .iload_n 0, 1), (5, .bipush 60, 2), (7, .if_icmp .gt 7, 3), (10, .iconst 1, 1), (11, .goto 4, 3), (14, .iconst 0, 1), (15, .ireturn, 1)]
theorem zhX8_isSpan_0 : zd_chk (cX8_isSpan.data.toList.drop 0) 0 ziX8_isSpan_0 = true := by decide +kernel
theorem dX8_isSpan_0 : decode cX8_isSpan 0 = .ok (.iload_n 0, 1) := zd_at zhX8_isSpan_0 0 rfl
theorem dX8_isSpan_1 : decode cX8_isSpan 1 = .ok (.ifCond .lt 13, 3) := zd_at zhX8_isSpan_0 1 rfl
theorem dX8_isSpan_4 : decode cX8_isSpan 4 = .ok (.iload_n 0, 1) := zd_at zhX8_isSpan_0 2 rfl
theorem dX8_isSpan_5 : decode cX8_isSpan 5 = .ok (.bipush 60, 2) := zd_at zhX8_isSpan_0 3 rfl
theorem dX8_isSpan_7 : decode cX8_isSpan 7 = .ok (.if_icmp .gt 7, 3) := zd_at zhX8_isSpan_0 4 rfl
theorem dX8_isSpan_10 : decode cX8_isSpan 10 = .ok (.iconst 1, 1) := zd_at zhX8_isSpan_0 5 rfl
theorem dX8_isSpan_11 : decode cX8_isSpan 11 = .ok (.goto 4, 3) := zd_at zhX8_isSpan_0 6 rfl
theorem dX8_isSpan_14 : decode cX8_isSpan 14 = .ok (.iconst 0, 1) := zd_at zhX8_isSpan_0 7 rfl
theorem dX8_isSpan_15 : decode cX8_isSpan 15 = .ok (.ireturn, 1) := zd_at zhX8_isSpan_0 8 rfl
def ziX8_within_0 : List (Nat × Instr × Nat) := [(0, .iload_n 0, 1), (1, .ifCond .lt 12, 3), (4, .iload_n 0, 1), (5, .iload_n 1, 1), (6, .if_icmp .ge 7, 3), (9, .iconst 1, 1), (10, .goto 4, 3), (13, .iconst 0, 1), (14, .ireturn, 1)]
theorem zhX8_within_0 : zd_chk (cX8_within.data.toList.drop 0) 0 ziX8_within_0 = true := by decide +kernel
theorem dX8_within_0 : decode cX8_within 0 = .ok (.iload_n 0, 1) := zd_at zhX8_within_0 0 rfl
theorem dX8_within_1 : decode cX8_within 1 = .ok (.ifCond .lt 12, 3) := zd_at zhX8_within_0 1 rfl
theorem dX8_within_4 : decode cX8_within 4 = .ok (.iload_n 0, 1) := zd_at zhX8_within_0 2 rfl
theorem dX8_within_5 : decode cX8_within 5 = .ok (.iload_n 1, 1) := zd_at zhX8_within_0 3 rfl
theorem dX8_within_6 : decode cX8_within 6 = .ok (.if_icmp .ge 7, 3) := zd_at zhX8_within_0 4 rfl
theorem dX8_within_9 : decode cX8_within 9 = .ok (.iconst 1, 1) := zd_at zhX8_within_0 5 rfl
theorem dX8_within_10 : decode cX8_within 10 = .ok (.goto 4, 3) := zd_at zhX8_within_0 6 rfl
theorem dX8_within_13 : decode cX8_within 13 = .ok (.iconst 0, 1) := zd_at zhX8_within_0 7 rfl
theorem dX8_within_14 : decode cX8_within 14 = .ok (.ireturn, 1) := zd_at zhX8_within_0 8 rfl
