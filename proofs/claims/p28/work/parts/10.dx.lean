theorem dX0_init_0 : decode cX0_init 0 = .ok (.aload_n 0, 1) := by decide +kernel
theorem dX0_init_1 : decode cX0_init 1 = .ok (.invokespecial 3, 3) := by decide +kernel
theorem dX0_init_4 : decode cX0_init 4 = .ok (.aload_n 0, 1) := by decide +kernel
theorem dX0_init_5 : decode cX0_init 5 = .ok (.bipush 6, 2) := by decide +kernel
theorem dX0_init_7 : decode cX0_init 7 = .ok (.newarray .int, 2) := by decide +kernel
theorem dX0_init_9 : decode cX0_init 9 = .ok (.putfield 9, 3) := by decide +kernel
theorem dX0_init_12 : decode cX0_init 12 = .ok (.aload_n 0, 1) := by decide +kernel
theorem dX0_init_13 : decode cX0_init 13 = .ok (.aload_n 1, 1) := by decide +kernel
theorem dX0_init_14 : decode cX0_init 14 = .ok (.putfield 15, 3) := by decide +kernel
theorem dX0_init_17 : decode cX0_init 17 = .ok (.return_, 1) := by decide +kernel
theorem dX0_look_0 : decode cX0_look 0 = .ok (.aload_n 1, 1) := by decide +kernel
theorem dX0_look_1 : decode cX0_look 1 = .ok (.getfield 19, 3) := by decide +kernel
theorem dX0_look_4 : decode cX0_look 4 = .ok (.iload_n 2, 1) := by decide +kernel
theorem dX0_look_5 : decode cX0_look 5 = .ok (.aaload, 1) := by decide +kernel
theorem dX0_look_6 : decode cX0_look 6 = .ok (.astore 4, 2) := by decide +kernel
theorem dX0_look_8 : decode cX0_look 8 = .ok (.aload_n 0, 1) := by decide +kernel
theorem dX0_look_9 : decode cX0_look 9 = .ok (.aload_n 1, 1) := by decide +kernel
theorem dX0_look_10 : decode cX0_look 10 = .ok (.getfield 25, 3) := by decide +kernel
theorem dX0_look_13 : decode cX0_look 13 = .ok (.aload_n 1, 1) := by decide +kernel
theorem dX0_look_14 : decode cX0_look 14 = .ok (.getfield 29, 3) := by decide +kernel
theorem dX0_look_17 : decode cX0_look 17 = .ok (.aaload, 1) := by decide +kernel
theorem dX0_look_18 : decode cX0_look 18 = .ok (.putfield 15, 3) := by decide +kernel
theorem dX0_look_21 : decode cX0_look 21 = .ok (.aload_n 0, 1) := by decide +kernel
theorem dX0_look_22 : decode cX0_look 22 = .ok (.aload 4, 2) := by decide +kernel
theorem dX0_look_24 : decode cX0_look 24 = .ok (.getfield 33, 3) := by decide +kernel
theorem dX0_look_27 : decode cX0_look 27 = .ok (.putfield 38, 3) := by decide +kernel
theorem dX0_look_30 : decode cX0_look 30 = .ok (.aload_n 0, 1) := by decide +kernel
theorem dX0_look_31 : decode cX0_look 31 = .ok (.aload 4, 2) := by decide +kernel
theorem dX0_look_33 : decode cX0_look 33 = .ok (.getfield 39, 3) := by decide +kernel
theorem dX0_look_36 : decode cX0_look 36 = .ok (.iload_n 3, 1) := by decide +kernel
theorem dX0_look_37 : decode cX0_look 37 = .ok (.iaload, 1) := by decide +kernel
theorem dX0_look_38 : decode cX0_look 38 = .ok (.putfield 42, 3) := by decide +kernel
theorem dX0_look_41 : decode cX0_look 41 = .ok (.aload_n 0, 1) := by decide +kernel
theorem dX0_look_42 : decode cX0_look 42 = .ok (.aload_n 1, 1) := by decide +kernel
theorem dX0_look_43 : decode cX0_look 43 = .ok (.getfield 44, 3) := by decide +kernel
theorem dX0_look_46 : decode cX0_look 46 = .ok (.putfield 47, 3) := by decide +kernel
theorem dX0_look_49 : decode cX0_look 49 = .ok (.aload_n 0, 1) := by decide +kernel
theorem dX0_look_50 : decode cX0_look 50 = .ok (.getfield 9, 3) := by decide +kernel
theorem dX0_look_53 : decode cX0_look 53 = .ok (.iconst 0, 1) := by decide +kernel
theorem dX0_look_54 : decode cX0_look 54 = .ok (.aload 4, 2) := by decide +kernel
theorem dX0_look_56 : decode cX0_look 56 = .ok (.getfield 48, 3) := by decide +kernel
theorem dX0_look_59 : decode cX0_look 59 = .ok (.iload_n 3, 1) := by decide +kernel
theorem dX0_look_60 : decode cX0_look 60 = .ok (.iaload, 1) := by decide +kernel
theorem dX0_look_61 : decode cX0_look 61 = .ok (.iastore, 1) := by decide +kernel
theorem dX0_look_62 : decode cX0_look 62 = .ok (.aload_n 0, 1) := by decide +kernel
theorem dX0_look_63 : decode cX0_look 63 = .ok (.getfield 9, 3) := by decide +kernel
theorem dX0_look_66 : decode cX0_look 66 = .ok (.iconst 1, 1) := by decide +kernel
theorem dX0_look_67 : decode cX0_look 67 = .ok (.iconst 0, 1) := by decide +kernel
theorem dX0_look_68 : decode cX0_look 68 = .ok (.iastore, 1) := by decide +kernel
theorem dX0_look_69 : decode cX0_look 69 = .ok (.aload_n 0, 1) := by decide +kernel
theorem dX0_look_70 : decode cX0_look 70 = .ok (.getfield 9, 3) := by decide +kernel
theorem dX0_look_73 : decode cX0_look 73 = .ok (.iconst 3, 1) := by decide +kernel
theorem dX0_look_74 : decode cX0_look 74 = .ok (.aload 4, 2) := by decide +kernel
theorem dX0_look_76 : decode cX0_look 76 = .ok (.getfield 51, 3) := by decide +kernel
theorem dX0_look_79 : decode cX0_look 79 = .ok (.iastore, 1) := by decide +kernel
theorem dX0_look_80 : decode cX0_look 80 = .ok (.aload_n 0, 1) := by decide +kernel
theorem dX0_look_81 : decode cX0_look 81 = .ok (.getfield 9, 3) := by decide +kernel
theorem dX0_look_84 : decode cX0_look 84 = .ok (.iconst 4, 1) := by decide +kernel
theorem dX0_look_85 : decode cX0_look 85 = .ok (.iload_n 3, 1) := by decide +kernel
theorem dX0_look_86 : decode cX0_look 86 = .ok (.iastore, 1) := by decide +kernel
theorem dX0_look_87 : decode cX0_look 87 = .ok (.return_, 1) := by decide +kernel
theorem dX0_holds_0 : decode cX0_holds 0 = .ok (.aload_n 0, 1) := by decide +kernel
theorem dX0_holds_1 : decode cX0_holds 1 = .ok (.getfield 9, 3) := by decide +kernel
theorem dX0_holds_4 : decode cX0_holds 4 = .ok (.iconst 5, 1) := by decide +kernel
theorem dX0_holds_5 : decode cX0_holds 5 = .ok (.iload_n 1, 1) := by decide +kernel
theorem dX0_holds_6 : decode cX0_holds 6 = .ok (.iastore, 1) := by decide +kernel
theorem dX0_holds_7 : decode cX0_holds 7 = .ok (.aload_n 0, 1) := by decide +kernel
theorem dX0_holds_8 : decode cX0_holds 8 = .ok (.getfield 9, 3) := by decide +kernel
theorem dX0_holds_11 : decode cX0_holds 11 = .ok (.iconst 2, 1) := by decide +kernel
theorem dX0_holds_12 : decode cX0_holds 12 = .ok (.iload_n 2, 1) := by decide +kernel
theorem dX0_holds_13 : decode cX0_holds 13 = .ok (.iastore, 1) := by decide +kernel
theorem dX0_holds_14 : decode cX0_holds 14 = .ok (.aload_n 0, 1) := by decide +kernel
theorem dX0_holds_15 : decode cX0_holds 15 = .ok (.getfield 38, 3) := by decide +kernel
theorem dX0_holds_18 : decode cX0_holds 18 = .ok (.aload_n 0, 1) := by decide +kernel
theorem dX0_holds_19 : decode cX0_holds 19 = .ok (.getfield 9, 3) := by decide +kernel
theorem dX0_holds_22 : decode cX0_holds 22 = .ok (.iconst 3, 1) := by decide +kernel
theorem dX0_holds_23 : decode cX0_holds 23 = .ok (.iaload, 1) := by decide +kernel
theorem dX0_holds_24 : decode cX0_holds 24 = .ok (.aload_n 0, 1) := by decide +kernel
theorem dX0_holds_25 : decode cX0_holds 25 = .ok (.getfield 15, 3) := by decide +kernel
theorem dX0_holds_28 : decode cX0_holds 28 = .ok (.iconst 1, 1) := by decide +kernel
theorem dX0_holds_29 : decode cX0_holds 29 = .ok (.aload_n 0, 1) := by decide +kernel
theorem dX0_holds_30 : decode cX0_holds 30 = .ok (.getfield 9, 3) := by decide +kernel
theorem dX0_holds_33 : decode cX0_holds 33 = .ok (.invokevirtual 54, 3) := by decide +kernel
theorem dX0_holds_36 : decode cX0_holds 36 = .ok (.invokestatic 60, 3) := by decide +kernel
theorem dX0_holds_39 : decode cX0_holds 39 = .ok (.ireturn, 1) := by decide +kernel
theorem dX0_goesOffIn_0 : decode cX0_goesOffIn 0 = .ok (.aload_n 0, 1) := by decide +kernel
theorem dX0_goesOffIn_1 : decode cX0_goesOffIn 1 = .ok (.getfield 9, 3) := by decide +kernel
theorem dX0_goesOffIn_4 : decode cX0_goesOffIn 4 = .ok (.iconst 0, 1) := by decide +kernel
theorem dX0_goesOffIn_5 : decode cX0_goesOffIn 5 = .ok (.iaload, 1) := by decide +kernel
theorem dX0_goesOffIn_6 : decode cX0_goesOffIn 6 = .ok (.iconst (-1), 1) := by decide +kernel
theorem dX0_goesOffIn_7 : decode cX0_goesOffIn 7 = .ok (.if_icmp .ne 5, 3) := by decide +kernel
theorem dX0_goesOffIn_10 : decode cX0_goesOffIn 10 = .ok (.iconst (-1), 1) := by decide +kernel
theorem dX0_goesOffIn_11 : decode cX0_goesOffIn 11 = .ok (.ireturn, 1) := by decide +kernel
theorem dX0_goesOffIn_12 : decode cX0_goesOffIn 12 = .ok (.iconst 0, 1) := by decide +kernel
theorem dX0_goesOffIn_13 : decode cX0_goesOffIn 13 = .ok (.istore_n 2, 1) := by decide +kernel
theorem dX0_goesOffIn_14 : decode cX0_goesOffIn 14 = .ok (.iload_n 2, 1) := by decide +kernel
theorem dX0_goesOffIn_15 : decode cX0_goesOffIn 15 = .ok (.iload_n 1, 1) := by decide +kernel
theorem dX0_goesOffIn_16 : decode cX0_goesOffIn 16 = .ok (.if_icmp .ge 40, 3) := by decide +kernel
theorem dX0_goesOffIn_19 : decode cX0_goesOffIn 19 = .ok (.aload_n 0, 1) := by decide +kernel
theorem dX0_goesOffIn_20 : decode cX0_goesOffIn 20 = .ok (.getfield 42, 3) := by decide +kernel
theorem dX0_goesOffIn_23 : decode cX0_goesOffIn 23 = .ok (.iload_n 2, 1) := by decide +kernel
theorem dX0_goesOffIn_24 : decode cX0_goesOffIn 24 = .ok (.iadd, 1) := by decide +kernel
theorem dX0_goesOffIn_25 : decode cX0_goesOffIn 25 = .ok (.iconst 1, 1) := by decide +kernel
theorem dX0_goesOffIn_26 : decode cX0_goesOffIn 26 = .ok (.iadd, 1) := by decide +kernel
theorem dX0_goesOffIn_27 : decode cX0_goesOffIn 27 = .ok (.aload_n 0, 1) := by decide +kernel
theorem dX0_goesOffIn_28 : decode cX0_goesOffIn 28 = .ok (.aload_n 0, 1) := by decide +kernel
theorem dX0_goesOffIn_29 : decode cX0_goesOffIn 29 = .ok (.getfield 42, 3) := by decide +kernel
theorem dX0_goesOffIn_32 : decode cX0_goesOffIn 32 = .ok (.iload_n 2, 1) := by decide +kernel
theorem dX0_goesOffIn_33 : decode cX0_goesOffIn 33 = .ok (.iadd, 1) := by decide +kernel
theorem dX0_goesOffIn_34 : decode cX0_goesOffIn 34 = .ok (.iconst 1, 1) := by decide +kernel
theorem dX0_goesOffIn_35 : decode cX0_goesOffIn 35 = .ok (.iadd, 1) := by decide +kernel
theorem dX0_goesOffIn_36 : decode cX0_goesOffIn 36 = .ok (.aload_n 0, 1) := by decide +kernel
theorem dX0_goesOffIn_37 : decode cX0_goesOffIn 37 = .ok (.getfield 47, 3) := by decide +kernel
theorem dX0_goesOffIn_40 : decode cX0_goesOffIn 40 = .ok (.iload_n 2, 1) := by decide +kernel
theorem dX0_goesOffIn_41 : decode cX0_goesOffIn 41 = .ok (.iadd, 1) := by decide +kernel
theorem dX0_goesOffIn_42 : decode cX0_goesOffIn 42 = .ok (.invokevirtual 66, 3) := by decide +kernel
theorem dX0_goesOffIn_45 : decode cX0_goesOffIn 45 = .ok (.if_icmp .lt 5, 3) := by decide +kernel
theorem dX0_goesOffIn_48 : decode cX0_goesOffIn 48 = .ok (.iload_n 2, 1) := by decide +kernel
theorem dX0_goesOffIn_49 : decode cX0_goesOffIn 49 = .ok (.ireturn, 1) := by decide +kernel
theorem dX0_goesOffIn_50 : decode cX0_goesOffIn 50 = .ok (.iinc 2 1, 3) := by decide +kernel
theorem dX0_goesOffIn_53 : decode cX0_goesOffIn 53 = .ok (.goto (-39), 3) := by decide +kernel
theorem dX0_goesOffIn_56 : decode cX0_goesOffIn 56 = .ok (.iconst (-1), 1) := by decide +kernel
theorem dX0_goesOffIn_57 : decode cX0_goesOffIn 57 = .ok (.ireturn, 1) := by decide +kernel
theorem dX0_bears_0 : decode cX0_bears 0 = .ok (.aload_n 0, 1) := by decide +kernel
theorem dX0_bears_1 : decode cX0_bears 1 = .ok (.getfield 9, 3) := by decide +kernel
theorem dX0_bears_4 : decode cX0_bears 4 = .ok (.iconst 5, 1) := by decide +kernel
theorem dX0_bears_5 : decode cX0_bears 5 = .ok (.aload_n 0, 1) := by decide +kernel
theorem dX0_bears_6 : decode cX0_bears 6 = .ok (.getfield 42, 3) := by decide +kernel
theorem dX0_bears_9 : decode cX0_bears 9 = .ok (.iload_n 1, 1) := by decide +kernel
theorem dX0_bears_10 : decode cX0_bears 10 = .ok (.iadd, 1) := by decide +kernel
theorem dX0_bears_11 : decode cX0_bears 11 = .ok (.iconst 1, 1) := by decide +kernel
theorem dX0_bears_12 : decode cX0_bears 12 = .ok (.iadd, 1) := by decide +kernel
theorem dX0_bears_13 : decode cX0_bears 13 = .ok (.iastore, 1) := by decide +kernel
theorem dX0_bears_14 : decode cX0_bears 14 = .ok (.aload_n 0, 1) := by decide +kernel
theorem dX0_bears_15 : decode cX0_bears 15 = .ok (.getfield 9, 3) := by decide +kernel
theorem dX0_bears_18 : decode cX0_bears 18 = .ok (.iconst 2, 1) := by decide +kernel
theorem dX0_bears_19 : decode cX0_bears 19 = .ok (.aload_n 0, 1) := by decide +kernel
theorem dX0_bears_20 : decode cX0_bears 20 = .ok (.getfield 47, 3) := by decide +kernel
theorem dX0_bears_23 : decode cX0_bears 23 = .ok (.iload_n 1, 1) := by decide +kernel
theorem dX0_bears_24 : decode cX0_bears 24 = .ok (.iadd, 1) := by decide +kernel
theorem dX0_bears_25 : decode cX0_bears 25 = .ok (.iastore, 1) := by decide +kernel
theorem dX0_bears_26 : decode cX0_bears 26 = .ok (.aload_n 0, 1) := by decide +kernel
theorem dX0_bears_27 : decode cX0_bears 27 = .ok (.getfield 38, 3) := by decide +kernel
theorem dX0_bears_30 : decode cX0_bears 30 = .ok (.aload_n 0, 1) := by decide +kernel
theorem dX0_bears_31 : decode cX0_bears 31 = .ok (.getfield 9, 3) := by decide +kernel
theorem dX0_bears_34 : decode cX0_bears 34 = .ok (.iconst 3, 1) := by decide +kernel
theorem dX0_bears_35 : decode cX0_bears 35 = .ok (.iaload, 1) := by decide +kernel
theorem dX0_bears_36 : decode cX0_bears 36 = .ok (.aload_n 0, 1) := by decide +kernel
theorem dX0_bears_37 : decode cX0_bears 37 = .ok (.getfield 15, 3) := by decide +kernel
theorem dX0_bears_40 : decode cX0_bears 40 = .ok (.iconst 2, 1) := by decide +kernel
theorem dX0_bears_41 : decode cX0_bears 41 = .ok (.aload_n 0, 1) := by decide +kernel
theorem dX0_bears_42 : decode cX0_bears 42 = .ok (.getfield 9, 3) := by decide +kernel
theorem dX0_bears_45 : decode cX0_bears 45 = .ok (.invokevirtual 54, 3) := by decide +kernel
theorem dX0_bears_48 : decode cX0_bears 48 = .ok (.iload_n 2, 1) := by decide +kernel
theorem dX0_bears_49 : decode cX0_bears 49 = .ok (.invokestatic 69, 3) := by decide +kernel
theorem dX0_bears_52 : decode cX0_bears 52 = .ok (.ireturn, 1) := by decide +kernel
theorem dX1_init_0 : decode cX1_init 0 = .ok (.aload_n 0, 1) := by decide +kernel
theorem dX1_init_1 : decode cX1_init 1 = .ok (.invokespecial 3, 3) := by decide +kernel
theorem dX1_init_4 : decode cX1_init 4 = .ok (.aload_n 0, 1) := by decide +kernel
theorem dX1_init_5 : decode cX1_init 5 = .ok (.bipush 50, 2) := by decide +kernel
theorem dX1_init_7 : decode cX1_init 7 = .ok (.newarray .int, 2) := by decide +kernel
theorem dX1_init_9 : decode cX1_init 9 = .ok (.putfield 9, 3) := by decide +kernel
theorem dX1_init_12 : decode cX1_init 12 = .ok (.aload_n 0, 1) := by decide +kernel
theorem dX1_init_13 : decode cX1_init 13 = .ok (.bipush 50, 2) := by decide +kernel
theorem dX1_init_15 : decode cX1_init 15 = .ok (.newarray .int, 2) := by decide +kernel
theorem dX1_init_17 : decode cX1_init 17 = .ok (.putfield 15, 3) := by decide +kernel
theorem dX1_init_20 : decode cX1_init 20 = .ok (.aload_n 0, 1) := by decide +kernel
theorem dX1_init_21 : decode cX1_init 21 = .ok (.bipush 24, 2) := by decide +kernel
theorem dX1_init_23 : decode cX1_init 23 = .ok (.newarray .int, 2) := by decide +kernel
theorem dX1_init_25 : decode cX1_init 25 = .ok (.putfield 18, 3) := by decide +kernel
theorem dX1_init_28 : decode cX1_init 28 = .ok (.aload_n 0, 1) := by decide +kernel
theorem dX1_init_29 : decode cX1_init 29 = .ok (.sipush 1024, 3) := by decide +kernel
theorem dX1_init_32 : decode cX1_init 32 = .ok (.newarray .int, 2) := by decide +kernel
theorem dX1_init_34 : decode cX1_init 34 = .ok (.putfield 21, 3) := by decide +kernel
theorem dX1_init_37 : decode cX1_init 37 = .ok (.return_, 1) := by decide +kernel
theorem dX1_look_0 : decode cX1_look 0 = .ok (.aload_n 0, 1) := by decide +kernel
theorem dX1_look_1 : decode cX1_look 1 = .ok (.iconst 0, 1) := by decide +kernel
theorem dX1_look_2 : decode cX1_look 2 = .ok (.putfield 24, 3) := by decide +kernel
theorem dX1_look_5 : decode cX1_look 5 = .ok (.aload_n 0, 1) := by decide +kernel
theorem dX1_look_6 : decode cX1_look 6 = .ok (.iconst 0, 1) := by decide +kernel
theorem dX1_look_7 : decode cX1_look 7 = .ok (.putfield 28, 3) := by decide +kernel
theorem dX1_look_10 : decode cX1_look 10 = .ok (.aload_n 0, 1) := by decide +kernel
theorem dX1_look_11 : decode cX1_look 11 = .ok (.iconst (-1), 1) := by decide +kernel
theorem dX1_look_12 : decode cX1_look 12 = .ok (.putfield 31, 3) := by decide +kernel
theorem dX1_look_15 : decode cX1_look 15 = .ok (.iconst 0, 1) := by decide +kernel
theorem dX1_look_16 : decode cX1_look 16 = .ok (.istore 4, 2) := by decide +kernel
theorem dX1_look_18 : decode cX1_look 18 = .ok (.iload 4, 2) := by decide +kernel
theorem dX1_look_20 : decode cX1_look 20 = .ok (.bipush 50, 2) := by decide +kernel
theorem dX1_look_22 : decode cX1_look 22 = .ok (.if_icmp .ge 106, 3) := by decide +kernel
theorem dX1_look_25 : decode cX1_look 25 = .ok (.aload_n 0, 1) := by decide +kernel
theorem dX1_look_26 : decode cX1_look 26 = .ok (.getfield 9, 3) := by decide +kernel
theorem dX1_look_29 : decode cX1_look 29 = .ok (.iload 4, 2) := by decide +kernel
theorem dX1_look_31 : decode cX1_look 31 = .ok (.iconst (-1), 1) := by decide +kernel
theorem dX1_look_32 : decode cX1_look 32 = .ok (.iastore, 1) := by decide +kernel
theorem dX1_look_33 : decode cX1_look 33 = .ok (.aload_n 0, 1) := by decide +kernel
theorem dX1_look_34 : decode cX1_look 34 = .ok (.getfield 15, 3) := by decide +kernel
theorem dX1_look_37 : decode cX1_look 37 = .ok (.iload 4, 2) := by decide +kernel
theorem dX1_look_39 : decode cX1_look 39 = .ok (.iconst 0, 1) := by decide +kernel
theorem dX1_look_40 : decode cX1_look 40 = .ok (.iastore, 1) := by decide +kernel
theorem dX1_look_41 : decode cX1_look 41 = .ok (.iload 4, 2) := by decide +kernel
theorem dX1_look_43 : decode cX1_look 43 = .ok (.bipush 10, 2) := by decide +kernel
theorem dX1_look_45 : decode cX1_look 45 = .ok (.idiv, 1) := by decide +kernel
theorem dX1_look_46 : decode cX1_look 46 = .ok (.aload_n 1, 1) := by decide +kernel
theorem dX1_look_47 : decode cX1_look 47 = .ok (.getfield 34, 3) := by decide +kernel
theorem dX1_look_50 : decode cX1_look 50 = .ok (.if_icmp .lt 6, 3) := by decide +kernel
theorem dX1_look_53 : decode cX1_look 53 = .ok (.goto 69, 3) := by decide +kernel
theorem dX1_look_56 : decode cX1_look 56 = .ok (.aload_n 2, 1) := by decide +kernel
theorem dX1_look_57 : decode cX1_look 57 = .ok (.aload_n 1, 1) := by decide +kernel
theorem dX1_look_58 : decode cX1_look 58 = .ok (.iload 4, 2) := by decide +kernel
theorem dX1_look_60 : decode cX1_look 60 = .ok (.bipush 10, 2) := by decide +kernel
theorem dX1_look_62 : decode cX1_look 62 = .ok (.idiv, 1) := by decide +kernel
theorem dX1_look_63 : decode cX1_look 63 = .ok (.iload 4, 2) := by decide +kernel
theorem dX1_look_65 : decode cX1_look 65 = .ok (.bipush 10, 2) := by decide +kernel
theorem dX1_look_67 : decode cX1_look 67 = .ok (.irem, 1) := by decide +kernel
theorem dX1_look_68 : decode cX1_look 68 = .ok (.invokevirtual 39, 3) := by decide +kernel
theorem dX1_look_71 : decode cX1_look 71 = .ok (.aload_n 0, 1) := by decide +kernel
theorem dX1_look_72 : decode cX1_look 72 = .ok (.getfield 9, 3) := by decide +kernel
theorem dX1_look_75 : decode cX1_look 75 = .ok (.iload 4, 2) := by decide +kernel
theorem dX1_look_77 : decode cX1_look 77 = .ok (.aload_n 2, 1) := by decide +kernel
theorem dX1_look_78 : decode cX1_look 78 = .ok (.iload_n 3, 1) := by decide +kernel
theorem dX1_look_79 : decode cX1_look 79 = .ok (.invokevirtual 45, 3) := by decide +kernel
theorem dX1_look_82 : decode cX1_look 82 = .ok (.iastore, 1) := by decide +kernel
theorem dX1_look_83 : decode cX1_look 83 = .ok (.aload_n 0, 1) := by decide +kernel
theorem dX1_look_84 : decode cX1_look 84 = .ok (.getfield 9, 3) := by decide +kernel
theorem dX1_look_87 : decode cX1_look 87 = .ok (.iload 4, 2) := by decide +kernel
theorem dX1_look_89 : decode cX1_look 89 = .ok (.iaload, 1) := by decide +kernel
theorem dX1_look_90 : decode cX1_look 90 = .ok (.iconst (-1), 1) := by decide +kernel
theorem dX1_look_91 : decode cX1_look 91 = .ok (.if_icmp .eq 31, 3) := by decide +kernel
theorem dX1_look_94 : decode cX1_look 94 = .ok (.aload_n 0, 1) := by decide +kernel
theorem dX1_look_95 : decode cX1_look 95 = .ok (.iload 4, 2) := by decide +kernel
theorem dX1_look_97 : decode cX1_look 97 = .ok (.aload_n 2, 1) := by decide +kernel
theorem dX1_look_98 : decode cX1_look 98 = .ok (.aload_n 0, 1) := by decide +kernel
theorem dX1_look_99 : decode cX1_look 99 = .ok (.getfield 9, 3) := by decide +kernel
theorem dX1_look_102 : decode cX1_look 102 = .ok (.iload 4, 2) := by decide +kernel
theorem dX1_look_104 : decode cX1_look 104 = .ok (.iaload, 1) := by decide +kernel
theorem dX1_look_105 : decode cX1_look 105 = .ok (.aload_n 1, 1) := by decide +kernel
theorem dX1_look_106 : decode cX1_look 106 = .ok (.aload_n 0, 1) := by decide +kernel
theorem dX1_look_107 : decode cX1_look 107 = .ok (.getfield 9, 3) := by decide +kernel
theorem dX1_look_110 : decode cX1_look 110 = .ok (.iload 4, 2) := by decide +kernel
theorem dX1_look_112 : decode cX1_look 112 = .ok (.iaload, 1) := by decide +kernel
theorem dX1_look_113 : decode cX1_look 113 = .ok (.invokevirtual 49, 3) := by decide +kernel
theorem dX1_look_116 : decode cX1_look 116 = .ok (.invokevirtual 53, 3) := by decide +kernel
theorem dX1_look_119 : decode cX1_look 119 = .ok (.invokevirtual 57, 3) := by decide +kernel
theorem dX1_look_122 : decode cX1_look 122 = .ok (.iinc 4 1, 3) := by decide +kernel
theorem dX1_look_125 : decode cX1_look 125 = .ok (.goto (-107), 3) := by decide +kernel
theorem dX1_look_128 : decode cX1_look 128 = .ok (.return_, 1) := by decide +kernel
theorem dX1_note_0 : decode cX1_note 0 = .ok (.aload_n 0, 1) := by decide +kernel
theorem dX1_note_1 : decode cX1_note 1 = .ok (.getfield 15, 3) := by decide +kernel
theorem dX1_note_4 : decode cX1_note 4 = .ok (.iload_n 1, 1) := by decide +kernel
theorem dX1_note_5 : decode cX1_note 5 = .ok (.iload_n 2, 1) := by decide +kernel
theorem dX1_note_6 : decode cX1_note 6 = .ok (.iastore, 1) := by decide +kernel
theorem dX1_note_7 : decode cX1_note 7 = .ok (.aload_n 0, 1) := by decide +kernel
theorem dX1_note_8 : decode cX1_note 8 = .ok (.dup, 1) := by decide +kernel
theorem dX1_note_9 : decode cX1_note 9 = .ok (.getfield 24, 3) := by decide +kernel
theorem dX1_note_12 : decode cX1_note 12 = .ok (.iload_n 2, 1) := by decide +kernel
theorem dX1_note_13 : decode cX1_note 13 = .ok (.iadd, 1) := by decide +kernel
theorem dX1_note_14 : decode cX1_note 14 = .ok (.putfield 24, 3) := by decide +kernel
theorem dX1_note_17 : decode cX1_note 17 = .ok (.aload_n 0, 1) := by decide +kernel
theorem dX1_note_18 : decode cX1_note 18 = .ok (.dup, 1) := by decide +kernel
theorem dX1_note_19 : decode cX1_note 19 = .ok (.getfield 28, 3) := by decide +kernel
theorem dX1_note_22 : decode cX1_note 22 = .ok (.iconst 1, 1) := by decide +kernel
theorem dX1_note_23 : decode cX1_note 23 = .ok (.iadd, 1) := by decide +kernel
theorem dX1_note_24 : decode cX1_note 24 = .ok (.putfield 28, 3) := by decide +kernel
theorem dX1_note_27 : decode cX1_note 27 = .ok (.aload_n 0, 1) := by decide +kernel
theorem dX1_note_28 : decode cX1_note 28 = .ok (.getfield 31, 3) := by decide +kernel
theorem dX1_note_31 : decode cX1_note 31 = .ok (.iconst (-1), 1) := by decide +kernel
theorem dX1_note_32 : decode cX1_note 32 = .ok (.if_icmp .eq 21, 3) := by decide +kernel
theorem dX1_note_35 : decode cX1_note 35 = .ok (.aload_n 0, 1) := by decide +kernel
theorem dX1_note_36 : decode cX1_note 36 = .ok (.getfield 9, 3) := by decide +kernel
theorem dX1_note_39 : decode cX1_note 39 = .ok (.iload_n 1, 1) := by decide +kernel
theorem dX1_note_40 : decode cX1_note 40 = .ok (.iaload, 1) := by decide +kernel
theorem dX1_note_41 : decode cX1_note 41 = .ok (.aload_n 0, 1) := by decide +kernel
theorem dX1_note_42 : decode cX1_note 42 = .ok (.getfield 9, 3) := by decide +kernel
theorem dX1_note_45 : decode cX1_note 45 = .ok (.aload_n 0, 1) := by decide +kernel
theorem dX1_note_46 : decode cX1_note 46 = .ok (.getfield 31, 3) := by decide +kernel
theorem dX1_note_49 : decode cX1_note 49 = .ok (.iaload, 1) := by decide +kernel
theorem dX1_note_50 : decode cX1_note 50 = .ok (.if_icmp .ge 8, 3) := by decide +kernel
theorem dX1_note_53 : decode cX1_note 53 = .ok (.aload_n 0, 1) := by decide +kernel
theorem dX1_note_54 : decode cX1_note 54 = .ok (.iload_n 1, 1) := by decide +kernel
theorem dX1_note_55 : decode cX1_note 55 = .ok (.putfield 31, 3) := by decide +kernel
theorem dX1_note_58 : decode cX1_note 58 = .ok (.return_, 1) := by decide +kernel
theorem dX1_lookAtChurch_0 : decode cX1_lookAtChurch 0 = .ok (.iconst 0, 1) := by decide +kernel
theorem dX1_lookAtChurch_1 : decode cX1_lookAtChurch 1 = .ok (.istore_n 3, 1) := by decide +kernel
theorem dX1_lookAtChurch_2 : decode cX1_lookAtChurch 2 = .ok (.iconst 0, 1) := by decide +kernel
theorem dX1_lookAtChurch_3 : decode cX1_lookAtChurch 3 = .ok (.istore 4, 2) := by decide +kernel
theorem dX1_lookAtChurch_5 : decode cX1_lookAtChurch 5 = .ok (.iload 4, 2) := by decide +kernel
theorem dX1_lookAtChurch_7 : decode cX1_lookAtChurch 7 = .ok (.bipush 24, 2) := by decide +kernel
theorem dX1_lookAtChurch_9 : decode cX1_lookAtChurch 9 = .ok (.if_icmp .ge 17, 3) := by decide +kernel
theorem dX1_lookAtChurch_12 : decode cX1_lookAtChurch 12 = .ok (.aload_n 0, 1) := by decide +kernel
theorem dX1_lookAtChurch_13 : decode cX1_lookAtChurch 13 = .ok (.getfield 18, 3) := by decide +kernel
theorem dX1_lookAtChurch_16 : decode cX1_lookAtChurch 16 = .ok (.iload 4, 2) := by decide +kernel
theorem dX1_lookAtChurch_18 : decode cX1_lookAtChurch 18 = .ok (.iconst 0, 1) := by decide +kernel
theorem dX1_lookAtChurch_19 : decode cX1_lookAtChurch 19 = .ok (.iastore, 1) := by decide +kernel
theorem dX1_lookAtChurch_20 : decode cX1_lookAtChurch 20 = .ok (.iinc 4 1, 3) := by decide +kernel
theorem dX1_lookAtChurch_23 : decode cX1_lookAtChurch 23 = .ok (.goto (-18), 3) := by decide +kernel
theorem dX1_lookAtChurch_26 : decode cX1_lookAtChurch 26 = .ok (.iconst 0, 1) := by decide +kernel
theorem dX1_lookAtChurch_27 : decode cX1_lookAtChurch 27 = .ok (.istore 4, 2) := by decide +kernel
theorem dX1_lookAtChurch_29 : decode cX1_lookAtChurch 29 = .ok (.iload 4, 2) := by decide +kernel
theorem dX1_lookAtChurch_31 : decode cX1_lookAtChurch 31 = .ok (.bipush 50, 2) := by decide +kernel
theorem dX1_lookAtChurch_33 : decode cX1_lookAtChurch 33 = .ok (.if_icmp .ge 95, 3) := by decide +kernel
theorem dX1_lookAtChurch_36 : decode cX1_lookAtChurch 36 = .ok (.aload_n 0, 1) := by decide +kernel
theorem dX1_lookAtChurch_37 : decode cX1_lookAtChurch 37 = .ok (.getfield 9, 3) := by decide +kernel
theorem dX1_lookAtChurch_40 : decode cX1_lookAtChurch 40 = .ok (.iload 4, 2) := by decide +kernel
theorem dX1_lookAtChurch_42 : decode cX1_lookAtChurch 42 = .ok (.iaload, 1) := by decide +kernel
theorem dX1_lookAtChurch_43 : decode cX1_lookAtChurch 43 = .ok (.iconst (-1), 1) := by decide +kernel
theorem dX1_lookAtChurch_44 : decode cX1_lookAtChurch 44 = .ok (.if_icmp .ne 6, 3) := by decide +kernel
theorem dX1_lookAtChurch_47 : decode cX1_lookAtChurch 47 = .ok (.goto 75, 3) := by decide +kernel
theorem dX1_lookAtChurch_50 : decode cX1_lookAtChurch 50 = .ok (.aload_n 2, 1) := by decide +kernel
theorem dX1_lookAtChurch_51 : decode cX1_lookAtChurch 51 = .ok (.aload_n 1, 1) := by decide +kernel
theorem dX1_lookAtChurch_52 : decode cX1_lookAtChurch 52 = .ok (.iload 4, 2) := by decide +kernel
theorem dX1_lookAtChurch_54 : decode cX1_lookAtChurch 54 = .ok (.bipush 10, 2) := by decide +kernel
theorem dX1_lookAtChurch_56 : decode cX1_lookAtChurch 56 = .ok (.idiv, 1) := by decide +kernel
theorem dX1_lookAtChurch_57 : decode cX1_lookAtChurch 57 = .ok (.iload 4, 2) := by decide +kernel
theorem dX1_lookAtChurch_59 : decode cX1_lookAtChurch 59 = .ok (.bipush 10, 2) := by decide +kernel
theorem dX1_lookAtChurch_61 : decode cX1_lookAtChurch 61 = .ok (.irem, 1) := by decide +kernel
theorem dX1_lookAtChurch_62 : decode cX1_lookAtChurch 62 = .ok (.invokevirtual 39, 3) := by decide +kernel
theorem dX1_lookAtChurch_65 : decode cX1_lookAtChurch 65 = .ok (.aload_n 2, 1) := by decide +kernel
theorem dX1_lookAtChurch_66 : decode cX1_lookAtChurch 66 = .ok (.aload_n 0, 1) := by decide +kernel
theorem dX1_lookAtChurch_67 : decode cX1_lookAtChurch 67 = .ok (.getfield 9, 3) := by decide +kernel
theorem dX1_lookAtChurch_70 : decode cX1_lookAtChurch 70 = .ok (.iload 4, 2) := by decide +kernel
theorem dX1_lookAtChurch_72 : decode cX1_lookAtChurch 72 = .ok (.iaload, 1) := by decide +kernel
theorem dX1_lookAtChurch_73 : decode cX1_lookAtChurch 73 = .ok (.iconst 0, 1) := by decide +kernel
theorem dX1_lookAtChurch_74 : decode cX1_lookAtChurch 74 = .ok (.invokevirtual 53, 3) := by decide +kernel
theorem dX1_lookAtChurch_77 : decode cX1_lookAtChurch 77 = .ok (.istore 5, 2) := by decide +kernel
theorem dX1_lookAtChurch_79 : decode cX1_lookAtChurch 79 = .ok (.iload_n 3, 1) := by decide +kernel
theorem dX1_lookAtChurch_80 : decode cX1_lookAtChurch 80 = .ok (.iload 5, 2) := by decide +kernel
theorem dX1_lookAtChurch_82 : decode cX1_lookAtChurch 82 = .ok (.iadd, 1) := by decide +kernel
theorem dX1_lookAtChurch_83 : decode cX1_lookAtChurch 83 = .ok (.istore_n 3, 1) := by decide +kernel
theorem dX1_lookAtChurch_84 : decode cX1_lookAtChurch 84 = .ok (.aload_n 0, 1) := by decide +kernel
theorem dX1_lookAtChurch_85 : decode cX1_lookAtChurch 85 = .ok (.getfield 18, 3) := by decide +kernel
theorem dX1_lookAtChurch_88 : decode cX1_lookAtChurch 88 = .ok (.aload_n 1, 1) := by decide +kernel
theorem dX1_lookAtChurch_89 : decode cX1_lookAtChurch 89 = .ok (.getfield 61, 3) := by decide +kernel
theorem dX1_lookAtChurch_92 : decode cX1_lookAtChurch 92 = .ok (.aload_n 0, 1) := by decide +kernel
theorem dX1_lookAtChurch_93 : decode cX1_lookAtChurch 93 = .ok (.getfield 9, 3) := by decide +kernel
theorem dX1_lookAtChurch_96 : decode cX1_lookAtChurch 96 = .ok (.iload 4, 2) := by decide +kernel
theorem dX1_lookAtChurch_98 : decode cX1_lookAtChurch 98 = .ok (.iaload, 1) := by decide +kernel
theorem dX1_lookAtChurch_99 : decode cX1_lookAtChurch 99 = .ok (.iadd, 1) := by decide +kernel
theorem dX1_lookAtChurch_100 : decode cX1_lookAtChurch 100 = .ok (.bipush 24, 2) := by decide +kernel
theorem dX1_lookAtChurch_102 : decode cX1_lookAtChurch 102 = .ok (.irem, 1) := by decide +kernel
theorem dX1_lookAtChurch_103 : decode cX1_lookAtChurch 103 = .ok (.dup2, 1) := by decide +kernel
theorem dX1_lookAtChurch_104 : decode cX1_lookAtChurch 104 = .ok (.iaload, 1) := by decide +kernel
theorem dX1_lookAtChurch_105 : decode cX1_lookAtChurch 105 = .ok (.aload_n 2, 1) := by decide +kernel
theorem dX1_lookAtChurch_106 : decode cX1_lookAtChurch 106 = .ok (.aload_n 0, 1) := by decide +kernel
theorem dX1_lookAtChurch_107 : decode cX1_lookAtChurch 107 = .ok (.getfield 9, 3) := by decide +kernel
theorem dX1_lookAtChurch_110 : decode cX1_lookAtChurch 110 = .ok (.iload 4, 2) := by decide +kernel
theorem dX1_lookAtChurch_112 : decode cX1_lookAtChurch 112 = .ok (.iaload, 1) := by decide +kernel
theorem dX1_lookAtChurch_113 : decode cX1_lookAtChurch 113 = .ok (.iconst 1, 1) := by decide +kernel
theorem dX1_lookAtChurch_114 : decode cX1_lookAtChurch 114 = .ok (.invokevirtual 53, 3) := by decide +kernel
theorem dX1_lookAtChurch_117 : decode cX1_lookAtChurch 117 = .ok (.iload 5, 2) := by decide +kernel
theorem dX1_lookAtChurch_119 : decode cX1_lookAtChurch 119 = .ok (.isub, 1) := by decide +kernel
theorem dX1_lookAtChurch_120 : decode cX1_lookAtChurch 120 = .ok (.iadd, 1) := by decide +kernel
theorem dX1_lookAtChurch_121 : decode cX1_lookAtChurch 121 = .ok (.iastore, 1) := by decide +kernel
theorem dX1_lookAtChurch_122 : decode cX1_lookAtChurch 122 = .ok (.iinc 4 1, 3) := by decide +kernel
theorem dX1_lookAtChurch_125 : decode cX1_lookAtChurch 125 = .ok (.goto (-96), 3) := by decide +kernel
theorem dX1_lookAtChurch_128 : decode cX1_lookAtChurch 128 = .ok (.iconst 0, 1) := by decide +kernel
theorem dX1_lookAtChurch_129 : decode cX1_lookAtChurch 129 = .ok (.istore 4, 2) := by decide +kernel
theorem dX1_lookAtChurch_131 : decode cX1_lookAtChurch 131 = .ok (.iload 4, 2) := by decide +kernel
theorem dX1_lookAtChurch_133 : decode cX1_lookAtChurch 133 = .ok (.bipush 24, 2) := by decide +kernel
theorem dX1_lookAtChurch_135 : decode cX1_lookAtChurch 135 = .ok (.if_icmp .ge 20, 3) := by decide +kernel
theorem dX1_lookAtChurch_138 : decode cX1_lookAtChurch 138 = .ok (.aload_n 0, 1) := by decide +kernel
theorem dX1_lookAtChurch_139 : decode cX1_lookAtChurch 139 = .ok (.getfield 18, 3) := by decide +kernel
theorem dX1_lookAtChurch_142 : decode cX1_lookAtChurch 142 = .ok (.iload 4, 2) := by decide +kernel
theorem dX1_lookAtChurch_144 : decode cX1_lookAtChurch 144 = .ok (.dup2, 1) := by decide +kernel
theorem dX1_lookAtChurch_145 : decode cX1_lookAtChurch 145 = .ok (.iaload, 1) := by decide +kernel
theorem dX1_lookAtChurch_146 : decode cX1_lookAtChurch 146 = .ok (.iload_n 3, 1) := by decide +kernel
theorem dX1_lookAtChurch_147 : decode cX1_lookAtChurch 147 = .ok (.iadd, 1) := by decide +kernel
theorem dX1_lookAtChurch_148 : decode cX1_lookAtChurch 148 = .ok (.iastore, 1) := by decide +kernel
theorem dX1_lookAtChurch_149 : decode cX1_lookAtChurch 149 = .ok (.iinc 4 1, 3) := by decide +kernel
theorem dX1_lookAtChurch_152 : decode cX1_lookAtChurch 152 = .ok (.goto (-21), 3) := by decide +kernel
theorem dX1_lookAtChurch_155 : decode cX1_lookAtChurch 155 = .ok (.return_, 1) := by decide +kernel
theorem dX1_dearest_0 : decode cX1_dearest 0 = .ok (.iconst (-1), 1) := by decide +kernel
theorem dX1_dearest_1 : decode cX1_dearest 1 = .ok (.istore_n 1, 1) := by decide +kernel
theorem dX1_dearest_2 : decode cX1_dearest 2 = .ok (.iconst 0, 1) := by decide +kernel
theorem dX1_dearest_3 : decode cX1_dearest 3 = .ok (.istore_n 2, 1) := by decide +kernel
theorem dX1_dearest_4 : decode cX1_dearest 4 = .ok (.iconst 0, 1) := by decide +kernel
theorem dX1_dearest_5 : decode cX1_dearest 5 = .ok (.istore_n 3, 1) := by decide +kernel
theorem dX1_dearest_6 : decode cX1_dearest 6 = .ok (.iload_n 3, 1) := by decide +kernel
theorem dX1_dearest_7 : decode cX1_dearest 7 = .ok (.bipush 50, 2) := by decide +kernel
theorem dX1_dearest_9 : decode cX1_dearest 9 = .ok (.if_icmp .ge 28, 3) := by decide +kernel
theorem dX1_dearest_12 : decode cX1_dearest 12 = .ok (.aload_n 0, 1) := by decide +kernel
theorem dX1_dearest_13 : decode cX1_dearest 13 = .ok (.getfield 15, 3) := by decide +kernel
theorem dX1_dearest_16 : decode cX1_dearest 16 = .ok (.iload_n 3, 1) := by decide +kernel
theorem dX1_dearest_17 : decode cX1_dearest 17 = .ok (.iaload, 1) := by decide +kernel
theorem dX1_dearest_18 : decode cX1_dearest 18 = .ok (.iload_n 2, 1) := by decide +kernel
theorem dX1_dearest_19 : decode cX1_dearest 19 = .ok (.if_icmp .le 12, 3) := by decide +kernel
theorem dX1_dearest_22 : decode cX1_dearest 22 = .ok (.aload_n 0, 1) := by decide +kernel
theorem dX1_dearest_23 : decode cX1_dearest 23 = .ok (.getfield 15, 3) := by decide +kernel
theorem dX1_dearest_26 : decode cX1_dearest 26 = .ok (.iload_n 3, 1) := by decide +kernel
theorem dX1_dearest_27 : decode cX1_dearest 27 = .ok (.iaload, 1) := by decide +kernel
theorem dX1_dearest_28 : decode cX1_dearest 28 = .ok (.istore_n 2, 1) := by decide +kernel
theorem dX1_dearest_29 : decode cX1_dearest 29 = .ok (.iload_n 3, 1) := by decide +kernel
theorem dX1_dearest_30 : decode cX1_dearest 30 = .ok (.istore_n 1, 1) := by decide +kernel
theorem dX1_dearest_31 : decode cX1_dearest 31 = .ok (.iinc 3 1, 3) := by decide +kernel
theorem dX1_dearest_34 : decode cX1_dearest 34 = .ok (.goto (-28), 3) := by decide +kernel
theorem dX1_dearest_37 : decode cX1_dearest 37 = .ok (.iload_n 1, 1) := by decide +kernel
theorem dX1_dearest_38 : decode cX1_dearest 38 = .ok (.ireturn, 1) := by decide +kernel
theorem dX1_fewest_0 : decode cX1_fewest 0 = .ok (.iconst 0, 1) := by decide +kernel
theorem dX1_fewest_1 : decode cX1_fewest 1 = .ok (.istore_n 3, 1) := by decide +kernel
theorem dX1_fewest_2 : decode cX1_fewest 2 = .ok (.iload_n 3, 1) := by decide +kernel
theorem dX1_fewest_3 : decode cX1_fewest 3 = .ok (.bipush 10, 2) := by decide +kernel
theorem dX1_fewest_5 : decode cX1_fewest 5 = .ok (.if_icmp .ge 56, 3) := by decide +kernel
theorem dX1_fewest_8 : decode cX1_fewest 8 = .ok (.iconst 0, 1) := by decide +kernel
theorem dX1_fewest_9 : decode cX1_fewest 9 = .ok (.istore 4, 2) := by decide +kernel
theorem dX1_fewest_11 : decode cX1_fewest 11 = .ok (.iload 4, 2) := by decide +kernel
theorem dX1_fewest_13 : decode cX1_fewest 13 = .ok (.iconst 1, 1) := by decide +kernel
theorem dX1_fewest_14 : decode cX1_fewest 14 = .ok (.iload_n 3, 1) := by decide +kernel
theorem dX1_fewest_15 : decode cX1_fewest 15 = .ok (.ishl, 1) := by decide +kernel
theorem dX1_fewest_16 : decode cX1_fewest 16 = .ok (.if_icmp .ge 39, 3) := by decide +kernel
theorem dX1_fewest_19 : decode cX1_fewest 19 = .ok (.aload_n 0, 1) := by decide +kernel
theorem dX1_fewest_20 : decode cX1_fewest 20 = .ok (.getfield 21, 3) := by decide +kernel
theorem dX1_fewest_23 : decode cX1_fewest 23 = .ok (.iload 4, 2) := by decide +kernel
theorem dX1_fewest_25 : decode cX1_fewest 25 = .ok (.iconst 1, 1) := by decide +kernel
theorem dX1_fewest_26 : decode cX1_fewest 26 = .ok (.iload_n 3, 1) := by decide +kernel
theorem dX1_fewest_27 : decode cX1_fewest 27 = .ok (.ishl, 1) := by decide +kernel
theorem dX1_fewest_28 : decode cX1_fewest 28 = .ok (.ior, 1) := by decide +kernel
theorem dX1_fewest_29 : decode cX1_fewest 29 = .ok (.aload_n 0, 1) := by decide +kernel
theorem dX1_fewest_30 : decode cX1_fewest 30 = .ok (.getfield 21, 3) := by decide +kernel
theorem dX1_fewest_33 : decode cX1_fewest 33 = .ok (.iload 4, 2) := by decide +kernel
theorem dX1_fewest_35 : decode cX1_fewest 35 = .ok (.iaload, 1) := by decide +kernel
theorem dX1_fewest_36 : decode cX1_fewest 36 = .ok (.aload_n 0, 1) := by decide +kernel
theorem dX1_fewest_37 : decode cX1_fewest 37 = .ok (.getfield 15, 3) := by decide +kernel
theorem dX1_fewest_40 : decode cX1_fewest 40 = .ok (.iload_n 1, 1) := by decide +kernel
theorem dX1_fewest_41 : decode cX1_fewest 41 = .ok (.bipush 10, 2) := by decide +kernel
theorem dX1_fewest_43 : decode cX1_fewest 43 = .ok (.imul, 1) := by decide +kernel
theorem dX1_fewest_44 : decode cX1_fewest 44 = .ok (.iload_n 3, 1) := by decide +kernel
theorem dX1_fewest_45 : decode cX1_fewest 45 = .ok (.iadd, 1) := by decide +kernel
theorem dX1_fewest_46 : decode cX1_fewest 46 = .ok (.iaload, 1) := by decide +kernel
theorem dX1_fewest_47 : decode cX1_fewest 47 = .ok (.iadd, 1) := by decide +kernel
theorem dX1_fewest_48 : decode cX1_fewest 48 = .ok (.iastore, 1) := by decide +kernel
theorem dX1_fewest_49 : decode cX1_fewest 49 = .ok (.iinc 4 1, 3) := by decide +kernel
theorem dX1_fewest_52 : decode cX1_fewest 52 = .ok (.goto (-41), 3) := by decide +kernel
theorem dX1_fewest_55 : decode cX1_fewest 55 = .ok (.iinc 3 1, 3) := by decide +kernel
theorem dX1_fewest_58 : decode cX1_fewest 58 = .ok (.goto (-56), 3) := by decide +kernel
theorem dX1_fewest_61 : decode cX1_fewest 61 = .ok (.iconst (-1), 1) := by decide +kernel
theorem dX1_fewest_62 : decode cX1_fewest 62 = .ok (.istore_n 3, 1) := by decide +kernel
theorem dX1_fewest_63 : decode cX1_fewest 63 = .ok (.iconst 0, 1) := by decide +kernel
theorem dX1_fewest_64 : decode cX1_fewest 64 = .ok (.istore 4, 2) := by decide +kernel
theorem dX1_fewest_66 : decode cX1_fewest 66 = .ok (.iload 4, 2) := by decide +kernel
theorem dX1_fewest_68 : decode cX1_fewest 68 = .ok (.sipush 1024, 3) := by decide +kernel
theorem dX1_fewest_71 : decode cX1_fewest 71 = .ok (.if_icmp .ge 48, 3) := by decide +kernel
theorem dX1_fewest_74 : decode cX1_fewest 74 = .ok (.aload_n 0, 1) := by decide +kernel
theorem dX1_fewest_75 : decode cX1_fewest 75 = .ok (.getfield 24, 3) := by decide +kernel
theorem dX1_fewest_78 : decode cX1_fewest 78 = .ok (.aload_n 0, 1) := by decide +kernel
theorem dX1_fewest_79 : decode cX1_fewest 79 = .ok (.getfield 21, 3) := by decide +kernel
theorem dX1_fewest_82 : decode cX1_fewest 82 = .ok (.iload 4, 2) := by decide +kernel
theorem dX1_fewest_84 : decode cX1_fewest 84 = .ok (.iaload, 1) := by decide +kernel
theorem dX1_fewest_85 : decode cX1_fewest 85 = .ok (.isub, 1) := by decide +kernel
theorem dX1_fewest_86 : decode cX1_fewest 86 = .ok (.iload_n 2, 1) := by decide +kernel
theorem dX1_fewest_87 : decode cX1_fewest 87 = .ok (.if_icmp .le 6, 3) := by decide +kernel
theorem dX1_fewest_90 : decode cX1_fewest 90 = .ok (.goto 23, 3) := by decide +kernel
theorem dX1_fewest_93 : decode cX1_fewest 93 = .ok (.iload_n 3, 1) := by decide +kernel
theorem dX1_fewest_94 : decode cX1_fewest 94 = .ok (.iconst (-1), 1) := by decide +kernel
theorem dX1_fewest_95 : decode cX1_fewest 95 = .ok (.if_icmp .eq 15, 3) := by decide +kernel
theorem dX1_fewest_98 : decode cX1_fewest 98 = .ok (.iload 4, 2) := by decide +kernel
theorem dX1_fewest_100 : decode cX1_fewest 100 = .ok (.invokestatic 64, 3) := by decide +kernel
theorem dX1_fewest_103 : decode cX1_fewest 103 = .ok (.iload_n 3, 1) := by decide +kernel
theorem dX1_fewest_104 : decode cX1_fewest 104 = .ok (.invokestatic 64, 3) := by decide +kernel
theorem dX1_fewest_107 : decode cX1_fewest 107 = .ok (.if_icmp .ge 6, 3) := by decide +kernel
theorem dX1_fewest_110 : decode cX1_fewest 110 = .ok (.iload 4, 2) := by decide +kernel
theorem dX1_fewest_112 : decode cX1_fewest 112 = .ok (.istore_n 3, 1) := by decide +kernel
theorem dX1_fewest_113 : decode cX1_fewest 113 = .ok (.iinc 4 1, 3) := by decide +kernel
theorem dX1_fewest_116 : decode cX1_fewest 116 = .ok (.goto (-50), 3) := by decide +kernel
theorem dX1_fewest_119 : decode cX1_fewest 119 = .ok (.iload_n 3, 1) := by decide +kernel
theorem dX1_fewest_120 : decode cX1_fewest 120 = .ok (.ireturn, 1) := by decide +kernel
theorem dX2_takes_0 : decode cX2_takes 0 = .ok (.iload_n 0, 1) := by decide +kernel
theorem dX2_takes_1 : decode cX2_takes 1 = .ok (.tableswitch 72 1 5 #[35, 72, 42, 59, 67], 35) := by decide +kernel
theorem dX2_takes_36 : decode cX2_takes 36 = .ok (.iload_n 1, 1) := by decide +kernel
theorem dX2_takes_37 : decode cX2_takes 37 = .ok (.bipush 10, 2) := by decide +kernel
theorem dX2_takes_39 : decode cX2_takes 39 = .ok (.irem, 1) := by decide +kernel
theorem dX2_takes_40 : decode cX2_takes 40 = .ok (.iconst 2, 1) := by decide +kernel
theorem dX2_takes_41 : decode cX2_takes 41 = .ok (.idiv, 1) := by decide +kernel
theorem dX2_takes_42 : decode cX2_takes 42 = .ok (.ireturn, 1) := by decide +kernel
theorem dX2_takes_43 : decode cX2_takes 43 = .ok (.iload_n 1, 1) := by decide +kernel
theorem dX2_takes_44 : decode cX2_takes 44 = .ok (.iconst 2, 1) := by decide +kernel
theorem dX2_takes_45 : decode cX2_takes 45 = .ok (.irem, 1) := by decide +kernel
theorem dX2_takes_46 : decode cX2_takes 46 = .ok (.ifCond .eq 7, 3) := by decide +kernel
theorem dX2_takes_49 : decode cX2_takes 49 = .ok (.iconst (-1), 1) := by decide +kernel
theorem dX2_takes_50 : decode cX2_takes 50 = .ok (.goto 9, 3) := by decide +kernel
theorem dX2_takes_53 : decode cX2_takes 53 = .ok (.iload_n 1, 1) := by decide +kernel
theorem dX2_takes_54 : decode cX2_takes 54 = .ok (.bipush 10, 2) := by decide +kernel
theorem dX2_takes_56 : decode cX2_takes 56 = .ok (.irem, 1) := by decide +kernel
theorem dX2_takes_57 : decode cX2_takes 57 = .ok (.iconst 2, 1) := by decide +kernel
theorem dX2_takes_58 : decode cX2_takes 58 = .ok (.idiv, 1) := by decide +kernel
theorem dX2_takes_59 : decode cX2_takes 59 = .ok (.ireturn, 1) := by decide +kernel
theorem dX2_takes_60 : decode cX2_takes 60 = .ok (.bipush 9, 2) := by decide +kernel
theorem dX2_takes_62 : decode cX2_takes 62 = .ok (.iload_n 1, 1) := by decide +kernel
theorem dX2_takes_63 : decode cX2_takes 63 = .ok (.bipush 10, 2) := by decide +kernel
theorem dX2_takes_65 : decode cX2_takes 65 = .ok (.irem, 1) := by decide +kernel
theorem dX2_takes_66 : decode cX2_takes 66 = .ok (.isub, 1) := by decide +kernel
theorem dX2_takes_67 : decode cX2_takes 67 = .ok (.ireturn, 1) := by decide +kernel
theorem dX2_takes_68 : decode cX2_takes 68 = .ok (.iload_n 1, 1) := by decide +kernel
theorem dX2_takes_69 : decode cX2_takes 69 = .ok (.bipush 10, 2) := by decide +kernel
theorem dX2_takes_71 : decode cX2_takes 71 = .ok (.idiv, 1) := by decide +kernel
theorem dX2_takes_72 : decode cX2_takes 72 = .ok (.ireturn, 1) := by decide +kernel
theorem dX2_takes_73 : decode cX2_takes 73 = .ok (.iload_n 1, 1) := by decide +kernel
theorem dX2_takes_74 : decode cX2_takes 74 = .ok (.bipush 10, 2) := by decide +kernel
theorem dX2_takes_76 : decode cX2_takes 76 = .ok (.irem, 1) := by decide +kernel
theorem dX2_takes_77 : decode cX2_takes 77 = .ok (.ireturn, 1) := by decide +kernel
theorem dX2_holds_0 : decode cX2_holds 0 = .ok (.iconst 1, 1) := by decide +kernel
theorem dX2_holds_1 : decode cX2_holds 1 = .ok (.iload_n 0, 1) := by decide +kernel
theorem dX2_holds_2 : decode cX2_holds 2 = .ok (.iload_n 1, 1) := by decide +kernel
theorem dX2_holds_3 : decode cX2_holds 3 = .ok (.iload_n 2, 1) := by decide +kernel
theorem dX2_holds_4 : decode cX2_holds 4 = .ok (.invokestatic 9, 3) := by decide +kernel
theorem dX2_holds_7 : decode cX2_holds 7 = .ok (.invokestatic 15, 3) := by decide +kernel
theorem dX2_holds_10 : decode cX2_holds 10 = .ok (.ireturn, 1) := by decide +kernel
theorem dX2_heldFor_0 : decode cX2_heldFor 0 = .ok (.iload_n 0, 1) := by decide +kernel
theorem dX2_heldFor_1 : decode cX2_heldFor 1 = .ok (.tableswitch 60 1 5 #[35, 39, 43, 49, 53], 35) := by decide +kernel
theorem dX2_heldFor_36 : decode cX2_heldFor 36 = .ok (.iload_n 2, 1) := by decide +kernel
theorem dX2_heldFor_37 : decode cX2_heldFor 37 = .ok (.iload_n 1, 1) := by decide +kernel
theorem dX2_heldFor_38 : decode cX2_heldFor 38 = .ok (.iadd, 1) := by decide +kernel
theorem dX2_heldFor_39 : decode cX2_heldFor 39 = .ok (.ireturn, 1) := by decide +kernel
theorem dX2_heldFor_40 : decode cX2_heldFor 40 = .ok (.iload_n 2, 1) := by decide +kernel
theorem dX2_heldFor_41 : decode cX2_heldFor 41 = .ok (.iconst 2, 1) := by decide +kernel
theorem dX2_heldFor_42 : decode cX2_heldFor 42 = .ok (.idiv, 1) := by decide +kernel
theorem dX2_heldFor_43 : decode cX2_heldFor 43 = .ok (.ireturn, 1) := by decide +kernel
theorem dX2_heldFor_44 : decode cX2_heldFor 44 = .ok (.iload_n 2, 1) := by decide +kernel
theorem dX2_heldFor_45 : decode cX2_heldFor 45 = .ok (.iload_n 1, 1) := by decide +kernel
theorem dX2_heldFor_46 : decode cX2_heldFor 46 = .ok (.iadd, 1) := by decide +kernel
theorem dX2_heldFor_47 : decode cX2_heldFor 47 = .ok (.iconst 3, 1) := by decide +kernel
theorem dX2_heldFor_48 : decode cX2_heldFor 48 = .ok (.isub, 1) := by decide +kernel
theorem dX2_heldFor_49 : decode cX2_heldFor 49 = .ok (.ireturn, 1) := by decide +kernel
theorem dX2_heldFor_50 : decode cX2_heldFor 50 = .ok (.iload_n 2, 1) := by decide +kernel
theorem dX2_heldFor_51 : decode cX2_heldFor 51 = .ok (.iconst 2, 1) := by decide +kernel
theorem dX2_heldFor_52 : decode cX2_heldFor 52 = .ok (.idiv, 1) := by decide +kernel
theorem dX2_heldFor_53 : decode cX2_heldFor 53 = .ok (.ireturn, 1) := by decide +kernel
theorem dX2_heldFor_54 : decode cX2_heldFor 54 = .ok (.iload_n 2, 1) := by decide +kernel
theorem dX2_heldFor_55 : decode cX2_heldFor 55 = .ok (.bipush 9, 2) := by decide +kernel
theorem dX2_heldFor_57 : decode cX2_heldFor 57 = .ok (.invokestatic 21, 3) := by decide +kernel
theorem dX2_heldFor_60 : decode cX2_heldFor 60 = .ok (.ireturn, 1) := by decide +kernel
theorem dX2_heldFor_61 : decode cX2_heldFor 61 = .ok (.iload_n 2, 1) := by decide +kernel
theorem dX2_heldFor_62 : decode cX2_heldFor 62 = .ok (.ireturn, 1) := by decide +kernel
theorem dX2_bears_0 : decode cX2_bears 0 = .ok (.iload_n 3, 1) := by decide +kernel
theorem dX2_bears_1 : decode cX2_bears 1 = .ok (.ifCond .eq 9, 3) := by decide +kernel
theorem dX2_bears_4 : decode cX2_bears 4 = .ok (.iconst 2, 1) := by decide +kernel
theorem dX2_bears_5 : decode cX2_bears 5 = .ok (.iload_n 2, 1) := by decide +kernel
theorem dX2_bears_6 : decode cX2_bears 6 = .ok (.imul, 1) := by decide +kernel
theorem dX2_bears_7 : decode cX2_bears 7 = .ok (.goto 4, 3) := by decide +kernel
theorem dX2_bears_10 : decode cX2_bears 10 = .ok (.iload_n 2, 1) := by decide +kernel
theorem dX2_bears_11 : decode cX2_bears 11 = .ok (.istore 4, 2) := by decide +kernel
theorem dX2_bears_13 : decode cX2_bears 13 = .ok (.iload_n 0, 1) := by decide +kernel
theorem dX2_bears_14 : decode cX2_bears 14 = .ok (.tableswitch 55 2 5 #[30, 55, 35, 53], 30) := by decide +kernel
theorem dX2_bears_44 : decode cX2_bears 44 = .ok (.iload 4, 2) := by decide +kernel
theorem dX2_bears_46 : decode cX2_bears 46 = .ok (.iload_n 1, 1) := by decide +kernel
theorem dX2_bears_47 : decode cX2_bears 47 = .ok (.iadd, 1) := by decide +kernel
theorem dX2_bears_48 : decode cX2_bears 48 = .ok (.ireturn, 1) := by decide +kernel
theorem dX2_bears_49 : decode cX2_bears 49 = .ok (.iload_n 3, 1) := by decide +kernel
theorem dX2_bears_50 : decode cX2_bears 50 = .ok (.ifCond .eq 12, 3) := by decide +kernel
theorem dX2_bears_53 : decode cX2_bears 53 = .ok (.iconst 3, 1) := by decide +kernel
theorem dX2_bears_54 : decode cX2_bears 54 = .ok (.iload 4, 2) := by decide +kernel
theorem dX2_bears_56 : decode cX2_bears 56 = .ok (.iload_n 1, 1) := by decide +kernel
theorem dX2_bears_57 : decode cX2_bears 57 = .ok (.iadd, 1) := by decide +kernel
theorem dX2_bears_58 : decode cX2_bears 58 = .ok (.imul, 1) := by decide +kernel
theorem dX2_bears_59 : decode cX2_bears 59 = .ok (.goto 7, 3) := by decide +kernel
theorem dX2_bears_62 : decode cX2_bears 62 = .ok (.iload 4, 2) := by decide +kernel
theorem dX2_bears_64 : decode cX2_bears 64 = .ok (.iload_n 1, 1) := by decide +kernel
theorem dX2_bears_65 : decode cX2_bears 65 = .ok (.iadd, 1) := by decide +kernel
theorem dX2_bears_66 : decode cX2_bears 66 = .ok (.ireturn, 1) := by decide +kernel
theorem dX2_bears_67 : decode cX2_bears 67 = .ok (.iconst 0, 1) := by decide +kernel
theorem dX2_bears_68 : decode cX2_bears 68 = .ok (.ireturn, 1) := by decide +kernel
theorem dX2_bears_69 : decode cX2_bears 69 = .ok (.iload 4, 2) := by decide +kernel
theorem dX2_bears_71 : decode cX2_bears 71 = .ok (.ireturn, 1) := by decide +kernel
theorem dX2_isUnder_0 : decode cX2_isUnder 0 = .ok (.iload_n 0, 1) := by decide +kernel
theorem dX2_isUnder_1 : decode cX2_isUnder 1 = .ok (.istore_n 2, 1) := by decide +kernel
theorem dX2_isUnder_2 : decode cX2_isUnder 2 = .ok (.iconst 0, 1) := by decide +kernel
theorem dX2_isUnder_3 : decode cX2_isUnder 3 = .ok (.istore_n 3, 1) := by decide +kernel
theorem dX2_isUnder_4 : decode cX2_isUnder 4 = .ok (.iload_n 3, 1) := by decide +kernel
theorem dX2_isUnder_5 : decode cX2_isUnder 5 = .ok (.bipush 6, 2) := by decide +kernel
theorem dX2_isUnder_7 : decode cX2_isUnder 7 = .ok (.if_icmp .ge 26, 3) := by decide +kernel
theorem dX2_isUnder_10 : decode cX2_isUnder 10 = .ok (.iload_n 2, 1) := by decide +kernel
theorem dX2_isUnder_11 : decode cX2_isUnder 11 = .ok (.iconst (-1), 1) := by decide +kernel
theorem dX2_isUnder_12 : decode cX2_isUnder 12 = .ok (.if_icmp .eq 21, 3) := by decide +kernel
theorem dX2_isUnder_15 : decode cX2_isUnder 15 = .ok (.iload_n 2, 1) := by decide +kernel
theorem dX2_isUnder_16 : decode cX2_isUnder 16 = .ok (.iload_n 1, 1) := by decide +kernel
theorem dX2_isUnder_17 : decode cX2_isUnder 17 = .ok (.if_icmp .ne 5, 3) := by decide +kernel
theorem dX2_isUnder_20 : decode cX2_isUnder 20 = .ok (.iconst 1, 1) := by decide +kernel
theorem dX2_isUnder_21 : decode cX2_isUnder 21 = .ok (.ireturn, 1) := by decide +kernel
theorem dX2_isUnder_22 : decode cX2_isUnder 22 = .ok (.iload_n 2, 1) := by decide +kernel
theorem dX2_isUnder_23 : decode cX2_isUnder 23 = .ok (.invokestatic 24, 3) := by decide +kernel
theorem dX2_isUnder_26 : decode cX2_isUnder 26 = .ok (.istore_n 2, 1) := by decide +kernel
theorem dX2_isUnder_27 : decode cX2_isUnder 27 = .ok (.iinc 3 1, 3) := by decide +kernel
theorem dX2_isUnder_30 : decode cX2_isUnder 30 = .ok (.goto (-26), 3) := by decide +kernel
theorem dX2_isUnder_33 : decode cX2_isUnder 33 = .ok (.iconst 0, 1) := by decide +kernel
theorem dX2_isUnder_34 : decode cX2_isUnder 34 = .ok (.ireturn, 1) := by decide +kernel
theorem dX2_above_0 : decode cX2_above 0 = .ok (.iload_n 0, 1) := by decide +kernel
theorem dX2_above_1 : decode cX2_above 1 = .ok (.tableswitch 45 1 5 #[35, 37, 39, 41, 43], 35) := by decide +kernel
theorem dX2_above_36 : decode cX2_above 36 = .ok (.iconst 0, 1) := by decide +kernel
theorem dX2_above_37 : decode cX2_above 37 = .ok (.ireturn, 1) := by decide +kernel
theorem dX2_above_38 : decode cX2_above 38 = .ok (.iconst 0, 1) := by decide +kernel
theorem dX2_above_39 : decode cX2_above 39 = .ok (.ireturn, 1) := by decide +kernel
theorem dX2_above_40 : decode cX2_above 40 = .ok (.iconst 1, 1) := by decide +kernel
theorem dX2_above_41 : decode cX2_above 41 = .ok (.ireturn, 1) := by decide +kernel
theorem dX2_above_42 : decode cX2_above 42 = .ok (.iconst 2, 1) := by decide +kernel
theorem dX2_above_43 : decode cX2_above 43 = .ok (.ireturn, 1) := by decide +kernel
theorem dX2_above_44 : decode cX2_above 44 = .ok (.iconst 0, 1) := by decide +kernel
theorem dX2_above_45 : decode cX2_above 45 = .ok (.ireturn, 1) := by decide +kernel
theorem dX2_above_46 : decode cX2_above 46 = .ok (.iconst (-1), 1) := by decide +kernel
theorem dX2_above_47 : decode cX2_above 47 = .ok (.ireturn, 1) := by decide +kernel
theorem dX3_init_0 : decode cX3_init 0 = .ok (.aload_n 0, 1) := by decide +kernel
theorem dX3_init_1 : decode cX3_init 1 = .ok (.invokespecial 3, 3) := by decide +kernel
theorem dX3_init_4 : decode cX3_init 4 = .ok (.aload_n 0, 1) := by decide +kernel
theorem dX3_init_5 : decode cX3_init 5 = .ok (.bipush 10, 2) := by decide +kernel
theorem dX3_init_7 : decode cX3_init 7 = .ok (.newarray .int, 2) := by decide +kernel
theorem dX3_init_9 : decode cX3_init 9 = .ok (.putfield 9, 3) := by decide +kernel
theorem dX3_init_12 : decode cX3_init 12 = .ok (.aload_n 0, 1) := by decide +kernel
theorem dX3_init_13 : decode cX3_init 13 = .ok (.bipush 10, 2) := by decide +kernel
theorem dX3_init_15 : decode cX3_init 15 = .ok (.newarray .int, 2) := by decide +kernel
theorem dX3_init_17 : decode cX3_init 17 = .ok (.putfield 15, 3) := by decide +kernel
theorem dX3_init_20 : decode cX3_init 20 = .ok (.return_, 1) := by decide +kernel
theorem dX3_become_0 : decode cX3_become 0 = .ok (.aload_n 0, 1) := by decide +kernel
theorem dX3_become_1 : decode cX3_become 1 = .ok (.aload_n 1, 1) := by decide +kernel
theorem dX3_become_2 : decode cX3_become 2 = .ok (.getfield 18, 3) := by decide +kernel
theorem dX3_become_5 : decode cX3_become 5 = .ok (.putfield 18, 3) := by decide +kernel
theorem dX3_become_8 : decode cX3_become 8 = .ok (.aload_n 0, 1) := by decide +kernel
theorem dX3_become_9 : decode cX3_become 9 = .ok (.aload_n 1, 1) := by decide +kernel
theorem dX3_become_10 : decode cX3_become 10 = .ok (.getfield 22, 3) := by decide +kernel
theorem dX3_become_13 : decode cX3_become 13 = .ok (.putfield 22, 3) := by decide +kernel
theorem dX3_become_16 : decode cX3_become 16 = .ok (.aload_n 1, 1) := by decide +kernel
theorem dX3_become_17 : decode cX3_become 17 = .ok (.getfield 9, 3) := by decide +kernel
theorem dX3_become_20 : decode cX3_become 20 = .ok (.iconst 0, 1) := by decide +kernel
theorem dX3_become_21 : decode cX3_become 21 = .ok (.aload_n 0, 1) := by decide +kernel
theorem dX3_become_22 : decode cX3_become 22 = .ok (.getfield 9, 3) := by decide +kernel
theorem dX3_become_25 : decode cX3_become 25 = .ok (.iconst 0, 1) := by decide +kernel
theorem dX3_become_26 : decode cX3_become 26 = .ok (.bipush 10, 2) := by decide +kernel
theorem dX3_become_28 : decode cX3_become 28 = .ok (.invokestatic 25, 3) := by decide +kernel
theorem dX3_become_31 : decode cX3_become 31 = .ok (.aload_n 1, 1) := by decide +kernel
theorem dX3_become_32 : decode cX3_become 32 = .ok (.getfield 15, 3) := by decide +kernel
theorem dX3_become_35 : decode cX3_become 35 = .ok (.iconst 0, 1) := by decide +kernel
theorem dX3_become_36 : decode cX3_become 36 = .ok (.aload_n 0, 1) := by decide +kernel
theorem dX3_become_37 : decode cX3_become 37 = .ok (.getfield 15, 3) := by decide +kernel
theorem dX3_become_40 : decode cX3_become 40 = .ok (.iconst 0, 1) := by decide +kernel
theorem dX3_become_41 : decode cX3_become 41 = .ok (.bipush 10, 2) := by decide +kernel
theorem dX3_become_43 : decode cX3_become 43 = .ok (.invokestatic 25, 3) := by decide +kernel
theorem dX3_become_46 : decode cX3_become 46 = .ok (.return_, 1) := by decide +kernel
theorem dX3_empty_0 : decode cX3_empty 0 = .ok (.aload_n 0, 1) := by decide +kernel
theorem dX3_empty_1 : decode cX3_empty 1 = .ok (.getfield 9, 3) := by decide +kernel
theorem dX3_empty_4 : decode cX3_empty 4 = .ok (.iload_n 1, 1) := by decide +kernel
theorem dX3_empty_5 : decode cX3_empty 5 = .ok (.iaload, 1) := by decide +kernel
theorem dX3_empty_6 : decode cX3_empty 6 = .ok (.istore_n 2, 1) := by decide +kernel
theorem dX3_empty_7 : decode cX3_empty 7 = .ok (.aload_n 0, 1) := by decide +kernel
theorem dX3_empty_8 : decode cX3_empty 8 = .ok (.getfield 9, 3) := by decide +kernel
theorem dX3_empty_11 : decode cX3_empty 11 = .ok (.iload_n 1, 1) := by decide +kernel
theorem dX3_empty_12 : decode cX3_empty 12 = .ok (.iconst (-1), 1) := by decide +kernel
theorem dX3_empty_13 : decode cX3_empty 13 = .ok (.iastore, 1) := by decide +kernel
theorem dX3_empty_14 : decode cX3_empty 14 = .ok (.iload_n 2, 1) := by decide +kernel
theorem dX3_empty_15 : decode cX3_empty 15 = .ok (.ireturn, 1) := by decide +kernel
theorem dX3_stuckInAll_0 : decode cX3_stuckInAll 0 = .ok (.iconst 0, 1) := by decide +kernel
theorem dX3_stuckInAll_1 : decode cX3_stuckInAll 1 = .ok (.istore_n 1, 1) := by decide +kernel
theorem dX3_stuckInAll_2 : decode cX3_stuckInAll 2 = .ok (.iconst 0, 1) := by decide +kernel
theorem dX3_stuckInAll_3 : decode cX3_stuckInAll 3 = .ok (.istore_n 2, 1) := by decide +kernel
theorem dX3_stuckInAll_4 : decode cX3_stuckInAll 4 = .ok (.iload_n 2, 1) := by decide +kernel
theorem dX3_stuckInAll_5 : decode cX3_stuckInAll 5 = .ok (.bipush 10, 2) := by decide +kernel
theorem dX3_stuckInAll_7 : decode cX3_stuckInAll 7 = .ok (.if_icmp .ge 22, 3) := by decide +kernel
theorem dX3_stuckInAll_10 : decode cX3_stuckInAll 10 = .ok (.aload_n 0, 1) := by decide +kernel
theorem dX3_stuckInAll_11 : decode cX3_stuckInAll 11 = .ok (.getfield 9, 3) := by decide +kernel
theorem dX3_stuckInAll_14 : decode cX3_stuckInAll 14 = .ok (.iload_n 2, 1) := by decide +kernel
theorem dX3_stuckInAll_15 : decode cX3_stuckInAll 15 = .ok (.iaload, 1) := by decide +kernel
theorem dX3_stuckInAll_16 : decode cX3_stuckInAll 16 = .ok (.iconst (-1), 1) := by decide +kernel
theorem dX3_stuckInAll_17 : decode cX3_stuckInAll 17 = .ok (.if_icmp .eq 6, 3) := by decide +kernel
theorem dX3_stuckInAll_20 : decode cX3_stuckInAll 20 = .ok (.iinc 1 1, 3) := by decide +kernel
theorem dX3_stuckInAll_23 : decode cX3_stuckInAll 23 = .ok (.iinc 2 1, 3) := by decide +kernel
theorem dX3_stuckInAll_26 : decode cX3_stuckInAll 26 = .ok (.goto (-22), 3) := by decide +kernel
theorem dX3_stuckInAll_29 : decode cX3_stuckInAll 29 = .ok (.iload_n 1, 1) := by decide +kernel
theorem dX3_stuckInAll_30 : decode cX3_stuckInAll 30 = .ok (.ireturn, 1) := by decide +kernel
theorem dX4_init_0 : decode cX4_init 0 = .ok (.aload_n 0, 1) := by decide +kernel
theorem dX4_init_1 : decode cX4_init 1 = .ok (.invokespecial 3, 3) := by decide +kernel
theorem dX4_init_4 : decode cX4_init 4 = .ok (.aload_n 0, 1) := by decide +kernel
theorem dX4_init_5 : decode cX4_init 5 = .ok (.sipush 160, 3) := by decide +kernel
theorem dX4_init_8 : decode cX4_init 8 = .ok (.newarray .int, 2) := by decide +kernel
theorem dX4_init_10 : decode cX4_init 10 = .ok (.putfield 9, 3) := by decide +kernel
theorem dX4_init_13 : decode cX4_init 13 = .ok (.aload_n 0, 1) := by decide +kernel
theorem dX4_init_14 : decode cX4_init 14 = .ok (.aload_n 1, 1) := by decide +kernel
theorem dX4_init_15 : decode cX4_init 15 = .ok (.putfield 15, 3) := by decide +kernel
theorem dX4_init_18 : decode cX4_init 18 = .ok (.return_, 1) := by decide +kernel
theorem dX4_put_0 : decode cX4_put 0 = .ok (.aload_n 0, 1) := by decide +kernel
theorem dX4_put_1 : decode cX4_put 1 = .ok (.getfield 19, 3) := by decide +kernel
theorem dX4_put_4 : decode cX4_put 4 = .ok (.sipush 160, 3) := by decide +kernel
theorem dX4_put_7 : decode cX4_put 7 = .ok (.if_icmp .ge 23, 3) := by decide +kernel
theorem dX4_put_10 : decode cX4_put 10 = .ok (.aload_n 0, 1) := by decide +kernel
theorem dX4_put_11 : decode cX4_put 11 = .ok (.getfield 9, 3) := by decide +kernel
theorem dX4_put_14 : decode cX4_put 14 = .ok (.aload_n 0, 1) := by decide +kernel
theorem dX4_put_15 : decode cX4_put 15 = .ok (.getfield 19, 3) := by decide +kernel
theorem dX4_put_18 : decode cX4_put 18 = .ok (.iload_n 1, 1) := by decide +kernel
theorem dX4_put_19 : decode cX4_put 19 = .ok (.iastore, 1) := by decide +kernel
theorem dX4_put_20 : decode cX4_put 20 = .ok (.aload_n 0, 1) := by decide +kernel
theorem dX4_put_21 : decode cX4_put 21 = .ok (.dup, 1) := by decide +kernel
theorem dX4_put_22 : decode cX4_put 22 = .ok (.getfield 19, 3) := by decide +kernel
theorem dX4_put_25 : decode cX4_put 25 = .ok (.iconst 1, 1) := by decide +kernel
theorem dX4_put_26 : decode cX4_put 26 = .ok (.iadd, 1) := by decide +kernel
theorem dX4_put_27 : decode cX4_put 27 = .ok (.putfield 19, 3) := by decide +kernel
theorem dX4_put_30 : decode cX4_put 30 = .ok (.aload_n 0, 1) := by decide +kernel
theorem dX4_put_31 : decode cX4_put 31 = .ok (.getfield 19, 3) := by decide +kernel
theorem dX4_put_34 : decode cX4_put 34 = .ok (.ireturn, 1) := by decide +kernel
theorem dX4_read_0 : decode cX4_read 0 = .ok (.aload_n 0, 1) := by decide +kernel
theorem dX4_read_1 : decode cX4_read 1 = .ok (.aload_n 1, 1) := by decide +kernel
theorem dX4_read_2 : decode cX4_read 2 = .ok (.putfield 15, 3) := by decide +kernel
theorem dX4_read_5 : decode cX4_read 5 = .ok (.aload_n 0, 1) := by decide +kernel
theorem dX4_read_6 : decode cX4_read 6 = .ok (.getfield 15, 3) := by decide +kernel
theorem dX4_read_9 : decode cX4_read 9 = .ok (.invokevirtual 23, 3) := by decide +kernel
theorem dX4_read_12 : decode cX4_read 12 = .ok (.aload_n 0, 1) := by decide +kernel
theorem dX4_read_13 : decode cX4_read 13 = .ok (.iconst (-1), 1) := by decide +kernel
theorem dX4_read_14 : decode cX4_read 14 = .ok (.putfield 28, 3) := by decide +kernel
theorem dX4_read_17 : decode cX4_read 17 = .ok (.aload_n 0, 1) := by decide +kernel
theorem dX4_read_18 : decode cX4_read 18 = .ok (.iconst 0, 1) := by decide +kernel
theorem dX4_read_19 : decode cX4_read 19 = .ok (.putfield 31, 3) := by decide +kernel
theorem dX4_read_22 : decode cX4_read 22 = .ok (.aload_n 0, 1) := by decide +kernel
theorem dX4_read_23 : decode cX4_read 23 = .ok (.invokevirtual 34, 3) := by decide +kernel
theorem dX4_read_26 : decode cX4_read 26 = .ok (.iconst 0, 1) := by decide +kernel
theorem dX4_read_27 : decode cX4_read 27 = .ok (.istore_n 2, 1) := by decide +kernel
theorem dX4_read_28 : decode cX4_read 28 = .ok (.iload_n 2, 1) := by decide +kernel
theorem dX4_read_29 : decode cX4_read 29 = .ok (.iconst 3, 1) := by decide +kernel
theorem dX4_read_30 : decode cX4_read 30 = .ok (.if_icmp .ge 35, 3) := by decide +kernel
theorem dX4_read_33 : decode cX4_read 33 = .ok (.aload_n 0, 1) := by decide +kernel
theorem dX4_read_34 : decode cX4_read 34 = .ok (.iconst 4, 1) := by decide +kernel
theorem dX4_read_35 : decode cX4_read 35 = .ok (.iload_n 2, 1) := by decide +kernel
theorem dX4_read_36 : decode cX4_read 36 = .ok (.iadd, 1) := by decide +kernel
theorem dX4_read_37 : decode cX4_read 37 = .ok (.invokevirtual 37, 3) := by decide +kernel
theorem dX4_read_40 : decode cX4_read 40 = .ok (.aload_n 0, 1) := by decide +kernel
theorem dX4_read_41 : decode cX4_read 41 = .ok (.iconst 0, 1) := by decide +kernel
theorem dX4_read_42 : decode cX4_read 42 = .ok (.invokevirtual 41, 3) := by decide +kernel
theorem dX4_read_45 : decode cX4_read 45 = .ok (.aload_n 0, 1) := by decide +kernel
theorem dX4_read_46 : decode cX4_read 46 = .ok (.bipush 59, 2) := by decide +kernel
theorem dX4_read_48 : decode cX4_read 48 = .ok (.invokevirtual 37, 3) := by decide +kernel
theorem dX4_read_51 : decode cX4_read 51 = .ok (.aload_n 0, 1) := by decide +kernel
theorem dX4_read_52 : decode cX4_read 52 = .ok (.getfield 15, 3) := by decide +kernel
theorem dX4_read_55 : decode cX4_read 55 = .ok (.iload_n 2, 1) := by decide +kernel
theorem dX4_read_56 : decode cX4_read 56 = .ok (.invokevirtual 44, 3) := by decide +kernel
theorem dX4_read_59 : decode cX4_read 59 = .ok (.iinc 2 1, 3) := by decide +kernel
theorem dX4_read_62 : decode cX4_read 62 = .ok (.goto (-34), 3) := by decide +kernel
theorem dX4_read_65 : decode cX4_read 65 = .ok (.aload_n 0, 1) := by decide +kernel
theorem dX4_read_66 : decode cX4_read 66 = .ok (.iconst 0, 1) := by decide +kernel
theorem dX4_read_67 : decode cX4_read 67 = .ok (.invokevirtual 47, 3) := by decide +kernel
theorem dX4_read_70 : decode cX4_read 70 = .ok (.ifCond .ne 7, 3) := by decide +kernel
theorem dX4_read_73 : decode cX4_read 73 = .ok (.aload_n 0, 1) := by decide +kernel
theorem dX4_read_74 : decode cX4_read 74 = .ok (.invokevirtual 51, 3) := by decide +kernel
theorem dX4_read_77 : decode cX4_read 77 = .ok (.aload_n 0, 1) := by decide +kernel
theorem dX4_read_78 : decode cX4_read 78 = .ok (.iconst 0, 1) := by decide +kernel
theorem dX4_read_79 : decode cX4_read 79 = .ok (.putfield 19, 3) := by decide +kernel
theorem dX4_read_82 : decode cX4_read 82 = .ok (.aload_n 0, 1) := by decide +kernel
theorem dX4_read_83 : decode cX4_read 83 = .ok (.getfield 28, 3) := by decide +kernel
theorem dX4_read_86 : decode cX4_read 86 = .ok (.ireturn, 1) := by decide +kernel
theorem dX4_at_0 : decode cX4_at 0 = .ok (.aload_n 0, 1) := by decide +kernel
theorem dX4_at_1 : decode cX4_at 1 = .ok (.getfield 28, 3) := by decide +kernel
theorem dX4_at_4 : decode cX4_at 4 = .ok (.iconst (-1), 1) := by decide +kernel
theorem dX4_at_5 : decode cX4_at 5 = .ok (.if_icmp .ne 15, 3) := by decide +kernel
theorem dX4_at_8 : decode cX4_at 8 = .ok (.aload_n 0, 1) := by decide +kernel
theorem dX4_at_9 : decode cX4_at 9 = .ok (.getfield 54, 3) := by decide +kernel
theorem dX4_at_12 : decode cX4_at 12 = .ok (.iload_n 1, 1) := by decide +kernel
theorem dX4_at_13 : decode cX4_at 13 = .ok (.if_icmp .ne 7, 3) := by decide +kernel
theorem dX4_at_16 : decode cX4_at 16 = .ok (.iconst 1, 1) := by decide +kernel
theorem dX4_at_17 : decode cX4_at 17 = .ok (.goto 4, 3) := by decide +kernel
theorem dX4_at_20 : decode cX4_at 20 = .ok (.iconst 0, 1) := by decide +kernel
theorem dX4_at_21 : decode cX4_at 21 = .ok (.ireturn, 1) := by decide +kernel
theorem dX4_fail_0 : decode cX4_fail 0 = .ok (.aload_n 0, 1) := by decide +kernel
theorem dX4_fail_1 : decode cX4_fail 1 = .ok (.getfield 28, 3) := by decide +kernel
theorem dX4_fail_4 : decode cX4_fail 4 = .ok (.iconst (-1), 1) := by decide +kernel
theorem dX4_fail_5 : decode cX4_fail 5 = .ok (.if_icmp .ne 11, 3) := by decide +kernel
theorem dX4_fail_8 : decode cX4_fail 8 = .ok (.aload_n 0, 1) := by decide +kernel
theorem dX4_fail_9 : decode cX4_fail 9 = .ok (.aload_n 0, 1) := by decide +kernel
theorem dX4_fail_10 : decode cX4_fail 10 = .ok (.getfield 57, 3) := by decide +kernel
theorem dX4_fail_13 : decode cX4_fail 13 = .ok (.putfield 28, 3) := by decide +kernel
theorem dX4_fail_16 : decode cX4_fail 16 = .ok (.return_, 1) := by decide +kernel
theorem dX4_expect_0 : decode cX4_expect 0 = .ok (.aload_n 0, 1) := by decide +kernel
theorem dX4_expect_1 : decode cX4_expect 1 = .ok (.iload_n 1, 1) := by decide +kernel
theorem dX4_expect_2 : decode cX4_expect 2 = .ok (.invokevirtual 47, 3) := by decide +kernel
theorem dX4_expect_5 : decode cX4_expect 5 = .ok (.ifCond .eq 10, 3) := by decide +kernel
theorem dX4_expect_8 : decode cX4_expect 8 = .ok (.aload_n 0, 1) := by decide +kernel
theorem dX4_expect_9 : decode cX4_expect 9 = .ok (.invokevirtual 34, 3) := by decide +kernel
theorem dX4_expect_12 : decode cX4_expect 12 = .ok (.goto 7, 3) := by decide +kernel
theorem dX4_expect_15 : decode cX4_expect 15 = .ok (.aload_n 0, 1) := by decide +kernel
theorem dX4_expect_16 : decode cX4_expect 16 = .ok (.invokevirtual 51, 3) := by decide +kernel
theorem dX4_expect_19 : decode cX4_expect 19 = .ok (.return_, 1) := by decide +kernel
theorem dX4_either_0 : decode cX4_either 0 = .ok (.aload_n 0, 1) := by decide +kernel
theorem dX4_either_1 : decode cX4_either 1 = .ok (.iload_n 1, 1) := by decide +kernel
theorem dX4_either_2 : decode cX4_either 2 = .ok (.invokevirtual 60, 3) := by decide +kernel
theorem dX4_either_5 : decode cX4_either 5 = .ok (.iconst 0, 1) := by decide +kernel
theorem dX4_either_6 : decode cX4_either 6 = .ok (.istore_n 2, 1) := by decide +kernel
theorem dX4_either_7 : decode cX4_either 7 = .ok (.iload_n 2, 1) := by decide +kernel
theorem dX4_either_8 : decode cX4_either 8 = .ok (.sipush 160, 3) := by decide +kernel
theorem dX4_either_11 : decode cX4_either 11 = .ok (.if_icmp .ge 36, 3) := by decide +kernel
theorem dX4_either_14 : decode cX4_either 14 = .ok (.aload_n 0, 1) := by decide +kernel
theorem dX4_either_15 : decode cX4_either 15 = .ok (.bipush 7, 2) := by decide +kernel
theorem dX4_either_17 : decode cX4_either 17 = .ok (.invokevirtual 47, 3) := by decide +kernel
theorem dX4_either_20 : decode cX4_either 20 = .ok (.ifCond .eq 27, 3) := by decide +kernel
theorem dX4_either_23 : decode cX4_either 23 = .ok (.aload_n 0, 1) := by decide +kernel
theorem dX4_either_24 : decode cX4_either 24 = .ok (.invokevirtual 34, 3) := by decide +kernel
theorem dX4_either_27 : decode cX4_either 27 = .ok (.aload_n 0, 1) := by decide +kernel
theorem dX4_either_28 : decode cX4_either 28 = .ok (.iload_n 1, 1) := by decide +kernel
theorem dX4_either_29 : decode cX4_either 29 = .ok (.invokevirtual 60, 3) := by decide +kernel
theorem dX4_either_32 : decode cX4_either 32 = .ok (.aload_n 0, 1) := by decide +kernel
theorem dX4_either_33 : decode cX4_either 33 = .ok (.getfield 15, 3) := by decide +kernel
theorem dX4_either_36 : decode cX4_either 36 = .ok (.bipush (-15), 2) := by decide +kernel
theorem dX4_either_38 : decode cX4_either 38 = .ok (.invokevirtual 63, 3) := by decide +kernel
theorem dX4_either_41 : decode cX4_either 41 = .ok (.iinc 2 1, 3) := by decide +kernel
theorem dX4_either_44 : decode cX4_either 44 = .ok (.goto (-37), 3) := by decide +kernel
theorem dX4_either_47 : decode cX4_either 47 = .ok (.return_, 1) := by decide +kernel
theorem dX4_both_0 : decode cX4_both 0 = .ok (.aload_n 0, 1) := by decide +kernel
theorem dX4_both_1 : decode cX4_both 1 = .ok (.iload_n 1, 1) := by decide +kernel
theorem dX4_both_2 : decode cX4_both 2 = .ok (.invokevirtual 66, 3) := by decide +kernel
theorem dX4_both_5 : decode cX4_both 5 = .ok (.iconst 0, 1) := by decide +kernel
theorem dX4_both_6 : decode cX4_both 6 = .ok (.istore_n 2, 1) := by decide +kernel
theorem dX4_both_7 : decode cX4_both 7 = .ok (.iload_n 2, 1) := by decide +kernel
theorem dX4_both_8 : decode cX4_both 8 = .ok (.sipush 160, 3) := by decide +kernel
theorem dX4_both_11 : decode cX4_both 11 = .ok (.if_icmp .ge 36, 3) := by decide +kernel
theorem dX4_both_14 : decode cX4_both 14 = .ok (.aload_n 0, 1) := by decide +kernel
theorem dX4_both_15 : decode cX4_both 15 = .ok (.bipush 8, 2) := by decide +kernel
theorem dX4_both_17 : decode cX4_both 17 = .ok (.invokevirtual 47, 3) := by decide +kernel
theorem dX4_both_20 : decode cX4_both 20 = .ok (.ifCond .eq 27, 3) := by decide +kernel
theorem dX4_both_23 : decode cX4_both 23 = .ok (.aload_n 0, 1) := by decide +kernel
theorem dX4_both_24 : decode cX4_both 24 = .ok (.invokevirtual 34, 3) := by decide +kernel
theorem dX4_both_27 : decode cX4_both 27 = .ok (.aload_n 0, 1) := by decide +kernel
theorem dX4_both_28 : decode cX4_both 28 = .ok (.iload_n 1, 1) := by decide +kernel
theorem dX4_both_29 : decode cX4_both 29 = .ok (.invokevirtual 66, 3) := by decide +kernel
theorem dX4_both_32 : decode cX4_both 32 = .ok (.aload_n 0, 1) := by decide +kernel
theorem dX4_both_33 : decode cX4_both 33 = .ok (.getfield 15, 3) := by decide +kernel
theorem dX4_both_36 : decode cX4_both 36 = .ok (.bipush (-14), 2) := by decide +kernel
theorem dX4_both_38 : decode cX4_both 38 = .ok (.invokevirtual 63, 3) := by decide +kernel
theorem dX4_both_41 : decode cX4_both 41 = .ok (.iinc 2 1, 3) := by decide +kernel
theorem dX4_both_44 : decode cX4_both 44 = .ok (.goto (-37), 3) := by decide +kernel
theorem dX4_both_47 : decode cX4_both 47 = .ok (.return_, 1) := by decide +kernel
theorem dX4_denial_0 : decode cX4_denial 0 = .ok (.aload_n 0, 1) := by decide +kernel
theorem dX4_denial_1 : decode cX4_denial 1 = .ok (.bipush 9, 2) := by decide +kernel
theorem dX4_denial_3 : decode cX4_denial 3 = .ok (.iload_n 1, 1) := by decide +kernel
theorem dX4_denial_4 : decode cX4_denial 4 = .ok (.invokevirtual 69, 3) := by decide +kernel
theorem dX4_denial_7 : decode cX4_denial 7 = .ok (.istore_n 2, 1) := by decide +kernel
theorem dX4_denial_8 : decode cX4_denial 8 = .ok (.aload_n 0, 1) := by decide +kernel
theorem dX4_denial_9 : decode cX4_denial 9 = .ok (.iload_n 2, 1) := by decide +kernel
theorem dX4_denial_10 : decode cX4_denial 10 = .ok (.invokevirtual 73, 3) := by decide +kernel
theorem dX4_denial_13 : decode cX4_denial 13 = .ok (.aload_n 0, 1) := by decide +kernel
theorem dX4_denial_14 : decode cX4_denial 14 = .ok (.bipush 60, 2) := by decide +kernel
theorem dX4_denial_16 : decode cX4_denial 16 = .ok (.invokevirtual 47, 3) := by decide +kernel
theorem dX4_denial_19 : decode cX4_denial 19 = .ok (.ifCond .ne 12, 3) := by decide +kernel
theorem dX4_denial_22 : decode cX4_denial 22 = .ok (.aload_n 0, 1) := by decide +kernel
theorem dX4_denial_23 : decode cX4_denial 23 = .ok (.bipush 61, 2) := by decide +kernel
theorem dX4_denial_25 : decode cX4_denial 25 = .ok (.invokevirtual 47, 3) := by decide +kernel
theorem dX4_denial_28 : decode cX4_denial 28 = .ok (.ifCond .eq 37, 3) := by decide +kernel
theorem dX4_denial_31 : decode cX4_denial 31 = .ok (.aload_n 0, 1) := by decide +kernel
theorem dX4_denial_32 : decode cX4_denial 32 = .ok (.getfield 54, 3) := by decide +kernel
theorem dX4_denial_35 : decode cX4_denial 35 = .ok (.bipush 60, 2) := by decide +kernel
theorem dX4_denial_37 : decode cX4_denial 37 = .ok (.if_icmp .ne 8, 3) := by decide +kernel
theorem dX4_denial_40 : decode cX4_denial 40 = .ok (.bipush (-12), 2) := by decide +kernel
theorem dX4_denial_42 : decode cX4_denial 42 = .ok (.goto 5, 3) := by decide +kernel
theorem dX4_denial_45 : decode cX4_denial 45 = .ok (.bipush (-13), 2) := by decide +kernel
theorem dX4_denial_47 : decode cX4_denial 47 = .ok (.istore_n 3, 1) := by decide +kernel
theorem dX4_denial_48 : decode cX4_denial 48 = .ok (.aload_n 0, 1) := by decide +kernel
theorem dX4_denial_49 : decode cX4_denial 49 = .ok (.invokevirtual 34, 3) := by decide +kernel
theorem dX4_denial_52 : decode cX4_denial 52 = .ok (.aload_n 0, 1) := by decide +kernel
theorem dX4_denial_53 : decode cX4_denial 53 = .ok (.iload_n 2, 1) := by decide +kernel
theorem dX4_denial_54 : decode cX4_denial 54 = .ok (.invokevirtual 73, 3) := by decide +kernel
theorem dX4_denial_57 : decode cX4_denial 57 = .ok (.aload_n 0, 1) := by decide +kernel
theorem dX4_denial_58 : decode cX4_denial 58 = .ok (.getfield 15, 3) := by decide +kernel
theorem dX4_denial_61 : decode cX4_denial 61 = .ok (.iload_n 3, 1) := by decide +kernel
theorem dX4_denial_62 : decode cX4_denial 62 = .ok (.invokevirtual 63, 3) := by decide +kernel
theorem dX4_denial_65 : decode cX4_denial 65 = .ok (.iload_n 1, 1) := by decide +kernel
theorem dX4_denial_66 : decode cX4_denial 66 = .ok (.istore_n 3, 1) := by decide +kernel
theorem dX4_denial_67 : decode cX4_denial 67 = .ok (.iload_n 3, 1) := by decide +kernel
theorem dX4_denial_68 : decode cX4_denial 68 = .ok (.iload_n 2, 1) := by decide +kernel
theorem dX4_denial_69 : decode cX4_denial 69 = .ok (.if_icmp .ge 18, 3) := by decide +kernel
theorem dX4_denial_72 : decode cX4_denial 72 = .ok (.aload_n 0, 1) := by decide +kernel
theorem dX4_denial_73 : decode cX4_denial 73 = .ok (.getfield 15, 3) := by decide +kernel
theorem dX4_denial_76 : decode cX4_denial 76 = .ok (.bipush (-8), 2) := by decide +kernel
theorem dX4_denial_78 : decode cX4_denial 78 = .ok (.invokevirtual 63, 3) := by decide +kernel
theorem dX4_denial_81 : decode cX4_denial 81 = .ok (.iinc 3 1, 3) := by decide +kernel
theorem dX4_denial_84 : decode cX4_denial 84 = .ok (.goto (-17), 3) := by decide +kernel
theorem dX4_denial_87 : decode cX4_denial 87 = .ok (.return_, 1) := by decide +kernel
theorem dX4_sum_0 : decode cX4_sum 0 = .ok (.aload_n 0, 1) := by decide +kernel
theorem dX4_sum_1 : decode cX4_sum 1 = .ok (.iload_n 1, 1) := by decide +kernel
theorem dX4_sum_2 : decode cX4_sum 2 = .ok (.invokevirtual 76, 3) := by decide +kernel
theorem dX4_sum_5 : decode cX4_sum 5 = .ok (.iconst 0, 1) := by decide +kernel
theorem dX4_sum_6 : decode cX4_sum 6 = .ok (.istore_n 2, 1) := by decide +kernel
theorem dX4_sum_7 : decode cX4_sum 7 = .ok (.iload_n 2, 1) := by decide +kernel
theorem dX4_sum_8 : decode cX4_sum 8 = .ok (.sipush 160, 3) := by decide +kernel
theorem dX4_sum_11 : decode cX4_sum 11 = .ok (.if_icmp .ge 61, 3) := by decide +kernel
theorem dX4_sum_14 : decode cX4_sum 14 = .ok (.aload_n 0, 1) := by decide +kernel
theorem dX4_sum_15 : decode cX4_sum 15 = .ok (.bipush 43, 2) := by decide +kernel
theorem dX4_sum_17 : decode cX4_sum 17 = .ok (.invokevirtual 47, 3) := by decide +kernel
theorem dX4_sum_20 : decode cX4_sum 20 = .ok (.ifCond .ne 12, 3) := by decide +kernel
theorem dX4_sum_23 : decode cX4_sum 23 = .ok (.aload_n 0, 1) := by decide +kernel
theorem dX4_sum_24 : decode cX4_sum 24 = .ok (.bipush 45, 2) := by decide +kernel
theorem dX4_sum_26 : decode cX4_sum 26 = .ok (.invokevirtual 47, 3) := by decide +kernel
theorem dX4_sum_29 : decode cX4_sum 29 = .ok (.ifCond .eq 43, 3) := by decide +kernel
theorem dX4_sum_32 : decode cX4_sum 32 = .ok (.aload_n 0, 1) := by decide +kernel
theorem dX4_sum_33 : decode cX4_sum 33 = .ok (.getfield 54, 3) := by decide +kernel
theorem dX4_sum_36 : decode cX4_sum 36 = .ok (.bipush 43, 2) := by decide +kernel
theorem dX4_sum_38 : decode cX4_sum 38 = .ok (.if_icmp .ne 8, 3) := by decide +kernel
theorem dX4_sum_41 : decode cX4_sum 41 = .ok (.bipush (-10), 2) := by decide +kernel
theorem dX4_sum_43 : decode cX4_sum 43 = .ok (.goto 5, 3) := by decide +kernel
theorem dX4_sum_46 : decode cX4_sum 46 = .ok (.bipush (-11), 2) := by decide +kernel
theorem dX4_sum_48 : decode cX4_sum 48 = .ok (.istore_n 3, 1) := by decide +kernel
theorem dX4_sum_49 : decode cX4_sum 49 = .ok (.aload_n 0, 1) := by decide +kernel
theorem dX4_sum_50 : decode cX4_sum 50 = .ok (.invokevirtual 34, 3) := by decide +kernel
theorem dX4_sum_53 : decode cX4_sum 53 = .ok (.aload_n 0, 1) := by decide +kernel
theorem dX4_sum_54 : decode cX4_sum 54 = .ok (.iload_n 1, 1) := by decide +kernel
theorem dX4_sum_55 : decode cX4_sum 55 = .ok (.invokevirtual 76, 3) := by decide +kernel
theorem dX4_sum_58 : decode cX4_sum 58 = .ok (.aload_n 0, 1) := by decide +kernel
theorem dX4_sum_59 : decode cX4_sum 59 = .ok (.getfield 15, 3) := by decide +kernel
theorem dX4_sum_62 : decode cX4_sum 62 = .ok (.iload_n 3, 1) := by decide +kernel
theorem dX4_sum_63 : decode cX4_sum 63 = .ok (.invokevirtual 63, 3) := by decide +kernel
theorem dX4_sum_66 : decode cX4_sum 66 = .ok (.iinc 2 1, 3) := by decide +kernel
theorem dX4_sum_69 : decode cX4_sum 69 = .ok (.goto (-62), 3) := by decide +kernel
theorem dX4_sum_72 : decode cX4_sum 72 = .ok (.return_, 1) := by decide +kernel
theorem dX4_term_0 : decode cX4_term 0 = .ok (.aload_n 0, 1) := by decide +kernel
theorem dX4_term_1 : decode cX4_term 1 = .ok (.iload_n 1, 1) := by decide +kernel
theorem dX4_term_2 : decode cX4_term 2 = .ok (.invokevirtual 79, 3) := by decide +kernel
theorem dX4_term_5 : decode cX4_term 5 = .ok (.iconst 0, 1) := by decide +kernel
theorem dX4_term_6 : decode cX4_term 6 = .ok (.istore_n 2, 1) := by decide +kernel
theorem dX4_term_7 : decode cX4_term 7 = .ok (.iload_n 2, 1) := by decide +kernel
theorem dX4_term_8 : decode cX4_term 8 = .ok (.sipush 160, 3) := by decide +kernel
theorem dX4_term_11 : decode cX4_term 11 = .ok (.if_icmp .ge 36, 3) := by decide +kernel
theorem dX4_term_14 : decode cX4_term 14 = .ok (.aload_n 0, 1) := by decide +kernel
theorem dX4_term_15 : decode cX4_term 15 = .ok (.bipush 42, 2) := by decide +kernel
theorem dX4_term_17 : decode cX4_term 17 = .ok (.invokevirtual 47, 3) := by decide +kernel
theorem dX4_term_20 : decode cX4_term 20 = .ok (.ifCond .eq 27, 3) := by decide +kernel
theorem dX4_term_23 : decode cX4_term 23 = .ok (.aload_n 0, 1) := by decide +kernel
theorem dX4_term_24 : decode cX4_term 24 = .ok (.invokevirtual 34, 3) := by decide +kernel
theorem dX4_term_27 : decode cX4_term 27 = .ok (.aload_n 0, 1) := by decide +kernel
theorem dX4_term_28 : decode cX4_term 28 = .ok (.iload_n 1, 1) := by decide +kernel
theorem dX4_term_29 : decode cX4_term 29 = .ok (.invokevirtual 79, 3) := by decide +kernel
theorem dX4_term_32 : decode cX4_term 32 = .ok (.aload_n 0, 1) := by decide +kernel
theorem dX4_term_33 : decode cX4_term 33 = .ok (.getfield 15, 3) := by decide +kernel
theorem dX4_term_36 : decode cX4_term 36 = .ok (.bipush (-9), 2) := by decide +kernel
theorem dX4_term_38 : decode cX4_term 38 = .ok (.invokevirtual 63, 3) := by decide +kernel
theorem dX4_term_41 : decode cX4_term 41 = .ok (.iinc 2 1, 3) := by decide +kernel
theorem dX4_term_44 : decode cX4_term 44 = .ok (.goto (-37), 3) := by decide +kernel
theorem dX4_term_47 : decode cX4_term 47 = .ok (.return_, 1) := by decide +kernel
theorem dX4_one_0 : decode cX4_one 0 = .ok (.aload_n 0, 1) := by decide +kernel
theorem dX4_one_1 : decode cX4_one 1 = .ok (.bipush 45, 2) := by decide +kernel
theorem dX4_one_3 : decode cX4_one 3 = .ok (.iload_n 1, 1) := by decide +kernel
theorem dX4_one_4 : decode cX4_one 4 = .ok (.invokevirtual 69, 3) := by decide +kernel
theorem dX4_one_7 : decode cX4_one 7 = .ok (.istore_n 2, 1) := by decide +kernel
theorem dX4_one_8 : decode cX4_one 8 = .ok (.aload_n 0, 1) := by decide +kernel
theorem dX4_one_9 : decode cX4_one 9 = .ok (.iconst 2, 1) := by decide +kernel
theorem dX4_one_10 : decode cX4_one 10 = .ok (.invokevirtual 47, 3) := by decide +kernel
theorem dX4_one_13 : decode cX4_one 13 = .ok (.ifCond .ne 11, 3) := by decide +kernel
theorem dX4_one_16 : decode cX4_one 16 = .ok (.aload_n 0, 1) := by decide +kernel
theorem dX4_one_17 : decode cX4_one 17 = .ok (.iconst 3, 1) := by decide +kernel
theorem dX4_one_18 : decode cX4_one 18 = .ok (.invokevirtual 47, 3) := by decide +kernel
theorem dX4_one_21 : decode cX4_one 21 = .ok (.ifCond .eq 38, 3) := by decide +kernel
theorem dX4_one_24 : decode cX4_one 24 = .ok (.aload_n 0, 1) := by decide +kernel
theorem dX4_one_25 : decode cX4_one 25 = .ok (.getfield 15, 3) := by decide +kernel
theorem dX4_one_28 : decode cX4_one 28 = .ok (.aload_n 0, 1) := by decide +kernel
theorem dX4_one_29 : decode cX4_one 29 = .ok (.getfield 54, 3) := by decide +kernel
theorem dX4_one_32 : decode cX4_one 32 = .ok (.iconst 2, 1) := by decide +kernel
theorem dX4_one_33 : decode cX4_one 33 = .ok (.if_icmp .ne 10, 3) := by decide +kernel
theorem dX4_one_36 : decode cX4_one 36 = .ok (.aload_n 0, 1) := by decide +kernel
theorem dX4_one_37 : decode cX4_one 37 = .ok (.getfield 82, 3) := by decide +kernel
theorem dX4_one_40 : decode cX4_one 40 = .ok (.goto 9, 3) := by decide +kernel
theorem dX4_one_43 : decode cX4_one 43 = .ok (.iconst (-1), 1) := by decide +kernel
theorem dX4_one_44 : decode cX4_one 44 = .ok (.aload_n 0, 1) := by decide +kernel
theorem dX4_one_45 : decode cX4_one 45 = .ok (.getfield 82, 3) := by decide +kernel
theorem dX4_one_48 : decode cX4_one 48 = .ok (.isub, 1) := by decide +kernel
theorem dX4_one_49 : decode cX4_one 49 = .ok (.invokevirtual 63, 3) := by decide +kernel
theorem dX4_one_52 : decode cX4_one 52 = .ok (.aload_n 0, 1) := by decide +kernel
theorem dX4_one_53 : decode cX4_one 53 = .ok (.invokevirtual 34, 3) := by decide +kernel
theorem dX4_one_56 : decode cX4_one 56 = .ok (.goto 41, 3) := by decide +kernel
theorem dX4_one_59 : decode cX4_one 59 = .ok (.aload_n 0, 1) := by decide +kernel
theorem dX4_one_60 : decode cX4_one 60 = .ok (.bipush 40, 2) := by decide +kernel
theorem dX4_one_62 : decode cX4_one 62 = .ok (.invokevirtual 47, 3) := by decide +kernel
theorem dX4_one_65 : decode cX4_one 65 = .ok (.ifCond .eq 28, 3) := by decide +kernel
theorem dX4_one_68 : decode cX4_one 68 = .ok (.iload_n 2, 1) := by decide +kernel
theorem dX4_one_69 : decode cX4_one 69 = .ok (.iconst 5, 1) := by decide +kernel
theorem dX4_one_70 : decode cX4_one 70 = .ok (.if_icmp .ge 23, 3) := by decide +kernel
theorem dX4_one_73 : decode cX4_one 73 = .ok (.aload_n 0, 1) := by decide +kernel
theorem dX4_one_74 : decode cX4_one 74 = .ok (.invokevirtual 34, 3) := by decide +kernel
theorem dX4_one_77 : decode cX4_one 77 = .ok (.aload_n 0, 1) := by decide +kernel
theorem dX4_one_78 : decode cX4_one 78 = .ok (.iload_n 2, 1) := by decide +kernel
theorem dX4_one_79 : decode cX4_one 79 = .ok (.iconst 1, 1) := by decide +kernel
theorem dX4_one_80 : decode cX4_one 80 = .ok (.iadd, 1) := by decide +kernel
theorem dX4_one_81 : decode cX4_one 81 = .ok (.invokevirtual 41, 3) := by decide +kernel
theorem dX4_one_84 : decode cX4_one 84 = .ok (.aload_n 0, 1) := by decide +kernel
theorem dX4_one_85 : decode cX4_one 85 = .ok (.bipush 41, 2) := by decide +kernel
theorem dX4_one_87 : decode cX4_one 87 = .ok (.invokevirtual 37, 3) := by decide +kernel
theorem dX4_one_90 : decode cX4_one 90 = .ok (.goto 7, 3) := by decide +kernel
theorem dX4_one_93 : decode cX4_one 93 = .ok (.aload_n 0, 1) := by decide +kernel
theorem dX4_one_94 : decode cX4_one 94 = .ok (.invokevirtual 51, 3) := by decide +kernel
theorem dX4_one_97 : decode cX4_one 97 = .ok (.iload_n 1, 1) := by decide +kernel
theorem dX4_one_98 : decode cX4_one 98 = .ok (.istore_n 3, 1) := by decide +kernel
theorem dX4_one_99 : decode cX4_one 99 = .ok (.iload_n 3, 1) := by decide +kernel
theorem dX4_one_100 : decode cX4_one 100 = .ok (.iload_n 2, 1) := by decide +kernel
theorem dX4_one_101 : decode cX4_one 101 = .ok (.if_icmp .ge 18, 3) := by decide +kernel
theorem dX4_one_104 : decode cX4_one 104 = .ok (.aload_n 0, 1) := by decide +kernel
theorem dX4_one_105 : decode cX4_one 105 = .ok (.getfield 15, 3) := by decide +kernel
theorem dX4_one_108 : decode cX4_one 108 = .ok (.bipush (-7), 2) := by decide +kernel
theorem dX4_one_110 : decode cX4_one 110 = .ok (.invokevirtual 63, 3) := by decide +kernel
theorem dX4_one_113 : decode cX4_one 113 = .ok (.iinc 3 1, 3) := by decide +kernel
theorem dX4_one_116 : decode cX4_one 116 = .ok (.goto (-17), 3) := by decide +kernel
theorem dX4_one_119 : decode cX4_one 119 = .ok (.return_, 1) := by decide +kernel
theorem dX4_openAll_0 : decode cX4_openAll 0 = .ok (.iload_n 2, 1) := by decide +kernel
theorem dX4_openAll_1 : decode cX4_openAll 1 = .ok (.istore_n 3, 1) := by decide +kernel
theorem dX4_openAll_2 : decode cX4_openAll 2 = .ok (.iload_n 3, 1) := by decide +kernel
theorem dX4_openAll_3 : decode cX4_openAll 3 = .ok (.iconst 5, 1) := by decide +kernel
theorem dX4_openAll_4 : decode cX4_openAll 4 = .ok (.if_icmp .ge 21, 3) := by decide +kernel
theorem dX4_openAll_7 : decode cX4_openAll 7 = .ok (.aload_n 0, 1) := by decide +kernel
theorem dX4_openAll_8 : decode cX4_openAll 8 = .ok (.iload_n 1, 1) := by decide +kernel
theorem dX4_openAll_9 : decode cX4_openAll 9 = .ok (.invokevirtual 47, 3) := by decide +kernel
theorem dX4_openAll_12 : decode cX4_openAll 12 = .ok (.ifCond .eq 13, 3) := by decide +kernel
theorem dX4_openAll_15 : decode cX4_openAll 15 = .ok (.aload_n 0, 1) := by decide +kernel
theorem dX4_openAll_16 : decode cX4_openAll 16 = .ok (.invokevirtual 34, 3) := by decide +kernel
theorem dX4_openAll_19 : decode cX4_openAll 19 = .ok (.iinc 3 1, 3) := by decide +kernel
theorem dX4_openAll_22 : decode cX4_openAll 22 = .ok (.goto (-20), 3) := by decide +kernel
theorem dX4_openAll_25 : decode cX4_openAll 25 = .ok (.aload_n 0, 1) := by decide +kernel
theorem dX4_openAll_26 : decode cX4_openAll 26 = .ok (.iload_n 1, 1) := by decide +kernel
theorem dX4_openAll_27 : decode cX4_openAll 27 = .ok (.invokevirtual 47, 3) := by decide +kernel
theorem dX4_openAll_30 : decode cX4_openAll 30 = .ok (.ifCond .eq 7, 3) := by decide +kernel
theorem dX4_openAll_33 : decode cX4_openAll 33 = .ok (.aload_n 0, 1) := by decide +kernel
theorem dX4_openAll_34 : decode cX4_openAll 34 = .ok (.invokevirtual 51, 3) := by decide +kernel
theorem dX4_openAll_37 : decode cX4_openAll 37 = .ok (.iload_n 3, 1) := by decide +kernel
theorem dX4_openAll_38 : decode cX4_openAll 38 = .ok (.ireturn, 1) := by decide +kernel
theorem dX4_advance_0 : decode cX4_advance 0 = .ok (.aload_n 0, 1) := by decide +kernel
theorem dX4_advance_1 : decode cX4_advance 1 = .ok (.getfield 31, 3) := by decide +kernel
theorem dX4_advance_4 : decode cX4_advance 4 = .ok (.aload_n 0, 1) := by decide +kernel
theorem dX4_advance_5 : decode cX4_advance 5 = .ok (.getfield 19, 3) := by decide +kernel
theorem dX4_advance_8 : decode cX4_advance 8 = .ok (.if_icmp .ge 44, 3) := by decide +kernel
theorem dX4_advance_11 : decode cX4_advance 11 = .ok (.aload_n 0, 1) := by decide +kernel
theorem dX4_advance_12 : decode cX4_advance 12 = .ok (.getfield 9, 3) := by decide +kernel
theorem dX4_advance_15 : decode cX4_advance 15 = .ok (.aload_n 0, 1) := by decide +kernel
theorem dX4_advance_16 : decode cX4_advance 16 = .ok (.getfield 31, 3) := by decide +kernel
theorem dX4_advance_19 : decode cX4_advance 19 = .ok (.iaload, 1) := by decide +kernel
theorem dX4_advance_20 : decode cX4_advance 20 = .ok (.bipush 32, 2) := by decide +kernel
theorem dX4_advance_22 : decode cX4_advance 22 = .ok (.if_icmp .eq 17, 3) := by decide +kernel
theorem dX4_advance_25 : decode cX4_advance 25 = .ok (.aload_n 0, 1) := by decide +kernel
theorem dX4_advance_26 : decode cX4_advance 26 = .ok (.getfield 9, 3) := by decide +kernel
theorem dX4_advance_29 : decode cX4_advance 29 = .ok (.aload_n 0, 1) := by decide +kernel
theorem dX4_advance_30 : decode cX4_advance 30 = .ok (.getfield 31, 3) := by decide +kernel
theorem dX4_advance_33 : decode cX4_advance 33 = .ok (.iaload, 1) := by decide +kernel
theorem dX4_advance_34 : decode cX4_advance 34 = .ok (.bipush 10, 2) := by decide +kernel
theorem dX4_advance_36 : decode cX4_advance 36 = .ok (.if_icmp .ne 16, 3) := by decide +kernel
theorem dX4_advance_39 : decode cX4_advance 39 = .ok (.aload_n 0, 1) := by decide +kernel
theorem dX4_advance_40 : decode cX4_advance 40 = .ok (.dup, 1) := by decide +kernel
theorem dX4_advance_41 : decode cX4_advance 41 = .ok (.getfield 31, 3) := by decide +kernel
theorem dX4_advance_44 : decode cX4_advance 44 = .ok (.iconst 1, 1) := by decide +kernel
theorem dX4_advance_45 : decode cX4_advance 45 = .ok (.iadd, 1) := by decide +kernel
theorem dX4_advance_46 : decode cX4_advance 46 = .ok (.putfield 31, 3) := by decide +kernel
theorem dX4_advance_49 : decode cX4_advance 49 = .ok (.goto (-49), 3) := by decide +kernel
theorem dX4_advance_52 : decode cX4_advance 52 = .ok (.aload_n 0, 1) := by decide +kernel
theorem dX4_advance_53 : decode cX4_advance 53 = .ok (.aload_n 0, 1) := by decide +kernel
theorem dX4_advance_54 : decode cX4_advance 54 = .ok (.getfield 31, 3) := by decide +kernel
theorem dX4_advance_57 : decode cX4_advance 57 = .ok (.putfield 57, 3) := by decide +kernel
theorem dX4_advance_60 : decode cX4_advance 60 = .ok (.aload_n 0, 1) := by decide +kernel
theorem dX4_advance_61 : decode cX4_advance 61 = .ok (.getfield 31, 3) := by decide +kernel
theorem dX4_advance_64 : decode cX4_advance 64 = .ok (.aload_n 0, 1) := by decide +kernel
theorem dX4_advance_65 : decode cX4_advance 65 = .ok (.getfield 19, 3) := by decide +kernel
theorem dX4_advance_68 : decode cX4_advance 68 = .ok (.if_icmp .lt 11, 3) := by decide +kernel
theorem dX4_advance_71 : decode cX4_advance 71 = .ok (.aload_n 0, 1) := by decide +kernel
theorem dX4_advance_72 : decode cX4_advance 72 = .ok (.iconst 0, 1) := by decide +kernel
theorem dX4_advance_73 : decode cX4_advance 73 = .ok (.putfield 54, 3) := by decide +kernel
theorem dX4_advance_76 : decode cX4_advance 76 = .ok (.goto 51, 3) := by decide +kernel
theorem dX4_advance_79 : decode cX4_advance 79 = .ok (.aload_n 0, 1) := by decide +kernel
theorem dX4_advance_80 : decode cX4_advance 80 = .ok (.getfield 9, 3) := by decide +kernel
theorem dX4_advance_83 : decode cX4_advance 83 = .ok (.aload_n 0, 1) := by decide +kernel
theorem dX4_advance_84 : decode cX4_advance 84 = .ok (.getfield 31, 3) := by decide +kernel
theorem dX4_advance_87 : decode cX4_advance 87 = .ok (.iaload, 1) := by decide +kernel
theorem dX4_advance_88 : decode cX4_advance 88 = .ok (.invokestatic 85, 3) := by decide +kernel
theorem dX4_advance_91 : decode cX4_advance 91 = .ok (.ifCond .eq 10, 3) := by decide +kernel
theorem dX4_advance_94 : decode cX4_advance 94 = .ok (.aload_n 0, 1) := by decide +kernel
theorem dX4_advance_95 : decode cX4_advance 95 = .ok (.invokevirtual 88, 3) := by decide +kernel
theorem dX4_advance_98 : decode cX4_advance 98 = .ok (.goto 29, 3) := by decide +kernel
theorem dX4_advance_101 : decode cX4_advance 101 = .ok (.aload_n 0, 1) := by decide +kernel
theorem dX4_advance_102 : decode cX4_advance 102 = .ok (.getfield 9, 3) := by decide +kernel
theorem dX4_advance_105 : decode cX4_advance 105 = .ok (.aload_n 0, 1) := by decide +kernel
theorem dX4_advance_106 : decode cX4_advance 106 = .ok (.getfield 31, 3) := by decide +kernel
theorem dX4_advance_109 : decode cX4_advance 109 = .ok (.iaload, 1) := by decide +kernel
theorem dX4_advance_110 : decode cX4_advance 110 = .ok (.invokestatic 91, 3) := by decide +kernel
theorem dX4_advance_113 : decode cX4_advance 113 = .ok (.ifCond .eq 10, 3) := by decide +kernel
theorem dX4_advance_116 : decode cX4_advance 116 = .ok (.aload_n 0, 1) := by decide +kernel
theorem dX4_advance_117 : decode cX4_advance 117 = .ok (.invokevirtual 94, 3) := by decide +kernel
theorem dX4_advance_120 : decode cX4_advance 120 = .ok (.goto 7, 3) := by decide +kernel
theorem dX4_advance_123 : decode cX4_advance 123 = .ok (.aload_n 0, 1) := by decide +kernel
theorem dX4_advance_124 : decode cX4_advance 124 = .ok (.invokevirtual 97, 3) := by decide +kernel
theorem dX4_advance_127 : decode cX4_advance 127 = .ok (.return_, 1) := by decide +kernel
theorem dX4_readWord_0 : decode cX4_readWord 0 = .ok (.aload_n 0, 1) := by decide +kernel
theorem dX4_readWord_1 : decode cX4_readWord 1 = .ok (.getfield 31, 3) := by decide +kernel
theorem dX4_readWord_4 : decode cX4_readWord 4 = .ok (.aload_n 0, 1) := by decide +kernel
theorem dX4_readWord_5 : decode cX4_readWord 5 = .ok (.getfield 19, 3) := by decide +kernel
theorem dX4_readWord_8 : decode cX4_readWord 8 = .ok (.if_icmp .ge 31, 3) := by decide +kernel
theorem dX4_readWord_11 : decode cX4_readWord 11 = .ok (.aload_n 0, 1) := by decide +kernel
theorem dX4_readWord_12 : decode cX4_readWord 12 = .ok (.getfield 9, 3) := by decide +kernel
theorem dX4_readWord_15 : decode cX4_readWord 15 = .ok (.aload_n 0, 1) := by decide +kernel
theorem dX4_readWord_16 : decode cX4_readWord 16 = .ok (.getfield 31, 3) := by decide +kernel
theorem dX4_readWord_19 : decode cX4_readWord 19 = .ok (.iaload, 1) := by decide +kernel
theorem dX4_readWord_20 : decode cX4_readWord 20 = .ok (.invokestatic 85, 3) := by decide +kernel
theorem dX4_readWord_23 : decode cX4_readWord 23 = .ok (.ifCond .eq 16, 3) := by decide +kernel
theorem dX4_readWord_26 : decode cX4_readWord 26 = .ok (.aload_n 0, 1) := by decide +kernel
theorem dX4_readWord_27 : decode cX4_readWord 27 = .ok (.dup, 1) := by decide +kernel
theorem dX4_readWord_28 : decode cX4_readWord 28 = .ok (.getfield 31, 3) := by decide +kernel
theorem dX4_readWord_31 : decode cX4_readWord 31 = .ok (.iconst 1, 1) := by decide +kernel
theorem dX4_readWord_32 : decode cX4_readWord 32 = .ok (.iadd, 1) := by decide +kernel
theorem dX4_readWord_33 : decode cX4_readWord 33 = .ok (.putfield 31, 3) := by decide +kernel
theorem dX4_readWord_36 : decode cX4_readWord 36 = .ok (.goto (-36), 3) := by decide +kernel
theorem dX4_readWord_39 : decode cX4_readWord 39 = .ok (.aload_n 0, 1) := by decide +kernel
theorem dX4_readWord_40 : decode cX4_readWord 40 = .ok (.iconst 1, 1) := by decide +kernel
theorem dX4_readWord_41 : decode cX4_readWord 41 = .ok (.putfield 54, 3) := by decide +kernel
theorem dX4_readWord_44 : decode cX4_readWord 44 = .ok (.iconst 0, 1) := by decide +kernel
theorem dX4_readWord_45 : decode cX4_readWord 45 = .ok (.istore_n 1, 1) := by decide +kernel
theorem dX4_readWord_46 : decode cX4_readWord 46 = .ok (.iload_n 1, 1) := by decide +kernel
theorem dX4_readWord_47 : decode cX4_readWord 47 = .ok (.bipush 12, 2) := by decide +kernel
theorem dX4_readWord_49 : decode cX4_readWord 49 = .ok (.if_icmp .ge 48, 3) := by decide +kernel
theorem dX4_readWord_52 : decode cX4_readWord 52 = .ok (.aload_n 0, 1) := by decide +kernel
theorem dX4_readWord_53 : decode cX4_readWord 53 = .ok (.iload_n 1, 1) := by decide +kernel
theorem dX4_readWord_54 : decode cX4_readWord 54 = .ok (.invokestatic 100, 3) := by decide +kernel
theorem dX4_readWord_57 : decode cX4_readWord 57 = .ok (.invokevirtual 104, 3) := by decide +kernel
theorem dX4_readWord_60 : decode cX4_readWord 60 = .ok (.ifCond .ne 6, 3) := by decide +kernel
theorem dX4_readWord_63 : decode cX4_readWord 63 = .ok (.goto 28, 3) := by decide +kernel
theorem dX4_readWord_66 : decode cX4_readWord 66 = .ok (.aload_n 0, 1) := by decide +kernel
theorem dX4_readWord_67 : decode cX4_readWord 67 = .ok (.iload_n 1, 1) := by decide +kernel
theorem dX4_readWord_68 : decode cX4_readWord 68 = .ok (.bipush 6, 2) := by decide +kernel
theorem dX4_readWord_70 : decode cX4_readWord 70 = .ok (.if_icmp .ge 7, 3) := by decide +kernel
theorem dX4_readWord_73 : decode cX4_readWord 73 = .ok (.iconst 3, 1) := by decide +kernel
theorem dX4_readWord_74 : decode cX4_readWord 74 = .ok (.goto 9, 3) := by decide +kernel
theorem dX4_readWord_77 : decode cX4_readWord 77 = .ok (.iconst 4, 1) := by decide +kernel
theorem dX4_readWord_78 : decode cX4_readWord 78 = .ok (.iload_n 1, 1) := by decide +kernel
theorem dX4_readWord_79 : decode cX4_readWord 79 = .ok (.iadd, 1) := by decide +kernel
theorem dX4_readWord_80 : decode cX4_readWord 80 = .ok (.bipush 6, 2) := by decide +kernel
theorem dX4_readWord_82 : decode cX4_readWord 82 = .ok (.isub, 1) := by decide +kernel
theorem dX4_readWord_83 : decode cX4_readWord 83 = .ok (.putfield 54, 3) := by decide +kernel
theorem dX4_readWord_86 : decode cX4_readWord 86 = .ok (.aload_n 0, 1) := by decide +kernel
theorem dX4_readWord_87 : decode cX4_readWord 87 = .ok (.iload_n 1, 1) := by decide +kernel
theorem dX4_readWord_88 : decode cX4_readWord 88 = .ok (.putfield 82, 3) := by decide +kernel
theorem dX4_readWord_91 : decode cX4_readWord 91 = .ok (.iinc 1 1, 3) := by decide +kernel
theorem dX4_readWord_94 : decode cX4_readWord 94 = .ok (.goto (-48), 3) := by decide +kernel
theorem dX4_readWord_97 : decode cX4_readWord 97 = .ok (.return_, 1) := by decide +kernel
theorem dX4_stands_0 : decode cX4_stands 0 = .ok (.aload_n 1, 1) := by decide +kernel
theorem dX4_stands_1 : decode cX4_stands 1 = .ok (.invokevirtual 108, 3) := by decide +kernel
theorem dX4_stands_4 : decode cX4_stands 4 = .ok (.aload_n 0, 1) := by decide +kernel
theorem dX4_stands_5 : decode cX4_stands 5 = .ok (.getfield 31, 3) := by decide +kernel
theorem dX4_stands_8 : decode cX4_stands 8 = .ok (.aload_n 0, 1) := by decide +kernel
theorem dX4_stands_9 : decode cX4_stands 9 = .ok (.getfield 57, 3) := by decide +kernel
theorem dX4_stands_12 : decode cX4_stands 12 = .ok (.isub, 1) := by decide +kernel
theorem dX4_stands_13 : decode cX4_stands 13 = .ok (.if_icmp .eq 5, 3) := by decide +kernel
theorem dX4_stands_16 : decode cX4_stands 16 = .ok (.iconst 0, 1) := by decide +kernel
theorem dX4_stands_17 : decode cX4_stands 17 = .ok (.ireturn, 1) := by decide +kernel
theorem dX4_stands_18 : decode cX4_stands 18 = .ok (.iconst 0, 1) := by decide +kernel
theorem dX4_stands_19 : decode cX4_stands 19 = .ok (.istore_n 2, 1) := by decide +kernel
theorem dX4_stands_20 : decode cX4_stands 20 = .ok (.iload_n 2, 1) := by decide +kernel
theorem dX4_stands_21 : decode cX4_stands 21 = .ok (.aload_n 1, 1) := by decide +kernel
theorem dX4_stands_22 : decode cX4_stands 22 = .ok (.invokevirtual 108, 3) := by decide +kernel
theorem dX4_stands_25 : decode cX4_stands 25 = .ok (.if_icmp .ge 30, 3) := by decide +kernel
theorem dX4_stands_28 : decode cX4_stands 28 = .ok (.aload_n 0, 1) := by decide +kernel
theorem dX4_stands_29 : decode cX4_stands 29 = .ok (.getfield 9, 3) := by decide +kernel
theorem dX4_stands_32 : decode cX4_stands 32 = .ok (.aload_n 0, 1) := by decide +kernel
theorem dX4_stands_33 : decode cX4_stands 33 = .ok (.getfield 57, 3) := by decide +kernel
theorem dX4_stands_36 : decode cX4_stands 36 = .ok (.iload_n 2, 1) := by decide +kernel
theorem dX4_stands_37 : decode cX4_stands 37 = .ok (.iadd, 1) := by decide +kernel
theorem dX4_stands_38 : decode cX4_stands 38 = .ok (.iaload, 1) := by decide +kernel
theorem dX4_stands_39 : decode cX4_stands 39 = .ok (.aload_n 1, 1) := by decide +kernel
theorem dX4_stands_40 : decode cX4_stands 40 = .ok (.iload_n 2, 1) := by decide +kernel
theorem dX4_stands_41 : decode cX4_stands 41 = .ok (.invokevirtual 114, 3) := by decide +kernel
theorem dX4_stands_44 : decode cX4_stands 44 = .ok (.if_icmp .eq 5, 3) := by decide +kernel
theorem dX4_stands_47 : decode cX4_stands 47 = .ok (.iconst 0, 1) := by decide +kernel
theorem dX4_stands_48 : decode cX4_stands 48 = .ok (.ireturn, 1) := by decide +kernel
theorem dX4_stands_49 : decode cX4_stands 49 = .ok (.iinc 2 1, 3) := by decide +kernel
theorem dX4_stands_52 : decode cX4_stands 52 = .ok (.goto (-32), 3) := by decide +kernel
theorem dX4_stands_55 : decode cX4_stands 55 = .ok (.iconst 1, 1) := by decide +kernel
theorem dX4_stands_56 : decode cX4_stands 56 = .ok (.ireturn, 1) := by decide +kernel
theorem dX4_known_0 : decode cX4_known 0 = .ok (.iload_n 0, 1) := by decide +kernel
theorem dX4_known_1 : decode cX4_known 1 = .ok (.tableswitch 92 0 10 #[59, 62, 65, 68, 71, 74, 77, 80, 83, 86, 89], 59) := by decide +kernel
theorem dX4_known_60 : decode cX4_known 60 = .ok (.ldc 118, 2) := by decide +kernel
theorem dX4_known_62 : decode cX4_known 62 = .ok (.areturn, 1) := by decide +kernel
theorem dX4_known_63 : decode cX4_known 63 = .ok (.ldc 120, 2) := by decide +kernel
theorem dX4_known_65 : decode cX4_known 65 = .ok (.areturn, 1) := by decide +kernel
theorem dX4_known_66 : decode cX4_known 66 = .ok (.ldc 122, 2) := by decide +kernel
theorem dX4_known_68 : decode cX4_known 68 = .ok (.areturn, 1) := by decide +kernel
theorem dX4_known_69 : decode cX4_known 69 = .ok (.ldc 124, 2) := by decide +kernel
theorem dX4_known_71 : decode cX4_known 71 = .ok (.areturn, 1) := by decide +kernel
theorem dX4_known_72 : decode cX4_known 72 = .ok (.ldc 126, 2) := by decide +kernel
theorem dX4_known_74 : decode cX4_known 74 = .ok (.areturn, 1) := by decide +kernel
theorem dX4_known_75 : decode cX4_known 75 = .ok (.ldc 128, 2) := by decide +kernel
theorem dX4_known_77 : decode cX4_known 77 = .ok (.areturn, 1) := by decide +kernel
theorem dX4_known_78 : decode cX4_known 78 = .ok (.ldc 130, 2) := by decide +kernel
theorem dX4_known_80 : decode cX4_known 80 = .ok (.areturn, 1) := by decide +kernel
theorem dX4_known_81 : decode cX4_known 81 = .ok (.ldc 132, 2) := by decide +kernel
theorem dX4_known_83 : decode cX4_known 83 = .ok (.areturn, 1) := by decide +kernel
theorem dX4_known_84 : decode cX4_known 84 = .ok (.ldc 134, 2) := by decide +kernel
theorem dX4_known_86 : decode cX4_known 86 = .ok (.areturn, 1) := by decide +kernel
theorem dX4_known_87 : decode cX4_known 87 = .ok (.ldc 136, 2) := by decide +kernel
theorem dX4_known_89 : decode cX4_known 89 = .ok (.areturn, 1) := by decide +kernel
theorem dX4_known_90 : decode cX4_known 90 = .ok (.ldc 138, 2) := by decide +kernel
theorem dX4_known_92 : decode cX4_known 92 = .ok (.areturn, 1) := by decide +kernel
theorem dX4_known_93 : decode cX4_known 93 = .ok (.ldc 140, 2) := by decide +kernel
theorem dX4_known_95 : decode cX4_known 95 = .ok (.areturn, 1) := by decide +kernel
theorem dX4_readNumber_0 : decode cX4_readNumber 0 = .ok (.aload_n 0, 1) := by decide +kernel
theorem dX4_readNumber_1 : decode cX4_readNumber 1 = .ok (.iconst 0, 1) := by decide +kernel
theorem dX4_readNumber_2 : decode cX4_readNumber 2 = .ok (.putfield 82, 3) := by decide +kernel
theorem dX4_readNumber_5 : decode cX4_readNumber 5 = .ok (.aload_n 0, 1) := by decide +kernel
theorem dX4_readNumber_6 : decode cX4_readNumber 6 = .ok (.getfield 31, 3) := by decide +kernel
theorem dX4_readNumber_9 : decode cX4_readNumber 9 = .ok (.aload_n 0, 1) := by decide +kernel
theorem dX4_readNumber_10 : decode cX4_readNumber 10 = .ok (.getfield 19, 3) := by decide +kernel
theorem dX4_readNumber_13 : decode cX4_readNumber 13 = .ok (.if_icmp .ge 55, 3) := by decide +kernel
theorem dX4_readNumber_16 : decode cX4_readNumber 16 = .ok (.aload_n 0, 1) := by decide +kernel
theorem dX4_readNumber_17 : decode cX4_readNumber 17 = .ok (.getfield 9, 3) := by decide +kernel
theorem dX4_readNumber_20 : decode cX4_readNumber 20 = .ok (.aload_n 0, 1) := by decide +kernel
theorem dX4_readNumber_21 : decode cX4_readNumber 21 = .ok (.getfield 31, 3) := by decide +kernel
theorem dX4_readNumber_24 : decode cX4_readNumber 24 = .ok (.iaload, 1) := by decide +kernel
theorem dX4_readNumber_25 : decode cX4_readNumber 25 = .ok (.invokestatic 91, 3) := by decide +kernel
theorem dX4_readNumber_28 : decode cX4_readNumber 28 = .ok (.ifCond .eq 40, 3) := by decide +kernel
theorem dX4_readNumber_31 : decode cX4_readNumber 31 = .ok (.aload_n 0, 1) := by decide +kernel
theorem dX4_readNumber_32 : decode cX4_readNumber 32 = .ok (.aload_n 0, 1) := by decide +kernel
theorem dX4_readNumber_33 : decode cX4_readNumber 33 = .ok (.getfield 82, 3) := by decide +kernel
theorem dX4_readNumber_36 : decode cX4_readNumber 36 = .ok (.bipush 10, 2) := by decide +kernel
theorem dX4_readNumber_38 : decode cX4_readNumber 38 = .ok (.imul, 1) := by decide +kernel
theorem dX4_readNumber_39 : decode cX4_readNumber 39 = .ok (.aload_n 0, 1) := by decide +kernel
theorem dX4_readNumber_40 : decode cX4_readNumber 40 = .ok (.getfield 9, 3) := by decide +kernel
theorem dX4_readNumber_43 : decode cX4_readNumber 43 = .ok (.aload_n 0, 1) := by decide +kernel
theorem dX4_readNumber_44 : decode cX4_readNumber 44 = .ok (.getfield 31, 3) := by decide +kernel
theorem dX4_readNumber_47 : decode cX4_readNumber 47 = .ok (.iaload, 1) := by decide +kernel
theorem dX4_readNumber_48 : decode cX4_readNumber 48 = .ok (.iadd, 1) := by decide +kernel
theorem dX4_readNumber_49 : decode cX4_readNumber 49 = .ok (.bipush 48, 2) := by decide +kernel
theorem dX4_readNumber_51 : decode cX4_readNumber 51 = .ok (.isub, 1) := by decide +kernel
theorem dX4_readNumber_52 : decode cX4_readNumber 52 = .ok (.putfield 82, 3) := by decide +kernel
theorem dX4_readNumber_55 : decode cX4_readNumber 55 = .ok (.aload_n 0, 1) := by decide +kernel
theorem dX4_readNumber_56 : decode cX4_readNumber 56 = .ok (.dup, 1) := by decide +kernel
theorem dX4_readNumber_57 : decode cX4_readNumber 57 = .ok (.getfield 31, 3) := by decide +kernel
theorem dX4_readNumber_60 : decode cX4_readNumber 60 = .ok (.iconst 1, 1) := by decide +kernel
theorem dX4_readNumber_61 : decode cX4_readNumber 61 = .ok (.iadd, 1) := by decide +kernel
theorem dX4_readNumber_62 : decode cX4_readNumber 62 = .ok (.putfield 31, 3) := by decide +kernel
theorem dX4_readNumber_65 : decode cX4_readNumber 65 = .ok (.goto (-60), 3) := by decide +kernel
theorem dX4_readNumber_68 : decode cX4_readNumber 68 = .ok (.aload_n 0, 1) := by decide +kernel
theorem dX4_readNumber_69 : decode cX4_readNumber 69 = .ok (.aload_n 0, 1) := by decide +kernel
theorem dX4_readNumber_70 : decode cX4_readNumber 70 = .ok (.getfield 31, 3) := by decide +kernel
theorem dX4_readNumber_73 : decode cX4_readNumber 73 = .ok (.aload_n 0, 1) := by decide +kernel
theorem dX4_readNumber_74 : decode cX4_readNumber 74 = .ok (.getfield 57, 3) := by decide +kernel
theorem dX4_readNumber_77 : decode cX4_readNumber 77 = .ok (.isub, 1) := by decide +kernel
theorem dX4_readNumber_78 : decode cX4_readNumber 78 = .ok (.iconst 4, 1) := by decide +kernel
theorem dX4_readNumber_79 : decode cX4_readNumber 79 = .ok (.if_icmp .le 7, 3) := by decide +kernel
theorem dX4_readNumber_82 : decode cX4_readNumber 82 = .ok (.iconst 1, 1) := by decide +kernel
theorem dX4_readNumber_83 : decode cX4_readNumber 83 = .ok (.goto 4, 3) := by decide +kernel
theorem dX4_readNumber_86 : decode cX4_readNumber 86 = .ok (.iconst 2, 1) := by decide +kernel
theorem dX4_readNumber_87 : decode cX4_readNumber 87 = .ok (.putfield 54, 3) := by decide +kernel
theorem dX4_readNumber_90 : decode cX4_readNumber 90 = .ok (.return_, 1) := by decide +kernel
theorem dX4_readSign_0 : decode cX4_readSign 0 = .ok (.aload_n 0, 1) := by decide +kernel
theorem dX4_readSign_1 : decode cX4_readSign 1 = .ok (.getfield 9, 3) := by decide +kernel
theorem dX4_readSign_4 : decode cX4_readSign 4 = .ok (.aload_n 0, 1) := by decide +kernel
theorem dX4_readSign_5 : decode cX4_readSign 5 = .ok (.getfield 31, 3) := by decide +kernel
theorem dX4_readSign_8 : decode cX4_readSign 8 = .ok (.iaload, 1) := by decide +kernel
theorem dX4_readSign_9 : decode cX4_readSign 9 = .ok (.istore_n 1, 1) := by decide +kernel
theorem dX4_readSign_10 : decode cX4_readSign 10 = .ok (.iload_n 1, 1) := by decide +kernel
theorem dX4_readSign_11 : decode cX4_readSign 11 = .ok (.bipush 40, 2) := by decide +kernel
theorem dX4_readSign_13 : decode cX4_readSign 13 = .ok (.if_icmp .eq 45, 3) := by decide +kernel
theorem dX4_readSign_16 : decode cX4_readSign 16 = .ok (.iload_n 1, 1) := by decide +kernel
theorem dX4_readSign_17 : decode cX4_readSign 17 = .ok (.bipush 41, 2) := by decide +kernel
theorem dX4_readSign_19 : decode cX4_readSign 19 = .ok (.if_icmp .eq 39, 3) := by decide +kernel
theorem dX4_readSign_22 : decode cX4_readSign 22 = .ok (.iload_n 1, 1) := by decide +kernel
theorem dX4_readSign_23 : decode cX4_readSign 23 = .ok (.bipush 59, 2) := by decide +kernel
theorem dX4_readSign_25 : decode cX4_readSign 25 = .ok (.if_icmp .eq 33, 3) := by decide +kernel
theorem dX4_readSign_28 : decode cX4_readSign 28 = .ok (.iload_n 1, 1) := by decide +kernel
theorem dX4_readSign_29 : decode cX4_readSign 29 = .ok (.bipush 43, 2) := by decide +kernel
theorem dX4_readSign_31 : decode cX4_readSign 31 = .ok (.if_icmp .eq 27, 3) := by decide +kernel
theorem dX4_readSign_34 : decode cX4_readSign 34 = .ok (.iload_n 1, 1) := by decide +kernel
theorem dX4_readSign_35 : decode cX4_readSign 35 = .ok (.bipush 45, 2) := by decide +kernel
theorem dX4_readSign_37 : decode cX4_readSign 37 = .ok (.if_icmp .eq 21, 3) := by decide +kernel
theorem dX4_readSign_40 : decode cX4_readSign 40 = .ok (.iload_n 1, 1) := by decide +kernel
theorem dX4_readSign_41 : decode cX4_readSign 41 = .ok (.bipush 42, 2) := by decide +kernel
theorem dX4_readSign_43 : decode cX4_readSign 43 = .ok (.if_icmp .eq 15, 3) := by decide +kernel
theorem dX4_readSign_46 : decode cX4_readSign 46 = .ok (.iload_n 1, 1) := by decide +kernel
theorem dX4_readSign_47 : decode cX4_readSign 47 = .ok (.bipush 60, 2) := by decide +kernel
theorem dX4_readSign_49 : decode cX4_readSign 49 = .ok (.if_icmp .eq 9, 3) := by decide +kernel
theorem dX4_readSign_52 : decode cX4_readSign 52 = .ok (.iload_n 1, 1) := by decide +kernel
theorem dX4_readSign_53 : decode cX4_readSign 53 = .ok (.bipush 61, 2) := by decide +kernel
theorem dX4_readSign_55 : decode cX4_readSign 55 = .ok (.if_icmp .ne 7, 3) := by decide +kernel
theorem dX4_readSign_58 : decode cX4_readSign 58 = .ok (.iconst 1, 1) := by decide +kernel
theorem dX4_readSign_59 : decode cX4_readSign 59 = .ok (.goto 4, 3) := by decide +kernel
theorem dX4_readSign_62 : decode cX4_readSign 62 = .ok (.iconst 0, 1) := by decide +kernel
theorem dX4_readSign_63 : decode cX4_readSign 63 = .ok (.istore_n 2, 1) := by decide +kernel
theorem dX4_readSign_64 : decode cX4_readSign 64 = .ok (.aload_n 0, 1) := by decide +kernel
theorem dX4_readSign_65 : decode cX4_readSign 65 = .ok (.iload_n 2, 1) := by decide +kernel
theorem dX4_readSign_66 : decode cX4_readSign 66 = .ok (.ifCond .eq 7, 3) := by decide +kernel
theorem dX4_readSign_69 : decode cX4_readSign 69 = .ok (.iload_n 1, 1) := by decide +kernel
theorem dX4_readSign_70 : decode cX4_readSign 70 = .ok (.goto 4, 3) := by decide +kernel
theorem dX4_readSign_73 : decode cX4_readSign 73 = .ok (.iconst 1, 1) := by decide +kernel
theorem dX4_readSign_74 : decode cX4_readSign 74 = .ok (.putfield 54, 3) := by decide +kernel
theorem dX4_readSign_77 : decode cX4_readSign 77 = .ok (.aload_n 0, 1) := by decide +kernel
theorem dX4_readSign_78 : decode cX4_readSign 78 = .ok (.dup, 1) := by decide +kernel
theorem dX4_readSign_79 : decode cX4_readSign 79 = .ok (.getfield 31, 3) := by decide +kernel
theorem dX4_readSign_82 : decode cX4_readSign 82 = .ok (.iconst 1, 1) := by decide +kernel
theorem dX4_readSign_83 : decode cX4_readSign 83 = .ok (.iadd, 1) := by decide +kernel
theorem dX4_readSign_84 : decode cX4_readSign 84 = .ok (.putfield 31, 3) := by decide +kernel
theorem dX4_readSign_87 : decode cX4_readSign 87 = .ok (.return_, 1) := by decide +kernel
theorem dX4_isLetter_0 : decode cX4_isLetter 0 = .ok (.iload_n 0, 1) := by decide +kernel
theorem dX4_isLetter_1 : decode cX4_isLetter 1 = .ok (.bipush 97, 2) := by decide +kernel
theorem dX4_isLetter_3 : decode cX4_isLetter 3 = .ok (.if_icmp .lt 13, 3) := by decide +kernel
theorem dX4_isLetter_6 : decode cX4_isLetter 6 = .ok (.iload_n 0, 1) := by decide +kernel
theorem dX4_isLetter_7 : decode cX4_isLetter 7 = .ok (.bipush 122, 2) := by decide +kernel
theorem dX4_isLetter_9 : decode cX4_isLetter 9 = .ok (.if_icmp .gt 7, 3) := by decide +kernel
theorem dX4_isLetter_12 : decode cX4_isLetter 12 = .ok (.iconst 1, 1) := by decide +kernel
theorem dX4_isLetter_13 : decode cX4_isLetter 13 = .ok (.goto 4, 3) := by decide +kernel
theorem dX4_isLetter_16 : decode cX4_isLetter 16 = .ok (.iconst 0, 1) := by decide +kernel
theorem dX4_isLetter_17 : decode cX4_isLetter 17 = .ok (.ireturn, 1) := by decide +kernel
theorem dX4_isDigit_0 : decode cX4_isDigit 0 = .ok (.iload_n 0, 1) := by decide +kernel
theorem dX4_isDigit_1 : decode cX4_isDigit 1 = .ok (.bipush 48, 2) := by decide +kernel
theorem dX4_isDigit_3 : decode cX4_isDigit 3 = .ok (.if_icmp .lt 13, 3) := by decide +kernel
theorem dX4_isDigit_6 : decode cX4_isDigit 6 = .ok (.iload_n 0, 1) := by decide +kernel
theorem dX4_isDigit_7 : decode cX4_isDigit 7 = .ok (.bipush 57, 2) := by decide +kernel
theorem dX4_isDigit_9 : decode cX4_isDigit 9 = .ok (.if_icmp .gt 7, 3) := by decide +kernel
theorem dX4_isDigit_12 : decode cX4_isDigit 12 = .ok (.iconst 1, 1) := by decide +kernel
theorem dX4_isDigit_13 : decode cX4_isDigit 13 = .ok (.goto 4, 3) := by decide +kernel
theorem dX4_isDigit_16 : decode cX4_isDigit 16 = .ok (.iconst 0, 1) := by decide +kernel
theorem dX4_isDigit_17 : decode cX4_isDigit 17 = .ok (.ireturn, 1) := by decide +kernel
theorem dX5_init_0 : decode cX5_init 0 = .ok (.aload_n 0, 1) := by decide +kernel
theorem dX5_init_1 : decode cX5_init 1 = .ok (.invokespecial 3, 3) := by decide +kernel
theorem dX5_init_4 : decode cX5_init 4 = .ok (.aload_n 0, 1) := by decide +kernel
theorem dX5_init_5 : decode cX5_init 5 = .ok (.bipush 40, 2) := by decide +kernel
theorem dX5_init_7 : decode cX5_init 7 = .ok (.newarray .int, 2) := by decide +kernel
theorem dX5_init_9 : decode cX5_init 9 = .ok (.putfield 9, 3) := by decide +kernel
theorem dX5_init_12 : decode cX5_init 12 = .ok (.aload_n 0, 1) := by decide +kernel
theorem dX5_init_13 : decode cX5_init 13 = .ok (.iconst (-1), 1) := by decide +kernel
theorem dX5_init_14 : decode cX5_init 14 = .ok (.putfield 15, 3) := by decide +kernel
theorem dX5_init_17 : decode cX5_init 17 = .ok (.return_, 1) := by decide +kernel
theorem dX5_isMissing_0 : decode cX5_isMissing 0 = .ok (.aload_n 0, 1) := by decide +kernel
theorem dX5_isMissing_1 : decode cX5_isMissing 1 = .ok (.getfield 15, 3) := by decide +kernel
theorem dX5_isMissing_4 : decode cX5_isMissing 4 = .ok (.iconst (-1), 1) := by decide +kernel
theorem dX5_isMissing_5 : decode cX5_isMissing 5 = .ok (.if_icmp .ne 7, 3) := by decide +kernel
theorem dX5_isMissing_8 : decode cX5_isMissing 8 = .ok (.iconst 1, 1) := by decide +kernel
theorem dX5_isMissing_9 : decode cX5_isMissing 9 = .ok (.goto 4, 3) := by decide +kernel
theorem dX5_isMissing_12 : decode cX5_isMissing 12 = .ok (.iconst 0, 1) := by decide +kernel
theorem dX5_isMissing_13 : decode cX5_isMissing 13 = .ok (.ireturn, 1) := by decide +kernel
theorem dX5_become_0 : decode cX5_become 0 = .ok (.aload_n 0, 1) := by decide +kernel
theorem dX5_become_1 : decode cX5_become 1 = .ok (.iload_n 1, 1) := by decide +kernel
theorem dX5_become_2 : decode cX5_become 2 = .ok (.putfield 15, 3) := by decide +kernel
theorem dX5_become_5 : decode cX5_become 5 = .ok (.aload_n 0, 1) := by decide +kernel
theorem dX5_become_6 : decode cX5_become 6 = .ok (.iload_n 2, 1) := by decide +kernel
theorem dX5_become_7 : decode cX5_become 7 = .ok (.putfield 19, 3) := by decide +kernel
theorem dX5_become_10 : decode cX5_become 10 = .ok (.iconst 0, 1) := by decide +kernel
theorem dX5_become_11 : decode cX5_become 11 = .ok (.istore_n 3, 1) := by decide +kernel
theorem dX5_become_12 : decode cX5_become 12 = .ok (.iload_n 3, 1) := by decide +kernel
theorem dX5_become_13 : decode cX5_become 13 = .ok (.bipush 40, 2) := by decide +kernel
theorem dX5_become_15 : decode cX5_become 15 = .ok (.if_icmp .ge 16, 3) := by decide +kernel
theorem dX5_become_18 : decode cX5_become 18 = .ok (.aload_n 0, 1) := by decide +kernel
theorem dX5_become_19 : decode cX5_become 19 = .ok (.getfield 9, 3) := by decide +kernel
theorem dX5_become_22 : decode cX5_become 22 = .ok (.iload_n 3, 1) := by decide +kernel
theorem dX5_become_23 : decode cX5_become 23 = .ok (.iconst 0, 1) := by decide +kernel
theorem dX5_become_24 : decode cX5_become 24 = .ok (.iastore, 1) := by decide +kernel
theorem dX5_become_25 : decode cX5_become 25 = .ok (.iinc 3 1, 3) := by decide +kernel
theorem dX5_become_28 : decode cX5_become 28 = .ok (.goto (-16), 3) := by decide +kernel
theorem dX5_become_31 : decode cX5_become 31 = .ok (.return_, 1) := by decide +kernel
theorem dX5_put_0 : decode cX5_put 0 = .ok (.aload_n 0, 1) := by decide +kernel
theorem dX5_put_1 : decode cX5_put 1 = .ok (.getfield 9, 3) := by decide +kernel
theorem dX5_put_4 : decode cX5_put 4 = .ok (.iload_n 1, 1) := by decide +kernel
theorem dX5_put_5 : decode cX5_put 5 = .ok (.aload_n 0, 1) := by decide +kernel
theorem dX5_put_6 : decode cX5_put 6 = .ok (.getfield 15, 3) := by decide +kernel
theorem dX5_put_9 : decode cX5_put 9 = .ok (.ifCond .ne 8, 3) := by decide +kernel
theorem dX5_put_12 : decode cX5_put 12 = .ok (.iload_n 2, 1) := by decide +kernel
theorem dX5_put_13 : decode cX5_put 13 = .ok (.i2b, 1) := by decide +kernel
theorem dX5_put_14 : decode cX5_put 14 = .ok (.goto 17, 3) := by decide +kernel
theorem dX5_put_17 : decode cX5_put 17 = .ok (.aload_n 0, 1) := by decide +kernel
theorem dX5_put_18 : decode cX5_put 18 = .ok (.getfield 15, 3) := by decide +kernel
theorem dX5_put_21 : decode cX5_put 21 = .ok (.iconst 1, 1) := by decide +kernel
theorem dX5_put_22 : decode cX5_put 22 = .ok (.if_icmp .ne 8, 3) := by decide +kernel
theorem dX5_put_25 : decode cX5_put 25 = .ok (.iload_n 2, 1) := by decide +kernel
theorem dX5_put_26 : decode cX5_put 26 = .ok (.i2s, 1) := by decide +kernel
theorem dX5_put_27 : decode cX5_put 27 = .ok (.goto 4, 3) := by decide +kernel
theorem dX5_put_30 : decode cX5_put 30 = .ok (.iload_n 2, 1) := by decide +kernel
theorem dX5_put_31 : decode cX5_put 31 = .ok (.iastore, 1) := by decide +kernel
theorem dX5_put_32 : decode cX5_put 32 = .ok (.return_, 1) := by decide +kernel
theorem dX5_holds_0 : decode cX5_holds 0 = .ok (.iload_n 1, 1) := by decide +kernel
theorem dX5_holds_1 : decode cX5_holds 1 = .ok (.ifCond .lt 29, 3) := by decide +kernel
theorem dX5_holds_4 : decode cX5_holds 4 = .ok (.iload_n 2, 1) := by decide +kernel
theorem dX5_holds_5 : decode cX5_holds 5 = .ok (.ifCond .lt 25, 3) := by decide +kernel
theorem dX5_holds_8 : decode cX5_holds 8 = .ok (.iload_n 1, 1) := by decide +kernel
theorem dX5_holds_9 : decode cX5_holds 9 = .ok (.aload_n 0, 1) := by decide +kernel
theorem dX5_holds_10 : decode cX5_holds 10 = .ok (.getfield 19, 3) := by decide +kernel
theorem dX5_holds_13 : decode cX5_holds 13 = .ok (.if_icmp .gt 17, 3) := by decide +kernel
theorem dX5_holds_16 : decode cX5_holds 16 = .ok (.iload_n 2, 1) := by decide +kernel
theorem dX5_holds_17 : decode cX5_holds 17 = .ok (.aload_n 0, 1) := by decide +kernel
theorem dX5_holds_18 : decode cX5_holds 18 = .ok (.getfield 19, 3) := by decide +kernel
theorem dX5_holds_21 : decode cX5_holds 21 = .ok (.iload_n 1, 1) := by decide +kernel
theorem dX5_holds_22 : decode cX5_holds 22 = .ok (.isub, 1) := by decide +kernel
theorem dX5_holds_23 : decode cX5_holds 23 = .ok (.if_icmp .gt 7, 3) := by decide +kernel
theorem dX5_holds_26 : decode cX5_holds 26 = .ok (.iconst 1, 1) := by decide +kernel
theorem dX5_holds_27 : decode cX5_holds 27 = .ok (.goto 4, 3) := by decide +kernel
theorem dX5_holds_30 : decode cX5_holds 30 = .ok (.iconst 0, 1) := by decide +kernel
theorem dX5_holds_31 : decode cX5_holds 31 = .ok (.ireturn, 1) := by decide +kernel
theorem dX6_init_0 : decode cX6_init 0 = .ok (.aload_n 0, 1) := by decide +kernel
theorem dX6_init_1 : decode cX6_init 1 = .ok (.invokespecial 3, 3) := by decide +kernel
theorem dX6_init_4 : decode cX6_init 4 = .ok (.aload_n 0, 1) := by decide +kernel
theorem dX6_init_5 : decode cX6_init 5 = .ok (.sipush 160, 3) := by decide +kernel
theorem dX6_init_8 : decode cX6_init 8 = .ok (.newarray .int, 2) := by decide +kernel
theorem dX6_init_10 : decode cX6_init 10 = .ok (.putfield 9, 3) := by decide +kernel
theorem dX6_init_13 : decode cX6_init 13 = .ok (.aload_n 0, 1) := by decide +kernel
theorem dX6_init_14 : decode cX6_init 14 = .ok (.iconst 3, 1) := by decide +kernel
theorem dX6_init_15 : decode cX6_init 15 = .ok (.newarray .int, 2) := by decide +kernel
theorem dX6_init_17 : decode cX6_init 17 = .ok (.putfield 15, 3) := by decide +kernel
theorem dX6_init_20 : decode cX6_init 20 = .ok (.aload_n 0, 1) := by decide +kernel
theorem dX6_init_21 : decode cX6_init 21 = .ok (.bipush 31, 2) := by decide +kernel
theorem dX6_init_23 : decode cX6_init 23 = .ok (.newarray .int, 2) := by decide +kernel
theorem dX6_init_25 : decode cX6_init 25 = .ok (.putfield 18, 3) := by decide +kernel
theorem dX6_init_28 : decode cX6_init 28 = .ok (.return_, 1) := by decide +kernel
theorem dX6_clear_0 : decode cX6_clear 0 = .ok (.aload_n 0, 1) := by decide +kernel
theorem dX6_clear_1 : decode cX6_clear 1 = .ok (.iconst 0, 1) := by decide +kernel
theorem dX6_clear_2 : decode cX6_clear 2 = .ok (.putfield 21, 3) := by decide +kernel
theorem dX6_clear_5 : decode cX6_clear 5 = .ok (.return_, 1) := by decide +kernel
theorem dX6_add_0 : decode cX6_add 0 = .ok (.aload_n 0, 1) := by decide +kernel
theorem dX6_add_1 : decode cX6_add 1 = .ok (.getfield 21, 3) := by decide +kernel
theorem dX6_add_4 : decode cX6_add 4 = .ok (.sipush 160, 3) := by decide +kernel
theorem dX6_add_7 : decode cX6_add 7 = .ok (.if_icmp .lt 4, 3) := by decide +kernel
theorem dX6_add_10 : decode cX6_add 10 = .ok (.return_, 1) := by decide +kernel
theorem dX6_add_11 : decode cX6_add 11 = .ok (.aload_n 0, 1) := by decide +kernel
theorem dX6_add_12 : decode cX6_add 12 = .ok (.getfield 9, 3) := by decide +kernel
theorem dX6_add_15 : decode cX6_add 15 = .ok (.aload_n 0, 1) := by decide +kernel
theorem dX6_add_16 : decode cX6_add 16 = .ok (.getfield 21, 3) := by decide +kernel
theorem dX6_add_19 : decode cX6_add 19 = .ok (.iload_n 1, 1) := by decide +kernel
theorem dX6_add_20 : decode cX6_add 20 = .ok (.iastore, 1) := by decide +kernel
theorem dX6_add_21 : decode cX6_add 21 = .ok (.aload_n 0, 1) := by decide +kernel
theorem dX6_add_22 : decode cX6_add 22 = .ok (.dup, 1) := by decide +kernel
theorem dX6_add_23 : decode cX6_add 23 = .ok (.getfield 21, 3) := by decide +kernel
theorem dX6_add_26 : decode cX6_add 26 = .ok (.iconst 1, 1) := by decide +kernel
theorem dX6_add_27 : decode cX6_add 27 = .ok (.iadd, 1) := by decide +kernel
theorem dX6_add_28 : decode cX6_add 28 = .ok (.putfield 21, 3) := by decide +kernel
theorem dX6_add_31 : decode cX6_add 31 = .ok (.return_, 1) := by decide +kernel
theorem dX6_endPart_0 : decode cX6_endPart 0 = .ok (.aload_n 0, 1) := by decide +kernel
theorem dX6_endPart_1 : decode cX6_endPart 1 = .ok (.getfield 15, 3) := by decide +kernel
theorem dX6_endPart_4 : decode cX6_endPart 4 = .ok (.iload_n 1, 1) := by decide +kernel
theorem dX6_endPart_5 : decode cX6_endPart 5 = .ok (.aload_n 0, 1) := by decide +kernel
theorem dX6_endPart_6 : decode cX6_endPart 6 = .ok (.getfield 21, 3) := by decide +kernel
theorem dX6_endPart_9 : decode cX6_endPart 9 = .ok (.iastore, 1) := by decide +kernel
theorem dX6_endPart_10 : decode cX6_endPart 10 = .ok (.return_, 1) := by decide +kernel
theorem dX6_tell_0 : decode cX6_tell 0 = .ok (.iconst 0, 1) := by decide +kernel
theorem dX6_tell_1 : decode cX6_tell 1 = .ok (.istore_n 3, 1) := by decide +kernel
theorem dX6_tell_2 : decode cX6_tell 2 = .ok (.iload_n 1, 1) := by decide +kernel
theorem dX6_tell_3 : decode cX6_tell 3 = .ok (.ifCond .ne 7, 3) := by decide +kernel
theorem dX6_tell_6 : decode cX6_tell 6 = .ok (.iconst 0, 1) := by decide +kernel
theorem dX6_tell_7 : decode cX6_tell 7 = .ok (.goto 11, 3) := by decide +kernel
theorem dX6_tell_10 : decode cX6_tell 10 = .ok (.aload_n 0, 1) := by decide +kernel
theorem dX6_tell_11 : decode cX6_tell 11 = .ok (.getfield 15, 3) := by decide +kernel
theorem dX6_tell_14 : decode cX6_tell 14 = .ok (.iload_n 1, 1) := by decide +kernel
theorem dX6_tell_15 : decode cX6_tell 15 = .ok (.iconst 1, 1) := by decide +kernel
theorem dX6_tell_16 : decode cX6_tell 16 = .ok (.isub, 1) := by decide +kernel
theorem dX6_tell_17 : decode cX6_tell 17 = .ok (.iaload, 1) := by decide +kernel
theorem dX6_tell_18 : decode cX6_tell 18 = .ok (.istore 4, 2) := by decide +kernel
theorem dX6_tell_20 : decode cX6_tell 20 = .ok (.iload 4, 2) := by decide +kernel
theorem dX6_tell_22 : decode cX6_tell 22 = .ok (.aload_n 0, 1) := by decide +kernel
theorem dX6_tell_23 : decode cX6_tell 23 = .ok (.getfield 15, 3) := by decide +kernel
theorem dX6_tell_26 : decode cX6_tell 26 = .ok (.iload_n 1, 1) := by decide +kernel
theorem dX6_tell_27 : decode cX6_tell 27 = .ok (.iaload, 1) := by decide +kernel
theorem dX6_tell_28 : decode cX6_tell 28 = .ok (.if_icmp .ge 51, 3) := by decide +kernel
theorem dX6_tell_31 : decode cX6_tell 31 = .ok (.aload_n 0, 1) := by decide +kernel
theorem dX6_tell_32 : decode cX6_tell 32 = .ok (.getfield 9, 3) := by decide +kernel
theorem dX6_tell_35 : decode cX6_tell 35 = .ok (.iload 4, 2) := by decide +kernel
theorem dX6_tell_37 : decode cX6_tell 37 = .ok (.iaload, 1) := by decide +kernel
theorem dX6_tell_38 : decode cX6_tell 38 = .ok (.bipush (-7), 2) := by decide +kernel
theorem dX6_tell_40 : decode cX6_tell 40 = .ok (.if_icmp .le 20, 3) := by decide +kernel
theorem dX6_tell_43 : decode cX6_tell 43 = .ok (.aload_n 0, 1) := by decide +kernel
theorem dX6_tell_44 : decode cX6_tell 44 = .ok (.aload_n 0, 1) := by decide +kernel
theorem dX6_tell_45 : decode cX6_tell 45 = .ok (.getfield 9, 3) := by decide +kernel
theorem dX6_tell_48 : decode cX6_tell 48 = .ok (.iload 4, 2) := by decide +kernel
theorem dX6_tell_50 : decode cX6_tell 50 = .ok (.iaload, 1) := by decide +kernel
theorem dX6_tell_51 : decode cX6_tell 51 = .ok (.iload_n 3, 1) := by decide +kernel
theorem dX6_tell_52 : decode cX6_tell 52 = .ok (.aload_n 2, 1) := by decide +kernel
theorem dX6_tell_53 : decode cX6_tell 53 = .ok (.invokevirtual 25, 3) := by decide +kernel
theorem dX6_tell_56 : decode cX6_tell 56 = .ok (.istore_n 3, 1) := by decide +kernel
theorem dX6_tell_57 : decode cX6_tell 57 = .ok (.goto 16, 3) := by decide +kernel
theorem dX6_tell_60 : decode cX6_tell 60 = .ok (.aload_n 0, 1) := by decide +kernel
theorem dX6_tell_61 : decode cX6_tell 61 = .ok (.aload_n 0, 1) := by decide +kernel
theorem dX6_tell_62 : decode cX6_tell 62 = .ok (.getfield 9, 3) := by decide +kernel
theorem dX6_tell_65 : decode cX6_tell 65 = .ok (.iload 4, 2) := by decide +kernel
theorem dX6_tell_67 : decode cX6_tell 67 = .ok (.iaload, 1) := by decide +kernel
theorem dX6_tell_68 : decode cX6_tell 68 = .ok (.iload_n 3, 1) := by decide +kernel
theorem dX6_tell_69 : decode cX6_tell 69 = .ok (.invokevirtual 29, 3) := by decide +kernel
theorem dX6_tell_72 : decode cX6_tell 72 = .ok (.istore_n 3, 1) := by decide +kernel
theorem dX6_tell_73 : decode cX6_tell 73 = .ok (.iinc 4 1, 3) := by decide +kernel
theorem dX6_tell_76 : decode cX6_tell 76 = .ok (.goto (-56), 3) := by decide +kernel
theorem dX6_tell_79 : decode cX6_tell 79 = .ok (.iconst 0, 1) := by decide +kernel
theorem dX6_tell_80 : decode cX6_tell 80 = .ok (.bipush 99, 2) := by decide +kernel
theorem dX6_tell_82 : decode cX6_tell 82 = .ok (.aload_n 0, 1) := by decide +kernel
theorem dX6_tell_83 : decode cX6_tell 83 = .ok (.getfield 18, 3) := by decide +kernel
theorem dX6_tell_86 : decode cX6_tell 86 = .ok (.iconst 0, 1) := by decide +kernel
theorem dX6_tell_87 : decode cX6_tell 87 = .ok (.iaload, 1) := by decide +kernel
theorem dX6_tell_88 : decode cX6_tell 88 = .ok (.invokestatic 33, 3) := by decide +kernel
theorem dX6_tell_91 : decode cX6_tell 91 = .ok (.invokestatic 38, 3) := by decide +kernel
theorem dX6_tell_94 : decode cX6_tell 94 = .ok (.ireturn, 1) := by decide +kernel
theorem dX6_put_0 : decode cX6_put 0 = .ok (.iload_n 2, 1) := by decide +kernel
theorem dX6_put_1 : decode cX6_put 1 = .ok (.bipush 31, 2) := by decide +kernel
theorem dX6_put_3 : decode cX6_put 3 = .ok (.if_icmp .lt 5, 3) := by decide +kernel
theorem dX6_put_6 : decode cX6_put 6 = .ok (.iload_n 2, 1) := by decide +kernel
theorem dX6_put_7 : decode cX6_put 7 = .ok (.ireturn, 1) := by decide +kernel
theorem dX6_put_8 : decode cX6_put 8 = .ok (.aload_n 0, 1) := by decide +kernel
theorem dX6_put_9 : decode cX6_put 9 = .ok (.getfield 18, 3) := by decide +kernel
theorem dX6_put_12 : decode cX6_put 12 = .ok (.iload_n 2, 1) := by decide +kernel
theorem dX6_put_13 : decode cX6_put 13 = .ok (.iload_n 1, 1) := by decide +kernel
theorem dX6_put_14 : decode cX6_put 14 = .ok (.ifCond .lt 7, 3) := by decide +kernel
theorem dX6_put_17 : decode cX6_put 17 = .ok (.iload_n 1, 1) := by decide +kernel
theorem dX6_put_18 : decode cX6_put 18 = .ok (.goto 8, 3) := by decide +kernel
theorem dX6_put_21 : decode cX6_put 21 = .ok (.aload_n 3, 1) := by decide +kernel
theorem dX6_put_22 : decode cX6_put 22 = .ok (.iconst (-1), 1) := by decide +kernel
theorem dX6_put_23 : decode cX6_put 23 = .ok (.iload_n 1, 1) := by decide +kernel
theorem dX6_put_24 : decode cX6_put 24 = .ok (.isub, 1) := by decide +kernel
theorem dX6_put_25 : decode cX6_put 25 = .ok (.iaload, 1) := by decide +kernel
theorem dX6_put_26 : decode cX6_put 26 = .ok (.iastore, 1) := by decide +kernel
theorem dX6_put_27 : decode cX6_put 27 = .ok (.iload_n 2, 1) := by decide +kernel
theorem dX6_put_28 : decode cX6_put 28 = .ok (.iconst 1, 1) := by decide +kernel
theorem dX6_put_29 : decode cX6_put 29 = .ok (.iadd, 1) := by decide +kernel
theorem dX6_put_30 : decode cX6_put 30 = .ok (.ireturn, 1) := by decide +kernel
theorem dX6_join_0 : decode cX6_join 0 = .ok (.iload_n 1, 1) := by decide +kernel
theorem dX6_join_1 : decode cX6_join 1 = .ok (.bipush (-8), 2) := by decide +kernel
theorem dX6_join_3 : decode cX6_join 3 = .ok (.if_icmp .lt 9, 3) := by decide +kernel
theorem dX6_join_6 : decode cX6_join 6 = .ok (.iload_n 2, 1) := by decide +kernel
theorem dX6_join_7 : decode cX6_join 7 = .ok (.iconst 1, 1) := by decide +kernel
theorem dX6_join_8 : decode cX6_join 8 = .ok (.isub, 1) := by decide +kernel
theorem dX6_join_9 : decode cX6_join 9 = .ok (.goto 6, 3) := by decide +kernel
theorem dX6_join_12 : decode cX6_join 12 = .ok (.iload_n 2, 1) := by decide +kernel
theorem dX6_join_13 : decode cX6_join 13 = .ok (.iconst 2, 1) := by decide +kernel
theorem dX6_join_14 : decode cX6_join 14 = .ok (.isub, 1) := by decide +kernel
theorem dX6_join_15 : decode cX6_join 15 = .ok (.istore_n 3, 1) := by decide +kernel
theorem dX6_join_16 : decode cX6_join 16 = .ok (.iload_n 3, 1) := by decide +kernel
theorem dX6_join_17 : decode cX6_join 17 = .ok (.ifCond .ge 5, 3) := by decide +kernel
theorem dX6_join_20 : decode cX6_join 20 = .ok (.iload_n 2, 1) := by decide +kernel
theorem dX6_join_21 : decode cX6_join 21 = .ok (.ireturn, 1) := by decide +kernel
theorem dX6_join_22 : decode cX6_join 22 = .ok (.aload_n 0, 1) := by decide +kernel
theorem dX6_join_23 : decode cX6_join 23 = .ok (.getfield 18, 3) := by decide +kernel
theorem dX6_join_26 : decode cX6_join 26 = .ok (.iload_n 3, 1) := by decide +kernel
theorem dX6_join_27 : decode cX6_join 27 = .ok (.iaload, 1) := by decide +kernel
theorem dX6_join_28 : decode cX6_join 28 = .ok (.istore 4, 2) := by decide +kernel
theorem dX6_join_30 : decode cX6_join 30 = .ok (.aload_n 0, 1) := by decide +kernel
theorem dX6_join_31 : decode cX6_join 31 = .ok (.getfield 18, 3) := by decide +kernel
theorem dX6_join_34 : decode cX6_join 34 = .ok (.iload_n 2, 1) := by decide +kernel
theorem dX6_join_35 : decode cX6_join 35 = .ok (.iconst 1, 1) := by decide +kernel
theorem dX6_join_36 : decode cX6_join 36 = .ok (.isub, 1) := by decide +kernel
theorem dX6_join_37 : decode cX6_join 37 = .ok (.iaload, 1) := by decide +kernel
theorem dX6_join_38 : decode cX6_join 38 = .ok (.istore 5, 2) := by decide +kernel
theorem dX6_join_40 : decode cX6_join 40 = .ok (.iload_n 1, 1) := by decide +kernel
theorem dX6_join_41 : decode cX6_join 41 = .ok (.tableswitch 186 (-14) (-7) #[162, 141, 120, 106, 92, 78, 59, 47], 47) := by decide +kernel
theorem dX6_join_88 : decode cX6_join 88 = .ok (.aload_n 0, 1) := by decide +kernel
theorem dX6_join_89 : decode cX6_join 89 = .ok (.getfield 18, 3) := by decide +kernel
theorem dX6_join_92 : decode cX6_join 92 = .ok (.iload_n 3, 1) := by decide +kernel
theorem dX6_join_93 : decode cX6_join 93 = .ok (.iload 5, 2) := by decide +kernel
theorem dX6_join_95 : decode cX6_join 95 = .ok (.ineg, 1) := by decide +kernel
theorem dX6_join_96 : decode cX6_join 96 = .ok (.iastore, 1) := by decide +kernel
theorem dX6_join_97 : decode cX6_join 97 = .ok (.goto 151, 3) := by decide +kernel
theorem dX6_join_100 : decode cX6_join 100 = .ok (.aload_n 0, 1) := by decide +kernel
theorem dX6_join_101 : decode cX6_join 101 = .ok (.getfield 18, 3) := by decide +kernel
theorem dX6_join_104 : decode cX6_join 104 = .ok (.iload_n 3, 1) := by decide +kernel
theorem dX6_join_105 : decode cX6_join 105 = .ok (.iload 5, 2) := by decide +kernel
theorem dX6_join_107 : decode cX6_join 107 = .ok (.ifCond .ne 7, 3) := by decide +kernel
theorem dX6_join_110 : decode cX6_join 110 = .ok (.iconst 1, 1) := by decide +kernel
theorem dX6_join_111 : decode cX6_join 111 = .ok (.goto 4, 3) := by decide +kernel
theorem dX6_join_114 : decode cX6_join 114 = .ok (.iconst 0, 1) := by decide +kernel
theorem dX6_join_115 : decode cX6_join 115 = .ok (.iastore, 1) := by decide +kernel
theorem dX6_join_116 : decode cX6_join 116 = .ok (.goto 132, 3) := by decide +kernel
theorem dX6_join_119 : decode cX6_join 119 = .ok (.aload_n 0, 1) := by decide +kernel
theorem dX6_join_120 : decode cX6_join 120 = .ok (.getfield 18, 3) := by decide +kernel
theorem dX6_join_123 : decode cX6_join 123 = .ok (.iload_n 3, 1) := by decide +kernel
theorem dX6_join_124 : decode cX6_join 124 = .ok (.iload 4, 2) := by decide +kernel
theorem dX6_join_126 : decode cX6_join 126 = .ok (.iload 5, 2) := by decide +kernel
theorem dX6_join_128 : decode cX6_join 128 = .ok (.imul, 1) := by decide +kernel
theorem dX6_join_129 : decode cX6_join 129 = .ok (.iastore, 1) := by decide +kernel
theorem dX6_join_130 : decode cX6_join 130 = .ok (.goto 118, 3) := by decide +kernel
theorem dX6_join_133 : decode cX6_join 133 = .ok (.aload_n 0, 1) := by decide +kernel
theorem dX6_join_134 : decode cX6_join 134 = .ok (.getfield 18, 3) := by decide +kernel
theorem dX6_join_137 : decode cX6_join 137 = .ok (.iload_n 3, 1) := by decide +kernel
theorem dX6_join_138 : decode cX6_join 138 = .ok (.iload 4, 2) := by decide +kernel
theorem dX6_join_140 : decode cX6_join 140 = .ok (.iload 5, 2) := by decide +kernel
theorem dX6_join_142 : decode cX6_join 142 = .ok (.iadd, 1) := by decide +kernel
theorem dX6_join_143 : decode cX6_join 143 = .ok (.iastore, 1) := by decide +kernel
theorem dX6_join_144 : decode cX6_join 144 = .ok (.goto 104, 3) := by decide +kernel
theorem dX6_join_147 : decode cX6_join 147 = .ok (.aload_n 0, 1) := by decide +kernel
theorem dX6_join_148 : decode cX6_join 148 = .ok (.getfield 18, 3) := by decide +kernel
theorem dX6_join_151 : decode cX6_join 151 = .ok (.iload_n 3, 1) := by decide +kernel
theorem dX6_join_152 : decode cX6_join 152 = .ok (.iload 4, 2) := by decide +kernel
theorem dX6_join_154 : decode cX6_join 154 = .ok (.iload 5, 2) := by decide +kernel
theorem dX6_join_156 : decode cX6_join 156 = .ok (.isub, 1) := by decide +kernel
theorem dX6_join_157 : decode cX6_join 157 = .ok (.iastore, 1) := by decide +kernel
theorem dX6_join_158 : decode cX6_join 158 = .ok (.goto 90, 3) := by decide +kernel
theorem dX6_join_161 : decode cX6_join 161 = .ok (.aload_n 0, 1) := by decide +kernel
theorem dX6_join_162 : decode cX6_join 162 = .ok (.getfield 18, 3) := by decide +kernel
theorem dX6_join_165 : decode cX6_join 165 = .ok (.iload_n 3, 1) := by decide +kernel
theorem dX6_join_166 : decode cX6_join 166 = .ok (.iload 4, 2) := by decide +kernel
theorem dX6_join_168 : decode cX6_join 168 = .ok (.iload 5, 2) := by decide +kernel
theorem dX6_join_170 : decode cX6_join 170 = .ok (.if_icmp .ge 7, 3) := by decide +kernel
theorem dX6_join_173 : decode cX6_join 173 = .ok (.iconst 1, 1) := by decide +kernel
theorem dX6_join_174 : decode cX6_join 174 = .ok (.goto 4, 3) := by decide +kernel
theorem dX6_join_177 : decode cX6_join 177 = .ok (.iconst 0, 1) := by decide +kernel
theorem dX6_join_178 : decode cX6_join 178 = .ok (.iastore, 1) := by decide +kernel
theorem dX6_join_179 : decode cX6_join 179 = .ok (.goto 69, 3) := by decide +kernel
theorem dX6_join_182 : decode cX6_join 182 = .ok (.aload_n 0, 1) := by decide +kernel
theorem dX6_join_183 : decode cX6_join 183 = .ok (.getfield 18, 3) := by decide +kernel
theorem dX6_join_186 : decode cX6_join 186 = .ok (.iload_n 3, 1) := by decide +kernel
theorem dX6_join_187 : decode cX6_join 187 = .ok (.iload 4, 2) := by decide +kernel
theorem dX6_join_189 : decode cX6_join 189 = .ok (.iload 5, 2) := by decide +kernel
theorem dX6_join_191 : decode cX6_join 191 = .ok (.if_icmp .ne 7, 3) := by decide +kernel
theorem dX6_join_194 : decode cX6_join 194 = .ok (.iconst 1, 1) := by decide +kernel
theorem dX6_join_195 : decode cX6_join 195 = .ok (.goto 4, 3) := by decide +kernel
theorem dX6_join_198 : decode cX6_join 198 = .ok (.iconst 0, 1) := by decide +kernel
theorem dX6_join_199 : decode cX6_join 199 = .ok (.iastore, 1) := by decide +kernel
theorem dX6_join_200 : decode cX6_join 200 = .ok (.goto 48, 3) := by decide +kernel
theorem dX6_join_203 : decode cX6_join 203 = .ok (.aload_n 0, 1) := by decide +kernel
theorem dX6_join_204 : decode cX6_join 204 = .ok (.getfield 18, 3) := by decide +kernel
theorem dX6_join_207 : decode cX6_join 207 = .ok (.iload_n 3, 1) := by decide +kernel
theorem dX6_join_208 : decode cX6_join 208 = .ok (.iload 4, 2) := by decide +kernel
theorem dX6_join_210 : decode cX6_join 210 = .ok (.ifCond .eq 12, 3) := by decide +kernel
theorem dX6_join_213 : decode cX6_join 213 = .ok (.iload 5, 2) := by decide +kernel
theorem dX6_join_215 : decode cX6_join 215 = .ok (.ifCond .eq 7, 3) := by decide +kernel
theorem dX6_join_218 : decode cX6_join 218 = .ok (.iconst 1, 1) := by decide +kernel
theorem dX6_join_219 : decode cX6_join 219 = .ok (.goto 4, 3) := by decide +kernel
theorem dX6_join_222 : decode cX6_join 222 = .ok (.iconst 0, 1) := by decide +kernel
theorem dX6_join_223 : decode cX6_join 223 = .ok (.iastore, 1) := by decide +kernel
theorem dX6_join_224 : decode cX6_join 224 = .ok (.goto 24, 3) := by decide +kernel
theorem dX6_join_227 : decode cX6_join 227 = .ok (.aload_n 0, 1) := by decide +kernel
theorem dX6_join_228 : decode cX6_join 228 = .ok (.getfield 18, 3) := by decide +kernel
theorem dX6_join_231 : decode cX6_join 231 = .ok (.iload_n 3, 1) := by decide +kernel
theorem dX6_join_232 : decode cX6_join 232 = .ok (.iload 4, 2) := by decide +kernel
theorem dX6_join_234 : decode cX6_join 234 = .ok (.ifCond .ne 8, 3) := by decide +kernel
theorem dX6_join_237 : decode cX6_join 237 = .ok (.iload 5, 2) := by decide +kernel
theorem dX6_join_239 : decode cX6_join 239 = .ok (.ifCond .eq 7, 3) := by decide +kernel
theorem dX6_join_242 : decode cX6_join 242 = .ok (.iconst 1, 1) := by decide +kernel
theorem dX6_join_243 : decode cX6_join 243 = .ok (.goto 4, 3) := by decide +kernel
theorem dX6_join_246 : decode cX6_join 246 = .ok (.iconst 0, 1) := by decide +kernel
theorem dX6_join_247 : decode cX6_join 247 = .ok (.iastore, 1) := by decide +kernel
theorem dX6_join_248 : decode cX6_join 248 = .ok (.iload_n 3, 1) := by decide +kernel
theorem dX6_join_249 : decode cX6_join 249 = .ok (.iconst 1, 1) := by decide +kernel
theorem dX6_join_250 : decode cX6_join 250 = .ok (.iadd, 1) := by decide +kernel
theorem dX6_join_251 : decode cX6_join 251 = .ok (.ireturn, 1) := by decide +kernel
theorem dX7_init_0 : decode cX7_init 0 = .ok (.aload_n 0, 1) := by decide +kernel
theorem dX7_init_1 : decode cX7_init 1 = .ok (.invokespecial 3, 3) := by decide +kernel
theorem dX7_init_4 : decode cX7_init 4 = .ok (.aload_n 0, 1) := by decide +kernel
theorem dX7_init_5 : decode cX7_init 5 = .ok (.iconst 5, 1) := by decide +kernel
theorem dX7_init_6 : decode cX7_init 6 = .ok (.anewarray 9, 3) := by decide +kernel
theorem dX7_init_9 : decode cX7_init 9 = .ok (.putfield 11, 3) := by decide +kernel
theorem dX7_init_12 : decode cX7_init 12 = .ok (.aload_n 0, 1) := by decide +kernel
theorem dX7_init_13 : decode cX7_init 13 = .ok (.bipush 6, 2) := by decide +kernel
theorem dX7_init_15 : decode cX7_init 15 = .ok (.newarray .int, 2) := by decide +kernel
theorem dX7_init_17 : decode cX7_init 17 = .ok (.putfield 17, 3) := by decide +kernel
theorem dX7_init_20 : decode cX7_init 20 = .ok (.aload_n 0, 1) := by decide +kernel
theorem dX7_init_21 : decode cX7_init 21 = .ok (.sipush 1024, 3) := by decide +kernel
theorem dX7_init_24 : decode cX7_init 24 = .ok (.putfield 21, 3) := by decide +kernel
theorem dX7_init_27 : decode cX7_init 27 = .ok (.aload_n 0, 1) := by decide +kernel
theorem dX7_init_28 : decode cX7_init 28 = .ok (.aload_n 1, 1) := by decide +kernel
theorem dX7_init_29 : decode cX7_init 29 = .ok (.putfield 25, 3) := by decide +kernel
theorem dX7_init_32 : decode cX7_init 32 = .ok (.iconst 0, 1) := by decide +kernel
theorem dX7_init_33 : decode cX7_init 33 = .ok (.istore_n 2, 1) := by decide +kernel
theorem dX7_init_34 : decode cX7_init 34 = .ok (.iload_n 2, 1) := by decide +kernel
theorem dX7_init_35 : decode cX7_init 35 = .ok (.iconst 5, 1) := by decide +kernel
theorem dX7_init_36 : decode cX7_init 36 = .ok (.if_icmp .ge 22, 3) := by decide +kernel
theorem dX7_init_39 : decode cX7_init 39 = .ok (.aload_n 0, 1) := by decide +kernel
theorem dX7_init_40 : decode cX7_init 40 = .ok (.getfield 11, 3) := by decide +kernel
theorem dX7_init_43 : decode cX7_init 43 = .ok (.iload_n 2, 1) := by decide +kernel
theorem dX7_init_44 : decode cX7_init 44 = .ok (.new 9, 3) := by decide +kernel
theorem dX7_init_47 : decode cX7_init 47 = .ok (.dup, 1) := by decide +kernel
theorem dX7_init_48 : decode cX7_init 48 = .ok (.invokespecial 29, 3) := by decide +kernel
theorem dX7_init_51 : decode cX7_init 51 = .ok (.aastore, 1) := by decide +kernel
theorem dX7_init_52 : decode cX7_init 52 = .ok (.iinc 2 1, 3) := by decide +kernel
theorem dX7_init_55 : decode cX7_init 55 = .ok (.goto (-21), 3) := by decide +kernel
theorem dX7_init_58 : decode cX7_init 58 = .ok (.return_, 1) := by decide +kernel
theorem dX7_become_0 : decode cX7_become 0 = .ok (.aload_n 0, 1) := by decide +kernel
theorem dX7_become_1 : decode cX7_become 1 = .ok (.aload_n 1, 1) := by decide +kernel
theorem dX7_become_2 : decode cX7_become 2 = .ok (.getfield 30, 3) := by decide +kernel
theorem dX7_become_5 : decode cX7_become 5 = .ok (.putfield 30, 3) := by decide +kernel
theorem dX7_become_8 : decode cX7_become 8 = .ok (.aload_n 0, 1) := by decide +kernel
theorem dX7_become_9 : decode cX7_become 9 = .ok (.aload_n 1, 1) := by decide +kernel
theorem dX7_become_10 : decode cX7_become 10 = .ok (.getfield 33, 3) := by decide +kernel
theorem dX7_become_13 : decode cX7_become 13 = .ok (.putfield 33, 3) := by decide +kernel
theorem dX7_become_16 : decode cX7_become 16 = .ok (.aload_n 0, 1) := by decide +kernel
theorem dX7_become_17 : decode cX7_become 17 = .ok (.aload_n 1, 1) := by decide +kernel
theorem dX7_become_18 : decode cX7_become 18 = .ok (.getfield 21, 3) := by decide +kernel
theorem dX7_become_21 : decode cX7_become 21 = .ok (.putfield 21, 3) := by decide +kernel
theorem dX7_become_24 : decode cX7_become 24 = .ok (.aload_n 0, 1) := by decide +kernel
theorem dX7_become_25 : decode cX7_become 25 = .ok (.aload_n 1, 1) := by decide +kernel
theorem dX7_become_26 : decode cX7_become 26 = .ok (.getfield 36, 3) := by decide +kernel
theorem dX7_become_29 : decode cX7_become 29 = .ok (.putfield 36, 3) := by decide +kernel
theorem dX7_become_32 : decode cX7_become 32 = .ok (.aload_n 0, 1) := by decide +kernel
theorem dX7_become_33 : decode cX7_become 33 = .ok (.aload_n 1, 1) := by decide +kernel
theorem dX7_become_34 : decode cX7_become 34 = .ok (.getfield 39, 3) := by decide +kernel
theorem dX7_become_37 : decode cX7_become 37 = .ok (.putfield 39, 3) := by decide +kernel
theorem dX7_become_40 : decode cX7_become 40 = .ok (.iconst 0, 1) := by decide +kernel
theorem dX7_become_41 : decode cX7_become 41 = .ok (.istore_n 2, 1) := by decide +kernel
theorem dX7_become_42 : decode cX7_become 42 = .ok (.iload_n 2, 1) := by decide +kernel
theorem dX7_become_43 : decode cX7_become 43 = .ok (.aload_n 0, 1) := by decide +kernel
theorem dX7_become_44 : decode cX7_become 44 = .ok (.getfield 30, 3) := by decide +kernel
theorem dX7_become_47 : decode cX7_become 47 = .ok (.if_icmp .ge 24, 3) := by decide +kernel
theorem dX7_become_50 : decode cX7_become 50 = .ok (.aload_n 0, 1) := by decide +kernel
theorem dX7_become_51 : decode cX7_become 51 = .ok (.getfield 11, 3) := by decide +kernel
theorem dX7_become_54 : decode cX7_become 54 = .ok (.iload_n 2, 1) := by decide +kernel
theorem dX7_become_55 : decode cX7_become 55 = .ok (.aaload, 1) := by decide +kernel
theorem dX7_become_56 : decode cX7_become 56 = .ok (.aload_n 1, 1) := by decide +kernel
theorem dX7_become_57 : decode cX7_become 57 = .ok (.getfield 11, 3) := by decide +kernel
theorem dX7_become_60 : decode cX7_become 60 = .ok (.iload_n 2, 1) := by decide +kernel
theorem dX7_become_61 : decode cX7_become 61 = .ok (.aaload, 1) := by decide +kernel
theorem dX7_become_62 : decode cX7_become 62 = .ok (.invokevirtual 42, 3) := by decide +kernel
theorem dX7_become_65 : decode cX7_become 65 = .ok (.iinc 2 1, 3) := by decide +kernel
theorem dX7_become_68 : decode cX7_become 68 = .ok (.goto (-26), 3) := by decide +kernel
theorem dX7_become_71 : decode cX7_become 71 = .ok (.return_, 1) := by decide +kernel
theorem dX7_welcome_0 : decode cX7_welcome 0 = .ok (.aload_n 0, 1) := by decide +kernel
theorem dX7_welcome_1 : decode cX7_welcome 1 = .ok (.getfield 11, 3) := by decide +kernel
theorem dX7_welcome_4 : decode cX7_welcome 4 = .ok (.aload_n 0, 1) := by decide +kernel
theorem dX7_welcome_5 : decode cX7_welcome 5 = .ok (.getfield 30, 3) := by decide +kernel
theorem dX7_welcome_8 : decode cX7_welcome 8 = .ok (.aaload, 1) := by decide +kernel
theorem dX7_welcome_9 : decode cX7_welcome 9 = .ok (.astore_n 3, 1) := by decide +kernel
theorem dX7_welcome_10 : decode cX7_welcome 10 = .ok (.aload_n 3, 1) := by decide +kernel
theorem dX7_welcome_11 : decode cX7_welcome 11 = .ok (.iload_n 1, 1) := by decide +kernel
theorem dX7_welcome_12 : decode cX7_welcome 12 = .ok (.putfield 46, 3) := by decide +kernel
theorem dX7_welcome_15 : decode cX7_welcome 15 = .ok (.aload_n 3, 1) := by decide +kernel
theorem dX7_welcome_16 : decode cX7_welcome 16 = .ok (.iload_n 2, 1) := by decide +kernel
theorem dX7_welcome_17 : decode cX7_welcome 17 = .ok (.putfield 49, 3) := by decide +kernel
theorem dX7_welcome_20 : decode cX7_welcome 20 = .ok (.iconst 0, 1) := by decide +kernel
theorem dX7_welcome_21 : decode cX7_welcome 21 = .ok (.istore 4, 2) := by decide +kernel
theorem dX7_welcome_23 : decode cX7_welcome 23 = .ok (.iload 4, 2) := by decide +kernel
theorem dX7_welcome_25 : decode cX7_welcome 25 = .ok (.bipush 10, 2) := by decide +kernel
theorem dX7_welcome_27 : decode cX7_welcome 27 = .ok (.if_icmp .ge 17, 3) := by decide +kernel
theorem dX7_welcome_30 : decode cX7_welcome 30 = .ok (.aload_n 3, 1) := by decide +kernel
theorem dX7_welcome_31 : decode cX7_welcome 31 = .ok (.getfield 52, 3) := by decide +kernel
theorem dX7_welcome_34 : decode cX7_welcome 34 = .ok (.iload 4, 2) := by decide +kernel
theorem dX7_welcome_36 : decode cX7_welcome 36 = .ok (.iconst (-1), 1) := by decide +kernel
theorem dX7_welcome_37 : decode cX7_welcome 37 = .ok (.iastore, 1) := by decide +kernel
theorem dX7_welcome_38 : decode cX7_welcome 38 = .ok (.iinc 4 1, 3) := by decide +kernel
theorem dX7_welcome_41 : decode cX7_welcome 41 = .ok (.goto (-18), 3) := by decide +kernel
theorem dX7_welcome_44 : decode cX7_welcome 44 = .ok (.aload_n 0, 1) := by decide +kernel
theorem dX7_welcome_45 : decode cX7_welcome 45 = .ok (.dup, 1) := by decide +kernel
theorem dX7_welcome_46 : decode cX7_welcome 46 = .ok (.getfield 30, 3) := by decide +kernel
theorem dX7_welcome_49 : decode cX7_welcome 49 = .ok (.iconst 1, 1) := by decide +kernel
theorem dX7_welcome_50 : decode cX7_welcome 50 = .ok (.iadd, 1) := by decide +kernel
theorem dX7_welcome_51 : decode cX7_welcome 51 = .ok (.putfield 30, 3) := by decide +kernel
theorem dX7_welcome_54 : decode cX7_welcome 54 = .ok (.aload_n 0, 1) := by decide +kernel
theorem dX7_welcome_55 : decode cX7_welcome 55 = .ok (.getfield 30, 3) := by decide +kernel
theorem dX7_welcome_58 : decode cX7_welcome 58 = .ok (.iconst 1, 1) := by decide +kernel
theorem dX7_welcome_59 : decode cX7_welcome 59 = .ok (.isub, 1) := by decide +kernel
theorem dX7_welcome_60 : decode cX7_welcome 60 = .ok (.ireturn, 1) := by decide +kernel
theorem dX7_takes_0 : decode cX7_takes 0 = .ok (.aload_n 0, 1) := by decide +kernel
theorem dX7_takes_1 : decode cX7_takes 1 = .ok (.getfield 11, 3) := by decide +kernel
theorem dX7_takes_4 : decode cX7_takes 4 = .ok (.iload_n 1, 1) := by decide +kernel
theorem dX7_takes_5 : decode cX7_takes 5 = .ok (.aaload, 1) := by decide +kernel
theorem dX7_takes_6 : decode cX7_takes 6 = .ok (.astore 4, 2) := by decide +kernel
theorem dX7_takes_8 : decode cX7_takes 8 = .ok (.aload_n 0, 1) := by decide +kernel
theorem dX7_takes_9 : decode cX7_takes 9 = .ok (.getfield 17, 3) := by decide +kernel
theorem dX7_takes_12 : decode cX7_takes 12 = .ok (.iconst 0, 1) := by decide +kernel
theorem dX7_takes_13 : decode cX7_takes 13 = .ok (.iload_n 2, 1) := by decide +kernel
theorem dX7_takes_14 : decode cX7_takes 14 = .ok (.iastore, 1) := by decide +kernel
theorem dX7_takes_15 : decode cX7_takes 15 = .ok (.aload_n 0, 1) := by decide +kernel
theorem dX7_takes_16 : decode cX7_takes 16 = .ok (.getfield 17, 3) := by decide +kernel
theorem dX7_takes_19 : decode cX7_takes 19 = .ok (.iconst 1, 1) := by decide +kernel
theorem dX7_takes_20 : decode cX7_takes 20 = .ok (.iload_n 3, 1) := by decide +kernel
theorem dX7_takes_21 : decode cX7_takes 21 = .ok (.iastore, 1) := by decide +kernel
theorem dX7_takes_22 : decode cX7_takes 22 = .ok (.aload_n 0, 1) := by decide +kernel
theorem dX7_takes_23 : decode cX7_takes 23 = .ok (.getfield 17, 3) := by decide +kernel
theorem dX7_takes_26 : decode cX7_takes 26 = .ok (.iconst 2, 1) := by decide +kernel
theorem dX7_takes_27 : decode cX7_takes 27 = .ok (.aload_n 0, 1) := by decide +kernel
theorem dX7_takes_28 : decode cX7_takes 28 = .ok (.getfield 33, 3) := by decide +kernel
theorem dX7_takes_31 : decode cX7_takes 31 = .ok (.iastore, 1) := by decide +kernel
theorem dX7_takes_32 : decode cX7_takes 32 = .ok (.aload_n 0, 1) := by decide +kernel
theorem dX7_takes_33 : decode cX7_takes 33 = .ok (.getfield 17, 3) := by decide +kernel
theorem dX7_takes_36 : decode cX7_takes 36 = .ok (.iconst 3, 1) := by decide +kernel
theorem dX7_takes_37 : decode cX7_takes 37 = .ok (.aload 4, 2) := by decide +kernel
theorem dX7_takes_39 : decode cX7_takes 39 = .ok (.getfield 49, 3) := by decide +kernel
theorem dX7_takes_42 : decode cX7_takes 42 = .ok (.iastore, 1) := by decide +kernel
theorem dX7_takes_43 : decode cX7_takes 43 = .ok (.aload_n 0, 1) := by decide +kernel
theorem dX7_takes_44 : decode cX7_takes 44 = .ok (.getfield 17, 3) := by decide +kernel
theorem dX7_takes_47 : decode cX7_takes 47 = .ok (.iconst 4, 1) := by decide +kernel
theorem dX7_takes_48 : decode cX7_takes 48 = .ok (.iconst 0, 1) := by decide +kernel
theorem dX7_takes_49 : decode cX7_takes 49 = .ok (.iastore, 1) := by decide +kernel
theorem dX7_takes_50 : decode cX7_takes 50 = .ok (.aload_n 0, 1) := by decide +kernel
theorem dX7_takes_51 : decode cX7_takes 51 = .ok (.getfield 17, 3) := by decide +kernel
theorem dX7_takes_54 : decode cX7_takes 54 = .ok (.iconst 5, 1) := by decide +kernel
theorem dX7_takes_55 : decode cX7_takes 55 = .ok (.aload 4, 2) := by decide +kernel
theorem dX7_takes_57 : decode cX7_takes 57 = .ok (.invokevirtual 55, 3) := by decide +kernel
theorem dX7_takes_60 : decode cX7_takes 60 = .ok (.iastore, 1) := by decide +kernel
theorem dX7_takes_61 : decode cX7_takes 61 = .ok (.aload 4, 2) := by decide +kernel
theorem dX7_takes_63 : decode cX7_takes 63 = .ok (.getfield 46, 3) := by decide +kernel
theorem dX7_takes_66 : decode cX7_takes 66 = .ok (.aload_n 0, 1) := by decide +kernel
theorem dX7_takes_67 : decode cX7_takes 67 = .ok (.getfield 25, 3) := by decide +kernel
theorem dX7_takes_70 : decode cX7_takes 70 = .ok (.aload_n 0, 1) := by decide +kernel
theorem dX7_takes_71 : decode cX7_takes 71 = .ok (.getfield 39, 3) := by decide +kernel
theorem dX7_takes_74 : decode cX7_takes 74 = .ok (.aaload, 1) := by decide +kernel
theorem dX7_takes_75 : decode cX7_takes 75 = .ok (.iconst 0, 1) := by decide +kernel
theorem dX7_takes_76 : decode cX7_takes 76 = .ok (.aload_n 0, 1) := by decide +kernel
theorem dX7_takes_77 : decode cX7_takes 77 = .ok (.getfield 17, 3) := by decide +kernel
theorem dX7_takes_80 : decode cX7_takes 80 = .ok (.invokevirtual 59, 3) := by decide +kernel
theorem dX7_takes_83 : decode cX7_takes 83 = .ok (.invokestatic 65, 3) := by decide +kernel
theorem dX7_takes_86 : decode cX7_takes 86 = .ok (.ireturn, 1) := by decide +kernel
theorem dX7_utter_0 : decode cX7_utter 0 = .ok (.aload_n 0, 1) := by decide +kernel
theorem dX7_utter_1 : decode cX7_utter 1 = .ok (.iload_n 1, 1) := by decide +kernel
theorem dX7_utter_2 : decode cX7_utter 2 = .ok (.iload_n 2, 1) := by decide +kernel
theorem dX7_utter_3 : decode cX7_utter 3 = .ok (.iload_n 3, 1) := by decide +kernel
theorem dX7_utter_4 : decode cX7_utter 4 = .ok (.invokevirtual 71, 3) := by decide +kernel
theorem dX7_utter_7 : decode cX7_utter 7 = .ok (.istore 4, 2) := by decide +kernel
theorem dX7_utter_9 : decode cX7_utter 9 = .ok (.aload_n 0, 1) := by decide +kernel
theorem dX7_utter_10 : decode cX7_utter 10 = .ok (.getfield 11, 3) := by decide +kernel
theorem dX7_utter_13 : decode cX7_utter 13 = .ok (.iload_n 1, 1) := by decide +kernel
theorem dX7_utter_14 : decode cX7_utter 14 = .ok (.aaload, 1) := by decide +kernel
theorem dX7_utter_15 : decode cX7_utter 15 = .ok (.astore 5, 2) := by decide +kernel
theorem dX7_utter_17 : decode cX7_utter 17 = .ok (.iload 4, 2) := by decide +kernel
theorem dX7_utter_19 : decode cX7_utter 19 = .ok (.bipush 10, 2) := by decide +kernel
theorem dX7_utter_21 : decode cX7_utter 21 = .ok (.invokestatic 74, 3) := by decide +kernel
theorem dX7_utter_24 : decode cX7_utter 24 = .ok (.ifCond .eq 15, 3) := by decide +kernel
theorem dX7_utter_27 : decode cX7_utter 27 = .ok (.aload 5, 2) := by decide +kernel
theorem dX7_utter_29 : decode cX7_utter 29 = .ok (.getfield 52, 3) := by decide +kernel
theorem dX7_utter_32 : decode cX7_utter 32 = .ok (.iload 4, 2) := by decide +kernel
theorem dX7_utter_34 : decode cX7_utter 34 = .ok (.iaload, 1) := by decide +kernel
theorem dX7_utter_35 : decode cX7_utter 35 = .ok (.iconst (-1), 1) := by decide +kernel
theorem dX7_utter_36 : decode cX7_utter 36 = .ok (.if_icmp .eq 5, 3) := by decide +kernel
theorem dX7_utter_39 : decode cX7_utter 39 = .ok (.iconst (-1), 1) := by decide +kernel
theorem dX7_utter_40 : decode cX7_utter 40 = .ok (.ireturn, 1) := by decide +kernel
theorem dX7_utter_41 : decode cX7_utter 41 = .ok (.aload 5, 2) := by decide +kernel
theorem dX7_utter_43 : decode cX7_utter 43 = .ok (.getfield 52, 3) := by decide +kernel
theorem dX7_utter_46 : decode cX7_utter 46 = .ok (.iload 4, 2) := by decide +kernel
theorem dX7_utter_48 : decode cX7_utter 48 = .ok (.iload_n 2, 1) := by decide +kernel
theorem dX7_utter_49 : decode cX7_utter 49 = .ok (.iastore, 1) := by decide +kernel
theorem dX7_utter_50 : decode cX7_utter 50 = .ok (.aload 5, 2) := by decide +kernel
theorem dX7_utter_52 : decode cX7_utter 52 = .ok (.getfield 78, 3) := by decide +kernel
theorem dX7_utter_55 : decode cX7_utter 55 = .ok (.iload 4, 2) := by decide +kernel
theorem dX7_utter_57 : decode cX7_utter 57 = .ok (.iconst 0, 1) := by decide +kernel
theorem dX7_utter_58 : decode cX7_utter 58 = .ok (.iastore, 1) := by decide +kernel
theorem dX7_utter_59 : decode cX7_utter 59 = .ok (.iload 4, 2) := by decide +kernel
theorem dX7_utter_61 : decode cX7_utter 61 = .ok (.ireturn, 1) := by decide +kernel
theorem dX7_handOn_0 : decode cX7_handOn 0 = .ok (.aload_n 0, 1) := by decide +kernel
theorem dX7_handOn_1 : decode cX7_handOn 1 = .ok (.getfield 11, 3) := by decide +kernel
theorem dX7_handOn_4 : decode cX7_handOn 4 = .ok (.iload_n 1, 1) := by decide +kernel
theorem dX7_handOn_5 : decode cX7_handOn 5 = .ok (.aaload, 1) := by decide +kernel
theorem dX7_handOn_6 : decode cX7_handOn 6 = .ok (.astore_n 3, 1) := by decide +kernel
theorem dX7_handOn_7 : decode cX7_handOn 7 = .ok (.aload_n 0, 1) := by decide +kernel
theorem dX7_handOn_8 : decode cX7_handOn 8 = .ok (.getfield 11, 3) := by decide +kernel
theorem dX7_handOn_11 : decode cX7_handOn 11 = .ok (.iload_n 2, 1) := by decide +kernel
theorem dX7_handOn_12 : decode cX7_handOn 12 = .ok (.aaload, 1) := by decide +kernel
theorem dX7_handOn_13 : decode cX7_handOn 13 = .ok (.astore 4, 2) := by decide +kernel
theorem dX7_handOn_15 : decode cX7_handOn 15 = .ok (.iconst 0, 1) := by decide +kernel
theorem dX7_handOn_16 : decode cX7_handOn 16 = .ok (.istore 5, 2) := by decide +kernel
theorem dX7_handOn_18 : decode cX7_handOn 18 = .ok (.iconst 0, 1) := by decide +kernel
theorem dX7_handOn_19 : decode cX7_handOn 19 = .ok (.istore 6, 2) := by decide +kernel
theorem dX7_handOn_21 : decode cX7_handOn 21 = .ok (.iload 6, 2) := by decide +kernel
theorem dX7_handOn_23 : decode cX7_handOn 23 = .ok (.bipush 10, 2) := by decide +kernel
theorem dX7_handOn_25 : decode cX7_handOn 25 = .ok (.if_icmp .ge 61, 3) := by decide +kernel
theorem dX7_handOn_28 : decode cX7_handOn 28 = .ok (.aload_n 3, 1) := by decide +kernel
theorem dX7_handOn_29 : decode cX7_handOn 29 = .ok (.getfield 52, 3) := by decide +kernel
theorem dX7_handOn_32 : decode cX7_handOn 32 = .ok (.iload 6, 2) := by decide +kernel
theorem dX7_handOn_34 : decode cX7_handOn 34 = .ok (.iaload, 1) := by decide +kernel
theorem dX7_handOn_35 : decode cX7_handOn 35 = .ok (.iconst (-1), 1) := by decide +kernel
theorem dX7_handOn_36 : decode cX7_handOn 36 = .ok (.if_icmp .eq 44, 3) := by decide +kernel
theorem dX7_handOn_39 : decode cX7_handOn 39 = .ok (.aload 4, 2) := by decide +kernel
theorem dX7_handOn_41 : decode cX7_handOn 41 = .ok (.getfield 52, 3) := by decide +kernel
theorem dX7_handOn_44 : decode cX7_handOn 44 = .ok (.iload 6, 2) := by decide +kernel
theorem dX7_handOn_46 : decode cX7_handOn 46 = .ok (.iaload, 1) := by decide +kernel
theorem dX7_handOn_47 : decode cX7_handOn 47 = .ok (.iconst (-1), 1) := by decide +kernel
theorem dX7_handOn_48 : decode cX7_handOn 48 = .ok (.if_icmp .eq 6, 3) := by decide +kernel
theorem dX7_handOn_51 : decode cX7_handOn 51 = .ok (.goto 29, 3) := by decide +kernel
theorem dX7_handOn_54 : decode cX7_handOn 54 = .ok (.aload 4, 2) := by decide +kernel
theorem dX7_handOn_56 : decode cX7_handOn 56 = .ok (.getfield 52, 3) := by decide +kernel
theorem dX7_handOn_59 : decode cX7_handOn 59 = .ok (.iload 6, 2) := by decide +kernel
theorem dX7_handOn_61 : decode cX7_handOn 61 = .ok (.aload_n 3, 1) := by decide +kernel
theorem dX7_handOn_62 : decode cX7_handOn 62 = .ok (.iload 6, 2) := by decide +kernel
theorem dX7_handOn_64 : decode cX7_handOn 64 = .ok (.invokevirtual 81, 3) := by decide +kernel
theorem dX7_handOn_67 : decode cX7_handOn 67 = .ok (.iastore, 1) := by decide +kernel
theorem dX7_handOn_68 : decode cX7_handOn 68 = .ok (.aload 4, 2) := by decide +kernel
theorem dX7_handOn_70 : decode cX7_handOn 70 = .ok (.getfield 78, 3) := by decide +kernel
theorem dX7_handOn_73 : decode cX7_handOn 73 = .ok (.iload 6, 2) := by decide +kernel
theorem dX7_handOn_75 : decode cX7_handOn 75 = .ok (.iconst 0, 1) := by decide +kernel
theorem dX7_handOn_76 : decode cX7_handOn 76 = .ok (.iastore, 1) := by decide +kernel
theorem dX7_handOn_77 : decode cX7_handOn 77 = .ok (.iinc 5 1, 3) := by decide +kernel
theorem dX7_handOn_80 : decode cX7_handOn 80 = .ok (.iinc 6 1, 3) := by decide +kernel
theorem dX7_handOn_83 : decode cX7_handOn 83 = .ok (.goto (-62), 3) := by decide +kernel
theorem dX7_handOn_86 : decode cX7_handOn 86 = .ok (.iload 5, 2) := by decide +kernel
theorem dX7_handOn_88 : decode cX7_handOn 88 = .ok (.ireturn, 1) := by decide +kernel
theorem dX7_pass_0 : decode cX7_pass 0 = .ok (.iconst 0, 1) := by decide +kernel
theorem dX7_pass_1 : decode cX7_pass 1 = .ok (.istore_n 2, 1) := by decide +kernel
theorem dX7_pass_2 : decode cX7_pass 2 = .ok (.iconst 0, 1) := by decide +kernel
theorem dX7_pass_3 : decode cX7_pass 3 = .ok (.istore_n 3, 1) := by decide +kernel
theorem dX7_pass_4 : decode cX7_pass 4 = .ok (.iload_n 3, 1) := by decide +kernel
theorem dX7_pass_5 : decode cX7_pass 5 = .ok (.aload_n 0, 1) := by decide +kernel
theorem dX7_pass_6 : decode cX7_pass 6 = .ok (.getfield 30, 3) := by decide +kernel
theorem dX7_pass_9 : decode cX7_pass 9 = .ok (.if_icmp .ge 95, 3) := by decide +kernel
theorem dX7_pass_12 : decode cX7_pass 12 = .ok (.iconst 0, 1) := by decide +kernel
theorem dX7_pass_13 : decode cX7_pass 13 = .ok (.istore 4, 2) := by decide +kernel
theorem dX7_pass_15 : decode cX7_pass 15 = .ok (.iload 4, 2) := by decide +kernel
theorem dX7_pass_17 : decode cX7_pass 17 = .ok (.bipush 10, 2) := by decide +kernel
theorem dX7_pass_19 : decode cX7_pass 19 = .ok (.if_icmp .ge 79, 3) := by decide +kernel
theorem dX7_pass_22 : decode cX7_pass 22 = .ok (.aload_n 1, 1) := by decide +kernel
theorem dX7_pass_23 : decode cX7_pass 23 = .ok (.aload_n 0, 1) := by decide +kernel
theorem dX7_pass_24 : decode cX7_pass 24 = .ok (.iload_n 3, 1) := by decide +kernel
theorem dX7_pass_25 : decode cX7_pass 25 = .ok (.iload 4, 2) := by decide +kernel
theorem dX7_pass_27 : decode cX7_pass 27 = .ok (.invokevirtual 85, 3) := by decide +kernel
theorem dX7_pass_30 : decode cX7_pass 30 = .ok (.aload_n 1, 1) := by decide +kernel
theorem dX7_pass_31 : decode cX7_pass 31 = .ok (.iconst 1, 1) := by decide +kernel
theorem dX7_pass_32 : decode cX7_pass 32 = .ok (.invokevirtual 91, 3) := by decide +kernel
theorem dX7_pass_35 : decode cX7_pass 35 = .ok (.iconst (-1), 1) := by decide +kernel
theorem dX7_pass_36 : decode cX7_pass 36 = .ok (.if_icmp .ne 22, 3) := by decide +kernel
theorem dX7_pass_39 : decode cX7_pass 39 = .ok (.aload_n 0, 1) := by decide +kernel
theorem dX7_pass_40 : decode cX7_pass 40 = .ok (.getfield 11, 3) := by decide +kernel
theorem dX7_pass_43 : decode cX7_pass 43 = .ok (.iload_n 3, 1) := by decide +kernel
theorem dX7_pass_44 : decode cX7_pass 44 = .ok (.aaload, 1) := by decide +kernel
theorem dX7_pass_45 : decode cX7_pass 45 = .ok (.getfield 78, 3) := by decide +kernel
theorem dX7_pass_48 : decode cX7_pass 48 = .ok (.iload 4, 2) := by decide +kernel
theorem dX7_pass_50 : decode cX7_pass 50 = .ok (.dup2, 1) := by decide +kernel
theorem dX7_pass_51 : decode cX7_pass 51 = .ok (.iaload, 1) := by decide +kernel
theorem dX7_pass_52 : decode cX7_pass 52 = .ok (.iconst 1, 1) := by decide +kernel
theorem dX7_pass_53 : decode cX7_pass 53 = .ok (.iadd, 1) := by decide +kernel
theorem dX7_pass_54 : decode cX7_pass 54 = .ok (.iastore, 1) := by decide +kernel
theorem dX7_pass_55 : decode cX7_pass 55 = .ok (.goto 37, 3) := by decide +kernel
theorem dX7_pass_58 : decode cX7_pass 58 = .ok (.aload_n 0, 1) := by decide +kernel
theorem dX7_pass_59 : decode cX7_pass 59 = .ok (.dup, 1) := by decide +kernel
theorem dX7_pass_60 : decode cX7_pass 60 = .ok (.getfield 36, 3) := by decide +kernel
theorem dX7_pass_63 : decode cX7_pass 63 = .ok (.aload_n 1, 1) := by decide +kernel
theorem dX7_pass_64 : decode cX7_pass 64 = .ok (.iconst 0, 1) := by decide +kernel
theorem dX7_pass_65 : decode cX7_pass 65 = .ok (.aload_n 0, 1) := by decide +kernel
theorem dX7_pass_66 : decode cX7_pass 66 = .ok (.iconst 0, 1) := by decide +kernel
theorem dX7_pass_67 : decode cX7_pass 67 = .ok (.invokevirtual 94, 3) := by decide +kernel
theorem dX7_pass_70 : decode cX7_pass 70 = .ok (.invokevirtual 98, 3) := by decide +kernel
theorem dX7_pass_73 : decode cX7_pass 73 = .ok (.iadd, 1) := by decide +kernel
theorem dX7_pass_74 : decode cX7_pass 74 = .ok (.putfield 36, 3) := by decide +kernel
theorem dX7_pass_77 : decode cX7_pass 77 = .ok (.aload_n 0, 1) := by decide +kernel
theorem dX7_pass_78 : decode cX7_pass 78 = .ok (.getfield 11, 3) := by decide +kernel
theorem dX7_pass_81 : decode cX7_pass 81 = .ok (.iload_n 3, 1) := by decide +kernel
theorem dX7_pass_82 : decode cX7_pass 82 = .ok (.aaload, 1) := by decide +kernel
theorem dX7_pass_83 : decode cX7_pass 83 = .ok (.iload 4, 2) := by decide +kernel
theorem dX7_pass_85 : decode cX7_pass 85 = .ok (.invokevirtual 81, 3) := by decide +kernel
theorem dX7_pass_88 : decode cX7_pass 88 = .ok (.pop, 1) := by decide +kernel
theorem dX7_pass_89 : decode cX7_pass 89 = .ok (.iinc 2 1, 3) := by decide +kernel
theorem dX7_pass_92 : decode cX7_pass 92 = .ok (.iinc 4 1, 3) := by decide +kernel
theorem dX7_pass_95 : decode cX7_pass 95 = .ok (.goto (-80), 3) := by decide +kernel
theorem dX7_pass_98 : decode cX7_pass 98 = .ok (.iinc 3 1, 3) := by decide +kernel
theorem dX7_pass_101 : decode cX7_pass 101 = .ok (.goto (-97), 3) := by decide +kernel
theorem dX7_pass_104 : decode cX7_pass 104 = .ok (.aload_n 0, 1) := by decide +kernel
theorem dX7_pass_105 : decode cX7_pass 105 = .ok (.dup, 1) := by decide +kernel
theorem dX7_pass_106 : decode cX7_pass 106 = .ok (.getfield 33, 3) := by decide +kernel
theorem dX7_pass_109 : decode cX7_pass 109 = .ok (.iconst 1, 1) := by decide +kernel
theorem dX7_pass_110 : decode cX7_pass 110 = .ok (.iadd, 1) := by decide +kernel
theorem dX7_pass_111 : decode cX7_pass 111 = .ok (.putfield 33, 3) := by decide +kernel
theorem dX7_pass_114 : decode cX7_pass 114 = .ok (.iload_n 2, 1) := by decide +kernel
theorem dX7_pass_115 : decode cX7_pass 115 = .ok (.ireturn, 1) := by decide +kernel
theorem dX7_stuckInAll_0 : decode cX7_stuckInAll 0 = .ok (.iconst 0, 1) := by decide +kernel
theorem dX7_stuckInAll_1 : decode cX7_stuckInAll 1 = .ok (.istore_n 1, 1) := by decide +kernel
theorem dX7_stuckInAll_2 : decode cX7_stuckInAll 2 = .ok (.iconst 0, 1) := by decide +kernel
theorem dX7_stuckInAll_3 : decode cX7_stuckInAll 3 = .ok (.istore_n 2, 1) := by decide +kernel
theorem dX7_stuckInAll_4 : decode cX7_stuckInAll 4 = .ok (.iload_n 2, 1) := by decide +kernel
theorem dX7_stuckInAll_5 : decode cX7_stuckInAll 5 = .ok (.aload_n 0, 1) := by decide +kernel
theorem dX7_stuckInAll_6 : decode cX7_stuckInAll 6 = .ok (.getfield 30, 3) := by decide +kernel
theorem dX7_stuckInAll_9 : decode cX7_stuckInAll 9 = .ok (.if_icmp .ge 21, 3) := by decide +kernel
theorem dX7_stuckInAll_12 : decode cX7_stuckInAll 12 = .ok (.iload_n 1, 1) := by decide +kernel
theorem dX7_stuckInAll_13 : decode cX7_stuckInAll 13 = .ok (.aload_n 0, 1) := by decide +kernel
theorem dX7_stuckInAll_14 : decode cX7_stuckInAll 14 = .ok (.getfield 11, 3) := by decide +kernel
theorem dX7_stuckInAll_17 : decode cX7_stuckInAll 17 = .ok (.iload_n 2, 1) := by decide +kernel
theorem dX7_stuckInAll_18 : decode cX7_stuckInAll 18 = .ok (.aaload, 1) := by decide +kernel
theorem dX7_stuckInAll_19 : decode cX7_stuckInAll 19 = .ok (.invokevirtual 55, 3) := by decide +kernel
theorem dX7_stuckInAll_22 : decode cX7_stuckInAll 22 = .ok (.iadd, 1) := by decide +kernel
theorem dX7_stuckInAll_23 : decode cX7_stuckInAll 23 = .ok (.istore_n 1, 1) := by decide +kernel
theorem dX7_stuckInAll_24 : decode cX7_stuckInAll 24 = .ok (.iinc 2 1, 3) := by decide +kernel
theorem dX7_stuckInAll_27 : decode cX7_stuckInAll 27 = .ok (.goto (-23), 3) := by decide +kernel
theorem dX7_stuckInAll_30 : decode cX7_stuckInAll 30 = .ok (.iload_n 1, 1) := by decide +kernel
theorem dX7_stuckInAll_31 : decode cX7_stuckInAll 31 = .ok (.ireturn, 1) := by decide +kernel
theorem dX7_isChurchIn_0 : decode cX7_isChurchIn 0 = .ok (.aload_n 0, 1) := by decide +kernel
theorem dX7_isChurchIn_1 : decode cX7_isChurchIn 1 = .ok (.getfield 21, 3) := by decide +kernel
theorem dX7_isChurchIn_4 : decode cX7_isChurchIn 4 = .ok (.aload_n 0, 1) := by decide +kernel
theorem dX7_isChurchIn_5 : decode cX7_isChurchIn 5 = .ok (.getfield 33, 3) := by decide +kernel
theorem dX7_isChurchIn_8 : decode cX7_isChurchIn 8 = .ok (.iload_n 1, 1) := by decide +kernel
theorem dX7_isChurchIn_9 : decode cX7_isChurchIn 9 = .ok (.iadd, 1) := by decide +kernel
theorem dX7_isChurchIn_10 : decode cX7_isChurchIn 10 = .ok (.bipush 24, 2) := by decide +kernel
theorem dX7_isChurchIn_12 : decode cX7_isChurchIn 12 = .ok (.irem, 1) := by decide +kernel
theorem dX7_isChurchIn_13 : decode cX7_isChurchIn 13 = .ok (.iushr, 1) := by decide +kernel
theorem dX7_isChurchIn_14 : decode cX7_isChurchIn 14 = .ok (.iconst 1, 1) := by decide +kernel
theorem dX7_isChurchIn_15 : decode cX7_isChurchIn 15 = .ok (.iand, 1) := by decide +kernel
theorem dX7_isChurchIn_16 : decode cX7_isChurchIn 16 = .ok (.ifCond .eq 7, 3) := by decide +kernel
theorem dX7_isChurchIn_19 : decode cX7_isChurchIn 19 = .ok (.iconst 1, 1) := by decide +kernel
theorem dX7_isChurchIn_20 : decode cX7_isChurchIn 20 = .ok (.goto 4, 3) := by decide +kernel
theorem dX7_isChurchIn_23 : decode cX7_isChurchIn 23 = .ok (.iconst 0, 1) := by decide +kernel
theorem dX7_isChurchIn_24 : decode cX7_isChurchIn 24 = .ok (.ireturn, 1) := by decide +kernel
theorem dX8_init_0 : decode cX8_init 0 = .ok (.aload_n 0, 1) := by decide +kernel
theorem dX8_init_1 : decode cX8_init 1 = .ok (.invokespecial 1, 3) := by decide +kernel
theorem dX8_init_4 : decode cX8_init 4 = .ok (.aload_n 0, 1) := by decide +kernel
theorem dX8_init_5 : decode cX8_init 5 = .ok (.bipush 6, 2) := by decide +kernel
theorem dX8_init_7 : decode cX8_init 7 = .ok (.anewarray 9, 3) := by decide +kernel
theorem dX8_init_10 : decode cX8_init 10 = .ok (.putfield 11, 3) := by decide +kernel
theorem dX8_init_13 : decode cX8_init 13 = .ok (.aload_n 0, 1) := by decide +kernel
theorem dX8_init_14 : decode cX8_init 14 = .ok (.iconst 4, 1) := by decide +kernel
theorem dX8_init_15 : decode cX8_init 15 = .ok (.anewarray 15, 3) := by decide +kernel
theorem dX8_init_18 : decode cX8_init 18 = .ok (.putfield 17, 3) := by decide +kernel
theorem dX8_init_21 : decode cX8_init 21 = .ok (.aload_n 0, 1) := by decide +kernel
theorem dX8_init_22 : decode cX8_init 22 = .ok (.new 21, 3) := by decide +kernel
theorem dX8_init_25 : decode cX8_init 25 = .ok (.dup, 1) := by decide +kernel
theorem dX8_init_26 : decode cX8_init 26 = .ok (.invokespecial 23, 3) := by decide +kernel
theorem dX8_init_29 : decode cX8_init 29 = .ok (.putfield 24, 3) := by decide +kernel
theorem dX8_init_32 : decode cX8_init 32 = .ok (.iconst 0, 1) := by decide +kernel
theorem dX8_init_33 : decode cX8_init 33 = .ok (.istore_n 1, 1) := by decide +kernel
theorem dX8_init_34 : decode cX8_init 34 = .ok (.iload_n 1, 1) := by decide +kernel
theorem dX8_init_35 : decode cX8_init 35 = .ok (.bipush 6, 2) := by decide +kernel
theorem dX8_init_37 : decode cX8_init 37 = .ok (.if_icmp .ge 22, 3) := by decide +kernel
theorem dX8_init_40 : decode cX8_init 40 = .ok (.aload_n 0, 1) := by decide +kernel
theorem dX8_init_41 : decode cX8_init 41 = .ok (.getfield 11, 3) := by decide +kernel
theorem dX8_init_44 : decode cX8_init 44 = .ok (.iload_n 1, 1) := by decide +kernel
theorem dX8_init_45 : decode cX8_init 45 = .ok (.new 9, 3) := by decide +kernel
theorem dX8_init_48 : decode cX8_init 48 = .ok (.dup, 1) := by decide +kernel
theorem dX8_init_49 : decode cX8_init 49 = .ok (.invokespecial 28, 3) := by decide +kernel
theorem dX8_init_52 : decode cX8_init 52 = .ok (.aastore, 1) := by decide +kernel
theorem dX8_init_53 : decode cX8_init 53 = .ok (.iinc 1 1, 3) := by decide +kernel
theorem dX8_init_56 : decode cX8_init 56 = .ok (.goto (-22), 3) := by decide +kernel
theorem dX8_init_59 : decode cX8_init 59 = .ok (.iconst 0, 1) := by decide +kernel
theorem dX8_init_60 : decode cX8_init 60 = .ok (.istore_n 1, 1) := by decide +kernel
theorem dX8_init_61 : decode cX8_init 61 = .ok (.iload_n 1, 1) := by decide +kernel
theorem dX8_init_62 : decode cX8_init 62 = .ok (.iconst 4, 1) := by decide +kernel
theorem dX8_init_63 : decode cX8_init 63 = .ok (.if_icmp .ge 22, 3) := by decide +kernel
theorem dX8_init_66 : decode cX8_init 66 = .ok (.aload_n 0, 1) := by decide +kernel
theorem dX8_init_67 : decode cX8_init 67 = .ok (.getfield 17, 3) := by decide +kernel
theorem dX8_init_70 : decode cX8_init 70 = .ok (.iload_n 1, 1) := by decide +kernel
theorem dX8_init_71 : decode cX8_init 71 = .ok (.new 15, 3) := by decide +kernel
theorem dX8_init_74 : decode cX8_init 74 = .ok (.dup, 1) := by decide +kernel
theorem dX8_init_75 : decode cX8_init 75 = .ok (.invokespecial 29, 3) := by decide +kernel
theorem dX8_init_78 : decode cX8_init 78 = .ok (.aastore, 1) := by decide +kernel
theorem dX8_init_79 : decode cX8_init 79 = .ok (.iinc 1 1, 3) := by decide +kernel
theorem dX8_init_82 : decode cX8_init 82 = .ok (.goto (-21), 3) := by decide +kernel
theorem dX8_init_85 : decode cX8_init 85 = .ok (.aload_n 0, 1) := by decide +kernel
theorem dX8_init_86 : decode cX8_init 86 = .ok (.new 30, 3) := by decide +kernel
theorem dX8_init_89 : decode cX8_init 89 = .ok (.dup, 1) := by decide +kernel
theorem dX8_init_90 : decode cX8_init 90 = .ok (.aload_n 0, 1) := by decide +kernel
theorem dX8_init_91 : decode cX8_init 91 = .ok (.getfield 11, 3) := by decide +kernel
theorem dX8_init_94 : decode cX8_init 94 = .ok (.iconst 0, 1) := by decide +kernel
theorem dX8_init_95 : decode cX8_init 95 = .ok (.aaload, 1) := by decide +kernel
theorem dX8_init_96 : decode cX8_init 96 = .ok (.invokespecial 32, 3) := by decide +kernel
theorem dX8_init_99 : decode cX8_init 99 = .ok (.putfield 35, 3) := by decide +kernel
theorem dX8_init_102 : decode cX8_init 102 = .ok (.aload_n 0, 1) := by decide +kernel
theorem dX8_init_103 : decode cX8_init 103 = .ok (.new 39, 3) := by decide +kernel
theorem dX8_init_106 : decode cX8_init 106 = .ok (.dup, 1) := by decide +kernel
theorem dX8_init_107 : decode cX8_init 107 = .ok (.aload_n 0, 1) := by decide +kernel
theorem dX8_init_108 : decode cX8_init 108 = .ok (.getfield 11, 3) := by decide +kernel
theorem dX8_init_111 : decode cX8_init 111 = .ok (.iconst 0, 1) := by decide +kernel
theorem dX8_init_112 : decode cX8_init 112 = .ok (.aaload, 1) := by decide +kernel
theorem dX8_init_113 : decode cX8_init 113 = .ok (.invokespecial 41, 3) := by decide +kernel
theorem dX8_init_116 : decode cX8_init 116 = .ok (.putfield 42, 3) := by decide +kernel
theorem dX8_init_119 : decode cX8_init 119 = .ok (.aload_n 0, 1) := by decide +kernel
theorem dX8_init_120 : decode cX8_init 120 = .ok (.new 46, 3) := by decide +kernel
theorem dX8_init_123 : decode cX8_init 123 = .ok (.dup, 1) := by decide +kernel
theorem dX8_init_124 : decode cX8_init 124 = .ok (.aload_n 0, 1) := by decide +kernel
theorem dX8_init_125 : decode cX8_init 125 = .ok (.getfield 11, 3) := by decide +kernel
theorem dX8_init_128 : decode cX8_init 128 = .ok (.invokespecial 48, 3) := by decide +kernel
theorem dX8_init_131 : decode cX8_init 131 = .ok (.putfield 51, 3) := by decide +kernel
theorem dX8_init_134 : decode cX8_init 134 = .ok (.aload_n 0, 1) := by decide +kernel
theorem dX8_init_135 : decode cX8_init 135 = .ok (.new 46, 3) := by decide +kernel
theorem dX8_init_138 : decode cX8_init 138 = .ok (.dup, 1) := by decide +kernel
theorem dX8_init_139 : decode cX8_init 139 = .ok (.aload_n 0, 1) := by decide +kernel
theorem dX8_init_140 : decode cX8_init 140 = .ok (.getfield 11, 3) := by decide +kernel
theorem dX8_init_143 : decode cX8_init 143 = .ok (.invokespecial 48, 3) := by decide +kernel
theorem dX8_init_146 : decode cX8_init 146 = .ok (.putfield 55, 3) := by decide +kernel
theorem dX8_init_149 : decode cX8_init 149 = .ok (.aload_n 0, 1) := by decide +kernel
theorem dX8_init_150 : decode cX8_init 150 = .ok (.new 46, 3) := by decide +kernel
theorem dX8_init_153 : decode cX8_init 153 = .ok (.dup, 1) := by decide +kernel
theorem dX8_init_154 : decode cX8_init 154 = .ok (.aload_n 0, 1) := by decide +kernel
theorem dX8_init_155 : decode cX8_init 155 = .ok (.getfield 11, 3) := by decide +kernel
theorem dX8_init_158 : decode cX8_init 158 = .ok (.invokespecial 48, 3) := by decide +kernel
theorem dX8_init_161 : decode cX8_init 161 = .ok (.putfield 58, 3) := by decide +kernel
theorem dX8_init_164 : decode cX8_init 164 = .ok (.iconst 0, 1) := by decide +kernel
theorem dX8_init_165 : decode cX8_init 165 = .ok (.istore_n 1, 1) := by decide +kernel
theorem dX8_init_166 : decode cX8_init 166 = .ok (.iload_n 1, 1) := by decide +kernel
theorem dX8_init_167 : decode cX8_init 167 = .ok (.ldc 61, 2) := by decide +kernel
theorem dX8_init_169 : decode cX8_init 169 = .ok (.invokevirtual 63, 3) := by decide +kernel
theorem dX8_init_172 : decode cX8_init 172 = .ok (.if_icmp .ge 23, 3) := by decide +kernel
theorem dX8_init_175 : decode cX8_init 175 = .ok (.aload_n 0, 1) := by decide +kernel
theorem dX8_init_176 : decode cX8_init 176 = .ok (.getfield 35, 3) := by decide +kernel
theorem dX8_init_179 : decode cX8_init 179 = .ok (.ldc 61, 2) := by decide +kernel
theorem dX8_init_181 : decode cX8_init 181 = .ok (.iload_n 1, 1) := by decide +kernel
theorem dX8_init_182 : decode cX8_init 182 = .ok (.invokevirtual 69, 3) := by decide +kernel
theorem dX8_init_185 : decode cX8_init 185 = .ok (.invokevirtual 73, 3) := by decide +kernel
theorem dX8_init_188 : decode cX8_init 188 = .ok (.pop, 1) := by decide +kernel
theorem dX8_init_189 : decode cX8_init 189 = .ok (.iinc 1 1, 3) := by decide +kernel
theorem dX8_init_192 : decode cX8_init 192 = .ok (.goto (-26), 3) := by decide +kernel
theorem dX8_init_195 : decode cX8_init 195 = .ok (.aload_n 0, 1) := by decide +kernel
theorem dX8_init_196 : decode cX8_init 196 = .ok (.getfield 35, 3) := by decide +kernel
theorem dX8_init_199 : decode cX8_init 199 = .ok (.aload_n 0, 1) := by decide +kernel
theorem dX8_init_200 : decode cX8_init 200 = .ok (.getfield 11, 3) := by decide +kernel
theorem dX8_init_203 : decode cX8_init 203 = .ok (.iconst 0, 1) := by decide +kernel
theorem dX8_init_204 : decode cX8_init 204 = .ok (.aaload, 1) := by decide +kernel
theorem dX8_init_205 : decode cX8_init 205 = .ok (.invokevirtual 77, 3) := by decide +kernel
theorem dX8_init_208 : decode cX8_init 208 = .ok (.pop, 1) := by decide +kernel
theorem dX8_init_209 : decode cX8_init 209 = .ok (.aload_n 0, 1) := by decide +kernel
theorem dX8_init_210 : decode cX8_init 210 = .ok (.iconst 1, 1) := by decide +kernel
theorem dX8_init_211 : decode cX8_init 211 = .ok (.putfield 81, 3) := by decide +kernel
theorem dX8_init_214 : decode cX8_init 214 = .ok (.return_, 1) := by decide +kernel
theorem dX8_set_0 : decode cX8_set 0 = .ok (.iload_n 1, 1) := by decide +kernel
theorem dX8_set_1 : decode cX8_set 1 = .ok (.ifCond .ne 9, 3) := by decide +kernel
theorem dX8_set_4 : decode cX8_set 4 = .ok (.aload_n 0, 1) := by decide +kernel
theorem dX8_set_5 : decode cX8_set 5 = .ok (.iload_n 3, 1) := by decide +kernel
theorem dX8_set_6 : decode cX8_set 6 = .ok (.invokevirtual 85, 3) := by decide +kernel
theorem dX8_set_9 : decode cX8_set 9 = .ok (.ireturn, 1) := by decide +kernel
theorem dX8_set_10 : decode cX8_set 10 = .ok (.iload_n 1, 1) := by decide +kernel
theorem dX8_set_11 : decode cX8_set 11 = .ok (.iconst 1, 1) := by decide +kernel
theorem dX8_set_12 : decode cX8_set 12 = .ok (.if_icmp .ne 9, 3) := by decide +kernel
theorem dX8_set_15 : decode cX8_set 15 = .ok (.aload_n 0, 1) := by decide +kernel
theorem dX8_set_16 : decode cX8_set 16 = .ok (.iload_n 3, 1) := by decide +kernel
theorem dX8_set_17 : decode cX8_set 17 = .ok (.invokevirtual 88, 3) := by decide +kernel
theorem dX8_set_20 : decode cX8_set 20 = .ok (.ireturn, 1) := by decide +kernel
theorem dX8_set_21 : decode cX8_set 21 = .ok (.iload_n 1, 1) := by decide +kernel
theorem dX8_set_22 : decode cX8_set 22 = .ok (.iconst 2, 1) := by decide +kernel
theorem dX8_set_23 : decode cX8_set 23 = .ok (.if_icmp .ne 20, 3) := by decide +kernel
theorem dX8_set_26 : decode cX8_set 26 = .ok (.aload_n 0, 1) := by decide +kernel
theorem dX8_set_27 : decode cX8_set 27 = .ok (.iload_n 2, 1) := by decide +kernel
theorem dX8_set_28 : decode cX8_set 28 = .ok (.invokevirtual 91, 3) := by decide +kernel
theorem dX8_set_31 : decode cX8_set 31 = .ok (.ifCond .eq 12, 3) := by decide +kernel
theorem dX8_set_34 : decode cX8_set 34 = .ok (.iload_n 3, 1) := by decide +kernel
theorem dX8_set_35 : decode cX8_set 35 = .ok (.bipush 10, 2) := by decide +kernel
theorem dX8_set_37 : decode cX8_set 37 = .ok (.invokestatic 95, 3) := by decide +kernel
theorem dX8_set_40 : decode cX8_set 40 = .ok (.ifCond .ne 6, 3) := by decide +kernel
theorem dX8_set_43 : decode cX8_set 43 = .ok (.bipush (-2), 2) := by decide +kernel
theorem dX8_set_45 : decode cX8_set 45 = .ok (.ireturn, 1) := by decide +kernel
theorem dX8_set_46 : decode cX8_set 46 = .ok (.aload_n 0, 1) := by decide +kernel
theorem dX8_set_47 : decode cX8_set 47 = .ok (.getfield 51, 3) := by decide +kernel
theorem dX8_set_50 : decode cX8_set 50 = .ok (.getfield 99, 3) := by decide +kernel
theorem dX8_set_53 : decode cX8_set 53 = .ok (.iload_n 2, 1) := by decide +kernel
theorem dX8_set_54 : decode cX8_set 54 = .ok (.aaload, 1) := by decide +kernel
theorem dX8_set_55 : decode cX8_set 55 = .ok (.astore 4, 2) := by decide +kernel
theorem dX8_set_57 : decode cX8_set 57 = .ok (.aload 4, 2) := by decide +kernel
theorem dX8_set_59 : decode cX8_set 59 = .ok (.getfield 103, 3) := by decide +kernel
theorem dX8_set_62 : decode cX8_set 62 = .ok (.istore 5, 2) := by decide +kernel
theorem dX8_set_64 : decode cX8_set 64 = .ok (.aload 4, 2) := by decide +kernel
theorem dX8_set_66 : decode cX8_set 66 = .ok (.iload_n 3, 1) := by decide +kernel
theorem dX8_set_67 : decode cX8_set 67 = .ok (.putfield 103, 3) := by decide +kernel
theorem dX8_set_70 : decode cX8_set 70 = .ok (.iload 5, 2) := by decide +kernel
theorem dX8_set_72 : decode cX8_set 72 = .ok (.ireturn, 1) := by decide +kernel
theorem dX8_setHour_0 : decode cX8_setHour 0 = .ok (.iload_n 1, 1) := by decide +kernel
theorem dX8_setHour_1 : decode cX8_setHour 1 = .ok (.ifCond .lt 10, 3) := by decide +kernel
theorem dX8_setHour_4 : decode cX8_setHour 4 = .ok (.iload_n 1, 1) := by decide +kernel
theorem dX8_setHour_5 : decode cX8_setHour 5 = .ok (.sipush 999, 3) := by decide +kernel
theorem dX8_setHour_8 : decode cX8_setHour 8 = .ok (.if_icmp .le 6, 3) := by decide +kernel
theorem dX8_setHour_11 : decode cX8_setHour 11 = .ok (.bipush (-2), 2) := by decide +kernel
theorem dX8_setHour_13 : decode cX8_setHour 13 = .ok (.ireturn, 1) := by decide +kernel
theorem dX8_setHour_14 : decode cX8_setHour 14 = .ok (.aload_n 0, 1) := by decide +kernel
theorem dX8_setHour_15 : decode cX8_setHour 15 = .ok (.getfield 51, 3) := by decide +kernel
theorem dX8_setHour_18 : decode cX8_setHour 18 = .ok (.getfield 108, 3) := by decide +kernel
theorem dX8_setHour_21 : decode cX8_setHour 21 = .ok (.istore_n 2, 1) := by decide +kernel
theorem dX8_setHour_22 : decode cX8_setHour 22 = .ok (.aload_n 0, 1) := by decide +kernel
theorem dX8_setHour_23 : decode cX8_setHour 23 = .ok (.getfield 51, 3) := by decide +kernel
theorem dX8_setHour_26 : decode cX8_setHour 26 = .ok (.iload_n 1, 1) := by decide +kernel
theorem dX8_setHour_27 : decode cX8_setHour 27 = .ok (.putfield 108, 3) := by decide +kernel
theorem dX8_setHour_30 : decode cX8_setHour 30 = .ok (.iload_n 2, 1) := by decide +kernel
theorem dX8_setHour_31 : decode cX8_setHour 31 = .ok (.ireturn, 1) := by decide +kernel
theorem dX8_setChurch_0 : decode cX8_setChurch 0 = .ok (.iload_n 1, 1) := by decide +kernel
theorem dX8_setChurch_1 : decode cX8_setChurch 1 = .ok (.ldc 111, 2) := by decide +kernel
theorem dX8_setChurch_3 : decode cX8_setChurch 3 = .ok (.invokestatic 95, 3) := by decide +kernel
theorem dX8_setChurch_6 : decode cX8_setChurch 6 = .ok (.ifCond .ne 6, 3) := by decide +kernel
theorem dX8_setChurch_9 : decode cX8_setChurch 9 = .ok (.bipush (-2), 2) := by decide +kernel
theorem dX8_setChurch_11 : decode cX8_setChurch 11 = .ok (.ireturn, 1) := by decide +kernel
theorem dX8_setChurch_12 : decode cX8_setChurch 12 = .ok (.aload_n 0, 1) := by decide +kernel
theorem dX8_setChurch_13 : decode cX8_setChurch 13 = .ok (.getfield 51, 3) := by decide +kernel
theorem dX8_setChurch_16 : decode cX8_setChurch 16 = .ok (.getfield 112, 3) := by decide +kernel
theorem dX8_setChurch_19 : decode cX8_setChurch 19 = .ok (.istore_n 2, 1) := by decide +kernel
theorem dX8_setChurch_20 : decode cX8_setChurch 20 = .ok (.aload_n 0, 1) := by decide +kernel
theorem dX8_setChurch_21 : decode cX8_setChurch 21 = .ok (.getfield 51, 3) := by decide +kernel
theorem dX8_setChurch_24 : decode cX8_setChurch 24 = .ok (.iload_n 1, 1) := by decide +kernel
theorem dX8_setChurch_25 : decode cX8_setChurch 25 = .ok (.putfield 112, 3) := by decide +kernel
theorem dX8_setChurch_28 : decode cX8_setChurch 28 = .ok (.iload_n 2, 1) := by decide +kernel
theorem dX8_setChurch_29 : decode cX8_setChurch 29 = .ok (.ireturn, 1) := by decide +kernel
theorem dX8_man_0 : decode cX8_man 0 = .ok (.iload_n 1, 1) := by decide +kernel
theorem dX8_man_1 : decode cX8_man 1 = .ok (.bipush 6, 2) := by decide +kernel
theorem dX8_man_3 : decode cX8_man 3 = .ok (.invokestatic 95, 3) := by decide +kernel
theorem dX8_man_6 : decode cX8_man 6 = .ok (.ifCond .eq 12, 3) := by decide +kernel
theorem dX8_man_9 : decode cX8_man 9 = .ok (.iload_n 2, 1) := by decide +kernel
theorem dX8_man_10 : decode cX8_man 10 = .ok (.bipush 10, 2) := by decide +kernel
theorem dX8_man_12 : decode cX8_man 12 = .ok (.invokestatic 95, 3) := by decide +kernel
theorem dX8_man_15 : decode cX8_man 15 = .ok (.ifCond .ne 6, 3) := by decide +kernel
theorem dX8_man_18 : decode cX8_man 18 = .ok (.bipush (-2), 2) := by decide +kernel
theorem dX8_man_20 : decode cX8_man 20 = .ok (.ireturn, 1) := by decide +kernel
theorem dX8_man_21 : decode cX8_man 21 = .ok (.aload_n 0, 1) := by decide +kernel
theorem dX8_man_22 : decode cX8_man 22 = .ok (.getfield 51, 3) := by decide +kernel
theorem dX8_man_25 : decode cX8_man 25 = .ok (.getfield 115, 3) := by decide +kernel
theorem dX8_man_28 : decode cX8_man 28 = .ok (.iconst 5, 1) := by decide +kernel
theorem dX8_man_29 : decode cX8_man 29 = .ok (.if_icmp .lt 6, 3) := by decide +kernel
theorem dX8_man_32 : decode cX8_man 32 = .ok (.bipush (-4), 2) := by decide +kernel
theorem dX8_man_34 : decode cX8_man 34 = .ok (.ireturn, 1) := by decide +kernel
theorem dX8_man_35 : decode cX8_man 35 = .ok (.aload_n 0, 1) := by decide +kernel
theorem dX8_man_36 : decode cX8_man 36 = .ok (.getfield 51, 3) := by decide +kernel
theorem dX8_man_39 : decode cX8_man 39 = .ok (.iload_n 1, 1) := by decide +kernel
theorem dX8_man_40 : decode cX8_man 40 = .ok (.iload_n 2, 1) := by decide +kernel
theorem dX8_man_41 : decode cX8_man 41 = .ok (.invokevirtual 118, 3) := by decide +kernel
theorem dX8_man_44 : decode cX8_man 44 = .ok (.ireturn, 1) := by decide +kernel
theorem dX8_told_0 : decode cX8_told 0 = .ok (.iload_n 2, 1) := by decide +kernel
theorem dX8_told_1 : decode cX8_told 1 = .ok (.ifCond .ne 11, 3) := by decide +kernel
theorem dX8_told_4 : decode cX8_told 4 = .ok (.aload_n 0, 1) := by decide +kernel
theorem dX8_told_5 : decode cX8_told 5 = .ok (.getfield 51, 3) := by decide +kernel
theorem dX8_told_8 : decode cX8_told 8 = .ok (.getfield 108, 3) := by decide +kernel
theorem dX8_told_11 : decode cX8_told 11 = .ok (.ireturn, 1) := by decide +kernel
theorem dX8_told_12 : decode cX8_told 12 = .ok (.iload_n 2, 1) := by decide +kernel
theorem dX8_told_13 : decode cX8_told 13 = .ok (.iconst 1, 1) := by decide +kernel
theorem dX8_told_14 : decode cX8_told 14 = .ok (.if_icmp .ne 11, 3) := by decide +kernel
theorem dX8_told_17 : decode cX8_told 17 = .ok (.aload_n 0, 1) := by decide +kernel
theorem dX8_told_18 : decode cX8_told 18 = .ok (.getfield 51, 3) := by decide +kernel
theorem dX8_told_21 : decode cX8_told 21 = .ok (.getfield 112, 3) := by decide +kernel
theorem dX8_told_24 : decode cX8_told 24 = .ok (.ireturn, 1) := by decide +kernel
theorem dX8_told_25 : decode cX8_told 25 = .ok (.aload_n 0, 1) := by decide +kernel
theorem dX8_told_26 : decode cX8_told 26 = .ok (.iload_n 1, 1) := by decide +kernel
theorem dX8_told_27 : decode cX8_told 27 = .ok (.invokevirtual 91, 3) := by decide +kernel
theorem dX8_told_30 : decode cX8_told 30 = .ok (.ifCond .ne 6, 3) := by decide +kernel
theorem dX8_told_33 : decode cX8_told 33 = .ok (.bipush (-2), 2) := by decide +kernel
theorem dX8_told_35 : decode cX8_told 35 = .ok (.ireturn, 1) := by decide +kernel
theorem dX8_told_36 : decode cX8_told 36 = .ok (.aload_n 0, 1) := by decide +kernel
theorem dX8_told_37 : decode cX8_told 37 = .ok (.getfield 51, 3) := by decide +kernel
theorem dX8_told_40 : decode cX8_told 40 = .ok (.getfield 99, 3) := by decide +kernel
theorem dX8_told_43 : decode cX8_told 43 = .ok (.iload_n 1, 1) := by decide +kernel
theorem dX8_told_44 : decode cX8_told 44 = .ok (.aaload, 1) := by decide +kernel
theorem dX8_told_45 : decode cX8_told 45 = .ok (.astore_n 3, 1) := by decide +kernel
theorem dX8_told_46 : decode cX8_told 46 = .ok (.iload_n 2, 1) := by decide +kernel
theorem dX8_told_47 : decode cX8_told 47 = .ok (.iconst 2, 1) := by decide +kernel
theorem dX8_told_48 : decode cX8_told 48 = .ok (.if_icmp .ne 8, 3) := by decide +kernel
theorem dX8_told_51 : decode cX8_told 51 = .ok (.aload_n 3, 1) := by decide +kernel
theorem dX8_told_52 : decode cX8_told 52 = .ok (.getfield 103, 3) := by decide +kernel
theorem dX8_told_55 : decode cX8_told 55 = .ok (.ireturn, 1) := by decide +kernel
theorem dX8_told_56 : decode cX8_told 56 = .ok (.iload_n 2, 1) := by decide +kernel
theorem dX8_told_57 : decode cX8_told 57 = .ok (.iconst 3, 1) := by decide +kernel
theorem dX8_told_58 : decode cX8_told 58 = .ok (.if_icmp .ne 8, 3) := by decide +kernel
theorem dX8_told_61 : decode cX8_told 61 = .ok (.aload_n 3, 1) := by decide +kernel
theorem dX8_told_62 : decode cX8_told 62 = .ok (.getfield 122, 3) := by decide +kernel
theorem dX8_told_65 : decode cX8_told 65 = .ok (.ireturn, 1) := by decide +kernel
theorem dX8_told_66 : decode cX8_told 66 = .ok (.iload_n 2, 1) := by decide +kernel
theorem dX8_told_67 : decode cX8_told 67 = .ok (.iconst 4, 1) := by decide +kernel
theorem dX8_told_68 : decode cX8_told 68 = .ok (.if_icmp .ne 8, 3) := by decide +kernel
theorem dX8_told_71 : decode cX8_told 71 = .ok (.aload_n 3, 1) := by decide +kernel
theorem dX8_told_72 : decode cX8_told 72 = .ok (.invokevirtual 125, 3) := by decide +kernel
theorem dX8_told_75 : decode cX8_told 75 = .ok (.ireturn, 1) := by decide +kernel
theorem dX8_told_76 : decode cX8_told 76 = .ok (.iload_n 2, 1) := by decide +kernel
theorem dX8_told_77 : decode cX8_told 77 = .ok (.bipush 10, 2) := by decide +kernel
theorem dX8_told_79 : decode cX8_told 79 = .ok (.if_icmp .lt 9, 3) := by decide +kernel
theorem dX8_told_82 : decode cX8_told 82 = .ok (.iload_n 2, 1) := by decide +kernel
theorem dX8_told_83 : decode cX8_told 83 = .ok (.bipush 39, 2) := by decide +kernel
theorem dX8_told_85 : decode cX8_told 85 = .ok (.if_icmp .le 6, 3) := by decide +kernel
theorem dX8_told_88 : decode cX8_told 88 = .ok (.bipush (-2), 2) := by decide +kernel
theorem dX8_told_90 : decode cX8_told 90 = .ok (.ireturn, 1) := by decide +kernel
theorem dX8_told_91 : decode cX8_told 91 = .ok (.aload_n 0, 1) := by decide +kernel
theorem dX8_told_92 : decode cX8_told 92 = .ok (.iload_n 1, 1) := by decide +kernel
theorem dX8_told_93 : decode cX8_told 93 = .ok (.iload_n 2, 1) := by decide +kernel
theorem dX8_told_94 : decode cX8_told 94 = .ok (.bipush 10, 2) := by decide +kernel
theorem dX8_told_96 : decode cX8_told 96 = .ok (.irem, 1) := by decide +kernel
theorem dX8_told_97 : decode cX8_told 97 = .ok (.iload_n 2, 1) := by decide +kernel
theorem dX8_told_98 : decode cX8_told 98 = .ok (.bipush 10, 2) := by decide +kernel
theorem dX8_told_100 : decode cX8_told 100 = .ok (.idiv, 1) := by decide +kernel
theorem dX8_told_101 : decode cX8_told 101 = .ok (.invokevirtual 128, 3) := by decide +kernel
theorem dX8_told_104 : decode cX8_told 104 = .ok (.ireturn, 1) := by decide +kernel
theorem dX8_toldOfGap_0 : decode cX8_toldOfGap 0 = .ok (.aload_n 0, 1) := by decide +kernel
theorem dX8_toldOfGap_1 : decode cX8_toldOfGap 1 = .ok (.getfield 51, 3) := by decide +kernel
theorem dX8_toldOfGap_4 : decode cX8_toldOfGap 4 = .ok (.getfield 99, 3) := by decide +kernel
theorem dX8_toldOfGap_7 : decode cX8_toldOfGap 7 = .ok (.iload_n 1, 1) := by decide +kernel
theorem dX8_toldOfGap_8 : decode cX8_toldOfGap 8 = .ok (.aaload, 1) := by decide +kernel
theorem dX8_toldOfGap_9 : decode cX8_toldOfGap 9 = .ok (.astore 4, 2) := by decide +kernel
theorem dX8_toldOfGap_11 : decode cX8_toldOfGap 11 = .ok (.iload_n 3, 1) := by decide +kernel
theorem dX8_toldOfGap_12 : decode cX8_toldOfGap 12 = .ok (.iconst 1, 1) := by decide +kernel
theorem dX8_toldOfGap_13 : decode cX8_toldOfGap 13 = .ok (.if_icmp .eq 14, 3) := by decide +kernel
theorem dX8_toldOfGap_16 : decode cX8_toldOfGap 16 = .ok (.aload 4, 2) := by decide +kernel
theorem dX8_toldOfGap_18 : decode cX8_toldOfGap 18 = .ok (.getfield 132, 3) := by decide +kernel
theorem dX8_toldOfGap_21 : decode cX8_toldOfGap 21 = .ok (.iload_n 2, 1) := by decide +kernel
theorem dX8_toldOfGap_22 : decode cX8_toldOfGap 22 = .ok (.iaload, 1) := by decide +kernel
theorem dX8_toldOfGap_23 : decode cX8_toldOfGap 23 = .ok (.iconst (-1), 1) := by decide +kernel
theorem dX8_toldOfGap_24 : decode cX8_toldOfGap 24 = .ok (.if_icmp .ne 11, 3) := by decide +kernel
theorem dX8_toldOfGap_27 : decode cX8_toldOfGap 27 = .ok (.aload 4, 2) := by decide +kernel
theorem dX8_toldOfGap_29 : decode cX8_toldOfGap 29 = .ok (.getfield 132, 3) := by decide +kernel
theorem dX8_toldOfGap_32 : decode cX8_toldOfGap 32 = .ok (.iload_n 2, 1) := by decide +kernel
theorem dX8_toldOfGap_33 : decode cX8_toldOfGap 33 = .ok (.iaload, 1) := by decide +kernel
theorem dX8_toldOfGap_34 : decode cX8_toldOfGap 34 = .ok (.ireturn, 1) := by decide +kernel
theorem dX8_toldOfGap_35 : decode cX8_toldOfGap 35 = .ok (.iload_n 3, 1) := by decide +kernel
theorem dX8_toldOfGap_36 : decode cX8_toldOfGap 36 = .ok (.iconst 2, 1) := by decide +kernel
theorem dX8_toldOfGap_37 : decode cX8_toldOfGap 37 = .ok (.if_icmp .ne 11, 3) := by decide +kernel
theorem dX8_toldOfGap_40 : decode cX8_toldOfGap 40 = .ok (.aload 4, 2) := by decide +kernel
theorem dX8_toldOfGap_42 : decode cX8_toldOfGap 42 = .ok (.getfield 136, 3) := by decide +kernel
theorem dX8_toldOfGap_45 : decode cX8_toldOfGap 45 = .ok (.iload_n 2, 1) := by decide +kernel
theorem dX8_toldOfGap_46 : decode cX8_toldOfGap 46 = .ok (.iaload, 1) := by decide +kernel
theorem dX8_toldOfGap_47 : decode cX8_toldOfGap 47 = .ok (.ireturn, 1) := by decide +kernel
theorem dX8_toldOfGap_48 : decode cX8_toldOfGap 48 = .ok (.aload_n 0, 1) := by decide +kernel
theorem dX8_toldOfGap_49 : decode cX8_toldOfGap 49 = .ok (.getfield 42, 3) := by decide +kernel
theorem dX8_toldOfGap_52 : decode cX8_toldOfGap 52 = .ok (.aload_n 0, 1) := by decide +kernel
theorem dX8_toldOfGap_53 : decode cX8_toldOfGap 53 = .ok (.getfield 51, 3) := by decide +kernel
theorem dX8_toldOfGap_56 : decode cX8_toldOfGap 56 = .ok (.iload_n 1, 1) := by decide +kernel
theorem dX8_toldOfGap_57 : decode cX8_toldOfGap 57 = .ok (.iload_n 2, 1) := by decide +kernel
theorem dX8_toldOfGap_58 : decode cX8_toldOfGap 58 = .ok (.invokevirtual 139, 3) := by decide +kernel
theorem dX8_toldOfGap_61 : decode cX8_toldOfGap 61 = .ok (.aload_n 0, 1) := by decide +kernel
theorem dX8_toldOfGap_62 : decode cX8_toldOfGap 62 = .ok (.getfield 42, 3) := by decide +kernel
theorem dX8_toldOfGap_65 : decode cX8_toldOfGap 65 = .ok (.aload 4, 2) := by decide +kernel
theorem dX8_toldOfGap_67 : decode cX8_toldOfGap 67 = .ok (.getfield 136, 3) := by decide +kernel
theorem dX8_toldOfGap_70 : decode cX8_toldOfGap 70 = .ok (.iload_n 2, 1) := by decide +kernel
theorem dX8_toldOfGap_71 : decode cX8_toldOfGap 71 = .ok (.iaload, 1) := by decide +kernel
theorem dX8_toldOfGap_72 : decode cX8_toldOfGap 72 = .ok (.aload_n 0, 1) := by decide +kernel
theorem dX8_toldOfGap_73 : decode cX8_toldOfGap 73 = .ok (.getfield 51, 3) := by decide +kernel
theorem dX8_toldOfGap_76 : decode cX8_toldOfGap 76 = .ok (.getfield 108, 3) := by decide +kernel
theorem dX8_toldOfGap_79 : decode cX8_toldOfGap 79 = .ok (.invokevirtual 143, 3) := by decide +kernel
theorem dX8_toldOfGap_82 : decode cX8_toldOfGap 82 = .ok (.ireturn, 1) := by decide +kernel
theorem dX8_fill_0 : decode cX8_fill 0 = .ok (.aload_n 0, 1) := by decide +kernel
theorem dX8_fill_1 : decode cX8_fill 1 = .ok (.iload_n 1, 1) := by decide +kernel
theorem dX8_fill_2 : decode cX8_fill 2 = .ok (.invokevirtual 91, 3) := by decide +kernel
theorem dX8_fill_5 : decode cX8_fill 5 = .ok (.ifCond .eq 12, 3) := by decide +kernel
theorem dX8_fill_8 : decode cX8_fill 8 = .ok (.iload_n 2, 1) := by decide +kernel
theorem dX8_fill_9 : decode cX8_fill 9 = .ok (.bipush 10, 2) := by decide +kernel
theorem dX8_fill_11 : decode cX8_fill 11 = .ok (.invokestatic 95, 3) := by decide +kernel
theorem dX8_fill_14 : decode cX8_fill 14 = .ok (.ifCond .ne 6, 3) := by decide +kernel
theorem dX8_fill_17 : decode cX8_fill 17 = .ok (.bipush (-2), 2) := by decide +kernel
theorem dX8_fill_19 : decode cX8_fill 19 = .ok (.ireturn, 1) := by decide +kernel
theorem dX8_fill_20 : decode cX8_fill 20 = .ok (.iload_n 3, 1) := by decide +kernel
theorem dX8_fill_21 : decode cX8_fill 21 = .ok (.iconst (-1), 1) := by decide +kernel
theorem dX8_fill_22 : decode cX8_fill 22 = .ok (.if_icmp .eq 15, 3) := by decide +kernel
theorem dX8_fill_25 : decode cX8_fill 25 = .ok (.iload_n 3, 1) := by decide +kernel
theorem dX8_fill_26 : decode cX8_fill 26 = .ok (.bipush 16, 2) := by decide +kernel
theorem dX8_fill_28 : decode cX8_fill 28 = .ok (.invokestatic 95, 3) := by decide +kernel
theorem dX8_fill_31 : decode cX8_fill 31 = .ok (.ifCond .ne 6, 3) := by decide +kernel
theorem dX8_fill_34 : decode cX8_fill 34 = .ok (.bipush (-2), 2) := by decide +kernel
theorem dX8_fill_36 : decode cX8_fill 36 = .ok (.ireturn, 1) := by decide +kernel
theorem dX8_fill_37 : decode cX8_fill 37 = .ok (.iload 4, 2) := by decide +kernel
theorem dX8_fill_39 : decode cX8_fill 39 = .ok (.ifCond .lt 11, 3) := by decide +kernel
theorem dX8_fill_42 : decode cX8_fill 42 = .ok (.iload 4, 2) := by decide +kernel
theorem dX8_fill_44 : decode cX8_fill 44 = .ok (.sipush 999, 3) := by decide +kernel
theorem dX8_fill_47 : decode cX8_fill 47 = .ok (.if_icmp .le 6, 3) := by decide +kernel
theorem dX8_fill_50 : decode cX8_fill 50 = .ok (.bipush (-2), 2) := by decide +kernel
theorem dX8_fill_52 : decode cX8_fill 52 = .ok (.ireturn, 1) := by decide +kernel
theorem dX8_fill_53 : decode cX8_fill 53 = .ok (.aload_n 0, 1) := by decide +kernel
theorem dX8_fill_54 : decode cX8_fill 54 = .ok (.getfield 51, 3) := by decide +kernel
theorem dX8_fill_57 : decode cX8_fill 57 = .ok (.getfield 99, 3) := by decide +kernel
theorem dX8_fill_60 : decode cX8_fill 60 = .ok (.iload_n 1, 1) := by decide +kernel
theorem dX8_fill_61 : decode cX8_fill 61 = .ok (.aaload, 1) := by decide +kernel
theorem dX8_fill_62 : decode cX8_fill 62 = .ok (.astore 5, 2) := by decide +kernel
theorem dX8_fill_64 : decode cX8_fill 64 = .ok (.aload 5, 2) := by decide +kernel
theorem dX8_fill_66 : decode cX8_fill 66 = .ok (.getfield 132, 3) := by decide +kernel
theorem dX8_fill_69 : decode cX8_fill 69 = .ok (.iload_n 2, 1) := by decide +kernel
theorem dX8_fill_70 : decode cX8_fill 70 = .ok (.iaload, 1) := by decide +kernel
theorem dX8_fill_71 : decode cX8_fill 71 = .ok (.istore 6, 2) := by decide +kernel
theorem dX8_fill_73 : decode cX8_fill 73 = .ok (.aload 5, 2) := by decide +kernel
theorem dX8_fill_75 : decode cX8_fill 75 = .ok (.getfield 132, 3) := by decide +kernel
theorem dX8_fill_78 : decode cX8_fill 78 = .ok (.iload_n 2, 1) := by decide +kernel
theorem dX8_fill_79 : decode cX8_fill 79 = .ok (.iload_n 3, 1) := by decide +kernel
theorem dX8_fill_80 : decode cX8_fill 80 = .ok (.iastore, 1) := by decide +kernel
theorem dX8_fill_81 : decode cX8_fill 81 = .ok (.aload 5, 2) := by decide +kernel
theorem dX8_fill_83 : decode cX8_fill 83 = .ok (.getfield 136, 3) := by decide +kernel
theorem dX8_fill_86 : decode cX8_fill 86 = .ok (.iload_n 2, 1) := by decide +kernel
theorem dX8_fill_87 : decode cX8_fill 87 = .ok (.iload 4, 2) := by decide +kernel
theorem dX8_fill_89 : decode cX8_fill 89 = .ok (.iastore, 1) := by decide +kernel
theorem dX8_fill_90 : decode cX8_fill 90 = .ok (.iload 6, 2) := by decide +kernel
theorem dX8_fill_92 : decode cX8_fill 92 = .ok (.ireturn, 1) := by decide +kernel
theorem dX8_feed_0 : decode cX8_feed 0 = .ok (.iload_n 1, 1) := by decide +kernel
theorem dX8_feed_1 : decode cX8_feed 1 = .ok (.sipush 256, 3) := by decide +kernel
theorem dX8_feed_4 : decode cX8_feed 4 = .ok (.invokestatic 95, 3) := by decide +kernel
theorem dX8_feed_7 : decode cX8_feed 7 = .ok (.ifCond .ne 6, 3) := by decide +kernel
theorem dX8_feed_10 : decode cX8_feed 10 = .ok (.bipush (-2), 2) := by decide +kernel
theorem dX8_feed_12 : decode cX8_feed 12 = .ok (.ireturn, 1) := by decide +kernel
theorem dX8_feed_13 : decode cX8_feed 13 = .ok (.aload_n 0, 1) := by decide +kernel
theorem dX8_feed_14 : decode cX8_feed 14 = .ok (.getfield 35, 3) := by decide +kernel
theorem dX8_feed_17 : decode cX8_feed 17 = .ok (.getfield 146, 3) := by decide +kernel
theorem dX8_feed_20 : decode cX8_feed 20 = .ok (.sipush 160, 3) := by decide +kernel
theorem dX8_feed_23 : decode cX8_feed 23 = .ok (.if_icmp .lt 6, 3) := by decide +kernel
theorem dX8_feed_26 : decode cX8_feed 26 = .ok (.bipush (-4), 2) := by decide +kernel
theorem dX8_feed_28 : decode cX8_feed 28 = .ok (.ireturn, 1) := by decide +kernel
theorem dX8_feed_29 : decode cX8_feed 29 = .ok (.aload_n 0, 1) := by decide +kernel
theorem dX8_feed_30 : decode cX8_feed 30 = .ok (.getfield 35, 3) := by decide +kernel
theorem dX8_feed_33 : decode cX8_feed 33 = .ok (.iload_n 1, 1) := by decide +kernel
theorem dX8_feed_34 : decode cX8_feed 34 = .ok (.invokevirtual 73, 3) := by decide +kernel
theorem dX8_feed_37 : decode cX8_feed 37 = .ok (.ireturn, 1) := by decide +kernel
theorem dX8_text_0 : decode cX8_text 0 = .ok (.aload_n 0, 1) := by decide +kernel
theorem dX8_text_1 : decode cX8_text 1 = .ok (.getfield 81, 3) := by decide +kernel
theorem dX8_text_4 : decode cX8_text 4 = .ok (.bipush 6, 2) := by decide +kernel
theorem dX8_text_6 : decode cX8_text 6 = .ok (.if_icmp .lt 6, 3) := by decide +kernel
theorem dX8_text_9 : decode cX8_text 9 = .ok (.bipush (-4), 2) := by decide +kernel
theorem dX8_text_11 : decode cX8_text 11 = .ok (.ireturn, 1) := by decide +kernel
theorem dX8_text_12 : decode cX8_text 12 = .ok (.aload_n 0, 1) := by decide +kernel
theorem dX8_text_13 : decode cX8_text 13 = .ok (.getfield 35, 3) := by decide +kernel
theorem dX8_text_16 : decode cX8_text 16 = .ok (.aload_n 0, 1) := by decide +kernel
theorem dX8_text_17 : decode cX8_text 17 = .ok (.getfield 11, 3) := by decide +kernel
theorem dX8_text_20 : decode cX8_text 20 = .ok (.aload_n 0, 1) := by decide +kernel
theorem dX8_text_21 : decode cX8_text 21 = .ok (.getfield 81, 3) := by decide +kernel
theorem dX8_text_24 : decode cX8_text 24 = .ok (.aaload, 1) := by decide +kernel
theorem dX8_text_25 : decode cX8_text 25 = .ok (.invokevirtual 77, 3) := by decide +kernel
theorem dX8_text_28 : decode cX8_text 28 = .ok (.istore_n 1, 1) := by decide +kernel
theorem dX8_text_29 : decode cX8_text 29 = .ok (.iload_n 1, 1) := by decide +kernel
theorem dX8_text_30 : decode cX8_text 30 = .ok (.iconst (-1), 1) := by decide +kernel
theorem dX8_text_31 : decode cX8_text 31 = .ok (.if_icmp .eq 8, 3) := by decide +kernel
theorem dX8_text_34 : decode cX8_text 34 = .ok (.bipush (-100), 2) := by decide +kernel
theorem dX8_text_36 : decode cX8_text 36 = .ok (.iload_n 1, 1) := by decide +kernel
theorem dX8_text_37 : decode cX8_text 37 = .ok (.isub, 1) := by decide +kernel
theorem dX8_text_38 : decode cX8_text 38 = .ok (.ireturn, 1) := by decide +kernel
theorem dX8_text_39 : decode cX8_text 39 = .ok (.aload_n 0, 1) := by decide +kernel
theorem dX8_text_40 : decode cX8_text 40 = .ok (.dup, 1) := by decide +kernel
theorem dX8_text_41 : decode cX8_text 41 = .ok (.getfield 81, 3) := by decide +kernel
theorem dX8_text_44 : decode cX8_text 44 = .ok (.iconst 1, 1) := by decide +kernel
theorem dX8_text_45 : decode cX8_text 45 = .ok (.iadd, 1) := by decide +kernel
theorem dX8_text_46 : decode cX8_text 46 = .ok (.putfield 81, 3) := by decide +kernel
theorem dX8_text_49 : decode cX8_text 49 = .ok (.aload_n 0, 1) := by decide +kernel
theorem dX8_text_50 : decode cX8_text 50 = .ok (.getfield 81, 3) := by decide +kernel
theorem dX8_text_53 : decode cX8_text 53 = .ok (.iconst 1, 1) := by decide +kernel
theorem dX8_text_54 : decode cX8_text 54 = .ok (.isub, 1) := by decide +kernel
theorem dX8_text_55 : decode cX8_text 55 = .ok (.ireturn, 1) := by decide +kernel
theorem dX8_force_0 : decode cX8_force 0 = .ok (.iload_n 1, 1) := by decide +kernel
theorem dX8_force_1 : decode cX8_force 1 = .ok (.aload_n 0, 1) := by decide +kernel
theorem dX8_force_2 : decode cX8_force 2 = .ok (.getfield 81, 3) := by decide +kernel
theorem dX8_force_5 : decode cX8_force 5 = .ok (.invokestatic 95, 3) := by decide +kernel
theorem dX8_force_8 : decode cX8_force 8 = .ok (.ifCond .ne 6, 3) := by decide +kernel
theorem dX8_force_11 : decode cX8_force 11 = .ok (.bipush (-2), 2) := by decide +kernel
theorem dX8_force_13 : decode cX8_force 13 = .ok (.ireturn, 1) := by decide +kernel
theorem dX8_force_14 : decode cX8_force 14 = .ok (.aload_n 0, 1) := by decide +kernel
theorem dX8_force_15 : decode cX8_force 15 = .ok (.getfield 51, 3) := by decide +kernel
theorem dX8_force_18 : decode cX8_force 18 = .ok (.getfield 147, 3) := by decide +kernel
theorem dX8_force_21 : decode cX8_force 21 = .ok (.istore_n 2, 1) := by decide +kernel
theorem dX8_force_22 : decode cX8_force 22 = .ok (.aload_n 0, 1) := by decide +kernel
theorem dX8_force_23 : decode cX8_force 23 = .ok (.getfield 51, 3) := by decide +kernel
theorem dX8_force_26 : decode cX8_force 26 = .ok (.iload_n 1, 1) := by decide +kernel
theorem dX8_force_27 : decode cX8_force 27 = .ok (.putfield 147, 3) := by decide +kernel
theorem dX8_force_30 : decode cX8_force 30 = .ok (.iload_n 2, 1) := by decide +kernel
theorem dX8_force_31 : decode cX8_force 31 = .ok (.ireturn, 1) := by decide +kernel
theorem dX8_say_0 : decode cX8_say 0 = .ok (.aload_n 0, 1) := by decide +kernel
theorem dX8_say_1 : decode cX8_say 1 = .ok (.iload_n 1, 1) := by decide +kernel
theorem dX8_say_2 : decode cX8_say 2 = .ok (.invokevirtual 91, 3) := by decide +kernel
theorem dX8_say_5 : decode cX8_say 5 = .ok (.ifCond .eq 21, 3) := by decide +kernel
theorem dX8_say_8 : decode cX8_say 8 = .ok (.iload_n 2, 1) := by decide +kernel
theorem dX8_say_9 : decode cX8_say 9 = .ok (.bipush 16, 2) := by decide +kernel
theorem dX8_say_11 : decode cX8_say 11 = .ok (.invokestatic 95, 3) := by decide +kernel
theorem dX8_say_14 : decode cX8_say 14 = .ok (.ifCond .eq 12, 3) := by decide +kernel
theorem dX8_say_17 : decode cX8_say 17 = .ok (.iload_n 3, 1) := by decide +kernel
theorem dX8_say_18 : decode cX8_say 18 = .ok (.bipush 10, 2) := by decide +kernel
theorem dX8_say_20 : decode cX8_say 20 = .ok (.invokestatic 95, 3) := by decide +kernel
theorem dX8_say_23 : decode cX8_say 23 = .ok (.ifCond .ne 6, 3) := by decide +kernel
theorem dX8_say_26 : decode cX8_say 26 = .ok (.bipush (-2), 2) := by decide +kernel
theorem dX8_say_28 : decode cX8_say 28 = .ok (.ireturn, 1) := by decide +kernel
theorem dX8_say_29 : decode cX8_say 29 = .ok (.aload_n 0, 1) := by decide +kernel
theorem dX8_say_30 : decode cX8_say 30 = .ok (.getfield 51, 3) := by decide +kernel
theorem dX8_say_33 : decode cX8_say 33 = .ok (.iload_n 1, 1) := by decide +kernel
theorem dX8_say_34 : decode cX8_say 34 = .ok (.iload_n 2, 1) := by decide +kernel
theorem dX8_say_35 : decode cX8_say 35 = .ok (.iload_n 3, 1) := by decide +kernel
theorem dX8_say_36 : decode cX8_say 36 = .ok (.invokevirtual 150, 3) := by decide +kernel
theorem dX8_say_39 : decode cX8_say 39 = .ok (.ireturn, 1) := by decide +kernel
theorem dX8_floss_0 : decode cX8_floss 0 = .ok (.aload_n 0, 1) := by decide +kernel
theorem dX8_floss_1 : decode cX8_floss 1 = .ok (.iload_n 1, 1) := by decide +kernel
theorem dX8_floss_2 : decode cX8_floss 2 = .ok (.invokevirtual 91, 3) := by decide +kernel
theorem dX8_floss_5 : decode cX8_floss 5 = .ok (.ifCond .eq 12, 3) := by decide +kernel
theorem dX8_floss_8 : decode cX8_floss 8 = .ok (.iload_n 2, 1) := by decide +kernel
theorem dX8_floss_9 : decode cX8_floss 9 = .ok (.bipush 10, 2) := by decide +kernel
theorem dX8_floss_11 : decode cX8_floss 11 = .ok (.invokestatic 95, 3) := by decide +kernel
theorem dX8_floss_14 : decode cX8_floss 14 = .ok (.ifCond .ne 6, 3) := by decide +kernel
theorem dX8_floss_17 : decode cX8_floss 17 = .ok (.bipush (-2), 2) := by decide +kernel
theorem dX8_floss_19 : decode cX8_floss 19 = .ok (.ireturn, 1) := by decide +kernel
theorem dX8_floss_20 : decode cX8_floss 20 = .ok (.aload_n 0, 1) := by decide +kernel
theorem dX8_floss_21 : decode cX8_floss 21 = .ok (.getfield 51, 3) := by decide +kernel
theorem dX8_floss_24 : decode cX8_floss 24 = .ok (.getfield 99, 3) := by decide +kernel
theorem dX8_floss_27 : decode cX8_floss 27 = .ok (.iload_n 1, 1) := by decide +kernel
theorem dX8_floss_28 : decode cX8_floss 28 = .ok (.aaload, 1) := by decide +kernel
theorem dX8_floss_29 : decode cX8_floss 29 = .ok (.iload_n 2, 1) := by decide +kernel
theorem dX8_floss_30 : decode cX8_floss 30 = .ok (.invokevirtual 153, 3) := by decide +kernel
theorem dX8_floss_33 : decode cX8_floss 33 = .ok (.ireturn, 1) := by decide +kernel
theorem dX8_kiss_0 : decode cX8_kiss 0 = .ok (.aload_n 0, 1) := by decide +kernel
theorem dX8_kiss_1 : decode cX8_kiss 1 = .ok (.iload_n 1, 1) := by decide +kernel
theorem dX8_kiss_2 : decode cX8_kiss 2 = .ok (.invokevirtual 91, 3) := by decide +kernel
theorem dX8_kiss_5 : decode cX8_kiss 5 = .ok (.ifCond .eq 16, 3) := by decide +kernel
theorem dX8_kiss_8 : decode cX8_kiss 8 = .ok (.aload_n 0, 1) := by decide +kernel
theorem dX8_kiss_9 : decode cX8_kiss 9 = .ok (.iload_n 2, 1) := by decide +kernel
theorem dX8_kiss_10 : decode cX8_kiss 10 = .ok (.invokevirtual 91, 3) := by decide +kernel
theorem dX8_kiss_13 : decode cX8_kiss 13 = .ok (.ifCond .eq 8, 3) := by decide +kernel
theorem dX8_kiss_16 : decode cX8_kiss 16 = .ok (.iload_n 1, 1) := by decide +kernel
theorem dX8_kiss_17 : decode cX8_kiss 17 = .ok (.iload_n 2, 1) := by decide +kernel
theorem dX8_kiss_18 : decode cX8_kiss 18 = .ok (.if_icmp .ne 6, 3) := by decide +kernel
theorem dX8_kiss_21 : decode cX8_kiss 21 = .ok (.bipush (-2), 2) := by decide +kernel
theorem dX8_kiss_23 : decode cX8_kiss 23 = .ok (.ireturn, 1) := by decide +kernel
theorem dX8_kiss_24 : decode cX8_kiss 24 = .ok (.aload_n 0, 1) := by decide +kernel
theorem dX8_kiss_25 : decode cX8_kiss 25 = .ok (.getfield 51, 3) := by decide +kernel
theorem dX8_kiss_28 : decode cX8_kiss 28 = .ok (.iload_n 1, 1) := by decide +kernel
theorem dX8_kiss_29 : decode cX8_kiss 29 = .ok (.iload_n 2, 1) := by decide +kernel
theorem dX8_kiss_30 : decode cX8_kiss 30 = .ok (.invokevirtual 156, 3) := by decide +kernel
theorem dX8_kiss_33 : decode cX8_kiss 33 = .ok (.ireturn, 1) := by decide +kernel
theorem dX8_live_0 : decode cX8_live 0 = .ok (.aload_n 0, 1) := by decide +kernel
theorem dX8_live_1 : decode cX8_live 1 = .ok (.getfield 51, 3) := by decide +kernel
theorem dX8_live_4 : decode cX8_live 4 = .ok (.getfield 108, 3) := by decide +kernel
theorem dX8_live_7 : decode cX8_live 7 = .ok (.sipush 999, 3) := by decide +kernel
theorem dX8_live_10 : decode cX8_live 10 = .ok (.if_icmp .lt 6, 3) := by decide +kernel
theorem dX8_live_13 : decode cX8_live 13 = .ok (.bipush (-3), 2) := by decide +kernel
theorem dX8_live_15 : decode cX8_live 15 = .ok (.ireturn, 1) := by decide +kernel
theorem dX8_live_16 : decode cX8_live 16 = .ok (.aload_n 0, 1) := by decide +kernel
theorem dX8_live_17 : decode cX8_live 17 = .ok (.getfield 51, 3) := by decide +kernel
theorem dX8_live_20 : decode cX8_live 20 = .ok (.aload_n 0, 1) := by decide +kernel
theorem dX8_live_21 : decode cX8_live 21 = .ok (.getfield 42, 3) := by decide +kernel
theorem dX8_live_24 : decode cX8_live 24 = .ok (.invokevirtual 159, 3) := by decide +kernel
theorem dX8_live_27 : decode cX8_live 27 = .ok (.ireturn, 1) := by decide +kernel
theorem dX8_run_0 : decode cX8_run 0 = .ok (.iload_n 1, 1) := by decide +kernel
theorem dX8_run_1 : decode cX8_run 1 = .ok (.invokestatic 163, 3) := by decide +kernel
theorem dX8_run_4 : decode cX8_run 4 = .ok (.ifCond .eq 11, 3) := by decide +kernel
theorem dX8_run_7 : decode cX8_run 7 = .ok (.iload_n 2, 1) := by decide +kernel
theorem dX8_run_8 : decode cX8_run 8 = .ok (.iconst 5, 1) := by decide +kernel
theorem dX8_run_9 : decode cX8_run 9 = .ok (.invokestatic 95, 3) := by decide +kernel
theorem dX8_run_12 : decode cX8_run 12 = .ok (.ifCond .ne 6, 3) := by decide +kernel
theorem dX8_run_15 : decode cX8_run 15 = .ok (.bipush (-2), 2) := by decide +kernel
theorem dX8_run_17 : decode cX8_run 17 = .ok (.ireturn, 1) := by decide +kernel
theorem dX8_run_18 : decode cX8_run 18 = .ok (.aload_n 0, 1) := by decide +kernel
theorem dX8_run_19 : decode cX8_run 19 = .ok (.getfield 24, 3) := by decide +kernel
theorem dX8_run_22 : decode cX8_run 22 = .ok (.aload_n 0, 1) := by decide +kernel
theorem dX8_run_23 : decode cX8_run 23 = .ok (.getfield 51, 3) := by decide +kernel
theorem dX8_run_26 : decode cX8_run 26 = .ok (.aload_n 0, 1) := by decide +kernel
theorem dX8_run_27 : decode cX8_run 27 = .ok (.getfield 42, 3) := by decide +kernel
theorem dX8_run_30 : decode cX8_run 30 = .ok (.iload_n 1, 1) := by decide +kernel
theorem dX8_run_31 : decode cX8_run 31 = .ok (.invokevirtual 166, 3) := by decide +kernel
theorem dX8_run_34 : decode cX8_run 34 = .ok (.iload_n 2, 1) := by decide +kernel
theorem dX8_run_35 : decode cX8_run 35 = .ok (.ifCond .ne 11, 3) := by decide +kernel
theorem dX8_run_38 : decode cX8_run 38 = .ok (.aload_n 0, 1) := by decide +kernel
theorem dX8_run_39 : decode cX8_run 39 = .ok (.getfield 24, 3) := by decide +kernel
theorem dX8_run_42 : decode cX8_run 42 = .ok (.getfield 169, 3) := by decide +kernel
theorem dX8_run_45 : decode cX8_run 45 = .ok (.ireturn, 1) := by decide +kernel
theorem dX8_run_46 : decode cX8_run 46 = .ok (.iload_n 2, 1) := by decide +kernel
theorem dX8_run_47 : decode cX8_run 47 = .ok (.iconst 1, 1) := by decide +kernel
theorem dX8_run_48 : decode cX8_run 48 = .ok (.if_icmp .ne 11, 3) := by decide +kernel
theorem dX8_run_51 : decode cX8_run 51 = .ok (.aload_n 0, 1) := by decide +kernel
theorem dX8_run_52 : decode cX8_run 52 = .ok (.getfield 24, 3) := by decide +kernel
theorem dX8_run_55 : decode cX8_run 55 = .ok (.getfield 172, 3) := by decide +kernel
theorem dX8_run_58 : decode cX8_run 58 = .ok (.ireturn, 1) := by decide +kernel
theorem dX8_run_59 : decode cX8_run 59 = .ok (.aload_n 0, 1) := by decide +kernel
theorem dX8_run_60 : decode cX8_run 60 = .ok (.getfield 24, 3) := by decide +kernel
theorem dX8_run_63 : decode cX8_run 63 = .ok (.getfield 175, 3) := by decide +kernel
theorem dX8_run_66 : decode cX8_run 66 = .ok (.istore_n 3, 1) := by decide +kernel
theorem dX8_run_67 : decode cX8_run 67 = .ok (.iload_n 3, 1) := by decide +kernel
theorem dX8_run_68 : decode cX8_run 68 = .ok (.bipush 50, 2) := by decide +kernel
theorem dX8_run_70 : decode cX8_run 70 = .ok (.invokestatic 95, 3) := by decide +kernel
theorem dX8_run_73 : decode cX8_run 73 = .ok (.ifCond .ne 5, 3) := by decide +kernel
theorem dX8_run_76 : decode cX8_run 76 = .ok (.iconst (-1), 1) := by decide +kernel
theorem dX8_run_77 : decode cX8_run 77 = .ok (.ireturn, 1) := by decide +kernel
theorem dX8_run_78 : decode cX8_run 78 = .ok (.iload_n 2, 1) := by decide +kernel
theorem dX8_run_79 : decode cX8_run 79 = .ok (.iconst 2, 1) := by decide +kernel
theorem dX8_run_80 : decode cX8_run 80 = .ok (.if_icmp .ne 24, 3) := by decide +kernel
theorem dX8_run_83 : decode cX8_run 83 = .ok (.aload_n 0, 1) := by decide +kernel
theorem dX8_run_84 : decode cX8_run 84 = .ok (.getfield 51, 3) := by decide +kernel
theorem dX8_run_87 : decode cX8_run 87 = .ok (.getfield 99, 3) := by decide +kernel
theorem dX8_run_90 : decode cX8_run 90 = .ok (.iload_n 3, 1) := by decide +kernel
theorem dX8_run_91 : decode cX8_run 91 = .ok (.bipush 10, 2) := by decide +kernel
theorem dX8_run_93 : decode cX8_run 93 = .ok (.idiv, 1) := by decide +kernel
theorem dX8_run_94 : decode cX8_run 94 = .ok (.aaload, 1) := by decide +kernel
theorem dX8_run_95 : decode cX8_run 95 = .ok (.getfield 132, 3) := by decide +kernel
theorem dX8_run_98 : decode cX8_run 98 = .ok (.iload_n 3, 1) := by decide +kernel
theorem dX8_run_99 : decode cX8_run 99 = .ok (.bipush 10, 2) := by decide +kernel
theorem dX8_run_101 : decode cX8_run 101 = .ok (.irem, 1) := by decide +kernel
theorem dX8_run_102 : decode cX8_run 102 = .ok (.iaload, 1) := by decide +kernel
theorem dX8_run_103 : decode cX8_run 103 = .ok (.ireturn, 1) := by decide +kernel
theorem dX8_run_104 : decode cX8_run 104 = .ok (.iload_n 2, 1) := by decide +kernel
theorem dX8_run_105 : decode cX8_run 105 = .ok (.iconst 3, 1) := by decide +kernel
theorem dX8_run_106 : decode cX8_run 106 = .ok (.if_icmp .ne 10, 3) := by decide +kernel
theorem dX8_run_109 : decode cX8_run 109 = .ok (.iload_n 3, 1) := by decide +kernel
theorem dX8_run_110 : decode cX8_run 110 = .ok (.bipush 10, 2) := by decide +kernel
theorem dX8_run_112 : decode cX8_run 112 = .ok (.idiv, 1) := by decide +kernel
theorem dX8_run_113 : decode cX8_run 113 = .ok (.goto 12, 3) := by decide +kernel
theorem dX8_run_116 : decode cX8_run 116 = .ok (.aload_n 0, 1) := by decide +kernel
theorem dX8_run_117 : decode cX8_run 117 = .ok (.getfield 24, 3) := by decide +kernel
theorem dX8_run_120 : decode cX8_run 120 = .ok (.getfield 178, 3) := by decide +kernel
theorem dX8_run_123 : decode cX8_run 123 = .ok (.iload_n 3, 1) := by decide +kernel
theorem dX8_run_124 : decode cX8_run 124 = .ok (.iaload, 1) := by decide +kernel
theorem dX8_run_125 : decode cX8_run 125 = .ok (.ireturn, 1) := by decide +kernel
theorem dX8_off_0 : decode cX8_off 0 = .ok (.aload_n 0, 1) := by decide +kernel
theorem dX8_off_1 : decode cX8_off 1 = .ok (.iload_n 1, 1) := by decide +kernel
theorem dX8_off_2 : decode cX8_off 2 = .ok (.invokevirtual 91, 3) := by decide +kernel
theorem dX8_off_5 : decode cX8_off 5 = .ok (.ifCond .eq 19, 3) := by decide +kernel
theorem dX8_off_8 : decode cX8_off 8 = .ok (.iload_n 2, 1) := by decide +kernel
theorem dX8_off_9 : decode cX8_off 9 = .ok (.bipush 10, 2) := by decide +kernel
theorem dX8_off_11 : decode cX8_off 11 = .ok (.invokestatic 95, 3) := by decide +kernel
theorem dX8_off_14 : decode cX8_off 14 = .ok (.ifCond .eq 10, 3) := by decide +kernel
theorem dX8_off_17 : decode cX8_off 17 = .ok (.iload_n 3, 1) := by decide +kernel
theorem dX8_off_18 : decode cX8_off 18 = .ok (.invokestatic 163, 3) := by decide +kernel
theorem dX8_off_21 : decode cX8_off 21 = .ok (.ifCond .ne 6, 3) := by decide +kernel
theorem dX8_off_24 : decode cX8_off 24 = .ok (.bipush (-2), 2) := by decide +kernel
theorem dX8_off_26 : decode cX8_off 26 = .ok (.ireturn, 1) := by decide +kernel
theorem dX8_off_27 : decode cX8_off 27 = .ok (.aload_n 0, 1) := by decide +kernel
theorem dX8_off_28 : decode cX8_off 28 = .ok (.getfield 42, 3) := by decide +kernel
theorem dX8_off_31 : decode cX8_off 31 = .ok (.aload_n 0, 1) := by decide +kernel
theorem dX8_off_32 : decode cX8_off 32 = .ok (.getfield 51, 3) := by decide +kernel
theorem dX8_off_35 : decode cX8_off 35 = .ok (.iload_n 1, 1) := by decide +kernel
theorem dX8_off_36 : decode cX8_off 36 = .ok (.iload_n 2, 1) := by decide +kernel
theorem dX8_off_37 : decode cX8_off 37 = .ok (.invokevirtual 139, 3) := by decide +kernel
theorem dX8_off_40 : decode cX8_off 40 = .ok (.aload_n 0, 1) := by decide +kernel
theorem dX8_off_41 : decode cX8_off 41 = .ok (.getfield 42, 3) := by decide +kernel
theorem dX8_off_44 : decode cX8_off 44 = .ok (.iload_n 3, 1) := by decide +kernel
theorem dX8_off_45 : decode cX8_off 45 = .ok (.invokevirtual 181, 3) := by decide +kernel
theorem dX8_off_48 : decode cX8_off 48 = .ok (.ireturn, 1) := by decide +kernel
theorem dX8_foods_0 : decode cX8_foods 0 = .ok (.aload_n 0, 1) := by decide +kernel
theorem dX8_foods_1 : decode cX8_foods 1 = .ok (.iload_n 1, 1) := by decide +kernel
theorem dX8_foods_2 : decode cX8_foods 2 = .ok (.invokevirtual 91, 3) := by decide +kernel
theorem dX8_foods_5 : decode cX8_foods 5 = .ok (.ifCond .eq 21, 3) := by decide +kernel
theorem dX8_foods_8 : decode cX8_foods 8 = .ok (.iload_n 2, 1) := by decide +kernel
theorem dX8_foods_9 : decode cX8_foods 9 = .ok (.bipush 16, 2) := by decide +kernel
theorem dX8_foods_11 : decode cX8_foods 11 = .ok (.invokestatic 95, 3) := by decide +kernel
theorem dX8_foods_14 : decode cX8_foods 14 = .ok (.ifCond .eq 12, 3) := by decide +kernel
theorem dX8_foods_17 : decode cX8_foods 17 = .ok (.iload_n 3, 1) := by decide +kernel
theorem dX8_foods_18 : decode cX8_foods 18 = .ok (.bipush 10, 2) := by decide +kernel
theorem dX8_foods_20 : decode cX8_foods 20 = .ok (.invokestatic 95, 3) := by decide +kernel
theorem dX8_foods_23 : decode cX8_foods 23 = .ok (.ifCond .ne 6, 3) := by decide +kernel
theorem dX8_foods_26 : decode cX8_foods 26 = .ok (.bipush (-2), 2) := by decide +kernel
theorem dX8_foods_28 : decode cX8_foods 28 = .ok (.ireturn, 1) := by decide +kernel
theorem dX8_foods_29 : decode cX8_foods 29 = .ok (.aload_n 0, 1) := by decide +kernel
theorem dX8_foods_30 : decode cX8_foods 30 = .ok (.getfield 51, 3) := by decide +kernel
theorem dX8_foods_33 : decode cX8_foods 33 = .ok (.getfield 99, 3) := by decide +kernel
theorem dX8_foods_36 : decode cX8_foods 36 = .ok (.iload_n 1, 1) := by decide +kernel
theorem dX8_foods_37 : decode cX8_foods 37 = .ok (.aaload, 1) := by decide +kernel
theorem dX8_foods_38 : decode cX8_foods 38 = .ok (.getfield 132, 3) := by decide +kernel
theorem dX8_foods_41 : decode cX8_foods 41 = .ok (.iload_n 3, 1) := by decide +kernel
theorem dX8_foods_42 : decode cX8_foods 42 = .ok (.iaload, 1) := by decide +kernel
theorem dX8_foods_43 : decode cX8_foods 43 = .ok (.iconst (-1), 1) := by decide +kernel
theorem dX8_foods_44 : decode cX8_foods 44 = .ok (.if_icmp .eq 5, 3) := by decide +kernel
theorem dX8_foods_47 : decode cX8_foods 47 = .ok (.iconst 0, 1) := by decide +kernel
theorem dX8_foods_48 : decode cX8_foods 48 = .ok (.ireturn, 1) := by decide +kernel
theorem dX8_foods_49 : decode cX8_foods 49 = .ok (.iconst 0, 1) := by decide +kernel
theorem dX8_foods_50 : decode cX8_foods 50 = .ok (.istore 4, 2) := by decide +kernel
theorem dX8_foods_52 : decode cX8_foods 52 = .ok (.iconst 0, 1) := by decide +kernel
theorem dX8_foods_53 : decode cX8_foods 53 = .ok (.istore 5, 2) := by decide +kernel
theorem dX8_foods_55 : decode cX8_foods 55 = .ok (.iload 5, 2) := by decide +kernel
theorem dX8_foods_57 : decode cX8_foods 57 = .ok (.bipush 10, 2) := by decide +kernel
theorem dX8_foods_59 : decode cX8_foods 59 = .ok (.if_icmp .ge 33, 3) := by decide +kernel
theorem dX8_foods_62 : decode cX8_foods 62 = .ok (.aload_n 0, 1) := by decide +kernel
theorem dX8_foods_63 : decode cX8_foods 63 = .ok (.getfield 51, 3) := by decide +kernel
theorem dX8_foods_66 : decode cX8_foods 66 = .ok (.iload_n 1, 1) := by decide +kernel
theorem dX8_foods_67 : decode cX8_foods 67 = .ok (.iload_n 2, 1) := by decide +kernel
theorem dX8_foods_68 : decode cX8_foods 68 = .ok (.iload 5, 2) := by decide +kernel
theorem dX8_foods_70 : decode cX8_foods 70 = .ok (.invokevirtual 184, 3) := by decide +kernel
theorem dX8_foods_73 : decode cX8_foods 73 = .ok (.iload_n 3, 1) := by decide +kernel
theorem dX8_foods_74 : decode cX8_foods 74 = .ok (.if_icmp .ne 12, 3) := by decide +kernel
theorem dX8_foods_77 : decode cX8_foods 77 = .ok (.iload 4, 2) := by decide +kernel
theorem dX8_foods_79 : decode cX8_foods 79 = .ok (.iconst 1, 1) := by decide +kernel
theorem dX8_foods_80 : decode cX8_foods 80 = .ok (.iload 5, 2) := by decide +kernel
theorem dX8_foods_82 : decode cX8_foods 82 = .ok (.ishl, 1) := by decide +kernel
theorem dX8_foods_83 : decode cX8_foods 83 = .ok (.ior, 1) := by decide +kernel
theorem dX8_foods_84 : decode cX8_foods 84 = .ok (.istore 4, 2) := by decide +kernel
theorem dX8_foods_86 : decode cX8_foods 86 = .ok (.iinc 5 1, 3) := by decide +kernel
theorem dX8_foods_89 : decode cX8_foods 89 = .ok (.goto (-34), 3) := by decide +kernel
theorem dX8_foods_92 : decode cX8_foods 92 = .ok (.iload 4, 2) := by decide +kernel
theorem dX8_foods_94 : decode cX8_foods 94 = .ok (.ireturn, 1) := by decide +kernel
theorem dX8_best_0 : decode cX8_best 0 = .ok (.iload_n 1, 1) := by decide +kernel
theorem dX8_best_1 : decode cX8_best 1 = .ok (.invokestatic 163, 3) := by decide +kernel
theorem dX8_best_4 : decode cX8_best 4 = .ok (.ifCond .eq 11, 3) := by decide +kernel
theorem dX8_best_7 : decode cX8_best 7 = .ok (.iload_n 2, 1) := by decide +kernel
theorem dX8_best_8 : decode cX8_best 8 = .ok (.iconst 2, 1) := by decide +kernel
theorem dX8_best_9 : decode cX8_best 9 = .ok (.invokestatic 95, 3) := by decide +kernel
theorem dX8_best_12 : decode cX8_best 12 = .ok (.ifCond .ne 6, 3) := by decide +kernel
theorem dX8_best_15 : decode cX8_best 15 = .ok (.bipush (-2), 2) := by decide +kernel
theorem dX8_best_17 : decode cX8_best 17 = .ok (.ireturn, 1) := by decide +kernel
theorem dX8_best_18 : decode cX8_best 18 = .ok (.aload_n 0, 1) := by decide +kernel
theorem dX8_best_19 : decode cX8_best 19 = .ok (.getfield 24, 3) := by decide +kernel
theorem dX8_best_22 : decode cX8_best 22 = .ok (.aload_n 0, 1) := by decide +kernel
theorem dX8_best_23 : decode cX8_best 23 = .ok (.getfield 51, 3) := by decide +kernel
theorem dX8_best_26 : decode cX8_best 26 = .ok (.aload_n 0, 1) := by decide +kernel
theorem dX8_best_27 : decode cX8_best 27 = .ok (.getfield 42, 3) := by decide +kernel
theorem dX8_best_30 : decode cX8_best 30 = .ok (.iload_n 1, 1) := by decide +kernel
theorem dX8_best_31 : decode cX8_best 31 = .ok (.invokevirtual 166, 3) := by decide +kernel
theorem dX8_best_34 : decode cX8_best 34 = .ok (.aload_n 0, 1) := by decide +kernel
theorem dX8_best_35 : decode cX8_best 35 = .ok (.getfield 24, 3) := by decide +kernel
theorem dX8_best_38 : decode cX8_best 38 = .ok (.invokevirtual 187, 3) := by decide +kernel
theorem dX8_best_41 : decode cX8_best 41 = .ok (.istore_n 3, 1) := by decide +kernel
theorem dX8_best_42 : decode cX8_best 42 = .ok (.iload_n 2, 1) := by decide +kernel
theorem dX8_best_43 : decode cX8_best 43 = .ok (.ifCond .ne 5, 3) := by decide +kernel
theorem dX8_best_46 : decode cX8_best 46 = .ok (.iload_n 3, 1) := by decide +kernel
theorem dX8_best_47 : decode cX8_best 47 = .ok (.ireturn, 1) := by decide +kernel
theorem dX8_best_48 : decode cX8_best 48 = .ok (.iload_n 3, 1) := by decide +kernel
theorem dX8_best_49 : decode cX8_best 49 = .ok (.iconst (-1), 1) := by decide +kernel
theorem dX8_best_50 : decode cX8_best 50 = .ok (.if_icmp .ne 13, 3) := by decide +kernel
theorem dX8_best_53 : decode cX8_best 53 = .ok (.aload_n 0, 1) := by decide +kernel
theorem dX8_best_54 : decode cX8_best 54 = .ok (.getfield 24, 3) := by decide +kernel
theorem dX8_best_57 : decode cX8_best 57 = .ok (.getfield 169, 3) := by decide +kernel
theorem dX8_best_60 : decode cX8_best 60 = .ok (.goto 20, 3) := by decide +kernel
theorem dX8_best_63 : decode cX8_best 63 = .ok (.aload_n 0, 1) := by decide +kernel
theorem dX8_best_64 : decode cX8_best 64 = .ok (.getfield 24, 3) := by decide +kernel
theorem dX8_best_67 : decode cX8_best 67 = .ok (.getfield 169, 3) := by decide +kernel
theorem dX8_best_70 : decode cX8_best 70 = .ok (.aload_n 0, 1) := by decide +kernel
theorem dX8_best_71 : decode cX8_best 71 = .ok (.getfield 24, 3) := by decide +kernel
theorem dX8_best_74 : decode cX8_best 74 = .ok (.getfield 190, 3) := by decide +kernel
theorem dX8_best_77 : decode cX8_best 77 = .ok (.iload_n 3, 1) := by decide +kernel
theorem dX8_best_78 : decode cX8_best 78 = .ok (.iaload, 1) := by decide +kernel
theorem dX8_best_79 : decode cX8_best 79 = .ok (.isub, 1) := by decide +kernel
theorem dX8_best_80 : decode cX8_best 80 = .ok (.ireturn, 1) := by decide +kernel
theorem dX8_few_0 : decode cX8_few 0 = .ok (.aload_n 0, 1) := by decide +kernel
theorem dX8_few_1 : decode cX8_few 1 = .ok (.iload_n 1, 1) := by decide +kernel
theorem dX8_few_2 : decode cX8_few 2 = .ok (.invokevirtual 91, 3) := by decide +kernel
theorem dX8_few_5 : decode cX8_few 5 = .ok (.ifCond .eq 21, 3) := by decide +kernel
theorem dX8_few_8 : decode cX8_few 8 = .ok (.iload_n 2, 1) := by decide +kernel
theorem dX8_few_9 : decode cX8_few 9 = .ok (.invokestatic 163, 3) := by decide +kernel
theorem dX8_few_12 : decode cX8_few 12 = .ok (.ifCond .eq 14, 3) := by decide +kernel
theorem dX8_few_15 : decode cX8_few 15 = .ok (.iload_n 3, 1) := by decide +kernel
theorem dX8_few_16 : decode cX8_few 16 = .ok (.ifCond .lt 10, 3) := by decide +kernel
theorem dX8_few_19 : decode cX8_few 19 = .ok (.iload_n 3, 1) := by decide +kernel
theorem dX8_few_20 : decode cX8_few 20 = .ok (.sipush 9999, 3) := by decide +kernel
theorem dX8_few_23 : decode cX8_few 23 = .ok (.if_icmp .le 6, 3) := by decide +kernel
theorem dX8_few_26 : decode cX8_few 26 = .ok (.bipush (-2), 2) := by decide +kernel
theorem dX8_few_28 : decode cX8_few 28 = .ok (.ireturn, 1) := by decide +kernel
theorem dX8_few_29 : decode cX8_few 29 = .ok (.aload_n 0, 1) := by decide +kernel
theorem dX8_few_30 : decode cX8_few 30 = .ok (.getfield 24, 3) := by decide +kernel
theorem dX8_few_33 : decode cX8_few 33 = .ok (.aload_n 0, 1) := by decide +kernel
theorem dX8_few_34 : decode cX8_few 34 = .ok (.getfield 51, 3) := by decide +kernel
theorem dX8_few_37 : decode cX8_few 37 = .ok (.aload_n 0, 1) := by decide +kernel
theorem dX8_few_38 : decode cX8_few 38 = .ok (.getfield 42, 3) := by decide +kernel
theorem dX8_few_41 : decode cX8_few 41 = .ok (.iload_n 2, 1) := by decide +kernel
theorem dX8_few_42 : decode cX8_few 42 = .ok (.invokevirtual 166, 3) := by decide +kernel
theorem dX8_few_45 : decode cX8_few 45 = .ok (.aload_n 0, 1) := by decide +kernel
theorem dX8_few_46 : decode cX8_few 46 = .ok (.getfield 24, 3) := by decide +kernel
theorem dX8_few_49 : decode cX8_few 49 = .ok (.iload_n 1, 1) := by decide +kernel
theorem dX8_few_50 : decode cX8_few 50 = .ok (.iload_n 3, 1) := by decide +kernel
theorem dX8_few_51 : decode cX8_few 51 = .ok (.invokevirtual 193, 3) := by decide +kernel
theorem dX8_few_54 : decode cX8_few 54 = .ok (.ireturn, 1) := by decide +kernel
theorem dX8_kissing_0 : decode cX8_kissing 0 = .ok (.iload_n 1, 1) := by decide +kernel
theorem dX8_kissing_1 : decode cX8_kissing 1 = .ok (.invokestatic 163, 3) := by decide +kernel
theorem dX8_kissing_4 : decode cX8_kissing 4 = .ok (.ifCond .eq 11, 3) := by decide +kernel
theorem dX8_kissing_7 : decode cX8_kissing 7 = .ok (.iload_n 2, 1) := by decide +kernel
theorem dX8_kissing_8 : decode cX8_kissing 8 = .ok (.iconst 2, 1) := by decide +kernel
theorem dX8_kissing_9 : decode cX8_kissing 9 = .ok (.invokestatic 95, 3) := by decide +kernel
theorem dX8_kissing_12 : decode cX8_kissing 12 = .ok (.ifCond .ne 6, 3) := by decide +kernel
theorem dX8_kissing_15 : decode cX8_kissing 15 = .ok (.bipush (-2), 2) := by decide +kernel
theorem dX8_kissing_17 : decode cX8_kissing 17 = .ok (.ireturn, 1) := by decide +kernel
theorem dX8_kissing_18 : decode cX8_kissing 18 = .ok (.aload_n 0, 1) := by decide +kernel
theorem dX8_kissing_19 : decode cX8_kissing 19 = .ok (.getfield 24, 3) := by decide +kernel
theorem dX8_kissing_22 : decode cX8_kissing 22 = .ok (.aload_n 0, 1) := by decide +kernel
theorem dX8_kissing_23 : decode cX8_kissing 23 = .ok (.getfield 51, 3) := by decide +kernel
theorem dX8_kissing_26 : decode cX8_kissing 26 = .ok (.aload_n 0, 1) := by decide +kernel
theorem dX8_kissing_27 : decode cX8_kissing 27 = .ok (.getfield 42, 3) := by decide +kernel
theorem dX8_kissing_30 : decode cX8_kissing 30 = .ok (.iload_n 1, 1) := by decide +kernel
theorem dX8_kissing_31 : decode cX8_kissing 31 = .ok (.invokevirtual 166, 3) := by decide +kernel
theorem dX8_kissing_34 : decode cX8_kissing 34 = .ok (.iconst (-1), 1) := by decide +kernel
theorem dX8_kissing_35 : decode cX8_kissing 35 = .ok (.istore_n 3, 1) := by decide +kernel
theorem dX8_kissing_36 : decode cX8_kissing 36 = .ok (.aload_n 0, 1) := by decide +kernel
theorem dX8_kissing_37 : decode cX8_kissing 37 = .ok (.getfield 24, 3) := by decide +kernel
theorem dX8_kissing_40 : decode cX8_kissing 40 = .ok (.getfield 169, 3) := by decide +kernel
theorem dX8_kissing_43 : decode cX8_kissing 43 = .ok (.istore 4, 2) := by decide +kernel
theorem dX8_kissing_45 : decode cX8_kissing 45 = .ok (.iconst 0, 1) := by decide +kernel
theorem dX8_kissing_46 : decode cX8_kissing 46 = .ok (.istore 5, 2) := by decide +kernel
theorem dX8_kissing_48 : decode cX8_kissing 48 = .ok (.iload 5, 2) := by decide +kernel
theorem dX8_kissing_50 : decode cX8_kissing 50 = .ok (.aload_n 0, 1) := by decide +kernel
theorem dX8_kissing_51 : decode cX8_kissing 51 = .ok (.getfield 51, 3) := by decide +kernel
theorem dX8_kissing_54 : decode cX8_kissing 54 = .ok (.getfield 115, 3) := by decide +kernel
theorem dX8_kissing_57 : decode cX8_kissing 57 = .ok (.if_icmp .ge 71, 3) := by decide +kernel
theorem dX8_kissing_60 : decode cX8_kissing 60 = .ok (.iconst 0, 1) := by decide +kernel
theorem dX8_kissing_61 : decode cX8_kissing 61 = .ok (.istore 6, 2) := by decide +kernel
theorem dX8_kissing_63 : decode cX8_kissing 63 = .ok (.iload 6, 2) := by decide +kernel
theorem dX8_kissing_65 : decode cX8_kissing 65 = .ok (.aload_n 0, 1) := by decide +kernel
theorem dX8_kissing_66 : decode cX8_kissing 66 = .ok (.getfield 51, 3) := by decide +kernel
theorem dX8_kissing_69 : decode cX8_kissing 69 = .ok (.getfield 115, 3) := by decide +kernel
theorem dX8_kissing_72 : decode cX8_kissing 72 = .ok (.if_icmp .ge 50, 3) := by decide +kernel
theorem dX8_kissing_75 : decode cX8_kissing 75 = .ok (.iload 5, 2) := by decide +kernel
theorem dX8_kissing_77 : decode cX8_kissing 77 = .ok (.iload 6, 2) := by decide +kernel
theorem dX8_kissing_79 : decode cX8_kissing 79 = .ok (.if_icmp .ne 6, 3) := by decide +kernel
theorem dX8_kissing_82 : decode cX8_kissing 82 = .ok (.goto 34, 3) := by decide +kernel
theorem dX8_kissing_85 : decode cX8_kissing 85 = .ok (.aload_n 0, 1) := by decide +kernel
theorem dX8_kissing_86 : decode cX8_kissing 86 = .ok (.iload 5, 2) := by decide +kernel
theorem dX8_kissing_88 : decode cX8_kissing 88 = .ok (.iload 6, 2) := by decide +kernel
theorem dX8_kissing_90 : decode cX8_kissing 90 = .ok (.iload_n 1, 1) := by decide +kernel
theorem dX8_kissing_91 : decode cX8_kissing 91 = .ok (.invokevirtual 196, 3) := by decide +kernel
theorem dX8_kissing_94 : decode cX8_kissing 94 = .ok (.istore 7, 2) := by decide +kernel
theorem dX8_kissing_96 : decode cX8_kissing 96 = .ok (.iload 7, 2) := by decide +kernel
theorem dX8_kissing_98 : decode cX8_kissing 98 = .ok (.iload 4, 2) := by decide +kernel
theorem dX8_kissing_100 : decode cX8_kissing 100 = .ok (.if_icmp .ge 16, 3) := by decide +kernel
theorem dX8_kissing_103 : decode cX8_kissing 103 = .ok (.iload 7, 2) := by decide +kernel
theorem dX8_kissing_105 : decode cX8_kissing 105 = .ok (.istore 4, 2) := by decide +kernel
theorem dX8_kissing_107 : decode cX8_kissing 107 = .ok (.iload 5, 2) := by decide +kernel
theorem dX8_kissing_109 : decode cX8_kissing 109 = .ok (.bipush 10, 2) := by decide +kernel
theorem dX8_kissing_111 : decode cX8_kissing 111 = .ok (.imul, 1) := by decide +kernel
theorem dX8_kissing_112 : decode cX8_kissing 112 = .ok (.iload 6, 2) := by decide +kernel
theorem dX8_kissing_114 : decode cX8_kissing 114 = .ok (.iadd, 1) := by decide +kernel
theorem dX8_kissing_115 : decode cX8_kissing 115 = .ok (.istore_n 3, 1) := by decide +kernel
theorem dX8_kissing_116 : decode cX8_kissing 116 = .ok (.iinc 6 1, 3) := by decide +kernel
theorem dX8_kissing_119 : decode cX8_kissing 119 = .ok (.goto (-56), 3) := by decide +kernel
theorem dX8_kissing_122 : decode cX8_kissing 122 = .ok (.iinc 5 1, 3) := by decide +kernel
theorem dX8_kissing_125 : decode cX8_kissing 125 = .ok (.goto (-77), 3) := by decide +kernel
theorem dX8_kissing_128 : decode cX8_kissing 128 = .ok (.iload_n 2, 1) := by decide +kernel
theorem dX8_kissing_129 : decode cX8_kissing 129 = .ok (.ifCond .ne 7, 3) := by decide +kernel
theorem dX8_kissing_132 : decode cX8_kissing 132 = .ok (.iload_n 3, 1) := by decide +kernel
theorem dX8_kissing_133 : decode cX8_kissing 133 = .ok (.goto 5, 3) := by decide +kernel
theorem dX8_kissing_136 : decode cX8_kissing 136 = .ok (.iload 4, 2) := by decide +kernel
theorem dX8_kissing_138 : decode cX8_kissing 138 = .ok (.ireturn, 1) := by decide +kernel
theorem dX8_shameAfterKiss_0 : decode cX8_shameAfterKiss 0 = .ok (.aload_n 0, 1) := by decide +kernel
theorem dX8_shameAfterKiss_1 : decode cX8_shameAfterKiss 1 = .ok (.getfield 24, 3) := by decide +kernel
theorem dX8_shameAfterKiss_4 : decode cX8_shameAfterKiss 4 = .ok (.getfield 169, 3) := by decide +kernel
theorem dX8_shameAfterKiss_7 : decode cX8_shameAfterKiss 7 = .ok (.istore 4, 2) := by decide +kernel
theorem dX8_shameAfterKiss_9 : decode cX8_shameAfterKiss 9 = .ok (.iconst 0, 1) := by decide +kernel
theorem dX8_shameAfterKiss_10 : decode cX8_shameAfterKiss 10 = .ok (.istore 5, 2) := by decide +kernel
theorem dX8_shameAfterKiss_12 : decode cX8_shameAfterKiss 12 = .ok (.iload 5, 2) := by decide +kernel
theorem dX8_shameAfterKiss_14 : decode cX8_shameAfterKiss 14 = .ok (.bipush 10, 2) := by decide +kernel
theorem dX8_shameAfterKiss_16 : decode cX8_shameAfterKiss 16 = .ok (.if_icmp .ge 146, 3) := by decide +kernel
theorem dX8_shameAfterKiss_19 : decode cX8_shameAfterKiss 19 = .ok (.aload_n 0, 1) := by decide +kernel
theorem dX8_shameAfterKiss_20 : decode cX8_shameAfterKiss 20 = .ok (.getfield 51, 3) := by decide +kernel
theorem dX8_shameAfterKiss_23 : decode cX8_shameAfterKiss 23 = .ok (.getfield 99, 3) := by decide +kernel
theorem dX8_shameAfterKiss_26 : decode cX8_shameAfterKiss 26 = .ok (.iload_n 1, 1) := by decide +kernel
theorem dX8_shameAfterKiss_27 : decode cX8_shameAfterKiss 27 = .ok (.aaload, 1) := by decide +kernel
theorem dX8_shameAfterKiss_28 : decode cX8_shameAfterKiss 28 = .ok (.getfield 132, 3) := by decide +kernel
theorem dX8_shameAfterKiss_31 : decode cX8_shameAfterKiss 31 = .ok (.iload 5, 2) := by decide +kernel
theorem dX8_shameAfterKiss_33 : decode cX8_shameAfterKiss 33 = .ok (.iaload, 1) := by decide +kernel
theorem dX8_shameAfterKiss_34 : decode cX8_shameAfterKiss 34 = .ok (.istore 6, 2) := by decide +kernel
theorem dX8_shameAfterKiss_36 : decode cX8_shameAfterKiss 36 = .ok (.iload 6, 2) := by decide +kernel
theorem dX8_shameAfterKiss_38 : decode cX8_shameAfterKiss 38 = .ok (.iconst (-1), 1) := by decide +kernel
theorem dX8_shameAfterKiss_39 : decode cX8_shameAfterKiss 39 = .ok (.if_icmp .eq 117, 3) := by decide +kernel
theorem dX8_shameAfterKiss_42 : decode cX8_shameAfterKiss 42 = .ok (.aload_n 0, 1) := by decide +kernel
theorem dX8_shameAfterKiss_43 : decode cX8_shameAfterKiss 43 = .ok (.getfield 51, 3) := by decide +kernel
theorem dX8_shameAfterKiss_46 : decode cX8_shameAfterKiss 46 = .ok (.getfield 99, 3) := by decide +kernel
theorem dX8_shameAfterKiss_49 : decode cX8_shameAfterKiss 49 = .ok (.iload_n 2, 1) := by decide +kernel
theorem dX8_shameAfterKiss_50 : decode cX8_shameAfterKiss 50 = .ok (.aaload, 1) := by decide +kernel
theorem dX8_shameAfterKiss_51 : decode cX8_shameAfterKiss 51 = .ok (.getfield 132, 3) := by decide +kernel
theorem dX8_shameAfterKiss_54 : decode cX8_shameAfterKiss 54 = .ok (.iload 5, 2) := by decide +kernel
theorem dX8_shameAfterKiss_56 : decode cX8_shameAfterKiss 56 = .ok (.iaload, 1) := by decide +kernel
theorem dX8_shameAfterKiss_57 : decode cX8_shameAfterKiss 57 = .ok (.iconst (-1), 1) := by decide +kernel
theorem dX8_shameAfterKiss_58 : decode cX8_shameAfterKiss 58 = .ok (.if_icmp .eq 6, 3) := by decide +kernel
theorem dX8_shameAfterKiss_61 : decode cX8_shameAfterKiss 61 = .ok (.goto 95, 3) := by decide +kernel
theorem dX8_shameAfterKiss_64 : decode cX8_shameAfterKiss 64 = .ok (.aload_n 0, 1) := by decide +kernel
theorem dX8_shameAfterKiss_65 : decode cX8_shameAfterKiss 65 = .ok (.getfield 42, 3) := by decide +kernel
theorem dX8_shameAfterKiss_68 : decode cX8_shameAfterKiss 68 = .ok (.aload_n 0, 1) := by decide +kernel
theorem dX8_shameAfterKiss_69 : decode cX8_shameAfterKiss 69 = .ok (.getfield 51, 3) := by decide +kernel
theorem dX8_shameAfterKiss_72 : decode cX8_shameAfterKiss 72 = .ok (.iload_n 2, 1) := by decide +kernel
theorem dX8_shameAfterKiss_73 : decode cX8_shameAfterKiss 73 = .ok (.iload 5, 2) := by decide +kernel
theorem dX8_shameAfterKiss_75 : decode cX8_shameAfterKiss 75 = .ok (.invokevirtual 139, 3) := by decide +kernel
theorem dX8_shameAfterKiss_78 : decode cX8_shameAfterKiss 78 = .ok (.aload_n 0, 1) := by decide +kernel
theorem dX8_shameAfterKiss_79 : decode cX8_shameAfterKiss 79 = .ok (.getfield 42, 3) := by decide +kernel
theorem dX8_shameAfterKiss_82 : decode cX8_shameAfterKiss 82 = .ok (.getfield 199, 3) := by decide +kernel
theorem dX8_shameAfterKiss_85 : decode cX8_shameAfterKiss 85 = .ok (.iconst 0, 1) := by decide +kernel
theorem dX8_shameAfterKiss_86 : decode cX8_shameAfterKiss 86 = .ok (.iload 6, 2) := by decide +kernel
theorem dX8_shameAfterKiss_88 : decode cX8_shameAfterKiss 88 = .ok (.iastore, 1) := by decide +kernel
theorem dX8_shameAfterKiss_89 : decode cX8_shameAfterKiss 89 = .ok (.aload_n 0, 1) := by decide +kernel
theorem dX8_shameAfterKiss_90 : decode cX8_shameAfterKiss 90 = .ok (.getfield 42, 3) := by decide +kernel
theorem dX8_shameAfterKiss_93 : decode cX8_shameAfterKiss 93 = .ok (.iconst 0, 1) := by decide +kernel
theorem dX8_shameAfterKiss_94 : decode cX8_shameAfterKiss 94 = .ok (.putfield 202, 3) := by decide +kernel
theorem dX8_shameAfterKiss_97 : decode cX8_shameAfterKiss 97 = .ok (.aload_n 0, 1) := by decide +kernel
theorem dX8_shameAfterKiss_98 : decode cX8_shameAfterKiss 98 = .ok (.getfield 42, 3) := by decide +kernel
theorem dX8_shameAfterKiss_101 : decode cX8_shameAfterKiss 101 = .ok (.iload_n 3, 1) := by decide +kernel
theorem dX8_shameAfterKiss_102 : decode cX8_shameAfterKiss 102 = .ok (.invokevirtual 181, 3) := by decide +kernel
theorem dX8_shameAfterKiss_105 : decode cX8_shameAfterKiss 105 = .ok (.istore 7, 2) := by decide +kernel
theorem dX8_shameAfterKiss_107 : decode cX8_shameAfterKiss 107 = .ok (.iload 7, 2) := by decide +kernel
theorem dX8_shameAfterKiss_109 : decode cX8_shameAfterKiss 109 = .ok (.iconst (-1), 1) := by decide +kernel
theorem dX8_shameAfterKiss_110 : decode cX8_shameAfterKiss 110 = .ok (.if_icmp .eq 26, 3) := by decide +kernel
theorem dX8_shameAfterKiss_113 : decode cX8_shameAfterKiss 113 = .ok (.iload 4, 2) := by decide +kernel
theorem dX8_shameAfterKiss_115 : decode cX8_shameAfterKiss 115 = .ok (.aload_n 0, 1) := by decide +kernel
theorem dX8_shameAfterKiss_116 : decode cX8_shameAfterKiss 116 = .ok (.getfield 42, 3) := by decide +kernel
theorem dX8_shameAfterKiss_119 : decode cX8_shameAfterKiss 119 = .ok (.iload 7, 2) := by decide +kernel
theorem dX8_shameAfterKiss_121 : decode cX8_shameAfterKiss 121 = .ok (.aload_n 0, 1) := by decide +kernel
theorem dX8_shameAfterKiss_122 : decode cX8_shameAfterKiss 122 = .ok (.getfield 51, 3) := by decide +kernel
theorem dX8_shameAfterKiss_125 : decode cX8_shameAfterKiss 125 = .ok (.iload 7, 2) := by decide +kernel
theorem dX8_shameAfterKiss_127 : decode cX8_shameAfterKiss 127 = .ok (.invokevirtual 204, 3) := by decide +kernel
theorem dX8_shameAfterKiss_130 : decode cX8_shameAfterKiss 130 = .ok (.invokevirtual 207, 3) := by decide +kernel
theorem dX8_shameAfterKiss_133 : decode cX8_shameAfterKiss 133 = .ok (.iadd, 1) := by decide +kernel
theorem dX8_shameAfterKiss_134 : decode cX8_shameAfterKiss 134 = .ok (.istore 4, 2) := by decide +kernel
theorem dX8_shameAfterKiss_136 : decode cX8_shameAfterKiss 136 = .ok (.iload 4, 2) := by decide +kernel
theorem dX8_shameAfterKiss_138 : decode cX8_shameAfterKiss 138 = .ok (.aload_n 0, 1) := by decide +kernel
theorem dX8_shameAfterKiss_139 : decode cX8_shameAfterKiss 139 = .ok (.getfield 24, 3) := by decide +kernel
theorem dX8_shameAfterKiss_142 : decode cX8_shameAfterKiss 142 = .ok (.getfield 190, 3) := by decide +kernel
theorem dX8_shameAfterKiss_145 : decode cX8_shameAfterKiss 145 = .ok (.iload_n 1, 1) := by decide +kernel
theorem dX8_shameAfterKiss_146 : decode cX8_shameAfterKiss 146 = .ok (.bipush 10, 2) := by decide +kernel
theorem dX8_shameAfterKiss_148 : decode cX8_shameAfterKiss 148 = .ok (.imul, 1) := by decide +kernel
theorem dX8_shameAfterKiss_149 : decode cX8_shameAfterKiss 149 = .ok (.iload 5, 2) := by decide +kernel
theorem dX8_shameAfterKiss_151 : decode cX8_shameAfterKiss 151 = .ok (.iadd, 1) := by decide +kernel
theorem dX8_shameAfterKiss_152 : decode cX8_shameAfterKiss 152 = .ok (.iaload, 1) := by decide +kernel
theorem dX8_shameAfterKiss_153 : decode cX8_shameAfterKiss 153 = .ok (.isub, 1) := by decide +kernel
theorem dX8_shameAfterKiss_154 : decode cX8_shameAfterKiss 154 = .ok (.istore 4, 2) := by decide +kernel
theorem dX8_shameAfterKiss_156 : decode cX8_shameAfterKiss 156 = .ok (.iinc 5 1, 3) := by decide +kernel
theorem dX8_shameAfterKiss_159 : decode cX8_shameAfterKiss 159 = .ok (.goto (-147), 3) := by decide +kernel
theorem dX8_shameAfterKiss_162 : decode cX8_shameAfterKiss 162 = .ok (.iload 4, 2) := by decide +kernel
theorem dX8_shameAfterKiss_164 : decode cX8_shameAfterKiss 164 = .ok (.ireturn, 1) := by decide +kernel
theorem dX8_church_0 : decode cX8_church 0 = .ok (.iload_n 1, 1) := by decide +kernel
theorem dX8_church_1 : decode cX8_church 1 = .ok (.invokestatic 163, 3) := by decide +kernel
theorem dX8_church_4 : decode cX8_church 4 = .ok (.ifCond .eq 11, 3) := by decide +kernel
theorem dX8_church_7 : decode cX8_church 7 = .ok (.iload_n 2, 1) := by decide +kernel
theorem dX8_church_8 : decode cX8_church 8 = .ok (.iconst 2, 1) := by decide +kernel
theorem dX8_church_9 : decode cX8_church 9 = .ok (.invokestatic 95, 3) := by decide +kernel
theorem dX8_church_12 : decode cX8_church 12 = .ok (.ifCond .ne 6, 3) := by decide +kernel
theorem dX8_church_15 : decode cX8_church 15 = .ok (.bipush (-2), 2) := by decide +kernel
theorem dX8_church_17 : decode cX8_church 17 = .ok (.ireturn, 1) := by decide +kernel
theorem dX8_church_18 : decode cX8_church 18 = .ok (.aload_n 0, 1) := by decide +kernel
theorem dX8_church_19 : decode cX8_church 19 = .ok (.getfield 24, 3) := by decide +kernel
theorem dX8_church_22 : decode cX8_church 22 = .ok (.aload_n 0, 1) := by decide +kernel
theorem dX8_church_23 : decode cX8_church 23 = .ok (.getfield 51, 3) := by decide +kernel
theorem dX8_church_26 : decode cX8_church 26 = .ok (.aload_n 0, 1) := by decide +kernel
theorem dX8_church_27 : decode cX8_church 27 = .ok (.getfield 42, 3) := by decide +kernel
theorem dX8_church_30 : decode cX8_church 30 = .ok (.iload_n 1, 1) := by decide +kernel
theorem dX8_church_31 : decode cX8_church 31 = .ok (.invokevirtual 166, 3) := by decide +kernel
theorem dX8_church_34 : decode cX8_church 34 = .ok (.aload_n 0, 1) := by decide +kernel
theorem dX8_church_35 : decode cX8_church 35 = .ok (.getfield 24, 3) := by decide +kernel
theorem dX8_church_38 : decode cX8_church 38 = .ok (.aload_n 0, 1) := by decide +kernel
theorem dX8_church_39 : decode cX8_church 39 = .ok (.getfield 51, 3) := by decide +kernel
theorem dX8_church_42 : decode cX8_church 42 = .ok (.aload_n 0, 1) := by decide +kernel
theorem dX8_church_43 : decode cX8_church 43 = .ok (.getfield 42, 3) := by decide +kernel
theorem dX8_church_46 : decode cX8_church 46 = .ok (.invokevirtual 211, 3) := by decide +kernel
theorem dX8_church_49 : decode cX8_church 49 = .ok (.iconst 0, 1) := by decide +kernel
theorem dX8_church_50 : decode cX8_church 50 = .ok (.istore_n 3, 1) := by decide +kernel
theorem dX8_church_51 : decode cX8_church 51 = .ok (.iconst 1, 1) := by decide +kernel
theorem dX8_church_52 : decode cX8_church 52 = .ok (.istore 4, 2) := by decide +kernel
theorem dX8_church_54 : decode cX8_church 54 = .ok (.iload 4, 2) := by decide +kernel
theorem dX8_church_56 : decode cX8_church 56 = .ok (.bipush 24, 2) := by decide +kernel
theorem dX8_church_58 : decode cX8_church 58 = .ok (.if_icmp .ge 34, 3) := by decide +kernel
theorem dX8_church_61 : decode cX8_church 61 = .ok (.aload_n 0, 1) := by decide +kernel
theorem dX8_church_62 : decode cX8_church 62 = .ok (.getfield 24, 3) := by decide +kernel
theorem dX8_church_65 : decode cX8_church 65 = .ok (.getfield 215, 3) := by decide +kernel
theorem dX8_church_68 : decode cX8_church 68 = .ok (.iload 4, 2) := by decide +kernel
theorem dX8_church_70 : decode cX8_church 70 = .ok (.iaload, 1) := by decide +kernel
theorem dX8_church_71 : decode cX8_church 71 = .ok (.aload_n 0, 1) := by decide +kernel
theorem dX8_church_72 : decode cX8_church 72 = .ok (.getfield 24, 3) := by decide +kernel
theorem dX8_church_75 : decode cX8_church 75 = .ok (.getfield 215, 3) := by decide +kernel
theorem dX8_church_78 : decode cX8_church 78 = .ok (.iload_n 3, 1) := by decide +kernel
theorem dX8_church_79 : decode cX8_church 79 = .ok (.iaload, 1) := by decide +kernel
theorem dX8_church_80 : decode cX8_church 80 = .ok (.if_icmp .ge 6, 3) := by decide +kernel
theorem dX8_church_83 : decode cX8_church 83 = .ok (.iload 4, 2) := by decide +kernel
theorem dX8_church_85 : decode cX8_church 85 = .ok (.istore_n 3, 1) := by decide +kernel
theorem dX8_church_86 : decode cX8_church 86 = .ok (.iinc 4 1, 3) := by decide +kernel
theorem dX8_church_89 : decode cX8_church 89 = .ok (.goto (-35), 3) := by decide +kernel
theorem dX8_church_92 : decode cX8_church 92 = .ok (.iload_n 2, 1) := by decide +kernel
theorem dX8_church_93 : decode cX8_church 93 = .ok (.ifCond .ne 7, 3) := by decide +kernel
theorem dX8_church_96 : decode cX8_church 96 = .ok (.iload_n 3, 1) := by decide +kernel
theorem dX8_church_97 : decode cX8_church 97 = .ok (.goto 12, 3) := by decide +kernel
theorem dX8_church_100 : decode cX8_church 100 = .ok (.aload_n 0, 1) := by decide +kernel
theorem dX8_church_101 : decode cX8_church 101 = .ok (.getfield 24, 3) := by decide +kernel
theorem dX8_church_104 : decode cX8_church 104 = .ok (.getfield 215, 3) := by decide +kernel
theorem dX8_church_107 : decode cX8_church 107 = .ok (.iload_n 3, 1) := by decide +kernel
theorem dX8_church_108 : decode cX8_church 108 = .ok (.iaload, 1) := by decide +kernel
theorem dX8_church_109 : decode cX8_church 109 = .ok (.ireturn, 1) := by decide +kernel
theorem dX8_plan_0 : decode cX8_plan 0 = .ok (.iload_n 1, 1) := by decide +kernel
theorem dX8_plan_1 : decode cX8_plan 1 = .ok (.iconst 4, 1) := by decide +kernel
theorem dX8_plan_2 : decode cX8_plan 2 = .ok (.invokestatic 95, 3) := by decide +kernel
theorem dX8_plan_5 : decode cX8_plan 5 = .ok (.ifCond .eq 11, 3) := by decide +kernel
theorem dX8_plan_8 : decode cX8_plan 8 = .ok (.iload_n 2, 1) := by decide +kernel
theorem dX8_plan_9 : decode cX8_plan 9 = .ok (.iconst 2, 1) := by decide +kernel
theorem dX8_plan_10 : decode cX8_plan 10 = .ok (.invokestatic 95, 3) := by decide +kernel
theorem dX8_plan_13 : decode cX8_plan 13 = .ok (.ifCond .ne 6, 3) := by decide +kernel
theorem dX8_plan_16 : decode cX8_plan 16 = .ok (.bipush (-2), 2) := by decide +kernel
theorem dX8_plan_18 : decode cX8_plan 18 = .ok (.ireturn, 1) := by decide +kernel
theorem dX8_plan_19 : decode cX8_plan 19 = .ok (.aload_n 0, 1) := by decide +kernel
theorem dX8_plan_20 : decode cX8_plan 20 = .ok (.getfield 17, 3) := by decide +kernel
theorem dX8_plan_23 : decode cX8_plan 23 = .ok (.iload_n 1, 1) := by decide +kernel
theorem dX8_plan_24 : decode cX8_plan 24 = .ok (.aaload, 1) := by decide +kernel
theorem dX8_plan_25 : decode cX8_plan 25 = .ok (.astore_n 3, 1) := by decide +kernel
theorem dX8_plan_26 : decode cX8_plan 26 = .ok (.aload_n 3, 1) := by decide +kernel
theorem dX8_plan_27 : decode cX8_plan 27 = .ok (.invokevirtual 218, 3) := by decide +kernel
theorem dX8_plan_30 : decode cX8_plan 30 = .ok (.ifCond .eq 6, 3) := by decide +kernel
theorem dX8_plan_33 : decode cX8_plan 33 = .ok (.bipush (-11), 2) := by decide +kernel
theorem dX8_plan_35 : decode cX8_plan 35 = .ok (.ireturn, 1) := by decide +kernel
theorem dX8_plan_36 : decode cX8_plan 36 = .ok (.aload_n 0, 1) := by decide +kernel
theorem dX8_plan_37 : decode cX8_plan 37 = .ok (.aload_n 3, 1) := by decide +kernel
theorem dX8_plan_38 : decode cX8_plan 38 = .ok (.invokevirtual 222, 3) := by decide +kernel
theorem dX8_plan_41 : decode cX8_plan 41 = .ok (.ifCond .ne 6, 3) := by decide +kernel
theorem dX8_plan_44 : decode cX8_plan 44 = .ok (.bipush (-2), 2) := by decide +kernel
theorem dX8_plan_46 : decode cX8_plan 46 = .ok (.ireturn, 1) := by decide +kernel
theorem dX8_plan_47 : decode cX8_plan 47 = .ok (.aload_n 0, 1) := by decide +kernel
theorem dX8_plan_48 : decode cX8_plan 48 = .ok (.getfield 55, 3) := by decide +kernel
theorem dX8_plan_51 : decode cX8_plan 51 = .ok (.aload_n 0, 1) := by decide +kernel
theorem dX8_plan_52 : decode cX8_plan 52 = .ok (.getfield 51, 3) := by decide +kernel
theorem dX8_plan_55 : decode cX8_plan 55 = .ok (.invokevirtual 226, 3) := by decide +kernel
theorem dX8_plan_58 : decode cX8_plan 58 = .ok (.aload_n 0, 1) := by decide +kernel
theorem dX8_plan_59 : decode cX8_plan 59 = .ok (.getfield 55, 3) := by decide +kernel
theorem dX8_plan_62 : decode cX8_plan 62 = .ok (.iconst 0, 1) := by decide +kernel
theorem dX8_plan_63 : decode cX8_plan 63 = .ok (.putfield 230, 3) := by decide +kernel
theorem dX8_plan_66 : decode cX8_plan 66 = .ok (.iconst 0, 1) := by decide +kernel
theorem dX8_plan_67 : decode cX8_plan 67 = .ok (.istore 4, 2) := by decide +kernel
theorem dX8_plan_69 : decode cX8_plan 69 = .ok (.iload 4, 2) := by decide +kernel
theorem dX8_plan_71 : decode cX8_plan 71 = .ok (.iconst 4, 1) := by decide +kernel
theorem dX8_plan_72 : decode cX8_plan 72 = .ok (.iadd, 1) := by decide +kernel
theorem dX8_plan_73 : decode cX8_plan 73 = .ok (.aload_n 3, 1) := by decide +kernel
theorem dX8_plan_74 : decode cX8_plan 74 = .ok (.getfield 231, 3) := by decide +kernel
theorem dX8_plan_77 : decode cX8_plan 77 = .ok (.if_icmp .gt 47, 3) := by decide +kernel
theorem dX8_plan_80 : decode cX8_plan 80 = .ok (.aload_n 0, 1) := by decide +kernel
theorem dX8_plan_81 : decode cX8_plan 81 = .ok (.aload_n 3, 1) := by decide +kernel
theorem dX8_plan_82 : decode cX8_plan 82 = .ok (.getfield 232, 3) := by decide +kernel
theorem dX8_plan_85 : decode cX8_plan 85 = .ok (.iload 4, 2) := by decide +kernel
theorem dX8_plan_87 : decode cX8_plan 87 = .ok (.iaload, 1) := by decide +kernel
theorem dX8_plan_88 : decode cX8_plan 88 = .ok (.aload_n 3, 1) := by decide +kernel
theorem dX8_plan_89 : decode cX8_plan 89 = .ok (.getfield 232, 3) := by decide +kernel
theorem dX8_plan_92 : decode cX8_plan 92 = .ok (.iload 4, 2) := by decide +kernel
theorem dX8_plan_94 : decode cX8_plan 94 = .ok (.iconst 1, 1) := by decide +kernel
theorem dX8_plan_95 : decode cX8_plan 95 = .ok (.iadd, 1) := by decide +kernel
theorem dX8_plan_96 : decode cX8_plan 96 = .ok (.iaload, 1) := by decide +kernel
theorem dX8_plan_97 : decode cX8_plan 97 = .ok (.aload_n 3, 1) := by decide +kernel
theorem dX8_plan_98 : decode cX8_plan 98 = .ok (.getfield 232, 3) := by decide +kernel
theorem dX8_plan_101 : decode cX8_plan 101 = .ok (.iload 4, 2) := by decide +kernel
theorem dX8_plan_103 : decode cX8_plan 103 = .ok (.iconst 2, 1) := by decide +kernel
theorem dX8_plan_104 : decode cX8_plan 104 = .ok (.iadd, 1) := by decide +kernel
theorem dX8_plan_105 : decode cX8_plan 105 = .ok (.iaload, 1) := by decide +kernel
theorem dX8_plan_106 : decode cX8_plan 106 = .ok (.aload_n 3, 1) := by decide +kernel
theorem dX8_plan_107 : decode cX8_plan 107 = .ok (.getfield 232, 3) := by decide +kernel
theorem dX8_plan_110 : decode cX8_plan 110 = .ok (.iload 4, 2) := by decide +kernel
theorem dX8_plan_112 : decode cX8_plan 112 = .ok (.iconst 3, 1) := by decide +kernel
theorem dX8_plan_113 : decode cX8_plan 113 = .ok (.iadd, 1) := by decide +kernel
theorem dX8_plan_114 : decode cX8_plan 114 = .ok (.iaload, 1) := by decide +kernel
theorem dX8_plan_115 : decode cX8_plan 115 = .ok (.invokevirtual 235, 3) := by decide +kernel
theorem dX8_plan_118 : decode cX8_plan 118 = .ok (.iinc 4 4, 3) := by decide +kernel
theorem dX8_plan_121 : decode cX8_plan 121 = .ok (.goto (-52), 3) := by decide +kernel
theorem dX8_plan_124 : decode cX8_plan 124 = .ok (.iload_n 2, 1) := by decide +kernel
theorem dX8_plan_125 : decode cX8_plan 125 = .ok (.ifCond .ne 13, 3) := by decide +kernel
theorem dX8_plan_128 : decode cX8_plan 128 = .ok (.aload_n 0, 1) := by decide +kernel
theorem dX8_plan_129 : decode cX8_plan 129 = .ok (.getfield 55, 3) := by decide +kernel
theorem dX8_plan_132 : decode cX8_plan 132 = .ok (.getfield 230, 3) := by decide +kernel
theorem dX8_plan_135 : decode cX8_plan 135 = .ok (.goto 10, 3) := by decide +kernel
theorem dX8_plan_138 : decode cX8_plan 138 = .ok (.aload_n 0, 1) := by decide +kernel
theorem dX8_plan_139 : decode cX8_plan 139 = .ok (.getfield 55, 3) := by decide +kernel
theorem dX8_plan_142 : decode cX8_plan 142 = .ok (.invokevirtual 239, 3) := by decide +kernel
theorem dX8_plan_145 : decode cX8_plan 145 = .ok (.ireturn, 1) := by decide +kernel
theorem dX8_isPlan_0 : decode cX8_isPlan 0 = .ok (.aload_n 1, 1) := by decide +kernel
theorem dX8_isPlan_1 : decode cX8_isPlan 1 = .ok (.getfield 231, 3) := by decide +kernel
theorem dX8_isPlan_4 : decode cX8_isPlan 4 = .ok (.iconst 4, 1) := by decide +kernel
theorem dX8_isPlan_5 : decode cX8_isPlan 5 = .ok (.irem, 1) := by decide +kernel
theorem dX8_isPlan_6 : decode cX8_isPlan 6 = .ok (.ifCond .eq 5, 3) := by decide +kernel
theorem dX8_isPlan_9 : decode cX8_isPlan 9 = .ok (.iconst 0, 1) := by decide +kernel
theorem dX8_isPlan_10 : decode cX8_isPlan 10 = .ok (.ireturn, 1) := by decide +kernel
theorem dX8_isPlan_11 : decode cX8_isPlan 11 = .ok (.iconst 0, 1) := by decide +kernel
theorem dX8_isPlan_12 : decode cX8_isPlan 12 = .ok (.istore_n 2, 1) := by decide +kernel
theorem dX8_isPlan_13 : decode cX8_isPlan 13 = .ok (.iload_n 2, 1) := by decide +kernel
theorem dX8_isPlan_14 : decode cX8_isPlan 14 = .ok (.iconst 4, 1) := by decide +kernel
theorem dX8_isPlan_15 : decode cX8_isPlan 15 = .ok (.iadd, 1) := by decide +kernel
theorem dX8_isPlan_16 : decode cX8_isPlan 16 = .ok (.aload_n 1, 1) := by decide +kernel
theorem dX8_isPlan_17 : decode cX8_isPlan 17 = .ok (.getfield 231, 3) := by decide +kernel
theorem dX8_isPlan_20 : decode cX8_isPlan 20 = .ok (.if_icmp .gt 48, 3) := by decide +kernel
theorem dX8_isPlan_23 : decode cX8_isPlan 23 = .ok (.aload_n 0, 1) := by decide +kernel
theorem dX8_isPlan_24 : decode cX8_isPlan 24 = .ok (.aload_n 1, 1) := by decide +kernel
theorem dX8_isPlan_25 : decode cX8_isPlan 25 = .ok (.getfield 232, 3) := by decide +kernel
theorem dX8_isPlan_28 : decode cX8_isPlan 28 = .ok (.iload_n 2, 1) := by decide +kernel
theorem dX8_isPlan_29 : decode cX8_isPlan 29 = .ok (.iaload, 1) := by decide +kernel
theorem dX8_isPlan_30 : decode cX8_isPlan 30 = .ok (.aload_n 1, 1) := by decide +kernel
theorem dX8_isPlan_31 : decode cX8_isPlan 31 = .ok (.getfield 232, 3) := by decide +kernel
theorem dX8_isPlan_34 : decode cX8_isPlan 34 = .ok (.iload_n 2, 1) := by decide +kernel
theorem dX8_isPlan_35 : decode cX8_isPlan 35 = .ok (.iconst 1, 1) := by decide +kernel
theorem dX8_isPlan_36 : decode cX8_isPlan 36 = .ok (.iadd, 1) := by decide +kernel
theorem dX8_isPlan_37 : decode cX8_isPlan 37 = .ok (.iaload, 1) := by decide +kernel
theorem dX8_isPlan_38 : decode cX8_isPlan 38 = .ok (.aload_n 1, 1) := by decide +kernel
theorem dX8_isPlan_39 : decode cX8_isPlan 39 = .ok (.getfield 232, 3) := by decide +kernel
theorem dX8_isPlan_42 : decode cX8_isPlan 42 = .ok (.iload_n 2, 1) := by decide +kernel
theorem dX8_isPlan_43 : decode cX8_isPlan 43 = .ok (.iconst 2, 1) := by decide +kernel
theorem dX8_isPlan_44 : decode cX8_isPlan 44 = .ok (.iadd, 1) := by decide +kernel
theorem dX8_isPlan_45 : decode cX8_isPlan 45 = .ok (.iaload, 1) := by decide +kernel
theorem dX8_isPlan_46 : decode cX8_isPlan 46 = .ok (.aload_n 1, 1) := by decide +kernel
theorem dX8_isPlan_47 : decode cX8_isPlan 47 = .ok (.getfield 232, 3) := by decide +kernel
theorem dX8_isPlan_50 : decode cX8_isPlan 50 = .ok (.iload_n 2, 1) := by decide +kernel
theorem dX8_isPlan_51 : decode cX8_isPlan 51 = .ok (.iconst 3, 1) := by decide +kernel
theorem dX8_isPlan_52 : decode cX8_isPlan 52 = .ok (.iadd, 1) := by decide +kernel
theorem dX8_isPlan_53 : decode cX8_isPlan 53 = .ok (.iaload, 1) := by decide +kernel
theorem dX8_isPlan_54 : decode cX8_isPlan 54 = .ok (.invokevirtual 240, 3) := by decide +kernel
theorem dX8_isPlan_57 : decode cX8_isPlan 57 = .ok (.ifCond .ne 5, 3) := by decide +kernel
theorem dX8_isPlan_60 : decode cX8_isPlan 60 = .ok (.iconst 0, 1) := by decide +kernel
theorem dX8_isPlan_61 : decode cX8_isPlan 61 = .ok (.ireturn, 1) := by decide +kernel
theorem dX8_isPlan_62 : decode cX8_isPlan 62 = .ok (.iinc 2 4, 3) := by decide +kernel
theorem dX8_isPlan_65 : decode cX8_isPlan 65 = .ok (.goto (-52), 3) := by decide +kernel
theorem dX8_isPlan_68 : decode cX8_isPlan 68 = .ok (.iconst 1, 1) := by decide +kernel
theorem dX8_isPlan_69 : decode cX8_isPlan 69 = .ok (.ireturn, 1) := by decide +kernel
theorem dX8_isStep_0 : decode cX8_isStep 0 = .ok (.iload_n 1, 1) := by decide +kernel
theorem dX8_isStep_1 : decode cX8_isStep 1 = .ok (.iconst 3, 1) := by decide +kernel
theorem dX8_isStep_2 : decode cX8_isStep 2 = .ok (.if_icmp .ne 22, 3) := by decide +kernel
theorem dX8_isStep_5 : decode cX8_isStep 5 = .ok (.iload_n 2, 1) := by decide +kernel
theorem dX8_isStep_6 : decode cX8_isStep 6 = .ok (.ifCond .ne 16, 3) := by decide +kernel
theorem dX8_isStep_9 : decode cX8_isStep 9 = .ok (.iload_n 3, 1) := by decide +kernel
theorem dX8_isStep_10 : decode cX8_isStep 10 = .ok (.ifCond .ne 12, 3) := by decide +kernel
theorem dX8_isStep_13 : decode cX8_isStep 13 = .ok (.iload 4, 2) := by decide +kernel
theorem dX8_isStep_15 : decode cX8_isStep 15 = .ok (.ifCond .ne 7, 3) := by decide +kernel
theorem dX8_isStep_18 : decode cX8_isStep 18 = .ok (.iconst 1, 1) := by decide +kernel
theorem dX8_isStep_19 : decode cX8_isStep 19 = .ok (.goto 4, 3) := by decide +kernel
theorem dX8_isStep_22 : decode cX8_isStep 22 = .ok (.iconst 0, 1) := by decide +kernel
theorem dX8_isStep_23 : decode cX8_isStep 23 = .ok (.ireturn, 1) := by decide +kernel
theorem dX8_isStep_24 : decode cX8_isStep 24 = .ok (.aload_n 0, 1) := by decide +kernel
theorem dX8_isStep_25 : decode cX8_isStep 25 = .ok (.iload_n 2, 1) := by decide +kernel
theorem dX8_isStep_26 : decode cX8_isStep 26 = .ok (.invokevirtual 91, 3) := by decide +kernel
theorem dX8_isStep_29 : decode cX8_isStep 29 = .ok (.ifCond .ne 5, 3) := by decide +kernel
theorem dX8_isStep_32 : decode cX8_isStep 32 = .ok (.iconst 0, 1) := by decide +kernel
theorem dX8_isStep_33 : decode cX8_isStep 33 = .ok (.ireturn, 1) := by decide +kernel
theorem dX8_isStep_34 : decode cX8_isStep 34 = .ok (.iload_n 1, 1) := by decide +kernel
theorem dX8_isStep_35 : decode cX8_isStep 35 = .ok (.ifCond .ne 28, 3) := by decide +kernel
theorem dX8_isStep_38 : decode cX8_isStep 38 = .ok (.iload_n 3, 1) := by decide +kernel
theorem dX8_isStep_39 : decode cX8_isStep 39 = .ok (.bipush 16, 2) := by decide +kernel
theorem dX8_isStep_41 : decode cX8_isStep 41 = .ok (.invokestatic 95, 3) := by decide +kernel
theorem dX8_isStep_44 : decode cX8_isStep 44 = .ok (.ifCond .eq 17, 3) := by decide +kernel
theorem dX8_isStep_47 : decode cX8_isStep 47 = .ok (.iload 4, 2) := by decide +kernel
theorem dX8_isStep_49 : decode cX8_isStep 49 = .ok (.bipush 10, 2) := by decide +kernel
theorem dX8_isStep_51 : decode cX8_isStep 51 = .ok (.invokestatic 95, 3) := by decide +kernel
theorem dX8_isStep_54 : decode cX8_isStep 54 = .ok (.ifCond .eq 7, 3) := by decide +kernel
theorem dX8_isStep_57 : decode cX8_isStep 57 = .ok (.iconst 1, 1) := by decide +kernel
theorem dX8_isStep_58 : decode cX8_isStep 58 = .ok (.goto 4, 3) := by decide +kernel
theorem dX8_isStep_61 : decode cX8_isStep 61 = .ok (.iconst 0, 1) := by decide +kernel
theorem dX8_isStep_62 : decode cX8_isStep 62 = .ok (.ireturn, 1) := by decide +kernel
theorem dX8_isStep_63 : decode cX8_isStep 63 = .ok (.iload_n 1, 1) := by decide +kernel
theorem dX8_isStep_64 : decode cX8_isStep 64 = .ok (.iconst 1, 1) := by decide +kernel
theorem dX8_isStep_65 : decode cX8_isStep 65 = .ok (.if_icmp .ne 23, 3) := by decide +kernel
theorem dX8_isStep_68 : decode cX8_isStep 68 = .ok (.iload_n 3, 1) := by decide +kernel
theorem dX8_isStep_69 : decode cX8_isStep 69 = .ok (.bipush 10, 2) := by decide +kernel
theorem dX8_isStep_71 : decode cX8_isStep 71 = .ok (.invokestatic 95, 3) := by decide +kernel
theorem dX8_isStep_74 : decode cX8_isStep 74 = .ok (.ifCond .eq 12, 3) := by decide +kernel
theorem dX8_isStep_77 : decode cX8_isStep 77 = .ok (.iload 4, 2) := by decide +kernel
theorem dX8_isStep_79 : decode cX8_isStep 79 = .ok (.ifCond .ne 7, 3) := by decide +kernel
theorem dX8_isStep_82 : decode cX8_isStep 82 = .ok (.iconst 1, 1) := by decide +kernel
theorem dX8_isStep_83 : decode cX8_isStep 83 = .ok (.goto 4, 3) := by decide +kernel
theorem dX8_isStep_86 : decode cX8_isStep 86 = .ok (.iconst 0, 1) := by decide +kernel
theorem dX8_isStep_87 : decode cX8_isStep 87 = .ok (.ireturn, 1) := by decide +kernel
theorem dX8_isStep_88 : decode cX8_isStep 88 = .ok (.iload_n 1, 1) := by decide +kernel
theorem dX8_isStep_89 : decode cX8_isStep 89 = .ok (.iconst 2, 1) := by decide +kernel
theorem dX8_isStep_90 : decode cX8_isStep 90 = .ok (.if_icmp .ne 25, 3) := by decide +kernel
theorem dX8_isStep_93 : decode cX8_isStep 93 = .ok (.aload_n 0, 1) := by decide +kernel
theorem dX8_isStep_94 : decode cX8_isStep 94 = .ok (.iload_n 3, 1) := by decide +kernel
theorem dX8_isStep_95 : decode cX8_isStep 95 = .ok (.invokevirtual 91, 3) := by decide +kernel
theorem dX8_isStep_98 : decode cX8_isStep 98 = .ok (.ifCond .eq 17, 3) := by decide +kernel
theorem dX8_isStep_101 : decode cX8_isStep 101 = .ok (.iload_n 3, 1) := by decide +kernel
theorem dX8_isStep_102 : decode cX8_isStep 102 = .ok (.iload_n 2, 1) := by decide +kernel
theorem dX8_isStep_103 : decode cX8_isStep 103 = .ok (.if_icmp .eq 12, 3) := by decide +kernel
theorem dX8_isStep_106 : decode cX8_isStep 106 = .ok (.iload 4, 2) := by decide +kernel
theorem dX8_isStep_108 : decode cX8_isStep 108 = .ok (.ifCond .ne 7, 3) := by decide +kernel
theorem dX8_isStep_111 : decode cX8_isStep 111 = .ok (.iconst 1, 1) := by decide +kernel
theorem dX8_isStep_112 : decode cX8_isStep 112 = .ok (.goto 4, 3) := by decide +kernel
theorem dX8_isStep_115 : decode cX8_isStep 115 = .ok (.iconst 0, 1) := by decide +kernel
theorem dX8_isStep_116 : decode cX8_isStep 116 = .ok (.ireturn, 1) := by decide +kernel
theorem dX8_take_0 : decode cX8_take 0 = .ok (.iload_n 1, 1) := by decide +kernel
theorem dX8_take_1 : decode cX8_take 1 = .ok (.ifCond .ne 18, 3) := by decide +kernel
theorem dX8_take_4 : decode cX8_take 4 = .ok (.aload_n 0, 1) := by decide +kernel
theorem dX8_take_5 : decode cX8_take 5 = .ok (.getfield 55, 3) := by decide +kernel
theorem dX8_take_8 : decode cX8_take 8 = .ok (.iload_n 2, 1) := by decide +kernel
theorem dX8_take_9 : decode cX8_take 9 = .ok (.iload_n 3, 1) := by decide +kernel
theorem dX8_take_10 : decode cX8_take 10 = .ok (.iload 4, 2) := by decide +kernel
theorem dX8_take_12 : decode cX8_take 12 = .ok (.invokevirtual 150, 3) := by decide +kernel
theorem dX8_take_15 : decode cX8_take 15 = .ok (.pop, 1) := by decide +kernel
theorem dX8_take_16 : decode cX8_take 16 = .ok (.goto 55, 3) := by decide +kernel
theorem dX8_take_19 : decode cX8_take 19 = .ok (.iload_n 1, 1) := by decide +kernel
theorem dX8_take_20 : decode cX8_take 20 = .ok (.iconst 1, 1) := by decide +kernel
theorem dX8_take_21 : decode cX8_take 21 = .ok (.if_icmp .ne 20, 3) := by decide +kernel
theorem dX8_take_24 : decode cX8_take 24 = .ok (.aload_n 0, 1) := by decide +kernel
theorem dX8_take_25 : decode cX8_take 25 = .ok (.getfield 55, 3) := by decide +kernel
theorem dX8_take_28 : decode cX8_take 28 = .ok (.getfield 99, 3) := by decide +kernel
theorem dX8_take_31 : decode cX8_take 31 = .ok (.iload_n 2, 1) := by decide +kernel
theorem dX8_take_32 : decode cX8_take 32 = .ok (.aaload, 1) := by decide +kernel
theorem dX8_take_33 : decode cX8_take 33 = .ok (.iload_n 3, 1) := by decide +kernel
theorem dX8_take_34 : decode cX8_take 34 = .ok (.invokevirtual 153, 3) := by decide +kernel
theorem dX8_take_37 : decode cX8_take 37 = .ok (.pop, 1) := by decide +kernel
theorem dX8_take_38 : decode cX8_take 38 = .ok (.goto 33, 3) := by decide +kernel
theorem dX8_take_41 : decode cX8_take 41 = .ok (.iload_n 1, 1) := by decide +kernel
theorem dX8_take_42 : decode cX8_take 42 = .ok (.iconst 2, 1) := by decide +kernel
theorem dX8_take_43 : decode cX8_take 43 = .ok (.if_icmp .ne 16, 3) := by decide +kernel
theorem dX8_take_46 : decode cX8_take 46 = .ok (.aload_n 0, 1) := by decide +kernel
theorem dX8_take_47 : decode cX8_take 47 = .ok (.getfield 55, 3) := by decide +kernel
theorem dX8_take_50 : decode cX8_take 50 = .ok (.iload_n 2, 1) := by decide +kernel
theorem dX8_take_51 : decode cX8_take 51 = .ok (.iload_n 3, 1) := by decide +kernel
theorem dX8_take_52 : decode cX8_take 52 = .ok (.invokevirtual 156, 3) := by decide +kernel
theorem dX8_take_55 : decode cX8_take 55 = .ok (.pop, 1) := by decide +kernel
theorem dX8_take_56 : decode cX8_take 56 = .ok (.goto 15, 3) := by decide +kernel
theorem dX8_take_59 : decode cX8_take 59 = .ok (.aload_n 0, 1) := by decide +kernel
theorem dX8_take_60 : decode cX8_take 60 = .ok (.getfield 55, 3) := by decide +kernel
theorem dX8_take_63 : decode cX8_take 63 = .ok (.aload_n 0, 1) := by decide +kernel
theorem dX8_take_64 : decode cX8_take 64 = .ok (.getfield 42, 3) := by decide +kernel
theorem dX8_take_67 : decode cX8_take 67 = .ok (.invokevirtual 159, 3) := by decide +kernel
theorem dX8_take_70 : decode cX8_take 70 = .ok (.pop, 1) := by decide +kernel
theorem dX8_take_71 : decode cX8_take 71 = .ok (.return_, 1) := by decide +kernel
theorem dX8_tells_0 : decode cX8_tells 0 = .ok (.iload_n 1, 1) := by decide +kernel
theorem dX8_tells_1 : decode cX8_tells 1 = .ok (.iconst 4, 1) := by decide +kernel
theorem dX8_tells_2 : decode cX8_tells 2 = .ok (.invokestatic 95, 3) := by decide +kernel
theorem dX8_tells_5 : decode cX8_tells 5 = .ok (.ifCond .eq 11, 3) := by decide +kernel
theorem dX8_tells_8 : decode cX8_tells 8 = .ok (.aload_n 0, 1) := by decide +kernel
theorem dX8_tells_9 : decode cX8_tells 9 = .ok (.iload_n 2, 1) := by decide +kernel
theorem dX8_tells_10 : decode cX8_tells 10 = .ok (.invokevirtual 91, 3) := by decide +kernel
theorem dX8_tells_13 : decode cX8_tells 13 = .ok (.ifCond .ne 6, 3) := by decide +kernel
theorem dX8_tells_16 : decode cX8_tells 16 = .ok (.bipush (-2), 2) := by decide +kernel
theorem dX8_tells_18 : decode cX8_tells 18 = .ok (.ireturn, 1) := by decide +kernel
theorem dX8_tells_19 : decode cX8_tells 19 = .ok (.iload_n 3, 1) := by decide +kernel
theorem dX8_tells_20 : decode cX8_tells 20 = .ok (.ifCond .lt 20, 3) := by decide +kernel
theorem dX8_tells_23 : decode cX8_tells 23 = .ok (.iload_n 3, 1) := by decide +kernel
theorem dX8_tells_24 : decode cX8_tells 24 = .ok (.bipush 39, 2) := by decide +kernel
theorem dX8_tells_26 : decode cX8_tells 26 = .ok (.if_icmp .gt 14, 3) := by decide +kernel
theorem dX8_tells_29 : decode cX8_tells 29 = .ok (.iload_n 3, 1) := by decide +kernel
theorem dX8_tells_30 : decode cX8_tells 30 = .ok (.iconst 3, 1) := by decide +kernel
theorem dX8_tells_31 : decode cX8_tells 31 = .ok (.if_icmp .le 12, 3) := by decide +kernel
theorem dX8_tells_34 : decode cX8_tells 34 = .ok (.iload_n 3, 1) := by decide +kernel
theorem dX8_tells_35 : decode cX8_tells 35 = .ok (.bipush 10, 2) := by decide +kernel
theorem dX8_tells_37 : decode cX8_tells 37 = .ok (.if_icmp .ge 6, 3) := by decide +kernel
theorem dX8_tells_40 : decode cX8_tells 40 = .ok (.bipush (-2), 2) := by decide +kernel
theorem dX8_tells_42 : decode cX8_tells 42 = .ok (.ireturn, 1) := by decide +kernel
theorem dX8_tells_43 : decode cX8_tells 43 = .ok (.aload_n 0, 1) := by decide +kernel
theorem dX8_tells_44 : decode cX8_tells 44 = .ok (.getfield 17, 3) := by decide +kernel
theorem dX8_tells_47 : decode cX8_tells 47 = .ok (.iload_n 1, 1) := by decide +kernel
theorem dX8_tells_48 : decode cX8_tells 48 = .ok (.aaload, 1) := by decide +kernel
theorem dX8_tells_49 : decode cX8_tells 49 = .ok (.astore 4, 2) := by decide +kernel
theorem dX8_tells_51 : decode cX8_tells 51 = .ok (.aload 4, 2) := by decide +kernel
theorem dX8_tells_53 : decode cX8_tells 53 = .ok (.invokevirtual 218, 3) := by decide +kernel
theorem dX8_tells_56 : decode cX8_tells 56 = .ok (.ifCond .eq 6, 3) := by decide +kernel
theorem dX8_tells_59 : decode cX8_tells 59 = .ok (.bipush (-11), 2) := by decide +kernel
theorem dX8_tells_61 : decode cX8_tells 61 = .ok (.ireturn, 1) := by decide +kernel
theorem dX8_tells_62 : decode cX8_tells 62 = .ok (.aload 4, 2) := by decide +kernel
theorem dX8_tells_64 : decode cX8_tells 64 = .ok (.getfield 231, 3) := by decide +kernel
theorem dX8_tells_67 : decode cX8_tells 67 = .ok (.bipush 10, 2) := by decide +kernel
theorem dX8_tells_69 : decode cX8_tells 69 = .ok (.if_icmp .eq 6, 3) := by decide +kernel
theorem dX8_tells_72 : decode cX8_tells 72 = .ok (.bipush (-2), 2) := by decide +kernel
theorem dX8_tells_74 : decode cX8_tells 74 = .ok (.ireturn, 1) := by decide +kernel
theorem dX8_tells_75 : decode cX8_tells 75 = .ok (.iload_n 3, 1) := by decide +kernel
theorem dX8_tells_76 : decode cX8_tells 76 = .ok (.ifCond .ne 13, 3) := by decide +kernel
theorem dX8_tells_79 : decode cX8_tells 79 = .ok (.aload_n 0, 1) := by decide +kernel
theorem dX8_tells_80 : decode cX8_tells 80 = .ok (.aload 4, 2) := by decide +kernel
theorem dX8_tells_82 : decode cX8_tells 82 = .ok (.iload_n 2, 1) := by decide +kernel
theorem dX8_tells_83 : decode cX8_tells 83 = .ok (.iconst 0, 1) := by decide +kernel
theorem dX8_tells_84 : decode cX8_tells 84 = .ok (.iconst 0, 1) := by decide +kernel
theorem dX8_tells_85 : decode cX8_tells 85 = .ok (.invokevirtual 244, 3) := by decide +kernel
theorem dX8_tells_88 : decode cX8_tells 88 = .ok (.ireturn, 1) := by decide +kernel
theorem dX8_tells_89 : decode cX8_tells 89 = .ok (.iload_n 3, 1) := by decide +kernel
theorem dX8_tells_90 : decode cX8_tells 90 = .ok (.iconst 3, 1) := by decide +kernel
theorem dX8_tells_91 : decode cX8_tells 91 = .ok (.if_icmp .gt 12, 3) := by decide +kernel
theorem dX8_tells_94 : decode cX8_tells 94 = .ok (.aload_n 0, 1) := by decide +kernel
theorem dX8_tells_95 : decode cX8_tells 95 = .ok (.aload 4, 2) := by decide +kernel
theorem dX8_tells_97 : decode cX8_tells 97 = .ok (.iload_n 2, 1) := by decide +kernel
theorem dX8_tells_98 : decode cX8_tells 98 = .ok (.iload_n 3, 1) := by decide +kernel
theorem dX8_tells_99 : decode cX8_tells 99 = .ok (.invokevirtual 248, 3) := by decide +kernel
theorem dX8_tells_102 : decode cX8_tells 102 = .ok (.ireturn, 1) := by decide +kernel
theorem dX8_tells_103 : decode cX8_tells 103 = .ok (.iload_n 3, 1) := by decide +kernel
theorem dX8_tells_104 : decode cX8_tells 104 = .ok (.bipush 10, 2) := by decide +kernel
theorem dX8_tells_106 : decode cX8_tells 106 = .ok (.irem, 1) := by decide +kernel
theorem dX8_tells_107 : decode cX8_tells 107 = .ok (.istore 5, 2) := by decide +kernel
theorem dX8_tells_109 : decode cX8_tells 109 = .ok (.aload_n 0, 1) := by decide +kernel
theorem dX8_tells_110 : decode cX8_tells 110 = .ok (.getfield 42, 3) := by decide +kernel
theorem dX8_tells_113 : decode cX8_tells 113 = .ok (.aload_n 0, 1) := by decide +kernel
theorem dX8_tells_114 : decode cX8_tells 114 = .ok (.getfield 51, 3) := by decide +kernel
theorem dX8_tells_117 : decode cX8_tells 117 = .ok (.iload_n 2, 1) := by decide +kernel
theorem dX8_tells_118 : decode cX8_tells 118 = .ok (.iload 5, 2) := by decide +kernel
theorem dX8_tells_120 : decode cX8_tells 120 = .ok (.invokevirtual 139, 3) := by decide +kernel
theorem dX8_tells_123 : decode cX8_tells 123 = .ok (.aload_n 0, 1) := by decide +kernel
theorem dX8_tells_124 : decode cX8_tells 124 = .ok (.getfield 42, 3) := by decide +kernel
theorem dX8_tells_127 : decode cX8_tells 127 = .ok (.getfield 199, 3) := by decide +kernel
theorem dX8_tells_130 : decode cX8_tells 130 = .ok (.iconst 0, 1) := by decide +kernel
theorem dX8_tells_131 : decode cX8_tells 131 = .ok (.iaload, 1) := by decide +kernel
theorem dX8_tells_132 : decode cX8_tells 132 = .ok (.iconst (-1), 1) := by decide +kernel
theorem dX8_tells_133 : decode cX8_tells 133 = .ok (.if_icmp .ne 15, 3) := by decide +kernel
theorem dX8_tells_136 : decode cX8_tells 136 = .ok (.iload_n 3, 1) := by decide +kernel
theorem dX8_tells_137 : decode cX8_tells 137 = .ok (.bipush 30, 2) := by decide +kernel
theorem dX8_tells_139 : decode cX8_tells 139 = .ok (.if_icmp .lt 7, 3) := by decide +kernel
theorem dX8_tells_142 : decode cX8_tells 142 = .ok (.iconst (-1), 1) := by decide +kernel
theorem dX8_tells_143 : decode cX8_tells 143 = .ok (.goto 4, 3) := by decide +kernel
theorem dX8_tells_146 : decode cX8_tells 146 = .ok (.iconst 0, 1) := by decide +kernel
theorem dX8_tells_147 : decode cX8_tells 147 = .ok (.ireturn, 1) := by decide +kernel
theorem dX8_tells_148 : decode cX8_tells 148 = .ok (.iload_n 3, 1) := by decide +kernel
theorem dX8_tells_149 : decode cX8_tells 149 = .ok (.bipush 20, 2) := by decide +kernel
theorem dX8_tells_151 : decode cX8_tells 151 = .ok (.if_icmp .ge 18, 3) := by decide +kernel
theorem dX8_tells_154 : decode cX8_tells 154 = .ok (.aload_n 0, 1) := by decide +kernel
theorem dX8_tells_155 : decode cX8_tells 155 = .ok (.aload 4, 2) := by decide +kernel
theorem dX8_tells_157 : decode cX8_tells 157 = .ok (.getfield 232, 3) := by decide +kernel
theorem dX8_tells_160 : decode cX8_tells 160 = .ok (.iload 5, 2) := by decide +kernel
theorem dX8_tells_162 : decode cX8_tells 162 = .ok (.iaload, 1) := by decide +kernel
theorem dX8_tells_163 : decode cX8_tells 163 = .ok (.invokevirtual 252, 3) := by decide +kernel
theorem dX8_tells_166 : decode cX8_tells 166 = .ok (.goto 26, 3) := by decide +kernel
theorem dX8_tells_169 : decode cX8_tells 169 = .ok (.aload_n 0, 1) := by decide +kernel
theorem dX8_tells_170 : decode cX8_tells 170 = .ok (.aload 4, 2) := by decide +kernel
theorem dX8_tells_172 : decode cX8_tells 172 = .ok (.getfield 232, 3) := by decide +kernel
theorem dX8_tells_175 : decode cX8_tells 175 = .ok (.iload 5, 2) := by decide +kernel
theorem dX8_tells_177 : decode cX8_tells 177 = .ok (.iaload, 1) := by decide +kernel
theorem dX8_tells_178 : decode cX8_tells 178 = .ok (.iload_n 3, 1) := by decide +kernel
theorem dX8_tells_179 : decode cX8_tells 179 = .ok (.bipush 30, 2) := by decide +kernel
theorem dX8_tells_181 : decode cX8_tells 181 = .ok (.if_icmp .lt 7, 3) := by decide +kernel
theorem dX8_tells_184 : decode cX8_tells 184 = .ok (.iconst 1, 1) := by decide +kernel
theorem dX8_tells_185 : decode cX8_tells 185 = .ok (.goto 4, 3) := by decide +kernel
theorem dX8_tells_188 : decode cX8_tells 188 = .ok (.iconst 0, 1) := by decide +kernel
theorem dX8_tells_189 : decode cX8_tells 189 = .ok (.invokevirtual 255, 3) := by decide +kernel
theorem dX8_tells_192 : decode cX8_tells 192 = .ok (.ireturn, 1) := by decide +kernel
theorem dX8_firstOtherwise_0 : decode cX8_firstOtherwise 0 = .ok (.iconst 0, 1) := by decide +kernel
theorem dX8_firstOtherwise_1 : decode cX8_firstOtherwise 1 = .ok (.istore 5, 2) := by decide +kernel
theorem dX8_firstOtherwise_3 : decode cX8_firstOtherwise 3 = .ok (.iload 5, 2) := by decide +kernel
theorem dX8_firstOtherwise_5 : decode cX8_firstOtherwise 5 = .ok (.bipush 10, 2) := by decide +kernel
theorem dX8_firstOtherwise_7 : decode cX8_firstOtherwise 7 = .ok (.if_icmp .ge 106, 3) := by decide +kernel
theorem dX8_firstOtherwise_10 : decode cX8_firstOtherwise 10 = .ok (.aload_n 0, 1) := by decide +kernel
theorem dX8_firstOtherwise_11 : decode cX8_firstOtherwise 11 = .ok (.getfield 42, 3) := by decide +kernel
theorem dX8_firstOtherwise_14 : decode cX8_firstOtherwise 14 = .ok (.aload_n 0, 1) := by decide +kernel
theorem dX8_firstOtherwise_15 : decode cX8_firstOtherwise 15 = .ok (.getfield 51, 3) := by decide +kernel
theorem dX8_firstOtherwise_18 : decode cX8_firstOtherwise 18 = .ok (.iload_n 2, 1) := by decide +kernel
theorem dX8_firstOtherwise_19 : decode cX8_firstOtherwise 19 = .ok (.iload 5, 2) := by decide +kernel
theorem dX8_firstOtherwise_21 : decode cX8_firstOtherwise 21 = .ok (.invokevirtual 139, 3) := by decide +kernel
theorem dX8_firstOtherwise_24 : decode cX8_firstOtherwise 24 = .ok (.iload_n 3, 1) := by decide +kernel
theorem dX8_firstOtherwise_25 : decode cX8_firstOtherwise 25 = .ok (.iconst 1, 1) := by decide +kernel
theorem dX8_firstOtherwise_26 : decode cX8_firstOtherwise 26 = .ok (.if_icmp .ne 12, 3) := by decide +kernel
theorem dX8_firstOtherwise_29 : decode cX8_firstOtherwise 29 = .ok (.aload_n 0, 1) := by decide +kernel
theorem dX8_firstOtherwise_30 : decode cX8_firstOtherwise 30 = .ok (.getfield 42, 3) := by decide +kernel
theorem dX8_firstOtherwise_33 : decode cX8_firstOtherwise 33 = .ok (.iload 4, 2) := by decide +kernel
theorem dX8_firstOtherwise_35 : decode cX8_firstOtherwise 35 = .ok (.putfield 258, 3) := by decide +kernel
theorem dX8_firstOtherwise_38 : decode cX8_firstOtherwise 38 = .ok (.iload_n 3, 1) := by decide +kernel
theorem dX8_firstOtherwise_39 : decode cX8_firstOtherwise 39 = .ok (.iconst 2, 1) := by decide +kernel
theorem dX8_firstOtherwise_40 : decode cX8_firstOtherwise 40 = .ok (.if_icmp .ne 14, 3) := by decide +kernel
theorem dX8_firstOtherwise_43 : decode cX8_firstOtherwise 43 = .ok (.aload_n 0, 1) := by decide +kernel
theorem dX8_firstOtherwise_44 : decode cX8_firstOtherwise 44 = .ok (.getfield 42, 3) := by decide +kernel
theorem dX8_firstOtherwise_47 : decode cX8_firstOtherwise 47 = .ok (.getfield 199, 3) := by decide +kernel
theorem dX8_firstOtherwise_50 : decode cX8_firstOtherwise 50 = .ok (.iconst 3, 1) := by decide +kernel
theorem dX8_firstOtherwise_51 : decode cX8_firstOtherwise 51 = .ok (.iload 4, 2) := by decide +kernel
theorem dX8_firstOtherwise_53 : decode cX8_firstOtherwise 53 = .ok (.iastore, 1) := by decide +kernel
theorem dX8_firstOtherwise_54 : decode cX8_firstOtherwise 54 = .ok (.iload_n 3, 1) := by decide +kernel
theorem dX8_firstOtherwise_55 : decode cX8_firstOtherwise 55 = .ok (.iconst 3, 1) := by decide +kernel
theorem dX8_firstOtherwise_56 : decode cX8_firstOtherwise 56 = .ok (.if_icmp .ne 29, 3) := by decide +kernel
theorem dX8_firstOtherwise_59 : decode cX8_firstOtherwise 59 = .ok (.iload 4, 2) := by decide +kernel
theorem dX8_firstOtherwise_61 : decode cX8_firstOtherwise 61 = .ok (.aload_n 0, 1) := by decide +kernel
theorem dX8_firstOtherwise_62 : decode cX8_firstOtherwise 62 = .ok (.getfield 81, 3) := by decide +kernel
theorem dX8_firstOtherwise_65 : decode cX8_firstOtherwise 65 = .ok (.invokestatic 95, 3) := by decide +kernel
theorem dX8_firstOtherwise_68 : decode cX8_firstOtherwise 68 = .ok (.ifCond .eq 17, 3) := by decide +kernel
theorem dX8_firstOtherwise_71 : decode cX8_firstOtherwise 71 = .ok (.aload_n 0, 1) := by decide +kernel
theorem dX8_firstOtherwise_72 : decode cX8_firstOtherwise 72 = .ok (.getfield 42, 3) := by decide +kernel
theorem dX8_firstOtherwise_75 : decode cX8_firstOtherwise 75 = .ok (.aload_n 0, 1) := by decide +kernel
theorem dX8_firstOtherwise_76 : decode cX8_firstOtherwise 76 = .ok (.getfield 11, 3) := by decide +kernel
theorem dX8_firstOtherwise_79 : decode cX8_firstOtherwise 79 = .ok (.iload 4, 2) := by decide +kernel
theorem dX8_firstOtherwise_81 : decode cX8_firstOtherwise 81 = .ok (.aaload, 1) := by decide +kernel
theorem dX8_firstOtherwise_82 : decode cX8_firstOtherwise 82 = .ok (.putfield 259, 3) := by decide +kernel
theorem dX8_firstOtherwise_85 : decode cX8_firstOtherwise 85 = .ok (.aload_n 0, 1) := by decide +kernel
theorem dX8_firstOtherwise_86 : decode cX8_firstOtherwise 86 = .ok (.getfield 42, 3) := by decide +kernel
theorem dX8_firstOtherwise_89 : decode cX8_firstOtherwise 89 = .ok (.bipush 60, 2) := by decide +kernel
theorem dX8_firstOtherwise_91 : decode cX8_firstOtherwise 91 = .ok (.invokevirtual 181, 3) := by decide +kernel
theorem dX8_firstOtherwise_94 : decode cX8_firstOtherwise 94 = .ok (.aload_n 1, 1) := by decide +kernel
theorem dX8_firstOtherwise_95 : decode cX8_firstOtherwise 95 = .ok (.getfield 232, 3) := by decide +kernel
theorem dX8_firstOtherwise_98 : decode cX8_firstOtherwise 98 = .ok (.iload 5, 2) := by decide +kernel
theorem dX8_firstOtherwise_100 : decode cX8_firstOtherwise 100 = .ok (.iaload, 1) := by decide +kernel
theorem dX8_firstOtherwise_101 : decode cX8_firstOtherwise 101 = .ok (.if_icmp .eq 6, 3) := by decide +kernel
theorem dX8_firstOtherwise_104 : decode cX8_firstOtherwise 104 = .ok (.iload 5, 2) := by decide +kernel
theorem dX8_firstOtherwise_106 : decode cX8_firstOtherwise 106 = .ok (.ireturn, 1) := by decide +kernel
theorem dX8_firstOtherwise_107 : decode cX8_firstOtherwise 107 = .ok (.iinc 5 1, 3) := by decide +kernel
theorem dX8_firstOtherwise_110 : decode cX8_firstOtherwise 110 = .ok (.goto (-107), 3) := by decide +kernel
theorem dX8_firstOtherwise_113 : decode cX8_firstOtherwise 113 = .ok (.iconst (-1), 1) := by decide +kernel
theorem dX8_firstOtherwise_114 : decode cX8_firstOtherwise 114 = .ok (.ireturn, 1) := by decide +kernel
theorem dX8_allAsTold_0 : decode cX8_allAsTold 0 = .ok (.iload_n 3, 1) := by decide +kernel
theorem dX8_allAsTold_1 : decode cX8_allAsTold 1 = .ok (.iconst 1, 1) := by decide +kernel
theorem dX8_allAsTold_2 : decode cX8_allAsTold 2 = .ok (.if_icmp .ne 8, 3) := by decide +kernel
theorem dX8_allAsTold_5 : decode cX8_allAsTold 5 = .ok (.bipush 6, 2) := by decide +kernel
theorem dX8_allAsTold_7 : decode cX8_allAsTold 7 = .ok (.goto 17, 3) := by decide +kernel
theorem dX8_allAsTold_10 : decode cX8_allAsTold 10 = .ok (.iload_n 3, 1) := by decide +kernel
theorem dX8_allAsTold_11 : decode cX8_allAsTold 11 = .ok (.iconst 2, 1) := by decide +kernel
theorem dX8_allAsTold_12 : decode cX8_allAsTold 12 = .ok (.if_icmp .ne 8, 3) := by decide +kernel
theorem dX8_allAsTold_15 : decode cX8_allAsTold 15 = .ok (.bipush 10, 2) := by decide +kernel
theorem dX8_allAsTold_17 : decode cX8_allAsTold 17 = .ok (.goto 7, 3) := by decide +kernel
theorem dX8_allAsTold_20 : decode cX8_allAsTold 20 = .ok (.aload_n 0, 1) := by decide +kernel
theorem dX8_allAsTold_21 : decode cX8_allAsTold 21 = .ok (.getfield 81, 3) := by decide +kernel
theorem dX8_allAsTold_24 : decode cX8_allAsTold 24 = .ok (.istore 4, 2) := by decide +kernel
theorem dX8_allAsTold_26 : decode cX8_allAsTold 26 = .ok (.iconst 0, 1) := by decide +kernel
theorem dX8_allAsTold_27 : decode cX8_allAsTold 27 = .ok (.istore 5, 2) := by decide +kernel
theorem dX8_allAsTold_29 : decode cX8_allAsTold 29 = .ok (.iconst 0, 1) := by decide +kernel
theorem dX8_allAsTold_30 : decode cX8_allAsTold 30 = .ok (.istore 6, 2) := by decide +kernel
theorem dX8_allAsTold_32 : decode cX8_allAsTold 32 = .ok (.iload 6, 2) := by decide +kernel
theorem dX8_allAsTold_34 : decode cX8_allAsTold 34 = .ok (.iload 4, 2) := by decide +kernel
theorem dX8_allAsTold_36 : decode cX8_allAsTold 36 = .ok (.if_icmp .ge 31, 3) := by decide +kernel
theorem dX8_allAsTold_39 : decode cX8_allAsTold 39 = .ok (.aload_n 0, 1) := by decide +kernel
theorem dX8_allAsTold_40 : decode cX8_allAsTold 40 = .ok (.aload_n 1, 1) := by decide +kernel
theorem dX8_allAsTold_41 : decode cX8_allAsTold 41 = .ok (.iload_n 2, 1) := by decide +kernel
theorem dX8_allAsTold_42 : decode cX8_allAsTold 42 = .ok (.iload_n 3, 1) := by decide +kernel
theorem dX8_allAsTold_43 : decode cX8_allAsTold 43 = .ok (.iload 6, 2) := by decide +kernel
theorem dX8_allAsTold_45 : decode cX8_allAsTold 45 = .ok (.invokevirtual 244, 3) := by decide +kernel
theorem dX8_allAsTold_48 : decode cX8_allAsTold 48 = .ok (.iconst (-1), 1) := by decide +kernel
theorem dX8_allAsTold_49 : decode cX8_allAsTold 49 = .ok (.if_icmp .ne 12, 3) := by decide +kernel
theorem dX8_allAsTold_52 : decode cX8_allAsTold 52 = .ok (.iload 5, 2) := by decide +kernel
theorem dX8_allAsTold_54 : decode cX8_allAsTold 54 = .ok (.iconst 1, 1) := by decide +kernel
theorem dX8_allAsTold_55 : decode cX8_allAsTold 55 = .ok (.iload 6, 2) := by decide +kernel
theorem dX8_allAsTold_57 : decode cX8_allAsTold 57 = .ok (.ishl, 1) := by decide +kernel
theorem dX8_allAsTold_58 : decode cX8_allAsTold 58 = .ok (.ior, 1) := by decide +kernel
theorem dX8_allAsTold_59 : decode cX8_allAsTold 59 = .ok (.istore 5, 2) := by decide +kernel
theorem dX8_allAsTold_61 : decode cX8_allAsTold 61 = .ok (.iinc 6 1, 3) := by decide +kernel
theorem dX8_allAsTold_64 : decode cX8_allAsTold 64 = .ok (.goto (-32), 3) := by decide +kernel
theorem dX8_allAsTold_67 : decode cX8_allAsTold 67 = .ok (.iload 5, 2) := by decide +kernel
theorem dX8_allAsTold_69 : decode cX8_allAsTold 69 = .ok (.ireturn, 1) := by decide +kernel
theorem dX8_wordsAsTold_0 : decode cX8_wordsAsTold 0 = .ok (.iconst 0, 1) := by decide +kernel
theorem dX8_wordsAsTold_1 : decode cX8_wordsAsTold 1 = .ok (.istore_n 2, 1) := by decide +kernel
theorem dX8_wordsAsTold_2 : decode cX8_wordsAsTold 2 = .ok (.iconst 0, 1) := by decide +kernel
theorem dX8_wordsAsTold_3 : decode cX8_wordsAsTold 3 = .ok (.istore_n 3, 1) := by decide +kernel
theorem dX8_wordsAsTold_4 : decode cX8_wordsAsTold 4 = .ok (.iload_n 3, 1) := by decide +kernel
theorem dX8_wordsAsTold_5 : decode cX8_wordsAsTold 5 = .ok (.bipush 16, 2) := by decide +kernel
theorem dX8_wordsAsTold_7 : decode cX8_wordsAsTold 7 = .ok (.if_icmp .ge 38, 3) := by decide +kernel
theorem dX8_wordsAsTold_10 : decode cX8_wordsAsTold 10 = .ok (.aload_n 0, 1) := by decide +kernel
theorem dX8_wordsAsTold_11 : decode cX8_wordsAsTold 11 = .ok (.getfield 42, 3) := by decide +kernel
theorem dX8_wordsAsTold_14 : decode cX8_wordsAsTold 14 = .ok (.getfield 199, 3) := by decide +kernel
theorem dX8_wordsAsTold_17 : decode cX8_wordsAsTold 17 = .ok (.iconst 0, 1) := by decide +kernel
theorem dX8_wordsAsTold_18 : decode cX8_wordsAsTold 18 = .ok (.iload_n 3, 1) := by decide +kernel
theorem dX8_wordsAsTold_19 : decode cX8_wordsAsTold 19 = .ok (.iastore, 1) := by decide +kernel
theorem dX8_wordsAsTold_20 : decode cX8_wordsAsTold 20 = .ok (.aload_n 0, 1) := by decide +kernel
theorem dX8_wordsAsTold_21 : decode cX8_wordsAsTold 21 = .ok (.getfield 42, 3) := by decide +kernel
theorem dX8_wordsAsTold_24 : decode cX8_wordsAsTold 24 = .ok (.bipush 60, 2) := by decide +kernel
theorem dX8_wordsAsTold_26 : decode cX8_wordsAsTold 26 = .ok (.invokevirtual 181, 3) := by decide +kernel
theorem dX8_wordsAsTold_29 : decode cX8_wordsAsTold 29 = .ok (.iload_n 1, 1) := by decide +kernel
theorem dX8_wordsAsTold_30 : decode cX8_wordsAsTold 30 = .ok (.if_icmp .ne 9, 3) := by decide +kernel
theorem dX8_wordsAsTold_33 : decode cX8_wordsAsTold 33 = .ok (.iload_n 2, 1) := by decide +kernel
theorem dX8_wordsAsTold_34 : decode cX8_wordsAsTold 34 = .ok (.iconst 1, 1) := by decide +kernel
theorem dX8_wordsAsTold_35 : decode cX8_wordsAsTold 35 = .ok (.iload_n 3, 1) := by decide +kernel
theorem dX8_wordsAsTold_36 : decode cX8_wordsAsTold 36 = .ok (.ishl, 1) := by decide +kernel
theorem dX8_wordsAsTold_37 : decode cX8_wordsAsTold 37 = .ok (.ior, 1) := by decide +kernel
theorem dX8_wordsAsTold_38 : decode cX8_wordsAsTold 38 = .ok (.istore_n 2, 1) := by decide +kernel
theorem dX8_wordsAsTold_39 : decode cX8_wordsAsTold 39 = .ok (.iinc 3 1, 3) := by decide +kernel
theorem dX8_wordsAsTold_42 : decode cX8_wordsAsTold 42 = .ok (.goto (-38), 3) := by decide +kernel
theorem dX8_wordsAsTold_45 : decode cX8_wordsAsTold 45 = .ok (.iload_n 2, 1) := by decide +kernel
theorem dX8_wordsAsTold_46 : decode cX8_wordsAsTold 46 = .ok (.ireturn, 1) := by decide +kernel
theorem dX8_agesAsTold_0 : decode cX8_agesAsTold 0 = .ok (.iconst 0, 1) := by decide +kernel
theorem dX8_agesAsTold_1 : decode cX8_agesAsTold 1 = .ok (.istore_n 3, 1) := by decide +kernel
theorem dX8_agesAsTold_2 : decode cX8_agesAsTold 2 = .ok (.iconst 0, 1) := by decide +kernel
theorem dX8_agesAsTold_3 : decode cX8_agesAsTold 3 = .ok (.istore 4, 2) := by decide +kernel
theorem dX8_agesAsTold_5 : decode cX8_agesAsTold 5 = .ok (.iload 4, 2) := by decide +kernel
theorem dX8_agesAsTold_7 : decode cX8_agesAsTold 7 = .ok (.bipush 61, 2) := by decide +kernel
theorem dX8_agesAsTold_9 : decode cX8_agesAsTold 9 = .ok (.if_icmp .ge 44, 3) := by decide +kernel
theorem dX8_agesAsTold_12 : decode cX8_agesAsTold 12 = .ok (.aload_n 0, 1) := by decide +kernel
theorem dX8_agesAsTold_13 : decode cX8_agesAsTold 13 = .ok (.getfield 42, 3) := by decide +kernel
theorem dX8_agesAsTold_16 : decode cX8_agesAsTold 16 = .ok (.iload 4, 2) := by decide +kernel
theorem dX8_agesAsTold_18 : decode cX8_agesAsTold 18 = .ok (.putfield 202, 3) := by decide +kernel
theorem dX8_agesAsTold_21 : decode cX8_agesAsTold 21 = .ok (.aload_n 0, 1) := by decide +kernel
theorem dX8_agesAsTold_22 : decode cX8_agesAsTold 22 = .ok (.getfield 42, 3) := by decide +kernel
theorem dX8_agesAsTold_25 : decode cX8_agesAsTold 25 = .ok (.bipush 60, 2) := by decide +kernel
theorem dX8_agesAsTold_27 : decode cX8_agesAsTold 27 = .ok (.invokevirtual 181, 3) := by decide +kernel
theorem dX8_agesAsTold_30 : decode cX8_agesAsTold 30 = .ok (.iload_n 1, 1) := by decide +kernel
theorem dX8_agesAsTold_31 : decode cX8_agesAsTold 31 = .ok (.if_icmp .eq 6, 3) := by decide +kernel
theorem dX8_agesAsTold_34 : decode cX8_agesAsTold 34 = .ok (.goto 13, 3) := by decide +kernel
theorem dX8_agesAsTold_37 : decode cX8_agesAsTold 37 = .ok (.iload_n 2, 1) := by decide +kernel
theorem dX8_agesAsTold_38 : decode cX8_agesAsTold 38 = .ok (.ifCond .eq 6, 3) := by decide +kernel
theorem dX8_agesAsTold_41 : decode cX8_agesAsTold 41 = .ok (.iload 4, 2) := by decide +kernel
theorem dX8_agesAsTold_43 : decode cX8_agesAsTold 43 = .ok (.ireturn, 1) := by decide +kernel
theorem dX8_agesAsTold_44 : decode cX8_agesAsTold 44 = .ok (.iinc 3 1, 3) := by decide +kernel
theorem dX8_agesAsTold_47 : decode cX8_agesAsTold 47 = .ok (.iinc 4 1, 3) := by decide +kernel
theorem dX8_agesAsTold_50 : decode cX8_agesAsTold 50 = .ok (.goto (-45), 3) := by decide +kernel
theorem dX8_agesAsTold_53 : decode cX8_agesAsTold 53 = .ok (.iload_n 2, 1) := by decide +kernel
theorem dX8_agesAsTold_54 : decode cX8_agesAsTold 54 = .ok (.ifCond .eq 7, 3) := by decide +kernel
theorem dX8_agesAsTold_57 : decode cX8_agesAsTold 57 = .ok (.iconst (-1), 1) := by decide +kernel
theorem dX8_agesAsTold_58 : decode cX8_agesAsTold 58 = .ok (.goto 4, 3) := by decide +kernel
theorem dX8_agesAsTold_61 : decode cX8_agesAsTold 61 = .ok (.iload_n 3, 1) := by decide +kernel
theorem dX8_agesAsTold_62 : decode cX8_agesAsTold 62 = .ok (.ireturn, 1) := by decide +kernel
theorem dX8_film_0 : decode cX8_film 0 = .ok (.iload_n 1, 1) := by decide +kernel
theorem dX8_film_1 : decode cX8_film 1 = .ok (.iconst 4, 1) := by decide +kernel
theorem dX8_film_2 : decode cX8_film 2 = .ok (.invokestatic 95, 3) := by decide +kernel
theorem dX8_film_5 : decode cX8_film 5 = .ok (.ifCond .eq 11, 3) := by decide +kernel
theorem dX8_film_8 : decode cX8_film 8 = .ok (.aload_n 0, 1) := by decide +kernel
theorem dX8_film_9 : decode cX8_film 9 = .ok (.iload_n 2, 1) := by decide +kernel
theorem dX8_film_10 : decode cX8_film 10 = .ok (.invokevirtual 91, 3) := by decide +kernel
theorem dX8_film_13 : decode cX8_film 13 = .ok (.ifCond .ne 6, 3) := by decide +kernel
theorem dX8_film_16 : decode cX8_film 16 = .ok (.bipush (-2), 2) := by decide +kernel
theorem dX8_film_18 : decode cX8_film 18 = .ok (.ireturn, 1) := by decide +kernel
theorem dX8_film_19 : decode cX8_film 19 = .ok (.aload_n 0, 1) := by decide +kernel
theorem dX8_film_20 : decode cX8_film 20 = .ok (.getfield 17, 3) := by decide +kernel
theorem dX8_film_23 : decode cX8_film 23 = .ok (.iload_n 1, 1) := by decide +kernel
theorem dX8_film_24 : decode cX8_film 24 = .ok (.aaload, 1) := by decide +kernel
theorem dX8_film_25 : decode cX8_film 25 = .ok (.iconst 0, 1) := by decide +kernel
theorem dX8_film_26 : decode cX8_film 26 = .ok (.bipush 10, 2) := by decide +kernel
theorem dX8_film_28 : decode cX8_film 28 = .ok (.invokevirtual 263, 3) := by decide +kernel
theorem dX8_film_31 : decode cX8_film 31 = .ok (.iconst 0, 1) := by decide +kernel
theorem dX8_film_32 : decode cX8_film 32 = .ok (.istore_n 3, 1) := by decide +kernel
theorem dX8_film_33 : decode cX8_film 33 = .ok (.iload_n 3, 1) := by decide +kernel
theorem dX8_film_34 : decode cX8_film 34 = .ok (.bipush 10, 2) := by decide +kernel
theorem dX8_film_36 : decode cX8_film 36 = .ok (.if_icmp .ge 41, 3) := by decide +kernel
theorem dX8_film_39 : decode cX8_film 39 = .ok (.aload_n 0, 1) := by decide +kernel
theorem dX8_film_40 : decode cX8_film 40 = .ok (.getfield 42, 3) := by decide +kernel
theorem dX8_film_43 : decode cX8_film 43 = .ok (.aload_n 0, 1) := by decide +kernel
theorem dX8_film_44 : decode cX8_film 44 = .ok (.getfield 51, 3) := by decide +kernel
theorem dX8_film_47 : decode cX8_film 47 = .ok (.iload_n 2, 1) := by decide +kernel
theorem dX8_film_48 : decode cX8_film 48 = .ok (.iload_n 3, 1) := by decide +kernel
theorem dX8_film_49 : decode cX8_film 49 = .ok (.invokevirtual 139, 3) := by decide +kernel
theorem dX8_film_52 : decode cX8_film 52 = .ok (.aload_n 0, 1) := by decide +kernel
theorem dX8_film_53 : decode cX8_film 53 = .ok (.getfield 17, 3) := by decide +kernel
theorem dX8_film_56 : decode cX8_film 56 = .ok (.iload_n 1, 1) := by decide +kernel
theorem dX8_film_57 : decode cX8_film 57 = .ok (.aaload, 1) := by decide +kernel
theorem dX8_film_58 : decode cX8_film 58 = .ok (.iload_n 3, 1) := by decide +kernel
theorem dX8_film_59 : decode cX8_film 59 = .ok (.aload_n 0, 1) := by decide +kernel
theorem dX8_film_60 : decode cX8_film 60 = .ok (.getfield 42, 3) := by decide +kernel
theorem dX8_film_63 : decode cX8_film 63 = .ok (.bipush 60, 2) := by decide +kernel
theorem dX8_film_65 : decode cX8_film 65 = .ok (.invokevirtual 181, 3) := by decide +kernel
theorem dX8_film_68 : decode cX8_film 68 = .ok (.invokevirtual 266, 3) := by decide +kernel
theorem dX8_film_71 : decode cX8_film 71 = .ok (.iinc 3 1, 3) := by decide +kernel
theorem dX8_film_74 : decode cX8_film 74 = .ok (.goto (-41), 3) := by decide +kernel
theorem dX8_film_77 : decode cX8_film 77 = .ok (.bipush 10, 2) := by decide +kernel
theorem dX8_film_79 : decode cX8_film 79 = .ok (.ireturn, 1) := by decide +kernel
theorem dX8_drawn_0 : decode cX8_drawn 0 = .ok (.aload_n 0, 1) := by decide +kernel
theorem dX8_drawn_1 : decode cX8_drawn 1 = .ok (.iload_n 1, 1) := by decide +kernel
theorem dX8_drawn_2 : decode cX8_drawn 2 = .ok (.invokevirtual 91, 3) := by decide +kernel
theorem dX8_drawn_5 : decode cX8_drawn 5 = .ok (.ifCond .eq 13, 3) := by decide +kernel
theorem dX8_drawn_8 : decode cX8_drawn 8 = .ok (.iload_n 3, 1) := by decide +kernel
theorem dX8_drawn_9 : decode cX8_drawn 9 = .ok (.ifCond .lt 9, 3) := by decide +kernel
theorem dX8_drawn_12 : decode cX8_drawn 12 = .ok (.iload_n 3, 1) := by decide +kernel
theorem dX8_drawn_13 : decode cX8_drawn 13 = .ok (.bipush 16, 2) := by decide +kernel
theorem dX8_drawn_15 : decode cX8_drawn 15 = .ok (.if_icmp .le 6, 3) := by decide +kernel
theorem dX8_drawn_18 : decode cX8_drawn 18 = .ok (.bipush (-2), 2) := by decide +kernel
theorem dX8_drawn_20 : decode cX8_drawn 20 = .ok (.ireturn, 1) := by decide +kernel
theorem dX8_drawn_21 : decode cX8_drawn 21 = .ok (.aload_n 0, 1) := by decide +kernel
theorem dX8_drawn_22 : decode cX8_drawn 22 = .ok (.iload_n 1, 1) := by decide +kernel
theorem dX8_drawn_23 : decode cX8_drawn 23 = .ok (.iload_n 2, 1) := by decide +kernel
theorem dX8_drawn_24 : decode cX8_drawn 24 = .ok (.iload_n 3, 1) := by decide +kernel
theorem dX8_drawn_25 : decode cX8_drawn 25 = .ok (.invokevirtual 268, 3) := by decide +kernel
theorem dX8_drawn_28 : decode cX8_drawn 28 = .ok (.ireturn, 1) := by decide +kernel
theorem dX8_stuckByDraw_0 : decode cX8_stuckByDraw 0 = .ok (.aload_n 0, 1) := by decide +kernel
theorem dX8_stuckByDraw_1 : decode cX8_stuckByDraw 1 = .ok (.getfield 55, 3) := by decide +kernel
theorem dX8_stuckByDraw_4 : decode cX8_stuckByDraw 4 = .ok (.aload_n 0, 1) := by decide +kernel
theorem dX8_stuckByDraw_5 : decode cX8_stuckByDraw 5 = .ok (.getfield 51, 3) := by decide +kernel
theorem dX8_stuckByDraw_8 : decode cX8_stuckByDraw 8 = .ok (.invokevirtual 226, 3) := by decide +kernel
theorem dX8_stuckByDraw_11 : decode cX8_stuckByDraw 11 = .ok (.iconst 0, 1) := by decide +kernel
theorem dX8_stuckByDraw_12 : decode cX8_stuckByDraw 12 = .ok (.istore 4, 2) := by decide +kernel
theorem dX8_stuckByDraw_14 : decode cX8_stuckByDraw 14 = .ok (.iload_n 2, 1) := by decide +kernel
theorem dX8_stuckByDraw_15 : decode cX8_stuckByDraw 15 = .ok (.istore 5, 2) := by decide +kernel
theorem dX8_stuckByDraw_17 : decode cX8_stuckByDraw 17 = .ok (.iconst 0, 1) := by decide +kernel
theorem dX8_stuckByDraw_18 : decode cX8_stuckByDraw 18 = .ok (.istore 6, 2) := by decide +kernel
theorem dX8_stuckByDraw_20 : decode cX8_stuckByDraw 20 = .ok (.iload 6, 2) := by decide +kernel
theorem dX8_stuckByDraw_22 : decode cX8_stuckByDraw 22 = .ok (.iload_n 3, 1) := by decide +kernel
theorem dX8_stuckByDraw_23 : decode cX8_stuckByDraw 23 = .ok (.if_icmp .ge 46, 3) := by decide +kernel
theorem dX8_stuckByDraw_26 : decode cX8_stuckByDraw 26 = .ok (.iload 5, 2) := by decide +kernel
theorem dX8_stuckByDraw_28 : decode cX8_stuckByDraw 28 = .ok (.ldc_w 271, 3) := by decide +kernel
theorem dX8_stuckByDraw_31 : decode cX8_stuckByDraw 31 = .ok (.imul, 1) := by decide +kernel
theorem dX8_stuckByDraw_32 : decode cX8_stuckByDraw 32 = .ok (.sipush 12345, 3) := by decide +kernel
theorem dX8_stuckByDraw_35 : decode cX8_stuckByDraw 35 = .ok (.iadd, 1) := by decide +kernel
theorem dX8_stuckByDraw_36 : decode cX8_stuckByDraw 36 = .ok (.istore 5, 2) := by decide +kernel
theorem dX8_stuckByDraw_38 : decode cX8_stuckByDraw 38 = .ok (.aload_n 0, 1) := by decide +kernel
theorem dX8_stuckByDraw_39 : decode cX8_stuckByDraw 39 = .ok (.getfield 55, 3) := by decide +kernel
theorem dX8_stuckByDraw_42 : decode cX8_stuckByDraw 42 = .ok (.iload_n 1, 1) := by decide +kernel
theorem dX8_stuckByDraw_43 : decode cX8_stuckByDraw 43 = .ok (.iload 6, 2) := by decide +kernel
theorem dX8_stuckByDraw_45 : decode cX8_stuckByDraw 45 = .ok (.iload 5, 2) := by decide +kernel
theorem dX8_stuckByDraw_47 : decode cX8_stuckByDraw 47 = .ok (.bipush 9, 2) := by decide +kernel
theorem dX8_stuckByDraw_49 : decode cX8_stuckByDraw 49 = .ok (.iushr, 1) := by decide +kernel
theorem dX8_stuckByDraw_50 : decode cX8_stuckByDraw 50 = .ok (.bipush 10, 2) := by decide +kernel
theorem dX8_stuckByDraw_52 : decode cX8_stuckByDraw 52 = .ok (.irem, 1) := by decide +kernel
theorem dX8_stuckByDraw_53 : decode cX8_stuckByDraw 53 = .ok (.invokevirtual 150, 3) := by decide +kernel
theorem dX8_stuckByDraw_56 : decode cX8_stuckByDraw 56 = .ok (.iconst (-1), 1) := by decide +kernel
theorem dX8_stuckByDraw_57 : decode cX8_stuckByDraw 57 = .ok (.if_icmp .eq 6, 3) := by decide +kernel
theorem dX8_stuckByDraw_60 : decode cX8_stuckByDraw 60 = .ok (.iinc 4 1, 3) := by decide +kernel
theorem dX8_stuckByDraw_63 : decode cX8_stuckByDraw 63 = .ok (.iinc 6 1, 3) := by decide +kernel
theorem dX8_stuckByDraw_66 : decode cX8_stuckByDraw 66 = .ok (.goto (-46), 3) := by decide +kernel
theorem dX8_stuckByDraw_69 : decode cX8_stuckByDraw 69 = .ok (.iload 4, 2) := by decide +kernel
theorem dX8_stuckByDraw_71 : decode cX8_stuckByDraw 71 = .ok (.ireturn, 1) := by decide +kernel
theorem dX8_chance_0 : decode cX8_chance 0 = .ok (.aload_n 0, 1) := by decide +kernel
theorem dX8_chance_1 : decode cX8_chance 1 = .ok (.iload_n 1, 1) := by decide +kernel
theorem dX8_chance_2 : decode cX8_chance 2 = .ok (.invokevirtual 91, 3) := by decide +kernel
theorem dX8_chance_5 : decode cX8_chance 5 = .ok (.ifCond .eq 23, 3) := by decide +kernel
theorem dX8_chance_8 : decode cX8_chance 8 = .ok (.iload_n 3, 1) := by decide +kernel
theorem dX8_chance_9 : decode cX8_chance 9 = .ok (.iconst 1, 1) := by decide +kernel
theorem dX8_chance_10 : decode cX8_chance 10 = .ok (.if_icmp .lt 18, 3) := by decide +kernel
theorem dX8_chance_13 : decode cX8_chance 13 = .ok (.iload_n 3, 1) := by decide +kernel
theorem dX8_chance_14 : decode cX8_chance 14 = .ok (.bipush 20, 2) := by decide +kernel
theorem dX8_chance_16 : decode cX8_chance 16 = .ok (.if_icmp .gt 12, 3) := by decide +kernel
theorem dX8_chance_19 : decode cX8_chance 19 = .ok (.iload 4, 2) := by decide +kernel
theorem dX8_chance_21 : decode cX8_chance 21 = .ok (.iconst 2, 1) := by decide +kernel
theorem dX8_chance_22 : decode cX8_chance 22 = .ok (.invokestatic 95, 3) := by decide +kernel
theorem dX8_chance_25 : decode cX8_chance 25 = .ok (.ifCond .ne 7, 3) := by decide +kernel
theorem dX8_chance_28 : decode cX8_chance 28 = .ok (.ldc2_w 272, 3) := by decide +kernel
theorem dX8_chance_31 : decode cX8_chance 31 = .ok (.lreturn, 1) := by decide +kernel
theorem dX8_chance_32 : decode cX8_chance 32 = .ok (.iconst 0, 1) := by decide +kernel
theorem dX8_chance_33 : decode cX8_chance 33 = .ok (.istore 5, 2) := by decide +kernel
theorem dX8_chance_35 : decode cX8_chance 35 = .ok (.iconst 0, 1) := by decide +kernel
theorem dX8_chance_36 : decode cX8_chance 36 = .ok (.istore 6, 2) := by decide +kernel
theorem dX8_chance_38 : decode cX8_chance 38 = .ok (.iload 6, 2) := by decide +kernel
theorem dX8_chance_40 : decode cX8_chance 40 = .ok (.iload_n 3, 1) := by decide +kernel
theorem dX8_chance_41 : decode cX8_chance 41 = .ok (.if_icmp .ge 27, 3) := by decide +kernel
theorem dX8_chance_44 : decode cX8_chance 44 = .ok (.aload_n 0, 1) := by decide +kernel
theorem dX8_chance_45 : decode cX8_chance 45 = .ok (.iload_n 1, 1) := by decide +kernel
theorem dX8_chance_46 : decode cX8_chance 46 = .ok (.iload_n 2, 1) := by decide +kernel
theorem dX8_chance_47 : decode cX8_chance 47 = .ok (.iload 6, 2) := by decide +kernel
theorem dX8_chance_49 : decode cX8_chance 49 = .ok (.iadd, 1) := by decide +kernel
theorem dX8_chance_50 : decode cX8_chance 50 = .ok (.bipush 16, 2) := by decide +kernel
theorem dX8_chance_52 : decode cX8_chance 52 = .ok (.invokevirtual 268, 3) := by decide +kernel
theorem dX8_chance_55 : decode cX8_chance 55 = .ok (.iconst 5, 1) := by decide +kernel
theorem dX8_chance_56 : decode cX8_chance 56 = .ok (.if_icmp .lt 6, 3) := by decide +kernel
theorem dX8_chance_59 : decode cX8_chance 59 = .ok (.iinc 5 1, 3) := by decide +kernel
theorem dX8_chance_62 : decode cX8_chance 62 = .ok (.iinc 6 1, 3) := by decide +kernel
theorem dX8_chance_65 : decode cX8_chance 65 = .ok (.goto (-27), 3) := by decide +kernel
theorem dX8_chance_68 : decode cX8_chance 68 = .ok (.iload 5, 2) := by decide +kernel
theorem dX8_chance_70 : decode cX8_chance 70 = .ok (.iload_n 3, 1) := by decide +kernel
theorem dX8_chance_71 : decode cX8_chance 71 = .ok (.invokestatic 274, 3) := by decide +kernel
theorem dX8_chance_74 : decode cX8_chance 74 = .ok (.istore 6, 2) := by decide +kernel
theorem dX8_chance_76 : decode cX8_chance 76 = .ok (.iload 4, 2) := by decide +kernel
theorem dX8_chance_78 : decode cX8_chance 78 = .ok (.ifCond .ne 8, 3) := by decide +kernel
theorem dX8_chance_81 : decode cX8_chance 81 = .ok (.iload 5, 2) := by decide +kernel
theorem dX8_chance_83 : decode cX8_chance 83 = .ok (.goto 4, 3) := by decide +kernel
theorem dX8_chance_86 : decode cX8_chance 86 = .ok (.iload_n 3, 1) := by decide +kernel
theorem dX8_chance_87 : decode cX8_chance 87 = .ok (.iload 6, 2) := by decide +kernel
theorem dX8_chance_89 : decode cX8_chance 89 = .ok (.idiv, 1) := by decide +kernel
theorem dX8_chance_90 : decode cX8_chance 90 = .ok (.i2l, 1) := by decide +kernel
theorem dX8_chance_91 : decode cX8_chance 91 = .ok (.lreturn, 1) := by decide +kernel
theorem dX8_commonDivisor_0 : decode cX8_commonDivisor 0 = .ok (.iload_n 1, 1) := by decide +kernel
theorem dX8_commonDivisor_1 : decode cX8_commonDivisor 1 = .ok (.istore_n 2, 1) := by decide +kernel
theorem dX8_commonDivisor_2 : decode cX8_commonDivisor 2 = .ok (.iload_n 2, 1) := by decide +kernel
theorem dX8_commonDivisor_3 : decode cX8_commonDivisor 3 = .ok (.iconst 1, 1) := by decide +kernel
theorem dX8_commonDivisor_4 : decode cX8_commonDivisor 4 = .ok (.if_icmp .le 23, 3) := by decide +kernel
theorem dX8_commonDivisor_7 : decode cX8_commonDivisor 7 = .ok (.iload_n 0, 1) := by decide +kernel
theorem dX8_commonDivisor_8 : decode cX8_commonDivisor 8 = .ok (.iload_n 2, 1) := by decide +kernel
theorem dX8_commonDivisor_9 : decode cX8_commonDivisor 9 = .ok (.irem, 1) := by decide +kernel
theorem dX8_commonDivisor_10 : decode cX8_commonDivisor 10 = .ok (.ifCond .ne 11, 3) := by decide +kernel
theorem dX8_commonDivisor_13 : decode cX8_commonDivisor 13 = .ok (.iload_n 1, 1) := by decide +kernel
theorem dX8_commonDivisor_14 : decode cX8_commonDivisor 14 = .ok (.iload_n 2, 1) := by decide +kernel
theorem dX8_commonDivisor_15 : decode cX8_commonDivisor 15 = .ok (.irem, 1) := by decide +kernel
theorem dX8_commonDivisor_16 : decode cX8_commonDivisor 16 = .ok (.ifCond .ne 5, 3) := by decide +kernel
theorem dX8_commonDivisor_19 : decode cX8_commonDivisor 19 = .ok (.iload_n 2, 1) := by decide +kernel
theorem dX8_commonDivisor_20 : decode cX8_commonDivisor 20 = .ok (.ireturn, 1) := by decide +kernel
theorem dX8_commonDivisor_21 : decode cX8_commonDivisor 21 = .ok (.iinc 2 (-1), 3) := by decide +kernel
theorem dX8_commonDivisor_24 : decode cX8_commonDivisor 24 = .ok (.goto (-22), 3) := by decide +kernel
theorem dX8_commonDivisor_27 : decode cX8_commonDivisor 27 = .ok (.iconst 1, 1) := by decide +kernel
theorem dX8_commonDivisor_28 : decode cX8_commonDivisor 28 = .ok (.ireturn, 1) := by decide +kernel
theorem dX8_image_0 : decode cX8_image 0 = .ok (.aload_n 0, 1) := by decide +kernel
theorem dX8_image_1 : decode cX8_image 1 = .ok (.getfield 58, 3) := by decide +kernel
theorem dX8_image_4 : decode cX8_image 4 = .ok (.aload_n 0, 1) := by decide +kernel
theorem dX8_image_5 : decode cX8_image 5 = .ok (.getfield 51, 3) := by decide +kernel
theorem dX8_image_8 : decode cX8_image 8 = .ok (.invokevirtual 226, 3) := by decide +kernel
theorem dX8_image_11 : decode cX8_image 11 = .ok (.aload_n 0, 1) := by decide +kernel
theorem dX8_image_12 : decode cX8_image 12 = .ok (.iconst 1, 1) := by decide +kernel
theorem dX8_image_13 : decode cX8_image 13 = .ok (.putfield 277, 3) := by decide +kernel
theorem dX8_image_16 : decode cX8_image 16 = .ok (.aload_n 0, 1) := by decide +kernel
theorem dX8_image_17 : decode cX8_image 17 = .ok (.getfield 51, 3) := by decide +kernel
theorem dX8_image_20 : decode cX8_image 20 = .ok (.getfield 115, 3) := by decide +kernel
theorem dX8_image_23 : decode cX8_image 23 = .ok (.ireturn, 1) := by decide +kernel
theorem dX8_back_0 : decode cX8_back 0 = .ok (.aload_n 0, 1) := by decide +kernel
theorem dX8_back_1 : decode cX8_back 1 = .ok (.getfield 277, 3) := by decide +kernel
theorem dX8_back_4 : decode cX8_back 4 = .ok (.ifCond .ne 6, 3) := by decide +kernel
theorem dX8_back_7 : decode cX8_back 7 = .ok (.bipush (-3), 2) := by decide +kernel
theorem dX8_back_9 : decode cX8_back 9 = .ok (.ireturn, 1) := by decide +kernel
theorem dX8_back_10 : decode cX8_back 10 = .ok (.aload_n 0, 1) := by decide +kernel
theorem dX8_back_11 : decode cX8_back 11 = .ok (.getfield 51, 3) := by decide +kernel
theorem dX8_back_14 : decode cX8_back 14 = .ok (.aload_n 0, 1) := by decide +kernel
theorem dX8_back_15 : decode cX8_back 15 = .ok (.getfield 58, 3) := by decide +kernel
theorem dX8_back_18 : decode cX8_back 18 = .ok (.invokevirtual 226, 3) := by decide +kernel
theorem dX8_back_21 : decode cX8_back 21 = .ok (.aload_n 0, 1) := by decide +kernel
theorem dX8_back_22 : decode cX8_back 22 = .ok (.getfield 51, 3) := by decide +kernel
theorem dX8_back_25 : decode cX8_back 25 = .ok (.getfield 115, 3) := by decide +kernel
theorem dX8_back_28 : decode cX8_back 28 = .ok (.ireturn, 1) := by decide +kernel
theorem dX8_count_0 : decode cX8_count 0 = .ok (.iload_n 1, 1) := by decide +kernel
theorem dX8_count_1 : decode cX8_count 1 = .ok (.tableswitch 84 0 5 #[39, 47, 55, 63, 68, 76], 39) := by decide +kernel
theorem dX8_count_40 : decode cX8_count 40 = .ok (.aload_n 0, 1) := by decide +kernel
theorem dX8_count_41 : decode cX8_count 41 = .ok (.getfield 51, 3) := by decide +kernel
theorem dX8_count_44 : decode cX8_count 44 = .ok (.getfield 115, 3) := by decide +kernel
theorem dX8_count_47 : decode cX8_count 47 = .ok (.ireturn, 1) := by decide +kernel
theorem dX8_count_48 : decode cX8_count 48 = .ok (.aload_n 0, 1) := by decide +kernel
theorem dX8_count_49 : decode cX8_count 49 = .ok (.getfield 51, 3) := by decide +kernel
theorem dX8_count_52 : decode cX8_count 52 = .ok (.invokevirtual 239, 3) := by decide +kernel
theorem dX8_count_55 : decode cX8_count 55 = .ok (.ireturn, 1) := by decide +kernel
theorem dX8_count_56 : decode cX8_count 56 = .ok (.aload_n 0, 1) := by decide +kernel
theorem dX8_count_57 : decode cX8_count 57 = .ok (.getfield 51, 3) := by decide +kernel
theorem dX8_count_60 : decode cX8_count 60 = .ok (.getfield 230, 3) := by decide +kernel
theorem dX8_count_63 : decode cX8_count 63 = .ok (.ireturn, 1) := by decide +kernel
theorem dX8_count_64 : decode cX8_count 64 = .ok (.aload_n 0, 1) := by decide +kernel
theorem dX8_count_65 : decode cX8_count 65 = .ok (.getfield 81, 3) := by decide +kernel
theorem dX8_count_68 : decode cX8_count 68 = .ok (.ireturn, 1) := by decide +kernel
theorem dX8_count_69 : decode cX8_count 69 = .ok (.aload_n 0, 1) := by decide +kernel
theorem dX8_count_70 : decode cX8_count 70 = .ok (.getfield 35, 3) := by decide +kernel
theorem dX8_count_73 : decode cX8_count 73 = .ok (.getfield 146, 3) := by decide +kernel
theorem dX8_count_76 : decode cX8_count 76 = .ok (.ireturn, 1) := by decide +kernel
theorem dX8_count_77 : decode cX8_count 77 = .ok (.aload_n 0, 1) := by decide +kernel
theorem dX8_count_78 : decode cX8_count 78 = .ok (.getfield 51, 3) := by decide +kernel
theorem dX8_count_81 : decode cX8_count 81 = .ok (.getfield 147, 3) := by decide +kernel
theorem dX8_count_84 : decode cX8_count 84 = .ok (.ireturn, 1) := by decide +kernel
theorem dX8_count_85 : decode cX8_count 85 = .ok (.bipush (-2), 2) := by decide +kernel
theorem dX8_count_87 : decode cX8_count 87 = .ok (.ireturn, 1) := by decide +kernel
theorem dX8_sheet_0 : decode cX8_sheet 0 = .ok (.iload_n 1, 1) := by decide +kernel
theorem dX8_sheet_1 : decode cX8_sheet 1 = .ok (.iconst 4, 1) := by decide +kernel
theorem dX8_sheet_2 : decode cX8_sheet 2 = .ok (.invokestatic 95, 3) := by decide +kernel
theorem dX8_sheet_5 : decode cX8_sheet 5 = .ok (.ifCond .eq 13, 3) := by decide +kernel
theorem dX8_sheet_8 : decode cX8_sheet 8 = .ok (.iload_n 2, 1) := by decide +kernel
theorem dX8_sheet_9 : decode cX8_sheet 9 = .ok (.iconst (-1), 1) := by decide +kernel
theorem dX8_sheet_10 : decode cX8_sheet 10 = .ok (.if_icmp .lt 8, 3) := by decide +kernel
theorem dX8_sheet_13 : decode cX8_sheet 13 = .ok (.iload_n 2, 1) := by decide +kernel
theorem dX8_sheet_14 : decode cX8_sheet 14 = .ok (.iconst 2, 1) := by decide +kernel
theorem dX8_sheet_15 : decode cX8_sheet 15 = .ok (.if_icmp .le 6, 3) := by decide +kernel
theorem dX8_sheet_18 : decode cX8_sheet 18 = .ok (.bipush (-2), 2) := by decide +kernel
theorem dX8_sheet_20 : decode cX8_sheet 20 = .ok (.ireturn, 1) := by decide +kernel
theorem dX8_sheet_21 : decode cX8_sheet 21 = .ok (.iload_n 2, 1) := by decide +kernel
theorem dX8_sheet_22 : decode cX8_sheet 22 = .ok (.iconst (-1), 1) := by decide +kernel
theorem dX8_sheet_23 : decode cX8_sheet 23 = .ok (.if_icmp .eq 12, 3) := by decide +kernel
theorem dX8_sheet_26 : decode cX8_sheet 26 = .ok (.iload_n 3, 1) := by decide +kernel
theorem dX8_sheet_27 : decode cX8_sheet 27 = .ok (.bipush 40, 2) := by decide +kernel
theorem dX8_sheet_29 : decode cX8_sheet 29 = .ok (.if_icmp .le 6, 3) := by decide +kernel
theorem dX8_sheet_32 : decode cX8_sheet 32 = .ok (.bipush (-2), 2) := by decide +kernel
theorem dX8_sheet_34 : decode cX8_sheet 34 = .ok (.ireturn, 1) := by decide +kernel
theorem dX8_sheet_35 : decode cX8_sheet 35 = .ok (.iload_n 2, 1) := by decide +kernel
theorem dX8_sheet_36 : decode cX8_sheet 36 = .ok (.iconst (-1), 1) := by decide +kernel
theorem dX8_sheet_37 : decode cX8_sheet 37 = .ok (.if_icmp .eq 10, 3) := by decide +kernel
theorem dX8_sheet_40 : decode cX8_sheet 40 = .ok (.iload_n 3, 1) := by decide +kernel
theorem dX8_sheet_41 : decode cX8_sheet 41 = .ok (.ifCond .ge 6, 3) := by decide +kernel
theorem dX8_sheet_44 : decode cX8_sheet 44 = .ok (.bipush (-14), 2) := by decide +kernel
theorem dX8_sheet_46 : decode cX8_sheet 46 = .ok (.ireturn, 1) := by decide +kernel
theorem dX8_sheet_47 : decode cX8_sheet 47 = .ok (.aload_n 0, 1) := by decide +kernel
theorem dX8_sheet_48 : decode cX8_sheet 48 = .ok (.getfield 17, 3) := by decide +kernel
theorem dX8_sheet_51 : decode cX8_sheet 51 = .ok (.iload_n 1, 1) := by decide +kernel
theorem dX8_sheet_52 : decode cX8_sheet 52 = .ok (.aaload, 1) := by decide +kernel
theorem dX8_sheet_53 : decode cX8_sheet 53 = .ok (.iload_n 2, 1) := by decide +kernel
theorem dX8_sheet_54 : decode cX8_sheet 54 = .ok (.iload_n 2, 1) := by decide +kernel
theorem dX8_sheet_55 : decode cX8_sheet 55 = .ok (.iconst (-1), 1) := by decide +kernel
theorem dX8_sheet_56 : decode cX8_sheet 56 = .ok (.if_icmp .ne 7, 3) := by decide +kernel
theorem dX8_sheet_59 : decode cX8_sheet 59 = .ok (.iconst 0, 1) := by decide +kernel
theorem dX8_sheet_60 : decode cX8_sheet 60 = .ok (.goto 4, 3) := by decide +kernel
theorem dX8_sheet_63 : decode cX8_sheet 63 = .ok (.iload_n 3, 1) := by decide +kernel
theorem dX8_sheet_64 : decode cX8_sheet 64 = .ok (.invokevirtual 263, 3) := by decide +kernel
theorem dX8_sheet_67 : decode cX8_sheet 67 = .ok (.iconst 1, 1) := by decide +kernel
theorem dX8_sheet_68 : decode cX8_sheet 68 = .ok (.ireturn, 1) := by decide +kernel
theorem dX8_cell_0 : decode cX8_cell 0 = .ok (.iload_n 1, 1) := by decide +kernel
theorem dX8_cell_1 : decode cX8_cell 1 = .ok (.iconst 4, 1) := by decide +kernel
theorem dX8_cell_2 : decode cX8_cell 2 = .ok (.invokestatic 95, 3) := by decide +kernel
theorem dX8_cell_5 : decode cX8_cell 5 = .ok (.ifCond .ne 6, 3) := by decide +kernel
theorem dX8_cell_8 : decode cX8_cell 8 = .ok (.bipush (-2), 2) := by decide +kernel
theorem dX8_cell_10 : decode cX8_cell 10 = .ok (.ireturn, 1) := by decide +kernel
theorem dX8_cell_11 : decode cX8_cell 11 = .ok (.aload_n 0, 1) := by decide +kernel
theorem dX8_cell_12 : decode cX8_cell 12 = .ok (.getfield 17, 3) := by decide +kernel
theorem dX8_cell_15 : decode cX8_cell 15 = .ok (.iload_n 1, 1) := by decide +kernel
theorem dX8_cell_16 : decode cX8_cell 16 = .ok (.aaload, 1) := by decide +kernel
theorem dX8_cell_17 : decode cX8_cell 17 = .ok (.invokevirtual 218, 3) := by decide +kernel
theorem dX8_cell_20 : decode cX8_cell 20 = .ok (.ifCond .eq 6, 3) := by decide +kernel
theorem dX8_cell_23 : decode cX8_cell 23 = .ok (.bipush (-11), 2) := by decide +kernel
theorem dX8_cell_25 : decode cX8_cell 25 = .ok (.ireturn, 1) := by decide +kernel
theorem dX8_cell_26 : decode cX8_cell 26 = .ok (.iload_n 2, 1) := by decide +kernel
theorem dX8_cell_27 : decode cX8_cell 27 = .ok (.aload_n 0, 1) := by decide +kernel
theorem dX8_cell_28 : decode cX8_cell 28 = .ok (.getfield 17, 3) := by decide +kernel
theorem dX8_cell_31 : decode cX8_cell 31 = .ok (.iload_n 1, 1) := by decide +kernel
theorem dX8_cell_32 : decode cX8_cell 32 = .ok (.aaload, 1) := by decide +kernel
theorem dX8_cell_33 : decode cX8_cell 33 = .ok (.getfield 231, 3) := by decide +kernel
theorem dX8_cell_36 : decode cX8_cell 36 = .ok (.invokestatic 95, 3) := by decide +kernel
theorem dX8_cell_39 : decode cX8_cell 39 = .ok (.ifCond .ne 6, 3) := by decide +kernel
theorem dX8_cell_42 : decode cX8_cell 42 = .ok (.bipush (-12), 2) := by decide +kernel
theorem dX8_cell_44 : decode cX8_cell 44 = .ok (.ireturn, 1) := by decide +kernel
theorem dX8_cell_45 : decode cX8_cell 45 = .ok (.aload_n 0, 1) := by decide +kernel
theorem dX8_cell_46 : decode cX8_cell 46 = .ok (.getfield 17, 3) := by decide +kernel
theorem dX8_cell_49 : decode cX8_cell 49 = .ok (.iload_n 1, 1) := by decide +kernel
theorem dX8_cell_50 : decode cX8_cell 50 = .ok (.aaload, 1) := by decide +kernel
theorem dX8_cell_51 : decode cX8_cell 51 = .ok (.iload_n 2, 1) := by decide +kernel
theorem dX8_cell_52 : decode cX8_cell 52 = .ok (.iload_n 3, 1) := by decide +kernel
theorem dX8_cell_53 : decode cX8_cell 53 = .ok (.invokevirtual 266, 3) := by decide +kernel
theorem dX8_cell_56 : decode cX8_cell 56 = .ok (.iconst 1, 1) := by decide +kernel
theorem dX8_cell_57 : decode cX8_cell 57 = .ok (.ireturn, 1) := by decide +kernel
theorem dX8_copy_0 : decode cX8_copy 0 = .ok (.iload_n 1, 1) := by decide +kernel
theorem dX8_copy_1 : decode cX8_copy 1 = .ok (.iconst 4, 1) := by decide +kernel
theorem dX8_copy_2 : decode cX8_copy 2 = .ok (.invokestatic 95, 3) := by decide +kernel
theorem dX8_copy_5 : decode cX8_copy 5 = .ok (.ifCond .eq 11, 3) := by decide +kernel
theorem dX8_copy_8 : decode cX8_copy 8 = .ok (.iload_n 3, 1) := by decide +kernel
theorem dX8_copy_9 : decode cX8_copy 9 = .ok (.iconst 4, 1) := by decide +kernel
theorem dX8_copy_10 : decode cX8_copy 10 = .ok (.invokestatic 95, 3) := by decide +kernel
theorem dX8_copy_13 : decode cX8_copy 13 = .ok (.ifCond .ne 6, 3) := by decide +kernel
theorem dX8_copy_16 : decode cX8_copy 16 = .ok (.bipush (-2), 2) := by decide +kernel
theorem dX8_copy_18 : decode cX8_copy 18 = .ok (.ireturn, 1) := by decide +kernel
theorem dX8_copy_19 : decode cX8_copy 19 = .ok (.aload_n 0, 1) := by decide +kernel
theorem dX8_copy_20 : decode cX8_copy 20 = .ok (.getfield 17, 3) := by decide +kernel
theorem dX8_copy_23 : decode cX8_copy 23 = .ok (.iload_n 1, 1) := by decide +kernel
theorem dX8_copy_24 : decode cX8_copy 24 = .ok (.aaload, 1) := by decide +kernel
theorem dX8_copy_25 : decode cX8_copy 25 = .ok (.astore 6, 2) := by decide +kernel
theorem dX8_copy_27 : decode cX8_copy 27 = .ok (.aload_n 0, 1) := by decide +kernel
theorem dX8_copy_28 : decode cX8_copy 28 = .ok (.getfield 17, 3) := by decide +kernel
theorem dX8_copy_31 : decode cX8_copy 31 = .ok (.iload_n 3, 1) := by decide +kernel
theorem dX8_copy_32 : decode cX8_copy 32 = .ok (.aaload, 1) := by decide +kernel
theorem dX8_copy_33 : decode cX8_copy 33 = .ok (.astore 7, 2) := by decide +kernel
theorem dX8_copy_35 : decode cX8_copy 35 = .ok (.aload 6, 2) := by decide +kernel
theorem dX8_copy_37 : decode cX8_copy 37 = .ok (.invokevirtual 218, 3) := by decide +kernel
theorem dX8_copy_40 : decode cX8_copy 40 = .ok (.ifCond .ne 11, 3) := by decide +kernel
theorem dX8_copy_43 : decode cX8_copy 43 = .ok (.aload 7, 2) := by decide +kernel
theorem dX8_copy_45 : decode cX8_copy 45 = .ok (.invokevirtual 218, 3) := by decide +kernel
theorem dX8_copy_48 : decode cX8_copy 48 = .ok (.ifCond .eq 6, 3) := by decide +kernel
theorem dX8_copy_51 : decode cX8_copy 51 = .ok (.bipush (-11), 2) := by decide +kernel
theorem dX8_copy_53 : decode cX8_copy 53 = .ok (.ireturn, 1) := by decide +kernel
theorem dX8_copy_54 : decode cX8_copy 54 = .ok (.aload 6, 2) := by decide +kernel
theorem dX8_copy_56 : decode cX8_copy 56 = .ok (.getfield 281, 3) := by decide +kernel
theorem dX8_copy_59 : decode cX8_copy 59 = .ok (.aload 7, 2) := by decide +kernel
theorem dX8_copy_61 : decode cX8_copy 61 = .ok (.getfield 281, 3) := by decide +kernel
theorem dX8_copy_64 : decode cX8_copy 64 = .ok (.if_icmp .eq 6, 3) := by decide +kernel
theorem dX8_copy_67 : decode cX8_copy 67 = .ok (.bipush (-13), 2) := by decide +kernel
theorem dX8_copy_69 : decode cX8_copy 69 = .ok (.ireturn, 1) := by decide +kernel
theorem dX8_copy_70 : decode cX8_copy 70 = .ok (.aload 6, 2) := by decide +kernel
theorem dX8_copy_72 : decode cX8_copy 72 = .ok (.iload_n 2, 1) := by decide +kernel
theorem dX8_copy_73 : decode cX8_copy 73 = .ok (.iload 5, 2) := by decide +kernel
theorem dX8_copy_75 : decode cX8_copy 75 = .ok (.invokevirtual 284, 3) := by decide +kernel
theorem dX8_copy_78 : decode cX8_copy 78 = .ok (.ifCond .eq 15, 3) := by decide +kernel
theorem dX8_copy_81 : decode cX8_copy 81 = .ok (.aload 7, 2) := by decide +kernel
theorem dX8_copy_83 : decode cX8_copy 83 = .ok (.iload 4, 2) := by decide +kernel
theorem dX8_copy_85 : decode cX8_copy 85 = .ok (.iload 5, 2) := by decide +kernel
theorem dX8_copy_87 : decode cX8_copy 87 = .ok (.invokevirtual 284, 3) := by decide +kernel
theorem dX8_copy_90 : decode cX8_copy 90 = .ok (.ifCond .ne 6, 3) := by decide +kernel
theorem dX8_copy_93 : decode cX8_copy 93 = .ok (.bipush (-12), 2) := by decide +kernel
theorem dX8_copy_95 : decode cX8_copy 95 = .ok (.ireturn, 1) := by decide +kernel
theorem dX8_copy_96 : decode cX8_copy 96 = .ok (.aload 6, 2) := by decide +kernel
theorem dX8_copy_98 : decode cX8_copy 98 = .ok (.getfield 232, 3) := by decide +kernel
theorem dX8_copy_101 : decode cX8_copy 101 = .ok (.iload_n 2, 1) := by decide +kernel
theorem dX8_copy_102 : decode cX8_copy 102 = .ok (.aload 7, 2) := by decide +kernel
theorem dX8_copy_104 : decode cX8_copy 104 = .ok (.getfield 232, 3) := by decide +kernel
theorem dX8_copy_107 : decode cX8_copy 107 = .ok (.iload 4, 2) := by decide +kernel
theorem dX8_copy_109 : decode cX8_copy 109 = .ok (.iload 5, 2) := by decide +kernel
theorem dX8_copy_111 : decode cX8_copy 111 = .ok (.invokestatic 286, 3) := by decide +kernel
theorem dX8_copy_114 : decode cX8_copy 114 = .ok (.iload 5, 2) := by decide +kernel
theorem dX8_copy_116 : decode cX8_copy 116 = .ok (.ireturn, 1) := by decide +kernel
theorem dX8_people_0 : decode cX8_people 0 = .ok (.iload_n 1, 1) := by decide +kernel
theorem dX8_people_1 : decode cX8_people 1 = .ok (.iconst 4, 1) := by decide +kernel
theorem dX8_people_2 : decode cX8_people 2 = .ok (.invokestatic 95, 3) := by decide +kernel
theorem dX8_people_5 : decode cX8_people 5 = .ok (.ifCond .eq 22, 3) := by decide +kernel
theorem dX8_people_8 : decode cX8_people 8 = .ok (.iload_n 2, 1) := by decide +kernel
theorem dX8_people_9 : decode cX8_people 9 = .ok (.iconst 3, 1) := by decide +kernel
theorem dX8_people_10 : decode cX8_people 10 = .ok (.invokestatic 95, 3) := by decide +kernel
theorem dX8_people_13 : decode cX8_people 13 = .ok (.ifCond .eq 14, 3) := by decide +kernel
theorem dX8_people_16 : decode cX8_people 16 = .ok (.iload 4, 2) := by decide +kernel
theorem dX8_people_18 : decode cX8_people 18 = .ok (.ifCond .lt 9, 3) := by decide +kernel
theorem dX8_people_21 : decode cX8_people 21 = .ok (.iload 4, 2) := by decide +kernel
theorem dX8_people_23 : decode cX8_people 23 = .ok (.iconst 5, 1) := by decide +kernel
theorem dX8_people_24 : decode cX8_people 24 = .ok (.if_icmp .le 6, 3) := by decide +kernel
theorem dX8_people_27 : decode cX8_people 27 = .ok (.bipush (-2), 2) := by decide +kernel
theorem dX8_people_29 : decode cX8_people 29 = .ok (.ireturn, 1) := by decide +kernel
theorem dX8_people_30 : decode cX8_people 30 = .ok (.aload_n 0, 1) := by decide +kernel
theorem dX8_people_31 : decode cX8_people 31 = .ok (.getfield 17, 3) := by decide +kernel
theorem dX8_people_34 : decode cX8_people 34 = .ok (.iload_n 1, 1) := by decide +kernel
theorem dX8_people_35 : decode cX8_people 35 = .ok (.aaload, 1) := by decide +kernel
theorem dX8_people_36 : decode cX8_people 36 = .ok (.astore 5, 2) := by decide +kernel
theorem dX8_people_38 : decode cX8_people 38 = .ok (.aload 5, 2) := by decide +kernel
theorem dX8_people_40 : decode cX8_people 40 = .ok (.invokevirtual 218, 3) := by decide +kernel
theorem dX8_people_43 : decode cX8_people 43 = .ok (.ifCond .eq 6, 3) := by decide +kernel
theorem dX8_people_46 : decode cX8_people 46 = .ok (.bipush (-11), 2) := by decide +kernel
theorem dX8_people_48 : decode cX8_people 48 = .ok (.ireturn, 1) := by decide +kernel
theorem dX8_people_49 : decode cX8_people 49 = .ok (.aload 5, 2) := by decide +kernel
theorem dX8_people_51 : decode cX8_people 51 = .ok (.getfield 281, 3) := by decide +kernel
theorem dX8_people_54 : decode cX8_people 54 = .ok (.iload_n 2, 1) := by decide +kernel
theorem dX8_people_55 : decode cX8_people 55 = .ok (.if_icmp .eq 6, 3) := by decide +kernel
theorem dX8_people_58 : decode cX8_people 58 = .ok (.bipush (-13), 2) := by decide +kernel
theorem dX8_people_60 : decode cX8_people 60 = .ok (.ireturn, 1) := by decide +kernel
theorem dX8_people_61 : decode cX8_people 61 = .ok (.iconst 0, 1) := by decide +kernel
theorem dX8_people_62 : decode cX8_people 62 = .ok (.istore 6, 2) := by decide +kernel
theorem dX8_people_64 : decode cX8_people 64 = .ok (.iconst 0, 1) := by decide +kernel
theorem dX8_people_65 : decode cX8_people 65 = .ok (.istore 7, 2) := by decide +kernel
theorem dX8_people_67 : decode cX8_people 67 = .ok (.iload 7, 2) := by decide +kernel
theorem dX8_people_69 : decode cX8_people 69 = .ok (.iload 4, 2) := by decide +kernel
theorem dX8_people_71 : decode cX8_people 71 = .ok (.if_icmp .ge 59, 3) := by decide +kernel
theorem dX8_people_74 : decode cX8_people 74 = .ok (.iload_n 3, 1) := by decide +kernel
theorem dX8_people_75 : decode cX8_people 75 = .ok (.iconst 2, 1) := by decide +kernel
theorem dX8_people_76 : decode cX8_people 76 = .ok (.iload 7, 2) := by decide +kernel
theorem dX8_people_78 : decode cX8_people 78 = .ok (.imul, 1) := by decide +kernel
theorem dX8_people_79 : decode cX8_people 79 = .ok (.iadd, 1) := by decide +kernel
theorem dX8_people_80 : decode cX8_people 80 = .ok (.istore 8, 2) := by decide +kernel
theorem dX8_people_82 : decode cX8_people 82 = .ok (.aload 5, 2) := by decide +kernel
theorem dX8_people_84 : decode cX8_people 84 = .ok (.iload 8, 2) := by decide +kernel
theorem dX8_people_86 : decode cX8_people 86 = .ok (.iconst 2, 1) := by decide +kernel
theorem dX8_people_87 : decode cX8_people 87 = .ok (.invokevirtual 284, 3) := by decide +kernel
theorem dX8_people_90 : decode cX8_people 90 = .ok (.ifCond .ne 6, 3) := by decide +kernel
theorem dX8_people_93 : decode cX8_people 93 = .ok (.bipush (-12), 2) := by decide +kernel
theorem dX8_people_95 : decode cX8_people 95 = .ok (.ireturn, 1) := by decide +kernel
theorem dX8_people_96 : decode cX8_people 96 = .ok (.aload_n 0, 1) := by decide +kernel
theorem dX8_people_97 : decode cX8_people 97 = .ok (.aload 5, 2) := by decide +kernel
theorem dX8_people_99 : decode cX8_people 99 = .ok (.getfield 232, 3) := by decide +kernel
theorem dX8_people_102 : decode cX8_people 102 = .ok (.iload 8, 2) := by decide +kernel
theorem dX8_people_104 : decode cX8_people 104 = .ok (.iaload, 1) := by decide +kernel
theorem dX8_people_105 : decode cX8_people 105 = .ok (.aload 5, 2) := by decide +kernel
theorem dX8_people_107 : decode cX8_people 107 = .ok (.getfield 232, 3) := by decide +kernel
theorem dX8_people_110 : decode cX8_people 110 = .ok (.iload 8, 2) := by decide +kernel
theorem dX8_people_112 : decode cX8_people 112 = .ok (.iconst 1, 1) := by decide +kernel
theorem dX8_people_113 : decode cX8_people 113 = .ok (.iadd, 1) := by decide +kernel
theorem dX8_people_114 : decode cX8_people 114 = .ok (.iaload, 1) := by decide +kernel
theorem dX8_people_115 : decode cX8_people 115 = .ok (.invokevirtual 292, 3) := by decide +kernel
theorem dX8_people_118 : decode cX8_people 118 = .ok (.ifCond .lt 6, 3) := by decide +kernel
theorem dX8_people_121 : decode cX8_people 121 = .ok (.iinc 6 1, 3) := by decide +kernel
theorem dX8_people_124 : decode cX8_people 124 = .ok (.iinc 7 1, 3) := by decide +kernel
theorem dX8_people_127 : decode cX8_people 127 = .ok (.goto (-60), 3) := by decide +kernel
theorem dX8_people_130 : decode cX8_people 130 = .ok (.iload 6, 2) := by decide +kernel
theorem dX8_people_132 : decode cX8_people 132 = .ok (.ireturn, 1) := by decide +kernel
theorem dX8_taken_0 : decode cX8_taken 0 = .ok (.iload_n 2, 1) := by decide +kernel
theorem dX8_taken_1 : decode cX8_taken 1 = .ok (.bipush 6, 2) := by decide +kernel
theorem dX8_taken_3 : decode cX8_taken 3 = .ok (.invokestatic 95, 3) := by decide +kernel
theorem dX8_taken_6 : decode cX8_taken 6 = .ok (.ifCond .ne 6, 3) := by decide +kernel
theorem dX8_taken_9 : decode cX8_taken 9 = .ok (.bipush (-2), 2) := by decide +kernel
theorem dX8_taken_11 : decode cX8_taken 11 = .ok (.ireturn, 1) := by decide +kernel
theorem dX8_taken_12 : decode cX8_taken 12 = .ok (.aload_n 0, 1) := by decide +kernel
theorem dX8_taken_13 : decode cX8_taken 13 = .ok (.iload_n 1, 1) := by decide +kernel
theorem dX8_taken_14 : decode cX8_taken 14 = .ok (.invokevirtual 91, 3) := by decide +kernel
theorem dX8_taken_17 : decode cX8_taken 17 = .ok (.ifCond .ne 6, 3) := by decide +kernel
theorem dX8_taken_20 : decode cX8_taken 20 = .ok (.bipush (-11), 2) := by decide +kernel
theorem dX8_taken_22 : decode cX8_taken 22 = .ok (.ireturn, 1) := by decide +kernel
theorem dX8_taken_23 : decode cX8_taken 23 = .ok (.aload_n 0, 1) := by decide +kernel
theorem dX8_taken_24 : decode cX8_taken 24 = .ok (.getfield 51, 3) := by decide +kernel
theorem dX8_taken_27 : decode cX8_taken 27 = .ok (.getfield 99, 3) := by decide +kernel
theorem dX8_taken_30 : decode cX8_taken 30 = .ok (.iload_n 1, 1) := by decide +kernel
theorem dX8_taken_31 : decode cX8_taken 31 = .ok (.aaload, 1) := by decide +kernel
theorem dX8_taken_32 : decode cX8_taken 32 = .ok (.astore_n 3, 1) := by decide +kernel
theorem dX8_taken_33 : decode cX8_taken 33 = .ok (.aload_n 3, 1) := by decide +kernel
theorem dX8_taken_34 : decode cX8_taken 34 = .ok (.getfield 122, 3) := by decide +kernel
theorem dX8_taken_37 : decode cX8_taken 37 = .ok (.iload_n 2, 1) := by decide +kernel
theorem dX8_taken_38 : decode cX8_taken 38 = .ok (.invokestatic 295, 3) := by decide +kernel
theorem dX8_taken_41 : decode cX8_taken 41 = .ok (.ifCond .eq 10, 3) := by decide +kernel
theorem dX8_taken_44 : decode cX8_taken 44 = .ok (.aload_n 3, 1) := by decide +kernel
theorem dX8_taken_45 : decode cX8_taken 45 = .ok (.getfield 103, 3) := by decide +kernel
theorem dX8_taken_48 : decode cX8_taken 48 = .ok (.goto 5, 3) := by decide +kernel
theorem dX8_taken_51 : decode cX8_taken 51 = .ok (.bipush (-13), 2) := by decide +kernel
theorem dX8_taken_53 : decode cX8_taken 53 = .ok (.ireturn, 1) := by decide +kernel
theorem dX8_isOne_0 : decode cX8_isOne 0 = .ok (.iload_n 1, 1) := by decide +kernel
theorem dX8_isOne_1 : decode cX8_isOne 1 = .ok (.aload_n 0, 1) := by decide +kernel
theorem dX8_isOne_2 : decode cX8_isOne 2 = .ok (.getfield 51, 3) := by decide +kernel
theorem dX8_isOne_5 : decode cX8_isOne 5 = .ok (.getfield 115, 3) := by decide +kernel
theorem dX8_isOne_8 : decode cX8_isOne 8 = .ok (.invokestatic 95, 3) := by decide +kernel
theorem dX8_isOne_11 : decode cX8_isOne 11 = .ok (.ireturn, 1) := by decide +kernel
theorem dX8_isSpan_0 : decode cX8_isSpan 0 = .ok (.iload_n 0, 1) := by decide +kernel
theorem dX8_isSpan_1 : decode cX8_isSpan 1 = .ok (.ifCond .lt 13, 3) := by decide +kernel
theorem dX8_isSpan_4 : decode cX8_isSpan 4 = .ok (.iload_n 0, 1) := by decide +kernel
theorem dX8_isSpan_5 : decode cX8_isSpan 5 = .ok (.bipush 60, 2) := by decide +kernel
theorem dX8_isSpan_7 : decode cX8_isSpan 7 = .ok (.if_icmp .gt 7, 3) := by decide +kernel
theorem dX8_isSpan_10 : decode cX8_isSpan 10 = .ok (.iconst 1, 1) := by decide +kernel
theorem dX8_isSpan_11 : decode cX8_isSpan 11 = .ok (.goto 4, 3) := by decide +kernel
theorem dX8_isSpan_14 : decode cX8_isSpan 14 = .ok (.iconst 0, 1) := by decide +kernel
theorem dX8_isSpan_15 : decode cX8_isSpan 15 = .ok (.ireturn, 1) := by decide +kernel
theorem dX8_within_0 : decode cX8_within 0 = .ok (.iload_n 0, 1) := by decide +kernel
theorem dX8_within_1 : decode cX8_within 1 = .ok (.ifCond .lt 12, 3) := by decide +kernel
theorem dX8_within_4 : decode cX8_within 4 = .ok (.iload_n 0, 1) := by decide +kernel
theorem dX8_within_5 : decode cX8_within 5 = .ok (.iload_n 1, 1) := by decide +kernel
theorem dX8_within_6 : decode cX8_within 6 = .ok (.if_icmp .ge 7, 3) := by decide +kernel
theorem dX8_within_9 : decode cX8_within 9 = .ok (.iconst 1, 1) := by decide +kernel
theorem dX8_within_10 : decode cX8_within 10 = .ok (.goto 4, 3) := by decide +kernel
theorem dX8_within_13 : decode cX8_within 13 = .ok (.iconst 0, 1) := by decide +kernel
theorem dX8_within_14 : decode cX8_within 14 = .ok (.ireturn, 1) := by decide +kernel
