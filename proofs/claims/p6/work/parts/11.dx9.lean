def ziX9_in_0 : List (Nat × Instr × Nat) := [(0, .lload_n 0, 1), (1, .lload_n 2, 1), (2, .lcmp, 1), (3, .ifCond .lt 14, 3), (6, .lload_n 0, 1), (7, .lload 4, 2), (9, .lcmp, 1), (10, .ifCond .gt 7, 3), (13, .iconst 1, 1), (14, .goto 4, 3), (17, .iconst 0, 1), (18, .ireturn, 1)]
theorem zhX9_in_0 : zd_chk (cX9_in.data.toList.drop 0) 0 ziX9_in_0 = true := by decide +kernel
theorem dX9_in_0 : decode cX9_in 0 = .ok (.lload_n 0, 1) := zd_at zhX9_in_0 0 rfl
theorem dX9_in_1 : decode cX9_in 1 = .ok (.lload_n 2, 1) := zd_at zhX9_in_0 1 rfl
theorem dX9_in_2 : decode cX9_in 2 = .ok (.lcmp, 1) := zd_at zhX9_in_0 2 rfl
theorem dX9_in_3 : decode cX9_in 3 = .ok (.ifCond .lt 14, 3) := zd_at zhX9_in_0 3 rfl
theorem dX9_in_6 : decode cX9_in 6 = .ok (.lload_n 0, 1) := zd_at zhX9_in_0 4 rfl
theorem dX9_in_7 : decode cX9_in 7 = .ok (.lload 4, 2) := zd_at zhX9_in_0 5 rfl
theorem dX9_in_9 : decode cX9_in 9 = .ok (.lcmp, 1) := zd_at zhX9_in_0 6 rfl
theorem dX9_in_10 : decode cX9_in 10 = .ok (.ifCond .gt 7, 3) := zd_at zhX9_in_0 7 rfl
theorem dX9_in_13 : decode cX9_in 13 = .ok (.iconst 1, 1) := zd_at zhX9_in_0 8 rfl
theorem dX9_in_14 : decode cX9_in 14 = .ok (.goto 4, 3) := zd_at zhX9_in_0 9 rfl
theorem dX9_in_17 : decode cX9_in 17 = .ok (.iconst 0, 1) := zd_at zhX9_in_0 10 rfl
theorem dX9_in_18 : decode cX9_in 18 = .ok (.ireturn, 1) := zd_at zhX9_in_0 11 rfl
def ziX9_within_0 : List (Nat × Instr × Nat) := [(0, .iload_n 0, 1), (1, .iload_n 1, 1), (2, .if_icmp .ge 7, 3), (5, .iload_n 1, 1), (6, .goto 13, 3), (9, .iload_n 0, 1), (10, .iload_n 2, 1), (11, .if_icmp .le 7, 3), (14, .iload_n 2, 1), (15, .goto 4, 3), (18, .iload_n 0, 1), (19, .ireturn, 1)]
theorem zhX9_within_0 : zd_chk (cX9_within.data.toList.drop 0) 0 ziX9_within_0 = true := by decide +kernel
theorem dX9_within_0 : decode cX9_within 0 = .ok (.iload_n 0, 1) := zd_at zhX9_within_0 0 rfl
theorem dX9_within_1 : decode cX9_within 1 = .ok (.iload_n 1, 1) := zd_at zhX9_within_0 1 rfl
theorem dX9_within_2 : decode cX9_within 2 = .ok (.if_icmp .ge 7, 3) := zd_at zhX9_within_0 2 rfl
theorem dX9_within_5 : decode cX9_within 5 = .ok (.iload_n 1, 1) := zd_at zhX9_within_0 3 rfl
theorem dX9_within_6 : decode cX9_within 6 = .ok (.goto 13, 3) := zd_at zhX9_within_0 4 rfl
theorem dX9_within_9 : decode cX9_within 9 = .ok (.iload_n 0, 1) := zd_at zhX9_within_0 5 rfl
theorem dX9_within_10 : decode cX9_within 10 = .ok (.iload_n 2, 1) := zd_at zhX9_within_0 6 rfl
theorem dX9_within_11 : decode cX9_within 11 = .ok (.if_icmp .le 7, 3) := zd_at zhX9_within_0 7 rfl
theorem dX9_within_14 : decode cX9_within 14 = .ok (.iload_n 2, 1) := zd_at zhX9_within_0 8 rfl
theorem dX9_within_15 : decode cX9_within 15 = .ok (.goto 4, 3) := zd_at zhX9_within_0 9 rfl
theorem dX9_within_18 : decode cX9_within 18 = .ok (.iload_n 0, 1) := zd_at zhX9_within_0 10 rfl
theorem dX9_within_19 : decode cX9_within 19 = .ok (.ireturn, 1) := zd_at zhX9_within_0 11 rfl
def ziX9_init_0 : List (Nat × Instr × Nat) := [(0, .aload_n 0, 1), (1, .invokespecial 7, 3), (4, .aload_n 0, 1), (5, .sipush 960, 3)]
theorem zhX9_init_0 : zd_chk (cX9_init.data.toList.drop 0) 0 ziX9_init_0 = true := by decide +kernel
theorem dX9_init_0 : decode cX9_init 0 = .ok (.aload_n 0, 1) := zd_at zhX9_init_0 0 rfl
theorem dX9_init_1 : decode cX9_init 1 = .ok (.invokespecial 7, 3) := zd_at zhX9_init_0 1 rfl
theorem dX9_init_4 : decode cX9_init 4 = .ok (.aload_n 0, 1) := zd_at zhX9_init_0 2 rfl
theorem dX9_init_5 : decode cX9_init 5 = .ok (.sipush 960, 3) := zd_at zhX9_init_0 3 rfl
theorem dX9_init_8 : decode cX9_init 8 = .ok (.newarray .int, 2) := by decide +kernel
def ziX9_init_10 : List (Nat × Instr × Nat) := [(10, .putfield 13, 3), (13, .aload_n 0, 1), (14, .bipush 6, 2)]
theorem zhX9_init_10 : zd_chk (cX9_init.data.toList.drop 10) 10 ziX9_init_10 = true := by decide +kernel
theorem dX9_init_10 : decode cX9_init 10 = .ok (.putfield 13, 3) := zd_at zhX9_init_10 0 rfl
theorem dX9_init_13 : decode cX9_init 13 = .ok (.aload_n 0, 1) := zd_at zhX9_init_10 1 rfl
theorem dX9_init_14 : decode cX9_init 14 = .ok (.bipush 6, 2) := zd_at zhX9_init_10 2 rfl
theorem dX9_init_16 : decode cX9_init 16 = .ok (.newarray .int, 2) := by decide +kernel
def ziX9_init_18 : List (Nat × Instr × Nat) := [(18, .putfield 17, 3), (21, .aload_n 0, 1), (22, .sipush 160, 3)]
theorem zhX9_init_18 : zd_chk (cX9_init.data.toList.drop 18) 18 ziX9_init_18 = true := by decide +kernel
theorem dX9_init_18 : decode cX9_init 18 = .ok (.putfield 17, 3) := zd_at zhX9_init_18 0 rfl
theorem dX9_init_21 : decode cX9_init 21 = .ok (.aload_n 0, 1) := zd_at zhX9_init_18 1 rfl
theorem dX9_init_22 : decode cX9_init 22 = .ok (.sipush 160, 3) := zd_at zhX9_init_18 2 rfl
theorem dX9_init_25 : decode cX9_init 25 = .ok (.newarray .int, 2) := by decide +kernel
def ziX9_init_27 : List (Nat × Instr × Nat) := [(27, .putfield 20, 3), (30, .aload_n 0, 1), (31, .sipush 1024, 3), (34, .putfield 23, 3), (37, .aload_n 0, 1), (38, .iconst 5, 1)]
theorem zhX9_init_27 : zd_chk (cX9_init.data.toList.drop 27) 27 ziX9_init_27 = true := by decide +kernel
theorem dX9_init_27 : decode cX9_init 27 = .ok (.putfield 20, 3) := zd_at zhX9_init_27 0 rfl
theorem dX9_init_30 : decode cX9_init 30 = .ok (.aload_n 0, 1) := zd_at zhX9_init_27 1 rfl
theorem dX9_init_31 : decode cX9_init 31 = .ok (.sipush 1024, 3) := zd_at zhX9_init_27 2 rfl
theorem dX9_init_34 : decode cX9_init 34 = .ok (.putfield 23, 3) := zd_at zhX9_init_27 3 rfl
theorem dX9_init_37 : decode cX9_init 37 = .ok (.aload_n 0, 1) := zd_at zhX9_init_27 4 rfl
theorem dX9_init_38 : decode cX9_init 38 = .ok (.iconst 5, 1) := zd_at zhX9_init_27 5 rfl
theorem dX9_init_39 : decode cX9_init 39 = .ok (.newarray .int, 2) := by decide +kernel
def ziX9_init_41 : List (Nat × Instr × Nat) := [(41, .putfield 26, 3), (44, .aload_n 0, 1), (45, .iconst 5, 1)]
theorem zhX9_init_41 : zd_chk (cX9_init.data.toList.drop 41) 41 ziX9_init_41 = true := by decide +kernel
theorem dX9_init_41 : decode cX9_init 41 = .ok (.putfield 26, 3) := zd_at zhX9_init_41 0 rfl
theorem dX9_init_44 : decode cX9_init 44 = .ok (.aload_n 0, 1) := zd_at zhX9_init_41 1 rfl
theorem dX9_init_45 : decode cX9_init 45 = .ok (.iconst 5, 1) := zd_at zhX9_init_41 2 rfl
theorem dX9_init_46 : decode cX9_init 46 = .ok (.newarray .int, 2) := by decide +kernel
def ziX9_init_48 : List (Nat × Instr × Nat) := [(48, .putfield 29, 3), (51, .aload_n 0, 1), (52, .bipush 50, 2)]
theorem zhX9_init_48 : zd_chk (cX9_init.data.toList.drop 48) 48 ziX9_init_48 = true := by decide +kernel
theorem dX9_init_48 : decode cX9_init 48 = .ok (.putfield 29, 3) := zd_at zhX9_init_48 0 rfl
theorem dX9_init_51 : decode cX9_init 51 = .ok (.aload_n 0, 1) := zd_at zhX9_init_48 1 rfl
theorem dX9_init_52 : decode cX9_init 52 = .ok (.bipush 50, 2) := zd_at zhX9_init_48 2 rfl
theorem dX9_init_54 : decode cX9_init 54 = .ok (.newarray .int, 2) := by decide +kernel
def ziX9_init_56 : List (Nat × Instr × Nat) := [(56, .putfield 32, 3), (59, .aload_n 0, 1), (60, .bipush 50, 2)]
theorem zhX9_init_56 : zd_chk (cX9_init.data.toList.drop 56) 56 ziX9_init_56 = true := by decide +kernel
theorem dX9_init_56 : decode cX9_init 56 = .ok (.putfield 32, 3) := zd_at zhX9_init_56 0 rfl
theorem dX9_init_59 : decode cX9_init 59 = .ok (.aload_n 0, 1) := zd_at zhX9_init_56 1 rfl
theorem dX9_init_60 : decode cX9_init 60 = .ok (.bipush 50, 2) := zd_at zhX9_init_56 2 rfl
theorem dX9_init_62 : decode cX9_init 62 = .ok (.newarray .int, 2) := by decide +kernel
def ziX9_init_64 : List (Nat × Instr × Nat) := [(64, .putfield 35, 3), (67, .aload_n 0, 1), (68, .bipush 50, 2)]
theorem zhX9_init_64 : zd_chk (cX9_init.data.toList.drop 64) 64 ziX9_init_64 = true := by decide +kernel
theorem dX9_init_64 : decode cX9_init 64 = .ok (.putfield 35, 3) := zd_at zhX9_init_64 0 rfl
theorem dX9_init_67 : decode cX9_init 67 = .ok (.aload_n 0, 1) := zd_at zhX9_init_64 1 rfl
theorem dX9_init_68 : decode cX9_init 68 = .ok (.bipush 50, 2) := zd_at zhX9_init_64 2 rfl
theorem dX9_init_70 : decode cX9_init 70 = .ok (.newarray .int, 2) := by decide +kernel
def ziX9_init_72 : List (Nat × Instr × Nat) := [(72, .putfield 38, 3), (75, .aload_n 0, 1), (76, .bipush 50, 2)]
theorem zhX9_init_72 : zd_chk (cX9_init.data.toList.drop 72) 72 ziX9_init_72 = true := by decide +kernel
theorem dX9_init_72 : decode cX9_init 72 = .ok (.putfield 38, 3) := zd_at zhX9_init_72 0 rfl
theorem dX9_init_75 : decode cX9_init 75 = .ok (.aload_n 0, 1) := zd_at zhX9_init_72 1 rfl
theorem dX9_init_76 : decode cX9_init 76 = .ok (.bipush 50, 2) := zd_at zhX9_init_72 2 rfl
theorem dX9_init_78 : decode cX9_init 78 = .ok (.newarray .int, 2) := by decide +kernel
def ziX9_init_80 : List (Nat × Instr × Nat) := [(80, .putfield 41, 3), (83, .aload_n 0, 1), (84, .bipush 50, 2)]
theorem zhX9_init_80 : zd_chk (cX9_init.data.toList.drop 80) 80 ziX9_init_80 = true := by decide +kernel
theorem dX9_init_80 : decode cX9_init 80 = .ok (.putfield 41, 3) := zd_at zhX9_init_80 0 rfl
theorem dX9_init_83 : decode cX9_init 83 = .ok (.aload_n 0, 1) := zd_at zhX9_init_80 1 rfl
theorem dX9_init_84 : decode cX9_init 84 = .ok (.bipush 50, 2) := zd_at zhX9_init_80 2 rfl
theorem dX9_init_86 : decode cX9_init 86 = .ok (.newarray .int, 2) := by decide +kernel
def ziX9_init_88 : List (Nat × Instr × Nat) := [(88, .putfield 44, 3), (91, .aload_n 0, 1), (92, .bipush 50, 2)]
theorem zhX9_init_88 : zd_chk (cX9_init.data.toList.drop 88) 88 ziX9_init_88 = true := by decide +kernel
theorem dX9_init_88 : decode cX9_init 88 = .ok (.putfield 44, 3) := zd_at zhX9_init_88 0 rfl
theorem dX9_init_91 : decode cX9_init 91 = .ok (.aload_n 0, 1) := zd_at zhX9_init_88 1 rfl
theorem dX9_init_92 : decode cX9_init 92 = .ok (.bipush 50, 2) := zd_at zhX9_init_88 2 rfl
theorem dX9_init_94 : decode cX9_init 94 = .ok (.newarray .int, 2) := by decide +kernel
def ziX9_init_96 : List (Nat × Instr × Nat) := [(96, .putfield 47, 3), (99, .aload_n 0, 1), (100, .bipush 50, 2)]
theorem zhX9_init_96 : zd_chk (cX9_init.data.toList.drop 96) 96 ziX9_init_96 = true := by decide +kernel
theorem dX9_init_96 : decode cX9_init 96 = .ok (.putfield 47, 3) := zd_at zhX9_init_96 0 rfl
theorem dX9_init_99 : decode cX9_init 99 = .ok (.aload_n 0, 1) := zd_at zhX9_init_96 1 rfl
theorem dX9_init_100 : decode cX9_init 100 = .ok (.bipush 50, 2) := zd_at zhX9_init_96 2 rfl
theorem dX9_init_102 : decode cX9_init 102 = .ok (.newarray .int, 2) := by decide +kernel
def ziX9_init_104 : List (Nat × Instr × Nat) := [(104, .putfield 50, 3), (107, .aload_n 0, 1), (108, .bipush 50, 2)]
theorem zhX9_init_104 : zd_chk (cX9_init.data.toList.drop 104) 104 ziX9_init_104 = true := by decide +kernel
theorem dX9_init_104 : decode cX9_init 104 = .ok (.putfield 50, 3) := zd_at zhX9_init_104 0 rfl
theorem dX9_init_107 : decode cX9_init 107 = .ok (.aload_n 0, 1) := zd_at zhX9_init_104 1 rfl
theorem dX9_init_108 : decode cX9_init 108 = .ok (.bipush 50, 2) := zd_at zhX9_init_104 2 rfl
theorem dX9_init_110 : decode cX9_init 110 = .ok (.newarray .int, 2) := by decide +kernel
def ziX9_init_112 : List (Nat × Instr × Nat) := [(112, .putfield 53, 3), (115, .aload_n 0, 1), (116, .iconst 5, 1)]
theorem zhX9_init_112 : zd_chk (cX9_init.data.toList.drop 112) 112 ziX9_init_112 = true := by decide +kernel
theorem dX9_init_112 : decode cX9_init 112 = .ok (.putfield 53, 3) := zd_at zhX9_init_112 0 rfl
theorem dX9_init_115 : decode cX9_init 115 = .ok (.aload_n 0, 1) := zd_at zhX9_init_112 1 rfl
theorem dX9_init_116 : decode cX9_init 116 = .ok (.iconst 5, 1) := zd_at zhX9_init_112 2 rfl
theorem dX9_init_117 : decode cX9_init 117 = .ok (.newarray .int, 2) := by decide +kernel
def ziX9_init_119 : List (Nat × Instr × Nat) := [(119, .putfield 56, 3), (122, .aload_n 0, 1), (123, .bipush 50, 2)]
theorem zhX9_init_119 : zd_chk (cX9_init.data.toList.drop 119) 119 ziX9_init_119 = true := by decide +kernel
theorem dX9_init_119 : decode cX9_init 119 = .ok (.putfield 56, 3) := zd_at zhX9_init_119 0 rfl
theorem dX9_init_122 : decode cX9_init 122 = .ok (.aload_n 0, 1) := zd_at zhX9_init_119 1 rfl
theorem dX9_init_123 : decode cX9_init 123 = .ok (.bipush 50, 2) := zd_at zhX9_init_119 2 rfl
theorem dX9_init_125 : decode cX9_init 125 = .ok (.newarray .int, 2) := by decide +kernel
def ziX9_init_127 : List (Nat × Instr × Nat) := [(127, .putfield 59, 3), (130, .aload_n 0, 1), (131, .bipush 50, 2)]
theorem zhX9_init_127 : zd_chk (cX9_init.data.toList.drop 127) 127 ziX9_init_127 = true := by decide +kernel
theorem dX9_init_127 : decode cX9_init 127 = .ok (.putfield 59, 3) := zd_at zhX9_init_127 0 rfl
theorem dX9_init_130 : decode cX9_init 130 = .ok (.aload_n 0, 1) := zd_at zhX9_init_127 1 rfl
theorem dX9_init_131 : decode cX9_init 131 = .ok (.bipush 50, 2) := zd_at zhX9_init_127 2 rfl
theorem dX9_init_133 : decode cX9_init 133 = .ok (.newarray .int, 2) := by decide +kernel
def ziX9_init_135 : List (Nat × Instr × Nat) := [(135, .putfield 62, 3), (138, .aload_n 0, 1), (139, .iconst (-1), 1), (140, .putfield 65, 3), (143, .aload_n 0, 1), (144, .iconst 4, 1)]
theorem zhX9_init_135 : zd_chk (cX9_init.data.toList.drop 135) 135 ziX9_init_135 = true := by decide +kernel
theorem dX9_init_135 : decode cX9_init 135 = .ok (.putfield 62, 3) := zd_at zhX9_init_135 0 rfl
theorem dX9_init_138 : decode cX9_init 138 = .ok (.aload_n 0, 1) := zd_at zhX9_init_135 1 rfl
theorem dX9_init_139 : decode cX9_init 139 = .ok (.iconst (-1), 1) := zd_at zhX9_init_135 2 rfl
theorem dX9_init_140 : decode cX9_init 140 = .ok (.putfield 65, 3) := zd_at zhX9_init_135 3 rfl
theorem dX9_init_143 : decode cX9_init 143 = .ok (.aload_n 0, 1) := zd_at zhX9_init_135 4 rfl
theorem dX9_init_144 : decode cX9_init 144 = .ok (.iconst 4, 1) := zd_at zhX9_init_135 5 rfl
theorem dX9_init_145 : decode cX9_init 145 = .ok (.newarray .boolean, 2) := by decide +kernel
def ziX9_init_147 : List (Nat × Instr × Nat) := [(147, .putfield 68, 3), (150, .aload_n 0, 1), (151, .iconst 4, 1)]
theorem zhX9_init_147 : zd_chk (cX9_init.data.toList.drop 147) 147 ziX9_init_147 = true := by decide +kernel
theorem dX9_init_147 : decode cX9_init 147 = .ok (.putfield 68, 3) := zd_at zhX9_init_147 0 rfl
theorem dX9_init_150 : decode cX9_init 150 = .ok (.aload_n 0, 1) := zd_at zhX9_init_147 1 rfl
theorem dX9_init_151 : decode cX9_init 151 = .ok (.iconst 4, 1) := zd_at zhX9_init_147 2 rfl
theorem dX9_init_152 : decode cX9_init 152 = .ok (.newarray .int, 2) := by decide +kernel
def ziX9_init_154 : List (Nat × Instr × Nat) := [(154, .putfield 72, 3), (157, .aload_n 0, 1), (158, .iconst 4, 1)]
theorem zhX9_init_154 : zd_chk (cX9_init.data.toList.drop 154) 154 ziX9_init_154 = true := by decide +kernel
theorem dX9_init_154 : decode cX9_init 154 = .ok (.putfield 72, 3) := zd_at zhX9_init_154 0 rfl
theorem dX9_init_157 : decode cX9_init 157 = .ok (.aload_n 0, 1) := zd_at zhX9_init_154 1 rfl
theorem dX9_init_158 : decode cX9_init 158 = .ok (.iconst 4, 1) := zd_at zhX9_init_154 2 rfl
theorem dX9_init_159 : decode cX9_init 159 = .ok (.newarray .int, 2) := by decide +kernel
def ziX9_init_161 : List (Nat × Instr × Nat) := [(161, .putfield 75, 3), (164, .aload_n 0, 1), (165, .sipush 160, 3)]
theorem zhX9_init_161 : zd_chk (cX9_init.data.toList.drop 161) 161 ziX9_init_161 = true := by decide +kernel
theorem dX9_init_161 : decode cX9_init 161 = .ok (.putfield 75, 3) := zd_at zhX9_init_161 0 rfl
theorem dX9_init_164 : decode cX9_init 164 = .ok (.aload_n 0, 1) := zd_at zhX9_init_161 1 rfl
theorem dX9_init_165 : decode cX9_init 165 = .ok (.sipush 160, 3) := zd_at zhX9_init_161 2 rfl
theorem dX9_init_168 : decode cX9_init 168 = .ok (.newarray .int, 2) := by decide +kernel
def ziX9_init_170 : List (Nat × Instr × Nat) := [(170, .putfield 78, 3), (173, .aload_n 0, 1), (174, .iconst 0, 1), (175, .bipush 115, 2), (177, .bipush 116, 2), (179, .bipush 105, 2), (181, .bipush 99, 2), (183, .bipush 107, 2), (185, .bipush 115, 2), (187, .bipush 32, 2), (189, .bipush 119, 2), (191, .invokevirtual 81, 3), (194, .aload_n 0, 1), (195, .bipush 8, 2), (197, .bipush 111, 2), (199, .bipush 114, 2), (201, .bipush 100, 2), (203, .bipush 32, 2), (205, .bipush 43, 2), (207, .bipush 32, 2), (209, .bipush 102, 2), (211, .bipush 111, 2), (213, .invokevirtual 81, 3), (216, .aload_n 0, 1), (217, .bipush 16, 2), (219, .bipush 111, 2), (221, .bipush 100, 2), (223, .bipush 32, 2), (225, .bipush 42, 2), (227, .bipush 32, 2), (229, .bipush 51, 2), (231, .bipush 32, 2), (233, .bipush 59, 2), (235, .invokevirtual 81, 3), (238, .aload_n 0, 1), (239, .bipush 24, 2), (241, .bipush 32, 2), (243, .bipush 108, 2), (245, .bipush 97, 2), (247, .bipush 115, 2)]
theorem zhX9_init_170 : zd_chk (cX9_init.data.toList.drop 170) 170 ziX9_init_170 = true := by decide +kernel
theorem dX9_init_170 : decode cX9_init 170 = .ok (.putfield 78, 3) := zd_at zhX9_init_170 0 rfl
theorem dX9_init_173 : decode cX9_init 173 = .ok (.aload_n 0, 1) := zd_at zhX9_init_170 1 rfl
theorem dX9_init_174 : decode cX9_init 174 = .ok (.iconst 0, 1) := zd_at zhX9_init_170 2 rfl
theorem dX9_init_175 : decode cX9_init 175 = .ok (.bipush 115, 2) := zd_at zhX9_init_170 3 rfl
theorem dX9_init_177 : decode cX9_init 177 = .ok (.bipush 116, 2) := zd_at zhX9_init_170 4 rfl
theorem dX9_init_179 : decode cX9_init 179 = .ok (.bipush 105, 2) := zd_at zhX9_init_170 5 rfl
theorem dX9_init_181 : decode cX9_init 181 = .ok (.bipush 99, 2) := zd_at zhX9_init_170 6 rfl
theorem dX9_init_183 : decode cX9_init 183 = .ok (.bipush 107, 2) := zd_at zhX9_init_170 7 rfl
theorem dX9_init_185 : decode cX9_init 185 = .ok (.bipush 115, 2) := zd_at zhX9_init_170 8 rfl
theorem dX9_init_187 : decode cX9_init 187 = .ok (.bipush 32, 2) := zd_at zhX9_init_170 9 rfl
theorem dX9_init_189 : decode cX9_init 189 = .ok (.bipush 119, 2) := zd_at zhX9_init_170 10 rfl
theorem dX9_init_191 : decode cX9_init 191 = .ok (.invokevirtual 81, 3) := zd_at zhX9_init_170 11 rfl
theorem dX9_init_194 : decode cX9_init 194 = .ok (.aload_n 0, 1) := zd_at zhX9_init_170 12 rfl
theorem dX9_init_195 : decode cX9_init 195 = .ok (.bipush 8, 2) := zd_at zhX9_init_170 13 rfl
theorem dX9_init_197 : decode cX9_init 197 = .ok (.bipush 111, 2) := zd_at zhX9_init_170 14 rfl
theorem dX9_init_199 : decode cX9_init 199 = .ok (.bipush 114, 2) := zd_at zhX9_init_170 15 rfl
theorem dX9_init_201 : decode cX9_init 201 = .ok (.bipush 100, 2) := zd_at zhX9_init_170 16 rfl
theorem dX9_init_203 : decode cX9_init 203 = .ok (.bipush 32, 2) := zd_at zhX9_init_170 17 rfl
theorem dX9_init_205 : decode cX9_init 205 = .ok (.bipush 43, 2) := zd_at zhX9_init_170 18 rfl
theorem dX9_init_207 : decode cX9_init 207 = .ok (.bipush 32, 2) := zd_at zhX9_init_170 19 rfl
theorem dX9_init_209 : decode cX9_init 209 = .ok (.bipush 102, 2) := zd_at zhX9_init_170 20 rfl
theorem dX9_init_211 : decode cX9_init 211 = .ok (.bipush 111, 2) := zd_at zhX9_init_170 21 rfl
theorem dX9_init_213 : decode cX9_init 213 = .ok (.invokevirtual 81, 3) := zd_at zhX9_init_170 22 rfl
theorem dX9_init_216 : decode cX9_init 216 = .ok (.aload_n 0, 1) := zd_at zhX9_init_170 23 rfl
theorem dX9_init_217 : decode cX9_init 217 = .ok (.bipush 16, 2) := zd_at zhX9_init_170 24 rfl
theorem dX9_init_219 : decode cX9_init 219 = .ok (.bipush 111, 2) := zd_at zhX9_init_170 25 rfl
theorem dX9_init_221 : decode cX9_init 221 = .ok (.bipush 100, 2) := zd_at zhX9_init_170 26 rfl
theorem dX9_init_223 : decode cX9_init 223 = .ok (.bipush 32, 2) := zd_at zhX9_init_170 27 rfl
theorem dX9_init_225 : decode cX9_init 225 = .ok (.bipush 42, 2) := zd_at zhX9_init_170 28 rfl
theorem dX9_init_227 : decode cX9_init 227 = .ok (.bipush 32, 2) := zd_at zhX9_init_170 29 rfl
theorem dX9_init_229 : decode cX9_init 229 = .ok (.bipush 51, 2) := zd_at zhX9_init_170 30 rfl
theorem dX9_init_231 : decode cX9_init 231 = .ok (.bipush 32, 2) := zd_at zhX9_init_170 31 rfl
theorem dX9_init_233 : decode cX9_init 233 = .ok (.bipush 59, 2) := zd_at zhX9_init_170 32 rfl
theorem dX9_init_235 : decode cX9_init 235 = .ok (.invokevirtual 81, 3) := zd_at zhX9_init_170 33 rfl
theorem dX9_init_238 : decode cX9_init 238 = .ok (.aload_n 0, 1) := zd_at zhX9_init_170 34 rfl
theorem dX9_init_239 : decode cX9_init 239 = .ok (.bipush 24, 2) := zd_at zhX9_init_170 35 rfl
theorem dX9_init_241 : decode cX9_init 241 = .ok (.bipush 32, 2) := zd_at zhX9_init_170 36 rfl
theorem dX9_init_243 : decode cX9_init 243 = .ok (.bipush 108, 2) := zd_at zhX9_init_170 37 rfl
theorem dX9_init_245 : decode cX9_init 245 = .ok (.bipush 97, 2) := zd_at zhX9_init_170 38 rfl
theorem dX9_init_247 : decode cX9_init 247 = .ok (.bipush 115, 2) := zd_at zhX9_init_170 39 rfl
def ziX9_init_249 : List (Nat × Instr × Nat) := [(249, .bipush 116, 2), (251, .bipush 115, 2), (253, .bipush 32, 2), (255, .bipush 53, 2), (257, .invokevirtual 81, 3), (260, .aload_n 0, 1), (261, .bipush 32, 2), (263, .bipush 32, 2), (265, .bipush 59, 2), (267, .bipush 32, 2), (269, .bipush 115, 2), (271, .bipush 104, 2), (273, .bipush 97, 2), (275, .bipush 109, 2), (277, .bipush 101, 2), (279, .invokevirtual 81, 3), (282, .aload_n 0, 1), (283, .bipush 40, 2), (285, .bipush 115, 2), (287, .bipush 32, 2), (289, .bipush 49, 2), (291, .bipush 48, 2), (293, .bipush 32, 2), (295, .bipush 59, 2), (297, .bipush 32, 2), (299, .bipush 32, 2), (301, .invokevirtual 81, 3), (304, .aload_n 0, 1), (305, .getfield 17, 3), (308, .iconst 0, 1), (309, .bipush 48, 2), (311, .iastore, 1), (312, .aload_n 0, 1), (313, .iconst 1, 1), (314, .putfield 85, 3), (317, .return_, 1)]
theorem zhX9_init_249 : zd_chk (cX9_init.data.toList.drop 249) 249 ziX9_init_249 = true := by decide +kernel
theorem dX9_init_249 : decode cX9_init 249 = .ok (.bipush 116, 2) := zd_at zhX9_init_249 0 rfl
theorem dX9_init_251 : decode cX9_init 251 = .ok (.bipush 115, 2) := zd_at zhX9_init_249 1 rfl
theorem dX9_init_253 : decode cX9_init 253 = .ok (.bipush 32, 2) := zd_at zhX9_init_249 2 rfl
theorem dX9_init_255 : decode cX9_init 255 = .ok (.bipush 53, 2) := zd_at zhX9_init_249 3 rfl
theorem dX9_init_257 : decode cX9_init 257 = .ok (.invokevirtual 81, 3) := zd_at zhX9_init_249 4 rfl
theorem dX9_init_260 : decode cX9_init 260 = .ok (.aload_n 0, 1) := zd_at zhX9_init_249 5 rfl
theorem dX9_init_261 : decode cX9_init 261 = .ok (.bipush 32, 2) := zd_at zhX9_init_249 6 rfl
theorem dX9_init_263 : decode cX9_init 263 = .ok (.bipush 32, 2) := zd_at zhX9_init_249 7 rfl
theorem dX9_init_265 : decode cX9_init 265 = .ok (.bipush 59, 2) := zd_at zhX9_init_249 8 rfl
theorem dX9_init_267 : decode cX9_init 267 = .ok (.bipush 32, 2) := zd_at zhX9_init_249 9 rfl
theorem dX9_init_269 : decode cX9_init 269 = .ok (.bipush 115, 2) := zd_at zhX9_init_249 10 rfl
theorem dX9_init_271 : decode cX9_init 271 = .ok (.bipush 104, 2) := zd_at zhX9_init_249 11 rfl
theorem dX9_init_273 : decode cX9_init 273 = .ok (.bipush 97, 2) := zd_at zhX9_init_249 12 rfl
theorem dX9_init_275 : decode cX9_init 275 = .ok (.bipush 109, 2) := zd_at zhX9_init_249 13 rfl
theorem dX9_init_277 : decode cX9_init 277 = .ok (.bipush 101, 2) := zd_at zhX9_init_249 14 rfl
theorem dX9_init_279 : decode cX9_init 279 = .ok (.invokevirtual 81, 3) := zd_at zhX9_init_249 15 rfl
theorem dX9_init_282 : decode cX9_init 282 = .ok (.aload_n 0, 1) := zd_at zhX9_init_249 16 rfl
theorem dX9_init_283 : decode cX9_init 283 = .ok (.bipush 40, 2) := zd_at zhX9_init_249 17 rfl
theorem dX9_init_285 : decode cX9_init 285 = .ok (.bipush 115, 2) := zd_at zhX9_init_249 18 rfl
theorem dX9_init_287 : decode cX9_init 287 = .ok (.bipush 32, 2) := zd_at zhX9_init_249 19 rfl
theorem dX9_init_289 : decode cX9_init 289 = .ok (.bipush 49, 2) := zd_at zhX9_init_249 20 rfl
theorem dX9_init_291 : decode cX9_init 291 = .ok (.bipush 48, 2) := zd_at zhX9_init_249 21 rfl
theorem dX9_init_293 : decode cX9_init 293 = .ok (.bipush 32, 2) := zd_at zhX9_init_249 22 rfl
theorem dX9_init_295 : decode cX9_init 295 = .ok (.bipush 59, 2) := zd_at zhX9_init_249 23 rfl
theorem dX9_init_297 : decode cX9_init 297 = .ok (.bipush 32, 2) := zd_at zhX9_init_249 24 rfl
theorem dX9_init_299 : decode cX9_init 299 = .ok (.bipush 32, 2) := zd_at zhX9_init_249 25 rfl
theorem dX9_init_301 : decode cX9_init 301 = .ok (.invokevirtual 81, 3) := zd_at zhX9_init_249 26 rfl
theorem dX9_init_304 : decode cX9_init 304 = .ok (.aload_n 0, 1) := zd_at zhX9_init_249 27 rfl
theorem dX9_init_305 : decode cX9_init 305 = .ok (.getfield 17, 3) := zd_at zhX9_init_249 28 rfl
theorem dX9_init_308 : decode cX9_init 308 = .ok (.iconst 0, 1) := zd_at zhX9_init_249 29 rfl
theorem dX9_init_309 : decode cX9_init 309 = .ok (.bipush 48, 2) := zd_at zhX9_init_249 30 rfl
theorem dX9_init_311 : decode cX9_init 311 = .ok (.iastore, 1) := zd_at zhX9_init_249 31 rfl
theorem dX9_init_312 : decode cX9_init 312 = .ok (.aload_n 0, 1) := zd_at zhX9_init_249 32 rfl
theorem dX9_init_313 : decode cX9_init 313 = .ok (.iconst 1, 1) := zd_at zhX9_init_249 33 rfl
theorem dX9_init_314 : decode cX9_init 314 = .ok (.putfield 85, 3) := zd_at zhX9_init_249 34 rfl
theorem dX9_init_317 : decode cX9_init 317 = .ok (.return_, 1) := zd_at zhX9_init_249 35 rfl
def ziX9_spell_0 : List (Nat × Instr × Nat) := [(0, .aload_n 0, 1), (1, .getfield 13, 3), (4, .iload_n 1, 1), (5, .iload_n 2, 1), (6, .iastore, 1), (7, .aload_n 0, 1), (8, .getfield 13, 3), (11, .iload_n 1, 1), (12, .iconst 1, 1), (13, .iadd, 1), (14, .iload_n 3, 1), (15, .iastore, 1), (16, .aload_n 0, 1), (17, .getfield 13, 3), (20, .iload_n 1, 1), (21, .iconst 2, 1), (22, .iadd, 1), (23, .iload 4, 2), (25, .iastore, 1), (26, .aload_n 0, 1), (27, .getfield 13, 3), (30, .iload_n 1, 1), (31, .iconst 3, 1), (32, .iadd, 1), (33, .iload 5, 2), (35, .iastore, 1), (36, .aload_n 0, 1), (37, .getfield 13, 3), (40, .iload_n 1, 1), (41, .iconst 4, 1), (42, .iadd, 1), (43, .iload 6, 2), (45, .iastore, 1), (46, .aload_n 0, 1), (47, .getfield 13, 3), (50, .iload_n 1, 1), (51, .iconst 5, 1), (52, .iadd, 1), (53, .iload 7, 2), (55, .iastore, 1)]
theorem zhX9_spell_0 : zd_chk (cX9_spell.data.toList.drop 0) 0 ziX9_spell_0 = true := by decide +kernel
theorem dX9_spell_0 : decode cX9_spell 0 = .ok (.aload_n 0, 1) := zd_at zhX9_spell_0 0 rfl
theorem dX9_spell_1 : decode cX9_spell 1 = .ok (.getfield 13, 3) := zd_at zhX9_spell_0 1 rfl
theorem dX9_spell_4 : decode cX9_spell 4 = .ok (.iload_n 1, 1) := zd_at zhX9_spell_0 2 rfl
theorem dX9_spell_5 : decode cX9_spell 5 = .ok (.iload_n 2, 1) := zd_at zhX9_spell_0 3 rfl
theorem dX9_spell_6 : decode cX9_spell 6 = .ok (.iastore, 1) := zd_at zhX9_spell_0 4 rfl
theorem dX9_spell_7 : decode cX9_spell 7 = .ok (.aload_n 0, 1) := zd_at zhX9_spell_0 5 rfl
theorem dX9_spell_8 : decode cX9_spell 8 = .ok (.getfield 13, 3) := zd_at zhX9_spell_0 6 rfl
theorem dX9_spell_11 : decode cX9_spell 11 = .ok (.iload_n 1, 1) := zd_at zhX9_spell_0 7 rfl
theorem dX9_spell_12 : decode cX9_spell 12 = .ok (.iconst 1, 1) := zd_at zhX9_spell_0 8 rfl
theorem dX9_spell_13 : decode cX9_spell 13 = .ok (.iadd, 1) := zd_at zhX9_spell_0 9 rfl
theorem dX9_spell_14 : decode cX9_spell 14 = .ok (.iload_n 3, 1) := zd_at zhX9_spell_0 10 rfl
theorem dX9_spell_15 : decode cX9_spell 15 = .ok (.iastore, 1) := zd_at zhX9_spell_0 11 rfl
theorem dX9_spell_16 : decode cX9_spell 16 = .ok (.aload_n 0, 1) := zd_at zhX9_spell_0 12 rfl
theorem dX9_spell_17 : decode cX9_spell 17 = .ok (.getfield 13, 3) := zd_at zhX9_spell_0 13 rfl
theorem dX9_spell_20 : decode cX9_spell 20 = .ok (.iload_n 1, 1) := zd_at zhX9_spell_0 14 rfl
theorem dX9_spell_21 : decode cX9_spell 21 = .ok (.iconst 2, 1) := zd_at zhX9_spell_0 15 rfl
theorem dX9_spell_22 : decode cX9_spell 22 = .ok (.iadd, 1) := zd_at zhX9_spell_0 16 rfl
theorem dX9_spell_23 : decode cX9_spell 23 = .ok (.iload 4, 2) := zd_at zhX9_spell_0 17 rfl
theorem dX9_spell_25 : decode cX9_spell 25 = .ok (.iastore, 1) := zd_at zhX9_spell_0 18 rfl
theorem dX9_spell_26 : decode cX9_spell 26 = .ok (.aload_n 0, 1) := zd_at zhX9_spell_0 19 rfl
theorem dX9_spell_27 : decode cX9_spell 27 = .ok (.getfield 13, 3) := zd_at zhX9_spell_0 20 rfl
theorem dX9_spell_30 : decode cX9_spell 30 = .ok (.iload_n 1, 1) := zd_at zhX9_spell_0 21 rfl
theorem dX9_spell_31 : decode cX9_spell 31 = .ok (.iconst 3, 1) := zd_at zhX9_spell_0 22 rfl
theorem dX9_spell_32 : decode cX9_spell 32 = .ok (.iadd, 1) := zd_at zhX9_spell_0 23 rfl
theorem dX9_spell_33 : decode cX9_spell 33 = .ok (.iload 5, 2) := zd_at zhX9_spell_0 24 rfl
theorem dX9_spell_35 : decode cX9_spell 35 = .ok (.iastore, 1) := zd_at zhX9_spell_0 25 rfl
theorem dX9_spell_36 : decode cX9_spell 36 = .ok (.aload_n 0, 1) := zd_at zhX9_spell_0 26 rfl
theorem dX9_spell_37 : decode cX9_spell 37 = .ok (.getfield 13, 3) := zd_at zhX9_spell_0 27 rfl
theorem dX9_spell_40 : decode cX9_spell 40 = .ok (.iload_n 1, 1) := zd_at zhX9_spell_0 28 rfl
theorem dX9_spell_41 : decode cX9_spell 41 = .ok (.iconst 4, 1) := zd_at zhX9_spell_0 29 rfl
theorem dX9_spell_42 : decode cX9_spell 42 = .ok (.iadd, 1) := zd_at zhX9_spell_0 30 rfl
theorem dX9_spell_43 : decode cX9_spell 43 = .ok (.iload 6, 2) := zd_at zhX9_spell_0 31 rfl
theorem dX9_spell_45 : decode cX9_spell 45 = .ok (.iastore, 1) := zd_at zhX9_spell_0 32 rfl
theorem dX9_spell_46 : decode cX9_spell 46 = .ok (.aload_n 0, 1) := zd_at zhX9_spell_0 33 rfl
theorem dX9_spell_47 : decode cX9_spell 47 = .ok (.getfield 13, 3) := zd_at zhX9_spell_0 34 rfl
theorem dX9_spell_50 : decode cX9_spell 50 = .ok (.iload_n 1, 1) := zd_at zhX9_spell_0 35 rfl
theorem dX9_spell_51 : decode cX9_spell 51 = .ok (.iconst 5, 1) := zd_at zhX9_spell_0 36 rfl
theorem dX9_spell_52 : decode cX9_spell 52 = .ok (.iadd, 1) := zd_at zhX9_spell_0 37 rfl
theorem dX9_spell_53 : decode cX9_spell 53 = .ok (.iload 7, 2) := zd_at zhX9_spell_0 38 rfl
theorem dX9_spell_55 : decode cX9_spell 55 = .ok (.iastore, 1) := zd_at zhX9_spell_0 39 rfl
def ziX9_spell_56 : List (Nat × Instr × Nat) := [(56, .aload_n 0, 1), (57, .getfield 13, 3), (60, .iload_n 1, 1), (61, .bipush 6, 2), (63, .iadd, 1), (64, .iload 8, 2), (66, .iastore, 1), (67, .aload_n 0, 1), (68, .getfield 13, 3), (71, .iload_n 1, 1), (72, .bipush 7, 2), (74, .iadd, 1), (75, .iload 9, 2), (77, .iastore, 1), (78, .return_, 1)]
theorem zhX9_spell_56 : zd_chk (cX9_spell.data.toList.drop 56) 56 ziX9_spell_56 = true := by decide +kernel
theorem dX9_spell_56 : decode cX9_spell 56 = .ok (.aload_n 0, 1) := zd_at zhX9_spell_56 0 rfl
theorem dX9_spell_57 : decode cX9_spell 57 = .ok (.getfield 13, 3) := zd_at zhX9_spell_56 1 rfl
theorem dX9_spell_60 : decode cX9_spell 60 = .ok (.iload_n 1, 1) := zd_at zhX9_spell_56 2 rfl
theorem dX9_spell_61 : decode cX9_spell 61 = .ok (.bipush 6, 2) := zd_at zhX9_spell_56 3 rfl
theorem dX9_spell_63 : decode cX9_spell 63 = .ok (.iadd, 1) := zd_at zhX9_spell_56 4 rfl
theorem dX9_spell_64 : decode cX9_spell 64 = .ok (.iload 8, 2) := zd_at zhX9_spell_56 5 rfl
theorem dX9_spell_66 : decode cX9_spell 66 = .ok (.iastore, 1) := zd_at zhX9_spell_56 6 rfl
theorem dX9_spell_67 : decode cX9_spell 67 = .ok (.aload_n 0, 1) := zd_at zhX9_spell_56 7 rfl
theorem dX9_spell_68 : decode cX9_spell 68 = .ok (.getfield 13, 3) := zd_at zhX9_spell_56 8 rfl
theorem dX9_spell_71 : decode cX9_spell 71 = .ok (.iload_n 1, 1) := zd_at zhX9_spell_56 9 rfl
theorem dX9_spell_72 : decode cX9_spell 72 = .ok (.bipush 7, 2) := zd_at zhX9_spell_56 10 rfl
theorem dX9_spell_74 : decode cX9_spell 74 = .ok (.iadd, 1) := zd_at zhX9_spell_56 11 rfl
theorem dX9_spell_75 : decode cX9_spell 75 = .ok (.iload 9, 2) := zd_at zhX9_spell_56 12 rfl
theorem dX9_spell_77 : decode cX9_spell 77 = .ok (.iastore, 1) := zd_at zhX9_spell_56 13 rfl
theorem dX9_spell_78 : decode cX9_spell 78 = .ok (.return_, 1) := zd_at zhX9_spell_56 14 rfl
def ziX9_isOne_0 : List (Nat × Instr × Nat) := [(0, .iload_n 1, 1), (1, .i2l, 1), (2, .lconst 0, 1), (3, .aload_n 0, 1), (4, .getfield 88, 3), (7, .iconst 1, 1), (8, .isub, 1), (9, .i2l, 1), (10, .invokestatic 91, 3), (13, .ireturn, 1)]
theorem zhX9_isOne_0 : zd_chk (cX9_isOne.data.toList.drop 0) 0 ziX9_isOne_0 = true := by decide +kernel
theorem dX9_isOne_0 : decode cX9_isOne 0 = .ok (.iload_n 1, 1) := zd_at zhX9_isOne_0 0 rfl
theorem dX9_isOne_1 : decode cX9_isOne 1 = .ok (.i2l, 1) := zd_at zhX9_isOne_0 1 rfl
theorem dX9_isOne_2 : decode cX9_isOne 2 = .ok (.lconst 0, 1) := zd_at zhX9_isOne_0 2 rfl
theorem dX9_isOne_3 : decode cX9_isOne 3 = .ok (.aload_n 0, 1) := zd_at zhX9_isOne_0 3 rfl
theorem dX9_isOne_4 : decode cX9_isOne 4 = .ok (.getfield 88, 3) := zd_at zhX9_isOne_0 4 rfl
theorem dX9_isOne_7 : decode cX9_isOne 7 = .ok (.iconst 1, 1) := zd_at zhX9_isOne_0 5 rfl
theorem dX9_isOne_8 : decode cX9_isOne 8 = .ok (.isub, 1) := zd_at zhX9_isOne_0 6 rfl
theorem dX9_isOne_9 : decode cX9_isOne 9 = .ok (.i2l, 1) := zd_at zhX9_isOne_0 7 rfl
theorem dX9_isOne_10 : decode cX9_isOne 10 = .ok (.invokestatic 91, 3) := zd_at zhX9_isOne_0 8 rfl
theorem dX9_isOne_13 : decode cX9_isOne 13 = .ok (.ireturn, 1) := zd_at zhX9_isOne_0 9 rfl
def ziX9_isGap_0 : List (Nat × Instr × Nat) := [(0, .iload_n 0, 1), (1, .i2l, 1), (2, .lconst 0, 1), (3, .ldc2_w 95, 3), (6, .invokestatic 91, 3), (9, .ireturn, 1)]
theorem zhX9_isGap_0 : zd_chk (cX9_isGap.data.toList.drop 0) 0 ziX9_isGap_0 = true := by decide +kernel
theorem dX9_isGap_0 : decode cX9_isGap 0 = .ok (.iload_n 0, 1) := zd_at zhX9_isGap_0 0 rfl
theorem dX9_isGap_1 : decode cX9_isGap 1 = .ok (.i2l, 1) := zd_at zhX9_isGap_0 1 rfl
theorem dX9_isGap_2 : decode cX9_isGap 2 = .ok (.lconst 0, 1) := zd_at zhX9_isGap_0 2 rfl
theorem dX9_isGap_3 : decode cX9_isGap 3 = .ok (.ldc2_w 95, 3) := zd_at zhX9_isGap_0 3 rfl
theorem dX9_isGap_6 : decode cX9_isGap 6 = .ok (.invokestatic 91, 3) := zd_at zhX9_isGap_0 4 rfl
theorem dX9_isGap_9 : decode cX9_isGap 9 = .ok (.ireturn, 1) := zd_at zhX9_isGap_0 5 rfl
def ziX9_isWord_0 : List (Nat × Instr × Nat) := [(0, .iload_n 0, 1), (1, .i2l, 1), (2, .lconst 0, 1), (3, .ldc2_w 97, 3), (6, .invokestatic 91, 3), (9, .ireturn, 1)]
theorem zhX9_isWord_0 : zd_chk (cX9_isWord.data.toList.drop 0) 0 ziX9_isWord_0 = true := by decide +kernel
theorem dX9_isWord_0 : decode cX9_isWord 0 = .ok (.iload_n 0, 1) := zd_at zhX9_isWord_0 0 rfl
theorem dX9_isWord_1 : decode cX9_isWord 1 = .ok (.i2l, 1) := zd_at zhX9_isWord_0 1 rfl
theorem dX9_isWord_2 : decode cX9_isWord 2 = .ok (.lconst 0, 1) := zd_at zhX9_isWord_0 2 rfl
theorem dX9_isWord_3 : decode cX9_isWord 3 = .ok (.ldc2_w 97, 3) := zd_at zhX9_isWord_0 3 rfl
theorem dX9_isWord_6 : decode cX9_isWord 6 = .ok (.invokestatic 91, 3) := zd_at zhX9_isWord_0 4 rfl
theorem dX9_isWord_9 : decode cX9_isWord 9 = .ok (.ireturn, 1) := zd_at zhX9_isWord_0 5 rfl
def ziX9_set_0 : List (Nat × Instr × Nat) := [(0, .iload_n 1, 1), (1, .i2l, 1), (2, .lconst 0, 1), (3, .ldc2_w 99, 3), (6, .invokestatic 91, 3), (9, .ifCond .eq 49, 3), (12, .iload_n 1, 1), (13, .iconst 2, 1), (14, .if_icmp .ne 11, 3), (17, .aload_n 0, 1), (18, .iload_n 2, 1), (19, .invokevirtual 101, 3), (22, .ifCond .eq 36, 3), (25, .iload_n 3, 1), (26, .i2l, 1), (27, .lconst 0, 1), (28, .iload_n 1, 1), (29, .ifCond .ne 9, 3), (32, .ldc2_w 105, 3), (35, .goto 17, 3), (38, .iload_n 1, 1), (39, .iconst 1, 1), (40, .if_icmp .ne 9, 3), (43, .ldc2_w 107, 3), (46, .goto 6, 3), (49, .ldc2_w 95, 3), (52, .invokestatic 91, 3), (55, .ifCond .ne 6, 3), (58, .bipush (-2), 2), (60, .ireturn, 1), (61, .aload_n 0, 1), (62, .iload_n 2, 1), (63, .iload_n 1, 1), (64, .invokevirtual 109, 3), (67, .istore 4, 2), (69, .aload_n 0, 1), (70, .iload_n 1, 1), (71, .iload_n 2, 1), (72, .iload_n 3, 1), (73, .invokevirtual 113, 3)]
theorem zhX9_set_0 : zd_chk (cX9_set.data.toList.drop 0) 0 ziX9_set_0 = true := by decide +kernel
theorem dX9_set_0 : decode cX9_set 0 = .ok (.iload_n 1, 1) := zd_at zhX9_set_0 0 rfl
theorem dX9_set_1 : decode cX9_set 1 = .ok (.i2l, 1) := zd_at zhX9_set_0 1 rfl
theorem dX9_set_2 : decode cX9_set 2 = .ok (.lconst 0, 1) := zd_at zhX9_set_0 2 rfl
theorem dX9_set_3 : decode cX9_set 3 = .ok (.ldc2_w 99, 3) := zd_at zhX9_set_0 3 rfl
theorem dX9_set_6 : decode cX9_set 6 = .ok (.invokestatic 91, 3) := zd_at zhX9_set_0 4 rfl
theorem dX9_set_9 : decode cX9_set 9 = .ok (.ifCond .eq 49, 3) := zd_at zhX9_set_0 5 rfl
theorem dX9_set_12 : decode cX9_set 12 = .ok (.iload_n 1, 1) := zd_at zhX9_set_0 6 rfl
theorem dX9_set_13 : decode cX9_set 13 = .ok (.iconst 2, 1) := zd_at zhX9_set_0 7 rfl
theorem dX9_set_14 : decode cX9_set 14 = .ok (.if_icmp .ne 11, 3) := zd_at zhX9_set_0 8 rfl
theorem dX9_set_17 : decode cX9_set 17 = .ok (.aload_n 0, 1) := zd_at zhX9_set_0 9 rfl
theorem dX9_set_18 : decode cX9_set 18 = .ok (.iload_n 2, 1) := zd_at zhX9_set_0 10 rfl
theorem dX9_set_19 : decode cX9_set 19 = .ok (.invokevirtual 101, 3) := zd_at zhX9_set_0 11 rfl
theorem dX9_set_22 : decode cX9_set 22 = .ok (.ifCond .eq 36, 3) := zd_at zhX9_set_0 12 rfl
theorem dX9_set_25 : decode cX9_set 25 = .ok (.iload_n 3, 1) := zd_at zhX9_set_0 13 rfl
theorem dX9_set_26 : decode cX9_set 26 = .ok (.i2l, 1) := zd_at zhX9_set_0 14 rfl
theorem dX9_set_27 : decode cX9_set 27 = .ok (.lconst 0, 1) := zd_at zhX9_set_0 15 rfl
theorem dX9_set_28 : decode cX9_set 28 = .ok (.iload_n 1, 1) := zd_at zhX9_set_0 16 rfl
theorem dX9_set_29 : decode cX9_set 29 = .ok (.ifCond .ne 9, 3) := zd_at zhX9_set_0 17 rfl
theorem dX9_set_32 : decode cX9_set 32 = .ok (.ldc2_w 105, 3) := zd_at zhX9_set_0 18 rfl
theorem dX9_set_35 : decode cX9_set 35 = .ok (.goto 17, 3) := zd_at zhX9_set_0 19 rfl
theorem dX9_set_38 : decode cX9_set 38 = .ok (.iload_n 1, 1) := zd_at zhX9_set_0 20 rfl
theorem dX9_set_39 : decode cX9_set 39 = .ok (.iconst 1, 1) := zd_at zhX9_set_0 21 rfl
theorem dX9_set_40 : decode cX9_set 40 = .ok (.if_icmp .ne 9, 3) := zd_at zhX9_set_0 22 rfl
theorem dX9_set_43 : decode cX9_set 43 = .ok (.ldc2_w 107, 3) := zd_at zhX9_set_0 23 rfl
theorem dX9_set_46 : decode cX9_set 46 = .ok (.goto 6, 3) := zd_at zhX9_set_0 24 rfl
theorem dX9_set_49 : decode cX9_set 49 = .ok (.ldc2_w 95, 3) := zd_at zhX9_set_0 25 rfl
theorem dX9_set_52 : decode cX9_set 52 = .ok (.invokestatic 91, 3) := zd_at zhX9_set_0 26 rfl
theorem dX9_set_55 : decode cX9_set 55 = .ok (.ifCond .ne 6, 3) := zd_at zhX9_set_0 27 rfl
theorem dX9_set_58 : decode cX9_set 58 = .ok (.bipush (-2), 2) := zd_at zhX9_set_0 28 rfl
theorem dX9_set_60 : decode cX9_set 60 = .ok (.ireturn, 1) := zd_at zhX9_set_0 29 rfl
theorem dX9_set_61 : decode cX9_set 61 = .ok (.aload_n 0, 1) := zd_at zhX9_set_0 30 rfl
theorem dX9_set_62 : decode cX9_set 62 = .ok (.iload_n 2, 1) := zd_at zhX9_set_0 31 rfl
theorem dX9_set_63 : decode cX9_set 63 = .ok (.iload_n 1, 1) := zd_at zhX9_set_0 32 rfl
theorem dX9_set_64 : decode cX9_set 64 = .ok (.invokevirtual 109, 3) := zd_at zhX9_set_0 33 rfl
theorem dX9_set_67 : decode cX9_set 67 = .ok (.istore 4, 2) := zd_at zhX9_set_0 34 rfl
theorem dX9_set_69 : decode cX9_set 69 = .ok (.aload_n 0, 1) := zd_at zhX9_set_0 35 rfl
theorem dX9_set_70 : decode cX9_set 70 = .ok (.iload_n 1, 1) := zd_at zhX9_set_0 36 rfl
theorem dX9_set_71 : decode cX9_set 71 = .ok (.iload_n 2, 1) := zd_at zhX9_set_0 37 rfl
theorem dX9_set_72 : decode cX9_set 72 = .ok (.iload_n 3, 1) := zd_at zhX9_set_0 38 rfl
theorem dX9_set_73 : decode cX9_set 73 = .ok (.invokevirtual 113, 3) := zd_at zhX9_set_0 39 rfl
def ziX9_set_76 : List (Nat × Instr × Nat) := [(76, .iload 4, 2), (78, .ireturn, 1)]
theorem zhX9_set_76 : zd_chk (cX9_set.data.toList.drop 76) 76 ziX9_set_76 = true := by decide +kernel
theorem dX9_set_76 : decode cX9_set 76 = .ok (.iload 4, 2) := zd_at zhX9_set_76 0 rfl
theorem dX9_set_78 : decode cX9_set 78 = .ok (.ireturn, 1) := zd_at zhX9_set_76 1 rfl
def ziX9_lays_0 : List (Nat × Instr × Nat) := [(0, .iload_n 1, 1), (1, .ifCond .ne 11, 3), (4, .aload_n 0, 1), (5, .iload_n 3, 1), (6, .putfield 117, 3), (9, .goto 51, 3), (12, .iload_n 1, 1), (13, .iconst 1, 1), (14, .if_icmp .ne 11, 3), (17, .aload_n 0, 1), (18, .iload_n 3, 1), (19, .putfield 23, 3), (22, .goto 38, 3), (25, .iload_n 1, 1), (26, .iconst 2, 1), (27, .if_icmp .ne 13, 3), (30, .aload_n 0, 1), (31, .getfield 29, 3), (34, .iload_n 2, 1), (35, .iload_n 3, 1), (36, .iastore, 1), (37, .goto 23, 3), (40, .iload_n 1, 1), (41, .iconst 3, 1), (42, .if_icmp .ne 13, 3), (45, .aload_n 0, 1), (46, .getfield 26, 3), (49, .iload_n 2, 1), (50, .iload_n 3, 1), (51, .iastore, 1), (52, .goto 8, 3), (55, .aload_n 0, 1), (56, .iload_n 3, 1), (57, .putfield 120, 3), (60, .return_, 1)]
theorem zhX9_lays_0 : zd_chk (cX9_lays.data.toList.drop 0) 0 ziX9_lays_0 = true := by decide +kernel
theorem dX9_lays_0 : decode cX9_lays 0 = .ok (.iload_n 1, 1) := zd_at zhX9_lays_0 0 rfl
theorem dX9_lays_1 : decode cX9_lays 1 = .ok (.ifCond .ne 11, 3) := zd_at zhX9_lays_0 1 rfl
theorem dX9_lays_4 : decode cX9_lays 4 = .ok (.aload_n 0, 1) := zd_at zhX9_lays_0 2 rfl
theorem dX9_lays_5 : decode cX9_lays 5 = .ok (.iload_n 3, 1) := zd_at zhX9_lays_0 3 rfl
theorem dX9_lays_6 : decode cX9_lays 6 = .ok (.putfield 117, 3) := zd_at zhX9_lays_0 4 rfl
theorem dX9_lays_9 : decode cX9_lays 9 = .ok (.goto 51, 3) := zd_at zhX9_lays_0 5 rfl
theorem dX9_lays_12 : decode cX9_lays 12 = .ok (.iload_n 1, 1) := zd_at zhX9_lays_0 6 rfl
theorem dX9_lays_13 : decode cX9_lays 13 = .ok (.iconst 1, 1) := zd_at zhX9_lays_0 7 rfl
theorem dX9_lays_14 : decode cX9_lays 14 = .ok (.if_icmp .ne 11, 3) := zd_at zhX9_lays_0 8 rfl
theorem dX9_lays_17 : decode cX9_lays 17 = .ok (.aload_n 0, 1) := zd_at zhX9_lays_0 9 rfl
theorem dX9_lays_18 : decode cX9_lays 18 = .ok (.iload_n 3, 1) := zd_at zhX9_lays_0 10 rfl
theorem dX9_lays_19 : decode cX9_lays 19 = .ok (.putfield 23, 3) := zd_at zhX9_lays_0 11 rfl
theorem dX9_lays_22 : decode cX9_lays 22 = .ok (.goto 38, 3) := zd_at zhX9_lays_0 12 rfl
theorem dX9_lays_25 : decode cX9_lays 25 = .ok (.iload_n 1, 1) := zd_at zhX9_lays_0 13 rfl
theorem dX9_lays_26 : decode cX9_lays 26 = .ok (.iconst 2, 1) := zd_at zhX9_lays_0 14 rfl
theorem dX9_lays_27 : decode cX9_lays 27 = .ok (.if_icmp .ne 13, 3) := zd_at zhX9_lays_0 15 rfl
theorem dX9_lays_30 : decode cX9_lays 30 = .ok (.aload_n 0, 1) := zd_at zhX9_lays_0 16 rfl
theorem dX9_lays_31 : decode cX9_lays 31 = .ok (.getfield 29, 3) := zd_at zhX9_lays_0 17 rfl
theorem dX9_lays_34 : decode cX9_lays 34 = .ok (.iload_n 2, 1) := zd_at zhX9_lays_0 18 rfl
theorem dX9_lays_35 : decode cX9_lays 35 = .ok (.iload_n 3, 1) := zd_at zhX9_lays_0 19 rfl
theorem dX9_lays_36 : decode cX9_lays 36 = .ok (.iastore, 1) := zd_at zhX9_lays_0 20 rfl
theorem dX9_lays_37 : decode cX9_lays 37 = .ok (.goto 23, 3) := zd_at zhX9_lays_0 21 rfl
theorem dX9_lays_40 : decode cX9_lays 40 = .ok (.iload_n 1, 1) := zd_at zhX9_lays_0 22 rfl
theorem dX9_lays_41 : decode cX9_lays 41 = .ok (.iconst 3, 1) := zd_at zhX9_lays_0 23 rfl
theorem dX9_lays_42 : decode cX9_lays 42 = .ok (.if_icmp .ne 13, 3) := zd_at zhX9_lays_0 24 rfl
theorem dX9_lays_45 : decode cX9_lays 45 = .ok (.aload_n 0, 1) := zd_at zhX9_lays_0 25 rfl
theorem dX9_lays_46 : decode cX9_lays 46 = .ok (.getfield 26, 3) := zd_at zhX9_lays_0 26 rfl
theorem dX9_lays_49 : decode cX9_lays 49 = .ok (.iload_n 2, 1) := zd_at zhX9_lays_0 27 rfl
theorem dX9_lays_50 : decode cX9_lays 50 = .ok (.iload_n 3, 1) := zd_at zhX9_lays_0 28 rfl
theorem dX9_lays_51 : decode cX9_lays 51 = .ok (.iastore, 1) := zd_at zhX9_lays_0 29 rfl
theorem dX9_lays_52 : decode cX9_lays 52 = .ok (.goto 8, 3) := zd_at zhX9_lays_0 30 rfl
theorem dX9_lays_55 : decode cX9_lays 55 = .ok (.aload_n 0, 1) := zd_at zhX9_lays_0 31 rfl
theorem dX9_lays_56 : decode cX9_lays 56 = .ok (.iload_n 3, 1) := zd_at zhX9_lays_0 32 rfl
theorem dX9_lays_57 : decode cX9_lays 57 = .ok (.putfield 120, 3) := zd_at zhX9_lays_0 33 rfl
theorem dX9_lays_60 : decode cX9_lays 60 = .ok (.return_, 1) := zd_at zhX9_lays_0 34 rfl
def ziX9_man_0 : List (Nat × Instr × Nat) := [(0, .iload_n 1, 1), (1, .i2l, 1), (2, .lconst 0, 1), (3, .ldc2_w 123, 3), (6, .invokestatic 91, 3), (9, .ifCond .eq 15, 3), (12, .iload_n 2, 1), (13, .i2l, 1), (14, .lconst 0, 1), (15, .ldc2_w 95, 3), (18, .invokestatic 91, 3), (21, .ifCond .ne 6, 3), (24, .bipush (-2), 2), (26, .ireturn, 1), (27, .aload_n 0, 1), (28, .getfield 88, 3), (31, .iconst 5, 1), (32, .if_icmp .ne 6, 3), (35, .bipush (-4), 2), (37, .ireturn, 1), (38, .aload_n 0, 1), (39, .getfield 26, 3), (42, .aload_n 0, 1), (43, .getfield 88, 3), (46, .iload_n 1, 1), (47, .iastore, 1), (48, .aload_n 0, 1), (49, .getfield 29, 3), (52, .aload_n 0, 1), (53, .getfield 88, 3), (56, .iload_n 2, 1), (57, .iastore, 1), (58, .iconst 0, 1), (59, .istore_n 3, 1), (60, .iload_n 3, 1), (61, .bipush 10, 2), (63, .if_icmp .ge 24, 3), (66, .aload_n 0, 1), (67, .getfield 32, 3), (70, .bipush 10, 2)]
theorem zhX9_man_0 : zd_chk (cX9_man.data.toList.drop 0) 0 ziX9_man_0 = true := by decide +kernel
theorem dX9_man_0 : decode cX9_man 0 = .ok (.iload_n 1, 1) := zd_at zhX9_man_0 0 rfl
theorem dX9_man_1 : decode cX9_man 1 = .ok (.i2l, 1) := zd_at zhX9_man_0 1 rfl
theorem dX9_man_2 : decode cX9_man 2 = .ok (.lconst 0, 1) := zd_at zhX9_man_0 2 rfl
theorem dX9_man_3 : decode cX9_man 3 = .ok (.ldc2_w 123, 3) := zd_at zhX9_man_0 3 rfl
theorem dX9_man_6 : decode cX9_man 6 = .ok (.invokestatic 91, 3) := zd_at zhX9_man_0 4 rfl
theorem dX9_man_9 : decode cX9_man 9 = .ok (.ifCond .eq 15, 3) := zd_at zhX9_man_0 5 rfl
theorem dX9_man_12 : decode cX9_man 12 = .ok (.iload_n 2, 1) := zd_at zhX9_man_0 6 rfl
theorem dX9_man_13 : decode cX9_man 13 = .ok (.i2l, 1) := zd_at zhX9_man_0 7 rfl
theorem dX9_man_14 : decode cX9_man 14 = .ok (.lconst 0, 1) := zd_at zhX9_man_0 8 rfl
theorem dX9_man_15 : decode cX9_man 15 = .ok (.ldc2_w 95, 3) := zd_at zhX9_man_0 9 rfl
theorem dX9_man_18 : decode cX9_man 18 = .ok (.invokestatic 91, 3) := zd_at zhX9_man_0 10 rfl
theorem dX9_man_21 : decode cX9_man 21 = .ok (.ifCond .ne 6, 3) := zd_at zhX9_man_0 11 rfl
theorem dX9_man_24 : decode cX9_man 24 = .ok (.bipush (-2), 2) := zd_at zhX9_man_0 12 rfl
theorem dX9_man_26 : decode cX9_man 26 = .ok (.ireturn, 1) := zd_at zhX9_man_0 13 rfl
theorem dX9_man_27 : decode cX9_man 27 = .ok (.aload_n 0, 1) := zd_at zhX9_man_0 14 rfl
theorem dX9_man_28 : decode cX9_man 28 = .ok (.getfield 88, 3) := zd_at zhX9_man_0 15 rfl
theorem dX9_man_31 : decode cX9_man 31 = .ok (.iconst 5, 1) := zd_at zhX9_man_0 16 rfl
theorem dX9_man_32 : decode cX9_man 32 = .ok (.if_icmp .ne 6, 3) := zd_at zhX9_man_0 17 rfl
theorem dX9_man_35 : decode cX9_man 35 = .ok (.bipush (-4), 2) := zd_at zhX9_man_0 18 rfl
theorem dX9_man_37 : decode cX9_man 37 = .ok (.ireturn, 1) := zd_at zhX9_man_0 19 rfl
theorem dX9_man_38 : decode cX9_man 38 = .ok (.aload_n 0, 1) := zd_at zhX9_man_0 20 rfl
theorem dX9_man_39 : decode cX9_man 39 = .ok (.getfield 26, 3) := zd_at zhX9_man_0 21 rfl
theorem dX9_man_42 : decode cX9_man 42 = .ok (.aload_n 0, 1) := zd_at zhX9_man_0 22 rfl
theorem dX9_man_43 : decode cX9_man 43 = .ok (.getfield 88, 3) := zd_at zhX9_man_0 23 rfl
theorem dX9_man_46 : decode cX9_man 46 = .ok (.iload_n 1, 1) := zd_at zhX9_man_0 24 rfl
theorem dX9_man_47 : decode cX9_man 47 = .ok (.iastore, 1) := zd_at zhX9_man_0 25 rfl
theorem dX9_man_48 : decode cX9_man 48 = .ok (.aload_n 0, 1) := zd_at zhX9_man_0 26 rfl
theorem dX9_man_49 : decode cX9_man 49 = .ok (.getfield 29, 3) := zd_at zhX9_man_0 27 rfl
theorem dX9_man_52 : decode cX9_man 52 = .ok (.aload_n 0, 1) := zd_at zhX9_man_0 28 rfl
theorem dX9_man_53 : decode cX9_man 53 = .ok (.getfield 88, 3) := zd_at zhX9_man_0 29 rfl
theorem dX9_man_56 : decode cX9_man 56 = .ok (.iload_n 2, 1) := zd_at zhX9_man_0 30 rfl
theorem dX9_man_57 : decode cX9_man 57 = .ok (.iastore, 1) := zd_at zhX9_man_0 31 rfl
theorem dX9_man_58 : decode cX9_man 58 = .ok (.iconst 0, 1) := zd_at zhX9_man_0 32 rfl
theorem dX9_man_59 : decode cX9_man 59 = .ok (.istore_n 3, 1) := zd_at zhX9_man_0 33 rfl
theorem dX9_man_60 : decode cX9_man 60 = .ok (.iload_n 3, 1) := zd_at zhX9_man_0 34 rfl
theorem dX9_man_61 : decode cX9_man 61 = .ok (.bipush 10, 2) := zd_at zhX9_man_0 35 rfl
theorem dX9_man_63 : decode cX9_man 63 = .ok (.if_icmp .ge 24, 3) := zd_at zhX9_man_0 36 rfl
theorem dX9_man_66 : decode cX9_man 66 = .ok (.aload_n 0, 1) := zd_at zhX9_man_0 37 rfl
theorem dX9_man_67 : decode cX9_man 67 = .ok (.getfield 32, 3) := zd_at zhX9_man_0 38 rfl
theorem dX9_man_70 : decode cX9_man 70 = .ok (.bipush 10, 2) := zd_at zhX9_man_0 39 rfl
def ziX9_man_72 : List (Nat × Instr × Nat) := [(72, .aload_n 0, 1), (73, .getfield 88, 3), (76, .imul, 1), (77, .iload_n 3, 1), (78, .iadd, 1), (79, .iconst (-1), 1), (80, .iastore, 1), (81, .iinc 3 1, 3), (84, .goto (-24), 3), (87, .aload_n 0, 1), (88, .dup, 1), (89, .getfield 88, 3), (92, .iconst 1, 1), (93, .iadd, 1), (94, .putfield 88, 3), (97, .aload_n 0, 1), (98, .getfield 88, 3), (101, .iconst 1, 1), (102, .isub, 1), (103, .ireturn, 1)]
theorem zhX9_man_72 : zd_chk (cX9_man.data.toList.drop 72) 72 ziX9_man_72 = true := by decide +kernel
theorem dX9_man_72 : decode cX9_man 72 = .ok (.aload_n 0, 1) := zd_at zhX9_man_72 0 rfl
theorem dX9_man_73 : decode cX9_man 73 = .ok (.getfield 88, 3) := zd_at zhX9_man_72 1 rfl
theorem dX9_man_76 : decode cX9_man 76 = .ok (.imul, 1) := zd_at zhX9_man_72 2 rfl
theorem dX9_man_77 : decode cX9_man 77 = .ok (.iload_n 3, 1) := zd_at zhX9_man_72 3 rfl
theorem dX9_man_78 : decode cX9_man 78 = .ok (.iadd, 1) := zd_at zhX9_man_72 4 rfl
theorem dX9_man_79 : decode cX9_man 79 = .ok (.iconst (-1), 1) := zd_at zhX9_man_72 5 rfl
theorem dX9_man_80 : decode cX9_man 80 = .ok (.iastore, 1) := zd_at zhX9_man_72 6 rfl
theorem dX9_man_81 : decode cX9_man 81 = .ok (.iinc 3 1, 3) := zd_at zhX9_man_72 7 rfl
theorem dX9_man_84 : decode cX9_man 84 = .ok (.goto (-24), 3) := zd_at zhX9_man_72 8 rfl
theorem dX9_man_87 : decode cX9_man 87 = .ok (.aload_n 0, 1) := zd_at zhX9_man_72 9 rfl
theorem dX9_man_88 : decode cX9_man 88 = .ok (.dup, 1) := zd_at zhX9_man_72 10 rfl
theorem dX9_man_89 : decode cX9_man 89 = .ok (.getfield 88, 3) := zd_at zhX9_man_72 11 rfl
theorem dX9_man_92 : decode cX9_man 92 = .ok (.iconst 1, 1) := zd_at zhX9_man_72 12 rfl
theorem dX9_man_93 : decode cX9_man 93 = .ok (.iadd, 1) := zd_at zhX9_man_72 13 rfl
theorem dX9_man_94 : decode cX9_man 94 = .ok (.putfield 88, 3) := zd_at zhX9_man_72 14 rfl
theorem dX9_man_97 : decode cX9_man 97 = .ok (.aload_n 0, 1) := zd_at zhX9_man_72 15 rfl
theorem dX9_man_98 : decode cX9_man 98 = .ok (.getfield 88, 3) := zd_at zhX9_man_72 16 rfl
theorem dX9_man_101 : decode cX9_man 101 = .ok (.iconst 1, 1) := zd_at zhX9_man_72 17 rfl
theorem dX9_man_102 : decode cX9_man 102 = .ok (.isub, 1) := zd_at zhX9_man_72 18 rfl
theorem dX9_man_103 : decode cX9_man 103 = .ok (.ireturn, 1) := zd_at zhX9_man_72 19 rfl
def ziX9_told_0 : List (Nat × Instr × Nat) := [(0, .iload_n 2, 1), (1, .i2l, 1), (2, .lconst 0, 1), (3, .ldc2_w 125, 3), (6, .invokestatic 91, 3), (9, .ifCond .ne 17, 3), (12, .iload_n 2, 1), (13, .i2l, 1), (14, .ldc2_w 127, 3), (17, .ldc2_w 129, 3), (20, .invokestatic 91, 3), (23, .ifCond .eq 16, 3), (26, .iload_n 2, 1), (27, .iconst 1, 1), (28, .if_icmp .le 14, 3), (31, .aload_n 0, 1), (32, .iload_n 1, 1), (33, .invokevirtual 101, 3), (36, .ifCond .ne 6, 3), (39, .bipush (-2), 2), (41, .ireturn, 1), (42, .iload_n 2, 1), (43, .iconst 5, 1), (44, .if_icmp .ge 60, 3), (47, .iload_n 2, 1), (48, .ifCond .ne 10, 3), (51, .aload_n 0, 1), (52, .getfield 117, 3), (55, .goto 48, 3), (58, .iload_n 2, 1), (59, .iconst 1, 1), (60, .if_icmp .ne 10, 3), (63, .aload_n 0, 1), (64, .getfield 23, 3), (67, .goto 36, 3), (70, .iload_n 2, 1), (71, .iconst 2, 1), (72, .if_icmp .ne 12, 3), (75, .aload_n 0, 1), (76, .getfield 29, 3)]
theorem zhX9_told_0 : zd_chk (cX9_told.data.toList.drop 0) 0 ziX9_told_0 = true := by decide +kernel
theorem dX9_told_0 : decode cX9_told 0 = .ok (.iload_n 2, 1) := zd_at zhX9_told_0 0 rfl
theorem dX9_told_1 : decode cX9_told 1 = .ok (.i2l, 1) := zd_at zhX9_told_0 1 rfl
theorem dX9_told_2 : decode cX9_told 2 = .ok (.lconst 0, 1) := zd_at zhX9_told_0 2 rfl
theorem dX9_told_3 : decode cX9_told 3 = .ok (.ldc2_w 125, 3) := zd_at zhX9_told_0 3 rfl
theorem dX9_told_6 : decode cX9_told 6 = .ok (.invokestatic 91, 3) := zd_at zhX9_told_0 4 rfl
theorem dX9_told_9 : decode cX9_told 9 = .ok (.ifCond .ne 17, 3) := zd_at zhX9_told_0 5 rfl
theorem dX9_told_12 : decode cX9_told 12 = .ok (.iload_n 2, 1) := zd_at zhX9_told_0 6 rfl
theorem dX9_told_13 : decode cX9_told 13 = .ok (.i2l, 1) := zd_at zhX9_told_0 7 rfl
theorem dX9_told_14 : decode cX9_told 14 = .ok (.ldc2_w 127, 3) := zd_at zhX9_told_0 8 rfl
theorem dX9_told_17 : decode cX9_told 17 = .ok (.ldc2_w 129, 3) := zd_at zhX9_told_0 9 rfl
theorem dX9_told_20 : decode cX9_told 20 = .ok (.invokestatic 91, 3) := zd_at zhX9_told_0 10 rfl
theorem dX9_told_23 : decode cX9_told 23 = .ok (.ifCond .eq 16, 3) := zd_at zhX9_told_0 11 rfl
theorem dX9_told_26 : decode cX9_told 26 = .ok (.iload_n 2, 1) := zd_at zhX9_told_0 12 rfl
theorem dX9_told_27 : decode cX9_told 27 = .ok (.iconst 1, 1) := zd_at zhX9_told_0 13 rfl
theorem dX9_told_28 : decode cX9_told 28 = .ok (.if_icmp .le 14, 3) := zd_at zhX9_told_0 14 rfl
theorem dX9_told_31 : decode cX9_told 31 = .ok (.aload_n 0, 1) := zd_at zhX9_told_0 15 rfl
theorem dX9_told_32 : decode cX9_told 32 = .ok (.iload_n 1, 1) := zd_at zhX9_told_0 16 rfl
theorem dX9_told_33 : decode cX9_told 33 = .ok (.invokevirtual 101, 3) := zd_at zhX9_told_0 17 rfl
theorem dX9_told_36 : decode cX9_told 36 = .ok (.ifCond .ne 6, 3) := zd_at zhX9_told_0 18 rfl
theorem dX9_told_39 : decode cX9_told 39 = .ok (.bipush (-2), 2) := zd_at zhX9_told_0 19 rfl
theorem dX9_told_41 : decode cX9_told 41 = .ok (.ireturn, 1) := zd_at zhX9_told_0 20 rfl
theorem dX9_told_42 : decode cX9_told 42 = .ok (.iload_n 2, 1) := zd_at zhX9_told_0 21 rfl
theorem dX9_told_43 : decode cX9_told 43 = .ok (.iconst 5, 1) := zd_at zhX9_told_0 22 rfl
theorem dX9_told_44 : decode cX9_told 44 = .ok (.if_icmp .ge 60, 3) := zd_at zhX9_told_0 23 rfl
theorem dX9_told_47 : decode cX9_told 47 = .ok (.iload_n 2, 1) := zd_at zhX9_told_0 24 rfl
theorem dX9_told_48 : decode cX9_told 48 = .ok (.ifCond .ne 10, 3) := zd_at zhX9_told_0 25 rfl
theorem dX9_told_51 : decode cX9_told 51 = .ok (.aload_n 0, 1) := zd_at zhX9_told_0 26 rfl
theorem dX9_told_52 : decode cX9_told 52 = .ok (.getfield 117, 3) := zd_at zhX9_told_0 27 rfl
theorem dX9_told_55 : decode cX9_told 55 = .ok (.goto 48, 3) := zd_at zhX9_told_0 28 rfl
theorem dX9_told_58 : decode cX9_told 58 = .ok (.iload_n 2, 1) := zd_at zhX9_told_0 29 rfl
theorem dX9_told_59 : decode cX9_told 59 = .ok (.iconst 1, 1) := zd_at zhX9_told_0 30 rfl
theorem dX9_told_60 : decode cX9_told 60 = .ok (.if_icmp .ne 10, 3) := zd_at zhX9_told_0 31 rfl
theorem dX9_told_63 : decode cX9_told 63 = .ok (.aload_n 0, 1) := zd_at zhX9_told_0 32 rfl
theorem dX9_told_64 : decode cX9_told 64 = .ok (.getfield 23, 3) := zd_at zhX9_told_0 33 rfl
theorem dX9_told_67 : decode cX9_told 67 = .ok (.goto 36, 3) := zd_at zhX9_told_0 34 rfl
theorem dX9_told_70 : decode cX9_told 70 = .ok (.iload_n 2, 1) := zd_at zhX9_told_0 35 rfl
theorem dX9_told_71 : decode cX9_told 71 = .ok (.iconst 2, 1) := zd_at zhX9_told_0 36 rfl
theorem dX9_told_72 : decode cX9_told 72 = .ok (.if_icmp .ne 12, 3) := zd_at zhX9_told_0 37 rfl
theorem dX9_told_75 : decode cX9_told 75 = .ok (.aload_n 0, 1) := zd_at zhX9_told_0 38 rfl
theorem dX9_told_76 : decode cX9_told 76 = .ok (.getfield 29, 3) := zd_at zhX9_told_0 39 rfl
def ziX9_told_79 : List (Nat × Instr × Nat) := [(79, .iload_n 1, 1), (80, .iaload, 1), (81, .goto 22, 3), (84, .iload_n 2, 1), (85, .iconst 3, 1), (86, .if_icmp .ne 12, 3), (89, .aload_n 0, 1), (90, .getfield 26, 3), (93, .iload_n 1, 1), (94, .iaload, 1), (95, .goto 8, 3), (98, .aload_n 0, 1), (99, .iload_n 1, 1), (100, .invokevirtual 131, 3), (103, .ireturn, 1), (104, .bipush 10, 2), (106, .iload_n 1, 1), (107, .imul, 1), (108, .iload_n 2, 1), (109, .bipush 10, 2), (111, .irem, 1), (112, .iadd, 1), (113, .istore_n 3, 1), (114, .aload_n 0, 1), (115, .getfield 32, 3), (118, .iload_n 3, 1), (119, .iaload, 1), (120, .iconst (-1), 1), (121, .if_icmp .ne 5, 3), (124, .iconst (-1), 1), (125, .ireturn, 1), (126, .iload_n 2, 1), (127, .bipush 20, 2), (129, .if_icmp .ge 12, 3), (132, .aload_n 0, 1), (133, .getfield 32, 3), (136, .iload_n 3, 1), (137, .iaload, 1), (138, .goto 23, 3), (141, .iload_n 2, 1)]
theorem zhX9_told_79 : zd_chk (cX9_told.data.toList.drop 79) 79 ziX9_told_79 = true := by decide +kernel
theorem dX9_told_79 : decode cX9_told 79 = .ok (.iload_n 1, 1) := zd_at zhX9_told_79 0 rfl
theorem dX9_told_80 : decode cX9_told 80 = .ok (.iaload, 1) := zd_at zhX9_told_79 1 rfl
theorem dX9_told_81 : decode cX9_told 81 = .ok (.goto 22, 3) := zd_at zhX9_told_79 2 rfl
theorem dX9_told_84 : decode cX9_told 84 = .ok (.iload_n 2, 1) := zd_at zhX9_told_79 3 rfl
theorem dX9_told_85 : decode cX9_told 85 = .ok (.iconst 3, 1) := zd_at zhX9_told_79 4 rfl
theorem dX9_told_86 : decode cX9_told 86 = .ok (.if_icmp .ne 12, 3) := zd_at zhX9_told_79 5 rfl
theorem dX9_told_89 : decode cX9_told 89 = .ok (.aload_n 0, 1) := zd_at zhX9_told_79 6 rfl
theorem dX9_told_90 : decode cX9_told 90 = .ok (.getfield 26, 3) := zd_at zhX9_told_79 7 rfl
theorem dX9_told_93 : decode cX9_told 93 = .ok (.iload_n 1, 1) := zd_at zhX9_told_79 8 rfl
theorem dX9_told_94 : decode cX9_told 94 = .ok (.iaload, 1) := zd_at zhX9_told_79 9 rfl
theorem dX9_told_95 : decode cX9_told 95 = .ok (.goto 8, 3) := zd_at zhX9_told_79 10 rfl
theorem dX9_told_98 : decode cX9_told 98 = .ok (.aload_n 0, 1) := zd_at zhX9_told_79 11 rfl
theorem dX9_told_99 : decode cX9_told 99 = .ok (.iload_n 1, 1) := zd_at zhX9_told_79 12 rfl
theorem dX9_told_100 : decode cX9_told 100 = .ok (.invokevirtual 131, 3) := zd_at zhX9_told_79 13 rfl
theorem dX9_told_103 : decode cX9_told 103 = .ok (.ireturn, 1) := zd_at zhX9_told_79 14 rfl
theorem dX9_told_104 : decode cX9_told 104 = .ok (.bipush 10, 2) := zd_at zhX9_told_79 15 rfl
theorem dX9_told_106 : decode cX9_told 106 = .ok (.iload_n 1, 1) := zd_at zhX9_told_79 16 rfl
theorem dX9_told_107 : decode cX9_told 107 = .ok (.imul, 1) := zd_at zhX9_told_79 17 rfl
theorem dX9_told_108 : decode cX9_told 108 = .ok (.iload_n 2, 1) := zd_at zhX9_told_79 18 rfl
theorem dX9_told_109 : decode cX9_told 109 = .ok (.bipush 10, 2) := zd_at zhX9_told_79 19 rfl
theorem dX9_told_111 : decode cX9_told 111 = .ok (.irem, 1) := zd_at zhX9_told_79 20 rfl
theorem dX9_told_112 : decode cX9_told 112 = .ok (.iadd, 1) := zd_at zhX9_told_79 21 rfl
theorem dX9_told_113 : decode cX9_told 113 = .ok (.istore_n 3, 1) := zd_at zhX9_told_79 22 rfl
theorem dX9_told_114 : decode cX9_told 114 = .ok (.aload_n 0, 1) := zd_at zhX9_told_79 23 rfl
theorem dX9_told_115 : decode cX9_told 115 = .ok (.getfield 32, 3) := zd_at zhX9_told_79 24 rfl
theorem dX9_told_118 : decode cX9_told 118 = .ok (.iload_n 3, 1) := zd_at zhX9_told_79 25 rfl
theorem dX9_told_119 : decode cX9_told 119 = .ok (.iaload, 1) := zd_at zhX9_told_79 26 rfl
theorem dX9_told_120 : decode cX9_told 120 = .ok (.iconst (-1), 1) := zd_at zhX9_told_79 27 rfl
theorem dX9_told_121 : decode cX9_told 121 = .ok (.if_icmp .ne 5, 3) := zd_at zhX9_told_79 28 rfl
theorem dX9_told_124 : decode cX9_told 124 = .ok (.iconst (-1), 1) := zd_at zhX9_told_79 29 rfl
theorem dX9_told_125 : decode cX9_told 125 = .ok (.ireturn, 1) := zd_at zhX9_told_79 30 rfl
theorem dX9_told_126 : decode cX9_told 126 = .ok (.iload_n 2, 1) := zd_at zhX9_told_79 31 rfl
theorem dX9_told_127 : decode cX9_told 127 = .ok (.bipush 20, 2) := zd_at zhX9_told_79 32 rfl
theorem dX9_told_129 : decode cX9_told 129 = .ok (.if_icmp .ge 12, 3) := zd_at zhX9_told_79 33 rfl
theorem dX9_told_132 : decode cX9_told 132 = .ok (.aload_n 0, 1) := zd_at zhX9_told_79 34 rfl
theorem dX9_told_133 : decode cX9_told 133 = .ok (.getfield 32, 3) := zd_at zhX9_told_79 35 rfl
theorem dX9_told_136 : decode cX9_told 136 = .ok (.iload_n 3, 1) := zd_at zhX9_told_79 36 rfl
theorem dX9_told_137 : decode cX9_told 137 = .ok (.iaload, 1) := zd_at zhX9_told_79 37 rfl
theorem dX9_told_138 : decode cX9_told 138 = .ok (.goto 23, 3) := zd_at zhX9_told_79 38 rfl
theorem dX9_told_141 : decode cX9_told 141 = .ok (.iload_n 2, 1) := zd_at zhX9_told_79 39 rfl
def ziX9_told_142 : List (Nat × Instr × Nat) := [(142, .bipush 30, 2), (144, .if_icmp .ge 12, 3), (147, .aload_n 0, 1), (148, .getfield 35, 3), (151, .iload_n 3, 1), (152, .iaload, 1), (153, .goto 8, 3), (156, .aload_n 0, 1), (157, .iload_n 3, 1), (158, .invokevirtual 135, 3), (161, .ireturn, 1)]
theorem zhX9_told_142 : zd_chk (cX9_told.data.toList.drop 142) 142 ziX9_told_142 = true := by decide +kernel
theorem dX9_told_142 : decode cX9_told 142 = .ok (.bipush 30, 2) := zd_at zhX9_told_142 0 rfl
theorem dX9_told_144 : decode cX9_told 144 = .ok (.if_icmp .ge 12, 3) := zd_at zhX9_told_142 1 rfl
theorem dX9_told_147 : decode cX9_told 147 = .ok (.aload_n 0, 1) := zd_at zhX9_told_142 2 rfl
theorem dX9_told_148 : decode cX9_told 148 = .ok (.getfield 35, 3) := zd_at zhX9_told_142 3 rfl
theorem dX9_told_151 : decode cX9_told 151 = .ok (.iload_n 3, 1) := zd_at zhX9_told_142 4 rfl
theorem dX9_told_152 : decode cX9_told 152 = .ok (.iaload, 1) := zd_at zhX9_told_142 5 rfl
theorem dX9_told_153 : decode cX9_told 153 = .ok (.goto 8, 3) := zd_at zhX9_told_142 6 rfl
theorem dX9_told_156 : decode cX9_told 156 = .ok (.aload_n 0, 1) := zd_at zhX9_told_142 7 rfl
theorem dX9_told_157 : decode cX9_told 157 = .ok (.iload_n 3, 1) := zd_at zhX9_told_142 8 rfl
theorem dX9_told_158 : decode cX9_told 158 = .ok (.invokevirtual 135, 3) := zd_at zhX9_told_142 9 rfl
theorem dX9_told_161 : decode cX9_told 161 = .ok (.ireturn, 1) := zd_at zhX9_told_142 10 rfl
def ziX9_stuckOf_0 : List (Nat × Instr × Nat) := [(0, .iconst 0, 1), (1, .istore_n 2, 1), (2, .iconst 0, 1), (3, .istore_n 3, 1), (4, .iload_n 3, 1), (5, .bipush 10, 2), (7, .if_icmp .ge 32, 3), (10, .iload_n 2, 1), (11, .aload_n 0, 1), (12, .getfield 32, 3), (15, .bipush 10, 2), (17, .iload_n 1, 1), (18, .imul, 1), (19, .iload_n 3, 1), (20, .iadd, 1), (21, .iaload, 1), (22, .iconst (-1), 1), (23, .if_icmp .ne 7, 3), (26, .iconst 0, 1), (27, .goto 4, 3), (30, .iconst 1, 1), (31, .iadd, 1), (32, .istore_n 2, 1), (33, .iinc 3 1, 3), (36, .goto (-32), 3), (39, .iload_n 2, 1), (40, .ireturn, 1)]
theorem zhX9_stuckOf_0 : zd_chk (cX9_stuckOf.data.toList.drop 0) 0 ziX9_stuckOf_0 = true := by decide +kernel
theorem dX9_stuckOf_0 : decode cX9_stuckOf 0 = .ok (.iconst 0, 1) := zd_at zhX9_stuckOf_0 0 rfl
theorem dX9_stuckOf_1 : decode cX9_stuckOf 1 = .ok (.istore_n 2, 1) := zd_at zhX9_stuckOf_0 1 rfl
theorem dX9_stuckOf_2 : decode cX9_stuckOf 2 = .ok (.iconst 0, 1) := zd_at zhX9_stuckOf_0 2 rfl
theorem dX9_stuckOf_3 : decode cX9_stuckOf 3 = .ok (.istore_n 3, 1) := zd_at zhX9_stuckOf_0 3 rfl
theorem dX9_stuckOf_4 : decode cX9_stuckOf 4 = .ok (.iload_n 3, 1) := zd_at zhX9_stuckOf_0 4 rfl
theorem dX9_stuckOf_5 : decode cX9_stuckOf 5 = .ok (.bipush 10, 2) := zd_at zhX9_stuckOf_0 5 rfl
theorem dX9_stuckOf_7 : decode cX9_stuckOf 7 = .ok (.if_icmp .ge 32, 3) := zd_at zhX9_stuckOf_0 6 rfl
theorem dX9_stuckOf_10 : decode cX9_stuckOf 10 = .ok (.iload_n 2, 1) := zd_at zhX9_stuckOf_0 7 rfl
theorem dX9_stuckOf_11 : decode cX9_stuckOf 11 = .ok (.aload_n 0, 1) := zd_at zhX9_stuckOf_0 8 rfl
theorem dX9_stuckOf_12 : decode cX9_stuckOf 12 = .ok (.getfield 32, 3) := zd_at zhX9_stuckOf_0 9 rfl
theorem dX9_stuckOf_15 : decode cX9_stuckOf 15 = .ok (.bipush 10, 2) := zd_at zhX9_stuckOf_0 10 rfl
theorem dX9_stuckOf_17 : decode cX9_stuckOf 17 = .ok (.iload_n 1, 1) := zd_at zhX9_stuckOf_0 11 rfl
theorem dX9_stuckOf_18 : decode cX9_stuckOf 18 = .ok (.imul, 1) := zd_at zhX9_stuckOf_0 12 rfl
theorem dX9_stuckOf_19 : decode cX9_stuckOf 19 = .ok (.iload_n 3, 1) := zd_at zhX9_stuckOf_0 13 rfl
theorem dX9_stuckOf_20 : decode cX9_stuckOf 20 = .ok (.iadd, 1) := zd_at zhX9_stuckOf_0 14 rfl
theorem dX9_stuckOf_21 : decode cX9_stuckOf 21 = .ok (.iaload, 1) := zd_at zhX9_stuckOf_0 15 rfl
theorem dX9_stuckOf_22 : decode cX9_stuckOf 22 = .ok (.iconst (-1), 1) := zd_at zhX9_stuckOf_0 16 rfl
theorem dX9_stuckOf_23 : decode cX9_stuckOf 23 = .ok (.if_icmp .ne 7, 3) := zd_at zhX9_stuckOf_0 17 rfl
theorem dX9_stuckOf_26 : decode cX9_stuckOf 26 = .ok (.iconst 0, 1) := zd_at zhX9_stuckOf_0 18 rfl
theorem dX9_stuckOf_27 : decode cX9_stuckOf 27 = .ok (.goto 4, 3) := zd_at zhX9_stuckOf_0 19 rfl
theorem dX9_stuckOf_30 : decode cX9_stuckOf 30 = .ok (.iconst 1, 1) := zd_at zhX9_stuckOf_0 20 rfl
theorem dX9_stuckOf_31 : decode cX9_stuckOf 31 = .ok (.iadd, 1) := zd_at zhX9_stuckOf_0 21 rfl
theorem dX9_stuckOf_32 : decode cX9_stuckOf 32 = .ok (.istore_n 2, 1) := zd_at zhX9_stuckOf_0 22 rfl
theorem dX9_stuckOf_33 : decode cX9_stuckOf 33 = .ok (.iinc 3 1, 3) := zd_at zhX9_stuckOf_0 23 rfl
theorem dX9_stuckOf_36 : decode cX9_stuckOf 36 = .ok (.goto (-32), 3) := zd_at zhX9_stuckOf_0 24 rfl
theorem dX9_stuckOf_39 : decode cX9_stuckOf 39 = .ok (.iload_n 2, 1) := zd_at zhX9_stuckOf_0 25 rfl
theorem dX9_stuckOf_40 : decode cX9_stuckOf 40 = .ok (.ireturn, 1) := zd_at zhX9_stuckOf_0 26 rfl
def ziX9_fill_0 : List (Nat × Instr × Nat) := [(0, .aload_n 0, 1), (1, .iload_n 1, 1), (2, .invokevirtual 101, 3), (5, .ifCond .eq 35, 3), (8, .iload_n 2, 1), (9, .invokestatic 138, 3), (12, .ifCond .eq 28, 3), (15, .iload_n 3, 1), (16, .iconst (-1), 1), (17, .if_icmp .eq 10, 3), (20, .iload_n 3, 1), (21, .invokestatic 141, 3), (24, .ifCond .eq 16, 3), (27, .iload 4, 2), (29, .i2l, 1), (30, .lconst 0, 1), (31, .ldc2_w 105, 3), (34, .invokestatic 91, 3), (37, .ifCond .ne 6, 3), (40, .bipush (-2), 2), (42, .ireturn, 1), (43, .bipush 10, 2), (45, .iload_n 1, 1), (46, .imul, 1), (47, .iload_n 2, 1), (48, .iadd, 1), (49, .istore 5, 2), (51, .aload_n 0, 1), (52, .getfield 32, 3), (55, .iload 5, 2), (57, .iaload, 1), (58, .istore 6, 2), (60, .aload_n 0, 1), (61, .getfield 32, 3), (64, .iload 5, 2), (66, .iload_n 3, 1), (67, .iastore, 1), (68, .aload_n 0, 1), (69, .getfield 35, 3), (72, .iload 5, 2)]
theorem zhX9_fill_0 : zd_chk (cX9_fill.data.toList.drop 0) 0 ziX9_fill_0 = true := by decide +kernel
theorem dX9_fill_0 : decode cX9_fill 0 = .ok (.aload_n 0, 1) := zd_at zhX9_fill_0 0 rfl
theorem dX9_fill_1 : decode cX9_fill 1 = .ok (.iload_n 1, 1) := zd_at zhX9_fill_0 1 rfl
theorem dX9_fill_2 : decode cX9_fill 2 = .ok (.invokevirtual 101, 3) := zd_at zhX9_fill_0 2 rfl
theorem dX9_fill_5 : decode cX9_fill 5 = .ok (.ifCond .eq 35, 3) := zd_at zhX9_fill_0 3 rfl
theorem dX9_fill_8 : decode cX9_fill 8 = .ok (.iload_n 2, 1) := zd_at zhX9_fill_0 4 rfl
theorem dX9_fill_9 : decode cX9_fill 9 = .ok (.invokestatic 138, 3) := zd_at zhX9_fill_0 5 rfl
theorem dX9_fill_12 : decode cX9_fill 12 = .ok (.ifCond .eq 28, 3) := zd_at zhX9_fill_0 6 rfl
theorem dX9_fill_15 : decode cX9_fill 15 = .ok (.iload_n 3, 1) := zd_at zhX9_fill_0 7 rfl
theorem dX9_fill_16 : decode cX9_fill 16 = .ok (.iconst (-1), 1) := zd_at zhX9_fill_0 8 rfl
theorem dX9_fill_17 : decode cX9_fill 17 = .ok (.if_icmp .eq 10, 3) := zd_at zhX9_fill_0 9 rfl
theorem dX9_fill_20 : decode cX9_fill 20 = .ok (.iload_n 3, 1) := zd_at zhX9_fill_0 10 rfl
theorem dX9_fill_21 : decode cX9_fill 21 = .ok (.invokestatic 141, 3) := zd_at zhX9_fill_0 11 rfl
theorem dX9_fill_24 : decode cX9_fill 24 = .ok (.ifCond .eq 16, 3) := zd_at zhX9_fill_0 12 rfl
theorem dX9_fill_27 : decode cX9_fill 27 = .ok (.iload 4, 2) := zd_at zhX9_fill_0 13 rfl
theorem dX9_fill_29 : decode cX9_fill 29 = .ok (.i2l, 1) := zd_at zhX9_fill_0 14 rfl
theorem dX9_fill_30 : decode cX9_fill 30 = .ok (.lconst 0, 1) := zd_at zhX9_fill_0 15 rfl
theorem dX9_fill_31 : decode cX9_fill 31 = .ok (.ldc2_w 105, 3) := zd_at zhX9_fill_0 16 rfl
theorem dX9_fill_34 : decode cX9_fill 34 = .ok (.invokestatic 91, 3) := zd_at zhX9_fill_0 17 rfl
theorem dX9_fill_37 : decode cX9_fill 37 = .ok (.ifCond .ne 6, 3) := zd_at zhX9_fill_0 18 rfl
theorem dX9_fill_40 : decode cX9_fill 40 = .ok (.bipush (-2), 2) := zd_at zhX9_fill_0 19 rfl
theorem dX9_fill_42 : decode cX9_fill 42 = .ok (.ireturn, 1) := zd_at zhX9_fill_0 20 rfl
theorem dX9_fill_43 : decode cX9_fill 43 = .ok (.bipush 10, 2) := zd_at zhX9_fill_0 21 rfl
theorem dX9_fill_45 : decode cX9_fill 45 = .ok (.iload_n 1, 1) := zd_at zhX9_fill_0 22 rfl
theorem dX9_fill_46 : decode cX9_fill 46 = .ok (.imul, 1) := zd_at zhX9_fill_0 23 rfl
theorem dX9_fill_47 : decode cX9_fill 47 = .ok (.iload_n 2, 1) := zd_at zhX9_fill_0 24 rfl
theorem dX9_fill_48 : decode cX9_fill 48 = .ok (.iadd, 1) := zd_at zhX9_fill_0 25 rfl
theorem dX9_fill_49 : decode cX9_fill 49 = .ok (.istore 5, 2) := zd_at zhX9_fill_0 26 rfl
theorem dX9_fill_51 : decode cX9_fill 51 = .ok (.aload_n 0, 1) := zd_at zhX9_fill_0 27 rfl
theorem dX9_fill_52 : decode cX9_fill 52 = .ok (.getfield 32, 3) := zd_at zhX9_fill_0 28 rfl
theorem dX9_fill_55 : decode cX9_fill 55 = .ok (.iload 5, 2) := zd_at zhX9_fill_0 29 rfl
theorem dX9_fill_57 : decode cX9_fill 57 = .ok (.iaload, 1) := zd_at zhX9_fill_0 30 rfl
theorem dX9_fill_58 : decode cX9_fill 58 = .ok (.istore 6, 2) := zd_at zhX9_fill_0 31 rfl
theorem dX9_fill_60 : decode cX9_fill 60 = .ok (.aload_n 0, 1) := zd_at zhX9_fill_0 32 rfl
theorem dX9_fill_61 : decode cX9_fill 61 = .ok (.getfield 32, 3) := zd_at zhX9_fill_0 33 rfl
theorem dX9_fill_64 : decode cX9_fill 64 = .ok (.iload 5, 2) := zd_at zhX9_fill_0 34 rfl
theorem dX9_fill_66 : decode cX9_fill 66 = .ok (.iload_n 3, 1) := zd_at zhX9_fill_0 35 rfl
theorem dX9_fill_67 : decode cX9_fill 67 = .ok (.iastore, 1) := zd_at zhX9_fill_0 36 rfl
theorem dX9_fill_68 : decode cX9_fill 68 = .ok (.aload_n 0, 1) := zd_at zhX9_fill_0 37 rfl
theorem dX9_fill_69 : decode cX9_fill 69 = .ok (.getfield 35, 3) := zd_at zhX9_fill_0 38 rfl
theorem dX9_fill_72 : decode cX9_fill 72 = .ok (.iload 5, 2) := zd_at zhX9_fill_0 39 rfl
def ziX9_fill_74 : List (Nat × Instr × Nat) := [(74, .iload 4, 2), (76, .iastore, 1), (77, .iload 6, 2), (79, .ireturn, 1)]
theorem zhX9_fill_74 : zd_chk (cX9_fill.data.toList.drop 74) 74 ziX9_fill_74 = true := by decide +kernel
theorem dX9_fill_74 : decode cX9_fill 74 = .ok (.iload 4, 2) := zd_at zhX9_fill_74 0 rfl
theorem dX9_fill_76 : decode cX9_fill 76 = .ok (.iastore, 1) := zd_at zhX9_fill_74 1 rfl
theorem dX9_fill_77 : decode cX9_fill 77 = .ok (.iload 6, 2) := zd_at zhX9_fill_74 2 rfl
theorem dX9_fill_79 : decode cX9_fill 79 = .ok (.ireturn, 1) := zd_at zhX9_fill_74 3 rfl
def ziX9_feed_0 : List (Nat × Instr × Nat) := [(0, .iload_n 1, 1), (1, .i2l, 1), (2, .lconst 0, 1), (3, .ldc2_w 144, 3), (6, .invokestatic 91, 3), (9, .ifCond .ne 6, 3), (12, .bipush (-2), 2), (14, .ireturn, 1), (15, .aload_n 0, 1), (16, .getfield 146, 3), (19, .sipush 160, 3), (22, .if_icmp .ne 6, 3), (25, .bipush (-4), 2), (27, .ireturn, 1), (28, .aload_n 0, 1), (29, .getfield 20, 3), (32, .aload_n 0, 1), (33, .getfield 146, 3), (36, .iload_n 1, 1), (37, .iastore, 1), (38, .aload_n 0, 1), (39, .dup, 1), (40, .getfield 146, 3), (43, .iconst 1, 1), (44, .iadd, 1), (45, .putfield 146, 3), (48, .aload_n 0, 1), (49, .getfield 146, 3), (52, .ireturn, 1)]
theorem zhX9_feed_0 : zd_chk (cX9_feed.data.toList.drop 0) 0 ziX9_feed_0 = true := by decide +kernel
theorem dX9_feed_0 : decode cX9_feed 0 = .ok (.iload_n 1, 1) := zd_at zhX9_feed_0 0 rfl
theorem dX9_feed_1 : decode cX9_feed 1 = .ok (.i2l, 1) := zd_at zhX9_feed_0 1 rfl
theorem dX9_feed_2 : decode cX9_feed 2 = .ok (.lconst 0, 1) := zd_at zhX9_feed_0 2 rfl
theorem dX9_feed_3 : decode cX9_feed 3 = .ok (.ldc2_w 144, 3) := zd_at zhX9_feed_0 3 rfl
theorem dX9_feed_6 : decode cX9_feed 6 = .ok (.invokestatic 91, 3) := zd_at zhX9_feed_0 4 rfl
theorem dX9_feed_9 : decode cX9_feed 9 = .ok (.ifCond .ne 6, 3) := zd_at zhX9_feed_0 5 rfl
theorem dX9_feed_12 : decode cX9_feed 12 = .ok (.bipush (-2), 2) := zd_at zhX9_feed_0 6 rfl
theorem dX9_feed_14 : decode cX9_feed 14 = .ok (.ireturn, 1) := zd_at zhX9_feed_0 7 rfl
theorem dX9_feed_15 : decode cX9_feed 15 = .ok (.aload_n 0, 1) := zd_at zhX9_feed_0 8 rfl
theorem dX9_feed_16 : decode cX9_feed 16 = .ok (.getfield 146, 3) := zd_at zhX9_feed_0 9 rfl
theorem dX9_feed_19 : decode cX9_feed 19 = .ok (.sipush 160, 3) := zd_at zhX9_feed_0 10 rfl
theorem dX9_feed_22 : decode cX9_feed 22 = .ok (.if_icmp .ne 6, 3) := zd_at zhX9_feed_0 11 rfl
theorem dX9_feed_25 : decode cX9_feed 25 = .ok (.bipush (-4), 2) := zd_at zhX9_feed_0 12 rfl
theorem dX9_feed_27 : decode cX9_feed 27 = .ok (.ireturn, 1) := zd_at zhX9_feed_0 13 rfl
theorem dX9_feed_28 : decode cX9_feed 28 = .ok (.aload_n 0, 1) := zd_at zhX9_feed_0 14 rfl
theorem dX9_feed_29 : decode cX9_feed 29 = .ok (.getfield 20, 3) := zd_at zhX9_feed_0 15 rfl
theorem dX9_feed_32 : decode cX9_feed 32 = .ok (.aload_n 0, 1) := zd_at zhX9_feed_0 16 rfl
theorem dX9_feed_33 : decode cX9_feed 33 = .ok (.getfield 146, 3) := zd_at zhX9_feed_0 17 rfl
theorem dX9_feed_36 : decode cX9_feed 36 = .ok (.iload_n 1, 1) := zd_at zhX9_feed_0 18 rfl
theorem dX9_feed_37 : decode cX9_feed 37 = .ok (.iastore, 1) := zd_at zhX9_feed_0 19 rfl
theorem dX9_feed_38 : decode cX9_feed 38 = .ok (.aload_n 0, 1) := zd_at zhX9_feed_0 20 rfl
theorem dX9_feed_39 : decode cX9_feed 39 = .ok (.dup, 1) := zd_at zhX9_feed_0 21 rfl
theorem dX9_feed_40 : decode cX9_feed 40 = .ok (.getfield 146, 3) := zd_at zhX9_feed_0 22 rfl
theorem dX9_feed_43 : decode cX9_feed 43 = .ok (.iconst 1, 1) := zd_at zhX9_feed_0 23 rfl
theorem dX9_feed_44 : decode cX9_feed 44 = .ok (.iadd, 1) := zd_at zhX9_feed_0 24 rfl
theorem dX9_feed_45 : decode cX9_feed 45 = .ok (.putfield 146, 3) := zd_at zhX9_feed_0 25 rfl
theorem dX9_feed_48 : decode cX9_feed 48 = .ok (.aload_n 0, 1) := zd_at zhX9_feed_0 26 rfl
theorem dX9_feed_49 : decode cX9_feed 49 = .ok (.getfield 146, 3) := zd_at zhX9_feed_0 27 rfl
theorem dX9_feed_52 : decode cX9_feed 52 = .ok (.ireturn, 1) := zd_at zhX9_feed_0 28 rfl
def ziX9_byteAt_0 : List (Nat × Instr × Nat) := [(0, .iload_n 1, 1), (1, .aload_n 0, 1), (2, .getfield 149, 3), (5, .if_icmp .ge 17, 3), (8, .aload_n 0, 1), (9, .getfield 13, 3), (12, .aload_n 0, 1), (13, .getfield 152, 3), (16, .iload_n 1, 1), (17, .iadd, 1), (18, .iaload, 1), (19, .goto 4, 3), (22, .iconst (-1), 1), (23, .ireturn, 1)]
theorem zhX9_byteAt_0 : zd_chk (cX9_byteAt.data.toList.drop 0) 0 ziX9_byteAt_0 = true := by decide +kernel
theorem dX9_byteAt_0 : decode cX9_byteAt 0 = .ok (.iload_n 1, 1) := zd_at zhX9_byteAt_0 0 rfl
theorem dX9_byteAt_1 : decode cX9_byteAt 1 = .ok (.aload_n 0, 1) := zd_at zhX9_byteAt_0 1 rfl
theorem dX9_byteAt_2 : decode cX9_byteAt 2 = .ok (.getfield 149, 3) := zd_at zhX9_byteAt_0 2 rfl
theorem dX9_byteAt_5 : decode cX9_byteAt 5 = .ok (.if_icmp .ge 17, 3) := zd_at zhX9_byteAt_0 3 rfl
theorem dX9_byteAt_8 : decode cX9_byteAt 8 = .ok (.aload_n 0, 1) := zd_at zhX9_byteAt_0 4 rfl
theorem dX9_byteAt_9 : decode cX9_byteAt 9 = .ok (.getfield 13, 3) := zd_at zhX9_byteAt_0 5 rfl
theorem dX9_byteAt_12 : decode cX9_byteAt 12 = .ok (.aload_n 0, 1) := zd_at zhX9_byteAt_0 6 rfl
theorem dX9_byteAt_13 : decode cX9_byteAt 13 = .ok (.getfield 152, 3) := zd_at zhX9_byteAt_0 7 rfl
theorem dX9_byteAt_16 : decode cX9_byteAt 16 = .ok (.iload_n 1, 1) := zd_at zhX9_byteAt_0 8 rfl
theorem dX9_byteAt_17 : decode cX9_byteAt 17 = .ok (.iadd, 1) := zd_at zhX9_byteAt_0 9 rfl
theorem dX9_byteAt_18 : decode cX9_byteAt 18 = .ok (.iaload, 1) := zd_at zhX9_byteAt_0 10 rfl
theorem dX9_byteAt_19 : decode cX9_byteAt 19 = .ok (.goto 4, 3) := zd_at zhX9_byteAt_0 11 rfl
theorem dX9_byteAt_22 : decode cX9_byteAt 22 = .ok (.iconst (-1), 1) := zd_at zhX9_byteAt_0 12 rfl
theorem dX9_byteAt_23 : decode cX9_byteAt 23 = .ok (.ireturn, 1) := zd_at zhX9_byteAt_0 13 rfl
def ziX9_next_0 : List (Nat × Instr × Nat) := [(0, .aload_n 0, 1), (1, .aload_n 0, 1), (2, .getfield 155, 3), (5, .invokevirtual 158, 3), (8, .bipush 32, 2), (10, .if_icmp .eq 16, 3), (13, .aload_n 0, 1), (14, .aload_n 0, 1), (15, .getfield 155, 3), (18, .invokevirtual 158, 3), (21, .bipush 10, 2), (23, .if_icmp .ne 16, 3), (26, .aload_n 0, 1), (27, .dup, 1), (28, .getfield 155, 3), (31, .iconst 1, 1), (32, .iadd, 1), (33, .putfield 155, 3), (36, .goto (-36), 3), (39, .aload_n 0, 1), (40, .aload_n 0, 1), (41, .getfield 155, 3), (44, .putfield 161, 3), (47, .aload_n 0, 1), (48, .aload_n 0, 1), (49, .getfield 155, 3), (52, .invokevirtual 158, 3), (55, .istore_n 1, 1), (56, .aload_n 0, 1), (57, .iconst 4, 1), (58, .putfield 164, 3), (61, .iload_n 1, 1), (62, .ifCond .ge 19, 3), (65, .aload_n 0, 1), (66, .iconst 0, 1), (67, .putfield 164, 3), (70, .aload_n 0, 1), (71, .aload_n 0, 1), (72, .getfield 149, 3), (75, .putfield 161, 3)]
theorem zhX9_next_0 : zd_chk (cX9_next.data.toList.drop 0) 0 ziX9_next_0 = true := by decide +kernel
theorem dX9_next_0 : decode cX9_next 0 = .ok (.aload_n 0, 1) := zd_at zhX9_next_0 0 rfl
theorem dX9_next_1 : decode cX9_next 1 = .ok (.aload_n 0, 1) := zd_at zhX9_next_0 1 rfl
theorem dX9_next_2 : decode cX9_next 2 = .ok (.getfield 155, 3) := zd_at zhX9_next_0 2 rfl
theorem dX9_next_5 : decode cX9_next 5 = .ok (.invokevirtual 158, 3) := zd_at zhX9_next_0 3 rfl
theorem dX9_next_8 : decode cX9_next 8 = .ok (.bipush 32, 2) := zd_at zhX9_next_0 4 rfl
theorem dX9_next_10 : decode cX9_next 10 = .ok (.if_icmp .eq 16, 3) := zd_at zhX9_next_0 5 rfl
theorem dX9_next_13 : decode cX9_next 13 = .ok (.aload_n 0, 1) := zd_at zhX9_next_0 6 rfl
theorem dX9_next_14 : decode cX9_next 14 = .ok (.aload_n 0, 1) := zd_at zhX9_next_0 7 rfl
theorem dX9_next_15 : decode cX9_next 15 = .ok (.getfield 155, 3) := zd_at zhX9_next_0 8 rfl
theorem dX9_next_18 : decode cX9_next 18 = .ok (.invokevirtual 158, 3) := zd_at zhX9_next_0 9 rfl
theorem dX9_next_21 : decode cX9_next 21 = .ok (.bipush 10, 2) := zd_at zhX9_next_0 10 rfl
theorem dX9_next_23 : decode cX9_next 23 = .ok (.if_icmp .ne 16, 3) := zd_at zhX9_next_0 11 rfl
theorem dX9_next_26 : decode cX9_next 26 = .ok (.aload_n 0, 1) := zd_at zhX9_next_0 12 rfl
theorem dX9_next_27 : decode cX9_next 27 = .ok (.dup, 1) := zd_at zhX9_next_0 13 rfl
theorem dX9_next_28 : decode cX9_next 28 = .ok (.getfield 155, 3) := zd_at zhX9_next_0 14 rfl
theorem dX9_next_31 : decode cX9_next 31 = .ok (.iconst 1, 1) := zd_at zhX9_next_0 15 rfl
theorem dX9_next_32 : decode cX9_next 32 = .ok (.iadd, 1) := zd_at zhX9_next_0 16 rfl
theorem dX9_next_33 : decode cX9_next 33 = .ok (.putfield 155, 3) := zd_at zhX9_next_0 17 rfl
theorem dX9_next_36 : decode cX9_next 36 = .ok (.goto (-36), 3) := zd_at zhX9_next_0 18 rfl
theorem dX9_next_39 : decode cX9_next 39 = .ok (.aload_n 0, 1) := zd_at zhX9_next_0 19 rfl
theorem dX9_next_40 : decode cX9_next 40 = .ok (.aload_n 0, 1) := zd_at zhX9_next_0 20 rfl
theorem dX9_next_41 : decode cX9_next 41 = .ok (.getfield 155, 3) := zd_at zhX9_next_0 21 rfl
theorem dX9_next_44 : decode cX9_next 44 = .ok (.putfield 161, 3) := zd_at zhX9_next_0 22 rfl
theorem dX9_next_47 : decode cX9_next 47 = .ok (.aload_n 0, 1) := zd_at zhX9_next_0 23 rfl
theorem dX9_next_48 : decode cX9_next 48 = .ok (.aload_n 0, 1) := zd_at zhX9_next_0 24 rfl
theorem dX9_next_49 : decode cX9_next 49 = .ok (.getfield 155, 3) := zd_at zhX9_next_0 25 rfl
theorem dX9_next_52 : decode cX9_next 52 = .ok (.invokevirtual 158, 3) := zd_at zhX9_next_0 26 rfl
theorem dX9_next_55 : decode cX9_next 55 = .ok (.istore_n 1, 1) := zd_at zhX9_next_0 27 rfl
theorem dX9_next_56 : decode cX9_next 56 = .ok (.aload_n 0, 1) := zd_at zhX9_next_0 28 rfl
theorem dX9_next_57 : decode cX9_next 57 = .ok (.iconst 4, 1) := zd_at zhX9_next_0 29 rfl
theorem dX9_next_58 : decode cX9_next 58 = .ok (.putfield 164, 3) := zd_at zhX9_next_0 30 rfl
theorem dX9_next_61 : decode cX9_next 61 = .ok (.iload_n 1, 1) := zd_at zhX9_next_0 31 rfl
theorem dX9_next_62 : decode cX9_next 62 = .ok (.ifCond .ge 19, 3) := zd_at zhX9_next_0 32 rfl
theorem dX9_next_65 : decode cX9_next 65 = .ok (.aload_n 0, 1) := zd_at zhX9_next_0 33 rfl
theorem dX9_next_66 : decode cX9_next 66 = .ok (.iconst 0, 1) := zd_at zhX9_next_0 34 rfl
theorem dX9_next_67 : decode cX9_next 67 = .ok (.putfield 164, 3) := zd_at zhX9_next_0 35 rfl
theorem dX9_next_70 : decode cX9_next 70 = .ok (.aload_n 0, 1) := zd_at zhX9_next_0 36 rfl
theorem dX9_next_71 : decode cX9_next 71 = .ok (.aload_n 0, 1) := zd_at zhX9_next_0 37 rfl
theorem dX9_next_72 : decode cX9_next 72 = .ok (.getfield 149, 3) := zd_at zhX9_next_0 38 rfl
theorem dX9_next_75 : decode cX9_next 75 = .ok (.putfield 161, 3) := zd_at zhX9_next_0 39 rfl
def ziX9_next_78 : List (Nat × Instr × Nat) := [(78, .goto 243, 3), (81, .iload_n 1, 1), (82, .i2l, 1), (83, .ldc2_w 167, 3), (86, .ldc2_w 169, 3), (89, .invokestatic 91, 3), (92, .ifCond .eq 42, 3), (95, .aload_n 0, 1), (96, .iconst 1, 1), (97, .putfield 164, 3), (100, .aload_n 0, 1), (101, .aload_n 0, 1), (102, .getfield 155, 3), (105, .invokevirtual 158, 3), (108, .i2l, 1), (109, .ldc2_w 167, 3), (112, .ldc2_w 169, 3), (115, .invokestatic 91, 3), (118, .ifCond .eq 203, 3), (121, .aload_n 0, 1), (122, .dup, 1), (123, .getfield 155, 3), (126, .iconst 1, 1), (127, .iadd, 1), (128, .putfield 155, 3), (131, .goto (-31), 3), (134, .iload_n 1, 1), (135, .i2l, 1), (136, .ldc2_w 171, 3), (139, .ldc2_w 173, 3), (142, .invokestatic 91, 3), (145, .ifCond .eq 107, 3), (148, .aload_n 0, 1), (149, .iconst 2, 1), (150, .putfield 164, 3), (153, .aload_n 0, 1), (154, .lconst 0, 1), (155, .putfield 175, 3), (158, .iconst 0, 1), (159, .istore_n 2, 1)]
theorem zhX9_next_78 : zd_chk (cX9_next.data.toList.drop 78) 78 ziX9_next_78 = true := by decide +kernel
theorem dX9_next_78 : decode cX9_next 78 = .ok (.goto 243, 3) := zd_at zhX9_next_78 0 rfl
theorem dX9_next_81 : decode cX9_next 81 = .ok (.iload_n 1, 1) := zd_at zhX9_next_78 1 rfl
theorem dX9_next_82 : decode cX9_next 82 = .ok (.i2l, 1) := zd_at zhX9_next_78 2 rfl
theorem dX9_next_83 : decode cX9_next 83 = .ok (.ldc2_w 167, 3) := zd_at zhX9_next_78 3 rfl
theorem dX9_next_86 : decode cX9_next 86 = .ok (.ldc2_w 169, 3) := zd_at zhX9_next_78 4 rfl
theorem dX9_next_89 : decode cX9_next 89 = .ok (.invokestatic 91, 3) := zd_at zhX9_next_78 5 rfl
theorem dX9_next_92 : decode cX9_next 92 = .ok (.ifCond .eq 42, 3) := zd_at zhX9_next_78 6 rfl
theorem dX9_next_95 : decode cX9_next 95 = .ok (.aload_n 0, 1) := zd_at zhX9_next_78 7 rfl
theorem dX9_next_96 : decode cX9_next 96 = .ok (.iconst 1, 1) := zd_at zhX9_next_78 8 rfl
theorem dX9_next_97 : decode cX9_next 97 = .ok (.putfield 164, 3) := zd_at zhX9_next_78 9 rfl
theorem dX9_next_100 : decode cX9_next 100 = .ok (.aload_n 0, 1) := zd_at zhX9_next_78 10 rfl
theorem dX9_next_101 : decode cX9_next 101 = .ok (.aload_n 0, 1) := zd_at zhX9_next_78 11 rfl
theorem dX9_next_102 : decode cX9_next 102 = .ok (.getfield 155, 3) := zd_at zhX9_next_78 12 rfl
theorem dX9_next_105 : decode cX9_next 105 = .ok (.invokevirtual 158, 3) := zd_at zhX9_next_78 13 rfl
theorem dX9_next_108 : decode cX9_next 108 = .ok (.i2l, 1) := zd_at zhX9_next_78 14 rfl
theorem dX9_next_109 : decode cX9_next 109 = .ok (.ldc2_w 167, 3) := zd_at zhX9_next_78 15 rfl
theorem dX9_next_112 : decode cX9_next 112 = .ok (.ldc2_w 169, 3) := zd_at zhX9_next_78 16 rfl
theorem dX9_next_115 : decode cX9_next 115 = .ok (.invokestatic 91, 3) := zd_at zhX9_next_78 17 rfl
theorem dX9_next_118 : decode cX9_next 118 = .ok (.ifCond .eq 203, 3) := zd_at zhX9_next_78 18 rfl
theorem dX9_next_121 : decode cX9_next 121 = .ok (.aload_n 0, 1) := zd_at zhX9_next_78 19 rfl
theorem dX9_next_122 : decode cX9_next 122 = .ok (.dup, 1) := zd_at zhX9_next_78 20 rfl
theorem dX9_next_123 : decode cX9_next 123 = .ok (.getfield 155, 3) := zd_at zhX9_next_78 21 rfl
theorem dX9_next_126 : decode cX9_next 126 = .ok (.iconst 1, 1) := zd_at zhX9_next_78 22 rfl
theorem dX9_next_127 : decode cX9_next 127 = .ok (.iadd, 1) := zd_at zhX9_next_78 23 rfl
theorem dX9_next_128 : decode cX9_next 128 = .ok (.putfield 155, 3) := zd_at zhX9_next_78 24 rfl
theorem dX9_next_131 : decode cX9_next 131 = .ok (.goto (-31), 3) := zd_at zhX9_next_78 25 rfl
theorem dX9_next_134 : decode cX9_next 134 = .ok (.iload_n 1, 1) := zd_at zhX9_next_78 26 rfl
theorem dX9_next_135 : decode cX9_next 135 = .ok (.i2l, 1) := zd_at zhX9_next_78 27 rfl
theorem dX9_next_136 : decode cX9_next 136 = .ok (.ldc2_w 171, 3) := zd_at zhX9_next_78 28 rfl
theorem dX9_next_139 : decode cX9_next 139 = .ok (.ldc2_w 173, 3) := zd_at zhX9_next_78 29 rfl
theorem dX9_next_142 : decode cX9_next 142 = .ok (.invokestatic 91, 3) := zd_at zhX9_next_78 30 rfl
theorem dX9_next_145 : decode cX9_next 145 = .ok (.ifCond .eq 107, 3) := zd_at zhX9_next_78 31 rfl
theorem dX9_next_148 : decode cX9_next 148 = .ok (.aload_n 0, 1) := zd_at zhX9_next_78 32 rfl
theorem dX9_next_149 : decode cX9_next 149 = .ok (.iconst 2, 1) := zd_at zhX9_next_78 33 rfl
theorem dX9_next_150 : decode cX9_next 150 = .ok (.putfield 164, 3) := zd_at zhX9_next_78 34 rfl
theorem dX9_next_153 : decode cX9_next 153 = .ok (.aload_n 0, 1) := zd_at zhX9_next_78 35 rfl
theorem dX9_next_154 : decode cX9_next 154 = .ok (.lconst 0, 1) := zd_at zhX9_next_78 36 rfl
theorem dX9_next_155 : decode cX9_next 155 = .ok (.putfield 175, 3) := zd_at zhX9_next_78 37 rfl
theorem dX9_next_158 : decode cX9_next 158 = .ok (.iconst 0, 1) := zd_at zhX9_next_78 38 rfl
theorem dX9_next_159 : decode cX9_next 159 = .ok (.istore_n 2, 1) := zd_at zhX9_next_78 39 rfl
def ziX9_next_160 : List (Nat × Instr × Nat) := [(160, .aload_n 0, 1), (161, .aload_n 0, 1), (162, .getfield 155, 3), (165, .invokevirtual 158, 3), (168, .i2l, 1), (169, .ldc2_w 171, 3), (172, .ldc2_w 173, 3), (175, .invokestatic 91, 3), (178, .ifCond .eq 57, 3), (181, .aload_n 0, 1), (182, .iload_n 2, 1), (183, .iconst 4, 1), (184, .if_icmp .ge 28, 3), (187, .ldc2_w 127, 3), (190, .aload_n 0, 1), (191, .getfield 175, 3), (194, .lmul, 1), (195, .aload_n 0, 1), (196, .aload_n 0, 1), (197, .getfield 155, 3), (200, .invokevirtual 158, 3), (203, .i2l, 1), (204, .ladd, 1), (205, .ldc2_w 171, 3), (208, .lsub, 1), (209, .goto 7, 3), (212, .aload_n 0, 1), (213, .getfield 175, 3), (216, .putfield 175, 3), (219, .iinc 2 1, 3), (222, .aload_n 0, 1), (223, .dup, 1), (224, .getfield 155, 3), (227, .iconst 1, 1), (228, .iadd, 1), (229, .putfield 155, 3), (232, .goto (-72), 3), (235, .aload_n 0, 1), (236, .iload_n 2, 1), (237, .iconst 4, 1)]
theorem zhX9_next_160 : zd_chk (cX9_next.data.toList.drop 160) 160 ziX9_next_160 = true := by decide +kernel
theorem dX9_next_160 : decode cX9_next 160 = .ok (.aload_n 0, 1) := zd_at zhX9_next_160 0 rfl
theorem dX9_next_161 : decode cX9_next 161 = .ok (.aload_n 0, 1) := zd_at zhX9_next_160 1 rfl
theorem dX9_next_162 : decode cX9_next 162 = .ok (.getfield 155, 3) := zd_at zhX9_next_160 2 rfl
theorem dX9_next_165 : decode cX9_next 165 = .ok (.invokevirtual 158, 3) := zd_at zhX9_next_160 3 rfl
theorem dX9_next_168 : decode cX9_next 168 = .ok (.i2l, 1) := zd_at zhX9_next_160 4 rfl
theorem dX9_next_169 : decode cX9_next 169 = .ok (.ldc2_w 171, 3) := zd_at zhX9_next_160 5 rfl
theorem dX9_next_172 : decode cX9_next 172 = .ok (.ldc2_w 173, 3) := zd_at zhX9_next_160 6 rfl
theorem dX9_next_175 : decode cX9_next 175 = .ok (.invokestatic 91, 3) := zd_at zhX9_next_160 7 rfl
theorem dX9_next_178 : decode cX9_next 178 = .ok (.ifCond .eq 57, 3) := zd_at zhX9_next_160 8 rfl
theorem dX9_next_181 : decode cX9_next 181 = .ok (.aload_n 0, 1) := zd_at zhX9_next_160 9 rfl
theorem dX9_next_182 : decode cX9_next 182 = .ok (.iload_n 2, 1) := zd_at zhX9_next_160 10 rfl
theorem dX9_next_183 : decode cX9_next 183 = .ok (.iconst 4, 1) := zd_at zhX9_next_160 11 rfl
theorem dX9_next_184 : decode cX9_next 184 = .ok (.if_icmp .ge 28, 3) := zd_at zhX9_next_160 12 rfl
theorem dX9_next_187 : decode cX9_next 187 = .ok (.ldc2_w 127, 3) := zd_at zhX9_next_160 13 rfl
theorem dX9_next_190 : decode cX9_next 190 = .ok (.aload_n 0, 1) := zd_at zhX9_next_160 14 rfl
theorem dX9_next_191 : decode cX9_next 191 = .ok (.getfield 175, 3) := zd_at zhX9_next_160 15 rfl
theorem dX9_next_194 : decode cX9_next 194 = .ok (.lmul, 1) := zd_at zhX9_next_160 16 rfl
theorem dX9_next_195 : decode cX9_next 195 = .ok (.aload_n 0, 1) := zd_at zhX9_next_160 17 rfl
theorem dX9_next_196 : decode cX9_next 196 = .ok (.aload_n 0, 1) := zd_at zhX9_next_160 18 rfl
theorem dX9_next_197 : decode cX9_next 197 = .ok (.getfield 155, 3) := zd_at zhX9_next_160 19 rfl
theorem dX9_next_200 : decode cX9_next 200 = .ok (.invokevirtual 158, 3) := zd_at zhX9_next_160 20 rfl
theorem dX9_next_203 : decode cX9_next 203 = .ok (.i2l, 1) := zd_at zhX9_next_160 21 rfl
theorem dX9_next_204 : decode cX9_next 204 = .ok (.ladd, 1) := zd_at zhX9_next_160 22 rfl
theorem dX9_next_205 : decode cX9_next 205 = .ok (.ldc2_w 171, 3) := zd_at zhX9_next_160 23 rfl
theorem dX9_next_208 : decode cX9_next 208 = .ok (.lsub, 1) := zd_at zhX9_next_160 24 rfl
theorem dX9_next_209 : decode cX9_next 209 = .ok (.goto 7, 3) := zd_at zhX9_next_160 25 rfl
theorem dX9_next_212 : decode cX9_next 212 = .ok (.aload_n 0, 1) := zd_at zhX9_next_160 26 rfl
theorem dX9_next_213 : decode cX9_next 213 = .ok (.getfield 175, 3) := zd_at zhX9_next_160 27 rfl
theorem dX9_next_216 : decode cX9_next 216 = .ok (.putfield 175, 3) := zd_at zhX9_next_160 28 rfl
theorem dX9_next_219 : decode cX9_next 219 = .ok (.iinc 2 1, 3) := zd_at zhX9_next_160 29 rfl
theorem dX9_next_222 : decode cX9_next 222 = .ok (.aload_n 0, 1) := zd_at zhX9_next_160 30 rfl
theorem dX9_next_223 : decode cX9_next 223 = .ok (.dup, 1) := zd_at zhX9_next_160 31 rfl
theorem dX9_next_224 : decode cX9_next 224 = .ok (.getfield 155, 3) := zd_at zhX9_next_160 32 rfl
theorem dX9_next_227 : decode cX9_next 227 = .ok (.iconst 1, 1) := zd_at zhX9_next_160 33 rfl
theorem dX9_next_228 : decode cX9_next 228 = .ok (.iadd, 1) := zd_at zhX9_next_160 34 rfl
theorem dX9_next_229 : decode cX9_next 229 = .ok (.putfield 155, 3) := zd_at zhX9_next_160 35 rfl
theorem dX9_next_232 : decode cX9_next 232 = .ok (.goto (-72), 3) := zd_at zhX9_next_160 36 rfl
theorem dX9_next_235 : decode cX9_next 235 = .ok (.aload_n 0, 1) := zd_at zhX9_next_160 37 rfl
theorem dX9_next_236 : decode cX9_next 236 = .ok (.iload_n 2, 1) := zd_at zhX9_next_160 38 rfl
theorem dX9_next_237 : decode cX9_next 237 = .ok (.iconst 4, 1) := zd_at zhX9_next_160 39 rfl
def ziX9_next_238 : List (Nat × Instr × Nat) := [(238, .if_icmp .le 7, 3), (241, .iconst 4, 1), (242, .goto 4, 3), (245, .iconst 2, 1), (246, .putfield 164, 3), (249, .goto 72, 3), (252, .iload_n 1, 1), (253, .bipush 40, 2), (255, .if_icmp .eq 45, 3), (258, .iload_n 1, 1), (259, .bipush 41, 2), (261, .if_icmp .eq 39, 3), (264, .iload_n 1, 1), (265, .bipush 59, 2), (267, .if_icmp .eq 33, 3), (270, .iload_n 1, 1), (271, .bipush 43, 2), (273, .if_icmp .eq 27, 3), (276, .iload_n 1, 1), (277, .bipush 45, 2), (279, .if_icmp .eq 21, 3), (282, .iload_n 1, 1), (283, .bipush 42, 2), (285, .if_icmp .eq 15, 3), (288, .iload_n 1, 1), (289, .bipush 60, 2), (291, .if_icmp .eq 9, 3), (294, .iload_n 1, 1), (295, .bipush 61, 2), (297, .if_icmp .ne 24, 3), (300, .aload_n 0, 1), (301, .iconst 3, 1), (302, .putfield 164, 3), (305, .aload_n 0, 1), (306, .iload_n 1, 1), (307, .i2l, 1), (308, .putfield 175, 3), (311, .aload_n 0, 1), (312, .dup, 1), (313, .getfield 155, 3)]
theorem zhX9_next_238 : zd_chk (cX9_next.data.toList.drop 238) 238 ziX9_next_238 = true := by decide +kernel
theorem dX9_next_238 : decode cX9_next 238 = .ok (.if_icmp .le 7, 3) := zd_at zhX9_next_238 0 rfl
theorem dX9_next_241 : decode cX9_next 241 = .ok (.iconst 4, 1) := zd_at zhX9_next_238 1 rfl
theorem dX9_next_242 : decode cX9_next 242 = .ok (.goto 4, 3) := zd_at zhX9_next_238 2 rfl
theorem dX9_next_245 : decode cX9_next 245 = .ok (.iconst 2, 1) := zd_at zhX9_next_238 3 rfl
theorem dX9_next_246 : decode cX9_next 246 = .ok (.putfield 164, 3) := zd_at zhX9_next_238 4 rfl
theorem dX9_next_249 : decode cX9_next 249 = .ok (.goto 72, 3) := zd_at zhX9_next_238 5 rfl
theorem dX9_next_252 : decode cX9_next 252 = .ok (.iload_n 1, 1) := zd_at zhX9_next_238 6 rfl
theorem dX9_next_253 : decode cX9_next 253 = .ok (.bipush 40, 2) := zd_at zhX9_next_238 7 rfl
theorem dX9_next_255 : decode cX9_next 255 = .ok (.if_icmp .eq 45, 3) := zd_at zhX9_next_238 8 rfl
theorem dX9_next_258 : decode cX9_next 258 = .ok (.iload_n 1, 1) := zd_at zhX9_next_238 9 rfl
theorem dX9_next_259 : decode cX9_next 259 = .ok (.bipush 41, 2) := zd_at zhX9_next_238 10 rfl
theorem dX9_next_261 : decode cX9_next 261 = .ok (.if_icmp .eq 39, 3) := zd_at zhX9_next_238 11 rfl
theorem dX9_next_264 : decode cX9_next 264 = .ok (.iload_n 1, 1) := zd_at zhX9_next_238 12 rfl
theorem dX9_next_265 : decode cX9_next 265 = .ok (.bipush 59, 2) := zd_at zhX9_next_238 13 rfl
theorem dX9_next_267 : decode cX9_next 267 = .ok (.if_icmp .eq 33, 3) := zd_at zhX9_next_238 14 rfl
theorem dX9_next_270 : decode cX9_next 270 = .ok (.iload_n 1, 1) := zd_at zhX9_next_238 15 rfl
theorem dX9_next_271 : decode cX9_next 271 = .ok (.bipush 43, 2) := zd_at zhX9_next_238 16 rfl
theorem dX9_next_273 : decode cX9_next 273 = .ok (.if_icmp .eq 27, 3) := zd_at zhX9_next_238 17 rfl
theorem dX9_next_276 : decode cX9_next 276 = .ok (.iload_n 1, 1) := zd_at zhX9_next_238 18 rfl
theorem dX9_next_277 : decode cX9_next 277 = .ok (.bipush 45, 2) := zd_at zhX9_next_238 19 rfl
theorem dX9_next_279 : decode cX9_next 279 = .ok (.if_icmp .eq 21, 3) := zd_at zhX9_next_238 20 rfl
theorem dX9_next_282 : decode cX9_next 282 = .ok (.iload_n 1, 1) := zd_at zhX9_next_238 21 rfl
theorem dX9_next_283 : decode cX9_next 283 = .ok (.bipush 42, 2) := zd_at zhX9_next_238 22 rfl
theorem dX9_next_285 : decode cX9_next 285 = .ok (.if_icmp .eq 15, 3) := zd_at zhX9_next_238 23 rfl
theorem dX9_next_288 : decode cX9_next 288 = .ok (.iload_n 1, 1) := zd_at zhX9_next_238 24 rfl
theorem dX9_next_289 : decode cX9_next 289 = .ok (.bipush 60, 2) := zd_at zhX9_next_238 25 rfl
theorem dX9_next_291 : decode cX9_next 291 = .ok (.if_icmp .eq 9, 3) := zd_at zhX9_next_238 26 rfl
theorem dX9_next_294 : decode cX9_next 294 = .ok (.iload_n 1, 1) := zd_at zhX9_next_238 27 rfl
theorem dX9_next_295 : decode cX9_next 295 = .ok (.bipush 61, 2) := zd_at zhX9_next_238 28 rfl
theorem dX9_next_297 : decode cX9_next 297 = .ok (.if_icmp .ne 24, 3) := zd_at zhX9_next_238 29 rfl
theorem dX9_next_300 : decode cX9_next 300 = .ok (.aload_n 0, 1) := zd_at zhX9_next_238 30 rfl
theorem dX9_next_301 : decode cX9_next 301 = .ok (.iconst 3, 1) := zd_at zhX9_next_238 31 rfl
theorem dX9_next_302 : decode cX9_next 302 = .ok (.putfield 164, 3) := zd_at zhX9_next_238 32 rfl
theorem dX9_next_305 : decode cX9_next 305 = .ok (.aload_n 0, 1) := zd_at zhX9_next_238 33 rfl
theorem dX9_next_306 : decode cX9_next 306 = .ok (.iload_n 1, 1) := zd_at zhX9_next_238 34 rfl
theorem dX9_next_307 : decode cX9_next 307 = .ok (.i2l, 1) := zd_at zhX9_next_238 35 rfl
theorem dX9_next_308 : decode cX9_next 308 = .ok (.putfield 175, 3) := zd_at zhX9_next_238 36 rfl
theorem dX9_next_311 : decode cX9_next 311 = .ok (.aload_n 0, 1) := zd_at zhX9_next_238 37 rfl
theorem dX9_next_312 : decode cX9_next 312 = .ok (.dup, 1) := zd_at zhX9_next_238 38 rfl
theorem dX9_next_313 : decode cX9_next 313 = .ok (.getfield 155, 3) := zd_at zhX9_next_238 39 rfl
def ziX9_next_316 : List (Nat × Instr × Nat) := [(316, .iconst 1, 1), (317, .iadd, 1), (318, .putfield 155, 3), (321, .return_, 1)]
theorem zhX9_next_316 : zd_chk (cX9_next.data.toList.drop 316) 316 ziX9_next_316 = true := by decide +kernel
theorem dX9_next_316 : decode cX9_next 316 = .ok (.iconst 1, 1) := zd_at zhX9_next_316 0 rfl
theorem dX9_next_317 : decode cX9_next 317 = .ok (.iadd, 1) := zd_at zhX9_next_316 1 rfl
theorem dX9_next_318 : decode cX9_next 318 = .ok (.putfield 155, 3) := zd_at zhX9_next_316 2 rfl
theorem dX9_next_321 : decode cX9_next 321 = .ok (.return_, 1) := zd_at zhX9_next_316 3 rfl
def ziX9_fail_0 : List (Nat × Instr × Nat) := [(0, .aload_n 0, 1), (1, .getfield 179, 3), (4, .ifCond .ne 16, 3), (7, .aload_n 0, 1), (8, .iconst 1, 1), (9, .putfield 179, 3), (12, .aload_n 0, 1), (13, .aload_n 0, 1), (14, .getfield 161, 3), (17, .putfield 183, 3), (20, .return_, 1)]
theorem zhX9_fail_0 : zd_chk (cX9_fail.data.toList.drop 0) 0 ziX9_fail_0 = true := by decide +kernel
theorem dX9_fail_0 : decode cX9_fail 0 = .ok (.aload_n 0, 1) := zd_at zhX9_fail_0 0 rfl
theorem dX9_fail_1 : decode cX9_fail 1 = .ok (.getfield 179, 3) := zd_at zhX9_fail_0 1 rfl
theorem dX9_fail_4 : decode cX9_fail 4 = .ok (.ifCond .ne 16, 3) := zd_at zhX9_fail_0 2 rfl
theorem dX9_fail_7 : decode cX9_fail 7 = .ok (.aload_n 0, 1) := zd_at zhX9_fail_0 3 rfl
theorem dX9_fail_8 : decode cX9_fail 8 = .ok (.iconst 1, 1) := zd_at zhX9_fail_0 4 rfl
theorem dX9_fail_9 : decode cX9_fail 9 = .ok (.putfield 179, 3) := zd_at zhX9_fail_0 5 rfl
theorem dX9_fail_12 : decode cX9_fail 12 = .ok (.aload_n 0, 1) := zd_at zhX9_fail_0 6 rfl
theorem dX9_fail_13 : decode cX9_fail 13 = .ok (.aload_n 0, 1) := zd_at zhX9_fail_0 7 rfl
theorem dX9_fail_14 : decode cX9_fail 14 = .ok (.getfield 161, 3) := zd_at zhX9_fail_0 8 rfl
theorem dX9_fail_17 : decode cX9_fail 17 = .ok (.putfield 183, 3) := zd_at zhX9_fail_0 9 rfl
theorem dX9_fail_20 : decode cX9_fail 20 = .ok (.return_, 1) := zd_at zhX9_fail_0 10 rfl
def ziX9_isLetter_0 : List (Nat × Instr × Nat) := [(0, .aload_n 0, 1), (1, .getfield 161, 3), (4, .iload_n 1, 1), (5, .iadd, 1), (6, .aload_n 0, 1), (7, .getfield 155, 3), (10, .if_icmp .ge 25, 3), (13, .aload_n 0, 1), (14, .aload_n 0, 1), (15, .getfield 161, 3), (18, .iload_n 1, 1), (19, .iadd, 1), (20, .invokevirtual 158, 3), (23, .iload_n 2, 1), (24, .if_icmp .ne 7, 3), (27, .iconst 1, 1), (28, .goto 16, 3), (31, .iconst 0, 1), (32, .goto 12, 3), (35, .iload_n 2, 1), (36, .ifCond .ne 7, 3), (39, .iconst 1, 1), (40, .goto 4, 3), (43, .iconst 0, 1), (44, .ireturn, 1)]
theorem zhX9_isLetter_0 : zd_chk (cX9_isLetter.data.toList.drop 0) 0 ziX9_isLetter_0 = true := by decide +kernel
theorem dX9_isLetter_0 : decode cX9_isLetter 0 = .ok (.aload_n 0, 1) := zd_at zhX9_isLetter_0 0 rfl
theorem dX9_isLetter_1 : decode cX9_isLetter 1 = .ok (.getfield 161, 3) := zd_at zhX9_isLetter_0 1 rfl
theorem dX9_isLetter_4 : decode cX9_isLetter 4 = .ok (.iload_n 1, 1) := zd_at zhX9_isLetter_0 2 rfl
theorem dX9_isLetter_5 : decode cX9_isLetter 5 = .ok (.iadd, 1) := zd_at zhX9_isLetter_0 3 rfl
theorem dX9_isLetter_6 : decode cX9_isLetter 6 = .ok (.aload_n 0, 1) := zd_at zhX9_isLetter_0 4 rfl
theorem dX9_isLetter_7 : decode cX9_isLetter 7 = .ok (.getfield 155, 3) := zd_at zhX9_isLetter_0 5 rfl
theorem dX9_isLetter_10 : decode cX9_isLetter 10 = .ok (.if_icmp .ge 25, 3) := zd_at zhX9_isLetter_0 6 rfl
theorem dX9_isLetter_13 : decode cX9_isLetter 13 = .ok (.aload_n 0, 1) := zd_at zhX9_isLetter_0 7 rfl
theorem dX9_isLetter_14 : decode cX9_isLetter 14 = .ok (.aload_n 0, 1) := zd_at zhX9_isLetter_0 8 rfl
theorem dX9_isLetter_15 : decode cX9_isLetter 15 = .ok (.getfield 161, 3) := zd_at zhX9_isLetter_0 9 rfl
theorem dX9_isLetter_18 : decode cX9_isLetter 18 = .ok (.iload_n 1, 1) := zd_at zhX9_isLetter_0 10 rfl
theorem dX9_isLetter_19 : decode cX9_isLetter 19 = .ok (.iadd, 1) := zd_at zhX9_isLetter_0 11 rfl
theorem dX9_isLetter_20 : decode cX9_isLetter 20 = .ok (.invokevirtual 158, 3) := zd_at zhX9_isLetter_0 12 rfl
theorem dX9_isLetter_23 : decode cX9_isLetter 23 = .ok (.iload_n 2, 1) := zd_at zhX9_isLetter_0 13 rfl
theorem dX9_isLetter_24 : decode cX9_isLetter 24 = .ok (.if_icmp .ne 7, 3) := zd_at zhX9_isLetter_0 14 rfl
theorem dX9_isLetter_27 : decode cX9_isLetter 27 = .ok (.iconst 1, 1) := zd_at zhX9_isLetter_0 15 rfl
theorem dX9_isLetter_28 : decode cX9_isLetter 28 = .ok (.goto 16, 3) := zd_at zhX9_isLetter_0 16 rfl
theorem dX9_isLetter_31 : decode cX9_isLetter 31 = .ok (.iconst 0, 1) := zd_at zhX9_isLetter_0 17 rfl
theorem dX9_isLetter_32 : decode cX9_isLetter 32 = .ok (.goto 12, 3) := zd_at zhX9_isLetter_0 18 rfl
theorem dX9_isLetter_35 : decode cX9_isLetter 35 = .ok (.iload_n 2, 1) := zd_at zhX9_isLetter_0 19 rfl
theorem dX9_isLetter_36 : decode cX9_isLetter 36 = .ok (.ifCond .ne 7, 3) := zd_at zhX9_isLetter_0 20 rfl
theorem dX9_isLetter_39 : decode cX9_isLetter 39 = .ok (.iconst 1, 1) := zd_at zhX9_isLetter_0 21 rfl
theorem dX9_isLetter_40 : decode cX9_isLetter 40 = .ok (.goto 4, 3) := zd_at zhX9_isLetter_0 22 rfl
theorem dX9_isLetter_43 : decode cX9_isLetter 43 = .ok (.iconst 0, 1) := zd_at zhX9_isLetter_0 23 rfl
theorem dX9_isLetter_44 : decode cX9_isLetter 44 = .ok (.ireturn, 1) := zd_at zhX9_isLetter_0 24 rfl
def ziX9_isWord__0 : List (Nat × Instr × Nat) := [(0, .aload_n 0, 1), (1, .getfield 179, 3), (4, .ifCond .ne 108, 3), (7, .aload_n 0, 1), (8, .getfield 164, 3), (11, .iconst 1, 1), (12, .if_icmp .ne 100, 3), (15, .aload_n 0, 1), (16, .getfield 155, 3), (19, .aload_n 0, 1), (20, .getfield 161, 3), (23, .bipush 8, 2), (25, .iadd, 1), (26, .if_icmp .gt 86, 3), (29, .aload_n 0, 1), (30, .iconst 0, 1), (31, .iload_n 1, 1), (32, .invokevirtual 186, 3), (35, .ifCond .eq 77, 3), (38, .aload_n 0, 1), (39, .iconst 1, 1), (40, .iload_n 2, 1), (41, .invokevirtual 186, 3), (44, .ifCond .eq 68, 3), (47, .aload_n 0, 1), (48, .iconst 2, 1), (49, .iload_n 3, 1), (50, .invokevirtual 186, 3), (53, .ifCond .eq 59, 3), (56, .aload_n 0, 1), (57, .iconst 3, 1), (58, .iload 4, 2), (60, .invokevirtual 186, 3), (63, .ifCond .eq 49, 3), (66, .aload_n 0, 1), (67, .iconst 4, 1), (68, .iload 5, 2), (70, .invokevirtual 186, 3), (73, .ifCond .eq 39, 3), (76, .aload_n 0, 1)]
theorem zhX9_isWord__0 : zd_chk (cX9_isWord_.data.toList.drop 0) 0 ziX9_isWord__0 = true := by decide +kernel
theorem dX9_isWord__0 : decode cX9_isWord_ 0 = .ok (.aload_n 0, 1) := zd_at zhX9_isWord__0 0 rfl
theorem dX9_isWord__1 : decode cX9_isWord_ 1 = .ok (.getfield 179, 3) := zd_at zhX9_isWord__0 1 rfl
theorem dX9_isWord__4 : decode cX9_isWord_ 4 = .ok (.ifCond .ne 108, 3) := zd_at zhX9_isWord__0 2 rfl
theorem dX9_isWord__7 : decode cX9_isWord_ 7 = .ok (.aload_n 0, 1) := zd_at zhX9_isWord__0 3 rfl
theorem dX9_isWord__8 : decode cX9_isWord_ 8 = .ok (.getfield 164, 3) := zd_at zhX9_isWord__0 4 rfl
theorem dX9_isWord__11 : decode cX9_isWord_ 11 = .ok (.iconst 1, 1) := zd_at zhX9_isWord__0 5 rfl
theorem dX9_isWord__12 : decode cX9_isWord_ 12 = .ok (.if_icmp .ne 100, 3) := zd_at zhX9_isWord__0 6 rfl
theorem dX9_isWord__15 : decode cX9_isWord_ 15 = .ok (.aload_n 0, 1) := zd_at zhX9_isWord__0 7 rfl
theorem dX9_isWord__16 : decode cX9_isWord_ 16 = .ok (.getfield 155, 3) := zd_at zhX9_isWord__0 8 rfl
theorem dX9_isWord__19 : decode cX9_isWord_ 19 = .ok (.aload_n 0, 1) := zd_at zhX9_isWord__0 9 rfl
theorem dX9_isWord__20 : decode cX9_isWord_ 20 = .ok (.getfield 161, 3) := zd_at zhX9_isWord__0 10 rfl
theorem dX9_isWord__23 : decode cX9_isWord_ 23 = .ok (.bipush 8, 2) := zd_at zhX9_isWord__0 11 rfl
theorem dX9_isWord__25 : decode cX9_isWord_ 25 = .ok (.iadd, 1) := zd_at zhX9_isWord__0 12 rfl
theorem dX9_isWord__26 : decode cX9_isWord_ 26 = .ok (.if_icmp .gt 86, 3) := zd_at zhX9_isWord__0 13 rfl
theorem dX9_isWord__29 : decode cX9_isWord_ 29 = .ok (.aload_n 0, 1) := zd_at zhX9_isWord__0 14 rfl
theorem dX9_isWord__30 : decode cX9_isWord_ 30 = .ok (.iconst 0, 1) := zd_at zhX9_isWord__0 15 rfl
theorem dX9_isWord__31 : decode cX9_isWord_ 31 = .ok (.iload_n 1, 1) := zd_at zhX9_isWord__0 16 rfl
theorem dX9_isWord__32 : decode cX9_isWord_ 32 = .ok (.invokevirtual 186, 3) := zd_at zhX9_isWord__0 17 rfl
theorem dX9_isWord__35 : decode cX9_isWord_ 35 = .ok (.ifCond .eq 77, 3) := zd_at zhX9_isWord__0 18 rfl
theorem dX9_isWord__38 : decode cX9_isWord_ 38 = .ok (.aload_n 0, 1) := zd_at zhX9_isWord__0 19 rfl
theorem dX9_isWord__39 : decode cX9_isWord_ 39 = .ok (.iconst 1, 1) := zd_at zhX9_isWord__0 20 rfl
theorem dX9_isWord__40 : decode cX9_isWord_ 40 = .ok (.iload_n 2, 1) := zd_at zhX9_isWord__0 21 rfl
theorem dX9_isWord__41 : decode cX9_isWord_ 41 = .ok (.invokevirtual 186, 3) := zd_at zhX9_isWord__0 22 rfl
theorem dX9_isWord__44 : decode cX9_isWord_ 44 = .ok (.ifCond .eq 68, 3) := zd_at zhX9_isWord__0 23 rfl
theorem dX9_isWord__47 : decode cX9_isWord_ 47 = .ok (.aload_n 0, 1) := zd_at zhX9_isWord__0 24 rfl
theorem dX9_isWord__48 : decode cX9_isWord_ 48 = .ok (.iconst 2, 1) := zd_at zhX9_isWord__0 25 rfl
theorem dX9_isWord__49 : decode cX9_isWord_ 49 = .ok (.iload_n 3, 1) := zd_at zhX9_isWord__0 26 rfl
theorem dX9_isWord__50 : decode cX9_isWord_ 50 = .ok (.invokevirtual 186, 3) := zd_at zhX9_isWord__0 27 rfl
theorem dX9_isWord__53 : decode cX9_isWord_ 53 = .ok (.ifCond .eq 59, 3) := zd_at zhX9_isWord__0 28 rfl
theorem dX9_isWord__56 : decode cX9_isWord_ 56 = .ok (.aload_n 0, 1) := zd_at zhX9_isWord__0 29 rfl
theorem dX9_isWord__57 : decode cX9_isWord_ 57 = .ok (.iconst 3, 1) := zd_at zhX9_isWord__0 30 rfl
theorem dX9_isWord__58 : decode cX9_isWord_ 58 = .ok (.iload 4, 2) := zd_at zhX9_isWord__0 31 rfl
theorem dX9_isWord__60 : decode cX9_isWord_ 60 = .ok (.invokevirtual 186, 3) := zd_at zhX9_isWord__0 32 rfl
theorem dX9_isWord__63 : decode cX9_isWord_ 63 = .ok (.ifCond .eq 49, 3) := zd_at zhX9_isWord__0 33 rfl
theorem dX9_isWord__66 : decode cX9_isWord_ 66 = .ok (.aload_n 0, 1) := zd_at zhX9_isWord__0 34 rfl
theorem dX9_isWord__67 : decode cX9_isWord_ 67 = .ok (.iconst 4, 1) := zd_at zhX9_isWord__0 35 rfl
theorem dX9_isWord__68 : decode cX9_isWord_ 68 = .ok (.iload 5, 2) := zd_at zhX9_isWord__0 36 rfl
theorem dX9_isWord__70 : decode cX9_isWord_ 70 = .ok (.invokevirtual 186, 3) := zd_at zhX9_isWord__0 37 rfl
theorem dX9_isWord__73 : decode cX9_isWord_ 73 = .ok (.ifCond .eq 39, 3) := zd_at zhX9_isWord__0 38 rfl
theorem dX9_isWord__76 : decode cX9_isWord_ 76 = .ok (.aload_n 0, 1) := zd_at zhX9_isWord__0 39 rfl
def ziX9_isWord__77 : List (Nat × Instr × Nat) := [(77, .iconst 5, 1), (78, .iload 6, 2), (80, .invokevirtual 186, 3), (83, .ifCond .eq 29, 3), (86, .aload_n 0, 1), (87, .bipush 6, 2), (89, .iload 7, 2), (91, .invokevirtual 186, 3), (94, .ifCond .eq 18, 3), (97, .aload_n 0, 1), (98, .bipush 7, 2), (100, .iload 8, 2), (102, .invokevirtual 186, 3), (105, .ifCond .eq 7, 3), (108, .iconst 1, 1), (109, .goto 4, 3), (112, .iconst 0, 1), (113, .ireturn, 1)]
theorem zhX9_isWord__77 : zd_chk (cX9_isWord_.data.toList.drop 77) 77 ziX9_isWord__77 = true := by decide +kernel
theorem dX9_isWord__77 : decode cX9_isWord_ 77 = .ok (.iconst 5, 1) := zd_at zhX9_isWord__77 0 rfl
theorem dX9_isWord__78 : decode cX9_isWord_ 78 = .ok (.iload 6, 2) := zd_at zhX9_isWord__77 1 rfl
theorem dX9_isWord__80 : decode cX9_isWord_ 80 = .ok (.invokevirtual 186, 3) := zd_at zhX9_isWord__77 2 rfl
theorem dX9_isWord__83 : decode cX9_isWord_ 83 = .ok (.ifCond .eq 29, 3) := zd_at zhX9_isWord__77 3 rfl
theorem dX9_isWord__86 : decode cX9_isWord_ 86 = .ok (.aload_n 0, 1) := zd_at zhX9_isWord__77 4 rfl
theorem dX9_isWord__87 : decode cX9_isWord_ 87 = .ok (.bipush 6, 2) := zd_at zhX9_isWord__77 5 rfl
theorem dX9_isWord__89 : decode cX9_isWord_ 89 = .ok (.iload 7, 2) := zd_at zhX9_isWord__77 6 rfl
theorem dX9_isWord__91 : decode cX9_isWord_ 91 = .ok (.invokevirtual 186, 3) := zd_at zhX9_isWord__77 7 rfl
theorem dX9_isWord__94 : decode cX9_isWord_ 94 = .ok (.ifCond .eq 18, 3) := zd_at zhX9_isWord__77 8 rfl
theorem dX9_isWord__97 : decode cX9_isWord_ 97 = .ok (.aload_n 0, 1) := zd_at zhX9_isWord__77 9 rfl
theorem dX9_isWord__98 : decode cX9_isWord_ 98 = .ok (.bipush 7, 2) := zd_at zhX9_isWord__77 10 rfl
theorem dX9_isWord__100 : decode cX9_isWord_ 100 = .ok (.iload 8, 2) := zd_at zhX9_isWord__77 11 rfl
theorem dX9_isWord__102 : decode cX9_isWord_ 102 = .ok (.invokevirtual 186, 3) := zd_at zhX9_isWord__77 12 rfl
theorem dX9_isWord__105 : decode cX9_isWord_ 105 = .ok (.ifCond .eq 7, 3) := zd_at zhX9_isWord__77 13 rfl
theorem dX9_isWord__108 : decode cX9_isWord_ 108 = .ok (.iconst 1, 1) := zd_at zhX9_isWord__77 14 rfl
theorem dX9_isWord__109 : decode cX9_isWord_ 109 = .ok (.goto 4, 3) := zd_at zhX9_isWord__77 15 rfl
theorem dX9_isWord__112 : decode cX9_isWord_ 112 = .ok (.iconst 0, 1) := zd_at zhX9_isWord__77 16 rfl
theorem dX9_isWord__113 : decode cX9_isWord_ 113 = .ok (.ireturn, 1) := zd_at zhX9_isWord__77 17 rfl
def ziX9_isSign_0 : List (Nat × Instr × Nat) := [(0, .aload_n 0, 1), (1, .getfield 179, 3), (4, .ifCond .ne 25, 3), (7, .aload_n 0, 1), (8, .getfield 164, 3), (11, .iconst 3, 1), (12, .if_icmp .ne 17, 3), (15, .aload_n 0, 1), (16, .getfield 175, 3), (19, .iload_n 1, 1), (20, .i2l, 1), (21, .lcmp, 1), (22, .ifCond .ne 7, 3), (25, .iconst 1, 1), (26, .goto 4, 3), (29, .iconst 0, 1), (30, .ireturn, 1)]
theorem zhX9_isSign_0 : zd_chk (cX9_isSign.data.toList.drop 0) 0 ziX9_isSign_0 = true := by decide +kernel
theorem dX9_isSign_0 : decode cX9_isSign 0 = .ok (.aload_n 0, 1) := zd_at zhX9_isSign_0 0 rfl
theorem dX9_isSign_1 : decode cX9_isSign 1 = .ok (.getfield 179, 3) := zd_at zhX9_isSign_0 1 rfl
theorem dX9_isSign_4 : decode cX9_isSign 4 = .ok (.ifCond .ne 25, 3) := zd_at zhX9_isSign_0 2 rfl
theorem dX9_isSign_7 : decode cX9_isSign 7 = .ok (.aload_n 0, 1) := zd_at zhX9_isSign_0 3 rfl
theorem dX9_isSign_8 : decode cX9_isSign 8 = .ok (.getfield 164, 3) := zd_at zhX9_isSign_0 4 rfl
theorem dX9_isSign_11 : decode cX9_isSign 11 = .ok (.iconst 3, 1) := zd_at zhX9_isSign_0 5 rfl
theorem dX9_isSign_12 : decode cX9_isSign 12 = .ok (.if_icmp .ne 17, 3) := zd_at zhX9_isSign_0 6 rfl
theorem dX9_isSign_15 : decode cX9_isSign 15 = .ok (.aload_n 0, 1) := zd_at zhX9_isSign_0 7 rfl
theorem dX9_isSign_16 : decode cX9_isSign 16 = .ok (.getfield 175, 3) := zd_at zhX9_isSign_0 8 rfl
theorem dX9_isSign_19 : decode cX9_isSign 19 = .ok (.iload_n 1, 1) := zd_at zhX9_isSign_0 9 rfl
theorem dX9_isSign_20 : decode cX9_isSign 20 = .ok (.i2l, 1) := zd_at zhX9_isSign_0 10 rfl
theorem dX9_isSign_21 : decode cX9_isSign 21 = .ok (.lcmp, 1) := zd_at zhX9_isSign_0 11 rfl
theorem dX9_isSign_22 : decode cX9_isSign 22 = .ok (.ifCond .ne 7, 3) := zd_at zhX9_isSign_0 12 rfl
theorem dX9_isSign_25 : decode cX9_isSign 25 = .ok (.iconst 1, 1) := zd_at zhX9_isSign_0 13 rfl
theorem dX9_isSign_26 : decode cX9_isSign 26 = .ok (.goto 4, 3) := zd_at zhX9_isSign_0 14 rfl
theorem dX9_isSign_29 : decode cX9_isSign 29 = .ok (.iconst 0, 1) := zd_at zhX9_isSign_0 15 rfl
theorem dX9_isSign_30 : decode cX9_isSign 30 = .ok (.ireturn, 1) := zd_at zhX9_isSign_0 16 rfl
def ziX9_opens_0 : List (Nat × Instr × Nat) := [(0, .aload_n 0, 1), (1, .getfield 190, 3), (4, .iconst 5, 1), (5, .if_icmp .ne 9, 3), (8, .aload_n 0, 1), (9, .invokevirtual 193, 3), (12, .iconst 0, 1), (13, .ireturn, 1), (14, .aload_n 0, 1), (15, .dup, 1), (16, .getfield 190, 3), (19, .iconst 1, 1), (20, .iadd, 1), (21, .putfield 190, 3), (24, .aload_n 0, 1), (25, .invokevirtual 196, 3), (28, .iconst 1, 1), (29, .ireturn, 1)]
theorem zhX9_opens_0 : zd_chk (cX9_opens.data.toList.drop 0) 0 ziX9_opens_0 = true := by decide +kernel
theorem dX9_opens_0 : decode cX9_opens 0 = .ok (.aload_n 0, 1) := zd_at zhX9_opens_0 0 rfl
theorem dX9_opens_1 : decode cX9_opens 1 = .ok (.getfield 190, 3) := zd_at zhX9_opens_0 1 rfl
theorem dX9_opens_4 : decode cX9_opens 4 = .ok (.iconst 5, 1) := zd_at zhX9_opens_0 2 rfl
theorem dX9_opens_5 : decode cX9_opens 5 = .ok (.if_icmp .ne 9, 3) := zd_at zhX9_opens_0 3 rfl
theorem dX9_opens_8 : decode cX9_opens 8 = .ok (.aload_n 0, 1) := zd_at zhX9_opens_0 4 rfl
theorem dX9_opens_9 : decode cX9_opens 9 = .ok (.invokevirtual 193, 3) := zd_at zhX9_opens_0 5 rfl
theorem dX9_opens_12 : decode cX9_opens 12 = .ok (.iconst 0, 1) := zd_at zhX9_opens_0 6 rfl
theorem dX9_opens_13 : decode cX9_opens 13 = .ok (.ireturn, 1) := zd_at zhX9_opens_0 7 rfl
theorem dX9_opens_14 : decode cX9_opens 14 = .ok (.aload_n 0, 1) := zd_at zhX9_opens_0 8 rfl
theorem dX9_opens_15 : decode cX9_opens 15 = .ok (.dup, 1) := zd_at zhX9_opens_0 9 rfl
theorem dX9_opens_16 : decode cX9_opens 16 = .ok (.getfield 190, 3) := zd_at zhX9_opens_0 10 rfl
theorem dX9_opens_19 : decode cX9_opens 19 = .ok (.iconst 1, 1) := zd_at zhX9_opens_0 11 rfl
theorem dX9_opens_20 : decode cX9_opens 20 = .ok (.iadd, 1) := zd_at zhX9_opens_0 12 rfl
theorem dX9_opens_21 : decode cX9_opens 21 = .ok (.putfield 190, 3) := zd_at zhX9_opens_0 13 rfl
theorem dX9_opens_24 : decode cX9_opens 24 = .ok (.aload_n 0, 1) := zd_at zhX9_opens_0 14 rfl
theorem dX9_opens_25 : decode cX9_opens 25 = .ok (.invokevirtual 196, 3) := zd_at zhX9_opens_0 15 rfl
theorem dX9_opens_28 : decode cX9_opens 28 = .ok (.iconst 1, 1) := zd_at zhX9_opens_0 16 rfl
theorem dX9_opens_29 : decode cX9_opens 29 = .ok (.ireturn, 1) := zd_at zhX9_opens_0 17 rfl
def ziX9_name_0 : List (Nat × Instr × Nat) := [(0, .aload_n 0, 1), (1, .bipush 119, 2), (3, .bipush 111, 2), (5, .bipush 114, 2), (7, .bipush 100, 2), (9, .iconst 0, 1), (10, .iconst 0, 1), (11, .iconst 0, 1), (12, .iconst 0, 1), (13, .invokevirtual 199, 3), (16, .ifCond .eq 8, 3), (19, .aload_n 0, 1), (20, .getfield 202, 3), (23, .ireturn, 1), (24, .aload_n 0, 1), (25, .bipush 102, 2), (27, .bipush 111, 2), (29, .bipush 111, 2), (31, .bipush 100, 2), (33, .iconst 0, 1), (34, .iconst 0, 1), (35, .iconst 0, 1), (36, .iconst 0, 1), (37, .invokevirtual 199, 3), (40, .ifCond .eq 8, 3), (43, .aload_n 0, 1), (44, .getfield 205, 3), (47, .ireturn, 1), (48, .aload_n 0, 1), (49, .bipush 104, 2), (51, .bipush 111, 2), (53, .bipush 117, 2), (55, .bipush 114, 2), (57, .iconst 0, 1), (58, .iconst 0, 1), (59, .iconst 0, 1), (60, .iconst 0, 1), (61, .invokevirtual 199, 3), (64, .ifCond .eq 8, 3), (67, .aload_n 0, 1)]
theorem zhX9_name_0 : zd_chk (cX9_name.data.toList.drop 0) 0 ziX9_name_0 = true := by decide +kernel
theorem dX9_name_0 : decode cX9_name 0 = .ok (.aload_n 0, 1) := zd_at zhX9_name_0 0 rfl
theorem dX9_name_1 : decode cX9_name 1 = .ok (.bipush 119, 2) := zd_at zhX9_name_0 1 rfl
theorem dX9_name_3 : decode cX9_name 3 = .ok (.bipush 111, 2) := zd_at zhX9_name_0 2 rfl
theorem dX9_name_5 : decode cX9_name 5 = .ok (.bipush 114, 2) := zd_at zhX9_name_0 3 rfl
theorem dX9_name_7 : decode cX9_name 7 = .ok (.bipush 100, 2) := zd_at zhX9_name_0 4 rfl
theorem dX9_name_9 : decode cX9_name 9 = .ok (.iconst 0, 1) := zd_at zhX9_name_0 5 rfl
theorem dX9_name_10 : decode cX9_name 10 = .ok (.iconst 0, 1) := zd_at zhX9_name_0 6 rfl
theorem dX9_name_11 : decode cX9_name 11 = .ok (.iconst 0, 1) := zd_at zhX9_name_0 7 rfl
theorem dX9_name_12 : decode cX9_name 12 = .ok (.iconst 0, 1) := zd_at zhX9_name_0 8 rfl
theorem dX9_name_13 : decode cX9_name 13 = .ok (.invokevirtual 199, 3) := zd_at zhX9_name_0 9 rfl
theorem dX9_name_16 : decode cX9_name 16 = .ok (.ifCond .eq 8, 3) := zd_at zhX9_name_0 10 rfl
theorem dX9_name_19 : decode cX9_name 19 = .ok (.aload_n 0, 1) := zd_at zhX9_name_0 11 rfl
theorem dX9_name_20 : decode cX9_name 20 = .ok (.getfield 202, 3) := zd_at zhX9_name_0 12 rfl
theorem dX9_name_23 : decode cX9_name 23 = .ok (.ireturn, 1) := zd_at zhX9_name_0 13 rfl
theorem dX9_name_24 : decode cX9_name 24 = .ok (.aload_n 0, 1) := zd_at zhX9_name_0 14 rfl
theorem dX9_name_25 : decode cX9_name 25 = .ok (.bipush 102, 2) := zd_at zhX9_name_0 15 rfl
theorem dX9_name_27 : decode cX9_name 27 = .ok (.bipush 111, 2) := zd_at zhX9_name_0 16 rfl
theorem dX9_name_29 : decode cX9_name 29 = .ok (.bipush 111, 2) := zd_at zhX9_name_0 17 rfl
theorem dX9_name_31 : decode cX9_name 31 = .ok (.bipush 100, 2) := zd_at zhX9_name_0 18 rfl
theorem dX9_name_33 : decode cX9_name 33 = .ok (.iconst 0, 1) := zd_at zhX9_name_0 19 rfl
theorem dX9_name_34 : decode cX9_name 34 = .ok (.iconst 0, 1) := zd_at zhX9_name_0 20 rfl
theorem dX9_name_35 : decode cX9_name 35 = .ok (.iconst 0, 1) := zd_at zhX9_name_0 21 rfl
theorem dX9_name_36 : decode cX9_name 36 = .ok (.iconst 0, 1) := zd_at zhX9_name_0 22 rfl
theorem dX9_name_37 : decode cX9_name 37 = .ok (.invokevirtual 199, 3) := zd_at zhX9_name_0 23 rfl
theorem dX9_name_40 : decode cX9_name 40 = .ok (.ifCond .eq 8, 3) := zd_at zhX9_name_0 24 rfl
theorem dX9_name_43 : decode cX9_name 43 = .ok (.aload_n 0, 1) := zd_at zhX9_name_0 25 rfl
theorem dX9_name_44 : decode cX9_name 44 = .ok (.getfield 205, 3) := zd_at zhX9_name_0 26 rfl
theorem dX9_name_47 : decode cX9_name 47 = .ok (.ireturn, 1) := zd_at zhX9_name_0 27 rfl
theorem dX9_name_48 : decode cX9_name 48 = .ok (.aload_n 0, 1) := zd_at zhX9_name_0 28 rfl
theorem dX9_name_49 : decode cX9_name 49 = .ok (.bipush 104, 2) := zd_at zhX9_name_0 29 rfl
theorem dX9_name_51 : decode cX9_name 51 = .ok (.bipush 111, 2) := zd_at zhX9_name_0 30 rfl
theorem dX9_name_53 : decode cX9_name 53 = .ok (.bipush 117, 2) := zd_at zhX9_name_0 31 rfl
theorem dX9_name_55 : decode cX9_name 55 = .ok (.bipush 114, 2) := zd_at zhX9_name_0 32 rfl
theorem dX9_name_57 : decode cX9_name 57 = .ok (.iconst 0, 1) := zd_at zhX9_name_0 33 rfl
theorem dX9_name_58 : decode cX9_name 58 = .ok (.iconst 0, 1) := zd_at zhX9_name_0 34 rfl
theorem dX9_name_59 : decode cX9_name 59 = .ok (.iconst 0, 1) := zd_at zhX9_name_0 35 rfl
theorem dX9_name_60 : decode cX9_name 60 = .ok (.iconst 0, 1) := zd_at zhX9_name_0 36 rfl
theorem dX9_name_61 : decode cX9_name 61 = .ok (.invokevirtual 199, 3) := zd_at zhX9_name_0 37 rfl
theorem dX9_name_64 : decode cX9_name 64 = .ok (.ifCond .eq 8, 3) := zd_at zhX9_name_0 38 rfl
theorem dX9_name_67 : decode cX9_name 67 = .ok (.aload_n 0, 1) := zd_at zhX9_name_0 39 rfl
def ziX9_name_68 : List (Nat × Instr × Nat) := [(68, .getfield 208, 3), (71, .ireturn, 1), (72, .aload_n 0, 1), (73, .bipush 110, 2), (75, .bipush 117, 2), (77, .bipush 109, 2), (79, .bipush 98, 2), (81, .bipush 101, 2), (83, .bipush 114, 2), (85, .iconst 0, 1), (86, .iconst 0, 1), (87, .invokevirtual 199, 3), (90, .ifCond .eq 8, 3), (93, .aload_n 0, 1), (94, .getfield 211, 3), (97, .ireturn, 1), (98, .aload_n 0, 1), (99, .bipush 103, 2), (101, .bipush 97, 2), (103, .bipush 112, 2), (105, .iconst 0, 1), (106, .iconst 0, 1), (107, .iconst 0, 1), (108, .iconst 0, 1), (109, .iconst 0, 1), (110, .invokevirtual 199, 3), (113, .ifCond .eq 8, 3), (116, .aload_n 0, 1), (117, .getfield 214, 3), (120, .ireturn, 1), (121, .aload_n 0, 1), (122, .bipush 115, 2), (124, .bipush 116, 2), (126, .bipush 117, 2), (128, .bipush 99, 2), (130, .bipush 107, 2), (132, .iconst 0, 1), (133, .iconst 0, 1), (134, .iconst 0, 1), (135, .invokevirtual 199, 3)]
theorem zhX9_name_68 : zd_chk (cX9_name.data.toList.drop 68) 68 ziX9_name_68 = true := by decide +kernel
theorem dX9_name_68 : decode cX9_name 68 = .ok (.getfield 208, 3) := zd_at zhX9_name_68 0 rfl
theorem dX9_name_71 : decode cX9_name 71 = .ok (.ireturn, 1) := zd_at zhX9_name_68 1 rfl
theorem dX9_name_72 : decode cX9_name 72 = .ok (.aload_n 0, 1) := zd_at zhX9_name_68 2 rfl
theorem dX9_name_73 : decode cX9_name 73 = .ok (.bipush 110, 2) := zd_at zhX9_name_68 3 rfl
theorem dX9_name_75 : decode cX9_name 75 = .ok (.bipush 117, 2) := zd_at zhX9_name_68 4 rfl
theorem dX9_name_77 : decode cX9_name 77 = .ok (.bipush 109, 2) := zd_at zhX9_name_68 5 rfl
theorem dX9_name_79 : decode cX9_name 79 = .ok (.bipush 98, 2) := zd_at zhX9_name_68 6 rfl
theorem dX9_name_81 : decode cX9_name 81 = .ok (.bipush 101, 2) := zd_at zhX9_name_68 7 rfl
theorem dX9_name_83 : decode cX9_name 83 = .ok (.bipush 114, 2) := zd_at zhX9_name_68 8 rfl
theorem dX9_name_85 : decode cX9_name 85 = .ok (.iconst 0, 1) := zd_at zhX9_name_68 9 rfl
theorem dX9_name_86 : decode cX9_name 86 = .ok (.iconst 0, 1) := zd_at zhX9_name_68 10 rfl
theorem dX9_name_87 : decode cX9_name 87 = .ok (.invokevirtual 199, 3) := zd_at zhX9_name_68 11 rfl
theorem dX9_name_90 : decode cX9_name 90 = .ok (.ifCond .eq 8, 3) := zd_at zhX9_name_68 12 rfl
theorem dX9_name_93 : decode cX9_name 93 = .ok (.aload_n 0, 1) := zd_at zhX9_name_68 13 rfl
theorem dX9_name_94 : decode cX9_name 94 = .ok (.getfield 211, 3) := zd_at zhX9_name_68 14 rfl
theorem dX9_name_97 : decode cX9_name 97 = .ok (.ireturn, 1) := zd_at zhX9_name_68 15 rfl
theorem dX9_name_98 : decode cX9_name 98 = .ok (.aload_n 0, 1) := zd_at zhX9_name_68 16 rfl
theorem dX9_name_99 : decode cX9_name 99 = .ok (.bipush 103, 2) := zd_at zhX9_name_68 17 rfl
theorem dX9_name_101 : decode cX9_name 101 = .ok (.bipush 97, 2) := zd_at zhX9_name_68 18 rfl
theorem dX9_name_103 : decode cX9_name 103 = .ok (.bipush 112, 2) := zd_at zhX9_name_68 19 rfl
theorem dX9_name_105 : decode cX9_name 105 = .ok (.iconst 0, 1) := zd_at zhX9_name_68 20 rfl
theorem dX9_name_106 : decode cX9_name 106 = .ok (.iconst 0, 1) := zd_at zhX9_name_68 21 rfl
theorem dX9_name_107 : decode cX9_name 107 = .ok (.iconst 0, 1) := zd_at zhX9_name_68 22 rfl
theorem dX9_name_108 : decode cX9_name 108 = .ok (.iconst 0, 1) := zd_at zhX9_name_68 23 rfl
theorem dX9_name_109 : decode cX9_name 109 = .ok (.iconst 0, 1) := zd_at zhX9_name_68 24 rfl
theorem dX9_name_110 : decode cX9_name 110 = .ok (.invokevirtual 199, 3) := zd_at zhX9_name_68 25 rfl
theorem dX9_name_113 : decode cX9_name 113 = .ok (.ifCond .eq 8, 3) := zd_at zhX9_name_68 26 rfl
theorem dX9_name_116 : decode cX9_name 116 = .ok (.aload_n 0, 1) := zd_at zhX9_name_68 27 rfl
theorem dX9_name_117 : decode cX9_name 117 = .ok (.getfield 214, 3) := zd_at zhX9_name_68 28 rfl
theorem dX9_name_120 : decode cX9_name 120 = .ok (.ireturn, 1) := zd_at zhX9_name_68 29 rfl
theorem dX9_name_121 : decode cX9_name 121 = .ok (.aload_n 0, 1) := zd_at zhX9_name_68 30 rfl
theorem dX9_name_122 : decode cX9_name 122 = .ok (.bipush 115, 2) := zd_at zhX9_name_68 31 rfl
theorem dX9_name_124 : decode cX9_name 124 = .ok (.bipush 116, 2) := zd_at zhX9_name_68 32 rfl
theorem dX9_name_126 : decode cX9_name 126 = .ok (.bipush 117, 2) := zd_at zhX9_name_68 33 rfl
theorem dX9_name_128 : decode cX9_name 128 = .ok (.bipush 99, 2) := zd_at zhX9_name_68 34 rfl
theorem dX9_name_130 : decode cX9_name 130 = .ok (.bipush 107, 2) := zd_at zhX9_name_68 35 rfl
theorem dX9_name_132 : decode cX9_name 132 = .ok (.iconst 0, 1) := zd_at zhX9_name_68 36 rfl
theorem dX9_name_133 : decode cX9_name 133 = .ok (.iconst 0, 1) := zd_at zhX9_name_68 37 rfl
theorem dX9_name_134 : decode cX9_name 134 = .ok (.iconst 0, 1) := zd_at zhX9_name_68 38 rfl
theorem dX9_name_135 : decode cX9_name 135 = .ok (.invokevirtual 199, 3) := zd_at zhX9_name_68 39 rfl
def ziX9_name_138 : List (Nat × Instr × Nat) := [(138, .ifCond .eq 8, 3), (141, .aload_n 0, 1), (142, .getfield 217, 3), (145, .ireturn, 1), (146, .aload_n 0, 1), (147, .invokevirtual 193, 3), (150, .iconst 0, 1), (151, .ireturn, 1)]
theorem zhX9_name_138 : zd_chk (cX9_name.data.toList.drop 138) 138 ziX9_name_138 = true := by decide +kernel
theorem dX9_name_138 : decode cX9_name 138 = .ok (.ifCond .eq 8, 3) := zd_at zhX9_name_138 0 rfl
theorem dX9_name_141 : decode cX9_name 141 = .ok (.aload_n 0, 1) := zd_at zhX9_name_138 1 rfl
theorem dX9_name_142 : decode cX9_name 142 = .ok (.getfield 217, 3) := zd_at zhX9_name_138 2 rfl
theorem dX9_name_145 : decode cX9_name 145 = .ok (.ireturn, 1) := zd_at zhX9_name_138 3 rfl
theorem dX9_name_146 : decode cX9_name 146 = .ok (.aload_n 0, 1) := zd_at zhX9_name_138 4 rfl
theorem dX9_name_147 : decode cX9_name 147 = .ok (.invokevirtual 193, 3) := zd_at zhX9_name_138 5 rfl
theorem dX9_name_150 : decode cX9_name 150 = .ok (.iconst 0, 1) := zd_at zhX9_name_138 6 rfl
theorem dX9_name_151 : decode cX9_name 151 = .ok (.ireturn, 1) := zd_at zhX9_name_138 7 rfl
def ziX9_atom5_0 : List (Nat × Instr × Nat) := [(0, .iconst 0, 1), (1, .istore_n 1, 1), (2, .aload_n 0, 1), (3, .bipush 45, 2), (5, .invokevirtual 220, 3), (8, .ifCond .eq 11, 3), (11, .aload_n 0, 1), (12, .invokevirtual 223, 3), (15, .pop, 1), (16, .goto 86, 3), (19, .aload_n 0, 1), (20, .bipush 40, 2), (22, .invokevirtual 220, 3), (25, .ifCond .eq 11, 3), (28, .aload_n 0, 1), (29, .invokevirtual 223, 3), (32, .pop, 1), (33, .goto 69, 3), (36, .aload_n 0, 1), (37, .getfield 179, 3), (40, .ifCond .ne 24, 3), (43, .aload_n 0, 1), (44, .getfield 164, 3), (47, .iconst 2, 1), (48, .if_icmp .ne 16, 3), (51, .aload_n 0, 1), (52, .getfield 175, 3), (55, .l2i, 1), (56, .istore_n 1, 1), (57, .aload_n 0, 1), (58, .invokevirtual 196, 3), (61, .goto 41, 3), (64, .aload_n 0, 1), (65, .getfield 179, 3), (68, .ifCond .ne 30, 3), (71, .aload_n 0, 1), (72, .getfield 164, 3), (75, .iconst 1, 1), (76, .if_icmp .ne 22, 3), (79, .aload_n 0, 1)]
theorem zhX9_atom5_0 : zd_chk (cX9_atom5.data.toList.drop 0) 0 ziX9_atom5_0 = true := by decide +kernel
theorem dX9_atom5_0 : decode cX9_atom5 0 = .ok (.iconst 0, 1) := zd_at zhX9_atom5_0 0 rfl
theorem dX9_atom5_1 : decode cX9_atom5 1 = .ok (.istore_n 1, 1) := zd_at zhX9_atom5_0 1 rfl
theorem dX9_atom5_2 : decode cX9_atom5 2 = .ok (.aload_n 0, 1) := zd_at zhX9_atom5_0 2 rfl
theorem dX9_atom5_3 : decode cX9_atom5 3 = .ok (.bipush 45, 2) := zd_at zhX9_atom5_0 3 rfl
theorem dX9_atom5_5 : decode cX9_atom5 5 = .ok (.invokevirtual 220, 3) := zd_at zhX9_atom5_0 4 rfl
theorem dX9_atom5_8 : decode cX9_atom5 8 = .ok (.ifCond .eq 11, 3) := zd_at zhX9_atom5_0 5 rfl
theorem dX9_atom5_11 : decode cX9_atom5 11 = .ok (.aload_n 0, 1) := zd_at zhX9_atom5_0 6 rfl
theorem dX9_atom5_12 : decode cX9_atom5 12 = .ok (.invokevirtual 223, 3) := zd_at zhX9_atom5_0 7 rfl
theorem dX9_atom5_15 : decode cX9_atom5 15 = .ok (.pop, 1) := zd_at zhX9_atom5_0 8 rfl
theorem dX9_atom5_16 : decode cX9_atom5 16 = .ok (.goto 86, 3) := zd_at zhX9_atom5_0 9 rfl
theorem dX9_atom5_19 : decode cX9_atom5 19 = .ok (.aload_n 0, 1) := zd_at zhX9_atom5_0 10 rfl
theorem dX9_atom5_20 : decode cX9_atom5 20 = .ok (.bipush 40, 2) := zd_at zhX9_atom5_0 11 rfl
theorem dX9_atom5_22 : decode cX9_atom5 22 = .ok (.invokevirtual 220, 3) := zd_at zhX9_atom5_0 12 rfl
theorem dX9_atom5_25 : decode cX9_atom5 25 = .ok (.ifCond .eq 11, 3) := zd_at zhX9_atom5_0 13 rfl
theorem dX9_atom5_28 : decode cX9_atom5 28 = .ok (.aload_n 0, 1) := zd_at zhX9_atom5_0 14 rfl
theorem dX9_atom5_29 : decode cX9_atom5 29 = .ok (.invokevirtual 223, 3) := zd_at zhX9_atom5_0 15 rfl
theorem dX9_atom5_32 : decode cX9_atom5 32 = .ok (.pop, 1) := zd_at zhX9_atom5_0 16 rfl
theorem dX9_atom5_33 : decode cX9_atom5 33 = .ok (.goto 69, 3) := zd_at zhX9_atom5_0 17 rfl
theorem dX9_atom5_36 : decode cX9_atom5 36 = .ok (.aload_n 0, 1) := zd_at zhX9_atom5_0 18 rfl
theorem dX9_atom5_37 : decode cX9_atom5 37 = .ok (.getfield 179, 3) := zd_at zhX9_atom5_0 19 rfl
theorem dX9_atom5_40 : decode cX9_atom5 40 = .ok (.ifCond .ne 24, 3) := zd_at zhX9_atom5_0 20 rfl
theorem dX9_atom5_43 : decode cX9_atom5 43 = .ok (.aload_n 0, 1) := zd_at zhX9_atom5_0 21 rfl
theorem dX9_atom5_44 : decode cX9_atom5 44 = .ok (.getfield 164, 3) := zd_at zhX9_atom5_0 22 rfl
theorem dX9_atom5_47 : decode cX9_atom5 47 = .ok (.iconst 2, 1) := zd_at zhX9_atom5_0 23 rfl
theorem dX9_atom5_48 : decode cX9_atom5 48 = .ok (.if_icmp .ne 16, 3) := zd_at zhX9_atom5_0 24 rfl
theorem dX9_atom5_51 : decode cX9_atom5 51 = .ok (.aload_n 0, 1) := zd_at zhX9_atom5_0 25 rfl
theorem dX9_atom5_52 : decode cX9_atom5 52 = .ok (.getfield 175, 3) := zd_at zhX9_atom5_0 26 rfl
theorem dX9_atom5_55 : decode cX9_atom5 55 = .ok (.l2i, 1) := zd_at zhX9_atom5_0 27 rfl
theorem dX9_atom5_56 : decode cX9_atom5 56 = .ok (.istore_n 1, 1) := zd_at zhX9_atom5_0 28 rfl
theorem dX9_atom5_57 : decode cX9_atom5 57 = .ok (.aload_n 0, 1) := zd_at zhX9_atom5_0 29 rfl
theorem dX9_atom5_58 : decode cX9_atom5 58 = .ok (.invokevirtual 196, 3) := zd_at zhX9_atom5_0 30 rfl
theorem dX9_atom5_61 : decode cX9_atom5 61 = .ok (.goto 41, 3) := zd_at zhX9_atom5_0 31 rfl
theorem dX9_atom5_64 : decode cX9_atom5 64 = .ok (.aload_n 0, 1) := zd_at zhX9_atom5_0 32 rfl
theorem dX9_atom5_65 : decode cX9_atom5 65 = .ok (.getfield 179, 3) := zd_at zhX9_atom5_0 33 rfl
theorem dX9_atom5_68 : decode cX9_atom5 68 = .ok (.ifCond .ne 30, 3) := zd_at zhX9_atom5_0 34 rfl
theorem dX9_atom5_71 : decode cX9_atom5 71 = .ok (.aload_n 0, 1) := zd_at zhX9_atom5_0 35 rfl
theorem dX9_atom5_72 : decode cX9_atom5 72 = .ok (.getfield 164, 3) := zd_at zhX9_atom5_0 36 rfl
theorem dX9_atom5_75 : decode cX9_atom5 75 = .ok (.iconst 1, 1) := zd_at zhX9_atom5_0 37 rfl
theorem dX9_atom5_76 : decode cX9_atom5 76 = .ok (.if_icmp .ne 22, 3) := zd_at zhX9_atom5_0 38 rfl
theorem dX9_atom5_79 : decode cX9_atom5 79 = .ok (.aload_n 0, 1) := zd_at zhX9_atom5_0 39 rfl
def ziX9_atom5_80 : List (Nat × Instr × Nat) := [(80, .invokevirtual 227, 3), (83, .istore_n 1, 1), (84, .aload_n 0, 1), (85, .getfield 179, 3), (88, .ifCond .ne 14, 3), (91, .aload_n 0, 1), (92, .invokevirtual 196, 3), (95, .goto 7, 3), (98, .aload_n 0, 1), (99, .invokevirtual 193, 3), (102, .iload_n 1, 1), (103, .ireturn, 1)]
theorem zhX9_atom5_80 : zd_chk (cX9_atom5.data.toList.drop 80) 80 ziX9_atom5_80 = true := by decide +kernel
theorem dX9_atom5_80 : decode cX9_atom5 80 = .ok (.invokevirtual 227, 3) := zd_at zhX9_atom5_80 0 rfl
theorem dX9_atom5_83 : decode cX9_atom5 83 = .ok (.istore_n 1, 1) := zd_at zhX9_atom5_80 1 rfl
theorem dX9_atom5_84 : decode cX9_atom5 84 = .ok (.aload_n 0, 1) := zd_at zhX9_atom5_80 2 rfl
theorem dX9_atom5_85 : decode cX9_atom5 85 = .ok (.getfield 179, 3) := zd_at zhX9_atom5_80 3 rfl
theorem dX9_atom5_88 : decode cX9_atom5 88 = .ok (.ifCond .ne 14, 3) := zd_at zhX9_atom5_80 4 rfl
theorem dX9_atom5_91 : decode cX9_atom5 91 = .ok (.aload_n 0, 1) := zd_at zhX9_atom5_80 5 rfl
theorem dX9_atom5_92 : decode cX9_atom5 92 = .ok (.invokevirtual 196, 3) := zd_at zhX9_atom5_80 6 rfl
theorem dX9_atom5_95 : decode cX9_atom5 95 = .ok (.goto 7, 3) := zd_at zhX9_atom5_80 7 rfl
theorem dX9_atom5_98 : decode cX9_atom5 98 = .ok (.aload_n 0, 1) := zd_at zhX9_atom5_80 8 rfl
theorem dX9_atom5_99 : decode cX9_atom5 99 = .ok (.invokevirtual 193, 3) := zd_at zhX9_atom5_80 9 rfl
theorem dX9_atom5_102 : decode cX9_atom5 102 = .ok (.iload_n 1, 1) := zd_at zhX9_atom5_80 10 rfl
theorem dX9_atom5_103 : decode cX9_atom5 103 = .ok (.ireturn, 1) := zd_at zhX9_atom5_80 11 rfl
def ziX9_term5_0 : List (Nat × Instr × Nat) := [(0, .aload_n 0, 1), (1, .invokevirtual 231, 3), (4, .istore_n 1, 1), (5, .aload_n 0, 1), (6, .bipush 42, 2), (8, .invokevirtual 220, 3), (11, .ifCond .eq 17, 3), (14, .aload_n 0, 1), (15, .invokevirtual 196, 3), (18, .iload_n 1, 1), (19, .aload_n 0, 1), (20, .invokevirtual 231, 3), (23, .imul, 1), (24, .istore_n 1, 1), (25, .goto (-20), 3), (28, .iload_n 1, 1), (29, .ireturn, 1)]
theorem zhX9_term5_0 : zd_chk (cX9_term5.data.toList.drop 0) 0 ziX9_term5_0 = true := by decide +kernel
theorem dX9_term5_0 : decode cX9_term5 0 = .ok (.aload_n 0, 1) := zd_at zhX9_term5_0 0 rfl
theorem dX9_term5_1 : decode cX9_term5 1 = .ok (.invokevirtual 231, 3) := zd_at zhX9_term5_0 1 rfl
theorem dX9_term5_4 : decode cX9_term5 4 = .ok (.istore_n 1, 1) := zd_at zhX9_term5_0 2 rfl
theorem dX9_term5_5 : decode cX9_term5 5 = .ok (.aload_n 0, 1) := zd_at zhX9_term5_0 3 rfl
theorem dX9_term5_6 : decode cX9_term5 6 = .ok (.bipush 42, 2) := zd_at zhX9_term5_0 4 rfl
theorem dX9_term5_8 : decode cX9_term5 8 = .ok (.invokevirtual 220, 3) := zd_at zhX9_term5_0 5 rfl
theorem dX9_term5_11 : decode cX9_term5 11 = .ok (.ifCond .eq 17, 3) := zd_at zhX9_term5_0 6 rfl
theorem dX9_term5_14 : decode cX9_term5 14 = .ok (.aload_n 0, 1) := zd_at zhX9_term5_0 7 rfl
theorem dX9_term5_15 : decode cX9_term5 15 = .ok (.invokevirtual 196, 3) := zd_at zhX9_term5_0 8 rfl
theorem dX9_term5_18 : decode cX9_term5 18 = .ok (.iload_n 1, 1) := zd_at zhX9_term5_0 9 rfl
theorem dX9_term5_19 : decode cX9_term5 19 = .ok (.aload_n 0, 1) := zd_at zhX9_term5_0 10 rfl
theorem dX9_term5_20 : decode cX9_term5 20 = .ok (.invokevirtual 231, 3) := zd_at zhX9_term5_0 11 rfl
theorem dX9_term5_23 : decode cX9_term5 23 = .ok (.imul, 1) := zd_at zhX9_term5_0 12 rfl
theorem dX9_term5_24 : decode cX9_term5 24 = .ok (.istore_n 1, 1) := zd_at zhX9_term5_0 13 rfl
theorem dX9_term5_25 : decode cX9_term5 25 = .ok (.goto (-20), 3) := zd_at zhX9_term5_0 14 rfl
theorem dX9_term5_28 : decode cX9_term5 28 = .ok (.iload_n 1, 1) := zd_at zhX9_term5_0 15 rfl
theorem dX9_term5_29 : decode cX9_term5 29 = .ok (.ireturn, 1) := zd_at zhX9_term5_0 16 rfl
def ziX9_added5_0 : List (Nat × Instr × Nat) := [(0, .aload_n 0, 1), (1, .invokevirtual 234, 3), (4, .istore_n 1, 1), (5, .aload_n 0, 1), (6, .bipush 43, 2), (8, .invokevirtual 220, 3), (11, .ifCond .ne 12, 3), (14, .aload_n 0, 1), (15, .bipush 45, 2), (17, .invokevirtual 220, 3), (20, .ifCond .eq 46, 3), (23, .aload_n 0, 1), (24, .getfield 175, 3), (27, .ldc2_w 237, 3), (30, .lcmp, 1), (31, .ifCond .ne 7, 3), (34, .iconst 1, 1), (35, .goto 4, 3), (38, .iconst 0, 1), (39, .istore_n 2, 1), (40, .aload_n 0, 1), (41, .invokevirtual 196, 3), (44, .aload_n 0, 1), (45, .invokevirtual 234, 3), (48, .istore_n 3, 1), (49, .iload_n 2, 1), (50, .ifCond .eq 9, 3), (53, .iload_n 1, 1), (54, .iload_n 3, 1), (55, .iadd, 1), (56, .goto 6, 3), (59, .iload_n 1, 1), (60, .iload_n 3, 1), (61, .isub, 1), (62, .istore_n 1, 1), (63, .goto (-58), 3), (66, .iload_n 1, 1), (67, .ireturn, 1)]
theorem zhX9_added5_0 : zd_chk (cX9_added5.data.toList.drop 0) 0 ziX9_added5_0 = true := by decide +kernel
theorem dX9_added5_0 : decode cX9_added5 0 = .ok (.aload_n 0, 1) := zd_at zhX9_added5_0 0 rfl
theorem dX9_added5_1 : decode cX9_added5 1 = .ok (.invokevirtual 234, 3) := zd_at zhX9_added5_0 1 rfl
theorem dX9_added5_4 : decode cX9_added5 4 = .ok (.istore_n 1, 1) := zd_at zhX9_added5_0 2 rfl
theorem dX9_added5_5 : decode cX9_added5 5 = .ok (.aload_n 0, 1) := zd_at zhX9_added5_0 3 rfl
theorem dX9_added5_6 : decode cX9_added5 6 = .ok (.bipush 43, 2) := zd_at zhX9_added5_0 4 rfl
theorem dX9_added5_8 : decode cX9_added5 8 = .ok (.invokevirtual 220, 3) := zd_at zhX9_added5_0 5 rfl
theorem dX9_added5_11 : decode cX9_added5 11 = .ok (.ifCond .ne 12, 3) := zd_at zhX9_added5_0 6 rfl
theorem dX9_added5_14 : decode cX9_added5 14 = .ok (.aload_n 0, 1) := zd_at zhX9_added5_0 7 rfl
theorem dX9_added5_15 : decode cX9_added5 15 = .ok (.bipush 45, 2) := zd_at zhX9_added5_0 8 rfl
theorem dX9_added5_17 : decode cX9_added5 17 = .ok (.invokevirtual 220, 3) := zd_at zhX9_added5_0 9 rfl
theorem dX9_added5_20 : decode cX9_added5 20 = .ok (.ifCond .eq 46, 3) := zd_at zhX9_added5_0 10 rfl
theorem dX9_added5_23 : decode cX9_added5 23 = .ok (.aload_n 0, 1) := zd_at zhX9_added5_0 11 rfl
theorem dX9_added5_24 : decode cX9_added5 24 = .ok (.getfield 175, 3) := zd_at zhX9_added5_0 12 rfl
theorem dX9_added5_27 : decode cX9_added5 27 = .ok (.ldc2_w 237, 3) := zd_at zhX9_added5_0 13 rfl
theorem dX9_added5_30 : decode cX9_added5 30 = .ok (.lcmp, 1) := zd_at zhX9_added5_0 14 rfl
theorem dX9_added5_31 : decode cX9_added5 31 = .ok (.ifCond .ne 7, 3) := zd_at zhX9_added5_0 15 rfl
theorem dX9_added5_34 : decode cX9_added5 34 = .ok (.iconst 1, 1) := zd_at zhX9_added5_0 16 rfl
theorem dX9_added5_35 : decode cX9_added5 35 = .ok (.goto 4, 3) := zd_at zhX9_added5_0 17 rfl
theorem dX9_added5_38 : decode cX9_added5 38 = .ok (.iconst 0, 1) := zd_at zhX9_added5_0 18 rfl
theorem dX9_added5_39 : decode cX9_added5 39 = .ok (.istore_n 2, 1) := zd_at zhX9_added5_0 19 rfl
theorem dX9_added5_40 : decode cX9_added5 40 = .ok (.aload_n 0, 1) := zd_at zhX9_added5_0 20 rfl
theorem dX9_added5_41 : decode cX9_added5 41 = .ok (.invokevirtual 196, 3) := zd_at zhX9_added5_0 21 rfl
theorem dX9_added5_44 : decode cX9_added5 44 = .ok (.aload_n 0, 1) := zd_at zhX9_added5_0 22 rfl
theorem dX9_added5_45 : decode cX9_added5 45 = .ok (.invokevirtual 234, 3) := zd_at zhX9_added5_0 23 rfl
theorem dX9_added5_48 : decode cX9_added5 48 = .ok (.istore_n 3, 1) := zd_at zhX9_added5_0 24 rfl
theorem dX9_added5_49 : decode cX9_added5 49 = .ok (.iload_n 2, 1) := zd_at zhX9_added5_0 25 rfl
theorem dX9_added5_50 : decode cX9_added5 50 = .ok (.ifCond .eq 9, 3) := zd_at zhX9_added5_0 26 rfl
theorem dX9_added5_53 : decode cX9_added5 53 = .ok (.iload_n 1, 1) := zd_at zhX9_added5_0 27 rfl
theorem dX9_added5_54 : decode cX9_added5 54 = .ok (.iload_n 3, 1) := zd_at zhX9_added5_0 28 rfl
theorem dX9_added5_55 : decode cX9_added5 55 = .ok (.iadd, 1) := zd_at zhX9_added5_0 29 rfl
theorem dX9_added5_56 : decode cX9_added5 56 = .ok (.goto 6, 3) := zd_at zhX9_added5_0 30 rfl
theorem dX9_added5_59 : decode cX9_added5 59 = .ok (.iload_n 1, 1) := zd_at zhX9_added5_0 31 rfl
theorem dX9_added5_60 : decode cX9_added5 60 = .ok (.iload_n 3, 1) := zd_at zhX9_added5_0 32 rfl
theorem dX9_added5_61 : decode cX9_added5 61 = .ok (.isub, 1) := zd_at zhX9_added5_0 33 rfl
theorem dX9_added5_62 : decode cX9_added5 62 = .ok (.istore_n 1, 1) := zd_at zhX9_added5_0 34 rfl
theorem dX9_added5_63 : decode cX9_added5 63 = .ok (.goto (-58), 3) := zd_at zhX9_added5_0 35 rfl
theorem dX9_added5_66 : decode cX9_added5 66 = .ok (.iload_n 1, 1) := zd_at zhX9_added5_0 36 rfl
theorem dX9_added5_67 : decode cX9_added5 67 = .ok (.ireturn, 1) := zd_at zhX9_added5_0 37 rfl
def ziX9_not5_0 : List (Nat × Instr × Nat) := [(0, .aload_n 0, 1), (1, .bipush 110, 2), (3, .bipush 111, 2), (5, .bipush 116, 2), (7, .iconst 0, 1), (8, .iconst 0, 1), (9, .iconst 0, 1), (10, .iconst 0, 1), (11, .iconst 0, 1), (12, .invokevirtual 199, 3), (15, .ifCond .eq 10, 3), (18, .aload_n 0, 1), (19, .invokevirtual 223, 3), (22, .pop, 1), (23, .iconst 0, 1), (24, .ireturn, 1), (25, .aload_n 0, 1), (26, .invokevirtual 239, 3), (29, .istore_n 1, 1), (30, .aload_n 0, 1), (31, .bipush 60, 2), (33, .invokevirtual 220, 3), (36, .ifCond .ne 14, 3), (39, .aload_n 0, 1), (40, .bipush 61, 2), (42, .invokevirtual 220, 3), (45, .ifCond .ne 5, 3), (48, .iload_n 1, 1), (49, .ireturn, 1), (50, .aload_n 0, 1), (51, .getfield 175, 3), (54, .ldc2_w 242, 3), (57, .lcmp, 1), (58, .ifCond .ne 7, 3), (61, .iconst 1, 1), (62, .goto 4, 3), (65, .iconst 0, 1), (66, .istore_n 2, 1), (67, .aload_n 0, 1), (68, .invokevirtual 196, 3)]
theorem zhX9_not5_0 : zd_chk (cX9_not5.data.toList.drop 0) 0 ziX9_not5_0 = true := by decide +kernel
theorem dX9_not5_0 : decode cX9_not5 0 = .ok (.aload_n 0, 1) := zd_at zhX9_not5_0 0 rfl
theorem dX9_not5_1 : decode cX9_not5 1 = .ok (.bipush 110, 2) := zd_at zhX9_not5_0 1 rfl
theorem dX9_not5_3 : decode cX9_not5 3 = .ok (.bipush 111, 2) := zd_at zhX9_not5_0 2 rfl
theorem dX9_not5_5 : decode cX9_not5 5 = .ok (.bipush 116, 2) := zd_at zhX9_not5_0 3 rfl
theorem dX9_not5_7 : decode cX9_not5 7 = .ok (.iconst 0, 1) := zd_at zhX9_not5_0 4 rfl
theorem dX9_not5_8 : decode cX9_not5 8 = .ok (.iconst 0, 1) := zd_at zhX9_not5_0 5 rfl
theorem dX9_not5_9 : decode cX9_not5 9 = .ok (.iconst 0, 1) := zd_at zhX9_not5_0 6 rfl
theorem dX9_not5_10 : decode cX9_not5 10 = .ok (.iconst 0, 1) := zd_at zhX9_not5_0 7 rfl
theorem dX9_not5_11 : decode cX9_not5 11 = .ok (.iconst 0, 1) := zd_at zhX9_not5_0 8 rfl
theorem dX9_not5_12 : decode cX9_not5 12 = .ok (.invokevirtual 199, 3) := zd_at zhX9_not5_0 9 rfl
theorem dX9_not5_15 : decode cX9_not5 15 = .ok (.ifCond .eq 10, 3) := zd_at zhX9_not5_0 10 rfl
theorem dX9_not5_18 : decode cX9_not5 18 = .ok (.aload_n 0, 1) := zd_at zhX9_not5_0 11 rfl
theorem dX9_not5_19 : decode cX9_not5 19 = .ok (.invokevirtual 223, 3) := zd_at zhX9_not5_0 12 rfl
theorem dX9_not5_22 : decode cX9_not5 22 = .ok (.pop, 1) := zd_at zhX9_not5_0 13 rfl
theorem dX9_not5_23 : decode cX9_not5 23 = .ok (.iconst 0, 1) := zd_at zhX9_not5_0 14 rfl
theorem dX9_not5_24 : decode cX9_not5 24 = .ok (.ireturn, 1) := zd_at zhX9_not5_0 15 rfl
theorem dX9_not5_25 : decode cX9_not5 25 = .ok (.aload_n 0, 1) := zd_at zhX9_not5_0 16 rfl
theorem dX9_not5_26 : decode cX9_not5 26 = .ok (.invokevirtual 239, 3) := zd_at zhX9_not5_0 17 rfl
theorem dX9_not5_29 : decode cX9_not5 29 = .ok (.istore_n 1, 1) := zd_at zhX9_not5_0 18 rfl
theorem dX9_not5_30 : decode cX9_not5 30 = .ok (.aload_n 0, 1) := zd_at zhX9_not5_0 19 rfl
theorem dX9_not5_31 : decode cX9_not5 31 = .ok (.bipush 60, 2) := zd_at zhX9_not5_0 20 rfl
theorem dX9_not5_33 : decode cX9_not5 33 = .ok (.invokevirtual 220, 3) := zd_at zhX9_not5_0 21 rfl
theorem dX9_not5_36 : decode cX9_not5 36 = .ok (.ifCond .ne 14, 3) := zd_at zhX9_not5_0 22 rfl
theorem dX9_not5_39 : decode cX9_not5 39 = .ok (.aload_n 0, 1) := zd_at zhX9_not5_0 23 rfl
theorem dX9_not5_40 : decode cX9_not5 40 = .ok (.bipush 61, 2) := zd_at zhX9_not5_0 24 rfl
theorem dX9_not5_42 : decode cX9_not5 42 = .ok (.invokevirtual 220, 3) := zd_at zhX9_not5_0 25 rfl
theorem dX9_not5_45 : decode cX9_not5 45 = .ok (.ifCond .ne 5, 3) := zd_at zhX9_not5_0 26 rfl
theorem dX9_not5_48 : decode cX9_not5 48 = .ok (.iload_n 1, 1) := zd_at zhX9_not5_0 27 rfl
theorem dX9_not5_49 : decode cX9_not5 49 = .ok (.ireturn, 1) := zd_at zhX9_not5_0 28 rfl
theorem dX9_not5_50 : decode cX9_not5 50 = .ok (.aload_n 0, 1) := zd_at zhX9_not5_0 29 rfl
theorem dX9_not5_51 : decode cX9_not5 51 = .ok (.getfield 175, 3) := zd_at zhX9_not5_0 30 rfl
theorem dX9_not5_54 : decode cX9_not5 54 = .ok (.ldc2_w 242, 3) := zd_at zhX9_not5_0 31 rfl
theorem dX9_not5_57 : decode cX9_not5 57 = .ok (.lcmp, 1) := zd_at zhX9_not5_0 32 rfl
theorem dX9_not5_58 : decode cX9_not5 58 = .ok (.ifCond .ne 7, 3) := zd_at zhX9_not5_0 33 rfl
theorem dX9_not5_61 : decode cX9_not5 61 = .ok (.iconst 1, 1) := zd_at zhX9_not5_0 34 rfl
theorem dX9_not5_62 : decode cX9_not5 62 = .ok (.goto 4, 3) := zd_at zhX9_not5_0 35 rfl
theorem dX9_not5_65 : decode cX9_not5 65 = .ok (.iconst 0, 1) := zd_at zhX9_not5_0 36 rfl
theorem dX9_not5_66 : decode cX9_not5 66 = .ok (.istore_n 2, 1) := zd_at zhX9_not5_0 37 rfl
theorem dX9_not5_67 : decode cX9_not5 67 = .ok (.aload_n 0, 1) := zd_at zhX9_not5_0 38 rfl
theorem dX9_not5_68 : decode cX9_not5 68 = .ok (.invokevirtual 196, 3) := zd_at zhX9_not5_0 39 rfl
def ziX9_not5_71 : List (Nat × Instr × Nat) := [(71, .aload_n 0, 1), (72, .invokevirtual 239, 3), (75, .istore_n 3, 1), (76, .iload_n 2, 1), (77, .ifCond .eq 11, 3), (80, .iload_n 1, 1), (81, .iload_n 3, 1), (82, .if_icmp .ge 15, 3), (85, .goto 8, 3), (88, .iload_n 1, 1), (89, .iload_n 3, 1), (90, .if_icmp .ne 7, 3), (93, .iconst 1, 1), (94, .goto 4, 3), (97, .iconst 0, 1), (98, .ireturn, 1)]
theorem zhX9_not5_71 : zd_chk (cX9_not5.data.toList.drop 71) 71 ziX9_not5_71 = true := by decide +kernel
theorem dX9_not5_71 : decode cX9_not5 71 = .ok (.aload_n 0, 1) := zd_at zhX9_not5_71 0 rfl
theorem dX9_not5_72 : decode cX9_not5 72 = .ok (.invokevirtual 239, 3) := zd_at zhX9_not5_71 1 rfl
theorem dX9_not5_75 : decode cX9_not5 75 = .ok (.istore_n 3, 1) := zd_at zhX9_not5_71 2 rfl
theorem dX9_not5_76 : decode cX9_not5 76 = .ok (.iload_n 2, 1) := zd_at zhX9_not5_71 3 rfl
theorem dX9_not5_77 : decode cX9_not5 77 = .ok (.ifCond .eq 11, 3) := zd_at zhX9_not5_71 4 rfl
theorem dX9_not5_80 : decode cX9_not5 80 = .ok (.iload_n 1, 1) := zd_at zhX9_not5_71 5 rfl
theorem dX9_not5_81 : decode cX9_not5 81 = .ok (.iload_n 3, 1) := zd_at zhX9_not5_71 6 rfl
theorem dX9_not5_82 : decode cX9_not5 82 = .ok (.if_icmp .ge 15, 3) := zd_at zhX9_not5_71 7 rfl
theorem dX9_not5_85 : decode cX9_not5 85 = .ok (.goto 8, 3) := zd_at zhX9_not5_71 8 rfl
theorem dX9_not5_88 : decode cX9_not5 88 = .ok (.iload_n 1, 1) := zd_at zhX9_not5_71 9 rfl
theorem dX9_not5_89 : decode cX9_not5 89 = .ok (.iload_n 3, 1) := zd_at zhX9_not5_71 10 rfl
theorem dX9_not5_90 : decode cX9_not5 90 = .ok (.if_icmp .ne 7, 3) := zd_at zhX9_not5_71 11 rfl
theorem dX9_not5_93 : decode cX9_not5 93 = .ok (.iconst 1, 1) := zd_at zhX9_not5_71 12 rfl
theorem dX9_not5_94 : decode cX9_not5 94 = .ok (.goto 4, 3) := zd_at zhX9_not5_71 13 rfl
theorem dX9_not5_97 : decode cX9_not5 97 = .ok (.iconst 0, 1) := zd_at zhX9_not5_71 14 rfl
theorem dX9_not5_98 : decode cX9_not5 98 = .ok (.ireturn, 1) := zd_at zhX9_not5_71 15 rfl
def ziX9_both5_0 : List (Nat × Instr × Nat) := [(0, .aload_n 0, 1), (1, .invokevirtual 244, 3), (4, .istore_n 1, 1), (5, .aload_n 0, 1), (6, .bipush 97, 2), (8, .bipush 110, 2), (10, .bipush 100, 2), (12, .iconst 0, 1), (13, .iconst 0, 1), (14, .iconst 0, 1), (15, .iconst 0, 1), (16, .iconst 0, 1), (17, .invokevirtual 199, 3), (20, .ifCond .eq 29, 3), (23, .aload_n 0, 1), (24, .invokevirtual 196, 3), (27, .aload_n 0, 1), (28, .invokevirtual 244, 3), (31, .istore_n 2, 1), (32, .iload_n 1, 1), (33, .ifCond .eq 11, 3), (36, .iload_n 2, 1), (37, .ifCond .eq 7, 3), (40, .iconst 1, 1), (41, .goto 4, 3), (44, .iconst 0, 1), (45, .istore_n 1, 1), (46, .goto (-41), 3), (49, .iload_n 1, 1), (50, .ireturn, 1)]
theorem zhX9_both5_0 : zd_chk (cX9_both5.data.toList.drop 0) 0 ziX9_both5_0 = true := by decide +kernel
theorem dX9_both5_0 : decode cX9_both5 0 = .ok (.aload_n 0, 1) := zd_at zhX9_both5_0 0 rfl
theorem dX9_both5_1 : decode cX9_both5 1 = .ok (.invokevirtual 244, 3) := zd_at zhX9_both5_0 1 rfl
theorem dX9_both5_4 : decode cX9_both5 4 = .ok (.istore_n 1, 1) := zd_at zhX9_both5_0 2 rfl
theorem dX9_both5_5 : decode cX9_both5 5 = .ok (.aload_n 0, 1) := zd_at zhX9_both5_0 3 rfl
theorem dX9_both5_6 : decode cX9_both5 6 = .ok (.bipush 97, 2) := zd_at zhX9_both5_0 4 rfl
theorem dX9_both5_8 : decode cX9_both5 8 = .ok (.bipush 110, 2) := zd_at zhX9_both5_0 5 rfl
theorem dX9_both5_10 : decode cX9_both5 10 = .ok (.bipush 100, 2) := zd_at zhX9_both5_0 6 rfl
theorem dX9_both5_12 : decode cX9_both5 12 = .ok (.iconst 0, 1) := zd_at zhX9_both5_0 7 rfl
theorem dX9_both5_13 : decode cX9_both5 13 = .ok (.iconst 0, 1) := zd_at zhX9_both5_0 8 rfl
theorem dX9_both5_14 : decode cX9_both5 14 = .ok (.iconst 0, 1) := zd_at zhX9_both5_0 9 rfl
theorem dX9_both5_15 : decode cX9_both5 15 = .ok (.iconst 0, 1) := zd_at zhX9_both5_0 10 rfl
theorem dX9_both5_16 : decode cX9_both5 16 = .ok (.iconst 0, 1) := zd_at zhX9_both5_0 11 rfl
theorem dX9_both5_17 : decode cX9_both5 17 = .ok (.invokevirtual 199, 3) := zd_at zhX9_both5_0 12 rfl
theorem dX9_both5_20 : decode cX9_both5 20 = .ok (.ifCond .eq 29, 3) := zd_at zhX9_both5_0 13 rfl
theorem dX9_both5_23 : decode cX9_both5 23 = .ok (.aload_n 0, 1) := zd_at zhX9_both5_0 14 rfl
theorem dX9_both5_24 : decode cX9_both5 24 = .ok (.invokevirtual 196, 3) := zd_at zhX9_both5_0 15 rfl
theorem dX9_both5_27 : decode cX9_both5 27 = .ok (.aload_n 0, 1) := zd_at zhX9_both5_0 16 rfl
theorem dX9_both5_28 : decode cX9_both5 28 = .ok (.invokevirtual 244, 3) := zd_at zhX9_both5_0 17 rfl
theorem dX9_both5_31 : decode cX9_both5 31 = .ok (.istore_n 2, 1) := zd_at zhX9_both5_0 18 rfl
theorem dX9_both5_32 : decode cX9_both5 32 = .ok (.iload_n 1, 1) := zd_at zhX9_both5_0 19 rfl
theorem dX9_both5_33 : decode cX9_both5 33 = .ok (.ifCond .eq 11, 3) := zd_at zhX9_both5_0 20 rfl
theorem dX9_both5_36 : decode cX9_both5 36 = .ok (.iload_n 2, 1) := zd_at zhX9_both5_0 21 rfl
theorem dX9_both5_37 : decode cX9_both5 37 = .ok (.ifCond .eq 7, 3) := zd_at zhX9_both5_0 22 rfl
theorem dX9_both5_40 : decode cX9_both5 40 = .ok (.iconst 1, 1) := zd_at zhX9_both5_0 23 rfl
theorem dX9_both5_41 : decode cX9_both5 41 = .ok (.goto 4, 3) := zd_at zhX9_both5_0 24 rfl
theorem dX9_both5_44 : decode cX9_both5 44 = .ok (.iconst 0, 1) := zd_at zhX9_both5_0 25 rfl
theorem dX9_both5_45 : decode cX9_both5 45 = .ok (.istore_n 1, 1) := zd_at zhX9_both5_0 26 rfl
theorem dX9_both5_46 : decode cX9_both5 46 = .ok (.goto (-41), 3) := zd_at zhX9_both5_0 27 rfl
theorem dX9_both5_49 : decode cX9_both5 49 = .ok (.iload_n 1, 1) := zd_at zhX9_both5_0 28 rfl
theorem dX9_both5_50 : decode cX9_both5 50 = .ok (.ireturn, 1) := zd_at zhX9_both5_0 29 rfl
def ziX9_either5_0 : List (Nat × Instr × Nat) := [(0, .aload_n 0, 1), (1, .invokevirtual 247, 3), (4, .istore_n 1, 1), (5, .aload_n 0, 1), (6, .bipush 111, 2), (8, .bipush 114, 2), (10, .iconst 0, 1), (11, .iconst 0, 1), (12, .iconst 0, 1), (13, .iconst 0, 1), (14, .iconst 0, 1), (15, .iconst 0, 1), (16, .invokevirtual 199, 3), (19, .ifCond .eq 29, 3), (22, .aload_n 0, 1), (23, .invokevirtual 196, 3), (26, .aload_n 0, 1), (27, .invokevirtual 247, 3), (30, .istore_n 2, 1), (31, .iload_n 1, 1), (32, .ifCond .ne 7, 3), (35, .iload_n 2, 1), (36, .ifCond .eq 7, 3), (39, .iconst 1, 1), (40, .goto 4, 3), (43, .iconst 0, 1), (44, .istore_n 1, 1), (45, .goto (-40), 3), (48, .iload_n 1, 1), (49, .ireturn, 1)]
theorem zhX9_either5_0 : zd_chk (cX9_either5.data.toList.drop 0) 0 ziX9_either5_0 = true := by decide +kernel
theorem dX9_either5_0 : decode cX9_either5 0 = .ok (.aload_n 0, 1) := zd_at zhX9_either5_0 0 rfl
theorem dX9_either5_1 : decode cX9_either5 1 = .ok (.invokevirtual 247, 3) := zd_at zhX9_either5_0 1 rfl
theorem dX9_either5_4 : decode cX9_either5 4 = .ok (.istore_n 1, 1) := zd_at zhX9_either5_0 2 rfl
theorem dX9_either5_5 : decode cX9_either5 5 = .ok (.aload_n 0, 1) := zd_at zhX9_either5_0 3 rfl
theorem dX9_either5_6 : decode cX9_either5 6 = .ok (.bipush 111, 2) := zd_at zhX9_either5_0 4 rfl
theorem dX9_either5_8 : decode cX9_either5 8 = .ok (.bipush 114, 2) := zd_at zhX9_either5_0 5 rfl
theorem dX9_either5_10 : decode cX9_either5 10 = .ok (.iconst 0, 1) := zd_at zhX9_either5_0 6 rfl
theorem dX9_either5_11 : decode cX9_either5 11 = .ok (.iconst 0, 1) := zd_at zhX9_either5_0 7 rfl
theorem dX9_either5_12 : decode cX9_either5 12 = .ok (.iconst 0, 1) := zd_at zhX9_either5_0 8 rfl
theorem dX9_either5_13 : decode cX9_either5 13 = .ok (.iconst 0, 1) := zd_at zhX9_either5_0 9 rfl
theorem dX9_either5_14 : decode cX9_either5 14 = .ok (.iconst 0, 1) := zd_at zhX9_either5_0 10 rfl
theorem dX9_either5_15 : decode cX9_either5 15 = .ok (.iconst 0, 1) := zd_at zhX9_either5_0 11 rfl
theorem dX9_either5_16 : decode cX9_either5 16 = .ok (.invokevirtual 199, 3) := zd_at zhX9_either5_0 12 rfl
theorem dX9_either5_19 : decode cX9_either5 19 = .ok (.ifCond .eq 29, 3) := zd_at zhX9_either5_0 13 rfl
theorem dX9_either5_22 : decode cX9_either5 22 = .ok (.aload_n 0, 1) := zd_at zhX9_either5_0 14 rfl
theorem dX9_either5_23 : decode cX9_either5 23 = .ok (.invokevirtual 196, 3) := zd_at zhX9_either5_0 15 rfl
theorem dX9_either5_26 : decode cX9_either5 26 = .ok (.aload_n 0, 1) := zd_at zhX9_either5_0 16 rfl
theorem dX9_either5_27 : decode cX9_either5 27 = .ok (.invokevirtual 247, 3) := zd_at zhX9_either5_0 17 rfl
theorem dX9_either5_30 : decode cX9_either5 30 = .ok (.istore_n 2, 1) := zd_at zhX9_either5_0 18 rfl
theorem dX9_either5_31 : decode cX9_either5 31 = .ok (.iload_n 1, 1) := zd_at zhX9_either5_0 19 rfl
theorem dX9_either5_32 : decode cX9_either5 32 = .ok (.ifCond .ne 7, 3) := zd_at zhX9_either5_0 20 rfl
theorem dX9_either5_35 : decode cX9_either5 35 = .ok (.iload_n 2, 1) := zd_at zhX9_either5_0 21 rfl
theorem dX9_either5_36 : decode cX9_either5 36 = .ok (.ifCond .eq 7, 3) := zd_at zhX9_either5_0 22 rfl
theorem dX9_either5_39 : decode cX9_either5 39 = .ok (.iconst 1, 1) := zd_at zhX9_either5_0 23 rfl
theorem dX9_either5_40 : decode cX9_either5 40 = .ok (.goto 4, 3) := zd_at zhX9_either5_0 24 rfl
theorem dX9_either5_43 : decode cX9_either5 43 = .ok (.iconst 0, 1) := zd_at zhX9_either5_0 25 rfl
theorem dX9_either5_44 : decode cX9_either5 44 = .ok (.istore_n 1, 1) := zd_at zhX9_either5_0 26 rfl
theorem dX9_either5_45 : decode cX9_either5 45 = .ok (.goto (-40), 3) := zd_at zhX9_either5_0 27 rfl
theorem dX9_either5_48 : decode cX9_either5 48 = .ok (.iload_n 1, 1) := zd_at zhX9_either5_0 28 rfl
theorem dX9_either5_49 : decode cX9_either5 49 = .ok (.ireturn, 1) := zd_at zhX9_either5_0 29 rfl
def ziX9_atom4_0 : List (Nat × Instr × Nat) := [(0, .iconst 0, 1), (1, .istore_n 1, 1), (2, .aload_n 0, 1), (3, .bipush 45, 2), (5, .invokevirtual 220, 3), (8, .ifCond .eq 29, 3), (11, .aload_n 0, 1), (12, .invokevirtual 223, 3), (15, .ifCond .eq 146, 3), (18, .aload_n 0, 1), (19, .invokevirtual 231, 3), (22, .ineg, 1), (23, .istore_n 1, 1), (24, .aload_n 0, 1), (25, .dup, 1), (26, .getfield 190, 3), (29, .iconst 1, 1), (30, .isub, 1), (31, .putfield 190, 3), (34, .goto 127, 3), (37, .aload_n 0, 1), (38, .bipush 40, 2), (40, .invokevirtual 220, 3), (43, .ifCond .eq 52, 3), (46, .aload_n 0, 1), (47, .invokevirtual 223, 3), (50, .ifCond .eq 111, 3), (53, .aload_n 0, 1), (54, .invokevirtual 250, 3), (57, .istore_n 1, 1), (58, .aload_n 0, 1), (59, .bipush 41, 2), (61, .invokevirtual 220, 3), (64, .ifCond .ne 7, 3), (67, .aload_n 0, 1), (68, .invokevirtual 193, 3), (71, .aload_n 0, 1), (72, .dup, 1), (73, .getfield 190, 3), (76, .iconst 1, 1)]
theorem zhX9_atom4_0 : zd_chk (cX9_atom4.data.toList.drop 0) 0 ziX9_atom4_0 = true := by decide +kernel
theorem dX9_atom4_0 : decode cX9_atom4 0 = .ok (.iconst 0, 1) := zd_at zhX9_atom4_0 0 rfl
theorem dX9_atom4_1 : decode cX9_atom4 1 = .ok (.istore_n 1, 1) := zd_at zhX9_atom4_0 1 rfl
theorem dX9_atom4_2 : decode cX9_atom4 2 = .ok (.aload_n 0, 1) := zd_at zhX9_atom4_0 2 rfl
theorem dX9_atom4_3 : decode cX9_atom4 3 = .ok (.bipush 45, 2) := zd_at zhX9_atom4_0 3 rfl
theorem dX9_atom4_5 : decode cX9_atom4 5 = .ok (.invokevirtual 220, 3) := zd_at zhX9_atom4_0 4 rfl
theorem dX9_atom4_8 : decode cX9_atom4 8 = .ok (.ifCond .eq 29, 3) := zd_at zhX9_atom4_0 5 rfl
theorem dX9_atom4_11 : decode cX9_atom4 11 = .ok (.aload_n 0, 1) := zd_at zhX9_atom4_0 6 rfl
theorem dX9_atom4_12 : decode cX9_atom4 12 = .ok (.invokevirtual 223, 3) := zd_at zhX9_atom4_0 7 rfl
theorem dX9_atom4_15 : decode cX9_atom4 15 = .ok (.ifCond .eq 146, 3) := zd_at zhX9_atom4_0 8 rfl
theorem dX9_atom4_18 : decode cX9_atom4 18 = .ok (.aload_n 0, 1) := zd_at zhX9_atom4_0 9 rfl
theorem dX9_atom4_19 : decode cX9_atom4 19 = .ok (.invokevirtual 231, 3) := zd_at zhX9_atom4_0 10 rfl
theorem dX9_atom4_22 : decode cX9_atom4 22 = .ok (.ineg, 1) := zd_at zhX9_atom4_0 11 rfl
theorem dX9_atom4_23 : decode cX9_atom4 23 = .ok (.istore_n 1, 1) := zd_at zhX9_atom4_0 12 rfl
theorem dX9_atom4_24 : decode cX9_atom4 24 = .ok (.aload_n 0, 1) := zd_at zhX9_atom4_0 13 rfl
theorem dX9_atom4_25 : decode cX9_atom4 25 = .ok (.dup, 1) := zd_at zhX9_atom4_0 14 rfl
theorem dX9_atom4_26 : decode cX9_atom4 26 = .ok (.getfield 190, 3) := zd_at zhX9_atom4_0 15 rfl
theorem dX9_atom4_29 : decode cX9_atom4 29 = .ok (.iconst 1, 1) := zd_at zhX9_atom4_0 16 rfl
theorem dX9_atom4_30 : decode cX9_atom4 30 = .ok (.isub, 1) := zd_at zhX9_atom4_0 17 rfl
theorem dX9_atom4_31 : decode cX9_atom4 31 = .ok (.putfield 190, 3) := zd_at zhX9_atom4_0 18 rfl
theorem dX9_atom4_34 : decode cX9_atom4 34 = .ok (.goto 127, 3) := zd_at zhX9_atom4_0 19 rfl
theorem dX9_atom4_37 : decode cX9_atom4 37 = .ok (.aload_n 0, 1) := zd_at zhX9_atom4_0 20 rfl
theorem dX9_atom4_38 : decode cX9_atom4 38 = .ok (.bipush 40, 2) := zd_at zhX9_atom4_0 21 rfl
theorem dX9_atom4_40 : decode cX9_atom4 40 = .ok (.invokevirtual 220, 3) := zd_at zhX9_atom4_0 22 rfl
theorem dX9_atom4_43 : decode cX9_atom4 43 = .ok (.ifCond .eq 52, 3) := zd_at zhX9_atom4_0 23 rfl
theorem dX9_atom4_46 : decode cX9_atom4 46 = .ok (.aload_n 0, 1) := zd_at zhX9_atom4_0 24 rfl
theorem dX9_atom4_47 : decode cX9_atom4 47 = .ok (.invokevirtual 223, 3) := zd_at zhX9_atom4_0 25 rfl
theorem dX9_atom4_50 : decode cX9_atom4 50 = .ok (.ifCond .eq 111, 3) := zd_at zhX9_atom4_0 26 rfl
theorem dX9_atom4_53 : decode cX9_atom4 53 = .ok (.aload_n 0, 1) := zd_at zhX9_atom4_0 27 rfl
theorem dX9_atom4_54 : decode cX9_atom4 54 = .ok (.invokevirtual 250, 3) := zd_at zhX9_atom4_0 28 rfl
theorem dX9_atom4_57 : decode cX9_atom4 57 = .ok (.istore_n 1, 1) := zd_at zhX9_atom4_0 29 rfl
theorem dX9_atom4_58 : decode cX9_atom4 58 = .ok (.aload_n 0, 1) := zd_at zhX9_atom4_0 30 rfl
theorem dX9_atom4_59 : decode cX9_atom4 59 = .ok (.bipush 41, 2) := zd_at zhX9_atom4_0 31 rfl
theorem dX9_atom4_61 : decode cX9_atom4 61 = .ok (.invokevirtual 220, 3) := zd_at zhX9_atom4_0 32 rfl
theorem dX9_atom4_64 : decode cX9_atom4 64 = .ok (.ifCond .ne 7, 3) := zd_at zhX9_atom4_0 33 rfl
theorem dX9_atom4_67 : decode cX9_atom4 67 = .ok (.aload_n 0, 1) := zd_at zhX9_atom4_0 34 rfl
theorem dX9_atom4_68 : decode cX9_atom4 68 = .ok (.invokevirtual 193, 3) := zd_at zhX9_atom4_0 35 rfl
theorem dX9_atom4_71 : decode cX9_atom4 71 = .ok (.aload_n 0, 1) := zd_at zhX9_atom4_0 36 rfl
theorem dX9_atom4_72 : decode cX9_atom4 72 = .ok (.dup, 1) := zd_at zhX9_atom4_0 37 rfl
theorem dX9_atom4_73 : decode cX9_atom4 73 = .ok (.getfield 190, 3) := zd_at zhX9_atom4_0 38 rfl
theorem dX9_atom4_76 : decode cX9_atom4 76 = .ok (.iconst 1, 1) := zd_at zhX9_atom4_0 39 rfl
def ziX9_atom4_77 : List (Nat × Instr × Nat) := [(77, .isub, 1), (78, .putfield 190, 3), (81, .aload_n 0, 1), (82, .getfield 179, 3), (85, .ifCond .ne 76, 3), (88, .aload_n 0, 1), (89, .invokevirtual 196, 3), (92, .goto 69, 3), (95, .aload_n 0, 1), (96, .getfield 179, 3), (99, .ifCond .ne 24, 3), (102, .aload_n 0, 1), (103, .getfield 164, 3), (106, .iconst 2, 1), (107, .if_icmp .ne 16, 3), (110, .aload_n 0, 1), (111, .getfield 175, 3), (114, .l2i, 1), (115, .istore_n 1, 1), (116, .aload_n 0, 1), (117, .invokevirtual 196, 3), (120, .goto 41, 3), (123, .aload_n 0, 1), (124, .getfield 179, 3), (127, .ifCond .ne 30, 3), (130, .aload_n 0, 1), (131, .getfield 164, 3), (134, .iconst 1, 1), (135, .if_icmp .ne 22, 3), (138, .aload_n 0, 1), (139, .invokevirtual 227, 3), (142, .istore_n 1, 1), (143, .aload_n 0, 1), (144, .getfield 179, 3), (147, .ifCond .ne 14, 3), (150, .aload_n 0, 1), (151, .invokevirtual 196, 3), (154, .goto 7, 3), (157, .aload_n 0, 1), (158, .invokevirtual 193, 3)]
theorem zhX9_atom4_77 : zd_chk (cX9_atom4.data.toList.drop 77) 77 ziX9_atom4_77 = true := by decide +kernel
theorem dX9_atom4_77 : decode cX9_atom4 77 = .ok (.isub, 1) := zd_at zhX9_atom4_77 0 rfl
theorem dX9_atom4_78 : decode cX9_atom4 78 = .ok (.putfield 190, 3) := zd_at zhX9_atom4_77 1 rfl
theorem dX9_atom4_81 : decode cX9_atom4 81 = .ok (.aload_n 0, 1) := zd_at zhX9_atom4_77 2 rfl
theorem dX9_atom4_82 : decode cX9_atom4 82 = .ok (.getfield 179, 3) := zd_at zhX9_atom4_77 3 rfl
theorem dX9_atom4_85 : decode cX9_atom4 85 = .ok (.ifCond .ne 76, 3) := zd_at zhX9_atom4_77 4 rfl
theorem dX9_atom4_88 : decode cX9_atom4 88 = .ok (.aload_n 0, 1) := zd_at zhX9_atom4_77 5 rfl
theorem dX9_atom4_89 : decode cX9_atom4 89 = .ok (.invokevirtual 196, 3) := zd_at zhX9_atom4_77 6 rfl
theorem dX9_atom4_92 : decode cX9_atom4 92 = .ok (.goto 69, 3) := zd_at zhX9_atom4_77 7 rfl
theorem dX9_atom4_95 : decode cX9_atom4 95 = .ok (.aload_n 0, 1) := zd_at zhX9_atom4_77 8 rfl
theorem dX9_atom4_96 : decode cX9_atom4 96 = .ok (.getfield 179, 3) := zd_at zhX9_atom4_77 9 rfl
theorem dX9_atom4_99 : decode cX9_atom4 99 = .ok (.ifCond .ne 24, 3) := zd_at zhX9_atom4_77 10 rfl
theorem dX9_atom4_102 : decode cX9_atom4 102 = .ok (.aload_n 0, 1) := zd_at zhX9_atom4_77 11 rfl
theorem dX9_atom4_103 : decode cX9_atom4 103 = .ok (.getfield 164, 3) := zd_at zhX9_atom4_77 12 rfl
theorem dX9_atom4_106 : decode cX9_atom4 106 = .ok (.iconst 2, 1) := zd_at zhX9_atom4_77 13 rfl
theorem dX9_atom4_107 : decode cX9_atom4 107 = .ok (.if_icmp .ne 16, 3) := zd_at zhX9_atom4_77 14 rfl
theorem dX9_atom4_110 : decode cX9_atom4 110 = .ok (.aload_n 0, 1) := zd_at zhX9_atom4_77 15 rfl
theorem dX9_atom4_111 : decode cX9_atom4 111 = .ok (.getfield 175, 3) := zd_at zhX9_atom4_77 16 rfl
theorem dX9_atom4_114 : decode cX9_atom4 114 = .ok (.l2i, 1) := zd_at zhX9_atom4_77 17 rfl
theorem dX9_atom4_115 : decode cX9_atom4 115 = .ok (.istore_n 1, 1) := zd_at zhX9_atom4_77 18 rfl
theorem dX9_atom4_116 : decode cX9_atom4 116 = .ok (.aload_n 0, 1) := zd_at zhX9_atom4_77 19 rfl
theorem dX9_atom4_117 : decode cX9_atom4 117 = .ok (.invokevirtual 196, 3) := zd_at zhX9_atom4_77 20 rfl
theorem dX9_atom4_120 : decode cX9_atom4 120 = .ok (.goto 41, 3) := zd_at zhX9_atom4_77 21 rfl
theorem dX9_atom4_123 : decode cX9_atom4 123 = .ok (.aload_n 0, 1) := zd_at zhX9_atom4_77 22 rfl
theorem dX9_atom4_124 : decode cX9_atom4 124 = .ok (.getfield 179, 3) := zd_at zhX9_atom4_77 23 rfl
theorem dX9_atom4_127 : decode cX9_atom4 127 = .ok (.ifCond .ne 30, 3) := zd_at zhX9_atom4_77 24 rfl
theorem dX9_atom4_130 : decode cX9_atom4 130 = .ok (.aload_n 0, 1) := zd_at zhX9_atom4_77 25 rfl
theorem dX9_atom4_131 : decode cX9_atom4 131 = .ok (.getfield 164, 3) := zd_at zhX9_atom4_77 26 rfl
theorem dX9_atom4_134 : decode cX9_atom4 134 = .ok (.iconst 1, 1) := zd_at zhX9_atom4_77 27 rfl
theorem dX9_atom4_135 : decode cX9_atom4 135 = .ok (.if_icmp .ne 22, 3) := zd_at zhX9_atom4_77 28 rfl
theorem dX9_atom4_138 : decode cX9_atom4 138 = .ok (.aload_n 0, 1) := zd_at zhX9_atom4_77 29 rfl
theorem dX9_atom4_139 : decode cX9_atom4 139 = .ok (.invokevirtual 227, 3) := zd_at zhX9_atom4_77 30 rfl
theorem dX9_atom4_142 : decode cX9_atom4 142 = .ok (.istore_n 1, 1) := zd_at zhX9_atom4_77 31 rfl
theorem dX9_atom4_143 : decode cX9_atom4 143 = .ok (.aload_n 0, 1) := zd_at zhX9_atom4_77 32 rfl
theorem dX9_atom4_144 : decode cX9_atom4 144 = .ok (.getfield 179, 3) := zd_at zhX9_atom4_77 33 rfl
theorem dX9_atom4_147 : decode cX9_atom4 147 = .ok (.ifCond .ne 14, 3) := zd_at zhX9_atom4_77 34 rfl
theorem dX9_atom4_150 : decode cX9_atom4 150 = .ok (.aload_n 0, 1) := zd_at zhX9_atom4_77 35 rfl
theorem dX9_atom4_151 : decode cX9_atom4 151 = .ok (.invokevirtual 196, 3) := zd_at zhX9_atom4_77 36 rfl
theorem dX9_atom4_154 : decode cX9_atom4 154 = .ok (.goto 7, 3) := zd_at zhX9_atom4_77 37 rfl
theorem dX9_atom4_157 : decode cX9_atom4 157 = .ok (.aload_n 0, 1) := zd_at zhX9_atom4_77 38 rfl
theorem dX9_atom4_158 : decode cX9_atom4 158 = .ok (.invokevirtual 193, 3) := zd_at zhX9_atom4_77 39 rfl
def ziX9_atom4_161 : List (Nat × Instr × Nat) := [(161, .iload_n 1, 1), (162, .ireturn, 1)]
theorem zhX9_atom4_161 : zd_chk (cX9_atom4.data.toList.drop 161) 161 ziX9_atom4_161 = true := by decide +kernel
theorem dX9_atom4_161 : decode cX9_atom4 161 = .ok (.iload_n 1, 1) := zd_at zhX9_atom4_161 0 rfl
theorem dX9_atom4_162 : decode cX9_atom4 162 = .ok (.ireturn, 1) := zd_at zhX9_atom4_161 1 rfl
def ziX9_term4_0 : List (Nat × Instr × Nat) := [(0, .aload_n 0, 1), (1, .invokevirtual 253, 3), (4, .istore_n 1, 1), (5, .aload_n 0, 1), (6, .bipush 42, 2), (8, .invokevirtual 220, 3), (11, .ifCond .eq 17, 3), (14, .aload_n 0, 1), (15, .invokevirtual 196, 3), (18, .iload_n 1, 1), (19, .aload_n 0, 1), (20, .invokevirtual 253, 3), (23, .imul, 1), (24, .istore_n 1, 1), (25, .goto (-20), 3), (28, .iload_n 1, 1), (29, .ireturn, 1)]
theorem zhX9_term4_0 : zd_chk (cX9_term4.data.toList.drop 0) 0 ziX9_term4_0 = true := by decide +kernel
theorem dX9_term4_0 : decode cX9_term4 0 = .ok (.aload_n 0, 1) := zd_at zhX9_term4_0 0 rfl
theorem dX9_term4_1 : decode cX9_term4 1 = .ok (.invokevirtual 253, 3) := zd_at zhX9_term4_0 1 rfl
theorem dX9_term4_4 : decode cX9_term4 4 = .ok (.istore_n 1, 1) := zd_at zhX9_term4_0 2 rfl
theorem dX9_term4_5 : decode cX9_term4 5 = .ok (.aload_n 0, 1) := zd_at zhX9_term4_0 3 rfl
theorem dX9_term4_6 : decode cX9_term4 6 = .ok (.bipush 42, 2) := zd_at zhX9_term4_0 4 rfl
theorem dX9_term4_8 : decode cX9_term4 8 = .ok (.invokevirtual 220, 3) := zd_at zhX9_term4_0 5 rfl
theorem dX9_term4_11 : decode cX9_term4 11 = .ok (.ifCond .eq 17, 3) := zd_at zhX9_term4_0 6 rfl
theorem dX9_term4_14 : decode cX9_term4 14 = .ok (.aload_n 0, 1) := zd_at zhX9_term4_0 7 rfl
theorem dX9_term4_15 : decode cX9_term4 15 = .ok (.invokevirtual 196, 3) := zd_at zhX9_term4_0 8 rfl
theorem dX9_term4_18 : decode cX9_term4 18 = .ok (.iload_n 1, 1) := zd_at zhX9_term4_0 9 rfl
theorem dX9_term4_19 : decode cX9_term4 19 = .ok (.aload_n 0, 1) := zd_at zhX9_term4_0 10 rfl
theorem dX9_term4_20 : decode cX9_term4 20 = .ok (.invokevirtual 253, 3) := zd_at zhX9_term4_0 11 rfl
theorem dX9_term4_23 : decode cX9_term4 23 = .ok (.imul, 1) := zd_at zhX9_term4_0 12 rfl
theorem dX9_term4_24 : decode cX9_term4 24 = .ok (.istore_n 1, 1) := zd_at zhX9_term4_0 13 rfl
theorem dX9_term4_25 : decode cX9_term4 25 = .ok (.goto (-20), 3) := zd_at zhX9_term4_0 14 rfl
theorem dX9_term4_28 : decode cX9_term4 28 = .ok (.iload_n 1, 1) := zd_at zhX9_term4_0 15 rfl
theorem dX9_term4_29 : decode cX9_term4 29 = .ok (.ireturn, 1) := zd_at zhX9_term4_0 16 rfl
def ziX9_added4_0 : List (Nat × Instr × Nat) := [(0, .aload_n 0, 1), (1, .invokevirtual 256, 3), (4, .istore_n 1, 1), (5, .aload_n 0, 1), (6, .bipush 43, 2), (8, .invokevirtual 220, 3), (11, .ifCond .ne 12, 3), (14, .aload_n 0, 1), (15, .bipush 45, 2), (17, .invokevirtual 220, 3), (20, .ifCond .eq 46, 3), (23, .aload_n 0, 1), (24, .getfield 175, 3), (27, .ldc2_w 237, 3), (30, .lcmp, 1), (31, .ifCond .ne 7, 3), (34, .iconst 1, 1), (35, .goto 4, 3), (38, .iconst 0, 1), (39, .istore_n 2, 1), (40, .aload_n 0, 1), (41, .invokevirtual 196, 3), (44, .aload_n 0, 1), (45, .invokevirtual 256, 3), (48, .istore_n 3, 1), (49, .iload_n 2, 1), (50, .ifCond .eq 9, 3), (53, .iload_n 1, 1), (54, .iload_n 3, 1), (55, .iadd, 1), (56, .goto 6, 3), (59, .iload_n 1, 1), (60, .iload_n 3, 1), (61, .isub, 1), (62, .istore_n 1, 1), (63, .goto (-58), 3), (66, .iload_n 1, 1), (67, .ireturn, 1)]
theorem zhX9_added4_0 : zd_chk (cX9_added4.data.toList.drop 0) 0 ziX9_added4_0 = true := by decide +kernel
theorem dX9_added4_0 : decode cX9_added4 0 = .ok (.aload_n 0, 1) := zd_at zhX9_added4_0 0 rfl
theorem dX9_added4_1 : decode cX9_added4 1 = .ok (.invokevirtual 256, 3) := zd_at zhX9_added4_0 1 rfl
theorem dX9_added4_4 : decode cX9_added4 4 = .ok (.istore_n 1, 1) := zd_at zhX9_added4_0 2 rfl
theorem dX9_added4_5 : decode cX9_added4 5 = .ok (.aload_n 0, 1) := zd_at zhX9_added4_0 3 rfl
theorem dX9_added4_6 : decode cX9_added4 6 = .ok (.bipush 43, 2) := zd_at zhX9_added4_0 4 rfl
theorem dX9_added4_8 : decode cX9_added4 8 = .ok (.invokevirtual 220, 3) := zd_at zhX9_added4_0 5 rfl
theorem dX9_added4_11 : decode cX9_added4 11 = .ok (.ifCond .ne 12, 3) := zd_at zhX9_added4_0 6 rfl
theorem dX9_added4_14 : decode cX9_added4 14 = .ok (.aload_n 0, 1) := zd_at zhX9_added4_0 7 rfl
theorem dX9_added4_15 : decode cX9_added4 15 = .ok (.bipush 45, 2) := zd_at zhX9_added4_0 8 rfl
theorem dX9_added4_17 : decode cX9_added4 17 = .ok (.invokevirtual 220, 3) := zd_at zhX9_added4_0 9 rfl
theorem dX9_added4_20 : decode cX9_added4 20 = .ok (.ifCond .eq 46, 3) := zd_at zhX9_added4_0 10 rfl
theorem dX9_added4_23 : decode cX9_added4 23 = .ok (.aload_n 0, 1) := zd_at zhX9_added4_0 11 rfl
theorem dX9_added4_24 : decode cX9_added4 24 = .ok (.getfield 175, 3) := zd_at zhX9_added4_0 12 rfl
theorem dX9_added4_27 : decode cX9_added4 27 = .ok (.ldc2_w 237, 3) := zd_at zhX9_added4_0 13 rfl
theorem dX9_added4_30 : decode cX9_added4 30 = .ok (.lcmp, 1) := zd_at zhX9_added4_0 14 rfl
theorem dX9_added4_31 : decode cX9_added4 31 = .ok (.ifCond .ne 7, 3) := zd_at zhX9_added4_0 15 rfl
theorem dX9_added4_34 : decode cX9_added4 34 = .ok (.iconst 1, 1) := zd_at zhX9_added4_0 16 rfl
theorem dX9_added4_35 : decode cX9_added4 35 = .ok (.goto 4, 3) := zd_at zhX9_added4_0 17 rfl
theorem dX9_added4_38 : decode cX9_added4 38 = .ok (.iconst 0, 1) := zd_at zhX9_added4_0 18 rfl
theorem dX9_added4_39 : decode cX9_added4 39 = .ok (.istore_n 2, 1) := zd_at zhX9_added4_0 19 rfl
theorem dX9_added4_40 : decode cX9_added4 40 = .ok (.aload_n 0, 1) := zd_at zhX9_added4_0 20 rfl
theorem dX9_added4_41 : decode cX9_added4 41 = .ok (.invokevirtual 196, 3) := zd_at zhX9_added4_0 21 rfl
theorem dX9_added4_44 : decode cX9_added4 44 = .ok (.aload_n 0, 1) := zd_at zhX9_added4_0 22 rfl
theorem dX9_added4_45 : decode cX9_added4 45 = .ok (.invokevirtual 256, 3) := zd_at zhX9_added4_0 23 rfl
theorem dX9_added4_48 : decode cX9_added4 48 = .ok (.istore_n 3, 1) := zd_at zhX9_added4_0 24 rfl
theorem dX9_added4_49 : decode cX9_added4 49 = .ok (.iload_n 2, 1) := zd_at zhX9_added4_0 25 rfl
theorem dX9_added4_50 : decode cX9_added4 50 = .ok (.ifCond .eq 9, 3) := zd_at zhX9_added4_0 26 rfl
theorem dX9_added4_53 : decode cX9_added4 53 = .ok (.iload_n 1, 1) := zd_at zhX9_added4_0 27 rfl
theorem dX9_added4_54 : decode cX9_added4 54 = .ok (.iload_n 3, 1) := zd_at zhX9_added4_0 28 rfl
theorem dX9_added4_55 : decode cX9_added4 55 = .ok (.iadd, 1) := zd_at zhX9_added4_0 29 rfl
theorem dX9_added4_56 : decode cX9_added4 56 = .ok (.goto 6, 3) := zd_at zhX9_added4_0 30 rfl
theorem dX9_added4_59 : decode cX9_added4 59 = .ok (.iload_n 1, 1) := zd_at zhX9_added4_0 31 rfl
theorem dX9_added4_60 : decode cX9_added4 60 = .ok (.iload_n 3, 1) := zd_at zhX9_added4_0 32 rfl
theorem dX9_added4_61 : decode cX9_added4 61 = .ok (.isub, 1) := zd_at zhX9_added4_0 33 rfl
theorem dX9_added4_62 : decode cX9_added4 62 = .ok (.istore_n 1, 1) := zd_at zhX9_added4_0 34 rfl
theorem dX9_added4_63 : decode cX9_added4 63 = .ok (.goto (-58), 3) := zd_at zhX9_added4_0 35 rfl
theorem dX9_added4_66 : decode cX9_added4 66 = .ok (.iload_n 1, 1) := zd_at zhX9_added4_0 36 rfl
theorem dX9_added4_67 : decode cX9_added4 67 = .ok (.ireturn, 1) := zd_at zhX9_added4_0 37 rfl
def ziX9_not4_0 : List (Nat × Instr × Nat) := [(0, .aload_n 0, 1), (1, .bipush 110, 2), (3, .bipush 111, 2), (5, .bipush 116, 2), (7, .iconst 0, 1), (8, .iconst 0, 1), (9, .iconst 0, 1), (10, .iconst 0, 1), (11, .iconst 0, 1), (12, .invokevirtual 199, 3), (15, .ifCond .eq 37, 3), (18, .aload_n 0, 1), (19, .invokevirtual 223, 3), (22, .ifCond .ne 5, 3), (25, .iconst 0, 1), (26, .ireturn, 1), (27, .aload_n 0, 1), (28, .invokevirtual 244, 3), (31, .istore_n 1, 1), (32, .aload_n 0, 1), (33, .dup, 1), (34, .getfield 190, 3), (37, .iconst 1, 1), (38, .isub, 1), (39, .putfield 190, 3), (42, .iload_n 1, 1), (43, .ifCond .ne 7, 3), (46, .iconst 1, 1), (47, .goto 4, 3), (50, .iconst 0, 1), (51, .ireturn, 1), (52, .aload_n 0, 1), (53, .invokevirtual 259, 3), (56, .istore_n 1, 1), (57, .aload_n 0, 1), (58, .bipush 60, 2), (60, .invokevirtual 220, 3), (63, .ifCond .ne 14, 3), (66, .aload_n 0, 1), (67, .bipush 61, 2)]
theorem zhX9_not4_0 : zd_chk (cX9_not4.data.toList.drop 0) 0 ziX9_not4_0 = true := by decide +kernel
theorem dX9_not4_0 : decode cX9_not4 0 = .ok (.aload_n 0, 1) := zd_at zhX9_not4_0 0 rfl
theorem dX9_not4_1 : decode cX9_not4 1 = .ok (.bipush 110, 2) := zd_at zhX9_not4_0 1 rfl
theorem dX9_not4_3 : decode cX9_not4 3 = .ok (.bipush 111, 2) := zd_at zhX9_not4_0 2 rfl
theorem dX9_not4_5 : decode cX9_not4 5 = .ok (.bipush 116, 2) := zd_at zhX9_not4_0 3 rfl
theorem dX9_not4_7 : decode cX9_not4 7 = .ok (.iconst 0, 1) := zd_at zhX9_not4_0 4 rfl
theorem dX9_not4_8 : decode cX9_not4 8 = .ok (.iconst 0, 1) := zd_at zhX9_not4_0 5 rfl
theorem dX9_not4_9 : decode cX9_not4 9 = .ok (.iconst 0, 1) := zd_at zhX9_not4_0 6 rfl
theorem dX9_not4_10 : decode cX9_not4 10 = .ok (.iconst 0, 1) := zd_at zhX9_not4_0 7 rfl
theorem dX9_not4_11 : decode cX9_not4 11 = .ok (.iconst 0, 1) := zd_at zhX9_not4_0 8 rfl
theorem dX9_not4_12 : decode cX9_not4 12 = .ok (.invokevirtual 199, 3) := zd_at zhX9_not4_0 9 rfl
theorem dX9_not4_15 : decode cX9_not4 15 = .ok (.ifCond .eq 37, 3) := zd_at zhX9_not4_0 10 rfl
theorem dX9_not4_18 : decode cX9_not4 18 = .ok (.aload_n 0, 1) := zd_at zhX9_not4_0 11 rfl
theorem dX9_not4_19 : decode cX9_not4 19 = .ok (.invokevirtual 223, 3) := zd_at zhX9_not4_0 12 rfl
theorem dX9_not4_22 : decode cX9_not4 22 = .ok (.ifCond .ne 5, 3) := zd_at zhX9_not4_0 13 rfl
theorem dX9_not4_25 : decode cX9_not4 25 = .ok (.iconst 0, 1) := zd_at zhX9_not4_0 14 rfl
theorem dX9_not4_26 : decode cX9_not4 26 = .ok (.ireturn, 1) := zd_at zhX9_not4_0 15 rfl
theorem dX9_not4_27 : decode cX9_not4 27 = .ok (.aload_n 0, 1) := zd_at zhX9_not4_0 16 rfl
theorem dX9_not4_28 : decode cX9_not4 28 = .ok (.invokevirtual 244, 3) := zd_at zhX9_not4_0 17 rfl
theorem dX9_not4_31 : decode cX9_not4 31 = .ok (.istore_n 1, 1) := zd_at zhX9_not4_0 18 rfl
theorem dX9_not4_32 : decode cX9_not4 32 = .ok (.aload_n 0, 1) := zd_at zhX9_not4_0 19 rfl
theorem dX9_not4_33 : decode cX9_not4 33 = .ok (.dup, 1) := zd_at zhX9_not4_0 20 rfl
theorem dX9_not4_34 : decode cX9_not4 34 = .ok (.getfield 190, 3) := zd_at zhX9_not4_0 21 rfl
theorem dX9_not4_37 : decode cX9_not4 37 = .ok (.iconst 1, 1) := zd_at zhX9_not4_0 22 rfl
theorem dX9_not4_38 : decode cX9_not4 38 = .ok (.isub, 1) := zd_at zhX9_not4_0 23 rfl
theorem dX9_not4_39 : decode cX9_not4 39 = .ok (.putfield 190, 3) := zd_at zhX9_not4_0 24 rfl
theorem dX9_not4_42 : decode cX9_not4 42 = .ok (.iload_n 1, 1) := zd_at zhX9_not4_0 25 rfl
theorem dX9_not4_43 : decode cX9_not4 43 = .ok (.ifCond .ne 7, 3) := zd_at zhX9_not4_0 26 rfl
theorem dX9_not4_46 : decode cX9_not4 46 = .ok (.iconst 1, 1) := zd_at zhX9_not4_0 27 rfl
theorem dX9_not4_47 : decode cX9_not4 47 = .ok (.goto 4, 3) := zd_at zhX9_not4_0 28 rfl
theorem dX9_not4_50 : decode cX9_not4 50 = .ok (.iconst 0, 1) := zd_at zhX9_not4_0 29 rfl
theorem dX9_not4_51 : decode cX9_not4 51 = .ok (.ireturn, 1) := zd_at zhX9_not4_0 30 rfl
theorem dX9_not4_52 : decode cX9_not4 52 = .ok (.aload_n 0, 1) := zd_at zhX9_not4_0 31 rfl
theorem dX9_not4_53 : decode cX9_not4 53 = .ok (.invokevirtual 259, 3) := zd_at zhX9_not4_0 32 rfl
theorem dX9_not4_56 : decode cX9_not4 56 = .ok (.istore_n 1, 1) := zd_at zhX9_not4_0 33 rfl
theorem dX9_not4_57 : decode cX9_not4 57 = .ok (.aload_n 0, 1) := zd_at zhX9_not4_0 34 rfl
theorem dX9_not4_58 : decode cX9_not4 58 = .ok (.bipush 60, 2) := zd_at zhX9_not4_0 35 rfl
theorem dX9_not4_60 : decode cX9_not4 60 = .ok (.invokevirtual 220, 3) := zd_at zhX9_not4_0 36 rfl
theorem dX9_not4_63 : decode cX9_not4 63 = .ok (.ifCond .ne 14, 3) := zd_at zhX9_not4_0 37 rfl
theorem dX9_not4_66 : decode cX9_not4 66 = .ok (.aload_n 0, 1) := zd_at zhX9_not4_0 38 rfl
theorem dX9_not4_67 : decode cX9_not4 67 = .ok (.bipush 61, 2) := zd_at zhX9_not4_0 39 rfl
def ziX9_not4_69 : List (Nat × Instr × Nat) := [(69, .invokevirtual 220, 3), (72, .ifCond .ne 5, 3), (75, .iload_n 1, 1), (76, .ireturn, 1), (77, .aload_n 0, 1), (78, .getfield 175, 3), (81, .ldc2_w 242, 3), (84, .lcmp, 1), (85, .ifCond .ne 7, 3), (88, .iconst 1, 1), (89, .goto 4, 3), (92, .iconst 0, 1), (93, .istore_n 2, 1), (94, .aload_n 0, 1), (95, .invokevirtual 196, 3), (98, .aload_n 0, 1), (99, .invokevirtual 259, 3), (102, .istore_n 3, 1), (103, .iload_n 2, 1), (104, .ifCond .eq 11, 3), (107, .iload_n 1, 1), (108, .iload_n 3, 1), (109, .if_icmp .ge 15, 3), (112, .goto 8, 3), (115, .iload_n 1, 1), (116, .iload_n 3, 1), (117, .if_icmp .ne 7, 3), (120, .iconst 1, 1), (121, .goto 4, 3), (124, .iconst 0, 1), (125, .ireturn, 1)]
theorem zhX9_not4_69 : zd_chk (cX9_not4.data.toList.drop 69) 69 ziX9_not4_69 = true := by decide +kernel
theorem dX9_not4_69 : decode cX9_not4 69 = .ok (.invokevirtual 220, 3) := zd_at zhX9_not4_69 0 rfl
theorem dX9_not4_72 : decode cX9_not4 72 = .ok (.ifCond .ne 5, 3) := zd_at zhX9_not4_69 1 rfl
theorem dX9_not4_75 : decode cX9_not4 75 = .ok (.iload_n 1, 1) := zd_at zhX9_not4_69 2 rfl
theorem dX9_not4_76 : decode cX9_not4 76 = .ok (.ireturn, 1) := zd_at zhX9_not4_69 3 rfl
theorem dX9_not4_77 : decode cX9_not4 77 = .ok (.aload_n 0, 1) := zd_at zhX9_not4_69 4 rfl
theorem dX9_not4_78 : decode cX9_not4 78 = .ok (.getfield 175, 3) := zd_at zhX9_not4_69 5 rfl
theorem dX9_not4_81 : decode cX9_not4 81 = .ok (.ldc2_w 242, 3) := zd_at zhX9_not4_69 6 rfl
theorem dX9_not4_84 : decode cX9_not4 84 = .ok (.lcmp, 1) := zd_at zhX9_not4_69 7 rfl
theorem dX9_not4_85 : decode cX9_not4 85 = .ok (.ifCond .ne 7, 3) := zd_at zhX9_not4_69 8 rfl
theorem dX9_not4_88 : decode cX9_not4 88 = .ok (.iconst 1, 1) := zd_at zhX9_not4_69 9 rfl
theorem dX9_not4_89 : decode cX9_not4 89 = .ok (.goto 4, 3) := zd_at zhX9_not4_69 10 rfl
theorem dX9_not4_92 : decode cX9_not4 92 = .ok (.iconst 0, 1) := zd_at zhX9_not4_69 11 rfl
theorem dX9_not4_93 : decode cX9_not4 93 = .ok (.istore_n 2, 1) := zd_at zhX9_not4_69 12 rfl
theorem dX9_not4_94 : decode cX9_not4 94 = .ok (.aload_n 0, 1) := zd_at zhX9_not4_69 13 rfl
theorem dX9_not4_95 : decode cX9_not4 95 = .ok (.invokevirtual 196, 3) := zd_at zhX9_not4_69 14 rfl
theorem dX9_not4_98 : decode cX9_not4 98 = .ok (.aload_n 0, 1) := zd_at zhX9_not4_69 15 rfl
theorem dX9_not4_99 : decode cX9_not4 99 = .ok (.invokevirtual 259, 3) := zd_at zhX9_not4_69 16 rfl
theorem dX9_not4_102 : decode cX9_not4 102 = .ok (.istore_n 3, 1) := zd_at zhX9_not4_69 17 rfl
theorem dX9_not4_103 : decode cX9_not4 103 = .ok (.iload_n 2, 1) := zd_at zhX9_not4_69 18 rfl
theorem dX9_not4_104 : decode cX9_not4 104 = .ok (.ifCond .eq 11, 3) := zd_at zhX9_not4_69 19 rfl
theorem dX9_not4_107 : decode cX9_not4 107 = .ok (.iload_n 1, 1) := zd_at zhX9_not4_69 20 rfl
theorem dX9_not4_108 : decode cX9_not4 108 = .ok (.iload_n 3, 1) := zd_at zhX9_not4_69 21 rfl
theorem dX9_not4_109 : decode cX9_not4 109 = .ok (.if_icmp .ge 15, 3) := zd_at zhX9_not4_69 22 rfl
theorem dX9_not4_112 : decode cX9_not4 112 = .ok (.goto 8, 3) := zd_at zhX9_not4_69 23 rfl
theorem dX9_not4_115 : decode cX9_not4 115 = .ok (.iload_n 1, 1) := zd_at zhX9_not4_69 24 rfl
theorem dX9_not4_116 : decode cX9_not4 116 = .ok (.iload_n 3, 1) := zd_at zhX9_not4_69 25 rfl
theorem dX9_not4_117 : decode cX9_not4 117 = .ok (.if_icmp .ne 7, 3) := zd_at zhX9_not4_69 26 rfl
theorem dX9_not4_120 : decode cX9_not4 120 = .ok (.iconst 1, 1) := zd_at zhX9_not4_69 27 rfl
theorem dX9_not4_121 : decode cX9_not4 121 = .ok (.goto 4, 3) := zd_at zhX9_not4_69 28 rfl
theorem dX9_not4_124 : decode cX9_not4 124 = .ok (.iconst 0, 1) := zd_at zhX9_not4_69 29 rfl
theorem dX9_not4_125 : decode cX9_not4 125 = .ok (.ireturn, 1) := zd_at zhX9_not4_69 30 rfl
def ziX9_both4_0 : List (Nat × Instr × Nat) := [(0, .aload_n 0, 1), (1, .invokevirtual 262, 3), (4, .istore_n 1, 1), (5, .aload_n 0, 1), (6, .bipush 97, 2), (8, .bipush 110, 2), (10, .bipush 100, 2), (12, .iconst 0, 1), (13, .iconst 0, 1), (14, .iconst 0, 1), (15, .iconst 0, 1), (16, .iconst 0, 1), (17, .invokevirtual 199, 3), (20, .ifCond .eq 29, 3), (23, .aload_n 0, 1), (24, .invokevirtual 196, 3), (27, .aload_n 0, 1), (28, .invokevirtual 262, 3), (31, .istore_n 2, 1), (32, .iload_n 1, 1), (33, .ifCond .eq 11, 3), (36, .iload_n 2, 1), (37, .ifCond .eq 7, 3), (40, .iconst 1, 1), (41, .goto 4, 3), (44, .iconst 0, 1), (45, .istore_n 1, 1), (46, .goto (-41), 3), (49, .iload_n 1, 1), (50, .ireturn, 1)]
theorem zhX9_both4_0 : zd_chk (cX9_both4.data.toList.drop 0) 0 ziX9_both4_0 = true := by decide +kernel
theorem dX9_both4_0 : decode cX9_both4 0 = .ok (.aload_n 0, 1) := zd_at zhX9_both4_0 0 rfl
theorem dX9_both4_1 : decode cX9_both4 1 = .ok (.invokevirtual 262, 3) := zd_at zhX9_both4_0 1 rfl
theorem dX9_both4_4 : decode cX9_both4 4 = .ok (.istore_n 1, 1) := zd_at zhX9_both4_0 2 rfl
theorem dX9_both4_5 : decode cX9_both4 5 = .ok (.aload_n 0, 1) := zd_at zhX9_both4_0 3 rfl
theorem dX9_both4_6 : decode cX9_both4 6 = .ok (.bipush 97, 2) := zd_at zhX9_both4_0 4 rfl
theorem dX9_both4_8 : decode cX9_both4 8 = .ok (.bipush 110, 2) := zd_at zhX9_both4_0 5 rfl
theorem dX9_both4_10 : decode cX9_both4 10 = .ok (.bipush 100, 2) := zd_at zhX9_both4_0 6 rfl
theorem dX9_both4_12 : decode cX9_both4 12 = .ok (.iconst 0, 1) := zd_at zhX9_both4_0 7 rfl
theorem dX9_both4_13 : decode cX9_both4 13 = .ok (.iconst 0, 1) := zd_at zhX9_both4_0 8 rfl
theorem dX9_both4_14 : decode cX9_both4 14 = .ok (.iconst 0, 1) := zd_at zhX9_both4_0 9 rfl
theorem dX9_both4_15 : decode cX9_both4 15 = .ok (.iconst 0, 1) := zd_at zhX9_both4_0 10 rfl
theorem dX9_both4_16 : decode cX9_both4 16 = .ok (.iconst 0, 1) := zd_at zhX9_both4_0 11 rfl
theorem dX9_both4_17 : decode cX9_both4 17 = .ok (.invokevirtual 199, 3) := zd_at zhX9_both4_0 12 rfl
theorem dX9_both4_20 : decode cX9_both4 20 = .ok (.ifCond .eq 29, 3) := zd_at zhX9_both4_0 13 rfl
theorem dX9_both4_23 : decode cX9_both4 23 = .ok (.aload_n 0, 1) := zd_at zhX9_both4_0 14 rfl
theorem dX9_both4_24 : decode cX9_both4 24 = .ok (.invokevirtual 196, 3) := zd_at zhX9_both4_0 15 rfl
theorem dX9_both4_27 : decode cX9_both4 27 = .ok (.aload_n 0, 1) := zd_at zhX9_both4_0 16 rfl
theorem dX9_both4_28 : decode cX9_both4 28 = .ok (.invokevirtual 262, 3) := zd_at zhX9_both4_0 17 rfl
theorem dX9_both4_31 : decode cX9_both4 31 = .ok (.istore_n 2, 1) := zd_at zhX9_both4_0 18 rfl
theorem dX9_both4_32 : decode cX9_both4 32 = .ok (.iload_n 1, 1) := zd_at zhX9_both4_0 19 rfl
theorem dX9_both4_33 : decode cX9_both4 33 = .ok (.ifCond .eq 11, 3) := zd_at zhX9_both4_0 20 rfl
theorem dX9_both4_36 : decode cX9_both4 36 = .ok (.iload_n 2, 1) := zd_at zhX9_both4_0 21 rfl
theorem dX9_both4_37 : decode cX9_both4 37 = .ok (.ifCond .eq 7, 3) := zd_at zhX9_both4_0 22 rfl
theorem dX9_both4_40 : decode cX9_both4 40 = .ok (.iconst 1, 1) := zd_at zhX9_both4_0 23 rfl
theorem dX9_both4_41 : decode cX9_both4 41 = .ok (.goto 4, 3) := zd_at zhX9_both4_0 24 rfl
theorem dX9_both4_44 : decode cX9_both4 44 = .ok (.iconst 0, 1) := zd_at zhX9_both4_0 25 rfl
theorem dX9_both4_45 : decode cX9_both4 45 = .ok (.istore_n 1, 1) := zd_at zhX9_both4_0 26 rfl
theorem dX9_both4_46 : decode cX9_both4 46 = .ok (.goto (-41), 3) := zd_at zhX9_both4_0 27 rfl
theorem dX9_both4_49 : decode cX9_both4 49 = .ok (.iload_n 1, 1) := zd_at zhX9_both4_0 28 rfl
theorem dX9_both4_50 : decode cX9_both4 50 = .ok (.ireturn, 1) := zd_at zhX9_both4_0 29 rfl
def ziX9_either4_0 : List (Nat × Instr × Nat) := [(0, .aload_n 0, 1), (1, .invokevirtual 265, 3), (4, .istore_n 1, 1), (5, .aload_n 0, 1), (6, .bipush 111, 2), (8, .bipush 114, 2), (10, .iconst 0, 1), (11, .iconst 0, 1), (12, .iconst 0, 1), (13, .iconst 0, 1), (14, .iconst 0, 1), (15, .iconst 0, 1), (16, .invokevirtual 199, 3), (19, .ifCond .eq 29, 3), (22, .aload_n 0, 1), (23, .invokevirtual 196, 3), (26, .aload_n 0, 1), (27, .invokevirtual 265, 3), (30, .istore_n 2, 1), (31, .iload_n 1, 1), (32, .ifCond .ne 7, 3), (35, .iload_n 2, 1), (36, .ifCond .eq 7, 3), (39, .iconst 1, 1), (40, .goto 4, 3), (43, .iconst 0, 1), (44, .istore_n 1, 1), (45, .goto (-40), 3), (48, .iload_n 1, 1), (49, .ireturn, 1)]
theorem zhX9_either4_0 : zd_chk (cX9_either4.data.toList.drop 0) 0 ziX9_either4_0 = true := by decide +kernel
theorem dX9_either4_0 : decode cX9_either4 0 = .ok (.aload_n 0, 1) := zd_at zhX9_either4_0 0 rfl
theorem dX9_either4_1 : decode cX9_either4 1 = .ok (.invokevirtual 265, 3) := zd_at zhX9_either4_0 1 rfl
theorem dX9_either4_4 : decode cX9_either4 4 = .ok (.istore_n 1, 1) := zd_at zhX9_either4_0 2 rfl
theorem dX9_either4_5 : decode cX9_either4 5 = .ok (.aload_n 0, 1) := zd_at zhX9_either4_0 3 rfl
theorem dX9_either4_6 : decode cX9_either4 6 = .ok (.bipush 111, 2) := zd_at zhX9_either4_0 4 rfl
theorem dX9_either4_8 : decode cX9_either4 8 = .ok (.bipush 114, 2) := zd_at zhX9_either4_0 5 rfl
theorem dX9_either4_10 : decode cX9_either4 10 = .ok (.iconst 0, 1) := zd_at zhX9_either4_0 6 rfl
theorem dX9_either4_11 : decode cX9_either4 11 = .ok (.iconst 0, 1) := zd_at zhX9_either4_0 7 rfl
theorem dX9_either4_12 : decode cX9_either4 12 = .ok (.iconst 0, 1) := zd_at zhX9_either4_0 8 rfl
theorem dX9_either4_13 : decode cX9_either4 13 = .ok (.iconst 0, 1) := zd_at zhX9_either4_0 9 rfl
theorem dX9_either4_14 : decode cX9_either4 14 = .ok (.iconst 0, 1) := zd_at zhX9_either4_0 10 rfl
theorem dX9_either4_15 : decode cX9_either4 15 = .ok (.iconst 0, 1) := zd_at zhX9_either4_0 11 rfl
theorem dX9_either4_16 : decode cX9_either4 16 = .ok (.invokevirtual 199, 3) := zd_at zhX9_either4_0 12 rfl
theorem dX9_either4_19 : decode cX9_either4 19 = .ok (.ifCond .eq 29, 3) := zd_at zhX9_either4_0 13 rfl
theorem dX9_either4_22 : decode cX9_either4 22 = .ok (.aload_n 0, 1) := zd_at zhX9_either4_0 14 rfl
theorem dX9_either4_23 : decode cX9_either4 23 = .ok (.invokevirtual 196, 3) := zd_at zhX9_either4_0 15 rfl
theorem dX9_either4_26 : decode cX9_either4 26 = .ok (.aload_n 0, 1) := zd_at zhX9_either4_0 16 rfl
theorem dX9_either4_27 : decode cX9_either4 27 = .ok (.invokevirtual 265, 3) := zd_at zhX9_either4_0 17 rfl
theorem dX9_either4_30 : decode cX9_either4 30 = .ok (.istore_n 2, 1) := zd_at zhX9_either4_0 18 rfl
theorem dX9_either4_31 : decode cX9_either4 31 = .ok (.iload_n 1, 1) := zd_at zhX9_either4_0 19 rfl
theorem dX9_either4_32 : decode cX9_either4 32 = .ok (.ifCond .ne 7, 3) := zd_at zhX9_either4_0 20 rfl
theorem dX9_either4_35 : decode cX9_either4 35 = .ok (.iload_n 2, 1) := zd_at zhX9_either4_0 21 rfl
theorem dX9_either4_36 : decode cX9_either4 36 = .ok (.ifCond .eq 7, 3) := zd_at zhX9_either4_0 22 rfl
theorem dX9_either4_39 : decode cX9_either4 39 = .ok (.iconst 1, 1) := zd_at zhX9_either4_0 23 rfl
theorem dX9_either4_40 : decode cX9_either4 40 = .ok (.goto 4, 3) := zd_at zhX9_either4_0 24 rfl
theorem dX9_either4_43 : decode cX9_either4 43 = .ok (.iconst 0, 1) := zd_at zhX9_either4_0 25 rfl
theorem dX9_either4_44 : decode cX9_either4 44 = .ok (.istore_n 1, 1) := zd_at zhX9_either4_0 26 rfl
theorem dX9_either4_45 : decode cX9_either4 45 = .ok (.goto (-40), 3) := zd_at zhX9_either4_0 27 rfl
theorem dX9_either4_48 : decode cX9_either4 48 = .ok (.iload_n 1, 1) := zd_at zhX9_either4_0 28 rfl
theorem dX9_either4_49 : decode cX9_either4 49 = .ok (.ireturn, 1) := zd_at zhX9_either4_0 29 rfl
def ziX9_atom3_0 : List (Nat × Instr × Nat) := [(0, .iconst 0, 1), (1, .istore_n 1, 1), (2, .aload_n 0, 1), (3, .bipush 45, 2), (5, .invokevirtual 220, 3), (8, .ifCond .eq 29, 3), (11, .aload_n 0, 1), (12, .invokevirtual 223, 3), (15, .ifCond .eq 146, 3), (18, .aload_n 0, 1), (19, .invokevirtual 253, 3), (22, .ineg, 1), (23, .istore_n 1, 1), (24, .aload_n 0, 1), (25, .dup, 1), (26, .getfield 190, 3), (29, .iconst 1, 1), (30, .isub, 1), (31, .putfield 190, 3), (34, .goto 127, 3), (37, .aload_n 0, 1), (38, .bipush 40, 2), (40, .invokevirtual 220, 3), (43, .ifCond .eq 52, 3), (46, .aload_n 0, 1), (47, .invokevirtual 223, 3), (50, .ifCond .eq 111, 3), (53, .aload_n 0, 1), (54, .invokevirtual 268, 3), (57, .istore_n 1, 1), (58, .aload_n 0, 1), (59, .bipush 41, 2), (61, .invokevirtual 220, 3), (64, .ifCond .ne 7, 3), (67, .aload_n 0, 1), (68, .invokevirtual 193, 3), (71, .aload_n 0, 1), (72, .dup, 1), (73, .getfield 190, 3), (76, .iconst 1, 1)]
theorem zhX9_atom3_0 : zd_chk (cX9_atom3.data.toList.drop 0) 0 ziX9_atom3_0 = true := by decide +kernel
theorem dX9_atom3_0 : decode cX9_atom3 0 = .ok (.iconst 0, 1) := zd_at zhX9_atom3_0 0 rfl
theorem dX9_atom3_1 : decode cX9_atom3 1 = .ok (.istore_n 1, 1) := zd_at zhX9_atom3_0 1 rfl
theorem dX9_atom3_2 : decode cX9_atom3 2 = .ok (.aload_n 0, 1) := zd_at zhX9_atom3_0 2 rfl
theorem dX9_atom3_3 : decode cX9_atom3 3 = .ok (.bipush 45, 2) := zd_at zhX9_atom3_0 3 rfl
theorem dX9_atom3_5 : decode cX9_atom3 5 = .ok (.invokevirtual 220, 3) := zd_at zhX9_atom3_0 4 rfl
theorem dX9_atom3_8 : decode cX9_atom3 8 = .ok (.ifCond .eq 29, 3) := zd_at zhX9_atom3_0 5 rfl
theorem dX9_atom3_11 : decode cX9_atom3 11 = .ok (.aload_n 0, 1) := zd_at zhX9_atom3_0 6 rfl
theorem dX9_atom3_12 : decode cX9_atom3 12 = .ok (.invokevirtual 223, 3) := zd_at zhX9_atom3_0 7 rfl
theorem dX9_atom3_15 : decode cX9_atom3 15 = .ok (.ifCond .eq 146, 3) := zd_at zhX9_atom3_0 8 rfl
theorem dX9_atom3_18 : decode cX9_atom3 18 = .ok (.aload_n 0, 1) := zd_at zhX9_atom3_0 9 rfl
theorem dX9_atom3_19 : decode cX9_atom3 19 = .ok (.invokevirtual 253, 3) := zd_at zhX9_atom3_0 10 rfl
theorem dX9_atom3_22 : decode cX9_atom3 22 = .ok (.ineg, 1) := zd_at zhX9_atom3_0 11 rfl
theorem dX9_atom3_23 : decode cX9_atom3 23 = .ok (.istore_n 1, 1) := zd_at zhX9_atom3_0 12 rfl
theorem dX9_atom3_24 : decode cX9_atom3 24 = .ok (.aload_n 0, 1) := zd_at zhX9_atom3_0 13 rfl
theorem dX9_atom3_25 : decode cX9_atom3 25 = .ok (.dup, 1) := zd_at zhX9_atom3_0 14 rfl
theorem dX9_atom3_26 : decode cX9_atom3 26 = .ok (.getfield 190, 3) := zd_at zhX9_atom3_0 15 rfl
theorem dX9_atom3_29 : decode cX9_atom3 29 = .ok (.iconst 1, 1) := zd_at zhX9_atom3_0 16 rfl
theorem dX9_atom3_30 : decode cX9_atom3 30 = .ok (.isub, 1) := zd_at zhX9_atom3_0 17 rfl
theorem dX9_atom3_31 : decode cX9_atom3 31 = .ok (.putfield 190, 3) := zd_at zhX9_atom3_0 18 rfl
theorem dX9_atom3_34 : decode cX9_atom3 34 = .ok (.goto 127, 3) := zd_at zhX9_atom3_0 19 rfl
theorem dX9_atom3_37 : decode cX9_atom3 37 = .ok (.aload_n 0, 1) := zd_at zhX9_atom3_0 20 rfl
theorem dX9_atom3_38 : decode cX9_atom3 38 = .ok (.bipush 40, 2) := zd_at zhX9_atom3_0 21 rfl
theorem dX9_atom3_40 : decode cX9_atom3 40 = .ok (.invokevirtual 220, 3) := zd_at zhX9_atom3_0 22 rfl
theorem dX9_atom3_43 : decode cX9_atom3 43 = .ok (.ifCond .eq 52, 3) := zd_at zhX9_atom3_0 23 rfl
theorem dX9_atom3_46 : decode cX9_atom3 46 = .ok (.aload_n 0, 1) := zd_at zhX9_atom3_0 24 rfl
theorem dX9_atom3_47 : decode cX9_atom3 47 = .ok (.invokevirtual 223, 3) := zd_at zhX9_atom3_0 25 rfl
theorem dX9_atom3_50 : decode cX9_atom3 50 = .ok (.ifCond .eq 111, 3) := zd_at zhX9_atom3_0 26 rfl
theorem dX9_atom3_53 : decode cX9_atom3 53 = .ok (.aload_n 0, 1) := zd_at zhX9_atom3_0 27 rfl
theorem dX9_atom3_54 : decode cX9_atom3 54 = .ok (.invokevirtual 268, 3) := zd_at zhX9_atom3_0 28 rfl
theorem dX9_atom3_57 : decode cX9_atom3 57 = .ok (.istore_n 1, 1) := zd_at zhX9_atom3_0 29 rfl
theorem dX9_atom3_58 : decode cX9_atom3 58 = .ok (.aload_n 0, 1) := zd_at zhX9_atom3_0 30 rfl
theorem dX9_atom3_59 : decode cX9_atom3 59 = .ok (.bipush 41, 2) := zd_at zhX9_atom3_0 31 rfl
theorem dX9_atom3_61 : decode cX9_atom3 61 = .ok (.invokevirtual 220, 3) := zd_at zhX9_atom3_0 32 rfl
theorem dX9_atom3_64 : decode cX9_atom3 64 = .ok (.ifCond .ne 7, 3) := zd_at zhX9_atom3_0 33 rfl
theorem dX9_atom3_67 : decode cX9_atom3 67 = .ok (.aload_n 0, 1) := zd_at zhX9_atom3_0 34 rfl
theorem dX9_atom3_68 : decode cX9_atom3 68 = .ok (.invokevirtual 193, 3) := zd_at zhX9_atom3_0 35 rfl
theorem dX9_atom3_71 : decode cX9_atom3 71 = .ok (.aload_n 0, 1) := zd_at zhX9_atom3_0 36 rfl
theorem dX9_atom3_72 : decode cX9_atom3 72 = .ok (.dup, 1) := zd_at zhX9_atom3_0 37 rfl
theorem dX9_atom3_73 : decode cX9_atom3 73 = .ok (.getfield 190, 3) := zd_at zhX9_atom3_0 38 rfl
theorem dX9_atom3_76 : decode cX9_atom3 76 = .ok (.iconst 1, 1) := zd_at zhX9_atom3_0 39 rfl
def ziX9_atom3_77 : List (Nat × Instr × Nat) := [(77, .isub, 1), (78, .putfield 190, 3), (81, .aload_n 0, 1), (82, .getfield 179, 3), (85, .ifCond .ne 76, 3), (88, .aload_n 0, 1), (89, .invokevirtual 196, 3), (92, .goto 69, 3), (95, .aload_n 0, 1), (96, .getfield 179, 3), (99, .ifCond .ne 24, 3), (102, .aload_n 0, 1), (103, .getfield 164, 3), (106, .iconst 2, 1), (107, .if_icmp .ne 16, 3), (110, .aload_n 0, 1), (111, .getfield 175, 3), (114, .l2i, 1), (115, .istore_n 1, 1), (116, .aload_n 0, 1), (117, .invokevirtual 196, 3), (120, .goto 41, 3), (123, .aload_n 0, 1), (124, .getfield 179, 3), (127, .ifCond .ne 30, 3), (130, .aload_n 0, 1), (131, .getfield 164, 3), (134, .iconst 1, 1), (135, .if_icmp .ne 22, 3), (138, .aload_n 0, 1), (139, .invokevirtual 227, 3), (142, .istore_n 1, 1), (143, .aload_n 0, 1), (144, .getfield 179, 3), (147, .ifCond .ne 14, 3), (150, .aload_n 0, 1), (151, .invokevirtual 196, 3), (154, .goto 7, 3), (157, .aload_n 0, 1), (158, .invokevirtual 193, 3)]
theorem zhX9_atom3_77 : zd_chk (cX9_atom3.data.toList.drop 77) 77 ziX9_atom3_77 = true := by decide +kernel
theorem dX9_atom3_77 : decode cX9_atom3 77 = .ok (.isub, 1) := zd_at zhX9_atom3_77 0 rfl
theorem dX9_atom3_78 : decode cX9_atom3 78 = .ok (.putfield 190, 3) := zd_at zhX9_atom3_77 1 rfl
theorem dX9_atom3_81 : decode cX9_atom3 81 = .ok (.aload_n 0, 1) := zd_at zhX9_atom3_77 2 rfl
theorem dX9_atom3_82 : decode cX9_atom3 82 = .ok (.getfield 179, 3) := zd_at zhX9_atom3_77 3 rfl
theorem dX9_atom3_85 : decode cX9_atom3 85 = .ok (.ifCond .ne 76, 3) := zd_at zhX9_atom3_77 4 rfl
theorem dX9_atom3_88 : decode cX9_atom3 88 = .ok (.aload_n 0, 1) := zd_at zhX9_atom3_77 5 rfl
theorem dX9_atom3_89 : decode cX9_atom3 89 = .ok (.invokevirtual 196, 3) := zd_at zhX9_atom3_77 6 rfl
theorem dX9_atom3_92 : decode cX9_atom3 92 = .ok (.goto 69, 3) := zd_at zhX9_atom3_77 7 rfl
theorem dX9_atom3_95 : decode cX9_atom3 95 = .ok (.aload_n 0, 1) := zd_at zhX9_atom3_77 8 rfl
theorem dX9_atom3_96 : decode cX9_atom3 96 = .ok (.getfield 179, 3) := zd_at zhX9_atom3_77 9 rfl
theorem dX9_atom3_99 : decode cX9_atom3 99 = .ok (.ifCond .ne 24, 3) := zd_at zhX9_atom3_77 10 rfl
theorem dX9_atom3_102 : decode cX9_atom3 102 = .ok (.aload_n 0, 1) := zd_at zhX9_atom3_77 11 rfl
theorem dX9_atom3_103 : decode cX9_atom3 103 = .ok (.getfield 164, 3) := zd_at zhX9_atom3_77 12 rfl
theorem dX9_atom3_106 : decode cX9_atom3 106 = .ok (.iconst 2, 1) := zd_at zhX9_atom3_77 13 rfl
theorem dX9_atom3_107 : decode cX9_atom3 107 = .ok (.if_icmp .ne 16, 3) := zd_at zhX9_atom3_77 14 rfl
theorem dX9_atom3_110 : decode cX9_atom3 110 = .ok (.aload_n 0, 1) := zd_at zhX9_atom3_77 15 rfl
theorem dX9_atom3_111 : decode cX9_atom3 111 = .ok (.getfield 175, 3) := zd_at zhX9_atom3_77 16 rfl
theorem dX9_atom3_114 : decode cX9_atom3 114 = .ok (.l2i, 1) := zd_at zhX9_atom3_77 17 rfl
theorem dX9_atom3_115 : decode cX9_atom3 115 = .ok (.istore_n 1, 1) := zd_at zhX9_atom3_77 18 rfl
theorem dX9_atom3_116 : decode cX9_atom3 116 = .ok (.aload_n 0, 1) := zd_at zhX9_atom3_77 19 rfl
theorem dX9_atom3_117 : decode cX9_atom3 117 = .ok (.invokevirtual 196, 3) := zd_at zhX9_atom3_77 20 rfl
theorem dX9_atom3_120 : decode cX9_atom3 120 = .ok (.goto 41, 3) := zd_at zhX9_atom3_77 21 rfl
theorem dX9_atom3_123 : decode cX9_atom3 123 = .ok (.aload_n 0, 1) := zd_at zhX9_atom3_77 22 rfl
theorem dX9_atom3_124 : decode cX9_atom3 124 = .ok (.getfield 179, 3) := zd_at zhX9_atom3_77 23 rfl
theorem dX9_atom3_127 : decode cX9_atom3 127 = .ok (.ifCond .ne 30, 3) := zd_at zhX9_atom3_77 24 rfl
theorem dX9_atom3_130 : decode cX9_atom3 130 = .ok (.aload_n 0, 1) := zd_at zhX9_atom3_77 25 rfl
theorem dX9_atom3_131 : decode cX9_atom3 131 = .ok (.getfield 164, 3) := zd_at zhX9_atom3_77 26 rfl
theorem dX9_atom3_134 : decode cX9_atom3 134 = .ok (.iconst 1, 1) := zd_at zhX9_atom3_77 27 rfl
theorem dX9_atom3_135 : decode cX9_atom3 135 = .ok (.if_icmp .ne 22, 3) := zd_at zhX9_atom3_77 28 rfl
theorem dX9_atom3_138 : decode cX9_atom3 138 = .ok (.aload_n 0, 1) := zd_at zhX9_atom3_77 29 rfl
theorem dX9_atom3_139 : decode cX9_atom3 139 = .ok (.invokevirtual 227, 3) := zd_at zhX9_atom3_77 30 rfl
theorem dX9_atom3_142 : decode cX9_atom3 142 = .ok (.istore_n 1, 1) := zd_at zhX9_atom3_77 31 rfl
theorem dX9_atom3_143 : decode cX9_atom3 143 = .ok (.aload_n 0, 1) := zd_at zhX9_atom3_77 32 rfl
theorem dX9_atom3_144 : decode cX9_atom3 144 = .ok (.getfield 179, 3) := zd_at zhX9_atom3_77 33 rfl
theorem dX9_atom3_147 : decode cX9_atom3 147 = .ok (.ifCond .ne 14, 3) := zd_at zhX9_atom3_77 34 rfl
theorem dX9_atom3_150 : decode cX9_atom3 150 = .ok (.aload_n 0, 1) := zd_at zhX9_atom3_77 35 rfl
theorem dX9_atom3_151 : decode cX9_atom3 151 = .ok (.invokevirtual 196, 3) := zd_at zhX9_atom3_77 36 rfl
theorem dX9_atom3_154 : decode cX9_atom3 154 = .ok (.goto 7, 3) := zd_at zhX9_atom3_77 37 rfl
theorem dX9_atom3_157 : decode cX9_atom3 157 = .ok (.aload_n 0, 1) := zd_at zhX9_atom3_77 38 rfl
theorem dX9_atom3_158 : decode cX9_atom3 158 = .ok (.invokevirtual 193, 3) := zd_at zhX9_atom3_77 39 rfl
def ziX9_atom3_161 : List (Nat × Instr × Nat) := [(161, .iload_n 1, 1), (162, .ireturn, 1)]
theorem zhX9_atom3_161 : zd_chk (cX9_atom3.data.toList.drop 161) 161 ziX9_atom3_161 = true := by decide +kernel
theorem dX9_atom3_161 : decode cX9_atom3 161 = .ok (.iload_n 1, 1) := zd_at zhX9_atom3_161 0 rfl
theorem dX9_atom3_162 : decode cX9_atom3 162 = .ok (.ireturn, 1) := zd_at zhX9_atom3_161 1 rfl
def ziX9_term3_0 : List (Nat × Instr × Nat) := [(0, .aload_n 0, 1), (1, .invokevirtual 271, 3), (4, .istore_n 1, 1), (5, .aload_n 0, 1), (6, .bipush 42, 2), (8, .invokevirtual 220, 3), (11, .ifCond .eq 17, 3), (14, .aload_n 0, 1), (15, .invokevirtual 196, 3), (18, .iload_n 1, 1), (19, .aload_n 0, 1), (20, .invokevirtual 271, 3), (23, .imul, 1), (24, .istore_n 1, 1), (25, .goto (-20), 3), (28, .iload_n 1, 1), (29, .ireturn, 1)]
theorem zhX9_term3_0 : zd_chk (cX9_term3.data.toList.drop 0) 0 ziX9_term3_0 = true := by decide +kernel
theorem dX9_term3_0 : decode cX9_term3 0 = .ok (.aload_n 0, 1) := zd_at zhX9_term3_0 0 rfl
theorem dX9_term3_1 : decode cX9_term3 1 = .ok (.invokevirtual 271, 3) := zd_at zhX9_term3_0 1 rfl
theorem dX9_term3_4 : decode cX9_term3 4 = .ok (.istore_n 1, 1) := zd_at zhX9_term3_0 2 rfl
theorem dX9_term3_5 : decode cX9_term3 5 = .ok (.aload_n 0, 1) := zd_at zhX9_term3_0 3 rfl
theorem dX9_term3_6 : decode cX9_term3 6 = .ok (.bipush 42, 2) := zd_at zhX9_term3_0 4 rfl
theorem dX9_term3_8 : decode cX9_term3 8 = .ok (.invokevirtual 220, 3) := zd_at zhX9_term3_0 5 rfl
theorem dX9_term3_11 : decode cX9_term3 11 = .ok (.ifCond .eq 17, 3) := zd_at zhX9_term3_0 6 rfl
theorem dX9_term3_14 : decode cX9_term3 14 = .ok (.aload_n 0, 1) := zd_at zhX9_term3_0 7 rfl
theorem dX9_term3_15 : decode cX9_term3 15 = .ok (.invokevirtual 196, 3) := zd_at zhX9_term3_0 8 rfl
theorem dX9_term3_18 : decode cX9_term3 18 = .ok (.iload_n 1, 1) := zd_at zhX9_term3_0 9 rfl
theorem dX9_term3_19 : decode cX9_term3 19 = .ok (.aload_n 0, 1) := zd_at zhX9_term3_0 10 rfl
theorem dX9_term3_20 : decode cX9_term3 20 = .ok (.invokevirtual 271, 3) := zd_at zhX9_term3_0 11 rfl
theorem dX9_term3_23 : decode cX9_term3 23 = .ok (.imul, 1) := zd_at zhX9_term3_0 12 rfl
theorem dX9_term3_24 : decode cX9_term3 24 = .ok (.istore_n 1, 1) := zd_at zhX9_term3_0 13 rfl
theorem dX9_term3_25 : decode cX9_term3 25 = .ok (.goto (-20), 3) := zd_at zhX9_term3_0 14 rfl
theorem dX9_term3_28 : decode cX9_term3 28 = .ok (.iload_n 1, 1) := zd_at zhX9_term3_0 15 rfl
theorem dX9_term3_29 : decode cX9_term3 29 = .ok (.ireturn, 1) := zd_at zhX9_term3_0 16 rfl
def ziX9_added3_0 : List (Nat × Instr × Nat) := [(0, .aload_n 0, 1), (1, .invokevirtual 274, 3), (4, .istore_n 1, 1), (5, .aload_n 0, 1), (6, .bipush 43, 2), (8, .invokevirtual 220, 3), (11, .ifCond .ne 12, 3), (14, .aload_n 0, 1), (15, .bipush 45, 2), (17, .invokevirtual 220, 3), (20, .ifCond .eq 46, 3), (23, .aload_n 0, 1), (24, .getfield 175, 3), (27, .ldc2_w 237, 3), (30, .lcmp, 1), (31, .ifCond .ne 7, 3), (34, .iconst 1, 1), (35, .goto 4, 3), (38, .iconst 0, 1), (39, .istore_n 2, 1), (40, .aload_n 0, 1), (41, .invokevirtual 196, 3), (44, .aload_n 0, 1), (45, .invokevirtual 274, 3), (48, .istore_n 3, 1), (49, .iload_n 2, 1), (50, .ifCond .eq 9, 3), (53, .iload_n 1, 1), (54, .iload_n 3, 1), (55, .iadd, 1), (56, .goto 6, 3), (59, .iload_n 1, 1), (60, .iload_n 3, 1), (61, .isub, 1), (62, .istore_n 1, 1), (63, .goto (-58), 3), (66, .iload_n 1, 1), (67, .ireturn, 1)]
theorem zhX9_added3_0 : zd_chk (cX9_added3.data.toList.drop 0) 0 ziX9_added3_0 = true := by decide +kernel
theorem dX9_added3_0 : decode cX9_added3 0 = .ok (.aload_n 0, 1) := zd_at zhX9_added3_0 0 rfl
theorem dX9_added3_1 : decode cX9_added3 1 = .ok (.invokevirtual 274, 3) := zd_at zhX9_added3_0 1 rfl
theorem dX9_added3_4 : decode cX9_added3 4 = .ok (.istore_n 1, 1) := zd_at zhX9_added3_0 2 rfl
theorem dX9_added3_5 : decode cX9_added3 5 = .ok (.aload_n 0, 1) := zd_at zhX9_added3_0 3 rfl
theorem dX9_added3_6 : decode cX9_added3 6 = .ok (.bipush 43, 2) := zd_at zhX9_added3_0 4 rfl
theorem dX9_added3_8 : decode cX9_added3 8 = .ok (.invokevirtual 220, 3) := zd_at zhX9_added3_0 5 rfl
theorem dX9_added3_11 : decode cX9_added3 11 = .ok (.ifCond .ne 12, 3) := zd_at zhX9_added3_0 6 rfl
theorem dX9_added3_14 : decode cX9_added3 14 = .ok (.aload_n 0, 1) := zd_at zhX9_added3_0 7 rfl
theorem dX9_added3_15 : decode cX9_added3 15 = .ok (.bipush 45, 2) := zd_at zhX9_added3_0 8 rfl
theorem dX9_added3_17 : decode cX9_added3 17 = .ok (.invokevirtual 220, 3) := zd_at zhX9_added3_0 9 rfl
theorem dX9_added3_20 : decode cX9_added3 20 = .ok (.ifCond .eq 46, 3) := zd_at zhX9_added3_0 10 rfl
theorem dX9_added3_23 : decode cX9_added3 23 = .ok (.aload_n 0, 1) := zd_at zhX9_added3_0 11 rfl
theorem dX9_added3_24 : decode cX9_added3 24 = .ok (.getfield 175, 3) := zd_at zhX9_added3_0 12 rfl
theorem dX9_added3_27 : decode cX9_added3 27 = .ok (.ldc2_w 237, 3) := zd_at zhX9_added3_0 13 rfl
theorem dX9_added3_30 : decode cX9_added3 30 = .ok (.lcmp, 1) := zd_at zhX9_added3_0 14 rfl
theorem dX9_added3_31 : decode cX9_added3 31 = .ok (.ifCond .ne 7, 3) := zd_at zhX9_added3_0 15 rfl
theorem dX9_added3_34 : decode cX9_added3 34 = .ok (.iconst 1, 1) := zd_at zhX9_added3_0 16 rfl
theorem dX9_added3_35 : decode cX9_added3 35 = .ok (.goto 4, 3) := zd_at zhX9_added3_0 17 rfl
theorem dX9_added3_38 : decode cX9_added3 38 = .ok (.iconst 0, 1) := zd_at zhX9_added3_0 18 rfl
theorem dX9_added3_39 : decode cX9_added3 39 = .ok (.istore_n 2, 1) := zd_at zhX9_added3_0 19 rfl
theorem dX9_added3_40 : decode cX9_added3 40 = .ok (.aload_n 0, 1) := zd_at zhX9_added3_0 20 rfl
theorem dX9_added3_41 : decode cX9_added3 41 = .ok (.invokevirtual 196, 3) := zd_at zhX9_added3_0 21 rfl
theorem dX9_added3_44 : decode cX9_added3 44 = .ok (.aload_n 0, 1) := zd_at zhX9_added3_0 22 rfl
theorem dX9_added3_45 : decode cX9_added3 45 = .ok (.invokevirtual 274, 3) := zd_at zhX9_added3_0 23 rfl
theorem dX9_added3_48 : decode cX9_added3 48 = .ok (.istore_n 3, 1) := zd_at zhX9_added3_0 24 rfl
theorem dX9_added3_49 : decode cX9_added3 49 = .ok (.iload_n 2, 1) := zd_at zhX9_added3_0 25 rfl
theorem dX9_added3_50 : decode cX9_added3 50 = .ok (.ifCond .eq 9, 3) := zd_at zhX9_added3_0 26 rfl
theorem dX9_added3_53 : decode cX9_added3 53 = .ok (.iload_n 1, 1) := zd_at zhX9_added3_0 27 rfl
theorem dX9_added3_54 : decode cX9_added3 54 = .ok (.iload_n 3, 1) := zd_at zhX9_added3_0 28 rfl
theorem dX9_added3_55 : decode cX9_added3 55 = .ok (.iadd, 1) := zd_at zhX9_added3_0 29 rfl
theorem dX9_added3_56 : decode cX9_added3 56 = .ok (.goto 6, 3) := zd_at zhX9_added3_0 30 rfl
theorem dX9_added3_59 : decode cX9_added3 59 = .ok (.iload_n 1, 1) := zd_at zhX9_added3_0 31 rfl
theorem dX9_added3_60 : decode cX9_added3 60 = .ok (.iload_n 3, 1) := zd_at zhX9_added3_0 32 rfl
theorem dX9_added3_61 : decode cX9_added3 61 = .ok (.isub, 1) := zd_at zhX9_added3_0 33 rfl
theorem dX9_added3_62 : decode cX9_added3 62 = .ok (.istore_n 1, 1) := zd_at zhX9_added3_0 34 rfl
theorem dX9_added3_63 : decode cX9_added3 63 = .ok (.goto (-58), 3) := zd_at zhX9_added3_0 35 rfl
theorem dX9_added3_66 : decode cX9_added3 66 = .ok (.iload_n 1, 1) := zd_at zhX9_added3_0 36 rfl
theorem dX9_added3_67 : decode cX9_added3 67 = .ok (.ireturn, 1) := zd_at zhX9_added3_0 37 rfl
def ziX9_not3_0 : List (Nat × Instr × Nat) := [(0, .aload_n 0, 1), (1, .bipush 110, 2), (3, .bipush 111, 2), (5, .bipush 116, 2), (7, .iconst 0, 1), (8, .iconst 0, 1), (9, .iconst 0, 1), (10, .iconst 0, 1), (11, .iconst 0, 1), (12, .invokevirtual 199, 3), (15, .ifCond .eq 37, 3), (18, .aload_n 0, 1), (19, .invokevirtual 223, 3), (22, .ifCond .ne 5, 3), (25, .iconst 0, 1), (26, .ireturn, 1), (27, .aload_n 0, 1), (28, .invokevirtual 262, 3), (31, .istore_n 1, 1), (32, .aload_n 0, 1), (33, .dup, 1), (34, .getfield 190, 3), (37, .iconst 1, 1), (38, .isub, 1), (39, .putfield 190, 3), (42, .iload_n 1, 1), (43, .ifCond .ne 7, 3), (46, .iconst 1, 1), (47, .goto 4, 3), (50, .iconst 0, 1), (51, .ireturn, 1), (52, .aload_n 0, 1), (53, .invokevirtual 277, 3), (56, .istore_n 1, 1), (57, .aload_n 0, 1), (58, .bipush 60, 2), (60, .invokevirtual 220, 3), (63, .ifCond .ne 14, 3), (66, .aload_n 0, 1), (67, .bipush 61, 2)]
theorem zhX9_not3_0 : zd_chk (cX9_not3.data.toList.drop 0) 0 ziX9_not3_0 = true := by decide +kernel
theorem dX9_not3_0 : decode cX9_not3 0 = .ok (.aload_n 0, 1) := zd_at zhX9_not3_0 0 rfl
theorem dX9_not3_1 : decode cX9_not3 1 = .ok (.bipush 110, 2) := zd_at zhX9_not3_0 1 rfl
theorem dX9_not3_3 : decode cX9_not3 3 = .ok (.bipush 111, 2) := zd_at zhX9_not3_0 2 rfl
theorem dX9_not3_5 : decode cX9_not3 5 = .ok (.bipush 116, 2) := zd_at zhX9_not3_0 3 rfl
theorem dX9_not3_7 : decode cX9_not3 7 = .ok (.iconst 0, 1) := zd_at zhX9_not3_0 4 rfl
theorem dX9_not3_8 : decode cX9_not3 8 = .ok (.iconst 0, 1) := zd_at zhX9_not3_0 5 rfl
theorem dX9_not3_9 : decode cX9_not3 9 = .ok (.iconst 0, 1) := zd_at zhX9_not3_0 6 rfl
theorem dX9_not3_10 : decode cX9_not3 10 = .ok (.iconst 0, 1) := zd_at zhX9_not3_0 7 rfl
theorem dX9_not3_11 : decode cX9_not3 11 = .ok (.iconst 0, 1) := zd_at zhX9_not3_0 8 rfl
theorem dX9_not3_12 : decode cX9_not3 12 = .ok (.invokevirtual 199, 3) := zd_at zhX9_not3_0 9 rfl
theorem dX9_not3_15 : decode cX9_not3 15 = .ok (.ifCond .eq 37, 3) := zd_at zhX9_not3_0 10 rfl
theorem dX9_not3_18 : decode cX9_not3 18 = .ok (.aload_n 0, 1) := zd_at zhX9_not3_0 11 rfl
theorem dX9_not3_19 : decode cX9_not3 19 = .ok (.invokevirtual 223, 3) := zd_at zhX9_not3_0 12 rfl
theorem dX9_not3_22 : decode cX9_not3 22 = .ok (.ifCond .ne 5, 3) := zd_at zhX9_not3_0 13 rfl
theorem dX9_not3_25 : decode cX9_not3 25 = .ok (.iconst 0, 1) := zd_at zhX9_not3_0 14 rfl
theorem dX9_not3_26 : decode cX9_not3 26 = .ok (.ireturn, 1) := zd_at zhX9_not3_0 15 rfl
theorem dX9_not3_27 : decode cX9_not3 27 = .ok (.aload_n 0, 1) := zd_at zhX9_not3_0 16 rfl
theorem dX9_not3_28 : decode cX9_not3 28 = .ok (.invokevirtual 262, 3) := zd_at zhX9_not3_0 17 rfl
theorem dX9_not3_31 : decode cX9_not3 31 = .ok (.istore_n 1, 1) := zd_at zhX9_not3_0 18 rfl
theorem dX9_not3_32 : decode cX9_not3 32 = .ok (.aload_n 0, 1) := zd_at zhX9_not3_0 19 rfl
theorem dX9_not3_33 : decode cX9_not3 33 = .ok (.dup, 1) := zd_at zhX9_not3_0 20 rfl
theorem dX9_not3_34 : decode cX9_not3 34 = .ok (.getfield 190, 3) := zd_at zhX9_not3_0 21 rfl
theorem dX9_not3_37 : decode cX9_not3 37 = .ok (.iconst 1, 1) := zd_at zhX9_not3_0 22 rfl
theorem dX9_not3_38 : decode cX9_not3 38 = .ok (.isub, 1) := zd_at zhX9_not3_0 23 rfl
theorem dX9_not3_39 : decode cX9_not3 39 = .ok (.putfield 190, 3) := zd_at zhX9_not3_0 24 rfl
theorem dX9_not3_42 : decode cX9_not3 42 = .ok (.iload_n 1, 1) := zd_at zhX9_not3_0 25 rfl
theorem dX9_not3_43 : decode cX9_not3 43 = .ok (.ifCond .ne 7, 3) := zd_at zhX9_not3_0 26 rfl
theorem dX9_not3_46 : decode cX9_not3 46 = .ok (.iconst 1, 1) := zd_at zhX9_not3_0 27 rfl
theorem dX9_not3_47 : decode cX9_not3 47 = .ok (.goto 4, 3) := zd_at zhX9_not3_0 28 rfl
theorem dX9_not3_50 : decode cX9_not3 50 = .ok (.iconst 0, 1) := zd_at zhX9_not3_0 29 rfl
theorem dX9_not3_51 : decode cX9_not3 51 = .ok (.ireturn, 1) := zd_at zhX9_not3_0 30 rfl
theorem dX9_not3_52 : decode cX9_not3 52 = .ok (.aload_n 0, 1) := zd_at zhX9_not3_0 31 rfl
theorem dX9_not3_53 : decode cX9_not3 53 = .ok (.invokevirtual 277, 3) := zd_at zhX9_not3_0 32 rfl
theorem dX9_not3_56 : decode cX9_not3 56 = .ok (.istore_n 1, 1) := zd_at zhX9_not3_0 33 rfl
theorem dX9_not3_57 : decode cX9_not3 57 = .ok (.aload_n 0, 1) := zd_at zhX9_not3_0 34 rfl
theorem dX9_not3_58 : decode cX9_not3 58 = .ok (.bipush 60, 2) := zd_at zhX9_not3_0 35 rfl
theorem dX9_not3_60 : decode cX9_not3 60 = .ok (.invokevirtual 220, 3) := zd_at zhX9_not3_0 36 rfl
theorem dX9_not3_63 : decode cX9_not3 63 = .ok (.ifCond .ne 14, 3) := zd_at zhX9_not3_0 37 rfl
theorem dX9_not3_66 : decode cX9_not3 66 = .ok (.aload_n 0, 1) := zd_at zhX9_not3_0 38 rfl
theorem dX9_not3_67 : decode cX9_not3 67 = .ok (.bipush 61, 2) := zd_at zhX9_not3_0 39 rfl
def ziX9_not3_69 : List (Nat × Instr × Nat) := [(69, .invokevirtual 220, 3), (72, .ifCond .ne 5, 3), (75, .iload_n 1, 1), (76, .ireturn, 1), (77, .aload_n 0, 1), (78, .getfield 175, 3), (81, .ldc2_w 242, 3), (84, .lcmp, 1), (85, .ifCond .ne 7, 3), (88, .iconst 1, 1), (89, .goto 4, 3), (92, .iconst 0, 1), (93, .istore_n 2, 1), (94, .aload_n 0, 1), (95, .invokevirtual 196, 3), (98, .aload_n 0, 1), (99, .invokevirtual 277, 3), (102, .istore_n 3, 1), (103, .iload_n 2, 1), (104, .ifCond .eq 11, 3), (107, .iload_n 1, 1), (108, .iload_n 3, 1), (109, .if_icmp .ge 15, 3), (112, .goto 8, 3), (115, .iload_n 1, 1), (116, .iload_n 3, 1), (117, .if_icmp .ne 7, 3), (120, .iconst 1, 1), (121, .goto 4, 3), (124, .iconst 0, 1), (125, .ireturn, 1)]
theorem zhX9_not3_69 : zd_chk (cX9_not3.data.toList.drop 69) 69 ziX9_not3_69 = true := by decide +kernel
theorem dX9_not3_69 : decode cX9_not3 69 = .ok (.invokevirtual 220, 3) := zd_at zhX9_not3_69 0 rfl
theorem dX9_not3_72 : decode cX9_not3 72 = .ok (.ifCond .ne 5, 3) := zd_at zhX9_not3_69 1 rfl
theorem dX9_not3_75 : decode cX9_not3 75 = .ok (.iload_n 1, 1) := zd_at zhX9_not3_69 2 rfl
theorem dX9_not3_76 : decode cX9_not3 76 = .ok (.ireturn, 1) := zd_at zhX9_not3_69 3 rfl
theorem dX9_not3_77 : decode cX9_not3 77 = .ok (.aload_n 0, 1) := zd_at zhX9_not3_69 4 rfl
theorem dX9_not3_78 : decode cX9_not3 78 = .ok (.getfield 175, 3) := zd_at zhX9_not3_69 5 rfl
theorem dX9_not3_81 : decode cX9_not3 81 = .ok (.ldc2_w 242, 3) := zd_at zhX9_not3_69 6 rfl
theorem dX9_not3_84 : decode cX9_not3 84 = .ok (.lcmp, 1) := zd_at zhX9_not3_69 7 rfl
theorem dX9_not3_85 : decode cX9_not3 85 = .ok (.ifCond .ne 7, 3) := zd_at zhX9_not3_69 8 rfl
theorem dX9_not3_88 : decode cX9_not3 88 = .ok (.iconst 1, 1) := zd_at zhX9_not3_69 9 rfl
theorem dX9_not3_89 : decode cX9_not3 89 = .ok (.goto 4, 3) := zd_at zhX9_not3_69 10 rfl
theorem dX9_not3_92 : decode cX9_not3 92 = .ok (.iconst 0, 1) := zd_at zhX9_not3_69 11 rfl
theorem dX9_not3_93 : decode cX9_not3 93 = .ok (.istore_n 2, 1) := zd_at zhX9_not3_69 12 rfl
theorem dX9_not3_94 : decode cX9_not3 94 = .ok (.aload_n 0, 1) := zd_at zhX9_not3_69 13 rfl
theorem dX9_not3_95 : decode cX9_not3 95 = .ok (.invokevirtual 196, 3) := zd_at zhX9_not3_69 14 rfl
theorem dX9_not3_98 : decode cX9_not3 98 = .ok (.aload_n 0, 1) := zd_at zhX9_not3_69 15 rfl
theorem dX9_not3_99 : decode cX9_not3 99 = .ok (.invokevirtual 277, 3) := zd_at zhX9_not3_69 16 rfl
theorem dX9_not3_102 : decode cX9_not3 102 = .ok (.istore_n 3, 1) := zd_at zhX9_not3_69 17 rfl
theorem dX9_not3_103 : decode cX9_not3 103 = .ok (.iload_n 2, 1) := zd_at zhX9_not3_69 18 rfl
theorem dX9_not3_104 : decode cX9_not3 104 = .ok (.ifCond .eq 11, 3) := zd_at zhX9_not3_69 19 rfl
theorem dX9_not3_107 : decode cX9_not3 107 = .ok (.iload_n 1, 1) := zd_at zhX9_not3_69 20 rfl
theorem dX9_not3_108 : decode cX9_not3 108 = .ok (.iload_n 3, 1) := zd_at zhX9_not3_69 21 rfl
theorem dX9_not3_109 : decode cX9_not3 109 = .ok (.if_icmp .ge 15, 3) := zd_at zhX9_not3_69 22 rfl
theorem dX9_not3_112 : decode cX9_not3 112 = .ok (.goto 8, 3) := zd_at zhX9_not3_69 23 rfl
theorem dX9_not3_115 : decode cX9_not3 115 = .ok (.iload_n 1, 1) := zd_at zhX9_not3_69 24 rfl
theorem dX9_not3_116 : decode cX9_not3 116 = .ok (.iload_n 3, 1) := zd_at zhX9_not3_69 25 rfl
theorem dX9_not3_117 : decode cX9_not3 117 = .ok (.if_icmp .ne 7, 3) := zd_at zhX9_not3_69 26 rfl
theorem dX9_not3_120 : decode cX9_not3 120 = .ok (.iconst 1, 1) := zd_at zhX9_not3_69 27 rfl
theorem dX9_not3_121 : decode cX9_not3 121 = .ok (.goto 4, 3) := zd_at zhX9_not3_69 28 rfl
theorem dX9_not3_124 : decode cX9_not3 124 = .ok (.iconst 0, 1) := zd_at zhX9_not3_69 29 rfl
theorem dX9_not3_125 : decode cX9_not3 125 = .ok (.ireturn, 1) := zd_at zhX9_not3_69 30 rfl
def ziX9_both3_0 : List (Nat × Instr × Nat) := [(0, .aload_n 0, 1), (1, .invokevirtual 280, 3), (4, .istore_n 1, 1), (5, .aload_n 0, 1), (6, .bipush 97, 2), (8, .bipush 110, 2), (10, .bipush 100, 2), (12, .iconst 0, 1), (13, .iconst 0, 1), (14, .iconst 0, 1), (15, .iconst 0, 1), (16, .iconst 0, 1), (17, .invokevirtual 199, 3), (20, .ifCond .eq 29, 3), (23, .aload_n 0, 1), (24, .invokevirtual 196, 3), (27, .aload_n 0, 1), (28, .invokevirtual 280, 3), (31, .istore_n 2, 1), (32, .iload_n 1, 1), (33, .ifCond .eq 11, 3), (36, .iload_n 2, 1), (37, .ifCond .eq 7, 3), (40, .iconst 1, 1), (41, .goto 4, 3), (44, .iconst 0, 1), (45, .istore_n 1, 1), (46, .goto (-41), 3), (49, .iload_n 1, 1), (50, .ireturn, 1)]
theorem zhX9_both3_0 : zd_chk (cX9_both3.data.toList.drop 0) 0 ziX9_both3_0 = true := by decide +kernel
theorem dX9_both3_0 : decode cX9_both3 0 = .ok (.aload_n 0, 1) := zd_at zhX9_both3_0 0 rfl
theorem dX9_both3_1 : decode cX9_both3 1 = .ok (.invokevirtual 280, 3) := zd_at zhX9_both3_0 1 rfl
theorem dX9_both3_4 : decode cX9_both3 4 = .ok (.istore_n 1, 1) := zd_at zhX9_both3_0 2 rfl
theorem dX9_both3_5 : decode cX9_both3 5 = .ok (.aload_n 0, 1) := zd_at zhX9_both3_0 3 rfl
theorem dX9_both3_6 : decode cX9_both3 6 = .ok (.bipush 97, 2) := zd_at zhX9_both3_0 4 rfl
theorem dX9_both3_8 : decode cX9_both3 8 = .ok (.bipush 110, 2) := zd_at zhX9_both3_0 5 rfl
theorem dX9_both3_10 : decode cX9_both3 10 = .ok (.bipush 100, 2) := zd_at zhX9_both3_0 6 rfl
theorem dX9_both3_12 : decode cX9_both3 12 = .ok (.iconst 0, 1) := zd_at zhX9_both3_0 7 rfl
theorem dX9_both3_13 : decode cX9_both3 13 = .ok (.iconst 0, 1) := zd_at zhX9_both3_0 8 rfl
theorem dX9_both3_14 : decode cX9_both3 14 = .ok (.iconst 0, 1) := zd_at zhX9_both3_0 9 rfl
theorem dX9_both3_15 : decode cX9_both3 15 = .ok (.iconst 0, 1) := zd_at zhX9_both3_0 10 rfl
theorem dX9_both3_16 : decode cX9_both3 16 = .ok (.iconst 0, 1) := zd_at zhX9_both3_0 11 rfl
theorem dX9_both3_17 : decode cX9_both3 17 = .ok (.invokevirtual 199, 3) := zd_at zhX9_both3_0 12 rfl
theorem dX9_both3_20 : decode cX9_both3 20 = .ok (.ifCond .eq 29, 3) := zd_at zhX9_both3_0 13 rfl
theorem dX9_both3_23 : decode cX9_both3 23 = .ok (.aload_n 0, 1) := zd_at zhX9_both3_0 14 rfl
theorem dX9_both3_24 : decode cX9_both3 24 = .ok (.invokevirtual 196, 3) := zd_at zhX9_both3_0 15 rfl
theorem dX9_both3_27 : decode cX9_both3 27 = .ok (.aload_n 0, 1) := zd_at zhX9_both3_0 16 rfl
theorem dX9_both3_28 : decode cX9_both3 28 = .ok (.invokevirtual 280, 3) := zd_at zhX9_both3_0 17 rfl
theorem dX9_both3_31 : decode cX9_both3 31 = .ok (.istore_n 2, 1) := zd_at zhX9_both3_0 18 rfl
theorem dX9_both3_32 : decode cX9_both3 32 = .ok (.iload_n 1, 1) := zd_at zhX9_both3_0 19 rfl
theorem dX9_both3_33 : decode cX9_both3 33 = .ok (.ifCond .eq 11, 3) := zd_at zhX9_both3_0 20 rfl
theorem dX9_both3_36 : decode cX9_both3 36 = .ok (.iload_n 2, 1) := zd_at zhX9_both3_0 21 rfl
theorem dX9_both3_37 : decode cX9_both3 37 = .ok (.ifCond .eq 7, 3) := zd_at zhX9_both3_0 22 rfl
theorem dX9_both3_40 : decode cX9_both3 40 = .ok (.iconst 1, 1) := zd_at zhX9_both3_0 23 rfl
theorem dX9_both3_41 : decode cX9_both3 41 = .ok (.goto 4, 3) := zd_at zhX9_both3_0 24 rfl
theorem dX9_both3_44 : decode cX9_both3 44 = .ok (.iconst 0, 1) := zd_at zhX9_both3_0 25 rfl
theorem dX9_both3_45 : decode cX9_both3 45 = .ok (.istore_n 1, 1) := zd_at zhX9_both3_0 26 rfl
theorem dX9_both3_46 : decode cX9_both3 46 = .ok (.goto (-41), 3) := zd_at zhX9_both3_0 27 rfl
theorem dX9_both3_49 : decode cX9_both3 49 = .ok (.iload_n 1, 1) := zd_at zhX9_both3_0 28 rfl
theorem dX9_both3_50 : decode cX9_both3 50 = .ok (.ireturn, 1) := zd_at zhX9_both3_0 29 rfl
def ziX9_either3_0 : List (Nat × Instr × Nat) := [(0, .aload_n 0, 1), (1, .invokevirtual 283, 3), (4, .istore_n 1, 1), (5, .aload_n 0, 1), (6, .bipush 111, 2), (8, .bipush 114, 2), (10, .iconst 0, 1), (11, .iconst 0, 1), (12, .iconst 0, 1), (13, .iconst 0, 1), (14, .iconst 0, 1), (15, .iconst 0, 1), (16, .invokevirtual 199, 3), (19, .ifCond .eq 29, 3), (22, .aload_n 0, 1), (23, .invokevirtual 196, 3), (26, .aload_n 0, 1), (27, .invokevirtual 283, 3), (30, .istore_n 2, 1), (31, .iload_n 1, 1), (32, .ifCond .ne 7, 3), (35, .iload_n 2, 1), (36, .ifCond .eq 7, 3), (39, .iconst 1, 1), (40, .goto 4, 3), (43, .iconst 0, 1), (44, .istore_n 1, 1), (45, .goto (-40), 3), (48, .iload_n 1, 1), (49, .ireturn, 1)]
theorem zhX9_either3_0 : zd_chk (cX9_either3.data.toList.drop 0) 0 ziX9_either3_0 = true := by decide +kernel
theorem dX9_either3_0 : decode cX9_either3 0 = .ok (.aload_n 0, 1) := zd_at zhX9_either3_0 0 rfl
theorem dX9_either3_1 : decode cX9_either3 1 = .ok (.invokevirtual 283, 3) := zd_at zhX9_either3_0 1 rfl
theorem dX9_either3_4 : decode cX9_either3 4 = .ok (.istore_n 1, 1) := zd_at zhX9_either3_0 2 rfl
theorem dX9_either3_5 : decode cX9_either3 5 = .ok (.aload_n 0, 1) := zd_at zhX9_either3_0 3 rfl
theorem dX9_either3_6 : decode cX9_either3 6 = .ok (.bipush 111, 2) := zd_at zhX9_either3_0 4 rfl
theorem dX9_either3_8 : decode cX9_either3 8 = .ok (.bipush 114, 2) := zd_at zhX9_either3_0 5 rfl
theorem dX9_either3_10 : decode cX9_either3 10 = .ok (.iconst 0, 1) := zd_at zhX9_either3_0 6 rfl
theorem dX9_either3_11 : decode cX9_either3 11 = .ok (.iconst 0, 1) := zd_at zhX9_either3_0 7 rfl
theorem dX9_either3_12 : decode cX9_either3 12 = .ok (.iconst 0, 1) := zd_at zhX9_either3_0 8 rfl
theorem dX9_either3_13 : decode cX9_either3 13 = .ok (.iconst 0, 1) := zd_at zhX9_either3_0 9 rfl
theorem dX9_either3_14 : decode cX9_either3 14 = .ok (.iconst 0, 1) := zd_at zhX9_either3_0 10 rfl
theorem dX9_either3_15 : decode cX9_either3 15 = .ok (.iconst 0, 1) := zd_at zhX9_either3_0 11 rfl
theorem dX9_either3_16 : decode cX9_either3 16 = .ok (.invokevirtual 199, 3) := zd_at zhX9_either3_0 12 rfl
theorem dX9_either3_19 : decode cX9_either3 19 = .ok (.ifCond .eq 29, 3) := zd_at zhX9_either3_0 13 rfl
theorem dX9_either3_22 : decode cX9_either3 22 = .ok (.aload_n 0, 1) := zd_at zhX9_either3_0 14 rfl
theorem dX9_either3_23 : decode cX9_either3 23 = .ok (.invokevirtual 196, 3) := zd_at zhX9_either3_0 15 rfl
theorem dX9_either3_26 : decode cX9_either3 26 = .ok (.aload_n 0, 1) := zd_at zhX9_either3_0 16 rfl
theorem dX9_either3_27 : decode cX9_either3 27 = .ok (.invokevirtual 283, 3) := zd_at zhX9_either3_0 17 rfl
theorem dX9_either3_30 : decode cX9_either3 30 = .ok (.istore_n 2, 1) := zd_at zhX9_either3_0 18 rfl
theorem dX9_either3_31 : decode cX9_either3 31 = .ok (.iload_n 1, 1) := zd_at zhX9_either3_0 19 rfl
theorem dX9_either3_32 : decode cX9_either3 32 = .ok (.ifCond .ne 7, 3) := zd_at zhX9_either3_0 20 rfl
theorem dX9_either3_35 : decode cX9_either3 35 = .ok (.iload_n 2, 1) := zd_at zhX9_either3_0 21 rfl
theorem dX9_either3_36 : decode cX9_either3 36 = .ok (.ifCond .eq 7, 3) := zd_at zhX9_either3_0 22 rfl
theorem dX9_either3_39 : decode cX9_either3 39 = .ok (.iconst 1, 1) := zd_at zhX9_either3_0 23 rfl
theorem dX9_either3_40 : decode cX9_either3 40 = .ok (.goto 4, 3) := zd_at zhX9_either3_0 24 rfl
theorem dX9_either3_43 : decode cX9_either3 43 = .ok (.iconst 0, 1) := zd_at zhX9_either3_0 25 rfl
theorem dX9_either3_44 : decode cX9_either3 44 = .ok (.istore_n 1, 1) := zd_at zhX9_either3_0 26 rfl
theorem dX9_either3_45 : decode cX9_either3 45 = .ok (.goto (-40), 3) := zd_at zhX9_either3_0 27 rfl
theorem dX9_either3_48 : decode cX9_either3 48 = .ok (.iload_n 1, 1) := zd_at zhX9_either3_0 28 rfl
theorem dX9_either3_49 : decode cX9_either3 49 = .ok (.ireturn, 1) := zd_at zhX9_either3_0 29 rfl
def ziX9_atom2_0 : List (Nat × Instr × Nat) := [(0, .iconst 0, 1), (1, .istore_n 1, 1), (2, .aload_n 0, 1), (3, .bipush 45, 2), (5, .invokevirtual 220, 3), (8, .ifCond .eq 29, 3), (11, .aload_n 0, 1), (12, .invokevirtual 223, 3), (15, .ifCond .eq 146, 3), (18, .aload_n 0, 1), (19, .invokevirtual 271, 3), (22, .ineg, 1), (23, .istore_n 1, 1), (24, .aload_n 0, 1), (25, .dup, 1), (26, .getfield 190, 3), (29, .iconst 1, 1), (30, .isub, 1), (31, .putfield 190, 3), (34, .goto 127, 3), (37, .aload_n 0, 1), (38, .bipush 40, 2), (40, .invokevirtual 220, 3), (43, .ifCond .eq 52, 3), (46, .aload_n 0, 1), (47, .invokevirtual 223, 3), (50, .ifCond .eq 111, 3), (53, .aload_n 0, 1), (54, .invokevirtual 286, 3), (57, .istore_n 1, 1), (58, .aload_n 0, 1), (59, .bipush 41, 2), (61, .invokevirtual 220, 3), (64, .ifCond .ne 7, 3), (67, .aload_n 0, 1), (68, .invokevirtual 193, 3), (71, .aload_n 0, 1), (72, .dup, 1), (73, .getfield 190, 3), (76, .iconst 1, 1)]
theorem zhX9_atom2_0 : zd_chk (cX9_atom2.data.toList.drop 0) 0 ziX9_atom2_0 = true := by decide +kernel
theorem dX9_atom2_0 : decode cX9_atom2 0 = .ok (.iconst 0, 1) := zd_at zhX9_atom2_0 0 rfl
theorem dX9_atom2_1 : decode cX9_atom2 1 = .ok (.istore_n 1, 1) := zd_at zhX9_atom2_0 1 rfl
theorem dX9_atom2_2 : decode cX9_atom2 2 = .ok (.aload_n 0, 1) := zd_at zhX9_atom2_0 2 rfl
theorem dX9_atom2_3 : decode cX9_atom2 3 = .ok (.bipush 45, 2) := zd_at zhX9_atom2_0 3 rfl
theorem dX9_atom2_5 : decode cX9_atom2 5 = .ok (.invokevirtual 220, 3) := zd_at zhX9_atom2_0 4 rfl
theorem dX9_atom2_8 : decode cX9_atom2 8 = .ok (.ifCond .eq 29, 3) := zd_at zhX9_atom2_0 5 rfl
theorem dX9_atom2_11 : decode cX9_atom2 11 = .ok (.aload_n 0, 1) := zd_at zhX9_atom2_0 6 rfl
theorem dX9_atom2_12 : decode cX9_atom2 12 = .ok (.invokevirtual 223, 3) := zd_at zhX9_atom2_0 7 rfl
theorem dX9_atom2_15 : decode cX9_atom2 15 = .ok (.ifCond .eq 146, 3) := zd_at zhX9_atom2_0 8 rfl
theorem dX9_atom2_18 : decode cX9_atom2 18 = .ok (.aload_n 0, 1) := zd_at zhX9_atom2_0 9 rfl
theorem dX9_atom2_19 : decode cX9_atom2 19 = .ok (.invokevirtual 271, 3) := zd_at zhX9_atom2_0 10 rfl
theorem dX9_atom2_22 : decode cX9_atom2 22 = .ok (.ineg, 1) := zd_at zhX9_atom2_0 11 rfl
theorem dX9_atom2_23 : decode cX9_atom2 23 = .ok (.istore_n 1, 1) := zd_at zhX9_atom2_0 12 rfl
theorem dX9_atom2_24 : decode cX9_atom2 24 = .ok (.aload_n 0, 1) := zd_at zhX9_atom2_0 13 rfl
theorem dX9_atom2_25 : decode cX9_atom2 25 = .ok (.dup, 1) := zd_at zhX9_atom2_0 14 rfl
theorem dX9_atom2_26 : decode cX9_atom2 26 = .ok (.getfield 190, 3) := zd_at zhX9_atom2_0 15 rfl
theorem dX9_atom2_29 : decode cX9_atom2 29 = .ok (.iconst 1, 1) := zd_at zhX9_atom2_0 16 rfl
theorem dX9_atom2_30 : decode cX9_atom2 30 = .ok (.isub, 1) := zd_at zhX9_atom2_0 17 rfl
theorem dX9_atom2_31 : decode cX9_atom2 31 = .ok (.putfield 190, 3) := zd_at zhX9_atom2_0 18 rfl
theorem dX9_atom2_34 : decode cX9_atom2 34 = .ok (.goto 127, 3) := zd_at zhX9_atom2_0 19 rfl
theorem dX9_atom2_37 : decode cX9_atom2 37 = .ok (.aload_n 0, 1) := zd_at zhX9_atom2_0 20 rfl
theorem dX9_atom2_38 : decode cX9_atom2 38 = .ok (.bipush 40, 2) := zd_at zhX9_atom2_0 21 rfl
theorem dX9_atom2_40 : decode cX9_atom2 40 = .ok (.invokevirtual 220, 3) := zd_at zhX9_atom2_0 22 rfl
theorem dX9_atom2_43 : decode cX9_atom2 43 = .ok (.ifCond .eq 52, 3) := zd_at zhX9_atom2_0 23 rfl
theorem dX9_atom2_46 : decode cX9_atom2 46 = .ok (.aload_n 0, 1) := zd_at zhX9_atom2_0 24 rfl
theorem dX9_atom2_47 : decode cX9_atom2 47 = .ok (.invokevirtual 223, 3) := zd_at zhX9_atom2_0 25 rfl
theorem dX9_atom2_50 : decode cX9_atom2 50 = .ok (.ifCond .eq 111, 3) := zd_at zhX9_atom2_0 26 rfl
theorem dX9_atom2_53 : decode cX9_atom2 53 = .ok (.aload_n 0, 1) := zd_at zhX9_atom2_0 27 rfl
theorem dX9_atom2_54 : decode cX9_atom2 54 = .ok (.invokevirtual 286, 3) := zd_at zhX9_atom2_0 28 rfl
theorem dX9_atom2_57 : decode cX9_atom2 57 = .ok (.istore_n 1, 1) := zd_at zhX9_atom2_0 29 rfl
theorem dX9_atom2_58 : decode cX9_atom2 58 = .ok (.aload_n 0, 1) := zd_at zhX9_atom2_0 30 rfl
theorem dX9_atom2_59 : decode cX9_atom2 59 = .ok (.bipush 41, 2) := zd_at zhX9_atom2_0 31 rfl
theorem dX9_atom2_61 : decode cX9_atom2 61 = .ok (.invokevirtual 220, 3) := zd_at zhX9_atom2_0 32 rfl
theorem dX9_atom2_64 : decode cX9_atom2 64 = .ok (.ifCond .ne 7, 3) := zd_at zhX9_atom2_0 33 rfl
theorem dX9_atom2_67 : decode cX9_atom2 67 = .ok (.aload_n 0, 1) := zd_at zhX9_atom2_0 34 rfl
theorem dX9_atom2_68 : decode cX9_atom2 68 = .ok (.invokevirtual 193, 3) := zd_at zhX9_atom2_0 35 rfl
theorem dX9_atom2_71 : decode cX9_atom2 71 = .ok (.aload_n 0, 1) := zd_at zhX9_atom2_0 36 rfl
theorem dX9_atom2_72 : decode cX9_atom2 72 = .ok (.dup, 1) := zd_at zhX9_atom2_0 37 rfl
theorem dX9_atom2_73 : decode cX9_atom2 73 = .ok (.getfield 190, 3) := zd_at zhX9_atom2_0 38 rfl
theorem dX9_atom2_76 : decode cX9_atom2 76 = .ok (.iconst 1, 1) := zd_at zhX9_atom2_0 39 rfl
def ziX9_atom2_77 : List (Nat × Instr × Nat) := [(77, .isub, 1), (78, .putfield 190, 3), (81, .aload_n 0, 1), (82, .getfield 179, 3), (85, .ifCond .ne 76, 3), (88, .aload_n 0, 1), (89, .invokevirtual 196, 3), (92, .goto 69, 3), (95, .aload_n 0, 1), (96, .getfield 179, 3), (99, .ifCond .ne 24, 3), (102, .aload_n 0, 1), (103, .getfield 164, 3), (106, .iconst 2, 1), (107, .if_icmp .ne 16, 3), (110, .aload_n 0, 1), (111, .getfield 175, 3), (114, .l2i, 1), (115, .istore_n 1, 1), (116, .aload_n 0, 1), (117, .invokevirtual 196, 3), (120, .goto 41, 3), (123, .aload_n 0, 1), (124, .getfield 179, 3), (127, .ifCond .ne 30, 3), (130, .aload_n 0, 1), (131, .getfield 164, 3), (134, .iconst 1, 1), (135, .if_icmp .ne 22, 3), (138, .aload_n 0, 1), (139, .invokevirtual 227, 3), (142, .istore_n 1, 1), (143, .aload_n 0, 1), (144, .getfield 179, 3), (147, .ifCond .ne 14, 3), (150, .aload_n 0, 1), (151, .invokevirtual 196, 3), (154, .goto 7, 3), (157, .aload_n 0, 1), (158, .invokevirtual 193, 3)]
theorem zhX9_atom2_77 : zd_chk (cX9_atom2.data.toList.drop 77) 77 ziX9_atom2_77 = true := by decide +kernel
theorem dX9_atom2_77 : decode cX9_atom2 77 = .ok (.isub, 1) := zd_at zhX9_atom2_77 0 rfl
theorem dX9_atom2_78 : decode cX9_atom2 78 = .ok (.putfield 190, 3) := zd_at zhX9_atom2_77 1 rfl
theorem dX9_atom2_81 : decode cX9_atom2 81 = .ok (.aload_n 0, 1) := zd_at zhX9_atom2_77 2 rfl
theorem dX9_atom2_82 : decode cX9_atom2 82 = .ok (.getfield 179, 3) := zd_at zhX9_atom2_77 3 rfl
theorem dX9_atom2_85 : decode cX9_atom2 85 = .ok (.ifCond .ne 76, 3) := zd_at zhX9_atom2_77 4 rfl
theorem dX9_atom2_88 : decode cX9_atom2 88 = .ok (.aload_n 0, 1) := zd_at zhX9_atom2_77 5 rfl
theorem dX9_atom2_89 : decode cX9_atom2 89 = .ok (.invokevirtual 196, 3) := zd_at zhX9_atom2_77 6 rfl
theorem dX9_atom2_92 : decode cX9_atom2 92 = .ok (.goto 69, 3) := zd_at zhX9_atom2_77 7 rfl
theorem dX9_atom2_95 : decode cX9_atom2 95 = .ok (.aload_n 0, 1) := zd_at zhX9_atom2_77 8 rfl
theorem dX9_atom2_96 : decode cX9_atom2 96 = .ok (.getfield 179, 3) := zd_at zhX9_atom2_77 9 rfl
theorem dX9_atom2_99 : decode cX9_atom2 99 = .ok (.ifCond .ne 24, 3) := zd_at zhX9_atom2_77 10 rfl
theorem dX9_atom2_102 : decode cX9_atom2 102 = .ok (.aload_n 0, 1) := zd_at zhX9_atom2_77 11 rfl
theorem dX9_atom2_103 : decode cX9_atom2 103 = .ok (.getfield 164, 3) := zd_at zhX9_atom2_77 12 rfl
theorem dX9_atom2_106 : decode cX9_atom2 106 = .ok (.iconst 2, 1) := zd_at zhX9_atom2_77 13 rfl
theorem dX9_atom2_107 : decode cX9_atom2 107 = .ok (.if_icmp .ne 16, 3) := zd_at zhX9_atom2_77 14 rfl
theorem dX9_atom2_110 : decode cX9_atom2 110 = .ok (.aload_n 0, 1) := zd_at zhX9_atom2_77 15 rfl
theorem dX9_atom2_111 : decode cX9_atom2 111 = .ok (.getfield 175, 3) := zd_at zhX9_atom2_77 16 rfl
theorem dX9_atom2_114 : decode cX9_atom2 114 = .ok (.l2i, 1) := zd_at zhX9_atom2_77 17 rfl
theorem dX9_atom2_115 : decode cX9_atom2 115 = .ok (.istore_n 1, 1) := zd_at zhX9_atom2_77 18 rfl
theorem dX9_atom2_116 : decode cX9_atom2 116 = .ok (.aload_n 0, 1) := zd_at zhX9_atom2_77 19 rfl
theorem dX9_atom2_117 : decode cX9_atom2 117 = .ok (.invokevirtual 196, 3) := zd_at zhX9_atom2_77 20 rfl
theorem dX9_atom2_120 : decode cX9_atom2 120 = .ok (.goto 41, 3) := zd_at zhX9_atom2_77 21 rfl
theorem dX9_atom2_123 : decode cX9_atom2 123 = .ok (.aload_n 0, 1) := zd_at zhX9_atom2_77 22 rfl
theorem dX9_atom2_124 : decode cX9_atom2 124 = .ok (.getfield 179, 3) := zd_at zhX9_atom2_77 23 rfl
theorem dX9_atom2_127 : decode cX9_atom2 127 = .ok (.ifCond .ne 30, 3) := zd_at zhX9_atom2_77 24 rfl
theorem dX9_atom2_130 : decode cX9_atom2 130 = .ok (.aload_n 0, 1) := zd_at zhX9_atom2_77 25 rfl
theorem dX9_atom2_131 : decode cX9_atom2 131 = .ok (.getfield 164, 3) := zd_at zhX9_atom2_77 26 rfl
theorem dX9_atom2_134 : decode cX9_atom2 134 = .ok (.iconst 1, 1) := zd_at zhX9_atom2_77 27 rfl
theorem dX9_atom2_135 : decode cX9_atom2 135 = .ok (.if_icmp .ne 22, 3) := zd_at zhX9_atom2_77 28 rfl
theorem dX9_atom2_138 : decode cX9_atom2 138 = .ok (.aload_n 0, 1) := zd_at zhX9_atom2_77 29 rfl
theorem dX9_atom2_139 : decode cX9_atom2 139 = .ok (.invokevirtual 227, 3) := zd_at zhX9_atom2_77 30 rfl
theorem dX9_atom2_142 : decode cX9_atom2 142 = .ok (.istore_n 1, 1) := zd_at zhX9_atom2_77 31 rfl
theorem dX9_atom2_143 : decode cX9_atom2 143 = .ok (.aload_n 0, 1) := zd_at zhX9_atom2_77 32 rfl
theorem dX9_atom2_144 : decode cX9_atom2 144 = .ok (.getfield 179, 3) := zd_at zhX9_atom2_77 33 rfl
theorem dX9_atom2_147 : decode cX9_atom2 147 = .ok (.ifCond .ne 14, 3) := zd_at zhX9_atom2_77 34 rfl
theorem dX9_atom2_150 : decode cX9_atom2 150 = .ok (.aload_n 0, 1) := zd_at zhX9_atom2_77 35 rfl
theorem dX9_atom2_151 : decode cX9_atom2 151 = .ok (.invokevirtual 196, 3) := zd_at zhX9_atom2_77 36 rfl
theorem dX9_atom2_154 : decode cX9_atom2 154 = .ok (.goto 7, 3) := zd_at zhX9_atom2_77 37 rfl
theorem dX9_atom2_157 : decode cX9_atom2 157 = .ok (.aload_n 0, 1) := zd_at zhX9_atom2_77 38 rfl
theorem dX9_atom2_158 : decode cX9_atom2 158 = .ok (.invokevirtual 193, 3) := zd_at zhX9_atom2_77 39 rfl
def ziX9_atom2_161 : List (Nat × Instr × Nat) := [(161, .iload_n 1, 1), (162, .ireturn, 1)]
theorem zhX9_atom2_161 : zd_chk (cX9_atom2.data.toList.drop 161) 161 ziX9_atom2_161 = true := by decide +kernel
theorem dX9_atom2_161 : decode cX9_atom2 161 = .ok (.iload_n 1, 1) := zd_at zhX9_atom2_161 0 rfl
theorem dX9_atom2_162 : decode cX9_atom2 162 = .ok (.ireturn, 1) := zd_at zhX9_atom2_161 1 rfl
def ziX9_term2_0 : List (Nat × Instr × Nat) := [(0, .aload_n 0, 1), (1, .invokevirtual 289, 3), (4, .istore_n 1, 1), (5, .aload_n 0, 1), (6, .bipush 42, 2), (8, .invokevirtual 220, 3), (11, .ifCond .eq 17, 3), (14, .aload_n 0, 1), (15, .invokevirtual 196, 3), (18, .iload_n 1, 1), (19, .aload_n 0, 1), (20, .invokevirtual 289, 3), (23, .imul, 1), (24, .istore_n 1, 1), (25, .goto (-20), 3), (28, .iload_n 1, 1), (29, .ireturn, 1)]
theorem zhX9_term2_0 : zd_chk (cX9_term2.data.toList.drop 0) 0 ziX9_term2_0 = true := by decide +kernel
theorem dX9_term2_0 : decode cX9_term2 0 = .ok (.aload_n 0, 1) := zd_at zhX9_term2_0 0 rfl
theorem dX9_term2_1 : decode cX9_term2 1 = .ok (.invokevirtual 289, 3) := zd_at zhX9_term2_0 1 rfl
theorem dX9_term2_4 : decode cX9_term2 4 = .ok (.istore_n 1, 1) := zd_at zhX9_term2_0 2 rfl
theorem dX9_term2_5 : decode cX9_term2 5 = .ok (.aload_n 0, 1) := zd_at zhX9_term2_0 3 rfl
theorem dX9_term2_6 : decode cX9_term2 6 = .ok (.bipush 42, 2) := zd_at zhX9_term2_0 4 rfl
theorem dX9_term2_8 : decode cX9_term2 8 = .ok (.invokevirtual 220, 3) := zd_at zhX9_term2_0 5 rfl
theorem dX9_term2_11 : decode cX9_term2 11 = .ok (.ifCond .eq 17, 3) := zd_at zhX9_term2_0 6 rfl
theorem dX9_term2_14 : decode cX9_term2 14 = .ok (.aload_n 0, 1) := zd_at zhX9_term2_0 7 rfl
theorem dX9_term2_15 : decode cX9_term2 15 = .ok (.invokevirtual 196, 3) := zd_at zhX9_term2_0 8 rfl
theorem dX9_term2_18 : decode cX9_term2 18 = .ok (.iload_n 1, 1) := zd_at zhX9_term2_0 9 rfl
theorem dX9_term2_19 : decode cX9_term2 19 = .ok (.aload_n 0, 1) := zd_at zhX9_term2_0 10 rfl
theorem dX9_term2_20 : decode cX9_term2 20 = .ok (.invokevirtual 289, 3) := zd_at zhX9_term2_0 11 rfl
theorem dX9_term2_23 : decode cX9_term2 23 = .ok (.imul, 1) := zd_at zhX9_term2_0 12 rfl
theorem dX9_term2_24 : decode cX9_term2 24 = .ok (.istore_n 1, 1) := zd_at zhX9_term2_0 13 rfl
theorem dX9_term2_25 : decode cX9_term2 25 = .ok (.goto (-20), 3) := zd_at zhX9_term2_0 14 rfl
theorem dX9_term2_28 : decode cX9_term2 28 = .ok (.iload_n 1, 1) := zd_at zhX9_term2_0 15 rfl
theorem dX9_term2_29 : decode cX9_term2 29 = .ok (.ireturn, 1) := zd_at zhX9_term2_0 16 rfl
def ziX9_added2_0 : List (Nat × Instr × Nat) := [(0, .aload_n 0, 1), (1, .invokevirtual 292, 3), (4, .istore_n 1, 1), (5, .aload_n 0, 1), (6, .bipush 43, 2), (8, .invokevirtual 220, 3), (11, .ifCond .ne 12, 3), (14, .aload_n 0, 1), (15, .bipush 45, 2), (17, .invokevirtual 220, 3), (20, .ifCond .eq 46, 3), (23, .aload_n 0, 1), (24, .getfield 175, 3), (27, .ldc2_w 237, 3), (30, .lcmp, 1), (31, .ifCond .ne 7, 3), (34, .iconst 1, 1), (35, .goto 4, 3), (38, .iconst 0, 1), (39, .istore_n 2, 1), (40, .aload_n 0, 1), (41, .invokevirtual 196, 3), (44, .aload_n 0, 1), (45, .invokevirtual 292, 3), (48, .istore_n 3, 1), (49, .iload_n 2, 1), (50, .ifCond .eq 9, 3), (53, .iload_n 1, 1), (54, .iload_n 3, 1), (55, .iadd, 1), (56, .goto 6, 3), (59, .iload_n 1, 1), (60, .iload_n 3, 1), (61, .isub, 1), (62, .istore_n 1, 1), (63, .goto (-58), 3), (66, .iload_n 1, 1), (67, .ireturn, 1)]
theorem zhX9_added2_0 : zd_chk (cX9_added2.data.toList.drop 0) 0 ziX9_added2_0 = true := by decide +kernel
theorem dX9_added2_0 : decode cX9_added2 0 = .ok (.aload_n 0, 1) := zd_at zhX9_added2_0 0 rfl
theorem dX9_added2_1 : decode cX9_added2 1 = .ok (.invokevirtual 292, 3) := zd_at zhX9_added2_0 1 rfl
theorem dX9_added2_4 : decode cX9_added2 4 = .ok (.istore_n 1, 1) := zd_at zhX9_added2_0 2 rfl
theorem dX9_added2_5 : decode cX9_added2 5 = .ok (.aload_n 0, 1) := zd_at zhX9_added2_0 3 rfl
theorem dX9_added2_6 : decode cX9_added2 6 = .ok (.bipush 43, 2) := zd_at zhX9_added2_0 4 rfl
theorem dX9_added2_8 : decode cX9_added2 8 = .ok (.invokevirtual 220, 3) := zd_at zhX9_added2_0 5 rfl
theorem dX9_added2_11 : decode cX9_added2 11 = .ok (.ifCond .ne 12, 3) := zd_at zhX9_added2_0 6 rfl
theorem dX9_added2_14 : decode cX9_added2 14 = .ok (.aload_n 0, 1) := zd_at zhX9_added2_0 7 rfl
theorem dX9_added2_15 : decode cX9_added2 15 = .ok (.bipush 45, 2) := zd_at zhX9_added2_0 8 rfl
theorem dX9_added2_17 : decode cX9_added2 17 = .ok (.invokevirtual 220, 3) := zd_at zhX9_added2_0 9 rfl
theorem dX9_added2_20 : decode cX9_added2 20 = .ok (.ifCond .eq 46, 3) := zd_at zhX9_added2_0 10 rfl
theorem dX9_added2_23 : decode cX9_added2 23 = .ok (.aload_n 0, 1) := zd_at zhX9_added2_0 11 rfl
theorem dX9_added2_24 : decode cX9_added2 24 = .ok (.getfield 175, 3) := zd_at zhX9_added2_0 12 rfl
theorem dX9_added2_27 : decode cX9_added2 27 = .ok (.ldc2_w 237, 3) := zd_at zhX9_added2_0 13 rfl
theorem dX9_added2_30 : decode cX9_added2 30 = .ok (.lcmp, 1) := zd_at zhX9_added2_0 14 rfl
theorem dX9_added2_31 : decode cX9_added2 31 = .ok (.ifCond .ne 7, 3) := zd_at zhX9_added2_0 15 rfl
theorem dX9_added2_34 : decode cX9_added2 34 = .ok (.iconst 1, 1) := zd_at zhX9_added2_0 16 rfl
theorem dX9_added2_35 : decode cX9_added2 35 = .ok (.goto 4, 3) := zd_at zhX9_added2_0 17 rfl
theorem dX9_added2_38 : decode cX9_added2 38 = .ok (.iconst 0, 1) := zd_at zhX9_added2_0 18 rfl
theorem dX9_added2_39 : decode cX9_added2 39 = .ok (.istore_n 2, 1) := zd_at zhX9_added2_0 19 rfl
theorem dX9_added2_40 : decode cX9_added2 40 = .ok (.aload_n 0, 1) := zd_at zhX9_added2_0 20 rfl
theorem dX9_added2_41 : decode cX9_added2 41 = .ok (.invokevirtual 196, 3) := zd_at zhX9_added2_0 21 rfl
theorem dX9_added2_44 : decode cX9_added2 44 = .ok (.aload_n 0, 1) := zd_at zhX9_added2_0 22 rfl
theorem dX9_added2_45 : decode cX9_added2 45 = .ok (.invokevirtual 292, 3) := zd_at zhX9_added2_0 23 rfl
theorem dX9_added2_48 : decode cX9_added2 48 = .ok (.istore_n 3, 1) := zd_at zhX9_added2_0 24 rfl
theorem dX9_added2_49 : decode cX9_added2 49 = .ok (.iload_n 2, 1) := zd_at zhX9_added2_0 25 rfl
theorem dX9_added2_50 : decode cX9_added2 50 = .ok (.ifCond .eq 9, 3) := zd_at zhX9_added2_0 26 rfl
theorem dX9_added2_53 : decode cX9_added2 53 = .ok (.iload_n 1, 1) := zd_at zhX9_added2_0 27 rfl
theorem dX9_added2_54 : decode cX9_added2 54 = .ok (.iload_n 3, 1) := zd_at zhX9_added2_0 28 rfl
theorem dX9_added2_55 : decode cX9_added2 55 = .ok (.iadd, 1) := zd_at zhX9_added2_0 29 rfl
theorem dX9_added2_56 : decode cX9_added2 56 = .ok (.goto 6, 3) := zd_at zhX9_added2_0 30 rfl
theorem dX9_added2_59 : decode cX9_added2 59 = .ok (.iload_n 1, 1) := zd_at zhX9_added2_0 31 rfl
theorem dX9_added2_60 : decode cX9_added2 60 = .ok (.iload_n 3, 1) := zd_at zhX9_added2_0 32 rfl
theorem dX9_added2_61 : decode cX9_added2 61 = .ok (.isub, 1) := zd_at zhX9_added2_0 33 rfl
theorem dX9_added2_62 : decode cX9_added2 62 = .ok (.istore_n 1, 1) := zd_at zhX9_added2_0 34 rfl
theorem dX9_added2_63 : decode cX9_added2 63 = .ok (.goto (-58), 3) := zd_at zhX9_added2_0 35 rfl
theorem dX9_added2_66 : decode cX9_added2 66 = .ok (.iload_n 1, 1) := zd_at zhX9_added2_0 36 rfl
theorem dX9_added2_67 : decode cX9_added2 67 = .ok (.ireturn, 1) := zd_at zhX9_added2_0 37 rfl
def ziX9_not2_0 : List (Nat × Instr × Nat) := [(0, .aload_n 0, 1), (1, .bipush 110, 2), (3, .bipush 111, 2), (5, .bipush 116, 2), (7, .iconst 0, 1), (8, .iconst 0, 1), (9, .iconst 0, 1), (10, .iconst 0, 1), (11, .iconst 0, 1), (12, .invokevirtual 199, 3), (15, .ifCond .eq 37, 3), (18, .aload_n 0, 1), (19, .invokevirtual 223, 3), (22, .ifCond .ne 5, 3), (25, .iconst 0, 1), (26, .ireturn, 1), (27, .aload_n 0, 1), (28, .invokevirtual 280, 3), (31, .istore_n 1, 1), (32, .aload_n 0, 1), (33, .dup, 1), (34, .getfield 190, 3), (37, .iconst 1, 1), (38, .isub, 1), (39, .putfield 190, 3), (42, .iload_n 1, 1), (43, .ifCond .ne 7, 3), (46, .iconst 1, 1), (47, .goto 4, 3), (50, .iconst 0, 1), (51, .ireturn, 1), (52, .aload_n 0, 1), (53, .invokevirtual 295, 3), (56, .istore_n 1, 1), (57, .aload_n 0, 1), (58, .bipush 60, 2), (60, .invokevirtual 220, 3), (63, .ifCond .ne 14, 3), (66, .aload_n 0, 1), (67, .bipush 61, 2)]
theorem zhX9_not2_0 : zd_chk (cX9_not2.data.toList.drop 0) 0 ziX9_not2_0 = true := by decide +kernel
theorem dX9_not2_0 : decode cX9_not2 0 = .ok (.aload_n 0, 1) := zd_at zhX9_not2_0 0 rfl
theorem dX9_not2_1 : decode cX9_not2 1 = .ok (.bipush 110, 2) := zd_at zhX9_not2_0 1 rfl
theorem dX9_not2_3 : decode cX9_not2 3 = .ok (.bipush 111, 2) := zd_at zhX9_not2_0 2 rfl
theorem dX9_not2_5 : decode cX9_not2 5 = .ok (.bipush 116, 2) := zd_at zhX9_not2_0 3 rfl
theorem dX9_not2_7 : decode cX9_not2 7 = .ok (.iconst 0, 1) := zd_at zhX9_not2_0 4 rfl
theorem dX9_not2_8 : decode cX9_not2 8 = .ok (.iconst 0, 1) := zd_at zhX9_not2_0 5 rfl
theorem dX9_not2_9 : decode cX9_not2 9 = .ok (.iconst 0, 1) := zd_at zhX9_not2_0 6 rfl
theorem dX9_not2_10 : decode cX9_not2 10 = .ok (.iconst 0, 1) := zd_at zhX9_not2_0 7 rfl
theorem dX9_not2_11 : decode cX9_not2 11 = .ok (.iconst 0, 1) := zd_at zhX9_not2_0 8 rfl
theorem dX9_not2_12 : decode cX9_not2 12 = .ok (.invokevirtual 199, 3) := zd_at zhX9_not2_0 9 rfl
theorem dX9_not2_15 : decode cX9_not2 15 = .ok (.ifCond .eq 37, 3) := zd_at zhX9_not2_0 10 rfl
theorem dX9_not2_18 : decode cX9_not2 18 = .ok (.aload_n 0, 1) := zd_at zhX9_not2_0 11 rfl
theorem dX9_not2_19 : decode cX9_not2 19 = .ok (.invokevirtual 223, 3) := zd_at zhX9_not2_0 12 rfl
theorem dX9_not2_22 : decode cX9_not2 22 = .ok (.ifCond .ne 5, 3) := zd_at zhX9_not2_0 13 rfl
theorem dX9_not2_25 : decode cX9_not2 25 = .ok (.iconst 0, 1) := zd_at zhX9_not2_0 14 rfl
theorem dX9_not2_26 : decode cX9_not2 26 = .ok (.ireturn, 1) := zd_at zhX9_not2_0 15 rfl
theorem dX9_not2_27 : decode cX9_not2 27 = .ok (.aload_n 0, 1) := zd_at zhX9_not2_0 16 rfl
theorem dX9_not2_28 : decode cX9_not2 28 = .ok (.invokevirtual 280, 3) := zd_at zhX9_not2_0 17 rfl
theorem dX9_not2_31 : decode cX9_not2 31 = .ok (.istore_n 1, 1) := zd_at zhX9_not2_0 18 rfl
theorem dX9_not2_32 : decode cX9_not2 32 = .ok (.aload_n 0, 1) := zd_at zhX9_not2_0 19 rfl
theorem dX9_not2_33 : decode cX9_not2 33 = .ok (.dup, 1) := zd_at zhX9_not2_0 20 rfl
theorem dX9_not2_34 : decode cX9_not2 34 = .ok (.getfield 190, 3) := zd_at zhX9_not2_0 21 rfl
theorem dX9_not2_37 : decode cX9_not2 37 = .ok (.iconst 1, 1) := zd_at zhX9_not2_0 22 rfl
theorem dX9_not2_38 : decode cX9_not2 38 = .ok (.isub, 1) := zd_at zhX9_not2_0 23 rfl
theorem dX9_not2_39 : decode cX9_not2 39 = .ok (.putfield 190, 3) := zd_at zhX9_not2_0 24 rfl
theorem dX9_not2_42 : decode cX9_not2 42 = .ok (.iload_n 1, 1) := zd_at zhX9_not2_0 25 rfl
theorem dX9_not2_43 : decode cX9_not2 43 = .ok (.ifCond .ne 7, 3) := zd_at zhX9_not2_0 26 rfl
theorem dX9_not2_46 : decode cX9_not2 46 = .ok (.iconst 1, 1) := zd_at zhX9_not2_0 27 rfl
theorem dX9_not2_47 : decode cX9_not2 47 = .ok (.goto 4, 3) := zd_at zhX9_not2_0 28 rfl
theorem dX9_not2_50 : decode cX9_not2 50 = .ok (.iconst 0, 1) := zd_at zhX9_not2_0 29 rfl
theorem dX9_not2_51 : decode cX9_not2 51 = .ok (.ireturn, 1) := zd_at zhX9_not2_0 30 rfl
theorem dX9_not2_52 : decode cX9_not2 52 = .ok (.aload_n 0, 1) := zd_at zhX9_not2_0 31 rfl
theorem dX9_not2_53 : decode cX9_not2 53 = .ok (.invokevirtual 295, 3) := zd_at zhX9_not2_0 32 rfl
theorem dX9_not2_56 : decode cX9_not2 56 = .ok (.istore_n 1, 1) := zd_at zhX9_not2_0 33 rfl
theorem dX9_not2_57 : decode cX9_not2 57 = .ok (.aload_n 0, 1) := zd_at zhX9_not2_0 34 rfl
theorem dX9_not2_58 : decode cX9_not2 58 = .ok (.bipush 60, 2) := zd_at zhX9_not2_0 35 rfl
theorem dX9_not2_60 : decode cX9_not2 60 = .ok (.invokevirtual 220, 3) := zd_at zhX9_not2_0 36 rfl
theorem dX9_not2_63 : decode cX9_not2 63 = .ok (.ifCond .ne 14, 3) := zd_at zhX9_not2_0 37 rfl
theorem dX9_not2_66 : decode cX9_not2 66 = .ok (.aload_n 0, 1) := zd_at zhX9_not2_0 38 rfl
theorem dX9_not2_67 : decode cX9_not2 67 = .ok (.bipush 61, 2) := zd_at zhX9_not2_0 39 rfl
def ziX9_not2_69 : List (Nat × Instr × Nat) := [(69, .invokevirtual 220, 3), (72, .ifCond .ne 5, 3), (75, .iload_n 1, 1), (76, .ireturn, 1), (77, .aload_n 0, 1), (78, .getfield 175, 3), (81, .ldc2_w 242, 3), (84, .lcmp, 1), (85, .ifCond .ne 7, 3), (88, .iconst 1, 1), (89, .goto 4, 3), (92, .iconst 0, 1), (93, .istore_n 2, 1), (94, .aload_n 0, 1), (95, .invokevirtual 196, 3), (98, .aload_n 0, 1), (99, .invokevirtual 295, 3), (102, .istore_n 3, 1), (103, .iload_n 2, 1), (104, .ifCond .eq 11, 3), (107, .iload_n 1, 1), (108, .iload_n 3, 1), (109, .if_icmp .ge 15, 3), (112, .goto 8, 3), (115, .iload_n 1, 1), (116, .iload_n 3, 1), (117, .if_icmp .ne 7, 3), (120, .iconst 1, 1), (121, .goto 4, 3), (124, .iconst 0, 1), (125, .ireturn, 1)]
theorem zhX9_not2_69 : zd_chk (cX9_not2.data.toList.drop 69) 69 ziX9_not2_69 = true := by decide +kernel
theorem dX9_not2_69 : decode cX9_not2 69 = .ok (.invokevirtual 220, 3) := zd_at zhX9_not2_69 0 rfl
theorem dX9_not2_72 : decode cX9_not2 72 = .ok (.ifCond .ne 5, 3) := zd_at zhX9_not2_69 1 rfl
theorem dX9_not2_75 : decode cX9_not2 75 = .ok (.iload_n 1, 1) := zd_at zhX9_not2_69 2 rfl
theorem dX9_not2_76 : decode cX9_not2 76 = .ok (.ireturn, 1) := zd_at zhX9_not2_69 3 rfl
theorem dX9_not2_77 : decode cX9_not2 77 = .ok (.aload_n 0, 1) := zd_at zhX9_not2_69 4 rfl
theorem dX9_not2_78 : decode cX9_not2 78 = .ok (.getfield 175, 3) := zd_at zhX9_not2_69 5 rfl
theorem dX9_not2_81 : decode cX9_not2 81 = .ok (.ldc2_w 242, 3) := zd_at zhX9_not2_69 6 rfl
theorem dX9_not2_84 : decode cX9_not2 84 = .ok (.lcmp, 1) := zd_at zhX9_not2_69 7 rfl
theorem dX9_not2_85 : decode cX9_not2 85 = .ok (.ifCond .ne 7, 3) := zd_at zhX9_not2_69 8 rfl
theorem dX9_not2_88 : decode cX9_not2 88 = .ok (.iconst 1, 1) := zd_at zhX9_not2_69 9 rfl
theorem dX9_not2_89 : decode cX9_not2 89 = .ok (.goto 4, 3) := zd_at zhX9_not2_69 10 rfl
theorem dX9_not2_92 : decode cX9_not2 92 = .ok (.iconst 0, 1) := zd_at zhX9_not2_69 11 rfl
theorem dX9_not2_93 : decode cX9_not2 93 = .ok (.istore_n 2, 1) := zd_at zhX9_not2_69 12 rfl
theorem dX9_not2_94 : decode cX9_not2 94 = .ok (.aload_n 0, 1) := zd_at zhX9_not2_69 13 rfl
theorem dX9_not2_95 : decode cX9_not2 95 = .ok (.invokevirtual 196, 3) := zd_at zhX9_not2_69 14 rfl
theorem dX9_not2_98 : decode cX9_not2 98 = .ok (.aload_n 0, 1) := zd_at zhX9_not2_69 15 rfl
theorem dX9_not2_99 : decode cX9_not2 99 = .ok (.invokevirtual 295, 3) := zd_at zhX9_not2_69 16 rfl
theorem dX9_not2_102 : decode cX9_not2 102 = .ok (.istore_n 3, 1) := zd_at zhX9_not2_69 17 rfl
theorem dX9_not2_103 : decode cX9_not2 103 = .ok (.iload_n 2, 1) := zd_at zhX9_not2_69 18 rfl
theorem dX9_not2_104 : decode cX9_not2 104 = .ok (.ifCond .eq 11, 3) := zd_at zhX9_not2_69 19 rfl
theorem dX9_not2_107 : decode cX9_not2 107 = .ok (.iload_n 1, 1) := zd_at zhX9_not2_69 20 rfl
theorem dX9_not2_108 : decode cX9_not2 108 = .ok (.iload_n 3, 1) := zd_at zhX9_not2_69 21 rfl
theorem dX9_not2_109 : decode cX9_not2 109 = .ok (.if_icmp .ge 15, 3) := zd_at zhX9_not2_69 22 rfl
theorem dX9_not2_112 : decode cX9_not2 112 = .ok (.goto 8, 3) := zd_at zhX9_not2_69 23 rfl
theorem dX9_not2_115 : decode cX9_not2 115 = .ok (.iload_n 1, 1) := zd_at zhX9_not2_69 24 rfl
theorem dX9_not2_116 : decode cX9_not2 116 = .ok (.iload_n 3, 1) := zd_at zhX9_not2_69 25 rfl
theorem dX9_not2_117 : decode cX9_not2 117 = .ok (.if_icmp .ne 7, 3) := zd_at zhX9_not2_69 26 rfl
theorem dX9_not2_120 : decode cX9_not2 120 = .ok (.iconst 1, 1) := zd_at zhX9_not2_69 27 rfl
theorem dX9_not2_121 : decode cX9_not2 121 = .ok (.goto 4, 3) := zd_at zhX9_not2_69 28 rfl
theorem dX9_not2_124 : decode cX9_not2 124 = .ok (.iconst 0, 1) := zd_at zhX9_not2_69 29 rfl
theorem dX9_not2_125 : decode cX9_not2 125 = .ok (.ireturn, 1) := zd_at zhX9_not2_69 30 rfl
def ziX9_both2_0 : List (Nat × Instr × Nat) := [(0, .aload_n 0, 1), (1, .invokevirtual 298, 3), (4, .istore_n 1, 1), (5, .aload_n 0, 1), (6, .bipush 97, 2), (8, .bipush 110, 2), (10, .bipush 100, 2), (12, .iconst 0, 1), (13, .iconst 0, 1), (14, .iconst 0, 1), (15, .iconst 0, 1), (16, .iconst 0, 1), (17, .invokevirtual 199, 3), (20, .ifCond .eq 29, 3), (23, .aload_n 0, 1), (24, .invokevirtual 196, 3), (27, .aload_n 0, 1), (28, .invokevirtual 298, 3), (31, .istore_n 2, 1), (32, .iload_n 1, 1), (33, .ifCond .eq 11, 3), (36, .iload_n 2, 1), (37, .ifCond .eq 7, 3), (40, .iconst 1, 1), (41, .goto 4, 3), (44, .iconst 0, 1), (45, .istore_n 1, 1), (46, .goto (-41), 3), (49, .iload_n 1, 1), (50, .ireturn, 1)]
theorem zhX9_both2_0 : zd_chk (cX9_both2.data.toList.drop 0) 0 ziX9_both2_0 = true := by decide +kernel
theorem dX9_both2_0 : decode cX9_both2 0 = .ok (.aload_n 0, 1) := zd_at zhX9_both2_0 0 rfl
theorem dX9_both2_1 : decode cX9_both2 1 = .ok (.invokevirtual 298, 3) := zd_at zhX9_both2_0 1 rfl
theorem dX9_both2_4 : decode cX9_both2 4 = .ok (.istore_n 1, 1) := zd_at zhX9_both2_0 2 rfl
theorem dX9_both2_5 : decode cX9_both2 5 = .ok (.aload_n 0, 1) := zd_at zhX9_both2_0 3 rfl
theorem dX9_both2_6 : decode cX9_both2 6 = .ok (.bipush 97, 2) := zd_at zhX9_both2_0 4 rfl
theorem dX9_both2_8 : decode cX9_both2 8 = .ok (.bipush 110, 2) := zd_at zhX9_both2_0 5 rfl
theorem dX9_both2_10 : decode cX9_both2 10 = .ok (.bipush 100, 2) := zd_at zhX9_both2_0 6 rfl
theorem dX9_both2_12 : decode cX9_both2 12 = .ok (.iconst 0, 1) := zd_at zhX9_both2_0 7 rfl
theorem dX9_both2_13 : decode cX9_both2 13 = .ok (.iconst 0, 1) := zd_at zhX9_both2_0 8 rfl
theorem dX9_both2_14 : decode cX9_both2 14 = .ok (.iconst 0, 1) := zd_at zhX9_both2_0 9 rfl
theorem dX9_both2_15 : decode cX9_both2 15 = .ok (.iconst 0, 1) := zd_at zhX9_both2_0 10 rfl
theorem dX9_both2_16 : decode cX9_both2 16 = .ok (.iconst 0, 1) := zd_at zhX9_both2_0 11 rfl
theorem dX9_both2_17 : decode cX9_both2 17 = .ok (.invokevirtual 199, 3) := zd_at zhX9_both2_0 12 rfl
theorem dX9_both2_20 : decode cX9_both2 20 = .ok (.ifCond .eq 29, 3) := zd_at zhX9_both2_0 13 rfl
theorem dX9_both2_23 : decode cX9_both2 23 = .ok (.aload_n 0, 1) := zd_at zhX9_both2_0 14 rfl
theorem dX9_both2_24 : decode cX9_both2 24 = .ok (.invokevirtual 196, 3) := zd_at zhX9_both2_0 15 rfl
theorem dX9_both2_27 : decode cX9_both2 27 = .ok (.aload_n 0, 1) := zd_at zhX9_both2_0 16 rfl
theorem dX9_both2_28 : decode cX9_both2 28 = .ok (.invokevirtual 298, 3) := zd_at zhX9_both2_0 17 rfl
theorem dX9_both2_31 : decode cX9_both2 31 = .ok (.istore_n 2, 1) := zd_at zhX9_both2_0 18 rfl
theorem dX9_both2_32 : decode cX9_both2 32 = .ok (.iload_n 1, 1) := zd_at zhX9_both2_0 19 rfl
theorem dX9_both2_33 : decode cX9_both2 33 = .ok (.ifCond .eq 11, 3) := zd_at zhX9_both2_0 20 rfl
theorem dX9_both2_36 : decode cX9_both2 36 = .ok (.iload_n 2, 1) := zd_at zhX9_both2_0 21 rfl
theorem dX9_both2_37 : decode cX9_both2 37 = .ok (.ifCond .eq 7, 3) := zd_at zhX9_both2_0 22 rfl
theorem dX9_both2_40 : decode cX9_both2 40 = .ok (.iconst 1, 1) := zd_at zhX9_both2_0 23 rfl
theorem dX9_both2_41 : decode cX9_both2 41 = .ok (.goto 4, 3) := zd_at zhX9_both2_0 24 rfl
theorem dX9_both2_44 : decode cX9_both2 44 = .ok (.iconst 0, 1) := zd_at zhX9_both2_0 25 rfl
theorem dX9_both2_45 : decode cX9_both2 45 = .ok (.istore_n 1, 1) := zd_at zhX9_both2_0 26 rfl
theorem dX9_both2_46 : decode cX9_both2 46 = .ok (.goto (-41), 3) := zd_at zhX9_both2_0 27 rfl
theorem dX9_both2_49 : decode cX9_both2 49 = .ok (.iload_n 1, 1) := zd_at zhX9_both2_0 28 rfl
theorem dX9_both2_50 : decode cX9_both2 50 = .ok (.ireturn, 1) := zd_at zhX9_both2_0 29 rfl
def ziX9_either2_0 : List (Nat × Instr × Nat) := [(0, .aload_n 0, 1), (1, .invokevirtual 301, 3), (4, .istore_n 1, 1), (5, .aload_n 0, 1), (6, .bipush 111, 2), (8, .bipush 114, 2), (10, .iconst 0, 1), (11, .iconst 0, 1), (12, .iconst 0, 1), (13, .iconst 0, 1), (14, .iconst 0, 1), (15, .iconst 0, 1), (16, .invokevirtual 199, 3), (19, .ifCond .eq 29, 3), (22, .aload_n 0, 1), (23, .invokevirtual 196, 3), (26, .aload_n 0, 1), (27, .invokevirtual 301, 3), (30, .istore_n 2, 1), (31, .iload_n 1, 1), (32, .ifCond .ne 7, 3), (35, .iload_n 2, 1), (36, .ifCond .eq 7, 3), (39, .iconst 1, 1), (40, .goto 4, 3), (43, .iconst 0, 1), (44, .istore_n 1, 1), (45, .goto (-40), 3), (48, .iload_n 1, 1), (49, .ireturn, 1)]
theorem zhX9_either2_0 : zd_chk (cX9_either2.data.toList.drop 0) 0 ziX9_either2_0 = true := by decide +kernel
theorem dX9_either2_0 : decode cX9_either2 0 = .ok (.aload_n 0, 1) := zd_at zhX9_either2_0 0 rfl
theorem dX9_either2_1 : decode cX9_either2 1 = .ok (.invokevirtual 301, 3) := zd_at zhX9_either2_0 1 rfl
theorem dX9_either2_4 : decode cX9_either2 4 = .ok (.istore_n 1, 1) := zd_at zhX9_either2_0 2 rfl
theorem dX9_either2_5 : decode cX9_either2 5 = .ok (.aload_n 0, 1) := zd_at zhX9_either2_0 3 rfl
theorem dX9_either2_6 : decode cX9_either2 6 = .ok (.bipush 111, 2) := zd_at zhX9_either2_0 4 rfl
theorem dX9_either2_8 : decode cX9_either2 8 = .ok (.bipush 114, 2) := zd_at zhX9_either2_0 5 rfl
theorem dX9_either2_10 : decode cX9_either2 10 = .ok (.iconst 0, 1) := zd_at zhX9_either2_0 6 rfl
theorem dX9_either2_11 : decode cX9_either2 11 = .ok (.iconst 0, 1) := zd_at zhX9_either2_0 7 rfl
theorem dX9_either2_12 : decode cX9_either2 12 = .ok (.iconst 0, 1) := zd_at zhX9_either2_0 8 rfl
theorem dX9_either2_13 : decode cX9_either2 13 = .ok (.iconst 0, 1) := zd_at zhX9_either2_0 9 rfl
theorem dX9_either2_14 : decode cX9_either2 14 = .ok (.iconst 0, 1) := zd_at zhX9_either2_0 10 rfl
theorem dX9_either2_15 : decode cX9_either2 15 = .ok (.iconst 0, 1) := zd_at zhX9_either2_0 11 rfl
theorem dX9_either2_16 : decode cX9_either2 16 = .ok (.invokevirtual 199, 3) := zd_at zhX9_either2_0 12 rfl
theorem dX9_either2_19 : decode cX9_either2 19 = .ok (.ifCond .eq 29, 3) := zd_at zhX9_either2_0 13 rfl
theorem dX9_either2_22 : decode cX9_either2 22 = .ok (.aload_n 0, 1) := zd_at zhX9_either2_0 14 rfl
theorem dX9_either2_23 : decode cX9_either2 23 = .ok (.invokevirtual 196, 3) := zd_at zhX9_either2_0 15 rfl
theorem dX9_either2_26 : decode cX9_either2 26 = .ok (.aload_n 0, 1) := zd_at zhX9_either2_0 16 rfl
theorem dX9_either2_27 : decode cX9_either2 27 = .ok (.invokevirtual 301, 3) := zd_at zhX9_either2_0 17 rfl
theorem dX9_either2_30 : decode cX9_either2 30 = .ok (.istore_n 2, 1) := zd_at zhX9_either2_0 18 rfl
theorem dX9_either2_31 : decode cX9_either2 31 = .ok (.iload_n 1, 1) := zd_at zhX9_either2_0 19 rfl
theorem dX9_either2_32 : decode cX9_either2 32 = .ok (.ifCond .ne 7, 3) := zd_at zhX9_either2_0 20 rfl
theorem dX9_either2_35 : decode cX9_either2 35 = .ok (.iload_n 2, 1) := zd_at zhX9_either2_0 21 rfl
theorem dX9_either2_36 : decode cX9_either2 36 = .ok (.ifCond .eq 7, 3) := zd_at zhX9_either2_0 22 rfl
theorem dX9_either2_39 : decode cX9_either2 39 = .ok (.iconst 1, 1) := zd_at zhX9_either2_0 23 rfl
theorem dX9_either2_40 : decode cX9_either2 40 = .ok (.goto 4, 3) := zd_at zhX9_either2_0 24 rfl
theorem dX9_either2_43 : decode cX9_either2 43 = .ok (.iconst 0, 1) := zd_at zhX9_either2_0 25 rfl
theorem dX9_either2_44 : decode cX9_either2 44 = .ok (.istore_n 1, 1) := zd_at zhX9_either2_0 26 rfl
theorem dX9_either2_45 : decode cX9_either2 45 = .ok (.goto (-40), 3) := zd_at zhX9_either2_0 27 rfl
theorem dX9_either2_48 : decode cX9_either2 48 = .ok (.iload_n 1, 1) := zd_at zhX9_either2_0 28 rfl
theorem dX9_either2_49 : decode cX9_either2 49 = .ok (.ireturn, 1) := zd_at zhX9_either2_0 29 rfl
def ziX9_atom1_0 : List (Nat × Instr × Nat) := [(0, .iconst 0, 1), (1, .istore_n 1, 1), (2, .aload_n 0, 1), (3, .bipush 45, 2), (5, .invokevirtual 220, 3), (8, .ifCond .eq 29, 3), (11, .aload_n 0, 1), (12, .invokevirtual 223, 3), (15, .ifCond .eq 146, 3), (18, .aload_n 0, 1), (19, .invokevirtual 289, 3), (22, .ineg, 1), (23, .istore_n 1, 1), (24, .aload_n 0, 1), (25, .dup, 1), (26, .getfield 190, 3), (29, .iconst 1, 1), (30, .isub, 1), (31, .putfield 190, 3), (34, .goto 127, 3), (37, .aload_n 0, 1), (38, .bipush 40, 2), (40, .invokevirtual 220, 3), (43, .ifCond .eq 52, 3), (46, .aload_n 0, 1), (47, .invokevirtual 223, 3), (50, .ifCond .eq 111, 3), (53, .aload_n 0, 1), (54, .invokevirtual 304, 3), (57, .istore_n 1, 1), (58, .aload_n 0, 1), (59, .bipush 41, 2), (61, .invokevirtual 220, 3), (64, .ifCond .ne 7, 3), (67, .aload_n 0, 1), (68, .invokevirtual 193, 3), (71, .aload_n 0, 1), (72, .dup, 1), (73, .getfield 190, 3), (76, .iconst 1, 1)]
theorem zhX9_atom1_0 : zd_chk (cX9_atom1.data.toList.drop 0) 0 ziX9_atom1_0 = true := by decide +kernel
theorem dX9_atom1_0 : decode cX9_atom1 0 = .ok (.iconst 0, 1) := zd_at zhX9_atom1_0 0 rfl
theorem dX9_atom1_1 : decode cX9_atom1 1 = .ok (.istore_n 1, 1) := zd_at zhX9_atom1_0 1 rfl
theorem dX9_atom1_2 : decode cX9_atom1 2 = .ok (.aload_n 0, 1) := zd_at zhX9_atom1_0 2 rfl
theorem dX9_atom1_3 : decode cX9_atom1 3 = .ok (.bipush 45, 2) := zd_at zhX9_atom1_0 3 rfl
theorem dX9_atom1_5 : decode cX9_atom1 5 = .ok (.invokevirtual 220, 3) := zd_at zhX9_atom1_0 4 rfl
theorem dX9_atom1_8 : decode cX9_atom1 8 = .ok (.ifCond .eq 29, 3) := zd_at zhX9_atom1_0 5 rfl
theorem dX9_atom1_11 : decode cX9_atom1 11 = .ok (.aload_n 0, 1) := zd_at zhX9_atom1_0 6 rfl
theorem dX9_atom1_12 : decode cX9_atom1 12 = .ok (.invokevirtual 223, 3) := zd_at zhX9_atom1_0 7 rfl
theorem dX9_atom1_15 : decode cX9_atom1 15 = .ok (.ifCond .eq 146, 3) := zd_at zhX9_atom1_0 8 rfl
theorem dX9_atom1_18 : decode cX9_atom1 18 = .ok (.aload_n 0, 1) := zd_at zhX9_atom1_0 9 rfl
theorem dX9_atom1_19 : decode cX9_atom1 19 = .ok (.invokevirtual 289, 3) := zd_at zhX9_atom1_0 10 rfl
theorem dX9_atom1_22 : decode cX9_atom1 22 = .ok (.ineg, 1) := zd_at zhX9_atom1_0 11 rfl
theorem dX9_atom1_23 : decode cX9_atom1 23 = .ok (.istore_n 1, 1) := zd_at zhX9_atom1_0 12 rfl
theorem dX9_atom1_24 : decode cX9_atom1 24 = .ok (.aload_n 0, 1) := zd_at zhX9_atom1_0 13 rfl
theorem dX9_atom1_25 : decode cX9_atom1 25 = .ok (.dup, 1) := zd_at zhX9_atom1_0 14 rfl
theorem dX9_atom1_26 : decode cX9_atom1 26 = .ok (.getfield 190, 3) := zd_at zhX9_atom1_0 15 rfl
theorem dX9_atom1_29 : decode cX9_atom1 29 = .ok (.iconst 1, 1) := zd_at zhX9_atom1_0 16 rfl
theorem dX9_atom1_30 : decode cX9_atom1 30 = .ok (.isub, 1) := zd_at zhX9_atom1_0 17 rfl
theorem dX9_atom1_31 : decode cX9_atom1 31 = .ok (.putfield 190, 3) := zd_at zhX9_atom1_0 18 rfl
theorem dX9_atom1_34 : decode cX9_atom1 34 = .ok (.goto 127, 3) := zd_at zhX9_atom1_0 19 rfl
theorem dX9_atom1_37 : decode cX9_atom1 37 = .ok (.aload_n 0, 1) := zd_at zhX9_atom1_0 20 rfl
theorem dX9_atom1_38 : decode cX9_atom1 38 = .ok (.bipush 40, 2) := zd_at zhX9_atom1_0 21 rfl
theorem dX9_atom1_40 : decode cX9_atom1 40 = .ok (.invokevirtual 220, 3) := zd_at zhX9_atom1_0 22 rfl
theorem dX9_atom1_43 : decode cX9_atom1 43 = .ok (.ifCond .eq 52, 3) := zd_at zhX9_atom1_0 23 rfl
theorem dX9_atom1_46 : decode cX9_atom1 46 = .ok (.aload_n 0, 1) := zd_at zhX9_atom1_0 24 rfl
theorem dX9_atom1_47 : decode cX9_atom1 47 = .ok (.invokevirtual 223, 3) := zd_at zhX9_atom1_0 25 rfl
theorem dX9_atom1_50 : decode cX9_atom1 50 = .ok (.ifCond .eq 111, 3) := zd_at zhX9_atom1_0 26 rfl
theorem dX9_atom1_53 : decode cX9_atom1 53 = .ok (.aload_n 0, 1) := zd_at zhX9_atom1_0 27 rfl
theorem dX9_atom1_54 : decode cX9_atom1 54 = .ok (.invokevirtual 304, 3) := zd_at zhX9_atom1_0 28 rfl
theorem dX9_atom1_57 : decode cX9_atom1 57 = .ok (.istore_n 1, 1) := zd_at zhX9_atom1_0 29 rfl
theorem dX9_atom1_58 : decode cX9_atom1 58 = .ok (.aload_n 0, 1) := zd_at zhX9_atom1_0 30 rfl
theorem dX9_atom1_59 : decode cX9_atom1 59 = .ok (.bipush 41, 2) := zd_at zhX9_atom1_0 31 rfl
theorem dX9_atom1_61 : decode cX9_atom1 61 = .ok (.invokevirtual 220, 3) := zd_at zhX9_atom1_0 32 rfl
theorem dX9_atom1_64 : decode cX9_atom1 64 = .ok (.ifCond .ne 7, 3) := zd_at zhX9_atom1_0 33 rfl
theorem dX9_atom1_67 : decode cX9_atom1 67 = .ok (.aload_n 0, 1) := zd_at zhX9_atom1_0 34 rfl
theorem dX9_atom1_68 : decode cX9_atom1 68 = .ok (.invokevirtual 193, 3) := zd_at zhX9_atom1_0 35 rfl
theorem dX9_atom1_71 : decode cX9_atom1 71 = .ok (.aload_n 0, 1) := zd_at zhX9_atom1_0 36 rfl
theorem dX9_atom1_72 : decode cX9_atom1 72 = .ok (.dup, 1) := zd_at zhX9_atom1_0 37 rfl
theorem dX9_atom1_73 : decode cX9_atom1 73 = .ok (.getfield 190, 3) := zd_at zhX9_atom1_0 38 rfl
theorem dX9_atom1_76 : decode cX9_atom1 76 = .ok (.iconst 1, 1) := zd_at zhX9_atom1_0 39 rfl
def ziX9_atom1_77 : List (Nat × Instr × Nat) := [(77, .isub, 1), (78, .putfield 190, 3), (81, .aload_n 0, 1), (82, .getfield 179, 3), (85, .ifCond .ne 76, 3), (88, .aload_n 0, 1), (89, .invokevirtual 196, 3), (92, .goto 69, 3), (95, .aload_n 0, 1), (96, .getfield 179, 3), (99, .ifCond .ne 24, 3), (102, .aload_n 0, 1), (103, .getfield 164, 3), (106, .iconst 2, 1), (107, .if_icmp .ne 16, 3), (110, .aload_n 0, 1), (111, .getfield 175, 3), (114, .l2i, 1), (115, .istore_n 1, 1), (116, .aload_n 0, 1), (117, .invokevirtual 196, 3), (120, .goto 41, 3), (123, .aload_n 0, 1), (124, .getfield 179, 3), (127, .ifCond .ne 30, 3), (130, .aload_n 0, 1), (131, .getfield 164, 3), (134, .iconst 1, 1), (135, .if_icmp .ne 22, 3), (138, .aload_n 0, 1), (139, .invokevirtual 227, 3), (142, .istore_n 1, 1), (143, .aload_n 0, 1), (144, .getfield 179, 3), (147, .ifCond .ne 14, 3), (150, .aload_n 0, 1), (151, .invokevirtual 196, 3), (154, .goto 7, 3), (157, .aload_n 0, 1), (158, .invokevirtual 193, 3)]
theorem zhX9_atom1_77 : zd_chk (cX9_atom1.data.toList.drop 77) 77 ziX9_atom1_77 = true := by decide +kernel
theorem dX9_atom1_77 : decode cX9_atom1 77 = .ok (.isub, 1) := zd_at zhX9_atom1_77 0 rfl
theorem dX9_atom1_78 : decode cX9_atom1 78 = .ok (.putfield 190, 3) := zd_at zhX9_atom1_77 1 rfl
theorem dX9_atom1_81 : decode cX9_atom1 81 = .ok (.aload_n 0, 1) := zd_at zhX9_atom1_77 2 rfl
theorem dX9_atom1_82 : decode cX9_atom1 82 = .ok (.getfield 179, 3) := zd_at zhX9_atom1_77 3 rfl
theorem dX9_atom1_85 : decode cX9_atom1 85 = .ok (.ifCond .ne 76, 3) := zd_at zhX9_atom1_77 4 rfl
theorem dX9_atom1_88 : decode cX9_atom1 88 = .ok (.aload_n 0, 1) := zd_at zhX9_atom1_77 5 rfl
theorem dX9_atom1_89 : decode cX9_atom1 89 = .ok (.invokevirtual 196, 3) := zd_at zhX9_atom1_77 6 rfl
theorem dX9_atom1_92 : decode cX9_atom1 92 = .ok (.goto 69, 3) := zd_at zhX9_atom1_77 7 rfl
theorem dX9_atom1_95 : decode cX9_atom1 95 = .ok (.aload_n 0, 1) := zd_at zhX9_atom1_77 8 rfl
theorem dX9_atom1_96 : decode cX9_atom1 96 = .ok (.getfield 179, 3) := zd_at zhX9_atom1_77 9 rfl
theorem dX9_atom1_99 : decode cX9_atom1 99 = .ok (.ifCond .ne 24, 3) := zd_at zhX9_atom1_77 10 rfl
theorem dX9_atom1_102 : decode cX9_atom1 102 = .ok (.aload_n 0, 1) := zd_at zhX9_atom1_77 11 rfl
theorem dX9_atom1_103 : decode cX9_atom1 103 = .ok (.getfield 164, 3) := zd_at zhX9_atom1_77 12 rfl
theorem dX9_atom1_106 : decode cX9_atom1 106 = .ok (.iconst 2, 1) := zd_at zhX9_atom1_77 13 rfl
theorem dX9_atom1_107 : decode cX9_atom1 107 = .ok (.if_icmp .ne 16, 3) := zd_at zhX9_atom1_77 14 rfl
theorem dX9_atom1_110 : decode cX9_atom1 110 = .ok (.aload_n 0, 1) := zd_at zhX9_atom1_77 15 rfl
theorem dX9_atom1_111 : decode cX9_atom1 111 = .ok (.getfield 175, 3) := zd_at zhX9_atom1_77 16 rfl
theorem dX9_atom1_114 : decode cX9_atom1 114 = .ok (.l2i, 1) := zd_at zhX9_atom1_77 17 rfl
theorem dX9_atom1_115 : decode cX9_atom1 115 = .ok (.istore_n 1, 1) := zd_at zhX9_atom1_77 18 rfl
theorem dX9_atom1_116 : decode cX9_atom1 116 = .ok (.aload_n 0, 1) := zd_at zhX9_atom1_77 19 rfl
theorem dX9_atom1_117 : decode cX9_atom1 117 = .ok (.invokevirtual 196, 3) := zd_at zhX9_atom1_77 20 rfl
theorem dX9_atom1_120 : decode cX9_atom1 120 = .ok (.goto 41, 3) := zd_at zhX9_atom1_77 21 rfl
theorem dX9_atom1_123 : decode cX9_atom1 123 = .ok (.aload_n 0, 1) := zd_at zhX9_atom1_77 22 rfl
theorem dX9_atom1_124 : decode cX9_atom1 124 = .ok (.getfield 179, 3) := zd_at zhX9_atom1_77 23 rfl
theorem dX9_atom1_127 : decode cX9_atom1 127 = .ok (.ifCond .ne 30, 3) := zd_at zhX9_atom1_77 24 rfl
theorem dX9_atom1_130 : decode cX9_atom1 130 = .ok (.aload_n 0, 1) := zd_at zhX9_atom1_77 25 rfl
theorem dX9_atom1_131 : decode cX9_atom1 131 = .ok (.getfield 164, 3) := zd_at zhX9_atom1_77 26 rfl
theorem dX9_atom1_134 : decode cX9_atom1 134 = .ok (.iconst 1, 1) := zd_at zhX9_atom1_77 27 rfl
theorem dX9_atom1_135 : decode cX9_atom1 135 = .ok (.if_icmp .ne 22, 3) := zd_at zhX9_atom1_77 28 rfl
theorem dX9_atom1_138 : decode cX9_atom1 138 = .ok (.aload_n 0, 1) := zd_at zhX9_atom1_77 29 rfl
theorem dX9_atom1_139 : decode cX9_atom1 139 = .ok (.invokevirtual 227, 3) := zd_at zhX9_atom1_77 30 rfl
theorem dX9_atom1_142 : decode cX9_atom1 142 = .ok (.istore_n 1, 1) := zd_at zhX9_atom1_77 31 rfl
theorem dX9_atom1_143 : decode cX9_atom1 143 = .ok (.aload_n 0, 1) := zd_at zhX9_atom1_77 32 rfl
theorem dX9_atom1_144 : decode cX9_atom1 144 = .ok (.getfield 179, 3) := zd_at zhX9_atom1_77 33 rfl
theorem dX9_atom1_147 : decode cX9_atom1 147 = .ok (.ifCond .ne 14, 3) := zd_at zhX9_atom1_77 34 rfl
theorem dX9_atom1_150 : decode cX9_atom1 150 = .ok (.aload_n 0, 1) := zd_at zhX9_atom1_77 35 rfl
theorem dX9_atom1_151 : decode cX9_atom1 151 = .ok (.invokevirtual 196, 3) := zd_at zhX9_atom1_77 36 rfl
theorem dX9_atom1_154 : decode cX9_atom1 154 = .ok (.goto 7, 3) := zd_at zhX9_atom1_77 37 rfl
theorem dX9_atom1_157 : decode cX9_atom1 157 = .ok (.aload_n 0, 1) := zd_at zhX9_atom1_77 38 rfl
theorem dX9_atom1_158 : decode cX9_atom1 158 = .ok (.invokevirtual 193, 3) := zd_at zhX9_atom1_77 39 rfl
def ziX9_atom1_161 : List (Nat × Instr × Nat) := [(161, .iload_n 1, 1), (162, .ireturn, 1)]
theorem zhX9_atom1_161 : zd_chk (cX9_atom1.data.toList.drop 161) 161 ziX9_atom1_161 = true := by decide +kernel
theorem dX9_atom1_161 : decode cX9_atom1 161 = .ok (.iload_n 1, 1) := zd_at zhX9_atom1_161 0 rfl
theorem dX9_atom1_162 : decode cX9_atom1 162 = .ok (.ireturn, 1) := zd_at zhX9_atom1_161 1 rfl
def ziX9_term1_0 : List (Nat × Instr × Nat) := [(0, .aload_n 0, 1), (1, .invokevirtual 307, 3), (4, .istore_n 1, 1), (5, .aload_n 0, 1), (6, .bipush 42, 2), (8, .invokevirtual 220, 3), (11, .ifCond .eq 17, 3), (14, .aload_n 0, 1), (15, .invokevirtual 196, 3), (18, .iload_n 1, 1), (19, .aload_n 0, 1), (20, .invokevirtual 307, 3), (23, .imul, 1), (24, .istore_n 1, 1), (25, .goto (-20), 3), (28, .iload_n 1, 1), (29, .ireturn, 1)]
theorem zhX9_term1_0 : zd_chk (cX9_term1.data.toList.drop 0) 0 ziX9_term1_0 = true := by decide +kernel
theorem dX9_term1_0 : decode cX9_term1 0 = .ok (.aload_n 0, 1) := zd_at zhX9_term1_0 0 rfl
theorem dX9_term1_1 : decode cX9_term1 1 = .ok (.invokevirtual 307, 3) := zd_at zhX9_term1_0 1 rfl
theorem dX9_term1_4 : decode cX9_term1 4 = .ok (.istore_n 1, 1) := zd_at zhX9_term1_0 2 rfl
theorem dX9_term1_5 : decode cX9_term1 5 = .ok (.aload_n 0, 1) := zd_at zhX9_term1_0 3 rfl
theorem dX9_term1_6 : decode cX9_term1 6 = .ok (.bipush 42, 2) := zd_at zhX9_term1_0 4 rfl
theorem dX9_term1_8 : decode cX9_term1 8 = .ok (.invokevirtual 220, 3) := zd_at zhX9_term1_0 5 rfl
theorem dX9_term1_11 : decode cX9_term1 11 = .ok (.ifCond .eq 17, 3) := zd_at zhX9_term1_0 6 rfl
theorem dX9_term1_14 : decode cX9_term1 14 = .ok (.aload_n 0, 1) := zd_at zhX9_term1_0 7 rfl
theorem dX9_term1_15 : decode cX9_term1 15 = .ok (.invokevirtual 196, 3) := zd_at zhX9_term1_0 8 rfl
theorem dX9_term1_18 : decode cX9_term1 18 = .ok (.iload_n 1, 1) := zd_at zhX9_term1_0 9 rfl
theorem dX9_term1_19 : decode cX9_term1 19 = .ok (.aload_n 0, 1) := zd_at zhX9_term1_0 10 rfl
theorem dX9_term1_20 : decode cX9_term1 20 = .ok (.invokevirtual 307, 3) := zd_at zhX9_term1_0 11 rfl
theorem dX9_term1_23 : decode cX9_term1 23 = .ok (.imul, 1) := zd_at zhX9_term1_0 12 rfl
theorem dX9_term1_24 : decode cX9_term1 24 = .ok (.istore_n 1, 1) := zd_at zhX9_term1_0 13 rfl
theorem dX9_term1_25 : decode cX9_term1 25 = .ok (.goto (-20), 3) := zd_at zhX9_term1_0 14 rfl
theorem dX9_term1_28 : decode cX9_term1 28 = .ok (.iload_n 1, 1) := zd_at zhX9_term1_0 15 rfl
theorem dX9_term1_29 : decode cX9_term1 29 = .ok (.ireturn, 1) := zd_at zhX9_term1_0 16 rfl
def ziX9_added1_0 : List (Nat × Instr × Nat) := [(0, .aload_n 0, 1), (1, .invokevirtual 310, 3), (4, .istore_n 1, 1), (5, .aload_n 0, 1), (6, .bipush 43, 2), (8, .invokevirtual 220, 3), (11, .ifCond .ne 12, 3), (14, .aload_n 0, 1), (15, .bipush 45, 2), (17, .invokevirtual 220, 3), (20, .ifCond .eq 46, 3), (23, .aload_n 0, 1), (24, .getfield 175, 3), (27, .ldc2_w 237, 3), (30, .lcmp, 1), (31, .ifCond .ne 7, 3), (34, .iconst 1, 1), (35, .goto 4, 3), (38, .iconst 0, 1), (39, .istore_n 2, 1), (40, .aload_n 0, 1), (41, .invokevirtual 196, 3), (44, .aload_n 0, 1), (45, .invokevirtual 310, 3), (48, .istore_n 3, 1), (49, .iload_n 2, 1), (50, .ifCond .eq 9, 3), (53, .iload_n 1, 1), (54, .iload_n 3, 1), (55, .iadd, 1), (56, .goto 6, 3), (59, .iload_n 1, 1), (60, .iload_n 3, 1), (61, .isub, 1), (62, .istore_n 1, 1), (63, .goto (-58), 3), (66, .iload_n 1, 1), (67, .ireturn, 1)]
theorem zhX9_added1_0 : zd_chk (cX9_added1.data.toList.drop 0) 0 ziX9_added1_0 = true := by decide +kernel
theorem dX9_added1_0 : decode cX9_added1 0 = .ok (.aload_n 0, 1) := zd_at zhX9_added1_0 0 rfl
theorem dX9_added1_1 : decode cX9_added1 1 = .ok (.invokevirtual 310, 3) := zd_at zhX9_added1_0 1 rfl
theorem dX9_added1_4 : decode cX9_added1 4 = .ok (.istore_n 1, 1) := zd_at zhX9_added1_0 2 rfl
theorem dX9_added1_5 : decode cX9_added1 5 = .ok (.aload_n 0, 1) := zd_at zhX9_added1_0 3 rfl
theorem dX9_added1_6 : decode cX9_added1 6 = .ok (.bipush 43, 2) := zd_at zhX9_added1_0 4 rfl
theorem dX9_added1_8 : decode cX9_added1 8 = .ok (.invokevirtual 220, 3) := zd_at zhX9_added1_0 5 rfl
theorem dX9_added1_11 : decode cX9_added1 11 = .ok (.ifCond .ne 12, 3) := zd_at zhX9_added1_0 6 rfl
theorem dX9_added1_14 : decode cX9_added1 14 = .ok (.aload_n 0, 1) := zd_at zhX9_added1_0 7 rfl
theorem dX9_added1_15 : decode cX9_added1 15 = .ok (.bipush 45, 2) := zd_at zhX9_added1_0 8 rfl
theorem dX9_added1_17 : decode cX9_added1 17 = .ok (.invokevirtual 220, 3) := zd_at zhX9_added1_0 9 rfl
theorem dX9_added1_20 : decode cX9_added1 20 = .ok (.ifCond .eq 46, 3) := zd_at zhX9_added1_0 10 rfl
theorem dX9_added1_23 : decode cX9_added1 23 = .ok (.aload_n 0, 1) := zd_at zhX9_added1_0 11 rfl
theorem dX9_added1_24 : decode cX9_added1 24 = .ok (.getfield 175, 3) := zd_at zhX9_added1_0 12 rfl
theorem dX9_added1_27 : decode cX9_added1 27 = .ok (.ldc2_w 237, 3) := zd_at zhX9_added1_0 13 rfl
theorem dX9_added1_30 : decode cX9_added1 30 = .ok (.lcmp, 1) := zd_at zhX9_added1_0 14 rfl
theorem dX9_added1_31 : decode cX9_added1 31 = .ok (.ifCond .ne 7, 3) := zd_at zhX9_added1_0 15 rfl
theorem dX9_added1_34 : decode cX9_added1 34 = .ok (.iconst 1, 1) := zd_at zhX9_added1_0 16 rfl
theorem dX9_added1_35 : decode cX9_added1 35 = .ok (.goto 4, 3) := zd_at zhX9_added1_0 17 rfl
theorem dX9_added1_38 : decode cX9_added1 38 = .ok (.iconst 0, 1) := zd_at zhX9_added1_0 18 rfl
theorem dX9_added1_39 : decode cX9_added1 39 = .ok (.istore_n 2, 1) := zd_at zhX9_added1_0 19 rfl
theorem dX9_added1_40 : decode cX9_added1 40 = .ok (.aload_n 0, 1) := zd_at zhX9_added1_0 20 rfl
theorem dX9_added1_41 : decode cX9_added1 41 = .ok (.invokevirtual 196, 3) := zd_at zhX9_added1_0 21 rfl
theorem dX9_added1_44 : decode cX9_added1 44 = .ok (.aload_n 0, 1) := zd_at zhX9_added1_0 22 rfl
theorem dX9_added1_45 : decode cX9_added1 45 = .ok (.invokevirtual 310, 3) := zd_at zhX9_added1_0 23 rfl
theorem dX9_added1_48 : decode cX9_added1 48 = .ok (.istore_n 3, 1) := zd_at zhX9_added1_0 24 rfl
theorem dX9_added1_49 : decode cX9_added1 49 = .ok (.iload_n 2, 1) := zd_at zhX9_added1_0 25 rfl
theorem dX9_added1_50 : decode cX9_added1 50 = .ok (.ifCond .eq 9, 3) := zd_at zhX9_added1_0 26 rfl
theorem dX9_added1_53 : decode cX9_added1 53 = .ok (.iload_n 1, 1) := zd_at zhX9_added1_0 27 rfl
theorem dX9_added1_54 : decode cX9_added1 54 = .ok (.iload_n 3, 1) := zd_at zhX9_added1_0 28 rfl
theorem dX9_added1_55 : decode cX9_added1 55 = .ok (.iadd, 1) := zd_at zhX9_added1_0 29 rfl
theorem dX9_added1_56 : decode cX9_added1 56 = .ok (.goto 6, 3) := zd_at zhX9_added1_0 30 rfl
theorem dX9_added1_59 : decode cX9_added1 59 = .ok (.iload_n 1, 1) := zd_at zhX9_added1_0 31 rfl
theorem dX9_added1_60 : decode cX9_added1 60 = .ok (.iload_n 3, 1) := zd_at zhX9_added1_0 32 rfl
theorem dX9_added1_61 : decode cX9_added1 61 = .ok (.isub, 1) := zd_at zhX9_added1_0 33 rfl
theorem dX9_added1_62 : decode cX9_added1 62 = .ok (.istore_n 1, 1) := zd_at zhX9_added1_0 34 rfl
theorem dX9_added1_63 : decode cX9_added1 63 = .ok (.goto (-58), 3) := zd_at zhX9_added1_0 35 rfl
theorem dX9_added1_66 : decode cX9_added1 66 = .ok (.iload_n 1, 1) := zd_at zhX9_added1_0 36 rfl
theorem dX9_added1_67 : decode cX9_added1 67 = .ok (.ireturn, 1) := zd_at zhX9_added1_0 37 rfl
def ziX9_not1_0 : List (Nat × Instr × Nat) := [(0, .aload_n 0, 1), (1, .bipush 110, 2), (3, .bipush 111, 2), (5, .bipush 116, 2), (7, .iconst 0, 1), (8, .iconst 0, 1), (9, .iconst 0, 1), (10, .iconst 0, 1), (11, .iconst 0, 1), (12, .invokevirtual 199, 3), (15, .ifCond .eq 37, 3), (18, .aload_n 0, 1), (19, .invokevirtual 223, 3), (22, .ifCond .ne 5, 3), (25, .iconst 0, 1), (26, .ireturn, 1), (27, .aload_n 0, 1), (28, .invokevirtual 298, 3), (31, .istore_n 1, 1), (32, .aload_n 0, 1), (33, .dup, 1), (34, .getfield 190, 3), (37, .iconst 1, 1), (38, .isub, 1), (39, .putfield 190, 3), (42, .iload_n 1, 1), (43, .ifCond .ne 7, 3), (46, .iconst 1, 1), (47, .goto 4, 3), (50, .iconst 0, 1), (51, .ireturn, 1), (52, .aload_n 0, 1), (53, .invokevirtual 313, 3), (56, .istore_n 1, 1), (57, .aload_n 0, 1), (58, .bipush 60, 2), (60, .invokevirtual 220, 3), (63, .ifCond .ne 14, 3), (66, .aload_n 0, 1), (67, .bipush 61, 2)]
theorem zhX9_not1_0 : zd_chk (cX9_not1.data.toList.drop 0) 0 ziX9_not1_0 = true := by decide +kernel
theorem dX9_not1_0 : decode cX9_not1 0 = .ok (.aload_n 0, 1) := zd_at zhX9_not1_0 0 rfl
theorem dX9_not1_1 : decode cX9_not1 1 = .ok (.bipush 110, 2) := zd_at zhX9_not1_0 1 rfl
theorem dX9_not1_3 : decode cX9_not1 3 = .ok (.bipush 111, 2) := zd_at zhX9_not1_0 2 rfl
theorem dX9_not1_5 : decode cX9_not1 5 = .ok (.bipush 116, 2) := zd_at zhX9_not1_0 3 rfl
theorem dX9_not1_7 : decode cX9_not1 7 = .ok (.iconst 0, 1) := zd_at zhX9_not1_0 4 rfl
theorem dX9_not1_8 : decode cX9_not1 8 = .ok (.iconst 0, 1) := zd_at zhX9_not1_0 5 rfl
theorem dX9_not1_9 : decode cX9_not1 9 = .ok (.iconst 0, 1) := zd_at zhX9_not1_0 6 rfl
theorem dX9_not1_10 : decode cX9_not1 10 = .ok (.iconst 0, 1) := zd_at zhX9_not1_0 7 rfl
theorem dX9_not1_11 : decode cX9_not1 11 = .ok (.iconst 0, 1) := zd_at zhX9_not1_0 8 rfl
theorem dX9_not1_12 : decode cX9_not1 12 = .ok (.invokevirtual 199, 3) := zd_at zhX9_not1_0 9 rfl
theorem dX9_not1_15 : decode cX9_not1 15 = .ok (.ifCond .eq 37, 3) := zd_at zhX9_not1_0 10 rfl
theorem dX9_not1_18 : decode cX9_not1 18 = .ok (.aload_n 0, 1) := zd_at zhX9_not1_0 11 rfl
theorem dX9_not1_19 : decode cX9_not1 19 = .ok (.invokevirtual 223, 3) := zd_at zhX9_not1_0 12 rfl
theorem dX9_not1_22 : decode cX9_not1 22 = .ok (.ifCond .ne 5, 3) := zd_at zhX9_not1_0 13 rfl
theorem dX9_not1_25 : decode cX9_not1 25 = .ok (.iconst 0, 1) := zd_at zhX9_not1_0 14 rfl
theorem dX9_not1_26 : decode cX9_not1 26 = .ok (.ireturn, 1) := zd_at zhX9_not1_0 15 rfl
theorem dX9_not1_27 : decode cX9_not1 27 = .ok (.aload_n 0, 1) := zd_at zhX9_not1_0 16 rfl
theorem dX9_not1_28 : decode cX9_not1 28 = .ok (.invokevirtual 298, 3) := zd_at zhX9_not1_0 17 rfl
theorem dX9_not1_31 : decode cX9_not1 31 = .ok (.istore_n 1, 1) := zd_at zhX9_not1_0 18 rfl
theorem dX9_not1_32 : decode cX9_not1 32 = .ok (.aload_n 0, 1) := zd_at zhX9_not1_0 19 rfl
theorem dX9_not1_33 : decode cX9_not1 33 = .ok (.dup, 1) := zd_at zhX9_not1_0 20 rfl
theorem dX9_not1_34 : decode cX9_not1 34 = .ok (.getfield 190, 3) := zd_at zhX9_not1_0 21 rfl
theorem dX9_not1_37 : decode cX9_not1 37 = .ok (.iconst 1, 1) := zd_at zhX9_not1_0 22 rfl
theorem dX9_not1_38 : decode cX9_not1 38 = .ok (.isub, 1) := zd_at zhX9_not1_0 23 rfl
theorem dX9_not1_39 : decode cX9_not1 39 = .ok (.putfield 190, 3) := zd_at zhX9_not1_0 24 rfl
theorem dX9_not1_42 : decode cX9_not1 42 = .ok (.iload_n 1, 1) := zd_at zhX9_not1_0 25 rfl
theorem dX9_not1_43 : decode cX9_not1 43 = .ok (.ifCond .ne 7, 3) := zd_at zhX9_not1_0 26 rfl
theorem dX9_not1_46 : decode cX9_not1 46 = .ok (.iconst 1, 1) := zd_at zhX9_not1_0 27 rfl
theorem dX9_not1_47 : decode cX9_not1 47 = .ok (.goto 4, 3) := zd_at zhX9_not1_0 28 rfl
theorem dX9_not1_50 : decode cX9_not1 50 = .ok (.iconst 0, 1) := zd_at zhX9_not1_0 29 rfl
theorem dX9_not1_51 : decode cX9_not1 51 = .ok (.ireturn, 1) := zd_at zhX9_not1_0 30 rfl
theorem dX9_not1_52 : decode cX9_not1 52 = .ok (.aload_n 0, 1) := zd_at zhX9_not1_0 31 rfl
theorem dX9_not1_53 : decode cX9_not1 53 = .ok (.invokevirtual 313, 3) := zd_at zhX9_not1_0 32 rfl
theorem dX9_not1_56 : decode cX9_not1 56 = .ok (.istore_n 1, 1) := zd_at zhX9_not1_0 33 rfl
theorem dX9_not1_57 : decode cX9_not1 57 = .ok (.aload_n 0, 1) := zd_at zhX9_not1_0 34 rfl
theorem dX9_not1_58 : decode cX9_not1 58 = .ok (.bipush 60, 2) := zd_at zhX9_not1_0 35 rfl
theorem dX9_not1_60 : decode cX9_not1 60 = .ok (.invokevirtual 220, 3) := zd_at zhX9_not1_0 36 rfl
theorem dX9_not1_63 : decode cX9_not1 63 = .ok (.ifCond .ne 14, 3) := zd_at zhX9_not1_0 37 rfl
theorem dX9_not1_66 : decode cX9_not1 66 = .ok (.aload_n 0, 1) := zd_at zhX9_not1_0 38 rfl
theorem dX9_not1_67 : decode cX9_not1 67 = .ok (.bipush 61, 2) := zd_at zhX9_not1_0 39 rfl
def ziX9_not1_69 : List (Nat × Instr × Nat) := [(69, .invokevirtual 220, 3), (72, .ifCond .ne 5, 3), (75, .iload_n 1, 1), (76, .ireturn, 1), (77, .aload_n 0, 1), (78, .getfield 175, 3), (81, .ldc2_w 242, 3), (84, .lcmp, 1), (85, .ifCond .ne 7, 3), (88, .iconst 1, 1), (89, .goto 4, 3), (92, .iconst 0, 1), (93, .istore_n 2, 1), (94, .aload_n 0, 1), (95, .invokevirtual 196, 3), (98, .aload_n 0, 1), (99, .invokevirtual 313, 3), (102, .istore_n 3, 1), (103, .iload_n 2, 1), (104, .ifCond .eq 11, 3), (107, .iload_n 1, 1), (108, .iload_n 3, 1), (109, .if_icmp .ge 15, 3), (112, .goto 8, 3), (115, .iload_n 1, 1), (116, .iload_n 3, 1), (117, .if_icmp .ne 7, 3), (120, .iconst 1, 1), (121, .goto 4, 3), (124, .iconst 0, 1), (125, .ireturn, 1)]
theorem zhX9_not1_69 : zd_chk (cX9_not1.data.toList.drop 69) 69 ziX9_not1_69 = true := by decide +kernel
theorem dX9_not1_69 : decode cX9_not1 69 = .ok (.invokevirtual 220, 3) := zd_at zhX9_not1_69 0 rfl
theorem dX9_not1_72 : decode cX9_not1 72 = .ok (.ifCond .ne 5, 3) := zd_at zhX9_not1_69 1 rfl
theorem dX9_not1_75 : decode cX9_not1 75 = .ok (.iload_n 1, 1) := zd_at zhX9_not1_69 2 rfl
theorem dX9_not1_76 : decode cX9_not1 76 = .ok (.ireturn, 1) := zd_at zhX9_not1_69 3 rfl
theorem dX9_not1_77 : decode cX9_not1 77 = .ok (.aload_n 0, 1) := zd_at zhX9_not1_69 4 rfl
theorem dX9_not1_78 : decode cX9_not1 78 = .ok (.getfield 175, 3) := zd_at zhX9_not1_69 5 rfl
theorem dX9_not1_81 : decode cX9_not1 81 = .ok (.ldc2_w 242, 3) := zd_at zhX9_not1_69 6 rfl
theorem dX9_not1_84 : decode cX9_not1 84 = .ok (.lcmp, 1) := zd_at zhX9_not1_69 7 rfl
theorem dX9_not1_85 : decode cX9_not1 85 = .ok (.ifCond .ne 7, 3) := zd_at zhX9_not1_69 8 rfl
theorem dX9_not1_88 : decode cX9_not1 88 = .ok (.iconst 1, 1) := zd_at zhX9_not1_69 9 rfl
theorem dX9_not1_89 : decode cX9_not1 89 = .ok (.goto 4, 3) := zd_at zhX9_not1_69 10 rfl
theorem dX9_not1_92 : decode cX9_not1 92 = .ok (.iconst 0, 1) := zd_at zhX9_not1_69 11 rfl
theorem dX9_not1_93 : decode cX9_not1 93 = .ok (.istore_n 2, 1) := zd_at zhX9_not1_69 12 rfl
theorem dX9_not1_94 : decode cX9_not1 94 = .ok (.aload_n 0, 1) := zd_at zhX9_not1_69 13 rfl
theorem dX9_not1_95 : decode cX9_not1 95 = .ok (.invokevirtual 196, 3) := zd_at zhX9_not1_69 14 rfl
theorem dX9_not1_98 : decode cX9_not1 98 = .ok (.aload_n 0, 1) := zd_at zhX9_not1_69 15 rfl
theorem dX9_not1_99 : decode cX9_not1 99 = .ok (.invokevirtual 313, 3) := zd_at zhX9_not1_69 16 rfl
theorem dX9_not1_102 : decode cX9_not1 102 = .ok (.istore_n 3, 1) := zd_at zhX9_not1_69 17 rfl
theorem dX9_not1_103 : decode cX9_not1 103 = .ok (.iload_n 2, 1) := zd_at zhX9_not1_69 18 rfl
theorem dX9_not1_104 : decode cX9_not1 104 = .ok (.ifCond .eq 11, 3) := zd_at zhX9_not1_69 19 rfl
theorem dX9_not1_107 : decode cX9_not1 107 = .ok (.iload_n 1, 1) := zd_at zhX9_not1_69 20 rfl
theorem dX9_not1_108 : decode cX9_not1 108 = .ok (.iload_n 3, 1) := zd_at zhX9_not1_69 21 rfl
theorem dX9_not1_109 : decode cX9_not1 109 = .ok (.if_icmp .ge 15, 3) := zd_at zhX9_not1_69 22 rfl
theorem dX9_not1_112 : decode cX9_not1 112 = .ok (.goto 8, 3) := zd_at zhX9_not1_69 23 rfl
theorem dX9_not1_115 : decode cX9_not1 115 = .ok (.iload_n 1, 1) := zd_at zhX9_not1_69 24 rfl
theorem dX9_not1_116 : decode cX9_not1 116 = .ok (.iload_n 3, 1) := zd_at zhX9_not1_69 25 rfl
theorem dX9_not1_117 : decode cX9_not1 117 = .ok (.if_icmp .ne 7, 3) := zd_at zhX9_not1_69 26 rfl
theorem dX9_not1_120 : decode cX9_not1 120 = .ok (.iconst 1, 1) := zd_at zhX9_not1_69 27 rfl
theorem dX9_not1_121 : decode cX9_not1 121 = .ok (.goto 4, 3) := zd_at zhX9_not1_69 28 rfl
theorem dX9_not1_124 : decode cX9_not1 124 = .ok (.iconst 0, 1) := zd_at zhX9_not1_69 29 rfl
theorem dX9_not1_125 : decode cX9_not1 125 = .ok (.ireturn, 1) := zd_at zhX9_not1_69 30 rfl
def ziX9_both1_0 : List (Nat × Instr × Nat) := [(0, .aload_n 0, 1), (1, .invokevirtual 316, 3), (4, .istore_n 1, 1), (5, .aload_n 0, 1), (6, .bipush 97, 2), (8, .bipush 110, 2), (10, .bipush 100, 2), (12, .iconst 0, 1), (13, .iconst 0, 1), (14, .iconst 0, 1), (15, .iconst 0, 1), (16, .iconst 0, 1), (17, .invokevirtual 199, 3), (20, .ifCond .eq 29, 3), (23, .aload_n 0, 1), (24, .invokevirtual 196, 3), (27, .aload_n 0, 1), (28, .invokevirtual 316, 3), (31, .istore_n 2, 1), (32, .iload_n 1, 1), (33, .ifCond .eq 11, 3), (36, .iload_n 2, 1), (37, .ifCond .eq 7, 3), (40, .iconst 1, 1), (41, .goto 4, 3), (44, .iconst 0, 1), (45, .istore_n 1, 1), (46, .goto (-41), 3), (49, .iload_n 1, 1), (50, .ireturn, 1)]
theorem zhX9_both1_0 : zd_chk (cX9_both1.data.toList.drop 0) 0 ziX9_both1_0 = true := by decide +kernel
theorem dX9_both1_0 : decode cX9_both1 0 = .ok (.aload_n 0, 1) := zd_at zhX9_both1_0 0 rfl
theorem dX9_both1_1 : decode cX9_both1 1 = .ok (.invokevirtual 316, 3) := zd_at zhX9_both1_0 1 rfl
theorem dX9_both1_4 : decode cX9_both1 4 = .ok (.istore_n 1, 1) := zd_at zhX9_both1_0 2 rfl
theorem dX9_both1_5 : decode cX9_both1 5 = .ok (.aload_n 0, 1) := zd_at zhX9_both1_0 3 rfl
theorem dX9_both1_6 : decode cX9_both1 6 = .ok (.bipush 97, 2) := zd_at zhX9_both1_0 4 rfl
theorem dX9_both1_8 : decode cX9_both1 8 = .ok (.bipush 110, 2) := zd_at zhX9_both1_0 5 rfl
theorem dX9_both1_10 : decode cX9_both1 10 = .ok (.bipush 100, 2) := zd_at zhX9_both1_0 6 rfl
theorem dX9_both1_12 : decode cX9_both1 12 = .ok (.iconst 0, 1) := zd_at zhX9_both1_0 7 rfl
theorem dX9_both1_13 : decode cX9_both1 13 = .ok (.iconst 0, 1) := zd_at zhX9_both1_0 8 rfl
theorem dX9_both1_14 : decode cX9_both1 14 = .ok (.iconst 0, 1) := zd_at zhX9_both1_0 9 rfl
theorem dX9_both1_15 : decode cX9_both1 15 = .ok (.iconst 0, 1) := zd_at zhX9_both1_0 10 rfl
theorem dX9_both1_16 : decode cX9_both1 16 = .ok (.iconst 0, 1) := zd_at zhX9_both1_0 11 rfl
theorem dX9_both1_17 : decode cX9_both1 17 = .ok (.invokevirtual 199, 3) := zd_at zhX9_both1_0 12 rfl
theorem dX9_both1_20 : decode cX9_both1 20 = .ok (.ifCond .eq 29, 3) := zd_at zhX9_both1_0 13 rfl
theorem dX9_both1_23 : decode cX9_both1 23 = .ok (.aload_n 0, 1) := zd_at zhX9_both1_0 14 rfl
theorem dX9_both1_24 : decode cX9_both1 24 = .ok (.invokevirtual 196, 3) := zd_at zhX9_both1_0 15 rfl
theorem dX9_both1_27 : decode cX9_both1 27 = .ok (.aload_n 0, 1) := zd_at zhX9_both1_0 16 rfl
theorem dX9_both1_28 : decode cX9_both1 28 = .ok (.invokevirtual 316, 3) := zd_at zhX9_both1_0 17 rfl
theorem dX9_both1_31 : decode cX9_both1 31 = .ok (.istore_n 2, 1) := zd_at zhX9_both1_0 18 rfl
theorem dX9_both1_32 : decode cX9_both1 32 = .ok (.iload_n 1, 1) := zd_at zhX9_both1_0 19 rfl
theorem dX9_both1_33 : decode cX9_both1 33 = .ok (.ifCond .eq 11, 3) := zd_at zhX9_both1_0 20 rfl
theorem dX9_both1_36 : decode cX9_both1 36 = .ok (.iload_n 2, 1) := zd_at zhX9_both1_0 21 rfl
theorem dX9_both1_37 : decode cX9_both1 37 = .ok (.ifCond .eq 7, 3) := zd_at zhX9_both1_0 22 rfl
theorem dX9_both1_40 : decode cX9_both1 40 = .ok (.iconst 1, 1) := zd_at zhX9_both1_0 23 rfl
theorem dX9_both1_41 : decode cX9_both1 41 = .ok (.goto 4, 3) := zd_at zhX9_both1_0 24 rfl
theorem dX9_both1_44 : decode cX9_both1 44 = .ok (.iconst 0, 1) := zd_at zhX9_both1_0 25 rfl
theorem dX9_both1_45 : decode cX9_both1 45 = .ok (.istore_n 1, 1) := zd_at zhX9_both1_0 26 rfl
theorem dX9_both1_46 : decode cX9_both1 46 = .ok (.goto (-41), 3) := zd_at zhX9_both1_0 27 rfl
theorem dX9_both1_49 : decode cX9_both1 49 = .ok (.iload_n 1, 1) := zd_at zhX9_both1_0 28 rfl
theorem dX9_both1_50 : decode cX9_both1 50 = .ok (.ireturn, 1) := zd_at zhX9_both1_0 29 rfl
def ziX9_either1_0 : List (Nat × Instr × Nat) := [(0, .aload_n 0, 1), (1, .invokevirtual 319, 3), (4, .istore_n 1, 1), (5, .aload_n 0, 1), (6, .bipush 111, 2), (8, .bipush 114, 2), (10, .iconst 0, 1), (11, .iconst 0, 1), (12, .iconst 0, 1), (13, .iconst 0, 1), (14, .iconst 0, 1), (15, .iconst 0, 1), (16, .invokevirtual 199, 3), (19, .ifCond .eq 29, 3), (22, .aload_n 0, 1), (23, .invokevirtual 196, 3), (26, .aload_n 0, 1), (27, .invokevirtual 319, 3), (30, .istore_n 2, 1), (31, .iload_n 1, 1), (32, .ifCond .ne 7, 3), (35, .iload_n 2, 1), (36, .ifCond .eq 7, 3), (39, .iconst 1, 1), (40, .goto 4, 3), (43, .iconst 0, 1), (44, .istore_n 1, 1), (45, .goto (-40), 3), (48, .iload_n 1, 1), (49, .ireturn, 1)]
theorem zhX9_either1_0 : zd_chk (cX9_either1.data.toList.drop 0) 0 ziX9_either1_0 = true := by decide +kernel
theorem dX9_either1_0 : decode cX9_either1 0 = .ok (.aload_n 0, 1) := zd_at zhX9_either1_0 0 rfl
theorem dX9_either1_1 : decode cX9_either1 1 = .ok (.invokevirtual 319, 3) := zd_at zhX9_either1_0 1 rfl
theorem dX9_either1_4 : decode cX9_either1 4 = .ok (.istore_n 1, 1) := zd_at zhX9_either1_0 2 rfl
theorem dX9_either1_5 : decode cX9_either1 5 = .ok (.aload_n 0, 1) := zd_at zhX9_either1_0 3 rfl
theorem dX9_either1_6 : decode cX9_either1 6 = .ok (.bipush 111, 2) := zd_at zhX9_either1_0 4 rfl
theorem dX9_either1_8 : decode cX9_either1 8 = .ok (.bipush 114, 2) := zd_at zhX9_either1_0 5 rfl
theorem dX9_either1_10 : decode cX9_either1 10 = .ok (.iconst 0, 1) := zd_at zhX9_either1_0 6 rfl
theorem dX9_either1_11 : decode cX9_either1 11 = .ok (.iconst 0, 1) := zd_at zhX9_either1_0 7 rfl
theorem dX9_either1_12 : decode cX9_either1 12 = .ok (.iconst 0, 1) := zd_at zhX9_either1_0 8 rfl
theorem dX9_either1_13 : decode cX9_either1 13 = .ok (.iconst 0, 1) := zd_at zhX9_either1_0 9 rfl
theorem dX9_either1_14 : decode cX9_either1 14 = .ok (.iconst 0, 1) := zd_at zhX9_either1_0 10 rfl
theorem dX9_either1_15 : decode cX9_either1 15 = .ok (.iconst 0, 1) := zd_at zhX9_either1_0 11 rfl
theorem dX9_either1_16 : decode cX9_either1 16 = .ok (.invokevirtual 199, 3) := zd_at zhX9_either1_0 12 rfl
theorem dX9_either1_19 : decode cX9_either1 19 = .ok (.ifCond .eq 29, 3) := zd_at zhX9_either1_0 13 rfl
theorem dX9_either1_22 : decode cX9_either1 22 = .ok (.aload_n 0, 1) := zd_at zhX9_either1_0 14 rfl
theorem dX9_either1_23 : decode cX9_either1 23 = .ok (.invokevirtual 196, 3) := zd_at zhX9_either1_0 15 rfl
theorem dX9_either1_26 : decode cX9_either1 26 = .ok (.aload_n 0, 1) := zd_at zhX9_either1_0 16 rfl
theorem dX9_either1_27 : decode cX9_either1 27 = .ok (.invokevirtual 319, 3) := zd_at zhX9_either1_0 17 rfl
theorem dX9_either1_30 : decode cX9_either1 30 = .ok (.istore_n 2, 1) := zd_at zhX9_either1_0 18 rfl
theorem dX9_either1_31 : decode cX9_either1 31 = .ok (.iload_n 1, 1) := zd_at zhX9_either1_0 19 rfl
theorem dX9_either1_32 : decode cX9_either1 32 = .ok (.ifCond .ne 7, 3) := zd_at zhX9_either1_0 20 rfl
theorem dX9_either1_35 : decode cX9_either1 35 = .ok (.iload_n 2, 1) := zd_at zhX9_either1_0 21 rfl
theorem dX9_either1_36 : decode cX9_either1 36 = .ok (.ifCond .eq 7, 3) := zd_at zhX9_either1_0 22 rfl
theorem dX9_either1_39 : decode cX9_either1 39 = .ok (.iconst 1, 1) := zd_at zhX9_either1_0 23 rfl
theorem dX9_either1_40 : decode cX9_either1 40 = .ok (.goto 4, 3) := zd_at zhX9_either1_0 24 rfl
theorem dX9_either1_43 : decode cX9_either1 43 = .ok (.iconst 0, 1) := zd_at zhX9_either1_0 25 rfl
theorem dX9_either1_44 : decode cX9_either1 44 = .ok (.istore_n 1, 1) := zd_at zhX9_either1_0 26 rfl
theorem dX9_either1_45 : decode cX9_either1 45 = .ok (.goto (-40), 3) := zd_at zhX9_either1_0 27 rfl
theorem dX9_either1_48 : decode cX9_either1 48 = .ok (.iload_n 1, 1) := zd_at zhX9_either1_0 28 rfl
theorem dX9_either1_49 : decode cX9_either1 49 = .ok (.ireturn, 1) := zd_at zhX9_either1_0 29 rfl
def ziX9_atom0_0 : List (Nat × Instr × Nat) := [(0, .iconst 0, 1), (1, .istore_n 1, 1), (2, .aload_n 0, 1), (3, .bipush 45, 2), (5, .invokevirtual 220, 3), (8, .ifCond .eq 29, 3), (11, .aload_n 0, 1), (12, .invokevirtual 223, 3), (15, .ifCond .eq 146, 3), (18, .aload_n 0, 1), (19, .invokevirtual 307, 3), (22, .ineg, 1), (23, .istore_n 1, 1), (24, .aload_n 0, 1), (25, .dup, 1), (26, .getfield 190, 3), (29, .iconst 1, 1), (30, .isub, 1), (31, .putfield 190, 3), (34, .goto 127, 3), (37, .aload_n 0, 1), (38, .bipush 40, 2), (40, .invokevirtual 220, 3), (43, .ifCond .eq 52, 3), (46, .aload_n 0, 1), (47, .invokevirtual 223, 3), (50, .ifCond .eq 111, 3), (53, .aload_n 0, 1), (54, .invokevirtual 322, 3), (57, .istore_n 1, 1), (58, .aload_n 0, 1), (59, .bipush 41, 2), (61, .invokevirtual 220, 3), (64, .ifCond .ne 7, 3), (67, .aload_n 0, 1), (68, .invokevirtual 193, 3), (71, .aload_n 0, 1), (72, .dup, 1), (73, .getfield 190, 3), (76, .iconst 1, 1)]
theorem zhX9_atom0_0 : zd_chk (cX9_atom0.data.toList.drop 0) 0 ziX9_atom0_0 = true := by decide +kernel
theorem dX9_atom0_0 : decode cX9_atom0 0 = .ok (.iconst 0, 1) := zd_at zhX9_atom0_0 0 rfl
theorem dX9_atom0_1 : decode cX9_atom0 1 = .ok (.istore_n 1, 1) := zd_at zhX9_atom0_0 1 rfl
theorem dX9_atom0_2 : decode cX9_atom0 2 = .ok (.aload_n 0, 1) := zd_at zhX9_atom0_0 2 rfl
theorem dX9_atom0_3 : decode cX9_atom0 3 = .ok (.bipush 45, 2) := zd_at zhX9_atom0_0 3 rfl
theorem dX9_atom0_5 : decode cX9_atom0 5 = .ok (.invokevirtual 220, 3) := zd_at zhX9_atom0_0 4 rfl
theorem dX9_atom0_8 : decode cX9_atom0 8 = .ok (.ifCond .eq 29, 3) := zd_at zhX9_atom0_0 5 rfl
theorem dX9_atom0_11 : decode cX9_atom0 11 = .ok (.aload_n 0, 1) := zd_at zhX9_atom0_0 6 rfl
theorem dX9_atom0_12 : decode cX9_atom0 12 = .ok (.invokevirtual 223, 3) := zd_at zhX9_atom0_0 7 rfl
theorem dX9_atom0_15 : decode cX9_atom0 15 = .ok (.ifCond .eq 146, 3) := zd_at zhX9_atom0_0 8 rfl
theorem dX9_atom0_18 : decode cX9_atom0 18 = .ok (.aload_n 0, 1) := zd_at zhX9_atom0_0 9 rfl
theorem dX9_atom0_19 : decode cX9_atom0 19 = .ok (.invokevirtual 307, 3) := zd_at zhX9_atom0_0 10 rfl
theorem dX9_atom0_22 : decode cX9_atom0 22 = .ok (.ineg, 1) := zd_at zhX9_atom0_0 11 rfl
theorem dX9_atom0_23 : decode cX9_atom0 23 = .ok (.istore_n 1, 1) := zd_at zhX9_atom0_0 12 rfl
theorem dX9_atom0_24 : decode cX9_atom0 24 = .ok (.aload_n 0, 1) := zd_at zhX9_atom0_0 13 rfl
theorem dX9_atom0_25 : decode cX9_atom0 25 = .ok (.dup, 1) := zd_at zhX9_atom0_0 14 rfl
theorem dX9_atom0_26 : decode cX9_atom0 26 = .ok (.getfield 190, 3) := zd_at zhX9_atom0_0 15 rfl
theorem dX9_atom0_29 : decode cX9_atom0 29 = .ok (.iconst 1, 1) := zd_at zhX9_atom0_0 16 rfl
theorem dX9_atom0_30 : decode cX9_atom0 30 = .ok (.isub, 1) := zd_at zhX9_atom0_0 17 rfl
theorem dX9_atom0_31 : decode cX9_atom0 31 = .ok (.putfield 190, 3) := zd_at zhX9_atom0_0 18 rfl
theorem dX9_atom0_34 : decode cX9_atom0 34 = .ok (.goto 127, 3) := zd_at zhX9_atom0_0 19 rfl
theorem dX9_atom0_37 : decode cX9_atom0 37 = .ok (.aload_n 0, 1) := zd_at zhX9_atom0_0 20 rfl
theorem dX9_atom0_38 : decode cX9_atom0 38 = .ok (.bipush 40, 2) := zd_at zhX9_atom0_0 21 rfl
theorem dX9_atom0_40 : decode cX9_atom0 40 = .ok (.invokevirtual 220, 3) := zd_at zhX9_atom0_0 22 rfl
theorem dX9_atom0_43 : decode cX9_atom0 43 = .ok (.ifCond .eq 52, 3) := zd_at zhX9_atom0_0 23 rfl
theorem dX9_atom0_46 : decode cX9_atom0 46 = .ok (.aload_n 0, 1) := zd_at zhX9_atom0_0 24 rfl
theorem dX9_atom0_47 : decode cX9_atom0 47 = .ok (.invokevirtual 223, 3) := zd_at zhX9_atom0_0 25 rfl
theorem dX9_atom0_50 : decode cX9_atom0 50 = .ok (.ifCond .eq 111, 3) := zd_at zhX9_atom0_0 26 rfl
theorem dX9_atom0_53 : decode cX9_atom0 53 = .ok (.aload_n 0, 1) := zd_at zhX9_atom0_0 27 rfl
theorem dX9_atom0_54 : decode cX9_atom0 54 = .ok (.invokevirtual 322, 3) := zd_at zhX9_atom0_0 28 rfl
theorem dX9_atom0_57 : decode cX9_atom0 57 = .ok (.istore_n 1, 1) := zd_at zhX9_atom0_0 29 rfl
theorem dX9_atom0_58 : decode cX9_atom0 58 = .ok (.aload_n 0, 1) := zd_at zhX9_atom0_0 30 rfl
theorem dX9_atom0_59 : decode cX9_atom0 59 = .ok (.bipush 41, 2) := zd_at zhX9_atom0_0 31 rfl
theorem dX9_atom0_61 : decode cX9_atom0 61 = .ok (.invokevirtual 220, 3) := zd_at zhX9_atom0_0 32 rfl
theorem dX9_atom0_64 : decode cX9_atom0 64 = .ok (.ifCond .ne 7, 3) := zd_at zhX9_atom0_0 33 rfl
theorem dX9_atom0_67 : decode cX9_atom0 67 = .ok (.aload_n 0, 1) := zd_at zhX9_atom0_0 34 rfl
theorem dX9_atom0_68 : decode cX9_atom0 68 = .ok (.invokevirtual 193, 3) := zd_at zhX9_atom0_0 35 rfl
theorem dX9_atom0_71 : decode cX9_atom0 71 = .ok (.aload_n 0, 1) := zd_at zhX9_atom0_0 36 rfl
theorem dX9_atom0_72 : decode cX9_atom0 72 = .ok (.dup, 1) := zd_at zhX9_atom0_0 37 rfl
theorem dX9_atom0_73 : decode cX9_atom0 73 = .ok (.getfield 190, 3) := zd_at zhX9_atom0_0 38 rfl
theorem dX9_atom0_76 : decode cX9_atom0 76 = .ok (.iconst 1, 1) := zd_at zhX9_atom0_0 39 rfl
def ziX9_atom0_77 : List (Nat × Instr × Nat) := [(77, .isub, 1), (78, .putfield 190, 3), (81, .aload_n 0, 1), (82, .getfield 179, 3), (85, .ifCond .ne 76, 3), (88, .aload_n 0, 1), (89, .invokevirtual 196, 3), (92, .goto 69, 3), (95, .aload_n 0, 1), (96, .getfield 179, 3), (99, .ifCond .ne 24, 3), (102, .aload_n 0, 1), (103, .getfield 164, 3), (106, .iconst 2, 1), (107, .if_icmp .ne 16, 3), (110, .aload_n 0, 1), (111, .getfield 175, 3), (114, .l2i, 1), (115, .istore_n 1, 1), (116, .aload_n 0, 1), (117, .invokevirtual 196, 3), (120, .goto 41, 3), (123, .aload_n 0, 1), (124, .getfield 179, 3), (127, .ifCond .ne 30, 3), (130, .aload_n 0, 1), (131, .getfield 164, 3), (134, .iconst 1, 1), (135, .if_icmp .ne 22, 3), (138, .aload_n 0, 1), (139, .invokevirtual 227, 3), (142, .istore_n 1, 1), (143, .aload_n 0, 1), (144, .getfield 179, 3), (147, .ifCond .ne 14, 3), (150, .aload_n 0, 1), (151, .invokevirtual 196, 3), (154, .goto 7, 3), (157, .aload_n 0, 1), (158, .invokevirtual 193, 3)]
theorem zhX9_atom0_77 : zd_chk (cX9_atom0.data.toList.drop 77) 77 ziX9_atom0_77 = true := by decide +kernel
theorem dX9_atom0_77 : decode cX9_atom0 77 = .ok (.isub, 1) := zd_at zhX9_atom0_77 0 rfl
theorem dX9_atom0_78 : decode cX9_atom0 78 = .ok (.putfield 190, 3) := zd_at zhX9_atom0_77 1 rfl
theorem dX9_atom0_81 : decode cX9_atom0 81 = .ok (.aload_n 0, 1) := zd_at zhX9_atom0_77 2 rfl
theorem dX9_atom0_82 : decode cX9_atom0 82 = .ok (.getfield 179, 3) := zd_at zhX9_atom0_77 3 rfl
theorem dX9_atom0_85 : decode cX9_atom0 85 = .ok (.ifCond .ne 76, 3) := zd_at zhX9_atom0_77 4 rfl
theorem dX9_atom0_88 : decode cX9_atom0 88 = .ok (.aload_n 0, 1) := zd_at zhX9_atom0_77 5 rfl
theorem dX9_atom0_89 : decode cX9_atom0 89 = .ok (.invokevirtual 196, 3) := zd_at zhX9_atom0_77 6 rfl
theorem dX9_atom0_92 : decode cX9_atom0 92 = .ok (.goto 69, 3) := zd_at zhX9_atom0_77 7 rfl
theorem dX9_atom0_95 : decode cX9_atom0 95 = .ok (.aload_n 0, 1) := zd_at zhX9_atom0_77 8 rfl
theorem dX9_atom0_96 : decode cX9_atom0 96 = .ok (.getfield 179, 3) := zd_at zhX9_atom0_77 9 rfl
theorem dX9_atom0_99 : decode cX9_atom0 99 = .ok (.ifCond .ne 24, 3) := zd_at zhX9_atom0_77 10 rfl
theorem dX9_atom0_102 : decode cX9_atom0 102 = .ok (.aload_n 0, 1) := zd_at zhX9_atom0_77 11 rfl
theorem dX9_atom0_103 : decode cX9_atom0 103 = .ok (.getfield 164, 3) := zd_at zhX9_atom0_77 12 rfl
theorem dX9_atom0_106 : decode cX9_atom0 106 = .ok (.iconst 2, 1) := zd_at zhX9_atom0_77 13 rfl
theorem dX9_atom0_107 : decode cX9_atom0 107 = .ok (.if_icmp .ne 16, 3) := zd_at zhX9_atom0_77 14 rfl
theorem dX9_atom0_110 : decode cX9_atom0 110 = .ok (.aload_n 0, 1) := zd_at zhX9_atom0_77 15 rfl
theorem dX9_atom0_111 : decode cX9_atom0 111 = .ok (.getfield 175, 3) := zd_at zhX9_atom0_77 16 rfl
theorem dX9_atom0_114 : decode cX9_atom0 114 = .ok (.l2i, 1) := zd_at zhX9_atom0_77 17 rfl
theorem dX9_atom0_115 : decode cX9_atom0 115 = .ok (.istore_n 1, 1) := zd_at zhX9_atom0_77 18 rfl
theorem dX9_atom0_116 : decode cX9_atom0 116 = .ok (.aload_n 0, 1) := zd_at zhX9_atom0_77 19 rfl
theorem dX9_atom0_117 : decode cX9_atom0 117 = .ok (.invokevirtual 196, 3) := zd_at zhX9_atom0_77 20 rfl
theorem dX9_atom0_120 : decode cX9_atom0 120 = .ok (.goto 41, 3) := zd_at zhX9_atom0_77 21 rfl
theorem dX9_atom0_123 : decode cX9_atom0 123 = .ok (.aload_n 0, 1) := zd_at zhX9_atom0_77 22 rfl
theorem dX9_atom0_124 : decode cX9_atom0 124 = .ok (.getfield 179, 3) := zd_at zhX9_atom0_77 23 rfl
theorem dX9_atom0_127 : decode cX9_atom0 127 = .ok (.ifCond .ne 30, 3) := zd_at zhX9_atom0_77 24 rfl
theorem dX9_atom0_130 : decode cX9_atom0 130 = .ok (.aload_n 0, 1) := zd_at zhX9_atom0_77 25 rfl
theorem dX9_atom0_131 : decode cX9_atom0 131 = .ok (.getfield 164, 3) := zd_at zhX9_atom0_77 26 rfl
theorem dX9_atom0_134 : decode cX9_atom0 134 = .ok (.iconst 1, 1) := zd_at zhX9_atom0_77 27 rfl
theorem dX9_atom0_135 : decode cX9_atom0 135 = .ok (.if_icmp .ne 22, 3) := zd_at zhX9_atom0_77 28 rfl
theorem dX9_atom0_138 : decode cX9_atom0 138 = .ok (.aload_n 0, 1) := zd_at zhX9_atom0_77 29 rfl
theorem dX9_atom0_139 : decode cX9_atom0 139 = .ok (.invokevirtual 227, 3) := zd_at zhX9_atom0_77 30 rfl
theorem dX9_atom0_142 : decode cX9_atom0 142 = .ok (.istore_n 1, 1) := zd_at zhX9_atom0_77 31 rfl
theorem dX9_atom0_143 : decode cX9_atom0 143 = .ok (.aload_n 0, 1) := zd_at zhX9_atom0_77 32 rfl
theorem dX9_atom0_144 : decode cX9_atom0 144 = .ok (.getfield 179, 3) := zd_at zhX9_atom0_77 33 rfl
theorem dX9_atom0_147 : decode cX9_atom0 147 = .ok (.ifCond .ne 14, 3) := zd_at zhX9_atom0_77 34 rfl
theorem dX9_atom0_150 : decode cX9_atom0 150 = .ok (.aload_n 0, 1) := zd_at zhX9_atom0_77 35 rfl
theorem dX9_atom0_151 : decode cX9_atom0 151 = .ok (.invokevirtual 196, 3) := zd_at zhX9_atom0_77 36 rfl
theorem dX9_atom0_154 : decode cX9_atom0 154 = .ok (.goto 7, 3) := zd_at zhX9_atom0_77 37 rfl
theorem dX9_atom0_157 : decode cX9_atom0 157 = .ok (.aload_n 0, 1) := zd_at zhX9_atom0_77 38 rfl
theorem dX9_atom0_158 : decode cX9_atom0 158 = .ok (.invokevirtual 193, 3) := zd_at zhX9_atom0_77 39 rfl
def ziX9_atom0_161 : List (Nat × Instr × Nat) := [(161, .iload_n 1, 1), (162, .ireturn, 1)]
theorem zhX9_atom0_161 : zd_chk (cX9_atom0.data.toList.drop 161) 161 ziX9_atom0_161 = true := by decide +kernel
theorem dX9_atom0_161 : decode cX9_atom0 161 = .ok (.iload_n 1, 1) := zd_at zhX9_atom0_161 0 rfl
theorem dX9_atom0_162 : decode cX9_atom0 162 = .ok (.ireturn, 1) := zd_at zhX9_atom0_161 1 rfl
def ziX9_term0_0 : List (Nat × Instr × Nat) := [(0, .aload_n 0, 1), (1, .invokevirtual 325, 3), (4, .istore_n 1, 1), (5, .aload_n 0, 1), (6, .bipush 42, 2), (8, .invokevirtual 220, 3), (11, .ifCond .eq 17, 3), (14, .aload_n 0, 1), (15, .invokevirtual 196, 3), (18, .iload_n 1, 1), (19, .aload_n 0, 1), (20, .invokevirtual 325, 3), (23, .imul, 1), (24, .istore_n 1, 1), (25, .goto (-20), 3), (28, .iload_n 1, 1), (29, .ireturn, 1)]
theorem zhX9_term0_0 : zd_chk (cX9_term0.data.toList.drop 0) 0 ziX9_term0_0 = true := by decide +kernel
theorem dX9_term0_0 : decode cX9_term0 0 = .ok (.aload_n 0, 1) := zd_at zhX9_term0_0 0 rfl
theorem dX9_term0_1 : decode cX9_term0 1 = .ok (.invokevirtual 325, 3) := zd_at zhX9_term0_0 1 rfl
theorem dX9_term0_4 : decode cX9_term0 4 = .ok (.istore_n 1, 1) := zd_at zhX9_term0_0 2 rfl
theorem dX9_term0_5 : decode cX9_term0 5 = .ok (.aload_n 0, 1) := zd_at zhX9_term0_0 3 rfl
theorem dX9_term0_6 : decode cX9_term0 6 = .ok (.bipush 42, 2) := zd_at zhX9_term0_0 4 rfl
theorem dX9_term0_8 : decode cX9_term0 8 = .ok (.invokevirtual 220, 3) := zd_at zhX9_term0_0 5 rfl
theorem dX9_term0_11 : decode cX9_term0 11 = .ok (.ifCond .eq 17, 3) := zd_at zhX9_term0_0 6 rfl
theorem dX9_term0_14 : decode cX9_term0 14 = .ok (.aload_n 0, 1) := zd_at zhX9_term0_0 7 rfl
theorem dX9_term0_15 : decode cX9_term0 15 = .ok (.invokevirtual 196, 3) := zd_at zhX9_term0_0 8 rfl
theorem dX9_term0_18 : decode cX9_term0 18 = .ok (.iload_n 1, 1) := zd_at zhX9_term0_0 9 rfl
theorem dX9_term0_19 : decode cX9_term0 19 = .ok (.aload_n 0, 1) := zd_at zhX9_term0_0 10 rfl
theorem dX9_term0_20 : decode cX9_term0 20 = .ok (.invokevirtual 325, 3) := zd_at zhX9_term0_0 11 rfl
theorem dX9_term0_23 : decode cX9_term0 23 = .ok (.imul, 1) := zd_at zhX9_term0_0 12 rfl
theorem dX9_term0_24 : decode cX9_term0 24 = .ok (.istore_n 1, 1) := zd_at zhX9_term0_0 13 rfl
theorem dX9_term0_25 : decode cX9_term0 25 = .ok (.goto (-20), 3) := zd_at zhX9_term0_0 14 rfl
theorem dX9_term0_28 : decode cX9_term0 28 = .ok (.iload_n 1, 1) := zd_at zhX9_term0_0 15 rfl
theorem dX9_term0_29 : decode cX9_term0 29 = .ok (.ireturn, 1) := zd_at zhX9_term0_0 16 rfl
def ziX9_added0_0 : List (Nat × Instr × Nat) := [(0, .aload_n 0, 1), (1, .invokevirtual 328, 3), (4, .istore_n 1, 1), (5, .aload_n 0, 1), (6, .bipush 43, 2), (8, .invokevirtual 220, 3), (11, .ifCond .ne 12, 3), (14, .aload_n 0, 1), (15, .bipush 45, 2), (17, .invokevirtual 220, 3), (20, .ifCond .eq 46, 3), (23, .aload_n 0, 1), (24, .getfield 175, 3), (27, .ldc2_w 237, 3), (30, .lcmp, 1), (31, .ifCond .ne 7, 3), (34, .iconst 1, 1), (35, .goto 4, 3), (38, .iconst 0, 1), (39, .istore_n 2, 1), (40, .aload_n 0, 1), (41, .invokevirtual 196, 3), (44, .aload_n 0, 1), (45, .invokevirtual 328, 3), (48, .istore_n 3, 1), (49, .iload_n 2, 1), (50, .ifCond .eq 9, 3), (53, .iload_n 1, 1), (54, .iload_n 3, 1), (55, .iadd, 1), (56, .goto 6, 3), (59, .iload_n 1, 1), (60, .iload_n 3, 1), (61, .isub, 1), (62, .istore_n 1, 1), (63, .goto (-58), 3), (66, .iload_n 1, 1), (67, .ireturn, 1)]
theorem zhX9_added0_0 : zd_chk (cX9_added0.data.toList.drop 0) 0 ziX9_added0_0 = true := by decide +kernel
theorem dX9_added0_0 : decode cX9_added0 0 = .ok (.aload_n 0, 1) := zd_at zhX9_added0_0 0 rfl
theorem dX9_added0_1 : decode cX9_added0 1 = .ok (.invokevirtual 328, 3) := zd_at zhX9_added0_0 1 rfl
theorem dX9_added0_4 : decode cX9_added0 4 = .ok (.istore_n 1, 1) := zd_at zhX9_added0_0 2 rfl
theorem dX9_added0_5 : decode cX9_added0 5 = .ok (.aload_n 0, 1) := zd_at zhX9_added0_0 3 rfl
theorem dX9_added0_6 : decode cX9_added0 6 = .ok (.bipush 43, 2) := zd_at zhX9_added0_0 4 rfl
theorem dX9_added0_8 : decode cX9_added0 8 = .ok (.invokevirtual 220, 3) := zd_at zhX9_added0_0 5 rfl
theorem dX9_added0_11 : decode cX9_added0 11 = .ok (.ifCond .ne 12, 3) := zd_at zhX9_added0_0 6 rfl
theorem dX9_added0_14 : decode cX9_added0 14 = .ok (.aload_n 0, 1) := zd_at zhX9_added0_0 7 rfl
theorem dX9_added0_15 : decode cX9_added0 15 = .ok (.bipush 45, 2) := zd_at zhX9_added0_0 8 rfl
theorem dX9_added0_17 : decode cX9_added0 17 = .ok (.invokevirtual 220, 3) := zd_at zhX9_added0_0 9 rfl
theorem dX9_added0_20 : decode cX9_added0 20 = .ok (.ifCond .eq 46, 3) := zd_at zhX9_added0_0 10 rfl
theorem dX9_added0_23 : decode cX9_added0 23 = .ok (.aload_n 0, 1) := zd_at zhX9_added0_0 11 rfl
theorem dX9_added0_24 : decode cX9_added0 24 = .ok (.getfield 175, 3) := zd_at zhX9_added0_0 12 rfl
theorem dX9_added0_27 : decode cX9_added0 27 = .ok (.ldc2_w 237, 3) := zd_at zhX9_added0_0 13 rfl
theorem dX9_added0_30 : decode cX9_added0 30 = .ok (.lcmp, 1) := zd_at zhX9_added0_0 14 rfl
theorem dX9_added0_31 : decode cX9_added0 31 = .ok (.ifCond .ne 7, 3) := zd_at zhX9_added0_0 15 rfl
theorem dX9_added0_34 : decode cX9_added0 34 = .ok (.iconst 1, 1) := zd_at zhX9_added0_0 16 rfl
theorem dX9_added0_35 : decode cX9_added0 35 = .ok (.goto 4, 3) := zd_at zhX9_added0_0 17 rfl
theorem dX9_added0_38 : decode cX9_added0 38 = .ok (.iconst 0, 1) := zd_at zhX9_added0_0 18 rfl
theorem dX9_added0_39 : decode cX9_added0 39 = .ok (.istore_n 2, 1) := zd_at zhX9_added0_0 19 rfl
theorem dX9_added0_40 : decode cX9_added0 40 = .ok (.aload_n 0, 1) := zd_at zhX9_added0_0 20 rfl
theorem dX9_added0_41 : decode cX9_added0 41 = .ok (.invokevirtual 196, 3) := zd_at zhX9_added0_0 21 rfl
theorem dX9_added0_44 : decode cX9_added0 44 = .ok (.aload_n 0, 1) := zd_at zhX9_added0_0 22 rfl
theorem dX9_added0_45 : decode cX9_added0 45 = .ok (.invokevirtual 328, 3) := zd_at zhX9_added0_0 23 rfl
theorem dX9_added0_48 : decode cX9_added0 48 = .ok (.istore_n 3, 1) := zd_at zhX9_added0_0 24 rfl
theorem dX9_added0_49 : decode cX9_added0 49 = .ok (.iload_n 2, 1) := zd_at zhX9_added0_0 25 rfl
theorem dX9_added0_50 : decode cX9_added0 50 = .ok (.ifCond .eq 9, 3) := zd_at zhX9_added0_0 26 rfl
theorem dX9_added0_53 : decode cX9_added0 53 = .ok (.iload_n 1, 1) := zd_at zhX9_added0_0 27 rfl
theorem dX9_added0_54 : decode cX9_added0 54 = .ok (.iload_n 3, 1) := zd_at zhX9_added0_0 28 rfl
theorem dX9_added0_55 : decode cX9_added0 55 = .ok (.iadd, 1) := zd_at zhX9_added0_0 29 rfl
theorem dX9_added0_56 : decode cX9_added0 56 = .ok (.goto 6, 3) := zd_at zhX9_added0_0 30 rfl
theorem dX9_added0_59 : decode cX9_added0 59 = .ok (.iload_n 1, 1) := zd_at zhX9_added0_0 31 rfl
theorem dX9_added0_60 : decode cX9_added0 60 = .ok (.iload_n 3, 1) := zd_at zhX9_added0_0 32 rfl
theorem dX9_added0_61 : decode cX9_added0 61 = .ok (.isub, 1) := zd_at zhX9_added0_0 33 rfl
theorem dX9_added0_62 : decode cX9_added0 62 = .ok (.istore_n 1, 1) := zd_at zhX9_added0_0 34 rfl
theorem dX9_added0_63 : decode cX9_added0 63 = .ok (.goto (-58), 3) := zd_at zhX9_added0_0 35 rfl
theorem dX9_added0_66 : decode cX9_added0 66 = .ok (.iload_n 1, 1) := zd_at zhX9_added0_0 36 rfl
theorem dX9_added0_67 : decode cX9_added0 67 = .ok (.ireturn, 1) := zd_at zhX9_added0_0 37 rfl
def ziX9_not0_0 : List (Nat × Instr × Nat) := [(0, .aload_n 0, 1), (1, .bipush 110, 2), (3, .bipush 111, 2), (5, .bipush 116, 2), (7, .iconst 0, 1), (8, .iconst 0, 1), (9, .iconst 0, 1), (10, .iconst 0, 1), (11, .iconst 0, 1), (12, .invokevirtual 199, 3), (15, .ifCond .eq 37, 3), (18, .aload_n 0, 1), (19, .invokevirtual 223, 3), (22, .ifCond .ne 5, 3), (25, .iconst 0, 1), (26, .ireturn, 1), (27, .aload_n 0, 1), (28, .invokevirtual 316, 3), (31, .istore_n 1, 1), (32, .aload_n 0, 1), (33, .dup, 1), (34, .getfield 190, 3), (37, .iconst 1, 1), (38, .isub, 1), (39, .putfield 190, 3), (42, .iload_n 1, 1), (43, .ifCond .ne 7, 3), (46, .iconst 1, 1), (47, .goto 4, 3), (50, .iconst 0, 1), (51, .ireturn, 1), (52, .aload_n 0, 1), (53, .invokevirtual 331, 3), (56, .istore_n 1, 1), (57, .aload_n 0, 1), (58, .bipush 60, 2), (60, .invokevirtual 220, 3), (63, .ifCond .ne 14, 3), (66, .aload_n 0, 1), (67, .bipush 61, 2)]
theorem zhX9_not0_0 : zd_chk (cX9_not0.data.toList.drop 0) 0 ziX9_not0_0 = true := by decide +kernel
theorem dX9_not0_0 : decode cX9_not0 0 = .ok (.aload_n 0, 1) := zd_at zhX9_not0_0 0 rfl
theorem dX9_not0_1 : decode cX9_not0 1 = .ok (.bipush 110, 2) := zd_at zhX9_not0_0 1 rfl
theorem dX9_not0_3 : decode cX9_not0 3 = .ok (.bipush 111, 2) := zd_at zhX9_not0_0 2 rfl
theorem dX9_not0_5 : decode cX9_not0 5 = .ok (.bipush 116, 2) := zd_at zhX9_not0_0 3 rfl
theorem dX9_not0_7 : decode cX9_not0 7 = .ok (.iconst 0, 1) := zd_at zhX9_not0_0 4 rfl
theorem dX9_not0_8 : decode cX9_not0 8 = .ok (.iconst 0, 1) := zd_at zhX9_not0_0 5 rfl
theorem dX9_not0_9 : decode cX9_not0 9 = .ok (.iconst 0, 1) := zd_at zhX9_not0_0 6 rfl
theorem dX9_not0_10 : decode cX9_not0 10 = .ok (.iconst 0, 1) := zd_at zhX9_not0_0 7 rfl
theorem dX9_not0_11 : decode cX9_not0 11 = .ok (.iconst 0, 1) := zd_at zhX9_not0_0 8 rfl
theorem dX9_not0_12 : decode cX9_not0 12 = .ok (.invokevirtual 199, 3) := zd_at zhX9_not0_0 9 rfl
theorem dX9_not0_15 : decode cX9_not0 15 = .ok (.ifCond .eq 37, 3) := zd_at zhX9_not0_0 10 rfl
theorem dX9_not0_18 : decode cX9_not0 18 = .ok (.aload_n 0, 1) := zd_at zhX9_not0_0 11 rfl
theorem dX9_not0_19 : decode cX9_not0 19 = .ok (.invokevirtual 223, 3) := zd_at zhX9_not0_0 12 rfl
theorem dX9_not0_22 : decode cX9_not0 22 = .ok (.ifCond .ne 5, 3) := zd_at zhX9_not0_0 13 rfl
theorem dX9_not0_25 : decode cX9_not0 25 = .ok (.iconst 0, 1) := zd_at zhX9_not0_0 14 rfl
theorem dX9_not0_26 : decode cX9_not0 26 = .ok (.ireturn, 1) := zd_at zhX9_not0_0 15 rfl
theorem dX9_not0_27 : decode cX9_not0 27 = .ok (.aload_n 0, 1) := zd_at zhX9_not0_0 16 rfl
theorem dX9_not0_28 : decode cX9_not0 28 = .ok (.invokevirtual 316, 3) := zd_at zhX9_not0_0 17 rfl
theorem dX9_not0_31 : decode cX9_not0 31 = .ok (.istore_n 1, 1) := zd_at zhX9_not0_0 18 rfl
theorem dX9_not0_32 : decode cX9_not0 32 = .ok (.aload_n 0, 1) := zd_at zhX9_not0_0 19 rfl
theorem dX9_not0_33 : decode cX9_not0 33 = .ok (.dup, 1) := zd_at zhX9_not0_0 20 rfl
theorem dX9_not0_34 : decode cX9_not0 34 = .ok (.getfield 190, 3) := zd_at zhX9_not0_0 21 rfl
theorem dX9_not0_37 : decode cX9_not0 37 = .ok (.iconst 1, 1) := zd_at zhX9_not0_0 22 rfl
theorem dX9_not0_38 : decode cX9_not0 38 = .ok (.isub, 1) := zd_at zhX9_not0_0 23 rfl
theorem dX9_not0_39 : decode cX9_not0 39 = .ok (.putfield 190, 3) := zd_at zhX9_not0_0 24 rfl
theorem dX9_not0_42 : decode cX9_not0 42 = .ok (.iload_n 1, 1) := zd_at zhX9_not0_0 25 rfl
theorem dX9_not0_43 : decode cX9_not0 43 = .ok (.ifCond .ne 7, 3) := zd_at zhX9_not0_0 26 rfl
theorem dX9_not0_46 : decode cX9_not0 46 = .ok (.iconst 1, 1) := zd_at zhX9_not0_0 27 rfl
theorem dX9_not0_47 : decode cX9_not0 47 = .ok (.goto 4, 3) := zd_at zhX9_not0_0 28 rfl
theorem dX9_not0_50 : decode cX9_not0 50 = .ok (.iconst 0, 1) := zd_at zhX9_not0_0 29 rfl
theorem dX9_not0_51 : decode cX9_not0 51 = .ok (.ireturn, 1) := zd_at zhX9_not0_0 30 rfl
theorem dX9_not0_52 : decode cX9_not0 52 = .ok (.aload_n 0, 1) := zd_at zhX9_not0_0 31 rfl
theorem dX9_not0_53 : decode cX9_not0 53 = .ok (.invokevirtual 331, 3) := zd_at zhX9_not0_0 32 rfl
theorem dX9_not0_56 : decode cX9_not0 56 = .ok (.istore_n 1, 1) := zd_at zhX9_not0_0 33 rfl
theorem dX9_not0_57 : decode cX9_not0 57 = .ok (.aload_n 0, 1) := zd_at zhX9_not0_0 34 rfl
theorem dX9_not0_58 : decode cX9_not0 58 = .ok (.bipush 60, 2) := zd_at zhX9_not0_0 35 rfl
theorem dX9_not0_60 : decode cX9_not0 60 = .ok (.invokevirtual 220, 3) := zd_at zhX9_not0_0 36 rfl
theorem dX9_not0_63 : decode cX9_not0 63 = .ok (.ifCond .ne 14, 3) := zd_at zhX9_not0_0 37 rfl
theorem dX9_not0_66 : decode cX9_not0 66 = .ok (.aload_n 0, 1) := zd_at zhX9_not0_0 38 rfl
theorem dX9_not0_67 : decode cX9_not0 67 = .ok (.bipush 61, 2) := zd_at zhX9_not0_0 39 rfl
def ziX9_not0_69 : List (Nat × Instr × Nat) := [(69, .invokevirtual 220, 3), (72, .ifCond .ne 5, 3), (75, .iload_n 1, 1), (76, .ireturn, 1), (77, .aload_n 0, 1), (78, .getfield 175, 3), (81, .ldc2_w 242, 3), (84, .lcmp, 1), (85, .ifCond .ne 7, 3), (88, .iconst 1, 1), (89, .goto 4, 3), (92, .iconst 0, 1), (93, .istore_n 2, 1), (94, .aload_n 0, 1), (95, .invokevirtual 196, 3), (98, .aload_n 0, 1), (99, .invokevirtual 331, 3), (102, .istore_n 3, 1), (103, .iload_n 2, 1), (104, .ifCond .eq 11, 3), (107, .iload_n 1, 1), (108, .iload_n 3, 1), (109, .if_icmp .ge 15, 3), (112, .goto 8, 3), (115, .iload_n 1, 1), (116, .iload_n 3, 1), (117, .if_icmp .ne 7, 3), (120, .iconst 1, 1), (121, .goto 4, 3), (124, .iconst 0, 1), (125, .ireturn, 1)]
theorem zhX9_not0_69 : zd_chk (cX9_not0.data.toList.drop 69) 69 ziX9_not0_69 = true := by decide +kernel
theorem dX9_not0_69 : decode cX9_not0 69 = .ok (.invokevirtual 220, 3) := zd_at zhX9_not0_69 0 rfl
theorem dX9_not0_72 : decode cX9_not0 72 = .ok (.ifCond .ne 5, 3) := zd_at zhX9_not0_69 1 rfl
theorem dX9_not0_75 : decode cX9_not0 75 = .ok (.iload_n 1, 1) := zd_at zhX9_not0_69 2 rfl
theorem dX9_not0_76 : decode cX9_not0 76 = .ok (.ireturn, 1) := zd_at zhX9_not0_69 3 rfl
theorem dX9_not0_77 : decode cX9_not0 77 = .ok (.aload_n 0, 1) := zd_at zhX9_not0_69 4 rfl
theorem dX9_not0_78 : decode cX9_not0 78 = .ok (.getfield 175, 3) := zd_at zhX9_not0_69 5 rfl
theorem dX9_not0_81 : decode cX9_not0 81 = .ok (.ldc2_w 242, 3) := zd_at zhX9_not0_69 6 rfl
theorem dX9_not0_84 : decode cX9_not0 84 = .ok (.lcmp, 1) := zd_at zhX9_not0_69 7 rfl
theorem dX9_not0_85 : decode cX9_not0 85 = .ok (.ifCond .ne 7, 3) := zd_at zhX9_not0_69 8 rfl
theorem dX9_not0_88 : decode cX9_not0 88 = .ok (.iconst 1, 1) := zd_at zhX9_not0_69 9 rfl
theorem dX9_not0_89 : decode cX9_not0 89 = .ok (.goto 4, 3) := zd_at zhX9_not0_69 10 rfl
theorem dX9_not0_92 : decode cX9_not0 92 = .ok (.iconst 0, 1) := zd_at zhX9_not0_69 11 rfl
theorem dX9_not0_93 : decode cX9_not0 93 = .ok (.istore_n 2, 1) := zd_at zhX9_not0_69 12 rfl
theorem dX9_not0_94 : decode cX9_not0 94 = .ok (.aload_n 0, 1) := zd_at zhX9_not0_69 13 rfl
theorem dX9_not0_95 : decode cX9_not0 95 = .ok (.invokevirtual 196, 3) := zd_at zhX9_not0_69 14 rfl
theorem dX9_not0_98 : decode cX9_not0 98 = .ok (.aload_n 0, 1) := zd_at zhX9_not0_69 15 rfl
theorem dX9_not0_99 : decode cX9_not0 99 = .ok (.invokevirtual 331, 3) := zd_at zhX9_not0_69 16 rfl
theorem dX9_not0_102 : decode cX9_not0 102 = .ok (.istore_n 3, 1) := zd_at zhX9_not0_69 17 rfl
theorem dX9_not0_103 : decode cX9_not0 103 = .ok (.iload_n 2, 1) := zd_at zhX9_not0_69 18 rfl
theorem dX9_not0_104 : decode cX9_not0 104 = .ok (.ifCond .eq 11, 3) := zd_at zhX9_not0_69 19 rfl
theorem dX9_not0_107 : decode cX9_not0 107 = .ok (.iload_n 1, 1) := zd_at zhX9_not0_69 20 rfl
theorem dX9_not0_108 : decode cX9_not0 108 = .ok (.iload_n 3, 1) := zd_at zhX9_not0_69 21 rfl
theorem dX9_not0_109 : decode cX9_not0 109 = .ok (.if_icmp .ge 15, 3) := zd_at zhX9_not0_69 22 rfl
theorem dX9_not0_112 : decode cX9_not0 112 = .ok (.goto 8, 3) := zd_at zhX9_not0_69 23 rfl
theorem dX9_not0_115 : decode cX9_not0 115 = .ok (.iload_n 1, 1) := zd_at zhX9_not0_69 24 rfl
theorem dX9_not0_116 : decode cX9_not0 116 = .ok (.iload_n 3, 1) := zd_at zhX9_not0_69 25 rfl
theorem dX9_not0_117 : decode cX9_not0 117 = .ok (.if_icmp .ne 7, 3) := zd_at zhX9_not0_69 26 rfl
theorem dX9_not0_120 : decode cX9_not0 120 = .ok (.iconst 1, 1) := zd_at zhX9_not0_69 27 rfl
theorem dX9_not0_121 : decode cX9_not0 121 = .ok (.goto 4, 3) := zd_at zhX9_not0_69 28 rfl
theorem dX9_not0_124 : decode cX9_not0 124 = .ok (.iconst 0, 1) := zd_at zhX9_not0_69 29 rfl
theorem dX9_not0_125 : decode cX9_not0 125 = .ok (.ireturn, 1) := zd_at zhX9_not0_69 30 rfl
def ziX9_both0_0 : List (Nat × Instr × Nat) := [(0, .aload_n 0, 1), (1, .invokevirtual 334, 3), (4, .istore_n 1, 1), (5, .aload_n 0, 1), (6, .bipush 97, 2), (8, .bipush 110, 2), (10, .bipush 100, 2), (12, .iconst 0, 1), (13, .iconst 0, 1), (14, .iconst 0, 1), (15, .iconst 0, 1), (16, .iconst 0, 1), (17, .invokevirtual 199, 3), (20, .ifCond .eq 29, 3), (23, .aload_n 0, 1), (24, .invokevirtual 196, 3), (27, .aload_n 0, 1), (28, .invokevirtual 334, 3), (31, .istore_n 2, 1), (32, .iload_n 1, 1), (33, .ifCond .eq 11, 3), (36, .iload_n 2, 1), (37, .ifCond .eq 7, 3), (40, .iconst 1, 1), (41, .goto 4, 3), (44, .iconst 0, 1), (45, .istore_n 1, 1), (46, .goto (-41), 3), (49, .iload_n 1, 1), (50, .ireturn, 1)]
theorem zhX9_both0_0 : zd_chk (cX9_both0.data.toList.drop 0) 0 ziX9_both0_0 = true := by decide +kernel
theorem dX9_both0_0 : decode cX9_both0 0 = .ok (.aload_n 0, 1) := zd_at zhX9_both0_0 0 rfl
theorem dX9_both0_1 : decode cX9_both0 1 = .ok (.invokevirtual 334, 3) := zd_at zhX9_both0_0 1 rfl
theorem dX9_both0_4 : decode cX9_both0 4 = .ok (.istore_n 1, 1) := zd_at zhX9_both0_0 2 rfl
theorem dX9_both0_5 : decode cX9_both0 5 = .ok (.aload_n 0, 1) := zd_at zhX9_both0_0 3 rfl
theorem dX9_both0_6 : decode cX9_both0 6 = .ok (.bipush 97, 2) := zd_at zhX9_both0_0 4 rfl
theorem dX9_both0_8 : decode cX9_both0 8 = .ok (.bipush 110, 2) := zd_at zhX9_both0_0 5 rfl
theorem dX9_both0_10 : decode cX9_both0 10 = .ok (.bipush 100, 2) := zd_at zhX9_both0_0 6 rfl
theorem dX9_both0_12 : decode cX9_both0 12 = .ok (.iconst 0, 1) := zd_at zhX9_both0_0 7 rfl
theorem dX9_both0_13 : decode cX9_both0 13 = .ok (.iconst 0, 1) := zd_at zhX9_both0_0 8 rfl
theorem dX9_both0_14 : decode cX9_both0 14 = .ok (.iconst 0, 1) := zd_at zhX9_both0_0 9 rfl
theorem dX9_both0_15 : decode cX9_both0 15 = .ok (.iconst 0, 1) := zd_at zhX9_both0_0 10 rfl
theorem dX9_both0_16 : decode cX9_both0 16 = .ok (.iconst 0, 1) := zd_at zhX9_both0_0 11 rfl
theorem dX9_both0_17 : decode cX9_both0 17 = .ok (.invokevirtual 199, 3) := zd_at zhX9_both0_0 12 rfl
theorem dX9_both0_20 : decode cX9_both0 20 = .ok (.ifCond .eq 29, 3) := zd_at zhX9_both0_0 13 rfl
theorem dX9_both0_23 : decode cX9_both0 23 = .ok (.aload_n 0, 1) := zd_at zhX9_both0_0 14 rfl
theorem dX9_both0_24 : decode cX9_both0 24 = .ok (.invokevirtual 196, 3) := zd_at zhX9_both0_0 15 rfl
theorem dX9_both0_27 : decode cX9_both0 27 = .ok (.aload_n 0, 1) := zd_at zhX9_both0_0 16 rfl
theorem dX9_both0_28 : decode cX9_both0 28 = .ok (.invokevirtual 334, 3) := zd_at zhX9_both0_0 17 rfl
theorem dX9_both0_31 : decode cX9_both0 31 = .ok (.istore_n 2, 1) := zd_at zhX9_both0_0 18 rfl
theorem dX9_both0_32 : decode cX9_both0 32 = .ok (.iload_n 1, 1) := zd_at zhX9_both0_0 19 rfl
theorem dX9_both0_33 : decode cX9_both0 33 = .ok (.ifCond .eq 11, 3) := zd_at zhX9_both0_0 20 rfl
theorem dX9_both0_36 : decode cX9_both0 36 = .ok (.iload_n 2, 1) := zd_at zhX9_both0_0 21 rfl
theorem dX9_both0_37 : decode cX9_both0 37 = .ok (.ifCond .eq 7, 3) := zd_at zhX9_both0_0 22 rfl
theorem dX9_both0_40 : decode cX9_both0 40 = .ok (.iconst 1, 1) := zd_at zhX9_both0_0 23 rfl
theorem dX9_both0_41 : decode cX9_both0 41 = .ok (.goto 4, 3) := zd_at zhX9_both0_0 24 rfl
theorem dX9_both0_44 : decode cX9_both0 44 = .ok (.iconst 0, 1) := zd_at zhX9_both0_0 25 rfl
theorem dX9_both0_45 : decode cX9_both0 45 = .ok (.istore_n 1, 1) := zd_at zhX9_both0_0 26 rfl
theorem dX9_both0_46 : decode cX9_both0 46 = .ok (.goto (-41), 3) := zd_at zhX9_both0_0 27 rfl
theorem dX9_both0_49 : decode cX9_both0 49 = .ok (.iload_n 1, 1) := zd_at zhX9_both0_0 28 rfl
theorem dX9_both0_50 : decode cX9_both0 50 = .ok (.ireturn, 1) := zd_at zhX9_both0_0 29 rfl
def ziX9_either0_0 : List (Nat × Instr × Nat) := [(0, .aload_n 0, 1), (1, .invokevirtual 337, 3), (4, .istore_n 1, 1), (5, .aload_n 0, 1), (6, .bipush 111, 2), (8, .bipush 114, 2), (10, .iconst 0, 1), (11, .iconst 0, 1), (12, .iconst 0, 1), (13, .iconst 0, 1), (14, .iconst 0, 1), (15, .iconst 0, 1), (16, .invokevirtual 199, 3), (19, .ifCond .eq 29, 3), (22, .aload_n 0, 1), (23, .invokevirtual 196, 3), (26, .aload_n 0, 1), (27, .invokevirtual 337, 3), (30, .istore_n 2, 1), (31, .iload_n 1, 1), (32, .ifCond .ne 7, 3), (35, .iload_n 2, 1), (36, .ifCond .eq 7, 3), (39, .iconst 1, 1), (40, .goto 4, 3), (43, .iconst 0, 1), (44, .istore_n 1, 1), (45, .goto (-40), 3), (48, .iload_n 1, 1), (49, .ireturn, 1)]
theorem zhX9_either0_0 : zd_chk (cX9_either0.data.toList.drop 0) 0 ziX9_either0_0 = true := by decide +kernel
theorem dX9_either0_0 : decode cX9_either0 0 = .ok (.aload_n 0, 1) := zd_at zhX9_either0_0 0 rfl
theorem dX9_either0_1 : decode cX9_either0 1 = .ok (.invokevirtual 337, 3) := zd_at zhX9_either0_0 1 rfl
theorem dX9_either0_4 : decode cX9_either0 4 = .ok (.istore_n 1, 1) := zd_at zhX9_either0_0 2 rfl
theorem dX9_either0_5 : decode cX9_either0 5 = .ok (.aload_n 0, 1) := zd_at zhX9_either0_0 3 rfl
theorem dX9_either0_6 : decode cX9_either0 6 = .ok (.bipush 111, 2) := zd_at zhX9_either0_0 4 rfl
theorem dX9_either0_8 : decode cX9_either0 8 = .ok (.bipush 114, 2) := zd_at zhX9_either0_0 5 rfl
theorem dX9_either0_10 : decode cX9_either0 10 = .ok (.iconst 0, 1) := zd_at zhX9_either0_0 6 rfl
theorem dX9_either0_11 : decode cX9_either0 11 = .ok (.iconst 0, 1) := zd_at zhX9_either0_0 7 rfl
theorem dX9_either0_12 : decode cX9_either0 12 = .ok (.iconst 0, 1) := zd_at zhX9_either0_0 8 rfl
theorem dX9_either0_13 : decode cX9_either0 13 = .ok (.iconst 0, 1) := zd_at zhX9_either0_0 9 rfl
theorem dX9_either0_14 : decode cX9_either0 14 = .ok (.iconst 0, 1) := zd_at zhX9_either0_0 10 rfl
theorem dX9_either0_15 : decode cX9_either0 15 = .ok (.iconst 0, 1) := zd_at zhX9_either0_0 11 rfl
theorem dX9_either0_16 : decode cX9_either0 16 = .ok (.invokevirtual 199, 3) := zd_at zhX9_either0_0 12 rfl
theorem dX9_either0_19 : decode cX9_either0 19 = .ok (.ifCond .eq 29, 3) := zd_at zhX9_either0_0 13 rfl
theorem dX9_either0_22 : decode cX9_either0 22 = .ok (.aload_n 0, 1) := zd_at zhX9_either0_0 14 rfl
theorem dX9_either0_23 : decode cX9_either0 23 = .ok (.invokevirtual 196, 3) := zd_at zhX9_either0_0 15 rfl
theorem dX9_either0_26 : decode cX9_either0 26 = .ok (.aload_n 0, 1) := zd_at zhX9_either0_0 16 rfl
theorem dX9_either0_27 : decode cX9_either0 27 = .ok (.invokevirtual 337, 3) := zd_at zhX9_either0_0 17 rfl
theorem dX9_either0_30 : decode cX9_either0 30 = .ok (.istore_n 2, 1) := zd_at zhX9_either0_0 18 rfl
theorem dX9_either0_31 : decode cX9_either0 31 = .ok (.iload_n 1, 1) := zd_at zhX9_either0_0 19 rfl
theorem dX9_either0_32 : decode cX9_either0 32 = .ok (.ifCond .ne 7, 3) := zd_at zhX9_either0_0 20 rfl
theorem dX9_either0_35 : decode cX9_either0 35 = .ok (.iload_n 2, 1) := zd_at zhX9_either0_0 21 rfl
theorem dX9_either0_36 : decode cX9_either0 36 = .ok (.ifCond .eq 7, 3) := zd_at zhX9_either0_0 22 rfl
theorem dX9_either0_39 : decode cX9_either0 39 = .ok (.iconst 1, 1) := zd_at zhX9_either0_0 23 rfl
theorem dX9_either0_40 : decode cX9_either0 40 = .ok (.goto 4, 3) := zd_at zhX9_either0_0 24 rfl
theorem dX9_either0_43 : decode cX9_either0 43 = .ok (.iconst 0, 1) := zd_at zhX9_either0_0 25 rfl
theorem dX9_either0_44 : decode cX9_either0 44 = .ok (.istore_n 1, 1) := zd_at zhX9_either0_0 26 rfl
theorem dX9_either0_45 : decode cX9_either0 45 = .ok (.goto (-40), 3) := zd_at zhX9_either0_0 27 rfl
theorem dX9_either0_48 : decode cX9_either0 48 = .ok (.iload_n 1, 1) := zd_at zhX9_either0_0 28 rfl
theorem dX9_either0_49 : decode cX9_either0 49 = .ok (.ireturn, 1) := zd_at zhX9_either0_0 29 rfl
def ziX9_part_0 : List (Nat × Instr × Nat) := [(0, .iload_n 1, 1), (1, .ifCond .ne 7, 3), (4, .aload_n 0, 1), (5, .invokevirtual 193, 3), (8, .aload_n 0, 1), (9, .getfield 179, 3), (12, .ifCond .ne 7, 3), (15, .aload_n 0, 1), (16, .invokevirtual 196, 3), (19, .aload_n 0, 1), (20, .getfield 179, 3), (23, .ifCond .eq 7, 3), (26, .iconst 0, 1), (27, .goto 7, 3), (30, .aload_n 0, 1), (31, .invokevirtual 340, 3), (34, .istore_n 2, 1), (35, .aload_n 0, 1), (36, .bipush 59, 2), (38, .invokevirtual 220, 3), (41, .ifCond .ne 7, 3), (44, .aload_n 0, 1), (45, .invokevirtual 193, 3), (48, .aload_n 0, 1), (49, .getfield 179, 3), (52, .ifCond .ne 7, 3), (55, .aload_n 0, 1), (56, .invokevirtual 196, 3), (59, .iload_n 2, 1), (60, .ireturn, 1)]
theorem zhX9_part_0 : zd_chk (cX9_part.data.toList.drop 0) 0 ziX9_part_0 = true := by decide +kernel
theorem dX9_part_0 : decode cX9_part 0 = .ok (.iload_n 1, 1) := zd_at zhX9_part_0 0 rfl
theorem dX9_part_1 : decode cX9_part 1 = .ok (.ifCond .ne 7, 3) := zd_at zhX9_part_0 1 rfl
theorem dX9_part_4 : decode cX9_part 4 = .ok (.aload_n 0, 1) := zd_at zhX9_part_0 2 rfl
theorem dX9_part_5 : decode cX9_part 5 = .ok (.invokevirtual 193, 3) := zd_at zhX9_part_0 3 rfl
theorem dX9_part_8 : decode cX9_part 8 = .ok (.aload_n 0, 1) := zd_at zhX9_part_0 4 rfl
theorem dX9_part_9 : decode cX9_part 9 = .ok (.getfield 179, 3) := zd_at zhX9_part_0 5 rfl
theorem dX9_part_12 : decode cX9_part 12 = .ok (.ifCond .ne 7, 3) := zd_at zhX9_part_0 6 rfl
theorem dX9_part_15 : decode cX9_part 15 = .ok (.aload_n 0, 1) := zd_at zhX9_part_0 7 rfl
theorem dX9_part_16 : decode cX9_part 16 = .ok (.invokevirtual 196, 3) := zd_at zhX9_part_0 8 rfl
theorem dX9_part_19 : decode cX9_part 19 = .ok (.aload_n 0, 1) := zd_at zhX9_part_0 9 rfl
theorem dX9_part_20 : decode cX9_part 20 = .ok (.getfield 179, 3) := zd_at zhX9_part_0 10 rfl
theorem dX9_part_23 : decode cX9_part 23 = .ok (.ifCond .eq 7, 3) := zd_at zhX9_part_0 11 rfl
theorem dX9_part_26 : decode cX9_part 26 = .ok (.iconst 0, 1) := zd_at zhX9_part_0 12 rfl
theorem dX9_part_27 : decode cX9_part 27 = .ok (.goto 7, 3) := zd_at zhX9_part_0 13 rfl
theorem dX9_part_30 : decode cX9_part 30 = .ok (.aload_n 0, 1) := zd_at zhX9_part_0 14 rfl
theorem dX9_part_31 : decode cX9_part 31 = .ok (.invokevirtual 340, 3) := zd_at zhX9_part_0 15 rfl
theorem dX9_part_34 : decode cX9_part 34 = .ok (.istore_n 2, 1) := zd_at zhX9_part_0 16 rfl
theorem dX9_part_35 : decode cX9_part 35 = .ok (.aload_n 0, 1) := zd_at zhX9_part_0 17 rfl
theorem dX9_part_36 : decode cX9_part 36 = .ok (.bipush 59, 2) := zd_at zhX9_part_0 18 rfl
theorem dX9_part_38 : decode cX9_part 38 = .ok (.invokevirtual 220, 3) := zd_at zhX9_part_0 19 rfl
theorem dX9_part_41 : decode cX9_part 41 = .ok (.ifCond .ne 7, 3) := zd_at zhX9_part_0 20 rfl
theorem dX9_part_44 : decode cX9_part 44 = .ok (.aload_n 0, 1) := zd_at zhX9_part_0 21 rfl
theorem dX9_part_45 : decode cX9_part 45 = .ok (.invokevirtual 193, 3) := zd_at zhX9_part_0 22 rfl
theorem dX9_part_48 : decode cX9_part 48 = .ok (.aload_n 0, 1) := zd_at zhX9_part_0 23 rfl
theorem dX9_part_49 : decode cX9_part 49 = .ok (.getfield 179, 3) := zd_at zhX9_part_0 24 rfl
theorem dX9_part_52 : decode cX9_part 52 = .ok (.ifCond .ne 7, 3) := zd_at zhX9_part_0 25 rfl
theorem dX9_part_55 : decode cX9_part 55 = .ok (.aload_n 0, 1) := zd_at zhX9_part_0 26 rfl
theorem dX9_part_56 : decode cX9_part 56 = .ok (.invokevirtual 196, 3) := zd_at zhX9_part_0 27 rfl
theorem dX9_part_59 : decode cX9_part 59 = .ok (.iload_n 2, 1) := zd_at zhX9_part_0 28 rfl
theorem dX9_part_60 : decode cX9_part 60 = .ok (.ireturn, 1) := zd_at zhX9_part_0 29 rfl
def ziX9_read_0 : List (Nat × Instr × Nat) := [(0, .aload_n 0, 1), (1, .sipush 160, 3), (4, .iload_n 1, 1), (5, .imul, 1), (6, .putfield 152, 3), (9, .aload_n 0, 1), (10, .aload_n 0, 1), (11, .getfield 17, 3), (14, .iload_n 1, 1), (15, .iaload, 1), (16, .putfield 149, 3), (19, .aload_n 0, 1), (20, .iconst 0, 1), (21, .putfield 155, 3), (24, .aload_n 0, 1), (25, .iconst 0, 1), (26, .putfield 190, 3), (29, .aload_n 0, 1), (30, .iconst 0, 1), (31, .putfield 179, 3), (34, .aload_n 0, 1), (35, .invokevirtual 196, 3), (38, .aload_n 0, 1), (39, .aload_n 0, 1), (40, .bipush 115, 2), (42, .bipush 116, 2), (44, .bipush 105, 2), (46, .bipush 99, 2), (48, .bipush 107, 2), (50, .bipush 115, 2), (52, .iconst 0, 1), (53, .iconst 0, 1), (54, .invokevirtual 199, 3), (57, .invokevirtual 343, 3), (60, .istore_n 3, 1), (61, .aload_n 0, 1), (62, .getfield 179, 3), (65, .ifCond .eq 7, 3), (68, .iconst 0, 1), (69, .goto 24, 3)]
theorem zhX9_read_0 : zd_chk (cX9_read.data.toList.drop 0) 0 ziX9_read_0 = true := by decide +kernel
theorem dX9_read_0 : decode cX9_read 0 = .ok (.aload_n 0, 1) := zd_at zhX9_read_0 0 rfl
theorem dX9_read_1 : decode cX9_read 1 = .ok (.sipush 160, 3) := zd_at zhX9_read_0 1 rfl
theorem dX9_read_4 : decode cX9_read 4 = .ok (.iload_n 1, 1) := zd_at zhX9_read_0 2 rfl
theorem dX9_read_5 : decode cX9_read 5 = .ok (.imul, 1) := zd_at zhX9_read_0 3 rfl
theorem dX9_read_6 : decode cX9_read 6 = .ok (.putfield 152, 3) := zd_at zhX9_read_0 4 rfl
theorem dX9_read_9 : decode cX9_read 9 = .ok (.aload_n 0, 1) := zd_at zhX9_read_0 5 rfl
theorem dX9_read_10 : decode cX9_read 10 = .ok (.aload_n 0, 1) := zd_at zhX9_read_0 6 rfl
theorem dX9_read_11 : decode cX9_read 11 = .ok (.getfield 17, 3) := zd_at zhX9_read_0 7 rfl
theorem dX9_read_14 : decode cX9_read 14 = .ok (.iload_n 1, 1) := zd_at zhX9_read_0 8 rfl
theorem dX9_read_15 : decode cX9_read 15 = .ok (.iaload, 1) := zd_at zhX9_read_0 9 rfl
theorem dX9_read_16 : decode cX9_read 16 = .ok (.putfield 149, 3) := zd_at zhX9_read_0 10 rfl
theorem dX9_read_19 : decode cX9_read 19 = .ok (.aload_n 0, 1) := zd_at zhX9_read_0 11 rfl
theorem dX9_read_20 : decode cX9_read 20 = .ok (.iconst 0, 1) := zd_at zhX9_read_0 12 rfl
theorem dX9_read_21 : decode cX9_read 21 = .ok (.putfield 155, 3) := zd_at zhX9_read_0 13 rfl
theorem dX9_read_24 : decode cX9_read 24 = .ok (.aload_n 0, 1) := zd_at zhX9_read_0 14 rfl
theorem dX9_read_25 : decode cX9_read 25 = .ok (.iconst 0, 1) := zd_at zhX9_read_0 15 rfl
theorem dX9_read_26 : decode cX9_read 26 = .ok (.putfield 190, 3) := zd_at zhX9_read_0 16 rfl
theorem dX9_read_29 : decode cX9_read 29 = .ok (.aload_n 0, 1) := zd_at zhX9_read_0 17 rfl
theorem dX9_read_30 : decode cX9_read 30 = .ok (.iconst 0, 1) := zd_at zhX9_read_0 18 rfl
theorem dX9_read_31 : decode cX9_read 31 = .ok (.putfield 179, 3) := zd_at zhX9_read_0 19 rfl
theorem dX9_read_34 : decode cX9_read 34 = .ok (.aload_n 0, 1) := zd_at zhX9_read_0 20 rfl
theorem dX9_read_35 : decode cX9_read 35 = .ok (.invokevirtual 196, 3) := zd_at zhX9_read_0 21 rfl
theorem dX9_read_38 : decode cX9_read 38 = .ok (.aload_n 0, 1) := zd_at zhX9_read_0 22 rfl
theorem dX9_read_39 : decode cX9_read 39 = .ok (.aload_n 0, 1) := zd_at zhX9_read_0 23 rfl
theorem dX9_read_40 : decode cX9_read 40 = .ok (.bipush 115, 2) := zd_at zhX9_read_0 24 rfl
theorem dX9_read_42 : decode cX9_read 42 = .ok (.bipush 116, 2) := zd_at zhX9_read_0 25 rfl
theorem dX9_read_44 : decode cX9_read 44 = .ok (.bipush 105, 2) := zd_at zhX9_read_0 26 rfl
theorem dX9_read_46 : decode cX9_read 46 = .ok (.bipush 99, 2) := zd_at zhX9_read_0 27 rfl
theorem dX9_read_48 : decode cX9_read 48 = .ok (.bipush 107, 2) := zd_at zhX9_read_0 28 rfl
theorem dX9_read_50 : decode cX9_read 50 = .ok (.bipush 115, 2) := zd_at zhX9_read_0 29 rfl
theorem dX9_read_52 : decode cX9_read 52 = .ok (.iconst 0, 1) := zd_at zhX9_read_0 30 rfl
theorem dX9_read_53 : decode cX9_read 53 = .ok (.iconst 0, 1) := zd_at zhX9_read_0 31 rfl
theorem dX9_read_54 : decode cX9_read 54 = .ok (.invokevirtual 199, 3) := zd_at zhX9_read_0 32 rfl
theorem dX9_read_57 : decode cX9_read 57 = .ok (.invokevirtual 343, 3) := zd_at zhX9_read_0 33 rfl
theorem dX9_read_60 : decode cX9_read 60 = .ok (.istore_n 3, 1) := zd_at zhX9_read_0 34 rfl
theorem dX9_read_61 : decode cX9_read 61 = .ok (.aload_n 0, 1) := zd_at zhX9_read_0 35 rfl
theorem dX9_read_62 : decode cX9_read 62 = .ok (.getfield 179, 3) := zd_at zhX9_read_0 36 rfl
theorem dX9_read_65 : decode cX9_read 65 = .ok (.ifCond .eq 7, 3) := zd_at zhX9_read_0 37 rfl
theorem dX9_read_68 : decode cX9_read 68 = .ok (.iconst 0, 1) := zd_at zhX9_read_0 38 rfl
theorem dX9_read_69 : decode cX9_read 69 = .ok (.goto 24, 3) := zd_at zhX9_read_0 39 rfl
def ziX9_read_72 : List (Nat × Instr × Nat) := [(72, .aload_n 0, 1), (73, .aload_n 0, 1), (74, .bipush 108, 2), (76, .bipush 97, 2), (78, .bipush 115, 2), (80, .bipush 116, 2), (82, .bipush 115, 2), (84, .iconst 0, 1), (85, .iconst 0, 1), (86, .iconst 0, 1), (87, .invokevirtual 199, 3), (90, .invokevirtual 343, 3), (93, .istore 4, 2), (95, .aload_n 0, 1), (96, .getfield 179, 3), (99, .ifCond .eq 7, 3), (102, .iconst 0, 1), (103, .goto 25, 3), (106, .aload_n 0, 1), (107, .aload_n 0, 1), (108, .bipush 115, 2), (110, .bipush 104, 2), (112, .bipush 97, 2), (114, .bipush 109, 2), (116, .bipush 101, 2), (118, .bipush 115, 2), (120, .iconst 0, 1), (121, .iconst 0, 1), (122, .invokevirtual 199, 3), (125, .invokevirtual 343, 3), (128, .istore 5, 2), (130, .aload_n 0, 1), (131, .getfield 179, 3), (134, .ifCond .ne 14, 3), (137, .aload_n 0, 1), (138, .getfield 164, 3), (141, .ifCond .eq 7, 3), (144, .aload_n 0, 1), (145, .invokevirtual 193, 3), (148, .iload_n 2, 1)]
theorem zhX9_read_72 : zd_chk (cX9_read.data.toList.drop 72) 72 ziX9_read_72 = true := by decide +kernel
theorem dX9_read_72 : decode cX9_read 72 = .ok (.aload_n 0, 1) := zd_at zhX9_read_72 0 rfl
theorem dX9_read_73 : decode cX9_read 73 = .ok (.aload_n 0, 1) := zd_at zhX9_read_72 1 rfl
theorem dX9_read_74 : decode cX9_read 74 = .ok (.bipush 108, 2) := zd_at zhX9_read_72 2 rfl
theorem dX9_read_76 : decode cX9_read 76 = .ok (.bipush 97, 2) := zd_at zhX9_read_72 3 rfl
theorem dX9_read_78 : decode cX9_read 78 = .ok (.bipush 115, 2) := zd_at zhX9_read_72 4 rfl
theorem dX9_read_80 : decode cX9_read 80 = .ok (.bipush 116, 2) := zd_at zhX9_read_72 5 rfl
theorem dX9_read_82 : decode cX9_read 82 = .ok (.bipush 115, 2) := zd_at zhX9_read_72 6 rfl
theorem dX9_read_84 : decode cX9_read 84 = .ok (.iconst 0, 1) := zd_at zhX9_read_72 7 rfl
theorem dX9_read_85 : decode cX9_read 85 = .ok (.iconst 0, 1) := zd_at zhX9_read_72 8 rfl
theorem dX9_read_86 : decode cX9_read 86 = .ok (.iconst 0, 1) := zd_at zhX9_read_72 9 rfl
theorem dX9_read_87 : decode cX9_read 87 = .ok (.invokevirtual 199, 3) := zd_at zhX9_read_72 10 rfl
theorem dX9_read_90 : decode cX9_read 90 = .ok (.invokevirtual 343, 3) := zd_at zhX9_read_72 11 rfl
theorem dX9_read_93 : decode cX9_read 93 = .ok (.istore 4, 2) := zd_at zhX9_read_72 12 rfl
theorem dX9_read_95 : decode cX9_read 95 = .ok (.aload_n 0, 1) := zd_at zhX9_read_72 13 rfl
theorem dX9_read_96 : decode cX9_read 96 = .ok (.getfield 179, 3) := zd_at zhX9_read_72 14 rfl
theorem dX9_read_99 : decode cX9_read 99 = .ok (.ifCond .eq 7, 3) := zd_at zhX9_read_72 15 rfl
theorem dX9_read_102 : decode cX9_read 102 = .ok (.iconst 0, 1) := zd_at zhX9_read_72 16 rfl
theorem dX9_read_103 : decode cX9_read 103 = .ok (.goto 25, 3) := zd_at zhX9_read_72 17 rfl
theorem dX9_read_106 : decode cX9_read 106 = .ok (.aload_n 0, 1) := zd_at zhX9_read_72 18 rfl
theorem dX9_read_107 : decode cX9_read 107 = .ok (.aload_n 0, 1) := zd_at zhX9_read_72 19 rfl
theorem dX9_read_108 : decode cX9_read 108 = .ok (.bipush 115, 2) := zd_at zhX9_read_72 20 rfl
theorem dX9_read_110 : decode cX9_read 110 = .ok (.bipush 104, 2) := zd_at zhX9_read_72 21 rfl
theorem dX9_read_112 : decode cX9_read 112 = .ok (.bipush 97, 2) := zd_at zhX9_read_72 22 rfl
theorem dX9_read_114 : decode cX9_read 114 = .ok (.bipush 109, 2) := zd_at zhX9_read_72 23 rfl
theorem dX9_read_116 : decode cX9_read 116 = .ok (.bipush 101, 2) := zd_at zhX9_read_72 24 rfl
theorem dX9_read_118 : decode cX9_read 118 = .ok (.bipush 115, 2) := zd_at zhX9_read_72 25 rfl
theorem dX9_read_120 : decode cX9_read 120 = .ok (.iconst 0, 1) := zd_at zhX9_read_72 26 rfl
theorem dX9_read_121 : decode cX9_read 121 = .ok (.iconst 0, 1) := zd_at zhX9_read_72 27 rfl
theorem dX9_read_122 : decode cX9_read 122 = .ok (.invokevirtual 199, 3) := zd_at zhX9_read_72 28 rfl
theorem dX9_read_125 : decode cX9_read 125 = .ok (.invokevirtual 343, 3) := zd_at zhX9_read_72 29 rfl
theorem dX9_read_128 : decode cX9_read 128 = .ok (.istore 5, 2) := zd_at zhX9_read_72 30 rfl
theorem dX9_read_130 : decode cX9_read 130 = .ok (.aload_n 0, 1) := zd_at zhX9_read_72 31 rfl
theorem dX9_read_131 : decode cX9_read 131 = .ok (.getfield 179, 3) := zd_at zhX9_read_72 32 rfl
theorem dX9_read_134 : decode cX9_read 134 = .ok (.ifCond .ne 14, 3) := zd_at zhX9_read_72 33 rfl
theorem dX9_read_137 : decode cX9_read 137 = .ok (.aload_n 0, 1) := zd_at zhX9_read_72 34 rfl
theorem dX9_read_138 : decode cX9_read 138 = .ok (.getfield 164, 3) := zd_at zhX9_read_72 35 rfl
theorem dX9_read_141 : decode cX9_read 141 = .ok (.ifCond .eq 7, 3) := zd_at zhX9_read_72 36 rfl
theorem dX9_read_144 : decode cX9_read 144 = .ok (.aload_n 0, 1) := zd_at zhX9_read_72 37 rfl
theorem dX9_read_145 : decode cX9_read 145 = .ok (.invokevirtual 193, 3) := zd_at zhX9_read_72 38 rfl
theorem dX9_read_148 : decode cX9_read 148 = .ok (.iload_n 2, 1) := zd_at zhX9_read_72 39 rfl
def ziX9_read_149 : List (Nat × Instr × Nat) := [(149, .ifCond .ne 7, 3), (152, .iload_n 3, 1), (153, .goto 15, 3), (156, .iload_n 2, 1), (157, .iconst 1, 1), (158, .if_icmp .ne 8, 3), (161, .iload 4, 2), (163, .goto 5, 3), (166, .iload 5, 2), (168, .ireturn, 1)]
theorem zhX9_read_149 : zd_chk (cX9_read.data.toList.drop 149) 149 ziX9_read_149 = true := by decide +kernel
theorem dX9_read_149 : decode cX9_read 149 = .ok (.ifCond .ne 7, 3) := zd_at zhX9_read_149 0 rfl
theorem dX9_read_152 : decode cX9_read 152 = .ok (.iload_n 3, 1) := zd_at zhX9_read_149 1 rfl
theorem dX9_read_153 : decode cX9_read 153 = .ok (.goto 15, 3) := zd_at zhX9_read_149 2 rfl
theorem dX9_read_156 : decode cX9_read 156 = .ok (.iload_n 2, 1) := zd_at zhX9_read_149 3 rfl
theorem dX9_read_157 : decode cX9_read 157 = .ok (.iconst 1, 1) := zd_at zhX9_read_149 4 rfl
theorem dX9_read_158 : decode cX9_read 158 = .ok (.if_icmp .ne 8, 3) := zd_at zhX9_read_149 5 rfl
theorem dX9_read_161 : decode cX9_read 161 = .ok (.iload 4, 2) := zd_at zhX9_read_149 6 rfl
theorem dX9_read_163 : decode cX9_read 163 = .ok (.goto 5, 3) := zd_at zhX9_read_149 7 rfl
theorem dX9_read_166 : decode cX9_read 166 = .ok (.iload 5, 2) := zd_at zhX9_read_149 8 rfl
theorem dX9_read_168 : decode cX9_read 168 = .ok (.ireturn, 1) := zd_at zhX9_read_149 9 rfl
def ziX9_text_0 : List (Nat × Instr × Nat) := [(0, .aload_n 0, 1), (1, .getfield 85, 3), (4, .bipush 6, 2), (6, .if_icmp .ne 6, 3), (9, .bipush (-4), 2), (11, .ireturn, 1), (12, .iconst 0, 1), (13, .istore_n 1, 1), (14, .iload_n 1, 1), (15, .aload_n 0, 1), (16, .getfield 146, 3), (19, .if_icmp .ge 30, 3), (22, .aload_n 0, 1), (23, .getfield 13, 3), (26, .sipush 160, 3), (29, .aload_n 0, 1), (30, .getfield 85, 3), (33, .imul, 1), (34, .iload_n 1, 1), (35, .iadd, 1), (36, .aload_n 0, 1), (37, .getfield 20, 3), (40, .iload_n 1, 1), (41, .iaload, 1), (42, .iastore, 1), (43, .iinc 1 1, 3), (46, .goto (-32), 3), (49, .aload_n 0, 1), (50, .getfield 17, 3), (53, .aload_n 0, 1), (54, .getfield 85, 3), (57, .aload_n 0, 1), (58, .getfield 146, 3), (61, .iastore, 1), (62, .aload_n 0, 1), (63, .iconst 0, 1), (64, .putfield 146, 3), (67, .aload_n 0, 1), (68, .aload_n 0, 1), (69, .getfield 85, 3)]
theorem zhX9_text_0 : zd_chk (cX9_text.data.toList.drop 0) 0 ziX9_text_0 = true := by decide +kernel
theorem dX9_text_0 : decode cX9_text 0 = .ok (.aload_n 0, 1) := zd_at zhX9_text_0 0 rfl
theorem dX9_text_1 : decode cX9_text 1 = .ok (.getfield 85, 3) := zd_at zhX9_text_0 1 rfl
theorem dX9_text_4 : decode cX9_text 4 = .ok (.bipush 6, 2) := zd_at zhX9_text_0 2 rfl
theorem dX9_text_6 : decode cX9_text 6 = .ok (.if_icmp .ne 6, 3) := zd_at zhX9_text_0 3 rfl
theorem dX9_text_9 : decode cX9_text 9 = .ok (.bipush (-4), 2) := zd_at zhX9_text_0 4 rfl
theorem dX9_text_11 : decode cX9_text 11 = .ok (.ireturn, 1) := zd_at zhX9_text_0 5 rfl
theorem dX9_text_12 : decode cX9_text 12 = .ok (.iconst 0, 1) := zd_at zhX9_text_0 6 rfl
theorem dX9_text_13 : decode cX9_text 13 = .ok (.istore_n 1, 1) := zd_at zhX9_text_0 7 rfl
theorem dX9_text_14 : decode cX9_text 14 = .ok (.iload_n 1, 1) := zd_at zhX9_text_0 8 rfl
theorem dX9_text_15 : decode cX9_text 15 = .ok (.aload_n 0, 1) := zd_at zhX9_text_0 9 rfl
theorem dX9_text_16 : decode cX9_text 16 = .ok (.getfield 146, 3) := zd_at zhX9_text_0 10 rfl
theorem dX9_text_19 : decode cX9_text 19 = .ok (.if_icmp .ge 30, 3) := zd_at zhX9_text_0 11 rfl
theorem dX9_text_22 : decode cX9_text 22 = .ok (.aload_n 0, 1) := zd_at zhX9_text_0 12 rfl
theorem dX9_text_23 : decode cX9_text 23 = .ok (.getfield 13, 3) := zd_at zhX9_text_0 13 rfl
theorem dX9_text_26 : decode cX9_text 26 = .ok (.sipush 160, 3) := zd_at zhX9_text_0 14 rfl
theorem dX9_text_29 : decode cX9_text 29 = .ok (.aload_n 0, 1) := zd_at zhX9_text_0 15 rfl
theorem dX9_text_30 : decode cX9_text 30 = .ok (.getfield 85, 3) := zd_at zhX9_text_0 16 rfl
theorem dX9_text_33 : decode cX9_text 33 = .ok (.imul, 1) := zd_at zhX9_text_0 17 rfl
theorem dX9_text_34 : decode cX9_text 34 = .ok (.iload_n 1, 1) := zd_at zhX9_text_0 18 rfl
theorem dX9_text_35 : decode cX9_text 35 = .ok (.iadd, 1) := zd_at zhX9_text_0 19 rfl
theorem dX9_text_36 : decode cX9_text 36 = .ok (.aload_n 0, 1) := zd_at zhX9_text_0 20 rfl
theorem dX9_text_37 : decode cX9_text 37 = .ok (.getfield 20, 3) := zd_at zhX9_text_0 21 rfl
theorem dX9_text_40 : decode cX9_text 40 = .ok (.iload_n 1, 1) := zd_at zhX9_text_0 22 rfl
theorem dX9_text_41 : decode cX9_text 41 = .ok (.iaload, 1) := zd_at zhX9_text_0 23 rfl
theorem dX9_text_42 : decode cX9_text 42 = .ok (.iastore, 1) := zd_at zhX9_text_0 24 rfl
theorem dX9_text_43 : decode cX9_text 43 = .ok (.iinc 1 1, 3) := zd_at zhX9_text_0 25 rfl
theorem dX9_text_46 : decode cX9_text 46 = .ok (.goto (-32), 3) := zd_at zhX9_text_0 26 rfl
theorem dX9_text_49 : decode cX9_text 49 = .ok (.aload_n 0, 1) := zd_at zhX9_text_0 27 rfl
theorem dX9_text_50 : decode cX9_text 50 = .ok (.getfield 17, 3) := zd_at zhX9_text_0 28 rfl
theorem dX9_text_53 : decode cX9_text 53 = .ok (.aload_n 0, 1) := zd_at zhX9_text_0 29 rfl
theorem dX9_text_54 : decode cX9_text 54 = .ok (.getfield 85, 3) := zd_at zhX9_text_0 30 rfl
theorem dX9_text_57 : decode cX9_text 57 = .ok (.aload_n 0, 1) := zd_at zhX9_text_0 31 rfl
theorem dX9_text_58 : decode cX9_text 58 = .ok (.getfield 146, 3) := zd_at zhX9_text_0 32 rfl
theorem dX9_text_61 : decode cX9_text 61 = .ok (.iastore, 1) := zd_at zhX9_text_0 33 rfl
theorem dX9_text_62 : decode cX9_text 62 = .ok (.aload_n 0, 1) := zd_at zhX9_text_0 34 rfl
theorem dX9_text_63 : decode cX9_text 63 = .ok (.iconst 0, 1) := zd_at zhX9_text_0 35 rfl
theorem dX9_text_64 : decode cX9_text 64 = .ok (.putfield 146, 3) := zd_at zhX9_text_0 36 rfl
theorem dX9_text_67 : decode cX9_text 67 = .ok (.aload_n 0, 1) := zd_at zhX9_text_0 37 rfl
theorem dX9_text_68 : decode cX9_text 68 = .ok (.aload_n 0, 1) := zd_at zhX9_text_0 38 rfl
theorem dX9_text_69 : decode cX9_text 69 = .ok (.getfield 85, 3) := zd_at zhX9_text_0 39 rfl
def ziX9_text_72 : List (Nat × Instr × Nat) := [(72, .iconst 0, 1), (73, .invokevirtual 347, 3), (76, .istore_n 1, 1), (77, .aload_n 0, 1), (78, .getfield 179, 3), (81, .ifCond .eq 11, 3), (84, .bipush (-100), 2), (86, .aload_n 0, 1), (87, .getfield 183, 3), (90, .isub, 1), (91, .ireturn, 1), (92, .aload_n 0, 1), (93, .dup, 1), (94, .getfield 85, 3), (97, .iconst 1, 1), (98, .iadd, 1), (99, .putfield 85, 3), (102, .aload_n 0, 1), (103, .getfield 85, 3), (106, .iconst 1, 1), (107, .isub, 1), (108, .ireturn, 1)]
theorem zhX9_text_72 : zd_chk (cX9_text.data.toList.drop 72) 72 ziX9_text_72 = true := by decide +kernel
theorem dX9_text_72 : decode cX9_text 72 = .ok (.iconst 0, 1) := zd_at zhX9_text_72 0 rfl
theorem dX9_text_73 : decode cX9_text 73 = .ok (.invokevirtual 347, 3) := zd_at zhX9_text_72 1 rfl
theorem dX9_text_76 : decode cX9_text 76 = .ok (.istore_n 1, 1) := zd_at zhX9_text_72 2 rfl
theorem dX9_text_77 : decode cX9_text 77 = .ok (.aload_n 0, 1) := zd_at zhX9_text_72 3 rfl
theorem dX9_text_78 : decode cX9_text 78 = .ok (.getfield 179, 3) := zd_at zhX9_text_72 4 rfl
theorem dX9_text_81 : decode cX9_text 81 = .ok (.ifCond .eq 11, 3) := zd_at zhX9_text_72 5 rfl
theorem dX9_text_84 : decode cX9_text 84 = .ok (.bipush (-100), 2) := zd_at zhX9_text_72 6 rfl
theorem dX9_text_86 : decode cX9_text 86 = .ok (.aload_n 0, 1) := zd_at zhX9_text_72 7 rfl
theorem dX9_text_87 : decode cX9_text 87 = .ok (.getfield 183, 3) := zd_at zhX9_text_72 8 rfl
theorem dX9_text_90 : decode cX9_text 90 = .ok (.isub, 1) := zd_at zhX9_text_72 9 rfl
theorem dX9_text_91 : decode cX9_text 91 = .ok (.ireturn, 1) := zd_at zhX9_text_72 10 rfl
theorem dX9_text_92 : decode cX9_text 92 = .ok (.aload_n 0, 1) := zd_at zhX9_text_72 11 rfl
theorem dX9_text_93 : decode cX9_text 93 = .ok (.dup, 1) := zd_at zhX9_text_72 12 rfl
theorem dX9_text_94 : decode cX9_text 94 = .ok (.getfield 85, 3) := zd_at zhX9_text_72 13 rfl
theorem dX9_text_97 : decode cX9_text 97 = .ok (.iconst 1, 1) := zd_at zhX9_text_72 14 rfl
theorem dX9_text_98 : decode cX9_text 98 = .ok (.iadd, 1) := zd_at zhX9_text_72 15 rfl
theorem dX9_text_99 : decode cX9_text 99 = .ok (.putfield 85, 3) := zd_at zhX9_text_72 16 rfl
theorem dX9_text_102 : decode cX9_text 102 = .ok (.aload_n 0, 1) := zd_at zhX9_text_72 17 rfl
theorem dX9_text_103 : decode cX9_text 103 = .ok (.getfield 85, 3) := zd_at zhX9_text_72 18 rfl
theorem dX9_text_106 : decode cX9_text 106 = .ok (.iconst 1, 1) := zd_at zhX9_text_72 19 rfl
theorem dX9_text_107 : decode cX9_text 107 = .ok (.isub, 1) := zd_at zhX9_text_72 20 rfl
theorem dX9_text_108 : decode cX9_text 108 = .ok (.ireturn, 1) := zd_at zhX9_text_72 21 rfl
def ziX9_force_0 : List (Nat × Instr × Nat) := [(0, .iload_n 1, 1), (1, .i2l, 1), (2, .lconst 0, 1), (3, .aload_n 0, 1), (4, .getfield 85, 3), (7, .iconst 1, 1), (8, .isub, 1), (9, .i2l, 1), (10, .invokestatic 91, 3), (13, .ifCond .ne 6, 3), (16, .bipush (-2), 2), (18, .ireturn, 1), (19, .aload_n 0, 1), (20, .getfield 120, 3), (23, .istore_n 2, 1), (24, .aload_n 0, 1), (25, .iload_n 1, 1), (26, .putfield 120, 3), (29, .iload_n 2, 1), (30, .ireturn, 1)]
theorem zhX9_force_0 : zd_chk (cX9_force.data.toList.drop 0) 0 ziX9_force_0 = true := by decide +kernel
theorem dX9_force_0 : decode cX9_force 0 = .ok (.iload_n 1, 1) := zd_at zhX9_force_0 0 rfl
theorem dX9_force_1 : decode cX9_force 1 = .ok (.i2l, 1) := zd_at zhX9_force_0 1 rfl
theorem dX9_force_2 : decode cX9_force 2 = .ok (.lconst 0, 1) := zd_at zhX9_force_0 2 rfl
theorem dX9_force_3 : decode cX9_force 3 = .ok (.aload_n 0, 1) := zd_at zhX9_force_0 3 rfl
theorem dX9_force_4 : decode cX9_force 4 = .ok (.getfield 85, 3) := zd_at zhX9_force_0 4 rfl
theorem dX9_force_7 : decode cX9_force 7 = .ok (.iconst 1, 1) := zd_at zhX9_force_0 5 rfl
theorem dX9_force_8 : decode cX9_force 8 = .ok (.isub, 1) := zd_at zhX9_force_0 6 rfl
theorem dX9_force_9 : decode cX9_force 9 = .ok (.i2l, 1) := zd_at zhX9_force_0 7 rfl
theorem dX9_force_10 : decode cX9_force 10 = .ok (.invokestatic 91, 3) := zd_at zhX9_force_0 8 rfl
theorem dX9_force_13 : decode cX9_force 13 = .ok (.ifCond .ne 6, 3) := zd_at zhX9_force_0 9 rfl
theorem dX9_force_16 : decode cX9_force 16 = .ok (.bipush (-2), 2) := zd_at zhX9_force_0 10 rfl
theorem dX9_force_18 : decode cX9_force 18 = .ok (.ireturn, 1) := zd_at zhX9_force_0 11 rfl
theorem dX9_force_19 : decode cX9_force 19 = .ok (.aload_n 0, 1) := zd_at zhX9_force_0 12 rfl
theorem dX9_force_20 : decode cX9_force 20 = .ok (.getfield 120, 3) := zd_at zhX9_force_0 13 rfl
theorem dX9_force_23 : decode cX9_force 23 = .ok (.istore_n 2, 1) := zd_at zhX9_force_0 14 rfl
theorem dX9_force_24 : decode cX9_force 24 = .ok (.aload_n 0, 1) := zd_at zhX9_force_0 15 rfl
theorem dX9_force_25 : decode cX9_force 25 = .ok (.iload_n 1, 1) := zd_at zhX9_force_0 16 rfl
theorem dX9_force_26 : decode cX9_force 26 = .ok (.putfield 120, 3) := zd_at zhX9_force_0 17 rfl
theorem dX9_force_29 : decode cX9_force 29 = .ok (.iload_n 2, 1) := zd_at zhX9_force_0 18 rfl
theorem dX9_force_30 : decode cX9_force 30 = .ok (.ireturn, 1) := zd_at zhX9_force_0 19 rfl
def ziX9_asks_0 : List (Nat × Instr × Nat) := [(0, .aload_n 0, 1), (1, .iload_n 3, 1), (2, .putfield 202, 3), (5, .aload_n 0, 1), (6, .iload 4, 2), (8, .putfield 205, 3), (11, .aload_n 0, 1), (12, .aload_n 0, 1), (13, .getfield 117, 3), (16, .putfield 208, 3), (19, .aload_n 0, 1), (20, .aload_n 0, 1), (21, .getfield 29, 3), (24, .iload_n 2, 1), (25, .iaload, 1), (26, .putfield 211, 3), (29, .aload_n 0, 1), (30, .iload 5, 2), (32, .putfield 214, 3), (35, .aload_n 0, 1), (36, .iload 6, 2), (38, .putfield 217, 3), (41, .aload_n 0, 1), (42, .aload_n 0, 1), (43, .getfield 120, 3), (46, .iload_n 1, 1), (47, .invokevirtual 347, 3), (50, .iconst 0, 1), (51, .bipush 99, 2), (53, .invokestatic 350, 3), (56, .ireturn, 1)]
theorem zhX9_asks_0 : zd_chk (cX9_asks.data.toList.drop 0) 0 ziX9_asks_0 = true := by decide +kernel
theorem dX9_asks_0 : decode cX9_asks 0 = .ok (.aload_n 0, 1) := zd_at zhX9_asks_0 0 rfl
theorem dX9_asks_1 : decode cX9_asks 1 = .ok (.iload_n 3, 1) := zd_at zhX9_asks_0 1 rfl
theorem dX9_asks_2 : decode cX9_asks 2 = .ok (.putfield 202, 3) := zd_at zhX9_asks_0 2 rfl
theorem dX9_asks_5 : decode cX9_asks 5 = .ok (.aload_n 0, 1) := zd_at zhX9_asks_0 3 rfl
theorem dX9_asks_6 : decode cX9_asks 6 = .ok (.iload 4, 2) := zd_at zhX9_asks_0 4 rfl
theorem dX9_asks_8 : decode cX9_asks 8 = .ok (.putfield 205, 3) := zd_at zhX9_asks_0 5 rfl
theorem dX9_asks_11 : decode cX9_asks 11 = .ok (.aload_n 0, 1) := zd_at zhX9_asks_0 6 rfl
theorem dX9_asks_12 : decode cX9_asks 12 = .ok (.aload_n 0, 1) := zd_at zhX9_asks_0 7 rfl
theorem dX9_asks_13 : decode cX9_asks 13 = .ok (.getfield 117, 3) := zd_at zhX9_asks_0 8 rfl
theorem dX9_asks_16 : decode cX9_asks 16 = .ok (.putfield 208, 3) := zd_at zhX9_asks_0 9 rfl
theorem dX9_asks_19 : decode cX9_asks 19 = .ok (.aload_n 0, 1) := zd_at zhX9_asks_0 10 rfl
theorem dX9_asks_20 : decode cX9_asks 20 = .ok (.aload_n 0, 1) := zd_at zhX9_asks_0 11 rfl
theorem dX9_asks_21 : decode cX9_asks 21 = .ok (.getfield 29, 3) := zd_at zhX9_asks_0 12 rfl
theorem dX9_asks_24 : decode cX9_asks 24 = .ok (.iload_n 2, 1) := zd_at zhX9_asks_0 13 rfl
theorem dX9_asks_25 : decode cX9_asks 25 = .ok (.iaload, 1) := zd_at zhX9_asks_0 14 rfl
theorem dX9_asks_26 : decode cX9_asks 26 = .ok (.putfield 211, 3) := zd_at zhX9_asks_0 15 rfl
theorem dX9_asks_29 : decode cX9_asks 29 = .ok (.aload_n 0, 1) := zd_at zhX9_asks_0 16 rfl
theorem dX9_asks_30 : decode cX9_asks 30 = .ok (.iload 5, 2) := zd_at zhX9_asks_0 17 rfl
theorem dX9_asks_32 : decode cX9_asks 32 = .ok (.putfield 214, 3) := zd_at zhX9_asks_0 18 rfl
theorem dX9_asks_35 : decode cX9_asks 35 = .ok (.aload_n 0, 1) := zd_at zhX9_asks_0 19 rfl
theorem dX9_asks_36 : decode cX9_asks 36 = .ok (.iload 6, 2) := zd_at zhX9_asks_0 20 rfl
theorem dX9_asks_38 : decode cX9_asks 38 = .ok (.putfield 217, 3) := zd_at zhX9_asks_0 21 rfl
theorem dX9_asks_41 : decode cX9_asks 41 = .ok (.aload_n 0, 1) := zd_at zhX9_asks_0 22 rfl
theorem dX9_asks_42 : decode cX9_asks 42 = .ok (.aload_n 0, 1) := zd_at zhX9_asks_0 23 rfl
theorem dX9_asks_43 : decode cX9_asks 43 = .ok (.getfield 120, 3) := zd_at zhX9_asks_0 24 rfl
theorem dX9_asks_46 : decode cX9_asks 46 = .ok (.iload_n 1, 1) := zd_at zhX9_asks_0 25 rfl
theorem dX9_asks_47 : decode cX9_asks 47 = .ok (.invokevirtual 347, 3) := zd_at zhX9_asks_0 26 rfl
theorem dX9_asks_50 : decode cX9_asks 50 = .ok (.iconst 0, 1) := zd_at zhX9_asks_0 27 rfl
theorem dX9_asks_51 : decode cX9_asks 51 = .ok (.bipush 99, 2) := zd_at zhX9_asks_0 28 rfl
theorem dX9_asks_53 : decode cX9_asks 53 = .ok (.invokestatic 350, 3) := zd_at zhX9_asks_0 29 rfl
theorem dX9_asks_56 : decode cX9_asks 56 = .ok (.ireturn, 1) := zd_at zhX9_asks_0 30 rfl
def ziX9_takesOf_0 : List (Nat × Instr × Nat) := [(0, .aload_n 0, 1), (1, .getfield 26, 3), (4, .iload_n 1, 1), (5, .iaload, 1), (6, .istore_n 3, 1), (7, .iload_n 3, 1), (8, .iconst 3, 1), (9, .if_icmp .ne 12, 3), (12, .iload_n 2, 1), (13, .iconst 2, 1), (14, .irem, 1), (15, .iconst 1, 1), (16, .if_icmp .ne 5, 3), (19, .iconst (-1), 1), (20, .ireturn, 1), (21, .iload_n 3, 1), (22, .iconst 1, 1), (23, .if_icmp .eq 8, 3), (26, .iload_n 3, 1), (27, .iconst 3, 1), (28, .if_icmp .ne 12, 3), (31, .iload_n 2, 1), (32, .bipush 10, 2), (34, .irem, 1), (35, .iconst 2, 1), (36, .idiv, 1), (37, .goto 34, 3), (40, .iload_n 3, 1), (41, .iconst 4, 1), (42, .if_icmp .ne 13, 3), (45, .bipush 9, 2), (47, .iload_n 2, 1), (48, .bipush 10, 2), (50, .irem, 1), (51, .isub, 1), (52, .goto 19, 3), (55, .iload_n 3, 1), (56, .iconst 5, 1), (57, .if_icmp .ne 10, 3), (60, .iload_n 2, 1)]
theorem zhX9_takesOf_0 : zd_chk (cX9_takesOf.data.toList.drop 0) 0 ziX9_takesOf_0 = true := by decide +kernel
theorem dX9_takesOf_0 : decode cX9_takesOf 0 = .ok (.aload_n 0, 1) := zd_at zhX9_takesOf_0 0 rfl
theorem dX9_takesOf_1 : decode cX9_takesOf 1 = .ok (.getfield 26, 3) := zd_at zhX9_takesOf_0 1 rfl
theorem dX9_takesOf_4 : decode cX9_takesOf 4 = .ok (.iload_n 1, 1) := zd_at zhX9_takesOf_0 2 rfl
theorem dX9_takesOf_5 : decode cX9_takesOf 5 = .ok (.iaload, 1) := zd_at zhX9_takesOf_0 3 rfl
theorem dX9_takesOf_6 : decode cX9_takesOf 6 = .ok (.istore_n 3, 1) := zd_at zhX9_takesOf_0 4 rfl
theorem dX9_takesOf_7 : decode cX9_takesOf 7 = .ok (.iload_n 3, 1) := zd_at zhX9_takesOf_0 5 rfl
theorem dX9_takesOf_8 : decode cX9_takesOf 8 = .ok (.iconst 3, 1) := zd_at zhX9_takesOf_0 6 rfl
theorem dX9_takesOf_9 : decode cX9_takesOf 9 = .ok (.if_icmp .ne 12, 3) := zd_at zhX9_takesOf_0 7 rfl
theorem dX9_takesOf_12 : decode cX9_takesOf 12 = .ok (.iload_n 2, 1) := zd_at zhX9_takesOf_0 8 rfl
theorem dX9_takesOf_13 : decode cX9_takesOf 13 = .ok (.iconst 2, 1) := zd_at zhX9_takesOf_0 9 rfl
theorem dX9_takesOf_14 : decode cX9_takesOf 14 = .ok (.irem, 1) := zd_at zhX9_takesOf_0 10 rfl
theorem dX9_takesOf_15 : decode cX9_takesOf 15 = .ok (.iconst 1, 1) := zd_at zhX9_takesOf_0 11 rfl
theorem dX9_takesOf_16 : decode cX9_takesOf 16 = .ok (.if_icmp .ne 5, 3) := zd_at zhX9_takesOf_0 12 rfl
theorem dX9_takesOf_19 : decode cX9_takesOf 19 = .ok (.iconst (-1), 1) := zd_at zhX9_takesOf_0 13 rfl
theorem dX9_takesOf_20 : decode cX9_takesOf 20 = .ok (.ireturn, 1) := zd_at zhX9_takesOf_0 14 rfl
theorem dX9_takesOf_21 : decode cX9_takesOf 21 = .ok (.iload_n 3, 1) := zd_at zhX9_takesOf_0 15 rfl
theorem dX9_takesOf_22 : decode cX9_takesOf 22 = .ok (.iconst 1, 1) := zd_at zhX9_takesOf_0 16 rfl
theorem dX9_takesOf_23 : decode cX9_takesOf 23 = .ok (.if_icmp .eq 8, 3) := zd_at zhX9_takesOf_0 17 rfl
theorem dX9_takesOf_26 : decode cX9_takesOf 26 = .ok (.iload_n 3, 1) := zd_at zhX9_takesOf_0 18 rfl
theorem dX9_takesOf_27 : decode cX9_takesOf 27 = .ok (.iconst 3, 1) := zd_at zhX9_takesOf_0 19 rfl
theorem dX9_takesOf_28 : decode cX9_takesOf 28 = .ok (.if_icmp .ne 12, 3) := zd_at zhX9_takesOf_0 20 rfl
theorem dX9_takesOf_31 : decode cX9_takesOf 31 = .ok (.iload_n 2, 1) := zd_at zhX9_takesOf_0 21 rfl
theorem dX9_takesOf_32 : decode cX9_takesOf 32 = .ok (.bipush 10, 2) := zd_at zhX9_takesOf_0 22 rfl
theorem dX9_takesOf_34 : decode cX9_takesOf 34 = .ok (.irem, 1) := zd_at zhX9_takesOf_0 23 rfl
theorem dX9_takesOf_35 : decode cX9_takesOf 35 = .ok (.iconst 2, 1) := zd_at zhX9_takesOf_0 24 rfl
theorem dX9_takesOf_36 : decode cX9_takesOf 36 = .ok (.idiv, 1) := zd_at zhX9_takesOf_0 25 rfl
theorem dX9_takesOf_37 : decode cX9_takesOf 37 = .ok (.goto 34, 3) := zd_at zhX9_takesOf_0 26 rfl
theorem dX9_takesOf_40 : decode cX9_takesOf 40 = .ok (.iload_n 3, 1) := zd_at zhX9_takesOf_0 27 rfl
theorem dX9_takesOf_41 : decode cX9_takesOf 41 = .ok (.iconst 4, 1) := zd_at zhX9_takesOf_0 28 rfl
theorem dX9_takesOf_42 : decode cX9_takesOf 42 = .ok (.if_icmp .ne 13, 3) := zd_at zhX9_takesOf_0 29 rfl
theorem dX9_takesOf_45 : decode cX9_takesOf 45 = .ok (.bipush 9, 2) := zd_at zhX9_takesOf_0 30 rfl
theorem dX9_takesOf_47 : decode cX9_takesOf 47 = .ok (.iload_n 2, 1) := zd_at zhX9_takesOf_0 31 rfl
theorem dX9_takesOf_48 : decode cX9_takesOf 48 = .ok (.bipush 10, 2) := zd_at zhX9_takesOf_0 32 rfl
theorem dX9_takesOf_50 : decode cX9_takesOf 50 = .ok (.irem, 1) := zd_at zhX9_takesOf_0 33 rfl
theorem dX9_takesOf_51 : decode cX9_takesOf 51 = .ok (.isub, 1) := zd_at zhX9_takesOf_0 34 rfl
theorem dX9_takesOf_52 : decode cX9_takesOf 52 = .ok (.goto 19, 3) := zd_at zhX9_takesOf_0 35 rfl
theorem dX9_takesOf_55 : decode cX9_takesOf 55 = .ok (.iload_n 3, 1) := zd_at zhX9_takesOf_0 36 rfl
theorem dX9_takesOf_56 : decode cX9_takesOf 56 = .ok (.iconst 5, 1) := zd_at zhX9_takesOf_0 37 rfl
theorem dX9_takesOf_57 : decode cX9_takesOf 57 = .ok (.if_icmp .ne 10, 3) := zd_at zhX9_takesOf_0 38 rfl
theorem dX9_takesOf_60 : decode cX9_takesOf 60 = .ok (.iload_n 2, 1) := zd_at zhX9_takesOf_0 39 rfl
def ziX9_takesOf_61 : List (Nat × Instr × Nat) := [(61, .bipush 10, 2), (63, .idiv, 1), (64, .goto 7, 3), (67, .iload_n 2, 1), (68, .bipush 10, 2), (70, .irem, 1), (71, .ireturn, 1)]
theorem zhX9_takesOf_61 : zd_chk (cX9_takesOf.data.toList.drop 61) 61 ziX9_takesOf_61 = true := by decide +kernel
theorem dX9_takesOf_61 : decode cX9_takesOf 61 = .ok (.bipush 10, 2) := zd_at zhX9_takesOf_61 0 rfl
theorem dX9_takesOf_63 : decode cX9_takesOf 63 = .ok (.idiv, 1) := zd_at zhX9_takesOf_61 1 rfl
theorem dX9_takesOf_64 : decode cX9_takesOf 64 = .ok (.goto 7, 3) := zd_at zhX9_takesOf_61 2 rfl
theorem dX9_takesOf_67 : decode cX9_takesOf 67 = .ok (.iload_n 2, 1) := zd_at zhX9_takesOf_61 3 rfl
theorem dX9_takesOf_68 : decode cX9_takesOf 68 = .ok (.bipush 10, 2) := zd_at zhX9_takesOf_61 4 rfl
theorem dX9_takesOf_70 : decode cX9_takesOf 70 = .ok (.irem, 1) := zd_at zhX9_takesOf_61 5 rfl
theorem dX9_takesOf_71 : decode cX9_takesOf 71 = .ok (.ireturn, 1) := zd_at zhX9_takesOf_61 6 rfl
def ziX9_holdsIn_0 : List (Nat × Instr × Nat) := [(0, .iload_n 1, 1), (1, .bipush 10, 2), (3, .idiv, 1), (4, .istore_n 2, 1), (5, .aload_n 0, 1), (6, .getfield 26, 3), (9, .iload_n 2, 1), (10, .iaload, 1), (11, .istore_n 3, 1), (12, .aload_n 0, 1), (13, .iconst 1, 1), (14, .iload_n 2, 1), (15, .aload_n 0, 1), (16, .getfield 32, 3), (19, .iload_n 1, 1), (20, .iaload, 1), (21, .iconst 0, 1), (22, .iload_n 1, 1), (23, .bipush 10, 2), (25, .irem, 1), (26, .aload_n 0, 1), (27, .getfield 35, 3), (30, .iload_n 1, 1), (31, .iaload, 1), (32, .invokevirtual 354, 3), (35, .istore 4, 2), (37, .iload_n 3, 1), (38, .iconst 1, 1), (39, .if_icmp .ne 15, 3), (42, .iload 4, 2), (44, .aload_n 0, 1), (45, .getfield 29, 3), (48, .iload_n 2, 1), (49, .iaload, 1), (50, .iadd, 1), (51, .goto 57, 3), (54, .iload_n 3, 1), (55, .iconst 3, 1), (56, .if_icmp .ne 17, 3), (59, .iload 4, 2)]
theorem zhX9_holdsIn_0 : zd_chk (cX9_holdsIn.data.toList.drop 0) 0 ziX9_holdsIn_0 = true := by decide +kernel
theorem dX9_holdsIn_0 : decode cX9_holdsIn 0 = .ok (.iload_n 1, 1) := zd_at zhX9_holdsIn_0 0 rfl
theorem dX9_holdsIn_1 : decode cX9_holdsIn 1 = .ok (.bipush 10, 2) := zd_at zhX9_holdsIn_0 1 rfl
theorem dX9_holdsIn_3 : decode cX9_holdsIn 3 = .ok (.idiv, 1) := zd_at zhX9_holdsIn_0 2 rfl
theorem dX9_holdsIn_4 : decode cX9_holdsIn 4 = .ok (.istore_n 2, 1) := zd_at zhX9_holdsIn_0 3 rfl
theorem dX9_holdsIn_5 : decode cX9_holdsIn 5 = .ok (.aload_n 0, 1) := zd_at zhX9_holdsIn_0 4 rfl
theorem dX9_holdsIn_6 : decode cX9_holdsIn 6 = .ok (.getfield 26, 3) := zd_at zhX9_holdsIn_0 5 rfl
theorem dX9_holdsIn_9 : decode cX9_holdsIn 9 = .ok (.iload_n 2, 1) := zd_at zhX9_holdsIn_0 6 rfl
theorem dX9_holdsIn_10 : decode cX9_holdsIn 10 = .ok (.iaload, 1) := zd_at zhX9_holdsIn_0 7 rfl
theorem dX9_holdsIn_11 : decode cX9_holdsIn 11 = .ok (.istore_n 3, 1) := zd_at zhX9_holdsIn_0 8 rfl
theorem dX9_holdsIn_12 : decode cX9_holdsIn 12 = .ok (.aload_n 0, 1) := zd_at zhX9_holdsIn_0 9 rfl
theorem dX9_holdsIn_13 : decode cX9_holdsIn 13 = .ok (.iconst 1, 1) := zd_at zhX9_holdsIn_0 10 rfl
theorem dX9_holdsIn_14 : decode cX9_holdsIn 14 = .ok (.iload_n 2, 1) := zd_at zhX9_holdsIn_0 11 rfl
theorem dX9_holdsIn_15 : decode cX9_holdsIn 15 = .ok (.aload_n 0, 1) := zd_at zhX9_holdsIn_0 12 rfl
theorem dX9_holdsIn_16 : decode cX9_holdsIn 16 = .ok (.getfield 32, 3) := zd_at zhX9_holdsIn_0 13 rfl
theorem dX9_holdsIn_19 : decode cX9_holdsIn 19 = .ok (.iload_n 1, 1) := zd_at zhX9_holdsIn_0 14 rfl
theorem dX9_holdsIn_20 : decode cX9_holdsIn 20 = .ok (.iaload, 1) := zd_at zhX9_holdsIn_0 15 rfl
theorem dX9_holdsIn_21 : decode cX9_holdsIn 21 = .ok (.iconst 0, 1) := zd_at zhX9_holdsIn_0 16 rfl
theorem dX9_holdsIn_22 : decode cX9_holdsIn 22 = .ok (.iload_n 1, 1) := zd_at zhX9_holdsIn_0 17 rfl
theorem dX9_holdsIn_23 : decode cX9_holdsIn 23 = .ok (.bipush 10, 2) := zd_at zhX9_holdsIn_0 18 rfl
theorem dX9_holdsIn_25 : decode cX9_holdsIn 25 = .ok (.irem, 1) := zd_at zhX9_holdsIn_0 19 rfl
theorem dX9_holdsIn_26 : decode cX9_holdsIn 26 = .ok (.aload_n 0, 1) := zd_at zhX9_holdsIn_0 20 rfl
theorem dX9_holdsIn_27 : decode cX9_holdsIn 27 = .ok (.getfield 35, 3) := zd_at zhX9_holdsIn_0 21 rfl
theorem dX9_holdsIn_30 : decode cX9_holdsIn 30 = .ok (.iload_n 1, 1) := zd_at zhX9_holdsIn_0 22 rfl
theorem dX9_holdsIn_31 : decode cX9_holdsIn 31 = .ok (.iaload, 1) := zd_at zhX9_holdsIn_0 23 rfl
theorem dX9_holdsIn_32 : decode cX9_holdsIn 32 = .ok (.invokevirtual 354, 3) := zd_at zhX9_holdsIn_0 24 rfl
theorem dX9_holdsIn_35 : decode cX9_holdsIn 35 = .ok (.istore 4, 2) := zd_at zhX9_holdsIn_0 25 rfl
theorem dX9_holdsIn_37 : decode cX9_holdsIn 37 = .ok (.iload_n 3, 1) := zd_at zhX9_holdsIn_0 26 rfl
theorem dX9_holdsIn_38 : decode cX9_holdsIn 38 = .ok (.iconst 1, 1) := zd_at zhX9_holdsIn_0 27 rfl
theorem dX9_holdsIn_39 : decode cX9_holdsIn 39 = .ok (.if_icmp .ne 15, 3) := zd_at zhX9_holdsIn_0 28 rfl
theorem dX9_holdsIn_42 : decode cX9_holdsIn 42 = .ok (.iload 4, 2) := zd_at zhX9_holdsIn_0 29 rfl
theorem dX9_holdsIn_44 : decode cX9_holdsIn 44 = .ok (.aload_n 0, 1) := zd_at zhX9_holdsIn_0 30 rfl
theorem dX9_holdsIn_45 : decode cX9_holdsIn 45 = .ok (.getfield 29, 3) := zd_at zhX9_holdsIn_0 31 rfl
theorem dX9_holdsIn_48 : decode cX9_holdsIn 48 = .ok (.iload_n 2, 1) := zd_at zhX9_holdsIn_0 32 rfl
theorem dX9_holdsIn_49 : decode cX9_holdsIn 49 = .ok (.iaload, 1) := zd_at zhX9_holdsIn_0 33 rfl
theorem dX9_holdsIn_50 : decode cX9_holdsIn 50 = .ok (.iadd, 1) := zd_at zhX9_holdsIn_0 34 rfl
theorem dX9_holdsIn_51 : decode cX9_holdsIn 51 = .ok (.goto 57, 3) := zd_at zhX9_holdsIn_0 35 rfl
theorem dX9_holdsIn_54 : decode cX9_holdsIn 54 = .ok (.iload_n 3, 1) := zd_at zhX9_holdsIn_0 36 rfl
theorem dX9_holdsIn_55 : decode cX9_holdsIn 55 = .ok (.iconst 3, 1) := zd_at zhX9_holdsIn_0 37 rfl
theorem dX9_holdsIn_56 : decode cX9_holdsIn 56 = .ok (.if_icmp .ne 17, 3) := zd_at zhX9_holdsIn_0 38 rfl
theorem dX9_holdsIn_59 : decode cX9_holdsIn 59 = .ok (.iload 4, 2) := zd_at zhX9_holdsIn_0 39 rfl
def ziX9_holdsIn_61 : List (Nat × Instr × Nat) := [(61, .aload_n 0, 1), (62, .getfield 29, 3), (65, .iload_n 2, 1), (66, .iaload, 1), (67, .iadd, 1), (68, .iconst 3, 1), (69, .isub, 1), (70, .goto 38, 3), (73, .iload_n 3, 1), (74, .iconst 2, 1), (75, .if_icmp .eq 8, 3), (78, .iload_n 3, 1), (79, .iconst 4, 1), (80, .if_icmp .ne 10, 3), (83, .iload 4, 2), (85, .iconst 2, 1), (86, .idiv, 1), (87, .goto 21, 3), (90, .iload_n 3, 1), (91, .iconst 5, 1), (92, .if_icmp .ne 14, 3), (95, .iload 4, 2), (97, .iconst 0, 1), (98, .bipush 9, 2), (100, .invokestatic 350, 3), (103, .goto 5, 3), (106, .iload 4, 2), (108, .istore 5, 2), (110, .iload 5, 2), (112, .iconst 1, 1), (113, .if_icmp .ge 7, 3), (116, .iconst 1, 1), (117, .goto 5, 3), (120, .iload 5, 2), (122, .ireturn, 1)]
theorem zhX9_holdsIn_61 : zd_chk (cX9_holdsIn.data.toList.drop 61) 61 ziX9_holdsIn_61 = true := by decide +kernel
theorem dX9_holdsIn_61 : decode cX9_holdsIn 61 = .ok (.aload_n 0, 1) := zd_at zhX9_holdsIn_61 0 rfl
theorem dX9_holdsIn_62 : decode cX9_holdsIn 62 = .ok (.getfield 29, 3) := zd_at zhX9_holdsIn_61 1 rfl
theorem dX9_holdsIn_65 : decode cX9_holdsIn 65 = .ok (.iload_n 2, 1) := zd_at zhX9_holdsIn_61 2 rfl
theorem dX9_holdsIn_66 : decode cX9_holdsIn 66 = .ok (.iaload, 1) := zd_at zhX9_holdsIn_61 3 rfl
theorem dX9_holdsIn_67 : decode cX9_holdsIn 67 = .ok (.iadd, 1) := zd_at zhX9_holdsIn_61 4 rfl
theorem dX9_holdsIn_68 : decode cX9_holdsIn 68 = .ok (.iconst 3, 1) := zd_at zhX9_holdsIn_61 5 rfl
theorem dX9_holdsIn_69 : decode cX9_holdsIn 69 = .ok (.isub, 1) := zd_at zhX9_holdsIn_61 6 rfl
theorem dX9_holdsIn_70 : decode cX9_holdsIn 70 = .ok (.goto 38, 3) := zd_at zhX9_holdsIn_61 7 rfl
theorem dX9_holdsIn_73 : decode cX9_holdsIn 73 = .ok (.iload_n 3, 1) := zd_at zhX9_holdsIn_61 8 rfl
theorem dX9_holdsIn_74 : decode cX9_holdsIn 74 = .ok (.iconst 2, 1) := zd_at zhX9_holdsIn_61 9 rfl
theorem dX9_holdsIn_75 : decode cX9_holdsIn 75 = .ok (.if_icmp .eq 8, 3) := zd_at zhX9_holdsIn_61 10 rfl
theorem dX9_holdsIn_78 : decode cX9_holdsIn 78 = .ok (.iload_n 3, 1) := zd_at zhX9_holdsIn_61 11 rfl
theorem dX9_holdsIn_79 : decode cX9_holdsIn 79 = .ok (.iconst 4, 1) := zd_at zhX9_holdsIn_61 12 rfl
theorem dX9_holdsIn_80 : decode cX9_holdsIn 80 = .ok (.if_icmp .ne 10, 3) := zd_at zhX9_holdsIn_61 13 rfl
theorem dX9_holdsIn_83 : decode cX9_holdsIn 83 = .ok (.iload 4, 2) := zd_at zhX9_holdsIn_61 14 rfl
theorem dX9_holdsIn_85 : decode cX9_holdsIn 85 = .ok (.iconst 2, 1) := zd_at zhX9_holdsIn_61 15 rfl
theorem dX9_holdsIn_86 : decode cX9_holdsIn 86 = .ok (.idiv, 1) := zd_at zhX9_holdsIn_61 16 rfl
theorem dX9_holdsIn_87 : decode cX9_holdsIn 87 = .ok (.goto 21, 3) := zd_at zhX9_holdsIn_61 17 rfl
theorem dX9_holdsIn_90 : decode cX9_holdsIn 90 = .ok (.iload_n 3, 1) := zd_at zhX9_holdsIn_61 18 rfl
theorem dX9_holdsIn_91 : decode cX9_holdsIn 91 = .ok (.iconst 5, 1) := zd_at zhX9_holdsIn_61 19 rfl
theorem dX9_holdsIn_92 : decode cX9_holdsIn 92 = .ok (.if_icmp .ne 14, 3) := zd_at zhX9_holdsIn_61 20 rfl
theorem dX9_holdsIn_95 : decode cX9_holdsIn 95 = .ok (.iload 4, 2) := zd_at zhX9_holdsIn_61 21 rfl
theorem dX9_holdsIn_97 : decode cX9_holdsIn 97 = .ok (.iconst 0, 1) := zd_at zhX9_holdsIn_61 22 rfl
theorem dX9_holdsIn_98 : decode cX9_holdsIn 98 = .ok (.bipush 9, 2) := zd_at zhX9_holdsIn_61 23 rfl
theorem dX9_holdsIn_100 : decode cX9_holdsIn 100 = .ok (.invokestatic 350, 3) := zd_at zhX9_holdsIn_61 24 rfl
theorem dX9_holdsIn_103 : decode cX9_holdsIn 103 = .ok (.goto 5, 3) := zd_at zhX9_holdsIn_61 25 rfl
theorem dX9_holdsIn_106 : decode cX9_holdsIn 106 = .ok (.iload 4, 2) := zd_at zhX9_holdsIn_61 26 rfl
theorem dX9_holdsIn_108 : decode cX9_holdsIn 108 = .ok (.istore 5, 2) := zd_at zhX9_holdsIn_61 27 rfl
theorem dX9_holdsIn_110 : decode cX9_holdsIn 110 = .ok (.iload 5, 2) := zd_at zhX9_holdsIn_61 28 rfl
theorem dX9_holdsIn_112 : decode cX9_holdsIn 112 = .ok (.iconst 1, 1) := zd_at zhX9_holdsIn_61 29 rfl
theorem dX9_holdsIn_113 : decode cX9_holdsIn 113 = .ok (.if_icmp .ge 7, 3) := zd_at zhX9_holdsIn_61 30 rfl
theorem dX9_holdsIn_116 : decode cX9_holdsIn 116 = .ok (.iconst 1, 1) := zd_at zhX9_holdsIn_61 31 rfl
theorem dX9_holdsIn_117 : decode cX9_holdsIn 117 = .ok (.goto 5, 3) := zd_at zhX9_holdsIn_61 32 rfl
theorem dX9_holdsIn_120 : decode cX9_holdsIn 120 = .ok (.iload 5, 2) := zd_at zhX9_holdsIn_61 33 rfl
theorem dX9_holdsIn_122 : decode cX9_holdsIn 122 = .ok (.ireturn, 1) := zd_at zhX9_holdsIn_61 34 rfl
def ziX9_bearsIn_0 : List (Nat × Instr × Nat) := [(0, .iload_n 1, 1), (1, .bipush 10, 2), (3, .idiv, 1), (4, .istore_n 2, 1), (5, .aload_n 0, 1), (6, .getfield 26, 3), (9, .iload_n 2, 1), (10, .iaload, 1), (11, .istore_n 3, 1), (12, .iload_n 3, 1), (13, .iconst 5, 1), (14, .if_icmp .ne 5, 3), (17, .iconst 0, 1), (18, .ireturn, 1), (19, .aload_n 0, 1), (20, .getfield 23, 3), (23, .aload_n 0, 1), (24, .getfield 117, 3), (27, .bipush 24, 2), (29, .irem, 1), (30, .ishr, 1), (31, .iconst 1, 1), (32, .iand, 1), (33, .iconst 1, 1), (34, .if_icmp .ne 7, 3), (37, .iconst 1, 1), (38, .goto 4, 3), (41, .iconst 0, 1), (42, .istore 4, 2), (44, .aload_n 0, 1), (45, .iconst 2, 1), (46, .iload_n 2, 1), (47, .aload_n 0, 1), (48, .getfield 32, 3), (51, .iload_n 1, 1), (52, .iaload, 1), (53, .iconst 0, 1), (54, .iload_n 1, 1), (55, .bipush 10, 2), (57, .irem, 1)]
theorem zhX9_bearsIn_0 : zd_chk (cX9_bearsIn.data.toList.drop 0) 0 ziX9_bearsIn_0 = true := by decide +kernel
theorem dX9_bearsIn_0 : decode cX9_bearsIn 0 = .ok (.iload_n 1, 1) := zd_at zhX9_bearsIn_0 0 rfl
theorem dX9_bearsIn_1 : decode cX9_bearsIn 1 = .ok (.bipush 10, 2) := zd_at zhX9_bearsIn_0 1 rfl
theorem dX9_bearsIn_3 : decode cX9_bearsIn 3 = .ok (.idiv, 1) := zd_at zhX9_bearsIn_0 2 rfl
theorem dX9_bearsIn_4 : decode cX9_bearsIn 4 = .ok (.istore_n 2, 1) := zd_at zhX9_bearsIn_0 3 rfl
theorem dX9_bearsIn_5 : decode cX9_bearsIn 5 = .ok (.aload_n 0, 1) := zd_at zhX9_bearsIn_0 4 rfl
theorem dX9_bearsIn_6 : decode cX9_bearsIn 6 = .ok (.getfield 26, 3) := zd_at zhX9_bearsIn_0 5 rfl
theorem dX9_bearsIn_9 : decode cX9_bearsIn 9 = .ok (.iload_n 2, 1) := zd_at zhX9_bearsIn_0 6 rfl
theorem dX9_bearsIn_10 : decode cX9_bearsIn 10 = .ok (.iaload, 1) := zd_at zhX9_bearsIn_0 7 rfl
theorem dX9_bearsIn_11 : decode cX9_bearsIn 11 = .ok (.istore_n 3, 1) := zd_at zhX9_bearsIn_0 8 rfl
theorem dX9_bearsIn_12 : decode cX9_bearsIn 12 = .ok (.iload_n 3, 1) := zd_at zhX9_bearsIn_0 9 rfl
theorem dX9_bearsIn_13 : decode cX9_bearsIn 13 = .ok (.iconst 5, 1) := zd_at zhX9_bearsIn_0 10 rfl
theorem dX9_bearsIn_14 : decode cX9_bearsIn 14 = .ok (.if_icmp .ne 5, 3) := zd_at zhX9_bearsIn_0 11 rfl
theorem dX9_bearsIn_17 : decode cX9_bearsIn 17 = .ok (.iconst 0, 1) := zd_at zhX9_bearsIn_0 12 rfl
theorem dX9_bearsIn_18 : decode cX9_bearsIn 18 = .ok (.ireturn, 1) := zd_at zhX9_bearsIn_0 13 rfl
theorem dX9_bearsIn_19 : decode cX9_bearsIn 19 = .ok (.aload_n 0, 1) := zd_at zhX9_bearsIn_0 14 rfl
theorem dX9_bearsIn_20 : decode cX9_bearsIn 20 = .ok (.getfield 23, 3) := zd_at zhX9_bearsIn_0 15 rfl
theorem dX9_bearsIn_23 : decode cX9_bearsIn 23 = .ok (.aload_n 0, 1) := zd_at zhX9_bearsIn_0 16 rfl
theorem dX9_bearsIn_24 : decode cX9_bearsIn 24 = .ok (.getfield 117, 3) := zd_at zhX9_bearsIn_0 17 rfl
theorem dX9_bearsIn_27 : decode cX9_bearsIn 27 = .ok (.bipush 24, 2) := zd_at zhX9_bearsIn_0 18 rfl
theorem dX9_bearsIn_29 : decode cX9_bearsIn 29 = .ok (.irem, 1) := zd_at zhX9_bearsIn_0 19 rfl
theorem dX9_bearsIn_30 : decode cX9_bearsIn 30 = .ok (.ishr, 1) := zd_at zhX9_bearsIn_0 20 rfl
theorem dX9_bearsIn_31 : decode cX9_bearsIn 31 = .ok (.iconst 1, 1) := zd_at zhX9_bearsIn_0 21 rfl
theorem dX9_bearsIn_32 : decode cX9_bearsIn 32 = .ok (.iand, 1) := zd_at zhX9_bearsIn_0 22 rfl
theorem dX9_bearsIn_33 : decode cX9_bearsIn 33 = .ok (.iconst 1, 1) := zd_at zhX9_bearsIn_0 23 rfl
theorem dX9_bearsIn_34 : decode cX9_bearsIn 34 = .ok (.if_icmp .ne 7, 3) := zd_at zhX9_bearsIn_0 24 rfl
theorem dX9_bearsIn_37 : decode cX9_bearsIn 37 = .ok (.iconst 1, 1) := zd_at zhX9_bearsIn_0 25 rfl
theorem dX9_bearsIn_38 : decode cX9_bearsIn 38 = .ok (.goto 4, 3) := zd_at zhX9_bearsIn_0 26 rfl
theorem dX9_bearsIn_41 : decode cX9_bearsIn 41 = .ok (.iconst 0, 1) := zd_at zhX9_bearsIn_0 27 rfl
theorem dX9_bearsIn_42 : decode cX9_bearsIn 42 = .ok (.istore 4, 2) := zd_at zhX9_bearsIn_0 28 rfl
theorem dX9_bearsIn_44 : decode cX9_bearsIn 44 = .ok (.aload_n 0, 1) := zd_at zhX9_bearsIn_0 29 rfl
theorem dX9_bearsIn_45 : decode cX9_bearsIn 45 = .ok (.iconst 2, 1) := zd_at zhX9_bearsIn_0 30 rfl
theorem dX9_bearsIn_46 : decode cX9_bearsIn 46 = .ok (.iload_n 2, 1) := zd_at zhX9_bearsIn_0 31 rfl
theorem dX9_bearsIn_47 : decode cX9_bearsIn 47 = .ok (.aload_n 0, 1) := zd_at zhX9_bearsIn_0 32 rfl
theorem dX9_bearsIn_48 : decode cX9_bearsIn 48 = .ok (.getfield 32, 3) := zd_at zhX9_bearsIn_0 33 rfl
theorem dX9_bearsIn_51 : decode cX9_bearsIn 51 = .ok (.iload_n 1, 1) := zd_at zhX9_bearsIn_0 34 rfl
theorem dX9_bearsIn_52 : decode cX9_bearsIn 52 = .ok (.iaload, 1) := zd_at zhX9_bearsIn_0 35 rfl
theorem dX9_bearsIn_53 : decode cX9_bearsIn 53 = .ok (.iconst 0, 1) := zd_at zhX9_bearsIn_0 36 rfl
theorem dX9_bearsIn_54 : decode cX9_bearsIn 54 = .ok (.iload_n 1, 1) := zd_at zhX9_bearsIn_0 37 rfl
theorem dX9_bearsIn_55 : decode cX9_bearsIn 55 = .ok (.bipush 10, 2) := zd_at zhX9_bearsIn_0 38 rfl
theorem dX9_bearsIn_57 : decode cX9_bearsIn 57 = .ok (.irem, 1) := zd_at zhX9_bearsIn_0 39 rfl
def ziX9_bearsIn_58 : List (Nat × Instr × Nat) := [(58, .aload_n 0, 1), (59, .getfield 35, 3), (62, .iload_n 1, 1), (63, .iaload, 1), (64, .invokevirtual 354, 3), (67, .istore 5, 2), (69, .iload 4, 2), (71, .ifCond .eq 10, 3), (74, .iconst 2, 1), (75, .iload 5, 2), (77, .imul, 1), (78, .goto 5, 3), (81, .iload 5, 2), (83, .istore 6, 2), (85, .iload 6, 2), (87, .aload_n 0, 1), (88, .getfield 29, 3), (91, .iload_n 2, 1), (92, .iaload, 1), (93, .iadd, 1), (94, .istore 7, 2), (96, .iload_n 3, 1), (97, .iconst 2, 1), (98, .if_icmp .ne 8, 3), (101, .iload 7, 2), (103, .goto 27, 3), (106, .iload_n 3, 1), (107, .iconst 4, 1), (108, .if_icmp .ne 20, 3), (111, .iload 4, 2), (113, .ifCond .eq 10, 3), (116, .iconst 3, 1), (117, .iload 7, 2), (119, .imul, 1), (120, .goto 10, 3), (123, .iload 7, 2), (125, .goto 5, 3), (128, .iload 6, 2), (130, .ireturn, 1)]
theorem zhX9_bearsIn_58 : zd_chk (cX9_bearsIn.data.toList.drop 58) 58 ziX9_bearsIn_58 = true := by decide +kernel
theorem dX9_bearsIn_58 : decode cX9_bearsIn 58 = .ok (.aload_n 0, 1) := zd_at zhX9_bearsIn_58 0 rfl
theorem dX9_bearsIn_59 : decode cX9_bearsIn 59 = .ok (.getfield 35, 3) := zd_at zhX9_bearsIn_58 1 rfl
theorem dX9_bearsIn_62 : decode cX9_bearsIn 62 = .ok (.iload_n 1, 1) := zd_at zhX9_bearsIn_58 2 rfl
theorem dX9_bearsIn_63 : decode cX9_bearsIn 63 = .ok (.iaload, 1) := zd_at zhX9_bearsIn_58 3 rfl
theorem dX9_bearsIn_64 : decode cX9_bearsIn 64 = .ok (.invokevirtual 354, 3) := zd_at zhX9_bearsIn_58 4 rfl
theorem dX9_bearsIn_67 : decode cX9_bearsIn 67 = .ok (.istore 5, 2) := zd_at zhX9_bearsIn_58 5 rfl
theorem dX9_bearsIn_69 : decode cX9_bearsIn 69 = .ok (.iload 4, 2) := zd_at zhX9_bearsIn_58 6 rfl
theorem dX9_bearsIn_71 : decode cX9_bearsIn 71 = .ok (.ifCond .eq 10, 3) := zd_at zhX9_bearsIn_58 7 rfl
theorem dX9_bearsIn_74 : decode cX9_bearsIn 74 = .ok (.iconst 2, 1) := zd_at zhX9_bearsIn_58 8 rfl
theorem dX9_bearsIn_75 : decode cX9_bearsIn 75 = .ok (.iload 5, 2) := zd_at zhX9_bearsIn_58 9 rfl
theorem dX9_bearsIn_77 : decode cX9_bearsIn 77 = .ok (.imul, 1) := zd_at zhX9_bearsIn_58 10 rfl
theorem dX9_bearsIn_78 : decode cX9_bearsIn 78 = .ok (.goto 5, 3) := zd_at zhX9_bearsIn_58 11 rfl
theorem dX9_bearsIn_81 : decode cX9_bearsIn 81 = .ok (.iload 5, 2) := zd_at zhX9_bearsIn_58 12 rfl
theorem dX9_bearsIn_83 : decode cX9_bearsIn 83 = .ok (.istore 6, 2) := zd_at zhX9_bearsIn_58 13 rfl
theorem dX9_bearsIn_85 : decode cX9_bearsIn 85 = .ok (.iload 6, 2) := zd_at zhX9_bearsIn_58 14 rfl
theorem dX9_bearsIn_87 : decode cX9_bearsIn 87 = .ok (.aload_n 0, 1) := zd_at zhX9_bearsIn_58 15 rfl
theorem dX9_bearsIn_88 : decode cX9_bearsIn 88 = .ok (.getfield 29, 3) := zd_at zhX9_bearsIn_58 16 rfl
theorem dX9_bearsIn_91 : decode cX9_bearsIn 91 = .ok (.iload_n 2, 1) := zd_at zhX9_bearsIn_58 17 rfl
theorem dX9_bearsIn_92 : decode cX9_bearsIn 92 = .ok (.iaload, 1) := zd_at zhX9_bearsIn_58 18 rfl
theorem dX9_bearsIn_93 : decode cX9_bearsIn 93 = .ok (.iadd, 1) := zd_at zhX9_bearsIn_58 19 rfl
theorem dX9_bearsIn_94 : decode cX9_bearsIn 94 = .ok (.istore 7, 2) := zd_at zhX9_bearsIn_58 20 rfl
theorem dX9_bearsIn_96 : decode cX9_bearsIn 96 = .ok (.iload_n 3, 1) := zd_at zhX9_bearsIn_58 21 rfl
theorem dX9_bearsIn_97 : decode cX9_bearsIn 97 = .ok (.iconst 2, 1) := zd_at zhX9_bearsIn_58 22 rfl
theorem dX9_bearsIn_98 : decode cX9_bearsIn 98 = .ok (.if_icmp .ne 8, 3) := zd_at zhX9_bearsIn_58 23 rfl
theorem dX9_bearsIn_101 : decode cX9_bearsIn 101 = .ok (.iload 7, 2) := zd_at zhX9_bearsIn_58 24 rfl
theorem dX9_bearsIn_103 : decode cX9_bearsIn 103 = .ok (.goto 27, 3) := zd_at zhX9_bearsIn_58 25 rfl
theorem dX9_bearsIn_106 : decode cX9_bearsIn 106 = .ok (.iload_n 3, 1) := zd_at zhX9_bearsIn_58 26 rfl
theorem dX9_bearsIn_107 : decode cX9_bearsIn 107 = .ok (.iconst 4, 1) := zd_at zhX9_bearsIn_58 27 rfl
theorem dX9_bearsIn_108 : decode cX9_bearsIn 108 = .ok (.if_icmp .ne 20, 3) := zd_at zhX9_bearsIn_58 28 rfl
theorem dX9_bearsIn_111 : decode cX9_bearsIn 111 = .ok (.iload 4, 2) := zd_at zhX9_bearsIn_58 29 rfl
theorem dX9_bearsIn_113 : decode cX9_bearsIn 113 = .ok (.ifCond .eq 10, 3) := zd_at zhX9_bearsIn_58 30 rfl
theorem dX9_bearsIn_116 : decode cX9_bearsIn 116 = .ok (.iconst 3, 1) := zd_at zhX9_bearsIn_58 31 rfl
theorem dX9_bearsIn_117 : decode cX9_bearsIn 117 = .ok (.iload 7, 2) := zd_at zhX9_bearsIn_58 32 rfl
theorem dX9_bearsIn_119 : decode cX9_bearsIn 119 = .ok (.imul, 1) := zd_at zhX9_bearsIn_58 33 rfl
theorem dX9_bearsIn_120 : decode cX9_bearsIn 120 = .ok (.goto 10, 3) := zd_at zhX9_bearsIn_58 34 rfl
theorem dX9_bearsIn_123 : decode cX9_bearsIn 123 = .ok (.iload 7, 2) := zd_at zhX9_bearsIn_58 35 rfl
theorem dX9_bearsIn_125 : decode cX9_bearsIn 125 = .ok (.goto 5, 3) := zd_at zhX9_bearsIn_58 36 rfl
theorem dX9_bearsIn_128 : decode cX9_bearsIn 128 = .ok (.iload 6, 2) := zd_at zhX9_bearsIn_58 37 rfl
theorem dX9_bearsIn_130 : decode cX9_bearsIn 130 = .ok (.ireturn, 1) := zd_at zhX9_bearsIn_58 38 rfl
def ziX9_wouldStick_0 : List (Nat × Instr × Nat) := [(0, .aload_n 0, 1), (1, .iload_n 1, 1), (2, .aload_n 0, 1), (3, .iconst 0, 1), (4, .iload_n 1, 1), (5, .iload_n 2, 1), (6, .iload_n 3, 1), (7, .iconst 0, 1), (8, .aload_n 0, 1), (9, .iload_n 1, 1), (10, .invokevirtual 131, 3), (13, .invokevirtual 354, 3), (16, .invokevirtual 358, 3), (19, .istore 4, 2), (21, .iload 4, 2), (23, .iconst (-1), 1), (24, .if_icmp .eq 19, 3), (27, .aload_n 0, 1), (28, .getfield 32, 3), (31, .bipush 10, 2), (33, .iload_n 1, 1), (34, .imul, 1), (35, .iload 4, 2), (37, .iadd, 1), (38, .iaload, 1), (39, .iconst (-1), 1), (40, .if_icmp .eq 7, 3), (43, .iconst (-1), 1), (44, .goto 5, 3), (47, .iload 4, 2), (49, .ireturn, 1)]
theorem zhX9_wouldStick_0 : zd_chk (cX9_wouldStick.data.toList.drop 0) 0 ziX9_wouldStick_0 = true := by decide +kernel
theorem dX9_wouldStick_0 : decode cX9_wouldStick 0 = .ok (.aload_n 0, 1) := zd_at zhX9_wouldStick_0 0 rfl
theorem dX9_wouldStick_1 : decode cX9_wouldStick 1 = .ok (.iload_n 1, 1) := zd_at zhX9_wouldStick_0 1 rfl
theorem dX9_wouldStick_2 : decode cX9_wouldStick 2 = .ok (.aload_n 0, 1) := zd_at zhX9_wouldStick_0 2 rfl
theorem dX9_wouldStick_3 : decode cX9_wouldStick 3 = .ok (.iconst 0, 1) := zd_at zhX9_wouldStick_0 3 rfl
theorem dX9_wouldStick_4 : decode cX9_wouldStick 4 = .ok (.iload_n 1, 1) := zd_at zhX9_wouldStick_0 4 rfl
theorem dX9_wouldStick_5 : decode cX9_wouldStick 5 = .ok (.iload_n 2, 1) := zd_at zhX9_wouldStick_0 5 rfl
theorem dX9_wouldStick_6 : decode cX9_wouldStick 6 = .ok (.iload_n 3, 1) := zd_at zhX9_wouldStick_0 6 rfl
theorem dX9_wouldStick_7 : decode cX9_wouldStick 7 = .ok (.iconst 0, 1) := zd_at zhX9_wouldStick_0 7 rfl
theorem dX9_wouldStick_8 : decode cX9_wouldStick 8 = .ok (.aload_n 0, 1) := zd_at zhX9_wouldStick_0 8 rfl
theorem dX9_wouldStick_9 : decode cX9_wouldStick 9 = .ok (.iload_n 1, 1) := zd_at zhX9_wouldStick_0 9 rfl
theorem dX9_wouldStick_10 : decode cX9_wouldStick 10 = .ok (.invokevirtual 131, 3) := zd_at zhX9_wouldStick_0 10 rfl
theorem dX9_wouldStick_13 : decode cX9_wouldStick 13 = .ok (.invokevirtual 354, 3) := zd_at zhX9_wouldStick_0 11 rfl
theorem dX9_wouldStick_16 : decode cX9_wouldStick 16 = .ok (.invokevirtual 358, 3) := zd_at zhX9_wouldStick_0 12 rfl
theorem dX9_wouldStick_19 : decode cX9_wouldStick 19 = .ok (.istore 4, 2) := zd_at zhX9_wouldStick_0 13 rfl
theorem dX9_wouldStick_21 : decode cX9_wouldStick 21 = .ok (.iload 4, 2) := zd_at zhX9_wouldStick_0 14 rfl
theorem dX9_wouldStick_23 : decode cX9_wouldStick 23 = .ok (.iconst (-1), 1) := zd_at zhX9_wouldStick_0 15 rfl
theorem dX9_wouldStick_24 : decode cX9_wouldStick 24 = .ok (.if_icmp .eq 19, 3) := zd_at zhX9_wouldStick_0 16 rfl
theorem dX9_wouldStick_27 : decode cX9_wouldStick 27 = .ok (.aload_n 0, 1) := zd_at zhX9_wouldStick_0 17 rfl
theorem dX9_wouldStick_28 : decode cX9_wouldStick 28 = .ok (.getfield 32, 3) := zd_at zhX9_wouldStick_0 18 rfl
theorem dX9_wouldStick_31 : decode cX9_wouldStick 31 = .ok (.bipush 10, 2) := zd_at zhX9_wouldStick_0 19 rfl
theorem dX9_wouldStick_33 : decode cX9_wouldStick 33 = .ok (.iload_n 1, 1) := zd_at zhX9_wouldStick_0 20 rfl
theorem dX9_wouldStick_34 : decode cX9_wouldStick 34 = .ok (.imul, 1) := zd_at zhX9_wouldStick_0 21 rfl
theorem dX9_wouldStick_35 : decode cX9_wouldStick 35 = .ok (.iload 4, 2) := zd_at zhX9_wouldStick_0 22 rfl
theorem dX9_wouldStick_37 : decode cX9_wouldStick 37 = .ok (.iadd, 1) := zd_at zhX9_wouldStick_0 23 rfl
theorem dX9_wouldStick_38 : decode cX9_wouldStick 38 = .ok (.iaload, 1) := zd_at zhX9_wouldStick_0 24 rfl
theorem dX9_wouldStick_39 : decode cX9_wouldStick 39 = .ok (.iconst (-1), 1) := zd_at zhX9_wouldStick_0 25 rfl
theorem dX9_wouldStick_40 : decode cX9_wouldStick 40 = .ok (.if_icmp .eq 7, 3) := zd_at zhX9_wouldStick_0 26 rfl
theorem dX9_wouldStick_43 : decode cX9_wouldStick 43 = .ok (.iconst (-1), 1) := zd_at zhX9_wouldStick_0 27 rfl
theorem dX9_wouldStick_44 : decode cX9_wouldStick 44 = .ok (.goto 5, 3) := zd_at zhX9_wouldStick_0 28 rfl
theorem dX9_wouldStick_47 : decode cX9_wouldStick 47 = .ok (.iload 4, 2) := zd_at zhX9_wouldStick_0 29 rfl
theorem dX9_wouldStick_49 : decode cX9_wouldStick 49 = .ok (.ireturn, 1) := zd_at zhX9_wouldStick_0 30 rfl
def ziX9_speaks_0 : List (Nat × Instr × Nat) := [(0, .aload_n 0, 1), (1, .iload_n 1, 1), (2, .iload_n 2, 1), (3, .iload_n 3, 1), (4, .invokevirtual 361, 3), (7, .istore 4, 2), (9, .iload 4, 2), (11, .iconst (-1), 1), (12, .if_icmp .eq 29, 3), (15, .aload_n 0, 1), (16, .getfield 32, 3), (19, .bipush 10, 2), (21, .iload_n 1, 1), (22, .imul, 1), (23, .iload 4, 2), (25, .iadd, 1), (26, .iload_n 2, 1), (27, .iastore, 1), (28, .aload_n 0, 1), (29, .getfield 35, 3), (32, .bipush 10, 2), (34, .iload_n 1, 1), (35, .imul, 1), (36, .iload 4, 2), (38, .iadd, 1), (39, .iconst 0, 1), (40, .iastore, 1), (41, .iload 4, 2), (43, .ireturn, 1)]
theorem zhX9_speaks_0 : zd_chk (cX9_speaks.data.toList.drop 0) 0 ziX9_speaks_0 = true := by decide +kernel
theorem dX9_speaks_0 : decode cX9_speaks 0 = .ok (.aload_n 0, 1) := zd_at zhX9_speaks_0 0 rfl
theorem dX9_speaks_1 : decode cX9_speaks 1 = .ok (.iload_n 1, 1) := zd_at zhX9_speaks_0 1 rfl
theorem dX9_speaks_2 : decode cX9_speaks 2 = .ok (.iload_n 2, 1) := zd_at zhX9_speaks_0 2 rfl
theorem dX9_speaks_3 : decode cX9_speaks 3 = .ok (.iload_n 3, 1) := zd_at zhX9_speaks_0 3 rfl
theorem dX9_speaks_4 : decode cX9_speaks 4 = .ok (.invokevirtual 361, 3) := zd_at zhX9_speaks_0 4 rfl
theorem dX9_speaks_7 : decode cX9_speaks 7 = .ok (.istore 4, 2) := zd_at zhX9_speaks_0 5 rfl
theorem dX9_speaks_9 : decode cX9_speaks 9 = .ok (.iload 4, 2) := zd_at zhX9_speaks_0 6 rfl
theorem dX9_speaks_11 : decode cX9_speaks 11 = .ok (.iconst (-1), 1) := zd_at zhX9_speaks_0 7 rfl
theorem dX9_speaks_12 : decode cX9_speaks 12 = .ok (.if_icmp .eq 29, 3) := zd_at zhX9_speaks_0 8 rfl
theorem dX9_speaks_15 : decode cX9_speaks 15 = .ok (.aload_n 0, 1) := zd_at zhX9_speaks_0 9 rfl
theorem dX9_speaks_16 : decode cX9_speaks 16 = .ok (.getfield 32, 3) := zd_at zhX9_speaks_0 10 rfl
theorem dX9_speaks_19 : decode cX9_speaks 19 = .ok (.bipush 10, 2) := zd_at zhX9_speaks_0 11 rfl
theorem dX9_speaks_21 : decode cX9_speaks 21 = .ok (.iload_n 1, 1) := zd_at zhX9_speaks_0 12 rfl
theorem dX9_speaks_22 : decode cX9_speaks 22 = .ok (.imul, 1) := zd_at zhX9_speaks_0 13 rfl
theorem dX9_speaks_23 : decode cX9_speaks 23 = .ok (.iload 4, 2) := zd_at zhX9_speaks_0 14 rfl
theorem dX9_speaks_25 : decode cX9_speaks 25 = .ok (.iadd, 1) := zd_at zhX9_speaks_0 15 rfl
theorem dX9_speaks_26 : decode cX9_speaks 26 = .ok (.iload_n 2, 1) := zd_at zhX9_speaks_0 16 rfl
theorem dX9_speaks_27 : decode cX9_speaks 27 = .ok (.iastore, 1) := zd_at zhX9_speaks_0 17 rfl
theorem dX9_speaks_28 : decode cX9_speaks 28 = .ok (.aload_n 0, 1) := zd_at zhX9_speaks_0 18 rfl
theorem dX9_speaks_29 : decode cX9_speaks 29 = .ok (.getfield 35, 3) := zd_at zhX9_speaks_0 19 rfl
theorem dX9_speaks_32 : decode cX9_speaks 32 = .ok (.bipush 10, 2) := zd_at zhX9_speaks_0 20 rfl
theorem dX9_speaks_34 : decode cX9_speaks 34 = .ok (.iload_n 1, 1) := zd_at zhX9_speaks_0 21 rfl
theorem dX9_speaks_35 : decode cX9_speaks 35 = .ok (.imul, 1) := zd_at zhX9_speaks_0 22 rfl
theorem dX9_speaks_36 : decode cX9_speaks 36 = .ok (.iload 4, 2) := zd_at zhX9_speaks_0 23 rfl
theorem dX9_speaks_38 : decode cX9_speaks 38 = .ok (.iadd, 1) := zd_at zhX9_speaks_0 24 rfl
theorem dX9_speaks_39 : decode cX9_speaks 39 = .ok (.iconst 0, 1) := zd_at zhX9_speaks_0 25 rfl
theorem dX9_speaks_40 : decode cX9_speaks 40 = .ok (.iastore, 1) := zd_at zhX9_speaks_0 26 rfl
theorem dX9_speaks_41 : decode cX9_speaks 41 = .ok (.iload 4, 2) := zd_at zhX9_speaks_0 27 rfl
theorem dX9_speaks_43 : decode cX9_speaks 43 = .ok (.ireturn, 1) := zd_at zhX9_speaks_0 28 rfl
def ziX9_say_0 : List (Nat × Instr × Nat) := [(0, .aload_n 0, 1), (1, .iload_n 1, 1), (2, .invokevirtual 101, 3), (5, .ifCond .eq 32, 3), (8, .iload_n 2, 1), (9, .invokestatic 141, 3), (12, .ifCond .eq 25, 3), (15, .iload_n 3, 1), (16, .i2l, 1), (17, .lconst 0, 1), (18, .ldc2_w 95, 3), (21, .invokestatic 91, 3), (24, .ifCond .eq 13, 3), (27, .aload_n 0, 1), (28, .iload_n 1, 1), (29, .iload_n 2, 1), (30, .iload_n 3, 1), (31, .invokevirtual 364, 3), (34, .goto 5, 3), (37, .bipush (-2), 2), (39, .ireturn, 1)]
theorem zhX9_say_0 : zd_chk (cX9_say.data.toList.drop 0) 0 ziX9_say_0 = true := by decide +kernel
theorem dX9_say_0 : decode cX9_say 0 = .ok (.aload_n 0, 1) := zd_at zhX9_say_0 0 rfl
theorem dX9_say_1 : decode cX9_say 1 = .ok (.iload_n 1, 1) := zd_at zhX9_say_0 1 rfl
theorem dX9_say_2 : decode cX9_say 2 = .ok (.invokevirtual 101, 3) := zd_at zhX9_say_0 2 rfl
theorem dX9_say_5 : decode cX9_say 5 = .ok (.ifCond .eq 32, 3) := zd_at zhX9_say_0 3 rfl
theorem dX9_say_8 : decode cX9_say 8 = .ok (.iload_n 2, 1) := zd_at zhX9_say_0 4 rfl
theorem dX9_say_9 : decode cX9_say 9 = .ok (.invokestatic 141, 3) := zd_at zhX9_say_0 5 rfl
theorem dX9_say_12 : decode cX9_say 12 = .ok (.ifCond .eq 25, 3) := zd_at zhX9_say_0 6 rfl
theorem dX9_say_15 : decode cX9_say 15 = .ok (.iload_n 3, 1) := zd_at zhX9_say_0 7 rfl
theorem dX9_say_16 : decode cX9_say 16 = .ok (.i2l, 1) := zd_at zhX9_say_0 8 rfl
theorem dX9_say_17 : decode cX9_say 17 = .ok (.lconst 0, 1) := zd_at zhX9_say_0 9 rfl
theorem dX9_say_18 : decode cX9_say 18 = .ok (.ldc2_w 95, 3) := zd_at zhX9_say_0 10 rfl
theorem dX9_say_21 : decode cX9_say 21 = .ok (.invokestatic 91, 3) := zd_at zhX9_say_0 11 rfl
theorem dX9_say_24 : decode cX9_say 24 = .ok (.ifCond .eq 13, 3) := zd_at zhX9_say_0 12 rfl
theorem dX9_say_27 : decode cX9_say 27 = .ok (.aload_n 0, 1) := zd_at zhX9_say_0 13 rfl
theorem dX9_say_28 : decode cX9_say 28 = .ok (.iload_n 1, 1) := zd_at zhX9_say_0 14 rfl
theorem dX9_say_29 : decode cX9_say 29 = .ok (.iload_n 2, 1) := zd_at zhX9_say_0 15 rfl
theorem dX9_say_30 : decode cX9_say 30 = .ok (.iload_n 3, 1) := zd_at zhX9_say_0 16 rfl
theorem dX9_say_31 : decode cX9_say 31 = .ok (.invokevirtual 364, 3) := zd_at zhX9_say_0 17 rfl
theorem dX9_say_34 : decode cX9_say 34 = .ok (.goto 5, 3) := zd_at zhX9_say_0 18 rfl
theorem dX9_say_37 : decode cX9_say 37 = .ok (.bipush (-2), 2) := zd_at zhX9_say_0 19 rfl
theorem dX9_say_39 : decode cX9_say 39 = .ok (.ireturn, 1) := zd_at zhX9_say_0 20 rfl
def ziX9_floss_0 : List (Nat × Instr × Nat) := [(0, .aload_n 0, 1), (1, .iload_n 1, 1), (2, .invokevirtual 101, 3), (5, .ifCond .eq 10, 3), (8, .iload_n 2, 1), (9, .invokestatic 138, 3), (12, .ifCond .ne 6, 3), (15, .bipush (-2), 2), (17, .ireturn, 1), (18, .aload_n 0, 1), (19, .getfield 32, 3), (22, .bipush 10, 2), (24, .iload_n 1, 1), (25, .imul, 1), (26, .iload_n 2, 1), (27, .iadd, 1), (28, .iaload, 1), (29, .istore_n 3, 1), (30, .aload_n 0, 1), (31, .getfield 32, 3), (34, .bipush 10, 2), (36, .iload_n 1, 1), (37, .imul, 1), (38, .iload_n 2, 1), (39, .iadd, 1), (40, .iconst (-1), 1), (41, .iastore, 1), (42, .iload_n 3, 1), (43, .ireturn, 1)]
theorem zhX9_floss_0 : zd_chk (cX9_floss.data.toList.drop 0) 0 ziX9_floss_0 = true := by decide +kernel
theorem dX9_floss_0 : decode cX9_floss 0 = .ok (.aload_n 0, 1) := zd_at zhX9_floss_0 0 rfl
theorem dX9_floss_1 : decode cX9_floss 1 = .ok (.iload_n 1, 1) := zd_at zhX9_floss_0 1 rfl
theorem dX9_floss_2 : decode cX9_floss 2 = .ok (.invokevirtual 101, 3) := zd_at zhX9_floss_0 2 rfl
theorem dX9_floss_5 : decode cX9_floss 5 = .ok (.ifCond .eq 10, 3) := zd_at zhX9_floss_0 3 rfl
theorem dX9_floss_8 : decode cX9_floss 8 = .ok (.iload_n 2, 1) := zd_at zhX9_floss_0 4 rfl
theorem dX9_floss_9 : decode cX9_floss 9 = .ok (.invokestatic 138, 3) := zd_at zhX9_floss_0 5 rfl
theorem dX9_floss_12 : decode cX9_floss 12 = .ok (.ifCond .ne 6, 3) := zd_at zhX9_floss_0 6 rfl
theorem dX9_floss_15 : decode cX9_floss 15 = .ok (.bipush (-2), 2) := zd_at zhX9_floss_0 7 rfl
theorem dX9_floss_17 : decode cX9_floss 17 = .ok (.ireturn, 1) := zd_at zhX9_floss_0 8 rfl
theorem dX9_floss_18 : decode cX9_floss 18 = .ok (.aload_n 0, 1) := zd_at zhX9_floss_0 9 rfl
theorem dX9_floss_19 : decode cX9_floss 19 = .ok (.getfield 32, 3) := zd_at zhX9_floss_0 10 rfl
theorem dX9_floss_22 : decode cX9_floss 22 = .ok (.bipush 10, 2) := zd_at zhX9_floss_0 11 rfl
theorem dX9_floss_24 : decode cX9_floss 24 = .ok (.iload_n 1, 1) := zd_at zhX9_floss_0 12 rfl
theorem dX9_floss_25 : decode cX9_floss 25 = .ok (.imul, 1) := zd_at zhX9_floss_0 13 rfl
theorem dX9_floss_26 : decode cX9_floss 26 = .ok (.iload_n 2, 1) := zd_at zhX9_floss_0 14 rfl
theorem dX9_floss_27 : decode cX9_floss 27 = .ok (.iadd, 1) := zd_at zhX9_floss_0 15 rfl
theorem dX9_floss_28 : decode cX9_floss 28 = .ok (.iaload, 1) := zd_at zhX9_floss_0 16 rfl
theorem dX9_floss_29 : decode cX9_floss 29 = .ok (.istore_n 3, 1) := zd_at zhX9_floss_0 17 rfl
theorem dX9_floss_30 : decode cX9_floss 30 = .ok (.aload_n 0, 1) := zd_at zhX9_floss_0 18 rfl
theorem dX9_floss_31 : decode cX9_floss 31 = .ok (.getfield 32, 3) := zd_at zhX9_floss_0 19 rfl
theorem dX9_floss_34 : decode cX9_floss 34 = .ok (.bipush 10, 2) := zd_at zhX9_floss_0 20 rfl
theorem dX9_floss_36 : decode cX9_floss 36 = .ok (.iload_n 1, 1) := zd_at zhX9_floss_0 21 rfl
theorem dX9_floss_37 : decode cX9_floss 37 = .ok (.imul, 1) := zd_at zhX9_floss_0 22 rfl
theorem dX9_floss_38 : decode cX9_floss 38 = .ok (.iload_n 2, 1) := zd_at zhX9_floss_0 23 rfl
theorem dX9_floss_39 : decode cX9_floss 39 = .ok (.iadd, 1) := zd_at zhX9_floss_0 24 rfl
theorem dX9_floss_40 : decode cX9_floss 40 = .ok (.iconst (-1), 1) := zd_at zhX9_floss_0 25 rfl
theorem dX9_floss_41 : decode cX9_floss 41 = .ok (.iastore, 1) := zd_at zhX9_floss_0 26 rfl
theorem dX9_floss_42 : decode cX9_floss 42 = .ok (.iload_n 3, 1) := zd_at zhX9_floss_0 27 rfl
theorem dX9_floss_43 : decode cX9_floss 43 = .ok (.ireturn, 1) := zd_at zhX9_floss_0 28 rfl
def ziX9_hands_0 : List (Nat × Instr × Nat) := [(0, .iconst 0, 1), (1, .istore_n 3, 1), (2, .iconst 0, 1), (3, .istore 4, 2), (5, .iload 4, 2), (7, .bipush 10, 2), (9, .if_icmp .ge 82, 3), (12, .bipush 10, 2), (14, .iload_n 1, 1), (15, .imul, 1), (16, .iload 4, 2), (18, .iadd, 1), (19, .istore 5, 2), (21, .bipush 10, 2), (23, .iload_n 2, 1), (24, .imul, 1), (25, .iload 4, 2), (27, .iadd, 1), (28, .istore 6, 2), (30, .aload_n 0, 1), (31, .getfield 32, 3), (34, .iload 5, 2), (36, .iaload, 1), (37, .iconst (-1), 1), (38, .if_icmp .eq 47, 3), (41, .aload_n 0, 1), (42, .getfield 32, 3), (45, .iload 6, 2), (47, .iaload, 1), (48, .iconst (-1), 1), (49, .if_icmp .ne 36, 3), (52, .aload_n 0, 1), (53, .getfield 32, 3), (56, .iload 6, 2), (58, .aload_n 0, 1), (59, .getfield 32, 3), (62, .iload 5, 2), (64, .iaload, 1), (65, .iastore, 1), (66, .aload_n 0, 1)]
theorem zhX9_hands_0 : zd_chk (cX9_hands.data.toList.drop 0) 0 ziX9_hands_0 = true := by decide +kernel
theorem dX9_hands_0 : decode cX9_hands 0 = .ok (.iconst 0, 1) := zd_at zhX9_hands_0 0 rfl
theorem dX9_hands_1 : decode cX9_hands 1 = .ok (.istore_n 3, 1) := zd_at zhX9_hands_0 1 rfl
theorem dX9_hands_2 : decode cX9_hands 2 = .ok (.iconst 0, 1) := zd_at zhX9_hands_0 2 rfl
theorem dX9_hands_3 : decode cX9_hands 3 = .ok (.istore 4, 2) := zd_at zhX9_hands_0 3 rfl
theorem dX9_hands_5 : decode cX9_hands 5 = .ok (.iload 4, 2) := zd_at zhX9_hands_0 4 rfl
theorem dX9_hands_7 : decode cX9_hands 7 = .ok (.bipush 10, 2) := zd_at zhX9_hands_0 5 rfl
theorem dX9_hands_9 : decode cX9_hands 9 = .ok (.if_icmp .ge 82, 3) := zd_at zhX9_hands_0 6 rfl
theorem dX9_hands_12 : decode cX9_hands 12 = .ok (.bipush 10, 2) := zd_at zhX9_hands_0 7 rfl
theorem dX9_hands_14 : decode cX9_hands 14 = .ok (.iload_n 1, 1) := zd_at zhX9_hands_0 8 rfl
theorem dX9_hands_15 : decode cX9_hands 15 = .ok (.imul, 1) := zd_at zhX9_hands_0 9 rfl
theorem dX9_hands_16 : decode cX9_hands 16 = .ok (.iload 4, 2) := zd_at zhX9_hands_0 10 rfl
theorem dX9_hands_18 : decode cX9_hands 18 = .ok (.iadd, 1) := zd_at zhX9_hands_0 11 rfl
theorem dX9_hands_19 : decode cX9_hands 19 = .ok (.istore 5, 2) := zd_at zhX9_hands_0 12 rfl
theorem dX9_hands_21 : decode cX9_hands 21 = .ok (.bipush 10, 2) := zd_at zhX9_hands_0 13 rfl
theorem dX9_hands_23 : decode cX9_hands 23 = .ok (.iload_n 2, 1) := zd_at zhX9_hands_0 14 rfl
theorem dX9_hands_24 : decode cX9_hands 24 = .ok (.imul, 1) := zd_at zhX9_hands_0 15 rfl
theorem dX9_hands_25 : decode cX9_hands 25 = .ok (.iload 4, 2) := zd_at zhX9_hands_0 16 rfl
theorem dX9_hands_27 : decode cX9_hands 27 = .ok (.iadd, 1) := zd_at zhX9_hands_0 17 rfl
theorem dX9_hands_28 : decode cX9_hands 28 = .ok (.istore 6, 2) := zd_at zhX9_hands_0 18 rfl
theorem dX9_hands_30 : decode cX9_hands 30 = .ok (.aload_n 0, 1) := zd_at zhX9_hands_0 19 rfl
theorem dX9_hands_31 : decode cX9_hands 31 = .ok (.getfield 32, 3) := zd_at zhX9_hands_0 20 rfl
theorem dX9_hands_34 : decode cX9_hands 34 = .ok (.iload 5, 2) := zd_at zhX9_hands_0 21 rfl
theorem dX9_hands_36 : decode cX9_hands 36 = .ok (.iaload, 1) := zd_at zhX9_hands_0 22 rfl
theorem dX9_hands_37 : decode cX9_hands 37 = .ok (.iconst (-1), 1) := zd_at zhX9_hands_0 23 rfl
theorem dX9_hands_38 : decode cX9_hands 38 = .ok (.if_icmp .eq 47, 3) := zd_at zhX9_hands_0 24 rfl
theorem dX9_hands_41 : decode cX9_hands 41 = .ok (.aload_n 0, 1) := zd_at zhX9_hands_0 25 rfl
theorem dX9_hands_42 : decode cX9_hands 42 = .ok (.getfield 32, 3) := zd_at zhX9_hands_0 26 rfl
theorem dX9_hands_45 : decode cX9_hands 45 = .ok (.iload 6, 2) := zd_at zhX9_hands_0 27 rfl
theorem dX9_hands_47 : decode cX9_hands 47 = .ok (.iaload, 1) := zd_at zhX9_hands_0 28 rfl
theorem dX9_hands_48 : decode cX9_hands 48 = .ok (.iconst (-1), 1) := zd_at zhX9_hands_0 29 rfl
theorem dX9_hands_49 : decode cX9_hands 49 = .ok (.if_icmp .ne 36, 3) := zd_at zhX9_hands_0 30 rfl
theorem dX9_hands_52 : decode cX9_hands 52 = .ok (.aload_n 0, 1) := zd_at zhX9_hands_0 31 rfl
theorem dX9_hands_53 : decode cX9_hands 53 = .ok (.getfield 32, 3) := zd_at zhX9_hands_0 32 rfl
theorem dX9_hands_56 : decode cX9_hands 56 = .ok (.iload 6, 2) := zd_at zhX9_hands_0 33 rfl
theorem dX9_hands_58 : decode cX9_hands 58 = .ok (.aload_n 0, 1) := zd_at zhX9_hands_0 34 rfl
theorem dX9_hands_59 : decode cX9_hands 59 = .ok (.getfield 32, 3) := zd_at zhX9_hands_0 35 rfl
theorem dX9_hands_62 : decode cX9_hands 62 = .ok (.iload 5, 2) := zd_at zhX9_hands_0 36 rfl
theorem dX9_hands_64 : decode cX9_hands 64 = .ok (.iaload, 1) := zd_at zhX9_hands_0 37 rfl
theorem dX9_hands_65 : decode cX9_hands 65 = .ok (.iastore, 1) := zd_at zhX9_hands_0 38 rfl
theorem dX9_hands_66 : decode cX9_hands 66 = .ok (.aload_n 0, 1) := zd_at zhX9_hands_0 39 rfl
def ziX9_hands_67 : List (Nat × Instr × Nat) := [(67, .getfield 35, 3), (70, .iload 6, 2), (72, .iconst 0, 1), (73, .iastore, 1), (74, .aload_n 0, 1), (75, .getfield 32, 3), (78, .iload 5, 2), (80, .iconst (-1), 1), (81, .iastore, 1), (82, .iinc 3 1, 3), (85, .iinc 4 1, 3), (88, .goto (-83), 3), (91, .iload_n 3, 1), (92, .ireturn, 1)]
theorem zhX9_hands_67 : zd_chk (cX9_hands.data.toList.drop 67) 67 ziX9_hands_67 = true := by decide +kernel
theorem dX9_hands_67 : decode cX9_hands 67 = .ok (.getfield 35, 3) := zd_at zhX9_hands_67 0 rfl
theorem dX9_hands_70 : decode cX9_hands 70 = .ok (.iload 6, 2) := zd_at zhX9_hands_67 1 rfl
theorem dX9_hands_72 : decode cX9_hands 72 = .ok (.iconst 0, 1) := zd_at zhX9_hands_67 2 rfl
theorem dX9_hands_73 : decode cX9_hands 73 = .ok (.iastore, 1) := zd_at zhX9_hands_67 3 rfl
theorem dX9_hands_74 : decode cX9_hands 74 = .ok (.aload_n 0, 1) := zd_at zhX9_hands_67 4 rfl
theorem dX9_hands_75 : decode cX9_hands 75 = .ok (.getfield 32, 3) := zd_at zhX9_hands_67 5 rfl
theorem dX9_hands_78 : decode cX9_hands 78 = .ok (.iload 5, 2) := zd_at zhX9_hands_67 6 rfl
theorem dX9_hands_80 : decode cX9_hands 80 = .ok (.iconst (-1), 1) := zd_at zhX9_hands_67 7 rfl
theorem dX9_hands_81 : decode cX9_hands 81 = .ok (.iastore, 1) := zd_at zhX9_hands_67 8 rfl
theorem dX9_hands_82 : decode cX9_hands 82 = .ok (.iinc 3 1, 3) := zd_at zhX9_hands_67 9 rfl
theorem dX9_hands_85 : decode cX9_hands 85 = .ok (.iinc 4 1, 3) := zd_at zhX9_hands_67 10 rfl
theorem dX9_hands_88 : decode cX9_hands 88 = .ok (.goto (-83), 3) := zd_at zhX9_hands_67 11 rfl
theorem dX9_hands_91 : decode cX9_hands 91 = .ok (.iload_n 3, 1) := zd_at zhX9_hands_67 12 rfl
theorem dX9_hands_92 : decode cX9_hands 92 = .ok (.ireturn, 1) := zd_at zhX9_hands_67 13 rfl
def ziX9_kiss_0 : List (Nat × Instr × Nat) := [(0, .aload_n 0, 1), (1, .iload_n 1, 1), (2, .invokevirtual 101, 3), (5, .ifCond .eq 25, 3), (8, .aload_n 0, 1), (9, .iload_n 2, 1), (10, .invokevirtual 101, 3), (13, .ifCond .eq 17, 3), (16, .iload_n 1, 1), (17, .iload_n 2, 1), (18, .if_icmp .eq 12, 3), (21, .aload_n 0, 1), (22, .iload_n 1, 1), (23, .iload_n 2, 1), (24, .invokevirtual 367, 3), (27, .goto 5, 3), (30, .bipush (-2), 2), (32, .ireturn, 1)]
theorem zhX9_kiss_0 : zd_chk (cX9_kiss.data.toList.drop 0) 0 ziX9_kiss_0 = true := by decide +kernel
theorem dX9_kiss_0 : decode cX9_kiss 0 = .ok (.aload_n 0, 1) := zd_at zhX9_kiss_0 0 rfl
theorem dX9_kiss_1 : decode cX9_kiss 1 = .ok (.iload_n 1, 1) := zd_at zhX9_kiss_0 1 rfl
theorem dX9_kiss_2 : decode cX9_kiss 2 = .ok (.invokevirtual 101, 3) := zd_at zhX9_kiss_0 2 rfl
theorem dX9_kiss_5 : decode cX9_kiss 5 = .ok (.ifCond .eq 25, 3) := zd_at zhX9_kiss_0 3 rfl
theorem dX9_kiss_8 : decode cX9_kiss 8 = .ok (.aload_n 0, 1) := zd_at zhX9_kiss_0 4 rfl
theorem dX9_kiss_9 : decode cX9_kiss 9 = .ok (.iload_n 2, 1) := zd_at zhX9_kiss_0 5 rfl
theorem dX9_kiss_10 : decode cX9_kiss 10 = .ok (.invokevirtual 101, 3) := zd_at zhX9_kiss_0 6 rfl
theorem dX9_kiss_13 : decode cX9_kiss 13 = .ok (.ifCond .eq 17, 3) := zd_at zhX9_kiss_0 7 rfl
theorem dX9_kiss_16 : decode cX9_kiss 16 = .ok (.iload_n 1, 1) := zd_at zhX9_kiss_0 8 rfl
theorem dX9_kiss_17 : decode cX9_kiss 17 = .ok (.iload_n 2, 1) := zd_at zhX9_kiss_0 9 rfl
theorem dX9_kiss_18 : decode cX9_kiss 18 = .ok (.if_icmp .eq 12, 3) := zd_at zhX9_kiss_0 10 rfl
theorem dX9_kiss_21 : decode cX9_kiss 21 = .ok (.aload_n 0, 1) := zd_at zhX9_kiss_0 11 rfl
theorem dX9_kiss_22 : decode cX9_kiss 22 = .ok (.iload_n 1, 1) := zd_at zhX9_kiss_0 12 rfl
theorem dX9_kiss_23 : decode cX9_kiss 23 = .ok (.iload_n 2, 1) := zd_at zhX9_kiss_0 13 rfl
theorem dX9_kiss_24 : decode cX9_kiss 24 = .ok (.invokevirtual 367, 3) := zd_at zhX9_kiss_0 14 rfl
theorem dX9_kiss_27 : decode cX9_kiss 27 = .ok (.goto 5, 3) := zd_at zhX9_kiss_0 15 rfl
theorem dX9_kiss_30 : decode cX9_kiss 30 = .ok (.bipush (-2), 2) := zd_at zhX9_kiss_0 16 rfl
theorem dX9_kiss_32 : decode cX9_kiss 32 = .ok (.ireturn, 1) := zd_at zhX9_kiss_0 17 rfl
def ziX9_begins_0 : List (Nat × Instr × Nat) := [(0, .aload_n 0, 1), (1, .iconst 0, 1), (2, .putfield 370, 3), (5, .aload_n 0, 1), (6, .iconst (-1), 1), (7, .putfield 373, 3), (10, .aload_n 0, 1), (11, .iconst (-1), 1), (12, .putfield 376, 3), (15, .aload_n 0, 1), (16, .iconst (-1), 1), (17, .putfield 379, 3), (20, .iconst 0, 1), (21, .istore_n 1, 1), (22, .iload_n 1, 1), (23, .bipush 50, 2), (25, .if_icmp .ge 23, 3), (28, .aload_n 0, 1), (29, .getfield 38, 3), (32, .iload_n 1, 1), (33, .iconst (-1), 1), (34, .iastore, 1), (35, .aload_n 0, 1), (36, .getfield 41, 3), (39, .iload_n 1, 1), (40, .iconst 0, 1), (41, .iastore, 1), (42, .iinc 1 1, 3), (45, .goto (-23), 3), (48, .return_, 1)]
theorem zhX9_begins_0 : zd_chk (cX9_begins.data.toList.drop 0) 0 ziX9_begins_0 = true := by decide +kernel
theorem dX9_begins_0 : decode cX9_begins 0 = .ok (.aload_n 0, 1) := zd_at zhX9_begins_0 0 rfl
theorem dX9_begins_1 : decode cX9_begins 1 = .ok (.iconst 0, 1) := zd_at zhX9_begins_0 1 rfl
theorem dX9_begins_2 : decode cX9_begins 2 = .ok (.putfield 370, 3) := zd_at zhX9_begins_0 2 rfl
theorem dX9_begins_5 : decode cX9_begins 5 = .ok (.aload_n 0, 1) := zd_at zhX9_begins_0 3 rfl
theorem dX9_begins_6 : decode cX9_begins 6 = .ok (.iconst (-1), 1) := zd_at zhX9_begins_0 4 rfl
theorem dX9_begins_7 : decode cX9_begins 7 = .ok (.putfield 373, 3) := zd_at zhX9_begins_0 5 rfl
theorem dX9_begins_10 : decode cX9_begins 10 = .ok (.aload_n 0, 1) := zd_at zhX9_begins_0 6 rfl
theorem dX9_begins_11 : decode cX9_begins 11 = .ok (.iconst (-1), 1) := zd_at zhX9_begins_0 7 rfl
theorem dX9_begins_12 : decode cX9_begins 12 = .ok (.putfield 376, 3) := zd_at zhX9_begins_0 8 rfl
theorem dX9_begins_15 : decode cX9_begins 15 = .ok (.aload_n 0, 1) := zd_at zhX9_begins_0 9 rfl
theorem dX9_begins_16 : decode cX9_begins 16 = .ok (.iconst (-1), 1) := zd_at zhX9_begins_0 10 rfl
theorem dX9_begins_17 : decode cX9_begins 17 = .ok (.putfield 379, 3) := zd_at zhX9_begins_0 11 rfl
theorem dX9_begins_20 : decode cX9_begins 20 = .ok (.iconst 0, 1) := zd_at zhX9_begins_0 12 rfl
theorem dX9_begins_21 : decode cX9_begins 21 = .ok (.istore_n 1, 1) := zd_at zhX9_begins_0 13 rfl
theorem dX9_begins_22 : decode cX9_begins 22 = .ok (.iload_n 1, 1) := zd_at zhX9_begins_0 14 rfl
theorem dX9_begins_23 : decode cX9_begins 23 = .ok (.bipush 50, 2) := zd_at zhX9_begins_0 15 rfl
theorem dX9_begins_25 : decode cX9_begins 25 = .ok (.if_icmp .ge 23, 3) := zd_at zhX9_begins_0 16 rfl
theorem dX9_begins_28 : decode cX9_begins 28 = .ok (.aload_n 0, 1) := zd_at zhX9_begins_0 17 rfl
theorem dX9_begins_29 : decode cX9_begins 29 = .ok (.getfield 38, 3) := zd_at zhX9_begins_0 18 rfl
theorem dX9_begins_32 : decode cX9_begins 32 = .ok (.iload_n 1, 1) := zd_at zhX9_begins_0 19 rfl
theorem dX9_begins_33 : decode cX9_begins 33 = .ok (.iconst (-1), 1) := zd_at zhX9_begins_0 20 rfl
theorem dX9_begins_34 : decode cX9_begins 34 = .ok (.iastore, 1) := zd_at zhX9_begins_0 21 rfl
theorem dX9_begins_35 : decode cX9_begins 35 = .ok (.aload_n 0, 1) := zd_at zhX9_begins_0 22 rfl
theorem dX9_begins_36 : decode cX9_begins 36 = .ok (.getfield 41, 3) := zd_at zhX9_begins_0 23 rfl
theorem dX9_begins_39 : decode cX9_begins 39 = .ok (.iload_n 1, 1) := zd_at zhX9_begins_0 24 rfl
theorem dX9_begins_40 : decode cX9_begins 40 = .ok (.iconst 0, 1) := zd_at zhX9_begins_0 25 rfl
theorem dX9_begins_41 : decode cX9_begins 41 = .ok (.iastore, 1) := zd_at zhX9_begins_0 26 rfl
theorem dX9_begins_42 : decode cX9_begins 42 = .ok (.iinc 1 1, 3) := zd_at zhX9_begins_0 27 rfl
theorem dX9_begins_45 : decode cX9_begins 45 = .ok (.goto (-23), 3) := zd_at zhX9_begins_0 28 rfl
theorem dX9_begins_48 : decode cX9_begins 48 = .ok (.return_, 1) := zd_at zhX9_begins_0 29 rfl
def ziX9_lives_0 : List (Nat × Instr × Nat) := [(0, .iconst 0, 1), (1, .istore_n 2, 1), (2, .iload_n 2, 1), (3, .bipush 10, 2), (5, .aload_n 0, 1), (6, .getfield 88, 3), (9, .imul, 1), (10, .if_icmp .ge 124, 3), (13, .aload_n 0, 1), (14, .getfield 32, 3), (17, .iload_n 2, 1), (18, .iaload, 1), (19, .iconst (-1), 1), (20, .if_icmp .eq 108, 3), (23, .aload_n 0, 1), (24, .getfield 35, 3), (27, .iload_n 2, 1), (28, .dup2, 1), (29, .iaload, 1), (30, .iconst 1, 1), (31, .iadd, 1), (32, .iastore, 1), (33, .aload_n 0, 1), (34, .getfield 35, 3), (37, .iload_n 2, 1), (38, .iaload, 1), (39, .aload_n 0, 1), (40, .iload_n 2, 1), (41, .invokevirtual 135, 3), (44, .if_icmp .lt 84, 3), (47, .aload_n 0, 1), (48, .getfield 41, 3), (51, .iload_n 2, 1), (52, .aload_n 0, 1), (53, .iload_n 2, 1), (54, .invokevirtual 382, 3), (57, .iastore, 1), (58, .aload_n 0, 1), (59, .getfield 38, 3), (62, .iload_n 2, 1)]
theorem zhX9_lives_0 : zd_chk (cX9_lives.data.toList.drop 0) 0 ziX9_lives_0 = true := by decide +kernel
theorem dX9_lives_0 : decode cX9_lives 0 = .ok (.iconst 0, 1) := zd_at zhX9_lives_0 0 rfl
theorem dX9_lives_1 : decode cX9_lives 1 = .ok (.istore_n 2, 1) := zd_at zhX9_lives_0 1 rfl
theorem dX9_lives_2 : decode cX9_lives 2 = .ok (.iload_n 2, 1) := zd_at zhX9_lives_0 2 rfl
theorem dX9_lives_3 : decode cX9_lives 3 = .ok (.bipush 10, 2) := zd_at zhX9_lives_0 3 rfl
theorem dX9_lives_5 : decode cX9_lives 5 = .ok (.aload_n 0, 1) := zd_at zhX9_lives_0 4 rfl
theorem dX9_lives_6 : decode cX9_lives 6 = .ok (.getfield 88, 3) := zd_at zhX9_lives_0 5 rfl
theorem dX9_lives_9 : decode cX9_lives 9 = .ok (.imul, 1) := zd_at zhX9_lives_0 6 rfl
theorem dX9_lives_10 : decode cX9_lives 10 = .ok (.if_icmp .ge 124, 3) := zd_at zhX9_lives_0 7 rfl
theorem dX9_lives_13 : decode cX9_lives 13 = .ok (.aload_n 0, 1) := zd_at zhX9_lives_0 8 rfl
theorem dX9_lives_14 : decode cX9_lives 14 = .ok (.getfield 32, 3) := zd_at zhX9_lives_0 9 rfl
theorem dX9_lives_17 : decode cX9_lives 17 = .ok (.iload_n 2, 1) := zd_at zhX9_lives_0 10 rfl
theorem dX9_lives_18 : decode cX9_lives 18 = .ok (.iaload, 1) := zd_at zhX9_lives_0 11 rfl
theorem dX9_lives_19 : decode cX9_lives 19 = .ok (.iconst (-1), 1) := zd_at zhX9_lives_0 12 rfl
theorem dX9_lives_20 : decode cX9_lives 20 = .ok (.if_icmp .eq 108, 3) := zd_at zhX9_lives_0 13 rfl
theorem dX9_lives_23 : decode cX9_lives 23 = .ok (.aload_n 0, 1) := zd_at zhX9_lives_0 14 rfl
theorem dX9_lives_24 : decode cX9_lives 24 = .ok (.getfield 35, 3) := zd_at zhX9_lives_0 15 rfl
theorem dX9_lives_27 : decode cX9_lives 27 = .ok (.iload_n 2, 1) := zd_at zhX9_lives_0 16 rfl
theorem dX9_lives_28 : decode cX9_lives 28 = .ok (.dup2, 1) := zd_at zhX9_lives_0 17 rfl
theorem dX9_lives_29 : decode cX9_lives 29 = .ok (.iaload, 1) := zd_at zhX9_lives_0 18 rfl
theorem dX9_lives_30 : decode cX9_lives 30 = .ok (.iconst 1, 1) := zd_at zhX9_lives_0 19 rfl
theorem dX9_lives_31 : decode cX9_lives 31 = .ok (.iadd, 1) := zd_at zhX9_lives_0 20 rfl
theorem dX9_lives_32 : decode cX9_lives 32 = .ok (.iastore, 1) := zd_at zhX9_lives_0 21 rfl
theorem dX9_lives_33 : decode cX9_lives 33 = .ok (.aload_n 0, 1) := zd_at zhX9_lives_0 22 rfl
theorem dX9_lives_34 : decode cX9_lives 34 = .ok (.getfield 35, 3) := zd_at zhX9_lives_0 23 rfl
theorem dX9_lives_37 : decode cX9_lives 37 = .ok (.iload_n 2, 1) := zd_at zhX9_lives_0 24 rfl
theorem dX9_lives_38 : decode cX9_lives 38 = .ok (.iaload, 1) := zd_at zhX9_lives_0 25 rfl
theorem dX9_lives_39 : decode cX9_lives 39 = .ok (.aload_n 0, 1) := zd_at zhX9_lives_0 26 rfl
theorem dX9_lives_40 : decode cX9_lives 40 = .ok (.iload_n 2, 1) := zd_at zhX9_lives_0 27 rfl
theorem dX9_lives_41 : decode cX9_lives 41 = .ok (.invokevirtual 135, 3) := zd_at zhX9_lives_0 28 rfl
theorem dX9_lives_44 : decode cX9_lives 44 = .ok (.if_icmp .lt 84, 3) := zd_at zhX9_lives_0 29 rfl
theorem dX9_lives_47 : decode cX9_lives 47 = .ok (.aload_n 0, 1) := zd_at zhX9_lives_0 30 rfl
theorem dX9_lives_48 : decode cX9_lives 48 = .ok (.getfield 41, 3) := zd_at zhX9_lives_0 31 rfl
theorem dX9_lives_51 : decode cX9_lives 51 = .ok (.iload_n 2, 1) := zd_at zhX9_lives_0 32 rfl
theorem dX9_lives_52 : decode cX9_lives 52 = .ok (.aload_n 0, 1) := zd_at zhX9_lives_0 33 rfl
theorem dX9_lives_53 : decode cX9_lives 53 = .ok (.iload_n 2, 1) := zd_at zhX9_lives_0 34 rfl
theorem dX9_lives_54 : decode cX9_lives 54 = .ok (.invokevirtual 382, 3) := zd_at zhX9_lives_0 35 rfl
theorem dX9_lives_57 : decode cX9_lives 57 = .ok (.iastore, 1) := zd_at zhX9_lives_0 36 rfl
theorem dX9_lives_58 : decode cX9_lives 58 = .ok (.aload_n 0, 1) := zd_at zhX9_lives_0 37 rfl
theorem dX9_lives_59 : decode cX9_lives 59 = .ok (.getfield 38, 3) := zd_at zhX9_lives_0 38 rfl
theorem dX9_lives_62 : decode cX9_lives 62 = .ok (.iload_n 2, 1) := zd_at zhX9_lives_0 39 rfl
def ziX9_lives_63 : List (Nat × Instr × Nat) := [(63, .iload_n 1, 1), (64, .iastore, 1), (65, .aload_n 0, 1), (66, .dup, 1), (67, .getfield 385, 3), (70, .aload_n 0, 1), (71, .getfield 41, 3), (74, .iload_n 2, 1), (75, .iaload, 1), (76, .iadd, 1), (77, .putfield 385, 3), (80, .aload_n 0, 1), (81, .getfield 379, 3), (84, .iconst (-1), 1), (85, .if_icmp .ne 26, 3), (88, .aload_n 0, 1), (89, .aload_n 0, 1), (90, .getfield 32, 3), (93, .iload_n 2, 1), (94, .iaload, 1), (95, .putfield 373, 3), (98, .aload_n 0, 1), (99, .iload_n 2, 1), (100, .bipush 10, 2), (102, .idiv, 1), (103, .putfield 376, 3), (106, .aload_n 0, 1), (107, .iload_n 1, 1), (108, .putfield 379, 3), (111, .aload_n 0, 1), (112, .dup, 1), (113, .getfield 370, 3), (116, .iconst 1, 1), (117, .iadd, 1), (118, .putfield 370, 3), (121, .aload_n 0, 1), (122, .getfield 32, 3), (125, .iload_n 2, 1), (126, .iconst (-1), 1), (127, .iastore, 1)]
theorem zhX9_lives_63 : zd_chk (cX9_lives.data.toList.drop 63) 63 ziX9_lives_63 = true := by decide +kernel
theorem dX9_lives_63 : decode cX9_lives 63 = .ok (.iload_n 1, 1) := zd_at zhX9_lives_63 0 rfl
theorem dX9_lives_64 : decode cX9_lives 64 = .ok (.iastore, 1) := zd_at zhX9_lives_63 1 rfl
theorem dX9_lives_65 : decode cX9_lives 65 = .ok (.aload_n 0, 1) := zd_at zhX9_lives_63 2 rfl
theorem dX9_lives_66 : decode cX9_lives 66 = .ok (.dup, 1) := zd_at zhX9_lives_63 3 rfl
theorem dX9_lives_67 : decode cX9_lives 67 = .ok (.getfield 385, 3) := zd_at zhX9_lives_63 4 rfl
theorem dX9_lives_70 : decode cX9_lives 70 = .ok (.aload_n 0, 1) := zd_at zhX9_lives_63 5 rfl
theorem dX9_lives_71 : decode cX9_lives 71 = .ok (.getfield 41, 3) := zd_at zhX9_lives_63 6 rfl
theorem dX9_lives_74 : decode cX9_lives 74 = .ok (.iload_n 2, 1) := zd_at zhX9_lives_63 7 rfl
theorem dX9_lives_75 : decode cX9_lives 75 = .ok (.iaload, 1) := zd_at zhX9_lives_63 8 rfl
theorem dX9_lives_76 : decode cX9_lives 76 = .ok (.iadd, 1) := zd_at zhX9_lives_63 9 rfl
theorem dX9_lives_77 : decode cX9_lives 77 = .ok (.putfield 385, 3) := zd_at zhX9_lives_63 10 rfl
theorem dX9_lives_80 : decode cX9_lives 80 = .ok (.aload_n 0, 1) := zd_at zhX9_lives_63 11 rfl
theorem dX9_lives_81 : decode cX9_lives 81 = .ok (.getfield 379, 3) := zd_at zhX9_lives_63 12 rfl
theorem dX9_lives_84 : decode cX9_lives 84 = .ok (.iconst (-1), 1) := zd_at zhX9_lives_63 13 rfl
theorem dX9_lives_85 : decode cX9_lives 85 = .ok (.if_icmp .ne 26, 3) := zd_at zhX9_lives_63 14 rfl
theorem dX9_lives_88 : decode cX9_lives 88 = .ok (.aload_n 0, 1) := zd_at zhX9_lives_63 15 rfl
theorem dX9_lives_89 : decode cX9_lives 89 = .ok (.aload_n 0, 1) := zd_at zhX9_lives_63 16 rfl
theorem dX9_lives_90 : decode cX9_lives 90 = .ok (.getfield 32, 3) := zd_at zhX9_lives_63 17 rfl
theorem dX9_lives_93 : decode cX9_lives 93 = .ok (.iload_n 2, 1) := zd_at zhX9_lives_63 18 rfl
theorem dX9_lives_94 : decode cX9_lives 94 = .ok (.iaload, 1) := zd_at zhX9_lives_63 19 rfl
theorem dX9_lives_95 : decode cX9_lives 95 = .ok (.putfield 373, 3) := zd_at zhX9_lives_63 20 rfl
theorem dX9_lives_98 : decode cX9_lives 98 = .ok (.aload_n 0, 1) := zd_at zhX9_lives_63 21 rfl
theorem dX9_lives_99 : decode cX9_lives 99 = .ok (.iload_n 2, 1) := zd_at zhX9_lives_63 22 rfl
theorem dX9_lives_100 : decode cX9_lives 100 = .ok (.bipush 10, 2) := zd_at zhX9_lives_63 23 rfl
theorem dX9_lives_102 : decode cX9_lives 102 = .ok (.idiv, 1) := zd_at zhX9_lives_63 24 rfl
theorem dX9_lives_103 : decode cX9_lives 103 = .ok (.putfield 376, 3) := zd_at zhX9_lives_63 25 rfl
theorem dX9_lives_106 : decode cX9_lives 106 = .ok (.aload_n 0, 1) := zd_at zhX9_lives_63 26 rfl
theorem dX9_lives_107 : decode cX9_lives 107 = .ok (.iload_n 1, 1) := zd_at zhX9_lives_63 27 rfl
theorem dX9_lives_108 : decode cX9_lives 108 = .ok (.putfield 379, 3) := zd_at zhX9_lives_63 28 rfl
theorem dX9_lives_111 : decode cX9_lives 111 = .ok (.aload_n 0, 1) := zd_at zhX9_lives_63 29 rfl
theorem dX9_lives_112 : decode cX9_lives 112 = .ok (.dup, 1) := zd_at zhX9_lives_63 30 rfl
theorem dX9_lives_113 : decode cX9_lives 113 = .ok (.getfield 370, 3) := zd_at zhX9_lives_63 31 rfl
theorem dX9_lives_116 : decode cX9_lives 116 = .ok (.iconst 1, 1) := zd_at zhX9_lives_63 32 rfl
theorem dX9_lives_117 : decode cX9_lives 117 = .ok (.iadd, 1) := zd_at zhX9_lives_63 33 rfl
theorem dX9_lives_118 : decode cX9_lives 118 = .ok (.putfield 370, 3) := zd_at zhX9_lives_63 34 rfl
theorem dX9_lives_121 : decode cX9_lives 121 = .ok (.aload_n 0, 1) := zd_at zhX9_lives_63 35 rfl
theorem dX9_lives_122 : decode cX9_lives 122 = .ok (.getfield 32, 3) := zd_at zhX9_lives_63 36 rfl
theorem dX9_lives_125 : decode cX9_lives 125 = .ok (.iload_n 2, 1) := zd_at zhX9_lives_63 37 rfl
theorem dX9_lives_126 : decode cX9_lives 126 = .ok (.iconst (-1), 1) := zd_at zhX9_lives_63 38 rfl
theorem dX9_lives_127 : decode cX9_lives 127 = .ok (.iastore, 1) := zd_at zhX9_lives_63 39 rfl
def ziX9_lives_128 : List (Nat × Instr × Nat) := [(128, .iinc 2 1, 3), (131, .goto (-129), 3), (134, .aload_n 0, 1), (135, .dup, 1), (136, .getfield 117, 3), (139, .iconst 1, 1), (140, .iadd, 1), (141, .putfield 117, 3), (144, .return_, 1)]
theorem zhX9_lives_128 : zd_chk (cX9_lives.data.toList.drop 128) 128 ziX9_lives_128 = true := by decide +kernel
theorem dX9_lives_128 : decode cX9_lives 128 = .ok (.iinc 2 1, 3) := zd_at zhX9_lives_128 0 rfl
theorem dX9_lives_131 : decode cX9_lives 131 = .ok (.goto (-129), 3) := zd_at zhX9_lives_128 1 rfl
theorem dX9_lives_134 : decode cX9_lives 134 = .ok (.aload_n 0, 1) := zd_at zhX9_lives_128 2 rfl
theorem dX9_lives_135 : decode cX9_lives 135 = .ok (.dup, 1) := zd_at zhX9_lives_128 3 rfl
theorem dX9_lives_136 : decode cX9_lives 136 = .ok (.getfield 117, 3) := zd_at zhX9_lives_128 4 rfl
theorem dX9_lives_139 : decode cX9_lives 139 = .ok (.iconst 1, 1) := zd_at zhX9_lives_128 5 rfl
theorem dX9_lives_140 : decode cX9_lives 140 = .ok (.iadd, 1) := zd_at zhX9_lives_128 6 rfl
theorem dX9_lives_141 : decode cX9_lives 141 = .ok (.putfield 117, 3) := zd_at zhX9_lives_128 7 rfl
theorem dX9_lives_144 : decode cX9_lives 144 = .ok (.return_, 1) := zd_at zhX9_lives_128 8 rfl
def ziX9_live_0 : List (Nat × Instr × Nat) := [(0, .aload_n 0, 1), (1, .getfield 117, 3), (4, .sipush 999, 3), (7, .if_icmp .ne 6, 3), (10, .bipush (-3), 2), (12, .ireturn, 1), (13, .aload_n 0, 1), (14, .invokevirtual 388, 3), (17, .aload_n 0, 1), (18, .iconst 0, 1), (19, .invokevirtual 391, 3), (22, .aload_n 0, 1), (23, .getfield 370, 3), (26, .ireturn, 1)]
theorem zhX9_live_0 : zd_chk (cX9_live.data.toList.drop 0) 0 ziX9_live_0 = true := by decide +kernel
theorem dX9_live_0 : decode cX9_live 0 = .ok (.aload_n 0, 1) := zd_at zhX9_live_0 0 rfl
theorem dX9_live_1 : decode cX9_live 1 = .ok (.getfield 117, 3) := zd_at zhX9_live_0 1 rfl
theorem dX9_live_4 : decode cX9_live 4 = .ok (.sipush 999, 3) := zd_at zhX9_live_0 2 rfl
theorem dX9_live_7 : decode cX9_live 7 = .ok (.if_icmp .ne 6, 3) := zd_at zhX9_live_0 3 rfl
theorem dX9_live_10 : decode cX9_live 10 = .ok (.bipush (-3), 2) := zd_at zhX9_live_0 4 rfl
theorem dX9_live_12 : decode cX9_live 12 = .ok (.ireturn, 1) := zd_at zhX9_live_0 5 rfl
theorem dX9_live_13 : decode cX9_live 13 = .ok (.aload_n 0, 1) := zd_at zhX9_live_0 6 rfl
theorem dX9_live_14 : decode cX9_live 14 = .ok (.invokevirtual 388, 3) := zd_at zhX9_live_0 7 rfl
theorem dX9_live_17 : decode cX9_live 17 = .ok (.aload_n 0, 1) := zd_at zhX9_live_0 8 rfl
theorem dX9_live_18 : decode cX9_live 18 = .ok (.iconst 0, 1) := zd_at zhX9_live_0 9 rfl
theorem dX9_live_19 : decode cX9_live 19 = .ok (.invokevirtual 391, 3) := zd_at zhX9_live_0 10 rfl
theorem dX9_live_22 : decode cX9_live 22 = .ok (.aload_n 0, 1) := zd_at zhX9_live_0 11 rfl
theorem dX9_live_23 : decode cX9_live 23 = .ok (.getfield 370, 3) := zd_at zhX9_live_0 12 rfl
theorem dX9_live_26 : decode cX9_live 26 = .ok (.ireturn, 1) := zd_at zhX9_live_0 13 rfl
def ziX9_laysAside_0 : List (Nat × Instr × Nat) := [(0, .iconst 0, 1), (1, .istore_n 1, 1), (2, .iload_n 1, 1), (3, .bipush 50, 2), (5, .if_icmp .ge 33, 3), (8, .aload_n 0, 1), (9, .getfield 44, 3), (12, .iload_n 1, 1), (13, .aload_n 0, 1), (14, .getfield 32, 3), (17, .iload_n 1, 1), (18, .iaload, 1), (19, .iastore, 1), (20, .aload_n 0, 1), (21, .getfield 47, 3), (24, .iload_n 1, 1), (25, .aload_n 0, 1), (26, .getfield 35, 3), (29, .iload_n 1, 1), (30, .iaload, 1), (31, .iastore, 1), (32, .iinc 1 1, 3), (35, .goto (-33), 3), (38, .aload_n 0, 1), (39, .aload_n 0, 1), (40, .getfield 117, 3), (43, .putfield 395, 3), (46, .aload_n 0, 1), (47, .aload_n 0, 1), (48, .getfield 385, 3), (51, .putfield 398, 3), (54, .aload_n 0, 1), (55, .invokevirtual 388, 3), (58, .return_, 1)]
theorem zhX9_laysAside_0 : zd_chk (cX9_laysAside.data.toList.drop 0) 0 ziX9_laysAside_0 = true := by decide +kernel
theorem dX9_laysAside_0 : decode cX9_laysAside 0 = .ok (.iconst 0, 1) := zd_at zhX9_laysAside_0 0 rfl
theorem dX9_laysAside_1 : decode cX9_laysAside 1 = .ok (.istore_n 1, 1) := zd_at zhX9_laysAside_0 1 rfl
theorem dX9_laysAside_2 : decode cX9_laysAside 2 = .ok (.iload_n 1, 1) := zd_at zhX9_laysAside_0 2 rfl
theorem dX9_laysAside_3 : decode cX9_laysAside 3 = .ok (.bipush 50, 2) := zd_at zhX9_laysAside_0 3 rfl
theorem dX9_laysAside_5 : decode cX9_laysAside 5 = .ok (.if_icmp .ge 33, 3) := zd_at zhX9_laysAside_0 4 rfl
theorem dX9_laysAside_8 : decode cX9_laysAside 8 = .ok (.aload_n 0, 1) := zd_at zhX9_laysAside_0 5 rfl
theorem dX9_laysAside_9 : decode cX9_laysAside 9 = .ok (.getfield 44, 3) := zd_at zhX9_laysAside_0 6 rfl
theorem dX9_laysAside_12 : decode cX9_laysAside 12 = .ok (.iload_n 1, 1) := zd_at zhX9_laysAside_0 7 rfl
theorem dX9_laysAside_13 : decode cX9_laysAside 13 = .ok (.aload_n 0, 1) := zd_at zhX9_laysAside_0 8 rfl
theorem dX9_laysAside_14 : decode cX9_laysAside 14 = .ok (.getfield 32, 3) := zd_at zhX9_laysAside_0 9 rfl
theorem dX9_laysAside_17 : decode cX9_laysAside 17 = .ok (.iload_n 1, 1) := zd_at zhX9_laysAside_0 10 rfl
theorem dX9_laysAside_18 : decode cX9_laysAside 18 = .ok (.iaload, 1) := zd_at zhX9_laysAside_0 11 rfl
theorem dX9_laysAside_19 : decode cX9_laysAside 19 = .ok (.iastore, 1) := zd_at zhX9_laysAside_0 12 rfl
theorem dX9_laysAside_20 : decode cX9_laysAside 20 = .ok (.aload_n 0, 1) := zd_at zhX9_laysAside_0 13 rfl
theorem dX9_laysAside_21 : decode cX9_laysAside 21 = .ok (.getfield 47, 3) := zd_at zhX9_laysAside_0 14 rfl
theorem dX9_laysAside_24 : decode cX9_laysAside 24 = .ok (.iload_n 1, 1) := zd_at zhX9_laysAside_0 15 rfl
theorem dX9_laysAside_25 : decode cX9_laysAside 25 = .ok (.aload_n 0, 1) := zd_at zhX9_laysAside_0 16 rfl
theorem dX9_laysAside_26 : decode cX9_laysAside 26 = .ok (.getfield 35, 3) := zd_at zhX9_laysAside_0 17 rfl
theorem dX9_laysAside_29 : decode cX9_laysAside 29 = .ok (.iload_n 1, 1) := zd_at zhX9_laysAside_0 18 rfl
theorem dX9_laysAside_30 : decode cX9_laysAside 30 = .ok (.iaload, 1) := zd_at zhX9_laysAside_0 19 rfl
theorem dX9_laysAside_31 : decode cX9_laysAside 31 = .ok (.iastore, 1) := zd_at zhX9_laysAside_0 20 rfl
theorem dX9_laysAside_32 : decode cX9_laysAside 32 = .ok (.iinc 1 1, 3) := zd_at zhX9_laysAside_0 21 rfl
theorem dX9_laysAside_35 : decode cX9_laysAside 35 = .ok (.goto (-33), 3) := zd_at zhX9_laysAside_0 22 rfl
theorem dX9_laysAside_38 : decode cX9_laysAside 38 = .ok (.aload_n 0, 1) := zd_at zhX9_laysAside_0 23 rfl
theorem dX9_laysAside_39 : decode cX9_laysAside 39 = .ok (.aload_n 0, 1) := zd_at zhX9_laysAside_0 24 rfl
theorem dX9_laysAside_40 : decode cX9_laysAside 40 = .ok (.getfield 117, 3) := zd_at zhX9_laysAside_0 25 rfl
theorem dX9_laysAside_43 : decode cX9_laysAside 43 = .ok (.putfield 395, 3) := zd_at zhX9_laysAside_0 26 rfl
theorem dX9_laysAside_46 : decode cX9_laysAside 46 = .ok (.aload_n 0, 1) := zd_at zhX9_laysAside_0 27 rfl
theorem dX9_laysAside_47 : decode cX9_laysAside 47 = .ok (.aload_n 0, 1) := zd_at zhX9_laysAside_0 28 rfl
theorem dX9_laysAside_48 : decode cX9_laysAside 48 = .ok (.getfield 385, 3) := zd_at zhX9_laysAside_0 29 rfl
theorem dX9_laysAside_51 : decode cX9_laysAside 51 = .ok (.putfield 398, 3) := zd_at zhX9_laysAside_0 30 rfl
theorem dX9_laysAside_54 : decode cX9_laysAside 54 = .ok (.aload_n 0, 1) := zd_at zhX9_laysAside_0 31 rfl
theorem dX9_laysAside_55 : decode cX9_laysAside 55 = .ok (.invokevirtual 388, 3) := zd_at zhX9_laysAside_0 32 rfl
theorem dX9_laysAside_58 : decode cX9_laysAside 58 = .ok (.return_, 1) := zd_at zhX9_laysAside_0 33 rfl
def ziX9_laysBack_0 : List (Nat × Instr × Nat) := [(0, .iconst 0, 1), (1, .istore_n 1, 1), (2, .iload_n 1, 1), (3, .bipush 50, 2), (5, .if_icmp .ge 33, 3), (8, .aload_n 0, 1), (9, .getfield 32, 3), (12, .iload_n 1, 1), (13, .aload_n 0, 1), (14, .getfield 44, 3), (17, .iload_n 1, 1), (18, .iaload, 1), (19, .iastore, 1), (20, .aload_n 0, 1), (21, .getfield 35, 3), (24, .iload_n 1, 1), (25, .aload_n 0, 1), (26, .getfield 47, 3), (29, .iload_n 1, 1), (30, .iaload, 1), (31, .iastore, 1), (32, .iinc 1 1, 3), (35, .goto (-33), 3), (38, .aload_n 0, 1), (39, .aload_n 0, 1), (40, .getfield 385, 3), (43, .aload_n 0, 1), (44, .getfield 398, 3), (47, .isub, 1), (48, .putfield 401, 3), (51, .aload_n 0, 1), (52, .aload_n 0, 1), (53, .getfield 395, 3), (56, .putfield 117, 3), (59, .aload_n 0, 1), (60, .aload_n 0, 1), (61, .getfield 398, 3), (64, .putfield 385, 3), (67, .return_, 1)]
theorem zhX9_laysBack_0 : zd_chk (cX9_laysBack.data.toList.drop 0) 0 ziX9_laysBack_0 = true := by decide +kernel
theorem dX9_laysBack_0 : decode cX9_laysBack 0 = .ok (.iconst 0, 1) := zd_at zhX9_laysBack_0 0 rfl
theorem dX9_laysBack_1 : decode cX9_laysBack 1 = .ok (.istore_n 1, 1) := zd_at zhX9_laysBack_0 1 rfl
theorem dX9_laysBack_2 : decode cX9_laysBack 2 = .ok (.iload_n 1, 1) := zd_at zhX9_laysBack_0 2 rfl
theorem dX9_laysBack_3 : decode cX9_laysBack 3 = .ok (.bipush 50, 2) := zd_at zhX9_laysBack_0 3 rfl
theorem dX9_laysBack_5 : decode cX9_laysBack 5 = .ok (.if_icmp .ge 33, 3) := zd_at zhX9_laysBack_0 4 rfl
theorem dX9_laysBack_8 : decode cX9_laysBack 8 = .ok (.aload_n 0, 1) := zd_at zhX9_laysBack_0 5 rfl
theorem dX9_laysBack_9 : decode cX9_laysBack 9 = .ok (.getfield 32, 3) := zd_at zhX9_laysBack_0 6 rfl
theorem dX9_laysBack_12 : decode cX9_laysBack 12 = .ok (.iload_n 1, 1) := zd_at zhX9_laysBack_0 7 rfl
theorem dX9_laysBack_13 : decode cX9_laysBack 13 = .ok (.aload_n 0, 1) := zd_at zhX9_laysBack_0 8 rfl
theorem dX9_laysBack_14 : decode cX9_laysBack 14 = .ok (.getfield 44, 3) := zd_at zhX9_laysBack_0 9 rfl
theorem dX9_laysBack_17 : decode cX9_laysBack 17 = .ok (.iload_n 1, 1) := zd_at zhX9_laysBack_0 10 rfl
theorem dX9_laysBack_18 : decode cX9_laysBack 18 = .ok (.iaload, 1) := zd_at zhX9_laysBack_0 11 rfl
theorem dX9_laysBack_19 : decode cX9_laysBack 19 = .ok (.iastore, 1) := zd_at zhX9_laysBack_0 12 rfl
theorem dX9_laysBack_20 : decode cX9_laysBack 20 = .ok (.aload_n 0, 1) := zd_at zhX9_laysBack_0 13 rfl
theorem dX9_laysBack_21 : decode cX9_laysBack 21 = .ok (.getfield 35, 3) := zd_at zhX9_laysBack_0 14 rfl
theorem dX9_laysBack_24 : decode cX9_laysBack 24 = .ok (.iload_n 1, 1) := zd_at zhX9_laysBack_0 15 rfl
theorem dX9_laysBack_25 : decode cX9_laysBack 25 = .ok (.aload_n 0, 1) := zd_at zhX9_laysBack_0 16 rfl
theorem dX9_laysBack_26 : decode cX9_laysBack 26 = .ok (.getfield 47, 3) := zd_at zhX9_laysBack_0 17 rfl
theorem dX9_laysBack_29 : decode cX9_laysBack 29 = .ok (.iload_n 1, 1) := zd_at zhX9_laysBack_0 18 rfl
theorem dX9_laysBack_30 : decode cX9_laysBack 30 = .ok (.iaload, 1) := zd_at zhX9_laysBack_0 19 rfl
theorem dX9_laysBack_31 : decode cX9_laysBack 31 = .ok (.iastore, 1) := zd_at zhX9_laysBack_0 20 rfl
theorem dX9_laysBack_32 : decode cX9_laysBack 32 = .ok (.iinc 1 1, 3) := zd_at zhX9_laysBack_0 21 rfl
theorem dX9_laysBack_35 : decode cX9_laysBack 35 = .ok (.goto (-33), 3) := zd_at zhX9_laysBack_0 22 rfl
theorem dX9_laysBack_38 : decode cX9_laysBack 38 = .ok (.aload_n 0, 1) := zd_at zhX9_laysBack_0 23 rfl
theorem dX9_laysBack_39 : decode cX9_laysBack 39 = .ok (.aload_n 0, 1) := zd_at zhX9_laysBack_0 24 rfl
theorem dX9_laysBack_40 : decode cX9_laysBack 40 = .ok (.getfield 385, 3) := zd_at zhX9_laysBack_0 25 rfl
theorem dX9_laysBack_43 : decode cX9_laysBack 43 = .ok (.aload_n 0, 1) := zd_at zhX9_laysBack_0 26 rfl
theorem dX9_laysBack_44 : decode cX9_laysBack 44 = .ok (.getfield 398, 3) := zd_at zhX9_laysBack_0 27 rfl
theorem dX9_laysBack_47 : decode cX9_laysBack 47 = .ok (.isub, 1) := zd_at zhX9_laysBack_0 28 rfl
theorem dX9_laysBack_48 : decode cX9_laysBack 48 = .ok (.putfield 401, 3) := zd_at zhX9_laysBack_0 29 rfl
theorem dX9_laysBack_51 : decode cX9_laysBack 51 = .ok (.aload_n 0, 1) := zd_at zhX9_laysBack_0 30 rfl
theorem dX9_laysBack_52 : decode cX9_laysBack 52 = .ok (.aload_n 0, 1) := zd_at zhX9_laysBack_0 31 rfl
theorem dX9_laysBack_53 : decode cX9_laysBack 53 = .ok (.getfield 395, 3) := zd_at zhX9_laysBack_0 32 rfl
theorem dX9_laysBack_56 : decode cX9_laysBack 56 = .ok (.putfield 117, 3) := zd_at zhX9_laysBack_0 33 rfl
theorem dX9_laysBack_59 : decode cX9_laysBack 59 = .ok (.aload_n 0, 1) := zd_at zhX9_laysBack_0 34 rfl
theorem dX9_laysBack_60 : decode cX9_laysBack 60 = .ok (.aload_n 0, 1) := zd_at zhX9_laysBack_0 35 rfl
theorem dX9_laysBack_61 : decode cX9_laysBack 61 = .ok (.getfield 398, 3) := zd_at zhX9_laysBack_0 36 rfl
theorem dX9_laysBack_64 : decode cX9_laysBack 64 = .ok (.putfield 385, 3) := zd_at zhX9_laysBack_0 37 rfl
theorem dX9_laysBack_67 : decode cX9_laysBack 67 = .ok (.return_, 1) := zd_at zhX9_laysBack_0 38 rfl
def ziX9_runs_0 : List (Nat × Instr × Nat) := [(0, .aload_n 0, 1), (1, .invokevirtual 404, 3), (4, .iconst 0, 1), (5, .istore_n 2, 1), (6, .iload_n 2, 1), (7, .iload_n 1, 1), (8, .if_icmp .ge 14, 3), (11, .aload_n 0, 1), (12, .iload_n 2, 1), (13, .invokevirtual 391, 3), (16, .iinc 2 1, 3), (19, .goto (-13), 3), (22, .aload_n 0, 1), (23, .invokevirtual 407, 3), (26, .return_, 1)]
theorem zhX9_runs_0 : zd_chk (cX9_runs.data.toList.drop 0) 0 ziX9_runs_0 = true := by decide +kernel
theorem dX9_runs_0 : decode cX9_runs 0 = .ok (.aload_n 0, 1) := zd_at zhX9_runs_0 0 rfl
theorem dX9_runs_1 : decode cX9_runs 1 = .ok (.invokevirtual 404, 3) := zd_at zhX9_runs_0 1 rfl
theorem dX9_runs_4 : decode cX9_runs 4 = .ok (.iconst 0, 1) := zd_at zhX9_runs_0 2 rfl
theorem dX9_runs_5 : decode cX9_runs 5 = .ok (.istore_n 2, 1) := zd_at zhX9_runs_0 3 rfl
theorem dX9_runs_6 : decode cX9_runs 6 = .ok (.iload_n 2, 1) := zd_at zhX9_runs_0 4 rfl
theorem dX9_runs_7 : decode cX9_runs 7 = .ok (.iload_n 1, 1) := zd_at zhX9_runs_0 5 rfl
theorem dX9_runs_8 : decode cX9_runs 8 = .ok (.if_icmp .ge 14, 3) := zd_at zhX9_runs_0 6 rfl
theorem dX9_runs_11 : decode cX9_runs 11 = .ok (.aload_n 0, 1) := zd_at zhX9_runs_0 7 rfl
theorem dX9_runs_12 : decode cX9_runs 12 = .ok (.iload_n 2, 1) := zd_at zhX9_runs_0 8 rfl
theorem dX9_runs_13 : decode cX9_runs 13 = .ok (.invokevirtual 391, 3) := zd_at zhX9_runs_0 9 rfl
theorem dX9_runs_16 : decode cX9_runs 16 = .ok (.iinc 2 1, 3) := zd_at zhX9_runs_0 10 rfl
theorem dX9_runs_19 : decode cX9_runs 19 = .ok (.goto (-13), 3) := zd_at zhX9_runs_0 11 rfl
theorem dX9_runs_22 : decode cX9_runs 22 = .ok (.aload_n 0, 1) := zd_at zhX9_runs_0 12 rfl
theorem dX9_runs_23 : decode cX9_runs 23 = .ok (.invokevirtual 407, 3) := zd_at zhX9_runs_0 13 rfl
theorem dX9_runs_26 : decode cX9_runs 26 = .ok (.return_, 1) := zd_at zhX9_runs_0 14 rfl
def ziX9_run_0 : List (Nat × Instr × Nat) := [(0, .iload_n 1, 1), (1, .i2l, 1), (2, .lconst 0, 1), (3, .ldc2_w 242, 3), (6, .invokestatic 91, 3), (9, .ifCond .eq 15, 3), (12, .iload_n 2, 1), (13, .i2l, 1), (14, .lconst 0, 1), (15, .ldc2_w 125, 3), (18, .invokestatic 91, 3), (21, .ifCond .ne 6, 3), (24, .bipush (-2), 2), (26, .ireturn, 1), (27, .aload_n 0, 1), (28, .iload_n 1, 1), (29, .invokevirtual 410, 3), (32, .iload_n 2, 1), (33, .iconst 2, 1), (34, .if_icmp .ge 19, 3), (37, .iload_n 2, 1), (38, .ifCond .ne 10, 3), (41, .aload_n 0, 1), (42, .getfield 401, 3), (45, .goto 7, 3), (48, .aload_n 0, 1), (49, .getfield 370, 3), (52, .ireturn, 1), (53, .iload_n 2, 1), (54, .iconst 2, 1), (55, .if_icmp .ne 10, 3), (58, .aload_n 0, 1), (59, .getfield 373, 3), (62, .goto 19, 3), (65, .iload_n 2, 1), (66, .iconst 3, 1), (67, .if_icmp .ne 10, 3), (70, .aload_n 0, 1), (71, .getfield 376, 3), (74, .goto 7, 3)]
theorem zhX9_run_0 : zd_chk (cX9_run.data.toList.drop 0) 0 ziX9_run_0 = true := by decide +kernel
theorem dX9_run_0 : decode cX9_run 0 = .ok (.iload_n 1, 1) := zd_at zhX9_run_0 0 rfl
theorem dX9_run_1 : decode cX9_run 1 = .ok (.i2l, 1) := zd_at zhX9_run_0 1 rfl
theorem dX9_run_2 : decode cX9_run 2 = .ok (.lconst 0, 1) := zd_at zhX9_run_0 2 rfl
theorem dX9_run_3 : decode cX9_run 3 = .ok (.ldc2_w 242, 3) := zd_at zhX9_run_0 3 rfl
theorem dX9_run_6 : decode cX9_run 6 = .ok (.invokestatic 91, 3) := zd_at zhX9_run_0 4 rfl
theorem dX9_run_9 : decode cX9_run 9 = .ok (.ifCond .eq 15, 3) := zd_at zhX9_run_0 5 rfl
theorem dX9_run_12 : decode cX9_run 12 = .ok (.iload_n 2, 1) := zd_at zhX9_run_0 6 rfl
theorem dX9_run_13 : decode cX9_run 13 = .ok (.i2l, 1) := zd_at zhX9_run_0 7 rfl
theorem dX9_run_14 : decode cX9_run 14 = .ok (.lconst 0, 1) := zd_at zhX9_run_0 8 rfl
theorem dX9_run_15 : decode cX9_run 15 = .ok (.ldc2_w 125, 3) := zd_at zhX9_run_0 9 rfl
theorem dX9_run_18 : decode cX9_run 18 = .ok (.invokestatic 91, 3) := zd_at zhX9_run_0 10 rfl
theorem dX9_run_21 : decode cX9_run 21 = .ok (.ifCond .ne 6, 3) := zd_at zhX9_run_0 11 rfl
theorem dX9_run_24 : decode cX9_run 24 = .ok (.bipush (-2), 2) := zd_at zhX9_run_0 12 rfl
theorem dX9_run_26 : decode cX9_run 26 = .ok (.ireturn, 1) := zd_at zhX9_run_0 13 rfl
theorem dX9_run_27 : decode cX9_run 27 = .ok (.aload_n 0, 1) := zd_at zhX9_run_0 14 rfl
theorem dX9_run_28 : decode cX9_run 28 = .ok (.iload_n 1, 1) := zd_at zhX9_run_0 15 rfl
theorem dX9_run_29 : decode cX9_run 29 = .ok (.invokevirtual 410, 3) := zd_at zhX9_run_0 16 rfl
theorem dX9_run_32 : decode cX9_run 32 = .ok (.iload_n 2, 1) := zd_at zhX9_run_0 17 rfl
theorem dX9_run_33 : decode cX9_run 33 = .ok (.iconst 2, 1) := zd_at zhX9_run_0 18 rfl
theorem dX9_run_34 : decode cX9_run 34 = .ok (.if_icmp .ge 19, 3) := zd_at zhX9_run_0 19 rfl
theorem dX9_run_37 : decode cX9_run 37 = .ok (.iload_n 2, 1) := zd_at zhX9_run_0 20 rfl
theorem dX9_run_38 : decode cX9_run 38 = .ok (.ifCond .ne 10, 3) := zd_at zhX9_run_0 21 rfl
theorem dX9_run_41 : decode cX9_run 41 = .ok (.aload_n 0, 1) := zd_at zhX9_run_0 22 rfl
theorem dX9_run_42 : decode cX9_run 42 = .ok (.getfield 401, 3) := zd_at zhX9_run_0 23 rfl
theorem dX9_run_45 : decode cX9_run 45 = .ok (.goto 7, 3) := zd_at zhX9_run_0 24 rfl
theorem dX9_run_48 : decode cX9_run 48 = .ok (.aload_n 0, 1) := zd_at zhX9_run_0 25 rfl
theorem dX9_run_49 : decode cX9_run 49 = .ok (.getfield 370, 3) := zd_at zhX9_run_0 26 rfl
theorem dX9_run_52 : decode cX9_run 52 = .ok (.ireturn, 1) := zd_at zhX9_run_0 27 rfl
theorem dX9_run_53 : decode cX9_run 53 = .ok (.iload_n 2, 1) := zd_at zhX9_run_0 28 rfl
theorem dX9_run_54 : decode cX9_run 54 = .ok (.iconst 2, 1) := zd_at zhX9_run_0 29 rfl
theorem dX9_run_55 : decode cX9_run 55 = .ok (.if_icmp .ne 10, 3) := zd_at zhX9_run_0 30 rfl
theorem dX9_run_58 : decode cX9_run 58 = .ok (.aload_n 0, 1) := zd_at zhX9_run_0 31 rfl
theorem dX9_run_59 : decode cX9_run 59 = .ok (.getfield 373, 3) := zd_at zhX9_run_0 32 rfl
theorem dX9_run_62 : decode cX9_run 62 = .ok (.goto 19, 3) := zd_at zhX9_run_0 33 rfl
theorem dX9_run_65 : decode cX9_run 65 = .ok (.iload_n 2, 1) := zd_at zhX9_run_0 34 rfl
theorem dX9_run_66 : decode cX9_run 66 = .ok (.iconst 3, 1) := zd_at zhX9_run_0 35 rfl
theorem dX9_run_67 : decode cX9_run 67 = .ok (.if_icmp .ne 10, 3) := zd_at zhX9_run_0 36 rfl
theorem dX9_run_70 : decode cX9_run 70 = .ok (.aload_n 0, 1) := zd_at zhX9_run_0 37 rfl
theorem dX9_run_71 : decode cX9_run 71 = .ok (.getfield 376, 3) := zd_at zhX9_run_0 38 rfl
theorem dX9_run_74 : decode cX9_run 74 = .ok (.goto 7, 3) := zd_at zhX9_run_0 39 rfl
def ziX9_run_77 : List (Nat × Instr × Nat) := [(77, .aload_n 0, 1), (78, .getfield 379, 3), (81, .ireturn, 1)]
theorem zhX9_run_77 : zd_chk (cX9_run.data.toList.drop 77) 77 ziX9_run_77 = true := by decide +kernel
theorem dX9_run_77 : decode cX9_run 77 = .ok (.aload_n 0, 1) := zd_at zhX9_run_77 0 rfl
theorem dX9_run_78 : decode cX9_run 78 = .ok (.getfield 379, 3) := zd_at zhX9_run_77 1 rfl
theorem dX9_run_81 : decode cX9_run 81 = .ok (.ireturn, 1) := zd_at zhX9_run_77 2 rfl
def ziX9_off_0 : List (Nat × Instr × Nat) := [(0, .aload_n 0, 1), (1, .iload_n 1, 1), (2, .invokevirtual 101, 3), (5, .ifCond .eq 22, 3), (8, .iload_n 2, 1), (9, .invokestatic 138, 3), (12, .ifCond .eq 15, 3), (15, .iload_n 3, 1), (16, .i2l, 1), (17, .lconst 0, 1), (18, .ldc2_w 242, 3), (21, .invokestatic 91, 3), (24, .ifCond .ne 6, 3), (27, .bipush (-2), 2), (29, .ireturn, 1), (30, .aload_n 0, 1), (31, .iload_n 3, 1), (32, .invokevirtual 410, 3), (35, .aload_n 0, 1), (36, .getfield 38, 3), (39, .bipush 10, 2), (41, .iload_n 1, 1), (42, .imul, 1), (43, .iload_n 2, 1), (44, .iadd, 1), (45, .iaload, 1), (46, .ireturn, 1)]
theorem zhX9_off_0 : zd_chk (cX9_off.data.toList.drop 0) 0 ziX9_off_0 = true := by decide +kernel
theorem dX9_off_0 : decode cX9_off 0 = .ok (.aload_n 0, 1) := zd_at zhX9_off_0 0 rfl
theorem dX9_off_1 : decode cX9_off 1 = .ok (.iload_n 1, 1) := zd_at zhX9_off_0 1 rfl
theorem dX9_off_2 : decode cX9_off 2 = .ok (.invokevirtual 101, 3) := zd_at zhX9_off_0 2 rfl
theorem dX9_off_5 : decode cX9_off 5 = .ok (.ifCond .eq 22, 3) := zd_at zhX9_off_0 3 rfl
theorem dX9_off_8 : decode cX9_off 8 = .ok (.iload_n 2, 1) := zd_at zhX9_off_0 4 rfl
theorem dX9_off_9 : decode cX9_off 9 = .ok (.invokestatic 138, 3) := zd_at zhX9_off_0 5 rfl
theorem dX9_off_12 : decode cX9_off 12 = .ok (.ifCond .eq 15, 3) := zd_at zhX9_off_0 6 rfl
theorem dX9_off_15 : decode cX9_off 15 = .ok (.iload_n 3, 1) := zd_at zhX9_off_0 7 rfl
theorem dX9_off_16 : decode cX9_off 16 = .ok (.i2l, 1) := zd_at zhX9_off_0 8 rfl
theorem dX9_off_17 : decode cX9_off 17 = .ok (.lconst 0, 1) := zd_at zhX9_off_0 9 rfl
theorem dX9_off_18 : decode cX9_off 18 = .ok (.ldc2_w 242, 3) := zd_at zhX9_off_0 10 rfl
theorem dX9_off_21 : decode cX9_off 21 = .ok (.invokestatic 91, 3) := zd_at zhX9_off_0 11 rfl
theorem dX9_off_24 : decode cX9_off 24 = .ok (.ifCond .ne 6, 3) := zd_at zhX9_off_0 12 rfl
theorem dX9_off_27 : decode cX9_off 27 = .ok (.bipush (-2), 2) := zd_at zhX9_off_0 13 rfl
theorem dX9_off_29 : decode cX9_off 29 = .ok (.ireturn, 1) := zd_at zhX9_off_0 14 rfl
theorem dX9_off_30 : decode cX9_off 30 = .ok (.aload_n 0, 1) := zd_at zhX9_off_0 15 rfl
theorem dX9_off_31 : decode cX9_off 31 = .ok (.iload_n 3, 1) := zd_at zhX9_off_0 16 rfl
theorem dX9_off_32 : decode cX9_off 32 = .ok (.invokevirtual 410, 3) := zd_at zhX9_off_0 17 rfl
theorem dX9_off_35 : decode cX9_off 35 = .ok (.aload_n 0, 1) := zd_at zhX9_off_0 18 rfl
theorem dX9_off_36 : decode cX9_off 36 = .ok (.getfield 38, 3) := zd_at zhX9_off_0 19 rfl
theorem dX9_off_39 : decode cX9_off 39 = .ok (.bipush 10, 2) := zd_at zhX9_off_0 20 rfl
theorem dX9_off_41 : decode cX9_off 41 = .ok (.iload_n 1, 1) := zd_at zhX9_off_0 21 rfl
theorem dX9_off_42 : decode cX9_off 42 = .ok (.imul, 1) := zd_at zhX9_off_0 22 rfl
theorem dX9_off_43 : decode cX9_off 43 = .ok (.iload_n 2, 1) := zd_at zhX9_off_0 23 rfl
theorem dX9_off_44 : decode cX9_off 44 = .ok (.iadd, 1) := zd_at zhX9_off_0 24 rfl
theorem dX9_off_45 : decode cX9_off 45 = .ok (.iaload, 1) := zd_at zhX9_off_0 25 rfl
theorem dX9_off_46 : decode cX9_off 46 = .ok (.ireturn, 1) := zd_at zhX9_off_0 26 rfl
def ziX9_foods_0 : List (Nat × Instr × Nat) := [(0, .aload_n 0, 1), (1, .iload_n 1, 1), (2, .invokevirtual 101, 3), (5, .ifCond .eq 17, 3), (8, .iload_n 2, 1), (9, .invokestatic 141, 3), (12, .ifCond .eq 10, 3), (15, .iload_n 3, 1), (16, .invokestatic 138, 3), (19, .ifCond .ne 6, 3), (22, .bipush (-2), 2), (24, .ireturn, 1), (25, .iconst 0, 1), (26, .istore 4, 2), (28, .iconst 0, 1), (29, .istore 5, 2), (31, .iload 5, 2), (33, .bipush 10, 2), (35, .if_icmp .ge 34, 3), (38, .iload 4, 2), (40, .aload_n 0, 1), (41, .iload_n 1, 1), (42, .iload_n 2, 1), (43, .iload 5, 2), (45, .invokevirtual 361, 3), (48, .iload_n 3, 1), (49, .if_icmp .ne 7, 3), (52, .iconst 1, 1), (53, .goto 4, 3), (56, .iconst 0, 1), (57, .iload 5, 2), (59, .ishl, 1), (60, .ior, 1), (61, .istore 4, 2), (63, .iinc 5 1, 3), (66, .goto (-35), 3), (69, .iload 4, 2), (71, .ireturn, 1)]
theorem zhX9_foods_0 : zd_chk (cX9_foods.data.toList.drop 0) 0 ziX9_foods_0 = true := by decide +kernel
theorem dX9_foods_0 : decode cX9_foods 0 = .ok (.aload_n 0, 1) := zd_at zhX9_foods_0 0 rfl
theorem dX9_foods_1 : decode cX9_foods 1 = .ok (.iload_n 1, 1) := zd_at zhX9_foods_0 1 rfl
theorem dX9_foods_2 : decode cX9_foods 2 = .ok (.invokevirtual 101, 3) := zd_at zhX9_foods_0 2 rfl
theorem dX9_foods_5 : decode cX9_foods 5 = .ok (.ifCond .eq 17, 3) := zd_at zhX9_foods_0 3 rfl
theorem dX9_foods_8 : decode cX9_foods 8 = .ok (.iload_n 2, 1) := zd_at zhX9_foods_0 4 rfl
theorem dX9_foods_9 : decode cX9_foods 9 = .ok (.invokestatic 141, 3) := zd_at zhX9_foods_0 5 rfl
theorem dX9_foods_12 : decode cX9_foods 12 = .ok (.ifCond .eq 10, 3) := zd_at zhX9_foods_0 6 rfl
theorem dX9_foods_15 : decode cX9_foods 15 = .ok (.iload_n 3, 1) := zd_at zhX9_foods_0 7 rfl
theorem dX9_foods_16 : decode cX9_foods 16 = .ok (.invokestatic 138, 3) := zd_at zhX9_foods_0 8 rfl
theorem dX9_foods_19 : decode cX9_foods 19 = .ok (.ifCond .ne 6, 3) := zd_at zhX9_foods_0 9 rfl
theorem dX9_foods_22 : decode cX9_foods 22 = .ok (.bipush (-2), 2) := zd_at zhX9_foods_0 10 rfl
theorem dX9_foods_24 : decode cX9_foods 24 = .ok (.ireturn, 1) := zd_at zhX9_foods_0 11 rfl
theorem dX9_foods_25 : decode cX9_foods 25 = .ok (.iconst 0, 1) := zd_at zhX9_foods_0 12 rfl
theorem dX9_foods_26 : decode cX9_foods 26 = .ok (.istore 4, 2) := zd_at zhX9_foods_0 13 rfl
theorem dX9_foods_28 : decode cX9_foods 28 = .ok (.iconst 0, 1) := zd_at zhX9_foods_0 14 rfl
theorem dX9_foods_29 : decode cX9_foods 29 = .ok (.istore 5, 2) := zd_at zhX9_foods_0 15 rfl
theorem dX9_foods_31 : decode cX9_foods 31 = .ok (.iload 5, 2) := zd_at zhX9_foods_0 16 rfl
theorem dX9_foods_33 : decode cX9_foods 33 = .ok (.bipush 10, 2) := zd_at zhX9_foods_0 17 rfl
theorem dX9_foods_35 : decode cX9_foods 35 = .ok (.if_icmp .ge 34, 3) := zd_at zhX9_foods_0 18 rfl
theorem dX9_foods_38 : decode cX9_foods 38 = .ok (.iload 4, 2) := zd_at zhX9_foods_0 19 rfl
theorem dX9_foods_40 : decode cX9_foods 40 = .ok (.aload_n 0, 1) := zd_at zhX9_foods_0 20 rfl
theorem dX9_foods_41 : decode cX9_foods 41 = .ok (.iload_n 1, 1) := zd_at zhX9_foods_0 21 rfl
theorem dX9_foods_42 : decode cX9_foods 42 = .ok (.iload_n 2, 1) := zd_at zhX9_foods_0 22 rfl
theorem dX9_foods_43 : decode cX9_foods 43 = .ok (.iload 5, 2) := zd_at zhX9_foods_0 23 rfl
theorem dX9_foods_45 : decode cX9_foods 45 = .ok (.invokevirtual 361, 3) := zd_at zhX9_foods_0 24 rfl
theorem dX9_foods_48 : decode cX9_foods 48 = .ok (.iload_n 3, 1) := zd_at zhX9_foods_0 25 rfl
theorem dX9_foods_49 : decode cX9_foods 49 = .ok (.if_icmp .ne 7, 3) := zd_at zhX9_foods_0 26 rfl
theorem dX9_foods_52 : decode cX9_foods 52 = .ok (.iconst 1, 1) := zd_at zhX9_foods_0 27 rfl
theorem dX9_foods_53 : decode cX9_foods 53 = .ok (.goto 4, 3) := zd_at zhX9_foods_0 28 rfl
theorem dX9_foods_56 : decode cX9_foods 56 = .ok (.iconst 0, 1) := zd_at zhX9_foods_0 29 rfl
theorem dX9_foods_57 : decode cX9_foods 57 = .ok (.iload 5, 2) := zd_at zhX9_foods_0 30 rfl
theorem dX9_foods_59 : decode cX9_foods 59 = .ok (.ishl, 1) := zd_at zhX9_foods_0 31 rfl
theorem dX9_foods_60 : decode cX9_foods 60 = .ok (.ior, 1) := zd_at zhX9_foods_0 32 rfl
theorem dX9_foods_61 : decode cX9_foods 61 = .ok (.istore 4, 2) := zd_at zhX9_foods_0 33 rfl
theorem dX9_foods_63 : decode cX9_foods 63 = .ok (.iinc 5 1, 3) := zd_at zhX9_foods_0 34 rfl
theorem dX9_foods_66 : decode cX9_foods 66 = .ok (.goto (-35), 3) := zd_at zhX9_foods_0 35 rfl
theorem dX9_foods_69 : decode cX9_foods 69 = .ok (.iload 4, 2) := zd_at zhX9_foods_0 36 rfl
theorem dX9_foods_71 : decode cX9_foods 71 = .ok (.ireturn, 1) := zd_at zhX9_foods_0 37 rfl
def ziX9_best_0 : List (Nat × Instr × Nat) := [(0, .iload_n 1, 1), (1, .i2l, 1), (2, .lconst 0, 1), (3, .ldc2_w 242, 3), (6, .invokestatic 91, 3), (9, .ifCond .eq 13, 3), (12, .iload_n 2, 1), (13, .i2l, 1), (14, .lconst 0, 1), (15, .lconst 1, 1), (16, .invokestatic 91, 3), (19, .ifCond .ne 6, 3), (22, .bipush (-2), 2), (24, .ireturn, 1), (25, .aload_n 0, 1), (26, .iload_n 1, 1), (27, .invokevirtual 410, 3), (30, .aload_n 0, 1), (31, .getfield 401, 3), (34, .istore_n 3, 1), (35, .iload_n 3, 1), (36, .istore 4, 2), (38, .iconst (-1), 1), (39, .istore 5, 2), (41, .iconst 0, 1), (42, .istore 6, 2), (44, .iload 6, 2), (46, .bipush 10, 2), (48, .aload_n 0, 1), (49, .getfield 88, 3), (52, .imul, 1), (53, .if_icmp .ge 38, 3), (56, .iload_n 3, 1), (57, .aload_n 0, 1), (58, .getfield 41, 3), (61, .iload 6, 2), (63, .iaload, 1), (64, .isub, 1), (65, .iload 4, 2), (67, .if_icmp .ge 18, 3)]
theorem zhX9_best_0 : zd_chk (cX9_best.data.toList.drop 0) 0 ziX9_best_0 = true := by decide +kernel
theorem dX9_best_0 : decode cX9_best 0 = .ok (.iload_n 1, 1) := zd_at zhX9_best_0 0 rfl
theorem dX9_best_1 : decode cX9_best 1 = .ok (.i2l, 1) := zd_at zhX9_best_0 1 rfl
theorem dX9_best_2 : decode cX9_best 2 = .ok (.lconst 0, 1) := zd_at zhX9_best_0 2 rfl
theorem dX9_best_3 : decode cX9_best 3 = .ok (.ldc2_w 242, 3) := zd_at zhX9_best_0 3 rfl
theorem dX9_best_6 : decode cX9_best 6 = .ok (.invokestatic 91, 3) := zd_at zhX9_best_0 4 rfl
theorem dX9_best_9 : decode cX9_best 9 = .ok (.ifCond .eq 13, 3) := zd_at zhX9_best_0 5 rfl
theorem dX9_best_12 : decode cX9_best 12 = .ok (.iload_n 2, 1) := zd_at zhX9_best_0 6 rfl
theorem dX9_best_13 : decode cX9_best 13 = .ok (.i2l, 1) := zd_at zhX9_best_0 7 rfl
theorem dX9_best_14 : decode cX9_best 14 = .ok (.lconst 0, 1) := zd_at zhX9_best_0 8 rfl
theorem dX9_best_15 : decode cX9_best 15 = .ok (.lconst 1, 1) := zd_at zhX9_best_0 9 rfl
theorem dX9_best_16 : decode cX9_best 16 = .ok (.invokestatic 91, 3) := zd_at zhX9_best_0 10 rfl
theorem dX9_best_19 : decode cX9_best 19 = .ok (.ifCond .ne 6, 3) := zd_at zhX9_best_0 11 rfl
theorem dX9_best_22 : decode cX9_best 22 = .ok (.bipush (-2), 2) := zd_at zhX9_best_0 12 rfl
theorem dX9_best_24 : decode cX9_best 24 = .ok (.ireturn, 1) := zd_at zhX9_best_0 13 rfl
theorem dX9_best_25 : decode cX9_best 25 = .ok (.aload_n 0, 1) := zd_at zhX9_best_0 14 rfl
theorem dX9_best_26 : decode cX9_best 26 = .ok (.iload_n 1, 1) := zd_at zhX9_best_0 15 rfl
theorem dX9_best_27 : decode cX9_best 27 = .ok (.invokevirtual 410, 3) := zd_at zhX9_best_0 16 rfl
theorem dX9_best_30 : decode cX9_best 30 = .ok (.aload_n 0, 1) := zd_at zhX9_best_0 17 rfl
theorem dX9_best_31 : decode cX9_best 31 = .ok (.getfield 401, 3) := zd_at zhX9_best_0 18 rfl
theorem dX9_best_34 : decode cX9_best 34 = .ok (.istore_n 3, 1) := zd_at zhX9_best_0 19 rfl
theorem dX9_best_35 : decode cX9_best 35 = .ok (.iload_n 3, 1) := zd_at zhX9_best_0 20 rfl
theorem dX9_best_36 : decode cX9_best 36 = .ok (.istore 4, 2) := zd_at zhX9_best_0 21 rfl
theorem dX9_best_38 : decode cX9_best 38 = .ok (.iconst (-1), 1) := zd_at zhX9_best_0 22 rfl
theorem dX9_best_39 : decode cX9_best 39 = .ok (.istore 5, 2) := zd_at zhX9_best_0 23 rfl
theorem dX9_best_41 : decode cX9_best 41 = .ok (.iconst 0, 1) := zd_at zhX9_best_0 24 rfl
theorem dX9_best_42 : decode cX9_best 42 = .ok (.istore 6, 2) := zd_at zhX9_best_0 25 rfl
theorem dX9_best_44 : decode cX9_best 44 = .ok (.iload 6, 2) := zd_at zhX9_best_0 26 rfl
theorem dX9_best_46 : decode cX9_best 46 = .ok (.bipush 10, 2) := zd_at zhX9_best_0 27 rfl
theorem dX9_best_48 : decode cX9_best 48 = .ok (.aload_n 0, 1) := zd_at zhX9_best_0 28 rfl
theorem dX9_best_49 : decode cX9_best 49 = .ok (.getfield 88, 3) := zd_at zhX9_best_0 29 rfl
theorem dX9_best_52 : decode cX9_best 52 = .ok (.imul, 1) := zd_at zhX9_best_0 30 rfl
theorem dX9_best_53 : decode cX9_best 53 = .ok (.if_icmp .ge 38, 3) := zd_at zhX9_best_0 31 rfl
theorem dX9_best_56 : decode cX9_best 56 = .ok (.iload_n 3, 1) := zd_at zhX9_best_0 32 rfl
theorem dX9_best_57 : decode cX9_best 57 = .ok (.aload_n 0, 1) := zd_at zhX9_best_0 33 rfl
theorem dX9_best_58 : decode cX9_best 58 = .ok (.getfield 41, 3) := zd_at zhX9_best_0 34 rfl
theorem dX9_best_61 : decode cX9_best 61 = .ok (.iload 6, 2) := zd_at zhX9_best_0 35 rfl
theorem dX9_best_63 : decode cX9_best 63 = .ok (.iaload, 1) := zd_at zhX9_best_0 36 rfl
theorem dX9_best_64 : decode cX9_best 64 = .ok (.isub, 1) := zd_at zhX9_best_0 37 rfl
theorem dX9_best_65 : decode cX9_best 65 = .ok (.iload 4, 2) := zd_at zhX9_best_0 38 rfl
theorem dX9_best_67 : decode cX9_best 67 = .ok (.if_icmp .ge 18, 3) := zd_at zhX9_best_0 39 rfl
def ziX9_best_70 : List (Nat × Instr × Nat) := [(70, .iload 6, 2), (72, .istore 5, 2), (74, .iload_n 3, 1), (75, .aload_n 0, 1), (76, .getfield 41, 3), (79, .iload 6, 2), (81, .iaload, 1), (82, .isub, 1), (83, .istore 4, 2), (85, .iinc 6 1, 3), (88, .goto (-44), 3), (91, .iload_n 2, 1), (92, .ifCond .ne 8, 3), (95, .iload 5, 2), (97, .goto 5, 3), (100, .iload 4, 2), (102, .ireturn, 1)]
theorem zhX9_best_70 : zd_chk (cX9_best.data.toList.drop 70) 70 ziX9_best_70 = true := by decide +kernel
theorem dX9_best_70 : decode cX9_best 70 = .ok (.iload 6, 2) := zd_at zhX9_best_70 0 rfl
theorem dX9_best_72 : decode cX9_best 72 = .ok (.istore 5, 2) := zd_at zhX9_best_70 1 rfl
theorem dX9_best_74 : decode cX9_best 74 = .ok (.iload_n 3, 1) := zd_at zhX9_best_70 2 rfl
theorem dX9_best_75 : decode cX9_best 75 = .ok (.aload_n 0, 1) := zd_at zhX9_best_70 3 rfl
theorem dX9_best_76 : decode cX9_best 76 = .ok (.getfield 41, 3) := zd_at zhX9_best_70 4 rfl
theorem dX9_best_79 : decode cX9_best 79 = .ok (.iload 6, 2) := zd_at zhX9_best_70 5 rfl
theorem dX9_best_81 : decode cX9_best 81 = .ok (.iaload, 1) := zd_at zhX9_best_70 6 rfl
theorem dX9_best_82 : decode cX9_best 82 = .ok (.isub, 1) := zd_at zhX9_best_70 7 rfl
theorem dX9_best_83 : decode cX9_best 83 = .ok (.istore 4, 2) := zd_at zhX9_best_70 8 rfl
theorem dX9_best_85 : decode cX9_best 85 = .ok (.iinc 6 1, 3) := zd_at zhX9_best_70 9 rfl
theorem dX9_best_88 : decode cX9_best 88 = .ok (.goto (-44), 3) := zd_at zhX9_best_70 10 rfl
theorem dX9_best_91 : decode cX9_best 91 = .ok (.iload_n 2, 1) := zd_at zhX9_best_70 11 rfl
theorem dX9_best_92 : decode cX9_best 92 = .ok (.ifCond .ne 8, 3) := zd_at zhX9_best_70 12 rfl
theorem dX9_best_95 : decode cX9_best 95 = .ok (.iload 5, 2) := zd_at zhX9_best_70 13 rfl
theorem dX9_best_97 : decode cX9_best 97 = .ok (.goto 5, 3) := zd_at zhX9_best_70 14 rfl
theorem dX9_best_100 : decode cX9_best 100 = .ok (.iload 4, 2) := zd_at zhX9_best_70 15 rfl
theorem dX9_best_102 : decode cX9_best 102 = .ok (.ireturn, 1) := zd_at zhX9_best_70 16 rfl
def ziX9_bitsOf_0 : List (Nat × Instr × Nat) := [(0, .iconst 0, 1), (1, .istore_n 1, 1), (2, .iload_n 0, 1), (3, .istore_n 2, 1), (4, .iload_n 2, 1), (5, .ifCond .eq 15, 3), (8, .iinc 1 1, 3), (11, .iload_n 2, 1), (12, .iload_n 2, 1), (13, .iconst 1, 1), (14, .isub, 1), (15, .iand, 1), (16, .istore_n 2, 1), (17, .goto (-13), 3), (20, .iload_n 1, 1), (21, .ireturn, 1)]
theorem zhX9_bitsOf_0 : zd_chk (cX9_bitsOf.data.toList.drop 0) 0 ziX9_bitsOf_0 = true := by decide +kernel
theorem dX9_bitsOf_0 : decode cX9_bitsOf 0 = .ok (.iconst 0, 1) := zd_at zhX9_bitsOf_0 0 rfl
theorem dX9_bitsOf_1 : decode cX9_bitsOf 1 = .ok (.istore_n 1, 1) := zd_at zhX9_bitsOf_0 1 rfl
theorem dX9_bitsOf_2 : decode cX9_bitsOf 2 = .ok (.iload_n 0, 1) := zd_at zhX9_bitsOf_0 2 rfl
theorem dX9_bitsOf_3 : decode cX9_bitsOf 3 = .ok (.istore_n 2, 1) := zd_at zhX9_bitsOf_0 3 rfl
theorem dX9_bitsOf_4 : decode cX9_bitsOf 4 = .ok (.iload_n 2, 1) := zd_at zhX9_bitsOf_0 4 rfl
theorem dX9_bitsOf_5 : decode cX9_bitsOf 5 = .ok (.ifCond .eq 15, 3) := zd_at zhX9_bitsOf_0 5 rfl
theorem dX9_bitsOf_8 : decode cX9_bitsOf 8 = .ok (.iinc 1 1, 3) := zd_at zhX9_bitsOf_0 6 rfl
theorem dX9_bitsOf_11 : decode cX9_bitsOf 11 = .ok (.iload_n 2, 1) := zd_at zhX9_bitsOf_0 7 rfl
theorem dX9_bitsOf_12 : decode cX9_bitsOf 12 = .ok (.iload_n 2, 1) := zd_at zhX9_bitsOf_0 8 rfl
theorem dX9_bitsOf_13 : decode cX9_bitsOf 13 = .ok (.iconst 1, 1) := zd_at zhX9_bitsOf_0 9 rfl
theorem dX9_bitsOf_14 : decode cX9_bitsOf 14 = .ok (.isub, 1) := zd_at zhX9_bitsOf_0 10 rfl
theorem dX9_bitsOf_15 : decode cX9_bitsOf 15 = .ok (.iand, 1) := zd_at zhX9_bitsOf_0 11 rfl
theorem dX9_bitsOf_16 : decode cX9_bitsOf 16 = .ok (.istore_n 2, 1) := zd_at zhX9_bitsOf_0 12 rfl
theorem dX9_bitsOf_17 : decode cX9_bitsOf 17 = .ok (.goto (-13), 3) := zd_at zhX9_bitsOf_0 13 rfl
theorem dX9_bitsOf_20 : decode cX9_bitsOf 20 = .ok (.iload_n 1, 1) := zd_at zhX9_bitsOf_0 14 rfl
theorem dX9_bitsOf_21 : decode cX9_bitsOf 21 = .ok (.ireturn, 1) := zd_at zhX9_bitsOf_0 15 rfl
def ziX9_few_0 : List (Nat × Instr × Nat) := [(0, .aload_n 0, 1), (1, .iload_n 1, 1), (2, .invokevirtual 101, 3), (5, .ifCond .eq 27, 3), (8, .iload_n 2, 1), (9, .i2l, 1), (10, .lconst 0, 1), (11, .ldc2_w 242, 3), (14, .invokestatic 91, 3), (17, .ifCond .eq 15, 3), (20, .iload_n 3, 1), (21, .i2l, 1), (22, .lconst 0, 1), (23, .ldc2_w 413, 3), (26, .invokestatic 91, 3), (29, .ifCond .ne 6, 3), (32, .bipush (-2), 2), (34, .ireturn, 1), (35, .aload_n 0, 1), (36, .iload_n 2, 1), (37, .invokevirtual 410, 3), (40, .iconst (-1), 1), (41, .istore 4, 2), (43, .iconst 0, 1), (44, .istore 5, 2), (46, .iload 5, 2), (48, .sipush 1024, 3), (51, .if_icmp .ge 85, 3), (54, .aload_n 0, 1), (55, .getfield 401, 3), (58, .istore 6, 2), (60, .iconst 0, 1), (61, .istore 7, 2), (63, .iload 7, 2), (65, .bipush 10, 2), (67, .if_icmp .ge 34, 3), (70, .iload 6, 2), (72, .iload 5, 2), (74, .iload 7, 2), (76, .ishr, 1)]
theorem zhX9_few_0 : zd_chk (cX9_few.data.toList.drop 0) 0 ziX9_few_0 = true := by decide +kernel
theorem dX9_few_0 : decode cX9_few 0 = .ok (.aload_n 0, 1) := zd_at zhX9_few_0 0 rfl
theorem dX9_few_1 : decode cX9_few 1 = .ok (.iload_n 1, 1) := zd_at zhX9_few_0 1 rfl
theorem dX9_few_2 : decode cX9_few 2 = .ok (.invokevirtual 101, 3) := zd_at zhX9_few_0 2 rfl
theorem dX9_few_5 : decode cX9_few 5 = .ok (.ifCond .eq 27, 3) := zd_at zhX9_few_0 3 rfl
theorem dX9_few_8 : decode cX9_few 8 = .ok (.iload_n 2, 1) := zd_at zhX9_few_0 4 rfl
theorem dX9_few_9 : decode cX9_few 9 = .ok (.i2l, 1) := zd_at zhX9_few_0 5 rfl
theorem dX9_few_10 : decode cX9_few 10 = .ok (.lconst 0, 1) := zd_at zhX9_few_0 6 rfl
theorem dX9_few_11 : decode cX9_few 11 = .ok (.ldc2_w 242, 3) := zd_at zhX9_few_0 7 rfl
theorem dX9_few_14 : decode cX9_few 14 = .ok (.invokestatic 91, 3) := zd_at zhX9_few_0 8 rfl
theorem dX9_few_17 : decode cX9_few 17 = .ok (.ifCond .eq 15, 3) := zd_at zhX9_few_0 9 rfl
theorem dX9_few_20 : decode cX9_few 20 = .ok (.iload_n 3, 1) := zd_at zhX9_few_0 10 rfl
theorem dX9_few_21 : decode cX9_few 21 = .ok (.i2l, 1) := zd_at zhX9_few_0 11 rfl
theorem dX9_few_22 : decode cX9_few 22 = .ok (.lconst 0, 1) := zd_at zhX9_few_0 12 rfl
theorem dX9_few_23 : decode cX9_few 23 = .ok (.ldc2_w 413, 3) := zd_at zhX9_few_0 13 rfl
theorem dX9_few_26 : decode cX9_few 26 = .ok (.invokestatic 91, 3) := zd_at zhX9_few_0 14 rfl
theorem dX9_few_29 : decode cX9_few 29 = .ok (.ifCond .ne 6, 3) := zd_at zhX9_few_0 15 rfl
theorem dX9_few_32 : decode cX9_few 32 = .ok (.bipush (-2), 2) := zd_at zhX9_few_0 16 rfl
theorem dX9_few_34 : decode cX9_few 34 = .ok (.ireturn, 1) := zd_at zhX9_few_0 17 rfl
theorem dX9_few_35 : decode cX9_few 35 = .ok (.aload_n 0, 1) := zd_at zhX9_few_0 18 rfl
theorem dX9_few_36 : decode cX9_few 36 = .ok (.iload_n 2, 1) := zd_at zhX9_few_0 19 rfl
theorem dX9_few_37 : decode cX9_few 37 = .ok (.invokevirtual 410, 3) := zd_at zhX9_few_0 20 rfl
theorem dX9_few_40 : decode cX9_few 40 = .ok (.iconst (-1), 1) := zd_at zhX9_few_0 21 rfl
theorem dX9_few_41 : decode cX9_few 41 = .ok (.istore 4, 2) := zd_at zhX9_few_0 22 rfl
theorem dX9_few_43 : decode cX9_few 43 = .ok (.iconst 0, 1) := zd_at zhX9_few_0 23 rfl
theorem dX9_few_44 : decode cX9_few 44 = .ok (.istore 5, 2) := zd_at zhX9_few_0 24 rfl
theorem dX9_few_46 : decode cX9_few 46 = .ok (.iload 5, 2) := zd_at zhX9_few_0 25 rfl
theorem dX9_few_48 : decode cX9_few 48 = .ok (.sipush 1024, 3) := zd_at zhX9_few_0 26 rfl
theorem dX9_few_51 : decode cX9_few 51 = .ok (.if_icmp .ge 85, 3) := zd_at zhX9_few_0 27 rfl
theorem dX9_few_54 : decode cX9_few 54 = .ok (.aload_n 0, 1) := zd_at zhX9_few_0 28 rfl
theorem dX9_few_55 : decode cX9_few 55 = .ok (.getfield 401, 3) := zd_at zhX9_few_0 29 rfl
theorem dX9_few_58 : decode cX9_few 58 = .ok (.istore 6, 2) := zd_at zhX9_few_0 30 rfl
theorem dX9_few_60 : decode cX9_few 60 = .ok (.iconst 0, 1) := zd_at zhX9_few_0 31 rfl
theorem dX9_few_61 : decode cX9_few 61 = .ok (.istore 7, 2) := zd_at zhX9_few_0 32 rfl
theorem dX9_few_63 : decode cX9_few 63 = .ok (.iload 7, 2) := zd_at zhX9_few_0 33 rfl
theorem dX9_few_65 : decode cX9_few 65 = .ok (.bipush 10, 2) := zd_at zhX9_few_0 34 rfl
theorem dX9_few_67 : decode cX9_few 67 = .ok (.if_icmp .ge 34, 3) := zd_at zhX9_few_0 35 rfl
theorem dX9_few_70 : decode cX9_few 70 = .ok (.iload 6, 2) := zd_at zhX9_few_0 36 rfl
theorem dX9_few_72 : decode cX9_few 72 = .ok (.iload 5, 2) := zd_at zhX9_few_0 37 rfl
theorem dX9_few_74 : decode cX9_few 74 = .ok (.iload 7, 2) := zd_at zhX9_few_0 38 rfl
theorem dX9_few_76 : decode cX9_few 76 = .ok (.ishr, 1) := zd_at zhX9_few_0 39 rfl
def ziX9_few_77 : List (Nat × Instr × Nat) := [(77, .iconst 1, 1), (78, .iand, 1), (79, .aload_n 0, 1), (80, .getfield 41, 3), (83, .bipush 10, 2), (85, .iload_n 1, 1), (86, .imul, 1), (87, .iload 7, 2), (89, .iadd, 1), (90, .iaload, 1), (91, .imul, 1), (92, .isub, 1), (93, .istore 6, 2), (95, .iinc 7 1, 3), (98, .goto (-35), 3), (101, .iload 6, 2), (103, .iload_n 3, 1), (104, .if_icmp .gt 26, 3), (107, .iload 4, 2), (109, .iconst (-1), 1), (110, .if_icmp .eq 16, 3), (113, .iload 5, 2), (115, .invokestatic 415, 3), (118, .iload 4, 2), (120, .invokestatic 415, 3), (123, .if_icmp .ge 7, 3), (126, .iload 5, 2), (128, .istore 4, 2), (130, .iinc 5 1, 3), (133, .goto (-87), 3), (136, .iload 4, 2), (138, .ireturn, 1)]
theorem zhX9_few_77 : zd_chk (cX9_few.data.toList.drop 77) 77 ziX9_few_77 = true := by decide +kernel
theorem dX9_few_77 : decode cX9_few 77 = .ok (.iconst 1, 1) := zd_at zhX9_few_77 0 rfl
theorem dX9_few_78 : decode cX9_few 78 = .ok (.iand, 1) := zd_at zhX9_few_77 1 rfl
theorem dX9_few_79 : decode cX9_few 79 = .ok (.aload_n 0, 1) := zd_at zhX9_few_77 2 rfl
theorem dX9_few_80 : decode cX9_few 80 = .ok (.getfield 41, 3) := zd_at zhX9_few_77 3 rfl
theorem dX9_few_83 : decode cX9_few 83 = .ok (.bipush 10, 2) := zd_at zhX9_few_77 4 rfl
theorem dX9_few_85 : decode cX9_few 85 = .ok (.iload_n 1, 1) := zd_at zhX9_few_77 5 rfl
theorem dX9_few_86 : decode cX9_few 86 = .ok (.imul, 1) := zd_at zhX9_few_77 6 rfl
theorem dX9_few_87 : decode cX9_few 87 = .ok (.iload 7, 2) := zd_at zhX9_few_77 7 rfl
theorem dX9_few_89 : decode cX9_few 89 = .ok (.iadd, 1) := zd_at zhX9_few_77 8 rfl
theorem dX9_few_90 : decode cX9_few 90 = .ok (.iaload, 1) := zd_at zhX9_few_77 9 rfl
theorem dX9_few_91 : decode cX9_few 91 = .ok (.imul, 1) := zd_at zhX9_few_77 10 rfl
theorem dX9_few_92 : decode cX9_few 92 = .ok (.isub, 1) := zd_at zhX9_few_77 11 rfl
theorem dX9_few_93 : decode cX9_few 93 = .ok (.istore 6, 2) := zd_at zhX9_few_77 12 rfl
theorem dX9_few_95 : decode cX9_few 95 = .ok (.iinc 7 1, 3) := zd_at zhX9_few_77 13 rfl
theorem dX9_few_98 : decode cX9_few 98 = .ok (.goto (-35), 3) := zd_at zhX9_few_77 14 rfl
theorem dX9_few_101 : decode cX9_few 101 = .ok (.iload 6, 2) := zd_at zhX9_few_77 15 rfl
theorem dX9_few_103 : decode cX9_few 103 = .ok (.iload_n 3, 1) := zd_at zhX9_few_77 16 rfl
theorem dX9_few_104 : decode cX9_few 104 = .ok (.if_icmp .gt 26, 3) := zd_at zhX9_few_77 17 rfl
theorem dX9_few_107 : decode cX9_few 107 = .ok (.iload 4, 2) := zd_at zhX9_few_77 18 rfl
theorem dX9_few_109 : decode cX9_few 109 = .ok (.iconst (-1), 1) := zd_at zhX9_few_77 19 rfl
theorem dX9_few_110 : decode cX9_few 110 = .ok (.if_icmp .eq 16, 3) := zd_at zhX9_few_77 20 rfl
theorem dX9_few_113 : decode cX9_few 113 = .ok (.iload 5, 2) := zd_at zhX9_few_77 21 rfl
theorem dX9_few_115 : decode cX9_few 115 = .ok (.invokestatic 415, 3) := zd_at zhX9_few_77 22 rfl
theorem dX9_few_118 : decode cX9_few 118 = .ok (.iload 4, 2) := zd_at zhX9_few_77 23 rfl
theorem dX9_few_120 : decode cX9_few 120 = .ok (.invokestatic 415, 3) := zd_at zhX9_few_77 24 rfl
theorem dX9_few_123 : decode cX9_few 123 = .ok (.if_icmp .ge 7, 3) := zd_at zhX9_few_77 25 rfl
theorem dX9_few_126 : decode cX9_few 126 = .ok (.iload 5, 2) := zd_at zhX9_few_77 26 rfl
theorem dX9_few_128 : decode cX9_few 128 = .ok (.istore 4, 2) := zd_at zhX9_few_77 27 rfl
theorem dX9_few_130 : decode cX9_few 130 = .ok (.iinc 5 1, 3) := zd_at zhX9_few_77 28 rfl
theorem dX9_few_133 : decode cX9_few 133 = .ok (.goto (-87), 3) := zd_at zhX9_few_77 29 rfl
theorem dX9_few_136 : decode cX9_few 136 = .ok (.iload 4, 2) := zd_at zhX9_few_77 30 rfl
theorem dX9_few_138 : decode cX9_few 138 = .ok (.ireturn, 1) := zd_at zhX9_few_77 31 rfl
def ziX9_shameByKiss_0 : List (Nat × Instr × Nat) := [(0, .iconst 0, 1), (1, .istore 4, 2), (3, .iload 4, 2), (5, .bipush 50, 2), (7, .if_icmp .ge 37, 3), (10, .aload_n 0, 1), (11, .getfield 50, 3), (14, .iload 4, 2), (16, .aload_n 0, 1), (17, .getfield 32, 3), (20, .iload 4, 2), (22, .iaload, 1), (23, .iastore, 1), (24, .aload_n 0, 1), (25, .getfield 53, 3), (28, .iload 4, 2), (30, .aload_n 0, 1), (31, .getfield 35, 3), (34, .iload 4, 2), (36, .iaload, 1), (37, .iastore, 1), (38, .iinc 4 1, 3), (41, .goto (-38), 3), (44, .aload_n 0, 1), (45, .iload_n 1, 1), (46, .iload_n 2, 1), (47, .invokevirtual 367, 3), (50, .pop, 1), (51, .aload_n 0, 1), (52, .iload_n 3, 1), (53, .invokevirtual 410, 3), (56, .iconst 0, 1), (57, .istore 4, 2), (59, .iload 4, 2), (61, .bipush 50, 2), (63, .if_icmp .ge 37, 3), (66, .aload_n 0, 1), (67, .getfield 32, 3), (70, .iload 4, 2), (72, .aload_n 0, 1)]
theorem zhX9_shameByKiss_0 : zd_chk (cX9_shameByKiss.data.toList.drop 0) 0 ziX9_shameByKiss_0 = true := by decide +kernel
theorem dX9_shameByKiss_0 : decode cX9_shameByKiss 0 = .ok (.iconst 0, 1) := zd_at zhX9_shameByKiss_0 0 rfl
theorem dX9_shameByKiss_1 : decode cX9_shameByKiss 1 = .ok (.istore 4, 2) := zd_at zhX9_shameByKiss_0 1 rfl
theorem dX9_shameByKiss_3 : decode cX9_shameByKiss 3 = .ok (.iload 4, 2) := zd_at zhX9_shameByKiss_0 2 rfl
theorem dX9_shameByKiss_5 : decode cX9_shameByKiss 5 = .ok (.bipush 50, 2) := zd_at zhX9_shameByKiss_0 3 rfl
theorem dX9_shameByKiss_7 : decode cX9_shameByKiss 7 = .ok (.if_icmp .ge 37, 3) := zd_at zhX9_shameByKiss_0 4 rfl
theorem dX9_shameByKiss_10 : decode cX9_shameByKiss 10 = .ok (.aload_n 0, 1) := zd_at zhX9_shameByKiss_0 5 rfl
theorem dX9_shameByKiss_11 : decode cX9_shameByKiss 11 = .ok (.getfield 50, 3) := zd_at zhX9_shameByKiss_0 6 rfl
theorem dX9_shameByKiss_14 : decode cX9_shameByKiss 14 = .ok (.iload 4, 2) := zd_at zhX9_shameByKiss_0 7 rfl
theorem dX9_shameByKiss_16 : decode cX9_shameByKiss 16 = .ok (.aload_n 0, 1) := zd_at zhX9_shameByKiss_0 8 rfl
theorem dX9_shameByKiss_17 : decode cX9_shameByKiss 17 = .ok (.getfield 32, 3) := zd_at zhX9_shameByKiss_0 9 rfl
theorem dX9_shameByKiss_20 : decode cX9_shameByKiss 20 = .ok (.iload 4, 2) := zd_at zhX9_shameByKiss_0 10 rfl
theorem dX9_shameByKiss_22 : decode cX9_shameByKiss 22 = .ok (.iaload, 1) := zd_at zhX9_shameByKiss_0 11 rfl
theorem dX9_shameByKiss_23 : decode cX9_shameByKiss 23 = .ok (.iastore, 1) := zd_at zhX9_shameByKiss_0 12 rfl
theorem dX9_shameByKiss_24 : decode cX9_shameByKiss 24 = .ok (.aload_n 0, 1) := zd_at zhX9_shameByKiss_0 13 rfl
theorem dX9_shameByKiss_25 : decode cX9_shameByKiss 25 = .ok (.getfield 53, 3) := zd_at zhX9_shameByKiss_0 14 rfl
theorem dX9_shameByKiss_28 : decode cX9_shameByKiss 28 = .ok (.iload 4, 2) := zd_at zhX9_shameByKiss_0 15 rfl
theorem dX9_shameByKiss_30 : decode cX9_shameByKiss 30 = .ok (.aload_n 0, 1) := zd_at zhX9_shameByKiss_0 16 rfl
theorem dX9_shameByKiss_31 : decode cX9_shameByKiss 31 = .ok (.getfield 35, 3) := zd_at zhX9_shameByKiss_0 17 rfl
theorem dX9_shameByKiss_34 : decode cX9_shameByKiss 34 = .ok (.iload 4, 2) := zd_at zhX9_shameByKiss_0 18 rfl
theorem dX9_shameByKiss_36 : decode cX9_shameByKiss 36 = .ok (.iaload, 1) := zd_at zhX9_shameByKiss_0 19 rfl
theorem dX9_shameByKiss_37 : decode cX9_shameByKiss 37 = .ok (.iastore, 1) := zd_at zhX9_shameByKiss_0 20 rfl
theorem dX9_shameByKiss_38 : decode cX9_shameByKiss 38 = .ok (.iinc 4 1, 3) := zd_at zhX9_shameByKiss_0 21 rfl
theorem dX9_shameByKiss_41 : decode cX9_shameByKiss 41 = .ok (.goto (-38), 3) := zd_at zhX9_shameByKiss_0 22 rfl
theorem dX9_shameByKiss_44 : decode cX9_shameByKiss 44 = .ok (.aload_n 0, 1) := zd_at zhX9_shameByKiss_0 23 rfl
theorem dX9_shameByKiss_45 : decode cX9_shameByKiss 45 = .ok (.iload_n 1, 1) := zd_at zhX9_shameByKiss_0 24 rfl
theorem dX9_shameByKiss_46 : decode cX9_shameByKiss 46 = .ok (.iload_n 2, 1) := zd_at zhX9_shameByKiss_0 25 rfl
theorem dX9_shameByKiss_47 : decode cX9_shameByKiss 47 = .ok (.invokevirtual 367, 3) := zd_at zhX9_shameByKiss_0 26 rfl
theorem dX9_shameByKiss_50 : decode cX9_shameByKiss 50 = .ok (.pop, 1) := zd_at zhX9_shameByKiss_0 27 rfl
theorem dX9_shameByKiss_51 : decode cX9_shameByKiss 51 = .ok (.aload_n 0, 1) := zd_at zhX9_shameByKiss_0 28 rfl
theorem dX9_shameByKiss_52 : decode cX9_shameByKiss 52 = .ok (.iload_n 3, 1) := zd_at zhX9_shameByKiss_0 29 rfl
theorem dX9_shameByKiss_53 : decode cX9_shameByKiss 53 = .ok (.invokevirtual 410, 3) := zd_at zhX9_shameByKiss_0 30 rfl
theorem dX9_shameByKiss_56 : decode cX9_shameByKiss 56 = .ok (.iconst 0, 1) := zd_at zhX9_shameByKiss_0 31 rfl
theorem dX9_shameByKiss_57 : decode cX9_shameByKiss 57 = .ok (.istore 4, 2) := zd_at zhX9_shameByKiss_0 32 rfl
theorem dX9_shameByKiss_59 : decode cX9_shameByKiss 59 = .ok (.iload 4, 2) := zd_at zhX9_shameByKiss_0 33 rfl
theorem dX9_shameByKiss_61 : decode cX9_shameByKiss 61 = .ok (.bipush 50, 2) := zd_at zhX9_shameByKiss_0 34 rfl
theorem dX9_shameByKiss_63 : decode cX9_shameByKiss 63 = .ok (.if_icmp .ge 37, 3) := zd_at zhX9_shameByKiss_0 35 rfl
theorem dX9_shameByKiss_66 : decode cX9_shameByKiss 66 = .ok (.aload_n 0, 1) := zd_at zhX9_shameByKiss_0 36 rfl
theorem dX9_shameByKiss_67 : decode cX9_shameByKiss 67 = .ok (.getfield 32, 3) := zd_at zhX9_shameByKiss_0 37 rfl
theorem dX9_shameByKiss_70 : decode cX9_shameByKiss 70 = .ok (.iload 4, 2) := zd_at zhX9_shameByKiss_0 38 rfl
theorem dX9_shameByKiss_72 : decode cX9_shameByKiss 72 = .ok (.aload_n 0, 1) := zd_at zhX9_shameByKiss_0 39 rfl
def ziX9_shameByKiss_73 : List (Nat × Instr × Nat) := [(73, .getfield 50, 3), (76, .iload 4, 2), (78, .iaload, 1), (79, .iastore, 1), (80, .aload_n 0, 1), (81, .getfield 35, 3), (84, .iload 4, 2), (86, .aload_n 0, 1), (87, .getfield 53, 3), (90, .iload 4, 2), (92, .iaload, 1), (93, .iastore, 1), (94, .iinc 4 1, 3), (97, .goto (-38), 3), (100, .aload_n 0, 1), (101, .getfield 401, 3), (104, .ireturn, 1)]
theorem zhX9_shameByKiss_73 : zd_chk (cX9_shameByKiss.data.toList.drop 73) 73 ziX9_shameByKiss_73 = true := by decide +kernel
theorem dX9_shameByKiss_73 : decode cX9_shameByKiss 73 = .ok (.getfield 50, 3) := zd_at zhX9_shameByKiss_73 0 rfl
theorem dX9_shameByKiss_76 : decode cX9_shameByKiss 76 = .ok (.iload 4, 2) := zd_at zhX9_shameByKiss_73 1 rfl
theorem dX9_shameByKiss_78 : decode cX9_shameByKiss 78 = .ok (.iaload, 1) := zd_at zhX9_shameByKiss_73 2 rfl
theorem dX9_shameByKiss_79 : decode cX9_shameByKiss 79 = .ok (.iastore, 1) := zd_at zhX9_shameByKiss_73 3 rfl
theorem dX9_shameByKiss_80 : decode cX9_shameByKiss 80 = .ok (.aload_n 0, 1) := zd_at zhX9_shameByKiss_73 4 rfl
theorem dX9_shameByKiss_81 : decode cX9_shameByKiss 81 = .ok (.getfield 35, 3) := zd_at zhX9_shameByKiss_73 5 rfl
theorem dX9_shameByKiss_84 : decode cX9_shameByKiss 84 = .ok (.iload 4, 2) := zd_at zhX9_shameByKiss_73 6 rfl
theorem dX9_shameByKiss_86 : decode cX9_shameByKiss 86 = .ok (.aload_n 0, 1) := zd_at zhX9_shameByKiss_73 7 rfl
theorem dX9_shameByKiss_87 : decode cX9_shameByKiss 87 = .ok (.getfield 53, 3) := zd_at zhX9_shameByKiss_73 8 rfl
theorem dX9_shameByKiss_90 : decode cX9_shameByKiss 90 = .ok (.iload 4, 2) := zd_at zhX9_shameByKiss_73 9 rfl
theorem dX9_shameByKiss_92 : decode cX9_shameByKiss 92 = .ok (.iaload, 1) := zd_at zhX9_shameByKiss_73 10 rfl
theorem dX9_shameByKiss_93 : decode cX9_shameByKiss 93 = .ok (.iastore, 1) := zd_at zhX9_shameByKiss_73 11 rfl
theorem dX9_shameByKiss_94 : decode cX9_shameByKiss 94 = .ok (.iinc 4 1, 3) := zd_at zhX9_shameByKiss_73 12 rfl
theorem dX9_shameByKiss_97 : decode cX9_shameByKiss 97 = .ok (.goto (-38), 3) := zd_at zhX9_shameByKiss_73 13 rfl
theorem dX9_shameByKiss_100 : decode cX9_shameByKiss 100 = .ok (.aload_n 0, 1) := zd_at zhX9_shameByKiss_73 14 rfl
theorem dX9_shameByKiss_101 : decode cX9_shameByKiss 101 = .ok (.getfield 401, 3) := zd_at zhX9_shameByKiss_73 15 rfl
theorem dX9_shameByKiss_104 : decode cX9_shameByKiss 104 = .ok (.ireturn, 1) := zd_at zhX9_shameByKiss_73 16 rfl
def ziX9_kissing_0 : List (Nat × Instr × Nat) := [(0, .iload_n 1, 1), (1, .i2l, 1), (2, .lconst 0, 1), (3, .ldc2_w 242, 3), (6, .invokestatic 91, 3), (9, .ifCond .eq 13, 3), (12, .iload_n 2, 1), (13, .i2l, 1), (14, .lconst 0, 1), (15, .lconst 1, 1), (16, .invokestatic 91, 3), (19, .ifCond .ne 6, 3), (22, .bipush (-2), 2), (24, .ireturn, 1), (25, .aload_n 0, 1), (26, .iload_n 1, 1), (27, .invokevirtual 410, 3), (30, .aload_n 0, 1), (31, .getfield 401, 3), (34, .istore_n 3, 1), (35, .iconst (-1), 1), (36, .istore 4, 2), (38, .iconst 0, 1), (39, .istore 5, 2), (41, .iload 5, 2), (43, .aload_n 0, 1), (44, .getfield 88, 3), (47, .if_icmp .ge 68, 3), (50, .iconst 0, 1), (51, .istore 6, 2), (53, .iload 6, 2), (55, .aload_n 0, 1), (56, .getfield 88, 3), (59, .if_icmp .ge 50, 3), (62, .iload 5, 2), (64, .iload 6, 2), (66, .if_icmp .ne 7, 3), (69, .iload_n 3, 1), (70, .goto 12, 3), (73, .aload_n 0, 1)]
theorem zhX9_kissing_0 : zd_chk (cX9_kissing.data.toList.drop 0) 0 ziX9_kissing_0 = true := by decide +kernel
theorem dX9_kissing_0 : decode cX9_kissing 0 = .ok (.iload_n 1, 1) := zd_at zhX9_kissing_0 0 rfl
theorem dX9_kissing_1 : decode cX9_kissing 1 = .ok (.i2l, 1) := zd_at zhX9_kissing_0 1 rfl
theorem dX9_kissing_2 : decode cX9_kissing 2 = .ok (.lconst 0, 1) := zd_at zhX9_kissing_0 2 rfl
theorem dX9_kissing_3 : decode cX9_kissing 3 = .ok (.ldc2_w 242, 3) := zd_at zhX9_kissing_0 3 rfl
theorem dX9_kissing_6 : decode cX9_kissing 6 = .ok (.invokestatic 91, 3) := zd_at zhX9_kissing_0 4 rfl
theorem dX9_kissing_9 : decode cX9_kissing 9 = .ok (.ifCond .eq 13, 3) := zd_at zhX9_kissing_0 5 rfl
theorem dX9_kissing_12 : decode cX9_kissing 12 = .ok (.iload_n 2, 1) := zd_at zhX9_kissing_0 6 rfl
theorem dX9_kissing_13 : decode cX9_kissing 13 = .ok (.i2l, 1) := zd_at zhX9_kissing_0 7 rfl
theorem dX9_kissing_14 : decode cX9_kissing 14 = .ok (.lconst 0, 1) := zd_at zhX9_kissing_0 8 rfl
theorem dX9_kissing_15 : decode cX9_kissing 15 = .ok (.lconst 1, 1) := zd_at zhX9_kissing_0 9 rfl
theorem dX9_kissing_16 : decode cX9_kissing 16 = .ok (.invokestatic 91, 3) := zd_at zhX9_kissing_0 10 rfl
theorem dX9_kissing_19 : decode cX9_kissing 19 = .ok (.ifCond .ne 6, 3) := zd_at zhX9_kissing_0 11 rfl
theorem dX9_kissing_22 : decode cX9_kissing 22 = .ok (.bipush (-2), 2) := zd_at zhX9_kissing_0 12 rfl
theorem dX9_kissing_24 : decode cX9_kissing 24 = .ok (.ireturn, 1) := zd_at zhX9_kissing_0 13 rfl
theorem dX9_kissing_25 : decode cX9_kissing 25 = .ok (.aload_n 0, 1) := zd_at zhX9_kissing_0 14 rfl
theorem dX9_kissing_26 : decode cX9_kissing 26 = .ok (.iload_n 1, 1) := zd_at zhX9_kissing_0 15 rfl
theorem dX9_kissing_27 : decode cX9_kissing 27 = .ok (.invokevirtual 410, 3) := zd_at zhX9_kissing_0 16 rfl
theorem dX9_kissing_30 : decode cX9_kissing 30 = .ok (.aload_n 0, 1) := zd_at zhX9_kissing_0 17 rfl
theorem dX9_kissing_31 : decode cX9_kissing 31 = .ok (.getfield 401, 3) := zd_at zhX9_kissing_0 18 rfl
theorem dX9_kissing_34 : decode cX9_kissing 34 = .ok (.istore_n 3, 1) := zd_at zhX9_kissing_0 19 rfl
theorem dX9_kissing_35 : decode cX9_kissing 35 = .ok (.iconst (-1), 1) := zd_at zhX9_kissing_0 20 rfl
theorem dX9_kissing_36 : decode cX9_kissing 36 = .ok (.istore 4, 2) := zd_at zhX9_kissing_0 21 rfl
theorem dX9_kissing_38 : decode cX9_kissing 38 = .ok (.iconst 0, 1) := zd_at zhX9_kissing_0 22 rfl
theorem dX9_kissing_39 : decode cX9_kissing 39 = .ok (.istore 5, 2) := zd_at zhX9_kissing_0 23 rfl
theorem dX9_kissing_41 : decode cX9_kissing 41 = .ok (.iload 5, 2) := zd_at zhX9_kissing_0 24 rfl
theorem dX9_kissing_43 : decode cX9_kissing 43 = .ok (.aload_n 0, 1) := zd_at zhX9_kissing_0 25 rfl
theorem dX9_kissing_44 : decode cX9_kissing 44 = .ok (.getfield 88, 3) := zd_at zhX9_kissing_0 26 rfl
theorem dX9_kissing_47 : decode cX9_kissing 47 = .ok (.if_icmp .ge 68, 3) := zd_at zhX9_kissing_0 27 rfl
theorem dX9_kissing_50 : decode cX9_kissing 50 = .ok (.iconst 0, 1) := zd_at zhX9_kissing_0 28 rfl
theorem dX9_kissing_51 : decode cX9_kissing 51 = .ok (.istore 6, 2) := zd_at zhX9_kissing_0 29 rfl
theorem dX9_kissing_53 : decode cX9_kissing 53 = .ok (.iload 6, 2) := zd_at zhX9_kissing_0 30 rfl
theorem dX9_kissing_55 : decode cX9_kissing 55 = .ok (.aload_n 0, 1) := zd_at zhX9_kissing_0 31 rfl
theorem dX9_kissing_56 : decode cX9_kissing 56 = .ok (.getfield 88, 3) := zd_at zhX9_kissing_0 32 rfl
theorem dX9_kissing_59 : decode cX9_kissing 59 = .ok (.if_icmp .ge 50, 3) := zd_at zhX9_kissing_0 33 rfl
theorem dX9_kissing_62 : decode cX9_kissing 62 = .ok (.iload 5, 2) := zd_at zhX9_kissing_0 34 rfl
theorem dX9_kissing_64 : decode cX9_kissing 64 = .ok (.iload 6, 2) := zd_at zhX9_kissing_0 35 rfl
theorem dX9_kissing_66 : decode cX9_kissing 66 = .ok (.if_icmp .ne 7, 3) := zd_at zhX9_kissing_0 36 rfl
theorem dX9_kissing_69 : decode cX9_kissing 69 = .ok (.iload_n 3, 1) := zd_at zhX9_kissing_0 37 rfl
theorem dX9_kissing_70 : decode cX9_kissing 70 = .ok (.goto 12, 3) := zd_at zhX9_kissing_0 38 rfl
theorem dX9_kissing_73 : decode cX9_kissing 73 = .ok (.aload_n 0, 1) := zd_at zhX9_kissing_0 39 rfl
def ziX9_kissing_74 : List (Nat × Instr × Nat) := [(74, .iload 5, 2), (76, .iload 6, 2), (78, .iload_n 1, 1), (79, .invokevirtual 418, 3), (82, .istore 7, 2), (84, .iload 7, 2), (86, .iload_n 3, 1), (87, .if_icmp .ge 16, 3), (90, .bipush 10, 2), (92, .iload 5, 2), (94, .imul, 1), (95, .iload 6, 2), (97, .iadd, 1), (98, .istore 4, 2), (100, .iload 7, 2), (102, .istore_n 3, 1), (103, .iinc 6 1, 3), (106, .goto (-53), 3), (109, .iinc 5 1, 3), (112, .goto (-71), 3), (115, .iload_n 2, 1), (116, .ifCond .ne 8, 3), (119, .iload 4, 2), (121, .goto 4, 3), (124, .iload_n 3, 1), (125, .ireturn, 1)]
theorem zhX9_kissing_74 : zd_chk (cX9_kissing.data.toList.drop 74) 74 ziX9_kissing_74 = true := by decide +kernel
theorem dX9_kissing_74 : decode cX9_kissing 74 = .ok (.iload 5, 2) := zd_at zhX9_kissing_74 0 rfl
theorem dX9_kissing_76 : decode cX9_kissing 76 = .ok (.iload 6, 2) := zd_at zhX9_kissing_74 1 rfl
theorem dX9_kissing_78 : decode cX9_kissing 78 = .ok (.iload_n 1, 1) := zd_at zhX9_kissing_74 2 rfl
theorem dX9_kissing_79 : decode cX9_kissing 79 = .ok (.invokevirtual 418, 3) := zd_at zhX9_kissing_74 3 rfl
theorem dX9_kissing_82 : decode cX9_kissing 82 = .ok (.istore 7, 2) := zd_at zhX9_kissing_74 4 rfl
theorem dX9_kissing_84 : decode cX9_kissing 84 = .ok (.iload 7, 2) := zd_at zhX9_kissing_74 5 rfl
theorem dX9_kissing_86 : decode cX9_kissing 86 = .ok (.iload_n 3, 1) := zd_at zhX9_kissing_74 6 rfl
theorem dX9_kissing_87 : decode cX9_kissing 87 = .ok (.if_icmp .ge 16, 3) := zd_at zhX9_kissing_74 7 rfl
theorem dX9_kissing_90 : decode cX9_kissing 90 = .ok (.bipush 10, 2) := zd_at zhX9_kissing_74 8 rfl
theorem dX9_kissing_92 : decode cX9_kissing 92 = .ok (.iload 5, 2) := zd_at zhX9_kissing_74 9 rfl
theorem dX9_kissing_94 : decode cX9_kissing 94 = .ok (.imul, 1) := zd_at zhX9_kissing_74 10 rfl
theorem dX9_kissing_95 : decode cX9_kissing 95 = .ok (.iload 6, 2) := zd_at zhX9_kissing_74 11 rfl
theorem dX9_kissing_97 : decode cX9_kissing 97 = .ok (.iadd, 1) := zd_at zhX9_kissing_74 12 rfl
theorem dX9_kissing_98 : decode cX9_kissing 98 = .ok (.istore 4, 2) := zd_at zhX9_kissing_74 13 rfl
theorem dX9_kissing_100 : decode cX9_kissing 100 = .ok (.iload 7, 2) := zd_at zhX9_kissing_74 14 rfl
theorem dX9_kissing_102 : decode cX9_kissing 102 = .ok (.istore_n 3, 1) := zd_at zhX9_kissing_74 15 rfl
theorem dX9_kissing_103 : decode cX9_kissing 103 = .ok (.iinc 6 1, 3) := zd_at zhX9_kissing_74 16 rfl
theorem dX9_kissing_106 : decode cX9_kissing 106 = .ok (.goto (-53), 3) := zd_at zhX9_kissing_74 17 rfl
theorem dX9_kissing_109 : decode cX9_kissing 109 = .ok (.iinc 5 1, 3) := zd_at zhX9_kissing_74 18 rfl
theorem dX9_kissing_112 : decode cX9_kissing 112 = .ok (.goto (-71), 3) := zd_at zhX9_kissing_74 19 rfl
theorem dX9_kissing_115 : decode cX9_kissing 115 = .ok (.iload_n 2, 1) := zd_at zhX9_kissing_74 20 rfl
theorem dX9_kissing_116 : decode cX9_kissing 116 = .ok (.ifCond .ne 8, 3) := zd_at zhX9_kissing_74 21 rfl
theorem dX9_kissing_119 : decode cX9_kissing 119 = .ok (.iload 4, 2) := zd_at zhX9_kissing_74 22 rfl
theorem dX9_kissing_121 : decode cX9_kissing 121 = .ok (.goto 4, 3) := zd_at zhX9_kissing_74 23 rfl
theorem dX9_kissing_124 : decode cX9_kissing 124 = .ok (.iload_n 3, 1) := zd_at zhX9_kissing_74 24 rfl
theorem dX9_kissing_125 : decode cX9_kissing 125 = .ok (.ireturn, 1) := zd_at zhX9_kissing_74 25 rfl
def ziX9_church_0 : List (Nat × Instr × Nat) := [(0, .iload_n 1, 1), (1, .i2l, 1), (2, .lconst 0, 1), (3, .ldc2_w 242, 3), (6, .invokestatic 91, 3), (9, .ifCond .eq 13, 3), (12, .iload_n 2, 1), (13, .i2l, 1), (14, .lconst 0, 1), (15, .lconst 1, 1), (16, .invokestatic 91, 3), (19, .ifCond .ne 6, 3), (22, .bipush (-2), 2), (24, .ireturn, 1), (25, .aload_n 0, 1), (26, .getfield 23, 3), (29, .istore_n 3, 1), (30, .iconst (-1), 1), (31, .istore 4, 2), (33, .iconst 0, 1), (34, .istore 5, 2), (36, .iconst 0, 1), (37, .istore 6, 2), (39, .iload 6, 2), (41, .bipush 24, 2), (43, .if_icmp .ge 47, 3), (46, .aload_n 0, 1), (47, .iconst 1, 1), (48, .iload 6, 2), (50, .ishl, 1), (51, .putfield 23, 3), (54, .aload_n 0, 1), (55, .iload_n 1, 1), (56, .invokevirtual 410, 3), (59, .iload 4, 2), (61, .iconst (-1), 1), (62, .if_icmp .eq 12, 3), (65, .aload_n 0, 1), (66, .getfield 401, 3), (69, .iload 5, 2)]
theorem zhX9_church_0 : zd_chk (cX9_church.data.toList.drop 0) 0 ziX9_church_0 = true := by decide +kernel
theorem dX9_church_0 : decode cX9_church 0 = .ok (.iload_n 1, 1) := zd_at zhX9_church_0 0 rfl
theorem dX9_church_1 : decode cX9_church 1 = .ok (.i2l, 1) := zd_at zhX9_church_0 1 rfl
theorem dX9_church_2 : decode cX9_church 2 = .ok (.lconst 0, 1) := zd_at zhX9_church_0 2 rfl
theorem dX9_church_3 : decode cX9_church 3 = .ok (.ldc2_w 242, 3) := zd_at zhX9_church_0 3 rfl
theorem dX9_church_6 : decode cX9_church 6 = .ok (.invokestatic 91, 3) := zd_at zhX9_church_0 4 rfl
theorem dX9_church_9 : decode cX9_church 9 = .ok (.ifCond .eq 13, 3) := zd_at zhX9_church_0 5 rfl
theorem dX9_church_12 : decode cX9_church 12 = .ok (.iload_n 2, 1) := zd_at zhX9_church_0 6 rfl
theorem dX9_church_13 : decode cX9_church 13 = .ok (.i2l, 1) := zd_at zhX9_church_0 7 rfl
theorem dX9_church_14 : decode cX9_church 14 = .ok (.lconst 0, 1) := zd_at zhX9_church_0 8 rfl
theorem dX9_church_15 : decode cX9_church 15 = .ok (.lconst 1, 1) := zd_at zhX9_church_0 9 rfl
theorem dX9_church_16 : decode cX9_church 16 = .ok (.invokestatic 91, 3) := zd_at zhX9_church_0 10 rfl
theorem dX9_church_19 : decode cX9_church 19 = .ok (.ifCond .ne 6, 3) := zd_at zhX9_church_0 11 rfl
theorem dX9_church_22 : decode cX9_church 22 = .ok (.bipush (-2), 2) := zd_at zhX9_church_0 12 rfl
theorem dX9_church_24 : decode cX9_church 24 = .ok (.ireturn, 1) := zd_at zhX9_church_0 13 rfl
theorem dX9_church_25 : decode cX9_church 25 = .ok (.aload_n 0, 1) := zd_at zhX9_church_0 14 rfl
theorem dX9_church_26 : decode cX9_church 26 = .ok (.getfield 23, 3) := zd_at zhX9_church_0 15 rfl
theorem dX9_church_29 : decode cX9_church 29 = .ok (.istore_n 3, 1) := zd_at zhX9_church_0 16 rfl
theorem dX9_church_30 : decode cX9_church 30 = .ok (.iconst (-1), 1) := zd_at zhX9_church_0 17 rfl
theorem dX9_church_31 : decode cX9_church 31 = .ok (.istore 4, 2) := zd_at zhX9_church_0 18 rfl
theorem dX9_church_33 : decode cX9_church 33 = .ok (.iconst 0, 1) := zd_at zhX9_church_0 19 rfl
theorem dX9_church_34 : decode cX9_church 34 = .ok (.istore 5, 2) := zd_at zhX9_church_0 20 rfl
theorem dX9_church_36 : decode cX9_church 36 = .ok (.iconst 0, 1) := zd_at zhX9_church_0 21 rfl
theorem dX9_church_37 : decode cX9_church 37 = .ok (.istore 6, 2) := zd_at zhX9_church_0 22 rfl
theorem dX9_church_39 : decode cX9_church 39 = .ok (.iload 6, 2) := zd_at zhX9_church_0 23 rfl
theorem dX9_church_41 : decode cX9_church 41 = .ok (.bipush 24, 2) := zd_at zhX9_church_0 24 rfl
theorem dX9_church_43 : decode cX9_church 43 = .ok (.if_icmp .ge 47, 3) := zd_at zhX9_church_0 25 rfl
theorem dX9_church_46 : decode cX9_church 46 = .ok (.aload_n 0, 1) := zd_at zhX9_church_0 26 rfl
theorem dX9_church_47 : decode cX9_church 47 = .ok (.iconst 1, 1) := zd_at zhX9_church_0 27 rfl
theorem dX9_church_48 : decode cX9_church 48 = .ok (.iload 6, 2) := zd_at zhX9_church_0 28 rfl
theorem dX9_church_50 : decode cX9_church 50 = .ok (.ishl, 1) := zd_at zhX9_church_0 29 rfl
theorem dX9_church_51 : decode cX9_church 51 = .ok (.putfield 23, 3) := zd_at zhX9_church_0 30 rfl
theorem dX9_church_54 : decode cX9_church 54 = .ok (.aload_n 0, 1) := zd_at zhX9_church_0 31 rfl
theorem dX9_church_55 : decode cX9_church 55 = .ok (.iload_n 1, 1) := zd_at zhX9_church_0 32 rfl
theorem dX9_church_56 : decode cX9_church 56 = .ok (.invokevirtual 410, 3) := zd_at zhX9_church_0 33 rfl
theorem dX9_church_59 : decode cX9_church 59 = .ok (.iload 4, 2) := zd_at zhX9_church_0 34 rfl
theorem dX9_church_61 : decode cX9_church 61 = .ok (.iconst (-1), 1) := zd_at zhX9_church_0 35 rfl
theorem dX9_church_62 : decode cX9_church 62 = .ok (.if_icmp .eq 12, 3) := zd_at zhX9_church_0 36 rfl
theorem dX9_church_65 : decode cX9_church 65 = .ok (.aload_n 0, 1) := zd_at zhX9_church_0 37 rfl
theorem dX9_church_66 : decode cX9_church 66 = .ok (.getfield 401, 3) := zd_at zhX9_church_0 38 rfl
theorem dX9_church_69 : decode cX9_church 69 = .ok (.iload 5, 2) := zd_at zhX9_church_0 39 rfl
def ziX9_church_71 : List (Nat × Instr × Nat) := [(71, .if_icmp .ge 13, 3), (74, .iload 6, 2), (76, .istore 4, 2), (78, .aload_n 0, 1), (79, .getfield 401, 3), (82, .istore 5, 2), (84, .iinc 6 1, 3), (87, .goto (-48), 3), (90, .aload_n 0, 1), (91, .iload_n 3, 1), (92, .putfield 23, 3), (95, .iload_n 2, 1), (96, .ifCond .ne 8, 3), (99, .iload 4, 2), (101, .goto 5, 3), (104, .iload 5, 2), (106, .ireturn, 1)]
theorem zhX9_church_71 : zd_chk (cX9_church.data.toList.drop 71) 71 ziX9_church_71 = true := by decide +kernel
theorem dX9_church_71 : decode cX9_church 71 = .ok (.if_icmp .ge 13, 3) := zd_at zhX9_church_71 0 rfl
theorem dX9_church_74 : decode cX9_church 74 = .ok (.iload 6, 2) := zd_at zhX9_church_71 1 rfl
theorem dX9_church_76 : decode cX9_church 76 = .ok (.istore 4, 2) := zd_at zhX9_church_71 2 rfl
theorem dX9_church_78 : decode cX9_church 78 = .ok (.aload_n 0, 1) := zd_at zhX9_church_71 3 rfl
theorem dX9_church_79 : decode cX9_church 79 = .ok (.getfield 401, 3) := zd_at zhX9_church_71 4 rfl
theorem dX9_church_82 : decode cX9_church 82 = .ok (.istore 5, 2) := zd_at zhX9_church_71 5 rfl
theorem dX9_church_84 : decode cX9_church 84 = .ok (.iinc 6 1, 3) := zd_at zhX9_church_71 6 rfl
theorem dX9_church_87 : decode cX9_church 87 = .ok (.goto (-48), 3) := zd_at zhX9_church_71 7 rfl
theorem dX9_church_90 : decode cX9_church 90 = .ok (.aload_n 0, 1) := zd_at zhX9_church_71 8 rfl
theorem dX9_church_91 : decode cX9_church 91 = .ok (.iload_n 3, 1) := zd_at zhX9_church_71 9 rfl
theorem dX9_church_92 : decode cX9_church 92 = .ok (.putfield 23, 3) := zd_at zhX9_church_71 10 rfl
theorem dX9_church_95 : decode cX9_church 95 = .ok (.iload_n 2, 1) := zd_at zhX9_church_71 11 rfl
theorem dX9_church_96 : decode cX9_church 96 = .ok (.ifCond .ne 8, 3) := zd_at zhX9_church_71 12 rfl
theorem dX9_church_99 : decode cX9_church 99 = .ok (.iload 4, 2) := zd_at zhX9_church_71 13 rfl
theorem dX9_church_101 : decode cX9_church 101 = .ok (.goto 5, 3) := zd_at zhX9_church_71 14 rfl
theorem dX9_church_104 : decode cX9_church 104 = .ok (.iload 5, 2) := zd_at zhX9_church_71 15 rfl
theorem dX9_church_106 : decode cX9_church 106 = .ok (.ireturn, 1) := zd_at zhX9_church_71 16 rfl
def ziX9_isRow_0 : List (Nat × Instr × Nat) := [(0, .aload_n 0, 1), (1, .getfield 78, 3), (4, .iload_n 1, 1), (5, .iaload, 1), (6, .istore_n 2, 1), (7, .aload_n 0, 1), (8, .getfield 78, 3), (11, .iload_n 1, 1), (12, .iconst 1, 1), (13, .iadd, 1), (14, .iaload, 1), (15, .istore_n 3, 1), (16, .aload_n 0, 1), (17, .getfield 78, 3), (20, .iload_n 1, 1), (21, .iconst 2, 1), (22, .iadd, 1), (23, .iaload, 1), (24, .istore 4, 2), (26, .aload_n 0, 1), (27, .getfield 78, 3), (30, .iload_n 1, 1), (31, .iconst 3, 1), (32, .iadd, 1), (33, .iaload, 1), (34, .istore 5, 2), (36, .iload_n 2, 1), (37, .iconst 3, 1), (38, .if_icmp .ne 23, 3), (41, .iload_n 3, 1), (42, .ifCond .ne 17, 3), (45, .iload 4, 2), (47, .ifCond .ne 12, 3), (50, .iload 5, 2), (52, .ifCond .ne 7, 3), (55, .iconst 1, 1), (56, .goto 4, 3), (59, .iconst 0, 1), (60, .ireturn, 1), (61, .iload_n 2, 1)]
theorem zhX9_isRow_0 : zd_chk (cX9_isRow.data.toList.drop 0) 0 ziX9_isRow_0 = true := by decide +kernel
theorem dX9_isRow_0 : decode cX9_isRow 0 = .ok (.aload_n 0, 1) := zd_at zhX9_isRow_0 0 rfl
theorem dX9_isRow_1 : decode cX9_isRow 1 = .ok (.getfield 78, 3) := zd_at zhX9_isRow_0 1 rfl
theorem dX9_isRow_4 : decode cX9_isRow 4 = .ok (.iload_n 1, 1) := zd_at zhX9_isRow_0 2 rfl
theorem dX9_isRow_5 : decode cX9_isRow 5 = .ok (.iaload, 1) := zd_at zhX9_isRow_0 3 rfl
theorem dX9_isRow_6 : decode cX9_isRow 6 = .ok (.istore_n 2, 1) := zd_at zhX9_isRow_0 4 rfl
theorem dX9_isRow_7 : decode cX9_isRow 7 = .ok (.aload_n 0, 1) := zd_at zhX9_isRow_0 5 rfl
theorem dX9_isRow_8 : decode cX9_isRow 8 = .ok (.getfield 78, 3) := zd_at zhX9_isRow_0 6 rfl
theorem dX9_isRow_11 : decode cX9_isRow 11 = .ok (.iload_n 1, 1) := zd_at zhX9_isRow_0 7 rfl
theorem dX9_isRow_12 : decode cX9_isRow 12 = .ok (.iconst 1, 1) := zd_at zhX9_isRow_0 8 rfl
theorem dX9_isRow_13 : decode cX9_isRow 13 = .ok (.iadd, 1) := zd_at zhX9_isRow_0 9 rfl
theorem dX9_isRow_14 : decode cX9_isRow 14 = .ok (.iaload, 1) := zd_at zhX9_isRow_0 10 rfl
theorem dX9_isRow_15 : decode cX9_isRow 15 = .ok (.istore_n 3, 1) := zd_at zhX9_isRow_0 11 rfl
theorem dX9_isRow_16 : decode cX9_isRow 16 = .ok (.aload_n 0, 1) := zd_at zhX9_isRow_0 12 rfl
theorem dX9_isRow_17 : decode cX9_isRow 17 = .ok (.getfield 78, 3) := zd_at zhX9_isRow_0 13 rfl
theorem dX9_isRow_20 : decode cX9_isRow 20 = .ok (.iload_n 1, 1) := zd_at zhX9_isRow_0 14 rfl
theorem dX9_isRow_21 : decode cX9_isRow 21 = .ok (.iconst 2, 1) := zd_at zhX9_isRow_0 15 rfl
theorem dX9_isRow_22 : decode cX9_isRow 22 = .ok (.iadd, 1) := zd_at zhX9_isRow_0 16 rfl
theorem dX9_isRow_23 : decode cX9_isRow 23 = .ok (.iaload, 1) := zd_at zhX9_isRow_0 17 rfl
theorem dX9_isRow_24 : decode cX9_isRow 24 = .ok (.istore 4, 2) := zd_at zhX9_isRow_0 18 rfl
theorem dX9_isRow_26 : decode cX9_isRow 26 = .ok (.aload_n 0, 1) := zd_at zhX9_isRow_0 19 rfl
theorem dX9_isRow_27 : decode cX9_isRow 27 = .ok (.getfield 78, 3) := zd_at zhX9_isRow_0 20 rfl
theorem dX9_isRow_30 : decode cX9_isRow 30 = .ok (.iload_n 1, 1) := zd_at zhX9_isRow_0 21 rfl
theorem dX9_isRow_31 : decode cX9_isRow 31 = .ok (.iconst 3, 1) := zd_at zhX9_isRow_0 22 rfl
theorem dX9_isRow_32 : decode cX9_isRow 32 = .ok (.iadd, 1) := zd_at zhX9_isRow_0 23 rfl
theorem dX9_isRow_33 : decode cX9_isRow 33 = .ok (.iaload, 1) := zd_at zhX9_isRow_0 24 rfl
theorem dX9_isRow_34 : decode cX9_isRow 34 = .ok (.istore 5, 2) := zd_at zhX9_isRow_0 25 rfl
theorem dX9_isRow_36 : decode cX9_isRow 36 = .ok (.iload_n 2, 1) := zd_at zhX9_isRow_0 26 rfl
theorem dX9_isRow_37 : decode cX9_isRow 37 = .ok (.iconst 3, 1) := zd_at zhX9_isRow_0 27 rfl
theorem dX9_isRow_38 : decode cX9_isRow 38 = .ok (.if_icmp .ne 23, 3) := zd_at zhX9_isRow_0 28 rfl
theorem dX9_isRow_41 : decode cX9_isRow 41 = .ok (.iload_n 3, 1) := zd_at zhX9_isRow_0 29 rfl
theorem dX9_isRow_42 : decode cX9_isRow 42 = .ok (.ifCond .ne 17, 3) := zd_at zhX9_isRow_0 30 rfl
theorem dX9_isRow_45 : decode cX9_isRow 45 = .ok (.iload 4, 2) := zd_at zhX9_isRow_0 31 rfl
theorem dX9_isRow_47 : decode cX9_isRow 47 = .ok (.ifCond .ne 12, 3) := zd_at zhX9_isRow_0 32 rfl
theorem dX9_isRow_50 : decode cX9_isRow 50 = .ok (.iload 5, 2) := zd_at zhX9_isRow_0 33 rfl
theorem dX9_isRow_52 : decode cX9_isRow 52 = .ok (.ifCond .ne 7, 3) := zd_at zhX9_isRow_0 34 rfl
theorem dX9_isRow_55 : decode cX9_isRow 55 = .ok (.iconst 1, 1) := zd_at zhX9_isRow_0 35 rfl
theorem dX9_isRow_56 : decode cX9_isRow 56 = .ok (.goto 4, 3) := zd_at zhX9_isRow_0 36 rfl
theorem dX9_isRow_59 : decode cX9_isRow 59 = .ok (.iconst 0, 1) := zd_at zhX9_isRow_0 37 rfl
theorem dX9_isRow_60 : decode cX9_isRow 60 = .ok (.ireturn, 1) := zd_at zhX9_isRow_0 38 rfl
theorem dX9_isRow_61 : decode cX9_isRow 61 = .ok (.iload_n 2, 1) := zd_at zhX9_isRow_0 39 rfl
def ziX9_isRow_62 : List (Nat × Instr × Nat) := [(62, .i2l, 1), (63, .lconst 0, 1), (64, .ldc2_w 99, 3), (67, .invokestatic 91, 3), (70, .ifCond .eq 11, 3), (73, .aload_n 0, 1), (74, .iload_n 3, 1), (75, .invokevirtual 101, 3), (78, .ifCond .ne 5, 3), (81, .iconst 0, 1), (82, .ireturn, 1), (83, .iload_n 2, 1), (84, .ifCond .ne 32, 3), (87, .iload 4, 2), (89, .invokestatic 141, 3), (92, .ifCond .eq 20, 3), (95, .iload 5, 2), (97, .i2l, 1), (98, .lconst 0, 1), (99, .ldc2_w 95, 3), (102, .invokestatic 91, 3), (105, .ifCond .eq 7, 3), (108, .iconst 1, 1), (109, .goto 48, 3), (112, .iconst 0, 1), (113, .goto 44, 3), (116, .iload 5, 2), (118, .ifCond .ne 38, 3), (121, .iload_n 2, 1), (122, .iconst 1, 1), (123, .if_icmp .ne 14, 3), (126, .iload 4, 2), (128, .invokestatic 138, 3), (131, .ifCond .eq 25, 3), (134, .goto 18, 3), (137, .aload_n 0, 1), (138, .iload 4, 2), (140, .invokevirtual 101, 3), (143, .ifCond .eq 13, 3), (146, .iload 4, 2)]
theorem zhX9_isRow_62 : zd_chk (cX9_isRow.data.toList.drop 62) 62 ziX9_isRow_62 = true := by decide +kernel
theorem dX9_isRow_62 : decode cX9_isRow 62 = .ok (.i2l, 1) := zd_at zhX9_isRow_62 0 rfl
theorem dX9_isRow_63 : decode cX9_isRow 63 = .ok (.lconst 0, 1) := zd_at zhX9_isRow_62 1 rfl
theorem dX9_isRow_64 : decode cX9_isRow 64 = .ok (.ldc2_w 99, 3) := zd_at zhX9_isRow_62 2 rfl
theorem dX9_isRow_67 : decode cX9_isRow 67 = .ok (.invokestatic 91, 3) := zd_at zhX9_isRow_62 3 rfl
theorem dX9_isRow_70 : decode cX9_isRow 70 = .ok (.ifCond .eq 11, 3) := zd_at zhX9_isRow_62 4 rfl
theorem dX9_isRow_73 : decode cX9_isRow 73 = .ok (.aload_n 0, 1) := zd_at zhX9_isRow_62 5 rfl
theorem dX9_isRow_74 : decode cX9_isRow 74 = .ok (.iload_n 3, 1) := zd_at zhX9_isRow_62 6 rfl
theorem dX9_isRow_75 : decode cX9_isRow 75 = .ok (.invokevirtual 101, 3) := zd_at zhX9_isRow_62 7 rfl
theorem dX9_isRow_78 : decode cX9_isRow 78 = .ok (.ifCond .ne 5, 3) := zd_at zhX9_isRow_62 8 rfl
theorem dX9_isRow_81 : decode cX9_isRow 81 = .ok (.iconst 0, 1) := zd_at zhX9_isRow_62 9 rfl
theorem dX9_isRow_82 : decode cX9_isRow 82 = .ok (.ireturn, 1) := zd_at zhX9_isRow_62 10 rfl
theorem dX9_isRow_83 : decode cX9_isRow 83 = .ok (.iload_n 2, 1) := zd_at zhX9_isRow_62 11 rfl
theorem dX9_isRow_84 : decode cX9_isRow 84 = .ok (.ifCond .ne 32, 3) := zd_at zhX9_isRow_62 12 rfl
theorem dX9_isRow_87 : decode cX9_isRow 87 = .ok (.iload 4, 2) := zd_at zhX9_isRow_62 13 rfl
theorem dX9_isRow_89 : decode cX9_isRow 89 = .ok (.invokestatic 141, 3) := zd_at zhX9_isRow_62 14 rfl
theorem dX9_isRow_92 : decode cX9_isRow 92 = .ok (.ifCond .eq 20, 3) := zd_at zhX9_isRow_62 15 rfl
theorem dX9_isRow_95 : decode cX9_isRow 95 = .ok (.iload 5, 2) := zd_at zhX9_isRow_62 16 rfl
theorem dX9_isRow_97 : decode cX9_isRow 97 = .ok (.i2l, 1) := zd_at zhX9_isRow_62 17 rfl
theorem dX9_isRow_98 : decode cX9_isRow 98 = .ok (.lconst 0, 1) := zd_at zhX9_isRow_62 18 rfl
theorem dX9_isRow_99 : decode cX9_isRow 99 = .ok (.ldc2_w 95, 3) := zd_at zhX9_isRow_62 19 rfl
theorem dX9_isRow_102 : decode cX9_isRow 102 = .ok (.invokestatic 91, 3) := zd_at zhX9_isRow_62 20 rfl
theorem dX9_isRow_105 : decode cX9_isRow 105 = .ok (.ifCond .eq 7, 3) := zd_at zhX9_isRow_62 21 rfl
theorem dX9_isRow_108 : decode cX9_isRow 108 = .ok (.iconst 1, 1) := zd_at zhX9_isRow_62 22 rfl
theorem dX9_isRow_109 : decode cX9_isRow 109 = .ok (.goto 48, 3) := zd_at zhX9_isRow_62 23 rfl
theorem dX9_isRow_112 : decode cX9_isRow 112 = .ok (.iconst 0, 1) := zd_at zhX9_isRow_62 24 rfl
theorem dX9_isRow_113 : decode cX9_isRow 113 = .ok (.goto 44, 3) := zd_at zhX9_isRow_62 25 rfl
theorem dX9_isRow_116 : decode cX9_isRow 116 = .ok (.iload 5, 2) := zd_at zhX9_isRow_62 26 rfl
theorem dX9_isRow_118 : decode cX9_isRow 118 = .ok (.ifCond .ne 38, 3) := zd_at zhX9_isRow_62 27 rfl
theorem dX9_isRow_121 : decode cX9_isRow 121 = .ok (.iload_n 2, 1) := zd_at zhX9_isRow_62 28 rfl
theorem dX9_isRow_122 : decode cX9_isRow 122 = .ok (.iconst 1, 1) := zd_at zhX9_isRow_62 29 rfl
theorem dX9_isRow_123 : decode cX9_isRow 123 = .ok (.if_icmp .ne 14, 3) := zd_at zhX9_isRow_62 30 rfl
theorem dX9_isRow_126 : decode cX9_isRow 126 = .ok (.iload 4, 2) := zd_at zhX9_isRow_62 31 rfl
theorem dX9_isRow_128 : decode cX9_isRow 128 = .ok (.invokestatic 138, 3) := zd_at zhX9_isRow_62 32 rfl
theorem dX9_isRow_131 : decode cX9_isRow 131 = .ok (.ifCond .eq 25, 3) := zd_at zhX9_isRow_62 33 rfl
theorem dX9_isRow_134 : decode cX9_isRow 134 = .ok (.goto 18, 3) := zd_at zhX9_isRow_62 34 rfl
theorem dX9_isRow_137 : decode cX9_isRow 137 = .ok (.aload_n 0, 1) := zd_at zhX9_isRow_62 35 rfl
theorem dX9_isRow_138 : decode cX9_isRow 138 = .ok (.iload 4, 2) := zd_at zhX9_isRow_62 36 rfl
theorem dX9_isRow_140 : decode cX9_isRow 140 = .ok (.invokevirtual 101, 3) := zd_at zhX9_isRow_62 37 rfl
theorem dX9_isRow_143 : decode cX9_isRow 143 = .ok (.ifCond .eq 13, 3) := zd_at zhX9_isRow_62 38 rfl
theorem dX9_isRow_146 : decode cX9_isRow 146 = .ok (.iload 4, 2) := zd_at zhX9_isRow_62 39 rfl
def ziX9_isRow_148 : List (Nat × Instr × Nat) := [(148, .iload_n 3, 1), (149, .if_icmp .eq 7, 3), (152, .iconst 1, 1), (153, .goto 4, 3), (156, .iconst 0, 1), (157, .ireturn, 1)]
theorem zhX9_isRow_148 : zd_chk (cX9_isRow.data.toList.drop 148) 148 ziX9_isRow_148 = true := by decide +kernel
theorem dX9_isRow_148 : decode cX9_isRow 148 = .ok (.iload_n 3, 1) := zd_at zhX9_isRow_148 0 rfl
theorem dX9_isRow_149 : decode cX9_isRow 149 = .ok (.if_icmp .eq 7, 3) := zd_at zhX9_isRow_148 1 rfl
theorem dX9_isRow_152 : decode cX9_isRow 152 = .ok (.iconst 1, 1) := zd_at zhX9_isRow_148 2 rfl
theorem dX9_isRow_153 : decode cX9_isRow 153 = .ok (.goto 4, 3) := zd_at zhX9_isRow_148 3 rfl
theorem dX9_isRow_156 : decode cX9_isRow 156 = .ok (.iconst 0, 1) := zd_at zhX9_isRow_148 4 rfl
theorem dX9_isRow_157 : decode cX9_isRow 157 = .ok (.ireturn, 1) := zd_at zhX9_isRow_148 5 rfl
def ziX9_plan_0 : List (Nat × Instr × Nat) := [(0, .iload_n 1, 1), (1, .invokestatic 421, 3), (4, .ifCond .eq 13, 3), (7, .iload_n 2, 1), (8, .i2l, 1), (9, .lconst 0, 1), (10, .lconst 1, 1), (11, .invokestatic 91, 3), (14, .ifCond .ne 6, 3), (17, .bipush (-2), 2), (19, .ireturn, 1), (20, .aload_n 0, 1), (21, .getfield 68, 3), (24, .iload_n 1, 1), (25, .baload, 1), (26, .ifCond .ne 6, 3), (29, .bipush (-11), 2), (31, .ireturn, 1), (32, .aload_n 0, 1), (33, .getfield 75, 3), (36, .iload_n 1, 1), (37, .iaload, 1), (38, .iconst 4, 1), (39, .irem, 1), (40, .ifCond .eq 6, 3), (43, .bipush (-2), 2), (45, .ireturn, 1), (46, .iconst 0, 1), (47, .istore_n 3, 1), (48, .iload_n 3, 1), (49, .aload_n 0, 1), (50, .getfield 75, 3), (53, .iload_n 1, 1), (54, .iaload, 1), (55, .if_icmp .ge 25, 3), (58, .aload_n 0, 1), (59, .bipush 40, 2), (61, .iload_n 1, 1), (62, .imul, 1), (63, .iload_n 3, 1)]
theorem zhX9_plan_0 : zd_chk (cX9_plan.data.toList.drop 0) 0 ziX9_plan_0 = true := by decide +kernel
theorem dX9_plan_0 : decode cX9_plan 0 = .ok (.iload_n 1, 1) := zd_at zhX9_plan_0 0 rfl
theorem dX9_plan_1 : decode cX9_plan 1 = .ok (.invokestatic 421, 3) := zd_at zhX9_plan_0 1 rfl
theorem dX9_plan_4 : decode cX9_plan 4 = .ok (.ifCond .eq 13, 3) := zd_at zhX9_plan_0 2 rfl
theorem dX9_plan_7 : decode cX9_plan 7 = .ok (.iload_n 2, 1) := zd_at zhX9_plan_0 3 rfl
theorem dX9_plan_8 : decode cX9_plan 8 = .ok (.i2l, 1) := zd_at zhX9_plan_0 4 rfl
theorem dX9_plan_9 : decode cX9_plan 9 = .ok (.lconst 0, 1) := zd_at zhX9_plan_0 5 rfl
theorem dX9_plan_10 : decode cX9_plan 10 = .ok (.lconst 1, 1) := zd_at zhX9_plan_0 6 rfl
theorem dX9_plan_11 : decode cX9_plan 11 = .ok (.invokestatic 91, 3) := zd_at zhX9_plan_0 7 rfl
theorem dX9_plan_14 : decode cX9_plan 14 = .ok (.ifCond .ne 6, 3) := zd_at zhX9_plan_0 8 rfl
theorem dX9_plan_17 : decode cX9_plan 17 = .ok (.bipush (-2), 2) := zd_at zhX9_plan_0 9 rfl
theorem dX9_plan_19 : decode cX9_plan 19 = .ok (.ireturn, 1) := zd_at zhX9_plan_0 10 rfl
theorem dX9_plan_20 : decode cX9_plan 20 = .ok (.aload_n 0, 1) := zd_at zhX9_plan_0 11 rfl
theorem dX9_plan_21 : decode cX9_plan 21 = .ok (.getfield 68, 3) := zd_at zhX9_plan_0 12 rfl
theorem dX9_plan_24 : decode cX9_plan 24 = .ok (.iload_n 1, 1) := zd_at zhX9_plan_0 13 rfl
theorem dX9_plan_25 : decode cX9_plan 25 = .ok (.baload, 1) := zd_at zhX9_plan_0 14 rfl
theorem dX9_plan_26 : decode cX9_plan 26 = .ok (.ifCond .ne 6, 3) := zd_at zhX9_plan_0 15 rfl
theorem dX9_plan_29 : decode cX9_plan 29 = .ok (.bipush (-11), 2) := zd_at zhX9_plan_0 16 rfl
theorem dX9_plan_31 : decode cX9_plan 31 = .ok (.ireturn, 1) := zd_at zhX9_plan_0 17 rfl
theorem dX9_plan_32 : decode cX9_plan 32 = .ok (.aload_n 0, 1) := zd_at zhX9_plan_0 18 rfl
theorem dX9_plan_33 : decode cX9_plan 33 = .ok (.getfield 75, 3) := zd_at zhX9_plan_0 19 rfl
theorem dX9_plan_36 : decode cX9_plan 36 = .ok (.iload_n 1, 1) := zd_at zhX9_plan_0 20 rfl
theorem dX9_plan_37 : decode cX9_plan 37 = .ok (.iaload, 1) := zd_at zhX9_plan_0 21 rfl
theorem dX9_plan_38 : decode cX9_plan 38 = .ok (.iconst 4, 1) := zd_at zhX9_plan_0 22 rfl
theorem dX9_plan_39 : decode cX9_plan 39 = .ok (.irem, 1) := zd_at zhX9_plan_0 23 rfl
theorem dX9_plan_40 : decode cX9_plan 40 = .ok (.ifCond .eq 6, 3) := zd_at zhX9_plan_0 24 rfl
theorem dX9_plan_43 : decode cX9_plan 43 = .ok (.bipush (-2), 2) := zd_at zhX9_plan_0 25 rfl
theorem dX9_plan_45 : decode cX9_plan 45 = .ok (.ireturn, 1) := zd_at zhX9_plan_0 26 rfl
theorem dX9_plan_46 : decode cX9_plan 46 = .ok (.iconst 0, 1) := zd_at zhX9_plan_0 27 rfl
theorem dX9_plan_47 : decode cX9_plan 47 = .ok (.istore_n 3, 1) := zd_at zhX9_plan_0 28 rfl
theorem dX9_plan_48 : decode cX9_plan 48 = .ok (.iload_n 3, 1) := zd_at zhX9_plan_0 29 rfl
theorem dX9_plan_49 : decode cX9_plan 49 = .ok (.aload_n 0, 1) := zd_at zhX9_plan_0 30 rfl
theorem dX9_plan_50 : decode cX9_plan 50 = .ok (.getfield 75, 3) := zd_at zhX9_plan_0 31 rfl
theorem dX9_plan_53 : decode cX9_plan 53 = .ok (.iload_n 1, 1) := zd_at zhX9_plan_0 32 rfl
theorem dX9_plan_54 : decode cX9_plan 54 = .ok (.iaload, 1) := zd_at zhX9_plan_0 33 rfl
theorem dX9_plan_55 : decode cX9_plan 55 = .ok (.if_icmp .ge 25, 3) := zd_at zhX9_plan_0 34 rfl
theorem dX9_plan_58 : decode cX9_plan 58 = .ok (.aload_n 0, 1) := zd_at zhX9_plan_0 35 rfl
theorem dX9_plan_59 : decode cX9_plan 59 = .ok (.bipush 40, 2) := zd_at zhX9_plan_0 36 rfl
theorem dX9_plan_61 : decode cX9_plan 61 = .ok (.iload_n 1, 1) := zd_at zhX9_plan_0 37 rfl
theorem dX9_plan_62 : decode cX9_plan 62 = .ok (.imul, 1) := zd_at zhX9_plan_0 38 rfl
theorem dX9_plan_63 : decode cX9_plan 63 = .ok (.iload_n 3, 1) := zd_at zhX9_plan_0 39 rfl
def ziX9_plan_64 : List (Nat × Instr × Nat) := [(64, .iadd, 1), (65, .invokevirtual 424, 3), (68, .ifCond .ne 6, 3), (71, .bipush (-2), 2), (73, .ireturn, 1), (74, .iinc 3 4, 3), (77, .goto (-29), 3), (80, .aload_n 0, 1), (81, .invokevirtual 404, 3), (84, .iconst 0, 1), (85, .istore_n 3, 1), (86, .iload_n 3, 1), (87, .aload_n 0, 1), (88, .getfield 75, 3), (91, .iload_n 1, 1), (92, .iaload, 1), (93, .if_icmp .ge 146, 3), (96, .bipush 40, 2), (98, .iload_n 1, 1), (99, .imul, 1), (100, .iload_n 3, 1), (101, .iadd, 1), (102, .istore 4, 2), (104, .aload_n 0, 1), (105, .getfield 78, 3), (108, .iload 4, 2), (110, .iaload, 1), (111, .ifCond .ne 38, 3), (114, .aload_n 0, 1), (115, .aload_n 0, 1), (116, .getfield 78, 3), (119, .iload 4, 2), (121, .iconst 1, 1), (122, .iadd, 1), (123, .iaload, 1), (124, .aload_n 0, 1), (125, .getfield 78, 3), (128, .iload 4, 2), (130, .iconst 2, 1), (131, .iadd, 1)]
theorem zhX9_plan_64 : zd_chk (cX9_plan.data.toList.drop 64) 64 ziX9_plan_64 = true := by decide +kernel
theorem dX9_plan_64 : decode cX9_plan 64 = .ok (.iadd, 1) := zd_at zhX9_plan_64 0 rfl
theorem dX9_plan_65 : decode cX9_plan 65 = .ok (.invokevirtual 424, 3) := zd_at zhX9_plan_64 1 rfl
theorem dX9_plan_68 : decode cX9_plan 68 = .ok (.ifCond .ne 6, 3) := zd_at zhX9_plan_64 2 rfl
theorem dX9_plan_71 : decode cX9_plan 71 = .ok (.bipush (-2), 2) := zd_at zhX9_plan_64 3 rfl
theorem dX9_plan_73 : decode cX9_plan 73 = .ok (.ireturn, 1) := zd_at zhX9_plan_64 4 rfl
theorem dX9_plan_74 : decode cX9_plan 74 = .ok (.iinc 3 4, 3) := zd_at zhX9_plan_64 5 rfl
theorem dX9_plan_77 : decode cX9_plan 77 = .ok (.goto (-29), 3) := zd_at zhX9_plan_64 6 rfl
theorem dX9_plan_80 : decode cX9_plan 80 = .ok (.aload_n 0, 1) := zd_at zhX9_plan_64 7 rfl
theorem dX9_plan_81 : decode cX9_plan 81 = .ok (.invokevirtual 404, 3) := zd_at zhX9_plan_64 8 rfl
theorem dX9_plan_84 : decode cX9_plan 84 = .ok (.iconst 0, 1) := zd_at zhX9_plan_64 9 rfl
theorem dX9_plan_85 : decode cX9_plan 85 = .ok (.istore_n 3, 1) := zd_at zhX9_plan_64 10 rfl
theorem dX9_plan_86 : decode cX9_plan 86 = .ok (.iload_n 3, 1) := zd_at zhX9_plan_64 11 rfl
theorem dX9_plan_87 : decode cX9_plan 87 = .ok (.aload_n 0, 1) := zd_at zhX9_plan_64 12 rfl
theorem dX9_plan_88 : decode cX9_plan 88 = .ok (.getfield 75, 3) := zd_at zhX9_plan_64 13 rfl
theorem dX9_plan_91 : decode cX9_plan 91 = .ok (.iload_n 1, 1) := zd_at zhX9_plan_64 14 rfl
theorem dX9_plan_92 : decode cX9_plan 92 = .ok (.iaload, 1) := zd_at zhX9_plan_64 15 rfl
theorem dX9_plan_93 : decode cX9_plan 93 = .ok (.if_icmp .ge 146, 3) := zd_at zhX9_plan_64 16 rfl
theorem dX9_plan_96 : decode cX9_plan 96 = .ok (.bipush 40, 2) := zd_at zhX9_plan_64 17 rfl
theorem dX9_plan_98 : decode cX9_plan 98 = .ok (.iload_n 1, 1) := zd_at zhX9_plan_64 18 rfl
theorem dX9_plan_99 : decode cX9_plan 99 = .ok (.imul, 1) := zd_at zhX9_plan_64 19 rfl
theorem dX9_plan_100 : decode cX9_plan 100 = .ok (.iload_n 3, 1) := zd_at zhX9_plan_64 20 rfl
theorem dX9_plan_101 : decode cX9_plan 101 = .ok (.iadd, 1) := zd_at zhX9_plan_64 21 rfl
theorem dX9_plan_102 : decode cX9_plan 102 = .ok (.istore 4, 2) := zd_at zhX9_plan_64 22 rfl
theorem dX9_plan_104 : decode cX9_plan 104 = .ok (.aload_n 0, 1) := zd_at zhX9_plan_64 23 rfl
theorem dX9_plan_105 : decode cX9_plan 105 = .ok (.getfield 78, 3) := zd_at zhX9_plan_64 24 rfl
theorem dX9_plan_108 : decode cX9_plan 108 = .ok (.iload 4, 2) := zd_at zhX9_plan_64 25 rfl
theorem dX9_plan_110 : decode cX9_plan 110 = .ok (.iaload, 1) := zd_at zhX9_plan_64 26 rfl
theorem dX9_plan_111 : decode cX9_plan 111 = .ok (.ifCond .ne 38, 3) := zd_at zhX9_plan_64 27 rfl
theorem dX9_plan_114 : decode cX9_plan 114 = .ok (.aload_n 0, 1) := zd_at zhX9_plan_64 28 rfl
theorem dX9_plan_115 : decode cX9_plan 115 = .ok (.aload_n 0, 1) := zd_at zhX9_plan_64 29 rfl
theorem dX9_plan_116 : decode cX9_plan 116 = .ok (.getfield 78, 3) := zd_at zhX9_plan_64 30 rfl
theorem dX9_plan_119 : decode cX9_plan 119 = .ok (.iload 4, 2) := zd_at zhX9_plan_64 31 rfl
theorem dX9_plan_121 : decode cX9_plan 121 = .ok (.iconst 1, 1) := zd_at zhX9_plan_64 32 rfl
theorem dX9_plan_122 : decode cX9_plan 122 = .ok (.iadd, 1) := zd_at zhX9_plan_64 33 rfl
theorem dX9_plan_123 : decode cX9_plan 123 = .ok (.iaload, 1) := zd_at zhX9_plan_64 34 rfl
theorem dX9_plan_124 : decode cX9_plan 124 = .ok (.aload_n 0, 1) := zd_at zhX9_plan_64 35 rfl
theorem dX9_plan_125 : decode cX9_plan 125 = .ok (.getfield 78, 3) := zd_at zhX9_plan_64 36 rfl
theorem dX9_plan_128 : decode cX9_plan 128 = .ok (.iload 4, 2) := zd_at zhX9_plan_64 37 rfl
theorem dX9_plan_130 : decode cX9_plan 130 = .ok (.iconst 2, 1) := zd_at zhX9_plan_64 38 rfl
theorem dX9_plan_131 : decode cX9_plan 131 = .ok (.iadd, 1) := zd_at zhX9_plan_64 39 rfl
def ziX9_plan_132 : List (Nat × Instr × Nat) := [(132, .iaload, 1), (133, .aload_n 0, 1), (134, .getfield 78, 3), (137, .iload 4, 2), (139, .iconst 3, 1), (140, .iadd, 1), (141, .iaload, 1), (142, .invokevirtual 364, 3), (145, .pop, 1), (146, .goto 87, 3), (149, .aload_n 0, 1), (150, .getfield 78, 3), (153, .iload 4, 2), (155, .iaload, 1), (156, .iconst 1, 1), (157, .if_icmp .ne 34, 3), (160, .aload_n 0, 1), (161, .getfield 32, 3), (164, .bipush 10, 2), (166, .aload_n 0, 1), (167, .getfield 78, 3), (170, .iload 4, 2), (172, .iconst 1, 1), (173, .iadd, 1), (174, .iaload, 1), (175, .imul, 1), (176, .aload_n 0, 1), (177, .getfield 78, 3), (180, .iload 4, 2), (182, .iconst 2, 1), (183, .iadd, 1), (184, .iaload, 1), (185, .iadd, 1), (186, .iconst (-1), 1), (187, .iastore, 1), (188, .goto 45, 3), (191, .aload_n 0, 1), (192, .getfield 78, 3), (195, .iload 4, 2), (197, .iaload, 1)]
theorem zhX9_plan_132 : zd_chk (cX9_plan.data.toList.drop 132) 132 ziX9_plan_132 = true := by decide +kernel
theorem dX9_plan_132 : decode cX9_plan 132 = .ok (.iaload, 1) := zd_at zhX9_plan_132 0 rfl
theorem dX9_plan_133 : decode cX9_plan 133 = .ok (.aload_n 0, 1) := zd_at zhX9_plan_132 1 rfl
theorem dX9_plan_134 : decode cX9_plan 134 = .ok (.getfield 78, 3) := zd_at zhX9_plan_132 2 rfl
theorem dX9_plan_137 : decode cX9_plan 137 = .ok (.iload 4, 2) := zd_at zhX9_plan_132 3 rfl
theorem dX9_plan_139 : decode cX9_plan 139 = .ok (.iconst 3, 1) := zd_at zhX9_plan_132 4 rfl
theorem dX9_plan_140 : decode cX9_plan 140 = .ok (.iadd, 1) := zd_at zhX9_plan_132 5 rfl
theorem dX9_plan_141 : decode cX9_plan 141 = .ok (.iaload, 1) := zd_at zhX9_plan_132 6 rfl
theorem dX9_plan_142 : decode cX9_plan 142 = .ok (.invokevirtual 364, 3) := zd_at zhX9_plan_132 7 rfl
theorem dX9_plan_145 : decode cX9_plan 145 = .ok (.pop, 1) := zd_at zhX9_plan_132 8 rfl
theorem dX9_plan_146 : decode cX9_plan 146 = .ok (.goto 87, 3) := zd_at zhX9_plan_132 9 rfl
theorem dX9_plan_149 : decode cX9_plan 149 = .ok (.aload_n 0, 1) := zd_at zhX9_plan_132 10 rfl
theorem dX9_plan_150 : decode cX9_plan 150 = .ok (.getfield 78, 3) := zd_at zhX9_plan_132 11 rfl
theorem dX9_plan_153 : decode cX9_plan 153 = .ok (.iload 4, 2) := zd_at zhX9_plan_132 12 rfl
theorem dX9_plan_155 : decode cX9_plan 155 = .ok (.iaload, 1) := zd_at zhX9_plan_132 13 rfl
theorem dX9_plan_156 : decode cX9_plan 156 = .ok (.iconst 1, 1) := zd_at zhX9_plan_132 14 rfl
theorem dX9_plan_157 : decode cX9_plan 157 = .ok (.if_icmp .ne 34, 3) := zd_at zhX9_plan_132 15 rfl
theorem dX9_plan_160 : decode cX9_plan 160 = .ok (.aload_n 0, 1) := zd_at zhX9_plan_132 16 rfl
theorem dX9_plan_161 : decode cX9_plan 161 = .ok (.getfield 32, 3) := zd_at zhX9_plan_132 17 rfl
theorem dX9_plan_164 : decode cX9_plan 164 = .ok (.bipush 10, 2) := zd_at zhX9_plan_132 18 rfl
theorem dX9_plan_166 : decode cX9_plan 166 = .ok (.aload_n 0, 1) := zd_at zhX9_plan_132 19 rfl
theorem dX9_plan_167 : decode cX9_plan 167 = .ok (.getfield 78, 3) := zd_at zhX9_plan_132 20 rfl
theorem dX9_plan_170 : decode cX9_plan 170 = .ok (.iload 4, 2) := zd_at zhX9_plan_132 21 rfl
theorem dX9_plan_172 : decode cX9_plan 172 = .ok (.iconst 1, 1) := zd_at zhX9_plan_132 22 rfl
theorem dX9_plan_173 : decode cX9_plan 173 = .ok (.iadd, 1) := zd_at zhX9_plan_132 23 rfl
theorem dX9_plan_174 : decode cX9_plan 174 = .ok (.iaload, 1) := zd_at zhX9_plan_132 24 rfl
theorem dX9_plan_175 : decode cX9_plan 175 = .ok (.imul, 1) := zd_at zhX9_plan_132 25 rfl
theorem dX9_plan_176 : decode cX9_plan 176 = .ok (.aload_n 0, 1) := zd_at zhX9_plan_132 26 rfl
theorem dX9_plan_177 : decode cX9_plan 177 = .ok (.getfield 78, 3) := zd_at zhX9_plan_132 27 rfl
theorem dX9_plan_180 : decode cX9_plan 180 = .ok (.iload 4, 2) := zd_at zhX9_plan_132 28 rfl
theorem dX9_plan_182 : decode cX9_plan 182 = .ok (.iconst 2, 1) := zd_at zhX9_plan_132 29 rfl
theorem dX9_plan_183 : decode cX9_plan 183 = .ok (.iadd, 1) := zd_at zhX9_plan_132 30 rfl
theorem dX9_plan_184 : decode cX9_plan 184 = .ok (.iaload, 1) := zd_at zhX9_plan_132 31 rfl
theorem dX9_plan_185 : decode cX9_plan 185 = .ok (.iadd, 1) := zd_at zhX9_plan_132 32 rfl
theorem dX9_plan_186 : decode cX9_plan 186 = .ok (.iconst (-1), 1) := zd_at zhX9_plan_132 33 rfl
theorem dX9_plan_187 : decode cX9_plan 187 = .ok (.iastore, 1) := zd_at zhX9_plan_132 34 rfl
theorem dX9_plan_188 : decode cX9_plan 188 = .ok (.goto 45, 3) := zd_at zhX9_plan_132 35 rfl
theorem dX9_plan_191 : decode cX9_plan 191 = .ok (.aload_n 0, 1) := zd_at zhX9_plan_132 36 rfl
theorem dX9_plan_192 : decode cX9_plan 192 = .ok (.getfield 78, 3) := zd_at zhX9_plan_132 37 rfl
theorem dX9_plan_195 : decode cX9_plan 195 = .ok (.iload 4, 2) := zd_at zhX9_plan_132 38 rfl
theorem dX9_plan_197 : decode cX9_plan 197 = .ok (.iaload, 1) := zd_at zhX9_plan_132 39 rfl
def ziX9_plan_198 : List (Nat × Instr × Nat) := [(198, .iconst 2, 1), (199, .if_icmp .ne 29, 3), (202, .aload_n 0, 1), (203, .aload_n 0, 1), (204, .getfield 78, 3), (207, .iload 4, 2), (209, .iconst 1, 1), (210, .iadd, 1), (211, .iaload, 1), (212, .aload_n 0, 1), (213, .getfield 78, 3), (216, .iload 4, 2), (218, .iconst 2, 1), (219, .iadd, 1), (220, .iaload, 1), (221, .invokevirtual 367, 3), (224, .pop, 1), (225, .goto 8, 3), (228, .aload_n 0, 1), (229, .iload_n 3, 1), (230, .invokevirtual 391, 3), (233, .iinc 3 4, 3), (236, .goto (-150), 3), (239, .aload_n 0, 1), (240, .invokevirtual 427, 3), (243, .istore_n 3, 1), (244, .aload_n 0, 1), (245, .invokevirtual 407, 3), (248, .iload_n 2, 1), (249, .ifCond .ne 10, 3), (252, .aload_n 0, 1), (253, .getfield 401, 3), (256, .goto 4, 3), (259, .iload_n 3, 1), (260, .ireturn, 1)]
theorem zhX9_plan_198 : zd_chk (cX9_plan.data.toList.drop 198) 198 ziX9_plan_198 = true := by decide +kernel
theorem dX9_plan_198 : decode cX9_plan 198 = .ok (.iconst 2, 1) := zd_at zhX9_plan_198 0 rfl
theorem dX9_plan_199 : decode cX9_plan 199 = .ok (.if_icmp .ne 29, 3) := zd_at zhX9_plan_198 1 rfl
theorem dX9_plan_202 : decode cX9_plan 202 = .ok (.aload_n 0, 1) := zd_at zhX9_plan_198 2 rfl
theorem dX9_plan_203 : decode cX9_plan 203 = .ok (.aload_n 0, 1) := zd_at zhX9_plan_198 3 rfl
theorem dX9_plan_204 : decode cX9_plan 204 = .ok (.getfield 78, 3) := zd_at zhX9_plan_198 4 rfl
theorem dX9_plan_207 : decode cX9_plan 207 = .ok (.iload 4, 2) := zd_at zhX9_plan_198 5 rfl
theorem dX9_plan_209 : decode cX9_plan 209 = .ok (.iconst 1, 1) := zd_at zhX9_plan_198 6 rfl
theorem dX9_plan_210 : decode cX9_plan 210 = .ok (.iadd, 1) := zd_at zhX9_plan_198 7 rfl
theorem dX9_plan_211 : decode cX9_plan 211 = .ok (.iaload, 1) := zd_at zhX9_plan_198 8 rfl
theorem dX9_plan_212 : decode cX9_plan 212 = .ok (.aload_n 0, 1) := zd_at zhX9_plan_198 9 rfl
theorem dX9_plan_213 : decode cX9_plan 213 = .ok (.getfield 78, 3) := zd_at zhX9_plan_198 10 rfl
theorem dX9_plan_216 : decode cX9_plan 216 = .ok (.iload 4, 2) := zd_at zhX9_plan_198 11 rfl
theorem dX9_plan_218 : decode cX9_plan 218 = .ok (.iconst 2, 1) := zd_at zhX9_plan_198 12 rfl
theorem dX9_plan_219 : decode cX9_plan 219 = .ok (.iadd, 1) := zd_at zhX9_plan_198 13 rfl
theorem dX9_plan_220 : decode cX9_plan 220 = .ok (.iaload, 1) := zd_at zhX9_plan_198 14 rfl
theorem dX9_plan_221 : decode cX9_plan 221 = .ok (.invokevirtual 367, 3) := zd_at zhX9_plan_198 15 rfl
theorem dX9_plan_224 : decode cX9_plan 224 = .ok (.pop, 1) := zd_at zhX9_plan_198 16 rfl
theorem dX9_plan_225 : decode cX9_plan 225 = .ok (.goto 8, 3) := zd_at zhX9_plan_198 17 rfl
theorem dX9_plan_228 : decode cX9_plan 228 = .ok (.aload_n 0, 1) := zd_at zhX9_plan_198 18 rfl
theorem dX9_plan_229 : decode cX9_plan 229 = .ok (.iload_n 3, 1) := zd_at zhX9_plan_198 19 rfl
theorem dX9_plan_230 : decode cX9_plan 230 = .ok (.invokevirtual 391, 3) := zd_at zhX9_plan_198 20 rfl
theorem dX9_plan_233 : decode cX9_plan 233 = .ok (.iinc 3 4, 3) := zd_at zhX9_plan_198 21 rfl
theorem dX9_plan_236 : decode cX9_plan 236 = .ok (.goto (-150), 3) := zd_at zhX9_plan_198 22 rfl
theorem dX9_plan_239 : decode cX9_plan 239 = .ok (.aload_n 0, 1) := zd_at zhX9_plan_198 23 rfl
theorem dX9_plan_240 : decode cX9_plan 240 = .ok (.invokevirtual 427, 3) := zd_at zhX9_plan_198 24 rfl
theorem dX9_plan_243 : decode cX9_plan 243 = .ok (.istore_n 3, 1) := zd_at zhX9_plan_198 25 rfl
theorem dX9_plan_244 : decode cX9_plan 244 = .ok (.aload_n 0, 1) := zd_at zhX9_plan_198 26 rfl
theorem dX9_plan_245 : decode cX9_plan 245 = .ok (.invokevirtual 407, 3) := zd_at zhX9_plan_198 27 rfl
theorem dX9_plan_248 : decode cX9_plan 248 = .ok (.iload_n 2, 1) := zd_at zhX9_plan_198 28 rfl
theorem dX9_plan_249 : decode cX9_plan 249 = .ok (.ifCond .ne 10, 3) := zd_at zhX9_plan_198 29 rfl
theorem dX9_plan_252 : decode cX9_plan 252 = .ok (.aload_n 0, 1) := zd_at zhX9_plan_198 30 rfl
theorem dX9_plan_253 : decode cX9_plan 253 = .ok (.getfield 401, 3) := zd_at zhX9_plan_198 31 rfl
theorem dX9_plan_256 : decode cX9_plan 256 = .ok (.goto 4, 3) := zd_at zhX9_plan_198 32 rfl
theorem dX9_plan_259 : decode cX9_plan 259 = .ok (.iload_n 3, 1) := zd_at zhX9_plan_198 33 rfl
theorem dX9_plan_260 : decode cX9_plan 260 = .ok (.ireturn, 1) := zd_at zhX9_plan_198 34 rfl
def ziX9_stuckAll_0 : List (Nat × Instr × Nat) := [(0, .iconst 0, 1), (1, .istore_n 1, 1), (2, .iconst 0, 1), (3, .istore_n 2, 1), (4, .iload_n 2, 1), (5, .aload_n 0, 1), (6, .getfield 88, 3), (9, .if_icmp .ge 17, 3), (12, .iload_n 1, 1), (13, .aload_n 0, 1), (14, .iload_n 2, 1), (15, .invokevirtual 131, 3), (18, .iadd, 1), (19, .istore_n 1, 1), (20, .iinc 2 1, 3), (23, .goto (-19), 3), (26, .iload_n 1, 1), (27, .ireturn, 1)]
theorem zhX9_stuckAll_0 : zd_chk (cX9_stuckAll.data.toList.drop 0) 0 ziX9_stuckAll_0 = true := by decide +kernel
theorem dX9_stuckAll_0 : decode cX9_stuckAll 0 = .ok (.iconst 0, 1) := zd_at zhX9_stuckAll_0 0 rfl
theorem dX9_stuckAll_1 : decode cX9_stuckAll 1 = .ok (.istore_n 1, 1) := zd_at zhX9_stuckAll_0 1 rfl
theorem dX9_stuckAll_2 : decode cX9_stuckAll 2 = .ok (.iconst 0, 1) := zd_at zhX9_stuckAll_0 2 rfl
theorem dX9_stuckAll_3 : decode cX9_stuckAll 3 = .ok (.istore_n 2, 1) := zd_at zhX9_stuckAll_0 3 rfl
theorem dX9_stuckAll_4 : decode cX9_stuckAll 4 = .ok (.iload_n 2, 1) := zd_at zhX9_stuckAll_0 4 rfl
theorem dX9_stuckAll_5 : decode cX9_stuckAll 5 = .ok (.aload_n 0, 1) := zd_at zhX9_stuckAll_0 5 rfl
theorem dX9_stuckAll_6 : decode cX9_stuckAll 6 = .ok (.getfield 88, 3) := zd_at zhX9_stuckAll_0 6 rfl
theorem dX9_stuckAll_9 : decode cX9_stuckAll 9 = .ok (.if_icmp .ge 17, 3) := zd_at zhX9_stuckAll_0 7 rfl
theorem dX9_stuckAll_12 : decode cX9_stuckAll 12 = .ok (.iload_n 1, 1) := zd_at zhX9_stuckAll_0 8 rfl
theorem dX9_stuckAll_13 : decode cX9_stuckAll 13 = .ok (.aload_n 0, 1) := zd_at zhX9_stuckAll_0 9 rfl
theorem dX9_stuckAll_14 : decode cX9_stuckAll 14 = .ok (.iload_n 2, 1) := zd_at zhX9_stuckAll_0 10 rfl
theorem dX9_stuckAll_15 : decode cX9_stuckAll 15 = .ok (.invokevirtual 131, 3) := zd_at zhX9_stuckAll_0 11 rfl
theorem dX9_stuckAll_18 : decode cX9_stuckAll 18 = .ok (.iadd, 1) := zd_at zhX9_stuckAll_0 12 rfl
theorem dX9_stuckAll_19 : decode cX9_stuckAll 19 = .ok (.istore_n 1, 1) := zd_at zhX9_stuckAll_0 13 rfl
theorem dX9_stuckAll_20 : decode cX9_stuckAll 20 = .ok (.iinc 2 1, 3) := zd_at zhX9_stuckAll_0 14 rfl
theorem dX9_stuckAll_23 : decode cX9_stuckAll 23 = .ok (.goto (-19), 3) := zd_at zhX9_stuckAll_0 15 rfl
theorem dX9_stuckAll_26 : decode cX9_stuckAll 26 = .ok (.iload_n 1, 1) := zd_at zhX9_stuckAll_0 16 rfl
theorem dX9_stuckAll_27 : decode cX9_stuckAll 27 = .ok (.ireturn, 1) := zd_at zhX9_stuckAll_0 17 rfl
def ziX9_firstOther_0 : List (Nat × Instr × Nat) := [(0, .aload_n 0, 1), (1, .bipush 60, 2), (3, .invokevirtual 410, 3), (6, .iconst 0, 1), (7, .istore_n 3, 1), (8, .iload_n 3, 1), (9, .bipush 10, 2), (11, .if_icmp .ge 36, 3), (14, .aload_n 0, 1), (15, .getfield 38, 3), (18, .bipush 10, 2), (20, .iload_n 2, 1), (21, .imul, 1), (22, .iload_n 3, 1), (23, .iadd, 1), (24, .iaload, 1), (25, .aload_n 0, 1), (26, .getfield 78, 3), (29, .bipush 40, 2), (31, .iload_n 1, 1), (32, .imul, 1), (33, .iload_n 3, 1), (34, .iadd, 1), (35, .iaload, 1), (36, .if_icmp .eq 5, 3), (39, .iload_n 3, 1), (40, .ireturn, 1), (41, .iinc 3 1, 3), (44, .goto (-36), 3), (47, .iconst (-1), 1), (48, .ireturn, 1)]
theorem zhX9_firstOther_0 : zd_chk (cX9_firstOther.data.toList.drop 0) 0 ziX9_firstOther_0 = true := by decide +kernel
theorem dX9_firstOther_0 : decode cX9_firstOther 0 = .ok (.aload_n 0, 1) := zd_at zhX9_firstOther_0 0 rfl
theorem dX9_firstOther_1 : decode cX9_firstOther 1 = .ok (.bipush 60, 2) := zd_at zhX9_firstOther_0 1 rfl
theorem dX9_firstOther_3 : decode cX9_firstOther 3 = .ok (.invokevirtual 410, 3) := zd_at zhX9_firstOther_0 2 rfl
theorem dX9_firstOther_6 : decode cX9_firstOther 6 = .ok (.iconst 0, 1) := zd_at zhX9_firstOther_0 3 rfl
theorem dX9_firstOther_7 : decode cX9_firstOther 7 = .ok (.istore_n 3, 1) := zd_at zhX9_firstOther_0 4 rfl
theorem dX9_firstOther_8 : decode cX9_firstOther 8 = .ok (.iload_n 3, 1) := zd_at zhX9_firstOther_0 5 rfl
theorem dX9_firstOther_9 : decode cX9_firstOther 9 = .ok (.bipush 10, 2) := zd_at zhX9_firstOther_0 6 rfl
theorem dX9_firstOther_11 : decode cX9_firstOther 11 = .ok (.if_icmp .ge 36, 3) := zd_at zhX9_firstOther_0 7 rfl
theorem dX9_firstOther_14 : decode cX9_firstOther 14 = .ok (.aload_n 0, 1) := zd_at zhX9_firstOther_0 8 rfl
theorem dX9_firstOther_15 : decode cX9_firstOther 15 = .ok (.getfield 38, 3) := zd_at zhX9_firstOther_0 9 rfl
theorem dX9_firstOther_18 : decode cX9_firstOther 18 = .ok (.bipush 10, 2) := zd_at zhX9_firstOther_0 10 rfl
theorem dX9_firstOther_20 : decode cX9_firstOther 20 = .ok (.iload_n 2, 1) := zd_at zhX9_firstOther_0 11 rfl
theorem dX9_firstOther_21 : decode cX9_firstOther 21 = .ok (.imul, 1) := zd_at zhX9_firstOther_0 12 rfl
theorem dX9_firstOther_22 : decode cX9_firstOther 22 = .ok (.iload_n 3, 1) := zd_at zhX9_firstOther_0 13 rfl
theorem dX9_firstOther_23 : decode cX9_firstOther 23 = .ok (.iadd, 1) := zd_at zhX9_firstOther_0 14 rfl
theorem dX9_firstOther_24 : decode cX9_firstOther 24 = .ok (.iaload, 1) := zd_at zhX9_firstOther_0 15 rfl
theorem dX9_firstOther_25 : decode cX9_firstOther 25 = .ok (.aload_n 0, 1) := zd_at zhX9_firstOther_0 16 rfl
theorem dX9_firstOther_26 : decode cX9_firstOther 26 = .ok (.getfield 78, 3) := zd_at zhX9_firstOther_0 17 rfl
theorem dX9_firstOther_29 : decode cX9_firstOther 29 = .ok (.bipush 40, 2) := zd_at zhX9_firstOther_0 18 rfl
theorem dX9_firstOther_31 : decode cX9_firstOther 31 = .ok (.iload_n 1, 1) := zd_at zhX9_firstOther_0 19 rfl
theorem dX9_firstOther_32 : decode cX9_firstOther 32 = .ok (.imul, 1) := zd_at zhX9_firstOther_0 20 rfl
theorem dX9_firstOther_33 : decode cX9_firstOther 33 = .ok (.iload_n 3, 1) := zd_at zhX9_firstOther_0 21 rfl
theorem dX9_firstOther_34 : decode cX9_firstOther 34 = .ok (.iadd, 1) := zd_at zhX9_firstOther_0 22 rfl
theorem dX9_firstOther_35 : decode cX9_firstOther 35 = .ok (.iaload, 1) := zd_at zhX9_firstOther_0 23 rfl
theorem dX9_firstOther_36 : decode cX9_firstOther 36 = .ok (.if_icmp .eq 5, 3) := zd_at zhX9_firstOther_0 24 rfl
theorem dX9_firstOther_39 : decode cX9_firstOther 39 = .ok (.iload_n 3, 1) := zd_at zhX9_firstOther_0 25 rfl
theorem dX9_firstOther_40 : decode cX9_firstOther 40 = .ok (.ireturn, 1) := zd_at zhX9_firstOther_0 26 rfl
theorem dX9_firstOther_41 : decode cX9_firstOther 41 = .ok (.iinc 3 1, 3) := zd_at zhX9_firstOther_0 27 rfl
theorem dX9_firstOther_44 : decode cX9_firstOther 44 = .ok (.goto (-36), 3) := zd_at zhX9_firstOther_0 28 rfl
theorem dX9_firstOther_47 : decode cX9_firstOther 47 = .ok (.iconst (-1), 1) := zd_at zhX9_firstOther_0 29 rfl
theorem dX9_firstOther_48 : decode cX9_firstOther 48 = .ok (.ireturn, 1) := zd_at zhX9_firstOther_0 30 rfl
def ziX9_setBy_0 : List (Nat × Instr × Nat) := [(0, .iload_n 3, 1), (1, .iconst 4, 1), (2, .if_icmp .ne 10, 3), (5, .aload_n 0, 1), (6, .getfield 120, 3), (9, .goto 9, 3), (12, .aload_n 0, 1), (13, .iload_n 2, 1), (14, .iload_n 3, 1), (15, .invokevirtual 109, 3), (18, .istore 5, 2), (20, .iconst 0, 1), (21, .istore 6, 2), (23, .iconst 0, 1), (24, .istore 7, 2), (26, .iload 7, 2), (28, .iload 4, 2), (30, .if_icmp .ge 40, 3), (33, .aload_n 0, 1), (34, .iload_n 3, 1), (35, .iload_n 2, 1), (36, .iload 7, 2), (38, .invokevirtual 113, 3), (41, .iload 6, 2), (43, .aload_n 0, 1), (44, .iload_n 1, 1), (45, .iload_n 2, 1), (46, .invokevirtual 430, 3), (49, .iconst (-1), 1), (50, .if_icmp .ne 7, 3), (53, .iconst 1, 1), (54, .goto 4, 3), (57, .iconst 0, 1), (58, .iload 7, 2), (60, .ishl, 1), (61, .ior, 1), (62, .istore 6, 2), (64, .iinc 7 1, 3), (67, .goto (-41), 3), (70, .aload_n 0, 1)]
theorem zhX9_setBy_0 : zd_chk (cX9_setBy.data.toList.drop 0) 0 ziX9_setBy_0 = true := by decide +kernel
theorem dX9_setBy_0 : decode cX9_setBy 0 = .ok (.iload_n 3, 1) := zd_at zhX9_setBy_0 0 rfl
theorem dX9_setBy_1 : decode cX9_setBy 1 = .ok (.iconst 4, 1) := zd_at zhX9_setBy_0 1 rfl
theorem dX9_setBy_2 : decode cX9_setBy 2 = .ok (.if_icmp .ne 10, 3) := zd_at zhX9_setBy_0 2 rfl
theorem dX9_setBy_5 : decode cX9_setBy 5 = .ok (.aload_n 0, 1) := zd_at zhX9_setBy_0 3 rfl
theorem dX9_setBy_6 : decode cX9_setBy 6 = .ok (.getfield 120, 3) := zd_at zhX9_setBy_0 4 rfl
theorem dX9_setBy_9 : decode cX9_setBy 9 = .ok (.goto 9, 3) := zd_at zhX9_setBy_0 5 rfl
theorem dX9_setBy_12 : decode cX9_setBy 12 = .ok (.aload_n 0, 1) := zd_at zhX9_setBy_0 6 rfl
theorem dX9_setBy_13 : decode cX9_setBy 13 = .ok (.iload_n 2, 1) := zd_at zhX9_setBy_0 7 rfl
theorem dX9_setBy_14 : decode cX9_setBy 14 = .ok (.iload_n 3, 1) := zd_at zhX9_setBy_0 8 rfl
theorem dX9_setBy_15 : decode cX9_setBy 15 = .ok (.invokevirtual 109, 3) := zd_at zhX9_setBy_0 9 rfl
theorem dX9_setBy_18 : decode cX9_setBy 18 = .ok (.istore 5, 2) := zd_at zhX9_setBy_0 10 rfl
theorem dX9_setBy_20 : decode cX9_setBy 20 = .ok (.iconst 0, 1) := zd_at zhX9_setBy_0 11 rfl
theorem dX9_setBy_21 : decode cX9_setBy 21 = .ok (.istore 6, 2) := zd_at zhX9_setBy_0 12 rfl
theorem dX9_setBy_23 : decode cX9_setBy 23 = .ok (.iconst 0, 1) := zd_at zhX9_setBy_0 13 rfl
theorem dX9_setBy_24 : decode cX9_setBy 24 = .ok (.istore 7, 2) := zd_at zhX9_setBy_0 14 rfl
theorem dX9_setBy_26 : decode cX9_setBy 26 = .ok (.iload 7, 2) := zd_at zhX9_setBy_0 15 rfl
theorem dX9_setBy_28 : decode cX9_setBy 28 = .ok (.iload 4, 2) := zd_at zhX9_setBy_0 16 rfl
theorem dX9_setBy_30 : decode cX9_setBy 30 = .ok (.if_icmp .ge 40, 3) := zd_at zhX9_setBy_0 17 rfl
theorem dX9_setBy_33 : decode cX9_setBy 33 = .ok (.aload_n 0, 1) := zd_at zhX9_setBy_0 18 rfl
theorem dX9_setBy_34 : decode cX9_setBy 34 = .ok (.iload_n 3, 1) := zd_at zhX9_setBy_0 19 rfl
theorem dX9_setBy_35 : decode cX9_setBy 35 = .ok (.iload_n 2, 1) := zd_at zhX9_setBy_0 20 rfl
theorem dX9_setBy_36 : decode cX9_setBy 36 = .ok (.iload 7, 2) := zd_at zhX9_setBy_0 21 rfl
theorem dX9_setBy_38 : decode cX9_setBy 38 = .ok (.invokevirtual 113, 3) := zd_at zhX9_setBy_0 22 rfl
theorem dX9_setBy_41 : decode cX9_setBy 41 = .ok (.iload 6, 2) := zd_at zhX9_setBy_0 23 rfl
theorem dX9_setBy_43 : decode cX9_setBy 43 = .ok (.aload_n 0, 1) := zd_at zhX9_setBy_0 24 rfl
theorem dX9_setBy_44 : decode cX9_setBy 44 = .ok (.iload_n 1, 1) := zd_at zhX9_setBy_0 25 rfl
theorem dX9_setBy_45 : decode cX9_setBy 45 = .ok (.iload_n 2, 1) := zd_at zhX9_setBy_0 26 rfl
theorem dX9_setBy_46 : decode cX9_setBy 46 = .ok (.invokevirtual 430, 3) := zd_at zhX9_setBy_0 27 rfl
theorem dX9_setBy_49 : decode cX9_setBy 49 = .ok (.iconst (-1), 1) := zd_at zhX9_setBy_0 28 rfl
theorem dX9_setBy_50 : decode cX9_setBy 50 = .ok (.if_icmp .ne 7, 3) := zd_at zhX9_setBy_0 29 rfl
theorem dX9_setBy_53 : decode cX9_setBy 53 = .ok (.iconst 1, 1) := zd_at zhX9_setBy_0 30 rfl
theorem dX9_setBy_54 : decode cX9_setBy 54 = .ok (.goto 4, 3) := zd_at zhX9_setBy_0 31 rfl
theorem dX9_setBy_57 : decode cX9_setBy 57 = .ok (.iconst 0, 1) := zd_at zhX9_setBy_0 32 rfl
theorem dX9_setBy_58 : decode cX9_setBy 58 = .ok (.iload 7, 2) := zd_at zhX9_setBy_0 33 rfl
theorem dX9_setBy_60 : decode cX9_setBy 60 = .ok (.ishl, 1) := zd_at zhX9_setBy_0 34 rfl
theorem dX9_setBy_61 : decode cX9_setBy 61 = .ok (.ior, 1) := zd_at zhX9_setBy_0 35 rfl
theorem dX9_setBy_62 : decode cX9_setBy 62 = .ok (.istore 6, 2) := zd_at zhX9_setBy_0 36 rfl
theorem dX9_setBy_64 : decode cX9_setBy 64 = .ok (.iinc 7 1, 3) := zd_at zhX9_setBy_0 37 rfl
theorem dX9_setBy_67 : decode cX9_setBy 67 = .ok (.goto (-41), 3) := zd_at zhX9_setBy_0 38 rfl
theorem dX9_setBy_70 : decode cX9_setBy 70 = .ok (.aload_n 0, 1) := zd_at zhX9_setBy_0 39 rfl
def ziX9_setBy_71 : List (Nat × Instr × Nat) := [(71, .iload_n 3, 1), (72, .iload_n 2, 1), (73, .iload 5, 2), (75, .invokevirtual 113, 3), (78, .iload 6, 2), (80, .ireturn, 1)]
theorem zhX9_setBy_71 : zd_chk (cX9_setBy.data.toList.drop 71) 71 ziX9_setBy_71 = true := by decide +kernel
theorem dX9_setBy_71 : decode cX9_setBy 71 = .ok (.iload_n 3, 1) := zd_at zhX9_setBy_71 0 rfl
theorem dX9_setBy_72 : decode cX9_setBy 72 = .ok (.iload_n 2, 1) := zd_at zhX9_setBy_71 1 rfl
theorem dX9_setBy_73 : decode cX9_setBy 73 = .ok (.iload 5, 2) := zd_at zhX9_setBy_71 2 rfl
theorem dX9_setBy_75 : decode cX9_setBy 75 = .ok (.invokevirtual 113, 3) := zd_at zhX9_setBy_71 3 rfl
theorem dX9_setBy_78 : decode cX9_setBy 78 = .ok (.iload 6, 2) := zd_at zhX9_setBy_71 4 rfl
theorem dX9_setBy_80 : decode cX9_setBy 80 = .ok (.ireturn, 1) := zd_at zhX9_setBy_71 5 rfl
def ziX9_wordsBy_0 : List (Nat × Instr × Nat) := [(0, .aload_n 0, 1), (1, .getfield 32, 3), (4, .iload_n 3, 1), (5, .iaload, 1), (6, .istore 4, 2), (8, .iconst 0, 1), (9, .istore 5, 2), (11, .iconst 0, 1), (12, .istore 6, 2), (14, .iload 6, 2), (16, .bipush 16, 2), (18, .if_icmp .ge 40, 3), (21, .aload_n 0, 1), (22, .getfield 32, 3), (25, .iload_n 3, 1), (26, .iload 6, 2), (28, .iastore, 1), (29, .iload 5, 2), (31, .aload_n 0, 1), (32, .iload_n 1, 1), (33, .iload_n 2, 1), (34, .invokevirtual 430, 3), (37, .iconst (-1), 1), (38, .if_icmp .ne 7, 3), (41, .iconst 1, 1), (42, .goto 4, 3), (45, .iconst 0, 1), (46, .iload 6, 2), (48, .ishl, 1), (49, .ior, 1), (50, .istore 5, 2), (52, .iinc 6 1, 3), (55, .goto (-41), 3), (58, .aload_n 0, 1), (59, .getfield 32, 3), (62, .iload_n 3, 1), (63, .iload 4, 2), (65, .iastore, 1), (66, .iload 5, 2), (68, .ireturn, 1)]
theorem zhX9_wordsBy_0 : zd_chk (cX9_wordsBy.data.toList.drop 0) 0 ziX9_wordsBy_0 = true := by decide +kernel
theorem dX9_wordsBy_0 : decode cX9_wordsBy 0 = .ok (.aload_n 0, 1) := zd_at zhX9_wordsBy_0 0 rfl
theorem dX9_wordsBy_1 : decode cX9_wordsBy 1 = .ok (.getfield 32, 3) := zd_at zhX9_wordsBy_0 1 rfl
theorem dX9_wordsBy_4 : decode cX9_wordsBy 4 = .ok (.iload_n 3, 1) := zd_at zhX9_wordsBy_0 2 rfl
theorem dX9_wordsBy_5 : decode cX9_wordsBy 5 = .ok (.iaload, 1) := zd_at zhX9_wordsBy_0 3 rfl
theorem dX9_wordsBy_6 : decode cX9_wordsBy 6 = .ok (.istore 4, 2) := zd_at zhX9_wordsBy_0 4 rfl
theorem dX9_wordsBy_8 : decode cX9_wordsBy 8 = .ok (.iconst 0, 1) := zd_at zhX9_wordsBy_0 5 rfl
theorem dX9_wordsBy_9 : decode cX9_wordsBy 9 = .ok (.istore 5, 2) := zd_at zhX9_wordsBy_0 6 rfl
theorem dX9_wordsBy_11 : decode cX9_wordsBy 11 = .ok (.iconst 0, 1) := zd_at zhX9_wordsBy_0 7 rfl
theorem dX9_wordsBy_12 : decode cX9_wordsBy 12 = .ok (.istore 6, 2) := zd_at zhX9_wordsBy_0 8 rfl
theorem dX9_wordsBy_14 : decode cX9_wordsBy 14 = .ok (.iload 6, 2) := zd_at zhX9_wordsBy_0 9 rfl
theorem dX9_wordsBy_16 : decode cX9_wordsBy 16 = .ok (.bipush 16, 2) := zd_at zhX9_wordsBy_0 10 rfl
theorem dX9_wordsBy_18 : decode cX9_wordsBy 18 = .ok (.if_icmp .ge 40, 3) := zd_at zhX9_wordsBy_0 11 rfl
theorem dX9_wordsBy_21 : decode cX9_wordsBy 21 = .ok (.aload_n 0, 1) := zd_at zhX9_wordsBy_0 12 rfl
theorem dX9_wordsBy_22 : decode cX9_wordsBy 22 = .ok (.getfield 32, 3) := zd_at zhX9_wordsBy_0 13 rfl
theorem dX9_wordsBy_25 : decode cX9_wordsBy 25 = .ok (.iload_n 3, 1) := zd_at zhX9_wordsBy_0 14 rfl
theorem dX9_wordsBy_26 : decode cX9_wordsBy 26 = .ok (.iload 6, 2) := zd_at zhX9_wordsBy_0 15 rfl
theorem dX9_wordsBy_28 : decode cX9_wordsBy 28 = .ok (.iastore, 1) := zd_at zhX9_wordsBy_0 16 rfl
theorem dX9_wordsBy_29 : decode cX9_wordsBy 29 = .ok (.iload 5, 2) := zd_at zhX9_wordsBy_0 17 rfl
theorem dX9_wordsBy_31 : decode cX9_wordsBy 31 = .ok (.aload_n 0, 1) := zd_at zhX9_wordsBy_0 18 rfl
theorem dX9_wordsBy_32 : decode cX9_wordsBy 32 = .ok (.iload_n 1, 1) := zd_at zhX9_wordsBy_0 19 rfl
theorem dX9_wordsBy_33 : decode cX9_wordsBy 33 = .ok (.iload_n 2, 1) := zd_at zhX9_wordsBy_0 20 rfl
theorem dX9_wordsBy_34 : decode cX9_wordsBy 34 = .ok (.invokevirtual 430, 3) := zd_at zhX9_wordsBy_0 21 rfl
theorem dX9_wordsBy_37 : decode cX9_wordsBy 37 = .ok (.iconst (-1), 1) := zd_at zhX9_wordsBy_0 22 rfl
theorem dX9_wordsBy_38 : decode cX9_wordsBy 38 = .ok (.if_icmp .ne 7, 3) := zd_at zhX9_wordsBy_0 23 rfl
theorem dX9_wordsBy_41 : decode cX9_wordsBy 41 = .ok (.iconst 1, 1) := zd_at zhX9_wordsBy_0 24 rfl
theorem dX9_wordsBy_42 : decode cX9_wordsBy 42 = .ok (.goto 4, 3) := zd_at zhX9_wordsBy_0 25 rfl
theorem dX9_wordsBy_45 : decode cX9_wordsBy 45 = .ok (.iconst 0, 1) := zd_at zhX9_wordsBy_0 26 rfl
theorem dX9_wordsBy_46 : decode cX9_wordsBy 46 = .ok (.iload 6, 2) := zd_at zhX9_wordsBy_0 27 rfl
theorem dX9_wordsBy_48 : decode cX9_wordsBy 48 = .ok (.ishl, 1) := zd_at zhX9_wordsBy_0 28 rfl
theorem dX9_wordsBy_49 : decode cX9_wordsBy 49 = .ok (.ior, 1) := zd_at zhX9_wordsBy_0 29 rfl
theorem dX9_wordsBy_50 : decode cX9_wordsBy 50 = .ok (.istore 5, 2) := zd_at zhX9_wordsBy_0 30 rfl
theorem dX9_wordsBy_52 : decode cX9_wordsBy 52 = .ok (.iinc 6 1, 3) := zd_at zhX9_wordsBy_0 31 rfl
theorem dX9_wordsBy_55 : decode cX9_wordsBy 55 = .ok (.goto (-41), 3) := zd_at zhX9_wordsBy_0 32 rfl
theorem dX9_wordsBy_58 : decode cX9_wordsBy 58 = .ok (.aload_n 0, 1) := zd_at zhX9_wordsBy_0 33 rfl
theorem dX9_wordsBy_59 : decode cX9_wordsBy 59 = .ok (.getfield 32, 3) := zd_at zhX9_wordsBy_0 34 rfl
theorem dX9_wordsBy_62 : decode cX9_wordsBy 62 = .ok (.iload_n 3, 1) := zd_at zhX9_wordsBy_0 35 rfl
theorem dX9_wordsBy_63 : decode cX9_wordsBy 63 = .ok (.iload 4, 2) := zd_at zhX9_wordsBy_0 36 rfl
theorem dX9_wordsBy_65 : decode cX9_wordsBy 65 = .ok (.iastore, 1) := zd_at zhX9_wordsBy_0 37 rfl
theorem dX9_wordsBy_66 : decode cX9_wordsBy 66 = .ok (.iload 5, 2) := zd_at zhX9_wordsBy_0 38 rfl
theorem dX9_wordsBy_68 : decode cX9_wordsBy 68 = .ok (.ireturn, 1) := zd_at zhX9_wordsBy_0 39 rfl
def ziX9_agesBy_0 : List (Nat × Instr × Nat) := [(0, .aload_n 0, 1), (1, .getfield 35, 3), (4, .iload_n 3, 1), (5, .iaload, 1), (6, .istore 5, 2), (8, .iconst 0, 1), (9, .istore 6, 2), (11, .iconst (-1), 1), (12, .istore 7, 2), (14, .iconst 0, 1), (15, .istore 8, 2), (17, .iload 8, 2), (19, .bipush 60, 2), (21, .if_icmp .gt 45, 3), (24, .aload_n 0, 1), (25, .getfield 35, 3), (28, .iload_n 3, 1), (29, .iload 8, 2), (31, .iastore, 1), (32, .aload_n 0, 1), (33, .iload_n 1, 1), (34, .iload_n 2, 1), (35, .invokevirtual 430, 3), (38, .iconst (-1), 1), (39, .if_icmp .ne 21, 3), (42, .iinc 6 1, 3), (45, .iload 7, 2), (47, .iconst (-1), 1), (48, .if_icmp .ne 8, 3), (51, .iload 8, 2), (53, .goto 5, 3), (56, .iload 7, 2), (58, .istore 7, 2), (60, .iinc 8 1, 3), (63, .goto (-46), 3), (66, .aload_n 0, 1), (67, .getfield 35, 3), (70, .iload_n 3, 1), (71, .iload 5, 2), (73, .iastore, 1)]
theorem zhX9_agesBy_0 : zd_chk (cX9_agesBy.data.toList.drop 0) 0 ziX9_agesBy_0 = true := by decide +kernel
theorem dX9_agesBy_0 : decode cX9_agesBy 0 = .ok (.aload_n 0, 1) := zd_at zhX9_agesBy_0 0 rfl
theorem dX9_agesBy_1 : decode cX9_agesBy 1 = .ok (.getfield 35, 3) := zd_at zhX9_agesBy_0 1 rfl
theorem dX9_agesBy_4 : decode cX9_agesBy 4 = .ok (.iload_n 3, 1) := zd_at zhX9_agesBy_0 2 rfl
theorem dX9_agesBy_5 : decode cX9_agesBy 5 = .ok (.iaload, 1) := zd_at zhX9_agesBy_0 3 rfl
theorem dX9_agesBy_6 : decode cX9_agesBy 6 = .ok (.istore 5, 2) := zd_at zhX9_agesBy_0 4 rfl
theorem dX9_agesBy_8 : decode cX9_agesBy 8 = .ok (.iconst 0, 1) := zd_at zhX9_agesBy_0 5 rfl
theorem dX9_agesBy_9 : decode cX9_agesBy 9 = .ok (.istore 6, 2) := zd_at zhX9_agesBy_0 6 rfl
theorem dX9_agesBy_11 : decode cX9_agesBy 11 = .ok (.iconst (-1), 1) := zd_at zhX9_agesBy_0 7 rfl
theorem dX9_agesBy_12 : decode cX9_agesBy 12 = .ok (.istore 7, 2) := zd_at zhX9_agesBy_0 8 rfl
theorem dX9_agesBy_14 : decode cX9_agesBy 14 = .ok (.iconst 0, 1) := zd_at zhX9_agesBy_0 9 rfl
theorem dX9_agesBy_15 : decode cX9_agesBy 15 = .ok (.istore 8, 2) := zd_at zhX9_agesBy_0 10 rfl
theorem dX9_agesBy_17 : decode cX9_agesBy 17 = .ok (.iload 8, 2) := zd_at zhX9_agesBy_0 11 rfl
theorem dX9_agesBy_19 : decode cX9_agesBy 19 = .ok (.bipush 60, 2) := zd_at zhX9_agesBy_0 12 rfl
theorem dX9_agesBy_21 : decode cX9_agesBy 21 = .ok (.if_icmp .gt 45, 3) := zd_at zhX9_agesBy_0 13 rfl
theorem dX9_agesBy_24 : decode cX9_agesBy 24 = .ok (.aload_n 0, 1) := zd_at zhX9_agesBy_0 14 rfl
theorem dX9_agesBy_25 : decode cX9_agesBy 25 = .ok (.getfield 35, 3) := zd_at zhX9_agesBy_0 15 rfl
theorem dX9_agesBy_28 : decode cX9_agesBy 28 = .ok (.iload_n 3, 1) := zd_at zhX9_agesBy_0 16 rfl
theorem dX9_agesBy_29 : decode cX9_agesBy 29 = .ok (.iload 8, 2) := zd_at zhX9_agesBy_0 17 rfl
theorem dX9_agesBy_31 : decode cX9_agesBy 31 = .ok (.iastore, 1) := zd_at zhX9_agesBy_0 18 rfl
theorem dX9_agesBy_32 : decode cX9_agesBy 32 = .ok (.aload_n 0, 1) := zd_at zhX9_agesBy_0 19 rfl
theorem dX9_agesBy_33 : decode cX9_agesBy 33 = .ok (.iload_n 1, 1) := zd_at zhX9_agesBy_0 20 rfl
theorem dX9_agesBy_34 : decode cX9_agesBy 34 = .ok (.iload_n 2, 1) := zd_at zhX9_agesBy_0 21 rfl
theorem dX9_agesBy_35 : decode cX9_agesBy 35 = .ok (.invokevirtual 430, 3) := zd_at zhX9_agesBy_0 22 rfl
theorem dX9_agesBy_38 : decode cX9_agesBy 38 = .ok (.iconst (-1), 1) := zd_at zhX9_agesBy_0 23 rfl
theorem dX9_agesBy_39 : decode cX9_agesBy 39 = .ok (.if_icmp .ne 21, 3) := zd_at zhX9_agesBy_0 24 rfl
theorem dX9_agesBy_42 : decode cX9_agesBy 42 = .ok (.iinc 6 1, 3) := zd_at zhX9_agesBy_0 25 rfl
theorem dX9_agesBy_45 : decode cX9_agesBy 45 = .ok (.iload 7, 2) := zd_at zhX9_agesBy_0 26 rfl
theorem dX9_agesBy_47 : decode cX9_agesBy 47 = .ok (.iconst (-1), 1) := zd_at zhX9_agesBy_0 27 rfl
theorem dX9_agesBy_48 : decode cX9_agesBy 48 = .ok (.if_icmp .ne 8, 3) := zd_at zhX9_agesBy_0 28 rfl
theorem dX9_agesBy_51 : decode cX9_agesBy 51 = .ok (.iload 8, 2) := zd_at zhX9_agesBy_0 29 rfl
theorem dX9_agesBy_53 : decode cX9_agesBy 53 = .ok (.goto 5, 3) := zd_at zhX9_agesBy_0 30 rfl
theorem dX9_agesBy_56 : decode cX9_agesBy 56 = .ok (.iload 7, 2) := zd_at zhX9_agesBy_0 31 rfl
theorem dX9_agesBy_58 : decode cX9_agesBy 58 = .ok (.istore 7, 2) := zd_at zhX9_agesBy_0 32 rfl
theorem dX9_agesBy_60 : decode cX9_agesBy 60 = .ok (.iinc 8 1, 3) := zd_at zhX9_agesBy_0 33 rfl
theorem dX9_agesBy_63 : decode cX9_agesBy 63 = .ok (.goto (-46), 3) := zd_at zhX9_agesBy_0 34 rfl
theorem dX9_agesBy_66 : decode cX9_agesBy 66 = .ok (.aload_n 0, 1) := zd_at zhX9_agesBy_0 35 rfl
theorem dX9_agesBy_67 : decode cX9_agesBy 67 = .ok (.getfield 35, 3) := zd_at zhX9_agesBy_0 36 rfl
theorem dX9_agesBy_70 : decode cX9_agesBy 70 = .ok (.iload_n 3, 1) := zd_at zhX9_agesBy_0 37 rfl
theorem dX9_agesBy_71 : decode cX9_agesBy 71 = .ok (.iload 5, 2) := zd_at zhX9_agesBy_0 38 rfl
theorem dX9_agesBy_73 : decode cX9_agesBy 73 = .ok (.iastore, 1) := zd_at zhX9_agesBy_0 39 rfl
def ziX9_agesBy_74 : List (Nat × Instr × Nat) := [(74, .iload 4, 2), (76, .ifCond .eq 8, 3), (79, .iload 6, 2), (81, .goto 5, 3), (84, .iload 7, 2), (86, .ireturn, 1)]
theorem zhX9_agesBy_74 : zd_chk (cX9_agesBy.data.toList.drop 74) 74 ziX9_agesBy_74 = true := by decide +kernel
theorem dX9_agesBy_74 : decode cX9_agesBy 74 = .ok (.iload 4, 2) := zd_at zhX9_agesBy_74 0 rfl
theorem dX9_agesBy_76 : decode cX9_agesBy 76 = .ok (.ifCond .eq 8, 3) := zd_at zhX9_agesBy_74 1 rfl
theorem dX9_agesBy_79 : decode cX9_agesBy 79 = .ok (.iload 6, 2) := zd_at zhX9_agesBy_74 2 rfl
theorem dX9_agesBy_81 : decode cX9_agesBy 81 = .ok (.goto 5, 3) := zd_at zhX9_agesBy_74 3 rfl
theorem dX9_agesBy_84 : decode cX9_agesBy 84 = .ok (.iload 7, 2) := zd_at zhX9_agesBy_74 4 rfl
theorem dX9_agesBy_86 : decode cX9_agesBy 86 = .ok (.ireturn, 1) := zd_at zhX9_agesBy_74 5 rfl
def ziX9_tells_0 : List (Nat × Instr × Nat) := [(0, .iload_n 1, 1), (1, .invokestatic 421, 3), (4, .ifCond .eq 37, 3), (7, .aload_n 0, 1), (8, .iload_n 2, 1), (9, .invokevirtual 101, 3), (12, .ifCond .eq 29, 3), (15, .iload_n 3, 1), (16, .i2l, 1), (17, .lconst 0, 1), (18, .ldc2_w 433, 3), (21, .invokestatic 91, 3), (24, .ifCond .ne 20, 3), (27, .iload_n 3, 1), (28, .i2l, 1), (29, .ldc2_w 127, 3), (32, .ldc2_w 129, 3), (35, .invokestatic 91, 3), (38, .ifCond .ne 6, 3), (41, .bipush (-2), 2), (43, .ireturn, 1), (44, .aload_n 0, 1), (45, .getfield 68, 3), (48, .iload_n 1, 1), (49, .baload, 1), (50, .ifCond .ne 6, 3), (53, .bipush (-11), 2), (55, .ireturn, 1), (56, .aload_n 0, 1), (57, .getfield 75, 3), (60, .iload_n 1, 1), (61, .iaload, 1), (62, .bipush 10, 2), (64, .if_icmp .eq 6, 3), (67, .bipush (-2), 2), (69, .ireturn, 1), (70, .iload_n 3, 1), (71, .iconst 4, 1), (72, .if_icmp .ge 62, 3), (75, .iload_n 3, 1)]
theorem zhX9_tells_0 : zd_chk (cX9_tells.data.toList.drop 0) 0 ziX9_tells_0 = true := by decide +kernel
theorem dX9_tells_0 : decode cX9_tells 0 = .ok (.iload_n 1, 1) := zd_at zhX9_tells_0 0 rfl
theorem dX9_tells_1 : decode cX9_tells 1 = .ok (.invokestatic 421, 3) := zd_at zhX9_tells_0 1 rfl
theorem dX9_tells_4 : decode cX9_tells 4 = .ok (.ifCond .eq 37, 3) := zd_at zhX9_tells_0 2 rfl
theorem dX9_tells_7 : decode cX9_tells 7 = .ok (.aload_n 0, 1) := zd_at zhX9_tells_0 3 rfl
theorem dX9_tells_8 : decode cX9_tells 8 = .ok (.iload_n 2, 1) := zd_at zhX9_tells_0 4 rfl
theorem dX9_tells_9 : decode cX9_tells 9 = .ok (.invokevirtual 101, 3) := zd_at zhX9_tells_0 5 rfl
theorem dX9_tells_12 : decode cX9_tells 12 = .ok (.ifCond .eq 29, 3) := zd_at zhX9_tells_0 6 rfl
theorem dX9_tells_15 : decode cX9_tells 15 = .ok (.iload_n 3, 1) := zd_at zhX9_tells_0 7 rfl
theorem dX9_tells_16 : decode cX9_tells 16 = .ok (.i2l, 1) := zd_at zhX9_tells_0 8 rfl
theorem dX9_tells_17 : decode cX9_tells 17 = .ok (.lconst 0, 1) := zd_at zhX9_tells_0 9 rfl
theorem dX9_tells_18 : decode cX9_tells 18 = .ok (.ldc2_w 433, 3) := zd_at zhX9_tells_0 10 rfl
theorem dX9_tells_21 : decode cX9_tells 21 = .ok (.invokestatic 91, 3) := zd_at zhX9_tells_0 11 rfl
theorem dX9_tells_24 : decode cX9_tells 24 = .ok (.ifCond .ne 20, 3) := zd_at zhX9_tells_0 12 rfl
theorem dX9_tells_27 : decode cX9_tells 27 = .ok (.iload_n 3, 1) := zd_at zhX9_tells_0 13 rfl
theorem dX9_tells_28 : decode cX9_tells 28 = .ok (.i2l, 1) := zd_at zhX9_tells_0 14 rfl
theorem dX9_tells_29 : decode cX9_tells 29 = .ok (.ldc2_w 127, 3) := zd_at zhX9_tells_0 15 rfl
theorem dX9_tells_32 : decode cX9_tells 32 = .ok (.ldc2_w 129, 3) := zd_at zhX9_tells_0 16 rfl
theorem dX9_tells_35 : decode cX9_tells 35 = .ok (.invokestatic 91, 3) := zd_at zhX9_tells_0 17 rfl
theorem dX9_tells_38 : decode cX9_tells 38 = .ok (.ifCond .ne 6, 3) := zd_at zhX9_tells_0 18 rfl
theorem dX9_tells_41 : decode cX9_tells 41 = .ok (.bipush (-2), 2) := zd_at zhX9_tells_0 19 rfl
theorem dX9_tells_43 : decode cX9_tells 43 = .ok (.ireturn, 1) := zd_at zhX9_tells_0 20 rfl
theorem dX9_tells_44 : decode cX9_tells 44 = .ok (.aload_n 0, 1) := zd_at zhX9_tells_0 21 rfl
theorem dX9_tells_45 : decode cX9_tells 45 = .ok (.getfield 68, 3) := zd_at zhX9_tells_0 22 rfl
theorem dX9_tells_48 : decode cX9_tells 48 = .ok (.iload_n 1, 1) := zd_at zhX9_tells_0 23 rfl
theorem dX9_tells_49 : decode cX9_tells 49 = .ok (.baload, 1) := zd_at zhX9_tells_0 24 rfl
theorem dX9_tells_50 : decode cX9_tells 50 = .ok (.ifCond .ne 6, 3) := zd_at zhX9_tells_0 25 rfl
theorem dX9_tells_53 : decode cX9_tells 53 = .ok (.bipush (-11), 2) := zd_at zhX9_tells_0 26 rfl
theorem dX9_tells_55 : decode cX9_tells 55 = .ok (.ireturn, 1) := zd_at zhX9_tells_0 27 rfl
theorem dX9_tells_56 : decode cX9_tells 56 = .ok (.aload_n 0, 1) := zd_at zhX9_tells_0 28 rfl
theorem dX9_tells_57 : decode cX9_tells 57 = .ok (.getfield 75, 3) := zd_at zhX9_tells_0 29 rfl
theorem dX9_tells_60 : decode cX9_tells 60 = .ok (.iload_n 1, 1) := zd_at zhX9_tells_0 30 rfl
theorem dX9_tells_61 : decode cX9_tells 61 = .ok (.iaload, 1) := zd_at zhX9_tells_0 31 rfl
theorem dX9_tells_62 : decode cX9_tells 62 = .ok (.bipush 10, 2) := zd_at zhX9_tells_0 32 rfl
theorem dX9_tells_64 : decode cX9_tells 64 = .ok (.if_icmp .eq 6, 3) := zd_at zhX9_tells_0 33 rfl
theorem dX9_tells_67 : decode cX9_tells 67 = .ok (.bipush (-2), 2) := zd_at zhX9_tells_0 34 rfl
theorem dX9_tells_69 : decode cX9_tells 69 = .ok (.ireturn, 1) := zd_at zhX9_tells_0 35 rfl
theorem dX9_tells_70 : decode cX9_tells 70 = .ok (.iload_n 3, 1) := zd_at zhX9_tells_0 36 rfl
theorem dX9_tells_71 : decode cX9_tells 71 = .ok (.iconst 4, 1) := zd_at zhX9_tells_0 37 rfl
theorem dX9_tells_72 : decode cX9_tells 72 = .ok (.if_icmp .ge 62, 3) := zd_at zhX9_tells_0 38 rfl
theorem dX9_tells_75 : decode cX9_tells 75 = .ok (.iload_n 3, 1) := zd_at zhX9_tells_0 39 rfl
def ziX9_tells_76 : List (Nat × Instr × Nat) := [(76, .ifCond .ne 12, 3), (79, .aload_n 0, 1), (80, .iload_n 1, 1), (81, .iload_n 2, 1), (82, .invokevirtual 430, 3), (85, .goto 48, 3), (88, .iload_n 3, 1), (89, .iconst 1, 1), (90, .if_icmp .ne 15, 3), (93, .aload_n 0, 1), (94, .iload_n 1, 1), (95, .iload_n 2, 1), (96, .iconst 3, 1), (97, .bipush 6, 2), (99, .invokevirtual 435, 3), (102, .goto 31, 3), (105, .iload_n 3, 1), (106, .iconst 2, 1), (107, .if_icmp .ne 15, 3), (110, .aload_n 0, 1), (111, .iload_n 1, 1), (112, .iload_n 2, 1), (113, .iconst 2, 1), (114, .bipush 10, 2), (116, .invokevirtual 435, 3), (119, .goto 14, 3), (122, .aload_n 0, 1), (123, .iload_n 1, 1), (124, .iload_n 2, 1), (125, .iconst 4, 1), (126, .aload_n 0, 1), (127, .getfield 85, 3), (130, .invokevirtual 435, 3), (133, .ireturn, 1), (134, .bipush 10, 2), (136, .iload_n 2, 1), (137, .imul, 1), (138, .iload_n 3, 1), (139, .bipush 10, 2), (141, .irem, 1)]
theorem zhX9_tells_76 : zd_chk (cX9_tells.data.toList.drop 76) 76 ziX9_tells_76 = true := by decide +kernel
theorem dX9_tells_76 : decode cX9_tells 76 = .ok (.ifCond .ne 12, 3) := zd_at zhX9_tells_76 0 rfl
theorem dX9_tells_79 : decode cX9_tells 79 = .ok (.aload_n 0, 1) := zd_at zhX9_tells_76 1 rfl
theorem dX9_tells_80 : decode cX9_tells 80 = .ok (.iload_n 1, 1) := zd_at zhX9_tells_76 2 rfl
theorem dX9_tells_81 : decode cX9_tells 81 = .ok (.iload_n 2, 1) := zd_at zhX9_tells_76 3 rfl
theorem dX9_tells_82 : decode cX9_tells 82 = .ok (.invokevirtual 430, 3) := zd_at zhX9_tells_76 4 rfl
theorem dX9_tells_85 : decode cX9_tells 85 = .ok (.goto 48, 3) := zd_at zhX9_tells_76 5 rfl
theorem dX9_tells_88 : decode cX9_tells 88 = .ok (.iload_n 3, 1) := zd_at zhX9_tells_76 6 rfl
theorem dX9_tells_89 : decode cX9_tells 89 = .ok (.iconst 1, 1) := zd_at zhX9_tells_76 7 rfl
theorem dX9_tells_90 : decode cX9_tells 90 = .ok (.if_icmp .ne 15, 3) := zd_at zhX9_tells_76 8 rfl
theorem dX9_tells_93 : decode cX9_tells 93 = .ok (.aload_n 0, 1) := zd_at zhX9_tells_76 9 rfl
theorem dX9_tells_94 : decode cX9_tells 94 = .ok (.iload_n 1, 1) := zd_at zhX9_tells_76 10 rfl
theorem dX9_tells_95 : decode cX9_tells 95 = .ok (.iload_n 2, 1) := zd_at zhX9_tells_76 11 rfl
theorem dX9_tells_96 : decode cX9_tells 96 = .ok (.iconst 3, 1) := zd_at zhX9_tells_76 12 rfl
theorem dX9_tells_97 : decode cX9_tells 97 = .ok (.bipush 6, 2) := zd_at zhX9_tells_76 13 rfl
theorem dX9_tells_99 : decode cX9_tells 99 = .ok (.invokevirtual 435, 3) := zd_at zhX9_tells_76 14 rfl
theorem dX9_tells_102 : decode cX9_tells 102 = .ok (.goto 31, 3) := zd_at zhX9_tells_76 15 rfl
theorem dX9_tells_105 : decode cX9_tells 105 = .ok (.iload_n 3, 1) := zd_at zhX9_tells_76 16 rfl
theorem dX9_tells_106 : decode cX9_tells 106 = .ok (.iconst 2, 1) := zd_at zhX9_tells_76 17 rfl
theorem dX9_tells_107 : decode cX9_tells 107 = .ok (.if_icmp .ne 15, 3) := zd_at zhX9_tells_76 18 rfl
theorem dX9_tells_110 : decode cX9_tells 110 = .ok (.aload_n 0, 1) := zd_at zhX9_tells_76 19 rfl
theorem dX9_tells_111 : decode cX9_tells 111 = .ok (.iload_n 1, 1) := zd_at zhX9_tells_76 20 rfl
theorem dX9_tells_112 : decode cX9_tells 112 = .ok (.iload_n 2, 1) := zd_at zhX9_tells_76 21 rfl
theorem dX9_tells_113 : decode cX9_tells 113 = .ok (.iconst 2, 1) := zd_at zhX9_tells_76 22 rfl
theorem dX9_tells_114 : decode cX9_tells 114 = .ok (.bipush 10, 2) := zd_at zhX9_tells_76 23 rfl
theorem dX9_tells_116 : decode cX9_tells 116 = .ok (.invokevirtual 435, 3) := zd_at zhX9_tells_76 24 rfl
theorem dX9_tells_119 : decode cX9_tells 119 = .ok (.goto 14, 3) := zd_at zhX9_tells_76 25 rfl
theorem dX9_tells_122 : decode cX9_tells 122 = .ok (.aload_n 0, 1) := zd_at zhX9_tells_76 26 rfl
theorem dX9_tells_123 : decode cX9_tells 123 = .ok (.iload_n 1, 1) := zd_at zhX9_tells_76 27 rfl
theorem dX9_tells_124 : decode cX9_tells 124 = .ok (.iload_n 2, 1) := zd_at zhX9_tells_76 28 rfl
theorem dX9_tells_125 : decode cX9_tells 125 = .ok (.iconst 4, 1) := zd_at zhX9_tells_76 29 rfl
theorem dX9_tells_126 : decode cX9_tells 126 = .ok (.aload_n 0, 1) := zd_at zhX9_tells_76 30 rfl
theorem dX9_tells_127 : decode cX9_tells 127 = .ok (.getfield 85, 3) := zd_at zhX9_tells_76 31 rfl
theorem dX9_tells_130 : decode cX9_tells 130 = .ok (.invokevirtual 435, 3) := zd_at zhX9_tells_76 32 rfl
theorem dX9_tells_133 : decode cX9_tells 133 = .ok (.ireturn, 1) := zd_at zhX9_tells_76 33 rfl
theorem dX9_tells_134 : decode cX9_tells 134 = .ok (.bipush 10, 2) := zd_at zhX9_tells_76 34 rfl
theorem dX9_tells_136 : decode cX9_tells 136 = .ok (.iload_n 2, 1) := zd_at zhX9_tells_76 35 rfl
theorem dX9_tells_137 : decode cX9_tells 137 = .ok (.imul, 1) := zd_at zhX9_tells_76 36 rfl
theorem dX9_tells_138 : decode cX9_tells 138 = .ok (.iload_n 3, 1) := zd_at zhX9_tells_76 37 rfl
theorem dX9_tells_139 : decode cX9_tells 139 = .ok (.bipush 10, 2) := zd_at zhX9_tells_76 38 rfl
theorem dX9_tells_141 : decode cX9_tells 141 = .ok (.irem, 1) := zd_at zhX9_tells_76 39 rfl
def ziX9_tells_142 : List (Nat × Instr × Nat) := [(142, .iadd, 1), (143, .istore 4, 2), (145, .aload_n 0, 1), (146, .getfield 32, 3), (149, .iload 4, 2), (151, .iaload, 1), (152, .iconst (-1), 1), (153, .if_icmp .ne 15, 3), (156, .iload_n 3, 1), (157, .bipush 30, 2), (159, .if_icmp .ge 7, 3), (162, .iconst 0, 1), (163, .goto 4, 3), (166, .iconst (-1), 1), (167, .ireturn, 1), (168, .iload_n 3, 1), (169, .bipush 20, 2), (171, .if_icmp .ge 14, 3), (174, .aload_n 0, 1), (175, .iload_n 1, 1), (176, .iload_n 2, 1), (177, .iload 4, 2), (179, .invokevirtual 439, 3), (182, .goto 22, 3), (185, .aload_n 0, 1), (186, .iload_n 1, 1), (187, .iload_n 2, 1), (188, .iload 4, 2), (190, .iload_n 3, 1), (191, .bipush 30, 2), (193, .if_icmp .ge 7, 3), (196, .iconst 1, 1), (197, .goto 4, 3), (200, .iconst 0, 1), (201, .invokevirtual 442, 3), (204, .ireturn, 1)]
theorem zhX9_tells_142 : zd_chk (cX9_tells.data.toList.drop 142) 142 ziX9_tells_142 = true := by decide +kernel
theorem dX9_tells_142 : decode cX9_tells 142 = .ok (.iadd, 1) := zd_at zhX9_tells_142 0 rfl
theorem dX9_tells_143 : decode cX9_tells 143 = .ok (.istore 4, 2) := zd_at zhX9_tells_142 1 rfl
theorem dX9_tells_145 : decode cX9_tells 145 = .ok (.aload_n 0, 1) := zd_at zhX9_tells_142 2 rfl
theorem dX9_tells_146 : decode cX9_tells 146 = .ok (.getfield 32, 3) := zd_at zhX9_tells_142 3 rfl
theorem dX9_tells_149 : decode cX9_tells 149 = .ok (.iload 4, 2) := zd_at zhX9_tells_142 4 rfl
theorem dX9_tells_151 : decode cX9_tells 151 = .ok (.iaload, 1) := zd_at zhX9_tells_142 5 rfl
theorem dX9_tells_152 : decode cX9_tells 152 = .ok (.iconst (-1), 1) := zd_at zhX9_tells_142 6 rfl
theorem dX9_tells_153 : decode cX9_tells 153 = .ok (.if_icmp .ne 15, 3) := zd_at zhX9_tells_142 7 rfl
theorem dX9_tells_156 : decode cX9_tells 156 = .ok (.iload_n 3, 1) := zd_at zhX9_tells_142 8 rfl
theorem dX9_tells_157 : decode cX9_tells 157 = .ok (.bipush 30, 2) := zd_at zhX9_tells_142 9 rfl
theorem dX9_tells_159 : decode cX9_tells 159 = .ok (.if_icmp .ge 7, 3) := zd_at zhX9_tells_142 10 rfl
theorem dX9_tells_162 : decode cX9_tells 162 = .ok (.iconst 0, 1) := zd_at zhX9_tells_142 11 rfl
theorem dX9_tells_163 : decode cX9_tells 163 = .ok (.goto 4, 3) := zd_at zhX9_tells_142 12 rfl
theorem dX9_tells_166 : decode cX9_tells 166 = .ok (.iconst (-1), 1) := zd_at zhX9_tells_142 13 rfl
theorem dX9_tells_167 : decode cX9_tells 167 = .ok (.ireturn, 1) := zd_at zhX9_tells_142 14 rfl
theorem dX9_tells_168 : decode cX9_tells 168 = .ok (.iload_n 3, 1) := zd_at zhX9_tells_142 15 rfl
theorem dX9_tells_169 : decode cX9_tells 169 = .ok (.bipush 20, 2) := zd_at zhX9_tells_142 16 rfl
theorem dX9_tells_171 : decode cX9_tells 171 = .ok (.if_icmp .ge 14, 3) := zd_at zhX9_tells_142 17 rfl
theorem dX9_tells_174 : decode cX9_tells 174 = .ok (.aload_n 0, 1) := zd_at zhX9_tells_142 18 rfl
theorem dX9_tells_175 : decode cX9_tells 175 = .ok (.iload_n 1, 1) := zd_at zhX9_tells_142 19 rfl
theorem dX9_tells_176 : decode cX9_tells 176 = .ok (.iload_n 2, 1) := zd_at zhX9_tells_142 20 rfl
theorem dX9_tells_177 : decode cX9_tells 177 = .ok (.iload 4, 2) := zd_at zhX9_tells_142 21 rfl
theorem dX9_tells_179 : decode cX9_tells 179 = .ok (.invokevirtual 439, 3) := zd_at zhX9_tells_142 22 rfl
theorem dX9_tells_182 : decode cX9_tells 182 = .ok (.goto 22, 3) := zd_at zhX9_tells_142 23 rfl
theorem dX9_tells_185 : decode cX9_tells 185 = .ok (.aload_n 0, 1) := zd_at zhX9_tells_142 24 rfl
theorem dX9_tells_186 : decode cX9_tells 186 = .ok (.iload_n 1, 1) := zd_at zhX9_tells_142 25 rfl
theorem dX9_tells_187 : decode cX9_tells 187 = .ok (.iload_n 2, 1) := zd_at zhX9_tells_142 26 rfl
theorem dX9_tells_188 : decode cX9_tells 188 = .ok (.iload 4, 2) := zd_at zhX9_tells_142 27 rfl
theorem dX9_tells_190 : decode cX9_tells 190 = .ok (.iload_n 3, 1) := zd_at zhX9_tells_142 28 rfl
theorem dX9_tells_191 : decode cX9_tells 191 = .ok (.bipush 30, 2) := zd_at zhX9_tells_142 29 rfl
theorem dX9_tells_193 : decode cX9_tells 193 = .ok (.if_icmp .ge 7, 3) := zd_at zhX9_tells_142 30 rfl
theorem dX9_tells_196 : decode cX9_tells 196 = .ok (.iconst 1, 1) := zd_at zhX9_tells_142 31 rfl
theorem dX9_tells_197 : decode cX9_tells 197 = .ok (.goto 4, 3) := zd_at zhX9_tells_142 32 rfl
theorem dX9_tells_200 : decode cX9_tells 200 = .ok (.iconst 0, 1) := zd_at zhX9_tells_142 33 rfl
theorem dX9_tells_201 : decode cX9_tells 201 = .ok (.invokevirtual 442, 3) := zd_at zhX9_tells_142 34 rfl
theorem dX9_tells_204 : decode cX9_tells 204 = .ok (.ireturn, 1) := zd_at zhX9_tells_142 35 rfl
def ziX9_film_0 : List (Nat × Instr × Nat) := [(0, .iload_n 1, 1), (1, .invokestatic 421, 3), (4, .ifCond .eq 11, 3), (7, .aload_n 0, 1), (8, .iload_n 2, 1), (9, .invokevirtual 101, 3), (12, .ifCond .ne 6, 3), (15, .bipush (-2), 2), (17, .ireturn, 1), (18, .aload_n 0, 1), (19, .bipush 60, 2), (21, .invokevirtual 410, 3), (24, .aload_n 0, 1), (25, .iload_n 1, 1), (26, .iconst 0, 1), (27, .bipush 10, 2), (29, .invokevirtual 446, 3), (32, .pop, 1), (33, .iconst 0, 1), (34, .istore_n 3, 1), (35, .iload_n 3, 1), (36, .bipush 10, 2), (38, .if_icmp .ge 31, 3), (41, .aload_n 0, 1), (42, .getfield 78, 3), (45, .bipush 40, 2), (47, .iload_n 1, 1), (48, .imul, 1), (49, .iload_n 3, 1), (50, .iadd, 1), (51, .aload_n 0, 1), (52, .getfield 38, 3), (55, .bipush 10, 2), (57, .iload_n 2, 1), (58, .imul, 1), (59, .iload_n 3, 1), (60, .iadd, 1), (61, .iaload, 1), (62, .iastore, 1), (63, .iinc 3 1, 3)]
theorem zhX9_film_0 : zd_chk (cX9_film.data.toList.drop 0) 0 ziX9_film_0 = true := by decide +kernel
theorem dX9_film_0 : decode cX9_film 0 = .ok (.iload_n 1, 1) := zd_at zhX9_film_0 0 rfl
theorem dX9_film_1 : decode cX9_film 1 = .ok (.invokestatic 421, 3) := zd_at zhX9_film_0 1 rfl
theorem dX9_film_4 : decode cX9_film 4 = .ok (.ifCond .eq 11, 3) := zd_at zhX9_film_0 2 rfl
theorem dX9_film_7 : decode cX9_film 7 = .ok (.aload_n 0, 1) := zd_at zhX9_film_0 3 rfl
theorem dX9_film_8 : decode cX9_film 8 = .ok (.iload_n 2, 1) := zd_at zhX9_film_0 4 rfl
theorem dX9_film_9 : decode cX9_film 9 = .ok (.invokevirtual 101, 3) := zd_at zhX9_film_0 5 rfl
theorem dX9_film_12 : decode cX9_film 12 = .ok (.ifCond .ne 6, 3) := zd_at zhX9_film_0 6 rfl
theorem dX9_film_15 : decode cX9_film 15 = .ok (.bipush (-2), 2) := zd_at zhX9_film_0 7 rfl
theorem dX9_film_17 : decode cX9_film 17 = .ok (.ireturn, 1) := zd_at zhX9_film_0 8 rfl
theorem dX9_film_18 : decode cX9_film 18 = .ok (.aload_n 0, 1) := zd_at zhX9_film_0 9 rfl
theorem dX9_film_19 : decode cX9_film 19 = .ok (.bipush 60, 2) := zd_at zhX9_film_0 10 rfl
theorem dX9_film_21 : decode cX9_film 21 = .ok (.invokevirtual 410, 3) := zd_at zhX9_film_0 11 rfl
theorem dX9_film_24 : decode cX9_film 24 = .ok (.aload_n 0, 1) := zd_at zhX9_film_0 12 rfl
theorem dX9_film_25 : decode cX9_film 25 = .ok (.iload_n 1, 1) := zd_at zhX9_film_0 13 rfl
theorem dX9_film_26 : decode cX9_film 26 = .ok (.iconst 0, 1) := zd_at zhX9_film_0 14 rfl
theorem dX9_film_27 : decode cX9_film 27 = .ok (.bipush 10, 2) := zd_at zhX9_film_0 15 rfl
theorem dX9_film_29 : decode cX9_film 29 = .ok (.invokevirtual 446, 3) := zd_at zhX9_film_0 16 rfl
theorem dX9_film_32 : decode cX9_film 32 = .ok (.pop, 1) := zd_at zhX9_film_0 17 rfl
theorem dX9_film_33 : decode cX9_film 33 = .ok (.iconst 0, 1) := zd_at zhX9_film_0 18 rfl
theorem dX9_film_34 : decode cX9_film 34 = .ok (.istore_n 3, 1) := zd_at zhX9_film_0 19 rfl
theorem dX9_film_35 : decode cX9_film 35 = .ok (.iload_n 3, 1) := zd_at zhX9_film_0 20 rfl
theorem dX9_film_36 : decode cX9_film 36 = .ok (.bipush 10, 2) := zd_at zhX9_film_0 21 rfl
theorem dX9_film_38 : decode cX9_film 38 = .ok (.if_icmp .ge 31, 3) := zd_at zhX9_film_0 22 rfl
theorem dX9_film_41 : decode cX9_film 41 = .ok (.aload_n 0, 1) := zd_at zhX9_film_0 23 rfl
theorem dX9_film_42 : decode cX9_film 42 = .ok (.getfield 78, 3) := zd_at zhX9_film_0 24 rfl
theorem dX9_film_45 : decode cX9_film 45 = .ok (.bipush 40, 2) := zd_at zhX9_film_0 25 rfl
theorem dX9_film_47 : decode cX9_film 47 = .ok (.iload_n 1, 1) := zd_at zhX9_film_0 26 rfl
theorem dX9_film_48 : decode cX9_film 48 = .ok (.imul, 1) := zd_at zhX9_film_0 27 rfl
theorem dX9_film_49 : decode cX9_film 49 = .ok (.iload_n 3, 1) := zd_at zhX9_film_0 28 rfl
theorem dX9_film_50 : decode cX9_film 50 = .ok (.iadd, 1) := zd_at zhX9_film_0 29 rfl
theorem dX9_film_51 : decode cX9_film 51 = .ok (.aload_n 0, 1) := zd_at zhX9_film_0 30 rfl
theorem dX9_film_52 : decode cX9_film 52 = .ok (.getfield 38, 3) := zd_at zhX9_film_0 31 rfl
theorem dX9_film_55 : decode cX9_film 55 = .ok (.bipush 10, 2) := zd_at zhX9_film_0 32 rfl
theorem dX9_film_57 : decode cX9_film 57 = .ok (.iload_n 2, 1) := zd_at zhX9_film_0 33 rfl
theorem dX9_film_58 : decode cX9_film 58 = .ok (.imul, 1) := zd_at zhX9_film_0 34 rfl
theorem dX9_film_59 : decode cX9_film 59 = .ok (.iload_n 3, 1) := zd_at zhX9_film_0 35 rfl
theorem dX9_film_60 : decode cX9_film 60 = .ok (.iadd, 1) := zd_at zhX9_film_0 36 rfl
theorem dX9_film_61 : decode cX9_film 61 = .ok (.iaload, 1) := zd_at zhX9_film_0 37 rfl
theorem dX9_film_62 : decode cX9_film 62 = .ok (.iastore, 1) := zd_at zhX9_film_0 38 rfl
theorem dX9_film_63 : decode cX9_film 63 = .ok (.iinc 3 1, 3) := zd_at zhX9_film_0 39 rfl
def ziX9_film_66 : List (Nat × Instr × Nat) := [(66, .goto (-31), 3), (69, .bipush 10, 2), (71, .ireturn, 1)]
theorem zhX9_film_66 : zd_chk (cX9_film.data.toList.drop 66) 66 ziX9_film_66 = true := by decide +kernel
theorem dX9_film_66 : decode cX9_film 66 = .ok (.goto (-31), 3) := zd_at zhX9_film_66 0 rfl
theorem dX9_film_69 : decode cX9_film 69 = .ok (.bipush 10, 2) := zd_at zhX9_film_66 1 rfl
theorem dX9_film_71 : decode cX9_film 71 = .ok (.ireturn, 1) := zd_at zhX9_film_66 2 rfl
def ziX9_eats_0 : List (Nat × Instr × Nat) := [(0, .aload_n 0, 1), (1, .invokevirtual 404, 3), (4, .iload_n 2, 1), (5, .istore 4, 2), (7, .iconst 0, 1), (8, .istore 5, 2), (10, .iconst 0, 1), (11, .istore 6, 2), (13, .iload 6, 2), (15, .iload_n 3, 1), (16, .if_icmp .ge 50, 3), (19, .iload 4, 2), (21, .ldc_w 449, 3), (24, .imul, 1), (25, .sipush 12345, 3), (28, .iadd, 1), (29, .istore 4, 2), (31, .iload 5, 2), (33, .aload_n 0, 1), (34, .iload_n 1, 1), (35, .iload 6, 2), (37, .iload 4, 2), (39, .bipush 9, 2), (41, .iushr, 1), (42, .bipush 10, 2), (44, .irem, 1), (45, .invokevirtual 364, 3), (48, .iconst (-1), 1), (49, .if_icmp .ne 7, 3), (52, .iconst 0, 1), (53, .goto 4, 3), (56, .iconst 1, 1), (57, .iadd, 1), (58, .istore 5, 2), (60, .iinc 6 1, 3), (63, .goto (-50), 3), (66, .aload_n 0, 1), (67, .invokevirtual 407, 3), (70, .iload 5, 2), (72, .ireturn, 1)]
theorem zhX9_eats_0 : zd_chk (cX9_eats.data.toList.drop 0) 0 ziX9_eats_0 = true := by decide +kernel
theorem dX9_eats_0 : decode cX9_eats 0 = .ok (.aload_n 0, 1) := zd_at zhX9_eats_0 0 rfl
theorem dX9_eats_1 : decode cX9_eats 1 = .ok (.invokevirtual 404, 3) := zd_at zhX9_eats_0 1 rfl
theorem dX9_eats_4 : decode cX9_eats 4 = .ok (.iload_n 2, 1) := zd_at zhX9_eats_0 2 rfl
theorem dX9_eats_5 : decode cX9_eats 5 = .ok (.istore 4, 2) := zd_at zhX9_eats_0 3 rfl
theorem dX9_eats_7 : decode cX9_eats 7 = .ok (.iconst 0, 1) := zd_at zhX9_eats_0 4 rfl
theorem dX9_eats_8 : decode cX9_eats 8 = .ok (.istore 5, 2) := zd_at zhX9_eats_0 5 rfl
theorem dX9_eats_10 : decode cX9_eats 10 = .ok (.iconst 0, 1) := zd_at zhX9_eats_0 6 rfl
theorem dX9_eats_11 : decode cX9_eats 11 = .ok (.istore 6, 2) := zd_at zhX9_eats_0 7 rfl
theorem dX9_eats_13 : decode cX9_eats 13 = .ok (.iload 6, 2) := zd_at zhX9_eats_0 8 rfl
theorem dX9_eats_15 : decode cX9_eats 15 = .ok (.iload_n 3, 1) := zd_at zhX9_eats_0 9 rfl
theorem dX9_eats_16 : decode cX9_eats 16 = .ok (.if_icmp .ge 50, 3) := zd_at zhX9_eats_0 10 rfl
theorem dX9_eats_19 : decode cX9_eats 19 = .ok (.iload 4, 2) := zd_at zhX9_eats_0 11 rfl
theorem dX9_eats_21 : decode cX9_eats 21 = .ok (.ldc_w 449, 3) := zd_at zhX9_eats_0 12 rfl
theorem dX9_eats_24 : decode cX9_eats 24 = .ok (.imul, 1) := zd_at zhX9_eats_0 13 rfl
theorem dX9_eats_25 : decode cX9_eats 25 = .ok (.sipush 12345, 3) := zd_at zhX9_eats_0 14 rfl
theorem dX9_eats_28 : decode cX9_eats 28 = .ok (.iadd, 1) := zd_at zhX9_eats_0 15 rfl
theorem dX9_eats_29 : decode cX9_eats 29 = .ok (.istore 4, 2) := zd_at zhX9_eats_0 16 rfl
theorem dX9_eats_31 : decode cX9_eats 31 = .ok (.iload 5, 2) := zd_at zhX9_eats_0 17 rfl
theorem dX9_eats_33 : decode cX9_eats 33 = .ok (.aload_n 0, 1) := zd_at zhX9_eats_0 18 rfl
theorem dX9_eats_34 : decode cX9_eats 34 = .ok (.iload_n 1, 1) := zd_at zhX9_eats_0 19 rfl
theorem dX9_eats_35 : decode cX9_eats 35 = .ok (.iload 6, 2) := zd_at zhX9_eats_0 20 rfl
theorem dX9_eats_37 : decode cX9_eats 37 = .ok (.iload 4, 2) := zd_at zhX9_eats_0 21 rfl
theorem dX9_eats_39 : decode cX9_eats 39 = .ok (.bipush 9, 2) := zd_at zhX9_eats_0 22 rfl
theorem dX9_eats_41 : decode cX9_eats 41 = .ok (.iushr, 1) := zd_at zhX9_eats_0 23 rfl
theorem dX9_eats_42 : decode cX9_eats 42 = .ok (.bipush 10, 2) := zd_at zhX9_eats_0 24 rfl
theorem dX9_eats_44 : decode cX9_eats 44 = .ok (.irem, 1) := zd_at zhX9_eats_0 25 rfl
theorem dX9_eats_45 : decode cX9_eats 45 = .ok (.invokevirtual 364, 3) := zd_at zhX9_eats_0 26 rfl
theorem dX9_eats_48 : decode cX9_eats 48 = .ok (.iconst (-1), 1) := zd_at zhX9_eats_0 27 rfl
theorem dX9_eats_49 : decode cX9_eats 49 = .ok (.if_icmp .ne 7, 3) := zd_at zhX9_eats_0 28 rfl
theorem dX9_eats_52 : decode cX9_eats 52 = .ok (.iconst 0, 1) := zd_at zhX9_eats_0 29 rfl
theorem dX9_eats_53 : decode cX9_eats 53 = .ok (.goto 4, 3) := zd_at zhX9_eats_0 30 rfl
theorem dX9_eats_56 : decode cX9_eats 56 = .ok (.iconst 1, 1) := zd_at zhX9_eats_0 31 rfl
theorem dX9_eats_57 : decode cX9_eats 57 = .ok (.iadd, 1) := zd_at zhX9_eats_0 32 rfl
theorem dX9_eats_58 : decode cX9_eats 58 = .ok (.istore 5, 2) := zd_at zhX9_eats_0 33 rfl
theorem dX9_eats_60 : decode cX9_eats 60 = .ok (.iinc 6 1, 3) := zd_at zhX9_eats_0 34 rfl
theorem dX9_eats_63 : decode cX9_eats 63 = .ok (.goto (-50), 3) := zd_at zhX9_eats_0 35 rfl
theorem dX9_eats_66 : decode cX9_eats 66 = .ok (.aload_n 0, 1) := zd_at zhX9_eats_0 36 rfl
theorem dX9_eats_67 : decode cX9_eats 67 = .ok (.invokevirtual 407, 3) := zd_at zhX9_eats_0 37 rfl
theorem dX9_eats_70 : decode cX9_eats 70 = .ok (.iload 5, 2) := zd_at zhX9_eats_0 38 rfl
theorem dX9_eats_72 : decode cX9_eats 72 = .ok (.ireturn, 1) := zd_at zhX9_eats_0 39 rfl
def ziX9_drawn_0 : List (Nat × Instr × Nat) := [(0, .aload_n 0, 1), (1, .iload_n 1, 1), (2, .invokevirtual 101, 3), (5, .ifCond .eq 25, 3), (8, .iload_n 3, 1), (9, .i2l, 1), (10, .lconst 0, 1), (11, .ldc2_w 450, 3), (14, .invokestatic 91, 3), (17, .ifCond .eq 13, 3), (20, .aload_n 0, 1), (21, .iload_n 1, 1), (22, .iload_n 2, 1), (23, .iload_n 3, 1), (24, .invokevirtual 452, 3), (27, .goto 5, 3), (30, .bipush (-2), 2), (32, .ireturn, 1)]
theorem zhX9_drawn_0 : zd_chk (cX9_drawn.data.toList.drop 0) 0 ziX9_drawn_0 = true := by decide +kernel
theorem dX9_drawn_0 : decode cX9_drawn 0 = .ok (.aload_n 0, 1) := zd_at zhX9_drawn_0 0 rfl
theorem dX9_drawn_1 : decode cX9_drawn 1 = .ok (.iload_n 1, 1) := zd_at zhX9_drawn_0 1 rfl
theorem dX9_drawn_2 : decode cX9_drawn 2 = .ok (.invokevirtual 101, 3) := zd_at zhX9_drawn_0 2 rfl
theorem dX9_drawn_5 : decode cX9_drawn 5 = .ok (.ifCond .eq 25, 3) := zd_at zhX9_drawn_0 3 rfl
theorem dX9_drawn_8 : decode cX9_drawn 8 = .ok (.iload_n 3, 1) := zd_at zhX9_drawn_0 4 rfl
theorem dX9_drawn_9 : decode cX9_drawn 9 = .ok (.i2l, 1) := zd_at zhX9_drawn_0 5 rfl
theorem dX9_drawn_10 : decode cX9_drawn 10 = .ok (.lconst 0, 1) := zd_at zhX9_drawn_0 6 rfl
theorem dX9_drawn_11 : decode cX9_drawn 11 = .ok (.ldc2_w 450, 3) := zd_at zhX9_drawn_0 7 rfl
theorem dX9_drawn_14 : decode cX9_drawn 14 = .ok (.invokestatic 91, 3) := zd_at zhX9_drawn_0 8 rfl
theorem dX9_drawn_17 : decode cX9_drawn 17 = .ok (.ifCond .eq 13, 3) := zd_at zhX9_drawn_0 9 rfl
theorem dX9_drawn_20 : decode cX9_drawn 20 = .ok (.aload_n 0, 1) := zd_at zhX9_drawn_0 10 rfl
theorem dX9_drawn_21 : decode cX9_drawn 21 = .ok (.iload_n 1, 1) := zd_at zhX9_drawn_0 11 rfl
theorem dX9_drawn_22 : decode cX9_drawn 22 = .ok (.iload_n 2, 1) := zd_at zhX9_drawn_0 12 rfl
theorem dX9_drawn_23 : decode cX9_drawn 23 = .ok (.iload_n 3, 1) := zd_at zhX9_drawn_0 13 rfl
theorem dX9_drawn_24 : decode cX9_drawn 24 = .ok (.invokevirtual 452, 3) := zd_at zhX9_drawn_0 14 rfl
theorem dX9_drawn_27 : decode cX9_drawn 27 = .ok (.goto 5, 3) := zd_at zhX9_drawn_0 15 rfl
theorem dX9_drawn_30 : decode cX9_drawn 30 = .ok (.bipush (-2), 2) := zd_at zhX9_drawn_0 16 rfl
theorem dX9_drawn_32 : decode cX9_drawn 32 = .ok (.ireturn, 1) := zd_at zhX9_drawn_0 17 rfl
def ziX9_chance_0 : List (Nat × Instr × Nat) := [(0, .aload_n 0, 1), (1, .iload_n 1, 1), (2, .invokevirtual 101, 3), (5, .ifCond .eq 26, 3), (8, .iload_n 3, 1), (9, .i2l, 1), (10, .lconst 1, 1), (11, .ldc2_w 455, 3), (14, .invokestatic 91, 3), (17, .ifCond .eq 14, 3), (20, .iload 4, 2), (22, .i2l, 1), (23, .lconst 0, 1), (24, .lconst 1, 1), (25, .invokestatic 91, 3), (28, .ifCond .ne 7, 3), (31, .ldc2_w 457, 3), (34, .lreturn, 1), (35, .lconst 0, 1), (36, .lstore 5, 2), (38, .iconst 0, 1), (39, .istore 7, 2), (41, .iload 7, 2), (43, .iload_n 3, 1), (44, .if_icmp .ge 34, 3), (47, .lload 5, 2), (49, .aload_n 0, 1), (50, .iload_n 1, 1), (51, .iload_n 2, 1), (52, .iload 7, 2), (54, .iadd, 1), (55, .bipush 16, 2), (57, .invokevirtual 452, 3), (60, .iconst 4, 1), (61, .if_icmp .le 7, 3), (64, .lconst 1, 1), (65, .goto 4, 3), (68, .lconst 0, 1), (69, .ladd, 1), (70, .lstore 5, 2)]
theorem zhX9_chance_0 : zd_chk (cX9_chance.data.toList.drop 0) 0 ziX9_chance_0 = true := by decide +kernel
theorem dX9_chance_0 : decode cX9_chance 0 = .ok (.aload_n 0, 1) := zd_at zhX9_chance_0 0 rfl
theorem dX9_chance_1 : decode cX9_chance 1 = .ok (.iload_n 1, 1) := zd_at zhX9_chance_0 1 rfl
theorem dX9_chance_2 : decode cX9_chance 2 = .ok (.invokevirtual 101, 3) := zd_at zhX9_chance_0 2 rfl
theorem dX9_chance_5 : decode cX9_chance 5 = .ok (.ifCond .eq 26, 3) := zd_at zhX9_chance_0 3 rfl
theorem dX9_chance_8 : decode cX9_chance 8 = .ok (.iload_n 3, 1) := zd_at zhX9_chance_0 4 rfl
theorem dX9_chance_9 : decode cX9_chance 9 = .ok (.i2l, 1) := zd_at zhX9_chance_0 5 rfl
theorem dX9_chance_10 : decode cX9_chance 10 = .ok (.lconst 1, 1) := zd_at zhX9_chance_0 6 rfl
theorem dX9_chance_11 : decode cX9_chance 11 = .ok (.ldc2_w 455, 3) := zd_at zhX9_chance_0 7 rfl
theorem dX9_chance_14 : decode cX9_chance 14 = .ok (.invokestatic 91, 3) := zd_at zhX9_chance_0 8 rfl
theorem dX9_chance_17 : decode cX9_chance 17 = .ok (.ifCond .eq 14, 3) := zd_at zhX9_chance_0 9 rfl
theorem dX9_chance_20 : decode cX9_chance 20 = .ok (.iload 4, 2) := zd_at zhX9_chance_0 10 rfl
theorem dX9_chance_22 : decode cX9_chance 22 = .ok (.i2l, 1) := zd_at zhX9_chance_0 11 rfl
theorem dX9_chance_23 : decode cX9_chance 23 = .ok (.lconst 0, 1) := zd_at zhX9_chance_0 12 rfl
theorem dX9_chance_24 : decode cX9_chance 24 = .ok (.lconst 1, 1) := zd_at zhX9_chance_0 13 rfl
theorem dX9_chance_25 : decode cX9_chance 25 = .ok (.invokestatic 91, 3) := zd_at zhX9_chance_0 14 rfl
theorem dX9_chance_28 : decode cX9_chance 28 = .ok (.ifCond .ne 7, 3) := zd_at zhX9_chance_0 15 rfl
theorem dX9_chance_31 : decode cX9_chance 31 = .ok (.ldc2_w 457, 3) := zd_at zhX9_chance_0 16 rfl
theorem dX9_chance_34 : decode cX9_chance 34 = .ok (.lreturn, 1) := zd_at zhX9_chance_0 17 rfl
theorem dX9_chance_35 : decode cX9_chance 35 = .ok (.lconst 0, 1) := zd_at zhX9_chance_0 18 rfl
theorem dX9_chance_36 : decode cX9_chance 36 = .ok (.lstore 5, 2) := zd_at zhX9_chance_0 19 rfl
theorem dX9_chance_38 : decode cX9_chance 38 = .ok (.iconst 0, 1) := zd_at zhX9_chance_0 20 rfl
theorem dX9_chance_39 : decode cX9_chance 39 = .ok (.istore 7, 2) := zd_at zhX9_chance_0 21 rfl
theorem dX9_chance_41 : decode cX9_chance 41 = .ok (.iload 7, 2) := zd_at zhX9_chance_0 22 rfl
theorem dX9_chance_43 : decode cX9_chance 43 = .ok (.iload_n 3, 1) := zd_at zhX9_chance_0 23 rfl
theorem dX9_chance_44 : decode cX9_chance 44 = .ok (.if_icmp .ge 34, 3) := zd_at zhX9_chance_0 24 rfl
theorem dX9_chance_47 : decode cX9_chance 47 = .ok (.lload 5, 2) := zd_at zhX9_chance_0 25 rfl
theorem dX9_chance_49 : decode cX9_chance 49 = .ok (.aload_n 0, 1) := zd_at zhX9_chance_0 26 rfl
theorem dX9_chance_50 : decode cX9_chance 50 = .ok (.iload_n 1, 1) := zd_at zhX9_chance_0 27 rfl
theorem dX9_chance_51 : decode cX9_chance 51 = .ok (.iload_n 2, 1) := zd_at zhX9_chance_0 28 rfl
theorem dX9_chance_52 : decode cX9_chance 52 = .ok (.iload 7, 2) := zd_at zhX9_chance_0 29 rfl
theorem dX9_chance_54 : decode cX9_chance 54 = .ok (.iadd, 1) := zd_at zhX9_chance_0 30 rfl
theorem dX9_chance_55 : decode cX9_chance 55 = .ok (.bipush 16, 2) := zd_at zhX9_chance_0 31 rfl
theorem dX9_chance_57 : decode cX9_chance 57 = .ok (.invokevirtual 452, 3) := zd_at zhX9_chance_0 32 rfl
theorem dX9_chance_60 : decode cX9_chance 60 = .ok (.iconst 4, 1) := zd_at zhX9_chance_0 33 rfl
theorem dX9_chance_61 : decode cX9_chance 61 = .ok (.if_icmp .le 7, 3) := zd_at zhX9_chance_0 34 rfl
theorem dX9_chance_64 : decode cX9_chance 64 = .ok (.lconst 1, 1) := zd_at zhX9_chance_0 35 rfl
theorem dX9_chance_65 : decode cX9_chance 65 = .ok (.goto 4, 3) := zd_at zhX9_chance_0 36 rfl
theorem dX9_chance_68 : decode cX9_chance 68 = .ok (.lconst 0, 1) := zd_at zhX9_chance_0 37 rfl
theorem dX9_chance_69 : decode cX9_chance 69 = .ok (.ladd, 1) := zd_at zhX9_chance_0 38 rfl
theorem dX9_chance_70 : decode cX9_chance 70 = .ok (.lstore 5, 2) := zd_at zhX9_chance_0 39 rfl
def ziX9_chance_72 : List (Nat × Instr × Nat) := [(72, .iinc 7 1, 3), (75, .goto (-34), 3), (78, .lload 5, 2), (80, .lstore 7, 2), (82, .iload_n 3, 1), (83, .i2l, 1), (84, .lstore 9, 2), (86, .lload 9, 2), (88, .lconst 0, 1), (89, .lcmp, 1), (90, .ifCond .eq 21, 3), (93, .lload 7, 2), (95, .lload 9, 2), (97, .lrem, 1), (98, .lstore 11, 2), (100, .lload 9, 2), (102, .lstore 7, 2), (104, .lload 11, 2), (106, .lstore 9, 2), (108, .goto (-22), 3), (111, .iload 4, 2), (113, .ifCond .ne 11, 3), (116, .lload 5, 2), (118, .lload 7, 2), (120, .ldiv, 1), (121, .goto 8, 3), (124, .iload_n 3, 1), (125, .i2l, 1), (126, .lload 7, 2), (128, .ldiv, 1), (129, .lreturn, 1)]
theorem zhX9_chance_72 : zd_chk (cX9_chance.data.toList.drop 72) 72 ziX9_chance_72 = true := by decide +kernel
theorem dX9_chance_72 : decode cX9_chance 72 = .ok (.iinc 7 1, 3) := zd_at zhX9_chance_72 0 rfl
theorem dX9_chance_75 : decode cX9_chance 75 = .ok (.goto (-34), 3) := zd_at zhX9_chance_72 1 rfl
theorem dX9_chance_78 : decode cX9_chance 78 = .ok (.lload 5, 2) := zd_at zhX9_chance_72 2 rfl
theorem dX9_chance_80 : decode cX9_chance 80 = .ok (.lstore 7, 2) := zd_at zhX9_chance_72 3 rfl
theorem dX9_chance_82 : decode cX9_chance 82 = .ok (.iload_n 3, 1) := zd_at zhX9_chance_72 4 rfl
theorem dX9_chance_83 : decode cX9_chance 83 = .ok (.i2l, 1) := zd_at zhX9_chance_72 5 rfl
theorem dX9_chance_84 : decode cX9_chance 84 = .ok (.lstore 9, 2) := zd_at zhX9_chance_72 6 rfl
theorem dX9_chance_86 : decode cX9_chance 86 = .ok (.lload 9, 2) := zd_at zhX9_chance_72 7 rfl
theorem dX9_chance_88 : decode cX9_chance 88 = .ok (.lconst 0, 1) := zd_at zhX9_chance_72 8 rfl
theorem dX9_chance_89 : decode cX9_chance 89 = .ok (.lcmp, 1) := zd_at zhX9_chance_72 9 rfl
theorem dX9_chance_90 : decode cX9_chance 90 = .ok (.ifCond .eq 21, 3) := zd_at zhX9_chance_72 10 rfl
theorem dX9_chance_93 : decode cX9_chance 93 = .ok (.lload 7, 2) := zd_at zhX9_chance_72 11 rfl
theorem dX9_chance_95 : decode cX9_chance 95 = .ok (.lload 9, 2) := zd_at zhX9_chance_72 12 rfl
theorem dX9_chance_97 : decode cX9_chance 97 = .ok (.lrem, 1) := zd_at zhX9_chance_72 13 rfl
theorem dX9_chance_98 : decode cX9_chance 98 = .ok (.lstore 11, 2) := zd_at zhX9_chance_72 14 rfl
theorem dX9_chance_100 : decode cX9_chance 100 = .ok (.lload 9, 2) := zd_at zhX9_chance_72 15 rfl
theorem dX9_chance_102 : decode cX9_chance 102 = .ok (.lstore 7, 2) := zd_at zhX9_chance_72 16 rfl
theorem dX9_chance_104 : decode cX9_chance 104 = .ok (.lload 11, 2) := zd_at zhX9_chance_72 17 rfl
theorem dX9_chance_106 : decode cX9_chance 106 = .ok (.lstore 9, 2) := zd_at zhX9_chance_72 18 rfl
theorem dX9_chance_108 : decode cX9_chance 108 = .ok (.goto (-22), 3) := zd_at zhX9_chance_72 19 rfl
theorem dX9_chance_111 : decode cX9_chance 111 = .ok (.iload 4, 2) := zd_at zhX9_chance_72 20 rfl
theorem dX9_chance_113 : decode cX9_chance 113 = .ok (.ifCond .ne 11, 3) := zd_at zhX9_chance_72 21 rfl
theorem dX9_chance_116 : decode cX9_chance 116 = .ok (.lload 5, 2) := zd_at zhX9_chance_72 22 rfl
theorem dX9_chance_118 : decode cX9_chance 118 = .ok (.lload 7, 2) := zd_at zhX9_chance_72 23 rfl
theorem dX9_chance_120 : decode cX9_chance 120 = .ok (.ldiv, 1) := zd_at zhX9_chance_72 24 rfl
theorem dX9_chance_121 : decode cX9_chance 121 = .ok (.goto 8, 3) := zd_at zhX9_chance_72 25 rfl
theorem dX9_chance_124 : decode cX9_chance 124 = .ok (.iload_n 3, 1) := zd_at zhX9_chance_72 26 rfl
theorem dX9_chance_125 : decode cX9_chance 125 = .ok (.i2l, 1) := zd_at zhX9_chance_72 27 rfl
theorem dX9_chance_126 : decode cX9_chance 126 = .ok (.lload 7, 2) := zd_at zhX9_chance_72 28 rfl
theorem dX9_chance_128 : decode cX9_chance 128 = .ok (.ldiv, 1) := zd_at zhX9_chance_72 29 rfl
theorem dX9_chance_129 : decode cX9_chance 129 = .ok (.lreturn, 1) := zd_at zhX9_chance_72 30 rfl
def ziX9_image_0 : List (Nat × Instr × Nat) := [(0, .iconst 0, 1), (1, .istore_n 1, 1), (2, .iload_n 1, 1), (3, .iconst 5, 1), (4, .if_icmp .ge 21, 3), (7, .aload_n 0, 1), (8, .getfield 56, 3), (11, .iload_n 1, 1), (12, .aload_n 0, 1), (13, .getfield 29, 3), (16, .iload_n 1, 1), (17, .iaload, 1), (18, .iastore, 1), (19, .iinc 1 1, 3), (22, .goto (-20), 3), (25, .iconst 0, 1), (26, .istore_n 1, 1), (27, .iload_n 1, 1), (28, .bipush 50, 2), (30, .if_icmp .ge 33, 3), (33, .aload_n 0, 1), (34, .getfield 59, 3), (37, .iload_n 1, 1), (38, .aload_n 0, 1), (39, .getfield 32, 3), (42, .iload_n 1, 1), (43, .iaload, 1), (44, .iastore, 1), (45, .aload_n 0, 1), (46, .getfield 62, 3), (49, .iload_n 1, 1), (50, .aload_n 0, 1), (51, .getfield 35, 3), (54, .iload_n 1, 1), (55, .iaload, 1), (56, .iastore, 1), (57, .iinc 1 1, 3), (60, .goto (-33), 3), (63, .aload_n 0, 1), (64, .aload_n 0, 1)]
theorem zhX9_image_0 : zd_chk (cX9_image.data.toList.drop 0) 0 ziX9_image_0 = true := by decide +kernel
theorem dX9_image_0 : decode cX9_image 0 = .ok (.iconst 0, 1) := zd_at zhX9_image_0 0 rfl
theorem dX9_image_1 : decode cX9_image 1 = .ok (.istore_n 1, 1) := zd_at zhX9_image_0 1 rfl
theorem dX9_image_2 : decode cX9_image 2 = .ok (.iload_n 1, 1) := zd_at zhX9_image_0 2 rfl
theorem dX9_image_3 : decode cX9_image 3 = .ok (.iconst 5, 1) := zd_at zhX9_image_0 3 rfl
theorem dX9_image_4 : decode cX9_image 4 = .ok (.if_icmp .ge 21, 3) := zd_at zhX9_image_0 4 rfl
theorem dX9_image_7 : decode cX9_image 7 = .ok (.aload_n 0, 1) := zd_at zhX9_image_0 5 rfl
theorem dX9_image_8 : decode cX9_image 8 = .ok (.getfield 56, 3) := zd_at zhX9_image_0 6 rfl
theorem dX9_image_11 : decode cX9_image 11 = .ok (.iload_n 1, 1) := zd_at zhX9_image_0 7 rfl
theorem dX9_image_12 : decode cX9_image 12 = .ok (.aload_n 0, 1) := zd_at zhX9_image_0 8 rfl
theorem dX9_image_13 : decode cX9_image 13 = .ok (.getfield 29, 3) := zd_at zhX9_image_0 9 rfl
theorem dX9_image_16 : decode cX9_image 16 = .ok (.iload_n 1, 1) := zd_at zhX9_image_0 10 rfl
theorem dX9_image_17 : decode cX9_image 17 = .ok (.iaload, 1) := zd_at zhX9_image_0 11 rfl
theorem dX9_image_18 : decode cX9_image 18 = .ok (.iastore, 1) := zd_at zhX9_image_0 12 rfl
theorem dX9_image_19 : decode cX9_image 19 = .ok (.iinc 1 1, 3) := zd_at zhX9_image_0 13 rfl
theorem dX9_image_22 : decode cX9_image 22 = .ok (.goto (-20), 3) := zd_at zhX9_image_0 14 rfl
theorem dX9_image_25 : decode cX9_image 25 = .ok (.iconst 0, 1) := zd_at zhX9_image_0 15 rfl
theorem dX9_image_26 : decode cX9_image 26 = .ok (.istore_n 1, 1) := zd_at zhX9_image_0 16 rfl
theorem dX9_image_27 : decode cX9_image 27 = .ok (.iload_n 1, 1) := zd_at zhX9_image_0 17 rfl
theorem dX9_image_28 : decode cX9_image 28 = .ok (.bipush 50, 2) := zd_at zhX9_image_0 18 rfl
theorem dX9_image_30 : decode cX9_image 30 = .ok (.if_icmp .ge 33, 3) := zd_at zhX9_image_0 19 rfl
theorem dX9_image_33 : decode cX9_image 33 = .ok (.aload_n 0, 1) := zd_at zhX9_image_0 20 rfl
theorem dX9_image_34 : decode cX9_image 34 = .ok (.getfield 59, 3) := zd_at zhX9_image_0 21 rfl
theorem dX9_image_37 : decode cX9_image 37 = .ok (.iload_n 1, 1) := zd_at zhX9_image_0 22 rfl
theorem dX9_image_38 : decode cX9_image 38 = .ok (.aload_n 0, 1) := zd_at zhX9_image_0 23 rfl
theorem dX9_image_39 : decode cX9_image 39 = .ok (.getfield 32, 3) := zd_at zhX9_image_0 24 rfl
theorem dX9_image_42 : decode cX9_image 42 = .ok (.iload_n 1, 1) := zd_at zhX9_image_0 25 rfl
theorem dX9_image_43 : decode cX9_image 43 = .ok (.iaload, 1) := zd_at zhX9_image_0 26 rfl
theorem dX9_image_44 : decode cX9_image 44 = .ok (.iastore, 1) := zd_at zhX9_image_0 27 rfl
theorem dX9_image_45 : decode cX9_image 45 = .ok (.aload_n 0, 1) := zd_at zhX9_image_0 28 rfl
theorem dX9_image_46 : decode cX9_image 46 = .ok (.getfield 62, 3) := zd_at zhX9_image_0 29 rfl
theorem dX9_image_49 : decode cX9_image 49 = .ok (.iload_n 1, 1) := zd_at zhX9_image_0 30 rfl
theorem dX9_image_50 : decode cX9_image 50 = .ok (.aload_n 0, 1) := zd_at zhX9_image_0 31 rfl
theorem dX9_image_51 : decode cX9_image 51 = .ok (.getfield 35, 3) := zd_at zhX9_image_0 32 rfl
theorem dX9_image_54 : decode cX9_image 54 = .ok (.iload_n 1, 1) := zd_at zhX9_image_0 33 rfl
theorem dX9_image_55 : decode cX9_image 55 = .ok (.iaload, 1) := zd_at zhX9_image_0 34 rfl
theorem dX9_image_56 : decode cX9_image 56 = .ok (.iastore, 1) := zd_at zhX9_image_0 35 rfl
theorem dX9_image_57 : decode cX9_image 57 = .ok (.iinc 1 1, 3) := zd_at zhX9_image_0 36 rfl
theorem dX9_image_60 : decode cX9_image 60 = .ok (.goto (-33), 3) := zd_at zhX9_image_0 37 rfl
theorem dX9_image_63 : decode cX9_image 63 = .ok (.aload_n 0, 1) := zd_at zhX9_image_0 38 rfl
theorem dX9_image_64 : decode cX9_image 64 = .ok (.aload_n 0, 1) := zd_at zhX9_image_0 39 rfl
def ziX9_image_65 : List (Nat × Instr × Nat) := [(65, .getfield 88, 3), (68, .putfield 65, 3), (71, .aload_n 0, 1), (72, .aload_n 0, 1), (73, .getfield 117, 3), (76, .putfield 459, 3), (79, .aload_n 0, 1), (80, .aload_n 0, 1), (81, .getfield 23, 3), (84, .putfield 462, 3), (87, .aload_n 0, 1), (88, .aload_n 0, 1), (89, .getfield 385, 3), (92, .putfield 465, 3), (95, .aload_n 0, 1), (96, .aload_n 0, 1), (97, .getfield 120, 3), (100, .putfield 468, 3), (103, .aload_n 0, 1), (104, .getfield 88, 3), (107, .ireturn, 1)]
theorem zhX9_image_65 : zd_chk (cX9_image.data.toList.drop 65) 65 ziX9_image_65 = true := by decide +kernel
theorem dX9_image_65 : decode cX9_image 65 = .ok (.getfield 88, 3) := zd_at zhX9_image_65 0 rfl
theorem dX9_image_68 : decode cX9_image 68 = .ok (.putfield 65, 3) := zd_at zhX9_image_65 1 rfl
theorem dX9_image_71 : decode cX9_image 71 = .ok (.aload_n 0, 1) := zd_at zhX9_image_65 2 rfl
theorem dX9_image_72 : decode cX9_image 72 = .ok (.aload_n 0, 1) := zd_at zhX9_image_65 3 rfl
theorem dX9_image_73 : decode cX9_image 73 = .ok (.getfield 117, 3) := zd_at zhX9_image_65 4 rfl
theorem dX9_image_76 : decode cX9_image 76 = .ok (.putfield 459, 3) := zd_at zhX9_image_65 5 rfl
theorem dX9_image_79 : decode cX9_image 79 = .ok (.aload_n 0, 1) := zd_at zhX9_image_65 6 rfl
theorem dX9_image_80 : decode cX9_image 80 = .ok (.aload_n 0, 1) := zd_at zhX9_image_65 7 rfl
theorem dX9_image_81 : decode cX9_image 81 = .ok (.getfield 23, 3) := zd_at zhX9_image_65 8 rfl
theorem dX9_image_84 : decode cX9_image 84 = .ok (.putfield 462, 3) := zd_at zhX9_image_65 9 rfl
theorem dX9_image_87 : decode cX9_image 87 = .ok (.aload_n 0, 1) := zd_at zhX9_image_65 10 rfl
theorem dX9_image_88 : decode cX9_image 88 = .ok (.aload_n 0, 1) := zd_at zhX9_image_65 11 rfl
theorem dX9_image_89 : decode cX9_image 89 = .ok (.getfield 385, 3) := zd_at zhX9_image_65 12 rfl
theorem dX9_image_92 : decode cX9_image 92 = .ok (.putfield 465, 3) := zd_at zhX9_image_65 13 rfl
theorem dX9_image_95 : decode cX9_image 95 = .ok (.aload_n 0, 1) := zd_at zhX9_image_65 14 rfl
theorem dX9_image_96 : decode cX9_image 96 = .ok (.aload_n 0, 1) := zd_at zhX9_image_65 15 rfl
theorem dX9_image_97 : decode cX9_image 97 = .ok (.getfield 120, 3) := zd_at zhX9_image_65 16 rfl
theorem dX9_image_100 : decode cX9_image 100 = .ok (.putfield 468, 3) := zd_at zhX9_image_65 17 rfl
theorem dX9_image_103 : decode cX9_image 103 = .ok (.aload_n 0, 1) := zd_at zhX9_image_65 18 rfl
theorem dX9_image_104 : decode cX9_image 104 = .ok (.getfield 88, 3) := zd_at zhX9_image_65 19 rfl
theorem dX9_image_107 : decode cX9_image 107 = .ok (.ireturn, 1) := zd_at zhX9_image_65 20 rfl
def ziX9_back_0 : List (Nat × Instr × Nat) := [(0, .aload_n 0, 1), (1, .getfield 65, 3), (4, .iconst (-1), 1), (5, .if_icmp .ne 6, 3), (8, .bipush (-3), 2), (10, .ireturn, 1), (11, .iconst 0, 1), (12, .istore_n 1, 1), (13, .iload_n 1, 1), (14, .iconst 5, 1), (15, .if_icmp .ge 21, 3), (18, .aload_n 0, 1), (19, .getfield 29, 3), (22, .iload_n 1, 1), (23, .aload_n 0, 1), (24, .getfield 56, 3), (27, .iload_n 1, 1), (28, .iaload, 1), (29, .iastore, 1), (30, .iinc 1 1, 3), (33, .goto (-20), 3), (36, .iconst 0, 1), (37, .istore_n 1, 1), (38, .iload_n 1, 1), (39, .bipush 50, 2), (41, .if_icmp .ge 33, 3), (44, .aload_n 0, 1), (45, .getfield 32, 3), (48, .iload_n 1, 1), (49, .aload_n 0, 1), (50, .getfield 59, 3), (53, .iload_n 1, 1), (54, .iaload, 1), (55, .iastore, 1), (56, .aload_n 0, 1), (57, .getfield 35, 3), (60, .iload_n 1, 1), (61, .aload_n 0, 1), (62, .getfield 62, 3), (65, .iload_n 1, 1)]
theorem zhX9_back_0 : zd_chk (cX9_back.data.toList.drop 0) 0 ziX9_back_0 = true := by decide +kernel
theorem dX9_back_0 : decode cX9_back 0 = .ok (.aload_n 0, 1) := zd_at zhX9_back_0 0 rfl
theorem dX9_back_1 : decode cX9_back 1 = .ok (.getfield 65, 3) := zd_at zhX9_back_0 1 rfl
theorem dX9_back_4 : decode cX9_back 4 = .ok (.iconst (-1), 1) := zd_at zhX9_back_0 2 rfl
theorem dX9_back_5 : decode cX9_back 5 = .ok (.if_icmp .ne 6, 3) := zd_at zhX9_back_0 3 rfl
theorem dX9_back_8 : decode cX9_back 8 = .ok (.bipush (-3), 2) := zd_at zhX9_back_0 4 rfl
theorem dX9_back_10 : decode cX9_back 10 = .ok (.ireturn, 1) := zd_at zhX9_back_0 5 rfl
theorem dX9_back_11 : decode cX9_back 11 = .ok (.iconst 0, 1) := zd_at zhX9_back_0 6 rfl
theorem dX9_back_12 : decode cX9_back 12 = .ok (.istore_n 1, 1) := zd_at zhX9_back_0 7 rfl
theorem dX9_back_13 : decode cX9_back 13 = .ok (.iload_n 1, 1) := zd_at zhX9_back_0 8 rfl
theorem dX9_back_14 : decode cX9_back 14 = .ok (.iconst 5, 1) := zd_at zhX9_back_0 9 rfl
theorem dX9_back_15 : decode cX9_back 15 = .ok (.if_icmp .ge 21, 3) := zd_at zhX9_back_0 10 rfl
theorem dX9_back_18 : decode cX9_back 18 = .ok (.aload_n 0, 1) := zd_at zhX9_back_0 11 rfl
theorem dX9_back_19 : decode cX9_back 19 = .ok (.getfield 29, 3) := zd_at zhX9_back_0 12 rfl
theorem dX9_back_22 : decode cX9_back 22 = .ok (.iload_n 1, 1) := zd_at zhX9_back_0 13 rfl
theorem dX9_back_23 : decode cX9_back 23 = .ok (.aload_n 0, 1) := zd_at zhX9_back_0 14 rfl
theorem dX9_back_24 : decode cX9_back 24 = .ok (.getfield 56, 3) := zd_at zhX9_back_0 15 rfl
theorem dX9_back_27 : decode cX9_back 27 = .ok (.iload_n 1, 1) := zd_at zhX9_back_0 16 rfl
theorem dX9_back_28 : decode cX9_back 28 = .ok (.iaload, 1) := zd_at zhX9_back_0 17 rfl
theorem dX9_back_29 : decode cX9_back 29 = .ok (.iastore, 1) := zd_at zhX9_back_0 18 rfl
theorem dX9_back_30 : decode cX9_back 30 = .ok (.iinc 1 1, 3) := zd_at zhX9_back_0 19 rfl
theorem dX9_back_33 : decode cX9_back 33 = .ok (.goto (-20), 3) := zd_at zhX9_back_0 20 rfl
theorem dX9_back_36 : decode cX9_back 36 = .ok (.iconst 0, 1) := zd_at zhX9_back_0 21 rfl
theorem dX9_back_37 : decode cX9_back 37 = .ok (.istore_n 1, 1) := zd_at zhX9_back_0 22 rfl
theorem dX9_back_38 : decode cX9_back 38 = .ok (.iload_n 1, 1) := zd_at zhX9_back_0 23 rfl
theorem dX9_back_39 : decode cX9_back 39 = .ok (.bipush 50, 2) := zd_at zhX9_back_0 24 rfl
theorem dX9_back_41 : decode cX9_back 41 = .ok (.if_icmp .ge 33, 3) := zd_at zhX9_back_0 25 rfl
theorem dX9_back_44 : decode cX9_back 44 = .ok (.aload_n 0, 1) := zd_at zhX9_back_0 26 rfl
theorem dX9_back_45 : decode cX9_back 45 = .ok (.getfield 32, 3) := zd_at zhX9_back_0 27 rfl
theorem dX9_back_48 : decode cX9_back 48 = .ok (.iload_n 1, 1) := zd_at zhX9_back_0 28 rfl
theorem dX9_back_49 : decode cX9_back 49 = .ok (.aload_n 0, 1) := zd_at zhX9_back_0 29 rfl
theorem dX9_back_50 : decode cX9_back 50 = .ok (.getfield 59, 3) := zd_at zhX9_back_0 30 rfl
theorem dX9_back_53 : decode cX9_back 53 = .ok (.iload_n 1, 1) := zd_at zhX9_back_0 31 rfl
theorem dX9_back_54 : decode cX9_back 54 = .ok (.iaload, 1) := zd_at zhX9_back_0 32 rfl
theorem dX9_back_55 : decode cX9_back 55 = .ok (.iastore, 1) := zd_at zhX9_back_0 33 rfl
theorem dX9_back_56 : decode cX9_back 56 = .ok (.aload_n 0, 1) := zd_at zhX9_back_0 34 rfl
theorem dX9_back_57 : decode cX9_back 57 = .ok (.getfield 35, 3) := zd_at zhX9_back_0 35 rfl
theorem dX9_back_60 : decode cX9_back 60 = .ok (.iload_n 1, 1) := zd_at zhX9_back_0 36 rfl
theorem dX9_back_61 : decode cX9_back 61 = .ok (.aload_n 0, 1) := zd_at zhX9_back_0 37 rfl
theorem dX9_back_62 : decode cX9_back 62 = .ok (.getfield 62, 3) := zd_at zhX9_back_0 38 rfl
theorem dX9_back_65 : decode cX9_back 65 = .ok (.iload_n 1, 1) := zd_at zhX9_back_0 39 rfl
def ziX9_back_66 : List (Nat × Instr × Nat) := [(66, .iaload, 1), (67, .iastore, 1), (68, .iinc 1 1, 3), (71, .goto (-33), 3), (74, .aload_n 0, 1), (75, .aload_n 0, 1), (76, .getfield 65, 3), (79, .putfield 88, 3), (82, .aload_n 0, 1), (83, .aload_n 0, 1), (84, .getfield 459, 3), (87, .putfield 117, 3), (90, .aload_n 0, 1), (91, .aload_n 0, 1), (92, .getfield 462, 3), (95, .putfield 23, 3), (98, .aload_n 0, 1), (99, .aload_n 0, 1), (100, .getfield 465, 3), (103, .putfield 385, 3), (106, .aload_n 0, 1), (107, .aload_n 0, 1), (108, .getfield 468, 3), (111, .putfield 120, 3), (114, .aload_n 0, 1), (115, .getfield 88, 3), (118, .ireturn, 1)]
theorem zhX9_back_66 : zd_chk (cX9_back.data.toList.drop 66) 66 ziX9_back_66 = true := by decide +kernel
theorem dX9_back_66 : decode cX9_back 66 = .ok (.iaload, 1) := zd_at zhX9_back_66 0 rfl
theorem dX9_back_67 : decode cX9_back 67 = .ok (.iastore, 1) := zd_at zhX9_back_66 1 rfl
theorem dX9_back_68 : decode cX9_back 68 = .ok (.iinc 1 1, 3) := zd_at zhX9_back_66 2 rfl
theorem dX9_back_71 : decode cX9_back 71 = .ok (.goto (-33), 3) := zd_at zhX9_back_66 3 rfl
theorem dX9_back_74 : decode cX9_back 74 = .ok (.aload_n 0, 1) := zd_at zhX9_back_66 4 rfl
theorem dX9_back_75 : decode cX9_back 75 = .ok (.aload_n 0, 1) := zd_at zhX9_back_66 5 rfl
theorem dX9_back_76 : decode cX9_back 76 = .ok (.getfield 65, 3) := zd_at zhX9_back_66 6 rfl
theorem dX9_back_79 : decode cX9_back 79 = .ok (.putfield 88, 3) := zd_at zhX9_back_66 7 rfl
theorem dX9_back_82 : decode cX9_back 82 = .ok (.aload_n 0, 1) := zd_at zhX9_back_66 8 rfl
theorem dX9_back_83 : decode cX9_back 83 = .ok (.aload_n 0, 1) := zd_at zhX9_back_66 9 rfl
theorem dX9_back_84 : decode cX9_back 84 = .ok (.getfield 459, 3) := zd_at zhX9_back_66 10 rfl
theorem dX9_back_87 : decode cX9_back 87 = .ok (.putfield 117, 3) := zd_at zhX9_back_66 11 rfl
theorem dX9_back_90 : decode cX9_back 90 = .ok (.aload_n 0, 1) := zd_at zhX9_back_66 12 rfl
theorem dX9_back_91 : decode cX9_back 91 = .ok (.aload_n 0, 1) := zd_at zhX9_back_66 13 rfl
theorem dX9_back_92 : decode cX9_back 92 = .ok (.getfield 462, 3) := zd_at zhX9_back_66 14 rfl
theorem dX9_back_95 : decode cX9_back 95 = .ok (.putfield 23, 3) := zd_at zhX9_back_66 15 rfl
theorem dX9_back_98 : decode cX9_back 98 = .ok (.aload_n 0, 1) := zd_at zhX9_back_66 16 rfl
theorem dX9_back_99 : decode cX9_back 99 = .ok (.aload_n 0, 1) := zd_at zhX9_back_66 17 rfl
theorem dX9_back_100 : decode cX9_back 100 = .ok (.getfield 465, 3) := zd_at zhX9_back_66 18 rfl
theorem dX9_back_103 : decode cX9_back 103 = .ok (.putfield 385, 3) := zd_at zhX9_back_66 19 rfl
theorem dX9_back_106 : decode cX9_back 106 = .ok (.aload_n 0, 1) := zd_at zhX9_back_66 20 rfl
theorem dX9_back_107 : decode cX9_back 107 = .ok (.aload_n 0, 1) := zd_at zhX9_back_66 21 rfl
theorem dX9_back_108 : decode cX9_back 108 = .ok (.getfield 468, 3) := zd_at zhX9_back_66 22 rfl
theorem dX9_back_111 : decode cX9_back 111 = .ok (.putfield 120, 3) := zd_at zhX9_back_66 23 rfl
theorem dX9_back_114 : decode cX9_back 114 = .ok (.aload_n 0, 1) := zd_at zhX9_back_66 24 rfl
theorem dX9_back_115 : decode cX9_back 115 = .ok (.getfield 88, 3) := zd_at zhX9_back_66 25 rfl
theorem dX9_back_118 : decode cX9_back 118 = .ok (.ireturn, 1) := zd_at zhX9_back_66 26 rfl
def ziX9_count_0 : List (Nat × Instr × Nat) := [(0, .iload_n 1, 1), (1, .ifCond .ne 10, 3), (4, .aload_n 0, 1), (5, .getfield 88, 3), (8, .goto 65, 3), (11, .iload_n 1, 1), (12, .iconst 1, 1), (13, .if_icmp .ne 10, 3), (16, .aload_n 0, 1), (17, .invokevirtual 427, 3), (20, .goto 53, 3), (23, .iload_n 1, 1), (24, .iconst 2, 1), (25, .if_icmp .ne 10, 3), (28, .aload_n 0, 1), (29, .getfield 385, 3), (32, .goto 41, 3), (35, .iload_n 1, 1), (36, .iconst 3, 1), (37, .if_icmp .ne 10, 3), (40, .aload_n 0, 1), (41, .getfield 85, 3), (44, .goto 29, 3), (47, .iload_n 1, 1), (48, .iconst 4, 1), (49, .if_icmp .ne 10, 3), (52, .aload_n 0, 1), (53, .getfield 146, 3), (56, .goto 17, 3), (59, .iload_n 1, 1), (60, .iconst 5, 1), (61, .if_icmp .ne 10, 3), (64, .aload_n 0, 1), (65, .getfield 120, 3), (68, .goto 5, 3), (71, .bipush (-2), 2), (73, .ireturn, 1)]
theorem zhX9_count_0 : zd_chk (cX9_count.data.toList.drop 0) 0 ziX9_count_0 = true := by decide +kernel
theorem dX9_count_0 : decode cX9_count 0 = .ok (.iload_n 1, 1) := zd_at zhX9_count_0 0 rfl
theorem dX9_count_1 : decode cX9_count 1 = .ok (.ifCond .ne 10, 3) := zd_at zhX9_count_0 1 rfl
theorem dX9_count_4 : decode cX9_count 4 = .ok (.aload_n 0, 1) := zd_at zhX9_count_0 2 rfl
theorem dX9_count_5 : decode cX9_count 5 = .ok (.getfield 88, 3) := zd_at zhX9_count_0 3 rfl
theorem dX9_count_8 : decode cX9_count 8 = .ok (.goto 65, 3) := zd_at zhX9_count_0 4 rfl
theorem dX9_count_11 : decode cX9_count 11 = .ok (.iload_n 1, 1) := zd_at zhX9_count_0 5 rfl
theorem dX9_count_12 : decode cX9_count 12 = .ok (.iconst 1, 1) := zd_at zhX9_count_0 6 rfl
theorem dX9_count_13 : decode cX9_count 13 = .ok (.if_icmp .ne 10, 3) := zd_at zhX9_count_0 7 rfl
theorem dX9_count_16 : decode cX9_count 16 = .ok (.aload_n 0, 1) := zd_at zhX9_count_0 8 rfl
theorem dX9_count_17 : decode cX9_count 17 = .ok (.invokevirtual 427, 3) := zd_at zhX9_count_0 9 rfl
theorem dX9_count_20 : decode cX9_count 20 = .ok (.goto 53, 3) := zd_at zhX9_count_0 10 rfl
theorem dX9_count_23 : decode cX9_count 23 = .ok (.iload_n 1, 1) := zd_at zhX9_count_0 11 rfl
theorem dX9_count_24 : decode cX9_count 24 = .ok (.iconst 2, 1) := zd_at zhX9_count_0 12 rfl
theorem dX9_count_25 : decode cX9_count 25 = .ok (.if_icmp .ne 10, 3) := zd_at zhX9_count_0 13 rfl
theorem dX9_count_28 : decode cX9_count 28 = .ok (.aload_n 0, 1) := zd_at zhX9_count_0 14 rfl
theorem dX9_count_29 : decode cX9_count 29 = .ok (.getfield 385, 3) := zd_at zhX9_count_0 15 rfl
theorem dX9_count_32 : decode cX9_count 32 = .ok (.goto 41, 3) := zd_at zhX9_count_0 16 rfl
theorem dX9_count_35 : decode cX9_count 35 = .ok (.iload_n 1, 1) := zd_at zhX9_count_0 17 rfl
theorem dX9_count_36 : decode cX9_count 36 = .ok (.iconst 3, 1) := zd_at zhX9_count_0 18 rfl
theorem dX9_count_37 : decode cX9_count 37 = .ok (.if_icmp .ne 10, 3) := zd_at zhX9_count_0 19 rfl
theorem dX9_count_40 : decode cX9_count 40 = .ok (.aload_n 0, 1) := zd_at zhX9_count_0 20 rfl
theorem dX9_count_41 : decode cX9_count 41 = .ok (.getfield 85, 3) := zd_at zhX9_count_0 21 rfl
theorem dX9_count_44 : decode cX9_count 44 = .ok (.goto 29, 3) := zd_at zhX9_count_0 22 rfl
theorem dX9_count_47 : decode cX9_count 47 = .ok (.iload_n 1, 1) := zd_at zhX9_count_0 23 rfl
theorem dX9_count_48 : decode cX9_count 48 = .ok (.iconst 4, 1) := zd_at zhX9_count_0 24 rfl
theorem dX9_count_49 : decode cX9_count 49 = .ok (.if_icmp .ne 10, 3) := zd_at zhX9_count_0 25 rfl
theorem dX9_count_52 : decode cX9_count 52 = .ok (.aload_n 0, 1) := zd_at zhX9_count_0 26 rfl
theorem dX9_count_53 : decode cX9_count 53 = .ok (.getfield 146, 3) := zd_at zhX9_count_0 27 rfl
theorem dX9_count_56 : decode cX9_count 56 = .ok (.goto 17, 3) := zd_at zhX9_count_0 28 rfl
theorem dX9_count_59 : decode cX9_count 59 = .ok (.iload_n 1, 1) := zd_at zhX9_count_0 29 rfl
theorem dX9_count_60 : decode cX9_count 60 = .ok (.iconst 5, 1) := zd_at zhX9_count_0 30 rfl
theorem dX9_count_61 : decode cX9_count 61 = .ok (.if_icmp .ne 10, 3) := zd_at zhX9_count_0 31 rfl
theorem dX9_count_64 : decode cX9_count 64 = .ok (.aload_n 0, 1) := zd_at zhX9_count_0 32 rfl
theorem dX9_count_65 : decode cX9_count 65 = .ok (.getfield 120, 3) := zd_at zhX9_count_0 33 rfl
theorem dX9_count_68 : decode cX9_count 68 = .ok (.goto 5, 3) := zd_at zhX9_count_0 34 rfl
theorem dX9_count_71 : decode cX9_count 71 = .ok (.bipush (-2), 2) := zd_at zhX9_count_0 35 rfl
theorem dX9_count_73 : decode cX9_count 73 = .ok (.ireturn, 1) := zd_at zhX9_count_0 36 rfl
def ziX9_isSheet_0 : List (Nat × Instr × Nat) := [(0, .iload_n 0, 1), (1, .i2l, 1), (2, .lconst 0, 1), (3, .ldc2_w 433, 3), (6, .invokestatic 91, 3), (9, .ireturn, 1)]
theorem zhX9_isSheet_0 : zd_chk (cX9_isSheet.data.toList.drop 0) 0 ziX9_isSheet_0 = true := by decide +kernel
theorem dX9_isSheet_0 : decode cX9_isSheet 0 = .ok (.iload_n 0, 1) := zd_at zhX9_isSheet_0 0 rfl
theorem dX9_isSheet_1 : decode cX9_isSheet 1 = .ok (.i2l, 1) := zd_at zhX9_isSheet_0 1 rfl
theorem dX9_isSheet_2 : decode cX9_isSheet 2 = .ok (.lconst 0, 1) := zd_at zhX9_isSheet_0 2 rfl
theorem dX9_isSheet_3 : decode cX9_isSheet 3 = .ok (.ldc2_w 433, 3) := zd_at zhX9_isSheet_0 3 rfl
theorem dX9_isSheet_6 : decode cX9_isSheet 6 = .ok (.invokestatic 91, 3) := zd_at zhX9_isSheet_0 4 rfl
theorem dX9_isSheet_9 : decode cX9_isSheet 9 = .ok (.ireturn, 1) := zd_at zhX9_isSheet_0 5 rfl
def ziX9_sheet_0 : List (Nat × Instr × Nat) := [(0, .iload_n 1, 1), (1, .invokestatic 421, 3), (4, .ifCond .eq 27, 3), (7, .iload_n 2, 1), (8, .i2l, 1), (9, .ldc2_w 471, 3), (12, .ldc2_w 99, 3), (15, .invokestatic 91, 3), (18, .ifCond .eq 13, 3), (21, .iload_n 2, 1), (22, .ifCond .lt 12, 3), (25, .iload_n 3, 1), (26, .bipush 40, 2), (28, .if_icmp .le 6, 3), (31, .bipush (-2), 2), (33, .ireturn, 1), (34, .iload_n 2, 1), (35, .ifCond .lt 10, 3), (38, .iload_n 3, 1), (39, .ifCond .ge 6, 3), (42, .bipush (-14), 2), (44, .ireturn, 1), (45, .aload_n 0, 1), (46, .getfield 68, 3), (49, .iload_n 1, 1), (50, .iload_n 2, 1), (51, .ifCond .lt 7, 3), (54, .iconst 1, 1), (55, .goto 4, 3), (58, .iconst 0, 1), (59, .bastore, 1), (60, .aload_n 0, 1), (61, .getfield 72, 3), (64, .iload_n 1, 1), (65, .iload_n 2, 1), (66, .iastore, 1), (67, .aload_n 0, 1), (68, .getfield 75, 3), (71, .iload_n 1, 1), (72, .iload_n 3, 1)]
theorem zhX9_sheet_0 : zd_chk (cX9_sheet.data.toList.drop 0) 0 ziX9_sheet_0 = true := by decide +kernel
theorem dX9_sheet_0 : decode cX9_sheet 0 = .ok (.iload_n 1, 1) := zd_at zhX9_sheet_0 0 rfl
theorem dX9_sheet_1 : decode cX9_sheet 1 = .ok (.invokestatic 421, 3) := zd_at zhX9_sheet_0 1 rfl
theorem dX9_sheet_4 : decode cX9_sheet 4 = .ok (.ifCond .eq 27, 3) := zd_at zhX9_sheet_0 2 rfl
theorem dX9_sheet_7 : decode cX9_sheet 7 = .ok (.iload_n 2, 1) := zd_at zhX9_sheet_0 3 rfl
theorem dX9_sheet_8 : decode cX9_sheet 8 = .ok (.i2l, 1) := zd_at zhX9_sheet_0 4 rfl
theorem dX9_sheet_9 : decode cX9_sheet 9 = .ok (.ldc2_w 471, 3) := zd_at zhX9_sheet_0 5 rfl
theorem dX9_sheet_12 : decode cX9_sheet 12 = .ok (.ldc2_w 99, 3) := zd_at zhX9_sheet_0 6 rfl
theorem dX9_sheet_15 : decode cX9_sheet 15 = .ok (.invokestatic 91, 3) := zd_at zhX9_sheet_0 7 rfl
theorem dX9_sheet_18 : decode cX9_sheet 18 = .ok (.ifCond .eq 13, 3) := zd_at zhX9_sheet_0 8 rfl
theorem dX9_sheet_21 : decode cX9_sheet 21 = .ok (.iload_n 2, 1) := zd_at zhX9_sheet_0 9 rfl
theorem dX9_sheet_22 : decode cX9_sheet 22 = .ok (.ifCond .lt 12, 3) := zd_at zhX9_sheet_0 10 rfl
theorem dX9_sheet_25 : decode cX9_sheet 25 = .ok (.iload_n 3, 1) := zd_at zhX9_sheet_0 11 rfl
theorem dX9_sheet_26 : decode cX9_sheet 26 = .ok (.bipush 40, 2) := zd_at zhX9_sheet_0 12 rfl
theorem dX9_sheet_28 : decode cX9_sheet 28 = .ok (.if_icmp .le 6, 3) := zd_at zhX9_sheet_0 13 rfl
theorem dX9_sheet_31 : decode cX9_sheet 31 = .ok (.bipush (-2), 2) := zd_at zhX9_sheet_0 14 rfl
theorem dX9_sheet_33 : decode cX9_sheet 33 = .ok (.ireturn, 1) := zd_at zhX9_sheet_0 15 rfl
theorem dX9_sheet_34 : decode cX9_sheet 34 = .ok (.iload_n 2, 1) := zd_at zhX9_sheet_0 16 rfl
theorem dX9_sheet_35 : decode cX9_sheet 35 = .ok (.ifCond .lt 10, 3) := zd_at zhX9_sheet_0 17 rfl
theorem dX9_sheet_38 : decode cX9_sheet 38 = .ok (.iload_n 3, 1) := zd_at zhX9_sheet_0 18 rfl
theorem dX9_sheet_39 : decode cX9_sheet 39 = .ok (.ifCond .ge 6, 3) := zd_at zhX9_sheet_0 19 rfl
theorem dX9_sheet_42 : decode cX9_sheet 42 = .ok (.bipush (-14), 2) := zd_at zhX9_sheet_0 20 rfl
theorem dX9_sheet_44 : decode cX9_sheet 44 = .ok (.ireturn, 1) := zd_at zhX9_sheet_0 21 rfl
theorem dX9_sheet_45 : decode cX9_sheet 45 = .ok (.aload_n 0, 1) := zd_at zhX9_sheet_0 22 rfl
theorem dX9_sheet_46 : decode cX9_sheet 46 = .ok (.getfield 68, 3) := zd_at zhX9_sheet_0 23 rfl
theorem dX9_sheet_49 : decode cX9_sheet 49 = .ok (.iload_n 1, 1) := zd_at zhX9_sheet_0 24 rfl
theorem dX9_sheet_50 : decode cX9_sheet 50 = .ok (.iload_n 2, 1) := zd_at zhX9_sheet_0 25 rfl
theorem dX9_sheet_51 : decode cX9_sheet 51 = .ok (.ifCond .lt 7, 3) := zd_at zhX9_sheet_0 26 rfl
theorem dX9_sheet_54 : decode cX9_sheet 54 = .ok (.iconst 1, 1) := zd_at zhX9_sheet_0 27 rfl
theorem dX9_sheet_55 : decode cX9_sheet 55 = .ok (.goto 4, 3) := zd_at zhX9_sheet_0 28 rfl
theorem dX9_sheet_58 : decode cX9_sheet 58 = .ok (.iconst 0, 1) := zd_at zhX9_sheet_0 29 rfl
theorem dX9_sheet_59 : decode cX9_sheet 59 = .ok (.bastore, 1) := zd_at zhX9_sheet_0 30 rfl
theorem dX9_sheet_60 : decode cX9_sheet 60 = .ok (.aload_n 0, 1) := zd_at zhX9_sheet_0 31 rfl
theorem dX9_sheet_61 : decode cX9_sheet 61 = .ok (.getfield 72, 3) := zd_at zhX9_sheet_0 32 rfl
theorem dX9_sheet_64 : decode cX9_sheet 64 = .ok (.iload_n 1, 1) := zd_at zhX9_sheet_0 33 rfl
theorem dX9_sheet_65 : decode cX9_sheet 65 = .ok (.iload_n 2, 1) := zd_at zhX9_sheet_0 34 rfl
theorem dX9_sheet_66 : decode cX9_sheet 66 = .ok (.iastore, 1) := zd_at zhX9_sheet_0 35 rfl
theorem dX9_sheet_67 : decode cX9_sheet 67 = .ok (.aload_n 0, 1) := zd_at zhX9_sheet_0 36 rfl
theorem dX9_sheet_68 : decode cX9_sheet 68 = .ok (.getfield 75, 3) := zd_at zhX9_sheet_0 37 rfl
theorem dX9_sheet_71 : decode cX9_sheet 71 = .ok (.iload_n 1, 1) := zd_at zhX9_sheet_0 38 rfl
theorem dX9_sheet_72 : decode cX9_sheet 72 = .ok (.iload_n 3, 1) := zd_at zhX9_sheet_0 39 rfl
def ziX9_sheet_73 : List (Nat × Instr × Nat) := [(73, .iastore, 1), (74, .iconst 0, 1), (75, .istore 4, 2), (77, .iload 4, 2), (79, .iload_n 3, 1), (80, .if_icmp .ge 26, 3), (83, .iload_n 2, 1), (84, .ifCond .lt 22, 3), (87, .aload_n 0, 1), (88, .getfield 78, 3), (91, .bipush 40, 2), (93, .iload_n 1, 1), (94, .imul, 1), (95, .iload 4, 2), (97, .iadd, 1), (98, .iconst 0, 1), (99, .iastore, 1), (100, .iinc 4 1, 3), (103, .goto (-26), 3), (106, .iconst 1, 1), (107, .ireturn, 1)]
theorem zhX9_sheet_73 : zd_chk (cX9_sheet.data.toList.drop 73) 73 ziX9_sheet_73 = true := by decide +kernel
theorem dX9_sheet_73 : decode cX9_sheet 73 = .ok (.iastore, 1) := zd_at zhX9_sheet_73 0 rfl
theorem dX9_sheet_74 : decode cX9_sheet 74 = .ok (.iconst 0, 1) := zd_at zhX9_sheet_73 1 rfl
theorem dX9_sheet_75 : decode cX9_sheet 75 = .ok (.istore 4, 2) := zd_at zhX9_sheet_73 2 rfl
theorem dX9_sheet_77 : decode cX9_sheet 77 = .ok (.iload 4, 2) := zd_at zhX9_sheet_73 3 rfl
theorem dX9_sheet_79 : decode cX9_sheet 79 = .ok (.iload_n 3, 1) := zd_at zhX9_sheet_73 4 rfl
theorem dX9_sheet_80 : decode cX9_sheet 80 = .ok (.if_icmp .ge 26, 3) := zd_at zhX9_sheet_73 5 rfl
theorem dX9_sheet_83 : decode cX9_sheet 83 = .ok (.iload_n 2, 1) := zd_at zhX9_sheet_73 6 rfl
theorem dX9_sheet_84 : decode cX9_sheet 84 = .ok (.ifCond .lt 22, 3) := zd_at zhX9_sheet_73 7 rfl
theorem dX9_sheet_87 : decode cX9_sheet 87 = .ok (.aload_n 0, 1) := zd_at zhX9_sheet_73 8 rfl
theorem dX9_sheet_88 : decode cX9_sheet 88 = .ok (.getfield 78, 3) := zd_at zhX9_sheet_73 9 rfl
theorem dX9_sheet_91 : decode cX9_sheet 91 = .ok (.bipush 40, 2) := zd_at zhX9_sheet_73 10 rfl
theorem dX9_sheet_93 : decode cX9_sheet 93 = .ok (.iload_n 1, 1) := zd_at zhX9_sheet_73 11 rfl
theorem dX9_sheet_94 : decode cX9_sheet 94 = .ok (.imul, 1) := zd_at zhX9_sheet_73 12 rfl
theorem dX9_sheet_95 : decode cX9_sheet 95 = .ok (.iload 4, 2) := zd_at zhX9_sheet_73 13 rfl
theorem dX9_sheet_97 : decode cX9_sheet 97 = .ok (.iadd, 1) := zd_at zhX9_sheet_73 14 rfl
theorem dX9_sheet_98 : decode cX9_sheet 98 = .ok (.iconst 0, 1) := zd_at zhX9_sheet_73 15 rfl
theorem dX9_sheet_99 : decode cX9_sheet 99 = .ok (.iastore, 1) := zd_at zhX9_sheet_73 16 rfl
theorem dX9_sheet_100 : decode cX9_sheet 100 = .ok (.iinc 4 1, 3) := zd_at zhX9_sheet_73 17 rfl
theorem dX9_sheet_103 : decode cX9_sheet 103 = .ok (.goto (-26), 3) := zd_at zhX9_sheet_73 18 rfl
theorem dX9_sheet_106 : decode cX9_sheet 106 = .ok (.iconst 1, 1) := zd_at zhX9_sheet_73 19 rfl
theorem dX9_sheet_107 : decode cX9_sheet 107 = .ok (.ireturn, 1) := zd_at zhX9_sheet_73 20 rfl
def ziX9_cell_0 : List (Nat × Instr × Nat) := [(0, .iload_n 1, 1), (1, .invokestatic 421, 3), (4, .ifCond .ne 6, 3), (7, .bipush (-2), 2), (9, .ireturn, 1), (10, .aload_n 0, 1), (11, .getfield 68, 3), (14, .iload_n 1, 1), (15, .baload, 1), (16, .ifCond .ne 6, 3), (19, .bipush (-11), 2), (21, .ireturn, 1), (22, .iload_n 2, 1), (23, .i2l, 1), (24, .lconst 0, 1), (25, .aload_n 0, 1), (26, .getfield 75, 3), (29, .iload_n 1, 1), (30, .iaload, 1), (31, .iconst 1, 1), (32, .isub, 1), (33, .i2l, 1), (34, .invokestatic 91, 3), (37, .ifCond .ne 6, 3), (40, .bipush (-12), 2), (42, .ireturn, 1), (43, .aload_n 0, 1), (44, .getfield 78, 3), (47, .bipush 40, 2), (49, .iload_n 1, 1), (50, .imul, 1), (51, .iload_n 2, 1), (52, .iadd, 1), (53, .aload_n 0, 1), (54, .getfield 72, 3), (57, .iload_n 1, 1), (58, .iaload, 1), (59, .ifCond .ne 8, 3), (62, .iload_n 3, 1), (63, .i2b, 1)]
theorem zhX9_cell_0 : zd_chk (cX9_cell.data.toList.drop 0) 0 ziX9_cell_0 = true := by decide +kernel
theorem dX9_cell_0 : decode cX9_cell 0 = .ok (.iload_n 1, 1) := zd_at zhX9_cell_0 0 rfl
theorem dX9_cell_1 : decode cX9_cell 1 = .ok (.invokestatic 421, 3) := zd_at zhX9_cell_0 1 rfl
theorem dX9_cell_4 : decode cX9_cell 4 = .ok (.ifCond .ne 6, 3) := zd_at zhX9_cell_0 2 rfl
theorem dX9_cell_7 : decode cX9_cell 7 = .ok (.bipush (-2), 2) := zd_at zhX9_cell_0 3 rfl
theorem dX9_cell_9 : decode cX9_cell 9 = .ok (.ireturn, 1) := zd_at zhX9_cell_0 4 rfl
theorem dX9_cell_10 : decode cX9_cell 10 = .ok (.aload_n 0, 1) := zd_at zhX9_cell_0 5 rfl
theorem dX9_cell_11 : decode cX9_cell 11 = .ok (.getfield 68, 3) := zd_at zhX9_cell_0 6 rfl
theorem dX9_cell_14 : decode cX9_cell 14 = .ok (.iload_n 1, 1) := zd_at zhX9_cell_0 7 rfl
theorem dX9_cell_15 : decode cX9_cell 15 = .ok (.baload, 1) := zd_at zhX9_cell_0 8 rfl
theorem dX9_cell_16 : decode cX9_cell 16 = .ok (.ifCond .ne 6, 3) := zd_at zhX9_cell_0 9 rfl
theorem dX9_cell_19 : decode cX9_cell 19 = .ok (.bipush (-11), 2) := zd_at zhX9_cell_0 10 rfl
theorem dX9_cell_21 : decode cX9_cell 21 = .ok (.ireturn, 1) := zd_at zhX9_cell_0 11 rfl
theorem dX9_cell_22 : decode cX9_cell 22 = .ok (.iload_n 2, 1) := zd_at zhX9_cell_0 12 rfl
theorem dX9_cell_23 : decode cX9_cell 23 = .ok (.i2l, 1) := zd_at zhX9_cell_0 13 rfl
theorem dX9_cell_24 : decode cX9_cell 24 = .ok (.lconst 0, 1) := zd_at zhX9_cell_0 14 rfl
theorem dX9_cell_25 : decode cX9_cell 25 = .ok (.aload_n 0, 1) := zd_at zhX9_cell_0 15 rfl
theorem dX9_cell_26 : decode cX9_cell 26 = .ok (.getfield 75, 3) := zd_at zhX9_cell_0 16 rfl
theorem dX9_cell_29 : decode cX9_cell 29 = .ok (.iload_n 1, 1) := zd_at zhX9_cell_0 17 rfl
theorem dX9_cell_30 : decode cX9_cell 30 = .ok (.iaload, 1) := zd_at zhX9_cell_0 18 rfl
theorem dX9_cell_31 : decode cX9_cell 31 = .ok (.iconst 1, 1) := zd_at zhX9_cell_0 19 rfl
theorem dX9_cell_32 : decode cX9_cell 32 = .ok (.isub, 1) := zd_at zhX9_cell_0 20 rfl
theorem dX9_cell_33 : decode cX9_cell 33 = .ok (.i2l, 1) := zd_at zhX9_cell_0 21 rfl
theorem dX9_cell_34 : decode cX9_cell 34 = .ok (.invokestatic 91, 3) := zd_at zhX9_cell_0 22 rfl
theorem dX9_cell_37 : decode cX9_cell 37 = .ok (.ifCond .ne 6, 3) := zd_at zhX9_cell_0 23 rfl
theorem dX9_cell_40 : decode cX9_cell 40 = .ok (.bipush (-12), 2) := zd_at zhX9_cell_0 24 rfl
theorem dX9_cell_42 : decode cX9_cell 42 = .ok (.ireturn, 1) := zd_at zhX9_cell_0 25 rfl
theorem dX9_cell_43 : decode cX9_cell 43 = .ok (.aload_n 0, 1) := zd_at zhX9_cell_0 26 rfl
theorem dX9_cell_44 : decode cX9_cell 44 = .ok (.getfield 78, 3) := zd_at zhX9_cell_0 27 rfl
theorem dX9_cell_47 : decode cX9_cell 47 = .ok (.bipush 40, 2) := zd_at zhX9_cell_0 28 rfl
theorem dX9_cell_49 : decode cX9_cell 49 = .ok (.iload_n 1, 1) := zd_at zhX9_cell_0 29 rfl
theorem dX9_cell_50 : decode cX9_cell 50 = .ok (.imul, 1) := zd_at zhX9_cell_0 30 rfl
theorem dX9_cell_51 : decode cX9_cell 51 = .ok (.iload_n 2, 1) := zd_at zhX9_cell_0 31 rfl
theorem dX9_cell_52 : decode cX9_cell 52 = .ok (.iadd, 1) := zd_at zhX9_cell_0 32 rfl
theorem dX9_cell_53 : decode cX9_cell 53 = .ok (.aload_n 0, 1) := zd_at zhX9_cell_0 33 rfl
theorem dX9_cell_54 : decode cX9_cell 54 = .ok (.getfield 72, 3) := zd_at zhX9_cell_0 34 rfl
theorem dX9_cell_57 : decode cX9_cell 57 = .ok (.iload_n 1, 1) := zd_at zhX9_cell_0 35 rfl
theorem dX9_cell_58 : decode cX9_cell 58 = .ok (.iaload, 1) := zd_at zhX9_cell_0 36 rfl
theorem dX9_cell_59 : decode cX9_cell 59 = .ok (.ifCond .ne 8, 3) := zd_at zhX9_cell_0 37 rfl
theorem dX9_cell_62 : decode cX9_cell 62 = .ok (.iload_n 3, 1) := zd_at zhX9_cell_0 38 rfl
theorem dX9_cell_63 : decode cX9_cell 63 = .ok (.i2b, 1) := zd_at zhX9_cell_0 39 rfl
def ziX9_cell_64 : List (Nat × Instr × Nat) := [(64, .goto 19, 3), (67, .aload_n 0, 1), (68, .getfield 72, 3), (71, .iload_n 1, 1), (72, .iaload, 1), (73, .iconst 1, 1), (74, .if_icmp .ne 8, 3), (77, .iload_n 3, 1), (78, .i2s, 1), (79, .goto 4, 3), (82, .iload_n 3, 1), (83, .iastore, 1), (84, .iconst 1, 1), (85, .ireturn, 1)]
theorem zhX9_cell_64 : zd_chk (cX9_cell.data.toList.drop 64) 64 ziX9_cell_64 = true := by decide +kernel
theorem dX9_cell_64 : decode cX9_cell 64 = .ok (.goto 19, 3) := zd_at zhX9_cell_64 0 rfl
theorem dX9_cell_67 : decode cX9_cell 67 = .ok (.aload_n 0, 1) := zd_at zhX9_cell_64 1 rfl
theorem dX9_cell_68 : decode cX9_cell 68 = .ok (.getfield 72, 3) := zd_at zhX9_cell_64 2 rfl
theorem dX9_cell_71 : decode cX9_cell 71 = .ok (.iload_n 1, 1) := zd_at zhX9_cell_64 3 rfl
theorem dX9_cell_72 : decode cX9_cell 72 = .ok (.iaload, 1) := zd_at zhX9_cell_64 4 rfl
theorem dX9_cell_73 : decode cX9_cell 73 = .ok (.iconst 1, 1) := zd_at zhX9_cell_64 5 rfl
theorem dX9_cell_74 : decode cX9_cell 74 = .ok (.if_icmp .ne 8, 3) := zd_at zhX9_cell_64 6 rfl
theorem dX9_cell_77 : decode cX9_cell 77 = .ok (.iload_n 3, 1) := zd_at zhX9_cell_64 7 rfl
theorem dX9_cell_78 : decode cX9_cell 78 = .ok (.i2s, 1) := zd_at zhX9_cell_64 8 rfl
theorem dX9_cell_79 : decode cX9_cell 79 = .ok (.goto 4, 3) := zd_at zhX9_cell_64 9 rfl
theorem dX9_cell_82 : decode cX9_cell 82 = .ok (.iload_n 3, 1) := zd_at zhX9_cell_64 10 rfl
theorem dX9_cell_83 : decode cX9_cell 83 = .ok (.iastore, 1) := zd_at zhX9_cell_64 11 rfl
theorem dX9_cell_84 : decode cX9_cell 84 = .ok (.iconst 1, 1) := zd_at zhX9_cell_64 12 rfl
theorem dX9_cell_85 : decode cX9_cell 85 = .ok (.ireturn, 1) := zd_at zhX9_cell_64 13 rfl
def ziX9_copy_0 : List (Nat × Instr × Nat) := [(0, .iload_n 1, 1), (1, .invokestatic 421, 3), (4, .ifCond .eq 10, 3), (7, .iload_n 3, 1), (8, .invokestatic 421, 3), (11, .ifCond .ne 6, 3), (14, .bipush (-2), 2), (16, .ireturn, 1), (17, .aload_n 0, 1), (18, .getfield 68, 3), (21, .iload_n 1, 1), (22, .baload, 1), (23, .ifCond .eq 12, 3), (26, .aload_n 0, 1), (27, .getfield 68, 3), (30, .iload_n 3, 1), (31, .baload, 1), (32, .ifCond .ne 6, 3), (35, .bipush (-11), 2), (37, .ireturn, 1), (38, .aload_n 0, 1), (39, .getfield 72, 3), (42, .iload_n 1, 1), (43, .iaload, 1), (44, .aload_n 0, 1), (45, .getfield 72, 3), (48, .iload_n 3, 1), (49, .iaload, 1), (50, .if_icmp .eq 6, 3), (53, .bipush (-13), 2), (55, .ireturn, 1), (56, .iload 5, 2), (58, .ifCond .lt 39, 3), (61, .iload_n 2, 1), (62, .ifCond .lt 35, 3), (65, .iload 4, 2), (67, .ifCond .lt 30, 3), (70, .iload_n 2, 1), (71, .aload_n 0, 1), (72, .getfield 75, 3)]
theorem zhX9_copy_0 : zd_chk (cX9_copy.data.toList.drop 0) 0 ziX9_copy_0 = true := by decide +kernel
theorem dX9_copy_0 : decode cX9_copy 0 = .ok (.iload_n 1, 1) := zd_at zhX9_copy_0 0 rfl
theorem dX9_copy_1 : decode cX9_copy 1 = .ok (.invokestatic 421, 3) := zd_at zhX9_copy_0 1 rfl
theorem dX9_copy_4 : decode cX9_copy 4 = .ok (.ifCond .eq 10, 3) := zd_at zhX9_copy_0 2 rfl
theorem dX9_copy_7 : decode cX9_copy 7 = .ok (.iload_n 3, 1) := zd_at zhX9_copy_0 3 rfl
theorem dX9_copy_8 : decode cX9_copy 8 = .ok (.invokestatic 421, 3) := zd_at zhX9_copy_0 4 rfl
theorem dX9_copy_11 : decode cX9_copy 11 = .ok (.ifCond .ne 6, 3) := zd_at zhX9_copy_0 5 rfl
theorem dX9_copy_14 : decode cX9_copy 14 = .ok (.bipush (-2), 2) := zd_at zhX9_copy_0 6 rfl
theorem dX9_copy_16 : decode cX9_copy 16 = .ok (.ireturn, 1) := zd_at zhX9_copy_0 7 rfl
theorem dX9_copy_17 : decode cX9_copy 17 = .ok (.aload_n 0, 1) := zd_at zhX9_copy_0 8 rfl
theorem dX9_copy_18 : decode cX9_copy 18 = .ok (.getfield 68, 3) := zd_at zhX9_copy_0 9 rfl
theorem dX9_copy_21 : decode cX9_copy 21 = .ok (.iload_n 1, 1) := zd_at zhX9_copy_0 10 rfl
theorem dX9_copy_22 : decode cX9_copy 22 = .ok (.baload, 1) := zd_at zhX9_copy_0 11 rfl
theorem dX9_copy_23 : decode cX9_copy 23 = .ok (.ifCond .eq 12, 3) := zd_at zhX9_copy_0 12 rfl
theorem dX9_copy_26 : decode cX9_copy 26 = .ok (.aload_n 0, 1) := zd_at zhX9_copy_0 13 rfl
theorem dX9_copy_27 : decode cX9_copy 27 = .ok (.getfield 68, 3) := zd_at zhX9_copy_0 14 rfl
theorem dX9_copy_30 : decode cX9_copy 30 = .ok (.iload_n 3, 1) := zd_at zhX9_copy_0 15 rfl
theorem dX9_copy_31 : decode cX9_copy 31 = .ok (.baload, 1) := zd_at zhX9_copy_0 16 rfl
theorem dX9_copy_32 : decode cX9_copy 32 = .ok (.ifCond .ne 6, 3) := zd_at zhX9_copy_0 17 rfl
theorem dX9_copy_35 : decode cX9_copy 35 = .ok (.bipush (-11), 2) := zd_at zhX9_copy_0 18 rfl
theorem dX9_copy_37 : decode cX9_copy 37 = .ok (.ireturn, 1) := zd_at zhX9_copy_0 19 rfl
theorem dX9_copy_38 : decode cX9_copy 38 = .ok (.aload_n 0, 1) := zd_at zhX9_copy_0 20 rfl
theorem dX9_copy_39 : decode cX9_copy 39 = .ok (.getfield 72, 3) := zd_at zhX9_copy_0 21 rfl
theorem dX9_copy_42 : decode cX9_copy 42 = .ok (.iload_n 1, 1) := zd_at zhX9_copy_0 22 rfl
theorem dX9_copy_43 : decode cX9_copy 43 = .ok (.iaload, 1) := zd_at zhX9_copy_0 23 rfl
theorem dX9_copy_44 : decode cX9_copy 44 = .ok (.aload_n 0, 1) := zd_at zhX9_copy_0 24 rfl
theorem dX9_copy_45 : decode cX9_copy 45 = .ok (.getfield 72, 3) := zd_at zhX9_copy_0 25 rfl
theorem dX9_copy_48 : decode cX9_copy 48 = .ok (.iload_n 3, 1) := zd_at zhX9_copy_0 26 rfl
theorem dX9_copy_49 : decode cX9_copy 49 = .ok (.iaload, 1) := zd_at zhX9_copy_0 27 rfl
theorem dX9_copy_50 : decode cX9_copy 50 = .ok (.if_icmp .eq 6, 3) := zd_at zhX9_copy_0 28 rfl
theorem dX9_copy_53 : decode cX9_copy 53 = .ok (.bipush (-13), 2) := zd_at zhX9_copy_0 29 rfl
theorem dX9_copy_55 : decode cX9_copy 55 = .ok (.ireturn, 1) := zd_at zhX9_copy_0 30 rfl
theorem dX9_copy_56 : decode cX9_copy 56 = .ok (.iload 5, 2) := zd_at zhX9_copy_0 31 rfl
theorem dX9_copy_58 : decode cX9_copy 58 = .ok (.ifCond .lt 39, 3) := zd_at zhX9_copy_0 32 rfl
theorem dX9_copy_61 : decode cX9_copy 61 = .ok (.iload_n 2, 1) := zd_at zhX9_copy_0 33 rfl
theorem dX9_copy_62 : decode cX9_copy 62 = .ok (.ifCond .lt 35, 3) := zd_at zhX9_copy_0 34 rfl
theorem dX9_copy_65 : decode cX9_copy 65 = .ok (.iload 4, 2) := zd_at zhX9_copy_0 35 rfl
theorem dX9_copy_67 : decode cX9_copy 67 = .ok (.ifCond .lt 30, 3) := zd_at zhX9_copy_0 36 rfl
theorem dX9_copy_70 : decode cX9_copy 70 = .ok (.iload_n 2, 1) := zd_at zhX9_copy_0 37 rfl
theorem dX9_copy_71 : decode cX9_copy 71 = .ok (.aload_n 0, 1) := zd_at zhX9_copy_0 38 rfl
theorem dX9_copy_72 : decode cX9_copy 72 = .ok (.getfield 75, 3) := zd_at zhX9_copy_0 39 rfl
def ziX9_copy_75 : List (Nat × Instr × Nat) := [(75, .iload_n 1, 1), (76, .iaload, 1), (77, .iload 5, 2), (79, .isub, 1), (80, .if_icmp .gt 17, 3), (83, .iload 4, 2), (85, .aload_n 0, 1), (86, .getfield 75, 3), (89, .iload_n 3, 1), (90, .iaload, 1), (91, .iload 5, 2), (93, .isub, 1), (94, .if_icmp .le 6, 3), (97, .bipush (-12), 2), (99, .ireturn, 1), (100, .iload_n 1, 1), (101, .iload_n 3, 1), (102, .if_icmp .ne 13, 3), (105, .iload_n 2, 1), (106, .iload 4, 2), (108, .if_icmp .ge 7, 3), (111, .iconst 1, 1), (112, .goto 4, 3), (115, .iconst 0, 1), (116, .istore 6, 2), (118, .iconst 0, 1), (119, .istore 7, 2), (121, .iload 7, 2), (123, .iload 5, 2), (125, .if_icmp .ge 57, 3), (128, .iload 6, 2), (130, .ifCond .eq 13, 3), (133, .iload 5, 2), (135, .iconst 1, 1), (136, .isub, 1), (137, .iload 7, 2), (139, .isub, 1), (140, .goto 5, 3), (143, .iload 7, 2), (145, .istore 8, 2)]
theorem zhX9_copy_75 : zd_chk (cX9_copy.data.toList.drop 75) 75 ziX9_copy_75 = true := by decide +kernel
theorem dX9_copy_75 : decode cX9_copy 75 = .ok (.iload_n 1, 1) := zd_at zhX9_copy_75 0 rfl
theorem dX9_copy_76 : decode cX9_copy 76 = .ok (.iaload, 1) := zd_at zhX9_copy_75 1 rfl
theorem dX9_copy_77 : decode cX9_copy 77 = .ok (.iload 5, 2) := zd_at zhX9_copy_75 2 rfl
theorem dX9_copy_79 : decode cX9_copy 79 = .ok (.isub, 1) := zd_at zhX9_copy_75 3 rfl
theorem dX9_copy_80 : decode cX9_copy 80 = .ok (.if_icmp .gt 17, 3) := zd_at zhX9_copy_75 4 rfl
theorem dX9_copy_83 : decode cX9_copy 83 = .ok (.iload 4, 2) := zd_at zhX9_copy_75 5 rfl
theorem dX9_copy_85 : decode cX9_copy 85 = .ok (.aload_n 0, 1) := zd_at zhX9_copy_75 6 rfl
theorem dX9_copy_86 : decode cX9_copy 86 = .ok (.getfield 75, 3) := zd_at zhX9_copy_75 7 rfl
theorem dX9_copy_89 : decode cX9_copy 89 = .ok (.iload_n 3, 1) := zd_at zhX9_copy_75 8 rfl
theorem dX9_copy_90 : decode cX9_copy 90 = .ok (.iaload, 1) := zd_at zhX9_copy_75 9 rfl
theorem dX9_copy_91 : decode cX9_copy 91 = .ok (.iload 5, 2) := zd_at zhX9_copy_75 10 rfl
theorem dX9_copy_93 : decode cX9_copy 93 = .ok (.isub, 1) := zd_at zhX9_copy_75 11 rfl
theorem dX9_copy_94 : decode cX9_copy 94 = .ok (.if_icmp .le 6, 3) := zd_at zhX9_copy_75 12 rfl
theorem dX9_copy_97 : decode cX9_copy 97 = .ok (.bipush (-12), 2) := zd_at zhX9_copy_75 13 rfl
theorem dX9_copy_99 : decode cX9_copy 99 = .ok (.ireturn, 1) := zd_at zhX9_copy_75 14 rfl
theorem dX9_copy_100 : decode cX9_copy 100 = .ok (.iload_n 1, 1) := zd_at zhX9_copy_75 15 rfl
theorem dX9_copy_101 : decode cX9_copy 101 = .ok (.iload_n 3, 1) := zd_at zhX9_copy_75 16 rfl
theorem dX9_copy_102 : decode cX9_copy 102 = .ok (.if_icmp .ne 13, 3) := zd_at zhX9_copy_75 17 rfl
theorem dX9_copy_105 : decode cX9_copy 105 = .ok (.iload_n 2, 1) := zd_at zhX9_copy_75 18 rfl
theorem dX9_copy_106 : decode cX9_copy 106 = .ok (.iload 4, 2) := zd_at zhX9_copy_75 19 rfl
theorem dX9_copy_108 : decode cX9_copy 108 = .ok (.if_icmp .ge 7, 3) := zd_at zhX9_copy_75 20 rfl
theorem dX9_copy_111 : decode cX9_copy 111 = .ok (.iconst 1, 1) := zd_at zhX9_copy_75 21 rfl
theorem dX9_copy_112 : decode cX9_copy 112 = .ok (.goto 4, 3) := zd_at zhX9_copy_75 22 rfl
theorem dX9_copy_115 : decode cX9_copy 115 = .ok (.iconst 0, 1) := zd_at zhX9_copy_75 23 rfl
theorem dX9_copy_116 : decode cX9_copy 116 = .ok (.istore 6, 2) := zd_at zhX9_copy_75 24 rfl
theorem dX9_copy_118 : decode cX9_copy 118 = .ok (.iconst 0, 1) := zd_at zhX9_copy_75 25 rfl
theorem dX9_copy_119 : decode cX9_copy 119 = .ok (.istore 7, 2) := zd_at zhX9_copy_75 26 rfl
theorem dX9_copy_121 : decode cX9_copy 121 = .ok (.iload 7, 2) := zd_at zhX9_copy_75 27 rfl
theorem dX9_copy_123 : decode cX9_copy 123 = .ok (.iload 5, 2) := zd_at zhX9_copy_75 28 rfl
theorem dX9_copy_125 : decode cX9_copy 125 = .ok (.if_icmp .ge 57, 3) := zd_at zhX9_copy_75 29 rfl
theorem dX9_copy_128 : decode cX9_copy 128 = .ok (.iload 6, 2) := zd_at zhX9_copy_75 30 rfl
theorem dX9_copy_130 : decode cX9_copy 130 = .ok (.ifCond .eq 13, 3) := zd_at zhX9_copy_75 31 rfl
theorem dX9_copy_133 : decode cX9_copy 133 = .ok (.iload 5, 2) := zd_at zhX9_copy_75 32 rfl
theorem dX9_copy_135 : decode cX9_copy 135 = .ok (.iconst 1, 1) := zd_at zhX9_copy_75 33 rfl
theorem dX9_copy_136 : decode cX9_copy 136 = .ok (.isub, 1) := zd_at zhX9_copy_75 34 rfl
theorem dX9_copy_137 : decode cX9_copy 137 = .ok (.iload 7, 2) := zd_at zhX9_copy_75 35 rfl
theorem dX9_copy_139 : decode cX9_copy 139 = .ok (.isub, 1) := zd_at zhX9_copy_75 36 rfl
theorem dX9_copy_140 : decode cX9_copy 140 = .ok (.goto 5, 3) := zd_at zhX9_copy_75 37 rfl
theorem dX9_copy_143 : decode cX9_copy 143 = .ok (.iload 7, 2) := zd_at zhX9_copy_75 38 rfl
theorem dX9_copy_145 : decode cX9_copy 145 = .ok (.istore 8, 2) := zd_at zhX9_copy_75 39 rfl
def ziX9_copy_147 : List (Nat × Instr × Nat) := [(147, .aload_n 0, 1), (148, .getfield 78, 3), (151, .bipush 40, 2), (153, .iload_n 3, 1), (154, .imul, 1), (155, .iload 4, 2), (157, .iadd, 1), (158, .iload 8, 2), (160, .iadd, 1), (161, .aload_n 0, 1), (162, .getfield 78, 3), (165, .bipush 40, 2), (167, .iload_n 1, 1), (168, .imul, 1), (169, .iload_n 2, 1), (170, .iadd, 1), (171, .iload 8, 2), (173, .iadd, 1), (174, .iaload, 1), (175, .iastore, 1), (176, .iinc 7 1, 3), (179, .goto (-58), 3), (182, .iload 5, 2), (184, .ireturn, 1)]
theorem zhX9_copy_147 : zd_chk (cX9_copy.data.toList.drop 147) 147 ziX9_copy_147 = true := by decide +kernel
theorem dX9_copy_147 : decode cX9_copy 147 = .ok (.aload_n 0, 1) := zd_at zhX9_copy_147 0 rfl
theorem dX9_copy_148 : decode cX9_copy 148 = .ok (.getfield 78, 3) := zd_at zhX9_copy_147 1 rfl
theorem dX9_copy_151 : decode cX9_copy 151 = .ok (.bipush 40, 2) := zd_at zhX9_copy_147 2 rfl
theorem dX9_copy_153 : decode cX9_copy 153 = .ok (.iload_n 3, 1) := zd_at zhX9_copy_147 3 rfl
theorem dX9_copy_154 : decode cX9_copy 154 = .ok (.imul, 1) := zd_at zhX9_copy_147 4 rfl
theorem dX9_copy_155 : decode cX9_copy 155 = .ok (.iload 4, 2) := zd_at zhX9_copy_147 5 rfl
theorem dX9_copy_157 : decode cX9_copy 157 = .ok (.iadd, 1) := zd_at zhX9_copy_147 6 rfl
theorem dX9_copy_158 : decode cX9_copy 158 = .ok (.iload 8, 2) := zd_at zhX9_copy_147 7 rfl
theorem dX9_copy_160 : decode cX9_copy 160 = .ok (.iadd, 1) := zd_at zhX9_copy_147 8 rfl
theorem dX9_copy_161 : decode cX9_copy 161 = .ok (.aload_n 0, 1) := zd_at zhX9_copy_147 9 rfl
theorem dX9_copy_162 : decode cX9_copy 162 = .ok (.getfield 78, 3) := zd_at zhX9_copy_147 10 rfl
theorem dX9_copy_165 : decode cX9_copy 165 = .ok (.bipush 40, 2) := zd_at zhX9_copy_147 11 rfl
theorem dX9_copy_167 : decode cX9_copy 167 = .ok (.iload_n 1, 1) := zd_at zhX9_copy_147 12 rfl
theorem dX9_copy_168 : decode cX9_copy 168 = .ok (.imul, 1) := zd_at zhX9_copy_147 13 rfl
theorem dX9_copy_169 : decode cX9_copy 169 = .ok (.iload_n 2, 1) := zd_at zhX9_copy_147 14 rfl
theorem dX9_copy_170 : decode cX9_copy 170 = .ok (.iadd, 1) := zd_at zhX9_copy_147 15 rfl
theorem dX9_copy_171 : decode cX9_copy 171 = .ok (.iload 8, 2) := zd_at zhX9_copy_147 16 rfl
theorem dX9_copy_173 : decode cX9_copy 173 = .ok (.iadd, 1) := zd_at zhX9_copy_147 17 rfl
theorem dX9_copy_174 : decode cX9_copy 174 = .ok (.iaload, 1) := zd_at zhX9_copy_147 18 rfl
theorem dX9_copy_175 : decode cX9_copy 175 = .ok (.iastore, 1) := zd_at zhX9_copy_147 19 rfl
theorem dX9_copy_176 : decode cX9_copy 176 = .ok (.iinc 7 1, 3) := zd_at zhX9_copy_147 20 rfl
theorem dX9_copy_179 : decode cX9_copy 179 = .ok (.goto (-58), 3) := zd_at zhX9_copy_147 21 rfl
theorem dX9_copy_182 : decode cX9_copy 182 = .ok (.iload 5, 2) := zd_at zhX9_copy_147 22 rfl
theorem dX9_copy_184 : decode cX9_copy 184 = .ok (.ireturn, 1) := zd_at zhX9_copy_147 23 rfl
def ziX9_people_0 : List (Nat × Instr × Nat) := [(0, .iload_n 1, 1), (1, .invokestatic 421, 3), (4, .ifCond .eq 28, 3), (7, .iload_n 2, 1), (8, .i2l, 1), (9, .lconst 0, 1), (10, .ldc2_w 99, 3), (13, .invokestatic 91, 3), (16, .ifCond .eq 16, 3), (19, .iload 4, 2), (21, .i2l, 1), (22, .lconst 0, 1), (23, .ldc2_w 123, 3), (26, .invokestatic 91, 3), (29, .ifCond .ne 6, 3), (32, .bipush (-2), 2), (34, .ireturn, 1), (35, .aload_n 0, 1), (36, .getfield 68, 3), (39, .iload_n 1, 1), (40, .baload, 1), (41, .ifCond .eq 16, 3), (44, .aload_n 0, 1), (45, .getfield 72, 3), (48, .iload_n 1, 1), (49, .iaload, 1), (50, .iload_n 2, 1), (51, .if_icmp .eq 6, 3), (54, .bipush (-13), 2), (56, .ireturn, 1), (57, .aload_n 0, 1), (58, .getfield 68, 3), (61, .iload_n 1, 1), (62, .baload, 1), (63, .ifCond .ne 6, 3), (66, .bipush (-11), 2), (68, .ireturn, 1), (69, .iconst 0, 1), (70, .istore 5, 2), (72, .iconst 0, 1)]
theorem zhX9_people_0 : zd_chk (cX9_people.data.toList.drop 0) 0 ziX9_people_0 = true := by decide +kernel
theorem dX9_people_0 : decode cX9_people 0 = .ok (.iload_n 1, 1) := zd_at zhX9_people_0 0 rfl
theorem dX9_people_1 : decode cX9_people 1 = .ok (.invokestatic 421, 3) := zd_at zhX9_people_0 1 rfl
theorem dX9_people_4 : decode cX9_people 4 = .ok (.ifCond .eq 28, 3) := zd_at zhX9_people_0 2 rfl
theorem dX9_people_7 : decode cX9_people 7 = .ok (.iload_n 2, 1) := zd_at zhX9_people_0 3 rfl
theorem dX9_people_8 : decode cX9_people 8 = .ok (.i2l, 1) := zd_at zhX9_people_0 4 rfl
theorem dX9_people_9 : decode cX9_people 9 = .ok (.lconst 0, 1) := zd_at zhX9_people_0 5 rfl
theorem dX9_people_10 : decode cX9_people 10 = .ok (.ldc2_w 99, 3) := zd_at zhX9_people_0 6 rfl
theorem dX9_people_13 : decode cX9_people 13 = .ok (.invokestatic 91, 3) := zd_at zhX9_people_0 7 rfl
theorem dX9_people_16 : decode cX9_people 16 = .ok (.ifCond .eq 16, 3) := zd_at zhX9_people_0 8 rfl
theorem dX9_people_19 : decode cX9_people 19 = .ok (.iload 4, 2) := zd_at zhX9_people_0 9 rfl
theorem dX9_people_21 : decode cX9_people 21 = .ok (.i2l, 1) := zd_at zhX9_people_0 10 rfl
theorem dX9_people_22 : decode cX9_people 22 = .ok (.lconst 0, 1) := zd_at zhX9_people_0 11 rfl
theorem dX9_people_23 : decode cX9_people 23 = .ok (.ldc2_w 123, 3) := zd_at zhX9_people_0 12 rfl
theorem dX9_people_26 : decode cX9_people 26 = .ok (.invokestatic 91, 3) := zd_at zhX9_people_0 13 rfl
theorem dX9_people_29 : decode cX9_people 29 = .ok (.ifCond .ne 6, 3) := zd_at zhX9_people_0 14 rfl
theorem dX9_people_32 : decode cX9_people 32 = .ok (.bipush (-2), 2) := zd_at zhX9_people_0 15 rfl
theorem dX9_people_34 : decode cX9_people 34 = .ok (.ireturn, 1) := zd_at zhX9_people_0 16 rfl
theorem dX9_people_35 : decode cX9_people 35 = .ok (.aload_n 0, 1) := zd_at zhX9_people_0 17 rfl
theorem dX9_people_36 : decode cX9_people 36 = .ok (.getfield 68, 3) := zd_at zhX9_people_0 18 rfl
theorem dX9_people_39 : decode cX9_people 39 = .ok (.iload_n 1, 1) := zd_at zhX9_people_0 19 rfl
theorem dX9_people_40 : decode cX9_people 40 = .ok (.baload, 1) := zd_at zhX9_people_0 20 rfl
theorem dX9_people_41 : decode cX9_people 41 = .ok (.ifCond .eq 16, 3) := zd_at zhX9_people_0 21 rfl
theorem dX9_people_44 : decode cX9_people 44 = .ok (.aload_n 0, 1) := zd_at zhX9_people_0 22 rfl
theorem dX9_people_45 : decode cX9_people 45 = .ok (.getfield 72, 3) := zd_at zhX9_people_0 23 rfl
theorem dX9_people_48 : decode cX9_people 48 = .ok (.iload_n 1, 1) := zd_at zhX9_people_0 24 rfl
theorem dX9_people_49 : decode cX9_people 49 = .ok (.iaload, 1) := zd_at zhX9_people_0 25 rfl
theorem dX9_people_50 : decode cX9_people 50 = .ok (.iload_n 2, 1) := zd_at zhX9_people_0 26 rfl
theorem dX9_people_51 : decode cX9_people 51 = .ok (.if_icmp .eq 6, 3) := zd_at zhX9_people_0 27 rfl
theorem dX9_people_54 : decode cX9_people 54 = .ok (.bipush (-13), 2) := zd_at zhX9_people_0 28 rfl
theorem dX9_people_56 : decode cX9_people 56 = .ok (.ireturn, 1) := zd_at zhX9_people_0 29 rfl
theorem dX9_people_57 : decode cX9_people 57 = .ok (.aload_n 0, 1) := zd_at zhX9_people_0 30 rfl
theorem dX9_people_58 : decode cX9_people 58 = .ok (.getfield 68, 3) := zd_at zhX9_people_0 31 rfl
theorem dX9_people_61 : decode cX9_people 61 = .ok (.iload_n 1, 1) := zd_at zhX9_people_0 32 rfl
theorem dX9_people_62 : decode cX9_people 62 = .ok (.baload, 1) := zd_at zhX9_people_0 33 rfl
theorem dX9_people_63 : decode cX9_people 63 = .ok (.ifCond .ne 6, 3) := zd_at zhX9_people_0 34 rfl
theorem dX9_people_66 : decode cX9_people 66 = .ok (.bipush (-11), 2) := zd_at zhX9_people_0 35 rfl
theorem dX9_people_68 : decode cX9_people 68 = .ok (.ireturn, 1) := zd_at zhX9_people_0 36 rfl
theorem dX9_people_69 : decode cX9_people 69 = .ok (.iconst 0, 1) := zd_at zhX9_people_0 37 rfl
theorem dX9_people_70 : decode cX9_people 70 = .ok (.istore 5, 2) := zd_at zhX9_people_0 38 rfl
theorem dX9_people_72 : decode cX9_people 72 = .ok (.iconst 0, 1) := zd_at zhX9_people_0 39 rfl
def ziX9_people_73 : List (Nat × Instr × Nat) := [(73, .istore 6, 2), (75, .iload 6, 2), (77, .iload 4, 2), (79, .if_icmp .ge 79, 3), (82, .iload_n 3, 1), (83, .ifCond .lt 20, 3), (86, .iload_n 3, 1), (87, .aload_n 0, 1), (88, .getfield 75, 3), (91, .iload_n 1, 1), (92, .iaload, 1), (93, .iconst 2, 1), (94, .iload 6, 2), (96, .imul, 1), (97, .isub, 1), (98, .iconst 2, 1), (99, .isub, 1), (100, .if_icmp .le 6, 3), (103, .bipush (-12), 2), (105, .ireturn, 1), (106, .bipush 40, 2), (108, .iload_n 1, 1), (109, .imul, 1), (110, .iload_n 3, 1), (111, .iadd, 1), (112, .iconst 2, 1), (113, .iload 6, 2), (115, .imul, 1), (116, .iadd, 1), (117, .istore 7, 2), (119, .iload 5, 2), (121, .aload_n 0, 1), (122, .aload_n 0, 1), (123, .getfield 78, 3), (126, .iload 7, 2), (128, .iaload, 1), (129, .aload_n 0, 1), (130, .getfield 78, 3), (133, .iload 7, 2), (135, .iconst 1, 1)]
theorem zhX9_people_73 : zd_chk (cX9_people.data.toList.drop 73) 73 ziX9_people_73 = true := by decide +kernel
theorem dX9_people_73 : decode cX9_people 73 = .ok (.istore 6, 2) := zd_at zhX9_people_73 0 rfl
theorem dX9_people_75 : decode cX9_people 75 = .ok (.iload 6, 2) := zd_at zhX9_people_73 1 rfl
theorem dX9_people_77 : decode cX9_people 77 = .ok (.iload 4, 2) := zd_at zhX9_people_73 2 rfl
theorem dX9_people_79 : decode cX9_people 79 = .ok (.if_icmp .ge 79, 3) := zd_at zhX9_people_73 3 rfl
theorem dX9_people_82 : decode cX9_people 82 = .ok (.iload_n 3, 1) := zd_at zhX9_people_73 4 rfl
theorem dX9_people_83 : decode cX9_people 83 = .ok (.ifCond .lt 20, 3) := zd_at zhX9_people_73 5 rfl
theorem dX9_people_86 : decode cX9_people 86 = .ok (.iload_n 3, 1) := zd_at zhX9_people_73 6 rfl
theorem dX9_people_87 : decode cX9_people 87 = .ok (.aload_n 0, 1) := zd_at zhX9_people_73 7 rfl
theorem dX9_people_88 : decode cX9_people 88 = .ok (.getfield 75, 3) := zd_at zhX9_people_73 8 rfl
theorem dX9_people_91 : decode cX9_people 91 = .ok (.iload_n 1, 1) := zd_at zhX9_people_73 9 rfl
theorem dX9_people_92 : decode cX9_people 92 = .ok (.iaload, 1) := zd_at zhX9_people_73 10 rfl
theorem dX9_people_93 : decode cX9_people 93 = .ok (.iconst 2, 1) := zd_at zhX9_people_73 11 rfl
theorem dX9_people_94 : decode cX9_people 94 = .ok (.iload 6, 2) := zd_at zhX9_people_73 12 rfl
theorem dX9_people_96 : decode cX9_people 96 = .ok (.imul, 1) := zd_at zhX9_people_73 13 rfl
theorem dX9_people_97 : decode cX9_people 97 = .ok (.isub, 1) := zd_at zhX9_people_73 14 rfl
theorem dX9_people_98 : decode cX9_people 98 = .ok (.iconst 2, 1) := zd_at zhX9_people_73 15 rfl
theorem dX9_people_99 : decode cX9_people 99 = .ok (.isub, 1) := zd_at zhX9_people_73 16 rfl
theorem dX9_people_100 : decode cX9_people 100 = .ok (.if_icmp .le 6, 3) := zd_at zhX9_people_73 17 rfl
theorem dX9_people_103 : decode cX9_people 103 = .ok (.bipush (-12), 2) := zd_at zhX9_people_73 18 rfl
theorem dX9_people_105 : decode cX9_people 105 = .ok (.ireturn, 1) := zd_at zhX9_people_73 19 rfl
theorem dX9_people_106 : decode cX9_people 106 = .ok (.bipush 40, 2) := zd_at zhX9_people_73 20 rfl
theorem dX9_people_108 : decode cX9_people 108 = .ok (.iload_n 1, 1) := zd_at zhX9_people_73 21 rfl
theorem dX9_people_109 : decode cX9_people 109 = .ok (.imul, 1) := zd_at zhX9_people_73 22 rfl
theorem dX9_people_110 : decode cX9_people 110 = .ok (.iload_n 3, 1) := zd_at zhX9_people_73 23 rfl
theorem dX9_people_111 : decode cX9_people 111 = .ok (.iadd, 1) := zd_at zhX9_people_73 24 rfl
theorem dX9_people_112 : decode cX9_people 112 = .ok (.iconst 2, 1) := zd_at zhX9_people_73 25 rfl
theorem dX9_people_113 : decode cX9_people 113 = .ok (.iload 6, 2) := zd_at zhX9_people_73 26 rfl
theorem dX9_people_115 : decode cX9_people 115 = .ok (.imul, 1) := zd_at zhX9_people_73 27 rfl
theorem dX9_people_116 : decode cX9_people 116 = .ok (.iadd, 1) := zd_at zhX9_people_73 28 rfl
theorem dX9_people_117 : decode cX9_people 117 = .ok (.istore 7, 2) := zd_at zhX9_people_73 29 rfl
theorem dX9_people_119 : decode cX9_people 119 = .ok (.iload 5, 2) := zd_at zhX9_people_73 30 rfl
theorem dX9_people_121 : decode cX9_people 121 = .ok (.aload_n 0, 1) := zd_at zhX9_people_73 31 rfl
theorem dX9_people_122 : decode cX9_people 122 = .ok (.aload_n 0, 1) := zd_at zhX9_people_73 32 rfl
theorem dX9_people_123 : decode cX9_people 123 = .ok (.getfield 78, 3) := zd_at zhX9_people_73 33 rfl
theorem dX9_people_126 : decode cX9_people 126 = .ok (.iload 7, 2) := zd_at zhX9_people_73 34 rfl
theorem dX9_people_128 : decode cX9_people 128 = .ok (.iaload, 1) := zd_at zhX9_people_73 35 rfl
theorem dX9_people_129 : decode cX9_people 129 = .ok (.aload_n 0, 1) := zd_at zhX9_people_73 36 rfl
theorem dX9_people_130 : decode cX9_people 130 = .ok (.getfield 78, 3) := zd_at zhX9_people_73 37 rfl
theorem dX9_people_133 : decode cX9_people 133 = .ok (.iload 7, 2) := zd_at zhX9_people_73 38 rfl
theorem dX9_people_135 : decode cX9_people 135 = .ok (.iconst 1, 1) := zd_at zhX9_people_73 39 rfl
def ziX9_people_136 : List (Nat × Instr × Nat) := [(136, .iadd, 1), (137, .iaload, 1), (138, .invokevirtual 473, 3), (141, .ifCond .lt 7, 3), (144, .iconst 1, 1), (145, .goto 4, 3), (148, .iconst 0, 1), (149, .iadd, 1), (150, .istore 5, 2), (152, .iinc 6 1, 3), (155, .goto (-80), 3), (158, .iload 5, 2), (160, .ireturn, 1)]
theorem zhX9_people_136 : zd_chk (cX9_people.data.toList.drop 136) 136 ziX9_people_136 = true := by decide +kernel
theorem dX9_people_136 : decode cX9_people 136 = .ok (.iadd, 1) := zd_at zhX9_people_136 0 rfl
theorem dX9_people_137 : decode cX9_people 137 = .ok (.iaload, 1) := zd_at zhX9_people_136 1 rfl
theorem dX9_people_138 : decode cX9_people 138 = .ok (.invokevirtual 473, 3) := zd_at zhX9_people_136 2 rfl
theorem dX9_people_141 : decode cX9_people 141 = .ok (.ifCond .lt 7, 3) := zd_at zhX9_people_136 3 rfl
theorem dX9_people_144 : decode cX9_people 144 = .ok (.iconst 1, 1) := zd_at zhX9_people_136 4 rfl
theorem dX9_people_145 : decode cX9_people 145 = .ok (.goto 4, 3) := zd_at zhX9_people_136 5 rfl
theorem dX9_people_148 : decode cX9_people 148 = .ok (.iconst 0, 1) := zd_at zhX9_people_136 6 rfl
theorem dX9_people_149 : decode cX9_people 149 = .ok (.iadd, 1) := zd_at zhX9_people_136 7 rfl
theorem dX9_people_150 : decode cX9_people 150 = .ok (.istore 5, 2) := zd_at zhX9_people_136 8 rfl
theorem dX9_people_152 : decode cX9_people 152 = .ok (.iinc 6 1, 3) := zd_at zhX9_people_136 9 rfl
theorem dX9_people_155 : decode cX9_people 155 = .ok (.goto (-80), 3) := zd_at zhX9_people_136 10 rfl
theorem dX9_people_158 : decode cX9_people 158 = .ok (.iload 5, 2) := zd_at zhX9_people_136 11 rfl
theorem dX9_people_160 : decode cX9_people 160 = .ok (.ireturn, 1) := zd_at zhX9_people_136 12 rfl
def ziX9_over_0 : List (Nat × Instr × Nat) := [(0, .iload_n 0, 1), (1, .ifCond .ne 7, 3), (4, .iconst (-1), 1), (5, .goto 22, 3), (8, .iload_n 0, 1), (9, .iconst 3, 1), (10, .if_icmp .ne 7, 3), (13, .iconst 1, 1), (14, .goto 13, 3), (17, .iload_n 0, 1), (18, .iconst 4, 1), (19, .if_icmp .ne 7, 3), (22, .iconst 2, 1), (23, .goto 4, 3), (26, .iconst 0, 1), (27, .ireturn, 1)]
theorem zhX9_over_0 : zd_chk (cX9_over.data.toList.drop 0) 0 ziX9_over_0 = true := by decide +kernel
theorem dX9_over_0 : decode cX9_over 0 = .ok (.iload_n 0, 1) := zd_at zhX9_over_0 0 rfl
theorem dX9_over_1 : decode cX9_over 1 = .ok (.ifCond .ne 7, 3) := zd_at zhX9_over_0 1 rfl
theorem dX9_over_4 : decode cX9_over 4 = .ok (.iconst (-1), 1) := zd_at zhX9_over_0 2 rfl
theorem dX9_over_5 : decode cX9_over 5 = .ok (.goto 22, 3) := zd_at zhX9_over_0 3 rfl
theorem dX9_over_8 : decode cX9_over 8 = .ok (.iload_n 0, 1) := zd_at zhX9_over_0 4 rfl
theorem dX9_over_9 : decode cX9_over 9 = .ok (.iconst 3, 1) := zd_at zhX9_over_0 5 rfl
theorem dX9_over_10 : decode cX9_over 10 = .ok (.if_icmp .ne 7, 3) := zd_at zhX9_over_0 6 rfl
theorem dX9_over_13 : decode cX9_over 13 = .ok (.iconst 1, 1) := zd_at zhX9_over_0 7 rfl
theorem dX9_over_14 : decode cX9_over 14 = .ok (.goto 13, 3) := zd_at zhX9_over_0 8 rfl
theorem dX9_over_17 : decode cX9_over 17 = .ok (.iload_n 0, 1) := zd_at zhX9_over_0 9 rfl
theorem dX9_over_18 : decode cX9_over 18 = .ok (.iconst 4, 1) := zd_at zhX9_over_0 10 rfl
theorem dX9_over_19 : decode cX9_over 19 = .ok (.if_icmp .ne 7, 3) := zd_at zhX9_over_0 11 rfl
theorem dX9_over_22 : decode cX9_over 22 = .ok (.iconst 2, 1) := zd_at zhX9_over_0 12 rfl
theorem dX9_over_23 : decode cX9_over 23 = .ok (.goto 4, 3) := zd_at zhX9_over_0 13 rfl
theorem dX9_over_26 : decode cX9_over 26 = .ok (.iconst 0, 1) := zd_at zhX9_over_0 14 rfl
theorem dX9_over_27 : decode cX9_over 27 = .ok (.ireturn, 1) := zd_at zhX9_over_0 15 rfl
def ziX9_taken_0 : List (Nat × Instr × Nat) := [(0, .iload_n 2, 1), (1, .i2l, 1), (2, .lconst 0, 1), (3, .ldc2_w 123, 3), (6, .invokestatic 91, 3), (9, .ifCond .ne 6, 3), (12, .bipush (-2), 2), (14, .ireturn, 1), (15, .aload_n 0, 1), (16, .iload_n 1, 1), (17, .invokevirtual 101, 3), (20, .ifCond .ne 6, 3), (23, .bipush (-11), 2), (25, .ireturn, 1), (26, .aload_n 0, 1), (27, .getfield 26, 3), (30, .iload_n 1, 1), (31, .iaload, 1), (32, .istore_n 3, 1), (33, .iload_n 3, 1), (34, .iconst (-1), 1), (35, .if_icmp .eq 16, 3), (38, .iload_n 3, 1), (39, .iload_n 2, 1), (40, .if_icmp .eq 11, 3), (43, .iload_n 3, 1), (44, .invokestatic 476, 3), (47, .istore_n 3, 1), (48, .goto (-15), 3), (51, .iload_n 3, 1), (52, .iload_n 2, 1), (53, .if_icmp .ne 12, 3), (56, .aload_n 0, 1), (57, .getfield 29, 3), (60, .iload_n 1, 1), (61, .iaload, 1), (62, .goto 5, 3), (65, .bipush (-13), 2), (67, .ireturn, 1)]
theorem zhX9_taken_0 : zd_chk (cX9_taken.data.toList.drop 0) 0 ziX9_taken_0 = true := by decide +kernel
theorem dX9_taken_0 : decode cX9_taken 0 = .ok (.iload_n 2, 1) := zd_at zhX9_taken_0 0 rfl
theorem dX9_taken_1 : decode cX9_taken 1 = .ok (.i2l, 1) := zd_at zhX9_taken_0 1 rfl
theorem dX9_taken_2 : decode cX9_taken 2 = .ok (.lconst 0, 1) := zd_at zhX9_taken_0 2 rfl
theorem dX9_taken_3 : decode cX9_taken 3 = .ok (.ldc2_w 123, 3) := zd_at zhX9_taken_0 3 rfl
theorem dX9_taken_6 : decode cX9_taken 6 = .ok (.invokestatic 91, 3) := zd_at zhX9_taken_0 4 rfl
theorem dX9_taken_9 : decode cX9_taken 9 = .ok (.ifCond .ne 6, 3) := zd_at zhX9_taken_0 5 rfl
theorem dX9_taken_12 : decode cX9_taken 12 = .ok (.bipush (-2), 2) := zd_at zhX9_taken_0 6 rfl
theorem dX9_taken_14 : decode cX9_taken 14 = .ok (.ireturn, 1) := zd_at zhX9_taken_0 7 rfl
theorem dX9_taken_15 : decode cX9_taken 15 = .ok (.aload_n 0, 1) := zd_at zhX9_taken_0 8 rfl
theorem dX9_taken_16 : decode cX9_taken 16 = .ok (.iload_n 1, 1) := zd_at zhX9_taken_0 9 rfl
theorem dX9_taken_17 : decode cX9_taken 17 = .ok (.invokevirtual 101, 3) := zd_at zhX9_taken_0 10 rfl
theorem dX9_taken_20 : decode cX9_taken 20 = .ok (.ifCond .ne 6, 3) := zd_at zhX9_taken_0 11 rfl
theorem dX9_taken_23 : decode cX9_taken 23 = .ok (.bipush (-11), 2) := zd_at zhX9_taken_0 12 rfl
theorem dX9_taken_25 : decode cX9_taken 25 = .ok (.ireturn, 1) := zd_at zhX9_taken_0 13 rfl
theorem dX9_taken_26 : decode cX9_taken 26 = .ok (.aload_n 0, 1) := zd_at zhX9_taken_0 14 rfl
theorem dX9_taken_27 : decode cX9_taken 27 = .ok (.getfield 26, 3) := zd_at zhX9_taken_0 15 rfl
theorem dX9_taken_30 : decode cX9_taken 30 = .ok (.iload_n 1, 1) := zd_at zhX9_taken_0 16 rfl
theorem dX9_taken_31 : decode cX9_taken 31 = .ok (.iaload, 1) := zd_at zhX9_taken_0 17 rfl
theorem dX9_taken_32 : decode cX9_taken 32 = .ok (.istore_n 3, 1) := zd_at zhX9_taken_0 18 rfl
theorem dX9_taken_33 : decode cX9_taken 33 = .ok (.iload_n 3, 1) := zd_at zhX9_taken_0 19 rfl
theorem dX9_taken_34 : decode cX9_taken 34 = .ok (.iconst (-1), 1) := zd_at zhX9_taken_0 20 rfl
theorem dX9_taken_35 : decode cX9_taken 35 = .ok (.if_icmp .eq 16, 3) := zd_at zhX9_taken_0 21 rfl
theorem dX9_taken_38 : decode cX9_taken 38 = .ok (.iload_n 3, 1) := zd_at zhX9_taken_0 22 rfl
theorem dX9_taken_39 : decode cX9_taken 39 = .ok (.iload_n 2, 1) := zd_at zhX9_taken_0 23 rfl
theorem dX9_taken_40 : decode cX9_taken 40 = .ok (.if_icmp .eq 11, 3) := zd_at zhX9_taken_0 24 rfl
theorem dX9_taken_43 : decode cX9_taken 43 = .ok (.iload_n 3, 1) := zd_at zhX9_taken_0 25 rfl
theorem dX9_taken_44 : decode cX9_taken 44 = .ok (.invokestatic 476, 3) := zd_at zhX9_taken_0 26 rfl
theorem dX9_taken_47 : decode cX9_taken 47 = .ok (.istore_n 3, 1) := zd_at zhX9_taken_0 27 rfl
theorem dX9_taken_48 : decode cX9_taken 48 = .ok (.goto (-15), 3) := zd_at zhX9_taken_0 28 rfl
theorem dX9_taken_51 : decode cX9_taken 51 = .ok (.iload_n 3, 1) := zd_at zhX9_taken_0 29 rfl
theorem dX9_taken_52 : decode cX9_taken 52 = .ok (.iload_n 2, 1) := zd_at zhX9_taken_0 30 rfl
theorem dX9_taken_53 : decode cX9_taken 53 = .ok (.if_icmp .ne 12, 3) := zd_at zhX9_taken_0 31 rfl
theorem dX9_taken_56 : decode cX9_taken 56 = .ok (.aload_n 0, 1) := zd_at zhX9_taken_0 32 rfl
theorem dX9_taken_57 : decode cX9_taken 57 = .ok (.getfield 29, 3) := zd_at zhX9_taken_0 33 rfl
theorem dX9_taken_60 : decode cX9_taken 60 = .ok (.iload_n 1, 1) := zd_at zhX9_taken_0 34 rfl
theorem dX9_taken_61 : decode cX9_taken 61 = .ok (.iaload, 1) := zd_at zhX9_taken_0 35 rfl
theorem dX9_taken_62 : decode cX9_taken 62 = .ok (.goto 5, 3) := zd_at zhX9_taken_0 36 rfl
theorem dX9_taken_65 : decode cX9_taken 65 = .ok (.bipush (-13), 2) := zd_at zhX9_taken_0 37 rfl
theorem dX9_taken_67 : decode cX9_taken 67 = .ok (.ireturn, 1) := zd_at zhX9_taken_0 38 rfl
