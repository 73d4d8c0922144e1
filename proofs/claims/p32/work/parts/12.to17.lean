section
def ziJ6_bitCount_0f7a4_0 : Nat := 171970107907455845843252792288982167901975823655061356656328109956041306786534887281844170528847890752589213447231029357015961657940928934472247988305589968926344065792391047629101261990582461907206760470501771140752157999893355249616941750643903689531568151896120417835569309401104506698296220802523824160571338647790006068202643630135632646975724626338596654715887669011465738727008337905258665481613330070865132787778567582652767121900484524707862046193776130701414329011735955651243479046953553756160
theorem zhJ6_bitCount_0f7a4_0 : zd_chkB (cJ6_bitCount_0f7a4.data.toList.drop 0) 0 42 ziJ6_bitCount_0f7a4_0 = true := by decide +kernel
theorem dJ6_bitCount_0f7a4_0 : decode cJ6_bitCount_0f7a4 0 = .ok (.iload_n 0, 1) := (zd_q26 zhJ6_bitCount_0f7a4_0 0 18481152 rfl rfl :)
theorem dJ6_bitCount_0f7a4_1 : decode cJ6_bitCount_0f7a4 1 = .ok (.iload_n 0, 1) := (zd_q26 zhJ6_bitCount_0f7a4_0 1 85590016 rfl rfl :)
theorem dJ6_bitCount_0f7a4_2 : decode cJ6_bitCount_0f7a4 2 = .ok (.iconst 1, 1) := (zd_q4 zhJ6_bitCount_0f7a4_0 2 151257088 rfl rfl :)
theorem dJ6_bitCount_0f7a4_3 : decode cJ6_bitCount_0f7a4 3 = .ok (.iushr, 1) := (zd_q124 zhJ6_bitCount_0f7a4_0 3 226230272 rfl rfl :)
theorem dJ6_bitCount_0f7a4_4 : decode cJ6_bitCount_0f7a4 4 = .ok (.ldc_w 265, 3) := (zd_q19 zhJ6_bitCount_0f7a4_0 4 320012553 rfl rfl :)
theorem dJ6_bitCount_0f7a4_7 : decode cJ6_bitCount_0f7a4 7 = .ok (.iand, 1) := (zd_q126 zhJ6_bitCount_0f7a4_0 5 494796800 rfl rfl :)
theorem dJ6_bitCount_0f7a4_8 : decode cJ6_bitCount_0f7a4 8 = .ok (.isub, 1) := (zd_q100 zhJ6_bitCount_0f7a4_0 6 560201728 rfl rfl :)
theorem dJ6_bitCount_0f7a4_9 : decode cJ6_bitCount_0f7a4 9 = .ok (.istore_n 0, 1) := (zd_q59 zhJ6_bitCount_0f7a4_0 7 624623616 rfl rfl :)
theorem dJ6_bitCount_0f7a4_10 : decode cJ6_bitCount_0f7a4 10 = .ok (.iload_n 0, 1) := (zd_q26 zhJ6_bitCount_0f7a4_0 8 689569792 rfl rfl :)
theorem dJ6_bitCount_0f7a4_11 : decode cJ6_bitCount_0f7a4 11 = .ok (.ldc_w 266, 3) := (zd_q19 zhJ6_bitCount_0f7a4_0 9 789774602 rfl rfl :)
theorem dJ6_bitCount_0f7a4_14 : decode cJ6_bitCount_0f7a4 14 = .ok (.iand, 1) := (zd_q126 zhJ6_bitCount_0f7a4_0 10 964558848 rfl rfl :)
theorem dJ6_bitCount_0f7a4_15 : decode cJ6_bitCount_0f7a4 15 = .ok (.iload_n 0, 1) := (zd_q26 zhJ6_bitCount_0f7a4_0 11 1025114112 rfl rfl :)
theorem dJ6_bitCount_0f7a4_16 : decode cJ6_bitCount_0f7a4 16 = .ok (.iconst 2, 1) := (zd_q5 zhJ6_bitCount_0f7a4_0 12 1090846720 rfl rfl :)
theorem dJ6_bitCount_0f7a4_17 : decode cJ6_bitCount_0f7a4 17 = .ok (.iushr, 1) := (zd_q124 zhJ6_bitCount_0f7a4_0 13 1165754368 rfl rfl :)
theorem dJ6_bitCount_0f7a4_18 : decode cJ6_bitCount_0f7a4 18 = .ok (.ldc_w 266, 3) := (zd_q19 zhJ6_bitCount_0f7a4_0 14 1259536650 rfl rfl :)
theorem dJ6_bitCount_0f7a4_21 : decode cJ6_bitCount_0f7a4 21 = .ok (.iand, 1) := (zd_q126 zhJ6_bitCount_0f7a4_0 15 1434320896 rfl rfl :)
theorem dJ6_bitCount_0f7a4_22 : decode cJ6_bitCount_0f7a4 22 = .ok (.iadd, 1) := (zd_q96 zhJ6_bitCount_0f7a4_0 16 1499463680 rfl rfl :)
theorem dJ6_bitCount_0f7a4_23 : decode cJ6_bitCount_0f7a4 23 = .ok (.istore_n 0, 1) := (zd_q59 zhJ6_bitCount_0f7a4_0 17 1564147712 rfl rfl :)
theorem dJ6_bitCount_0f7a4_24 : decode cJ6_bitCount_0f7a4 24 = .ok (.iload_n 0, 1) := (zd_q26 zhJ6_bitCount_0f7a4_0 18 1629093888 rfl rfl :)
theorem dJ6_bitCount_0f7a4_25 : decode cJ6_bitCount_0f7a4 25 = .ok (.iload_n 0, 1) := (zd_q26 zhJ6_bitCount_0f7a4_0 19 1696202752 rfl rfl :)
theorem dJ6_bitCount_0f7a4_26 : decode cJ6_bitCount_0f7a4 26 = .ok (.iconst 4, 1) := (zd_q7 zhJ6_bitCount_0f7a4_0 20 1762066432 rfl rfl :)
theorem dJ6_bitCount_0f7a4_27 : decode cJ6_bitCount_0f7a4 27 = .ok (.iushr, 1) := (zd_q124 zhJ6_bitCount_0f7a4_0 21 1836843008 rfl rfl :)
theorem dJ6_bitCount_0f7a4_28 : decode cJ6_bitCount_0f7a4 28 = .ok (.iadd, 1) := (zd_q96 zhJ6_bitCount_0f7a4_0 22 1902116864 rfl rfl :)
theorem dJ6_bitCount_0f7a4_29 : decode cJ6_bitCount_0f7a4 29 = .ok (.ldc_w 267, 3) := (zd_q19 zhJ6_bitCount_0f7a4_0 23 1997734155 rfl rfl :)
theorem dJ6_bitCount_0f7a4_32 : decode cJ6_bitCount_0f7a4 32 = .ok (.iand, 1) := (zd_q126 zhJ6_bitCount_0f7a4_0 24 2172518400 rfl rfl :)
theorem dJ6_bitCount_0f7a4_33 : decode cJ6_bitCount_0f7a4 33 = .ok (.istore_n 0, 1) := (zd_q59 zhJ6_bitCount_0f7a4_0 25 2235236352 rfl rfl :)
theorem dJ6_bitCount_0f7a4_34 : decode cJ6_bitCount_0f7a4 34 = .ok (.iload_n 0, 1) := (zd_q26 zhJ6_bitCount_0f7a4_0 26 2300182528 rfl rfl :)
theorem dJ6_bitCount_0f7a4_35 : decode cJ6_bitCount_0f7a4 35 = .ok (.iload_n 0, 1) := (zd_q26 zhJ6_bitCount_0f7a4_0 27 2367291392 rfl rfl :)
theorem dJ6_bitCount_0f7a4_36 : decode cJ6_bitCount_0f7a4 36 = .ok (.bipush 8, 2) := (zd_q16 zhJ6_bitCount_0f7a4_0 28 2450524160 rfl rfl :)
theorem dJ6_bitCount_0f7a4_38 : decode cJ6_bitCount_0f7a4 38 = .ok (.iushr, 1) := (zd_q124 zhJ6_bitCount_0f7a4_0 29 2575040512 rfl rfl :)
theorem dJ6_bitCount_0f7a4_39 : decode cJ6_bitCount_0f7a4 39 = .ok (.iadd, 1) := (zd_q96 zhJ6_bitCount_0f7a4_0 30 2640314368 rfl rfl :)
theorem dJ6_bitCount_0f7a4_40 : decode cJ6_bitCount_0f7a4 40 = .ok (.istore_n 0, 1) := (zd_q59 zhJ6_bitCount_0f7a4_0 31 2704998400 rfl rfl :)
theorem dJ6_bitCount_0f7a4_41 : decode cJ6_bitCount_0f7a4 41 = .ok (.iload_n 0, 1) := (zd_q26 zhJ6_bitCount_0f7a4_0 32 2769944576 rfl rfl :)
theorem dJ6_bitCount_0f7a4_42 : decode cJ6_bitCount_0f7a4 42 = .ok (.iload_n 0, 1) := (zd_q26 zhJ6_bitCount_0f7a4_0 33 2837053440 rfl rfl :)
theorem dJ6_bitCount_0f7a4_43 : decode cJ6_bitCount_0f7a4 43 = .ok (.bipush 16, 2) := (zd_q16 zhJ6_bitCount_0f7a4_0 34 2920288256 rfl rfl :)
theorem dJ6_bitCount_0f7a4_45 : decode cJ6_bitCount_0f7a4 45 = .ok (.iushr, 1) := (zd_q124 zhJ6_bitCount_0f7a4_0 35 3044802560 rfl rfl :)
theorem dJ6_bitCount_0f7a4_46 : decode cJ6_bitCount_0f7a4 46 = .ok (.iadd, 1) := (zd_q96 zhJ6_bitCount_0f7a4_0 36 3110076416 rfl rfl :)
theorem dJ6_bitCount_0f7a4_47 : decode cJ6_bitCount_0f7a4 47 = .ok (.istore_n 0, 1) := (zd_q59 zhJ6_bitCount_0f7a4_0 37 3174760448 rfl rfl :)
theorem dJ6_bitCount_0f7a4_48 : decode cJ6_bitCount_0f7a4 48 = .ok (.iload_n 0, 1) := (zd_q26 zhJ6_bitCount_0f7a4_0 38 3239706624 rfl rfl :)
theorem dJ6_bitCount_0f7a4_49 : decode cJ6_bitCount_0f7a4 49 = .ok (.bipush 63, 2) := (zd_q16 zhJ6_bitCount_0f7a4_0 39 3322953472 rfl rfl :)
theorem dJ6_bitCount_0f7a4_51 : decode cJ6_bitCount_0f7a4 51 = .ok (.iand, 1) := (zd_q126 zhJ6_bitCount_0f7a4_0 40 3447586816 rfl rfl :)
theorem dJ6_bitCount_0f7a4_52 : decode cJ6_bitCount_0f7a4 52 = .ok (.ireturn, 1) := (zd_q172 zhJ6_bitCount_0f7a4_0 41 3517710336 rfl rfl :)
def ziJ0_length_8abf5_0 : Nat := 1235270007984699538904924085192562461470234122829069284551048834363491340549488640
theorem zhJ0_length_8abf5_0 : zd_chkB (cJ0_length_8abf5.data.toList.drop 0) 0 7 ziJ0_length_8abf5_0 = true := by decide +kernel
theorem dJ0_length_8abf5_0 : decode cJ0_length_8abf5 0 = .ok (.aload_n 0, 1) := (zd_q42 zhJ0_length_8abf5_0 0 19529728 rfl rfl :)
theorem dJ0_length_8abf5_1 : decode cJ0_length_8abf5 1 = .ok (.getfield 9, 3) := (zd_q180 zhJ0_length_8abf5_0 1 129237001 rfl rfl :)
theorem dJ0_length_8abf5_4 : decode cJ0_length_8abf5 4 = .ok (.arraylength, 1) := (zd_q190 zhJ0_length_8abf5_0 2 297664512 rfl rfl :)
theorem dJ0_length_8abf5_5 : decode cJ0_length_8abf5 5 = .ok (.aload_n 0, 1) := (zd_q42 zhJ0_length_8abf5_0 3 355074048 rfl rfl :)
theorem dJ0_length_8abf5_6 : decode cJ0_length_8abf5 6 = .ok (.invokevirtual 335, 3) := (zd_q182 zhJ0_length_8abf5_0 4 464912719 rfl rfl :)
theorem dJ0_length_8abf5_9 : decode cJ0_length_8abf5 9 = .ok (.ishr, 1) := (zd_q122 zhJ0_length_8abf5_0 5 628752384 rfl rfl :)
theorem dJ0_length_8abf5_10 : decode cJ0_length_8abf5 10 = .ok (.ireturn, 1) := (zd_q172 zhJ0_length_8abf5_0 6 699138048 rfl rfl :)
def ziJ0_charAt_5068e_0 : Nat := 5115491172493874112717596398276477792708103649696892101628189045411696101047786075105296076099621350459328729255610511428785460958797811654067783411040256
theorem zhJ0_charAt_5068e_0 : zd_chkB (cJ0_charAt_5068e.data.toList.drop 0) 0 13 ziJ0_charAt_5068e_0 = true := by decide +kernel
theorem dJ0_charAt_5068e_0 : decode cJ0_charAt_5068e 0 = .ok (.aload_n 0, 1) := (zd_q42 zhJ0_charAt_5068e_0 0 19529728 rfl rfl :)
theorem dJ0_charAt_5068e_1 : decode cJ0_charAt_5068e 1 = .ok (.invokevirtual 492, 3) := (zd_q182 zhJ0_charAt_5068e_0 1 129368556 rfl rfl :)
theorem dJ0_charAt_5068e_4 : decode cJ0_charAt_5068e 4 = .ok (.ifCond .eq 12, 3) := (zd_q153 zhJ0_charAt_5068e_0 2 328794124 rfl rfl :)
theorem dJ0_charAt_5068e_7 : decode cJ0_charAt_5068e 7 = .ok (.aload_n 0, 1) := (zd_q42 zhJ0_charAt_5068e_0 3 489291776 rfl rfl :)
theorem dJ0_charAt_5068e_8 : decode cJ0_charAt_5068e 8 = .ok (.getfield 9, 3) := (zd_q180 zhJ0_charAt_5068e_0 4 598999049 rfl rfl :)
theorem dJ0_charAt_5068e_11 : decode cJ0_charAt_5068e 11 = .ok (.iload_n 1, 1) := (zd_q27 zhJ0_charAt_5068e_0 5 756744192 rfl rfl :)
theorem dJ0_charAt_5068e_12 : decode cJ0_charAt_5068e 12 = .ok (.invokestatic 495, 3) := (zd_q184 zhJ0_charAt_5068e_0 6 867697135 rfl rfl :)
theorem dJ0_charAt_5068e_15 : decode cJ0_charAt_5068e 15 = .ok (.ireturn, 1) := (zd_q172 zhJ0_charAt_5068e_0 7 1034682368 rfl rfl :)
def ziJ0_coder_7d493_0 : Nat := 1709554405501165607656128751158492585250202994541720408127384162184379817257992230
theorem zhJ0_coder_7d493_0 : zd_chkB (cJ0_coder_7d493.data.toList.drop 0) 0 7 ziJ0_coder_7d493_0 = true := by decide +kernel
theorem dJ0_coder_7d493_0 : decode cJ0_coder_7d493 0 = .ok (.getstatic 38, 3) := (zd_q178 zhJ0_coder_7d493_0 0 61997094 rfl rfl :)
theorem dJ0_coder_7d493_3 : decode cJ0_coder_7d493 3 = .ok (.ifCond .eq 10, 3) := (zd_q153 zhJ0_coder_7d493_0 1 261685258 rfl rfl :)
theorem dJ0_coder_7d493_6 : decode cJ0_coder_7d493 6 = .ok (.aload_n 0, 1) := (zd_q42 zhJ0_coder_7d493_0 2 422182912 rfl rfl :)
theorem dJ0_coder_7d493_7 : decode cJ0_coder_7d493 7 = .ok (.getfield 15, 3) := (zd_q180 zhJ0_coder_7d493_0 3 531890191 rfl rfl :)
theorem dJ0_coder_7d493_10 : decode cJ0_coder_7d493 10 = .ok (.goto 4, 3) := (zd_q167 zhJ0_coder_7d493_0 4 732364804 rfl rfl :)
theorem dJ0_coder_7d493_14 : decode cJ0_coder_7d493 14 = .ok (.ireturn, 1) := (zd_q172 zhJ0_coder_7d493_0 6 967573504 rfl rfl :)
def ziJ0_isLatin1_aae02_0 : Nat := 2640099114844335982856705691836437044082638009530106803459408213607054331219449298006068696197573993693222
theorem zhJ0_isLatin1_aae02_0 : zd_chkB (cJ0_isLatin1_aae02.data.toList.drop 0) 0 9 ziJ0_isLatin1_aae02_0 = true := by decide +kernel
theorem dJ0_isLatin1_aae02_0 : decode cJ0_isLatin1_aae02 0 = .ok (.getstatic 38, 3) := (zd_q178 zhJ0_isLatin1_aae02_0 0 61997094 rfl rfl :)
theorem dJ0_isLatin1_aae02_3 : decode cJ0_isLatin1_aae02 3 = .ok (.ifCond .eq 14, 3) := (zd_q153 zhJ0_isLatin1_aae02_0 1 261685262 rfl rfl :)
theorem dJ0_isLatin1_aae02_6 : decode cJ0_isLatin1_aae02 6 = .ok (.aload_n 0, 1) := (zd_q42 zhJ0_isLatin1_aae02_0 2 422182912 rfl rfl :)
theorem dJ0_isLatin1_aae02_7 : decode cJ0_isLatin1_aae02 7 = .ok (.getfield 15, 3) := (zd_q180 zhJ0_isLatin1_aae02_0 3 531890191 rfl rfl :)
theorem dJ0_isLatin1_aae02_10 : decode cJ0_isLatin1_aae02 10 = .ok (.ifCond .ne 7, 3) := (zd_q154 zhJ0_isLatin1_aae02_0 4 731512839 rfl rfl :)
theorem dJ0_isLatin1_aae02_13 : decode cJ0_isLatin1_aae02 13 = .ok (.iconst 1, 1) := (zd_q4 zhJ0_isLatin1_aae02_0 5 889454592 rfl rfl :)
theorem dJ0_isLatin1_aae02_14 : decode cJ0_isLatin1_aae02 14 = .ok (.goto 4, 3) := (zd_q167 zhJ0_isLatin1_aae02_0 6 1000800260 rfl rfl :)
theorem dJ0_isLatin1_aae02_18 : decode cJ0_isLatin1_aae02 18 = .ok (.ireturn, 1) := (zd_q172 zhJ0_isLatin1_aae02_0 8 1236008960 rfl rfl :)
def ziJ0_checkIndex_df160_0 : Nat := 1016158302310725785038292225654824362520278524351447566933496935612416
theorem zhJ0_checkIndex_df160_0 : zd_chkB (cJ0_checkIndex_df160.data.toList.drop 0) 0 6 ziJ0_checkIndex_df160_0 = true := by decide +kernel
theorem dJ0_checkIndex_df160_0 : decode cJ0_checkIndex_df160 0 = .ok (.iload_n 0, 1) := (zd_q26 zhJ0_checkIndex_df160_0 0 18481152 rfl rfl :)
theorem dJ0_checkIndex_df160_1 : decode cJ0_checkIndex_df160 1 = .ok (.iload_n 1, 1) := (zd_q27 zhJ0_checkIndex_df160_0 1 85655552 rfl rfl :)
theorem dJ0_checkIndex_df160_2 : decode cJ0_checkIndex_df160 2 = .ok (.getstatic 1053, 3) := (zd_q178 zhJ0_checkIndex_df160_0 2 196215837 rfl rfl :)
theorem dJ0_checkIndex_df160_5 : decode cJ0_checkIndex_df160 5 = .ok (.invokestatic 1059, 3) := (zd_q184 zhJ0_checkIndex_df160_0 3 397935651 rfl rfl :)
theorem dJ0_checkIndex_df160_8 : decode cJ0_checkIndex_df160 8 = .ok (.pop, 1) := (zd_q87 zhJ0_checkIndex_df160_0 4 559349760 rfl rfl :)
theorem dJ0_checkIndex_df160_9 : decode cJ0_checkIndex_df160 9 = .ok (.return_, 1) := (zd_q177 zhJ0_checkIndex_df160_0 5 632356864 rfl rfl :)
def ziJ1_charAt_3b067_0 : Nat := 2498516562746233738406145429818277153136150340457019572591212278415865264191472761257414911652577694939444623829734996398149664768
theorem zhJ1_charAt_3b067_0 : zd_chkB (cJ1_charAt_3b067.data.toList.drop 0) 0 11 ziJ1_charAt_3b067_0 = true := by decide +kernel
theorem dJ1_charAt_3b067_0 : decode cJ1_charAt_3b067 0 = .ok (.iload_n 1, 1) := (zd_q27 zhJ1_charAt_3b067_0 0 18546688 rfl rfl :)
theorem dJ1_charAt_3b067_1 : decode cJ1_charAt_3b067 1 = .ok (.aload_n 0, 1) := (zd_q42 zhJ1_charAt_3b067_0 1 86638592 rfl rfl :)
theorem dJ1_charAt_3b067_2 : decode cJ1_charAt_3b067 2 = .ok (.arraylength, 1) := (zd_q190 zhJ1_charAt_3b067_0 2 163446784 rfl rfl :)
theorem dJ1_charAt_3b067_3 : decode cJ1_charAt_3b067 3 = .ok (.invokestatic 9, 3) := (zd_q184 zhJ1_charAt_3b067_0 3 263716873 rfl rfl :)
theorem dJ1_charAt_3b067_6 : decode cJ1_charAt_3b067 6 = .ok (.aload_n 0, 1) := (zd_q42 zhJ1_charAt_3b067_0 4 422182912 rfl rfl :)
theorem dJ1_charAt_3b067_7 : decode cJ1_charAt_3b067 7 = .ok (.iload_n 1, 1) := (zd_q27 zhJ1_charAt_3b067_0 5 488308736 rfl rfl :)
theorem dJ1_charAt_3b067_8 : decode cJ1_charAt_3b067 8 = .ok (.baload, 1) := (zd_q51 zhJ1_charAt_3b067_0 6 556990464 rfl rfl :)
theorem dJ1_charAt_3b067_9 : decode cJ1_charAt_3b067 9 = .ok (.sipush 255, 3) := (zd_q17 zhJ1_charAt_3b067_0 7 655425791 rfl rfl :)
theorem dJ1_charAt_3b067_12 : decode cJ1_charAt_3b067 12 = .ok (.iand, 1) := (zd_q126 zhJ1_charAt_3b067_0 8 830341120 rfl rfl :)
theorem dJ1_charAt_3b067_13 : decode cJ1_charAt_3b067 13 = .ok (.i2c, 1) := (zd_q146 zhJ1_charAt_3b067_0 9 898760704 rfl rfl :)
theorem dJ1_charAt_3b067_14 : decode cJ1_charAt_3b067 14 = .ok (.ireturn, 1) := (zd_q172 zhJ1_charAt_3b067_0 10 967573504 rfl rfl :)
def ziJ3_checkIndex_8e157_0 : Nat := 3318757244556150184605083449403957405293151097550541673201377027003942717610930391898070659554869995279315052790423570403792931988796463513600
theorem zhJ3_checkIndex_8e157_0 : zd_chkB (cJ3_checkIndex_8e157.data.toList.drop 0) 0 12 ziJ3_checkIndex_8e157_0 = true := by decide +kernel
theorem dJ3_checkIndex_8e157_0 : decode cJ3_checkIndex_8e157 0 = .ok (.iload_n 0, 1) := (zd_q26 zhJ3_checkIndex_8e157_0 0 18481152 rfl rfl :)
theorem dJ3_checkIndex_8e157_1 : decode cJ3_checkIndex_8e157 1 = .ok (.ifCond .lt 8, 3) := (zd_q155 zhJ3_checkIndex_8e157_0 1 127598600 rfl rfl :)
theorem dJ3_checkIndex_8e157_4 : decode cJ3_checkIndex_8e157 4 = .ok (.iload_n 0, 1) := (zd_q26 zhJ3_checkIndex_8e157_0 2 286916608 rfl rfl :)
theorem dJ3_checkIndex_8e157_5 : decode cJ3_checkIndex_8e157 5 = .ok (.iload_n 1, 1) := (zd_q27 zhJ3_checkIndex_8e157_0 3 354091008 rfl rfl :)
theorem dJ3_checkIndex_8e157_6 : decode cJ3_checkIndex_8e157 6 = .ok (.if_icmp .lt 10, 3) := (zd_q161 zhJ3_checkIndex_8e157_0 4 463536138 rfl rfl :)
theorem dJ3_checkIndex_8e157_16 : decode cJ3_checkIndex_8e157 16 = .ok (.iload_n 0, 1) := (zd_q26 zhJ3_checkIndex_8e157_0 10 1092222976 rfl rfl :)
theorem dJ3_checkIndex_8e157_17 : decode cJ3_checkIndex_8e157 17 = .ok (.ireturn, 1) := (zd_q172 zhJ3_checkIndex_8e157_0 11 1168900096 rfl rfl :)
end
section
def ziL_law_0 : Nat := 14486384046909467797734335202945729740334765300451120999796994780838357278966704455624829436188167513195747333794328499096561335813369016873138919898525287792374823742487272210824458471638804769294727756940417519273509368840530799248834771653769232391
theorem zhL_law_0 : zd_chkB (cL_law.data.toList.drop 0) 0 21 ziL_law_0 = true := by decide +kernel
theorem dL_law_0 : decode cL_law 0 = .ok (.new 7, 3) := (zd_q187 zhL_law_0 0 62586887 rfl rfl :)
theorem dL_law_3 : decode cL_law 3 = .ok (.dup, 1) := (zd_q89 zhL_law_0 1 223936512 rfl rfl :)
theorem dL_law_4 : decode cL_law 4 = .ok (.invokespecial 9, 3) := (zd_q183 zhL_law_0 2 330760201 rfl rfl :)
theorem dL_law_7 : decode cL_law 7 = .ok (.astore_n 1, 1) := (zd_q76 zhL_law_0 3 491520000 rfl rfl :)
theorem dL_law_8 : decode cL_law 8 = .ok (.new 10, 3) := (zd_q187 zhL_law_0 4 599457802 rfl rfl :)
theorem dL_law_11 : decode cL_law 11 = .ok (.dup, 1) := (zd_q89 zhL_law_0 5 760807424 rfl rfl :)
theorem dL_law_12 : decode cL_law 12 = .ok (.invokespecial 12, 3) := (zd_q183 zhL_law_0 6 867631116 rfl rfl :)
theorem dL_law_15 : decode cL_law 15 = .ok (.astore_n 2, 1) := (zd_q77 zhL_law_0 7 1028456448 rfl rfl :)
theorem dL_law_16 : decode cL_law 16 = .ok (.iconst 0, 1) := (zd_q3 zhL_law_0 8 1090715648 rfl rfl :)
theorem dL_law_17 : decode cL_law 17 = .ok (.istore_n 3, 1) := (zd_q62 zhL_law_0 9 1161691136 rfl rfl :)
theorem dL_law_18 : decode cL_law 18 = .ok (.iload_n 3, 1) := (zd_q29 zhL_law_0 10 1226637312 rfl rfl :)
theorem dL_law_19 : decode cL_law 19 = .ok (.aload_n 0, 1) := (zd_q42 zhL_law_0 11 1294598144 rfl rfl :)
theorem dL_law_20 : decode cL_law 20 = .ok (.arraylength, 1) := (zd_q190 zhL_law_0 12 1371406336 rfl rfl :)
theorem dL_law_21 : decode cL_law 21 = .ok (.bipush 6, 2) := (zd_q16 zhL_law_0 13 1443890688 rfl rfl :)
theorem dL_law_23 : decode cL_law 23 = .ok (.isub, 1) := (zd_q100 zhL_law_0 14 1566834688 rfl rfl :)
theorem dL_law_24 : decode cL_law 24 = .ok (.if_icmp .gt 1247, 3) := (zd_q163 zhL_law_0 15 1671627999 rfl rfl :)
theorem dL_law_27 : decode cL_law 27 = .ok (.aload_n 0, 1) := (zd_q42 zhL_law_0 16 1831469056 rfl rfl :)
theorem dL_law_28 : decode cL_law 28 = .ok (.iload_n 3, 1) := (zd_q29 zhL_law_0 17 1897725952 rfl rfl :)
theorem dL_law_29 : decode cL_law 29 = .ok (.iaload, 1) := (zd_q46 zhL_law_0 18 1965948928 rfl rfl :)
theorem dL_law_30 : decode cL_law 30 = .ok (.bipush 31, 2) := (zd_q16 zhL_law_0 19 2047876864 rfl rfl :)
theorem dL_law_32 : decode cL_law 32 = .ok (.iand, 1) := (zd_q126 zhL_law_0 20 2172518400 rfl rfl :)
theorem dL_law_33 : decode cL_law 33 = .ok (.tableswitch 1232 0 30 #[139, 182, 215, 248, 301, 324, 337, 360, 403, 436, 469, 482, 515, 558, 601, 634, 677, 710, 743, 776, 819, 852, 895, 948, 961, 974, 997, 1040, 1083, 1146, 1199], 139) := by decide +kernel
def ziL_law_172 : Nat := 4404378478361281637915209529317736704987208397985829509516898679373360284697168828830830409427230090833724502403914146348103001670778222309451578965890967351168820850586651212563360111409846193234124692185264222921216800083973527295481143704876503090145658823783483221303110964617353352057592489231634264119662840093701961163518884902270824258368501851262435116165702778230452565206424404889817129337548542087370832969345644119542218860583423798370373531136076691486083810770423838913348718620235998097658501375947852797576119041361293999225253083927467498099715387266705456789797745337020959282051015246094698333027530050805884396351899616873772850129068167392870829818227369856617469654383839506881599832572209099072596206725444520339493493776891146609598750564811646558609388872611311247220568536243667708381468556969758994663617811744217016705133447927809343593942502297042950438020176130429995401973213092272228715555043556209069451002337274641286632670817767567149382246461722768814034665259590074816100662250760288299146792877314865270871229025048617926662714312675550681087405268167393877528943665232492753120606382661335369966464621654943976074782262141794948480217928704232591565266074913054533909011949555177417360878627536418092823235180911125396400703845274187347206960958668646010197159088633351780532552154764106622605371732523752329201778462929862290554645409172100455782792752722389497141121709829948769764064997992313849738784659316533281711898982815024060151419255759458666105375504556501208932370072218796281134840406072905340310863545355000452713825147987362356317543201183254612053120186307336762352782201934224334429527708804757310633984300325321328908890999906424734314304601900873907544428128019557265815708924707762330626398427293208225972440295129176697861677079629906272183625113601969527208274401895991735453953803833017932564563745346897388209527062042100289244272902907549460031772390860120867687911756401418720902889953562721551987907984780464471592248496217834121155661626644461701657109416586813775698346092215320074449813414982073843876581370473074997251572069647410205392976148215114265758944133028566951264222373374363393741748302193952136863282116711918581574442796589977878992558025188374254926949007995249362646254287084913620760252036639804460395838340925653980342130549419740191643328214123198673109539161926634275536372732217364171024141412986033424934717428006912
theorem zhL_law_172 : zd_chkB (cL_law.data.toList.drop 172) 172 200 ziL_law_172 = true := by decide +kernel
theorem dL_law_172 : decode cL_law 172 = .ok (.aload_n 1, 1) := (zd_q43 zhL_law_172 0 11562319872 rfl rfl :)
theorem dL_law_173 : decode cL_law 173 = .ok (.aload_n 0, 1) := (zd_q42 zhL_law_172 1 11629363200 rfl rfl :)
theorem dL_law_174 : decode cL_law 174 = .ok (.iload_n 3, 1) := (zd_q29 zhL_law_172 2 11695620096 rfl rfl :)
theorem dL_law_175 : decode cL_law 175 = .ok (.iconst 1, 1) := (zd_q4 zhL_law_172 3 11761090560 rfl rfl :)
theorem dL_law_176 : decode cL_law 176 = .ok (.iadd, 1) := (zd_q96 zhL_law_172 4 11834228736 rfl rfl :)
theorem dL_law_177 : decode cL_law 177 = .ok (.iaload, 1) := (zd_q46 zhL_law_172 5 11898060800 rfl rfl :)
theorem dL_law_178 : decode cL_law 178 = .ok (.aload_n 0, 1) := (zd_q42 zhL_law_172 6 11964907520 rfl rfl :)
theorem dL_law_179 : decode cL_law 179 = .ok (.iload_n 3, 1) := (zd_q29 zhL_law_172 7 12031164416 rfl rfl :)
theorem dL_law_180 : decode cL_law 180 = .ok (.iconst 2, 1) := (zd_q5 zhL_law_172 8 12096700416 rfl rfl :)
theorem dL_law_181 : decode cL_law 181 = .ok (.iadd, 1) := (zd_q96 zhL_law_172 9 12169773056 rfl rfl :)
theorem dL_law_182 : decode cL_law 182 = .ok (.iaload, 1) := (zd_q46 zhL_law_172 10 12233605120 rfl rfl :)
theorem dL_law_183 : decode cL_law 183 = .ok (.aload_n 0, 1) := (zd_q42 zhL_law_172 11 12300451840 rfl rfl :)
theorem dL_law_184 : decode cL_law 184 = .ok (.iload_n 3, 1) := (zd_q29 zhL_law_172 12 12366708736 rfl rfl :)
theorem dL_law_185 : decode cL_law 185 = .ok (.iconst 3, 1) := (zd_q6 zhL_law_172 13 12432310272 rfl rfl :)
theorem dL_law_186 : decode cL_law 186 = .ok (.iadd, 1) := (zd_q96 zhL_law_172 14 12505317376 rfl rfl :)
theorem dL_law_187 : decode cL_law 187 = .ok (.iaload, 1) := (zd_q46 zhL_law_172 15 12569149440 rfl rfl :)
theorem dL_law_188 : decode cL_law 188 = .ok (.invokevirtual 13, 3) := (zd_q182 zhL_law_172 16 12678725645 rfl rfl :)
theorem dL_law_191 : decode cL_law 191 = .ok (.pop, 1) := (zd_q87 zhL_law_172 17 12840271872 rfl rfl :)
theorem dL_law_192 : decode cL_law 192 = .ok (.aload_n 2, 1) := (zd_q44 zhL_law_172 18 12904562688 rfl rfl :)
theorem dL_law_193 : decode cL_law 193 = .ok (.aload_n 0, 1) := (zd_q42 zhL_law_172 19 12971540480 rfl rfl :)
theorem dL_law_194 : decode cL_law 194 = .ok (.iload_n 3, 1) := (zd_q29 zhL_law_172 20 13037797376 rfl rfl :)
theorem dL_law_195 : decode cL_law 195 = .ok (.iconst 1, 1) := (zd_q4 zhL_law_172 21 13103267840 rfl rfl :)
theorem dL_law_196 : decode cL_law 196 = .ok (.iadd, 1) := (zd_q96 zhL_law_172 22 13176406016 rfl rfl :)
theorem dL_law_197 : decode cL_law 197 = .ok (.iaload, 1) := (zd_q46 zhL_law_172 23 13240238080 rfl rfl :)
theorem dL_law_198 : decode cL_law 198 = .ok (.aload_n 0, 1) := (zd_q42 zhL_law_172 24 13307084800 rfl rfl :)
theorem dL_law_199 : decode cL_law 199 = .ok (.iload_n 3, 1) := (zd_q29 zhL_law_172 25 13373341696 rfl rfl :)
theorem dL_law_200 : decode cL_law 200 = .ok (.iconst 2, 1) := (zd_q5 zhL_law_172 26 13438877696 rfl rfl :)
theorem dL_law_201 : decode cL_law 201 = .ok (.iadd, 1) := (zd_q96 zhL_law_172 27 13511950336 rfl rfl :)
theorem dL_law_202 : decode cL_law 202 = .ok (.iaload, 1) := (zd_q46 zhL_law_172 28 13575782400 rfl rfl :)
theorem dL_law_203 : decode cL_law 203 = .ok (.aload_n 0, 1) := (zd_q42 zhL_law_172 29 13642629120 rfl rfl :)
theorem dL_law_204 : decode cL_law 204 = .ok (.iload_n 3, 1) := (zd_q29 zhL_law_172 30 13708886016 rfl rfl :)
theorem dL_law_205 : decode cL_law 205 = .ok (.iconst 3, 1) := (zd_q6 zhL_law_172 31 13774487552 rfl rfl :)
theorem dL_law_206 : decode cL_law 206 = .ok (.iadd, 1) := (zd_q96 zhL_law_172 32 13847494656 rfl rfl :)
theorem dL_law_207 : decode cL_law 207 = .ok (.iaload, 1) := (zd_q46 zhL_law_172 33 13911326720 rfl rfl :)
theorem dL_law_208 : decode cL_law 208 = .ok (.invokevirtual 17, 3) := (zd_q182 zhL_law_172 34 14020902929 rfl rfl :)
theorem dL_law_211 : decode cL_law 211 = .ok (.pop, 1) := (zd_q87 zhL_law_172 35 14182449152 rfl rfl :)
theorem dL_law_212 : decode cL_law 212 = .ok (.goto 1053, 3) := (zd_q167 zhL_law_172 36 14288356381 rfl rfl :)
theorem dL_law_215 : decode cL_law 215 = .ok (.aload_n 1, 1) := (zd_q43 zhL_law_172 37 14448001024 rfl rfl :)
theorem dL_law_216 : decode cL_law 216 = .ok (.aload_n 0, 1) := (zd_q42 zhL_law_172 38 14515044352 rfl rfl :)
theorem dL_law_217 : decode cL_law 217 = .ok (.iload_n 3, 1) := (zd_q29 zhL_law_172 39 14581301248 rfl rfl :)
theorem dL_law_218 : decode cL_law 218 = .ok (.iconst 1, 1) := (zd_q4 zhL_law_172 40 14646771712 rfl rfl :)
theorem dL_law_219 : decode cL_law 219 = .ok (.iadd, 1) := (zd_q96 zhL_law_172 41 14719909888 rfl rfl :)
theorem dL_law_220 : decode cL_law 220 = .ok (.iaload, 1) := (zd_q46 zhL_law_172 42 14783741952 rfl rfl :)
theorem dL_law_221 : decode cL_law 221 = .ok (.aload_n 0, 1) := (zd_q42 zhL_law_172 43 14850588672 rfl rfl :)
theorem dL_law_222 : decode cL_law 222 = .ok (.iload_n 3, 1) := (zd_q29 zhL_law_172 44 14916845568 rfl rfl :)
theorem dL_law_223 : decode cL_law 223 = .ok (.iconst 2, 1) := (zd_q5 zhL_law_172 45 14982381568 rfl rfl :)
theorem dL_law_224 : decode cL_law 224 = .ok (.iadd, 1) := (zd_q96 zhL_law_172 46 15055454208 rfl rfl :)
theorem dL_law_225 : decode cL_law 225 = .ok (.iaload, 1) := (zd_q46 zhL_law_172 47 15119286272 rfl rfl :)
theorem dL_law_226 : decode cL_law 226 = .ok (.invokevirtual 18, 3) := (zd_q182 zhL_law_172 48 15228862482 rfl rfl :)
theorem dL_law_229 : decode cL_law 229 = .ok (.pop, 1) := (zd_q87 zhL_law_172 49 15390408704 rfl rfl :)
theorem dL_law_230 : decode cL_law 230 = .ok (.aload_n 2, 1) := (zd_q44 zhL_law_172 50 15454699520 rfl rfl :)
theorem dL_law_231 : decode cL_law 231 = .ok (.aload_n 0, 1) := (zd_q42 zhL_law_172 51 15521677312 rfl rfl :)
theorem dL_law_232 : decode cL_law 232 = .ok (.iload_n 3, 1) := (zd_q29 zhL_law_172 52 15587934208 rfl rfl :)
theorem dL_law_233 : decode cL_law 233 = .ok (.iconst 1, 1) := (zd_q4 zhL_law_172 53 15653404672 rfl rfl :)
theorem dL_law_234 : decode cL_law 234 = .ok (.iadd, 1) := (zd_q96 zhL_law_172 54 15726542848 rfl rfl :)
theorem dL_law_235 : decode cL_law 235 = .ok (.iaload, 1) := (zd_q46 zhL_law_172 55 15790374912 rfl rfl :)
theorem dL_law_236 : decode cL_law 236 = .ok (.aload_n 0, 1) := (zd_q42 zhL_law_172 56 15857221632 rfl rfl :)
theorem dL_law_237 : decode cL_law 237 = .ok (.iload_n 3, 1) := (zd_q29 zhL_law_172 57 15923478528 rfl rfl :)
theorem dL_law_238 : decode cL_law 238 = .ok (.iconst 2, 1) := (zd_q5 zhL_law_172 58 15989014528 rfl rfl :)
theorem dL_law_239 : decode cL_law 239 = .ok (.iadd, 1) := (zd_q96 zhL_law_172 59 16062087168 rfl rfl :)
theorem dL_law_240 : decode cL_law 240 = .ok (.iaload, 1) := (zd_q46 zhL_law_172 60 16125919232 rfl rfl :)
theorem dL_law_241 : decode cL_law 241 = .ok (.invokevirtual 22, 3) := (zd_q182 zhL_law_172 61 16235495446 rfl rfl :)
theorem dL_law_244 : decode cL_law 244 = .ok (.pop, 1) := (zd_q87 zhL_law_172 62 16397041664 rfl rfl :)
theorem dL_law_245 : decode cL_law 245 = .ok (.goto 1020, 3) := (zd_q167 zhL_law_172 63 16502948860 rfl rfl :)
theorem dL_law_248 : decode cL_law 248 = .ok (.aload_n 1, 1) := (zd_q43 zhL_law_172 64 16662593536 rfl rfl :)
theorem dL_law_249 : decode cL_law 249 = .ok (.aload_n 0, 1) := (zd_q42 zhL_law_172 65 16729636864 rfl rfl :)
theorem dL_law_250 : decode cL_law 250 = .ok (.iload_n 3, 1) := (zd_q29 zhL_law_172 66 16795893760 rfl rfl :)
theorem dL_law_251 : decode cL_law 251 = .ok (.iconst 1, 1) := (zd_q4 zhL_law_172 67 16861364224 rfl rfl :)
theorem dL_law_252 : decode cL_law 252 = .ok (.iadd, 1) := (zd_q96 zhL_law_172 68 16934502400 rfl rfl :)
theorem dL_law_253 : decode cL_law 253 = .ok (.iaload, 1) := (zd_q46 zhL_law_172 69 16998334464 rfl rfl :)
theorem dL_law_254 : decode cL_law 254 = .ok (.aload_n 0, 1) := (zd_q42 zhL_law_172 70 17065181184 rfl rfl :)
theorem dL_law_255 : decode cL_law 255 = .ok (.iload_n 3, 1) := (zd_q29 zhL_law_172 71 17131438080 rfl rfl :)
theorem dL_law_256 : decode cL_law 256 = .ok (.iconst 2, 1) := (zd_q5 zhL_law_172 72 17196974080 rfl rfl :)
theorem dL_law_257 : decode cL_law 257 = .ok (.iadd, 1) := (zd_q96 zhL_law_172 73 17270046720 rfl rfl :)
theorem dL_law_258 : decode cL_law 258 = .ok (.iaload, 1) := (zd_q46 zhL_law_172 74 17333878784 rfl rfl :)
theorem dL_law_259 : decode cL_law 259 = .ok (.invokevirtual 23, 3) := (zd_q182 zhL_law_172 75 17443454999 rfl rfl :)
theorem dL_law_262 : decode cL_law 262 = .ok (.pop, 1) := (zd_q87 zhL_law_172 76 17605001216 rfl rfl :)
theorem dL_law_263 : decode cL_law 263 = .ok (.aload_n 2, 1) := (zd_q44 zhL_law_172 77 17669292032 rfl rfl :)
theorem dL_law_264 : decode cL_law 264 = .ok (.aload_n 0, 1) := (zd_q42 zhL_law_172 78 17736269824 rfl rfl :)
theorem dL_law_265 : decode cL_law 265 = .ok (.iload_n 3, 1) := (zd_q29 zhL_law_172 79 17802526720 rfl rfl :)
theorem dL_law_266 : decode cL_law 266 = .ok (.iconst 1, 1) := (zd_q4 zhL_law_172 80 17867997184 rfl rfl :)
theorem dL_law_267 : decode cL_law 267 = .ok (.iadd, 1) := (zd_q96 zhL_law_172 81 17941135360 rfl rfl :)
theorem dL_law_268 : decode cL_law 268 = .ok (.iaload, 1) := (zd_q46 zhL_law_172 82 18004967424 rfl rfl :)
theorem dL_law_269 : decode cL_law 269 = .ok (.aload_n 0, 1) := (zd_q42 zhL_law_172 83 18071814144 rfl rfl :)
theorem dL_law_270 : decode cL_law 270 = .ok (.iload_n 3, 1) := (zd_q29 zhL_law_172 84 18138071040 rfl rfl :)
theorem dL_law_271 : decode cL_law 271 = .ok (.iconst 2, 1) := (zd_q5 zhL_law_172 85 18203607040 rfl rfl :)
theorem dL_law_272 : decode cL_law 272 = .ok (.iadd, 1) := (zd_q96 zhL_law_172 86 18276679680 rfl rfl :)
theorem dL_law_273 : decode cL_law 273 = .ok (.iaload, 1) := (zd_q46 zhL_law_172 87 18340511744 rfl rfl :)
theorem dL_law_274 : decode cL_law 274 = .ok (.invokevirtual 26, 3) := (zd_q182 zhL_law_172 88 18450087962 rfl rfl :)
theorem dL_law_277 : decode cL_law 277 = .ok (.pop, 1) := (zd_q87 zhL_law_172 89 18611634176 rfl rfl :)
theorem dL_law_278 : decode cL_law 278 = .ok (.goto 987, 3) := (zd_q167 zhL_law_172 90 18717541339 rfl rfl :)
theorem dL_law_281 : decode cL_law 281 = .ok (.aload_n 1, 1) := (zd_q43 zhL_law_172 91 18877186048 rfl rfl :)
theorem dL_law_282 : decode cL_law 282 = .ok (.aload_n 0, 1) := (zd_q42 zhL_law_172 92 18944229376 rfl rfl :)
theorem dL_law_283 : decode cL_law 283 = .ok (.iload_n 3, 1) := (zd_q29 zhL_law_172 93 19010486272 rfl rfl :)
theorem dL_law_284 : decode cL_law 284 = .ok (.iconst 1, 1) := (zd_q4 zhL_law_172 94 19075956736 rfl rfl :)
theorem dL_law_285 : decode cL_law 285 = .ok (.iadd, 1) := (zd_q96 zhL_law_172 95 19149094912 rfl rfl :)
theorem dL_law_286 : decode cL_law 286 = .ok (.iaload, 1) := (zd_q46 zhL_law_172 96 19212926976 rfl rfl :)
theorem dL_law_287 : decode cL_law 287 = .ok (.aload_n 0, 1) := (zd_q42 zhL_law_172 97 19279773696 rfl rfl :)
theorem dL_law_288 : decode cL_law 288 = .ok (.iload_n 3, 1) := (zd_q29 zhL_law_172 98 19346030592 rfl rfl :)
theorem dL_law_289 : decode cL_law 289 = .ok (.iconst 2, 1) := (zd_q5 zhL_law_172 99 19411566592 rfl rfl :)
theorem dL_law_290 : decode cL_law 290 = .ok (.iadd, 1) := (zd_q96 zhL_law_172 100 19484639232 rfl rfl :)
theorem dL_law_291 : decode cL_law 291 = .ok (.iaload, 1) := (zd_q46 zhL_law_172 101 19548471296 rfl rfl :)
theorem dL_law_292 : decode cL_law 292 = .ok (.aload_n 0, 1) := (zd_q42 zhL_law_172 102 19615318016 rfl rfl :)
theorem dL_law_293 : decode cL_law 293 = .ok (.iload_n 3, 1) := (zd_q29 zhL_law_172 103 19681574912 rfl rfl :)
theorem dL_law_294 : decode cL_law 294 = .ok (.iconst 3, 1) := (zd_q6 zhL_law_172 104 19747176448 rfl rfl :)
theorem dL_law_295 : decode cL_law 295 = .ok (.iadd, 1) := (zd_q96 zhL_law_172 105 19820183552 rfl rfl :)
theorem dL_law_296 : decode cL_law 296 = .ok (.iaload, 1) := (zd_q46 zhL_law_172 106 19884015616 rfl rfl :)
theorem dL_law_297 : decode cL_law 297 = .ok (.aload_n 0, 1) := (zd_q42 zhL_law_172 107 19950862336 rfl rfl :)
theorem dL_law_298 : decode cL_law 298 = .ok (.iload_n 3, 1) := (zd_q29 zhL_law_172 108 20017119232 rfl rfl :)
theorem dL_law_299 : decode cL_law 299 = .ok (.iconst 4, 1) := (zd_q7 zhL_law_172 109 20082786304 rfl rfl :)
theorem dL_law_300 : decode cL_law 300 = .ok (.iadd, 1) := (zd_q96 zhL_law_172 110 20155727872 rfl rfl :)
theorem dL_law_301 : decode cL_law 301 = .ok (.iaload, 1) := (zd_q46 zhL_law_172 111 20219559936 rfl rfl :)
theorem dL_law_302 : decode cL_law 302 = .ok (.invokevirtual 27, 3) := (zd_q182 zhL_law_172 112 20329136155 rfl rfl :)
theorem dL_law_305 : decode cL_law 305 = .ok (.pop, 1) := (zd_q87 zhL_law_172 113 20490682368 rfl rfl :)
theorem dL_law_306 : decode cL_law 306 = .ok (.aload_n 2, 1) := (zd_q44 zhL_law_172 114 20554973184 rfl rfl :)
theorem dL_law_307 : decode cL_law 307 = .ok (.aload_n 0, 1) := (zd_q42 zhL_law_172 115 20621950976 rfl rfl :)
theorem dL_law_308 : decode cL_law 308 = .ok (.iload_n 3, 1) := (zd_q29 zhL_law_172 116 20688207872 rfl rfl :)
theorem dL_law_309 : decode cL_law 309 = .ok (.iconst 1, 1) := (zd_q4 zhL_law_172 117 20753678336 rfl rfl :)
theorem dL_law_310 : decode cL_law 310 = .ok (.iadd, 1) := (zd_q96 zhL_law_172 118 20826816512 rfl rfl :)
theorem dL_law_311 : decode cL_law 311 = .ok (.iaload, 1) := (zd_q46 zhL_law_172 119 20890648576 rfl rfl :)
theorem dL_law_312 : decode cL_law 312 = .ok (.aload_n 0, 1) := (zd_q42 zhL_law_172 120 20957495296 rfl rfl :)
theorem dL_law_313 : decode cL_law 313 = .ok (.iload_n 3, 1) := (zd_q29 zhL_law_172 121 21023752192 rfl rfl :)
theorem dL_law_314 : decode cL_law 314 = .ok (.iconst 2, 1) := (zd_q5 zhL_law_172 122 21089288192 rfl rfl :)
theorem dL_law_315 : decode cL_law 315 = .ok (.iadd, 1) := (zd_q96 zhL_law_172 123 21162360832 rfl rfl :)
theorem dL_law_316 : decode cL_law 316 = .ok (.iaload, 1) := (zd_q46 zhL_law_172 124 21226192896 rfl rfl :)
theorem dL_law_317 : decode cL_law 317 = .ok (.aload_n 0, 1) := (zd_q42 zhL_law_172 125 21293039616 rfl rfl :)
theorem dL_law_318 : decode cL_law 318 = .ok (.iload_n 3, 1) := (zd_q29 zhL_law_172 126 21359296512 rfl rfl :)
theorem dL_law_319 : decode cL_law 319 = .ok (.iconst 3, 1) := (zd_q6 zhL_law_172 127 21424898048 rfl rfl :)
theorem dL_law_320 : decode cL_law 320 = .ok (.iadd, 1) := (zd_q96 zhL_law_172 128 21497905152 rfl rfl :)
theorem dL_law_321 : decode cL_law 321 = .ok (.iaload, 1) := (zd_q46 zhL_law_172 129 21561737216 rfl rfl :)
theorem dL_law_322 : decode cL_law 322 = .ok (.aload_n 0, 1) := (zd_q42 zhL_law_172 130 21628583936 rfl rfl :)
theorem dL_law_323 : decode cL_law 323 = .ok (.iload_n 3, 1) := (zd_q29 zhL_law_172 131 21694840832 rfl rfl :)
theorem dL_law_324 : decode cL_law 324 = .ok (.iconst 4, 1) := (zd_q7 zhL_law_172 132 21760507904 rfl rfl :)
theorem dL_law_325 : decode cL_law 325 = .ok (.iadd, 1) := (zd_q96 zhL_law_172 133 21833449472 rfl rfl :)
theorem dL_law_326 : decode cL_law 326 = .ok (.iaload, 1) := (zd_q46 zhL_law_172 134 21897281536 rfl rfl :)
theorem dL_law_327 : decode cL_law 327 = .ok (.invokevirtual 31, 3) := (zd_q182 zhL_law_172 135 22006857759 rfl rfl :)
theorem dL_law_330 : decode cL_law 330 = .ok (.pop, 1) := (zd_q87 zhL_law_172 136 22168403968 rfl rfl :)
theorem dL_law_331 : decode cL_law 331 = .ok (.goto 934, 3) := (zd_q167 zhL_law_172 137 22274311078 rfl rfl :)
theorem dL_law_334 : decode cL_law 334 = .ok (.aload_n 1, 1) := (zd_q43 zhL_law_172 138 22433955840 rfl rfl :)
theorem dL_law_335 : decode cL_law 335 = .ok (.aload_n 0, 1) := (zd_q42 zhL_law_172 139 22500999168 rfl rfl :)
theorem dL_law_336 : decode cL_law 336 = .ok (.iload_n 3, 1) := (zd_q29 zhL_law_172 140 22567256064 rfl rfl :)
theorem dL_law_337 : decode cL_law 337 = .ok (.iconst 1, 1) := (zd_q4 zhL_law_172 141 22632726528 rfl rfl :)
theorem dL_law_338 : decode cL_law 338 = .ok (.iadd, 1) := (zd_q96 zhL_law_172 142 22705864704 rfl rfl :)
theorem dL_law_339 : decode cL_law 339 = .ok (.iaload, 1) := (zd_q46 zhL_law_172 143 22769696768 rfl rfl :)
theorem dL_law_340 : decode cL_law 340 = .ok (.invokevirtual 32, 3) := (zd_q182 zhL_law_172 144 22879272992 rfl rfl :)
theorem dL_law_343 : decode cL_law 343 = .ok (.pop, 1) := (zd_q87 zhL_law_172 145 23040819200 rfl rfl :)
theorem dL_law_344 : decode cL_law 344 = .ok (.aload_n 2, 1) := (zd_q44 zhL_law_172 146 23105110016 rfl rfl :)
theorem dL_law_345 : decode cL_law 345 = .ok (.aload_n 0, 1) := (zd_q42 zhL_law_172 147 23172087808 rfl rfl :)
theorem dL_law_346 : decode cL_law 346 = .ok (.iload_n 3, 1) := (zd_q29 zhL_law_172 148 23238344704 rfl rfl :)
theorem dL_law_347 : decode cL_law 347 = .ok (.iconst 1, 1) := (zd_q4 zhL_law_172 149 23303815168 rfl rfl :)
theorem dL_law_348 : decode cL_law 348 = .ok (.iadd, 1) := (zd_q96 zhL_law_172 150 23376953344 rfl rfl :)
theorem dL_law_349 : decode cL_law 349 = .ok (.iaload, 1) := (zd_q46 zhL_law_172 151 23440785408 rfl rfl :)
theorem dL_law_350 : decode cL_law 350 = .ok (.invokevirtual 36, 3) := (zd_q182 zhL_law_172 152 23550361636 rfl rfl :)
theorem dL_law_353 : decode cL_law 353 = .ok (.pop, 1) := (zd_q87 zhL_law_172 153 23711907840 rfl rfl :)
theorem dL_law_354 : decode cL_law 354 = .ok (.goto 911, 3) := (zd_q167 zhL_law_172 154 23817814927 rfl rfl :)
theorem dL_law_357 : decode cL_law 357 = .ok (.aload_n 1, 1) := (zd_q43 zhL_law_172 155 23977459712 rfl rfl :)
theorem dL_law_358 : decode cL_law 358 = .ok (.invokevirtual 37, 3) := (zd_q182 zhL_law_172 156 24087232549 rfl rfl :)
theorem dL_law_361 : decode cL_law 361 = .ok (.pop, 1) := (zd_q87 zhL_law_172 157 24248778752 rfl rfl :)
theorem dL_law_362 : decode cL_law 362 = .ok (.aload_n 2, 1) := (zd_q44 zhL_law_172 158 24313069568 rfl rfl :)
theorem dL_law_363 : decode cL_law 363 = .ok (.invokevirtual 41, 3) := (zd_q182 zhL_law_172 159 24422776873 rfl rfl :)
theorem dL_law_366 : decode cL_law 366 = .ok (.pop, 1) := (zd_q87 zhL_law_172 160 24584323072 rfl rfl :)
theorem dL_law_367 : decode cL_law 367 = .ok (.goto 898, 3) := (zd_q167 zhL_law_172 161 24690230146 rfl rfl :)
theorem dL_law_370 : decode cL_law 370 = .ok (.aload_n 1, 1) := (zd_q43 zhL_law_172 162 24849874944 rfl rfl :)
theorem dL_law_371 : decode cL_law 371 = .ok (.aload_n 0, 1) := (zd_q42 zhL_law_172 163 24916918272 rfl rfl :)
theorem dL_law_372 : decode cL_law 372 = .ok (.iload_n 3, 1) := (zd_q29 zhL_law_172 164 24983175168 rfl rfl :)
theorem dL_law_373 : decode cL_law 373 = .ok (.iconst 1, 1) := (zd_q4 zhL_law_172 165 25048645632 rfl rfl :)
theorem dL_law_374 : decode cL_law 374 = .ok (.iadd, 1) := (zd_q96 zhL_law_172 166 25121783808 rfl rfl :)
theorem dL_law_375 : decode cL_law 375 = .ok (.iaload, 1) := (zd_q46 zhL_law_172 167 25185615872 rfl rfl :)
theorem dL_law_376 : decode cL_law 376 = .ok (.invokevirtual 42, 3) := (zd_q182 zhL_law_172 168 25295192106 rfl rfl :)
theorem dL_law_379 : decode cL_law 379 = .ok (.pop, 1) := (zd_q87 zhL_law_172 169 25456738304 rfl rfl :)
theorem dL_law_380 : decode cL_law 380 = .ok (.aload_n 2, 1) := (zd_q44 zhL_law_172 170 25521029120 rfl rfl :)
theorem dL_law_381 : decode cL_law 381 = .ok (.aload_n 0, 1) := (zd_q42 zhL_law_172 171 25588006912 rfl rfl :)
theorem dL_law_382 : decode cL_law 382 = .ok (.iload_n 3, 1) := (zd_q29 zhL_law_172 172 25654263808 rfl rfl :)
theorem dL_law_383 : decode cL_law 383 = .ok (.iconst 1, 1) := (zd_q4 zhL_law_172 173 25719734272 rfl rfl :)
theorem dL_law_384 : decode cL_law 384 = .ok (.iadd, 1) := (zd_q96 zhL_law_172 174 25792872448 rfl rfl :)
theorem dL_law_385 : decode cL_law 385 = .ok (.iaload, 1) := (zd_q46 zhL_law_172 175 25856704512 rfl rfl :)
theorem dL_law_386 : decode cL_law 386 = .ok (.invokevirtual 45, 3) := (zd_q182 zhL_law_172 176 25966280749 rfl rfl :)
theorem dL_law_389 : decode cL_law 389 = .ok (.pop, 1) := (zd_q87 zhL_law_172 177 26127826944 rfl rfl :)
theorem dL_law_390 : decode cL_law 390 = .ok (.goto 875, 3) := (zd_q167 zhL_law_172 178 26233733995 rfl rfl :)
theorem dL_law_393 : decode cL_law 393 = .ok (.aload_n 1, 1) := (zd_q43 zhL_law_172 179 26393378816 rfl rfl :)
theorem dL_law_394 : decode cL_law 394 = .ok (.aload_n 0, 1) := (zd_q42 zhL_law_172 180 26460422144 rfl rfl :)
theorem dL_law_395 : decode cL_law 395 = .ok (.iload_n 3, 1) := (zd_q29 zhL_law_172 181 26526679040 rfl rfl :)
theorem dL_law_396 : decode cL_law 396 = .ok (.iconst 1, 1) := (zd_q4 zhL_law_172 182 26592149504 rfl rfl :)
theorem dL_law_397 : decode cL_law 397 = .ok (.iadd, 1) := (zd_q96 zhL_law_172 183 26665287680 rfl rfl :)
theorem dL_law_398 : decode cL_law 398 = .ok (.iaload, 1) := (zd_q46 zhL_law_172 184 26729119744 rfl rfl :)
theorem dL_law_399 : decode cL_law 399 = .ok (.aload_n 0, 1) := (zd_q42 zhL_law_172 185 26795966464 rfl rfl :)
theorem dL_law_400 : decode cL_law 400 = .ok (.iload_n 3, 1) := (zd_q29 zhL_law_172 186 26862223360 rfl rfl :)
theorem dL_law_401 : decode cL_law 401 = .ok (.iconst 2, 1) := (zd_q5 zhL_law_172 187 26927759360 rfl rfl :)
theorem dL_law_402 : decode cL_law 402 = .ok (.iadd, 1) := (zd_q96 zhL_law_172 188 27000832000 rfl rfl :)
theorem dL_law_403 : decode cL_law 403 = .ok (.iaload, 1) := (zd_q46 zhL_law_172 189 27064664064 rfl rfl :)
theorem dL_law_404 : decode cL_law 404 = .ok (.aload_n 0, 1) := (zd_q42 zhL_law_172 190 27131510784 rfl rfl :)
theorem dL_law_405 : decode cL_law 405 = .ok (.iload_n 3, 1) := (zd_q29 zhL_law_172 191 27197767680 rfl rfl :)
theorem dL_law_406 : decode cL_law 406 = .ok (.iconst 3, 1) := (zd_q6 zhL_law_172 192 27263369216 rfl rfl :)
theorem dL_law_407 : decode cL_law 407 = .ok (.iadd, 1) := (zd_q96 zhL_law_172 193 27336376320 rfl rfl :)
theorem dL_law_408 : decode cL_law 408 = .ok (.iaload, 1) := (zd_q46 zhL_law_172 194 27400208384 rfl rfl :)
theorem dL_law_409 : decode cL_law 409 = .ok (.invokevirtual 46, 3) := (zd_q182 zhL_law_172 195 27509784622 rfl rfl :)
theorem dL_law_412 : decode cL_law 412 = .ok (.pop, 1) := (zd_q87 zhL_law_172 196 27671330816 rfl rfl :)
theorem dL_law_413 : decode cL_law 413 = .ok (.aload_n 2, 1) := (zd_q44 zhL_law_172 197 27735621632 rfl rfl :)
theorem dL_law_414 : decode cL_law 414 = .ok (.aload_n 0, 1) := (zd_q42 zhL_law_172 198 27802599424 rfl rfl :)
theorem dL_law_415 : decode cL_law 415 = .ok (.iload_n 3, 1) := (zd_q29 zhL_law_172 199 27868856320 rfl rfl :)
def ziL_law_416 : Nat := 6970744965638672819949841369447447144298516015018064203540811390307230163233959507264747923964992218771588362889435051606915134348264969171730262270394653916847008333461940529011541449633410540864499222367888695340454758410453448130553675620880598539730000861203885461658357976655053850073182213409942920812198520037606159112471720564169032986326468814389563373663901543532364784458079631480184118956471559521841466568276061176801896776803389930666097771380542102970204195702052017021717532019498504678806616504608121424275517080476717948772867071430939045852257980739872714351252565528219058181457525730239698027243096229454864850121749520575268521824168118030383199953015864381397252202387920515579846902983741299857517349789913993163581256447216387065983542734527893283058319830184123772682104096960055154176334586168057953252489133988099582573325575002301590173866618862718554134903761420601636456433178739388079857426938337920712246014256206111649660110467065674071817401769128336500700076069673520694643909661955856278937103349160592239000456009513004318847116919463152079578842034931053364424839496518265204391123980148217118543771403320906403529532742302115466614625539736278271271662819148266390192113240053815661973701132917868289518109986261552172648400046745507203008866121817071221020741903438312770385466795020234943369688882379682794500743295331948477051740811978457813211858587209642334023936779833422772893881764821832616193607655412257877044754037446773064660751368955797658266530058611267074386256682968646580681260306564157991068497375705542883047130968375950679619777138304368530540669738583565246700630507346328401123638739918214557699364261489470916610517539216804368756191088731825484694944652089679865417290345718183442685958291109791560380368573316677868622953760402853355423684894719924314442001340266625730434732897539714270567932345336682743093148811536848517082854370797165243881878834266566761432459532327820160609104592727331695203159769870447729758512587576638190554097241614457518589137938829483271163203380257207915602780977506179880781371691184708237886452080886293459508088595136083764715047095201946085428282718028275682161446206963742081676912122968086376214826699657728268411831721541743280082068384356834822623774615715546143492162947960845463955650058667495104989685453941888066737679259154546221019107572086711834624012029753250453138015383056730726051802555613184
theorem zhL_law_416 : zd_chkB (cL_law.data.toList.drop 416) 416 200 ziL_law_416 = true := by decide +kernel
theorem dL_law_416 : decode cL_law 416 = .ok (.iconst 1, 1) := (zd_q4 zhL_law_416 0 27934326784 rfl rfl :)
theorem dL_law_417 : decode cL_law 417 = .ok (.iadd, 1) := (zd_q96 zhL_law_416 1 28007464960 rfl rfl :)
theorem dL_law_418 : decode cL_law 418 = .ok (.iaload, 1) := (zd_q46 zhL_law_416 2 28071297024 rfl rfl :)
theorem dL_law_419 : decode cL_law 419 = .ok (.aload_n 0, 1) := (zd_q42 zhL_law_416 3 28138143744 rfl rfl :)
theorem dL_law_420 : decode cL_law 420 = .ok (.iload_n 3, 1) := (zd_q29 zhL_law_416 4 28204400640 rfl rfl :)
theorem dL_law_421 : decode cL_law 421 = .ok (.iconst 2, 1) := (zd_q5 zhL_law_416 5 28269936640 rfl rfl :)
theorem dL_law_422 : decode cL_law 422 = .ok (.iadd, 1) := (zd_q96 zhL_law_416 6 28343009280 rfl rfl :)
theorem dL_law_423 : decode cL_law 423 = .ok (.iaload, 1) := (zd_q46 zhL_law_416 7 28406841344 rfl rfl :)
theorem dL_law_424 : decode cL_law 424 = .ok (.aload_n 0, 1) := (zd_q42 zhL_law_416 8 28473688064 rfl rfl :)
theorem dL_law_425 : decode cL_law 425 = .ok (.iload_n 3, 1) := (zd_q29 zhL_law_416 9 28539944960 rfl rfl :)
theorem dL_law_426 : decode cL_law 426 = .ok (.iconst 3, 1) := (zd_q6 zhL_law_416 10 28605546496 rfl rfl :)
theorem dL_law_427 : decode cL_law 427 = .ok (.iadd, 1) := (zd_q96 zhL_law_416 11 28678553600 rfl rfl :)
theorem dL_law_428 : decode cL_law 428 = .ok (.iaload, 1) := (zd_q46 zhL_law_416 12 28742385664 rfl rfl :)
theorem dL_law_429 : decode cL_law 429 = .ok (.invokevirtual 49, 3) := (zd_q182 zhL_law_416 13 28851961905 rfl rfl :)
theorem dL_law_432 : decode cL_law 432 = .ok (.pop, 1) := (zd_q87 zhL_law_416 14 29013508096 rfl rfl :)
theorem dL_law_433 : decode cL_law 433 = .ok (.goto 832, 3) := (zd_q167 zhL_law_416 15 29119415104 rfl rfl :)
theorem dL_law_436 : decode cL_law 436 = .ok (.aload_n 1, 1) := (zd_q43 zhL_law_416 16 29279059968 rfl rfl :)
theorem dL_law_437 : decode cL_law 437 = .ok (.aload_n 0, 1) := (zd_q42 zhL_law_416 17 29346103296 rfl rfl :)
theorem dL_law_438 : decode cL_law 438 = .ok (.iload_n 3, 1) := (zd_q29 zhL_law_416 18 29412360192 rfl rfl :)
theorem dL_law_439 : decode cL_law 439 = .ok (.iconst 1, 1) := (zd_q4 zhL_law_416 19 29477830656 rfl rfl :)
theorem dL_law_440 : decode cL_law 440 = .ok (.iadd, 1) := (zd_q96 zhL_law_416 20 29550968832 rfl rfl :)
theorem dL_law_441 : decode cL_law 441 = .ok (.iaload, 1) := (zd_q46 zhL_law_416 21 29614800896 rfl rfl :)
theorem dL_law_442 : decode cL_law 442 = .ok (.aload_n 0, 1) := (zd_q42 zhL_law_416 22 29681647616 rfl rfl :)
theorem dL_law_443 : decode cL_law 443 = .ok (.iload_n 3, 1) := (zd_q29 zhL_law_416 23 29747904512 rfl rfl :)
theorem dL_law_444 : decode cL_law 444 = .ok (.iconst 2, 1) := (zd_q5 zhL_law_416 24 29813440512 rfl rfl :)
theorem dL_law_445 : decode cL_law 445 = .ok (.iadd, 1) := (zd_q96 zhL_law_416 25 29886513152 rfl rfl :)
theorem dL_law_446 : decode cL_law 446 = .ok (.iaload, 1) := (zd_q46 zhL_law_416 26 29950345216 rfl rfl :)
theorem dL_law_447 : decode cL_law 447 = .ok (.invokevirtual 50, 3) := (zd_q182 zhL_law_416 27 30059921458 rfl rfl :)
theorem dL_law_450 : decode cL_law 450 = .ok (.pop, 1) := (zd_q87 zhL_law_416 28 30221467648 rfl rfl :)
theorem dL_law_451 : decode cL_law 451 = .ok (.aload_n 2, 1) := (zd_q44 zhL_law_416 29 30285758464 rfl rfl :)
theorem dL_law_452 : decode cL_law 452 = .ok (.aload_n 0, 1) := (zd_q42 zhL_law_416 30 30352736256 rfl rfl :)
theorem dL_law_453 : decode cL_law 453 = .ok (.iload_n 3, 1) := (zd_q29 zhL_law_416 31 30418993152 rfl rfl :)
theorem dL_law_454 : decode cL_law 454 = .ok (.iconst 1, 1) := (zd_q4 zhL_law_416 32 30484463616 rfl rfl :)
theorem dL_law_455 : decode cL_law 455 = .ok (.iadd, 1) := (zd_q96 zhL_law_416 33 30557601792 rfl rfl :)
theorem dL_law_456 : decode cL_law 456 = .ok (.iaload, 1) := (zd_q46 zhL_law_416 34 30621433856 rfl rfl :)
theorem dL_law_457 : decode cL_law 457 = .ok (.aload_n 0, 1) := (zd_q42 zhL_law_416 35 30688280576 rfl rfl :)
theorem dL_law_458 : decode cL_law 458 = .ok (.iload_n 3, 1) := (zd_q29 zhL_law_416 36 30754537472 rfl rfl :)
theorem dL_law_459 : decode cL_law 459 = .ok (.iconst 2, 1) := (zd_q5 zhL_law_416 37 30820073472 rfl rfl :)
theorem dL_law_460 : decode cL_law 460 = .ok (.iadd, 1) := (zd_q96 zhL_law_416 38 30893146112 rfl rfl :)
theorem dL_law_461 : decode cL_law 461 = .ok (.iaload, 1) := (zd_q46 zhL_law_416 39 30956978176 rfl rfl :)
theorem dL_law_462 : decode cL_law 462 = .ok (.invokevirtual 53, 3) := (zd_q182 zhL_law_416 40 31066554421 rfl rfl :)
theorem dL_law_465 : decode cL_law 465 = .ok (.pop, 1) := (zd_q87 zhL_law_416 41 31228100608 rfl rfl :)
theorem dL_law_466 : decode cL_law 466 = .ok (.goto 799, 3) := (zd_q167 zhL_law_416 42 31334007583 rfl rfl :)
theorem dL_law_469 : decode cL_law 469 = .ok (.aload_n 1, 1) := (zd_q43 zhL_law_416 43 31493652480 rfl rfl :)
theorem dL_law_470 : decode cL_law 470 = .ok (.aload_n 0, 1) := (zd_q42 zhL_law_416 44 31560695808 rfl rfl :)
theorem dL_law_471 : decode cL_law 471 = .ok (.iload_n 3, 1) := (zd_q29 zhL_law_416 45 31626952704 rfl rfl :)
theorem dL_law_472 : decode cL_law 472 = .ok (.iconst 1, 1) := (zd_q4 zhL_law_416 46 31692423168 rfl rfl :)
theorem dL_law_473 : decode cL_law 473 = .ok (.iadd, 1) := (zd_q96 zhL_law_416 47 31765561344 rfl rfl :)
theorem dL_law_474 : decode cL_law 474 = .ok (.iaload, 1) := (zd_q46 zhL_law_416 48 31829393408 rfl rfl :)
theorem dL_law_475 : decode cL_law 475 = .ok (.aload_n 0, 1) := (zd_q42 zhL_law_416 49 31896240128 rfl rfl :)
theorem dL_law_476 : decode cL_law 476 = .ok (.iload_n 3, 1) := (zd_q29 zhL_law_416 50 31962497024 rfl rfl :)
theorem dL_law_477 : decode cL_law 477 = .ok (.iconst 2, 1) := (zd_q5 zhL_law_416 51 32028033024 rfl rfl :)
theorem dL_law_478 : decode cL_law 478 = .ok (.iadd, 1) := (zd_q96 zhL_law_416 52 32101105664 rfl rfl :)
theorem dL_law_479 : decode cL_law 479 = .ok (.iaload, 1) := (zd_q46 zhL_law_416 53 32164937728 rfl rfl :)
theorem dL_law_480 : decode cL_law 480 = .ok (.invokevirtual 54, 3) := (zd_q182 zhL_law_416 54 32274513974 rfl rfl :)
theorem dL_law_483 : decode cL_law 483 = .ok (.pop, 1) := (zd_q87 zhL_law_416 55 32436060160 rfl rfl :)
theorem dL_law_484 : decode cL_law 484 = .ok (.aload_n 2, 1) := (zd_q44 zhL_law_416 56 32500350976 rfl rfl :)
theorem dL_law_485 : decode cL_law 485 = .ok (.aload_n 0, 1) := (zd_q42 zhL_law_416 57 32567328768 rfl rfl :)
theorem dL_law_486 : decode cL_law 486 = .ok (.iload_n 3, 1) := (zd_q29 zhL_law_416 58 32633585664 rfl rfl :)
theorem dL_law_487 : decode cL_law 487 = .ok (.iconst 1, 1) := (zd_q4 zhL_law_416 59 32699056128 rfl rfl :)
theorem dL_law_488 : decode cL_law 488 = .ok (.iadd, 1) := (zd_q96 zhL_law_416 60 32772194304 rfl rfl :)
theorem dL_law_489 : decode cL_law 489 = .ok (.iaload, 1) := (zd_q46 zhL_law_416 61 32836026368 rfl rfl :)
theorem dL_law_490 : decode cL_law 490 = .ok (.aload_n 0, 1) := (zd_q42 zhL_law_416 62 32902873088 rfl rfl :)
theorem dL_law_491 : decode cL_law 491 = .ok (.iload_n 3, 1) := (zd_q29 zhL_law_416 63 32969129984 rfl rfl :)
theorem dL_law_492 : decode cL_law 492 = .ok (.iconst 2, 1) := (zd_q5 zhL_law_416 64 33034665984 rfl rfl :)
theorem dL_law_493 : decode cL_law 493 = .ok (.iadd, 1) := (zd_q96 zhL_law_416 65 33107738624 rfl rfl :)
theorem dL_law_494 : decode cL_law 494 = .ok (.iaload, 1) := (zd_q46 zhL_law_416 66 33171570688 rfl rfl :)
theorem dL_law_495 : decode cL_law 495 = .ok (.invokevirtual 57, 3) := (zd_q182 zhL_law_416 67 33281146937 rfl rfl :)
theorem dL_law_498 : decode cL_law 498 = .ok (.pop, 1) := (zd_q87 zhL_law_416 68 33442693120 rfl rfl :)
theorem dL_law_499 : decode cL_law 499 = .ok (.goto 766, 3) := (zd_q167 zhL_law_416 69 33548600062 rfl rfl :)
theorem dL_law_502 : decode cL_law 502 = .ok (.aload_n 1, 1) := (zd_q43 zhL_law_416 70 33708244992 rfl rfl :)
theorem dL_law_503 : decode cL_law 503 = .ok (.invokevirtual 58, 3) := (zd_q182 zhL_law_416 71 33818017850 rfl rfl :)
theorem dL_law_506 : decode cL_law 506 = .ok (.pop, 1) := (zd_q87 zhL_law_416 72 33979564032 rfl rfl :)
theorem dL_law_507 : decode cL_law 507 = .ok (.aload_n 2, 1) := (zd_q44 zhL_law_416 73 34043854848 rfl rfl :)
theorem dL_law_508 : decode cL_law 508 = .ok (.invokevirtual 61, 3) := (zd_q182 zhL_law_416 74 34153562173 rfl rfl :)
theorem dL_law_511 : decode cL_law 511 = .ok (.pop, 1) := (zd_q87 zhL_law_416 75 34315108352 rfl rfl :)
theorem dL_law_512 : decode cL_law 512 = .ok (.goto 753, 3) := (zd_q167 zhL_law_416 76 34421015281 rfl rfl :)
theorem dL_law_515 : decode cL_law 515 = .ok (.aload_n 1, 1) := (zd_q43 zhL_law_416 77 34580660224 rfl rfl :)
theorem dL_law_516 : decode cL_law 516 = .ok (.aload_n 0, 1) := (zd_q42 zhL_law_416 78 34647703552 rfl rfl :)
theorem dL_law_517 : decode cL_law 517 = .ok (.iload_n 3, 1) := (zd_q29 zhL_law_416 79 34713960448 rfl rfl :)
theorem dL_law_518 : decode cL_law 518 = .ok (.iconst 1, 1) := (zd_q4 zhL_law_416 80 34779430912 rfl rfl :)
theorem dL_law_519 : decode cL_law 519 = .ok (.iadd, 1) := (zd_q96 zhL_law_416 81 34852569088 rfl rfl :)
theorem dL_law_520 : decode cL_law 520 = .ok (.iaload, 1) := (zd_q46 zhL_law_416 82 34916401152 rfl rfl :)
theorem dL_law_521 : decode cL_law 521 = .ok (.aload_n 0, 1) := (zd_q42 zhL_law_416 83 34983247872 rfl rfl :)
theorem dL_law_522 : decode cL_law 522 = .ok (.iload_n 3, 1) := (zd_q29 zhL_law_416 84 35049504768 rfl rfl :)
theorem dL_law_523 : decode cL_law 523 = .ok (.iconst 2, 1) := (zd_q5 zhL_law_416 85 35115040768 rfl rfl :)
theorem dL_law_524 : decode cL_law 524 = .ok (.iadd, 1) := (zd_q96 zhL_law_416 86 35188113408 rfl rfl :)
theorem dL_law_525 : decode cL_law 525 = .ok (.iaload, 1) := (zd_q46 zhL_law_416 87 35251945472 rfl rfl :)
theorem dL_law_526 : decode cL_law 526 = .ok (.invokevirtual 62, 3) := (zd_q182 zhL_law_416 88 35361521726 rfl rfl :)
theorem dL_law_529 : decode cL_law 529 = .ok (.pop, 1) := (zd_q87 zhL_law_416 89 35523067904 rfl rfl :)
theorem dL_law_530 : decode cL_law 530 = .ok (.aload_n 2, 1) := (zd_q44 zhL_law_416 90 35587358720 rfl rfl :)
theorem dL_law_531 : decode cL_law 531 = .ok (.aload_n 0, 1) := (zd_q42 zhL_law_416 91 35654336512 rfl rfl :)
theorem dL_law_532 : decode cL_law 532 = .ok (.iload_n 3, 1) := (zd_q29 zhL_law_416 92 35720593408 rfl rfl :)
theorem dL_law_533 : decode cL_law 533 = .ok (.iconst 1, 1) := (zd_q4 zhL_law_416 93 35786063872 rfl rfl :)
theorem dL_law_534 : decode cL_law 534 = .ok (.iadd, 1) := (zd_q96 zhL_law_416 94 35859202048 rfl rfl :)
theorem dL_law_535 : decode cL_law 535 = .ok (.iaload, 1) := (zd_q46 zhL_law_416 95 35923034112 rfl rfl :)
theorem dL_law_536 : decode cL_law 536 = .ok (.aload_n 0, 1) := (zd_q42 zhL_law_416 96 35989880832 rfl rfl :)
theorem dL_law_537 : decode cL_law 537 = .ok (.iload_n 3, 1) := (zd_q29 zhL_law_416 97 36056137728 rfl rfl :)
theorem dL_law_538 : decode cL_law 538 = .ok (.iconst 2, 1) := (zd_q5 zhL_law_416 98 36121673728 rfl rfl :)
theorem dL_law_539 : decode cL_law 539 = .ok (.iadd, 1) := (zd_q96 zhL_law_416 99 36194746368 rfl rfl :)
theorem dL_law_540 : decode cL_law 540 = .ok (.iaload, 1) := (zd_q46 zhL_law_416 100 36258578432 rfl rfl :)
theorem dL_law_541 : decode cL_law 541 = .ok (.invokevirtual 65, 3) := (zd_q182 zhL_law_416 101 36368154689 rfl rfl :)
theorem dL_law_544 : decode cL_law 544 = .ok (.pop, 1) := (zd_q87 zhL_law_416 102 36529700864 rfl rfl :)
theorem dL_law_545 : decode cL_law 545 = .ok (.goto 720, 3) := (zd_q167 zhL_law_416 103 36635607760 rfl rfl :)
theorem dL_law_548 : decode cL_law 548 = .ok (.aload_n 1, 1) := (zd_q43 zhL_law_416 104 36795252736 rfl rfl :)
theorem dL_law_549 : decode cL_law 549 = .ok (.aload_n 0, 1) := (zd_q42 zhL_law_416 105 36862296064 rfl rfl :)
theorem dL_law_550 : decode cL_law 550 = .ok (.iload_n 3, 1) := (zd_q29 zhL_law_416 106 36928552960 rfl rfl :)
theorem dL_law_551 : decode cL_law 551 = .ok (.iconst 1, 1) := (zd_q4 zhL_law_416 107 36994023424 rfl rfl :)
theorem dL_law_552 : decode cL_law 552 = .ok (.iadd, 1) := (zd_q96 zhL_law_416 108 37067161600 rfl rfl :)
theorem dL_law_553 : decode cL_law 553 = .ok (.iaload, 1) := (zd_q46 zhL_law_416 109 37130993664 rfl rfl :)
theorem dL_law_554 : decode cL_law 554 = .ok (.aload_n 0, 1) := (zd_q42 zhL_law_416 110 37197840384 rfl rfl :)
theorem dL_law_555 : decode cL_law 555 = .ok (.iload_n 3, 1) := (zd_q29 zhL_law_416 111 37264097280 rfl rfl :)
theorem dL_law_556 : decode cL_law 556 = .ok (.iconst 2, 1) := (zd_q5 zhL_law_416 112 37329633280 rfl rfl :)
theorem dL_law_557 : decode cL_law 557 = .ok (.iadd, 1) := (zd_q96 zhL_law_416 113 37402705920 rfl rfl :)
theorem dL_law_558 : decode cL_law 558 = .ok (.iaload, 1) := (zd_q46 zhL_law_416 114 37466537984 rfl rfl :)
theorem dL_law_559 : decode cL_law 559 = .ok (.aload_n 0, 1) := (zd_q42 zhL_law_416 115 37533384704 rfl rfl :)
theorem dL_law_560 : decode cL_law 560 = .ok (.iload_n 3, 1) := (zd_q29 zhL_law_416 116 37599641600 rfl rfl :)
theorem dL_law_561 : decode cL_law 561 = .ok (.iconst 3, 1) := (zd_q6 zhL_law_416 117 37665243136 rfl rfl :)
theorem dL_law_562 : decode cL_law 562 = .ok (.iadd, 1) := (zd_q96 zhL_law_416 118 37738250240 rfl rfl :)
theorem dL_law_563 : decode cL_law 563 = .ok (.iaload, 1) := (zd_q46 zhL_law_416 119 37802082304 rfl rfl :)
theorem dL_law_564 : decode cL_law 564 = .ok (.invokevirtual 66, 3) := (zd_q182 zhL_law_416 120 37911658562 rfl rfl :)
theorem dL_law_567 : decode cL_law 567 = .ok (.pop, 1) := (zd_q87 zhL_law_416 121 38073204736 rfl rfl :)
theorem dL_law_568 : decode cL_law 568 = .ok (.aload_n 2, 1) := (zd_q44 zhL_law_416 122 38137495552 rfl rfl :)
theorem dL_law_569 : decode cL_law 569 = .ok (.aload_n 0, 1) := (zd_q42 zhL_law_416 123 38204473344 rfl rfl :)
theorem dL_law_570 : decode cL_law 570 = .ok (.iload_n 3, 1) := (zd_q29 zhL_law_416 124 38270730240 rfl rfl :)
theorem dL_law_571 : decode cL_law 571 = .ok (.iconst 1, 1) := (zd_q4 zhL_law_416 125 38336200704 rfl rfl :)
theorem dL_law_572 : decode cL_law 572 = .ok (.iadd, 1) := (zd_q96 zhL_law_416 126 38409338880 rfl rfl :)
theorem dL_law_573 : decode cL_law 573 = .ok (.iaload, 1) := (zd_q46 zhL_law_416 127 38473170944 rfl rfl :)
theorem dL_law_574 : decode cL_law 574 = .ok (.aload_n 0, 1) := (zd_q42 zhL_law_416 128 38540017664 rfl rfl :)
theorem dL_law_575 : decode cL_law 575 = .ok (.iload_n 3, 1) := (zd_q29 zhL_law_416 129 38606274560 rfl rfl :)
theorem dL_law_576 : decode cL_law 576 = .ok (.iconst 2, 1) := (zd_q5 zhL_law_416 130 38671810560 rfl rfl :)
theorem dL_law_577 : decode cL_law 577 = .ok (.iadd, 1) := (zd_q96 zhL_law_416 131 38744883200 rfl rfl :)
theorem dL_law_578 : decode cL_law 578 = .ok (.iaload, 1) := (zd_q46 zhL_law_416 132 38808715264 rfl rfl :)
theorem dL_law_579 : decode cL_law 579 = .ok (.aload_n 0, 1) := (zd_q42 zhL_law_416 133 38875561984 rfl rfl :)
theorem dL_law_580 : decode cL_law 580 = .ok (.iload_n 3, 1) := (zd_q29 zhL_law_416 134 38941818880 rfl rfl :)
theorem dL_law_581 : decode cL_law 581 = .ok (.iconst 3, 1) := (zd_q6 zhL_law_416 135 39007420416 rfl rfl :)
theorem dL_law_582 : decode cL_law 582 = .ok (.iadd, 1) := (zd_q96 zhL_law_416 136 39080427520 rfl rfl :)
theorem dL_law_583 : decode cL_law 583 = .ok (.iaload, 1) := (zd_q46 zhL_law_416 137 39144259584 rfl rfl :)
theorem dL_law_584 : decode cL_law 584 = .ok (.invokevirtual 69, 3) := (zd_q182 zhL_law_416 138 39253835845 rfl rfl :)
theorem dL_law_587 : decode cL_law 587 = .ok (.pop, 1) := (zd_q87 zhL_law_416 139 39415382016 rfl rfl :)
theorem dL_law_588 : decode cL_law 588 = .ok (.goto 677, 3) := (zd_q167 zhL_law_416 140 39521288869 rfl rfl :)
theorem dL_law_591 : decode cL_law 591 = .ok (.aload_n 1, 1) := (zd_q43 zhL_law_416 141 39680933888 rfl rfl :)
theorem dL_law_592 : decode cL_law 592 = .ok (.aload_n 0, 1) := (zd_q42 zhL_law_416 142 39747977216 rfl rfl :)
theorem dL_law_593 : decode cL_law 593 = .ok (.iload_n 3, 1) := (zd_q29 zhL_law_416 143 39814234112 rfl rfl :)
theorem dL_law_594 : decode cL_law 594 = .ok (.iconst 1, 1) := (zd_q4 zhL_law_416 144 39879704576 rfl rfl :)
theorem dL_law_595 : decode cL_law 595 = .ok (.iadd, 1) := (zd_q96 zhL_law_416 145 39952842752 rfl rfl :)
theorem dL_law_596 : decode cL_law 596 = .ok (.iaload, 1) := (zd_q46 zhL_law_416 146 40016674816 rfl rfl :)
theorem dL_law_597 : decode cL_law 597 = .ok (.aload_n 0, 1) := (zd_q42 zhL_law_416 147 40083521536 rfl rfl :)
theorem dL_law_598 : decode cL_law 598 = .ok (.iload_n 3, 1) := (zd_q29 zhL_law_416 148 40149778432 rfl rfl :)
theorem dL_law_599 : decode cL_law 599 = .ok (.iconst 2, 1) := (zd_q5 zhL_law_416 149 40215314432 rfl rfl :)
theorem dL_law_600 : decode cL_law 600 = .ok (.iadd, 1) := (zd_q96 zhL_law_416 150 40288387072 rfl rfl :)
theorem dL_law_601 : decode cL_law 601 = .ok (.iaload, 1) := (zd_q46 zhL_law_416 151 40352219136 rfl rfl :)
theorem dL_law_602 : decode cL_law 602 = .ok (.aload_n 0, 1) := (zd_q42 zhL_law_416 152 40419065856 rfl rfl :)
theorem dL_law_603 : decode cL_law 603 = .ok (.iload_n 3, 1) := (zd_q29 zhL_law_416 153 40485322752 rfl rfl :)
theorem dL_law_604 : decode cL_law 604 = .ok (.iconst 3, 1) := (zd_q6 zhL_law_416 154 40550924288 rfl rfl :)
theorem dL_law_605 : decode cL_law 605 = .ok (.iadd, 1) := (zd_q96 zhL_law_416 155 40623931392 rfl rfl :)
theorem dL_law_606 : decode cL_law 606 = .ok (.iaload, 1) := (zd_q46 zhL_law_416 156 40687763456 rfl rfl :)
theorem dL_law_607 : decode cL_law 607 = .ok (.invokevirtual 70, 3) := (zd_q182 zhL_law_416 157 40797339718 rfl rfl :)
theorem dL_law_610 : decode cL_law 610 = .ok (.pop, 1) := (zd_q87 zhL_law_416 158 40958885888 rfl rfl :)
theorem dL_law_611 : decode cL_law 611 = .ok (.aload_n 2, 1) := (zd_q44 zhL_law_416 159 41023176704 rfl rfl :)
theorem dL_law_612 : decode cL_law 612 = .ok (.aload_n 0, 1) := (zd_q42 zhL_law_416 160 41090154496 rfl rfl :)
theorem dL_law_613 : decode cL_law 613 = .ok (.iload_n 3, 1) := (zd_q29 zhL_law_416 161 41156411392 rfl rfl :)
theorem dL_law_614 : decode cL_law 614 = .ok (.iconst 1, 1) := (zd_q4 zhL_law_416 162 41221881856 rfl rfl :)
theorem dL_law_615 : decode cL_law 615 = .ok (.iadd, 1) := (zd_q96 zhL_law_416 163 41295020032 rfl rfl :)
theorem dL_law_616 : decode cL_law 616 = .ok (.iaload, 1) := (zd_q46 zhL_law_416 164 41358852096 rfl rfl :)
theorem dL_law_617 : decode cL_law 617 = .ok (.aload_n 0, 1) := (zd_q42 zhL_law_416 165 41425698816 rfl rfl :)
theorem dL_law_618 : decode cL_law 618 = .ok (.iload_n 3, 1) := (zd_q29 zhL_law_416 166 41491955712 rfl rfl :)
theorem dL_law_619 : decode cL_law 619 = .ok (.iconst 2, 1) := (zd_q5 zhL_law_416 167 41557491712 rfl rfl :)
theorem dL_law_620 : decode cL_law 620 = .ok (.iadd, 1) := (zd_q96 zhL_law_416 168 41630564352 rfl rfl :)
theorem dL_law_621 : decode cL_law 621 = .ok (.iaload, 1) := (zd_q46 zhL_law_416 169 41694396416 rfl rfl :)
theorem dL_law_622 : decode cL_law 622 = .ok (.aload_n 0, 1) := (zd_q42 zhL_law_416 170 41761243136 rfl rfl :)
theorem dL_law_623 : decode cL_law 623 = .ok (.iload_n 3, 1) := (zd_q29 zhL_law_416 171 41827500032 rfl rfl :)
theorem dL_law_624 : decode cL_law 624 = .ok (.iconst 3, 1) := (zd_q6 zhL_law_416 172 41893101568 rfl rfl :)
theorem dL_law_625 : decode cL_law 625 = .ok (.iadd, 1) := (zd_q96 zhL_law_416 173 41966108672 rfl rfl :)
theorem dL_law_626 : decode cL_law 626 = .ok (.iaload, 1) := (zd_q46 zhL_law_416 174 42029940736 rfl rfl :)
theorem dL_law_627 : decode cL_law 627 = .ok (.invokevirtual 73, 3) := (zd_q182 zhL_law_416 175 42139517001 rfl rfl :)
theorem dL_law_630 : decode cL_law 630 = .ok (.pop, 1) := (zd_q87 zhL_law_416 176 42301063168 rfl rfl :)
theorem dL_law_631 : decode cL_law 631 = .ok (.goto 634, 3) := (zd_q167 zhL_law_416 177 42406969978 rfl rfl :)
theorem dL_law_634 : decode cL_law 634 = .ok (.aload_n 1, 1) := (zd_q43 zhL_law_416 178 42566615040 rfl rfl :)
theorem dL_law_635 : decode cL_law 635 = .ok (.aload_n 0, 1) := (zd_q42 zhL_law_416 179 42633658368 rfl rfl :)
theorem dL_law_636 : decode cL_law 636 = .ok (.iload_n 3, 1) := (zd_q29 zhL_law_416 180 42699915264 rfl rfl :)
theorem dL_law_637 : decode cL_law 637 = .ok (.iconst 1, 1) := (zd_q4 zhL_law_416 181 42765385728 rfl rfl :)
theorem dL_law_638 : decode cL_law 638 = .ok (.iadd, 1) := (zd_q96 zhL_law_416 182 42838523904 rfl rfl :)
theorem dL_law_639 : decode cL_law 639 = .ok (.iaload, 1) := (zd_q46 zhL_law_416 183 42902355968 rfl rfl :)
theorem dL_law_640 : decode cL_law 640 = .ok (.aload_n 0, 1) := (zd_q42 zhL_law_416 184 42969202688 rfl rfl :)
theorem dL_law_641 : decode cL_law 641 = .ok (.iload_n 3, 1) := (zd_q29 zhL_law_416 185 43035459584 rfl rfl :)
theorem dL_law_642 : decode cL_law 642 = .ok (.iconst 2, 1) := (zd_q5 zhL_law_416 186 43100995584 rfl rfl :)
theorem dL_law_643 : decode cL_law 643 = .ok (.iadd, 1) := (zd_q96 zhL_law_416 187 43174068224 rfl rfl :)
theorem dL_law_644 : decode cL_law 644 = .ok (.iaload, 1) := (zd_q46 zhL_law_416 188 43237900288 rfl rfl :)
theorem dL_law_645 : decode cL_law 645 = .ok (.invokevirtual 74, 3) := (zd_q182 zhL_law_416 189 43347476554 rfl rfl :)
theorem dL_law_648 : decode cL_law 648 = .ok (.pop, 1) := (zd_q87 zhL_law_416 190 43509022720 rfl rfl :)
theorem dL_law_649 : decode cL_law 649 = .ok (.aload_n 2, 1) := (zd_q44 zhL_law_416 191 43573313536 rfl rfl :)
theorem dL_law_650 : decode cL_law 650 = .ok (.aload_n 0, 1) := (zd_q42 zhL_law_416 192 43640291328 rfl rfl :)
theorem dL_law_651 : decode cL_law 651 = .ok (.iload_n 3, 1) := (zd_q29 zhL_law_416 193 43706548224 rfl rfl :)
theorem dL_law_652 : decode cL_law 652 = .ok (.iconst 1, 1) := (zd_q4 zhL_law_416 194 43772018688 rfl rfl :)
theorem dL_law_653 : decode cL_law 653 = .ok (.iadd, 1) := (zd_q96 zhL_law_416 195 43845156864 rfl rfl :)
theorem dL_law_654 : decode cL_law 654 = .ok (.iaload, 1) := (zd_q46 zhL_law_416 196 43908988928 rfl rfl :)
theorem dL_law_655 : decode cL_law 655 = .ok (.aload_n 0, 1) := (zd_q42 zhL_law_416 197 43975835648 rfl rfl :)
theorem dL_law_656 : decode cL_law 656 = .ok (.iload_n 3, 1) := (zd_q29 zhL_law_416 198 44042092544 rfl rfl :)
theorem dL_law_657 : decode cL_law 657 = .ok (.iconst 2, 1) := (zd_q5 zhL_law_416 199 44107628544 rfl rfl :)
def ziL_law_658 : Nat := 9516396907285374233851907325925000494330290621091404459597791184265968862559220226875405188432252825074932746410067640561318160724822602570394225406500046009818804058367778057913818882229764613486903631846620036438493234766360267894831285642691925118335031686599576836201551224715094994569755084671714919054421757142785876598863136205922076198736813249432308250440405697342292404552048971868079085175934169044313176820751617307464862039770690729010824475115632400166506271798693110752797267294233807180824278078017524418163477559057458648632740821568852076262589339060404717566423734532374199332302945433618232321606585730466747239969469250939796245052158080093853326001474214298655561665917230641366230803636286611391254251326336210830781503484524004416647013698917827946581246206250829039654492557219872992409707635641444026641140170488190914780325207937326384052886013869652249320886829445529265218447813912101496922494927191000664098825757930596247190463243955287819392058004351075268453277405459291847886704794365268999438119231213093623812817733703748010755867524913618696907514218690617639003495014317020891205480861701058370693706854333724357032660822726098385757047893981044697014131541604439228815331209932681722439237730932257923976594524032441877517599118328391392152167982945161993608821182509176166235504096589410082628958500621850326553696004405292768758492475654200376947786153175694962923703046859030291710477604253184564110338873776330718483346511813137707123040873452627673856634482245711489819300978773623378074970906650001157470524584945713110688465092497591789968963041450427555421084020367748968854874362772670821988734701159573188303383951273573135829049797876166668414794418491786692031329153798479223091437833817326102834731259913771027595683828852738927456390572423088969107650827415164071842233369145006029200533194805541546222193656419609905004020620762210389667226202207609629129757559392163495409815590288098691724259061464209678781750568354055476636737575864269350314089883218350927057398903284530518669641447459602625814746403548061031284997568468407580637013179093501852431446123062470150822502250240921841010933599074315240674119925433172103060333543704039753669103464322021969706935188686669678277174752634087302393145415924580950654172475471357435491916902369911705468073594662103664536195506271078775223808537409995637894568235072580243675110708118311286923965700767744
theorem zhL_law_658 : zd_chkB (cL_law.data.toList.drop 658) 658 200 ziL_law_658 = true := by decide +kernel
theorem dL_law_658 : decode cL_law 658 = .ok (.iadd, 1) := (zd_q96 zhL_law_658 0 44180701184 rfl rfl :)
theorem dL_law_659 : decode cL_law 659 = .ok (.iaload, 1) := (zd_q46 zhL_law_658 1 44244533248 rfl rfl :)
theorem dL_law_660 : decode cL_law 660 = .ok (.invokevirtual 77, 3) := (zd_q182 zhL_law_658 2 44354109517 rfl rfl :)
theorem dL_law_663 : decode cL_law 663 = .ok (.pop, 1) := (zd_q87 zhL_law_658 3 44515655680 rfl rfl :)
theorem dL_law_664 : decode cL_law 664 = .ok (.goto 601, 3) := (zd_q167 zhL_law_658 4 44621562457 rfl rfl :)
theorem dL_law_667 : decode cL_law 667 = .ok (.aload_n 1, 1) := (zd_q43 zhL_law_658 5 44781207552 rfl rfl :)
theorem dL_law_668 : decode cL_law 668 = .ok (.aload_n 0, 1) := (zd_q42 zhL_law_658 6 44848250880 rfl rfl :)
theorem dL_law_669 : decode cL_law 669 = .ok (.iload_n 3, 1) := (zd_q29 zhL_law_658 7 44914507776 rfl rfl :)
theorem dL_law_670 : decode cL_law 670 = .ok (.iconst 1, 1) := (zd_q4 zhL_law_658 8 44979978240 rfl rfl :)
theorem dL_law_671 : decode cL_law 671 = .ok (.iadd, 1) := (zd_q96 zhL_law_658 9 45053116416 rfl rfl :)
theorem dL_law_672 : decode cL_law 672 = .ok (.iaload, 1) := (zd_q46 zhL_law_658 10 45116948480 rfl rfl :)
theorem dL_law_673 : decode cL_law 673 = .ok (.aload_n 0, 1) := (zd_q42 zhL_law_658 11 45183795200 rfl rfl :)
theorem dL_law_674 : decode cL_law 674 = .ok (.iload_n 3, 1) := (zd_q29 zhL_law_658 12 45250052096 rfl rfl :)
theorem dL_law_675 : decode cL_law 675 = .ok (.iconst 2, 1) := (zd_q5 zhL_law_658 13 45315588096 rfl rfl :)
theorem dL_law_676 : decode cL_law 676 = .ok (.iadd, 1) := (zd_q96 zhL_law_658 14 45388660736 rfl rfl :)
theorem dL_law_677 : decode cL_law 677 = .ok (.iaload, 1) := (zd_q46 zhL_law_658 15 45452492800 rfl rfl :)
theorem dL_law_678 : decode cL_law 678 = .ok (.aload_n 0, 1) := (zd_q42 zhL_law_658 16 45519339520 rfl rfl :)
theorem dL_law_679 : decode cL_law 679 = .ok (.iload_n 3, 1) := (zd_q29 zhL_law_658 17 45585596416 rfl rfl :)
theorem dL_law_680 : decode cL_law 680 = .ok (.iconst 3, 1) := (zd_q6 zhL_law_658 18 45651197952 rfl rfl :)
theorem dL_law_681 : decode cL_law 681 = .ok (.iadd, 1) := (zd_q96 zhL_law_658 19 45724205056 rfl rfl :)
theorem dL_law_682 : decode cL_law 682 = .ok (.iaload, 1) := (zd_q46 zhL_law_658 20 45788037120 rfl rfl :)
theorem dL_law_683 : decode cL_law 683 = .ok (.invokevirtual 78, 3) := (zd_q182 zhL_law_658 21 45897613390 rfl rfl :)
theorem dL_law_686 : decode cL_law 686 = .ok (.pop, 1) := (zd_q87 zhL_law_658 22 46059159552 rfl rfl :)
theorem dL_law_687 : decode cL_law 687 = .ok (.aload_n 2, 1) := (zd_q44 zhL_law_658 23 46123450368 rfl rfl :)
theorem dL_law_688 : decode cL_law 688 = .ok (.aload_n 0, 1) := (zd_q42 zhL_law_658 24 46190428160 rfl rfl :)
theorem dL_law_689 : decode cL_law 689 = .ok (.iload_n 3, 1) := (zd_q29 zhL_law_658 25 46256685056 rfl rfl :)
theorem dL_law_690 : decode cL_law 690 = .ok (.iconst 1, 1) := (zd_q4 zhL_law_658 26 46322155520 rfl rfl :)
theorem dL_law_691 : decode cL_law 691 = .ok (.iadd, 1) := (zd_q96 zhL_law_658 27 46395293696 rfl rfl :)
theorem dL_law_692 : decode cL_law 692 = .ok (.iaload, 1) := (zd_q46 zhL_law_658 28 46459125760 rfl rfl :)
theorem dL_law_693 : decode cL_law 693 = .ok (.aload_n 0, 1) := (zd_q42 zhL_law_658 29 46525972480 rfl rfl :)
theorem dL_law_694 : decode cL_law 694 = .ok (.iload_n 3, 1) := (zd_q29 zhL_law_658 30 46592229376 rfl rfl :)
theorem dL_law_695 : decode cL_law 695 = .ok (.iconst 2, 1) := (zd_q5 zhL_law_658 31 46657765376 rfl rfl :)
theorem dL_law_696 : decode cL_law 696 = .ok (.iadd, 1) := (zd_q96 zhL_law_658 32 46730838016 rfl rfl :)
theorem dL_law_697 : decode cL_law 697 = .ok (.iaload, 1) := (zd_q46 zhL_law_658 33 46794670080 rfl rfl :)
theorem dL_law_698 : decode cL_law 698 = .ok (.aload_n 0, 1) := (zd_q42 zhL_law_658 34 46861516800 rfl rfl :)
theorem dL_law_699 : decode cL_law 699 = .ok (.iload_n 3, 1) := (zd_q29 zhL_law_658 35 46927773696 rfl rfl :)
theorem dL_law_700 : decode cL_law 700 = .ok (.iconst 3, 1) := (zd_q6 zhL_law_658 36 46993375232 rfl rfl :)
theorem dL_law_701 : decode cL_law 701 = .ok (.iadd, 1) := (zd_q96 zhL_law_658 37 47066382336 rfl rfl :)
theorem dL_law_702 : decode cL_law 702 = .ok (.iaload, 1) := (zd_q46 zhL_law_658 38 47130214400 rfl rfl :)
theorem dL_law_703 : decode cL_law 703 = .ok (.invokevirtual 81, 3) := (zd_q182 zhL_law_658 39 47239790673 rfl rfl :)
theorem dL_law_706 : decode cL_law 706 = .ok (.pop, 1) := (zd_q87 zhL_law_658 40 47401336832 rfl rfl :)
theorem dL_law_707 : decode cL_law 707 = .ok (.goto 558, 3) := (zd_q167 zhL_law_658 41 47507243566 rfl rfl :)
theorem dL_law_710 : decode cL_law 710 = .ok (.aload_n 1, 1) := (zd_q43 zhL_law_658 42 47666888704 rfl rfl :)
theorem dL_law_711 : decode cL_law 711 = .ok (.aload_n 0, 1) := (zd_q42 zhL_law_658 43 47733932032 rfl rfl :)
theorem dL_law_712 : decode cL_law 712 = .ok (.iload_n 3, 1) := (zd_q29 zhL_law_658 44 47800188928 rfl rfl :)
theorem dL_law_713 : decode cL_law 713 = .ok (.iconst 1, 1) := (zd_q4 zhL_law_658 45 47865659392 rfl rfl :)
theorem dL_law_714 : decode cL_law 714 = .ok (.iadd, 1) := (zd_q96 zhL_law_658 46 47938797568 rfl rfl :)
theorem dL_law_715 : decode cL_law 715 = .ok (.iaload, 1) := (zd_q46 zhL_law_658 47 48002629632 rfl rfl :)
theorem dL_law_716 : decode cL_law 716 = .ok (.aload_n 0, 1) := (zd_q42 zhL_law_658 48 48069476352 rfl rfl :)
theorem dL_law_717 : decode cL_law 717 = .ok (.iload_n 3, 1) := (zd_q29 zhL_law_658 49 48135733248 rfl rfl :)
theorem dL_law_718 : decode cL_law 718 = .ok (.iconst 2, 1) := (zd_q5 zhL_law_658 50 48201269248 rfl rfl :)
theorem dL_law_719 : decode cL_law 719 = .ok (.iadd, 1) := (zd_q96 zhL_law_658 51 48274341888 rfl rfl :)
theorem dL_law_720 : decode cL_law 720 = .ok (.iaload, 1) := (zd_q46 zhL_law_658 52 48338173952 rfl rfl :)
theorem dL_law_721 : decode cL_law 721 = .ok (.invokevirtual 82, 3) := (zd_q182 zhL_law_658 53 48447750226 rfl rfl :)
theorem dL_law_724 : decode cL_law 724 = .ok (.pop, 1) := (zd_q87 zhL_law_658 54 48609296384 rfl rfl :)
theorem dL_law_725 : decode cL_law 725 = .ok (.aload_n 2, 1) := (zd_q44 zhL_law_658 55 48673587200 rfl rfl :)
theorem dL_law_726 : decode cL_law 726 = .ok (.aload_n 0, 1) := (zd_q42 zhL_law_658 56 48740564992 rfl rfl :)
theorem dL_law_727 : decode cL_law 727 = .ok (.iload_n 3, 1) := (zd_q29 zhL_law_658 57 48806821888 rfl rfl :)
theorem dL_law_728 : decode cL_law 728 = .ok (.iconst 1, 1) := (zd_q4 zhL_law_658 58 48872292352 rfl rfl :)
theorem dL_law_729 : decode cL_law 729 = .ok (.iadd, 1) := (zd_q96 zhL_law_658 59 48945430528 rfl rfl :)
theorem dL_law_730 : decode cL_law 730 = .ok (.iaload, 1) := (zd_q46 zhL_law_658 60 49009262592 rfl rfl :)
theorem dL_law_731 : decode cL_law 731 = .ok (.aload_n 0, 1) := (zd_q42 zhL_law_658 61 49076109312 rfl rfl :)
theorem dL_law_732 : decode cL_law 732 = .ok (.iload_n 3, 1) := (zd_q29 zhL_law_658 62 49142366208 rfl rfl :)
theorem dL_law_733 : decode cL_law 733 = .ok (.iconst 2, 1) := (zd_q5 zhL_law_658 63 49207902208 rfl rfl :)
theorem dL_law_734 : decode cL_law 734 = .ok (.iadd, 1) := (zd_q96 zhL_law_658 64 49280974848 rfl rfl :)
theorem dL_law_735 : decode cL_law 735 = .ok (.iaload, 1) := (zd_q46 zhL_law_658 65 49344806912 rfl rfl :)
theorem dL_law_736 : decode cL_law 736 = .ok (.invokevirtual 85, 3) := (zd_q182 zhL_law_658 66 49454383189 rfl rfl :)
theorem dL_law_739 : decode cL_law 739 = .ok (.pop, 1) := (zd_q87 zhL_law_658 67 49615929344 rfl rfl :)
theorem dL_law_740 : decode cL_law 740 = .ok (.goto 525, 3) := (zd_q167 zhL_law_658 68 49721836045 rfl rfl :)
theorem dL_law_743 : decode cL_law 743 = .ok (.aload_n 1, 1) := (zd_q43 zhL_law_658 69 49881481216 rfl rfl :)
theorem dL_law_744 : decode cL_law 744 = .ok (.aload_n 0, 1) := (zd_q42 zhL_law_658 70 49948524544 rfl rfl :)
theorem dL_law_745 : decode cL_law 745 = .ok (.iload_n 3, 1) := (zd_q29 zhL_law_658 71 50014781440 rfl rfl :)
theorem dL_law_746 : decode cL_law 746 = .ok (.iconst 1, 1) := (zd_q4 zhL_law_658 72 50080251904 rfl rfl :)
theorem dL_law_747 : decode cL_law 747 = .ok (.iadd, 1) := (zd_q96 zhL_law_658 73 50153390080 rfl rfl :)
theorem dL_law_748 : decode cL_law 748 = .ok (.iaload, 1) := (zd_q46 zhL_law_658 74 50217222144 rfl rfl :)
theorem dL_law_749 : decode cL_law 749 = .ok (.aload_n 0, 1) := (zd_q42 zhL_law_658 75 50284068864 rfl rfl :)
theorem dL_law_750 : decode cL_law 750 = .ok (.iload_n 3, 1) := (zd_q29 zhL_law_658 76 50350325760 rfl rfl :)
theorem dL_law_751 : decode cL_law 751 = .ok (.iconst 2, 1) := (zd_q5 zhL_law_658 77 50415861760 rfl rfl :)
theorem dL_law_752 : decode cL_law 752 = .ok (.iadd, 1) := (zd_q96 zhL_law_658 78 50488934400 rfl rfl :)
theorem dL_law_753 : decode cL_law 753 = .ok (.iaload, 1) := (zd_q46 zhL_law_658 79 50552766464 rfl rfl :)
theorem dL_law_754 : decode cL_law 754 = .ok (.invokevirtual 86, 3) := (zd_q182 zhL_law_658 80 50662342742 rfl rfl :)
theorem dL_law_757 : decode cL_law 757 = .ok (.pop, 1) := (zd_q87 zhL_law_658 81 50823888896 rfl rfl :)
theorem dL_law_758 : decode cL_law 758 = .ok (.aload_n 2, 1) := (zd_q44 zhL_law_658 82 50888179712 rfl rfl :)
theorem dL_law_759 : decode cL_law 759 = .ok (.aload_n 0, 1) := (zd_q42 zhL_law_658 83 50955157504 rfl rfl :)
theorem dL_law_760 : decode cL_law 760 = .ok (.iload_n 3, 1) := (zd_q29 zhL_law_658 84 51021414400 rfl rfl :)
theorem dL_law_761 : decode cL_law 761 = .ok (.iconst 1, 1) := (zd_q4 zhL_law_658 85 51086884864 rfl rfl :)
theorem dL_law_762 : decode cL_law 762 = .ok (.iadd, 1) := (zd_q96 zhL_law_658 86 51160023040 rfl rfl :)
theorem dL_law_763 : decode cL_law 763 = .ok (.iaload, 1) := (zd_q46 zhL_law_658 87 51223855104 rfl rfl :)
theorem dL_law_764 : decode cL_law 764 = .ok (.aload_n 0, 1) := (zd_q42 zhL_law_658 88 51290701824 rfl rfl :)
theorem dL_law_765 : decode cL_law 765 = .ok (.iload_n 3, 1) := (zd_q29 zhL_law_658 89 51356958720 rfl rfl :)
theorem dL_law_766 : decode cL_law 766 = .ok (.iconst 2, 1) := (zd_q5 zhL_law_658 90 51422494720 rfl rfl :)
theorem dL_law_767 : decode cL_law 767 = .ok (.iadd, 1) := (zd_q96 zhL_law_658 91 51495567360 rfl rfl :)
theorem dL_law_768 : decode cL_law 768 = .ok (.iaload, 1) := (zd_q46 zhL_law_658 92 51559399424 rfl rfl :)
theorem dL_law_769 : decode cL_law 769 = .ok (.invokevirtual 89, 3) := (zd_q182 zhL_law_658 93 51668975705 rfl rfl :)
theorem dL_law_772 : decode cL_law 772 = .ok (.pop, 1) := (zd_q87 zhL_law_658 94 51830521856 rfl rfl :)
theorem dL_law_773 : decode cL_law 773 = .ok (.goto 492, 3) := (zd_q167 zhL_law_658 95 51936428524 rfl rfl :)
theorem dL_law_776 : decode cL_law 776 = .ok (.aload_n 1, 1) := (zd_q43 zhL_law_658 96 52096073728 rfl rfl :)
theorem dL_law_777 : decode cL_law 777 = .ok (.aload_n 0, 1) := (zd_q42 zhL_law_658 97 52163117056 rfl rfl :)
theorem dL_law_778 : decode cL_law 778 = .ok (.iload_n 3, 1) := (zd_q29 zhL_law_658 98 52229373952 rfl rfl :)
theorem dL_law_779 : decode cL_law 779 = .ok (.iconst 1, 1) := (zd_q4 zhL_law_658 99 52294844416 rfl rfl :)
theorem dL_law_780 : decode cL_law 780 = .ok (.iadd, 1) := (zd_q96 zhL_law_658 100 52367982592 rfl rfl :)
theorem dL_law_781 : decode cL_law 781 = .ok (.iaload, 1) := (zd_q46 zhL_law_658 101 52431814656 rfl rfl :)
theorem dL_law_782 : decode cL_law 782 = .ok (.aload_n 0, 1) := (zd_q42 zhL_law_658 102 52498661376 rfl rfl :)
theorem dL_law_783 : decode cL_law 783 = .ok (.iload_n 3, 1) := (zd_q29 zhL_law_658 103 52564918272 rfl rfl :)
theorem dL_law_784 : decode cL_law 784 = .ok (.iconst 2, 1) := (zd_q5 zhL_law_658 104 52630454272 rfl rfl :)
theorem dL_law_785 : decode cL_law 785 = .ok (.iadd, 1) := (zd_q96 zhL_law_658 105 52703526912 rfl rfl :)
theorem dL_law_786 : decode cL_law 786 = .ok (.iaload, 1) := (zd_q46 zhL_law_658 106 52767358976 rfl rfl :)
theorem dL_law_787 : decode cL_law 787 = .ok (.invokevirtual 90, 3) := (zd_q182 zhL_law_658 107 52876935258 rfl rfl :)
theorem dL_law_790 : decode cL_law 790 = .ok (.pop, 1) := (zd_q87 zhL_law_658 108 53038481408 rfl rfl :)
theorem dL_law_791 : decode cL_law 791 = .ok (.aload_n 2, 1) := (zd_q44 zhL_law_658 109 53102772224 rfl rfl :)
theorem dL_law_792 : decode cL_law 792 = .ok (.aload_n 0, 1) := (zd_q42 zhL_law_658 110 53169750016 rfl rfl :)
theorem dL_law_793 : decode cL_law 793 = .ok (.iload_n 3, 1) := (zd_q29 zhL_law_658 111 53236006912 rfl rfl :)
theorem dL_law_794 : decode cL_law 794 = .ok (.iconst 1, 1) := (zd_q4 zhL_law_658 112 53301477376 rfl rfl :)
theorem dL_law_795 : decode cL_law 795 = .ok (.iadd, 1) := (zd_q96 zhL_law_658 113 53374615552 rfl rfl :)
theorem dL_law_796 : decode cL_law 796 = .ok (.iaload, 1) := (zd_q46 zhL_law_658 114 53438447616 rfl rfl :)
theorem dL_law_797 : decode cL_law 797 = .ok (.aload_n 0, 1) := (zd_q42 zhL_law_658 115 53505294336 rfl rfl :)
theorem dL_law_798 : decode cL_law 798 = .ok (.iload_n 3, 1) := (zd_q29 zhL_law_658 116 53571551232 rfl rfl :)
theorem dL_law_799 : decode cL_law 799 = .ok (.iconst 2, 1) := (zd_q5 zhL_law_658 117 53637087232 rfl rfl :)
theorem dL_law_800 : decode cL_law 800 = .ok (.iadd, 1) := (zd_q96 zhL_law_658 118 53710159872 rfl rfl :)
theorem dL_law_801 : decode cL_law 801 = .ok (.iaload, 1) := (zd_q46 zhL_law_658 119 53773991936 rfl rfl :)
theorem dL_law_802 : decode cL_law 802 = .ok (.invokevirtual 93, 3) := (zd_q182 zhL_law_658 120 53883568221 rfl rfl :)
theorem dL_law_805 : decode cL_law 805 = .ok (.pop, 1) := (zd_q87 zhL_law_658 121 54045114368 rfl rfl :)
theorem dL_law_806 : decode cL_law 806 = .ok (.goto 459, 3) := (zd_q167 zhL_law_658 122 54151021003 rfl rfl :)
theorem dL_law_809 : decode cL_law 809 = .ok (.aload_n 1, 1) := (zd_q43 zhL_law_658 123 54310666240 rfl rfl :)
theorem dL_law_810 : decode cL_law 810 = .ok (.aload_n 0, 1) := (zd_q42 zhL_law_658 124 54377709568 rfl rfl :)
theorem dL_law_811 : decode cL_law 811 = .ok (.iload_n 3, 1) := (zd_q29 zhL_law_658 125 54443966464 rfl rfl :)
theorem dL_law_812 : decode cL_law 812 = .ok (.iconst 1, 1) := (zd_q4 zhL_law_658 126 54509436928 rfl rfl :)
theorem dL_law_813 : decode cL_law 813 = .ok (.iadd, 1) := (zd_q96 zhL_law_658 127 54582575104 rfl rfl :)
theorem dL_law_814 : decode cL_law 814 = .ok (.iaload, 1) := (zd_q46 zhL_law_658 128 54646407168 rfl rfl :)
theorem dL_law_815 : decode cL_law 815 = .ok (.aload_n 0, 1) := (zd_q42 zhL_law_658 129 54713253888 rfl rfl :)
theorem dL_law_816 : decode cL_law 816 = .ok (.iload_n 3, 1) := (zd_q29 zhL_law_658 130 54779510784 rfl rfl :)
theorem dL_law_817 : decode cL_law 817 = .ok (.iconst 2, 1) := (zd_q5 zhL_law_658 131 54845046784 rfl rfl :)
theorem dL_law_818 : decode cL_law 818 = .ok (.iadd, 1) := (zd_q96 zhL_law_658 132 54918119424 rfl rfl :)
theorem dL_law_819 : decode cL_law 819 = .ok (.iaload, 1) := (zd_q46 zhL_law_658 133 54981951488 rfl rfl :)
theorem dL_law_820 : decode cL_law 820 = .ok (.aload_n 0, 1) := (zd_q42 zhL_law_658 134 55048798208 rfl rfl :)
theorem dL_law_821 : decode cL_law 821 = .ok (.iload_n 3, 1) := (zd_q29 zhL_law_658 135 55115055104 rfl rfl :)
theorem dL_law_822 : decode cL_law 822 = .ok (.iconst 3, 1) := (zd_q6 zhL_law_658 136 55180656640 rfl rfl :)
theorem dL_law_823 : decode cL_law 823 = .ok (.iadd, 1) := (zd_q96 zhL_law_658 137 55253663744 rfl rfl :)
theorem dL_law_824 : decode cL_law 824 = .ok (.iaload, 1) := (zd_q46 zhL_law_658 138 55317495808 rfl rfl :)
theorem dL_law_825 : decode cL_law 825 = .ok (.invokevirtual 94, 3) := (zd_q182 zhL_law_658 139 55427072094 rfl rfl :)
theorem dL_law_828 : decode cL_law 828 = .ok (.pop, 1) := (zd_q87 zhL_law_658 140 55588618240 rfl rfl :)
theorem dL_law_829 : decode cL_law 829 = .ok (.aload_n 2, 1) := (zd_q44 zhL_law_658 141 55652909056 rfl rfl :)
theorem dL_law_830 : decode cL_law 830 = .ok (.aload_n 0, 1) := (zd_q42 zhL_law_658 142 55719886848 rfl rfl :)
theorem dL_law_831 : decode cL_law 831 = .ok (.iload_n 3, 1) := (zd_q29 zhL_law_658 143 55786143744 rfl rfl :)
theorem dL_law_832 : decode cL_law 832 = .ok (.iconst 1, 1) := (zd_q4 zhL_law_658 144 55851614208 rfl rfl :)
theorem dL_law_833 : decode cL_law 833 = .ok (.iadd, 1) := (zd_q96 zhL_law_658 145 55924752384 rfl rfl :)
theorem dL_law_834 : decode cL_law 834 = .ok (.iaload, 1) := (zd_q46 zhL_law_658 146 55988584448 rfl rfl :)
theorem dL_law_835 : decode cL_law 835 = .ok (.aload_n 0, 1) := (zd_q42 zhL_law_658 147 56055431168 rfl rfl :)
theorem dL_law_836 : decode cL_law 836 = .ok (.iload_n 3, 1) := (zd_q29 zhL_law_658 148 56121688064 rfl rfl :)
theorem dL_law_837 : decode cL_law 837 = .ok (.iconst 2, 1) := (zd_q5 zhL_law_658 149 56187224064 rfl rfl :)
theorem dL_law_838 : decode cL_law 838 = .ok (.iadd, 1) := (zd_q96 zhL_law_658 150 56260296704 rfl rfl :)
theorem dL_law_839 : decode cL_law 839 = .ok (.iaload, 1) := (zd_q46 zhL_law_658 151 56324128768 rfl rfl :)
theorem dL_law_840 : decode cL_law 840 = .ok (.aload_n 0, 1) := (zd_q42 zhL_law_658 152 56390975488 rfl rfl :)
theorem dL_law_841 : decode cL_law 841 = .ok (.iload_n 3, 1) := (zd_q29 zhL_law_658 153 56457232384 rfl rfl :)
theorem dL_law_842 : decode cL_law 842 = .ok (.iconst 3, 1) := (zd_q6 zhL_law_658 154 56522833920 rfl rfl :)
theorem dL_law_843 : decode cL_law 843 = .ok (.iadd, 1) := (zd_q96 zhL_law_658 155 56595841024 rfl rfl :)
theorem dL_law_844 : decode cL_law 844 = .ok (.iaload, 1) := (zd_q46 zhL_law_658 156 56659673088 rfl rfl :)
theorem dL_law_845 : decode cL_law 845 = .ok (.invokevirtual 97, 3) := (zd_q182 zhL_law_658 157 56769249377 rfl rfl :)
theorem dL_law_848 : decode cL_law 848 = .ok (.pop, 1) := (zd_q87 zhL_law_658 158 56930795520 rfl rfl :)
theorem dL_law_849 : decode cL_law 849 = .ok (.goto 416, 3) := (zd_q167 zhL_law_658 159 57036702112 rfl rfl :)
theorem dL_law_852 : decode cL_law 852 = .ok (.aload_n 1, 1) := (zd_q43 zhL_law_658 160 57196347392 rfl rfl :)
theorem dL_law_853 : decode cL_law 853 = .ok (.aload_n 0, 1) := (zd_q42 zhL_law_658 161 57263390720 rfl rfl :)
theorem dL_law_854 : decode cL_law 854 = .ok (.iload_n 3, 1) := (zd_q29 zhL_law_658 162 57329647616 rfl rfl :)
theorem dL_law_855 : decode cL_law 855 = .ok (.iconst 1, 1) := (zd_q4 zhL_law_658 163 57395118080 rfl rfl :)
theorem dL_law_856 : decode cL_law 856 = .ok (.iadd, 1) := (zd_q96 zhL_law_658 164 57468256256 rfl rfl :)
theorem dL_law_857 : decode cL_law 857 = .ok (.iaload, 1) := (zd_q46 zhL_law_658 165 57532088320 rfl rfl :)
theorem dL_law_858 : decode cL_law 858 = .ok (.aload_n 0, 1) := (zd_q42 zhL_law_658 166 57598935040 rfl rfl :)
theorem dL_law_859 : decode cL_law 859 = .ok (.iload_n 3, 1) := (zd_q29 zhL_law_658 167 57665191936 rfl rfl :)
theorem dL_law_860 : decode cL_law 860 = .ok (.iconst 2, 1) := (zd_q5 zhL_law_658 168 57730727936 rfl rfl :)
theorem dL_law_861 : decode cL_law 861 = .ok (.iadd, 1) := (zd_q96 zhL_law_658 169 57803800576 rfl rfl :)
theorem dL_law_862 : decode cL_law 862 = .ok (.iaload, 1) := (zd_q46 zhL_law_658 170 57867632640 rfl rfl :)
theorem dL_law_863 : decode cL_law 863 = .ok (.invokevirtual 98, 3) := (zd_q182 zhL_law_658 171 57977208930 rfl rfl :)
theorem dL_law_866 : decode cL_law 866 = .ok (.pop, 1) := (zd_q87 zhL_law_658 172 58138755072 rfl rfl :)
theorem dL_law_867 : decode cL_law 867 = .ok (.aload_n 2, 1) := (zd_q44 zhL_law_658 173 58203045888 rfl rfl :)
theorem dL_law_868 : decode cL_law 868 = .ok (.aload_n 0, 1) := (zd_q42 zhL_law_658 174 58270023680 rfl rfl :)
theorem dL_law_869 : decode cL_law 869 = .ok (.iload_n 3, 1) := (zd_q29 zhL_law_658 175 58336280576 rfl rfl :)
theorem dL_law_870 : decode cL_law 870 = .ok (.iconst 1, 1) := (zd_q4 zhL_law_658 176 58401751040 rfl rfl :)
theorem dL_law_871 : decode cL_law 871 = .ok (.iadd, 1) := (zd_q96 zhL_law_658 177 58474889216 rfl rfl :)
theorem dL_law_872 : decode cL_law 872 = .ok (.iaload, 1) := (zd_q46 zhL_law_658 178 58538721280 rfl rfl :)
theorem dL_law_873 : decode cL_law 873 = .ok (.aload_n 0, 1) := (zd_q42 zhL_law_658 179 58605568000 rfl rfl :)
theorem dL_law_874 : decode cL_law 874 = .ok (.iload_n 3, 1) := (zd_q29 zhL_law_658 180 58671824896 rfl rfl :)
theorem dL_law_875 : decode cL_law 875 = .ok (.iconst 2, 1) := (zd_q5 zhL_law_658 181 58737360896 rfl rfl :)
theorem dL_law_876 : decode cL_law 876 = .ok (.iadd, 1) := (zd_q96 zhL_law_658 182 58810433536 rfl rfl :)
theorem dL_law_877 : decode cL_law 877 = .ok (.iaload, 1) := (zd_q46 zhL_law_658 183 58874265600 rfl rfl :)
theorem dL_law_878 : decode cL_law 878 = .ok (.invokevirtual 101, 3) := (zd_q182 zhL_law_658 184 58983841893 rfl rfl :)
theorem dL_law_881 : decode cL_law 881 = .ok (.pop, 1) := (zd_q87 zhL_law_658 185 59145388032 rfl rfl :)
theorem dL_law_882 : decode cL_law 882 = .ok (.goto 383, 3) := (zd_q167 zhL_law_658 186 59251294591 rfl rfl :)
theorem dL_law_885 : decode cL_law 885 = .ok (.aload_n 1, 1) := (zd_q43 zhL_law_658 187 59410939904 rfl rfl :)
theorem dL_law_886 : decode cL_law 886 = .ok (.aload_n 0, 1) := (zd_q42 zhL_law_658 188 59477983232 rfl rfl :)
theorem dL_law_887 : decode cL_law 887 = .ok (.iload_n 3, 1) := (zd_q29 zhL_law_658 189 59544240128 rfl rfl :)
theorem dL_law_888 : decode cL_law 888 = .ok (.iconst 1, 1) := (zd_q4 zhL_law_658 190 59609710592 rfl rfl :)
theorem dL_law_889 : decode cL_law 889 = .ok (.iadd, 1) := (zd_q96 zhL_law_658 191 59682848768 rfl rfl :)
theorem dL_law_890 : decode cL_law 890 = .ok (.iaload, 1) := (zd_q46 zhL_law_658 192 59746680832 rfl rfl :)
theorem dL_law_891 : decode cL_law 891 = .ok (.aload_n 0, 1) := (zd_q42 zhL_law_658 193 59813527552 rfl rfl :)
theorem dL_law_892 : decode cL_law 892 = .ok (.iload_n 3, 1) := (zd_q29 zhL_law_658 194 59879784448 rfl rfl :)
theorem dL_law_893 : decode cL_law 893 = .ok (.iconst 2, 1) := (zd_q5 zhL_law_658 195 59945320448 rfl rfl :)
theorem dL_law_894 : decode cL_law 894 = .ok (.iadd, 1) := (zd_q96 zhL_law_658 196 60018393088 rfl rfl :)
theorem dL_law_895 : decode cL_law 895 = .ok (.iaload, 1) := (zd_q46 zhL_law_658 197 60082225152 rfl rfl :)
theorem dL_law_896 : decode cL_law 896 = .ok (.aload_n 0, 1) := (zd_q42 zhL_law_658 198 60149071872 rfl rfl :)
theorem dL_law_897 : decode cL_law 897 = .ok (.iload_n 3, 1) := (zd_q29 zhL_law_658 199 60215328768 rfl rfl :)
def ziL_law_898 : Nat := 12082794466381211421968227566981919371446909376420478744849967960997536105024539197567215504017278334408222087496178934817620265535339788833495450300383031176053149923985380077155921485091806947467286199312614374821204001634978600521482346640697916988760558771669245764948301180361866737289542849195349423530312928918950463999142579301637429845653807820142374582904399325289435638701618967060274365975727039514124940257800682618927606342445606466582954184406069239170984122202359097021508085591257484530910804121376095102564268175073325443649623893584878326072544180780279976356458445325242030439920621203998236829605254579565371616570266946644378626661711075056426974736820229003253310667081187544019086882901667304232620676723321544335708479521449055064723202138404342581263277258775243665996031544472817375368758941625709057275524381110918417887499582933013617691200392478003247259711997922557863323006181799671404889178037334921699557790133595090719192532044862821491101032113551240638557615578650027912548402957967561312283301509068408165091906157524551599360580508836265378044405812271836309198746528481113878837878731841012862695007631348412910382341525832995746851106603896608668707176991126824005249086559058610273042327170505995569327900553000764707638977488573756572505939325116241676310311761386937985669811150547027140975145728089264524136669846203625369154362067553470685261081636884687099396485493379690226594942588098423207878606541757506087545396512472058236575357292260683753923702749422568087936170657933351409876474982567718164583720106593318264060555716814136284045443444719885086758773553029356423981833217339908289918683188152667540988376140840306134860127202594064567599121609634708932944714171426226348672977137441514023429036863881316066383438376921556988026905312266895126628010239606928613039924226076348093628100790121036274156149585303663308678744045423553072236919479295768682283472060919434213589429120665813813321969435476676379895652182861934160769347986258355011811973022937458862399815807050456755342515022111693519429724242487064511636941223890750732152975759235812579151015193492092720722900802597310394558164341034532642992507594226777775535898325894262207756652785781742666903247514268523086312669060481429551851063718374824272473224402555115763401092405240509219639259208254459420009396778828315857968134456689047223975617707894938382663368668496572063562145833811968
theorem zhL_law_898 : zd_chkB (cL_law.data.toList.drop 898) 898 200 ziL_law_898 = true := by decide +kernel
theorem dL_law_898 : decode cL_law 898 = .ok (.iconst 3, 1) := (zd_q6 zhL_law_898 0 60280930304 rfl rfl :)
theorem dL_law_899 : decode cL_law 899 = .ok (.iadd, 1) := (zd_q96 zhL_law_898 1 60353937408 rfl rfl :)
theorem dL_law_900 : decode cL_law 900 = .ok (.iaload, 1) := (zd_q46 zhL_law_898 2 60417769472 rfl rfl :)
theorem dL_law_901 : decode cL_law 901 = .ok (.invokevirtual 102, 3) := (zd_q182 zhL_law_898 3 60527345766 rfl rfl :)
theorem dL_law_904 : decode cL_law 904 = .ok (.pop, 1) := (zd_q87 zhL_law_898 4 60688891904 rfl rfl :)
theorem dL_law_905 : decode cL_law 905 = .ok (.aload_n 2, 1) := (zd_q44 zhL_law_898 5 60753182720 rfl rfl :)
theorem dL_law_906 : decode cL_law 906 = .ok (.aload_n 0, 1) := (zd_q42 zhL_law_898 6 60820160512 rfl rfl :)
theorem dL_law_907 : decode cL_law 907 = .ok (.iload_n 3, 1) := (zd_q29 zhL_law_898 7 60886417408 rfl rfl :)
theorem dL_law_908 : decode cL_law 908 = .ok (.iconst 1, 1) := (zd_q4 zhL_law_898 8 60951887872 rfl rfl :)
theorem dL_law_909 : decode cL_law 909 = .ok (.iadd, 1) := (zd_q96 zhL_law_898 9 61025026048 rfl rfl :)
theorem dL_law_910 : decode cL_law 910 = .ok (.iaload, 1) := (zd_q46 zhL_law_898 10 61088858112 rfl rfl :)
theorem dL_law_911 : decode cL_law 911 = .ok (.aload_n 0, 1) := (zd_q42 zhL_law_898 11 61155704832 rfl rfl :)
theorem dL_law_912 : decode cL_law 912 = .ok (.iload_n 3, 1) := (zd_q29 zhL_law_898 12 61221961728 rfl rfl :)
theorem dL_law_913 : decode cL_law 913 = .ok (.iconst 2, 1) := (zd_q5 zhL_law_898 13 61287497728 rfl rfl :)
theorem dL_law_914 : decode cL_law 914 = .ok (.iadd, 1) := (zd_q96 zhL_law_898 14 61360570368 rfl rfl :)
theorem dL_law_915 : decode cL_law 915 = .ok (.iaload, 1) := (zd_q46 zhL_law_898 15 61424402432 rfl rfl :)
theorem dL_law_916 : decode cL_law 916 = .ok (.aload_n 0, 1) := (zd_q42 zhL_law_898 16 61491249152 rfl rfl :)
theorem dL_law_917 : decode cL_law 917 = .ok (.iload_n 3, 1) := (zd_q29 zhL_law_898 17 61557506048 rfl rfl :)
theorem dL_law_918 : decode cL_law 918 = .ok (.iconst 3, 1) := (zd_q6 zhL_law_898 18 61623107584 rfl rfl :)
theorem dL_law_919 : decode cL_law 919 = .ok (.iadd, 1) := (zd_q96 zhL_law_898 19 61696114688 rfl rfl :)
theorem dL_law_920 : decode cL_law 920 = .ok (.iaload, 1) := (zd_q46 zhL_law_898 20 61759946752 rfl rfl :)
theorem dL_law_921 : decode cL_law 921 = .ok (.invokevirtual 105, 3) := (zd_q182 zhL_law_898 21 61869523049 rfl rfl :)
theorem dL_law_924 : decode cL_law 924 = .ok (.pop, 1) := (zd_q87 zhL_law_898 22 62031069184 rfl rfl :)
theorem dL_law_925 : decode cL_law 925 = .ok (.goto 340, 3) := (zd_q167 zhL_law_898 23 62136975700 rfl rfl :)
theorem dL_law_928 : decode cL_law 928 = .ok (.aload_n 1, 1) := (zd_q43 zhL_law_898 24 62296621056 rfl rfl :)
theorem dL_law_929 : decode cL_law 929 = .ok (.aload_n 0, 1) := (zd_q42 zhL_law_898 25 62363664384 rfl rfl :)
theorem dL_law_930 : decode cL_law 930 = .ok (.iload_n 3, 1) := (zd_q29 zhL_law_898 26 62429921280 rfl rfl :)
theorem dL_law_931 : decode cL_law 931 = .ok (.iconst 1, 1) := (zd_q4 zhL_law_898 27 62495391744 rfl rfl :)
theorem dL_law_932 : decode cL_law 932 = .ok (.iadd, 1) := (zd_q96 zhL_law_898 28 62568529920 rfl rfl :)
theorem dL_law_933 : decode cL_law 933 = .ok (.iaload, 1) := (zd_q46 zhL_law_898 29 62632361984 rfl rfl :)
theorem dL_law_934 : decode cL_law 934 = .ok (.aload_n 0, 1) := (zd_q42 zhL_law_898 30 62699208704 rfl rfl :)
theorem dL_law_935 : decode cL_law 935 = .ok (.iload_n 3, 1) := (zd_q29 zhL_law_898 31 62765465600 rfl rfl :)
theorem dL_law_936 : decode cL_law 936 = .ok (.iconst 2, 1) := (zd_q5 zhL_law_898 32 62831001600 rfl rfl :)
theorem dL_law_937 : decode cL_law 937 = .ok (.iadd, 1) := (zd_q96 zhL_law_898 33 62904074240 rfl rfl :)
theorem dL_law_938 : decode cL_law 938 = .ok (.iaload, 1) := (zd_q46 zhL_law_898 34 62967906304 rfl rfl :)
theorem dL_law_939 : decode cL_law 939 = .ok (.aload_n 0, 1) := (zd_q42 zhL_law_898 35 63034753024 rfl rfl :)
theorem dL_law_940 : decode cL_law 940 = .ok (.iload_n 3, 1) := (zd_q29 zhL_law_898 36 63101009920 rfl rfl :)
theorem dL_law_941 : decode cL_law 941 = .ok (.iconst 3, 1) := (zd_q6 zhL_law_898 37 63166611456 rfl rfl :)
theorem dL_law_942 : decode cL_law 942 = .ok (.iadd, 1) := (zd_q96 zhL_law_898 38 63239618560 rfl rfl :)
theorem dL_law_943 : decode cL_law 943 = .ok (.iaload, 1) := (zd_q46 zhL_law_898 39 63303450624 rfl rfl :)
theorem dL_law_944 : decode cL_law 944 = .ok (.aload_n 0, 1) := (zd_q42 zhL_law_898 40 63370297344 rfl rfl :)
theorem dL_law_945 : decode cL_law 945 = .ok (.iload_n 3, 1) := (zd_q29 zhL_law_898 41 63436554240 rfl rfl :)
theorem dL_law_946 : decode cL_law 946 = .ok (.iconst 4, 1) := (zd_q7 zhL_law_898 42 63502221312 rfl rfl :)
theorem dL_law_947 : decode cL_law 947 = .ok (.iadd, 1) := (zd_q96 zhL_law_898 43 63575162880 rfl rfl :)
theorem dL_law_948 : decode cL_law 948 = .ok (.iaload, 1) := (zd_q46 zhL_law_898 44 63638994944 rfl rfl :)
theorem dL_law_949 : decode cL_law 949 = .ok (.invokevirtual 106, 3) := (zd_q182 zhL_law_898 45 63748571242 rfl rfl :)
theorem dL_law_952 : decode cL_law 952 = .ok (.pop2, 1) := (zd_q88 zhL_law_898 46 63910182912 rfl rfl :)
theorem dL_law_953 : decode cL_law 953 = .ok (.aload_n 2, 1) := (zd_q44 zhL_law_898 47 63974408192 rfl rfl :)
theorem dL_law_954 : decode cL_law 954 = .ok (.aload_n 0, 1) := (zd_q42 zhL_law_898 48 64041385984 rfl rfl :)
theorem dL_law_955 : decode cL_law 955 = .ok (.iload_n 3, 1) := (zd_q29 zhL_law_898 49 64107642880 rfl rfl :)
theorem dL_law_956 : decode cL_law 956 = .ok (.iconst 1, 1) := (zd_q4 zhL_law_898 50 64173113344 rfl rfl :)
theorem dL_law_957 : decode cL_law 957 = .ok (.iadd, 1) := (zd_q96 zhL_law_898 51 64246251520 rfl rfl :)
theorem dL_law_958 : decode cL_law 958 = .ok (.iaload, 1) := (zd_q46 zhL_law_898 52 64310083584 rfl rfl :)
theorem dL_law_959 : decode cL_law 959 = .ok (.aload_n 0, 1) := (zd_q42 zhL_law_898 53 64376930304 rfl rfl :)
theorem dL_law_960 : decode cL_law 960 = .ok (.iload_n 3, 1) := (zd_q29 zhL_law_898 54 64443187200 rfl rfl :)
theorem dL_law_961 : decode cL_law 961 = .ok (.iconst 2, 1) := (zd_q5 zhL_law_898 55 64508723200 rfl rfl :)
theorem dL_law_962 : decode cL_law 962 = .ok (.iadd, 1) := (zd_q96 zhL_law_898 56 64581795840 rfl rfl :)
theorem dL_law_963 : decode cL_law 963 = .ok (.iaload, 1) := (zd_q46 zhL_law_898 57 64645627904 rfl rfl :)
theorem dL_law_964 : decode cL_law 964 = .ok (.aload_n 0, 1) := (zd_q42 zhL_law_898 58 64712474624 rfl rfl :)
theorem dL_law_965 : decode cL_law 965 = .ok (.iload_n 3, 1) := (zd_q29 zhL_law_898 59 64778731520 rfl rfl :)
theorem dL_law_966 : decode cL_law 966 = .ok (.iconst 3, 1) := (zd_q6 zhL_law_898 60 64844333056 rfl rfl :)
theorem dL_law_967 : decode cL_law 967 = .ok (.iadd, 1) := (zd_q96 zhL_law_898 61 64917340160 rfl rfl :)
theorem dL_law_968 : decode cL_law 968 = .ok (.iaload, 1) := (zd_q46 zhL_law_898 62 64981172224 rfl rfl :)
theorem dL_law_969 : decode cL_law 969 = .ok (.aload_n 0, 1) := (zd_q42 zhL_law_898 63 65048018944 rfl rfl :)
theorem dL_law_970 : decode cL_law 970 = .ok (.iload_n 3, 1) := (zd_q29 zhL_law_898 64 65114275840 rfl rfl :)
theorem dL_law_971 : decode cL_law 971 = .ok (.iconst 4, 1) := (zd_q7 zhL_law_898 65 65179942912 rfl rfl :)
theorem dL_law_972 : decode cL_law 972 = .ok (.iadd, 1) := (zd_q96 zhL_law_898 66 65252884480 rfl rfl :)
theorem dL_law_973 : decode cL_law 973 = .ok (.iaload, 1) := (zd_q46 zhL_law_898 67 65316716544 rfl rfl :)
theorem dL_law_974 : decode cL_law 974 = .ok (.invokevirtual 110, 3) := (zd_q182 zhL_law_898 68 65426292846 rfl rfl :)
theorem dL_law_977 : decode cL_law 977 = .ok (.pop2, 1) := (zd_q88 zhL_law_898 69 65587904512 rfl rfl :)
theorem dL_law_978 : decode cL_law 978 = .ok (.goto 287, 3) := (zd_q167 zhL_law_898 70 65693745439 rfl rfl :)
theorem dL_law_981 : decode cL_law 981 = .ok (.aload_n 1, 1) := (zd_q43 zhL_law_898 71 65853390848 rfl rfl :)
theorem dL_law_982 : decode cL_law 982 = .ok (.invokevirtual 111, 3) := (zd_q182 zhL_law_898 72 65963163759 rfl rfl :)
theorem dL_law_985 : decode cL_law 985 = .ok (.pop, 1) := (zd_q87 zhL_law_898 73 66124709888 rfl rfl :)
theorem dL_law_986 : decode cL_law 986 = .ok (.aload_n 2, 1) := (zd_q44 zhL_law_898 74 66189000704 rfl rfl :)
theorem dL_law_987 : decode cL_law 987 = .ok (.invokevirtual 114, 3) := (zd_q182 zhL_law_898 75 66298708082 rfl rfl :)
theorem dL_law_990 : decode cL_law 990 = .ok (.pop, 1) := (zd_q87 zhL_law_898 76 66460254208 rfl rfl :)
theorem dL_law_991 : decode cL_law 991 = .ok (.goto 274, 3) := (zd_q167 zhL_law_898 77 66566160658 rfl rfl :)
theorem dL_law_994 : decode cL_law 994 = .ok (.aload_n 1, 1) := (zd_q43 zhL_law_898 78 66725806080 rfl rfl :)
theorem dL_law_995 : decode cL_law 995 = .ok (.invokevirtual 115, 3) := (zd_q182 zhL_law_898 79 66835578995 rfl rfl :)
theorem dL_law_998 : decode cL_law 998 = .ok (.pop, 1) := (zd_q87 zhL_law_898 80 66997125120 rfl rfl :)
theorem dL_law_999 : decode cL_law 999 = .ok (.aload_n 2, 1) := (zd_q44 zhL_law_898 81 67061415936 rfl rfl :)
theorem dL_law_1000 : decode cL_law 1000 = .ok (.invokevirtual 118, 3) := (zd_q182 zhL_law_898 82 67171123318 rfl rfl :)
theorem dL_law_1003 : decode cL_law 1003 = .ok (.pop, 1) := (zd_q87 zhL_law_898 83 67332669440 rfl rfl :)
theorem dL_law_1004 : decode cL_law 1004 = .ok (.goto 261, 3) := (zd_q167 zhL_law_898 84 67438575877 rfl rfl :)
theorem dL_law_1007 : decode cL_law 1007 = .ok (.aload_n 1, 1) := (zd_q43 zhL_law_898 85 67598221312 rfl rfl :)
theorem dL_law_1008 : decode cL_law 1008 = .ok (.aload_n 0, 1) := (zd_q42 zhL_law_898 86 67665264640 rfl rfl :)
theorem dL_law_1009 : decode cL_law 1009 = .ok (.iload_n 3, 1) := (zd_q29 zhL_law_898 87 67731521536 rfl rfl :)
theorem dL_law_1010 : decode cL_law 1010 = .ok (.iconst 1, 1) := (zd_q4 zhL_law_898 88 67796992000 rfl rfl :)
theorem dL_law_1011 : decode cL_law 1011 = .ok (.iadd, 1) := (zd_q96 zhL_law_898 89 67870130176 rfl rfl :)
theorem dL_law_1012 : decode cL_law 1012 = .ok (.iaload, 1) := (zd_q46 zhL_law_898 90 67933962240 rfl rfl :)
theorem dL_law_1013 : decode cL_law 1013 = .ok (.invokevirtual 119, 3) := (zd_q182 zhL_law_898 91 68043538551 rfl rfl :)
theorem dL_law_1016 : decode cL_law 1016 = .ok (.pop, 1) := (zd_q87 zhL_law_898 92 68205084672 rfl rfl :)
theorem dL_law_1017 : decode cL_law 1017 = .ok (.aload_n 2, 1) := (zd_q44 zhL_law_898 93 68269375488 rfl rfl :)
theorem dL_law_1018 : decode cL_law 1018 = .ok (.aload_n 0, 1) := (zd_q42 zhL_law_898 94 68336353280 rfl rfl :)
theorem dL_law_1019 : decode cL_law 1019 = .ok (.iload_n 3, 1) := (zd_q29 zhL_law_898 95 68402610176 rfl rfl :)
theorem dL_law_1020 : decode cL_law 1020 = .ok (.iconst 1, 1) := (zd_q4 zhL_law_898 96 68468080640 rfl rfl :)
theorem dL_law_1021 : decode cL_law 1021 = .ok (.iadd, 1) := (zd_q96 zhL_law_898 97 68541218816 rfl rfl :)
theorem dL_law_1022 : decode cL_law 1022 = .ok (.iaload, 1) := (zd_q46 zhL_law_898 98 68605050880 rfl rfl :)
theorem dL_law_1023 : decode cL_law 1023 = .ok (.invokevirtual 122, 3) := (zd_q182 zhL_law_898 99 68714627194 rfl rfl :)
theorem dL_law_1026 : decode cL_law 1026 = .ok (.pop, 1) := (zd_q87 zhL_law_898 100 68876173312 rfl rfl :)
theorem dL_law_1027 : decode cL_law 1027 = .ok (.goto 238, 3) := (zd_q167 zhL_law_898 101 68982079726 rfl rfl :)
theorem dL_law_1030 : decode cL_law 1030 = .ok (.aload_n 1, 1) := (zd_q43 zhL_law_898 102 69141725184 rfl rfl :)
theorem dL_law_1031 : decode cL_law 1031 = .ok (.aload_n 0, 1) := (zd_q42 zhL_law_898 103 69208768512 rfl rfl :)
theorem dL_law_1032 : decode cL_law 1032 = .ok (.iload_n 3, 1) := (zd_q29 zhL_law_898 104 69275025408 rfl rfl :)
theorem dL_law_1033 : decode cL_law 1033 = .ok (.iconst 1, 1) := (zd_q4 zhL_law_898 105 69340495872 rfl rfl :)
theorem dL_law_1034 : decode cL_law 1034 = .ok (.iadd, 1) := (zd_q96 zhL_law_898 106 69413634048 rfl rfl :)
theorem dL_law_1035 : decode cL_law 1035 = .ok (.iaload, 1) := (zd_q46 zhL_law_898 107 69477466112 rfl rfl :)
theorem dL_law_1036 : decode cL_law 1036 = .ok (.aload_n 0, 1) := (zd_q42 zhL_law_898 108 69544312832 rfl rfl :)
theorem dL_law_1037 : decode cL_law 1037 = .ok (.iload_n 3, 1) := (zd_q29 zhL_law_898 109 69610569728 rfl rfl :)
theorem dL_law_1038 : decode cL_law 1038 = .ok (.iconst 2, 1) := (zd_q5 zhL_law_898 110 69676105728 rfl rfl :)
theorem dL_law_1039 : decode cL_law 1039 = .ok (.iadd, 1) := (zd_q96 zhL_law_898 111 69749178368 rfl rfl :)
theorem dL_law_1040 : decode cL_law 1040 = .ok (.iaload, 1) := (zd_q46 zhL_law_898 112 69813010432 rfl rfl :)
theorem dL_law_1041 : decode cL_law 1041 = .ok (.aload_n 0, 1) := (zd_q42 zhL_law_898 113 69879857152 rfl rfl :)
theorem dL_law_1042 : decode cL_law 1042 = .ok (.iload_n 3, 1) := (zd_q29 zhL_law_898 114 69946114048 rfl rfl :)
theorem dL_law_1043 : decode cL_law 1043 = .ok (.iconst 3, 1) := (zd_q6 zhL_law_898 115 70011715584 rfl rfl :)
theorem dL_law_1044 : decode cL_law 1044 = .ok (.iadd, 1) := (zd_q96 zhL_law_898 116 70084722688 rfl rfl :)
theorem dL_law_1045 : decode cL_law 1045 = .ok (.iaload, 1) := (zd_q46 zhL_law_898 117 70148554752 rfl rfl :)
theorem dL_law_1046 : decode cL_law 1046 = .ok (.invokevirtual 123, 3) := (zd_q182 zhL_law_898 118 70258131067 rfl rfl :)
theorem dL_law_1049 : decode cL_law 1049 = .ok (.pop, 1) := (zd_q87 zhL_law_898 119 70419677184 rfl rfl :)
theorem dL_law_1050 : decode cL_law 1050 = .ok (.aload_n 2, 1) := (zd_q44 zhL_law_898 120 70483968000 rfl rfl :)
theorem dL_law_1051 : decode cL_law 1051 = .ok (.aload_n 0, 1) := (zd_q42 zhL_law_898 121 70550945792 rfl rfl :)
theorem dL_law_1052 : decode cL_law 1052 = .ok (.iload_n 3, 1) := (zd_q29 zhL_law_898 122 70617202688 rfl rfl :)
theorem dL_law_1053 : decode cL_law 1053 = .ok (.iconst 1, 1) := (zd_q4 zhL_law_898 123 70682673152 rfl rfl :)
theorem dL_law_1054 : decode cL_law 1054 = .ok (.iadd, 1) := (zd_q96 zhL_law_898 124 70755811328 rfl rfl :)
theorem dL_law_1055 : decode cL_law 1055 = .ok (.iaload, 1) := (zd_q46 zhL_law_898 125 70819643392 rfl rfl :)
theorem dL_law_1056 : decode cL_law 1056 = .ok (.aload_n 0, 1) := (zd_q42 zhL_law_898 126 70886490112 rfl rfl :)
theorem dL_law_1057 : decode cL_law 1057 = .ok (.iload_n 3, 1) := (zd_q29 zhL_law_898 127 70952747008 rfl rfl :)
theorem dL_law_1058 : decode cL_law 1058 = .ok (.iconst 2, 1) := (zd_q5 zhL_law_898 128 71018283008 rfl rfl :)
theorem dL_law_1059 : decode cL_law 1059 = .ok (.iadd, 1) := (zd_q96 zhL_law_898 129 71091355648 rfl rfl :)
theorem dL_law_1060 : decode cL_law 1060 = .ok (.iaload, 1) := (zd_q46 zhL_law_898 130 71155187712 rfl rfl :)
theorem dL_law_1061 : decode cL_law 1061 = .ok (.aload_n 0, 1) := (zd_q42 zhL_law_898 131 71222034432 rfl rfl :)
theorem dL_law_1062 : decode cL_law 1062 = .ok (.iload_n 3, 1) := (zd_q29 zhL_law_898 132 71288291328 rfl rfl :)
theorem dL_law_1063 : decode cL_law 1063 = .ok (.iconst 3, 1) := (zd_q6 zhL_law_898 133 71353892864 rfl rfl :)
theorem dL_law_1064 : decode cL_law 1064 = .ok (.iadd, 1) := (zd_q96 zhL_law_898 134 71426899968 rfl rfl :)
theorem dL_law_1065 : decode cL_law 1065 = .ok (.iaload, 1) := (zd_q46 zhL_law_898 135 71490732032 rfl rfl :)
theorem dL_law_1066 : decode cL_law 1066 = .ok (.invokevirtual 126, 3) := (zd_q182 zhL_law_898 136 71600308350 rfl rfl :)
theorem dL_law_1069 : decode cL_law 1069 = .ok (.pop, 1) := (zd_q87 zhL_law_898 137 71761854464 rfl rfl :)
theorem dL_law_1070 : decode cL_law 1070 = .ok (.goto 195, 3) := (zd_q167 zhL_law_898 138 71867760835 rfl rfl :)
theorem dL_law_1073 : decode cL_law 1073 = .ok (.aload_n 1, 1) := (zd_q43 zhL_law_898 139 72027406336 rfl rfl :)
theorem dL_law_1074 : decode cL_law 1074 = .ok (.aload_n 0, 1) := (zd_q42 zhL_law_898 140 72094449664 rfl rfl :)
theorem dL_law_1075 : decode cL_law 1075 = .ok (.iload_n 3, 1) := (zd_q29 zhL_law_898 141 72160706560 rfl rfl :)
theorem dL_law_1076 : decode cL_law 1076 = .ok (.iconst 1, 1) := (zd_q4 zhL_law_898 142 72226177024 rfl rfl :)
theorem dL_law_1077 : decode cL_law 1077 = .ok (.iadd, 1) := (zd_q96 zhL_law_898 143 72299315200 rfl rfl :)
theorem dL_law_1078 : decode cL_law 1078 = .ok (.iaload, 1) := (zd_q46 zhL_law_898 144 72363147264 rfl rfl :)
theorem dL_law_1079 : decode cL_law 1079 = .ok (.aload_n 0, 1) := (zd_q42 zhL_law_898 145 72429993984 rfl rfl :)
theorem dL_law_1080 : decode cL_law 1080 = .ok (.iload_n 3, 1) := (zd_q29 zhL_law_898 146 72496250880 rfl rfl :)
theorem dL_law_1081 : decode cL_law 1081 = .ok (.iconst 2, 1) := (zd_q5 zhL_law_898 147 72561786880 rfl rfl :)
theorem dL_law_1082 : decode cL_law 1082 = .ok (.iadd, 1) := (zd_q96 zhL_law_898 148 72634859520 rfl rfl :)
theorem dL_law_1083 : decode cL_law 1083 = .ok (.iaload, 1) := (zd_q46 zhL_law_898 149 72698691584 rfl rfl :)
theorem dL_law_1084 : decode cL_law 1084 = .ok (.aload_n 0, 1) := (zd_q42 zhL_law_898 150 72765538304 rfl rfl :)
theorem dL_law_1085 : decode cL_law 1085 = .ok (.iload_n 3, 1) := (zd_q29 zhL_law_898 151 72831795200 rfl rfl :)
theorem dL_law_1086 : decode cL_law 1086 = .ok (.iconst 3, 1) := (zd_q6 zhL_law_898 152 72897396736 rfl rfl :)
theorem dL_law_1087 : decode cL_law 1087 = .ok (.iadd, 1) := (zd_q96 zhL_law_898 153 72970403840 rfl rfl :)
theorem dL_law_1088 : decode cL_law 1088 = .ok (.iaload, 1) := (zd_q46 zhL_law_898 154 73034235904 rfl rfl :)
theorem dL_law_1089 : decode cL_law 1089 = .ok (.invokevirtual 127, 3) := (zd_q182 zhL_law_898 155 73143812223 rfl rfl :)
theorem dL_law_1092 : decode cL_law 1092 = .ok (.pop, 1) := (zd_q87 zhL_law_898 156 73305358336 rfl rfl :)
theorem dL_law_1093 : decode cL_law 1093 = .ok (.aload_n 2, 1) := (zd_q44 zhL_law_898 157 73369649152 rfl rfl :)
theorem dL_law_1094 : decode cL_law 1094 = .ok (.aload_n 0, 1) := (zd_q42 zhL_law_898 158 73436626944 rfl rfl :)
theorem dL_law_1095 : decode cL_law 1095 = .ok (.iload_n 3, 1) := (zd_q29 zhL_law_898 159 73502883840 rfl rfl :)
theorem dL_law_1096 : decode cL_law 1096 = .ok (.iconst 1, 1) := (zd_q4 zhL_law_898 160 73568354304 rfl rfl :)
theorem dL_law_1097 : decode cL_law 1097 = .ok (.iadd, 1) := (zd_q96 zhL_law_898 161 73641492480 rfl rfl :)
theorem dL_law_1098 : decode cL_law 1098 = .ok (.iaload, 1) := (zd_q46 zhL_law_898 162 73705324544 rfl rfl :)
theorem dL_law_1099 : decode cL_law 1099 = .ok (.aload_n 0, 1) := (zd_q42 zhL_law_898 163 73772171264 rfl rfl :)
theorem dL_law_1100 : decode cL_law 1100 = .ok (.iload_n 3, 1) := (zd_q29 zhL_law_898 164 73838428160 rfl rfl :)
theorem dL_law_1101 : decode cL_law 1101 = .ok (.iconst 2, 1) := (zd_q5 zhL_law_898 165 73903964160 rfl rfl :)
theorem dL_law_1102 : decode cL_law 1102 = .ok (.iadd, 1) := (zd_q96 zhL_law_898 166 73977036800 rfl rfl :)
theorem dL_law_1103 : decode cL_law 1103 = .ok (.iaload, 1) := (zd_q46 zhL_law_898 167 74040868864 rfl rfl :)
theorem dL_law_1104 : decode cL_law 1104 = .ok (.aload_n 0, 1) := (zd_q42 zhL_law_898 168 74107715584 rfl rfl :)
theorem dL_law_1105 : decode cL_law 1105 = .ok (.iload_n 3, 1) := (zd_q29 zhL_law_898 169 74173972480 rfl rfl :)
theorem dL_law_1106 : decode cL_law 1106 = .ok (.iconst 3, 1) := (zd_q6 zhL_law_898 170 74239574016 rfl rfl :)
theorem dL_law_1107 : decode cL_law 1107 = .ok (.iadd, 1) := (zd_q96 zhL_law_898 171 74312581120 rfl rfl :)
theorem dL_law_1108 : decode cL_law 1108 = .ok (.iaload, 1) := (zd_q46 zhL_law_898 172 74376413184 rfl rfl :)
theorem dL_law_1109 : decode cL_law 1109 = .ok (.invokevirtual 130, 3) := (zd_q182 zhL_law_898 173 74485989506 rfl rfl :)
theorem dL_law_1112 : decode cL_law 1112 = .ok (.pop, 1) := (zd_q87 zhL_law_898 174 74647535616 rfl rfl :)
theorem dL_law_1113 : decode cL_law 1113 = .ok (.goto 152, 3) := (zd_q167 zhL_law_898 175 74753441944 rfl rfl :)
theorem dL_law_1116 : decode cL_law 1116 = .ok (.aload_n 1, 1) := (zd_q43 zhL_law_898 176 74913087488 rfl rfl :)
theorem dL_law_1117 : decode cL_law 1117 = .ok (.aload_n 0, 1) := (zd_q42 zhL_law_898 177 74980130816 rfl rfl :)
theorem dL_law_1118 : decode cL_law 1118 = .ok (.iload_n 3, 1) := (zd_q29 zhL_law_898 178 75046387712 rfl rfl :)
theorem dL_law_1119 : decode cL_law 1119 = .ok (.iconst 1, 1) := (zd_q4 zhL_law_898 179 75111858176 rfl rfl :)
theorem dL_law_1120 : decode cL_law 1120 = .ok (.iadd, 1) := (zd_q96 zhL_law_898 180 75184996352 rfl rfl :)
theorem dL_law_1121 : decode cL_law 1121 = .ok (.iaload, 1) := (zd_q46 zhL_law_898 181 75248828416 rfl rfl :)
theorem dL_law_1122 : decode cL_law 1122 = .ok (.aload_n 0, 1) := (zd_q42 zhL_law_898 182 75315675136 rfl rfl :)
theorem dL_law_1123 : decode cL_law 1123 = .ok (.iload_n 3, 1) := (zd_q29 zhL_law_898 183 75381932032 rfl rfl :)
theorem dL_law_1124 : decode cL_law 1124 = .ok (.iconst 2, 1) := (zd_q5 zhL_law_898 184 75447468032 rfl rfl :)
theorem dL_law_1125 : decode cL_law 1125 = .ok (.iadd, 1) := (zd_q96 zhL_law_898 185 75520540672 rfl rfl :)
theorem dL_law_1126 : decode cL_law 1126 = .ok (.iaload, 1) := (zd_q46 zhL_law_898 186 75584372736 rfl rfl :)
theorem dL_law_1127 : decode cL_law 1127 = .ok (.aload_n 0, 1) := (zd_q42 zhL_law_898 187 75651219456 rfl rfl :)
theorem dL_law_1128 : decode cL_law 1128 = .ok (.iload_n 3, 1) := (zd_q29 zhL_law_898 188 75717476352 rfl rfl :)
theorem dL_law_1129 : decode cL_law 1129 = .ok (.iconst 3, 1) := (zd_q6 zhL_law_898 189 75783077888 rfl rfl :)
theorem dL_law_1130 : decode cL_law 1130 = .ok (.iadd, 1) := (zd_q96 zhL_law_898 190 75856084992 rfl rfl :)
theorem dL_law_1131 : decode cL_law 1131 = .ok (.iaload, 1) := (zd_q46 zhL_law_898 191 75919917056 rfl rfl :)
theorem dL_law_1132 : decode cL_law 1132 = .ok (.aload_n 0, 1) := (zd_q42 zhL_law_898 192 75986763776 rfl rfl :)
theorem dL_law_1133 : decode cL_law 1133 = .ok (.iload_n 3, 1) := (zd_q29 zhL_law_898 193 76053020672 rfl rfl :)
theorem dL_law_1134 : decode cL_law 1134 = .ok (.iconst 4, 1) := (zd_q7 zhL_law_898 194 76118687744 rfl rfl :)
theorem dL_law_1135 : decode cL_law 1135 = .ok (.iadd, 1) := (zd_q96 zhL_law_898 195 76191629312 rfl rfl :)
theorem dL_law_1136 : decode cL_law 1136 = .ok (.iaload, 1) := (zd_q46 zhL_law_898 196 76255461376 rfl rfl :)
theorem dL_law_1137 : decode cL_law 1137 = .ok (.aload_n 0, 1) := (zd_q42 zhL_law_898 197 76322308096 rfl rfl :)
theorem dL_law_1138 : decode cL_law 1138 = .ok (.iload_n 3, 1) := (zd_q29 zhL_law_898 198 76388564992 rfl rfl :)
theorem dL_law_1139 : decode cL_law 1139 = .ok (.iconst 5, 1) := (zd_q8 zhL_law_898 199 76454297600 rfl rfl :)
def ziL_law_1140 : Nat := 2906635692593190312332756550903639037194880660961063996882694367488357141127740737757254467486069647733120429217777888191530383023002731826457517393352545752627355896362556161898008109629609322481696125913575921656794794701409554376020549095576618790667248544890694992927075657415814657926861388146859677128774466909204935637468519087041540947416729746725731963386284243107238548662802484397268413078890474451716731082956824573297096185822924792889118392237570577634541835969029476808535386810376193084219511028075513098063146439255159985786803466084520028683518281135343734305148574639511715562873924908619560121383710470005159814823975725486089761615957397781293609590677527900739125627663611881048141088688052590484307346173841355179138179955192384830857437904665343843554822782003713945648057181653681872643353647362531670966163909773324542516953735112314358546641811879867096635332534958690531633827559366578482396333680485012256743605406594335559957690717675798323347457976454147311286312226910595832494025909653413715793463456432761119585205359324246305646683529774536308138532663332206866101746775874938747596190546553360597671354701430614041428242774382820564919662998077123668287359628707719848001345679122512000604611129968483627557438298302456973366234747827371632352578324495372493403501282201771837637548720336273389125632
theorem zhL_law_1140 : zd_chkB (cL_law.data.toList.drop 1140) 1140 111 ziL_law_1140 = true := by decide +kernel
theorem dL_law_1140 : decode cL_law 1140 = .ok (.iadd, 1) := (zd_q96 zhL_law_1140 0 76527173632 rfl rfl :)
theorem dL_law_1141 : decode cL_law 1141 = .ok (.iaload, 1) := (zd_q46 zhL_law_1140 1 76591005696 rfl rfl :)
theorem dL_law_1142 : decode cL_law 1142 = .ok (.invokevirtual 131, 3) := (zd_q182 zhL_law_1140 2 76700582019 rfl rfl :)
theorem dL_law_1145 : decode cL_law 1145 = .ok (.pop, 1) := (zd_q87 zhL_law_1140 3 76862128128 rfl rfl :)
theorem dL_law_1146 : decode cL_law 1146 = .ok (.aload_n 2, 1) := (zd_q44 zhL_law_1140 4 76926418944 rfl rfl :)
theorem dL_law_1147 : decode cL_law 1147 = .ok (.aload_n 0, 1) := (zd_q42 zhL_law_1140 5 76993396736 rfl rfl :)
theorem dL_law_1148 : decode cL_law 1148 = .ok (.iload_n 3, 1) := (zd_q29 zhL_law_1140 6 77059653632 rfl rfl :)
theorem dL_law_1149 : decode cL_law 1149 = .ok (.iconst 1, 1) := (zd_q4 zhL_law_1140 7 77125124096 rfl rfl :)
theorem dL_law_1150 : decode cL_law 1150 = .ok (.iadd, 1) := (zd_q96 zhL_law_1140 8 77198262272 rfl rfl :)
theorem dL_law_1151 : decode cL_law 1151 = .ok (.iaload, 1) := (zd_q46 zhL_law_1140 9 77262094336 rfl rfl :)
theorem dL_law_1152 : decode cL_law 1152 = .ok (.aload_n 0, 1) := (zd_q42 zhL_law_1140 10 77328941056 rfl rfl :)
theorem dL_law_1153 : decode cL_law 1153 = .ok (.iload_n 3, 1) := (zd_q29 zhL_law_1140 11 77395197952 rfl rfl :)
theorem dL_law_1154 : decode cL_law 1154 = .ok (.iconst 2, 1) := (zd_q5 zhL_law_1140 12 77460733952 rfl rfl :)
theorem dL_law_1155 : decode cL_law 1155 = .ok (.iadd, 1) := (zd_q96 zhL_law_1140 13 77533806592 rfl rfl :)
theorem dL_law_1156 : decode cL_law 1156 = .ok (.iaload, 1) := (zd_q46 zhL_law_1140 14 77597638656 rfl rfl :)
theorem dL_law_1157 : decode cL_law 1157 = .ok (.aload_n 0, 1) := (zd_q42 zhL_law_1140 15 77664485376 rfl rfl :)
theorem dL_law_1158 : decode cL_law 1158 = .ok (.iload_n 3, 1) := (zd_q29 zhL_law_1140 16 77730742272 rfl rfl :)
theorem dL_law_1159 : decode cL_law 1159 = .ok (.iconst 3, 1) := (zd_q6 zhL_law_1140 17 77796343808 rfl rfl :)
theorem dL_law_1160 : decode cL_law 1160 = .ok (.iadd, 1) := (zd_q96 zhL_law_1140 18 77869350912 rfl rfl :)
theorem dL_law_1161 : decode cL_law 1161 = .ok (.iaload, 1) := (zd_q46 zhL_law_1140 19 77933182976 rfl rfl :)
theorem dL_law_1162 : decode cL_law 1162 = .ok (.aload_n 0, 1) := (zd_q42 zhL_law_1140 20 78000029696 rfl rfl :)
theorem dL_law_1163 : decode cL_law 1163 = .ok (.iload_n 3, 1) := (zd_q29 zhL_law_1140 21 78066286592 rfl rfl :)
theorem dL_law_1164 : decode cL_law 1164 = .ok (.iconst 4, 1) := (zd_q7 zhL_law_1140 22 78131953664 rfl rfl :)
theorem dL_law_1165 : decode cL_law 1165 = .ok (.iadd, 1) := (zd_q96 zhL_law_1140 23 78204895232 rfl rfl :)
theorem dL_law_1166 : decode cL_law 1166 = .ok (.iaload, 1) := (zd_q46 zhL_law_1140 24 78268727296 rfl rfl :)
theorem dL_law_1167 : decode cL_law 1167 = .ok (.aload_n 0, 1) := (zd_q42 zhL_law_1140 25 78335574016 rfl rfl :)
theorem dL_law_1168 : decode cL_law 1168 = .ok (.iload_n 3, 1) := (zd_q29 zhL_law_1140 26 78401830912 rfl rfl :)
theorem dL_law_1169 : decode cL_law 1169 = .ok (.iconst 5, 1) := (zd_q8 zhL_law_1140 27 78467563520 rfl rfl :)
theorem dL_law_1170 : decode cL_law 1170 = .ok (.iadd, 1) := (zd_q96 zhL_law_1140 28 78540439552 rfl rfl :)
theorem dL_law_1171 : decode cL_law 1171 = .ok (.iaload, 1) := (zd_q46 zhL_law_1140 29 78604271616 rfl rfl :)
theorem dL_law_1172 : decode cL_law 1172 = .ok (.invokevirtual 135, 3) := (zd_q182 zhL_law_1140 30 78713847943 rfl rfl :)
theorem dL_law_1175 : decode cL_law 1175 = .ok (.pop, 1) := (zd_q87 zhL_law_1140 31 78875394048 rfl rfl :)
theorem dL_law_1176 : decode cL_law 1176 = .ok (.goto 89, 3) := (zd_q167 zhL_law_1140 32 78981300313 rfl rfl :)
theorem dL_law_1179 : decode cL_law 1179 = .ok (.aload_n 1, 1) := (zd_q43 zhL_law_1140 33 79140945920 rfl rfl :)
theorem dL_law_1180 : decode cL_law 1180 = .ok (.aload_n 0, 1) := (zd_q42 zhL_law_1140 34 79207989248 rfl rfl :)
theorem dL_law_1181 : decode cL_law 1181 = .ok (.iload_n 3, 1) := (zd_q29 zhL_law_1140 35 79274246144 rfl rfl :)
theorem dL_law_1182 : decode cL_law 1182 = .ok (.iconst 1, 1) := (zd_q4 zhL_law_1140 36 79339716608 rfl rfl :)
theorem dL_law_1183 : decode cL_law 1183 = .ok (.iadd, 1) := (zd_q96 zhL_law_1140 37 79412854784 rfl rfl :)
theorem dL_law_1184 : decode cL_law 1184 = .ok (.iaload, 1) := (zd_q46 zhL_law_1140 38 79476686848 rfl rfl :)
theorem dL_law_1185 : decode cL_law 1185 = .ok (.aload_n 0, 1) := (zd_q42 zhL_law_1140 39 79543533568 rfl rfl :)
theorem dL_law_1186 : decode cL_law 1186 = .ok (.iload_n 3, 1) := (zd_q29 zhL_law_1140 40 79609790464 rfl rfl :)
theorem dL_law_1187 : decode cL_law 1187 = .ok (.iconst 2, 1) := (zd_q5 zhL_law_1140 41 79675326464 rfl rfl :)
theorem dL_law_1188 : decode cL_law 1188 = .ok (.iadd, 1) := (zd_q96 zhL_law_1140 42 79748399104 rfl rfl :)
theorem dL_law_1189 : decode cL_law 1189 = .ok (.iaload, 1) := (zd_q46 zhL_law_1140 43 79812231168 rfl rfl :)
theorem dL_law_1190 : decode cL_law 1190 = .ok (.aload_n 0, 1) := (zd_q42 zhL_law_1140 44 79879077888 rfl rfl :)
theorem dL_law_1191 : decode cL_law 1191 = .ok (.iload_n 3, 1) := (zd_q29 zhL_law_1140 45 79945334784 rfl rfl :)
theorem dL_law_1192 : decode cL_law 1192 = .ok (.iconst 3, 1) := (zd_q6 zhL_law_1140 46 80010936320 rfl rfl :)
theorem dL_law_1193 : decode cL_law 1193 = .ok (.iadd, 1) := (zd_q96 zhL_law_1140 47 80083943424 rfl rfl :)
theorem dL_law_1194 : decode cL_law 1194 = .ok (.iaload, 1) := (zd_q46 zhL_law_1140 48 80147775488 rfl rfl :)
theorem dL_law_1195 : decode cL_law 1195 = .ok (.aload_n 0, 1) := (zd_q42 zhL_law_1140 49 80214622208 rfl rfl :)
theorem dL_law_1196 : decode cL_law 1196 = .ok (.iload_n 3, 1) := (zd_q29 zhL_law_1140 50 80280879104 rfl rfl :)
theorem dL_law_1197 : decode cL_law 1197 = .ok (.iconst 4, 1) := (zd_q7 zhL_law_1140 51 80346546176 rfl rfl :)
theorem dL_law_1198 : decode cL_law 1198 = .ok (.iadd, 1) := (zd_q96 zhL_law_1140 52 80419487744 rfl rfl :)
theorem dL_law_1199 : decode cL_law 1199 = .ok (.iaload, 1) := (zd_q46 zhL_law_1140 53 80483319808 rfl rfl :)
theorem dL_law_1200 : decode cL_law 1200 = .ok (.invokevirtual 136, 3) := (zd_q182 zhL_law_1140 54 80592896136 rfl rfl :)
theorem dL_law_1203 : decode cL_law 1203 = .ok (.pop, 1) := (zd_q87 zhL_law_1140 55 80754442240 rfl rfl :)
theorem dL_law_1204 : decode cL_law 1204 = .ok (.aload_n 2, 1) := (zd_q44 zhL_law_1140 56 80818733056 rfl rfl :)
theorem dL_law_1205 : decode cL_law 1205 = .ok (.aload_n 0, 1) := (zd_q42 zhL_law_1140 57 80885710848 rfl rfl :)
theorem dL_law_1206 : decode cL_law 1206 = .ok (.iload_n 3, 1) := (zd_q29 zhL_law_1140 58 80951967744 rfl rfl :)
theorem dL_law_1207 : decode cL_law 1207 = .ok (.iconst 1, 1) := (zd_q4 zhL_law_1140 59 81017438208 rfl rfl :)
theorem dL_law_1208 : decode cL_law 1208 = .ok (.iadd, 1) := (zd_q96 zhL_law_1140 60 81090576384 rfl rfl :)
theorem dL_law_1209 : decode cL_law 1209 = .ok (.iaload, 1) := (zd_q46 zhL_law_1140 61 81154408448 rfl rfl :)
theorem dL_law_1210 : decode cL_law 1210 = .ok (.aload_n 0, 1) := (zd_q42 zhL_law_1140 62 81221255168 rfl rfl :)
theorem dL_law_1211 : decode cL_law 1211 = .ok (.iload_n 3, 1) := (zd_q29 zhL_law_1140 63 81287512064 rfl rfl :)
theorem dL_law_1212 : decode cL_law 1212 = .ok (.iconst 2, 1) := (zd_q5 zhL_law_1140 64 81353048064 rfl rfl :)
theorem dL_law_1213 : decode cL_law 1213 = .ok (.iadd, 1) := (zd_q96 zhL_law_1140 65 81426120704 rfl rfl :)
theorem dL_law_1214 : decode cL_law 1214 = .ok (.iaload, 1) := (zd_q46 zhL_law_1140 66 81489952768 rfl rfl :)
theorem dL_law_1215 : decode cL_law 1215 = .ok (.aload_n 0, 1) := (zd_q42 zhL_law_1140 67 81556799488 rfl rfl :)
theorem dL_law_1216 : decode cL_law 1216 = .ok (.iload_n 3, 1) := (zd_q29 zhL_law_1140 68 81623056384 rfl rfl :)
theorem dL_law_1217 : decode cL_law 1217 = .ok (.iconst 3, 1) := (zd_q6 zhL_law_1140 69 81688657920 rfl rfl :)
theorem dL_law_1218 : decode cL_law 1218 = .ok (.iadd, 1) := (zd_q96 zhL_law_1140 70 81761665024 rfl rfl :)
theorem dL_law_1219 : decode cL_law 1219 = .ok (.iaload, 1) := (zd_q46 zhL_law_1140 71 81825497088 rfl rfl :)
theorem dL_law_1220 : decode cL_law 1220 = .ok (.aload_n 0, 1) := (zd_q42 zhL_law_1140 72 81892343808 rfl rfl :)
theorem dL_law_1221 : decode cL_law 1221 = .ok (.iload_n 3, 1) := (zd_q29 zhL_law_1140 73 81958600704 rfl rfl :)
theorem dL_law_1222 : decode cL_law 1222 = .ok (.iconst 4, 1) := (zd_q7 zhL_law_1140 74 82024267776 rfl rfl :)
theorem dL_law_1223 : decode cL_law 1223 = .ok (.iadd, 1) := (zd_q96 zhL_law_1140 75 82097209344 rfl rfl :)
theorem dL_law_1224 : decode cL_law 1224 = .ok (.iaload, 1) := (zd_q46 zhL_law_1140 76 82161041408 rfl rfl :)
theorem dL_law_1225 : decode cL_law 1225 = .ok (.invokevirtual 139, 3) := (zd_q182 zhL_law_1140 77 82270617739 rfl rfl :)
theorem dL_law_1228 : decode cL_law 1228 = .ok (.pop, 1) := (zd_q87 zhL_law_1140 78 82432163840 rfl rfl :)
theorem dL_law_1229 : decode cL_law 1229 = .ok (.goto 36, 3) := (zd_q167 zhL_law_1140 79 82538070052 rfl rfl :)
theorem dL_law_1232 : decode cL_law 1232 = .ok (.aload_n 1, 1) := (zd_q43 zhL_law_1140 80 82697715712 rfl rfl :)
theorem dL_law_1233 : decode cL_law 1233 = .ok (.aload_n 0, 1) := (zd_q42 zhL_law_1140 81 82764759040 rfl rfl :)
theorem dL_law_1234 : decode cL_law 1234 = .ok (.iload_n 3, 1) := (zd_q29 zhL_law_1140 82 82831015936 rfl rfl :)
theorem dL_law_1235 : decode cL_law 1235 = .ok (.iconst 1, 1) := (zd_q4 zhL_law_1140 83 82896486400 rfl rfl :)
theorem dL_law_1236 : decode cL_law 1236 = .ok (.iadd, 1) := (zd_q96 zhL_law_1140 84 82969624576 rfl rfl :)
theorem dL_law_1237 : decode cL_law 1237 = .ok (.iaload, 1) := (zd_q46 zhL_law_1140 85 83033456640 rfl rfl :)
theorem dL_law_1238 : decode cL_law 1238 = .ok (.aload_n 0, 1) := (zd_q42 zhL_law_1140 86 83100303360 rfl rfl :)
theorem dL_law_1239 : decode cL_law 1239 = .ok (.iload_n 3, 1) := (zd_q29 zhL_law_1140 87 83166560256 rfl rfl :)
theorem dL_law_1240 : decode cL_law 1240 = .ok (.iconst 2, 1) := (zd_q5 zhL_law_1140 88 83232096256 rfl rfl :)
theorem dL_law_1241 : decode cL_law 1241 = .ok (.iadd, 1) := (zd_q96 zhL_law_1140 89 83305168896 rfl rfl :)
theorem dL_law_1242 : decode cL_law 1242 = .ok (.iaload, 1) := (zd_q46 zhL_law_1140 90 83369000960 rfl rfl :)
theorem dL_law_1243 : decode cL_law 1243 = .ok (.invokevirtual 140, 3) := (zd_q182 zhL_law_1140 91 83478577292 rfl rfl :)
theorem dL_law_1246 : decode cL_law 1246 = .ok (.aload_n 2, 1) := (zd_q44 zhL_law_1140 92 83637305344 rfl rfl :)
theorem dL_law_1247 : decode cL_law 1247 = .ok (.aload_n 0, 1) := (zd_q42 zhL_law_1140 93 83704283136 rfl rfl :)
theorem dL_law_1248 : decode cL_law 1248 = .ok (.iload_n 3, 1) := (zd_q29 zhL_law_1140 94 83770540032 rfl rfl :)
theorem dL_law_1249 : decode cL_law 1249 = .ok (.iconst 1, 1) := (zd_q4 zhL_law_1140 95 83836010496 rfl rfl :)
theorem dL_law_1250 : decode cL_law 1250 = .ok (.iadd, 1) := (zd_q96 zhL_law_1140 96 83909148672 rfl rfl :)
theorem dL_law_1251 : decode cL_law 1251 = .ok (.iaload, 1) := (zd_q46 zhL_law_1140 97 83972980736 rfl rfl :)
theorem dL_law_1252 : decode cL_law 1252 = .ok (.aload_n 0, 1) := (zd_q42 zhL_law_1140 98 84039827456 rfl rfl :)
theorem dL_law_1253 : decode cL_law 1253 = .ok (.iload_n 3, 1) := (zd_q29 zhL_law_1140 99 84106084352 rfl rfl :)
theorem dL_law_1254 : decode cL_law 1254 = .ok (.iconst 2, 1) := (zd_q5 zhL_law_1140 100 84171620352 rfl rfl :)
theorem dL_law_1255 : decode cL_law 1255 = .ok (.iadd, 1) := (zd_q96 zhL_law_1140 101 84244692992 rfl rfl :)
theorem dL_law_1256 : decode cL_law 1256 = .ok (.iaload, 1) := (zd_q46 zhL_law_1140 102 84308525056 rfl rfl :)
theorem dL_law_1257 : decode cL_law 1257 = .ok (.invokevirtual 143, 3) := (zd_q182 zhL_law_1140 103 84418101391 rfl rfl :)
theorem dL_law_1260 : decode cL_law 1260 = .ok (.if_icmp .eq 5, 3) := (zd_q159 zhL_law_1140 104 84617920517 rfl rfl :)
theorem dL_law_1265 : decode cL_law 1265 = .ok (.iinc 3 6, 3) := (zd_q132 zhL_law_1140 107 84951696134 rfl rfl :)
theorem dL_law_1268 : decode cL_law 1268 = .ok (.goto (-1250), 3) := (zd_q167 zhL_law_1140 108 85155379998 rfl rfl :)
theorem dL_law_1271 : decode cL_law 1271 = .ok (.iconst 1, 1) := (zd_q4 zhL_law_1140 109 85312405504 rfl rfl :)
theorem dL_law_1272 : decode cL_law 1272 = .ok (.ireturn, 1) := (zd_q172 zhL_law_1140 110 85390524416 rfl rfl :)
end
section
/-! THE WORLD OF THE CLAIM: the class's cells (kinds 0 .. 23), the reference's (30 .. 50) -/
def tabC : List (Nat × Nat) := [(0, 1), (1, 1), (2, 6), (3, 6), (4, 6), (5, 6), (6, 1), (7, 4), (8, 4), (9, 1), (10, 1), (11, 1), (12, 1), (13, 1), (14, 1), (15, 1), (16, 1), (17, 1), (18, 3), (19, 3), (20, 3), (21, 15), (22, 15), (23, 15)]
def tabR : List (Nat × Nat) := [(30, 1), (31, 1), (32, 1), (33, 1), (34, 1), (35, 1), (36, 1), (37, 1), (38, 1), (39, 1), (40, 1), (41, 1), (42, 1), (43, 1), (44, 1), (45, 1), (46, 1), (47, 1), (48, 1), (49, 1), (50, 1)]
def idsOf (t : List (Nat × Nat)) : List (Nat × Nat) := t.flatMap (fun q => (List.range q.2).map (fun i => (q.1, i)))
theorem mem_ids {t : List (Nat × Nat)} {k n i : Nat} (h : (k, n) ∈ t) (hi : i < n) : (k, i) ∈ idsOf t := List.mem_flatMap.mpr ⟨(k, n), h, List.mem_map.mpr ⟨i, List.mem_range.mpr hi, rfl⟩⟩
def idsC : List (Nat × Nat) := idsOf tabC
def idsR : List (Nat × Nat) := idsOf tabR
theorem ndC : idsC.Nodup := by decide +kernel
theorem ndR : idsR.Nodup := by decide +kernel
/-- a kind's shape -/
def shp : Nat → (Nat × Nat) ⊕ (Nat × Nat)
  | 0 => .inl (7, 10)
  | 1 => .inr (2, 6)
  | 2 => .inl (5, 4)
  | 3 => .inr (0, 160)
  | 4 => .inr (0, 3)
  | 5 => .inr (0, 31)
  | 6 => .inr (3, 4)
  | 7 => .inl (4, 3)
  | 8 => .inr (0, 40)
  | 9 => .inl (1, 7)
  | 10 => .inr (0, 50)
  | 11 => .inr (0, 50)
  | 12 => .inr (0, 24)
  | 13 => .inr (0, 1024)
  | 14 => .inl (3, 8)
  | 15 => .inr (0, 160)
  | 16 => .inl (0, 5)
  | 17 => .inr (0, 6)
  | 18 => .inl (6, 8)
  | 19 => .inr (4, 5)
  | 20 => .inr (0, 6)
  | 21 => .inl (2, 4)
  | 22 => .inr (0, 10)
  | 23 => .inr (0, 10)
  | 30 => .inl (8, 55)
  | 31 => .inr (0, 960)
  | 32 => .inr (0, 6)
  | 33 => .inr (0, 160)
  | 34 => .inr (0, 5)
  | 35 => .inr (0, 5)
  | 36 => .inr (0, 50)
  | 37 => .inr (0, 50)
  | 38 => .inr (0, 50)
  | 39 => .inr (0, 50)
  | 40 => .inr (0, 50)
  | 41 => .inr (0, 50)
  | 42 => .inr (0, 50)
  | 43 => .inr (0, 50)
  | 44 => .inr (0, 5)
  | 45 => .inr (0, 50)
  | 46 => .inr (0, 50)
  | 47 => .inr (1, 4)
  | 48 => .inr (0, 4)
  | 49 => .inr (0, 4)
  | _ => .inr (0, 160)
/-- a field's sort: 0 int or boolean, 1 reference, 2 long -/
def fks (k s : Nat) : Nat := match k with
  | 0 => if s < 8 then 1 else 0
  | 2 => if s < 3 then 1 else 0
  | 7 => if s < 1 then 1 else 0
  | 9 => if s < 4 then 1 else 0
  | 14 => if s = 0 ∨ s = 7 then 1 else 0
  | 16 => if s < 2 then 1 else 0
  | 18 => if s < 3 then 1 else 0
  | 21 => if s < 2 then 0 else 1
  | 30 => if s = 26 then 2 else if s = 1 ∨ s = 2 ∨ s = 5 ∨ s = 10 ∨ s = 11 ∨ s = 13 ∨ s = 14 ∨ s = 34 ∨ s = 35 ∨ s = 36 ∨ s = 37 ∨ s = 41 ∨ s = 42 ∨ s = 43 ∨ s = 44 ∨ s = 45 ∨ 51 ≤ s then 1 else 0
  | _ => 0
/-- who refers to whom; bt, rt: the text that Bite, Reader look at -/
def rs (bt rt : Nat) (k i s : Nat) : Option (Nat × Nat) := match k with
  | 0 => match s with
    | 0 => some (1, 0)
    | 1 => some (6, 0)
    | 2 => some (9, 0)
    | 3 => some (14, 0)
    | 4 => some (16, 0)
    | 5 => some (18, 0)
    | 6 => some (18, 1)
    | _ => some (18, 2)
  | 1 => some (2, s)
  | 2 => match s with
    | 0 => some (3, i)
    | 1 => some (4, i)
    | _ => some (5, i)
  | 6 => some (7, s)
  | 7 => some (8, i)
  | 9 => match s with
    | 0 => some (10, 0)
    | 1 => some (11, 0)
    | 2 => some (12, 0)
    | _ => some (13, 0)
  | 14 => match s with
    | 0 => some (15, 0)
    | 7 => if i = 0 then some (2, rt) else none
    | _ => none
  | 16 => match s with
    | 0 => some (17, 0)
    | 1 => if i = 0 then some (2, bt) else none
    | _ => none
  | 18 => match s with
    | 0 => some (1, 0)
    | 1 => some (19, i)
    | _ => some (20, i)
  | 19 => some (21, 5 * i + s)
  | 21 => match s with
    | 2 => some (22, i)
    | _ => some (23, i)
  | 30 => match s with
    | 1 => some (31, 0)
    | 2 => some (32, 0)
    | 5 => some (33, 0)
    | 10 => some (34, 0)
    | 11 => some (35, 0)
    | 13 => some (36, 0)
    | 14 => some (37, 0)
    | 34 => some (38, 0)
    | 35 => some (39, 0)
    | 36 => some (40, 0)
    | 37 => some (41, 0)
    | 41 => some (42, 0)
    | 42 => some (43, 0)
    | 43 => some (44, 0)
    | 44 => some (45, 0)
    | 45 => some (46, 0)
    | 51 => some (47, 0)
    | 52 => some (48, 0)
    | 53 => some (49, 0)
    | _ => some (50, 0)
  | _ => none
def wdC : Wd := (idsC, shp, fks)
def wdR : Wd := (idsR, shp, fks)
/-! what holds around the world: nest mates' words, the String constants, a static of String -/
def lenS : List Nat := [4, 4, 4, 6, 3, 5, 6, 5, 6, 2, 3, 3, 46]
def bytS : List (List Int32) := [[119, 111, 114, 100], [102, 111, 111, 100], [104, 111, 117, 114], [110, 117, 109, 98, 101, 114], [103, 97, 112], [115, 116, 117, 99, 107], [115, 116, 105, 99, 107, 115], [108, 97, 115, 116, 115], [115, 104, 97, 109, 101, 115], [111, 114], [97, 110, 100], [110, 111, 116], [115, 116, 105, 99, 107, 115, 32, 119, 111, 114, 100, 32, 43, 32, 102, 111, 111, 100, 32, 42, 32, 51, 32, 59, 32, 108, 97, 115, 116, 115, 32, 53, 32, 59, 32, 115, 104, 97, 109, 101, 115, 32, 49, 48, 32, 59]]
/-- where each constant is resolved: class, entry, text, its place -/
def refS : List (String × Nat × String × Nat) := [("AWordStuck$Reader", 118, "word", 0), ("AWordStuck$Reader", 120, "food", 1), ("AWordStuck$Reader", 122, "hour", 2), ("AWordStuck$Reader", 124, "number", 3), ("AWordStuck$Reader", 126, "gap", 4), ("AWordStuck$Reader", 128, "stuck", 5), ("AWordStuck$Reader", 130, "sticks", 6), ("AWordStuck$Reader", 132, "lasts", 7), ("AWordStuck$Reader", 134, "shames", 8), ("AWordStuck$Reader", 136, "or", 9), ("AWordStuck$Reader", 138, "and", 10), ("AWordStuck$Reader", 140, "not", 11), ("AWordStuck", 61, "sticks word + food * 3 ; lasts 5 ; shames 10 ;", 12)]
def fmtZ (ad : Ads) (A : Nat → Prop) (U : State) (H : Heap) : Prop := va_Z "jdk/internal/util/Preconditions" "SIOOBE_FORMATTER" "Ljava/util/function/BiFunction;" .null A U H ∨ va_Z "jdk/internal/util/Preconditions" "SIOOBE_FORMATTER" "Ljava/util/function/BiFunction;" (.ref (ad 97 0)) A U H
def AMx (ad : Ads) (A : Nat → Prop) (U : State) : Prop := (∀ w ∈ NF, va_Nw w U) ∧ vk_S 13 lenS bytS (ad 99) (ad 98) A U U.heap ∧ (∀ q ∈ refS, vk_R q.1 q.2.1 q.2.2.1 (ad 99 q.2.2.2) U) ∧ va_Z "java/lang/String" "COMPACT_STRINGS" "Z" (.int 1) A U U.heap ∧ fmtZ ad A U U.heap
theorem AMx_ok : amok AMx := by
  refine ⟨fun ad A A' s U locs h hS hW hA => ⟨nf_warm hW h.1, ?_, fun q hq => vk_R.warm hW (h.2.2.1 q hq), ?_, ?_⟩, fun ad A u U hh hv h => ⟨nf_same hv.symm h.1, ?_, fun q hq => vk_R.same hv (h.2.2.1 q hq), ?_, ?_⟩⟩
  · exact vk_S.moved hW.alike (vk_S.narrow (vk_S.kept h.2.1 hS.2.1) hA)
  · exact va_Z.moved hW.alike (va_Z.narrow (va_Z.kept h.2.2.2.1 hS.2.1) hA)
  · rcases h.2.2.2.2 with h5 | h5
    · exact Or.inl (va_Z.moved hW.alike (va_Z.narrow (va_Z.kept h5 hS.2.1) hA))
    · exact Or.inr (va_Z.moved hW.alike (va_Z.narrow (va_Z.kept h5 hS.2.1) hA))
  · rw [hh]
    exact vk_S.moved (by rw [hv]; exact Vm.Alike.refl _) h.2.1
  · rw [hh]
    exact va_Z.moved (by rw [hv]; exact Vm.Alike.refl _) h.2.2.2.1
  · rw [hh]
    rcases h.2.2.2.2 with h5 | h5
    · exact Or.inl (va_Z.moved (by rw [hv]; exact Vm.Alike.refl _) h5)
    · exact Or.inr (va_Z.moved (by rw [hv]; exact Vm.Alike.refl _) h5)
abbrev GS : Type := va_G × (Nat → ClassId)
def XC (G : GS) : XS := (G.1, vwCl, G.2, wdC, AMx, TB)
def XR (G : GS) : XS := (G.1, vwCl, G.2, wdR, AMx, TB)
theorem tb_ok : ∀ w ∈ TB, goodWord w = true := fun w h => (List.mem_filter.mp h).2
theorem okC (G : GS) : xok (XC G) := ⟨ndC, AMx_ok, tb_ok⟩
theorem okR (G : GS) : xok (XR G) := ⟨ndR, AMx_ok, tb_ok⟩
theorem rs_bt {bt rt j : Nat} : up (rs bt rt) 16 0 1 (some (2, j)) = rs j rt := by
  funext k i s
  unfold up
  by_cases h : k = 16 ∧ i = 0 ∧ s = 1
  · obtain ⟨rfl, rfl, rfl⟩ := h
    rfl
  · rw [if_neg h]
    unfold rs
    split <;> try rfl
    split <;> try rfl
    split
    · exact absurd ⟨rfl, by assumption, rfl⟩ h
    · rfl
theorem rs_rt {bt rt j : Nat} : up (rs bt rt) 14 0 7 (some (2, j)) = rs bt j := by
  funext k i s
  unfold up
  by_cases h : k = 14 ∧ i = 0 ∧ s = 7
  · obtain ⟨rfl, rfl, rfl⟩ := h
    rfl
  · rw [if_neg h]
    unfold rs
    split <;> try rfl
    split <;> try rfl
    split
    · exact absurd ⟨rfl, by assumption, rfl⟩ h
    · rfl
theorem wp_pad {M : MS} {X : XS} {ad : Ads} {Y : YS} {post : Option SV → Mem → Prop} {pc : Nat} {ls : List (Option SV)} {st : List SV} {m : Mem} (n : Nat) (k : Wp M X ad Y post pc (ls ++ List.replicate n none) st m) : Wp M X ad Y post pc ls st m := by
  intro H locs a hP hS hl
  refine k H locs a hP hS ⟨hl.1, hl.2.1, fun i v hv => ?_⟩
  by_cases h : i < ls.length
  · rw [List.getElem?_append_left h] at hv
    exact hl.2.2 i v hv
  · rw [List.getElem?_append_right (by omega)] at hv
    have := List.eq_of_mem_replicate (List.mem_of_getElem? hv)
    cases this
theorem up_app {α : Type} (f : Nat → Nat → Nat → α) (k i s : Nat) (x : α) (k' i' s' : Nat) : up f k i s x k' i' s' = if k' = k ∧ i' = i ∧ s' = s then x else f k' i' s' := rfl
end
section
abbrev Y_X0_init : YS := (RX0, cX0_init, 2, none, 2)
theorem k_X0_init : mOk TB yX0_init (Y_X0_init) 1 := ⟨cd_X0_init, in_X0, ⟨by decide, by decide⟩, by decide +kernel, Nat.le_of_ble_eq_true rfl⟩
abbrev Y_X0_look : YS := (RX0, cX0_look, 5, none, 1)
theorem k_X0_look : mOk TB yX0_look (Y_X0_look) 3 := ⟨cd_X0_look, in_X0, ⟨by decide, by decide⟩, by decide +kernel, Nat.le_of_ble_eq_true rfl⟩
theorem v_X0_look : mV TB yX0_look := ⟨im_X0_look, sl_X0_look⟩
abbrev Y_X0_holds : YS := (RX0, cX0_holds, 3, (some FieldType.int), 4)
theorem k_X0_holds : mOk TB yX0_holds (Y_X0_holds) 2 := ⟨cd_X0_holds, in_X0, ⟨by decide, by decide⟩, by decide +kernel, Nat.le_of_ble_eq_true rfl⟩
theorem v_X0_holds : mV TB yX0_holds := ⟨im_X0_holds, sl_X0_holds⟩
abbrev Y_X0_goesOffIn : YS := (RX0, cX0_goesOffIn, 3, (some FieldType.int), 5)
theorem k_X0_goesOffIn : mOk TB yX0_goesOffIn (Y_X0_goesOffIn) 1 := ⟨cd_X0_goesOffIn, in_X0, ⟨by decide, by decide⟩, by decide +kernel, Nat.le_of_ble_eq_true rfl⟩
theorem v_X0_goesOffIn : mV TB yX0_goesOffIn := ⟨im_X0_goesOffIn, sl_X0_goesOffIn⟩
abbrev Y_X0_bears : YS := (RX0, cX0_bears, 3, (some FieldType.int), 3)
theorem k_X0_bears : mOk TB yX0_bears (Y_X0_bears) 2 := ⟨cd_X0_bears, in_X0, ⟨by decide, by decide⟩, by decide +kernel, Nat.le_of_ble_eq_true rfl⟩
theorem v_X0_bears : mV TB yX0_bears := ⟨im_X0_bears, sl_X0_bears⟩
abbrev Y_X1_init : YS := (RX1, cX1_init, 1, none, 2)
theorem k_X1_init : mOk TB yX1_init (Y_X1_init) 0 := ⟨cd_X1_init, in_X1, ⟨by decide, by decide⟩, by decide +kernel, Nat.le_of_ble_eq_true rfl⟩
abbrev Y_X1_look : YS := (RX1, cX1_look, 5, none, 6)
theorem k_X1_look : mOk TB yX1_look (Y_X1_look) 3 := ⟨cd_X1_look, in_X1, ⟨by decide, by decide⟩, by decide +kernel, Nat.le_of_ble_eq_true rfl⟩
theorem v_X1_look : mV TB yX1_look := ⟨im_X1_look, sl_X1_look⟩
abbrev Y_X1_note : YS := (RX1, cX1_note, 3, none, 1)
theorem k_X1_note : mOk TB yX1_note (Y_X1_note) 2 := ⟨cd_X1_note, in_X1, ⟨by decide, by decide⟩, by decide +kernel, Nat.le_of_ble_eq_true rfl⟩
theorem v_X1_note : mV TB yX1_note := ⟨im_X1_note, sl_X1_note⟩
abbrev Y_X1_lookAtChurch : YS := (RX1, cX1_lookAtChurch, 6, none, 4)
theorem k_X1_lookAtChurch : mOk TB yX1_lookAtChurch (Y_X1_lookAtChurch) 2 := ⟨cd_X1_lookAtChurch, in_X1, ⟨by decide, by decide⟩, by decide +kernel, Nat.le_of_ble_eq_true rfl⟩
theorem v_X1_lookAtChurch : mV TB yX1_lookAtChurch := ⟨im_X1_lookAtChurch, sl_X1_lookAtChurch⟩
abbrev Y_X1_dearest : YS := (RX1, cX1_dearest, 4, (some FieldType.int), 1)
theorem k_X1_dearest : mOk TB yX1_dearest (Y_X1_dearest) 0 := ⟨cd_X1_dearest, in_X1, ⟨by decide, by decide⟩, by decide +kernel, Nat.le_of_ble_eq_true rfl⟩
theorem v_X1_dearest : mV TB yX1_dearest := ⟨im_X1_dearest, sl_X1_dearest⟩
abbrev Y_X1_fewest : YS := (RX1, cX1_fewest, 5, (some FieldType.int), 2)
theorem k_X1_fewest : mOk TB yX1_fewest (Y_X1_fewest) 2 := ⟨cd_X1_fewest, in_X1, ⟨by decide, by decide⟩, by decide +kernel, Nat.le_of_ble_eq_true rfl⟩
theorem v_X1_fewest : mV TB yX1_fewest := ⟨im_X1_fewest, sl_X1_fewest⟩
abbrev Y_X2_takes : YS := (RX2, cX2_takes, 2, (some FieldType.int), 1)
theorem k_X2_takes : mOk TB yX2_takes (Y_X2_takes) 2 := ⟨cd_X2_takes, in_X2, ⟨by decide, by decide⟩, by decide +kernel, Nat.le_of_ble_eq_true rfl⟩
abbrev Y_X2_holds : YS := (RX2, cX2_holds, 3, (some FieldType.int), 3)
theorem k_X2_holds : mOk TB yX2_holds (Y_X2_holds) 3 := ⟨cd_X2_holds, in_X2, ⟨by decide, by decide⟩, by decide +kernel, Nat.le_of_ble_eq_true rfl⟩
abbrev Y_X2_heldFor : YS := (RX2, cX2_heldFor, 3, (some FieldType.int), 2)
theorem k_X2_heldFor : mOk TB yX2_heldFor (Y_X2_heldFor) 3 := ⟨cd_X2_heldFor, in_X2, ⟨by decide, by decide⟩, by decide +kernel, Nat.le_of_ble_eq_true rfl⟩
abbrev Y_X2_bears : YS := (RX2, cX2_bears, 5, (some FieldType.int), 1)
theorem k_X2_bears : mOk TB yX2_bears (Y_X2_bears) 4 := ⟨cd_X2_bears, in_X2, ⟨by decide, by decide⟩, by decide +kernel, Nat.le_of_ble_eq_true rfl⟩
abbrev Y_X2_isUnder : YS := (RX2, cX2_isUnder, 4, (some FieldType.boolean), 2)
theorem k_X2_isUnder : mOk TB yX2_isUnder (Y_X2_isUnder) 2 := ⟨cd_X2_isUnder, in_X2, ⟨by decide, by decide⟩, by decide +kernel, Nat.le_of_ble_eq_true rfl⟩
abbrev Y_X2_above : YS := (RX2, cX2_above, 1, (some FieldType.int), 1)
theorem k_X2_above : mOk TB yX2_above (Y_X2_above) 1 := ⟨cd_X2_above, in_X2, ⟨by decide, by decide⟩, by decide +kernel, Nat.le_of_ble_eq_true rfl⟩
abbrev Y_X3_init : YS := (RX3, cX3_init, 1, none, 2)
theorem k_X3_init : mOk TB yX3_init (Y_X3_init) 0 := ⟨cd_X3_init, in_X3, ⟨by decide, by decide⟩, by decide +kernel, Nat.le_of_ble_eq_true rfl⟩
abbrev Y_X3_become : YS := (RX3, cX3_become, 2, none, 2)
theorem k_X3_become : mOk TB yX3_become (Y_X3_become) 1 := ⟨cd_X3_become, in_X3, ⟨by decide, by decide⟩, by decide +kernel, Nat.le_of_ble_eq_true rfl⟩
theorem v_X3_become : mV TB yX3_become := ⟨im_X3_become, sl_X3_become⟩
abbrev Y_X3_empty : YS := (RX3, cX3_empty, 3, (some FieldType.int), 1)
theorem k_X3_empty : mOk TB yX3_empty (Y_X3_empty) 1 := ⟨cd_X3_empty, in_X3, ⟨by decide, by decide⟩, by decide +kernel, Nat.le_of_ble_eq_true rfl⟩
theorem v_X3_empty : mV TB yX3_empty := ⟨im_X3_empty, sl_X3_empty⟩
abbrev Y_X3_stuckInAll : YS := (RX3, cX3_stuckInAll, 3, (some FieldType.int), 1)
theorem k_X3_stuckInAll : mOk TB yX3_stuckInAll (Y_X3_stuckInAll) 0 := ⟨cd_X3_stuckInAll, in_X3, ⟨by decide, by decide⟩, by decide +kernel, Nat.le_of_ble_eq_true rfl⟩
theorem v_X3_stuckInAll : mV TB yX3_stuckInAll := ⟨im_X3_stuckInAll, sl_X3_stuckInAll⟩
abbrev Y_X4_init : YS := (RX4, cX4_init, 2, none, 2)
theorem k_X4_init : mOk TB yX4_init (Y_X4_init) 1 := ⟨cd_X4_init, in_X4, ⟨by decide, by decide⟩, by decide +kernel, Nat.le_of_ble_eq_true rfl⟩
abbrev Y_X4_put : YS := (RX4, cX4_put, 2, (some FieldType.int), 1)
theorem k_X4_put : mOk TB yX4_put (Y_X4_put) 1 := ⟨cd_X4_put, in_X4, ⟨by decide, by decide⟩, by decide +kernel, Nat.le_of_ble_eq_true rfl⟩
theorem v_X4_put : mV TB yX4_put := ⟨im_X4_put, sl_X4_put⟩
abbrev Y_X4_read : YS := (RX4, cX4_read, 3, (some FieldType.int), 47)
theorem k_X4_read : mOk TB yX4_read (Y_X4_read) 1 := ⟨cd_X4_read, in_X4, ⟨by decide, by decide⟩, by decide +kernel, Nat.le_of_ble_eq_true rfl⟩
theorem v_X4_read : mV TB yX4_read := ⟨im_X4_read, sl_X4_read⟩
abbrev Y_X4_at : YS := (RX4, cX4_at, 2, (some FieldType.boolean), 1)
theorem k_X4_at : mOk TB yX4_at (Y_X4_at) 1 := ⟨cd_X4_at, in_X4, ⟨by decide, by decide⟩, by decide +kernel, Nat.le_of_ble_eq_true rfl⟩
theorem v_X4_at : mV TB yX4_at := ⟨im_X4_at, sl_X4_at⟩
abbrev Y_X4_fail : YS := (RX4, cX4_fail, 1, none, 1)
theorem k_X4_fail : mOk TB yX4_fail (Y_X4_fail) 0 := ⟨cd_X4_fail, in_X4, ⟨by decide, by decide⟩, by decide +kernel, Nat.le_of_ble_eq_true rfl⟩
theorem v_X4_fail : mV TB yX4_fail := ⟨im_X4_fail, sl_X4_fail⟩
abbrev Y_X4_expect : YS := (RX4, cX4_expect, 2, none, 10)
theorem k_X4_expect : mOk TB yX4_expect (Y_X4_expect) 1 := ⟨cd_X4_expect, in_X4, ⟨by decide, by decide⟩, by decide +kernel, Nat.le_of_ble_eq_true rfl⟩
theorem v_X4_expect : mV TB yX4_expect := ⟨im_X4_expect, sl_X4_expect⟩
abbrev Y_X4_either (o : Nat) : YS := (RX4, cX4_either, 3, none, 16 + 6 * (5 - o))
theorem k_X4_either (o : Nat) : mOk TB yX4_either (Y_X4_either o) 1 := ⟨cd_X4_either, in_X4, ⟨by decide, by decide⟩, by decide +kernel, Nat.le_of_ble_eq_true rfl⟩
theorem v_X4_either : mV TB yX4_either := ⟨im_X4_either, sl_X4_either⟩
abbrev Y_X4_both (o : Nat) : YS := (RX4, cX4_both, 3, none, 15 + 6 * (5 - o))
theorem k_X4_both (o : Nat) : mOk TB yX4_both (Y_X4_both o) 1 := ⟨cd_X4_both, in_X4, ⟨by decide, by decide⟩, by decide +kernel, Nat.le_of_ble_eq_true rfl⟩
theorem v_X4_both : mV TB yX4_both := ⟨im_X4_both, sl_X4_both⟩
abbrev Y_X4_denial (o : Nat) : YS := (RX4, cX4_denial, 4, none, 14 + 6 * (5 - o))
theorem k_X4_denial (o : Nat) : mOk TB yX4_denial (Y_X4_denial o) 1 := ⟨cd_X4_denial, in_X4, ⟨by decide, by decide⟩, by decide +kernel, Nat.le_of_ble_eq_true rfl⟩
theorem v_X4_denial : mV TB yX4_denial := ⟨im_X4_denial, sl_X4_denial⟩
abbrev Y_X4_sum (o : Nat) : YS := (RX4, cX4_sum, 4, none, 13 + 6 * (5 - o))
theorem k_X4_sum (o : Nat) : mOk TB yX4_sum (Y_X4_sum o) 1 := ⟨cd_X4_sum, in_X4, ⟨by decide, by decide⟩, by decide +kernel, Nat.le_of_ble_eq_true rfl⟩
theorem v_X4_sum : mV TB yX4_sum := ⟨im_X4_sum, sl_X4_sum⟩
abbrev Y_X4_term (o : Nat) : YS := (RX4, cX4_term, 3, none, 12 + 6 * (5 - o))
theorem k_X4_term (o : Nat) : mOk TB yX4_term (Y_X4_term o) 1 := ⟨cd_X4_term, in_X4, ⟨by decide, by decide⟩, by decide +kernel, Nat.le_of_ble_eq_true rfl⟩
theorem v_X4_term : mV TB yX4_term := ⟨im_X4_term, sl_X4_term⟩
abbrev Y_X4_one (o : Nat) : YS := (RX4, cX4_one, 4, none, 11 + 6 * (5 - o))
theorem k_X4_one (o : Nat) : mOk TB yX4_one (Y_X4_one o) 1 := ⟨cd_X4_one, in_X4, ⟨by decide, by decide⟩, by decide +kernel, Nat.le_of_ble_eq_true rfl⟩
theorem v_X4_one : mV TB yX4_one := ⟨im_X4_one, sl_X4_one⟩
abbrev Y_X4_openAll : YS := (RX4, cX4_openAll, 4, (some FieldType.int), 10)
theorem k_X4_openAll : mOk TB yX4_openAll (Y_X4_openAll) 2 := ⟨cd_X4_openAll, in_X4, ⟨by decide, by decide⟩, by decide +kernel, Nat.le_of_ble_eq_true rfl⟩
theorem v_X4_openAll : mV TB yX4_openAll := ⟨im_X4_openAll, sl_X4_openAll⟩
abbrev Y_X4_advance : YS := (RX4, cX4_advance, 1, none, 9)
theorem k_X4_advance : mOk TB yX4_advance (Y_X4_advance) 0 := ⟨cd_X4_advance, in_X4, ⟨by decide, by decide⟩, by decide +kernel, Nat.le_of_ble_eq_true rfl⟩
theorem v_X4_advance : mV TB yX4_advance := ⟨im_X4_advance, sl_X4_advance⟩
abbrev Y_X4_readWord : YS := (RX4, cX4_readWord, 2, none, 8)
theorem k_X4_readWord : mOk TB yX4_readWord (Y_X4_readWord) 0 := ⟨cd_X4_readWord, in_X4, ⟨by decide, by decide⟩, by decide +kernel, Nat.le_of_ble_eq_true rfl⟩
theorem v_X4_readWord : mV TB yX4_readWord := ⟨im_X4_readWord, sl_X4_readWord⟩
abbrev Y_X4_stands : YS := (RX4, cX4_stands, 3, (some FieldType.boolean), 7)
theorem k_X4_stands : mOk TB yX4_stands (Y_X4_stands) 1 := ⟨cd_X4_stands, in_X4, ⟨by decide, by decide⟩, by decide +kernel, Nat.le_of_ble_eq_true rfl⟩
theorem v_X4_stands : mV TB yX4_stands := ⟨im_X4_stands, sl_X4_stands⟩
abbrev Y_X4_known : YS := (RX4, cX4_known, 1, (some (FieldType.object "java/lang/String")), 1)
theorem k_X4_known : mOk TB yX4_known (Y_X4_known) 1 := ⟨cd_X4_known, in_X4, ⟨by decide, by decide⟩, by decide +kernel, Nat.le_of_ble_eq_true rfl⟩
abbrev Y_X4_readNumber : YS := (RX4, cX4_readNumber, 1, none, 2)
theorem k_X4_readNumber : mOk TB yX4_readNumber (Y_X4_readNumber) 0 := ⟨cd_X4_readNumber, in_X4, ⟨by decide, by decide⟩, by decide +kernel, Nat.le_of_ble_eq_true rfl⟩
theorem v_X4_readNumber : mV TB yX4_readNumber := ⟨im_X4_readNumber, sl_X4_readNumber⟩
abbrev Y_X4_readSign : YS := (RX4, cX4_readSign, 3, none, 1)
theorem k_X4_readSign : mOk TB yX4_readSign (Y_X4_readSign) 0 := ⟨cd_X4_readSign, in_X4, ⟨by decide, by decide⟩, by decide +kernel, Nat.le_of_ble_eq_true rfl⟩
theorem v_X4_readSign : mV TB yX4_readSign := ⟨im_X4_readSign, sl_X4_readSign⟩
abbrev Y_X4_isLetter : YS := (RX4, cX4_isLetter, 1, (some FieldType.boolean), 1)
theorem k_X4_isLetter : mOk TB yX4_isLetter (Y_X4_isLetter) 1 := ⟨cd_X4_isLetter, in_X4, ⟨by decide, by decide⟩, by decide +kernel, Nat.le_of_ble_eq_true rfl⟩
abbrev Y_X4_isDigit : YS := (RX4, cX4_isDigit, 1, (some FieldType.boolean), 1)
theorem k_X4_isDigit : mOk TB yX4_isDigit (Y_X4_isDigit) 1 := ⟨cd_X4_isDigit, in_X4, ⟨by decide, by decide⟩, by decide +kernel, Nat.le_of_ble_eq_true rfl⟩
abbrev Y_X5_init : YS := (RX5, cX5_init, 1, none, 2)
theorem k_X5_init : mOk TB yX5_init (Y_X5_init) 0 := ⟨cd_X5_init, in_X5, ⟨by decide, by decide⟩, by decide +kernel, Nat.le_of_ble_eq_true rfl⟩
abbrev Y_X5_isMissing : YS := (RX5, cX5_isMissing, 1, (some FieldType.boolean), 1)
theorem k_X5_isMissing : mOk TB yX5_isMissing (Y_X5_isMissing) 0 := ⟨cd_X5_isMissing, in_X5, ⟨by decide, by decide⟩, by decide +kernel, Nat.le_of_ble_eq_true rfl⟩
theorem v_X5_isMissing : mV TB yX5_isMissing := ⟨im_X5_isMissing, sl_X5_isMissing⟩
abbrev Y_X5_become : YS := (RX5, cX5_become, 4, none, 1)
theorem k_X5_become : mOk TB yX5_become (Y_X5_become) 2 := ⟨cd_X5_become, in_X5, ⟨by decide, by decide⟩, by decide +kernel, Nat.le_of_ble_eq_true rfl⟩
theorem v_X5_become : mV TB yX5_become := ⟨im_X5_become, sl_X5_become⟩
abbrev Y_X5_put : YS := (RX5, cX5_put, 3, none, 1)
theorem k_X5_put : mOk TB yX5_put (Y_X5_put) 2 := ⟨cd_X5_put, in_X5, ⟨by decide, by decide⟩, by decide +kernel, Nat.le_of_ble_eq_true rfl⟩
theorem v_X5_put : mV TB yX5_put := ⟨im_X5_put, sl_X5_put⟩
abbrev Y_X5_holds : YS := (RX5, cX5_holds, 3, (some FieldType.boolean), 1)
theorem k_X5_holds : mOk TB yX5_holds (Y_X5_holds) 2 := ⟨cd_X5_holds, in_X5, ⟨by decide, by decide⟩, by decide +kernel, Nat.le_of_ble_eq_true rfl⟩
theorem v_X5_holds : mV TB yX5_holds := ⟨im_X5_holds, sl_X5_holds⟩
abbrev Y_X6_init : YS := (RX6, cX6_init, 1, none, 2)
theorem k_X6_init : mOk TB yX6_init (Y_X6_init) 0 := ⟨cd_X6_init, in_X6, ⟨by decide, by decide⟩, by decide +kernel, Nat.le_of_ble_eq_true rfl⟩
abbrev Y_X6_clear : YS := (RX6, cX6_clear, 1, none, 1)
theorem k_X6_clear : mOk TB yX6_clear (Y_X6_clear) 0 := ⟨cd_X6_clear, in_X6, ⟨by decide, by decide⟩, by decide +kernel, Nat.le_of_ble_eq_true rfl⟩
theorem v_X6_clear : mV TB yX6_clear := ⟨im_X6_clear, sl_X6_clear⟩
abbrev Y_X6_add : YS := (RX6, cX6_add, 2, none, 1)
theorem k_X6_add : mOk TB yX6_add (Y_X6_add) 1 := ⟨cd_X6_add, in_X6, ⟨by decide, by decide⟩, by decide +kernel, Nat.le_of_ble_eq_true rfl⟩
theorem v_X6_add : mV TB yX6_add := ⟨im_X6_add, sl_X6_add⟩
abbrev Y_X6_endPart : YS := (RX6, cX6_endPart, 2, none, 1)
theorem k_X6_endPart : mOk TB yX6_endPart (Y_X6_endPart) 1 := ⟨cd_X6_endPart, in_X6, ⟨by decide, by decide⟩, by decide +kernel, Nat.le_of_ble_eq_true rfl⟩
theorem v_X6_endPart : mV TB yX6_endPart := ⟨im_X6_endPart, sl_X6_endPart⟩
abbrev Y_X6_tell : YS := (RX6, cX6_tell, 5, (some FieldType.int), 2)
theorem k_X6_tell : mOk TB yX6_tell (Y_X6_tell) 2 := ⟨cd_X6_tell, in_X6, ⟨by decide, by decide⟩, by decide +kernel, Nat.le_of_ble_eq_true rfl⟩
theorem v_X6_tell : mV TB yX6_tell := ⟨im_X6_tell, sl_X6_tell⟩
abbrev Y_X6_put : YS := (RX6, cX6_put, 4, (some FieldType.int), 1)
theorem k_X6_put : mOk TB yX6_put (Y_X6_put) 3 := ⟨cd_X6_put, in_X6, ⟨by decide, by decide⟩, by decide +kernel, Nat.le_of_ble_eq_true rfl⟩
theorem v_X6_put : mV TB yX6_put := ⟨im_X6_put, sl_X6_put⟩
abbrev Y_X6_join : YS := (RX6, cX6_join, 6, (some FieldType.int), 1)
theorem k_X6_join : mOk TB yX6_join (Y_X6_join) 2 := ⟨cd_X6_join, in_X6, ⟨by decide, by decide⟩, by decide +kernel, Nat.le_of_ble_eq_true rfl⟩
theorem v_X6_join : mV TB yX6_join := ⟨im_X6_join, sl_X6_join⟩
abbrev Y_X7_init : YS := (RX7, cX7_init, 3, none, 3)
theorem k_X7_init : mOk TB yX7_init (Y_X7_init) 1 := ⟨cd_X7_init, in_X7, ⟨by decide, by decide⟩, by decide +kernel, Nat.le_of_ble_eq_true rfl⟩
abbrev Y_X7_become : YS := (RX7, cX7_become, 3, none, 3)
theorem k_X7_become : mOk TB yX7_become (Y_X7_become) 1 := ⟨cd_X7_become, in_X7, ⟨by decide, by decide⟩, by decide +kernel, Nat.le_of_ble_eq_true rfl⟩
theorem v_X7_become : mV TB yX7_become := ⟨im_X7_become, sl_X7_become⟩
abbrev Y_X7_welcome : YS := (RX7, cX7_welcome, 5, (some FieldType.int), 1)
theorem k_X7_welcome : mOk TB yX7_welcome (Y_X7_welcome) 2 := ⟨cd_X7_welcome, in_X7, ⟨by decide, by decide⟩, by decide +kernel, Nat.le_of_ble_eq_true rfl⟩
theorem v_X7_welcome : mV TB yX7_welcome := ⟨im_X7_welcome, sl_X7_welcome⟩
abbrev Y_X7_takes : YS := (RX7, cX7_takes, 5, (some FieldType.int), 3)
theorem k_X7_takes : mOk TB yX7_takes (Y_X7_takes) 3 := ⟨cd_X7_takes, in_X7, ⟨by decide, by decide⟩, by decide +kernel, Nat.le_of_ble_eq_true rfl⟩
theorem v_X7_takes : mV TB yX7_takes := ⟨im_X7_takes, sl_X7_takes⟩
abbrev Y_X7_utter : YS := (RX7, cX7_utter, 6, (some FieldType.int), 4)
theorem k_X7_utter : mOk TB yX7_utter (Y_X7_utter) 3 := ⟨cd_X7_utter, in_X7, ⟨by decide, by decide⟩, by decide +kernel, Nat.le_of_ble_eq_true rfl⟩
theorem v_X7_utter : mV TB yX7_utter := ⟨im_X7_utter, sl_X7_utter⟩
abbrev Y_X7_handOn : YS := (RX7, cX7_handOn, 7, (some FieldType.int), 2)
theorem k_X7_handOn : mOk TB yX7_handOn (Y_X7_handOn) 2 := ⟨cd_X7_handOn, in_X7, ⟨by decide, by decide⟩, by decide +kernel, Nat.le_of_ble_eq_true rfl⟩
theorem v_X7_handOn : mV TB yX7_handOn := ⟨im_X7_handOn, sl_X7_handOn⟩
abbrev Y_X7_pass : YS := (RX7, cX7_pass, 5, (some FieldType.int), 6)
theorem k_X7_pass : mOk TB yX7_pass (Y_X7_pass) 1 := ⟨cd_X7_pass, in_X7, ⟨by decide, by decide⟩, by decide +kernel, Nat.le_of_ble_eq_true rfl⟩
theorem v_X7_pass : mV TB yX7_pass := ⟨im_X7_pass, sl_X7_pass⟩
abbrev Y_X7_stuckInAll : YS := (RX7, cX7_stuckInAll, 3, (some FieldType.int), 2)
theorem k_X7_stuckInAll : mOk TB yX7_stuckInAll (Y_X7_stuckInAll) 0 := ⟨cd_X7_stuckInAll, in_X7, ⟨by decide, by decide⟩, by decide +kernel, Nat.le_of_ble_eq_true rfl⟩
theorem v_X7_stuckInAll : mV TB yX7_stuckInAll := ⟨im_X7_stuckInAll, sl_X7_stuckInAll⟩
abbrev Y_X7_isChurchIn : YS := (RX7, cX7_isChurchIn, 2, (some FieldType.boolean), 1)
theorem k_X7_isChurchIn : mOk TB yX7_isChurchIn (Y_X7_isChurchIn) 1 := ⟨cd_X7_isChurchIn, in_X7, ⟨by decide, by decide⟩, by decide +kernel, Nat.le_of_ble_eq_true rfl⟩
theorem v_X7_isChurchIn : mV TB yX7_isChurchIn := ⟨im_X7_isChurchIn, sl_X7_isChurchIn⟩
abbrev Y_X8_init : YS := (RX8, cX8_init, 2, none, 48)
theorem k_X8_init : mOk TB yX8_init (Y_X8_init) 0 := ⟨cd_X8_init, in_X8, ⟨by decide, by decide⟩, by decide +kernel, Nat.le_of_ble_eq_true rfl⟩
abbrev Y_X8_set : YS := (RX8, cX8_set, 6, (some FieldType.int), 3)
theorem k_X8_set : mOk TB yX8_set (Y_X8_set) 3 := ⟨cd_X8_set, in_X8, ⟨by decide, by decide⟩, by decide +kernel, Nat.le_of_ble_eq_true rfl⟩
theorem v_X8_set : mV TB yX8_set := ⟨im_X8_set, sl_X8_set⟩
abbrev Y_X8_setHour : YS := (RX8, cX8_setHour, 3, (some FieldType.int), 1)
theorem k_X8_setHour : mOk TB yX8_setHour (Y_X8_setHour) 1 := ⟨cd_X8_setHour, in_X8, ⟨by decide, by decide⟩, by decide +kernel, Nat.le_of_ble_eq_true rfl⟩
theorem v_X8_setHour : mV TB yX8_setHour := ⟨im_X8_setHour, sl_X8_setHour⟩
abbrev Y_X8_setChurch : YS := (RX8, cX8_setChurch, 3, (some FieldType.int), 2)
theorem k_X8_setChurch : mOk TB yX8_setChurch (Y_X8_setChurch) 1 := ⟨cd_X8_setChurch, in_X8, ⟨by decide, by decide⟩, by decide +kernel, Nat.le_of_ble_eq_true rfl⟩
theorem v_X8_setChurch : mV TB yX8_setChurch := ⟨im_X8_setChurch, sl_X8_setChurch⟩
abbrev Y_X8_man : YS := (RX8, cX8_man, 3, (some FieldType.int), 2)
theorem k_X8_man : mOk TB yX8_man (Y_X8_man) 2 := ⟨cd_X8_man, in_X8, ⟨by decide, by decide⟩, by decide +kernel, Nat.le_of_ble_eq_true rfl⟩
theorem v_X8_man : mV TB yX8_man := ⟨im_X8_man, sl_X8_man⟩
abbrev Y_X8_told : YS := (RX8, cX8_told, 4, (some FieldType.int), 6)
theorem k_X8_told : mOk TB yX8_told (Y_X8_told) 2 := ⟨cd_X8_told, in_X8, ⟨by decide, by decide⟩, by decide +kernel, Nat.le_of_ble_eq_true rfl⟩
theorem v_X8_told : mV TB yX8_told := ⟨im_X8_told, sl_X8_told⟩
abbrev Y_X8_toldOfGap : YS := (RX8, cX8_toldOfGap, 5, (some FieldType.int), 5)
theorem k_X8_toldOfGap : mOk TB yX8_toldOfGap (Y_X8_toldOfGap) 3 := ⟨cd_X8_toldOfGap, in_X8, ⟨by decide, by decide⟩, by decide +kernel, Nat.le_of_ble_eq_true rfl⟩
theorem v_X8_toldOfGap : mV TB yX8_toldOfGap := ⟨im_X8_toldOfGap, sl_X8_toldOfGap⟩
abbrev Y_X8_fill : YS := (RX8, cX8_fill, 7, (some FieldType.int), 3)
theorem k_X8_fill : mOk TB yX8_fill (Y_X8_fill) 4 := ⟨cd_X8_fill, in_X8, ⟨by decide, by decide⟩, by decide +kernel, Nat.le_of_ble_eq_true rfl⟩
theorem v_X8_fill : mV TB yX8_fill := ⟨im_X8_fill, sl_X8_fill⟩
abbrev Y_X8_feed : YS := (RX8, cX8_feed, 2, (some FieldType.int), 2)
theorem k_X8_feed : mOk TB yX8_feed (Y_X8_feed) 1 := ⟨cd_X8_feed, in_X8, ⟨by decide, by decide⟩, by decide +kernel, Nat.le_of_ble_eq_true rfl⟩
theorem v_X8_feed : mV TB yX8_feed := ⟨im_X8_feed, sl_X8_feed⟩
abbrev Y_X8_text : YS := (RX8, cX8_text, 2, (some FieldType.int), 48)
theorem k_X8_text : mOk TB yX8_text (Y_X8_text) 0 := ⟨cd_X8_text, in_X8, ⟨by decide, by decide⟩, by decide +kernel, Nat.le_of_ble_eq_true rfl⟩
theorem v_X8_text : mV TB yX8_text := ⟨im_X8_text, sl_X8_text⟩
abbrev Y_X8_force : YS := (RX8, cX8_force, 3, (some FieldType.int), 2)
theorem k_X8_force : mOk TB yX8_force (Y_X8_force) 1 := ⟨cd_X8_force, in_X8, ⟨by decide, by decide⟩, by decide +kernel, Nat.le_of_ble_eq_true rfl⟩
theorem v_X8_force : mV TB yX8_force := ⟨im_X8_force, sl_X8_force⟩
abbrev Y_X8_say : YS := (RX8, cX8_say, 4, (some FieldType.int), 5)
theorem k_X8_say : mOk TB yX8_say (Y_X8_say) 3 := ⟨cd_X8_say, in_X8, ⟨by decide, by decide⟩, by decide +kernel, Nat.le_of_ble_eq_true rfl⟩
theorem v_X8_say : mV TB yX8_say := ⟨im_X8_say, sl_X8_say⟩
abbrev Y_X8_floss : YS := (RX8, cX8_floss, 3, (some FieldType.int), 3)
theorem k_X8_floss : mOk TB yX8_floss (Y_X8_floss) 2 := ⟨cd_X8_floss, in_X8, ⟨by decide, by decide⟩, by decide +kernel, Nat.le_of_ble_eq_true rfl⟩
theorem v_X8_floss : mV TB yX8_floss := ⟨im_X8_floss, sl_X8_floss⟩
abbrev Y_X8_kiss : YS := (RX8, cX8_kiss, 3, (some FieldType.int), 3)
theorem k_X8_kiss : mOk TB yX8_kiss (Y_X8_kiss) 2 := ⟨cd_X8_kiss, in_X8, ⟨by decide, by decide⟩, by decide +kernel, Nat.le_of_ble_eq_true rfl⟩
theorem v_X8_kiss : mV TB yX8_kiss := ⟨im_X8_kiss, sl_X8_kiss⟩
abbrev Y_X8_live : YS := (RX8, cX8_live, 1, (some FieldType.int), 7)
theorem k_X8_live : mOk TB yX8_live (Y_X8_live) 0 := ⟨cd_X8_live, in_X8, ⟨by decide, by decide⟩, by decide +kernel, Nat.le_of_ble_eq_true rfl⟩
theorem v_X8_live : mV TB yX8_live := ⟨im_X8_live, sl_X8_live⟩
abbrev Y_X8_run : YS := (RX8, cX8_run, 4, (some FieldType.int), 7)
theorem k_X8_run : mOk TB yX8_run (Y_X8_run) 2 := ⟨cd_X8_run, in_X8, ⟨by decide, by decide⟩, by decide +kernel, Nat.le_of_ble_eq_true rfl⟩
theorem v_X8_run : mV TB yX8_run := ⟨im_X8_run, sl_X8_run⟩
abbrev Y_X8_off : YS := (RX8, cX8_off, 4, (some FieldType.int), 6)
theorem k_X8_off : mOk TB yX8_off (Y_X8_off) 3 := ⟨cd_X8_off, in_X8, ⟨by decide, by decide⟩, by decide +kernel, Nat.le_of_ble_eq_true rfl⟩
theorem v_X8_off : mV TB yX8_off := ⟨im_X8_off, sl_X8_off⟩
abbrev Y_X8_foods : YS := (RX8, cX8_foods, 6, (some FieldType.int), 4)
theorem k_X8_foods : mOk TB yX8_foods (Y_X8_foods) 3 := ⟨cd_X8_foods, in_X8, ⟨by decide, by decide⟩, by decide +kernel, Nat.le_of_ble_eq_true rfl⟩
theorem v_X8_foods : mV TB yX8_foods := ⟨im_X8_foods, sl_X8_foods⟩
abbrev Y_X8_best : YS := (RX8, cX8_best, 4, (some FieldType.int), 7)
theorem k_X8_best : mOk TB yX8_best (Y_X8_best) 2 := ⟨cd_X8_best, in_X8, ⟨by decide, by decide⟩, by decide +kernel, Nat.le_of_ble_eq_true rfl⟩
theorem v_X8_best : mV TB yX8_best := ⟨im_X8_best, sl_X8_best⟩
abbrev Y_X8_few : YS := (RX8, cX8_few, 4, (some FieldType.int), 7)
theorem k_X8_few : mOk TB yX8_few (Y_X8_few) 3 := ⟨cd_X8_few, in_X8, ⟨by decide, by decide⟩, by decide +kernel, Nat.le_of_ble_eq_true rfl⟩
theorem v_X8_few : mV TB yX8_few := ⟨im_X8_few, sl_X8_few⟩
abbrev Y_X8_kissing : YS := (RX8, cX8_kissing, 8, (some FieldType.int), 7)
theorem k_X8_kissing : mOk TB yX8_kissing (Y_X8_kissing) 2 := ⟨cd_X8_kissing, in_X8, ⟨by decide, by decide⟩, by decide +kernel, Nat.le_of_ble_eq_true rfl⟩
theorem v_X8_kissing : mV TB yX8_kissing := ⟨im_X8_kissing, sl_X8_kissing⟩
abbrev Y_X8_shameAfterKiss : YS := (RX8, cX8_shameAfterKiss, 8, (some FieldType.int), 6)
theorem k_X8_shameAfterKiss : mOk TB yX8_shameAfterKiss (Y_X8_shameAfterKiss) 3 := ⟨cd_X8_shameAfterKiss, in_X8, ⟨by decide, by decide⟩, by decide +kernel, Nat.le_of_ble_eq_true rfl⟩
theorem v_X8_shameAfterKiss : mV TB yX8_shameAfterKiss := ⟨im_X8_shameAfterKiss, sl_X8_shameAfterKiss⟩
abbrev Y_X8_church : YS := (RX8, cX8_church, 5, (some FieldType.int), 7)
theorem k_X8_church : mOk TB yX8_church (Y_X8_church) 2 := ⟨cd_X8_church, in_X8, ⟨by decide, by decide⟩, by decide +kernel, Nat.le_of_ble_eq_true rfl⟩
theorem v_X8_church : mV TB yX8_church := ⟨im_X8_church, sl_X8_church⟩
abbrev Y_X8_plan : YS := (RX8, cX8_plan, 5, (some FieldType.int), 8)
theorem k_X8_plan : mOk TB yX8_plan (Y_X8_plan) 2 := ⟨cd_X8_plan, in_X8, ⟨by decide, by decide⟩, by decide +kernel, Nat.le_of_ble_eq_true rfl⟩
theorem v_X8_plan : mV TB yX8_plan := ⟨im_X8_plan, sl_X8_plan⟩
abbrev Y_X8_isPlan : YS := (RX8, cX8_isPlan, 3, (some FieldType.boolean), 4)
theorem k_X8_isPlan : mOk TB yX8_isPlan (Y_X8_isPlan) 1 := ⟨cd_X8_isPlan, in_X8, ⟨by decide, by decide⟩, by decide +kernel, Nat.le_of_ble_eq_true rfl⟩
theorem v_X8_isPlan : mV TB yX8_isPlan := ⟨im_X8_isPlan, sl_X8_isPlan⟩
abbrev Y_X8_isStep : YS := (RX8, cX8_isStep, 5, (some FieldType.boolean), 3)
theorem k_X8_isStep : mOk TB yX8_isStep (Y_X8_isStep) 4 := ⟨cd_X8_isStep, in_X8, ⟨by decide, by decide⟩, by decide +kernel, Nat.le_of_ble_eq_true rfl⟩
theorem v_X8_isStep : mV TB yX8_isStep := ⟨im_X8_isStep, sl_X8_isStep⟩
abbrev Y_X8_take : YS := (RX8, cX8_take, 5, none, 7)
theorem k_X8_take : mOk TB yX8_take (Y_X8_take) 4 := ⟨cd_X8_take, in_X8, ⟨by decide, by decide⟩, by decide +kernel, Nat.le_of_ble_eq_true rfl⟩
theorem v_X8_take : mV TB yX8_take := ⟨im_X8_take, sl_X8_take⟩
abbrev Y_X8_tells : YS := (RX8, cX8_tells, 6, (some FieldType.int), 8)
theorem k_X8_tells : mOk TB yX8_tells (Y_X8_tells) 3 := ⟨cd_X8_tells, in_X8, ⟨by decide, by decide⟩, by decide +kernel, Nat.le_of_ble_eq_true rfl⟩
theorem v_X8_tells : mV TB yX8_tells := ⟨im_X8_tells, sl_X8_tells⟩
abbrev Y_X8_firstOtherwise : YS := (RX8, cX8_firstOtherwise, 6, (some FieldType.int), 6)
theorem k_X8_firstOtherwise : mOk TB yX8_firstOtherwise (Y_X8_firstOtherwise) 4 := ⟨cd_X8_firstOtherwise, in_X8, ⟨by decide, by decide⟩, by decide +kernel, Nat.le_of_ble_eq_true rfl⟩
theorem v_X8_firstOtherwise : mV TB yX8_firstOtherwise := ⟨im_X8_firstOtherwise, sl_X8_firstOtherwise⟩
abbrev Y_X8_allAsTold : YS := (RX8, cX8_allAsTold, 7, (some FieldType.int), 7)
theorem k_X8_allAsTold : mOk TB yX8_allAsTold (Y_X8_allAsTold) 3 := ⟨cd_X8_allAsTold, in_X8, ⟨by decide, by decide⟩, by decide +kernel, Nat.le_of_ble_eq_true rfl⟩
theorem v_X8_allAsTold : mV TB yX8_allAsTold := ⟨im_X8_allAsTold, sl_X8_allAsTold⟩
abbrev Y_X8_wordsAsTold : YS := (RX8, cX8_wordsAsTold, 4, (some FieldType.int), 6)
theorem k_X8_wordsAsTold : mOk TB yX8_wordsAsTold (Y_X8_wordsAsTold) 1 := ⟨cd_X8_wordsAsTold, in_X8, ⟨by decide, by decide⟩, by decide +kernel, Nat.le_of_ble_eq_true rfl⟩
theorem v_X8_wordsAsTold : mV TB yX8_wordsAsTold := ⟨im_X8_wordsAsTold, sl_X8_wordsAsTold⟩
abbrev Y_X8_agesAsTold : YS := (RX8, cX8_agesAsTold, 5, (some FieldType.int), 6)
theorem k_X8_agesAsTold : mOk TB yX8_agesAsTold (Y_X8_agesAsTold) 2 := ⟨cd_X8_agesAsTold, in_X8, ⟨by decide, by decide⟩, by decide +kernel, Nat.le_of_ble_eq_true rfl⟩
theorem v_X8_agesAsTold : mV TB yX8_agesAsTold := ⟨im_X8_agesAsTold, sl_X8_agesAsTold⟩
abbrev Y_X8_film : YS := (RX8, cX8_film, 4, (some FieldType.int), 6)
theorem k_X8_film : mOk TB yX8_film (Y_X8_film) 2 := ⟨cd_X8_film, in_X8, ⟨by decide, by decide⟩, by decide +kernel, Nat.le_of_ble_eq_true rfl⟩
theorem v_X8_film : mV TB yX8_film := ⟨im_X8_film, sl_X8_film⟩
abbrev Y_X8_drawn : YS := (RX8, cX8_drawn, 4, (some FieldType.int), 6)
theorem k_X8_drawn : mOk TB yX8_drawn (Y_X8_drawn) 3 := ⟨cd_X8_drawn, in_X8, ⟨by decide, by decide⟩, by decide +kernel, Nat.le_of_ble_eq_true rfl⟩
theorem v_X8_drawn : mV TB yX8_drawn := ⟨im_X8_drawn, sl_X8_drawn⟩
abbrev Y_X8_stuckByDraw : YS := (RX8, cX8_stuckByDraw, 7, (some FieldType.int), 5)
theorem k_X8_stuckByDraw : mOk TB yX8_stuckByDraw (Y_X8_stuckByDraw) 3 := ⟨cd_X8_stuckByDraw, in_X8, ⟨by decide, by decide⟩, by decide +kernel, Nat.le_of_ble_eq_true rfl⟩
theorem v_X8_stuckByDraw : mV TB yX8_stuckByDraw := ⟨im_X8_stuckByDraw, sl_X8_stuckByDraw⟩
abbrev Y_X8_chance : YS := (RX8, cX8_chance, 7, (some FieldType.long), 6)
theorem k_X8_chance : mOk TB yX8_chance (Y_X8_chance) 4 := ⟨cd_X8_chance, in_X8, ⟨by decide, by decide⟩, by decide +kernel, Nat.le_of_ble_eq_true rfl⟩
theorem v_X8_chance : mV TB yX8_chance := ⟨im_X8_chance, sl_X8_chance⟩
abbrev Y_X8_commonDivisor : YS := (RX8, cX8_commonDivisor, 3, (some FieldType.int), 1)
theorem k_X8_commonDivisor : mOk TB yX8_commonDivisor (Y_X8_commonDivisor) 2 := ⟨cd_X8_commonDivisor, in_X8, ⟨by decide, by decide⟩, by decide +kernel, Nat.le_of_ble_eq_true rfl⟩
abbrev Y_X8_image : YS := (RX8, cX8_image, 1, (some FieldType.int), 4)
theorem k_X8_image : mOk TB yX8_image (Y_X8_image) 0 := ⟨cd_X8_image, in_X8, ⟨by decide, by decide⟩, by decide +kernel, Nat.le_of_ble_eq_true rfl⟩
theorem v_X8_image : mV TB yX8_image := ⟨im_X8_image, sl_X8_image⟩
abbrev Y_X8_back : YS := (RX8, cX8_back, 1, (some FieldType.int), 4)
theorem k_X8_back : mOk TB yX8_back (Y_X8_back) 0 := ⟨cd_X8_back, in_X8, ⟨by decide, by decide⟩, by decide +kernel, Nat.le_of_ble_eq_true rfl⟩
theorem v_X8_back : mV TB yX8_back := ⟨im_X8_back, sl_X8_back⟩
abbrev Y_X8_count : YS := (RX8, cX8_count, 2, (some FieldType.int), 3)
theorem k_X8_count : mOk TB yX8_count (Y_X8_count) 1 := ⟨cd_X8_count, in_X8, ⟨by decide, by decide⟩, by decide +kernel, Nat.le_of_ble_eq_true rfl⟩
theorem v_X8_count : mV TB yX8_count := ⟨im_X8_count, sl_X8_count⟩
abbrev Y_X8_sheet : YS := (RX8, cX8_sheet, 4, (some FieldType.int), 2)
theorem k_X8_sheet : mOk TB yX8_sheet (Y_X8_sheet) 3 := ⟨cd_X8_sheet, in_X8, ⟨by decide, by decide⟩, by decide +kernel, Nat.le_of_ble_eq_true rfl⟩
theorem v_X8_sheet : mV TB yX8_sheet := ⟨im_X8_sheet, sl_X8_sheet⟩
abbrev Y_X8_cell : YS := (RX8, cX8_cell, 4, (some FieldType.int), 2)
theorem k_X8_cell : mOk TB yX8_cell (Y_X8_cell) 3 := ⟨cd_X8_cell, in_X8, ⟨by decide, by decide⟩, by decide +kernel, Nat.le_of_ble_eq_true rfl⟩
theorem v_X8_cell : mV TB yX8_cell := ⟨im_X8_cell, sl_X8_cell⟩
abbrev Y_X8_copy : YS := (RX8, cX8_copy, 8, (some FieldType.int), 2)
theorem k_X8_copy : mOk TB yX8_copy (Y_X8_copy) 5 := ⟨cd_X8_copy, in_X8, ⟨by decide, by decide⟩, by decide +kernel, Nat.le_of_ble_eq_true rfl⟩
theorem v_X8_copy : mV TB yX8_copy := ⟨im_X8_copy, sl_X8_copy⟩
abbrev Y_X8_people : YS := (RX8, cX8_people, 9, (some FieldType.int), 3)
theorem k_X8_people : mOk TB yX8_people (Y_X8_people) 4 := ⟨cd_X8_people, in_X8, ⟨by decide, by decide⟩, by decide +kernel, Nat.le_of_ble_eq_true rfl⟩
theorem v_X8_people : mV TB yX8_people := ⟨im_X8_people, sl_X8_people⟩
abbrev Y_X8_taken : YS := (RX8, cX8_taken, 4, (some FieldType.int), 3)
theorem k_X8_taken : mOk TB yX8_taken (Y_X8_taken) 2 := ⟨cd_X8_taken, in_X8, ⟨by decide, by decide⟩, by decide +kernel, Nat.le_of_ble_eq_true rfl⟩
theorem v_X8_taken : mV TB yX8_taken := ⟨im_X8_taken, sl_X8_taken⟩
abbrev Y_X8_isOne : YS := (RX8, cX8_isOne, 2, (some FieldType.boolean), 2)
theorem k_X8_isOne : mOk TB yX8_isOne (Y_X8_isOne) 1 := ⟨cd_X8_isOne, in_X8, ⟨by decide, by decide⟩, by decide +kernel, Nat.le_of_ble_eq_true rfl⟩
theorem v_X8_isOne : mV TB yX8_isOne := ⟨im_X8_isOne, sl_X8_isOne⟩
abbrev Y_X8_isSpan : YS := (RX8, cX8_isSpan, 1, (some FieldType.boolean), 1)
theorem k_X8_isSpan : mOk TB yX8_isSpan (Y_X8_isSpan) 1 := ⟨cd_X8_isSpan, in_X8, ⟨by decide, by decide⟩, by decide +kernel, Nat.le_of_ble_eq_true rfl⟩
abbrev Y_X8_within : YS := (RX8, cX8_within, 2, (some FieldType.boolean), 1)
theorem k_X8_within : mOk TB yX8_within (Y_X8_within) 2 := ⟨cd_X8_within, in_X8, ⟨by decide, by decide⟩, by decide +kernel, Nat.le_of_ble_eq_true rfl⟩
abbrev Y_X9_in : YS := (RX9, cX9_in, 6, (some FieldType.boolean), 1)
theorem k_X9_in : mOk TB yX9_in (Y_X9_in) 3 := ⟨cd_X9_in, in_X9, ⟨by decide, by decide⟩, by decide +kernel, Nat.le_of_ble_eq_true rfl⟩
abbrev Y_X9_within : YS := (RX9, cX9_within, 3, (some FieldType.int), 1)
theorem k_X9_within : mOk TB yX9_within (Y_X9_within) 3 := ⟨cd_X9_within, in_X9, ⟨by decide, by decide⟩, by decide +kernel, Nat.le_of_ble_eq_true rfl⟩
abbrev Y_X9_init : YS := (RX9, cX9_init, 1, none, 2)
theorem k_X9_init : mOk TB yX9_init (Y_X9_init) 0 := ⟨cd_X9_init, in_X9, ⟨by decide, by decide⟩, by decide +kernel, Nat.le_of_ble_eq_true rfl⟩
abbrev Y_X9_spell : YS := (RX9, cX9_spell, 10, none, 1)
theorem k_X9_spell : mOk TB yX9_spell (Y_X9_spell) 9 := ⟨cd_X9_spell, in_X9, ⟨by decide, by decide⟩, by decide +kernel, Nat.le_of_ble_eq_true rfl⟩
theorem v_X9_spell : mV TB yX9_spell := ⟨im_X9_spell, sl_X9_spell⟩
abbrev Y_X9_isOne : YS := (RX9, cX9_isOne, 2, (some FieldType.boolean), 2)
theorem k_X9_isOne : mOk TB yX9_isOne (Y_X9_isOne) 1 := ⟨cd_X9_isOne, in_X9, ⟨by decide, by decide⟩, by decide +kernel, Nat.le_of_ble_eq_true rfl⟩
theorem v_X9_isOne : mV TB yX9_isOne := ⟨im_X9_isOne, sl_X9_isOne⟩
abbrev Y_X9_isGap : YS := (RX9, cX9_isGap, 1, (some FieldType.boolean), 2)
theorem k_X9_isGap : mOk TB yX9_isGap (Y_X9_isGap) 1 := ⟨cd_X9_isGap, in_X9, ⟨by decide, by decide⟩, by decide +kernel, Nat.le_of_ble_eq_true rfl⟩
abbrev Y_X9_isWord : YS := (RX9, cX9_isWord, 1, (some FieldType.boolean), 2)
theorem k_X9_isWord : mOk TB yX9_isWord (Y_X9_isWord) 1 := ⟨cd_X9_isWord, in_X9, ⟨by decide, by decide⟩, by decide +kernel, Nat.le_of_ble_eq_true rfl⟩
abbrev Y_X9_set : YS := (RX9, cX9_set, 5, (some FieldType.int), 46)
theorem k_X9_set : mOk TB yX9_set (Y_X9_set) 3 := ⟨cd_X9_set, in_X9, ⟨by decide, by decide⟩, by decide +kernel, Nat.le_of_ble_eq_true rfl⟩
theorem v_X9_set : mV TB yX9_set := ⟨im_X9_set, sl_X9_set⟩
abbrev Y_X9_lays : YS := (RX9, cX9_lays, 4, none, 1)
theorem k_X9_lays : mOk TB yX9_lays (Y_X9_lays) 3 := ⟨cd_X9_lays, in_X9, ⟨by decide, by decide⟩, by decide +kernel, Nat.le_of_ble_eq_true rfl⟩
theorem v_X9_lays : mV TB yX9_lays := ⟨im_X9_lays, sl_X9_lays⟩
abbrev Y_X9_man : YS := (RX9, cX9_man, 4, (some FieldType.int), 2)
theorem k_X9_man : mOk TB yX9_man (Y_X9_man) 2 := ⟨cd_X9_man, in_X9, ⟨by decide, by decide⟩, by decide +kernel, Nat.le_of_ble_eq_true rfl⟩
theorem v_X9_man : mV TB yX9_man := ⟨im_X9_man, sl_X9_man⟩
abbrev Y_X9_told : YS := (RX9, cX9_told, 4, (some FieldType.int), 45)
theorem k_X9_told : mOk TB yX9_told (Y_X9_told) 2 := ⟨cd_X9_told, in_X9, ⟨by decide, by decide⟩, by decide +kernel, Nat.le_of_ble_eq_true rfl⟩
theorem v_X9_told : mV TB yX9_told := ⟨im_X9_told, sl_X9_told⟩
abbrev Y_X9_stuckOf : YS := (RX9, cX9_stuckOf, 4, (some FieldType.int), 1)
theorem k_X9_stuckOf : mOk TB yX9_stuckOf (Y_X9_stuckOf) 1 := ⟨cd_X9_stuckOf, in_X9, ⟨by decide, by decide⟩, by decide +kernel, Nat.le_of_ble_eq_true rfl⟩
theorem v_X9_stuckOf : mV TB yX9_stuckOf := ⟨im_X9_stuckOf, sl_X9_stuckOf⟩
abbrev Y_X9_fill : YS := (RX9, cX9_fill, 7, (some FieldType.int), 3)
theorem k_X9_fill : mOk TB yX9_fill (Y_X9_fill) 4 := ⟨cd_X9_fill, in_X9, ⟨by decide, by decide⟩, by decide +kernel, Nat.le_of_ble_eq_true rfl⟩
theorem v_X9_fill : mV TB yX9_fill := ⟨im_X9_fill, sl_X9_fill⟩
abbrev Y_X9_feed : YS := (RX9, cX9_feed, 2, (some FieldType.int), 2)
theorem k_X9_feed : mOk TB yX9_feed (Y_X9_feed) 1 := ⟨cd_X9_feed, in_X9, ⟨by decide, by decide⟩, by decide +kernel, Nat.le_of_ble_eq_true rfl⟩
theorem v_X9_feed : mV TB yX9_feed := ⟨im_X9_feed, sl_X9_feed⟩
abbrev Y_X9_byteAt : YS := (RX9, cX9_byteAt, 2, (some FieldType.int), 1)
theorem k_X9_byteAt : mOk TB yX9_byteAt (Y_X9_byteAt) 1 := ⟨cd_X9_byteAt, in_X9, ⟨by decide, by decide⟩, by decide +kernel, Nat.le_of_ble_eq_true rfl⟩
theorem v_X9_byteAt : mV TB yX9_byteAt := ⟨im_X9_byteAt, sl_X9_byteAt⟩
abbrev Y_X9_next : YS := (RX9, cX9_next, 3, none, 2)
theorem k_X9_next : mOk TB yX9_next (Y_X9_next) 0 := ⟨cd_X9_next, in_X9, ⟨by decide, by decide⟩, by decide +kernel, Nat.le_of_ble_eq_true rfl⟩
theorem v_X9_next : mV TB yX9_next := ⟨im_X9_next, sl_X9_next⟩
abbrev Y_X9_fail : YS := (RX9, cX9_fail, 1, none, 1)
theorem k_X9_fail : mOk TB yX9_fail (Y_X9_fail) 0 := ⟨cd_X9_fail, in_X9, ⟨by decide, by decide⟩, by decide +kernel, Nat.le_of_ble_eq_true rfl⟩
theorem v_X9_fail : mV TB yX9_fail := ⟨im_X9_fail, sl_X9_fail⟩
abbrev Y_X9_isLetter : YS := (RX9, cX9_isLetter, 3, (some FieldType.boolean), 2)
theorem k_X9_isLetter : mOk TB yX9_isLetter (Y_X9_isLetter) 2 := ⟨cd_X9_isLetter, in_X9, ⟨by decide, by decide⟩, by decide +kernel, Nat.le_of_ble_eq_true rfl⟩
theorem v_X9_isLetter : mV TB yX9_isLetter := ⟨im_X9_isLetter, sl_X9_isLetter⟩
abbrev Y_X9_isWord_ : YS := (RX9, cX9_isWord_, 9, (some FieldType.boolean), 3)
theorem k_X9_isWord_ : mOk TB yX9_isWord_ (Y_X9_isWord_) 8 := ⟨cd_X9_isWord_, in_X9, ⟨by decide, by decide⟩, by decide +kernel, Nat.le_of_ble_eq_true rfl⟩
theorem v_X9_isWord_ : mV TB yX9_isWord_ := ⟨im_X9_isWord_, sl_X9_isWord_⟩
abbrev Y_X9_isSign : YS := (RX9, cX9_isSign, 2, (some FieldType.boolean), 1)
theorem k_X9_isSign : mOk TB yX9_isSign (Y_X9_isSign) 1 := ⟨cd_X9_isSign, in_X9, ⟨by decide, by decide⟩, by decide +kernel, Nat.le_of_ble_eq_true rfl⟩
theorem v_X9_isSign : mV TB yX9_isSign := ⟨im_X9_isSign, sl_X9_isSign⟩
abbrev Y_X9_opens : YS := (RX9, cX9_opens, 1, (some FieldType.boolean), 3)
theorem k_X9_opens : mOk TB yX9_opens (Y_X9_opens) 0 := ⟨cd_X9_opens, in_X9, ⟨by decide, by decide⟩, by decide +kernel, Nat.le_of_ble_eq_true rfl⟩
theorem v_X9_opens : mV TB yX9_opens := ⟨im_X9_opens, sl_X9_opens⟩
abbrev Y_X9_name : YS := (RX9, cX9_name, 1, (some FieldType.int), 4)
theorem k_X9_name : mOk TB yX9_name (Y_X9_name) 0 := ⟨cd_X9_name, in_X9, ⟨by decide, by decide⟩, by decide +kernel, Nat.le_of_ble_eq_true rfl⟩
theorem v_X9_name : mV TB yX9_name := ⟨im_X9_name, sl_X9_name⟩
abbrev Y_X9_atom5 : YS := (RX9, cX9_atom5, 2, (some FieldType.int), 5)
theorem k_X9_atom5 : mOk TB yX9_atom5 (Y_X9_atom5) 0 := ⟨cd_X9_atom5, in_X9, ⟨by decide, by decide⟩, by decide +kernel, Nat.le_of_ble_eq_true rfl⟩
theorem v_X9_atom5 : mV TB yX9_atom5 := ⟨im_X9_atom5, sl_X9_atom5⟩
abbrev Y_X9_term5 : YS := (RX9, cX9_term5, 2, (some FieldType.int), 6)
theorem k_X9_term5 : mOk TB yX9_term5 (Y_X9_term5) 0 := ⟨cd_X9_term5, in_X9, ⟨by decide, by decide⟩, by decide +kernel, Nat.le_of_ble_eq_true rfl⟩
theorem v_X9_term5 : mV TB yX9_term5 := ⟨im_X9_term5, sl_X9_term5⟩
abbrev Y_X9_added5 : YS := (RX9, cX9_added5, 4, (some FieldType.int), 7)
theorem k_X9_added5 : mOk TB yX9_added5 (Y_X9_added5) 0 := ⟨cd_X9_added5, in_X9, ⟨by decide, by decide⟩, by decide +kernel, Nat.le_of_ble_eq_true rfl⟩
theorem v_X9_added5 : mV TB yX9_added5 := ⟨im_X9_added5, sl_X9_added5⟩
abbrev Y_X9_not5 : YS := (RX9, cX9_not5, 4, (some FieldType.int), 8)
theorem k_X9_not5 : mOk TB yX9_not5 (Y_X9_not5) 0 := ⟨cd_X9_not5, in_X9, ⟨by decide, by decide⟩, by decide +kernel, Nat.le_of_ble_eq_true rfl⟩
theorem v_X9_not5 : mV TB yX9_not5 := ⟨im_X9_not5, sl_X9_not5⟩
abbrev Y_X9_both5 : YS := (RX9, cX9_both5, 3, (some FieldType.int), 9)
theorem k_X9_both5 : mOk TB yX9_both5 (Y_X9_both5) 0 := ⟨cd_X9_both5, in_X9, ⟨by decide, by decide⟩, by decide +kernel, Nat.le_of_ble_eq_true rfl⟩
theorem v_X9_both5 : mV TB yX9_both5 := ⟨im_X9_both5, sl_X9_both5⟩
abbrev Y_X9_either5 : YS := (RX9, cX9_either5, 3, (some FieldType.int), 10)
theorem k_X9_either5 : mOk TB yX9_either5 (Y_X9_either5) 0 := ⟨cd_X9_either5, in_X9, ⟨by decide, by decide⟩, by decide +kernel, Nat.le_of_ble_eq_true rfl⟩
theorem v_X9_either5 : mV TB yX9_either5 := ⟨im_X9_either5, sl_X9_either5⟩
abbrev Y_X9_atom4 : YS := (RX9, cX9_atom4, 2, (some FieldType.int), 11)
theorem k_X9_atom4 : mOk TB yX9_atom4 (Y_X9_atom4) 0 := ⟨cd_X9_atom4, in_X9, ⟨by decide, by decide⟩, by decide +kernel, Nat.le_of_ble_eq_true rfl⟩
theorem v_X9_atom4 : mV TB yX9_atom4 := ⟨im_X9_atom4, sl_X9_atom4⟩
abbrev Y_X9_term4 : YS := (RX9, cX9_term4, 2, (some FieldType.int), 12)
theorem k_X9_term4 : mOk TB yX9_term4 (Y_X9_term4) 0 := ⟨cd_X9_term4, in_X9, ⟨by decide, by decide⟩, by decide +kernel, Nat.le_of_ble_eq_true rfl⟩
theorem v_X9_term4 : mV TB yX9_term4 := ⟨im_X9_term4, sl_X9_term4⟩
abbrev Y_X9_added4 : YS := (RX9, cX9_added4, 4, (some FieldType.int), 13)
theorem k_X9_added4 : mOk TB yX9_added4 (Y_X9_added4) 0 := ⟨cd_X9_added4, in_X9, ⟨by decide, by decide⟩, by decide +kernel, Nat.le_of_ble_eq_true rfl⟩
theorem v_X9_added4 : mV TB yX9_added4 := ⟨im_X9_added4, sl_X9_added4⟩
abbrev Y_X9_not4 : YS := (RX9, cX9_not4, 4, (some FieldType.int), 14)
theorem k_X9_not4 : mOk TB yX9_not4 (Y_X9_not4) 0 := ⟨cd_X9_not4, in_X9, ⟨by decide, by decide⟩, by decide +kernel, Nat.le_of_ble_eq_true rfl⟩
theorem v_X9_not4 : mV TB yX9_not4 := ⟨im_X9_not4, sl_X9_not4⟩
abbrev Y_X9_both4 : YS := (RX9, cX9_both4, 3, (some FieldType.int), 15)
theorem k_X9_both4 : mOk TB yX9_both4 (Y_X9_both4) 0 := ⟨cd_X9_both4, in_X9, ⟨by decide, by decide⟩, by decide +kernel, Nat.le_of_ble_eq_true rfl⟩
theorem v_X9_both4 : mV TB yX9_both4 := ⟨im_X9_both4, sl_X9_both4⟩
abbrev Y_X9_either4 : YS := (RX9, cX9_either4, 3, (some FieldType.int), 16)
theorem k_X9_either4 : mOk TB yX9_either4 (Y_X9_either4) 0 := ⟨cd_X9_either4, in_X9, ⟨by decide, by decide⟩, by decide +kernel, Nat.le_of_ble_eq_true rfl⟩
theorem v_X9_either4 : mV TB yX9_either4 := ⟨im_X9_either4, sl_X9_either4⟩
abbrev Y_X9_atom3 : YS := (RX9, cX9_atom3, 2, (some FieldType.int), 17)
theorem k_X9_atom3 : mOk TB yX9_atom3 (Y_X9_atom3) 0 := ⟨cd_X9_atom3, in_X9, ⟨by decide, by decide⟩, by decide +kernel, Nat.le_of_ble_eq_true rfl⟩
theorem v_X9_atom3 : mV TB yX9_atom3 := ⟨im_X9_atom3, sl_X9_atom3⟩
abbrev Y_X9_term3 : YS := (RX9, cX9_term3, 2, (some FieldType.int), 18)
theorem k_X9_term3 : mOk TB yX9_term3 (Y_X9_term3) 0 := ⟨cd_X9_term3, in_X9, ⟨by decide, by decide⟩, by decide +kernel, Nat.le_of_ble_eq_true rfl⟩
theorem v_X9_term3 : mV TB yX9_term3 := ⟨im_X9_term3, sl_X9_term3⟩
abbrev Y_X9_added3 : YS := (RX9, cX9_added3, 4, (some FieldType.int), 19)
theorem k_X9_added3 : mOk TB yX9_added3 (Y_X9_added3) 0 := ⟨cd_X9_added3, in_X9, ⟨by decide, by decide⟩, by decide +kernel, Nat.le_of_ble_eq_true rfl⟩
theorem v_X9_added3 : mV TB yX9_added3 := ⟨im_X9_added3, sl_X9_added3⟩
abbrev Y_X9_not3 : YS := (RX9, cX9_not3, 4, (some FieldType.int), 20)
theorem k_X9_not3 : mOk TB yX9_not3 (Y_X9_not3) 0 := ⟨cd_X9_not3, in_X9, ⟨by decide, by decide⟩, by decide +kernel, Nat.le_of_ble_eq_true rfl⟩
theorem v_X9_not3 : mV TB yX9_not3 := ⟨im_X9_not3, sl_X9_not3⟩
abbrev Y_X9_both3 : YS := (RX9, cX9_both3, 3, (some FieldType.int), 21)
theorem k_X9_both3 : mOk TB yX9_both3 (Y_X9_both3) 0 := ⟨cd_X9_both3, in_X9, ⟨by decide, by decide⟩, by decide +kernel, Nat.le_of_ble_eq_true rfl⟩
theorem v_X9_both3 : mV TB yX9_both3 := ⟨im_X9_both3, sl_X9_both3⟩
abbrev Y_X9_either3 : YS := (RX9, cX9_either3, 3, (some FieldType.int), 22)
theorem k_X9_either3 : mOk TB yX9_either3 (Y_X9_either3) 0 := ⟨cd_X9_either3, in_X9, ⟨by decide, by decide⟩, by decide +kernel, Nat.le_of_ble_eq_true rfl⟩
theorem v_X9_either3 : mV TB yX9_either3 := ⟨im_X9_either3, sl_X9_either3⟩
abbrev Y_X9_atom2 : YS := (RX9, cX9_atom2, 2, (some FieldType.int), 23)
theorem k_X9_atom2 : mOk TB yX9_atom2 (Y_X9_atom2) 0 := ⟨cd_X9_atom2, in_X9, ⟨by decide, by decide⟩, by decide +kernel, Nat.le_of_ble_eq_true rfl⟩
theorem v_X9_atom2 : mV TB yX9_atom2 := ⟨im_X9_atom2, sl_X9_atom2⟩
abbrev Y_X9_term2 : YS := (RX9, cX9_term2, 2, (some FieldType.int), 24)
theorem k_X9_term2 : mOk TB yX9_term2 (Y_X9_term2) 0 := ⟨cd_X9_term2, in_X9, ⟨by decide, by decide⟩, by decide +kernel, Nat.le_of_ble_eq_true rfl⟩
theorem v_X9_term2 : mV TB yX9_term2 := ⟨im_X9_term2, sl_X9_term2⟩
abbrev Y_X9_added2 : YS := (RX9, cX9_added2, 4, (some FieldType.int), 25)
theorem k_X9_added2 : mOk TB yX9_added2 (Y_X9_added2) 0 := ⟨cd_X9_added2, in_X9, ⟨by decide, by decide⟩, by decide +kernel, Nat.le_of_ble_eq_true rfl⟩
theorem v_X9_added2 : mV TB yX9_added2 := ⟨im_X9_added2, sl_X9_added2⟩
abbrev Y_X9_not2 : YS := (RX9, cX9_not2, 4, (some FieldType.int), 26)
theorem k_X9_not2 : mOk TB yX9_not2 (Y_X9_not2) 0 := ⟨cd_X9_not2, in_X9, ⟨by decide, by decide⟩, by decide +kernel, Nat.le_of_ble_eq_true rfl⟩
theorem v_X9_not2 : mV TB yX9_not2 := ⟨im_X9_not2, sl_X9_not2⟩
abbrev Y_X9_both2 : YS := (RX9, cX9_both2, 3, (some FieldType.int), 27)
theorem k_X9_both2 : mOk TB yX9_both2 (Y_X9_both2) 0 := ⟨cd_X9_both2, in_X9, ⟨by decide, by decide⟩, by decide +kernel, Nat.le_of_ble_eq_true rfl⟩
theorem v_X9_both2 : mV TB yX9_both2 := ⟨im_X9_both2, sl_X9_both2⟩
abbrev Y_X9_either2 : YS := (RX9, cX9_either2, 3, (some FieldType.int), 28)
theorem k_X9_either2 : mOk TB yX9_either2 (Y_X9_either2) 0 := ⟨cd_X9_either2, in_X9, ⟨by decide, by decide⟩, by decide +kernel, Nat.le_of_ble_eq_true rfl⟩
theorem v_X9_either2 : mV TB yX9_either2 := ⟨im_X9_either2, sl_X9_either2⟩
abbrev Y_X9_atom1 : YS := (RX9, cX9_atom1, 2, (some FieldType.int), 29)
theorem k_X9_atom1 : mOk TB yX9_atom1 (Y_X9_atom1) 0 := ⟨cd_X9_atom1, in_X9, ⟨by decide, by decide⟩, by decide +kernel, Nat.le_of_ble_eq_true rfl⟩
theorem v_X9_atom1 : mV TB yX9_atom1 := ⟨im_X9_atom1, sl_X9_atom1⟩
abbrev Y_X9_term1 : YS := (RX9, cX9_term1, 2, (some FieldType.int), 30)
theorem k_X9_term1 : mOk TB yX9_term1 (Y_X9_term1) 0 := ⟨cd_X9_term1, in_X9, ⟨by decide, by decide⟩, by decide +kernel, Nat.le_of_ble_eq_true rfl⟩
theorem v_X9_term1 : mV TB yX9_term1 := ⟨im_X9_term1, sl_X9_term1⟩
abbrev Y_X9_added1 : YS := (RX9, cX9_added1, 4, (some FieldType.int), 31)
theorem k_X9_added1 : mOk TB yX9_added1 (Y_X9_added1) 0 := ⟨cd_X9_added1, in_X9, ⟨by decide, by decide⟩, by decide +kernel, Nat.le_of_ble_eq_true rfl⟩
theorem v_X9_added1 : mV TB yX9_added1 := ⟨im_X9_added1, sl_X9_added1⟩
abbrev Y_X9_not1 : YS := (RX9, cX9_not1, 4, (some FieldType.int), 32)
theorem k_X9_not1 : mOk TB yX9_not1 (Y_X9_not1) 0 := ⟨cd_X9_not1, in_X9, ⟨by decide, by decide⟩, by decide +kernel, Nat.le_of_ble_eq_true rfl⟩
theorem v_X9_not1 : mV TB yX9_not1 := ⟨im_X9_not1, sl_X9_not1⟩
abbrev Y_X9_both1 : YS := (RX9, cX9_both1, 3, (some FieldType.int), 33)
theorem k_X9_both1 : mOk TB yX9_both1 (Y_X9_both1) 0 := ⟨cd_X9_both1, in_X9, ⟨by decide, by decide⟩, by decide +kernel, Nat.le_of_ble_eq_true rfl⟩
theorem v_X9_both1 : mV TB yX9_both1 := ⟨im_X9_both1, sl_X9_both1⟩
abbrev Y_X9_either1 : YS := (RX9, cX9_either1, 3, (some FieldType.int), 34)
theorem k_X9_either1 : mOk TB yX9_either1 (Y_X9_either1) 0 := ⟨cd_X9_either1, in_X9, ⟨by decide, by decide⟩, by decide +kernel, Nat.le_of_ble_eq_true rfl⟩
theorem v_X9_either1 : mV TB yX9_either1 := ⟨im_X9_either1, sl_X9_either1⟩
abbrev Y_X9_atom0 : YS := (RX9, cX9_atom0, 2, (some FieldType.int), 35)
theorem k_X9_atom0 : mOk TB yX9_atom0 (Y_X9_atom0) 0 := ⟨cd_X9_atom0, in_X9, ⟨by decide, by decide⟩, by decide +kernel, Nat.le_of_ble_eq_true rfl⟩
theorem v_X9_atom0 : mV TB yX9_atom0 := ⟨im_X9_atom0, sl_X9_atom0⟩
abbrev Y_X9_term0 : YS := (RX9, cX9_term0, 2, (some FieldType.int), 36)
theorem k_X9_term0 : mOk TB yX9_term0 (Y_X9_term0) 0 := ⟨cd_X9_term0, in_X9, ⟨by decide, by decide⟩, by decide +kernel, Nat.le_of_ble_eq_true rfl⟩
theorem v_X9_term0 : mV TB yX9_term0 := ⟨im_X9_term0, sl_X9_term0⟩
abbrev Y_X9_added0 : YS := (RX9, cX9_added0, 4, (some FieldType.int), 37)
theorem k_X9_added0 : mOk TB yX9_added0 (Y_X9_added0) 0 := ⟨cd_X9_added0, in_X9, ⟨by decide, by decide⟩, by decide +kernel, Nat.le_of_ble_eq_true rfl⟩
theorem v_X9_added0 : mV TB yX9_added0 := ⟨im_X9_added0, sl_X9_added0⟩
abbrev Y_X9_not0 : YS := (RX9, cX9_not0, 4, (some FieldType.int), 38)
theorem k_X9_not0 : mOk TB yX9_not0 (Y_X9_not0) 0 := ⟨cd_X9_not0, in_X9, ⟨by decide, by decide⟩, by decide +kernel, Nat.le_of_ble_eq_true rfl⟩
theorem v_X9_not0 : mV TB yX9_not0 := ⟨im_X9_not0, sl_X9_not0⟩
abbrev Y_X9_both0 : YS := (RX9, cX9_both0, 3, (some FieldType.int), 39)
theorem k_X9_both0 : mOk TB yX9_both0 (Y_X9_both0) 0 := ⟨cd_X9_both0, in_X9, ⟨by decide, by decide⟩, by decide +kernel, Nat.le_of_ble_eq_true rfl⟩
theorem v_X9_both0 : mV TB yX9_both0 := ⟨im_X9_both0, sl_X9_both0⟩
abbrev Y_X9_either0 : YS := (RX9, cX9_either0, 3, (some FieldType.int), 40)
theorem k_X9_either0 : mOk TB yX9_either0 (Y_X9_either0) 0 := ⟨cd_X9_either0, in_X9, ⟨by decide, by decide⟩, by decide +kernel, Nat.le_of_ble_eq_true rfl⟩
theorem v_X9_either0 : mV TB yX9_either0 := ⟨im_X9_either0, sl_X9_either0⟩
abbrev Y_X9_part : YS := (RX9, cX9_part, 3, (some FieldType.int), 41)
theorem k_X9_part : mOk TB yX9_part (Y_X9_part) 1 := ⟨cd_X9_part, in_X9, ⟨by decide, by decide⟩, by decide +kernel, Nat.le_of_ble_eq_true rfl⟩
theorem v_X9_part : mV TB yX9_part := ⟨im_X9_part, sl_X9_part⟩
abbrev Y_X9_read : YS := (RX9, cX9_read, 6, (some FieldType.int), 42)
theorem k_X9_read : mOk TB yX9_read (Y_X9_read) 2 := ⟨cd_X9_read, in_X9, ⟨by decide, by decide⟩, by decide +kernel, Nat.le_of_ble_eq_true rfl⟩
theorem v_X9_read : mV TB yX9_read := ⟨im_X9_read, sl_X9_read⟩
abbrev Y_X9_text : YS := (RX9, cX9_text, 2, (some FieldType.int), 43)
theorem k_X9_text : mOk TB yX9_text (Y_X9_text) 0 := ⟨cd_X9_text, in_X9, ⟨by decide, by decide⟩, by decide +kernel, Nat.le_of_ble_eq_true rfl⟩
theorem v_X9_text : mV TB yX9_text := ⟨im_X9_text, sl_X9_text⟩
abbrev Y_X9_force : YS := (RX9, cX9_force, 3, (some FieldType.int), 2)
theorem k_X9_force : mOk TB yX9_force (Y_X9_force) 1 := ⟨cd_X9_force, in_X9, ⟨by decide, by decide⟩, by decide +kernel, Nat.le_of_ble_eq_true rfl⟩
theorem v_X9_force : mV TB yX9_force := ⟨im_X9_force, sl_X9_force⟩
abbrev Y_X9_asks : YS := (RX9, cX9_asks, 7, (some FieldType.int), 43)
theorem k_X9_asks : mOk TB yX9_asks (Y_X9_asks) 6 := ⟨cd_X9_asks, in_X9, ⟨by decide, by decide⟩, by decide +kernel, Nat.le_of_ble_eq_true rfl⟩
theorem v_X9_asks : mV TB yX9_asks := ⟨im_X9_asks, sl_X9_asks⟩
abbrev Y_X9_takesOf : YS := (RX9, cX9_takesOf, 4, (some FieldType.int), 1)
theorem k_X9_takesOf : mOk TB yX9_takesOf (Y_X9_takesOf) 2 := ⟨cd_X9_takesOf, in_X9, ⟨by decide, by decide⟩, by decide +kernel, Nat.le_of_ble_eq_true rfl⟩
theorem v_X9_takesOf : mV TB yX9_takesOf := ⟨im_X9_takesOf, sl_X9_takesOf⟩
abbrev Y_X9_holdsIn : YS := (RX9, cX9_holdsIn, 6, (some FieldType.int), 44)
theorem k_X9_holdsIn : mOk TB yX9_holdsIn (Y_X9_holdsIn) 1 := ⟨cd_X9_holdsIn, in_X9, ⟨by decide, by decide⟩, by decide +kernel, Nat.le_of_ble_eq_true rfl⟩
theorem v_X9_holdsIn : mV TB yX9_holdsIn := ⟨im_X9_holdsIn, sl_X9_holdsIn⟩
abbrev Y_X9_bearsIn : YS := (RX9, cX9_bearsIn, 8, (some FieldType.int), 44)
theorem k_X9_bearsIn : mOk TB yX9_bearsIn (Y_X9_bearsIn) 1 := ⟨cd_X9_bearsIn, in_X9, ⟨by decide, by decide⟩, by decide +kernel, Nat.le_of_ble_eq_true rfl⟩
theorem v_X9_bearsIn : mV TB yX9_bearsIn := ⟨im_X9_bearsIn, sl_X9_bearsIn⟩
abbrev Y_X9_wouldStick : YS := (RX9, cX9_wouldStick, 5, (some FieldType.int), 44)
theorem k_X9_wouldStick : mOk TB yX9_wouldStick (Y_X9_wouldStick) 3 := ⟨cd_X9_wouldStick, in_X9, ⟨by decide, by decide⟩, by decide +kernel, Nat.le_of_ble_eq_true rfl⟩
theorem v_X9_wouldStick : mV TB yX9_wouldStick := ⟨im_X9_wouldStick, sl_X9_wouldStick⟩
abbrev Y_X9_speaks : YS := (RX9, cX9_speaks, 5, (some FieldType.int), 45)
theorem k_X9_speaks : mOk TB yX9_speaks (Y_X9_speaks) 3 := ⟨cd_X9_speaks, in_X9, ⟨by decide, by decide⟩, by decide +kernel, Nat.le_of_ble_eq_true rfl⟩
theorem v_X9_speaks : mV TB yX9_speaks := ⟨im_X9_speaks, sl_X9_speaks⟩
abbrev Y_X9_say : YS := (RX9, cX9_say, 4, (some FieldType.int), 46)
theorem k_X9_say : mOk TB yX9_say (Y_X9_say) 3 := ⟨cd_X9_say, in_X9, ⟨by decide, by decide⟩, by decide +kernel, Nat.le_of_ble_eq_true rfl⟩
theorem v_X9_say : mV TB yX9_say := ⟨im_X9_say, sl_X9_say⟩
abbrev Y_X9_floss : YS := (RX9, cX9_floss, 4, (some FieldType.int), 3)
theorem k_X9_floss : mOk TB yX9_floss (Y_X9_floss) 2 := ⟨cd_X9_floss, in_X9, ⟨by decide, by decide⟩, by decide +kernel, Nat.le_of_ble_eq_true rfl⟩
theorem v_X9_floss : mV TB yX9_floss := ⟨im_X9_floss, sl_X9_floss⟩
abbrev Y_X9_hands : YS := (RX9, cX9_hands, 7, (some FieldType.int), 1)
theorem k_X9_hands : mOk TB yX9_hands (Y_X9_hands) 2 := ⟨cd_X9_hands, in_X9, ⟨by decide, by decide⟩, by decide +kernel, Nat.le_of_ble_eq_true rfl⟩
theorem v_X9_hands : mV TB yX9_hands := ⟨im_X9_hands, sl_X9_hands⟩
abbrev Y_X9_kiss : YS := (RX9, cX9_kiss, 3, (some FieldType.int), 3)
theorem k_X9_kiss : mOk TB yX9_kiss (Y_X9_kiss) 2 := ⟨cd_X9_kiss, in_X9, ⟨by decide, by decide⟩, by decide +kernel, Nat.le_of_ble_eq_true rfl⟩
theorem v_X9_kiss : mV TB yX9_kiss := ⟨im_X9_kiss, sl_X9_kiss⟩
abbrev Y_X9_begins : YS := (RX9, cX9_begins, 2, none, 1)
theorem k_X9_begins : mOk TB yX9_begins (Y_X9_begins) 0 := ⟨cd_X9_begins, in_X9, ⟨by decide, by decide⟩, by decide +kernel, Nat.le_of_ble_eq_true rfl⟩
theorem v_X9_begins : mV TB yX9_begins := ⟨im_X9_begins, sl_X9_begins⟩
abbrev Y_X9_lives : YS := (RX9, cX9_lives, 3, none, 45)
theorem k_X9_lives : mOk TB yX9_lives (Y_X9_lives) 1 := ⟨cd_X9_lives, in_X9, ⟨by decide, by decide⟩, by decide +kernel, Nat.le_of_ble_eq_true rfl⟩
theorem v_X9_lives : mV TB yX9_lives := ⟨im_X9_lives, sl_X9_lives⟩
abbrev Y_X9_live : YS := (RX9, cX9_live, 1, (some FieldType.int), 46)
theorem k_X9_live : mOk TB yX9_live (Y_X9_live) 0 := ⟨cd_X9_live, in_X9, ⟨by decide, by decide⟩, by decide +kernel, Nat.le_of_ble_eq_true rfl⟩
theorem v_X9_live : mV TB yX9_live := ⟨im_X9_live, sl_X9_live⟩
abbrev Y_X9_laysAside : YS := (RX9, cX9_laysAside, 2, none, 2)
theorem k_X9_laysAside : mOk TB yX9_laysAside (Y_X9_laysAside) 0 := ⟨cd_X9_laysAside, in_X9, ⟨by decide, by decide⟩, by decide +kernel, Nat.le_of_ble_eq_true rfl⟩
theorem v_X9_laysAside : mV TB yX9_laysAside := ⟨im_X9_laysAside, sl_X9_laysAside⟩
abbrev Y_X9_laysBack : YS := (RX9, cX9_laysBack, 2, none, 1)
theorem k_X9_laysBack : mOk TB yX9_laysBack (Y_X9_laysBack) 0 := ⟨cd_X9_laysBack, in_X9, ⟨by decide, by decide⟩, by decide +kernel, Nat.le_of_ble_eq_true rfl⟩
theorem v_X9_laysBack : mV TB yX9_laysBack := ⟨im_X9_laysBack, sl_X9_laysBack⟩
abbrev Y_X9_runs : YS := (RX9, cX9_runs, 3, none, 46)
theorem k_X9_runs : mOk TB yX9_runs (Y_X9_runs) 1 := ⟨cd_X9_runs, in_X9, ⟨by decide, by decide⟩, by decide +kernel, Nat.le_of_ble_eq_true rfl⟩
theorem v_X9_runs : mV TB yX9_runs := ⟨im_X9_runs, sl_X9_runs⟩
abbrev Y_X9_run : YS := (RX9, cX9_run, 3, (some FieldType.int), 47)
theorem k_X9_run : mOk TB yX9_run (Y_X9_run) 2 := ⟨cd_X9_run, in_X9, ⟨by decide, by decide⟩, by decide +kernel, Nat.le_of_ble_eq_true rfl⟩
theorem v_X9_run : mV TB yX9_run := ⟨im_X9_run, sl_X9_run⟩
abbrev Y_X9_off : YS := (RX9, cX9_off, 4, (some FieldType.int), 47)
theorem k_X9_off : mOk TB yX9_off (Y_X9_off) 3 := ⟨cd_X9_off, in_X9, ⟨by decide, by decide⟩, by decide +kernel, Nat.le_of_ble_eq_true rfl⟩
theorem v_X9_off : mV TB yX9_off := ⟨im_X9_off, sl_X9_off⟩
abbrev Y_X9_foods : YS := (RX9, cX9_foods, 6, (some FieldType.int), 45)
theorem k_X9_foods : mOk TB yX9_foods (Y_X9_foods) 3 := ⟨cd_X9_foods, in_X9, ⟨by decide, by decide⟩, by decide +kernel, Nat.le_of_ble_eq_true rfl⟩
theorem v_X9_foods : mV TB yX9_foods := ⟨im_X9_foods, sl_X9_foods⟩
abbrev Y_X9_best : YS := (RX9, cX9_best, 7, (some FieldType.int), 47)
theorem k_X9_best : mOk TB yX9_best (Y_X9_best) 2 := ⟨cd_X9_best, in_X9, ⟨by decide, by decide⟩, by decide +kernel, Nat.le_of_ble_eq_true rfl⟩
theorem v_X9_best : mV TB yX9_best := ⟨im_X9_best, sl_X9_best⟩
abbrev Y_X9_bitsOf : YS := (RX9, cX9_bitsOf, 3, (some FieldType.int), 1)
theorem k_X9_bitsOf : mOk TB yX9_bitsOf (Y_X9_bitsOf) 1 := ⟨cd_X9_bitsOf, in_X9, ⟨by decide, by decide⟩, by decide +kernel, Nat.le_of_ble_eq_true rfl⟩
abbrev Y_X9_few : YS := (RX9, cX9_few, 8, (some FieldType.int), 47)
theorem k_X9_few : mOk TB yX9_few (Y_X9_few) 3 := ⟨cd_X9_few, in_X9, ⟨by decide, by decide⟩, by decide +kernel, Nat.le_of_ble_eq_true rfl⟩
theorem v_X9_few : mV TB yX9_few := ⟨im_X9_few, sl_X9_few⟩
abbrev Y_X9_shameByKiss : YS := (RX9, cX9_shameByKiss, 5, (some FieldType.int), 47)
theorem k_X9_shameByKiss : mOk TB yX9_shameByKiss (Y_X9_shameByKiss) 3 := ⟨cd_X9_shameByKiss, in_X9, ⟨by decide, by decide⟩, by decide +kernel, Nat.le_of_ble_eq_true rfl⟩
theorem v_X9_shameByKiss : mV TB yX9_shameByKiss := ⟨im_X9_shameByKiss, sl_X9_shameByKiss⟩
abbrev Y_X9_kissing : YS := (RX9, cX9_kissing, 8, (some FieldType.int), 48)
theorem k_X9_kissing : mOk TB yX9_kissing (Y_X9_kissing) 2 := ⟨cd_X9_kissing, in_X9, ⟨by decide, by decide⟩, by decide +kernel, Nat.le_of_ble_eq_true rfl⟩
theorem v_X9_kissing : mV TB yX9_kissing := ⟨im_X9_kissing, sl_X9_kissing⟩
abbrev Y_X9_church : YS := (RX9, cX9_church, 7, (some FieldType.int), 47)
theorem k_X9_church : mOk TB yX9_church (Y_X9_church) 2 := ⟨cd_X9_church, in_X9, ⟨by decide, by decide⟩, by decide +kernel, Nat.le_of_ble_eq_true rfl⟩
theorem v_X9_church : mV TB yX9_church := ⟨im_X9_church, sl_X9_church⟩
abbrev Y_X9_isRow : YS := (RX9, cX9_isRow, 6, (some FieldType.boolean), 3)
theorem k_X9_isRow : mOk TB yX9_isRow (Y_X9_isRow) 1 := ⟨cd_X9_isRow, in_X9, ⟨by decide, by decide⟩, by decide +kernel, Nat.le_of_ble_eq_true rfl⟩
theorem v_X9_isRow : mV TB yX9_isRow := ⟨im_X9_isRow, sl_X9_isRow⟩
abbrev Y_X9_plan : YS := (RX9, cX9_plan, 5, (some FieldType.int), 46)
theorem k_X9_plan : mOk TB yX9_plan (Y_X9_plan) 2 := ⟨cd_X9_plan, in_X9, ⟨by decide, by decide⟩, by decide +kernel, Nat.le_of_ble_eq_true rfl⟩
theorem v_X9_plan : mV TB yX9_plan := ⟨im_X9_plan, sl_X9_plan⟩
abbrev Y_X9_stuckAll : YS := (RX9, cX9_stuckAll, 3, (some FieldType.int), 2)
theorem k_X9_stuckAll : mOk TB yX9_stuckAll (Y_X9_stuckAll) 0 := ⟨cd_X9_stuckAll, in_X9, ⟨by decide, by decide⟩, by decide +kernel, Nat.le_of_ble_eq_true rfl⟩
theorem v_X9_stuckAll : mV TB yX9_stuckAll := ⟨im_X9_stuckAll, sl_X9_stuckAll⟩
abbrev Y_X9_firstOther : YS := (RX9, cX9_firstOther, 4, (some FieldType.int), 47)
theorem k_X9_firstOther : mOk TB yX9_firstOther (Y_X9_firstOther) 2 := ⟨cd_X9_firstOther, in_X9, ⟨by decide, by decide⟩, by decide +kernel, Nat.le_of_ble_eq_true rfl⟩
theorem v_X9_firstOther : mV TB yX9_firstOther := ⟨im_X9_firstOther, sl_X9_firstOther⟩
abbrev Y_X9_setBy : YS := (RX9, cX9_setBy, 8, (some FieldType.int), 48)
theorem k_X9_setBy : mOk TB yX9_setBy (Y_X9_setBy) 4 := ⟨cd_X9_setBy, in_X9, ⟨by decide, by decide⟩, by decide +kernel, Nat.le_of_ble_eq_true rfl⟩
theorem v_X9_setBy : mV TB yX9_setBy := ⟨im_X9_setBy, sl_X9_setBy⟩
abbrev Y_X9_wordsBy : YS := (RX9, cX9_wordsBy, 7, (some FieldType.int), 48)
theorem k_X9_wordsBy : mOk TB yX9_wordsBy (Y_X9_wordsBy) 3 := ⟨cd_X9_wordsBy, in_X9, ⟨by decide, by decide⟩, by decide +kernel, Nat.le_of_ble_eq_true rfl⟩
theorem v_X9_wordsBy : mV TB yX9_wordsBy := ⟨im_X9_wordsBy, sl_X9_wordsBy⟩
abbrev Y_X9_agesBy : YS := (RX9, cX9_agesBy, 9, (some FieldType.int), 48)
theorem k_X9_agesBy : mOk TB yX9_agesBy (Y_X9_agesBy) 4 := ⟨cd_X9_agesBy, in_X9, ⟨by decide, by decide⟩, by decide +kernel, Nat.le_of_ble_eq_true rfl⟩
theorem v_X9_agesBy : mV TB yX9_agesBy := ⟨im_X9_agesBy, sl_X9_agesBy⟩
abbrev Y_X9_tells : YS := (RX9, cX9_tells, 5, (some FieldType.int), 49)
theorem k_X9_tells : mOk TB yX9_tells (Y_X9_tells) 3 := ⟨cd_X9_tells, in_X9, ⟨by decide, by decide⟩, by decide +kernel, Nat.le_of_ble_eq_true rfl⟩
theorem v_X9_tells : mV TB yX9_tells := ⟨im_X9_tells, sl_X9_tells⟩
abbrev Y_X9_film : YS := (RX9, cX9_film, 4, (some FieldType.int), 47)
theorem k_X9_film : mOk TB yX9_film (Y_X9_film) 2 := ⟨cd_X9_film, in_X9, ⟨by decide, by decide⟩, by decide +kernel, Nat.le_of_ble_eq_true rfl⟩
theorem v_X9_film : mV TB yX9_film := ⟨im_X9_film, sl_X9_film⟩
abbrev Y_X9_eats : YS := (RX9, cX9_eats, 7, (some FieldType.int), 46)
theorem k_X9_eats : mOk TB yX9_eats (Y_X9_eats) 3 := ⟨cd_X9_eats, in_X9, ⟨by decide, by decide⟩, by decide +kernel, Nat.le_of_ble_eq_true rfl⟩
theorem v_X9_eats : mV TB yX9_eats := ⟨im_X9_eats, sl_X9_eats⟩
abbrev Y_X9_drawn : YS := (RX9, cX9_drawn, 4, (some FieldType.int), 47)
theorem k_X9_drawn : mOk TB yX9_drawn (Y_X9_drawn) 3 := ⟨cd_X9_drawn, in_X9, ⟨by decide, by decide⟩, by decide +kernel, Nat.le_of_ble_eq_true rfl⟩
theorem v_X9_drawn : mV TB yX9_drawn := ⟨im_X9_drawn, sl_X9_drawn⟩
abbrev Y_X9_chance : YS := (RX9, cX9_chance, 13, (some FieldType.long), 47)
theorem k_X9_chance : mOk TB yX9_chance (Y_X9_chance) 4 := ⟨cd_X9_chance, in_X9, ⟨by decide, by decide⟩, by decide +kernel, Nat.le_of_ble_eq_true rfl⟩
theorem v_X9_chance : mV TB yX9_chance := ⟨im_X9_chance, sl_X9_chance⟩
abbrev Y_X9_image : YS := (RX9, cX9_image, 2, (some FieldType.int), 1)
theorem k_X9_image : mOk TB yX9_image (Y_X9_image) 0 := ⟨cd_X9_image, in_X9, ⟨by decide, by decide⟩, by decide +kernel, Nat.le_of_ble_eq_true rfl⟩
theorem v_X9_image : mV TB yX9_image := ⟨im_X9_image, sl_X9_image⟩
abbrev Y_X9_back : YS := (RX9, cX9_back, 2, (some FieldType.int), 1)
theorem k_X9_back : mOk TB yX9_back (Y_X9_back) 0 := ⟨cd_X9_back, in_X9, ⟨by decide, by decide⟩, by decide +kernel, Nat.le_of_ble_eq_true rfl⟩
theorem v_X9_back : mV TB yX9_back := ⟨im_X9_back, sl_X9_back⟩
abbrev Y_X9_count : YS := (RX9, cX9_count, 2, (some FieldType.int), 3)
theorem k_X9_count : mOk TB yX9_count (Y_X9_count) 1 := ⟨cd_X9_count, in_X9, ⟨by decide, by decide⟩, by decide +kernel, Nat.le_of_ble_eq_true rfl⟩
theorem v_X9_count : mV TB yX9_count := ⟨im_X9_count, sl_X9_count⟩
abbrev Y_X9_isSheet : YS := (RX9, cX9_isSheet, 1, (some FieldType.boolean), 2)
theorem k_X9_isSheet : mOk TB yX9_isSheet (Y_X9_isSheet) 1 := ⟨cd_X9_isSheet, in_X9, ⟨by decide, by decide⟩, by decide +kernel, Nat.le_of_ble_eq_true rfl⟩
abbrev Y_X9_sheet : YS := (RX9, cX9_sheet, 5, (some FieldType.int), 3)
theorem k_X9_sheet : mOk TB yX9_sheet (Y_X9_sheet) 3 := ⟨cd_X9_sheet, in_X9, ⟨by decide, by decide⟩, by decide +kernel, Nat.le_of_ble_eq_true rfl⟩
theorem v_X9_sheet : mV TB yX9_sheet := ⟨im_X9_sheet, sl_X9_sheet⟩
abbrev Y_X9_cell : YS := (RX9, cX9_cell, 4, (some FieldType.int), 3)
theorem k_X9_cell : mOk TB yX9_cell (Y_X9_cell) 3 := ⟨cd_X9_cell, in_X9, ⟨by decide, by decide⟩, by decide +kernel, Nat.le_of_ble_eq_true rfl⟩
theorem v_X9_cell : mV TB yX9_cell := ⟨im_X9_cell, sl_X9_cell⟩
abbrev Y_X9_copy : YS := (RX9, cX9_copy, 9, (some FieldType.int), 3)
theorem k_X9_copy : mOk TB yX9_copy (Y_X9_copy) 5 := ⟨cd_X9_copy, in_X9, ⟨by decide, by decide⟩, by decide +kernel, Nat.le_of_ble_eq_true rfl⟩
theorem v_X9_copy : mV TB yX9_copy := ⟨im_X9_copy, sl_X9_copy⟩
abbrev Y_X9_people : YS := (RX9, cX9_people, 8, (some FieldType.int), 3)
theorem k_X9_people : mOk TB yX9_people (Y_X9_people) 4 := ⟨cd_X9_people, in_X9, ⟨by decide, by decide⟩, by decide +kernel, Nat.le_of_ble_eq_true rfl⟩
theorem v_X9_people : mV TB yX9_people := ⟨im_X9_people, sl_X9_people⟩
abbrev Y_X9_over : YS := (RX9, cX9_over, 1, (some FieldType.int), 1)
theorem k_X9_over : mOk TB yX9_over (Y_X9_over) 1 := ⟨cd_X9_over, in_X9, ⟨by decide, by decide⟩, by decide +kernel, Nat.le_of_ble_eq_true rfl⟩
abbrev Y_X9_taken : YS := (RX9, cX9_taken, 4, (some FieldType.int), 3)
theorem k_X9_taken : mOk TB yX9_taken (Y_X9_taken) 2 := ⟨cd_X9_taken, in_X9, ⟨by decide, by decide⟩, by decide +kernel, Nat.le_of_ble_eq_true rfl⟩
theorem v_X9_taken : mV TB yX9_taken := ⟨im_X9_taken, sl_X9_taken⟩
abbrev Y_J6_bitCount_0f7a4 : YS := (RJ6, cJ6_bitCount_0f7a4, 1, (some FieldType.int), 1)
theorem k_J6_bitCount_0f7a4 : mOk TB yJ6_bitCount_0f7a4 (Y_J6_bitCount_0f7a4) 1 := ⟨cd_J6_bitCount_0f7a4, in_J6, ⟨by decide, by decide⟩, by decide +kernel, Nat.le_of_ble_eq_true rfl⟩
abbrev Y_J0_length_8abf5 : YS := (RJ0, cJ0_length_8abf5, 1, (some FieldType.int), 2)
theorem k_J0_length_8abf5 : mOk TB yJ0_length_8abf5 (Y_J0_length_8abf5) 0 := ⟨cd_J0_length_8abf5, in_J0, ⟨by decide, by decide⟩, by decide +kernel, Nat.le_of_ble_eq_true rfl⟩
theorem v_J0_length_8abf5 : mV TB yJ0_length_8abf5 := ⟨im_J0_length_8abf5, sl_J0_length_8abf5⟩
abbrev Y_J0_charAt_5068e : YS := (RJ0, cJ0_charAt_5068e, 2, (some FieldType.char), 6)
theorem k_J0_charAt_5068e : mOk TB yJ0_charAt_5068e (Y_J0_charAt_5068e) 1 := ⟨cd_J0_charAt_5068e, in_J0, ⟨by decide, by decide⟩, by decide +kernel, Nat.le_of_ble_eq_true rfl⟩
theorem v_J0_charAt_5068e : mV TB yJ0_charAt_5068e := ⟨im_J0_charAt_5068e, sl_J0_charAt_5068e⟩
abbrev Y_J0_coder_7d493 : YS := (RJ0, cJ0_coder_7d493, 1, (some FieldType.byte), 1)
theorem k_J0_coder_7d493 : mOk TB yJ0_coder_7d493 (Y_J0_coder_7d493) 0 := ⟨cd_J0_coder_7d493, in_J0, ⟨by decide, by decide⟩, by decide +kernel, Nat.le_of_ble_eq_true rfl⟩
theorem v_J0_coder_7d493 : mV TB yJ0_coder_7d493 := ⟨im_J0_coder_7d493, sl_J0_coder_7d493⟩
abbrev Y_J0_isLatin1_aae02 : YS := (RJ0, cJ0_isLatin1_aae02, 1, (some FieldType.boolean), 1)
theorem k_J0_isLatin1_aae02 : mOk TB yJ0_isLatin1_aae02 (Y_J0_isLatin1_aae02) 0 := ⟨cd_J0_isLatin1_aae02, in_J0, ⟨by decide, by decide⟩, by decide +kernel, Nat.le_of_ble_eq_true rfl⟩
theorem v_J0_isLatin1_aae02 : mV TB yJ0_isLatin1_aae02 := ⟨im_J0_isLatin1_aae02, sl_J0_isLatin1_aae02⟩
abbrev Y_J0_checkIndex_df160 : YS := (RJ0, cJ0_checkIndex_df160, 2, none, 3)
theorem k_J0_checkIndex_df160 : mOk TB yJ0_checkIndex_df160 (Y_J0_checkIndex_df160) 2 := ⟨cd_J0_checkIndex_df160, in_J0, ⟨by decide, by decide⟩, by decide +kernel, Nat.le_of_ble_eq_true rfl⟩
abbrev Y_J1_charAt_3b067 : YS := (RJ1, cJ1_charAt_3b067, 2, (some FieldType.char), 4)
theorem k_J1_charAt_3b067 : mOk TB yJ1_charAt_3b067 (Y_J1_charAt_3b067) 2 := ⟨cd_J1_charAt_3b067, in_J1, ⟨by decide, by decide⟩, by decide +kernel, Nat.le_of_ble_eq_true rfl⟩
abbrev Y_J3_checkIndex_8e157 : YS := (RJ3, cJ3_checkIndex_8e157, 3, (some FieldType.int), 2)
theorem k_J3_checkIndex_8e157 : mOk TB yJ3_checkIndex_8e157 (Y_J3_checkIndex_8e157) 3 := ⟨cd_J3_checkIndex_8e157, in_J3, ⟨by decide, by decide⟩, by decide +kernel, Nat.le_of_ble_eq_true rfl⟩
theorem m_0 {i : Nat} (h : i < 1) : (0, i) ∈ idsC := mem_ids (t := tabC) (n := 1) (by decide) h
theorem m_1 {i : Nat} (h : i < 1) : (1, i) ∈ idsC := mem_ids (t := tabC) (n := 1) (by decide) h
theorem m_2 {i : Nat} (h : i < 6) : (2, i) ∈ idsC := mem_ids (t := tabC) (n := 6) (by decide) h
theorem m_3 {i : Nat} (h : i < 6) : (3, i) ∈ idsC := mem_ids (t := tabC) (n := 6) (by decide) h
theorem m_4 {i : Nat} (h : i < 6) : (4, i) ∈ idsC := mem_ids (t := tabC) (n := 6) (by decide) h
theorem m_5 {i : Nat} (h : i < 6) : (5, i) ∈ idsC := mem_ids (t := tabC) (n := 6) (by decide) h
theorem m_6 {i : Nat} (h : i < 1) : (6, i) ∈ idsC := mem_ids (t := tabC) (n := 1) (by decide) h
theorem m_7 {i : Nat} (h : i < 4) : (7, i) ∈ idsC := mem_ids (t := tabC) (n := 4) (by decide) h
theorem m_8 {i : Nat} (h : i < 4) : (8, i) ∈ idsC := mem_ids (t := tabC) (n := 4) (by decide) h
theorem m_9 {i : Nat} (h : i < 1) : (9, i) ∈ idsC := mem_ids (t := tabC) (n := 1) (by decide) h
theorem m_10 {i : Nat} (h : i < 1) : (10, i) ∈ idsC := mem_ids (t := tabC) (n := 1) (by decide) h
theorem m_11 {i : Nat} (h : i < 1) : (11, i) ∈ idsC := mem_ids (t := tabC) (n := 1) (by decide) h
theorem m_12 {i : Nat} (h : i < 1) : (12, i) ∈ idsC := mem_ids (t := tabC) (n := 1) (by decide) h
theorem m_13 {i : Nat} (h : i < 1) : (13, i) ∈ idsC := mem_ids (t := tabC) (n := 1) (by decide) h
theorem m_14 {i : Nat} (h : i < 1) : (14, i) ∈ idsC := mem_ids (t := tabC) (n := 1) (by decide) h
theorem m_15 {i : Nat} (h : i < 1) : (15, i) ∈ idsC := mem_ids (t := tabC) (n := 1) (by decide) h
theorem m_16 {i : Nat} (h : i < 1) : (16, i) ∈ idsC := mem_ids (t := tabC) (n := 1) (by decide) h
theorem m_17 {i : Nat} (h : i < 1) : (17, i) ∈ idsC := mem_ids (t := tabC) (n := 1) (by decide) h
theorem m_18 {i : Nat} (h : i < 3) : (18, i) ∈ idsC := mem_ids (t := tabC) (n := 3) (by decide) h
theorem m_19 {i : Nat} (h : i < 3) : (19, i) ∈ idsC := mem_ids (t := tabC) (n := 3) (by decide) h
theorem m_20 {i : Nat} (h : i < 3) : (20, i) ∈ idsC := mem_ids (t := tabC) (n := 3) (by decide) h
theorem m_21 {i : Nat} (h : i < 15) : (21, i) ∈ idsC := mem_ids (t := tabC) (n := 15) (by decide) h
theorem m_22 {i : Nat} (h : i < 15) : (22, i) ∈ idsC := mem_ids (t := tabC) (n := 15) (by decide) h
theorem m_23 {i : Nat} (h : i < 15) : (23, i) ∈ idsC := mem_ids (t := tabC) (n := 15) (by decide) h
theorem m_30 {i : Nat} (h : i < 1) : (30, i) ∈ idsR := mem_ids (t := tabR) (n := 1) (by decide) h
theorem m_31 {i : Nat} (h : i < 1) : (31, i) ∈ idsR := mem_ids (t := tabR) (n := 1) (by decide) h
theorem m_32 {i : Nat} (h : i < 1) : (32, i) ∈ idsR := mem_ids (t := tabR) (n := 1) (by decide) h
theorem m_33 {i : Nat} (h : i < 1) : (33, i) ∈ idsR := mem_ids (t := tabR) (n := 1) (by decide) h
theorem m_34 {i : Nat} (h : i < 1) : (34, i) ∈ idsR := mem_ids (t := tabR) (n := 1) (by decide) h
theorem m_35 {i : Nat} (h : i < 1) : (35, i) ∈ idsR := mem_ids (t := tabR) (n := 1) (by decide) h
theorem m_36 {i : Nat} (h : i < 1) : (36, i) ∈ idsR := mem_ids (t := tabR) (n := 1) (by decide) h
theorem m_37 {i : Nat} (h : i < 1) : (37, i) ∈ idsR := mem_ids (t := tabR) (n := 1) (by decide) h
theorem m_38 {i : Nat} (h : i < 1) : (38, i) ∈ idsR := mem_ids (t := tabR) (n := 1) (by decide) h
theorem m_39 {i : Nat} (h : i < 1) : (39, i) ∈ idsR := mem_ids (t := tabR) (n := 1) (by decide) h
theorem m_40 {i : Nat} (h : i < 1) : (40, i) ∈ idsR := mem_ids (t := tabR) (n := 1) (by decide) h
theorem m_41 {i : Nat} (h : i < 1) : (41, i) ∈ idsR := mem_ids (t := tabR) (n := 1) (by decide) h
theorem m_42 {i : Nat} (h : i < 1) : (42, i) ∈ idsR := mem_ids (t := tabR) (n := 1) (by decide) h
theorem m_43 {i : Nat} (h : i < 1) : (43, i) ∈ idsR := mem_ids (t := tabR) (n := 1) (by decide) h
theorem m_44 {i : Nat} (h : i < 1) : (44, i) ∈ idsR := mem_ids (t := tabR) (n := 1) (by decide) h
theorem m_45 {i : Nat} (h : i < 1) : (45, i) ∈ idsR := mem_ids (t := tabR) (n := 1) (by decide) h
theorem m_46 {i : Nat} (h : i < 1) : (46, i) ∈ idsR := mem_ids (t := tabR) (n := 1) (by decide) h
theorem m_47 {i : Nat} (h : i < 1) : (47, i) ∈ idsR := mem_ids (t := tabR) (n := 1) (by decide) h
theorem m_48 {i : Nat} (h : i < 1) : (48, i) ∈ idsR := mem_ids (t := tabR) (n := 1) (by decide) h
theorem m_49 {i : Nat} (h : i < 1) : (49, i) ∈ idsR := mem_ids (t := tabR) (n := 1) (by decide) h
theorem m_50 {i : Nat} (h : i < 1) : (50, i) ∈ idsR := mem_ids (t := tabR) (n := 1) (by decide) h
theorem g_X1_9 {M : MS} {G : GS} {ad : Ads} {Y : YS} {post : Option SV → Mem → Prop} {pc t : Nat} {ls : List (Option SV)} {st : List SV} {im : Nat → Nat → Nat → Int} {bt rt : Nat} {lm : Nat → Nat → Nat → Int} (F : Fx M (XC G) ad Y) (hd : decode Y.2.1 pc = .ok (.getfield 9, 3)) (ho : Y.1 = RX1) (ht : t = pc + 3) (kk : Wp M (XC G) ad Y post t ls (vR 10 0 :: st) (im, rs bt rt, lm)) : Wp M (XC G) ad Y post pc ls (vR 9 0 :: st) (im, rs bt rt, lm) := wp_getr (n := 0) F hd rfl uX1 (Or.inl (by rw [ho]; exact F.2.2.2.2.1 _ fl_X1_9)) (by decide) rfl (m_9 (by decide)) rfl rfl ht kk
theorem g_X8_178 {M : MS} {G : GS} {ad : Ads} {Y : YS} {post : Option SV → Mem → Prop} {pc t : Nat} {ls : List (Option SV)} {st : List SV} {im : Nat → Nat → Nat → Int} {bt rt : Nat} {lm : Nat → Nat → Nat → Int} (F : Fx M (XC G) ad Y) (hd : decode Y.2.1 pc = .ok (.getfield 178, 3)) (ho : Y.1 = RX8) (ht : t = pc + 3) (kk : Wp M (XC G) ad Y post t ls (vR 10 0 :: st) (im, rs bt rt, lm)) : Wp M (XC G) ad Y post pc ls (vR 9 0 :: st) (im, rs bt rt, lm) := wp_getr (n := 0) F hd rfl uX1 (Or.inr ⟨"AWordStuck", by rw [ho]; exact va_Nw.use rfl (F.2.2.2.2.2.2.2.2.1.1 _ fn_X8_178)⟩) (by decide) rfl (m_9 (by decide)) rfl rfl ht kk
theorem g_X1_15 {M : MS} {G : GS} {ad : Ads} {Y : YS} {post : Option SV → Mem → Prop} {pc t : Nat} {ls : List (Option SV)} {st : List SV} {im : Nat → Nat → Nat → Int} {bt rt : Nat} {lm : Nat → Nat → Nat → Int} (F : Fx M (XC G) ad Y) (hd : decode Y.2.1 pc = .ok (.getfield 15, 3)) (ho : Y.1 = RX1) (ht : t = pc + 3) (kk : Wp M (XC G) ad Y post t ls (vR 11 0 :: st) (im, rs bt rt, lm)) : Wp M (XC G) ad Y post pc ls (vR 9 0 :: st) (im, rs bt rt, lm) := wp_getr (n := 1) F hd rfl uX1 (Or.inl (by rw [ho]; exact F.2.2.2.2.1 _ fl_X1_15)) (by decide) rfl (m_9 (by decide)) rfl rfl ht kk
theorem g_X8_190 {M : MS} {G : GS} {ad : Ads} {Y : YS} {post : Option SV → Mem → Prop} {pc t : Nat} {ls : List (Option SV)} {st : List SV} {im : Nat → Nat → Nat → Int} {bt rt : Nat} {lm : Nat → Nat → Nat → Int} (F : Fx M (XC G) ad Y) (hd : decode Y.2.1 pc = .ok (.getfield 190, 3)) (ho : Y.1 = RX8) (ht : t = pc + 3) (kk : Wp M (XC G) ad Y post t ls (vR 11 0 :: st) (im, rs bt rt, lm)) : Wp M (XC G) ad Y post pc ls (vR 9 0 :: st) (im, rs bt rt, lm) := wp_getr (n := 1) F hd rfl uX1 (Or.inr ⟨"AWordStuck", by rw [ho]; exact va_Nw.use rfl (F.2.2.2.2.2.2.2.2.1.1 _ fn_X8_190)⟩) (by decide) rfl (m_9 (by decide)) rfl rfl ht kk
theorem g_X1_18 {M : MS} {G : GS} {ad : Ads} {Y : YS} {post : Option SV → Mem → Prop} {pc t : Nat} {ls : List (Option SV)} {st : List SV} {im : Nat → Nat → Nat → Int} {bt rt : Nat} {lm : Nat → Nat → Nat → Int} (F : Fx M (XC G) ad Y) (hd : decode Y.2.1 pc = .ok (.getfield 18, 3)) (ho : Y.1 = RX1) (ht : t = pc + 3) (kk : Wp M (XC G) ad Y post t ls (vR 12 0 :: st) (im, rs bt rt, lm)) : Wp M (XC G) ad Y post pc ls (vR 9 0 :: st) (im, rs bt rt, lm) := wp_getr (n := 2) F hd rfl uX1 (Or.inl (by rw [ho]; exact F.2.2.2.2.1 _ fl_X1_18)) (by decide) rfl (m_9 (by decide)) rfl rfl ht kk
theorem g_X8_215 {M : MS} {G : GS} {ad : Ads} {Y : YS} {post : Option SV → Mem → Prop} {pc t : Nat} {ls : List (Option SV)} {st : List SV} {im : Nat → Nat → Nat → Int} {bt rt : Nat} {lm : Nat → Nat → Nat → Int} (F : Fx M (XC G) ad Y) (hd : decode Y.2.1 pc = .ok (.getfield 215, 3)) (ho : Y.1 = RX8) (ht : t = pc + 3) (kk : Wp M (XC G) ad Y post t ls (vR 12 0 :: st) (im, rs bt rt, lm)) : Wp M (XC G) ad Y post pc ls (vR 9 0 :: st) (im, rs bt rt, lm) := wp_getr (n := 2) F hd rfl uX1 (Or.inr ⟨"AWordStuck", by rw [ho]; exact va_Nw.use rfl (F.2.2.2.2.2.2.2.2.1.1 _ fn_X8_215)⟩) (by decide) rfl (m_9 (by decide)) rfl rfl ht kk
theorem g_X1_21 {M : MS} {G : GS} {ad : Ads} {Y : YS} {post : Option SV → Mem → Prop} {pc t : Nat} {ls : List (Option SV)} {st : List SV} {im : Nat → Nat → Nat → Int} {bt rt : Nat} {lm : Nat → Nat → Nat → Int} (F : Fx M (XC G) ad Y) (hd : decode Y.2.1 pc = .ok (.getfield 21, 3)) (ho : Y.1 = RX1) (ht : t = pc + 3) (kk : Wp M (XC G) ad Y post t ls (vR 13 0 :: st) (im, rs bt rt, lm)) : Wp M (XC G) ad Y post pc ls (vR 9 0 :: st) (im, rs bt rt, lm) := wp_getr (n := 3) F hd rfl uX1 (Or.inl (by rw [ho]; exact F.2.2.2.2.1 _ fl_X1_21)) (by decide) rfl (m_9 (by decide)) rfl rfl ht kk
theorem g_X1_24 {M : MS} {G : GS} {ad : Ads} {Y : YS} {post : Option SV → Mem → Prop} {pc t : Nat} {ls : List (Option SV)} {st : List SV} {im : Nat → Nat → Nat → Int} {bt rt : Nat} {lm : Nat → Nat → Nat → Int} (F : Fx M (XC G) ad Y) (hd : decode Y.2.1 pc = .ok (.getfield 24, 3)) (ho : Y.1 = RX1) (ht : t = pc + 3) (kk : Wp M (XC G) ad Y post t ls (vI (im 9 0 4) :: st) (im, rs bt rt, lm)) : Wp M (XC G) ad Y post pc ls (vR 9 0 :: st) (im, rs bt rt, lm) := wp_geti (n := 4) F hd rfl uX1 (Or.inl (by rw [ho]; exact F.2.2.2.2.1 _ fl_X1_24)) (by decide) rfl (m_9 (by decide)) rfl ht kk
theorem p_X1_24 {M : MS} {G : GS} {ad : Ads} {Y : YS} {post : Option SV → Mem → Prop} {pc t : Nat} {ls : List (Option SV)} {st : List SV} {im : Nat → Nat → Nat → Int} {bt rt : Nat} {lm : Nat → Nat → Nat → Int} {x : Int} (F : Fx M (XC G) ad Y) (hd : decode Y.2.1 pc = .ok (.putfield 24, 3)) (ho : Y.1 = RX1) (ht : t = pc + 3) (kk : Wp M (XC G) ad Y post t ls st (up im 9 0 4 x, rs bt rt, lm)) : Wp M (XC G) ad Y post pc ls (vI x :: vR 9 0 :: st) (im, rs bt rt, lm) := wp_puti (n := 4) F hd rfl uX1 tyX1 tyX1_ok nmX1 (Or.inl (by rw [ho]; exact F.2.2.2.2.1 _ fl_X1_24)) (by decide) rfl rfl (m_9 (by decide)) rfl rfl ht kk
theorem g_X8_169 {M : MS} {G : GS} {ad : Ads} {Y : YS} {post : Option SV → Mem → Prop} {pc t : Nat} {ls : List (Option SV)} {st : List SV} {im : Nat → Nat → Nat → Int} {bt rt : Nat} {lm : Nat → Nat → Nat → Int} (F : Fx M (XC G) ad Y) (hd : decode Y.2.1 pc = .ok (.getfield 169, 3)) (ho : Y.1 = RX8) (ht : t = pc + 3) (kk : Wp M (XC G) ad Y post t ls (vI (im 9 0 4) :: st) (im, rs bt rt, lm)) : Wp M (XC G) ad Y post pc ls (vR 9 0 :: st) (im, rs bt rt, lm) := wp_geti (n := 4) F hd rfl uX1 (Or.inr ⟨"AWordStuck", by rw [ho]; exact va_Nw.use rfl (F.2.2.2.2.2.2.2.2.1.1 _ fn_X8_169)⟩) (by decide) rfl (m_9 (by decide)) rfl ht kk
theorem g_X1_28 {M : MS} {G : GS} {ad : Ads} {Y : YS} {post : Option SV → Mem → Prop} {pc t : Nat} {ls : List (Option SV)} {st : List SV} {im : Nat → Nat → Nat → Int} {bt rt : Nat} {lm : Nat → Nat → Nat → Int} (F : Fx M (XC G) ad Y) (hd : decode Y.2.1 pc = .ok (.getfield 28, 3)) (ho : Y.1 = RX1) (ht : t = pc + 3) (kk : Wp M (XC G) ad Y post t ls (vI (im 9 0 5) :: st) (im, rs bt rt, lm)) : Wp M (XC G) ad Y post pc ls (vR 9 0 :: st) (im, rs bt rt, lm) := wp_geti (n := 5) F hd rfl uX1 (Or.inl (by rw [ho]; exact F.2.2.2.2.1 _ fl_X1_28)) (by decide) rfl (m_9 (by decide)) rfl ht kk
theorem p_X1_28 {M : MS} {G : GS} {ad : Ads} {Y : YS} {post : Option SV → Mem → Prop} {pc t : Nat} {ls : List (Option SV)} {st : List SV} {im : Nat → Nat → Nat → Int} {bt rt : Nat} {lm : Nat → Nat → Nat → Int} {x : Int} (F : Fx M (XC G) ad Y) (hd : decode Y.2.1 pc = .ok (.putfield 28, 3)) (ho : Y.1 = RX1) (ht : t = pc + 3) (kk : Wp M (XC G) ad Y post t ls st (up im 9 0 5 x, rs bt rt, lm)) : Wp M (XC G) ad Y post pc ls (vI x :: vR 9 0 :: st) (im, rs bt rt, lm) := wp_puti (n := 5) F hd rfl uX1 tyX1 tyX1_ok nmX1 (Or.inl (by rw [ho]; exact F.2.2.2.2.1 _ fl_X1_28)) (by decide) rfl rfl (m_9 (by decide)) rfl rfl ht kk
theorem g_X8_172 {M : MS} {G : GS} {ad : Ads} {Y : YS} {post : Option SV → Mem → Prop} {pc t : Nat} {ls : List (Option SV)} {st : List SV} {im : Nat → Nat → Nat → Int} {bt rt : Nat} {lm : Nat → Nat → Nat → Int} (F : Fx M (XC G) ad Y) (hd : decode Y.2.1 pc = .ok (.getfield 172, 3)) (ho : Y.1 = RX8) (ht : t = pc + 3) (kk : Wp M (XC G) ad Y post t ls (vI (im 9 0 5) :: st) (im, rs bt rt, lm)) : Wp M (XC G) ad Y post pc ls (vR 9 0 :: st) (im, rs bt rt, lm) := wp_geti (n := 5) F hd rfl uX1 (Or.inr ⟨"AWordStuck", by rw [ho]; exact va_Nw.use rfl (F.2.2.2.2.2.2.2.2.1.1 _ fn_X8_172)⟩) (by decide) rfl (m_9 (by decide)) rfl ht kk
theorem g_X1_31 {M : MS} {G : GS} {ad : Ads} {Y : YS} {post : Option SV → Mem → Prop} {pc t : Nat} {ls : List (Option SV)} {st : List SV} {im : Nat → Nat → Nat → Int} {bt rt : Nat} {lm : Nat → Nat → Nat → Int} (F : Fx M (XC G) ad Y) (hd : decode Y.2.1 pc = .ok (.getfield 31, 3)) (ho : Y.1 = RX1) (ht : t = pc + 3) (kk : Wp M (XC G) ad Y post t ls (vI (im 9 0 6) :: st) (im, rs bt rt, lm)) : Wp M (XC G) ad Y post pc ls (vR 9 0 :: st) (im, rs bt rt, lm) := wp_geti (n := 6) F hd rfl uX1 (Or.inl (by rw [ho]; exact F.2.2.2.2.1 _ fl_X1_31)) (by decide) rfl (m_9 (by decide)) rfl ht kk
theorem p_X1_31 {M : MS} {G : GS} {ad : Ads} {Y : YS} {post : Option SV → Mem → Prop} {pc t : Nat} {ls : List (Option SV)} {st : List SV} {im : Nat → Nat → Nat → Int} {bt rt : Nat} {lm : Nat → Nat → Nat → Int} {x : Int} (F : Fx M (XC G) ad Y) (hd : decode Y.2.1 pc = .ok (.putfield 31, 3)) (ho : Y.1 = RX1) (ht : t = pc + 3) (kk : Wp M (XC G) ad Y post t ls st (up im 9 0 6 x, rs bt rt, lm)) : Wp M (XC G) ad Y post pc ls (vI x :: vR 9 0 :: st) (im, rs bt rt, lm) := wp_puti (n := 6) F hd rfl uX1 tyX1 tyX1_ok nmX1 (Or.inl (by rw [ho]; exact F.2.2.2.2.1 _ fl_X1_31)) (by decide) rfl rfl (m_9 (by decide)) rfl rfl ht kk
theorem g_X8_175 {M : MS} {G : GS} {ad : Ads} {Y : YS} {post : Option SV → Mem → Prop} {pc t : Nat} {ls : List (Option SV)} {st : List SV} {im : Nat → Nat → Nat → Int} {bt rt : Nat} {lm : Nat → Nat → Nat → Int} (F : Fx M (XC G) ad Y) (hd : decode Y.2.1 pc = .ok (.getfield 175, 3)) (ho : Y.1 = RX8) (ht : t = pc + 3) (kk : Wp M (XC G) ad Y post t ls (vI (im 9 0 6) :: st) (im, rs bt rt, lm)) : Wp M (XC G) ad Y post pc ls (vR 9 0 :: st) (im, rs bt rt, lm) := wp_geti (n := 6) F hd rfl uX1 (Or.inr ⟨"AWordStuck", by rw [ho]; exact va_Nw.use rfl (F.2.2.2.2.2.2.2.2.1.1 _ fn_X8_175)⟩) (by decide) rfl (m_9 (by decide)) rfl ht kk
theorem g_X6_9 {M : MS} {G : GS} {ad : Ads} {Y : YS} {post : Option SV → Mem → Prop} {pc t : Nat} {ls : List (Option SV)} {st : List SV} {im : Nat → Nat → Nat → Int} {bt rt : Nat} {lm : Nat → Nat → Nat → Int} {i : Nat} (F : Fx M (XC G) ad Y) (hd : decode Y.2.1 pc = .ok (.getfield 9, 3)) (ho : Y.1 = RX6) (hi : i < 6) (ht : t = pc + 3) (kk : Wp M (XC G) ad Y post t ls (vR 3 i :: st) (im, rs bt rt, lm)) : Wp M (XC G) ad Y post pc ls (vR 2 i :: st) (im, rs bt rt, lm) := wp_getr (n := 0) F hd rfl uX6 (Or.inl (by rw [ho]; exact F.2.2.2.2.1 _ fl_X6_9)) (by decide) rfl (m_2 hi) rfl rfl ht kk
theorem g_X6_15 {M : MS} {G : GS} {ad : Ads} {Y : YS} {post : Option SV → Mem → Prop} {pc t : Nat} {ls : List (Option SV)} {st : List SV} {im : Nat → Nat → Nat → Int} {bt rt : Nat} {lm : Nat → Nat → Nat → Int} {i : Nat} (F : Fx M (XC G) ad Y) (hd : decode Y.2.1 pc = .ok (.getfield 15, 3)) (ho : Y.1 = RX6) (hi : i < 6) (ht : t = pc + 3) (kk : Wp M (XC G) ad Y post t ls (vR 4 i :: st) (im, rs bt rt, lm)) : Wp M (XC G) ad Y post pc ls (vR 2 i :: st) (im, rs bt rt, lm) := wp_getr (n := 1) F hd rfl uX6 (Or.inl (by rw [ho]; exact F.2.2.2.2.1 _ fl_X6_15)) (by decide) rfl (m_2 hi) rfl rfl ht kk
theorem g_X6_18 {M : MS} {G : GS} {ad : Ads} {Y : YS} {post : Option SV → Mem → Prop} {pc t : Nat} {ls : List (Option SV)} {st : List SV} {im : Nat → Nat → Nat → Int} {bt rt : Nat} {lm : Nat → Nat → Nat → Int} {i : Nat} (F : Fx M (XC G) ad Y) (hd : decode Y.2.1 pc = .ok (.getfield 18, 3)) (ho : Y.1 = RX6) (hi : i < 6) (ht : t = pc + 3) (kk : Wp M (XC G) ad Y post t ls (vR 5 i :: st) (im, rs bt rt, lm)) : Wp M (XC G) ad Y post pc ls (vR 2 i :: st) (im, rs bt rt, lm) := wp_getr (n := 2) F hd rfl uX6 (Or.inl (by rw [ho]; exact F.2.2.2.2.1 _ fl_X6_18)) (by decide) rfl (m_2 hi) rfl rfl ht kk
theorem g_X6_21 {M : MS} {G : GS} {ad : Ads} {Y : YS} {post : Option SV → Mem → Prop} {pc t : Nat} {ls : List (Option SV)} {st : List SV} {im : Nat → Nat → Nat → Int} {bt rt : Nat} {lm : Nat → Nat → Nat → Int} {i : Nat} (F : Fx M (XC G) ad Y) (hd : decode Y.2.1 pc = .ok (.getfield 21, 3)) (ho : Y.1 = RX6) (hi : i < 6) (ht : t = pc + 3) (kk : Wp M (XC G) ad Y post t ls (vI (im 2 i 3) :: st) (im, rs bt rt, lm)) : Wp M (XC G) ad Y post pc ls (vR 2 i :: st) (im, rs bt rt, lm) := wp_geti (n := 3) F hd rfl uX6 (Or.inl (by rw [ho]; exact F.2.2.2.2.1 _ fl_X6_21)) (by decide) rfl (m_2 hi) rfl ht kk
theorem p_X6_21 {M : MS} {G : GS} {ad : Ads} {Y : YS} {post : Option SV → Mem → Prop} {pc t : Nat} {ls : List (Option SV)} {st : List SV} {im : Nat → Nat → Nat → Int} {bt rt : Nat} {lm : Nat → Nat → Nat → Int} {i : Nat} {x : Int} (F : Fx M (XC G) ad Y) (hd : decode Y.2.1 pc = .ok (.putfield 21, 3)) (ho : Y.1 = RX6) (hi : i < 6) (ht : t = pc + 3) (kk : Wp M (XC G) ad Y post t ls st (up im 2 i 3 x, rs bt rt, lm)) : Wp M (XC G) ad Y post pc ls (vI x :: vR 2 i :: st) (im, rs bt rt, lm) := wp_puti (n := 3) F hd rfl uX6 tyX6 tyX6_ok nmX6 (Or.inl (by rw [ho]; exact F.2.2.2.2.1 _ fl_X6_21)) (by decide) rfl rfl (m_2 hi) rfl rfl ht kk
theorem g_X5_9 {M : MS} {G : GS} {ad : Ads} {Y : YS} {post : Option SV → Mem → Prop} {pc t : Nat} {ls : List (Option SV)} {st : List SV} {im : Nat → Nat → Nat → Int} {bt rt : Nat} {lm : Nat → Nat → Nat → Int} {i : Nat} (F : Fx M (XC G) ad Y) (hd : decode Y.2.1 pc = .ok (.getfield 9, 3)) (ho : Y.1 = RX5) (hi : i < 4) (ht : t = pc + 3) (kk : Wp M (XC G) ad Y post t ls (vR 8 i :: st) (im, rs bt rt, lm)) : Wp M (XC G) ad Y post pc ls (vR 7 i :: st) (im, rs bt rt, lm) := wp_getr (n := 0) F hd rfl uX5 (Or.inl (by rw [ho]; exact F.2.2.2.2.1 _ fl_X5_9)) (by decide) rfl (m_7 hi) rfl rfl ht kk
theorem g_X8_232 {M : MS} {G : GS} {ad : Ads} {Y : YS} {post : Option SV → Mem → Prop} {pc t : Nat} {ls : List (Option SV)} {st : List SV} {im : Nat → Nat → Nat → Int} {bt rt : Nat} {lm : Nat → Nat → Nat → Int} {i : Nat} (F : Fx M (XC G) ad Y) (hd : decode Y.2.1 pc = .ok (.getfield 232, 3)) (ho : Y.1 = RX8) (hi : i < 4) (ht : t = pc + 3) (kk : Wp M (XC G) ad Y post t ls (vR 8 i :: st) (im, rs bt rt, lm)) : Wp M (XC G) ad Y post pc ls (vR 7 i :: st) (im, rs bt rt, lm) := wp_getr (n := 0) F hd rfl uX5 (Or.inr ⟨"AWordStuck", by rw [ho]; exact va_Nw.use rfl (F.2.2.2.2.2.2.2.2.1.1 _ fn_X8_232)⟩) (by decide) rfl (m_7 hi) rfl rfl ht kk
theorem g_X5_15 {M : MS} {G : GS} {ad : Ads} {Y : YS} {post : Option SV → Mem → Prop} {pc t : Nat} {ls : List (Option SV)} {st : List SV} {im : Nat → Nat → Nat → Int} {bt rt : Nat} {lm : Nat → Nat → Nat → Int} {i : Nat} (F : Fx M (XC G) ad Y) (hd : decode Y.2.1 pc = .ok (.getfield 15, 3)) (ho : Y.1 = RX5) (hi : i < 4) (ht : t = pc + 3) (kk : Wp M (XC G) ad Y post t ls (vI (im 7 i 1) :: st) (im, rs bt rt, lm)) : Wp M (XC G) ad Y post pc ls (vR 7 i :: st) (im, rs bt rt, lm) := wp_geti (n := 1) F hd rfl uX5 (Or.inl (by rw [ho]; exact F.2.2.2.2.1 _ fl_X5_15)) (by decide) rfl (m_7 hi) rfl ht kk
theorem p_X5_15 {M : MS} {G : GS} {ad : Ads} {Y : YS} {post : Option SV → Mem → Prop} {pc t : Nat} {ls : List (Option SV)} {st : List SV} {im : Nat → Nat → Nat → Int} {bt rt : Nat} {lm : Nat → Nat → Nat → Int} {i : Nat} {x : Int} (F : Fx M (XC G) ad Y) (hd : decode Y.2.1 pc = .ok (.putfield 15, 3)) (ho : Y.1 = RX5) (hi : i < 4) (ht : t = pc + 3) (kk : Wp M (XC G) ad Y post t ls st (up im 7 i 1 x, rs bt rt, lm)) : Wp M (XC G) ad Y post pc ls (vI x :: vR 7 i :: st) (im, rs bt rt, lm) := wp_puti (n := 1) F hd rfl uX5 tyX5 tyX5_ok nmX5 (Or.inl (by rw [ho]; exact F.2.2.2.2.1 _ fl_X5_15)) (by decide) rfl rfl (m_7 hi) rfl rfl ht kk
theorem g_X8_281 {M : MS} {G : GS} {ad : Ads} {Y : YS} {post : Option SV → Mem → Prop} {pc t : Nat} {ls : List (Option SV)} {st : List SV} {im : Nat → Nat → Nat → Int} {bt rt : Nat} {lm : Nat → Nat → Nat → Int} {i : Nat} (F : Fx M (XC G) ad Y) (hd : decode Y.2.1 pc = .ok (.getfield 281, 3)) (ho : Y.1 = RX8) (hi : i < 4) (ht : t = pc + 3) (kk : Wp M (XC G) ad Y post t ls (vI (im 7 i 1) :: st) (im, rs bt rt, lm)) : Wp M (XC G) ad Y post pc ls (vR 7 i :: st) (im, rs bt rt, lm) := wp_geti (n := 1) F hd rfl uX5 (Or.inr ⟨"AWordStuck", by rw [ho]; exact va_Nw.use rfl (F.2.2.2.2.2.2.2.2.1.1 _ fn_X8_281)⟩) (by decide) rfl (m_7 hi) rfl ht kk
theorem g_X5_19 {M : MS} {G : GS} {ad : Ads} {Y : YS} {post : Option SV → Mem → Prop} {pc t : Nat} {ls : List (Option SV)} {st : List SV} {im : Nat → Nat → Nat → Int} {bt rt : Nat} {lm : Nat → Nat → Nat → Int} {i : Nat} (F : Fx M (XC G) ad Y) (hd : decode Y.2.1 pc = .ok (.getfield 19, 3)) (ho : Y.1 = RX5) (hi : i < 4) (ht : t = pc + 3) (kk : Wp M (XC G) ad Y post t ls (vI (im 7 i 2) :: st) (im, rs bt rt, lm)) : Wp M (XC G) ad Y post pc ls (vR 7 i :: st) (im, rs bt rt, lm) := wp_geti (n := 2) F hd rfl uX5 (Or.inl (by rw [ho]; exact F.2.2.2.2.1 _ fl_X5_19)) (by decide) rfl (m_7 hi) rfl ht kk
theorem p_X5_19 {M : MS} {G : GS} {ad : Ads} {Y : YS} {post : Option SV → Mem → Prop} {pc t : Nat} {ls : List (Option SV)} {st : List SV} {im : Nat → Nat → Nat → Int} {bt rt : Nat} {lm : Nat → Nat → Nat → Int} {i : Nat} {x : Int} (F : Fx M (XC G) ad Y) (hd : decode Y.2.1 pc = .ok (.putfield 19, 3)) (ho : Y.1 = RX5) (hi : i < 4) (ht : t = pc + 3) (kk : Wp M (XC G) ad Y post t ls st (up im 7 i 2 x, rs bt rt, lm)) : Wp M (XC G) ad Y post pc ls (vI x :: vR 7 i :: st) (im, rs bt rt, lm) := wp_puti (n := 2) F hd rfl uX5 tyX5 tyX5_ok nmX5 (Or.inl (by rw [ho]; exact F.2.2.2.2.1 _ fl_X5_19)) (by decide) rfl rfl (m_7 hi) rfl rfl ht kk
theorem g_X8_231 {M : MS} {G : GS} {ad : Ads} {Y : YS} {post : Option SV → Mem → Prop} {pc t : Nat} {ls : List (Option SV)} {st : List SV} {im : Nat → Nat → Nat → Int} {bt rt : Nat} {lm : Nat → Nat → Nat → Int} {i : Nat} (F : Fx M (XC G) ad Y) (hd : decode Y.2.1 pc = .ok (.getfield 231, 3)) (ho : Y.1 = RX8) (hi : i < 4) (ht : t = pc + 3) (kk : Wp M (XC G) ad Y post t ls (vI (im 7 i 2) :: st) (im, rs bt rt, lm)) : Wp M (XC G) ad Y post pc ls (vR 7 i :: st) (im, rs bt rt, lm) := wp_geti (n := 2) F hd rfl uX5 (Or.inr ⟨"AWordStuck", by rw [ho]; exact va_Nw.use rfl (F.2.2.2.2.2.2.2.2.1.1 _ fn_X8_231)⟩) (by decide) rfl (m_7 hi) rfl ht kk
theorem g_X4_9 {M : MS} {G : GS} {ad : Ads} {Y : YS} {post : Option SV → Mem → Prop} {pc t : Nat} {ls : List (Option SV)} {st : List SV} {im : Nat → Nat → Nat → Int} {bt rt : Nat} {lm : Nat → Nat → Nat → Int} (F : Fx M (XC G) ad Y) (hd : decode Y.2.1 pc = .ok (.getfield 9, 3)) (ho : Y.1 = RX4) (ht : t = pc + 3) (kk : Wp M (XC G) ad Y post t ls (vR 15 0 :: st) (im, rs bt rt, lm)) : Wp M (XC G) ad Y post pc ls (vR 14 0 :: st) (im, rs bt rt, lm) := wp_getr (n := 0) F hd rfl uX4 (Or.inl (by rw [ho]; exact F.2.2.2.2.1 _ fl_X4_9)) (by decide) rfl (m_14 (by decide)) rfl rfl ht kk
theorem g_X4_19 {M : MS} {G : GS} {ad : Ads} {Y : YS} {post : Option SV → Mem → Prop} {pc t : Nat} {ls : List (Option SV)} {st : List SV} {im : Nat → Nat → Nat → Int} {bt rt : Nat} {lm : Nat → Nat → Nat → Int} (F : Fx M (XC G) ad Y) (hd : decode Y.2.1 pc = .ok (.getfield 19, 3)) (ho : Y.1 = RX4) (ht : t = pc + 3) (kk : Wp M (XC G) ad Y post t ls (vI (im 14 0 1) :: st) (im, rs bt rt, lm)) : Wp M (XC G) ad Y post pc ls (vR 14 0 :: st) (im, rs bt rt, lm) := wp_geti (n := 1) F hd rfl uX4 (Or.inl (by rw [ho]; exact F.2.2.2.2.1 _ fl_X4_19)) (by decide) rfl (m_14 (by decide)) rfl ht kk
theorem p_X4_19 {M : MS} {G : GS} {ad : Ads} {Y : YS} {post : Option SV → Mem → Prop} {pc t : Nat} {ls : List (Option SV)} {st : List SV} {im : Nat → Nat → Nat → Int} {bt rt : Nat} {lm : Nat → Nat → Nat → Int} {x : Int} (F : Fx M (XC G) ad Y) (hd : decode Y.2.1 pc = .ok (.putfield 19, 3)) (ho : Y.1 = RX4) (ht : t = pc + 3) (kk : Wp M (XC G) ad Y post t ls st (up im 14 0 1 x, rs bt rt, lm)) : Wp M (XC G) ad Y post pc ls (vI x :: vR 14 0 :: st) (im, rs bt rt, lm) := wp_puti (n := 1) F hd rfl uX4 tyX4 tyX4_ok nmX4 (Or.inl (by rw [ho]; exact F.2.2.2.2.1 _ fl_X4_19)) (by decide) rfl rfl (m_14 (by decide)) rfl rfl ht kk
theorem g_X8_146 {M : MS} {G : GS} {ad : Ads} {Y : YS} {post : Option SV → Mem → Prop} {pc t : Nat} {ls : List (Option SV)} {st : List SV} {im : Nat → Nat → Nat → Int} {bt rt : Nat} {lm : Nat → Nat → Nat → Int} (F : Fx M (XC G) ad Y) (hd : decode Y.2.1 pc = .ok (.getfield 146, 3)) (ho : Y.1 = RX8) (ht : t = pc + 3) (kk : Wp M (XC G) ad Y post t ls (vI (im 14 0 1) :: st) (im, rs bt rt, lm)) : Wp M (XC G) ad Y post pc ls (vR 14 0 :: st) (im, rs bt rt, lm) := wp_geti (n := 1) F hd rfl uX4 (Or.inr ⟨"AWordStuck", by rw [ho]; exact va_Nw.use rfl (F.2.2.2.2.2.2.2.2.1.1 _ fn_X8_146)⟩) (by decide) rfl (m_14 (by decide)) rfl ht kk
theorem g_X4_31 {M : MS} {G : GS} {ad : Ads} {Y : YS} {post : Option SV → Mem → Prop} {pc t : Nat} {ls : List (Option SV)} {st : List SV} {im : Nat → Nat → Nat → Int} {bt rt : Nat} {lm : Nat → Nat → Nat → Int} (F : Fx M (XC G) ad Y) (hd : decode Y.2.1 pc = .ok (.getfield 31, 3)) (ho : Y.1 = RX4) (ht : t = pc + 3) (kk : Wp M (XC G) ad Y post t ls (vI (im 14 0 2) :: st) (im, rs bt rt, lm)) : Wp M (XC G) ad Y post pc ls (vR 14 0 :: st) (im, rs bt rt, lm) := wp_geti (n := 2) F hd rfl uX4 (Or.inl (by rw [ho]; exact F.2.2.2.2.1 _ fl_X4_31)) (by decide) rfl (m_14 (by decide)) rfl ht kk
theorem p_X4_31 {M : MS} {G : GS} {ad : Ads} {Y : YS} {post : Option SV → Mem → Prop} {pc t : Nat} {ls : List (Option SV)} {st : List SV} {im : Nat → Nat → Nat → Int} {bt rt : Nat} {lm : Nat → Nat → Nat → Int} {x : Int} (F : Fx M (XC G) ad Y) (hd : decode Y.2.1 pc = .ok (.putfield 31, 3)) (ho : Y.1 = RX4) (ht : t = pc + 3) (kk : Wp M (XC G) ad Y post t ls st (up im 14 0 2 x, rs bt rt, lm)) : Wp M (XC G) ad Y post pc ls (vI x :: vR 14 0 :: st) (im, rs bt rt, lm) := wp_puti (n := 2) F hd rfl uX4 tyX4 tyX4_ok nmX4 (Or.inl (by rw [ho]; exact F.2.2.2.2.1 _ fl_X4_31)) (by decide) rfl rfl (m_14 (by decide)) rfl rfl ht kk
theorem g_X4_57 {M : MS} {G : GS} {ad : Ads} {Y : YS} {post : Option SV → Mem → Prop} {pc t : Nat} {ls : List (Option SV)} {st : List SV} {im : Nat → Nat → Nat → Int} {bt rt : Nat} {lm : Nat → Nat → Nat → Int} (F : Fx M (XC G) ad Y) (hd : decode Y.2.1 pc = .ok (.getfield 57, 3)) (ho : Y.1 = RX4) (ht : t = pc + 3) (kk : Wp M (XC G) ad Y post t ls (vI (im 14 0 3) :: st) (im, rs bt rt, lm)) : Wp M (XC G) ad Y post pc ls (vR 14 0 :: st) (im, rs bt rt, lm) := wp_geti (n := 3) F hd rfl uX4 (Or.inl (by rw [ho]; exact F.2.2.2.2.1 _ fl_X4_57)) (by decide) rfl (m_14 (by decide)) rfl ht kk
theorem p_X4_57 {M : MS} {G : GS} {ad : Ads} {Y : YS} {post : Option SV → Mem → Prop} {pc t : Nat} {ls : List (Option SV)} {st : List SV} {im : Nat → Nat → Nat → Int} {bt rt : Nat} {lm : Nat → Nat → Nat → Int} {x : Int} (F : Fx M (XC G) ad Y) (hd : decode Y.2.1 pc = .ok (.putfield 57, 3)) (ho : Y.1 = RX4) (ht : t = pc + 3) (kk : Wp M (XC G) ad Y post t ls st (up im 14 0 3 x, rs bt rt, lm)) : Wp M (XC G) ad Y post pc ls (vI x :: vR 14 0 :: st) (im, rs bt rt, lm) := wp_puti (n := 3) F hd rfl uX4 tyX4 tyX4_ok nmX4 (Or.inl (by rw [ho]; exact F.2.2.2.2.1 _ fl_X4_57)) (by decide) rfl rfl (m_14 (by decide)) rfl rfl ht kk
theorem g_X4_54 {M : MS} {G : GS} {ad : Ads} {Y : YS} {post : Option SV → Mem → Prop} {pc t : Nat} {ls : List (Option SV)} {st : List SV} {im : Nat → Nat → Nat → Int} {bt rt : Nat} {lm : Nat → Nat → Nat → Int} (F : Fx M (XC G) ad Y) (hd : decode Y.2.1 pc = .ok (.getfield 54, 3)) (ho : Y.1 = RX4) (ht : t = pc + 3) (kk : Wp M (XC G) ad Y post t ls (vI (im 14 0 4) :: st) (im, rs bt rt, lm)) : Wp M (XC G) ad Y post pc ls (vR 14 0 :: st) (im, rs bt rt, lm) := wp_geti (n := 4) F hd rfl uX4 (Or.inl (by rw [ho]; exact F.2.2.2.2.1 _ fl_X4_54)) (by decide) rfl (m_14 (by decide)) rfl ht kk
theorem p_X4_54 {M : MS} {G : GS} {ad : Ads} {Y : YS} {post : Option SV → Mem → Prop} {pc t : Nat} {ls : List (Option SV)} {st : List SV} {im : Nat → Nat → Nat → Int} {bt rt : Nat} {lm : Nat → Nat → Nat → Int} {x : Int} (F : Fx M (XC G) ad Y) (hd : decode Y.2.1 pc = .ok (.putfield 54, 3)) (ho : Y.1 = RX4) (ht : t = pc + 3) (kk : Wp M (XC G) ad Y post t ls st (up im 14 0 4 x, rs bt rt, lm)) : Wp M (XC G) ad Y post pc ls (vI x :: vR 14 0 :: st) (im, rs bt rt, lm) := wp_puti (n := 4) F hd rfl uX4 tyX4 tyX4_ok nmX4 (Or.inl (by rw [ho]; exact F.2.2.2.2.1 _ fl_X4_54)) (by decide) rfl rfl (m_14 (by decide)) rfl rfl ht kk
theorem g_X4_82 {M : MS} {G : GS} {ad : Ads} {Y : YS} {post : Option SV → Mem → Prop} {pc t : Nat} {ls : List (Option SV)} {st : List SV} {im : Nat → Nat → Nat → Int} {bt rt : Nat} {lm : Nat → Nat → Nat → Int} (F : Fx M (XC G) ad Y) (hd : decode Y.2.1 pc = .ok (.getfield 82, 3)) (ho : Y.1 = RX4) (ht : t = pc + 3) (kk : Wp M (XC G) ad Y post t ls (vI (im 14 0 5) :: st) (im, rs bt rt, lm)) : Wp M (XC G) ad Y post pc ls (vR 14 0 :: st) (im, rs bt rt, lm) := wp_geti (n := 5) F hd rfl uX4 (Or.inl (by rw [ho]; exact F.2.2.2.2.1 _ fl_X4_82)) (by decide) rfl (m_14 (by decide)) rfl ht kk
theorem p_X4_82 {M : MS} {G : GS} {ad : Ads} {Y : YS} {post : Option SV → Mem → Prop} {pc t : Nat} {ls : List (Option SV)} {st : List SV} {im : Nat → Nat → Nat → Int} {bt rt : Nat} {lm : Nat → Nat → Nat → Int} {x : Int} (F : Fx M (XC G) ad Y) (hd : decode Y.2.1 pc = .ok (.putfield 82, 3)) (ho : Y.1 = RX4) (ht : t = pc + 3) (kk : Wp M (XC G) ad Y post t ls st (up im 14 0 5 x, rs bt rt, lm)) : Wp M (XC G) ad Y post pc ls (vI x :: vR 14 0 :: st) (im, rs bt rt, lm) := wp_puti (n := 5) F hd rfl uX4 tyX4 tyX4_ok nmX4 (Or.inl (by rw [ho]; exact F.2.2.2.2.1 _ fl_X4_82)) (by decide) rfl rfl (m_14 (by decide)) rfl rfl ht kk
theorem g_X4_28 {M : MS} {G : GS} {ad : Ads} {Y : YS} {post : Option SV → Mem → Prop} {pc t : Nat} {ls : List (Option SV)} {st : List SV} {im : Nat → Nat → Nat → Int} {bt rt : Nat} {lm : Nat → Nat → Nat → Int} (F : Fx M (XC G) ad Y) (hd : decode Y.2.1 pc = .ok (.getfield 28, 3)) (ho : Y.1 = RX4) (ht : t = pc + 3) (kk : Wp M (XC G) ad Y post t ls (vI (im 14 0 6) :: st) (im, rs bt rt, lm)) : Wp M (XC G) ad Y post pc ls (vR 14 0 :: st) (im, rs bt rt, lm) := wp_geti (n := 6) F hd rfl uX4 (Or.inl (by rw [ho]; exact F.2.2.2.2.1 _ fl_X4_28)) (by decide) rfl (m_14 (by decide)) rfl ht kk
theorem p_X4_28 {M : MS} {G : GS} {ad : Ads} {Y : YS} {post : Option SV → Mem → Prop} {pc t : Nat} {ls : List (Option SV)} {st : List SV} {im : Nat → Nat → Nat → Int} {bt rt : Nat} {lm : Nat → Nat → Nat → Int} {x : Int} (F : Fx M (XC G) ad Y) (hd : decode Y.2.1 pc = .ok (.putfield 28, 3)) (ho : Y.1 = RX4) (ht : t = pc + 3) (kk : Wp M (XC G) ad Y post t ls st (up im 14 0 6 x, rs bt rt, lm)) : Wp M (XC G) ad Y post pc ls (vI x :: vR 14 0 :: st) (im, rs bt rt, lm) := wp_puti (n := 6) F hd rfl uX4 tyX4 tyX4_ok nmX4 (Or.inl (by rw [ho]; exact F.2.2.2.2.1 _ fl_X4_28)) (by decide) rfl rfl (m_14 (by decide)) rfl rfl ht kk
theorem g_X4_15 {M : MS} {G : GS} {ad : Ads} {Y : YS} {post : Option SV → Mem → Prop} {pc t : Nat} {ls : List (Option SV)} {st : List SV} {im : Nat → Nat → Nat → Int} {bt rt : Nat} {lm : Nat → Nat → Nat → Int} (F : Fx M (XC G) ad Y) (hd : decode Y.2.1 pc = .ok (.getfield 15, 3)) (ho : Y.1 = RX4) (ht : t = pc + 3) (kk : Wp M (XC G) ad Y post t ls (vR 2 rt :: st) (im, rs bt rt, lm)) : Wp M (XC G) ad Y post pc ls (vR 14 0 :: st) (im, rs bt rt, lm) := wp_getr (n := 7) F hd rfl uX4 (Or.inl (by rw [ho]; exact F.2.2.2.2.1 _ fl_X4_15)) (by decide) rfl (m_14 (by decide)) rfl rfl ht kk
theorem p_X4_15 {M : MS} {G : GS} {ad : Ads} {Y : YS} {post : Option SV → Mem → Prop} {pc t : Nat} {ls : List (Option SV)} {st : List SV} {im : Nat → Nat → Nat → Int} {bt rt : Nat} {lm : Nat → Nat → Nat → Int} {j : Nat} (F : Fx M (XC G) ad Y) (hd : decode Y.2.1 pc = .ok (.putfield 15, 3)) (ho : Y.1 = RX4) (ht : t = pc + 3) (kk : Wp M (XC G) ad Y post t ls st (im, rs bt j, lm)) : Wp M (XC G) ad Y post pc ls (vR 2 j :: vR 14 0 :: st) (im, rs bt rt, lm) := wp_putr (n := 7) (D := "AWordStuck$Text") F hd rfl uX4 tyX4 tyX4_ok nmX4 (Or.inl (by rw [ho]; exact F.2.2.2.2.1 _ fl_X4_15)) (by decide) rfl rfl (m_14 (by decide)) rfl rfl ht (by show Wp M (XC G) ad Y post t ls st (im, up (rs bt rt) 14 0 7 (some (2, j)), lm); rw [rs_rt]; exact kk)
theorem g_X0_9 {M : MS} {G : GS} {ad : Ads} {Y : YS} {post : Option SV → Mem → Prop} {pc t : Nat} {ls : List (Option SV)} {st : List SV} {im : Nat → Nat → Nat → Int} {bt rt : Nat} {lm : Nat → Nat → Nat → Int} (F : Fx M (XC G) ad Y) (hd : decode Y.2.1 pc = .ok (.getfield 9, 3)) (ho : Y.1 = RX0) (ht : t = pc + 3) (kk : Wp M (XC G) ad Y post t ls (vR 17 0 :: st) (im, rs bt rt, lm)) : Wp M (XC G) ad Y post pc ls (vR 16 0 :: st) (im, rs bt rt, lm) := wp_getr (n := 0) F hd rfl uX0 (Or.inl (by rw [ho]; exact F.2.2.2.2.1 _ fl_X0_9)) (by decide) rfl (m_16 (by decide)) rfl rfl ht kk
theorem g_X8_199 {M : MS} {G : GS} {ad : Ads} {Y : YS} {post : Option SV → Mem → Prop} {pc t : Nat} {ls : List (Option SV)} {st : List SV} {im : Nat → Nat → Nat → Int} {bt rt : Nat} {lm : Nat → Nat → Nat → Int} (F : Fx M (XC G) ad Y) (hd : decode Y.2.1 pc = .ok (.getfield 199, 3)) (ho : Y.1 = RX8) (ht : t = pc + 3) (kk : Wp M (XC G) ad Y post t ls (vR 17 0 :: st) (im, rs bt rt, lm)) : Wp M (XC G) ad Y post pc ls (vR 16 0 :: st) (im, rs bt rt, lm) := wp_getr (n := 0) F hd rfl uX0 (Or.inr ⟨"AWordStuck", by rw [ho]; exact va_Nw.use rfl (F.2.2.2.2.2.2.2.2.1.1 _ fn_X8_199)⟩) (by decide) rfl (m_16 (by decide)) rfl rfl ht kk
theorem g_X0_15 {M : MS} {G : GS} {ad : Ads} {Y : YS} {post : Option SV → Mem → Prop} {pc t : Nat} {ls : List (Option SV)} {st : List SV} {im : Nat → Nat → Nat → Int} {bt rt : Nat} {lm : Nat → Nat → Nat → Int} (F : Fx M (XC G) ad Y) (hd : decode Y.2.1 pc = .ok (.getfield 15, 3)) (ho : Y.1 = RX0) (ht : t = pc + 3) (kk : Wp M (XC G) ad Y post t ls (vR 2 bt :: st) (im, rs bt rt, lm)) : Wp M (XC G) ad Y post pc ls (vR 16 0 :: st) (im, rs bt rt, lm) := wp_getr (n := 1) F hd rfl uX0 (Or.inl (by rw [ho]; exact F.2.2.2.2.1 _ fl_X0_15)) (by decide) rfl (m_16 (by decide)) rfl rfl ht kk
theorem p_X0_15 {M : MS} {G : GS} {ad : Ads} {Y : YS} {post : Option SV → Mem → Prop} {pc t : Nat} {ls : List (Option SV)} {st : List SV} {im : Nat → Nat → Nat → Int} {bt rt : Nat} {lm : Nat → Nat → Nat → Int} {j : Nat} (F : Fx M (XC G) ad Y) (hd : decode Y.2.1 pc = .ok (.putfield 15, 3)) (ho : Y.1 = RX0) (ht : t = pc + 3) (kk : Wp M (XC G) ad Y post t ls st (im, rs j rt, lm)) : Wp M (XC G) ad Y post pc ls (vR 2 j :: vR 16 0 :: st) (im, rs bt rt, lm) := wp_putr (n := 1) (D := "AWordStuck$Text") F hd rfl uX0 tyX0 tyX0_ok nmX0 (Or.inl (by rw [ho]; exact F.2.2.2.2.1 _ fl_X0_15)) (by decide) rfl rfl (m_16 (by decide)) rfl rfl ht (by show Wp M (XC G) ad Y post t ls st (im, up (rs bt rt) 16 0 1 (some (2, j)), lm); rw [rs_bt]; exact kk)
theorem p_X8_259 {M : MS} {G : GS} {ad : Ads} {Y : YS} {post : Option SV → Mem → Prop} {pc t : Nat} {ls : List (Option SV)} {st : List SV} {im : Nat → Nat → Nat → Int} {bt rt : Nat} {lm : Nat → Nat → Nat → Int} {j : Nat} (F : Fx M (XC G) ad Y) (hd : decode Y.2.1 pc = .ok (.putfield 259, 3)) (ho : Y.1 = RX8) (ht : t = pc + 3) (kk : Wp M (XC G) ad Y post t ls st (im, rs j rt, lm)) : Wp M (XC G) ad Y post pc ls (vR 2 j :: vR 16 0 :: st) (im, rs bt rt, lm) := wp_putr (n := 1) (D := "AWordStuck$Text") F hd rfl uX0 tyX0 tyX0_ok nmX0 (Or.inr ⟨"AWordStuck", by rw [ho]; exact va_Nw.use rfl (F.2.2.2.2.2.2.2.2.1.1 _ fn_X8_259)⟩) (by decide) rfl rfl (m_16 (by decide)) rfl rfl ht (by show Wp M (XC G) ad Y post t ls st (im, up (rs bt rt) 16 0 1 (some (2, j)), lm); rw [rs_bt]; exact kk)
theorem g_X0_38 {M : MS} {G : GS} {ad : Ads} {Y : YS} {post : Option SV → Mem → Prop} {pc t : Nat} {ls : List (Option SV)} {st : List SV} {im : Nat → Nat → Nat → Int} {bt rt : Nat} {lm : Nat → Nat → Nat → Int} (F : Fx M (XC G) ad Y) (hd : decode Y.2.1 pc = .ok (.getfield 38, 3)) (ho : Y.1 = RX0) (ht : t = pc + 3) (kk : Wp M (XC G) ad Y post t ls (vI (im 16 0 2) :: st) (im, rs bt rt, lm)) : Wp M (XC G) ad Y post pc ls (vR 16 0 :: st) (im, rs bt rt, lm) := wp_geti (n := 2) F hd rfl uX0 (Or.inl (by rw [ho]; exact F.2.2.2.2.1 _ fl_X0_38)) (by decide) rfl (m_16 (by decide)) rfl ht kk
theorem p_X0_38 {M : MS} {G : GS} {ad : Ads} {Y : YS} {post : Option SV → Mem → Prop} {pc t : Nat} {ls : List (Option SV)} {st : List SV} {im : Nat → Nat → Nat → Int} {bt rt : Nat} {lm : Nat → Nat → Nat → Int} {x : Int} (F : Fx M (XC G) ad Y) (hd : decode Y.2.1 pc = .ok (.putfield 38, 3)) (ho : Y.1 = RX0) (ht : t = pc + 3) (kk : Wp M (XC G) ad Y post t ls st (up im 16 0 2 x, rs bt rt, lm)) : Wp M (XC G) ad Y post pc ls (vI x :: vR 16 0 :: st) (im, rs bt rt, lm) := wp_puti (n := 2) F hd rfl uX0 tyX0 tyX0_ok nmX0 (Or.inl (by rw [ho]; exact F.2.2.2.2.1 _ fl_X0_38)) (by decide) rfl rfl (m_16 (by decide)) rfl rfl ht kk
theorem p_X8_258 {M : MS} {G : GS} {ad : Ads} {Y : YS} {post : Option SV → Mem → Prop} {pc t : Nat} {ls : List (Option SV)} {st : List SV} {im : Nat → Nat → Nat → Int} {bt rt : Nat} {lm : Nat → Nat → Nat → Int} {x : Int} (F : Fx M (XC G) ad Y) (hd : decode Y.2.1 pc = .ok (.putfield 258, 3)) (ho : Y.1 = RX8) (ht : t = pc + 3) (kk : Wp M (XC G) ad Y post t ls st (up im 16 0 2 x, rs bt rt, lm)) : Wp M (XC G) ad Y post pc ls (vI x :: vR 16 0 :: st) (im, rs bt rt, lm) := wp_puti (n := 2) F hd rfl uX0 tyX0 tyX0_ok nmX0 (Or.inr ⟨"AWordStuck", by rw [ho]; exact va_Nw.use rfl (F.2.2.2.2.2.2.2.2.1.1 _ fn_X8_258)⟩) (by decide) rfl rfl (m_16 (by decide)) rfl rfl ht kk
theorem g_X0_42 {M : MS} {G : GS} {ad : Ads} {Y : YS} {post : Option SV → Mem → Prop} {pc t : Nat} {ls : List (Option SV)} {st : List SV} {im : Nat → Nat → Nat → Int} {bt rt : Nat} {lm : Nat → Nat → Nat → Int} (F : Fx M (XC G) ad Y) (hd : decode Y.2.1 pc = .ok (.getfield 42, 3)) (ho : Y.1 = RX0) (ht : t = pc + 3) (kk : Wp M (XC G) ad Y post t ls (vI (im 16 0 3) :: st) (im, rs bt rt, lm)) : Wp M (XC G) ad Y post pc ls (vR 16 0 :: st) (im, rs bt rt, lm) := wp_geti (n := 3) F hd rfl uX0 (Or.inl (by rw [ho]; exact F.2.2.2.2.1 _ fl_X0_42)) (by decide) rfl (m_16 (by decide)) rfl ht kk
theorem p_X0_42 {M : MS} {G : GS} {ad : Ads} {Y : YS} {post : Option SV → Mem → Prop} {pc t : Nat} {ls : List (Option SV)} {st : List SV} {im : Nat → Nat → Nat → Int} {bt rt : Nat} {lm : Nat → Nat → Nat → Int} {x : Int} (F : Fx M (XC G) ad Y) (hd : decode Y.2.1 pc = .ok (.putfield 42, 3)) (ho : Y.1 = RX0) (ht : t = pc + 3) (kk : Wp M (XC G) ad Y post t ls st (up im 16 0 3 x, rs bt rt, lm)) : Wp M (XC G) ad Y post pc ls (vI x :: vR 16 0 :: st) (im, rs bt rt, lm) := wp_puti (n := 3) F hd rfl uX0 tyX0 tyX0_ok nmX0 (Or.inl (by rw [ho]; exact F.2.2.2.2.1 _ fl_X0_42)) (by decide) rfl rfl (m_16 (by decide)) rfl rfl ht kk
theorem p_X8_202 {M : MS} {G : GS} {ad : Ads} {Y : YS} {post : Option SV → Mem → Prop} {pc t : Nat} {ls : List (Option SV)} {st : List SV} {im : Nat → Nat → Nat → Int} {bt rt : Nat} {lm : Nat → Nat → Nat → Int} {x : Int} (F : Fx M (XC G) ad Y) (hd : decode Y.2.1 pc = .ok (.putfield 202, 3)) (ho : Y.1 = RX8) (ht : t = pc + 3) (kk : Wp M (XC G) ad Y post t ls st (up im 16 0 3 x, rs bt rt, lm)) : Wp M (XC G) ad Y post pc ls (vI x :: vR 16 0 :: st) (im, rs bt rt, lm) := wp_puti (n := 3) F hd rfl uX0 tyX0 tyX0_ok nmX0 (Or.inr ⟨"AWordStuck", by rw [ho]; exact va_Nw.use rfl (F.2.2.2.2.2.2.2.2.1.1 _ fn_X8_202)⟩) (by decide) rfl rfl (m_16 (by decide)) rfl rfl ht kk
theorem g_X0_47 {M : MS} {G : GS} {ad : Ads} {Y : YS} {post : Option SV → Mem → Prop} {pc t : Nat} {ls : List (Option SV)} {st : List SV} {im : Nat → Nat → Nat → Int} {bt rt : Nat} {lm : Nat → Nat → Nat → Int} (F : Fx M (XC G) ad Y) (hd : decode Y.2.1 pc = .ok (.getfield 47, 3)) (ho : Y.1 = RX0) (ht : t = pc + 3) (kk : Wp M (XC G) ad Y post t ls (vI (im 16 0 4) :: st) (im, rs bt rt, lm)) : Wp M (XC G) ad Y post pc ls (vR 16 0 :: st) (im, rs bt rt, lm) := wp_geti (n := 4) F hd rfl uX0 (Or.inl (by rw [ho]; exact F.2.2.2.2.1 _ fl_X0_47)) (by decide) rfl (m_16 (by decide)) rfl ht kk
theorem p_X0_47 {M : MS} {G : GS} {ad : Ads} {Y : YS} {post : Option SV → Mem → Prop} {pc t : Nat} {ls : List (Option SV)} {st : List SV} {im : Nat → Nat → Nat → Int} {bt rt : Nat} {lm : Nat → Nat → Nat → Int} {x : Int} (F : Fx M (XC G) ad Y) (hd : decode Y.2.1 pc = .ok (.putfield 47, 3)) (ho : Y.1 = RX0) (ht : t = pc + 3) (kk : Wp M (XC G) ad Y post t ls st (up im 16 0 4 x, rs bt rt, lm)) : Wp M (XC G) ad Y post pc ls (vI x :: vR 16 0 :: st) (im, rs bt rt, lm) := wp_puti (n := 4) F hd rfl uX0 tyX0 tyX0_ok nmX0 (Or.inl (by rw [ho]; exact F.2.2.2.2.1 _ fl_X0_47)) (by decide) rfl rfl (m_16 (by decide)) rfl rfl ht kk
theorem g_X3_18 {M : MS} {G : GS} {ad : Ads} {Y : YS} {post : Option SV → Mem → Prop} {pc t : Nat} {ls : List (Option SV)} {st : List SV} {im : Nat → Nat → Nat → Int} {bt rt : Nat} {lm : Nat → Nat → Nat → Int} {i : Nat} (F : Fx M (XC G) ad Y) (hd : decode Y.2.1 pc = .ok (.getfield 18, 3)) (ho : Y.1 = RX3) (hi : i < 15) (ht : t = pc + 3) (kk : Wp M (XC G) ad Y post t ls (vI (im 21 i 0) :: st) (im, rs bt rt, lm)) : Wp M (XC G) ad Y post pc ls (vR 21 i :: st) (im, rs bt rt, lm) := wp_geti (n := 0) F hd rfl uX3 (Or.inl (by rw [ho]; exact F.2.2.2.2.1 _ fl_X3_18)) (by decide) rfl (m_21 hi) rfl ht kk
theorem p_X3_18 {M : MS} {G : GS} {ad : Ads} {Y : YS} {post : Option SV → Mem → Prop} {pc t : Nat} {ls : List (Option SV)} {st : List SV} {im : Nat → Nat → Nat → Int} {bt rt : Nat} {lm : Nat → Nat → Nat → Int} {i : Nat} {x : Int} (F : Fx M (XC G) ad Y) (hd : decode Y.2.1 pc = .ok (.putfield 18, 3)) (ho : Y.1 = RX3) (hi : i < 15) (ht : t = pc + 3) (kk : Wp M (XC G) ad Y post t ls st (up im 21 i 0 x, rs bt rt, lm)) : Wp M (XC G) ad Y post pc ls (vI x :: vR 21 i :: st) (im, rs bt rt, lm) := wp_puti (n := 0) F hd rfl uX3 tyX3 tyX3_ok nmX3 (Or.inl (by rw [ho]; exact F.2.2.2.2.1 _ fl_X3_18)) (by decide) rfl rfl (m_21 hi) rfl rfl ht kk
theorem g_X0_33 {M : MS} {G : GS} {ad : Ads} {Y : YS} {post : Option SV → Mem → Prop} {pc t : Nat} {ls : List (Option SV)} {st : List SV} {im : Nat → Nat → Nat → Int} {bt rt : Nat} {lm : Nat → Nat → Nat → Int} {i : Nat} (F : Fx M (XC G) ad Y) (hd : decode Y.2.1 pc = .ok (.getfield 33, 3)) (ho : Y.1 = RX0) (hi : i < 15) (ht : t = pc + 3) (kk : Wp M (XC G) ad Y post t ls (vI (im 21 i 0) :: st) (im, rs bt rt, lm)) : Wp M (XC G) ad Y post pc ls (vR 21 i :: st) (im, rs bt rt, lm) := wp_geti (n := 0) F hd rfl uX3 (Or.inr ⟨"AWordStuck", by rw [ho]; exact va_Nw.use rfl (F.2.2.2.2.2.2.2.2.1.1 _ fn_X0_33)⟩) (by decide) rfl (m_21 hi) rfl ht kk
theorem g_X7_46 {M : MS} {G : GS} {ad : Ads} {Y : YS} {post : Option SV → Mem → Prop} {pc t : Nat} {ls : List (Option SV)} {st : List SV} {im : Nat → Nat → Nat → Int} {bt rt : Nat} {lm : Nat → Nat → Nat → Int} {i : Nat} (F : Fx M (XC G) ad Y) (hd : decode Y.2.1 pc = .ok (.getfield 46, 3)) (ho : Y.1 = RX7) (hi : i < 15) (ht : t = pc + 3) (kk : Wp M (XC G) ad Y post t ls (vI (im 21 i 0) :: st) (im, rs bt rt, lm)) : Wp M (XC G) ad Y post pc ls (vR 21 i :: st) (im, rs bt rt, lm) := wp_geti (n := 0) F hd rfl uX3 (Or.inr ⟨"AWordStuck", by rw [ho]; exact va_Nw.use rfl (F.2.2.2.2.2.2.2.2.1.1 _ fn_X7_46)⟩) (by decide) rfl (m_21 hi) rfl ht kk
theorem p_X7_46 {M : MS} {G : GS} {ad : Ads} {Y : YS} {post : Option SV → Mem → Prop} {pc t : Nat} {ls : List (Option SV)} {st : List SV} {im : Nat → Nat → Nat → Int} {bt rt : Nat} {lm : Nat → Nat → Nat → Int} {i : Nat} {x : Int} (F : Fx M (XC G) ad Y) (hd : decode Y.2.1 pc = .ok (.putfield 46, 3)) (ho : Y.1 = RX7) (hi : i < 15) (ht : t = pc + 3) (kk : Wp M (XC G) ad Y post t ls st (up im 21 i 0 x, rs bt rt, lm)) : Wp M (XC G) ad Y post pc ls (vI x :: vR 21 i :: st) (im, rs bt rt, lm) := wp_puti (n := 0) F hd rfl uX3 tyX3 tyX3_ok nmX3 (Or.inr ⟨"AWordStuck", by rw [ho]; exact va_Nw.use rfl (F.2.2.2.2.2.2.2.2.1.1 _ fn_X7_46)⟩) (by decide) rfl rfl (m_21 hi) rfl rfl ht kk
theorem g_X8_122 {M : MS} {G : GS} {ad : Ads} {Y : YS} {post : Option SV → Mem → Prop} {pc t : Nat} {ls : List (Option SV)} {st : List SV} {im : Nat → Nat → Nat → Int} {bt rt : Nat} {lm : Nat → Nat → Nat → Int} {i : Nat} (F : Fx M (XC G) ad Y) (hd : decode Y.2.1 pc = .ok (.getfield 122, 3)) (ho : Y.1 = RX8) (hi : i < 15) (ht : t = pc + 3) (kk : Wp M (XC G) ad Y post t ls (vI (im 21 i 0) :: st) (im, rs bt rt, lm)) : Wp M (XC G) ad Y post pc ls (vR 21 i :: st) (im, rs bt rt, lm) := wp_geti (n := 0) F hd rfl uX3 (Or.inr ⟨"AWordStuck", by rw [ho]; exact va_Nw.use rfl (F.2.2.2.2.2.2.2.2.1.1 _ fn_X8_122)⟩) (by decide) rfl (m_21 hi) rfl ht kk
theorem g_X3_22 {M : MS} {G : GS} {ad : Ads} {Y : YS} {post : Option SV → Mem → Prop} {pc t : Nat} {ls : List (Option SV)} {st : List SV} {im : Nat → Nat → Nat → Int} {bt rt : Nat} {lm : Nat → Nat → Nat → Int} {i : Nat} (F : Fx M (XC G) ad Y) (hd : decode Y.2.1 pc = .ok (.getfield 22, 3)) (ho : Y.1 = RX3) (hi : i < 15) (ht : t = pc + 3) (kk : Wp M (XC G) ad Y post t ls (vI (im 21 i 1) :: st) (im, rs bt rt, lm)) : Wp M (XC G) ad Y post pc ls (vR 21 i :: st) (im, rs bt rt, lm) := wp_geti (n := 1) F hd rfl uX3 (Or.inl (by rw [ho]; exact F.2.2.2.2.1 _ fl_X3_22)) (by decide) rfl (m_21 hi) rfl ht kk
theorem p_X3_22 {M : MS} {G : GS} {ad : Ads} {Y : YS} {post : Option SV → Mem → Prop} {pc t : Nat} {ls : List (Option SV)} {st : List SV} {im : Nat → Nat → Nat → Int} {bt rt : Nat} {lm : Nat → Nat → Nat → Int} {i : Nat} {x : Int} (F : Fx M (XC G) ad Y) (hd : decode Y.2.1 pc = .ok (.putfield 22, 3)) (ho : Y.1 = RX3) (hi : i < 15) (ht : t = pc + 3) (kk : Wp M (XC G) ad Y post t ls st (up im 21 i 1 x, rs bt rt, lm)) : Wp M (XC G) ad Y post pc ls (vI x :: vR 21 i :: st) (im, rs bt rt, lm) := wp_puti (n := 1) F hd rfl uX3 tyX3 tyX3_ok nmX3 (Or.inl (by rw [ho]; exact F.2.2.2.2.1 _ fl_X3_22)) (by decide) rfl rfl (m_21 hi) rfl rfl ht kk
theorem g_X8_103 {M : MS} {G : GS} {ad : Ads} {Y : YS} {post : Option SV → Mem → Prop} {pc t : Nat} {ls : List (Option SV)} {st : List SV} {im : Nat → Nat → Nat → Int} {bt rt : Nat} {lm : Nat → Nat → Nat → Int} {i : Nat} (F : Fx M (XC G) ad Y) (hd : decode Y.2.1 pc = .ok (.getfield 103, 3)) (ho : Y.1 = RX8) (hi : i < 15) (ht : t = pc + 3) (kk : Wp M (XC G) ad Y post t ls (vI (im 21 i 1) :: st) (im, rs bt rt, lm)) : Wp M (XC G) ad Y post pc ls (vR 21 i :: st) (im, rs bt rt, lm) := wp_geti (n := 1) F hd rfl uX3 (Or.inr ⟨"AWordStuck", by rw [ho]; exact va_Nw.use rfl (F.2.2.2.2.2.2.2.2.1.1 _ fn_X8_103)⟩) (by decide) rfl (m_21 hi) rfl ht kk
theorem p_X8_103 {M : MS} {G : GS} {ad : Ads} {Y : YS} {post : Option SV → Mem → Prop} {pc t : Nat} {ls : List (Option SV)} {st : List SV} {im : Nat → Nat → Nat → Int} {bt rt : Nat} {lm : Nat → Nat → Nat → Int} {i : Nat} {x : Int} (F : Fx M (XC G) ad Y) (hd : decode Y.2.1 pc = .ok (.putfield 103, 3)) (ho : Y.1 = RX8) (hi : i < 15) (ht : t = pc + 3) (kk : Wp M (XC G) ad Y post t ls st (up im 21 i 1 x, rs bt rt, lm)) : Wp M (XC G) ad Y post pc ls (vI x :: vR 21 i :: st) (im, rs bt rt, lm) := wp_puti (n := 1) F hd rfl uX3 tyX3 tyX3_ok nmX3 (Or.inr ⟨"AWordStuck", by rw [ho]; exact va_Nw.use rfl (F.2.2.2.2.2.2.2.2.1.1 _ fn_X8_103)⟩) (by decide) rfl rfl (m_21 hi) rfl rfl ht kk
theorem g_X0_51 {M : MS} {G : GS} {ad : Ads} {Y : YS} {post : Option SV → Mem → Prop} {pc t : Nat} {ls : List (Option SV)} {st : List SV} {im : Nat → Nat → Nat → Int} {bt rt : Nat} {lm : Nat → Nat → Nat → Int} {i : Nat} (F : Fx M (XC G) ad Y) (hd : decode Y.2.1 pc = .ok (.getfield 51, 3)) (ho : Y.1 = RX0) (hi : i < 15) (ht : t = pc + 3) (kk : Wp M (XC G) ad Y post t ls (vI (im 21 i 1) :: st) (im, rs bt rt, lm)) : Wp M (XC G) ad Y post pc ls (vR 21 i :: st) (im, rs bt rt, lm) := wp_geti (n := 1) F hd rfl uX3 (Or.inr ⟨"AWordStuck", by rw [ho]; exact va_Nw.use rfl (F.2.2.2.2.2.2.2.2.1.1 _ fn_X0_51)⟩) (by decide) rfl (m_21 hi) rfl ht kk
theorem g_X7_49 {M : MS} {G : GS} {ad : Ads} {Y : YS} {post : Option SV → Mem → Prop} {pc t : Nat} {ls : List (Option SV)} {st : List SV} {im : Nat → Nat → Nat → Int} {bt rt : Nat} {lm : Nat → Nat → Nat → Int} {i : Nat} (F : Fx M (XC G) ad Y) (hd : decode Y.2.1 pc = .ok (.getfield 49, 3)) (ho : Y.1 = RX7) (hi : i < 15) (ht : t = pc + 3) (kk : Wp M (XC G) ad Y post t ls (vI (im 21 i 1) :: st) (im, rs bt rt, lm)) : Wp M (XC G) ad Y post pc ls (vR 21 i :: st) (im, rs bt rt, lm) := wp_geti (n := 1) F hd rfl uX3 (Or.inr ⟨"AWordStuck", by rw [ho]; exact va_Nw.use rfl (F.2.2.2.2.2.2.2.2.1.1 _ fn_X7_49)⟩) (by decide) rfl (m_21 hi) rfl ht kk
theorem p_X7_49 {M : MS} {G : GS} {ad : Ads} {Y : YS} {post : Option SV → Mem → Prop} {pc t : Nat} {ls : List (Option SV)} {st : List SV} {im : Nat → Nat → Nat → Int} {bt rt : Nat} {lm : Nat → Nat → Nat → Int} {i : Nat} {x : Int} (F : Fx M (XC G) ad Y) (hd : decode Y.2.1 pc = .ok (.putfield 49, 3)) (ho : Y.1 = RX7) (hi : i < 15) (ht : t = pc + 3) (kk : Wp M (XC G) ad Y post t ls st (up im 21 i 1 x, rs bt rt, lm)) : Wp M (XC G) ad Y post pc ls (vI x :: vR 21 i :: st) (im, rs bt rt, lm) := wp_puti (n := 1) F hd rfl uX3 tyX3 tyX3_ok nmX3 (Or.inr ⟨"AWordStuck", by rw [ho]; exact va_Nw.use rfl (F.2.2.2.2.2.2.2.2.1.1 _ fn_X7_49)⟩) (by decide) rfl rfl (m_21 hi) rfl rfl ht kk
theorem g_X3_9 {M : MS} {G : GS} {ad : Ads} {Y : YS} {post : Option SV → Mem → Prop} {pc t : Nat} {ls : List (Option SV)} {st : List SV} {im : Nat → Nat → Nat → Int} {bt rt : Nat} {lm : Nat → Nat → Nat → Int} {i : Nat} (F : Fx M (XC G) ad Y) (hd : decode Y.2.1 pc = .ok (.getfield 9, 3)) (ho : Y.1 = RX3) (hi : i < 15) (ht : t = pc + 3) (kk : Wp M (XC G) ad Y post t ls (vR 22 i :: st) (im, rs bt rt, lm)) : Wp M (XC G) ad Y post pc ls (vR 21 i :: st) (im, rs bt rt, lm) := wp_getr (n := 2) F hd rfl uX3 (Or.inl (by rw [ho]; exact F.2.2.2.2.1 _ fl_X3_9)) (by decide) rfl (m_21 hi) rfl rfl ht kk
theorem g_X0_48 {M : MS} {G : GS} {ad : Ads} {Y : YS} {post : Option SV → Mem → Prop} {pc t : Nat} {ls : List (Option SV)} {st : List SV} {im : Nat → Nat → Nat → Int} {bt rt : Nat} {lm : Nat → Nat → Nat → Int} {i : Nat} (F : Fx M (XC G) ad Y) (hd : decode Y.2.1 pc = .ok (.getfield 48, 3)) (ho : Y.1 = RX0) (hi : i < 15) (ht : t = pc + 3) (kk : Wp M (XC G) ad Y post t ls (vR 22 i :: st) (im, rs bt rt, lm)) : Wp M (XC G) ad Y post pc ls (vR 21 i :: st) (im, rs bt rt, lm) := wp_getr (n := 2) F hd rfl uX3 (Or.inr ⟨"AWordStuck", by rw [ho]; exact va_Nw.use rfl (F.2.2.2.2.2.2.2.2.1.1 _ fn_X0_48)⟩) (by decide) rfl (m_21 hi) rfl rfl ht kk
theorem g_X7_52 {M : MS} {G : GS} {ad : Ads} {Y : YS} {post : Option SV → Mem → Prop} {pc t : Nat} {ls : List (Option SV)} {st : List SV} {im : Nat → Nat → Nat → Int} {bt rt : Nat} {lm : Nat → Nat → Nat → Int} {i : Nat} (F : Fx M (XC G) ad Y) (hd : decode Y.2.1 pc = .ok (.getfield 52, 3)) (ho : Y.1 = RX7) (hi : i < 15) (ht : t = pc + 3) (kk : Wp M (XC G) ad Y post t ls (vR 22 i :: st) (im, rs bt rt, lm)) : Wp M (XC G) ad Y post pc ls (vR 21 i :: st) (im, rs bt rt, lm) := wp_getr (n := 2) F hd rfl uX3 (Or.inr ⟨"AWordStuck", by rw [ho]; exact va_Nw.use rfl (F.2.2.2.2.2.2.2.2.1.1 _ fn_X7_52)⟩) (by decide) rfl (m_21 hi) rfl rfl ht kk
theorem g_X8_132 {M : MS} {G : GS} {ad : Ads} {Y : YS} {post : Option SV → Mem → Prop} {pc t : Nat} {ls : List (Option SV)} {st : List SV} {im : Nat → Nat → Nat → Int} {bt rt : Nat} {lm : Nat → Nat → Nat → Int} {i : Nat} (F : Fx M (XC G) ad Y) (hd : decode Y.2.1 pc = .ok (.getfield 132, 3)) (ho : Y.1 = RX8) (hi : i < 15) (ht : t = pc + 3) (kk : Wp M (XC G) ad Y post t ls (vR 22 i :: st) (im, rs bt rt, lm)) : Wp M (XC G) ad Y post pc ls (vR 21 i :: st) (im, rs bt rt, lm) := wp_getr (n := 2) F hd rfl uX3 (Or.inr ⟨"AWordStuck", by rw [ho]; exact va_Nw.use rfl (F.2.2.2.2.2.2.2.2.1.1 _ fn_X8_132)⟩) (by decide) rfl (m_21 hi) rfl rfl ht kk
theorem g_X3_15 {M : MS} {G : GS} {ad : Ads} {Y : YS} {post : Option SV → Mem → Prop} {pc t : Nat} {ls : List (Option SV)} {st : List SV} {im : Nat → Nat → Nat → Int} {bt rt : Nat} {lm : Nat → Nat → Nat → Int} {i : Nat} (F : Fx M (XC G) ad Y) (hd : decode Y.2.1 pc = .ok (.getfield 15, 3)) (ho : Y.1 = RX3) (hi : i < 15) (ht : t = pc + 3) (kk : Wp M (XC G) ad Y post t ls (vR 23 i :: st) (im, rs bt rt, lm)) : Wp M (XC G) ad Y post pc ls (vR 21 i :: st) (im, rs bt rt, lm) := wp_getr (n := 3) F hd rfl uX3 (Or.inl (by rw [ho]; exact F.2.2.2.2.1 _ fl_X3_15)) (by decide) rfl (m_21 hi) rfl rfl ht kk
theorem g_X0_39 {M : MS} {G : GS} {ad : Ads} {Y : YS} {post : Option SV → Mem → Prop} {pc t : Nat} {ls : List (Option SV)} {st : List SV} {im : Nat → Nat → Nat → Int} {bt rt : Nat} {lm : Nat → Nat → Nat → Int} {i : Nat} (F : Fx M (XC G) ad Y) (hd : decode Y.2.1 pc = .ok (.getfield 39, 3)) (ho : Y.1 = RX0) (hi : i < 15) (ht : t = pc + 3) (kk : Wp M (XC G) ad Y post t ls (vR 23 i :: st) (im, rs bt rt, lm)) : Wp M (XC G) ad Y post pc ls (vR 21 i :: st) (im, rs bt rt, lm) := wp_getr (n := 3) F hd rfl uX3 (Or.inr ⟨"AWordStuck", by rw [ho]; exact va_Nw.use rfl (F.2.2.2.2.2.2.2.2.1.1 _ fn_X0_39)⟩) (by decide) rfl (m_21 hi) rfl rfl ht kk
theorem g_X7_78 {M : MS} {G : GS} {ad : Ads} {Y : YS} {post : Option SV → Mem → Prop} {pc t : Nat} {ls : List (Option SV)} {st : List SV} {im : Nat → Nat → Nat → Int} {bt rt : Nat} {lm : Nat → Nat → Nat → Int} {i : Nat} (F : Fx M (XC G) ad Y) (hd : decode Y.2.1 pc = .ok (.getfield 78, 3)) (ho : Y.1 = RX7) (hi : i < 15) (ht : t = pc + 3) (kk : Wp M (XC G) ad Y post t ls (vR 23 i :: st) (im, rs bt rt, lm)) : Wp M (XC G) ad Y post pc ls (vR 21 i :: st) (im, rs bt rt, lm) := wp_getr (n := 3) F hd rfl uX3 (Or.inr ⟨"AWordStuck", by rw [ho]; exact va_Nw.use rfl (F.2.2.2.2.2.2.2.2.1.1 _ fn_X7_78)⟩) (by decide) rfl (m_21 hi) rfl rfl ht kk
theorem g_X8_136 {M : MS} {G : GS} {ad : Ads} {Y : YS} {post : Option SV → Mem → Prop} {pc t : Nat} {ls : List (Option SV)} {st : List SV} {im : Nat → Nat → Nat → Int} {bt rt : Nat} {lm : Nat → Nat → Nat → Int} {i : Nat} (F : Fx M (XC G) ad Y) (hd : decode Y.2.1 pc = .ok (.getfield 136, 3)) (ho : Y.1 = RX8) (hi : i < 15) (ht : t = pc + 3) (kk : Wp M (XC G) ad Y post t ls (vR 23 i :: st) (im, rs bt rt, lm)) : Wp M (XC G) ad Y post pc ls (vR 21 i :: st) (im, rs bt rt, lm) := wp_getr (n := 3) F hd rfl uX3 (Or.inr ⟨"AWordStuck", by rw [ho]; exact va_Nw.use rfl (F.2.2.2.2.2.2.2.2.1.1 _ fn_X8_136)⟩) (by decide) rfl (m_21 hi) rfl rfl ht kk
theorem g_X7_25 {M : MS} {G : GS} {ad : Ads} {Y : YS} {post : Option SV → Mem → Prop} {pc t : Nat} {ls : List (Option SV)} {st : List SV} {im : Nat → Nat → Nat → Int} {bt rt : Nat} {lm : Nat → Nat → Nat → Int} {i : Nat} (F : Fx M (XC G) ad Y) (hd : decode Y.2.1 pc = .ok (.getfield 25, 3)) (ho : Y.1 = RX7) (hi : i < 3) (ht : t = pc + 3) (kk : Wp M (XC G) ad Y post t ls (vR 1 0 :: st) (im, rs bt rt, lm)) : Wp M (XC G) ad Y post pc ls (vR 18 i :: st) (im, rs bt rt, lm) := wp_getr (n := 0) F hd rfl uX7 (Or.inl (by rw [ho]; exact F.2.2.2.2.1 _ fl_X7_25)) (by decide) rfl (m_18 hi) rfl rfl ht kk
theorem g_X0_25 {M : MS} {G : GS} {ad : Ads} {Y : YS} {post : Option SV → Mem → Prop} {pc t : Nat} {ls : List (Option SV)} {st : List SV} {im : Nat → Nat → Nat → Int} {bt rt : Nat} {lm : Nat → Nat → Nat → Int} {i : Nat} (F : Fx M (XC G) ad Y) (hd : decode Y.2.1 pc = .ok (.getfield 25, 3)) (ho : Y.1 = RX0) (hi : i < 3) (ht : t = pc + 3) (kk : Wp M (XC G) ad Y post t ls (vR 1 0 :: st) (im, rs bt rt, lm)) : Wp M (XC G) ad Y post pc ls (vR 18 i :: st) (im, rs bt rt, lm) := wp_getr (n := 0) F hd rfl uX7 (Or.inr ⟨"AWordStuck", by rw [ho]; exact va_Nw.use rfl (F.2.2.2.2.2.2.2.2.1.1 _ fn_X0_25)⟩) (by decide) rfl (m_18 hi) rfl rfl ht kk
theorem g_X7_11 {M : MS} {G : GS} {ad : Ads} {Y : YS} {post : Option SV → Mem → Prop} {pc t : Nat} {ls : List (Option SV)} {st : List SV} {im : Nat → Nat → Nat → Int} {bt rt : Nat} {lm : Nat → Nat → Nat → Int} {i : Nat} (F : Fx M (XC G) ad Y) (hd : decode Y.2.1 pc = .ok (.getfield 11, 3)) (ho : Y.1 = RX7) (hi : i < 3) (ht : t = pc + 3) (kk : Wp M (XC G) ad Y post t ls (vR 19 i :: st) (im, rs bt rt, lm)) : Wp M (XC G) ad Y post pc ls (vR 18 i :: st) (im, rs bt rt, lm) := wp_getr (n := 1) F hd rfl uX7 (Or.inl (by rw [ho]; exact F.2.2.2.2.1 _ fl_X7_11)) (by decide) rfl (m_18 hi) rfl rfl ht kk
theorem g_X0_19 {M : MS} {G : GS} {ad : Ads} {Y : YS} {post : Option SV → Mem → Prop} {pc t : Nat} {ls : List (Option SV)} {st : List SV} {im : Nat → Nat → Nat → Int} {bt rt : Nat} {lm : Nat → Nat → Nat → Int} {i : Nat} (F : Fx M (XC G) ad Y) (hd : decode Y.2.1 pc = .ok (.getfield 19, 3)) (ho : Y.1 = RX0) (hi : i < 3) (ht : t = pc + 3) (kk : Wp M (XC G) ad Y post t ls (vR 19 i :: st) (im, rs bt rt, lm)) : Wp M (XC G) ad Y post pc ls (vR 18 i :: st) (im, rs bt rt, lm) := wp_getr (n := 1) F hd rfl uX7 (Or.inr ⟨"AWordStuck", by rw [ho]; exact va_Nw.use rfl (F.2.2.2.2.2.2.2.2.1.1 _ fn_X0_19)⟩) (by decide) rfl (m_18 hi) rfl rfl ht kk
theorem g_X8_99 {M : MS} {G : GS} {ad : Ads} {Y : YS} {post : Option SV → Mem → Prop} {pc t : Nat} {ls : List (Option SV)} {st : List SV} {im : Nat → Nat → Nat → Int} {bt rt : Nat} {lm : Nat → Nat → Nat → Int} {i : Nat} (F : Fx M (XC G) ad Y) (hd : decode Y.2.1 pc = .ok (.getfield 99, 3)) (ho : Y.1 = RX8) (hi : i < 3) (ht : t = pc + 3) (kk : Wp M (XC G) ad Y post t ls (vR 19 i :: st) (im, rs bt rt, lm)) : Wp M (XC G) ad Y post pc ls (vR 18 i :: st) (im, rs bt rt, lm) := wp_getr (n := 1) F hd rfl uX7 (Or.inr ⟨"AWordStuck", by rw [ho]; exact va_Nw.use rfl (F.2.2.2.2.2.2.2.2.1.1 _ fn_X8_99)⟩) (by decide) rfl (m_18 hi) rfl rfl ht kk
theorem g_X7_17 {M : MS} {G : GS} {ad : Ads} {Y : YS} {post : Option SV → Mem → Prop} {pc t : Nat} {ls : List (Option SV)} {st : List SV} {im : Nat → Nat → Nat → Int} {bt rt : Nat} {lm : Nat → Nat → Nat → Int} {i : Nat} (F : Fx M (XC G) ad Y) (hd : decode Y.2.1 pc = .ok (.getfield 17, 3)) (ho : Y.1 = RX7) (hi : i < 3) (ht : t = pc + 3) (kk : Wp M (XC G) ad Y post t ls (vR 20 i :: st) (im, rs bt rt, lm)) : Wp M (XC G) ad Y post pc ls (vR 18 i :: st) (im, rs bt rt, lm) := wp_getr (n := 2) F hd rfl uX7 (Or.inl (by rw [ho]; exact F.2.2.2.2.1 _ fl_X7_17)) (by decide) rfl (m_18 hi) rfl rfl ht kk
theorem g_X7_30 {M : MS} {G : GS} {ad : Ads} {Y : YS} {post : Option SV → Mem → Prop} {pc t : Nat} {ls : List (Option SV)} {st : List SV} {im : Nat → Nat → Nat → Int} {bt rt : Nat} {lm : Nat → Nat → Nat → Int} {i : Nat} (F : Fx M (XC G) ad Y) (hd : decode Y.2.1 pc = .ok (.getfield 30, 3)) (ho : Y.1 = RX7) (hi : i < 3) (ht : t = pc + 3) (kk : Wp M (XC G) ad Y post t ls (vI (im 18 i 3) :: st) (im, rs bt rt, lm)) : Wp M (XC G) ad Y post pc ls (vR 18 i :: st) (im, rs bt rt, lm) := wp_geti (n := 3) F hd rfl uX7 (Or.inl (by rw [ho]; exact F.2.2.2.2.1 _ fl_X7_30)) (by decide) rfl (m_18 hi) rfl ht kk
theorem p_X7_30 {M : MS} {G : GS} {ad : Ads} {Y : YS} {post : Option SV → Mem → Prop} {pc t : Nat} {ls : List (Option SV)} {st : List SV} {im : Nat → Nat → Nat → Int} {bt rt : Nat} {lm : Nat → Nat → Nat → Int} {i : Nat} {x : Int} (F : Fx M (XC G) ad Y) (hd : decode Y.2.1 pc = .ok (.putfield 30, 3)) (ho : Y.1 = RX7) (hi : i < 3) (ht : t = pc + 3) (kk : Wp M (XC G) ad Y post t ls st (up im 18 i 3 x, rs bt rt, lm)) : Wp M (XC G) ad Y post pc ls (vI x :: vR 18 i :: st) (im, rs bt rt, lm) := wp_puti (n := 3) F hd rfl uX7 tyX7 tyX7_ok nmX7 (Or.inl (by rw [ho]; exact F.2.2.2.2.1 _ fl_X7_30)) (by decide) rfl rfl (m_18 hi) rfl rfl ht kk
theorem g_X1_34 {M : MS} {G : GS} {ad : Ads} {Y : YS} {post : Option SV → Mem → Prop} {pc t : Nat} {ls : List (Option SV)} {st : List SV} {im : Nat → Nat → Nat → Int} {bt rt : Nat} {lm : Nat → Nat → Nat → Int} {i : Nat} (F : Fx M (XC G) ad Y) (hd : decode Y.2.1 pc = .ok (.getfield 34, 3)) (ho : Y.1 = RX1) (hi : i < 3) (ht : t = pc + 3) (kk : Wp M (XC G) ad Y post t ls (vI (im 18 i 3) :: st) (im, rs bt rt, lm)) : Wp M (XC G) ad Y post pc ls (vR 18 i :: st) (im, rs bt rt, lm) := wp_geti (n := 3) F hd rfl uX7 (Or.inr ⟨"AWordStuck", by rw [ho]; exact va_Nw.use rfl (F.2.2.2.2.2.2.2.2.1.1 _ fn_X1_34)⟩) (by decide) rfl (m_18 hi) rfl ht kk
theorem g_X8_115 {M : MS} {G : GS} {ad : Ads} {Y : YS} {post : Option SV → Mem → Prop} {pc t : Nat} {ls : List (Option SV)} {st : List SV} {im : Nat → Nat → Nat → Int} {bt rt : Nat} {lm : Nat → Nat → Nat → Int} {i : Nat} (F : Fx M (XC G) ad Y) (hd : decode Y.2.1 pc = .ok (.getfield 115, 3)) (ho : Y.1 = RX8) (hi : i < 3) (ht : t = pc + 3) (kk : Wp M (XC G) ad Y post t ls (vI (im 18 i 3) :: st) (im, rs bt rt, lm)) : Wp M (XC G) ad Y post pc ls (vR 18 i :: st) (im, rs bt rt, lm) := wp_geti (n := 3) F hd rfl uX7 (Or.inr ⟨"AWordStuck", by rw [ho]; exact va_Nw.use rfl (F.2.2.2.2.2.2.2.2.1.1 _ fn_X8_115)⟩) (by decide) rfl (m_18 hi) rfl ht kk
theorem g_X7_33 {M : MS} {G : GS} {ad : Ads} {Y : YS} {post : Option SV → Mem → Prop} {pc t : Nat} {ls : List (Option SV)} {st : List SV} {im : Nat → Nat → Nat → Int} {bt rt : Nat} {lm : Nat → Nat → Nat → Int} {i : Nat} (F : Fx M (XC G) ad Y) (hd : decode Y.2.1 pc = .ok (.getfield 33, 3)) (ho : Y.1 = RX7) (hi : i < 3) (ht : t = pc + 3) (kk : Wp M (XC G) ad Y post t ls (vI (im 18 i 4) :: st) (im, rs bt rt, lm)) : Wp M (XC G) ad Y post pc ls (vR 18 i :: st) (im, rs bt rt, lm) := wp_geti (n := 4) F hd rfl uX7 (Or.inl (by rw [ho]; exact F.2.2.2.2.1 _ fl_X7_33)) (by decide) rfl (m_18 hi) rfl ht kk
theorem p_X7_33 {M : MS} {G : GS} {ad : Ads} {Y : YS} {post : Option SV → Mem → Prop} {pc t : Nat} {ls : List (Option SV)} {st : List SV} {im : Nat → Nat → Nat → Int} {bt rt : Nat} {lm : Nat → Nat → Nat → Int} {i : Nat} {x : Int} (F : Fx M (XC G) ad Y) (hd : decode Y.2.1 pc = .ok (.putfield 33, 3)) (ho : Y.1 = RX7) (hi : i < 3) (ht : t = pc + 3) (kk : Wp M (XC G) ad Y post t ls st (up im 18 i 4 x, rs bt rt, lm)) : Wp M (XC G) ad Y post pc ls (vI x :: vR 18 i :: st) (im, rs bt rt, lm) := wp_puti (n := 4) F hd rfl uX7 tyX7 tyX7_ok nmX7 (Or.inl (by rw [ho]; exact F.2.2.2.2.1 _ fl_X7_33)) (by decide) rfl rfl (m_18 hi) rfl rfl ht kk
theorem g_X0_44 {M : MS} {G : GS} {ad : Ads} {Y : YS} {post : Option SV → Mem → Prop} {pc t : Nat} {ls : List (Option SV)} {st : List SV} {im : Nat → Nat → Nat → Int} {bt rt : Nat} {lm : Nat → Nat → Nat → Int} {i : Nat} (F : Fx M (XC G) ad Y) (hd : decode Y.2.1 pc = .ok (.getfield 44, 3)) (ho : Y.1 = RX0) (hi : i < 3) (ht : t = pc + 3) (kk : Wp M (XC G) ad Y post t ls (vI (im 18 i 4) :: st) (im, rs bt rt, lm)) : Wp M (XC G) ad Y post pc ls (vR 18 i :: st) (im, rs bt rt, lm) := wp_geti (n := 4) F hd rfl uX7 (Or.inr ⟨"AWordStuck", by rw [ho]; exact va_Nw.use rfl (F.2.2.2.2.2.2.2.2.1.1 _ fn_X0_44)⟩) (by decide) rfl (m_18 hi) rfl ht kk
theorem g_X8_108 {M : MS} {G : GS} {ad : Ads} {Y : YS} {post : Option SV → Mem → Prop} {pc t : Nat} {ls : List (Option SV)} {st : List SV} {im : Nat → Nat → Nat → Int} {bt rt : Nat} {lm : Nat → Nat → Nat → Int} {i : Nat} (F : Fx M (XC G) ad Y) (hd : decode Y.2.1 pc = .ok (.getfield 108, 3)) (ho : Y.1 = RX8) (hi : i < 3) (ht : t = pc + 3) (kk : Wp M (XC G) ad Y post t ls (vI (im 18 i 4) :: st) (im, rs bt rt, lm)) : Wp M (XC G) ad Y post pc ls (vR 18 i :: st) (im, rs bt rt, lm) := wp_geti (n := 4) F hd rfl uX7 (Or.inr ⟨"AWordStuck", by rw [ho]; exact va_Nw.use rfl (F.2.2.2.2.2.2.2.2.1.1 _ fn_X8_108)⟩) (by decide) rfl (m_18 hi) rfl ht kk
theorem p_X8_108 {M : MS} {G : GS} {ad : Ads} {Y : YS} {post : Option SV → Mem → Prop} {pc t : Nat} {ls : List (Option SV)} {st : List SV} {im : Nat → Nat → Nat → Int} {bt rt : Nat} {lm : Nat → Nat → Nat → Int} {i : Nat} {x : Int} (F : Fx M (XC G) ad Y) (hd : decode Y.2.1 pc = .ok (.putfield 108, 3)) (ho : Y.1 = RX8) (hi : i < 3) (ht : t = pc + 3) (kk : Wp M (XC G) ad Y post t ls st (up im 18 i 4 x, rs bt rt, lm)) : Wp M (XC G) ad Y post pc ls (vI x :: vR 18 i :: st) (im, rs bt rt, lm) := wp_puti (n := 4) F hd rfl uX7 tyX7 tyX7_ok nmX7 (Or.inr ⟨"AWordStuck", by rw [ho]; exact va_Nw.use rfl (F.2.2.2.2.2.2.2.2.1.1 _ fn_X8_108)⟩) (by decide) rfl rfl (m_18 hi) rfl rfl ht kk
theorem g_X1_61 {M : MS} {G : GS} {ad : Ads} {Y : YS} {post : Option SV → Mem → Prop} {pc t : Nat} {ls : List (Option SV)} {st : List SV} {im : Nat → Nat → Nat → Int} {bt rt : Nat} {lm : Nat → Nat → Nat → Int} {i : Nat} (F : Fx M (XC G) ad Y) (hd : decode Y.2.1 pc = .ok (.getfield 61, 3)) (ho : Y.1 = RX1) (hi : i < 3) (ht : t = pc + 3) (kk : Wp M (XC G) ad Y post t ls (vI (im 18 i 4) :: st) (im, rs bt rt, lm)) : Wp M (XC G) ad Y post pc ls (vR 18 i :: st) (im, rs bt rt, lm) := wp_geti (n := 4) F hd rfl uX7 (Or.inr ⟨"AWordStuck", by rw [ho]; exact va_Nw.use rfl (F.2.2.2.2.2.2.2.2.1.1 _ fn_X1_61)⟩) (by decide) rfl (m_18 hi) rfl ht kk
theorem g_X7_21 {M : MS} {G : GS} {ad : Ads} {Y : YS} {post : Option SV → Mem → Prop} {pc t : Nat} {ls : List (Option SV)} {st : List SV} {im : Nat → Nat → Nat → Int} {bt rt : Nat} {lm : Nat → Nat → Nat → Int} {i : Nat} (F : Fx M (XC G) ad Y) (hd : decode Y.2.1 pc = .ok (.getfield 21, 3)) (ho : Y.1 = RX7) (hi : i < 3) (ht : t = pc + 3) (kk : Wp M (XC G) ad Y post t ls (vI (im 18 i 5) :: st) (im, rs bt rt, lm)) : Wp M (XC G) ad Y post pc ls (vR 18 i :: st) (im, rs bt rt, lm) := wp_geti (n := 5) F hd rfl uX7 (Or.inl (by rw [ho]; exact F.2.2.2.2.1 _ fl_X7_21)) (by decide) rfl (m_18 hi) rfl ht kk
theorem p_X7_21 {M : MS} {G : GS} {ad : Ads} {Y : YS} {post : Option SV → Mem → Prop} {pc t : Nat} {ls : List (Option SV)} {st : List SV} {im : Nat → Nat → Nat → Int} {bt rt : Nat} {lm : Nat → Nat → Nat → Int} {i : Nat} {x : Int} (F : Fx M (XC G) ad Y) (hd : decode Y.2.1 pc = .ok (.putfield 21, 3)) (ho : Y.1 = RX7) (hi : i < 3) (ht : t = pc + 3) (kk : Wp M (XC G) ad Y post t ls st (up im 18 i 5 x, rs bt rt, lm)) : Wp M (XC G) ad Y post pc ls (vI x :: vR 18 i :: st) (im, rs bt rt, lm) := wp_puti (n := 5) F hd rfl uX7 tyX7 tyX7_ok nmX7 (Or.inl (by rw [ho]; exact F.2.2.2.2.1 _ fl_X7_21)) (by decide) rfl rfl (m_18 hi) rfl rfl ht kk
theorem g_X8_112 {M : MS} {G : GS} {ad : Ads} {Y : YS} {post : Option SV → Mem → Prop} {pc t : Nat} {ls : List (Option SV)} {st : List SV} {im : Nat → Nat → Nat → Int} {bt rt : Nat} {lm : Nat → Nat → Nat → Int} {i : Nat} (F : Fx M (XC G) ad Y) (hd : decode Y.2.1 pc = .ok (.getfield 112, 3)) (ho : Y.1 = RX8) (hi : i < 3) (ht : t = pc + 3) (kk : Wp M (XC G) ad Y post t ls (vI (im 18 i 5) :: st) (im, rs bt rt, lm)) : Wp M (XC G) ad Y post pc ls (vR 18 i :: st) (im, rs bt rt, lm) := wp_geti (n := 5) F hd rfl uX7 (Or.inr ⟨"AWordStuck", by rw [ho]; exact va_Nw.use rfl (F.2.2.2.2.2.2.2.2.1.1 _ fn_X8_112)⟩) (by decide) rfl (m_18 hi) rfl ht kk
theorem p_X8_112 {M : MS} {G : GS} {ad : Ads} {Y : YS} {post : Option SV → Mem → Prop} {pc t : Nat} {ls : List (Option SV)} {st : List SV} {im : Nat → Nat → Nat → Int} {bt rt : Nat} {lm : Nat → Nat → Nat → Int} {i : Nat} {x : Int} (F : Fx M (XC G) ad Y) (hd : decode Y.2.1 pc = .ok (.putfield 112, 3)) (ho : Y.1 = RX8) (hi : i < 3) (ht : t = pc + 3) (kk : Wp M (XC G) ad Y post t ls st (up im 18 i 5 x, rs bt rt, lm)) : Wp M (XC G) ad Y post pc ls (vI x :: vR 18 i :: st) (im, rs bt rt, lm) := wp_puti (n := 5) F hd rfl uX7 tyX7 tyX7_ok nmX7 (Or.inr ⟨"AWordStuck", by rw [ho]; exact va_Nw.use rfl (F.2.2.2.2.2.2.2.2.1.1 _ fn_X8_112)⟩) (by decide) rfl rfl (m_18 hi) rfl rfl ht kk
theorem g_X7_36 {M : MS} {G : GS} {ad : Ads} {Y : YS} {post : Option SV → Mem → Prop} {pc t : Nat} {ls : List (Option SV)} {st : List SV} {im : Nat → Nat → Nat → Int} {bt rt : Nat} {lm : Nat → Nat → Nat → Int} {i : Nat} (F : Fx M (XC G) ad Y) (hd : decode Y.2.1 pc = .ok (.getfield 36, 3)) (ho : Y.1 = RX7) (hi : i < 3) (ht : t = pc + 3) (kk : Wp M (XC G) ad Y post t ls (vI (im 18 i 6) :: st) (im, rs bt rt, lm)) : Wp M (XC G) ad Y post pc ls (vR 18 i :: st) (im, rs bt rt, lm) := wp_geti (n := 6) F hd rfl uX7 (Or.inl (by rw [ho]; exact F.2.2.2.2.1 _ fl_X7_36)) (by decide) rfl (m_18 hi) rfl ht kk
theorem p_X7_36 {M : MS} {G : GS} {ad : Ads} {Y : YS} {post : Option SV → Mem → Prop} {pc t : Nat} {ls : List (Option SV)} {st : List SV} {im : Nat → Nat → Nat → Int} {bt rt : Nat} {lm : Nat → Nat → Nat → Int} {i : Nat} {x : Int} (F : Fx M (XC G) ad Y) (hd : decode Y.2.1 pc = .ok (.putfield 36, 3)) (ho : Y.1 = RX7) (hi : i < 3) (ht : t = pc + 3) (kk : Wp M (XC G) ad Y post t ls st (up im 18 i 6 x, rs bt rt, lm)) : Wp M (XC G) ad Y post pc ls (vI x :: vR 18 i :: st) (im, rs bt rt, lm) := wp_puti (n := 6) F hd rfl uX7 tyX7 tyX7_ok nmX7 (Or.inl (by rw [ho]; exact F.2.2.2.2.1 _ fl_X7_36)) (by decide) rfl rfl (m_18 hi) rfl rfl ht kk
theorem g_X8_230 {M : MS} {G : GS} {ad : Ads} {Y : YS} {post : Option SV → Mem → Prop} {pc t : Nat} {ls : List (Option SV)} {st : List SV} {im : Nat → Nat → Nat → Int} {bt rt : Nat} {lm : Nat → Nat → Nat → Int} {i : Nat} (F : Fx M (XC G) ad Y) (hd : decode Y.2.1 pc = .ok (.getfield 230, 3)) (ho : Y.1 = RX8) (hi : i < 3) (ht : t = pc + 3) (kk : Wp M (XC G) ad Y post t ls (vI (im 18 i 6) :: st) (im, rs bt rt, lm)) : Wp M (XC G) ad Y post pc ls (vR 18 i :: st) (im, rs bt rt, lm) := wp_geti (n := 6) F hd rfl uX7 (Or.inr ⟨"AWordStuck", by rw [ho]; exact va_Nw.use rfl (F.2.2.2.2.2.2.2.2.1.1 _ fn_X8_230)⟩) (by decide) rfl (m_18 hi) rfl ht kk
theorem p_X8_230 {M : MS} {G : GS} {ad : Ads} {Y : YS} {post : Option SV → Mem → Prop} {pc t : Nat} {ls : List (Option SV)} {st : List SV} {im : Nat → Nat → Nat → Int} {bt rt : Nat} {lm : Nat → Nat → Nat → Int} {i : Nat} {x : Int} (F : Fx M (XC G) ad Y) (hd : decode Y.2.1 pc = .ok (.putfield 230, 3)) (ho : Y.1 = RX8) (hi : i < 3) (ht : t = pc + 3) (kk : Wp M (XC G) ad Y post t ls st (up im 18 i 6 x, rs bt rt, lm)) : Wp M (XC G) ad Y post pc ls (vI x :: vR 18 i :: st) (im, rs bt rt, lm) := wp_puti (n := 6) F hd rfl uX7 tyX7 tyX7_ok nmX7 (Or.inr ⟨"AWordStuck", by rw [ho]; exact va_Nw.use rfl (F.2.2.2.2.2.2.2.2.1.1 _ fn_X8_230)⟩) (by decide) rfl rfl (m_18 hi) rfl rfl ht kk
theorem g_X0_29 {M : MS} {G : GS} {ad : Ads} {Y : YS} {post : Option SV → Mem → Prop} {pc t : Nat} {ls : List (Option SV)} {st : List SV} {im : Nat → Nat → Nat → Int} {bt rt : Nat} {lm : Nat → Nat → Nat → Int} {i : Nat} (F : Fx M (XC G) ad Y) (hd : decode Y.2.1 pc = .ok (.getfield 29, 3)) (ho : Y.1 = RX0) (hi : i < 3) (ht : t = pc + 3) (kk : Wp M (XC G) ad Y post t ls (vI (im 18 i 7) :: st) (im, rs bt rt, lm)) : Wp M (XC G) ad Y post pc ls (vR 18 i :: st) (im, rs bt rt, lm) := wp_geti (n := 7) F hd rfl uX7 (Or.inr ⟨"AWordStuck", by rw [ho]; exact va_Nw.use rfl (F.2.2.2.2.2.2.2.2.1.1 _ fn_X0_29)⟩) (by decide) rfl (m_18 hi) rfl ht kk
theorem g_X7_39 {M : MS} {G : GS} {ad : Ads} {Y : YS} {post : Option SV → Mem → Prop} {pc t : Nat} {ls : List (Option SV)} {st : List SV} {im : Nat → Nat → Nat → Int} {bt rt : Nat} {lm : Nat → Nat → Nat → Int} {i : Nat} (F : Fx M (XC G) ad Y) (hd : decode Y.2.1 pc = .ok (.getfield 39, 3)) (ho : Y.1 = RX7) (hi : i < 3) (ht : t = pc + 3) (kk : Wp M (XC G) ad Y post t ls (vI (im 18 i 7) :: st) (im, rs bt rt, lm)) : Wp M (XC G) ad Y post pc ls (vR 18 i :: st) (im, rs bt rt, lm) := wp_geti (n := 7) F hd rfl uX7 (Or.inl (by rw [ho]; exact F.2.2.2.2.1 _ fl_X7_39)) (by decide) rfl (m_18 hi) rfl ht kk
theorem p_X7_39 {M : MS} {G : GS} {ad : Ads} {Y : YS} {post : Option SV → Mem → Prop} {pc t : Nat} {ls : List (Option SV)} {st : List SV} {im : Nat → Nat → Nat → Int} {bt rt : Nat} {lm : Nat → Nat → Nat → Int} {i : Nat} {x : Int} (F : Fx M (XC G) ad Y) (hd : decode Y.2.1 pc = .ok (.putfield 39, 3)) (ho : Y.1 = RX7) (hi : i < 3) (ht : t = pc + 3) (kk : Wp M (XC G) ad Y post t ls st (up im 18 i 7 x, rs bt rt, lm)) : Wp M (XC G) ad Y post pc ls (vI x :: vR 18 i :: st) (im, rs bt rt, lm) := wp_puti (n := 7) F hd rfl uX7 tyX7 tyX7_ok nmX7 (Or.inl (by rw [ho]; exact F.2.2.2.2.1 _ fl_X7_39)) (by decide) rfl rfl (m_18 hi) rfl rfl ht kk
theorem g_X8_147 {M : MS} {G : GS} {ad : Ads} {Y : YS} {post : Option SV → Mem → Prop} {pc t : Nat} {ls : List (Option SV)} {st : List SV} {im : Nat → Nat → Nat → Int} {bt rt : Nat} {lm : Nat → Nat → Nat → Int} {i : Nat} (F : Fx M (XC G) ad Y) (hd : decode Y.2.1 pc = .ok (.getfield 147, 3)) (ho : Y.1 = RX8) (hi : i < 3) (ht : t = pc + 3) (kk : Wp M (XC G) ad Y post t ls (vI (im 18 i 7) :: st) (im, rs bt rt, lm)) : Wp M (XC G) ad Y post pc ls (vR 18 i :: st) (im, rs bt rt, lm) := wp_geti (n := 7) F hd rfl uX7 (Or.inr ⟨"AWordStuck", by rw [ho]; exact va_Nw.use rfl (F.2.2.2.2.2.2.2.2.1.1 _ fn_X8_147)⟩) (by decide) rfl (m_18 hi) rfl ht kk
theorem p_X8_147 {M : MS} {G : GS} {ad : Ads} {Y : YS} {post : Option SV → Mem → Prop} {pc t : Nat} {ls : List (Option SV)} {st : List SV} {im : Nat → Nat → Nat → Int} {bt rt : Nat} {lm : Nat → Nat → Nat → Int} {i : Nat} {x : Int} (F : Fx M (XC G) ad Y) (hd : decode Y.2.1 pc = .ok (.putfield 147, 3)) (ho : Y.1 = RX8) (hi : i < 3) (ht : t = pc + 3) (kk : Wp M (XC G) ad Y post t ls st (up im 18 i 7 x, rs bt rt, lm)) : Wp M (XC G) ad Y post pc ls (vI x :: vR 18 i :: st) (im, rs bt rt, lm) := wp_puti (n := 7) F hd rfl uX7 tyX7 tyX7_ok nmX7 (Or.inr ⟨"AWordStuck", by rw [ho]; exact va_Nw.use rfl (F.2.2.2.2.2.2.2.2.1.1 _ fn_X8_147)⟩) (by decide) rfl rfl (m_18 hi) rfl rfl ht kk
theorem g_X8_11 {M : MS} {G : GS} {ad : Ads} {Y : YS} {post : Option SV → Mem → Prop} {pc t : Nat} {ls : List (Option SV)} {st : List SV} {im : Nat → Nat → Nat → Int} {bt rt : Nat} {lm : Nat → Nat → Nat → Int} (F : Fx M (XC G) ad Y) (hd : decode Y.2.1 pc = .ok (.getfield 11, 3)) (ho : Y.1 = RX8) (ht : t = pc + 3) (kk : Wp M (XC G) ad Y post t ls (vR 1 0 :: st) (im, rs bt rt, lm)) : Wp M (XC G) ad Y post pc ls (vR 0 0 :: st) (im, rs bt rt, lm) := wp_getr (n := 0) F hd rfl uX8 (Or.inl (by rw [ho]; exact F.2.2.2.2.1 _ fl_X8_11)) (by decide) rfl (m_0 (by decide)) rfl rfl ht kk
theorem g_X8_17 {M : MS} {G : GS} {ad : Ads} {Y : YS} {post : Option SV → Mem → Prop} {pc t : Nat} {ls : List (Option SV)} {st : List SV} {im : Nat → Nat → Nat → Int} {bt rt : Nat} {lm : Nat → Nat → Nat → Int} (F : Fx M (XC G) ad Y) (hd : decode Y.2.1 pc = .ok (.getfield 17, 3)) (ho : Y.1 = RX8) (ht : t = pc + 3) (kk : Wp M (XC G) ad Y post t ls (vR 6 0 :: st) (im, rs bt rt, lm)) : Wp M (XC G) ad Y post pc ls (vR 0 0 :: st) (im, rs bt rt, lm) := wp_getr (n := 1) F hd rfl uX8 (Or.inl (by rw [ho]; exact F.2.2.2.2.1 _ fl_X8_17)) (by decide) rfl (m_0 (by decide)) rfl rfl ht kk
theorem g_X8_24 {M : MS} {G : GS} {ad : Ads} {Y : YS} {post : Option SV → Mem → Prop} {pc t : Nat} {ls : List (Option SV)} {st : List SV} {im : Nat → Nat → Nat → Int} {bt rt : Nat} {lm : Nat → Nat → Nat → Int} (F : Fx M (XC G) ad Y) (hd : decode Y.2.1 pc = .ok (.getfield 24, 3)) (ho : Y.1 = RX8) (ht : t = pc + 3) (kk : Wp M (XC G) ad Y post t ls (vR 9 0 :: st) (im, rs bt rt, lm)) : Wp M (XC G) ad Y post pc ls (vR 0 0 :: st) (im, rs bt rt, lm) := wp_getr (n := 2) F hd rfl uX8 (Or.inl (by rw [ho]; exact F.2.2.2.2.1 _ fl_X8_24)) (by decide) rfl (m_0 (by decide)) rfl rfl ht kk
theorem g_X8_35 {M : MS} {G : GS} {ad : Ads} {Y : YS} {post : Option SV → Mem → Prop} {pc t : Nat} {ls : List (Option SV)} {st : List SV} {im : Nat → Nat → Nat → Int} {bt rt : Nat} {lm : Nat → Nat → Nat → Int} (F : Fx M (XC G) ad Y) (hd : decode Y.2.1 pc = .ok (.getfield 35, 3)) (ho : Y.1 = RX8) (ht : t = pc + 3) (kk : Wp M (XC G) ad Y post t ls (vR 14 0 :: st) (im, rs bt rt, lm)) : Wp M (XC G) ad Y post pc ls (vR 0 0 :: st) (im, rs bt rt, lm) := wp_getr (n := 3) F hd rfl uX8 (Or.inl (by rw [ho]; exact F.2.2.2.2.1 _ fl_X8_35)) (by decide) rfl (m_0 (by decide)) rfl rfl ht kk
theorem g_X8_42 {M : MS} {G : GS} {ad : Ads} {Y : YS} {post : Option SV → Mem → Prop} {pc t : Nat} {ls : List (Option SV)} {st : List SV} {im : Nat → Nat → Nat → Int} {bt rt : Nat} {lm : Nat → Nat → Nat → Int} (F : Fx M (XC G) ad Y) (hd : decode Y.2.1 pc = .ok (.getfield 42, 3)) (ho : Y.1 = RX8) (ht : t = pc + 3) (kk : Wp M (XC G) ad Y post t ls (vR 16 0 :: st) (im, rs bt rt, lm)) : Wp M (XC G) ad Y post pc ls (vR 0 0 :: st) (im, rs bt rt, lm) := wp_getr (n := 4) F hd rfl uX8 (Or.inl (by rw [ho]; exact F.2.2.2.2.1 _ fl_X8_42)) (by decide) rfl (m_0 (by decide)) rfl rfl ht kk
theorem g_X8_51 {M : MS} {G : GS} {ad : Ads} {Y : YS} {post : Option SV → Mem → Prop} {pc t : Nat} {ls : List (Option SV)} {st : List SV} {im : Nat → Nat → Nat → Int} {bt rt : Nat} {lm : Nat → Nat → Nat → Int} (F : Fx M (XC G) ad Y) (hd : decode Y.2.1 pc = .ok (.getfield 51, 3)) (ho : Y.1 = RX8) (ht : t = pc + 3) (kk : Wp M (XC G) ad Y post t ls (vR 18 0 :: st) (im, rs bt rt, lm)) : Wp M (XC G) ad Y post pc ls (vR 0 0 :: st) (im, rs bt rt, lm) := wp_getr (n := 5) F hd rfl uX8 (Or.inl (by rw [ho]; exact F.2.2.2.2.1 _ fl_X8_51)) (by decide) rfl (m_0 (by decide)) rfl rfl ht kk
theorem g_X8_55 {M : MS} {G : GS} {ad : Ads} {Y : YS} {post : Option SV → Mem → Prop} {pc t : Nat} {ls : List (Option SV)} {st : List SV} {im : Nat → Nat → Nat → Int} {bt rt : Nat} {lm : Nat → Nat → Nat → Int} (F : Fx M (XC G) ad Y) (hd : decode Y.2.1 pc = .ok (.getfield 55, 3)) (ho : Y.1 = RX8) (ht : t = pc + 3) (kk : Wp M (XC G) ad Y post t ls (vR 18 1 :: st) (im, rs bt rt, lm)) : Wp M (XC G) ad Y post pc ls (vR 0 0 :: st) (im, rs bt rt, lm) := wp_getr (n := 6) F hd rfl uX8 (Or.inl (by rw [ho]; exact F.2.2.2.2.1 _ fl_X8_55)) (by decide) rfl (m_0 (by decide)) rfl rfl ht kk
theorem g_X8_58 {M : MS} {G : GS} {ad : Ads} {Y : YS} {post : Option SV → Mem → Prop} {pc t : Nat} {ls : List (Option SV)} {st : List SV} {im : Nat → Nat → Nat → Int} {bt rt : Nat} {lm : Nat → Nat → Nat → Int} (F : Fx M (XC G) ad Y) (hd : decode Y.2.1 pc = .ok (.getfield 58, 3)) (ho : Y.1 = RX8) (ht : t = pc + 3) (kk : Wp M (XC G) ad Y post t ls (vR 18 2 :: st) (im, rs bt rt, lm)) : Wp M (XC G) ad Y post pc ls (vR 0 0 :: st) (im, rs bt rt, lm) := wp_getr (n := 7) F hd rfl uX8 (Or.inl (by rw [ho]; exact F.2.2.2.2.1 _ fl_X8_58)) (by decide) rfl (m_0 (by decide)) rfl rfl ht kk
theorem g_X8_81 {M : MS} {G : GS} {ad : Ads} {Y : YS} {post : Option SV → Mem → Prop} {pc t : Nat} {ls : List (Option SV)} {st : List SV} {im : Nat → Nat → Nat → Int} {bt rt : Nat} {lm : Nat → Nat → Nat → Int} (F : Fx M (XC G) ad Y) (hd : decode Y.2.1 pc = .ok (.getfield 81, 3)) (ho : Y.1 = RX8) (ht : t = pc + 3) (kk : Wp M (XC G) ad Y post t ls (vI (im 0 0 8) :: st) (im, rs bt rt, lm)) : Wp M (XC G) ad Y post pc ls (vR 0 0 :: st) (im, rs bt rt, lm) := wp_geti (n := 8) F hd rfl uX8 (Or.inl (by rw [ho]; exact F.2.2.2.2.1 _ fl_X8_81)) (by decide) rfl (m_0 (by decide)) rfl ht kk
theorem p_X8_81 {M : MS} {G : GS} {ad : Ads} {Y : YS} {post : Option SV → Mem → Prop} {pc t : Nat} {ls : List (Option SV)} {st : List SV} {im : Nat → Nat → Nat → Int} {bt rt : Nat} {lm : Nat → Nat → Nat → Int} {x : Int} (F : Fx M (XC G) ad Y) (hd : decode Y.2.1 pc = .ok (.putfield 81, 3)) (ho : Y.1 = RX8) (ht : t = pc + 3) (kk : Wp M (XC G) ad Y post t ls st (up im 0 0 8 x, rs bt rt, lm)) : Wp M (XC G) ad Y post pc ls (vI x :: vR 0 0 :: st) (im, rs bt rt, lm) := wp_puti (n := 8) F hd rfl uX8 tyX8 tyX8_ok nmX8 (Or.inl (by rw [ho]; exact F.2.2.2.2.1 _ fl_X8_81)) (by decide) rfl rfl (m_0 (by decide)) rfl rfl ht kk
theorem g_X8_277 {M : MS} {G : GS} {ad : Ads} {Y : YS} {post : Option SV → Mem → Prop} {pc t : Nat} {ls : List (Option SV)} {st : List SV} {im : Nat → Nat → Nat → Int} {bt rt : Nat} {lm : Nat → Nat → Nat → Int} (F : Fx M (XC G) ad Y) (hd : decode Y.2.1 pc = .ok (.getfield 277, 3)) (ho : Y.1 = RX8) (ht : t = pc + 3) (kk : Wp M (XC G) ad Y post t ls (vI (im 0 0 9) :: st) (im, rs bt rt, lm)) : Wp M (XC G) ad Y post pc ls (vR 0 0 :: st) (im, rs bt rt, lm) := wp_geti (n := 9) F hd rfl uX8 (Or.inl (by rw [ho]; exact F.2.2.2.2.1 _ fl_X8_277)) (by decide) rfl (m_0 (by decide)) rfl ht kk
theorem p_X8_277 {M : MS} {G : GS} {ad : Ads} {Y : YS} {post : Option SV → Mem → Prop} {pc t : Nat} {ls : List (Option SV)} {st : List SV} {im : Nat → Nat → Nat → Int} {bt rt : Nat} {lm : Nat → Nat → Nat → Int} {x : Int} (F : Fx M (XC G) ad Y) (hd : decode Y.2.1 pc = .ok (.putfield 277, 3)) (ho : Y.1 = RX8) (hz : x = 0 ∨ x = 1) (ht : t = pc + 3) (kk : Wp M (XC G) ad Y post t ls st (up im 0 0 9 x, rs bt rt, lm)) : Wp M (XC G) ad Y post pc ls (vI x :: vR 0 0 :: st) (im, rs bt rt, lm) := wp_putz (n := 9) F hd rfl uX8 tyX8 tyX8_ok nmX8 (Or.inl (by rw [ho]; exact F.2.2.2.2.1 _ fl_X8_277)) (by decide) rfl rfl (m_0 (by decide)) rfl rfl hz ht kk
theorem g_X9_13 {M : MS} {G : GS} {ad : Ads} {Y : YS} {post : Option SV → Mem → Prop} {pc t : Nat} {ls : List (Option SV)} {st : List SV} {im : Nat → Nat → Nat → Int} {bt rt : Nat} {lm : Nat → Nat → Nat → Int} (F : Fx M (XR G) ad Y) (hd : decode Y.2.1 pc = .ok (.getfield 13, 3)) (ho : Y.1 = RX9) (ht : t = pc + 3) (kk : Wp M (XR G) ad Y post t ls (vR 31 0 :: st) (im, rs bt rt, lm)) : Wp M (XR G) ad Y post pc ls (vR 30 0 :: st) (im, rs bt rt, lm) := wp_getr (n := 1) F hd rfl uX9 (Or.inl (by rw [ho]; exact F.2.2.2.2.1 _ fl_X9_13)) (by decide) rfl (m_30 (by decide)) rfl rfl ht kk
theorem g_X9_17 {M : MS} {G : GS} {ad : Ads} {Y : YS} {post : Option SV → Mem → Prop} {pc t : Nat} {ls : List (Option SV)} {st : List SV} {im : Nat → Nat → Nat → Int} {bt rt : Nat} {lm : Nat → Nat → Nat → Int} (F : Fx M (XR G) ad Y) (hd : decode Y.2.1 pc = .ok (.getfield 17, 3)) (ho : Y.1 = RX9) (ht : t = pc + 3) (kk : Wp M (XR G) ad Y post t ls (vR 32 0 :: st) (im, rs bt rt, lm)) : Wp M (XR G) ad Y post pc ls (vR 30 0 :: st) (im, rs bt rt, lm) := wp_getr (n := 2) F hd rfl uX9 (Or.inl (by rw [ho]; exact F.2.2.2.2.1 _ fl_X9_17)) (by decide) rfl (m_30 (by decide)) rfl rfl ht kk
theorem g_X9_85 {M : MS} {G : GS} {ad : Ads} {Y : YS} {post : Option SV → Mem → Prop} {pc t : Nat} {ls : List (Option SV)} {st : List SV} {im : Nat → Nat → Nat → Int} {bt rt : Nat} {lm : Nat → Nat → Nat → Int} (F : Fx M (XR G) ad Y) (hd : decode Y.2.1 pc = .ok (.getfield 85, 3)) (ho : Y.1 = RX9) (ht : t = pc + 3) (kk : Wp M (XR G) ad Y post t ls (vI (im 30 0 3) :: st) (im, rs bt rt, lm)) : Wp M (XR G) ad Y post pc ls (vR 30 0 :: st) (im, rs bt rt, lm) := wp_geti (n := 3) F hd rfl uX9 (Or.inl (by rw [ho]; exact F.2.2.2.2.1 _ fl_X9_85)) (by decide) rfl (m_30 (by decide)) rfl ht kk
theorem p_X9_85 {M : MS} {G : GS} {ad : Ads} {Y : YS} {post : Option SV → Mem → Prop} {pc t : Nat} {ls : List (Option SV)} {st : List SV} {im : Nat → Nat → Nat → Int} {bt rt : Nat} {lm : Nat → Nat → Nat → Int} {x : Int} (F : Fx M (XR G) ad Y) (hd : decode Y.2.1 pc = .ok (.putfield 85, 3)) (ho : Y.1 = RX9) (ht : t = pc + 3) (kk : Wp M (XR G) ad Y post t ls st (up im 30 0 3 x, rs bt rt, lm)) : Wp M (XR G) ad Y post pc ls (vI x :: vR 30 0 :: st) (im, rs bt rt, lm) := wp_puti (n := 3) F hd rfl uX9 tyX9 tyX9_ok nmX9 (Or.inl (by rw [ho]; exact F.2.2.2.2.1 _ fl_X9_85)) (by decide) rfl rfl (m_30 (by decide)) rfl rfl ht kk
theorem g_X9_120 {M : MS} {G : GS} {ad : Ads} {Y : YS} {post : Option SV → Mem → Prop} {pc t : Nat} {ls : List (Option SV)} {st : List SV} {im : Nat → Nat → Nat → Int} {bt rt : Nat} {lm : Nat → Nat → Nat → Int} (F : Fx M (XR G) ad Y) (hd : decode Y.2.1 pc = .ok (.getfield 120, 3)) (ho : Y.1 = RX9) (ht : t = pc + 3) (kk : Wp M (XR G) ad Y post t ls (vI (im 30 0 4) :: st) (im, rs bt rt, lm)) : Wp M (XR G) ad Y post pc ls (vR 30 0 :: st) (im, rs bt rt, lm) := wp_geti (n := 4) F hd rfl uX9 (Or.inl (by rw [ho]; exact F.2.2.2.2.1 _ fl_X9_120)) (by decide) rfl (m_30 (by decide)) rfl ht kk
theorem p_X9_120 {M : MS} {G : GS} {ad : Ads} {Y : YS} {post : Option SV → Mem → Prop} {pc t : Nat} {ls : List (Option SV)} {st : List SV} {im : Nat → Nat → Nat → Int} {bt rt : Nat} {lm : Nat → Nat → Nat → Int} {x : Int} (F : Fx M (XR G) ad Y) (hd : decode Y.2.1 pc = .ok (.putfield 120, 3)) (ho : Y.1 = RX9) (ht : t = pc + 3) (kk : Wp M (XR G) ad Y post t ls st (up im 30 0 4 x, rs bt rt, lm)) : Wp M (XR G) ad Y post pc ls (vI x :: vR 30 0 :: st) (im, rs bt rt, lm) := wp_puti (n := 4) F hd rfl uX9 tyX9 tyX9_ok nmX9 (Or.inl (by rw [ho]; exact F.2.2.2.2.1 _ fl_X9_120)) (by decide) rfl rfl (m_30 (by decide)) rfl rfl ht kk
theorem g_X9_20 {M : MS} {G : GS} {ad : Ads} {Y : YS} {post : Option SV → Mem → Prop} {pc t : Nat} {ls : List (Option SV)} {st : List SV} {im : Nat → Nat → Nat → Int} {bt rt : Nat} {lm : Nat → Nat → Nat → Int} (F : Fx M (XR G) ad Y) (hd : decode Y.2.1 pc = .ok (.getfield 20, 3)) (ho : Y.1 = RX9) (ht : t = pc + 3) (kk : Wp M (XR G) ad Y post t ls (vR 33 0 :: st) (im, rs bt rt, lm)) : Wp M (XR G) ad Y post pc ls (vR 30 0 :: st) (im, rs bt rt, lm) := wp_getr (n := 5) F hd rfl uX9 (Or.inl (by rw [ho]; exact F.2.2.2.2.1 _ fl_X9_20)) (by decide) rfl (m_30 (by decide)) rfl rfl ht kk
theorem g_X9_146 {M : MS} {G : GS} {ad : Ads} {Y : YS} {post : Option SV → Mem → Prop} {pc t : Nat} {ls : List (Option SV)} {st : List SV} {im : Nat → Nat → Nat → Int} {bt rt : Nat} {lm : Nat → Nat → Nat → Int} (F : Fx M (XR G) ad Y) (hd : decode Y.2.1 pc = .ok (.getfield 146, 3)) (ho : Y.1 = RX9) (ht : t = pc + 3) (kk : Wp M (XR G) ad Y post t ls (vI (im 30 0 6) :: st) (im, rs bt rt, lm)) : Wp M (XR G) ad Y post pc ls (vR 30 0 :: st) (im, rs bt rt, lm) := wp_geti (n := 6) F hd rfl uX9 (Or.inl (by rw [ho]; exact F.2.2.2.2.1 _ fl_X9_146)) (by decide) rfl (m_30 (by decide)) rfl ht kk
theorem p_X9_146 {M : MS} {G : GS} {ad : Ads} {Y : YS} {post : Option SV → Mem → Prop} {pc t : Nat} {ls : List (Option SV)} {st : List SV} {im : Nat → Nat → Nat → Int} {bt rt : Nat} {lm : Nat → Nat → Nat → Int} {x : Int} (F : Fx M (XR G) ad Y) (hd : decode Y.2.1 pc = .ok (.putfield 146, 3)) (ho : Y.1 = RX9) (ht : t = pc + 3) (kk : Wp M (XR G) ad Y post t ls st (up im 30 0 6 x, rs bt rt, lm)) : Wp M (XR G) ad Y post pc ls (vI x :: vR 30 0 :: st) (im, rs bt rt, lm) := wp_puti (n := 6) F hd rfl uX9 tyX9 tyX9_ok nmX9 (Or.inl (by rw [ho]; exact F.2.2.2.2.1 _ fl_X9_146)) (by decide) rfl rfl (m_30 (by decide)) rfl rfl ht kk
theorem g_X9_117 {M : MS} {G : GS} {ad : Ads} {Y : YS} {post : Option SV → Mem → Prop} {pc t : Nat} {ls : List (Option SV)} {st : List SV} {im : Nat → Nat → Nat → Int} {bt rt : Nat} {lm : Nat → Nat → Nat → Int} (F : Fx M (XR G) ad Y) (hd : decode Y.2.1 pc = .ok (.getfield 117, 3)) (ho : Y.1 = RX9) (ht : t = pc + 3) (kk : Wp M (XR G) ad Y post t ls (vI (im 30 0 7) :: st) (im, rs bt rt, lm)) : Wp M (XR G) ad Y post pc ls (vR 30 0 :: st) (im, rs bt rt, lm) := wp_geti (n := 7) F hd rfl uX9 (Or.inl (by rw [ho]; exact F.2.2.2.2.1 _ fl_X9_117)) (by decide) rfl (m_30 (by decide)) rfl ht kk
theorem p_X9_117 {M : MS} {G : GS} {ad : Ads} {Y : YS} {post : Option SV → Mem → Prop} {pc t : Nat} {ls : List (Option SV)} {st : List SV} {im : Nat → Nat → Nat → Int} {bt rt : Nat} {lm : Nat → Nat → Nat → Int} {x : Int} (F : Fx M (XR G) ad Y) (hd : decode Y.2.1 pc = .ok (.putfield 117, 3)) (ho : Y.1 = RX9) (ht : t = pc + 3) (kk : Wp M (XR G) ad Y post t ls st (up im 30 0 7 x, rs bt rt, lm)) : Wp M (XR G) ad Y post pc ls (vI x :: vR 30 0 :: st) (im, rs bt rt, lm) := wp_puti (n := 7) F hd rfl uX9 tyX9 tyX9_ok nmX9 (Or.inl (by rw [ho]; exact F.2.2.2.2.1 _ fl_X9_117)) (by decide) rfl rfl (m_30 (by decide)) rfl rfl ht kk
theorem g_X9_23 {M : MS} {G : GS} {ad : Ads} {Y : YS} {post : Option SV → Mem → Prop} {pc t : Nat} {ls : List (Option SV)} {st : List SV} {im : Nat → Nat → Nat → Int} {bt rt : Nat} {lm : Nat → Nat → Nat → Int} (F : Fx M (XR G) ad Y) (hd : decode Y.2.1 pc = .ok (.getfield 23, 3)) (ho : Y.1 = RX9) (ht : t = pc + 3) (kk : Wp M (XR G) ad Y post t ls (vI (im 30 0 8) :: st) (im, rs bt rt, lm)) : Wp M (XR G) ad Y post pc ls (vR 30 0 :: st) (im, rs bt rt, lm) := wp_geti (n := 8) F hd rfl uX9 (Or.inl (by rw [ho]; exact F.2.2.2.2.1 _ fl_X9_23)) (by decide) rfl (m_30 (by decide)) rfl ht kk
theorem p_X9_23 {M : MS} {G : GS} {ad : Ads} {Y : YS} {post : Option SV → Mem → Prop} {pc t : Nat} {ls : List (Option SV)} {st : List SV} {im : Nat → Nat → Nat → Int} {bt rt : Nat} {lm : Nat → Nat → Nat → Int} {x : Int} (F : Fx M (XR G) ad Y) (hd : decode Y.2.1 pc = .ok (.putfield 23, 3)) (ho : Y.1 = RX9) (ht : t = pc + 3) (kk : Wp M (XR G) ad Y post t ls st (up im 30 0 8 x, rs bt rt, lm)) : Wp M (XR G) ad Y post pc ls (vI x :: vR 30 0 :: st) (im, rs bt rt, lm) := wp_puti (n := 8) F hd rfl uX9 tyX9 tyX9_ok nmX9 (Or.inl (by rw [ho]; exact F.2.2.2.2.1 _ fl_X9_23)) (by decide) rfl rfl (m_30 (by decide)) rfl rfl ht kk
theorem g_X9_385 {M : MS} {G : GS} {ad : Ads} {Y : YS} {post : Option SV → Mem → Prop} {pc t : Nat} {ls : List (Option SV)} {st : List SV} {im : Nat → Nat → Nat → Int} {bt rt : Nat} {lm : Nat → Nat → Nat → Int} (F : Fx M (XR G) ad Y) (hd : decode Y.2.1 pc = .ok (.getfield 385, 3)) (ho : Y.1 = RX9) (ht : t = pc + 3) (kk : Wp M (XR G) ad Y post t ls (vI (im 30 0 9) :: st) (im, rs bt rt, lm)) : Wp M (XR G) ad Y post pc ls (vR 30 0 :: st) (im, rs bt rt, lm) := wp_geti (n := 9) F hd rfl uX9 (Or.inl (by rw [ho]; exact F.2.2.2.2.1 _ fl_X9_385)) (by decide) rfl (m_30 (by decide)) rfl ht kk
theorem p_X9_385 {M : MS} {G : GS} {ad : Ads} {Y : YS} {post : Option SV → Mem → Prop} {pc t : Nat} {ls : List (Option SV)} {st : List SV} {im : Nat → Nat → Nat → Int} {bt rt : Nat} {lm : Nat → Nat → Nat → Int} {x : Int} (F : Fx M (XR G) ad Y) (hd : decode Y.2.1 pc = .ok (.putfield 385, 3)) (ho : Y.1 = RX9) (ht : t = pc + 3) (kk : Wp M (XR G) ad Y post t ls st (up im 30 0 9 x, rs bt rt, lm)) : Wp M (XR G) ad Y post pc ls (vI x :: vR 30 0 :: st) (im, rs bt rt, lm) := wp_puti (n := 9) F hd rfl uX9 tyX9 tyX9_ok nmX9 (Or.inl (by rw [ho]; exact F.2.2.2.2.1 _ fl_X9_385)) (by decide) rfl rfl (m_30 (by decide)) rfl rfl ht kk
theorem g_X9_26 {M : MS} {G : GS} {ad : Ads} {Y : YS} {post : Option SV → Mem → Prop} {pc t : Nat} {ls : List (Option SV)} {st : List SV} {im : Nat → Nat → Nat → Int} {bt rt : Nat} {lm : Nat → Nat → Nat → Int} (F : Fx M (XR G) ad Y) (hd : decode Y.2.1 pc = .ok (.getfield 26, 3)) (ho : Y.1 = RX9) (ht : t = pc + 3) (kk : Wp M (XR G) ad Y post t ls (vR 34 0 :: st) (im, rs bt rt, lm)) : Wp M (XR G) ad Y post pc ls (vR 30 0 :: st) (im, rs bt rt, lm) := wp_getr (n := 10) F hd rfl uX9 (Or.inl (by rw [ho]; exact F.2.2.2.2.1 _ fl_X9_26)) (by decide) rfl (m_30 (by decide)) rfl rfl ht kk
theorem g_X9_29 {M : MS} {G : GS} {ad : Ads} {Y : YS} {post : Option SV → Mem → Prop} {pc t : Nat} {ls : List (Option SV)} {st : List SV} {im : Nat → Nat → Nat → Int} {bt rt : Nat} {lm : Nat → Nat → Nat → Int} (F : Fx M (XR G) ad Y) (hd : decode Y.2.1 pc = .ok (.getfield 29, 3)) (ho : Y.1 = RX9) (ht : t = pc + 3) (kk : Wp M (XR G) ad Y post t ls (vR 35 0 :: st) (im, rs bt rt, lm)) : Wp M (XR G) ad Y post pc ls (vR 30 0 :: st) (im, rs bt rt, lm) := wp_getr (n := 11) F hd rfl uX9 (Or.inl (by rw [ho]; exact F.2.2.2.2.1 _ fl_X9_29)) (by decide) rfl (m_30 (by decide)) rfl rfl ht kk
theorem g_X9_88 {M : MS} {G : GS} {ad : Ads} {Y : YS} {post : Option SV → Mem → Prop} {pc t : Nat} {ls : List (Option SV)} {st : List SV} {im : Nat → Nat → Nat → Int} {bt rt : Nat} {lm : Nat → Nat → Nat → Int} (F : Fx M (XR G) ad Y) (hd : decode Y.2.1 pc = .ok (.getfield 88, 3)) (ho : Y.1 = RX9) (ht : t = pc + 3) (kk : Wp M (XR G) ad Y post t ls (vI (im 30 0 12) :: st) (im, rs bt rt, lm)) : Wp M (XR G) ad Y post pc ls (vR 30 0 :: st) (im, rs bt rt, lm) := wp_geti (n := 12) F hd rfl uX9 (Or.inl (by rw [ho]; exact F.2.2.2.2.1 _ fl_X9_88)) (by decide) rfl (m_30 (by decide)) rfl ht kk
theorem p_X9_88 {M : MS} {G : GS} {ad : Ads} {Y : YS} {post : Option SV → Mem → Prop} {pc t : Nat} {ls : List (Option SV)} {st : List SV} {im : Nat → Nat → Nat → Int} {bt rt : Nat} {lm : Nat → Nat → Nat → Int} {x : Int} (F : Fx M (XR G) ad Y) (hd : decode Y.2.1 pc = .ok (.putfield 88, 3)) (ho : Y.1 = RX9) (ht : t = pc + 3) (kk : Wp M (XR G) ad Y post t ls st (up im 30 0 12 x, rs bt rt, lm)) : Wp M (XR G) ad Y post pc ls (vI x :: vR 30 0 :: st) (im, rs bt rt, lm) := wp_puti (n := 12) F hd rfl uX9 tyX9 tyX9_ok nmX9 (Or.inl (by rw [ho]; exact F.2.2.2.2.1 _ fl_X9_88)) (by decide) rfl rfl (m_30 (by decide)) rfl rfl ht kk
theorem g_X9_32 {M : MS} {G : GS} {ad : Ads} {Y : YS} {post : Option SV → Mem → Prop} {pc t : Nat} {ls : List (Option SV)} {st : List SV} {im : Nat → Nat → Nat → Int} {bt rt : Nat} {lm : Nat → Nat → Nat → Int} (F : Fx M (XR G) ad Y) (hd : decode Y.2.1 pc = .ok (.getfield 32, 3)) (ho : Y.1 = RX9) (ht : t = pc + 3) (kk : Wp M (XR G) ad Y post t ls (vR 36 0 :: st) (im, rs bt rt, lm)) : Wp M (XR G) ad Y post pc ls (vR 30 0 :: st) (im, rs bt rt, lm) := wp_getr (n := 13) F hd rfl uX9 (Or.inl (by rw [ho]; exact F.2.2.2.2.1 _ fl_X9_32)) (by decide) rfl (m_30 (by decide)) rfl rfl ht kk
theorem g_X9_35 {M : MS} {G : GS} {ad : Ads} {Y : YS} {post : Option SV → Mem → Prop} {pc t : Nat} {ls : List (Option SV)} {st : List SV} {im : Nat → Nat → Nat → Int} {bt rt : Nat} {lm : Nat → Nat → Nat → Int} (F : Fx M (XR G) ad Y) (hd : decode Y.2.1 pc = .ok (.getfield 35, 3)) (ho : Y.1 = RX9) (ht : t = pc + 3) (kk : Wp M (XR G) ad Y post t ls (vR 37 0 :: st) (im, rs bt rt, lm)) : Wp M (XR G) ad Y post pc ls (vR 30 0 :: st) (im, rs bt rt, lm) := wp_getr (n := 14) F hd rfl uX9 (Or.inl (by rw [ho]; exact F.2.2.2.2.1 _ fl_X9_35)) (by decide) rfl (m_30 (by decide)) rfl rfl ht kk
theorem g_X9_202 {M : MS} {G : GS} {ad : Ads} {Y : YS} {post : Option SV → Mem → Prop} {pc t : Nat} {ls : List (Option SV)} {st : List SV} {im : Nat → Nat → Nat → Int} {bt rt : Nat} {lm : Nat → Nat → Nat → Int} (F : Fx M (XR G) ad Y) (hd : decode Y.2.1 pc = .ok (.getfield 202, 3)) (ho : Y.1 = RX9) (ht : t = pc + 3) (kk : Wp M (XR G) ad Y post t ls (vI (im 30 0 15) :: st) (im, rs bt rt, lm)) : Wp M (XR G) ad Y post pc ls (vR 30 0 :: st) (im, rs bt rt, lm) := wp_geti (n := 15) F hd rfl uX9 (Or.inl (by rw [ho]; exact F.2.2.2.2.1 _ fl_X9_202)) (by decide) rfl (m_30 (by decide)) rfl ht kk
theorem p_X9_202 {M : MS} {G : GS} {ad : Ads} {Y : YS} {post : Option SV → Mem → Prop} {pc t : Nat} {ls : List (Option SV)} {st : List SV} {im : Nat → Nat → Nat → Int} {bt rt : Nat} {lm : Nat → Nat → Nat → Int} {x : Int} (F : Fx M (XR G) ad Y) (hd : decode Y.2.1 pc = .ok (.putfield 202, 3)) (ho : Y.1 = RX9) (ht : t = pc + 3) (kk : Wp M (XR G) ad Y post t ls st (up im 30 0 15 x, rs bt rt, lm)) : Wp M (XR G) ad Y post pc ls (vI x :: vR 30 0 :: st) (im, rs bt rt, lm) := wp_puti (n := 15) F hd rfl uX9 tyX9 tyX9_ok nmX9 (Or.inl (by rw [ho]; exact F.2.2.2.2.1 _ fl_X9_202)) (by decide) rfl rfl (m_30 (by decide)) rfl rfl ht kk
theorem g_X9_205 {M : MS} {G : GS} {ad : Ads} {Y : YS} {post : Option SV → Mem → Prop} {pc t : Nat} {ls : List (Option SV)} {st : List SV} {im : Nat → Nat → Nat → Int} {bt rt : Nat} {lm : Nat → Nat → Nat → Int} (F : Fx M (XR G) ad Y) (hd : decode Y.2.1 pc = .ok (.getfield 205, 3)) (ho : Y.1 = RX9) (ht : t = pc + 3) (kk : Wp M (XR G) ad Y post t ls (vI (im 30 0 16) :: st) (im, rs bt rt, lm)) : Wp M (XR G) ad Y post pc ls (vR 30 0 :: st) (im, rs bt rt, lm) := wp_geti (n := 16) F hd rfl uX9 (Or.inl (by rw [ho]; exact F.2.2.2.2.1 _ fl_X9_205)) (by decide) rfl (m_30 (by decide)) rfl ht kk
theorem p_X9_205 {M : MS} {G : GS} {ad : Ads} {Y : YS} {post : Option SV → Mem → Prop} {pc t : Nat} {ls : List (Option SV)} {st : List SV} {im : Nat → Nat → Nat → Int} {bt rt : Nat} {lm : Nat → Nat → Nat → Int} {x : Int} (F : Fx M (XR G) ad Y) (hd : decode Y.2.1 pc = .ok (.putfield 205, 3)) (ho : Y.1 = RX9) (ht : t = pc + 3) (kk : Wp M (XR G) ad Y post t ls st (up im 30 0 16 x, rs bt rt, lm)) : Wp M (XR G) ad Y post pc ls (vI x :: vR 30 0 :: st) (im, rs bt rt, lm) := wp_puti (n := 16) F hd rfl uX9 tyX9 tyX9_ok nmX9 (Or.inl (by rw [ho]; exact F.2.2.2.2.1 _ fl_X9_205)) (by decide) rfl rfl (m_30 (by decide)) rfl rfl ht kk
theorem g_X9_208 {M : MS} {G : GS} {ad : Ads} {Y : YS} {post : Option SV → Mem → Prop} {pc t : Nat} {ls : List (Option SV)} {st : List SV} {im : Nat → Nat → Nat → Int} {bt rt : Nat} {lm : Nat → Nat → Nat → Int} (F : Fx M (XR G) ad Y) (hd : decode Y.2.1 pc = .ok (.getfield 208, 3)) (ho : Y.1 = RX9) (ht : t = pc + 3) (kk : Wp M (XR G) ad Y post t ls (vI (im 30 0 17) :: st) (im, rs bt rt, lm)) : Wp M (XR G) ad Y post pc ls (vR 30 0 :: st) (im, rs bt rt, lm) := wp_geti (n := 17) F hd rfl uX9 (Or.inl (by rw [ho]; exact F.2.2.2.2.1 _ fl_X9_208)) (by decide) rfl (m_30 (by decide)) rfl ht kk
theorem p_X9_208 {M : MS} {G : GS} {ad : Ads} {Y : YS} {post : Option SV → Mem → Prop} {pc t : Nat} {ls : List (Option SV)} {st : List SV} {im : Nat → Nat → Nat → Int} {bt rt : Nat} {lm : Nat → Nat → Nat → Int} {x : Int} (F : Fx M (XR G) ad Y) (hd : decode Y.2.1 pc = .ok (.putfield 208, 3)) (ho : Y.1 = RX9) (ht : t = pc + 3) (kk : Wp M (XR G) ad Y post t ls st (up im 30 0 17 x, rs bt rt, lm)) : Wp M (XR G) ad Y post pc ls (vI x :: vR 30 0 :: st) (im, rs bt rt, lm) := wp_puti (n := 17) F hd rfl uX9 tyX9 tyX9_ok nmX9 (Or.inl (by rw [ho]; exact F.2.2.2.2.1 _ fl_X9_208)) (by decide) rfl rfl (m_30 (by decide)) rfl rfl ht kk
theorem g_X9_211 {M : MS} {G : GS} {ad : Ads} {Y : YS} {post : Option SV → Mem → Prop} {pc t : Nat} {ls : List (Option SV)} {st : List SV} {im : Nat → Nat → Nat → Int} {bt rt : Nat} {lm : Nat → Nat → Nat → Int} (F : Fx M (XR G) ad Y) (hd : decode Y.2.1 pc = .ok (.getfield 211, 3)) (ho : Y.1 = RX9) (ht : t = pc + 3) (kk : Wp M (XR G) ad Y post t ls (vI (im 30 0 18) :: st) (im, rs bt rt, lm)) : Wp M (XR G) ad Y post pc ls (vR 30 0 :: st) (im, rs bt rt, lm) := wp_geti (n := 18) F hd rfl uX9 (Or.inl (by rw [ho]; exact F.2.2.2.2.1 _ fl_X9_211)) (by decide) rfl (m_30 (by decide)) rfl ht kk
theorem p_X9_211 {M : MS} {G : GS} {ad : Ads} {Y : YS} {post : Option SV → Mem → Prop} {pc t : Nat} {ls : List (Option SV)} {st : List SV} {im : Nat → Nat → Nat → Int} {bt rt : Nat} {lm : Nat → Nat → Nat → Int} {x : Int} (F : Fx M (XR G) ad Y) (hd : decode Y.2.1 pc = .ok (.putfield 211, 3)) (ho : Y.1 = RX9) (ht : t = pc + 3) (kk : Wp M (XR G) ad Y post t ls st (up im 30 0 18 x, rs bt rt, lm)) : Wp M (XR G) ad Y post pc ls (vI x :: vR 30 0 :: st) (im, rs bt rt, lm) := wp_puti (n := 18) F hd rfl uX9 tyX9 tyX9_ok nmX9 (Or.inl (by rw [ho]; exact F.2.2.2.2.1 _ fl_X9_211)) (by decide) rfl rfl (m_30 (by decide)) rfl rfl ht kk
theorem g_X9_214 {M : MS} {G : GS} {ad : Ads} {Y : YS} {post : Option SV → Mem → Prop} {pc t : Nat} {ls : List (Option SV)} {st : List SV} {im : Nat → Nat → Nat → Int} {bt rt : Nat} {lm : Nat → Nat → Nat → Int} (F : Fx M (XR G) ad Y) (hd : decode Y.2.1 pc = .ok (.getfield 214, 3)) (ho : Y.1 = RX9) (ht : t = pc + 3) (kk : Wp M (XR G) ad Y post t ls (vI (im 30 0 19) :: st) (im, rs bt rt, lm)) : Wp M (XR G) ad Y post pc ls (vR 30 0 :: st) (im, rs bt rt, lm) := wp_geti (n := 19) F hd rfl uX9 (Or.inl (by rw [ho]; exact F.2.2.2.2.1 _ fl_X9_214)) (by decide) rfl (m_30 (by decide)) rfl ht kk
theorem p_X9_214 {M : MS} {G : GS} {ad : Ads} {Y : YS} {post : Option SV → Mem → Prop} {pc t : Nat} {ls : List (Option SV)} {st : List SV} {im : Nat → Nat → Nat → Int} {bt rt : Nat} {lm : Nat → Nat → Nat → Int} {x : Int} (F : Fx M (XR G) ad Y) (hd : decode Y.2.1 pc = .ok (.putfield 214, 3)) (ho : Y.1 = RX9) (ht : t = pc + 3) (kk : Wp M (XR G) ad Y post t ls st (up im 30 0 19 x, rs bt rt, lm)) : Wp M (XR G) ad Y post pc ls (vI x :: vR 30 0 :: st) (im, rs bt rt, lm) := wp_puti (n := 19) F hd rfl uX9 tyX9 tyX9_ok nmX9 (Or.inl (by rw [ho]; exact F.2.2.2.2.1 _ fl_X9_214)) (by decide) rfl rfl (m_30 (by decide)) rfl rfl ht kk
theorem g_X9_217 {M : MS} {G : GS} {ad : Ads} {Y : YS} {post : Option SV → Mem → Prop} {pc t : Nat} {ls : List (Option SV)} {st : List SV} {im : Nat → Nat → Nat → Int} {bt rt : Nat} {lm : Nat → Nat → Nat → Int} (F : Fx M (XR G) ad Y) (hd : decode Y.2.1 pc = .ok (.getfield 217, 3)) (ho : Y.1 = RX9) (ht : t = pc + 3) (kk : Wp M (XR G) ad Y post t ls (vI (im 30 0 20) :: st) (im, rs bt rt, lm)) : Wp M (XR G) ad Y post pc ls (vR 30 0 :: st) (im, rs bt rt, lm) := wp_geti (n := 20) F hd rfl uX9 (Or.inl (by rw [ho]; exact F.2.2.2.2.1 _ fl_X9_217)) (by decide) rfl (m_30 (by decide)) rfl ht kk
theorem p_X9_217 {M : MS} {G : GS} {ad : Ads} {Y : YS} {post : Option SV → Mem → Prop} {pc t : Nat} {ls : List (Option SV)} {st : List SV} {im : Nat → Nat → Nat → Int} {bt rt : Nat} {lm : Nat → Nat → Nat → Int} {x : Int} (F : Fx M (XR G) ad Y) (hd : decode Y.2.1 pc = .ok (.putfield 217, 3)) (ho : Y.1 = RX9) (ht : t = pc + 3) (kk : Wp M (XR G) ad Y post t ls st (up im 30 0 20 x, rs bt rt, lm)) : Wp M (XR G) ad Y post pc ls (vI x :: vR 30 0 :: st) (im, rs bt rt, lm) := wp_puti (n := 20) F hd rfl uX9 tyX9 tyX9_ok nmX9 (Or.inl (by rw [ho]; exact F.2.2.2.2.1 _ fl_X9_217)) (by decide) rfl rfl (m_30 (by decide)) rfl rfl ht kk
theorem g_X9_152 {M : MS} {G : GS} {ad : Ads} {Y : YS} {post : Option SV → Mem → Prop} {pc t : Nat} {ls : List (Option SV)} {st : List SV} {im : Nat → Nat → Nat → Int} {bt rt : Nat} {lm : Nat → Nat → Nat → Int} (F : Fx M (XR G) ad Y) (hd : decode Y.2.1 pc = .ok (.getfield 152, 3)) (ho : Y.1 = RX9) (ht : t = pc + 3) (kk : Wp M (XR G) ad Y post t ls (vI (im 30 0 21) :: st) (im, rs bt rt, lm)) : Wp M (XR G) ad Y post pc ls (vR 30 0 :: st) (im, rs bt rt, lm) := wp_geti (n := 21) F hd rfl uX9 (Or.inl (by rw [ho]; exact F.2.2.2.2.1 _ fl_X9_152)) (by decide) rfl (m_30 (by decide)) rfl ht kk
theorem p_X9_152 {M : MS} {G : GS} {ad : Ads} {Y : YS} {post : Option SV → Mem → Prop} {pc t : Nat} {ls : List (Option SV)} {st : List SV} {im : Nat → Nat → Nat → Int} {bt rt : Nat} {lm : Nat → Nat → Nat → Int} {x : Int} (F : Fx M (XR G) ad Y) (hd : decode Y.2.1 pc = .ok (.putfield 152, 3)) (ho : Y.1 = RX9) (ht : t = pc + 3) (kk : Wp M (XR G) ad Y post t ls st (up im 30 0 21 x, rs bt rt, lm)) : Wp M (XR G) ad Y post pc ls (vI x :: vR 30 0 :: st) (im, rs bt rt, lm) := wp_puti (n := 21) F hd rfl uX9 tyX9 tyX9_ok nmX9 (Or.inl (by rw [ho]; exact F.2.2.2.2.1 _ fl_X9_152)) (by decide) rfl rfl (m_30 (by decide)) rfl rfl ht kk
theorem g_X9_149 {M : MS} {G : GS} {ad : Ads} {Y : YS} {post : Option SV → Mem → Prop} {pc t : Nat} {ls : List (Option SV)} {st : List SV} {im : Nat → Nat → Nat → Int} {bt rt : Nat} {lm : Nat → Nat → Nat → Int} (F : Fx M (XR G) ad Y) (hd : decode Y.2.1 pc = .ok (.getfield 149, 3)) (ho : Y.1 = RX9) (ht : t = pc + 3) (kk : Wp M (XR G) ad Y post t ls (vI (im 30 0 22) :: st) (im, rs bt rt, lm)) : Wp M (XR G) ad Y post pc ls (vR 30 0 :: st) (im, rs bt rt, lm) := wp_geti (n := 22) F hd rfl uX9 (Or.inl (by rw [ho]; exact F.2.2.2.2.1 _ fl_X9_149)) (by decide) rfl (m_30 (by decide)) rfl ht kk
theorem p_X9_149 {M : MS} {G : GS} {ad : Ads} {Y : YS} {post : Option SV → Mem → Prop} {pc t : Nat} {ls : List (Option SV)} {st : List SV} {im : Nat → Nat → Nat → Int} {bt rt : Nat} {lm : Nat → Nat → Nat → Int} {x : Int} (F : Fx M (XR G) ad Y) (hd : decode Y.2.1 pc = .ok (.putfield 149, 3)) (ho : Y.1 = RX9) (ht : t = pc + 3) (kk : Wp M (XR G) ad Y post t ls st (up im 30 0 22 x, rs bt rt, lm)) : Wp M (XR G) ad Y post pc ls (vI x :: vR 30 0 :: st) (im, rs bt rt, lm) := wp_puti (n := 22) F hd rfl uX9 tyX9 tyX9_ok nmX9 (Or.inl (by rw [ho]; exact F.2.2.2.2.1 _ fl_X9_149)) (by decide) rfl rfl (m_30 (by decide)) rfl rfl ht kk
theorem g_X9_155 {M : MS} {G : GS} {ad : Ads} {Y : YS} {post : Option SV → Mem → Prop} {pc t : Nat} {ls : List (Option SV)} {st : List SV} {im : Nat → Nat → Nat → Int} {bt rt : Nat} {lm : Nat → Nat → Nat → Int} (F : Fx M (XR G) ad Y) (hd : decode Y.2.1 pc = .ok (.getfield 155, 3)) (ho : Y.1 = RX9) (ht : t = pc + 3) (kk : Wp M (XR G) ad Y post t ls (vI (im 30 0 23) :: st) (im, rs bt rt, lm)) : Wp M (XR G) ad Y post pc ls (vR 30 0 :: st) (im, rs bt rt, lm) := wp_geti (n := 23) F hd rfl uX9 (Or.inl (by rw [ho]; exact F.2.2.2.2.1 _ fl_X9_155)) (by decide) rfl (m_30 (by decide)) rfl ht kk
theorem p_X9_155 {M : MS} {G : GS} {ad : Ads} {Y : YS} {post : Option SV → Mem → Prop} {pc t : Nat} {ls : List (Option SV)} {st : List SV} {im : Nat → Nat → Nat → Int} {bt rt : Nat} {lm : Nat → Nat → Nat → Int} {x : Int} (F : Fx M (XR G) ad Y) (hd : decode Y.2.1 pc = .ok (.putfield 155, 3)) (ho : Y.1 = RX9) (ht : t = pc + 3) (kk : Wp M (XR G) ad Y post t ls st (up im 30 0 23 x, rs bt rt, lm)) : Wp M (XR G) ad Y post pc ls (vI x :: vR 30 0 :: st) (im, rs bt rt, lm) := wp_puti (n := 23) F hd rfl uX9 tyX9 tyX9_ok nmX9 (Or.inl (by rw [ho]; exact F.2.2.2.2.1 _ fl_X9_155)) (by decide) rfl rfl (m_30 (by decide)) rfl rfl ht kk
theorem g_X9_164 {M : MS} {G : GS} {ad : Ads} {Y : YS} {post : Option SV → Mem → Prop} {pc t : Nat} {ls : List (Option SV)} {st : List SV} {im : Nat → Nat → Nat → Int} {bt rt : Nat} {lm : Nat → Nat → Nat → Int} (F : Fx M (XR G) ad Y) (hd : decode Y.2.1 pc = .ok (.getfield 164, 3)) (ho : Y.1 = RX9) (ht : t = pc + 3) (kk : Wp M (XR G) ad Y post t ls (vI (im 30 0 24) :: st) (im, rs bt rt, lm)) : Wp M (XR G) ad Y post pc ls (vR 30 0 :: st) (im, rs bt rt, lm) := wp_geti (n := 24) F hd rfl uX9 (Or.inl (by rw [ho]; exact F.2.2.2.2.1 _ fl_X9_164)) (by decide) rfl (m_30 (by decide)) rfl ht kk
theorem p_X9_164 {M : MS} {G : GS} {ad : Ads} {Y : YS} {post : Option SV → Mem → Prop} {pc t : Nat} {ls : List (Option SV)} {st : List SV} {im : Nat → Nat → Nat → Int} {bt rt : Nat} {lm : Nat → Nat → Nat → Int} {x : Int} (F : Fx M (XR G) ad Y) (hd : decode Y.2.1 pc = .ok (.putfield 164, 3)) (ho : Y.1 = RX9) (ht : t = pc + 3) (kk : Wp M (XR G) ad Y post t ls st (up im 30 0 24 x, rs bt rt, lm)) : Wp M (XR G) ad Y post pc ls (vI x :: vR 30 0 :: st) (im, rs bt rt, lm) := wp_puti (n := 24) F hd rfl uX9 tyX9 tyX9_ok nmX9 (Or.inl (by rw [ho]; exact F.2.2.2.2.1 _ fl_X9_164)) (by decide) rfl rfl (m_30 (by decide)) rfl rfl ht kk
theorem g_X9_161 {M : MS} {G : GS} {ad : Ads} {Y : YS} {post : Option SV → Mem → Prop} {pc t : Nat} {ls : List (Option SV)} {st : List SV} {im : Nat → Nat → Nat → Int} {bt rt : Nat} {lm : Nat → Nat → Nat → Int} (F : Fx M (XR G) ad Y) (hd : decode Y.2.1 pc = .ok (.getfield 161, 3)) (ho : Y.1 = RX9) (ht : t = pc + 3) (kk : Wp M (XR G) ad Y post t ls (vI (im 30 0 25) :: st) (im, rs bt rt, lm)) : Wp M (XR G) ad Y post pc ls (vR 30 0 :: st) (im, rs bt rt, lm) := wp_geti (n := 25) F hd rfl uX9 (Or.inl (by rw [ho]; exact F.2.2.2.2.1 _ fl_X9_161)) (by decide) rfl (m_30 (by decide)) rfl ht kk
theorem p_X9_161 {M : MS} {G : GS} {ad : Ads} {Y : YS} {post : Option SV → Mem → Prop} {pc t : Nat} {ls : List (Option SV)} {st : List SV} {im : Nat → Nat → Nat → Int} {bt rt : Nat} {lm : Nat → Nat → Nat → Int} {x : Int} (F : Fx M (XR G) ad Y) (hd : decode Y.2.1 pc = .ok (.putfield 161, 3)) (ho : Y.1 = RX9) (ht : t = pc + 3) (kk : Wp M (XR G) ad Y post t ls st (up im 30 0 25 x, rs bt rt, lm)) : Wp M (XR G) ad Y post pc ls (vI x :: vR 30 0 :: st) (im, rs bt rt, lm) := wp_puti (n := 25) F hd rfl uX9 tyX9 tyX9_ok nmX9 (Or.inl (by rw [ho]; exact F.2.2.2.2.1 _ fl_X9_161)) (by decide) rfl rfl (m_30 (by decide)) rfl rfl ht kk
theorem g_X9_175 {M : MS} {G : GS} {ad : Ads} {Y : YS} {post : Option SV → Mem → Prop} {pc t : Nat} {ls : List (Option SV)} {st : List SV} {im : Nat → Nat → Nat → Int} {bt rt : Nat} {lm : Nat → Nat → Nat → Int} (F : Fx M (XR G) ad Y) (hd : decode Y.2.1 pc = .ok (.getfield 175, 3)) (ho : Y.1 = RX9) (ht : t = pc + 3) (kk : Wp M (XR G) ad Y post t ls (vL (lm 30 0 26) :: st) (im, rs bt rt, lm)) : Wp M (XR G) ad Y post pc ls (vR 30 0 :: st) (im, rs bt rt, lm) := wp_getl (n := 26) F hd rfl uX9 (Or.inl (by rw [ho]; exact F.2.2.2.2.1 _ fl_X9_175)) (by decide) rfl (m_30 (by decide)) rfl ht kk
theorem p_X9_175 {M : MS} {G : GS} {ad : Ads} {Y : YS} {post : Option SV → Mem → Prop} {pc t : Nat} {ls : List (Option SV)} {st : List SV} {im : Nat → Nat → Nat → Int} {bt rt : Nat} {lm : Nat → Nat → Nat → Int} {x : Int} (F : Fx M (XR G) ad Y) (hd : decode Y.2.1 pc = .ok (.putfield 175, 3)) (ho : Y.1 = RX9) (ht : t = pc + 3) (kk : Wp M (XR G) ad Y post t ls st (im, rs bt rt, up lm 30 0 26 x)) : Wp M (XR G) ad Y post pc ls (vL x :: vR 30 0 :: st) (im, rs bt rt, lm) := wp_putl (n := 26) F hd rfl uX9 tyX9 tyX9_ok nmX9 (Or.inl (by rw [ho]; exact F.2.2.2.2.1 _ fl_X9_175)) (by decide) rfl rfl (m_30 (by decide)) rfl rfl ht kk
theorem g_X9_190 {M : MS} {G : GS} {ad : Ads} {Y : YS} {post : Option SV → Mem → Prop} {pc t : Nat} {ls : List (Option SV)} {st : List SV} {im : Nat → Nat → Nat → Int} {bt rt : Nat} {lm : Nat → Nat → Nat → Int} (F : Fx M (XR G) ad Y) (hd : decode Y.2.1 pc = .ok (.getfield 190, 3)) (ho : Y.1 = RX9) (ht : t = pc + 3) (kk : Wp M (XR G) ad Y post t ls (vI (im 30 0 27) :: st) (im, rs bt rt, lm)) : Wp M (XR G) ad Y post pc ls (vR 30 0 :: st) (im, rs bt rt, lm) := wp_geti (n := 27) F hd rfl uX9 (Or.inl (by rw [ho]; exact F.2.2.2.2.1 _ fl_X9_190)) (by decide) rfl (m_30 (by decide)) rfl ht kk
theorem p_X9_190 {M : MS} {G : GS} {ad : Ads} {Y : YS} {post : Option SV → Mem → Prop} {pc t : Nat} {ls : List (Option SV)} {st : List SV} {im : Nat → Nat → Nat → Int} {bt rt : Nat} {lm : Nat → Nat → Nat → Int} {x : Int} (F : Fx M (XR G) ad Y) (hd : decode Y.2.1 pc = .ok (.putfield 190, 3)) (ho : Y.1 = RX9) (ht : t = pc + 3) (kk : Wp M (XR G) ad Y post t ls st (up im 30 0 27 x, rs bt rt, lm)) : Wp M (XR G) ad Y post pc ls (vI x :: vR 30 0 :: st) (im, rs bt rt, lm) := wp_puti (n := 27) F hd rfl uX9 tyX9 tyX9_ok nmX9 (Or.inl (by rw [ho]; exact F.2.2.2.2.1 _ fl_X9_190)) (by decide) rfl rfl (m_30 (by decide)) rfl rfl ht kk
theorem g_X9_179 {M : MS} {G : GS} {ad : Ads} {Y : YS} {post : Option SV → Mem → Prop} {pc t : Nat} {ls : List (Option SV)} {st : List SV} {im : Nat → Nat → Nat → Int} {bt rt : Nat} {lm : Nat → Nat → Nat → Int} (F : Fx M (XR G) ad Y) (hd : decode Y.2.1 pc = .ok (.getfield 179, 3)) (ho : Y.1 = RX9) (ht : t = pc + 3) (kk : Wp M (XR G) ad Y post t ls (vI (im 30 0 28) :: st) (im, rs bt rt, lm)) : Wp M (XR G) ad Y post pc ls (vR 30 0 :: st) (im, rs bt rt, lm) := wp_geti (n := 28) F hd rfl uX9 (Or.inl (by rw [ho]; exact F.2.2.2.2.1 _ fl_X9_179)) (by decide) rfl (m_30 (by decide)) rfl ht kk
theorem p_X9_179 {M : MS} {G : GS} {ad : Ads} {Y : YS} {post : Option SV → Mem → Prop} {pc t : Nat} {ls : List (Option SV)} {st : List SV} {im : Nat → Nat → Nat → Int} {bt rt : Nat} {lm : Nat → Nat → Nat → Int} {x : Int} (F : Fx M (XR G) ad Y) (hd : decode Y.2.1 pc = .ok (.putfield 179, 3)) (ho : Y.1 = RX9) (hz : x = 0 ∨ x = 1) (ht : t = pc + 3) (kk : Wp M (XR G) ad Y post t ls st (up im 30 0 28 x, rs bt rt, lm)) : Wp M (XR G) ad Y post pc ls (vI x :: vR 30 0 :: st) (im, rs bt rt, lm) := wp_putz (n := 28) F hd rfl uX9 tyX9 tyX9_ok nmX9 (Or.inl (by rw [ho]; exact F.2.2.2.2.1 _ fl_X9_179)) (by decide) rfl rfl (m_30 (by decide)) rfl rfl hz ht kk
theorem g_X9_183 {M : MS} {G : GS} {ad : Ads} {Y : YS} {post : Option SV → Mem → Prop} {pc t : Nat} {ls : List (Option SV)} {st : List SV} {im : Nat → Nat → Nat → Int} {bt rt : Nat} {lm : Nat → Nat → Nat → Int} (F : Fx M (XR G) ad Y) (hd : decode Y.2.1 pc = .ok (.getfield 183, 3)) (ho : Y.1 = RX9) (ht : t = pc + 3) (kk : Wp M (XR G) ad Y post t ls (vI (im 30 0 29) :: st) (im, rs bt rt, lm)) : Wp M (XR G) ad Y post pc ls (vR 30 0 :: st) (im, rs bt rt, lm) := wp_geti (n := 29) F hd rfl uX9 (Or.inl (by rw [ho]; exact F.2.2.2.2.1 _ fl_X9_183)) (by decide) rfl (m_30 (by decide)) rfl ht kk
theorem p_X9_183 {M : MS} {G : GS} {ad : Ads} {Y : YS} {post : Option SV → Mem → Prop} {pc t : Nat} {ls : List (Option SV)} {st : List SV} {im : Nat → Nat → Nat → Int} {bt rt : Nat} {lm : Nat → Nat → Nat → Int} {x : Int} (F : Fx M (XR G) ad Y) (hd : decode Y.2.1 pc = .ok (.putfield 183, 3)) (ho : Y.1 = RX9) (ht : t = pc + 3) (kk : Wp M (XR G) ad Y post t ls st (up im 30 0 29 x, rs bt rt, lm)) : Wp M (XR G) ad Y post pc ls (vI x :: vR 30 0 :: st) (im, rs bt rt, lm) := wp_puti (n := 29) F hd rfl uX9 tyX9 tyX9_ok nmX9 (Or.inl (by rw [ho]; exact F.2.2.2.2.1 _ fl_X9_183)) (by decide) rfl rfl (m_30 (by decide)) rfl rfl ht kk
theorem g_X9_370 {M : MS} {G : GS} {ad : Ads} {Y : YS} {post : Option SV → Mem → Prop} {pc t : Nat} {ls : List (Option SV)} {st : List SV} {im : Nat → Nat → Nat → Int} {bt rt : Nat} {lm : Nat → Nat → Nat → Int} (F : Fx M (XR G) ad Y) (hd : decode Y.2.1 pc = .ok (.getfield 370, 3)) (ho : Y.1 = RX9) (ht : t = pc + 3) (kk : Wp M (XR G) ad Y post t ls (vI (im 30 0 30) :: st) (im, rs bt rt, lm)) : Wp M (XR G) ad Y post pc ls (vR 30 0 :: st) (im, rs bt rt, lm) := wp_geti (n := 30) F hd rfl uX9 (Or.inl (by rw [ho]; exact F.2.2.2.2.1 _ fl_X9_370)) (by decide) rfl (m_30 (by decide)) rfl ht kk
theorem p_X9_370 {M : MS} {G : GS} {ad : Ads} {Y : YS} {post : Option SV → Mem → Prop} {pc t : Nat} {ls : List (Option SV)} {st : List SV} {im : Nat → Nat → Nat → Int} {bt rt : Nat} {lm : Nat → Nat → Nat → Int} {x : Int} (F : Fx M (XR G) ad Y) (hd : decode Y.2.1 pc = .ok (.putfield 370, 3)) (ho : Y.1 = RX9) (ht : t = pc + 3) (kk : Wp M (XR G) ad Y post t ls st (up im 30 0 30 x, rs bt rt, lm)) : Wp M (XR G) ad Y post pc ls (vI x :: vR 30 0 :: st) (im, rs bt rt, lm) := wp_puti (n := 30) F hd rfl uX9 tyX9 tyX9_ok nmX9 (Or.inl (by rw [ho]; exact F.2.2.2.2.1 _ fl_X9_370)) (by decide) rfl rfl (m_30 (by decide)) rfl rfl ht kk
theorem g_X9_373 {M : MS} {G : GS} {ad : Ads} {Y : YS} {post : Option SV → Mem → Prop} {pc t : Nat} {ls : List (Option SV)} {st : List SV} {im : Nat → Nat → Nat → Int} {bt rt : Nat} {lm : Nat → Nat → Nat → Int} (F : Fx M (XR G) ad Y) (hd : decode Y.2.1 pc = .ok (.getfield 373, 3)) (ho : Y.1 = RX9) (ht : t = pc + 3) (kk : Wp M (XR G) ad Y post t ls (vI (im 30 0 31) :: st) (im, rs bt rt, lm)) : Wp M (XR G) ad Y post pc ls (vR 30 0 :: st) (im, rs bt rt, lm) := wp_geti (n := 31) F hd rfl uX9 (Or.inl (by rw [ho]; exact F.2.2.2.2.1 _ fl_X9_373)) (by decide) rfl (m_30 (by decide)) rfl ht kk
theorem p_X9_373 {M : MS} {G : GS} {ad : Ads} {Y : YS} {post : Option SV → Mem → Prop} {pc t : Nat} {ls : List (Option SV)} {st : List SV} {im : Nat → Nat → Nat → Int} {bt rt : Nat} {lm : Nat → Nat → Nat → Int} {x : Int} (F : Fx M (XR G) ad Y) (hd : decode Y.2.1 pc = .ok (.putfield 373, 3)) (ho : Y.1 = RX9) (ht : t = pc + 3) (kk : Wp M (XR G) ad Y post t ls st (up im 30 0 31 x, rs bt rt, lm)) : Wp M (XR G) ad Y post pc ls (vI x :: vR 30 0 :: st) (im, rs bt rt, lm) := wp_puti (n := 31) F hd rfl uX9 tyX9 tyX9_ok nmX9 (Or.inl (by rw [ho]; exact F.2.2.2.2.1 _ fl_X9_373)) (by decide) rfl rfl (m_30 (by decide)) rfl rfl ht kk
theorem g_X9_376 {M : MS} {G : GS} {ad : Ads} {Y : YS} {post : Option SV → Mem → Prop} {pc t : Nat} {ls : List (Option SV)} {st : List SV} {im : Nat → Nat → Nat → Int} {bt rt : Nat} {lm : Nat → Nat → Nat → Int} (F : Fx M (XR G) ad Y) (hd : decode Y.2.1 pc = .ok (.getfield 376, 3)) (ho : Y.1 = RX9) (ht : t = pc + 3) (kk : Wp M (XR G) ad Y post t ls (vI (im 30 0 32) :: st) (im, rs bt rt, lm)) : Wp M (XR G) ad Y post pc ls (vR 30 0 :: st) (im, rs bt rt, lm) := wp_geti (n := 32) F hd rfl uX9 (Or.inl (by rw [ho]; exact F.2.2.2.2.1 _ fl_X9_376)) (by decide) rfl (m_30 (by decide)) rfl ht kk
theorem p_X9_376 {M : MS} {G : GS} {ad : Ads} {Y : YS} {post : Option SV → Mem → Prop} {pc t : Nat} {ls : List (Option SV)} {st : List SV} {im : Nat → Nat → Nat → Int} {bt rt : Nat} {lm : Nat → Nat → Nat → Int} {x : Int} (F : Fx M (XR G) ad Y) (hd : decode Y.2.1 pc = .ok (.putfield 376, 3)) (ho : Y.1 = RX9) (ht : t = pc + 3) (kk : Wp M (XR G) ad Y post t ls st (up im 30 0 32 x, rs bt rt, lm)) : Wp M (XR G) ad Y post pc ls (vI x :: vR 30 0 :: st) (im, rs bt rt, lm) := wp_puti (n := 32) F hd rfl uX9 tyX9 tyX9_ok nmX9 (Or.inl (by rw [ho]; exact F.2.2.2.2.1 _ fl_X9_376)) (by decide) rfl rfl (m_30 (by decide)) rfl rfl ht kk
theorem g_X9_379 {M : MS} {G : GS} {ad : Ads} {Y : YS} {post : Option SV → Mem → Prop} {pc t : Nat} {ls : List (Option SV)} {st : List SV} {im : Nat → Nat → Nat → Int} {bt rt : Nat} {lm : Nat → Nat → Nat → Int} (F : Fx M (XR G) ad Y) (hd : decode Y.2.1 pc = .ok (.getfield 379, 3)) (ho : Y.1 = RX9) (ht : t = pc + 3) (kk : Wp M (XR G) ad Y post t ls (vI (im 30 0 33) :: st) (im, rs bt rt, lm)) : Wp M (XR G) ad Y post pc ls (vR 30 0 :: st) (im, rs bt rt, lm) := wp_geti (n := 33) F hd rfl uX9 (Or.inl (by rw [ho]; exact F.2.2.2.2.1 _ fl_X9_379)) (by decide) rfl (m_30 (by decide)) rfl ht kk
theorem p_X9_379 {M : MS} {G : GS} {ad : Ads} {Y : YS} {post : Option SV → Mem → Prop} {pc t : Nat} {ls : List (Option SV)} {st : List SV} {im : Nat → Nat → Nat → Int} {bt rt : Nat} {lm : Nat → Nat → Nat → Int} {x : Int} (F : Fx M (XR G) ad Y) (hd : decode Y.2.1 pc = .ok (.putfield 379, 3)) (ho : Y.1 = RX9) (ht : t = pc + 3) (kk : Wp M (XR G) ad Y post t ls st (up im 30 0 33 x, rs bt rt, lm)) : Wp M (XR G) ad Y post pc ls (vI x :: vR 30 0 :: st) (im, rs bt rt, lm) := wp_puti (n := 33) F hd rfl uX9 tyX9 tyX9_ok nmX9 (Or.inl (by rw [ho]; exact F.2.2.2.2.1 _ fl_X9_379)) (by decide) rfl rfl (m_30 (by decide)) rfl rfl ht kk
theorem g_X9_38 {M : MS} {G : GS} {ad : Ads} {Y : YS} {post : Option SV → Mem → Prop} {pc t : Nat} {ls : List (Option SV)} {st : List SV} {im : Nat → Nat → Nat → Int} {bt rt : Nat} {lm : Nat → Nat → Nat → Int} (F : Fx M (XR G) ad Y) (hd : decode Y.2.1 pc = .ok (.getfield 38, 3)) (ho : Y.1 = RX9) (ht : t = pc + 3) (kk : Wp M (XR G) ad Y post t ls (vR 38 0 :: st) (im, rs bt rt, lm)) : Wp M (XR G) ad Y post pc ls (vR 30 0 :: st) (im, rs bt rt, lm) := wp_getr (n := 34) F hd rfl uX9 (Or.inl (by rw [ho]; exact F.2.2.2.2.1 _ fl_X9_38)) (by decide) rfl (m_30 (by decide)) rfl rfl ht kk
theorem g_X9_41 {M : MS} {G : GS} {ad : Ads} {Y : YS} {post : Option SV → Mem → Prop} {pc t : Nat} {ls : List (Option SV)} {st : List SV} {im : Nat → Nat → Nat → Int} {bt rt : Nat} {lm : Nat → Nat → Nat → Int} (F : Fx M (XR G) ad Y) (hd : decode Y.2.1 pc = .ok (.getfield 41, 3)) (ho : Y.1 = RX9) (ht : t = pc + 3) (kk : Wp M (XR G) ad Y post t ls (vR 39 0 :: st) (im, rs bt rt, lm)) : Wp M (XR G) ad Y post pc ls (vR 30 0 :: st) (im, rs bt rt, lm) := wp_getr (n := 35) F hd rfl uX9 (Or.inl (by rw [ho]; exact F.2.2.2.2.1 _ fl_X9_41)) (by decide) rfl (m_30 (by decide)) rfl rfl ht kk
theorem g_X9_44 {M : MS} {G : GS} {ad : Ads} {Y : YS} {post : Option SV → Mem → Prop} {pc t : Nat} {ls : List (Option SV)} {st : List SV} {im : Nat → Nat → Nat → Int} {bt rt : Nat} {lm : Nat → Nat → Nat → Int} (F : Fx M (XR G) ad Y) (hd : decode Y.2.1 pc = .ok (.getfield 44, 3)) (ho : Y.1 = RX9) (ht : t = pc + 3) (kk : Wp M (XR G) ad Y post t ls (vR 40 0 :: st) (im, rs bt rt, lm)) : Wp M (XR G) ad Y post pc ls (vR 30 0 :: st) (im, rs bt rt, lm) := wp_getr (n := 36) F hd rfl uX9 (Or.inl (by rw [ho]; exact F.2.2.2.2.1 _ fl_X9_44)) (by decide) rfl (m_30 (by decide)) rfl rfl ht kk
theorem g_X9_47 {M : MS} {G : GS} {ad : Ads} {Y : YS} {post : Option SV → Mem → Prop} {pc t : Nat} {ls : List (Option SV)} {st : List SV} {im : Nat → Nat → Nat → Int} {bt rt : Nat} {lm : Nat → Nat → Nat → Int} (F : Fx M (XR G) ad Y) (hd : decode Y.2.1 pc = .ok (.getfield 47, 3)) (ho : Y.1 = RX9) (ht : t = pc + 3) (kk : Wp M (XR G) ad Y post t ls (vR 41 0 :: st) (im, rs bt rt, lm)) : Wp M (XR G) ad Y post pc ls (vR 30 0 :: st) (im, rs bt rt, lm) := wp_getr (n := 37) F hd rfl uX9 (Or.inl (by rw [ho]; exact F.2.2.2.2.1 _ fl_X9_47)) (by decide) rfl (m_30 (by decide)) rfl rfl ht kk
theorem g_X9_395 {M : MS} {G : GS} {ad : Ads} {Y : YS} {post : Option SV → Mem → Prop} {pc t : Nat} {ls : List (Option SV)} {st : List SV} {im : Nat → Nat → Nat → Int} {bt rt : Nat} {lm : Nat → Nat → Nat → Int} (F : Fx M (XR G) ad Y) (hd : decode Y.2.1 pc = .ok (.getfield 395, 3)) (ho : Y.1 = RX9) (ht : t = pc + 3) (kk : Wp M (XR G) ad Y post t ls (vI (im 30 0 38) :: st) (im, rs bt rt, lm)) : Wp M (XR G) ad Y post pc ls (vR 30 0 :: st) (im, rs bt rt, lm) := wp_geti (n := 38) F hd rfl uX9 (Or.inl (by rw [ho]; exact F.2.2.2.2.1 _ fl_X9_395)) (by decide) rfl (m_30 (by decide)) rfl ht kk
theorem p_X9_395 {M : MS} {G : GS} {ad : Ads} {Y : YS} {post : Option SV → Mem → Prop} {pc t : Nat} {ls : List (Option SV)} {st : List SV} {im : Nat → Nat → Nat → Int} {bt rt : Nat} {lm : Nat → Nat → Nat → Int} {x : Int} (F : Fx M (XR G) ad Y) (hd : decode Y.2.1 pc = .ok (.putfield 395, 3)) (ho : Y.1 = RX9) (ht : t = pc + 3) (kk : Wp M (XR G) ad Y post t ls st (up im 30 0 38 x, rs bt rt, lm)) : Wp M (XR G) ad Y post pc ls (vI x :: vR 30 0 :: st) (im, rs bt rt, lm) := wp_puti (n := 38) F hd rfl uX9 tyX9 tyX9_ok nmX9 (Or.inl (by rw [ho]; exact F.2.2.2.2.1 _ fl_X9_395)) (by decide) rfl rfl (m_30 (by decide)) rfl rfl ht kk
theorem g_X9_398 {M : MS} {G : GS} {ad : Ads} {Y : YS} {post : Option SV → Mem → Prop} {pc t : Nat} {ls : List (Option SV)} {st : List SV} {im : Nat → Nat → Nat → Int} {bt rt : Nat} {lm : Nat → Nat → Nat → Int} (F : Fx M (XR G) ad Y) (hd : decode Y.2.1 pc = .ok (.getfield 398, 3)) (ho : Y.1 = RX9) (ht : t = pc + 3) (kk : Wp M (XR G) ad Y post t ls (vI (im 30 0 39) :: st) (im, rs bt rt, lm)) : Wp M (XR G) ad Y post pc ls (vR 30 0 :: st) (im, rs bt rt, lm) := wp_geti (n := 39) F hd rfl uX9 (Or.inl (by rw [ho]; exact F.2.2.2.2.1 _ fl_X9_398)) (by decide) rfl (m_30 (by decide)) rfl ht kk
theorem p_X9_398 {M : MS} {G : GS} {ad : Ads} {Y : YS} {post : Option SV → Mem → Prop} {pc t : Nat} {ls : List (Option SV)} {st : List SV} {im : Nat → Nat → Nat → Int} {bt rt : Nat} {lm : Nat → Nat → Nat → Int} {x : Int} (F : Fx M (XR G) ad Y) (hd : decode Y.2.1 pc = .ok (.putfield 398, 3)) (ho : Y.1 = RX9) (ht : t = pc + 3) (kk : Wp M (XR G) ad Y post t ls st (up im 30 0 39 x, rs bt rt, lm)) : Wp M (XR G) ad Y post pc ls (vI x :: vR 30 0 :: st) (im, rs bt rt, lm) := wp_puti (n := 39) F hd rfl uX9 tyX9 tyX9_ok nmX9 (Or.inl (by rw [ho]; exact F.2.2.2.2.1 _ fl_X9_398)) (by decide) rfl rfl (m_30 (by decide)) rfl rfl ht kk
theorem g_X9_401 {M : MS} {G : GS} {ad : Ads} {Y : YS} {post : Option SV → Mem → Prop} {pc t : Nat} {ls : List (Option SV)} {st : List SV} {im : Nat → Nat → Nat → Int} {bt rt : Nat} {lm : Nat → Nat → Nat → Int} (F : Fx M (XR G) ad Y) (hd : decode Y.2.1 pc = .ok (.getfield 401, 3)) (ho : Y.1 = RX9) (ht : t = pc + 3) (kk : Wp M (XR G) ad Y post t ls (vI (im 30 0 40) :: st) (im, rs bt rt, lm)) : Wp M (XR G) ad Y post pc ls (vR 30 0 :: st) (im, rs bt rt, lm) := wp_geti (n := 40) F hd rfl uX9 (Or.inl (by rw [ho]; exact F.2.2.2.2.1 _ fl_X9_401)) (by decide) rfl (m_30 (by decide)) rfl ht kk
theorem p_X9_401 {M : MS} {G : GS} {ad : Ads} {Y : YS} {post : Option SV → Mem → Prop} {pc t : Nat} {ls : List (Option SV)} {st : List SV} {im : Nat → Nat → Nat → Int} {bt rt : Nat} {lm : Nat → Nat → Nat → Int} {x : Int} (F : Fx M (XR G) ad Y) (hd : decode Y.2.1 pc = .ok (.putfield 401, 3)) (ho : Y.1 = RX9) (ht : t = pc + 3) (kk : Wp M (XR G) ad Y post t ls st (up im 30 0 40 x, rs bt rt, lm)) : Wp M (XR G) ad Y post pc ls (vI x :: vR 30 0 :: st) (im, rs bt rt, lm) := wp_puti (n := 40) F hd rfl uX9 tyX9 tyX9_ok nmX9 (Or.inl (by rw [ho]; exact F.2.2.2.2.1 _ fl_X9_401)) (by decide) rfl rfl (m_30 (by decide)) rfl rfl ht kk
theorem g_X9_50 {M : MS} {G : GS} {ad : Ads} {Y : YS} {post : Option SV → Mem → Prop} {pc t : Nat} {ls : List (Option SV)} {st : List SV} {im : Nat → Nat → Nat → Int} {bt rt : Nat} {lm : Nat → Nat → Nat → Int} (F : Fx M (XR G) ad Y) (hd : decode Y.2.1 pc = .ok (.getfield 50, 3)) (ho : Y.1 = RX9) (ht : t = pc + 3) (kk : Wp M (XR G) ad Y post t ls (vR 42 0 :: st) (im, rs bt rt, lm)) : Wp M (XR G) ad Y post pc ls (vR 30 0 :: st) (im, rs bt rt, lm) := wp_getr (n := 41) F hd rfl uX9 (Or.inl (by rw [ho]; exact F.2.2.2.2.1 _ fl_X9_50)) (by decide) rfl (m_30 (by decide)) rfl rfl ht kk
theorem g_X9_53 {M : MS} {G : GS} {ad : Ads} {Y : YS} {post : Option SV → Mem → Prop} {pc t : Nat} {ls : List (Option SV)} {st : List SV} {im : Nat → Nat → Nat → Int} {bt rt : Nat} {lm : Nat → Nat → Nat → Int} (F : Fx M (XR G) ad Y) (hd : decode Y.2.1 pc = .ok (.getfield 53, 3)) (ho : Y.1 = RX9) (ht : t = pc + 3) (kk : Wp M (XR G) ad Y post t ls (vR 43 0 :: st) (im, rs bt rt, lm)) : Wp M (XR G) ad Y post pc ls (vR 30 0 :: st) (im, rs bt rt, lm) := wp_getr (n := 42) F hd rfl uX9 (Or.inl (by rw [ho]; exact F.2.2.2.2.1 _ fl_X9_53)) (by decide) rfl (m_30 (by decide)) rfl rfl ht kk
theorem g_X9_56 {M : MS} {G : GS} {ad : Ads} {Y : YS} {post : Option SV → Mem → Prop} {pc t : Nat} {ls : List (Option SV)} {st : List SV} {im : Nat → Nat → Nat → Int} {bt rt : Nat} {lm : Nat → Nat → Nat → Int} (F : Fx M (XR G) ad Y) (hd : decode Y.2.1 pc = .ok (.getfield 56, 3)) (ho : Y.1 = RX9) (ht : t = pc + 3) (kk : Wp M (XR G) ad Y post t ls (vR 44 0 :: st) (im, rs bt rt, lm)) : Wp M (XR G) ad Y post pc ls (vR 30 0 :: st) (im, rs bt rt, lm) := wp_getr (n := 43) F hd rfl uX9 (Or.inl (by rw [ho]; exact F.2.2.2.2.1 _ fl_X9_56)) (by decide) rfl (m_30 (by decide)) rfl rfl ht kk
theorem g_X9_59 {M : MS} {G : GS} {ad : Ads} {Y : YS} {post : Option SV → Mem → Prop} {pc t : Nat} {ls : List (Option SV)} {st : List SV} {im : Nat → Nat → Nat → Int} {bt rt : Nat} {lm : Nat → Nat → Nat → Int} (F : Fx M (XR G) ad Y) (hd : decode Y.2.1 pc = .ok (.getfield 59, 3)) (ho : Y.1 = RX9) (ht : t = pc + 3) (kk : Wp M (XR G) ad Y post t ls (vR 45 0 :: st) (im, rs bt rt, lm)) : Wp M (XR G) ad Y post pc ls (vR 30 0 :: st) (im, rs bt rt, lm) := wp_getr (n := 44) F hd rfl uX9 (Or.inl (by rw [ho]; exact F.2.2.2.2.1 _ fl_X9_59)) (by decide) rfl (m_30 (by decide)) rfl rfl ht kk
theorem g_X9_62 {M : MS} {G : GS} {ad : Ads} {Y : YS} {post : Option SV → Mem → Prop} {pc t : Nat} {ls : List (Option SV)} {st : List SV} {im : Nat → Nat → Nat → Int} {bt rt : Nat} {lm : Nat → Nat → Nat → Int} (F : Fx M (XR G) ad Y) (hd : decode Y.2.1 pc = .ok (.getfield 62, 3)) (ho : Y.1 = RX9) (ht : t = pc + 3) (kk : Wp M (XR G) ad Y post t ls (vR 46 0 :: st) (im, rs bt rt, lm)) : Wp M (XR G) ad Y post pc ls (vR 30 0 :: st) (im, rs bt rt, lm) := wp_getr (n := 45) F hd rfl uX9 (Or.inl (by rw [ho]; exact F.2.2.2.2.1 _ fl_X9_62)) (by decide) rfl (m_30 (by decide)) rfl rfl ht kk
theorem g_X9_65 {M : MS} {G : GS} {ad : Ads} {Y : YS} {post : Option SV → Mem → Prop} {pc t : Nat} {ls : List (Option SV)} {st : List SV} {im : Nat → Nat → Nat → Int} {bt rt : Nat} {lm : Nat → Nat → Nat → Int} (F : Fx M (XR G) ad Y) (hd : decode Y.2.1 pc = .ok (.getfield 65, 3)) (ho : Y.1 = RX9) (ht : t = pc + 3) (kk : Wp M (XR G) ad Y post t ls (vI (im 30 0 46) :: st) (im, rs bt rt, lm)) : Wp M (XR G) ad Y post pc ls (vR 30 0 :: st) (im, rs bt rt, lm) := wp_geti (n := 46) F hd rfl uX9 (Or.inl (by rw [ho]; exact F.2.2.2.2.1 _ fl_X9_65)) (by decide) rfl (m_30 (by decide)) rfl ht kk
theorem p_X9_65 {M : MS} {G : GS} {ad : Ads} {Y : YS} {post : Option SV → Mem → Prop} {pc t : Nat} {ls : List (Option SV)} {st : List SV} {im : Nat → Nat → Nat → Int} {bt rt : Nat} {lm : Nat → Nat → Nat → Int} {x : Int} (F : Fx M (XR G) ad Y) (hd : decode Y.2.1 pc = .ok (.putfield 65, 3)) (ho : Y.1 = RX9) (ht : t = pc + 3) (kk : Wp M (XR G) ad Y post t ls st (up im 30 0 46 x, rs bt rt, lm)) : Wp M (XR G) ad Y post pc ls (vI x :: vR 30 0 :: st) (im, rs bt rt, lm) := wp_puti (n := 46) F hd rfl uX9 tyX9 tyX9_ok nmX9 (Or.inl (by rw [ho]; exact F.2.2.2.2.1 _ fl_X9_65)) (by decide) rfl rfl (m_30 (by decide)) rfl rfl ht kk
theorem g_X9_459 {M : MS} {G : GS} {ad : Ads} {Y : YS} {post : Option SV → Mem → Prop} {pc t : Nat} {ls : List (Option SV)} {st : List SV} {im : Nat → Nat → Nat → Int} {bt rt : Nat} {lm : Nat → Nat → Nat → Int} (F : Fx M (XR G) ad Y) (hd : decode Y.2.1 pc = .ok (.getfield 459, 3)) (ho : Y.1 = RX9) (ht : t = pc + 3) (kk : Wp M (XR G) ad Y post t ls (vI (im 30 0 47) :: st) (im, rs bt rt, lm)) : Wp M (XR G) ad Y post pc ls (vR 30 0 :: st) (im, rs bt rt, lm) := wp_geti (n := 47) F hd rfl uX9 (Or.inl (by rw [ho]; exact F.2.2.2.2.1 _ fl_X9_459)) (by decide) rfl (m_30 (by decide)) rfl ht kk
theorem p_X9_459 {M : MS} {G : GS} {ad : Ads} {Y : YS} {post : Option SV → Mem → Prop} {pc t : Nat} {ls : List (Option SV)} {st : List SV} {im : Nat → Nat → Nat → Int} {bt rt : Nat} {lm : Nat → Nat → Nat → Int} {x : Int} (F : Fx M (XR G) ad Y) (hd : decode Y.2.1 pc = .ok (.putfield 459, 3)) (ho : Y.1 = RX9) (ht : t = pc + 3) (kk : Wp M (XR G) ad Y post t ls st (up im 30 0 47 x, rs bt rt, lm)) : Wp M (XR G) ad Y post pc ls (vI x :: vR 30 0 :: st) (im, rs bt rt, lm) := wp_puti (n := 47) F hd rfl uX9 tyX9 tyX9_ok nmX9 (Or.inl (by rw [ho]; exact F.2.2.2.2.1 _ fl_X9_459)) (by decide) rfl rfl (m_30 (by decide)) rfl rfl ht kk
theorem g_X9_462 {M : MS} {G : GS} {ad : Ads} {Y : YS} {post : Option SV → Mem → Prop} {pc t : Nat} {ls : List (Option SV)} {st : List SV} {im : Nat → Nat → Nat → Int} {bt rt : Nat} {lm : Nat → Nat → Nat → Int} (F : Fx M (XR G) ad Y) (hd : decode Y.2.1 pc = .ok (.getfield 462, 3)) (ho : Y.1 = RX9) (ht : t = pc + 3) (kk : Wp M (XR G) ad Y post t ls (vI (im 30 0 48) :: st) (im, rs bt rt, lm)) : Wp M (XR G) ad Y post pc ls (vR 30 0 :: st) (im, rs bt rt, lm) := wp_geti (n := 48) F hd rfl uX9 (Or.inl (by rw [ho]; exact F.2.2.2.2.1 _ fl_X9_462)) (by decide) rfl (m_30 (by decide)) rfl ht kk
theorem p_X9_462 {M : MS} {G : GS} {ad : Ads} {Y : YS} {post : Option SV → Mem → Prop} {pc t : Nat} {ls : List (Option SV)} {st : List SV} {im : Nat → Nat → Nat → Int} {bt rt : Nat} {lm : Nat → Nat → Nat → Int} {x : Int} (F : Fx M (XR G) ad Y) (hd : decode Y.2.1 pc = .ok (.putfield 462, 3)) (ho : Y.1 = RX9) (ht : t = pc + 3) (kk : Wp M (XR G) ad Y post t ls st (up im 30 0 48 x, rs bt rt, lm)) : Wp M (XR G) ad Y post pc ls (vI x :: vR 30 0 :: st) (im, rs bt rt, lm) := wp_puti (n := 48) F hd rfl uX9 tyX9 tyX9_ok nmX9 (Or.inl (by rw [ho]; exact F.2.2.2.2.1 _ fl_X9_462)) (by decide) rfl rfl (m_30 (by decide)) rfl rfl ht kk
theorem g_X9_465 {M : MS} {G : GS} {ad : Ads} {Y : YS} {post : Option SV → Mem → Prop} {pc t : Nat} {ls : List (Option SV)} {st : List SV} {im : Nat → Nat → Nat → Int} {bt rt : Nat} {lm : Nat → Nat → Nat → Int} (F : Fx M (XR G) ad Y) (hd : decode Y.2.1 pc = .ok (.getfield 465, 3)) (ho : Y.1 = RX9) (ht : t = pc + 3) (kk : Wp M (XR G) ad Y post t ls (vI (im 30 0 49) :: st) (im, rs bt rt, lm)) : Wp M (XR G) ad Y post pc ls (vR 30 0 :: st) (im, rs bt rt, lm) := wp_geti (n := 49) F hd rfl uX9 (Or.inl (by rw [ho]; exact F.2.2.2.2.1 _ fl_X9_465)) (by decide) rfl (m_30 (by decide)) rfl ht kk
theorem p_X9_465 {M : MS} {G : GS} {ad : Ads} {Y : YS} {post : Option SV → Mem → Prop} {pc t : Nat} {ls : List (Option SV)} {st : List SV} {im : Nat → Nat → Nat → Int} {bt rt : Nat} {lm : Nat → Nat → Nat → Int} {x : Int} (F : Fx M (XR G) ad Y) (hd : decode Y.2.1 pc = .ok (.putfield 465, 3)) (ho : Y.1 = RX9) (ht : t = pc + 3) (kk : Wp M (XR G) ad Y post t ls st (up im 30 0 49 x, rs bt rt, lm)) : Wp M (XR G) ad Y post pc ls (vI x :: vR 30 0 :: st) (im, rs bt rt, lm) := wp_puti (n := 49) F hd rfl uX9 tyX9 tyX9_ok nmX9 (Or.inl (by rw [ho]; exact F.2.2.2.2.1 _ fl_X9_465)) (by decide) rfl rfl (m_30 (by decide)) rfl rfl ht kk
theorem g_X9_468 {M : MS} {G : GS} {ad : Ads} {Y : YS} {post : Option SV → Mem → Prop} {pc t : Nat} {ls : List (Option SV)} {st : List SV} {im : Nat → Nat → Nat → Int} {bt rt : Nat} {lm : Nat → Nat → Nat → Int} (F : Fx M (XR G) ad Y) (hd : decode Y.2.1 pc = .ok (.getfield 468, 3)) (ho : Y.1 = RX9) (ht : t = pc + 3) (kk : Wp M (XR G) ad Y post t ls (vI (im 30 0 50) :: st) (im, rs bt rt, lm)) : Wp M (XR G) ad Y post pc ls (vR 30 0 :: st) (im, rs bt rt, lm) := wp_geti (n := 50) F hd rfl uX9 (Or.inl (by rw [ho]; exact F.2.2.2.2.1 _ fl_X9_468)) (by decide) rfl (m_30 (by decide)) rfl ht kk
theorem p_X9_468 {M : MS} {G : GS} {ad : Ads} {Y : YS} {post : Option SV → Mem → Prop} {pc t : Nat} {ls : List (Option SV)} {st : List SV} {im : Nat → Nat → Nat → Int} {bt rt : Nat} {lm : Nat → Nat → Nat → Int} {x : Int} (F : Fx M (XR G) ad Y) (hd : decode Y.2.1 pc = .ok (.putfield 468, 3)) (ho : Y.1 = RX9) (ht : t = pc + 3) (kk : Wp M (XR G) ad Y post t ls st (up im 30 0 50 x, rs bt rt, lm)) : Wp M (XR G) ad Y post pc ls (vI x :: vR 30 0 :: st) (im, rs bt rt, lm) := wp_puti (n := 50) F hd rfl uX9 tyX9 tyX9_ok nmX9 (Or.inl (by rw [ho]; exact F.2.2.2.2.1 _ fl_X9_468)) (by decide) rfl rfl (m_30 (by decide)) rfl rfl ht kk
theorem g_X9_68 {M : MS} {G : GS} {ad : Ads} {Y : YS} {post : Option SV → Mem → Prop} {pc t : Nat} {ls : List (Option SV)} {st : List SV} {im : Nat → Nat → Nat → Int} {bt rt : Nat} {lm : Nat → Nat → Nat → Int} (F : Fx M (XR G) ad Y) (hd : decode Y.2.1 pc = .ok (.getfield 68, 3)) (ho : Y.1 = RX9) (ht : t = pc + 3) (kk : Wp M (XR G) ad Y post t ls (vR 47 0 :: st) (im, rs bt rt, lm)) : Wp M (XR G) ad Y post pc ls (vR 30 0 :: st) (im, rs bt rt, lm) := wp_getr (n := 51) F hd rfl uX9 (Or.inl (by rw [ho]; exact F.2.2.2.2.1 _ fl_X9_68)) (by decide) rfl (m_30 (by decide)) rfl rfl ht kk
theorem g_X9_72 {M : MS} {G : GS} {ad : Ads} {Y : YS} {post : Option SV → Mem → Prop} {pc t : Nat} {ls : List (Option SV)} {st : List SV} {im : Nat → Nat → Nat → Int} {bt rt : Nat} {lm : Nat → Nat → Nat → Int} (F : Fx M (XR G) ad Y) (hd : decode Y.2.1 pc = .ok (.getfield 72, 3)) (ho : Y.1 = RX9) (ht : t = pc + 3) (kk : Wp M (XR G) ad Y post t ls (vR 48 0 :: st) (im, rs bt rt, lm)) : Wp M (XR G) ad Y post pc ls (vR 30 0 :: st) (im, rs bt rt, lm) := wp_getr (n := 52) F hd rfl uX9 (Or.inl (by rw [ho]; exact F.2.2.2.2.1 _ fl_X9_72)) (by decide) rfl (m_30 (by decide)) rfl rfl ht kk
theorem g_X9_75 {M : MS} {G : GS} {ad : Ads} {Y : YS} {post : Option SV → Mem → Prop} {pc t : Nat} {ls : List (Option SV)} {st : List SV} {im : Nat → Nat → Nat → Int} {bt rt : Nat} {lm : Nat → Nat → Nat → Int} (F : Fx M (XR G) ad Y) (hd : decode Y.2.1 pc = .ok (.getfield 75, 3)) (ho : Y.1 = RX9) (ht : t = pc + 3) (kk : Wp M (XR G) ad Y post t ls (vR 49 0 :: st) (im, rs bt rt, lm)) : Wp M (XR G) ad Y post pc ls (vR 30 0 :: st) (im, rs bt rt, lm) := wp_getr (n := 53) F hd rfl uX9 (Or.inl (by rw [ho]; exact F.2.2.2.2.1 _ fl_X9_75)) (by decide) rfl (m_30 (by decide)) rfl rfl ht kk
theorem g_X9_78 {M : MS} {G : GS} {ad : Ads} {Y : YS} {post : Option SV → Mem → Prop} {pc t : Nat} {ls : List (Option SV)} {st : List SV} {im : Nat → Nat → Nat → Int} {bt rt : Nat} {lm : Nat → Nat → Nat → Int} (F : Fx M (XR G) ad Y) (hd : decode Y.2.1 pc = .ok (.getfield 78, 3)) (ho : Y.1 = RX9) (ht : t = pc + 3) (kk : Wp M (XR G) ad Y post t ls (vR 50 0 :: st) (im, rs bt rt, lm)) : Wp M (XR G) ad Y post pc ls (vR 30 0 :: st) (im, rs bt rt, lm) := wp_getr (n := 54) F hd rfl uX9 (Or.inl (by rw [ho]; exact F.2.2.2.2.1 _ fl_X9_78)) (by decide) rfl (m_30 (by decide)) rfl rfl ht kk
theorem ld_3 {M : MS} {G : GS} {ad : Ads} {Y : YS} {post : Option SV → Mem → Prop} {pc t : Nat} {ls : List (Option SV)} {st : List SV} {im : Nat → Nat → Nat → Int} {bt rt : Nat} {lm : Nat → Nat → Nat → Int} {i : Nat} {x : Int} (F : Fx M (XC G) ad Y) (hd : decode Y.2.1 pc = .ok (.iaload, 1)) (hi : i < 6) (h0 : 0 ≤ x) (h1 : x < 160) (ht : t = pc + 1) (kk : Wp M (XC G) ad Y post t ls (vI (im 3 i x.toNat) :: st) (im, rs bt rt, lm)) : Wp M (XC G) ad Y post pc ls (vI x :: vR 3 i :: st) (im, rs bt rt, lm) := wp_iald F hd rfl (by decide) (m_3 hi) h0 h1 ht kk
theorem ldN_3 {M : MS} {G : GS} {ad : Ads} {Y : YS} {post : Option SV → Mem → Prop} {pc t : Nat} {ls : List (Option SV)} {st : List SV} {im : Nat → Nat → Nat → Int} {bt rt : Nat} {lm : Nat → Nat → Nat → Int} {i : Nat} {j : Nat} (F : Fx M (XC G) ad Y) (hd : decode Y.2.1 pc = .ok (.iaload, 1)) (hi : i < 6) (h1 : j < 160) (ht : t = pc + 1) (kk : Wp M (XC G) ad Y post t ls (vI (im 3 i j) :: st) (im, rs bt rt, lm)) : Wp M (XC G) ad Y post pc ls (vI (j : Int) :: vR 3 i :: st) (im, rs bt rt, lm) := ld_3 F hd hi (by omega) (by omega) ht (by rw [Int.toNat_natCast]; exact kk)
theorem st_3 {M : MS} {G : GS} {ad : Ads} {Y : YS} {post : Option SV → Mem → Prop} {pc t : Nat} {ls : List (Option SV)} {st : List SV} {im : Nat → Nat → Nat → Int} {bt rt : Nat} {lm : Nat → Nat → Nat → Int} {i : Nat} {x v : Int} (F : Fx M (XC G) ad Y) (hd : decode Y.2.1 pc = .ok (.iastore, 1)) (hi : i < 6) (h0 : 0 ≤ x) (h1 : x < 160) (ht : t = pc + 1) (kk : Wp M (XC G) ad Y post t ls st (up im 3 i x.toNat v, rs bt rt, lm)) : Wp M (XC G) ad Y post pc ls (vI v :: vI x :: vR 3 i :: st) (im, rs bt rt, lm) := wp_iast F hd rfl (by decide) (m_3 hi) h0 h1 ht kk
theorem ld_4 {M : MS} {G : GS} {ad : Ads} {Y : YS} {post : Option SV → Mem → Prop} {pc t : Nat} {ls : List (Option SV)} {st : List SV} {im : Nat → Nat → Nat → Int} {bt rt : Nat} {lm : Nat → Nat → Nat → Int} {i : Nat} {x : Int} (F : Fx M (XC G) ad Y) (hd : decode Y.2.1 pc = .ok (.iaload, 1)) (hi : i < 6) (h0 : 0 ≤ x) (h1 : x < 3) (ht : t = pc + 1) (kk : Wp M (XC G) ad Y post t ls (vI (im 4 i x.toNat) :: st) (im, rs bt rt, lm)) : Wp M (XC G) ad Y post pc ls (vI x :: vR 4 i :: st) (im, rs bt rt, lm) := wp_iald F hd rfl (by decide) (m_4 hi) h0 h1 ht kk
theorem ldN_4 {M : MS} {G : GS} {ad : Ads} {Y : YS} {post : Option SV → Mem → Prop} {pc t : Nat} {ls : List (Option SV)} {st : List SV} {im : Nat → Nat → Nat → Int} {bt rt : Nat} {lm : Nat → Nat → Nat → Int} {i : Nat} {j : Nat} (F : Fx M (XC G) ad Y) (hd : decode Y.2.1 pc = .ok (.iaload, 1)) (hi : i < 6) (h1 : j < 3) (ht : t = pc + 1) (kk : Wp M (XC G) ad Y post t ls (vI (im 4 i j) :: st) (im, rs bt rt, lm)) : Wp M (XC G) ad Y post pc ls (vI (j : Int) :: vR 4 i :: st) (im, rs bt rt, lm) := ld_4 F hd hi (by omega) (by omega) ht (by rw [Int.toNat_natCast]; exact kk)
theorem st_4 {M : MS} {G : GS} {ad : Ads} {Y : YS} {post : Option SV → Mem → Prop} {pc t : Nat} {ls : List (Option SV)} {st : List SV} {im : Nat → Nat → Nat → Int} {bt rt : Nat} {lm : Nat → Nat → Nat → Int} {i : Nat} {x v : Int} (F : Fx M (XC G) ad Y) (hd : decode Y.2.1 pc = .ok (.iastore, 1)) (hi : i < 6) (h0 : 0 ≤ x) (h1 : x < 3) (ht : t = pc + 1) (kk : Wp M (XC G) ad Y post t ls st (up im 4 i x.toNat v, rs bt rt, lm)) : Wp M (XC G) ad Y post pc ls (vI v :: vI x :: vR 4 i :: st) (im, rs bt rt, lm) := wp_iast F hd rfl (by decide) (m_4 hi) h0 h1 ht kk
theorem stN_4 {M : MS} {G : GS} {ad : Ads} {Y : YS} {post : Option SV → Mem → Prop} {pc t : Nat} {ls : List (Option SV)} {st : List SV} {im : Nat → Nat → Nat → Int} {bt rt : Nat} {lm : Nat → Nat → Nat → Int} {i : Nat} {j : Nat} {v : Int} (F : Fx M (XC G) ad Y) (hd : decode Y.2.1 pc = .ok (.iastore, 1)) (hi : i < 6) (h1 : j < 3) (ht : t = pc + 1) (kk : Wp M (XC G) ad Y post t ls st (up im 4 i j v, rs bt rt, lm)) : Wp M (XC G) ad Y post pc ls (vI v :: vI (j : Int) :: vR 4 i :: st) (im, rs bt rt, lm) := st_4 F hd hi (by omega) (by omega) ht (by rw [Int.toNat_natCast]; exact kk)
theorem ld_5 {M : MS} {G : GS} {ad : Ads} {Y : YS} {post : Option SV → Mem → Prop} {pc t : Nat} {ls : List (Option SV)} {st : List SV} {im : Nat → Nat → Nat → Int} {bt rt : Nat} {lm : Nat → Nat → Nat → Int} {i : Nat} {x : Int} (F : Fx M (XC G) ad Y) (hd : decode Y.2.1 pc = .ok (.iaload, 1)) (hi : i < 6) (h0 : 0 ≤ x) (h1 : x < 31) (ht : t = pc + 1) (kk : Wp M (XC G) ad Y post t ls (vI (im 5 i x.toNat) :: st) (im, rs bt rt, lm)) : Wp M (XC G) ad Y post pc ls (vI x :: vR 5 i :: st) (im, rs bt rt, lm) := wp_iald F hd rfl (by decide) (m_5 hi) h0 h1 ht kk
theorem ldN_5 {M : MS} {G : GS} {ad : Ads} {Y : YS} {post : Option SV → Mem → Prop} {pc t : Nat} {ls : List (Option SV)} {st : List SV} {im : Nat → Nat → Nat → Int} {bt rt : Nat} {lm : Nat → Nat → Nat → Int} {i : Nat} {j : Nat} (F : Fx M (XC G) ad Y) (hd : decode Y.2.1 pc = .ok (.iaload, 1)) (hi : i < 6) (h1 : j < 31) (ht : t = pc + 1) (kk : Wp M (XC G) ad Y post t ls (vI (im 5 i j) :: st) (im, rs bt rt, lm)) : Wp M (XC G) ad Y post pc ls (vI (j : Int) :: vR 5 i :: st) (im, rs bt rt, lm) := ld_5 F hd hi (by omega) (by omega) ht (by rw [Int.toNat_natCast]; exact kk)
theorem st_5 {M : MS} {G : GS} {ad : Ads} {Y : YS} {post : Option SV → Mem → Prop} {pc t : Nat} {ls : List (Option SV)} {st : List SV} {im : Nat → Nat → Nat → Int} {bt rt : Nat} {lm : Nat → Nat → Nat → Int} {i : Nat} {x v : Int} (F : Fx M (XC G) ad Y) (hd : decode Y.2.1 pc = .ok (.iastore, 1)) (hi : i < 6) (h0 : 0 ≤ x) (h1 : x < 31) (ht : t = pc + 1) (kk : Wp M (XC G) ad Y post t ls st (up im 5 i x.toNat v, rs bt rt, lm)) : Wp M (XC G) ad Y post pc ls (vI v :: vI x :: vR 5 i :: st) (im, rs bt rt, lm) := wp_iast F hd rfl (by decide) (m_5 hi) h0 h1 ht kk
theorem stN_5 {M : MS} {G : GS} {ad : Ads} {Y : YS} {post : Option SV → Mem → Prop} {pc t : Nat} {ls : List (Option SV)} {st : List SV} {im : Nat → Nat → Nat → Int} {bt rt : Nat} {lm : Nat → Nat → Nat → Int} {i : Nat} {j : Nat} {v : Int} (F : Fx M (XC G) ad Y) (hd : decode Y.2.1 pc = .ok (.iastore, 1)) (hi : i < 6) (h1 : j < 31) (ht : t = pc + 1) (kk : Wp M (XC G) ad Y post t ls st (up im 5 i j v, rs bt rt, lm)) : Wp M (XC G) ad Y post pc ls (vI v :: vI (j : Int) :: vR 5 i :: st) (im, rs bt rt, lm) := st_5 F hd hi (by omega) (by omega) ht (by rw [Int.toNat_natCast]; exact kk)
theorem ld_8 {M : MS} {G : GS} {ad : Ads} {Y : YS} {post : Option SV → Mem → Prop} {pc t : Nat} {ls : List (Option SV)} {st : List SV} {im : Nat → Nat → Nat → Int} {bt rt : Nat} {lm : Nat → Nat → Nat → Int} {i : Nat} {x : Int} (F : Fx M (XC G) ad Y) (hd : decode Y.2.1 pc = .ok (.iaload, 1)) (hi : i < 4) (h0 : 0 ≤ x) (h1 : x < 40) (ht : t = pc + 1) (kk : Wp M (XC G) ad Y post t ls (vI (im 8 i x.toNat) :: st) (im, rs bt rt, lm)) : Wp M (XC G) ad Y post pc ls (vI x :: vR 8 i :: st) (im, rs bt rt, lm) := wp_iald F hd rfl (by decide) (m_8 hi) h0 h1 ht kk
theorem ldN_8 {M : MS} {G : GS} {ad : Ads} {Y : YS} {post : Option SV → Mem → Prop} {pc t : Nat} {ls : List (Option SV)} {st : List SV} {im : Nat → Nat → Nat → Int} {bt rt : Nat} {lm : Nat → Nat → Nat → Int} {i : Nat} {j : Nat} (F : Fx M (XC G) ad Y) (hd : decode Y.2.1 pc = .ok (.iaload, 1)) (hi : i < 4) (h1 : j < 40) (ht : t = pc + 1) (kk : Wp M (XC G) ad Y post t ls (vI (im 8 i j) :: st) (im, rs bt rt, lm)) : Wp M (XC G) ad Y post pc ls (vI (j : Int) :: vR 8 i :: st) (im, rs bt rt, lm) := ld_8 F hd hi (by omega) (by omega) ht (by rw [Int.toNat_natCast]; exact kk)
theorem st_8 {M : MS} {G : GS} {ad : Ads} {Y : YS} {post : Option SV → Mem → Prop} {pc t : Nat} {ls : List (Option SV)} {st : List SV} {im : Nat → Nat → Nat → Int} {bt rt : Nat} {lm : Nat → Nat → Nat → Int} {i : Nat} {x v : Int} (F : Fx M (XC G) ad Y) (hd : decode Y.2.1 pc = .ok (.iastore, 1)) (hi : i < 4) (h0 : 0 ≤ x) (h1 : x < 40) (ht : t = pc + 1) (kk : Wp M (XC G) ad Y post t ls st (up im 8 i x.toNat v, rs bt rt, lm)) : Wp M (XC G) ad Y post pc ls (vI v :: vI x :: vR 8 i :: st) (im, rs bt rt, lm) := wp_iast F hd rfl (by decide) (m_8 hi) h0 h1 ht kk
theorem stN_8 {M : MS} {G : GS} {ad : Ads} {Y : YS} {post : Option SV → Mem → Prop} {pc t : Nat} {ls : List (Option SV)} {st : List SV} {im : Nat → Nat → Nat → Int} {bt rt : Nat} {lm : Nat → Nat → Nat → Int} {i : Nat} {j : Nat} {v : Int} (F : Fx M (XC G) ad Y) (hd : decode Y.2.1 pc = .ok (.iastore, 1)) (hi : i < 4) (h1 : j < 40) (ht : t = pc + 1) (kk : Wp M (XC G) ad Y post t ls st (up im 8 i j v, rs bt rt, lm)) : Wp M (XC G) ad Y post pc ls (vI v :: vI (j : Int) :: vR 8 i :: st) (im, rs bt rt, lm) := st_8 F hd hi (by omega) (by omega) ht (by rw [Int.toNat_natCast]; exact kk)
theorem ld_10 {M : MS} {G : GS} {ad : Ads} {Y : YS} {post : Option SV → Mem → Prop} {pc t : Nat} {ls : List (Option SV)} {st : List SV} {im : Nat → Nat → Nat → Int} {bt rt : Nat} {lm : Nat → Nat → Nat → Int} {x : Int} (F : Fx M (XC G) ad Y) (hd : decode Y.2.1 pc = .ok (.iaload, 1)) (h0 : 0 ≤ x) (h1 : x < 50) (ht : t = pc + 1) (kk : Wp M (XC G) ad Y post t ls (vI (im 10 0 x.toNat) :: st) (im, rs bt rt, lm)) : Wp M (XC G) ad Y post pc ls (vI x :: vR 10 0 :: st) (im, rs bt rt, lm) := wp_iald F hd rfl (by decide) (m_10 (by decide)) h0 h1 ht kk
theorem ldN_10 {M : MS} {G : GS} {ad : Ads} {Y : YS} {post : Option SV → Mem → Prop} {pc t : Nat} {ls : List (Option SV)} {st : List SV} {im : Nat → Nat → Nat → Int} {bt rt : Nat} {lm : Nat → Nat → Nat → Int} {j : Nat} (F : Fx M (XC G) ad Y) (hd : decode Y.2.1 pc = .ok (.iaload, 1)) (h1 : j < 50) (ht : t = pc + 1) (kk : Wp M (XC G) ad Y post t ls (vI (im 10 0 j) :: st) (im, rs bt rt, lm)) : Wp M (XC G) ad Y post pc ls (vI (j : Int) :: vR 10 0 :: st) (im, rs bt rt, lm) := ld_10 F hd (by omega) (by omega) ht (by rw [Int.toNat_natCast]; exact kk)
theorem st_10 {M : MS} {G : GS} {ad : Ads} {Y : YS} {post : Option SV → Mem → Prop} {pc t : Nat} {ls : List (Option SV)} {st : List SV} {im : Nat → Nat → Nat → Int} {bt rt : Nat} {lm : Nat → Nat → Nat → Int} {x v : Int} (F : Fx M (XC G) ad Y) (hd : decode Y.2.1 pc = .ok (.iastore, 1)) (h0 : 0 ≤ x) (h1 : x < 50) (ht : t = pc + 1) (kk : Wp M (XC G) ad Y post t ls st (up im 10 0 x.toNat v, rs bt rt, lm)) : Wp M (XC G) ad Y post pc ls (vI v :: vI x :: vR 10 0 :: st) (im, rs bt rt, lm) := wp_iast F hd rfl (by decide) (m_10 (by decide)) h0 h1 ht kk
theorem stN_10 {M : MS} {G : GS} {ad : Ads} {Y : YS} {post : Option SV → Mem → Prop} {pc t : Nat} {ls : List (Option SV)} {st : List SV} {im : Nat → Nat → Nat → Int} {bt rt : Nat} {lm : Nat → Nat → Nat → Int} {j : Nat} {v : Int} (F : Fx M (XC G) ad Y) (hd : decode Y.2.1 pc = .ok (.iastore, 1)) (h1 : j < 50) (ht : t = pc + 1) (kk : Wp M (XC G) ad Y post t ls st (up im 10 0 j v, rs bt rt, lm)) : Wp M (XC G) ad Y post pc ls (vI v :: vI (j : Int) :: vR 10 0 :: st) (im, rs bt rt, lm) := st_10 F hd (by omega) (by omega) ht (by rw [Int.toNat_natCast]; exact kk)
theorem ld_11 {M : MS} {G : GS} {ad : Ads} {Y : YS} {post : Option SV → Mem → Prop} {pc t : Nat} {ls : List (Option SV)} {st : List SV} {im : Nat → Nat → Nat → Int} {bt rt : Nat} {lm : Nat → Nat → Nat → Int} {x : Int} (F : Fx M (XC G) ad Y) (hd : decode Y.2.1 pc = .ok (.iaload, 1)) (h0 : 0 ≤ x) (h1 : x < 50) (ht : t = pc + 1) (kk : Wp M (XC G) ad Y post t ls (vI (im 11 0 x.toNat) :: st) (im, rs bt rt, lm)) : Wp M (XC G) ad Y post pc ls (vI x :: vR 11 0 :: st) (im, rs bt rt, lm) := wp_iald F hd rfl (by decide) (m_11 (by decide)) h0 h1 ht kk
theorem ldN_11 {M : MS} {G : GS} {ad : Ads} {Y : YS} {post : Option SV → Mem → Prop} {pc t : Nat} {ls : List (Option SV)} {st : List SV} {im : Nat → Nat → Nat → Int} {bt rt : Nat} {lm : Nat → Nat → Nat → Int} {j : Nat} (F : Fx M (XC G) ad Y) (hd : decode Y.2.1 pc = .ok (.iaload, 1)) (h1 : j < 50) (ht : t = pc + 1) (kk : Wp M (XC G) ad Y post t ls (vI (im 11 0 j) :: st) (im, rs bt rt, lm)) : Wp M (XC G) ad Y post pc ls (vI (j : Int) :: vR 11 0 :: st) (im, rs bt rt, lm) := ld_11 F hd (by omega) (by omega) ht (by rw [Int.toNat_natCast]; exact kk)
theorem st_11 {M : MS} {G : GS} {ad : Ads} {Y : YS} {post : Option SV → Mem → Prop} {pc t : Nat} {ls : List (Option SV)} {st : List SV} {im : Nat → Nat → Nat → Int} {bt rt : Nat} {lm : Nat → Nat → Nat → Int} {x v : Int} (F : Fx M (XC G) ad Y) (hd : decode Y.2.1 pc = .ok (.iastore, 1)) (h0 : 0 ≤ x) (h1 : x < 50) (ht : t = pc + 1) (kk : Wp M (XC G) ad Y post t ls st (up im 11 0 x.toNat v, rs bt rt, lm)) : Wp M (XC G) ad Y post pc ls (vI v :: vI x :: vR 11 0 :: st) (im, rs bt rt, lm) := wp_iast F hd rfl (by decide) (m_11 (by decide)) h0 h1 ht kk
theorem stN_11 {M : MS} {G : GS} {ad : Ads} {Y : YS} {post : Option SV → Mem → Prop} {pc t : Nat} {ls : List (Option SV)} {st : List SV} {im : Nat → Nat → Nat → Int} {bt rt : Nat} {lm : Nat → Nat → Nat → Int} {j : Nat} {v : Int} (F : Fx M (XC G) ad Y) (hd : decode Y.2.1 pc = .ok (.iastore, 1)) (h1 : j < 50) (ht : t = pc + 1) (kk : Wp M (XC G) ad Y post t ls st (up im 11 0 j v, rs bt rt, lm)) : Wp M (XC G) ad Y post pc ls (vI v :: vI (j : Int) :: vR 11 0 :: st) (im, rs bt rt, lm) := st_11 F hd (by omega) (by omega) ht (by rw [Int.toNat_natCast]; exact kk)
theorem ld_12 {M : MS} {G : GS} {ad : Ads} {Y : YS} {post : Option SV → Mem → Prop} {pc t : Nat} {ls : List (Option SV)} {st : List SV} {im : Nat → Nat → Nat → Int} {bt rt : Nat} {lm : Nat → Nat → Nat → Int} {x : Int} (F : Fx M (XC G) ad Y) (hd : decode Y.2.1 pc = .ok (.iaload, 1)) (h0 : 0 ≤ x) (h1 : x < 24) (ht : t = pc + 1) (kk : Wp M (XC G) ad Y post t ls (vI (im 12 0 x.toNat) :: st) (im, rs bt rt, lm)) : Wp M (XC G) ad Y post pc ls (vI x :: vR 12 0 :: st) (im, rs bt rt, lm) := wp_iald F hd rfl (by decide) (m_12 (by decide)) h0 h1 ht kk
theorem ldN_12 {M : MS} {G : GS} {ad : Ads} {Y : YS} {post : Option SV → Mem → Prop} {pc t : Nat} {ls : List (Option SV)} {st : List SV} {im : Nat → Nat → Nat → Int} {bt rt : Nat} {lm : Nat → Nat → Nat → Int} {j : Nat} (F : Fx M (XC G) ad Y) (hd : decode Y.2.1 pc = .ok (.iaload, 1)) (h1 : j < 24) (ht : t = pc + 1) (kk : Wp M (XC G) ad Y post t ls (vI (im 12 0 j) :: st) (im, rs bt rt, lm)) : Wp M (XC G) ad Y post pc ls (vI (j : Int) :: vR 12 0 :: st) (im, rs bt rt, lm) := ld_12 F hd (by omega) (by omega) ht (by rw [Int.toNat_natCast]; exact kk)
theorem st_12 {M : MS} {G : GS} {ad : Ads} {Y : YS} {post : Option SV → Mem → Prop} {pc t : Nat} {ls : List (Option SV)} {st : List SV} {im : Nat → Nat → Nat → Int} {bt rt : Nat} {lm : Nat → Nat → Nat → Int} {x v : Int} (F : Fx M (XC G) ad Y) (hd : decode Y.2.1 pc = .ok (.iastore, 1)) (h0 : 0 ≤ x) (h1 : x < 24) (ht : t = pc + 1) (kk : Wp M (XC G) ad Y post t ls st (up im 12 0 x.toNat v, rs bt rt, lm)) : Wp M (XC G) ad Y post pc ls (vI v :: vI x :: vR 12 0 :: st) (im, rs bt rt, lm) := wp_iast F hd rfl (by decide) (m_12 (by decide)) h0 h1 ht kk
theorem stN_12 {M : MS} {G : GS} {ad : Ads} {Y : YS} {post : Option SV → Mem → Prop} {pc t : Nat} {ls : List (Option SV)} {st : List SV} {im : Nat → Nat → Nat → Int} {bt rt : Nat} {lm : Nat → Nat → Nat → Int} {j : Nat} {v : Int} (F : Fx M (XC G) ad Y) (hd : decode Y.2.1 pc = .ok (.iastore, 1)) (h1 : j < 24) (ht : t = pc + 1) (kk : Wp M (XC G) ad Y post t ls st (up im 12 0 j v, rs bt rt, lm)) : Wp M (XC G) ad Y post pc ls (vI v :: vI (j : Int) :: vR 12 0 :: st) (im, rs bt rt, lm) := st_12 F hd (by omega) (by omega) ht (by rw [Int.toNat_natCast]; exact kk)
theorem ld_13 {M : MS} {G : GS} {ad : Ads} {Y : YS} {post : Option SV → Mem → Prop} {pc t : Nat} {ls : List (Option SV)} {st : List SV} {im : Nat → Nat → Nat → Int} {bt rt : Nat} {lm : Nat → Nat → Nat → Int} {x : Int} (F : Fx M (XC G) ad Y) (hd : decode Y.2.1 pc = .ok (.iaload, 1)) (h0 : 0 ≤ x) (h1 : x < 1024) (ht : t = pc + 1) (kk : Wp M (XC G) ad Y post t ls (vI (im 13 0 x.toNat) :: st) (im, rs bt rt, lm)) : Wp M (XC G) ad Y post pc ls (vI x :: vR 13 0 :: st) (im, rs bt rt, lm) := wp_iald F hd rfl (by decide) (m_13 (by decide)) h0 h1 ht kk
theorem ldN_13 {M : MS} {G : GS} {ad : Ads} {Y : YS} {post : Option SV → Mem → Prop} {pc t : Nat} {ls : List (Option SV)} {st : List SV} {im : Nat → Nat → Nat → Int} {bt rt : Nat} {lm : Nat → Nat → Nat → Int} {j : Nat} (F : Fx M (XC G) ad Y) (hd : decode Y.2.1 pc = .ok (.iaload, 1)) (h1 : j < 1024) (ht : t = pc + 1) (kk : Wp M (XC G) ad Y post t ls (vI (im 13 0 j) :: st) (im, rs bt rt, lm)) : Wp M (XC G) ad Y post pc ls (vI (j : Int) :: vR 13 0 :: st) (im, rs bt rt, lm) := ld_13 F hd (by omega) (by omega) ht (by rw [Int.toNat_natCast]; exact kk)
theorem st_13 {M : MS} {G : GS} {ad : Ads} {Y : YS} {post : Option SV → Mem → Prop} {pc t : Nat} {ls : List (Option SV)} {st : List SV} {im : Nat → Nat → Nat → Int} {bt rt : Nat} {lm : Nat → Nat → Nat → Int} {x v : Int} (F : Fx M (XC G) ad Y) (hd : decode Y.2.1 pc = .ok (.iastore, 1)) (h0 : 0 ≤ x) (h1 : x < 1024) (ht : t = pc + 1) (kk : Wp M (XC G) ad Y post t ls st (up im 13 0 x.toNat v, rs bt rt, lm)) : Wp M (XC G) ad Y post pc ls (vI v :: vI x :: vR 13 0 :: st) (im, rs bt rt, lm) := wp_iast F hd rfl (by decide) (m_13 (by decide)) h0 h1 ht kk
theorem stN_13 {M : MS} {G : GS} {ad : Ads} {Y : YS} {post : Option SV → Mem → Prop} {pc t : Nat} {ls : List (Option SV)} {st : List SV} {im : Nat → Nat → Nat → Int} {bt rt : Nat} {lm : Nat → Nat → Nat → Int} {j : Nat} {v : Int} (F : Fx M (XC G) ad Y) (hd : decode Y.2.1 pc = .ok (.iastore, 1)) (h1 : j < 1024) (ht : t = pc + 1) (kk : Wp M (XC G) ad Y post t ls st (up im 13 0 j v, rs bt rt, lm)) : Wp M (XC G) ad Y post pc ls (vI v :: vI (j : Int) :: vR 13 0 :: st) (im, rs bt rt, lm) := st_13 F hd (by omega) (by omega) ht (by rw [Int.toNat_natCast]; exact kk)
theorem ld_15 {M : MS} {G : GS} {ad : Ads} {Y : YS} {post : Option SV → Mem → Prop} {pc t : Nat} {ls : List (Option SV)} {st : List SV} {im : Nat → Nat → Nat → Int} {bt rt : Nat} {lm : Nat → Nat → Nat → Int} {x : Int} (F : Fx M (XC G) ad Y) (hd : decode Y.2.1 pc = .ok (.iaload, 1)) (h0 : 0 ≤ x) (h1 : x < 160) (ht : t = pc + 1) (kk : Wp M (XC G) ad Y post t ls (vI (im 15 0 x.toNat) :: st) (im, rs bt rt, lm)) : Wp M (XC G) ad Y post pc ls (vI x :: vR 15 0 :: st) (im, rs bt rt, lm) := wp_iald F hd rfl (by decide) (m_15 (by decide)) h0 h1 ht kk
theorem ldN_15 {M : MS} {G : GS} {ad : Ads} {Y : YS} {post : Option SV → Mem → Prop} {pc t : Nat} {ls : List (Option SV)} {st : List SV} {im : Nat → Nat → Nat → Int} {bt rt : Nat} {lm : Nat → Nat → Nat → Int} {j : Nat} (F : Fx M (XC G) ad Y) (hd : decode Y.2.1 pc = .ok (.iaload, 1)) (h1 : j < 160) (ht : t = pc + 1) (kk : Wp M (XC G) ad Y post t ls (vI (im 15 0 j) :: st) (im, rs bt rt, lm)) : Wp M (XC G) ad Y post pc ls (vI (j : Int) :: vR 15 0 :: st) (im, rs bt rt, lm) := ld_15 F hd (by omega) (by omega) ht (by rw [Int.toNat_natCast]; exact kk)
theorem st_15 {M : MS} {G : GS} {ad : Ads} {Y : YS} {post : Option SV → Mem → Prop} {pc t : Nat} {ls : List (Option SV)} {st : List SV} {im : Nat → Nat → Nat → Int} {bt rt : Nat} {lm : Nat → Nat → Nat → Int} {x v : Int} (F : Fx M (XC G) ad Y) (hd : decode Y.2.1 pc = .ok (.iastore, 1)) (h0 : 0 ≤ x) (h1 : x < 160) (ht : t = pc + 1) (kk : Wp M (XC G) ad Y post t ls st (up im 15 0 x.toNat v, rs bt rt, lm)) : Wp M (XC G) ad Y post pc ls (vI v :: vI x :: vR 15 0 :: st) (im, rs bt rt, lm) := wp_iast F hd rfl (by decide) (m_15 (by decide)) h0 h1 ht kk
theorem ld_17 {M : MS} {G : GS} {ad : Ads} {Y : YS} {post : Option SV → Mem → Prop} {pc t : Nat} {ls : List (Option SV)} {st : List SV} {im : Nat → Nat → Nat → Int} {bt rt : Nat} {lm : Nat → Nat → Nat → Int} {x : Int} (F : Fx M (XC G) ad Y) (hd : decode Y.2.1 pc = .ok (.iaload, 1)) (h0 : 0 ≤ x) (h1 : x < 6) (ht : t = pc + 1) (kk : Wp M (XC G) ad Y post t ls (vI (im 17 0 x.toNat) :: st) (im, rs bt rt, lm)) : Wp M (XC G) ad Y post pc ls (vI x :: vR 17 0 :: st) (im, rs bt rt, lm) := wp_iald F hd rfl (by decide) (m_17 (by decide)) h0 h1 ht kk
theorem ldN_17 {M : MS} {G : GS} {ad : Ads} {Y : YS} {post : Option SV → Mem → Prop} {pc t : Nat} {ls : List (Option SV)} {st : List SV} {im : Nat → Nat → Nat → Int} {bt rt : Nat} {lm : Nat → Nat → Nat → Int} {j : Nat} (F : Fx M (XC G) ad Y) (hd : decode Y.2.1 pc = .ok (.iaload, 1)) (h1 : j < 6) (ht : t = pc + 1) (kk : Wp M (XC G) ad Y post t ls (vI (im 17 0 j) :: st) (im, rs bt rt, lm)) : Wp M (XC G) ad Y post pc ls (vI (j : Int) :: vR 17 0 :: st) (im, rs bt rt, lm) := ld_17 F hd (by omega) (by omega) ht (by rw [Int.toNat_natCast]; exact kk)
theorem st_17 {M : MS} {G : GS} {ad : Ads} {Y : YS} {post : Option SV → Mem → Prop} {pc t : Nat} {ls : List (Option SV)} {st : List SV} {im : Nat → Nat → Nat → Int} {bt rt : Nat} {lm : Nat → Nat → Nat → Int} {x v : Int} (F : Fx M (XC G) ad Y) (hd : decode Y.2.1 pc = .ok (.iastore, 1)) (h0 : 0 ≤ x) (h1 : x < 6) (ht : t = pc + 1) (kk : Wp M (XC G) ad Y post t ls st (up im 17 0 x.toNat v, rs bt rt, lm)) : Wp M (XC G) ad Y post pc ls (vI v :: vI x :: vR 17 0 :: st) (im, rs bt rt, lm) := wp_iast F hd rfl (by decide) (m_17 (by decide)) h0 h1 ht kk
theorem stN_17 {M : MS} {G : GS} {ad : Ads} {Y : YS} {post : Option SV → Mem → Prop} {pc t : Nat} {ls : List (Option SV)} {st : List SV} {im : Nat → Nat → Nat → Int} {bt rt : Nat} {lm : Nat → Nat → Nat → Int} {j : Nat} {v : Int} (F : Fx M (XC G) ad Y) (hd : decode Y.2.1 pc = .ok (.iastore, 1)) (h1 : j < 6) (ht : t = pc + 1) (kk : Wp M (XC G) ad Y post t ls st (up im 17 0 j v, rs bt rt, lm)) : Wp M (XC G) ad Y post pc ls (vI v :: vI (j : Int) :: vR 17 0 :: st) (im, rs bt rt, lm) := st_17 F hd (by omega) (by omega) ht (by rw [Int.toNat_natCast]; exact kk)
theorem ld_20 {M : MS} {G : GS} {ad : Ads} {Y : YS} {post : Option SV → Mem → Prop} {pc t : Nat} {ls : List (Option SV)} {st : List SV} {im : Nat → Nat → Nat → Int} {bt rt : Nat} {lm : Nat → Nat → Nat → Int} {i : Nat} {x : Int} (F : Fx M (XC G) ad Y) (hd : decode Y.2.1 pc = .ok (.iaload, 1)) (hi : i < 3) (h0 : 0 ≤ x) (h1 : x < 6) (ht : t = pc + 1) (kk : Wp M (XC G) ad Y post t ls (vI (im 20 i x.toNat) :: st) (im, rs bt rt, lm)) : Wp M (XC G) ad Y post pc ls (vI x :: vR 20 i :: st) (im, rs bt rt, lm) := wp_iald F hd rfl (by decide) (m_20 hi) h0 h1 ht kk
theorem ldN_20 {M : MS} {G : GS} {ad : Ads} {Y : YS} {post : Option SV → Mem → Prop} {pc t : Nat} {ls : List (Option SV)} {st : List SV} {im : Nat → Nat → Nat → Int} {bt rt : Nat} {lm : Nat → Nat → Nat → Int} {i : Nat} {j : Nat} (F : Fx M (XC G) ad Y) (hd : decode Y.2.1 pc = .ok (.iaload, 1)) (hi : i < 3) (h1 : j < 6) (ht : t = pc + 1) (kk : Wp M (XC G) ad Y post t ls (vI (im 20 i j) :: st) (im, rs bt rt, lm)) : Wp M (XC G) ad Y post pc ls (vI (j : Int) :: vR 20 i :: st) (im, rs bt rt, lm) := ld_20 F hd hi (by omega) (by omega) ht (by rw [Int.toNat_natCast]; exact kk)
theorem st_20 {M : MS} {G : GS} {ad : Ads} {Y : YS} {post : Option SV → Mem → Prop} {pc t : Nat} {ls : List (Option SV)} {st : List SV} {im : Nat → Nat → Nat → Int} {bt rt : Nat} {lm : Nat → Nat → Nat → Int} {i : Nat} {x v : Int} (F : Fx M (XC G) ad Y) (hd : decode Y.2.1 pc = .ok (.iastore, 1)) (hi : i < 3) (h0 : 0 ≤ x) (h1 : x < 6) (ht : t = pc + 1) (kk : Wp M (XC G) ad Y post t ls st (up im 20 i x.toNat v, rs bt rt, lm)) : Wp M (XC G) ad Y post pc ls (vI v :: vI x :: vR 20 i :: st) (im, rs bt rt, lm) := wp_iast F hd rfl (by decide) (m_20 hi) h0 h1 ht kk
theorem stN_20 {M : MS} {G : GS} {ad : Ads} {Y : YS} {post : Option SV → Mem → Prop} {pc t : Nat} {ls : List (Option SV)} {st : List SV} {im : Nat → Nat → Nat → Int} {bt rt : Nat} {lm : Nat → Nat → Nat → Int} {i : Nat} {j : Nat} {v : Int} (F : Fx M (XC G) ad Y) (hd : decode Y.2.1 pc = .ok (.iastore, 1)) (hi : i < 3) (h1 : j < 6) (ht : t = pc + 1) (kk : Wp M (XC G) ad Y post t ls st (up im 20 i j v, rs bt rt, lm)) : Wp M (XC G) ad Y post pc ls (vI v :: vI (j : Int) :: vR 20 i :: st) (im, rs bt rt, lm) := st_20 F hd hi (by omega) (by omega) ht (by rw [Int.toNat_natCast]; exact kk)
theorem ld_22 {M : MS} {G : GS} {ad : Ads} {Y : YS} {post : Option SV → Mem → Prop} {pc t : Nat} {ls : List (Option SV)} {st : List SV} {im : Nat → Nat → Nat → Int} {bt rt : Nat} {lm : Nat → Nat → Nat → Int} {i : Nat} {x : Int} (F : Fx M (XC G) ad Y) (hd : decode Y.2.1 pc = .ok (.iaload, 1)) (hi : i < 15) (h0 : 0 ≤ x) (h1 : x < 10) (ht : t = pc + 1) (kk : Wp M (XC G) ad Y post t ls (vI (im 22 i x.toNat) :: st) (im, rs bt rt, lm)) : Wp M (XC G) ad Y post pc ls (vI x :: vR 22 i :: st) (im, rs bt rt, lm) := wp_iald F hd rfl (by decide) (m_22 hi) h0 h1 ht kk
theorem ldN_22 {M : MS} {G : GS} {ad : Ads} {Y : YS} {post : Option SV → Mem → Prop} {pc t : Nat} {ls : List (Option SV)} {st : List SV} {im : Nat → Nat → Nat → Int} {bt rt : Nat} {lm : Nat → Nat → Nat → Int} {i : Nat} {j : Nat} (F : Fx M (XC G) ad Y) (hd : decode Y.2.1 pc = .ok (.iaload, 1)) (hi : i < 15) (h1 : j < 10) (ht : t = pc + 1) (kk : Wp M (XC G) ad Y post t ls (vI (im 22 i j) :: st) (im, rs bt rt, lm)) : Wp M (XC G) ad Y post pc ls (vI (j : Int) :: vR 22 i :: st) (im, rs bt rt, lm) := ld_22 F hd hi (by omega) (by omega) ht (by rw [Int.toNat_natCast]; exact kk)
theorem st_22 {M : MS} {G : GS} {ad : Ads} {Y : YS} {post : Option SV → Mem → Prop} {pc t : Nat} {ls : List (Option SV)} {st : List SV} {im : Nat → Nat → Nat → Int} {bt rt : Nat} {lm : Nat → Nat → Nat → Int} {i : Nat} {x v : Int} (F : Fx M (XC G) ad Y) (hd : decode Y.2.1 pc = .ok (.iastore, 1)) (hi : i < 15) (h0 : 0 ≤ x) (h1 : x < 10) (ht : t = pc + 1) (kk : Wp M (XC G) ad Y post t ls st (up im 22 i x.toNat v, rs bt rt, lm)) : Wp M (XC G) ad Y post pc ls (vI v :: vI x :: vR 22 i :: st) (im, rs bt rt, lm) := wp_iast F hd rfl (by decide) (m_22 hi) h0 h1 ht kk
theorem stN_22 {M : MS} {G : GS} {ad : Ads} {Y : YS} {post : Option SV → Mem → Prop} {pc t : Nat} {ls : List (Option SV)} {st : List SV} {im : Nat → Nat → Nat → Int} {bt rt : Nat} {lm : Nat → Nat → Nat → Int} {i : Nat} {j : Nat} {v : Int} (F : Fx M (XC G) ad Y) (hd : decode Y.2.1 pc = .ok (.iastore, 1)) (hi : i < 15) (h1 : j < 10) (ht : t = pc + 1) (kk : Wp M (XC G) ad Y post t ls st (up im 22 i j v, rs bt rt, lm)) : Wp M (XC G) ad Y post pc ls (vI v :: vI (j : Int) :: vR 22 i :: st) (im, rs bt rt, lm) := st_22 F hd hi (by omega) (by omega) ht (by rw [Int.toNat_natCast]; exact kk)
theorem ld_23 {M : MS} {G : GS} {ad : Ads} {Y : YS} {post : Option SV → Mem → Prop} {pc t : Nat} {ls : List (Option SV)} {st : List SV} {im : Nat → Nat → Nat → Int} {bt rt : Nat} {lm : Nat → Nat → Nat → Int} {i : Nat} {x : Int} (F : Fx M (XC G) ad Y) (hd : decode Y.2.1 pc = .ok (.iaload, 1)) (hi : i < 15) (h0 : 0 ≤ x) (h1 : x < 10) (ht : t = pc + 1) (kk : Wp M (XC G) ad Y post t ls (vI (im 23 i x.toNat) :: st) (im, rs bt rt, lm)) : Wp M (XC G) ad Y post pc ls (vI x :: vR 23 i :: st) (im, rs bt rt, lm) := wp_iald F hd rfl (by decide) (m_23 hi) h0 h1 ht kk
theorem ldN_23 {M : MS} {G : GS} {ad : Ads} {Y : YS} {post : Option SV → Mem → Prop} {pc t : Nat} {ls : List (Option SV)} {st : List SV} {im : Nat → Nat → Nat → Int} {bt rt : Nat} {lm : Nat → Nat → Nat → Int} {i : Nat} {j : Nat} (F : Fx M (XC G) ad Y) (hd : decode Y.2.1 pc = .ok (.iaload, 1)) (hi : i < 15) (h1 : j < 10) (ht : t = pc + 1) (kk : Wp M (XC G) ad Y post t ls (vI (im 23 i j) :: st) (im, rs bt rt, lm)) : Wp M (XC G) ad Y post pc ls (vI (j : Int) :: vR 23 i :: st) (im, rs bt rt, lm) := ld_23 F hd hi (by omega) (by omega) ht (by rw [Int.toNat_natCast]; exact kk)
theorem st_23 {M : MS} {G : GS} {ad : Ads} {Y : YS} {post : Option SV → Mem → Prop} {pc t : Nat} {ls : List (Option SV)} {st : List SV} {im : Nat → Nat → Nat → Int} {bt rt : Nat} {lm : Nat → Nat → Nat → Int} {i : Nat} {x v : Int} (F : Fx M (XC G) ad Y) (hd : decode Y.2.1 pc = .ok (.iastore, 1)) (hi : i < 15) (h0 : 0 ≤ x) (h1 : x < 10) (ht : t = pc + 1) (kk : Wp M (XC G) ad Y post t ls st (up im 23 i x.toNat v, rs bt rt, lm)) : Wp M (XC G) ad Y post pc ls (vI v :: vI x :: vR 23 i :: st) (im, rs bt rt, lm) := wp_iast F hd rfl (by decide) (m_23 hi) h0 h1 ht kk
theorem stN_23 {M : MS} {G : GS} {ad : Ads} {Y : YS} {post : Option SV → Mem → Prop} {pc t : Nat} {ls : List (Option SV)} {st : List SV} {im : Nat → Nat → Nat → Int} {bt rt : Nat} {lm : Nat → Nat → Nat → Int} {i : Nat} {j : Nat} {v : Int} (F : Fx M (XC G) ad Y) (hd : decode Y.2.1 pc = .ok (.iastore, 1)) (hi : i < 15) (h1 : j < 10) (ht : t = pc + 1) (kk : Wp M (XC G) ad Y post t ls st (up im 23 i j v, rs bt rt, lm)) : Wp M (XC G) ad Y post pc ls (vI v :: vI (j : Int) :: vR 23 i :: st) (im, rs bt rt, lm) := st_23 F hd hi (by omega) (by omega) ht (by rw [Int.toNat_natCast]; exact kk)
theorem ld_31 {M : MS} {G : GS} {ad : Ads} {Y : YS} {post : Option SV → Mem → Prop} {pc t : Nat} {ls : List (Option SV)} {st : List SV} {im : Nat → Nat → Nat → Int} {bt rt : Nat} {lm : Nat → Nat → Nat → Int} {x : Int} (F : Fx M (XR G) ad Y) (hd : decode Y.2.1 pc = .ok (.iaload, 1)) (h0 : 0 ≤ x) (h1 : x < 960) (ht : t = pc + 1) (kk : Wp M (XR G) ad Y post t ls (vI (im 31 0 x.toNat) :: st) (im, rs bt rt, lm)) : Wp M (XR G) ad Y post pc ls (vI x :: vR 31 0 :: st) (im, rs bt rt, lm) := wp_iald F hd rfl (by decide) (m_31 (by decide)) h0 h1 ht kk
theorem ldN_31 {M : MS} {G : GS} {ad : Ads} {Y : YS} {post : Option SV → Mem → Prop} {pc t : Nat} {ls : List (Option SV)} {st : List SV} {im : Nat → Nat → Nat → Int} {bt rt : Nat} {lm : Nat → Nat → Nat → Int} {j : Nat} (F : Fx M (XR G) ad Y) (hd : decode Y.2.1 pc = .ok (.iaload, 1)) (h1 : j < 960) (ht : t = pc + 1) (kk : Wp M (XR G) ad Y post t ls (vI (im 31 0 j) :: st) (im, rs bt rt, lm)) : Wp M (XR G) ad Y post pc ls (vI (j : Int) :: vR 31 0 :: st) (im, rs bt rt, lm) := ld_31 F hd (by omega) (by omega) ht (by rw [Int.toNat_natCast]; exact kk)
theorem st_31 {M : MS} {G : GS} {ad : Ads} {Y : YS} {post : Option SV → Mem → Prop} {pc t : Nat} {ls : List (Option SV)} {st : List SV} {im : Nat → Nat → Nat → Int} {bt rt : Nat} {lm : Nat → Nat → Nat → Int} {x v : Int} (F : Fx M (XR G) ad Y) (hd : decode Y.2.1 pc = .ok (.iastore, 1)) (h0 : 0 ≤ x) (h1 : x < 960) (ht : t = pc + 1) (kk : Wp M (XR G) ad Y post t ls st (up im 31 0 x.toNat v, rs bt rt, lm)) : Wp M (XR G) ad Y post pc ls (vI v :: vI x :: vR 31 0 :: st) (im, rs bt rt, lm) := wp_iast F hd rfl (by decide) (m_31 (by decide)) h0 h1 ht kk
theorem stN_31 {M : MS} {G : GS} {ad : Ads} {Y : YS} {post : Option SV → Mem → Prop} {pc t : Nat} {ls : List (Option SV)} {st : List SV} {im : Nat → Nat → Nat → Int} {bt rt : Nat} {lm : Nat → Nat → Nat → Int} {j : Nat} {v : Int} (F : Fx M (XR G) ad Y) (hd : decode Y.2.1 pc = .ok (.iastore, 1)) (h1 : j < 960) (ht : t = pc + 1) (kk : Wp M (XR G) ad Y post t ls st (up im 31 0 j v, rs bt rt, lm)) : Wp M (XR G) ad Y post pc ls (vI v :: vI (j : Int) :: vR 31 0 :: st) (im, rs bt rt, lm) := st_31 F hd (by omega) (by omega) ht (by rw [Int.toNat_natCast]; exact kk)
theorem ld_32 {M : MS} {G : GS} {ad : Ads} {Y : YS} {post : Option SV → Mem → Prop} {pc t : Nat} {ls : List (Option SV)} {st : List SV} {im : Nat → Nat → Nat → Int} {bt rt : Nat} {lm : Nat → Nat → Nat → Int} {x : Int} (F : Fx M (XR G) ad Y) (hd : decode Y.2.1 pc = .ok (.iaload, 1)) (h0 : 0 ≤ x) (h1 : x < 6) (ht : t = pc + 1) (kk : Wp M (XR G) ad Y post t ls (vI (im 32 0 x.toNat) :: st) (im, rs bt rt, lm)) : Wp M (XR G) ad Y post pc ls (vI x :: vR 32 0 :: st) (im, rs bt rt, lm) := wp_iald F hd rfl (by decide) (m_32 (by decide)) h0 h1 ht kk
theorem ldN_32 {M : MS} {G : GS} {ad : Ads} {Y : YS} {post : Option SV → Mem → Prop} {pc t : Nat} {ls : List (Option SV)} {st : List SV} {im : Nat → Nat → Nat → Int} {bt rt : Nat} {lm : Nat → Nat → Nat → Int} {j : Nat} (F : Fx M (XR G) ad Y) (hd : decode Y.2.1 pc = .ok (.iaload, 1)) (h1 : j < 6) (ht : t = pc + 1) (kk : Wp M (XR G) ad Y post t ls (vI (im 32 0 j) :: st) (im, rs bt rt, lm)) : Wp M (XR G) ad Y post pc ls (vI (j : Int) :: vR 32 0 :: st) (im, rs bt rt, lm) := ld_32 F hd (by omega) (by omega) ht (by rw [Int.toNat_natCast]; exact kk)
theorem st_32 {M : MS} {G : GS} {ad : Ads} {Y : YS} {post : Option SV → Mem → Prop} {pc t : Nat} {ls : List (Option SV)} {st : List SV} {im : Nat → Nat → Nat → Int} {bt rt : Nat} {lm : Nat → Nat → Nat → Int} {x v : Int} (F : Fx M (XR G) ad Y) (hd : decode Y.2.1 pc = .ok (.iastore, 1)) (h0 : 0 ≤ x) (h1 : x < 6) (ht : t = pc + 1) (kk : Wp M (XR G) ad Y post t ls st (up im 32 0 x.toNat v, rs bt rt, lm)) : Wp M (XR G) ad Y post pc ls (vI v :: vI x :: vR 32 0 :: st) (im, rs bt rt, lm) := wp_iast F hd rfl (by decide) (m_32 (by decide)) h0 h1 ht kk
theorem stN_32 {M : MS} {G : GS} {ad : Ads} {Y : YS} {post : Option SV → Mem → Prop} {pc t : Nat} {ls : List (Option SV)} {st : List SV} {im : Nat → Nat → Nat → Int} {bt rt : Nat} {lm : Nat → Nat → Nat → Int} {j : Nat} {v : Int} (F : Fx M (XR G) ad Y) (hd : decode Y.2.1 pc = .ok (.iastore, 1)) (h1 : j < 6) (ht : t = pc + 1) (kk : Wp M (XR G) ad Y post t ls st (up im 32 0 j v, rs bt rt, lm)) : Wp M (XR G) ad Y post pc ls (vI v :: vI (j : Int) :: vR 32 0 :: st) (im, rs bt rt, lm) := st_32 F hd (by omega) (by omega) ht (by rw [Int.toNat_natCast]; exact kk)
theorem ld_33 {M : MS} {G : GS} {ad : Ads} {Y : YS} {post : Option SV → Mem → Prop} {pc t : Nat} {ls : List (Option SV)} {st : List SV} {im : Nat → Nat → Nat → Int} {bt rt : Nat} {lm : Nat → Nat → Nat → Int} {x : Int} (F : Fx M (XR G) ad Y) (hd : decode Y.2.1 pc = .ok (.iaload, 1)) (h0 : 0 ≤ x) (h1 : x < 160) (ht : t = pc + 1) (kk : Wp M (XR G) ad Y post t ls (vI (im 33 0 x.toNat) :: st) (im, rs bt rt, lm)) : Wp M (XR G) ad Y post pc ls (vI x :: vR 33 0 :: st) (im, rs bt rt, lm) := wp_iald F hd rfl (by decide) (m_33 (by decide)) h0 h1 ht kk
theorem ldN_33 {M : MS} {G : GS} {ad : Ads} {Y : YS} {post : Option SV → Mem → Prop} {pc t : Nat} {ls : List (Option SV)} {st : List SV} {im : Nat → Nat → Nat → Int} {bt rt : Nat} {lm : Nat → Nat → Nat → Int} {j : Nat} (F : Fx M (XR G) ad Y) (hd : decode Y.2.1 pc = .ok (.iaload, 1)) (h1 : j < 160) (ht : t = pc + 1) (kk : Wp M (XR G) ad Y post t ls (vI (im 33 0 j) :: st) (im, rs bt rt, lm)) : Wp M (XR G) ad Y post pc ls (vI (j : Int) :: vR 33 0 :: st) (im, rs bt rt, lm) := ld_33 F hd (by omega) (by omega) ht (by rw [Int.toNat_natCast]; exact kk)
theorem st_33 {M : MS} {G : GS} {ad : Ads} {Y : YS} {post : Option SV → Mem → Prop} {pc t : Nat} {ls : List (Option SV)} {st : List SV} {im : Nat → Nat → Nat → Int} {bt rt : Nat} {lm : Nat → Nat → Nat → Int} {x v : Int} (F : Fx M (XR G) ad Y) (hd : decode Y.2.1 pc = .ok (.iastore, 1)) (h0 : 0 ≤ x) (h1 : x < 160) (ht : t = pc + 1) (kk : Wp M (XR G) ad Y post t ls st (up im 33 0 x.toNat v, rs bt rt, lm)) : Wp M (XR G) ad Y post pc ls (vI v :: vI x :: vR 33 0 :: st) (im, rs bt rt, lm) := wp_iast F hd rfl (by decide) (m_33 (by decide)) h0 h1 ht kk
theorem stN_33 {M : MS} {G : GS} {ad : Ads} {Y : YS} {post : Option SV → Mem → Prop} {pc t : Nat} {ls : List (Option SV)} {st : List SV} {im : Nat → Nat → Nat → Int} {bt rt : Nat} {lm : Nat → Nat → Nat → Int} {j : Nat} {v : Int} (F : Fx M (XR G) ad Y) (hd : decode Y.2.1 pc = .ok (.iastore, 1)) (h1 : j < 160) (ht : t = pc + 1) (kk : Wp M (XR G) ad Y post t ls st (up im 33 0 j v, rs bt rt, lm)) : Wp M (XR G) ad Y post pc ls (vI v :: vI (j : Int) :: vR 33 0 :: st) (im, rs bt rt, lm) := st_33 F hd (by omega) (by omega) ht (by rw [Int.toNat_natCast]; exact kk)
theorem ld_34 {M : MS} {G : GS} {ad : Ads} {Y : YS} {post : Option SV → Mem → Prop} {pc t : Nat} {ls : List (Option SV)} {st : List SV} {im : Nat → Nat → Nat → Int} {bt rt : Nat} {lm : Nat → Nat → Nat → Int} {x : Int} (F : Fx M (XR G) ad Y) (hd : decode Y.2.1 pc = .ok (.iaload, 1)) (h0 : 0 ≤ x) (h1 : x < 5) (ht : t = pc + 1) (kk : Wp M (XR G) ad Y post t ls (vI (im 34 0 x.toNat) :: st) (im, rs bt rt, lm)) : Wp M (XR G) ad Y post pc ls (vI x :: vR 34 0 :: st) (im, rs bt rt, lm) := wp_iald F hd rfl (by decide) (m_34 (by decide)) h0 h1 ht kk
theorem ldN_34 {M : MS} {G : GS} {ad : Ads} {Y : YS} {post : Option SV → Mem → Prop} {pc t : Nat} {ls : List (Option SV)} {st : List SV} {im : Nat → Nat → Nat → Int} {bt rt : Nat} {lm : Nat → Nat → Nat → Int} {j : Nat} (F : Fx M (XR G) ad Y) (hd : decode Y.2.1 pc = .ok (.iaload, 1)) (h1 : j < 5) (ht : t = pc + 1) (kk : Wp M (XR G) ad Y post t ls (vI (im 34 0 j) :: st) (im, rs bt rt, lm)) : Wp M (XR G) ad Y post pc ls (vI (j : Int) :: vR 34 0 :: st) (im, rs bt rt, lm) := ld_34 F hd (by omega) (by omega) ht (by rw [Int.toNat_natCast]; exact kk)
theorem st_34 {M : MS} {G : GS} {ad : Ads} {Y : YS} {post : Option SV → Mem → Prop} {pc t : Nat} {ls : List (Option SV)} {st : List SV} {im : Nat → Nat → Nat → Int} {bt rt : Nat} {lm : Nat → Nat → Nat → Int} {x v : Int} (F : Fx M (XR G) ad Y) (hd : decode Y.2.1 pc = .ok (.iastore, 1)) (h0 : 0 ≤ x) (h1 : x < 5) (ht : t = pc + 1) (kk : Wp M (XR G) ad Y post t ls st (up im 34 0 x.toNat v, rs bt rt, lm)) : Wp M (XR G) ad Y post pc ls (vI v :: vI x :: vR 34 0 :: st) (im, rs bt rt, lm) := wp_iast F hd rfl (by decide) (m_34 (by decide)) h0 h1 ht kk
theorem stN_34 {M : MS} {G : GS} {ad : Ads} {Y : YS} {post : Option SV → Mem → Prop} {pc t : Nat} {ls : List (Option SV)} {st : List SV} {im : Nat → Nat → Nat → Int} {bt rt : Nat} {lm : Nat → Nat → Nat → Int} {j : Nat} {v : Int} (F : Fx M (XR G) ad Y) (hd : decode Y.2.1 pc = .ok (.iastore, 1)) (h1 : j < 5) (ht : t = pc + 1) (kk : Wp M (XR G) ad Y post t ls st (up im 34 0 j v, rs bt rt, lm)) : Wp M (XR G) ad Y post pc ls (vI v :: vI (j : Int) :: vR 34 0 :: st) (im, rs bt rt, lm) := st_34 F hd (by omega) (by omega) ht (by rw [Int.toNat_natCast]; exact kk)
theorem ld_35 {M : MS} {G : GS} {ad : Ads} {Y : YS} {post : Option SV → Mem → Prop} {pc t : Nat} {ls : List (Option SV)} {st : List SV} {im : Nat → Nat → Nat → Int} {bt rt : Nat} {lm : Nat → Nat → Nat → Int} {x : Int} (F : Fx M (XR G) ad Y) (hd : decode Y.2.1 pc = .ok (.iaload, 1)) (h0 : 0 ≤ x) (h1 : x < 5) (ht : t = pc + 1) (kk : Wp M (XR G) ad Y post t ls (vI (im 35 0 x.toNat) :: st) (im, rs bt rt, lm)) : Wp M (XR G) ad Y post pc ls (vI x :: vR 35 0 :: st) (im, rs bt rt, lm) := wp_iald F hd rfl (by decide) (m_35 (by decide)) h0 h1 ht kk
theorem ldN_35 {M : MS} {G : GS} {ad : Ads} {Y : YS} {post : Option SV → Mem → Prop} {pc t : Nat} {ls : List (Option SV)} {st : List SV} {im : Nat → Nat → Nat → Int} {bt rt : Nat} {lm : Nat → Nat → Nat → Int} {j : Nat} (F : Fx M (XR G) ad Y) (hd : decode Y.2.1 pc = .ok (.iaload, 1)) (h1 : j < 5) (ht : t = pc + 1) (kk : Wp M (XR G) ad Y post t ls (vI (im 35 0 j) :: st) (im, rs bt rt, lm)) : Wp M (XR G) ad Y post pc ls (vI (j : Int) :: vR 35 0 :: st) (im, rs bt rt, lm) := ld_35 F hd (by omega) (by omega) ht (by rw [Int.toNat_natCast]; exact kk)
theorem st_35 {M : MS} {G : GS} {ad : Ads} {Y : YS} {post : Option SV → Mem → Prop} {pc t : Nat} {ls : List (Option SV)} {st : List SV} {im : Nat → Nat → Nat → Int} {bt rt : Nat} {lm : Nat → Nat → Nat → Int} {x v : Int} (F : Fx M (XR G) ad Y) (hd : decode Y.2.1 pc = .ok (.iastore, 1)) (h0 : 0 ≤ x) (h1 : x < 5) (ht : t = pc + 1) (kk : Wp M (XR G) ad Y post t ls st (up im 35 0 x.toNat v, rs bt rt, lm)) : Wp M (XR G) ad Y post pc ls (vI v :: vI x :: vR 35 0 :: st) (im, rs bt rt, lm) := wp_iast F hd rfl (by decide) (m_35 (by decide)) h0 h1 ht kk
theorem stN_35 {M : MS} {G : GS} {ad : Ads} {Y : YS} {post : Option SV → Mem → Prop} {pc t : Nat} {ls : List (Option SV)} {st : List SV} {im : Nat → Nat → Nat → Int} {bt rt : Nat} {lm : Nat → Nat → Nat → Int} {j : Nat} {v : Int} (F : Fx M (XR G) ad Y) (hd : decode Y.2.1 pc = .ok (.iastore, 1)) (h1 : j < 5) (ht : t = pc + 1) (kk : Wp M (XR G) ad Y post t ls st (up im 35 0 j v, rs bt rt, lm)) : Wp M (XR G) ad Y post pc ls (vI v :: vI (j : Int) :: vR 35 0 :: st) (im, rs bt rt, lm) := st_35 F hd (by omega) (by omega) ht (by rw [Int.toNat_natCast]; exact kk)
theorem ld_36 {M : MS} {G : GS} {ad : Ads} {Y : YS} {post : Option SV → Mem → Prop} {pc t : Nat} {ls : List (Option SV)} {st : List SV} {im : Nat → Nat → Nat → Int} {bt rt : Nat} {lm : Nat → Nat → Nat → Int} {x : Int} (F : Fx M (XR G) ad Y) (hd : decode Y.2.1 pc = .ok (.iaload, 1)) (h0 : 0 ≤ x) (h1 : x < 50) (ht : t = pc + 1) (kk : Wp M (XR G) ad Y post t ls (vI (im 36 0 x.toNat) :: st) (im, rs bt rt, lm)) : Wp M (XR G) ad Y post pc ls (vI x :: vR 36 0 :: st) (im, rs bt rt, lm) := wp_iald F hd rfl (by decide) (m_36 (by decide)) h0 h1 ht kk
theorem ldN_36 {M : MS} {G : GS} {ad : Ads} {Y : YS} {post : Option SV → Mem → Prop} {pc t : Nat} {ls : List (Option SV)} {st : List SV} {im : Nat → Nat → Nat → Int} {bt rt : Nat} {lm : Nat → Nat → Nat → Int} {j : Nat} (F : Fx M (XR G) ad Y) (hd : decode Y.2.1 pc = .ok (.iaload, 1)) (h1 : j < 50) (ht : t = pc + 1) (kk : Wp M (XR G) ad Y post t ls (vI (im 36 0 j) :: st) (im, rs bt rt, lm)) : Wp M (XR G) ad Y post pc ls (vI (j : Int) :: vR 36 0 :: st) (im, rs bt rt, lm) := ld_36 F hd (by omega) (by omega) ht (by rw [Int.toNat_natCast]; exact kk)
theorem st_36 {M : MS} {G : GS} {ad : Ads} {Y : YS} {post : Option SV → Mem → Prop} {pc t : Nat} {ls : List (Option SV)} {st : List SV} {im : Nat → Nat → Nat → Int} {bt rt : Nat} {lm : Nat → Nat → Nat → Int} {x v : Int} (F : Fx M (XR G) ad Y) (hd : decode Y.2.1 pc = .ok (.iastore, 1)) (h0 : 0 ≤ x) (h1 : x < 50) (ht : t = pc + 1) (kk : Wp M (XR G) ad Y post t ls st (up im 36 0 x.toNat v, rs bt rt, lm)) : Wp M (XR G) ad Y post pc ls (vI v :: vI x :: vR 36 0 :: st) (im, rs bt rt, lm) := wp_iast F hd rfl (by decide) (m_36 (by decide)) h0 h1 ht kk
theorem stN_36 {M : MS} {G : GS} {ad : Ads} {Y : YS} {post : Option SV → Mem → Prop} {pc t : Nat} {ls : List (Option SV)} {st : List SV} {im : Nat → Nat → Nat → Int} {bt rt : Nat} {lm : Nat → Nat → Nat → Int} {j : Nat} {v : Int} (F : Fx M (XR G) ad Y) (hd : decode Y.2.1 pc = .ok (.iastore, 1)) (h1 : j < 50) (ht : t = pc + 1) (kk : Wp M (XR G) ad Y post t ls st (up im 36 0 j v, rs bt rt, lm)) : Wp M (XR G) ad Y post pc ls (vI v :: vI (j : Int) :: vR 36 0 :: st) (im, rs bt rt, lm) := st_36 F hd (by omega) (by omega) ht (by rw [Int.toNat_natCast]; exact kk)
theorem ld_37 {M : MS} {G : GS} {ad : Ads} {Y : YS} {post : Option SV → Mem → Prop} {pc t : Nat} {ls : List (Option SV)} {st : List SV} {im : Nat → Nat → Nat → Int} {bt rt : Nat} {lm : Nat → Nat → Nat → Int} {x : Int} (F : Fx M (XR G) ad Y) (hd : decode Y.2.1 pc = .ok (.iaload, 1)) (h0 : 0 ≤ x) (h1 : x < 50) (ht : t = pc + 1) (kk : Wp M (XR G) ad Y post t ls (vI (im 37 0 x.toNat) :: st) (im, rs bt rt, lm)) : Wp M (XR G) ad Y post pc ls (vI x :: vR 37 0 :: st) (im, rs bt rt, lm) := wp_iald F hd rfl (by decide) (m_37 (by decide)) h0 h1 ht kk
theorem ldN_37 {M : MS} {G : GS} {ad : Ads} {Y : YS} {post : Option SV → Mem → Prop} {pc t : Nat} {ls : List (Option SV)} {st : List SV} {im : Nat → Nat → Nat → Int} {bt rt : Nat} {lm : Nat → Nat → Nat → Int} {j : Nat} (F : Fx M (XR G) ad Y) (hd : decode Y.2.1 pc = .ok (.iaload, 1)) (h1 : j < 50) (ht : t = pc + 1) (kk : Wp M (XR G) ad Y post t ls (vI (im 37 0 j) :: st) (im, rs bt rt, lm)) : Wp M (XR G) ad Y post pc ls (vI (j : Int) :: vR 37 0 :: st) (im, rs bt rt, lm) := ld_37 F hd (by omega) (by omega) ht (by rw [Int.toNat_natCast]; exact kk)
theorem st_37 {M : MS} {G : GS} {ad : Ads} {Y : YS} {post : Option SV → Mem → Prop} {pc t : Nat} {ls : List (Option SV)} {st : List SV} {im : Nat → Nat → Nat → Int} {bt rt : Nat} {lm : Nat → Nat → Nat → Int} {x v : Int} (F : Fx M (XR G) ad Y) (hd : decode Y.2.1 pc = .ok (.iastore, 1)) (h0 : 0 ≤ x) (h1 : x < 50) (ht : t = pc + 1) (kk : Wp M (XR G) ad Y post t ls st (up im 37 0 x.toNat v, rs bt rt, lm)) : Wp M (XR G) ad Y post pc ls (vI v :: vI x :: vR 37 0 :: st) (im, rs bt rt, lm) := wp_iast F hd rfl (by decide) (m_37 (by decide)) h0 h1 ht kk
theorem stN_37 {M : MS} {G : GS} {ad : Ads} {Y : YS} {post : Option SV → Mem → Prop} {pc t : Nat} {ls : List (Option SV)} {st : List SV} {im : Nat → Nat → Nat → Int} {bt rt : Nat} {lm : Nat → Nat → Nat → Int} {j : Nat} {v : Int} (F : Fx M (XR G) ad Y) (hd : decode Y.2.1 pc = .ok (.iastore, 1)) (h1 : j < 50) (ht : t = pc + 1) (kk : Wp M (XR G) ad Y post t ls st (up im 37 0 j v, rs bt rt, lm)) : Wp M (XR G) ad Y post pc ls (vI v :: vI (j : Int) :: vR 37 0 :: st) (im, rs bt rt, lm) := st_37 F hd (by omega) (by omega) ht (by rw [Int.toNat_natCast]; exact kk)
theorem ld_38 {M : MS} {G : GS} {ad : Ads} {Y : YS} {post : Option SV → Mem → Prop} {pc t : Nat} {ls : List (Option SV)} {st : List SV} {im : Nat → Nat → Nat → Int} {bt rt : Nat} {lm : Nat → Nat → Nat → Int} {x : Int} (F : Fx M (XR G) ad Y) (hd : decode Y.2.1 pc = .ok (.iaload, 1)) (h0 : 0 ≤ x) (h1 : x < 50) (ht : t = pc + 1) (kk : Wp M (XR G) ad Y post t ls (vI (im 38 0 x.toNat) :: st) (im, rs bt rt, lm)) : Wp M (XR G) ad Y post pc ls (vI x :: vR 38 0 :: st) (im, rs bt rt, lm) := wp_iald F hd rfl (by decide) (m_38 (by decide)) h0 h1 ht kk
theorem ldN_38 {M : MS} {G : GS} {ad : Ads} {Y : YS} {post : Option SV → Mem → Prop} {pc t : Nat} {ls : List (Option SV)} {st : List SV} {im : Nat → Nat → Nat → Int} {bt rt : Nat} {lm : Nat → Nat → Nat → Int} {j : Nat} (F : Fx M (XR G) ad Y) (hd : decode Y.2.1 pc = .ok (.iaload, 1)) (h1 : j < 50) (ht : t = pc + 1) (kk : Wp M (XR G) ad Y post t ls (vI (im 38 0 j) :: st) (im, rs bt rt, lm)) : Wp M (XR G) ad Y post pc ls (vI (j : Int) :: vR 38 0 :: st) (im, rs bt rt, lm) := ld_38 F hd (by omega) (by omega) ht (by rw [Int.toNat_natCast]; exact kk)
theorem st_38 {M : MS} {G : GS} {ad : Ads} {Y : YS} {post : Option SV → Mem → Prop} {pc t : Nat} {ls : List (Option SV)} {st : List SV} {im : Nat → Nat → Nat → Int} {bt rt : Nat} {lm : Nat → Nat → Nat → Int} {x v : Int} (F : Fx M (XR G) ad Y) (hd : decode Y.2.1 pc = .ok (.iastore, 1)) (h0 : 0 ≤ x) (h1 : x < 50) (ht : t = pc + 1) (kk : Wp M (XR G) ad Y post t ls st (up im 38 0 x.toNat v, rs bt rt, lm)) : Wp M (XR G) ad Y post pc ls (vI v :: vI x :: vR 38 0 :: st) (im, rs bt rt, lm) := wp_iast F hd rfl (by decide) (m_38 (by decide)) h0 h1 ht kk
theorem stN_38 {M : MS} {G : GS} {ad : Ads} {Y : YS} {post : Option SV → Mem → Prop} {pc t : Nat} {ls : List (Option SV)} {st : List SV} {im : Nat → Nat → Nat → Int} {bt rt : Nat} {lm : Nat → Nat → Nat → Int} {j : Nat} {v : Int} (F : Fx M (XR G) ad Y) (hd : decode Y.2.1 pc = .ok (.iastore, 1)) (h1 : j < 50) (ht : t = pc + 1) (kk : Wp M (XR G) ad Y post t ls st (up im 38 0 j v, rs bt rt, lm)) : Wp M (XR G) ad Y post pc ls (vI v :: vI (j : Int) :: vR 38 0 :: st) (im, rs bt rt, lm) := st_38 F hd (by omega) (by omega) ht (by rw [Int.toNat_natCast]; exact kk)
theorem ld_39 {M : MS} {G : GS} {ad : Ads} {Y : YS} {post : Option SV → Mem → Prop} {pc t : Nat} {ls : List (Option SV)} {st : List SV} {im : Nat → Nat → Nat → Int} {bt rt : Nat} {lm : Nat → Nat → Nat → Int} {x : Int} (F : Fx M (XR G) ad Y) (hd : decode Y.2.1 pc = .ok (.iaload, 1)) (h0 : 0 ≤ x) (h1 : x < 50) (ht : t = pc + 1) (kk : Wp M (XR G) ad Y post t ls (vI (im 39 0 x.toNat) :: st) (im, rs bt rt, lm)) : Wp M (XR G) ad Y post pc ls (vI x :: vR 39 0 :: st) (im, rs bt rt, lm) := wp_iald F hd rfl (by decide) (m_39 (by decide)) h0 h1 ht kk
theorem ldN_39 {M : MS} {G : GS} {ad : Ads} {Y : YS} {post : Option SV → Mem → Prop} {pc t : Nat} {ls : List (Option SV)} {st : List SV} {im : Nat → Nat → Nat → Int} {bt rt : Nat} {lm : Nat → Nat → Nat → Int} {j : Nat} (F : Fx M (XR G) ad Y) (hd : decode Y.2.1 pc = .ok (.iaload, 1)) (h1 : j < 50) (ht : t = pc + 1) (kk : Wp M (XR G) ad Y post t ls (vI (im 39 0 j) :: st) (im, rs bt rt, lm)) : Wp M (XR G) ad Y post pc ls (vI (j : Int) :: vR 39 0 :: st) (im, rs bt rt, lm) := ld_39 F hd (by omega) (by omega) ht (by rw [Int.toNat_natCast]; exact kk)
theorem st_39 {M : MS} {G : GS} {ad : Ads} {Y : YS} {post : Option SV → Mem → Prop} {pc t : Nat} {ls : List (Option SV)} {st : List SV} {im : Nat → Nat → Nat → Int} {bt rt : Nat} {lm : Nat → Nat → Nat → Int} {x v : Int} (F : Fx M (XR G) ad Y) (hd : decode Y.2.1 pc = .ok (.iastore, 1)) (h0 : 0 ≤ x) (h1 : x < 50) (ht : t = pc + 1) (kk : Wp M (XR G) ad Y post t ls st (up im 39 0 x.toNat v, rs bt rt, lm)) : Wp M (XR G) ad Y post pc ls (vI v :: vI x :: vR 39 0 :: st) (im, rs bt rt, lm) := wp_iast F hd rfl (by decide) (m_39 (by decide)) h0 h1 ht kk
theorem stN_39 {M : MS} {G : GS} {ad : Ads} {Y : YS} {post : Option SV → Mem → Prop} {pc t : Nat} {ls : List (Option SV)} {st : List SV} {im : Nat → Nat → Nat → Int} {bt rt : Nat} {lm : Nat → Nat → Nat → Int} {j : Nat} {v : Int} (F : Fx M (XR G) ad Y) (hd : decode Y.2.1 pc = .ok (.iastore, 1)) (h1 : j < 50) (ht : t = pc + 1) (kk : Wp M (XR G) ad Y post t ls st (up im 39 0 j v, rs bt rt, lm)) : Wp M (XR G) ad Y post pc ls (vI v :: vI (j : Int) :: vR 39 0 :: st) (im, rs bt rt, lm) := st_39 F hd (by omega) (by omega) ht (by rw [Int.toNat_natCast]; exact kk)
theorem ld_40 {M : MS} {G : GS} {ad : Ads} {Y : YS} {post : Option SV → Mem → Prop} {pc t : Nat} {ls : List (Option SV)} {st : List SV} {im : Nat → Nat → Nat → Int} {bt rt : Nat} {lm : Nat → Nat → Nat → Int} {x : Int} (F : Fx M (XR G) ad Y) (hd : decode Y.2.1 pc = .ok (.iaload, 1)) (h0 : 0 ≤ x) (h1 : x < 50) (ht : t = pc + 1) (kk : Wp M (XR G) ad Y post t ls (vI (im 40 0 x.toNat) :: st) (im, rs bt rt, lm)) : Wp M (XR G) ad Y post pc ls (vI x :: vR 40 0 :: st) (im, rs bt rt, lm) := wp_iald F hd rfl (by decide) (m_40 (by decide)) h0 h1 ht kk
theorem ldN_40 {M : MS} {G : GS} {ad : Ads} {Y : YS} {post : Option SV → Mem → Prop} {pc t : Nat} {ls : List (Option SV)} {st : List SV} {im : Nat → Nat → Nat → Int} {bt rt : Nat} {lm : Nat → Nat → Nat → Int} {j : Nat} (F : Fx M (XR G) ad Y) (hd : decode Y.2.1 pc = .ok (.iaload, 1)) (h1 : j < 50) (ht : t = pc + 1) (kk : Wp M (XR G) ad Y post t ls (vI (im 40 0 j) :: st) (im, rs bt rt, lm)) : Wp M (XR G) ad Y post pc ls (vI (j : Int) :: vR 40 0 :: st) (im, rs bt rt, lm) := ld_40 F hd (by omega) (by omega) ht (by rw [Int.toNat_natCast]; exact kk)
theorem st_40 {M : MS} {G : GS} {ad : Ads} {Y : YS} {post : Option SV → Mem → Prop} {pc t : Nat} {ls : List (Option SV)} {st : List SV} {im : Nat → Nat → Nat → Int} {bt rt : Nat} {lm : Nat → Nat → Nat → Int} {x v : Int} (F : Fx M (XR G) ad Y) (hd : decode Y.2.1 pc = .ok (.iastore, 1)) (h0 : 0 ≤ x) (h1 : x < 50) (ht : t = pc + 1) (kk : Wp M (XR G) ad Y post t ls st (up im 40 0 x.toNat v, rs bt rt, lm)) : Wp M (XR G) ad Y post pc ls (vI v :: vI x :: vR 40 0 :: st) (im, rs bt rt, lm) := wp_iast F hd rfl (by decide) (m_40 (by decide)) h0 h1 ht kk
theorem stN_40 {M : MS} {G : GS} {ad : Ads} {Y : YS} {post : Option SV → Mem → Prop} {pc t : Nat} {ls : List (Option SV)} {st : List SV} {im : Nat → Nat → Nat → Int} {bt rt : Nat} {lm : Nat → Nat → Nat → Int} {j : Nat} {v : Int} (F : Fx M (XR G) ad Y) (hd : decode Y.2.1 pc = .ok (.iastore, 1)) (h1 : j < 50) (ht : t = pc + 1) (kk : Wp M (XR G) ad Y post t ls st (up im 40 0 j v, rs bt rt, lm)) : Wp M (XR G) ad Y post pc ls (vI v :: vI (j : Int) :: vR 40 0 :: st) (im, rs bt rt, lm) := st_40 F hd (by omega) (by omega) ht (by rw [Int.toNat_natCast]; exact kk)
theorem ld_41 {M : MS} {G : GS} {ad : Ads} {Y : YS} {post : Option SV → Mem → Prop} {pc t : Nat} {ls : List (Option SV)} {st : List SV} {im : Nat → Nat → Nat → Int} {bt rt : Nat} {lm : Nat → Nat → Nat → Int} {x : Int} (F : Fx M (XR G) ad Y) (hd : decode Y.2.1 pc = .ok (.iaload, 1)) (h0 : 0 ≤ x) (h1 : x < 50) (ht : t = pc + 1) (kk : Wp M (XR G) ad Y post t ls (vI (im 41 0 x.toNat) :: st) (im, rs bt rt, lm)) : Wp M (XR G) ad Y post pc ls (vI x :: vR 41 0 :: st) (im, rs bt rt, lm) := wp_iald F hd rfl (by decide) (m_41 (by decide)) h0 h1 ht kk
theorem ldN_41 {M : MS} {G : GS} {ad : Ads} {Y : YS} {post : Option SV → Mem → Prop} {pc t : Nat} {ls : List (Option SV)} {st : List SV} {im : Nat → Nat → Nat → Int} {bt rt : Nat} {lm : Nat → Nat → Nat → Int} {j : Nat} (F : Fx M (XR G) ad Y) (hd : decode Y.2.1 pc = .ok (.iaload, 1)) (h1 : j < 50) (ht : t = pc + 1) (kk : Wp M (XR G) ad Y post t ls (vI (im 41 0 j) :: st) (im, rs bt rt, lm)) : Wp M (XR G) ad Y post pc ls (vI (j : Int) :: vR 41 0 :: st) (im, rs bt rt, lm) := ld_41 F hd (by omega) (by omega) ht (by rw [Int.toNat_natCast]; exact kk)
theorem st_41 {M : MS} {G : GS} {ad : Ads} {Y : YS} {post : Option SV → Mem → Prop} {pc t : Nat} {ls : List (Option SV)} {st : List SV} {im : Nat → Nat → Nat → Int} {bt rt : Nat} {lm : Nat → Nat → Nat → Int} {x v : Int} (F : Fx M (XR G) ad Y) (hd : decode Y.2.1 pc = .ok (.iastore, 1)) (h0 : 0 ≤ x) (h1 : x < 50) (ht : t = pc + 1) (kk : Wp M (XR G) ad Y post t ls st (up im 41 0 x.toNat v, rs bt rt, lm)) : Wp M (XR G) ad Y post pc ls (vI v :: vI x :: vR 41 0 :: st) (im, rs bt rt, lm) := wp_iast F hd rfl (by decide) (m_41 (by decide)) h0 h1 ht kk
theorem stN_41 {M : MS} {G : GS} {ad : Ads} {Y : YS} {post : Option SV → Mem → Prop} {pc t : Nat} {ls : List (Option SV)} {st : List SV} {im : Nat → Nat → Nat → Int} {bt rt : Nat} {lm : Nat → Nat → Nat → Int} {j : Nat} {v : Int} (F : Fx M (XR G) ad Y) (hd : decode Y.2.1 pc = .ok (.iastore, 1)) (h1 : j < 50) (ht : t = pc + 1) (kk : Wp M (XR G) ad Y post t ls st (up im 41 0 j v, rs bt rt, lm)) : Wp M (XR G) ad Y post pc ls (vI v :: vI (j : Int) :: vR 41 0 :: st) (im, rs bt rt, lm) := st_41 F hd (by omega) (by omega) ht (by rw [Int.toNat_natCast]; exact kk)
theorem ld_42 {M : MS} {G : GS} {ad : Ads} {Y : YS} {post : Option SV → Mem → Prop} {pc t : Nat} {ls : List (Option SV)} {st : List SV} {im : Nat → Nat → Nat → Int} {bt rt : Nat} {lm : Nat → Nat → Nat → Int} {x : Int} (F : Fx M (XR G) ad Y) (hd : decode Y.2.1 pc = .ok (.iaload, 1)) (h0 : 0 ≤ x) (h1 : x < 50) (ht : t = pc + 1) (kk : Wp M (XR G) ad Y post t ls (vI (im 42 0 x.toNat) :: st) (im, rs bt rt, lm)) : Wp M (XR G) ad Y post pc ls (vI x :: vR 42 0 :: st) (im, rs bt rt, lm) := wp_iald F hd rfl (by decide) (m_42 (by decide)) h0 h1 ht kk
theorem ldN_42 {M : MS} {G : GS} {ad : Ads} {Y : YS} {post : Option SV → Mem → Prop} {pc t : Nat} {ls : List (Option SV)} {st : List SV} {im : Nat → Nat → Nat → Int} {bt rt : Nat} {lm : Nat → Nat → Nat → Int} {j : Nat} (F : Fx M (XR G) ad Y) (hd : decode Y.2.1 pc = .ok (.iaload, 1)) (h1 : j < 50) (ht : t = pc + 1) (kk : Wp M (XR G) ad Y post t ls (vI (im 42 0 j) :: st) (im, rs bt rt, lm)) : Wp M (XR G) ad Y post pc ls (vI (j : Int) :: vR 42 0 :: st) (im, rs bt rt, lm) := ld_42 F hd (by omega) (by omega) ht (by rw [Int.toNat_natCast]; exact kk)
theorem st_42 {M : MS} {G : GS} {ad : Ads} {Y : YS} {post : Option SV → Mem → Prop} {pc t : Nat} {ls : List (Option SV)} {st : List SV} {im : Nat → Nat → Nat → Int} {bt rt : Nat} {lm : Nat → Nat → Nat → Int} {x v : Int} (F : Fx M (XR G) ad Y) (hd : decode Y.2.1 pc = .ok (.iastore, 1)) (h0 : 0 ≤ x) (h1 : x < 50) (ht : t = pc + 1) (kk : Wp M (XR G) ad Y post t ls st (up im 42 0 x.toNat v, rs bt rt, lm)) : Wp M (XR G) ad Y post pc ls (vI v :: vI x :: vR 42 0 :: st) (im, rs bt rt, lm) := wp_iast F hd rfl (by decide) (m_42 (by decide)) h0 h1 ht kk
theorem stN_42 {M : MS} {G : GS} {ad : Ads} {Y : YS} {post : Option SV → Mem → Prop} {pc t : Nat} {ls : List (Option SV)} {st : List SV} {im : Nat → Nat → Nat → Int} {bt rt : Nat} {lm : Nat → Nat → Nat → Int} {j : Nat} {v : Int} (F : Fx M (XR G) ad Y) (hd : decode Y.2.1 pc = .ok (.iastore, 1)) (h1 : j < 50) (ht : t = pc + 1) (kk : Wp M (XR G) ad Y post t ls st (up im 42 0 j v, rs bt rt, lm)) : Wp M (XR G) ad Y post pc ls (vI v :: vI (j : Int) :: vR 42 0 :: st) (im, rs bt rt, lm) := st_42 F hd (by omega) (by omega) ht (by rw [Int.toNat_natCast]; exact kk)
theorem ld_43 {M : MS} {G : GS} {ad : Ads} {Y : YS} {post : Option SV → Mem → Prop} {pc t : Nat} {ls : List (Option SV)} {st : List SV} {im : Nat → Nat → Nat → Int} {bt rt : Nat} {lm : Nat → Nat → Nat → Int} {x : Int} (F : Fx M (XR G) ad Y) (hd : decode Y.2.1 pc = .ok (.iaload, 1)) (h0 : 0 ≤ x) (h1 : x < 50) (ht : t = pc + 1) (kk : Wp M (XR G) ad Y post t ls (vI (im 43 0 x.toNat) :: st) (im, rs bt rt, lm)) : Wp M (XR G) ad Y post pc ls (vI x :: vR 43 0 :: st) (im, rs bt rt, lm) := wp_iald F hd rfl (by decide) (m_43 (by decide)) h0 h1 ht kk
theorem ldN_43 {M : MS} {G : GS} {ad : Ads} {Y : YS} {post : Option SV → Mem → Prop} {pc t : Nat} {ls : List (Option SV)} {st : List SV} {im : Nat → Nat → Nat → Int} {bt rt : Nat} {lm : Nat → Nat → Nat → Int} {j : Nat} (F : Fx M (XR G) ad Y) (hd : decode Y.2.1 pc = .ok (.iaload, 1)) (h1 : j < 50) (ht : t = pc + 1) (kk : Wp M (XR G) ad Y post t ls (vI (im 43 0 j) :: st) (im, rs bt rt, lm)) : Wp M (XR G) ad Y post pc ls (vI (j : Int) :: vR 43 0 :: st) (im, rs bt rt, lm) := ld_43 F hd (by omega) (by omega) ht (by rw [Int.toNat_natCast]; exact kk)
theorem st_43 {M : MS} {G : GS} {ad : Ads} {Y : YS} {post : Option SV → Mem → Prop} {pc t : Nat} {ls : List (Option SV)} {st : List SV} {im : Nat → Nat → Nat → Int} {bt rt : Nat} {lm : Nat → Nat → Nat → Int} {x v : Int} (F : Fx M (XR G) ad Y) (hd : decode Y.2.1 pc = .ok (.iastore, 1)) (h0 : 0 ≤ x) (h1 : x < 50) (ht : t = pc + 1) (kk : Wp M (XR G) ad Y post t ls st (up im 43 0 x.toNat v, rs bt rt, lm)) : Wp M (XR G) ad Y post pc ls (vI v :: vI x :: vR 43 0 :: st) (im, rs bt rt, lm) := wp_iast F hd rfl (by decide) (m_43 (by decide)) h0 h1 ht kk
theorem stN_43 {M : MS} {G : GS} {ad : Ads} {Y : YS} {post : Option SV → Mem → Prop} {pc t : Nat} {ls : List (Option SV)} {st : List SV} {im : Nat → Nat → Nat → Int} {bt rt : Nat} {lm : Nat → Nat → Nat → Int} {j : Nat} {v : Int} (F : Fx M (XR G) ad Y) (hd : decode Y.2.1 pc = .ok (.iastore, 1)) (h1 : j < 50) (ht : t = pc + 1) (kk : Wp M (XR G) ad Y post t ls st (up im 43 0 j v, rs bt rt, lm)) : Wp M (XR G) ad Y post pc ls (vI v :: vI (j : Int) :: vR 43 0 :: st) (im, rs bt rt, lm) := st_43 F hd (by omega) (by omega) ht (by rw [Int.toNat_natCast]; exact kk)
theorem ld_44 {M : MS} {G : GS} {ad : Ads} {Y : YS} {post : Option SV → Mem → Prop} {pc t : Nat} {ls : List (Option SV)} {st : List SV} {im : Nat → Nat → Nat → Int} {bt rt : Nat} {lm : Nat → Nat → Nat → Int} {x : Int} (F : Fx M (XR G) ad Y) (hd : decode Y.2.1 pc = .ok (.iaload, 1)) (h0 : 0 ≤ x) (h1 : x < 5) (ht : t = pc + 1) (kk : Wp M (XR G) ad Y post t ls (vI (im 44 0 x.toNat) :: st) (im, rs bt rt, lm)) : Wp M (XR G) ad Y post pc ls (vI x :: vR 44 0 :: st) (im, rs bt rt, lm) := wp_iald F hd rfl (by decide) (m_44 (by decide)) h0 h1 ht kk
theorem ldN_44 {M : MS} {G : GS} {ad : Ads} {Y : YS} {post : Option SV → Mem → Prop} {pc t : Nat} {ls : List (Option SV)} {st : List SV} {im : Nat → Nat → Nat → Int} {bt rt : Nat} {lm : Nat → Nat → Nat → Int} {j : Nat} (F : Fx M (XR G) ad Y) (hd : decode Y.2.1 pc = .ok (.iaload, 1)) (h1 : j < 5) (ht : t = pc + 1) (kk : Wp M (XR G) ad Y post t ls (vI (im 44 0 j) :: st) (im, rs bt rt, lm)) : Wp M (XR G) ad Y post pc ls (vI (j : Int) :: vR 44 0 :: st) (im, rs bt rt, lm) := ld_44 F hd (by omega) (by omega) ht (by rw [Int.toNat_natCast]; exact kk)
theorem st_44 {M : MS} {G : GS} {ad : Ads} {Y : YS} {post : Option SV → Mem → Prop} {pc t : Nat} {ls : List (Option SV)} {st : List SV} {im : Nat → Nat → Nat → Int} {bt rt : Nat} {lm : Nat → Nat → Nat → Int} {x v : Int} (F : Fx M (XR G) ad Y) (hd : decode Y.2.1 pc = .ok (.iastore, 1)) (h0 : 0 ≤ x) (h1 : x < 5) (ht : t = pc + 1) (kk : Wp M (XR G) ad Y post t ls st (up im 44 0 x.toNat v, rs bt rt, lm)) : Wp M (XR G) ad Y post pc ls (vI v :: vI x :: vR 44 0 :: st) (im, rs bt rt, lm) := wp_iast F hd rfl (by decide) (m_44 (by decide)) h0 h1 ht kk
theorem stN_44 {M : MS} {G : GS} {ad : Ads} {Y : YS} {post : Option SV → Mem → Prop} {pc t : Nat} {ls : List (Option SV)} {st : List SV} {im : Nat → Nat → Nat → Int} {bt rt : Nat} {lm : Nat → Nat → Nat → Int} {j : Nat} {v : Int} (F : Fx M (XR G) ad Y) (hd : decode Y.2.1 pc = .ok (.iastore, 1)) (h1 : j < 5) (ht : t = pc + 1) (kk : Wp M (XR G) ad Y post t ls st (up im 44 0 j v, rs bt rt, lm)) : Wp M (XR G) ad Y post pc ls (vI v :: vI (j : Int) :: vR 44 0 :: st) (im, rs bt rt, lm) := st_44 F hd (by omega) (by omega) ht (by rw [Int.toNat_natCast]; exact kk)
theorem ld_45 {M : MS} {G : GS} {ad : Ads} {Y : YS} {post : Option SV → Mem → Prop} {pc t : Nat} {ls : List (Option SV)} {st : List SV} {im : Nat → Nat → Nat → Int} {bt rt : Nat} {lm : Nat → Nat → Nat → Int} {x : Int} (F : Fx M (XR G) ad Y) (hd : decode Y.2.1 pc = .ok (.iaload, 1)) (h0 : 0 ≤ x) (h1 : x < 50) (ht : t = pc + 1) (kk : Wp M (XR G) ad Y post t ls (vI (im 45 0 x.toNat) :: st) (im, rs bt rt, lm)) : Wp M (XR G) ad Y post pc ls (vI x :: vR 45 0 :: st) (im, rs bt rt, lm) := wp_iald F hd rfl (by decide) (m_45 (by decide)) h0 h1 ht kk
theorem ldN_45 {M : MS} {G : GS} {ad : Ads} {Y : YS} {post : Option SV → Mem → Prop} {pc t : Nat} {ls : List (Option SV)} {st : List SV} {im : Nat → Nat → Nat → Int} {bt rt : Nat} {lm : Nat → Nat → Nat → Int} {j : Nat} (F : Fx M (XR G) ad Y) (hd : decode Y.2.1 pc = .ok (.iaload, 1)) (h1 : j < 50) (ht : t = pc + 1) (kk : Wp M (XR G) ad Y post t ls (vI (im 45 0 j) :: st) (im, rs bt rt, lm)) : Wp M (XR G) ad Y post pc ls (vI (j : Int) :: vR 45 0 :: st) (im, rs bt rt, lm) := ld_45 F hd (by omega) (by omega) ht (by rw [Int.toNat_natCast]; exact kk)
theorem st_45 {M : MS} {G : GS} {ad : Ads} {Y : YS} {post : Option SV → Mem → Prop} {pc t : Nat} {ls : List (Option SV)} {st : List SV} {im : Nat → Nat → Nat → Int} {bt rt : Nat} {lm : Nat → Nat → Nat → Int} {x v : Int} (F : Fx M (XR G) ad Y) (hd : decode Y.2.1 pc = .ok (.iastore, 1)) (h0 : 0 ≤ x) (h1 : x < 50) (ht : t = pc + 1) (kk : Wp M (XR G) ad Y post t ls st (up im 45 0 x.toNat v, rs bt rt, lm)) : Wp M (XR G) ad Y post pc ls (vI v :: vI x :: vR 45 0 :: st) (im, rs bt rt, lm) := wp_iast F hd rfl (by decide) (m_45 (by decide)) h0 h1 ht kk
theorem stN_45 {M : MS} {G : GS} {ad : Ads} {Y : YS} {post : Option SV → Mem → Prop} {pc t : Nat} {ls : List (Option SV)} {st : List SV} {im : Nat → Nat → Nat → Int} {bt rt : Nat} {lm : Nat → Nat → Nat → Int} {j : Nat} {v : Int} (F : Fx M (XR G) ad Y) (hd : decode Y.2.1 pc = .ok (.iastore, 1)) (h1 : j < 50) (ht : t = pc + 1) (kk : Wp M (XR G) ad Y post t ls st (up im 45 0 j v, rs bt rt, lm)) : Wp M (XR G) ad Y post pc ls (vI v :: vI (j : Int) :: vR 45 0 :: st) (im, rs bt rt, lm) := st_45 F hd (by omega) (by omega) ht (by rw [Int.toNat_natCast]; exact kk)
theorem ld_46 {M : MS} {G : GS} {ad : Ads} {Y : YS} {post : Option SV → Mem → Prop} {pc t : Nat} {ls : List (Option SV)} {st : List SV} {im : Nat → Nat → Nat → Int} {bt rt : Nat} {lm : Nat → Nat → Nat → Int} {x : Int} (F : Fx M (XR G) ad Y) (hd : decode Y.2.1 pc = .ok (.iaload, 1)) (h0 : 0 ≤ x) (h1 : x < 50) (ht : t = pc + 1) (kk : Wp M (XR G) ad Y post t ls (vI (im 46 0 x.toNat) :: st) (im, rs bt rt, lm)) : Wp M (XR G) ad Y post pc ls (vI x :: vR 46 0 :: st) (im, rs bt rt, lm) := wp_iald F hd rfl (by decide) (m_46 (by decide)) h0 h1 ht kk
theorem ldN_46 {M : MS} {G : GS} {ad : Ads} {Y : YS} {post : Option SV → Mem → Prop} {pc t : Nat} {ls : List (Option SV)} {st : List SV} {im : Nat → Nat → Nat → Int} {bt rt : Nat} {lm : Nat → Nat → Nat → Int} {j : Nat} (F : Fx M (XR G) ad Y) (hd : decode Y.2.1 pc = .ok (.iaload, 1)) (h1 : j < 50) (ht : t = pc + 1) (kk : Wp M (XR G) ad Y post t ls (vI (im 46 0 j) :: st) (im, rs bt rt, lm)) : Wp M (XR G) ad Y post pc ls (vI (j : Int) :: vR 46 0 :: st) (im, rs bt rt, lm) := ld_46 F hd (by omega) (by omega) ht (by rw [Int.toNat_natCast]; exact kk)
theorem st_46 {M : MS} {G : GS} {ad : Ads} {Y : YS} {post : Option SV → Mem → Prop} {pc t : Nat} {ls : List (Option SV)} {st : List SV} {im : Nat → Nat → Nat → Int} {bt rt : Nat} {lm : Nat → Nat → Nat → Int} {x v : Int} (F : Fx M (XR G) ad Y) (hd : decode Y.2.1 pc = .ok (.iastore, 1)) (h0 : 0 ≤ x) (h1 : x < 50) (ht : t = pc + 1) (kk : Wp M (XR G) ad Y post t ls st (up im 46 0 x.toNat v, rs bt rt, lm)) : Wp M (XR G) ad Y post pc ls (vI v :: vI x :: vR 46 0 :: st) (im, rs bt rt, lm) := wp_iast F hd rfl (by decide) (m_46 (by decide)) h0 h1 ht kk
theorem stN_46 {M : MS} {G : GS} {ad : Ads} {Y : YS} {post : Option SV → Mem → Prop} {pc t : Nat} {ls : List (Option SV)} {st : List SV} {im : Nat → Nat → Nat → Int} {bt rt : Nat} {lm : Nat → Nat → Nat → Int} {j : Nat} {v : Int} (F : Fx M (XR G) ad Y) (hd : decode Y.2.1 pc = .ok (.iastore, 1)) (h1 : j < 50) (ht : t = pc + 1) (kk : Wp M (XR G) ad Y post t ls st (up im 46 0 j v, rs bt rt, lm)) : Wp M (XR G) ad Y post pc ls (vI v :: vI (j : Int) :: vR 46 0 :: st) (im, rs bt rt, lm) := st_46 F hd (by omega) (by omega) ht (by rw [Int.toNat_natCast]; exact kk)
theorem ld_47 {M : MS} {G : GS} {ad : Ads} {Y : YS} {post : Option SV → Mem → Prop} {pc t : Nat} {ls : List (Option SV)} {st : List SV} {im : Nat → Nat → Nat → Int} {bt rt : Nat} {lm : Nat → Nat → Nat → Int} {x : Int} (F : Fx M (XR G) ad Y) (hd : decode Y.2.1 pc = .ok (.baload, 1)) (h0 : 0 ≤ x) (h1 : x < 4) (ht : t = pc + 1) (kk : Wp M (XR G) ad Y post t ls (vI (im 47 0 x.toNat) :: st) (im, rs bt rt, lm)) : Wp M (XR G) ad Y post pc ls (vI x :: vR 47 0 :: st) (im, rs bt rt, lm) := wp_zald F hd rfl (by decide) (m_47 (by decide)) h0 h1 ht kk
theorem ldN_47 {M : MS} {G : GS} {ad : Ads} {Y : YS} {post : Option SV → Mem → Prop} {pc t : Nat} {ls : List (Option SV)} {st : List SV} {im : Nat → Nat → Nat → Int} {bt rt : Nat} {lm : Nat → Nat → Nat → Int} {j : Nat} (F : Fx M (XR G) ad Y) (hd : decode Y.2.1 pc = .ok (.baload, 1)) (h1 : j < 4) (ht : t = pc + 1) (kk : Wp M (XR G) ad Y post t ls (vI (im 47 0 j) :: st) (im, rs bt rt, lm)) : Wp M (XR G) ad Y post pc ls (vI (j : Int) :: vR 47 0 :: st) (im, rs bt rt, lm) := ld_47 F hd (by omega) (by omega) ht (by rw [Int.toNat_natCast]; exact kk)
theorem st_47 {M : MS} {G : GS} {ad : Ads} {Y : YS} {post : Option SV → Mem → Prop} {pc t : Nat} {ls : List (Option SV)} {st : List SV} {im : Nat → Nat → Nat → Int} {bt rt : Nat} {lm : Nat → Nat → Nat → Int} {x v : Int} (F : Fx M (XR G) ad Y) (hd : decode Y.2.1 pc = .ok (.bastore, 1)) (h0 : 0 ≤ x) (h1 : x < 4) (hz : v = 0 ∨ v = 1) (ht : t = pc + 1) (kk : Wp M (XR G) ad Y post t ls st (up im 47 0 x.toNat v, rs bt rt, lm)) : Wp M (XR G) ad Y post pc ls (vI v :: vI x :: vR 47 0 :: st) (im, rs bt rt, lm) := wp_zast F hd rfl (by decide) (m_47 (by decide)) h0 h1 hz ht kk
theorem stN_47 {M : MS} {G : GS} {ad : Ads} {Y : YS} {post : Option SV → Mem → Prop} {pc t : Nat} {ls : List (Option SV)} {st : List SV} {im : Nat → Nat → Nat → Int} {bt rt : Nat} {lm : Nat → Nat → Nat → Int} {j : Nat} {v : Int} (F : Fx M (XR G) ad Y) (hd : decode Y.2.1 pc = .ok (.bastore, 1)) (h1 : j < 4) (hz : v = 0 ∨ v = 1) (ht : t = pc + 1) (kk : Wp M (XR G) ad Y post t ls st (up im 47 0 j v, rs bt rt, lm)) : Wp M (XR G) ad Y post pc ls (vI v :: vI (j : Int) :: vR 47 0 :: st) (im, rs bt rt, lm) := st_47 F hd (by omega) (by omega) hz ht (by rw [Int.toNat_natCast]; exact kk)
theorem ld_48 {M : MS} {G : GS} {ad : Ads} {Y : YS} {post : Option SV → Mem → Prop} {pc t : Nat} {ls : List (Option SV)} {st : List SV} {im : Nat → Nat → Nat → Int} {bt rt : Nat} {lm : Nat → Nat → Nat → Int} {x : Int} (F : Fx M (XR G) ad Y) (hd : decode Y.2.1 pc = .ok (.iaload, 1)) (h0 : 0 ≤ x) (h1 : x < 4) (ht : t = pc + 1) (kk : Wp M (XR G) ad Y post t ls (vI (im 48 0 x.toNat) :: st) (im, rs bt rt, lm)) : Wp M (XR G) ad Y post pc ls (vI x :: vR 48 0 :: st) (im, rs bt rt, lm) := wp_iald F hd rfl (by decide) (m_48 (by decide)) h0 h1 ht kk
theorem ldN_48 {M : MS} {G : GS} {ad : Ads} {Y : YS} {post : Option SV → Mem → Prop} {pc t : Nat} {ls : List (Option SV)} {st : List SV} {im : Nat → Nat → Nat → Int} {bt rt : Nat} {lm : Nat → Nat → Nat → Int} {j : Nat} (F : Fx M (XR G) ad Y) (hd : decode Y.2.1 pc = .ok (.iaload, 1)) (h1 : j < 4) (ht : t = pc + 1) (kk : Wp M (XR G) ad Y post t ls (vI (im 48 0 j) :: st) (im, rs bt rt, lm)) : Wp M (XR G) ad Y post pc ls (vI (j : Int) :: vR 48 0 :: st) (im, rs bt rt, lm) := ld_48 F hd (by omega) (by omega) ht (by rw [Int.toNat_natCast]; exact kk)
theorem st_48 {M : MS} {G : GS} {ad : Ads} {Y : YS} {post : Option SV → Mem → Prop} {pc t : Nat} {ls : List (Option SV)} {st : List SV} {im : Nat → Nat → Nat → Int} {bt rt : Nat} {lm : Nat → Nat → Nat → Int} {x v : Int} (F : Fx M (XR G) ad Y) (hd : decode Y.2.1 pc = .ok (.iastore, 1)) (h0 : 0 ≤ x) (h1 : x < 4) (ht : t = pc + 1) (kk : Wp M (XR G) ad Y post t ls st (up im 48 0 x.toNat v, rs bt rt, lm)) : Wp M (XR G) ad Y post pc ls (vI v :: vI x :: vR 48 0 :: st) (im, rs bt rt, lm) := wp_iast F hd rfl (by decide) (m_48 (by decide)) h0 h1 ht kk
theorem stN_48 {M : MS} {G : GS} {ad : Ads} {Y : YS} {post : Option SV → Mem → Prop} {pc t : Nat} {ls : List (Option SV)} {st : List SV} {im : Nat → Nat → Nat → Int} {bt rt : Nat} {lm : Nat → Nat → Nat → Int} {j : Nat} {v : Int} (F : Fx M (XR G) ad Y) (hd : decode Y.2.1 pc = .ok (.iastore, 1)) (h1 : j < 4) (ht : t = pc + 1) (kk : Wp M (XR G) ad Y post t ls st (up im 48 0 j v, rs bt rt, lm)) : Wp M (XR G) ad Y post pc ls (vI v :: vI (j : Int) :: vR 48 0 :: st) (im, rs bt rt, lm) := st_48 F hd (by omega) (by omega) ht (by rw [Int.toNat_natCast]; exact kk)
theorem ld_49 {M : MS} {G : GS} {ad : Ads} {Y : YS} {post : Option SV → Mem → Prop} {pc t : Nat} {ls : List (Option SV)} {st : List SV} {im : Nat → Nat → Nat → Int} {bt rt : Nat} {lm : Nat → Nat → Nat → Int} {x : Int} (F : Fx M (XR G) ad Y) (hd : decode Y.2.1 pc = .ok (.iaload, 1)) (h0 : 0 ≤ x) (h1 : x < 4) (ht : t = pc + 1) (kk : Wp M (XR G) ad Y post t ls (vI (im 49 0 x.toNat) :: st) (im, rs bt rt, lm)) : Wp M (XR G) ad Y post pc ls (vI x :: vR 49 0 :: st) (im, rs bt rt, lm) := wp_iald F hd rfl (by decide) (m_49 (by decide)) h0 h1 ht kk
theorem ldN_49 {M : MS} {G : GS} {ad : Ads} {Y : YS} {post : Option SV → Mem → Prop} {pc t : Nat} {ls : List (Option SV)} {st : List SV} {im : Nat → Nat → Nat → Int} {bt rt : Nat} {lm : Nat → Nat → Nat → Int} {j : Nat} (F : Fx M (XR G) ad Y) (hd : decode Y.2.1 pc = .ok (.iaload, 1)) (h1 : j < 4) (ht : t = pc + 1) (kk : Wp M (XR G) ad Y post t ls (vI (im 49 0 j) :: st) (im, rs bt rt, lm)) : Wp M (XR G) ad Y post pc ls (vI (j : Int) :: vR 49 0 :: st) (im, rs bt rt, lm) := ld_49 F hd (by omega) (by omega) ht (by rw [Int.toNat_natCast]; exact kk)
theorem st_49 {M : MS} {G : GS} {ad : Ads} {Y : YS} {post : Option SV → Mem → Prop} {pc t : Nat} {ls : List (Option SV)} {st : List SV} {im : Nat → Nat → Nat → Int} {bt rt : Nat} {lm : Nat → Nat → Nat → Int} {x v : Int} (F : Fx M (XR G) ad Y) (hd : decode Y.2.1 pc = .ok (.iastore, 1)) (h0 : 0 ≤ x) (h1 : x < 4) (ht : t = pc + 1) (kk : Wp M (XR G) ad Y post t ls st (up im 49 0 x.toNat v, rs bt rt, lm)) : Wp M (XR G) ad Y post pc ls (vI v :: vI x :: vR 49 0 :: st) (im, rs bt rt, lm) := wp_iast F hd rfl (by decide) (m_49 (by decide)) h0 h1 ht kk
theorem stN_49 {M : MS} {G : GS} {ad : Ads} {Y : YS} {post : Option SV → Mem → Prop} {pc t : Nat} {ls : List (Option SV)} {st : List SV} {im : Nat → Nat → Nat → Int} {bt rt : Nat} {lm : Nat → Nat → Nat → Int} {j : Nat} {v : Int} (F : Fx M (XR G) ad Y) (hd : decode Y.2.1 pc = .ok (.iastore, 1)) (h1 : j < 4) (ht : t = pc + 1) (kk : Wp M (XR G) ad Y post t ls st (up im 49 0 j v, rs bt rt, lm)) : Wp M (XR G) ad Y post pc ls (vI v :: vI (j : Int) :: vR 49 0 :: st) (im, rs bt rt, lm) := st_49 F hd (by omega) (by omega) ht (by rw [Int.toNat_natCast]; exact kk)
theorem ld_50 {M : MS} {G : GS} {ad : Ads} {Y : YS} {post : Option SV → Mem → Prop} {pc t : Nat} {ls : List (Option SV)} {st : List SV} {im : Nat → Nat → Nat → Int} {bt rt : Nat} {lm : Nat → Nat → Nat → Int} {x : Int} (F : Fx M (XR G) ad Y) (hd : decode Y.2.1 pc = .ok (.iaload, 1)) (h0 : 0 ≤ x) (h1 : x < 160) (ht : t = pc + 1) (kk : Wp M (XR G) ad Y post t ls (vI (im 50 0 x.toNat) :: st) (im, rs bt rt, lm)) : Wp M (XR G) ad Y post pc ls (vI x :: vR 50 0 :: st) (im, rs bt rt, lm) := wp_iald F hd rfl (by decide) (m_50 (by decide)) h0 h1 ht kk
theorem ldN_50 {M : MS} {G : GS} {ad : Ads} {Y : YS} {post : Option SV → Mem → Prop} {pc t : Nat} {ls : List (Option SV)} {st : List SV} {im : Nat → Nat → Nat → Int} {bt rt : Nat} {lm : Nat → Nat → Nat → Int} {j : Nat} (F : Fx M (XR G) ad Y) (hd : decode Y.2.1 pc = .ok (.iaload, 1)) (h1 : j < 160) (ht : t = pc + 1) (kk : Wp M (XR G) ad Y post t ls (vI (im 50 0 j) :: st) (im, rs bt rt, lm)) : Wp M (XR G) ad Y post pc ls (vI (j : Int) :: vR 50 0 :: st) (im, rs bt rt, lm) := ld_50 F hd (by omega) (by omega) ht (by rw [Int.toNat_natCast]; exact kk)
theorem st_50 {M : MS} {G : GS} {ad : Ads} {Y : YS} {post : Option SV → Mem → Prop} {pc t : Nat} {ls : List (Option SV)} {st : List SV} {im : Nat → Nat → Nat → Int} {bt rt : Nat} {lm : Nat → Nat → Nat → Int} {x v : Int} (F : Fx M (XR G) ad Y) (hd : decode Y.2.1 pc = .ok (.iastore, 1)) (h0 : 0 ≤ x) (h1 : x < 160) (ht : t = pc + 1) (kk : Wp M (XR G) ad Y post t ls st (up im 50 0 x.toNat v, rs bt rt, lm)) : Wp M (XR G) ad Y post pc ls (vI v :: vI x :: vR 50 0 :: st) (im, rs bt rt, lm) := wp_iast F hd rfl (by decide) (m_50 (by decide)) h0 h1 ht kk
theorem stN_50 {M : MS} {G : GS} {ad : Ads} {Y : YS} {post : Option SV → Mem → Prop} {pc t : Nat} {ls : List (Option SV)} {st : List SV} {im : Nat → Nat → Nat → Int} {bt rt : Nat} {lm : Nat → Nat → Nat → Int} {j : Nat} {v : Int} (F : Fx M (XR G) ad Y) (hd : decode Y.2.1 pc = .ok (.iastore, 1)) (h1 : j < 160) (ht : t = pc + 1) (kk : Wp M (XR G) ad Y post t ls st (up im 50 0 j v, rs bt rt, lm)) : Wp M (XR G) ad Y post pc ls (vI v :: vI (j : Int) :: vR 50 0 :: st) (im, rs bt rt, lm) := st_50 F hd (by omega) (by omega) ht (by rw [Int.toNat_natCast]; exact kk)
theorem la_1 {M : MS} {G : GS} {ad : Ads} {Y : YS} {post : Option SV → Mem → Prop} {pc t : Nat} {ls : List (Option SV)} {st : List SV} {im : Nat → Nat → Nat → Int} {bt rt : Nat} {lm : Nat → Nat → Nat → Int} {x : Int} (F : Fx M (XC G) ad Y) (hd : decode Y.2.1 pc = .ok (.aaload, 1)) (h0 : 0 ≤ x) (h1 : x < 6) (ht : t = pc + 1) (kk : Wp M (XC G) ad Y post t ls (vR 2 (x.toNat) :: st) (im, rs bt rt, lm)) : Wp M (XC G) ad Y post pc ls (vI x :: vR 1 0 :: st) (im, rs bt rt, lm) := wp_aald F hd rfl (by decide) (by decide) (by decide) (m_1 (by decide)) h0 h1 rfl ht kk
theorem laN_1 {M : MS} {G : GS} {ad : Ads} {Y : YS} {post : Option SV → Mem → Prop} {pc t : Nat} {ls : List (Option SV)} {st : List SV} {im : Nat → Nat → Nat → Int} {bt rt : Nat} {lm : Nat → Nat → Nat → Int} {j : Nat} (F : Fx M (XC G) ad Y) (hd : decode Y.2.1 pc = .ok (.aaload, 1)) (h1 : j < 6) (ht : t = pc + 1) (kk : Wp M (XC G) ad Y post t ls (vR 2 (j) :: st) (im, rs bt rt, lm)) : Wp M (XC G) ad Y post pc ls (vI (j : Int) :: vR 1 0 :: st) (im, rs bt rt, lm) := la_1 F hd (by omega) (by omega) ht (by rw [Int.toNat_natCast]; exact kk)
theorem la_6 {M : MS} {G : GS} {ad : Ads} {Y : YS} {post : Option SV → Mem → Prop} {pc t : Nat} {ls : List (Option SV)} {st : List SV} {im : Nat → Nat → Nat → Int} {bt rt : Nat} {lm : Nat → Nat → Nat → Int} {x : Int} (F : Fx M (XC G) ad Y) (hd : decode Y.2.1 pc = .ok (.aaload, 1)) (h0 : 0 ≤ x) (h1 : x < 4) (ht : t = pc + 1) (kk : Wp M (XC G) ad Y post t ls (vR 7 (x.toNat) :: st) (im, rs bt rt, lm)) : Wp M (XC G) ad Y post pc ls (vI x :: vR 6 0 :: st) (im, rs bt rt, lm) := wp_aald F hd rfl (by decide) (by decide) (by decide) (m_6 (by decide)) h0 h1 rfl ht kk
theorem laN_6 {M : MS} {G : GS} {ad : Ads} {Y : YS} {post : Option SV → Mem → Prop} {pc t : Nat} {ls : List (Option SV)} {st : List SV} {im : Nat → Nat → Nat → Int} {bt rt : Nat} {lm : Nat → Nat → Nat → Int} {j : Nat} (F : Fx M (XC G) ad Y) (hd : decode Y.2.1 pc = .ok (.aaload, 1)) (h1 : j < 4) (ht : t = pc + 1) (kk : Wp M (XC G) ad Y post t ls (vR 7 (j) :: st) (im, rs bt rt, lm)) : Wp M (XC G) ad Y post pc ls (vI (j : Int) :: vR 6 0 :: st) (im, rs bt rt, lm) := la_6 F hd (by omega) (by omega) ht (by rw [Int.toNat_natCast]; exact kk)
theorem la_19 {M : MS} {G : GS} {ad : Ads} {Y : YS} {post : Option SV → Mem → Prop} {pc t : Nat} {ls : List (Option SV)} {st : List SV} {im : Nat → Nat → Nat → Int} {bt rt : Nat} {lm : Nat → Nat → Nat → Int} {i : Nat} {x : Int} (F : Fx M (XC G) ad Y) (hd : decode Y.2.1 pc = .ok (.aaload, 1)) (hi : i < 3) (h0 : 0 ≤ x) (h1 : x < 5) (ht : t = pc + 1) (kk : Wp M (XC G) ad Y post t ls (vR 21 (5 * i + x.toNat) :: st) (im, rs bt rt, lm)) : Wp M (XC G) ad Y post pc ls (vI x :: vR 19 i :: st) (im, rs bt rt, lm) := wp_aald F hd rfl (by decide) (by decide) (by decide) (m_19 hi) h0 h1 rfl ht kk
theorem laN_19 {M : MS} {G : GS} {ad : Ads} {Y : YS} {post : Option SV → Mem → Prop} {pc t : Nat} {ls : List (Option SV)} {st : List SV} {im : Nat → Nat → Nat → Int} {bt rt : Nat} {lm : Nat → Nat → Nat → Int} {i : Nat} {j : Nat} (F : Fx M (XC G) ad Y) (hd : decode Y.2.1 pc = .ok (.aaload, 1)) (hi : i < 3) (h1 : j < 5) (ht : t = pc + 1) (kk : Wp M (XC G) ad Y post t ls (vR 21 (5 * i + j) :: st) (im, rs bt rt, lm)) : Wp M (XC G) ad Y post pc ls (vI (j : Int) :: vR 19 i :: st) (im, rs bt rt, lm) := la_19 F hd hi (by omega) (by omega) ht (by rw [Int.toNat_natCast]; exact kk)
end
section
/-! PURE WORDS for what the class does -/
abbrev IM : Type := Nat → Nat → Nat → Int
/-- all that stands in the cells is an int -/
def RI (im : IM) : Prop := ∀ k i s, ri (im k i s)
theorem RI_up {im : IM} {k i s : Nat} {x : Int} (h : RI im) (hx : ri x) : RI (up im k i s x) := by
  intro k' i' s'
  unfold up
  split
  · exact hx
  · exact h _ _ _
def bm (x : Int) : Int := x.bmod 4294967296
theorem ri_b (x : Int) : ri (bm x) := ri_bm x
theorem q_norm {M : MS} {X : XS} {ad : Ads} {Y : YS} {post : Option SV → Mem → Prop} {pc : Nat} {ls : List (Option SV)} {st : List SV} {m : Mem} {x : Int} (k : Wp M X ad Y post pc ls (vI (bm x) :: st) m) : Wp M X ad Y post pc ls (vI x :: st) m := by
  intro H locs a hP hS hl
  have h := k H locs a hP hS hl
  have e : tr ad (vI (bm x)) = tr ad (vI x) := by
    show Value.int (jI (bm x)) = Value.int (jI x)
    rw [show jI (bm x) = jI x from (j_bm x).symm]
  rw [List.map_cons, e] at h
  exact h
theorem ri_01 {c : Prop} [Decidable c] : ri (if c then 1 else 0) := by split <;> constructor <;> omega
/-! kinds -/
def takesK (k v : Int) : Int := if k = 1 then v % 10 / 2 else if k = 3 then (if v % 2 = 0 then v % 10 / 2 else -1) else if k = 4 then 9 - v % 10 else if k = 5 then v / 10 else v % 10
def heldK (k n v : Int) : Int := if k = 1 then v + n else if k = 2 then v / 2 else if k = 3 then v + n - 3 else if k = 4 then v / 2 else if k = 5 then (if 9 < v then 9 else v) else v
def holdsK (k n v : Int) : Int := if 1 < heldK k n v then heldK k n v else 1
def bearsK (k n v c : Int) : Int := if k = 2 then (if c = 0 then v else 2 * v) + n else if k = 4 then (if c = 0 then v + n else 3 * (2 * v + n)) else if k = 5 then 0 else (if c = 0 then v else 2 * v)
def aboveK (k : Int) : Int := if k = 1 then 0 else if k = 2 then 0 else if k = 3 then 1 else if k = 4 then 2 else if k = 5 then 0 else -1
/-- one of a kind is one of another, or under it: six steps at most -/
def underK (b : Int) : Nat → Int → Int
  | 0, _ => 0
  | n + 1, k => if k = -1 then 0 else if k = b then 1 else underK b n (aboveK k)
/-! people -/
def cntW (f : Nat → Int) : Nat → Int
  | 0 => 0
  | n + 1 => cntW f n + (if f n = -1 then 0 else 1)
theorem cntW_in (f : Nat → Int) (n : Nat) : 0 ≤ cntW f n ∧ cntW f n ≤ n := by
  induction n with
  | zero => exact ⟨Int.le_refl 0, Int.le_refl 0⟩
  | succ n ih =>
    have h : cntW f (n + 1) = cntW f n + (if f n = -1 then 0 else 1) := rfl
    rw [h]
    split <;> constructor <;> omega
/-- a row anew -/
def row (im : IM) (k i : Nat) (f : Nat → Int) : IM := fun k' i' s' => if k' = k ∧ i' = i then f s' else im k' i' s'
theorem row_app (im : IM) (k i : Nat) (f : Nat → Int) (k' i' s' : Nat) : row im k i f k' i' s' = if k' = k ∧ i' = i then f s' else im k' i' s' := rfl
theorem RI_row {im : IM} {k i : Nat} {f : Nat → Int} (h : RI im) (hf : ∀ s, ri (f s)) : RI (row im k i f) := by
  intro k' i' s'
  unfold row
  split
  · exact hf _
  · exact h _ _ _
theorem cpy_app {α : Type} (f : Nat → Nat → Nat → α) (ks is sp kd id dp n k i s : Nat) : cpy f ks is sp kd id dp n k i s = if k = kd ∧ i = id ∧ dp ≤ s ∧ s < dp + n then f ks is (sp + (s - dp)) else f k i s := rfl
theorem RI_cpy {im : IM} {ks is sp kd id dp n : Nat} (h : RI im) : RI (cpy im ks is sp kd id dp n) := by
  intro k i s
  unfold cpy
  split <;> exact h _ _ _
/-! texts: a machine with a stack -/
def us (k : Nat → Int) (t : Nat) (x : Int) : Nat → Int := fun j => if j = t then x else k j
def un1 (s b : Int) : Int := if s = -7 then bm (-b) else (if b = 0 then 1 else 0)
def bi2 (s a b : Int) : Int := if s = -9 then bm (a * b) else if s = -10 then bm (a + b) else if s = -11 then bm (a - b) else if s = -12 then (if a < b then 1 else 0) else if s = -13 then (if a = b then 1 else 0) else if s = -14 then (if a ≠ 0 ∧ b ≠ 0 then 1 else 0) else (if a ≠ 0 ∨ b ≠ 0 then 1 else 0)
def putS (nm : Nat → Int) (s : Int) (q : Nat × (Nat → Int)) : Nat × (Nat → Int) := if q.1 < 31 then (q.1 + 1, us q.2 q.1 (if 0 ≤ s then s else nm (-1 - s).toNat)) else q
def joinS (s : Int) (q : Nat × (Nat → Int)) : Nat × (Nat → Int) := if -8 ≤ s then (if q.1 < 1 then q else (q.1, us q.2 (q.1 - 1) (un1 s (q.2 (q.1 - 1))))) else (if q.1 < 2 then q else (q.1 - 1, us q.2 (q.1 - 2) (bi2 s (q.2 (q.1 - 2)) (q.2 (q.1 - 1)))))
def stepS (nm : Nat → Int) (s : Int) (q : Nat × (Nat → Int)) : Nat × (Nat → Int) := if -7 < s then putS nm s q else joinS s q
def runS (f nm : Nat → Int) : Nat → Nat → Nat × (Nat → Int) → Nat × (Nat → Int)
  | _, 0, q => q
  | i, n + 1, q => runS f nm (i + 1) n (stepS nm (f i) q)
theorem stepS_top {nm : Nat → Int} {s : Int} {q : Nat × (Nat → Int)} (h : q.1 ≤ 31) : (stepS nm s q).1 ≤ 31 := by
  unfold stepS putS joinS
  repeat' split
  all_goals first | omega | (simp only []; omega)
theorem un1_ri {s b : Int} : ri (un1 s b) := by
  unfold un1
  split
  · exact ri_b _
  · exact ri_01
theorem bi2_ri {s a b : Int} : ri (bi2 s a b) := by
  unfold bi2
  split; · exact ri_b _
  split; · exact ri_b _
  split; · exact ri_b _
  split; · exact ri_01
  split; · exact ri_01
  split; · exact ri_01
  exact ri_01
theorem us_ri {k : Nat → Int} {t : Nat} {x : Int} (h : ∀ s, ri (k s)) (hx : ri x) : ∀ s, ri (us k t x s) := by
  intro s
  unfold us
  split
  · exact hx
  · exact h s
theorem stepS_ri {nm : Nat → Int} {s : Int} {q : Nat × (Nat → Int)} (hs : ri s) (hn : ∀ s, ri (nm s)) (h : ∀ s, ri (q.2 s)) : ∀ j, ri ((stepS nm s q).2 j) := by
  unfold stepS putS joinS
  split
  · split
    · refine us_ri h ?_
      split
      · exact hs
      · exact hn _
    · exact h
  · split
    · split
      · exact h
      · exact us_ri h un1_ri
    · split
      · exact h
      · exact us_ri h bi2_ri
def clip (x : Int) : Int := if x < 0 then 0 else if 99 < x then 99 else x
theorem clip_in (x : Int) : 0 ≤ clip x ∧ clip x ≤ 99 := by
  unfold clip
  split
  · omega
  · split <;> omega
/-- where a part of text j begins and ends -/
def pa (im : IM) (j part : Nat) : Nat := if part = 0 then 0 else (im 4 j (part - 1)).toNat
def pb (im : IM) (j part : Nat) : Nat := (im 4 j part).toNat
/-- the stack behind a part, out of another -/
def tellQ (im : IM) (j part : Nat) (nm k : Nat → Int) : Nat × (Nat → Int) := runS (im 3 j) nm (pa im j part) (pb im j part - pa im j part) (0, k)
/-- what a part tells -/
def tellV (im : IM) (j part : Nat) (nm : Nat → Int) : Int := clip ((tellQ im j part nm (fun _ => 0)).2 0)
/-- a text is good: its ends lie in it, and what it tells doesn't hang on what the stack held -/
def goodT (im : IM) (j : Nat) : Prop := (∀ part, part < 3 → 0 ≤ im 4 j part ∧ im 4 j part ≤ 160) ∧ ∀ part, part < 3 → ∀ nm k, (tellQ im j part nm k).2 0 = (tellQ im j part nm (fun _ => 0)).2 0
theorem tellV_in (im : IM) (j part : Nat) (nm : Nat → Int) : 0 ≤ tellV im j part nm ∧ tellV im j part nm ≤ 99 := clip_in _
/-! Bite -/
/-- what is garbage behind a look at a text: its stack, two of the names -/
def scr (im : IM) (a b : Int) (g : Nat → Nat → Int) : IM := fun k i s => if k = 5 then g i s else if k = 17 ∧ i = 0 ∧ s = 2 then a else if k = 17 ∧ i = 0 ∧ s = 5 then b else im k i s
theorem scr_app (im : IM) (a b : Int) (g : Nat → Nat → Int) (k i s : Nat) : scr im a b g k i s = if k = 5 then g i s else if k = 17 ∧ i = 0 ∧ s = 2 then a else if k = 17 ∧ i = 0 ∧ s = 5 then b else im k i s := rfl
theorem scr_scr (im : IM) (a b a' b' : Int) (g g' : Nat → Nat → Int) : scr (scr im a b g) a' b' g' = scr im a' b' g' := by
  funext k i s
  simp only [scr_app]
  repeat' split
  all_goals rfl
theorem scr_self (im : IM) : scr im (im 17 0 2) (im 17 0 5) (im 5) = im := by
  funext k i s
  simp only [scr_app]
  split
  · rename_i h1; subst h1; rfl
  · split
    · rename_i h2; obtain ⟨rfl, rfl, rfl⟩ := h2; rfl
    · split
      · rename_i h2; obtain ⟨rfl, rfl, rfl⟩ := h2; rfl
      · rfl
theorem RI_scr {im : IM} {a b : Int} {g : Nat → Nat → Int} (h : RI im) (ha : ri a) (hb : ri b) (hg : ∀ i s, ri (g i s)) : RI (scr im a b g) := by
  intro k i s
  rw [scr_app]
  split
  · exact hg _ _
  · split
    · exact ha
    · split
      · exact hb
      · exact h _ _ _
def nmB (im : IM) (stuck now : Int) : Nat → Int := fun s => if s = 2 then now else if s = 5 then stuck else im 17 0 s
def holdsB (im : IM) (j : Nat) (stuck now : Int) : Int := holdsK (im 16 0 2) (im 17 0 3) (tellV im j 1 (nmB im stuck now))
def bearsB (im : IM) (j : Nat) (later c : Int) : Int := bearsK (im 16 0 2) (im 17 0 3) (tellV im j 2 (nmB im (im 16 0 3 + later + 1) (im 16 0 4 + later))) c
def findF (P : Nat → Bool) : Nat → Nat → Int
  | _, 0 => -1
  | i, n + 1 => if P i = true then i else findF P (i + 1) n
def offB (im : IM) (j : Nat) (i : Nat) : Bool := decide (holdsB im j (im 16 0 3 + i + 1) (im 16 0 4 + i) ≤ im 16 0 3 + i + 1)
def goesB (im : IM) (j n : Nat) : Int := if im 17 0 0 = -1 then -1 else findF (offB im j) 0 n
end
section
/-! Kind -/
theorem underK_s (b : Int) (n : Nat) (k : Int) : underK b (n + 1) k = if k = -1 then 0 else if k = b then 1 else underK b n (aboveK k) := rfl
theorem cntW_n {f : Nat → Int} {i : Nat} (h : f i ≠ -1) : cntW f (i + 1) = cntW f i + 1 := by
  show cntW f i + _ = _
  rw [if_neg h]
theorem cntW_p {f : Nat → Int} {i : Nat} (h : f i = -1) : cntW f (i + 1) = cntW f i := by
  show cntW f i + _ = _
  rw [if_pos h, Int.add_zero]

set_option maxHeartbeats 4000000 in
theorem c_X2_takes (l : Launch) (G : GS) (im : IM) (bt rt : Nat) (lm : IM) (k : Int) (v : Int) (k0 : 0 ≤ k) (k1 : k < 6) (v0 : 0 ≤ v) (v1 : v ≤ 99) : Cn l (XC G) yX2_takes Y_X2_takes [vI k, vI v] (im, rs bt rt, lm) (pI fun x m' => x = takesK k v ∧ m' = (im, rs bt rt, lm)) := by
  refine cn_of (by decide) (okC G) rfl (Nat.le_of_ble_eq_true rfl) ?_
  intro M ad hMl F
  subst hMl
  refine wp_pad 0 ?_
  show Wp M (XC G) ad Y_X2_takes (pI fun x m' => x = takesK k v ∧ m' = (im, rs bt rt, lm)) 0 [some (vI k), some (vI v)] [] (im, rs bt rt, lm)
  refine q_iload_n (t := 1) F dX2_takes_0 rfl rfl rfl ?_
  have sw1 : k < 1 ∨ 5 < k ∨ k = 1 ∨ k = 2 ∨ k = 3 ∨ k = 4 ∨ k = 5 := by omega
  rcases sw1 with c1 | c1 | c1 | c1 | c1 | c1 | c1
  · refine q_tableOut (t := 73) F dX2_takes_1 (by first | exact hR _ _ _ | (constructor <;> omega)) (Or.inl c1) (by decide) ?_
    refine q_iload_n (t := 74) F dX2_takes_73 rfl rfl rfl ?_
    refine q_bipush (t := 76) F dX2_takes_74 (by decide) rfl ?_
    refine q_irem (t := 77) F dX2_takes_76 (by first | exact hR _ _ _ | (constructor <;> omega)) (by first | exact hR _ _ _ | (constructor <;> omega)) (by omega) (by omega) rfl ?_
    refine q_iret F dX2_takes_77 rfl ?_
    exact ⟨_, rfl, by unfold takesK; (repeat' split) <;> omega, rfl⟩
  · refine q_tableOut (t := 73) F dX2_takes_1 (by first | exact hR _ _ _ | (constructor <;> omega)) (Or.inr c1) (by decide) ?_
    refine q_iload_n (t := 74) F dX2_takes_73 rfl rfl rfl ?_
    refine q_bipush (t := 76) F dX2_takes_74 (by decide) rfl ?_
    refine q_irem (t := 77) F dX2_takes_76 (by first | exact hR _ _ _ | (constructor <;> omega)) (by first | exact hR _ _ _ | (constructor <;> omega)) (by omega) (by omega) rfl ?_
    refine q_iret F dX2_takes_77 rfl ?_
    exact ⟨_, rfl, by unfold takesK; (repeat' split) <;> omega, rfl⟩
  · refine q_tableIn (t := 36) F dX2_takes_1 (by first | exact hR _ _ _ | (constructor <;> omega)) (by omega) (by omega) (by rw [c1]; rfl) (by decide) ?_
    refine q_iload_n (t := 37) F dX2_takes_36 rfl rfl rfl ?_
    refine q_bipush (t := 39) F dX2_takes_37 (by decide) rfl ?_
    refine q_irem (t := 40) F dX2_takes_39 (by first | exact hR _ _ _ | (constructor <;> omega)) (by first | exact hR _ _ _ | (constructor <;> omega)) (by omega) (by omega) rfl ?_
    refine q_iconst (t := 41) F dX2_takes_40 rfl ?_
    refine q_idiv (t := 42) F dX2_takes_41 (by first | exact hR _ _ _ | (constructor <;> omega)) (by first | exact hR _ _ _ | (constructor <;> omega)) (by omega) (by omega) rfl ?_
    refine q_iret F dX2_takes_42 rfl ?_
    exact ⟨_, rfl, by unfold takesK; (repeat' split) <;> omega, rfl⟩
  · refine q_tableIn (t := 73) F dX2_takes_1 (by first | exact hR _ _ _ | (constructor <;> omega)) (by omega) (by omega) (by rw [c1]; rfl) (by decide) ?_
    refine q_iload_n (t := 74) F dX2_takes_73 rfl rfl rfl ?_
    refine q_bipush (t := 76) F dX2_takes_74 (by decide) rfl ?_
    refine q_irem (t := 77) F dX2_takes_76 (by first | exact hR _ _ _ | (constructor <;> omega)) (by first | exact hR _ _ _ | (constructor <;> omega)) (by omega) (by omega) rfl ?_
    refine q_iret F dX2_takes_77 rfl ?_
    exact ⟨_, rfl, by unfold takesK; (repeat' split) <;> omega, rfl⟩
  · refine q_tableIn (t := 43) F dX2_takes_1 (by first | exact hR _ _ _ | (constructor <;> omega)) (by omega) (by omega) (by rw [c1]; rfl) (by decide) ?_
    refine q_iload_n (t := 44) F dX2_takes_43 rfl rfl rfl ?_
    refine q_iconst (t := 45) F dX2_takes_44 rfl ?_
    refine q_irem (t := 46) F dX2_takes_45 (by first | exact hR _ _ _ | (constructor <;> omega)) (by first | exact hR _ _ _ | (constructor <;> omega)) (by omega) (by omega) rfl ?_
    refine q_if_eq (t := 49) (u := 53) F dX2_takes_46 (by first | exact hR _ _ _ | (constructor <;> omega)) (by decide) rfl (fun c46 => ?_) (fun c46 => ?_)
    · refine q_iload_n (t := 54) F dX2_takes_53 rfl rfl rfl ?_
      refine q_bipush (t := 56) F dX2_takes_54 (by decide) rfl ?_
      refine q_irem (t := 57) F dX2_takes_56 (by first | exact hR _ _ _ | (constructor <;> omega)) (by first | exact hR _ _ _ | (constructor <;> omega)) (by omega) (by omega) rfl ?_
      refine q_iconst (t := 58) F dX2_takes_57 rfl ?_
      refine q_idiv (t := 59) F dX2_takes_58 (by first | exact hR _ _ _ | (constructor <;> omega)) (by first | exact hR _ _ _ | (constructor <;> omega)) (by omega) (by omega) rfl ?_
      refine q_iret F dX2_takes_59 rfl ?_
      exact ⟨_, rfl, by unfold takesK; (repeat' split) <;> omega, rfl⟩
    · refine q_iconst (t := 50) F dX2_takes_49 rfl ?_
      refine q_goto (t := 59) F dX2_takes_50 (by decide) ?_
      refine q_iret F dX2_takes_59 rfl ?_
      exact ⟨_, rfl, by unfold takesK; (repeat' split) <;> omega, rfl⟩
  · refine q_tableIn (t := 60) F dX2_takes_1 (by first | exact hR _ _ _ | (constructor <;> omega)) (by omega) (by omega) (by rw [c1]; rfl) (by decide) ?_
    refine q_bipush (t := 62) F dX2_takes_60 (by decide) rfl ?_
    refine q_iload_n (t := 63) F dX2_takes_62 rfl rfl rfl ?_
    refine q_bipush (t := 65) F dX2_takes_63 (by decide) rfl ?_
    refine q_irem (t := 66) F dX2_takes_65 (by first | exact hR _ _ _ | (constructor <;> omega)) (by first | exact hR _ _ _ | (constructor <;> omega)) (by omega) (by omega) rfl ?_
    refine q_isub (t := 67) F dX2_takes_66 rfl ?_
    refine q_iret F dX2_takes_67 rfl ?_
    exact ⟨_, rfl, by unfold takesK; (repeat' split) <;> omega, rfl⟩
  · refine q_tableIn (t := 68) F dX2_takes_1 (by first | exact hR _ _ _ | (constructor <;> omega)) (by omega) (by omega) (by rw [c1]; rfl) (by decide) ?_
    refine q_iload_n (t := 69) F dX2_takes_68 rfl rfl rfl ?_
    refine q_bipush (t := 71) F dX2_takes_69 (by decide) rfl ?_
    refine q_idiv (t := 72) F dX2_takes_71 (by first | exact hR _ _ _ | (constructor <;> omega)) (by first | exact hR _ _ _ | (constructor <;> omega)) (by omega) (by omega) rfl ?_
    refine q_iret F dX2_takes_72 rfl ?_
    exact ⟨_, rfl, by unfold takesK; (repeat' split) <;> omega, rfl⟩

set_option maxHeartbeats 4000000 in
theorem c_X2_heldFor (l : Launch) (G : GS) (im : IM) (bt rt : Nat) (lm : IM) (k : Int) (n : Int) (v : Int) (k0 : 0 ≤ k) (k1 : k < 6) (n0 : 0 ≤ n) (n1 : n < 10) (v0 : 0 ≤ v) (v1 : v ≤ 99) : Cn l (XC G) yX2_heldFor Y_X2_heldFor [vI k, vI n, vI v] (im, rs bt rt, lm) (pI fun x m' => x = heldK k n v ∧ m' = (im, rs bt rt, lm)) := by
  refine cn_of (by decide) (okC G) rfl (Nat.le_of_ble_eq_true rfl) ?_
  intro M ad hMl F
  subst hMl
  refine wp_pad 0 ?_
  show Wp M (XC G) ad Y_X2_heldFor (pI fun x m' => x = heldK k n v ∧ m' = (im, rs bt rt, lm)) 0 [some (vI k), some (vI n), some (vI v)] [] (im, rs bt rt, lm)
  refine q_iload_n (t := 1) F dX2_heldFor_0 rfl rfl rfl ?_
  have sw1 : k < 1 ∨ 5 < k ∨ k = 1 ∨ k = 2 ∨ k = 3 ∨ k = 4 ∨ k = 5 := by omega
  rcases sw1 with c1 | c1 | c1 | c1 | c1 | c1 | c1
  · refine q_tableOut (t := 61) F dX2_heldFor_1 (by first | exact hR _ _ _ | (constructor <;> omega)) (Or.inl c1) (by decide) ?_
    refine q_iload_n (t := 62) F dX2_heldFor_61 rfl rfl rfl ?_
    refine q_iret F dX2_heldFor_62 rfl ?_
    exact ⟨_, rfl, by unfold heldK; (repeat' split) <;> omega, rfl⟩
  · refine q_tableOut (t := 61) F dX2_heldFor_1 (by first | exact hR _ _ _ | (constructor <;> omega)) (Or.inr c1) (by decide) ?_
    refine q_iload_n (t := 62) F dX2_heldFor_61 rfl rfl rfl ?_
    refine q_iret F dX2_heldFor_62 rfl ?_
    exact ⟨_, rfl, by unfold heldK; (repeat' split) <;> omega, rfl⟩
  · refine q_tableIn (t := 36) F dX2_heldFor_1 (by first | exact hR _ _ _ | (constructor <;> omega)) (by omega) (by omega) (by rw [c1]; rfl) (by decide) ?_
    refine q_iload_n (t := 37) F dX2_heldFor_36 rfl rfl rfl ?_
    refine q_iload_n (t := 38) F dX2_heldFor_37 rfl rfl rfl ?_
    refine q_iadd (t := 39) F dX2_heldFor_38 rfl ?_
    refine q_iret F dX2_heldFor_39 rfl ?_
    exact ⟨_, rfl, by unfold heldK; (repeat' split) <;> omega, rfl⟩
  · refine q_tableIn (t := 40) F dX2_heldFor_1 (by first | exact hR _ _ _ | (constructor <;> omega)) (by omega) (by omega) (by rw [c1]; rfl) (by decide) ?_
    refine q_iload_n (t := 41) F dX2_heldFor_40 rfl rfl rfl ?_
    refine q_iconst (t := 42) F dX2_heldFor_41 rfl ?_
    refine q_idiv (t := 43) F dX2_heldFor_42 (by first | exact hR _ _ _ | (constructor <;> omega)) (by first | exact hR _ _ _ | (constructor <;> omega)) (by omega) (by omega) rfl ?_
    refine q_iret F dX2_heldFor_43 rfl ?_
    exact ⟨_, rfl, by unfold heldK; (repeat' split) <;> omega, rfl⟩
  · refine q_tableIn (t := 44) F dX2_heldFor_1 (by first | exact hR _ _ _ | (constructor <;> omega)) (by omega) (by omega) (by rw [c1]; rfl) (by decide) ?_
    refine q_iload_n (t := 45) F dX2_heldFor_44 rfl rfl rfl ?_
    refine q_iload_n (t := 46) F dX2_heldFor_45 rfl rfl rfl ?_
    refine q_iadd (t := 47) F dX2_heldFor_46 rfl ?_
    refine q_iconst (t := 48) F dX2_heldFor_47 rfl ?_
    refine q_isub (t := 49) F dX2_heldFor_48 rfl ?_
    refine q_iret F dX2_heldFor_49 rfl ?_
    exact ⟨_, rfl, by unfold heldK; (repeat' split) <;> omega, rfl⟩
  · refine q_tableIn (t := 50) F dX2_heldFor_1 (by first | exact hR _ _ _ | (constructor <;> omega)) (by omega) (by omega) (by rw [c1]; rfl) (by decide) ?_
    refine q_iload_n (t := 51) F dX2_heldFor_50 rfl rfl rfl ?_
    refine q_iconst (t := 52) F dX2_heldFor_51 rfl ?_
    refine q_idiv (t := 53) F dX2_heldFor_52 (by first | exact hR _ _ _ | (constructor <;> omega)) (by first | exact hR _ _ _ | (constructor <;> omega)) (by omega) (by omega) rfl ?_
    refine q_iret F dX2_heldFor_53 rfl ?_
    exact ⟨_, rfl, by unfold heldK; (repeat' split) <;> omega, rfl⟩
  · refine q_tableIn (t := 54) F dX2_heldFor_1 (by first | exact hR _ _ _ | (constructor <;> omega)) (by omega) (by omega) (by rw [c1]; rfl) (by decide) ?_
    refine q_iload_n (t := 55) F dX2_heldFor_54 rfl rfl rfl ?_
    refine q_bipush (t := 57) F dX2_heldFor_55 (by decide) rfl ?_
    refine wp_min (t := 60) F dX2_heldFor_57 ml_X2_21 st_J9_min_7cf53 in_J9 cd_J9_min_7cf53 (Nat.le_of_ble_eq_true rfl) (by decide) (by first | exact hR _ _ _ | (constructor <;> omega)) (by first | exact hR _ _ _ | (constructor <;> omega)) rfl ?_
    refine q_iret F dX2_heldFor_60 rfl ?_
    exact ⟨_, rfl, by unfold heldK; (repeat' split) <;> omega, rfl⟩

theorem heldK_in {k n v : Int} (n0 : 0 ≤ n) (n1 : n < 10) (v0 : 0 ≤ v) (v1 : v ≤ 99) : -3 ≤ heldK k n v ∧ heldK k n v ≤ 108 := by
  unfold heldK
  repeat' split
  all_goals omega
theorem holdsK_in {k n v : Int} (n0 : 0 ≤ n) (n1 : n < 10) (v0 : 0 ≤ v) (v1 : v ≤ 99) : 1 ≤ holdsK k n v ∧ holdsK k n v ≤ 108 := by
  have := heldK_in (k := k) n0 n1 v0 v1
  unfold holdsK
  split <;> omega
theorem bearsK_in {k n v c : Int} (n0 : 0 ≤ n) (n1 : n < 10) (v0 : 0 ≤ v) (v1 : v ≤ 99) : 0 ≤ bearsK k n v c ∧ bearsK k n v c ≤ 700 := by
  unfold bearsK
  repeat' split
  all_goals omega
theorem takesK_in {k v : Int} (v0 : 0 ≤ v) (v1 : v ≤ 99) : -1 ≤ takesK k v ∧ takesK k v ≤ 9 := by
  unfold takesK
  repeat' split
  all_goals omega

set_option maxHeartbeats 4000000 in
theorem c_X2_holds (l : Launch) (G : GS) (im : IM) (bt rt : Nat) (lm : IM) (k n v : Int) (k0 : 0 ≤ k) (k1 : k < 6) (n0 : 0 ≤ n) (n1 : n < 10) (v0 : 0 ≤ v) (v1 : v ≤ 99) : Cn l (XC G) yX2_holds Y_X2_holds [vI k, vI n, vI v] (im, rs bt rt, lm) (pI fun x m' => x = holdsK k n v ∧ m' = (im, rs bt rt, lm)) := by
  refine cn_of (by decide) (okC G) rfl (Nat.le_of_ble_eq_true rfl) ?_
  intro M ad hMl F
  subst hMl
  refine wp_pad 0 ?_
  show Wp M (XC G) ad Y_X2_holds (pI fun x m' => x = holdsK k n v ∧ m' = (im, rs bt rt, lm)) 0 [some (vI k), some (vI n), some (vI v)] [] (im, rs bt rt, lm)
  refine q_iconst (t := 1) F dX2_holds_0 rfl ?_
  refine q_iload_n (t := 2) F dX2_holds_1 rfl rfl rfl ?_
  refine q_iload_n (t := 3) F dX2_holds_2 rfl rfl rfl ?_
  refine q_iload_n (t := 4) F dX2_holds_3 rfl rfl rfl ?_
  refine wp_callS (t := 7) [_, _, _] F dX2_holds_4 k_X2_heldFor st_X2_heldFor ml_X2_9 rfl rfl (Nat.le_of_ble_eq_true rfl) (by decide) (c_X2_heldFor _ G im bt rt lm k n v k0 k1 n0 n1 v0 v1) rfl (kI ?_)
  rintro y m' ⟨rfl, rfl⟩
  have hh := heldK_in (k := k) n0 n1 v0 v1
  refine wp_max (t := 10) F dX2_holds_7 ml_X2_15 st_J9_max_7cf53 in_J9 cd_J9_max_7cf53 (Nat.le_of_ble_eq_true rfl) (by decide) (by first | exact hR _ _ _ | (constructor <;> omega)) (by first | exact hR _ _ _ | (constructor <;> omega)) rfl ?_
  refine q_iret F dX2_holds_10 rfl ?_
  exact ⟨_, rfl, rfl, rfl⟩

set_option maxHeartbeats 4000000 in
theorem c_X2_bears (l : Launch) (G : GS) (im : IM) (bt rt : Nat) (lm : IM) (k : Int) (n : Int) (v : Int) (c : Int) (k0 : 0 ≤ k) (k1 : k < 6) (n0 : 0 ≤ n) (n1 : n < 10) (v0 : 0 ≤ v) (v1 : v ≤ 99) (c0 : 0 ≤ c) (c1 : c ≤ 1) : Cn l (XC G) yX2_bears Y_X2_bears [vI k, vI n, vI v, vI c] (im, rs bt rt, lm) (pI fun x m' => x = bearsK k n v c ∧ m' = (im, rs bt rt, lm)) := by
  refine cn_of (by decide) (okC G) rfl (Nat.le_of_ble_eq_true rfl) ?_
  intro M ad hMl F
  subst hMl
  refine wp_pad 1 ?_
  show Wp M (XC G) ad Y_X2_bears (pI fun x m' => x = bearsK k n v c ∧ m' = (im, rs bt rt, lm)) 0 [some (vI k), some (vI n), some (vI v), some (vI c), none] [] (im, rs bt rt, lm)
  refine q_iload_n (t := 1) F dX2_bears_0 rfl rfl rfl ?_
  refine q_if_eq (t := 4) (u := 10) F dX2_bears_1 (by first | exact hR _ _ _ | (constructor <;> omega)) (by decide) rfl (fun c1 => ?_) (fun c1 => ?_)
  · refine q_iload_n (t := 11) F dX2_bears_10 rfl rfl rfl ?_
    refine q_istore (t := 13) F dX2_bears_11 (by decide) rfl rfl ?_
    refine q_iload_n (t := 14) F dX2_bears_13 rfl rfl rfl ?_
    have sw14 : k < 2 ∨ 5 < k ∨ k = 2 ∨ k = 3 ∨ k = 4 ∨ k = 5 := by omega
    rcases sw14 with c14 | c14 | c14 | c14 | c14 | c14
    · refine q_tableOut (t := 69) F dX2_bears_14 (by first | exact hR _ _ _ | (constructor <;> omega)) (Or.inl c14) (by decide) ?_
      refine q_iload (t := 71) F dX2_bears_69 rfl rfl ?_
      refine q_iret F dX2_bears_71 rfl ?_
      exact ⟨_, rfl, by unfold bearsK; (repeat' split) <;> omega, rfl⟩
    · refine q_tableOut (t := 69) F dX2_bears_14 (by first | exact hR _ _ _ | (constructor <;> omega)) (Or.inr c14) (by decide) ?_
      refine q_iload (t := 71) F dX2_bears_69 rfl rfl ?_
      refine q_iret F dX2_bears_71 rfl ?_
      exact ⟨_, rfl, by unfold bearsK; (repeat' split) <;> omega, rfl⟩
    · refine q_tableIn (t := 44) F dX2_bears_14 (by first | exact hR _ _ _ | (constructor <;> omega)) (by omega) (by omega) (by rw [c14]; rfl) (by decide) ?_
      refine q_iload (t := 46) F dX2_bears_44 rfl rfl ?_
      refine q_iload_n (t := 47) F dX2_bears_46 rfl rfl rfl ?_
      refine q_iadd (t := 48) F dX2_bears_47 rfl ?_
      refine q_iret F dX2_bears_48 rfl ?_
      exact ⟨_, rfl, by unfold bearsK; (repeat' split) <;> omega, rfl⟩
    · refine q_tableIn (t := 69) F dX2_bears_14 (by first | exact hR _ _ _ | (constructor <;> omega)) (by omega) (by omega) (by rw [c14]; rfl) (by decide) ?_
      refine q_iload (t := 71) F dX2_bears_69 rfl rfl ?_
      refine q_iret F dX2_bears_71 rfl ?_
      exact ⟨_, rfl, by unfold bearsK; (repeat' split) <;> omega, rfl⟩
    · refine q_tableIn (t := 49) F dX2_bears_14 (by first | exact hR _ _ _ | (constructor <;> omega)) (by omega) (by omega) (by rw [c14]; rfl) (by decide) ?_
      refine q_iload_n (t := 50) F dX2_bears_49 rfl rfl rfl ?_
      refine q_if_eq (t := 53) (u := 62) F dX2_bears_50 (by first | exact hR _ _ _ | (constructor <;> omega)) (by decide) rfl (fun c50 => ?_) (fun c50 => ?_)
      · refine q_iload (t := 64) F dX2_bears_62 rfl rfl ?_
        refine q_iload_n (t := 65) F dX2_bears_64 rfl rfl rfl ?_
        refine q_iadd (t := 66) F dX2_bears_65 rfl ?_
        refine q_iret F dX2_bears_66 rfl ?_
        exact ⟨_, rfl, by unfold bearsK; (repeat' split) <;> omega, rfl⟩
      · refine q_iconst (t := 54) F dX2_bears_53 rfl ?_
        refine q_iload (t := 56) F dX2_bears_54 rfl rfl ?_
        refine q_iload_n (t := 57) F dX2_bears_56 rfl rfl rfl ?_
        refine q_iadd (t := 58) F dX2_bears_57 rfl ?_
        refine q_imul (t := 59) F dX2_bears_58 rfl ?_
        refine q_goto (t := 66) F dX2_bears_59 (by decide) ?_
        refine q_iret F dX2_bears_66 rfl ?_
        exact ⟨_, rfl, by unfold bearsK; (repeat' split) <;> omega, rfl⟩
    · refine q_tableIn (t := 67) F dX2_bears_14 (by first | exact hR _ _ _ | (constructor <;> omega)) (by omega) (by omega) (by rw [c14]; rfl) (by decide) ?_
      refine q_iconst (t := 68) F dX2_bears_67 rfl ?_
      refine q_iret F dX2_bears_68 rfl ?_
      exact ⟨_, rfl, by unfold bearsK; (repeat' split) <;> omega, rfl⟩
  · refine q_iconst (t := 5) F dX2_bears_4 rfl ?_
    refine q_iload_n (t := 6) F dX2_bears_5 rfl rfl rfl ?_
    refine q_imul (t := 7) F dX2_bears_6 rfl ?_
    refine q_goto (t := 11) F dX2_bears_7 (by decide) ?_
    refine q_istore (t := 13) F dX2_bears_11 (by decide) rfl rfl ?_
    refine q_iload_n (t := 14) F dX2_bears_13 rfl rfl rfl ?_
    have sw14 : k < 2 ∨ 5 < k ∨ k = 2 ∨ k = 3 ∨ k = 4 ∨ k = 5 := by omega
    rcases sw14 with c14 | c14 | c14 | c14 | c14 | c14
    · refine q_tableOut (t := 69) F dX2_bears_14 (by first | exact hR _ _ _ | (constructor <;> omega)) (Or.inl c14) (by decide) ?_
      refine q_iload (t := 71) F dX2_bears_69 rfl rfl ?_
      refine q_iret F dX2_bears_71 rfl ?_
      exact ⟨_, rfl, by unfold bearsK; (repeat' split) <;> omega, rfl⟩
    · refine q_tableOut (t := 69) F dX2_bears_14 (by first | exact hR _ _ _ | (constructor <;> omega)) (Or.inr c14) (by decide) ?_
      refine q_iload (t := 71) F dX2_bears_69 rfl rfl ?_
      refine q_iret F dX2_bears_71 rfl ?_
      exact ⟨_, rfl, by unfold bearsK; (repeat' split) <;> omega, rfl⟩
    · refine q_tableIn (t := 44) F dX2_bears_14 (by first | exact hR _ _ _ | (constructor <;> omega)) (by omega) (by omega) (by rw [c14]; rfl) (by decide) ?_
      refine q_iload (t := 46) F dX2_bears_44 rfl rfl ?_
      refine q_iload_n (t := 47) F dX2_bears_46 rfl rfl rfl ?_
      refine q_iadd (t := 48) F dX2_bears_47 rfl ?_
      refine q_iret F dX2_bears_48 rfl ?_
      exact ⟨_, rfl, by unfold bearsK; (repeat' split) <;> omega, rfl⟩
    · refine q_tableIn (t := 69) F dX2_bears_14 (by first | exact hR _ _ _ | (constructor <;> omega)) (by omega) (by omega) (by rw [c14]; rfl) (by decide) ?_
      refine q_iload (t := 71) F dX2_bears_69 rfl rfl ?_
      refine q_iret F dX2_bears_71 rfl ?_
      exact ⟨_, rfl, by unfold bearsK; (repeat' split) <;> omega, rfl⟩
    · refine q_tableIn (t := 49) F dX2_bears_14 (by first | exact hR _ _ _ | (constructor <;> omega)) (by omega) (by omega) (by rw [c14]; rfl) (by decide) ?_
      refine q_iload_n (t := 50) F dX2_bears_49 rfl rfl rfl ?_
      refine q_if_eq (t := 53) (u := 62) F dX2_bears_50 (by first | exact hR _ _ _ | (constructor <;> omega)) (by decide) rfl (fun c50 => ?_) (fun c50 => ?_)
      · refine q_iload (t := 64) F dX2_bears_62 rfl rfl ?_
        refine q_iload_n (t := 65) F dX2_bears_64 rfl rfl rfl ?_
        refine q_iadd (t := 66) F dX2_bears_65 rfl ?_
        refine q_iret F dX2_bears_66 rfl ?_
        exact ⟨_, rfl, by unfold bearsK; (repeat' split) <;> omega, rfl⟩
      · refine q_iconst (t := 54) F dX2_bears_53 rfl ?_
        refine q_iload (t := 56) F dX2_bears_54 rfl rfl ?_
        refine q_iload_n (t := 57) F dX2_bears_56 rfl rfl rfl ?_
        refine q_iadd (t := 58) F dX2_bears_57 rfl ?_
        refine q_imul (t := 59) F dX2_bears_58 rfl ?_
        refine q_goto (t := 66) F dX2_bears_59 (by decide) ?_
        refine q_iret F dX2_bears_66 rfl ?_
        exact ⟨_, rfl, by unfold bearsK; (repeat' split) <;> omega, rfl⟩
    · refine q_tableIn (t := 67) F dX2_bears_14 (by first | exact hR _ _ _ | (constructor <;> omega)) (by omega) (by omega) (by rw [c14]; rfl) (by decide) ?_
      refine q_iconst (t := 68) F dX2_bears_67 rfl ?_
      refine q_iret F dX2_bears_68 rfl ?_
      exact ⟨_, rfl, by unfold bearsK; (repeat' split) <;> omega, rfl⟩

set_option maxHeartbeats 4000000 in
theorem c_X2_above (l : Launch) (G : GS) (im : IM) (bt rt : Nat) (lm : IM) (k : Int) (k0 : -1 ≤ k) (k1 : k < 6) : Cn l (XC G) yX2_above Y_X2_above [vI k] (im, rs bt rt, lm) (pI fun x m' => x = aboveK k ∧ m' = (im, rs bt rt, lm)) := by
  refine cn_of (by decide) (okC G) rfl (Nat.le_of_ble_eq_true rfl) ?_
  intro M ad hMl F
  subst hMl
  refine wp_pad 0 ?_
  show Wp M (XC G) ad Y_X2_above (pI fun x m' => x = aboveK k ∧ m' = (im, rs bt rt, lm)) 0 [some (vI k)] [] (im, rs bt rt, lm)
  refine q_iload_n (t := 1) F dX2_above_0 rfl rfl rfl ?_
  have sw1 : k < 1 ∨ 5 < k ∨ k = 1 ∨ k = 2 ∨ k = 3 ∨ k = 4 ∨ k = 5 := by omega
  rcases sw1 with c1 | c1 | c1 | c1 | c1 | c1 | c1
  · refine q_tableOut (t := 46) F dX2_above_1 (by first | exact hR _ _ _ | (constructor <;> omega)) (Or.inl c1) (by decide) ?_
    refine q_iconst (t := 47) F dX2_above_46 rfl ?_
    refine q_iret F dX2_above_47 rfl ?_
    exact ⟨_, rfl, by unfold aboveK; (repeat' split) <;> omega, rfl⟩
  · refine q_tableOut (t := 46) F dX2_above_1 (by first | exact hR _ _ _ | (constructor <;> omega)) (Or.inr c1) (by decide) ?_
    refine q_iconst (t := 47) F dX2_above_46 rfl ?_
    refine q_iret F dX2_above_47 rfl ?_
    exact ⟨_, rfl, by unfold aboveK; (repeat' split) <;> omega, rfl⟩
  · refine q_tableIn (t := 36) F dX2_above_1 (by first | exact hR _ _ _ | (constructor <;> omega)) (by omega) (by omega) (by rw [c1]; rfl) (by decide) ?_
    refine q_iconst (t := 37) F dX2_above_36 rfl ?_
    refine q_iret F dX2_above_37 rfl ?_
    exact ⟨_, rfl, by unfold aboveK; (repeat' split) <;> omega, rfl⟩
  · refine q_tableIn (t := 38) F dX2_above_1 (by first | exact hR _ _ _ | (constructor <;> omega)) (by omega) (by omega) (by rw [c1]; rfl) (by decide) ?_
    refine q_iconst (t := 39) F dX2_above_38 rfl ?_
    refine q_iret F dX2_above_39 rfl ?_
    exact ⟨_, rfl, by unfold aboveK; (repeat' split) <;> omega, rfl⟩
  · refine q_tableIn (t := 40) F dX2_above_1 (by first | exact hR _ _ _ | (constructor <;> omega)) (by omega) (by omega) (by rw [c1]; rfl) (by decide) ?_
    refine q_iconst (t := 41) F dX2_above_40 rfl ?_
    refine q_iret F dX2_above_41 rfl ?_
    exact ⟨_, rfl, by unfold aboveK; (repeat' split) <;> omega, rfl⟩
  · refine q_tableIn (t := 42) F dX2_above_1 (by first | exact hR _ _ _ | (constructor <;> omega)) (by omega) (by omega) (by rw [c1]; rfl) (by decide) ?_
    refine q_iconst (t := 43) F dX2_above_42 rfl ?_
    refine q_iret F dX2_above_43 rfl ?_
    exact ⟨_, rfl, by unfold aboveK; (repeat' split) <;> omega, rfl⟩
  · refine q_tableIn (t := 44) F dX2_above_1 (by first | exact hR _ _ _ | (constructor <;> omega)) (by omega) (by omega) (by rw [c1]; rfl) (by decide) ?_
    refine q_iconst (t := 45) F dX2_above_44 rfl ?_
    refine q_iret F dX2_above_45 rfl ?_
    exact ⟨_, rfl, by unfold aboveK; (repeat' split) <;> omega, rfl⟩

theorem aboveK_in {k : Int} : -1 ≤ aboveK k ∧ aboveK k < 6 := by
  unfold aboveK
  repeat' split
  all_goals omega

set_option maxHeartbeats 4000000 in
theorem c_X2_isUnder (l : Launch) (G : GS) (im : IM) (bt rt : Nat) (lm : IM) (k b : Int) (k0 : -1 ≤ k) (k1 : k < 6) (b0 : 0 ≤ b) (b1 : b < 6) : Cn l (XC G) yX2_isUnder Y_X2_isUnder [vI k, vI b] (im, rs bt rt, lm) (pI fun x m' => x = underK b 6 k ∧ m' = (im, rs bt rt, lm)) := by
  refine cn_of (by decide) (okC G) rfl (Nat.le_of_ble_eq_true rfl) ?_
  intro M ad hMl F
  subst hMl
  refine wp_pad 2 ?_
  show Wp M (XC G) ad Y_X2_isUnder (pI fun x m' => x = underK b 6 k ∧ m' = (im, rs bt rt, lm)) 0 [some (vI k), some (vI b), none, none] [] (im, rs bt rt, lm)
  refine q_iload_n (t := 1) F dX2_isUnder_0 rfl rfl rfl ?_
  refine q_istore_n (t := 2) F dX2_isUnder_1 rfl (by decide) rfl rfl ?_
  refine q_iconst (t := 3) F dX2_isUnder_2 rfl ?_
  refine q_istore_n (t := 4) F dX2_isUnder_3 rfl (by decide) rfl rfl ?_
  have L4 : ∀ (fz : Nat) (i : Nat) (y : Int), 6 - i < fz → i ≤ 6 → -1 ≤ y → y < 6 → underK b (6 - i) y = underK b 6 k → Wp M (XC G) ad Y_X2_isUnder (pI fun x m' => x = underK b 6 k ∧ m' = (im, rs bt rt, lm)) 4 [some (vI k), some (vI b), some (vI y), some (vI (i : Int))] [] (im, rs bt rt, lm) := by
    intro fz
    induction fz with
    | zero => intro i y h; exact absurd h (Nat.not_lt_zero _)
    | succ fz ih =>
      intro i y hmeas hi y0 y1 hy
      refine q_iload_n (t := 5) F dX2_isUnder_4 rfl rfl rfl ?_
      refine q_bipush (t := 7) F dX2_isUnder_5 (by decide) rfl ?_
      refine q_icmp_ge (t := 10) (u := 33) F dX2_isUnder_7 (by first | exact hR _ _ _ | (constructor <;> omega)) (by first | exact hR _ _ _ | (constructor <;> omega)) (by decide) rfl (fun c7 => ?_) (fun c7 => ?_)
      · refine q_iconst (t := 34) F dX2_isUnder_33 rfl ?_
        refine q_zret F dX2_isUnder_34 rfl (by decide) ?_
        exact ⟨_, rfl, by rw [← hy]; first | (rw [show 6 - i = 0 by omega]; rfl) | (rw [show 6 - i = (5 - i) + 1 by omega]; rw [underK_s, if_pos (by omega)]), rfl⟩
      · refine q_iload_n (t := 11) F dX2_isUnder_10 rfl rfl rfl ?_
        refine q_iconst (t := 12) F dX2_isUnder_11 rfl ?_
        refine q_icmp_eq (t := 15) (u := 33) F dX2_isUnder_12 (by first | exact hR _ _ _ | (constructor <;> omega)) (by first | exact hR _ _ _ | (constructor <;> omega)) (by decide) rfl (fun c12 => ?_) (fun c12 => ?_)
        · refine q_iconst (t := 34) F dX2_isUnder_33 rfl ?_
          refine q_zret F dX2_isUnder_34 rfl (by decide) ?_
          exact ⟨_, rfl, by rw [← hy]; first | (rw [show 6 - i = 0 by omega]; rfl) | (rw [show 6 - i = (5 - i) + 1 by omega]; rw [underK_s, if_pos (by omega)]), rfl⟩
        · refine q_iload_n (t := 16) F dX2_isUnder_15 rfl rfl rfl ?_
          refine q_iload_n (t := 17) F dX2_isUnder_16 rfl rfl rfl ?_
          refine q_icmp_ne (t := 20) (u := 22) F dX2_isUnder_17 (by first | exact hR _ _ _ | (constructor <;> omega)) (by first | exact hR _ _ _ | (constructor <;> omega)) (by decide) rfl (fun c17 => ?_) (fun c17 => ?_)
          · refine q_iload_n (t := 23) F dX2_isUnder_22 rfl rfl rfl ?_
            refine wp_callS (t := 26) [_] F dX2_isUnder_23 k_X2_above st_X2_above ml_X2_24 rfl rfl (Nat.le_of_ble_eq_true rfl) (by decide) (c_X2_above _ G im bt rt lm y y0 y1) rfl (kI ?_)
            rintro z m' ⟨rfl, rfl⟩
            refine q_istore_n (t := 27) F dX2_isUnder_26 rfl (by decide) rfl rfl ?_
            refine q_iinc (t := 30) F dX2_isUnder_27 rfl (by decide) rfl rfl ?_
            refine q_goto (t := 4) F dX2_isUnder_30 (by decide) ?_
            exact ih (i + 1) (aboveK y) (by omega) (by omega) aboveK_in.1 aboveK_in.2 (by rw [← hy]; rw [show 6 - i = (6 - (i + 1)) + 1 by omega]; rw [underK_s, if_neg (by omega), if_neg (by omega)])
          · refine q_iconst (t := 21) F dX2_isUnder_20 rfl ?_
            refine q_zret F dX2_isUnder_21 rfl (by decide) ?_
            exact ⟨_, rfl, by rw [← hy, show 6 - i = (5 - i) + 1 by omega]; rw [underK_s, if_neg (by omega), if_pos (by omega)], rfl⟩
  exact L4 _ 0 k (Nat.lt_succ_self _) (by omega) k0 k1 rfl

/-! Person -/
set_option maxHeartbeats 4000000 in
theorem c_X3_become (l : Launch) (G : GS) (im : IM) (bt rt : Nat) (lm : IM) (p q : Nat) (hp : p < 15) (hq : q < 15) : Cn l (XC G) yX3_become Y_X3_become [vR 21 p, vR 21 q] (im, rs bt rt, lm) (pV fun m' => m' = (cpy (cpy (up (up im 21 p 0 (im 21 q 0)) 21 p 1 (im 21 q 1)) 22 q 0 22 p 0 10) 23 q 0 23 p 0 10, rs bt rt, lm)) := by
  refine cn_of (by decide) (okC G) rfl (Nat.le_of_ble_eq_true rfl) ?_
  intro M ad hMl F
  subst hMl
  refine wp_pad 0 ?_
  show Wp M (XC G) ad Y_X3_become (pV fun m' => m' = (cpy (cpy (up (up im 21 p 0 (im 21 q 0)) 21 p 1 (im 21 q 1)) 22 q 0 22 p 0 10) 23 q 0 23 p 0 10, rs bt rt, lm)) 0 [some (vR 21 p), some (vR 21 q)] [] (im, rs bt rt, lm)
  refine q_aload_n (t := 1) F dX3_become_0 rfl rfl rfl ?_
  refine q_aload_n (t := 2) F dX3_become_1 rfl rfl rfl ?_
  refine g_X3_18 (t := 5) F dX3_become_2 rfl (by omega) rfl ?_
  refine p_X3_18 (t := 8) F dX3_become_5 rfl (by omega) rfl ?_
  refine q_aload_n (t := 9) F dX3_become_8 rfl rfl rfl ?_
  refine q_aload_n (t := 10) F dX3_become_9 rfl rfl rfl ?_
  refine g_X3_22 (t := 13) F dX3_become_10 rfl (by omega) rfl ?_
  try simp only [up_app, row_app, scr_app, cpy_app, Nat.reduceEqDiff, Int.reduceToNat, Int.toNat_natCast, and_true, true_and, and_false, false_and, and_self, reduceIte]
  refine p_X3_22 (t := 16) F dX3_become_13 rfl (by omega) rfl ?_
  refine q_aload_n (t := 17) F dX3_become_16 rfl rfl rfl ?_
  refine g_X3_9 (t := 20) F dX3_become_17 rfl (by omega) rfl ?_
  refine q_iconst (t := 21) F dX3_become_20 rfl ?_
  refine q_aload_n (t := 22) F dX3_become_21 rfl rfl rfl ?_
  refine g_X3_9 (t := 25) F dX3_become_22 rfl (by omega) rfl ?_
  refine q_iconst (t := 26) F dX3_become_25 rfl ?_
  refine q_bipush (t := 28) F dX3_become_26 (by decide) rfl ?_
  refine wp_copy (t := 31) F dX3_become_28 ml_X3_25 nv_J10_arraycopy st_J10_arraycopy in_J10 rfl rfl (by decide) (by decide) (m_22 (by omega)) (m_22 (by omega)) (by omega) (by omega) (by omega) (by omega) (by omega) (Nat.le_of_ble_eq_true rfl) (by decide) rfl ?_
  refine q_aload_n (t := 32) F dX3_become_31 rfl rfl rfl ?_
  refine g_X3_15 (t := 35) F dX3_become_32 rfl (by omega) rfl ?_
  refine q_iconst (t := 36) F dX3_become_35 rfl ?_
  refine q_aload_n (t := 37) F dX3_become_36 rfl rfl rfl ?_
  refine g_X3_15 (t := 40) F dX3_become_37 rfl (by omega) rfl ?_
  refine q_iconst (t := 41) F dX3_become_40 rfl ?_
  refine q_bipush (t := 43) F dX3_become_41 (by decide) rfl ?_
  refine wp_copy (t := 46) F dX3_become_43 ml_X3_25 nv_J10_arraycopy st_J10_arraycopy in_J10 rfl rfl (by decide) (by decide) (m_23 (by omega)) (m_23 (by omega)) (by omega) (by omega) (by omega) (by omega) (by omega) (Nat.le_of_ble_eq_true rfl) (by decide) rfl ?_
  refine q_vret F dX3_become_46 rfl ?_
  exact ⟨rfl, rfl⟩

set_option maxHeartbeats 4000000 in
theorem c_X3_empty (l : Launch) (G : GS) (im : IM) (bt rt : Nat) (lm : IM) (p : Nat) (hp : p < 15) (gap : Nat) (hg : gap < 10) : Cn l (XC G) yX3_empty Y_X3_empty [vR 21 p, vI (gap : Int)] (im, rs bt rt, lm) (pI fun x m' => x = im 22 p gap ∧ m' = (up im 22 p gap (-1), rs bt rt, lm)) := by
  refine cn_of (by decide) (okC G) rfl (Nat.le_of_ble_eq_true rfl) ?_
  intro M ad hMl F
  subst hMl
  refine wp_pad 1 ?_
  show Wp M (XC G) ad Y_X3_empty (pI fun x m' => x = im 22 p gap ∧ m' = (up im 22 p gap (-1), rs bt rt, lm)) 0 [some (vR 21 p), some (vI (gap : Int)), none] [] (im, rs bt rt, lm)
  refine q_aload_n (t := 1) F dX3_empty_0 rfl rfl rfl ?_
  refine g_X3_9 (t := 4) F dX3_empty_1 rfl (by omega) rfl ?_
  refine q_iload_n (t := 5) F dX3_empty_4 rfl rfl rfl ?_
  first | refine ldN_22 (t := 6) F dX3_empty_5 (by omega) (by omega) rfl ?_ | refine ld_22 (t := 6) F dX3_empty_5 (by omega) (by omega) (by omega) rfl ?_
  refine q_istore_n (t := 7) F dX3_empty_6 rfl (by decide) rfl rfl ?_
  refine q_aload_n (t := 8) F dX3_empty_7 rfl rfl rfl ?_
  refine g_X3_9 (t := 11) F dX3_empty_8 rfl (by omega) rfl ?_
  refine q_iload_n (t := 12) F dX3_empty_11 rfl rfl rfl ?_
  refine q_iconst (t := 13) F dX3_empty_12 rfl ?_
  first | refine stN_22 (t := 14) F dX3_empty_13 (by omega) (by omega) rfl ?_ | refine st_22 (t := 14) F dX3_empty_13 (by omega) (by omega) (by omega) rfl ?_
  refine q_iload_n (t := 15) F dX3_empty_14 rfl rfl rfl ?_
  refine q_iret F dX3_empty_15 rfl ?_
  exact ⟨_, rfl, rfl, rfl⟩

set_option maxHeartbeats 4000000 in
theorem c_X3_stuckInAll (l : Launch) (G : GS) (im : IM) (bt rt : Nat) (lm : IM) (p : Nat) (hp : p < 15) (hR : RI im) : Cn l (XC G) yX3_stuckInAll Y_X3_stuckInAll [vR 21 p] (im, rs bt rt, lm) (pI fun x m' => x = cntW (im 22 p) 10 ∧ m' = (im, rs bt rt, lm)) := by
  refine cn_of (by decide) (okC G) rfl (Nat.le_of_ble_eq_true rfl) ?_
  intro M ad hMl F
  subst hMl
  refine wp_pad 2 ?_
  show Wp M (XC G) ad Y_X3_stuckInAll (pI fun x m' => x = cntW (im 22 p) 10 ∧ m' = (im, rs bt rt, lm)) 0 [some (vR 21 p), none, none] [] (im, rs bt rt, lm)
  refine q_iconst (t := 1) F dX3_stuckInAll_0 rfl ?_
  refine q_istore_n (t := 2) F dX3_stuckInAll_1 rfl (by decide) rfl rfl ?_
  refine q_iconst (t := 3) F dX3_stuckInAll_2 rfl ?_
  refine q_istore_n (t := 4) F dX3_stuckInAll_3 rfl (by decide) rfl rfl ?_
  have L4 : ∀ (fz : Nat) (i : Nat), 10 - i < fz → i ≤ 10 → Wp M (XC G) ad Y_X3_stuckInAll (pI fun x m' => x = cntW (im 22 p) 10 ∧ m' = (im, rs bt rt, lm)) 4 [some (vR 21 p), some (vI (cntW (im 22 p) i)), some (vI (i : Int))] [] (im, rs bt rt, lm) := by
    intro fz
    induction fz with
    | zero => intro i h; exact absurd h (Nat.not_lt_zero _)
    | succ fz ih =>
      intro i hmeas hi
      refine q_iload_n (t := 5) F dX3_stuckInAll_4 rfl rfl rfl ?_
      refine q_bipush (t := 7) F dX3_stuckInAll_5 (by decide) rfl ?_
      refine q_icmp_ge (t := 10) (u := 29) F dX3_stuckInAll_7 (by first | exact hR _ _ _ | (constructor <;> omega)) (by first | exact hR _ _ _ | (constructor <;> omega)) (by decide) rfl (fun c7 => ?_) (fun c7 => ?_)
      · refine q_iload_n (t := 30) F dX3_stuckInAll_29 rfl rfl rfl ?_
        refine q_iret F dX3_stuckInAll_30 rfl ?_
        exact ⟨_, rfl, by rw [show i = 10 by omega], rfl⟩
      · refine q_aload_n (t := 11) F dX3_stuckInAll_10 rfl rfl rfl ?_
        refine g_X3_9 (t := 14) F dX3_stuckInAll_11 rfl (by omega) rfl ?_
        refine q_iload_n (t := 15) F dX3_stuckInAll_14 rfl rfl rfl ?_
        first | refine ldN_22 (t := 16) F dX3_stuckInAll_15 (by omega) (by omega) rfl ?_ | refine ld_22 (t := 16) F dX3_stuckInAll_15 (by omega) (by omega) (by omega) rfl ?_
        refine q_iconst (t := 17) F dX3_stuckInAll_16 rfl ?_
        refine q_icmp_eq (t := 20) (u := 23) F dX3_stuckInAll_17 (by first | exact hR _ _ _ | (constructor <;> omega)) (by first | exact hR _ _ _ | (constructor <;> omega)) (by decide) rfl (fun c17 => ?_) (fun c17 => ?_)
        · refine q_iinc (t := 26) F dX3_stuckInAll_23 rfl (by decide) rfl rfl ?_
          refine q_goto (t := 4) F dX3_stuckInAll_26 (by decide) ?_
          first | (rw [← cntW_n c17]; exact ih (i + 1) (by omega) (by omega)) | (rw [← cntW_p c17]; exact ih (i + 1) (by omega) (by omega))
        · refine q_iinc (t := 23) F dX3_stuckInAll_20 rfl (by decide) rfl rfl ?_
          refine q_iinc (t := 26) F dX3_stuckInAll_23 rfl (by decide) rfl rfl ?_
          refine q_goto (t := 4) F dX3_stuckInAll_26 (by decide) ?_
          first | (rw [← cntW_n c17]; exact ih (i + 1) (by omega) (by omega)) | (rw [← cntW_p c17]; exact ih (i + 1) (by omega) (by omega))
  exact L4 _ 0 (Nat.lt_succ_self _) (by omega)

/-! Sheet -/
/-- the first n items 0 -/
def zr (im : IM) (k i n : Nat) : IM := fun k' i' s' => if k' = k ∧ i' = i ∧ s' < n then 0 else im k' i' s'
theorem zr_app (im : IM) (k i n k' i' s' : Nat) : zr im k i n k' i' s' = if k' = k ∧ i' = i ∧ s' < n then 0 else im k' i' s' := rfl
theorem zr_0 (im : IM) (k i : Nat) : zr im k i 0 = im := by
  funext k' i' s'
  rw [zr_app, if_neg (by omega)]
theorem zr_s (im : IM) (k i n : Nat) : up (zr im k i n) k i n 0 = zr im k i (n + 1) := by
  funext k' i' s'
  simp only [up_app, zr_app]
  repeat' split
  all_goals first | rfl | omega
theorem RI_zr {im : IM} {k i n : Nat} (h : RI im) : RI (zr im k i n) := by
  intro k' i' s'
  rw [zr_app]
  split
  · exact ⟨by omega, by omega⟩
  · exact h _ _ _

set_option maxHeartbeats 4000000 in
theorem c_X5_isMissing (l : Launch) (G : GS) (im : IM) (bt rt : Nat) (lm : IM) (j : Nat) (hj : j < 4) (hR : RI im) : Cn l (XC G) yX5_isMissing Y_X5_isMissing [vR 7 j] (im, rs bt rt, lm) (pI fun x m' => x = (if im 7 j 1 = -1 then 1 else 0) ∧ m' = (im, rs bt rt, lm)) := by
  refine cn_of (by decide) (okC G) rfl (Nat.le_of_ble_eq_true rfl) ?_
  intro M ad hMl F
  subst hMl
  refine wp_pad 0 ?_
  show Wp M (XC G) ad Y_X5_isMissing (pI fun x m' => x = (if im 7 j 1 = -1 then 1 else 0) ∧ m' = (im, rs bt rt, lm)) 0 [some (vR 7 j)] [] (im, rs bt rt, lm)
  refine q_aload_n (t := 1) F dX5_isMissing_0 rfl rfl rfl ?_
  refine g_X5_15 (t := 4) F dX5_isMissing_1 rfl (by omega) rfl ?_
  refine q_iconst (t := 5) F dX5_isMissing_4 rfl ?_
  refine q_icmp_ne (t := 8) (u := 12) F dX5_isMissing_5 (by first | exact hR _ _ _ | (constructor <;> omega)) (by first | exact hR _ _ _ | (constructor <;> omega)) (by decide) rfl (fun c5 => ?_) (fun c5 => ?_)
  · refine q_iconst (t := 13) F dX5_isMissing_12 rfl ?_
    refine q_zret F dX5_isMissing_13 rfl (by decide) ?_
    first | exact ⟨_, rfl, by rw [if_pos (by omega)], rfl⟩ | exact ⟨_, rfl, by rw [if_neg (by omega)], rfl⟩
  · refine q_iconst (t := 9) F dX5_isMissing_8 rfl ?_
    refine q_goto (t := 13) F dX5_isMissing_9 (by decide) ?_
    refine q_zret F dX5_isMissing_13 rfl (by decide) ?_
    first | exact ⟨_, rfl, by rw [if_pos (by omega)], rfl⟩ | exact ⟨_, rfl, by rw [if_neg (by omega)], rfl⟩

set_option maxHeartbeats 4000000 in
theorem c_X5_become (l : Launch) (G : GS) (im : IM) (bt rt : Nat) (lm : IM) (j : Nat) (hj : j < 4) (a b : Int) : Cn l (XC G) yX5_become Y_X5_become [vR 7 j, vI a, vI b] (im, rs bt rt, lm) (pV fun m' => m' = (zr (up (up im 7 j 1 a) 7 j 2 b) 8 j 40, rs bt rt, lm)) := by
  refine cn_of (by decide) (okC G) rfl (Nat.le_of_ble_eq_true rfl) ?_
  intro M ad hMl F
  subst hMl
  refine wp_pad 1 ?_
  show Wp M (XC G) ad Y_X5_become (pV fun m' => m' = (zr (up (up im 7 j 1 a) 7 j 2 b) 8 j 40, rs bt rt, lm)) 0 [some (vR 7 j), some (vI a), some (vI b), none] [] (im, rs bt rt, lm)
  refine q_aload_n (t := 1) F dX5_become_0 rfl rfl rfl ?_
  refine q_iload_n (t := 2) F dX5_become_1 rfl rfl rfl ?_
  refine p_X5_15 (t := 5) F dX5_become_2 rfl (by omega) rfl ?_
  refine q_aload_n (t := 6) F dX5_become_5 rfl rfl rfl ?_
  refine q_iload_n (t := 7) F dX5_become_6 rfl rfl rfl ?_
  refine p_X5_19 (t := 10) F dX5_become_7 rfl (by omega) rfl ?_
  refine q_iconst (t := 11) F dX5_become_10 rfl ?_
  refine q_istore_n (t := 12) F dX5_become_11 rfl (by decide) rfl rfl ?_
  have L12 : ∀ (fz : Nat) (i : Nat), 40 - i < fz → i ≤ 40 → Wp M (XC G) ad Y_X5_become (pV fun m' => m' = (zr (up (up im 7 j 1 a) 7 j 2 b) 8 j 40, rs bt rt, lm)) 12 [some (vR 7 j), some (vI a), some (vI b), some (vI (i : Int))] [] (zr (up (up im 7 j 1 a) 7 j 2 b) 8 j i, rs bt rt, lm) := by
    intro fz
    induction fz with
    | zero => intro i h; exact absurd h (Nat.not_lt_zero _)
    | succ fz ih =>
      intro i hmeas hi
      refine q_iload_n (t := 13) F dX5_become_12 rfl rfl rfl ?_
      refine q_bipush (t := 15) F dX5_become_13 (by decide) rfl ?_
      refine q_icmp_ge (t := 18) (u := 31) F dX5_become_15 (by first | exact hR _ _ _ | (constructor <;> omega)) (by first | exact hR _ _ _ | (constructor <;> omega)) (by decide) rfl (fun c15 => ?_) (fun c15 => ?_)
      · refine q_vret F dX5_become_31 rfl ?_
        exact ⟨rfl, by rw [show i = 40 by omega]⟩
      · refine q_aload_n (t := 19) F dX5_become_18 rfl rfl rfl ?_
        refine g_X5_9 (t := 22) F dX5_become_19 rfl (by omega) rfl ?_
        refine q_iload_n (t := 23) F dX5_become_22 rfl rfl rfl ?_
        refine q_iconst (t := 24) F dX5_become_23 rfl ?_
        first | refine stN_8 (t := 25) F dX5_become_24 (by omega) (by omega) rfl ?_ | refine st_8 (t := 25) F dX5_become_24 (by omega) (by omega) (by omega) rfl ?_
        refine q_iinc (t := 28) F dX5_become_25 rfl (by decide) rfl rfl ?_
        refine q_goto (t := 12) F dX5_become_28 (by decide) ?_
        rw [zr_s]
        exact ih (i + 1) (by omega) (by omega)
  have h := L12 _ 0 (Nat.lt_succ_self _) (by omega)
  rw [zr_0] at h
  exact h

/-- what a row of a sort makes of a number -/
def cutN (sort v : Int) : Int := if sort = 0 then v.bmod 256 else if sort = 1 then v.bmod 65536 else v
theorem cutN_ri {t v : Int} (h : ri v) : ri (cutN t v) := by
  have h1 := Int.le_bmod (x := v) (m := 256) (by omega)
  have h2 := Int.bmod_lt (x := v) (m := 256) (by omega)
  have h3 := Int.le_bmod (x := v) (m := 65536) (by omega)
  have h4 := Int.bmod_lt (x := v) (m := 65536) (by omega)
  unfold cutN
  split
  · exact ⟨by omega, by omega⟩
  · split
    · exact ⟨by omega, by omega⟩
    · exact h

set_option maxHeartbeats 4000000 in
theorem c_X5_put (l : Launch) (G : GS) (im : IM) (bt rt : Nat) (lm : IM) (j : Nat) (hj : j < 4) (i : Nat) (hi : i < 40) (v : Int) (hR : RI im) : Cn l (XC G) yX5_put Y_X5_put [vR 7 j, vI (i : Int), vI v] (im, rs bt rt, lm) (pV fun m' => m' = (up im 8 j i (cutN (im 7 j 1) v), rs bt rt, lm)) := by
  refine cn_of (by decide) (okC G) rfl (Nat.le_of_ble_eq_true rfl) ?_
  intro M ad hMl F
  subst hMl
  refine wp_pad 0 ?_
  show Wp M (XC G) ad Y_X5_put (pV fun m' => m' = (up im 8 j i (cutN (im 7 j 1) v), rs bt rt, lm)) 0 [some (vR 7 j), some (vI (i : Int)), some (vI v)] [] (im, rs bt rt, lm)
  refine q_aload_n (t := 1) F dX5_put_0 rfl rfl rfl ?_
  refine g_X5_9 (t := 4) F dX5_put_1 rfl (by omega) rfl ?_
  refine q_iload_n (t := 5) F dX5_put_4 rfl rfl rfl ?_
  refine q_aload_n (t := 6) F dX5_put_5 rfl rfl rfl ?_
  refine g_X5_15 (t := 9) F dX5_put_6 rfl (by omega) rfl ?_
  refine q_if_ne (t := 12) (u := 17) F dX5_put_9 (by first | exact hR _ _ _ | (constructor <;> omega)) (by decide) rfl (fun c9 => ?_) (fun c9 => ?_)
  · refine q_aload_n (t := 18) F dX5_put_17 rfl rfl rfl ?_
    refine g_X5_15 (t := 21) F dX5_put_18 rfl (by omega) rfl ?_
    refine q_iconst (t := 22) F dX5_put_21 rfl ?_
    refine q_icmp_ne (t := 25) (u := 30) F dX5_put_22 (by first | exact hR _ _ _ | (constructor <;> omega)) (by first | exact hR _ _ _ | (constructor <;> omega)) (by decide) rfl (fun c22 => ?_) (fun c22 => ?_)
    · refine q_iload_n (t := 31) F dX5_put_30 rfl rfl rfl ?_
      first | refine stN_8 (t := 32) F dX5_put_31 (by omega) (by omega) rfl ?_ | refine st_8 (t := 32) F dX5_put_31 (by omega) (by omega) (by omega) rfl ?_
      refine q_vret F dX5_put_32 rfl ?_
      refine ⟨rfl, ?_⟩
      show (_ : Mem) = _
      unfold cutN
      first | (rw [if_pos (by omega)]) | (rw [if_neg (by omega), if_pos (by omega)]) | (rw [if_neg (by omega), if_neg (by omega)])
    · refine q_iload_n (t := 26) F dX5_put_25 rfl rfl rfl ?_
      refine q_i2s (t := 27) F dX5_put_26 rfl ?_
      refine q_goto (t := 31) F dX5_put_27 (by decide) ?_
      first | refine stN_8 (t := 32) F dX5_put_31 (by omega) (by omega) rfl ?_ | refine st_8 (t := 32) F dX5_put_31 (by omega) (by omega) (by omega) rfl ?_
      refine q_vret F dX5_put_32 rfl ?_
      refine ⟨rfl, ?_⟩
      show (_ : Mem) = _
      unfold cutN
      first | (rw [if_pos (by omega)]) | (rw [if_neg (by omega), if_pos (by omega)]) | (rw [if_neg (by omega), if_neg (by omega)])
  · refine q_iload_n (t := 13) F dX5_put_12 rfl rfl rfl ?_
    refine q_i2b (t := 14) F dX5_put_13 rfl ?_
    refine q_goto (t := 31) F dX5_put_14 (by decide) ?_
    first | refine stN_8 (t := 32) F dX5_put_31 (by omega) (by omega) rfl ?_ | refine st_8 (t := 32) F dX5_put_31 (by omega) (by omega) (by omega) rfl ?_
    refine q_vret F dX5_put_32 rfl ?_
    refine ⟨rfl, ?_⟩
    show (_ : Mem) = _
    unfold cutN
    first | (rw [if_pos (by omega)]) | (rw [if_neg (by omega), if_pos (by omega)]) | (rw [if_neg (by omega), if_neg (by omega)])

set_option maxHeartbeats 4000000 in
theorem c_X5_holds (l : Launch) (G : GS) (im : IM) (bt rt : Nat) (lm : IM) (j : Nat) (hj : j < 4) (a n : Int) (ha : ri a) (hn : ri n) (z0 : 0 ≤ im 7 j 2) (z1 : im 7 j 2 ≤ 40) (hR : RI im) : Cn l (XC G) yX5_holds Y_X5_holds [vR 7 j, vI a, vI n] (im, rs bt rt, lm) (pI fun x m' => x = (if 0 ≤ a ∧ 0 ≤ n ∧ a + n ≤ im 7 j 2 then 1 else 0) ∧ m' = (im, rs bt rt, lm)) := by
  refine cn_of (by decide) (okC G) rfl (Nat.le_of_ble_eq_true rfl) ?_
  intro M ad hMl F
  subst hMl
  have ha1 := ha.1
  have ha2 := ha.2
  have hn1 := hn.1
  have hn2 := hn.2
  refine wp_pad 0 ?_
  show Wp M (XC G) ad Y_X5_holds (pI fun x m' => x = (if 0 ≤ a ∧ 0 ≤ n ∧ a + n ≤ im 7 j 2 then 1 else 0) ∧ m' = (im, rs bt rt, lm)) 0 [some (vR 7 j), some (vI a), some (vI n)] [] (im, rs bt rt, lm)
  refine q_iload_n (t := 1) F dX5_holds_0 rfl rfl rfl ?_
  refine q_if_lt (t := 4) (u := 30) F dX5_holds_1 (by first | exact hR _ _ _ | (constructor <;> omega)) (by decide) rfl (fun c1 => ?_) (fun c1 => ?_)
  · refine q_iconst (t := 31) F dX5_holds_30 rfl ?_
    refine q_zret F dX5_holds_31 rfl (by decide) ?_
    first | exact ⟨_, rfl, by rw [if_pos (by omega)], rfl⟩ | exact ⟨_, rfl, by rw [if_neg (by omega)], rfl⟩
  · refine q_iload_n (t := 5) F dX5_holds_4 rfl rfl rfl ?_
    refine q_if_lt (t := 8) (u := 30) F dX5_holds_5 (by first | exact hR _ _ _ | (constructor <;> omega)) (by decide) rfl (fun c5 => ?_) (fun c5 => ?_)
    · refine q_iconst (t := 31) F dX5_holds_30 rfl ?_
      refine q_zret F dX5_holds_31 rfl (by decide) ?_
      first | exact ⟨_, rfl, by rw [if_pos (by omega)], rfl⟩ | exact ⟨_, rfl, by rw [if_neg (by omega)], rfl⟩
    · refine q_iload_n (t := 9) F dX5_holds_8 rfl rfl rfl ?_
      refine q_aload_n (t := 10) F dX5_holds_9 rfl rfl rfl ?_
      refine g_X5_19 (t := 13) F dX5_holds_10 rfl (by omega) rfl ?_
      refine q_icmp_gt (t := 16) (u := 30) F dX5_holds_13 (by first | exact hR _ _ _ | (constructor <;> omega)) (by first | exact hR _ _ _ | (constructor <;> omega)) (by decide) rfl (fun c13 => ?_) (fun c13 => ?_)
      · refine q_iconst (t := 31) F dX5_holds_30 rfl ?_
        refine q_zret F dX5_holds_31 rfl (by decide) ?_
        first | exact ⟨_, rfl, by rw [if_pos (by omega)], rfl⟩ | exact ⟨_, rfl, by rw [if_neg (by omega)], rfl⟩
      · refine q_iload_n (t := 17) F dX5_holds_16 rfl rfl rfl ?_
        refine q_aload_n (t := 18) F dX5_holds_17 rfl rfl rfl ?_
        refine g_X5_19 (t := 21) F dX5_holds_18 rfl (by omega) rfl ?_
        refine q_iload_n (t := 22) F dX5_holds_21 rfl rfl rfl ?_
        refine q_isub (t := 23) F dX5_holds_22 rfl ?_
        refine q_icmp_gt (t := 26) (u := 30) F dX5_holds_23 (by first | exact hR _ _ _ | (constructor <;> omega)) (by first | exact hR _ _ _ | (constructor <;> omega)) (by decide) rfl (fun c23 => ?_) (fun c23 => ?_)
        · refine q_iconst (t := 31) F dX5_holds_30 rfl ?_
          refine q_zret F dX5_holds_31 rfl (by decide) ?_
          first | exact ⟨_, rfl, by rw [if_pos (by omega)], rfl⟩ | exact ⟨_, rfl, by rw [if_neg (by omega)], rfl⟩
        · refine q_iconst (t := 27) F dX5_holds_26 rfl ?_
          refine q_goto (t := 31) F dX5_holds_27 (by decide) ?_
          refine q_zret F dX5_holds_31 rfl (by decide) ?_
          first | exact ⟨_, rfl, by rw [if_pos (by omega)], rfl⟩ | exact ⟨_, rfl, by rw [if_neg (by omega)], rfl⟩
end
