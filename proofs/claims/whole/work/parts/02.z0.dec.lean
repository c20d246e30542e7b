theorem dJ0_charAt_5068e_0 : decode cJ0_charAt_5068e 0 = .ok (.aload_n 0, 1) := by decide +kernel
theorem dJ0_charAt_5068e_1 : decode cJ0_charAt_5068e 1 = .ok (.invokevirtual 492, 3) := by decide +kernel
theorem dJ0_charAt_5068e_4 : decode cJ0_charAt_5068e 4 = .ok (.ifCond .eq 12, 3) := by decide +kernel
theorem dJ0_charAt_5068e_7 : decode cJ0_charAt_5068e 7 = .ok (.aload_n 0, 1) := by decide +kernel
theorem dJ0_charAt_5068e_8 : decode cJ0_charAt_5068e 8 = .ok (.getfield 9, 3) := by decide +kernel
theorem dJ0_charAt_5068e_11 : decode cJ0_charAt_5068e 11 = .ok (.iload_n 1, 1) := by decide +kernel
theorem dJ0_charAt_5068e_12 : decode cJ0_charAt_5068e 12 = .ok (.invokestatic 495, 3) := by decide +kernel
theorem dJ0_charAt_5068e_15 : decode cJ0_charAt_5068e 15 = .ok (.ireturn, 1) := by decide +kernel
theorem dJ0_charAt_5068e_16 : decode cJ0_charAt_5068e 16 = .ok (.aload_n 0, 1) := by decide +kernel
theorem dJ0_charAt_5068e_17 : decode cJ0_charAt_5068e 17 = .ok (.getfield 9, 3) := by decide +kernel
theorem dJ0_charAt_5068e_20 : decode cJ0_charAt_5068e 20 = .ok (.iload_n 1, 1) := by decide +kernel
theorem dJ0_charAt_5068e_21 : decode cJ0_charAt_5068e 21 = .ok (.invokestatic 498, 3) := by decide +kernel
theorem dJ0_checkIndex_df160_0 : decode cJ0_checkIndex_df160 0 = .ok (.iload_n 0, 1) := by decide +kernel
theorem dJ0_checkIndex_df160_1 : decode cJ0_checkIndex_df160 1 = .ok (.iload_n 1, 1) := by decide +kernel
theorem dJ0_checkIndex_df160_2 : decode cJ0_checkIndex_df160 2 = .ok (.getstatic 1053, 3) := by decide +kernel
theorem dJ0_checkIndex_df160_5 : decode cJ0_checkIndex_df160 5 = .ok (.invokestatic 1059, 3) := by decide +kernel
theorem dJ0_checkIndex_df160_8 : decode cJ0_checkIndex_df160 8 = .ok (.pop, 1) := by decide +kernel
theorem dJ0_checkIndex_df160_9 : decode cJ0_checkIndex_df160 9 = .ok (.return_, 1) := by decide +kernel
theorem dJ0_coder_7d493_0 : decode cJ0_coder_7d493 0 = .ok (.getstatic 38, 3) := by decide +kernel
theorem dJ0_coder_7d493_3 : decode cJ0_coder_7d493 3 = .ok (.ifCond .eq 10, 3) := by decide +kernel
theorem dJ0_coder_7d493_6 : decode cJ0_coder_7d493 6 = .ok (.aload_n 0, 1) := by decide +kernel
theorem dJ0_coder_7d493_7 : decode cJ0_coder_7d493 7 = .ok (.getfield 15, 3) := by decide +kernel
theorem dJ0_coder_7d493_10 : decode cJ0_coder_7d493 10 = .ok (.goto 4, 3) := by decide +kernel
theorem dJ0_coder_7d493_13 : decode cJ0_coder_7d493 13 = .ok (.iconst 1, 1) := by decide +kernel
theorem dJ0_coder_7d493_14 : decode cJ0_coder_7d493 14 = .ok (.ireturn, 1) := by decide +kernel
theorem dJ0_isLatin1_aae02_0 : decode cJ0_isLatin1_aae02 0 = .ok (.getstatic 38, 3) := by decide +kernel
theorem dJ0_isLatin1_aae02_3 : decode cJ0_isLatin1_aae02 3 = .ok (.ifCond .eq 14, 3) := by decide +kernel
theorem dJ0_isLatin1_aae02_6 : decode cJ0_isLatin1_aae02 6 = .ok (.aload_n 0, 1) := by decide +kernel
theorem dJ0_isLatin1_aae02_7 : decode cJ0_isLatin1_aae02 7 = .ok (.getfield 15, 3) := by decide +kernel
theorem dJ0_isLatin1_aae02_10 : decode cJ0_isLatin1_aae02 10 = .ok (.ifCond .ne 7, 3) := by decide +kernel
theorem dJ0_isLatin1_aae02_13 : decode cJ0_isLatin1_aae02 13 = .ok (.iconst 1, 1) := by decide +kernel
theorem dJ0_isLatin1_aae02_14 : decode cJ0_isLatin1_aae02 14 = .ok (.goto 4, 3) := by decide +kernel
theorem dJ0_isLatin1_aae02_17 : decode cJ0_isLatin1_aae02 17 = .ok (.iconst 0, 1) := by decide +kernel
theorem dJ0_isLatin1_aae02_18 : decode cJ0_isLatin1_aae02 18 = .ok (.ireturn, 1) := by decide +kernel
theorem dJ0_length_8abf5_0 : decode cJ0_length_8abf5 0 = .ok (.aload_n 0, 1) := by decide +kernel
theorem dJ0_length_8abf5_1 : decode cJ0_length_8abf5 1 = .ok (.getfield 9, 3) := by decide +kernel
theorem dJ0_length_8abf5_4 : decode cJ0_length_8abf5 4 = .ok (.arraylength, 1) := by decide +kernel
theorem dJ0_length_8abf5_5 : decode cJ0_length_8abf5 5 = .ok (.aload_n 0, 1) := by decide +kernel
theorem dJ0_length_8abf5_6 : decode cJ0_length_8abf5 6 = .ok (.invokevirtual 335, 3) := by decide +kernel
theorem dJ0_length_8abf5_9 : decode cJ0_length_8abf5 9 = .ok (.ishr, 1) := by decide +kernel
theorem dJ0_length_8abf5_10 : decode cJ0_length_8abf5 10 = .ok (.ireturn, 1) := by decide +kernel
theorem dJ1_charAt_3b067_0 : decode cJ1_charAt_3b067 0 = .ok (.iload_n 1, 1) := by decide +kernel
theorem dJ1_charAt_3b067_1 : decode cJ1_charAt_3b067 1 = .ok (.aload_n 0, 1) := by decide +kernel
theorem dJ1_charAt_3b067_2 : decode cJ1_charAt_3b067 2 = .ok (.arraylength, 1) := by decide +kernel
theorem dJ1_charAt_3b067_3 : decode cJ1_charAt_3b067 3 = .ok (.invokestatic 9, 3) := by decide +kernel
theorem dJ1_charAt_3b067_6 : decode cJ1_charAt_3b067 6 = .ok (.aload_n 0, 1) := by decide +kernel
theorem dJ1_charAt_3b067_7 : decode cJ1_charAt_3b067 7 = .ok (.iload_n 1, 1) := by decide +kernel
theorem dJ1_charAt_3b067_8 : decode cJ1_charAt_3b067 8 = .ok (.baload, 1) := by decide +kernel
theorem dJ1_charAt_3b067_9 : decode cJ1_charAt_3b067 9 = .ok (.sipush 255, 3) := by decide +kernel
theorem dJ1_charAt_3b067_12 : decode cJ1_charAt_3b067 12 = .ok (.iand, 1) := by decide +kernel
theorem dJ1_charAt_3b067_13 : decode cJ1_charAt_3b067 13 = .ok (.i2c, 1) := by decide +kernel
theorem dJ1_charAt_3b067_14 : decode cJ1_charAt_3b067 14 = .ok (.ireturn, 1) := by decide +kernel
theorem dJ3_checkIndex_8e157_0 : decode cJ3_checkIndex_8e157 0 = .ok (.iload_n 0, 1) := by decide +kernel
theorem dJ3_checkIndex_8e157_1 : decode cJ3_checkIndex_8e157 1 = .ok (.ifCond .lt 8, 3) := by decide +kernel
theorem dJ3_checkIndex_8e157_4 : decode cJ3_checkIndex_8e157 4 = .ok (.iload_n 0, 1) := by decide +kernel
theorem dJ3_checkIndex_8e157_5 : decode cJ3_checkIndex_8e157 5 = .ok (.iload_n 1, 1) := by decide +kernel
theorem dJ3_checkIndex_8e157_6 : decode cJ3_checkIndex_8e157 6 = .ok (.if_icmp .lt 10, 3) := by decide +kernel
theorem dJ3_checkIndex_8e157_16 : decode cJ3_checkIndex_8e157 16 = .ok (.iload_n 0, 1) := by decide +kernel
theorem dJ3_checkIndex_8e157_17 : decode cJ3_checkIndex_8e157 17 = .ok (.ireturn, 1) := by decide +kernel
theorem dJ6_bitCount_0f7a4_0 : decode cJ6_bitCount_0f7a4 0 = .ok (.iload_n 0, 1) := by decide +kernel
theorem dJ6_bitCount_0f7a4_1 : decode cJ6_bitCount_0f7a4 1 = .ok (.iload_n 0, 1) := by decide +kernel
theorem dJ6_bitCount_0f7a4_2 : decode cJ6_bitCount_0f7a4 2 = .ok (.iconst 1, 1) := by decide +kernel
theorem dJ6_bitCount_0f7a4_3 : decode cJ6_bitCount_0f7a4 3 = .ok (.iushr, 1) := by decide +kernel
theorem dJ6_bitCount_0f7a4_4 : decode cJ6_bitCount_0f7a4 4 = .ok (.ldc_w 265, 3) := by decide +kernel
theorem dJ6_bitCount_0f7a4_7 : decode cJ6_bitCount_0f7a4 7 = .ok (.iand, 1) := by decide +kernel
theorem dJ6_bitCount_0f7a4_8 : decode cJ6_bitCount_0f7a4 8 = .ok (.isub, 1) := by decide +kernel
theorem dJ6_bitCount_0f7a4_9 : decode cJ6_bitCount_0f7a4 9 = .ok (.istore_n 0, 1) := by decide +kernel
theorem dJ6_bitCount_0f7a4_10 : decode cJ6_bitCount_0f7a4 10 = .ok (.iload_n 0, 1) := by decide +kernel
theorem dJ6_bitCount_0f7a4_11 : decode cJ6_bitCount_0f7a4 11 = .ok (.ldc_w 266, 3) := by decide +kernel
theorem dJ6_bitCount_0f7a4_14 : decode cJ6_bitCount_0f7a4 14 = .ok (.iand, 1) := by decide +kernel
theorem dJ6_bitCount_0f7a4_15 : decode cJ6_bitCount_0f7a4 15 = .ok (.iload_n 0, 1) := by decide +kernel
theorem dJ6_bitCount_0f7a4_16 : decode cJ6_bitCount_0f7a4 16 = .ok (.iconst 2, 1) := by decide +kernel
theorem dJ6_bitCount_0f7a4_17 : decode cJ6_bitCount_0f7a4 17 = .ok (.iushr, 1) := by decide +kernel
theorem dJ6_bitCount_0f7a4_18 : decode cJ6_bitCount_0f7a4 18 = .ok (.ldc_w 266, 3) := by decide +kernel
theorem dJ6_bitCount_0f7a4_21 : decode cJ6_bitCount_0f7a4 21 = .ok (.iand, 1) := by decide +kernel
theorem dJ6_bitCount_0f7a4_22 : decode cJ6_bitCount_0f7a4 22 = .ok (.iadd, 1) := by decide +kernel
theorem dJ6_bitCount_0f7a4_23 : decode cJ6_bitCount_0f7a4 23 = .ok (.istore_n 0, 1) := by decide +kernel
theorem dJ6_bitCount_0f7a4_24 : decode cJ6_bitCount_0f7a4 24 = .ok (.iload_n 0, 1) := by decide +kernel
theorem dJ6_bitCount_0f7a4_25 : decode cJ6_bitCount_0f7a4 25 = .ok (.iload_n 0, 1) := by decide +kernel
theorem dJ6_bitCount_0f7a4_26 : decode cJ6_bitCount_0f7a4 26 = .ok (.iconst 4, 1) := by decide +kernel
theorem dJ6_bitCount_0f7a4_27 : decode cJ6_bitCount_0f7a4 27 = .ok (.iushr, 1) := by decide +kernel
theorem dJ6_bitCount_0f7a4_28 : decode cJ6_bitCount_0f7a4 28 = .ok (.iadd, 1) := by decide +kernel
theorem dJ6_bitCount_0f7a4_29 : decode cJ6_bitCount_0f7a4 29 = .ok (.ldc_w 267, 3) := by decide +kernel
theorem dJ6_bitCount_0f7a4_32 : decode cJ6_bitCount_0f7a4 32 = .ok (.iand, 1) := by decide +kernel
theorem dJ6_bitCount_0f7a4_33 : decode cJ6_bitCount_0f7a4 33 = .ok (.istore_n 0, 1) := by decide +kernel
theorem dJ6_bitCount_0f7a4_34 : decode cJ6_bitCount_0f7a4 34 = .ok (.iload_n 0, 1) := by decide +kernel
theorem dJ6_bitCount_0f7a4_35 : decode cJ6_bitCount_0f7a4 35 = .ok (.iload_n 0, 1) := by decide +kernel
theorem dJ6_bitCount_0f7a4_36 : decode cJ6_bitCount_0f7a4 36 = .ok (.bipush 8, 2) := by decide +kernel
theorem dJ6_bitCount_0f7a4_38 : decode cJ6_bitCount_0f7a4 38 = .ok (.iushr, 1) := by decide +kernel
theorem dJ6_bitCount_0f7a4_39 : decode cJ6_bitCount_0f7a4 39 = .ok (.iadd, 1) := by decide +kernel
theorem dJ6_bitCount_0f7a4_40 : decode cJ6_bitCount_0f7a4 40 = .ok (.istore_n 0, 1) := by decide +kernel
theorem dJ6_bitCount_0f7a4_41 : decode cJ6_bitCount_0f7a4 41 = .ok (.iload_n 0, 1) := by decide +kernel
theorem dJ6_bitCount_0f7a4_42 : decode cJ6_bitCount_0f7a4 42 = .ok (.iload_n 0, 1) := by decide +kernel
theorem dJ6_bitCount_0f7a4_43 : decode cJ6_bitCount_0f7a4 43 = .ok (.bipush 16, 2) := by decide +kernel
theorem dJ6_bitCount_0f7a4_45 : decode cJ6_bitCount_0f7a4 45 = .ok (.iushr, 1) := by decide +kernel
theorem dJ6_bitCount_0f7a4_46 : decode cJ6_bitCount_0f7a4 46 = .ok (.iadd, 1) := by decide +kernel
theorem dJ6_bitCount_0f7a4_47 : decode cJ6_bitCount_0f7a4 47 = .ok (.istore_n 0, 1) := by decide +kernel
theorem dJ6_bitCount_0f7a4_48 : decode cJ6_bitCount_0f7a4 48 = .ok (.iload_n 0, 1) := by decide +kernel
theorem dJ6_bitCount_0f7a4_49 : decode cJ6_bitCount_0f7a4 49 = .ok (.bipush 63, 2) := by decide +kernel
theorem dJ6_bitCount_0f7a4_51 : decode cJ6_bitCount_0f7a4 51 = .ok (.iand, 1) := by decide +kernel
theorem dJ6_bitCount_0f7a4_52 : decode cJ6_bitCount_0f7a4 52 = .ok (.ireturn, 1) := by decide +kernel
theorem dX0_become_0 : decode cX0_become 0 = .ok (.aload_n 1, 1) := by decide +kernel
theorem dX0_become_1 : decode cX0_become 1 = .ok (.getfield 9, 3) := by decide +kernel
theorem dX0_become_4 : decode cX0_become 4 = .ok (.iconst 0, 1) := by decide +kernel
theorem dX0_become_5 : decode cX0_become 5 = .ok (.aload_n 0, 1) := by decide +kernel
theorem dX0_become_6 : decode cX0_become 6 = .ok (.getfield 9, 3) := by decide +kernel
theorem dX0_become_9 : decode cX0_become 9 = .ok (.iconst 0, 1) := by decide +kernel
theorem dX0_become_10 : decode cX0_become 10 = .ok (.bipush 7, 2) := by decide +kernel
theorem dX0_become_12 : decode cX0_become 12 = .ok (.invokestatic 64, 3) := by decide +kernel
theorem dX0_become_15 : decode cX0_become 15 = .ok (.aload_n 1, 1) := by decide +kernel
theorem dX0_become_16 : decode cX0_become 16 = .ok (.getfield 15, 3) := by decide +kernel
theorem dX0_become_19 : decode cX0_become 19 = .ok (.iconst 0, 1) := by decide +kernel
theorem dX0_become_20 : decode cX0_become 20 = .ok (.aload_n 0, 1) := by decide +kernel
theorem dX0_become_21 : decode cX0_become 21 = .ok (.getfield 15, 3) := by decide +kernel
theorem dX0_become_24 : decode cX0_become 24 = .ok (.iconst 0, 1) := by decide +kernel
theorem dX0_become_25 : decode cX0_become 25 = .ok (.bipush 7, 2) := by decide +kernel
theorem dX0_become_27 : decode cX0_become 27 = .ok (.invokestatic 64, 3) := by decide +kernel
theorem dX0_become_30 : decode cX0_become 30 = .ok (.aload_n 1, 1) := by decide +kernel
theorem dX0_become_31 : decode cX0_become 31 = .ok (.getfield 18, 3) := by decide +kernel
theorem dX0_become_34 : decode cX0_become 34 = .ok (.iconst 0, 1) := by decide +kernel
theorem dX0_become_35 : decode cX0_become 35 = .ok (.aload_n 0, 1) := by decide +kernel
theorem dX0_become_36 : decode cX0_become 36 = .ok (.getfield 18, 3) := by decide +kernel
theorem dX0_become_39 : decode cX0_become 39 = .ok (.iconst 0, 1) := by decide +kernel
theorem dX0_become_40 : decode cX0_become 40 = .ok (.bipush 7, 2) := by decide +kernel
theorem dX0_become_42 : decode cX0_become 42 = .ok (.invokestatic 64, 3) := by decide +kernel
theorem dX0_become_45 : decode cX0_become 45 = .ok (.aload_n 1, 1) := by decide +kernel
theorem dX0_become_46 : decode cX0_become 46 = .ok (.getfield 21, 3) := by decide +kernel
theorem dX0_become_49 : decode cX0_become 49 = .ok (.iconst 0, 1) := by decide +kernel
theorem dX0_become_50 : decode cX0_become 50 = .ok (.aload_n 0, 1) := by decide +kernel
theorem dX0_become_51 : decode cX0_become 51 = .ok (.getfield 21, 3) := by decide +kernel
theorem dX0_become_54 : decode cX0_become 54 = .ok (.iconst 0, 1) := by decide +kernel
theorem dX0_become_55 : decode cX0_become 55 = .ok (.bipush 6, 2) := by decide +kernel
theorem dX0_become_57 : decode cX0_become 57 = .ok (.invokestatic 64, 3) := by decide +kernel
theorem dX0_become_60 : decode cX0_become 60 = .ok (.aload_n 1, 1) := by decide +kernel
theorem dX0_become_61 : decode cX0_become 61 = .ok (.getfield 24, 3) := by decide +kernel
theorem dX0_become_64 : decode cX0_become 64 = .ok (.iconst 0, 1) := by decide +kernel
theorem dX0_become_65 : decode cX0_become 65 = .ok (.aload_n 0, 1) := by decide +kernel
theorem dX0_become_66 : decode cX0_become 66 = .ok (.getfield 24, 3) := by decide +kernel
theorem dX0_become_69 : decode cX0_become 69 = .ok (.iconst 0, 1) := by decide +kernel
theorem dX0_become_70 : decode cX0_become 70 = .ok (.bipush 8, 2) := by decide +kernel
theorem dX0_become_72 : decode cX0_become 72 = .ok (.invokestatic 64, 3) := by decide +kernel
theorem dX0_become_75 : decode cX0_become 75 = .ok (.aload_n 1, 1) := by decide +kernel
theorem dX0_become_76 : decode cX0_become 76 = .ok (.getfield 27, 3) := by decide +kernel
theorem dX0_become_79 : decode cX0_become 79 = .ok (.iconst 0, 1) := by decide +kernel
theorem dX0_become_80 : decode cX0_become 80 = .ok (.aload_n 0, 1) := by decide +kernel
theorem dX0_become_81 : decode cX0_become 81 = .ok (.getfield 27, 3) := by decide +kernel
theorem dX0_become_84 : decode cX0_become 84 = .ok (.iconst 0, 1) := by decide +kernel
theorem dX0_become_85 : decode cX0_become 85 = .ok (.bipush 8, 2) := by decide +kernel
theorem dX0_become_87 : decode cX0_become 87 = .ok (.invokestatic 64, 3) := by decide +kernel
theorem dX0_become_90 : decode cX0_become 90 = .ok (.aload_n 1, 1) := by decide +kernel
theorem dX0_become_91 : decode cX0_become 91 = .ok (.getfield 30, 3) := by decide +kernel
theorem dX0_become_94 : decode cX0_become 94 = .ok (.iconst 0, 1) := by decide +kernel
theorem dX0_become_95 : decode cX0_become 95 = .ok (.aload_n 0, 1) := by decide +kernel
theorem dX0_become_96 : decode cX0_become 96 = .ok (.getfield 30, 3) := by decide +kernel
theorem dX0_become_99 : decode cX0_become 99 = .ok (.iconst 0, 1) := by decide +kernel
theorem dX0_become_100 : decode cX0_become 100 = .ok (.bipush 8, 2) := by decide +kernel
theorem dX0_become_102 : decode cX0_become 102 = .ok (.invokestatic 64, 3) := by decide +kernel
theorem dX0_become_105 : decode cX0_become 105 = .ok (.aload_n 1, 1) := by decide +kernel
theorem dX0_become_106 : decode cX0_become 106 = .ok (.getfield 33, 3) := by decide +kernel
theorem dX0_become_109 : decode cX0_become 109 = .ok (.iconst 0, 1) := by decide +kernel
theorem dX0_become_110 : decode cX0_become 110 = .ok (.aload_n 0, 1) := by decide +kernel
theorem dX0_become_111 : decode cX0_become 111 = .ok (.getfield 33, 3) := by decide +kernel
theorem dX0_become_114 : decode cX0_become 114 = .ok (.iconst 0, 1) := by decide +kernel
theorem dX0_become_115 : decode cX0_become 115 = .ok (.bipush 8, 2) := by decide +kernel
theorem dX0_become_117 : decode cX0_become 117 = .ok (.invokestatic 64, 3) := by decide +kernel
theorem dX0_become_120 : decode cX0_become 120 = .ok (.aload_n 1, 1) := by decide +kernel
theorem dX0_become_121 : decode cX0_become 121 = .ok (.getfield 36, 3) := by decide +kernel
theorem dX0_become_124 : decode cX0_become 124 = .ok (.iconst 0, 1) := by decide +kernel
theorem dX0_become_125 : decode cX0_become 125 = .ok (.aload_n 0, 1) := by decide +kernel
theorem dX0_become_126 : decode cX0_become 126 = .ok (.getfield 36, 3) := by decide +kernel
theorem dX0_become_129 : decode cX0_become 129 = .ok (.iconst 0, 1) := by decide +kernel
theorem dX0_become_130 : decode cX0_become 130 = .ok (.bipush 8, 2) := by decide +kernel
theorem dX0_become_132 : decode cX0_become 132 = .ok (.invokestatic 64, 3) := by decide +kernel
theorem dX0_become_135 : decode cX0_become 135 = .ok (.aload_n 1, 1) := by decide +kernel
theorem dX0_become_136 : decode cX0_become 136 = .ok (.getfield 39, 3) := by decide +kernel
theorem dX0_become_139 : decode cX0_become 139 = .ok (.iconst 0, 1) := by decide +kernel
theorem dX0_become_140 : decode cX0_become 140 = .ok (.aload_n 0, 1) := by decide +kernel
theorem dX0_become_141 : decode cX0_become 141 = .ok (.getfield 39, 3) := by decide +kernel
theorem dX0_become_144 : decode cX0_become 144 = .ok (.iconst 0, 1) := by decide +kernel
theorem dX0_become_145 : decode cX0_become 145 = .ok (.bipush 10, 2) := by decide +kernel
theorem dX0_become_147 : decode cX0_become 147 = .ok (.invokestatic 64, 3) := by decide +kernel
theorem dX0_become_150 : decode cX0_become 150 = .ok (.aload_n 0, 1) := by decide +kernel
theorem dX0_become_151 : decode cX0_become 151 = .ok (.aload_n 1, 1) := by decide +kernel
theorem dX0_become_152 : decode cX0_become 152 = .ok (.getfield 42, 3) := by decide +kernel
theorem dX0_become_155 : decode cX0_become 155 = .ok (.putfield 42, 3) := by decide +kernel
theorem dX0_become_158 : decode cX0_become 158 = .ok (.aload_n 0, 1) := by decide +kernel
theorem dX0_become_159 : decode cX0_become 159 = .ok (.aload_n 1, 1) := by decide +kernel
theorem dX0_become_160 : decode cX0_become 160 = .ok (.getfield 46, 3) := by decide +kernel
theorem dX0_become_163 : decode cX0_become 163 = .ok (.putfield 46, 3) := by decide +kernel
theorem dX0_become_166 : decode cX0_become 166 = .ok (.aload_n 0, 1) := by decide +kernel
theorem dX0_become_167 : decode cX0_become 167 = .ok (.aload_n 1, 1) := by decide +kernel
theorem dX0_become_168 : decode cX0_become 168 = .ok (.getfield 49, 3) := by decide +kernel
theorem dX0_become_171 : decode cX0_become 171 = .ok (.putfield 49, 3) := by decide +kernel
theorem dX0_become_174 : decode cX0_become 174 = .ok (.aload_n 0, 1) := by decide +kernel
theorem dX0_become_175 : decode cX0_become 175 = .ok (.aload_n 1, 1) := by decide +kernel
theorem dX0_become_176 : decode cX0_become 176 = .ok (.getfield 52, 3) := by decide +kernel
theorem dX0_become_179 : decode cX0_become 179 = .ok (.putfield 52, 3) := by decide +kernel
theorem dX0_become_182 : decode cX0_become 182 = .ok (.aload_n 0, 1) := by decide +kernel
theorem dX0_become_183 : decode cX0_become 183 = .ok (.aload_n 1, 1) := by decide +kernel
theorem dX0_become_184 : decode cX0_become 184 = .ok (.getfield 55, 3) := by decide +kernel
theorem dX0_become_187 : decode cX0_become 187 = .ok (.putfield 55, 3) := by decide +kernel
theorem dX0_become_190 : decode cX0_become 190 = .ok (.aload_n 0, 1) := by decide +kernel
theorem dX0_become_191 : decode cX0_become 191 = .ok (.aload_n 1, 1) := by decide +kernel
theorem dX0_become_192 : decode cX0_become 192 = .ok (.getfield 58, 3) := by decide +kernel
theorem dX0_become_195 : decode cX0_become 195 = .ok (.putfield 58, 3) := by decide +kernel
theorem dX0_become_198 : decode cX0_become 198 = .ok (.aload_n 0, 1) := by decide +kernel
theorem dX0_become_199 : decode cX0_become 199 = .ok (.aload_n 1, 1) := by decide +kernel
theorem dX0_become_200 : decode cX0_become 200 = .ok (.getfield 61, 3) := by decide +kernel
theorem dX0_become_203 : decode cX0_become 203 = .ok (.putfield 61, 3) := by decide +kernel
theorem dX0_become_206 : decode cX0_become 206 = .ok (.return_, 1) := by decide +kernel
theorem dX0_contest_0 : decode cX0_contest 0 = .ok (.aload_n 0, 1) := by decide +kernel
theorem dX0_contest_1 : decode cX0_contest 1 = .ok (.iload_n 2, 1) := by decide +kernel
theorem dX0_contest_2 : decode cX0_contest 2 = .ok (.invokevirtual 86, 3) := by decide +kernel
theorem dX0_contest_5 : decode cX0_contest 5 = .ok (.ifCond .eq 46, 3) := by decide +kernel
theorem dX0_contest_8 : decode cX0_contest 8 = .ok (.aload_n 0, 1) := by decide +kernel
theorem dX0_contest_9 : decode cX0_contest 9 = .ok (.ldc 121, 2) := by decide +kernel
theorem dX0_contest_11 : decode cX0_contest 11 = .ok (.aload_n 0, 1) := by decide +kernel
theorem dX0_contest_12 : decode cX0_contest 12 = .ok (.getfield 58, 3) := by decide +kernel
theorem dX0_contest_15 : decode cX0_contest 15 = .ok (.aload_n 0, 1) := by decide +kernel
theorem dX0_contest_16 : decode cX0_contest 16 = .ok (.iload_n 1, 1) := by decide +kernel
theorem dX0_contest_17 : decode cX0_contest 17 = .ok (.iload_n 2, 1) := by decide +kernel
theorem dX0_contest_18 : decode cX0_contest 18 = .ok (.invokevirtual 122, 3) := by decide +kernel
theorem dX0_contest_21 : decode cX0_contest 21 = .ok (.iadd, 1) := by decide +kernel
theorem dX0_contest_22 : decode cX0_contest 22 = .ok (.invokestatic 111, 3) := by decide +kernel
theorem dX0_contest_25 : decode cX0_contest 25 = .ok (.putfield 58, 3) := by decide +kernel
theorem dX0_contest_28 : decode cX0_contest 28 = .ok (.aload_n 0, 1) := by decide +kernel
theorem dX0_contest_29 : decode cX0_contest 29 = .ok (.getfield 33, 3) := by decide +kernel
theorem dX0_contest_32 : decode cX0_contest 32 = .ok (.iload_n 1, 1) := by decide +kernel
theorem dX0_contest_33 : decode cX0_contest 33 = .ok (.sipush 9999, 3) := by decide +kernel
theorem dX0_contest_36 : decode cX0_contest 36 = .ok (.aload_n 0, 1) := by decide +kernel
theorem dX0_contest_37 : decode cX0_contest 37 = .ok (.getfield 33, 3) := by decide +kernel
theorem dX0_contest_40 : decode cX0_contest 40 = .ok (.iload_n 1, 1) := by decide +kernel
theorem dX0_contest_41 : decode cX0_contest 41 = .ok (.iaload, 1) := by decide +kernel
theorem dX0_contest_42 : decode cX0_contest 42 = .ok (.iconst 1, 1) := by decide +kernel
theorem dX0_contest_43 : decode cX0_contest 43 = .ok (.iadd, 1) := by decide +kernel
theorem dX0_contest_44 : decode cX0_contest 44 = .ok (.invokestatic 111, 3) := by decide +kernel
theorem dX0_contest_47 : decode cX0_contest 47 = .ok (.iastore, 1) := by decide +kernel
theorem dX0_contest_48 : decode cX0_contest 48 = .ok (.goto 37, 3) := by decide +kernel
theorem dX0_contest_51 : decode cX0_contest 51 = .ok (.aload_n 0, 1) := by decide +kernel
theorem dX0_contest_52 : decode cX0_contest 52 = .ok (.getfield 36, 3) := by decide +kernel
theorem dX0_contest_55 : decode cX0_contest 55 = .ok (.iload_n 1, 1) := by decide +kernel
theorem dX0_contest_56 : decode cX0_contest 56 = .ok (.sipush 9999, 3) := by decide +kernel
theorem dX0_contest_59 : decode cX0_contest 59 = .ok (.aload_n 0, 1) := by decide +kernel
theorem dX0_contest_60 : decode cX0_contest 60 = .ok (.getfield 36, 3) := by decide +kernel
theorem dX0_contest_63 : decode cX0_contest 63 = .ok (.iload_n 1, 1) := by decide +kernel
theorem dX0_contest_64 : decode cX0_contest 64 = .ok (.iaload, 1) := by decide +kernel
theorem dX0_contest_65 : decode cX0_contest 65 = .ok (.iconst 1, 1) := by decide +kernel
theorem dX0_contest_66 : decode cX0_contest 66 = .ok (.iadd, 1) := by decide +kernel
theorem dX0_contest_67 : decode cX0_contest 67 = .ok (.invokestatic 111, 3) := by decide +kernel
theorem dX0_contest_70 : decode cX0_contest 70 = .ok (.iastore, 1) := by decide +kernel
theorem dX0_contest_71 : decode cX0_contest 71 = .ok (.aload_n 0, 1) := by decide +kernel
theorem dX0_contest_72 : decode cX0_contest 72 = .ok (.iconst 0, 1) := by decide +kernel
theorem dX0_contest_73 : decode cX0_contest 73 = .ok (.aload_n 0, 1) := by decide +kernel
theorem dX0_contest_74 : decode cX0_contest 74 = .ok (.getfield 58, 3) := by decide +kernel
theorem dX0_contest_77 : decode cX0_contest 77 = .ok (.iconst 3, 1) := by decide +kernel
theorem dX0_contest_78 : decode cX0_contest 78 = .ok (.isub, 1) := by decide +kernel
theorem dX0_contest_79 : decode cX0_contest 79 = .ok (.invokestatic 74, 3) := by decide +kernel
theorem dX0_contest_82 : decode cX0_contest 82 = .ok (.putfield 58, 3) := by decide +kernel
theorem dX0_contest_85 : decode cX0_contest 85 = .ok (.return_, 1) := by decide +kernel
theorem dX0_draw_0 : decode cX0_draw 0 = .ok (.aload_n 0, 1) := by decide +kernel
theorem dX0_draw_1 : decode cX0_draw 1 = .ok (.aload_n 0, 1) := by decide +kernel
theorem dX0_draw_2 : decode cX0_draw 2 = .ok (.getfield 61, 3) := by decide +kernel
theorem dX0_draw_5 : decode cX0_draw 5 = .ok (.ldc 97, 2) := by decide +kernel
theorem dX0_draw_7 : decode cX0_draw 7 = .ok (.imul, 1) := by decide +kernel
theorem dX0_draw_8 : decode cX0_draw 8 = .ok (.sipush 12345, 3) := by decide +kernel
theorem dX0_draw_11 : decode cX0_draw 11 = .ok (.iadd, 1) := by decide +kernel
theorem dX0_draw_12 : decode cX0_draw 12 = .ok (.putfield 61, 3) := by decide +kernel
theorem dX0_draw_15 : decode cX0_draw 15 = .ok (.aload_n 0, 1) := by decide +kernel
theorem dX0_draw_16 : decode cX0_draw 16 = .ok (.getfield 61, 3) := by decide +kernel
theorem dX0_draw_19 : decode cX0_draw 19 = .ok (.bipush 8, 2) := by decide +kernel
theorem dX0_draw_21 : decode cX0_draw 21 = .ok (.iushr, 1) := by decide +kernel
theorem dX0_draw_22 : decode cX0_draw 22 = .ok (.ireturn, 1) := by decide +kernel
theorem dX0_forceIn_0 : decode cX0_forceIn 0 = .ok (.aload_n 0, 1) := by decide +kernel
theorem dX0_forceIn_1 : decode cX0_forceIn 1 = .ok (.getfield 15, 3) := by decide +kernel
theorem dX0_forceIn_4 : decode cX0_forceIn 4 = .ok (.iload_n 1, 1) := by decide +kernel
theorem dX0_forceIn_5 : decode cX0_forceIn 5 = .ok (.iaload, 1) := by decide +kernel
theorem dX0_forceIn_6 : decode cX0_forceIn 6 = .ok (.aload_n 0, 1) := by decide +kernel
theorem dX0_forceIn_7 : decode cX0_forceIn 7 = .ok (.getfield 18, 3) := by decide +kernel
theorem dX0_forceIn_10 : decode cX0_forceIn 10 = .ok (.iload_n 1, 1) := by decide +kernel
theorem dX0_forceIn_11 : decode cX0_forceIn 11 = .ok (.iaload, 1) := by decide +kernel
theorem dX0_forceIn_12 : decode cX0_forceIn 12 = .ok (.iconst 2, 1) := by decide +kernel
theorem dX0_forceIn_13 : decode cX0_forceIn 13 = .ok (.idiv, 1) := by decide +kernel
theorem dX0_forceIn_14 : decode cX0_forceIn 14 = .ok (.iadd, 1) := by decide +kernel
theorem dX0_forceIn_15 : decode cX0_forceIn 15 = .ok (.ireturn, 1) := by decide +kernel
theorem dX0_gainOf_0 : decode cX0_gainOf 0 = .ok (.aload_n 0, 1) := by decide +kernel
theorem dX0_gainOf_1 : decode cX0_gainOf 1 = .ok (.getfield 24, 3) := by decide +kernel
theorem dX0_gainOf_4 : decode cX0_gainOf 4 = .ok (.iload_n 1, 1) := by decide +kernel
theorem dX0_gainOf_5 : decode cX0_gainOf 5 = .ok (.iaload, 1) := by decide +kernel
theorem dX0_gainOf_6 : decode cX0_gainOf 6 = .ok (.tableswitch 63 1 6 #[38, 46, 46, 50, 63, 40], 38) := by decide +kernel
theorem dX0_gainOf_44 : decode cX0_gainOf 44 = .ok (.iconst 1, 1) := by decide +kernel
theorem dX0_gainOf_45 : decode cX0_gainOf 45 = .ok (.ireturn, 1) := by decide +kernel
theorem dX0_gainOf_46 : decode cX0_gainOf 46 = .ok (.iconst 1, 1) := by decide +kernel
theorem dX0_gainOf_47 : decode cX0_gainOf 47 = .ok (.iconst 2, 1) := by decide +kernel
theorem dX0_gainOf_48 : decode cX0_gainOf 48 = .ok (.iload_n 2, 1) := by decide +kernel
theorem dX0_gainOf_49 : decode cX0_gainOf 49 = .ok (.imul, 1) := by decide +kernel
theorem dX0_gainOf_50 : decode cX0_gainOf 50 = .ok (.iadd, 1) := by decide +kernel
theorem dX0_gainOf_51 : decode cX0_gainOf 51 = .ok (.ireturn, 1) := by decide +kernel
theorem dX0_gainOf_52 : decode cX0_gainOf 52 = .ok (.iload_n 2, 1) := by decide +kernel
theorem dX0_gainOf_53 : decode cX0_gainOf 53 = .ok (.iconst 2, 1) := by decide +kernel
theorem dX0_gainOf_54 : decode cX0_gainOf 54 = .ok (.iadd, 1) := by decide +kernel
theorem dX0_gainOf_55 : decode cX0_gainOf 55 = .ok (.ireturn, 1) := by decide +kernel
theorem dX0_gainOf_56 : decode cX0_gainOf 56 = .ok (.iconst 0, 1) := by decide +kernel
theorem dX0_gainOf_57 : decode cX0_gainOf 57 = .ok (.iload_n 2, 1) := by decide +kernel
theorem dX0_gainOf_58 : decode cX0_gainOf 58 = .ok (.iconst 2, 1) := by decide +kernel
theorem dX0_gainOf_59 : decode cX0_gainOf 59 = .ok (.iadd, 1) := by decide +kernel
theorem dX0_gainOf_60 : decode cX0_gainOf 60 = .ok (.aload_n 0, 1) := by decide +kernel
theorem dX0_gainOf_61 : decode cX0_gainOf 61 = .ok (.getfield 46, 3) := by decide +kernel
theorem dX0_gainOf_64 : decode cX0_gainOf 64 = .ok (.isub, 1) := by decide +kernel
theorem dX0_gainOf_65 : decode cX0_gainOf 65 = .ok (.invokestatic 74, 3) := by decide +kernel
theorem dX0_gainOf_68 : decode cX0_gainOf 68 = .ok (.ireturn, 1) := by decide +kernel
theorem dX0_gainOf_69 : decode cX0_gainOf 69 = .ok (.iload_n 2, 1) := by decide +kernel
theorem dX0_gainOf_70 : decode cX0_gainOf 70 = .ok (.ireturn, 1) := by decide +kernel
theorem dX0_highOf_0 : decode cX0_highOf 0 = .ok (.iconst 0, 1) := by decide +kernel
theorem dX0_highOf_1 : decode cX0_highOf 1 = .ok (.aload_n 0, 1) := by decide +kernel
theorem dX0_highOf_2 : decode cX0_highOf 2 = .ok (.getfield 27, 3) := by decide +kernel
theorem dX0_highOf_5 : decode cX0_highOf 5 = .ok (.iload_n 1, 1) := by decide +kernel
theorem dX0_highOf_6 : decode cX0_highOf 6 = .ok (.iaload, 1) := by decide +kernel
theorem dX0_highOf_7 : decode cX0_highOf 7 = .ok (.aload_n 0, 1) := by decide +kernel
theorem dX0_highOf_8 : decode cX0_highOf 8 = .ok (.getfield 30, 3) := by decide +kernel
theorem dX0_highOf_11 : decode cX0_highOf 11 = .ok (.iload_n 1, 1) := by decide +kernel
theorem dX0_highOf_12 : decode cX0_highOf 12 = .ok (.iaload, 1) := by decide +kernel
theorem dX0_highOf_13 : decode cX0_highOf 13 = .ok (.iconst 4, 1) := by decide +kernel
theorem dX0_highOf_14 : decode cX0_highOf 14 = .ok (.idiv, 1) := by decide +kernel
theorem dX0_highOf_15 : decode cX0_highOf 15 = .ok (.isub, 1) := by decide +kernel
theorem dX0_highOf_16 : decode cX0_highOf 16 = .ok (.invokestatic 74, 3) := by decide +kernel
theorem dX0_highOf_19 : decode cX0_highOf 19 = .ok (.istore_n 2, 1) := by decide +kernel
theorem dX0_highOf_20 : decode cX0_highOf 20 = .ok (.aload_n 0, 1) := by decide +kernel
theorem dX0_highOf_21 : decode cX0_highOf 21 = .ok (.getfield 24, 3) := by decide +kernel
theorem dX0_highOf_24 : decode cX0_highOf 24 = .ok (.iload_n 1, 1) := by decide +kernel
theorem dX0_highOf_25 : decode cX0_highOf 25 = .ok (.iaload, 1) := by decide +kernel
theorem dX0_highOf_26 : decode cX0_highOf 26 = .ok (.tableswitch 113 1 6 #[38, 54, 59, 69, 97, 42], 38) := by decide +kernel
theorem dX0_highOf_64 : decode cX0_highOf 64 = .ok (.iload_n 2, 1) := by decide +kernel
theorem dX0_highOf_65 : decode cX0_highOf 65 = .ok (.iconst 2, 1) := by decide +kernel
theorem dX0_highOf_66 : decode cX0_highOf 66 = .ok (.idiv, 1) := by decide +kernel
theorem dX0_highOf_67 : decode cX0_highOf 67 = .ok (.ireturn, 1) := by decide +kernel
theorem dX0_highOf_68 : decode cX0_highOf 68 = .ok (.iload_n 2, 1) := by decide +kernel
theorem dX0_highOf_69 : decode cX0_highOf 69 = .ok (.iconst 2, 1) := by decide +kernel
theorem dX0_highOf_70 : decode cX0_highOf 70 = .ok (.idiv, 1) := by decide +kernel
theorem dX0_highOf_71 : decode cX0_highOf 71 = .ok (.bipush 30, 2) := by decide +kernel
theorem dX0_highOf_73 : decode cX0_highOf 73 = .ok (.iadd, 1) := by decide +kernel
theorem dX0_highOf_74 : decode cX0_highOf 74 = .ok (.aload_n 0, 1) := by decide +kernel
theorem dX0_highOf_75 : decode cX0_highOf 75 = .ok (.getfield 49, 3) := by decide +kernel
theorem dX0_highOf_78 : decode cX0_highOf 78 = .ok (.isub, 1) := by decide +kernel
theorem dX0_highOf_79 : decode cX0_highOf 79 = .ok (.ireturn, 1) := by decide +kernel
theorem dX0_highOf_80 : decode cX0_highOf 80 = .ok (.iload_n 2, 1) := by decide +kernel
theorem dX0_highOf_81 : decode cX0_highOf 81 = .ok (.bipush 10, 2) := by decide +kernel
theorem dX0_highOf_83 : decode cX0_highOf 83 = .ok (.iadd, 1) := by decide +kernel
theorem dX0_highOf_84 : decode cX0_highOf 84 = .ok (.ireturn, 1) := by decide +kernel
theorem dX0_highOf_85 : decode cX0_highOf 85 = .ok (.iload_n 2, 1) := by decide +kernel
theorem dX0_highOf_86 : decode cX0_highOf 86 = .ok (.bipush 15, 2) := by decide +kernel
theorem dX0_highOf_88 : decode cX0_highOf 88 = .ok (.iadd, 1) := by decide +kernel
theorem dX0_highOf_89 : decode cX0_highOf 89 = .ok (.aload_n 0, 1) := by decide +kernel
theorem dX0_highOf_90 : decode cX0_highOf 90 = .ok (.getfield 46, 3) := by decide +kernel
theorem dX0_highOf_93 : decode cX0_highOf 93 = .ok (.isub, 1) := by decide +kernel
theorem dX0_highOf_94 : decode cX0_highOf 94 = .ok (.ireturn, 1) := by decide +kernel
theorem dX0_highOf_95 : decode cX0_highOf 95 = .ok (.iload_n 2, 1) := by decide +kernel
theorem dX0_highOf_96 : decode cX0_highOf 96 = .ok (.bipush 15, 2) := by decide +kernel
theorem dX0_highOf_98 : decode cX0_highOf 98 = .ok (.iadd, 1) := by decide +kernel
theorem dX0_highOf_99 : decode cX0_highOf 99 = .ok (.aload_n 0, 1) := by decide +kernel
theorem dX0_highOf_100 : decode cX0_highOf 100 = .ok (.getfield 46, 3) := by decide +kernel
theorem dX0_highOf_103 : decode cX0_highOf 103 = .ok (.isub, 1) := by decide +kernel
theorem dX0_highOf_104 : decode cX0_highOf 104 = .ok (.aload_n 0, 1) := by decide +kernel
theorem dX0_highOf_105 : decode cX0_highOf 105 = .ok (.getfield 30, 3) := by decide +kernel
theorem dX0_highOf_108 : decode cX0_highOf 108 = .ok (.iload_n 1, 1) := by decide +kernel
theorem dX0_highOf_109 : decode cX0_highOf 109 = .ok (.iaload, 1) := by decide +kernel
theorem dX0_highOf_110 : decode cX0_highOf 110 = .ok (.bipush 20, 2) := by decide +kernel
theorem dX0_highOf_112 : decode cX0_highOf 112 = .ok (.if_icmp .ge 8, 3) := by decide +kernel
theorem dX0_highOf_115 : decode cX0_highOf 115 = .ok (.bipush 10, 2) := by decide +kernel
theorem dX0_highOf_117 : decode cX0_highOf 117 = .ok (.goto 4, 3) := by decide +kernel
theorem dX0_highOf_120 : decode cX0_highOf 120 = .ok (.iconst 0, 1) := by decide +kernel
theorem dX0_highOf_121 : decode cX0_highOf 121 = .ok (.iadd, 1) := by decide +kernel
theorem dX0_highOf_122 : decode cX0_highOf 122 = .ok (.ireturn, 1) := by decide +kernel
theorem dX0_highOf_123 : decode cX0_highOf 123 = .ok (.aload_n 0, 1) := by decide +kernel
theorem dX0_highOf_124 : decode cX0_highOf 124 = .ok (.getfield 55, 3) := by decide +kernel
theorem dX0_highOf_127 : decode cX0_highOf 127 = .ok (.iconst 2, 1) := by decide +kernel
theorem dX0_highOf_128 : decode cX0_highOf 128 = .ok (.irem, 1) := by decide +kernel
theorem dX0_highOf_129 : decode cX0_highOf 129 = .ok (.iconst 1, 1) := by decide +kernel
theorem dX0_highOf_130 : decode cX0_highOf 130 = .ok (.if_icmp .ne 7, 3) := by decide +kernel
theorem dX0_highOf_133 : decode cX0_highOf 133 = .ok (.iconst 0, 1) := by decide +kernel
theorem dX0_highOf_134 : decode cX0_highOf 134 = .ok (.goto 4, 3) := by decide +kernel
theorem dX0_highOf_137 : decode cX0_highOf 137 = .ok (.iload_n 2, 1) := by decide +kernel
theorem dX0_highOf_138 : decode cX0_highOf 138 = .ok (.ireturn, 1) := by decide +kernel
theorem dX0_highOf_139 : decode cX0_highOf 139 = .ok (.iload_n 2, 1) := by decide +kernel
theorem dX0_highOf_140 : decode cX0_highOf 140 = .ok (.ireturn, 1) := by decide +kernel
theorem dX0_join_0 : decode cX0_join 0 = .ok (.aload_n 0, 1) := by decide +kernel
theorem dX0_join_1 : decode cX0_join 1 = .ok (.getfield 42, 3) := by decide +kernel
theorem dX0_join_4 : decode cX0_join 4 = .ok (.istore_n 3, 1) := by decide +kernel
theorem dX0_join_5 : decode cX0_join 5 = .ok (.aload_n 0, 1) := by decide +kernel
theorem dX0_join_6 : decode cX0_join 6 = .ok (.getfield 24, 3) := by decide +kernel
theorem dX0_join_9 : decode cX0_join 9 = .ok (.iload_n 3, 1) := by decide +kernel
theorem dX0_join_10 : decode cX0_join 10 = .ok (.iload_n 1, 1) := by decide +kernel
theorem dX0_join_11 : decode cX0_join 11 = .ok (.iastore, 1) := by decide +kernel
theorem dX0_join_12 : decode cX0_join 12 = .ok (.aload_n 0, 1) := by decide +kernel
theorem dX0_join_13 : decode cX0_join 13 = .ok (.getfield 27, 3) := by decide +kernel
theorem dX0_join_16 : decode cX0_join 16 = .ok (.iload_n 3, 1) := by decide +kernel
theorem dX0_join_17 : decode cX0_join 17 = .ok (.iload_n 2, 1) := by decide +kernel
theorem dX0_join_18 : decode cX0_join 18 = .ok (.iastore, 1) := by decide +kernel
theorem dX0_join_19 : decode cX0_join 19 = .ok (.aload_n 0, 1) := by decide +kernel
theorem dX0_join_20 : decode cX0_join 20 = .ok (.dup, 1) := by decide +kernel
theorem dX0_join_21 : decode cX0_join 21 = .ok (.getfield 42, 3) := by decide +kernel
theorem dX0_join_24 : decode cX0_join 24 = .ok (.iconst 1, 1) := by decide +kernel
theorem dX0_join_25 : decode cX0_join 25 = .ok (.iadd, 1) := by decide +kernel
theorem dX0_join_26 : decode cX0_join 26 = .ok (.putfield 42, 3) := by decide +kernel
theorem dX0_join_29 : decode cX0_join 29 = .ok (.iload_n 3, 1) := by decide +kernel
theorem dX0_join_30 : decode cX0_join 30 = .ok (.ireturn, 1) := by decide +kernel
theorem dX0_learn_0 : decode cX0_learn 0 = .ok (.iconst 0, 1) := by decide +kernel
theorem dX0_learn_1 : decode cX0_learn 1 = .ok (.istore_n 2, 1) := by decide +kernel
theorem dX0_learn_2 : decode cX0_learn 2 = .ok (.iload_n 2, 1) := by decide +kernel
theorem dX0_learn_3 : decode cX0_learn 3 = .ok (.bipush 7, 2) := by decide +kernel
theorem dX0_learn_5 : decode cX0_learn 5 = .ok (.if_icmp .ge 49, 3) := by decide +kernel
theorem dX0_learn_8 : decode cX0_learn 8 = .ok (.aload_n 0, 1) := by decide +kernel
theorem dX0_learn_9 : decode cX0_learn 9 = .ok (.getfield 18, 3) := by decide +kernel
theorem dX0_learn_12 : decode cX0_learn 12 = .ok (.iload_n 2, 1) := by decide +kernel
theorem dX0_learn_13 : decode cX0_learn 13 = .ok (.iload_n 2, 1) := by decide +kernel
theorem dX0_learn_14 : decode cX0_learn 14 = .ok (.iload_n 1, 1) := by decide +kernel
theorem dX0_learn_15 : decode cX0_learn 15 = .ok (.if_icmp .ne 20, 3) := by decide +kernel
theorem dX0_learn_18 : decode cX0_learn 18 = .ok (.bipush 99, 2) := by decide +kernel
theorem dX0_learn_20 : decode cX0_learn 20 = .ok (.aload_n 0, 1) := by decide +kernel
theorem dX0_learn_21 : decode cX0_learn 21 = .ok (.getfield 18, 3) := by decide +kernel
theorem dX0_learn_24 : decode cX0_learn 24 = .ok (.iload_n 2, 1) := by decide +kernel
theorem dX0_learn_25 : decode cX0_learn 25 = .ok (.iaload, 1) := by decide +kernel
theorem dX0_learn_26 : decode cX0_learn 26 = .ok (.bipush 6, 2) := by decide +kernel
theorem dX0_learn_28 : decode cX0_learn 28 = .ok (.iadd, 1) := by decide +kernel
theorem dX0_learn_29 : decode cX0_learn 29 = .ok (.invokestatic 111, 3) := by decide +kernel
theorem dX0_learn_32 : decode cX0_learn 32 = .ok (.goto 15, 3) := by decide +kernel
theorem dX0_learn_35 : decode cX0_learn 35 = .ok (.iconst 0, 1) := by decide +kernel
theorem dX0_learn_36 : decode cX0_learn 36 = .ok (.aload_n 0, 1) := by decide +kernel
theorem dX0_learn_37 : decode cX0_learn 37 = .ok (.getfield 18, 3) := by decide +kernel
theorem dX0_learn_40 : decode cX0_learn 40 = .ok (.iload_n 2, 1) := by decide +kernel
theorem dX0_learn_41 : decode cX0_learn 41 = .ok (.iaload, 1) := by decide +kernel
theorem dX0_learn_42 : decode cX0_learn 42 = .ok (.iconst 1, 1) := by decide +kernel
theorem dX0_learn_43 : decode cX0_learn 43 = .ok (.isub, 1) := by decide +kernel
theorem dX0_learn_44 : decode cX0_learn 44 = .ok (.invokestatic 74, 3) := by decide +kernel
theorem dX0_learn_47 : decode cX0_learn 47 = .ok (.iastore, 1) := by decide +kernel
theorem dX0_learn_48 : decode cX0_learn 48 = .ok (.iinc 2 1, 3) := by decide +kernel
theorem dX0_learn_51 : decode cX0_learn 51 = .ok (.goto (-49), 3) := by decide +kernel
theorem dX0_learn_54 : decode cX0_learn 54 = .ok (.return_, 1) := by decide +kernel
theorem dX0_leave_0 : decode cX0_leave 0 = .ok (.iconst 0, 1) := by decide +kernel
theorem dX0_leave_1 : decode cX0_leave 1 = .ok (.istore_n 2, 1) := by decide +kernel
theorem dX0_leave_2 : decode cX0_leave 2 = .ok (.iload_n 2, 1) := by decide +kernel
theorem dX0_leave_3 : decode cX0_leave 3 = .ok (.bipush 7, 2) := by decide +kernel
theorem dX0_leave_5 : decode cX0_leave 5 = .ok (.if_icmp .ge 26, 3) := by decide +kernel
theorem dX0_leave_8 : decode cX0_leave 8 = .ok (.aload_n 0, 1) := by decide +kernel
theorem dX0_leave_9 : decode cX0_leave 9 = .ok (.getfield 9, 3) := by decide +kernel
theorem dX0_leave_12 : decode cX0_leave 12 = .ok (.iload_n 2, 1) := by decide +kernel
theorem dX0_leave_13 : decode cX0_leave 13 = .ok (.iaload, 1) := by decide +kernel
theorem dX0_leave_14 : decode cX0_leave 14 = .ok (.iload_n 1, 1) := by decide +kernel
theorem dX0_leave_15 : decode cX0_leave 15 = .ok (.if_icmp .ne 10, 3) := by decide +kernel
theorem dX0_leave_18 : decode cX0_leave 18 = .ok (.aload_n 0, 1) := by decide +kernel
theorem dX0_leave_19 : decode cX0_leave 19 = .ok (.getfield 9, 3) := by decide +kernel
theorem dX0_leave_22 : decode cX0_leave 22 = .ok (.iload_n 2, 1) := by decide +kernel
theorem dX0_leave_23 : decode cX0_leave 23 = .ok (.iconst (-1), 1) := by decide +kernel
theorem dX0_leave_24 : decode cX0_leave 24 = .ok (.iastore, 1) := by decide +kernel
theorem dX0_leave_25 : decode cX0_leave 25 = .ok (.iinc 2 1, 3) := by decide +kernel
theorem dX0_leave_28 : decode cX0_leave 28 = .ok (.goto (-26), 3) := by decide +kernel
theorem dX0_leave_31 : decode cX0_leave 31 = .ok (.return_, 1) := by decide +kernel
theorem dX0_nextIndex_0 : decode cX0_nextIndex 0 = .ok (.aload_n 0, 1) := by decide +kernel
theorem dX0_nextIndex_1 : decode cX0_nextIndex 1 = .ok (.getfield 55, 3) := by decide +kernel
theorem dX0_nextIndex_4 : decode cX0_nextIndex 4 = .ok (.bipush 6, 2) := by decide +kernel
theorem dX0_nextIndex_6 : decode cX0_nextIndex 6 = .ok (.irem, 1) := by decide +kernel
theorem dX0_nextIndex_7 : decode cX0_nextIndex 7 = .ok (.ireturn, 1) := by decide +kernel
theorem dX0_nextPlace_0 : decode cX0_nextPlace 0 = .ok (.aload_n 0, 1) := by decide +kernel
theorem dX0_nextPlace_1 : decode cX0_nextPlace 1 = .ok (.getfield 21, 3) := by decide +kernel
theorem dX0_nextPlace_4 : decode cX0_nextPlace 4 = .ok (.aload_n 0, 1) := by decide +kernel
theorem dX0_nextPlace_5 : decode cX0_nextPlace 5 = .ok (.invokevirtual 93, 3) := by decide +kernel
theorem dX0_nextPlace_8 : decode cX0_nextPlace 8 = .ok (.iaload, 1) := by decide +kernel
theorem dX0_nextPlace_9 : decode cX0_nextPlace 9 = .ok (.aload_n 0, 1) := by decide +kernel
theorem dX0_nextPlace_10 : decode cX0_nextPlace 10 = .ok (.getfield 52, 3) := by decide +kernel
theorem dX0_nextPlace_13 : decode cX0_nextPlace 13 = .ok (.invokestatic 90, 3) := by decide +kernel
theorem dX0_nextPlace_16 : decode cX0_nextPlace 16 = .ok (.ireturn, 1) := by decide +kernel
theorem dX0_placesListed_0 : decode cX0_placesListed 0 = .ok (.iconst 0, 1) := by decide +kernel
theorem dX0_placesListed_1 : decode cX0_placesListed 1 = .ok (.istore_n 1, 1) := by decide +kernel
theorem dX0_placesListed_2 : decode cX0_placesListed 2 = .ok (.iconst 0, 1) := by decide +kernel
theorem dX0_placesListed_3 : decode cX0_placesListed 3 = .ok (.istore_n 2, 1) := by decide +kernel
theorem dX0_placesListed_4 : decode cX0_placesListed 4 = .ok (.iload_n 2, 1) := by decide +kernel
theorem dX0_placesListed_5 : decode cX0_placesListed 5 = .ok (.bipush 6, 2) := by decide +kernel
theorem dX0_placesListed_7 : decode cX0_placesListed 7 = .ok (.if_icmp .ge 27, 3) := by decide +kernel
theorem dX0_placesListed_10 : decode cX0_placesListed 10 = .ok (.iload_n 1, 1) := by decide +kernel
theorem dX0_placesListed_11 : decode cX0_placesListed 11 = .ok (.iconst 1, 1) := by decide +kernel
theorem dX0_placesListed_12 : decode cX0_placesListed 12 = .ok (.aload_n 0, 1) := by decide +kernel
theorem dX0_placesListed_13 : decode cX0_placesListed 13 = .ok (.getfield 21, 3) := by decide +kernel
theorem dX0_placesListed_16 : decode cX0_placesListed 16 = .ok (.iload_n 2, 1) := by decide +kernel
theorem dX0_placesListed_17 : decode cX0_placesListed 17 = .ok (.iaload, 1) := by decide +kernel
theorem dX0_placesListed_18 : decode cX0_placesListed 18 = .ok (.aload_n 0, 1) := by decide +kernel
theorem dX0_placesListed_19 : decode cX0_placesListed 19 = .ok (.getfield 52, 3) := by decide +kernel
theorem dX0_placesListed_22 : decode cX0_placesListed 22 = .ok (.invokestatic 90, 3) := by decide +kernel
theorem dX0_placesListed_25 : decode cX0_placesListed 25 = .ok (.ishl, 1) := by decide +kernel
theorem dX0_placesListed_26 : decode cX0_placesListed 26 = .ok (.ior, 1) := by decide +kernel
theorem dX0_placesListed_27 : decode cX0_placesListed 27 = .ok (.istore_n 1, 1) := by decide +kernel
theorem dX0_placesListed_28 : decode cX0_placesListed 28 = .ok (.iinc 2 1, 3) := by decide +kernel
theorem dX0_placesListed_31 : decode cX0_placesListed 31 = .ok (.goto (-27), 3) := by decide +kernel
theorem dX0_placesListed_34 : decode cX0_placesListed 34 = .ok (.iload_n 1, 1) := by decide +kernel
theorem dX0_placesListed_35 : decode cX0_placesListed 35 = .ok (.ireturn, 1) := by decide +kernel
theorem dX0_putSetting_0 : decode cX0_putSetting 0 = .ok (.iload_n 1, 1) := by decide +kernel
theorem dX0_putSetting_1 : decode cX0_putSetting 1 = .ok (.ifCond .ne 16, 3) := by decide +kernel
theorem dX0_putSetting_4 : decode cX0_putSetting 4 = .ok (.aload_n 0, 1) := by decide +kernel
theorem dX0_putSetting_5 : decode cX0_putSetting 5 = .ok (.getfield 46, 3) := by decide +kernel
theorem dX0_putSetting_8 : decode cX0_putSetting 8 = .ok (.istore_n 3, 1) := by decide +kernel
theorem dX0_putSetting_9 : decode cX0_putSetting 9 = .ok (.aload_n 0, 1) := by decide +kernel
theorem dX0_putSetting_10 : decode cX0_putSetting 10 = .ok (.iload_n 2, 1) := by decide +kernel
theorem dX0_putSetting_11 : decode cX0_putSetting 11 = .ok (.putfield 46, 3) := by decide +kernel
theorem dX0_putSetting_14 : decode cX0_putSetting 14 = .ok (.goto 31, 3) := by decide +kernel
theorem dX0_putSetting_17 : decode cX0_putSetting 17 = .ok (.iload_n 1, 1) := by decide +kernel
theorem dX0_putSetting_18 : decode cX0_putSetting 18 = .ok (.iconst 1, 1) := by decide +kernel
theorem dX0_putSetting_19 : decode cX0_putSetting 19 = .ok (.if_icmp .ne 16, 3) := by decide +kernel
theorem dX0_putSetting_22 : decode cX0_putSetting 22 = .ok (.aload_n 0, 1) := by decide +kernel
theorem dX0_putSetting_23 : decode cX0_putSetting 23 = .ok (.getfield 49, 3) := by decide +kernel
theorem dX0_putSetting_26 : decode cX0_putSetting 26 = .ok (.istore_n 3, 1) := by decide +kernel
theorem dX0_putSetting_27 : decode cX0_putSetting 27 = .ok (.aload_n 0, 1) := by decide +kernel
theorem dX0_putSetting_28 : decode cX0_putSetting 28 = .ok (.iload_n 2, 1) := by decide +kernel
theorem dX0_putSetting_29 : decode cX0_putSetting 29 = .ok (.putfield 49, 3) := by decide +kernel
theorem dX0_putSetting_32 : decode cX0_putSetting 32 = .ok (.goto 13, 3) := by decide +kernel
theorem dX0_putSetting_35 : decode cX0_putSetting 35 = .ok (.aload_n 0, 1) := by decide +kernel
theorem dX0_putSetting_36 : decode cX0_putSetting 36 = .ok (.getfield 52, 3) := by decide +kernel
theorem dX0_putSetting_39 : decode cX0_putSetting 39 = .ok (.istore_n 3, 1) := by decide +kernel
theorem dX0_putSetting_40 : decode cX0_putSetting 40 = .ok (.aload_n 0, 1) := by decide +kernel
theorem dX0_putSetting_41 : decode cX0_putSetting 41 = .ok (.iload_n 2, 1) := by decide +kernel
theorem dX0_putSetting_42 : decode cX0_putSetting 42 = .ok (.putfield 52, 3) := by decide +kernel
theorem dX0_putSetting_45 : decode cX0_putSetting 45 = .ok (.iload_n 3, 1) := by decide +kernel
theorem dX0_putSetting_46 : decode cX0_putSetting 46 = .ok (.ireturn, 1) := by decide +kernel
theorem dX0_restAllBut_0 : decode cX0_restAllBut 0 = .ok (.iconst 0, 1) := by decide +kernel
theorem dX0_restAllBut_1 : decode cX0_restAllBut 1 = .ok (.istore_n 2, 1) := by decide +kernel
theorem dX0_restAllBut_2 : decode cX0_restAllBut 2 = .ok (.iload_n 2, 1) := by decide +kernel
theorem dX0_restAllBut_3 : decode cX0_restAllBut 3 = .ok (.aload_n 0, 1) := by decide +kernel
theorem dX0_restAllBut_4 : decode cX0_restAllBut 4 = .ok (.getfield 42, 3) := by decide +kernel
theorem dX0_restAllBut_7 : decode cX0_restAllBut 7 = .ok (.if_icmp .ge 32, 3) := by decide +kernel
theorem dX0_restAllBut_10 : decode cX0_restAllBut 10 = .ok (.iload_n 2, 1) := by decide +kernel
theorem dX0_restAllBut_11 : decode cX0_restAllBut 11 = .ok (.iload_n 1, 1) := by decide +kernel
theorem dX0_restAllBut_12 : decode cX0_restAllBut 12 = .ok (.if_icmp .eq 21, 3) := by decide +kernel
theorem dX0_restAllBut_15 : decode cX0_restAllBut 15 = .ok (.aload_n 0, 1) := by decide +kernel
theorem dX0_restAllBut_16 : decode cX0_restAllBut 16 = .ok (.getfield 30, 3) := by decide +kernel
theorem dX0_restAllBut_19 : decode cX0_restAllBut 19 = .ok (.iload_n 2, 1) := by decide +kernel
theorem dX0_restAllBut_20 : decode cX0_restAllBut 20 = .ok (.iconst 0, 1) := by decide +kernel
theorem dX0_restAllBut_21 : decode cX0_restAllBut 21 = .ok (.aload_n 0, 1) := by decide +kernel
theorem dX0_restAllBut_22 : decode cX0_restAllBut 22 = .ok (.getfield 30, 3) := by decide +kernel
theorem dX0_restAllBut_25 : decode cX0_restAllBut 25 = .ok (.iload_n 2, 1) := by decide +kernel
theorem dX0_restAllBut_26 : decode cX0_restAllBut 26 = .ok (.iaload, 1) := by decide +kernel
theorem dX0_restAllBut_27 : decode cX0_restAllBut 27 = .ok (.iconst 2, 1) := by decide +kernel
theorem dX0_restAllBut_28 : decode cX0_restAllBut 28 = .ok (.isub, 1) := by decide +kernel
theorem dX0_restAllBut_29 : decode cX0_restAllBut 29 = .ok (.invokestatic 74, 3) := by decide +kernel
theorem dX0_restAllBut_32 : decode cX0_restAllBut 32 = .ok (.iastore, 1) := by decide +kernel
theorem dX0_restAllBut_33 : decode cX0_restAllBut 33 = .ok (.iinc 2 1, 3) := by decide +kernel
theorem dX0_restAllBut_36 : decode cX0_restAllBut 36 = .ok (.goto (-34), 3) := by decide +kernel
theorem dX0_restAllBut_39 : decode cX0_restAllBut 39 = .ok (.return_, 1) := by decide +kernel
theorem dX0_rowOf_0 : decode cX0_rowOf 0 = .ok (.iload_n 1, 1) := by decide +kernel
theorem dX0_rowOf_1 : decode cX0_rowOf 1 = .ok (.tableswitch 51 0 3 #[31, 36, 41, 46], 31) := by decide +kernel
theorem dX0_rowOf_32 : decode cX0_rowOf 32 = .ok (.aload_n 0, 1) := by decide +kernel
theorem dX0_rowOf_33 : decode cX0_rowOf 33 = .ok (.getfield 24, 3) := by decide +kernel
theorem dX0_rowOf_36 : decode cX0_rowOf 36 = .ok (.areturn, 1) := by decide +kernel
theorem dX0_rowOf_37 : decode cX0_rowOf 37 = .ok (.aload_n 0, 1) := by decide +kernel
theorem dX0_rowOf_38 : decode cX0_rowOf 38 = .ok (.getfield 27, 3) := by decide +kernel
theorem dX0_rowOf_41 : decode cX0_rowOf 41 = .ok (.areturn, 1) := by decide +kernel
theorem dX0_rowOf_42 : decode cX0_rowOf 42 = .ok (.aload_n 0, 1) := by decide +kernel
theorem dX0_rowOf_43 : decode cX0_rowOf 43 = .ok (.getfield 30, 3) := by decide +kernel
theorem dX0_rowOf_46 : decode cX0_rowOf 46 = .ok (.areturn, 1) := by decide +kernel
theorem dX0_rowOf_47 : decode cX0_rowOf 47 = .ok (.aload_n 0, 1) := by decide +kernel
theorem dX0_rowOf_48 : decode cX0_rowOf 48 = .ok (.getfield 33, 3) := by decide +kernel
theorem dX0_rowOf_51 : decode cX0_rowOf 51 = .ok (.areturn, 1) := by decide +kernel
theorem dX0_rowOf_52 : decode cX0_rowOf 52 = .ok (.aload_n 0, 1) := by decide +kernel
theorem dX0_rowOf_53 : decode cX0_rowOf 53 = .ok (.getfield 36, 3) := by decide +kernel
theorem dX0_rowOf_56 : decode cX0_rowOf 56 = .ok (.areturn, 1) := by decide +kernel
theorem dX0_spotsHolding_0 : decode cX0_spotsHolding 0 = .ok (.iconst 0, 1) := by decide +kernel
theorem dX0_spotsHolding_1 : decode cX0_spotsHolding 1 = .ok (.istore_n 1, 1) := by decide +kernel
theorem dX0_spotsHolding_2 : decode cX0_spotsHolding 2 = .ok (.iconst 0, 1) := by decide +kernel
theorem dX0_spotsHolding_3 : decode cX0_spotsHolding 3 = .ok (.istore_n 2, 1) := by decide +kernel
theorem dX0_spotsHolding_4 : decode cX0_spotsHolding 4 = .ok (.iload_n 2, 1) := by decide +kernel
theorem dX0_spotsHolding_5 : decode cX0_spotsHolding 5 = .ok (.bipush 10, 2) := by decide +kernel
theorem dX0_spotsHolding_7 : decode cX0_spotsHolding 7 = .ok (.if_icmp .ge 22, 3) := by decide +kernel
theorem dX0_spotsHolding_10 : decode cX0_spotsHolding 10 = .ok (.aload_n 0, 1) := by decide +kernel
theorem dX0_spotsHolding_11 : decode cX0_spotsHolding 11 = .ok (.getfield 39, 3) := by decide +kernel
theorem dX0_spotsHolding_14 : decode cX0_spotsHolding 14 = .ok (.iload_n 2, 1) := by decide +kernel
theorem dX0_spotsHolding_15 : decode cX0_spotsHolding 15 = .ok (.iaload, 1) := by decide +kernel
theorem dX0_spotsHolding_16 : decode cX0_spotsHolding 16 = .ok (.iconst (-1), 1) := by decide +kernel
theorem dX0_spotsHolding_17 : decode cX0_spotsHolding 17 = .ok (.if_icmp .eq 6, 3) := by decide +kernel
theorem dX0_spotsHolding_20 : decode cX0_spotsHolding 20 = .ok (.iinc 1 1, 3) := by decide +kernel
theorem dX0_spotsHolding_23 : decode cX0_spotsHolding 23 = .ok (.iinc 2 1, 3) := by decide +kernel
theorem dX0_spotsHolding_26 : decode cX0_spotsHolding 26 = .ok (.goto (-22), 3) := by decide +kernel
theorem dX0_spotsHolding_29 : decode cX0_spotsHolding 29 = .ok (.iload_n 1, 1) := by decide +kernel
theorem dX0_spotsHolding_30 : decode cX0_spotsHolding 30 = .ok (.ireturn, 1) := by decide +kernel
theorem dX0_sum_0 : decode cX0_sum 0 = .ok (.iconst 0, 1) := by decide +kernel
theorem dX0_sum_1 : decode cX0_sum 1 = .ok (.istore_n 2, 1) := by decide +kernel
theorem dX0_sum_2 : decode cX0_sum 2 = .ok (.iconst 0, 1) := by decide +kernel
theorem dX0_sum_3 : decode cX0_sum 3 = .ok (.istore_n 3, 1) := by decide +kernel
theorem dX0_sum_4 : decode cX0_sum 4 = .ok (.iload_n 3, 1) := by decide +kernel
theorem dX0_sum_5 : decode cX0_sum 5 = .ok (.aload_n 0, 1) := by decide +kernel
theorem dX0_sum_6 : decode cX0_sum 6 = .ok (.getfield 42, 3) := by decide +kernel
theorem dX0_sum_9 : decode cX0_sum 9 = .ok (.if_icmp .ge 15, 3) := by decide +kernel
theorem dX0_sum_12 : decode cX0_sum 12 = .ok (.iload_n 2, 1) := by decide +kernel
theorem dX0_sum_13 : decode cX0_sum 13 = .ok (.aload_n 1, 1) := by decide +kernel
theorem dX0_sum_14 : decode cX0_sum 14 = .ok (.iload_n 3, 1) := by decide +kernel
theorem dX0_sum_15 : decode cX0_sum 15 = .ok (.iaload, 1) := by decide +kernel
theorem dX0_sum_16 : decode cX0_sum 16 = .ok (.iadd, 1) := by decide +kernel
theorem dX0_sum_17 : decode cX0_sum 17 = .ok (.istore_n 2, 1) := by decide +kernel
theorem dX0_sum_18 : decode cX0_sum 18 = .ok (.iinc 3 1, 3) := by decide +kernel
theorem dX0_sum_21 : decode cX0_sum 21 = .ok (.goto (-17), 3) := by decide +kernel
theorem dX0_sum_24 : decode cX0_sum 24 = .ok (.iload_n 2, 1) := by decide +kernel
theorem dX0_sum_25 : decode cX0_sum 25 = .ok (.ireturn, 1) := by decide +kernel
theorem dX0_swapInto_0 : decode cX0_swapInto 0 = .ok (.aload_n 0, 1) := by decide +kernel
theorem dX0_swapInto_1 : decode cX0_swapInto 1 = .ok (.iload_n 1, 1) := by decide +kernel
theorem dX0_swapInto_2 : decode cX0_swapInto 2 = .ok (.invokevirtual 70, 3) := by decide +kernel
theorem dX0_swapInto_5 : decode cX0_swapInto 5 = .ok (.istore_n 3, 1) := by decide +kernel
theorem dX0_swapInto_6 : decode cX0_swapInto 6 = .ok (.aload_n 0, 1) := by decide +kernel
theorem dX0_swapInto_7 : decode cX0_swapInto 7 = .ok (.getfield 9, 3) := by decide +kernel
theorem dX0_swapInto_10 : decode cX0_swapInto 10 = .ok (.iload_n 2, 1) := by decide +kernel
theorem dX0_swapInto_11 : decode cX0_swapInto 11 = .ok (.iaload, 1) := by decide +kernel
theorem dX0_swapInto_12 : decode cX0_swapInto 12 = .ok (.istore 4, 2) := by decide +kernel
theorem dX0_swapInto_14 : decode cX0_swapInto 14 = .ok (.iload_n 3, 1) := by decide +kernel
theorem dX0_swapInto_15 : decode cX0_swapInto 15 = .ok (.ifCond .lt 11, 3) := by decide +kernel
theorem dX0_swapInto_18 : decode cX0_swapInto 18 = .ok (.aload_n 0, 1) := by decide +kernel
theorem dX0_swapInto_19 : decode cX0_swapInto 19 = .ok (.getfield 9, 3) := by decide +kernel
theorem dX0_swapInto_22 : decode cX0_swapInto 22 = .ok (.iload_n 3, 1) := by decide +kernel
theorem dX0_swapInto_23 : decode cX0_swapInto 23 = .ok (.iload 4, 2) := by decide +kernel
theorem dX0_swapInto_25 : decode cX0_swapInto 25 = .ok (.iastore, 1) := by decide +kernel
theorem dX0_swapInto_26 : decode cX0_swapInto 26 = .ok (.aload_n 0, 1) := by decide +kernel
theorem dX0_swapInto_27 : decode cX0_swapInto 27 = .ok (.getfield 9, 3) := by decide +kernel
theorem dX0_swapInto_30 : decode cX0_swapInto 30 = .ok (.iload_n 2, 1) := by decide +kernel
theorem dX0_swapInto_31 : decode cX0_swapInto 31 = .ok (.iload_n 1, 1) := by decide +kernel
theorem dX0_swapInto_32 : decode cX0_swapInto 32 = .ok (.iastore, 1) := by decide +kernel
theorem dX0_swapInto_33 : decode cX0_swapInto 33 = .ok (.return_, 1) := by decide +kernel
theorem dX0_throwIn_0 : decode cX0_throwIn 0 = .ok (.aload_n 0, 1) := by decide +kernel
theorem dX0_throwIn_1 : decode cX0_throwIn 1 = .ok (.invokevirtual 101, 3) := by decide +kernel
theorem dX0_throwIn_4 : decode cX0_throwIn 4 = .ok (.istore_n 1, 1) := by decide +kernel
theorem dX0_throwIn_5 : decode cX0_throwIn 5 = .ok (.aload_n 0, 1) := by decide +kernel
theorem dX0_throwIn_6 : decode cX0_throwIn 6 = .ok (.getfield 9, 3) := by decide +kernel
theorem dX0_throwIn_9 : decode cX0_throwIn 9 = .ok (.iload_n 1, 1) := by decide +kernel
theorem dX0_throwIn_10 : decode cX0_throwIn 10 = .ok (.iaload, 1) := by decide +kernel
theorem dX0_throwIn_11 : decode cX0_throwIn 11 = .ok (.istore_n 2, 1) := by decide +kernel
theorem dX0_throwIn_12 : decode cX0_throwIn 12 = .ok (.iload_n 2, 1) := by decide +kernel
theorem dX0_throwIn_13 : decode cX0_throwIn 13 = .ok (.iconst (-1), 1) := by decide +kernel
theorem dX0_throwIn_14 : decode cX0_throwIn 14 = .ok (.if_icmp .ne 20, 3) := by decide +kernel
theorem dX0_throwIn_17 : decode cX0_throwIn 17 = .ok (.aload_n 0, 1) := by decide +kernel
theorem dX0_throwIn_18 : decode cX0_throwIn 18 = .ok (.iconst 0, 1) := by decide +kernel
theorem dX0_throwIn_19 : decode cX0_throwIn 19 = .ok (.aload_n 0, 1) := by decide +kernel
theorem dX0_throwIn_20 : decode cX0_throwIn 20 = .ok (.getfield 58, 3) := by decide +kernel
theorem dX0_throwIn_23 : decode cX0_throwIn 23 = .ok (.iconst 5, 1) := by decide +kernel
theorem dX0_throwIn_24 : decode cX0_throwIn 24 = .ok (.isub, 1) := by decide +kernel
theorem dX0_throwIn_25 : decode cX0_throwIn 25 = .ok (.invokestatic 74, 3) := by decide +kernel
theorem dX0_throwIn_28 : decode cX0_throwIn 28 = .ok (.putfield 58, 3) := by decide +kernel
theorem dX0_throwIn_31 : decode cX0_throwIn 31 = .ok (.goto 32, 3) := by decide +kernel
theorem dX0_throwIn_34 : decode cX0_throwIn 34 = .ok (.aload_n 0, 1) := by decide +kernel
theorem dX0_throwIn_35 : decode cX0_throwIn 35 = .ok (.iload_n 2, 1) := by decide +kernel
theorem dX0_throwIn_36 : decode cX0_throwIn 36 = .ok (.iload_n 1, 1) := by decide +kernel
theorem dX0_throwIn_37 : decode cX0_throwIn 37 = .ok (.invokevirtual 104, 3) := by decide +kernel
theorem dX0_throwIn_40 : decode cX0_throwIn 40 = .ok (.aload_n 0, 1) := by decide +kernel
theorem dX0_throwIn_41 : decode cX0_throwIn 41 = .ok (.getfield 30, 3) := by decide +kernel
theorem dX0_throwIn_44 : decode cX0_throwIn 44 = .ok (.iload_n 2, 1) := by decide +kernel
theorem dX0_throwIn_45 : decode cX0_throwIn 45 = .ok (.bipush 99, 2) := by decide +kernel
theorem dX0_throwIn_47 : decode cX0_throwIn 47 = .ok (.aload_n 0, 1) := by decide +kernel
theorem dX0_throwIn_48 : decode cX0_throwIn 48 = .ok (.getfield 30, 3) := by decide +kernel
theorem dX0_throwIn_51 : decode cX0_throwIn 51 = .ok (.iload_n 2, 1) := by decide +kernel
theorem dX0_throwIn_52 : decode cX0_throwIn 52 = .ok (.iaload, 1) := by decide +kernel
theorem dX0_throwIn_53 : decode cX0_throwIn 53 = .ok (.aload_n 0, 1) := by decide +kernel
theorem dX0_throwIn_54 : decode cX0_throwIn 54 = .ok (.iload_n 2, 1) := by decide +kernel
theorem dX0_throwIn_55 : decode cX0_throwIn 55 = .ok (.invokevirtual 108, 3) := by decide +kernel
theorem dX0_throwIn_58 : decode cX0_throwIn 58 = .ok (.iadd, 1) := by decide +kernel
theorem dX0_throwIn_59 : decode cX0_throwIn 59 = .ok (.invokestatic 111, 3) := by decide +kernel
theorem dX0_throwIn_62 : decode cX0_throwIn 62 = .ok (.iastore, 1) := by decide +kernel
theorem dX0_throwIn_63 : decode cX0_throwIn 63 = .ok (.aload_n 0, 1) := by decide +kernel
theorem dX0_throwIn_64 : decode cX0_throwIn 64 = .ok (.iload_n 2, 1) := by decide +kernel
theorem dX0_throwIn_65 : decode cX0_throwIn 65 = .ok (.invokevirtual 114, 3) := by decide +kernel
theorem dX0_throwIn_68 : decode cX0_throwIn 68 = .ok (.aload_n 0, 1) := by decide +kernel
theorem dX0_throwIn_69 : decode cX0_throwIn 69 = .ok (.iload_n 1, 1) := by decide +kernel
theorem dX0_throwIn_70 : decode cX0_throwIn 70 = .ok (.invokevirtual 118, 3) := by decide +kernel
theorem dX0_throwIn_73 : decode cX0_throwIn 73 = .ok (.aload_n 0, 1) := by decide +kernel
theorem dX0_throwIn_74 : decode cX0_throwIn 74 = .ok (.ldc 121, 2) := by decide +kernel
theorem dX0_throwIn_76 : decode cX0_throwIn 76 = .ok (.aload_n 0, 1) := by decide +kernel
theorem dX0_throwIn_77 : decode cX0_throwIn 77 = .ok (.getfield 55, 3) := by decide +kernel
theorem dX0_throwIn_80 : decode cX0_throwIn 80 = .ok (.iconst 1, 1) := by decide +kernel
theorem dX0_throwIn_81 : decode cX0_throwIn 81 = .ok (.iadd, 1) := by decide +kernel
theorem dX0_throwIn_82 : decode cX0_throwIn 82 = .ok (.invokestatic 111, 3) := by decide +kernel
theorem dX0_throwIn_85 : decode cX0_throwIn 85 = .ok (.putfield 55, 3) := by decide +kernel
theorem dX0_throwIn_88 : decode cX0_throwIn 88 = .ok (.return_, 1) := by decide +kernel
theorem dX0_throwMany_0 : decode cX0_throwMany 0 = .ok (.iconst 0, 1) := by decide +kernel
theorem dX0_throwMany_1 : decode cX0_throwMany 1 = .ok (.istore_n 2, 1) := by decide +kernel
theorem dX0_throwMany_2 : decode cX0_throwMany 2 = .ok (.iload_n 2, 1) := by decide +kernel
theorem dX0_throwMany_3 : decode cX0_throwMany 3 = .ok (.iload_n 1, 1) := by decide +kernel
theorem dX0_throwMany_4 : decode cX0_throwMany 4 = .ok (.if_icmp .ge 13, 3) := by decide +kernel
theorem dX0_throwMany_7 : decode cX0_throwMany 7 = .ok (.aload_n 0, 1) := by decide +kernel
theorem dX0_throwMany_8 : decode cX0_throwMany 8 = .ok (.invokevirtual 98, 3) := by decide +kernel
theorem dX0_throwMany_11 : decode cX0_throwMany 11 = .ok (.iinc 2 1, 3) := by decide +kernel
theorem dX0_throwMany_14 : decode cX0_throwMany 14 = .ok (.goto (-12), 3) := by decide +kernel
theorem dX0_throwMany_17 : decode cX0_throwMany 17 = .ok (.aload_n 0, 1) := by decide +kernel
theorem dX0_throwMany_18 : decode cX0_throwMany 18 = .ok (.getfield 58, 3) := by decide +kernel
theorem dX0_throwMany_21 : decode cX0_throwMany 21 = .ok (.ireturn, 1) := by decide +kernel
theorem dX0_tiringOf_0 : decode cX0_tiringOf 0 = .ok (.aload_n 0, 1) := by decide +kernel
theorem dX0_tiringOf_1 : decode cX0_tiringOf 1 = .ok (.getfield 24, 3) := by decide +kernel
theorem dX0_tiringOf_4 : decode cX0_tiringOf 4 = .ok (.iload_n 1, 1) := by decide +kernel
theorem dX0_tiringOf_5 : decode cX0_tiringOf 5 = .ok (.iaload, 1) := by decide +kernel
theorem dX0_tiringOf_6 : decode cX0_tiringOf 6 = .ok (.tableswitch 55 1 6 #[38, 43, 43, 45, 48, 41], 38) := by decide +kernel
theorem dX0_tiringOf_44 : decode cX0_tiringOf 44 = .ok (.bipush 8, 2) := by decide +kernel
theorem dX0_tiringOf_46 : decode cX0_tiringOf 46 = .ok (.ireturn, 1) := by decide +kernel
theorem dX0_tiringOf_47 : decode cX0_tiringOf 47 = .ok (.iconst 2, 1) := by decide +kernel
theorem dX0_tiringOf_48 : decode cX0_tiringOf 48 = .ok (.ireturn, 1) := by decide +kernel
theorem dX0_tiringOf_49 : decode cX0_tiringOf 49 = .ok (.iconst 4, 1) := by decide +kernel
theorem dX0_tiringOf_50 : decode cX0_tiringOf 50 = .ok (.ireturn, 1) := by decide +kernel
theorem dX0_tiringOf_51 : decode cX0_tiringOf 51 = .ok (.bipush 8, 2) := by decide +kernel
theorem dX0_tiringOf_53 : decode cX0_tiringOf 53 = .ok (.ireturn, 1) := by decide +kernel
theorem dX0_tiringOf_54 : decode cX0_tiringOf 54 = .ok (.iconst 5, 1) := by decide +kernel
theorem dX0_tiringOf_55 : decode cX0_tiringOf 55 = .ok (.aload_n 0, 1) := by decide +kernel
theorem dX0_tiringOf_56 : decode cX0_tiringOf 56 = .ok (.getfield 49, 3) := by decide +kernel
theorem dX0_tiringOf_59 : decode cX0_tiringOf 59 = .ok (.iadd, 1) := by decide +kernel
theorem dX0_tiringOf_60 : decode cX0_tiringOf 60 = .ok (.ireturn, 1) := by decide +kernel
theorem dX0_tiringOf_61 : decode cX0_tiringOf 61 = .ok (.iconst 5, 1) := by decide +kernel
theorem dX0_tiringOf_62 : decode cX0_tiringOf 62 = .ok (.ireturn, 1) := by decide +kernel
theorem dX0_whereIs_0 : decode cX0_whereIs 0 = .ok (.iconst 0, 1) := by decide +kernel
theorem dX0_whereIs_1 : decode cX0_whereIs 1 = .ok (.istore_n 2, 1) := by decide +kernel
theorem dX0_whereIs_2 : decode cX0_whereIs 2 = .ok (.iload_n 2, 1) := by decide +kernel
theorem dX0_whereIs_3 : decode cX0_whereIs 3 = .ok (.bipush 7, 2) := by decide +kernel
theorem dX0_whereIs_5 : decode cX0_whereIs 5 = .ok (.if_icmp .ge 21, 3) := by decide +kernel
theorem dX0_whereIs_8 : decode cX0_whereIs 8 = .ok (.aload_n 0, 1) := by decide +kernel
theorem dX0_whereIs_9 : decode cX0_whereIs 9 = .ok (.getfield 9, 3) := by decide +kernel
theorem dX0_whereIs_12 : decode cX0_whereIs 12 = .ok (.iload_n 2, 1) := by decide +kernel
theorem dX0_whereIs_13 : decode cX0_whereIs 13 = .ok (.iaload, 1) := by decide +kernel
theorem dX0_whereIs_14 : decode cX0_whereIs 14 = .ok (.iload_n 1, 1) := by decide +kernel
theorem dX0_whereIs_15 : decode cX0_whereIs 15 = .ok (.if_icmp .ne 5, 3) := by decide +kernel
theorem dX0_whereIs_18 : decode cX0_whereIs 18 = .ok (.iload_n 2, 1) := by decide +kernel
theorem dX0_whereIs_19 : decode cX0_whereIs 19 = .ok (.ireturn, 1) := by decide +kernel
theorem dX0_whereIs_20 : decode cX0_whereIs 20 = .ok (.iinc 2 1, 3) := by decide +kernel
theorem dX0_whereIs_23 : decode cX0_whereIs 23 = .ok (.goto (-21), 3) := by decide +kernel
theorem dX0_whereIs_26 : decode cX0_whereIs 26 = .ok (.iconst (-1), 1) := by decide +kernel
theorem dX0_whereIs_27 : decode cX0_whereIs 27 = .ok (.ireturn, 1) := by decide +kernel
theorem dX0_winnable_0 : decode cX0_winnable 0 = .ok (.iconst 0, 1) := by decide +kernel
theorem dX0_winnable_1 : decode cX0_winnable 1 = .ok (.istore_n 1, 1) := by decide +kernel
theorem dX0_winnable_2 : decode cX0_winnable 2 = .ok (.iconst 0, 1) := by decide +kernel
theorem dX0_winnable_3 : decode cX0_winnable 3 = .ok (.istore_n 2, 1) := by decide +kernel
theorem dX0_winnable_4 : decode cX0_winnable 4 = .ok (.iload_n 2, 1) := by decide +kernel
theorem dX0_winnable_5 : decode cX0_winnable 5 = .ok (.bipush 7, 2) := by decide +kernel
theorem dX0_winnable_7 : decode cX0_winnable 7 = .ok (.if_icmp .ge 23, 3) := by decide +kernel
theorem dX0_winnable_10 : decode cX0_winnable 10 = .ok (.aload_n 0, 1) := by decide +kernel
theorem dX0_winnable_11 : decode cX0_winnable 11 = .ok (.iload_n 2, 1) := by decide +kernel
theorem dX0_winnable_12 : decode cX0_winnable 12 = .ok (.invokevirtual 86, 3) := by decide +kernel
theorem dX0_winnable_15 : decode cX0_winnable 15 = .ok (.ifCond .eq 9, 3) := by decide +kernel
theorem dX0_winnable_18 : decode cX0_winnable 18 = .ok (.iload_n 1, 1) := by decide +kernel
theorem dX0_winnable_19 : decode cX0_winnable 19 = .ok (.iconst 1, 1) := by decide +kernel
theorem dX0_winnable_20 : decode cX0_winnable 20 = .ok (.iload_n 2, 1) := by decide +kernel
theorem dX0_winnable_21 : decode cX0_winnable 21 = .ok (.ishl, 1) := by decide +kernel
theorem dX0_winnable_22 : decode cX0_winnable 22 = .ok (.ior, 1) := by decide +kernel
theorem dX0_winnable_23 : decode cX0_winnable 23 = .ok (.istore_n 1, 1) := by decide +kernel
theorem dX0_winnable_24 : decode cX0_winnable 24 = .ok (.iinc 2 1, 3) := by decide +kernel
theorem dX0_winnable_27 : decode cX0_winnable 27 = .ok (.goto (-23), 3) := by decide +kernel
theorem dX0_winnable_30 : decode cX0_winnable 30 = .ok (.iload_n 1, 1) := by decide +kernel
theorem dX0_winnable_31 : decode cX0_winnable 31 = .ok (.ireturn, 1) := by decide +kernel
theorem dX0_wouldWin_0 : decode cX0_wouldWin 0 = .ok (.aload_n 0, 1) := by decide +kernel
theorem dX0_wouldWin_1 : decode cX0_wouldWin 1 = .ok (.getfield 9, 3) := by decide +kernel
theorem dX0_wouldWin_4 : decode cX0_wouldWin 4 = .ok (.iload_n 1, 1) := by decide +kernel
theorem dX0_wouldWin_5 : decode cX0_wouldWin 5 = .ok (.iaload, 1) := by decide +kernel
theorem dX0_wouldWin_6 : decode cX0_wouldWin 6 = .ok (.istore_n 2, 1) := by decide +kernel
theorem dX0_wouldWin_7 : decode cX0_wouldWin 7 = .ok (.iload_n 2, 1) := by decide +kernel
theorem dX0_wouldWin_8 : decode cX0_wouldWin 8 = .ok (.iconst (-1), 1) := by decide +kernel
theorem dX0_wouldWin_9 : decode cX0_wouldWin 9 = .ok (.if_icmp .eq 20, 3) := by decide +kernel
theorem dX0_wouldWin_12 : decode cX0_wouldWin 12 = .ok (.aload_n 0, 1) := by decide +kernel
theorem dX0_wouldWin_13 : decode cX0_wouldWin 13 = .ok (.iload_n 2, 1) := by decide +kernel
theorem dX0_wouldWin_14 : decode cX0_wouldWin 14 = .ok (.invokevirtual 80, 3) := by decide +kernel
theorem dX0_wouldWin_17 : decode cX0_wouldWin 17 = .ok (.aload_n 0, 1) := by decide +kernel
theorem dX0_wouldWin_18 : decode cX0_wouldWin 18 = .ok (.iload_n 1, 1) := by decide +kernel
theorem dX0_wouldWin_19 : decode cX0_wouldWin 19 = .ok (.invokevirtual 83, 3) := by decide +kernel
theorem dX0_wouldWin_22 : decode cX0_wouldWin 22 = .ok (.if_icmp .le 7, 3) := by decide +kernel
theorem dX0_wouldWin_25 : decode cX0_wouldWin 25 = .ok (.iconst 1, 1) := by decide +kernel
theorem dX0_wouldWin_26 : decode cX0_wouldWin 26 = .ok (.goto 4, 3) := by decide +kernel
theorem dX0_wouldWin_29 : decode cX0_wouldWin 29 = .ok (.iconst 0, 1) := by decide +kernel
theorem dX0_wouldWin_30 : decode cX0_wouldWin 30 = .ok (.ireturn, 1) := by decide +kernel
theorem dX1_begin_0 : decode cX1_begin 0 = .ok (.aload_n 0, 1) := by decide +kernel
theorem dX1_begin_1 : decode cX1_begin 1 = .ok (.iload_n 1, 1) := by decide +kernel
theorem dX1_begin_2 : decode cX1_begin 2 = .ok (.putfield 15, 3) := by decide +kernel
theorem dX1_begin_5 : decode cX1_begin 5 = .ok (.aload_n 0, 1) := by decide +kernel
theorem dX1_begin_6 : decode cX1_begin 6 = .ok (.iload_n 1, 1) := by decide +kernel
theorem dX1_begin_7 : decode cX1_begin 7 = .ok (.ifCond .ne 7, 3) := by decide +kernel
theorem dX1_begin_10 : decode cX1_begin 10 = .ok (.iconst 0, 1) := by decide +kernel
theorem dX1_begin_11 : decode cX1_begin 11 = .ok (.goto 4, 3) := by decide +kernel
theorem dX1_begin_14 : decode cX1_begin 14 = .ok (.iload_n 2, 1) := by decide +kernel
theorem dX1_begin_15 : decode cX1_begin 15 = .ok (.putfield 19, 3) := by decide +kernel
theorem dX1_begin_18 : decode cX1_begin 18 = .ok (.iconst 0, 1) := by decide +kernel
theorem dX1_begin_19 : decode cX1_begin 19 = .ok (.istore_n 3, 1) := by decide +kernel
theorem dX1_begin_20 : decode cX1_begin 20 = .ok (.iload_n 3, 1) := by decide +kernel
theorem dX1_begin_21 : decode cX1_begin 21 = .ok (.bipush 40, 2) := by decide +kernel
theorem dX1_begin_23 : decode cX1_begin 23 = .ok (.if_icmp .ge 16, 3) := by decide +kernel
theorem dX1_begin_26 : decode cX1_begin 26 = .ok (.aload_n 0, 1) := by decide +kernel
theorem dX1_begin_27 : decode cX1_begin 27 = .ok (.getfield 9, 3) := by decide +kernel
theorem dX1_begin_30 : decode cX1_begin 30 = .ok (.iload_n 3, 1) := by decide +kernel
theorem dX1_begin_31 : decode cX1_begin 31 = .ok (.iconst 0, 1) := by decide +kernel
theorem dX1_begin_32 : decode cX1_begin 32 = .ok (.iastore, 1) := by decide +kernel
theorem dX1_begin_33 : decode cX1_begin 33 = .ok (.iinc 3 1, 3) := by decide +kernel
theorem dX1_begin_36 : decode cX1_begin 36 = .ok (.goto (-16), 3) := by decide +kernel
theorem dX1_begin_39 : decode cX1_begin 39 = .ok (.return_, 1) := by decide +kernel
theorem dX1_has_0 : decode cX1_has 0 = .ok (.iload_n 1, 1) := by decide +kernel
theorem dX1_has_1 : decode cX1_has 1 = .ok (.ifCond .lt 21, 3) := by decide +kernel
theorem dX1_has_4 : decode cX1_has 4 = .ok (.iload_n 2, 1) := by decide +kernel
theorem dX1_has_5 : decode cX1_has 5 = .ok (.ifCond .lt 17, 3) := by decide +kernel
theorem dX1_has_8 : decode cX1_has 8 = .ok (.iload_n 2, 1) := by decide +kernel
theorem dX1_has_9 : decode cX1_has 9 = .ok (.aload_n 0, 1) := by decide +kernel
theorem dX1_has_10 : decode cX1_has 10 = .ok (.getfield 19, 3) := by decide +kernel
theorem dX1_has_13 : decode cX1_has 13 = .ok (.iload_n 1, 1) := by decide +kernel
theorem dX1_has_14 : decode cX1_has 14 = .ok (.isub, 1) := by decide +kernel
theorem dX1_has_15 : decode cX1_has 15 = .ok (.if_icmp .gt 7, 3) := by decide +kernel
theorem dX1_has_18 : decode cX1_has 18 = .ok (.iconst 1, 1) := by decide +kernel
theorem dX1_has_19 : decode cX1_has 19 = .ok (.goto 4, 3) := by decide +kernel
theorem dX1_has_22 : decode cX1_has 22 = .ok (.iconst 0, 1) := by decide +kernel
theorem dX1_has_23 : decode cX1_has 23 = .ok (.ireturn, 1) := by decide +kernel
theorem dX1_isMissing_0 : decode cX1_isMissing 0 = .ok (.aload_n 0, 1) := by decide +kernel
theorem dX1_isMissing_1 : decode cX1_isMissing 1 = .ok (.getfield 15, 3) := by decide +kernel
theorem dX1_isMissing_4 : decode cX1_isMissing 4 = .ok (.ifCond .ne 7, 3) := by decide +kernel
theorem dX1_isMissing_7 : decode cX1_isMissing 7 = .ok (.iconst 1, 1) := by decide +kernel
theorem dX1_isMissing_8 : decode cX1_isMissing 8 = .ok (.goto 4, 3) := by decide +kernel
theorem dX1_isMissing_11 : decode cX1_isMissing 11 = .ok (.iconst 0, 1) := by decide +kernel
theorem dX1_isMissing_12 : decode cX1_isMissing 12 = .ok (.ireturn, 1) := by decide +kernel
theorem dX1_put_0 : decode cX1_put 0 = .ok (.aload_n 0, 1) := by decide +kernel
theorem dX1_put_1 : decode cX1_put 1 = .ok (.getfield 9, 3) := by decide +kernel
theorem dX1_put_4 : decode cX1_put 4 = .ok (.iload_n 1, 1) := by decide +kernel
theorem dX1_put_5 : decode cX1_put 5 = .ok (.aload_n 0, 1) := by decide +kernel
theorem dX1_put_6 : decode cX1_put 6 = .ok (.getfield 15, 3) := by decide +kernel
theorem dX1_put_9 : decode cX1_put 9 = .ok (.bipush 8, 2) := by decide +kernel
theorem dX1_put_11 : decode cX1_put 11 = .ok (.if_icmp .ne 8, 3) := by decide +kernel
theorem dX1_put_14 : decode cX1_put 14 = .ok (.iload_n 2, 1) := by decide +kernel
theorem dX1_put_15 : decode cX1_put 15 = .ok (.i2b, 1) := by decide +kernel
theorem dX1_put_16 : decode cX1_put 16 = .ok (.goto 18, 3) := by decide +kernel
theorem dX1_put_19 : decode cX1_put 19 = .ok (.aload_n 0, 1) := by decide +kernel
theorem dX1_put_20 : decode cX1_put 20 = .ok (.getfield 15, 3) := by decide +kernel
theorem dX1_put_23 : decode cX1_put 23 = .ok (.bipush 16, 2) := by decide +kernel
theorem dX1_put_25 : decode cX1_put 25 = .ok (.if_icmp .ne 8, 3) := by decide +kernel
theorem dX1_put_28 : decode cX1_put 28 = .ok (.iload_n 2, 1) := by decide +kernel
theorem dX1_put_29 : decode cX1_put 29 = .ok (.i2s, 1) := by decide +kernel
theorem dX1_put_30 : decode cX1_put 30 = .ok (.goto 4, 3) := by decide +kernel
theorem dX1_put_33 : decode cX1_put 33 = .ok (.iload_n 2, 1) := by decide +kernel
theorem dX1_put_34 : decode cX1_put 34 = .ok (.iastore, 1) := by decide +kernel
theorem dX1_put_35 : decode cX1_put 35 = .ok (.return_, 1) := by decide +kernel
theorem dX2_isDigit_0 : decode cX2_isDigit 0 = .ok (.iload_n 1, 1) := by decide +kernel
theorem dX2_isDigit_1 : decode cX2_isDigit 1 = .ok (.aload_n 0, 1) := by decide +kernel
theorem dX2_isDigit_2 : decode cX2_isDigit 2 = .ok (.getfield 15, 3) := by decide +kernel
theorem dX2_isDigit_5 : decode cX2_isDigit 5 = .ok (.if_icmp .ge 29, 3) := by decide +kernel
theorem dX2_isDigit_8 : decode cX2_isDigit 8 = .ok (.aload_n 0, 1) := by decide +kernel
theorem dX2_isDigit_9 : decode cX2_isDigit 9 = .ok (.getfield 9, 3) := by decide +kernel
theorem dX2_isDigit_12 : decode cX2_isDigit 12 = .ok (.iload_n 1, 1) := by decide +kernel
theorem dX2_isDigit_13 : decode cX2_isDigit 13 = .ok (.baload, 1) := by decide +kernel
theorem dX2_isDigit_14 : decode cX2_isDigit 14 = .ok (.bipush 48, 2) := by decide +kernel
theorem dX2_isDigit_16 : decode cX2_isDigit 16 = .ok (.if_icmp .lt 18, 3) := by decide +kernel
theorem dX2_isDigit_19 : decode cX2_isDigit 19 = .ok (.aload_n 0, 1) := by decide +kernel
theorem dX2_isDigit_20 : decode cX2_isDigit 20 = .ok (.getfield 9, 3) := by decide +kernel
theorem dX2_isDigit_23 : decode cX2_isDigit 23 = .ok (.iload_n 1, 1) := by decide +kernel
theorem dX2_isDigit_24 : decode cX2_isDigit 24 = .ok (.baload, 1) := by decide +kernel
theorem dX2_isDigit_25 : decode cX2_isDigit 25 = .ok (.bipush 57, 2) := by decide +kernel
theorem dX2_isDigit_27 : decode cX2_isDigit 27 = .ok (.if_icmp .gt 7, 3) := by decide +kernel
theorem dX2_isDigit_30 : decode cX2_isDigit 30 = .ok (.iconst 1, 1) := by decide +kernel
theorem dX2_isDigit_31 : decode cX2_isDigit 31 = .ok (.goto 4, 3) := by decide +kernel
theorem dX2_isDigit_34 : decode cX2_isDigit 34 = .ok (.iconst 0, 1) := by decide +kernel
theorem dX2_isDigit_35 : decode cX2_isDigit 35 = .ok (.ireturn, 1) := by decide +kernel
theorem dX2_isLetter_0 : decode cX2_isLetter 0 = .ok (.iload_n 1, 1) := by decide +kernel
theorem dX2_isLetter_1 : decode cX2_isLetter 1 = .ok (.aload_n 0, 1) := by decide +kernel
theorem dX2_isLetter_2 : decode cX2_isLetter 2 = .ok (.getfield 15, 3) := by decide +kernel
theorem dX2_isLetter_5 : decode cX2_isLetter 5 = .ok (.if_icmp .ge 29, 3) := by decide +kernel
theorem dX2_isLetter_8 : decode cX2_isLetter 8 = .ok (.aload_n 0, 1) := by decide +kernel
theorem dX2_isLetter_9 : decode cX2_isLetter 9 = .ok (.getfield 9, 3) := by decide +kernel
theorem dX2_isLetter_12 : decode cX2_isLetter 12 = .ok (.iload_n 1, 1) := by decide +kernel
theorem dX2_isLetter_13 : decode cX2_isLetter 13 = .ok (.baload, 1) := by decide +kernel
theorem dX2_isLetter_14 : decode cX2_isLetter 14 = .ok (.bipush 97, 2) := by decide +kernel
theorem dX2_isLetter_16 : decode cX2_isLetter 16 = .ok (.if_icmp .lt 18, 3) := by decide +kernel
theorem dX2_isLetter_19 : decode cX2_isLetter 19 = .ok (.aload_n 0, 1) := by decide +kernel
theorem dX2_isLetter_20 : decode cX2_isLetter 20 = .ok (.getfield 9, 3) := by decide +kernel
theorem dX2_isLetter_23 : decode cX2_isLetter 23 = .ok (.iload_n 1, 1) := by decide +kernel
theorem dX2_isLetter_24 : decode cX2_isLetter 24 = .ok (.baload, 1) := by decide +kernel
theorem dX2_isLetter_25 : decode cX2_isLetter 25 = .ok (.bipush 122, 2) := by decide +kernel
theorem dX2_isLetter_27 : decode cX2_isLetter 27 = .ok (.if_icmp .gt 7, 3) := by decide +kernel
theorem dX2_isLetter_30 : decode cX2_isLetter 30 = .ok (.iconst 1, 1) := by decide +kernel
theorem dX2_isLetter_31 : decode cX2_isLetter 31 = .ok (.goto 4, 3) := by decide +kernel
theorem dX2_isLetter_34 : decode cX2_isLetter 34 = .ok (.iconst 0, 1) := by decide +kernel
theorem dX2_isLetter_35 : decode cX2_isLetter 35 = .ok (.ireturn, 1) := by decide +kernel
theorem dX2_isNumber_0 : decode cX2_isNumber 0 = .ok (.aload_n 0, 1) := by decide +kernel
theorem dX2_isNumber_1 : decode cX2_isNumber 1 = .ok (.getfield 19, 3) := by decide +kernel
theorem dX2_isNumber_4 : decode cX2_isNumber 4 = .ok (.iconst 2, 1) := by decide +kernel
theorem dX2_isNumber_5 : decode cX2_isNumber 5 = .ok (.if_icmp .ne 15, 3) := by decide +kernel
theorem dX2_isNumber_8 : decode cX2_isNumber 8 = .ok (.aload_n 0, 1) := by decide +kernel
theorem dX2_isNumber_9 : decode cX2_isNumber 9 = .ok (.getfield 28, 3) := by decide +kernel
theorem dX2_isNumber_12 : decode cX2_isNumber 12 = .ok (.iload_n 1, 1) := by decide +kernel
theorem dX2_isNumber_13 : decode cX2_isNumber 13 = .ok (.if_icmp .gt 7, 3) := by decide +kernel
theorem dX2_isNumber_16 : decode cX2_isNumber 16 = .ok (.iconst 1, 1) := by decide +kernel
theorem dX2_isNumber_17 : decode cX2_isNumber 17 = .ok (.goto 4, 3) := by decide +kernel
theorem dX2_isNumber_20 : decode cX2_isNumber 20 = .ok (.iconst 0, 1) := by decide +kernel
theorem dX2_isNumber_21 : decode cX2_isNumber 21 = .ok (.ireturn, 1) := by decide +kernel
theorem dX2_isSpelled_0 : decode cX2_isSpelled 0 = .ok (.aload_n 1, 1) := by decide +kernel
theorem dX2_isSpelled_1 : decode cX2_isSpelled 1 = .ok (.invokevirtual 61, 3) := by decide +kernel
theorem dX2_isSpelled_4 : decode cX2_isSpelled 4 = .ok (.aload_n 0, 1) := by decide +kernel
theorem dX2_isSpelled_5 : decode cX2_isSpelled 5 = .ok (.getfield 25, 3) := by decide +kernel
theorem dX2_isSpelled_8 : decode cX2_isSpelled 8 = .ok (.aload_n 0, 1) := by decide +kernel
theorem dX2_isSpelled_9 : decode cX2_isSpelled 9 = .ok (.getfield 22, 3) := by decide +kernel
theorem dX2_isSpelled_12 : decode cX2_isSpelled 12 = .ok (.isub, 1) := by decide +kernel
theorem dX2_isSpelled_13 : decode cX2_isSpelled 13 = .ok (.if_icmp .eq 5, 3) := by decide +kernel
theorem dX2_isSpelled_16 : decode cX2_isSpelled 16 = .ok (.iconst 0, 1) := by decide +kernel
theorem dX2_isSpelled_17 : decode cX2_isSpelled 17 = .ok (.ireturn, 1) := by decide +kernel
theorem dX2_isSpelled_18 : decode cX2_isSpelled 18 = .ok (.iconst 0, 1) := by decide +kernel
theorem dX2_isSpelled_19 : decode cX2_isSpelled 19 = .ok (.istore_n 2, 1) := by decide +kernel
theorem dX2_isSpelled_20 : decode cX2_isSpelled 20 = .ok (.iload_n 2, 1) := by decide +kernel
theorem dX2_isSpelled_21 : decode cX2_isSpelled 21 = .ok (.aload_n 1, 1) := by decide +kernel
theorem dX2_isSpelled_22 : decode cX2_isSpelled 22 = .ok (.invokevirtual 61, 3) := by decide +kernel
theorem dX2_isSpelled_25 : decode cX2_isSpelled 25 = .ok (.if_icmp .ge 30, 3) := by decide +kernel
theorem dX2_isSpelled_28 : decode cX2_isSpelled 28 = .ok (.aload_n 1, 1) := by decide +kernel
theorem dX2_isSpelled_29 : decode cX2_isSpelled 29 = .ok (.iload_n 2, 1) := by decide +kernel
theorem dX2_isSpelled_30 : decode cX2_isSpelled 30 = .ok (.invokevirtual 67, 3) := by decide +kernel
theorem dX2_isSpelled_33 : decode cX2_isSpelled 33 = .ok (.aload_n 0, 1) := by decide +kernel
theorem dX2_isSpelled_34 : decode cX2_isSpelled 34 = .ok (.getfield 9, 3) := by decide +kernel
theorem dX2_isSpelled_37 : decode cX2_isSpelled 37 = .ok (.aload_n 0, 1) := by decide +kernel
theorem dX2_isSpelled_38 : decode cX2_isSpelled 38 = .ok (.getfield 22, 3) := by decide +kernel
theorem dX2_isSpelled_41 : decode cX2_isSpelled 41 = .ok (.iload_n 2, 1) := by decide +kernel
theorem dX2_isSpelled_42 : decode cX2_isSpelled 42 = .ok (.iadd, 1) := by decide +kernel
theorem dX2_isSpelled_43 : decode cX2_isSpelled 43 = .ok (.baload, 1) := by decide +kernel
theorem dX2_isSpelled_44 : decode cX2_isSpelled 44 = .ok (.if_icmp .eq 5, 3) := by decide +kernel
theorem dX2_isSpelled_47 : decode cX2_isSpelled 47 = .ok (.iconst 0, 1) := by decide +kernel
theorem dX2_isSpelled_48 : decode cX2_isSpelled 48 = .ok (.ireturn, 1) := by decide +kernel
theorem dX2_isSpelled_49 : decode cX2_isSpelled 49 = .ok (.iinc 2 1, 3) := by decide +kernel
theorem dX2_isSpelled_52 : decode cX2_isSpelled 52 = .ok (.goto (-32), 3) := by decide +kernel
theorem dX2_isSpelled_55 : decode cX2_isSpelled 55 = .ok (.iconst 1, 1) := by decide +kernel
theorem dX2_isSpelled_56 : decode cX2_isSpelled 56 = .ok (.ireturn, 1) := by decide +kernel
theorem dX2_isWord_0 : decode cX2_isWord 0 = .ok (.aload_n 0, 1) := by decide +kernel
theorem dX2_isWord_1 : decode cX2_isWord 1 = .ok (.getfield 19, 3) := by decide +kernel
theorem dX2_isWord_4 : decode cX2_isWord 4 = .ok (.iconst 1, 1) := by decide +kernel
theorem dX2_isWord_5 : decode cX2_isWord 5 = .ok (.if_icmp .ne 15, 3) := by decide +kernel
theorem dX2_isWord_8 : decode cX2_isWord 8 = .ok (.aload_n 0, 1) := by decide +kernel
theorem dX2_isWord_9 : decode cX2_isWord 9 = .ok (.getfield 28, 3) := by decide +kernel
theorem dX2_isWord_12 : decode cX2_isWord 12 = .ok (.iload_n 1, 1) := by decide +kernel
theorem dX2_isWord_13 : decode cX2_isWord 13 = .ok (.if_icmp .ne 7, 3) := by decide +kernel
theorem dX2_isWord_16 : decode cX2_isWord 16 = .ok (.iconst 1, 1) := by decide +kernel
theorem dX2_isWord_17 : decode cX2_isWord 17 = .ok (.goto 4, 3) := by decide +kernel
theorem dX2_isWord_20 : decode cX2_isWord 20 = .ok (.iconst 0, 1) := by decide +kernel
theorem dX2_isWord_21 : decode cX2_isWord 21 = .ok (.ireturn, 1) := by decide +kernel
theorem dX2_put_0 : decode cX2_put 0 = .ok (.aload_n 0, 1) := by decide +kernel
theorem dX2_put_1 : decode cX2_put 1 = .ok (.getfield 15, 3) := by decide +kernel
theorem dX2_put_4 : decode cX2_put 4 = .ok (.bipush 120, 2) := by decide +kernel
theorem dX2_put_6 : decode cX2_put 6 = .ok (.if_icmp .ge 23, 3) := by decide +kernel
theorem dX2_put_9 : decode cX2_put 9 = .ok (.aload_n 0, 1) := by decide +kernel
theorem dX2_put_10 : decode cX2_put 10 = .ok (.getfield 9, 3) := by decide +kernel
theorem dX2_put_13 : decode cX2_put 13 = .ok (.aload_n 0, 1) := by decide +kernel
theorem dX2_put_14 : decode cX2_put 14 = .ok (.getfield 15, 3) := by decide +kernel
theorem dX2_put_17 : decode cX2_put 17 = .ok (.iload_n 1, 1) := by decide +kernel
theorem dX2_put_18 : decode cX2_put 18 = .ok (.bastore, 1) := by decide +kernel
theorem dX2_put_19 : decode cX2_put 19 = .ok (.aload_n 0, 1) := by decide +kernel
theorem dX2_put_20 : decode cX2_put 20 = .ok (.dup, 1) := by decide +kernel
theorem dX2_put_21 : decode cX2_put 21 = .ok (.getfield 15, 3) := by decide +kernel
theorem dX2_put_24 : decode cX2_put 24 = .ok (.iconst 1, 1) := by decide +kernel
theorem dX2_put_25 : decode cX2_put 25 = .ok (.iadd, 1) := by decide +kernel
theorem dX2_put_26 : decode cX2_put 26 = .ok (.putfield 15, 3) := by decide +kernel
theorem dX2_put_29 : decode cX2_put 29 = .ok (.return_, 1) := by decide +kernel
theorem dX2_rewind_0 : decode cX2_rewind 0 = .ok (.aload_n 0, 1) := by decide +kernel
theorem dX2_rewind_1 : decode cX2_rewind 1 = .ok (.iconst 0, 1) := by decide +kernel
theorem dX2_rewind_2 : decode cX2_rewind 2 = .ok (.putfield 25, 3) := by decide +kernel
theorem dX2_rewind_5 : decode cX2_rewind 5 = .ok (.aload_n 0, 1) := by decide +kernel
theorem dX2_rewind_6 : decode cX2_rewind 6 = .ok (.invokevirtual 31, 3) := by decide +kernel
theorem dX2_rewind_9 : decode cX2_rewind 9 = .ok (.return_, 1) := by decide +kernel
theorem dX2_spelling_0 : decode cX2_spelling 0 = .ok (.iload_n 0, 1) := by decide +kernel
theorem dX2_spelling_1 : decode cX2_spelling 1 = .ok (.tableswitch 106 0 12 #[67, 70, 73, 76, 79, 82, 85, 88, 91, 94, 97, 100, 103], 67) := by decide +kernel
theorem dX2_spelling_68 : decode cX2_spelling 68 = .ok (.ldc 71, 2) := by decide +kernel
theorem dX2_spelling_70 : decode cX2_spelling 70 = .ok (.areturn, 1) := by decide +kernel
theorem dX2_spelling_71 : decode cX2_spelling 71 = .ok (.ldc 73, 2) := by decide +kernel
theorem dX2_spelling_73 : decode cX2_spelling 73 = .ok (.areturn, 1) := by decide +kernel
theorem dX2_spelling_74 : decode cX2_spelling 74 = .ok (.ldc 75, 2) := by decide +kernel
theorem dX2_spelling_76 : decode cX2_spelling 76 = .ok (.areturn, 1) := by decide +kernel
theorem dX2_spelling_77 : decode cX2_spelling 77 = .ok (.ldc 77, 2) := by decide +kernel
theorem dX2_spelling_79 : decode cX2_spelling 79 = .ok (.areturn, 1) := by decide +kernel
theorem dX2_spelling_80 : decode cX2_spelling 80 = .ok (.ldc 79, 2) := by decide +kernel
theorem dX2_spelling_82 : decode cX2_spelling 82 = .ok (.areturn, 1) := by decide +kernel
theorem dX2_spelling_83 : decode cX2_spelling 83 = .ok (.ldc 81, 2) := by decide +kernel
theorem dX2_spelling_85 : decode cX2_spelling 85 = .ok (.areturn, 1) := by decide +kernel
theorem dX2_spelling_86 : decode cX2_spelling 86 = .ok (.ldc 83, 2) := by decide +kernel
theorem dX2_spelling_88 : decode cX2_spelling 88 = .ok (.areturn, 1) := by decide +kernel
theorem dX2_spelling_89 : decode cX2_spelling 89 = .ok (.ldc 85, 2) := by decide +kernel
theorem dX2_spelling_91 : decode cX2_spelling 91 = .ok (.areturn, 1) := by decide +kernel
theorem dX2_spelling_92 : decode cX2_spelling 92 = .ok (.ldc 87, 2) := by decide +kernel
theorem dX2_spelling_94 : decode cX2_spelling 94 = .ok (.areturn, 1) := by decide +kernel
theorem dX2_spelling_95 : decode cX2_spelling 95 = .ok (.ldc 89, 2) := by decide +kernel
theorem dX2_spelling_97 : decode cX2_spelling 97 = .ok (.areturn, 1) := by decide +kernel
theorem dX2_spelling_98 : decode cX2_spelling 98 = .ok (.ldc 91, 2) := by decide +kernel
theorem dX2_spelling_100 : decode cX2_spelling 100 = .ok (.areturn, 1) := by decide +kernel
theorem dX2_spelling_101 : decode cX2_spelling 101 = .ok (.ldc 93, 2) := by decide +kernel
theorem dX2_spelling_103 : decode cX2_spelling 103 = .ok (.areturn, 1) := by decide +kernel
theorem dX2_spelling_104 : decode cX2_spelling 104 = .ok (.ldc 95, 2) := by decide +kernel
theorem dX2_spelling_106 : decode cX2_spelling 106 = .ok (.areturn, 1) := by decide +kernel
theorem dX2_spelling_107 : decode cX2_spelling 107 = .ok (.ldc 97, 2) := by decide +kernel
theorem dX2_spelling_109 : decode cX2_spelling 109 = .ok (.areturn, 1) := by decide +kernel
theorem dX2_step_0 : decode cX2_step 0 = .ok (.aload_n 0, 1) := by decide +kernel
theorem dX2_step_1 : decode cX2_step 1 = .ok (.aload_n 0, 1) := by decide +kernel
theorem dX2_step_2 : decode cX2_step 2 = .ok (.getfield 25, 3) := by decide +kernel
theorem dX2_step_5 : decode cX2_step 5 = .ok (.putfield 22, 3) := by decide +kernel
theorem dX2_step_8 : decode cX2_step 8 = .ok (.aload_n 0, 1) := by decide +kernel
theorem dX2_step_9 : decode cX2_step 9 = .ok (.getfield 22, 3) := by decide +kernel
theorem dX2_step_12 : decode cX2_step 12 = .ok (.aload_n 0, 1) := by decide +kernel
theorem dX2_step_13 : decode cX2_step 13 = .ok (.getfield 15, 3) := by decide +kernel
theorem dX2_step_16 : decode cX2_step 16 = .ok (.if_icmp .ge 30, 3) := by decide +kernel
theorem dX2_step_19 : decode cX2_step 19 = .ok (.aload_n 0, 1) := by decide +kernel
theorem dX2_step_20 : decode cX2_step 20 = .ok (.getfield 9, 3) := by decide +kernel
theorem dX2_step_23 : decode cX2_step 23 = .ok (.aload_n 0, 1) := by decide +kernel
theorem dX2_step_24 : decode cX2_step 24 = .ok (.getfield 22, 3) := by decide +kernel
theorem dX2_step_27 : decode cX2_step 27 = .ok (.baload, 1) := by decide +kernel
theorem dX2_step_28 : decode cX2_step 28 = .ok (.bipush 32, 2) := by decide +kernel
theorem dX2_step_30 : decode cX2_step 30 = .ok (.if_icmp .ne 16, 3) := by decide +kernel
theorem dX2_step_33 : decode cX2_step 33 = .ok (.aload_n 0, 1) := by decide +kernel
theorem dX2_step_34 : decode cX2_step 34 = .ok (.dup, 1) := by decide +kernel
theorem dX2_step_35 : decode cX2_step 35 = .ok (.getfield 22, 3) := by decide +kernel
theorem dX2_step_38 : decode cX2_step 38 = .ok (.iconst 1, 1) := by decide +kernel
theorem dX2_step_39 : decode cX2_step 39 = .ok (.iadd, 1) := by decide +kernel
theorem dX2_step_40 : decode cX2_step 40 = .ok (.putfield 22, 3) := by decide +kernel
theorem dX2_step_43 : decode cX2_step 43 = .ok (.goto (-35), 3) := by decide +kernel
theorem dX2_step_46 : decode cX2_step 46 = .ok (.aload_n 0, 1) := by decide +kernel
theorem dX2_step_47 : decode cX2_step 47 = .ok (.aload_n 0, 1) := by decide +kernel
theorem dX2_step_48 : decode cX2_step 48 = .ok (.getfield 22, 3) := by decide +kernel
theorem dX2_step_51 : decode cX2_step 51 = .ok (.putfield 25, 3) := by decide +kernel
theorem dX2_step_54 : decode cX2_step 54 = .ok (.aload_n 0, 1) := by decide +kernel
theorem dX2_step_55 : decode cX2_step 55 = .ok (.getfield 22, 3) := by decide +kernel
theorem dX2_step_58 : decode cX2_step 58 = .ok (.aload_n 0, 1) := by decide +kernel
theorem dX2_step_59 : decode cX2_step 59 = .ok (.getfield 15, 3) := by decide +kernel
theorem dX2_step_62 : decode cX2_step 62 = .ok (.if_icmp .lt 11, 3) := by decide +kernel
theorem dX2_step_65 : decode cX2_step 65 = .ok (.aload_n 0, 1) := by decide +kernel
theorem dX2_step_66 : decode cX2_step 66 = .ok (.iconst 0, 1) := by decide +kernel
theorem dX2_step_67 : decode cX2_step 67 = .ok (.putfield 19, 3) := by decide +kernel
theorem dX2_step_70 : decode cX2_step 70 = .ok (.goto 82, 3) := by decide +kernel
theorem dX2_step_73 : decode cX2_step 73 = .ok (.aload_n 0, 1) := by decide +kernel
theorem dX2_step_74 : decode cX2_step 74 = .ok (.aload_n 0, 1) := by decide +kernel
theorem dX2_step_75 : decode cX2_step 75 = .ok (.getfield 22, 3) := by decide +kernel
theorem dX2_step_78 : decode cX2_step 78 = .ok (.invokevirtual 34, 3) := by decide +kernel
theorem dX2_step_81 : decode cX2_step 81 = .ok (.ifCond .eq 15, 3) := by decide +kernel
theorem dX2_step_84 : decode cX2_step 84 = .ok (.aload_n 0, 1) := by decide +kernel
theorem dX2_step_85 : decode cX2_step 85 = .ok (.iconst 1, 1) := by decide +kernel
theorem dX2_step_86 : decode cX2_step 86 = .ok (.putfield 19, 3) := by decide +kernel
theorem dX2_step_89 : decode cX2_step 89 = .ok (.aload_n 0, 1) := by decide +kernel
theorem dX2_step_90 : decode cX2_step 90 = .ok (.invokevirtual 38, 3) := by decide +kernel
theorem dX2_step_93 : decode cX2_step 93 = .ok (.goto 59, 3) := by decide +kernel
theorem dX2_step_96 : decode cX2_step 96 = .ok (.aload_n 0, 1) := by decide +kernel
theorem dX2_step_97 : decode cX2_step 97 = .ok (.aload_n 0, 1) := by decide +kernel
theorem dX2_step_98 : decode cX2_step 98 = .ok (.getfield 22, 3) := by decide +kernel
theorem dX2_step_101 : decode cX2_step 101 = .ok (.invokevirtual 41, 3) := by decide +kernel
theorem dX2_step_104 : decode cX2_step 104 = .ok (.ifCond .eq 15, 3) := by decide +kernel
theorem dX2_step_107 : decode cX2_step 107 = .ok (.aload_n 0, 1) := by decide +kernel
theorem dX2_step_108 : decode cX2_step 108 = .ok (.iconst 2, 1) := by decide +kernel
theorem dX2_step_109 : decode cX2_step 109 = .ok (.putfield 19, 3) := by decide +kernel
theorem dX2_step_112 : decode cX2_step 112 = .ok (.aload_n 0, 1) := by decide +kernel
theorem dX2_step_113 : decode cX2_step 113 = .ok (.invokevirtual 44, 3) := by decide +kernel
theorem dX2_step_116 : decode cX2_step 116 = .ok (.goto 36, 3) := by decide +kernel
theorem dX2_step_119 : decode cX2_step 119 = .ok (.aload_n 0, 1) := by decide +kernel
theorem dX2_step_120 : decode cX2_step 120 = .ok (.aload_n 0, 1) := by decide +kernel
theorem dX2_step_121 : decode cX2_step 121 = .ok (.getfield 9, 3) := by decide +kernel
theorem dX2_step_124 : decode cX2_step 124 = .ok (.aload_n 0, 1) := by decide +kernel
theorem dX2_step_125 : decode cX2_step 125 = .ok (.getfield 22, 3) := by decide +kernel
theorem dX2_step_128 : decode cX2_step 128 = .ok (.baload, 1) := by decide +kernel
theorem dX2_step_129 : decode cX2_step 129 = .ok (.bipush 59, 2) := by decide +kernel
theorem dX2_step_131 : decode cX2_step 131 = .ok (.if_icmp .ne 7, 3) := by decide +kernel
theorem dX2_step_134 : decode cX2_step 134 = .ok (.iconst 3, 1) := by decide +kernel
theorem dX2_step_135 : decode cX2_step 135 = .ok (.goto 4, 3) := by decide +kernel
theorem dX2_step_138 : decode cX2_step 138 = .ok (.iconst 4, 1) := by decide +kernel
theorem dX2_step_139 : decode cX2_step 139 = .ok (.putfield 19, 3) := by decide +kernel
theorem dX2_step_142 : decode cX2_step 142 = .ok (.aload_n 0, 1) := by decide +kernel
theorem dX2_step_143 : decode cX2_step 143 = .ok (.aload_n 0, 1) := by decide +kernel
theorem dX2_step_144 : decode cX2_step 144 = .ok (.getfield 22, 3) := by decide +kernel
theorem dX2_step_147 : decode cX2_step 147 = .ok (.iconst 1, 1) := by decide +kernel
theorem dX2_step_148 : decode cX2_step 148 = .ok (.iadd, 1) := by decide +kernel
theorem dX2_step_149 : decode cX2_step 149 = .ok (.putfield 25, 3) := by decide +kernel
theorem dX2_step_152 : decode cX2_step 152 = .ok (.return_, 1) := by decide +kernel
theorem dX2_takeNumber_0 : decode cX2_takeNumber 0 = .ok (.aload_n 0, 1) := by decide +kernel
theorem dX2_takeNumber_1 : decode cX2_takeNumber 1 = .ok (.iconst 0, 1) := by decide +kernel
theorem dX2_takeNumber_2 : decode cX2_takeNumber 2 = .ok (.putfield 28, 3) := by decide +kernel
theorem dX2_takeNumber_5 : decode cX2_takeNumber 5 = .ok (.aload_n 0, 1) := by decide +kernel
theorem dX2_takeNumber_6 : decode cX2_takeNumber 6 = .ok (.getfield 25, 3) := by decide +kernel
theorem dX2_takeNumber_9 : decode cX2_takeNumber 9 = .ok (.aload_n 0, 1) := by decide +kernel
theorem dX2_takeNumber_10 : decode cX2_takeNumber 10 = .ok (.getfield 15, 3) := by decide +kernel
theorem dX2_takeNumber_13 : decode cX2_takeNumber 13 = .ok (.if_icmp .ge 57, 3) := by decide +kernel
theorem dX2_takeNumber_16 : decode cX2_takeNumber 16 = .ok (.aload_n 0, 1) := by decide +kernel
theorem dX2_takeNumber_17 : decode cX2_takeNumber 17 = .ok (.aload_n 0, 1) := by decide +kernel
theorem dX2_takeNumber_18 : decode cX2_takeNumber 18 = .ok (.getfield 25, 3) := by decide +kernel
theorem dX2_takeNumber_21 : decode cX2_takeNumber 21 = .ok (.invokevirtual 41, 3) := by decide +kernel
theorem dX2_takeNumber_24 : decode cX2_takeNumber 24 = .ok (.ifCond .eq 46, 3) := by decide +kernel
theorem dX2_takeNumber_27 : decode cX2_takeNumber 27 = .ok (.aload_n 0, 1) := by decide +kernel
theorem dX2_takeNumber_28 : decode cX2_takeNumber 28 = .ok (.sipush 1000, 3) := by decide +kernel
theorem dX2_takeNumber_31 : decode cX2_takeNumber 31 = .ok (.aload_n 0, 1) := by decide +kernel
theorem dX2_takeNumber_32 : decode cX2_takeNumber 32 = .ok (.getfield 28, 3) := by decide +kernel
theorem dX2_takeNumber_35 : decode cX2_takeNumber 35 = .ok (.bipush 10, 2) := by decide +kernel
theorem dX2_takeNumber_37 : decode cX2_takeNumber 37 = .ok (.imul, 1) := by decide +kernel
theorem dX2_takeNumber_38 : decode cX2_takeNumber 38 = .ok (.aload_n 0, 1) := by decide +kernel
theorem dX2_takeNumber_39 : decode cX2_takeNumber 39 = .ok (.getfield 9, 3) := by decide +kernel
theorem dX2_takeNumber_42 : decode cX2_takeNumber 42 = .ok (.aload_n 0, 1) := by decide +kernel
theorem dX2_takeNumber_43 : decode cX2_takeNumber 43 = .ok (.getfield 25, 3) := by decide +kernel
theorem dX2_takeNumber_46 : decode cX2_takeNumber 46 = .ok (.baload, 1) := by decide +kernel
theorem dX2_takeNumber_47 : decode cX2_takeNumber 47 = .ok (.iadd, 1) := by decide +kernel
theorem dX2_takeNumber_48 : decode cX2_takeNumber 48 = .ok (.bipush 48, 2) := by decide +kernel
theorem dX2_takeNumber_50 : decode cX2_takeNumber 50 = .ok (.isub, 1) := by decide +kernel
theorem dX2_takeNumber_51 : decode cX2_takeNumber 51 = .ok (.invokestatic 47, 3) := by decide +kernel
theorem dX2_takeNumber_54 : decode cX2_takeNumber 54 = .ok (.putfield 28, 3) := by decide +kernel
theorem dX2_takeNumber_57 : decode cX2_takeNumber 57 = .ok (.aload_n 0, 1) := by decide +kernel
theorem dX2_takeNumber_58 : decode cX2_takeNumber 58 = .ok (.dup, 1) := by decide +kernel
theorem dX2_takeNumber_59 : decode cX2_takeNumber 59 = .ok (.getfield 25, 3) := by decide +kernel
theorem dX2_takeNumber_62 : decode cX2_takeNumber 62 = .ok (.iconst 1, 1) := by decide +kernel
theorem dX2_takeNumber_63 : decode cX2_takeNumber 63 = .ok (.iadd, 1) := by decide +kernel
theorem dX2_takeNumber_64 : decode cX2_takeNumber 64 = .ok (.putfield 25, 3) := by decide +kernel
theorem dX2_takeNumber_67 : decode cX2_takeNumber 67 = .ok (.goto (-62), 3) := by decide +kernel
theorem dX2_takeNumber_70 : decode cX2_takeNumber 70 = .ok (.return_, 1) := by decide +kernel
theorem dX2_takeWord_0 : decode cX2_takeWord 0 = .ok (.aload_n 0, 1) := by decide +kernel
theorem dX2_takeWord_1 : decode cX2_takeWord 1 = .ok (.getfield 25, 3) := by decide +kernel
theorem dX2_takeWord_4 : decode cX2_takeWord 4 = .ok (.aload_n 0, 1) := by decide +kernel
theorem dX2_takeWord_5 : decode cX2_takeWord 5 = .ok (.getfield 15, 3) := by decide +kernel
theorem dX2_takeWord_8 : decode cX2_takeWord 8 = .ok (.if_icmp .ge 27, 3) := by decide +kernel
theorem dX2_takeWord_11 : decode cX2_takeWord 11 = .ok (.aload_n 0, 1) := by decide +kernel
theorem dX2_takeWord_12 : decode cX2_takeWord 12 = .ok (.aload_n 0, 1) := by decide +kernel
theorem dX2_takeWord_13 : decode cX2_takeWord 13 = .ok (.getfield 25, 3) := by decide +kernel
theorem dX2_takeWord_16 : decode cX2_takeWord 16 = .ok (.invokevirtual 34, 3) := by decide +kernel
theorem dX2_takeWord_19 : decode cX2_takeWord 19 = .ok (.ifCond .eq 16, 3) := by decide +kernel
theorem dX2_takeWord_22 : decode cX2_takeWord 22 = .ok (.aload_n 0, 1) := by decide +kernel
theorem dX2_takeWord_23 : decode cX2_takeWord 23 = .ok (.dup, 1) := by decide +kernel
theorem dX2_takeWord_24 : decode cX2_takeWord 24 = .ok (.getfield 25, 3) := by decide +kernel
theorem dX2_takeWord_27 : decode cX2_takeWord 27 = .ok (.iconst 1, 1) := by decide +kernel
theorem dX2_takeWord_28 : decode cX2_takeWord 28 = .ok (.iadd, 1) := by decide +kernel
theorem dX2_takeWord_29 : decode cX2_takeWord 29 = .ok (.putfield 25, 3) := by decide +kernel
theorem dX2_takeWord_32 : decode cX2_takeWord 32 = .ok (.goto (-32), 3) := by decide +kernel
theorem dX2_takeWord_35 : decode cX2_takeWord 35 = .ok (.aload_n 0, 1) := by decide +kernel
theorem dX2_takeWord_36 : decode cX2_takeWord 36 = .ok (.iconst (-1), 1) := by decide +kernel
theorem dX2_takeWord_37 : decode cX2_takeWord 37 = .ok (.putfield 28, 3) := by decide +kernel
theorem dX2_takeWord_40 : decode cX2_takeWord 40 = .ok (.iconst 0, 1) := by decide +kernel
theorem dX2_takeWord_41 : decode cX2_takeWord 41 = .ok (.istore_n 1, 1) := by decide +kernel
theorem dX2_takeWord_42 : decode cX2_takeWord 42 = .ok (.iload_n 1, 1) := by decide +kernel
theorem dX2_takeWord_43 : decode cX2_takeWord 43 = .ok (.bipush 14, 2) := by decide +kernel
theorem dX2_takeWord_45 : decode cX2_takeWord 45 = .ok (.if_icmp .ge 25, 3) := by decide +kernel
theorem dX2_takeWord_48 : decode cX2_takeWord 48 = .ok (.aload_n 0, 1) := by decide +kernel
theorem dX2_takeWord_49 : decode cX2_takeWord 49 = .ok (.iload_n 1, 1) := by decide +kernel
theorem dX2_takeWord_50 : decode cX2_takeWord 50 = .ok (.invokestatic 53, 3) := by decide +kernel
theorem dX2_takeWord_53 : decode cX2_takeWord 53 = .ok (.invokevirtual 57, 3) := by decide +kernel
theorem dX2_takeWord_56 : decode cX2_takeWord 56 = .ok (.ifCond .eq 8, 3) := by decide +kernel
theorem dX2_takeWord_59 : decode cX2_takeWord 59 = .ok (.aload_n 0, 1) := by decide +kernel
theorem dX2_takeWord_60 : decode cX2_takeWord 60 = .ok (.iload_n 1, 1) := by decide +kernel
theorem dX2_takeWord_61 : decode cX2_takeWord 61 = .ok (.putfield 28, 3) := by decide +kernel
theorem dX2_takeWord_64 : decode cX2_takeWord 64 = .ok (.iinc 1 1, 3) := by decide +kernel
theorem dX2_takeWord_67 : decode cX2_takeWord 67 = .ok (.goto (-25), 3) := by decide +kernel
theorem dX2_takeWord_70 : decode cX2_takeWord 70 = .ok (.return_, 1) := by decide +kernel
theorem dX3_readInto_0 : decode cX3_readInto 0 = .ok (.aload_n 0, 1) := by decide +kernel
theorem dX3_readInto_1 : decode cX3_readInto 1 = .ok (.getfield 14, 3) := by decide +kernel
theorem dX3_readInto_4 : decode cX3_readInto 4 = .ok (.invokevirtual 18, 3) := by decide +kernel
theorem dX3_readInto_7 : decode cX3_readInto 7 = .ok (.iconst 1, 1) := by decide +kernel
theorem dX3_readInto_8 : decode cX3_readInto 8 = .ok (.istore_n 2, 1) := by decide +kernel
theorem dX3_readInto_9 : decode cX3_readInto 9 = .ok (.iload_n 2, 1) := by decide +kernel
theorem dX3_readInto_10 : decode cX3_readInto 10 = .ok (.bipush 120, 2) := by decide +kernel
theorem dX3_readInto_12 : decode cX3_readInto 12 = .ok (.if_icmp .gt 67, 3) := by decide +kernel
theorem dX3_readInto_15 : decode cX3_readInto 15 = .ok (.aload_n 0, 1) := by decide +kernel
theorem dX3_readInto_16 : decode cX3_readInto 16 = .ok (.aload_n 1, 1) := by decide +kernel
theorem dX3_readInto_17 : decode cX3_readInto 17 = .ok (.invokevirtual 21, 3) := by decide +kernel
theorem dX3_readInto_20 : decode cX3_readInto 20 = .ok (.ifCond .ne 13, 3) := by decide +kernel
theorem dX3_readInto_23 : decode cX3_readInto 23 = .ok (.iconst (-1), 1) := by decide +kernel
theorem dX3_readInto_24 : decode cX3_readInto 24 = .ok (.aload_n 0, 1) := by decide +kernel
theorem dX3_readInto_25 : decode cX3_readInto 25 = .ok (.getfield 14, 3) := by decide +kernel
theorem dX3_readInto_28 : decode cX3_readInto 28 = .ok (.getfield 25, 3) := by decide +kernel
theorem dX3_readInto_31 : decode cX3_readInto 31 = .ok (.isub, 1) := by decide +kernel
theorem dX3_readInto_32 : decode cX3_readInto 32 = .ok (.ireturn, 1) := by decide +kernel
theorem dX3_readInto_33 : decode cX3_readInto 33 = .ok (.aload_n 0, 1) := by decide +kernel
theorem dX3_readInto_34 : decode cX3_readInto 34 = .ok (.getfield 14, 3) := by decide +kernel
theorem dX3_readInto_37 : decode cX3_readInto 37 = .ok (.getfield 29, 3) := by decide +kernel
theorem dX3_readInto_40 : decode cX3_readInto 40 = .ok (.ifCond .ne 5, 3) := by decide +kernel
theorem dX3_readInto_43 : decode cX3_readInto 43 = .ok (.iload_n 2, 1) := by decide +kernel
theorem dX3_readInto_44 : decode cX3_readInto 44 = .ok (.ireturn, 1) := by decide +kernel
theorem dX3_readInto_45 : decode cX3_readInto 45 = .ok (.aload_n 0, 1) := by decide +kernel
theorem dX3_readInto_46 : decode cX3_readInto 46 = .ok (.getfield 14, 3) := by decide +kernel
theorem dX3_readInto_49 : decode cX3_readInto 49 = .ok (.getfield 29, 3) := by decide +kernel
theorem dX3_readInto_52 : decode cX3_readInto 52 = .ok (.iconst 3, 1) := by decide +kernel
theorem dX3_readInto_53 : decode cX3_readInto 53 = .ok (.if_icmp .eq 13, 3) := by decide +kernel
theorem dX3_readInto_56 : decode cX3_readInto 56 = .ok (.iconst (-1), 1) := by decide +kernel
theorem dX3_readInto_57 : decode cX3_readInto 57 = .ok (.aload_n 0, 1) := by decide +kernel
theorem dX3_readInto_58 : decode cX3_readInto 58 = .ok (.getfield 14, 3) := by decide +kernel
theorem dX3_readInto_61 : decode cX3_readInto 61 = .ok (.getfield 25, 3) := by decide +kernel
theorem dX3_readInto_64 : decode cX3_readInto 64 = .ok (.isub, 1) := by decide +kernel
theorem dX3_readInto_65 : decode cX3_readInto 65 = .ok (.ireturn, 1) := by decide +kernel
theorem dX3_readInto_66 : decode cX3_readInto 66 = .ok (.aload_n 0, 1) := by decide +kernel
theorem dX3_readInto_67 : decode cX3_readInto 67 = .ok (.getfield 14, 3) := by decide +kernel
theorem dX3_readInto_70 : decode cX3_readInto 70 = .ok (.invokevirtual 32, 3) := by decide +kernel
theorem dX3_readInto_73 : decode cX3_readInto 73 = .ok (.iinc 2 1, 3) := by decide +kernel
theorem dX3_readInto_76 : decode cX3_readInto 76 = .ok (.goto (-67), 3) := by decide +kernel
theorem dX3_readInto_79 : decode cX3_readInto 79 = .ok (.iconst (-1), 1) := by decide +kernel
theorem dX3_readInto_80 : decode cX3_readInto 80 = .ok (.aload_n 0, 1) := by decide +kernel
theorem dX3_readInto_81 : decode cX3_readInto 81 = .ok (.getfield 14, 3) := by decide +kernel
theorem dX3_readInto_84 : decode cX3_readInto 84 = .ok (.getfield 25, 3) := by decide +kernel
theorem dX3_readInto_87 : decode cX3_readInto 87 = .ok (.isub, 1) := by decide +kernel
theorem dX3_readInto_88 : decode cX3_readInto 88 = .ok (.ireturn, 1) := by decide +kernel
theorem dX3_readItem_0 : decode cX3_readItem 0 = .ok (.aload_n 0, 1) := by decide +kernel
theorem dX3_readItem_1 : decode cX3_readItem 1 = .ok (.getfield 14, 3) := by decide +kernel
theorem dX3_readItem_4 : decode cX3_readItem 4 = .ok (.getfield 29, 3) := by decide +kernel
theorem dX3_readItem_7 : decode cX3_readItem 7 = .ok (.iconst 1, 1) := by decide +kernel
theorem dX3_readItem_8 : decode cX3_readItem 8 = .ok (.if_icmp .ne 19, 3) := by decide +kernel
theorem dX3_readItem_11 : decode cX3_readItem 11 = .ok (.aload_n 0, 1) := by decide +kernel
theorem dX3_readItem_12 : decode cX3_readItem 12 = .ok (.getfield 14, 3) := by decide +kernel
theorem dX3_readItem_15 : decode cX3_readItem 15 = .ok (.getfield 35, 3) := by decide +kernel
theorem dX3_readItem_18 : decode cX3_readItem 18 = .ok (.iconst 0, 1) := by decide +kernel
theorem dX3_readItem_19 : decode cX3_readItem 19 = .ok (.bipush 11, 2) := by decide +kernel
theorem dX3_readItem_21 : decode cX3_readItem 21 = .ok (.invokestatic 38, 3) := by decide +kernel
theorem dX3_readItem_24 : decode cX3_readItem 24 = .ok (.ifCond .ne 5, 3) := by decide +kernel
theorem dX3_readItem_27 : decode cX3_readItem 27 = .ok (.iconst 0, 1) := by decide +kernel
theorem dX3_readItem_28 : decode cX3_readItem 28 = .ok (.ireturn, 1) := by decide +kernel
theorem dX3_readItem_29 : decode cX3_readItem 29 = .ok (.aload_n 0, 1) := by decide +kernel
theorem dX3_readItem_30 : decode cX3_readItem 30 = .ok (.getfield 14, 3) := by decide +kernel
theorem dX3_readItem_33 : decode cX3_readItem 33 = .ok (.getfield 35, 3) := by decide +kernel
theorem dX3_readItem_36 : decode cX3_readItem 36 = .ok (.istore_n 2, 1) := by decide +kernel
theorem dX3_readItem_37 : decode cX3_readItem 37 = .ok (.iload_n 2, 1) := by decide +kernel
theorem dX3_readItem_38 : decode cX3_readItem 38 = .ok (.tableswitch 71 7 11 #[34, 47, 61, 61, 61], 34) := by decide +kernel
theorem dX3_readItem_72 : decode cX3_readItem 72 = .ok (.aload_n 0, 1) := by decide +kernel
theorem dX3_readItem_73 : decode cX3_readItem 73 = .ok (.aload_n 1, 1) := by decide +kernel
theorem dX3_readItem_74 : decode cX3_readItem 74 = .ok (.getfield 42, 3) := by decide +kernel
theorem dX3_readItem_77 : decode cX3_readItem 77 = .ok (.bipush 7, 2) := by decide +kernel
theorem dX3_readItem_79 : decode cX3_readItem 79 = .ok (.bipush 99, 2) := by decide +kernel
theorem dX3_readItem_81 : decode cX3_readItem 81 = .ok (.invokevirtual 48, 3) := by decide +kernel
theorem dX3_readItem_84 : decode cX3_readItem 84 = .ok (.ireturn, 1) := by decide +kernel
theorem dX3_readItem_85 : decode cX3_readItem 85 = .ok (.aload_n 0, 1) := by decide +kernel
theorem dX3_readItem_86 : decode cX3_readItem 86 = .ok (.aload_n 1, 1) := by decide +kernel
theorem dX3_readItem_87 : decode cX3_readItem 87 = .ok (.getfield 52, 3) := by decide +kernel
theorem dX3_readItem_90 : decode cX3_readItem 90 = .ok (.bipush 6, 2) := by decide +kernel
theorem dX3_readItem_92 : decode cX3_readItem 92 = .ok (.sipush 999, 3) := by decide +kernel
theorem dX3_readItem_95 : decode cX3_readItem 95 = .ok (.invokevirtual 48, 3) := by decide +kernel
theorem dX3_readItem_98 : decode cX3_readItem 98 = .ok (.ireturn, 1) := by decide +kernel
theorem dX3_readItem_99 : decode cX3_readItem 99 = .ok (.aload_n 0, 1) := by decide +kernel
theorem dX3_readItem_100 : decode cX3_readItem 100 = .ok (.aload_n 1, 1) := by decide +kernel
theorem dX3_readItem_101 : decode cX3_readItem 101 = .ok (.iload_n 2, 1) := by decide +kernel
theorem dX3_readItem_102 : decode cX3_readItem 102 = .ok (.bipush 9, 2) := by decide +kernel
theorem dX3_readItem_104 : decode cX3_readItem 104 = .ok (.isub, 1) := by decide +kernel
theorem dX3_readItem_105 : decode cX3_readItem 105 = .ok (.invokevirtual 55, 3) := by decide +kernel
theorem dX3_readItem_108 : decode cX3_readItem 108 = .ok (.ireturn, 1) := by decide +kernel
theorem dX3_readItem_109 : decode cX3_readItem 109 = .ok (.aload_n 0, 1) := by decide +kernel
theorem dX3_readItem_110 : decode cX3_readItem 110 = .ok (.aload_n 1, 1) := by decide +kernel
theorem dX3_readItem_111 : decode cX3_readItem 111 = .ok (.iload_n 2, 1) := by decide +kernel
theorem dX3_readItem_112 : decode cX3_readItem 112 = .ok (.invokevirtual 59, 3) := by decide +kernel
theorem dX3_readItem_115 : decode cX3_readItem 115 = .ok (.ireturn, 1) := by decide +kernel
theorem dX3_readJumper_0 : decode cX3_readJumper 0 = .ok (.aload_n 1, 1) := by decide +kernel
theorem dX3_readJumper_1 : decode cX3_readJumper 1 = .ok (.getfield 74, 3) := by decide +kernel
theorem dX3_readJumper_4 : decode cX3_readJumper 4 = .ok (.bipush 8, 2) := by decide +kernel
theorem dX3_readJumper_6 : decode cX3_readJumper 6 = .ok (.if_icmp .lt 5, 3) := by decide +kernel
theorem dX3_readJumper_9 : decode cX3_readJumper 9 = .ok (.iconst 0, 1) := by decide +kernel
theorem dX3_readJumper_10 : decode cX3_readJumper 10 = .ok (.ireturn, 1) := by decide +kernel
theorem dX3_readJumper_11 : decode cX3_readJumper 11 = .ok (.aload_n 1, 1) := by decide +kernel
theorem dX3_readJumper_12 : decode cX3_readJumper 12 = .ok (.iload_n 2, 1) := by decide +kernel
theorem dX3_readJumper_13 : decode cX3_readJumper 13 = .ok (.bipush 50, 2) := by decide +kernel
theorem dX3_readJumper_15 : decode cX3_readJumper 15 = .ok (.invokevirtual 77, 3) := by decide +kernel
theorem dX3_readJumper_18 : decode cX3_readJumper 18 = .ok (.istore_n 3, 1) := by decide +kernel
theorem dX3_readJumper_19 : decode cX3_readJumper 19 = .ok (.aload_n 0, 1) := by decide +kernel
theorem dX3_readJumper_20 : decode cX3_readJumper 20 = .ok (.getfield 14, 3) := by decide +kernel
theorem dX3_readJumper_23 : decode cX3_readJumper 23 = .ok (.invokevirtual 32, 3) := by decide +kernel
theorem dX3_readJumper_26 : decode cX3_readJumper 26 = .ok (.aload_n 0, 1) := by decide +kernel
theorem dX3_readJumper_27 : decode cX3_readJumper 27 = .ok (.getfield 14, 3) := by decide +kernel
theorem dX3_readJumper_30 : decode cX3_readJumper 30 = .ok (.bipush 12, 2) := by decide +kernel
theorem dX3_readJumper_32 : decode cX3_readJumper 32 = .ok (.invokevirtual 80, 3) := by decide +kernel
theorem dX3_readJumper_35 : decode cX3_readJumper 35 = .ok (.ifCond .eq 60, 3) := by decide +kernel
theorem dX3_readJumper_38 : decode cX3_readJumper 38 = .ok (.aload_n 0, 1) := by decide +kernel
theorem dX3_readJumper_39 : decode cX3_readJumper 39 = .ok (.getfield 14, 3) := by decide +kernel
theorem dX3_readJumper_42 : decode cX3_readJumper 42 = .ok (.invokevirtual 32, 3) := by decide +kernel
theorem dX3_readJumper_45 : decode cX3_readJumper 45 = .ok (.aload_n 0, 1) := by decide +kernel
theorem dX3_readJumper_46 : decode cX3_readJumper 46 = .ok (.getfield 14, 3) := by decide +kernel
theorem dX3_readJumper_49 : decode cX3_readJumper 49 = .ok (.bipush 6, 2) := by decide +kernel
theorem dX3_readJumper_51 : decode cX3_readJumper 51 = .ok (.invokevirtual 62, 3) := by decide +kernel
theorem dX3_readJumper_54 : decode cX3_readJumper 54 = .ok (.ifCond .eq 19, 3) := by decide +kernel
theorem dX3_readJumper_57 : decode cX3_readJumper 57 = .ok (.aload_n 1, 1) := by decide +kernel
theorem dX3_readJumper_58 : decode cX3_readJumper 58 = .ok (.getfield 83, 3) := by decide +kernel
theorem dX3_readJumper_61 : decode cX3_readJumper 61 = .ok (.aload_n 0, 1) := by decide +kernel
theorem dX3_readJumper_62 : decode cX3_readJumper 62 = .ok (.getfield 14, 3) := by decide +kernel
theorem dX3_readJumper_65 : decode cX3_readJumper 65 = .ok (.getfield 35, 3) := by decide +kernel
theorem dX3_readJumper_68 : decode cX3_readJumper 68 = .ok (.iaload, 1) := by decide +kernel
theorem dX3_readJumper_69 : decode cX3_readJumper 69 = .ok (.iconst (-1), 1) := by decide +kernel
theorem dX3_readJumper_70 : decode cX3_readJumper 70 = .ok (.if_icmp .eq 5, 3) := by decide +kernel
theorem dX3_readJumper_73 : decode cX3_readJumper 73 = .ok (.iconst 0, 1) := by decide +kernel
theorem dX3_readJumper_74 : decode cX3_readJumper 74 = .ok (.ireturn, 1) := by decide +kernel
theorem dX3_readJumper_75 : decode cX3_readJumper 75 = .ok (.aload_n 1, 1) := by decide +kernel
theorem dX3_readJumper_76 : decode cX3_readJumper 76 = .ok (.getfield 83, 3) := by decide +kernel
theorem dX3_readJumper_79 : decode cX3_readJumper 79 = .ok (.aload_n 0, 1) := by decide +kernel
theorem dX3_readJumper_80 : decode cX3_readJumper 80 = .ok (.getfield 14, 3) := by decide +kernel
theorem dX3_readJumper_83 : decode cX3_readJumper 83 = .ok (.getfield 35, 3) := by decide +kernel
theorem dX3_readJumper_86 : decode cX3_readJumper 86 = .ok (.iload_n 3, 1) := by decide +kernel
theorem dX3_readJumper_87 : decode cX3_readJumper 87 = .ok (.iastore, 1) := by decide +kernel
theorem dX3_readJumper_88 : decode cX3_readJumper 88 = .ok (.aload_n 0, 1) := by decide +kernel
theorem dX3_readJumper_89 : decode cX3_readJumper 89 = .ok (.getfield 14, 3) := by decide +kernel
theorem dX3_readJumper_92 : decode cX3_readJumper 92 = .ok (.invokevirtual 32, 3) := by decide +kernel
theorem dX3_readJumper_95 : decode cX3_readJumper 95 = .ok (.aload_n 0, 1) := by decide +kernel
theorem dX3_readJumper_96 : decode cX3_readJumper 96 = .ok (.getfield 14, 3) := by decide +kernel
theorem dX3_readJumper_99 : decode cX3_readJumper 99 = .ok (.bipush 13, 2) := by decide +kernel
theorem dX3_readJumper_101 : decode cX3_readJumper 101 = .ok (.invokevirtual 80, 3) := by decide +kernel
theorem dX3_readJumper_104 : decode cX3_readJumper 104 = .ok (.ifCond .eq 44, 3) := by decide +kernel
theorem dX3_readJumper_107 : decode cX3_readJumper 107 = .ok (.aload_n 0, 1) := by decide +kernel
theorem dX3_readJumper_108 : decode cX3_readJumper 108 = .ok (.getfield 14, 3) := by decide +kernel
theorem dX3_readJumper_111 : decode cX3_readJumper 111 = .ok (.invokevirtual 32, 3) := by decide +kernel
theorem dX3_readJumper_114 : decode cX3_readJumper 114 = .ok (.aload_n 0, 1) := by decide +kernel
theorem dX3_readJumper_115 : decode cX3_readJumper 115 = .ok (.getfield 14, 3) := by decide +kernel
theorem dX3_readJumper_118 : decode cX3_readJumper 118 = .ok (.bipush 99, 2) := by decide +kernel
theorem dX3_readJumper_120 : decode cX3_readJumper 120 = .ok (.invokevirtual 62, 3) := by decide +kernel
theorem dX3_readJumper_123 : decode cX3_readJumper 123 = .ok (.ifCond .ne 5, 3) := by decide +kernel
theorem dX3_readJumper_126 : decode cX3_readJumper 126 = .ok (.iconst 0, 1) := by decide +kernel
theorem dX3_readJumper_127 : decode cX3_readJumper 127 = .ok (.ireturn, 1) := by decide +kernel
theorem dX3_readJumper_128 : decode cX3_readJumper 128 = .ok (.aload_n 1, 1) := by decide +kernel
theorem dX3_readJumper_129 : decode cX3_readJumper 129 = .ok (.getfield 86, 3) := by decide +kernel
theorem dX3_readJumper_132 : decode cX3_readJumper 132 = .ok (.iload_n 3, 1) := by decide +kernel
theorem dX3_readJumper_133 : decode cX3_readJumper 133 = .ok (.aload_n 0, 1) := by decide +kernel
theorem dX3_readJumper_134 : decode cX3_readJumper 134 = .ok (.getfield 14, 3) := by decide +kernel
theorem dX3_readJumper_137 : decode cX3_readJumper 137 = .ok (.getfield 35, 3) := by decide +kernel
theorem dX3_readJumper_140 : decode cX3_readJumper 140 = .ok (.iastore, 1) := by decide +kernel
theorem dX3_readJumper_141 : decode cX3_readJumper 141 = .ok (.aload_n 0, 1) := by decide +kernel
theorem dX3_readJumper_142 : decode cX3_readJumper 142 = .ok (.getfield 14, 3) := by decide +kernel
theorem dX3_readJumper_145 : decode cX3_readJumper 145 = .ok (.invokevirtual 32, 3) := by decide +kernel
theorem dX3_readJumper_148 : decode cX3_readJumper 148 = .ok (.iconst 1, 1) := by decide +kernel
theorem dX3_readJumper_149 : decode cX3_readJumper 149 = .ok (.ireturn, 1) := by decide +kernel
theorem dX3_readPair_0 : decode cX3_readPair 0 = .ok (.aload_n 0, 1) := by decide +kernel
theorem dX3_readPair_1 : decode cX3_readPair 1 = .ok (.getfield 14, 3) := by decide +kernel
theorem dX3_readPair_4 : decode cX3_readPair 4 = .ok (.invokevirtual 32, 3) := by decide +kernel
theorem dX3_readPair_7 : decode cX3_readPair 7 = .ok (.aload_n 0, 1) := by decide +kernel
theorem dX3_readPair_8 : decode cX3_readPair 8 = .ok (.getfield 14, 3) := by decide +kernel
theorem dX3_readPair_11 : decode cX3_readPair 11 = .ok (.iload_n 2, 1) := by decide +kernel
theorem dX3_readPair_12 : decode cX3_readPair 12 = .ok (.iconst 1, 1) := by decide +kernel
theorem dX3_readPair_13 : decode cX3_readPair 13 = .ok (.isub, 1) := by decide +kernel
theorem dX3_readPair_14 : decode cX3_readPair 14 = .ok (.invokevirtual 62, 3) := by decide +kernel
theorem dX3_readPair_17 : decode cX3_readPair 17 = .ok (.ifCond .ne 5, 3) := by decide +kernel
theorem dX3_readPair_20 : decode cX3_readPair 20 = .ok (.iconst 0, 1) := by decide +kernel
theorem dX3_readPair_21 : decode cX3_readPair 21 = .ok (.ireturn, 1) := by decide +kernel
theorem dX3_readPair_22 : decode cX3_readPair 22 = .ok (.aload_n 0, 1) := by decide +kernel
theorem dX3_readPair_23 : decode cX3_readPair 23 = .ok (.getfield 14, 3) := by decide +kernel
theorem dX3_readPair_26 : decode cX3_readPair 26 = .ok (.getfield 35, 3) := by decide +kernel
theorem dX3_readPair_29 : decode cX3_readPair 29 = .ok (.istore 4, 2) := by decide +kernel
theorem dX3_readPair_31 : decode cX3_readPair 31 = .ok (.aload_n 0, 1) := by decide +kernel
theorem dX3_readPair_32 : decode cX3_readPair 32 = .ok (.getfield 14, 3) := by decide +kernel
theorem dX3_readPair_35 : decode cX3_readPair 35 = .ok (.invokevirtual 32, 3) := by decide +kernel
theorem dX3_readPair_38 : decode cX3_readPair 38 = .ok (.aload_n 0, 1) := by decide +kernel
theorem dX3_readPair_39 : decode cX3_readPair 39 = .ok (.getfield 14, 3) := by decide +kernel
theorem dX3_readPair_42 : decode cX3_readPair 42 = .ok (.iload_n 3, 1) := by decide +kernel
theorem dX3_readPair_43 : decode cX3_readPair 43 = .ok (.invokevirtual 62, 3) := by decide +kernel
theorem dX3_readPair_46 : decode cX3_readPair 46 = .ok (.ifCond .ne 5, 3) := by decide +kernel
theorem dX3_readPair_49 : decode cX3_readPair 49 = .ok (.iconst 0, 1) := by decide +kernel
theorem dX3_readPair_50 : decode cX3_readPair 50 = .ok (.ireturn, 1) := by decide +kernel
theorem dX3_readPair_51 : decode cX3_readPair 51 = .ok (.aload_n 1, 1) := by decide +kernel
theorem dX3_readPair_52 : decode cX3_readPair 52 = .ok (.iload 4, 2) := by decide +kernel
theorem dX3_readPair_54 : decode cX3_readPair 54 = .ok (.aload_n 0, 1) := by decide +kernel
theorem dX3_readPair_55 : decode cX3_readPair 55 = .ok (.getfield 14, 3) := by decide +kernel
theorem dX3_readPair_58 : decode cX3_readPair 58 = .ok (.getfield 35, 3) := by decide +kernel
theorem dX3_readPair_61 : decode cX3_readPair 61 = .ok (.iastore, 1) := by decide +kernel
theorem dX3_readPair_62 : decode cX3_readPair 62 = .ok (.aload_n 0, 1) := by decide +kernel
theorem dX3_readPair_63 : decode cX3_readPair 63 = .ok (.getfield 14, 3) := by decide +kernel
theorem dX3_readPair_66 : decode cX3_readPair 66 = .ok (.invokevirtual 32, 3) := by decide +kernel
theorem dX3_readPair_69 : decode cX3_readPair 69 = .ok (.iconst 1, 1) := by decide +kernel
theorem dX3_readPair_70 : decode cX3_readPair 70 = .ok (.ireturn, 1) := by decide +kernel
theorem dX3_readSetting_0 : decode cX3_readSetting 0 = .ok (.aload_n 0, 1) := by decide +kernel
theorem dX3_readSetting_1 : decode cX3_readSetting 1 = .ok (.getfield 14, 3) := by decide +kernel
theorem dX3_readSetting_4 : decode cX3_readSetting 4 = .ok (.invokevirtual 32, 3) := by decide +kernel
theorem dX3_readSetting_7 : decode cX3_readSetting 7 = .ok (.aload_n 0, 1) := by decide +kernel
theorem dX3_readSetting_8 : decode cX3_readSetting 8 = .ok (.getfield 14, 3) := by decide +kernel
theorem dX3_readSetting_11 : decode cX3_readSetting 11 = .ok (.iload_n 2, 1) := by decide +kernel
theorem dX3_readSetting_12 : decode cX3_readSetting 12 = .ok (.invokestatic 66, 3) := by decide +kernel
theorem dX3_readSetting_15 : decode cX3_readSetting 15 = .ok (.invokevirtual 62, 3) := by decide +kernel
theorem dX3_readSetting_18 : decode cX3_readSetting 18 = .ok (.ifCond .ne 5, 3) := by decide +kernel
theorem dX3_readSetting_21 : decode cX3_readSetting 21 = .ok (.iconst 0, 1) := by decide +kernel
theorem dX3_readSetting_22 : decode cX3_readSetting 22 = .ok (.ireturn, 1) := by decide +kernel
theorem dX3_readSetting_23 : decode cX3_readSetting 23 = .ok (.aload_n 1, 1) := by decide +kernel
theorem dX3_readSetting_24 : decode cX3_readSetting 24 = .ok (.iload_n 2, 1) := by decide +kernel
theorem dX3_readSetting_25 : decode cX3_readSetting 25 = .ok (.aload_n 0, 1) := by decide +kernel
theorem dX3_readSetting_26 : decode cX3_readSetting 26 = .ok (.getfield 14, 3) := by decide +kernel
theorem dX3_readSetting_29 : decode cX3_readSetting 29 = .ok (.getfield 35, 3) := by decide +kernel
theorem dX3_readSetting_32 : decode cX3_readSetting 32 = .ok (.invokevirtual 70, 3) := by decide +kernel
theorem dX3_readSetting_35 : decode cX3_readSetting 35 = .ok (.pop, 1) := by decide +kernel
theorem dX3_readSetting_36 : decode cX3_readSetting 36 = .ok (.aload_n 0, 1) := by decide +kernel
theorem dX3_readSetting_37 : decode cX3_readSetting 37 = .ok (.getfield 14, 3) := by decide +kernel
theorem dX3_readSetting_40 : decode cX3_readSetting 40 = .ok (.invokevirtual 32, 3) := by decide +kernel
theorem dX3_readSetting_43 : decode cX3_readSetting 43 = .ok (.iconst 1, 1) := by decide +kernel
theorem dX3_readSetting_44 : decode cX3_readSetting 44 = .ok (.ireturn, 1) := by decide +kernel
theorem dX4_ahead_0 : decode cX4_ahead 0 = .ok (.aload_n 0, 1) := by decide +kernel
theorem dX4_ahead_1 : decode cX4_ahead 1 = .ok (.iload_n 1, 1) := by decide +kernel
theorem dX4_ahead_2 : decode cX4_ahead 2 = .ok (.invokevirtual 100, 3) := by decide +kernel
theorem dX4_ahead_5 : decode cX4_ahead 5 = .ok (.ifCond .eq 22, 3) := by decide +kernel
theorem dX4_ahead_8 : decode cX4_ahead 8 = .ok (.iload_n 2, 1) := by decide +kernel
theorem dX4_ahead_9 : decode cX4_ahead 9 = .ok (.iconst 2, 1) := by decide +kernel
theorem dX4_ahead_10 : decode cX4_ahead 10 = .ok (.iconst 5, 1) := by decide +kernel
theorem dX4_ahead_11 : decode cX4_ahead 11 = .ok (.invokestatic 76, 3) := by decide +kernel
theorem dX4_ahead_14 : decode cX4_ahead 14 = .ok (.ifCond .eq 13, 3) := by decide +kernel
theorem dX4_ahead_17 : decode cX4_ahead 17 = .ok (.iload_n 3, 1) := by decide +kernel
theorem dX4_ahead_18 : decode cX4_ahead 18 = .ok (.iconst 0, 1) := by decide +kernel
theorem dX4_ahead_19 : decode cX4_ahead 19 = .ok (.bipush 100, 2) := by decide +kernel
theorem dX4_ahead_21 : decode cX4_ahead 21 = .ok (.invokestatic 76, 3) := by decide +kernel
theorem dX4_ahead_24 : decode cX4_ahead 24 = .ok (.ifCond .ne 9, 3) := by decide +kernel
theorem dX4_ahead_27 : decode cX4_ahead 27 = .ok (.aload_n 0, 1) := by decide +kernel
theorem dX4_ahead_28 : decode cX4_ahead 28 = .ok (.iconst 0, 1) := by decide +kernel
theorem dX4_ahead_29 : decode cX4_ahead 29 = .ok (.invokevirtual 56, 3) := by decide +kernel
theorem dX4_ahead_32 : decode cX4_ahead 32 = .ok (.ireturn, 1) := by decide +kernel
theorem dX4_ahead_33 : decode cX4_ahead 33 = .ok (.aload_n 0, 1) := by decide +kernel
theorem dX4_ahead_34 : decode cX4_ahead 34 = .ok (.getfield 16, 3) := by decide +kernel
theorem dX4_ahead_37 : decode cX4_ahead 37 = .ok (.aload_n 0, 1) := by decide +kernel
theorem dX4_ahead_38 : decode cX4_ahead 38 = .ok (.getfield 10, 3) := by decide +kernel
theorem dX4_ahead_41 : decode cX4_ahead 41 = .ok (.invokevirtual 152, 3) := by decide +kernel
theorem dX4_ahead_44 : decode cX4_ahead 44 = .ok (.aload_n 0, 1) := by decide +kernel
theorem dX4_ahead_45 : decode cX4_ahead 45 = .ok (.getfield 16, 3) := by decide +kernel
theorem dX4_ahead_48 : decode cX4_ahead 48 = .ok (.iload_n 3, 1) := by decide +kernel
theorem dX4_ahead_49 : decode cX4_ahead 49 = .ok (.invokevirtual 126, 3) := by decide +kernel
theorem dX4_ahead_52 : decode cX4_ahead 52 = .ok (.pop, 1) := by decide +kernel
theorem dX4_ahead_53 : decode cX4_ahead 53 = .ok (.iload_n 2, 1) := by decide +kernel
theorem dX4_ahead_54 : decode cX4_ahead 54 = .ok (.iconst 5, 1) := by decide +kernel
theorem dX4_ahead_55 : decode cX4_ahead 55 = .ok (.if_icmp .ne 14, 3) := by decide +kernel
theorem dX4_ahead_58 : decode cX4_ahead 58 = .ok (.aload_n 0, 1) := by decide +kernel
theorem dX4_ahead_59 : decode cX4_ahead 59 = .ok (.getfield 16, 3) := by decide +kernel
theorem dX4_ahead_62 : decode cX4_ahead 62 = .ok (.iload_n 1, 1) := by decide +kernel
theorem dX4_ahead_63 : decode cX4_ahead 63 = .ok (.invokevirtual 103, 3) := by decide +kernel
theorem dX4_ahead_66 : decode cX4_ahead 66 = .ok (.goto 13, 3) := by decide +kernel
theorem dX4_ahead_69 : decode cX4_ahead 69 = .ok (.aload_n 0, 1) := by decide +kernel
theorem dX4_ahead_70 : decode cX4_ahead 70 = .ok (.getfield 16, 3) := by decide +kernel
theorem dX4_ahead_73 : decode cX4_ahead 73 = .ok (.iload_n 2, 1) := by decide +kernel
theorem dX4_ahead_74 : decode cX4_ahead 74 = .ok (.invokevirtual 112, 3) := by decide +kernel
theorem dX4_ahead_77 : decode cX4_ahead 77 = .ok (.iload_n 1, 1) := by decide +kernel
theorem dX4_ahead_78 : decode cX4_ahead 78 = .ok (.iaload, 1) := by decide +kernel
theorem dX4_ahead_79 : decode cX4_ahead 79 = .ok (.ireturn, 1) := by decide +kernel
theorem dX4_as_0 : decode cX4_as 0 = .ok (.iload_n 1, 1) := by decide +kernel
theorem dX4_as_1 : decode cX4_as 1 = .ok (.iconst 0, 1) := by decide +kernel
theorem dX4_as_2 : decode cX4_as 2 = .ok (.bipush 9, 2) := by decide +kernel
theorem dX4_as_4 : decode cX4_as 4 = .ok (.invokestatic 76, 3) := by decide +kernel
theorem dX4_as_7 : decode cX4_as 7 = .ok (.ifCond .eq 13, 3) := by decide +kernel
theorem dX4_as_10 : decode cX4_as 10 = .ok (.iload_n 2, 1) := by decide +kernel
theorem dX4_as_11 : decode cX4_as 11 = .ok (.iconst 0, 1) := by decide +kernel
theorem dX4_as_12 : decode cX4_as 12 = .ok (.bipush 6, 2) := by decide +kernel
theorem dX4_as_14 : decode cX4_as 14 = .ok (.invokestatic 76, 3) := by decide +kernel
theorem dX4_as_17 : decode cX4_as 17 = .ok (.ifCond .ne 9, 3) := by decide +kernel
theorem dX4_as_20 : decode cX4_as 20 = .ok (.aload_n 0, 1) := by decide +kernel
theorem dX4_as_21 : decode cX4_as 21 = .ok (.iconst 0, 1) := by decide +kernel
theorem dX4_as_22 : decode cX4_as 22 = .ok (.invokevirtual 56, 3) := by decide +kernel
theorem dX4_as_25 : decode cX4_as 25 = .ok (.ireturn, 1) := by decide +kernel
theorem dX4_as_26 : decode cX4_as 26 = .ok (.aload_n 0, 1) := by decide +kernel
theorem dX4_as_27 : decode cX4_as 27 = .ok (.getfield 10, 3) := by decide +kernel
theorem dX4_as_30 : decode cX4_as 30 = .ok (.getfield 211, 3) := by decide +kernel
theorem dX4_as_33 : decode cX4_as 33 = .ok (.iload_n 1, 1) := by decide +kernel
theorem dX4_as_34 : decode cX4_as 34 = .ok (.iaload, 1) := by decide +kernel
theorem dX4_as_35 : decode cX4_as 35 = .ok (.istore_n 3, 1) := by decide +kernel
theorem dX4_as_36 : decode cX4_as 36 = .ok (.iload_n 3, 1) := by decide +kernel
theorem dX4_as_37 : decode cX4_as 37 = .ok (.iconst (-1), 1) := by decide +kernel
theorem dX4_as_38 : decode cX4_as 38 = .ok (.if_icmp .ne 9, 3) := by decide +kernel
theorem dX4_as_41 : decode cX4_as 41 = .ok (.aload_n 0, 1) := by decide +kernel
theorem dX4_as_42 : decode cX4_as 42 = .ok (.iconst 5, 1) := by decide +kernel
theorem dX4_as_43 : decode cX4_as 43 = .ok (.invokevirtual 56, 3) := by decide +kernel
theorem dX4_as_46 : decode cX4_as 46 = .ok (.ireturn, 1) := by decide +kernel
theorem dX4_as_47 : decode cX4_as 47 = .ok (.aload_n 0, 1) := by decide +kernel
theorem dX4_as_48 : decode cX4_as 48 = .ok (.getfield 10, 3) := by decide +kernel
theorem dX4_as_51 : decode cX4_as 51 = .ok (.getfield 169, 3) := by decide +kernel
theorem dX4_as_54 : decode cX4_as 54 = .ok (.iload_n 3, 1) := by decide +kernel
theorem dX4_as_55 : decode cX4_as 55 = .ok (.iaload, 1) := by decide +kernel
theorem dX4_as_56 : decode cX4_as 56 = .ok (.iload_n 2, 1) := by decide +kernel
theorem dX4_as_57 : decode cX4_as 57 = .ok (.invokestatic 214, 3) := by decide +kernel
theorem dX4_as_60 : decode cX4_as 60 = .ok (.ifCond .eq 7, 3) := by decide +kernel
theorem dX4_as_63 : decode cX4_as 63 = .ok (.iload_n 3, 1) := by decide +kernel
theorem dX4_as_64 : decode cX4_as 64 = .ok (.goto 8, 3) := by decide +kernel
theorem dX4_as_67 : decode cX4_as 67 = .ok (.aload_n 0, 1) := by decide +kernel
theorem dX4_as_68 : decode cX4_as 68 = .ok (.iconst 2, 1) := by decide +kernel
theorem dX4_as_69 : decode cX4_as 69 = .ok (.invokevirtual 56, 3) := by decide +kernel
theorem dX4_as_72 : decode cX4_as 72 = .ok (.ireturn, 1) := by decide +kernel
theorem dX4_call_0 : decode cX4_call 0 = .ok (.iload_n 1, 1) := by decide +kernel
theorem dX4_call_1 : decode cX4_call 1 = .ok (.iconst 0, 1) := by decide +kernel
theorem dX4_call_2 : decode cX4_call 2 = .ok (.iconst 5, 1) := by decide +kernel
theorem dX4_call_3 : decode cX4_call 3 = .ok (.invokestatic 76, 3) := by decide +kernel
theorem dX4_call_6 : decode cX4_call 6 = .ok (.ifCond .eq 14, 3) := by decide +kernel
theorem dX4_call_9 : decode cX4_call 9 = .ok (.iload_n 2, 1) := by decide +kernel
theorem dX4_call_10 : decode cX4_call 10 = .ok (.iconst 0, 1) := by decide +kernel
theorem dX4_call_11 : decode cX4_call 11 = .ok (.sipush 999, 3) := by decide +kernel
theorem dX4_call_14 : decode cX4_call 14 = .ok (.invokestatic 76, 3) := by decide +kernel
theorem dX4_call_17 : decode cX4_call 17 = .ok (.ifCond .ne 9, 3) := by decide +kernel
theorem dX4_call_20 : decode cX4_call 20 = .ok (.aload_n 0, 1) := by decide +kernel
theorem dX4_call_21 : decode cX4_call 21 = .ok (.iconst 0, 1) := by decide +kernel
theorem dX4_call_22 : decode cX4_call 22 = .ok (.invokevirtual 56, 3) := by decide +kernel
theorem dX4_call_25 : decode cX4_call 25 = .ok (.ireturn, 1) := by decide +kernel
theorem dX4_call_26 : decode cX4_call 26 = .ok (.aload_n 0, 1) := by decide +kernel
theorem dX4_call_27 : decode cX4_call 27 = .ok (.getfield 10, 3) := by decide +kernel
theorem dX4_call_30 : decode cX4_call 30 = .ok (.getfield 87, 3) := by decide +kernel
theorem dX4_call_33 : decode cX4_call 33 = .ok (.iload_n 1, 1) := by decide +kernel
theorem dX4_call_34 : decode cX4_call 34 = .ok (.iaload, 1) := by decide +kernel
theorem dX4_call_35 : decode cX4_call 35 = .ok (.istore_n 3, 1) := by decide +kernel
theorem dX4_call_36 : decode cX4_call 36 = .ok (.aload_n 0, 1) := by decide +kernel
theorem dX4_call_37 : decode cX4_call 37 = .ok (.getfield 10, 3) := by decide +kernel
theorem dX4_call_40 : decode cX4_call 40 = .ok (.getfield 87, 3) := by decide +kernel
theorem dX4_call_43 : decode cX4_call 43 = .ok (.iload_n 1, 1) := by decide +kernel
theorem dX4_call_44 : decode cX4_call 44 = .ok (.iload_n 2, 1) := by decide +kernel
theorem dX4_call_45 : decode cX4_call 45 = .ok (.iastore, 1) := by decide +kernel
theorem dX4_call_46 : decode cX4_call 46 = .ok (.iload_n 3, 1) := by decide +kernel
theorem dX4_call_47 : decode cX4_call 47 = .ok (.ireturn, 1) := by decide +kernel
theorem dX4_callFor_0 : decode cX4_callFor 0 = .ok (.iload_n 1, 1) := by decide +kernel
theorem dX4_callFor_1 : decode cX4_callFor 1 = .ok (.iconst 0, 1) := by decide +kernel
theorem dX4_callFor_2 : decode cX4_callFor 2 = .ok (.bipush 10, 2) := by decide +kernel
theorem dX4_callFor_4 : decode cX4_callFor 4 = .ok (.invokestatic 76, 3) := by decide +kernel
theorem dX4_callFor_7 : decode cX4_callFor 7 = .ok (.ifCond .ne 9, 3) := by decide +kernel
theorem dX4_callFor_10 : decode cX4_callFor 10 = .ok (.aload_n 0, 1) := by decide +kernel
theorem dX4_callFor_11 : decode cX4_callFor 11 = .ok (.iconst 0, 1) := by decide +kernel
theorem dX4_callFor_12 : decode cX4_callFor 12 = .ok (.invokevirtual 56, 3) := by decide +kernel
theorem dX4_callFor_15 : decode cX4_callFor 15 = .ok (.ireturn, 1) := by decide +kernel
theorem dX4_callFor_16 : decode cX4_callFor 16 = .ok (.iconst 0, 1) := by decide +kernel
theorem dX4_callFor_17 : decode cX4_callFor 17 = .ok (.istore_n 2, 1) := by decide +kernel
theorem dX4_callFor_18 : decode cX4_callFor 18 = .ok (.iconst (-1), 1) := by decide +kernel
theorem dX4_callFor_19 : decode cX4_callFor 19 = .ok (.istore_n 3, 1) := by decide +kernel
theorem dX4_callFor_20 : decode cX4_callFor 20 = .ok (.iconst 0, 1) := by decide +kernel
theorem dX4_callFor_21 : decode cX4_callFor 21 = .ok (.istore 4, 2) := by decide +kernel
theorem dX4_callFor_23 : decode cX4_callFor 23 = .ok (.iconst 0, 1) := by decide +kernel
theorem dX4_callFor_24 : decode cX4_callFor 24 = .ok (.istore 5, 2) := by decide +kernel
theorem dX4_callFor_26 : decode cX4_callFor 26 = .ok (.iload 5, 2) := by decide +kernel
theorem dX4_callFor_28 : decode cX4_callFor 28 = .ok (.sipush 999, 3) := by decide +kernel
theorem dX4_callFor_31 : decode cX4_callFor 31 = .ok (.if_icmp .gt 90, 3) := by decide +kernel
theorem dX4_callFor_34 : decode cX4_callFor 34 = .ok (.iconst 1, 1) := by decide +kernel
theorem dX4_callFor_35 : decode cX4_callFor 35 = .ok (.iload 5, 2) := by decide +kernel
theorem dX4_callFor_37 : decode cX4_callFor 37 = .ok (.aload_n 0, 1) := by decide +kernel
theorem dX4_callFor_38 : decode cX4_callFor 38 = .ok (.getfield 10, 3) := by decide +kernel
theorem dX4_callFor_41 : decode cX4_callFor 41 = .ok (.getfield 159, 3) := by decide +kernel
theorem dX4_callFor_44 : decode cX4_callFor 44 = .ok (.invokestatic 90, 3) := by decide +kernel
theorem dX4_callFor_47 : decode cX4_callFor 47 = .ok (.ishl, 1) := by decide +kernel
theorem dX4_callFor_48 : decode cX4_callFor 48 = .ok (.istore 6, 2) := by decide +kernel
theorem dX4_callFor_50 : decode cX4_callFor 50 = .ok (.iload 4, 2) := by decide +kernel
theorem dX4_callFor_52 : decode cX4_callFor 52 = .ok (.iload 6, 2) := by decide +kernel
theorem dX4_callFor_54 : decode cX4_callFor 54 = .ok (.iand, 1) := by decide +kernel
theorem dX4_callFor_55 : decode cX4_callFor 55 = .ok (.ifCond .ne 60, 3) := by decide +kernel
theorem dX4_callFor_58 : decode cX4_callFor 58 = .ok (.iload 4, 2) := by decide +kernel
theorem dX4_callFor_60 : decode cX4_callFor 60 = .ok (.iload 6, 2) := by decide +kernel
theorem dX4_callFor_62 : decode cX4_callFor 62 = .ok (.ior, 1) := by decide +kernel
theorem dX4_callFor_63 : decode cX4_callFor 63 = .ok (.istore 4, 2) := by decide +kernel
theorem dX4_callFor_65 : decode cX4_callFor 65 = .ok (.aload_n 0, 1) := by decide +kernel
theorem dX4_callFor_66 : decode cX4_callFor 66 = .ok (.getfield 16, 3) := by decide +kernel
theorem dX4_callFor_69 : decode cX4_callFor 69 = .ok (.aload_n 0, 1) := by decide +kernel
theorem dX4_callFor_70 : decode cX4_callFor 70 = .ok (.getfield 10, 3) := by decide +kernel
theorem dX4_callFor_73 : decode cX4_callFor 73 = .ok (.invokevirtual 152, 3) := by decide +kernel
theorem dX4_callFor_76 : decode cX4_callFor 76 = .ok (.aload_n 0, 1) := by decide +kernel
theorem dX4_callFor_77 : decode cX4_callFor 77 = .ok (.getfield 16, 3) := by decide +kernel
theorem dX4_callFor_80 : decode cX4_callFor 80 = .ok (.getfield 87, 3) := by decide +kernel
theorem dX4_callFor_83 : decode cX4_callFor 83 = .ok (.aload_n 0, 1) := by decide +kernel
theorem dX4_callFor_84 : decode cX4_callFor 84 = .ok (.getfield 16, 3) := by decide +kernel
theorem dX4_callFor_87 : decode cX4_callFor 87 = .ok (.invokevirtual 162, 3) := by decide +kernel
theorem dX4_callFor_90 : decode cX4_callFor 90 = .ok (.iload 5, 2) := by decide +kernel
theorem dX4_callFor_92 : decode cX4_callFor 92 = .ok (.iastore, 1) := by decide +kernel
theorem dX4_callFor_93 : decode cX4_callFor 93 = .ok (.aload_n 0, 1) := by decide +kernel
theorem dX4_callFor_94 : decode cX4_callFor 94 = .ok (.getfield 16, 3) := by decide +kernel
theorem dX4_callFor_97 : decode cX4_callFor 97 = .ok (.iload_n 1, 1) := by decide +kernel
theorem dX4_callFor_98 : decode cX4_callFor 98 = .ok (.invokevirtual 126, 3) := by decide +kernel
theorem dX4_callFor_101 : decode cX4_callFor 101 = .ok (.istore 7, 2) := by decide +kernel
theorem dX4_callFor_103 : decode cX4_callFor 103 = .ok (.iload 7, 2) := by decide +kernel
theorem dX4_callFor_105 : decode cX4_callFor 105 = .ok (.iload_n 3, 1) := by decide +kernel
theorem dX4_callFor_106 : decode cX4_callFor 106 = .ok (.if_icmp .le 9, 3) := by decide +kernel
theorem dX4_callFor_109 : decode cX4_callFor 109 = .ok (.iload 7, 2) := by decide +kernel
theorem dX4_callFor_111 : decode cX4_callFor 111 = .ok (.istore_n 3, 1) := by decide +kernel
theorem dX4_callFor_112 : decode cX4_callFor 112 = .ok (.iload 5, 2) := by decide +kernel
theorem dX4_callFor_114 : decode cX4_callFor 114 = .ok (.istore_n 2, 1) := by decide +kernel
theorem dX4_callFor_115 : decode cX4_callFor 115 = .ok (.iinc 5 1, 3) := by decide +kernel
theorem dX4_callFor_118 : decode cX4_callFor 118 = .ok (.goto (-92), 3) := by decide +kernel
theorem dX4_callFor_121 : decode cX4_callFor 121 = .ok (.iload_n 2, 1) := by decide +kernel
theorem dX4_callFor_122 : decode cX4_callFor 122 = .ok (.ireturn, 1) := by decide +kernel
theorem dX4_change_0 : decode cX4_change 0 = .ok (.aload_n 0, 1) := by decide +kernel
theorem dX4_change_1 : decode cX4_change 1 = .ok (.iload_n 1, 1) := by decide +kernel
theorem dX4_change_2 : decode cX4_change 2 = .ok (.invokevirtual 100, 3) := by decide +kernel
theorem dX4_change_5 : decode cX4_change 5 = .ok (.ifCond .eq 24, 3) := by decide +kernel
theorem dX4_change_8 : decode cX4_change 8 = .ok (.iload_n 2, 1) := by decide +kernel
theorem dX4_change_9 : decode cX4_change 9 = .ok (.iconst 0, 1) := by decide +kernel
theorem dX4_change_10 : decode cX4_change 10 = .ok (.iconst 4, 1) := by decide +kernel
theorem dX4_change_11 : decode cX4_change 11 = .ok (.invokestatic 76, 3) := by decide +kernel
theorem dX4_change_14 : decode cX4_change 14 = .ok (.ifCond .eq 15, 3) := by decide +kernel
theorem dX4_change_17 : decode cX4_change 17 = .ok (.iload_n 3, 1) := by decide +kernel
theorem dX4_change_18 : decode cX4_change 18 = .ok (.iconst 0, 1) := by decide +kernel
theorem dX4_change_19 : decode cX4_change 19 = .ok (.iload_n 2, 1) := by decide +kernel
theorem dX4_change_20 : decode cX4_change 20 = .ok (.invokestatic 116, 3) := by decide +kernel
theorem dX4_change_23 : decode cX4_change 23 = .ok (.invokestatic 76, 3) := by decide +kernel
theorem dX4_change_26 : decode cX4_change 26 = .ok (.ifCond .ne 9, 3) := by decide +kernel
theorem dX4_change_29 : decode cX4_change 29 = .ok (.aload_n 0, 1) := by decide +kernel
theorem dX4_change_30 : decode cX4_change 30 = .ok (.iconst 0, 1) := by decide +kernel
theorem dX4_change_31 : decode cX4_change 31 = .ok (.invokevirtual 56, 3) := by decide +kernel
theorem dX4_change_34 : decode cX4_change 34 = .ok (.ireturn, 1) := by decide +kernel
theorem dX4_change_35 : decode cX4_change 35 = .ok (.aload_n 0, 1) := by decide +kernel
theorem dX4_change_36 : decode cX4_change 36 = .ok (.getfield 10, 3) := by decide +kernel
theorem dX4_change_39 : decode cX4_change 39 = .ok (.iload_n 2, 1) := by decide +kernel
theorem dX4_change_40 : decode cX4_change 40 = .ok (.invokevirtual 112, 3) := by decide +kernel
theorem dX4_change_43 : decode cX4_change 43 = .ok (.astore 4, 2) := by decide +kernel
theorem dX4_change_45 : decode cX4_change 45 = .ok (.aload 4, 2) := by decide +kernel
theorem dX4_change_47 : decode cX4_change 47 = .ok (.iload_n 1, 1) := by decide +kernel
theorem dX4_change_48 : decode cX4_change 48 = .ok (.iaload, 1) := by decide +kernel
theorem dX4_change_49 : decode cX4_change 49 = .ok (.istore 5, 2) := by decide +kernel
theorem dX4_change_51 : decode cX4_change 51 = .ok (.aload 4, 2) := by decide +kernel
theorem dX4_change_53 : decode cX4_change 53 = .ok (.iload_n 1, 1) := by decide +kernel
theorem dX4_change_54 : decode cX4_change 54 = .ok (.iload_n 3, 1) := by decide +kernel
theorem dX4_change_55 : decode cX4_change 55 = .ok (.iastore, 1) := by decide +kernel
theorem dX4_change_56 : decode cX4_change 56 = .ok (.iload 5, 2) := by decide +kernel
theorem dX4_change_58 : decode cX4_change 58 = .ok (.ireturn, 1) := by decide +kernel
theorem dX4_codeFor_0 : decode cX4_codeFor 0 = .ok (.iload_n 1, 1) := by decide +kernel
theorem dX4_codeFor_1 : decode cX4_codeFor 1 = .ok (.iconst 0, 1) := by decide +kernel
theorem dX4_codeFor_2 : decode cX4_codeFor 2 = .ok (.bipush 40, 2) := by decide +kernel
theorem dX4_codeFor_4 : decode cX4_codeFor 4 = .ok (.invokestatic 76, 3) := by decide +kernel
theorem dX4_codeFor_7 : decode cX4_codeFor 7 = .ok (.ifCond .ne 9, 3) := by decide +kernel
theorem dX4_codeFor_10 : decode cX4_codeFor 10 = .ok (.aload_n 0, 1) := by decide +kernel
theorem dX4_codeFor_11 : decode cX4_codeFor 11 = .ok (.iconst 0, 1) := by decide +kernel
theorem dX4_codeFor_12 : decode cX4_codeFor 12 = .ok (.invokevirtual 56, 3) := by decide +kernel
theorem dX4_codeFor_15 : decode cX4_codeFor 15 = .ok (.ireturn, 1) := by decide +kernel
theorem dX4_codeFor_16 : decode cX4_codeFor 16 = .ok (.iconst 0, 1) := by decide +kernel
theorem dX4_codeFor_17 : decode cX4_codeFor 17 = .ok (.istore_n 2, 1) := by decide +kernel
theorem dX4_codeFor_18 : decode cX4_codeFor 18 = .ok (.iconst (-1), 1) := by decide +kernel
theorem dX4_codeFor_19 : decode cX4_codeFor 19 = .ok (.istore_n 3, 1) := by decide +kernel
theorem dX4_codeFor_20 : decode cX4_codeFor 20 = .ok (.iconst 0, 1) := by decide +kernel
theorem dX4_codeFor_21 : decode cX4_codeFor 21 = .ok (.istore 4, 2) := by decide +kernel
theorem dX4_codeFor_23 : decode cX4_codeFor 23 = .ok (.iload 4, 2) := by decide +kernel
theorem dX4_codeFor_25 : decode cX4_codeFor 25 = .ok (.iconst 5, 1) := by decide +kernel
theorem dX4_codeFor_26 : decode cX4_codeFor 26 = .ok (.if_icmp .ge 51, 3) := by decide +kernel
theorem dX4_codeFor_29 : decode cX4_codeFor 29 = .ok (.aload_n 0, 1) := by decide +kernel
theorem dX4_codeFor_30 : decode cX4_codeFor 30 = .ok (.getfield 16, 3) := by decide +kernel
theorem dX4_codeFor_33 : decode cX4_codeFor 33 = .ok (.aload_n 0, 1) := by decide +kernel
theorem dX4_codeFor_34 : decode cX4_codeFor 34 = .ok (.getfield 10, 3) := by decide +kernel
theorem dX4_codeFor_37 : decode cX4_codeFor 37 = .ok (.invokevirtual 152, 3) := by decide +kernel
theorem dX4_codeFor_40 : decode cX4_codeFor 40 = .ok (.aload_n 0, 1) := by decide +kernel
theorem dX4_codeFor_41 : decode cX4_codeFor 41 = .ok (.getfield 16, 3) := by decide +kernel
theorem dX4_codeFor_44 : decode cX4_codeFor 44 = .ok (.iload 4, 2) := by decide +kernel
theorem dX4_codeFor_46 : decode cX4_codeFor 46 = .ok (.putfield 159, 3) := by decide +kernel
theorem dX4_codeFor_49 : decode cX4_codeFor 49 = .ok (.aload_n 0, 1) := by decide +kernel
theorem dX4_codeFor_50 : decode cX4_codeFor 50 = .ok (.getfield 16, 3) := by decide +kernel
theorem dX4_codeFor_53 : decode cX4_codeFor 53 = .ok (.iload_n 1, 1) := by decide +kernel
theorem dX4_codeFor_54 : decode cX4_codeFor 54 = .ok (.invokevirtual 126, 3) := by decide +kernel
theorem dX4_codeFor_57 : decode cX4_codeFor 57 = .ok (.istore 5, 2) := by decide +kernel
theorem dX4_codeFor_59 : decode cX4_codeFor 59 = .ok (.iload 5, 2) := by decide +kernel
theorem dX4_codeFor_61 : decode cX4_codeFor 61 = .ok (.iload_n 3, 1) := by decide +kernel
theorem dX4_codeFor_62 : decode cX4_codeFor 62 = .ok (.if_icmp .le 9, 3) := by decide +kernel
theorem dX4_codeFor_65 : decode cX4_codeFor 65 = .ok (.iload 5, 2) := by decide +kernel
theorem dX4_codeFor_67 : decode cX4_codeFor 67 = .ok (.istore_n 3, 1) := by decide +kernel
theorem dX4_codeFor_68 : decode cX4_codeFor 68 = .ok (.iload 4, 2) := by decide +kernel
theorem dX4_codeFor_70 : decode cX4_codeFor 70 = .ok (.istore_n 2, 1) := by decide +kernel
theorem dX4_codeFor_71 : decode cX4_codeFor 71 = .ok (.iinc 4 1, 3) := by decide +kernel
theorem dX4_codeFor_74 : decode cX4_codeFor 74 = .ok (.goto (-51), 3) := by decide +kernel
theorem dX4_codeFor_77 : decode cX4_codeFor 77 = .ok (.iload_n 2, 1) := by decide +kernel
theorem dX4_codeFor_78 : decode cX4_codeFor 78 = .ok (.ireturn, 1) := by decide +kernel
theorem dX4_codes_0 : decode cX4_codes 0 = .ok (.aload_n 0, 1) := by decide +kernel
theorem dX4_codes_1 : decode cX4_codes 1 = .ok (.iload_n 1, 1) := by decide +kernel
theorem dX4_codes_2 : decode cX4_codes 2 = .ok (.invokevirtual 175, 3) := by decide +kernel
theorem dX4_codes_5 : decode cX4_codes 5 = .ok (.istore_n 2, 1) := by decide +kernel
theorem dX4_codes_6 : decode cX4_codes 6 = .ok (.iload_n 2, 1) := by decide +kernel
theorem dX4_codes_7 : decode cX4_codes 7 = .ok (.iconst (-1), 1) := by decide +kernel
theorem dX4_codes_8 : decode cX4_codes 8 = .ok (.if_icmp .eq 9, 3) := by decide +kernel
theorem dX4_codes_11 : decode cX4_codes 11 = .ok (.aload_n 0, 1) := by decide +kernel
theorem dX4_codes_12 : decode cX4_codes 12 = .ok (.iload_n 2, 1) := by decide +kernel
theorem dX4_codes_13 : decode cX4_codes 13 = .ok (.invokevirtual 56, 3) := by decide +kernel
theorem dX4_codes_16 : decode cX4_codes 16 = .ok (.ireturn, 1) := by decide +kernel
theorem dX4_codes_17 : decode cX4_codes 17 = .ok (.iconst 0, 1) := by decide +kernel
theorem dX4_codes_18 : decode cX4_codes 18 = .ok (.istore_n 3, 1) := by decide +kernel
theorem dX4_codes_19 : decode cX4_codes 19 = .ok (.iconst 0, 1) := by decide +kernel
theorem dX4_codes_20 : decode cX4_codes 20 = .ok (.istore 4, 2) := by decide +kernel
theorem dX4_codes_22 : decode cX4_codes 22 = .ok (.iload 4, 2) := by decide +kernel
theorem dX4_codes_24 : decode cX4_codes 24 = .ok (.iconst 5, 1) := by decide +kernel
theorem dX4_codes_25 : decode cX4_codes 25 = .ok (.if_icmp .ge 49, 3) := by decide +kernel
theorem dX4_codes_28 : decode cX4_codes 28 = .ok (.aload_n 0, 1) := by decide +kernel
theorem dX4_codes_29 : decode cX4_codes 29 = .ok (.getfield 16, 3) := by decide +kernel
theorem dX4_codes_32 : decode cX4_codes 32 = .ok (.aload_n 0, 1) := by decide +kernel
theorem dX4_codes_33 : decode cX4_codes 33 = .ok (.getfield 10, 3) := by decide +kernel
theorem dX4_codes_36 : decode cX4_codes 36 = .ok (.invokevirtual 152, 3) := by decide +kernel
theorem dX4_codes_39 : decode cX4_codes 39 = .ok (.aload_n 0, 1) := by decide +kernel
theorem dX4_codes_40 : decode cX4_codes 40 = .ok (.getfield 16, 3) := by decide +kernel
theorem dX4_codes_43 : decode cX4_codes 43 = .ok (.iload 4, 2) := by decide +kernel
theorem dX4_codes_45 : decode cX4_codes 45 = .ok (.putfield 159, 3) := by decide +kernel
theorem dX4_codes_48 : decode cX4_codes 48 = .ok (.aload_n 0, 1) := by decide +kernel
theorem dX4_codes_49 : decode cX4_codes 49 = .ok (.aload_n 0, 1) := by decide +kernel
theorem dX4_codes_50 : decode cX4_codes 50 = .ok (.getfield 40, 3) := by decide +kernel
theorem dX4_codes_53 : decode cX4_codes 53 = .ok (.iload_n 1, 1) := by decide +kernel
theorem dX4_codes_54 : decode cX4_codes 54 = .ok (.aaload, 1) := by decide +kernel
theorem dX4_codes_55 : decode cX4_codes 55 = .ok (.invokevirtual 178, 3) := by decide +kernel
theorem dX4_codes_58 : decode cX4_codes 58 = .ok (.ifCond .eq 10, 3) := by decide +kernel
theorem dX4_codes_61 : decode cX4_codes 61 = .ok (.iload_n 3, 1) := by decide +kernel
theorem dX4_codes_62 : decode cX4_codes 62 = .ok (.iconst 1, 1) := by decide +kernel
theorem dX4_codes_63 : decode cX4_codes 63 = .ok (.iload 4, 2) := by decide +kernel
theorem dX4_codes_65 : decode cX4_codes 65 = .ok (.ishl, 1) := by decide +kernel
theorem dX4_codes_66 : decode cX4_codes 66 = .ok (.ior, 1) := by decide +kernel
theorem dX4_codes_67 : decode cX4_codes 67 = .ok (.istore_n 3, 1) := by decide +kernel
theorem dX4_codes_68 : decode cX4_codes 68 = .ok (.iinc 4 1, 3) := by decide +kernel
theorem dX4_codes_71 : decode cX4_codes 71 = .ok (.goto (-49), 3) := by decide +kernel
theorem dX4_codes_74 : decode cX4_codes 74 = .ok (.iload_n 3, 1) := by decide +kernel
theorem dX4_codes_75 : decode cX4_codes 75 = .ok (.ireturn, 1) := by decide +kernel
theorem dX4_commonDivisor_0 : decode cX4_commonDivisor 0 = .ok (.iload_n 1, 1) := by decide +kernel
theorem dX4_commonDivisor_1 : decode cX4_commonDivisor 1 = .ok (.istore_n 2, 1) := by decide +kernel
theorem dX4_commonDivisor_2 : decode cX4_commonDivisor 2 = .ok (.iload_n 0, 1) := by decide +kernel
theorem dX4_commonDivisor_3 : decode cX4_commonDivisor 3 = .ok (.istore_n 3, 1) := by decide +kernel
theorem dX4_commonDivisor_4 : decode cX4_commonDivisor 4 = .ok (.iconst 0, 1) := by decide +kernel
theorem dX4_commonDivisor_5 : decode cX4_commonDivisor 5 = .ok (.istore 4, 2) := by decide +kernel
theorem dX4_commonDivisor_7 : decode cX4_commonDivisor 7 = .ok (.iload 4, 2) := by decide +kernel
theorem dX4_commonDivisor_9 : decode cX4_commonDivisor 9 = .ok (.bipush 64, 2) := by decide +kernel
theorem dX4_commonDivisor_11 : decode cX4_commonDivisor 11 = .ok (.if_icmp .ge 23, 3) := by decide +kernel
theorem dX4_commonDivisor_14 : decode cX4_commonDivisor 14 = .ok (.iload_n 3, 1) := by decide +kernel
theorem dX4_commonDivisor_15 : decode cX4_commonDivisor 15 = .ok (.ifCond .eq 19, 3) := by decide +kernel
theorem dX4_commonDivisor_18 : decode cX4_commonDivisor 18 = .ok (.iload_n 2, 1) := by decide +kernel
theorem dX4_commonDivisor_19 : decode cX4_commonDivisor 19 = .ok (.iload_n 3, 1) := by decide +kernel
theorem dX4_commonDivisor_20 : decode cX4_commonDivisor 20 = .ok (.irem, 1) := by decide +kernel
theorem dX4_commonDivisor_21 : decode cX4_commonDivisor 21 = .ok (.istore 5, 2) := by decide +kernel
theorem dX4_commonDivisor_23 : decode cX4_commonDivisor 23 = .ok (.iload_n 3, 1) := by decide +kernel
theorem dX4_commonDivisor_24 : decode cX4_commonDivisor 24 = .ok (.istore_n 2, 1) := by decide +kernel
theorem dX4_commonDivisor_25 : decode cX4_commonDivisor 25 = .ok (.iload 5, 2) := by decide +kernel
theorem dX4_commonDivisor_27 : decode cX4_commonDivisor 27 = .ok (.istore_n 3, 1) := by decide +kernel
theorem dX4_commonDivisor_28 : decode cX4_commonDivisor 28 = .ok (.iinc 4 1, 3) := by decide +kernel
theorem dX4_commonDivisor_31 : decode cX4_commonDivisor 31 = .ok (.goto (-24), 3) := by decide +kernel
theorem dX4_commonDivisor_34 : decode cX4_commonDivisor 34 = .ok (.iload_n 2, 1) := by decide +kernel
theorem dX4_commonDivisor_35 : decode cX4_commonDivisor 35 = .ok (.ireturn, 1) := by decide +kernel
theorem dX4_copy_0 : decode cX4_copy 0 = .ok (.iload_n 1, 1) := by decide +kernel
theorem dX4_copy_1 : decode cX4_copy 1 = .ok (.invokestatic 218, 3) := by decide +kernel
theorem dX4_copy_4 : decode cX4_copy 4 = .ok (.ifCond .eq 10, 3) := by decide +kernel
theorem dX4_copy_7 : decode cX4_copy 7 = .ok (.iload_n 3, 1) := by decide +kernel
theorem dX4_copy_8 : decode cX4_copy 8 = .ok (.invokestatic 218, 3) := by decide +kernel
theorem dX4_copy_11 : decode cX4_copy 11 = .ok (.ifCond .ne 9, 3) := by decide +kernel
theorem dX4_copy_14 : decode cX4_copy 14 = .ok (.aload_n 0, 1) := by decide +kernel
theorem dX4_copy_15 : decode cX4_copy 15 = .ok (.iconst 0, 1) := by decide +kernel
theorem dX4_copy_16 : decode cX4_copy 16 = .ok (.invokevirtual 56, 3) := by decide +kernel
theorem dX4_copy_19 : decode cX4_copy 19 = .ok (.ireturn, 1) := by decide +kernel
theorem dX4_copy_20 : decode cX4_copy 20 = .ok (.aload_n 0, 1) := by decide +kernel
theorem dX4_copy_21 : decode cX4_copy 21 = .ok (.getfield 40, 3) := by decide +kernel
theorem dX4_copy_24 : decode cX4_copy 24 = .ok (.iload_n 1, 1) := by decide +kernel
theorem dX4_copy_25 : decode cX4_copy 25 = .ok (.aaload, 1) := by decide +kernel
theorem dX4_copy_26 : decode cX4_copy 26 = .ok (.astore 6, 2) := by decide +kernel
theorem dX4_copy_28 : decode cX4_copy 28 = .ok (.aload_n 0, 1) := by decide +kernel
theorem dX4_copy_29 : decode cX4_copy 29 = .ok (.getfield 40, 3) := by decide +kernel
theorem dX4_copy_32 : decode cX4_copy 32 = .ok (.iload_n 3, 1) := by decide +kernel
theorem dX4_copy_33 : decode cX4_copy 33 = .ok (.aaload, 1) := by decide +kernel
theorem dX4_copy_34 : decode cX4_copy 34 = .ok (.astore 7, 2) := by decide +kernel
theorem dX4_copy_36 : decode cX4_copy 36 = .ok (.aload 6, 2) := by decide +kernel
theorem dX4_copy_38 : decode cX4_copy 38 = .ok (.invokevirtual 227, 3) := by decide +kernel
theorem dX4_copy_41 : decode cX4_copy 41 = .ok (.ifCond .ne 11, 3) := by decide +kernel
theorem dX4_copy_44 : decode cX4_copy 44 = .ok (.aload 7, 2) := by decide +kernel
theorem dX4_copy_46 : decode cX4_copy 46 = .ok (.invokevirtual 227, 3) := by decide +kernel
theorem dX4_copy_49 : decode cX4_copy 49 = .ok (.ifCond .eq 9, 3) := by decide +kernel
theorem dX4_copy_52 : decode cX4_copy 52 = .ok (.aload_n 0, 1) := by decide +kernel
theorem dX4_copy_53 : decode cX4_copy 53 = .ok (.iconst 5, 1) := by decide +kernel
theorem dX4_copy_54 : decode cX4_copy 54 = .ok (.invokevirtual 56, 3) := by decide +kernel
theorem dX4_copy_57 : decode cX4_copy 57 = .ok (.ireturn, 1) := by decide +kernel
theorem dX4_copy_58 : decode cX4_copy 58 = .ok (.aload 6, 2) := by decide +kernel
theorem dX4_copy_60 : decode cX4_copy 60 = .ok (.getfield 231, 3) := by decide +kernel
theorem dX4_copy_63 : decode cX4_copy 63 = .ok (.aload 7, 2) := by decide +kernel
theorem dX4_copy_65 : decode cX4_copy 65 = .ok (.getfield 231, 3) := by decide +kernel
theorem dX4_copy_68 : decode cX4_copy 68 = .ok (.if_icmp .eq 9, 3) := by decide +kernel
theorem dX4_copy_71 : decode cX4_copy 71 = .ok (.aload_n 0, 1) := by decide +kernel
theorem dX4_copy_72 : decode cX4_copy 72 = .ok (.iconst 2, 1) := by decide +kernel
theorem dX4_copy_73 : decode cX4_copy 73 = .ok (.invokevirtual 56, 3) := by decide +kernel
theorem dX4_copy_76 : decode cX4_copy 76 = .ok (.ireturn, 1) := by decide +kernel
theorem dX4_copy_77 : decode cX4_copy 77 = .ok (.aload 6, 2) := by decide +kernel
theorem dX4_copy_79 : decode cX4_copy 79 = .ok (.iload_n 2, 1) := by decide +kernel
theorem dX4_copy_80 : decode cX4_copy 80 = .ok (.iload 5, 2) := by decide +kernel
theorem dX4_copy_82 : decode cX4_copy 82 = .ok (.invokevirtual 234, 3) := by decide +kernel
theorem dX4_copy_85 : decode cX4_copy 85 = .ok (.ifCond .eq 15, 3) := by decide +kernel
theorem dX4_copy_88 : decode cX4_copy 88 = .ok (.aload 7, 2) := by decide +kernel
theorem dX4_copy_90 : decode cX4_copy 90 = .ok (.iload 4, 2) := by decide +kernel
theorem dX4_copy_92 : decode cX4_copy 92 = .ok (.iload 5, 2) := by decide +kernel
theorem dX4_copy_94 : decode cX4_copy 94 = .ok (.invokevirtual 234, 3) := by decide +kernel
theorem dX4_copy_97 : decode cX4_copy 97 = .ok (.ifCond .ne 9, 3) := by decide +kernel
theorem dX4_copy_100 : decode cX4_copy 100 = .ok (.aload_n 0, 1) := by decide +kernel
theorem dX4_copy_101 : decode cX4_copy 101 = .ok (.iconst 0, 1) := by decide +kernel
theorem dX4_copy_102 : decode cX4_copy 102 = .ok (.invokevirtual 56, 3) := by decide +kernel
theorem dX4_copy_105 : decode cX4_copy 105 = .ok (.ireturn, 1) := by decide +kernel
theorem dX4_copy_106 : decode cX4_copy 106 = .ok (.aload 6, 2) := by decide +kernel
theorem dX4_copy_108 : decode cX4_copy 108 = .ok (.getfield 237, 3) := by decide +kernel
theorem dX4_copy_111 : decode cX4_copy 111 = .ok (.iload_n 2, 1) := by decide +kernel
theorem dX4_copy_112 : decode cX4_copy 112 = .ok (.aload 7, 2) := by decide +kernel
theorem dX4_copy_114 : decode cX4_copy 114 = .ok (.getfield 237, 3) := by decide +kernel
theorem dX4_copy_117 : decode cX4_copy 117 = .ok (.iload 4, 2) := by decide +kernel
theorem dX4_copy_119 : decode cX4_copy 119 = .ok (.iload 5, 2) := by decide +kernel
theorem dX4_copy_121 : decode cX4_copy 121 = .ok (.invokestatic 240, 3) := by decide +kernel
theorem dX4_copy_124 : decode cX4_copy 124 = .ok (.iload 5, 2) := by decide +kernel
theorem dX4_copy_126 : decode cX4_copy 126 = .ok (.ireturn, 1) := by decide +kernel
theorem dX4_count_0 : decode cX4_count 0 = .ok (.iload_n 1, 1) := by decide +kernel
theorem dX4_count_1 : decode cX4_count 1 = .ok (.tableswitch 125 0 7 #[47, 55, 63, 71, 86, 101, 109, 117], 47) := by decide +kernel
theorem dX4_count_48 : decode cX4_count 48 = .ok (.aload_n 0, 1) := by decide +kernel
theorem dX4_count_49 : decode cX4_count 49 = .ok (.getfield 10, 3) := by decide +kernel
theorem dX4_count_52 : decode cX4_count 52 = .ok (.getfield 122, 3) := by decide +kernel
theorem dX4_count_55 : decode cX4_count 55 = .ok (.ireturn, 1) := by decide +kernel
theorem dX4_count_56 : decode cX4_count 56 = .ok (.aload_n 0, 1) := by decide +kernel
theorem dX4_count_57 : decode cX4_count 57 = .ok (.getfield 10, 3) := by decide +kernel
theorem dX4_count_60 : decode cX4_count 60 = .ok (.getfield 93, 3) := by decide +kernel
theorem dX4_count_63 : decode cX4_count 63 = .ok (.ireturn, 1) := by decide +kernel
theorem dX4_count_64 : decode cX4_count 64 = .ok (.aload_n 0, 1) := by decide +kernel
theorem dX4_count_65 : decode cX4_count 65 = .ok (.getfield 10, 3) := by decide +kernel
theorem dX4_count_68 : decode cX4_count 68 = .ok (.getfield 129, 3) := by decide +kernel
theorem dX4_count_71 : decode cX4_count 71 = .ok (.ireturn, 1) := by decide +kernel
theorem dX4_count_72 : decode cX4_count 72 = .ok (.aload_n 0, 1) := by decide +kernel
theorem dX4_count_73 : decode cX4_count 73 = .ok (.getfield 10, 3) := by decide +kernel
theorem dX4_count_76 : decode cX4_count 76 = .ok (.aload_n 0, 1) := by decide +kernel
theorem dX4_count_77 : decode cX4_count 77 = .ok (.getfield 10, 3) := by decide +kernel
theorem dX4_count_80 : decode cX4_count 80 = .ok (.getfield 132, 3) := by decide +kernel
theorem dX4_count_83 : decode cX4_count 83 = .ok (.invokevirtual 135, 3) := by decide +kernel
theorem dX4_count_86 : decode cX4_count 86 = .ok (.ireturn, 1) := by decide +kernel
theorem dX4_count_87 : decode cX4_count 87 = .ok (.aload_n 0, 1) := by decide +kernel
theorem dX4_count_88 : decode cX4_count 88 = .ok (.getfield 10, 3) := by decide +kernel
theorem dX4_count_91 : decode cX4_count 91 = .ok (.aload_n 0, 1) := by decide +kernel
theorem dX4_count_92 : decode cX4_count 92 = .ok (.getfield 10, 3) := by decide +kernel
theorem dX4_count_95 : decode cX4_count 95 = .ok (.getfield 139, 3) := by decide +kernel
theorem dX4_count_98 : decode cX4_count 98 = .ok (.invokevirtual 135, 3) := by decide +kernel
theorem dX4_count_101 : decode cX4_count 101 = .ok (.ireturn, 1) := by decide +kernel
theorem dX4_count_102 : decode cX4_count 102 = .ok (.aload_n 0, 1) := by decide +kernel
theorem dX4_count_103 : decode cX4_count 103 = .ok (.getfield 37, 3) := by decide +kernel
theorem dX4_count_106 : decode cX4_count 106 = .ok (.getfield 198, 3) := by decide +kernel
theorem dX4_count_109 : decode cX4_count 109 = .ok (.ireturn, 1) := by decide +kernel
theorem dX4_count_110 : decode cX4_count 110 = .ok (.aload_n 0, 1) := by decide +kernel
theorem dX4_count_111 : decode cX4_count 111 = .ok (.getfield 10, 3) := by decide +kernel
theorem dX4_count_114 : decode cX4_count 114 = .ok (.getfield 195, 3) := by decide +kernel
theorem dX4_count_117 : decode cX4_count 117 = .ok (.ireturn, 1) := by decide +kernel
theorem dX4_count_118 : decode cX4_count 118 = .ok (.aload_n 0, 1) := by decide +kernel
theorem dX4_count_119 : decode cX4_count 119 = .ok (.getfield 10, 3) := by decide +kernel
theorem dX4_count_122 : decode cX4_count 122 = .ok (.invokevirtual 251, 3) := by decide +kernel
theorem dX4_count_125 : decode cX4_count 125 = .ok (.ireturn, 1) := by decide +kernel
theorem dX4_count_126 : decode cX4_count 126 = .ok (.aload_n 0, 1) := by decide +kernel
theorem dX4_count_127 : decode cX4_count 127 = .ok (.iconst 0, 1) := by decide +kernel
theorem dX4_count_128 : decode cX4_count 128 = .ok (.invokevirtual 56, 3) := by decide +kernel
theorem dX4_count_131 : decode cX4_count 131 = .ok (.ireturn, 1) := by decide +kernel
theorem dX4_cover_0 : decode cX4_cover 0 = .ok (.iconst 0, 1) := by decide +kernel
theorem dX4_cover_1 : decode cX4_cover 1 = .ok (.istore_n 1, 1) := by decide +kernel
theorem dX4_cover_2 : decode cX4_cover 2 = .ok (.iconst 0, 1) := by decide +kernel
theorem dX4_cover_3 : decode cX4_cover 3 = .ok (.istore_n 2, 1) := by decide +kernel
theorem dX4_cover_4 : decode cX4_cover 4 = .ok (.iconst 0, 1) := by decide +kernel
theorem dX4_cover_5 : decode cX4_cover 5 = .ok (.istore_n 3, 1) := by decide +kernel
theorem dX4_cover_6 : decode cX4_cover 6 = .ok (.iload_n 3, 1) := by decide +kernel
theorem dX4_cover_7 : decode cX4_cover 7 = .ok (.bipush 6, 2) := by decide +kernel
theorem dX4_cover_9 : decode cX4_cover 9 = .ok (.if_icmp .ge 50, 3) := by decide +kernel
theorem dX4_cover_12 : decode cX4_cover 12 = .ok (.iconst 1, 1) := by decide +kernel
theorem dX4_cover_13 : decode cX4_cover 13 = .ok (.aload_n 0, 1) := by decide +kernel
theorem dX4_cover_14 : decode cX4_cover 14 = .ok (.getfield 10, 3) := by decide +kernel
theorem dX4_cover_17 : decode cX4_cover 17 = .ok (.getfield 87, 3) := by decide +kernel
theorem dX4_cover_20 : decode cX4_cover 20 = .ok (.iload_n 3, 1) := by decide +kernel
theorem dX4_cover_21 : decode cX4_cover 21 = .ok (.iaload, 1) := by decide +kernel
theorem dX4_cover_22 : decode cX4_cover 22 = .ok (.aload_n 0, 1) := by decide +kernel
theorem dX4_cover_23 : decode cX4_cover 23 = .ok (.getfield 10, 3) := by decide +kernel
theorem dX4_cover_26 : decode cX4_cover 26 = .ok (.getfield 159, 3) := by decide +kernel
theorem dX4_cover_29 : decode cX4_cover 29 = .ok (.invokestatic 90, 3) := by decide +kernel
theorem dX4_cover_32 : decode cX4_cover 32 = .ok (.ishl, 1) := by decide +kernel
theorem dX4_cover_33 : decode cX4_cover 33 = .ok (.istore 4, 2) := by decide +kernel
theorem dX4_cover_35 : decode cX4_cover 35 = .ok (.iload_n 2, 1) := by decide +kernel
theorem dX4_cover_36 : decode cX4_cover 36 = .ok (.iload 4, 2) := by decide +kernel
theorem dX4_cover_38 : decode cX4_cover 38 = .ok (.iand, 1) := by decide +kernel
theorem dX4_cover_39 : decode cX4_cover 39 = .ok (.ifCond .ne 14, 3) := by decide +kernel
theorem dX4_cover_42 : decode cX4_cover 42 = .ok (.iload_n 2, 1) := by decide +kernel
theorem dX4_cover_43 : decode cX4_cover 43 = .ok (.iload 4, 2) := by decide +kernel
theorem dX4_cover_45 : decode cX4_cover 45 = .ok (.ior, 1) := by decide +kernel
theorem dX4_cover_46 : decode cX4_cover 46 = .ok (.istore_n 2, 1) := by decide +kernel
theorem dX4_cover_47 : decode cX4_cover 47 = .ok (.iload_n 1, 1) := by decide +kernel
theorem dX4_cover_48 : decode cX4_cover 48 = .ok (.iconst 1, 1) := by decide +kernel
theorem dX4_cover_49 : decode cX4_cover 49 = .ok (.iload_n 3, 1) := by decide +kernel
theorem dX4_cover_50 : decode cX4_cover 50 = .ok (.ishl, 1) := by decide +kernel
theorem dX4_cover_51 : decode cX4_cover 51 = .ok (.ior, 1) := by decide +kernel
theorem dX4_cover_52 : decode cX4_cover 52 = .ok (.istore_n 1, 1) := by decide +kernel
theorem dX4_cover_53 : decode cX4_cover 53 = .ok (.iinc 3 1, 3) := by decide +kernel
theorem dX4_cover_56 : decode cX4_cover 56 = .ok (.goto (-50), 3) := by decide +kernel
theorem dX4_cover_59 : decode cX4_cover 59 = .ok (.iload_n 1, 1) := by decide +kernel
theorem dX4_cover_60 : decode cX4_cover 60 = .ok (.ireturn, 1) := by decide +kernel
theorem dX4_feed_0 : decode cX4_feed 0 = .ok (.iload_n 2, 1) := by decide +kernel
theorem dX4_feed_1 : decode cX4_feed 1 = .ok (.iconst 1, 1) := by decide +kernel
theorem dX4_feed_2 : decode cX4_feed 2 = .ok (.iconst 4, 1) := by decide +kernel
theorem dX4_feed_3 : decode cX4_feed 3 = .ok (.invokestatic 76, 3) := by decide +kernel
theorem dX4_feed_6 : decode cX4_feed 6 = .ok (.ifCond .ne 9, 3) := by decide +kernel
theorem dX4_feed_9 : decode cX4_feed 9 = .ok (.aload_n 0, 1) := by decide +kernel
theorem dX4_feed_10 : decode cX4_feed 10 = .ok (.iconst 0, 1) := by decide +kernel
theorem dX4_feed_11 : decode cX4_feed 11 = .ok (.invokevirtual 56, 3) := by decide +kernel
theorem dX4_feed_14 : decode cX4_feed 14 = .ok (.ireturn, 1) := by decide +kernel
theorem dX4_feed_15 : decode cX4_feed 15 = .ok (.aload_n 0, 1) := by decide +kernel
theorem dX4_feed_16 : decode cX4_feed 16 = .ok (.getfield 37, 3) := by decide +kernel
theorem dX4_feed_19 : decode cX4_feed 19 = .ok (.getfield 198, 3) := by decide +kernel
theorem dX4_feed_22 : decode cX4_feed 22 = .ok (.iload_n 2, 1) := by decide +kernel
theorem dX4_feed_23 : decode cX4_feed 23 = .ok (.iadd, 1) := by decide +kernel
theorem dX4_feed_24 : decode cX4_feed 24 = .ok (.bipush 120, 2) := by decide +kernel
theorem dX4_feed_26 : decode cX4_feed 26 = .ok (.if_icmp .le 9, 3) := by decide +kernel
theorem dX4_feed_29 : decode cX4_feed 29 = .ok (.aload_n 0, 1) := by decide +kernel
theorem dX4_feed_30 : decode cX4_feed 30 = .ok (.iconst 1, 1) := by decide +kernel
theorem dX4_feed_31 : decode cX4_feed 31 = .ok (.invokevirtual 56, 3) := by decide +kernel
theorem dX4_feed_34 : decode cX4_feed 34 = .ok (.ireturn, 1) := by decide +kernel
theorem dX4_feed_35 : decode cX4_feed 35 = .ok (.iload_n 2, 1) := by decide +kernel
theorem dX4_feed_36 : decode cX4_feed 36 = .ok (.iconst 1, 1) := by decide +kernel
theorem dX4_feed_37 : decode cX4_feed 37 = .ok (.isub, 1) := by decide +kernel
theorem dX4_feed_38 : decode cX4_feed 38 = .ok (.istore_n 3, 1) := by decide +kernel
theorem dX4_feed_39 : decode cX4_feed 39 = .ok (.iload_n 3, 1) := by decide +kernel
theorem dX4_feed_40 : decode cX4_feed 40 = .ok (.ifCond .lt 23, 3) := by decide +kernel
theorem dX4_feed_43 : decode cX4_feed 43 = .ok (.aload_n 0, 1) := by decide +kernel
theorem dX4_feed_44 : decode cX4_feed 44 = .ok (.getfield 37, 3) := by decide +kernel
theorem dX4_feed_47 : decode cX4_feed 47 = .ok (.iload_n 1, 1) := by decide +kernel
theorem dX4_feed_48 : decode cX4_feed 48 = .ok (.bipush 8, 2) := by decide +kernel
theorem dX4_feed_50 : decode cX4_feed 50 = .ok (.iload_n 3, 1) := by decide +kernel
theorem dX4_feed_51 : decode cX4_feed 51 = .ok (.imul, 1) := by decide +kernel
theorem dX4_feed_52 : decode cX4_feed 52 = .ok (.ishr, 1) := by decide +kernel
theorem dX4_feed_53 : decode cX4_feed 53 = .ok (.i2b, 1) := by decide +kernel
theorem dX4_feed_54 : decode cX4_feed 54 = .ok (.invokevirtual 203, 3) := by decide +kernel
theorem dX4_feed_57 : decode cX4_feed 57 = .ok (.iinc 3 (-1), 3) := by decide +kernel
theorem dX4_feed_60 : decode cX4_feed 60 = .ok (.goto (-21), 3) := by decide +kernel
theorem dX4_feed_63 : decode cX4_feed 63 = .ok (.aload_n 0, 1) := by decide +kernel
theorem dX4_feed_64 : decode cX4_feed 64 = .ok (.getfield 37, 3) := by decide +kernel
theorem dX4_feed_67 : decode cX4_feed 67 = .ok (.getfield 198, 3) := by decide +kernel
theorem dX4_feed_70 : decode cX4_feed 70 = .ok (.ireturn, 1) := by decide +kernel
theorem dX4_finding_0 : decode cX4_finding 0 = .ok (.aload_n 0, 1) := by decide +kernel
theorem dX4_finding_1 : decode cX4_finding 1 = .ok (.getfield 44, 3) := by decide +kernel
theorem dX4_finding_4 : decode cX4_finding 4 = .ok (.iload_n 1, 1) := by decide +kernel
theorem dX4_finding_5 : decode cX4_finding 5 = .ok (.dup2, 1) := by decide +kernel
theorem dX4_finding_6 : decode cX4_finding 6 = .ok (.iaload, 1) := by decide +kernel
theorem dX4_finding_7 : decode cX4_finding 7 = .ok (.iconst 1, 1) := by decide +kernel
theorem dX4_finding_8 : decode cX4_finding 8 = .ok (.iadd, 1) := by decide +kernel
theorem dX4_finding_9 : decode cX4_finding 9 = .ok (.iastore, 1) := by decide +kernel
theorem dX4_finding_10 : decode cX4_finding 10 = .ok (.ldc 254, 2) := by decide +kernel
theorem dX4_finding_12 : decode cX4_finding 12 = .ok (.iload_n 1, 1) := by decide +kernel
theorem dX4_finding_13 : decode cX4_finding 13 = .ok (.isub, 1) := by decide +kernel
theorem dX4_finding_14 : decode cX4_finding 14 = .ok (.ireturn, 1) := by decide +kernel
theorem dX4_fits_0 : decode cX4_fits 0 = .ok (.aload_n 0, 1) := by decide +kernel
theorem dX4_fits_1 : decode cX4_fits 1 = .ok (.iload_n 1, 1) := by decide +kernel
theorem dX4_fits_2 : decode cX4_fits 2 = .ok (.invokevirtual 175, 3) := by decide +kernel
theorem dX4_fits_5 : decode cX4_fits 5 = .ok (.istore_n 3, 1) := by decide +kernel
theorem dX4_fits_6 : decode cX4_fits 6 = .ok (.iload_n 3, 1) := by decide +kernel
theorem dX4_fits_7 : decode cX4_fits 7 = .ok (.iconst (-1), 1) := by decide +kernel
theorem dX4_fits_8 : decode cX4_fits 8 = .ok (.if_icmp .eq 9, 3) := by decide +kernel
theorem dX4_fits_11 : decode cX4_fits 11 = .ok (.aload_n 0, 1) := by decide +kernel
theorem dX4_fits_12 : decode cX4_fits 12 = .ok (.iload_n 3, 1) := by decide +kernel
theorem dX4_fits_13 : decode cX4_fits 13 = .ok (.invokevirtual 56, 3) := by decide +kernel
theorem dX4_fits_16 : decode cX4_fits 16 = .ok (.ireturn, 1) := by decide +kernel
theorem dX4_fits_17 : decode cX4_fits 17 = .ok (.aload_n 0, 1) := by decide +kernel
theorem dX4_fits_18 : decode cX4_fits 18 = .ok (.iload_n 2, 1) := by decide +kernel
theorem dX4_fits_19 : decode cX4_fits 19 = .ok (.invokevirtual 100, 3) := by decide +kernel
theorem dX4_fits_22 : decode cX4_fits 22 = .ok (.ifCond .ne 9, 3) := by decide +kernel
theorem dX4_fits_25 : decode cX4_fits 25 = .ok (.aload_n 0, 1) := by decide +kernel
theorem dX4_fits_26 : decode cX4_fits 26 = .ok (.iconst 0, 1) := by decide +kernel
theorem dX4_fits_27 : decode cX4_fits 27 = .ok (.invokevirtual 56, 3) := by decide +kernel
theorem dX4_fits_30 : decode cX4_fits 30 = .ok (.ireturn, 1) := by decide +kernel
theorem dX4_fits_31 : decode cX4_fits 31 = .ok (.iconst 0, 1) := by decide +kernel
theorem dX4_fits_32 : decode cX4_fits 32 = .ok (.istore 4, 2) := by decide +kernel
theorem dX4_fits_34 : decode cX4_fits 34 = .ok (.iconst 0, 1) := by decide +kernel
theorem dX4_fits_35 : decode cX4_fits 35 = .ok (.istore 5, 2) := by decide +kernel
theorem dX4_fits_37 : decode cX4_fits 37 = .ok (.iload 5, 2) := by decide +kernel
theorem dX4_fits_39 : decode cX4_fits 39 = .ok (.bipush 99, 2) := by decide +kernel
theorem dX4_fits_41 : decode cX4_fits 41 = .ok (.if_icmp .gt 28, 3) := by decide +kernel
theorem dX4_fits_44 : decode cX4_fits 44 = .ok (.aload_n 0, 1) := by decide +kernel
theorem dX4_fits_45 : decode cX4_fits 45 = .ok (.aload_n 0, 1) := by decide +kernel
theorem dX4_fits_46 : decode cX4_fits 46 = .ok (.getfield 40, 3) := by decide +kernel
theorem dX4_fits_49 : decode cX4_fits 49 = .ok (.iload_n 1, 1) := by decide +kernel
theorem dX4_fits_50 : decode cX4_fits 50 = .ok (.aaload, 1) := by decide +kernel
theorem dX4_fits_51 : decode cX4_fits 51 = .ok (.iload_n 2, 1) := by decide +kernel
theorem dX4_fits_52 : decode cX4_fits 52 = .ok (.iload 5, 2) := by decide +kernel
theorem dX4_fits_54 : decode cX4_fits 54 = .ok (.invokevirtual 182, 3) := by decide +kernel
theorem dX4_fits_57 : decode cX4_fits 57 = .ok (.ifCond .eq 6, 3) := by decide +kernel
theorem dX4_fits_60 : decode cX4_fits 60 = .ok (.iinc 4 1, 3) := by decide +kernel
theorem dX4_fits_63 : decode cX4_fits 63 = .ok (.iinc 5 1, 3) := by decide +kernel
theorem dX4_fits_66 : decode cX4_fits 66 = .ok (.goto (-29), 3) := by decide +kernel
theorem dX4_fits_69 : decode cX4_fits 69 = .ok (.iload 4, 2) := by decide +kernel
theorem dX4_fits_71 : decode cX4_fits 71 = .ok (.ireturn, 1) := by decide +kernel
theorem dX4_fitsSoTall_0 : decode cX4_fitsSoTall 0 = .ok (.aload_n 0, 1) := by decide +kernel
theorem dX4_fitsSoTall_1 : decode cX4_fitsSoTall 1 = .ok (.getfield 16, 3) := by decide +kernel
theorem dX4_fitsSoTall_4 : decode cX4_fitsSoTall 4 = .ok (.aload_n 0, 1) := by decide +kernel
theorem dX4_fitsSoTall_5 : decode cX4_fitsSoTall 5 = .ok (.getfield 10, 3) := by decide +kernel
theorem dX4_fitsSoTall_8 : decode cX4_fitsSoTall 8 = .ok (.invokevirtual 152, 3) := by decide +kernel
theorem dX4_fitsSoTall_11 : decode cX4_fitsSoTall 11 = .ok (.aload_n 0, 1) := by decide +kernel
theorem dX4_fitsSoTall_12 : decode cX4_fitsSoTall 12 = .ok (.getfield 16, 3) := by decide +kernel
theorem dX4_fitsSoTall_15 : decode cX4_fitsSoTall 15 = .ok (.getfield 172, 3) := by decide +kernel
theorem dX4_fitsSoTall_18 : decode cX4_fitsSoTall 18 = .ok (.iload_n 2, 1) := by decide +kernel
theorem dX4_fitsSoTall_19 : decode cX4_fitsSoTall 19 = .ok (.iload_n 3, 1) := by decide +kernel
theorem dX4_fitsSoTall_20 : decode cX4_fitsSoTall 20 = .ok (.iastore, 1) := by decide +kernel
theorem dX4_fitsSoTall_21 : decode cX4_fitsSoTall 21 = .ok (.aload_n 0, 1) := by decide +kernel
theorem dX4_fitsSoTall_22 : decode cX4_fitsSoTall 22 = .ok (.aload_n 1, 1) := by decide +kernel
theorem dX4_fitsSoTall_23 : decode cX4_fitsSoTall 23 = .ok (.invokevirtual 178, 3) := by decide +kernel
theorem dX4_fitsSoTall_26 : decode cX4_fitsSoTall 26 = .ok (.ireturn, 1) := by decide +kernel
theorem dX4_gains_0 : decode cX4_gains 0 = .ok (.aload_n 0, 1) := by decide +kernel
theorem dX4_gains_1 : decode cX4_gains 1 = .ok (.iload_n 1, 1) := by decide +kernel
theorem dX4_gains_2 : decode cX4_gains 2 = .ok (.invokevirtual 100, 3) := by decide +kernel
theorem dX4_gains_5 : decode cX4_gains 5 = .ok (.ifCond .eq 10, 3) := by decide +kernel
theorem dX4_gains_8 : decode cX4_gains 8 = .ok (.iload_n 2, 1) := by decide +kernel
theorem dX4_gains_9 : decode cX4_gains 9 = .ok (.invokestatic 49, 3) := by decide +kernel
theorem dX4_gains_12 : decode cX4_gains 12 = .ok (.ifCond .ne 9, 3) := by decide +kernel
theorem dX4_gains_15 : decode cX4_gains 15 = .ok (.aload_n 0, 1) := by decide +kernel
theorem dX4_gains_16 : decode cX4_gains 16 = .ok (.iconst 0, 1) := by decide +kernel
theorem dX4_gains_17 : decode cX4_gains 17 = .ok (.invokevirtual 56, 3) := by decide +kernel
theorem dX4_gains_20 : decode cX4_gains 20 = .ok (.ireturn, 1) := by decide +kernel
theorem dX4_gains_21 : decode cX4_gains 21 = .ok (.aload_n 0, 1) := by decide +kernel
theorem dX4_gains_22 : decode cX4_gains 22 = .ok (.getfield 10, 3) := by decide +kernel
theorem dX4_gains_25 : decode cX4_gains 25 = .ok (.iload_n 1, 1) := by decide +kernel
theorem dX4_gains_26 : decode cX4_gains 26 = .ok (.iload_n 2, 1) := by decide +kernel
theorem dX4_gains_27 : decode cX4_gains 27 = .ok (.invokevirtual 119, 3) := by decide +kernel
theorem dX4_gains_30 : decode cX4_gains 30 = .ok (.ireturn, 1) := by decide +kernel
theorem dX4_go_0 : decode cX4_go 0 = .ok (.iload_n 1, 1) := by decide +kernel
theorem dX4_go_1 : decode cX4_go 1 = .ok (.iconst 1, 1) := by decide +kernel
theorem dX4_go_2 : decode cX4_go 2 = .ok (.bipush 60, 2) := by decide +kernel
theorem dX4_go_4 : decode cX4_go 4 = .ok (.invokestatic 76, 3) := by decide +kernel
theorem dX4_go_7 : decode cX4_go 7 = .ok (.ifCond .ne 9, 3) := by decide +kernel
theorem dX4_go_10 : decode cX4_go 10 = .ok (.aload_n 0, 1) := by decide +kernel
theorem dX4_go_11 : decode cX4_go 11 = .ok (.iconst 0, 1) := by decide +kernel
theorem dX4_go_12 : decode cX4_go 12 = .ok (.invokevirtual 56, 3) := by decide +kernel
theorem dX4_go_15 : decode cX4_go 15 = .ok (.ireturn, 1) := by decide +kernel
theorem dX4_go_16 : decode cX4_go 16 = .ok (.aload_n 0, 1) := by decide +kernel
theorem dX4_go_17 : decode cX4_go 17 = .ok (.getfield 10, 3) := by decide +kernel
theorem dX4_go_20 : decode cX4_go 20 = .ok (.getfield 122, 3) := by decide +kernel
theorem dX4_go_23 : decode cX4_go 23 = .ok (.iload_n 1, 1) := by decide +kernel
theorem dX4_go_24 : decode cX4_go 24 = .ok (.iadd, 1) := by decide +kernel
theorem dX4_go_25 : decode cX4_go 25 = .ok (.ldc 125, 2) := by decide +kernel
theorem dX4_go_27 : decode cX4_go 27 = .ok (.if_icmp .le 9, 3) := by decide +kernel
theorem dX4_go_30 : decode cX4_go 30 = .ok (.aload_n 0, 1) := by decide +kernel
theorem dX4_go_31 : decode cX4_go 31 = .ok (.iconst 4, 1) := by decide +kernel
theorem dX4_go_32 : decode cX4_go 32 = .ok (.invokevirtual 56, 3) := by decide +kernel
theorem dX4_go_35 : decode cX4_go 35 = .ok (.ireturn, 1) := by decide +kernel
theorem dX4_go_36 : decode cX4_go 36 = .ok (.aload_n 0, 1) := by decide +kernel
theorem dX4_go_37 : decode cX4_go 37 = .ok (.getfield 10, 3) := by decide +kernel
theorem dX4_go_40 : decode cX4_go 40 = .ok (.iload_n 1, 1) := by decide +kernel
theorem dX4_go_41 : decode cX4_go 41 = .ok (.invokevirtual 126, 3) := by decide +kernel
theorem dX4_go_44 : decode cX4_go 44 = .ok (.ireturn, 1) := by decide +kernel
theorem dX4_goesAsTold_0 : decode cX4_goesAsTold 0 = .ok (.iconst 0, 1) := by decide +kernel
theorem dX4_goesAsTold_1 : decode cX4_goesAsTold 1 = .ok (.istore_n 2, 1) := by decide +kernel
theorem dX4_goesAsTold_2 : decode cX4_goesAsTold 2 = .ok (.iload_n 2, 1) := by decide +kernel
theorem dX4_goesAsTold_3 : decode cX4_goesAsTold 3 = .ok (.aload_n 1, 1) := by decide +kernel
theorem dX4_goesAsTold_4 : decode cX4_goesAsTold 4 = .ok (.getfield 224, 3) := by decide +kernel
theorem dX4_goesAsTold_7 : decode cX4_goesAsTold 7 = .ok (.if_icmp .ge 48, 3) := by decide +kernel
theorem dX4_goesAsTold_10 : decode cX4_goesAsTold 10 = .ok (.iload_n 2, 1) := by decide +kernel
theorem dX4_goesAsTold_11 : decode cX4_goesAsTold 11 = .ok (.ifCond .le 10, 3) := by decide +kernel
theorem dX4_goesAsTold_14 : decode cX4_goesAsTold 14 = .ok (.aload_n 0, 1) := by decide +kernel
theorem dX4_goesAsTold_15 : decode cX4_goesAsTold 15 = .ok (.getfield 16, 3) := by decide +kernel
theorem dX4_goesAsTold_18 : decode cX4_goesAsTold 18 = .ok (.invokevirtual 156, 3) := by decide +kernel
theorem dX4_goesAsTold_21 : decode cX4_goesAsTold 21 = .ok (.aload_n 1, 1) := by decide +kernel
theorem dX4_goesAsTold_22 : decode cX4_goesAsTold 22 = .ok (.getfield 237, 3) := by decide +kernel
theorem dX4_goesAsTold_25 : decode cX4_goesAsTold 25 = .ok (.iload_n 2, 1) := by decide +kernel
theorem dX4_goesAsTold_26 : decode cX4_goesAsTold 26 = .ok (.iaload, 1) := by decide +kernel
theorem dX4_goesAsTold_27 : decode cX4_goesAsTold 27 = .ok (.iconst (-1), 1) := by decide +kernel
theorem dX4_goesAsTold_28 : decode cX4_goesAsTold 28 = .ok (.if_icmp .eq 21, 3) := by decide +kernel
theorem dX4_goesAsTold_31 : decode cX4_goesAsTold 31 = .ok (.aload_n 1, 1) := by decide +kernel
theorem dX4_goesAsTold_32 : decode cX4_goesAsTold 32 = .ok (.getfield 237, 3) := by decide +kernel
theorem dX4_goesAsTold_35 : decode cX4_goesAsTold 35 = .ok (.iload_n 2, 1) := by decide +kernel
theorem dX4_goesAsTold_36 : decode cX4_goesAsTold 36 = .ok (.iaload, 1) := by decide +kernel
theorem dX4_goesAsTold_37 : decode cX4_goesAsTold 37 = .ok (.aload_n 0, 1) := by decide +kernel
theorem dX4_goesAsTold_38 : decode cX4_goesAsTold 38 = .ok (.getfield 16, 3) := by decide +kernel
theorem dX4_goesAsTold_41 : decode cX4_goesAsTold 41 = .ok (.getfield 129, 3) := by decide +kernel
theorem dX4_goesAsTold_44 : decode cX4_goesAsTold 44 = .ok (.if_icmp .eq 5, 3) := by decide +kernel
theorem dX4_goesAsTold_47 : decode cX4_goesAsTold 47 = .ok (.iconst 0, 1) := by decide +kernel
theorem dX4_goesAsTold_48 : decode cX4_goesAsTold 48 = .ok (.ireturn, 1) := by decide +kernel
theorem dX4_goesAsTold_49 : decode cX4_goesAsTold 49 = .ok (.iinc 2 1, 3) := by decide +kernel
theorem dX4_goesAsTold_52 : decode cX4_goesAsTold 52 = .ok (.goto (-50), 3) := by decide +kernel
theorem dX4_goesAsTold_55 : decode cX4_goesAsTold 55 = .ok (.iconst 1, 1) := by decide +kernel
theorem dX4_goesAsTold_56 : decode cX4_goesAsTold 56 = .ok (.ireturn, 1) := by decide +kernel
theorem dX4_hold_0 : decode cX4_hold 0 = .ok (.iload_n 1, 1) := by decide +kernel
theorem dX4_hold_1 : decode cX4_hold 1 = .ok (.iconst 0, 1) := by decide +kernel
theorem dX4_hold_2 : decode cX4_hold 2 = .ok (.bipush 9, 2) := by decide +kernel
theorem dX4_hold_4 : decode cX4_hold 4 = .ok (.invokestatic 76, 3) := by decide +kernel
theorem dX4_hold_7 : decode cX4_hold 7 = .ok (.ifCond .eq 11, 3) := by decide +kernel
theorem dX4_hold_10 : decode cX4_hold 10 = .ok (.aload_n 0, 1) := by decide +kernel
theorem dX4_hold_11 : decode cX4_hold 11 = .ok (.iload_n 2, 1) := by decide +kernel
theorem dX4_hold_12 : decode cX4_hold 12 = .ok (.invokevirtual 53, 3) := by decide +kernel
theorem dX4_hold_15 : decode cX4_hold 15 = .ok (.ifCond .ne 9, 3) := by decide +kernel
theorem dX4_hold_18 : decode cX4_hold 18 = .ok (.aload_n 0, 1) := by decide +kernel
theorem dX4_hold_19 : decode cX4_hold 19 = .ok (.iconst 0, 1) := by decide +kernel
theorem dX4_hold_20 : decode cX4_hold 20 = .ok (.invokevirtual 56, 3) := by decide +kernel
theorem dX4_hold_23 : decode cX4_hold 23 = .ok (.ireturn, 1) := by decide +kernel
theorem dX4_hold_24 : decode cX4_hold 24 = .ok (.aload_n 0, 1) := by decide +kernel
theorem dX4_hold_25 : decode cX4_hold 25 = .ok (.getfield 10, 3) := by decide +kernel
theorem dX4_hold_28 : decode cX4_hold 28 = .ok (.getfield 211, 3) := by decide +kernel
theorem dX4_hold_31 : decode cX4_hold 31 = .ok (.iload_n 1, 1) := by decide +kernel
theorem dX4_hold_32 : decode cX4_hold 32 = .ok (.iload_n 2, 1) := by decide +kernel
theorem dX4_hold_33 : decode cX4_hold 33 = .ok (.iastore, 1) := by decide +kernel
theorem dX4_hold_34 : decode cX4_hold 34 = .ok (.iconst 1, 1) := by decide +kernel
theorem dX4_hold_35 : decode cX4_hold 35 = .ok (.ireturn, 1) := by decide +kernel
theorem dX4_image_0 : decode cX4_image 0 = .ok (.aload_n 0, 1) := by decide +kernel
theorem dX4_image_1 : decode cX4_image 1 = .ok (.getfield 19, 3) := by decide +kernel
theorem dX4_image_4 : decode cX4_image 4 = .ok (.aload_n 0, 1) := by decide +kernel
theorem dX4_image_5 : decode cX4_image 5 = .ok (.getfield 10, 3) := by decide +kernel
theorem dX4_image_8 : decode cX4_image 8 = .ok (.invokevirtual 152, 3) := by decide +kernel
theorem dX4_image_11 : decode cX4_image 11 = .ok (.aload_n 0, 1) := by decide +kernel
theorem dX4_image_12 : decode cX4_image 12 = .ok (.iconst 1, 1) := by decide +kernel
theorem dX4_image_13 : decode cX4_image 13 = .ok (.putfield 22, 3) := by decide +kernel
theorem dX4_image_16 : decode cX4_image 16 = .ok (.iconst 1, 1) := by decide +kernel
theorem dX4_image_17 : decode cX4_image 17 = .ok (.ireturn, 1) := by decide +kernel
theorem dX4_isJumper_0 : decode cX4_isJumper 0 = .ok (.iload_n 1, 1) := by decide +kernel
theorem dX4_isJumper_1 : decode cX4_isJumper 1 = .ok (.iconst 0, 1) := by decide +kernel
theorem dX4_isJumper_2 : decode cX4_isJumper 2 = .ok (.aload_n 0, 1) := by decide +kernel
theorem dX4_isJumper_3 : decode cX4_isJumper 3 = .ok (.getfield 10, 3) := by decide +kernel
theorem dX4_isJumper_6 : decode cX4_isJumper 6 = .ok (.getfield 93, 3) := by decide +kernel
theorem dX4_isJumper_9 : decode cX4_isJumper 9 = .ok (.iconst 1, 1) := by decide +kernel
theorem dX4_isJumper_10 : decode cX4_isJumper 10 = .ok (.isub, 1) := by decide +kernel
theorem dX4_isJumper_11 : decode cX4_isJumper 11 = .ok (.invokestatic 76, 3) := by decide +kernel
theorem dX4_isJumper_14 : decode cX4_isJumper 14 = .ok (.ireturn, 1) := by decide +kernel
theorem dX4_isJumperOrNobody_0 : decode cX4_isJumperOrNobody 0 = .ok (.iload_n 1, 1) := by decide +kernel
theorem dX4_isJumperOrNobody_1 : decode cX4_isJumperOrNobody 1 = .ok (.iconst (-1), 1) := by decide +kernel
theorem dX4_isJumperOrNobody_2 : decode cX4_isJumperOrNobody 2 = .ok (.if_icmp .eq 11, 3) := by decide +kernel
theorem dX4_isJumperOrNobody_5 : decode cX4_isJumperOrNobody 5 = .ok (.aload_n 0, 1) := by decide +kernel
theorem dX4_isJumperOrNobody_6 : decode cX4_isJumperOrNobody 6 = .ok (.iload_n 1, 1) := by decide +kernel
theorem dX4_isJumperOrNobody_7 : decode cX4_isJumperOrNobody 7 = .ok (.invokevirtual 100, 3) := by decide +kernel
theorem dX4_isJumperOrNobody_10 : decode cX4_isJumperOrNobody 10 = .ok (.ifCond .eq 7, 3) := by decide +kernel
theorem dX4_isJumperOrNobody_13 : decode cX4_isJumperOrNobody 13 = .ok (.iconst 1, 1) := by decide +kernel
theorem dX4_isJumperOrNobody_14 : decode cX4_isJumperOrNobody 14 = .ok (.goto 4, 3) := by decide +kernel
theorem dX4_isJumperOrNobody_17 : decode cX4_isJumperOrNobody 17 = .ok (.iconst 0, 1) := by decide +kernel
theorem dX4_isJumperOrNobody_18 : decode cX4_isJumperOrNobody 18 = .ok (.ireturn, 1) := by decide +kernel
theorem dX4_isKindOf_0 : decode cX4_isKindOf 0 = .ok (.iload_n 0, 1) := by decide +kernel
theorem dX4_isKindOf_1 : decode cX4_isKindOf 1 = .ok (.istore_n 2, 1) := by decide +kernel
theorem dX4_isKindOf_2 : decode cX4_isKindOf 2 = .ok (.iconst 0, 1) := by decide +kernel
theorem dX4_isKindOf_3 : decode cX4_isKindOf 3 = .ok (.istore_n 3, 1) := by decide +kernel
theorem dX4_isKindOf_4 : decode cX4_isKindOf 4 = .ok (.iload_n 3, 1) := by decide +kernel
theorem dX4_isKindOf_5 : decode cX4_isKindOf 5 = .ok (.bipush 7, 2) := by decide +kernel
theorem dX4_isKindOf_7 : decode cX4_isKindOf 7 = .ok (.if_icmp .ge 26, 3) := by decide +kernel
theorem dX4_isKindOf_10 : decode cX4_isKindOf 10 = .ok (.iload_n 2, 1) := by decide +kernel
theorem dX4_isKindOf_11 : decode cX4_isKindOf 11 = .ok (.ifCond .lt 22, 3) := by decide +kernel
theorem dX4_isKindOf_14 : decode cX4_isKindOf 14 = .ok (.iload_n 2, 1) := by decide +kernel
theorem dX4_isKindOf_15 : decode cX4_isKindOf 15 = .ok (.iload_n 1, 1) := by decide +kernel
theorem dX4_isKindOf_16 : decode cX4_isKindOf 16 = .ok (.if_icmp .ne 5, 3) := by decide +kernel
theorem dX4_isKindOf_19 : decode cX4_isKindOf 19 = .ok (.iconst 1, 1) := by decide +kernel
theorem dX4_isKindOf_20 : decode cX4_isKindOf 20 = .ok (.ireturn, 1) := by decide +kernel
theorem dX4_isKindOf_21 : decode cX4_isKindOf 21 = .ok (.getstatic 255, 3) := by decide +kernel
theorem dX4_isKindOf_24 : decode cX4_isKindOf 24 = .ok (.iload_n 2, 1) := by decide +kernel
theorem dX4_isKindOf_25 : decode cX4_isKindOf 25 = .ok (.iaload, 1) := by decide +kernel
theorem dX4_isKindOf_26 : decode cX4_isKindOf 26 = .ok (.istore_n 2, 1) := by decide +kernel
theorem dX4_isKindOf_27 : decode cX4_isKindOf 27 = .ok (.iinc 3 1, 3) := by decide +kernel
theorem dX4_isKindOf_30 : decode cX4_isKindOf 30 = .ok (.goto (-26), 3) := by decide +kernel
theorem dX4_isKindOf_33 : decode cX4_isKindOf 33 = .ok (.iconst 0, 1) := by decide +kernel
theorem dX4_isKindOf_34 : decode cX4_isKindOf 34 = .ok (.ireturn, 1) := by decide +kernel
theorem dX4_isPlace_0 : decode cX4_isPlace 0 = .ok (.iload_n 0, 1) := by decide +kernel
theorem dX4_isPlace_1 : decode cX4_isPlace 1 = .ok (.iconst 0, 1) := by decide +kernel
theorem dX4_isPlace_2 : decode cX4_isPlace 2 = .ok (.bipush 6, 2) := by decide +kernel
theorem dX4_isPlace_4 : decode cX4_isPlace 4 = .ok (.invokestatic 76, 3) := by decide +kernel
theorem dX4_isPlace_7 : decode cX4_isPlace 7 = .ok (.ireturn, 1) := by decide +kernel
theorem dX4_isSheet_0 : decode cX4_isSheet 0 = .ok (.iload_n 0, 1) := by decide +kernel
theorem dX4_isSheet_1 : decode cX4_isSheet 1 = .ok (.iconst 0, 1) := by decide +kernel
theorem dX4_isSheet_2 : decode cX4_isSheet 2 = .ok (.iconst 3, 1) := by decide +kernel
theorem dX4_isSheet_3 : decode cX4_isSheet 3 = .ok (.invokestatic 76, 3) := by decide +kernel
theorem dX4_isSheet_6 : decode cX4_isSheet 6 = .ok (.ireturn, 1) := by decide +kernel
theorem dX4_judge_0 : decode cX4_judge 0 = .ok (.aload_n 0, 1) := by decide +kernel
theorem dX4_judge_1 : decode cX4_judge 1 = .ok (.iload_n 1, 1) := by decide +kernel
theorem dX4_judge_2 : decode cX4_judge 2 = .ok (.invokevirtual 175, 3) := by decide +kernel
theorem dX4_judge_5 : decode cX4_judge 5 = .ok (.istore_n 2, 1) := by decide +kernel
theorem dX4_judge_6 : decode cX4_judge 6 = .ok (.iload_n 2, 1) := by decide +kernel
theorem dX4_judge_7 : decode cX4_judge 7 = .ok (.iconst (-1), 1) := by decide +kernel
theorem dX4_judge_8 : decode cX4_judge 8 = .ok (.if_icmp .eq 9, 3) := by decide +kernel
theorem dX4_judge_11 : decode cX4_judge 11 = .ok (.aload_n 0, 1) := by decide +kernel
theorem dX4_judge_12 : decode cX4_judge 12 = .ok (.iload_n 2, 1) := by decide +kernel
theorem dX4_judge_13 : decode cX4_judge 13 = .ok (.invokevirtual 56, 3) := by decide +kernel
theorem dX4_judge_16 : decode cX4_judge 16 = .ok (.ireturn, 1) := by decide +kernel
theorem dX4_judge_17 : decode cX4_judge 17 = .ok (.iconst 0, 1) := by decide +kernel
theorem dX4_judge_18 : decode cX4_judge 18 = .ok (.istore_n 3, 1) := by decide +kernel
theorem dX4_judge_19 : decode cX4_judge 19 = .ok (.iload_n 3, 1) := by decide +kernel
theorem dX4_judge_20 : decode cX4_judge 20 = .ok (.aload_n 0, 1) := by decide +kernel
theorem dX4_judge_21 : decode cX4_judge 21 = .ok (.getfield 40, 3) := by decide +kernel
theorem dX4_judge_24 : decode cX4_judge 24 = .ok (.iload_n 1, 1) := by decide +kernel
theorem dX4_judge_25 : decode cX4_judge 25 = .ok (.aaload, 1) := by decide +kernel
theorem dX4_judge_26 : decode cX4_judge 26 = .ok (.getfield 224, 3) := by decide +kernel
theorem dX4_judge_29 : decode cX4_judge 29 = .ok (.if_icmp .ge 44, 3) := by decide +kernel
theorem dX4_judge_32 : decode cX4_judge 32 = .ok (.aload_n 0, 1) := by decide +kernel
theorem dX4_judge_33 : decode cX4_judge 33 = .ok (.iload_n 3, 1) := by decide +kernel
theorem dX4_judge_34 : decode cX4_judge 34 = .ok (.invokevirtual 100, 3) := by decide +kernel
theorem dX4_judge_37 : decode cX4_judge 37 = .ok (.ifCond .eq 26, 3) := by decide +kernel
theorem dX4_judge_40 : decode cX4_judge 40 = .ok (.aload_n 0, 1) := by decide +kernel
theorem dX4_judge_41 : decode cX4_judge 41 = .ok (.getfield 10, 3) := by decide +kernel
theorem dX4_judge_44 : decode cX4_judge 44 = .ok (.getfield 132, 3) := by decide +kernel
theorem dX4_judge_47 : decode cX4_judge 47 = .ok (.iload_n 3, 1) := by decide +kernel
theorem dX4_judge_48 : decode cX4_judge 48 = .ok (.iaload, 1) := by decide +kernel
theorem dX4_judge_49 : decode cX4_judge 49 = .ok (.aload_n 0, 1) := by decide +kernel
theorem dX4_judge_50 : decode cX4_judge 50 = .ok (.getfield 40, 3) := by decide +kernel
theorem dX4_judge_53 : decode cX4_judge 53 = .ok (.iload_n 1, 1) := by decide +kernel
theorem dX4_judge_54 : decode cX4_judge 54 = .ok (.aaload, 1) := by decide +kernel
theorem dX4_judge_55 : decode cX4_judge 55 = .ok (.getfield 237, 3) := by decide +kernel
theorem dX4_judge_58 : decode cX4_judge 58 = .ok (.iload_n 3, 1) := by decide +kernel
theorem dX4_judge_59 : decode cX4_judge 59 = .ok (.iaload, 1) := by decide +kernel
theorem dX4_judge_60 : decode cX4_judge 60 = .ok (.if_icmp .eq 7, 3) := by decide +kernel
theorem dX4_judge_63 : decode cX4_judge 63 = .ok (.iconst 1, 1) := by decide +kernel
theorem dX4_judge_64 : decode cX4_judge 64 = .ok (.iload_n 3, 1) := by decide +kernel
theorem dX4_judge_65 : decode cX4_judge 65 = .ok (.iadd, 1) := by decide +kernel
theorem dX4_judge_66 : decode cX4_judge 66 = .ok (.ireturn, 1) := by decide +kernel
theorem dX4_judge_67 : decode cX4_judge 67 = .ok (.iinc 3 1, 3) := by decide +kernel
theorem dX4_judge_70 : decode cX4_judge 70 = .ok (.goto (-51), 3) := by decide +kernel
theorem dX4_judge_73 : decode cX4_judge 73 = .ok (.iconst 0, 1) := by decide +kernel
theorem dX4_judge_74 : decode cX4_judge 74 = .ok (.ireturn, 1) := by decide +kernel
theorem dX4_jumper_0 : decode cX4_jumper 0 = .ok (.iload_n 1, 1) := by decide +kernel
theorem dX4_jumper_1 : decode cX4_jumper 1 = .ok (.iconst 0, 1) := by decide +kernel
theorem dX4_jumper_2 : decode cX4_jumper 2 = .ok (.bipush 6, 2) := by decide +kernel
theorem dX4_jumper_4 : decode cX4_jumper 4 = .ok (.invokestatic 76, 3) := by decide +kernel
theorem dX4_jumper_7 : decode cX4_jumper 7 = .ok (.ifCond .eq 13, 3) := by decide +kernel
theorem dX4_jumper_10 : decode cX4_jumper 10 = .ok (.iload_n 2, 1) := by decide +kernel
theorem dX4_jumper_11 : decode cX4_jumper 11 = .ok (.iconst 0, 1) := by decide +kernel
theorem dX4_jumper_12 : decode cX4_jumper 12 = .ok (.bipush 99, 2) := by decide +kernel
theorem dX4_jumper_14 : decode cX4_jumper 14 = .ok (.invokestatic 76, 3) := by decide +kernel
theorem dX4_jumper_17 : decode cX4_jumper 17 = .ok (.ifCond .ne 9, 3) := by decide +kernel
theorem dX4_jumper_20 : decode cX4_jumper 20 = .ok (.aload_n 0, 1) := by decide +kernel
theorem dX4_jumper_21 : decode cX4_jumper 21 = .ok (.iconst 0, 1) := by decide +kernel
theorem dX4_jumper_22 : decode cX4_jumper 22 = .ok (.invokevirtual 56, 3) := by decide +kernel
theorem dX4_jumper_25 : decode cX4_jumper 25 = .ok (.ireturn, 1) := by decide +kernel
theorem dX4_jumper_26 : decode cX4_jumper 26 = .ok (.aload_n 0, 1) := by decide +kernel
theorem dX4_jumper_27 : decode cX4_jumper 27 = .ok (.getfield 10, 3) := by decide +kernel
theorem dX4_jumper_30 : decode cX4_jumper 30 = .ok (.getfield 93, 3) := by decide +kernel
theorem dX4_jumper_33 : decode cX4_jumper 33 = .ok (.bipush 8, 2) := by decide +kernel
theorem dX4_jumper_35 : decode cX4_jumper 35 = .ok (.if_icmp .lt 9, 3) := by decide +kernel
theorem dX4_jumper_38 : decode cX4_jumper 38 = .ok (.aload_n 0, 1) := by decide +kernel
theorem dX4_jumper_39 : decode cX4_jumper 39 = .ok (.iconst 1, 1) := by decide +kernel
theorem dX4_jumper_40 : decode cX4_jumper 40 = .ok (.invokevirtual 56, 3) := by decide +kernel
theorem dX4_jumper_43 : decode cX4_jumper 43 = .ok (.ireturn, 1) := by decide +kernel
theorem dX4_jumper_44 : decode cX4_jumper 44 = .ok (.aload_n 0, 1) := by decide +kernel
theorem dX4_jumper_45 : decode cX4_jumper 45 = .ok (.getfield 10, 3) := by decide +kernel
theorem dX4_jumper_48 : decode cX4_jumper 48 = .ok (.iload_n 1, 1) := by decide +kernel
theorem dX4_jumper_49 : decode cX4_jumper 49 = .ok (.iload_n 2, 1) := by decide +kernel
theorem dX4_jumper_50 : decode cX4_jumper 50 = .ok (.invokevirtual 97, 3) := by decide +kernel
theorem dX4_jumper_53 : decode cX4_jumper 53 = .ok (.ireturn, 1) := by decide +kernel
theorem dX4_kindFor_0 : decode cX4_kindFor 0 = .ok (.aload_n 0, 1) := by decide +kernel
theorem dX4_kindFor_1 : decode cX4_kindFor 1 = .ok (.iload_n 1, 1) := by decide +kernel
theorem dX4_kindFor_2 : decode cX4_kindFor 2 = .ok (.invokevirtual 100, 3) := by decide +kernel
theorem dX4_kindFor_5 : decode cX4_kindFor 5 = .ok (.ifCond .eq 13, 3) := by decide +kernel
theorem dX4_kindFor_8 : decode cX4_kindFor 8 = .ok (.iload_n 2, 1) := by decide +kernel
theorem dX4_kindFor_9 : decode cX4_kindFor 9 = .ok (.iconst 0, 1) := by decide +kernel
theorem dX4_kindFor_10 : decode cX4_kindFor 10 = .ok (.bipush 40, 2) := by decide +kernel
theorem dX4_kindFor_12 : decode cX4_kindFor 12 = .ok (.invokestatic 76, 3) := by decide +kernel
theorem dX4_kindFor_15 : decode cX4_kindFor 15 = .ok (.ifCond .ne 9, 3) := by decide +kernel
theorem dX4_kindFor_18 : decode cX4_kindFor 18 = .ok (.aload_n 0, 1) := by decide +kernel
theorem dX4_kindFor_19 : decode cX4_kindFor 19 = .ok (.iconst 0, 1) := by decide +kernel
theorem dX4_kindFor_20 : decode cX4_kindFor 20 = .ok (.invokevirtual 56, 3) := by decide +kernel
theorem dX4_kindFor_23 : decode cX4_kindFor 23 = .ok (.ireturn, 1) := by decide +kernel
theorem dX4_kindFor_24 : decode cX4_kindFor 24 = .ok (.iconst 0, 1) := by decide +kernel
theorem dX4_kindFor_25 : decode cX4_kindFor 25 = .ok (.istore_n 3, 1) := by decide +kernel
theorem dX4_kindFor_26 : decode cX4_kindFor 26 = .ok (.iconst (-1), 1) := by decide +kernel
theorem dX4_kindFor_27 : decode cX4_kindFor 27 = .ok (.istore 4, 2) := by decide +kernel
theorem dX4_kindFor_29 : decode cX4_kindFor 29 = .ok (.iconst 0, 1) := by decide +kernel
theorem dX4_kindFor_30 : decode cX4_kindFor 30 = .ok (.istore 5, 2) := by decide +kernel
theorem dX4_kindFor_32 : decode cX4_kindFor 32 = .ok (.iload 5, 2) := by decide +kernel
theorem dX4_kindFor_34 : decode cX4_kindFor 34 = .ok (.bipush 7, 2) := by decide +kernel
theorem dX4_kindFor_36 : decode cX4_kindFor 36 = .ok (.if_icmp .ge 68, 3) := by decide +kernel
theorem dX4_kindFor_39 : decode cX4_kindFor 39 = .ok (.aload_n 0, 1) := by decide +kernel
theorem dX4_kindFor_40 : decode cX4_kindFor 40 = .ok (.getfield 16, 3) := by decide +kernel
theorem dX4_kindFor_43 : decode cX4_kindFor 43 = .ok (.aload_n 0, 1) := by decide +kernel
theorem dX4_kindFor_44 : decode cX4_kindFor 44 = .ok (.getfield 10, 3) := by decide +kernel
theorem dX4_kindFor_47 : decode cX4_kindFor 47 = .ok (.invokevirtual 152, 3) := by decide +kernel
theorem dX4_kindFor_50 : decode cX4_kindFor 50 = .ok (.aload_n 0, 1) := by decide +kernel
theorem dX4_kindFor_51 : decode cX4_kindFor 51 = .ok (.getfield 16, 3) := by decide +kernel
theorem dX4_kindFor_54 : decode cX4_kindFor 54 = .ok (.getfield 169, 3) := by decide +kernel
theorem dX4_kindFor_57 : decode cX4_kindFor 57 = .ok (.iload_n 1, 1) := by decide +kernel
theorem dX4_kindFor_58 : decode cX4_kindFor 58 = .ok (.iload 5, 2) := by decide +kernel
theorem dX4_kindFor_60 : decode cX4_kindFor 60 = .ok (.iastore, 1) := by decide +kernel
theorem dX4_kindFor_61 : decode cX4_kindFor 61 = .ok (.aload_n 0, 1) := by decide +kernel
theorem dX4_kindFor_62 : decode cX4_kindFor 62 = .ok (.getfield 16, 3) := by decide +kernel
theorem dX4_kindFor_65 : decode cX4_kindFor 65 = .ok (.iload_n 2, 1) := by decide +kernel
theorem dX4_kindFor_66 : decode cX4_kindFor 66 = .ok (.invokevirtual 126, 3) := by decide +kernel
theorem dX4_kindFor_69 : decode cX4_kindFor 69 = .ok (.pop, 1) := by decide +kernel
theorem dX4_kindFor_70 : decode cX4_kindFor 70 = .ok (.aload_n 0, 1) := by decide +kernel
theorem dX4_kindFor_71 : decode cX4_kindFor 71 = .ok (.getfield 16, 3) := by decide +kernel
theorem dX4_kindFor_74 : decode cX4_kindFor 74 = .ok (.getfield 132, 3) := by decide +kernel
theorem dX4_kindFor_77 : decode cX4_kindFor 77 = .ok (.iload_n 1, 1) := by decide +kernel
theorem dX4_kindFor_78 : decode cX4_kindFor 78 = .ok (.iaload, 1) := by decide +kernel
theorem dX4_kindFor_79 : decode cX4_kindFor 79 = .ok (.iload 4, 2) := by decide +kernel
theorem dX4_kindFor_81 : decode cX4_kindFor 81 = .ok (.if_icmp .le 17, 3) := by decide +kernel
theorem dX4_kindFor_84 : decode cX4_kindFor 84 = .ok (.aload_n 0, 1) := by decide +kernel
theorem dX4_kindFor_85 : decode cX4_kindFor 85 = .ok (.getfield 16, 3) := by decide +kernel
theorem dX4_kindFor_88 : decode cX4_kindFor 88 = .ok (.getfield 132, 3) := by decide +kernel
theorem dX4_kindFor_91 : decode cX4_kindFor 91 = .ok (.iload_n 1, 1) := by decide +kernel
theorem dX4_kindFor_92 : decode cX4_kindFor 92 = .ok (.iaload, 1) := by decide +kernel
theorem dX4_kindFor_93 : decode cX4_kindFor 93 = .ok (.istore 4, 2) := by decide +kernel
theorem dX4_kindFor_95 : decode cX4_kindFor 95 = .ok (.iload 5, 2) := by decide +kernel
theorem dX4_kindFor_97 : decode cX4_kindFor 97 = .ok (.istore_n 3, 1) := by decide +kernel
theorem dX4_kindFor_98 : decode cX4_kindFor 98 = .ok (.iinc 5 1, 3) := by decide +kernel
theorem dX4_kindFor_101 : decode cX4_kindFor 101 = .ok (.goto (-69), 3) := by decide +kernel
theorem dX4_kindFor_104 : decode cX4_kindFor 104 = .ok (.iload_n 3, 1) := by decide +kernel
theorem dX4_kindFor_105 : decode cX4_kindFor 105 = .ok (.ireturn, 1) := by decide +kernel
theorem dX4_kinds_0 : decode cX4_kinds 0 = .ok (.aload_n 0, 1) := by decide +kernel
theorem dX4_kinds_1 : decode cX4_kinds 1 = .ok (.iload_n 1, 1) := by decide +kernel
theorem dX4_kinds_2 : decode cX4_kinds 2 = .ok (.invokevirtual 175, 3) := by decide +kernel
theorem dX4_kinds_5 : decode cX4_kinds 5 = .ok (.istore_n 3, 1) := by decide +kernel
theorem dX4_kinds_6 : decode cX4_kinds 6 = .ok (.iload_n 3, 1) := by decide +kernel
theorem dX4_kinds_7 : decode cX4_kinds 7 = .ok (.iconst (-1), 1) := by decide +kernel
theorem dX4_kinds_8 : decode cX4_kinds 8 = .ok (.if_icmp .eq 9, 3) := by decide +kernel
theorem dX4_kinds_11 : decode cX4_kinds 11 = .ok (.aload_n 0, 1) := by decide +kernel
theorem dX4_kinds_12 : decode cX4_kinds 12 = .ok (.iload_n 3, 1) := by decide +kernel
theorem dX4_kinds_13 : decode cX4_kinds 13 = .ok (.invokevirtual 56, 3) := by decide +kernel
theorem dX4_kinds_16 : decode cX4_kinds 16 = .ok (.ireturn, 1) := by decide +kernel
theorem dX4_kinds_17 : decode cX4_kinds 17 = .ok (.aload_n 0, 1) := by decide +kernel
theorem dX4_kinds_18 : decode cX4_kinds 18 = .ok (.iload_n 2, 1) := by decide +kernel
theorem dX4_kinds_19 : decode cX4_kinds 19 = .ok (.invokevirtual 100, 3) := by decide +kernel
theorem dX4_kinds_22 : decode cX4_kinds 22 = .ok (.ifCond .ne 9, 3) := by decide +kernel
theorem dX4_kinds_25 : decode cX4_kinds 25 = .ok (.aload_n 0, 1) := by decide +kernel
theorem dX4_kinds_26 : decode cX4_kinds 26 = .ok (.iconst 0, 1) := by decide +kernel
theorem dX4_kinds_27 : decode cX4_kinds 27 = .ok (.invokevirtual 56, 3) := by decide +kernel
theorem dX4_kinds_30 : decode cX4_kinds 30 = .ok (.ireturn, 1) := by decide +kernel
theorem dX4_kinds_31 : decode cX4_kinds 31 = .ok (.iconst 0, 1) := by decide +kernel
theorem dX4_kinds_32 : decode cX4_kinds 32 = .ok (.istore 4, 2) := by decide +kernel
theorem dX4_kinds_34 : decode cX4_kinds 34 = .ok (.iconst 0, 1) := by decide +kernel
theorem dX4_kinds_35 : decode cX4_kinds 35 = .ok (.istore 5, 2) := by decide +kernel
theorem dX4_kinds_37 : decode cX4_kinds 37 = .ok (.iload 5, 2) := by decide +kernel
theorem dX4_kinds_39 : decode cX4_kinds 39 = .ok (.bipush 7, 2) := by decide +kernel
theorem dX4_kinds_41 : decode cX4_kinds 41 = .ok (.if_icmp .ge 53, 3) := by decide +kernel
theorem dX4_kinds_44 : decode cX4_kinds 44 = .ok (.aload_n 0, 1) := by decide +kernel
theorem dX4_kinds_45 : decode cX4_kinds 45 = .ok (.getfield 16, 3) := by decide +kernel
theorem dX4_kinds_48 : decode cX4_kinds 48 = .ok (.aload_n 0, 1) := by decide +kernel
theorem dX4_kinds_49 : decode cX4_kinds 49 = .ok (.getfield 10, 3) := by decide +kernel
theorem dX4_kinds_52 : decode cX4_kinds 52 = .ok (.invokevirtual 152, 3) := by decide +kernel
theorem dX4_kinds_55 : decode cX4_kinds 55 = .ok (.aload_n 0, 1) := by decide +kernel
theorem dX4_kinds_56 : decode cX4_kinds 56 = .ok (.getfield 16, 3) := by decide +kernel
theorem dX4_kinds_59 : decode cX4_kinds 59 = .ok (.getfield 169, 3) := by decide +kernel
theorem dX4_kinds_62 : decode cX4_kinds 62 = .ok (.iload_n 2, 1) := by decide +kernel
theorem dX4_kinds_63 : decode cX4_kinds 63 = .ok (.iload 5, 2) := by decide +kernel
theorem dX4_kinds_65 : decode cX4_kinds 65 = .ok (.iastore, 1) := by decide +kernel
theorem dX4_kinds_66 : decode cX4_kinds 66 = .ok (.aload_n 0, 1) := by decide +kernel
theorem dX4_kinds_67 : decode cX4_kinds 67 = .ok (.aload_n 0, 1) := by decide +kernel
theorem dX4_kinds_68 : decode cX4_kinds 68 = .ok (.getfield 40, 3) := by decide +kernel
theorem dX4_kinds_71 : decode cX4_kinds 71 = .ok (.iload_n 1, 1) := by decide +kernel
theorem dX4_kinds_72 : decode cX4_kinds 72 = .ok (.aaload, 1) := by decide +kernel
theorem dX4_kinds_73 : decode cX4_kinds 73 = .ok (.invokevirtual 178, 3) := by decide +kernel
theorem dX4_kinds_76 : decode cX4_kinds 76 = .ok (.ifCond .eq 12, 3) := by decide +kernel
theorem dX4_kinds_79 : decode cX4_kinds 79 = .ok (.iload 4, 2) := by decide +kernel
theorem dX4_kinds_81 : decode cX4_kinds 81 = .ok (.iconst 1, 1) := by decide +kernel
theorem dX4_kinds_82 : decode cX4_kinds 82 = .ok (.iload 5, 2) := by decide +kernel
theorem dX4_kinds_84 : decode cX4_kinds 84 = .ok (.ishl, 1) := by decide +kernel
theorem dX4_kinds_85 : decode cX4_kinds 85 = .ok (.ior, 1) := by decide +kernel
theorem dX4_kinds_86 : decode cX4_kinds 86 = .ok (.istore 4, 2) := by decide +kernel
theorem dX4_kinds_88 : decode cX4_kinds 88 = .ok (.iinc 5 1, 3) := by decide +kernel
theorem dX4_kinds_91 : decode cX4_kinds 91 = .ok (.goto (-54), 3) := by decide +kernel
theorem dX4_kinds_94 : decode cX4_kinds 94 = .ok (.iload 4, 2) := by decide +kernel
theorem dX4_kinds_96 : decode cX4_kinds 96 = .ok (.ireturn, 1) := by decide +kernel
theorem dX4_known_0 : decode cX4_known 0 = .ok (.aload_n 0, 1) := by decide +kernel
theorem dX4_known_1 : decode cX4_known 1 = .ok (.getfield 16, 3) := by decide +kernel
theorem dX4_known_4 : decode cX4_known 4 = .ok (.aload_n 0, 1) := by decide +kernel
theorem dX4_known_5 : decode cX4_known 5 = .ok (.getfield 10, 3) := by decide +kernel
theorem dX4_known_8 : decode cX4_known 8 = .ok (.invokevirtual 152, 3) := by decide +kernel
theorem dX4_known_11 : decode cX4_known 11 = .ok (.iconst 0, 1) := by decide +kernel
theorem dX4_known_12 : decode cX4_known 12 = .ok (.istore_n 1, 1) := by decide +kernel
theorem dX4_known_13 : decode cX4_known 13 = .ok (.iload_n 1, 1) := by decide +kernel
theorem dX4_known_14 : decode cX4_known 14 = .ok (.bipush 100, 2) := by decide +kernel
theorem dX4_known_16 : decode cX4_known 16 = .ok (.if_icmp .gt 28, 3) := by decide +kernel
theorem dX4_known_19 : decode cX4_known 19 = .ok (.aload_n 0, 1) := by decide +kernel
theorem dX4_known_20 : decode cX4_known 20 = .ok (.getfield 16, 3) := by decide +kernel
theorem dX4_known_23 : decode cX4_known 23 = .ok (.invokevirtual 146, 3) := by decide +kernel
theorem dX4_known_26 : decode cX4_known 26 = .ok (.ifCond .ne 5, 3) := by decide +kernel
theorem dX4_known_29 : decode cX4_known 29 = .ok (.iload_n 1, 1) := by decide +kernel
theorem dX4_known_30 : decode cX4_known 30 = .ok (.ireturn, 1) := by decide +kernel
theorem dX4_known_31 : decode cX4_known 31 = .ok (.aload_n 0, 1) := by decide +kernel
theorem dX4_known_32 : decode cX4_known 32 = .ok (.getfield 16, 3) := by decide +kernel
theorem dX4_known_35 : decode cX4_known 35 = .ok (.invokevirtual 156, 3) := by decide +kernel
theorem dX4_known_38 : decode cX4_known 38 = .ok (.iinc 1 1, 3) := by decide +kernel
theorem dX4_known_41 : decode cX4_known 41 = .ok (.goto (-28), 3) := by decide +kernel
theorem dX4_known_44 : decode cX4_known 44 = .ok (.aload_n 0, 1) := by decide +kernel
theorem dX4_known_45 : decode cX4_known 45 = .ok (.iconst 3, 1) := by decide +kernel
theorem dX4_known_46 : decode cX4_known 46 = .ok (.invokevirtual 56, 3) := by decide +kernel
theorem dX4_known_49 : decode cX4_known 49 = .ok (.ireturn, 1) := by decide +kernel
theorem dX4_lackOf_0 : decode cX4_lackOf 0 = .ok (.iload_n 1, 1) := by decide +kernel
theorem dX4_lackOf_1 : decode cX4_lackOf 1 = .ok (.invokestatic 218, 3) := by decide +kernel
theorem dX4_lackOf_4 : decode cX4_lackOf 4 = .ok (.ifCond .ne 5, 3) := by decide +kernel
theorem dX4_lackOf_7 : decode cX4_lackOf 7 = .ok (.iconst 0, 1) := by decide +kernel
theorem dX4_lackOf_8 : decode cX4_lackOf 8 = .ok (.ireturn, 1) := by decide +kernel
theorem dX4_lackOf_9 : decode cX4_lackOf 9 = .ok (.aload_n 0, 1) := by decide +kernel
theorem dX4_lackOf_10 : decode cX4_lackOf 10 = .ok (.getfield 40, 3) := by decide +kernel
theorem dX4_lackOf_13 : decode cX4_lackOf 13 = .ok (.iload_n 1, 1) := by decide +kernel
theorem dX4_lackOf_14 : decode cX4_lackOf 14 = .ok (.aaload, 1) := by decide +kernel
theorem dX4_lackOf_15 : decode cX4_lackOf 15 = .ok (.invokevirtual 227, 3) := by decide +kernel
theorem dX4_lackOf_18 : decode cX4_lackOf 18 = .ok (.ifCond .eq 7, 3) := by decide +kernel
theorem dX4_lackOf_21 : decode cX4_lackOf 21 = .ok (.iconst 5, 1) := by decide +kernel
theorem dX4_lackOf_22 : decode cX4_lackOf 22 = .ok (.goto 4, 3) := by decide +kernel
theorem dX4_lackOf_25 : decode cX4_lackOf 25 = .ok (.iconst (-1), 1) := by decide +kernel
theorem dX4_lackOf_26 : decode cX4_lackOf 26 = .ok (.ireturn, 1) := by decide +kernel
theorem dX4_listed_0 : decode cX4_listed 0 = .ok (.iload_n 1, 1) := by decide +kernel
theorem dX4_listed_1 : decode cX4_listed 1 = .ok (.iconst 0, 1) := by decide +kernel
theorem dX4_listed_2 : decode cX4_listed 2 = .ok (.iconst 5, 1) := by decide +kernel
theorem dX4_listed_3 : decode cX4_listed 3 = .ok (.invokestatic 76, 3) := by decide +kernel
theorem dX4_listed_6 : decode cX4_listed 6 = .ok (.ifCond .eq 15, 3) := by decide +kernel
theorem dX4_listed_9 : decode cX4_listed 9 = .ok (.aload_n 0, 1) := by decide +kernel
theorem dX4_listed_10 : decode cX4_listed 10 = .ok (.getfield 10, 3) := by decide +kernel
theorem dX4_listed_13 : decode cX4_listed 13 = .ok (.getfield 87, 3) := by decide +kernel
theorem dX4_listed_16 : decode cX4_listed 16 = .ok (.iload_n 1, 1) := by decide +kernel
theorem dX4_listed_17 : decode cX4_listed 17 = .ok (.iaload, 1) := by decide +kernel
theorem dX4_listed_18 : decode cX4_listed 18 = .ok (.goto 8, 3) := by decide +kernel
theorem dX4_listed_21 : decode cX4_listed 21 = .ok (.aload_n 0, 1) := by decide +kernel
theorem dX4_listed_22 : decode cX4_listed 22 = .ok (.iconst 0, 1) := by decide +kernel
theorem dX4_listed_23 : decode cX4_listed 23 = .ok (.invokevirtual 56, 3) := by decide +kernel
theorem dX4_listed_26 : decode cX4_listed 26 = .ok (.ireturn, 1) := by decide +kernel
theorem dX4_load_0 : decode cX4_load 0 = .ok (.aload_n 0, 1) := by decide +kernel
theorem dX4_load_1 : decode cX4_load 1 = .ok (.iload_n 1, 1) := by decide +kernel
theorem dX4_load_2 : decode cX4_load 2 = .ok (.invokevirtual 175, 3) := by decide +kernel
theorem dX4_load_5 : decode cX4_load 5 = .ok (.istore_n 2, 1) := by decide +kernel
theorem dX4_load_6 : decode cX4_load 6 = .ok (.iload_n 2, 1) := by decide +kernel
theorem dX4_load_7 : decode cX4_load 7 = .ok (.iconst (-1), 1) := by decide +kernel
theorem dX4_load_8 : decode cX4_load 8 = .ok (.if_icmp .eq 9, 3) := by decide +kernel
theorem dX4_load_11 : decode cX4_load 11 = .ok (.aload_n 0, 1) := by decide +kernel
theorem dX4_load_12 : decode cX4_load 12 = .ok (.iload_n 2, 1) := by decide +kernel
theorem dX4_load_13 : decode cX4_load 13 = .ok (.invokevirtual 56, 3) := by decide +kernel
theorem dX4_load_16 : decode cX4_load 16 = .ok (.ireturn, 1) := by decide +kernel
theorem dX4_load_17 : decode cX4_load 17 = .ok (.bipush 6, 2) := by decide +kernel
theorem dX4_load_19 : decode cX4_load 19 = .ok (.aload_n 0, 1) := by decide +kernel
theorem dX4_load_20 : decode cX4_load 20 = .ok (.getfield 40, 3) := by decide +kernel
theorem dX4_load_23 : decode cX4_load 23 = .ok (.iload_n 1, 1) := by decide +kernel
theorem dX4_load_24 : decode cX4_load 24 = .ok (.aaload, 1) := by decide +kernel
theorem dX4_load_25 : decode cX4_load 25 = .ok (.getfield 224, 3) := by decide +kernel
theorem dX4_load_28 : decode cX4_load 28 = .ok (.invokestatic 246, 3) := by decide +kernel
theorem dX4_load_31 : decode cX4_load 31 = .ok (.istore_n 3, 1) := by decide +kernel
theorem dX4_load_32 : decode cX4_load 32 = .ok (.iconst 0, 1) := by decide +kernel
theorem dX4_load_33 : decode cX4_load 33 = .ok (.istore 4, 2) := by decide +kernel
theorem dX4_load_35 : decode cX4_load 35 = .ok (.iload 4, 2) := by decide +kernel
theorem dX4_load_37 : decode cX4_load 37 = .ok (.iload_n 3, 1) := by decide +kernel
theorem dX4_load_38 : decode cX4_load 38 = .ok (.if_icmp .ge 50, 3) := by decide +kernel
theorem dX4_load_41 : decode cX4_load 41 = .ok (.aload_n 0, 1) := by decide +kernel
theorem dX4_load_42 : decode cX4_load 42 = .ok (.getfield 40, 3) := by decide +kernel
theorem dX4_load_45 : decode cX4_load 45 = .ok (.iload_n 1, 1) := by decide +kernel
theorem dX4_load_46 : decode cX4_load 46 = .ok (.aaload, 1) := by decide +kernel
theorem dX4_load_47 : decode cX4_load 47 = .ok (.getfield 237, 3) := by decide +kernel
theorem dX4_load_50 : decode cX4_load 50 = .ok (.iload 4, 2) := by decide +kernel
theorem dX4_load_52 : decode cX4_load 52 = .ok (.iaload, 1) := by decide +kernel
theorem dX4_load_53 : decode cX4_load 53 = .ok (.istore 5, 2) := by decide +kernel
theorem dX4_load_55 : decode cX4_load 55 = .ok (.iload 5, 2) := by decide +kernel
theorem dX4_load_57 : decode cX4_load 57 = .ok (.iconst 0, 1) := by decide +kernel
theorem dX4_load_58 : decode cX4_load 58 = .ok (.sipush 999, 3) := by decide +kernel
theorem dX4_load_61 : decode cX4_load 61 = .ok (.invokestatic 76, 3) := by decide +kernel
theorem dX4_load_64 : decode cX4_load 64 = .ok (.ifCond .ne 6, 3) := by decide +kernel
theorem dX4_load_67 : decode cX4_load 67 = .ok (.iload 4, 2) := by decide +kernel
theorem dX4_load_69 : decode cX4_load 69 = .ok (.ireturn, 1) := by decide +kernel
theorem dX4_load_70 : decode cX4_load 70 = .ok (.aload_n 0, 1) := by decide +kernel
theorem dX4_load_71 : decode cX4_load 71 = .ok (.getfield 10, 3) := by decide +kernel
theorem dX4_load_74 : decode cX4_load 74 = .ok (.getfield 87, 3) := by decide +kernel
theorem dX4_load_77 : decode cX4_load 77 = .ok (.iload 4, 2) := by decide +kernel
theorem dX4_load_79 : decode cX4_load 79 = .ok (.iload 5, 2) := by decide +kernel
theorem dX4_load_81 : decode cX4_load 81 = .ok (.iastore, 1) := by decide +kernel
theorem dX4_load_82 : decode cX4_load 82 = .ok (.iinc 4 1, 3) := by decide +kernel
theorem dX4_load_85 : decode cX4_load 85 = .ok (.goto (-50), 3) := by decide +kernel
theorem dX4_load_88 : decode cX4_load 88 = .ok (.iload_n 3, 1) := by decide +kernel
theorem dX4_load_89 : decode cX4_load 89 = .ok (.ireturn, 1) := by decide +kernel
theorem dX4_metres_0 : decode cX4_metres 0 = .ok (.iload_n 1, 1) := by decide +kernel
theorem dX4_metres_1 : decode cX4_metres 1 = .ok (.iconst 0, 1) := by decide +kernel
theorem dX4_metres_2 : decode cX4_metres 2 = .ok (.bipush 100, 2) := by decide +kernel
theorem dX4_metres_4 : decode cX4_metres 4 = .ok (.invokestatic 76, 3) := by decide +kernel
theorem dX4_metres_7 : decode cX4_metres 7 = .ok (.ifCond .ne 9, 3) := by decide +kernel
theorem dX4_metres_10 : decode cX4_metres 10 = .ok (.aload_n 0, 1) := by decide +kernel
theorem dX4_metres_11 : decode cX4_metres 11 = .ok (.iconst 0, 1) := by decide +kernel
theorem dX4_metres_12 : decode cX4_metres 12 = .ok (.invokevirtual 56, 3) := by decide +kernel
theorem dX4_metres_15 : decode cX4_metres 15 = .ok (.ireturn, 1) := by decide +kernel
theorem dX4_metres_16 : decode cX4_metres 16 = .ok (.aload_n 0, 1) := by decide +kernel
theorem dX4_metres_17 : decode cX4_metres 17 = .ok (.getfield 16, 3) := by decide +kernel
theorem dX4_metres_20 : decode cX4_metres 20 = .ok (.aload_n 0, 1) := by decide +kernel
theorem dX4_metres_21 : decode cX4_metres 21 = .ok (.getfield 10, 3) := by decide +kernel
theorem dX4_metres_24 : decode cX4_metres 24 = .ok (.invokevirtual 152, 3) := by decide +kernel
theorem dX4_metres_27 : decode cX4_metres 27 = .ok (.aload_n 0, 1) := by decide +kernel
theorem dX4_metres_28 : decode cX4_metres 28 = .ok (.getfield 16, 3) := by decide +kernel
theorem dX4_metres_31 : decode cX4_metres 31 = .ok (.iload_n 1, 1) := by decide +kernel
theorem dX4_metres_32 : decode cX4_metres 32 = .ok (.invokevirtual 126, 3) := by decide +kernel
theorem dX4_metres_35 : decode cX4_metres 35 = .ok (.ireturn, 1) := by decide +kernel
theorem dX4_mix_0 : decode cX4_mix 0 = .ok (.iload_n 1, 1) := by decide +kernel
theorem dX4_mix_1 : decode cX4_mix 1 = .ok (.iconst 1, 1) := by decide +kernel
theorem dX4_mix_2 : decode cX4_mix 2 = .ok (.bipush 20, 2) := by decide +kernel
theorem dX4_mix_4 : decode cX4_mix 4 = .ok (.invokestatic 76, 3) := by decide +kernel
theorem dX4_mix_7 : decode cX4_mix 7 = .ok (.ifCond .ne 9, 3) := by decide +kernel
theorem dX4_mix_10 : decode cX4_mix 10 = .ok (.aload_n 0, 1) := by decide +kernel
theorem dX4_mix_11 : decode cX4_mix 11 = .ok (.iconst 0, 1) := by decide +kernel
theorem dX4_mix_12 : decode cX4_mix 12 = .ok (.invokevirtual 56, 3) := by decide +kernel
theorem dX4_mix_15 : decode cX4_mix 15 = .ok (.ireturn, 1) := by decide +kernel
theorem dX4_mix_16 : decode cX4_mix 16 = .ok (.aload_n 0, 1) := by decide +kernel
theorem dX4_mix_17 : decode cX4_mix 17 = .ok (.getfield 10, 3) := by decide +kernel
theorem dX4_mix_20 : decode cX4_mix 20 = .ok (.getfield 122, 3) := by decide +kernel
theorem dX4_mix_23 : decode cX4_mix 23 = .ok (.iload_n 1, 1) := by decide +kernel
theorem dX4_mix_24 : decode cX4_mix 24 = .ok (.iadd, 1) := by decide +kernel
theorem dX4_mix_25 : decode cX4_mix 25 = .ok (.ldc 125, 2) := by decide +kernel
theorem dX4_mix_27 : decode cX4_mix 27 = .ok (.if_icmp .le 9, 3) := by decide +kernel
theorem dX4_mix_30 : decode cX4_mix 30 = .ok (.aload_n 0, 1) := by decide +kernel
theorem dX4_mix_31 : decode cX4_mix 31 = .ok (.iconst 4, 1) := by decide +kernel
theorem dX4_mix_32 : decode cX4_mix 32 = .ok (.invokevirtual 56, 3) := by decide +kernel
theorem dX4_mix_35 : decode cX4_mix 35 = .ok (.ireturn, 1) := by decide +kernel
theorem dX4_mix_36 : decode cX4_mix 36 = .ok (.iconst 0, 1) := by decide +kernel
theorem dX4_mix_37 : decode cX4_mix 37 = .ok (.istore_n 2, 1) := by decide +kernel
theorem dX4_mix_38 : decode cX4_mix 38 = .ok (.iload_n 2, 1) := by decide +kernel
theorem dX4_mix_39 : decode cX4_mix 39 = .ok (.iload_n 1, 1) := by decide +kernel
theorem dX4_mix_40 : decode cX4_mix 40 = .ok (.if_icmp .ge 59, 3) := by decide +kernel
theorem dX4_mix_43 : decode cX4_mix 43 = .ok (.aload_n 0, 1) := by decide +kernel
theorem dX4_mix_44 : decode cX4_mix 44 = .ok (.getfield 10, 3) := by decide +kernel
theorem dX4_mix_47 : decode cX4_mix 47 = .ok (.getfield 87, 3) := by decide +kernel
theorem dX4_mix_50 : decode cX4_mix 50 = .ok (.aload_n 0, 1) := by decide +kernel
theorem dX4_mix_51 : decode cX4_mix 51 = .ok (.getfield 10, 3) := by decide +kernel
theorem dX4_mix_54 : decode cX4_mix 54 = .ok (.invokevirtual 162, 3) := by decide +kernel
theorem dX4_mix_57 : decode cX4_mix 57 = .ok (.aload_n 0, 1) := by decide +kernel
theorem dX4_mix_58 : decode cX4_mix 58 = .ok (.getfield 10, 3) := by decide +kernel
theorem dX4_mix_61 : decode cX4_mix 61 = .ok (.invokevirtual 186, 3) := by decide +kernel
theorem dX4_mix_64 : decode cX4_mix 64 = .ok (.sipush 1000, 3) := by decide +kernel
theorem dX4_mix_67 : decode cX4_mix 67 = .ok (.irem, 1) := by decide +kernel
theorem dX4_mix_68 : decode cX4_mix 68 = .ok (.iastore, 1) := by decide +kernel
theorem dX4_mix_69 : decode cX4_mix 69 = .ok (.aload_n 0, 1) := by decide +kernel
theorem dX4_mix_70 : decode cX4_mix 70 = .ok (.getfield 10, 3) := by decide +kernel
theorem dX4_mix_73 : decode cX4_mix 73 = .ok (.aload_n 0, 1) := by decide +kernel
theorem dX4_mix_74 : decode cX4_mix 74 = .ok (.getfield 10, 3) := by decide +kernel
theorem dX4_mix_77 : decode cX4_mix 77 = .ok (.invokevirtual 186, 3) := by decide +kernel
theorem dX4_mix_80 : decode cX4_mix 80 = .ok (.bipush 10, 2) := by decide +kernel
theorem dX4_mix_82 : decode cX4_mix 82 = .ok (.irem, 1) := by decide +kernel
theorem dX4_mix_83 : decode cX4_mix 83 = .ok (.putfield 189, 3) := by decide +kernel
theorem dX4_mix_86 : decode cX4_mix 86 = .ok (.aload_n 0, 1) := by decide +kernel
theorem dX4_mix_87 : decode cX4_mix 87 = .ok (.getfield 10, 3) := by decide +kernel
theorem dX4_mix_90 : decode cX4_mix 90 = .ok (.invokevirtual 156, 3) := by decide +kernel
theorem dX4_mix_93 : decode cX4_mix 93 = .ok (.iinc 2 1, 3) := by decide +kernel
theorem dX4_mix_96 : decode cX4_mix 96 = .ok (.goto (-58), 3) := by decide +kernel
theorem dX4_mix_99 : decode cX4_mix 99 = .ok (.aload_n 0, 1) := by decide +kernel
theorem dX4_mix_100 : decode cX4_mix 100 = .ok (.getfield 10, 3) := by decide +kernel
theorem dX4_mix_103 : decode cX4_mix 103 = .ok (.getfield 129, 3) := by decide +kernel
theorem dX4_mix_106 : decode cX4_mix 106 = .ok (.ireturn, 1) := by decide +kernel
theorem dX4_mostOf_0 : decode cX4_mostOf 0 = .ok (.iload_n 0, 1) := by decide +kernel
theorem dX4_mostOf_1 : decode cX4_mostOf 1 = .ok (.tableswitch 36 0 2 #[27, 30, 33], 27) := by decide +kernel
theorem dX4_mostOf_28 : decode cX4_mostOf 28 = .ok (.bipush 6, 2) := by decide +kernel
theorem dX4_mostOf_30 : decode cX4_mostOf 30 = .ok (.ireturn, 1) := by decide +kernel
theorem dX4_mostOf_31 : decode cX4_mostOf 31 = .ok (.bipush 99, 2) := by decide +kernel
theorem dX4_mostOf_33 : decode cX4_mostOf 33 = .ok (.ireturn, 1) := by decide +kernel
theorem dX4_mostOf_34 : decode cX4_mostOf 34 = .ok (.bipush 99, 2) := by decide +kernel
theorem dX4_mostOf_36 : decode cX4_mostOf 36 = .ok (.ireturn, 1) := by decide +kernel
theorem dX4_mostOf_37 : decode cX4_mostOf 37 = .ok (.sipush 9999, 3) := by decide +kernel
theorem dX4_mostOf_40 : decode cX4_mostOf 40 = .ok (.ireturn, 1) := by decide +kernel
theorem dX4_mostOfSetting_0 : decode cX4_mostOfSetting 0 = .ok (.iload_n 0, 1) := by decide +kernel
theorem dX4_mostOfSetting_1 : decode cX4_mostOfSetting 1 = .ok (.iconst 2, 1) := by decide +kernel
theorem dX4_mostOfSetting_2 : decode cX4_mostOfSetting 2 = .ok (.if_icmp .ne 7, 3) := by decide +kernel
theorem dX4_mostOfSetting_5 : decode cX4_mostOfSetting 5 = .ok (.iconst 4, 1) := by decide +kernel
theorem dX4_mostOfSetting_6 : decode cX4_mostOfSetting 6 = .ok (.goto 5, 3) := by decide +kernel
theorem dX4_mostOfSetting_9 : decode cX4_mostOfSetting 9 = .ok (.bipush 9, 2) := by decide +kernel
theorem dX4_mostOfSetting_11 : decode cX4_mostOfSetting 11 = .ok (.ireturn, 1) := by decide +kernel
theorem dX4_now_0 : decode cX4_now 0 = .ok (.iload_n 1, 1) := by decide +kernel
theorem dX4_now_1 : decode cX4_now 1 = .ok (.tableswitch 113 0 6 #[43, 51, 59, 74, 89, 97, 105], 43) := by decide +kernel
theorem dX4_now_44 : decode cX4_now 44 = .ok (.aload_n 0, 1) := by decide +kernel
theorem dX4_now_45 : decode cX4_now 45 = .ok (.getfield 10, 3) := by decide +kernel
theorem dX4_now_48 : decode cX4_now 48 = .ok (.getfield 122, 3) := by decide +kernel
theorem dX4_now_51 : decode cX4_now 51 = .ok (.ireturn, 1) := by decide +kernel
theorem dX4_now_52 : decode cX4_now 52 = .ok (.aload_n 0, 1) := by decide +kernel
theorem dX4_now_53 : decode cX4_now 53 = .ok (.getfield 10, 3) := by decide +kernel
theorem dX4_now_56 : decode cX4_now 56 = .ok (.getfield 129, 3) := by decide +kernel
theorem dX4_now_59 : decode cX4_now 59 = .ok (.ireturn, 1) := by decide +kernel
theorem dX4_now_60 : decode cX4_now 60 = .ok (.aload_n 0, 1) := by decide +kernel
theorem dX4_now_61 : decode cX4_now 61 = .ok (.getfield 10, 3) := by decide +kernel
theorem dX4_now_64 : decode cX4_now 64 = .ok (.aload_n 0, 1) := by decide +kernel
theorem dX4_now_65 : decode cX4_now 65 = .ok (.getfield 10, 3) := by decide +kernel
theorem dX4_now_68 : decode cX4_now 68 = .ok (.getfield 132, 3) := by decide +kernel
theorem dX4_now_71 : decode cX4_now 71 = .ok (.invokevirtual 135, 3) := by decide +kernel
theorem dX4_now_74 : decode cX4_now 74 = .ok (.ireturn, 1) := by decide +kernel
theorem dX4_now_75 : decode cX4_now 75 = .ok (.aload_n 0, 1) := by decide +kernel
theorem dX4_now_76 : decode cX4_now 76 = .ok (.getfield 10, 3) := by decide +kernel
theorem dX4_now_79 : decode cX4_now 79 = .ok (.aload_n 0, 1) := by decide +kernel
theorem dX4_now_80 : decode cX4_now 80 = .ok (.getfield 10, 3) := by decide +kernel
theorem dX4_now_83 : decode cX4_now 83 = .ok (.getfield 139, 3) := by decide +kernel
theorem dX4_now_86 : decode cX4_now 86 = .ok (.invokevirtual 135, 3) := by decide +kernel
theorem dX4_now_89 : decode cX4_now 89 = .ok (.ireturn, 1) := by decide +kernel
theorem dX4_now_90 : decode cX4_now 90 = .ok (.aload_n 0, 1) := by decide +kernel
theorem dX4_now_91 : decode cX4_now 91 = .ok (.getfield 10, 3) := by decide +kernel
theorem dX4_now_94 : decode cX4_now 94 = .ok (.invokevirtual 142, 3) := by decide +kernel
theorem dX4_now_97 : decode cX4_now 97 = .ok (.ireturn, 1) := by decide +kernel
theorem dX4_now_98 : decode cX4_now 98 = .ok (.aload_n 0, 1) := by decide +kernel
theorem dX4_now_99 : decode cX4_now 99 = .ok (.getfield 10, 3) := by decide +kernel
theorem dX4_now_102 : decode cX4_now 102 = .ok (.invokevirtual 146, 3) := by decide +kernel
theorem dX4_now_105 : decode cX4_now 105 = .ok (.ireturn, 1) := by decide +kernel
theorem dX4_now_106 : decode cX4_now 106 = .ok (.aload_n 0, 1) := by decide +kernel
theorem dX4_now_107 : decode cX4_now 107 = .ok (.getfield 10, 3) := by decide +kernel
theorem dX4_now_110 : decode cX4_now 110 = .ok (.invokevirtual 149, 3) := by decide +kernel
theorem dX4_now_113 : decode cX4_now 113 = .ok (.ireturn, 1) := by decide +kernel
theorem dX4_now_114 : decode cX4_now 114 = .ok (.aload_n 0, 1) := by decide +kernel
theorem dX4_now_115 : decode cX4_now 115 = .ok (.iconst 0, 1) := by decide +kernel
theorem dX4_now_116 : decode cX4_now 116 = .ok (.invokevirtual 56, 3) := by decide +kernel
theorem dX4_now_119 : decode cX4_now 119 = .ok (.ireturn, 1) := by decide +kernel
theorem dX4_odds_0 : decode cX4_odds 0 = .ok (.iload_n 1, 1) := by decide +kernel
theorem dX4_odds_1 : decode cX4_odds 1 = .ok (.invokestatic 49, 3) := by decide +kernel
theorem dX4_odds_4 : decode cX4_odds 4 = .ok (.ifCond .eq 22, 3) := by decide +kernel
theorem dX4_odds_7 : decode cX4_odds 7 = .ok (.iload_n 2, 1) := by decide +kernel
theorem dX4_odds_8 : decode cX4_odds 8 = .ok (.iconst 0, 1) := by decide +kernel
theorem dX4_odds_9 : decode cX4_odds 9 = .ok (.bipush 6, 2) := by decide +kernel
theorem dX4_odds_11 : decode cX4_odds 11 = .ok (.invokestatic 76, 3) := by decide +kernel
theorem dX4_odds_14 : decode cX4_odds 14 = .ok (.ifCond .eq 12, 3) := by decide +kernel
theorem dX4_odds_17 : decode cX4_odds 17 = .ok (.iload_n 3, 1) := by decide +kernel
theorem dX4_odds_18 : decode cX4_odds 18 = .ok (.iconst 0, 1) := by decide +kernel
theorem dX4_odds_19 : decode cX4_odds 19 = .ok (.iconst 1, 1) := by decide +kernel
theorem dX4_odds_20 : decode cX4_odds 20 = .ok (.invokestatic 76, 3) := by decide +kernel
theorem dX4_odds_23 : decode cX4_odds 23 = .ok (.ifCond .ne 10, 3) := by decide +kernel
theorem dX4_odds_26 : decode cX4_odds 26 = .ok (.aload_n 0, 1) := by decide +kernel
theorem dX4_odds_27 : decode cX4_odds 27 = .ok (.iconst 0, 1) := by decide +kernel
theorem dX4_odds_28 : decode cX4_odds 28 = .ok (.invokevirtual 56, 3) := by decide +kernel
theorem dX4_odds_31 : decode cX4_odds 31 = .ok (.i2l, 1) := by decide +kernel
theorem dX4_odds_32 : decode cX4_odds 32 = .ok (.lreturn, 1) := by decide +kernel
theorem dX4_odds_33 : decode cX4_odds 33 = .ok (.iconst 0, 1) := by decide +kernel
theorem dX4_odds_34 : decode cX4_odds 34 = .ok (.istore 4, 2) := by decide +kernel
theorem dX4_odds_36 : decode cX4_odds 36 = .ok (.iconst 0, 1) := by decide +kernel
theorem dX4_odds_37 : decode cX4_odds 37 = .ok (.istore 5, 2) := by decide +kernel
theorem dX4_odds_39 : decode cX4_odds 39 = .ok (.iload 5, 2) := by decide +kernel
theorem dX4_odds_41 : decode cX4_odds 41 = .ok (.sipush 999, 3) := by decide +kernel
theorem dX4_odds_44 : decode cX4_odds 44 = .ok (.if_icmp .gt 28, 3) := by decide +kernel
theorem dX4_odds_47 : decode cX4_odds 47 = .ok (.iload 5, 2) := by decide +kernel
theorem dX4_odds_49 : decode cX4_odds 49 = .ok (.aload_n 0, 1) := by decide +kernel
theorem dX4_odds_50 : decode cX4_odds 50 = .ok (.getfield 10, 3) := by decide +kernel
theorem dX4_odds_53 : decode cX4_odds 53 = .ok (.getfield 159, 3) := by decide +kernel
theorem dX4_odds_56 : decode cX4_odds 56 = .ok (.invokestatic 90, 3) := by decide +kernel
theorem dX4_odds_59 : decode cX4_odds 59 = .ok (.iload_n 1, 1) := by decide +kernel
theorem dX4_odds_60 : decode cX4_odds 60 = .ok (.if_icmp .ne 6, 3) := by decide +kernel
theorem dX4_odds_63 : decode cX4_odds 63 = .ok (.iinc 4 1, 3) := by decide +kernel
theorem dX4_odds_66 : decode cX4_odds 66 = .ok (.iinc 5 1, 3) := by decide +kernel
theorem dX4_odds_69 : decode cX4_odds 69 = .ok (.goto (-30), 3) := by decide +kernel
theorem dX4_odds_72 : decode cX4_odds 72 = .ok (.sipush 1000, 3) := by decide +kernel
theorem dX4_odds_75 : decode cX4_odds 75 = .ok (.istore 5, 2) := by decide +kernel
theorem dX4_odds_77 : decode cX4_odds 77 = .ok (.iload_n 3, 1) := by decide +kernel
theorem dX4_odds_78 : decode cX4_odds 78 = .ok (.ifCond .ne 8, 3) := by decide +kernel
theorem dX4_odds_81 : decode cX4_odds 81 = .ok (.iload 4, 2) := by decide +kernel
theorem dX4_odds_83 : decode cX4_odds 83 = .ok (.goto 5, 3) := by decide +kernel
theorem dX4_odds_86 : decode cX4_odds 86 = .ok (.iload 5, 2) := by decide +kernel
theorem dX4_odds_88 : decode cX4_odds 88 = .ok (.istore 6, 2) := by decide +kernel
theorem dX4_odds_90 : decode cX4_odds 90 = .ok (.iload 4, 2) := by decide +kernel
theorem dX4_odds_92 : decode cX4_odds 92 = .ok (.iload 5, 2) := by decide +kernel
theorem dX4_odds_94 : decode cX4_odds 94 = .ok (.invokestatic 192, 3) := by decide +kernel
theorem dX4_odds_97 : decode cX4_odds 97 = .ok (.istore 7, 2) := by decide +kernel
theorem dX4_odds_99 : decode cX4_odds 99 = .ok (.iload 7, 2) := by decide +kernel
theorem dX4_odds_101 : decode cX4_odds 101 = .ok (.iconst 1, 1) := by decide +kernel
theorem dX4_odds_102 : decode cX4_odds 102 = .ok (.if_icmp .le 10, 3) := by decide +kernel
theorem dX4_odds_105 : decode cX4_odds 105 = .ok (.iload 6, 2) := by decide +kernel
theorem dX4_odds_107 : decode cX4_odds 107 = .ok (.iload 7, 2) := by decide +kernel
theorem dX4_odds_109 : decode cX4_odds 109 = .ok (.idiv, 1) := by decide +kernel
theorem dX4_odds_110 : decode cX4_odds 110 = .ok (.istore 6, 2) := by decide +kernel
theorem dX4_odds_112 : decode cX4_odds 112 = .ok (.lconst 1, 1) := by decide +kernel
theorem dX4_odds_113 : decode cX4_odds 113 = .ok (.lstore 8, 2) := by decide +kernel
theorem dX4_odds_115 : decode cX4_odds 115 = .ok (.iconst 0, 1) := by decide +kernel
theorem dX4_odds_116 : decode cX4_odds 116 = .ok (.istore 10, 2) := by decide +kernel
theorem dX4_odds_118 : decode cX4_odds 118 = .ok (.iload 10, 2) := by decide +kernel
theorem dX4_odds_120 : decode cX4_odds 120 = .ok (.iload_n 2, 1) := by decide +kernel
theorem dX4_odds_121 : decode cX4_odds 121 = .ok (.if_icmp .ge 17, 3) := by decide +kernel
theorem dX4_odds_124 : decode cX4_odds 124 = .ok (.lload 8, 2) := by decide +kernel
theorem dX4_odds_126 : decode cX4_odds 126 = .ok (.iload 6, 2) := by decide +kernel
theorem dX4_odds_128 : decode cX4_odds 128 = .ok (.i2l, 1) := by decide +kernel
theorem dX4_odds_129 : decode cX4_odds 129 = .ok (.lmul, 1) := by decide +kernel
theorem dX4_odds_130 : decode cX4_odds 130 = .ok (.lstore 8, 2) := by decide +kernel
theorem dX4_odds_132 : decode cX4_odds 132 = .ok (.iinc 10 1, 3) := by decide +kernel
theorem dX4_odds_135 : decode cX4_odds 135 = .ok (.goto (-17), 3) := by decide +kernel
theorem dX4_odds_138 : decode cX4_odds 138 = .ok (.lload 8, 2) := by decide +kernel
theorem dX4_odds_140 : decode cX4_odds 140 = .ok (.lreturn, 1) := by decide +kernel
theorem dX4_of_0 : decode cX4_of 0 = .ok (.aload_n 0, 1) := by decide +kernel
theorem dX4_of_1 : decode cX4_of 1 = .ok (.iload_n 1, 1) := by decide +kernel
theorem dX4_of_2 : decode cX4_of 2 = .ok (.invokevirtual 100, 3) := by decide +kernel
theorem dX4_of_5 : decode cX4_of 5 = .ok (.ifCond .eq 13, 3) := by decide +kernel
theorem dX4_of_8 : decode cX4_of 8 = .ok (.iload_n 2, 1) := by decide +kernel
theorem dX4_of_9 : decode cX4_of 9 = .ok (.iconst 0, 1) := by decide +kernel
theorem dX4_of_10 : decode cX4_of 10 = .ok (.bipush 7, 2) := by decide +kernel
theorem dX4_of_12 : decode cX4_of 12 = .ok (.invokestatic 76, 3) := by decide +kernel
theorem dX4_of_15 : decode cX4_of 15 = .ok (.ifCond .ne 9, 3) := by decide +kernel
theorem dX4_of_18 : decode cX4_of 18 = .ok (.aload_n 0, 1) := by decide +kernel
theorem dX4_of_19 : decode cX4_of 19 = .ok (.iconst 0, 1) := by decide +kernel
theorem dX4_of_20 : decode cX4_of 20 = .ok (.invokevirtual 56, 3) := by decide +kernel
theorem dX4_of_23 : decode cX4_of 23 = .ok (.ireturn, 1) := by decide +kernel
theorem dX4_of_24 : decode cX4_of 24 = .ok (.iload_n 2, 1) := by decide +kernel
theorem dX4_of_25 : decode cX4_of 25 = .ok (.tableswitch 54 5 7 #[27, 36, 45], 27) := by decide +kernel
theorem dX4_of_52 : decode cX4_of 52 = .ok (.aload_n 0, 1) := by decide +kernel
theorem dX4_of_53 : decode cX4_of 53 = .ok (.getfield 10, 3) := by decide +kernel
theorem dX4_of_56 : decode cX4_of 56 = .ok (.iload_n 1, 1) := by decide +kernel
theorem dX4_of_57 : decode cX4_of 57 = .ok (.invokevirtual 103, 3) := by decide +kernel
theorem dX4_of_60 : decode cX4_of 60 = .ok (.ireturn, 1) := by decide +kernel
theorem dX4_of_61 : decode cX4_of 61 = .ok (.aload_n 0, 1) := by decide +kernel
theorem dX4_of_62 : decode cX4_of 62 = .ok (.getfield 10, 3) := by decide +kernel
theorem dX4_of_65 : decode cX4_of 65 = .ok (.iload_n 1, 1) := by decide +kernel
theorem dX4_of_66 : decode cX4_of 66 = .ok (.invokevirtual 106, 3) := by decide +kernel
theorem dX4_of_69 : decode cX4_of 69 = .ok (.ireturn, 1) := by decide +kernel
theorem dX4_of_70 : decode cX4_of 70 = .ok (.aload_n 0, 1) := by decide +kernel
theorem dX4_of_71 : decode cX4_of 71 = .ok (.getfield 10, 3) := by decide +kernel
theorem dX4_of_74 : decode cX4_of 74 = .ok (.iload_n 1, 1) := by decide +kernel
theorem dX4_of_75 : decode cX4_of 75 = .ok (.invokevirtual 109, 3) := by decide +kernel
theorem dX4_of_78 : decode cX4_of 78 = .ok (.ireturn, 1) := by decide +kernel
theorem dX4_of_79 : decode cX4_of 79 = .ok (.aload_n 0, 1) := by decide +kernel
theorem dX4_of_80 : decode cX4_of 80 = .ok (.getfield 10, 3) := by decide +kernel
theorem dX4_of_83 : decode cX4_of 83 = .ok (.iload_n 2, 1) := by decide +kernel
theorem dX4_of_84 : decode cX4_of 84 = .ok (.invokevirtual 112, 3) := by decide +kernel
theorem dX4_of_87 : decode cX4_of 87 = .ok (.iload_n 1, 1) := by decide +kernel
theorem dX4_of_88 : decode cX4_of 88 = .ok (.iaload, 1) := by decide +kernel
theorem dX4_of_89 : decode cX4_of 89 = .ok (.ireturn, 1) := by decide +kernel
theorem dX4_place_0 : decode cX4_place 0 = .ok (.iload_n 1, 1) := by decide +kernel
theorem dX4_place_1 : decode cX4_place 1 = .ok (.invokestatic 49, 3) := by decide +kernel
theorem dX4_place_4 : decode cX4_place 4 = .ok (.ifCond .ne 9, 3) := by decide +kernel
theorem dX4_place_7 : decode cX4_place 7 = .ok (.aload_n 0, 1) := by decide +kernel
theorem dX4_place_8 : decode cX4_place 8 = .ok (.iconst 0, 1) := by decide +kernel
theorem dX4_place_9 : decode cX4_place 9 = .ok (.invokevirtual 56, 3) := by decide +kernel
theorem dX4_place_12 : decode cX4_place 12 = .ok (.ireturn, 1) := by decide +kernel
theorem dX4_place_13 : decode cX4_place 13 = .ok (.iload_n 2, 1) := by decide +kernel
theorem dX4_place_14 : decode cX4_place 14 = .ok (.tableswitch 69 0 3 #[30, 40, 50, 60], 30) := by decide +kernel
theorem dX4_place_44 : decode cX4_place 44 = .ok (.aload_n 0, 1) := by decide +kernel
theorem dX4_place_45 : decode cX4_place 45 = .ok (.getfield 10, 3) := by decide +kernel
theorem dX4_place_48 : decode cX4_place 48 = .ok (.getfield 60, 3) := by decide +kernel
theorem dX4_place_51 : decode cX4_place 51 = .ok (.iload_n 1, 1) := by decide +kernel
theorem dX4_place_52 : decode cX4_place 52 = .ok (.iaload, 1) := by decide +kernel
theorem dX4_place_53 : decode cX4_place 53 = .ok (.ireturn, 1) := by decide +kernel
theorem dX4_place_54 : decode cX4_place 54 = .ok (.aload_n 0, 1) := by decide +kernel
theorem dX4_place_55 : decode cX4_place 55 = .ok (.getfield 10, 3) := by decide +kernel
theorem dX4_place_58 : decode cX4_place 58 = .ok (.getfield 67, 3) := by decide +kernel
theorem dX4_place_61 : decode cX4_place 61 = .ok (.iload_n 1, 1) := by decide +kernel
theorem dX4_place_62 : decode cX4_place 62 = .ok (.iaload, 1) := by decide +kernel
theorem dX4_place_63 : decode cX4_place 63 = .ok (.ireturn, 1) := by decide +kernel
theorem dX4_place_64 : decode cX4_place 64 = .ok (.aload_n 0, 1) := by decide +kernel
theorem dX4_place_65 : decode cX4_place 65 = .ok (.getfield 10, 3) := by decide +kernel
theorem dX4_place_68 : decode cX4_place 68 = .ok (.getfield 70, 3) := by decide +kernel
theorem dX4_place_71 : decode cX4_place 71 = .ok (.iload_n 1, 1) := by decide +kernel
theorem dX4_place_72 : decode cX4_place 72 = .ok (.iaload, 1) := by decide +kernel
theorem dX4_place_73 : decode cX4_place 73 = .ok (.ireturn, 1) := by decide +kernel
theorem dX4_place_74 : decode cX4_place 74 = .ok (.aload_n 0, 1) := by decide +kernel
theorem dX4_place_75 : decode cX4_place 75 = .ok (.getfield 10, 3) := by decide +kernel
theorem dX4_place_78 : decode cX4_place 78 = .ok (.iload_n 1, 1) := by decide +kernel
theorem dX4_place_79 : decode cX4_place 79 = .ok (.invokevirtual 73, 3) := by decide +kernel
theorem dX4_place_82 : decode cX4_place 82 = .ok (.ireturn, 1) := by decide +kernel
theorem dX4_place_83 : decode cX4_place 83 = .ok (.aload_n 0, 1) := by decide +kernel
theorem dX4_place_84 : decode cX4_place 84 = .ok (.iconst 0, 1) := by decide +kernel
theorem dX4_place_85 : decode cX4_place 85 = .ok (.invokevirtual 56, 3) := by decide +kernel
theorem dX4_place_88 : decode cX4_place 88 = .ok (.ireturn, 1) := by decide +kernel
theorem dX4_placeSaid_0 : decode cX4_placeSaid 0 = .ok (.iload_n 0, 1) := by decide +kernel
theorem dX4_placeSaid_1 : decode cX4_placeSaid 1 = .ok (.bipush 10, 2) := by decide +kernel
theorem dX4_placeSaid_3 : decode cX4_placeSaid 3 = .ok (.irem, 1) := by decide +kernel
theorem dX4_placeSaid_4 : decode cX4_placeSaid 4 = .ok (.istore_n 2, 1) := by decide +kernel
theorem dX4_placeSaid_5 : decode cX4_placeSaid 5 = .ok (.iload_n 0, 1) := by decide +kernel
theorem dX4_placeSaid_6 : decode cX4_placeSaid 6 = .ok (.bipush 10, 2) := by decide +kernel
theorem dX4_placeSaid_8 : decode cX4_placeSaid 8 = .ok (.idiv, 1) := by decide +kernel
theorem dX4_placeSaid_9 : decode cX4_placeSaid 9 = .ok (.bipush 10, 2) := by decide +kernel
theorem dX4_placeSaid_11 : decode cX4_placeSaid 11 = .ok (.irem, 1) := by decide +kernel
theorem dX4_placeSaid_12 : decode cX4_placeSaid 12 = .ok (.istore_n 3, 1) := by decide +kernel
theorem dX4_placeSaid_13 : decode cX4_placeSaid 13 = .ok (.iload_n 0, 1) := by decide +kernel
theorem dX4_placeSaid_14 : decode cX4_placeSaid 14 = .ok (.bipush 100, 2) := by decide +kernel
theorem dX4_placeSaid_16 : decode cX4_placeSaid 16 = .ok (.idiv, 1) := by decide +kernel
theorem dX4_placeSaid_17 : decode cX4_placeSaid 17 = .ok (.istore 4, 2) := by decide +kernel
theorem dX4_placeSaid_19 : decode cX4_placeSaid 19 = .ok (.iload_n 1, 1) := by decide +kernel
theorem dX4_placeSaid_20 : decode cX4_placeSaid 20 = .ok (.tableswitch 78 0 3 #[32, 37, 47, 53], 32) := by decide +kernel
theorem dX4_placeSaid_52 : decode cX4_placeSaid 52 = .ok (.iload_n 2, 1) := by decide +kernel
theorem dX4_placeSaid_53 : decode cX4_placeSaid 53 = .ok (.bipush 7, 2) := by decide +kernel
theorem dX4_placeSaid_55 : decode cX4_placeSaid 55 = .ok (.irem, 1) := by decide +kernel
theorem dX4_placeSaid_56 : decode cX4_placeSaid 56 = .ok (.ireturn, 1) := by decide +kernel
theorem dX4_placeSaid_57 : decode cX4_placeSaid 57 = .ok (.iload_n 2, 1) := by decide +kernel
theorem dX4_placeSaid_58 : decode cX4_placeSaid 58 = .ok (.iload_n 3, 1) := by decide +kernel
theorem dX4_placeSaid_59 : decode cX4_placeSaid 59 = .ok (.iadd, 1) := by decide +kernel
theorem dX4_placeSaid_60 : decode cX4_placeSaid 60 = .ok (.iload 4, 2) := by decide +kernel
theorem dX4_placeSaid_62 : decode cX4_placeSaid 62 = .ok (.iadd, 1) := by decide +kernel
theorem dX4_placeSaid_63 : decode cX4_placeSaid 63 = .ok (.bipush 7, 2) := by decide +kernel
theorem dX4_placeSaid_65 : decode cX4_placeSaid 65 = .ok (.irem, 1) := by decide +kernel
theorem dX4_placeSaid_66 : decode cX4_placeSaid 66 = .ok (.ireturn, 1) := by decide +kernel
theorem dX4_placeSaid_67 : decode cX4_placeSaid 67 = .ok (.iload 4, 2) := by decide +kernel
theorem dX4_placeSaid_69 : decode cX4_placeSaid 69 = .ok (.bipush 7, 2) := by decide +kernel
theorem dX4_placeSaid_71 : decode cX4_placeSaid 71 = .ok (.irem, 1) := by decide +kernel
theorem dX4_placeSaid_72 : decode cX4_placeSaid 72 = .ok (.ireturn, 1) := by decide +kernel
theorem dX4_placeSaid_73 : decode cX4_placeSaid 73 = .ok (.iload_n 2, 1) := by decide +kernel
theorem dX4_placeSaid_74 : decode cX4_placeSaid 74 = .ok (.iconst 2, 1) := by decide +kernel
theorem dX4_placeSaid_75 : decode cX4_placeSaid 75 = .ok (.irem, 1) := by decide +kernel
theorem dX4_placeSaid_76 : decode cX4_placeSaid 76 = .ok (.iconst 1, 1) := by decide +kernel
theorem dX4_placeSaid_77 : decode cX4_placeSaid 77 = .ok (.if_icmp .ne 7, 3) := by decide +kernel
theorem dX4_placeSaid_80 : decode cX4_placeSaid 80 = .ok (.iconst 0, 1) := by decide +kernel
theorem dX4_placeSaid_81 : decode cX4_placeSaid 81 = .ok (.goto 16, 3) := by decide +kernel
theorem dX4_placeSaid_84 : decode cX4_placeSaid 84 = .ok (.iload_n 3, 1) := by decide +kernel
theorem dX4_placeSaid_85 : decode cX4_placeSaid 85 = .ok (.iconst 2, 1) := by decide +kernel
theorem dX4_placeSaid_86 : decode cX4_placeSaid 86 = .ok (.irem, 1) := by decide +kernel
theorem dX4_placeSaid_87 : decode cX4_placeSaid 87 = .ok (.iconst 1, 1) := by decide +kernel
theorem dX4_placeSaid_88 : decode cX4_placeSaid 88 = .ok (.if_icmp .ne 7, 3) := by decide +kernel
theorem dX4_placeSaid_91 : decode cX4_placeSaid 91 = .ok (.iconst 3, 1) := by decide +kernel
theorem dX4_placeSaid_92 : decode cX4_placeSaid 92 = .ok (.goto 5, 3) := by decide +kernel
theorem dX4_placeSaid_95 : decode cX4_placeSaid 95 = .ok (.bipush 6, 2) := by decide +kernel
theorem dX4_placeSaid_97 : decode cX4_placeSaid 97 = .ok (.ireturn, 1) := by decide +kernel
theorem dX4_placeSaid_98 : decode cX4_placeSaid 98 = .ok (.iload_n 0, 1) := by decide +kernel
theorem dX4_placeSaid_99 : decode cX4_placeSaid 99 = .ok (.invokestatic 258, 3) := by decide +kernel
theorem dX4_placeSaid_102 : decode cX4_placeSaid 102 = .ok (.bipush 7, 2) := by decide +kernel
theorem dX4_placeSaid_104 : decode cX4_placeSaid 104 = .ok (.irem, 1) := by decide +kernel
theorem dX4_placeSaid_105 : decode cX4_placeSaid 105 = .ok (.ireturn, 1) := by decide +kernel
theorem dX4_says_0 : decode cX4_says 0 = .ok (.iload_n 1, 1) := by decide +kernel
theorem dX4_says_1 : decode cX4_says 1 = .ok (.iconst 0, 1) := by decide +kernel
theorem dX4_says_2 : decode cX4_says 2 = .ok (.sipush 999, 3) := by decide +kernel
theorem dX4_says_5 : decode cX4_says 5 = .ok (.invokestatic 76, 3) := by decide +kernel
theorem dX4_says_8 : decode cX4_says 8 = .ok (.ifCond .eq 12, 3) := by decide +kernel
theorem dX4_says_11 : decode cX4_says 11 = .ok (.iload_n 2, 1) := by decide +kernel
theorem dX4_says_12 : decode cX4_says 12 = .ok (.iconst 0, 1) := by decide +kernel
theorem dX4_says_13 : decode cX4_says 13 = .ok (.iconst 4, 1) := by decide +kernel
theorem dX4_says_14 : decode cX4_says 14 = .ok (.invokestatic 76, 3) := by decide +kernel
theorem dX4_says_17 : decode cX4_says 17 = .ok (.ifCond .ne 9, 3) := by decide +kernel
theorem dX4_says_20 : decode cX4_says 20 = .ok (.aload_n 0, 1) := by decide +kernel
theorem dX4_says_21 : decode cX4_says 21 = .ok (.iconst 0, 1) := by decide +kernel
theorem dX4_says_22 : decode cX4_says 22 = .ok (.invokevirtual 56, 3) := by decide +kernel
theorem dX4_says_25 : decode cX4_says 25 = .ok (.ireturn, 1) := by decide +kernel
theorem dX4_says_26 : decode cX4_says 26 = .ok (.iload_n 1, 1) := by decide +kernel
theorem dX4_says_27 : decode cX4_says 27 = .ok (.iload_n 2, 1) := by decide +kernel
theorem dX4_says_28 : decode cX4_says 28 = .ok (.invokestatic 90, 3) := by decide +kernel
theorem dX4_says_31 : decode cX4_says 31 = .ok (.ireturn, 1) := by decide +kernel
theorem dX4_seed_0 : decode cX4_seed 0 = .ok (.aload_n 0, 1) := by decide +kernel
theorem dX4_seed_1 : decode cX4_seed 1 = .ok (.getfield 10, 3) := by decide +kernel
theorem dX4_seed_4 : decode cX4_seed 4 = .ok (.getfield 195, 3) := by decide +kernel
theorem dX4_seed_7 : decode cX4_seed 7 = .ok (.istore_n 2, 1) := by decide +kernel
theorem dX4_seed_8 : decode cX4_seed 8 = .ok (.aload_n 0, 1) := by decide +kernel
theorem dX4_seed_9 : decode cX4_seed 9 = .ok (.getfield 10, 3) := by decide +kernel
theorem dX4_seed_12 : decode cX4_seed 12 = .ok (.iload_n 1, 1) := by decide +kernel
theorem dX4_seed_13 : decode cX4_seed 13 = .ok (.putfield 195, 3) := by decide +kernel
theorem dX4_seed_16 : decode cX4_seed 16 = .ok (.iload_n 2, 1) := by decide +kernel
theorem dX4_seed_17 : decode cX4_seed 17 = .ok (.ireturn, 1) := by decide +kernel
theorem dX4_set_0 : decode cX4_set 0 = .ok (.iload_n 1, 1) := by decide +kernel
theorem dX4_set_1 : decode cX4_set 1 = .ok (.iconst 0, 1) := by decide +kernel
theorem dX4_set_2 : decode cX4_set 2 = .ok (.iconst 2, 1) := by decide +kernel
theorem dX4_set_3 : decode cX4_set 3 = .ok (.invokestatic 76, 3) := by decide +kernel
theorem dX4_set_6 : decode cX4_set 6 = .ok (.ifCond .eq 15, 3) := by decide +kernel
theorem dX4_set_9 : decode cX4_set 9 = .ok (.iload_n 2, 1) := by decide +kernel
theorem dX4_set_10 : decode cX4_set 10 = .ok (.iconst 0, 1) := by decide +kernel
theorem dX4_set_11 : decode cX4_set 11 = .ok (.iload_n 1, 1) := by decide +kernel
theorem dX4_set_12 : decode cX4_set 12 = .ok (.invokestatic 80, 3) := by decide +kernel
theorem dX4_set_15 : decode cX4_set 15 = .ok (.invokestatic 76, 3) := by decide +kernel
theorem dX4_set_18 : decode cX4_set 18 = .ok (.ifCond .ne 9, 3) := by decide +kernel
theorem dX4_set_21 : decode cX4_set 21 = .ok (.aload_n 0, 1) := by decide +kernel
theorem dX4_set_22 : decode cX4_set 22 = .ok (.iconst 0, 1) := by decide +kernel
theorem dX4_set_23 : decode cX4_set 23 = .ok (.invokevirtual 56, 3) := by decide +kernel
theorem dX4_set_26 : decode cX4_set 26 = .ok (.ireturn, 1) := by decide +kernel
theorem dX4_set_27 : decode cX4_set 27 = .ok (.aload_n 0, 1) := by decide +kernel
theorem dX4_set_28 : decode cX4_set 28 = .ok (.getfield 10, 3) := by decide +kernel
theorem dX4_set_31 : decode cX4_set 31 = .ok (.iload_n 1, 1) := by decide +kernel
theorem dX4_set_32 : decode cX4_set 32 = .ok (.iload_n 2, 1) := by decide +kernel
theorem dX4_set_33 : decode cX4_set 33 = .ok (.invokevirtual 83, 3) := by decide +kernel
theorem dX4_set_36 : decode cX4_set 36 = .ok (.ireturn, 1) := by decide +kernel
theorem dX4_sheet_0 : decode cX4_sheet 0 = .ok (.iload_n 1, 1) := by decide +kernel
theorem dX4_sheet_1 : decode cX4_sheet 1 = .ok (.invokestatic 218, 3) := by decide +kernel
theorem dX4_sheet_4 : decode cX4_sheet 4 = .ok (.ifCond .eq 25, 3) := by decide +kernel
theorem dX4_sheet_7 : decode cX4_sheet 7 = .ok (.iload_n 2, 1) := by decide +kernel
theorem dX4_sheet_8 : decode cX4_sheet 8 = .ok (.ifCond .eq 27, 3) := by decide +kernel
theorem dX4_sheet_11 : decode cX4_sheet 11 = .ok (.iload_n 2, 1) := by decide +kernel
theorem dX4_sheet_12 : decode cX4_sheet 12 = .ok (.bipush 8, 2) := by decide +kernel
theorem dX4_sheet_14 : decode cX4_sheet 14 = .ok (.if_icmp .eq 21, 3) := by decide +kernel
theorem dX4_sheet_17 : decode cX4_sheet 17 = .ok (.iload_n 2, 1) := by decide +kernel
theorem dX4_sheet_18 : decode cX4_sheet 18 = .ok (.bipush 16, 2) := by decide +kernel
theorem dX4_sheet_20 : decode cX4_sheet 20 = .ok (.if_icmp .eq 15, 3) := by decide +kernel
theorem dX4_sheet_23 : decode cX4_sheet 23 = .ok (.iload_n 2, 1) := by decide +kernel
theorem dX4_sheet_24 : decode cX4_sheet 24 = .ok (.bipush 32, 2) := by decide +kernel
theorem dX4_sheet_26 : decode cX4_sheet 26 = .ok (.if_icmp .eq 9, 3) := by decide +kernel
theorem dX4_sheet_29 : decode cX4_sheet 29 = .ok (.aload_n 0, 1) := by decide +kernel
theorem dX4_sheet_30 : decode cX4_sheet 30 = .ok (.iconst 0, 1) := by decide +kernel
theorem dX4_sheet_31 : decode cX4_sheet 31 = .ok (.invokevirtual 56, 3) := by decide +kernel
theorem dX4_sheet_34 : decode cX4_sheet 34 = .ok (.ireturn, 1) := by decide +kernel
theorem dX4_sheet_35 : decode cX4_sheet 35 = .ok (.iload_n 3, 1) := by decide +kernel
theorem dX4_sheet_36 : decode cX4_sheet 36 = .ok (.ifCond .ge 10, 3) := by decide +kernel
theorem dX4_sheet_39 : decode cX4_sheet 39 = .ok (.aload_n 0, 1) := by decide +kernel
theorem dX4_sheet_40 : decode cX4_sheet 40 = .ok (.bipush 6, 2) := by decide +kernel
theorem dX4_sheet_42 : decode cX4_sheet 42 = .ok (.invokevirtual 56, 3) := by decide +kernel
theorem dX4_sheet_45 : decode cX4_sheet 45 = .ok (.ireturn, 1) := by decide +kernel
theorem dX4_sheet_46 : decode cX4_sheet 46 = .ok (.iload_n 3, 1) := by decide +kernel
theorem dX4_sheet_47 : decode cX4_sheet 47 = .ok (.bipush 40, 2) := by decide +kernel
theorem dX4_sheet_49 : decode cX4_sheet 49 = .ok (.if_icmp .le 9, 3) := by decide +kernel
theorem dX4_sheet_52 : decode cX4_sheet 52 = .ok (.aload_n 0, 1) := by decide +kernel
theorem dX4_sheet_53 : decode cX4_sheet 53 = .ok (.iconst 0, 1) := by decide +kernel
theorem dX4_sheet_54 : decode cX4_sheet 54 = .ok (.invokevirtual 56, 3) := by decide +kernel
theorem dX4_sheet_57 : decode cX4_sheet 57 = .ok (.ireturn, 1) := by decide +kernel
theorem dX4_sheet_58 : decode cX4_sheet 58 = .ok (.aload_n 0, 1) := by decide +kernel
theorem dX4_sheet_59 : decode cX4_sheet 59 = .ok (.getfield 40, 3) := by decide +kernel
theorem dX4_sheet_62 : decode cX4_sheet 62 = .ok (.iload_n 1, 1) := by decide +kernel
theorem dX4_sheet_63 : decode cX4_sheet 63 = .ok (.aaload, 1) := by decide +kernel
theorem dX4_sheet_64 : decode cX4_sheet 64 = .ok (.iload_n 2, 1) := by decide +kernel
theorem dX4_sheet_65 : decode cX4_sheet 65 = .ok (.iload_n 3, 1) := by decide +kernel
theorem dX4_sheet_66 : decode cX4_sheet 66 = .ok (.invokevirtual 221, 3) := by decide +kernel
theorem dX4_sheet_69 : decode cX4_sheet 69 = .ok (.aload_n 0, 1) := by decide +kernel
theorem dX4_sheet_70 : decode cX4_sheet 70 = .ok (.getfield 40, 3) := by decide +kernel
theorem dX4_sheet_73 : decode cX4_sheet 73 = .ok (.iload_n 1, 1) := by decide +kernel
theorem dX4_sheet_74 : decode cX4_sheet 74 = .ok (.aaload, 1) := by decide +kernel
theorem dX4_sheet_75 : decode cX4_sheet 75 = .ok (.getfield 224, 3) := by decide +kernel
theorem dX4_sheet_78 : decode cX4_sheet 78 = .ok (.ireturn, 1) := by decide +kernel
theorem dX4_stand_0 : decode cX4_stand 0 = .ok (.iload_n 1, 1) := by decide +kernel
theorem dX4_stand_1 : decode cX4_stand 1 = .ok (.invokestatic 49, 3) := by decide +kernel
theorem dX4_stand_4 : decode cX4_stand 4 = .ok (.ifCond .eq 11, 3) := by decide +kernel
theorem dX4_stand_7 : decode cX4_stand 7 = .ok (.aload_n 0, 1) := by decide +kernel
theorem dX4_stand_8 : decode cX4_stand 8 = .ok (.iload_n 2, 1) := by decide +kernel
theorem dX4_stand_9 : decode cX4_stand 9 = .ok (.invokevirtual 53, 3) := by decide +kernel
theorem dX4_stand_12 : decode cX4_stand 12 = .ok (.ifCond .ne 9, 3) := by decide +kernel
theorem dX4_stand_15 : decode cX4_stand 15 = .ok (.aload_n 0, 1) := by decide +kernel
theorem dX4_stand_16 : decode cX4_stand 16 = .ok (.iconst 0, 1) := by decide +kernel
theorem dX4_stand_17 : decode cX4_stand 17 = .ok (.invokevirtual 56, 3) := by decide +kernel
theorem dX4_stand_20 : decode cX4_stand 20 = .ok (.ireturn, 1) := by decide +kernel
theorem dX4_stand_21 : decode cX4_stand 21 = .ok (.aload_n 0, 1) := by decide +kernel
theorem dX4_stand_22 : decode cX4_stand 22 = .ok (.getfield 10, 3) := by decide +kernel
theorem dX4_stand_25 : decode cX4_stand 25 = .ok (.getfield 60, 3) := by decide +kernel
theorem dX4_stand_28 : decode cX4_stand 28 = .ok (.iload_n 1, 1) := by decide +kernel
theorem dX4_stand_29 : decode cX4_stand 29 = .ok (.iaload, 1) := by decide +kernel
theorem dX4_stand_30 : decode cX4_stand 30 = .ok (.istore_n 3, 1) := by decide +kernel
theorem dX4_stand_31 : decode cX4_stand 31 = .ok (.aload_n 0, 1) := by decide +kernel
theorem dX4_stand_32 : decode cX4_stand 32 = .ok (.getfield 10, 3) := by decide +kernel
theorem dX4_stand_35 : decode cX4_stand 35 = .ok (.iload_n 2, 1) := by decide +kernel
theorem dX4_stand_36 : decode cX4_stand 36 = .ok (.invokevirtual 63, 3) := by decide +kernel
theorem dX4_stand_39 : decode cX4_stand 39 = .ok (.aload_n 0, 1) := by decide +kernel
theorem dX4_stand_40 : decode cX4_stand 40 = .ok (.getfield 10, 3) := by decide +kernel
theorem dX4_stand_43 : decode cX4_stand 43 = .ok (.getfield 60, 3) := by decide +kernel
theorem dX4_stand_46 : decode cX4_stand 46 = .ok (.iload_n 1, 1) := by decide +kernel
theorem dX4_stand_47 : decode cX4_stand 47 = .ok (.iload_n 2, 1) := by decide +kernel
theorem dX4_stand_48 : decode cX4_stand 48 = .ok (.iastore, 1) := by decide +kernel
theorem dX4_stand_49 : decode cX4_stand 49 = .ok (.iload_n 3, 1) := by decide +kernel
theorem dX4_stand_50 : decode cX4_stand 50 = .ok (.ireturn, 1) := by decide +kernel
theorem dX4_standFor_0 : decode cX4_standFor 0 = .ok (.aload_n 0, 1) := by decide +kernel
theorem dX4_standFor_1 : decode cX4_standFor 1 = .ok (.iload_n 1, 1) := by decide +kernel
theorem dX4_standFor_2 : decode cX4_standFor 2 = .ok (.invokevirtual 100, 3) := by decide +kernel
theorem dX4_standFor_5 : decode cX4_standFor 5 = .ok (.ifCond .eq 13, 3) := by decide +kernel
theorem dX4_standFor_8 : decode cX4_standFor 8 = .ok (.iload_n 2, 1) := by decide +kernel
theorem dX4_standFor_9 : decode cX4_standFor 9 = .ok (.iconst 0, 1) := by decide +kernel
theorem dX4_standFor_10 : decode cX4_standFor 10 = .ok (.bipush 40, 2) := by decide +kernel
theorem dX4_standFor_12 : decode cX4_standFor 12 = .ok (.invokestatic 76, 3) := by decide +kernel
theorem dX4_standFor_15 : decode cX4_standFor 15 = .ok (.ifCond .ne 9, 3) := by decide +kernel
theorem dX4_standFor_18 : decode cX4_standFor 18 = .ok (.aload_n 0, 1) := by decide +kernel
theorem dX4_standFor_19 : decode cX4_standFor 19 = .ok (.iconst 0, 1) := by decide +kernel
theorem dX4_standFor_20 : decode cX4_standFor 20 = .ok (.invokevirtual 56, 3) := by decide +kernel
theorem dX4_standFor_23 : decode cX4_standFor 23 = .ok (.ireturn, 1) := by decide +kernel
theorem dX4_standFor_24 : decode cX4_standFor 24 = .ok (.iconst 0, 1) := by decide +kernel
theorem dX4_standFor_25 : decode cX4_standFor 25 = .ok (.istore_n 3, 1) := by decide +kernel
theorem dX4_standFor_26 : decode cX4_standFor 26 = .ok (.iconst (-1), 1) := by decide +kernel
theorem dX4_standFor_27 : decode cX4_standFor 27 = .ok (.istore 4, 2) := by decide +kernel
theorem dX4_standFor_29 : decode cX4_standFor 29 = .ok (.iconst 0, 1) := by decide +kernel
theorem dX4_standFor_30 : decode cX4_standFor 30 = .ok (.istore 5, 2) := by decide +kernel
theorem dX4_standFor_32 : decode cX4_standFor 32 = .ok (.iload 5, 2) := by decide +kernel
theorem dX4_standFor_34 : decode cX4_standFor 34 = .ok (.bipush 7, 2) := by decide +kernel
theorem dX4_standFor_36 : decode cX4_standFor 36 = .ok (.if_icmp .ge 54, 3) := by decide +kernel
theorem dX4_standFor_39 : decode cX4_standFor 39 = .ok (.aload_n 0, 1) := by decide +kernel
theorem dX4_standFor_40 : decode cX4_standFor 40 = .ok (.getfield 16, 3) := by decide +kernel
theorem dX4_standFor_43 : decode cX4_standFor 43 = .ok (.aload_n 0, 1) := by decide +kernel
theorem dX4_standFor_44 : decode cX4_standFor 44 = .ok (.getfield 10, 3) := by decide +kernel
theorem dX4_standFor_47 : decode cX4_standFor 47 = .ok (.invokevirtual 152, 3) := by decide +kernel
theorem dX4_standFor_50 : decode cX4_standFor 50 = .ok (.aload_n 0, 1) := by decide +kernel
theorem dX4_standFor_51 : decode cX4_standFor 51 = .ok (.getfield 16, 3) := by decide +kernel
theorem dX4_standFor_54 : decode cX4_standFor 54 = .ok (.iload_n 1, 1) := by decide +kernel
theorem dX4_standFor_55 : decode cX4_standFor 55 = .ok (.iload 5, 2) := by decide +kernel
theorem dX4_standFor_57 : decode cX4_standFor 57 = .ok (.invokevirtual 165, 3) := by decide +kernel
theorem dX4_standFor_60 : decode cX4_standFor 60 = .ok (.aload_n 0, 1) := by decide +kernel
theorem dX4_standFor_61 : decode cX4_standFor 61 = .ok (.getfield 16, 3) := by decide +kernel
theorem dX4_standFor_64 : decode cX4_standFor 64 = .ok (.iload_n 2, 1) := by decide +kernel
theorem dX4_standFor_65 : decode cX4_standFor 65 = .ok (.invokevirtual 126, 3) := by decide +kernel
theorem dX4_standFor_68 : decode cX4_standFor 68 = .ok (.istore 6, 2) := by decide +kernel
theorem dX4_standFor_70 : decode cX4_standFor 70 = .ok (.iload 6, 2) := by decide +kernel
theorem dX4_standFor_72 : decode cX4_standFor 72 = .ok (.iload 4, 2) := by decide +kernel
theorem dX4_standFor_74 : decode cX4_standFor 74 = .ok (.if_icmp .le 10, 3) := by decide +kernel
theorem dX4_standFor_77 : decode cX4_standFor 77 = .ok (.iload 6, 2) := by decide +kernel
theorem dX4_standFor_79 : decode cX4_standFor 79 = .ok (.istore 4, 2) := by decide +kernel
theorem dX4_standFor_81 : decode cX4_standFor 81 = .ok (.iload 5, 2) := by decide +kernel
theorem dX4_standFor_83 : decode cX4_standFor 83 = .ok (.istore_n 3, 1) := by decide +kernel
theorem dX4_standFor_84 : decode cX4_standFor 84 = .ok (.iinc 5 1, 3) := by decide +kernel
theorem dX4_standFor_87 : decode cX4_standFor 87 = .ok (.goto (-55), 3) := by decide +kernel
theorem dX4_standFor_90 : decode cX4_standFor 90 = .ok (.iload_n 3, 1) := by decide +kernel
theorem dX4_standFor_91 : decode cX4_standFor 91 = .ok (.ireturn, 1) := by decide +kernel
theorem dX4_status_0 : decode cX4_status 0 = .ok (.iload_n 1, 1) := by decide +kernel
theorem dX4_status_1 : decode cX4_status 1 = .ok (.iconst (-1), 1) := by decide +kernel
theorem dX4_status_2 : decode cX4_status 2 = .ok (.bipush 6, 2) := by decide +kernel
theorem dX4_status_4 : decode cX4_status 4 = .ok (.invokestatic 76, 3) := by decide +kernel
theorem dX4_status_7 : decode cX4_status 7 = .ok (.ifCond .ne 9, 3) := by decide +kernel
theorem dX4_status_10 : decode cX4_status 10 = .ok (.aload_n 0, 1) := by decide +kernel
theorem dX4_status_11 : decode cX4_status 11 = .ok (.iconst 0, 1) := by decide +kernel
theorem dX4_status_12 : decode cX4_status 12 = .ok (.invokevirtual 56, 3) := by decide +kernel
theorem dX4_status_15 : decode cX4_status 15 = .ok (.ireturn, 1) := by decide +kernel
theorem dX4_status_16 : decode cX4_status 16 = .ok (.iload_n 1, 1) := by decide +kernel
theorem dX4_status_17 : decode cX4_status 17 = .ok (.ifCond .lt 10, 3) := by decide +kernel
theorem dX4_status_20 : decode cX4_status 20 = .ok (.aload_n 0, 1) := by decide +kernel
theorem dX4_status_21 : decode cX4_status 21 = .ok (.getfield 44, 3) := by decide +kernel
theorem dX4_status_24 : decode cX4_status 24 = .ok (.iload_n 1, 1) := by decide +kernel
theorem dX4_status_25 : decode cX4_status 25 = .ok (.iaload, 1) := by decide +kernel
theorem dX4_status_26 : decode cX4_status 26 = .ok (.ireturn, 1) := by decide +kernel
theorem dX4_status_27 : decode cX4_status 27 = .ok (.iconst 0, 1) := by decide +kernel
theorem dX4_status_28 : decode cX4_status 28 = .ok (.istore_n 2, 1) := by decide +kernel
theorem dX4_status_29 : decode cX4_status 29 = .ok (.iconst 0, 1) := by decide +kernel
theorem dX4_status_30 : decode cX4_status 30 = .ok (.istore_n 3, 1) := by decide +kernel
theorem dX4_status_31 : decode cX4_status 31 = .ok (.iload_n 3, 1) := by decide +kernel
theorem dX4_status_32 : decode cX4_status 32 = .ok (.bipush 7, 2) := by decide +kernel
theorem dX4_status_34 : decode cX4_status 34 = .ok (.if_icmp .ge 18, 3) := by decide +kernel
theorem dX4_status_37 : decode cX4_status 37 = .ok (.iload_n 2, 1) := by decide +kernel
theorem dX4_status_38 : decode cX4_status 38 = .ok (.aload_n 0, 1) := by decide +kernel
theorem dX4_status_39 : decode cX4_status 39 = .ok (.getfield 44, 3) := by decide +kernel
theorem dX4_status_42 : decode cX4_status 42 = .ok (.iload_n 3, 1) := by decide +kernel
theorem dX4_status_43 : decode cX4_status 43 = .ok (.iaload, 1) := by decide +kernel
theorem dX4_status_44 : decode cX4_status 44 = .ok (.iadd, 1) := by decide +kernel
theorem dX4_status_45 : decode cX4_status 45 = .ok (.istore_n 2, 1) := by decide +kernel
theorem dX4_status_46 : decode cX4_status 46 = .ok (.iinc 3 1, 3) := by decide +kernel
theorem dX4_status_49 : decode cX4_status 49 = .ok (.goto (-18), 3) := by decide +kernel
theorem dX4_status_52 : decode cX4_status 52 = .ok (.iload_n 2, 1) := by decide +kernel
theorem dX4_status_53 : decode cX4_status 53 = .ok (.ireturn, 1) := by decide +kernel
theorem dX4_tall_0 : decode cX4_tall 0 = .ok (.aload_n 0, 1) := by decide +kernel
theorem dX4_tall_1 : decode cX4_tall 1 = .ok (.iload_n 1, 1) := by decide +kernel
theorem dX4_tall_2 : decode cX4_tall 2 = .ok (.invokevirtual 175, 3) := by decide +kernel
theorem dX4_tall_5 : decode cX4_tall 5 = .ok (.istore_n 3, 1) := by decide +kernel
theorem dX4_tall_6 : decode cX4_tall 6 = .ok (.iload_n 3, 1) := by decide +kernel
theorem dX4_tall_7 : decode cX4_tall 7 = .ok (.iconst (-1), 1) := by decide +kernel
theorem dX4_tall_8 : decode cX4_tall 8 = .ok (.if_icmp .eq 9, 3) := by decide +kernel
theorem dX4_tall_11 : decode cX4_tall 11 = .ok (.aload_n 0, 1) := by decide +kernel
theorem dX4_tall_12 : decode cX4_tall 12 = .ok (.iload_n 3, 1) := by decide +kernel
theorem dX4_tall_13 : decode cX4_tall 13 = .ok (.invokevirtual 56, 3) := by decide +kernel
theorem dX4_tall_16 : decode cX4_tall 16 = .ok (.ireturn, 1) := by decide +kernel
theorem dX4_tall_17 : decode cX4_tall 17 = .ok (.aload_n 0, 1) := by decide +kernel
theorem dX4_tall_18 : decode cX4_tall 18 = .ok (.iload_n 2, 1) := by decide +kernel
theorem dX4_tall_19 : decode cX4_tall 19 = .ok (.invokevirtual 100, 3) := by decide +kernel
theorem dX4_tall_22 : decode cX4_tall 22 = .ok (.ifCond .ne 9, 3) := by decide +kernel
theorem dX4_tall_25 : decode cX4_tall 25 = .ok (.aload_n 0, 1) := by decide +kernel
theorem dX4_tall_26 : decode cX4_tall 26 = .ok (.iconst 0, 1) := by decide +kernel
theorem dX4_tall_27 : decode cX4_tall 27 = .ok (.invokevirtual 56, 3) := by decide +kernel
theorem dX4_tall_30 : decode cX4_tall 30 = .ok (.ireturn, 1) := by decide +kernel
theorem dX4_tall_31 : decode cX4_tall 31 = .ok (.iconst 0, 1) := by decide +kernel
theorem dX4_tall_32 : decode cX4_tall 32 = .ok (.istore 4, 2) := by decide +kernel
theorem dX4_tall_34 : decode cX4_tall 34 = .ok (.iload 4, 2) := by decide +kernel
theorem dX4_tall_36 : decode cX4_tall 36 = .ok (.bipush 99, 2) := by decide +kernel
theorem dX4_tall_38 : decode cX4_tall 38 = .ok (.if_icmp .gt 28, 3) := by decide +kernel
theorem dX4_tall_41 : decode cX4_tall 41 = .ok (.aload_n 0, 1) := by decide +kernel
theorem dX4_tall_42 : decode cX4_tall 42 = .ok (.aload_n 0, 1) := by decide +kernel
theorem dX4_tall_43 : decode cX4_tall 43 = .ok (.getfield 40, 3) := by decide +kernel
theorem dX4_tall_46 : decode cX4_tall 46 = .ok (.iload_n 1, 1) := by decide +kernel
theorem dX4_tall_47 : decode cX4_tall 47 = .ok (.aaload, 1) := by decide +kernel
theorem dX4_tall_48 : decode cX4_tall 48 = .ok (.iload_n 2, 1) := by decide +kernel
theorem dX4_tall_49 : decode cX4_tall 49 = .ok (.iload 4, 2) := by decide +kernel
theorem dX4_tall_51 : decode cX4_tall 51 = .ok (.invokevirtual 182, 3) := by decide +kernel
theorem dX4_tall_54 : decode cX4_tall 54 = .ok (.ifCond .eq 6, 3) := by decide +kernel
theorem dX4_tall_57 : decode cX4_tall 57 = .ok (.iload 4, 2) := by decide +kernel
theorem dX4_tall_59 : decode cX4_tall 59 = .ok (.ireturn, 1) := by decide +kernel
theorem dX4_tall_60 : decode cX4_tall 60 = .ok (.iinc 4 1, 3) := by decide +kernel
theorem dX4_tall_63 : decode cX4_tall 63 = .ok (.goto (-29), 3) := by decide +kernel
theorem dX4_tall_66 : decode cX4_tall 66 = .ok (.aload_n 0, 1) := by decide +kernel
theorem dX4_tall_67 : decode cX4_tall 67 = .ok (.iconst 3, 1) := by decide +kernel
theorem dX4_tall_68 : decode cX4_tall 68 = .ok (.invokevirtual 56, 3) := by decide +kernel
theorem dX4_tall_71 : decode cX4_tall 71 = .ok (.ireturn, 1) := by decide +kernel
theorem dX4_tallFor_0 : decode cX4_tallFor 0 = .ok (.aload_n 0, 1) := by decide +kernel
theorem dX4_tallFor_1 : decode cX4_tallFor 1 = .ok (.iload_n 1, 1) := by decide +kernel
theorem dX4_tallFor_2 : decode cX4_tallFor 2 = .ok (.invokevirtual 100, 3) := by decide +kernel
theorem dX4_tallFor_5 : decode cX4_tallFor 5 = .ok (.ifCond .eq 24, 3) := by decide +kernel
theorem dX4_tallFor_8 : decode cX4_tallFor 8 = .ok (.iload_n 2, 1) := by decide +kernel
theorem dX4_tallFor_9 : decode cX4_tallFor 9 = .ok (.iconst 0, 1) := by decide +kernel
theorem dX4_tallFor_10 : decode cX4_tallFor 10 = .ok (.sipush 9999, 3) := by decide +kernel
theorem dX4_tallFor_13 : decode cX4_tallFor 13 = .ok (.invokestatic 76, 3) := by decide +kernel
theorem dX4_tallFor_16 : decode cX4_tallFor 16 = .ok (.ifCond .eq 13, 3) := by decide +kernel
theorem dX4_tallFor_19 : decode cX4_tallFor 19 = .ok (.iload_n 3, 1) := by decide +kernel
theorem dX4_tallFor_20 : decode cX4_tallFor 20 = .ok (.iconst 0, 1) := by decide +kernel
theorem dX4_tallFor_21 : decode cX4_tallFor 21 = .ok (.bipush 40, 2) := by decide +kernel
theorem dX4_tallFor_23 : decode cX4_tallFor 23 = .ok (.invokestatic 76, 3) := by decide +kernel
theorem dX4_tallFor_26 : decode cX4_tallFor 26 = .ok (.ifCond .ne 9, 3) := by decide +kernel
theorem dX4_tallFor_29 : decode cX4_tallFor 29 = .ok (.aload_n 0, 1) := by decide +kernel
theorem dX4_tallFor_30 : decode cX4_tallFor 30 = .ok (.iconst 0, 1) := by decide +kernel
theorem dX4_tallFor_31 : decode cX4_tallFor 31 = .ok (.invokevirtual 56, 3) := by decide +kernel
theorem dX4_tallFor_34 : decode cX4_tallFor 34 = .ok (.ireturn, 1) := by decide +kernel
theorem dX4_tallFor_35 : decode cX4_tallFor 35 = .ok (.iconst 0, 1) := by decide +kernel
theorem dX4_tallFor_36 : decode cX4_tallFor 36 = .ok (.istore 4, 2) := by decide +kernel
theorem dX4_tallFor_38 : decode cX4_tallFor 38 = .ok (.iload 4, 2) := by decide +kernel
theorem dX4_tallFor_40 : decode cX4_tallFor 40 = .ok (.bipush 99, 2) := by decide +kernel
theorem dX4_tallFor_42 : decode cX4_tallFor 42 = .ok (.if_icmp .gt 56, 3) := by decide +kernel
theorem dX4_tallFor_45 : decode cX4_tallFor 45 = .ok (.aload_n 0, 1) := by decide +kernel
theorem dX4_tallFor_46 : decode cX4_tallFor 46 = .ok (.getfield 16, 3) := by decide +kernel
theorem dX4_tallFor_49 : decode cX4_tallFor 49 = .ok (.aload_n 0, 1) := by decide +kernel
theorem dX4_tallFor_50 : decode cX4_tallFor 50 = .ok (.getfield 10, 3) := by decide +kernel
theorem dX4_tallFor_53 : decode cX4_tallFor 53 = .ok (.invokevirtual 152, 3) := by decide +kernel
theorem dX4_tallFor_56 : decode cX4_tallFor 56 = .ok (.aload_n 0, 1) := by decide +kernel
theorem dX4_tallFor_57 : decode cX4_tallFor 57 = .ok (.getfield 16, 3) := by decide +kernel
theorem dX4_tallFor_60 : decode cX4_tallFor 60 = .ok (.getfield 172, 3) := by decide +kernel
theorem dX4_tallFor_63 : decode cX4_tallFor 63 = .ok (.iload_n 1, 1) := by decide +kernel
theorem dX4_tallFor_64 : decode cX4_tallFor 64 = .ok (.iload 4, 2) := by decide +kernel
theorem dX4_tallFor_66 : decode cX4_tallFor 66 = .ok (.iastore, 1) := by decide +kernel
theorem dX4_tallFor_67 : decode cX4_tallFor 67 = .ok (.aload_n 0, 1) := by decide +kernel
theorem dX4_tallFor_68 : decode cX4_tallFor 68 = .ok (.getfield 16, 3) := by decide +kernel
theorem dX4_tallFor_71 : decode cX4_tallFor 71 = .ok (.iload_n 3, 1) := by decide +kernel
theorem dX4_tallFor_72 : decode cX4_tallFor 72 = .ok (.invokevirtual 126, 3) := by decide +kernel
theorem dX4_tallFor_75 : decode cX4_tallFor 75 = .ok (.pop, 1) := by decide +kernel
theorem dX4_tallFor_76 : decode cX4_tallFor 76 = .ok (.aload_n 0, 1) := by decide +kernel
theorem dX4_tallFor_77 : decode cX4_tallFor 77 = .ok (.getfield 16, 3) := by decide +kernel
theorem dX4_tallFor_80 : decode cX4_tallFor 80 = .ok (.getfield 132, 3) := by decide +kernel
theorem dX4_tallFor_83 : decode cX4_tallFor 83 = .ok (.iload_n 1, 1) := by decide +kernel
theorem dX4_tallFor_84 : decode cX4_tallFor 84 = .ok (.iaload, 1) := by decide +kernel
theorem dX4_tallFor_85 : decode cX4_tallFor 85 = .ok (.iload_n 2, 1) := by decide +kernel
theorem dX4_tallFor_86 : decode cX4_tallFor 86 = .ok (.if_icmp .lt 6, 3) := by decide +kernel
theorem dX4_tallFor_89 : decode cX4_tallFor 89 = .ok (.iload 4, 2) := by decide +kernel
theorem dX4_tallFor_91 : decode cX4_tallFor 91 = .ok (.ireturn, 1) := by decide +kernel
theorem dX4_tallFor_92 : decode cX4_tallFor 92 = .ok (.iinc 4 1, 3) := by decide +kernel
theorem dX4_tallFor_95 : decode cX4_tallFor 95 = .ok (.goto (-57), 3) := by decide +kernel
theorem dX4_tallFor_98 : decode cX4_tallFor 98 = .ok (.aload_n 0, 1) := by decide +kernel
theorem dX4_tallFor_99 : decode cX4_tallFor 99 = .ok (.iconst 3, 1) := by decide +kernel
theorem dX4_tallFor_100 : decode cX4_tallFor 100 = .ok (.invokevirtual 56, 3) := by decide +kernel
theorem dX4_tallFor_103 : decode cX4_tallFor 103 = .ok (.ireturn, 1) := by decide +kernel
theorem dX4_tear_0 : decode cX4_tear 0 = .ok (.aload_n 0, 1) := by decide +kernel
theorem dX4_tear_1 : decode cX4_tear 1 = .ok (.getfield 22, 3) := by decide +kernel
theorem dX4_tear_4 : decode cX4_tear 4 = .ok (.ifCond .eq 7, 3) := by decide +kernel
theorem dX4_tear_7 : decode cX4_tear 7 = .ok (.iconst 1, 1) := by decide +kernel
theorem dX4_tear_8 : decode cX4_tear 8 = .ok (.goto 4, 3) := by decide +kernel
theorem dX4_tear_11 : decode cX4_tear 11 = .ok (.iconst 0, 1) := by decide +kernel
theorem dX4_tear_12 : decode cX4_tear 12 = .ok (.istore_n 1, 1) := by decide +kernel
theorem dX4_tear_13 : decode cX4_tear 13 = .ok (.aload_n 0, 1) := by decide +kernel
theorem dX4_tear_14 : decode cX4_tear 14 = .ok (.iconst 0, 1) := by decide +kernel
theorem dX4_tear_15 : decode cX4_tear 15 = .ok (.putfield 22, 3) := by decide +kernel
theorem dX4_tear_18 : decode cX4_tear 18 = .ok (.iload_n 1, 1) := by decide +kernel
theorem dX4_tear_19 : decode cX4_tear 19 = .ok (.ireturn, 1) := by decide +kernel
theorem dX4_text_0 : decode cX4_text 0 = .ok (.aload_n 0, 1) := by decide +kernel
theorem dX4_text_1 : decode cX4_text 1 = .ok (.getfield 16, 3) := by decide +kernel
theorem dX4_text_4 : decode cX4_text 4 = .ok (.aload_n 0, 1) := by decide +kernel
theorem dX4_text_5 : decode cX4_text 5 = .ok (.getfield 10, 3) := by decide +kernel
theorem dX4_text_8 : decode cX4_text 8 = .ok (.invokevirtual 152, 3) := by decide +kernel
theorem dX4_text_11 : decode cX4_text 11 = .ok (.aload_n 0, 1) := by decide +kernel
theorem dX4_text_12 : decode cX4_text 12 = .ok (.getfield 29, 3) := by decide +kernel
theorem dX4_text_15 : decode cX4_text 15 = .ok (.aload_n 0, 1) := by decide +kernel
theorem dX4_text_16 : decode cX4_text 16 = .ok (.getfield 16, 3) := by decide +kernel
theorem dX4_text_19 : decode cX4_text 19 = .ok (.invokevirtual 207, 3) := by decide +kernel
theorem dX4_text_22 : decode cX4_text 22 = .ok (.istore_n 1, 1) := by decide +kernel
theorem dX4_text_23 : decode cX4_text 23 = .ok (.iload_n 1, 1) := by decide +kernel
theorem dX4_text_24 : decode cX4_text 24 = .ok (.ifCond .lt 14, 3) := by decide +kernel
theorem dX4_text_27 : decode cX4_text 27 = .ok (.aload_n 0, 1) := by decide +kernel
theorem dX4_text_28 : decode cX4_text 28 = .ok (.getfield 10, 3) := by decide +kernel
theorem dX4_text_31 : decode cX4_text 31 = .ok (.aload_n 0, 1) := by decide +kernel
theorem dX4_text_32 : decode cX4_text 32 = .ok (.getfield 16, 3) := by decide +kernel
theorem dX4_text_35 : decode cX4_text 35 = .ok (.invokevirtual 152, 3) := by decide +kernel
theorem dX4_text_38 : decode cX4_text 38 = .ok (.aload_n 0, 1) := by decide +kernel
theorem dX4_text_39 : decode cX4_text 39 = .ok (.getfield 37, 3) := by decide +kernel
theorem dX4_text_42 : decode cX4_text 42 = .ok (.iconst 0, 1) := by decide +kernel
theorem dX4_text_43 : decode cX4_text 43 = .ok (.putfield 198, 3) := by decide +kernel
theorem dX4_text_46 : decode cX4_text 46 = .ok (.iload_n 1, 1) := by decide +kernel
theorem dX4_text_47 : decode cX4_text 47 = .ok (.ireturn, 1) := by decide +kernel
theorem dX4_theirs_0 : decode cX4_theirs 0 = .ok (.iload_n 1, 1) := by decide +kernel
theorem dX4_theirs_1 : decode cX4_theirs 1 = .ok (.invokestatic 49, 3) := by decide +kernel
theorem dX4_theirs_4 : decode cX4_theirs 4 = .ok (.ifCond .eq 32, 3) := by decide +kernel
theorem dX4_theirs_7 : decode cX4_theirs 7 = .ok (.iload_n 2, 1) := by decide +kernel
theorem dX4_theirs_8 : decode cX4_theirs 8 = .ok (.iconst 1, 1) := by decide +kernel
theorem dX4_theirs_9 : decode cX4_theirs 9 = .ok (.iconst 2, 1) := by decide +kernel
theorem dX4_theirs_10 : decode cX4_theirs 10 = .ok (.invokestatic 76, 3) := by decide +kernel
theorem dX4_theirs_13 : decode cX4_theirs 13 = .ok (.ifCond .eq 23, 3) := by decide +kernel
theorem dX4_theirs_16 : decode cX4_theirs 16 = .ok (.iload_n 3, 1) := by decide +kernel
theorem dX4_theirs_17 : decode cX4_theirs 17 = .ok (.iconst 0, 1) := by decide +kernel
theorem dX4_theirs_18 : decode cX4_theirs 18 = .ok (.iload_n 2, 1) := by decide +kernel
theorem dX4_theirs_19 : decode cX4_theirs 19 = .ok (.iconst 1, 1) := by decide +kernel
theorem dX4_theirs_20 : decode cX4_theirs 20 = .ok (.if_icmp .ne 8, 3) := by decide +kernel
theorem dX4_theirs_23 : decode cX4_theirs 23 = .ok (.bipush 99, 2) := by decide +kernel
theorem dX4_theirs_25 : decode cX4_theirs 25 = .ok (.goto 5, 3) := by decide +kernel
theorem dX4_theirs_28 : decode cX4_theirs 28 = .ok (.bipush 99, 2) := by decide +kernel
theorem dX4_theirs_30 : decode cX4_theirs 30 = .ok (.invokestatic 76, 3) := by decide +kernel
theorem dX4_theirs_33 : decode cX4_theirs 33 = .ok (.ifCond .ne 9, 3) := by decide +kernel
theorem dX4_theirs_36 : decode cX4_theirs 36 = .ok (.aload_n 0, 1) := by decide +kernel
theorem dX4_theirs_37 : decode cX4_theirs 37 = .ok (.iconst 0, 1) := by decide +kernel
theorem dX4_theirs_38 : decode cX4_theirs 38 = .ok (.invokevirtual 56, 3) := by decide +kernel
theorem dX4_theirs_41 : decode cX4_theirs 41 = .ok (.ireturn, 1) := by decide +kernel
theorem dX4_theirs_42 : decode cX4_theirs 42 = .ok (.iload_n 2, 1) := by decide +kernel
theorem dX4_theirs_43 : decode cX4_theirs 43 = .ok (.iconst 1, 1) := by decide +kernel
theorem dX4_theirs_44 : decode cX4_theirs 44 = .ok (.if_icmp .ne 13, 3) := by decide +kernel
theorem dX4_theirs_47 : decode cX4_theirs 47 = .ok (.aload_n 0, 1) := by decide +kernel
theorem dX4_theirs_48 : decode cX4_theirs 48 = .ok (.getfield 10, 3) := by decide +kernel
theorem dX4_theirs_51 : decode cX4_theirs 51 = .ok (.getfield 67, 3) := by decide +kernel
theorem dX4_theirs_54 : decode cX4_theirs 54 = .ok (.goto 10, 3) := by decide +kernel
theorem dX4_theirs_57 : decode cX4_theirs 57 = .ok (.aload_n 0, 1) := by decide +kernel
theorem dX4_theirs_58 : decode cX4_theirs 58 = .ok (.getfield 10, 3) := by decide +kernel
theorem dX4_theirs_61 : decode cX4_theirs 61 = .ok (.getfield 70, 3) := by decide +kernel
theorem dX4_theirs_64 : decode cX4_theirs 64 = .ok (.astore 4, 2) := by decide +kernel
theorem dX4_theirs_66 : decode cX4_theirs 66 = .ok (.aload 4, 2) := by decide +kernel
theorem dX4_theirs_68 : decode cX4_theirs 68 = .ok (.iload_n 1, 1) := by decide +kernel
theorem dX4_theirs_69 : decode cX4_theirs 69 = .ok (.iaload, 1) := by decide +kernel
theorem dX4_theirs_70 : decode cX4_theirs 70 = .ok (.istore 5, 2) := by decide +kernel
theorem dX4_theirs_72 : decode cX4_theirs 72 = .ok (.aload 4, 2) := by decide +kernel
theorem dX4_theirs_74 : decode cX4_theirs 74 = .ok (.iload_n 1, 1) := by decide +kernel
theorem dX4_theirs_75 : decode cX4_theirs 75 = .ok (.iload_n 3, 1) := by decide +kernel
theorem dX4_theirs_76 : decode cX4_theirs 76 = .ok (.iastore, 1) := by decide +kernel
theorem dX4_theirs_77 : decode cX4_theirs 77 = .ok (.iload 5, 2) := by decide +kernel
theorem dX4_theirs_79 : decode cX4_theirs 79 = .ok (.ireturn, 1) := by decide +kernel
theorem dX4_undo_0 : decode cX4_undo 0 = .ok (.aload_n 0, 1) := by decide +kernel
theorem dX4_undo_1 : decode cX4_undo 1 = .ok (.getfield 22, 3) := by decide +kernel
theorem dX4_undo_4 : decode cX4_undo 4 = .ok (.ifCond .ne 9, 3) := by decide +kernel
theorem dX4_undo_7 : decode cX4_undo 7 = .ok (.aload_n 0, 1) := by decide +kernel
theorem dX4_undo_8 : decode cX4_undo 8 = .ok (.iconst 3, 1) := by decide +kernel
theorem dX4_undo_9 : decode cX4_undo 9 = .ok (.invokevirtual 56, 3) := by decide +kernel
theorem dX4_undo_12 : decode cX4_undo 12 = .ok (.ireturn, 1) := by decide +kernel
theorem dX4_undo_13 : decode cX4_undo 13 = .ok (.aload_n 0, 1) := by decide +kernel
theorem dX4_undo_14 : decode cX4_undo 14 = .ok (.getfield 10, 3) := by decide +kernel
theorem dX4_undo_17 : decode cX4_undo 17 = .ok (.aload_n 0, 1) := by decide +kernel
theorem dX4_undo_18 : decode cX4_undo 18 = .ok (.getfield 19, 3) := by decide +kernel
theorem dX4_undo_21 : decode cX4_undo 21 = .ok (.invokevirtual 152, 3) := by decide +kernel
theorem dX4_undo_24 : decode cX4_undo 24 = .ok (.aload_n 0, 1) := by decide +kernel
theorem dX4_undo_25 : decode cX4_undo 25 = .ok (.getfield 10, 3) := by decide +kernel
theorem dX4_undo_28 : decode cX4_undo 28 = .ok (.getfield 122, 3) := by decide +kernel
theorem dX4_undo_31 : decode cX4_undo 31 = .ok (.ireturn, 1) := by decide +kernel
theorem dX4_when_0 : decode cX4_when 0 = .ok (.aload_n 0, 1) := by decide +kernel
theorem dX4_when_1 : decode cX4_when 1 = .ok (.iload_n 1, 1) := by decide +kernel
theorem dX4_when_2 : decode cX4_when 2 = .ok (.invokevirtual 100, 3) := by decide +kernel
theorem dX4_when_5 : decode cX4_when 5 = .ok (.ifCond .eq 14, 3) := by decide +kernel
theorem dX4_when_8 : decode cX4_when 8 = .ok (.iload_n 2, 1) := by decide +kernel
theorem dX4_when_9 : decode cX4_when 9 = .ok (.iconst 0, 1) := by decide +kernel
theorem dX4_when_10 : decode cX4_when 10 = .ok (.sipush 9999, 3) := by decide +kernel
theorem dX4_when_13 : decode cX4_when 13 = .ok (.invokestatic 76, 3) := by decide +kernel
theorem dX4_when_16 : decode cX4_when 16 = .ok (.ifCond .ne 9, 3) := by decide +kernel
theorem dX4_when_19 : decode cX4_when 19 = .ok (.aload_n 0, 1) := by decide +kernel
theorem dX4_when_20 : decode cX4_when 20 = .ok (.iconst 0, 1) := by decide +kernel
theorem dX4_when_21 : decode cX4_when 21 = .ok (.invokevirtual 56, 3) := by decide +kernel
theorem dX4_when_24 : decode cX4_when 24 = .ok (.ireturn, 1) := by decide +kernel
theorem dX4_when_25 : decode cX4_when 25 = .ok (.aload_n 0, 1) := by decide +kernel
theorem dX4_when_26 : decode cX4_when 26 = .ok (.getfield 16, 3) := by decide +kernel
theorem dX4_when_29 : decode cX4_when 29 = .ok (.aload_n 0, 1) := by decide +kernel
theorem dX4_when_30 : decode cX4_when 30 = .ok (.getfield 10, 3) := by decide +kernel
theorem dX4_when_33 : decode cX4_when 33 = .ok (.invokevirtual 152, 3) := by decide +kernel
theorem dX4_when_36 : decode cX4_when 36 = .ok (.iconst 0, 1) := by decide +kernel
theorem dX4_when_37 : decode cX4_when 37 = .ok (.istore_n 3, 1) := by decide +kernel
theorem dX4_when_38 : decode cX4_when 38 = .ok (.iload_n 3, 1) := by decide +kernel
theorem dX4_when_39 : decode cX4_when 39 = .ok (.bipush 100, 2) := by decide +kernel
theorem dX4_when_41 : decode cX4_when 41 = .ok (.if_icmp .gt 31, 3) := by decide +kernel
theorem dX4_when_44 : decode cX4_when 44 = .ok (.aload_n 0, 1) := by decide +kernel
theorem dX4_when_45 : decode cX4_when 45 = .ok (.getfield 16, 3) := by decide +kernel
theorem dX4_when_48 : decode cX4_when 48 = .ok (.getfield 132, 3) := by decide +kernel
theorem dX4_when_51 : decode cX4_when 51 = .ok (.iload_n 1, 1) := by decide +kernel
theorem dX4_when_52 : decode cX4_when 52 = .ok (.iaload, 1) := by decide +kernel
theorem dX4_when_53 : decode cX4_when 53 = .ok (.iload_n 2, 1) := by decide +kernel
theorem dX4_when_54 : decode cX4_when 54 = .ok (.if_icmp .lt 5, 3) := by decide +kernel
theorem dX4_when_57 : decode cX4_when 57 = .ok (.iload_n 3, 1) := by decide +kernel
theorem dX4_when_58 : decode cX4_when 58 = .ok (.ireturn, 1) := by decide +kernel
theorem dX4_when_59 : decode cX4_when 59 = .ok (.aload_n 0, 1) := by decide +kernel
theorem dX4_when_60 : decode cX4_when 60 = .ok (.getfield 16, 3) := by decide +kernel
theorem dX4_when_63 : decode cX4_when 63 = .ok (.invokevirtual 156, 3) := by decide +kernel
theorem dX4_when_66 : decode cX4_when 66 = .ok (.iinc 3 1, 3) := by decide +kernel
theorem dX4_when_69 : decode cX4_when 69 = .ok (.goto (-31), 3) := by decide +kernel
theorem dX4_when_72 : decode cX4_when 72 = .ok (.aload_n 0, 1) := by decide +kernel
theorem dX4_when_73 : decode cX4_when 73 = .ok (.iconst 3, 1) := by decide +kernel
theorem dX4_when_74 : decode cX4_when 74 = .ok (.invokevirtual 56, 3) := by decide +kernel
theorem dX4_when_77 : decode cX4_when 77 = .ok (.ireturn, 1) := by decide +kernel
theorem dX4_wipe_0 : decode cX4_wipe 0 = .ok (.aload_n 0, 1) := by decide +kernel
theorem dX4_wipe_1 : decode cX4_wipe 1 = .ok (.getfield 37, 3) := by decide +kernel
theorem dX4_wipe_4 : decode cX4_wipe 4 = .ok (.getfield 198, 3) := by decide +kernel
theorem dX4_wipe_7 : decode cX4_wipe 7 = .ok (.istore_n 1, 1) := by decide +kernel
theorem dX4_wipe_8 : decode cX4_wipe 8 = .ok (.aload_n 0, 1) := by decide +kernel
theorem dX4_wipe_9 : decode cX4_wipe 9 = .ok (.getfield 37, 3) := by decide +kernel
theorem dX4_wipe_12 : decode cX4_wipe 12 = .ok (.iconst 0, 1) := by decide +kernel
theorem dX4_wipe_13 : decode cX4_wipe 13 = .ok (.putfield 198, 3) := by decide +kernel
theorem dX4_wipe_16 : decode cX4_wipe 16 = .ok (.iload_n 1, 1) := by decide +kernel
theorem dX4_wipe_17 : decode cX4_wipe 17 = .ok (.ireturn, 1) := by decide +kernel
theorem dX4_within_0 : decode cX4_within 0 = .ok (.iload_n 0, 1) := by decide +kernel
theorem dX4_within_1 : decode cX4_within 1 = .ok (.iload_n 1, 1) := by decide +kernel
theorem dX4_within_2 : decode cX4_within 2 = .ok (.if_icmp .lt 12, 3) := by decide +kernel
theorem dX4_within_5 : decode cX4_within 5 = .ok (.iload_n 0, 1) := by decide +kernel
theorem dX4_within_6 : decode cX4_within 6 = .ok (.iload_n 2, 1) := by decide +kernel
theorem dX4_within_7 : decode cX4_within 7 = .ok (.if_icmp .gt 7, 3) := by decide +kernel
theorem dX4_within_10 : decode cX4_within 10 = .ok (.iconst 1, 1) := by decide +kernel
theorem dX4_within_11 : decode cX4_within 11 = .ok (.goto 4, 3) := by decide +kernel
theorem dX4_within_14 : decode cX4_within 14 = .ok (.iconst 0, 1) := by decide +kernel
theorem dX4_within_15 : decode cX4_within 15 = .ok (.ireturn, 1) := by decide +kernel
theorem dX4_write_0 : decode cX4_write 0 = .ok (.aload_n 0, 1) := by decide +kernel
theorem dX4_write_1 : decode cX4_write 1 = .ok (.iload_n 1, 1) := by decide +kernel
theorem dX4_write_2 : decode cX4_write 2 = .ok (.invokevirtual 175, 3) := by decide +kernel
theorem dX4_write_5 : decode cX4_write 5 = .ok (.istore 4, 2) := by decide +kernel
theorem dX4_write_7 : decode cX4_write 7 = .ok (.iload 4, 2) := by decide +kernel
theorem dX4_write_9 : decode cX4_write 9 = .ok (.iconst (-1), 1) := by decide +kernel
theorem dX4_write_10 : decode cX4_write 10 = .ok (.if_icmp .eq 10, 3) := by decide +kernel
theorem dX4_write_13 : decode cX4_write 13 = .ok (.aload_n 0, 1) := by decide +kernel
theorem dX4_write_14 : decode cX4_write 14 = .ok (.iload 4, 2) := by decide +kernel
theorem dX4_write_16 : decode cX4_write 16 = .ok (.invokevirtual 56, 3) := by decide +kernel
theorem dX4_write_19 : decode cX4_write 19 = .ok (.ireturn, 1) := by decide +kernel
theorem dX4_write_20 : decode cX4_write 20 = .ok (.iload_n 2, 1) := by decide +kernel
theorem dX4_write_21 : decode cX4_write 21 = .ok (.iconst 0, 1) := by decide +kernel
theorem dX4_write_22 : decode cX4_write 22 = .ok (.aload_n 0, 1) := by decide +kernel
theorem dX4_write_23 : decode cX4_write 23 = .ok (.getfield 40, 3) := by decide +kernel
theorem dX4_write_26 : decode cX4_write 26 = .ok (.iload_n 1, 1) := by decide +kernel
theorem dX4_write_27 : decode cX4_write 27 = .ok (.aaload, 1) := by decide +kernel
theorem dX4_write_28 : decode cX4_write 28 = .ok (.getfield 224, 3) := by decide +kernel
theorem dX4_write_31 : decode cX4_write 31 = .ok (.iconst 1, 1) := by decide +kernel
theorem dX4_write_32 : decode cX4_write 32 = .ok (.isub, 1) := by decide +kernel
theorem dX4_write_33 : decode cX4_write 33 = .ok (.invokestatic 76, 3) := by decide +kernel
theorem dX4_write_36 : decode cX4_write 36 = .ok (.ifCond .ne 9, 3) := by decide +kernel
theorem dX4_write_39 : decode cX4_write 39 = .ok (.aload_n 0, 1) := by decide +kernel
theorem dX4_write_40 : decode cX4_write 40 = .ok (.iconst 0, 1) := by decide +kernel
theorem dX4_write_41 : decode cX4_write 41 = .ok (.invokevirtual 56, 3) := by decide +kernel
theorem dX4_write_44 : decode cX4_write 44 = .ok (.ireturn, 1) := by decide +kernel
theorem dX4_write_45 : decode cX4_write 45 = .ok (.aload_n 0, 1) := by decide +kernel
theorem dX4_write_46 : decode cX4_write 46 = .ok (.getfield 40, 3) := by decide +kernel
theorem dX4_write_49 : decode cX4_write 49 = .ok (.iload_n 1, 1) := by decide +kernel
theorem dX4_write_50 : decode cX4_write 50 = .ok (.aaload, 1) := by decide +kernel
theorem dX4_write_51 : decode cX4_write 51 = .ok (.iload_n 2, 1) := by decide +kernel
theorem dX4_write_52 : decode cX4_write 52 = .ok (.iload_n 3, 1) := by decide +kernel
theorem dX4_write_53 : decode cX4_write 53 = .ok (.invokevirtual 225, 3) := by decide +kernel
theorem dX4_write_56 : decode cX4_write 56 = .ok (.iconst 1, 1) := by decide +kernel
theorem dX4_write_57 : decode cX4_write 57 = .ok (.ireturn, 1) := by decide +kernel
theorem dX5_above_0 : decode cX5_above 0 = .ok (.iload_n 0, 1) := by decide +kernel
theorem dX5_above_1 : decode cX5_above 1 = .ok (.ifCond .ne 7, 3) := by decide +kernel
theorem dX5_above_4 : decode cX5_above 4 = .ok (.iconst (-1), 1) := by decide +kernel
theorem dX5_above_5 : decode cX5_above 5 = .ok (.goto 32, 3) := by decide +kernel
theorem dX5_above_8 : decode cX5_above 8 = .ok (.iload_n 0, 1) := by decide +kernel
theorem dX5_above_9 : decode cX5_above 9 = .ok (.iconst 3, 1) := by decide +kernel
theorem dX5_above_10 : decode cX5_above 10 = .ok (.if_icmp .ne 7, 3) := by decide +kernel
theorem dX5_above_13 : decode cX5_above 13 = .ok (.iconst 2, 1) := by decide +kernel
theorem dX5_above_14 : decode cX5_above 14 = .ok (.goto 23, 3) := by decide +kernel
theorem dX5_above_17 : decode cX5_above 17 = .ok (.iload_n 0, 1) := by decide +kernel
theorem dX5_above_18 : decode cX5_above 18 = .ok (.iconst 4, 1) := by decide +kernel
theorem dX5_above_19 : decode cX5_above 19 = .ok (.if_icmp .ne 7, 3) := by decide +kernel
theorem dX5_above_22 : decode cX5_above 22 = .ok (.iconst 3, 1) := by decide +kernel
theorem dX5_above_23 : decode cX5_above 23 = .ok (.goto 14, 3) := by decide +kernel
theorem dX5_above_26 : decode cX5_above 26 = .ok (.iload_n 0, 1) := by decide +kernel
theorem dX5_above_27 : decode cX5_above 27 = .ok (.bipush 6, 2) := by decide +kernel
theorem dX5_above_29 : decode cX5_above 29 = .ok (.if_icmp .ne 7, 3) := by decide +kernel
theorem dX5_above_32 : decode cX5_above 32 = .ok (.iconst 1, 1) := by decide +kernel
theorem dX5_above_33 : decode cX5_above 33 = .ok (.goto 4, 3) := by decide +kernel
theorem dX5_above_36 : decode cX5_above 36 = .ok (.iconst 0, 1) := by decide +kernel
theorem dX5_above_37 : decode cX5_above 37 = .ok (.ireturn, 1) := by decide +kernel
theorem dX5_addItem_0 : decode cX5_addItem 0 = .ok (.aload_n 0, 1) := by decide +kernel
theorem dX5_addItem_1 : decode cX5_addItem 1 = .ok (.getfield 45, 3) := by decide +kernel
theorem dX5_addItem_4 : decode cX5_addItem 4 = .ok (.aload_n 0, 1) := by decide +kernel
theorem dX5_addItem_5 : decode cX5_addItem 5 = .ok (.getfield 256, 3) := by decide +kernel
theorem dX5_addItem_8 : decode cX5_addItem 8 = .ok (.iload_n 1, 1) := by decide +kernel
theorem dX5_addItem_9 : decode cX5_addItem 9 = .ok (.iastore, 1) := by decide +kernel
theorem dX5_addItem_10 : decode cX5_addItem 10 = .ok (.aload_n 0, 1) := by decide +kernel
theorem dX5_addItem_11 : decode cX5_addItem 11 = .ok (.getfield 48, 3) := by decide +kernel
theorem dX5_addItem_14 : decode cX5_addItem 14 = .ok (.aload_n 0, 1) := by decide +kernel
theorem dX5_addItem_15 : decode cX5_addItem 15 = .ok (.getfield 256, 3) := by decide +kernel
theorem dX5_addItem_18 : decode cX5_addItem 18 = .ok (.iload_n 2, 1) := by decide +kernel
theorem dX5_addItem_19 : decode cX5_addItem 19 = .ok (.iastore, 1) := by decide +kernel
theorem dX5_addItem_20 : decode cX5_addItem 20 = .ok (.aload_n 0, 1) := by decide +kernel
theorem dX5_addItem_21 : decode cX5_addItem 21 = .ok (.getfield 51, 3) := by decide +kernel
theorem dX5_addItem_24 : decode cX5_addItem 24 = .ok (.aload_n 0, 1) := by decide +kernel
theorem dX5_addItem_25 : decode cX5_addItem 25 = .ok (.getfield 256, 3) := by decide +kernel
theorem dX5_addItem_28 : decode cX5_addItem 28 = .ok (.iload_n 3, 1) := by decide +kernel
theorem dX5_addItem_29 : decode cX5_addItem 29 = .ok (.iastore, 1) := by decide +kernel
theorem dX5_addItem_30 : decode cX5_addItem 30 = .ok (.aload_n 0, 1) := by decide +kernel
theorem dX5_addItem_31 : decode cX5_addItem 31 = .ok (.dup, 1) := by decide +kernel
theorem dX5_addItem_32 : decode cX5_addItem 32 = .ok (.getfield 256, 3) := by decide +kernel
theorem dX5_addItem_35 : decode cX5_addItem 35 = .ok (.iconst 1, 1) := by decide +kernel
theorem dX5_addItem_36 : decode cX5_addItem 36 = .ok (.iadd, 1) := by decide +kernel
theorem dX5_addItem_37 : decode cX5_addItem 37 = .ok (.putfield 256, 3) := by decide +kernel
theorem dX5_addItem_40 : decode cX5_addItem 40 = .ok (.return_, 1) := by decide +kernel
theorem dX5_ahead_0 : decode cX5_ahead 0 = .ok (.aload_n 0, 1) := by decide +kernel
theorem dX5_ahead_1 : decode cX5_ahead 1 = .ok (.iload_n 1, 1) := by decide +kernel
theorem dX5_ahead_2 : decode cX5_ahead 2 = .ok (.invokevirtual 87, 3) := by decide +kernel
theorem dX5_ahead_5 : decode cX5_ahead 5 = .ok (.ifCond .eq 22, 3) := by decide +kernel
theorem dX5_ahead_8 : decode cX5_ahead 8 = .ok (.iload_n 2, 1) := by decide +kernel
theorem dX5_ahead_9 : decode cX5_ahead 9 = .ok (.iconst 2, 1) := by decide +kernel
theorem dX5_ahead_10 : decode cX5_ahead 10 = .ok (.iconst 5, 1) := by decide +kernel
theorem dX5_ahead_11 : decode cX5_ahead 11 = .ok (.invokestatic 76, 3) := by decide +kernel
theorem dX5_ahead_14 : decode cX5_ahead 14 = .ok (.ifCond .eq 13, 3) := by decide +kernel
theorem dX5_ahead_17 : decode cX5_ahead 17 = .ok (.iload_n 3, 1) := by decide +kernel
theorem dX5_ahead_18 : decode cX5_ahead 18 = .ok (.iconst 0, 1) := by decide +kernel
theorem dX5_ahead_19 : decode cX5_ahead 19 = .ok (.bipush 100, 2) := by decide +kernel
theorem dX5_ahead_21 : decode cX5_ahead 21 = .ok (.invokestatic 76, 3) := by decide +kernel
theorem dX5_ahead_24 : decode cX5_ahead 24 = .ok (.ifCond .ne 10, 3) := by decide +kernel
theorem dX5_ahead_27 : decode cX5_ahead 27 = .ok (.aload_n 0, 1) := by decide +kernel
theorem dX5_ahead_28 : decode cX5_ahead 28 = .ok (.ldc 66, 2) := by decide +kernel
theorem dX5_ahead_30 : decode cX5_ahead 30 = .ok (.invokevirtual 72, 3) := by decide +kernel
theorem dX5_ahead_33 : decode cX5_ahead 33 = .ok (.ireturn, 1) := by decide +kernel
theorem dX5_ahead_34 : decode cX5_ahead 34 = .ok (.aload_n 0, 1) := by decide +kernel
theorem dX5_ahead_35 : decode cX5_ahead 35 = .ok (.getfield 9, 3) := by decide +kernel
theorem dX5_ahead_38 : decode cX5_ahead 38 = .ok (.aload_n 0, 1) := by decide +kernel
theorem dX5_ahead_39 : decode cX5_ahead 39 = .ok (.getfield 16, 3) := by decide +kernel
theorem dX5_ahead_42 : decode cX5_ahead 42 = .ok (.invokestatic 67, 3) := by decide +kernel
theorem dX5_ahead_45 : decode cX5_ahead 45 = .ok (.aload_n 0, 1) := by decide +kernel
theorem dX5_ahead_46 : decode cX5_ahead 46 = .ok (.iload_n 3, 1) := by decide +kernel
theorem dX5_ahead_47 : decode cX5_ahead 47 = .ok (.invokevirtual 159, 3) := by decide +kernel
theorem dX5_ahead_50 : decode cX5_ahead 50 = .ok (.aload_n 0, 1) := by decide +kernel
theorem dX5_ahead_51 : decode cX5_ahead 51 = .ok (.iload_n 2, 1) := by decide +kernel
theorem dX5_ahead_52 : decode cX5_ahead 52 = .ok (.iconst 5, 1) := by decide +kernel
theorem dX5_ahead_53 : decode cX5_ahead 53 = .ok (.if_icmp .ne 11, 3) := by decide +kernel
theorem dX5_ahead_56 : decode cX5_ahead 56 = .ok (.aload_n 0, 1) := by decide +kernel
theorem dX5_ahead_57 : decode cX5_ahead 57 = .ok (.iload_n 1, 1) := by decide +kernel
theorem dX5_ahead_58 : decode cX5_ahead 58 = .ok (.invokevirtual 127, 3) := by decide +kernel
theorem dX5_ahead_61 : decode cX5_ahead 61 = .ok (.goto 9, 3) := by decide +kernel
theorem dX5_ahead_64 : decode cX5_ahead 64 = .ok (.aload_n 0, 1) := by decide +kernel
theorem dX5_ahead_65 : decode cX5_ahead 65 = .ok (.iload_n 1, 1) := by decide +kernel
theorem dX5_ahead_66 : decode cX5_ahead 66 = .ok (.iload_n 2, 1) := by decide +kernel
theorem dX5_ahead_67 : decode cX5_ahead 67 = .ok (.invokevirtual 119, 3) := by decide +kernel
theorem dX5_ahead_70 : decode cX5_ahead 70 = .ok (.invokevirtual 175, 3) := by decide +kernel
theorem dX5_ahead_73 : decode cX5_ahead 73 = .ok (.ireturn, 1) := by decide +kernel
theorem dX5_areMetresSo_0 : decode cX5_areMetresSo 0 = .ok (.aload_n 0, 1) := by decide +kernel
theorem dX5_areMetresSo_1 : decode cX5_areMetresSo 1 = .ok (.getfield 9, 3) := by decide +kernel
theorem dX5_areMetresSo_4 : decode cX5_areMetresSo 4 = .ok (.aload_n 0, 1) := by decide +kernel
theorem dX5_areMetresSo_5 : decode cX5_areMetresSo 5 = .ok (.getfield 16, 3) := by decide +kernel
theorem dX5_areMetresSo_8 : decode cX5_areMetresSo 8 = .ok (.invokestatic 67, 3) := by decide +kernel
theorem dX5_areMetresSo_11 : decode cX5_areMetresSo 11 = .ok (.iconst 1, 1) := by decide +kernel
theorem dX5_areMetresSo_12 : decode cX5_areMetresSo 12 = .ok (.istore_n 2, 1) := by decide +kernel
theorem dX5_areMetresSo_13 : decode cX5_areMetresSo 13 = .ok (.iconst 0, 1) := by decide +kernel
theorem dX5_areMetresSo_14 : decode cX5_areMetresSo 14 = .ok (.istore_n 3, 1) := by decide +kernel
theorem dX5_areMetresSo_15 : decode cX5_areMetresSo 15 = .ok (.iload_n 3, 1) := by decide +kernel
theorem dX5_areMetresSo_16 : decode cX5_areMetresSo 16 = .ok (.aload_n 0, 1) := by decide +kernel
theorem dX5_areMetresSo_17 : decode cX5_areMetresSo 17 = .ok (.getfield 57, 3) := by decide +kernel
theorem dX5_areMetresSo_20 : decode cX5_areMetresSo 20 = .ok (.iload_n 1, 1) := by decide +kernel
theorem dX5_areMetresSo_21 : decode cX5_areMetresSo 21 = .ok (.iaload, 1) := by decide +kernel
theorem dX5_areMetresSo_22 : decode cX5_areMetresSo 22 = .ok (.if_icmp .ge 53, 3) := by decide +kernel
theorem dX5_areMetresSo_25 : decode cX5_areMetresSo 25 = .ok (.iload_n 2, 1) := by decide +kernel
theorem dX5_areMetresSo_26 : decode cX5_areMetresSo 26 = .ok (.ifCond .eq 49, 3) := by decide +kernel
theorem dX5_areMetresSo_29 : decode cX5_areMetresSo 29 = .ok (.aload_n 0, 1) := by decide +kernel
theorem dX5_areMetresSo_30 : decode cX5_areMetresSo 30 = .ok (.getfield 60, 3) := by decide +kernel
theorem dX5_areMetresSo_33 : decode cX5_areMetresSo 33 = .ok (.bipush 40, 2) := by decide +kernel
theorem dX5_areMetresSo_35 : decode cX5_areMetresSo 35 = .ok (.iload_n 1, 1) := by decide +kernel
theorem dX5_areMetresSo_36 : decode cX5_areMetresSo 36 = .ok (.imul, 1) := by decide +kernel
theorem dX5_areMetresSo_37 : decode cX5_areMetresSo 37 = .ok (.iload_n 3, 1) := by decide +kernel
theorem dX5_areMetresSo_38 : decode cX5_areMetresSo 38 = .ok (.iadd, 1) := by decide +kernel
theorem dX5_areMetresSo_39 : decode cX5_areMetresSo 39 = .ok (.iaload, 1) := by decide +kernel
theorem dX5_areMetresSo_40 : decode cX5_areMetresSo 40 = .ok (.istore 4, 2) := by decide +kernel
theorem dX5_areMetresSo_42 : decode cX5_areMetresSo 42 = .ok (.iload 4, 2) := by decide +kernel
theorem dX5_areMetresSo_44 : decode cX5_areMetresSo 44 = .ok (.iconst (-1), 1) := by decide +kernel
theorem dX5_areMetresSo_45 : decode cX5_areMetresSo 45 = .ok (.if_icmp .eq 14, 3) := by decide +kernel
theorem dX5_areMetresSo_48 : decode cX5_areMetresSo 48 = .ok (.iload 4, 2) := by decide +kernel
theorem dX5_areMetresSo_50 : decode cX5_areMetresSo 50 = .ok (.aload_n 0, 1) := by decide +kernel
theorem dX5_areMetresSo_51 : decode cX5_areMetresSo 51 = .ok (.getfield 9, 3) := by decide +kernel
theorem dX5_areMetresSo_54 : decode cX5_areMetresSo 54 = .ok (.iconst 3, 1) := by decide +kernel
theorem dX5_areMetresSo_55 : decode cX5_areMetresSo 55 = .ok (.iaload, 1) := by decide +kernel
theorem dX5_areMetresSo_56 : decode cX5_areMetresSo 56 = .ok (.if_icmp .ne 7, 3) := by decide +kernel
theorem dX5_areMetresSo_59 : decode cX5_areMetresSo 59 = .ok (.iconst 1, 1) := by decide +kernel
theorem dX5_areMetresSo_60 : decode cX5_areMetresSo 60 = .ok (.goto 4, 3) := by decide +kernel
theorem dX5_areMetresSo_63 : decode cX5_areMetresSo 63 = .ok (.iconst 0, 1) := by decide +kernel
theorem dX5_areMetresSo_64 : decode cX5_areMetresSo 64 = .ok (.istore_n 2, 1) := by decide +kernel
theorem dX5_areMetresSo_65 : decode cX5_areMetresSo 65 = .ok (.aload_n 0, 1) := by decide +kernel
theorem dX5_areMetresSo_66 : decode cX5_areMetresSo 66 = .ok (.invokevirtual 155, 3) := by decide +kernel
theorem dX5_areMetresSo_69 : decode cX5_areMetresSo 69 = .ok (.iinc 3 1, 3) := by decide +kernel
theorem dX5_areMetresSo_72 : decode cX5_areMetresSo 72 = .ok (.goto (-57), 3) := by decide +kernel
theorem dX5_areMetresSo_75 : decode cX5_areMetresSo 75 = .ok (.aload_n 0, 1) := by decide +kernel
theorem dX5_areMetresSo_76 : decode cX5_areMetresSo 76 = .ok (.getfield 16, 3) := by decide +kernel
theorem dX5_areMetresSo_79 : decode cX5_areMetresSo 79 = .ok (.aload_n 0, 1) := by decide +kernel
theorem dX5_areMetresSo_80 : decode cX5_areMetresSo 80 = .ok (.getfield 9, 3) := by decide +kernel
theorem dX5_areMetresSo_83 : decode cX5_areMetresSo 83 = .ok (.invokestatic 67, 3) := by decide +kernel
theorem dX5_areMetresSo_86 : decode cX5_areMetresSo 86 = .ok (.iload_n 2, 1) := by decide +kernel
theorem dX5_areMetresSo_87 : decode cX5_areMetresSo 87 = .ok (.ireturn, 1) := by decide +kernel
theorem dX5_as_0 : decode cX5_as 0 = .ok (.iload_n 1, 1) := by decide +kernel
theorem dX5_as_1 : decode cX5_as 1 = .ok (.invokestatic 305, 3) := by decide +kernel
theorem dX5_as_4 : decode cX5_as 4 = .ok (.ifCond .eq 10, 3) := by decide +kernel
theorem dX5_as_7 : decode cX5_as 7 = .ok (.iload_n 2, 1) := by decide +kernel
theorem dX5_as_8 : decode cX5_as 8 = .ok (.invokestatic 112, 3) := by decide +kernel
theorem dX5_as_11 : decode cX5_as 11 = .ok (.ifCond .ne 10, 3) := by decide +kernel
theorem dX5_as_14 : decode cX5_as 14 = .ok (.aload_n 0, 1) := by decide +kernel
theorem dX5_as_15 : decode cX5_as 15 = .ok (.ldc 66, 2) := by decide +kernel
theorem dX5_as_17 : decode cX5_as 17 = .ok (.invokevirtual 72, 3) := by decide +kernel
theorem dX5_as_20 : decode cX5_as 20 = .ok (.ireturn, 1) := by decide +kernel
theorem dX5_as_21 : decode cX5_as 21 = .ok (.aload_n 0, 1) := by decide +kernel
theorem dX5_as_22 : decode cX5_as 22 = .ok (.getfield 9, 3) := by decide +kernel
theorem dX5_as_25 : decode cX5_as 25 = .ok (.bipush 7, 2) := by decide +kernel
theorem dX5_as_27 : decode cX5_as 27 = .ok (.iload_n 1, 1) := by decide +kernel
theorem dX5_as_28 : decode cX5_as 28 = .ok (.iadd, 1) := by decide +kernel
theorem dX5_as_29 : decode cX5_as 29 = .ok (.iaload, 1) := by decide +kernel
theorem dX5_as_30 : decode cX5_as 30 = .ok (.istore_n 3, 1) := by decide +kernel
theorem dX5_as_31 : decode cX5_as 31 = .ok (.iload_n 3, 1) := by decide +kernel
theorem dX5_as_32 : decode cX5_as 32 = .ok (.ifCond .ge 10, 3) := by decide +kernel
theorem dX5_as_35 : decode cX5_as 35 = .ok (.aload_n 0, 1) := by decide +kernel
theorem dX5_as_36 : decode cX5_as 36 = .ok (.ldc 198, 2) := by decide +kernel
theorem dX5_as_38 : decode cX5_as 38 = .ok (.invokevirtual 72, 3) := by decide +kernel
theorem dX5_as_41 : decode cX5_as 41 = .ok (.ireturn, 1) := by decide +kernel
theorem dX5_as_42 : decode cX5_as 42 = .ok (.aload_n 0, 1) := by decide +kernel
theorem dX5_as_43 : decode cX5_as 43 = .ok (.iload_n 3, 1) := by decide +kernel
theorem dX5_as_44 : decode cX5_as 44 = .ok (.iconst 0, 1) := by decide +kernel
theorem dX5_as_45 : decode cX5_as 45 = .ok (.invokevirtual 119, 3) := by decide +kernel
theorem dX5_as_48 : decode cX5_as 48 = .ok (.iload_n 2, 1) := by decide +kernel
theorem dX5_as_49 : decode cX5_as 49 = .ok (.invokestatic 308, 3) := by decide +kernel
theorem dX5_as_52 : decode cX5_as 52 = .ok (.ifCond .eq 7, 3) := by decide +kernel
theorem dX5_as_55 : decode cX5_as 55 = .ok (.iload_n 3, 1) := by decide +kernel
theorem dX5_as_56 : decode cX5_as 56 = .ok (.goto 10, 3) := by decide +kernel
theorem dX5_as_59 : decode cX5_as 59 = .ok (.aload_n 0, 1) := by decide +kernel
theorem dX5_as_60 : decode cX5_as 60 = .ok (.ldc_w 311, 3) := by decide +kernel
theorem dX5_as_63 : decode cX5_as 63 = .ok (.invokevirtual 72, 3) := by decide +kernel
theorem dX5_as_66 : decode cX5_as 66 = .ok (.ireturn, 1) := by decide +kernel
theorem dX5_become_0 : decode cX5_become 0 = .ok (.aload_n 0, 1) := by decide +kernel
theorem dX5_become_1 : decode cX5_become 1 = .ok (.getfield 9, 3) := by decide +kernel
theorem dX5_become_4 : decode cX5_become 4 = .ok (.iload_n 1, 1) := by decide +kernel
theorem dX5_become_5 : decode cX5_become 5 = .ok (.iaload, 1) := by decide +kernel
theorem dX5_become_6 : decode cX5_become 6 = .ok (.istore_n 3, 1) := by decide +kernel
theorem dX5_become_7 : decode cX5_become 7 = .ok (.aload_n 0, 1) := by decide +kernel
theorem dX5_become_8 : decode cX5_become 8 = .ok (.getfield 9, 3) := by decide +kernel
theorem dX5_become_11 : decode cX5_become 11 = .ok (.iload_n 1, 1) := by decide +kernel
theorem dX5_become_12 : decode cX5_become 12 = .ok (.iload_n 2, 1) := by decide +kernel
theorem dX5_become_13 : decode cX5_become 13 = .ok (.iastore, 1) := by decide +kernel
theorem dX5_become_14 : decode cX5_become 14 = .ok (.iload_n 3, 1) := by decide +kernel
theorem dX5_become_15 : decode cX5_become 15 = .ok (.ireturn, 1) := by decide +kernel
theorem dX5_behind_0 : decode cX5_behind 0 = .ok (.aload_n 0, 1) := by decide +kernel
theorem dX5_behind_1 : decode cX5_behind 1 = .ok (.getfield 9, 3) := by decide +kernel
theorem dX5_behind_4 : decode cX5_behind 4 = .ok (.aload_n 0, 1) := by decide +kernel
theorem dX5_behind_5 : decode cX5_behind 5 = .ok (.getfield 16, 3) := by decide +kernel
theorem dX5_behind_8 : decode cX5_behind 8 = .ok (.invokestatic 67, 3) := by decide +kernel
theorem dX5_behind_11 : decode cX5_behind 11 = .ok (.aload_n 0, 1) := by decide +kernel
theorem dX5_behind_12 : decode cX5_behind 12 = .ok (.iload_n 2, 1) := by decide +kernel
theorem dX5_behind_13 : decode cX5_behind 13 = .ok (.invokevirtual 159, 3) := by decide +kernel
theorem dX5_behind_16 : decode cX5_behind 16 = .ok (.aload_n 0, 1) := by decide +kernel
theorem dX5_behind_17 : decode cX5_behind 17 = .ok (.aload_n 0, 1) := by decide +kernel
theorem dX5_behind_18 : decode cX5_behind 18 = .ok (.getfield 9, 3) := by decide +kernel
theorem dX5_behind_21 : decode cX5_behind 21 = .ok (.iload_n 1, 1) := by decide +kernel
theorem dX5_behind_22 : decode cX5_behind 22 = .ok (.iaload, 1) := by decide +kernel
theorem dX5_behind_23 : decode cX5_behind 23 = .ok (.invokevirtual 175, 3) := by decide +kernel
theorem dX5_behind_26 : decode cX5_behind 26 = .ok (.ireturn, 1) := by decide +kernel
theorem dX5_bestFor_0 : decode cX5_bestFor 0 = .ok (.aload_n 0, 1) := by decide +kernel
theorem dX5_bestFor_1 : decode cX5_bestFor 1 = .ok (.getfield 9, 3) := by decide +kernel
theorem dX5_bestFor_4 : decode cX5_bestFor 4 = .ok (.iload_n 1, 1) := by decide +kernel
theorem dX5_bestFor_5 : decode cX5_bestFor 5 = .ok (.iaload, 1) := by decide +kernel
theorem dX5_bestFor_6 : decode cX5_bestFor 6 = .ok (.istore 5, 2) := by decide +kernel
theorem dX5_bestFor_8 : decode cX5_bestFor 8 = .ok (.iconst 0, 1) := by decide +kernel
theorem dX5_bestFor_9 : decode cX5_bestFor 9 = .ok (.istore 6, 2) := by decide +kernel
theorem dX5_bestFor_11 : decode cX5_bestFor 11 = .ok (.iconst (-1), 1) := by decide +kernel
theorem dX5_bestFor_12 : decode cX5_bestFor 12 = .ok (.istore 7, 2) := by decide +kernel
theorem dX5_bestFor_14 : decode cX5_bestFor 14 = .ok (.iconst 0, 1) := by decide +kernel
theorem dX5_bestFor_15 : decode cX5_bestFor 15 = .ok (.istore 8, 2) := by decide +kernel
theorem dX5_bestFor_17 : decode cX5_bestFor 17 = .ok (.iload 8, 2) := by decide +kernel
theorem dX5_bestFor_19 : decode cX5_bestFor 19 = .ok (.iload_n 2, 1) := by decide +kernel
theorem dX5_bestFor_20 : decode cX5_bestFor 20 = .ok (.if_icmp .gt 51, 3) := by decide +kernel
theorem dX5_bestFor_23 : decode cX5_bestFor 23 = .ok (.aload_n 0, 1) := by decide +kernel
theorem dX5_bestFor_24 : decode cX5_bestFor 24 = .ok (.getfield 9, 3) := by decide +kernel
theorem dX5_bestFor_27 : decode cX5_bestFor 27 = .ok (.iload_n 1, 1) := by decide +kernel
theorem dX5_bestFor_28 : decode cX5_bestFor 28 = .ok (.iload 8, 2) := by decide +kernel
theorem dX5_bestFor_30 : decode cX5_bestFor 30 = .ok (.iastore, 1) := by decide +kernel
theorem dX5_bestFor_31 : decode cX5_bestFor 31 = .ok (.aload_n 0, 1) := by decide +kernel
theorem dX5_bestFor_32 : decode cX5_bestFor 32 = .ok (.iload_n 3, 1) := by decide +kernel
theorem dX5_bestFor_33 : decode cX5_bestFor 33 = .ok (.iload 4, 2) := by decide +kernel
theorem dX5_bestFor_35 : decode cX5_bestFor 35 = .ok (.invokevirtual 178, 3) := by decide +kernel
theorem dX5_bestFor_38 : decode cX5_bestFor 38 = .ok (.istore 9, 2) := by decide +kernel
theorem dX5_bestFor_40 : decode cX5_bestFor 40 = .ok (.iload 9, 2) := by decide +kernel
theorem dX5_bestFor_42 : decode cX5_bestFor 42 = .ok (.iload 7, 2) := by decide +kernel
theorem dX5_bestFor_44 : decode cX5_bestFor 44 = .ok (.if_icmp .le 8, 3) := by decide +kernel
theorem dX5_bestFor_47 : decode cX5_bestFor 47 = .ok (.iload 8, 2) := by decide +kernel
theorem dX5_bestFor_49 : decode cX5_bestFor 49 = .ok (.goto 5, 3) := by decide +kernel
theorem dX5_bestFor_52 : decode cX5_bestFor 52 = .ok (.iload 6, 2) := by decide +kernel
theorem dX5_bestFor_54 : decode cX5_bestFor 54 = .ok (.istore 6, 2) := by decide +kernel
theorem dX5_bestFor_56 : decode cX5_bestFor 56 = .ok (.iload 7, 2) := by decide +kernel
theorem dX5_bestFor_58 : decode cX5_bestFor 58 = .ok (.iload 9, 2) := by decide +kernel
theorem dX5_bestFor_60 : decode cX5_bestFor 60 = .ok (.invokestatic 122, 3) := by decide +kernel
theorem dX5_bestFor_63 : decode cX5_bestFor 63 = .ok (.istore 7, 2) := by decide +kernel
theorem dX5_bestFor_65 : decode cX5_bestFor 65 = .ok (.iinc 8 1, 3) := by decide +kernel
theorem dX5_bestFor_68 : decode cX5_bestFor 68 = .ok (.goto (-51), 3) := by decide +kernel
theorem dX5_bestFor_71 : decode cX5_bestFor 71 = .ok (.aload_n 0, 1) := by decide +kernel
theorem dX5_bestFor_72 : decode cX5_bestFor 72 = .ok (.getfield 9, 3) := by decide +kernel
theorem dX5_bestFor_75 : decode cX5_bestFor 75 = .ok (.iload_n 1, 1) := by decide +kernel
theorem dX5_bestFor_76 : decode cX5_bestFor 76 = .ok (.iload 5, 2) := by decide +kernel
theorem dX5_bestFor_78 : decode cX5_bestFor 78 = .ok (.iastore, 1) := by decide +kernel
theorem dX5_bestFor_79 : decode cX5_bestFor 79 = .ok (.iload 6, 2) := by decide +kernel
theorem dX5_bestFor_81 : decode cX5_bestFor 81 = .ok (.ireturn, 1) := by decide +kernel
theorem dX5_bits_0 : decode cX5_bits 0 = .ok (.iconst 0, 1) := by decide +kernel
theorem dX5_bits_1 : decode cX5_bits 1 = .ok (.istore_n 1, 1) := by decide +kernel
theorem dX5_bits_2 : decode cX5_bits 2 = .ok (.iload_n 0, 1) := by decide +kernel
theorem dX5_bits_3 : decode cX5_bits 3 = .ok (.istore_n 2, 1) := by decide +kernel
theorem dX5_bits_4 : decode cX5_bits 4 = .ok (.iload_n 2, 1) := by decide +kernel
theorem dX5_bits_5 : decode cX5_bits 5 = .ok (.ifCond .eq 15, 3) := by decide +kernel
theorem dX5_bits_8 : decode cX5_bits 8 = .ok (.iinc 1 1, 3) := by decide +kernel
theorem dX5_bits_11 : decode cX5_bits 11 = .ok (.iload_n 2, 1) := by decide +kernel
theorem dX5_bits_12 : decode cX5_bits 12 = .ok (.iload_n 2, 1) := by decide +kernel
theorem dX5_bits_13 : decode cX5_bits 13 = .ok (.iconst 1, 1) := by decide +kernel
theorem dX5_bits_14 : decode cX5_bits 14 = .ok (.isub, 1) := by decide +kernel
theorem dX5_bits_15 : decode cX5_bits 15 = .ok (.iand, 1) := by decide +kernel
theorem dX5_bits_16 : decode cX5_bits 16 = .ok (.istore_n 2, 1) := by decide +kernel
theorem dX5_bits_17 : decode cX5_bits 17 = .ok (.goto (-13), 3) := by decide +kernel
theorem dX5_bits_20 : decode cX5_bits 20 = .ok (.iload_n 1, 1) := by decide +kernel
theorem dX5_bits_21 : decode cX5_bits 21 = .ok (.ireturn, 1) := by decide +kernel
theorem dX5_byteAt_0 : decode cX5_byteAt 0 = .ok (.iload_n 1, 1) := by decide +kernel
theorem dX5_byteAt_1 : decode cX5_byteAt 1 = .ok (.aload_n 0, 1) := by decide +kernel
theorem dX5_byteAt_2 : decode cX5_byteAt 2 = .ok (.getfield 220, 3) := by decide +kernel
theorem dX5_byteAt_5 : decode cX5_byteAt 5 = .ok (.if_icmp .ge 12, 3) := by decide +kernel
theorem dX5_byteAt_8 : decode cX5_byteAt 8 = .ok (.aload_n 0, 1) := by decide +kernel
theorem dX5_byteAt_9 : decode cX5_byteAt 9 = .ok (.getfield 22, 3) := by decide +kernel
theorem dX5_byteAt_12 : decode cX5_byteAt 12 = .ok (.iload_n 1, 1) := by decide +kernel
theorem dX5_byteAt_13 : decode cX5_byteAt 13 = .ok (.iaload, 1) := by decide +kernel
theorem dX5_byteAt_14 : decode cX5_byteAt 14 = .ok (.goto 4, 3) := by decide +kernel
theorem dX5_byteAt_17 : decode cX5_byteAt 17 = .ok (.iconst (-1), 1) := by decide +kernel
theorem dX5_byteAt_18 : decode cX5_byteAt 18 = .ok (.ireturn, 1) := by decide +kernel
theorem dX5_call_0 : decode cX5_call 0 = .ok (.iload_n 1, 1) := by decide +kernel
theorem dX5_call_1 : decode cX5_call 1 = .ok (.iconst 0, 1) := by decide +kernel
theorem dX5_call_2 : decode cX5_call 2 = .ok (.iconst 5, 1) := by decide +kernel
theorem dX5_call_3 : decode cX5_call 3 = .ok (.invokestatic 76, 3) := by decide +kernel
theorem dX5_call_6 : decode cX5_call 6 = .ok (.ifCond .eq 22, 3) := by decide +kernel
theorem dX5_call_9 : decode cX5_call 9 = .ok (.iload_n 2, 1) := by decide +kernel
theorem dX5_call_10 : decode cX5_call 10 = .ok (.invokestatic 100, 3) := by decide +kernel
theorem dX5_call_13 : decode cX5_call 13 = .ok (.ifCond .eq 15, 3) := by decide +kernel
theorem dX5_call_16 : decode cX5_call 16 = .ok (.aload_n 0, 1) := by decide +kernel
theorem dX5_call_17 : decode cX5_call 17 = .ok (.bipush 38, 2) := by decide +kernel
theorem dX5_call_19 : decode cX5_call 19 = .ok (.iload_n 1, 1) := by decide +kernel
theorem dX5_call_20 : decode cX5_call 20 = .ok (.iadd, 1) := by decide +kernel
theorem dX5_call_21 : decode cX5_call 21 = .ok (.iload_n 2, 1) := by decide +kernel
theorem dX5_call_22 : decode cX5_call 22 = .ok (.invokevirtual 97, 3) := by decide +kernel
theorem dX5_call_25 : decode cX5_call 25 = .ok (.goto 9, 3) := by decide +kernel
theorem dX5_call_28 : decode cX5_call 28 = .ok (.aload_n 0, 1) := by decide +kernel
theorem dX5_call_29 : decode cX5_call 29 = .ok (.ldc 66, 2) := by decide +kernel
theorem dX5_call_31 : decode cX5_call 31 = .ok (.invokevirtual 72, 3) := by decide +kernel
theorem dX5_call_34 : decode cX5_call 34 = .ok (.ireturn, 1) := by decide +kernel
theorem dX5_callFor_0 : decode cX5_callFor 0 = .ok (.iload_n 1, 1) := by decide +kernel
theorem dX5_callFor_1 : decode cX5_callFor 1 = .ok (.iconst 0, 1) := by decide +kernel
theorem dX5_callFor_2 : decode cX5_callFor 2 = .ok (.bipush 10, 2) := by decide +kernel
theorem dX5_callFor_4 : decode cX5_callFor 4 = .ok (.invokestatic 76, 3) := by decide +kernel
theorem dX5_callFor_7 : decode cX5_callFor 7 = .ok (.ifCond .eq 27, 3) := by decide +kernel
theorem dX5_callFor_10 : decode cX5_callFor 10 = .ok (.aload_n 0, 1) := by decide +kernel
theorem dX5_callFor_11 : decode cX5_callFor 11 = .ok (.bipush 38, 2) := by decide +kernel
theorem dX5_callFor_13 : decode cX5_callFor 13 = .ok (.aload_n 0, 1) := by decide +kernel
theorem dX5_callFor_14 : decode cX5_callFor 14 = .ok (.getfield 9, 3) := by decide +kernel
theorem dX5_callFor_17 : decode cX5_callFor 17 = .ok (.iconst 0, 1) := by decide +kernel
theorem dX5_callFor_18 : decode cX5_callFor 18 = .ok (.iaload, 1) := by decide +kernel
theorem dX5_callFor_19 : decode cX5_callFor 19 = .ok (.bipush 6, 2) := by decide +kernel
theorem dX5_callFor_21 : decode cX5_callFor 21 = .ok (.irem, 1) := by decide +kernel
theorem dX5_callFor_22 : decode cX5_callFor 22 = .ok (.iadd, 1) := by decide +kernel
theorem dX5_callFor_23 : decode cX5_callFor 23 = .ok (.sipush 999, 3) := by decide +kernel
theorem dX5_callFor_26 : decode cX5_callFor 26 = .ok (.iconst 3, 1) := by decide +kernel
theorem dX5_callFor_27 : decode cX5_callFor 27 = .ok (.iload_n 1, 1) := by decide +kernel
theorem dX5_callFor_28 : decode cX5_callFor 28 = .ok (.invokevirtual 187, 3) := by decide +kernel
theorem dX5_callFor_31 : decode cX5_callFor 31 = .ok (.goto 9, 3) := by decide +kernel
theorem dX5_callFor_34 : decode cX5_callFor 34 = .ok (.aload_n 0, 1) := by decide +kernel
theorem dX5_callFor_35 : decode cX5_callFor 35 = .ok (.ldc 66, 2) := by decide +kernel
theorem dX5_callFor_37 : decode cX5_callFor 37 = .ok (.invokevirtual 72, 3) := by decide +kernel
theorem dX5_callFor_40 : decode cX5_callFor 40 = .ok (.ireturn, 1) := by decide +kernel
theorem dX5_change_0 : decode cX5_change 0 = .ok (.aload_n 0, 1) := by decide +kernel
theorem dX5_change_1 : decode cX5_change 1 = .ok (.iload_n 1, 1) := by decide +kernel
theorem dX5_change_2 : decode cX5_change 2 = .ok (.invokevirtual 87, 3) := by decide +kernel
theorem dX5_change_5 : decode cX5_change 5 = .ok (.ifCond .eq 24, 3) := by decide +kernel
theorem dX5_change_8 : decode cX5_change 8 = .ok (.iload_n 2, 1) := by decide +kernel
theorem dX5_change_9 : decode cX5_change 9 = .ok (.iload_n 3, 1) := by decide +kernel
theorem dX5_change_10 : decode cX5_change 10 = .ok (.invokestatic 133, 3) := by decide +kernel
theorem dX5_change_13 : decode cX5_change 13 = .ok (.ifCond .eq 16, 3) := by decide +kernel
theorem dX5_change_16 : decode cX5_change 16 = .ok (.aload_n 0, 1) := by decide +kernel
theorem dX5_change_17 : decode cX5_change 17 = .ok (.iload_n 1, 1) := by decide +kernel
theorem dX5_change_18 : decode cX5_change 18 = .ok (.iload_n 2, 1) := by decide +kernel
theorem dX5_change_19 : decode cX5_change 19 = .ok (.invokestatic 109, 3) := by decide +kernel
theorem dX5_change_22 : decode cX5_change 22 = .ok (.iload_n 3, 1) := by decide +kernel
theorem dX5_change_23 : decode cX5_change 23 = .ok (.invokevirtual 97, 3) := by decide +kernel
theorem dX5_change_26 : decode cX5_change 26 = .ok (.goto 9, 3) := by decide +kernel
theorem dX5_change_29 : decode cX5_change 29 = .ok (.aload_n 0, 1) := by decide +kernel
theorem dX5_change_30 : decode cX5_change 30 = .ok (.ldc 66, 2) := by decide +kernel
theorem dX5_change_32 : decode cX5_change 32 = .ok (.invokevirtual 72, 3) := by decide +kernel
theorem dX5_change_35 : decode cX5_change 35 = .ok (.ireturn, 1) := by decide +kernel
theorem dX5_codeFor_0 : decode cX5_codeFor 0 = .ok (.iload_n 1, 1) := by decide +kernel
theorem dX5_codeFor_1 : decode cX5_codeFor 1 = .ok (.invokestatic 184, 3) := by decide +kernel
theorem dX5_codeFor_4 : decode cX5_codeFor 4 = .ok (.ifCond .eq 15, 3) := by decide +kernel
theorem dX5_codeFor_7 : decode cX5_codeFor 7 = .ok (.aload_n 0, 1) := by decide +kernel
theorem dX5_codeFor_8 : decode cX5_codeFor 8 = .ok (.bipush 6, 2) := by decide +kernel
theorem dX5_codeFor_10 : decode cX5_codeFor 10 = .ok (.iconst 4, 1) := by decide +kernel
theorem dX5_codeFor_11 : decode cX5_codeFor 11 = .ok (.iconst 3, 1) := by decide +kernel
theorem dX5_codeFor_12 : decode cX5_codeFor 12 = .ok (.iload_n 1, 1) := by decide +kernel
theorem dX5_codeFor_13 : decode cX5_codeFor 13 = .ok (.invokevirtual 187, 3) := by decide +kernel
theorem dX5_codeFor_16 : decode cX5_codeFor 16 = .ok (.goto 9, 3) := by decide +kernel
theorem dX5_codeFor_19 : decode cX5_codeFor 19 = .ok (.aload_n 0, 1) := by decide +kernel
theorem dX5_codeFor_20 : decode cX5_codeFor 20 = .ok (.ldc 66, 2) := by decide +kernel
theorem dX5_codeFor_22 : decode cX5_codeFor 22 = .ok (.invokevirtual 72, 3) := by decide +kernel
theorem dX5_codeFor_25 : decode cX5_codeFor 25 = .ok (.ireturn, 1) := by decide +kernel
theorem dX5_codes_0 : decode cX5_codes 0 = .ok (.aload_n 0, 1) := by decide +kernel
theorem dX5_codes_1 : decode cX5_codes 1 = .ok (.iload_n 1, 1) := by decide +kernel
theorem dX5_codes_2 : decode cX5_codes 2 = .ok (.iconst 1, 1) := by decide +kernel
theorem dX5_codes_3 : decode cX5_codes 3 = .ok (.invokevirtual 199, 3) := by decide +kernel
theorem dX5_codes_6 : decode cX5_codes 6 = .ok (.istore_n 2, 1) := by decide +kernel
theorem dX5_codes_7 : decode cX5_codes 7 = .ok (.iload_n 2, 1) := by decide +kernel
theorem dX5_codes_8 : decode cX5_codes 8 = .ok (.ifCond .eq 9, 3) := by decide +kernel
theorem dX5_codes_11 : decode cX5_codes 11 = .ok (.aload_n 0, 1) := by decide +kernel
theorem dX5_codes_12 : decode cX5_codes 12 = .ok (.iload_n 2, 1) := by decide +kernel
theorem dX5_codes_13 : decode cX5_codes 13 = .ok (.invokevirtual 72, 3) := by decide +kernel
theorem dX5_codes_16 : decode cX5_codes 16 = .ok (.ireturn, 1) := by decide +kernel
theorem dX5_codes_17 : decode cX5_codes 17 = .ok (.aload_n 0, 1) := by decide +kernel
theorem dX5_codes_18 : decode cX5_codes 18 = .ok (.getfield 9, 3) := by decide +kernel
theorem dX5_codes_21 : decode cX5_codes 21 = .ok (.bipush 6, 2) := by decide +kernel
theorem dX5_codes_23 : decode cX5_codes 23 = .ok (.iaload, 1) := by decide +kernel
theorem dX5_codes_24 : decode cX5_codes 24 = .ok (.istore_n 3, 1) := by decide +kernel
theorem dX5_codes_25 : decode cX5_codes 25 = .ok (.iconst 0, 1) := by decide +kernel
theorem dX5_codes_26 : decode cX5_codes 26 = .ok (.istore 4, 2) := by decide +kernel
theorem dX5_codes_28 : decode cX5_codes 28 = .ok (.iconst 0, 1) := by decide +kernel
theorem dX5_codes_29 : decode cX5_codes 29 = .ok (.istore 5, 2) := by decide +kernel
theorem dX5_codes_31 : decode cX5_codes 31 = .ok (.iload 5, 2) := by decide +kernel
theorem dX5_codes_33 : decode cX5_codes 33 = .ok (.iconst 5, 1) := by decide +kernel
theorem dX5_codes_34 : decode cX5_codes 34 = .ok (.if_icmp .ge 39, 3) := by decide +kernel
theorem dX5_codes_37 : decode cX5_codes 37 = .ok (.aload_n 0, 1) := by decide +kernel
theorem dX5_codes_38 : decode cX5_codes 38 = .ok (.getfield 9, 3) := by decide +kernel
theorem dX5_codes_41 : decode cX5_codes 41 = .ok (.bipush 6, 2) := by decide +kernel
theorem dX5_codes_43 : decode cX5_codes 43 = .ok (.iload 5, 2) := by decide +kernel
theorem dX5_codes_45 : decode cX5_codes 45 = .ok (.iastore, 1) := by decide +kernel
theorem dX5_codes_46 : decode cX5_codes 46 = .ok (.iload 4, 2) := by decide +kernel
theorem dX5_codes_48 : decode cX5_codes 48 = .ok (.aload_n 0, 1) := by decide +kernel
theorem dX5_codes_49 : decode cX5_codes 49 = .ok (.iload_n 1, 1) := by decide +kernel
theorem dX5_codes_50 : decode cX5_codes 50 = .ok (.invokevirtual 203, 3) := by decide +kernel
theorem dX5_codes_53 : decode cX5_codes 53 = .ok (.ifCond .eq 10, 3) := by decide +kernel
theorem dX5_codes_56 : decode cX5_codes 56 = .ok (.iconst 1, 1) := by decide +kernel
theorem dX5_codes_57 : decode cX5_codes 57 = .ok (.iload 5, 2) := by decide +kernel
theorem dX5_codes_59 : decode cX5_codes 59 = .ok (.ishl, 1) := by decide +kernel
theorem dX5_codes_60 : decode cX5_codes 60 = .ok (.goto 4, 3) := by decide +kernel
theorem dX5_codes_63 : decode cX5_codes 63 = .ok (.iconst 0, 1) := by decide +kernel
theorem dX5_codes_64 : decode cX5_codes 64 = .ok (.ior, 1) := by decide +kernel
theorem dX5_codes_65 : decode cX5_codes 65 = .ok (.istore 4, 2) := by decide +kernel
theorem dX5_codes_67 : decode cX5_codes 67 = .ok (.iinc 5 1, 3) := by decide +kernel
theorem dX5_codes_70 : decode cX5_codes 70 = .ok (.goto (-39), 3) := by decide +kernel
theorem dX5_codes_73 : decode cX5_codes 73 = .ok (.aload_n 0, 1) := by decide +kernel
theorem dX5_codes_74 : decode cX5_codes 74 = .ok (.getfield 9, 3) := by decide +kernel
theorem dX5_codes_77 : decode cX5_codes 77 = .ok (.bipush 6, 2) := by decide +kernel
theorem dX5_codes_79 : decode cX5_codes 79 = .ok (.iload_n 3, 1) := by decide +kernel
theorem dX5_codes_80 : decode cX5_codes 80 = .ok (.iastore, 1) := by decide +kernel
theorem dX5_codes_81 : decode cX5_codes 81 = .ok (.iload 4, 2) := by decide +kernel
theorem dX5_codes_83 : decode cX5_codes 83 = .ok (.ireturn, 1) := by decide +kernel
theorem dX5_comes_0 : decode cX5_comes 0 = .ok (.aload_n 0, 1) := by decide +kernel
theorem dX5_comes_1 : decode cX5_comes 1 = .ok (.getfield 9, 3) := by decide +kernel
theorem dX5_comes_4 : decode cX5_comes 4 = .ok (.iconst 1, 1) := by decide +kernel
theorem dX5_comes_5 : decode cX5_comes 5 = .ok (.iaload, 1) := by decide +kernel
theorem dX5_comes_6 : decode cX5_comes 6 = .ok (.istore_n 3, 1) := by decide +kernel
theorem dX5_comes_7 : decode cX5_comes 7 = .ok (.iconst 0, 1) := by decide +kernel
theorem dX5_comes_8 : decode cX5_comes 8 = .ok (.istore 4, 2) := by decide +kernel
theorem dX5_comes_10 : decode cX5_comes 10 = .ok (.iload 4, 2) := by decide +kernel
theorem dX5_comes_12 : decode cX5_comes 12 = .ok (.iconst 5, 1) := by decide +kernel
theorem dX5_comes_13 : decode cX5_comes 13 = .ok (.if_icmp .ge 21, 3) := by decide +kernel
theorem dX5_comes_16 : decode cX5_comes 16 = .ok (.aload_n 0, 1) := by decide +kernel
theorem dX5_comes_17 : decode cX5_comes 17 = .ok (.getfield 9, 3) := by decide +kernel
theorem dX5_comes_20 : decode cX5_comes 20 = .ok (.iload_n 3, 1) := by decide +kernel
theorem dX5_comes_21 : decode cX5_comes 21 = .ok (.iload 4, 2) := by decide +kernel
theorem dX5_comes_23 : decode cX5_comes 23 = .ok (.invokestatic 109, 3) := by decide +kernel
theorem dX5_comes_26 : decode cX5_comes 26 = .ok (.iconst 0, 1) := by decide +kernel
theorem dX5_comes_27 : decode cX5_comes 27 = .ok (.iastore, 1) := by decide +kernel
theorem dX5_comes_28 : decode cX5_comes 28 = .ok (.iinc 4 1, 3) := by decide +kernel
theorem dX5_comes_31 : decode cX5_comes 31 = .ok (.goto (-21), 3) := by decide +kernel
theorem dX5_comes_34 : decode cX5_comes 34 = .ok (.aload_n 0, 1) := by decide +kernel
theorem dX5_comes_35 : decode cX5_comes 35 = .ok (.getfield 9, 3) := by decide +kernel
theorem dX5_comes_38 : decode cX5_comes 38 = .ok (.iload_n 3, 1) := by decide +kernel
theorem dX5_comes_39 : decode cX5_comes 39 = .ok (.iconst 0, 1) := by decide +kernel
theorem dX5_comes_40 : decode cX5_comes 40 = .ok (.invokestatic 109, 3) := by decide +kernel
theorem dX5_comes_43 : decode cX5_comes 43 = .ok (.iload_n 1, 1) := by decide +kernel
theorem dX5_comes_44 : decode cX5_comes 44 = .ok (.iastore, 1) := by decide +kernel
theorem dX5_comes_45 : decode cX5_comes 45 = .ok (.aload_n 0, 1) := by decide +kernel
theorem dX5_comes_46 : decode cX5_comes 46 = .ok (.getfield 9, 3) := by decide +kernel
theorem dX5_comes_49 : decode cX5_comes 49 = .ok (.iload_n 3, 1) := by decide +kernel
theorem dX5_comes_50 : decode cX5_comes 50 = .ok (.iconst 1, 1) := by decide +kernel
theorem dX5_comes_51 : decode cX5_comes 51 = .ok (.invokestatic 109, 3) := by decide +kernel
theorem dX5_comes_54 : decode cX5_comes 54 = .ok (.iload_n 2, 1) := by decide +kernel
theorem dX5_comes_55 : decode cX5_comes 55 = .ok (.iastore, 1) := by decide +kernel
theorem dX5_comes_56 : decode cX5_comes 56 = .ok (.aload_n 0, 1) := by decide +kernel
theorem dX5_comes_57 : decode cX5_comes 57 = .ok (.getfield 9, 3) := by decide +kernel
theorem dX5_comes_60 : decode cX5_comes 60 = .ok (.iconst 1, 1) := by decide +kernel
theorem dX5_comes_61 : decode cX5_comes 61 = .ok (.dup2, 1) := by decide +kernel
theorem dX5_comes_62 : decode cX5_comes 62 = .ok (.iaload, 1) := by decide +kernel
theorem dX5_comes_63 : decode cX5_comes 63 = .ok (.iconst 1, 1) := by decide +kernel
theorem dX5_comes_64 : decode cX5_comes 64 = .ok (.iadd, 1) := by decide +kernel
theorem dX5_comes_65 : decode cX5_comes 65 = .ok (.iastore, 1) := by decide +kernel
theorem dX5_comes_66 : decode cX5_comes 66 = .ok (.iload_n 3, 1) := by decide +kernel
theorem dX5_comes_67 : decode cX5_comes 67 = .ok (.ireturn, 1) := by decide +kernel
theorem dX5_copy_0 : decode cX5_copy 0 = .ok (.iload_n 1, 1) := by decide +kernel
theorem dX5_copy_1 : decode cX5_copy 1 = .ok (.invokestatic 195, 3) := by decide +kernel
theorem dX5_copy_4 : decode cX5_copy 4 = .ok (.ifCond .eq 10, 3) := by decide +kernel
theorem dX5_copy_7 : decode cX5_copy 7 = .ok (.iload_n 3, 1) := by decide +kernel
theorem dX5_copy_8 : decode cX5_copy 8 = .ok (.invokestatic 195, 3) := by decide +kernel
theorem dX5_copy_11 : decode cX5_copy 11 = .ok (.ifCond .ne 10, 3) := by decide +kernel
theorem dX5_copy_14 : decode cX5_copy 14 = .ok (.aload_n 0, 1) := by decide +kernel
theorem dX5_copy_15 : decode cX5_copy 15 = .ok (.ldc 66, 2) := by decide +kernel
theorem dX5_copy_17 : decode cX5_copy 17 = .ok (.invokevirtual 72, 3) := by decide +kernel
theorem dX5_copy_20 : decode cX5_copy 20 = .ok (.ireturn, 1) := by decide +kernel
theorem dX5_copy_21 : decode cX5_copy 21 = .ok (.aload_n 0, 1) := by decide +kernel
theorem dX5_copy_22 : decode cX5_copy 22 = .ok (.getfield 54, 3) := by decide +kernel
theorem dX5_copy_25 : decode cX5_copy 25 = .ok (.iload_n 1, 1) := by decide +kernel
theorem dX5_copy_26 : decode cX5_copy 26 = .ok (.iaload, 1) := by decide +kernel
theorem dX5_copy_27 : decode cX5_copy 27 = .ok (.ifCond .eq 12, 3) := by decide +kernel
theorem dX5_copy_30 : decode cX5_copy 30 = .ok (.aload_n 0, 1) := by decide +kernel
theorem dX5_copy_31 : decode cX5_copy 31 = .ok (.getfield 54, 3) := by decide +kernel
theorem dX5_copy_34 : decode cX5_copy 34 = .ok (.iload_n 3, 1) := by decide +kernel
theorem dX5_copy_35 : decode cX5_copy 35 = .ok (.iaload, 1) := by decide +kernel
theorem dX5_copy_36 : decode cX5_copy 36 = .ok (.ifCond .ne 10, 3) := by decide +kernel
theorem dX5_copy_39 : decode cX5_copy 39 = .ok (.aload_n 0, 1) := by decide +kernel
theorem dX5_copy_40 : decode cX5_copy 40 = .ok (.ldc 198, 2) := by decide +kernel
theorem dX5_copy_42 : decode cX5_copy 42 = .ok (.invokevirtual 72, 3) := by decide +kernel
theorem dX5_copy_45 : decode cX5_copy 45 = .ok (.ireturn, 1) := by decide +kernel
theorem dX5_copy_46 : decode cX5_copy 46 = .ok (.aload_n 0, 1) := by decide +kernel
theorem dX5_copy_47 : decode cX5_copy 47 = .ok (.getfield 54, 3) := by decide +kernel
theorem dX5_copy_50 : decode cX5_copy 50 = .ok (.iload_n 1, 1) := by decide +kernel
theorem dX5_copy_51 : decode cX5_copy 51 = .ok (.iaload, 1) := by decide +kernel
theorem dX5_copy_52 : decode cX5_copy 52 = .ok (.aload_n 0, 1) := by decide +kernel
theorem dX5_copy_53 : decode cX5_copy 53 = .ok (.getfield 54, 3) := by decide +kernel
theorem dX5_copy_56 : decode cX5_copy 56 = .ok (.iload_n 3, 1) := by decide +kernel
theorem dX5_copy_57 : decode cX5_copy 57 = .ok (.iaload, 1) := by decide +kernel
theorem dX5_copy_58 : decode cX5_copy 58 = .ok (.if_icmp .eq 11, 3) := by decide +kernel
theorem dX5_copy_61 : decode cX5_copy 61 = .ok (.aload_n 0, 1) := by decide +kernel
theorem dX5_copy_62 : decode cX5_copy 62 = .ok (.ldc_w 311, 3) := by decide +kernel
theorem dX5_copy_65 : decode cX5_copy 65 = .ok (.invokevirtual 72, 3) := by decide +kernel
theorem dX5_copy_68 : decode cX5_copy 68 = .ok (.ireturn, 1) := by decide +kernel
theorem dX5_copy_69 : decode cX5_copy 69 = .ok (.iload_n 2, 1) := by decide +kernel
theorem dX5_copy_70 : decode cX5_copy 70 = .ok (.ifCond .lt 48, 3) := by decide +kernel
theorem dX5_copy_73 : decode cX5_copy 73 = .ok (.iload 4, 2) := by decide +kernel
theorem dX5_copy_75 : decode cX5_copy 75 = .ok (.ifCond .lt 43, 3) := by decide +kernel
theorem dX5_copy_78 : decode cX5_copy 78 = .ok (.iload 5, 2) := by decide +kernel
theorem dX5_copy_80 : decode cX5_copy 80 = .ok (.ifCond .lt 38, 3) := by decide +kernel
theorem dX5_copy_83 : decode cX5_copy 83 = .ok (.iload_n 2, 1) := by decide +kernel
theorem dX5_copy_84 : decode cX5_copy 84 = .ok (.i2l, 1) := by decide +kernel
theorem dX5_copy_85 : decode cX5_copy 85 = .ok (.iload 5, 2) := by decide +kernel
theorem dX5_copy_87 : decode cX5_copy 87 = .ok (.i2l, 1) := by decide +kernel
theorem dX5_copy_88 : decode cX5_copy 88 = .ok (.ladd, 1) := by decide +kernel
theorem dX5_copy_89 : decode cX5_copy 89 = .ok (.aload_n 0, 1) := by decide +kernel
theorem dX5_copy_90 : decode cX5_copy 90 = .ok (.getfield 57, 3) := by decide +kernel
theorem dX5_copy_93 : decode cX5_copy 93 = .ok (.iload_n 1, 1) := by decide +kernel
theorem dX5_copy_94 : decode cX5_copy 94 = .ok (.iaload, 1) := by decide +kernel
theorem dX5_copy_95 : decode cX5_copy 95 = .ok (.i2l, 1) := by decide +kernel
theorem dX5_copy_96 : decode cX5_copy 96 = .ok (.lcmp, 1) := by decide +kernel
theorem dX5_copy_97 : decode cX5_copy 97 = .ok (.ifCond .gt 21, 3) := by decide +kernel
theorem dX5_copy_100 : decode cX5_copy 100 = .ok (.iload 4, 2) := by decide +kernel
theorem dX5_copy_102 : decode cX5_copy 102 = .ok (.i2l, 1) := by decide +kernel
theorem dX5_copy_103 : decode cX5_copy 103 = .ok (.iload 5, 2) := by decide +kernel
theorem dX5_copy_105 : decode cX5_copy 105 = .ok (.i2l, 1) := by decide +kernel
theorem dX5_copy_106 : decode cX5_copy 106 = .ok (.ladd, 1) := by decide +kernel
theorem dX5_copy_107 : decode cX5_copy 107 = .ok (.aload_n 0, 1) := by decide +kernel
theorem dX5_copy_108 : decode cX5_copy 108 = .ok (.getfield 57, 3) := by decide +kernel
theorem dX5_copy_111 : decode cX5_copy 111 = .ok (.iload_n 3, 1) := by decide +kernel
theorem dX5_copy_112 : decode cX5_copy 112 = .ok (.iaload, 1) := by decide +kernel
theorem dX5_copy_113 : decode cX5_copy 113 = .ok (.i2l, 1) := by decide +kernel
theorem dX5_copy_114 : decode cX5_copy 114 = .ok (.lcmp, 1) := by decide +kernel
theorem dX5_copy_115 : decode cX5_copy 115 = .ok (.ifCond .le 10, 3) := by decide +kernel
theorem dX5_copy_118 : decode cX5_copy 118 = .ok (.aload_n 0, 1) := by decide +kernel
theorem dX5_copy_119 : decode cX5_copy 119 = .ok (.ldc 66, 2) := by decide +kernel
theorem dX5_copy_121 : decode cX5_copy 121 = .ok (.invokevirtual 72, 3) := by decide +kernel
theorem dX5_copy_124 : decode cX5_copy 124 = .ok (.ireturn, 1) := by decide +kernel
theorem dX5_copy_125 : decode cX5_copy 125 = .ok (.iconst 0, 1) := by decide +kernel
theorem dX5_copy_126 : decode cX5_copy 126 = .ok (.istore 6, 2) := by decide +kernel
theorem dX5_copy_128 : decode cX5_copy 128 = .ok (.iload 6, 2) := by decide +kernel
theorem dX5_copy_130 : decode cX5_copy 130 = .ok (.iload 5, 2) := by decide +kernel
theorem dX5_copy_132 : decode cX5_copy 132 = .ok (.if_icmp .ge 30, 3) := by decide +kernel
theorem dX5_copy_135 : decode cX5_copy 135 = .ok (.aload_n 0, 1) := by decide +kernel
theorem dX5_copy_136 : decode cX5_copy 136 = .ok (.getfield 63, 3) := by decide +kernel
theorem dX5_copy_139 : decode cX5_copy 139 = .ok (.iload 6, 2) := by decide +kernel
theorem dX5_copy_141 : decode cX5_copy 141 = .ok (.aload_n 0, 1) := by decide +kernel
theorem dX5_copy_142 : decode cX5_copy 142 = .ok (.getfield 60, 3) := by decide +kernel
theorem dX5_copy_145 : decode cX5_copy 145 = .ok (.bipush 40, 2) := by decide +kernel
theorem dX5_copy_147 : decode cX5_copy 147 = .ok (.iload_n 1, 1) := by decide +kernel
theorem dX5_copy_148 : decode cX5_copy 148 = .ok (.imul, 1) := by decide +kernel
theorem dX5_copy_149 : decode cX5_copy 149 = .ok (.iload_n 2, 1) := by decide +kernel
theorem dX5_copy_150 : decode cX5_copy 150 = .ok (.iadd, 1) := by decide +kernel
theorem dX5_copy_151 : decode cX5_copy 151 = .ok (.iload 6, 2) := by decide +kernel
theorem dX5_copy_153 : decode cX5_copy 153 = .ok (.iadd, 1) := by decide +kernel
theorem dX5_copy_154 : decode cX5_copy 154 = .ok (.iaload, 1) := by decide +kernel
theorem dX5_copy_155 : decode cX5_copy 155 = .ok (.iastore, 1) := by decide +kernel
theorem dX5_copy_156 : decode cX5_copy 156 = .ok (.iinc 6 1, 3) := by decide +kernel
theorem dX5_copy_159 : decode cX5_copy 159 = .ok (.goto (-31), 3) := by decide +kernel
theorem dX5_copy_162 : decode cX5_copy 162 = .ok (.iconst 0, 1) := by decide +kernel
theorem dX5_copy_163 : decode cX5_copy 163 = .ok (.istore 6, 2) := by decide +kernel
theorem dX5_copy_165 : decode cX5_copy 165 = .ok (.iload 6, 2) := by decide +kernel
theorem dX5_copy_167 : decode cX5_copy 167 = .ok (.iload 5, 2) := by decide +kernel
theorem dX5_copy_169 : decode cX5_copy 169 = .ok (.if_icmp .ge 31, 3) := by decide +kernel
theorem dX5_copy_172 : decode cX5_copy 172 = .ok (.aload_n 0, 1) := by decide +kernel
theorem dX5_copy_173 : decode cX5_copy 173 = .ok (.getfield 60, 3) := by decide +kernel
theorem dX5_copy_176 : decode cX5_copy 176 = .ok (.bipush 40, 2) := by decide +kernel
theorem dX5_copy_178 : decode cX5_copy 178 = .ok (.iload_n 3, 1) := by decide +kernel
theorem dX5_copy_179 : decode cX5_copy 179 = .ok (.imul, 1) := by decide +kernel
theorem dX5_copy_180 : decode cX5_copy 180 = .ok (.iload 4, 2) := by decide +kernel
theorem dX5_copy_182 : decode cX5_copy 182 = .ok (.iadd, 1) := by decide +kernel
theorem dX5_copy_183 : decode cX5_copy 183 = .ok (.iload 6, 2) := by decide +kernel
theorem dX5_copy_185 : decode cX5_copy 185 = .ok (.iadd, 1) := by decide +kernel
theorem dX5_copy_186 : decode cX5_copy 186 = .ok (.aload_n 0, 1) := by decide +kernel
theorem dX5_copy_187 : decode cX5_copy 187 = .ok (.getfield 63, 3) := by decide +kernel
theorem dX5_copy_190 : decode cX5_copy 190 = .ok (.iload 6, 2) := by decide +kernel
theorem dX5_copy_192 : decode cX5_copy 192 = .ok (.iaload, 1) := by decide +kernel
theorem dX5_copy_193 : decode cX5_copy 193 = .ok (.iastore, 1) := by decide +kernel
theorem dX5_copy_194 : decode cX5_copy 194 = .ok (.iinc 6 1, 3) := by decide +kernel
theorem dX5_copy_197 : decode cX5_copy 197 = .ok (.goto (-32), 3) := by decide +kernel
theorem dX5_copy_200 : decode cX5_copy 200 = .ok (.iload 5, 2) := by decide +kernel
theorem dX5_copy_202 : decode cX5_copy 202 = .ok (.ireturn, 1) := by decide +kernel
theorem dX5_copyRow_0 : decode cX5_copyRow 0 = .ok (.iconst 0, 1) := by decide +kernel
theorem dX5_copyRow_1 : decode cX5_copyRow 1 = .ok (.istore_n 2, 1) := by decide +kernel
theorem dX5_copyRow_2 : decode cX5_copyRow 2 = .ok (.iload_n 2, 1) := by decide +kernel
theorem dX5_copyRow_3 : decode cX5_copyRow 3 = .ok (.bipush 84, 2) := by decide +kernel
theorem dX5_copyRow_5 : decode cX5_copyRow 5 = .ok (.if_icmp .ge 15, 3) := by decide +kernel
theorem dX5_copyRow_8 : decode cX5_copyRow 8 = .ok (.aload_n 1, 1) := by decide +kernel
theorem dX5_copyRow_9 : decode cX5_copyRow 9 = .ok (.iload_n 2, 1) := by decide +kernel
theorem dX5_copyRow_10 : decode cX5_copyRow 10 = .ok (.aload_n 0, 1) := by decide +kernel
theorem dX5_copyRow_11 : decode cX5_copyRow 11 = .ok (.iload_n 2, 1) := by decide +kernel
theorem dX5_copyRow_12 : decode cX5_copyRow 12 = .ok (.iaload, 1) := by decide +kernel
theorem dX5_copyRow_13 : decode cX5_copyRow 13 = .ok (.iastore, 1) := by decide +kernel
theorem dX5_copyRow_14 : decode cX5_copyRow 14 = .ok (.iinc 2 1, 3) := by decide +kernel
theorem dX5_copyRow_17 : decode cX5_copyRow 17 = .ok (.goto (-15), 3) := by decide +kernel
theorem dX5_copyRow_20 : decode cX5_copyRow 20 = .ok (.return_, 1) := by decide +kernel
theorem dX5_count_0 : decode cX5_count 0 = .ok (.iconst 0, 1) := by decide +kernel
theorem dX5_count_1 : decode cX5_count 1 = .ok (.istore_n 2, 1) := by decide +kernel
theorem dX5_count_2 : decode cX5_count 2 = .ok (.iload_n 1, 1) := by decide +kernel
theorem dX5_count_3 : decode cX5_count 3 = .ok (.tableswitch 126 0 7 #[45, 52, 59, 66, 72, 78, 83, 90], 45) := by decide +kernel
theorem dX5_count_48 : decode cX5_count 48 = .ok (.aload_n 0, 1) := by decide +kernel
theorem dX5_count_49 : decode cX5_count 49 = .ok (.getfield 9, 3) := by decide +kernel
theorem dX5_count_52 : decode cX5_count 52 = .ok (.iconst 0, 1) := by decide +kernel
theorem dX5_count_53 : decode cX5_count 53 = .ok (.iaload, 1) := by decide +kernel
theorem dX5_count_54 : decode cX5_count 54 = .ok (.ireturn, 1) := by decide +kernel
theorem dX5_count_55 : decode cX5_count 55 = .ok (.aload_n 0, 1) := by decide +kernel
theorem dX5_count_56 : decode cX5_count 56 = .ok (.getfield 9, 3) := by decide +kernel
theorem dX5_count_59 : decode cX5_count 59 = .ok (.iconst 1, 1) := by decide +kernel
theorem dX5_count_60 : decode cX5_count 60 = .ok (.iaload, 1) := by decide +kernel
theorem dX5_count_61 : decode cX5_count 61 = .ok (.ireturn, 1) := by decide +kernel
theorem dX5_count_62 : decode cX5_count 62 = .ok (.aload_n 0, 1) := by decide +kernel
theorem dX5_count_63 : decode cX5_count 63 = .ok (.getfield 9, 3) := by decide +kernel
theorem dX5_count_66 : decode cX5_count 66 = .ok (.iconst 3, 1) := by decide +kernel
theorem dX5_count_67 : decode cX5_count 67 = .ok (.iaload, 1) := by decide +kernel
theorem dX5_count_68 : decode cX5_count 68 = .ok (.ireturn, 1) := by decide +kernel
theorem dX5_count_69 : decode cX5_count 69 = .ok (.aload_n 0, 1) := by decide +kernel
theorem dX5_count_70 : decode cX5_count 70 = .ok (.iconst 3, 1) := by decide +kernel
theorem dX5_count_71 : decode cX5_count 71 = .ok (.invokevirtual 166, 3) := by decide +kernel
theorem dX5_count_74 : decode cX5_count 74 = .ok (.ireturn, 1) := by decide +kernel
theorem dX5_count_75 : decode cX5_count 75 = .ok (.aload_n 0, 1) := by decide +kernel
theorem dX5_count_76 : decode cX5_count 76 = .ok (.iconst 4, 1) := by decide +kernel
theorem dX5_count_77 : decode cX5_count 77 = .ok (.invokevirtual 166, 3) := by decide +kernel
theorem dX5_count_80 : decode cX5_count 80 = .ok (.ireturn, 1) := by decide +kernel
theorem dX5_count_81 : decode cX5_count 81 = .ok (.aload_n 0, 1) := by decide +kernel
theorem dX5_count_82 : decode cX5_count 82 = .ok (.getfield 220, 3) := by decide +kernel
theorem dX5_count_85 : decode cX5_count 85 = .ok (.ireturn, 1) := by decide +kernel
theorem dX5_count_86 : decode cX5_count 86 = .ok (.aload_n 0, 1) := by decide +kernel
theorem dX5_count_87 : decode cX5_count 87 = .ok (.getfield 9, 3) := by decide +kernel
theorem dX5_count_90 : decode cX5_count 90 = .ok (.iconst 2, 1) := by decide +kernel
theorem dX5_count_91 : decode cX5_count 91 = .ok (.iaload, 1) := by decide +kernel
theorem dX5_count_92 : decode cX5_count 92 = .ok (.ireturn, 1) := by decide +kernel
theorem dX5_count_93 : decode cX5_count 93 = .ok (.iconst 0, 1) := by decide +kernel
theorem dX5_count_94 : decode cX5_count 94 = .ok (.istore_n 3, 1) := by decide +kernel
theorem dX5_count_95 : decode cX5_count 95 = .ok (.iload_n 3, 1) := by decide +kernel
theorem dX5_count_96 : decode cX5_count 96 = .ok (.bipush 10, 2) := by decide +kernel
theorem dX5_count_98 : decode cX5_count 98 = .ok (.if_icmp .ge 29, 3) := by decide +kernel
theorem dX5_count_101 : decode cX5_count 101 = .ok (.iload_n 2, 1) := by decide +kernel
theorem dX5_count_102 : decode cX5_count 102 = .ok (.aload_n 0, 1) := by decide +kernel
theorem dX5_count_103 : decode cX5_count 103 = .ok (.getfield 9, 3) := by decide +kernel
theorem dX5_count_106 : decode cX5_count 106 = .ok (.bipush 7, 2) := by decide +kernel
theorem dX5_count_108 : decode cX5_count 108 = .ok (.iload_n 3, 1) := by decide +kernel
theorem dX5_count_109 : decode cX5_count 109 = .ok (.iadd, 1) := by decide +kernel
theorem dX5_count_110 : decode cX5_count 110 = .ok (.iaload, 1) := by decide +kernel
theorem dX5_count_111 : decode cX5_count 111 = .ok (.ifCond .ge 7, 3) := by decide +kernel
theorem dX5_count_114 : decode cX5_count 114 = .ok (.iconst 0, 1) := by decide +kernel
theorem dX5_count_115 : decode cX5_count 115 = .ok (.goto 4, 3) := by decide +kernel
theorem dX5_count_118 : decode cX5_count 118 = .ok (.iconst 1, 1) := by decide +kernel
theorem dX5_count_119 : decode cX5_count 119 = .ok (.iadd, 1) := by decide +kernel
theorem dX5_count_120 : decode cX5_count 120 = .ok (.istore_n 2, 1) := by decide +kernel
theorem dX5_count_121 : decode cX5_count 121 = .ok (.iinc 3 1, 3) := by decide +kernel
theorem dX5_count_124 : decode cX5_count 124 = .ok (.goto (-29), 3) := by decide +kernel
theorem dX5_count_127 : decode cX5_count 127 = .ok (.iload_n 2, 1) := by decide +kernel
theorem dX5_count_128 : decode cX5_count 128 = .ok (.ireturn, 1) := by decide +kernel
theorem dX5_count_129 : decode cX5_count 129 = .ok (.aload_n 0, 1) := by decide +kernel
theorem dX5_count_130 : decode cX5_count 130 = .ok (.ldc 66, 2) := by decide +kernel
theorem dX5_count_132 : decode cX5_count 132 = .ok (.invokevirtual 72, 3) := by decide +kernel
theorem dX5_count_135 : decode cX5_count 135 = .ok (.ireturn, 1) := by decide +kernel
theorem dX5_cover_0 : decode cX5_cover 0 = .ok (.aload_n 0, 1) := by decide +kernel
theorem dX5_cover_1 : decode cX5_cover 1 = .ok (.bipush 63, 2) := by decide +kernel
theorem dX5_cover_3 : decode cX5_cover 3 = .ok (.invokevirtual 172, 3) := by decide +kernel
theorem dX5_cover_6 : decode cX5_cover 6 = .ok (.istore_n 1, 1) := by decide +kernel
theorem dX5_cover_7 : decode cX5_cover 7 = .ok (.bipush 63, 2) := by decide +kernel
theorem dX5_cover_9 : decode cX5_cover 9 = .ok (.istore_n 2, 1) := by decide +kernel
theorem dX5_cover_10 : decode cX5_cover 10 = .ok (.bipush 63, 2) := by decide +kernel
theorem dX5_cover_12 : decode cX5_cover 12 = .ok (.istore_n 3, 1) := by decide +kernel
theorem dX5_cover_13 : decode cX5_cover 13 = .ok (.iload_n 3, 1) := by decide +kernel
theorem dX5_cover_14 : decode cX5_cover 14 = .ok (.ifCond .lt 35, 3) := by decide +kernel
theorem dX5_cover_17 : decode cX5_cover 17 = .ok (.aload_n 0, 1) := by decide +kernel
theorem dX5_cover_18 : decode cX5_cover 18 = .ok (.iload_n 3, 1) := by decide +kernel
theorem dX5_cover_19 : decode cX5_cover 19 = .ok (.invokevirtual 172, 3) := by decide +kernel
theorem dX5_cover_22 : decode cX5_cover 22 = .ok (.iload_n 1, 1) := by decide +kernel
theorem dX5_cover_23 : decode cX5_cover 23 = .ok (.if_icmp .ne 18, 3) := by decide +kernel
theorem dX5_cover_26 : decode cX5_cover 26 = .ok (.iload_n 3, 1) := by decide +kernel
theorem dX5_cover_27 : decode cX5_cover 27 = .ok (.invokestatic 103, 3) := by decide +kernel
theorem dX5_cover_30 : decode cX5_cover 30 = .ok (.iload_n 2, 1) := by decide +kernel
theorem dX5_cover_31 : decode cX5_cover 31 = .ok (.invokestatic 103, 3) := by decide +kernel
theorem dX5_cover_34 : decode cX5_cover 34 = .ok (.if_icmp .gt 7, 3) := by decide +kernel
theorem dX5_cover_37 : decode cX5_cover 37 = .ok (.iload_n 3, 1) := by decide +kernel
theorem dX5_cover_38 : decode cX5_cover 38 = .ok (.goto 4, 3) := by decide +kernel
theorem dX5_cover_41 : decode cX5_cover 41 = .ok (.iload_n 2, 1) := by decide +kernel
theorem dX5_cover_42 : decode cX5_cover 42 = .ok (.istore_n 2, 1) := by decide +kernel
theorem dX5_cover_43 : decode cX5_cover 43 = .ok (.iinc 3 (-1), 3) := by decide +kernel
theorem dX5_cover_46 : decode cX5_cover 46 = .ok (.goto (-33), 3) := by decide +kernel
theorem dX5_cover_49 : decode cX5_cover 49 = .ok (.iload_n 2, 1) := by decide +kernel
theorem dX5_cover_50 : decode cX5_cover 50 = .ok (.ireturn, 1) := by decide +kernel
theorem dX5_cutTo_0 : decode cX5_cutTo 0 = .ok (.iload_n 1, 1) := by decide +kernel
theorem dX5_cutTo_1 : decode cX5_cutTo 1 = .ok (.bipush 8, 2) := by decide +kernel
theorem dX5_cutTo_3 : decode cX5_cutTo 3 = .ok (.if_icmp .ne 8, 3) := by decide +kernel
theorem dX5_cutTo_6 : decode cX5_cutTo 6 = .ok (.iload_n 0, 1) := by decide +kernel
theorem dX5_cutTo_7 : decode cX5_cutTo 7 = .ok (.i2b, 1) := by decide +kernel
theorem dX5_cutTo_8 : decode cX5_cutTo 8 = .ok (.goto 15, 3) := by decide +kernel
theorem dX5_cutTo_11 : decode cX5_cutTo 11 = .ok (.iload_n 1, 1) := by decide +kernel
theorem dX5_cutTo_12 : decode cX5_cutTo 12 = .ok (.bipush 16, 2) := by decide +kernel
theorem dX5_cutTo_14 : decode cX5_cutTo 14 = .ok (.if_icmp .ne 8, 3) := by decide +kernel
theorem dX5_cutTo_17 : decode cX5_cutTo 17 = .ok (.iload_n 0, 1) := by decide +kernel
theorem dX5_cutTo_18 : decode cX5_cutTo 18 = .ok (.i2s, 1) := by decide +kernel
theorem dX5_cutTo_19 : decode cX5_cutTo 19 = .ok (.goto 4, 3) := by decide +kernel
theorem dX5_cutTo_22 : decode cX5_cutTo 22 = .ok (.iload_n 0, 1) := by decide +kernel
theorem dX5_cutTo_23 : decode cX5_cutTo 23 = .ok (.ireturn, 1) := by decide +kernel
theorem dX5_drawn_0 : decode cX5_drawn 0 = .ok (.aload_n 0, 1) := by decide +kernel
theorem dX5_drawn_1 : decode cX5_drawn 1 = .ok (.getfield 9, 3) := by decide +kernel
theorem dX5_drawn_4 : decode cX5_drawn 4 = .ok (.iconst 2, 1) := by decide +kernel
theorem dX5_drawn_5 : decode cX5_drawn 5 = .ok (.aload_n 0, 1) := by decide +kernel
theorem dX5_drawn_6 : decode cX5_drawn 6 = .ok (.getfield 9, 3) := by decide +kernel
theorem dX5_drawn_9 : decode cX5_drawn 9 = .ok (.iconst 2, 1) := by decide +kernel
theorem dX5_drawn_10 : decode cX5_drawn 10 = .ok (.iaload, 1) := by decide +kernel
theorem dX5_drawn_11 : decode cX5_drawn 11 = .ok (.ldc 216, 2) := by decide +kernel
theorem dX5_drawn_13 : decode cX5_drawn 13 = .ok (.imul, 1) := by decide +kernel
theorem dX5_drawn_14 : decode cX5_drawn 14 = .ok (.sipush 12345, 3) := by decide +kernel
theorem dX5_drawn_17 : decode cX5_drawn 17 = .ok (.iadd, 1) := by decide +kernel
theorem dX5_drawn_18 : decode cX5_drawn 18 = .ok (.iastore, 1) := by decide +kernel
theorem dX5_drawn_19 : decode cX5_drawn 19 = .ok (.aload_n 0, 1) := by decide +kernel
theorem dX5_drawn_20 : decode cX5_drawn 20 = .ok (.getfield 9, 3) := by decide +kernel
theorem dX5_drawn_23 : decode cX5_drawn 23 = .ok (.iconst 2, 1) := by decide +kernel
theorem dX5_drawn_24 : decode cX5_drawn 24 = .ok (.iaload, 1) := by decide +kernel
theorem dX5_drawn_25 : decode cX5_drawn 25 = .ok (.bipush 8, 2) := by decide +kernel
theorem dX5_drawn_27 : decode cX5_drawn 27 = .ok (.iushr, 1) := by decide +kernel
theorem dX5_drawn_28 : decode cX5_drawn 28 = .ok (.ireturn, 1) := by decide +kernel
theorem dX5_feed_0 : decode cX5_feed 0 = .ok (.iload_n 2, 1) := by decide +kernel
theorem dX5_feed_1 : decode cX5_feed 1 = .ok (.iconst 1, 1) := by decide +kernel
theorem dX5_feed_2 : decode cX5_feed 2 = .ok (.iconst 4, 1) := by decide +kernel
theorem dX5_feed_3 : decode cX5_feed 3 = .ok (.invokestatic 76, 3) := by decide +kernel
theorem dX5_feed_6 : decode cX5_feed 6 = .ok (.ifCond .ne 10, 3) := by decide +kernel
theorem dX5_feed_9 : decode cX5_feed 9 = .ok (.aload_n 0, 1) := by decide +kernel
theorem dX5_feed_10 : decode cX5_feed 10 = .ok (.ldc 66, 2) := by decide +kernel
theorem dX5_feed_12 : decode cX5_feed 12 = .ok (.invokevirtual 72, 3) := by decide +kernel
theorem dX5_feed_15 : decode cX5_feed 15 = .ok (.ireturn, 1) := by decide +kernel
theorem dX5_feed_16 : decode cX5_feed 16 = .ok (.aload_n 0, 1) := by decide +kernel
theorem dX5_feed_17 : decode cX5_feed 17 = .ok (.getfield 220, 3) := by decide +kernel
theorem dX5_feed_20 : decode cX5_feed 20 = .ok (.iload_n 2, 1) := by decide +kernel
theorem dX5_feed_21 : decode cX5_feed 21 = .ok (.iadd, 1) := by decide +kernel
theorem dX5_feed_22 : decode cX5_feed 22 = .ok (.bipush 120, 2) := by decide +kernel
theorem dX5_feed_24 : decode cX5_feed 24 = .ok (.if_icmp .le 10, 3) := by decide +kernel
theorem dX5_feed_27 : decode cX5_feed 27 = .ok (.aload_n 0, 1) := by decide +kernel
theorem dX5_feed_28 : decode cX5_feed 28 = .ok (.ldc 115, 2) := by decide +kernel
theorem dX5_feed_30 : decode cX5_feed 30 = .ok (.invokevirtual 72, 3) := by decide +kernel
theorem dX5_feed_33 : decode cX5_feed 33 = .ok (.ireturn, 1) := by decide +kernel
theorem dX5_feed_34 : decode cX5_feed 34 = .ok (.iload_n 2, 1) := by decide +kernel
theorem dX5_feed_35 : decode cX5_feed 35 = .ok (.iconst 1, 1) := by decide +kernel
theorem dX5_feed_36 : decode cX5_feed 36 = .ok (.isub, 1) := by decide +kernel
theorem dX5_feed_37 : decode cX5_feed 37 = .ok (.istore_n 3, 1) := by decide +kernel
theorem dX5_feed_38 : decode cX5_feed 38 = .ok (.iload_n 3, 1) := by decide +kernel
theorem dX5_feed_39 : decode cX5_feed 39 = .ok (.ifCond .lt 38, 3) := by decide +kernel
theorem dX5_feed_42 : decode cX5_feed 42 = .ok (.aload_n 0, 1) := by decide +kernel
theorem dX5_feed_43 : decode cX5_feed 43 = .ok (.getfield 22, 3) := by decide +kernel
theorem dX5_feed_46 : decode cX5_feed 46 = .ok (.aload_n 0, 1) := by decide +kernel
theorem dX5_feed_47 : decode cX5_feed 47 = .ok (.getfield 220, 3) := by decide +kernel
theorem dX5_feed_50 : decode cX5_feed 50 = .ok (.iload_n 1, 1) := by decide +kernel
theorem dX5_feed_51 : decode cX5_feed 51 = .ok (.bipush 8, 2) := by decide +kernel
theorem dX5_feed_53 : decode cX5_feed 53 = .ok (.iload_n 3, 1) := by decide +kernel
theorem dX5_feed_54 : decode cX5_feed 54 = .ok (.imul, 1) := by decide +kernel
theorem dX5_feed_55 : decode cX5_feed 55 = .ok (.ishr, 1) := by decide +kernel
theorem dX5_feed_56 : decode cX5_feed 56 = .ok (.sipush 255, 3) := by decide +kernel
theorem dX5_feed_59 : decode cX5_feed 59 = .ok (.iand, 1) := by decide +kernel
theorem dX5_feed_60 : decode cX5_feed 60 = .ok (.iastore, 1) := by decide +kernel
theorem dX5_feed_61 : decode cX5_feed 61 = .ok (.aload_n 0, 1) := by decide +kernel
theorem dX5_feed_62 : decode cX5_feed 62 = .ok (.dup, 1) := by decide +kernel
theorem dX5_feed_63 : decode cX5_feed 63 = .ok (.getfield 220, 3) := by decide +kernel
theorem dX5_feed_66 : decode cX5_feed 66 = .ok (.iconst 1, 1) := by decide +kernel
theorem dX5_feed_67 : decode cX5_feed 67 = .ok (.iadd, 1) := by decide +kernel
theorem dX5_feed_68 : decode cX5_feed 68 = .ok (.putfield 220, 3) := by decide +kernel
theorem dX5_feed_71 : decode cX5_feed 71 = .ok (.iinc 3 (-1), 3) := by decide +kernel
theorem dX5_feed_74 : decode cX5_feed 74 = .ok (.goto (-36), 3) := by decide +kernel
theorem dX5_feed_77 : decode cX5_feed 77 = .ok (.aload_n 0, 1) := by decide +kernel
theorem dX5_feed_78 : decode cX5_feed 78 = .ok (.getfield 220, 3) := by decide +kernel
theorem dX5_feed_81 : decode cX5_feed 81 = .ok (.ireturn, 1) := by decide +kernel
theorem dX5_finding_0 : decode cX5_finding 0 = .ok (.aload_n 0, 1) := by decide +kernel
theorem dX5_finding_1 : decode cX5_finding 1 = .ok (.getfield 19, 3) := by decide +kernel
theorem dX5_finding_4 : decode cX5_finding 4 = .ok (.ldc 66, 2) := by decide +kernel
theorem dX5_finding_6 : decode cX5_finding 6 = .ok (.iload_n 1, 1) := by decide +kernel
theorem dX5_finding_7 : decode cX5_finding 7 = .ok (.isub, 1) := by decide +kernel
theorem dX5_finding_8 : decode cX5_finding 8 = .ok (.iconst 1, 1) := by decide +kernel
theorem dX5_finding_9 : decode cX5_finding 9 = .ok (.iadd, 1) := by decide +kernel
theorem dX5_finding_10 : decode cX5_finding 10 = .ok (.dup2, 1) := by decide +kernel
theorem dX5_finding_11 : decode cX5_finding 11 = .ok (.iaload, 1) := by decide +kernel
theorem dX5_finding_12 : decode cX5_finding 12 = .ok (.iconst 1, 1) := by decide +kernel
theorem dX5_finding_13 : decode cX5_finding 13 = .ok (.iadd, 1) := by decide +kernel
theorem dX5_finding_14 : decode cX5_finding 14 = .ok (.iastore, 1) := by decide +kernel
theorem dX5_finding_15 : decode cX5_finding 15 = .ok (.aload_n 0, 1) := by decide +kernel
theorem dX5_finding_16 : decode cX5_finding 16 = .ok (.getfield 19, 3) := by decide +kernel
theorem dX5_finding_19 : decode cX5_finding 19 = .ok (.iconst 0, 1) := by decide +kernel
theorem dX5_finding_20 : decode cX5_finding 20 = .ok (.dup2, 1) := by decide +kernel
theorem dX5_finding_21 : decode cX5_finding 21 = .ok (.iaload, 1) := by decide +kernel
theorem dX5_finding_22 : decode cX5_finding 22 = .ok (.iconst 1, 1) := by decide +kernel
theorem dX5_finding_23 : decode cX5_finding 23 = .ok (.iadd, 1) := by decide +kernel
theorem dX5_finding_24 : decode cX5_finding 24 = .ok (.iastore, 1) := by decide +kernel
theorem dX5_finding_25 : decode cX5_finding 25 = .ok (.iload_n 1, 1) := by decide +kernel
theorem dX5_finding_26 : decode cX5_finding 26 = .ok (.ireturn, 1) := by decide +kernel
theorem dX5_fitTall_0 : decode cX5_fitTall 0 = .ok (.iload_n 2, 1) := by decide +kernel
theorem dX5_fitTall_1 : decode cX5_fitTall 1 = .ok (.iconst 1, 1) := by decide +kernel
theorem dX5_fitTall_2 : decode cX5_fitTall 2 = .ok (.invokestatic 109, 3) := by decide +kernel
theorem dX5_fitTall_5 : decode cX5_fitTall 5 = .ok (.istore_n 3, 1) := by decide +kernel
theorem dX5_fitTall_6 : decode cX5_fitTall 6 = .ok (.aload_n 0, 1) := by decide +kernel
theorem dX5_fitTall_7 : decode cX5_fitTall 7 = .ok (.getfield 9, 3) := by decide +kernel
theorem dX5_fitTall_10 : decode cX5_fitTall 10 = .ok (.iload_n 3, 1) := by decide +kernel
theorem dX5_fitTall_11 : decode cX5_fitTall 11 = .ok (.iaload, 1) := by decide +kernel
theorem dX5_fitTall_12 : decode cX5_fitTall 12 = .ok (.istore 4, 2) := by decide +kernel
theorem dX5_fitTall_14 : decode cX5_fitTall 14 = .ok (.aload_n 0, 1) := by decide +kernel
theorem dX5_fitTall_15 : decode cX5_fitTall 15 = .ok (.iconst 0, 1) := by decide +kernel
theorem dX5_fitTall_16 : decode cX5_fitTall 16 = .ok (.putfield 206, 3) := by decide +kernel
theorem dX5_fitTall_19 : decode cX5_fitTall 19 = .ok (.aload_n 0, 1) := by decide +kernel
theorem dX5_fitTall_20 : decode cX5_fitTall 20 = .ok (.iconst (-1), 1) := by decide +kernel
theorem dX5_fitTall_21 : decode cX5_fitTall 21 = .ok (.putfield 210, 3) := by decide +kernel
theorem dX5_fitTall_24 : decode cX5_fitTall 24 = .ok (.bipush 99, 2) := by decide +kernel
theorem dX5_fitTall_26 : decode cX5_fitTall 26 = .ok (.istore 5, 2) := by decide +kernel
theorem dX5_fitTall_28 : decode cX5_fitTall 28 = .ok (.iload 5, 2) := by decide +kernel
theorem dX5_fitTall_30 : decode cX5_fitTall 30 = .ok (.ifCond .lt 61, 3) := by decide +kernel
theorem dX5_fitTall_33 : decode cX5_fitTall 33 = .ok (.aload_n 0, 1) := by decide +kernel
theorem dX5_fitTall_34 : decode cX5_fitTall 34 = .ok (.getfield 9, 3) := by decide +kernel
theorem dX5_fitTall_37 : decode cX5_fitTall 37 = .ok (.iload_n 3, 1) := by decide +kernel
theorem dX5_fitTall_38 : decode cX5_fitTall 38 = .ok (.iload 5, 2) := by decide +kernel
theorem dX5_fitTall_40 : decode cX5_fitTall 40 = .ok (.iastore, 1) := by decide +kernel
theorem dX5_fitTall_41 : decode cX5_fitTall 41 = .ok (.aload_n 0, 1) := by decide +kernel
theorem dX5_fitTall_42 : decode cX5_fitTall 42 = .ok (.iload_n 1, 1) := by decide +kernel
theorem dX5_fitTall_43 : decode cX5_fitTall 43 = .ok (.invokevirtual 203, 3) := by decide +kernel
theorem dX5_fitTall_46 : decode cX5_fitTall 46 = .ok (.istore 6, 2) := by decide +kernel
theorem dX5_fitTall_48 : decode cX5_fitTall 48 = .ok (.aload_n 0, 1) := by decide +kernel
theorem dX5_fitTall_49 : decode cX5_fitTall 49 = .ok (.dup, 1) := by decide +kernel
theorem dX5_fitTall_50 : decode cX5_fitTall 50 = .ok (.getfield 206, 3) := by decide +kernel
theorem dX5_fitTall_53 : decode cX5_fitTall 53 = .ok (.iload 6, 2) := by decide +kernel
theorem dX5_fitTall_55 : decode cX5_fitTall 55 = .ok (.ifCond .eq 7, 3) := by decide +kernel
theorem dX5_fitTall_58 : decode cX5_fitTall 58 = .ok (.iconst 1, 1) := by decide +kernel
theorem dX5_fitTall_59 : decode cX5_fitTall 59 = .ok (.goto 4, 3) := by decide +kernel
theorem dX5_fitTall_62 : decode cX5_fitTall 62 = .ok (.iconst 0, 1) := by decide +kernel
theorem dX5_fitTall_63 : decode cX5_fitTall 63 = .ok (.iadd, 1) := by decide +kernel
theorem dX5_fitTall_64 : decode cX5_fitTall 64 = .ok (.putfield 206, 3) := by decide +kernel
theorem dX5_fitTall_67 : decode cX5_fitTall 67 = .ok (.aload_n 0, 1) := by decide +kernel
theorem dX5_fitTall_68 : decode cX5_fitTall 68 = .ok (.iload 6, 2) := by decide +kernel
theorem dX5_fitTall_70 : decode cX5_fitTall 70 = .ok (.ifCond .eq 8, 3) := by decide +kernel
theorem dX5_fitTall_73 : decode cX5_fitTall 73 = .ok (.iload 5, 2) := by decide +kernel
theorem dX5_fitTall_75 : decode cX5_fitTall 75 = .ok (.goto 7, 3) := by decide +kernel
theorem dX5_fitTall_78 : decode cX5_fitTall 78 = .ok (.aload_n 0, 1) := by decide +kernel
theorem dX5_fitTall_79 : decode cX5_fitTall 79 = .ok (.getfield 210, 3) := by decide +kernel
theorem dX5_fitTall_82 : decode cX5_fitTall 82 = .ok (.putfield 210, 3) := by decide +kernel
theorem dX5_fitTall_85 : decode cX5_fitTall 85 = .ok (.iinc 5 (-1), 3) := by decide +kernel
theorem dX5_fitTall_88 : decode cX5_fitTall 88 = .ok (.goto (-60), 3) := by decide +kernel
theorem dX5_fitTall_91 : decode cX5_fitTall 91 = .ok (.aload_n 0, 1) := by decide +kernel
theorem dX5_fitTall_92 : decode cX5_fitTall 92 = .ok (.getfield 9, 3) := by decide +kernel
theorem dX5_fitTall_95 : decode cX5_fitTall 95 = .ok (.iload_n 3, 1) := by decide +kernel
theorem dX5_fitTall_96 : decode cX5_fitTall 96 = .ok (.iload 4, 2) := by decide +kernel
theorem dX5_fitTall_98 : decode cX5_fitTall 98 = .ok (.iastore, 1) := by decide +kernel
theorem dX5_fitTall_99 : decode cX5_fitTall 99 = .ok (.return_, 1) := by decide +kernel
theorem dX5_fits_0 : decode cX5_fits 0 = .ok (.aload_n 0, 1) := by decide +kernel
theorem dX5_fits_1 : decode cX5_fits 1 = .ok (.iload_n 1, 1) := by decide +kernel
theorem dX5_fits_2 : decode cX5_fits 2 = .ok (.aload_n 0, 1) := by decide +kernel
theorem dX5_fits_3 : decode cX5_fits 3 = .ok (.iload_n 2, 1) := by decide +kernel
theorem dX5_fits_4 : decode cX5_fits 4 = .ok (.invokevirtual 87, 3) := by decide +kernel
theorem dX5_fits_7 : decode cX5_fits 7 = .ok (.invokevirtual 199, 3) := by decide +kernel
theorem dX5_fits_10 : decode cX5_fits 10 = .ok (.istore_n 3, 1) := by decide +kernel
theorem dX5_fits_11 : decode cX5_fits 11 = .ok (.iload_n 3, 1) := by decide +kernel
theorem dX5_fits_12 : decode cX5_fits 12 = .ok (.ifCond .eq 9, 3) := by decide +kernel
theorem dX5_fits_15 : decode cX5_fits 15 = .ok (.aload_n 0, 1) := by decide +kernel
theorem dX5_fits_16 : decode cX5_fits 16 = .ok (.iload_n 3, 1) := by decide +kernel
theorem dX5_fits_17 : decode cX5_fits 17 = .ok (.invokevirtual 72, 3) := by decide +kernel
theorem dX5_fits_20 : decode cX5_fits 20 = .ok (.ireturn, 1) := by decide +kernel
theorem dX5_fits_21 : decode cX5_fits 21 = .ok (.aload_n 0, 1) := by decide +kernel
theorem dX5_fits_22 : decode cX5_fits 22 = .ok (.iload_n 1, 1) := by decide +kernel
theorem dX5_fits_23 : decode cX5_fits 23 = .ok (.iload_n 2, 1) := by decide +kernel
theorem dX5_fits_24 : decode cX5_fits 24 = .ok (.invokevirtual 213, 3) := by decide +kernel
theorem dX5_fits_27 : decode cX5_fits 27 = .ok (.aload_n 0, 1) := by decide +kernel
theorem dX5_fits_28 : decode cX5_fits 28 = .ok (.getfield 206, 3) := by decide +kernel
theorem dX5_fits_31 : decode cX5_fits 31 = .ok (.ireturn, 1) := by decide +kernel
theorem dX5_force_0 : decode cX5_force 0 = .ok (.aload_n 0, 1) := by decide +kernel
theorem dX5_force_1 : decode cX5_force 1 = .ok (.getfield 9, 3) := by decide +kernel
theorem dX5_force_4 : decode cX5_force 4 = .ok (.bipush 24, 2) := by decide +kernel
theorem dX5_force_6 : decode cX5_force 6 = .ok (.iload_n 1, 1) := by decide +kernel
theorem dX5_force_7 : decode cX5_force 7 = .ok (.iadd, 1) := by decide +kernel
theorem dX5_force_8 : decode cX5_force 8 = .ok (.iaload, 1) := by decide +kernel
theorem dX5_force_9 : decode cX5_force 9 = .ok (.aload_n 0, 1) := by decide +kernel
theorem dX5_force_10 : decode cX5_force 10 = .ok (.getfield 9, 3) := by decide +kernel
theorem dX5_force_13 : decode cX5_force 13 = .ok (.bipush 31, 2) := by decide +kernel
theorem dX5_force_15 : decode cX5_force 15 = .ok (.iload_n 1, 1) := by decide +kernel
theorem dX5_force_16 : decode cX5_force 16 = .ok (.iadd, 1) := by decide +kernel
theorem dX5_force_17 : decode cX5_force 17 = .ok (.iaload, 1) := by decide +kernel
theorem dX5_force_18 : decode cX5_force 18 = .ok (.iconst 2, 1) := by decide +kernel
theorem dX5_force_19 : decode cX5_force 19 = .ok (.idiv, 1) := by decide +kernel
theorem dX5_force_20 : decode cX5_force 20 = .ok (.iadd, 1) := by decide +kernel
theorem dX5_force_21 : decode cX5_force 21 = .ok (.ireturn, 1) := by decide +kernel
theorem dX5_freePlace_0 : decode cX5_freePlace 0 = .ok (.aload_n 0, 1) := by decide +kernel
theorem dX5_freePlace_1 : decode cX5_freePlace 1 = .ok (.getfield 232, 3) := by decide +kernel
theorem dX5_freePlace_4 : decode cX5_freePlace 4 = .ok (.istore_n 1, 1) := by decide +kernel
theorem dX5_freePlace_5 : decode cX5_freePlace 5 = .ok (.aload_n 0, 1) := by decide +kernel
theorem dX5_freePlace_6 : decode cX5_freePlace 6 = .ok (.aload_n 0, 1) := by decide +kernel
theorem dX5_freePlace_7 : decode cX5_freePlace 7 = .ok (.getfield 235, 3) := by decide +kernel
theorem dX5_freePlace_10 : decode cX5_freePlace 10 = .ok (.iconst 2, 1) := by decide +kernel
theorem dX5_freePlace_11 : decode cX5_freePlace 11 = .ok (.if_icmp .ne 25, 3) := by decide +kernel
theorem dX5_freePlace_14 : decode cX5_freePlace 14 = .ok (.iload_n 1, 1) := by decide +kernel
theorem dX5_freePlace_15 : decode cX5_freePlace 15 = .ok (.invokestatic 83, 3) := by decide +kernel
theorem dX5_freePlace_18 : decode cX5_freePlace 18 = .ok (.ifCond .eq 18, 3) := by decide +kernel
theorem dX5_freePlace_21 : decode cX5_freePlace 21 = .ok (.aload_n 0, 1) := by decide +kernel
theorem dX5_freePlace_22 : decode cX5_freePlace 22 = .ok (.getfield 263, 3) := by decide +kernel
theorem dX5_freePlace_25 : decode cX5_freePlace 25 = .ok (.iload_n 1, 1) := by decide +kernel
theorem dX5_freePlace_26 : decode cX5_freePlace 26 = .ok (.invokestatic 163, 3) := by decide +kernel
theorem dX5_freePlace_29 : decode cX5_freePlace 29 = .ok (.ifCond .ne 7, 3) := by decide +kernel
theorem dX5_freePlace_32 : decode cX5_freePlace 32 = .ok (.iconst 1, 1) := by decide +kernel
theorem dX5_freePlace_33 : decode cX5_freePlace 33 = .ok (.goto 4, 3) := by decide +kernel
theorem dX5_freePlace_36 : decode cX5_freePlace 36 = .ok (.iconst 0, 1) := by decide +kernel
theorem dX5_freePlace_37 : decode cX5_freePlace 37 = .ok (.invokevirtual 252, 3) := by decide +kernel
theorem dX5_freePlace_40 : decode cX5_freePlace 40 = .ok (.iload_n 1, 1) := by decide +kernel
theorem dX5_freePlace_41 : decode cX5_freePlace 41 = .ok (.ireturn, 1) := by decide +kernel
theorem dX5_gains_0 : decode cX5_gains 0 = .ok (.aload_n 0, 1) := by decide +kernel
theorem dX5_gains_1 : decode cX5_gains 1 = .ok (.iload_n 1, 1) := by decide +kernel
theorem dX5_gains_2 : decode cX5_gains 2 = .ok (.invokevirtual 87, 3) := by decide +kernel
theorem dX5_gains_5 : decode cX5_gains 5 = .ok (.ifCond .eq 19, 3) := by decide +kernel
theorem dX5_gains_8 : decode cX5_gains 8 = .ok (.iload_n 2, 1) := by decide +kernel
theorem dX5_gains_9 : decode cX5_gains 9 = .ok (.invokestatic 83, 3) := by decide +kernel
theorem dX5_gains_12 : decode cX5_gains 12 = .ok (.ifCond .eq 12, 3) := by decide +kernel
theorem dX5_gains_15 : decode cX5_gains 15 = .ok (.aload_n 0, 1) := by decide +kernel
theorem dX5_gains_16 : decode cX5_gains 16 = .ok (.iload_n 1, 1) := by decide +kernel
theorem dX5_gains_17 : decode cX5_gains 17 = .ok (.iload_n 2, 1) := by decide +kernel
theorem dX5_gains_18 : decode cX5_gains 18 = .ok (.invokevirtual 137, 3) := by decide +kernel
theorem dX5_gains_21 : decode cX5_gains 21 = .ok (.goto 9, 3) := by decide +kernel
theorem dX5_gains_24 : decode cX5_gains 24 = .ok (.aload_n 0, 1) := by decide +kernel
theorem dX5_gains_25 : decode cX5_gains 25 = .ok (.ldc 66, 2) := by decide +kernel
theorem dX5_gains_27 : decode cX5_gains 27 = .ok (.invokevirtual 72, 3) := by decide +kernel
theorem dX5_gains_30 : decode cX5_gains 30 = .ok (.ireturn, 1) := by decide +kernel
theorem dX5_gainsIn_0 : decode cX5_gainsIn 0 = .ok (.aload_n 0, 1) := by decide +kernel
theorem dX5_gainsIn_1 : decode cX5_gainsIn 1 = .ok (.iload_n 1, 1) := by decide +kernel
theorem dX5_gainsIn_2 : decode cX5_gainsIn 2 = .ok (.iconst 0, 1) := by decide +kernel
theorem dX5_gainsIn_3 : decode cX5_gainsIn 3 = .ok (.invokevirtual 119, 3) := by decide +kernel
theorem dX5_gainsIn_6 : decode cX5_gainsIn 6 = .ok (.tableswitch 65 1 6 #[38, 46, 46, 50, 65, 40], 38) := by decide +kernel
theorem dX5_gainsIn_44 : decode cX5_gainsIn 44 = .ok (.iconst 1, 1) := by decide +kernel
theorem dX5_gainsIn_45 : decode cX5_gainsIn 45 = .ok (.ireturn, 1) := by decide +kernel
theorem dX5_gainsIn_46 : decode cX5_gainsIn 46 = .ok (.iconst 1, 1) := by decide +kernel
theorem dX5_gainsIn_47 : decode cX5_gainsIn 47 = .ok (.iconst 2, 1) := by decide +kernel
theorem dX5_gainsIn_48 : decode cX5_gainsIn 48 = .ok (.iload_n 2, 1) := by decide +kernel
theorem dX5_gainsIn_49 : decode cX5_gainsIn 49 = .ok (.imul, 1) := by decide +kernel
theorem dX5_gainsIn_50 : decode cX5_gainsIn 50 = .ok (.iadd, 1) := by decide +kernel
theorem dX5_gainsIn_51 : decode cX5_gainsIn 51 = .ok (.ireturn, 1) := by decide +kernel
theorem dX5_gainsIn_52 : decode cX5_gainsIn 52 = .ok (.iload_n 2, 1) := by decide +kernel
theorem dX5_gainsIn_53 : decode cX5_gainsIn 53 = .ok (.iconst 2, 1) := by decide +kernel
theorem dX5_gainsIn_54 : decode cX5_gainsIn 54 = .ok (.iadd, 1) := by decide +kernel
theorem dX5_gainsIn_55 : decode cX5_gainsIn 55 = .ok (.ireturn, 1) := by decide +kernel
theorem dX5_gainsIn_56 : decode cX5_gainsIn 56 = .ok (.iconst 0, 1) := by decide +kernel
theorem dX5_gainsIn_57 : decode cX5_gainsIn 57 = .ok (.iload_n 2, 1) := by decide +kernel
theorem dX5_gainsIn_58 : decode cX5_gainsIn 58 = .ok (.iconst 2, 1) := by decide +kernel
theorem dX5_gainsIn_59 : decode cX5_gainsIn 59 = .ok (.iadd, 1) := by decide +kernel
theorem dX5_gainsIn_60 : decode cX5_gainsIn 60 = .ok (.aload_n 0, 1) := by decide +kernel
theorem dX5_gainsIn_61 : decode cX5_gainsIn 61 = .ok (.getfield 9, 3) := by decide +kernel
theorem dX5_gainsIn_64 : decode cX5_gainsIn 64 = .ok (.iconst 4, 1) := by decide +kernel
theorem dX5_gainsIn_65 : decode cX5_gainsIn 65 = .ok (.iaload, 1) := by decide +kernel
theorem dX5_gainsIn_66 : decode cX5_gainsIn 66 = .ok (.isub, 1) := by decide +kernel
theorem dX5_gainsIn_67 : decode cX5_gainsIn 67 = .ok (.invokestatic 122, 3) := by decide +kernel
theorem dX5_gainsIn_70 : decode cX5_gainsIn 70 = .ok (.ireturn, 1) := by decide +kernel
theorem dX5_gainsIn_71 : decode cX5_gainsIn 71 = .ok (.iload_n 2, 1) := by decide +kernel
theorem dX5_gainsIn_72 : decode cX5_gainsIn 72 = .ok (.ireturn, 1) := by decide +kernel
theorem dX5_go_0 : decode cX5_go 0 = .ok (.iload_n 1, 1) := by decide +kernel
theorem dX5_go_1 : decode cX5_go 1 = .ok (.iconst 1, 1) := by decide +kernel
theorem dX5_go_2 : decode cX5_go 2 = .ok (.bipush 60, 2) := by decide +kernel
theorem dX5_go_4 : decode cX5_go 4 = .ok (.invokestatic 76, 3) := by decide +kernel
theorem dX5_go_7 : decode cX5_go 7 = .ok (.ifCond .ne 10, 3) := by decide +kernel
theorem dX5_go_10 : decode cX5_go 10 = .ok (.aload_n 0, 1) := by decide +kernel
theorem dX5_go_11 : decode cX5_go 11 = .ok (.ldc 66, 2) := by decide +kernel
theorem dX5_go_13 : decode cX5_go 13 = .ok (.invokevirtual 72, 3) := by decide +kernel
theorem dX5_go_16 : decode cX5_go 16 = .ok (.ireturn, 1) := by decide +kernel
theorem dX5_go_17 : decode cX5_go 17 = .ok (.aload_n 0, 1) := by decide +kernel
theorem dX5_go_18 : decode cX5_go 18 = .ok (.getfield 9, 3) := by decide +kernel
theorem dX5_go_21 : decode cX5_go 21 = .ok (.iconst 0, 1) := by decide +kernel
theorem dX5_go_22 : decode cX5_go 22 = .ok (.iaload, 1) := by decide +kernel
theorem dX5_go_23 : decode cX5_go 23 = .ok (.iload_n 1, 1) := by decide +kernel
theorem dX5_go_24 : decode cX5_go 24 = .ok (.iadd, 1) := by decide +kernel
theorem dX5_go_25 : decode cX5_go 25 = .ok (.ldc 143, 2) := by decide +kernel
theorem dX5_go_27 : decode cX5_go 27 = .ok (.if_icmp .le 10, 3) := by decide +kernel
theorem dX5_go_30 : decode cX5_go 30 = .ok (.aload_n 0, 1) := by decide +kernel
theorem dX5_go_31 : decode cX5_go 31 = .ok (.ldc 158, 2) := by decide +kernel
theorem dX5_go_33 : decode cX5_go 33 = .ok (.invokevirtual 72, 3) := by decide +kernel
theorem dX5_go_36 : decode cX5_go 36 = .ok (.ireturn, 1) := by decide +kernel
theorem dX5_go_37 : decode cX5_go 37 = .ok (.aload_n 0, 1) := by decide +kernel
theorem dX5_go_38 : decode cX5_go 38 = .ok (.iload_n 1, 1) := by decide +kernel
theorem dX5_go_39 : decode cX5_go 39 = .ok (.invokevirtual 159, 3) := by decide +kernel
theorem dX5_go_42 : decode cX5_go 42 = .ok (.aload_n 0, 1) := by decide +kernel
theorem dX5_go_43 : decode cX5_go 43 = .ok (.getfield 9, 3) := by decide +kernel
theorem dX5_go_46 : decode cX5_go 46 = .ok (.iconst 3, 1) := by decide +kernel
theorem dX5_go_47 : decode cX5_go 47 = .ok (.iaload, 1) := by decide +kernel
theorem dX5_go_48 : decode cX5_go 48 = .ok (.ireturn, 1) := by decide +kernel
theorem dX5_hasBit_0 : decode cX5_hasBit 0 = .ok (.iload_n 0, 1) := by decide +kernel
theorem dX5_hasBit_1 : decode cX5_hasBit 1 = .ok (.iload_n 1, 1) := by decide +kernel
theorem dX5_hasBit_2 : decode cX5_hasBit 2 = .ok (.ishr, 1) := by decide +kernel
theorem dX5_hasBit_3 : decode cX5_hasBit 3 = .ok (.iconst 1, 1) := by decide +kernel
theorem dX5_hasBit_4 : decode cX5_hasBit 4 = .ok (.iand, 1) := by decide +kernel
theorem dX5_hasBit_5 : decode cX5_hasBit 5 = .ok (.iconst 1, 1) := by decide +kernel
theorem dX5_hasBit_6 : decode cX5_hasBit 6 = .ok (.if_icmp .ne 7, 3) := by decide +kernel
theorem dX5_hasBit_9 : decode cX5_hasBit 9 = .ok (.iconst 1, 1) := by decide +kernel
theorem dX5_hasBit_10 : decode cX5_hasBit 10 = .ok (.goto 4, 3) := by decide +kernel
theorem dX5_hasBit_13 : decode cX5_hasBit 13 = .ok (.iconst 0, 1) := by decide +kernel
theorem dX5_hasBit_14 : decode cX5_hasBit 14 = .ok (.ireturn, 1) := by decide +kernel
theorem dX5_high_0 : decode cX5_high 0 = .ok (.iconst 0, 1) := by decide +kernel
theorem dX5_high_1 : decode cX5_high 1 = .ok (.aload_n 0, 1) := by decide +kernel
theorem dX5_high_2 : decode cX5_high 2 = .ok (.iload_n 1, 1) := by decide +kernel
theorem dX5_high_3 : decode cX5_high 3 = .ok (.iconst 1, 1) := by decide +kernel
theorem dX5_high_4 : decode cX5_high 4 = .ok (.invokevirtual 119, 3) := by decide +kernel
theorem dX5_high_7 : decode cX5_high 7 = .ok (.aload_n 0, 1) := by decide +kernel
theorem dX5_high_8 : decode cX5_high 8 = .ok (.iload_n 1, 1) := by decide +kernel
theorem dX5_high_9 : decode cX5_high 9 = .ok (.iconst 2, 1) := by decide +kernel
theorem dX5_high_10 : decode cX5_high 10 = .ok (.invokevirtual 119, 3) := by decide +kernel
theorem dX5_high_13 : decode cX5_high 13 = .ok (.iconst 4, 1) := by decide +kernel
theorem dX5_high_14 : decode cX5_high 14 = .ok (.idiv, 1) := by decide +kernel
theorem dX5_high_15 : decode cX5_high 15 = .ok (.isub, 1) := by decide +kernel
theorem dX5_high_16 : decode cX5_high 16 = .ok (.invokestatic 122, 3) := by decide +kernel
theorem dX5_high_19 : decode cX5_high 19 = .ok (.istore_n 2, 1) := by decide +kernel
theorem dX5_high_20 : decode cX5_high 20 = .ok (.iload_n 2, 1) := by decide +kernel
theorem dX5_high_21 : decode cX5_high 21 = .ok (.bipush 15, 2) := by decide +kernel
theorem dX5_high_23 : decode cX5_high 23 = .ok (.iadd, 1) := by decide +kernel
theorem dX5_high_24 : decode cX5_high 24 = .ok (.aload_n 0, 1) := by decide +kernel
theorem dX5_high_25 : decode cX5_high 25 = .ok (.getfield 9, 3) := by decide +kernel
theorem dX5_high_28 : decode cX5_high 28 = .ok (.iconst 4, 1) := by decide +kernel
theorem dX5_high_29 : decode cX5_high 29 = .ok (.iaload, 1) := by decide +kernel
theorem dX5_high_30 : decode cX5_high 30 = .ok (.isub, 1) := by decide +kernel
theorem dX5_high_31 : decode cX5_high 31 = .ok (.istore_n 3, 1) := by decide +kernel
theorem dX5_high_32 : decode cX5_high 32 = .ok (.aload_n 0, 1) := by decide +kernel
theorem dX5_high_33 : decode cX5_high 33 = .ok (.iload_n 1, 1) := by decide +kernel
theorem dX5_high_34 : decode cX5_high 34 = .ok (.iconst 0, 1) := by decide +kernel
theorem dX5_high_35 : decode cX5_high 35 = .ok (.invokevirtual 119, 3) := by decide +kernel
theorem dX5_high_38 : decode cX5_high 38 = .ok (.tableswitch 101 1 6 #[38, 56, 61, 63, 83, 42], 38) := by decide +kernel
theorem dX5_high_76 : decode cX5_high 76 = .ok (.iload_n 2, 1) := by decide +kernel
theorem dX5_high_77 : decode cX5_high 77 = .ok (.iconst 2, 1) := by decide +kernel
theorem dX5_high_78 : decode cX5_high 78 = .ok (.idiv, 1) := by decide +kernel
theorem dX5_high_79 : decode cX5_high 79 = .ok (.ireturn, 1) := by decide +kernel
theorem dX5_high_80 : decode cX5_high 80 = .ok (.iload_n 2, 1) := by decide +kernel
theorem dX5_high_81 : decode cX5_high 81 = .ok (.iconst 2, 1) := by decide +kernel
theorem dX5_high_82 : decode cX5_high 82 = .ok (.idiv, 1) := by decide +kernel
theorem dX5_high_83 : decode cX5_high 83 = .ok (.bipush 30, 2) := by decide +kernel
theorem dX5_high_85 : decode cX5_high 85 = .ok (.iadd, 1) := by decide +kernel
theorem dX5_high_86 : decode cX5_high 86 = .ok (.aload_n 0, 1) := by decide +kernel
theorem dX5_high_87 : decode cX5_high 87 = .ok (.getfield 9, 3) := by decide +kernel
theorem dX5_high_90 : decode cX5_high 90 = .ok (.iconst 5, 1) := by decide +kernel
theorem dX5_high_91 : decode cX5_high 91 = .ok (.iaload, 1) := by decide +kernel
theorem dX5_high_92 : decode cX5_high 92 = .ok (.isub, 1) := by decide +kernel
theorem dX5_high_93 : decode cX5_high 93 = .ok (.ireturn, 1) := by decide +kernel
theorem dX5_high_94 : decode cX5_high 94 = .ok (.iload_n 2, 1) := by decide +kernel
theorem dX5_high_95 : decode cX5_high 95 = .ok (.bipush 10, 2) := by decide +kernel
theorem dX5_high_97 : decode cX5_high 97 = .ok (.iadd, 1) := by decide +kernel
theorem dX5_high_98 : decode cX5_high 98 = .ok (.ireturn, 1) := by decide +kernel
theorem dX5_high_99 : decode cX5_high 99 = .ok (.iload_n 3, 1) := by decide +kernel
theorem dX5_high_100 : decode cX5_high 100 = .ok (.ireturn, 1) := by decide +kernel
theorem dX5_high_101 : decode cX5_high 101 = .ok (.aload_n 0, 1) := by decide +kernel
theorem dX5_high_102 : decode cX5_high 102 = .ok (.iload_n 1, 1) := by decide +kernel
theorem dX5_high_103 : decode cX5_high 103 = .ok (.iconst 2, 1) := by decide +kernel
theorem dX5_high_104 : decode cX5_high 104 = .ok (.invokevirtual 119, 3) := by decide +kernel
theorem dX5_high_107 : decode cX5_high 107 = .ok (.bipush 20, 2) := by decide +kernel
theorem dX5_high_109 : decode cX5_high 109 = .ok (.if_icmp .ge 10, 3) := by decide +kernel
theorem dX5_high_112 : decode cX5_high 112 = .ok (.iload_n 3, 1) := by decide +kernel
theorem dX5_high_113 : decode cX5_high 113 = .ok (.bipush 10, 2) := by decide +kernel
theorem dX5_high_115 : decode cX5_high 115 = .ok (.iadd, 1) := by decide +kernel
theorem dX5_high_116 : decode cX5_high 116 = .ok (.goto 4, 3) := by decide +kernel
theorem dX5_high_119 : decode cX5_high 119 = .ok (.iload_n 3, 1) := by decide +kernel
theorem dX5_high_120 : decode cX5_high 120 = .ok (.ireturn, 1) := by decide +kernel
theorem dX5_high_121 : decode cX5_high 121 = .ok (.aload_n 0, 1) := by decide +kernel
theorem dX5_high_122 : decode cX5_high 122 = .ok (.getfield 9, 3) := by decide +kernel
theorem dX5_high_125 : decode cX5_high 125 = .ok (.iconst 0, 1) := by decide +kernel
theorem dX5_high_126 : decode cX5_high 126 = .ok (.iaload, 1) := by decide +kernel
theorem dX5_high_127 : decode cX5_high 127 = .ok (.iconst 2, 1) := by decide +kernel
theorem dX5_high_128 : decode cX5_high 128 = .ok (.irem, 1) := by decide +kernel
theorem dX5_high_129 : decode cX5_high 129 = .ok (.iconst 1, 1) := by decide +kernel
theorem dX5_high_130 : decode cX5_high 130 = .ok (.if_icmp .ne 7, 3) := by decide +kernel
theorem dX5_high_133 : decode cX5_high 133 = .ok (.iconst 0, 1) := by decide +kernel
theorem dX5_high_134 : decode cX5_high 134 = .ok (.goto 4, 3) := by decide +kernel
theorem dX5_high_137 : decode cX5_high 137 = .ok (.iload_n 2, 1) := by decide +kernel
theorem dX5_high_138 : decode cX5_high 138 = .ok (.ireturn, 1) := by decide +kernel
theorem dX5_high_139 : decode cX5_high 139 = .ok (.iload_n 2, 1) := by decide +kernel
theorem dX5_high_140 : decode cX5_high 140 = .ok (.ireturn, 1) := by decide +kernel
theorem dX5_hold_0 : decode cX5_hold 0 = .ok (.iload_n 1, 1) := by decide +kernel
theorem dX5_hold_1 : decode cX5_hold 1 = .ok (.invokestatic 305, 3) := by decide +kernel
theorem dX5_hold_4 : decode cX5_hold 4 = .ok (.ifCond .eq 16, 3) := by decide +kernel
theorem dX5_hold_7 : decode cX5_hold 7 = .ok (.iload_n 2, 1) := by decide +kernel
theorem dX5_hold_8 : decode cX5_hold 8 = .ok (.iconst (-1), 1) := by decide +kernel
theorem dX5_hold_9 : decode cX5_hold 9 = .ok (.if_icmp .eq 18, 3) := by decide +kernel
theorem dX5_hold_12 : decode cX5_hold 12 = .ok (.aload_n 0, 1) := by decide +kernel
theorem dX5_hold_13 : decode cX5_hold 13 = .ok (.iload_n 2, 1) := by decide +kernel
theorem dX5_hold_14 : decode cX5_hold 14 = .ok (.invokevirtual 87, 3) := by decide +kernel
theorem dX5_hold_17 : decode cX5_hold 17 = .ok (.ifCond .ne 10, 3) := by decide +kernel
theorem dX5_hold_20 : decode cX5_hold 20 = .ok (.aload_n 0, 1) := by decide +kernel
theorem dX5_hold_21 : decode cX5_hold 21 = .ok (.ldc 66, 2) := by decide +kernel
theorem dX5_hold_23 : decode cX5_hold 23 = .ok (.invokevirtual 72, 3) := by decide +kernel
theorem dX5_hold_26 : decode cX5_hold 26 = .ok (.ireturn, 1) := by decide +kernel
theorem dX5_hold_27 : decode cX5_hold 27 = .ok (.aload_n 0, 1) := by decide +kernel
theorem dX5_hold_28 : decode cX5_hold 28 = .ok (.getfield 9, 3) := by decide +kernel
theorem dX5_hold_31 : decode cX5_hold 31 = .ok (.bipush 7, 2) := by decide +kernel
theorem dX5_hold_33 : decode cX5_hold 33 = .ok (.iload_n 1, 1) := by decide +kernel
theorem dX5_hold_34 : decode cX5_hold 34 = .ok (.iadd, 1) := by decide +kernel
theorem dX5_hold_35 : decode cX5_hold 35 = .ok (.iload_n 2, 1) := by decide +kernel
theorem dX5_hold_36 : decode cX5_hold 36 = .ok (.iastore, 1) := by decide +kernel
theorem dX5_hold_37 : decode cX5_hold 37 = .ok (.iconst 1, 1) := by decide +kernel
theorem dX5_hold_38 : decode cX5_hold 38 = .ok (.ireturn, 1) := by decide +kernel
theorem dX5_image_0 : decode cX5_image 0 = .ok (.aload_n 0, 1) := by decide +kernel
theorem dX5_image_1 : decode cX5_image 1 = .ok (.getfield 9, 3) := by decide +kernel
theorem dX5_image_4 : decode cX5_image 4 = .ok (.aload_n 0, 1) := by decide +kernel
theorem dX5_image_5 : decode cX5_image 5 = .ok (.getfield 13, 3) := by decide +kernel
theorem dX5_image_8 : decode cX5_image 8 = .ok (.invokestatic 67, 3) := by decide +kernel
theorem dX5_image_11 : decode cX5_image 11 = .ok (.aload_n 0, 1) := by decide +kernel
theorem dX5_image_12 : decode cX5_image 12 = .ok (.iconst 1, 1) := by decide +kernel
theorem dX5_image_13 : decode cX5_image 13 = .ok (.putfield 319, 3) := by decide +kernel
theorem dX5_image_16 : decode cX5_image 16 = .ok (.iconst 1, 1) := by decide +kernel
theorem dX5_image_17 : decode cX5_image 17 = .ok (.ireturn, 1) := by decide +kernel
theorem dX5_isCall_0 : decode cX5_isCall 0 = .ok (.iload_n 0, 1) := by decide +kernel
theorem dX5_isCall_1 : decode cX5_isCall 1 = .ok (.iconst 0, 1) := by decide +kernel
theorem dX5_isCall_2 : decode cX5_isCall 2 = .ok (.sipush 999, 3) := by decide +kernel
theorem dX5_isCall_5 : decode cX5_isCall 5 = .ok (.invokestatic 76, 3) := by decide +kernel
theorem dX5_isCall_8 : decode cX5_isCall 8 = .ok (.ireturn, 1) := by decide +kernel
theorem dX5_isField_0 : decode cX5_isField 0 = .ok (.iload_n 0, 1) := by decide +kernel
theorem dX5_isField_1 : decode cX5_isField 1 = .ok (.tableswitch 57 0 4 #[35, 40, 40, 48, 48], 35) := by decide +kernel
theorem dX5_isField_36 : decode cX5_isField 36 = .ok (.iload_n 1, 1) := by decide +kernel
theorem dX5_isField_37 : decode cX5_isField 37 = .ok (.invokestatic 112, 3) := by decide +kernel
theorem dX5_isField_40 : decode cX5_isField 40 = .ok (.ireturn, 1) := by decide +kernel
theorem dX5_isField_41 : decode cX5_isField 41 = .ok (.iload_n 1, 1) := by decide +kernel
theorem dX5_isField_42 : decode cX5_isField 42 = .ok (.iconst 0, 1) := by decide +kernel
theorem dX5_isField_43 : decode cX5_isField 43 = .ok (.bipush 99, 2) := by decide +kernel
theorem dX5_isField_45 : decode cX5_isField 45 = .ok (.invokestatic 76, 3) := by decide +kernel
theorem dX5_isField_48 : decode cX5_isField 48 = .ok (.ireturn, 1) := by decide +kernel
theorem dX5_isField_49 : decode cX5_isField 49 = .ok (.iload_n 1, 1) := by decide +kernel
theorem dX5_isField_50 : decode cX5_isField 50 = .ok (.iconst 0, 1) := by decide +kernel
theorem dX5_isField_51 : decode cX5_isField 51 = .ok (.sipush 9999, 3) := by decide +kernel
theorem dX5_isField_54 : decode cX5_isField 54 = .ok (.invokestatic 76, 3) := by decide +kernel
theorem dX5_isField_57 : decode cX5_isField 57 = .ok (.ireturn, 1) := by decide +kernel
theorem dX5_isField_58 : decode cX5_isField 58 = .ok (.iconst 0, 1) := by decide +kernel
theorem dX5_isField_59 : decode cX5_isField 59 = .ok (.ireturn, 1) := by decide +kernel
theorem dX5_isJumper_0 : decode cX5_isJumper 0 = .ok (.iload_n 1, 1) := by decide +kernel
theorem dX5_isJumper_1 : decode cX5_isJumper 1 = .ok (.iconst 0, 1) := by decide +kernel
theorem dX5_isJumper_2 : decode cX5_isJumper 2 = .ok (.aload_n 0, 1) := by decide +kernel
theorem dX5_isJumper_3 : decode cX5_isJumper 3 = .ok (.getfield 9, 3) := by decide +kernel
theorem dX5_isJumper_6 : decode cX5_isJumper 6 = .ok (.iconst 1, 1) := by decide +kernel
theorem dX5_isJumper_7 : decode cX5_isJumper 7 = .ok (.iaload, 1) := by decide +kernel
theorem dX5_isJumper_8 : decode cX5_isJumper 8 = .ok (.iconst 1, 1) := by decide +kernel
theorem dX5_isJumper_9 : decode cX5_isJumper 9 = .ok (.isub, 1) := by decide +kernel
theorem dX5_isJumper_10 : decode cX5_isJumper 10 = .ok (.invokestatic 76, 3) := by decide +kernel
theorem dX5_isJumper_13 : decode cX5_isJumper 13 = .ok (.ireturn, 1) := by decide +kernel
theorem dX5_isKind_0 : decode cX5_isKind 0 = .ok (.iload_n 0, 1) := by decide +kernel
theorem dX5_isKind_1 : decode cX5_isKind 1 = .ok (.iconst 0, 1) := by decide +kernel
theorem dX5_isKind_2 : decode cX5_isKind 2 = .ok (.bipush 6, 2) := by decide +kernel
theorem dX5_isKind_4 : decode cX5_isKind 4 = .ok (.invokestatic 76, 3) := by decide +kernel
theorem dX5_isKind_7 : decode cX5_isKind 7 = .ok (.ireturn, 1) := by decide +kernel
theorem dX5_isPlace_0 : decode cX5_isPlace 0 = .ok (.iload_n 0, 1) := by decide +kernel
theorem dX5_isPlace_1 : decode cX5_isPlace 1 = .ok (.iconst 0, 1) := by decide +kernel
theorem dX5_isPlace_2 : decode cX5_isPlace 2 = .ok (.bipush 6, 2) := by decide +kernel
theorem dX5_isPlace_4 : decode cX5_isPlace 4 = .ok (.invokestatic 76, 3) := by decide +kernel
theorem dX5_isPlace_7 : decode cX5_isPlace 7 = .ok (.ireturn, 1) := by decide +kernel
theorem dX5_isSheet_0 : decode cX5_isSheet 0 = .ok (.iload_n 0, 1) := by decide +kernel
theorem dX5_isSheet_1 : decode cX5_isSheet 1 = .ok (.iconst 0, 1) := by decide +kernel
theorem dX5_isSheet_2 : decode cX5_isSheet 2 = .ok (.iconst 3, 1) := by decide +kernel
theorem dX5_isSheet_3 : decode cX5_isSheet 3 = .ok (.invokestatic 76, 3) := by decide +kernel
theorem dX5_isSheet_6 : decode cX5_isSheet 6 = .ok (.ireturn, 1) := by decide +kernel
theorem dX5_isSpot_0 : decode cX5_isSpot 0 = .ok (.iload_n 0, 1) := by decide +kernel
theorem dX5_isSpot_1 : decode cX5_isSpot 1 = .ok (.iconst 0, 1) := by decide +kernel
theorem dX5_isSpot_2 : decode cX5_isSpot 2 = .ok (.bipush 9, 2) := by decide +kernel
theorem dX5_isSpot_4 : decode cX5_isSpot 4 = .ok (.invokestatic 76, 3) := by decide +kernel
theorem dX5_isSpot_7 : decode cX5_isSpot 7 = .ok (.ireturn, 1) := by decide +kernel
theorem dX5_isThought_0 : decode cX5_isThought 0 = .ok (.iload_n 0, 1) := by decide +kernel
theorem dX5_isThought_1 : decode cX5_isThought 1 = .ok (.iconst 0, 1) := by decide +kernel
theorem dX5_isThought_2 : decode cX5_isThought 2 = .ok (.bipush 40, 2) := by decide +kernel
theorem dX5_isThought_4 : decode cX5_isThought 4 = .ok (.invokestatic 76, 3) := by decide +kernel
theorem dX5_isThought_7 : decode cX5_isThought 7 = .ok (.ireturn, 1) := by decide +kernel
theorem dX5_isToldSo_0 : decode cX5_isToldSo 0 = .ok (.aload_n 0, 1) := by decide +kernel
theorem dX5_isToldSo_1 : decode cX5_isToldSo 1 = .ok (.getfield 48, 3) := by decide +kernel
theorem dX5_isToldSo_4 : decode cX5_isToldSo 4 = .ok (.iload_n 1, 1) := by decide +kernel
theorem dX5_isToldSo_5 : decode cX5_isToldSo 5 = .ok (.iaload, 1) := by decide +kernel
theorem dX5_isToldSo_6 : decode cX5_isToldSo 6 = .ok (.istore_n 2, 1) := by decide +kernel
theorem dX5_isToldSo_7 : decode cX5_isToldSo 7 = .ok (.aload_n 0, 1) := by decide +kernel
theorem dX5_isToldSo_8 : decode cX5_isToldSo 8 = .ok (.getfield 51, 3) := by decide +kernel
theorem dX5_isToldSo_11 : decode cX5_isToldSo 11 = .ok (.iload_n 1, 1) := by decide +kernel
theorem dX5_isToldSo_12 : decode cX5_isToldSo 12 = .ok (.iaload, 1) := by decide +kernel
theorem dX5_isToldSo_13 : decode cX5_isToldSo 13 = .ok (.istore_n 3, 1) := by decide +kernel
theorem dX5_isToldSo_14 : decode cX5_isToldSo 14 = .ok (.aload_n 0, 1) := by decide +kernel
theorem dX5_isToldSo_15 : decode cX5_isToldSo 15 = .ok (.getfield 45, 3) := by decide +kernel
theorem dX5_isToldSo_18 : decode cX5_isToldSo 18 = .ok (.iload_n 1, 1) := by decide +kernel
theorem dX5_isToldSo_19 : decode cX5_isToldSo 19 = .ok (.iaload, 1) := by decide +kernel
theorem dX5_isToldSo_20 : decode cX5_isToldSo 20 = .ok (.tableswitch 93 10 14 #[36, 49, 62, 73, 83], 36) := by decide +kernel
theorem dX5_isToldSo_56 : decode cX5_isToldSo 56 = .ok (.aload_n 0, 1) := by decide +kernel
theorem dX5_isToldSo_57 : decode cX5_isToldSo 57 = .ok (.getfield 9, 3) := by decide +kernel
theorem dX5_isToldSo_60 : decode cX5_isToldSo 60 = .ok (.bipush 24, 2) := by decide +kernel
theorem dX5_isToldSo_62 : decode cX5_isToldSo 62 = .ok (.iload_n 2, 1) := by decide +kernel
theorem dX5_isToldSo_63 : decode cX5_isToldSo 63 = .ok (.iadd, 1) := by decide +kernel
theorem dX5_isToldSo_64 : decode cX5_isToldSo 64 = .ok (.iload_n 3, 1) := by decide +kernel
theorem dX5_isToldSo_65 : decode cX5_isToldSo 65 = .ok (.iastore, 1) := by decide +kernel
theorem dX5_isToldSo_66 : decode cX5_isToldSo 66 = .ok (.goto 75, 3) := by decide +kernel
theorem dX5_isToldSo_69 : decode cX5_isToldSo 69 = .ok (.aload_n 0, 1) := by decide +kernel
theorem dX5_isToldSo_70 : decode cX5_isToldSo 70 = .ok (.getfield 9, 3) := by decide +kernel
theorem dX5_isToldSo_73 : decode cX5_isToldSo 73 = .ok (.bipush 38, 2) := by decide +kernel
theorem dX5_isToldSo_75 : decode cX5_isToldSo 75 = .ok (.iload_n 2, 1) := by decide +kernel
theorem dX5_isToldSo_76 : decode cX5_isToldSo 76 = .ok (.iadd, 1) := by decide +kernel
theorem dX5_isToldSo_77 : decode cX5_isToldSo 77 = .ok (.iload_n 3, 1) := by decide +kernel
theorem dX5_isToldSo_78 : decode cX5_isToldSo 78 = .ok (.iastore, 1) := by decide +kernel
theorem dX5_isToldSo_79 : decode cX5_isToldSo 79 = .ok (.goto 62, 3) := by decide +kernel
theorem dX5_isToldSo_82 : decode cX5_isToldSo 82 = .ok (.aload_n 0, 1) := by decide +kernel
theorem dX5_isToldSo_83 : decode cX5_isToldSo 83 = .ok (.getfield 9, 3) := by decide +kernel
theorem dX5_isToldSo_86 : decode cX5_isToldSo 86 = .ok (.bipush 6, 2) := by decide +kernel
theorem dX5_isToldSo_88 : decode cX5_isToldSo 88 = .ok (.iload_n 2, 1) := by decide +kernel
theorem dX5_isToldSo_89 : decode cX5_isToldSo 89 = .ok (.iastore, 1) := by decide +kernel
theorem dX5_isToldSo_90 : decode cX5_isToldSo 90 = .ok (.goto 51, 3) := by decide +kernel
theorem dX5_isToldSo_93 : decode cX5_isToldSo 93 = .ok (.aload_n 0, 1) := by decide +kernel
theorem dX5_isToldSo_94 : decode cX5_isToldSo 94 = .ok (.getfield 9, 3) := by decide +kernel
theorem dX5_isToldSo_97 : decode cX5_isToldSo 97 = .ok (.iconst 4, 1) := by decide +kernel
theorem dX5_isToldSo_98 : decode cX5_isToldSo 98 = .ok (.iload_n 2, 1) := by decide +kernel
theorem dX5_isToldSo_99 : decode cX5_isToldSo 99 = .ok (.iastore, 1) := by decide +kernel
theorem dX5_isToldSo_100 : decode cX5_isToldSo 100 = .ok (.goto 41, 3) := by decide +kernel
theorem dX5_isToldSo_103 : decode cX5_isToldSo 103 = .ok (.aload_n 0, 1) := by decide +kernel
theorem dX5_isToldSo_104 : decode cX5_isToldSo 104 = .ok (.getfield 9, 3) := by decide +kernel
theorem dX5_isToldSo_107 : decode cX5_isToldSo 107 = .ok (.iconst 5, 1) := by decide +kernel
theorem dX5_isToldSo_108 : decode cX5_isToldSo 108 = .ok (.iload_n 2, 1) := by decide +kernel
theorem dX5_isToldSo_109 : decode cX5_isToldSo 109 = .ok (.iastore, 1) := by decide +kernel
theorem dX5_isToldSo_110 : decode cX5_isToldSo 110 = .ok (.goto 31, 3) := by decide +kernel
theorem dX5_isToldSo_113 : decode cX5_isToldSo 113 = .ok (.aload_n 0, 1) := by decide +kernel
theorem dX5_isToldSo_114 : decode cX5_isToldSo 114 = .ok (.aload_n 0, 1) := by decide +kernel
theorem dX5_isToldSo_115 : decode cX5_isToldSo 115 = .ok (.getfield 45, 3) := by decide +kernel
theorem dX5_isToldSo_118 : decode cX5_isToldSo 118 = .ok (.iload_n 1, 1) := by decide +kernel
theorem dX5_isToldSo_119 : decode cX5_isToldSo 119 = .ok (.iaload, 1) := by decide +kernel
theorem dX5_isToldSo_120 : decode cX5_isToldSo 120 = .ok (.iload_n 3, 1) := by decide +kernel
theorem dX5_isToldSo_121 : decode cX5_isToldSo 121 = .ok (.invokevirtual 116, 3) := by decide +kernel
theorem dX5_isToldSo_124 : decode cX5_isToldSo 124 = .ok (.istore 4, 2) := by decide +kernel
theorem dX5_isToldSo_126 : decode cX5_isToldSo 126 = .ok (.iload_n 2, 1) := by decide +kernel
theorem dX5_isToldSo_127 : decode cX5_isToldSo 127 = .ok (.ifCond .lt 14, 3) := by decide +kernel
theorem dX5_isToldSo_130 : decode cX5_isToldSo 130 = .ok (.aload_n 0, 1) := by decide +kernel
theorem dX5_isToldSo_131 : decode cX5_isToldSo 131 = .ok (.getfield 9, 3) := by decide +kernel
theorem dX5_isToldSo_134 : decode cX5_isToldSo 134 = .ok (.bipush 17, 2) := by decide +kernel
theorem dX5_isToldSo_136 : decode cX5_isToldSo 136 = .ok (.iload_n 2, 1) := by decide +kernel
theorem dX5_isToldSo_137 : decode cX5_isToldSo 137 = .ok (.iadd, 1) := by decide +kernel
theorem dX5_isToldSo_138 : decode cX5_isToldSo 138 = .ok (.iload 4, 2) := by decide +kernel
theorem dX5_isToldSo_140 : decode cX5_isToldSo 140 = .ok (.iastore, 1) := by decide +kernel
theorem dX5_isToldSo_141 : decode cX5_isToldSo 141 = .ok (.return_, 1) := by decide +kernel
theorem dX5_isUnder_0 : decode cX5_isUnder 0 = .ok (.iload_n 0, 1) := by decide +kernel
theorem dX5_isUnder_1 : decode cX5_isUnder 1 = .ok (.istore_n 2, 1) := by decide +kernel
theorem dX5_isUnder_2 : decode cX5_isUnder 2 = .ok (.iload_n 2, 1) := by decide +kernel
theorem dX5_isUnder_3 : decode cX5_isUnder 3 = .ok (.ifCond .lt 16, 3) := by decide +kernel
theorem dX5_isUnder_6 : decode cX5_isUnder 6 = .ok (.iload_n 2, 1) := by decide +kernel
theorem dX5_isUnder_7 : decode cX5_isUnder 7 = .ok (.iload_n 1, 1) := by decide +kernel
theorem dX5_isUnder_8 : decode cX5_isUnder 8 = .ok (.if_icmp .eq 11, 3) := by decide +kernel
theorem dX5_isUnder_11 : decode cX5_isUnder 11 = .ok (.iload_n 2, 1) := by decide +kernel
theorem dX5_isUnder_12 : decode cX5_isUnder 12 = .ok (.invokestatic 316, 3) := by decide +kernel
theorem dX5_isUnder_15 : decode cX5_isUnder 15 = .ok (.istore_n 2, 1) := by decide +kernel
theorem dX5_isUnder_16 : decode cX5_isUnder 16 = .ok (.goto (-14), 3) := by decide +kernel
theorem dX5_isUnder_19 : decode cX5_isUnder 19 = .ok (.iload_n 2, 1) := by decide +kernel
theorem dX5_isUnder_20 : decode cX5_isUnder 20 = .ok (.ifCond .lt 7, 3) := by decide +kernel
theorem dX5_isUnder_23 : decode cX5_isUnder 23 = .ok (.iconst 1, 1) := by decide +kernel
theorem dX5_isUnder_24 : decode cX5_isUnder 24 = .ok (.goto 4, 3) := by decide +kernel
theorem dX5_isUnder_27 : decode cX5_isUnder 27 = .ok (.iconst 0, 1) := by decide +kernel
theorem dX5_isUnder_28 : decode cX5_isUnder 28 = .ok (.ireturn, 1) := by decide +kernel
theorem dX5_isWonIn_0 : decode cX5_isWonIn 0 = .ok (.aload_n 0, 1) := by decide +kernel
theorem dX5_isWonIn_1 : decode cX5_isWonIn 1 = .ok (.getfield 9, 3) := by decide +kernel
theorem dX5_isWonIn_4 : decode cX5_isWonIn 4 = .ok (.bipush 17, 2) := by decide +kernel
theorem dX5_isWonIn_6 : decode cX5_isWonIn 6 = .ok (.iload_n 1, 1) := by decide +kernel
theorem dX5_isWonIn_7 : decode cX5_isWonIn 7 = .ok (.iadd, 1) := by decide +kernel
theorem dX5_isWonIn_8 : decode cX5_isWonIn 8 = .ok (.iaload, 1) := by decide +kernel
theorem dX5_isWonIn_9 : decode cX5_isWonIn 9 = .ok (.ifCond .lt 28, 3) := by decide +kernel
theorem dX5_isWonIn_12 : decode cX5_isWonIn 12 = .ok (.aload_n 0, 1) := by decide +kernel
theorem dX5_isWonIn_13 : decode cX5_isWonIn 13 = .ok (.aload_n 0, 1) := by decide +kernel
theorem dX5_isWonIn_14 : decode cX5_isWonIn 14 = .ok (.getfield 9, 3) := by decide +kernel
theorem dX5_isWonIn_17 : decode cX5_isWonIn 17 = .ok (.bipush 17, 2) := by decide +kernel
theorem dX5_isWonIn_19 : decode cX5_isWonIn 19 = .ok (.iload_n 1, 1) := by decide +kernel
theorem dX5_isWonIn_20 : decode cX5_isWonIn 20 = .ok (.iadd, 1) := by decide +kernel
theorem dX5_isWonIn_21 : decode cX5_isWonIn 21 = .ok (.iaload, 1) := by decide +kernel
theorem dX5_isWonIn_22 : decode cX5_isWonIn 22 = .ok (.invokevirtual 127, 3) := by decide +kernel
theorem dX5_isWonIn_25 : decode cX5_isWonIn 25 = .ok (.aload_n 0, 1) := by decide +kernel
theorem dX5_isWonIn_26 : decode cX5_isWonIn 26 = .ok (.iload_n 1, 1) := by decide +kernel
theorem dX5_isWonIn_27 : decode cX5_isWonIn 27 = .ok (.invokevirtual 94, 3) := by decide +kernel
theorem dX5_isWonIn_30 : decode cX5_isWonIn 30 = .ok (.if_icmp .le 7, 3) := by decide +kernel
theorem dX5_isWonIn_33 : decode cX5_isWonIn 33 = .ok (.iconst 1, 1) := by decide +kernel
theorem dX5_isWonIn_34 : decode cX5_isWonIn 34 = .ok (.goto 4, 3) := by decide +kernel
theorem dX5_isWonIn_37 : decode cX5_isWonIn 37 = .ok (.iconst 0, 1) := by decide +kernel
theorem dX5_isWonIn_38 : decode cX5_isWonIn 38 = .ok (.ireturn, 1) := by decide +kernel
theorem dX5_isWord_0 : decode cX5_isWord 0 = .ok (.aload_n 0, 1) := by decide +kernel
theorem dX5_isWord_1 : decode cX5_isWord 1 = .ok (.getfield 235, 3) := by decide +kernel
theorem dX5_isWord_4 : decode cX5_isWord 4 = .ok (.iconst 1, 1) := by decide +kernel
theorem dX5_isWord_5 : decode cX5_isWord 5 = .ok (.if_icmp .ne 23, 3) := by decide +kernel
theorem dX5_isWord_8 : decode cX5_isWord 8 = .ok (.aload_n 0, 1) := by decide +kernel
theorem dX5_isWord_9 : decode cX5_isWord 9 = .ok (.getfield 223, 3) := by decide +kernel
theorem dX5_isWord_12 : decode cX5_isWord 12 = .ok (.aload_n 0, 1) := by decide +kernel
theorem dX5_isWord_13 : decode cX5_isWord 13 = .ok (.getfield 226, 3) := by decide +kernel
theorem dX5_isWord_16 : decode cX5_isWord 16 = .ok (.isub, 1) := by decide +kernel
theorem dX5_isWord_17 : decode cX5_isWord 17 = .ok (.aload_n 1, 1) := by decide +kernel
theorem dX5_isWord_18 : decode cX5_isWord 18 = .ok (.invokevirtual 238, 3) := by decide +kernel
theorem dX5_isWord_21 : decode cX5_isWord 21 = .ok (.if_icmp .ne 7, 3) := by decide +kernel
theorem dX5_isWord_24 : decode cX5_isWord 24 = .ok (.iconst 1, 1) := by decide +kernel
theorem dX5_isWord_25 : decode cX5_isWord 25 = .ok (.goto 4, 3) := by decide +kernel
theorem dX5_isWord_28 : decode cX5_isWord 28 = .ok (.iconst 0, 1) := by decide +kernel
theorem dX5_isWord_29 : decode cX5_isWord 29 = .ok (.istore_n 2, 1) := by decide +kernel
theorem dX5_isWord_30 : decode cX5_isWord 30 = .ok (.iconst 0, 1) := by decide +kernel
theorem dX5_isWord_31 : decode cX5_isWord 31 = .ok (.istore_n 3, 1) := by decide +kernel
theorem dX5_isWord_32 : decode cX5_isWord 32 = .ok (.iload_n 3, 1) := by decide +kernel
theorem dX5_isWord_33 : decode cX5_isWord 33 = .ok (.aload_n 1, 1) := by decide +kernel
theorem dX5_isWord_34 : decode cX5_isWord 34 = .ok (.invokevirtual 238, 3) := by decide +kernel
theorem dX5_isWord_37 : decode cX5_isWord 37 = .ok (.if_icmp .ge 38, 3) := by decide +kernel
theorem dX5_isWord_40 : decode cX5_isWord 40 = .ok (.iload_n 2, 1) := by decide +kernel
theorem dX5_isWord_41 : decode cX5_isWord 41 = .ok (.ifCond .eq 34, 3) := by decide +kernel
theorem dX5_isWord_44 : decode cX5_isWord 44 = .ok (.aload_n 0, 1) := by decide +kernel
theorem dX5_isWord_45 : decode cX5_isWord 45 = .ok (.getfield 22, 3) := by decide +kernel
theorem dX5_isWord_48 : decode cX5_isWord 48 = .ok (.aload_n 0, 1) := by decide +kernel
theorem dX5_isWord_49 : decode cX5_isWord 49 = .ok (.getfield 226, 3) := by decide +kernel
theorem dX5_isWord_52 : decode cX5_isWord 52 = .ok (.iload_n 3, 1) := by decide +kernel
theorem dX5_isWord_53 : decode cX5_isWord 53 = .ok (.iadd, 1) := by decide +kernel
theorem dX5_isWord_54 : decode cX5_isWord 54 = .ok (.iaload, 1) := by decide +kernel
theorem dX5_isWord_55 : decode cX5_isWord 55 = .ok (.aload_n 1, 1) := by decide +kernel
theorem dX5_isWord_56 : decode cX5_isWord 56 = .ok (.iload_n 3, 1) := by decide +kernel
theorem dX5_isWord_57 : decode cX5_isWord 57 = .ok (.invokevirtual 241, 3) := by decide +kernel
theorem dX5_isWord_60 : decode cX5_isWord 60 = .ok (.if_icmp .ne 7, 3) := by decide +kernel
theorem dX5_isWord_63 : decode cX5_isWord 63 = .ok (.iconst 1, 1) := by decide +kernel
theorem dX5_isWord_64 : decode cX5_isWord 64 = .ok (.goto 4, 3) := by decide +kernel
theorem dX5_isWord_67 : decode cX5_isWord 67 = .ok (.iconst 0, 1) := by decide +kernel
theorem dX5_isWord_68 : decode cX5_isWord 68 = .ok (.istore_n 2, 1) := by decide +kernel
theorem dX5_isWord_69 : decode cX5_isWord 69 = .ok (.iinc 3 1, 3) := by decide +kernel
theorem dX5_isWord_72 : decode cX5_isWord 72 = .ok (.goto (-40), 3) := by decide +kernel
theorem dX5_isWord_75 : decode cX5_isWord 75 = .ok (.iload_n 2, 1) := by decide +kernel
theorem dX5_isWord_76 : decode cX5_isWord 76 = .ok (.ireturn, 1) := by decide +kernel
theorem dX5_judge_0 : decode cX5_judge 0 = .ok (.aload_n 0, 1) := by decide +kernel
theorem dX5_judge_1 : decode cX5_judge 1 = .ok (.iload_n 1, 1) := by decide +kernel
theorem dX5_judge_2 : decode cX5_judge 2 = .ok (.iconst 1, 1) := by decide +kernel
theorem dX5_judge_3 : decode cX5_judge 3 = .ok (.invokevirtual 199, 3) := by decide +kernel
theorem dX5_judge_6 : decode cX5_judge 6 = .ok (.ifCond .eq 14, 3) := by decide +kernel
theorem dX5_judge_9 : decode cX5_judge 9 = .ok (.aload_n 0, 1) := by decide +kernel
theorem dX5_judge_10 : decode cX5_judge 10 = .ok (.aload_n 0, 1) := by decide +kernel
theorem dX5_judge_11 : decode cX5_judge 11 = .ok (.iload_n 1, 1) := by decide +kernel
theorem dX5_judge_12 : decode cX5_judge 12 = .ok (.iconst 1, 1) := by decide +kernel
theorem dX5_judge_13 : decode cX5_judge 13 = .ok (.invokevirtual 199, 3) := by decide +kernel
theorem dX5_judge_16 : decode cX5_judge 16 = .ok (.invokevirtual 72, 3) := by decide +kernel
theorem dX5_judge_19 : decode cX5_judge 19 = .ok (.ireturn, 1) := by decide +kernel
theorem dX5_judge_20 : decode cX5_judge 20 = .ok (.iconst 0, 1) := by decide +kernel
theorem dX5_judge_21 : decode cX5_judge 21 = .ok (.istore_n 2, 1) := by decide +kernel
theorem dX5_judge_22 : decode cX5_judge 22 = .ok (.iload_n 2, 1) := by decide +kernel
theorem dX5_judge_23 : decode cX5_judge 23 = .ok (.aload_n 0, 1) := by decide +kernel
theorem dX5_judge_24 : decode cX5_judge 24 = .ok (.getfield 57, 3) := by decide +kernel
theorem dX5_judge_27 : decode cX5_judge 27 = .ok (.iload_n 1, 1) := by decide +kernel
theorem dX5_judge_28 : decode cX5_judge 28 = .ok (.iaload, 1) := by decide +kernel
theorem dX5_judge_29 : decode cX5_judge 29 = .ok (.if_icmp .ge 37, 3) := by decide +kernel
theorem dX5_judge_32 : decode cX5_judge 32 = .ok (.aload_n 0, 1) := by decide +kernel
theorem dX5_judge_33 : decode cX5_judge 33 = .ok (.iload_n 2, 1) := by decide +kernel
theorem dX5_judge_34 : decode cX5_judge 34 = .ok (.invokevirtual 87, 3) := by decide +kernel
theorem dX5_judge_37 : decode cX5_judge 37 = .ok (.ifCond .eq 29, 3) := by decide +kernel
theorem dX5_judge_40 : decode cX5_judge 40 = .ok (.aload_n 0, 1) := by decide +kernel
theorem dX5_judge_41 : decode cX5_judge 41 = .ok (.getfield 60, 3) := by decide +kernel
theorem dX5_judge_44 : decode cX5_judge 44 = .ok (.bipush 40, 2) := by decide +kernel
theorem dX5_judge_46 : decode cX5_judge 46 = .ok (.iload_n 1, 1) := by decide +kernel
theorem dX5_judge_47 : decode cX5_judge 47 = .ok (.imul, 1) := by decide +kernel
theorem dX5_judge_48 : decode cX5_judge 48 = .ok (.iload_n 2, 1) := by decide +kernel
theorem dX5_judge_49 : decode cX5_judge 49 = .ok (.iadd, 1) := by decide +kernel
theorem dX5_judge_50 : decode cX5_judge 50 = .ok (.iaload, 1) := by decide +kernel
theorem dX5_judge_51 : decode cX5_judge 51 = .ok (.aload_n 0, 1) := by decide +kernel
theorem dX5_judge_52 : decode cX5_judge 52 = .ok (.iload_n 2, 1) := by decide +kernel
theorem dX5_judge_53 : decode cX5_judge 53 = .ok (.iconst 3, 1) := by decide +kernel
theorem dX5_judge_54 : decode cX5_judge 54 = .ok (.invokevirtual 119, 3) := by decide +kernel
theorem dX5_judge_57 : decode cX5_judge 57 = .ok (.if_icmp .ne 9, 3) := by decide +kernel
theorem dX5_judge_60 : decode cX5_judge 60 = .ok (.iinc 2 1, 3) := by decide +kernel
theorem dX5_judge_63 : decode cX5_judge 63 = .ok (.goto (-41), 3) := by decide +kernel
theorem dX5_judge_66 : decode cX5_judge 66 = .ok (.iload_n 2, 1) := by decide +kernel
theorem dX5_judge_67 : decode cX5_judge 67 = .ok (.aload_n 0, 1) := by decide +kernel
theorem dX5_judge_68 : decode cX5_judge 68 = .ok (.getfield 57, 3) := by decide +kernel
theorem dX5_judge_71 : decode cX5_judge 71 = .ok (.iload_n 1, 1) := by decide +kernel
theorem dX5_judge_72 : decode cX5_judge 72 = .ok (.iaload, 1) := by decide +kernel
theorem dX5_judge_73 : decode cX5_judge 73 = .ok (.if_icmp .ne 7, 3) := by decide +kernel
theorem dX5_judge_76 : decode cX5_judge 76 = .ok (.iconst 0, 1) := by decide +kernel
theorem dX5_judge_77 : decode cX5_judge 77 = .ok (.goto 6, 3) := by decide +kernel
theorem dX5_judge_80 : decode cX5_judge 80 = .ok (.iconst 1, 1) := by decide +kernel
theorem dX5_judge_81 : decode cX5_judge 81 = .ok (.iload_n 2, 1) := by decide +kernel
theorem dX5_judge_82 : decode cX5_judge 82 = .ok (.iadd, 1) := by decide +kernel
theorem dX5_judge_83 : decode cX5_judge 83 = .ok (.ireturn, 1) := by decide +kernel
theorem dX5_jumper_0 : decode cX5_jumper 0 = .ok (.iload_n 1, 1) := by decide +kernel
theorem dX5_jumper_1 : decode cX5_jumper 1 = .ok (.invokestatic 112, 3) := by decide +kernel
theorem dX5_jumper_4 : decode cX5_jumper 4 = .ok (.ifCond .eq 13, 3) := by decide +kernel
theorem dX5_jumper_7 : decode cX5_jumper 7 = .ok (.iload_n 2, 1) := by decide +kernel
theorem dX5_jumper_8 : decode cX5_jumper 8 = .ok (.iconst 0, 1) := by decide +kernel
theorem dX5_jumper_9 : decode cX5_jumper 9 = .ok (.bipush 99, 2) := by decide +kernel
theorem dX5_jumper_11 : decode cX5_jumper 11 = .ok (.invokestatic 76, 3) := by decide +kernel
theorem dX5_jumper_14 : decode cX5_jumper 14 = .ok (.ifCond .ne 10, 3) := by decide +kernel
theorem dX5_jumper_17 : decode cX5_jumper 17 = .ok (.aload_n 0, 1) := by decide +kernel
theorem dX5_jumper_18 : decode cX5_jumper 18 = .ok (.ldc 66, 2) := by decide +kernel
theorem dX5_jumper_20 : decode cX5_jumper 20 = .ok (.invokevirtual 72, 3) := by decide +kernel
theorem dX5_jumper_23 : decode cX5_jumper 23 = .ok (.ireturn, 1) := by decide +kernel
theorem dX5_jumper_24 : decode cX5_jumper 24 = .ok (.aload_n 0, 1) := by decide +kernel
theorem dX5_jumper_25 : decode cX5_jumper 25 = .ok (.getfield 9, 3) := by decide +kernel
theorem dX5_jumper_28 : decode cX5_jumper 28 = .ok (.iconst 1, 1) := by decide +kernel
theorem dX5_jumper_29 : decode cX5_jumper 29 = .ok (.iaload, 1) := by decide +kernel
theorem dX5_jumper_30 : decode cX5_jumper 30 = .ok (.bipush 8, 2) := by decide +kernel
theorem dX5_jumper_32 : decode cX5_jumper 32 = .ok (.if_icmp .ne 12, 3) := by decide +kernel
theorem dX5_jumper_35 : decode cX5_jumper 35 = .ok (.aload_n 0, 1) := by decide +kernel
theorem dX5_jumper_36 : decode cX5_jumper 36 = .ok (.ldc 115, 2) := by decide +kernel
theorem dX5_jumper_38 : decode cX5_jumper 38 = .ok (.invokevirtual 72, 3) := by decide +kernel
theorem dX5_jumper_41 : decode cX5_jumper 41 = .ok (.goto 9, 3) := by decide +kernel
theorem dX5_jumper_44 : decode cX5_jumper 44 = .ok (.aload_n 0, 1) := by decide +kernel
theorem dX5_jumper_45 : decode cX5_jumper 45 = .ok (.iload_n 1, 1) := by decide +kernel
theorem dX5_jumper_46 : decode cX5_jumper 46 = .ok (.iload_n 2, 1) := by decide +kernel
theorem dX5_jumper_47 : decode cX5_jumper 47 = .ok (.invokevirtual 116, 3) := by decide +kernel
theorem dX5_jumper_50 : decode cX5_jumper 50 = .ok (.ireturn, 1) := by decide +kernel
theorem dX5_jumperAt_0 : decode cX5_jumperAt 0 = .ok (.bipush 44, 2) := by decide +kernel
theorem dX5_jumperAt_2 : decode cX5_jumperAt 2 = .ok (.iconst 5, 1) := by decide +kernel
theorem dX5_jumperAt_3 : decode cX5_jumperAt 3 = .ok (.iload_n 0, 1) := by decide +kernel
theorem dX5_jumperAt_4 : decode cX5_jumperAt 4 = .ok (.imul, 1) := by decide +kernel
theorem dX5_jumperAt_5 : decode cX5_jumperAt 5 = .ok (.iadd, 1) := by decide +kernel
theorem dX5_jumperAt_6 : decode cX5_jumperAt 6 = .ok (.iload_n 1, 1) := by decide +kernel
theorem dX5_jumperAt_7 : decode cX5_jumperAt 7 = .ok (.iadd, 1) := by decide +kernel
theorem dX5_jumperAt_8 : decode cX5_jumperAt 8 = .ok (.ireturn, 1) := by decide +kernel
theorem dX5_jumperIs_0 : decode cX5_jumperIs 0 = .ok (.aload_n 0, 1) := by decide +kernel
theorem dX5_jumperIs_1 : decode cX5_jumperIs 1 = .ok (.getfield 9, 3) := by decide +kernel
theorem dX5_jumperIs_4 : decode cX5_jumperIs 4 = .ok (.iload_n 1, 1) := by decide +kernel
theorem dX5_jumperIs_5 : decode cX5_jumperIs 5 = .ok (.iload_n 2, 1) := by decide +kernel
theorem dX5_jumperIs_6 : decode cX5_jumperIs 6 = .ok (.invokestatic 109, 3) := by decide +kernel
theorem dX5_jumperIs_9 : decode cX5_jumperIs 9 = .ok (.iaload, 1) := by decide +kernel
theorem dX5_jumperIs_10 : decode cX5_jumperIs 10 = .ok (.ireturn, 1) := by decide +kernel
theorem dX5_kindFor_0 : decode cX5_kindFor 0 = .ok (.aload_n 0, 1) := by decide +kernel
theorem dX5_kindFor_1 : decode cX5_kindFor 1 = .ok (.iload_n 1, 1) := by decide +kernel
theorem dX5_kindFor_2 : decode cX5_kindFor 2 = .ok (.invokevirtual 87, 3) := by decide +kernel
theorem dX5_kindFor_5 : decode cX5_kindFor 5 = .ok (.ifCond .eq 30, 3) := by decide +kernel
theorem dX5_kindFor_8 : decode cX5_kindFor 8 = .ok (.iload_n 2, 1) := by decide +kernel
theorem dX5_kindFor_9 : decode cX5_kindFor 9 = .ok (.invokestatic 184, 3) := by decide +kernel
theorem dX5_kindFor_12 : decode cX5_kindFor 12 = .ok (.ifCond .eq 23, 3) := by decide +kernel
theorem dX5_kindFor_15 : decode cX5_kindFor 15 = .ok (.aload_n 0, 1) := by decide +kernel
theorem dX5_kindFor_16 : decode cX5_kindFor 16 = .ok (.iload_n 1, 1) := by decide +kernel
theorem dX5_kindFor_17 : decode cX5_kindFor 17 = .ok (.iconst 0, 1) := by decide +kernel
theorem dX5_kindFor_18 : decode cX5_kindFor 18 = .ok (.invokestatic 109, 3) := by decide +kernel
theorem dX5_kindFor_21 : decode cX5_kindFor 21 = .ok (.bipush 6, 2) := by decide +kernel
theorem dX5_kindFor_23 : decode cX5_kindFor 23 = .ok (.iload_n 1, 1) := by decide +kernel
theorem dX5_kindFor_24 : decode cX5_kindFor 24 = .ok (.iconst 3, 1) := by decide +kernel
theorem dX5_kindFor_25 : decode cX5_kindFor 25 = .ok (.invokestatic 109, 3) := by decide +kernel
theorem dX5_kindFor_28 : decode cX5_kindFor 28 = .ok (.iload_n 2, 1) := by decide +kernel
theorem dX5_kindFor_29 : decode cX5_kindFor 29 = .ok (.invokevirtual 187, 3) := by decide +kernel
theorem dX5_kindFor_32 : decode cX5_kindFor 32 = .ok (.goto 9, 3) := by decide +kernel
theorem dX5_kindFor_35 : decode cX5_kindFor 35 = .ok (.aload_n 0, 1) := by decide +kernel
theorem dX5_kindFor_36 : decode cX5_kindFor 36 = .ok (.ldc 66, 2) := by decide +kernel
theorem dX5_kindFor_38 : decode cX5_kindFor 38 = .ok (.invokevirtual 72, 3) := by decide +kernel
theorem dX5_kindFor_41 : decode cX5_kindFor 41 = .ok (.ireturn, 1) := by decide +kernel
theorem dX5_kinds_0 : decode cX5_kinds 0 = .ok (.aload_n 0, 1) := by decide +kernel
theorem dX5_kinds_1 : decode cX5_kinds 1 = .ok (.iload_n 1, 1) := by decide +kernel
theorem dX5_kinds_2 : decode cX5_kinds 2 = .ok (.aload_n 0, 1) := by decide +kernel
theorem dX5_kinds_3 : decode cX5_kinds 3 = .ok (.iload_n 2, 1) := by decide +kernel
theorem dX5_kinds_4 : decode cX5_kinds 4 = .ok (.invokevirtual 87, 3) := by decide +kernel
theorem dX5_kinds_7 : decode cX5_kinds 7 = .ok (.invokevirtual 199, 3) := by decide +kernel
theorem dX5_kinds_10 : decode cX5_kinds 10 = .ok (.istore_n 3, 1) := by decide +kernel
theorem dX5_kinds_11 : decode cX5_kinds 11 = .ok (.iload_n 3, 1) := by decide +kernel
theorem dX5_kinds_12 : decode cX5_kinds 12 = .ok (.ifCond .eq 9, 3) := by decide +kernel
theorem dX5_kinds_15 : decode cX5_kinds 15 = .ok (.aload_n 0, 1) := by decide +kernel
theorem dX5_kinds_16 : decode cX5_kinds 16 = .ok (.iload_n 3, 1) := by decide +kernel
theorem dX5_kinds_17 : decode cX5_kinds 17 = .ok (.invokevirtual 72, 3) := by decide +kernel
theorem dX5_kinds_20 : decode cX5_kinds 20 = .ok (.ireturn, 1) := by decide +kernel
theorem dX5_kinds_21 : decode cX5_kinds 21 = .ok (.iload_n 2, 1) := by decide +kernel
theorem dX5_kinds_22 : decode cX5_kinds 22 = .ok (.iconst 0, 1) := by decide +kernel
theorem dX5_kinds_23 : decode cX5_kinds 23 = .ok (.invokestatic 109, 3) := by decide +kernel
theorem dX5_kinds_26 : decode cX5_kinds 26 = .ok (.istore 4, 2) := by decide +kernel
theorem dX5_kinds_28 : decode cX5_kinds 28 = .ok (.aload_n 0, 1) := by decide +kernel
theorem dX5_kinds_29 : decode cX5_kinds 29 = .ok (.getfield 9, 3) := by decide +kernel
theorem dX5_kinds_32 : decode cX5_kinds 32 = .ok (.iload 4, 2) := by decide +kernel
theorem dX5_kinds_34 : decode cX5_kinds 34 = .ok (.iaload, 1) := by decide +kernel
theorem dX5_kinds_35 : decode cX5_kinds 35 = .ok (.istore 5, 2) := by decide +kernel
theorem dX5_kinds_37 : decode cX5_kinds 37 = .ok (.iconst 0, 1) := by decide +kernel
theorem dX5_kinds_38 : decode cX5_kinds 38 = .ok (.istore 6, 2) := by decide +kernel
theorem dX5_kinds_40 : decode cX5_kinds 40 = .ok (.iconst 0, 1) := by decide +kernel
theorem dX5_kinds_41 : decode cX5_kinds 41 = .ok (.istore 7, 2) := by decide +kernel
theorem dX5_kinds_43 : decode cX5_kinds 43 = .ok (.iload 7, 2) := by decide +kernel
theorem dX5_kinds_45 : decode cX5_kinds 45 = .ok (.bipush 6, 2) := by decide +kernel
theorem dX5_kinds_47 : decode cX5_kinds 47 = .ok (.if_icmp .gt 39, 3) := by decide +kernel
theorem dX5_kinds_50 : decode cX5_kinds 50 = .ok (.aload_n 0, 1) := by decide +kernel
theorem dX5_kinds_51 : decode cX5_kinds 51 = .ok (.getfield 9, 3) := by decide +kernel
theorem dX5_kinds_54 : decode cX5_kinds 54 = .ok (.iload 4, 2) := by decide +kernel
theorem dX5_kinds_56 : decode cX5_kinds 56 = .ok (.iload 7, 2) := by decide +kernel
theorem dX5_kinds_58 : decode cX5_kinds 58 = .ok (.iastore, 1) := by decide +kernel
theorem dX5_kinds_59 : decode cX5_kinds 59 = .ok (.iload 6, 2) := by decide +kernel
theorem dX5_kinds_61 : decode cX5_kinds 61 = .ok (.aload_n 0, 1) := by decide +kernel
theorem dX5_kinds_62 : decode cX5_kinds 62 = .ok (.iload_n 1, 1) := by decide +kernel
theorem dX5_kinds_63 : decode cX5_kinds 63 = .ok (.invokevirtual 203, 3) := by decide +kernel
theorem dX5_kinds_66 : decode cX5_kinds 66 = .ok (.ifCond .eq 10, 3) := by decide +kernel
theorem dX5_kinds_69 : decode cX5_kinds 69 = .ok (.iconst 1, 1) := by decide +kernel
theorem dX5_kinds_70 : decode cX5_kinds 70 = .ok (.iload 7, 2) := by decide +kernel
theorem dX5_kinds_72 : decode cX5_kinds 72 = .ok (.ishl, 1) := by decide +kernel
theorem dX5_kinds_73 : decode cX5_kinds 73 = .ok (.goto 4, 3) := by decide +kernel
theorem dX5_kinds_76 : decode cX5_kinds 76 = .ok (.iconst 0, 1) := by decide +kernel
theorem dX5_kinds_77 : decode cX5_kinds 77 = .ok (.ior, 1) := by decide +kernel
theorem dX5_kinds_78 : decode cX5_kinds 78 = .ok (.istore 6, 2) := by decide +kernel
theorem dX5_kinds_80 : decode cX5_kinds 80 = .ok (.iinc 7 1, 3) := by decide +kernel
theorem dX5_kinds_83 : decode cX5_kinds 83 = .ok (.goto (-40), 3) := by decide +kernel
theorem dX5_kinds_86 : decode cX5_kinds 86 = .ok (.aload_n 0, 1) := by decide +kernel
theorem dX5_kinds_87 : decode cX5_kinds 87 = .ok (.getfield 9, 3) := by decide +kernel
theorem dX5_kinds_90 : decode cX5_kinds 90 = .ok (.iload 4, 2) := by decide +kernel
theorem dX5_kinds_92 : decode cX5_kinds 92 = .ok (.iload 5, 2) := by decide +kernel
theorem dX5_kinds_94 : decode cX5_kinds 94 = .ok (.iastore, 1) := by decide +kernel
theorem dX5_kinds_95 : decode cX5_kinds 95 = .ok (.iload 6, 2) := by decide +kernel
theorem dX5_kinds_97 : decode cX5_kinds 97 = .ok (.ireturn, 1) := by decide +kernel
theorem dX5_known_0 : decode cX5_known 0 = .ok (.aload_n 0, 1) := by decide +kernel
theorem dX5_known_1 : decode cX5_known 1 = .ok (.getfield 9, 3) := by decide +kernel
theorem dX5_known_4 : decode cX5_known 4 = .ok (.aload_n 0, 1) := by decide +kernel
theorem dX5_known_5 : decode cX5_known 5 = .ok (.getfield 16, 3) := by decide +kernel
theorem dX5_known_8 : decode cX5_known 8 = .ok (.invokestatic 67, 3) := by decide +kernel
theorem dX5_known_11 : decode cX5_known 11 = .ok (.iconst 0, 1) := by decide +kernel
theorem dX5_known_12 : decode cX5_known 12 = .ok (.istore_n 1, 1) := by decide +kernel
theorem dX5_known_13 : decode cX5_known 13 = .ok (.iload_n 1, 1) := by decide +kernel
theorem dX5_known_14 : decode cX5_known 14 = .ok (.bipush 100, 2) := by decide +kernel
theorem dX5_known_16 : decode cX5_known 16 = .ok (.if_icmp .ge 20, 3) := by decide +kernel
theorem dX5_known_19 : decode cX5_known 19 = .ok (.aload_n 0, 1) := by decide +kernel
theorem dX5_known_20 : decode cX5_known 20 = .ok (.invokevirtual 169, 3) := by decide +kernel
theorem dX5_known_23 : decode cX5_known 23 = .ok (.ifCond .eq 13, 3) := by decide +kernel
theorem dX5_known_26 : decode cX5_known 26 = .ok (.aload_n 0, 1) := by decide +kernel
theorem dX5_known_27 : decode cX5_known 27 = .ok (.invokevirtual 155, 3) := by decide +kernel
theorem dX5_known_30 : decode cX5_known 30 = .ok (.iinc 1 1, 3) := by decide +kernel
theorem dX5_known_33 : decode cX5_known 33 = .ok (.goto (-20), 3) := by decide +kernel
theorem dX5_known_36 : decode cX5_known 36 = .ok (.aload_n 0, 1) := by decide +kernel
theorem dX5_known_37 : decode cX5_known 37 = .ok (.aload_n 0, 1) := by decide +kernel
theorem dX5_known_38 : decode cX5_known 38 = .ok (.aload_n 0, 1) := by decide +kernel
theorem dX5_known_39 : decode cX5_known 39 = .ok (.invokevirtual 169, 3) := by decide +kernel
theorem dX5_known_42 : decode cX5_known 42 = .ok (.ifCond .eq 7, 3) := by decide +kernel
theorem dX5_known_45 : decode cX5_known 45 = .ok (.iconst (-1), 1) := by decide +kernel
theorem dX5_known_46 : decode cX5_known 46 = .ok (.goto 4, 3) := by decide +kernel
theorem dX5_known_49 : decode cX5_known 49 = .ok (.iload_n 1, 1) := by decide +kernel
theorem dX5_known_50 : decode cX5_known 50 = .ok (.invokevirtual 175, 3) := by decide +kernel
theorem dX5_known_53 : decode cX5_known 53 = .ok (.invokevirtual 181, 3) := by decide +kernel
theorem dX5_known_56 : decode cX5_known 56 = .ok (.ireturn, 1) := by decide +kernel
theorem dX5_lacks_0 : decode cX5_lacks 0 = .ok (.iload_n 1, 1) := by decide +kernel
theorem dX5_lacks_1 : decode cX5_lacks 1 = .ok (.invokestatic 195, 3) := by decide +kernel
theorem dX5_lacks_4 : decode cX5_lacks 4 = .ok (.ifCond .ne 8, 3) := by decide +kernel
theorem dX5_lacks_7 : decode cX5_lacks 7 = .ok (.ldc 66, 2) := by decide +kernel
theorem dX5_lacks_9 : decode cX5_lacks 9 = .ok (.goto 27, 3) := by decide +kernel
theorem dX5_lacks_12 : decode cX5_lacks 12 = .ok (.aload_n 0, 1) := by decide +kernel
theorem dX5_lacks_13 : decode cX5_lacks 13 = .ok (.getfield 54, 3) := by decide +kernel
theorem dX5_lacks_16 : decode cX5_lacks 16 = .ok (.iload_n 1, 1) := by decide +kernel
theorem dX5_lacks_17 : decode cX5_lacks 17 = .ok (.iaload, 1) := by decide +kernel
theorem dX5_lacks_18 : decode cX5_lacks 18 = .ok (.ifCond .ne 8, 3) := by decide +kernel
theorem dX5_lacks_21 : decode cX5_lacks 21 = .ok (.ldc 198, 2) := by decide +kernel
theorem dX5_lacks_23 : decode cX5_lacks 23 = .ok (.goto 13, 3) := by decide +kernel
theorem dX5_lacks_26 : decode cX5_lacks 26 = .ok (.iload_n 2, 1) := by decide +kernel
theorem dX5_lacks_27 : decode cX5_lacks 27 = .ok (.ifCond .eq 7, 3) := by decide +kernel
theorem dX5_lacks_30 : decode cX5_lacks 30 = .ok (.iconst 0, 1) := by decide +kernel
theorem dX5_lacks_31 : decode cX5_lacks 31 = .ok (.goto 5, 3) := by decide +kernel
theorem dX5_lacks_34 : decode cX5_lacks 34 = .ok (.ldc 66, 2) := by decide +kernel
theorem dX5_lacks_36 : decode cX5_lacks 36 = .ok (.ireturn, 1) := by decide +kernel
theorem dX5_listed_0 : decode cX5_listed 0 = .ok (.iload_n 1, 1) := by decide +kernel
theorem dX5_listed_1 : decode cX5_listed 1 = .ok (.iconst 0, 1) := by decide +kernel
theorem dX5_listed_2 : decode cX5_listed 2 = .ok (.iconst 5, 1) := by decide +kernel
theorem dX5_listed_3 : decode cX5_listed 3 = .ok (.invokestatic 76, 3) := by decide +kernel
theorem dX5_listed_6 : decode cX5_listed 6 = .ok (.ifCond .eq 15, 3) := by decide +kernel
theorem dX5_listed_9 : decode cX5_listed 9 = .ok (.aload_n 0, 1) := by decide +kernel
theorem dX5_listed_10 : decode cX5_listed 10 = .ok (.getfield 9, 3) := by decide +kernel
theorem dX5_listed_13 : decode cX5_listed 13 = .ok (.bipush 38, 2) := by decide +kernel
theorem dX5_listed_15 : decode cX5_listed 15 = .ok (.iload_n 1, 1) := by decide +kernel
theorem dX5_listed_16 : decode cX5_listed 16 = .ok (.iadd, 1) := by decide +kernel
theorem dX5_listed_17 : decode cX5_listed 17 = .ok (.iaload, 1) := by decide +kernel
theorem dX5_listed_18 : decode cX5_listed 18 = .ok (.goto 9, 3) := by decide +kernel
theorem dX5_listed_21 : decode cX5_listed 21 = .ok (.aload_n 0, 1) := by decide +kernel
theorem dX5_listed_22 : decode cX5_listed 22 = .ok (.ldc 66, 2) := by decide +kernel
theorem dX5_listed_24 : decode cX5_listed 24 = .ok (.invokevirtual 72, 3) := by decide +kernel
theorem dX5_listed_27 : decode cX5_listed 27 = .ok (.ireturn, 1) := by decide +kernel
theorem dX5_load_0 : decode cX5_load 0 = .ok (.aload_n 0, 1) := by decide +kernel
theorem dX5_load_1 : decode cX5_load 1 = .ok (.iload_n 1, 1) := by decide +kernel
theorem dX5_load_2 : decode cX5_load 2 = .ok (.iconst 1, 1) := by decide +kernel
theorem dX5_load_3 : decode cX5_load 3 = .ok (.invokevirtual 199, 3) := by decide +kernel
theorem dX5_load_6 : decode cX5_load 6 = .ok (.ifCond .eq 14, 3) := by decide +kernel
theorem dX5_load_9 : decode cX5_load 9 = .ok (.aload_n 0, 1) := by decide +kernel
theorem dX5_load_10 : decode cX5_load 10 = .ok (.aload_n 0, 1) := by decide +kernel
theorem dX5_load_11 : decode cX5_load 11 = .ok (.iload_n 1, 1) := by decide +kernel
theorem dX5_load_12 : decode cX5_load 12 = .ok (.iconst 1, 1) := by decide +kernel
theorem dX5_load_13 : decode cX5_load 13 = .ok (.invokevirtual 199, 3) := by decide +kernel
theorem dX5_load_16 : decode cX5_load 16 = .ok (.invokevirtual 72, 3) := by decide +kernel
theorem dX5_load_19 : decode cX5_load 19 = .ok (.ireturn, 1) := by decide +kernel
theorem dX5_load_20 : decode cX5_load 20 = .ok (.iconst 0, 1) := by decide +kernel
theorem dX5_load_21 : decode cX5_load 21 = .ok (.istore_n 2, 1) := by decide +kernel
theorem dX5_load_22 : decode cX5_load 22 = .ok (.iload_n 2, 1) := by decide +kernel
theorem dX5_load_23 : decode cX5_load 23 = .ok (.aload_n 0, 1) := by decide +kernel
theorem dX5_load_24 : decode cX5_load 24 = .ok (.getfield 57, 3) := by decide +kernel
theorem dX5_load_27 : decode cX5_load 27 = .ok (.iload_n 1, 1) := by decide +kernel
theorem dX5_load_28 : decode cX5_load 28 = .ok (.iaload, 1) := by decide +kernel
theorem dX5_load_29 : decode cX5_load 29 = .ok (.if_icmp .ge 52, 3) := by decide +kernel
theorem dX5_load_32 : decode cX5_load 32 = .ok (.iload_n 2, 1) := by decide +kernel
theorem dX5_load_33 : decode cX5_load 33 = .ok (.bipush 6, 2) := by decide +kernel
theorem dX5_load_35 : decode cX5_load 35 = .ok (.if_icmp .ge 46, 3) := by decide +kernel
theorem dX5_load_38 : decode cX5_load 38 = .ok (.aload_n 0, 1) := by decide +kernel
theorem dX5_load_39 : decode cX5_load 39 = .ok (.getfield 60, 3) := by decide +kernel
theorem dX5_load_42 : decode cX5_load 42 = .ok (.bipush 40, 2) := by decide +kernel
theorem dX5_load_44 : decode cX5_load 44 = .ok (.iload_n 1, 1) := by decide +kernel
theorem dX5_load_45 : decode cX5_load 45 = .ok (.imul, 1) := by decide +kernel
theorem dX5_load_46 : decode cX5_load 46 = .ok (.iload_n 2, 1) := by decide +kernel
theorem dX5_load_47 : decode cX5_load 47 = .ok (.iadd, 1) := by decide +kernel
theorem dX5_load_48 : decode cX5_load 48 = .ok (.iaload, 1) := by decide +kernel
theorem dX5_load_49 : decode cX5_load 49 = .ok (.invokestatic 100, 3) := by decide +kernel
theorem dX5_load_52 : decode cX5_load 52 = .ok (.ifCond .eq 29, 3) := by decide +kernel
theorem dX5_load_55 : decode cX5_load 55 = .ok (.aload_n 0, 1) := by decide +kernel
theorem dX5_load_56 : decode cX5_load 56 = .ok (.getfield 9, 3) := by decide +kernel
theorem dX5_load_59 : decode cX5_load 59 = .ok (.bipush 38, 2) := by decide +kernel
theorem dX5_load_61 : decode cX5_load 61 = .ok (.iload_n 2, 1) := by decide +kernel
theorem dX5_load_62 : decode cX5_load 62 = .ok (.iadd, 1) := by decide +kernel
theorem dX5_load_63 : decode cX5_load 63 = .ok (.aload_n 0, 1) := by decide +kernel
theorem dX5_load_64 : decode cX5_load 64 = .ok (.getfield 60, 3) := by decide +kernel
theorem dX5_load_67 : decode cX5_load 67 = .ok (.bipush 40, 2) := by decide +kernel
theorem dX5_load_69 : decode cX5_load 69 = .ok (.iload_n 1, 1) := by decide +kernel
theorem dX5_load_70 : decode cX5_load 70 = .ok (.imul, 1) := by decide +kernel
theorem dX5_load_71 : decode cX5_load 71 = .ok (.iload_n 2, 1) := by decide +kernel
theorem dX5_load_72 : decode cX5_load 72 = .ok (.iadd, 1) := by decide +kernel
theorem dX5_load_73 : decode cX5_load 73 = .ok (.iaload, 1) := by decide +kernel
theorem dX5_load_74 : decode cX5_load 74 = .ok (.iastore, 1) := by decide +kernel
theorem dX5_load_75 : decode cX5_load 75 = .ok (.iinc 2 1, 3) := by decide +kernel
theorem dX5_load_78 : decode cX5_load 78 = .ok (.goto (-56), 3) := by decide +kernel
theorem dX5_load_81 : decode cX5_load 81 = .ok (.iload_n 2, 1) := by decide +kernel
theorem dX5_load_82 : decode cX5_load 82 = .ok (.ireturn, 1) := by decide +kernel
theorem dX5_metres_0 : decode cX5_metres 0 = .ok (.iload_n 1, 1) := by decide +kernel
theorem dX5_metres_1 : decode cX5_metres 1 = .ok (.iconst 0, 1) := by decide +kernel
theorem dX5_metres_2 : decode cX5_metres 2 = .ok (.bipush 100, 2) := by decide +kernel
theorem dX5_metres_4 : decode cX5_metres 4 = .ok (.invokestatic 76, 3) := by decide +kernel
theorem dX5_metres_7 : decode cX5_metres 7 = .ok (.ifCond .eq 12, 3) := by decide +kernel
theorem dX5_metres_10 : decode cX5_metres 10 = .ok (.aload_n 0, 1) := by decide +kernel
theorem dX5_metres_11 : decode cX5_metres 11 = .ok (.iconst 3, 1) := by decide +kernel
theorem dX5_metres_12 : decode cX5_metres 12 = .ok (.iload_n 1, 1) := by decide +kernel
theorem dX5_metres_13 : decode cX5_metres 13 = .ok (.invokevirtual 178, 3) := by decide +kernel
theorem dX5_metres_16 : decode cX5_metres 16 = .ok (.goto 9, 3) := by decide +kernel
theorem dX5_metres_19 : decode cX5_metres 19 = .ok (.aload_n 0, 1) := by decide +kernel
theorem dX5_metres_20 : decode cX5_metres 20 = .ok (.ldc 66, 2) := by decide +kernel
theorem dX5_metres_22 : decode cX5_metres 22 = .ok (.invokevirtual 72, 3) := by decide +kernel
theorem dX5_metres_25 : decode cX5_metres 25 = .ok (.ireturn, 1) := by decide +kernel
theorem dX5_metresStanding_0 : decode cX5_metresStanding 0 = .ok (.aload_n 0, 1) := by decide +kernel
theorem dX5_metresStanding_1 : decode cX5_metresStanding 1 = .ok (.getfield 9, 3) := by decide +kernel
theorem dX5_metresStanding_4 : decode cX5_metresStanding 4 = .ok (.aload_n 0, 1) := by decide +kernel
theorem dX5_metresStanding_5 : decode cX5_metresStanding 5 = .ok (.getfield 16, 3) := by decide +kernel
theorem dX5_metresStanding_8 : decode cX5_metresStanding 8 = .ok (.invokestatic 67, 3) := by decide +kernel
theorem dX5_metresStanding_11 : decode cX5_metresStanding 11 = .ok (.aload_n 0, 1) := by decide +kernel
theorem dX5_metresStanding_12 : decode cX5_metresStanding 12 = .ok (.iload_n 1, 1) := by decide +kernel
theorem dX5_metresStanding_13 : decode cX5_metresStanding 13 = .ok (.invokevirtual 80, 3) := by decide +kernel
theorem dX5_metresStanding_16 : decode cX5_metresStanding 16 = .ok (.istore 4, 2) := by decide +kernel
theorem dX5_metresStanding_18 : decode cX5_metresStanding 18 = .ok (.aload_n 0, 1) := by decide +kernel
theorem dX5_metresStanding_19 : decode cX5_metresStanding 19 = .ok (.iload_n 2, 1) := by decide +kernel
theorem dX5_metresStanding_20 : decode cX5_metresStanding 20 = .ok (.iload_n 1, 1) := by decide +kernel
theorem dX5_metresStanding_21 : decode cX5_metresStanding 21 = .ok (.invokevirtual 90, 3) := by decide +kernel
theorem dX5_metresStanding_24 : decode cX5_metresStanding 24 = .ok (.istore 5, 2) := by decide +kernel
theorem dX5_metresStanding_26 : decode cX5_metresStanding 26 = .ok (.iload 4, 2) := by decide +kernel
theorem dX5_metresStanding_28 : decode cX5_metresStanding 28 = .ok (.ifCond .lt 21, 3) := by decide +kernel
theorem dX5_metresStanding_31 : decode cX5_metresStanding 31 = .ok (.iload 4, 2) := by decide +kernel
theorem dX5_metresStanding_33 : decode cX5_metresStanding 33 = .ok (.iload_n 2, 1) := by decide +kernel
theorem dX5_metresStanding_34 : decode cX5_metresStanding 34 = .ok (.if_icmp .eq 15, 3) := by decide +kernel
theorem dX5_metresStanding_37 : decode cX5_metresStanding 37 = .ok (.aload_n 0, 1) := by decide +kernel
theorem dX5_metresStanding_38 : decode cX5_metresStanding 38 = .ok (.getfield 9, 3) := by decide +kernel
theorem dX5_metresStanding_41 : decode cX5_metresStanding 41 = .ok (.bipush 17, 2) := by decide +kernel
theorem dX5_metresStanding_43 : decode cX5_metresStanding 43 = .ok (.iload 4, 2) := by decide +kernel
theorem dX5_metresStanding_45 : decode cX5_metresStanding 45 = .ok (.iadd, 1) := by decide +kernel
theorem dX5_metresStanding_46 : decode cX5_metresStanding 46 = .ok (.iload 5, 2) := by decide +kernel
theorem dX5_metresStanding_48 : decode cX5_metresStanding 48 = .ok (.iastore, 1) := by decide +kernel
theorem dX5_metresStanding_49 : decode cX5_metresStanding 49 = .ok (.aload_n 0, 1) := by decide +kernel
theorem dX5_metresStanding_50 : decode cX5_metresStanding 50 = .ok (.iload_n 3, 1) := by decide +kernel
theorem dX5_metresStanding_51 : decode cX5_metresStanding 51 = .ok (.invokevirtual 159, 3) := by decide +kernel
theorem dX5_metresStanding_54 : decode cX5_metresStanding 54 = .ok (.aload_n 0, 1) := by decide +kernel
theorem dX5_metresStanding_55 : decode cX5_metresStanding 55 = .ok (.aload_n 0, 1) := by decide +kernel
theorem dX5_metresStanding_56 : decode cX5_metresStanding 56 = .ok (.getfield 9, 3) := by decide +kernel
theorem dX5_metresStanding_59 : decode cX5_metresStanding 59 = .ok (.iconst 3, 1) := by decide +kernel
theorem dX5_metresStanding_60 : decode cX5_metresStanding 60 = .ok (.iaload, 1) := by decide +kernel
theorem dX5_metresStanding_61 : decode cX5_metresStanding 61 = .ok (.invokevirtual 175, 3) := by decide +kernel
theorem dX5_metresStanding_64 : decode cX5_metresStanding 64 = .ok (.ireturn, 1) := by decide +kernel
theorem dX5_mix_0 : decode cX5_mix 0 = .ok (.iload_n 1, 1) := by decide +kernel
theorem dX5_mix_1 : decode cX5_mix 1 = .ok (.iconst 1, 1) := by decide +kernel
theorem dX5_mix_2 : decode cX5_mix 2 = .ok (.bipush 20, 2) := by decide +kernel
theorem dX5_mix_4 : decode cX5_mix 4 = .ok (.invokestatic 76, 3) := by decide +kernel
theorem dX5_mix_7 : decode cX5_mix 7 = .ok (.ifCond .ne 10, 3) := by decide +kernel
theorem dX5_mix_10 : decode cX5_mix 10 = .ok (.aload_n 0, 1) := by decide +kernel
theorem dX5_mix_11 : decode cX5_mix 11 = .ok (.ldc 66, 2) := by decide +kernel
theorem dX5_mix_13 : decode cX5_mix 13 = .ok (.invokevirtual 72, 3) := by decide +kernel
theorem dX5_mix_16 : decode cX5_mix 16 = .ok (.ireturn, 1) := by decide +kernel
theorem dX5_mix_17 : decode cX5_mix 17 = .ok (.aload_n 0, 1) := by decide +kernel
theorem dX5_mix_18 : decode cX5_mix 18 = .ok (.getfield 9, 3) := by decide +kernel
theorem dX5_mix_21 : decode cX5_mix 21 = .ok (.iconst 0, 1) := by decide +kernel
theorem dX5_mix_22 : decode cX5_mix 22 = .ok (.iaload, 1) := by decide +kernel
theorem dX5_mix_23 : decode cX5_mix 23 = .ok (.iload_n 1, 1) := by decide +kernel
theorem dX5_mix_24 : decode cX5_mix 24 = .ok (.iadd, 1) := by decide +kernel
theorem dX5_mix_25 : decode cX5_mix 25 = .ok (.ldc 143, 2) := by decide +kernel
theorem dX5_mix_27 : decode cX5_mix 27 = .ok (.if_icmp .le 10, 3) := by decide +kernel
theorem dX5_mix_30 : decode cX5_mix 30 = .ok (.aload_n 0, 1) := by decide +kernel
theorem dX5_mix_31 : decode cX5_mix 31 = .ok (.ldc 158, 2) := by decide +kernel
theorem dX5_mix_33 : decode cX5_mix 33 = .ok (.invokevirtual 72, 3) := by decide +kernel
theorem dX5_mix_36 : decode cX5_mix 36 = .ok (.ireturn, 1) := by decide +kernel
theorem dX5_mix_37 : decode cX5_mix 37 = .ok (.iconst 0, 1) := by decide +kernel
theorem dX5_mix_38 : decode cX5_mix 38 = .ok (.istore_n 2, 1) := by decide +kernel
theorem dX5_mix_39 : decode cX5_mix 39 = .ok (.iload_n 2, 1) := by decide +kernel
theorem dX5_mix_40 : decode cX5_mix 40 = .ok (.iload_n 1, 1) := by decide +kernel
theorem dX5_mix_41 : decode cX5_mix 41 = .ok (.if_icmp .ge 51, 3) := by decide +kernel
theorem dX5_mix_44 : decode cX5_mix 44 = .ok (.aload_n 0, 1) := by decide +kernel
theorem dX5_mix_45 : decode cX5_mix 45 = .ok (.getfield 9, 3) := by decide +kernel
theorem dX5_mix_48 : decode cX5_mix 48 = .ok (.bipush 38, 2) := by decide +kernel
theorem dX5_mix_50 : decode cX5_mix 50 = .ok (.aload_n 0, 1) := by decide +kernel
theorem dX5_mix_51 : decode cX5_mix 51 = .ok (.getfield 9, 3) := by decide +kernel
theorem dX5_mix_54 : decode cX5_mix 54 = .ok (.iconst 0, 1) := by decide +kernel
theorem dX5_mix_55 : decode cX5_mix 55 = .ok (.iaload, 1) := by decide +kernel
theorem dX5_mix_56 : decode cX5_mix 56 = .ok (.bipush 6, 2) := by decide +kernel
theorem dX5_mix_58 : decode cX5_mix 58 = .ok (.irem, 1) := by decide +kernel
theorem dX5_mix_59 : decode cX5_mix 59 = .ok (.iadd, 1) := by decide +kernel
theorem dX5_mix_60 : decode cX5_mix 60 = .ok (.aload_n 0, 1) := by decide +kernel
theorem dX5_mix_61 : decode cX5_mix 61 = .ok (.invokevirtual 217, 3) := by decide +kernel
theorem dX5_mix_64 : decode cX5_mix 64 = .ok (.sipush 1000, 3) := by decide +kernel
theorem dX5_mix_67 : decode cX5_mix 67 = .ok (.irem, 1) := by decide +kernel
theorem dX5_mix_68 : decode cX5_mix 68 = .ok (.iastore, 1) := by decide +kernel
theorem dX5_mix_69 : decode cX5_mix 69 = .ok (.aload_n 0, 1) := by decide +kernel
theorem dX5_mix_70 : decode cX5_mix 70 = .ok (.getfield 9, 3) := by decide +kernel
theorem dX5_mix_73 : decode cX5_mix 73 = .ok (.iconst 4, 1) := by decide +kernel
theorem dX5_mix_74 : decode cX5_mix 74 = .ok (.aload_n 0, 1) := by decide +kernel
theorem dX5_mix_75 : decode cX5_mix 75 = .ok (.invokevirtual 217, 3) := by decide +kernel
theorem dX5_mix_78 : decode cX5_mix 78 = .ok (.bipush 10, 2) := by decide +kernel
theorem dX5_mix_80 : decode cX5_mix 80 = .ok (.irem, 1) := by decide +kernel
theorem dX5_mix_81 : decode cX5_mix 81 = .ok (.iastore, 1) := by decide +kernel
theorem dX5_mix_82 : decode cX5_mix 82 = .ok (.aload_n 0, 1) := by decide +kernel
theorem dX5_mix_83 : decode cX5_mix 83 = .ok (.invokevirtual 155, 3) := by decide +kernel
theorem dX5_mix_86 : decode cX5_mix 86 = .ok (.iinc 2 1, 3) := by decide +kernel
theorem dX5_mix_89 : decode cX5_mix 89 = .ok (.goto (-50), 3) := by decide +kernel
theorem dX5_mix_92 : decode cX5_mix 92 = .ok (.aload_n 0, 1) := by decide +kernel
theorem dX5_mix_93 : decode cX5_mix 93 = .ok (.getfield 9, 3) := by decide +kernel
theorem dX5_mix_96 : decode cX5_mix 96 = .ok (.iconst 3, 1) := by decide +kernel
theorem dX5_mix_97 : decode cX5_mix 97 = .ok (.iaload, 1) := by decide +kernel
theorem dX5_mix_98 : decode cX5_mix 98 = .ok (.ireturn, 1) := by decide +kernel
theorem dX5_must_0 : decode cX5_must 0 = .ok (.aload_n 0, 1) := by decide +kernel
theorem dX5_must_1 : decode cX5_must 1 = .ok (.aload_n 0, 1) := by decide +kernel
theorem dX5_must_2 : decode cX5_must 2 = .ok (.getfield 245, 3) := by decide +kernel
theorem dX5_must_5 : decode cX5_must 5 = .ok (.ifCond .ne 7, 3) := by decide +kernel
theorem dX5_must_8 : decode cX5_must 8 = .ok (.iload_n 1, 1) := by decide +kernel
theorem dX5_must_9 : decode cX5_must 9 = .ok (.ifCond .ne 7, 3) := by decide +kernel
theorem dX5_must_12 : decode cX5_must 12 = .ok (.iconst 1, 1) := by decide +kernel
theorem dX5_must_13 : decode cX5_must 13 = .ok (.goto 4, 3) := by decide +kernel
theorem dX5_must_16 : decode cX5_must 16 = .ok (.iconst 0, 1) := by decide +kernel
theorem dX5_must_17 : decode cX5_must 17 = .ok (.putfield 245, 3) := by decide +kernel
theorem dX5_must_20 : decode cX5_must 20 = .ok (.aload_n 0, 1) := by decide +kernel
theorem dX5_must_21 : decode cX5_must 21 = .ok (.getfield 245, 3) := by decide +kernel
theorem dX5_must_24 : decode cX5_must 24 = .ok (.ifCond .ne 7, 3) := by decide +kernel
theorem dX5_must_27 : decode cX5_must 27 = .ok (.aload_n 0, 1) := by decide +kernel
theorem dX5_must_28 : decode cX5_must 28 = .ok (.invokevirtual 249, 3) := by decide +kernel
theorem dX5_must_31 : decode cX5_must 31 = .ok (.return_, 1) := by decide +kernel
theorem dX5_now_0 : decode cX5_now 0 = .ok (.iload_n 1, 1) := by decide +kernel
theorem dX5_now_1 : decode cX5_now 1 = .ok (.tableswitch 86 0 6 #[43, 50, 57, 63, 69, 74, 79], 43) := by decide +kernel
theorem dX5_now_44 : decode cX5_now 44 = .ok (.aload_n 0, 1) := by decide +kernel
theorem dX5_now_45 : decode cX5_now 45 = .ok (.getfield 9, 3) := by decide +kernel
theorem dX5_now_48 : decode cX5_now 48 = .ok (.iconst 0, 1) := by decide +kernel
theorem dX5_now_49 : decode cX5_now 49 = .ok (.iaload, 1) := by decide +kernel
theorem dX5_now_50 : decode cX5_now 50 = .ok (.ireturn, 1) := by decide +kernel
theorem dX5_now_51 : decode cX5_now 51 = .ok (.aload_n 0, 1) := by decide +kernel
theorem dX5_now_52 : decode cX5_now 52 = .ok (.getfield 9, 3) := by decide +kernel
theorem dX5_now_55 : decode cX5_now 55 = .ok (.iconst 3, 1) := by decide +kernel
theorem dX5_now_56 : decode cX5_now 56 = .ok (.iaload, 1) := by decide +kernel
theorem dX5_now_57 : decode cX5_now 57 = .ok (.ireturn, 1) := by decide +kernel
theorem dX5_now_58 : decode cX5_now 58 = .ok (.aload_n 0, 1) := by decide +kernel
theorem dX5_now_59 : decode cX5_now 59 = .ok (.iconst 3, 1) := by decide +kernel
theorem dX5_now_60 : decode cX5_now 60 = .ok (.invokevirtual 166, 3) := by decide +kernel
theorem dX5_now_63 : decode cX5_now 63 = .ok (.ireturn, 1) := by decide +kernel
theorem dX5_now_64 : decode cX5_now 64 = .ok (.aload_n 0, 1) := by decide +kernel
theorem dX5_now_65 : decode cX5_now 65 = .ok (.iconst 4, 1) := by decide +kernel
theorem dX5_now_66 : decode cX5_now 66 = .ok (.invokevirtual 166, 3) := by decide +kernel
theorem dX5_now_69 : decode cX5_now 69 = .ok (.ireturn, 1) := by decide +kernel
theorem dX5_now_70 : decode cX5_now 70 = .ok (.aload_n 0, 1) := by decide +kernel
theorem dX5_now_71 : decode cX5_now 71 = .ok (.invokevirtual 147, 3) := by decide +kernel
theorem dX5_now_74 : decode cX5_now 74 = .ok (.ireturn, 1) := by decide +kernel
theorem dX5_now_75 : decode cX5_now 75 = .ok (.aload_n 0, 1) := by decide +kernel
theorem dX5_now_76 : decode cX5_now 76 = .ok (.invokevirtual 169, 3) := by decide +kernel
theorem dX5_now_79 : decode cX5_now 79 = .ok (.ireturn, 1) := by decide +kernel
theorem dX5_now_80 : decode cX5_now 80 = .ok (.aload_n 0, 1) := by decide +kernel
theorem dX5_now_81 : decode cX5_now 81 = .ok (.bipush 63, 2) := by decide +kernel
theorem dX5_now_83 : decode cX5_now 83 = .ok (.invokevirtual 172, 3) := by decide +kernel
theorem dX5_now_86 : decode cX5_now 86 = .ok (.ireturn, 1) := by decide +kernel
theorem dX5_now_87 : decode cX5_now 87 = .ok (.aload_n 0, 1) := by decide +kernel
theorem dX5_now_88 : decode cX5_now 88 = .ok (.ldc 66, 2) := by decide +kernel
theorem dX5_now_90 : decode cX5_now 90 = .ok (.invokevirtual 72, 3) := by decide +kernel
theorem dX5_now_93 : decode cX5_now 93 = .ok (.ireturn, 1) := by decide +kernel
theorem dX5_number_0 : decode cX5_number 0 = .ok (.aload_n 0, 1) := by decide +kernel
theorem dX5_number_1 : decode cX5_number 1 = .ok (.getfield 232, 3) := by decide +kernel
theorem dX5_number_4 : decode cX5_number 4 = .ok (.istore_n 3, 1) := by decide +kernel
theorem dX5_number_5 : decode cX5_number 5 = .ok (.aload_n 0, 1) := by decide +kernel
theorem dX5_number_6 : decode cX5_number 6 = .ok (.aload_n 0, 1) := by decide +kernel
theorem dX5_number_7 : decode cX5_number 7 = .ok (.getfield 235, 3) := by decide +kernel
theorem dX5_number_10 : decode cX5_number 10 = .ok (.iconst 2, 1) := by decide +kernel
theorem dX5_number_11 : decode cX5_number 11 = .ok (.if_icmp .ne 16, 3) := by decide +kernel
theorem dX5_number_14 : decode cX5_number 14 = .ok (.iload_n 3, 1) := by decide +kernel
theorem dX5_number_15 : decode cX5_number 15 = .ok (.iload_n 1, 1) := by decide +kernel
theorem dX5_number_16 : decode cX5_number 16 = .ok (.iload_n 2, 1) := by decide +kernel
theorem dX5_number_17 : decode cX5_number 17 = .ok (.invokestatic 76, 3) := by decide +kernel
theorem dX5_number_20 : decode cX5_number 20 = .ok (.ifCond .eq 7, 3) := by decide +kernel
theorem dX5_number_23 : decode cX5_number 23 = .ok (.iconst 1, 1) := by decide +kernel
theorem dX5_number_24 : decode cX5_number 24 = .ok (.goto 4, 3) := by decide +kernel
theorem dX5_number_27 : decode cX5_number 27 = .ok (.iconst 0, 1) := by decide +kernel
theorem dX5_number_28 : decode cX5_number 28 = .ok (.invokevirtual 252, 3) := by decide +kernel
theorem dX5_number_31 : decode cX5_number 31 = .ok (.iload_n 3, 1) := by decide +kernel
theorem dX5_number_32 : decode cX5_number 32 = .ok (.ireturn, 1) := by decide +kernel
theorem dX5_odds_0 : decode cX5_odds 0 = .ok (.iload_n 1, 1) := by decide +kernel
theorem dX5_odds_1 : decode cX5_odds 1 = .ok (.invokestatic 83, 3) := by decide +kernel
theorem dX5_odds_4 : decode cX5_odds 4 = .ok (.ifCond .eq 22, 3) := by decide +kernel
theorem dX5_odds_7 : decode cX5_odds 7 = .ok (.iload_n 2, 1) := by decide +kernel
theorem dX5_odds_8 : decode cX5_odds 8 = .ok (.iconst 0, 1) := by decide +kernel
theorem dX5_odds_9 : decode cX5_odds 9 = .ok (.bipush 6, 2) := by decide +kernel
theorem dX5_odds_11 : decode cX5_odds 11 = .ok (.invokestatic 76, 3) := by decide +kernel
theorem dX5_odds_14 : decode cX5_odds 14 = .ok (.ifCond .eq 12, 3) := by decide +kernel
theorem dX5_odds_17 : decode cX5_odds 17 = .ok (.iload_n 3, 1) := by decide +kernel
theorem dX5_odds_18 : decode cX5_odds 18 = .ok (.iconst 0, 1) := by decide +kernel
theorem dX5_odds_19 : decode cX5_odds 19 = .ok (.iconst 1, 1) := by decide +kernel
theorem dX5_odds_20 : decode cX5_odds 20 = .ok (.invokestatic 76, 3) := by decide +kernel
theorem dX5_odds_23 : decode cX5_odds 23 = .ok (.ifCond .ne 11, 3) := by decide +kernel
theorem dX5_odds_26 : decode cX5_odds 26 = .ok (.aload_n 0, 1) := by decide +kernel
theorem dX5_odds_27 : decode cX5_odds 27 = .ok (.ldc 66, 2) := by decide +kernel
theorem dX5_odds_29 : decode cX5_odds 29 = .ok (.invokevirtual 72, 3) := by decide +kernel
theorem dX5_odds_32 : decode cX5_odds 32 = .ok (.i2l, 1) := by decide +kernel
theorem dX5_odds_33 : decode cX5_odds 33 = .ok (.lreturn, 1) := by decide +kernel
theorem dX5_odds_34 : decode cX5_odds 34 = .ok (.iconst 0, 1) := by decide +kernel
theorem dX5_odds_35 : decode cX5_odds 35 = .ok (.istore 4, 2) := by decide +kernel
theorem dX5_odds_37 : decode cX5_odds 37 = .ok (.iconst 0, 1) := by decide +kernel
theorem dX5_odds_38 : decode cX5_odds 38 = .ok (.istore 5, 2) := by decide +kernel
theorem dX5_odds_40 : decode cX5_odds 40 = .ok (.iload 5, 2) := by decide +kernel
theorem dX5_odds_42 : decode cX5_odds 42 = .ok (.sipush 999, 3) := by decide +kernel
theorem dX5_odds_45 : decode cX5_odds 45 = .ok (.if_icmp .gt 35, 3) := by decide +kernel
theorem dX5_odds_48 : decode cX5_odds 48 = .ok (.iload 4, 2) := by decide +kernel
theorem dX5_odds_50 : decode cX5_odds 50 = .ok (.iload 5, 2) := by decide +kernel
theorem dX5_odds_52 : decode cX5_odds 52 = .ok (.aload_n 0, 1) := by decide +kernel
theorem dX5_odds_53 : decode cX5_odds 53 = .ok (.getfield 9, 3) := by decide +kernel
theorem dX5_odds_56 : decode cX5_odds 56 = .ok (.bipush 6, 2) := by decide +kernel
theorem dX5_odds_58 : decode cX5_odds 58 = .ok (.iaload, 1) := by decide +kernel
theorem dX5_odds_59 : decode cX5_odds 59 = .ok (.invokestatic 106, 3) := by decide +kernel
theorem dX5_odds_62 : decode cX5_odds 62 = .ok (.iload_n 1, 1) := by decide +kernel
theorem dX5_odds_63 : decode cX5_odds 63 = .ok (.if_icmp .ne 7, 3) := by decide +kernel
theorem dX5_odds_66 : decode cX5_odds 66 = .ok (.iconst 1, 1) := by decide +kernel
theorem dX5_odds_67 : decode cX5_odds 67 = .ok (.goto 4, 3) := by decide +kernel
theorem dX5_odds_70 : decode cX5_odds 70 = .ok (.iconst 0, 1) := by decide +kernel
theorem dX5_odds_71 : decode cX5_odds 71 = .ok (.iadd, 1) := by decide +kernel
theorem dX5_odds_72 : decode cX5_odds 72 = .ok (.istore 4, 2) := by decide +kernel
theorem dX5_odds_74 : decode cX5_odds 74 = .ok (.iinc 5 1, 3) := by decide +kernel
theorem dX5_odds_77 : decode cX5_odds 77 = .ok (.goto (-37), 3) := by decide +kernel
theorem dX5_odds_80 : decode cX5_odds 80 = .ok (.sipush 1000, 3) := by decide +kernel
theorem dX5_odds_83 : decode cX5_odds 83 = .ok (.istore 5, 2) := by decide +kernel
theorem dX5_odds_85 : decode cX5_odds 85 = .ok (.iload 4, 2) := by decide +kernel
theorem dX5_odds_87 : decode cX5_odds 87 = .ok (.istore 6, 2) := by decide +kernel
theorem dX5_odds_89 : decode cX5_odds 89 = .ok (.iload 6, 2) := by decide +kernel
theorem dX5_odds_91 : decode cX5_odds 91 = .ok (.ifCond .eq 21, 3) := by decide +kernel
theorem dX5_odds_94 : decode cX5_odds 94 = .ok (.iload 5, 2) := by decide +kernel
theorem dX5_odds_96 : decode cX5_odds 96 = .ok (.iload 6, 2) := by decide +kernel
theorem dX5_odds_98 : decode cX5_odds 98 = .ok (.irem, 1) := by decide +kernel
theorem dX5_odds_99 : decode cX5_odds 99 = .ok (.istore 7, 2) := by decide +kernel
theorem dX5_odds_101 : decode cX5_odds 101 = .ok (.iload 6, 2) := by decide +kernel
theorem dX5_odds_103 : decode cX5_odds 103 = .ok (.istore 5, 2) := by decide +kernel
theorem dX5_odds_105 : decode cX5_odds 105 = .ok (.iload 7, 2) := by decide +kernel
theorem dX5_odds_107 : decode cX5_odds 107 = .ok (.istore 6, 2) := by decide +kernel
theorem dX5_odds_109 : decode cX5_odds 109 = .ok (.goto (-20), 3) := by decide +kernel
theorem dX5_odds_112 : decode cX5_odds 112 = .ok (.lconst 1, 1) := by decide +kernel
theorem dX5_odds_113 : decode cX5_odds 113 = .ok (.lstore 7, 2) := by decide +kernel
theorem dX5_odds_115 : decode cX5_odds 115 = .ok (.iconst 0, 1) := by decide +kernel
theorem dX5_odds_116 : decode cX5_odds 116 = .ok (.istore 9, 2) := by decide +kernel
theorem dX5_odds_118 : decode cX5_odds 118 = .ok (.iload 9, 2) := by decide +kernel
theorem dX5_odds_120 : decode cX5_odds 120 = .ok (.iload_n 2, 1) := by decide +kernel
theorem dX5_odds_121 : decode cX5_odds 121 = .ok (.if_icmp .ge 30, 3) := by decide +kernel
theorem dX5_odds_124 : decode cX5_odds 124 = .ok (.lload 7, 2) := by decide +kernel
theorem dX5_odds_126 : decode cX5_odds 126 = .ok (.iload_n 3, 1) := by decide +kernel
theorem dX5_odds_127 : decode cX5_odds 127 = .ok (.ifCond .ne 8, 3) := by decide +kernel
theorem dX5_odds_130 : decode cX5_odds 130 = .ok (.iload 4, 2) := by decide +kernel
theorem dX5_odds_132 : decode cX5_odds 132 = .ok (.goto 6, 3) := by decide +kernel
theorem dX5_odds_135 : decode cX5_odds 135 = .ok (.sipush 1000, 3) := by decide +kernel
theorem dX5_odds_138 : decode cX5_odds 138 = .ok (.iload 5, 2) := by decide +kernel
theorem dX5_odds_140 : decode cX5_odds 140 = .ok (.idiv, 1) := by decide +kernel
theorem dX5_odds_141 : decode cX5_odds 141 = .ok (.i2l, 1) := by decide +kernel
theorem dX5_odds_142 : decode cX5_odds 142 = .ok (.lmul, 1) := by decide +kernel
theorem dX5_odds_143 : decode cX5_odds 143 = .ok (.lstore 7, 2) := by decide +kernel
theorem dX5_odds_145 : decode cX5_odds 145 = .ok (.iinc 9 1, 3) := by decide +kernel
theorem dX5_odds_148 : decode cX5_odds 148 = .ok (.goto (-30), 3) := by decide +kernel
theorem dX5_odds_151 : decode cX5_odds 151 = .ok (.lload 7, 2) := by decide +kernel
theorem dX5_odds_153 : decode cX5_odds 153 = .ok (.lreturn, 1) := by decide +kernel
theorem dX5_of_0 : decode cX5_of 0 = .ok (.aload_n 0, 1) := by decide +kernel
theorem dX5_of_1 : decode cX5_of 1 = .ok (.iload_n 1, 1) := by decide +kernel
theorem dX5_of_2 : decode cX5_of 2 = .ok (.invokevirtual 87, 3) := by decide +kernel
theorem dX5_of_5 : decode cX5_of 5 = .ok (.ifCond .eq 13, 3) := by decide +kernel
theorem dX5_of_8 : decode cX5_of 8 = .ok (.iload_n 2, 1) := by decide +kernel
theorem dX5_of_9 : decode cX5_of 9 = .ok (.iconst 0, 1) := by decide +kernel
theorem dX5_of_10 : decode cX5_of 10 = .ok (.bipush 7, 2) := by decide +kernel
theorem dX5_of_12 : decode cX5_of 12 = .ok (.invokestatic 76, 3) := by decide +kernel
theorem dX5_of_15 : decode cX5_of 15 = .ok (.ifCond .ne 10, 3) := by decide +kernel
theorem dX5_of_18 : decode cX5_of 18 = .ok (.aload_n 0, 1) := by decide +kernel
theorem dX5_of_19 : decode cX5_of 19 = .ok (.ldc 66, 2) := by decide +kernel
theorem dX5_of_21 : decode cX5_of 21 = .ok (.invokevirtual 72, 3) := by decide +kernel
theorem dX5_of_24 : decode cX5_of 24 = .ok (.ireturn, 1) := by decide +kernel
theorem dX5_of_25 : decode cX5_of 25 = .ok (.iload_n 2, 1) := by decide +kernel
theorem dX5_of_26 : decode cX5_of 26 = .ok (.iconst 5, 1) := by decide +kernel
theorem dX5_of_27 : decode cX5_of 27 = .ok (.if_icmp .ge 12, 3) := by decide +kernel
theorem dX5_of_30 : decode cX5_of 30 = .ok (.aload_n 0, 1) := by decide +kernel
theorem dX5_of_31 : decode cX5_of 31 = .ok (.iload_n 1, 1) := by decide +kernel
theorem dX5_of_32 : decode cX5_of 32 = .ok (.iload_n 2, 1) := by decide +kernel
theorem dX5_of_33 : decode cX5_of 33 = .ok (.invokevirtual 119, 3) := by decide +kernel
theorem dX5_of_36 : decode cX5_of 36 = .ok (.goto 35, 3) := by decide +kernel
theorem dX5_of_39 : decode cX5_of 39 = .ok (.iload_n 2, 1) := by decide +kernel
theorem dX5_of_40 : decode cX5_of 40 = .ok (.iconst 5, 1) := by decide +kernel
theorem dX5_of_41 : decode cX5_of 41 = .ok (.if_icmp .ne 11, 3) := by decide +kernel
theorem dX5_of_44 : decode cX5_of 44 = .ok (.aload_n 0, 1) := by decide +kernel
theorem dX5_of_45 : decode cX5_of 45 = .ok (.iload_n 1, 1) := by decide +kernel
theorem dX5_of_46 : decode cX5_of 46 = .ok (.invokevirtual 127, 3) := by decide +kernel
theorem dX5_of_49 : decode cX5_of 49 = .ok (.goto 22, 3) := by decide +kernel
theorem dX5_of_52 : decode cX5_of 52 = .ok (.iload_n 2, 1) := by decide +kernel
theorem dX5_of_53 : decode cX5_of 53 = .ok (.bipush 6, 2) := by decide +kernel
theorem dX5_of_55 : decode cX5_of 55 = .ok (.if_icmp .ne 11, 3) := by decide +kernel
theorem dX5_of_58 : decode cX5_of 58 = .ok (.aload_n 0, 1) := by decide +kernel
theorem dX5_of_59 : decode cX5_of 59 = .ok (.iload_n 1, 1) := by decide +kernel
theorem dX5_of_60 : decode cX5_of 60 = .ok (.invokevirtual 130, 3) := by decide +kernel
theorem dX5_of_63 : decode cX5_of 63 = .ok (.goto 8, 3) := by decide +kernel
theorem dX5_of_66 : decode cX5_of 66 = .ok (.aload_n 0, 1) := by decide +kernel
theorem dX5_of_67 : decode cX5_of 67 = .ok (.iload_n 1, 1) := by decide +kernel
theorem dX5_of_68 : decode cX5_of 68 = .ok (.invokevirtual 80, 3) := by decide +kernel
theorem dX5_of_71 : decode cX5_of 71 = .ok (.ireturn, 1) := by decide +kernel
theorem dX5_oneThrow_0 : decode cX5_oneThrow 0 = .ok (.aload_n 0, 1) := by decide +kernel
theorem dX5_oneThrow_1 : decode cX5_oneThrow 1 = .ok (.invokevirtual 147, 3) := by decide +kernel
theorem dX5_oneThrow_4 : decode cX5_oneThrow 4 = .ok (.istore_n 1, 1) := by decide +kernel
theorem dX5_oneThrow_5 : decode cX5_oneThrow 5 = .ok (.aload_n 0, 1) := by decide +kernel
theorem dX5_oneThrow_6 : decode cX5_oneThrow 6 = .ok (.getfield 9, 3) := by decide +kernel
theorem dX5_oneThrow_9 : decode cX5_oneThrow 9 = .ok (.bipush 17, 2) := by decide +kernel
theorem dX5_oneThrow_11 : decode cX5_oneThrow 11 = .ok (.iload_n 1, 1) := by decide +kernel
theorem dX5_oneThrow_12 : decode cX5_oneThrow 12 = .ok (.iadd, 1) := by decide +kernel
theorem dX5_oneThrow_13 : decode cX5_oneThrow 13 = .ok (.iaload, 1) := by decide +kernel
theorem dX5_oneThrow_14 : decode cX5_oneThrow 14 = .ok (.istore_n 2, 1) := by decide +kernel
theorem dX5_oneThrow_15 : decode cX5_oneThrow 15 = .ok (.iload_n 2, 1) := by decide +kernel
theorem dX5_oneThrow_16 : decode cX5_oneThrow 16 = .ok (.ifCond .lt 12, 3) := by decide +kernel
theorem dX5_oneThrow_19 : decode cX5_oneThrow 19 = .ok (.aload_n 0, 1) := by decide +kernel
theorem dX5_oneThrow_20 : decode cX5_oneThrow 20 = .ok (.iload_n 2, 1) := by decide +kernel
theorem dX5_oneThrow_21 : decode cX5_oneThrow 21 = .ok (.iload_n 1, 1) := by decide +kernel
theorem dX5_oneThrow_22 : decode cX5_oneThrow 22 = .ok (.invokevirtual 151, 3) := by decide +kernel
theorem dX5_oneThrow_25 : decode cX5_oneThrow 25 = .ok (.goto 21, 3) := by decide +kernel
theorem dX5_oneThrow_28 : decode cX5_oneThrow 28 = .ok (.aload_n 0, 1) := by decide +kernel
theorem dX5_oneThrow_29 : decode cX5_oneThrow 29 = .ok (.getfield 9, 3) := by decide +kernel
theorem dX5_oneThrow_32 : decode cX5_oneThrow 32 = .ok (.iconst 3, 1) := by decide +kernel
theorem dX5_oneThrow_33 : decode cX5_oneThrow 33 = .ok (.iconst 0, 1) := by decide +kernel
theorem dX5_oneThrow_34 : decode cX5_oneThrow 34 = .ok (.aload_n 0, 1) := by decide +kernel
theorem dX5_oneThrow_35 : decode cX5_oneThrow 35 = .ok (.getfield 9, 3) := by decide +kernel
theorem dX5_oneThrow_38 : decode cX5_oneThrow 38 = .ok (.iconst 3, 1) := by decide +kernel
theorem dX5_oneThrow_39 : decode cX5_oneThrow 39 = .ok (.iaload, 1) := by decide +kernel
theorem dX5_oneThrow_40 : decode cX5_oneThrow 40 = .ok (.iconst 5, 1) := by decide +kernel
theorem dX5_oneThrow_41 : decode cX5_oneThrow 41 = .ok (.isub, 1) := by decide +kernel
theorem dX5_oneThrow_42 : decode cX5_oneThrow 42 = .ok (.invokestatic 122, 3) := by decide +kernel
theorem dX5_oneThrow_45 : decode cX5_oneThrow 45 = .ok (.iastore, 1) := by decide +kernel
theorem dX5_oneThrow_46 : decode cX5_oneThrow 46 = .ok (.iconst 0, 1) := by decide +kernel
theorem dX5_oneThrow_47 : decode cX5_oneThrow 47 = .ok (.istore_n 3, 1) := by decide +kernel
theorem dX5_oneThrow_48 : decode cX5_oneThrow 48 = .ok (.iload_n 3, 1) := by decide +kernel
theorem dX5_oneThrow_49 : decode cX5_oneThrow 49 = .ok (.aload_n 0, 1) := by decide +kernel
theorem dX5_oneThrow_50 : decode cX5_oneThrow 50 = .ok (.getfield 9, 3) := by decide +kernel
theorem dX5_oneThrow_53 : decode cX5_oneThrow 53 = .ok (.iconst 1, 1) := by decide +kernel
theorem dX5_oneThrow_54 : decode cX5_oneThrow 54 = .ok (.iaload, 1) := by decide +kernel
theorem dX5_oneThrow_55 : decode cX5_oneThrow 55 = .ok (.if_icmp .ge 44, 3) := by decide +kernel
theorem dX5_oneThrow_58 : decode cX5_oneThrow 58 = .ok (.iload_n 3, 1) := by decide +kernel
theorem dX5_oneThrow_59 : decode cX5_oneThrow 59 = .ok (.iload_n 2, 1) := by decide +kernel
theorem dX5_oneThrow_60 : decode cX5_oneThrow 60 = .ok (.if_icmp .ne 7, 3) := by decide +kernel
theorem dX5_oneThrow_63 : decode cX5_oneThrow 63 = .ok (.iconst 0, 1) := by decide +kernel
theorem dX5_oneThrow_64 : decode cX5_oneThrow 64 = .ok (.goto 4, 3) := by decide +kernel
theorem dX5_oneThrow_67 : decode cX5_oneThrow 67 = .ok (.iconst 2, 1) := by decide +kernel
theorem dX5_oneThrow_68 : decode cX5_oneThrow 68 = .ok (.istore 4, 2) := by decide +kernel
theorem dX5_oneThrow_70 : decode cX5_oneThrow 70 = .ok (.aload_n 0, 1) := by decide +kernel
theorem dX5_oneThrow_71 : decode cX5_oneThrow 71 = .ok (.getfield 9, 3) := by decide +kernel
theorem dX5_oneThrow_74 : decode cX5_oneThrow 74 = .ok (.iload_n 3, 1) := by decide +kernel
theorem dX5_oneThrow_75 : decode cX5_oneThrow 75 = .ok (.iconst 2, 1) := by decide +kernel
theorem dX5_oneThrow_76 : decode cX5_oneThrow 76 = .ok (.invokestatic 109, 3) := by decide +kernel
theorem dX5_oneThrow_79 : decode cX5_oneThrow 79 = .ok (.iconst 0, 1) := by decide +kernel
theorem dX5_oneThrow_80 : decode cX5_oneThrow 80 = .ok (.aload_n 0, 1) := by decide +kernel
theorem dX5_oneThrow_81 : decode cX5_oneThrow 81 = .ok (.iload_n 3, 1) := by decide +kernel
theorem dX5_oneThrow_82 : decode cX5_oneThrow 82 = .ok (.iconst 2, 1) := by decide +kernel
theorem dX5_oneThrow_83 : decode cX5_oneThrow 83 = .ok (.invokevirtual 119, 3) := by decide +kernel
theorem dX5_oneThrow_86 : decode cX5_oneThrow 86 = .ok (.iload 4, 2) := by decide +kernel
theorem dX5_oneThrow_88 : decode cX5_oneThrow 88 = .ok (.isub, 1) := by decide +kernel
theorem dX5_oneThrow_89 : decode cX5_oneThrow 89 = .ok (.invokestatic 122, 3) := by decide +kernel
theorem dX5_oneThrow_92 : decode cX5_oneThrow 92 = .ok (.iastore, 1) := by decide +kernel
theorem dX5_oneThrow_93 : decode cX5_oneThrow 93 = .ok (.iinc 3 1, 3) := by decide +kernel
theorem dX5_oneThrow_96 : decode cX5_oneThrow 96 = .ok (.goto (-48), 3) := by decide +kernel
theorem dX5_oneThrow_99 : decode cX5_oneThrow 99 = .ok (.iconst 0, 1) := by decide +kernel
theorem dX5_oneThrow_100 : decode cX5_oneThrow 100 = .ok (.istore_n 3, 1) := by decide +kernel
theorem dX5_oneThrow_101 : decode cX5_oneThrow 101 = .ok (.iload_n 3, 1) := by decide +kernel
theorem dX5_oneThrow_102 : decode cX5_oneThrow 102 = .ok (.bipush 7, 2) := by decide +kernel
theorem dX5_oneThrow_104 : decode cX5_oneThrow 104 = .ok (.if_icmp .ge 52, 3) := by decide +kernel
theorem dX5_oneThrow_107 : decode cX5_oneThrow 107 = .ok (.iload_n 3, 1) := by decide +kernel
theorem dX5_oneThrow_108 : decode cX5_oneThrow 108 = .ok (.iload_n 1, 1) := by decide +kernel
theorem dX5_oneThrow_109 : decode cX5_oneThrow 109 = .ok (.if_icmp .ne 8, 3) := by decide +kernel
theorem dX5_oneThrow_112 : decode cX5_oneThrow 112 = .ok (.bipush 6, 2) := by decide +kernel
theorem dX5_oneThrow_114 : decode cX5_oneThrow 114 = .ok (.goto 4, 3) := by decide +kernel
theorem dX5_oneThrow_117 : decode cX5_oneThrow 117 = .ok (.iconst (-1), 1) := by decide +kernel
theorem dX5_oneThrow_118 : decode cX5_oneThrow 118 = .ok (.istore 4, 2) := by decide +kernel
theorem dX5_oneThrow_120 : decode cX5_oneThrow 120 = .ok (.aload_n 0, 1) := by decide +kernel
theorem dX5_oneThrow_121 : decode cX5_oneThrow 121 = .ok (.getfield 9, 3) := by decide +kernel
theorem dX5_oneThrow_124 : decode cX5_oneThrow 124 = .ok (.bipush 31, 2) := by decide +kernel
theorem dX5_oneThrow_126 : decode cX5_oneThrow 126 = .ok (.iload_n 3, 1) := by decide +kernel
theorem dX5_oneThrow_127 : decode cX5_oneThrow 127 = .ok (.iadd, 1) := by decide +kernel
theorem dX5_oneThrow_128 : decode cX5_oneThrow 128 = .ok (.iconst 0, 1) := by decide +kernel
theorem dX5_oneThrow_129 : decode cX5_oneThrow 129 = .ok (.bipush 99, 2) := by decide +kernel
theorem dX5_oneThrow_131 : decode cX5_oneThrow 131 = .ok (.aload_n 0, 1) := by decide +kernel
theorem dX5_oneThrow_132 : decode cX5_oneThrow 132 = .ok (.getfield 9, 3) := by decide +kernel
theorem dX5_oneThrow_135 : decode cX5_oneThrow 135 = .ok (.bipush 31, 2) := by decide +kernel
theorem dX5_oneThrow_137 : decode cX5_oneThrow 137 = .ok (.iload_n 3, 1) := by decide +kernel
theorem dX5_oneThrow_138 : decode cX5_oneThrow 138 = .ok (.iadd, 1) := by decide +kernel
theorem dX5_oneThrow_139 : decode cX5_oneThrow 139 = .ok (.iaload, 1) := by decide +kernel
theorem dX5_oneThrow_140 : decode cX5_oneThrow 140 = .ok (.iload 4, 2) := by decide +kernel
theorem dX5_oneThrow_142 : decode cX5_oneThrow 142 = .ok (.iadd, 1) := by decide +kernel
theorem dX5_oneThrow_143 : decode cX5_oneThrow 143 = .ok (.invokestatic 144, 3) := by decide +kernel
theorem dX5_oneThrow_146 : decode cX5_oneThrow 146 = .ok (.invokestatic 122, 3) := by decide +kernel
theorem dX5_oneThrow_149 : decode cX5_oneThrow 149 = .ok (.iastore, 1) := by decide +kernel
theorem dX5_oneThrow_150 : decode cX5_oneThrow 150 = .ok (.iinc 3 1, 3) := by decide +kernel
theorem dX5_oneThrow_153 : decode cX5_oneThrow 153 = .ok (.goto (-52), 3) := by decide +kernel
theorem dX5_oneThrow_156 : decode cX5_oneThrow 156 = .ok (.aload_n 0, 1) := by decide +kernel
theorem dX5_oneThrow_157 : decode cX5_oneThrow 157 = .ok (.getfield 9, 3) := by decide +kernel
theorem dX5_oneThrow_160 : decode cX5_oneThrow 160 = .ok (.iconst 0, 1) := by decide +kernel
theorem dX5_oneThrow_161 : decode cX5_oneThrow 161 = .ok (.dup2, 1) := by decide +kernel
theorem dX5_oneThrow_162 : decode cX5_oneThrow 162 = .ok (.iaload, 1) := by decide +kernel
theorem dX5_oneThrow_163 : decode cX5_oneThrow 163 = .ok (.iconst 1, 1) := by decide +kernel
theorem dX5_oneThrow_164 : decode cX5_oneThrow 164 = .ok (.iadd, 1) := by decide +kernel
theorem dX5_oneThrow_165 : decode cX5_oneThrow 165 = .ok (.iastore, 1) := by decide +kernel
theorem dX5_oneThrow_166 : decode cX5_oneThrow 166 = .ok (.return_, 1) := by decide +kernel
theorem dX5_orNone_0 : decode cX5_orNone 0 = .ok (.iload_n 1, 1) := by decide +kernel
theorem dX5_orNone_1 : decode cX5_orNone 1 = .ok (.ifCond .ge 12, 3) := by decide +kernel
theorem dX5_orNone_4 : decode cX5_orNone 4 = .ok (.aload_n 0, 1) := by decide +kernel
theorem dX5_orNone_5 : decode cX5_orNone 5 = .ok (.ldc 71, 2) := by decide +kernel
theorem dX5_orNone_7 : decode cX5_orNone 7 = .ok (.invokevirtual 72, 3) := by decide +kernel
theorem dX5_orNone_10 : decode cX5_orNone 10 = .ok (.goto 4, 3) := by decide +kernel
theorem dX5_orNone_13 : decode cX5_orNone 13 = .ok (.iload_n 1, 1) := by decide +kernel
theorem dX5_orNone_14 : decode cX5_orNone 14 = .ok (.ireturn, 1) := by decide +kernel
theorem dX5_place_0 : decode cX5_place 0 = .ok (.iload_n 1, 1) := by decide +kernel
theorem dX5_place_1 : decode cX5_place 1 = .ok (.invokestatic 83, 3) := by decide +kernel
theorem dX5_place_4 : decode cX5_place 4 = .ok (.ifCond .ne 10, 3) := by decide +kernel
theorem dX5_place_7 : decode cX5_place 7 = .ok (.aload_n 0, 1) := by decide +kernel
theorem dX5_place_8 : decode cX5_place 8 = .ok (.ldc 66, 2) := by decide +kernel
theorem dX5_place_10 : decode cX5_place 10 = .ok (.invokevirtual 72, 3) := by decide +kernel
theorem dX5_place_13 : decode cX5_place 13 = .ok (.ireturn, 1) := by decide +kernel
theorem dX5_place_14 : decode cX5_place 14 = .ok (.iload_n 2, 1) := by decide +kernel
theorem dX5_place_15 : decode cX5_place 15 = .ok (.tableswitch 65 0 3 #[29, 39, 49, 59], 29) := by decide +kernel
theorem dX5_place_44 : decode cX5_place 44 = .ok (.aload_n 0, 1) := by decide +kernel
theorem dX5_place_45 : decode cX5_place 45 = .ok (.getfield 9, 3) := by decide +kernel
theorem dX5_place_48 : decode cX5_place 48 = .ok (.bipush 17, 2) := by decide +kernel
theorem dX5_place_50 : decode cX5_place 50 = .ok (.iload_n 1, 1) := by decide +kernel
theorem dX5_place_51 : decode cX5_place 51 = .ok (.iadd, 1) := by decide +kernel
theorem dX5_place_52 : decode cX5_place 52 = .ok (.iaload, 1) := by decide +kernel
theorem dX5_place_53 : decode cX5_place 53 = .ok (.ireturn, 1) := by decide +kernel
theorem dX5_place_54 : decode cX5_place 54 = .ok (.aload_n 0, 1) := by decide +kernel
theorem dX5_place_55 : decode cX5_place 55 = .ok (.getfield 9, 3) := by decide +kernel
theorem dX5_place_58 : decode cX5_place 58 = .ok (.bipush 24, 2) := by decide +kernel
theorem dX5_place_60 : decode cX5_place 60 = .ok (.iload_n 1, 1) := by decide +kernel
theorem dX5_place_61 : decode cX5_place 61 = .ok (.iadd, 1) := by decide +kernel
theorem dX5_place_62 : decode cX5_place 62 = .ok (.iaload, 1) := by decide +kernel
theorem dX5_place_63 : decode cX5_place 63 = .ok (.ireturn, 1) := by decide +kernel
theorem dX5_place_64 : decode cX5_place 64 = .ok (.aload_n 0, 1) := by decide +kernel
theorem dX5_place_65 : decode cX5_place 65 = .ok (.getfield 9, 3) := by decide +kernel
theorem dX5_place_68 : decode cX5_place 68 = .ok (.bipush 31, 2) := by decide +kernel
theorem dX5_place_70 : decode cX5_place 70 = .ok (.iload_n 1, 1) := by decide +kernel
theorem dX5_place_71 : decode cX5_place 71 = .ok (.iadd, 1) := by decide +kernel
theorem dX5_place_72 : decode cX5_place 72 = .ok (.iaload, 1) := by decide +kernel
theorem dX5_place_73 : decode cX5_place 73 = .ok (.ireturn, 1) := by decide +kernel
theorem dX5_place_74 : decode cX5_place 74 = .ok (.aload_n 0, 1) := by decide +kernel
theorem dX5_place_75 : decode cX5_place 75 = .ok (.iload_n 1, 1) := by decide +kernel
theorem dX5_place_76 : decode cX5_place 76 = .ok (.invokevirtual 94, 3) := by decide +kernel
theorem dX5_place_79 : decode cX5_place 79 = .ok (.ireturn, 1) := by decide +kernel
theorem dX5_place_80 : decode cX5_place 80 = .ok (.aload_n 0, 1) := by decide +kernel
theorem dX5_place_81 : decode cX5_place 81 = .ok (.ldc 66, 2) := by decide +kernel
theorem dX5_place_83 : decode cX5_place 83 = .ok (.invokevirtual 72, 3) := by decide +kernel
theorem dX5_place_86 : decode cX5_place 86 = .ok (.ireturn, 1) := by decide +kernel
theorem dX5_placeNext_0 : decode cX5_placeNext 0 = .ok (.aload_n 0, 1) := by decide +kernel
theorem dX5_placeNext_1 : decode cX5_placeNext 1 = .ok (.getfield 9, 3) := by decide +kernel
theorem dX5_placeNext_4 : decode cX5_placeNext 4 = .ok (.bipush 38, 2) := by decide +kernel
theorem dX5_placeNext_6 : decode cX5_placeNext 6 = .ok (.aload_n 0, 1) := by decide +kernel
theorem dX5_placeNext_7 : decode cX5_placeNext 7 = .ok (.getfield 9, 3) := by decide +kernel
theorem dX5_placeNext_10 : decode cX5_placeNext 10 = .ok (.iconst 0, 1) := by decide +kernel
theorem dX5_placeNext_11 : decode cX5_placeNext 11 = .ok (.iaload, 1) := by decide +kernel
theorem dX5_placeNext_12 : decode cX5_placeNext 12 = .ok (.bipush 6, 2) := by decide +kernel
theorem dX5_placeNext_14 : decode cX5_placeNext 14 = .ok (.irem, 1) := by decide +kernel
theorem dX5_placeNext_15 : decode cX5_placeNext 15 = .ok (.iadd, 1) := by decide +kernel
theorem dX5_placeNext_16 : decode cX5_placeNext 16 = .ok (.iaload, 1) := by decide +kernel
theorem dX5_placeNext_17 : decode cX5_placeNext 17 = .ok (.aload_n 0, 1) := by decide +kernel
theorem dX5_placeNext_18 : decode cX5_placeNext 18 = .ok (.getfield 9, 3) := by decide +kernel
theorem dX5_placeNext_21 : decode cX5_placeNext 21 = .ok (.bipush 6, 2) := by decide +kernel
theorem dX5_placeNext_23 : decode cX5_placeNext 23 = .ok (.iaload, 1) := by decide +kernel
theorem dX5_placeNext_24 : decode cX5_placeNext 24 = .ok (.invokestatic 106, 3) := by decide +kernel
theorem dX5_placeNext_27 : decode cX5_placeNext 27 = .ok (.ireturn, 1) := by decide +kernel
theorem dX5_placeOf_0 : decode cX5_placeOf 0 = .ok (.iconst (-1), 1) := by decide +kernel
theorem dX5_placeOf_1 : decode cX5_placeOf 1 = .ok (.istore_n 2, 1) := by decide +kernel
theorem dX5_placeOf_2 : decode cX5_placeOf 2 = .ok (.iconst 0, 1) := by decide +kernel
theorem dX5_placeOf_3 : decode cX5_placeOf 3 = .ok (.istore_n 3, 1) := by decide +kernel
theorem dX5_placeOf_4 : decode cX5_placeOf 4 = .ok (.iload_n 3, 1) := by decide +kernel
theorem dX5_placeOf_5 : decode cX5_placeOf 5 = .ok (.bipush 7, 2) := by decide +kernel
theorem dX5_placeOf_7 : decode cX5_placeOf 7 = .ok (.if_icmp .ge 28, 3) := by decide +kernel
theorem dX5_placeOf_10 : decode cX5_placeOf 10 = .ok (.aload_n 0, 1) := by decide +kernel
theorem dX5_placeOf_11 : decode cX5_placeOf 11 = .ok (.getfield 9, 3) := by decide +kernel
theorem dX5_placeOf_14 : decode cX5_placeOf 14 = .ok (.bipush 17, 2) := by decide +kernel
theorem dX5_placeOf_16 : decode cX5_placeOf 16 = .ok (.iload_n 3, 1) := by decide +kernel
theorem dX5_placeOf_17 : decode cX5_placeOf 17 = .ok (.iadd, 1) := by decide +kernel
theorem dX5_placeOf_18 : decode cX5_placeOf 18 = .ok (.iaload, 1) := by decide +kernel
theorem dX5_placeOf_19 : decode cX5_placeOf 19 = .ok (.iload_n 1, 1) := by decide +kernel
theorem dX5_placeOf_20 : decode cX5_placeOf 20 = .ok (.if_icmp .ne 7, 3) := by decide +kernel
theorem dX5_placeOf_23 : decode cX5_placeOf 23 = .ok (.iload_n 3, 1) := by decide +kernel
theorem dX5_placeOf_24 : decode cX5_placeOf 24 = .ok (.goto 4, 3) := by decide +kernel
theorem dX5_placeOf_27 : decode cX5_placeOf 27 = .ok (.iload_n 2, 1) := by decide +kernel
theorem dX5_placeOf_28 : decode cX5_placeOf 28 = .ok (.istore_n 2, 1) := by decide +kernel
theorem dX5_placeOf_29 : decode cX5_placeOf 29 = .ok (.iinc 3 1, 3) := by decide +kernel
theorem dX5_placeOf_32 : decode cX5_placeOf 32 = .ok (.goto (-28), 3) := by decide +kernel
theorem dX5_placeOf_35 : decode cX5_placeOf 35 = .ok (.iload_n 2, 1) := by decide +kernel
theorem dX5_placeOf_36 : decode cX5_placeOf 36 = .ok (.ireturn, 1) := by decide +kernel
theorem dX5_placesSaid_0 : decode cX5_placesSaid 0 = .ok (.iconst 0, 1) := by decide +kernel
theorem dX5_placesSaid_1 : decode cX5_placesSaid 1 = .ok (.istore_n 2, 1) := by decide +kernel
theorem dX5_placesSaid_2 : decode cX5_placesSaid 2 = .ok (.iconst 0, 1) := by decide +kernel
theorem dX5_placesSaid_3 : decode cX5_placesSaid 3 = .ok (.istore_n 3, 1) := by decide +kernel
theorem dX5_placesSaid_4 : decode cX5_placesSaid 4 = .ok (.iload_n 3, 1) := by decide +kernel
theorem dX5_placesSaid_5 : decode cX5_placesSaid 5 = .ok (.bipush 6, 2) := by decide +kernel
theorem dX5_placesSaid_7 : decode cX5_placesSaid 7 = .ok (.if_icmp .ge 45, 3) := by decide +kernel
theorem dX5_placesSaid_10 : decode cX5_placesSaid 10 = .ok (.iload_n 2, 1) := by decide +kernel
theorem dX5_placesSaid_11 : decode cX5_placesSaid 11 = .ok (.iload_n 1, 1) := by decide +kernel
theorem dX5_placesSaid_12 : decode cX5_placesSaid 12 = .ok (.iload_n 3, 1) := by decide +kernel
theorem dX5_placesSaid_13 : decode cX5_placesSaid 13 = .ok (.invokestatic 163, 3) := by decide +kernel
theorem dX5_placesSaid_16 : decode cX5_placesSaid 16 = .ok (.ifCond .eq 27, 3) := by decide +kernel
theorem dX5_placesSaid_19 : decode cX5_placesSaid 19 = .ok (.iconst 1, 1) := by decide +kernel
theorem dX5_placesSaid_20 : decode cX5_placesSaid 20 = .ok (.aload_n 0, 1) := by decide +kernel
theorem dX5_placesSaid_21 : decode cX5_placesSaid 21 = .ok (.getfield 9, 3) := by decide +kernel
theorem dX5_placesSaid_24 : decode cX5_placesSaid 24 = .ok (.bipush 38, 2) := by decide +kernel
theorem dX5_placesSaid_26 : decode cX5_placesSaid 26 = .ok (.iload_n 3, 1) := by decide +kernel
theorem dX5_placesSaid_27 : decode cX5_placesSaid 27 = .ok (.iadd, 1) := by decide +kernel
theorem dX5_placesSaid_28 : decode cX5_placesSaid 28 = .ok (.iaload, 1) := by decide +kernel
theorem dX5_placesSaid_29 : decode cX5_placesSaid 29 = .ok (.aload_n 0, 1) := by decide +kernel
theorem dX5_placesSaid_30 : decode cX5_placesSaid 30 = .ok (.getfield 9, 3) := by decide +kernel
theorem dX5_placesSaid_33 : decode cX5_placesSaid 33 = .ok (.bipush 6, 2) := by decide +kernel
theorem dX5_placesSaid_35 : decode cX5_placesSaid 35 = .ok (.iaload, 1) := by decide +kernel
theorem dX5_placesSaid_36 : decode cX5_placesSaid 36 = .ok (.invokestatic 106, 3) := by decide +kernel
theorem dX5_placesSaid_39 : decode cX5_placesSaid 39 = .ok (.ishl, 1) := by decide +kernel
theorem dX5_placesSaid_40 : decode cX5_placesSaid 40 = .ok (.goto 4, 3) := by decide +kernel
theorem dX5_placesSaid_43 : decode cX5_placesSaid 43 = .ok (.iconst 0, 1) := by decide +kernel
theorem dX5_placesSaid_44 : decode cX5_placesSaid 44 = .ok (.ior, 1) := by decide +kernel
theorem dX5_placesSaid_45 : decode cX5_placesSaid 45 = .ok (.istore_n 2, 1) := by decide +kernel
theorem dX5_placesSaid_46 : decode cX5_placesSaid 46 = .ok (.iinc 3 1, 3) := by decide +kernel
theorem dX5_placesSaid_49 : decode cX5_placesSaid 49 = .ok (.goto (-45), 3) := by decide +kernel
theorem dX5_placesSaid_52 : decode cX5_placesSaid 52 = .ok (.iload_n 2, 1) := by decide +kernel
theorem dX5_placesSaid_53 : decode cX5_placesSaid 53 = .ok (.ireturn, 1) := by decide +kernel
theorem dX5_placesWon_0 : decode cX5_placesWon 0 = .ok (.iconst 0, 1) := by decide +kernel
theorem dX5_placesWon_1 : decode cX5_placesWon 1 = .ok (.istore_n 1, 1) := by decide +kernel
theorem dX5_placesWon_2 : decode cX5_placesWon 2 = .ok (.iconst 0, 1) := by decide +kernel
theorem dX5_placesWon_3 : decode cX5_placesWon 3 = .ok (.istore_n 2, 1) := by decide +kernel
theorem dX5_placesWon_4 : decode cX5_placesWon 4 = .ok (.iload_n 2, 1) := by decide +kernel
theorem dX5_placesWon_5 : decode cX5_placesWon 5 = .ok (.bipush 7, 2) := by decide +kernel
theorem dX5_placesWon_7 : decode cX5_placesWon 7 = .ok (.if_icmp .ge 27, 3) := by decide +kernel
theorem dX5_placesWon_10 : decode cX5_placesWon 10 = .ok (.iload_n 1, 1) := by decide +kernel
theorem dX5_placesWon_11 : decode cX5_placesWon 11 = .ok (.aload_n 0, 1) := by decide +kernel
theorem dX5_placesWon_12 : decode cX5_placesWon 12 = .ok (.iload_n 2, 1) := by decide +kernel
theorem dX5_placesWon_13 : decode cX5_placesWon 13 = .ok (.invokevirtual 140, 3) := by decide +kernel
theorem dX5_placesWon_16 : decode cX5_placesWon 16 = .ok (.ifCond .eq 9, 3) := by decide +kernel
theorem dX5_placesWon_19 : decode cX5_placesWon 19 = .ok (.iconst 1, 1) := by decide +kernel
theorem dX5_placesWon_20 : decode cX5_placesWon 20 = .ok (.iload_n 2, 1) := by decide +kernel
theorem dX5_placesWon_21 : decode cX5_placesWon 21 = .ok (.ishl, 1) := by decide +kernel
theorem dX5_placesWon_22 : decode cX5_placesWon 22 = .ok (.goto 4, 3) := by decide +kernel
theorem dX5_placesWon_25 : decode cX5_placesWon 25 = .ok (.iconst 0, 1) := by decide +kernel
theorem dX5_placesWon_26 : decode cX5_placesWon 26 = .ok (.ior, 1) := by decide +kernel
theorem dX5_placesWon_27 : decode cX5_placesWon 27 = .ok (.istore_n 1, 1) := by decide +kernel
theorem dX5_placesWon_28 : decode cX5_placesWon 28 = .ok (.iinc 2 1, 3) := by decide +kernel
theorem dX5_placesWon_31 : decode cX5_placesWon 31 = .ok (.goto (-27), 3) := by decide +kernel
theorem dX5_placesWon_34 : decode cX5_placesWon 34 = .ok (.iload_n 1, 1) := by decide +kernel
theorem dX5_placesWon_35 : decode cX5_placesWon 35 = .ok (.ireturn, 1) := by decide +kernel
theorem dX5_putBack_0 : decode cX5_putBack 0 = .ok (.aload_n 0, 1) := by decide +kernel
theorem dX5_putBack_1 : decode cX5_putBack 1 = .ok (.getfield 16, 3) := by decide +kernel
theorem dX5_putBack_4 : decode cX5_putBack 4 = .ok (.aload_n 0, 1) := by decide +kernel
theorem dX5_putBack_5 : decode cX5_putBack 5 = .ok (.getfield 9, 3) := by decide +kernel
theorem dX5_putBack_8 : decode cX5_putBack 8 = .ok (.invokestatic 67, 3) := by decide +kernel
theorem dX5_putBack_11 : decode cX5_putBack 11 = .ok (.iload_n 1, 1) := by decide +kernel
theorem dX5_putBack_12 : decode cX5_putBack 12 = .ok (.ireturn, 1) := by decide +kernel
theorem dX5_readItem_0 : decode cX5_readItem 0 = .ok (.iconst (-1), 1) := by decide +kernel
theorem dX5_readItem_1 : decode cX5_readItem 1 = .ok (.istore_n 1, 1) := by decide +kernel
theorem dX5_readItem_2 : decode cX5_readItem 2 = .ok (.iconst 0, 1) := by decide +kernel
theorem dX5_readItem_3 : decode cX5_readItem 3 = .ok (.istore_n 2, 1) := by decide +kernel
theorem dX5_readItem_4 : decode cX5_readItem 4 = .ok (.iload_n 2, 1) := by decide +kernel
theorem dX5_readItem_5 : decode cX5_readItem 5 = .ok (.aload_n 0, 1) := by decide +kernel
theorem dX5_readItem_6 : decode cX5_readItem 6 = .ok (.getfield 41, 3) := by decide +kernel
theorem dX5_readItem_9 : decode cX5_readItem 9 = .ok (.arraylength, 1) := by decide +kernel
theorem dX5_readItem_10 : decode cX5_readItem 10 = .ok (.if_icmp .ge 28, 3) := by decide +kernel
theorem dX5_readItem_13 : decode cX5_readItem 13 = .ok (.aload_n 0, 1) := by decide +kernel
theorem dX5_readItem_14 : decode cX5_readItem 14 = .ok (.aload_n 0, 1) := by decide +kernel
theorem dX5_readItem_15 : decode cX5_readItem 15 = .ok (.getfield 41, 3) := by decide +kernel
theorem dX5_readItem_18 : decode cX5_readItem 18 = .ok (.iload_n 2, 1) := by decide +kernel
theorem dX5_readItem_19 : decode cX5_readItem 19 = .ok (.aaload, 1) := by decide +kernel
theorem dX5_readItem_20 : decode cX5_readItem 20 = .ok (.invokevirtual 259, 3) := by decide +kernel
theorem dX5_readItem_23 : decode cX5_readItem 23 = .ok (.ifCond .eq 7, 3) := by decide +kernel
theorem dX5_readItem_26 : decode cX5_readItem 26 = .ok (.iload_n 2, 1) := by decide +kernel
theorem dX5_readItem_27 : decode cX5_readItem 27 = .ok (.goto 4, 3) := by decide +kernel
theorem dX5_readItem_30 : decode cX5_readItem 30 = .ok (.iload_n 1, 1) := by decide +kernel
theorem dX5_readItem_31 : decode cX5_readItem 31 = .ok (.istore_n 1, 1) := by decide +kernel
theorem dX5_readItem_32 : decode cX5_readItem 32 = .ok (.iinc 2 1, 3) := by decide +kernel
theorem dX5_readItem_35 : decode cX5_readItem 35 = .ok (.goto (-31), 3) := by decide +kernel
theorem dX5_readItem_38 : decode cX5_readItem 38 = .ok (.iload_n 1, 1) := by decide +kernel
theorem dX5_readItem_39 : decode cX5_readItem 39 = .ok (.ifCond .lt 11, 3) := by decide +kernel
theorem dX5_readItem_42 : decode cX5_readItem 42 = .ok (.aload_n 0, 1) := by decide +kernel
theorem dX5_readItem_43 : decode cX5_readItem 43 = .ok (.iload_n 1, 1) := by decide +kernel
theorem dX5_readItem_44 : decode cX5_readItem 44 = .ok (.invokevirtual 286, 3) := by decide +kernel
theorem dX5_readItem_47 : decode cX5_readItem 47 = .ok (.goto 158, 3) := by decide +kernel
theorem dX5_readItem_50 : decode cX5_readItem 50 = .ok (.aload_n 0, 1) := by decide +kernel
theorem dX5_readItem_51 : decode cX5_readItem 51 = .ok (.ldc_w 289, 3) := by decide +kernel
theorem dX5_readItem_54 : decode cX5_readItem 54 = .ok (.invokevirtual 271, 3) := by decide +kernel
theorem dX5_readItem_57 : decode cX5_readItem 57 = .ok (.ifCond .eq 28, 3) := by decide +kernel
theorem dX5_readItem_60 : decode cX5_readItem 60 = .ok (.aload_n 0, 1) := by decide +kernel
theorem dX5_readItem_61 : decode cX5_readItem 61 = .ok (.iconst 0, 1) := by decide +kernel
theorem dX5_readItem_62 : decode cX5_readItem 62 = .ok (.bipush 6, 2) := by decide +kernel
theorem dX5_readItem_64 : decode cX5_readItem 64 = .ok (.invokevirtual 279, 3) := by decide +kernel
theorem dX5_readItem_67 : decode cX5_readItem 67 = .ok (.istore_n 2, 1) := by decide +kernel
theorem dX5_readItem_68 : decode cX5_readItem 68 = .ok (.aload_n 0, 1) := by decide +kernel
theorem dX5_readItem_69 : decode cX5_readItem 69 = .ok (.bipush 10, 2) := by decide +kernel
theorem dX5_readItem_71 : decode cX5_readItem 71 = .ok (.iload_n 2, 1) := by decide +kernel
theorem dX5_readItem_72 : decode cX5_readItem 72 = .ok (.aload_n 0, 1) := by decide +kernel
theorem dX5_readItem_73 : decode cX5_readItem 73 = .ok (.iconst 0, 1) := by decide +kernel
theorem dX5_readItem_74 : decode cX5_readItem 74 = .ok (.bipush 99, 2) := by decide +kernel
theorem dX5_readItem_76 : decode cX5_readItem 76 = .ok (.invokevirtual 279, 3) := by decide +kernel
theorem dX5_readItem_79 : decode cX5_readItem 79 = .ok (.invokevirtual 282, 3) := by decide +kernel
theorem dX5_readItem_82 : decode cX5_readItem 82 = .ok (.goto 123, 3) := by decide +kernel
theorem dX5_readItem_85 : decode cX5_readItem 85 = .ok (.aload_n 0, 1) := by decide +kernel
theorem dX5_readItem_86 : decode cX5_readItem 86 = .ok (.ldc_w 291, 3) := by decide +kernel
theorem dX5_readItem_89 : decode cX5_readItem 89 = .ok (.invokevirtual 271, 3) := by decide +kernel
theorem dX5_readItem_92 : decode cX5_readItem 92 = .ok (.ifCond .eq 28, 3) := by decide +kernel
theorem dX5_readItem_95 : decode cX5_readItem 95 = .ok (.aload_n 0, 1) := by decide +kernel
theorem dX5_readItem_96 : decode cX5_readItem 96 = .ok (.iconst 0, 1) := by decide +kernel
theorem dX5_readItem_97 : decode cX5_readItem 97 = .ok (.iconst 5, 1) := by decide +kernel
theorem dX5_readItem_98 : decode cX5_readItem 98 = .ok (.invokevirtual 279, 3) := by decide +kernel
theorem dX5_readItem_101 : decode cX5_readItem 101 = .ok (.istore_n 2, 1) := by decide +kernel
theorem dX5_readItem_102 : decode cX5_readItem 102 = .ok (.aload_n 0, 1) := by decide +kernel
theorem dX5_readItem_103 : decode cX5_readItem 103 = .ok (.bipush 11, 2) := by decide +kernel
theorem dX5_readItem_105 : decode cX5_readItem 105 = .ok (.iload_n 2, 1) := by decide +kernel
theorem dX5_readItem_106 : decode cX5_readItem 106 = .ok (.aload_n 0, 1) := by decide +kernel
theorem dX5_readItem_107 : decode cX5_readItem 107 = .ok (.iconst 0, 1) := by decide +kernel
theorem dX5_readItem_108 : decode cX5_readItem 108 = .ok (.sipush 999, 3) := by decide +kernel
theorem dX5_readItem_111 : decode cX5_readItem 111 = .ok (.invokevirtual 279, 3) := by decide +kernel
theorem dX5_readItem_114 : decode cX5_readItem 114 = .ok (.invokevirtual 282, 3) := by decide +kernel
theorem dX5_readItem_117 : decode cX5_readItem 117 = .ok (.goto 88, 3) := by decide +kernel
theorem dX5_readItem_120 : decode cX5_readItem 120 = .ok (.aload_n 0, 1) := by decide +kernel
theorem dX5_readItem_121 : decode cX5_readItem 121 = .ok (.ldc_w 293, 3) := by decide +kernel
theorem dX5_readItem_124 : decode cX5_readItem 124 = .ok (.invokevirtual 271, 3) := by decide +kernel
theorem dX5_readItem_127 : decode cX5_readItem 127 = .ok (.ifCond .eq 19, 3) := by decide +kernel
theorem dX5_readItem_130 : decode cX5_readItem 130 = .ok (.aload_n 0, 1) := by decide +kernel
theorem dX5_readItem_131 : decode cX5_readItem 131 = .ok (.bipush 12, 2) := by decide +kernel
theorem dX5_readItem_133 : decode cX5_readItem 133 = .ok (.aload_n 0, 1) := by decide +kernel
theorem dX5_readItem_134 : decode cX5_readItem 134 = .ok (.iconst 0, 1) := by decide +kernel
theorem dX5_readItem_135 : decode cX5_readItem 135 = .ok (.iconst 4, 1) := by decide +kernel
theorem dX5_readItem_136 : decode cX5_readItem 136 = .ok (.invokevirtual 279, 3) := by decide +kernel
theorem dX5_readItem_139 : decode cX5_readItem 139 = .ok (.iconst 0, 1) := by decide +kernel
theorem dX5_readItem_140 : decode cX5_readItem 140 = .ok (.invokevirtual 282, 3) := by decide +kernel
theorem dX5_readItem_143 : decode cX5_readItem 143 = .ok (.goto 62, 3) := by decide +kernel
theorem dX5_readItem_146 : decode cX5_readItem 146 = .ok (.aload_n 0, 1) := by decide +kernel
theorem dX5_readItem_147 : decode cX5_readItem 147 = .ok (.ldc_w 295, 3) := by decide +kernel
theorem dX5_readItem_150 : decode cX5_readItem 150 = .ok (.invokevirtual 271, 3) := by decide +kernel
theorem dX5_readItem_153 : decode cX5_readItem 153 = .ok (.ifCond .eq 20, 3) := by decide +kernel
theorem dX5_readItem_156 : decode cX5_readItem 156 = .ok (.aload_n 0, 1) := by decide +kernel
theorem dX5_readItem_157 : decode cX5_readItem 157 = .ok (.bipush 13, 2) := by decide +kernel
theorem dX5_readItem_159 : decode cX5_readItem 159 = .ok (.aload_n 0, 1) := by decide +kernel
theorem dX5_readItem_160 : decode cX5_readItem 160 = .ok (.iconst 0, 1) := by decide +kernel
theorem dX5_readItem_161 : decode cX5_readItem 161 = .ok (.bipush 9, 2) := by decide +kernel
theorem dX5_readItem_163 : decode cX5_readItem 163 = .ok (.invokevirtual 279, 3) := by decide +kernel
theorem dX5_readItem_166 : decode cX5_readItem 166 = .ok (.iconst 0, 1) := by decide +kernel
theorem dX5_readItem_167 : decode cX5_readItem 167 = .ok (.invokevirtual 282, 3) := by decide +kernel
theorem dX5_readItem_170 : decode cX5_readItem 170 = .ok (.goto 35, 3) := by decide +kernel
theorem dX5_readItem_173 : decode cX5_readItem 173 = .ok (.aload_n 0, 1) := by decide +kernel
theorem dX5_readItem_174 : decode cX5_readItem 174 = .ok (.ldc_w 297, 3) := by decide +kernel
theorem dX5_readItem_177 : decode cX5_readItem 177 = .ok (.invokevirtual 271, 3) := by decide +kernel
theorem dX5_readItem_180 : decode cX5_readItem 180 = .ok (.ifCond .eq 20, 3) := by decide +kernel
theorem dX5_readItem_183 : decode cX5_readItem 183 = .ok (.aload_n 0, 1) := by decide +kernel
theorem dX5_readItem_184 : decode cX5_readItem 184 = .ok (.bipush 14, 2) := by decide +kernel
theorem dX5_readItem_186 : decode cX5_readItem 186 = .ok (.aload_n 0, 1) := by decide +kernel
theorem dX5_readItem_187 : decode cX5_readItem 187 = .ok (.iconst 0, 1) := by decide +kernel
theorem dX5_readItem_188 : decode cX5_readItem 188 = .ok (.bipush 9, 2) := by decide +kernel
theorem dX5_readItem_190 : decode cX5_readItem 190 = .ok (.invokevirtual 279, 3) := by decide +kernel
theorem dX5_readItem_193 : decode cX5_readItem 193 = .ok (.iconst 0, 1) := by decide +kernel
theorem dX5_readItem_194 : decode cX5_readItem 194 = .ok (.invokevirtual 282, 3) := by decide +kernel
theorem dX5_readItem_197 : decode cX5_readItem 197 = .ok (.goto 8, 3) := by decide +kernel
theorem dX5_readItem_200 : decode cX5_readItem 200 = .ok (.aload_n 0, 1) := by decide +kernel
theorem dX5_readItem_201 : decode cX5_readItem 201 = .ok (.iconst 0, 1) := by decide +kernel
theorem dX5_readItem_202 : decode cX5_readItem 202 = .ok (.invokevirtual 252, 3) := by decide +kernel
theorem dX5_readItem_205 : decode cX5_readItem 205 = .ok (.return_, 1) := by decide +kernel
theorem dX5_readJumper_0 : decode cX5_readJumper 0 = .ok (.aload_n 0, 1) := by decide +kernel
theorem dX5_readJumper_1 : decode cX5_readJumper 1 = .ok (.aload_n 0, 1) := by decide +kernel
theorem dX5_readJumper_2 : decode cX5_readJumper 2 = .ok (.getfield 266, 3) := by decide +kernel
theorem dX5_readJumper_5 : decode cX5_readJumper 5 = .ok (.bipush 8, 2) := by decide +kernel
theorem dX5_readJumper_7 : decode cX5_readJumper 7 = .ok (.if_icmp .ge 7, 3) := by decide +kernel
theorem dX5_readJumper_10 : decode cX5_readJumper 10 = .ok (.iconst 1, 1) := by decide +kernel
theorem dX5_readJumper_11 : decode cX5_readJumper 11 = .ok (.goto 4, 3) := by decide +kernel
theorem dX5_readJumper_14 : decode cX5_readJumper 14 = .ok (.iconst 0, 1) := by decide +kernel
theorem dX5_readJumper_15 : decode cX5_readJumper 15 = .ok (.invokevirtual 252, 3) := by decide +kernel
theorem dX5_readJumper_18 : decode cX5_readJumper 18 = .ok (.aload_n 0, 1) := by decide +kernel
theorem dX5_readJumper_19 : decode cX5_readJumper 19 = .ok (.ldc_w 269, 3) := by decide +kernel
theorem dX5_readJumper_22 : decode cX5_readJumper 22 = .ok (.invokevirtual 271, 3) := by decide +kernel
theorem dX5_readJumper_25 : decode cX5_readJumper 25 = .ok (.ifCond .eq 10, 3) := by decide +kernel
theorem dX5_readJumper_28 : decode cX5_readJumper 28 = .ok (.aload_n 0, 1) := by decide +kernel
theorem dX5_readJumper_29 : decode cX5_readJumper 29 = .ok (.invokevirtual 274, 3) := by decide +kernel
theorem dX5_readJumper_32 : decode cX5_readJumper 32 = .ok (.goto 4, 3) := by decide +kernel
theorem dX5_readJumper_35 : decode cX5_readJumper 35 = .ok (.iconst (-1), 1) := by decide +kernel
theorem dX5_readJumper_36 : decode cX5_readJumper 36 = .ok (.istore_n 2, 1) := by decide +kernel
theorem dX5_readJumper_37 : decode cX5_readJumper 37 = .ok (.aload_n 0, 1) := by decide +kernel
theorem dX5_readJumper_38 : decode cX5_readJumper 38 = .ok (.dup, 1) := by decide +kernel
theorem dX5_readJumper_39 : decode cX5_readJumper 39 = .ok (.getfield 263, 3) := by decide +kernel
theorem dX5_readJumper_42 : decode cX5_readJumper 42 = .ok (.iload_n 2, 1) := by decide +kernel
theorem dX5_readJumper_43 : decode cX5_readJumper 43 = .ok (.invokestatic 83, 3) := by decide +kernel
theorem dX5_readJumper_46 : decode cX5_readJumper 46 = .ok (.ifCond .eq 9, 3) := by decide +kernel
theorem dX5_readJumper_49 : decode cX5_readJumper 49 = .ok (.iconst 1, 1) := by decide +kernel
theorem dX5_readJumper_50 : decode cX5_readJumper 50 = .ok (.iload_n 2, 1) := by decide +kernel
theorem dX5_readJumper_51 : decode cX5_readJumper 51 = .ok (.ishl, 1) := by decide +kernel
theorem dX5_readJumper_52 : decode cX5_readJumper 52 = .ok (.goto 4, 3) := by decide +kernel
theorem dX5_readJumper_55 : decode cX5_readJumper 55 = .ok (.iconst 0, 1) := by decide +kernel
theorem dX5_readJumper_56 : decode cX5_readJumper 56 = .ok (.ior, 1) := by decide +kernel
theorem dX5_readJumper_57 : decode cX5_readJumper 57 = .ok (.putfield 263, 3) := by decide +kernel
theorem dX5_readJumper_60 : decode cX5_readJumper 60 = .ok (.aload_n 0, 1) := by decide +kernel
theorem dX5_readJumper_61 : decode cX5_readJumper 61 = .ok (.ldc_w 277, 3) := by decide +kernel
theorem dX5_readJumper_64 : decode cX5_readJumper 64 = .ok (.invokevirtual 271, 3) := by decide +kernel
theorem dX5_readJumper_67 : decode cX5_readJumper 67 = .ok (.ifCond .eq 13, 3) := by decide +kernel
theorem dX5_readJumper_70 : decode cX5_readJumper 70 = .ok (.aload_n 0, 1) := by decide +kernel
theorem dX5_readJumper_71 : decode cX5_readJumper 71 = .ok (.iconst 0, 1) := by decide +kernel
theorem dX5_readJumper_72 : decode cX5_readJumper 72 = .ok (.bipush 99, 2) := by decide +kernel
theorem dX5_readJumper_74 : decode cX5_readJumper 74 = .ok (.invokevirtual 279, 3) := by decide +kernel
theorem dX5_readJumper_77 : decode cX5_readJumper 77 = .ok (.goto 5, 3) := by decide +kernel
theorem dX5_readJumper_80 : decode cX5_readJumper 80 = .ok (.bipush 50, 2) := by decide +kernel
theorem dX5_readJumper_82 : decode cX5_readJumper 82 = .ok (.istore_n 3, 1) := by decide +kernel
theorem dX5_readJumper_83 : decode cX5_readJumper 83 = .ok (.aload_n 0, 1) := by decide +kernel
theorem dX5_readJumper_84 : decode cX5_readJumper 84 = .ok (.iload_n 1, 1) := by decide +kernel
theorem dX5_readJumper_85 : decode cX5_readJumper 85 = .ok (.iload_n 2, 1) := by decide +kernel
theorem dX5_readJumper_86 : decode cX5_readJumper 86 = .ok (.iload_n 3, 1) := by decide +kernel
theorem dX5_readJumper_87 : decode cX5_readJumper 87 = .ok (.invokevirtual 282, 3) := by decide +kernel
theorem dX5_readJumper_90 : decode cX5_readJumper 90 = .ok (.aload_n 0, 1) := by decide +kernel
theorem dX5_readJumper_91 : decode cX5_readJumper 91 = .ok (.dup, 1) := by decide +kernel
theorem dX5_readJumper_92 : decode cX5_readJumper 92 = .ok (.getfield 266, 3) := by decide +kernel
theorem dX5_readJumper_95 : decode cX5_readJumper 95 = .ok (.iconst 1, 1) := by decide +kernel
theorem dX5_readJumper_96 : decode cX5_readJumper 96 = .ok (.iadd, 1) := by decide +kernel
theorem dX5_readJumper_97 : decode cX5_readJumper 97 = .ok (.putfield 266, 3) := by decide +kernel
theorem dX5_readJumper_100 : decode cX5_readJumper 100 = .ok (.return_, 1) := by decide +kernel
theorem dX5_says_0 : decode cX5_says 0 = .ok (.iload_n 1, 1) := by decide +kernel
theorem dX5_says_1 : decode cX5_says 1 = .ok (.invokestatic 100, 3) := by decide +kernel
theorem dX5_says_4 : decode cX5_says 4 = .ok (.ifCond .eq 20, 3) := by decide +kernel
theorem dX5_says_7 : decode cX5_says 7 = .ok (.iload_n 2, 1) := by decide +kernel
theorem dX5_says_8 : decode cX5_says 8 = .ok (.iconst 0, 1) := by decide +kernel
theorem dX5_says_9 : decode cX5_says 9 = .ok (.iconst 4, 1) := by decide +kernel
theorem dX5_says_10 : decode cX5_says 10 = .ok (.invokestatic 76, 3) := by decide +kernel
theorem dX5_says_13 : decode cX5_says 13 = .ok (.ifCond .eq 11, 3) := by decide +kernel
theorem dX5_says_16 : decode cX5_says 16 = .ok (.iload_n 1, 1) := by decide +kernel
theorem dX5_says_17 : decode cX5_says 17 = .ok (.iload_n 2, 1) := by decide +kernel
theorem dX5_says_18 : decode cX5_says 18 = .ok (.invokestatic 106, 3) := by decide +kernel
theorem dX5_says_21 : decode cX5_says 21 = .ok (.goto 9, 3) := by decide +kernel
theorem dX5_says_24 : decode cX5_says 24 = .ok (.aload_n 0, 1) := by decide +kernel
theorem dX5_says_25 : decode cX5_says 25 = .ok (.ldc 66, 2) := by decide +kernel
theorem dX5_says_27 : decode cX5_says 27 = .ok (.invokevirtual 72, 3) := by decide +kernel
theorem dX5_says_30 : decode cX5_says 30 = .ok (.ireturn, 1) := by decide +kernel
theorem dX5_saysBy_0 : decode cX5_saysBy 0 = .ok (.iload_n 0, 1) := by decide +kernel
theorem dX5_saysBy_1 : decode cX5_saysBy 1 = .ok (.bipush 10, 2) := by decide +kernel
theorem dX5_saysBy_3 : decode cX5_saysBy 3 = .ok (.irem, 1) := by decide +kernel
theorem dX5_saysBy_4 : decode cX5_saysBy 4 = .ok (.istore_n 2, 1) := by decide +kernel
theorem dX5_saysBy_5 : decode cX5_saysBy 5 = .ok (.iload_n 0, 1) := by decide +kernel
theorem dX5_saysBy_6 : decode cX5_saysBy 6 = .ok (.bipush 10, 2) := by decide +kernel
theorem dX5_saysBy_8 : decode cX5_saysBy 8 = .ok (.idiv, 1) := by decide +kernel
theorem dX5_saysBy_9 : decode cX5_saysBy 9 = .ok (.bipush 10, 2) := by decide +kernel
theorem dX5_saysBy_11 : decode cX5_saysBy 11 = .ok (.irem, 1) := by decide +kernel
theorem dX5_saysBy_12 : decode cX5_saysBy 12 = .ok (.istore_n 3, 1) := by decide +kernel
theorem dX5_saysBy_13 : decode cX5_saysBy 13 = .ok (.iload_n 1, 1) := by decide +kernel
theorem dX5_saysBy_14 : decode cX5_saysBy 14 = .ok (.tableswitch 80 0 3 #[30, 35, 47, 55], 30) := by decide +kernel
theorem dX5_saysBy_44 : decode cX5_saysBy 44 = .ok (.iload_n 2, 1) := by decide +kernel
theorem dX5_saysBy_45 : decode cX5_saysBy 45 = .ok (.bipush 7, 2) := by decide +kernel
theorem dX5_saysBy_47 : decode cX5_saysBy 47 = .ok (.irem, 1) := by decide +kernel
theorem dX5_saysBy_48 : decode cX5_saysBy 48 = .ok (.ireturn, 1) := by decide +kernel
theorem dX5_saysBy_49 : decode cX5_saysBy 49 = .ok (.iload_n 2, 1) := by decide +kernel
theorem dX5_saysBy_50 : decode cX5_saysBy 50 = .ok (.iload_n 3, 1) := by decide +kernel
theorem dX5_saysBy_51 : decode cX5_saysBy 51 = .ok (.iadd, 1) := by decide +kernel
theorem dX5_saysBy_52 : decode cX5_saysBy 52 = .ok (.iload_n 0, 1) := by decide +kernel
theorem dX5_saysBy_53 : decode cX5_saysBy 53 = .ok (.bipush 100, 2) := by decide +kernel
theorem dX5_saysBy_55 : decode cX5_saysBy 55 = .ok (.idiv, 1) := by decide +kernel
theorem dX5_saysBy_56 : decode cX5_saysBy 56 = .ok (.iadd, 1) := by decide +kernel
theorem dX5_saysBy_57 : decode cX5_saysBy 57 = .ok (.bipush 7, 2) := by decide +kernel
theorem dX5_saysBy_59 : decode cX5_saysBy 59 = .ok (.irem, 1) := by decide +kernel
theorem dX5_saysBy_60 : decode cX5_saysBy 60 = .ok (.ireturn, 1) := by decide +kernel
theorem dX5_saysBy_61 : decode cX5_saysBy 61 = .ok (.iload_n 0, 1) := by decide +kernel
theorem dX5_saysBy_62 : decode cX5_saysBy 62 = .ok (.bipush 100, 2) := by decide +kernel
theorem dX5_saysBy_64 : decode cX5_saysBy 64 = .ok (.idiv, 1) := by decide +kernel
theorem dX5_saysBy_65 : decode cX5_saysBy 65 = .ok (.bipush 7, 2) := by decide +kernel
theorem dX5_saysBy_67 : decode cX5_saysBy 67 = .ok (.irem, 1) := by decide +kernel
theorem dX5_saysBy_68 : decode cX5_saysBy 68 = .ok (.ireturn, 1) := by decide +kernel
theorem dX5_saysBy_69 : decode cX5_saysBy 69 = .ok (.iload_n 2, 1) := by decide +kernel
theorem dX5_saysBy_70 : decode cX5_saysBy 70 = .ok (.iconst 2, 1) := by decide +kernel
theorem dX5_saysBy_71 : decode cX5_saysBy 71 = .ok (.irem, 1) := by decide +kernel
theorem dX5_saysBy_72 : decode cX5_saysBy 72 = .ok (.iconst 1, 1) := by decide +kernel
theorem dX5_saysBy_73 : decode cX5_saysBy 73 = .ok (.if_icmp .ne 7, 3) := by decide +kernel
theorem dX5_saysBy_76 : decode cX5_saysBy 76 = .ok (.iconst 0, 1) := by decide +kernel
theorem dX5_saysBy_77 : decode cX5_saysBy 77 = .ok (.goto 16, 3) := by decide +kernel
theorem dX5_saysBy_80 : decode cX5_saysBy 80 = .ok (.iload_n 3, 1) := by decide +kernel
theorem dX5_saysBy_81 : decode cX5_saysBy 81 = .ok (.iconst 2, 1) := by decide +kernel
theorem dX5_saysBy_82 : decode cX5_saysBy 82 = .ok (.irem, 1) := by decide +kernel
theorem dX5_saysBy_83 : decode cX5_saysBy 83 = .ok (.iconst 1, 1) := by decide +kernel
theorem dX5_saysBy_84 : decode cX5_saysBy 84 = .ok (.if_icmp .ne 7, 3) := by decide +kernel
theorem dX5_saysBy_87 : decode cX5_saysBy 87 = .ok (.iconst 3, 1) := by decide +kernel
theorem dX5_saysBy_88 : decode cX5_saysBy 88 = .ok (.goto 5, 3) := by decide +kernel
theorem dX5_saysBy_91 : decode cX5_saysBy 91 = .ok (.bipush 6, 2) := by decide +kernel
theorem dX5_saysBy_93 : decode cX5_saysBy 93 = .ok (.ireturn, 1) := by decide +kernel
theorem dX5_saysBy_94 : decode cX5_saysBy 94 = .ok (.iload_n 0, 1) := by decide +kernel
theorem dX5_saysBy_95 : decode cX5_saysBy 95 = .ok (.invokestatic 103, 3) := by decide +kernel
theorem dX5_saysBy_98 : decode cX5_saysBy 98 = .ok (.bipush 7, 2) := by decide +kernel
theorem dX5_saysBy_100 : decode cX5_saysBy 100 = .ok (.irem, 1) := by decide +kernel
theorem dX5_saysBy_101 : decode cX5_saysBy 101 = .ok (.ireturn, 1) := by decide +kernel
theorem dX5_seed_0 : decode cX5_seed 0 = .ok (.aload_n 0, 1) := by decide +kernel
theorem dX5_seed_1 : decode cX5_seed 1 = .ok (.iconst 2, 1) := by decide +kernel
theorem dX5_seed_2 : decode cX5_seed 2 = .ok (.iload_n 1, 1) := by decide +kernel
theorem dX5_seed_3 : decode cX5_seed 3 = .ok (.invokevirtual 97, 3) := by decide +kernel
theorem dX5_seed_6 : decode cX5_seed 6 = .ok (.ireturn, 1) := by decide +kernel
theorem dX5_set_0 : decode cX5_set 0 = .ok (.iload_n 1, 1) := by decide +kernel
theorem dX5_set_1 : decode cX5_set 1 = .ok (.iconst 0, 1) := by decide +kernel
theorem dX5_set_2 : decode cX5_set 2 = .ok (.iconst 2, 1) := by decide +kernel
theorem dX5_set_3 : decode cX5_set 3 = .ok (.invokestatic 76, 3) := by decide +kernel
theorem dX5_set_6 : decode cX5_set 6 = .ok (.ifCond .eq 33, 3) := by decide +kernel
theorem dX5_set_9 : decode cX5_set 9 = .ok (.iload_n 2, 1) := by decide +kernel
theorem dX5_set_10 : decode cX5_set 10 = .ok (.iconst 0, 1) := by decide +kernel
theorem dX5_set_11 : decode cX5_set 11 = .ok (.iload_n 1, 1) := by decide +kernel
theorem dX5_set_12 : decode cX5_set 12 = .ok (.iconst 2, 1) := by decide +kernel
theorem dX5_set_13 : decode cX5_set 13 = .ok (.if_icmp .ne 7, 3) := by decide +kernel
theorem dX5_set_16 : decode cX5_set 16 = .ok (.iconst 4, 1) := by decide +kernel
theorem dX5_set_17 : decode cX5_set 17 = .ok (.goto 5, 3) := by decide +kernel
theorem dX5_set_20 : decode cX5_set 20 = .ok (.bipush 9, 2) := by decide +kernel
theorem dX5_set_22 : decode cX5_set 22 = .ok (.invokestatic 76, 3) := by decide +kernel
theorem dX5_set_25 : decode cX5_set 25 = .ok (.ifCond .eq 14, 3) := by decide +kernel
theorem dX5_set_28 : decode cX5_set 28 = .ok (.aload_n 0, 1) := by decide +kernel
theorem dX5_set_29 : decode cX5_set 29 = .ok (.iconst 4, 1) := by decide +kernel
theorem dX5_set_30 : decode cX5_set 30 = .ok (.iload_n 1, 1) := by decide +kernel
theorem dX5_set_31 : decode cX5_set 31 = .ok (.iadd, 1) := by decide +kernel
theorem dX5_set_32 : decode cX5_set 32 = .ok (.iload_n 2, 1) := by decide +kernel
theorem dX5_set_33 : decode cX5_set 33 = .ok (.invokevirtual 97, 3) := by decide +kernel
theorem dX5_set_36 : decode cX5_set 36 = .ok (.goto 9, 3) := by decide +kernel
theorem dX5_set_39 : decode cX5_set 39 = .ok (.aload_n 0, 1) := by decide +kernel
theorem dX5_set_40 : decode cX5_set 40 = .ok (.ldc 66, 2) := by decide +kernel
theorem dX5_set_42 : decode cX5_set 42 = .ok (.invokevirtual 72, 3) := by decide +kernel
theorem dX5_set_45 : decode cX5_set 45 = .ok (.ireturn, 1) := by decide +kernel
theorem dX5_sheet_0 : decode cX5_sheet 0 = .ok (.iload_n 1, 1) := by decide +kernel
theorem dX5_sheet_1 : decode cX5_sheet 1 = .ok (.invokestatic 195, 3) := by decide +kernel
theorem dX5_sheet_4 : decode cX5_sheet 4 = .ok (.ifCond .eq 25, 3) := by decide +kernel
theorem dX5_sheet_7 : decode cX5_sheet 7 = .ok (.iload_n 2, 1) := by decide +kernel
theorem dX5_sheet_8 : decode cX5_sheet 8 = .ok (.ifCond .eq 28, 3) := by decide +kernel
theorem dX5_sheet_11 : decode cX5_sheet 11 = .ok (.iload_n 2, 1) := by decide +kernel
theorem dX5_sheet_12 : decode cX5_sheet 12 = .ok (.bipush 8, 2) := by decide +kernel
theorem dX5_sheet_14 : decode cX5_sheet 14 = .ok (.if_icmp .eq 22, 3) := by decide +kernel
theorem dX5_sheet_17 : decode cX5_sheet 17 = .ok (.iload_n 2, 1) := by decide +kernel
theorem dX5_sheet_18 : decode cX5_sheet 18 = .ok (.bipush 16, 2) := by decide +kernel
theorem dX5_sheet_20 : decode cX5_sheet 20 = .ok (.if_icmp .eq 16, 3) := by decide +kernel
theorem dX5_sheet_23 : decode cX5_sheet 23 = .ok (.iload_n 2, 1) := by decide +kernel
theorem dX5_sheet_24 : decode cX5_sheet 24 = .ok (.bipush 32, 2) := by decide +kernel
theorem dX5_sheet_26 : decode cX5_sheet 26 = .ok (.if_icmp .eq 10, 3) := by decide +kernel
theorem dX5_sheet_29 : decode cX5_sheet 29 = .ok (.aload_n 0, 1) := by decide +kernel
theorem dX5_sheet_30 : decode cX5_sheet 30 = .ok (.ldc 66, 2) := by decide +kernel
theorem dX5_sheet_32 : decode cX5_sheet 32 = .ok (.invokevirtual 72, 3) := by decide +kernel
theorem dX5_sheet_35 : decode cX5_sheet 35 = .ok (.ireturn, 1) := by decide +kernel
theorem dX5_sheet_36 : decode cX5_sheet 36 = .ok (.iload_n 3, 1) := by decide +kernel
theorem dX5_sheet_37 : decode cX5_sheet 37 = .ok (.ifCond .ge 11, 3) := by decide +kernel
theorem dX5_sheet_40 : decode cX5_sheet 40 = .ok (.aload_n 0, 1) := by decide +kernel
theorem dX5_sheet_41 : decode cX5_sheet 41 = .ok (.ldc_w 312, 3) := by decide +kernel
theorem dX5_sheet_44 : decode cX5_sheet 44 = .ok (.invokevirtual 72, 3) := by decide +kernel
theorem dX5_sheet_47 : decode cX5_sheet 47 = .ok (.ireturn, 1) := by decide +kernel
theorem dX5_sheet_48 : decode cX5_sheet 48 = .ok (.iload_n 3, 1) := by decide +kernel
theorem dX5_sheet_49 : decode cX5_sheet 49 = .ok (.bipush 40, 2) := by decide +kernel
theorem dX5_sheet_51 : decode cX5_sheet 51 = .ok (.if_icmp .le 10, 3) := by decide +kernel
theorem dX5_sheet_54 : decode cX5_sheet 54 = .ok (.aload_n 0, 1) := by decide +kernel
theorem dX5_sheet_55 : decode cX5_sheet 55 = .ok (.ldc 66, 2) := by decide +kernel
theorem dX5_sheet_57 : decode cX5_sheet 57 = .ok (.invokevirtual 72, 3) := by decide +kernel
theorem dX5_sheet_60 : decode cX5_sheet 60 = .ok (.ireturn, 1) := by decide +kernel
theorem dX5_sheet_61 : decode cX5_sheet 61 = .ok (.aload_n 0, 1) := by decide +kernel
theorem dX5_sheet_62 : decode cX5_sheet 62 = .ok (.getfield 54, 3) := by decide +kernel
theorem dX5_sheet_65 : decode cX5_sheet 65 = .ok (.iload_n 1, 1) := by decide +kernel
theorem dX5_sheet_66 : decode cX5_sheet 66 = .ok (.iload_n 2, 1) := by decide +kernel
theorem dX5_sheet_67 : decode cX5_sheet 67 = .ok (.iastore, 1) := by decide +kernel
theorem dX5_sheet_68 : decode cX5_sheet 68 = .ok (.aload_n 0, 1) := by decide +kernel
theorem dX5_sheet_69 : decode cX5_sheet 69 = .ok (.getfield 57, 3) := by decide +kernel
theorem dX5_sheet_72 : decode cX5_sheet 72 = .ok (.iload_n 1, 1) := by decide +kernel
theorem dX5_sheet_73 : decode cX5_sheet 73 = .ok (.iload_n 2, 1) := by decide +kernel
theorem dX5_sheet_74 : decode cX5_sheet 74 = .ok (.ifCond .ne 7, 3) := by decide +kernel
theorem dX5_sheet_77 : decode cX5_sheet 77 = .ok (.iconst 0, 1) := by decide +kernel
theorem dX5_sheet_78 : decode cX5_sheet 78 = .ok (.goto 4, 3) := by decide +kernel
theorem dX5_sheet_81 : decode cX5_sheet 81 = .ok (.iload_n 3, 1) := by decide +kernel
theorem dX5_sheet_82 : decode cX5_sheet 82 = .ok (.iastore, 1) := by decide +kernel
theorem dX5_sheet_83 : decode cX5_sheet 83 = .ok (.iconst 0, 1) := by decide +kernel
theorem dX5_sheet_84 : decode cX5_sheet 84 = .ok (.istore 4, 2) := by decide +kernel
theorem dX5_sheet_86 : decode cX5_sheet 86 = .ok (.iload 4, 2) := by decide +kernel
theorem dX5_sheet_88 : decode cX5_sheet 88 = .ok (.bipush 40, 2) := by decide +kernel
theorem dX5_sheet_90 : decode cX5_sheet 90 = .ok (.if_icmp .ge 22, 3) := by decide +kernel
theorem dX5_sheet_93 : decode cX5_sheet 93 = .ok (.aload_n 0, 1) := by decide +kernel
theorem dX5_sheet_94 : decode cX5_sheet 94 = .ok (.getfield 60, 3) := by decide +kernel
theorem dX5_sheet_97 : decode cX5_sheet 97 = .ok (.bipush 40, 2) := by decide +kernel
theorem dX5_sheet_99 : decode cX5_sheet 99 = .ok (.iload_n 1, 1) := by decide +kernel
theorem dX5_sheet_100 : decode cX5_sheet 100 = .ok (.imul, 1) := by decide +kernel
theorem dX5_sheet_101 : decode cX5_sheet 101 = .ok (.iload 4, 2) := by decide +kernel
theorem dX5_sheet_103 : decode cX5_sheet 103 = .ok (.iadd, 1) := by decide +kernel
theorem dX5_sheet_104 : decode cX5_sheet 104 = .ok (.iconst 0, 1) := by decide +kernel
theorem dX5_sheet_105 : decode cX5_sheet 105 = .ok (.iastore, 1) := by decide +kernel
theorem dX5_sheet_106 : decode cX5_sheet 106 = .ok (.iinc 4 1, 3) := by decide +kernel
theorem dX5_sheet_109 : decode cX5_sheet 109 = .ok (.goto (-23), 3) := by decide +kernel
theorem dX5_sheet_112 : decode cX5_sheet 112 = .ok (.aload_n 0, 1) := by decide +kernel
theorem dX5_sheet_113 : decode cX5_sheet 113 = .ok (.getfield 57, 3) := by decide +kernel
theorem dX5_sheet_116 : decode cX5_sheet 116 = .ok (.iload_n 1, 1) := by decide +kernel
theorem dX5_sheet_117 : decode cX5_sheet 117 = .ok (.iaload, 1) := by decide +kernel
theorem dX5_sheet_118 : decode cX5_sheet 118 = .ok (.ireturn, 1) := by decide +kernel
theorem dX5_stand_0 : decode cX5_stand 0 = .ok (.iload_n 1, 1) := by decide +kernel
theorem dX5_stand_1 : decode cX5_stand 1 = .ok (.invokestatic 83, 3) := by decide +kernel
theorem dX5_stand_4 : decode cX5_stand 4 = .ok (.ifCond .eq 25, 3) := by decide +kernel
theorem dX5_stand_7 : decode cX5_stand 7 = .ok (.iload_n 2, 1) := by decide +kernel
theorem dX5_stand_8 : decode cX5_stand 8 = .ok (.iconst (-1), 1) := by decide +kernel
theorem dX5_stand_9 : decode cX5_stand 9 = .ok (.if_icmp .eq 11, 3) := by decide +kernel
theorem dX5_stand_12 : decode cX5_stand 12 = .ok (.aload_n 0, 1) := by decide +kernel
theorem dX5_stand_13 : decode cX5_stand 13 = .ok (.iload_n 2, 1) := by decide +kernel
theorem dX5_stand_14 : decode cX5_stand 14 = .ok (.invokevirtual 87, 3) := by decide +kernel
theorem dX5_stand_17 : decode cX5_stand 17 = .ok (.ifCond .eq 12, 3) := by decide +kernel
theorem dX5_stand_20 : decode cX5_stand 20 = .ok (.aload_n 0, 1) := by decide +kernel
theorem dX5_stand_21 : decode cX5_stand 21 = .ok (.iload_n 1, 1) := by decide +kernel
theorem dX5_stand_22 : decode cX5_stand 22 = .ok (.iload_n 2, 1) := by decide +kernel
theorem dX5_stand_23 : decode cX5_stand 23 = .ok (.invokevirtual 90, 3) := by decide +kernel
theorem dX5_stand_26 : decode cX5_stand 26 = .ok (.goto 9, 3) := by decide +kernel
theorem dX5_stand_29 : decode cX5_stand 29 = .ok (.aload_n 0, 1) := by decide +kernel
theorem dX5_stand_30 : decode cX5_stand 30 = .ok (.ldc 66, 2) := by decide +kernel
theorem dX5_stand_32 : decode cX5_stand 32 = .ok (.invokevirtual 72, 3) := by decide +kernel
theorem dX5_stand_35 : decode cX5_stand 35 = .ok (.ireturn, 1) := by decide +kernel
theorem dX5_standFor_0 : decode cX5_standFor 0 = .ok (.aload_n 0, 1) := by decide +kernel
theorem dX5_standFor_1 : decode cX5_standFor 1 = .ok (.iload_n 1, 1) := by decide +kernel
theorem dX5_standFor_2 : decode cX5_standFor 2 = .ok (.invokevirtual 87, 3) := by decide +kernel
theorem dX5_standFor_5 : decode cX5_standFor 5 = .ok (.ifCond .eq 10, 3) := by decide +kernel
theorem dX5_standFor_8 : decode cX5_standFor 8 = .ok (.iload_n 2, 1) := by decide +kernel
theorem dX5_standFor_9 : decode cX5_standFor 9 = .ok (.invokestatic 184, 3) := by decide +kernel
theorem dX5_standFor_12 : decode cX5_standFor 12 = .ok (.ifCond .ne 10, 3) := by decide +kernel
theorem dX5_standFor_15 : decode cX5_standFor 15 = .ok (.aload_n 0, 1) := by decide +kernel
theorem dX5_standFor_16 : decode cX5_standFor 16 = .ok (.ldc 66, 2) := by decide +kernel
theorem dX5_standFor_18 : decode cX5_standFor 18 = .ok (.invokevirtual 72, 3) := by decide +kernel
theorem dX5_standFor_21 : decode cX5_standFor 21 = .ok (.ireturn, 1) := by decide +kernel
theorem dX5_standFor_22 : decode cX5_standFor 22 = .ok (.iconst 0, 1) := by decide +kernel
theorem dX5_standFor_23 : decode cX5_standFor 23 = .ok (.istore_n 3, 1) := by decide +kernel
theorem dX5_standFor_24 : decode cX5_standFor 24 = .ok (.iconst (-1), 1) := by decide +kernel
theorem dX5_standFor_25 : decode cX5_standFor 25 = .ok (.istore 4, 2) := by decide +kernel
theorem dX5_standFor_27 : decode cX5_standFor 27 = .ok (.iconst 0, 1) := by decide +kernel
theorem dX5_standFor_28 : decode cX5_standFor 28 = .ok (.istore 5, 2) := by decide +kernel
theorem dX5_standFor_30 : decode cX5_standFor 30 = .ok (.iload 5, 2) := by decide +kernel
theorem dX5_standFor_32 : decode cX5_standFor 32 = .ok (.bipush 7, 2) := by decide +kernel
theorem dX5_standFor_34 : decode cX5_standFor 34 = .ok (.if_icmp .ge 42, 3) := by decide +kernel
theorem dX5_standFor_37 : decode cX5_standFor 37 = .ok (.aload_n 0, 1) := by decide +kernel
theorem dX5_standFor_38 : decode cX5_standFor 38 = .ok (.iload_n 1, 1) := by decide +kernel
theorem dX5_standFor_39 : decode cX5_standFor 39 = .ok (.iload 5, 2) := by decide +kernel
theorem dX5_standFor_41 : decode cX5_standFor 41 = .ok (.iload_n 2, 1) := by decide +kernel
theorem dX5_standFor_42 : decode cX5_standFor 42 = .ok (.invokevirtual 191, 3) := by decide +kernel
theorem dX5_standFor_45 : decode cX5_standFor 45 = .ok (.istore 6, 2) := by decide +kernel
theorem dX5_standFor_47 : decode cX5_standFor 47 = .ok (.iload 6, 2) := by decide +kernel
theorem dX5_standFor_49 : decode cX5_standFor 49 = .ok (.iload 4, 2) := by decide +kernel
theorem dX5_standFor_51 : decode cX5_standFor 51 = .ok (.if_icmp .le 8, 3) := by decide +kernel
theorem dX5_standFor_54 : decode cX5_standFor 54 = .ok (.iload 5, 2) := by decide +kernel
theorem dX5_standFor_56 : decode cX5_standFor 56 = .ok (.goto 4, 3) := by decide +kernel
theorem dX5_standFor_59 : decode cX5_standFor 59 = .ok (.iload_n 3, 1) := by decide +kernel
theorem dX5_standFor_60 : decode cX5_standFor 60 = .ok (.istore_n 3, 1) := by decide +kernel
theorem dX5_standFor_61 : decode cX5_standFor 61 = .ok (.iload 4, 2) := by decide +kernel
theorem dX5_standFor_63 : decode cX5_standFor 63 = .ok (.iload 6, 2) := by decide +kernel
theorem dX5_standFor_65 : decode cX5_standFor 65 = .ok (.invokestatic 122, 3) := by decide +kernel
theorem dX5_standFor_68 : decode cX5_standFor 68 = .ok (.istore 4, 2) := by decide +kernel
theorem dX5_standFor_70 : decode cX5_standFor 70 = .ok (.iinc 5 1, 3) := by decide +kernel
theorem dX5_standFor_73 : decode cX5_standFor 73 = .ok (.goto (-43), 3) := by decide +kernel
theorem dX5_standFor_76 : decode cX5_standFor 76 = .ok (.iload_n 3, 1) := by decide +kernel
theorem dX5_standFor_77 : decode cX5_standFor 77 = .ok (.ireturn, 1) := by decide +kernel
theorem dX5_stands_0 : decode cX5_stands 0 = .ok (.aload_n 0, 1) := by decide +kernel
theorem dX5_stands_1 : decode cX5_stands 1 = .ok (.getfield 9, 3) := by decide +kernel
theorem dX5_stands_4 : decode cX5_stands 4 = .ok (.bipush 17, 2) := by decide +kernel
theorem dX5_stands_6 : decode cX5_stands 6 = .ok (.iload_n 1, 1) := by decide +kernel
theorem dX5_stands_7 : decode cX5_stands 7 = .ok (.iadd, 1) := by decide +kernel
theorem dX5_stands_8 : decode cX5_stands 8 = .ok (.iaload, 1) := by decide +kernel
theorem dX5_stands_9 : decode cX5_stands 9 = .ok (.istore_n 3, 1) := by decide +kernel
theorem dX5_stands_10 : decode cX5_stands 10 = .ok (.iload_n 2, 1) := by decide +kernel
theorem dX5_stands_11 : decode cX5_stands 11 = .ok (.ifCond .ge 7, 3) := by decide +kernel
theorem dX5_stands_14 : decode cX5_stands 14 = .ok (.iconst (-1), 1) := by decide +kernel
theorem dX5_stands_15 : decode cX5_stands 15 = .ok (.goto 8, 3) := by decide +kernel
theorem dX5_stands_18 : decode cX5_stands 18 = .ok (.aload_n 0, 1) := by decide +kernel
theorem dX5_stands_19 : decode cX5_stands 19 = .ok (.iload_n 2, 1) := by decide +kernel
theorem dX5_stands_20 : decode cX5_stands 20 = .ok (.invokevirtual 80, 3) := by decide +kernel
theorem dX5_stands_23 : decode cX5_stands 23 = .ok (.istore 4, 2) := by decide +kernel
theorem dX5_stands_25 : decode cX5_stands 25 = .ok (.iload 4, 2) := by decide +kernel
theorem dX5_stands_27 : decode cX5_stands 27 = .ok (.ifCond .lt 14, 3) := by decide +kernel
theorem dX5_stands_30 : decode cX5_stands 30 = .ok (.aload_n 0, 1) := by decide +kernel
theorem dX5_stands_31 : decode cX5_stands 31 = .ok (.getfield 9, 3) := by decide +kernel
theorem dX5_stands_34 : decode cX5_stands 34 = .ok (.bipush 17, 2) := by decide +kernel
theorem dX5_stands_36 : decode cX5_stands 36 = .ok (.iload 4, 2) := by decide +kernel
theorem dX5_stands_38 : decode cX5_stands 38 = .ok (.iadd, 1) := by decide +kernel
theorem dX5_stands_39 : decode cX5_stands 39 = .ok (.iconst (-1), 1) := by decide +kernel
theorem dX5_stands_40 : decode cX5_stands 40 = .ok (.iastore, 1) := by decide +kernel
theorem dX5_stands_41 : decode cX5_stands 41 = .ok (.aload_n 0, 1) := by decide +kernel
theorem dX5_stands_42 : decode cX5_stands 42 = .ok (.getfield 9, 3) := by decide +kernel
theorem dX5_stands_45 : decode cX5_stands 45 = .ok (.bipush 17, 2) := by decide +kernel
theorem dX5_stands_47 : decode cX5_stands 47 = .ok (.iload_n 1, 1) := by decide +kernel
theorem dX5_stands_48 : decode cX5_stands 48 = .ok (.iadd, 1) := by decide +kernel
theorem dX5_stands_49 : decode cX5_stands 49 = .ok (.iload_n 2, 1) := by decide +kernel
theorem dX5_stands_50 : decode cX5_stands 50 = .ok (.iastore, 1) := by decide +kernel
theorem dX5_stands_51 : decode cX5_stands 51 = .ok (.iload_n 3, 1) := by decide +kernel
theorem dX5_stands_52 : decode cX5_stands 52 = .ok (.ireturn, 1) := by decide +kernel
theorem dX5_status_0 : decode cX5_status 0 = .ok (.iload_n 1, 1) := by decide +kernel
theorem dX5_status_1 : decode cX5_status 1 = .ok (.iconst (-1), 1) := by decide +kernel
theorem dX5_status_2 : decode cX5_status 2 = .ok (.bipush 6, 2) := by decide +kernel
theorem dX5_status_4 : decode cX5_status 4 = .ok (.invokestatic 76, 3) := by decide +kernel
theorem dX5_status_7 : decode cX5_status 7 = .ok (.ifCond .eq 14, 3) := by decide +kernel
theorem dX5_status_10 : decode cX5_status 10 = .ok (.aload_n 0, 1) := by decide +kernel
theorem dX5_status_11 : decode cX5_status 11 = .ok (.getfield 19, 3) := by decide +kernel
theorem dX5_status_14 : decode cX5_status 14 = .ok (.iload_n 1, 1) := by decide +kernel
theorem dX5_status_15 : decode cX5_status 15 = .ok (.iconst 1, 1) := by decide +kernel
theorem dX5_status_16 : decode cX5_status 16 = .ok (.iadd, 1) := by decide +kernel
theorem dX5_status_17 : decode cX5_status 17 = .ok (.iaload, 1) := by decide +kernel
theorem dX5_status_18 : decode cX5_status 18 = .ok (.goto 9, 3) := by decide +kernel
theorem dX5_status_21 : decode cX5_status 21 = .ok (.aload_n 0, 1) := by decide +kernel
theorem dX5_status_22 : decode cX5_status 22 = .ok (.ldc 66, 2) := by decide +kernel
theorem dX5_status_24 : decode cX5_status 24 = .ok (.invokevirtual 72, 3) := by decide +kernel
theorem dX5_status_27 : decode cX5_status 27 = .ok (.ireturn, 1) := by decide +kernel
theorem dX5_sumOf_0 : decode cX5_sumOf 0 = .ok (.iconst 0, 1) := by decide +kernel
theorem dX5_sumOf_1 : decode cX5_sumOf 1 = .ok (.istore_n 2, 1) := by decide +kernel
theorem dX5_sumOf_2 : decode cX5_sumOf 2 = .ok (.iconst 0, 1) := by decide +kernel
theorem dX5_sumOf_3 : decode cX5_sumOf 3 = .ok (.istore_n 3, 1) := by decide +kernel
theorem dX5_sumOf_4 : decode cX5_sumOf 4 = .ok (.iload_n 3, 1) := by decide +kernel
theorem dX5_sumOf_5 : decode cX5_sumOf 5 = .ok (.aload_n 0, 1) := by decide +kernel
theorem dX5_sumOf_6 : decode cX5_sumOf 6 = .ok (.getfield 9, 3) := by decide +kernel
theorem dX5_sumOf_9 : decode cX5_sumOf 9 = .ok (.iconst 1, 1) := by decide +kernel
theorem dX5_sumOf_10 : decode cX5_sumOf 10 = .ok (.iaload, 1) := by decide +kernel
theorem dX5_sumOf_11 : decode cX5_sumOf 11 = .ok (.if_icmp .ge 18, 3) := by decide +kernel
theorem dX5_sumOf_14 : decode cX5_sumOf 14 = .ok (.iload_n 2, 1) := by decide +kernel
theorem dX5_sumOf_15 : decode cX5_sumOf 15 = .ok (.aload_n 0, 1) := by decide +kernel
theorem dX5_sumOf_16 : decode cX5_sumOf 16 = .ok (.iload_n 3, 1) := by decide +kernel
theorem dX5_sumOf_17 : decode cX5_sumOf 17 = .ok (.iload_n 1, 1) := by decide +kernel
theorem dX5_sumOf_18 : decode cX5_sumOf 18 = .ok (.invokevirtual 119, 3) := by decide +kernel
theorem dX5_sumOf_21 : decode cX5_sumOf 21 = .ok (.iadd, 1) := by decide +kernel
theorem dX5_sumOf_22 : decode cX5_sumOf 22 = .ok (.istore_n 2, 1) := by decide +kernel
theorem dX5_sumOf_23 : decode cX5_sumOf 23 = .ok (.iinc 3 1, 3) := by decide +kernel
theorem dX5_sumOf_26 : decode cX5_sumOf 26 = .ok (.goto (-22), 3) := by decide +kernel
theorem dX5_sumOf_29 : decode cX5_sumOf 29 = .ok (.iload_n 2, 1) := by decide +kernel
theorem dX5_sumOf_30 : decode cX5_sumOf 30 = .ok (.ireturn, 1) := by decide +kernel
theorem dX5_takesWord_0 : decode cX5_takesWord 0 = .ok (.aload_n 0, 1) := by decide +kernel
theorem dX5_takesWord_1 : decode cX5_takesWord 1 = .ok (.getfield 245, 3) := by decide +kernel
theorem dX5_takesWord_4 : decode cX5_takesWord 4 = .ok (.ifCond .ne 15, 3) := by decide +kernel
theorem dX5_takesWord_7 : decode cX5_takesWord 7 = .ok (.aload_n 0, 1) := by decide +kernel
theorem dX5_takesWord_8 : decode cX5_takesWord 8 = .ok (.aload_n 1, 1) := by decide +kernel
theorem dX5_takesWord_9 : decode cX5_takesWord 9 = .ok (.invokevirtual 259, 3) := by decide +kernel
theorem dX5_takesWord_12 : decode cX5_takesWord 12 = .ok (.ifCond .eq 7, 3) := by decide +kernel
theorem dX5_takesWord_15 : decode cX5_takesWord 15 = .ok (.iconst 1, 1) := by decide +kernel
theorem dX5_takesWord_16 : decode cX5_takesWord 16 = .ok (.goto 4, 3) := by decide +kernel
theorem dX5_takesWord_19 : decode cX5_takesWord 19 = .ok (.iconst 0, 1) := by decide +kernel
theorem dX5_takesWord_20 : decode cX5_takesWord 20 = .ok (.istore_n 2, 1) := by decide +kernel
theorem dX5_takesWord_21 : decode cX5_takesWord 21 = .ok (.iload_n 2, 1) := by decide +kernel
theorem dX5_takesWord_22 : decode cX5_takesWord 22 = .ok (.ifCond .eq 8, 3) := by decide +kernel
theorem dX5_takesWord_25 : decode cX5_takesWord 25 = .ok (.aload_n 0, 1) := by decide +kernel
theorem dX5_takesWord_26 : decode cX5_takesWord 26 = .ok (.iconst 1, 1) := by decide +kernel
theorem dX5_takesWord_27 : decode cX5_takesWord 27 = .ok (.invokevirtual 252, 3) := by decide +kernel
theorem dX5_takesWord_30 : decode cX5_takesWord 30 = .ok (.iload_n 2, 1) := by decide +kernel
theorem dX5_takesWord_31 : decode cX5_takesWord 31 = .ok (.ireturn, 1) := by decide +kernel
theorem dX5_tall_0 : decode cX5_tall 0 = .ok (.aload_n 0, 1) := by decide +kernel
theorem dX5_tall_1 : decode cX5_tall 1 = .ok (.iload_n 1, 1) := by decide +kernel
theorem dX5_tall_2 : decode cX5_tall 2 = .ok (.aload_n 0, 1) := by decide +kernel
theorem dX5_tall_3 : decode cX5_tall 3 = .ok (.iload_n 2, 1) := by decide +kernel
theorem dX5_tall_4 : decode cX5_tall 4 = .ok (.invokevirtual 87, 3) := by decide +kernel
theorem dX5_tall_7 : decode cX5_tall 7 = .ok (.invokevirtual 199, 3) := by decide +kernel
theorem dX5_tall_10 : decode cX5_tall 10 = .ok (.istore_n 3, 1) := by decide +kernel
theorem dX5_tall_11 : decode cX5_tall 11 = .ok (.iload_n 3, 1) := by decide +kernel
theorem dX5_tall_12 : decode cX5_tall 12 = .ok (.ifCond .eq 9, 3) := by decide +kernel
theorem dX5_tall_15 : decode cX5_tall 15 = .ok (.aload_n 0, 1) := by decide +kernel
theorem dX5_tall_16 : decode cX5_tall 16 = .ok (.iload_n 3, 1) := by decide +kernel
theorem dX5_tall_17 : decode cX5_tall 17 = .ok (.invokevirtual 72, 3) := by decide +kernel
theorem dX5_tall_20 : decode cX5_tall 20 = .ok (.ireturn, 1) := by decide +kernel
theorem dX5_tall_21 : decode cX5_tall 21 = .ok (.aload_n 0, 1) := by decide +kernel
theorem dX5_tall_22 : decode cX5_tall 22 = .ok (.iload_n 1, 1) := by decide +kernel
theorem dX5_tall_23 : decode cX5_tall 23 = .ok (.iload_n 2, 1) := by decide +kernel
theorem dX5_tall_24 : decode cX5_tall 24 = .ok (.invokevirtual 213, 3) := by decide +kernel
theorem dX5_tall_27 : decode cX5_tall 27 = .ok (.aload_n 0, 1) := by decide +kernel
theorem dX5_tall_28 : decode cX5_tall 28 = .ok (.aload_n 0, 1) := by decide +kernel
theorem dX5_tall_29 : decode cX5_tall 29 = .ok (.getfield 210, 3) := by decide +kernel
theorem dX5_tall_32 : decode cX5_tall 32 = .ok (.invokevirtual 181, 3) := by decide +kernel
theorem dX5_tall_35 : decode cX5_tall 35 = .ok (.ireturn, 1) := by decide +kernel
theorem dX5_tallFor_0 : decode cX5_tallFor 0 = .ok (.aload_n 0, 1) := by decide +kernel
theorem dX5_tallFor_1 : decode cX5_tallFor 1 = .ok (.iload_n 1, 1) := by decide +kernel
theorem dX5_tallFor_2 : decode cX5_tallFor 2 = .ok (.invokevirtual 87, 3) := by decide +kernel
theorem dX5_tallFor_5 : decode cX5_tallFor 5 = .ok (.ifCond .eq 21, 3) := by decide +kernel
theorem dX5_tallFor_8 : decode cX5_tallFor 8 = .ok (.iload_n 2, 1) := by decide +kernel
theorem dX5_tallFor_9 : decode cX5_tallFor 9 = .ok (.iconst 0, 1) := by decide +kernel
theorem dX5_tallFor_10 : decode cX5_tallFor 10 = .ok (.sipush 9999, 3) := by decide +kernel
theorem dX5_tallFor_13 : decode cX5_tallFor 13 = .ok (.invokestatic 76, 3) := by decide +kernel
theorem dX5_tallFor_16 : decode cX5_tallFor 16 = .ok (.ifCond .eq 10, 3) := by decide +kernel
theorem dX5_tallFor_19 : decode cX5_tallFor 19 = .ok (.iload_n 3, 1) := by decide +kernel
theorem dX5_tallFor_20 : decode cX5_tallFor 20 = .ok (.invokestatic 184, 3) := by decide +kernel
theorem dX5_tallFor_23 : decode cX5_tallFor 23 = .ok (.ifCond .ne 10, 3) := by decide +kernel
theorem dX5_tallFor_26 : decode cX5_tallFor 26 = .ok (.aload_n 0, 1) := by decide +kernel
theorem dX5_tallFor_27 : decode cX5_tallFor 27 = .ok (.ldc 66, 2) := by decide +kernel
theorem dX5_tallFor_29 : decode cX5_tallFor 29 = .ok (.invokevirtual 72, 3) := by decide +kernel
theorem dX5_tallFor_32 : decode cX5_tallFor 32 = .ok (.ireturn, 1) := by decide +kernel
theorem dX5_tallFor_33 : decode cX5_tallFor 33 = .ok (.iload_n 1, 1) := by decide +kernel
theorem dX5_tallFor_34 : decode cX5_tallFor 34 = .ok (.iconst 1, 1) := by decide +kernel
theorem dX5_tallFor_35 : decode cX5_tallFor 35 = .ok (.invokestatic 109, 3) := by decide +kernel
theorem dX5_tallFor_38 : decode cX5_tallFor 38 = .ok (.istore 4, 2) := by decide +kernel
theorem dX5_tallFor_40 : decode cX5_tallFor 40 = .ok (.aload_n 0, 1) := by decide +kernel
theorem dX5_tallFor_41 : decode cX5_tallFor 41 = .ok (.getfield 9, 3) := by decide +kernel
theorem dX5_tallFor_44 : decode cX5_tallFor 44 = .ok (.iload 4, 2) := by decide +kernel
theorem dX5_tallFor_46 : decode cX5_tallFor 46 = .ok (.iaload, 1) := by decide +kernel
theorem dX5_tallFor_47 : decode cX5_tallFor 47 = .ok (.istore 5, 2) := by decide +kernel
theorem dX5_tallFor_49 : decode cX5_tallFor 49 = .ok (.iconst (-1), 1) := by decide +kernel
theorem dX5_tallFor_50 : decode cX5_tallFor 50 = .ok (.istore 6, 2) := by decide +kernel
theorem dX5_tallFor_52 : decode cX5_tallFor 52 = .ok (.bipush 99, 2) := by decide +kernel
theorem dX5_tallFor_54 : decode cX5_tallFor 54 = .ok (.istore 7, 2) := by decide +kernel
theorem dX5_tallFor_56 : decode cX5_tallFor 56 = .ok (.iload 7, 2) := by decide +kernel
theorem dX5_tallFor_58 : decode cX5_tallFor 58 = .ok (.ifCond .lt 41, 3) := by decide +kernel
theorem dX5_tallFor_61 : decode cX5_tallFor 61 = .ok (.aload_n 0, 1) := by decide +kernel
theorem dX5_tallFor_62 : decode cX5_tallFor 62 = .ok (.getfield 9, 3) := by decide +kernel
theorem dX5_tallFor_65 : decode cX5_tallFor 65 = .ok (.iload 4, 2) := by decide +kernel
theorem dX5_tallFor_67 : decode cX5_tallFor 67 = .ok (.iload 7, 2) := by decide +kernel
theorem dX5_tallFor_69 : decode cX5_tallFor 69 = .ok (.iastore, 1) := by decide +kernel
theorem dX5_tallFor_70 : decode cX5_tallFor 70 = .ok (.aload_n 0, 1) := by decide +kernel
theorem dX5_tallFor_71 : decode cX5_tallFor 71 = .ok (.iload_n 1, 1) := by decide +kernel
theorem dX5_tallFor_72 : decode cX5_tallFor 72 = .ok (.iconst 3, 1) := by decide +kernel
theorem dX5_tallFor_73 : decode cX5_tallFor 73 = .ok (.invokestatic 109, 3) := by decide +kernel
theorem dX5_tallFor_76 : decode cX5_tallFor 76 = .ok (.iload_n 3, 1) := by decide +kernel
theorem dX5_tallFor_77 : decode cX5_tallFor 77 = .ok (.invokevirtual 178, 3) := by decide +kernel
theorem dX5_tallFor_80 : decode cX5_tallFor 80 = .ok (.iload_n 2, 1) := by decide +kernel
theorem dX5_tallFor_81 : decode cX5_tallFor 81 = .ok (.if_icmp .lt 8, 3) := by decide +kernel
theorem dX5_tallFor_84 : decode cX5_tallFor 84 = .ok (.iload 7, 2) := by decide +kernel
theorem dX5_tallFor_86 : decode cX5_tallFor 86 = .ok (.goto 5, 3) := by decide +kernel
theorem dX5_tallFor_89 : decode cX5_tallFor 89 = .ok (.iload 6, 2) := by decide +kernel
theorem dX5_tallFor_91 : decode cX5_tallFor 91 = .ok (.istore 6, 2) := by decide +kernel
theorem dX5_tallFor_93 : decode cX5_tallFor 93 = .ok (.iinc 7 (-1), 3) := by decide +kernel
theorem dX5_tallFor_96 : decode cX5_tallFor 96 = .ok (.goto (-40), 3) := by decide +kernel
theorem dX5_tallFor_99 : decode cX5_tallFor 99 = .ok (.aload_n 0, 1) := by decide +kernel
theorem dX5_tallFor_100 : decode cX5_tallFor 100 = .ok (.getfield 9, 3) := by decide +kernel
theorem dX5_tallFor_103 : decode cX5_tallFor 103 = .ok (.iload 4, 2) := by decide +kernel
theorem dX5_tallFor_105 : decode cX5_tallFor 105 = .ok (.iload 5, 2) := by decide +kernel
theorem dX5_tallFor_107 : decode cX5_tallFor 107 = .ok (.iastore, 1) := by decide +kernel
theorem dX5_tallFor_108 : decode cX5_tallFor 108 = .ok (.aload_n 0, 1) := by decide +kernel
theorem dX5_tallFor_109 : decode cX5_tallFor 109 = .ok (.iload 6, 2) := by decide +kernel
theorem dX5_tallFor_111 : decode cX5_tallFor 111 = .ok (.invokevirtual 181, 3) := by decide +kernel
theorem dX5_tallFor_114 : decode cX5_tallFor 114 = .ok (.ireturn, 1) := by decide +kernel
theorem dX5_tear_0 : decode cX5_tear 0 = .ok (.aload_n 0, 1) := by decide +kernel
theorem dX5_tear_1 : decode cX5_tear 1 = .ok (.getfield 319, 3) := by decide +kernel
theorem dX5_tear_4 : decode cX5_tear 4 = .ok (.ifCond .eq 7, 3) := by decide +kernel
theorem dX5_tear_7 : decode cX5_tear 7 = .ok (.iconst 1, 1) := by decide +kernel
theorem dX5_tear_8 : decode cX5_tear 8 = .ok (.goto 4, 3) := by decide +kernel
theorem dX5_tear_11 : decode cX5_tear 11 = .ok (.iconst 0, 1) := by decide +kernel
theorem dX5_tear_12 : decode cX5_tear 12 = .ok (.istore_n 1, 1) := by decide +kernel
theorem dX5_tear_13 : decode cX5_tear 13 = .ok (.aload_n 0, 1) := by decide +kernel
theorem dX5_tear_14 : decode cX5_tear 14 = .ok (.iconst 0, 1) := by decide +kernel
theorem dX5_tear_15 : decode cX5_tear 15 = .ok (.putfield 319, 3) := by decide +kernel
theorem dX5_tear_18 : decode cX5_tear 18 = .ok (.iload_n 1, 1) := by decide +kernel
theorem dX5_tear_19 : decode cX5_tear 19 = .ok (.ireturn, 1) := by decide +kernel
theorem dX5_text_0 : decode cX5_text 0 = .ok (.aload_n 0, 1) := by decide +kernel
theorem dX5_text_1 : decode cX5_text 1 = .ok (.iconst 0, 1) := by decide +kernel
theorem dX5_text_2 : decode cX5_text 2 = .ok (.putfield 223, 3) := by decide +kernel
theorem dX5_text_5 : decode cX5_text 5 = .ok (.aload_n 0, 1) := by decide +kernel
theorem dX5_text_6 : decode cX5_text 6 = .ok (.iconst 0, 1) := by decide +kernel
theorem dX5_text_7 : decode cX5_text 7 = .ok (.putfield 245, 3) := by decide +kernel
theorem dX5_text_10 : decode cX5_text 10 = .ok (.aload_n 0, 1) := by decide +kernel
theorem dX5_text_11 : decode cX5_text 11 = .ok (.iconst 0, 1) := by decide +kernel
theorem dX5_text_12 : decode cX5_text 12 = .ok (.putfield 256, 3) := by decide +kernel
theorem dX5_text_15 : decode cX5_text 15 = .ok (.aload_n 0, 1) := by decide +kernel
theorem dX5_text_16 : decode cX5_text 16 = .ok (.aload_n 0, 1) := by decide +kernel
theorem dX5_text_17 : decode cX5_text 17 = .ok (.getfield 9, 3) := by decide +kernel
theorem dX5_text_20 : decode cX5_text 20 = .ok (.iconst 1, 1) := by decide +kernel
theorem dX5_text_21 : decode cX5_text 21 = .ok (.iaload, 1) := by decide +kernel
theorem dX5_text_22 : decode cX5_text 22 = .ok (.putfield 266, 3) := by decide +kernel
theorem dX5_text_25 : decode cX5_text 25 = .ok (.aload_n 0, 1) := by decide +kernel
theorem dX5_text_26 : decode cX5_text 26 = .ok (.iconst 0, 1) := by decide +kernel
theorem dX5_text_27 : decode cX5_text 27 = .ok (.putfield 263, 3) := by decide +kernel
theorem dX5_text_30 : decode cX5_text 30 = .ok (.iconst 0, 1) := by decide +kernel
theorem dX5_text_31 : decode cX5_text 31 = .ok (.istore_n 1, 1) := by decide +kernel
theorem dX5_text_32 : decode cX5_text 32 = .ok (.iload_n 1, 1) := by decide +kernel
theorem dX5_text_33 : decode cX5_text 33 = .ok (.bipush 7, 2) := by decide +kernel
theorem dX5_text_35 : decode cX5_text 35 = .ok (.if_icmp .ge 37, 3) := by decide +kernel
theorem dX5_text_38 : decode cX5_text 38 = .ok (.aload_n 0, 1) := by decide +kernel
theorem dX5_text_39 : decode cX5_text 39 = .ok (.dup, 1) := by decide +kernel
theorem dX5_text_40 : decode cX5_text 40 = .ok (.getfield 263, 3) := by decide +kernel
theorem dX5_text_43 : decode cX5_text 43 = .ok (.aload_n 0, 1) := by decide +kernel
theorem dX5_text_44 : decode cX5_text 44 = .ok (.getfield 9, 3) := by decide +kernel
theorem dX5_text_47 : decode cX5_text 47 = .ok (.bipush 17, 2) := by decide +kernel
theorem dX5_text_49 : decode cX5_text 49 = .ok (.iload_n 1, 1) := by decide +kernel
theorem dX5_text_50 : decode cX5_text 50 = .ok (.iadd, 1) := by decide +kernel
theorem dX5_text_51 : decode cX5_text 51 = .ok (.iaload, 1) := by decide +kernel
theorem dX5_text_52 : decode cX5_text 52 = .ok (.ifCond .lt 9, 3) := by decide +kernel
theorem dX5_text_55 : decode cX5_text 55 = .ok (.iconst 1, 1) := by decide +kernel
theorem dX5_text_56 : decode cX5_text 56 = .ok (.iload_n 1, 1) := by decide +kernel
theorem dX5_text_57 : decode cX5_text 57 = .ok (.ishl, 1) := by decide +kernel
theorem dX5_text_58 : decode cX5_text 58 = .ok (.goto 4, 3) := by decide +kernel
theorem dX5_text_61 : decode cX5_text 61 = .ok (.iconst 0, 1) := by decide +kernel
theorem dX5_text_62 : decode cX5_text 62 = .ok (.ior, 1) := by decide +kernel
theorem dX5_text_63 : decode cX5_text 63 = .ok (.putfield 263, 3) := by decide +kernel
theorem dX5_text_66 : decode cX5_text 66 = .ok (.iinc 1 1, 3) := by decide +kernel
theorem dX5_text_69 : decode cX5_text 69 = .ok (.goto (-37), 3) := by decide +kernel
theorem dX5_text_72 : decode cX5_text 72 = .ok (.aload_n 0, 1) := by decide +kernel
theorem dX5_text_73 : decode cX5_text 73 = .ok (.invokevirtual 249, 3) := by decide +kernel
theorem dX5_text_76 : decode cX5_text 76 = .ok (.aload_n 0, 1) := by decide +kernel
theorem dX5_text_77 : decode cX5_text 77 = .ok (.invokevirtual 299, 3) := by decide +kernel
theorem dX5_text_80 : decode cX5_text 80 = .ok (.aload_n 0, 1) := by decide +kernel
theorem dX5_text_81 : decode cX5_text 81 = .ok (.getfield 245, 3) := by decide +kernel
theorem dX5_text_84 : decode cX5_text 84 = .ok (.ifCond .ne 37, 3) := by decide +kernel
theorem dX5_text_87 : decode cX5_text 87 = .ok (.aload_n 0, 1) := by decide +kernel
theorem dX5_text_88 : decode cX5_text 88 = .ok (.getfield 235, 3) := by decide +kernel
theorem dX5_text_91 : decode cX5_text 91 = .ok (.iconst 3, 1) := by decide +kernel
theorem dX5_text_92 : decode cX5_text 92 = .ok (.if_icmp .ne 29, 3) := by decide +kernel
theorem dX5_text_95 : decode cX5_text 95 = .ok (.aload_n 0, 1) := by decide +kernel
theorem dX5_text_96 : decode cX5_text 96 = .ok (.getfield 22, 3) := by decide +kernel
theorem dX5_text_99 : decode cX5_text 99 = .ok (.aload_n 0, 1) := by decide +kernel
theorem dX5_text_100 : decode cX5_text 100 = .ok (.getfield 226, 3) := by decide +kernel
theorem dX5_text_103 : decode cX5_text 103 = .ok (.iaload, 1) := by decide +kernel
theorem dX5_text_104 : decode cX5_text 104 = .ok (.bipush 59, 2) := by decide +kernel
theorem dX5_text_106 : decode cX5_text 106 = .ok (.if_icmp .ne 15, 3) := by decide +kernel
theorem dX5_text_109 : decode cX5_text 109 = .ok (.aload_n 0, 1) := by decide +kernel
theorem dX5_text_110 : decode cX5_text 110 = .ok (.iconst 1, 1) := by decide +kernel
theorem dX5_text_111 : decode cX5_text 111 = .ok (.invokevirtual 252, 3) := by decide +kernel
theorem dX5_text_114 : decode cX5_text 114 = .ok (.aload_n 0, 1) := by decide +kernel
theorem dX5_text_115 : decode cX5_text 115 = .ok (.invokevirtual 299, 3) := by decide +kernel
theorem dX5_text_118 : decode cX5_text 118 = .ok (.goto (-38), 3) := by decide +kernel
theorem dX5_text_121 : decode cX5_text 121 = .ok (.aload_n 0, 1) := by decide +kernel
theorem dX5_text_122 : decode cX5_text 122 = .ok (.aload_n 0, 1) := by decide +kernel
theorem dX5_text_123 : decode cX5_text 123 = .ok (.getfield 235, 3) := by decide +kernel
theorem dX5_text_126 : decode cX5_text 126 = .ok (.ifCond .ne 7, 3) := by decide +kernel
theorem dX5_text_129 : decode cX5_text 129 = .ok (.iconst 1, 1) := by decide +kernel
theorem dX5_text_130 : decode cX5_text 130 = .ok (.goto 4, 3) := by decide +kernel
theorem dX5_text_133 : decode cX5_text 133 = .ok (.iconst 0, 1) := by decide +kernel
theorem dX5_text_134 : decode cX5_text 134 = .ok (.invokevirtual 252, 3) := by decide +kernel
theorem dX5_text_137 : decode cX5_text 137 = .ok (.aload_n 0, 1) := by decide +kernel
theorem dX5_text_138 : decode cX5_text 138 = .ok (.iconst 0, 1) := by decide +kernel
theorem dX5_text_139 : decode cX5_text 139 = .ok (.putfield 220, 3) := by decide +kernel
theorem dX5_text_142 : decode cX5_text 142 = .ok (.aload_n 0, 1) := by decide +kernel
theorem dX5_text_143 : decode cX5_text 143 = .ok (.getfield 245, 3) := by decide +kernel
theorem dX5_text_146 : decode cX5_text 146 = .ok (.ifCond .eq 10, 3) := by decide +kernel
theorem dX5_text_149 : decode cX5_text 149 = .ok (.iconst (-1), 1) := by decide +kernel
theorem dX5_text_150 : decode cX5_text 150 = .ok (.aload_n 0, 1) := by decide +kernel
theorem dX5_text_151 : decode cX5_text 151 = .ok (.getfield 226, 3) := by decide +kernel
theorem dX5_text_154 : decode cX5_text 154 = .ok (.isub, 1) := by decide +kernel
theorem dX5_text_155 : decode cX5_text 155 = .ok (.ireturn, 1) := by decide +kernel
theorem dX5_text_156 : decode cX5_text 156 = .ok (.iconst 0, 1) := by decide +kernel
theorem dX5_text_157 : decode cX5_text 157 = .ok (.istore_n 1, 1) := by decide +kernel
theorem dX5_text_158 : decode cX5_text 158 = .ok (.iload_n 1, 1) := by decide +kernel
theorem dX5_text_159 : decode cX5_text 159 = .ok (.aload_n 0, 1) := by decide +kernel
theorem dX5_text_160 : decode cX5_text 160 = .ok (.getfield 256, 3) := by decide +kernel
theorem dX5_text_163 : decode cX5_text 163 = .ok (.if_icmp .ge 14, 3) := by decide +kernel
theorem dX5_text_166 : decode cX5_text 166 = .ok (.aload_n 0, 1) := by decide +kernel
theorem dX5_text_167 : decode cX5_text 167 = .ok (.iload_n 1, 1) := by decide +kernel
theorem dX5_text_168 : decode cX5_text 168 = .ok (.invokevirtual 302, 3) := by decide +kernel
theorem dX5_text_171 : decode cX5_text 171 = .ok (.iinc 1 1, 3) := by decide +kernel
theorem dX5_text_174 : decode cX5_text 174 = .ok (.goto (-16), 3) := by decide +kernel
theorem dX5_text_177 : decode cX5_text 177 = .ok (.aload_n 0, 1) := by decide +kernel
theorem dX5_text_178 : decode cX5_text 178 = .ok (.getfield 256, 3) := by decide +kernel
theorem dX5_text_181 : decode cX5_text 181 = .ok (.ireturn, 1) := by decide +kernel
theorem dX5_theirs_0 : decode cX5_theirs 0 = .ok (.iload_n 1, 1) := by decide +kernel
theorem dX5_theirs_1 : decode cX5_theirs 1 = .ok (.invokestatic 83, 3) := by decide +kernel
theorem dX5_theirs_4 : decode cX5_theirs 4 = .ok (.ifCond .eq 22, 3) := by decide +kernel
theorem dX5_theirs_7 : decode cX5_theirs 7 = .ok (.iload_n 2, 1) := by decide +kernel
theorem dX5_theirs_8 : decode cX5_theirs 8 = .ok (.iconst 1, 1) := by decide +kernel
theorem dX5_theirs_9 : decode cX5_theirs 9 = .ok (.iconst 2, 1) := by decide +kernel
theorem dX5_theirs_10 : decode cX5_theirs 10 = .ok (.invokestatic 76, 3) := by decide +kernel
theorem dX5_theirs_13 : decode cX5_theirs 13 = .ok (.ifCond .eq 13, 3) := by decide +kernel
theorem dX5_theirs_16 : decode cX5_theirs 16 = .ok (.iload_n 3, 1) := by decide +kernel
theorem dX5_theirs_17 : decode cX5_theirs 17 = .ok (.iconst 0, 1) := by decide +kernel
theorem dX5_theirs_18 : decode cX5_theirs 18 = .ok (.bipush 99, 2) := by decide +kernel
theorem dX5_theirs_20 : decode cX5_theirs 20 = .ok (.invokestatic 76, 3) := by decide +kernel
theorem dX5_theirs_23 : decode cX5_theirs 23 = .ok (.ifCond .ne 10, 3) := by decide +kernel
theorem dX5_theirs_26 : decode cX5_theirs 26 = .ok (.aload_n 0, 1) := by decide +kernel
theorem dX5_theirs_27 : decode cX5_theirs 27 = .ok (.ldc 66, 2) := by decide +kernel
theorem dX5_theirs_29 : decode cX5_theirs 29 = .ok (.invokevirtual 72, 3) := by decide +kernel
theorem dX5_theirs_32 : decode cX5_theirs 32 = .ok (.ireturn, 1) := by decide +kernel
theorem dX5_theirs_33 : decode cX5_theirs 33 = .ok (.aload_n 0, 1) := by decide +kernel
theorem dX5_theirs_34 : decode cX5_theirs 34 = .ok (.iload_n 2, 1) := by decide +kernel
theorem dX5_theirs_35 : decode cX5_theirs 35 = .ok (.iconst 1, 1) := by decide +kernel
theorem dX5_theirs_36 : decode cX5_theirs 36 = .ok (.if_icmp .ne 8, 3) := by decide +kernel
theorem dX5_theirs_39 : decode cX5_theirs 39 = .ok (.bipush 24, 2) := by decide +kernel
theorem dX5_theirs_41 : decode cX5_theirs 41 = .ok (.goto 5, 3) := by decide +kernel
theorem dX5_theirs_44 : decode cX5_theirs 44 = .ok (.bipush 31, 2) := by decide +kernel
theorem dX5_theirs_46 : decode cX5_theirs 46 = .ok (.iload_n 1, 1) := by decide +kernel
theorem dX5_theirs_47 : decode cX5_theirs 47 = .ok (.iadd, 1) := by decide +kernel
theorem dX5_theirs_48 : decode cX5_theirs 48 = .ok (.iload_n 3, 1) := by decide +kernel
theorem dX5_theirs_49 : decode cX5_theirs 49 = .ok (.invokevirtual 97, 3) := by decide +kernel
theorem dX5_theirs_52 : decode cX5_theirs 52 = .ok (.ireturn, 1) := by decide +kernel
theorem dX5_thrownTo_0 : decode cX5_thrownTo 0 = .ok (.aload_n 0, 1) := by decide +kernel
theorem dX5_thrownTo_1 : decode cX5_thrownTo 1 = .ok (.iload_n 2, 1) := by decide +kernel
theorem dX5_thrownTo_2 : decode cX5_thrownTo 2 = .ok (.invokevirtual 140, 3) := by decide +kernel
theorem dX5_thrownTo_5 : decode cX5_thrownTo 5 = .ok (.istore_n 3, 1) := by decide +kernel
theorem dX5_thrownTo_6 : decode cX5_thrownTo 6 = .ok (.iload_n 3, 1) := by decide +kernel
theorem dX5_thrownTo_7 : decode cX5_thrownTo 7 = .ok (.ifCond .eq 19, 3) := by decide +kernel
theorem dX5_thrownTo_10 : decode cX5_thrownTo 10 = .ok (.aload_n 0, 1) := by decide +kernel
theorem dX5_thrownTo_11 : decode cX5_thrownTo 11 = .ok (.getfield 9, 3) := by decide +kernel
theorem dX5_thrownTo_14 : decode cX5_thrownTo 14 = .ok (.iconst 3, 1) := by decide +kernel
theorem dX5_thrownTo_15 : decode cX5_thrownTo 15 = .ok (.iaload, 1) := by decide +kernel
theorem dX5_thrownTo_16 : decode cX5_thrownTo 16 = .ok (.aload_n 0, 1) := by decide +kernel
theorem dX5_thrownTo_17 : decode cX5_thrownTo 17 = .ok (.iload_n 1, 1) := by decide +kernel
theorem dX5_thrownTo_18 : decode cX5_thrownTo 18 = .ok (.iload_n 2, 1) := by decide +kernel
theorem dX5_thrownTo_19 : decode cX5_thrownTo 19 = .ok (.invokevirtual 137, 3) := by decide +kernel
theorem dX5_thrownTo_22 : decode cX5_thrownTo 22 = .ok (.iadd, 1) := by decide +kernel
theorem dX5_thrownTo_23 : decode cX5_thrownTo 23 = .ok (.goto 11, 3) := by decide +kernel
theorem dX5_thrownTo_26 : decode cX5_thrownTo 26 = .ok (.aload_n 0, 1) := by decide +kernel
theorem dX5_thrownTo_27 : decode cX5_thrownTo 27 = .ok (.getfield 9, 3) := by decide +kernel
theorem dX5_thrownTo_30 : decode cX5_thrownTo 30 = .ok (.iconst 3, 1) := by decide +kernel
theorem dX5_thrownTo_31 : decode cX5_thrownTo 31 = .ok (.iaload, 1) := by decide +kernel
theorem dX5_thrownTo_32 : decode cX5_thrownTo 32 = .ok (.iconst 3, 1) := by decide +kernel
theorem dX5_thrownTo_33 : decode cX5_thrownTo 33 = .ok (.isub, 1) := by decide +kernel
theorem dX5_thrownTo_34 : decode cX5_thrownTo 34 = .ok (.istore 4, 2) := by decide +kernel
theorem dX5_thrownTo_36 : decode cX5_thrownTo 36 = .ok (.aload_n 0, 1) := by decide +kernel
theorem dX5_thrownTo_37 : decode cX5_thrownTo 37 = .ok (.getfield 9, 3) := by decide +kernel
theorem dX5_thrownTo_40 : decode cX5_thrownTo 40 = .ok (.iconst 3, 1) := by decide +kernel
theorem dX5_thrownTo_41 : decode cX5_thrownTo 41 = .ok (.iconst 0, 1) := by decide +kernel
theorem dX5_thrownTo_42 : decode cX5_thrownTo 42 = .ok (.ldc 143, 2) := by decide +kernel
theorem dX5_thrownTo_44 : decode cX5_thrownTo 44 = .ok (.iload 4, 2) := by decide +kernel
theorem dX5_thrownTo_46 : decode cX5_thrownTo 46 = .ok (.invokestatic 144, 3) := by decide +kernel
theorem dX5_thrownTo_49 : decode cX5_thrownTo 49 = .ok (.invokestatic 122, 3) := by decide +kernel
theorem dX5_thrownTo_52 : decode cX5_thrownTo 52 = .ok (.iastore, 1) := by decide +kernel
theorem dX5_thrownTo_53 : decode cX5_thrownTo 53 = .ok (.iload_n 1, 1) := by decide +kernel
theorem dX5_thrownTo_54 : decode cX5_thrownTo 54 = .ok (.iload_n 3, 1) := by decide +kernel
theorem dX5_thrownTo_55 : decode cX5_thrownTo 55 = .ok (.ifCond .eq 7, 3) := by decide +kernel
theorem dX5_thrownTo_58 : decode cX5_thrownTo 58 = .ok (.iconst 3, 1) := by decide +kernel
theorem dX5_thrownTo_59 : decode cX5_thrownTo 59 = .ok (.goto 4, 3) := by decide +kernel
theorem dX5_thrownTo_62 : decode cX5_thrownTo 62 = .ok (.iconst 4, 1) := by decide +kernel
theorem dX5_thrownTo_63 : decode cX5_thrownTo 63 = .ok (.invokestatic 109, 3) := by decide +kernel
theorem dX5_thrownTo_66 : decode cX5_thrownTo 66 = .ok (.istore 5, 2) := by decide +kernel
theorem dX5_thrownTo_68 : decode cX5_thrownTo 68 = .ok (.aload_n 0, 1) := by decide +kernel
theorem dX5_thrownTo_69 : decode cX5_thrownTo 69 = .ok (.getfield 9, 3) := by decide +kernel
theorem dX5_thrownTo_72 : decode cX5_thrownTo 72 = .ok (.iload 5, 2) := by decide +kernel
theorem dX5_thrownTo_74 : decode cX5_thrownTo 74 = .ok (.sipush 9999, 3) := by decide +kernel
theorem dX5_thrownTo_77 : decode cX5_thrownTo 77 = .ok (.aload_n 0, 1) := by decide +kernel
theorem dX5_thrownTo_78 : decode cX5_thrownTo 78 = .ok (.getfield 9, 3) := by decide +kernel
theorem dX5_thrownTo_81 : decode cX5_thrownTo 81 = .ok (.iload 5, 2) := by decide +kernel
theorem dX5_thrownTo_83 : decode cX5_thrownTo 83 = .ok (.iaload, 1) := by decide +kernel
theorem dX5_thrownTo_84 : decode cX5_thrownTo 84 = .ok (.iconst 1, 1) := by decide +kernel
theorem dX5_thrownTo_85 : decode cX5_thrownTo 85 = .ok (.iadd, 1) := by decide +kernel
theorem dX5_thrownTo_86 : decode cX5_thrownTo 86 = .ok (.invokestatic 144, 3) := by decide +kernel
theorem dX5_thrownTo_89 : decode cX5_thrownTo 89 = .ok (.iastore, 1) := by decide +kernel
theorem dX5_thrownTo_90 : decode cX5_thrownTo 90 = .ok (.aload_n 0, 1) := by decide +kernel
theorem dX5_thrownTo_91 : decode cX5_thrownTo 91 = .ok (.getfield 9, 3) := by decide +kernel
theorem dX5_thrownTo_94 : decode cX5_thrownTo 94 = .ok (.iload_n 1, 1) := by decide +kernel
theorem dX5_thrownTo_95 : decode cX5_thrownTo 95 = .ok (.iconst 2, 1) := by decide +kernel
theorem dX5_thrownTo_96 : decode cX5_thrownTo 96 = .ok (.invokestatic 109, 3) := by decide +kernel
theorem dX5_thrownTo_99 : decode cX5_thrownTo 99 = .ok (.bipush 99, 2) := by decide +kernel
theorem dX5_thrownTo_101 : decode cX5_thrownTo 101 = .ok (.aload_n 0, 1) := by decide +kernel
theorem dX5_thrownTo_102 : decode cX5_thrownTo 102 = .ok (.iload_n 1, 1) := by decide +kernel
theorem dX5_thrownTo_103 : decode cX5_thrownTo 103 = .ok (.iconst 2, 1) := by decide +kernel
theorem dX5_thrownTo_104 : decode cX5_thrownTo 104 = .ok (.invokevirtual 119, 3) := by decide +kernel
theorem dX5_thrownTo_107 : decode cX5_thrownTo 107 = .ok (.aload_n 0, 1) := by decide +kernel
theorem dX5_thrownTo_108 : decode cX5_thrownTo 108 = .ok (.iload_n 1, 1) := by decide +kernel
theorem dX5_thrownTo_109 : decode cX5_thrownTo 109 = .ok (.invokevirtual 130, 3) := by decide +kernel
theorem dX5_thrownTo_112 : decode cX5_thrownTo 112 = .ok (.iadd, 1) := by decide +kernel
theorem dX5_thrownTo_113 : decode cX5_thrownTo 113 = .ok (.invokestatic 144, 3) := by decide +kernel
theorem dX5_thrownTo_116 : decode cX5_thrownTo 116 = .ok (.iastore, 1) := by decide +kernel
theorem dX5_thrownTo_117 : decode cX5_thrownTo 117 = .ok (.return_, 1) := by decide +kernel
theorem dX5_throwsGo_0 : decode cX5_throwsGo 0 = .ok (.iconst 0, 1) := by decide +kernel
theorem dX5_throwsGo_1 : decode cX5_throwsGo 1 = .ok (.istore_n 2, 1) := by decide +kernel
theorem dX5_throwsGo_2 : decode cX5_throwsGo 2 = .ok (.iload_n 2, 1) := by decide +kernel
theorem dX5_throwsGo_3 : decode cX5_throwsGo 3 = .ok (.iload_n 1, 1) := by decide +kernel
theorem dX5_throwsGo_4 : decode cX5_throwsGo 4 = .ok (.if_icmp .ge 13, 3) := by decide +kernel
theorem dX5_throwsGo_7 : decode cX5_throwsGo 7 = .ok (.aload_n 0, 1) := by decide +kernel
theorem dX5_throwsGo_8 : decode cX5_throwsGo 8 = .ok (.invokevirtual 155, 3) := by decide +kernel
theorem dX5_throwsGo_11 : decode cX5_throwsGo 11 = .ok (.iinc 2 1, 3) := by decide +kernel
theorem dX5_throwsGo_14 : decode cX5_throwsGo 14 = .ok (.goto (-12), 3) := by decide +kernel
theorem dX5_throwsGo_17 : decode cX5_throwsGo 17 = .ok (.return_, 1) := by decide +kernel
theorem dX5_tires_0 : decode cX5_tires 0 = .ok (.aload_n 0, 1) := by decide +kernel
theorem dX5_tires_1 : decode cX5_tires 1 = .ok (.iload_n 1, 1) := by decide +kernel
theorem dX5_tires_2 : decode cX5_tires 2 = .ok (.iconst 0, 1) := by decide +kernel
theorem dX5_tires_3 : decode cX5_tires 3 = .ok (.invokevirtual 119, 3) := by decide +kernel
theorem dX5_tires_6 : decode cX5_tires 6 = .ok (.tableswitch 54 1 6 #[38, 43, 43, 38, 45, 41], 38) := by decide +kernel
theorem dX5_tires_44 : decode cX5_tires 44 = .ok (.bipush 8, 2) := by decide +kernel
theorem dX5_tires_46 : decode cX5_tires 46 = .ok (.ireturn, 1) := by decide +kernel
theorem dX5_tires_47 : decode cX5_tires 47 = .ok (.iconst 2, 1) := by decide +kernel
theorem dX5_tires_48 : decode cX5_tires 48 = .ok (.ireturn, 1) := by decide +kernel
theorem dX5_tires_49 : decode cX5_tires 49 = .ok (.iconst 4, 1) := by decide +kernel
theorem dX5_tires_50 : decode cX5_tires 50 = .ok (.ireturn, 1) := by decide +kernel
theorem dX5_tires_51 : decode cX5_tires 51 = .ok (.iconst 5, 1) := by decide +kernel
theorem dX5_tires_52 : decode cX5_tires 52 = .ok (.aload_n 0, 1) := by decide +kernel
theorem dX5_tires_53 : decode cX5_tires 53 = .ok (.getfield 9, 3) := by decide +kernel
theorem dX5_tires_56 : decode cX5_tires 56 = .ok (.iconst 5, 1) := by decide +kernel
theorem dX5_tires_57 : decode cX5_tires 57 = .ok (.iaload, 1) := by decide +kernel
theorem dX5_tires_58 : decode cX5_tires 58 = .ok (.iadd, 1) := by decide +kernel
theorem dX5_tires_59 : decode cX5_tires 59 = .ok (.ireturn, 1) := by decide +kernel
theorem dX5_tires_60 : decode cX5_tires 60 = .ok (.iconst 5, 1) := by decide +kernel
theorem dX5_tires_61 : decode cX5_tires 61 = .ok (.ireturn, 1) := by decide +kernel
theorem dX5_token_0 : decode cX5_token 0 = .ok (.aload_n 0, 1) := by decide +kernel
theorem dX5_token_1 : decode cX5_token 1 = .ok (.aload_n 0, 1) := by decide +kernel
theorem dX5_token_2 : decode cX5_token 2 = .ok (.getfield 223, 3) := by decide +kernel
theorem dX5_token_5 : decode cX5_token 5 = .ok (.putfield 226, 3) := by decide +kernel
theorem dX5_token_8 : decode cX5_token 8 = .ok (.aload_n 0, 1) := by decide +kernel
theorem dX5_token_9 : decode cX5_token 9 = .ok (.aload_n 0, 1) := by decide +kernel
theorem dX5_token_10 : decode cX5_token 10 = .ok (.getfield 226, 3) := by decide +kernel
theorem dX5_token_13 : decode cX5_token 13 = .ok (.invokevirtual 229, 3) := by decide +kernel
theorem dX5_token_16 : decode cX5_token 16 = .ok (.bipush 32, 2) := by decide +kernel
theorem dX5_token_18 : decode cX5_token 18 = .ok (.if_icmp .ne 16, 3) := by decide +kernel
theorem dX5_token_21 : decode cX5_token 21 = .ok (.aload_n 0, 1) := by decide +kernel
theorem dX5_token_22 : decode cX5_token 22 = .ok (.dup, 1) := by decide +kernel
theorem dX5_token_23 : decode cX5_token 23 = .ok (.getfield 226, 3) := by decide +kernel
theorem dX5_token_26 : decode cX5_token 26 = .ok (.iconst 1, 1) := by decide +kernel
theorem dX5_token_27 : decode cX5_token 27 = .ok (.iadd, 1) := by decide +kernel
theorem dX5_token_28 : decode cX5_token 28 = .ok (.putfield 226, 3) := by decide +kernel
theorem dX5_token_31 : decode cX5_token 31 = .ok (.goto (-23), 3) := by decide +kernel
theorem dX5_token_34 : decode cX5_token 34 = .ok (.aload_n 0, 1) := by decide +kernel
theorem dX5_token_35 : decode cX5_token 35 = .ok (.aload_n 0, 1) := by decide +kernel
theorem dX5_token_36 : decode cX5_token 36 = .ok (.getfield 226, 3) := by decide +kernel
theorem dX5_token_39 : decode cX5_token 39 = .ok (.invokevirtual 229, 3) := by decide +kernel
theorem dX5_token_42 : decode cX5_token 42 = .ok (.istore_n 1, 1) := by decide +kernel
theorem dX5_token_43 : decode cX5_token 43 = .ok (.aload_n 0, 1) := by decide +kernel
theorem dX5_token_44 : decode cX5_token 44 = .ok (.aload_n 0, 1) := by decide +kernel
theorem dX5_token_45 : decode cX5_token 45 = .ok (.getfield 226, 3) := by decide +kernel
theorem dX5_token_48 : decode cX5_token 48 = .ok (.putfield 223, 3) := by decide +kernel
theorem dX5_token_51 : decode cX5_token 51 = .ok (.aload_n 0, 1) := by decide +kernel
theorem dX5_token_52 : decode cX5_token 52 = .ok (.iconst 0, 1) := by decide +kernel
theorem dX5_token_53 : decode cX5_token 53 = .ok (.putfield 232, 3) := by decide +kernel
theorem dX5_token_56 : decode cX5_token 56 = .ok (.iload_n 1, 1) := by decide +kernel
theorem dX5_token_57 : decode cX5_token 57 = .ok (.ifCond .ge 11, 3) := by decide +kernel
theorem dX5_token_60 : decode cX5_token 60 = .ok (.aload_n 0, 1) := by decide +kernel
theorem dX5_token_61 : decode cX5_token 61 = .ok (.iconst 0, 1) := by decide +kernel
theorem dX5_token_62 : decode cX5_token 62 = .ok (.putfield 235, 3) := by decide +kernel
theorem dX5_token_65 : decode cX5_token 65 = .ok (.goto 141, 3) := by decide +kernel
theorem dX5_token_68 : decode cX5_token 68 = .ok (.iload_n 1, 1) := by decide +kernel
theorem dX5_token_69 : decode cX5_token 69 = .ok (.bipush 97, 2) := by decide +kernel
theorem dX5_token_71 : decode cX5_token 71 = .ok (.bipush 122, 2) := by decide +kernel
theorem dX5_token_73 : decode cX5_token 73 = .ok (.invokestatic 76, 3) := by decide +kernel
theorem dX5_token_76 : decode cX5_token 76 = .ok (.ifCond .eq 39, 3) := by decide +kernel
theorem dX5_token_79 : decode cX5_token 79 = .ok (.aload_n 0, 1) := by decide +kernel
theorem dX5_token_80 : decode cX5_token 80 = .ok (.iconst 1, 1) := by decide +kernel
theorem dX5_token_81 : decode cX5_token 81 = .ok (.putfield 235, 3) := by decide +kernel
theorem dX5_token_84 : decode cX5_token 84 = .ok (.aload_n 0, 1) := by decide +kernel
theorem dX5_token_85 : decode cX5_token 85 = .ok (.aload_n 0, 1) := by decide +kernel
theorem dX5_token_86 : decode cX5_token 86 = .ok (.getfield 223, 3) := by decide +kernel
theorem dX5_token_89 : decode cX5_token 89 = .ok (.invokevirtual 229, 3) := by decide +kernel
theorem dX5_token_92 : decode cX5_token 92 = .ok (.bipush 97, 2) := by decide +kernel
theorem dX5_token_94 : decode cX5_token 94 = .ok (.bipush 122, 2) := by decide +kernel
theorem dX5_token_96 : decode cX5_token 96 = .ok (.invokestatic 76, 3) := by decide +kernel
theorem dX5_token_99 : decode cX5_token 99 = .ok (.ifCond .eq 107, 3) := by decide +kernel
theorem dX5_token_102 : decode cX5_token 102 = .ok (.aload_n 0, 1) := by decide +kernel
theorem dX5_token_103 : decode cX5_token 103 = .ok (.dup, 1) := by decide +kernel
theorem dX5_token_104 : decode cX5_token 104 = .ok (.getfield 223, 3) := by decide +kernel
theorem dX5_token_107 : decode cX5_token 107 = .ok (.iconst 1, 1) := by decide +kernel
theorem dX5_token_108 : decode cX5_token 108 = .ok (.iadd, 1) := by decide +kernel
theorem dX5_token_109 : decode cX5_token 109 = .ok (.putfield 223, 3) := by decide +kernel
theorem dX5_token_112 : decode cX5_token 112 = .ok (.goto (-28), 3) := by decide +kernel
theorem dX5_token_115 : decode cX5_token 115 = .ok (.iload_n 1, 1) := by decide +kernel
theorem dX5_token_116 : decode cX5_token 116 = .ok (.bipush 48, 2) := by decide +kernel
theorem dX5_token_118 : decode cX5_token 118 = .ok (.bipush 57, 2) := by decide +kernel
theorem dX5_token_120 : decode cX5_token 120 = .ok (.invokestatic 76, 3) := by decide +kernel
theorem dX5_token_123 : decode cX5_token 123 = .ok (.ifCond .eq 68, 3) := by decide +kernel
theorem dX5_token_126 : decode cX5_token 126 = .ok (.aload_n 0, 1) := by decide +kernel
theorem dX5_token_127 : decode cX5_token 127 = .ok (.iconst 2, 1) := by decide +kernel
theorem dX5_token_128 : decode cX5_token 128 = .ok (.putfield 235, 3) := by decide +kernel
theorem dX5_token_131 : decode cX5_token 131 = .ok (.aload_n 0, 1) := by decide +kernel
theorem dX5_token_132 : decode cX5_token 132 = .ok (.aload_n 0, 1) := by decide +kernel
theorem dX5_token_133 : decode cX5_token 133 = .ok (.getfield 223, 3) := by decide +kernel
theorem dX5_token_136 : decode cX5_token 136 = .ok (.invokevirtual 229, 3) := by decide +kernel
theorem dX5_token_139 : decode cX5_token 139 = .ok (.bipush 48, 2) := by decide +kernel
theorem dX5_token_141 : decode cX5_token 141 = .ok (.bipush 57, 2) := by decide +kernel
theorem dX5_token_143 : decode cX5_token 143 = .ok (.invokestatic 76, 3) := by decide +kernel
theorem dX5_token_146 : decode cX5_token 146 = .ok (.ifCond .eq 60, 3) := by decide +kernel
theorem dX5_token_149 : decode cX5_token 149 = .ok (.aload_n 0, 1) := by decide +kernel
theorem dX5_token_150 : decode cX5_token 150 = .ok (.sipush 1000, 3) := by decide +kernel
theorem dX5_token_153 : decode cX5_token 153 = .ok (.bipush 10, 2) := by decide +kernel
theorem dX5_token_155 : decode cX5_token 155 = .ok (.aload_n 0, 1) := by decide +kernel
theorem dX5_token_156 : decode cX5_token 156 = .ok (.getfield 232, 3) := by decide +kernel
theorem dX5_token_159 : decode cX5_token 159 = .ok (.imul, 1) := by decide +kernel
theorem dX5_token_160 : decode cX5_token 160 = .ok (.aload_n 0, 1) := by decide +kernel
theorem dX5_token_161 : decode cX5_token 161 = .ok (.aload_n 0, 1) := by decide +kernel
theorem dX5_token_162 : decode cX5_token 162 = .ok (.getfield 223, 3) := by decide +kernel
theorem dX5_token_165 : decode cX5_token 165 = .ok (.invokevirtual 229, 3) := by decide +kernel
theorem dX5_token_168 : decode cX5_token 168 = .ok (.iadd, 1) := by decide +kernel
theorem dX5_token_169 : decode cX5_token 169 = .ok (.bipush 48, 2) := by decide +kernel
theorem dX5_token_171 : decode cX5_token 171 = .ok (.isub, 1) := by decide +kernel
theorem dX5_token_172 : decode cX5_token 172 = .ok (.invokestatic 144, 3) := by decide +kernel
theorem dX5_token_175 : decode cX5_token 175 = .ok (.putfield 232, 3) := by decide +kernel
theorem dX5_token_178 : decode cX5_token 178 = .ok (.aload_n 0, 1) := by decide +kernel
theorem dX5_token_179 : decode cX5_token 179 = .ok (.dup, 1) := by decide +kernel
theorem dX5_token_180 : decode cX5_token 180 = .ok (.getfield 223, 3) := by decide +kernel
theorem dX5_token_183 : decode cX5_token 183 = .ok (.iconst 1, 1) := by decide +kernel
theorem dX5_token_184 : decode cX5_token 184 = .ok (.iadd, 1) := by decide +kernel
theorem dX5_token_185 : decode cX5_token 185 = .ok (.putfield 223, 3) := by decide +kernel
theorem dX5_token_188 : decode cX5_token 188 = .ok (.goto (-57), 3) := by decide +kernel
theorem dX5_token_191 : decode cX5_token 191 = .ok (.aload_n 0, 1) := by decide +kernel
theorem dX5_token_192 : decode cX5_token 192 = .ok (.iconst 3, 1) := by decide +kernel
theorem dX5_token_193 : decode cX5_token 193 = .ok (.putfield 235, 3) := by decide +kernel
theorem dX5_token_196 : decode cX5_token 196 = .ok (.aload_n 0, 1) := by decide +kernel
theorem dX5_token_197 : decode cX5_token 197 = .ok (.dup, 1) := by decide +kernel
theorem dX5_token_198 : decode cX5_token 198 = .ok (.getfield 223, 3) := by decide +kernel
theorem dX5_token_201 : decode cX5_token 201 = .ok (.iconst 1, 1) := by decide +kernel
theorem dX5_token_202 : decode cX5_token 202 = .ok (.iadd, 1) := by decide +kernel
theorem dX5_token_203 : decode cX5_token 203 = .ok (.putfield 223, 3) := by decide +kernel
theorem dX5_token_206 : decode cX5_token 206 = .ok (.return_, 1) := by decide +kernel
theorem dX5_undo_0 : decode cX5_undo 0 = .ok (.aload_n 0, 1) := by decide +kernel
theorem dX5_undo_1 : decode cX5_undo 1 = .ok (.getfield 319, 3) := by decide +kernel
theorem dX5_undo_4 : decode cX5_undo 4 = .ok (.ifCond .ne 10, 3) := by decide +kernel
theorem dX5_undo_7 : decode cX5_undo 7 = .ok (.aload_n 0, 1) := by decide +kernel
theorem dX5_undo_8 : decode cX5_undo 8 = .ok (.ldc 71, 2) := by decide +kernel
theorem dX5_undo_10 : decode cX5_undo 10 = .ok (.invokevirtual 72, 3) := by decide +kernel
theorem dX5_undo_13 : decode cX5_undo 13 = .ok (.ireturn, 1) := by decide +kernel
theorem dX5_undo_14 : decode cX5_undo 14 = .ok (.aload_n 0, 1) := by decide +kernel
theorem dX5_undo_15 : decode cX5_undo 15 = .ok (.getfield 13, 3) := by decide +kernel
theorem dX5_undo_18 : decode cX5_undo 18 = .ok (.aload_n 0, 1) := by decide +kernel
theorem dX5_undo_19 : decode cX5_undo 19 = .ok (.getfield 9, 3) := by decide +kernel
theorem dX5_undo_22 : decode cX5_undo 22 = .ok (.invokestatic 67, 3) := by decide +kernel
theorem dX5_undo_25 : decode cX5_undo 25 = .ok (.aload_n 0, 1) := by decide +kernel
theorem dX5_undo_26 : decode cX5_undo 26 = .ok (.getfield 9, 3) := by decide +kernel
theorem dX5_undo_29 : decode cX5_undo 29 = .ok (.iconst 0, 1) := by decide +kernel
theorem dX5_undo_30 : decode cX5_undo 30 = .ok (.iaload, 1) := by decide +kernel
theorem dX5_undo_31 : decode cX5_undo 31 = .ok (.ireturn, 1) := by decide +kernel
theorem dX5_when_0 : decode cX5_when 0 = .ok (.aload_n 0, 1) := by decide +kernel
theorem dX5_when_1 : decode cX5_when 1 = .ok (.iload_n 1, 1) := by decide +kernel
theorem dX5_when_2 : decode cX5_when 2 = .ok (.invokevirtual 87, 3) := by decide +kernel
theorem dX5_when_5 : decode cX5_when 5 = .ok (.ifCond .eq 14, 3) := by decide +kernel
theorem dX5_when_8 : decode cX5_when 8 = .ok (.iload_n 2, 1) := by decide +kernel
theorem dX5_when_9 : decode cX5_when 9 = .ok (.iconst 0, 1) := by decide +kernel
theorem dX5_when_10 : decode cX5_when 10 = .ok (.sipush 9999, 3) := by decide +kernel
theorem dX5_when_13 : decode cX5_when 13 = .ok (.invokestatic 76, 3) := by decide +kernel
theorem dX5_when_16 : decode cX5_when 16 = .ok (.ifCond .ne 10, 3) := by decide +kernel
theorem dX5_when_19 : decode cX5_when 19 = .ok (.aload_n 0, 1) := by decide +kernel
theorem dX5_when_20 : decode cX5_when 20 = .ok (.ldc 66, 2) := by decide +kernel
theorem dX5_when_22 : decode cX5_when 22 = .ok (.invokevirtual 72, 3) := by decide +kernel
theorem dX5_when_25 : decode cX5_when 25 = .ok (.ireturn, 1) := by decide +kernel
theorem dX5_when_26 : decode cX5_when 26 = .ok (.aload_n 0, 1) := by decide +kernel
theorem dX5_when_27 : decode cX5_when 27 = .ok (.getfield 9, 3) := by decide +kernel
theorem dX5_when_30 : decode cX5_when 30 = .ok (.aload_n 0, 1) := by decide +kernel
theorem dX5_when_31 : decode cX5_when 31 = .ok (.getfield 16, 3) := by decide +kernel
theorem dX5_when_34 : decode cX5_when 34 = .ok (.invokestatic 67, 3) := by decide +kernel
theorem dX5_when_37 : decode cX5_when 37 = .ok (.iconst 0, 1) := by decide +kernel
theorem dX5_when_38 : decode cX5_when 38 = .ok (.istore_n 3, 1) := by decide +kernel
theorem dX5_when_39 : decode cX5_when 39 = .ok (.iload_n 3, 1) := by decide +kernel
theorem dX5_when_40 : decode cX5_when 40 = .ok (.bipush 100, 2) := by decide +kernel
theorem dX5_when_42 : decode cX5_when 42 = .ok (.if_icmp .ge 23, 3) := by decide +kernel
theorem dX5_when_45 : decode cX5_when 45 = .ok (.aload_n 0, 1) := by decide +kernel
theorem dX5_when_46 : decode cX5_when 46 = .ok (.iload_n 1, 1) := by decide +kernel
theorem dX5_when_47 : decode cX5_when 47 = .ok (.iconst 3, 1) := by decide +kernel
theorem dX5_when_48 : decode cX5_when 48 = .ok (.invokevirtual 119, 3) := by decide +kernel
theorem dX5_when_51 : decode cX5_when 51 = .ok (.iload_n 2, 1) := by decide +kernel
theorem dX5_when_52 : decode cX5_when 52 = .ok (.if_icmp .ge 13, 3) := by decide +kernel
theorem dX5_when_55 : decode cX5_when 55 = .ok (.aload_n 0, 1) := by decide +kernel
theorem dX5_when_56 : decode cX5_when 56 = .ok (.invokevirtual 155, 3) := by decide +kernel
theorem dX5_when_59 : decode cX5_when 59 = .ok (.iinc 3 1, 3) := by decide +kernel
theorem dX5_when_62 : decode cX5_when 62 = .ok (.goto (-23), 3) := by decide +kernel
theorem dX5_when_65 : decode cX5_when 65 = .ok (.aload_n 0, 1) := by decide +kernel
theorem dX5_when_66 : decode cX5_when 66 = .ok (.aload_n 0, 1) := by decide +kernel
theorem dX5_when_67 : decode cX5_when 67 = .ok (.aload_n 0, 1) := by decide +kernel
theorem dX5_when_68 : decode cX5_when 68 = .ok (.iload_n 1, 1) := by decide +kernel
theorem dX5_when_69 : decode cX5_when 69 = .ok (.iconst 3, 1) := by decide +kernel
theorem dX5_when_70 : decode cX5_when 70 = .ok (.invokevirtual 119, 3) := by decide +kernel
theorem dX5_when_73 : decode cX5_when 73 = .ok (.iload_n 2, 1) := by decide +kernel
theorem dX5_when_74 : decode cX5_when 74 = .ok (.if_icmp .ge 7, 3) := by decide +kernel
theorem dX5_when_77 : decode cX5_when 77 = .ok (.iconst (-1), 1) := by decide +kernel
theorem dX5_when_78 : decode cX5_when 78 = .ok (.goto 4, 3) := by decide +kernel
theorem dX5_when_81 : decode cX5_when 81 = .ok (.iload_n 3, 1) := by decide +kernel
theorem dX5_when_82 : decode cX5_when 82 = .ok (.invokevirtual 175, 3) := by decide +kernel
theorem dX5_when_85 : decode cX5_when 85 = .ok (.invokevirtual 181, 3) := by decide +kernel
theorem dX5_when_88 : decode cX5_when 88 = .ok (.ireturn, 1) := by decide +kernel
theorem dX5_wipe_0 : decode cX5_wipe 0 = .ok (.aload_n 0, 1) := by decide +kernel
theorem dX5_wipe_1 : decode cX5_wipe 1 = .ok (.getfield 220, 3) := by decide +kernel
theorem dX5_wipe_4 : decode cX5_wipe 4 = .ok (.istore_n 1, 1) := by decide +kernel
theorem dX5_wipe_5 : decode cX5_wipe 5 = .ok (.aload_n 0, 1) := by decide +kernel
theorem dX5_wipe_6 : decode cX5_wipe 6 = .ok (.iconst 0, 1) := by decide +kernel
theorem dX5_wipe_7 : decode cX5_wipe 7 = .ok (.putfield 220, 3) := by decide +kernel
theorem dX5_wipe_10 : decode cX5_wipe 10 = .ok (.iload_n 1, 1) := by decide +kernel
theorem dX5_wipe_11 : decode cX5_wipe 11 = .ok (.ireturn, 1) := by decide +kernel
theorem dX5_within_0 : decode cX5_within 0 = .ok (.iload_n 0, 1) := by decide +kernel
theorem dX5_within_1 : decode cX5_within 1 = .ok (.iload_n 1, 1) := by decide +kernel
theorem dX5_within_2 : decode cX5_within 2 = .ok (.if_icmp .lt 12, 3) := by decide +kernel
theorem dX5_within_5 : decode cX5_within 5 = .ok (.iload_n 0, 1) := by decide +kernel
theorem dX5_within_6 : decode cX5_within 6 = .ok (.iload_n 2, 1) := by decide +kernel
theorem dX5_within_7 : decode cX5_within 7 = .ok (.if_icmp .gt 7, 3) := by decide +kernel
theorem dX5_within_10 : decode cX5_within 10 = .ok (.iconst 1, 1) := by decide +kernel
theorem dX5_within_11 : decode cX5_within 11 = .ok (.goto 4, 3) := by decide +kernel
theorem dX5_within_14 : decode cX5_within 14 = .ok (.iconst 0, 1) := by decide +kernel
theorem dX5_within_15 : decode cX5_within 15 = .ok (.ireturn, 1) := by decide +kernel
theorem dX5_write_0 : decode cX5_write 0 = .ok (.iload_n 1, 1) := by decide +kernel
theorem dX5_write_1 : decode cX5_write 1 = .ok (.invokestatic 195, 3) := by decide +kernel
theorem dX5_write_4 : decode cX5_write 4 = .ok (.ifCond .ne 10, 3) := by decide +kernel
theorem dX5_write_7 : decode cX5_write 7 = .ok (.aload_n 0, 1) := by decide +kernel
theorem dX5_write_8 : decode cX5_write 8 = .ok (.ldc 66, 2) := by decide +kernel
theorem dX5_write_10 : decode cX5_write 10 = .ok (.invokevirtual 72, 3) := by decide +kernel
theorem dX5_write_13 : decode cX5_write 13 = .ok (.ireturn, 1) := by decide +kernel
theorem dX5_write_14 : decode cX5_write 14 = .ok (.aload_n 0, 1) := by decide +kernel
theorem dX5_write_15 : decode cX5_write 15 = .ok (.getfield 54, 3) := by decide +kernel
theorem dX5_write_18 : decode cX5_write 18 = .ok (.iload_n 1, 1) := by decide +kernel
theorem dX5_write_19 : decode cX5_write 19 = .ok (.iaload, 1) := by decide +kernel
theorem dX5_write_20 : decode cX5_write 20 = .ok (.ifCond .ne 10, 3) := by decide +kernel
theorem dX5_write_23 : decode cX5_write 23 = .ok (.aload_n 0, 1) := by decide +kernel
theorem dX5_write_24 : decode cX5_write 24 = .ok (.ldc 198, 2) := by decide +kernel
theorem dX5_write_26 : decode cX5_write 26 = .ok (.invokevirtual 72, 3) := by decide +kernel
theorem dX5_write_29 : decode cX5_write 29 = .ok (.ireturn, 1) := by decide +kernel
theorem dX5_write_30 : decode cX5_write 30 = .ok (.iload_n 2, 1) := by decide +kernel
theorem dX5_write_31 : decode cX5_write 31 = .ok (.iconst 0, 1) := by decide +kernel
theorem dX5_write_32 : decode cX5_write 32 = .ok (.aload_n 0, 1) := by decide +kernel
theorem dX5_write_33 : decode cX5_write 33 = .ok (.getfield 57, 3) := by decide +kernel
theorem dX5_write_36 : decode cX5_write 36 = .ok (.iload_n 1, 1) := by decide +kernel
theorem dX5_write_37 : decode cX5_write 37 = .ok (.iaload, 1) := by decide +kernel
theorem dX5_write_38 : decode cX5_write 38 = .ok (.iconst 1, 1) := by decide +kernel
theorem dX5_write_39 : decode cX5_write 39 = .ok (.isub, 1) := by decide +kernel
theorem dX5_write_40 : decode cX5_write 40 = .ok (.invokestatic 76, 3) := by decide +kernel
theorem dX5_write_43 : decode cX5_write 43 = .ok (.ifCond .ne 10, 3) := by decide +kernel
theorem dX5_write_46 : decode cX5_write 46 = .ok (.aload_n 0, 1) := by decide +kernel
theorem dX5_write_47 : decode cX5_write 47 = .ok (.ldc 66, 2) := by decide +kernel
theorem dX5_write_49 : decode cX5_write 49 = .ok (.invokevirtual 72, 3) := by decide +kernel
theorem dX5_write_52 : decode cX5_write 52 = .ok (.ireturn, 1) := by decide +kernel
theorem dX5_write_53 : decode cX5_write 53 = .ok (.aload_n 0, 1) := by decide +kernel
theorem dX5_write_54 : decode cX5_write 54 = .ok (.getfield 60, 3) := by decide +kernel
theorem dX5_write_57 : decode cX5_write 57 = .ok (.bipush 40, 2) := by decide +kernel
theorem dX5_write_59 : decode cX5_write 59 = .ok (.iload_n 1, 1) := by decide +kernel
theorem dX5_write_60 : decode cX5_write 60 = .ok (.imul, 1) := by decide +kernel
theorem dX5_write_61 : decode cX5_write 61 = .ok (.iload_n 2, 1) := by decide +kernel
theorem dX5_write_62 : decode cX5_write 62 = .ok (.iadd, 1) := by decide +kernel
theorem dX5_write_63 : decode cX5_write 63 = .ok (.iload_n 3, 1) := by decide +kernel
theorem dX5_write_64 : decode cX5_write 64 = .ok (.aload_n 0, 1) := by decide +kernel
theorem dX5_write_65 : decode cX5_write 65 = .ok (.getfield 54, 3) := by decide +kernel
theorem dX5_write_68 : decode cX5_write 68 = .ok (.iload_n 1, 1) := by decide +kernel
theorem dX5_write_69 : decode cX5_write 69 = .ok (.iaload, 1) := by decide +kernel
theorem dX5_write_70 : decode cX5_write 70 = .ok (.invokestatic 313, 3) := by decide +kernel
theorem dX5_write_73 : decode cX5_write 73 = .ok (.iastore, 1) := by decide +kernel
theorem dX5_write_74 : decode cX5_write 74 = .ok (.iconst 1, 1) := by decide +kernel
theorem dX5_write_75 : decode cX5_write 75 = .ok (.ireturn, 1) := by decide +kernel
