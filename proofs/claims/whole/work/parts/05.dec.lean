theorem dJ6_bitCount_0f7a4_0 : decode cJ6_bitCount_0f7a4 0 = .ok (.iload_n 0, 1) := by decide +kernel
theorem dJ6_bitCount_0f7a4_1 : decode cJ6_bitCount_0f7a4 1 = .ok (.iload_n 0, 1) := by decide +kernel
theorem dJ6_bitCount_0f7a4_2 : decode cJ6_bitCount_0f7a4 2 = .ok (.iconst 1, 1) := by decide +kernel
theorem dJ6_bitCount_0f7a4_3 : decode cJ6_bitCount_0f7a4 3 = .ok (.iushr, 1) := by decide +kernel
theorem dJ6_bitCount_0f7a4_4 : decode cJ6_bitCount_0f7a4 4 = .ok (.ldc_w 265, 3) := by decide +kernel
theorem dJ6_bitCount_0f7a4_7 : decode cJ6_bitCount_0f7a4 7 = .ok (.iand, 1) := by decide +kernel
theorem dJ6_bitCount_0f7a4_8 : decode cJ6_bitCount_0f7a4 8 = .ok (.isub, 1) := by decide +kernel
theorem dJ6_bitCount_0f7a4_9 : decode cJ6_bitCount_0f7a4 9 = .ok (.istore_n 0, 1) := by decide +kernel
theorem dJ6_bitCount_0f7a4_10 : decode cJ6_bitCount_0f7a4 10 = .ok (.iload_n 0, 1) := by decide +kernel
theorem dJ6_bitCount_0f7a4_11 : decode cJ6_bitCount_0f7a4 11 = .ok (.ldc_w 266, 3) := by decide +kernel
theorem dJ6_bitCount_0f7a4_14 : decode cJ6_bitCount_0f7a4 14 = .ok (.iand, 1) := by decide +kernel
theorem dJ6_bitCount_0f7a4_15 : decode cJ6_bitCount_0f7a4 15 = .ok (.iload_n 0, 1) := by decide +kernel
theorem dJ6_bitCount_0f7a4_16 : decode cJ6_bitCount_0f7a4 16 = .ok (.iconst 2, 1) := by decide +kernel
theorem dJ6_bitCount_0f7a4_17 : decode cJ6_bitCount_0f7a4 17 = .ok (.iushr, 1) := by decide +kernel
theorem dJ6_bitCount_0f7a4_18 : decode cJ6_bitCount_0f7a4 18 = .ok (.ldc_w 266, 3) := by decide +kernel
theorem dJ6_bitCount_0f7a4_21 : decode cJ6_bitCount_0f7a4 21 = .ok (.iand, 1) := by decide +kernel
theorem dJ6_bitCount_0f7a4_22 : decode cJ6_bitCount_0f7a4 22 = .ok (.iadd, 1) := by decide +kernel
theorem dJ6_bitCount_0f7a4_23 : decode cJ6_bitCount_0f7a4 23 = .ok (.istore_n 0, 1) := by decide +kernel
theorem dJ6_bitCount_0f7a4_24 : decode cJ6_bitCount_0f7a4 24 = .ok (.iload_n 0, 1) := by decide +kernel
theorem dJ6_bitCount_0f7a4_25 : decode cJ6_bitCount_0f7a4 25 = .ok (.iload_n 0, 1) := by decide +kernel
theorem dJ6_bitCount_0f7a4_26 : decode cJ6_bitCount_0f7a4 26 = .ok (.iconst 4, 1) := by decide +kernel
theorem dJ6_bitCount_0f7a4_27 : decode cJ6_bitCount_0f7a4 27 = .ok (.iushr, 1) := by decide +kernel
theorem dJ6_bitCount_0f7a4_28 : decode cJ6_bitCount_0f7a4 28 = .ok (.iadd, 1) := by decide +kernel
theorem dJ6_bitCount_0f7a4_29 : decode cJ6_bitCount_0f7a4 29 = .ok (.ldc_w 267, 3) := by decide +kernel
theorem dJ6_bitCount_0f7a4_32 : decode cJ6_bitCount_0f7a4 32 = .ok (.iand, 1) := by decide +kernel
theorem dJ6_bitCount_0f7a4_33 : decode cJ6_bitCount_0f7a4 33 = .ok (.istore_n 0, 1) := by decide +kernel
theorem dJ6_bitCount_0f7a4_34 : decode cJ6_bitCount_0f7a4 34 = .ok (.iload_n 0, 1) := by decide +kernel
theorem dJ6_bitCount_0f7a4_35 : decode cJ6_bitCount_0f7a4 35 = .ok (.iload_n 0, 1) := by decide +kernel
theorem dJ6_bitCount_0f7a4_36 : decode cJ6_bitCount_0f7a4 36 = .ok (.bipush 8, 2) := by decide +kernel
theorem dJ6_bitCount_0f7a4_38 : decode cJ6_bitCount_0f7a4 38 = .ok (.iushr, 1) := by decide +kernel
theorem dJ6_bitCount_0f7a4_39 : decode cJ6_bitCount_0f7a4 39 = .ok (.iadd, 1) := by decide +kernel
theorem dJ6_bitCount_0f7a4_40 : decode cJ6_bitCount_0f7a4 40 = .ok (.istore_n 0, 1) := by decide +kernel
theorem dJ6_bitCount_0f7a4_41 : decode cJ6_bitCount_0f7a4 41 = .ok (.iload_n 0, 1) := by decide +kernel
theorem dJ6_bitCount_0f7a4_42 : decode cJ6_bitCount_0f7a4 42 = .ok (.iload_n 0, 1) := by decide +kernel
theorem dJ6_bitCount_0f7a4_43 : decode cJ6_bitCount_0f7a4 43 = .ok (.bipush 16, 2) := by decide +kernel
theorem dJ6_bitCount_0f7a4_45 : decode cJ6_bitCount_0f7a4 45 = .ok (.iushr, 1) := by decide +kernel
theorem dJ6_bitCount_0f7a4_46 : decode cJ6_bitCount_0f7a4 46 = .ok (.iadd, 1) := by decide +kernel
theorem dJ6_bitCount_0f7a4_47 : decode cJ6_bitCount_0f7a4 47 = .ok (.istore_n 0, 1) := by decide +kernel
theorem dJ6_bitCount_0f7a4_48 : decode cJ6_bitCount_0f7a4 48 = .ok (.iload_n 0, 1) := by decide +kernel
theorem dJ6_bitCount_0f7a4_49 : decode cJ6_bitCount_0f7a4 49 = .ok (.bipush 63, 2) := by decide +kernel
theorem dJ6_bitCount_0f7a4_51 : decode cJ6_bitCount_0f7a4 51 = .ok (.iand, 1) := by decide +kernel
theorem dJ6_bitCount_0f7a4_52 : decode cJ6_bitCount_0f7a4 52 = .ok (.ireturn, 1) := by decide +kernel
theorem dX0_become_0 : decode cX0_become 0 = .ok (.aload_n 1, 1) := by decide +kernel
theorem dX0_become_1 : decode cX0_become 1 = .ok (.getfield 9, 3) := by decide +kernel
theorem dX0_become_4 : decode cX0_become 4 = .ok (.iconst 0, 1) := by decide +kernel
theorem dX0_become_5 : decode cX0_become 5 = .ok (.aload_n 0, 1) := by decide +kernel
theorem dX0_become_6 : decode cX0_become 6 = .ok (.getfield 9, 3) := by decide +kernel
theorem dX0_become_9 : decode cX0_become 9 = .ok (.iconst 0, 1) := by decide +kernel
theorem dX0_become_10 : decode cX0_become 10 = .ok (.bipush 7, 2) := by decide +kernel
theorem dX0_become_12 : decode cX0_become 12 = .ok (.invokestatic 64, 3) := by decide +kernel
theorem dX0_become_15 : decode cX0_become 15 = .ok (.aload_n 1, 1) := by decide +kernel
theorem dX0_become_16 : decode cX0_become 16 = .ok (.getfield 15, 3) := by decide +kernel
theorem dX0_become_19 : decode cX0_become 19 = .ok (.iconst 0, 1) := by decide +kernel
theorem dX0_become_20 : decode cX0_become 20 = .ok (.aload_n 0, 1) := by decide +kernel
theorem dX0_become_21 : decode cX0_become 21 = .ok (.getfield 15, 3) := by decide +kernel
theorem dX0_become_24 : decode cX0_become 24 = .ok (.iconst 0, 1) := by decide +kernel
theorem dX0_become_25 : decode cX0_become 25 = .ok (.bipush 7, 2) := by decide +kernel
theorem dX0_become_27 : decode cX0_become 27 = .ok (.invokestatic 64, 3) := by decide +kernel
theorem dX0_become_30 : decode cX0_become 30 = .ok (.aload_n 1, 1) := by decide +kernel
theorem dX0_become_31 : decode cX0_become 31 = .ok (.getfield 18, 3) := by decide +kernel
theorem dX0_become_34 : decode cX0_become 34 = .ok (.iconst 0, 1) := by decide +kernel
theorem dX0_become_35 : decode cX0_become 35 = .ok (.aload_n 0, 1) := by decide +kernel
theorem dX0_become_36 : decode cX0_become 36 = .ok (.getfield 18, 3) := by decide +kernel
theorem dX0_become_39 : decode cX0_become 39 = .ok (.iconst 0, 1) := by decide +kernel
theorem dX0_become_40 : decode cX0_become 40 = .ok (.bipush 7, 2) := by decide +kernel
theorem dX0_become_42 : decode cX0_become 42 = .ok (.invokestatic 64, 3) := by decide +kernel
theorem dX0_become_45 : decode cX0_become 45 = .ok (.aload_n 1, 1) := by decide +kernel
theorem dX0_become_46 : decode cX0_become 46 = .ok (.getfield 21, 3) := by decide +kernel
theorem dX0_become_49 : decode cX0_become 49 = .ok (.iconst 0, 1) := by decide +kernel
theorem dX0_become_50 : decode cX0_become 50 = .ok (.aload_n 0, 1) := by decide +kernel
theorem dX0_become_51 : decode cX0_become 51 = .ok (.getfield 21, 3) := by decide +kernel
theorem dX0_become_54 : decode cX0_become 54 = .ok (.iconst 0, 1) := by decide +kernel
theorem dX0_become_55 : decode cX0_become 55 = .ok (.bipush 6, 2) := by decide +kernel
theorem dX0_become_57 : decode cX0_become 57 = .ok (.invokestatic 64, 3) := by decide +kernel
theorem dX0_become_60 : decode cX0_become 60 = .ok (.aload_n 1, 1) := by decide +kernel
theorem dX0_become_61 : decode cX0_become 61 = .ok (.getfield 24, 3) := by decide +kernel
theorem dX0_become_64 : decode cX0_become 64 = .ok (.iconst 0, 1) := by decide +kernel
theorem dX0_become_65 : decode cX0_become 65 = .ok (.aload_n 0, 1) := by decide +kernel
theorem dX0_become_66 : decode cX0_become 66 = .ok (.getfield 24, 3) := by decide +kernel
theorem dX0_become_69 : decode cX0_become 69 = .ok (.iconst 0, 1) := by decide +kernel
theorem dX0_become_70 : decode cX0_become 70 = .ok (.bipush 8, 2) := by decide +kernel
theorem dX0_become_72 : decode cX0_become 72 = .ok (.invokestatic 64, 3) := by decide +kernel
theorem dX0_become_75 : decode cX0_become 75 = .ok (.aload_n 1, 1) := by decide +kernel
theorem dX0_become_76 : decode cX0_become 76 = .ok (.getfield 27, 3) := by decide +kernel
theorem dX0_become_79 : decode cX0_become 79 = .ok (.iconst 0, 1) := by decide +kernel
theorem dX0_become_80 : decode cX0_become 80 = .ok (.aload_n 0, 1) := by decide +kernel
theorem dX0_become_81 : decode cX0_become 81 = .ok (.getfield 27, 3) := by decide +kernel
theorem dX0_become_84 : decode cX0_become 84 = .ok (.iconst 0, 1) := by decide +kernel
theorem dX0_become_85 : decode cX0_become 85 = .ok (.bipush 8, 2) := by decide +kernel
theorem dX0_become_87 : decode cX0_become 87 = .ok (.invokestatic 64, 3) := by decide +kernel
theorem dX0_become_90 : decode cX0_become 90 = .ok (.aload_n 1, 1) := by decide +kernel
theorem dX0_become_91 : decode cX0_become 91 = .ok (.getfield 30, 3) := by decide +kernel
theorem dX0_become_94 : decode cX0_become 94 = .ok (.iconst 0, 1) := by decide +kernel
theorem dX0_become_95 : decode cX0_become 95 = .ok (.aload_n 0, 1) := by decide +kernel
theorem dX0_become_96 : decode cX0_become 96 = .ok (.getfield 30, 3) := by decide +kernel
theorem dX0_become_99 : decode cX0_become 99 = .ok (.iconst 0, 1) := by decide +kernel
theorem dX0_become_100 : decode cX0_become 100 = .ok (.bipush 8, 2) := by decide +kernel
theorem dX0_become_102 : decode cX0_become 102 = .ok (.invokestatic 64, 3) := by decide +kernel
theorem dX0_become_105 : decode cX0_become 105 = .ok (.aload_n 1, 1) := by decide +kernel
theorem dX0_become_106 : decode cX0_become 106 = .ok (.getfield 33, 3) := by decide +kernel
theorem dX0_become_109 : decode cX0_become 109 = .ok (.iconst 0, 1) := by decide +kernel
theorem dX0_become_110 : decode cX0_become 110 = .ok (.aload_n 0, 1) := by decide +kernel
theorem dX0_become_111 : decode cX0_become 111 = .ok (.getfield 33, 3) := by decide +kernel
theorem dX0_become_114 : decode cX0_become 114 = .ok (.iconst 0, 1) := by decide +kernel
theorem dX0_become_115 : decode cX0_become 115 = .ok (.bipush 8, 2) := by decide +kernel
theorem dX0_become_117 : decode cX0_become 117 = .ok (.invokestatic 64, 3) := by decide +kernel
theorem dX0_become_120 : decode cX0_become 120 = .ok (.aload_n 1, 1) := by decide +kernel
theorem dX0_become_121 : decode cX0_become 121 = .ok (.getfield 36, 3) := by decide +kernel
theorem dX0_become_124 : decode cX0_become 124 = .ok (.iconst 0, 1) := by decide +kernel
theorem dX0_become_125 : decode cX0_become 125 = .ok (.aload_n 0, 1) := by decide +kernel
theorem dX0_become_126 : decode cX0_become 126 = .ok (.getfield 36, 3) := by decide +kernel
theorem dX0_become_129 : decode cX0_become 129 = .ok (.iconst 0, 1) := by decide +kernel
theorem dX0_become_130 : decode cX0_become 130 = .ok (.bipush 8, 2) := by decide +kernel
theorem dX0_become_132 : decode cX0_become 132 = .ok (.invokestatic 64, 3) := by decide +kernel
theorem dX0_become_135 : decode cX0_become 135 = .ok (.aload_n 1, 1) := by decide +kernel
theorem dX0_become_136 : decode cX0_become 136 = .ok (.getfield 39, 3) := by decide +kernel
theorem dX0_become_139 : decode cX0_become 139 = .ok (.iconst 0, 1) := by decide +kernel
theorem dX0_become_140 : decode cX0_become 140 = .ok (.aload_n 0, 1) := by decide +kernel
theorem dX0_become_141 : decode cX0_become 141 = .ok (.getfield 39, 3) := by decide +kernel
theorem dX0_become_144 : decode cX0_become 144 = .ok (.iconst 0, 1) := by decide +kernel
theorem dX0_become_145 : decode cX0_become 145 = .ok (.bipush 10, 2) := by decide +kernel
theorem dX0_become_147 : decode cX0_become 147 = .ok (.invokestatic 64, 3) := by decide +kernel
theorem dX0_become_150 : decode cX0_become 150 = .ok (.aload_n 0, 1) := by decide +kernel
theorem dX0_become_151 : decode cX0_become 151 = .ok (.aload_n 1, 1) := by decide +kernel
theorem dX0_become_152 : decode cX0_become 152 = .ok (.getfield 42, 3) := by decide +kernel
theorem dX0_become_155 : decode cX0_become 155 = .ok (.putfield 42, 3) := by decide +kernel
theorem dX0_become_158 : decode cX0_become 158 = .ok (.aload_n 0, 1) := by decide +kernel
theorem dX0_become_159 : decode cX0_become 159 = .ok (.aload_n 1, 1) := by decide +kernel
theorem dX0_become_160 : decode cX0_become 160 = .ok (.getfield 46, 3) := by decide +kernel
theorem dX0_become_163 : decode cX0_become 163 = .ok (.putfield 46, 3) := by decide +kernel
theorem dX0_become_166 : decode cX0_become 166 = .ok (.aload_n 0, 1) := by decide +kernel
theorem dX0_become_167 : decode cX0_become 167 = .ok (.aload_n 1, 1) := by decide +kernel
theorem dX0_become_168 : decode cX0_become 168 = .ok (.getfield 49, 3) := by decide +kernel
theorem dX0_become_171 : decode cX0_become 171 = .ok (.putfield 49, 3) := by decide +kernel
theorem dX0_become_174 : decode cX0_become 174 = .ok (.aload_n 0, 1) := by decide +kernel
theorem dX0_become_175 : decode cX0_become 175 = .ok (.aload_n 1, 1) := by decide +kernel
theorem dX0_become_176 : decode cX0_become 176 = .ok (.getfield 52, 3) := by decide +kernel
theorem dX0_become_179 : decode cX0_become 179 = .ok (.putfield 52, 3) := by decide +kernel
theorem dX0_become_182 : decode cX0_become 182 = .ok (.aload_n 0, 1) := by decide +kernel
theorem dX0_become_183 : decode cX0_become 183 = .ok (.aload_n 1, 1) := by decide +kernel
theorem dX0_become_184 : decode cX0_become 184 = .ok (.getfield 55, 3) := by decide +kernel
theorem dX0_become_187 : decode cX0_become 187 = .ok (.putfield 55, 3) := by decide +kernel
theorem dX0_become_190 : decode cX0_become 190 = .ok (.aload_n 0, 1) := by decide +kernel
theorem dX0_become_191 : decode cX0_become 191 = .ok (.aload_n 1, 1) := by decide +kernel
theorem dX0_become_192 : decode cX0_become 192 = .ok (.getfield 58, 3) := by decide +kernel
theorem dX0_become_195 : decode cX0_become 195 = .ok (.putfield 58, 3) := by decide +kernel
theorem dX0_become_198 : decode cX0_become 198 = .ok (.aload_n 0, 1) := by decide +kernel
theorem dX0_become_199 : decode cX0_become 199 = .ok (.aload_n 1, 1) := by decide +kernel
theorem dX0_become_200 : decode cX0_become 200 = .ok (.getfield 61, 3) := by decide +kernel
theorem dX0_become_203 : decode cX0_become 203 = .ok (.putfield 61, 3) := by decide +kernel
theorem dX0_become_206 : decode cX0_become 206 = .ok (.return_, 1) := by decide +kernel
theorem dX0_contest_0 : decode cX0_contest 0 = .ok (.aload_n 0, 1) := by decide +kernel
theorem dX0_contest_1 : decode cX0_contest 1 = .ok (.iload_n 2, 1) := by decide +kernel
theorem dX0_contest_2 : decode cX0_contest 2 = .ok (.invokevirtual 86, 3) := by decide +kernel
theorem dX0_contest_5 : decode cX0_contest 5 = .ok (.ifCond .eq 46, 3) := by decide +kernel
theorem dX0_contest_8 : decode cX0_contest 8 = .ok (.aload_n 0, 1) := by decide +kernel
theorem dX0_contest_9 : decode cX0_contest 9 = .ok (.ldc 121, 2) := by decide +kernel
theorem dX0_contest_11 : decode cX0_contest 11 = .ok (.aload_n 0, 1) := by decide +kernel
theorem dX0_contest_12 : decode cX0_contest 12 = .ok (.getfield 58, 3) := by decide +kernel
theorem dX0_contest_15 : decode cX0_contest 15 = .ok (.aload_n 0, 1) := by decide +kernel
theorem dX0_contest_16 : decode cX0_contest 16 = .ok (.iload_n 1, 1) := by decide +kernel
theorem dX0_contest_17 : decode cX0_contest 17 = .ok (.iload_n 2, 1) := by decide +kernel
theorem dX0_contest_18 : decode cX0_contest 18 = .ok (.invokevirtual 122, 3) := by decide +kernel
theorem dX0_contest_21 : decode cX0_contest 21 = .ok (.iadd, 1) := by decide +kernel
theorem dX0_contest_22 : decode cX0_contest 22 = .ok (.invokestatic 111, 3) := by decide +kernel
theorem dX0_contest_25 : decode cX0_contest 25 = .ok (.putfield 58, 3) := by decide +kernel
theorem dX0_contest_28 : decode cX0_contest 28 = .ok (.aload_n 0, 1) := by decide +kernel
theorem dX0_contest_29 : decode cX0_contest 29 = .ok (.getfield 33, 3) := by decide +kernel
theorem dX0_contest_32 : decode cX0_contest 32 = .ok (.iload_n 1, 1) := by decide +kernel
theorem dX0_contest_33 : decode cX0_contest 33 = .ok (.sipush 9999, 3) := by decide +kernel
theorem dX0_contest_36 : decode cX0_contest 36 = .ok (.aload_n 0, 1) := by decide +kernel
theorem dX0_contest_37 : decode cX0_contest 37 = .ok (.getfield 33, 3) := by decide +kernel
theorem dX0_contest_40 : decode cX0_contest 40 = .ok (.iload_n 1, 1) := by decide +kernel
theorem dX0_contest_41 : decode cX0_contest 41 = .ok (.iaload, 1) := by decide +kernel
theorem dX0_contest_42 : decode cX0_contest 42 = .ok (.iconst 1, 1) := by decide +kernel
theorem dX0_contest_43 : decode cX0_contest 43 = .ok (.iadd, 1) := by decide +kernel
theorem dX0_contest_44 : decode cX0_contest 44 = .ok (.invokestatic 111, 3) := by decide +kernel
theorem dX0_contest_47 : decode cX0_contest 47 = .ok (.iastore, 1) := by decide +kernel
theorem dX0_contest_48 : decode cX0_contest 48 = .ok (.goto 37, 3) := by decide +kernel
theorem dX0_contest_51 : decode cX0_contest 51 = .ok (.aload_n 0, 1) := by decide +kernel
theorem dX0_contest_52 : decode cX0_contest 52 = .ok (.getfield 36, 3) := by decide +kernel
theorem dX0_contest_55 : decode cX0_contest 55 = .ok (.iload_n 1, 1) := by decide +kernel
theorem dX0_contest_56 : decode cX0_contest 56 = .ok (.sipush 9999, 3) := by decide +kernel
theorem dX0_contest_59 : decode cX0_contest 59 = .ok (.aload_n 0, 1) := by decide +kernel
theorem dX0_contest_60 : decode cX0_contest 60 = .ok (.getfield 36, 3) := by decide +kernel
theorem dX0_contest_63 : decode cX0_contest 63 = .ok (.iload_n 1, 1) := by decide +kernel
theorem dX0_contest_64 : decode cX0_contest 64 = .ok (.iaload, 1) := by decide +kernel
theorem dX0_contest_65 : decode cX0_contest 65 = .ok (.iconst 1, 1) := by decide +kernel
theorem dX0_contest_66 : decode cX0_contest 66 = .ok (.iadd, 1) := by decide +kernel
theorem dX0_contest_67 : decode cX0_contest 67 = .ok (.invokestatic 111, 3) := by decide +kernel
theorem dX0_contest_70 : decode cX0_contest 70 = .ok (.iastore, 1) := by decide +kernel
theorem dX0_contest_71 : decode cX0_contest 71 = .ok (.aload_n 0, 1) := by decide +kernel
theorem dX0_contest_72 : decode cX0_contest 72 = .ok (.iconst 0, 1) := by decide +kernel
theorem dX0_contest_73 : decode cX0_contest 73 = .ok (.aload_n 0, 1) := by decide +kernel
theorem dX0_contest_74 : decode cX0_contest 74 = .ok (.getfield 58, 3) := by decide +kernel
theorem dX0_contest_77 : decode cX0_contest 77 = .ok (.iconst 3, 1) := by decide +kernel
theorem dX0_contest_78 : decode cX0_contest 78 = .ok (.isub, 1) := by decide +kernel
theorem dX0_contest_79 : decode cX0_contest 79 = .ok (.invokestatic 74, 3) := by decide +kernel
theorem dX0_contest_82 : decode cX0_contest 82 = .ok (.putfield 58, 3) := by decide +kernel
theorem dX0_contest_85 : decode cX0_contest 85 = .ok (.return_, 1) := by decide +kernel
theorem dX0_draw_0 : decode cX0_draw 0 = .ok (.aload_n 0, 1) := by decide +kernel
theorem dX0_draw_1 : decode cX0_draw 1 = .ok (.aload_n 0, 1) := by decide +kernel
theorem dX0_draw_2 : decode cX0_draw 2 = .ok (.getfield 61, 3) := by decide +kernel
theorem dX0_draw_5 : decode cX0_draw 5 = .ok (.ldc 97, 2) := by decide +kernel
theorem dX0_draw_7 : decode cX0_draw 7 = .ok (.imul, 1) := by decide +kernel
theorem dX0_draw_8 : decode cX0_draw 8 = .ok (.sipush 12345, 3) := by decide +kernel
theorem dX0_draw_11 : decode cX0_draw 11 = .ok (.iadd, 1) := by decide +kernel
theorem dX0_draw_12 : decode cX0_draw 12 = .ok (.putfield 61, 3) := by decide +kernel
theorem dX0_draw_15 : decode cX0_draw 15 = .ok (.aload_n 0, 1) := by decide +kernel
theorem dX0_draw_16 : decode cX0_draw 16 = .ok (.getfield 61, 3) := by decide +kernel
theorem dX0_draw_19 : decode cX0_draw 19 = .ok (.bipush 8, 2) := by decide +kernel
theorem dX0_draw_21 : decode cX0_draw 21 = .ok (.iushr, 1) := by decide +kernel
theorem dX0_draw_22 : decode cX0_draw 22 = .ok (.ireturn, 1) := by decide +kernel
theorem dX0_forceIn_0 : decode cX0_forceIn 0 = .ok (.aload_n 0, 1) := by decide +kernel
theorem dX0_forceIn_1 : decode cX0_forceIn 1 = .ok (.getfield 15, 3) := by decide +kernel
theorem dX0_forceIn_4 : decode cX0_forceIn 4 = .ok (.iload_n 1, 1) := by decide +kernel
theorem dX0_forceIn_5 : decode cX0_forceIn 5 = .ok (.iaload, 1) := by decide +kernel
theorem dX0_forceIn_6 : decode cX0_forceIn 6 = .ok (.aload_n 0, 1) := by decide +kernel
theorem dX0_forceIn_7 : decode cX0_forceIn 7 = .ok (.getfield 18, 3) := by decide +kernel
theorem dX0_forceIn_10 : decode cX0_forceIn 10 = .ok (.iload_n 1, 1) := by decide +kernel
theorem dX0_forceIn_11 : decode cX0_forceIn 11 = .ok (.iaload, 1) := by decide +kernel
theorem dX0_forceIn_12 : decode cX0_forceIn 12 = .ok (.iconst 2, 1) := by decide +kernel
theorem dX0_forceIn_13 : decode cX0_forceIn 13 = .ok (.idiv, 1) := by decide +kernel
theorem dX0_forceIn_14 : decode cX0_forceIn 14 = .ok (.iadd, 1) := by decide +kernel
theorem dX0_forceIn_15 : decode cX0_forceIn 15 = .ok (.ireturn, 1) := by decide +kernel
theorem dX0_gainOf_0 : decode cX0_gainOf 0 = .ok (.aload_n 0, 1) := by decide +kernel
theorem dX0_gainOf_1 : decode cX0_gainOf 1 = .ok (.getfield 24, 3) := by decide +kernel
theorem dX0_gainOf_4 : decode cX0_gainOf 4 = .ok (.iload_n 1, 1) := by decide +kernel
theorem dX0_gainOf_5 : decode cX0_gainOf 5 = .ok (.iaload, 1) := by decide +kernel
theorem dX0_gainOf_6 : decode cX0_gainOf 6 = .ok (.tableswitch 63 1 6 #[38, 46, 46, 50, 63, 40], 38) := by decide +kernel
theorem dX0_gainOf_44 : decode cX0_gainOf 44 = .ok (.iconst 1, 1) := by decide +kernel
theorem dX0_gainOf_45 : decode cX0_gainOf 45 = .ok (.ireturn, 1) := by decide +kernel
theorem dX0_gainOf_46 : decode cX0_gainOf 46 = .ok (.iconst 1, 1) := by decide +kernel
theorem dX0_gainOf_47 : decode cX0_gainOf 47 = .ok (.iconst 2, 1) := by decide +kernel
theorem dX0_gainOf_48 : decode cX0_gainOf 48 = .ok (.iload_n 2, 1) := by decide +kernel
theorem dX0_gainOf_49 : decode cX0_gainOf 49 = .ok (.imul, 1) := by decide +kernel
theorem dX0_gainOf_50 : decode cX0_gainOf 50 = .ok (.iadd, 1) := by decide +kernel
theorem dX0_gainOf_51 : decode cX0_gainOf 51 = .ok (.ireturn, 1) := by decide +kernel
theorem dX0_gainOf_52 : decode cX0_gainOf 52 = .ok (.iload_n 2, 1) := by decide +kernel
theorem dX0_gainOf_53 : decode cX0_gainOf 53 = .ok (.iconst 2, 1) := by decide +kernel
theorem dX0_gainOf_54 : decode cX0_gainOf 54 = .ok (.iadd, 1) := by decide +kernel
theorem dX0_gainOf_55 : decode cX0_gainOf 55 = .ok (.ireturn, 1) := by decide +kernel
theorem dX0_gainOf_56 : decode cX0_gainOf 56 = .ok (.iconst 0, 1) := by decide +kernel
theorem dX0_gainOf_57 : decode cX0_gainOf 57 = .ok (.iload_n 2, 1) := by decide +kernel
theorem dX0_gainOf_58 : decode cX0_gainOf 58 = .ok (.iconst 2, 1) := by decide +kernel
theorem dX0_gainOf_59 : decode cX0_gainOf 59 = .ok (.iadd, 1) := by decide +kernel
theorem dX0_gainOf_60 : decode cX0_gainOf 60 = .ok (.aload_n 0, 1) := by decide +kernel
theorem dX0_gainOf_61 : decode cX0_gainOf 61 = .ok (.getfield 46, 3) := by decide +kernel
theorem dX0_gainOf_64 : decode cX0_gainOf 64 = .ok (.isub, 1) := by decide +kernel
theorem dX0_gainOf_65 : decode cX0_gainOf 65 = .ok (.invokestatic 74, 3) := by decide +kernel
theorem dX0_gainOf_68 : decode cX0_gainOf 68 = .ok (.ireturn, 1) := by decide +kernel
theorem dX0_gainOf_69 : decode cX0_gainOf 69 = .ok (.iload_n 2, 1) := by decide +kernel
theorem dX0_gainOf_70 : decode cX0_gainOf 70 = .ok (.ireturn, 1) := by decide +kernel
theorem dX0_highOf_0 : decode cX0_highOf 0 = .ok (.iconst 0, 1) := by decide +kernel
theorem dX0_highOf_1 : decode cX0_highOf 1 = .ok (.aload_n 0, 1) := by decide +kernel
theorem dX0_highOf_2 : decode cX0_highOf 2 = .ok (.getfield 27, 3) := by decide +kernel
theorem dX0_highOf_5 : decode cX0_highOf 5 = .ok (.iload_n 1, 1) := by decide +kernel
theorem dX0_highOf_6 : decode cX0_highOf 6 = .ok (.iaload, 1) := by decide +kernel
theorem dX0_highOf_7 : decode cX0_highOf 7 = .ok (.aload_n 0, 1) := by decide +kernel
theorem dX0_highOf_8 : decode cX0_highOf 8 = .ok (.getfield 30, 3) := by decide +kernel
theorem dX0_highOf_11 : decode cX0_highOf 11 = .ok (.iload_n 1, 1) := by decide +kernel
theorem dX0_highOf_12 : decode cX0_highOf 12 = .ok (.iaload, 1) := by decide +kernel
theorem dX0_highOf_13 : decode cX0_highOf 13 = .ok (.iconst 4, 1) := by decide +kernel
theorem dX0_highOf_14 : decode cX0_highOf 14 = .ok (.idiv, 1) := by decide +kernel
theorem dX0_highOf_15 : decode cX0_highOf 15 = .ok (.isub, 1) := by decide +kernel
theorem dX0_highOf_16 : decode cX0_highOf 16 = .ok (.invokestatic 74, 3) := by decide +kernel
theorem dX0_highOf_19 : decode cX0_highOf 19 = .ok (.istore_n 2, 1) := by decide +kernel
theorem dX0_highOf_20 : decode cX0_highOf 20 = .ok (.aload_n 0, 1) := by decide +kernel
theorem dX0_highOf_21 : decode cX0_highOf 21 = .ok (.getfield 24, 3) := by decide +kernel
theorem dX0_highOf_24 : decode cX0_highOf 24 = .ok (.iload_n 1, 1) := by decide +kernel
theorem dX0_highOf_25 : decode cX0_highOf 25 = .ok (.iaload, 1) := by decide +kernel
theorem dX0_highOf_26 : decode cX0_highOf 26 = .ok (.tableswitch 113 1 6 #[38, 54, 59, 69, 97, 42], 38) := by decide +kernel
theorem dX0_highOf_64 : decode cX0_highOf 64 = .ok (.iload_n 2, 1) := by decide +kernel
theorem dX0_highOf_65 : decode cX0_highOf 65 = .ok (.iconst 2, 1) := by decide +kernel
theorem dX0_highOf_66 : decode cX0_highOf 66 = .ok (.idiv, 1) := by decide +kernel
theorem dX0_highOf_67 : decode cX0_highOf 67 = .ok (.ireturn, 1) := by decide +kernel
theorem dX0_highOf_68 : decode cX0_highOf 68 = .ok (.iload_n 2, 1) := by decide +kernel
theorem dX0_highOf_69 : decode cX0_highOf 69 = .ok (.iconst 2, 1) := by decide +kernel
theorem dX0_highOf_70 : decode cX0_highOf 70 = .ok (.idiv, 1) := by decide +kernel
theorem dX0_highOf_71 : decode cX0_highOf 71 = .ok (.bipush 30, 2) := by decide +kernel
theorem dX0_highOf_73 : decode cX0_highOf 73 = .ok (.iadd, 1) := by decide +kernel
theorem dX0_highOf_74 : decode cX0_highOf 74 = .ok (.aload_n 0, 1) := by decide +kernel
theorem dX0_highOf_75 : decode cX0_highOf 75 = .ok (.getfield 49, 3) := by decide +kernel
theorem dX0_highOf_78 : decode cX0_highOf 78 = .ok (.isub, 1) := by decide +kernel
theorem dX0_highOf_79 : decode cX0_highOf 79 = .ok (.ireturn, 1) := by decide +kernel
theorem dX0_highOf_80 : decode cX0_highOf 80 = .ok (.iload_n 2, 1) := by decide +kernel
theorem dX0_highOf_81 : decode cX0_highOf 81 = .ok (.bipush 10, 2) := by decide +kernel
theorem dX0_highOf_83 : decode cX0_highOf 83 = .ok (.iadd, 1) := by decide +kernel
theorem dX0_highOf_84 : decode cX0_highOf 84 = .ok (.ireturn, 1) := by decide +kernel
theorem dX0_highOf_85 : decode cX0_highOf 85 = .ok (.iload_n 2, 1) := by decide +kernel
theorem dX0_highOf_86 : decode cX0_highOf 86 = .ok (.bipush 15, 2) := by decide +kernel
theorem dX0_highOf_88 : decode cX0_highOf 88 = .ok (.iadd, 1) := by decide +kernel
theorem dX0_highOf_89 : decode cX0_highOf 89 = .ok (.aload_n 0, 1) := by decide +kernel
theorem dX0_highOf_90 : decode cX0_highOf 90 = .ok (.getfield 46, 3) := by decide +kernel
theorem dX0_highOf_93 : decode cX0_highOf 93 = .ok (.isub, 1) := by decide +kernel
theorem dX0_highOf_94 : decode cX0_highOf 94 = .ok (.ireturn, 1) := by decide +kernel
theorem dX0_highOf_95 : decode cX0_highOf 95 = .ok (.iload_n 2, 1) := by decide +kernel
theorem dX0_highOf_96 : decode cX0_highOf 96 = .ok (.bipush 15, 2) := by decide +kernel
theorem dX0_highOf_98 : decode cX0_highOf 98 = .ok (.iadd, 1) := by decide +kernel
theorem dX0_highOf_99 : decode cX0_highOf 99 = .ok (.aload_n 0, 1) := by decide +kernel
theorem dX0_highOf_100 : decode cX0_highOf 100 = .ok (.getfield 46, 3) := by decide +kernel
theorem dX0_highOf_103 : decode cX0_highOf 103 = .ok (.isub, 1) := by decide +kernel
theorem dX0_highOf_104 : decode cX0_highOf 104 = .ok (.aload_n 0, 1) := by decide +kernel
theorem dX0_highOf_105 : decode cX0_highOf 105 = .ok (.getfield 30, 3) := by decide +kernel
theorem dX0_highOf_108 : decode cX0_highOf 108 = .ok (.iload_n 1, 1) := by decide +kernel
theorem dX0_highOf_109 : decode cX0_highOf 109 = .ok (.iaload, 1) := by decide +kernel
theorem dX0_highOf_110 : decode cX0_highOf 110 = .ok (.bipush 20, 2) := by decide +kernel
theorem dX0_highOf_112 : decode cX0_highOf 112 = .ok (.if_icmp .ge 8, 3) := by decide +kernel
theorem dX0_highOf_115 : decode cX0_highOf 115 = .ok (.bipush 10, 2) := by decide +kernel
theorem dX0_highOf_117 : decode cX0_highOf 117 = .ok (.goto 4, 3) := by decide +kernel
theorem dX0_highOf_120 : decode cX0_highOf 120 = .ok (.iconst 0, 1) := by decide +kernel
theorem dX0_highOf_121 : decode cX0_highOf 121 = .ok (.iadd, 1) := by decide +kernel
theorem dX0_highOf_122 : decode cX0_highOf 122 = .ok (.ireturn, 1) := by decide +kernel
theorem dX0_highOf_123 : decode cX0_highOf 123 = .ok (.aload_n 0, 1) := by decide +kernel
theorem dX0_highOf_124 : decode cX0_highOf 124 = .ok (.getfield 55, 3) := by decide +kernel
theorem dX0_highOf_127 : decode cX0_highOf 127 = .ok (.iconst 2, 1) := by decide +kernel
theorem dX0_highOf_128 : decode cX0_highOf 128 = .ok (.irem, 1) := by decide +kernel
theorem dX0_highOf_129 : decode cX0_highOf 129 = .ok (.iconst 1, 1) := by decide +kernel
theorem dX0_highOf_130 : decode cX0_highOf 130 = .ok (.if_icmp .ne 7, 3) := by decide +kernel
theorem dX0_highOf_133 : decode cX0_highOf 133 = .ok (.iconst 0, 1) := by decide +kernel
theorem dX0_highOf_134 : decode cX0_highOf 134 = .ok (.goto 4, 3) := by decide +kernel
theorem dX0_highOf_137 : decode cX0_highOf 137 = .ok (.iload_n 2, 1) := by decide +kernel
theorem dX0_highOf_138 : decode cX0_highOf 138 = .ok (.ireturn, 1) := by decide +kernel
theorem dX0_highOf_139 : decode cX0_highOf 139 = .ok (.iload_n 2, 1) := by decide +kernel
theorem dX0_highOf_140 : decode cX0_highOf 140 = .ok (.ireturn, 1) := by decide +kernel
theorem dX0_join_0 : decode cX0_join 0 = .ok (.aload_n 0, 1) := by decide +kernel
theorem dX0_join_1 : decode cX0_join 1 = .ok (.getfield 42, 3) := by decide +kernel
theorem dX0_join_4 : decode cX0_join 4 = .ok (.istore_n 3, 1) := by decide +kernel
theorem dX0_join_5 : decode cX0_join 5 = .ok (.aload_n 0, 1) := by decide +kernel
theorem dX0_join_6 : decode cX0_join 6 = .ok (.getfield 24, 3) := by decide +kernel
theorem dX0_join_9 : decode cX0_join 9 = .ok (.iload_n 3, 1) := by decide +kernel
theorem dX0_join_10 : decode cX0_join 10 = .ok (.iload_n 1, 1) := by decide +kernel
theorem dX0_join_11 : decode cX0_join 11 = .ok (.iastore, 1) := by decide +kernel
theorem dX0_join_12 : decode cX0_join 12 = .ok (.aload_n 0, 1) := by decide +kernel
theorem dX0_join_13 : decode cX0_join 13 = .ok (.getfield 27, 3) := by decide +kernel
theorem dX0_join_16 : decode cX0_join 16 = .ok (.iload_n 3, 1) := by decide +kernel
theorem dX0_join_17 : decode cX0_join 17 = .ok (.iload_n 2, 1) := by decide +kernel
theorem dX0_join_18 : decode cX0_join 18 = .ok (.iastore, 1) := by decide +kernel
theorem dX0_join_19 : decode cX0_join 19 = .ok (.aload_n 0, 1) := by decide +kernel
theorem dX0_join_20 : decode cX0_join 20 = .ok (.getfield 30, 3) := by decide +kernel
theorem dX0_join_23 : decode cX0_join 23 = .ok (.iload_n 3, 1) := by decide +kernel
theorem dX0_join_24 : decode cX0_join 24 = .ok (.iconst 0, 1) := by decide +kernel
theorem dX0_join_25 : decode cX0_join 25 = .ok (.iastore, 1) := by decide +kernel
theorem dX0_join_26 : decode cX0_join 26 = .ok (.aload_n 0, 1) := by decide +kernel
theorem dX0_join_27 : decode cX0_join 27 = .ok (.getfield 33, 3) := by decide +kernel
theorem dX0_join_30 : decode cX0_join 30 = .ok (.iload_n 3, 1) := by decide +kernel
theorem dX0_join_31 : decode cX0_join 31 = .ok (.iconst 0, 1) := by decide +kernel
theorem dX0_join_32 : decode cX0_join 32 = .ok (.iastore, 1) := by decide +kernel
theorem dX0_join_33 : decode cX0_join 33 = .ok (.aload_n 0, 1) := by decide +kernel
theorem dX0_join_34 : decode cX0_join 34 = .ok (.getfield 36, 3) := by decide +kernel
theorem dX0_join_37 : decode cX0_join 37 = .ok (.iload_n 3, 1) := by decide +kernel
theorem dX0_join_38 : decode cX0_join 38 = .ok (.iconst 0, 1) := by decide +kernel
theorem dX0_join_39 : decode cX0_join 39 = .ok (.iastore, 1) := by decide +kernel
theorem dX0_join_40 : decode cX0_join 40 = .ok (.aload_n 0, 1) := by decide +kernel
theorem dX0_join_41 : decode cX0_join 41 = .ok (.dup, 1) := by decide +kernel
theorem dX0_join_42 : decode cX0_join 42 = .ok (.getfield 42, 3) := by decide +kernel
theorem dX0_join_45 : decode cX0_join 45 = .ok (.iconst 1, 1) := by decide +kernel
theorem dX0_join_46 : decode cX0_join 46 = .ok (.iadd, 1) := by decide +kernel
theorem dX0_join_47 : decode cX0_join 47 = .ok (.putfield 42, 3) := by decide +kernel
theorem dX0_join_50 : decode cX0_join 50 = .ok (.iload_n 3, 1) := by decide +kernel
theorem dX0_join_51 : decode cX0_join 51 = .ok (.ireturn, 1) := by decide +kernel
theorem dX0_learn_0 : decode cX0_learn 0 = .ok (.iconst 0, 1) := by decide +kernel
theorem dX0_learn_1 : decode cX0_learn 1 = .ok (.istore_n 2, 1) := by decide +kernel
theorem dX0_learn_2 : decode cX0_learn 2 = .ok (.iload_n 2, 1) := by decide +kernel
theorem dX0_learn_3 : decode cX0_learn 3 = .ok (.bipush 7, 2) := by decide +kernel
theorem dX0_learn_5 : decode cX0_learn 5 = .ok (.if_icmp .ge 49, 3) := by decide +kernel
theorem dX0_learn_8 : decode cX0_learn 8 = .ok (.aload_n 0, 1) := by decide +kernel
theorem dX0_learn_9 : decode cX0_learn 9 = .ok (.getfield 18, 3) := by decide +kernel
theorem dX0_learn_12 : decode cX0_learn 12 = .ok (.iload_n 2, 1) := by decide +kernel
theorem dX0_learn_13 : decode cX0_learn 13 = .ok (.iload_n 2, 1) := by decide +kernel
theorem dX0_learn_14 : decode cX0_learn 14 = .ok (.iload_n 1, 1) := by decide +kernel
theorem dX0_learn_15 : decode cX0_learn 15 = .ok (.if_icmp .ne 20, 3) := by decide +kernel
theorem dX0_learn_18 : decode cX0_learn 18 = .ok (.bipush 99, 2) := by decide +kernel
theorem dX0_learn_20 : decode cX0_learn 20 = .ok (.aload_n 0, 1) := by decide +kernel
theorem dX0_learn_21 : decode cX0_learn 21 = .ok (.getfield 18, 3) := by decide +kernel
theorem dX0_learn_24 : decode cX0_learn 24 = .ok (.iload_n 2, 1) := by decide +kernel
theorem dX0_learn_25 : decode cX0_learn 25 = .ok (.iaload, 1) := by decide +kernel
theorem dX0_learn_26 : decode cX0_learn 26 = .ok (.bipush 6, 2) := by decide +kernel
theorem dX0_learn_28 : decode cX0_learn 28 = .ok (.iadd, 1) := by decide +kernel
theorem dX0_learn_29 : decode cX0_learn 29 = .ok (.invokestatic 111, 3) := by decide +kernel
theorem dX0_learn_32 : decode cX0_learn 32 = .ok (.goto 15, 3) := by decide +kernel
theorem dX0_learn_35 : decode cX0_learn 35 = .ok (.iconst 0, 1) := by decide +kernel
theorem dX0_learn_36 : decode cX0_learn 36 = .ok (.aload_n 0, 1) := by decide +kernel
theorem dX0_learn_37 : decode cX0_learn 37 = .ok (.getfield 18, 3) := by decide +kernel
theorem dX0_learn_40 : decode cX0_learn 40 = .ok (.iload_n 2, 1) := by decide +kernel
theorem dX0_learn_41 : decode cX0_learn 41 = .ok (.iaload, 1) := by decide +kernel
theorem dX0_learn_42 : decode cX0_learn 42 = .ok (.iconst 1, 1) := by decide +kernel
theorem dX0_learn_43 : decode cX0_learn 43 = .ok (.isub, 1) := by decide +kernel
theorem dX0_learn_44 : decode cX0_learn 44 = .ok (.invokestatic 74, 3) := by decide +kernel
theorem dX0_learn_47 : decode cX0_learn 47 = .ok (.iastore, 1) := by decide +kernel
theorem dX0_learn_48 : decode cX0_learn 48 = .ok (.iinc 2 1, 3) := by decide +kernel
theorem dX0_learn_51 : decode cX0_learn 51 = .ok (.goto (-49), 3) := by decide +kernel
theorem dX0_learn_54 : decode cX0_learn 54 = .ok (.return_, 1) := by decide +kernel
theorem dX0_leave_0 : decode cX0_leave 0 = .ok (.iconst 0, 1) := by decide +kernel
theorem dX0_leave_1 : decode cX0_leave 1 = .ok (.istore_n 2, 1) := by decide +kernel
theorem dX0_leave_2 : decode cX0_leave 2 = .ok (.iload_n 2, 1) := by decide +kernel
theorem dX0_leave_3 : decode cX0_leave 3 = .ok (.bipush 7, 2) := by decide +kernel
theorem dX0_leave_5 : decode cX0_leave 5 = .ok (.if_icmp .ge 26, 3) := by decide +kernel
theorem dX0_leave_8 : decode cX0_leave 8 = .ok (.aload_n 0, 1) := by decide +kernel
theorem dX0_leave_9 : decode cX0_leave 9 = .ok (.getfield 9, 3) := by decide +kernel
theorem dX0_leave_12 : decode cX0_leave 12 = .ok (.iload_n 2, 1) := by decide +kernel
theorem dX0_leave_13 : decode cX0_leave 13 = .ok (.iaload, 1) := by decide +kernel
theorem dX0_leave_14 : decode cX0_leave 14 = .ok (.iload_n 1, 1) := by decide +kernel
theorem dX0_leave_15 : decode cX0_leave 15 = .ok (.if_icmp .ne 10, 3) := by decide +kernel
theorem dX0_leave_18 : decode cX0_leave 18 = .ok (.aload_n 0, 1) := by decide +kernel
theorem dX0_leave_19 : decode cX0_leave 19 = .ok (.getfield 9, 3) := by decide +kernel
theorem dX0_leave_22 : decode cX0_leave 22 = .ok (.iload_n 2, 1) := by decide +kernel
theorem dX0_leave_23 : decode cX0_leave 23 = .ok (.iconst (-1), 1) := by decide +kernel
theorem dX0_leave_24 : decode cX0_leave 24 = .ok (.iastore, 1) := by decide +kernel
theorem dX0_leave_25 : decode cX0_leave 25 = .ok (.iinc 2 1, 3) := by decide +kernel
theorem dX0_leave_28 : decode cX0_leave 28 = .ok (.goto (-26), 3) := by decide +kernel
theorem dX0_leave_31 : decode cX0_leave 31 = .ok (.return_, 1) := by decide +kernel
theorem dX0_nextIndex_0 : decode cX0_nextIndex 0 = .ok (.aload_n 0, 1) := by decide +kernel
theorem dX0_nextIndex_1 : decode cX0_nextIndex 1 = .ok (.getfield 55, 3) := by decide +kernel
theorem dX0_nextIndex_4 : decode cX0_nextIndex 4 = .ok (.bipush 6, 2) := by decide +kernel
theorem dX0_nextIndex_6 : decode cX0_nextIndex 6 = .ok (.irem, 1) := by decide +kernel
theorem dX0_nextIndex_7 : decode cX0_nextIndex 7 = .ok (.ireturn, 1) := by decide +kernel
theorem dX0_nextPlace_0 : decode cX0_nextPlace 0 = .ok (.aload_n 0, 1) := by decide +kernel
theorem dX0_nextPlace_1 : decode cX0_nextPlace 1 = .ok (.getfield 21, 3) := by decide +kernel
theorem dX0_nextPlace_4 : decode cX0_nextPlace 4 = .ok (.aload_n 0, 1) := by decide +kernel
theorem dX0_nextPlace_5 : decode cX0_nextPlace 5 = .ok (.invokevirtual 93, 3) := by decide +kernel
theorem dX0_nextPlace_8 : decode cX0_nextPlace 8 = .ok (.iaload, 1) := by decide +kernel
theorem dX0_nextPlace_9 : decode cX0_nextPlace 9 = .ok (.aload_n 0, 1) := by decide +kernel
theorem dX0_nextPlace_10 : decode cX0_nextPlace 10 = .ok (.getfield 52, 3) := by decide +kernel
theorem dX0_nextPlace_13 : decode cX0_nextPlace 13 = .ok (.invokestatic 90, 3) := by decide +kernel
theorem dX0_nextPlace_16 : decode cX0_nextPlace 16 = .ok (.ireturn, 1) := by decide +kernel
theorem dX0_placesListed_0 : decode cX0_placesListed 0 = .ok (.iconst 0, 1) := by decide +kernel
theorem dX0_placesListed_1 : decode cX0_placesListed 1 = .ok (.istore_n 1, 1) := by decide +kernel
theorem dX0_placesListed_2 : decode cX0_placesListed 2 = .ok (.iconst 0, 1) := by decide +kernel
theorem dX0_placesListed_3 : decode cX0_placesListed 3 = .ok (.istore_n 2, 1) := by decide +kernel
theorem dX0_placesListed_4 : decode cX0_placesListed 4 = .ok (.iload_n 2, 1) := by decide +kernel
theorem dX0_placesListed_5 : decode cX0_placesListed 5 = .ok (.bipush 6, 2) := by decide +kernel
theorem dX0_placesListed_7 : decode cX0_placesListed 7 = .ok (.if_icmp .ge 27, 3) := by decide +kernel
theorem dX0_placesListed_10 : decode cX0_placesListed 10 = .ok (.iload_n 1, 1) := by decide +kernel
theorem dX0_placesListed_11 : decode cX0_placesListed 11 = .ok (.iconst 1, 1) := by decide +kernel
theorem dX0_placesListed_12 : decode cX0_placesListed 12 = .ok (.aload_n 0, 1) := by decide +kernel
theorem dX0_placesListed_13 : decode cX0_placesListed 13 = .ok (.getfield 21, 3) := by decide +kernel
theorem dX0_placesListed_16 : decode cX0_placesListed 16 = .ok (.iload_n 2, 1) := by decide +kernel
theorem dX0_placesListed_17 : decode cX0_placesListed 17 = .ok (.iaload, 1) := by decide +kernel
theorem dX0_placesListed_18 : decode cX0_placesListed 18 = .ok (.aload_n 0, 1) := by decide +kernel
theorem dX0_placesListed_19 : decode cX0_placesListed 19 = .ok (.getfield 52, 3) := by decide +kernel
theorem dX0_placesListed_22 : decode cX0_placesListed 22 = .ok (.invokestatic 90, 3) := by decide +kernel
theorem dX0_placesListed_25 : decode cX0_placesListed 25 = .ok (.ishl, 1) := by decide +kernel
theorem dX0_placesListed_26 : decode cX0_placesListed 26 = .ok (.ior, 1) := by decide +kernel
theorem dX0_placesListed_27 : decode cX0_placesListed 27 = .ok (.istore_n 1, 1) := by decide +kernel
theorem dX0_placesListed_28 : decode cX0_placesListed 28 = .ok (.iinc 2 1, 3) := by decide +kernel
theorem dX0_placesListed_31 : decode cX0_placesListed 31 = .ok (.goto (-27), 3) := by decide +kernel
theorem dX0_placesListed_34 : decode cX0_placesListed 34 = .ok (.iload_n 1, 1) := by decide +kernel
theorem dX0_placesListed_35 : decode cX0_placesListed 35 = .ok (.ireturn, 1) := by decide +kernel
theorem dX0_putSetting_0 : decode cX0_putSetting 0 = .ok (.iload_n 1, 1) := by decide +kernel
theorem dX0_putSetting_1 : decode cX0_putSetting 1 = .ok (.ifCond .ne 16, 3) := by decide +kernel
theorem dX0_putSetting_4 : decode cX0_putSetting 4 = .ok (.aload_n 0, 1) := by decide +kernel
theorem dX0_putSetting_5 : decode cX0_putSetting 5 = .ok (.getfield 46, 3) := by decide +kernel
theorem dX0_putSetting_8 : decode cX0_putSetting 8 = .ok (.istore_n 3, 1) := by decide +kernel
theorem dX0_putSetting_9 : decode cX0_putSetting 9 = .ok (.aload_n 0, 1) := by decide +kernel
theorem dX0_putSetting_10 : decode cX0_putSetting 10 = .ok (.iload_n 2, 1) := by decide +kernel
theorem dX0_putSetting_11 : decode cX0_putSetting 11 = .ok (.putfield 46, 3) := by decide +kernel
theorem dX0_putSetting_14 : decode cX0_putSetting 14 = .ok (.goto 31, 3) := by decide +kernel
theorem dX0_putSetting_17 : decode cX0_putSetting 17 = .ok (.iload_n 1, 1) := by decide +kernel
theorem dX0_putSetting_18 : decode cX0_putSetting 18 = .ok (.iconst 1, 1) := by decide +kernel
theorem dX0_putSetting_19 : decode cX0_putSetting 19 = .ok (.if_icmp .ne 16, 3) := by decide +kernel
theorem dX0_putSetting_22 : decode cX0_putSetting 22 = .ok (.aload_n 0, 1) := by decide +kernel
theorem dX0_putSetting_23 : decode cX0_putSetting 23 = .ok (.getfield 49, 3) := by decide +kernel
theorem dX0_putSetting_26 : decode cX0_putSetting 26 = .ok (.istore_n 3, 1) := by decide +kernel
theorem dX0_putSetting_27 : decode cX0_putSetting 27 = .ok (.aload_n 0, 1) := by decide +kernel
theorem dX0_putSetting_28 : decode cX0_putSetting 28 = .ok (.iload_n 2, 1) := by decide +kernel
theorem dX0_putSetting_29 : decode cX0_putSetting 29 = .ok (.putfield 49, 3) := by decide +kernel
theorem dX0_putSetting_32 : decode cX0_putSetting 32 = .ok (.goto 13, 3) := by decide +kernel
theorem dX0_putSetting_35 : decode cX0_putSetting 35 = .ok (.aload_n 0, 1) := by decide +kernel
theorem dX0_putSetting_36 : decode cX0_putSetting 36 = .ok (.getfield 52, 3) := by decide +kernel
theorem dX0_putSetting_39 : decode cX0_putSetting 39 = .ok (.istore_n 3, 1) := by decide +kernel
theorem dX0_putSetting_40 : decode cX0_putSetting 40 = .ok (.aload_n 0, 1) := by decide +kernel
theorem dX0_putSetting_41 : decode cX0_putSetting 41 = .ok (.iload_n 2, 1) := by decide +kernel
theorem dX0_putSetting_42 : decode cX0_putSetting 42 = .ok (.putfield 52, 3) := by decide +kernel
theorem dX0_putSetting_45 : decode cX0_putSetting 45 = .ok (.iload_n 3, 1) := by decide +kernel
theorem dX0_putSetting_46 : decode cX0_putSetting 46 = .ok (.ireturn, 1) := by decide +kernel
theorem dX0_restAllBut_0 : decode cX0_restAllBut 0 = .ok (.iconst 0, 1) := by decide +kernel
theorem dX0_restAllBut_1 : decode cX0_restAllBut 1 = .ok (.istore_n 2, 1) := by decide +kernel
theorem dX0_restAllBut_2 : decode cX0_restAllBut 2 = .ok (.iload_n 2, 1) := by decide +kernel
theorem dX0_restAllBut_3 : decode cX0_restAllBut 3 = .ok (.aload_n 0, 1) := by decide +kernel
theorem dX0_restAllBut_4 : decode cX0_restAllBut 4 = .ok (.getfield 42, 3) := by decide +kernel
theorem dX0_restAllBut_7 : decode cX0_restAllBut 7 = .ok (.if_icmp .ge 32, 3) := by decide +kernel
theorem dX0_restAllBut_10 : decode cX0_restAllBut 10 = .ok (.iload_n 2, 1) := by decide +kernel
theorem dX0_restAllBut_11 : decode cX0_restAllBut 11 = .ok (.iload_n 1, 1) := by decide +kernel
theorem dX0_restAllBut_12 : decode cX0_restAllBut 12 = .ok (.if_icmp .eq 21, 3) := by decide +kernel
theorem dX0_restAllBut_15 : decode cX0_restAllBut 15 = .ok (.aload_n 0, 1) := by decide +kernel
theorem dX0_restAllBut_16 : decode cX0_restAllBut 16 = .ok (.getfield 30, 3) := by decide +kernel
theorem dX0_restAllBut_19 : decode cX0_restAllBut 19 = .ok (.iload_n 2, 1) := by decide +kernel
theorem dX0_restAllBut_20 : decode cX0_restAllBut 20 = .ok (.iconst 0, 1) := by decide +kernel
theorem dX0_restAllBut_21 : decode cX0_restAllBut 21 = .ok (.aload_n 0, 1) := by decide +kernel
theorem dX0_restAllBut_22 : decode cX0_restAllBut 22 = .ok (.getfield 30, 3) := by decide +kernel
theorem dX0_restAllBut_25 : decode cX0_restAllBut 25 = .ok (.iload_n 2, 1) := by decide +kernel
theorem dX0_restAllBut_26 : decode cX0_restAllBut 26 = .ok (.iaload, 1) := by decide +kernel
theorem dX0_restAllBut_27 : decode cX0_restAllBut 27 = .ok (.iconst 2, 1) := by decide +kernel
theorem dX0_restAllBut_28 : decode cX0_restAllBut 28 = .ok (.isub, 1) := by decide +kernel
theorem dX0_restAllBut_29 : decode cX0_restAllBut 29 = .ok (.invokestatic 74, 3) := by decide +kernel
theorem dX0_restAllBut_32 : decode cX0_restAllBut 32 = .ok (.iastore, 1) := by decide +kernel
theorem dX0_restAllBut_33 : decode cX0_restAllBut 33 = .ok (.iinc 2 1, 3) := by decide +kernel
theorem dX0_restAllBut_36 : decode cX0_restAllBut 36 = .ok (.goto (-34), 3) := by decide +kernel
theorem dX0_restAllBut_39 : decode cX0_restAllBut 39 = .ok (.return_, 1) := by decide +kernel
theorem dX0_rowOf_0 : decode cX0_rowOf 0 = .ok (.iload_n 1, 1) := by decide +kernel
theorem dX0_rowOf_1 : decode cX0_rowOf 1 = .ok (.tableswitch 51 0 3 #[31, 36, 41, 46], 31) := by decide +kernel
theorem dX0_rowOf_32 : decode cX0_rowOf 32 = .ok (.aload_n 0, 1) := by decide +kernel
theorem dX0_rowOf_33 : decode cX0_rowOf 33 = .ok (.getfield 24, 3) := by decide +kernel
theorem dX0_rowOf_36 : decode cX0_rowOf 36 = .ok (.areturn, 1) := by decide +kernel
theorem dX0_rowOf_37 : decode cX0_rowOf 37 = .ok (.aload_n 0, 1) := by decide +kernel
theorem dX0_rowOf_38 : decode cX0_rowOf 38 = .ok (.getfield 27, 3) := by decide +kernel
theorem dX0_rowOf_41 : decode cX0_rowOf 41 = .ok (.areturn, 1) := by decide +kernel
theorem dX0_rowOf_42 : decode cX0_rowOf 42 = .ok (.aload_n 0, 1) := by decide +kernel
theorem dX0_rowOf_43 : decode cX0_rowOf 43 = .ok (.getfield 30, 3) := by decide +kernel
theorem dX0_rowOf_46 : decode cX0_rowOf 46 = .ok (.areturn, 1) := by decide +kernel
theorem dX0_rowOf_47 : decode cX0_rowOf 47 = .ok (.aload_n 0, 1) := by decide +kernel
theorem dX0_rowOf_48 : decode cX0_rowOf 48 = .ok (.getfield 33, 3) := by decide +kernel
theorem dX0_rowOf_51 : decode cX0_rowOf 51 = .ok (.areturn, 1) := by decide +kernel
theorem dX0_rowOf_52 : decode cX0_rowOf 52 = .ok (.aload_n 0, 1) := by decide +kernel
theorem dX0_rowOf_53 : decode cX0_rowOf 53 = .ok (.getfield 36, 3) := by decide +kernel
theorem dX0_rowOf_56 : decode cX0_rowOf 56 = .ok (.areturn, 1) := by decide +kernel
theorem dX0_spotsHolding_0 : decode cX0_spotsHolding 0 = .ok (.iconst 0, 1) := by decide +kernel
theorem dX0_spotsHolding_1 : decode cX0_spotsHolding 1 = .ok (.istore_n 1, 1) := by decide +kernel
theorem dX0_spotsHolding_2 : decode cX0_spotsHolding 2 = .ok (.iconst 0, 1) := by decide +kernel
theorem dX0_spotsHolding_3 : decode cX0_spotsHolding 3 = .ok (.istore_n 2, 1) := by decide +kernel
theorem dX0_spotsHolding_4 : decode cX0_spotsHolding 4 = .ok (.iload_n 2, 1) := by decide +kernel
theorem dX0_spotsHolding_5 : decode cX0_spotsHolding 5 = .ok (.bipush 10, 2) := by decide +kernel
theorem dX0_spotsHolding_7 : decode cX0_spotsHolding 7 = .ok (.if_icmp .ge 22, 3) := by decide +kernel
theorem dX0_spotsHolding_10 : decode cX0_spotsHolding 10 = .ok (.aload_n 0, 1) := by decide +kernel
theorem dX0_spotsHolding_11 : decode cX0_spotsHolding 11 = .ok (.getfield 39, 3) := by decide +kernel
theorem dX0_spotsHolding_14 : decode cX0_spotsHolding 14 = .ok (.iload_n 2, 1) := by decide +kernel
theorem dX0_spotsHolding_15 : decode cX0_spotsHolding 15 = .ok (.iaload, 1) := by decide +kernel
theorem dX0_spotsHolding_16 : decode cX0_spotsHolding 16 = .ok (.iconst (-1), 1) := by decide +kernel
theorem dX0_spotsHolding_17 : decode cX0_spotsHolding 17 = .ok (.if_icmp .eq 6, 3) := by decide +kernel
theorem dX0_spotsHolding_20 : decode cX0_spotsHolding 20 = .ok (.iinc 1 1, 3) := by decide +kernel
theorem dX0_spotsHolding_23 : decode cX0_spotsHolding 23 = .ok (.iinc 2 1, 3) := by decide +kernel
theorem dX0_spotsHolding_26 : decode cX0_spotsHolding 26 = .ok (.goto (-22), 3) := by decide +kernel
theorem dX0_spotsHolding_29 : decode cX0_spotsHolding 29 = .ok (.iload_n 1, 1) := by decide +kernel
theorem dX0_spotsHolding_30 : decode cX0_spotsHolding 30 = .ok (.ireturn, 1) := by decide +kernel
theorem dX0_sum_0 : decode cX0_sum 0 = .ok (.iconst 0, 1) := by decide +kernel
theorem dX0_sum_1 : decode cX0_sum 1 = .ok (.istore_n 2, 1) := by decide +kernel
theorem dX0_sum_2 : decode cX0_sum 2 = .ok (.iconst 0, 1) := by decide +kernel
theorem dX0_sum_3 : decode cX0_sum 3 = .ok (.istore_n 3, 1) := by decide +kernel
theorem dX0_sum_4 : decode cX0_sum 4 = .ok (.iload_n 3, 1) := by decide +kernel
theorem dX0_sum_5 : decode cX0_sum 5 = .ok (.aload_n 0, 1) := by decide +kernel
theorem dX0_sum_6 : decode cX0_sum 6 = .ok (.getfield 42, 3) := by decide +kernel
theorem dX0_sum_9 : decode cX0_sum 9 = .ok (.if_icmp .ge 15, 3) := by decide +kernel
theorem dX0_sum_12 : decode cX0_sum 12 = .ok (.iload_n 2, 1) := by decide +kernel
theorem dX0_sum_13 : decode cX0_sum 13 = .ok (.aload_n 1, 1) := by decide +kernel
theorem dX0_sum_14 : decode cX0_sum 14 = .ok (.iload_n 3, 1) := by decide +kernel
theorem dX0_sum_15 : decode cX0_sum 15 = .ok (.iaload, 1) := by decide +kernel
theorem dX0_sum_16 : decode cX0_sum 16 = .ok (.iadd, 1) := by decide +kernel
theorem dX0_sum_17 : decode cX0_sum 17 = .ok (.istore_n 2, 1) := by decide +kernel
theorem dX0_sum_18 : decode cX0_sum 18 = .ok (.iinc 3 1, 3) := by decide +kernel
theorem dX0_sum_21 : decode cX0_sum 21 = .ok (.goto (-17), 3) := by decide +kernel
theorem dX0_sum_24 : decode cX0_sum 24 = .ok (.iload_n 2, 1) := by decide +kernel
theorem dX0_sum_25 : decode cX0_sum 25 = .ok (.ireturn, 1) := by decide +kernel
theorem dX0_swapInto_0 : decode cX0_swapInto 0 = .ok (.aload_n 0, 1) := by decide +kernel
theorem dX0_swapInto_1 : decode cX0_swapInto 1 = .ok (.iload_n 1, 1) := by decide +kernel
theorem dX0_swapInto_2 : decode cX0_swapInto 2 = .ok (.invokevirtual 70, 3) := by decide +kernel
theorem dX0_swapInto_5 : decode cX0_swapInto 5 = .ok (.istore_n 3, 1) := by decide +kernel
theorem dX0_swapInto_6 : decode cX0_swapInto 6 = .ok (.aload_n 0, 1) := by decide +kernel
theorem dX0_swapInto_7 : decode cX0_swapInto 7 = .ok (.getfield 9, 3) := by decide +kernel
theorem dX0_swapInto_10 : decode cX0_swapInto 10 = .ok (.iload_n 2, 1) := by decide +kernel
theorem dX0_swapInto_11 : decode cX0_swapInto 11 = .ok (.iaload, 1) := by decide +kernel
theorem dX0_swapInto_12 : decode cX0_swapInto 12 = .ok (.istore 4, 2) := by decide +kernel
theorem dX0_swapInto_14 : decode cX0_swapInto 14 = .ok (.iload_n 3, 1) := by decide +kernel
theorem dX0_swapInto_15 : decode cX0_swapInto 15 = .ok (.ifCond .lt 11, 3) := by decide +kernel
theorem dX0_swapInto_18 : decode cX0_swapInto 18 = .ok (.aload_n 0, 1) := by decide +kernel
theorem dX0_swapInto_19 : decode cX0_swapInto 19 = .ok (.getfield 9, 3) := by decide +kernel
theorem dX0_swapInto_22 : decode cX0_swapInto 22 = .ok (.iload_n 3, 1) := by decide +kernel
theorem dX0_swapInto_23 : decode cX0_swapInto 23 = .ok (.iload 4, 2) := by decide +kernel
theorem dX0_swapInto_25 : decode cX0_swapInto 25 = .ok (.iastore, 1) := by decide +kernel
theorem dX0_swapInto_26 : decode cX0_swapInto 26 = .ok (.aload_n 0, 1) := by decide +kernel
theorem dX0_swapInto_27 : decode cX0_swapInto 27 = .ok (.getfield 9, 3) := by decide +kernel
theorem dX0_swapInto_30 : decode cX0_swapInto 30 = .ok (.iload_n 2, 1) := by decide +kernel
theorem dX0_swapInto_31 : decode cX0_swapInto 31 = .ok (.iload_n 1, 1) := by decide +kernel
theorem dX0_swapInto_32 : decode cX0_swapInto 32 = .ok (.iastore, 1) := by decide +kernel
theorem dX0_swapInto_33 : decode cX0_swapInto 33 = .ok (.return_, 1) := by decide +kernel
theorem dX0_throwIn_0 : decode cX0_throwIn 0 = .ok (.aload_n 0, 1) := by decide +kernel
theorem dX0_throwIn_1 : decode cX0_throwIn 1 = .ok (.invokevirtual 101, 3) := by decide +kernel
theorem dX0_throwIn_4 : decode cX0_throwIn 4 = .ok (.istore_n 1, 1) := by decide +kernel
theorem dX0_throwIn_5 : decode cX0_throwIn 5 = .ok (.aload_n 0, 1) := by decide +kernel
theorem dX0_throwIn_6 : decode cX0_throwIn 6 = .ok (.getfield 9, 3) := by decide +kernel
theorem dX0_throwIn_9 : decode cX0_throwIn 9 = .ok (.iload_n 1, 1) := by decide +kernel
theorem dX0_throwIn_10 : decode cX0_throwIn 10 = .ok (.iaload, 1) := by decide +kernel
theorem dX0_throwIn_11 : decode cX0_throwIn 11 = .ok (.istore_n 2, 1) := by decide +kernel
theorem dX0_throwIn_12 : decode cX0_throwIn 12 = .ok (.iload_n 2, 1) := by decide +kernel
theorem dX0_throwIn_13 : decode cX0_throwIn 13 = .ok (.iconst (-1), 1) := by decide +kernel
theorem dX0_throwIn_14 : decode cX0_throwIn 14 = .ok (.if_icmp .ne 20, 3) := by decide +kernel
theorem dX0_throwIn_17 : decode cX0_throwIn 17 = .ok (.aload_n 0, 1) := by decide +kernel
theorem dX0_throwIn_18 : decode cX0_throwIn 18 = .ok (.iconst 0, 1) := by decide +kernel
theorem dX0_throwIn_19 : decode cX0_throwIn 19 = .ok (.aload_n 0, 1) := by decide +kernel
theorem dX0_throwIn_20 : decode cX0_throwIn 20 = .ok (.getfield 58, 3) := by decide +kernel
theorem dX0_throwIn_23 : decode cX0_throwIn 23 = .ok (.iconst 5, 1) := by decide +kernel
theorem dX0_throwIn_24 : decode cX0_throwIn 24 = .ok (.isub, 1) := by decide +kernel
theorem dX0_throwIn_25 : decode cX0_throwIn 25 = .ok (.invokestatic 74, 3) := by decide +kernel
theorem dX0_throwIn_28 : decode cX0_throwIn 28 = .ok (.putfield 58, 3) := by decide +kernel
theorem dX0_throwIn_31 : decode cX0_throwIn 31 = .ok (.goto 32, 3) := by decide +kernel
theorem dX0_throwIn_34 : decode cX0_throwIn 34 = .ok (.aload_n 0, 1) := by decide +kernel
theorem dX0_throwIn_35 : decode cX0_throwIn 35 = .ok (.iload_n 2, 1) := by decide +kernel
theorem dX0_throwIn_36 : decode cX0_throwIn 36 = .ok (.iload_n 1, 1) := by decide +kernel
theorem dX0_throwIn_37 : decode cX0_throwIn 37 = .ok (.invokevirtual 104, 3) := by decide +kernel
theorem dX0_throwIn_40 : decode cX0_throwIn 40 = .ok (.aload_n 0, 1) := by decide +kernel
theorem dX0_throwIn_41 : decode cX0_throwIn 41 = .ok (.getfield 30, 3) := by decide +kernel
theorem dX0_throwIn_44 : decode cX0_throwIn 44 = .ok (.iload_n 2, 1) := by decide +kernel
theorem dX0_throwIn_45 : decode cX0_throwIn 45 = .ok (.bipush 99, 2) := by decide +kernel
theorem dX0_throwIn_47 : decode cX0_throwIn 47 = .ok (.aload_n 0, 1) := by decide +kernel
theorem dX0_throwIn_48 : decode cX0_throwIn 48 = .ok (.getfield 30, 3) := by decide +kernel
theorem dX0_throwIn_51 : decode cX0_throwIn 51 = .ok (.iload_n 2, 1) := by decide +kernel
theorem dX0_throwIn_52 : decode cX0_throwIn 52 = .ok (.iaload, 1) := by decide +kernel
theorem dX0_throwIn_53 : decode cX0_throwIn 53 = .ok (.aload_n 0, 1) := by decide +kernel
theorem dX0_throwIn_54 : decode cX0_throwIn 54 = .ok (.iload_n 2, 1) := by decide +kernel
theorem dX0_throwIn_55 : decode cX0_throwIn 55 = .ok (.invokevirtual 108, 3) := by decide +kernel
theorem dX0_throwIn_58 : decode cX0_throwIn 58 = .ok (.iadd, 1) := by decide +kernel
theorem dX0_throwIn_59 : decode cX0_throwIn 59 = .ok (.invokestatic 111, 3) := by decide +kernel
theorem dX0_throwIn_62 : decode cX0_throwIn 62 = .ok (.iastore, 1) := by decide +kernel
theorem dX0_throwIn_63 : decode cX0_throwIn 63 = .ok (.aload_n 0, 1) := by decide +kernel
theorem dX0_throwIn_64 : decode cX0_throwIn 64 = .ok (.iload_n 2, 1) := by decide +kernel
theorem dX0_throwIn_65 : decode cX0_throwIn 65 = .ok (.invokevirtual 114, 3) := by decide +kernel
theorem dX0_throwIn_68 : decode cX0_throwIn 68 = .ok (.aload_n 0, 1) := by decide +kernel
theorem dX0_throwIn_69 : decode cX0_throwIn 69 = .ok (.iload_n 1, 1) := by decide +kernel
theorem dX0_throwIn_70 : decode cX0_throwIn 70 = .ok (.invokevirtual 118, 3) := by decide +kernel
theorem dX0_throwIn_73 : decode cX0_throwIn 73 = .ok (.aload_n 0, 1) := by decide +kernel
theorem dX0_throwIn_74 : decode cX0_throwIn 74 = .ok (.ldc 121, 2) := by decide +kernel
theorem dX0_throwIn_76 : decode cX0_throwIn 76 = .ok (.aload_n 0, 1) := by decide +kernel
theorem dX0_throwIn_77 : decode cX0_throwIn 77 = .ok (.getfield 55, 3) := by decide +kernel
theorem dX0_throwIn_80 : decode cX0_throwIn 80 = .ok (.iconst 1, 1) := by decide +kernel
theorem dX0_throwIn_81 : decode cX0_throwIn 81 = .ok (.iadd, 1) := by decide +kernel
theorem dX0_throwIn_82 : decode cX0_throwIn 82 = .ok (.invokestatic 111, 3) := by decide +kernel
theorem dX0_throwIn_85 : decode cX0_throwIn 85 = .ok (.putfield 55, 3) := by decide +kernel
theorem dX0_throwIn_88 : decode cX0_throwIn 88 = .ok (.return_, 1) := by decide +kernel
theorem dX0_throwMany_0 : decode cX0_throwMany 0 = .ok (.iconst 0, 1) := by decide +kernel
theorem dX0_throwMany_1 : decode cX0_throwMany 1 = .ok (.istore_n 2, 1) := by decide +kernel
theorem dX0_throwMany_2 : decode cX0_throwMany 2 = .ok (.iload_n 2, 1) := by decide +kernel
theorem dX0_throwMany_3 : decode cX0_throwMany 3 = .ok (.iload_n 1, 1) := by decide +kernel
theorem dX0_throwMany_4 : decode cX0_throwMany 4 = .ok (.if_icmp .ge 13, 3) := by decide +kernel
theorem dX0_throwMany_7 : decode cX0_throwMany 7 = .ok (.aload_n 0, 1) := by decide +kernel
theorem dX0_throwMany_8 : decode cX0_throwMany 8 = .ok (.invokevirtual 98, 3) := by decide +kernel
theorem dX0_throwMany_11 : decode cX0_throwMany 11 = .ok (.iinc 2 1, 3) := by decide +kernel
theorem dX0_throwMany_14 : decode cX0_throwMany 14 = .ok (.goto (-12), 3) := by decide +kernel
theorem dX0_throwMany_17 : decode cX0_throwMany 17 = .ok (.aload_n 0, 1) := by decide +kernel
theorem dX0_throwMany_18 : decode cX0_throwMany 18 = .ok (.getfield 58, 3) := by decide +kernel
theorem dX0_throwMany_21 : decode cX0_throwMany 21 = .ok (.ireturn, 1) := by decide +kernel
theorem dX0_tiringOf_0 : decode cX0_tiringOf 0 = .ok (.aload_n 0, 1) := by decide +kernel
theorem dX0_tiringOf_1 : decode cX0_tiringOf 1 = .ok (.getfield 24, 3) := by decide +kernel
theorem dX0_tiringOf_4 : decode cX0_tiringOf 4 = .ok (.iload_n 1, 1) := by decide +kernel
theorem dX0_tiringOf_5 : decode cX0_tiringOf 5 = .ok (.iaload, 1) := by decide +kernel
theorem dX0_tiringOf_6 : decode cX0_tiringOf 6 = .ok (.tableswitch 55 1 6 #[38, 43, 43, 45, 48, 41], 38) := by decide +kernel
theorem dX0_tiringOf_44 : decode cX0_tiringOf 44 = .ok (.bipush 8, 2) := by decide +kernel
theorem dX0_tiringOf_46 : decode cX0_tiringOf 46 = .ok (.ireturn, 1) := by decide +kernel
theorem dX0_tiringOf_47 : decode cX0_tiringOf 47 = .ok (.iconst 2, 1) := by decide +kernel
theorem dX0_tiringOf_48 : decode cX0_tiringOf 48 = .ok (.ireturn, 1) := by decide +kernel
theorem dX0_tiringOf_49 : decode cX0_tiringOf 49 = .ok (.iconst 4, 1) := by decide +kernel
theorem dX0_tiringOf_50 : decode cX0_tiringOf 50 = .ok (.ireturn, 1) := by decide +kernel
theorem dX0_tiringOf_51 : decode cX0_tiringOf 51 = .ok (.bipush 8, 2) := by decide +kernel
theorem dX0_tiringOf_53 : decode cX0_tiringOf 53 = .ok (.ireturn, 1) := by decide +kernel
theorem dX0_tiringOf_54 : decode cX0_tiringOf 54 = .ok (.iconst 5, 1) := by decide +kernel
theorem dX0_tiringOf_55 : decode cX0_tiringOf 55 = .ok (.aload_n 0, 1) := by decide +kernel
theorem dX0_tiringOf_56 : decode cX0_tiringOf 56 = .ok (.getfield 49, 3) := by decide +kernel
theorem dX0_tiringOf_59 : decode cX0_tiringOf 59 = .ok (.iadd, 1) := by decide +kernel
theorem dX0_tiringOf_60 : decode cX0_tiringOf 60 = .ok (.ireturn, 1) := by decide +kernel
theorem dX0_tiringOf_61 : decode cX0_tiringOf 61 = .ok (.iconst 5, 1) := by decide +kernel
theorem dX0_tiringOf_62 : decode cX0_tiringOf 62 = .ok (.ireturn, 1) := by decide +kernel
theorem dX0_whereIs_0 : decode cX0_whereIs 0 = .ok (.iconst 0, 1) := by decide +kernel
theorem dX0_whereIs_1 : decode cX0_whereIs 1 = .ok (.istore_n 2, 1) := by decide +kernel
theorem dX0_whereIs_2 : decode cX0_whereIs 2 = .ok (.iload_n 2, 1) := by decide +kernel
theorem dX0_whereIs_3 : decode cX0_whereIs 3 = .ok (.bipush 7, 2) := by decide +kernel
theorem dX0_whereIs_5 : decode cX0_whereIs 5 = .ok (.if_icmp .ge 21, 3) := by decide +kernel
theorem dX0_whereIs_8 : decode cX0_whereIs 8 = .ok (.aload_n 0, 1) := by decide +kernel
theorem dX0_whereIs_9 : decode cX0_whereIs 9 = .ok (.getfield 9, 3) := by decide +kernel
theorem dX0_whereIs_12 : decode cX0_whereIs 12 = .ok (.iload_n 2, 1) := by decide +kernel
theorem dX0_whereIs_13 : decode cX0_whereIs 13 = .ok (.iaload, 1) := by decide +kernel
theorem dX0_whereIs_14 : decode cX0_whereIs 14 = .ok (.iload_n 1, 1) := by decide +kernel
theorem dX0_whereIs_15 : decode cX0_whereIs 15 = .ok (.if_icmp .ne 5, 3) := by decide +kernel
theorem dX0_whereIs_18 : decode cX0_whereIs 18 = .ok (.iload_n 2, 1) := by decide +kernel
theorem dX0_whereIs_19 : decode cX0_whereIs 19 = .ok (.ireturn, 1) := by decide +kernel
theorem dX0_whereIs_20 : decode cX0_whereIs 20 = .ok (.iinc 2 1, 3) := by decide +kernel
theorem dX0_whereIs_23 : decode cX0_whereIs 23 = .ok (.goto (-21), 3) := by decide +kernel
theorem dX0_whereIs_26 : decode cX0_whereIs 26 = .ok (.iconst (-1), 1) := by decide +kernel
theorem dX0_whereIs_27 : decode cX0_whereIs 27 = .ok (.ireturn, 1) := by decide +kernel
theorem dX0_winnable_0 : decode cX0_winnable 0 = .ok (.iconst 0, 1) := by decide +kernel
theorem dX0_winnable_1 : decode cX0_winnable 1 = .ok (.istore_n 1, 1) := by decide +kernel
theorem dX0_winnable_2 : decode cX0_winnable 2 = .ok (.iconst 0, 1) := by decide +kernel
theorem dX0_winnable_3 : decode cX0_winnable 3 = .ok (.istore_n 2, 1) := by decide +kernel
theorem dX0_winnable_4 : decode cX0_winnable 4 = .ok (.iload_n 2, 1) := by decide +kernel
theorem dX0_winnable_5 : decode cX0_winnable 5 = .ok (.bipush 7, 2) := by decide +kernel
theorem dX0_winnable_7 : decode cX0_winnable 7 = .ok (.if_icmp .ge 23, 3) := by decide +kernel
theorem dX0_winnable_10 : decode cX0_winnable 10 = .ok (.aload_n 0, 1) := by decide +kernel
theorem dX0_winnable_11 : decode cX0_winnable 11 = .ok (.iload_n 2, 1) := by decide +kernel
theorem dX0_winnable_12 : decode cX0_winnable 12 = .ok (.invokevirtual 86, 3) := by decide +kernel
theorem dX0_winnable_15 : decode cX0_winnable 15 = .ok (.ifCond .eq 9, 3) := by decide +kernel
theorem dX0_winnable_18 : decode cX0_winnable 18 = .ok (.iload_n 1, 1) := by decide +kernel
theorem dX0_winnable_19 : decode cX0_winnable 19 = .ok (.iconst 1, 1) := by decide +kernel
theorem dX0_winnable_20 : decode cX0_winnable 20 = .ok (.iload_n 2, 1) := by decide +kernel
theorem dX0_winnable_21 : decode cX0_winnable 21 = .ok (.ishl, 1) := by decide +kernel
theorem dX0_winnable_22 : decode cX0_winnable 22 = .ok (.ior, 1) := by decide +kernel
theorem dX0_winnable_23 : decode cX0_winnable 23 = .ok (.istore_n 1, 1) := by decide +kernel
theorem dX0_winnable_24 : decode cX0_winnable 24 = .ok (.iinc 2 1, 3) := by decide +kernel
theorem dX0_winnable_27 : decode cX0_winnable 27 = .ok (.goto (-23), 3) := by decide +kernel
theorem dX0_winnable_30 : decode cX0_winnable 30 = .ok (.iload_n 1, 1) := by decide +kernel
theorem dX0_winnable_31 : decode cX0_winnable 31 = .ok (.ireturn, 1) := by decide +kernel
theorem dX0_wouldWin_0 : decode cX0_wouldWin 0 = .ok (.aload_n 0, 1) := by decide +kernel
theorem dX0_wouldWin_1 : decode cX0_wouldWin 1 = .ok (.getfield 9, 3) := by decide +kernel
theorem dX0_wouldWin_4 : decode cX0_wouldWin 4 = .ok (.iload_n 1, 1) := by decide +kernel
theorem dX0_wouldWin_5 : decode cX0_wouldWin 5 = .ok (.iaload, 1) := by decide +kernel
theorem dX0_wouldWin_6 : decode cX0_wouldWin 6 = .ok (.istore_n 2, 1) := by decide +kernel
theorem dX0_wouldWin_7 : decode cX0_wouldWin 7 = .ok (.iload_n 2, 1) := by decide +kernel
theorem dX0_wouldWin_8 : decode cX0_wouldWin 8 = .ok (.iconst (-1), 1) := by decide +kernel
theorem dX0_wouldWin_9 : decode cX0_wouldWin 9 = .ok (.if_icmp .eq 20, 3) := by decide +kernel
theorem dX0_wouldWin_12 : decode cX0_wouldWin 12 = .ok (.aload_n 0, 1) := by decide +kernel
theorem dX0_wouldWin_13 : decode cX0_wouldWin 13 = .ok (.iload_n 2, 1) := by decide +kernel
theorem dX0_wouldWin_14 : decode cX0_wouldWin 14 = .ok (.invokevirtual 80, 3) := by decide +kernel
theorem dX0_wouldWin_17 : decode cX0_wouldWin 17 = .ok (.aload_n 0, 1) := by decide +kernel
theorem dX0_wouldWin_18 : decode cX0_wouldWin 18 = .ok (.iload_n 1, 1) := by decide +kernel
theorem dX0_wouldWin_19 : decode cX0_wouldWin 19 = .ok (.invokevirtual 83, 3) := by decide +kernel
theorem dX0_wouldWin_22 : decode cX0_wouldWin 22 = .ok (.if_icmp .le 7, 3) := by decide +kernel
theorem dX0_wouldWin_25 : decode cX0_wouldWin 25 = .ok (.iconst 1, 1) := by decide +kernel
theorem dX0_wouldWin_26 : decode cX0_wouldWin 26 = .ok (.goto 4, 3) := by decide +kernel
theorem dX0_wouldWin_29 : decode cX0_wouldWin 29 = .ok (.iconst 0, 1) := by decide +kernel
theorem dX0_wouldWin_30 : decode cX0_wouldWin 30 = .ok (.ireturn, 1) := by decide +kernel
theorem dX4_commonDivisor_0 : decode cX4_commonDivisor 0 = .ok (.iload_n 1, 1) := by decide +kernel
theorem dX4_commonDivisor_1 : decode cX4_commonDivisor 1 = .ok (.istore_n 2, 1) := by decide +kernel
theorem dX4_commonDivisor_2 : decode cX4_commonDivisor 2 = .ok (.iload_n 0, 1) := by decide +kernel
theorem dX4_commonDivisor_3 : decode cX4_commonDivisor 3 = .ok (.istore_n 3, 1) := by decide +kernel
theorem dX4_commonDivisor_4 : decode cX4_commonDivisor 4 = .ok (.iconst 0, 1) := by decide +kernel
theorem dX4_commonDivisor_5 : decode cX4_commonDivisor 5 = .ok (.istore 4, 2) := by decide +kernel
theorem dX4_commonDivisor_7 : decode cX4_commonDivisor 7 = .ok (.iload 4, 2) := by decide +kernel
theorem dX4_commonDivisor_9 : decode cX4_commonDivisor 9 = .ok (.bipush 64, 2) := by decide +kernel
theorem dX4_commonDivisor_11 : decode cX4_commonDivisor 11 = .ok (.if_icmp .ge 23, 3) := by decide +kernel
theorem dX4_commonDivisor_14 : decode cX4_commonDivisor 14 = .ok (.iload_n 3, 1) := by decide +kernel
theorem dX4_commonDivisor_15 : decode cX4_commonDivisor 15 = .ok (.ifCond .eq 19, 3) := by decide +kernel
theorem dX4_commonDivisor_18 : decode cX4_commonDivisor 18 = .ok (.iload_n 2, 1) := by decide +kernel
theorem dX4_commonDivisor_19 : decode cX4_commonDivisor 19 = .ok (.iload_n 3, 1) := by decide +kernel
theorem dX4_commonDivisor_20 : decode cX4_commonDivisor 20 = .ok (.irem, 1) := by decide +kernel
theorem dX4_commonDivisor_21 : decode cX4_commonDivisor 21 = .ok (.istore 5, 2) := by decide +kernel
theorem dX4_commonDivisor_23 : decode cX4_commonDivisor 23 = .ok (.iload_n 3, 1) := by decide +kernel
theorem dX4_commonDivisor_24 : decode cX4_commonDivisor 24 = .ok (.istore_n 2, 1) := by decide +kernel
theorem dX4_commonDivisor_25 : decode cX4_commonDivisor 25 = .ok (.iload 5, 2) := by decide +kernel
theorem dX4_commonDivisor_27 : decode cX4_commonDivisor 27 = .ok (.istore_n 3, 1) := by decide +kernel
theorem dX4_commonDivisor_28 : decode cX4_commonDivisor 28 = .ok (.iinc 4 1, 3) := by decide +kernel
theorem dX4_commonDivisor_31 : decode cX4_commonDivisor 31 = .ok (.goto (-24), 3) := by decide +kernel
theorem dX4_commonDivisor_34 : decode cX4_commonDivisor 34 = .ok (.iload_n 2, 1) := by decide +kernel
theorem dX4_commonDivisor_35 : decode cX4_commonDivisor 35 = .ok (.ireturn, 1) := by decide +kernel
theorem dX4_isKindOf_0 : decode cX4_isKindOf 0 = .ok (.iload_n 0, 1) := by decide +kernel
theorem dX4_isKindOf_1 : decode cX4_isKindOf 1 = .ok (.istore_n 2, 1) := by decide +kernel
theorem dX4_isKindOf_2 : decode cX4_isKindOf 2 = .ok (.iconst 0, 1) := by decide +kernel
theorem dX4_isKindOf_3 : decode cX4_isKindOf 3 = .ok (.istore_n 3, 1) := by decide +kernel
theorem dX4_isKindOf_4 : decode cX4_isKindOf 4 = .ok (.iload_n 3, 1) := by decide +kernel
theorem dX4_isKindOf_5 : decode cX4_isKindOf 5 = .ok (.bipush 7, 2) := by decide +kernel
theorem dX4_isKindOf_7 : decode cX4_isKindOf 7 = .ok (.if_icmp .ge 26, 3) := by decide +kernel
theorem dX4_isKindOf_10 : decode cX4_isKindOf 10 = .ok (.iload_n 2, 1) := by decide +kernel
theorem dX4_isKindOf_11 : decode cX4_isKindOf 11 = .ok (.ifCond .lt 22, 3) := by decide +kernel
theorem dX4_isKindOf_14 : decode cX4_isKindOf 14 = .ok (.iload_n 2, 1) := by decide +kernel
theorem dX4_isKindOf_15 : decode cX4_isKindOf 15 = .ok (.iload_n 1, 1) := by decide +kernel
theorem dX4_isKindOf_16 : decode cX4_isKindOf 16 = .ok (.if_icmp .ne 5, 3) := by decide +kernel
theorem dX4_isKindOf_19 : decode cX4_isKindOf 19 = .ok (.iconst 1, 1) := by decide +kernel
theorem dX4_isKindOf_20 : decode cX4_isKindOf 20 = .ok (.ireturn, 1) := by decide +kernel
theorem dX4_isKindOf_21 : decode cX4_isKindOf 21 = .ok (.getstatic 255, 3) := by decide +kernel
theorem dX4_isKindOf_24 : decode cX4_isKindOf 24 = .ok (.iload_n 2, 1) := by decide +kernel
theorem dX4_isKindOf_25 : decode cX4_isKindOf 25 = .ok (.iaload, 1) := by decide +kernel
theorem dX4_isKindOf_26 : decode cX4_isKindOf 26 = .ok (.istore_n 2, 1) := by decide +kernel
theorem dX4_isKindOf_27 : decode cX4_isKindOf 27 = .ok (.iinc 3 1, 3) := by decide +kernel
theorem dX4_isKindOf_30 : decode cX4_isKindOf 30 = .ok (.goto (-26), 3) := by decide +kernel
theorem dX4_isKindOf_33 : decode cX4_isKindOf 33 = .ok (.iconst 0, 1) := by decide +kernel
theorem dX4_isKindOf_34 : decode cX4_isKindOf 34 = .ok (.ireturn, 1) := by decide +kernel
theorem dX4_isPlace_0 : decode cX4_isPlace 0 = .ok (.iload_n 0, 1) := by decide +kernel
theorem dX4_isPlace_1 : decode cX4_isPlace 1 = .ok (.iconst 0, 1) := by decide +kernel
theorem dX4_isPlace_2 : decode cX4_isPlace 2 = .ok (.bipush 6, 2) := by decide +kernel
theorem dX4_isPlace_4 : decode cX4_isPlace 4 = .ok (.invokestatic 76, 3) := by decide +kernel
theorem dX4_isPlace_7 : decode cX4_isPlace 7 = .ok (.ireturn, 1) := by decide +kernel
theorem dX4_isSheet_0 : decode cX4_isSheet 0 = .ok (.iload_n 0, 1) := by decide +kernel
theorem dX4_isSheet_1 : decode cX4_isSheet 1 = .ok (.iconst 0, 1) := by decide +kernel
theorem dX4_isSheet_2 : decode cX4_isSheet 2 = .ok (.iconst 3, 1) := by decide +kernel
theorem dX4_isSheet_3 : decode cX4_isSheet 3 = .ok (.invokestatic 76, 3) := by decide +kernel
theorem dX4_isSheet_6 : decode cX4_isSheet 6 = .ok (.ireturn, 1) := by decide +kernel
theorem dX4_mostOf_0 : decode cX4_mostOf 0 = .ok (.iload_n 0, 1) := by decide +kernel
theorem dX4_mostOf_1 : decode cX4_mostOf 1 = .ok (.tableswitch 36 0 2 #[27, 30, 33], 27) := by decide +kernel
theorem dX4_mostOf_28 : decode cX4_mostOf 28 = .ok (.bipush 6, 2) := by decide +kernel
theorem dX4_mostOf_30 : decode cX4_mostOf 30 = .ok (.ireturn, 1) := by decide +kernel
theorem dX4_mostOf_31 : decode cX4_mostOf 31 = .ok (.bipush 99, 2) := by decide +kernel
theorem dX4_mostOf_33 : decode cX4_mostOf 33 = .ok (.ireturn, 1) := by decide +kernel
theorem dX4_mostOf_34 : decode cX4_mostOf 34 = .ok (.bipush 99, 2) := by decide +kernel
theorem dX4_mostOf_36 : decode cX4_mostOf 36 = .ok (.ireturn, 1) := by decide +kernel
theorem dX4_mostOf_37 : decode cX4_mostOf 37 = .ok (.sipush 9999, 3) := by decide +kernel
theorem dX4_mostOf_40 : decode cX4_mostOf 40 = .ok (.ireturn, 1) := by decide +kernel
theorem dX4_mostOfSetting_0 : decode cX4_mostOfSetting 0 = .ok (.iload_n 0, 1) := by decide +kernel
theorem dX4_mostOfSetting_1 : decode cX4_mostOfSetting 1 = .ok (.iconst 2, 1) := by decide +kernel
theorem dX4_mostOfSetting_2 : decode cX4_mostOfSetting 2 = .ok (.if_icmp .ne 7, 3) := by decide +kernel
theorem dX4_mostOfSetting_5 : decode cX4_mostOfSetting 5 = .ok (.iconst 4, 1) := by decide +kernel
theorem dX4_mostOfSetting_6 : decode cX4_mostOfSetting 6 = .ok (.goto 5, 3) := by decide +kernel
theorem dX4_mostOfSetting_9 : decode cX4_mostOfSetting 9 = .ok (.bipush 9, 2) := by decide +kernel
theorem dX4_mostOfSetting_11 : decode cX4_mostOfSetting 11 = .ok (.ireturn, 1) := by decide +kernel
theorem dX4_placeSaid_0 : decode cX4_placeSaid 0 = .ok (.iload_n 0, 1) := by decide +kernel
theorem dX4_placeSaid_1 : decode cX4_placeSaid 1 = .ok (.bipush 10, 2) := by decide +kernel
theorem dX4_placeSaid_3 : decode cX4_placeSaid 3 = .ok (.irem, 1) := by decide +kernel
theorem dX4_placeSaid_4 : decode cX4_placeSaid 4 = .ok (.istore_n 2, 1) := by decide +kernel
theorem dX4_placeSaid_5 : decode cX4_placeSaid 5 = .ok (.iload_n 0, 1) := by decide +kernel
theorem dX4_placeSaid_6 : decode cX4_placeSaid 6 = .ok (.bipush 10, 2) := by decide +kernel
theorem dX4_placeSaid_8 : decode cX4_placeSaid 8 = .ok (.idiv, 1) := by decide +kernel
theorem dX4_placeSaid_9 : decode cX4_placeSaid 9 = .ok (.bipush 10, 2) := by decide +kernel
theorem dX4_placeSaid_11 : decode cX4_placeSaid 11 = .ok (.irem, 1) := by decide +kernel
theorem dX4_placeSaid_12 : decode cX4_placeSaid 12 = .ok (.istore_n 3, 1) := by decide +kernel
theorem dX4_placeSaid_13 : decode cX4_placeSaid 13 = .ok (.iload_n 0, 1) := by decide +kernel
theorem dX4_placeSaid_14 : decode cX4_placeSaid 14 = .ok (.bipush 100, 2) := by decide +kernel
theorem dX4_placeSaid_16 : decode cX4_placeSaid 16 = .ok (.idiv, 1) := by decide +kernel
theorem dX4_placeSaid_17 : decode cX4_placeSaid 17 = .ok (.istore 4, 2) := by decide +kernel
theorem dX4_placeSaid_19 : decode cX4_placeSaid 19 = .ok (.iload_n 1, 1) := by decide +kernel
theorem dX4_placeSaid_20 : decode cX4_placeSaid 20 = .ok (.tableswitch 78 0 3 #[32, 37, 47, 53], 32) := by decide +kernel
theorem dX4_placeSaid_52 : decode cX4_placeSaid 52 = .ok (.iload_n 2, 1) := by decide +kernel
theorem dX4_placeSaid_53 : decode cX4_placeSaid 53 = .ok (.bipush 7, 2) := by decide +kernel
theorem dX4_placeSaid_55 : decode cX4_placeSaid 55 = .ok (.irem, 1) := by decide +kernel
theorem dX4_placeSaid_56 : decode cX4_placeSaid 56 = .ok (.ireturn, 1) := by decide +kernel
theorem dX4_placeSaid_57 : decode cX4_placeSaid 57 = .ok (.iload_n 2, 1) := by decide +kernel
theorem dX4_placeSaid_58 : decode cX4_placeSaid 58 = .ok (.iload_n 3, 1) := by decide +kernel
theorem dX4_placeSaid_59 : decode cX4_placeSaid 59 = .ok (.iadd, 1) := by decide +kernel
theorem dX4_placeSaid_60 : decode cX4_placeSaid 60 = .ok (.iload 4, 2) := by decide +kernel
theorem dX4_placeSaid_62 : decode cX4_placeSaid 62 = .ok (.iadd, 1) := by decide +kernel
theorem dX4_placeSaid_63 : decode cX4_placeSaid 63 = .ok (.bipush 7, 2) := by decide +kernel
theorem dX4_placeSaid_65 : decode cX4_placeSaid 65 = .ok (.irem, 1) := by decide +kernel
theorem dX4_placeSaid_66 : decode cX4_placeSaid 66 = .ok (.ireturn, 1) := by decide +kernel
theorem dX4_placeSaid_67 : decode cX4_placeSaid 67 = .ok (.iload 4, 2) := by decide +kernel
theorem dX4_placeSaid_69 : decode cX4_placeSaid 69 = .ok (.bipush 7, 2) := by decide +kernel
theorem dX4_placeSaid_71 : decode cX4_placeSaid 71 = .ok (.irem, 1) := by decide +kernel
theorem dX4_placeSaid_72 : decode cX4_placeSaid 72 = .ok (.ireturn, 1) := by decide +kernel
theorem dX4_placeSaid_73 : decode cX4_placeSaid 73 = .ok (.iload_n 2, 1) := by decide +kernel
theorem dX4_placeSaid_74 : decode cX4_placeSaid 74 = .ok (.iconst 2, 1) := by decide +kernel
theorem dX4_placeSaid_75 : decode cX4_placeSaid 75 = .ok (.irem, 1) := by decide +kernel
theorem dX4_placeSaid_76 : decode cX4_placeSaid 76 = .ok (.iconst 1, 1) := by decide +kernel
theorem dX4_placeSaid_77 : decode cX4_placeSaid 77 = .ok (.if_icmp .ne 7, 3) := by decide +kernel
theorem dX4_placeSaid_80 : decode cX4_placeSaid 80 = .ok (.iconst 0, 1) := by decide +kernel
theorem dX4_placeSaid_81 : decode cX4_placeSaid 81 = .ok (.goto 16, 3) := by decide +kernel
theorem dX4_placeSaid_84 : decode cX4_placeSaid 84 = .ok (.iload_n 3, 1) := by decide +kernel
theorem dX4_placeSaid_85 : decode cX4_placeSaid 85 = .ok (.iconst 2, 1) := by decide +kernel
theorem dX4_placeSaid_86 : decode cX4_placeSaid 86 = .ok (.irem, 1) := by decide +kernel
theorem dX4_placeSaid_87 : decode cX4_placeSaid 87 = .ok (.iconst 1, 1) := by decide +kernel
theorem dX4_placeSaid_88 : decode cX4_placeSaid 88 = .ok (.if_icmp .ne 7, 3) := by decide +kernel
theorem dX4_placeSaid_91 : decode cX4_placeSaid 91 = .ok (.iconst 3, 1) := by decide +kernel
theorem dX4_placeSaid_92 : decode cX4_placeSaid 92 = .ok (.goto 5, 3) := by decide +kernel
theorem dX4_placeSaid_95 : decode cX4_placeSaid 95 = .ok (.bipush 6, 2) := by decide +kernel
theorem dX4_placeSaid_97 : decode cX4_placeSaid 97 = .ok (.ireturn, 1) := by decide +kernel
theorem dX4_placeSaid_98 : decode cX4_placeSaid 98 = .ok (.iload_n 0, 1) := by decide +kernel
theorem dX4_placeSaid_99 : decode cX4_placeSaid 99 = .ok (.invokestatic 258, 3) := by decide +kernel
theorem dX4_placeSaid_102 : decode cX4_placeSaid 102 = .ok (.bipush 7, 2) := by decide +kernel
theorem dX4_placeSaid_104 : decode cX4_placeSaid 104 = .ok (.irem, 1) := by decide +kernel
theorem dX4_placeSaid_105 : decode cX4_placeSaid 105 = .ok (.ireturn, 1) := by decide +kernel
theorem dX4_within_0 : decode cX4_within 0 = .ok (.iload_n 0, 1) := by decide +kernel
theorem dX4_within_1 : decode cX4_within 1 = .ok (.iload_n 1, 1) := by decide +kernel
theorem dX4_within_2 : decode cX4_within 2 = .ok (.if_icmp .lt 12, 3) := by decide +kernel
theorem dX4_within_5 : decode cX4_within 5 = .ok (.iload_n 0, 1) := by decide +kernel
theorem dX4_within_6 : decode cX4_within 6 = .ok (.iload_n 2, 1) := by decide +kernel
theorem dX4_within_7 : decode cX4_within 7 = .ok (.if_icmp .gt 7, 3) := by decide +kernel
theorem dX4_within_10 : decode cX4_within 10 = .ok (.iconst 1, 1) := by decide +kernel
theorem dX4_within_11 : decode cX4_within 11 = .ok (.goto 4, 3) := by decide +kernel
theorem dX4_within_14 : decode cX4_within 14 = .ok (.iconst 0, 1) := by decide +kernel
theorem dX4_within_15 : decode cX4_within 15 = .ok (.ireturn, 1) := by decide +kernel
