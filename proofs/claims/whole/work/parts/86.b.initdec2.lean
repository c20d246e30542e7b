theorem dX4_init_43 : decode cX4_init 43 = .ok (.new 26, 3) := by decide +kernel
theorem dX4_init_46 : decode cX4_init 46 = .ok (.dup, 1) := by decide +kernel
theorem dX4_init_47 : decode cX4_init 47 = .ok (.invokespecial 28, 3) := by decide +kernel
theorem dX4_init_50 : decode cX4_init 50 = .ok (.putfield 29, 3) := by decide +kernel
theorem dX4_init_53 : decode cX4_init 53 = .ok (.aload_n 0, 1) := by decide +kernel
theorem dX4_init_54 : decode cX4_init 54 = .ok (.aload_n 0, 1) := by decide +kernel
theorem dX4_init_55 : decode cX4_init 55 = .ok (.getfield 29, 3) := by decide +kernel
theorem dX4_init_58 : decode cX4_init 58 = .ok (.getfield 33, 3) := by decide +kernel
theorem dX4_init_61 : decode cX4_init 61 = .ok (.putfield 37, 3) := by decide +kernel
theorem dX4_init_64 : decode cX4_init 64 = .ok (.aload_n 0, 1) := by decide +kernel
theorem dX4_init_65 : decode cX4_init 65 = .ok (.iconst 4, 1) := by decide +kernel
theorem dX4_init_66 : decode cX4_init 66 = .ok (.anewarray 38, 3) := by decide +kernel
theorem dX4_init_69 : decode cX4_init 69 = .ok (.putfield 40, 3) := by decide +kernel
theorem dX4_init_72 : decode cX4_init 72 = .ok (.aload_n 0, 1) := by decide +kernel
theorem dX4_init_73 : decode cX4_init 73 = .ok (.bipush 7, 2) := by decide +kernel
theorem dX4_init_75 : decode cX4_init 75 = .ok (.newarray .int, 2) := by decide +kernel
theorem dX4_init_77 : decode cX4_init 77 = .ok (.putfield 44, 3) := by decide +kernel
theorem dX4_init_80 : decode cX4_init 80 = .ok (.iconst 0, 1) := by decide +kernel
theorem dX4_init_81 : decode cX4_init 81 = .ok (.istore_n 1, 1) := by decide +kernel
theorem dX4_init_82 : decode cX4_init 82 = .ok (.iload_n 1, 1) := by decide +kernel
theorem dX4_init_83 : decode cX4_init 83 = .ok (.iconst 4, 1) := by decide +kernel
theorem dX4_init_84 : decode cX4_init 84 = .ok (.if_icmp .ge 22, 3) := by decide +kernel
theorem dX4_init_87 : decode cX4_init 87 = .ok (.aload_n 0, 1) := by decide +kernel
theorem dX4_init_88 : decode cX4_init 88 = .ok (.getfield 40, 3) := by decide +kernel
theorem dX4_init_91 : decode cX4_init 91 = .ok (.iload_n 1, 1) := by decide +kernel
theorem dX4_init_92 : decode cX4_init 92 = .ok (.new 38, 3) := by decide +kernel
theorem dX4_init_95 : decode cX4_init 95 = .ok (.dup, 1) := by decide +kernel
theorem dX4_init_96 : decode cX4_init 96 = .ok (.invokespecial 48, 3) := by decide +kernel
theorem dX4_init_99 : decode cX4_init 99 = .ok (.aastore, 1) := by decide +kernel
theorem dX4_init_100 : decode cX4_init 100 = .ok (.iinc 1 1, 3) := by decide +kernel
theorem dX4_init_103 : decode cX4_init 103 = .ok (.goto (-21), 3) := by decide +kernel
theorem dX4_init_106 : decode cX4_init 106 = .ok (.return_, 1) := by decide +kernel
theorem dX5_init_0 : decode cX5_init 0 = .ok (.aload_n 0, 1) := by decide +kernel
theorem dX5_init_1 : decode cX5_init 1 = .ok (.invokespecial 1, 3) := by decide +kernel
theorem dX5_init_4 : decode cX5_init 4 = .ok (.aload_n 0, 1) := by decide +kernel
theorem dX5_init_5 : decode cX5_init 5 = .ok (.bipush 84, 2) := by decide +kernel
theorem dX5_init_7 : decode cX5_init 7 = .ok (.newarray .int, 2) := by decide +kernel
theorem dX5_init_9 : decode cX5_init 9 = .ok (.putfield 9, 3) := by decide +kernel
theorem dX5_init_12 : decode cX5_init 12 = .ok (.aload_n 0, 1) := by decide +kernel
theorem dX5_init_13 : decode cX5_init 13 = .ok (.bipush 84, 2) := by decide +kernel
theorem dX5_init_15 : decode cX5_init 15 = .ok (.newarray .int, 2) := by decide +kernel
theorem dX5_init_17 : decode cX5_init 17 = .ok (.putfield 13, 3) := by decide +kernel
theorem dX5_init_20 : decode cX5_init 20 = .ok (.aload_n 0, 1) := by decide +kernel
theorem dX5_init_21 : decode cX5_init 21 = .ok (.bipush 84, 2) := by decide +kernel
theorem dX5_init_23 : decode cX5_init 23 = .ok (.newarray .int, 2) := by decide +kernel
theorem dX5_init_25 : decode cX5_init 25 = .ok (.putfield 16, 3) := by decide +kernel
theorem dX5_init_28 : decode cX5_init 28 = .ok (.aload_n 0, 1) := by decide +kernel
theorem dX5_init_29 : decode cX5_init 29 = .ok (.bipush 8, 2) := by decide +kernel
theorem dX5_init_31 : decode cX5_init 31 = .ok (.newarray .int, 2) := by decide +kernel
theorem dX5_init_33 : decode cX5_init 33 = .ok (.putfield 19, 3) := by decide +kernel
theorem dX5_init_36 : decode cX5_init 36 = .ok (.aload_n 0, 1) := by decide +kernel
theorem dX5_init_37 : decode cX5_init 37 = .ok (.bipush 120, 2) := by decide +kernel
theorem dX5_init_39 : decode cX5_init 39 = .ok (.newarray .int, 2) := by decide +kernel
theorem dX5_init_41 : decode cX5_init 41 = .ok (.putfield 22, 3) := by decide +kernel
theorem dX5_init_44 : decode cX5_init 44 = .ok (.aload_n 0, 1) := by decide +kernel
theorem dX5_init_45 : decode cX5_init 45 = .ok (.bipush 7, 2) := by decide +kernel
theorem dX5_init_47 : decode cX5_init 47 = .ok (.anewarray 25, 3) := by decide +kernel
theorem dX5_init_50 : decode cX5_init 50 = .ok (.dup, 1) := by decide +kernel
theorem dX5_init_51 : decode cX5_init 51 = .ok (.iconst 0, 1) := by decide +kernel
theorem dX5_init_52 : decode cX5_init 52 = .ok (.ldc 27, 2) := by decide +kernel
theorem dX5_init_54 : decode cX5_init 54 = .ok (.aastore, 1) := by decide +kernel
theorem dX5_init_55 : decode cX5_init 55 = .ok (.dup, 1) := by decide +kernel
theorem dX5_init_56 : decode cX5_init 56 = .ok (.iconst 1, 1) := by decide +kernel
theorem dX5_init_57 : decode cX5_init 57 = .ok (.ldc 29, 2) := by decide +kernel
theorem dX5_init_59 : decode cX5_init 59 = .ok (.aastore, 1) := by decide +kernel
theorem dX5_init_60 : decode cX5_init 60 = .ok (.dup, 1) := by decide +kernel
theorem dX5_init_61 : decode cX5_init 61 = .ok (.iconst 2, 1) := by decide +kernel
theorem dX5_init_62 : decode cX5_init 62 = .ok (.ldc 31, 2) := by decide +kernel
theorem dX5_init_64 : decode cX5_init 64 = .ok (.aastore, 1) := by decide +kernel
theorem dX5_init_65 : decode cX5_init 65 = .ok (.dup, 1) := by decide +kernel
theorem dX5_init_66 : decode cX5_init 66 = .ok (.iconst 3, 1) := by decide +kernel
theorem dX5_init_67 : decode cX5_init 67 = .ok (.ldc 33, 2) := by decide +kernel
theorem dX5_init_69 : decode cX5_init 69 = .ok (.aastore, 1) := by decide +kernel
theorem dX5_init_70 : decode cX5_init 70 = .ok (.dup, 1) := by decide +kernel
theorem dX5_init_71 : decode cX5_init 71 = .ok (.iconst 4, 1) := by decide +kernel
theorem dX5_init_72 : decode cX5_init 72 = .ok (.ldc 35, 2) := by decide +kernel
theorem dX5_init_74 : decode cX5_init 74 = .ok (.aastore, 1) := by decide +kernel
theorem dX5_init_75 : decode cX5_init 75 = .ok (.dup, 1) := by decide +kernel
theorem dX5_init_76 : decode cX5_init 76 = .ok (.iconst 5, 1) := by decide +kernel
theorem dX5_init_77 : decode cX5_init 77 = .ok (.ldc 37, 2) := by decide +kernel
theorem dX5_init_79 : decode cX5_init 79 = .ok (.aastore, 1) := by decide +kernel
theorem dX5_init_80 : decode cX5_init 80 = .ok (.dup, 1) := by decide +kernel
theorem dX5_init_81 : decode cX5_init 81 = .ok (.bipush 6, 2) := by decide +kernel
theorem dX5_init_83 : decode cX5_init 83 = .ok (.ldc 39, 2) := by decide +kernel
theorem dX5_init_85 : decode cX5_init 85 = .ok (.aastore, 1) := by decide +kernel
theorem dX5_init_86 : decode cX5_init 86 = .ok (.putfield 41, 3) := by decide +kernel
theorem dX5_init_89 : decode cX5_init 89 = .ok (.aload_n 0, 1) := by decide +kernel
theorem dX5_init_90 : decode cX5_init 90 = .ok (.bipush 120, 2) := by decide +kernel
theorem dX5_init_92 : decode cX5_init 92 = .ok (.newarray .int, 2) := by decide +kernel
theorem dX5_init_94 : decode cX5_init 94 = .ok (.putfield 45, 3) := by decide +kernel
theorem dX5_init_97 : decode cX5_init 97 = .ok (.aload_n 0, 1) := by decide +kernel
theorem dX5_init_98 : decode cX5_init 98 = .ok (.bipush 120, 2) := by decide +kernel
theorem dX5_init_100 : decode cX5_init 100 = .ok (.newarray .int, 2) := by decide +kernel
theorem dX5_init_102 : decode cX5_init 102 = .ok (.putfield 48, 3) := by decide +kernel
theorem dX5_init_105 : decode cX5_init 105 = .ok (.aload_n 0, 1) := by decide +kernel
theorem dX5_init_106 : decode cX5_init 106 = .ok (.bipush 120, 2) := by decide +kernel
theorem dX5_init_108 : decode cX5_init 108 = .ok (.newarray .int, 2) := by decide +kernel
theorem dX5_init_110 : decode cX5_init 110 = .ok (.putfield 51, 3) := by decide +kernel
theorem dX5_init_113 : decode cX5_init 113 = .ok (.aload_n 0, 1) := by decide +kernel
theorem dX5_init_114 : decode cX5_init 114 = .ok (.iconst 4, 1) := by decide +kernel
theorem dX5_init_115 : decode cX5_init 115 = .ok (.newarray .int, 2) := by decide +kernel
theorem dX5_init_117 : decode cX5_init 117 = .ok (.putfield 54, 3) := by decide +kernel
theorem dX5_init_120 : decode cX5_init 120 = .ok (.aload_n 0, 1) := by decide +kernel
theorem dX5_init_121 : decode cX5_init 121 = .ok (.iconst 4, 1) := by decide +kernel
theorem dX5_init_122 : decode cX5_init 122 = .ok (.newarray .int, 2) := by decide +kernel
theorem dX5_init_124 : decode cX5_init 124 = .ok (.putfield 57, 3) := by decide +kernel
theorem dX5_init_127 : decode cX5_init 127 = .ok (.aload_n 0, 1) := by decide +kernel
theorem dX5_init_128 : decode cX5_init 128 = .ok (.sipush 160, 3) := by decide +kernel
theorem dX5_init_131 : decode cX5_init 131 = .ok (.newarray .int, 2) := by decide +kernel
theorem dX5_init_133 : decode cX5_init 133 = .ok (.putfield 60, 3) := by decide +kernel
theorem dX5_init_136 : decode cX5_init 136 = .ok (.aload_n 0, 1) := by decide +kernel
theorem dX5_init_137 : decode cX5_init 137 = .ok (.bipush 40, 2) := by decide +kernel
theorem dX5_init_139 : decode cX5_init 139 = .ok (.newarray .int, 2) := by decide +kernel
theorem dX5_init_141 : decode cX5_init 141 = .ok (.putfield 63, 3) := by decide +kernel
theorem dX5_init_144 : decode cX5_init 144 = .ok (.aload_n 0, 1) := by decide +kernel
theorem dX5_init_145 : decode cX5_init 145 = .ok (.getfield 9, 3) := by decide +kernel
theorem dX5_init_148 : decode cX5_init 148 = .ok (.iconst 2, 1) := by decide +kernel
theorem dX5_init_149 : decode cX5_init 149 = .ok (.iconst 1, 1) := by decide +kernel
theorem dX5_init_150 : decode cX5_init 150 = .ok (.iastore, 1) := by decide +kernel
theorem dX5_init_151 : decode cX5_init 151 = .ok (.iconst 0, 1) := by decide +kernel
theorem dX5_init_152 : decode cX5_init 152 = .ok (.istore_n 1, 1) := by decide +kernel
theorem dX5_init_153 : decode cX5_init 153 = .ok (.iload_n 1, 1) := by decide +kernel
theorem dX5_init_154 : decode cX5_init 154 = .ok (.bipush 10, 2) := by decide +kernel
theorem dX5_init_156 : decode cX5_init 156 = .ok (.if_icmp .ge 19, 3) := by decide +kernel
theorem dX5_init_159 : decode cX5_init 159 = .ok (.aload_n 0, 1) := by decide +kernel
theorem dX5_init_160 : decode cX5_init 160 = .ok (.getfield 9, 3) := by decide +kernel
theorem dX5_init_163 : decode cX5_init 163 = .ok (.bipush 7, 2) := by decide +kernel
theorem dX5_init_165 : decode cX5_init 165 = .ok (.iload_n 1, 1) := by decide +kernel
theorem dX5_init_166 : decode cX5_init 166 = .ok (.iadd, 1) := by decide +kernel
theorem dX5_init_167 : decode cX5_init 167 = .ok (.iconst (-1), 1) := by decide +kernel
theorem dX5_init_168 : decode cX5_init 168 = .ok (.iastore, 1) := by decide +kernel
theorem dX5_init_169 : decode cX5_init 169 = .ok (.iinc 1 1, 3) := by decide +kernel
theorem dX5_init_172 : decode cX5_init 172 = .ok (.goto (-19), 3) := by decide +kernel
theorem dX5_init_175 : decode cX5_init 175 = .ok (.iconst 0, 1) := by decide +kernel
theorem dX5_init_176 : decode cX5_init 176 = .ok (.istore_n 1, 1) := by decide +kernel
theorem dX5_init_177 : decode cX5_init 177 = .ok (.iload_n 1, 1) := by decide +kernel
theorem dX5_init_178 : decode cX5_init 178 = .ok (.bipush 7, 2) := by decide +kernel
theorem dX5_init_180 : decode cX5_init 180 = .ok (.if_icmp .ge 30, 3) := by decide +kernel
theorem dX5_init_183 : decode cX5_init 183 = .ok (.aload_n 0, 1) := by decide +kernel
theorem dX5_init_184 : decode cX5_init 184 = .ok (.getfield 9, 3) := by decide +kernel
theorem dX5_init_187 : decode cX5_init 187 = .ok (.bipush 17, 2) := by decide +kernel
theorem dX5_init_189 : decode cX5_init 189 = .ok (.iload_n 1, 1) := by decide +kernel
theorem dX5_init_190 : decode cX5_init 190 = .ok (.iadd, 1) := by decide +kernel
theorem dX5_init_191 : decode cX5_init 191 = .ok (.iconst (-1), 1) := by decide +kernel
theorem dX5_init_192 : decode cX5_init 192 = .ok (.iastore, 1) := by decide +kernel
theorem dX5_init_193 : decode cX5_init 193 = .ok (.aload_n 0, 1) := by decide +kernel
theorem dX5_init_194 : decode cX5_init 194 = .ok (.getfield 9, 3) := by decide +kernel
theorem dX5_init_197 : decode cX5_init 197 = .ok (.bipush 24, 2) := by decide +kernel
theorem dX5_init_199 : decode cX5_init 199 = .ok (.iload_n 1, 1) := by decide +kernel
theorem dX5_init_200 : decode cX5_init 200 = .ok (.iadd, 1) := by decide +kernel
theorem dX5_init_201 : decode cX5_init 201 = .ok (.bipush 40, 2) := by decide +kernel
theorem dX5_init_203 : decode cX5_init 203 = .ok (.iastore, 1) := by decide +kernel
theorem dX5_init_204 : decode cX5_init 204 = .ok (.iinc 1 1, 3) := by decide +kernel
theorem dX5_init_207 : decode cX5_init 207 = .ok (.goto (-30), 3) := by decide +kernel
theorem dX5_init_210 : decode cX5_init 210 = .ok (.iconst 0, 1) := by decide +kernel
theorem dX5_init_211 : decode cX5_init 211 = .ok (.istore_n 1, 1) := by decide +kernel
theorem dX5_init_212 : decode cX5_init 212 = .ok (.iload_n 1, 1) := by decide +kernel
theorem dX5_init_213 : decode cX5_init 213 = .ok (.bipush 6, 2) := by decide +kernel
theorem dX5_init_215 : decode cX5_init 215 = .ok (.if_icmp .ge 22, 3) := by decide +kernel
theorem dX5_init_218 : decode cX5_init 218 = .ok (.aload_n 0, 1) := by decide +kernel
theorem dX5_init_219 : decode cX5_init 219 = .ok (.getfield 9, 3) := by decide +kernel
theorem dX5_init_222 : decode cX5_init 222 = .ok (.bipush 38, 2) := by decide +kernel
theorem dX5_init_224 : decode cX5_init 224 = .ok (.iload_n 1, 1) := by decide +kernel
theorem dX5_init_225 : decode cX5_init 225 = .ok (.iadd, 1) := by decide +kernel
theorem dX5_init_226 : decode cX5_init 226 = .ok (.bipush 11, 2) := by decide +kernel
theorem dX5_init_228 : decode cX5_init 228 = .ok (.iload_n 1, 1) := by decide +kernel
theorem dX5_init_229 : decode cX5_init 229 = .ok (.imul, 1) := by decide +kernel
theorem dX5_init_230 : decode cX5_init 230 = .ok (.iastore, 1) := by decide +kernel
theorem dX5_init_231 : decode cX5_init 231 = .ok (.iinc 1 1, 3) := by decide +kernel
theorem dX5_init_234 : decode cX5_init 234 = .ok (.goto (-22), 3) := by decide +kernel
theorem dX5_init_237 : decode cX5_init 237 = .ok (.return_, 1) := by decide +kernel
