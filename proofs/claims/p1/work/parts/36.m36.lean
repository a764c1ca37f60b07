theorem dX12_taken_0 : decode cX12_taken 0 = .ok (.iload_n 1, 1) := by decide +kernel
theorem dX12_taken_1 : decode cX12_taken 1 = .ok (.iconst 2, 1) := by decide +kernel
theorem dX12_taken_2 : decode cX12_taken 2 = .ok (.bipush 40, 2) := by decide +kernel
theorem dX12_taken_4 : decode cX12_taken 4 = .ok (.invokestatic 95, 3) := by decide +kernel
theorem dX12_taken_7 : decode cX12_taken 7 = .ok (.ifCond .eq 13, 3) := by decide +kernel
theorem dX12_taken_10 : decode cX12_taken 10 = .ok (.aload_n 0, 1) := by decide +kernel
theorem dX12_taken_11 : decode cX12_taken 11 = .ok (.getfield 7, 3) := by decide +kernel
theorem dX12_taken_14 : decode cX12_taken 14 = .ok (.bipush 8, 2) := by decide +kernel
theorem dX12_taken_16 : decode cX12_taken 16 = .ok (.iaload, 1) := by decide +kernel
theorem dX12_taken_17 : decode cX12_taken 17 = .ok (.ifCond .ne 5, 3) := by decide +kernel
theorem dX12_taken_20 : decode cX12_taken 20 = .ok (.iconst (-1), 1) := by decide +kernel
theorem dX12_taken_21 : decode cX12_taken 21 = .ok (.ireturn, 1) := by decide +kernel
theorem dX12_taken_22 : decode cX12_taken 22 = .ok (.iconst 0, 1) := by decide +kernel
theorem dX12_taken_23 : decode cX12_taken 23 = .ok (.istore_n 3, 1) := by decide +kernel
theorem dX12_taken_24 : decode cX12_taken 24 = .ok (.iload_n 3, 1) := by decide +kernel
theorem dX12_taken_25 : decode cX12_taken 25 = .ok (.bipush 81, 2) := by decide +kernel
theorem dX12_taken_27 : decode cX12_taken 27 = .ok (.if_icmp .ge 24, 3) := by decide +kernel
theorem dX12_taken_30 : decode cX12_taken 30 = .ok (.aload_n 0, 1) := by decide +kernel
theorem dX12_taken_31 : decode cX12_taken 31 = .ok (.getfield 89, 3) := by decide +kernel
theorem dX12_taken_34 : decode cX12_taken 34 = .ok (.iload_n 3, 1) := by decide +kernel
theorem dX12_taken_35 : decode cX12_taken 35 = .ok (.iload_n 3, 1) := by decide +kernel
theorem dX12_taken_36 : decode cX12_taken 36 = .ok (.ifCond .ne 7, 3) := by decide +kernel
theorem dX12_taken_39 : decode cX12_taken 39 = .ok (.iconst 0, 1) := by decide +kernel
theorem dX12_taken_40 : decode cX12_taken 40 = .ok (.goto 4, 3) := by decide +kernel
theorem dX12_taken_43 : decode cX12_taken 43 = .ok (.iconst (-1), 1) := by decide +kernel
theorem dX12_taken_44 : decode cX12_taken 44 = .ok (.iastore, 1) := by decide +kernel
theorem dX12_taken_45 : decode cX12_taken 45 = .ok (.iinc 3 1, 3) := by decide +kernel
theorem dX12_taken_48 : decode cX12_taken 48 = .ok (.goto (-24), 3) := by decide +kernel
theorem dX12_taken_51 : decode cX12_taken 51 = .ok (.iconst 1, 1) := by decide +kernel
theorem dX12_taken_52 : decode cX12_taken 52 = .ok (.istore_n 3, 1) := by decide +kernel
theorem dX12_taken_53 : decode cX12_taken 53 = .ok (.iload_n 3, 1) := by decide +kernel
theorem dX12_taken_54 : decode cX12_taken 54 = .ok (.iload_n 1, 1) := by decide +kernel
theorem dX12_taken_55 : decode cX12_taken 55 = .ok (.if_icmp .gt 192, 3) := by decide +kernel
theorem dX12_taken_58 : decode cX12_taken 58 = .ok (.iconst 0, 1) := by decide +kernel
theorem dX12_taken_59 : decode cX12_taken 59 = .ok (.istore 4, 2) := by decide +kernel
theorem dX12_taken_61 : decode cX12_taken 61 = .ok (.iload 4, 2) := by decide +kernel
theorem dX12_taken_63 : decode cX12_taken 63 = .ok (.bipush 81, 2) := by decide +kernel
theorem dX12_taken_65 : decode cX12_taken 65 = .ok (.if_icmp .ge 17, 3) := by decide +kernel
theorem dX12_taken_68 : decode cX12_taken 68 = .ok (.aload_n 0, 1) := by decide +kernel
theorem dX12_taken_69 : decode cX12_taken 69 = .ok (.getfield 92, 3) := by decide +kernel
theorem dX12_taken_72 : decode cX12_taken 72 = .ok (.iload 4, 2) := by decide +kernel
theorem dX12_taken_74 : decode cX12_taken 74 = .ok (.iconst (-1), 1) := by decide +kernel
theorem dX12_taken_75 : decode cX12_taken 75 = .ok (.iastore, 1) := by decide +kernel
theorem dX12_taken_76 : decode cX12_taken 76 = .ok (.iinc 4 1, 3) := by decide +kernel
theorem dX12_taken_79 : decode cX12_taken 79 = .ok (.goto (-18), 3) := by decide +kernel
theorem dX12_taken_82 : decode cX12_taken 82 = .ok (.iconst 0, 1) := by decide +kernel
theorem dX12_taken_83 : decode cX12_taken 83 = .ok (.istore 4, 2) := by decide +kernel
theorem dX12_taken_85 : decode cX12_taken 85 = .ok (.iload 4, 2) := by decide +kernel
theorem dX12_taken_87 : decode cX12_taken 87 = .ok (.iconst 3, 1) := by decide +kernel
theorem dX12_taken_88 : decode cX12_taken 88 = .ok (.if_icmp .ge 123, 3) := by decide +kernel
theorem dX12_taken_91 : decode cX12_taken 91 = .ok (.aload_n 0, 1) := by decide +kernel
theorem dX12_taken_92 : decode cX12_taken 92 = .ok (.iload_n 1, 1) := by decide +kernel
theorem dX12_taken_93 : decode cX12_taken 93 = .ok (.iload_n 3, 1) := by decide +kernel
theorem dX12_taken_94 : decode cX12_taken 94 = .ok (.iload 4, 2) := by decide +kernel
theorem dX12_taken_96 : decode cX12_taken 96 = .ok (.invokevirtual 420, 3) := by decide +kernel
theorem dX12_taken_99 : decode cX12_taken 99 = .ok (.istore 5, 2) := by decide +kernel
theorem dX12_taken_101 : decode cX12_taken 101 = .ok (.iconst 0, 1) := by decide +kernel
theorem dX12_taken_102 : decode cX12_taken 102 = .ok (.istore 6, 2) := by decide +kernel
theorem dX12_taken_104 : decode cX12_taken 104 = .ok (.iload 6, 2) := by decide +kernel
theorem dX12_taken_106 : decode cX12_taken 106 = .ok (.iload 4, 2) := by decide +kernel
theorem dX12_taken_108 : decode cX12_taken 108 = .ok (.iadd, 1) := by decide +kernel
theorem dX12_taken_109 : decode cX12_taken 109 = .ok (.bipush 81, 2) := by decide +kernel
theorem dX12_taken_111 : decode cX12_taken 111 = .ok (.if_icmp .ge 94, 3) := by decide +kernel
theorem dX12_taken_114 : decode cX12_taken 114 = .ok (.iload 5, 2) := by decide +kernel
theorem dX12_taken_116 : decode cX12_taken 116 = .ok (.iconst (-1), 1) := by decide +kernel
theorem dX12_taken_117 : decode cX12_taken 117 = .ok (.if_icmp .eq 88, 3) := by decide +kernel
theorem dX12_taken_120 : decode cX12_taken 120 = .ok (.aload_n 0, 1) := by decide +kernel
theorem dX12_taken_121 : decode cX12_taken 121 = .ok (.getfield 89, 3) := by decide +kernel
theorem dX12_taken_124 : decode cX12_taken 124 = .ok (.iload 6, 2) := by decide +kernel
theorem dX12_taken_126 : decode cX12_taken 126 = .ok (.iaload, 1) := by decide +kernel
theorem dX12_taken_127 : decode cX12_taken 127 = .ok (.iconst (-1), 1) := by decide +kernel
theorem dX12_taken_128 : decode cX12_taken 128 = .ok (.if_icmp .eq 71, 3) := by decide +kernel
theorem dX12_taken_131 : decode cX12_taken 131 = .ok (.aload_n 0, 1) := by decide +kernel
theorem dX12_taken_132 : decode cX12_taken 132 = .ok (.getfield 89, 3) := by decide +kernel
theorem dX12_taken_135 : decode cX12_taken 135 = .ok (.iload 6, 2) := by decide +kernel
theorem dX12_taken_137 : decode cX12_taken 137 = .ok (.iaload, 1) := by decide +kernel
theorem dX12_taken_138 : decode cX12_taken 138 = .ok (.iload 5, 2) := by decide +kernel
theorem dX12_taken_140 : decode cX12_taken 140 = .ok (.iadd, 1) := by decide +kernel
theorem dX12_taken_141 : decode cX12_taken 141 = .ok (.istore 7, 2) := by decide +kernel
theorem dX12_taken_143 : decode cX12_taken 143 = .ok (.aload_n 0, 1) := by decide +kernel
theorem dX12_taken_144 : decode cX12_taken 144 = .ok (.getfield 92, 3) := by decide +kernel
theorem dX12_taken_147 : decode cX12_taken 147 = .ok (.iload 6, 2) := by decide +kernel
theorem dX12_taken_149 : decode cX12_taken 149 = .ok (.iload 4, 2) := by decide +kernel
theorem dX12_taken_151 : decode cX12_taken 151 = .ok (.iadd, 1) := by decide +kernel
theorem dX12_taken_152 : decode cX12_taken 152 = .ok (.iaload, 1) := by decide +kernel
theorem dX12_taken_153 : decode cX12_taken 153 = .ok (.istore 8, 2) := by decide +kernel
theorem dX12_taken_155 : decode cX12_taken 155 = .ok (.aload_n 0, 1) := by decide +kernel
theorem dX12_taken_156 : decode cX12_taken 156 = .ok (.getfield 92, 3) := by decide +kernel
theorem dX12_taken_159 : decode cX12_taken 159 = .ok (.iload 6, 2) := by decide +kernel
theorem dX12_taken_161 : decode cX12_taken 161 = .ok (.iload 4, 2) := by decide +kernel
theorem dX12_taken_163 : decode cX12_taken 163 = .ok (.iadd, 1) := by decide +kernel
theorem dX12_taken_164 : decode cX12_taken 164 = .ok (.iload 8, 2) := by decide +kernel
theorem dX12_taken_166 : decode cX12_taken 166 = .ok (.iconst (-1), 1) := by decide +kernel
theorem dX12_taken_167 : decode cX12_taken 167 = .ok (.if_icmp .eq 24, 3) := by decide +kernel
theorem dX12_taken_170 : decode cX12_taken 170 = .ok (.iload_n 2, 1) := by decide +kernel
theorem dX12_taken_171 : decode cX12_taken 171 = .ok (.ifCond .eq 13, 3) := by decide +kernel
theorem dX12_taken_174 : decode cX12_taken 174 = .ok (.iload 7, 2) := by decide +kernel
theorem dX12_taken_176 : decode cX12_taken 176 = .ok (.iload 8, 2) := by decide +kernel
theorem dX12_taken_178 : decode cX12_taken 178 = .ok (.if_icmp .le 18, 3) := by decide +kernel
theorem dX12_taken_181 : decode cX12_taken 181 = .ok (.goto 10, 3) := by decide +kernel
theorem dX12_taken_184 : decode cX12_taken 184 = .ok (.iload 7, 2) := by decide +kernel
theorem dX12_taken_186 : decode cX12_taken 186 = .ok (.iload 8, 2) := by decide +kernel
theorem dX12_taken_188 : decode cX12_taken 188 = .ok (.if_icmp .ge 8, 3) := by decide +kernel
theorem dX12_taken_191 : decode cX12_taken 191 = .ok (.iload 7, 2) := by decide +kernel
theorem dX12_taken_193 : decode cX12_taken 193 = .ok (.goto 5, 3) := by decide +kernel
theorem dX12_taken_196 : decode cX12_taken 196 = .ok (.iload 8, 2) := by decide +kernel
theorem dX12_taken_198 : decode cX12_taken 198 = .ok (.iastore, 1) := by decide +kernel
theorem dX12_taken_199 : decode cX12_taken 199 = .ok (.iinc 6 1, 3) := by decide +kernel
theorem dX12_taken_202 : decode cX12_taken 202 = .ok (.goto (-98), 3) := by decide +kernel
theorem dX12_taken_205 : decode cX12_taken 205 = .ok (.iinc 4 1, 3) := by decide +kernel
theorem dX12_taken_208 : decode cX12_taken 208 = .ok (.goto (-123), 3) := by decide +kernel
theorem dX12_taken_211 : decode cX12_taken 211 = .ok (.iconst 0, 1) := by decide +kernel
theorem dX12_taken_212 : decode cX12_taken 212 = .ok (.istore 4, 2) := by decide +kernel
theorem dX12_taken_214 : decode cX12_taken 214 = .ok (.iload 4, 2) := by decide +kernel
theorem dX12_taken_216 : decode cX12_taken 216 = .ok (.bipush 81, 2) := by decide +kernel
theorem dX12_taken_218 : decode cX12_taken 218 = .ok (.if_icmp .ge 23, 3) := by decide +kernel
theorem dX12_taken_221 : decode cX12_taken 221 = .ok (.aload_n 0, 1) := by decide +kernel
theorem dX12_taken_222 : decode cX12_taken 222 = .ok (.getfield 89, 3) := by decide +kernel
theorem dX12_taken_225 : decode cX12_taken 225 = .ok (.iload 4, 2) := by decide +kernel
theorem dX12_taken_227 : decode cX12_taken 227 = .ok (.aload_n 0, 1) := by decide +kernel
theorem dX12_taken_228 : decode cX12_taken 228 = .ok (.getfield 92, 3) := by decide +kernel
theorem dX12_taken_231 : decode cX12_taken 231 = .ok (.iload 4, 2) := by decide +kernel
theorem dX12_taken_233 : decode cX12_taken 233 = .ok (.iaload, 1) := by decide +kernel
theorem dX12_taken_234 : decode cX12_taken 234 = .ok (.iastore, 1) := by decide +kernel
theorem dX12_taken_235 : decode cX12_taken 235 = .ok (.iinc 4 1, 3) := by decide +kernel
theorem dX12_taken_238 : decode cX12_taken 238 = .ok (.goto (-24), 3) := by decide +kernel
theorem dX12_taken_241 : decode cX12_taken 241 = .ok (.iinc 3 1, 3) := by decide +kernel
theorem dX12_taken_244 : decode cX12_taken 244 = .ok (.goto (-191), 3) := by decide +kernel
theorem dX12_taken_247 : decode cX12_taken 247 = .ok (.aload_n 0, 1) := by decide +kernel
theorem dX12_taken_248 : decode cX12_taken 248 = .ok (.getfield 89, 3) := by decide +kernel
theorem dX12_taken_251 : decode cX12_taken 251 = .ok (.aload_n 0, 1) := by decide +kernel
theorem dX12_taken_252 : decode cX12_taken 252 = .ok (.getfield 7, 3) := by decide +kernel
theorem dX12_taken_255 : decode cX12_taken 255 = .ok (.sipush 1550, 3) := by decide +kernel
theorem dX12_taken_258 : decode cX12_taken 258 = .ok (.iaload, 1) := by decide +kernel
theorem dX12_taken_259 : decode cX12_taken 259 = .ok (.iaload, 1) := by decide +kernel
theorem dX12_taken_260 : decode cX12_taken 260 = .ok (.ireturn, 1) := by decide +kernel
theorem dX1_copy_0 : decode cX1_copy 0 = .ok (.aload_n 0, 1) := by decide +kernel
theorem dX1_copy_1 : decode cX1_copy 1 = .ok (.aload_n 1, 1) := by decide +kernel
theorem dX1_copy_2 : decode cX1_copy 2 = .ok (.getfield 18, 3) := by decide +kernel
theorem dX1_copy_5 : decode cX1_copy 5 = .ok (.putfield 18, 3) := by decide +kernel
theorem dX1_copy_8 : decode cX1_copy 8 = .ok (.aload_n 1, 1) := by decide +kernel
theorem dX1_copy_9 : decode cX1_copy 9 = .ok (.getfield 11, 3) := by decide +kernel
theorem dX1_copy_12 : decode cX1_copy 12 = .ok (.iconst 0, 1) := by decide +kernel
theorem dX1_copy_13 : decode cX1_copy 13 = .ok (.aload_n 0, 1) := by decide +kernel
theorem dX1_copy_14 : decode cX1_copy 14 = .ok (.getfield 11, 3) := by decide +kernel
theorem dX1_copy_17 : decode cX1_copy 17 = .ok (.iconst 0, 1) := by decide +kernel
theorem dX1_copy_18 : decode cX1_copy 18 = .ok (.aload_n 0, 1) := by decide +kernel
theorem dX1_copy_19 : decode cX1_copy 19 = .ok (.getfield 11, 3) := by decide +kernel
theorem dX1_copy_22 : decode cX1_copy 22 = .ok (.arraylength, 1) := by decide +kernel
theorem dX1_copy_23 : decode cX1_copy 23 = .ok (.invokestatic 22, 3) := by decide +kernel
theorem dX1_copy_26 : decode cX1_copy 26 = .ok (.aload_n 1, 1) := by decide +kernel
theorem dX1_copy_27 : decode cX1_copy 27 = .ok (.getfield 15, 3) := by decide +kernel
theorem dX1_copy_30 : decode cX1_copy 30 = .ok (.iconst 0, 1) := by decide +kernel
theorem dX1_copy_31 : decode cX1_copy 31 = .ok (.aload_n 0, 1) := by decide +kernel
theorem dX1_copy_32 : decode cX1_copy 32 = .ok (.getfield 15, 3) := by decide +kernel
theorem dX1_copy_35 : decode cX1_copy 35 = .ok (.iconst 0, 1) := by decide +kernel
theorem dX1_copy_36 : decode cX1_copy 36 = .ok (.aload_n 0, 1) := by decide +kernel
theorem dX1_copy_37 : decode cX1_copy 37 = .ok (.getfield 15, 3) := by decide +kernel
theorem dX1_copy_40 : decode cX1_copy 40 = .ok (.arraylength, 1) := by decide +kernel
theorem dX1_copy_41 : decode cX1_copy 41 = .ok (.invokestatic 22, 3) := by decide +kernel
theorem dX1_copy_44 : decode cX1_copy 44 = .ok (.return_, 1) := by decide +kernel
theorem dX5_copy_0 : decode cX5_copy 0 = .ok (.aload_n 0, 1) := by decide +kernel
theorem dX5_copy_1 : decode cX5_copy 1 = .ok (.aload_n 1, 1) := by decide +kernel
theorem dX5_copy_2 : decode cX5_copy 2 = .ok (.getfield 27, 3) := by decide +kernel
theorem dX5_copy_5 : decode cX5_copy 5 = .ok (.putfield 27, 3) := by decide +kernel
theorem dX5_copy_8 : decode cX5_copy 8 = .ok (.aload_n 1, 1) := by decide +kernel
theorem dX5_copy_9 : decode cX5_copy 9 = .ok (.getfield 11, 3) := by decide +kernel
theorem dX5_copy_12 : decode cX5_copy 12 = .ok (.iconst 0, 1) := by decide +kernel
theorem dX5_copy_13 : decode cX5_copy 13 = .ok (.aload_n 0, 1) := by decide +kernel
theorem dX5_copy_14 : decode cX5_copy 14 = .ok (.getfield 11, 3) := by decide +kernel
theorem dX5_copy_17 : decode cX5_copy 17 = .ok (.iconst 0, 1) := by decide +kernel
theorem dX5_copy_18 : decode cX5_copy 18 = .ok (.bipush 6, 2) := by decide +kernel
theorem dX5_copy_20 : decode cX5_copy 20 = .ok (.invokestatic 31, 3) := by decide +kernel
theorem dX5_copy_23 : decode cX5_copy 23 = .ok (.aload_n 1, 1) := by decide +kernel
theorem dX5_copy_24 : decode cX5_copy 24 = .ok (.getfield 15, 3) := by decide +kernel
theorem dX5_copy_27 : decode cX5_copy 27 = .ok (.iconst 0, 1) := by decide +kernel
theorem dX5_copy_28 : decode cX5_copy 28 = .ok (.aload_n 0, 1) := by decide +kernel
theorem dX5_copy_29 : decode cX5_copy 29 = .ok (.getfield 15, 3) := by decide +kernel
theorem dX5_copy_32 : decode cX5_copy 32 = .ok (.iconst 0, 1) := by decide +kernel
theorem dX5_copy_33 : decode cX5_copy 33 = .ok (.bipush 6, 2) := by decide +kernel
theorem dX5_copy_35 : decode cX5_copy 35 = .ok (.invokestatic 31, 3) := by decide +kernel
theorem dX5_copy_38 : decode cX5_copy 38 = .ok (.aload_n 1, 1) := by decide +kernel
theorem dX5_copy_39 : decode cX5_copy 39 = .ok (.getfield 18, 3) := by decide +kernel
theorem dX5_copy_42 : decode cX5_copy 42 = .ok (.iconst 0, 1) := by decide +kernel
theorem dX5_copy_43 : decode cX5_copy 43 = .ok (.aload_n 0, 1) := by decide +kernel
theorem dX5_copy_44 : decode cX5_copy 44 = .ok (.getfield 18, 3) := by decide +kernel
theorem dX5_copy_47 : decode cX5_copy 47 = .ok (.iconst 0, 1) := by decide +kernel
theorem dX5_copy_48 : decode cX5_copy 48 = .ok (.bipush 6, 2) := by decide +kernel
theorem dX5_copy_50 : decode cX5_copy 50 = .ok (.invokestatic 31, 3) := by decide +kernel
theorem dX5_copy_53 : decode cX5_copy 53 = .ok (.aload_n 1, 1) := by decide +kernel
theorem dX5_copy_54 : decode cX5_copy 54 = .ok (.getfield 21, 3) := by decide +kernel
theorem dX5_copy_57 : decode cX5_copy 57 = .ok (.iconst 0, 1) := by decide +kernel
theorem dX5_copy_58 : decode cX5_copy 58 = .ok (.aload_n 0, 1) := by decide +kernel
theorem dX5_copy_59 : decode cX5_copy 59 = .ok (.getfield 21, 3) := by decide +kernel
theorem dX5_copy_62 : decode cX5_copy 62 = .ok (.iconst 0, 1) := by decide +kernel
theorem dX5_copy_63 : decode cX5_copy 63 = .ok (.bipush 6, 2) := by decide +kernel
theorem dX5_copy_65 : decode cX5_copy 65 = .ok (.invokestatic 31, 3) := by decide +kernel
theorem dX5_copy_68 : decode cX5_copy 68 = .ok (.return_, 1) := by decide +kernel
theorem dX4_copy_0 : decode cX4_copy 0 = .ok (.aload_n 0, 1) := by decide +kernel
theorem dX4_copy_1 : decode cX4_copy 1 = .ok (.aload_n 1, 1) := by decide +kernel
theorem dX4_copy_2 : decode cX4_copy 2 = .ok (.getfield 15, 3) := by decide +kernel
theorem dX4_copy_5 : decode cX4_copy 5 = .ok (.putfield 15, 3) := by decide +kernel
theorem dX4_copy_8 : decode cX4_copy 8 = .ok (.aload_n 1, 1) := by decide +kernel
theorem dX4_copy_9 : decode cX4_copy 9 = .ok (.getfield 11, 3) := by decide +kernel
theorem dX4_copy_12 : decode cX4_copy 12 = .ok (.iconst 0, 1) := by decide +kernel
theorem dX4_copy_13 : decode cX4_copy 13 = .ok (.aload_n 0, 1) := by decide +kernel
theorem dX4_copy_14 : decode cX4_copy 14 = .ok (.getfield 11, 3) := by decide +kernel
theorem dX4_copy_17 : decode cX4_copy 17 = .ok (.iconst 0, 1) := by decide +kernel
theorem dX4_copy_18 : decode cX4_copy 18 = .ok (.bipush 60, 2) := by decide +kernel
theorem dX4_copy_20 : decode cX4_copy 20 = .ok (.invokestatic 19, 3) := by decide +kernel
theorem dX4_copy_23 : decode cX4_copy 23 = .ok (.return_, 1) := by decide +kernel
theorem dX9_copyAll_0 : decode cX9_copyAll 0 = .ok (.aload_n 0, 1) := by decide +kernel
theorem dX9_copyAll_1 : decode cX9_copyAll 1 = .ok (.aload_n 1, 1) := by decide +kernel
theorem dX9_copyAll_2 : decode cX9_copyAll 2 = .ok (.invokevirtual 90, 3) := by decide +kernel
theorem dX9_copyAll_5 : decode cX9_copyAll 5 = .ok (.aload_n 0, 1) := by decide +kernel
theorem dX9_copyAll_6 : decode cX9_copyAll 6 = .ok (.aload_n 1, 1) := by decide +kernel
theorem dX9_copyAll_7 : decode cX9_copyAll 7 = .ok (.getfield 94, 3) := by decide +kernel
theorem dX9_copyAll_10 : decode cX9_copyAll 10 = .ok (.putfield 94, 3) := by decide +kernel
theorem dX9_copyAll_13 : decode cX9_copyAll 13 = .ok (.aload_n 0, 1) := by decide +kernel
theorem dX9_copyAll_14 : decode cX9_copyAll 14 = .ok (.aload_n 1, 1) := by decide +kernel
theorem dX9_copyAll_15 : decode cX9_copyAll 15 = .ok (.getfield 50, 3) := by decide +kernel
theorem dX9_copyAll_18 : decode cX9_copyAll 18 = .ok (.putfield 50, 3) := by decide +kernel
theorem dX9_copyAll_21 : decode cX9_copyAll 21 = .ok (.aload_n 0, 1) := by decide +kernel
theorem dX9_copyAll_22 : decode cX9_copyAll 22 = .ok (.getfield 32, 3) := by decide +kernel
theorem dX9_copyAll_25 : decode cX9_copyAll 25 = .ok (.aload_n 1, 1) := by decide +kernel
theorem dX9_copyAll_26 : decode cX9_copyAll 26 = .ok (.getfield 32, 3) := by decide +kernel
theorem dX9_copyAll_29 : decode cX9_copyAll 29 = .ok (.invokevirtual 97, 3) := by decide +kernel
theorem dX9_copyAll_32 : decode cX9_copyAll 32 = .ok (.aload_n 0, 1) := by decide +kernel
theorem dX9_copyAll_33 : decode cX9_copyAll 33 = .ok (.getfield 39, 3) := by decide +kernel
theorem dX9_copyAll_36 : decode cX9_copyAll 36 = .ok (.aload_n 1, 1) := by decide +kernel
theorem dX9_copyAll_37 : decode cX9_copyAll 37 = .ok (.getfield 39, 3) := by decide +kernel
theorem dX9_copyAll_40 : decode cX9_copyAll 40 = .ok (.invokevirtual 101, 3) := by decide +kernel
theorem dX9_copyAll_43 : decode cX9_copyAll 43 = .ok (.aload_n 0, 1) := by decide +kernel
theorem dX9_copyAll_44 : decode cX9_copyAll 44 = .ok (.getfield 46, 3) := by decide +kernel
theorem dX9_copyAll_47 : decode cX9_copyAll 47 = .ok (.aload_n 1, 1) := by decide +kernel
theorem dX9_copyAll_48 : decode cX9_copyAll 48 = .ok (.getfield 46, 3) := by decide +kernel
theorem dX9_copyAll_51 : decode cX9_copyAll 51 = .ok (.invokevirtual 104, 3) := by decide +kernel
theorem dX9_copyAll_54 : decode cX9_copyAll 54 = .ok (.return_, 1) := by decide +kernel
theorem dX11_image_0 : decode cX11_image 0 = .ok (.aload_n 0, 1) := by decide +kernel
theorem dX11_image_1 : decode cX11_image 1 = .ok (.getfield 16, 3) := by decide +kernel
theorem dX11_image_4 : decode cX11_image 4 = .ok (.aload_n 0, 1) := by decide +kernel
theorem dX11_image_5 : decode cX11_image 5 = .ok (.getfield 10, 3) := by decide +kernel
theorem dX11_image_8 : decode cX11_image 8 = .ok (.invokevirtual 314, 3) := by decide +kernel
theorem dX11_image_11 : decode cX11_image 11 = .ok (.aload_n 0, 1) := by decide +kernel
theorem dX11_image_12 : decode cX11_image 12 = .ok (.getfield 16, 3) := by decide +kernel
theorem dX11_image_15 : decode cX11_image 15 = .ok (.getfield 173, 3) := by decide +kernel
theorem dX11_image_18 : decode cX11_image 18 = .ok (.ireturn, 1) := by decide +kernel
theorem dX12_image_0 : decode cX12_image 0 = .ok (.iconst 0, 1) := by decide +kernel
theorem dX12_image_1 : decode cX12_image 1 = .ok (.istore_n 1, 1) := by decide +kernel
theorem dX12_image_2 : decode cX12_image 2 = .ok (.iload_n 1, 1) := by decide +kernel
theorem dX12_image_3 : decode cX12_image 3 = .ok (.sipush 1610, 3) := by decide +kernel
theorem dX12_image_6 : decode cX12_image 6 = .ok (.if_icmp .ge 21, 3) := by decide +kernel
theorem dX12_image_9 : decode cX12_image 9 = .ok (.aload_n 0, 1) := by decide +kernel
theorem dX12_image_10 : decode cX12_image 10 = .ok (.getfield 13, 3) := by decide +kernel
theorem dX12_image_13 : decode cX12_image 13 = .ok (.iload_n 1, 1) := by decide +kernel
theorem dX12_image_14 : decode cX12_image 14 = .ok (.aload_n 0, 1) := by decide +kernel
theorem dX12_image_15 : decode cX12_image 15 = .ok (.getfield 7, 3) := by decide +kernel
theorem dX12_image_18 : decode cX12_image 18 = .ok (.iload_n 1, 1) := by decide +kernel
theorem dX12_image_19 : decode cX12_image 19 = .ok (.iaload, 1) := by decide +kernel
theorem dX12_image_20 : decode cX12_image 20 = .ok (.iastore, 1) := by decide +kernel
theorem dX12_image_21 : decode cX12_image 21 = .ok (.iinc 1 1, 3) := by decide +kernel
theorem dX12_image_24 : decode cX12_image 24 = .ok (.goto (-22), 3) := by decide +kernel
theorem dX12_image_27 : decode cX12_image 27 = .ok (.aload_n 0, 1) := by decide +kernel
theorem dX12_image_28 : decode cX12_image 28 = .ok (.getfield 7, 3) := by decide +kernel
theorem dX12_image_31 : decode cX12_image 31 = .ok (.iconst 0, 1) := by decide +kernel
theorem dX12_image_32 : decode cX12_image 32 = .ok (.iaload, 1) := by decide +kernel
theorem dX12_image_33 : decode cX12_image 33 = .ok (.ireturn, 1) := by decide +kernel
theorem dX11_back_0 : decode cX11_back 0 = .ok (.aload_n 0, 1) := by decide +kernel
theorem dX11_back_1 : decode cX11_back 1 = .ok (.getfield 10, 3) := by decide +kernel
theorem dX11_back_4 : decode cX11_back 4 = .ok (.aload_n 0, 1) := by decide +kernel
theorem dX11_back_5 : decode cX11_back 5 = .ok (.getfield 16, 3) := by decide +kernel
theorem dX11_back_8 : decode cX11_back 8 = .ok (.invokevirtual 314, 3) := by decide +kernel
theorem dX11_back_11 : decode cX11_back 11 = .ok (.aload_n 0, 1) := by decide +kernel
theorem dX11_back_12 : decode cX11_back 12 = .ok (.getfield 10, 3) := by decide +kernel
theorem dX11_back_15 : decode cX11_back 15 = .ok (.getfield 173, 3) := by decide +kernel
theorem dX11_back_18 : decode cX11_back 18 = .ok (.ireturn, 1) := by decide +kernel
theorem dX12_back_0 : decode cX12_back 0 = .ok (.iconst 0, 1) := by decide +kernel
theorem dX12_back_1 : decode cX12_back 1 = .ok (.istore_n 1, 1) := by decide +kernel
theorem dX12_back_2 : decode cX12_back 2 = .ok (.iload_n 1, 1) := by decide +kernel
theorem dX12_back_3 : decode cX12_back 3 = .ok (.sipush 1610, 3) := by decide +kernel
theorem dX12_back_6 : decode cX12_back 6 = .ok (.if_icmp .ge 21, 3) := by decide +kernel
theorem dX12_back_9 : decode cX12_back 9 = .ok (.aload_n 0, 1) := by decide +kernel
theorem dX12_back_10 : decode cX12_back 10 = .ok (.getfield 7, 3) := by decide +kernel
theorem dX12_back_13 : decode cX12_back 13 = .ok (.iload_n 1, 1) := by decide +kernel
theorem dX12_back_14 : decode cX12_back 14 = .ok (.aload_n 0, 1) := by decide +kernel
theorem dX12_back_15 : decode cX12_back 15 = .ok (.getfield 13, 3) := by decide +kernel
theorem dX12_back_18 : decode cX12_back 18 = .ok (.iload_n 1, 1) := by decide +kernel
theorem dX12_back_19 : decode cX12_back 19 = .ok (.iaload, 1) := by decide +kernel
theorem dX12_back_20 : decode cX12_back 20 = .ok (.iastore, 1) := by decide +kernel
theorem dX12_back_21 : decode cX12_back 21 = .ok (.iinc 1 1, 3) := by decide +kernel
theorem dX12_back_24 : decode cX12_back 24 = .ok (.goto (-22), 3) := by decide +kernel
theorem dX12_back_27 : decode cX12_back 27 = .ok (.aload_n 0, 1) := by decide +kernel
theorem dX12_back_28 : decode cX12_back 28 = .ok (.getfield 7, 3) := by decide +kernel
theorem dX12_back_31 : decode cX12_back 31 = .ok (.iconst 0, 1) := by decide +kernel
theorem dX12_back_32 : decode cX12_back 32 = .ok (.iaload, 1) := by decide +kernel
theorem dX12_back_33 : decode cX12_back 33 = .ok (.ireturn, 1) := by decide +kernel
theorem dX11_about_0 : decode cX11_about 0 = .ok (.iload_n 1, 1) := by decide +kernel
theorem dX11_about_1 : decode cX11_about 1 = .ok (.tableswitch 144 0 9 #[55, 63, 71, 79, 87, 95, 103, 114, 125, 136], 55) := by decide +kernel
theorem dX11_about_56 : decode cX11_about 56 = .ok (.aload_n 0, 1) := by decide +kernel
theorem dX11_about_57 : decode cX11_about 57 = .ok (.getfield 10, 3) := by decide +kernel
theorem dX11_about_60 : decode cX11_about 60 = .ok (.getfield 173, 3) := by decide +kernel
theorem dX11_about_63 : decode cX11_about 63 = .ok (.ireturn, 1) := by decide +kernel
theorem dX11_about_64 : decode cX11_about 64 = .ok (.aload_n 0, 1) := by decide +kernel
theorem dX11_about_65 : decode cX11_about 65 = .ok (.getfield 10, 3) := by decide +kernel
theorem dX11_about_68 : decode cX11_about 68 = .ok (.getfield 51, 3) := by decide +kernel
theorem dX11_about_71 : decode cX11_about 71 = .ok (.ireturn, 1) := by decide +kernel
theorem dX11_about_72 : decode cX11_about 72 = .ok (.aload_n 0, 1) := by decide +kernel
theorem dX11_about_73 : decode cX11_about 73 = .ok (.getfield 10, 3) := by decide +kernel
theorem dX11_about_76 : decode cX11_about 76 = .ok (.getfield 72, 3) := by decide +kernel
theorem dX11_about_79 : decode cX11_about 79 = .ok (.ireturn, 1) := by decide +kernel
theorem dX11_about_80 : decode cX11_about 80 = .ok (.aload_n 0, 1) := by decide +kernel
theorem dX11_about_81 : decode cX11_about 81 = .ok (.getfield 10, 3) := by decide +kernel
theorem dX11_about_84 : decode cX11_about 84 = .ok (.getfield 104, 3) := by decide +kernel
theorem dX11_about_87 : decode cX11_about 87 = .ok (.ireturn, 1) := by decide +kernel
theorem dX11_about_88 : decode cX11_about 88 = .ok (.aload_n 0, 1) := by decide +kernel
theorem dX11_about_89 : decode cX11_about 89 = .ok (.getfield 10, 3) := by decide +kernel
theorem dX11_about_92 : decode cX11_about 92 = .ok (.getfield 143, 3) := by decide +kernel
theorem dX11_about_95 : decode cX11_about 95 = .ok (.ireturn, 1) := by decide +kernel
theorem dX11_about_96 : decode cX11_about 96 = .ok (.aload_n 0, 1) := by decide +kernel
theorem dX11_about_97 : decode cX11_about 97 = .ok (.getfield 10, 3) := by decide +kernel
theorem dX11_about_100 : decode cX11_about 100 = .ok (.getfield 156, 3) := by decide +kernel
theorem dX11_about_103 : decode cX11_about 103 = .ok (.ireturn, 1) := by decide +kernel
theorem dX11_about_104 : decode cX11_about 104 = .ok (.aload_n 0, 1) := by decide +kernel
theorem dX11_about_105 : decode cX11_about 105 = .ok (.getfield 10, 3) := by decide +kernel
theorem dX11_about_108 : decode cX11_about 108 = .ok (.getfield 271, 3) := by decide +kernel
theorem dX11_about_111 : decode cX11_about 111 = .ok (.getfield 317, 3) := by decide +kernel
theorem dX11_about_114 : decode cX11_about 114 = .ok (.ireturn, 1) := by decide +kernel
theorem dX11_about_115 : decode cX11_about 115 = .ok (.aload_n 0, 1) := by decide +kernel
theorem dX11_about_116 : decode cX11_about 116 = .ok (.getfield 10, 3) := by decide +kernel
theorem dX11_about_119 : decode cX11_about 119 = .ok (.getfield 282, 3) := by decide +kernel
theorem dX11_about_122 : decode cX11_about 122 = .ok (.getfield 290, 3) := by decide +kernel
theorem dX11_about_125 : decode cX11_about 125 = .ok (.ireturn, 1) := by decide +kernel
theorem dX11_about_126 : decode cX11_about 126 = .ok (.aload_n 0, 1) := by decide +kernel
theorem dX11_about_127 : decode cX11_about 127 = .ok (.getfield 10, 3) := by decide +kernel
theorem dX11_about_130 : decode cX11_about 130 = .ok (.getfield 301, 3) := by decide +kernel
theorem dX11_about_133 : decode cX11_about 133 = .ok (.getfield 309, 3) := by decide +kernel
theorem dX11_about_136 : decode cX11_about 136 = .ok (.ireturn, 1) := by decide +kernel
theorem dX11_about_137 : decode cX11_about 137 = .ok (.aload_n 0, 1) := by decide +kernel
theorem dX11_about_138 : decode cX11_about 138 = .ok (.getfield 32, 3) := by decide +kernel
theorem dX11_about_141 : decode cX11_about 141 = .ok (.getfield 140, 3) := by decide +kernel
theorem dX11_about_144 : decode cX11_about 144 = .ok (.ireturn, 1) := by decide +kernel
theorem dX11_about_145 : decode cX11_about 145 = .ok (.iconst (-1), 1) := by decide +kernel
theorem dX11_about_146 : decode cX11_about 146 = .ok (.ireturn, 1) := by decide +kernel
theorem dX12_about_0 : decode cX12_about 0 = .ok (.iload_n 1, 1) := by decide +kernel
theorem dX12_about_1 : decode cX12_about 1 = .ok (.iconst 0, 1) := by decide +kernel
theorem dX12_about_2 : decode cX12_about 2 = .ok (.bipush 8, 2) := by decide +kernel
theorem dX12_about_4 : decode cX12_about 4 = .ok (.invokestatic 95, 3) := by decide +kernel
theorem dX12_about_7 : decode cX12_about 7 = .ok (.ifCond .eq 12, 3) := by decide +kernel
theorem dX12_about_10 : decode cX12_about 10 = .ok (.aload_n 0, 1) := by decide +kernel
theorem dX12_about_11 : decode cX12_about 11 = .ok (.getfield 7, 3) := by decide +kernel
theorem dX12_about_14 : decode cX12_about 14 = .ok (.iload_n 1, 1) := by decide +kernel
theorem dX12_about_15 : decode cX12_about 15 = .ok (.iaload, 1) := by decide +kernel
theorem dX12_about_16 : decode cX12_about 16 = .ok (.goto 17, 3) := by decide +kernel
theorem dX12_about_19 : decode cX12_about 19 = .ok (.iload_n 1, 1) := by decide +kernel
theorem dX12_about_20 : decode cX12_about 20 = .ok (.bipush 9, 2) := by decide +kernel
theorem dX12_about_22 : decode cX12_about 22 = .ok (.if_icmp .ne 10, 3) := by decide +kernel
theorem dX12_about_25 : decode cX12_about 25 = .ok (.aload_n 0, 1) := by decide +kernel
theorem dX12_about_26 : decode cX12_about 26 = .ok (.getfield 122, 3) := by decide +kernel
theorem dX12_about_29 : decode cX12_about 29 = .ok (.goto 4, 3) := by decide +kernel
theorem dX12_about_32 : decode cX12_about 32 = .ok (.iconst (-1), 1) := by decide +kernel
theorem dX12_about_33 : decode cX12_about 33 = .ok (.ireturn, 1) := by decide +kernel
def fX12_taken_20 (a0 : Nat) (a1 : Int32) (a2 : Int32) (m : xMem) : Option (Int32 × xMem) := some ((-1 : Int32), m)
set_option maxRecDepth 4000 in
theorem fX12_taken_20_ok {a0 : Nat} {a1 : Int32} {a2 : Int32} {d : Nat} (hd : 2 ≤ d) (ha0 : isModel a0) {o3 : Option Value} {o4 : Option Value} {o5 : Option Value} {o6 : Option Value} {o7 : Option Value} {o8 : Option Value} {m : xMem} {r : (Int32 × xMem)} (q3 : xNoD o3 = true) (q4 : xNoD o4 = true) (q5 : xNoD o5 = true) (q6 : xNoD o6 = true) (q7 : xNoD o7 = true) (q8 : xNoD o8 = true) (h : fX12_taken_20 a0 a1 a2 m = some r) : xFx hh_261 cX12_taken d 20 [some (.ref a0), some (.int a1), some (.int a2), o3, o4, o5, o6, o7, o8] [] (xLay m) 0 0 (some (.int r.1)) (xLay r.2) := by
  unfold fX12_taken_20 at h
  refine fx_iconst (x := -1) dX12_taken_20 rfl (by decide) ?_
  cases h
  exact fx_ireturn dX12_taken_21 rfl rfl
def fX12_taken_44 (a0 : Nat) (a1 : Int32) (a2 : Int32) (rec24 : Int32 → xMem → Option (Int32 × xMem)) (l3 : Int32) (s0 : Nat) (s1 : Int32) (s2 : Int32) (m : xMem) : Option (Int32 × xMem) := bif xIn s1 81 then xLet (xPut m s0 s1.toNatClampNeg s2) fun m1 => xLet (l3 + (1 : Int32)) fun x3 => rec24 x3 m1 else none
set_option maxRecDepth 4000 in
theorem fX12_taken_44_ok {a0 : Nat} {a1 : Int32} {a2 : Int32} {rec24 : Int32 → xMem → Option (Int32 × xMem)} {d : Nat} (hd : 2 ≤ d) (ha0 : isModel a0) (hrec24 : ∀ (l3 : Int32) (o4 : Option Value) (o5 : Option Value) (o6 : Option Value) (o7 : Option Value) (o8 : Option Value) (q4 : xNoD o4 = true) (q5 : xNoD o5 = true) (q6 : xNoD o6 = true) (q7 : xNoD o7 = true) (q8 : xNoD o8 = true) (m : xMem) (r : (Int32 × xMem)), rec24 l3 m = some r → xFx hh_261 cX12_taken d 24 [some (.ref a0), some (.int a1), some (.int a2), some (.int l3), o4, o5, o6, o7, o8] [] (xLay m) 0 0 (some (.int r.1)) (xLay r.2)) {l3 : Int32} {s0 : Nat} {s1 : Int32} {s2 : Int32} {o4 : Option Value} {o5 : Option Value} {o6 : Option Value} {o7 : Option Value} {o8 : Option Value} {m : xMem} {r : (Int32 × xMem)} (hs0 : xTmL[s0]? = some (101, 81, [])) (q4 : xNoD o4 = true) (q5 : xNoD o5 = true) (q6 : xNoD o6 = true) (q7 : xNoD o7 = true) (q8 : xNoD o8 = true) (h : fX12_taken_44 a0 a1 a2 rec24 l3 s0 s1 s2 m = some r) : xFx hh_261 cX12_taken d 44 [some (.ref a0), some (.int a1), some (.int a2), some (.int l3), o4, o5, o6, o7, o8] [.int s2, .int s1, .ref s0] (xLay m) 0 0 (some (.int r.1)) (xLay r.2) := by
  unfold fX12_taken_44 at h
  obtain ⟨hj2, h⟩ := xChk_el h
  obtain ⟨m1, hm1, h⟩ := xLet_el h
  refine gx_iastore dX12_taken_44 rfl hs0 hj2 hm1 ?_
  obtain ⟨x3, hx3, h⟩ := xLet_el h
  refine fx_iinc (ls2 := [some (.ref a0), some (.int a1), some (.int a2), some (.int x3), o4, o5, o6, o7, o8]) dX12_taken_45 rfl rfl rfl hx3 rfl ?_
  refine fx_goto (t := 24) dX12_taken_48 rfl rfl ?_
  exact hrec24 x3 (o4) (o5) (o6) (o7) (o8) q4 q5 q6 q7 q8 m1 r h
def fX12_taken_199 (a0 : Nat) (a1 : Int32) (a2 : Int32) (rec53 : Int32 → xMem → Option (Int32 × xMem)) (rec85 : Int32 → Int32 → xMem → Option (Int32 × xMem)) (rec104 : Int32 → Int32 → Int32 → Int32 → xMem → Option (Int32 × xMem)) (l3 : Int32) (l4 : Int32) (l5 : Int32) (l6 : Int32) (m : xMem) : Option (Int32 × xMem) := xLet (l6 + (1 : Int32)) fun x1 => rec104 l3 l4 l5 x1 m
set_option maxRecDepth 4000 in
theorem fX12_taken_199_ok {a0 : Nat} {a1 : Int32} {a2 : Int32} {rec53 : Int32 → xMem → Option (Int32 × xMem)} {rec85 : Int32 → Int32 → xMem → Option (Int32 × xMem)} {rec104 : Int32 → Int32 → Int32 → Int32 → xMem → Option (Int32 × xMem)} {d : Nat} (hd : 2 ≤ d) (ha0 : isModel a0) (hrec53 : ∀ (l3 : Int32) (o4 : Option Value) (o5 : Option Value) (o6 : Option Value) (o7 : Option Value) (o8 : Option Value) (q4 : xNoD o4 = true) (q5 : xNoD o5 = true) (q6 : xNoD o6 = true) (q7 : xNoD o7 = true) (q8 : xNoD o8 = true) (m : xMem) (r : (Int32 × xMem)), rec53 l3 m = some r → xFx hh_261 cX12_taken d 53 [some (.ref a0), some (.int a1), some (.int a2), some (.int l3), o4, o5, o6, o7, o8] [] (xLay m) 0 0 (some (.int r.1)) (xLay r.2)) (hrec85 : ∀ (l3 : Int32) (l4 : Int32) (o5 : Option Value) (o6 : Option Value) (o7 : Option Value) (o8 : Option Value) (q5 : xNoD o5 = true) (q6 : xNoD o6 = true) (q7 : xNoD o7 = true) (q8 : xNoD o8 = true) (m : xMem) (r : (Int32 × xMem)), rec85 l3 l4 m = some r → xFx hh_261 cX12_taken d 85 [some (.ref a0), some (.int a1), some (.int a2), some (.int l3), some (.int l4), o5, o6, o7, o8] [] (xLay m) 0 0 (some (.int r.1)) (xLay r.2)) (hrec104 : ∀ (l3 : Int32) (l4 : Int32) (l5 : Int32) (l6 : Int32) (o7 : Option Value) (o8 : Option Value) (q7 : xNoD o7 = true) (q8 : xNoD o8 = true) (m : xMem) (r : (Int32 × xMem)), rec104 l3 l4 l5 l6 m = some r → xFx hh_261 cX12_taken d 104 [some (.ref a0), some (.int a1), some (.int a2), some (.int l3), some (.int l4), some (.int l5), some (.int l6), o7, o8] [] (xLay m) 0 0 (some (.int r.1)) (xLay r.2)) {l3 : Int32} {l4 : Int32} {l5 : Int32} {l6 : Int32} {o7 : Option Value} {o8 : Option Value} {m : xMem} {r : (Int32 × xMem)} (q7 : xNoD o7 = true) (q8 : xNoD o8 = true) (h : fX12_taken_199 a0 a1 a2 rec53 rec85 rec104 l3 l4 l5 l6 m = some r) : xFx hh_261 cX12_taken d 199 [some (.ref a0), some (.int a1), some (.int a2), some (.int l3), some (.int l4), some (.int l5), some (.int l6), o7, o8] [] (xLay m) 0 0 (some (.int r.1)) (xLay r.2) := by
  unfold fX12_taken_199 at h
  obtain ⟨x1, hx1, h⟩ := xLet_el h
  refine fx_iinc (ls2 := [some (.ref a0), some (.int a1), some (.int a2), some (.int l3), some (.int l4), some (.int l5), some (.int x1), o7, o8]) dX12_taken_199 rfl rfl rfl hx1 rfl ?_
  refine fx_goto (t := 104) dX12_taken_202 rfl rfl ?_
  exact hrec104 l3 l4 l5 x1 (o7) (o8) q7 q8 m r h
def fX12_taken_198 (a0 : Nat) (a1 : Int32) (a2 : Int32) (rec53 : Int32 → xMem → Option (Int32 × xMem)) (rec85 : Int32 → Int32 → xMem → Option (Int32 × xMem)) (rec104 : Int32 → Int32 → Int32 → Int32 → xMem → Option (Int32 × xMem)) (l3 : Int32) (l4 : Int32) (l5 : Int32) (l6 : Int32) (s0 : Nat) (s1 : Int32) (s2 : Int32) (m : xMem) : Option (Int32 × xMem) := bif xIn s1 81 then xLet (xPut m s0 s1.toNatClampNeg s2) fun m1 => fX12_taken_199 a0 a1 a2 rec53 rec85 rec104 l3 l4 l5 l6 m1 else none
set_option maxRecDepth 4000 in
theorem fX12_taken_198_ok {a0 : Nat} {a1 : Int32} {a2 : Int32} {rec53 : Int32 → xMem → Option (Int32 × xMem)} {rec85 : Int32 → Int32 → xMem → Option (Int32 × xMem)} {rec104 : Int32 → Int32 → Int32 → Int32 → xMem → Option (Int32 × xMem)} {d : Nat} (hd : 2 ≤ d) (ha0 : isModel a0) (hrec53 : ∀ (l3 : Int32) (o4 : Option Value) (o5 : Option Value) (o6 : Option Value) (o7 : Option Value) (o8 : Option Value) (q4 : xNoD o4 = true) (q5 : xNoD o5 = true) (q6 : xNoD o6 = true) (q7 : xNoD o7 = true) (q8 : xNoD o8 = true) (m : xMem) (r : (Int32 × xMem)), rec53 l3 m = some r → xFx hh_261 cX12_taken d 53 [some (.ref a0), some (.int a1), some (.int a2), some (.int l3), o4, o5, o6, o7, o8] [] (xLay m) 0 0 (some (.int r.1)) (xLay r.2)) (hrec85 : ∀ (l3 : Int32) (l4 : Int32) (o5 : Option Value) (o6 : Option Value) (o7 : Option Value) (o8 : Option Value) (q5 : xNoD o5 = true) (q6 : xNoD o6 = true) (q7 : xNoD o7 = true) (q8 : xNoD o8 = true) (m : xMem) (r : (Int32 × xMem)), rec85 l3 l4 m = some r → xFx hh_261 cX12_taken d 85 [some (.ref a0), some (.int a1), some (.int a2), some (.int l3), some (.int l4), o5, o6, o7, o8] [] (xLay m) 0 0 (some (.int r.1)) (xLay r.2)) (hrec104 : ∀ (l3 : Int32) (l4 : Int32) (l5 : Int32) (l6 : Int32) (o7 : Option Value) (o8 : Option Value) (q7 : xNoD o7 = true) (q8 : xNoD o8 = true) (m : xMem) (r : (Int32 × xMem)), rec104 l3 l4 l5 l6 m = some r → xFx hh_261 cX12_taken d 104 [some (.ref a0), some (.int a1), some (.int a2), some (.int l3), some (.int l4), some (.int l5), some (.int l6), o7, o8] [] (xLay m) 0 0 (some (.int r.1)) (xLay r.2)) {l3 : Int32} {l4 : Int32} {l5 : Int32} {l6 : Int32} {s0 : Nat} {s1 : Int32} {s2 : Int32} {o7 : Option Value} {o8 : Option Value} {m : xMem} {r : (Int32 × xMem)} (hs0 : xTmL[s0]? = some (101, 81, [])) (q7 : xNoD o7 = true) (q8 : xNoD o8 = true) (h : fX12_taken_198 a0 a1 a2 rec53 rec85 rec104 l3 l4 l5 l6 s0 s1 s2 m = some r) : xFx hh_261 cX12_taken d 198 [some (.ref a0), some (.int a1), some (.int a2), some (.int l3), some (.int l4), some (.int l5), some (.int l6), o7, o8] [.int s2, .int s1, .ref s0] (xLay m) 0 0 (some (.int r.1)) (xLay r.2) := by
  unfold fX12_taken_198 at h
  obtain ⟨hj2, h⟩ := xChk_el h
  obtain ⟨m1, hm1, h⟩ := xLet_el h
  refine gx_iastore dX12_taken_198 rfl hs0 hj2 hm1 ?_
  exact fX12_taken_199_ok (o7 := o7) (o8 := o8) hd ha0 hrec53 hrec85 hrec104 q7 q8 h
def fX12_taken_191 (a0 : Nat) (a1 : Int32) (a2 : Int32) (rec53 : Int32 → xMem → Option (Int32 × xMem)) (rec85 : Int32 → Int32 → xMem → Option (Int32 × xMem)) (rec104 : Int32 → Int32 → Int32 → Int32 → xMem → Option (Int32 × xMem)) (l3 : Int32) (l4 : Int32) (l5 : Int32) (l6 : Int32) (l7 : Int32) (s0 : Nat) (s1 : Int32) (m : xMem) : Option (Int32 × xMem) := fX12_taken_198 a0 a1 a2 rec53 rec85 rec104 l3 l4 l5 l6 s0 s1 l7 m
set_option maxRecDepth 4000 in
theorem fX12_taken_191_ok {a0 : Nat} {a1 : Int32} {a2 : Int32} {rec53 : Int32 → xMem → Option (Int32 × xMem)} {rec85 : Int32 → Int32 → xMem → Option (Int32 × xMem)} {rec104 : Int32 → Int32 → Int32 → Int32 → xMem → Option (Int32 × xMem)} {d : Nat} (hd : 2 ≤ d) (ha0 : isModel a0) (hrec53 : ∀ (l3 : Int32) (o4 : Option Value) (o5 : Option Value) (o6 : Option Value) (o7 : Option Value) (o8 : Option Value) (q4 : xNoD o4 = true) (q5 : xNoD o5 = true) (q6 : xNoD o6 = true) (q7 : xNoD o7 = true) (q8 : xNoD o8 = true) (m : xMem) (r : (Int32 × xMem)), rec53 l3 m = some r → xFx hh_261 cX12_taken d 53 [some (.ref a0), some (.int a1), some (.int a2), some (.int l3), o4, o5, o6, o7, o8] [] (xLay m) 0 0 (some (.int r.1)) (xLay r.2)) (hrec85 : ∀ (l3 : Int32) (l4 : Int32) (o5 : Option Value) (o6 : Option Value) (o7 : Option Value) (o8 : Option Value) (q5 : xNoD o5 = true) (q6 : xNoD o6 = true) (q7 : xNoD o7 = true) (q8 : xNoD o8 = true) (m : xMem) (r : (Int32 × xMem)), rec85 l3 l4 m = some r → xFx hh_261 cX12_taken d 85 [some (.ref a0), some (.int a1), some (.int a2), some (.int l3), some (.int l4), o5, o6, o7, o8] [] (xLay m) 0 0 (some (.int r.1)) (xLay r.2)) (hrec104 : ∀ (l3 : Int32) (l4 : Int32) (l5 : Int32) (l6 : Int32) (o7 : Option Value) (o8 : Option Value) (q7 : xNoD o7 = true) (q8 : xNoD o8 = true) (m : xMem) (r : (Int32 × xMem)), rec104 l3 l4 l5 l6 m = some r → xFx hh_261 cX12_taken d 104 [some (.ref a0), some (.int a1), some (.int a2), some (.int l3), some (.int l4), some (.int l5), some (.int l6), o7, o8] [] (xLay m) 0 0 (some (.int r.1)) (xLay r.2)) {l3 : Int32} {l4 : Int32} {l5 : Int32} {l6 : Int32} {l7 : Int32} {s0 : Nat} {s1 : Int32} {o8 : Option Value} {m : xMem} {r : (Int32 × xMem)} (hs0 : xTmL[s0]? = some (101, 81, [])) (q8 : xNoD o8 = true) (h : fX12_taken_191 a0 a1 a2 rec53 rec85 rec104 l3 l4 l5 l6 l7 s0 s1 m = some r) : xFx hh_261 cX12_taken d 191 [some (.ref a0), some (.int a1), some (.int a2), some (.int l3), some (.int l4), some (.int l5), some (.int l6), some (.int l7), o8] [.int s1, .ref s0] (xLay m) 0 0 (some (.int r.1)) (xLay r.2) := by
  unfold fX12_taken_191 at h
  refine fx_iload dX12_taken_191 rfl rfl ?_
  refine fx_goto (t := 198) dX12_taken_193 rfl rfl ?_
  exact fX12_taken_198_ok (o7 := some (.int l7)) (o8 := o8) hd ha0 hrec53 hrec85 hrec104 hs0 rfl q8 h
def fX12_taken_196 (a0 : Nat) (a1 : Int32) (a2 : Int32) (rec53 : Int32 → xMem → Option (Int32 × xMem)) (rec85 : Int32 → Int32 → xMem → Option (Int32 × xMem)) (rec104 : Int32 → Int32 → Int32 → Int32 → xMem → Option (Int32 × xMem)) (l3 : Int32) (l4 : Int32) (l5 : Int32) (l6 : Int32) (l8 : Int32) (s0 : Nat) (s1 : Int32) (m : xMem) : Option (Int32 × xMem) := fX12_taken_198 a0 a1 a2 rec53 rec85 rec104 l3 l4 l5 l6 s0 s1 l8 m
set_option maxRecDepth 4000 in
theorem fX12_taken_196_ok {a0 : Nat} {a1 : Int32} {a2 : Int32} {rec53 : Int32 → xMem → Option (Int32 × xMem)} {rec85 : Int32 → Int32 → xMem → Option (Int32 × xMem)} {rec104 : Int32 → Int32 → Int32 → Int32 → xMem → Option (Int32 × xMem)} {d : Nat} (hd : 2 ≤ d) (ha0 : isModel a0) (hrec53 : ∀ (l3 : Int32) (o4 : Option Value) (o5 : Option Value) (o6 : Option Value) (o7 : Option Value) (o8 : Option Value) (q4 : xNoD o4 = true) (q5 : xNoD o5 = true) (q6 : xNoD o6 = true) (q7 : xNoD o7 = true) (q8 : xNoD o8 = true) (m : xMem) (r : (Int32 × xMem)), rec53 l3 m = some r → xFx hh_261 cX12_taken d 53 [some (.ref a0), some (.int a1), some (.int a2), some (.int l3), o4, o5, o6, o7, o8] [] (xLay m) 0 0 (some (.int r.1)) (xLay r.2)) (hrec85 : ∀ (l3 : Int32) (l4 : Int32) (o5 : Option Value) (o6 : Option Value) (o7 : Option Value) (o8 : Option Value) (q5 : xNoD o5 = true) (q6 : xNoD o6 = true) (q7 : xNoD o7 = true) (q8 : xNoD o8 = true) (m : xMem) (r : (Int32 × xMem)), rec85 l3 l4 m = some r → xFx hh_261 cX12_taken d 85 [some (.ref a0), some (.int a1), some (.int a2), some (.int l3), some (.int l4), o5, o6, o7, o8] [] (xLay m) 0 0 (some (.int r.1)) (xLay r.2)) (hrec104 : ∀ (l3 : Int32) (l4 : Int32) (l5 : Int32) (l6 : Int32) (o7 : Option Value) (o8 : Option Value) (q7 : xNoD o7 = true) (q8 : xNoD o8 = true) (m : xMem) (r : (Int32 × xMem)), rec104 l3 l4 l5 l6 m = some r → xFx hh_261 cX12_taken d 104 [some (.ref a0), some (.int a1), some (.int a2), some (.int l3), some (.int l4), some (.int l5), some (.int l6), o7, o8] [] (xLay m) 0 0 (some (.int r.1)) (xLay r.2)) {l3 : Int32} {l4 : Int32} {l5 : Int32} {l6 : Int32} {l8 : Int32} {s0 : Nat} {s1 : Int32} {o7 : Option Value} {m : xMem} {r : (Int32 × xMem)} (hs0 : xTmL[s0]? = some (101, 81, [])) (q7 : xNoD o7 = true) (h : fX12_taken_196 a0 a1 a2 rec53 rec85 rec104 l3 l4 l5 l6 l8 s0 s1 m = some r) : xFx hh_261 cX12_taken d 196 [some (.ref a0), some (.int a1), some (.int a2), some (.int l3), some (.int l4), some (.int l5), some (.int l6), o7, some (.int l8)] [.int s1, .ref s0] (xLay m) 0 0 (some (.int r.1)) (xLay r.2) := by
  unfold fX12_taken_196 at h
  refine fx_iload dX12_taken_196 rfl rfl ?_
  exact fX12_taken_198_ok (o7 := o7) (o8 := some (.int l8)) hd ha0 hrec53 hrec85 hrec104 hs0 q7 rfl h
def fX12_taken_205 (a0 : Nat) (a1 : Int32) (a2 : Int32) (rec53 : Int32 → xMem → Option (Int32 × xMem)) (rec85 : Int32 → Int32 → xMem → Option (Int32 × xMem)) (l3 : Int32) (l4 : Int32) (m : xMem) : Option (Int32 × xMem) := xLet (l4 + (1 : Int32)) fun x1 => rec85 l3 x1 m
set_option maxRecDepth 4000 in
theorem fX12_taken_205_ok {a0 : Nat} {a1 : Int32} {a2 : Int32} {rec53 : Int32 → xMem → Option (Int32 × xMem)} {rec85 : Int32 → Int32 → xMem → Option (Int32 × xMem)} {d : Nat} (hd : 2 ≤ d) (ha0 : isModel a0) (hrec53 : ∀ (l3 : Int32) (o4 : Option Value) (o5 : Option Value) (o6 : Option Value) (o7 : Option Value) (o8 : Option Value) (q4 : xNoD o4 = true) (q5 : xNoD o5 = true) (q6 : xNoD o6 = true) (q7 : xNoD o7 = true) (q8 : xNoD o8 = true) (m : xMem) (r : (Int32 × xMem)), rec53 l3 m = some r → xFx hh_261 cX12_taken d 53 [some (.ref a0), some (.int a1), some (.int a2), some (.int l3), o4, o5, o6, o7, o8] [] (xLay m) 0 0 (some (.int r.1)) (xLay r.2)) (hrec85 : ∀ (l3 : Int32) (l4 : Int32) (o5 : Option Value) (o6 : Option Value) (o7 : Option Value) (o8 : Option Value) (q5 : xNoD o5 = true) (q6 : xNoD o6 = true) (q7 : xNoD o7 = true) (q8 : xNoD o8 = true) (m : xMem) (r : (Int32 × xMem)), rec85 l3 l4 m = some r → xFx hh_261 cX12_taken d 85 [some (.ref a0), some (.int a1), some (.int a2), some (.int l3), some (.int l4), o5, o6, o7, o8] [] (xLay m) 0 0 (some (.int r.1)) (xLay r.2)) {l3 : Int32} {l4 : Int32} {o5 : Option Value} {o6 : Option Value} {o7 : Option Value} {o8 : Option Value} {m : xMem} {r : (Int32 × xMem)} (q5 : xNoD o5 = true) (q6 : xNoD o6 = true) (q7 : xNoD o7 = true) (q8 : xNoD o8 = true) (h : fX12_taken_205 a0 a1 a2 rec53 rec85 l3 l4 m = some r) : xFx hh_261 cX12_taken d 205 [some (.ref a0), some (.int a1), some (.int a2), some (.int l3), some (.int l4), o5, o6, o7, o8] [] (xLay m) 0 0 (some (.int r.1)) (xLay r.2) := by
  unfold fX12_taken_205 at h
  obtain ⟨x1, hx1, h⟩ := xLet_el h
  refine fx_iinc (ls2 := [some (.ref a0), some (.int a1), some (.int a2), some (.int l3), some (.int x1), o5, o6, o7, o8]) dX12_taken_205 rfl rfl rfl hx1 rfl ?_
  refine fx_goto (t := 85) dX12_taken_208 rfl rfl ?_
  exact hrec85 l3 x1 (o5) (o6) (o7) (o8) q5 q6 q7 q8 m r h
def fX12_taken_104 (a0 : Nat) (a1 : Int32) (a2 : Int32) (rec53 : Int32 → xMem → Option (Int32 × xMem)) (rec85 : Int32 → Int32 → xMem → Option (Int32 × xMem)) : Nat → Int32 → Int32 → Int32 → Int32 → xMem → Option (Int32 × xMem)
  | 0, _, _, _, _, _ => none
  | fuel + 1, l3, l4, l5, l6, m => xLet (l6 + l4) fun x1 => if (81 : Int32) ≤ x1 then fX12_taken_205 a0 a1 a2 rec53 rec85 l3 l4 m else if l5 = (-1 : Int32) then fX12_taken_205 a0 a1 a2 rec53 rec85 l3 l4 m else bif xIn l6 81 then xLet (m.1 (a0 + 24) l6.toNatClampNeg) fun x4 => if x4 = (-1 : Int32) then fX12_taken_199 a0 a1 a2 rec53 rec85 (fX12_taken_104 a0 a1 a2 rec53 rec85 fuel) l3 l4 l5 l6 m else bif xIn l6 81 then xLet (m.1 (a0 + 24) l6.toNatClampNeg) fun x7 => xLet (x7 + l5) fun x9 => xLet (l6 + l4) fun x10 => bif xIn x10 81 then xLet (m.1 (a0 + 25) x10.toNatClampNeg) fun x11 => xLet (l6 + l4) fun x13 => if x11 = (-1 : Int32) then fX12_taken_191 a0 a1 a2 rec53 rec85 (fX12_taken_104 a0 a1 a2 rec53 rec85 fuel) l3 l4 l5 l6 x9 (a0 + 25) x13 m else if a2 = (0 : Int32) then if x11 ≤ x9 then fX12_taken_196 a0 a1 a2 rec53 rec85 (fX12_taken_104 a0 a1 a2 rec53 rec85 fuel) l3 l4 l5 l6 x11 (a0 + 25) x13 m else fX12_taken_191 a0 a1 a2 rec53 rec85 (fX12_taken_104 a0 a1 a2 rec53 rec85 fuel) l3 l4 l5 l6 x9 (a0 + 25) x13 m else if x9 ≤ x11 then fX12_taken_196 a0 a1 a2 rec53 rec85 (fX12_taken_104 a0 a1 a2 rec53 rec85 fuel) l3 l4 l5 l6 x11 (a0 + 25) x13 m else fX12_taken_191 a0 a1 a2 rec53 rec85 (fX12_taken_104 a0 a1 a2 rec53 rec85 fuel) l3 l4 l5 l6 x9 (a0 + 25) x13 m else none else none else none
set_option maxRecDepth 4000 in
theorem fX12_taken_104_ok {a0 : Nat} {a1 : Int32} {a2 : Int32} {rec53 : Int32 → xMem → Option (Int32 × xMem)} {rec85 : Int32 → Int32 → xMem → Option (Int32 × xMem)} {d : Nat} (hd : 2 ≤ d) (ha0 : isModel a0) (hrec53 : ∀ (l3 : Int32) (o4 : Option Value) (o5 : Option Value) (o6 : Option Value) (o7 : Option Value) (o8 : Option Value) (q4 : xNoD o4 = true) (q5 : xNoD o5 = true) (q6 : xNoD o6 = true) (q7 : xNoD o7 = true) (q8 : xNoD o8 = true) (m : xMem) (r : (Int32 × xMem)), rec53 l3 m = some r → xFx hh_261 cX12_taken d 53 [some (.ref a0), some (.int a1), some (.int a2), some (.int l3), o4, o5, o6, o7, o8] [] (xLay m) 0 0 (some (.int r.1)) (xLay r.2)) (hrec85 : ∀ (l3 : Int32) (l4 : Int32) (o5 : Option Value) (o6 : Option Value) (o7 : Option Value) (o8 : Option Value) (q5 : xNoD o5 = true) (q6 : xNoD o6 = true) (q7 : xNoD o7 = true) (q8 : xNoD o8 = true) (m : xMem) (r : (Int32 × xMem)), rec85 l3 l4 m = some r → xFx hh_261 cX12_taken d 85 [some (.ref a0), some (.int a1), some (.int a2), some (.int l3), some (.int l4), o5, o6, o7, o8] [] (xLay m) 0 0 (some (.int r.1)) (xLay r.2)) : ∀ (fuel : Nat) (l3 : Int32) (l4 : Int32) (l5 : Int32) (l6 : Int32) (o7 : Option Value) (o8 : Option Value) (q7 : xNoD o7 = true) (q8 : xNoD o8 = true) (m : xMem) (r : (Int32 × xMem)), fX12_taken_104 a0 a1 a2 rec53 rec85 fuel l3 l4 l5 l6 m = some r → xFx hh_261 cX12_taken d 104 [some (.ref a0), some (.int a1), some (.int a2), some (.int l3), some (.int l4), some (.int l5), some (.int l6), o7, o8] [] (xLay m) 0 0 (some (.int r.1)) (xLay r.2) := by
  intro fuel
  induction fuel with
  | zero => intro l3 l4 l5 l6 o7 o8 q7 q8 m r  h; cases h
  | succ fuel ih =>
    intro l3 l4 l5 l6 o7 o8 q7 q8 m r  h
    unfold fX12_taken_104 at h
    refine fx_iload dX12_taken_104 rfl rfl ?_
    refine fx_iload dX12_taken_106 rfl rfl ?_
    obtain ⟨x1, hx1, h⟩ := xLet_el h
    refine fx_iadd dX12_taken_108 rfl hx1 ?_
    refine fx_bipush (x := 81) dX12_taken_109 rfl (by decide) ?_
    refine fx_icmp_ge (t := 205) dX12_taken_111 rfl rfl (fun hc2 => ?_) (fun hc2 => ?_)
    · rw [if_pos hc2] at h
      exact fX12_taken_205_ok (o5 := some (.int l5)) (o6 := some (.int l6)) (o7 := o7) (o8 := o8) hd ha0 hrec53 hrec85 rfl rfl q7 q8 h
    · rw [if_neg hc2] at h
      refine fx_iload dX12_taken_114 rfl rfl ?_
      refine fx_iconst (x := -1) dX12_taken_116 rfl (by decide) ?_
      refine fx_icmp_eq (t := 205) dX12_taken_117 rfl rfl (fun hc3 => ?_) (fun hc3 => ?_)
      · rw [if_pos hc3] at h
        exact fX12_taken_205_ok (o5 := some (.int l5)) (o6 := some (.int l6)) (o7 := o7) (o8 := o8) hd ha0 hrec53 hrec85 rfl rfl q7 q8 h
      · rw [if_neg hc3] at h
        refine fx_aload_n dX12_taken_120 rfl rfl ?_
        refine gx_getr dX12_taken_121 rfl fd_12_89 ha0.1 rfl rfl ?_
        refine fx_iload dX12_taken_124 rfl rfl ?_
        obtain ⟨hj5, h⟩ := xChk_el h
        obtain ⟨x4, hx4, h⟩ := xLet_el h
        refine gx_iaload dX12_taken_126 rfl ha0.2.2.2.2.2.2.2.2.2.2.2.2.2.2.2.2.2.2.2.2.2.2.2.2.1 hj5 hx4 ?_
        refine fx_iconst (x := -1) dX12_taken_127 rfl (by decide) ?_
        refine fx_icmp_eq (t := 199) dX12_taken_128 rfl rfl (fun hc6 => ?_) (fun hc6 => ?_)
        · rw [if_pos hc6] at h
          exact fX12_taken_199_ok (o7 := o7) (o8 := o8) hd ha0 hrec53 hrec85 ih q7 q8 h
        · rw [if_neg hc6] at h
          refine fx_aload_n dX12_taken_131 rfl rfl ?_
          refine gx_getr dX12_taken_132 rfl fd_12_89 ha0.1 rfl rfl ?_
          refine fx_iload dX12_taken_135 rfl rfl ?_
          obtain ⟨hj8, h⟩ := xChk_el h
          obtain ⟨x7, hx7, h⟩ := xLet_el h
          refine gx_iaload dX12_taken_137 rfl ha0.2.2.2.2.2.2.2.2.2.2.2.2.2.2.2.2.2.2.2.2.2.2.2.2.1 hj8 hx7 ?_
          refine fx_iload dX12_taken_138 rfl rfl ?_
          obtain ⟨x9, hx9, h⟩ := xLet_el h
          refine fx_iadd dX12_taken_140 rfl hx9 ?_
          refine fx_istore (ls2 := [some (.ref a0), some (.int a1), some (.int a2), some (.int l3), some (.int l4), some (.int l5), some (.int l6), some (.int x9), o8]) dX12_taken_141 rfl rfl rfl ?_
          refine fx_aload_n dX12_taken_143 rfl rfl ?_
          refine gx_getr dX12_taken_144 rfl fd_12_92 ha0.1 rfl rfl ?_
          refine fx_iload dX12_taken_147 rfl rfl ?_
          refine fx_iload dX12_taken_149 rfl rfl ?_
          obtain ⟨x10, hx10, h⟩ := xLet_el h
          refine fx_iadd dX12_taken_151 rfl hx10 ?_
          obtain ⟨hj12, h⟩ := xChk_el h
          obtain ⟨x11, hx11, h⟩ := xLet_el h
          refine gx_iaload dX12_taken_152 rfl ha0.2.2.2.2.2.2.2.2.2.2.2.2.2.2.2.2.2.2.2.2.2.2.2.2.2 hj12 hx11 ?_
          refine fx_istore (ls2 := [some (.ref a0), some (.int a1), some (.int a2), some (.int l3), some (.int l4), some (.int l5), some (.int l6), some (.int x9), some (.int x11)]) dX12_taken_153 rfl rfl rfl ?_
          refine fx_aload_n dX12_taken_155 rfl rfl ?_
          refine gx_getr dX12_taken_156 rfl fd_12_92 ha0.1 rfl rfl ?_
          refine fx_iload dX12_taken_159 rfl rfl ?_
          refine fx_iload dX12_taken_161 rfl rfl ?_
          obtain ⟨x13, hx13, h⟩ := xLet_el h
          refine fx_iadd dX12_taken_163 rfl hx13 ?_
          refine fx_iload dX12_taken_164 rfl rfl ?_
          refine fx_iconst (x := -1) dX12_taken_166 rfl (by decide) ?_
          refine fx_icmp_eq (t := 191) dX12_taken_167 rfl rfl (fun hc14 => ?_) (fun hc14 => ?_)
          · rw [if_pos hc14] at h
            exact fX12_taken_191_ok (o8 := some (.int x11)) hd ha0 hrec53 hrec85 ih ha0.2.2.2.2.2.2.2.2.2.2.2.2.2.2.2.2.2.2.2.2.2.2.2.2.2 rfl h
          · rw [if_neg hc14] at h
            refine fx_iload_n dX12_taken_170 rfl rfl ?_
            refine fx_if_eq (t := 184) dX12_taken_171 rfl rfl (fun hc15 => ?_) (fun hc15 => ?_)
            · rw [if_pos hc15] at h
              refine fx_iload dX12_taken_184 rfl rfl ?_
              refine fx_iload dX12_taken_186 rfl rfl ?_
              refine fx_icmp_ge (t := 196) dX12_taken_188 rfl rfl (fun hc16 => ?_) (fun hc16 => ?_)
              · rw [if_pos hc16] at h
                exact fX12_taken_196_ok (o7 := some (.int x9)) hd ha0 hrec53 hrec85 ih ha0.2.2.2.2.2.2.2.2.2.2.2.2.2.2.2.2.2.2.2.2.2.2.2.2.2 rfl h
              · rw [if_neg hc16] at h
                exact fX12_taken_191_ok (o8 := some (.int x11)) hd ha0 hrec53 hrec85 ih ha0.2.2.2.2.2.2.2.2.2.2.2.2.2.2.2.2.2.2.2.2.2.2.2.2.2 rfl h
            · rw [if_neg hc15] at h
              refine fx_iload dX12_taken_174 rfl rfl ?_
              refine fx_iload dX12_taken_176 rfl rfl ?_
              refine fx_icmp_le (t := 196) dX12_taken_178 rfl rfl (fun hc17 => ?_) (fun hc17 => ?_)
              · rw [if_pos hc17] at h
                exact fX12_taken_196_ok (o7 := some (.int x9)) hd ha0 hrec53 hrec85 ih ha0.2.2.2.2.2.2.2.2.2.2.2.2.2.2.2.2.2.2.2.2.2.2.2.2.2 rfl h
              · rw [if_neg hc17] at h
                refine fx_goto (t := 191) dX12_taken_181 rfl rfl ?_
                exact fX12_taken_191_ok (o8 := some (.int x11)) hd ha0 hrec53 hrec85 ih ha0.2.2.2.2.2.2.2.2.2.2.2.2.2.2.2.2.2.2.2.2.2.2.2.2.2 rfl h
def fX12_taken_214 (a0 : Nat) (a1 : Int32) (a2 : Int32) (rec53 : Int32 → xMem → Option (Int32 × xMem)) : Nat → Int32 → Int32 → xMem → Option (Int32 × xMem)
  | 0, _, _, _ => none
  | fuel + 1, l3, l4, m => if (81 : Int32) ≤ l4 then xLet (l3 + (1 : Int32)) fun x2 => rec53 x2 m else bif xIn l4 81 then xLet (m.1 (a0 + 25) l4.toNatClampNeg) fun x3 => bif xIn l4 81 then xLet (xPut m (a0 + 24) l4.toNatClampNeg x3) fun m5 => xLet (l4 + (1 : Int32)) fun x7 => fX12_taken_214 a0 a1 a2 rec53 fuel l3 x7 m5 else none else none
set_option maxRecDepth 4000 in
theorem fX12_taken_214_ok {a0 : Nat} {a1 : Int32} {a2 : Int32} {rec53 : Int32 → xMem → Option (Int32 × xMem)} {d : Nat} (hd : 2 ≤ d) (ha0 : isModel a0) (hrec53 : ∀ (l3 : Int32) (o4 : Option Value) (o5 : Option Value) (o6 : Option Value) (o7 : Option Value) (o8 : Option Value) (q4 : xNoD o4 = true) (q5 : xNoD o5 = true) (q6 : xNoD o6 = true) (q7 : xNoD o7 = true) (q8 : xNoD o8 = true) (m : xMem) (r : (Int32 × xMem)), rec53 l3 m = some r → xFx hh_261 cX12_taken d 53 [some (.ref a0), some (.int a1), some (.int a2), some (.int l3), o4, o5, o6, o7, o8] [] (xLay m) 0 0 (some (.int r.1)) (xLay r.2)) : ∀ (fuel : Nat) (l3 : Int32) (l4 : Int32) (o5 : Option Value) (o6 : Option Value) (o7 : Option Value) (o8 : Option Value) (q5 : xNoD o5 = true) (q6 : xNoD o6 = true) (q7 : xNoD o7 = true) (q8 : xNoD o8 = true) (m : xMem) (r : (Int32 × xMem)), fX12_taken_214 a0 a1 a2 rec53 fuel l3 l4 m = some r → xFx hh_261 cX12_taken d 214 [some (.ref a0), some (.int a1), some (.int a2), some (.int l3), some (.int l4), o5, o6, o7, o8] [] (xLay m) 0 0 (some (.int r.1)) (xLay r.2) := by
  intro fuel
  induction fuel with
  | zero => intro l3 l4 o5 o6 o7 o8 q5 q6 q7 q8 m r  h; cases h
  | succ fuel ih =>
    intro l3 l4 o5 o6 o7 o8 q5 q6 q7 q8 m r  h
    unfold fX12_taken_214 at h
    refine fx_iload dX12_taken_214 rfl rfl ?_
    refine fx_bipush (x := 81) dX12_taken_216 rfl (by decide) ?_
    refine fx_icmp_ge (t := 241) dX12_taken_218 rfl rfl (fun hc1 => ?_) (fun hc1 => ?_)
    · rw [if_pos hc1] at h
      obtain ⟨x2, hx2, h⟩ := xLet_el h
      refine fx_iinc (ls2 := [some (.ref a0), some (.int a1), some (.int a2), some (.int x2), some (.int l4), o5, o6, o7, o8]) dX12_taken_241 rfl rfl rfl hx2 rfl ?_
      refine fx_goto (t := 53) dX12_taken_244 rfl rfl ?_
      exact hrec53 x2 (some (.int l4)) (o5) (o6) (o7) (o8) rfl q5 q6 q7 q8 m r h
    · rw [if_neg hc1] at h
      refine fx_aload_n dX12_taken_221 rfl rfl ?_
      refine gx_getr dX12_taken_222 rfl fd_12_89 ha0.1 rfl rfl ?_
      refine fx_iload dX12_taken_225 rfl rfl ?_
      refine fx_aload_n dX12_taken_227 rfl rfl ?_
      refine gx_getr dX12_taken_228 rfl fd_12_92 ha0.1 rfl rfl ?_
      refine fx_iload dX12_taken_231 rfl rfl ?_
      obtain ⟨hj4, h⟩ := xChk_el h
      obtain ⟨x3, hx3, h⟩ := xLet_el h
      refine gx_iaload dX12_taken_233 rfl ha0.2.2.2.2.2.2.2.2.2.2.2.2.2.2.2.2.2.2.2.2.2.2.2.2.2 hj4 hx3 ?_
      obtain ⟨hj6, h⟩ := xChk_el h
      obtain ⟨m5, hm5, h⟩ := xLet_el h
      refine gx_iastore dX12_taken_234 rfl ha0.2.2.2.2.2.2.2.2.2.2.2.2.2.2.2.2.2.2.2.2.2.2.2.2.1 hj6 hm5 ?_
      obtain ⟨x7, hx7, h⟩ := xLet_el h
      refine fx_iinc (ls2 := [some (.ref a0), some (.int a1), some (.int a2), some (.int l3), some (.int x7), o5, o6, o7, o8]) dX12_taken_235 rfl rfl rfl hx7 rfl ?_
      refine fx_goto (t := 214) dX12_taken_238 rfl rfl ?_
      exact ih l3 x7 (o5) (o6) (o7) (o8) q5 q6 q7 q8 m5 r h
def fX12_taken_85 (a0 : Nat) (a1 : Int32) (a2 : Int32) (rec53 : Int32 → xMem → Option (Int32 × xMem)) : Nat → Int32 → Int32 → xMem → Option (Int32 × xMem)
  | 0, _, _, _ => none
  | fuel + 1, l3, l4, m => if (3 : Int32) ≤ l4 then fX12_taken_214 a0 a1 a2 rec53 xFuel l3 (0 : Int32) m else (fX12_chain a0 a1 l3 l4 m).bind fun p2 => fX12_taken_104 a0 a1 a2 rec53 (fX12_taken_85 a0 a1 a2 rec53 fuel) xFuel l3 l4 p2.1 (0 : Int32) p2.2
set_option maxRecDepth 4000 in
theorem fX12_taken_85_ok {a0 : Nat} {a1 : Int32} {a2 : Int32} {rec53 : Int32 → xMem → Option (Int32 × xMem)} {d : Nat} (hd : 2 ≤ d) (ha0 : isModel a0) (hrec53 : ∀ (l3 : Int32) (o4 : Option Value) (o5 : Option Value) (o6 : Option Value) (o7 : Option Value) (o8 : Option Value) (q4 : xNoD o4 = true) (q5 : xNoD o5 = true) (q6 : xNoD o6 = true) (q7 : xNoD o7 = true) (q8 : xNoD o8 = true) (m : xMem) (r : (Int32 × xMem)), rec53 l3 m = some r → xFx hh_261 cX12_taken d 53 [some (.ref a0), some (.int a1), some (.int a2), some (.int l3), o4, o5, o6, o7, o8] [] (xLay m) 0 0 (some (.int r.1)) (xLay r.2)) : ∀ (fuel : Nat) (l3 : Int32) (l4 : Int32) (o5 : Option Value) (o6 : Option Value) (o7 : Option Value) (o8 : Option Value) (q5 : xNoD o5 = true) (q6 : xNoD o6 = true) (q7 : xNoD o7 = true) (q8 : xNoD o8 = true) (m : xMem) (r : (Int32 × xMem)), fX12_taken_85 a0 a1 a2 rec53 fuel l3 l4 m = some r → xFx hh_261 cX12_taken d 85 [some (.ref a0), some (.int a1), some (.int a2), some (.int l3), some (.int l4), o5, o6, o7, o8] [] (xLay m) 0 0 (some (.int r.1)) (xLay r.2) := by
  intro fuel
  induction fuel with
  | zero => intro l3 l4 o5 o6 o7 o8 q5 q6 q7 q8 m r  h; cases h
  | succ fuel ih =>
    intro l3 l4 o5 o6 o7 o8 q5 q6 q7 q8 m r  h
    unfold fX12_taken_85 at h
    refine fx_iload dX12_taken_85 rfl rfl ?_
    refine fx_iconst (x := 3) dX12_taken_87 rfl (by decide) ?_
    refine fx_icmp_ge (t := 211) dX12_taken_88 rfl rfl (fun hc1 => ?_) (fun hc1 => ?_)
    · rw [if_pos hc1] at h
      refine fx_iconst (x := 0) dX12_taken_211 rfl (by decide) ?_
      refine fx_istore (ls2 := [some (.ref a0), some (.int a1), some (.int a2), some (.int l3), some (.int (0 : Int32)), o5, o6, o7, o8]) dX12_taken_212 rfl rfl rfl ?_
      exact fX12_taken_214_ok hd ha0 hrec53 xFuel l3 (0 : Int32) (o5) (o6) (o7) (o8) q5 q6 q7 q8 m r h
    · rw [if_neg hc1] at h
      refine fx_aload_n dX12_taken_91 rfl rfl ?_
      refine fx_iload_n dX12_taken_92 rfl rfl ?_
      refine fx_iload_n dX12_taken_93 rfl rfl ?_
      refine fx_iload dX12_taken_94 rfl rfl ?_
      obtain ⟨p2, ep2, h⟩ := xBind_el h
      refine gx_callv (as := [.int a1, .int l3, .int l4]) (r := []) rfl dX12_taken_96 ca_12_420 rfl me_262 rfl rfl rfl rfl (ha0.1) rfl (fX12_chain_ok (d := d) (by omega) ha0 ep2) rfl rfl ?_
      refine fx_istore (ls2 := [some (.ref a0), some (.int a1), some (.int a2), some (.int l3), some (.int l4), some (.int p2.1), o6, o7, o8]) dX12_taken_99 rfl rfl rfl ?_
      refine fx_iconst (x := 0) dX12_taken_101 rfl (by decide) ?_
      refine fx_istore (ls2 := [some (.ref a0), some (.int a1), some (.int a2), some (.int l3), some (.int l4), some (.int p2.1), some (.int (0 : Int32)), o7, o8]) dX12_taken_102 rfl rfl rfl ?_
      exact fX12_taken_104_ok hd ha0 hrec53 ih xFuel l3 l4 p2.1 (0 : Int32) (o7) (o8) q7 q8 p2.2 r h
def fX12_taken_61 (a0 : Nat) (a1 : Int32) (a2 : Int32) (rec53 : Int32 → xMem → Option (Int32 × xMem)) : Nat → Int32 → Int32 → xMem → Option (Int32 × xMem)
  | 0, _, _, _ => none
  | fuel + 1, l3, l4, m => if (81 : Int32) ≤ l4 then fX12_taken_85 a0 a1 a2 rec53 xFuel l3 (0 : Int32) m else bif xIn l4 81 then xLet (xPut m (a0 + 25) l4.toNatClampNeg (-1 : Int32)) fun m2 => xLet (l4 + (1 : Int32)) fun x4 => fX12_taken_61 a0 a1 a2 rec53 fuel l3 x4 m2 else none
set_option maxRecDepth 4000 in
theorem fX12_taken_61_ok {a0 : Nat} {a1 : Int32} {a2 : Int32} {rec53 : Int32 → xMem → Option (Int32 × xMem)} {d : Nat} (hd : 2 ≤ d) (ha0 : isModel a0) (hrec53 : ∀ (l3 : Int32) (o4 : Option Value) (o5 : Option Value) (o6 : Option Value) (o7 : Option Value) (o8 : Option Value) (q4 : xNoD o4 = true) (q5 : xNoD o5 = true) (q6 : xNoD o6 = true) (q7 : xNoD o7 = true) (q8 : xNoD o8 = true) (m : xMem) (r : (Int32 × xMem)), rec53 l3 m = some r → xFx hh_261 cX12_taken d 53 [some (.ref a0), some (.int a1), some (.int a2), some (.int l3), o4, o5, o6, o7, o8] [] (xLay m) 0 0 (some (.int r.1)) (xLay r.2)) : ∀ (fuel : Nat) (l3 : Int32) (l4 : Int32) (o5 : Option Value) (o6 : Option Value) (o7 : Option Value) (o8 : Option Value) (q5 : xNoD o5 = true) (q6 : xNoD o6 = true) (q7 : xNoD o7 = true) (q8 : xNoD o8 = true) (m : xMem) (r : (Int32 × xMem)), fX12_taken_61 a0 a1 a2 rec53 fuel l3 l4 m = some r → xFx hh_261 cX12_taken d 61 [some (.ref a0), some (.int a1), some (.int a2), some (.int l3), some (.int l4), o5, o6, o7, o8] [] (xLay m) 0 0 (some (.int r.1)) (xLay r.2) := by
  intro fuel
  induction fuel with
  | zero => intro l3 l4 o5 o6 o7 o8 q5 q6 q7 q8 m r  h; cases h
  | succ fuel ih =>
    intro l3 l4 o5 o6 o7 o8 q5 q6 q7 q8 m r  h
    unfold fX12_taken_61 at h
    refine fx_iload dX12_taken_61 rfl rfl ?_
    refine fx_bipush (x := 81) dX12_taken_63 rfl (by decide) ?_
    refine fx_icmp_ge (t := 82) dX12_taken_65 rfl rfl (fun hc1 => ?_) (fun hc1 => ?_)
    · rw [if_pos hc1] at h
      refine fx_iconst (x := 0) dX12_taken_82 rfl (by decide) ?_
      refine fx_istore (ls2 := [some (.ref a0), some (.int a1), some (.int a2), some (.int l3), some (.int (0 : Int32)), o5, o6, o7, o8]) dX12_taken_83 rfl rfl rfl ?_
      exact fX12_taken_85_ok hd ha0 hrec53 xFuel l3 (0 : Int32) (o5) (o6) (o7) (o8) q5 q6 q7 q8 m r h
    · rw [if_neg hc1] at h
      refine fx_aload_n dX12_taken_68 rfl rfl ?_
      refine gx_getr dX12_taken_69 rfl fd_12_92 ha0.1 rfl rfl ?_
      refine fx_iload dX12_taken_72 rfl rfl ?_
      refine fx_iconst (x := -1) dX12_taken_74 rfl (by decide) ?_
      obtain ⟨hj3, h⟩ := xChk_el h
      obtain ⟨m2, hm2, h⟩ := xLet_el h
      refine gx_iastore dX12_taken_75 rfl ha0.2.2.2.2.2.2.2.2.2.2.2.2.2.2.2.2.2.2.2.2.2.2.2.2.2 hj3 hm2 ?_
      obtain ⟨x4, hx4, h⟩ := xLet_el h
      refine fx_iinc (ls2 := [some (.ref a0), some (.int a1), some (.int a2), some (.int l3), some (.int x4), o5, o6, o7, o8]) dX12_taken_76 rfl rfl rfl hx4 rfl ?_
      refine fx_goto (t := 61) dX12_taken_79 rfl rfl ?_
      exact ih l3 x4 (o5) (o6) (o7) (o8) q5 q6 q7 q8 m2 r h
def fX12_taken_53 (a0 : Nat) (a1 : Int32) (a2 : Int32) : Nat → Int32 → xMem → Option (Int32 × xMem)
  | 0, _, _ => none
  | fuel + 1, l3, m => if a1 < l3 then bif xIn (1550 : Int32) 1610 then xLet (m.1 (a0 + 1) (1550 : Int32).toNatClampNeg) fun x2 => bif xIn x2 81 then xLet (m.1 (a0 + 24) x2.toNatClampNeg) fun x4 => some (x4, m) else none else none else fX12_taken_61 a0 a1 a2 (fX12_taken_53 a0 a1 a2 fuel) xFuel l3 (0 : Int32) m
set_option maxRecDepth 4000 in
theorem fX12_taken_53_ok {a0 : Nat} {a1 : Int32} {a2 : Int32} {d : Nat} (hd : 2 ≤ d) (ha0 : isModel a0) : ∀ (fuel : Nat) (l3 : Int32) (o4 : Option Value) (o5 : Option Value) (o6 : Option Value) (o7 : Option Value) (o8 : Option Value) (q4 : xNoD o4 = true) (q5 : xNoD o5 = true) (q6 : xNoD o6 = true) (q7 : xNoD o7 = true) (q8 : xNoD o8 = true) (m : xMem) (r : (Int32 × xMem)), fX12_taken_53 a0 a1 a2 fuel l3 m = some r → xFx hh_261 cX12_taken d 53 [some (.ref a0), some (.int a1), some (.int a2), some (.int l3), o4, o5, o6, o7, o8] [] (xLay m) 0 0 (some (.int r.1)) (xLay r.2) := by
  intro fuel
  induction fuel with
  | zero => intro l3 o4 o5 o6 o7 o8 q4 q5 q6 q7 q8 m r  h; cases h
  | succ fuel ih =>
    intro l3 o4 o5 o6 o7 o8 q4 q5 q6 q7 q8 m r  h
    unfold fX12_taken_53 at h
    refine fx_iload_n dX12_taken_53 rfl rfl ?_
    refine fx_iload_n dX12_taken_54 rfl rfl ?_
    refine fx_icmp_gt (t := 247) dX12_taken_55 rfl rfl (fun hc1 => ?_) (fun hc1 => ?_)
    · rw [if_pos hc1] at h
      refine fx_aload_n dX12_taken_247 rfl rfl ?_
      refine gx_getr dX12_taken_248 rfl fd_12_89 ha0.1 rfl rfl ?_
      refine fx_aload_n dX12_taken_251 rfl rfl ?_
      refine gx_getr dX12_taken_252 rfl fd_12_7 ha0.1 rfl rfl ?_
      refine fx_sipush (x := 1550) dX12_taken_255 rfl (by decide) ?_
      obtain ⟨hj3, h⟩ := xChk_el h
      obtain ⟨x2, hx2, h⟩ := xLet_el h
      refine gx_iaload dX12_taken_258 rfl ha0.2.1 hj3 hx2 ?_
      obtain ⟨hj5, h⟩ := xChk_el h
      obtain ⟨x4, hx4, h⟩ := xLet_el h
      refine gx_iaload dX12_taken_259 rfl ha0.2.2.2.2.2.2.2.2.2.2.2.2.2.2.2.2.2.2.2.2.2.2.2.2.1 hj5 hx4 ?_
      cases h
      exact fx_ireturn dX12_taken_260 rfl rfl
    · rw [if_neg hc1] at h
      refine fx_iconst (x := 0) dX12_taken_58 rfl (by decide) ?_
      refine fx_istore (ls2 := [some (.ref a0), some (.int a1), some (.int a2), some (.int l3), some (.int (0 : Int32)), o5, o6, o7, o8]) dX12_taken_59 rfl rfl rfl ?_
      exact fX12_taken_61_ok hd ha0 ih xFuel l3 (0 : Int32) (o5) (o6) (o7) (o8) q5 q6 q7 q8 m r h
def fX12_taken_24 (a0 : Nat) (a1 : Int32) (a2 : Int32) : Nat → Int32 → xMem → Option (Int32 × xMem)
  | 0, _, _ => none
  | fuel + 1, l3, m => if (81 : Int32) ≤ l3 then fX12_taken_53 a0 a1 a2 xFuel (1 : Int32) m else if ¬ l3 = (0 : Int32) then fX12_taken_44 a0 a1 a2 (fX12_taken_24 a0 a1 a2 fuel) l3 (a0 + 24) l3 (-1 : Int32) m else fX12_taken_44 a0 a1 a2 (fX12_taken_24 a0 a1 a2 fuel) l3 (a0 + 24) l3 (0 : Int32) m
set_option maxRecDepth 4000 in
theorem fX12_taken_24_ok {a0 : Nat} {a1 : Int32} {a2 : Int32} {d : Nat} (hd : 2 ≤ d) (ha0 : isModel a0) : ∀ (fuel : Nat) (l3 : Int32) (o4 : Option Value) (o5 : Option Value) (o6 : Option Value) (o7 : Option Value) (o8 : Option Value) (q4 : xNoD o4 = true) (q5 : xNoD o5 = true) (q6 : xNoD o6 = true) (q7 : xNoD o7 = true) (q8 : xNoD o8 = true) (m : xMem) (r : (Int32 × xMem)), fX12_taken_24 a0 a1 a2 fuel l3 m = some r → xFx hh_261 cX12_taken d 24 [some (.ref a0), some (.int a1), some (.int a2), some (.int l3), o4, o5, o6, o7, o8] [] (xLay m) 0 0 (some (.int r.1)) (xLay r.2) := by
  intro fuel
  induction fuel with
  | zero => intro l3 o4 o5 o6 o7 o8 q4 q5 q6 q7 q8 m r  h; cases h
  | succ fuel ih =>
    intro l3 o4 o5 o6 o7 o8 q4 q5 q6 q7 q8 m r  h
    unfold fX12_taken_24 at h
    refine fx_iload_n dX12_taken_24 rfl rfl ?_
    refine fx_bipush (x := 81) dX12_taken_25 rfl (by decide) ?_
    refine fx_icmp_ge (t := 51) dX12_taken_27 rfl rfl (fun hc1 => ?_) (fun hc1 => ?_)
    · rw [if_pos hc1] at h
      refine fx_iconst (x := 1) dX12_taken_51 rfl (by decide) ?_
      refine fx_istore_n (ls2 := [some (.ref a0), some (.int a1), some (.int a2), some (.int (1 : Int32)), o4, o5, o6, o7, o8]) dX12_taken_52 rfl rfl rfl ?_
      exact fX12_taken_53_ok hd ha0 xFuel (1 : Int32) (o4) (o5) (o6) (o7) (o8) q4 q5 q6 q7 q8 m r h
    · rw [if_neg hc1] at h
      refine fx_aload_n dX12_taken_30 rfl rfl ?_
      refine gx_getr dX12_taken_31 rfl fd_12_89 ha0.1 rfl rfl ?_
      refine fx_iload_n dX12_taken_34 rfl rfl ?_
      refine fx_iload_n dX12_taken_35 rfl rfl ?_
      refine fx_if_ne (t := 43) dX12_taken_36 rfl rfl (fun hc2 => ?_) (fun hc2 => ?_)
      · rw [if_pos hc2] at h
        refine fx_iconst (x := -1) dX12_taken_43 rfl (by decide) ?_
        exact fX12_taken_44_ok (o4 := o4) (o5 := o5) (o6 := o6) (o7 := o7) (o8 := o8) hd ha0 ih ha0.2.2.2.2.2.2.2.2.2.2.2.2.2.2.2.2.2.2.2.2.2.2.2.2.1 q4 q5 q6 q7 q8 h
      · rw [if_neg hc2] at h
        refine fx_iconst (x := 0) dX12_taken_39 rfl (by decide) ?_
        refine fx_goto (t := 44) dX12_taken_40 rfl rfl ?_
        exact fX12_taken_44_ok (o4 := o4) (o5 := o5) (o6 := o6) (o7 := o7) (o8 := o8) hd ha0 ih ha0.2.2.2.2.2.2.2.2.2.2.2.2.2.2.2.2.2.2.2.2.2.2.2.2.1 q4 q5 q6 q7 q8 h
def fX12_taken_0 (a0 : Nat) (a1 : Int32) (a2 : Int32) (m : xMem) : Option (Int32 × xMem) := (fX12_in a1 (2 : Int32) (40 : Int32) m).bind fun p1 => if p1.1 = (0 : Int32) then fX12_taken_20 a0 a1 a2 p1.2 else bif xIn (8 : Int32) 1610 then xLet (p1.2.1 (a0 + 1) (8 : Int32).toNatClampNeg) fun x3 => if ¬ x3 = (0 : Int32) then fX12_taken_24 a0 a1 a2 xFuel (0 : Int32) p1.2 else fX12_taken_20 a0 a1 a2 p1.2 else none
set_option maxRecDepth 4000 in
theorem fX12_taken_0_ok {a0 : Nat} {a1 : Int32} {a2 : Int32} {d : Nat} (hd : 2 ≤ d) (ha0 : isModel a0) {o3 : Option Value} {o4 : Option Value} {o5 : Option Value} {o6 : Option Value} {o7 : Option Value} {o8 : Option Value} {m : xMem} {r : (Int32 × xMem)} (q3 : xNoD o3 = true) (q4 : xNoD o4 = true) (q5 : xNoD o5 = true) (q6 : xNoD o6 = true) (q7 : xNoD o7 = true) (q8 : xNoD o8 = true) (h : fX12_taken_0 a0 a1 a2 m = some r) : xFx hh_261 cX12_taken d 0 [some (.ref a0), some (.int a1), some (.int a2), o3, o4, o5, o6, o7, o8] [] (xLay m) 0 0 (some (.int r.1)) (xLay r.2) := by
  unfold fX12_taken_0 at h
  refine fx_iload_n dX12_taken_0 rfl rfl ?_
  refine fx_iconst (x := 2) dX12_taken_1 rfl (by decide) ?_
  refine fx_bipush (x := 40) dX12_taken_2 rfl (by decide) ?_
  obtain ⟨p1, ep1, h⟩ := xBind_el h
  refine gx_calls (as := [.int a1, .int (2 : Int32), .int (40 : Int32)]) (r := []) rfl dX12_taken_4 ca_12_95 rfl me_18 rfl rfl rfl rfl (fX12_in_ok (d := d) (by omega) ep1) rfl rfl ?_
  refine fx_if_eq (t := 20) dX12_taken_7 rfl rfl (fun hc2 => ?_) (fun hc2 => ?_)
  · rw [if_pos hc2] at h
    exact fX12_taken_20_ok (o3 := o3) (o4 := o4) (o5 := o5) (o6 := o6) (o7 := o7) (o8 := o8) hd ha0 q3 q4 q5 q6 q7 q8 h
  · rw [if_neg hc2] at h
    refine fx_aload_n dX12_taken_10 rfl rfl ?_
    refine gx_getr dX12_taken_11 rfl fd_12_7 ha0.1 rfl rfl ?_
    refine fx_bipush (x := 8) dX12_taken_14 rfl (by decide) ?_
    obtain ⟨hj4, h⟩ := xChk_el h
    obtain ⟨x3, hx3, h⟩ := xLet_el h
    refine gx_iaload dX12_taken_16 rfl ha0.2.1 hj4 hx3 ?_
    refine fx_if_ne (t := 22) dX12_taken_17 rfl rfl (fun hc5 => ?_) (fun hc5 => ?_)
    · rw [if_pos hc5] at h
      refine fx_iconst (x := 0) dX12_taken_22 rfl (by decide) ?_
      refine fx_istore_n (ls2 := [some (.ref a0), some (.int a1), some (.int a2), some (.int (0 : Int32)), o4, o5, o6, o7, o8]) dX12_taken_23 rfl rfl rfl ?_
      exact fX12_taken_24_ok hd ha0 xFuel (0 : Int32) (o4) (o5) (o6) (o7) (o8) q4 q5 q6 q7 q8 p1.2 r h
    · rw [if_neg hc5] at h
      exact fX12_taken_20_ok (o3 := o3) (o4 := o4) (o5 := o5) (o6 := o6) (o7 := o7) (o8 := o8) hd ha0 q3 q4 q5 q6 q7 q8 h
def fX12_taken (a0 : Nat) (a1 : Int32) (a2 : Int32) (m : xMem) : Option (Int32 × xMem) := fX12_taken_0 a0 a1 a2  m
theorem fX12_taken_ok {a0 : Nat} {a1 : Int32} {a2 : Int32} {m : xMem} {r : (Int32 × xMem)} {d : Nat} (hd : 3 ≤ d) (ha0 : isModel a0) (h : fX12_taken a0 a1 a2 m = some r) : xEx d 261 [.ref a0, .int a1, .int a2] (xLay m) (some (.int r.1)) (xLay r.2) := by
  obtain ⟨d, rfl⟩ : ∃ q, d = q + 1 := ⟨d - 1, by omega⟩
  exact xEx_of me_261 rfl (fX12_taken_0_ok (d := d) (o3 := none) (o4 := none) (o5 := none) (o6 := none) (o7 := none) (o8 := none) (by omega) ha0 rfl rfl rfl rfl rfl rfl h)
def fX1_copy_0 (a0 : Nat) (a1 : Nat) (m : xMem) : Option xMem := xLet (m.1 a1 2) fun x1 => xLet (xPut m a0 2 x1) fun m2 => xLet (xCpy m2 (a1 + 1) (a0 + 1) 0 0 12) fun m3 => xLet (xCpy m3 (a1 + 2) (a0 + 2) 0 0 12) fun m4 => some m4
set_option maxRecDepth 4000 in
theorem fX1_copy_0_ok {a0 : Nat} {a1 : Nat} {d : Nat} (hd : 0 ≤ d) (ha0 : isDays a0) (ha1 : isDays a1) {m : xMem} {r : xMem} (h : fX1_copy_0 a0 a1 m = some r) : xFx hh_265 cX1_copy d 0 [some (.ref a0), some (.ref a1)] [] (xLay m) 0 0 none (xLay r) := by
  unfold fX1_copy_0 at h
  refine fx_aload_n dX1_copy_0 rfl rfl ?_
  refine fx_aload_n dX1_copy_1 rfl rfl ?_
  obtain ⟨x1, hx1, h⟩ := xLet_el h
  refine gx_get dX1_copy_2 rfl fd_1_18 ha1.1 rfl rfl hx1 ?_
  obtain ⟨m2, hm2, h⟩ := xLet_el h
  refine gx_put dX1_copy_5 rfl fd_1_18 ha0.1 rfl rfl rfl hm2 ?_
  refine fx_aload_n dX1_copy_8 rfl rfl ?_
  refine gx_getr dX1_copy_9 rfl fd_1_11 ha1.1 rfl rfl ?_
  refine fx_iconst (x := 0) dX1_copy_12 rfl (by decide) ?_
  refine fx_aload_n dX1_copy_13 rfl rfl ?_
  refine gx_getr dX1_copy_14 rfl fd_1_11 ha0.1 rfl rfl ?_
  refine fx_iconst (x := 0) dX1_copy_17 rfl (by decide) ?_
  refine fx_aload_n dX1_copy_18 rfl rfl ?_
  refine gx_getr dX1_copy_19 rfl fd_1_11 ha0.1 rfl rfl ?_
  refine gx_alen (t := 1) (y := 12) dX1_copy_22 rfl ha0.2.1 rfl (by decide) ?_
  obtain ⟨m3, hm3, h⟩ := xLet_el h
  refine gx_copy dX1_copy_23 rfl ca_1_22 rfl ha1.2.1 ha0.2.1 (by decide) hm3 ?_
  refine fx_aload_n dX1_copy_26 rfl rfl ?_
  refine gx_getr dX1_copy_27 rfl fd_1_15 ha1.1 rfl rfl ?_
  refine fx_iconst (x := 0) dX1_copy_30 rfl (by decide) ?_
  refine fx_aload_n dX1_copy_31 rfl rfl ?_
  refine gx_getr dX1_copy_32 rfl fd_1_15 ha0.1 rfl rfl ?_
  refine fx_iconst (x := 0) dX1_copy_35 rfl (by decide) ?_
  refine fx_aload_n dX1_copy_36 rfl rfl ?_
  refine gx_getr dX1_copy_37 rfl fd_1_15 ha0.1 rfl rfl ?_
  refine gx_alen (t := 1) (y := 12) dX1_copy_40 rfl ha0.2.2 rfl (by decide) ?_
  obtain ⟨m4, hm4, h⟩ := xLet_el h
  refine gx_copy dX1_copy_41 rfl ca_1_22 rfl ha1.2.2 ha0.2.2 (by decide) hm4 ?_
  cases h
  exact fx_return dX1_copy_44 rfl rfl
def fX1_copy (a0 : Nat) (a1 : Nat) (m : xMem) : Option xMem := fX1_copy_0 a0 a1  m
theorem fX1_copy_ok {a0 : Nat} {a1 : Nat} {m : xMem} {r : xMem} {d : Nat} (hd : 1 ≤ d) (ha0 : isDays a0) (ha1 : isDays a1) (h : fX1_copy a0 a1 m = some r) : xEx d 265 [.ref a0, .ref a1] (xLay m) none (xLay r) := by
  obtain ⟨d, rfl⟩ : ∃ q, d = q + 1 := ⟨d - 1, by omega⟩
  exact xEx_of me_265 rfl (fX1_copy_0_ok (d := d) (by omega) ha0 ha1 h)
def fX5_copy_0 (a0 : Nat) (a1 : Nat) (m : xMem) : Option xMem := xLet (m.1 a1 5) fun x1 => xLet (xPut m a0 5 x1) fun m2 => xLet (xCpy m2 (a1 + 1) (a0 + 1) 0 0 6) fun m3 => xLet (xCpy m3 (a1 + 2) (a0 + 2) 0 0 6) fun m4 => xLet (xCpy m4 (a1 + 3) (a0 + 3) 0 0 6) fun m5 => xLet (xCpy m5 (a1 + 4) (a0 + 4) 0 0 6) fun m6 => some m6
set_option maxRecDepth 4000 in
theorem fX5_copy_0_ok {a0 : Nat} {a1 : Nat} {d : Nat} (hd : 0 ≤ d) (ha0 : isMends a0) (ha1 : isMends a1) {m : xMem} {r : xMem} (h : fX5_copy_0 a0 a1 m = some r) : xFx hh_266 cX5_copy d 0 [some (.ref a0), some (.ref a1)] [] (xLay m) 0 0 none (xLay r) := by
  unfold fX5_copy_0 at h
  refine fx_aload_n dX5_copy_0 rfl rfl ?_
  refine fx_aload_n dX5_copy_1 rfl rfl ?_
  obtain ⟨x1, hx1, h⟩ := xLet_el h
  refine gx_get dX5_copy_2 rfl fd_5_27 ha1.1 rfl rfl hx1 ?_
  obtain ⟨m2, hm2, h⟩ := xLet_el h
  refine gx_put dX5_copy_5 rfl fd_5_27 ha0.1 rfl rfl rfl hm2 ?_
  refine fx_aload_n dX5_copy_8 rfl rfl ?_
  refine gx_getr dX5_copy_9 rfl fd_5_11 ha1.1 rfl rfl ?_
  refine fx_iconst (x := 0) dX5_copy_12 rfl (by decide) ?_
  refine fx_aload_n dX5_copy_13 rfl rfl ?_
  refine gx_getr dX5_copy_14 rfl fd_5_11 ha0.1 rfl rfl ?_
  refine fx_iconst (x := 0) dX5_copy_17 rfl (by decide) ?_
  refine fx_bipush (x := 6) dX5_copy_18 rfl (by decide) ?_
  obtain ⟨m3, hm3, h⟩ := xLet_el h
  refine gx_copy dX5_copy_20 rfl ca_5_31 rfl ha1.2.1 ha0.2.1 (by decide) hm3 ?_
  refine fx_aload_n dX5_copy_23 rfl rfl ?_
  refine gx_getr dX5_copy_24 rfl fd_5_15 ha1.1 rfl rfl ?_
  refine fx_iconst (x := 0) dX5_copy_27 rfl (by decide) ?_
  refine fx_aload_n dX5_copy_28 rfl rfl ?_
  refine gx_getr dX5_copy_29 rfl fd_5_15 ha0.1 rfl rfl ?_
  refine fx_iconst (x := 0) dX5_copy_32 rfl (by decide) ?_
  refine fx_bipush (x := 6) dX5_copy_33 rfl (by decide) ?_
  obtain ⟨m4, hm4, h⟩ := xLet_el h
  refine gx_copy dX5_copy_35 rfl ca_5_31 rfl ha1.2.2.1 ha0.2.2.1 (by decide) hm4 ?_
  refine fx_aload_n dX5_copy_38 rfl rfl ?_
  refine gx_getr dX5_copy_39 rfl fd_5_18 ha1.1 rfl rfl ?_
  refine fx_iconst (x := 0) dX5_copy_42 rfl (by decide) ?_
  refine fx_aload_n dX5_copy_43 rfl rfl ?_
  refine gx_getr dX5_copy_44 rfl fd_5_18 ha0.1 rfl rfl ?_
  refine fx_iconst (x := 0) dX5_copy_47 rfl (by decide) ?_
  refine fx_bipush (x := 6) dX5_copy_48 rfl (by decide) ?_
  obtain ⟨m5, hm5, h⟩ := xLet_el h
  refine gx_copy dX5_copy_50 rfl ca_5_31 rfl ha1.2.2.2.1 ha0.2.2.2.1 (by decide) hm5 ?_
  refine fx_aload_n dX5_copy_53 rfl rfl ?_
  refine gx_getr dX5_copy_54 rfl fd_5_21 ha1.1 rfl rfl ?_
  refine fx_iconst (x := 0) dX5_copy_57 rfl (by decide) ?_
  refine fx_aload_n dX5_copy_58 rfl rfl ?_
  refine gx_getr dX5_copy_59 rfl fd_5_21 ha0.1 rfl rfl ?_
  refine fx_iconst (x := 0) dX5_copy_62 rfl (by decide) ?_
  refine fx_bipush (x := 6) dX5_copy_63 rfl (by decide) ?_
  obtain ⟨m6, hm6, h⟩ := xLet_el h
  refine gx_copy dX5_copy_65 rfl ca_5_31 rfl ha1.2.2.2.2.1 ha0.2.2.2.2.1 (by decide) hm6 ?_
  cases h
  exact fx_return dX5_copy_68 rfl rfl
def fX5_copy (a0 : Nat) (a1 : Nat) (m : xMem) : Option xMem := fX5_copy_0 a0 a1  m
theorem fX5_copy_ok {a0 : Nat} {a1 : Nat} {m : xMem} {r : xMem} {d : Nat} (hd : 1 ≤ d) (ha0 : isMends a0) (ha1 : isMends a1) (h : fX5_copy a0 a1 m = some r) : xEx d 266 [.ref a0, .ref a1] (xLay m) none (xLay r) := by
  obtain ⟨d, rfl⟩ : ∃ q, d = q + 1 := ⟨d - 1, by omega⟩
  exact xEx_of me_266 rfl (fX5_copy_0_ok (d := d) (by omega) ha0 ha1 h)
def fX4_copy_0 (a0 : Nat) (a1 : Nat) (m : xMem) : Option xMem := xLet (m.1 a1 1) fun x1 => xLet (xPut m a0 1 x1) fun m2 => xLet (xCpy m2 (a1 + 1) (a0 + 1) 0 0 60) fun m3 => some m3
set_option maxRecDepth 4000 in
theorem fX4_copy_0_ok {a0 : Nat} {a1 : Nat} {d : Nat} (hd : 0 ≤ d) (ha0 : isLoads a0) (ha1 : isLoads a1) {m : xMem} {r : xMem} (h : fX4_copy_0 a0 a1 m = some r) : xFx hh_267 cX4_copy d 0 [some (.ref a0), some (.ref a1)] [] (xLay m) 0 0 none (xLay r) := by
  unfold fX4_copy_0 at h
  refine fx_aload_n dX4_copy_0 rfl rfl ?_
  refine fx_aload_n dX4_copy_1 rfl rfl ?_
  obtain ⟨x1, hx1, h⟩ := xLet_el h
  refine gx_get dX4_copy_2 rfl fd_4_15 ha1.1 rfl rfl hx1 ?_
  obtain ⟨m2, hm2, h⟩ := xLet_el h
  refine gx_put dX4_copy_5 rfl fd_4_15 ha0.1 rfl rfl rfl hm2 ?_
  refine fx_aload_n dX4_copy_8 rfl rfl ?_
  refine gx_getr dX4_copy_9 rfl fd_4_11 ha1.1 rfl rfl ?_
  refine fx_iconst (x := 0) dX4_copy_12 rfl (by decide) ?_
  refine fx_aload_n dX4_copy_13 rfl rfl ?_
  refine gx_getr dX4_copy_14 rfl fd_4_11 ha0.1 rfl rfl ?_
  refine fx_iconst (x := 0) dX4_copy_17 rfl (by decide) ?_
  refine fx_bipush (x := 60) dX4_copy_18 rfl (by decide) ?_
  obtain ⟨m3, hm3, h⟩ := xLet_el h
  refine gx_copy dX4_copy_20 rfl ca_4_19 rfl ha1.2 ha0.2 (by decide) hm3 ?_
  cases h
  exact fx_return dX4_copy_23 rfl rfl
def fX4_copy (a0 : Nat) (a1 : Nat) (m : xMem) : Option xMem := fX4_copy_0 a0 a1  m
theorem fX4_copy_ok {a0 : Nat} {a1 : Nat} {m : xMem} {r : xMem} {d : Nat} (hd : 1 ≤ d) (ha0 : isLoads a0) (ha1 : isLoads a1) (h : fX4_copy a0 a1 m = some r) : xEx d 267 [.ref a0, .ref a1] (xLay m) none (xLay r) := by
  obtain ⟨d, rfl⟩ : ∃ q, d = q + 1 := ⟨d - 1, by omega⟩
  exact xEx_of me_267 rfl (fX4_copy_0_ok (d := d) (by omega) ha0 ha1 h)
def fX9_copyAll_0 (a0 : Nat) (a1 : Nat) (m : xMem) : Option xMem := (fX9_copyMoving a0 a1 m).bind fun p1 => xLet (p1.1 a1 10) fun x2 => xLet (xPut p1 a0 10 x2) fun m3 => xLet (m3.1 a1 11) fun x4 => xLet (xPut m3 a0 11 x4) fun m5 => (fX1_copy (a0 + 4) (a1 + 4) m5).bind fun p6 => (fX5_copy (a0 + 7) (a1 + 7) p6).bind fun p7 => (fX4_copy (a0 + 13) (a1 + 13) p7).bind fun p8 => some p8
set_option maxRecDepth 4000 in
theorem fX9_copyAll_0_ok {a0 : Nat} {a1 : Nat} {d : Nat} (hd : 2 ≤ d) (ha0 : isStation a0) (ha1 : isStation a1) {m : xMem} {r : xMem} (h : fX9_copyAll_0 a0 a1 m = some r) : xFx hh_264 cX9_copyAll d 0 [some (.ref a0), some (.ref a1)] [] (xLay m) 0 0 none (xLay r) := by
  unfold fX9_copyAll_0 at h
  refine fx_aload_n dX9_copyAll_0 rfl rfl ?_
  refine fx_aload_n dX9_copyAll_1 rfl rfl ?_
  obtain ⟨p1, ep1, h⟩ := xBind_el h
  refine gx_callv (as := [.ref a1]) (r := []) rfl dX9_copyAll_2 ca_9_90 rfl me_208 rfl rfl rfl rfl (ha0.1) rfl (fX9_copyMoving_ok (d := d) (by omega) ha0 ha1 ep1) rfl rfl ?_
  refine fx_aload_n dX9_copyAll_5 rfl rfl ?_
  refine fx_aload_n dX9_copyAll_6 rfl rfl ?_
  obtain ⟨x2, hx2, h⟩ := xLet_el h
  refine gx_get dX9_copyAll_7 rfl fd_9_94 ha1.1 rfl rfl hx2 ?_
  obtain ⟨m3, hm3, h⟩ := xLet_el h
  refine gx_put dX9_copyAll_10 rfl fd_9_94 ha0.1 rfl rfl rfl hm3 ?_
  refine fx_aload_n dX9_copyAll_13 rfl rfl ?_
  refine fx_aload_n dX9_copyAll_14 rfl rfl ?_
  obtain ⟨x4, hx4, h⟩ := xLet_el h
  refine gx_get dX9_copyAll_15 rfl fd_9_50 ha1.1 rfl rfl hx4 ?_
  obtain ⟨m5, hm5, h⟩ := xLet_el h
  refine gx_put dX9_copyAll_18 rfl fd_9_50 ha0.1 rfl rfl rfl hm5 ?_
  refine fx_aload_n dX9_copyAll_21 rfl rfl ?_
  refine gx_getr dX9_copyAll_22 rfl fd_9_32 ha0.1 rfl rfl ?_
  refine fx_aload_n dX9_copyAll_25 rfl rfl ?_
  refine gx_getr dX9_copyAll_26 rfl fd_9_32 ha1.1 rfl rfl ?_
  obtain ⟨p6, ep6, h⟩ := xBind_el h
  refine gx_callv (as := [.ref (a1 + 4)]) (r := []) rfl dX9_copyAll_29 ca_9_97 rfl me_265 rfl rfl rfl rfl (ha0.2.2.2.2.1.1) rfl (fX1_copy_ok (d := d) (by omega) ha0.2.2.2.2.1 ha1.2.2.2.2.1 ep6) rfl rfl ?_
  refine fx_aload_n dX9_copyAll_32 rfl rfl ?_
  refine gx_getr dX9_copyAll_33 rfl fd_9_39 ha0.1 rfl rfl ?_
  refine fx_aload_n dX9_copyAll_36 rfl rfl ?_
  refine gx_getr dX9_copyAll_37 rfl fd_9_39 ha1.1 rfl rfl ?_
  obtain ⟨p7, ep7, h⟩ := xBind_el h
  refine gx_callv (as := [.ref (a1 + 7)]) (r := []) rfl dX9_copyAll_40 ca_9_101 rfl me_266 rfl rfl rfl rfl (ha0.2.2.2.2.2.1.1) rfl (fX5_copy_ok (d := d) (by omega) ha0.2.2.2.2.2.1 ha1.2.2.2.2.2.1 ep7) rfl rfl ?_
  refine fx_aload_n dX9_copyAll_43 rfl rfl ?_
  refine gx_getr dX9_copyAll_44 rfl fd_9_46 ha0.1 rfl rfl ?_
  refine fx_aload_n dX9_copyAll_47 rfl rfl ?_
  refine gx_getr dX9_copyAll_48 rfl fd_9_46 ha1.1 rfl rfl ?_
  obtain ⟨p8, ep8, h⟩ := xBind_el h
  refine gx_callv (as := [.ref (a1 + 13)]) (r := []) rfl dX9_copyAll_51 ca_9_104 rfl me_267 rfl rfl rfl rfl (ha0.2.2.2.2.2.2.1.1) rfl (fX4_copy_ok (d := d) (by omega) ha0.2.2.2.2.2.2.1 ha1.2.2.2.2.2.2.1 ep8) rfl rfl ?_
  cases h
  exact fx_return dX9_copyAll_54 rfl rfl
def fX9_copyAll (a0 : Nat) (a1 : Nat) (m : xMem) : Option xMem := fX9_copyAll_0 a0 a1  m
theorem fX9_copyAll_ok {a0 : Nat} {a1 : Nat} {m : xMem} {r : xMem} {d : Nat} (hd : 3 ≤ d) (ha0 : isStation a0) (ha1 : isStation a1) (h : fX9_copyAll a0 a1 m = some r) : xEx d 264 [.ref a0, .ref a1] (xLay m) none (xLay r) := by
  obtain ⟨d, rfl⟩ : ∃ q, d = q + 1 := ⟨d - 1, by omega⟩
  exact xEx_of me_264 rfl (fX9_copyAll_0_ok (d := d) (by omega) ha0 ha1 h)
def fX11_image_0 (a0 : Nat) (m : xMem) : Option (Int32 × xMem) := (fX9_copyAll (a0 + 84) (a0 + 1) m).bind fun p1 => xLet (p1.1 (a0 + 84) 6) fun x2 => some (x2, p1)
set_option maxRecDepth 4000 in
theorem fX11_image_0_ok {a0 : Nat} {d : Nat} (hd : 3 ≤ d) (ha0 : isMS a0) {m : xMem} {r : (Int32 × xMem)} (h : fX11_image_0 a0 m = some r) : xFx hh_263 cX11_image d 0 [some (.ref a0)] [] (xLay m) 0 0 (some (.int r.1)) (xLay r.2) := by
  unfold fX11_image_0 at h
  refine fx_aload_n dX11_image_0 rfl rfl ?_
  refine gx_getr dX11_image_1 rfl fd_11_16 ha0.1 rfl rfl ?_
  refine fx_aload_n dX11_image_4 rfl rfl ?_
  refine gx_getr dX11_image_5 rfl fd_11_10 ha0.1 rfl rfl ?_
  obtain ⟨p1, ep1, h⟩ := xBind_el h
  refine gx_callv (as := [.ref (a0 + 1)]) (r := []) rfl dX11_image_8 ca_11_314 rfl me_264 rfl rfl rfl rfl (ha0.2.2.1.1) rfl (fX9_copyAll_ok (d := d) (by omega) ha0.2.2.1 ha0.2.1 ep1) rfl rfl ?_
  refine fx_aload_n dX11_image_11 rfl rfl ?_
  refine gx_getr dX11_image_12 rfl fd_11_16 ha0.1 rfl rfl ?_
  obtain ⟨x2, hx2, h⟩ := xLet_el h
  refine gx_get dX11_image_15 rfl fd_11_173 ha0.2.2.1.1 rfl rfl hx2 ?_
  cases h
  exact fx_ireturn dX11_image_18 rfl rfl
def fX11_image (a0 : Nat) (m : xMem) : Option (Int32 × xMem) := fX11_image_0 a0  m
theorem fX11_image_ok {a0 : Nat} {m : xMem} {r : (Int32 × xMem)} {d : Nat} (hd : 4 ≤ d) (ha0 : isMS a0) (h : fX11_image a0 m = some r) : xEx d 263 [.ref a0] (xLay m) (some (.int r.1)) (xLay r.2) := by
  obtain ⟨d, rfl⟩ : ∃ q, d = q + 1 := ⟨d - 1, by omega⟩
  exact xEx_of me_263 rfl (fX11_image_0_ok (d := d) (by omega) ha0 h)
def fX12_image_2 (a0 : Nat) : Nat → Int32 → xMem → Option (Int32 × xMem)
  | 0, _, _ => none
  | fuel + 1, l1, m => if (1610 : Int32) ≤ l1 then bif xIn (0 : Int32) 1610 then xLet (m.1 (a0 + 1) (0 : Int32).toNatClampNeg) fun x2 => some (x2, m) else none else bif xIn l1 1610 then xLet (m.1 (a0 + 1) l1.toNatClampNeg) fun x4 => bif xIn l1 1610 then xLet (xPut m (a0 + 2) l1.toNatClampNeg x4) fun m6 => xLet (l1 + (1 : Int32)) fun x8 => fX12_image_2 a0 fuel x8 m6 else none else none
set_option maxRecDepth 4000 in
theorem fX12_image_2_ok {a0 : Nat} {d : Nat} (hd : 0 ≤ d) (ha0 : isModel a0) : ∀ (fuel : Nat) (l1 : Int32) (m : xMem) (r : (Int32 × xMem)), fX12_image_2 a0 fuel l1 m = some r → xFx hh_268 cX12_image d 2 [some (.ref a0), some (.int l1)] [] (xLay m) 0 0 (some (.int r.1)) (xLay r.2) := by
  intro fuel
  induction fuel with
  | zero => intro l1  m r  h; cases h
  | succ fuel ih =>
    intro l1  m r  h
    unfold fX12_image_2 at h
    refine fx_iload_n dX12_image_2 rfl rfl ?_
    refine fx_sipush (x := 1610) dX12_image_3 rfl (by decide) ?_
    refine fx_icmp_ge (t := 27) dX12_image_6 rfl rfl (fun hc1 => ?_) (fun hc1 => ?_)
    · rw [if_pos hc1] at h
      refine fx_aload_n dX12_image_27 rfl rfl ?_
      refine gx_getr dX12_image_28 rfl fd_12_7 ha0.1 rfl rfl ?_
      refine fx_iconst (x := 0) dX12_image_31 rfl (by decide) ?_
      obtain ⟨hj3, h⟩ := xChk_el h
      obtain ⟨x2, hx2, h⟩ := xLet_el h
      refine gx_iaload dX12_image_32 rfl ha0.2.1 hj3 hx2 ?_
      cases h
      exact fx_ireturn dX12_image_33 rfl rfl
    · rw [if_neg hc1] at h
      refine fx_aload_n dX12_image_9 rfl rfl ?_
      refine gx_getr dX12_image_10 rfl fd_12_13 ha0.1 rfl rfl ?_
      refine fx_iload_n dX12_image_13 rfl rfl ?_
      refine fx_aload_n dX12_image_14 rfl rfl ?_
      refine gx_getr dX12_image_15 rfl fd_12_7 ha0.1 rfl rfl ?_
      refine fx_iload_n dX12_image_18 rfl rfl ?_
      obtain ⟨hj5, h⟩ := xChk_el h
      obtain ⟨x4, hx4, h⟩ := xLet_el h
      refine gx_iaload dX12_image_19 rfl ha0.2.1 hj5 hx4 ?_
      obtain ⟨hj7, h⟩ := xChk_el h
      obtain ⟨m6, hm6, h⟩ := xLet_el h
      refine gx_iastore dX12_image_20 rfl ha0.2.2.1 hj7 hm6 ?_
      obtain ⟨x8, hx8, h⟩ := xLet_el h
      refine fx_iinc (ls2 := [some (.ref a0), some (.int x8)]) dX12_image_21 rfl rfl rfl hx8 rfl ?_
      refine fx_goto (t := 2) dX12_image_24 rfl rfl ?_
      exact ih x8 m6 r h
def fX12_image_0 (a0 : Nat) (m : xMem) : Option (Int32 × xMem) := fX12_image_2 a0 xFuel (0 : Int32) m
set_option maxRecDepth 4000 in
theorem fX12_image_0_ok {a0 : Nat} {d : Nat} (hd : 0 ≤ d) (ha0 : isModel a0) {o1 : Option Value} {m : xMem} {r : (Int32 × xMem)} (q1 : xNoD o1 = true) (h : fX12_image_0 a0 m = some r) : xFx hh_268 cX12_image d 0 [some (.ref a0), o1] [] (xLay m) 0 0 (some (.int r.1)) (xLay r.2) := by
  unfold fX12_image_0 at h
  refine fx_iconst (x := 0) dX12_image_0 rfl (by decide) ?_
  refine fx_istore_n (ls2 := [some (.ref a0), some (.int (0 : Int32))]) dX12_image_1 rfl rfl rfl ?_
  exact fX12_image_2_ok hd ha0 xFuel (0 : Int32) m r h
def fX12_image (a0 : Nat) (m : xMem) : Option (Int32 × xMem) := fX12_image_0 a0  m
theorem fX12_image_ok {a0 : Nat} {m : xMem} {r : (Int32 × xMem)} {d : Nat} (hd : 1 ≤ d) (ha0 : isModel a0) (h : fX12_image a0 m = some r) : xEx d 268 [.ref a0] (xLay m) (some (.int r.1)) (xLay r.2) := by
  obtain ⟨d, rfl⟩ : ∃ q, d = q + 1 := ⟨d - 1, by omega⟩
  exact xEx_of me_268 rfl (fX12_image_0_ok (d := d) (o1 := none) (by omega) ha0 rfl h)
def fX11_back_0 (a0 : Nat) (m : xMem) : Option (Int32 × xMem) := (fX9_copyAll (a0 + 1) (a0 + 84) m).bind fun p1 => xLet (p1.1 (a0 + 1) 6) fun x2 => some (x2, p1)
set_option maxRecDepth 4000 in
theorem fX11_back_0_ok {a0 : Nat} {d : Nat} (hd : 3 ≤ d) (ha0 : isMS a0) {m : xMem} {r : (Int32 × xMem)} (h : fX11_back_0 a0 m = some r) : xFx hh_269 cX11_back d 0 [some (.ref a0)] [] (xLay m) 0 0 (some (.int r.1)) (xLay r.2) := by
  unfold fX11_back_0 at h
  refine fx_aload_n dX11_back_0 rfl rfl ?_
  refine gx_getr dX11_back_1 rfl fd_11_10 ha0.1 rfl rfl ?_
  refine fx_aload_n dX11_back_4 rfl rfl ?_
  refine gx_getr dX11_back_5 rfl fd_11_16 ha0.1 rfl rfl ?_
  obtain ⟨p1, ep1, h⟩ := xBind_el h
  refine gx_callv (as := [.ref (a0 + 84)]) (r := []) rfl dX11_back_8 ca_11_314 rfl me_264 rfl rfl rfl rfl (ha0.2.1.1) rfl (fX9_copyAll_ok (d := d) (by omega) ha0.2.1 ha0.2.2.1 ep1) rfl rfl ?_
  refine fx_aload_n dX11_back_11 rfl rfl ?_
  refine gx_getr dX11_back_12 rfl fd_11_10 ha0.1 rfl rfl ?_
  obtain ⟨x2, hx2, h⟩ := xLet_el h
  refine gx_get dX11_back_15 rfl fd_11_173 ha0.2.1.1 rfl rfl hx2 ?_
  cases h
  exact fx_ireturn dX11_back_18 rfl rfl
def fX11_back (a0 : Nat) (m : xMem) : Option (Int32 × xMem) := fX11_back_0 a0  m
theorem fX11_back_ok {a0 : Nat} {m : xMem} {r : (Int32 × xMem)} {d : Nat} (hd : 4 ≤ d) (ha0 : isMS a0) (h : fX11_back a0 m = some r) : xEx d 269 [.ref a0] (xLay m) (some (.int r.1)) (xLay r.2) := by
  obtain ⟨d, rfl⟩ : ∃ q, d = q + 1 := ⟨d - 1, by omega⟩
  exact xEx_of me_269 rfl (fX11_back_0_ok (d := d) (by omega) ha0 h)
def fX12_back_2 (a0 : Nat) : Nat → Int32 → xMem → Option (Int32 × xMem)
  | 0, _, _ => none
  | fuel + 1, l1, m => if (1610 : Int32) ≤ l1 then bif xIn (0 : Int32) 1610 then xLet (m.1 (a0 + 1) (0 : Int32).toNatClampNeg) fun x2 => some (x2, m) else none else bif xIn l1 1610 then xLet (m.1 (a0 + 2) l1.toNatClampNeg) fun x4 => bif xIn l1 1610 then xLet (xPut m (a0 + 1) l1.toNatClampNeg x4) fun m6 => xLet (l1 + (1 : Int32)) fun x8 => fX12_back_2 a0 fuel x8 m6 else none else none
set_option maxRecDepth 4000 in
theorem fX12_back_2_ok {a0 : Nat} {d : Nat} (hd : 0 ≤ d) (ha0 : isModel a0) : ∀ (fuel : Nat) (l1 : Int32) (m : xMem) (r : (Int32 × xMem)), fX12_back_2 a0 fuel l1 m = some r → xFx hh_270 cX12_back d 2 [some (.ref a0), some (.int l1)] [] (xLay m) 0 0 (some (.int r.1)) (xLay r.2) := by
  intro fuel
  induction fuel with
  | zero => intro l1  m r  h; cases h
  | succ fuel ih =>
    intro l1  m r  h
    unfold fX12_back_2 at h
    refine fx_iload_n dX12_back_2 rfl rfl ?_
    refine fx_sipush (x := 1610) dX12_back_3 rfl (by decide) ?_
    refine fx_icmp_ge (t := 27) dX12_back_6 rfl rfl (fun hc1 => ?_) (fun hc1 => ?_)
    · rw [if_pos hc1] at h
      refine fx_aload_n dX12_back_27 rfl rfl ?_
      refine gx_getr dX12_back_28 rfl fd_12_7 ha0.1 rfl rfl ?_
      refine fx_iconst (x := 0) dX12_back_31 rfl (by decide) ?_
      obtain ⟨hj3, h⟩ := xChk_el h
      obtain ⟨x2, hx2, h⟩ := xLet_el h
      refine gx_iaload dX12_back_32 rfl ha0.2.1 hj3 hx2 ?_
      cases h
      exact fx_ireturn dX12_back_33 rfl rfl
    · rw [if_neg hc1] at h
      refine fx_aload_n dX12_back_9 rfl rfl ?_
      refine gx_getr dX12_back_10 rfl fd_12_7 ha0.1 rfl rfl ?_
      refine fx_iload_n dX12_back_13 rfl rfl ?_
      refine fx_aload_n dX12_back_14 rfl rfl ?_
      refine gx_getr dX12_back_15 rfl fd_12_13 ha0.1 rfl rfl ?_
      refine fx_iload_n dX12_back_18 rfl rfl ?_
      obtain ⟨hj5, h⟩ := xChk_el h
      obtain ⟨x4, hx4, h⟩ := xLet_el h
      refine gx_iaload dX12_back_19 rfl ha0.2.2.1 hj5 hx4 ?_
      obtain ⟨hj7, h⟩ := xChk_el h
      obtain ⟨m6, hm6, h⟩ := xLet_el h
      refine gx_iastore dX12_back_20 rfl ha0.2.1 hj7 hm6 ?_
      obtain ⟨x8, hx8, h⟩ := xLet_el h
      refine fx_iinc (ls2 := [some (.ref a0), some (.int x8)]) dX12_back_21 rfl rfl rfl hx8 rfl ?_
      refine fx_goto (t := 2) dX12_back_24 rfl rfl ?_
      exact ih x8 m6 r h
def fX12_back_0 (a0 : Nat) (m : xMem) : Option (Int32 × xMem) := fX12_back_2 a0 xFuel (0 : Int32) m
set_option maxRecDepth 4000 in
theorem fX12_back_0_ok {a0 : Nat} {d : Nat} (hd : 0 ≤ d) (ha0 : isModel a0) {o1 : Option Value} {m : xMem} {r : (Int32 × xMem)} (q1 : xNoD o1 = true) (h : fX12_back_0 a0 m = some r) : xFx hh_270 cX12_back d 0 [some (.ref a0), o1] [] (xLay m) 0 0 (some (.int r.1)) (xLay r.2) := by
  unfold fX12_back_0 at h
  refine fx_iconst (x := 0) dX12_back_0 rfl (by decide) ?_
  refine fx_istore_n (ls2 := [some (.ref a0), some (.int (0 : Int32))]) dX12_back_1 rfl rfl rfl ?_
  exact fX12_back_2_ok hd ha0 xFuel (0 : Int32) m r h
def fX12_back (a0 : Nat) (m : xMem) : Option (Int32 × xMem) := fX12_back_0 a0  m
theorem fX12_back_ok {a0 : Nat} {m : xMem} {r : (Int32 × xMem)} {d : Nat} (hd : 1 ≤ d) (ha0 : isModel a0) (h : fX12_back a0 m = some r) : xEx d 270 [.ref a0] (xLay m) (some (.int r.1)) (xLay r.2) := by
  obtain ⟨d, rfl⟩ : ∃ q, d = q + 1 := ⟨d - 1, by omega⟩
  exact xEx_of me_270 rfl (fX12_back_0_ok (d := d) (o1 := none) (by omega) ha0 rfl h)
def fX11_about_0 (a0 : Nat) (a1 : Int32) (m : xMem) : Option (Int32 × xMem) := if a1 = (0 : Int32) then xLet (m.1 (a0 + 1) 6) fun x2 => some (x2, m) else if a1 = (1 : Int32) then xLet (m.1 (a0 + 1) 7) fun x4 => some (x4, m) else if a1 = (2 : Int32) then xLet (m.1 (a0 + 1) 8) fun x6 => some (x6, m) else if a1 = (3 : Int32) then xLet (m.1 (a0 + 1) 9) fun x8 => some (x8, m) else if a1 = (4 : Int32) then xLet (m.1 (a0 + 1) 10) fun x10 => some (x10, m) else if a1 = (5 : Int32) then xLet (m.1 (a0 + 1) 11) fun x12 => some (x12, m) else if a1 = (6 : Int32) then xLet (m.1 (a0 + 1 + 4) 2) fun x14 => some (x14, m) else if a1 = (7 : Int32) then xLet (m.1 (a0 + 1 + 7) 5) fun x16 => some (x16, m) else if a1 = (8 : Int32) then xLet (m.1 (a0 + 1 + 13) 1) fun x18 => some (x18, m) else if a1 = (9 : Int32) then xLet (m.1 (a0 + 255) 4) fun x20 => some (x20, m) else some ((-1 : Int32), m)
set_option maxRecDepth 4000 in
theorem fX11_about_0_ok {a0 : Nat} {a1 : Int32} {d : Nat} (hd : 0 ≤ d) (ha0 : isMS a0) {m : xMem} {r : (Int32 × xMem)} (h : fX11_about_0 a0 a1 m = some r) : xFx hh_271 cX11_about d 0 [some (.ref a0), some (.int a1)] [] (xLay m) 0 0 (some (.int r.1)) (xLay r.2) := by
  unfold fX11_about_0 at h
  refine fx_iload_n dX11_about_0 rfl rfl ?_
  by_cases hc1 : a1 = (0 : Int32)
  · rw [if_pos hc1] at h
    refine fx_tabIn (t := 56) dX11_about_1 rfl (by rw [hc1]; decide) (by rw [hc1]; decide) (by rw [hc1]; rfl) rfl ?_
    refine fx_aload_n dX11_about_56 rfl rfl ?_
    refine gx_getr dX11_about_57 rfl fd_11_10 ha0.1 rfl rfl ?_
    obtain ⟨x2, hx2, h⟩ := xLet_el h
    refine gx_get dX11_about_60 rfl fd_11_173 ha0.2.1.1 rfl rfl hx2 ?_
    cases h
    exact fx_ireturn dX11_about_63 rfl rfl
  · rw [if_neg hc1] at h
    by_cases hc3 : a1 = (1 : Int32)
    · rw [if_pos hc3] at h
      refine fx_tabIn (t := 64) dX11_about_1 rfl (by rw [hc3]; decide) (by rw [hc3]; decide) (by rw [hc3]; rfl) rfl ?_
      refine fx_aload_n dX11_about_64 rfl rfl ?_
      refine gx_getr dX11_about_65 rfl fd_11_10 ha0.1 rfl rfl ?_
      obtain ⟨x4, hx4, h⟩ := xLet_el h
      refine gx_get dX11_about_68 rfl fd_11_51 ha0.2.1.1 rfl rfl hx4 ?_
      cases h
      exact fx_ireturn dX11_about_71 rfl rfl
    · rw [if_neg hc3] at h
      by_cases hc5 : a1 = (2 : Int32)
      · rw [if_pos hc5] at h
        refine fx_tabIn (t := 72) dX11_about_1 rfl (by rw [hc5]; decide) (by rw [hc5]; decide) (by rw [hc5]; rfl) rfl ?_
        refine fx_aload_n dX11_about_72 rfl rfl ?_
        refine gx_getr dX11_about_73 rfl fd_11_10 ha0.1 rfl rfl ?_
        obtain ⟨x6, hx6, h⟩ := xLet_el h
        refine gx_get dX11_about_76 rfl fd_11_72 ha0.2.1.1 rfl rfl hx6 ?_
        cases h
        exact fx_ireturn dX11_about_79 rfl rfl
      · rw [if_neg hc5] at h
        by_cases hc7 : a1 = (3 : Int32)
        · rw [if_pos hc7] at h
          refine fx_tabIn (t := 80) dX11_about_1 rfl (by rw [hc7]; decide) (by rw [hc7]; decide) (by rw [hc7]; rfl) rfl ?_
          refine fx_aload_n dX11_about_80 rfl rfl ?_
          refine gx_getr dX11_about_81 rfl fd_11_10 ha0.1 rfl rfl ?_
          obtain ⟨x8, hx8, h⟩ := xLet_el h
          refine gx_get dX11_about_84 rfl fd_11_104 ha0.2.1.1 rfl rfl hx8 ?_
          cases h
          exact fx_ireturn dX11_about_87 rfl rfl
        · rw [if_neg hc7] at h
          by_cases hc9 : a1 = (4 : Int32)
          · rw [if_pos hc9] at h
            refine fx_tabIn (t := 88) dX11_about_1 rfl (by rw [hc9]; decide) (by rw [hc9]; decide) (by rw [hc9]; rfl) rfl ?_
            refine fx_aload_n dX11_about_88 rfl rfl ?_
            refine gx_getr dX11_about_89 rfl fd_11_10 ha0.1 rfl rfl ?_
            obtain ⟨x10, hx10, h⟩ := xLet_el h
            refine gx_get dX11_about_92 rfl fd_11_143 ha0.2.1.1 rfl rfl hx10 ?_
            cases h
            exact fx_ireturn dX11_about_95 rfl rfl
          · rw [if_neg hc9] at h
            by_cases hc11 : a1 = (5 : Int32)
            · rw [if_pos hc11] at h
              refine fx_tabIn (t := 96) dX11_about_1 rfl (by rw [hc11]; decide) (by rw [hc11]; decide) (by rw [hc11]; rfl) rfl ?_
              refine fx_aload_n dX11_about_96 rfl rfl ?_
              refine gx_getr dX11_about_97 rfl fd_11_10 ha0.1 rfl rfl ?_
              obtain ⟨x12, hx12, h⟩ := xLet_el h
              refine gx_get dX11_about_100 rfl fd_11_156 ha0.2.1.1 rfl rfl hx12 ?_
              cases h
              exact fx_ireturn dX11_about_103 rfl rfl
            · rw [if_neg hc11] at h
              by_cases hc13 : a1 = (6 : Int32)
              · rw [if_pos hc13] at h
                refine fx_tabIn (t := 104) dX11_about_1 rfl (by rw [hc13]; decide) (by rw [hc13]; decide) (by rw [hc13]; rfl) rfl ?_
                refine fx_aload_n dX11_about_104 rfl rfl ?_
                refine gx_getr dX11_about_105 rfl fd_11_10 ha0.1 rfl rfl ?_
                refine gx_getr dX11_about_108 rfl fd_11_271 ha0.2.1.1 rfl rfl ?_
                obtain ⟨x14, hx14, h⟩ := xLet_el h
                refine gx_get dX11_about_111 rfl fd_11_317 ha0.2.1.2.2.2.2.1.1 rfl rfl hx14 ?_
                cases h
                exact fx_ireturn dX11_about_114 rfl rfl
              · rw [if_neg hc13] at h
                by_cases hc15 : a1 = (7 : Int32)
                · rw [if_pos hc15] at h
                  refine fx_tabIn (t := 115) dX11_about_1 rfl (by rw [hc15]; decide) (by rw [hc15]; decide) (by rw [hc15]; rfl) rfl ?_
                  refine fx_aload_n dX11_about_115 rfl rfl ?_
                  refine gx_getr dX11_about_116 rfl fd_11_10 ha0.1 rfl rfl ?_
                  refine gx_getr dX11_about_119 rfl fd_11_282 ha0.2.1.1 rfl rfl ?_
                  obtain ⟨x16, hx16, h⟩ := xLet_el h
                  refine gx_get dX11_about_122 rfl fd_11_290 ha0.2.1.2.2.2.2.2.1.1 rfl rfl hx16 ?_
                  cases h
                  exact fx_ireturn dX11_about_125 rfl rfl
                · rw [if_neg hc15] at h
                  by_cases hc17 : a1 = (8 : Int32)
                  · rw [if_pos hc17] at h
                    refine fx_tabIn (t := 126) dX11_about_1 rfl (by rw [hc17]; decide) (by rw [hc17]; decide) (by rw [hc17]; rfl) rfl ?_
                    refine fx_aload_n dX11_about_126 rfl rfl ?_
                    refine gx_getr dX11_about_127 rfl fd_11_10 ha0.1 rfl rfl ?_
                    refine gx_getr dX11_about_130 rfl fd_11_301 ha0.2.1.1 rfl rfl ?_
                    obtain ⟨x18, hx18, h⟩ := xLet_el h
                    refine gx_get dX11_about_133 rfl fd_11_309 ha0.2.1.2.2.2.2.2.2.1.1 rfl rfl hx18 ?_
                    cases h
                    exact fx_ireturn dX11_about_136 rfl rfl
                  · rw [if_neg hc17] at h
                    by_cases hc19 : a1 = (9 : Int32)
                    · rw [if_pos hc19] at h
                      refine fx_tabIn (t := 137) dX11_about_1 rfl (by rw [hc19]; decide) (by rw [hc19]; decide) (by rw [hc19]; rfl) rfl ?_
                      refine fx_aload_n dX11_about_137 rfl rfl ?_
                      refine gx_getr dX11_about_138 rfl fd_11_32 ha0.1 rfl rfl ?_
                      obtain ⟨x20, hx20, h⟩ := xLet_el h
                      refine gx_get dX11_about_141 rfl fd_11_140 ha0.2.2.2.2.2.1.1 rfl rfl hx20 ?_
                      cases h
                      exact fx_ireturn dX11_about_144 rfl rfl
                    · rw [if_neg hc19] at h
                      have e0 : a1.toInt ≠ 0 := fun q => hc1 (Int32.toInt_inj.mp (q.trans (by decide)))
                      have e1 : a1.toInt ≠ 1 := fun q => hc3 (Int32.toInt_inj.mp (q.trans (by decide)))
                      have e2 : a1.toInt ≠ 2 := fun q => hc5 (Int32.toInt_inj.mp (q.trans (by decide)))
                      have e3 : a1.toInt ≠ 3 := fun q => hc7 (Int32.toInt_inj.mp (q.trans (by decide)))
                      have e4 : a1.toInt ≠ 4 := fun q => hc9 (Int32.toInt_inj.mp (q.trans (by decide)))
                      have e5 : a1.toInt ≠ 5 := fun q => hc11 (Int32.toInt_inj.mp (q.trans (by decide)))
                      have e6 : a1.toInt ≠ 6 := fun q => hc13 (Int32.toInt_inj.mp (q.trans (by decide)))
                      have e7 : a1.toInt ≠ 7 := fun q => hc15 (Int32.toInt_inj.mp (q.trans (by decide)))
                      have e8 : a1.toInt ≠ 8 := fun q => hc17 (Int32.toInt_inj.mp (q.trans (by decide)))
                      have e9 : a1.toInt ≠ 9 := fun q => hc19 (Int32.toInt_inj.mp (q.trans (by decide)))
                      refine fx_tabOut (t := 145) dX11_about_1 rfl (by omega) rfl ?_
                      refine fx_iconst (x := -1) dX11_about_145 rfl (by decide) ?_
                      cases h
                      exact fx_ireturn dX11_about_146 rfl rfl
def fX11_about (a0 : Nat) (a1 : Int32) (m : xMem) : Option (Int32 × xMem) := fX11_about_0 a0 a1  m
theorem fX11_about_ok {a0 : Nat} {a1 : Int32} {m : xMem} {r : (Int32 × xMem)} {d : Nat} (hd : 1 ≤ d) (ha0 : isMS a0) (h : fX11_about a0 a1 m = some r) : xEx d 271 [.ref a0, .int a1] (xLay m) (some (.int r.1)) (xLay r.2) := by
  obtain ⟨d, rfl⟩ : ∃ q, d = q + 1 := ⟨d - 1, by omega⟩
  exact xEx_of me_271 rfl (fX11_about_0_ok (d := d) (by omega) ha0 h)
def fX12_about_33 (a0 : Nat) (a1 : Int32) (s0 : Int32) (m : xMem) : Option (Int32 × xMem) := some (s0, m)
set_option maxRecDepth 4000 in
theorem fX12_about_33_ok {a0 : Nat} {a1 : Int32} {d : Nat} (hd : 1 ≤ d) (ha0 : isModel a0) {s0 : Int32} {m : xMem} {r : (Int32 × xMem)} (h : fX12_about_33 a0 a1 s0 m = some r) : xFx hh_272 cX12_about d 33 [some (.ref a0), some (.int a1)] [.int s0] (xLay m) 0 0 (some (.int r.1)) (xLay r.2) := by
  unfold fX12_about_33 at h
  cases h
  exact fx_ireturn dX12_about_33 rfl rfl
def fX12_about_0 (a0 : Nat) (a1 : Int32) (m : xMem) : Option (Int32 × xMem) := (fX12_in a1 (0 : Int32) (8 : Int32) m).bind fun p1 => if p1.1 = (0 : Int32) then if ¬ a1 = (9 : Int32) then fX12_about_33 a0 a1 (-1 : Int32) p1.2 else xLet (p1.2.1 a0 4) fun x4 => fX12_about_33 a0 a1 x4 p1.2 else bif xIn a1 1610 then xLet (p1.2.1 (a0 + 1) a1.toNatClampNeg) fun x5 => fX12_about_33 a0 a1 x5 p1.2 else none
set_option maxRecDepth 4000 in
theorem fX12_about_0_ok {a0 : Nat} {a1 : Int32} {d : Nat} (hd : 1 ≤ d) (ha0 : isModel a0) {m : xMem} {r : (Int32 × xMem)} (h : fX12_about_0 a0 a1 m = some r) : xFx hh_272 cX12_about d 0 [some (.ref a0), some (.int a1)] [] (xLay m) 0 0 (some (.int r.1)) (xLay r.2) := by
  unfold fX12_about_0 at h
  refine fx_iload_n dX12_about_0 rfl rfl ?_
  refine fx_iconst (x := 0) dX12_about_1 rfl (by decide) ?_
  refine fx_bipush (x := 8) dX12_about_2 rfl (by decide) ?_
  obtain ⟨p1, ep1, h⟩ := xBind_el h
  refine gx_calls (as := [.int a1, .int (0 : Int32), .int (8 : Int32)]) (r := []) rfl dX12_about_4 ca_12_95 rfl me_18 rfl rfl rfl rfl (fX12_in_ok (d := d) (by omega) ep1) rfl rfl ?_
  refine fx_if_eq (t := 19) dX12_about_7 rfl rfl (fun hc2 => ?_) (fun hc2 => ?_)
  · rw [if_pos hc2] at h
    refine fx_iload_n dX12_about_19 rfl rfl ?_
    refine fx_bipush (x := 9) dX12_about_20 rfl (by decide) ?_
    refine fx_icmp_ne (t := 32) dX12_about_22 rfl rfl (fun hc3 => ?_) (fun hc3 => ?_)
    · rw [if_pos hc3] at h
      refine fx_iconst (x := -1) dX12_about_32 rfl (by decide) ?_
      exact fX12_about_33_ok hd ha0 h
    · rw [if_neg hc3] at h
      refine fx_aload_n dX12_about_25 rfl rfl ?_
      obtain ⟨x4, hx4, h⟩ := xLet_el h
      refine gx_get dX12_about_26 rfl fd_12_122 ha0.1 rfl rfl hx4 ?_
      refine fx_goto (t := 33) dX12_about_29 rfl rfl ?_
      exact fX12_about_33_ok hd ha0 h
  · rw [if_neg hc2] at h
    refine fx_aload_n dX12_about_10 rfl rfl ?_
    refine gx_getr dX12_about_11 rfl fd_12_7 ha0.1 rfl rfl ?_
    refine fx_iload_n dX12_about_14 rfl rfl ?_
    obtain ⟨hj6, h⟩ := xChk_el h
    obtain ⟨x5, hx5, h⟩ := xLet_el h
    refine gx_iaload dX12_about_15 rfl ha0.2.1 hj6 hx5 ?_
    refine fx_goto (t := 33) dX12_about_16 rfl rfl ?_
    exact fX12_about_33_ok hd ha0 h
def fX12_about (a0 : Nat) (a1 : Int32) (m : xMem) : Option (Int32 × xMem) := fX12_about_0 a0 a1  m
theorem fX12_about_ok {a0 : Nat} {a1 : Int32} {m : xMem} {r : (Int32 × xMem)} {d : Nat} (hd : 2 ≤ d) (ha0 : isModel a0) (h : fX12_about a0 a1 m = some r) : xEx d 272 [.ref a0, .int a1] (xLay m) (some (.int r.1)) (xLay r.2) := by
  obtain ⟨d, rfl⟩ : ∃ q, d = q + 1 := ⟨d - 1, by omega⟩
  exact xEx_of me_272 rfl (fX12_about_0_ok (d := d) (by omega) ha0 h)
