theorem dX12_second_0 : decode cX12_second 0 = .ok (.aload_n 0, 1) := by decide +kernel
theorem dX12_second_1 : decode cX12_second 1 = .ok (.getfield 7, 3) := by decide +kernel
theorem dX12_second_4 : decode cX12_second 4 = .ok (.iconst 0, 1) := by decide +kernel
theorem dX12_second_5 : decode cX12_second 5 = .ok (.iaload, 1) := by decide +kernel
theorem dX12_second_6 : decode cX12_second 6 = .ok (.istore_n 1, 1) := by decide +kernel
theorem dX12_second_7 : decode cX12_second 7 = .ok (.aload_n 0, 1) := by decide +kernel
theorem dX12_second_8 : decode cX12_second 8 = .ok (.iload_n 1, 1) := by decide +kernel
theorem dX12_second_9 : decode cX12_second 9 = .ok (.invokevirtual 359, 3) := by decide +kernel
theorem dX12_second_12 : decode cX12_second 12 = .ok (.iconst 0, 1) := by decide +kernel
theorem dX12_second_13 : decode cX12_second 13 = .ok (.istore_n 2, 1) := by decide +kernel
theorem dX12_second_14 : decode cX12_second 14 = .ok (.iload_n 2, 1) := by decide +kernel
theorem dX12_second_15 : decode cX12_second 15 = .ok (.aload_n 0, 1) := by decide +kernel
theorem dX12_second_16 : decode cX12_second 16 = .ok (.getfield 7, 3) := by decide +kernel
theorem dX12_second_19 : decode cX12_second 19 = .ok (.iconst 1, 1) := by decide +kernel
theorem dX12_second_20 : decode cX12_second 20 = .ok (.iaload, 1) := by decide +kernel
theorem dX12_second_21 : decode cX12_second 21 = .ok (.if_icmp .ge 14, 3) := by decide +kernel
theorem dX12_second_24 : decode cX12_second 24 = .ok (.aload_n 0, 1) := by decide +kernel
theorem dX12_second_25 : decode cX12_second 25 = .ok (.iload_n 2, 1) := by decide +kernel
theorem dX12_second_26 : decode cX12_second 26 = .ok (.invokevirtual 362, 3) := by decide +kernel
theorem dX12_second_29 : decode cX12_second 29 = .ok (.iinc 2 1, 3) := by decide +kernel
theorem dX12_second_32 : decode cX12_second 32 = .ok (.goto (-18), 3) := by decide +kernel
theorem dX12_second_35 : decode cX12_second 35 = .ok (.iconst 0, 1) := by decide +kernel
theorem dX12_second_36 : decode cX12_second 36 = .ok (.istore_n 2, 1) := by decide +kernel
theorem dX12_second_37 : decode cX12_second 37 = .ok (.iload_n 2, 1) := by decide +kernel
theorem dX12_second_38 : decode cX12_second 38 = .ok (.aload_n 0, 1) := by decide +kernel
theorem dX12_second_39 : decode cX12_second 39 = .ok (.getfield 7, 3) := by decide +kernel
theorem dX12_second_42 : decode cX12_second 42 = .ok (.iconst 2, 1) := by decide +kernel
theorem dX12_second_43 : decode cX12_second 43 = .ok (.iaload, 1) := by decide +kernel
theorem dX12_second_44 : decode cX12_second 44 = .ok (.if_icmp .ge 40, 3) := by decide +kernel
theorem dX12_second_47 : decode cX12_second 47 = .ok (.aload_n 0, 1) := by decide +kernel
theorem dX12_second_48 : decode cX12_second 48 = .ok (.iload_n 2, 1) := by decide +kernel
theorem dX12_second_49 : decode cX12_second 49 = .ok (.iconst 0, 1) := by decide +kernel
theorem dX12_second_50 : decode cX12_second 50 = .ok (.invokevirtual 103, 3) := by decide +kernel
theorem dX12_second_53 : decode cX12_second 53 = .ok (.iconst 2, 1) := by decide +kernel
theorem dX12_second_54 : decode cX12_second 54 = .ok (.if_icmp .ge 24, 3) := by decide +kernel
theorem dX12_second_57 : decode cX12_second 57 = .ok (.aload_n 0, 1) := by decide +kernel
theorem dX12_second_58 : decode cX12_second 58 = .ok (.iload_n 2, 1) := by decide +kernel
theorem dX12_second_59 : decode cX12_second 59 = .ok (.invokevirtual 117, 3) := by decide +kernel
theorem dX12_second_62 : decode cX12_second 62 = .ok (.ifCond .ne 16, 3) := by decide +kernel
theorem dX12_second_65 : decode cX12_second 65 = .ok (.aload_n 0, 1) := by decide +kernel
theorem dX12_second_66 : decode cX12_second 66 = .ok (.iload_n 2, 1) := by decide +kernel
theorem dX12_second_67 : decode cX12_second 67 = .ok (.iconst 5, 1) := by decide +kernel
theorem dX12_second_68 : decode cX12_second 68 = .ok (.aload_n 0, 1) := by decide +kernel
theorem dX12_second_69 : decode cX12_second 69 = .ok (.iload_n 2, 1) := by decide +kernel
theorem dX12_second_70 : decode cX12_second 70 = .ok (.bipush 7, 2) := by decide +kernel
theorem dX12_second_72 : decode cX12_second 72 = .ok (.invokevirtual 103, 3) := by decide +kernel
theorem dX12_second_75 : decode cX12_second 75 = .ok (.invokevirtual 110, 3) := by decide +kernel
theorem dX12_second_78 : decode cX12_second 78 = .ok (.iinc 2 1, 3) := by decide +kernel
theorem dX12_second_81 : decode cX12_second 81 = .ok (.goto (-44), 3) := by decide +kernel
theorem dX12_second_84 : decode cX12_second 84 = .ok (.aload_n 0, 1) := by decide +kernel
theorem dX12_second_85 : decode cX12_second 85 = .ok (.invokevirtual 365, 3) := by decide +kernel
theorem dX12_second_88 : decode cX12_second 88 = .ok (.iconst 0, 1) := by decide +kernel
theorem dX12_second_89 : decode cX12_second 89 = .ok (.istore_n 2, 1) := by decide +kernel
theorem dX12_second_90 : decode cX12_second 90 = .ok (.iload_n 2, 1) := by decide +kernel
theorem dX12_second_91 : decode cX12_second 91 = .ok (.aload_n 0, 1) := by decide +kernel
theorem dX12_second_92 : decode cX12_second 92 = .ok (.getfield 7, 3) := by decide +kernel
theorem dX12_second_95 : decode cX12_second 95 = .ok (.iconst 2, 1) := by decide +kernel
theorem dX12_second_96 : decode cX12_second 96 = .ok (.iaload, 1) := by decide +kernel
theorem dX12_second_97 : decode cX12_second 97 = .ok (.if_icmp .ge 73, 3) := by decide +kernel
theorem dX12_second_100 : decode cX12_second 100 = .ok (.aload_n 0, 1) := by decide +kernel
theorem dX12_second_101 : decode cX12_second 101 = .ok (.iload_n 2, 1) := by decide +kernel
theorem dX12_second_102 : decode cX12_second 102 = .ok (.iconst 0, 1) := by decide +kernel
theorem dX12_second_103 : decode cX12_second 103 = .ok (.invokevirtual 103, 3) := by decide +kernel
theorem dX12_second_106 : decode cX12_second 106 = .ok (.iconst 2, 1) := by decide +kernel
theorem dX12_second_107 : decode cX12_second 107 = .ok (.if_icmp .ge 12, 3) := by decide +kernel
theorem dX12_second_110 : decode cX12_second 110 = .ok (.aload_n 0, 1) := by decide +kernel
theorem dX12_second_111 : decode cX12_second 111 = .ok (.iload_n 2, 1) := by decide +kernel
theorem dX12_second_112 : decode cX12_second 112 = .ok (.iload_n 1, 1) := by decide +kernel
theorem dX12_second_113 : decode cX12_second 113 = .ok (.invokevirtual 368, 3) := by decide +kernel
theorem dX12_second_116 : decode cX12_second 116 = .ok (.goto 48, 3) := by decide +kernel
theorem dX12_second_119 : decode cX12_second 119 = .ok (.iload_n 1, 1) := by decide +kernel
theorem dX12_second_120 : decode cX12_second 120 = .ok (.aload_n 0, 1) := by decide +kernel
theorem dX12_second_121 : decode cX12_second 121 = .ok (.iload_n 2, 1) := by decide +kernel
theorem dX12_second_122 : decode cX12_second 122 = .ok (.iconst 4, 1) := by decide +kernel
theorem dX12_second_123 : decode cX12_second 123 = .ok (.invokevirtual 103, 3) := by decide +kernel
theorem dX12_second_126 : decode cX12_second 126 = .ok (.irem, 1) := by decide +kernel
theorem dX12_second_127 : decode cX12_second 127 = .ok (.ifCond .ne 37, 3) := by decide +kernel
theorem dX12_second_130 : decode cX12_second 130 = .ok (.aload_n 0, 1) := by decide +kernel
theorem dX12_second_131 : decode cX12_second 131 = .ok (.iload_n 2, 1) := by decide +kernel
theorem dX12_second_132 : decode cX12_second 132 = .ok (.aload_n 0, 1) := by decide +kernel
theorem dX12_second_133 : decode cX12_second 133 = .ok (.iload_n 2, 1) := by decide +kernel
theorem dX12_second_134 : decode cX12_second 134 = .ok (.iconst 1, 1) := by decide +kernel
theorem dX12_second_135 : decode cX12_second 135 = .ok (.invokevirtual 103, 3) := by decide +kernel
theorem dX12_second_138 : decode cX12_second 138 = .ok (.aload_n 0, 1) := by decide +kernel
theorem dX12_second_139 : decode cX12_second 139 = .ok (.iload_n 2, 1) := by decide +kernel
theorem dX12_second_140 : decode cX12_second 140 = .ok (.iconst 2, 1) := by decide +kernel
theorem dX12_second_141 : decode cX12_second 141 = .ok (.invokevirtual 103, 3) := by decide +kernel
theorem dX12_second_144 : decode cX12_second 144 = .ok (.invokevirtual 371, 3) := by decide +kernel
theorem dX12_second_147 : decode cX12_second 147 = .ok (.aload_n 0, 1) := by decide +kernel
theorem dX12_second_148 : decode cX12_second 148 = .ok (.iload_n 2, 1) := by decide +kernel
theorem dX12_second_149 : decode cX12_second 149 = .ok (.aload_n 0, 1) := by decide +kernel
theorem dX12_second_150 : decode cX12_second 150 = .ok (.iload_n 2, 1) := by decide +kernel
theorem dX12_second_151 : decode cX12_second 151 = .ok (.iconst 2, 1) := by decide +kernel
theorem dX12_second_152 : decode cX12_second 152 = .ok (.invokevirtual 103, 3) := by decide +kernel
theorem dX12_second_155 : decode cX12_second 155 = .ok (.aload_n 0, 1) := by decide +kernel
theorem dX12_second_156 : decode cX12_second 156 = .ok (.iload_n 2, 1) := by decide +kernel
theorem dX12_second_157 : decode cX12_second 157 = .ok (.iconst 1, 1) := by decide +kernel
theorem dX12_second_158 : decode cX12_second 158 = .ok (.invokevirtual 103, 3) := by decide +kernel
theorem dX12_second_161 : decode cX12_second 161 = .ok (.invokevirtual 371, 3) := by decide +kernel
theorem dX12_second_164 : decode cX12_second 164 = .ok (.iinc 2 1, 3) := by decide +kernel
theorem dX12_second_167 : decode cX12_second 167 = .ok (.goto (-77), 3) := by decide +kernel
theorem dX12_second_170 : decode cX12_second 170 = .ok (.iconst 0, 1) := by decide +kernel
theorem dX12_second_171 : decode cX12_second 171 = .ok (.istore_n 2, 1) := by decide +kernel
theorem dX12_second_172 : decode cX12_second 172 = .ok (.iload_n 2, 1) := by decide +kernel
theorem dX12_second_173 : decode cX12_second 173 = .ok (.aload_n 0, 1) := by decide +kernel
theorem dX12_second_174 : decode cX12_second 174 = .ok (.getfield 7, 3) := by decide +kernel
theorem dX12_second_177 : decode cX12_second 177 = .ok (.iconst 1, 1) := by decide +kernel
theorem dX12_second_178 : decode cX12_second 178 = .ok (.iaload, 1) := by decide +kernel
theorem dX12_second_179 : decode cX12_second 179 = .ok (.if_icmp .ge 115, 3) := by decide +kernel
theorem dX12_second_182 : decode cX12_second 182 = .ok (.aload_n 0, 1) := by decide +kernel
theorem dX12_second_183 : decode cX12_second 183 = .ok (.getfield 7, 3) := by decide +kernel
theorem dX12_second_186 : decode cX12_second 186 = .ok (.bipush 10, 2) := by decide +kernel
theorem dX12_second_188 : decode cX12_second 188 = .ok (.iaload, 1) := by decide +kernel
theorem dX12_second_189 : decode cX12_second 189 = .ok (.aload_n 0, 1) := by decide +kernel
theorem dX12_second_190 : decode cX12_second 190 = .ok (.iload_n 2, 1) := by decide +kernel
theorem dX12_second_191 : decode cX12_second 191 = .ok (.invokevirtual 292, 3) := by decide +kernel
theorem dX12_second_194 : decode cX12_second 194 = .ok (.iadd, 1) := by decide +kernel
theorem dX12_second_195 : decode cX12_second 195 = .ok (.aload_n 0, 1) := by decide +kernel
theorem dX12_second_196 : decode cX12_second 196 = .ok (.sipush 130, 3) := by decide +kernel
theorem dX12_second_199 : decode cX12_second 199 = .ok (.iload_n 2, 1) := by decide +kernel
theorem dX12_second_200 : decode cX12_second 200 = .ok (.invokevirtual 289, 3) := by decide +kernel
theorem dX12_second_203 : decode cX12_second 203 = .ok (.iadd, 1) := by decide +kernel
theorem dX12_second_204 : decode cX12_second 204 = .ok (.istore_n 3, 1) := by decide +kernel
theorem dX12_second_205 : decode cX12_second 205 = .ok (.aload_n 0, 1) := by decide +kernel
theorem dX12_second_206 : decode cX12_second 206 = .ok (.getfield 7, 3) := by decide +kernel
theorem dX12_second_209 : decode cX12_second 209 = .ok (.bipush 10, 2) := by decide +kernel
theorem dX12_second_211 : decode cX12_second 211 = .ok (.iload_n 3, 1) := by decide +kernel
theorem dX12_second_212 : decode cX12_second 212 = .ok (.ldc_w 317, 3) := by decide +kernel
theorem dX12_second_215 : decode cX12_second 215 = .ok (.if_icmp .le 9, 3) := by decide +kernel
theorem dX12_second_218 : decode cX12_second 218 = .ok (.ldc_w 317, 3) := by decide +kernel
theorem dX12_second_221 : decode cX12_second 221 = .ok (.goto 4, 3) := by decide +kernel
theorem dX12_second_224 : decode cX12_second 224 = .ok (.iload_n 3, 1) := by decide +kernel
theorem dX12_second_225 : decode cX12_second 225 = .ok (.iastore, 1) := by decide +kernel
theorem dX12_second_226 : decode cX12_second 226 = .ok (.aload_n 0, 1) := by decide +kernel
theorem dX12_second_227 : decode cX12_second 227 = .ok (.getfield 7, 3) := by decide +kernel
theorem dX12_second_230 : decode cX12_second 230 = .ok (.bipush 20, 2) := by decide +kernel
theorem dX12_second_232 : decode cX12_second 232 = .ok (.iconst 4, 1) := by decide +kernel
theorem dX12_second_233 : decode cX12_second 233 = .ok (.iload_n 2, 1) := by decide +kernel
theorem dX12_second_234 : decode cX12_second 234 = .ok (.imul, 1) := by decide +kernel
theorem dX12_second_235 : decode cX12_second 235 = .ok (.iadd, 1) := by decide +kernel
theorem dX12_second_236 : decode cX12_second 236 = .ok (.iconst 2, 1) := by decide +kernel
theorem dX12_second_237 : decode cX12_second 237 = .ok (.iadd, 1) := by decide +kernel
theorem dX12_second_238 : decode cX12_second 238 = .ok (.dup2, 1) := by decide +kernel
theorem dX12_second_239 : decode cX12_second 239 = .ok (.iaload, 1) := by decide +kernel
theorem dX12_second_240 : decode cX12_second 240 = .ok (.aload_n 0, 1) := by decide +kernel
theorem dX12_second_241 : decode cX12_second 241 = .ok (.getfield 76, 3) := by decide +kernel
theorem dX12_second_244 : decode cX12_second 244 = .ok (.iload_n 2, 1) := by decide +kernel
theorem dX12_second_245 : decode cX12_second 245 = .ok (.baload, 1) := by decide +kernel
theorem dX12_second_246 : decode cX12_second 246 = .ok (.ifCond .eq 7, 3) := by decide +kernel
theorem dX12_second_249 : decode cX12_second 249 = .ok (.iconst 1, 1) := by decide +kernel
theorem dX12_second_250 : decode cX12_second 250 = .ok (.goto 4, 3) := by decide +kernel
theorem dX12_second_253 : decode cX12_second 253 = .ok (.iconst 0, 1) := by decide +kernel
theorem dX12_second_254 : decode cX12_second 254 = .ok (.iadd, 1) := by decide +kernel
theorem dX12_second_255 : decode cX12_second 255 = .ok (.iastore, 1) := by decide +kernel
theorem dX12_second_256 : decode cX12_second 256 = .ok (.aload_n 0, 1) := by decide +kernel
theorem dX12_second_257 : decode cX12_second 257 = .ok (.iload_n 2, 1) := by decide +kernel
theorem dX12_second_258 : decode cX12_second 258 = .ok (.invokevirtual 374, 3) := by decide +kernel
theorem dX12_second_261 : decode cX12_second 261 = .ok (.ifCond .eq 27, 3) := by decide +kernel
theorem dX12_second_264 : decode cX12_second 264 = .ok (.aload_n 0, 1) := by decide +kernel
theorem dX12_second_265 : decode cX12_second 265 = .ok (.iload_n 2, 1) := by decide +kernel
theorem dX12_second_266 : decode cX12_second 266 = .ok (.iconst 3, 1) := by decide +kernel
theorem dX12_second_267 : decode cX12_second 267 = .ok (.invokevirtual 295, 3) := by decide +kernel
theorem dX12_second_270 : decode cX12_second 270 = .ok (.iconst (-1), 1) := by decide +kernel
theorem dX12_second_271 : decode cX12_second 271 = .ok (.if_icmp .ne 17, 3) := by decide +kernel
theorem dX12_second_274 : decode cX12_second 274 = .ok (.aload_n 0, 1) := by decide +kernel
theorem dX12_second_275 : decode cX12_second 275 = .ok (.getfield 7, 3) := by decide +kernel
theorem dX12_second_278 : decode cX12_second 278 = .ok (.bipush 20, 2) := by decide +kernel
theorem dX12_second_280 : decode cX12_second 280 = .ok (.iconst 4, 1) := by decide +kernel
theorem dX12_second_281 : decode cX12_second 281 = .ok (.iload_n 2, 1) := by decide +kernel
theorem dX12_second_282 : decode cX12_second 282 = .ok (.imul, 1) := by decide +kernel
theorem dX12_second_283 : decode cX12_second 283 = .ok (.iadd, 1) := by decide +kernel
theorem dX12_second_284 : decode cX12_second 284 = .ok (.iconst 3, 1) := by decide +kernel
theorem dX12_second_285 : decode cX12_second 285 = .ok (.iadd, 1) := by decide +kernel
theorem dX12_second_286 : decode cX12_second 286 = .ok (.iload_n 1, 1) := by decide +kernel
theorem dX12_second_287 : decode cX12_second 287 = .ok (.iastore, 1) := by decide +kernel
theorem dX12_second_288 : decode cX12_second 288 = .ok (.iinc 2 1, 3) := by decide +kernel
theorem dX12_second_291 : decode cX12_second 291 = .ok (.goto (-119), 3) := by decide +kernel
theorem dX12_second_294 : decode cX12_second 294 = .ok (.aload_n 0, 1) := by decide +kernel
theorem dX12_second_295 : decode cX12_second 295 = .ok (.getfield 7, 3) := by decide +kernel
theorem dX12_second_298 : decode cX12_second 298 = .ok (.iconst 0, 1) := by decide +kernel
theorem dX12_second_299 : decode cX12_second 299 = .ok (.dup2, 1) := by decide +kernel
theorem dX12_second_300 : decode cX12_second 300 = .ok (.iaload, 1) := by decide +kernel
theorem dX12_second_301 : decode cX12_second 301 = .ok (.iconst 1, 1) := by decide +kernel
theorem dX12_second_302 : decode cX12_second 302 = .ok (.iadd, 1) := by decide +kernel
theorem dX12_second_303 : decode cX12_second 303 = .ok (.iastore, 1) := by decide +kernel
theorem dX12_second_304 : decode cX12_second 304 = .ok (.return_, 1) := by decide +kernel
theorem dX12_run_0 : decode cX12_run 0 = .ok (.aload_n 0, 1) := by decide +kernel
theorem dX12_run_1 : decode cX12_run 1 = .ok (.iload_n 1, 1) := by decide +kernel
theorem dX12_run_2 : decode cX12_run 2 = .ok (.invokevirtual 377, 3) := by decide +kernel
theorem dX12_run_5 : decode cX12_run 5 = .ok (.ifCond .ne 5, 3) := by decide +kernel
theorem dX12_run_8 : decode cX12_run 8 = .ok (.iconst (-1), 1) := by decide +kernel
theorem dX12_run_9 : decode cX12_run 9 = .ok (.ireturn, 1) := by decide +kernel
theorem dX12_run_10 : decode cX12_run 10 = .ok (.iconst 0, 1) := by decide +kernel
theorem dX12_run_11 : decode cX12_run 11 = .ok (.istore_n 2, 1) := by decide +kernel
theorem dX12_run_12 : decode cX12_run 12 = .ok (.iload_n 2, 1) := by decide +kernel
theorem dX12_run_13 : decode cX12_run 13 = .ok (.iload_n 1, 1) := by decide +kernel
theorem dX12_run_14 : decode cX12_run 14 = .ok (.if_icmp .ge 13, 3) := by decide +kernel
theorem dX12_run_17 : decode cX12_run 17 = .ok (.aload_n 0, 1) := by decide +kernel
theorem dX12_run_18 : decode cX12_run 18 = .ok (.invokevirtual 380, 3) := by decide +kernel
theorem dX12_run_21 : decode cX12_run 21 = .ok (.iinc 2 1, 3) := by decide +kernel
theorem dX12_run_24 : decode cX12_run 24 = .ok (.goto (-12), 3) := by decide +kernel
theorem dX12_run_27 : decode cX12_run 27 = .ok (.aload_n 0, 1) := by decide +kernel
theorem dX12_run_28 : decode cX12_run 28 = .ok (.getfield 7, 3) := by decide +kernel
theorem dX12_run_31 : decode cX12_run 31 = .ok (.iconst 0, 1) := by decide +kernel
theorem dX12_run_32 : decode cX12_run 32 = .ok (.iaload, 1) := by decide +kernel
theorem dX12_run_33 : decode cX12_run 33 = .ok (.ireturn, 1) := by decide +kernel
theorem dX11_of_0 : decode cX11_of 0 = .ok (.aload_n 0, 1) := by decide +kernel
theorem dX11_of_1 : decode cX11_of 1 = .ok (.getfield 10, 3) := by decide +kernel
theorem dX11_of_4 : decode cX11_of 4 = .ok (.iload_n 1, 1) := by decide +kernel
theorem dX11_of_5 : decode cX11_of 5 = .ok (.invokevirtual 65, 3) := by decide +kernel
theorem dX11_of_8 : decode cX11_of 8 = .ok (.ifCond .ne 5, 3) := by decide +kernel
theorem dX11_of_11 : decode cX11_of 11 = .ok (.iconst (-1), 1) := by decide +kernel
theorem dX11_of_12 : decode cX11_of 12 = .ok (.ireturn, 1) := by decide +kernel
theorem dX11_of_13 : decode cX11_of 13 = .ok (.aload_n 0, 1) := by decide +kernel
theorem dX11_of_14 : decode cX11_of 14 = .ok (.getfield 10, 3) := by decide +kernel
theorem dX11_of_17 : decode cX11_of 17 = .ok (.getfield 55, 3) := by decide +kernel
theorem dX11_of_20 : decode cX11_of 20 = .ok (.iload_n 1, 1) := by decide +kernel
theorem dX11_of_21 : decode cX11_of 21 = .ok (.aaload, 1) := by decide +kernel
theorem dX11_of_22 : decode cX11_of 22 = .ok (.astore_n 3, 1) := by decide +kernel
theorem dX11_of_23 : decode cX11_of 23 = .ok (.aload_n 0, 1) := by decide +kernel
theorem dX11_of_24 : decode cX11_of 24 = .ok (.getfield 10, 3) := by decide +kernel
theorem dX11_of_27 : decode cX11_of 27 = .ok (.iload_n 2, 1) := by decide +kernel
theorem dX11_of_28 : decode cX11_of 28 = .ok (.bipush 10, 2) := by decide +kernel
theorem dX11_of_30 : decode cX11_of 30 = .ok (.isub, 1) := by decide +kernel
theorem dX11_of_31 : decode cX11_of 31 = .ok (.invokevirtual 65, 3) := by decide +kernel
theorem dX11_of_34 : decode cX11_of 34 = .ok (.ifCond .eq 13, 3) := by decide +kernel
theorem dX11_of_37 : decode cX11_of 37 = .ok (.aload_n 3, 1) := by decide +kernel
theorem dX11_of_38 : decode cX11_of 38 = .ok (.getfield 174, 3) := by decide +kernel
theorem dX11_of_41 : decode cX11_of 41 = .ok (.iload_n 2, 1) := by decide +kernel
theorem dX11_of_42 : decode cX11_of 42 = .ok (.bipush 10, 2) := by decide +kernel
theorem dX11_of_44 : decode cX11_of 44 = .ok (.isub, 1) := by decide +kernel
theorem dX11_of_45 : decode cX11_of 45 = .ok (.iaload, 1) := by decide +kernel
theorem dX11_of_46 : decode cX11_of 46 = .ok (.ireturn, 1) := by decide +kernel
theorem dX11_of_47 : decode cX11_of 47 = .ok (.aload_n 0, 1) := by decide +kernel
theorem dX11_of_48 : decode cX11_of 48 = .ok (.getfield 10, 3) := by decide +kernel
theorem dX11_of_51 : decode cX11_of 51 = .ok (.iload_n 2, 1) := by decide +kernel
theorem dX11_of_52 : decode cX11_of 52 = .ok (.bipush 20, 2) := by decide +kernel
theorem dX11_of_54 : decode cX11_of 54 = .ok (.isub, 1) := by decide +kernel
theorem dX11_of_55 : decode cX11_of 55 = .ok (.invokevirtual 65, 3) := by decide +kernel
theorem dX11_of_58 : decode cX11_of 58 = .ok (.ifCond .eq 16, 3) := by decide +kernel
theorem dX11_of_61 : decode cX11_of 61 = .ok (.aload_n 3, 1) := by decide +kernel
theorem dX11_of_62 : decode cX11_of 62 = .ok (.getfield 174, 3) := by decide +kernel
theorem dX11_of_65 : decode cX11_of 65 = .ok (.bipush 6, 2) := by decide +kernel
theorem dX11_of_67 : decode cX11_of 67 = .ok (.iload_n 2, 1) := by decide +kernel
theorem dX11_of_68 : decode cX11_of 68 = .ok (.iadd, 1) := by decide +kernel
theorem dX11_of_69 : decode cX11_of 69 = .ok (.bipush 20, 2) := by decide +kernel
theorem dX11_of_71 : decode cX11_of 71 = .ok (.isub, 1) := by decide +kernel
theorem dX11_of_72 : decode cX11_of 72 = .ok (.iaload, 1) := by decide +kernel
theorem dX11_of_73 : decode cX11_of 73 = .ok (.ireturn, 1) := by decide +kernel
theorem dX11_of_74 : decode cX11_of 74 = .ok (.iload_n 2, 1) := by decide +kernel
theorem dX11_of_75 : decode cX11_of 75 = .ok (.tableswitch 58 0 4 #[33, 38, 43, 48, 53], 33) := by decide +kernel
theorem dX11_of_108 : decode cX11_of 108 = .ok (.aload_n 3, 1) := by decide +kernel
theorem dX11_of_109 : decode cX11_of 109 = .ok (.getfield 178, 3) := by decide +kernel
theorem dX11_of_112 : decode cX11_of 112 = .ok (.ireturn, 1) := by decide +kernel
theorem dX11_of_113 : decode cX11_of 113 = .ok (.aload_n 3, 1) := by decide +kernel
theorem dX11_of_114 : decode cX11_of 114 = .ok (.getfield 181, 3) := by decide +kernel
theorem dX11_of_117 : decode cX11_of 117 = .ok (.ireturn, 1) := by decide +kernel
theorem dX11_of_118 : decode cX11_of 118 = .ok (.aload_n 3, 1) := by decide +kernel
theorem dX11_of_119 : decode cX11_of 119 = .ok (.getfield 184, 3) := by decide +kernel
theorem dX11_of_122 : decode cX11_of 122 = .ok (.ireturn, 1) := by decide +kernel
theorem dX11_of_123 : decode cX11_of 123 = .ok (.aload_n 3, 1) := by decide +kernel
theorem dX11_of_124 : decode cX11_of 124 = .ok (.getfield 187, 3) := by decide +kernel
theorem dX11_of_127 : decode cX11_of 127 = .ok (.ireturn, 1) := by decide +kernel
theorem dX11_of_128 : decode cX11_of 128 = .ok (.aload_n 3, 1) := by decide +kernel
theorem dX11_of_129 : decode cX11_of 129 = .ok (.getfield 69, 3) := by decide +kernel
theorem dX11_of_132 : decode cX11_of 132 = .ok (.ireturn, 1) := by decide +kernel
theorem dX11_of_133 : decode cX11_of 133 = .ok (.iconst (-1), 1) := by decide +kernel
theorem dX11_of_134 : decode cX11_of 134 = .ok (.ireturn, 1) := by decide +kernel
theorem dX12_of_0 : decode cX12_of 0 = .ok (.aload_n 0, 1) := by decide +kernel
theorem dX12_of_1 : decode cX12_of 1 = .ok (.iload_n 1, 1) := by decide +kernel
theorem dX12_of_2 : decode cX12_of 2 = .ok (.invokevirtual 107, 3) := by decide +kernel
theorem dX12_of_5 : decode cX12_of 5 = .ok (.ifCond .ne 5, 3) := by decide +kernel
theorem dX12_of_8 : decode cX12_of 8 = .ok (.iconst (-1), 1) := by decide +kernel
theorem dX12_of_9 : decode cX12_of 9 = .ok (.ireturn, 1) := by decide +kernel
theorem dX12_of_10 : decode cX12_of 10 = .ok (.iload_n 2, 1) := by decide +kernel
theorem dX12_of_11 : decode cX12_of 11 = .ok (.tableswitch 69 0 4 #[33, 39, 48, 55, 62], 33) := by decide +kernel
theorem dX12_of_44 : decode cX12_of 44 = .ok (.aload_n 0, 1) := by decide +kernel
theorem dX12_of_45 : decode cX12_of 45 = .ok (.iload_n 1, 1) := by decide +kernel
theorem dX12_of_46 : decode cX12_of 46 = .ok (.invokevirtual 292, 3) := by decide +kernel
theorem dX12_of_49 : decode cX12_of 49 = .ok (.ireturn, 1) := by decide +kernel
theorem dX12_of_50 : decode cX12_of 50 = .ok (.aload_n 0, 1) := by decide +kernel
theorem dX12_of_51 : decode cX12_of 51 = .ok (.sipush 130, 3) := by decide +kernel
theorem dX12_of_54 : decode cX12_of 54 = .ok (.iload_n 1, 1) := by decide +kernel
theorem dX12_of_55 : decode cX12_of 55 = .ok (.invokevirtual 289, 3) := by decide +kernel
theorem dX12_of_58 : decode cX12_of 58 = .ok (.ireturn, 1) := by decide +kernel
theorem dX12_of_59 : decode cX12_of 59 = .ok (.aload_n 0, 1) := by decide +kernel
theorem dX12_of_60 : decode cX12_of 60 = .ok (.iload_n 1, 1) := by decide +kernel
theorem dX12_of_61 : decode cX12_of 61 = .ok (.iconst 2, 1) := by decide +kernel
theorem dX12_of_62 : decode cX12_of 62 = .ok (.invokevirtual 295, 3) := by decide +kernel
theorem dX12_of_65 : decode cX12_of 65 = .ok (.ireturn, 1) := by decide +kernel
theorem dX12_of_66 : decode cX12_of 66 = .ok (.aload_n 0, 1) := by decide +kernel
theorem dX12_of_67 : decode cX12_of 67 = .ok (.iload_n 1, 1) := by decide +kernel
theorem dX12_of_68 : decode cX12_of 68 = .ok (.iconst 3, 1) := by decide +kernel
theorem dX12_of_69 : decode cX12_of 69 = .ok (.invokevirtual 295, 3) := by decide +kernel
theorem dX12_of_72 : decode cX12_of 72 = .ok (.ireturn, 1) := by decide +kernel
theorem dX12_of_73 : decode cX12_of 73 = .ok (.aload_n 0, 1) := by decide +kernel
theorem dX12_of_74 : decode cX12_of 74 = .ok (.iload_n 1, 1) := by decide +kernel
theorem dX12_of_75 : decode cX12_of 75 = .ok (.iconst 1, 1) := by decide +kernel
theorem dX12_of_76 : decode cX12_of 76 = .ok (.invokevirtual 295, 3) := by decide +kernel
theorem dX12_of_79 : decode cX12_of 79 = .ok (.ireturn, 1) := by decide +kernel
theorem dX12_of_80 : decode cX12_of 80 = .ok (.iload_n 2, 1) := by decide +kernel
theorem dX12_of_81 : decode cX12_of 81 = .ok (.bipush 10, 2) := by decide +kernel
theorem dX12_of_83 : decode cX12_of 83 = .ok (.if_icmp .lt 34, 3) := by decide +kernel
theorem dX12_of_86 : decode cX12_of 86 = .ok (.aload_n 0, 1) := by decide +kernel
theorem dX12_of_87 : decode cX12_of 87 = .ok (.iload_n 2, 1) := by decide +kernel
theorem dX12_of_88 : decode cX12_of 88 = .ok (.bipush 10, 2) := by decide +kernel
theorem dX12_of_90 : decode cX12_of 90 = .ok (.isub, 1) := by decide +kernel
theorem dX12_of_91 : decode cX12_of 91 = .ok (.invokevirtual 107, 3) := by decide +kernel
theorem dX12_of_94 : decode cX12_of 94 = .ok (.ifCond .eq 23, 3) := by decide +kernel
theorem dX12_of_97 : decode cX12_of 97 = .ok (.aload_n 0, 1) := by decide +kernel
theorem dX12_of_98 : decode cX12_of 98 = .ok (.getfield 7, 3) := by decide +kernel
theorem dX12_of_101 : decode cX12_of 101 = .ok (.bipush 50, 2) := by decide +kernel
theorem dX12_of_103 : decode cX12_of 103 = .ok (.bipush 12, 2) := by decide +kernel
theorem dX12_of_105 : decode cX12_of 105 = .ok (.iload_n 1, 1) := by decide +kernel
theorem dX12_of_106 : decode cX12_of 106 = .ok (.imul, 1) := by decide +kernel
theorem dX12_of_107 : decode cX12_of 107 = .ok (.iadd, 1) := by decide +kernel
theorem dX12_of_108 : decode cX12_of 108 = .ok (.iconst 2, 1) := by decide +kernel
theorem dX12_of_109 : decode cX12_of 109 = .ok (.iload_n 2, 1) := by decide +kernel
theorem dX12_of_110 : decode cX12_of 110 = .ok (.bipush 10, 2) := by decide +kernel
theorem dX12_of_112 : decode cX12_of 112 = .ok (.isub, 1) := by decide +kernel
theorem dX12_of_113 : decode cX12_of 113 = .ok (.imul, 1) := by decide +kernel
theorem dX12_of_114 : decode cX12_of 114 = .ok (.iadd, 1) := by decide +kernel
theorem dX12_of_115 : decode cX12_of 115 = .ok (.iaload, 1) := by decide +kernel
theorem dX12_of_116 : decode cX12_of 116 = .ok (.ireturn, 1) := by decide +kernel
theorem dX12_of_117 : decode cX12_of 117 = .ok (.iload_n 2, 1) := by decide +kernel
theorem dX12_of_118 : decode cX12_of 118 = .ok (.bipush 20, 2) := by decide +kernel
theorem dX12_of_120 : decode cX12_of 120 = .ok (.if_icmp .lt 38, 3) := by decide +kernel
theorem dX12_of_123 : decode cX12_of 123 = .ok (.aload_n 0, 1) := by decide +kernel
theorem dX12_of_124 : decode cX12_of 124 = .ok (.iload_n 2, 1) := by decide +kernel
theorem dX12_of_125 : decode cX12_of 125 = .ok (.bipush 20, 2) := by decide +kernel
theorem dX12_of_127 : decode cX12_of 127 = .ok (.isub, 1) := by decide +kernel
theorem dX12_of_128 : decode cX12_of 128 = .ok (.invokevirtual 107, 3) := by decide +kernel
theorem dX12_of_131 : decode cX12_of 131 = .ok (.ifCond .eq 27, 3) := by decide +kernel
theorem dX12_of_134 : decode cX12_of 134 = .ok (.aload_n 0, 1) := by decide +kernel
theorem dX12_of_135 : decode cX12_of 135 = .ok (.getfield 7, 3) := by decide +kernel
theorem dX12_of_138 : decode cX12_of 138 = .ok (.bipush 50, 2) := by decide +kernel
theorem dX12_of_140 : decode cX12_of 140 = .ok (.bipush 12, 2) := by decide +kernel
theorem dX12_of_142 : decode cX12_of 142 = .ok (.iload_n 1, 1) := by decide +kernel
theorem dX12_of_143 : decode cX12_of 143 = .ok (.imul, 1) := by decide +kernel
theorem dX12_of_144 : decode cX12_of 144 = .ok (.iadd, 1) := by decide +kernel
theorem dX12_of_145 : decode cX12_of 145 = .ok (.iconst 2, 1) := by decide +kernel
theorem dX12_of_146 : decode cX12_of 146 = .ok (.iload_n 2, 1) := by decide +kernel
theorem dX12_of_147 : decode cX12_of 147 = .ok (.bipush 20, 2) := by decide +kernel
theorem dX12_of_149 : decode cX12_of 149 = .ok (.isub, 1) := by decide +kernel
theorem dX12_of_150 : decode cX12_of 150 = .ok (.imul, 1) := by decide +kernel
theorem dX12_of_151 : decode cX12_of 151 = .ok (.iadd, 1) := by decide +kernel
theorem dX12_of_152 : decode cX12_of 152 = .ok (.iconst 1, 1) := by decide +kernel
theorem dX12_of_153 : decode cX12_of 153 = .ok (.iadd, 1) := by decide +kernel
theorem dX12_of_154 : decode cX12_of 154 = .ok (.iaload, 1) := by decide +kernel
theorem dX12_of_155 : decode cX12_of 155 = .ok (.goto 4, 3) := by decide +kernel
theorem dX12_of_158 : decode cX12_of 158 = .ok (.iconst (-1), 1) := by decide +kernel
theorem dX12_of_159 : decode cX12_of 159 = .ok (.ireturn, 1) := by decide +kernel
theorem dX11_on_0 : decode cX11_on 0 = .ok (.aload_n 0, 1) := by decide +kernel
theorem dX11_on_1 : decode cX11_on 1 = .ok (.getfield 10, 3) := by decide +kernel
theorem dX11_on_4 : decode cX11_on 4 = .ok (.iload_n 1, 1) := by decide +kernel
theorem dX11_on_5 : decode cX11_on 5 = .ok (.invokevirtual 96, 3) := by decide +kernel
theorem dX11_on_8 : decode cX11_on 8 = .ok (.ifCond .ne 5, 3) := by decide +kernel
theorem dX11_on_11 : decode cX11_on 11 = .ok (.iconst (-1), 1) := by decide +kernel
theorem dX11_on_12 : decode cX11_on 12 = .ok (.ireturn, 1) := by decide +kernel
theorem dX11_on_13 : decode cX11_on 13 = .ok (.aload_n 0, 1) := by decide +kernel
theorem dX11_on_14 : decode cX11_on 14 = .ok (.getfield 10, 3) := by decide +kernel
theorem dX11_on_17 : decode cX11_on 17 = .ok (.getfield 75, 3) := by decide +kernel
theorem dX11_on_20 : decode cX11_on 20 = .ok (.iload_n 1, 1) := by decide +kernel
theorem dX11_on_21 : decode cX11_on 21 = .ok (.aaload, 1) := by decide +kernel
theorem dX11_on_22 : decode cX11_on 22 = .ok (.astore_n 3, 1) := by decide +kernel
theorem dX11_on_23 : decode cX11_on 23 = .ok (.iload_n 2, 1) := by decide +kernel
theorem dX11_on_24 : decode cX11_on 24 = .ok (.tableswitch 104 0 7 #[48, 53, 58, 71, 84, 89, 94, 99], 48) := by decide +kernel
theorem dX11_on_72 : decode cX11_on 72 = .ok (.aload_n 3, 1) := by decide +kernel
theorem dX11_on_73 : decode cX11_on 73 = .ok (.getfield 190, 3) := by decide +kernel
theorem dX11_on_76 : decode cX11_on 76 = .ok (.ireturn, 1) := by decide +kernel
theorem dX11_on_77 : decode cX11_on 77 = .ok (.aload_n 3, 1) := by decide +kernel
theorem dX11_on_78 : decode cX11_on 78 = .ok (.getfield 191, 3) := by decide +kernel
theorem dX11_on_81 : decode cX11_on 81 = .ok (.ireturn, 1) := by decide +kernel
theorem dX11_on_82 : decode cX11_on 82 = .ok (.aload_n 3, 1) := by decide +kernel
theorem dX11_on_83 : decode cX11_on 83 = .ok (.getfield 194, 3) := by decide +kernel
theorem dX11_on_86 : decode cX11_on 86 = .ok (.ifCond .eq 7, 3) := by decide +kernel
theorem dX11_on_89 : decode cX11_on 89 = .ok (.iconst 1, 1) := by decide +kernel
theorem dX11_on_90 : decode cX11_on 90 = .ok (.goto 4, 3) := by decide +kernel
theorem dX11_on_93 : decode cX11_on 93 = .ok (.iconst 0, 1) := by decide +kernel
theorem dX11_on_94 : decode cX11_on 94 = .ok (.ireturn, 1) := by decide +kernel
theorem dX11_on_95 : decode cX11_on 95 = .ok (.aload_n 3, 1) := by decide +kernel
theorem dX11_on_96 : decode cX11_on 96 = .ok (.getfield 99, 3) := by decide +kernel
theorem dX11_on_99 : decode cX11_on 99 = .ok (.ifCond .eq 7, 3) := by decide +kernel
theorem dX11_on_102 : decode cX11_on 102 = .ok (.iconst 1, 1) := by decide +kernel
theorem dX11_on_103 : decode cX11_on 103 = .ok (.goto 4, 3) := by decide +kernel
theorem dX11_on_106 : decode cX11_on 106 = .ok (.iconst 0, 1) := by decide +kernel
theorem dX11_on_107 : decode cX11_on 107 = .ok (.ireturn, 1) := by decide +kernel
theorem dX11_on_108 : decode cX11_on 108 = .ok (.aload_n 3, 1) := by decide +kernel
theorem dX11_on_109 : decode cX11_on 109 = .ok (.getfield 197, 3) := by decide +kernel
theorem dX11_on_112 : decode cX11_on 112 = .ok (.ireturn, 1) := by decide +kernel
theorem dX11_on_113 : decode cX11_on 113 = .ok (.aload_n 3, 1) := by decide +kernel
theorem dX11_on_114 : decode cX11_on 114 = .ok (.getfield 200, 3) := by decide +kernel
theorem dX11_on_117 : decode cX11_on 117 = .ok (.ireturn, 1) := by decide +kernel
theorem dX11_on_118 : decode cX11_on 118 = .ok (.aload_n 3, 1) := by decide +kernel
theorem dX11_on_119 : decode cX11_on 119 = .ok (.getfield 203, 3) := by decide +kernel
theorem dX11_on_122 : decode cX11_on 122 = .ok (.ireturn, 1) := by decide +kernel
theorem dX11_on_123 : decode cX11_on 123 = .ok (.aload_n 3, 1) := by decide +kernel
theorem dX11_on_124 : decode cX11_on 124 = .ok (.getfield 93, 3) := by decide +kernel
theorem dX11_on_127 : decode cX11_on 127 = .ok (.ireturn, 1) := by decide +kernel
theorem dX11_on_128 : decode cX11_on 128 = .ok (.iconst (-1), 1) := by decide +kernel
theorem dX11_on_129 : decode cX11_on 129 = .ok (.ireturn, 1) := by decide +kernel
theorem dX12_on_0 : decode cX12_on 0 = .ok (.aload_n 0, 1) := by decide +kernel
theorem dX12_on_1 : decode cX12_on 1 = .ok (.iload_n 1, 1) := by decide +kernel
theorem dX12_on_2 : decode cX12_on 2 = .ok (.invokevirtual 99, 3) := by decide +kernel
theorem dX12_on_5 : decode cX12_on 5 = .ok (.ifCond .ne 5, 3) := by decide +kernel
theorem dX12_on_8 : decode cX12_on 8 = .ok (.iconst (-1), 1) := by decide +kernel
theorem dX12_on_9 : decode cX12_on 9 = .ok (.ireturn, 1) := by decide +kernel
theorem dX12_on_10 : decode cX12_on 10 = .ok (.iload_n 2, 1) := by decide +kernel
theorem dX12_on_11 : decode cX12_on 11 = .ok (.tableswitch 106 0 7 #[45, 51, 58, 66, 74, 82, 90, 98], 45) := by decide +kernel
theorem dX12_on_56 : decode cX12_on 56 = .ok (.aload_n 0, 1) := by decide +kernel
theorem dX12_on_57 : decode cX12_on 57 = .ok (.iload_n 1, 1) := by decide +kernel
theorem dX12_on_58 : decode cX12_on 58 = .ok (.invokevirtual 117, 3) := by decide +kernel
theorem dX12_on_61 : decode cX12_on 61 = .ok (.ireturn, 1) := by decide +kernel
theorem dX12_on_62 : decode cX12_on 62 = .ok (.aload_n 0, 1) := by decide +kernel
theorem dX12_on_63 : decode cX12_on 63 = .ok (.iload_n 1, 1) := by decide +kernel
theorem dX12_on_64 : decode cX12_on 64 = .ok (.iconst 5, 1) := by decide +kernel
theorem dX12_on_65 : decode cX12_on 65 = .ok (.invokevirtual 103, 3) := by decide +kernel
theorem dX12_on_68 : decode cX12_on 68 = .ok (.ireturn, 1) := by decide +kernel
theorem dX12_on_69 : decode cX12_on 69 = .ok (.aload_n 0, 1) := by decide +kernel
theorem dX12_on_70 : decode cX12_on 70 = .ok (.iload_n 1, 1) := by decide +kernel
theorem dX12_on_71 : decode cX12_on 71 = .ok (.bipush 6, 2) := by decide +kernel
theorem dX12_on_73 : decode cX12_on 73 = .ok (.invokevirtual 103, 3) := by decide +kernel
theorem dX12_on_76 : decode cX12_on 76 = .ok (.ireturn, 1) := by decide +kernel
theorem dX12_on_77 : decode cX12_on 77 = .ok (.aload_n 0, 1) := by decide +kernel
theorem dX12_on_78 : decode cX12_on 78 = .ok (.iload_n 1, 1) := by decide +kernel
theorem dX12_on_79 : decode cX12_on 79 = .ok (.bipush 9, 2) := by decide +kernel
theorem dX12_on_81 : decode cX12_on 81 = .ok (.invokevirtual 103, 3) := by decide +kernel
theorem dX12_on_84 : decode cX12_on 84 = .ok (.ireturn, 1) := by decide +kernel
theorem dX12_on_85 : decode cX12_on 85 = .ok (.aload_n 0, 1) := by decide +kernel
theorem dX12_on_86 : decode cX12_on 86 = .ok (.iload_n 1, 1) := by decide +kernel
theorem dX12_on_87 : decode cX12_on 87 = .ok (.bipush 7, 2) := by decide +kernel
theorem dX12_on_89 : decode cX12_on 89 = .ok (.invokevirtual 103, 3) := by decide +kernel
theorem dX12_on_92 : decode cX12_on 92 = .ok (.ireturn, 1) := by decide +kernel
theorem dX12_on_93 : decode cX12_on 93 = .ok (.aload_n 0, 1) := by decide +kernel
theorem dX12_on_94 : decode cX12_on 94 = .ok (.iload_n 1, 1) := by decide +kernel
theorem dX12_on_95 : decode cX12_on 95 = .ok (.bipush 10, 2) := by decide +kernel
theorem dX12_on_97 : decode cX12_on 97 = .ok (.invokevirtual 103, 3) := by decide +kernel
theorem dX12_on_100 : decode cX12_on 100 = .ok (.ireturn, 1) := by decide +kernel
theorem dX12_on_101 : decode cX12_on 101 = .ok (.aload_n 0, 1) := by decide +kernel
theorem dX12_on_102 : decode cX12_on 102 = .ok (.iload_n 1, 1) := by decide +kernel
theorem dX12_on_103 : decode cX12_on 103 = .ok (.bipush 11, 2) := by decide +kernel
theorem dX12_on_105 : decode cX12_on 105 = .ok (.invokevirtual 103, 3) := by decide +kernel
theorem dX12_on_108 : decode cX12_on 108 = .ok (.ireturn, 1) := by decide +kernel
theorem dX12_on_109 : decode cX12_on 109 = .ok (.aload_n 0, 1) := by decide +kernel
theorem dX12_on_110 : decode cX12_on 110 = .ok (.iload_n 1, 1) := by decide +kernel
theorem dX12_on_111 : decode cX12_on 111 = .ok (.bipush 8, 2) := by decide +kernel
theorem dX12_on_113 : decode cX12_on 113 = .ok (.invokevirtual 103, 3) := by decide +kernel
theorem dX12_on_116 : decode cX12_on 116 = .ok (.ireturn, 1) := by decide +kernel
theorem dX12_on_117 : decode cX12_on 117 = .ok (.iconst (-1), 1) := by decide +kernel
theorem dX12_on_118 : decode cX12_on 118 = .ok (.ireturn, 1) := by decide +kernel
theorem dX11_step_0 : decode cX11_step 0 = .ok (.aload_n 0, 1) := by decide +kernel
theorem dX11_step_1 : decode cX11_step 1 = .ok (.getfield 10, 3) := by decide +kernel
theorem dX11_step_4 : decode cX11_step 4 = .ok (.iload_n 1, 1) := by decide +kernel
theorem dX11_step_5 : decode cX11_step 5 = .ok (.invokevirtual 84, 3) := by decide +kernel
theorem dX11_step_8 : decode cX11_step 8 = .ok (.ifCond .eq 34, 3) := by decide +kernel
theorem dX11_step_11 : decode cX11_step 11 = .ok (.iload_n 2, 1) := by decide +kernel
theorem dX11_step_12 : decode cX11_step 12 = .ok (.iconst 0, 1) := by decide +kernel
theorem dX11_step_13 : decode cX11_step 13 = .ok (.iconst 1, 1) := by decide +kernel
theorem dX11_step_14 : decode cX11_step 14 = .ok (.invokestatic 47, 3) := by decide +kernel
theorem dX11_step_17 : decode cX11_step 17 = .ok (.ifCond .eq 25, 3) := by decide +kernel
theorem dX11_step_20 : decode cX11_step 20 = .ok (.iload_n 3, 1) := by decide +kernel
theorem dX11_step_21 : decode cX11_step 21 = .ok (.iconst 0, 1) := by decide +kernel
theorem dX11_step_22 : decode cX11_step 22 = .ok (.aload_n 0, 1) := by decide +kernel
theorem dX11_step_23 : decode cX11_step 23 = .ok (.getfield 10, 3) := by decide +kernel
theorem dX11_step_26 : decode cX11_step 26 = .ok (.getfield 75, 3) := by decide +kernel
theorem dX11_step_29 : decode cX11_step 29 = .ok (.iload_n 1, 1) := by decide +kernel
theorem dX11_step_30 : decode cX11_step 30 = .ok (.aaload, 1) := by decide +kernel
theorem dX11_step_31 : decode cX11_step 31 = .ok (.getfield 206, 3) := by decide +kernel
theorem dX11_step_34 : decode cX11_step 34 = .ok (.iconst 1, 1) := by decide +kernel
theorem dX11_step_35 : decode cX11_step 35 = .ok (.isub, 1) := by decide +kernel
theorem dX11_step_36 : decode cX11_step 36 = .ok (.invokestatic 47, 3) := by decide +kernel
theorem dX11_step_39 : decode cX11_step 39 = .ok (.ifCond .ne 5, 3) := by decide +kernel
theorem dX11_step_42 : decode cX11_step 42 = .ok (.iconst (-1), 1) := by decide +kernel
theorem dX11_step_43 : decode cX11_step 43 = .ok (.ireturn, 1) := by decide +kernel
theorem dX11_step_44 : decode cX11_step 44 = .ok (.aload_n 0, 1) := by decide +kernel
theorem dX11_step_45 : decode cX11_step 45 = .ok (.getfield 10, 3) := by decide +kernel
theorem dX11_step_48 : decode cX11_step 48 = .ok (.getfield 75, 3) := by decide +kernel
theorem dX11_step_51 : decode cX11_step 51 = .ok (.iload_n 1, 1) := by decide +kernel
theorem dX11_step_52 : decode cX11_step 52 = .ok (.aaload, 1) := by decide +kernel
theorem dX11_step_53 : decode cX11_step 53 = .ok (.iload_n 2, 1) := by decide +kernel
theorem dX11_step_54 : decode cX11_step 54 = .ok (.iload_n 3, 1) := by decide +kernel
theorem dX11_step_55 : decode cX11_step 55 = .ok (.invokevirtual 207, 3) := by decide +kernel
theorem dX11_step_58 : decode cX11_step 58 = .ok (.ireturn, 1) := by decide +kernel
theorem dX12_step_0 : decode cX12_step 0 = .ok (.aload_n 0, 1) := by decide +kernel
theorem dX12_step_1 : decode cX12_step 1 = .ok (.iload_n 1, 1) := by decide +kernel
theorem dX12_step_2 : decode cX12_step 2 = .ok (.invokevirtual 114, 3) := by decide +kernel
theorem dX12_step_5 : decode cX12_step 5 = .ok (.ifCond .eq 43, 3) := by decide +kernel
theorem dX12_step_8 : decode cX12_step 8 = .ok (.iload_n 2, 1) := by decide +kernel
theorem dX12_step_9 : decode cX12_step 9 = .ok (.iconst 0, 1) := by decide +kernel
theorem dX12_step_10 : decode cX12_step 10 = .ok (.iconst 1, 1) := by decide +kernel
theorem dX12_step_11 : decode cX12_step 11 = .ok (.invokestatic 95, 3) := by decide +kernel
theorem dX12_step_14 : decode cX12_step 14 = .ok (.ifCond .eq 34, 3) := by decide +kernel
theorem dX12_step_17 : decode cX12_step 17 = .ok (.iload_n 3, 1) := by decide +kernel
theorem dX12_step_18 : decode cX12_step 18 = .ok (.iconst 0, 1) := by decide +kernel
theorem dX12_step_19 : decode cX12_step 19 = .ok (.aload_n 0, 1) := by decide +kernel
theorem dX12_step_20 : decode cX12_step 20 = .ok (.iload_n 1, 1) := by decide +kernel
theorem dX12_step_21 : decode cX12_step 21 = .ok (.iconst 3, 1) := by decide +kernel
theorem dX12_step_22 : decode cX12_step 22 = .ok (.invokevirtual 103, 3) := by decide +kernel
theorem dX12_step_25 : decode cX12_step 25 = .ok (.iconst 1, 1) := by decide +kernel
theorem dX12_step_26 : decode cX12_step 26 = .ok (.isub, 1) := by decide +kernel
theorem dX12_step_27 : decode cX12_step 27 = .ok (.invokestatic 95, 3) := by decide +kernel
theorem dX12_step_30 : decode cX12_step 30 = .ok (.ifCond .eq 18, 3) := by decide +kernel
theorem dX12_step_33 : decode cX12_step 33 = .ok (.aload_n 0, 1) := by decide +kernel
theorem dX12_step_34 : decode cX12_step 34 = .ok (.getfield 7, 3) := by decide +kernel
theorem dX12_step_37 : decode cX12_step 37 = .ok (.aload_n 0, 1) := by decide +kernel
theorem dX12_step_38 : decode cX12_step 38 = .ok (.iload_n 1, 1) := by decide +kernel
theorem dX12_step_39 : decode cX12_step 39 = .ok (.iload_n 2, 1) := by decide +kernel
theorem dX12_step_40 : decode cX12_step 40 = .ok (.iload_n 3, 1) := by decide +kernel
theorem dX12_step_41 : decode cX12_step 41 = .ok (.invokevirtual 334, 3) := by decide +kernel
theorem dX12_step_44 : decode cX12_step 44 = .ok (.iaload, 1) := by decide +kernel
theorem dX12_step_45 : decode cX12_step 45 = .ok (.goto 4, 3) := by decide +kernel
theorem dX12_step_48 : decode cX12_step 48 = .ok (.iconst (-1), 1) := by decide +kernel
theorem dX12_step_49 : decode cX12_step 49 = .ok (.ireturn, 1) := by decide +kernel
theorem dX11_route_0 : decode cX11_route 0 = .ok (.aload_n 0, 1) := by decide +kernel
theorem dX11_route_1 : decode cX11_route 1 = .ok (.getfield 10, 3) := by decide +kernel
theorem dX11_route_4 : decode cX11_route 4 = .ok (.iload_n 1, 1) := by decide +kernel
theorem dX11_route_5 : decode cX11_route 5 = .ok (.invokevirtual 65, 3) := by decide +kernel
theorem dX11_route_8 : decode cX11_route 8 = .ok (.ifCond .eq 14, 3) := by decide +kernel
theorem dX11_route_11 : decode cX11_route 11 = .ok (.aload_n 0, 1) := by decide +kernel
theorem dX11_route_12 : decode cX11_route 12 = .ok (.getfield 10, 3) := by decide +kernel
theorem dX11_route_15 : decode cX11_route 15 = .ok (.iload_n 2, 1) := by decide +kernel
theorem dX11_route_16 : decode cX11_route 16 = .ok (.invokevirtual 65, 3) := by decide +kernel
theorem dX11_route_19 : decode cX11_route 19 = .ok (.ifCond .ne 5, 3) := by decide +kernel
theorem dX11_route_22 : decode cX11_route 22 = .ok (.iconst (-1), 1) := by decide +kernel
theorem dX11_route_23 : decode cX11_route 23 = .ok (.ireturn, 1) := by decide +kernel
theorem dX11_route_24 : decode cX11_route 24 = .ok (.aload_n 0, 1) := by decide +kernel
theorem dX11_route_25 : decode cX11_route 25 = .ok (.getfield 25, 3) := by decide +kernel
theorem dX11_route_28 : decode cX11_route 28 = .ok (.invokevirtual 166, 3) := by decide +kernel
theorem dX11_route_31 : decode cX11_route 31 = .ok (.aload_n 0, 1) := by decide +kernel
theorem dX11_route_32 : decode cX11_route 32 = .ok (.getfield 25, 3) := by decide +kernel
theorem dX11_route_35 : decode cX11_route 35 = .ok (.getfield 211, 3) := by decide +kernel
theorem dX11_route_38 : decode cX11_route 38 = .ok (.aload_n 0, 1) := by decide +kernel
theorem dX11_route_39 : decode cX11_route 39 = .ok (.getfield 10, 3) := by decide +kernel
theorem dX11_route_42 : decode cX11_route 42 = .ok (.invokevirtual 215, 3) := by decide +kernel
theorem dX11_route_45 : decode cX11_route 45 = .ok (.aload_n 0, 1) := by decide +kernel
theorem dX11_route_46 : decode cX11_route 46 = .ok (.getfield 25, 3) := by decide +kernel
theorem dX11_route_49 : decode cX11_route 49 = .ok (.getfield 211, 3) := by decide +kernel
theorem dX11_route_52 : decode cX11_route 52 = .ok (.iload_n 3, 1) := by decide +kernel
theorem dX11_route_53 : decode cX11_route 53 = .ok (.ifCond .eq 7, 3) := by decide +kernel
theorem dX11_route_56 : decode cX11_route 56 = .ok (.iconst 1, 1) := by decide +kernel
theorem dX11_route_57 : decode cX11_route 57 = .ok (.goto 4, 3) := by decide +kernel
theorem dX11_route_60 : decode cX11_route 60 = .ok (.iconst 0, 1) := by decide +kernel
theorem dX11_route_61 : decode cX11_route 61 = .ok (.iload_n 1, 1) := by decide +kernel
theorem dX11_route_62 : decode cX11_route 62 = .ok (.iload_n 2, 1) := by decide +kernel
theorem dX11_route_63 : decode cX11_route 63 = .ok (.invokevirtual 221, 3) := by decide +kernel
theorem dX11_route_66 : decode cX11_route 66 = .ok (.ireturn, 1) := by decide +kernel
theorem dX12_route_0 : decode cX12_route 0 = .ok (.aload_n 0, 1) := by decide +kernel
theorem dX12_route_1 : decode cX12_route 1 = .ok (.iload_n 1, 1) := by decide +kernel
theorem dX12_route_2 : decode cX12_route 2 = .ok (.invokevirtual 107, 3) := by decide +kernel
theorem dX12_route_5 : decode cX12_route 5 = .ok (.ifCond .eq 11, 3) := by decide +kernel
theorem dX12_route_8 : decode cX12_route 8 = .ok (.aload_n 0, 1) := by decide +kernel
theorem dX12_route_9 : decode cX12_route 9 = .ok (.iload_n 2, 1) := by decide +kernel
theorem dX12_route_10 : decode cX12_route 10 = .ok (.invokevirtual 107, 3) := by decide +kernel
theorem dX12_route_13 : decode cX12_route 13 = .ok (.ifCond .ne 5, 3) := by decide +kernel
theorem dX12_route_16 : decode cX12_route 16 = .ok (.iconst (-1), 1) := by decide +kernel
theorem dX12_route_17 : decode cX12_route 17 = .ok (.ireturn, 1) := by decide +kernel
theorem dX12_route_18 : decode cX12_route 18 = .ok (.aload_n 0, 1) := by decide +kernel
theorem dX12_route_19 : decode cX12_route 19 = .ok (.iload_n 2, 1) := by decide +kernel
theorem dX12_route_20 : decode cX12_route 20 = .ok (.iload_n 3, 1) := by decide +kernel
theorem dX12_route_21 : decode cX12_route 21 = .ok (.ifCond .eq 7, 3) := by decide +kernel
theorem dX12_route_24 : decode cX12_route 24 = .ok (.iconst 1, 1) := by decide +kernel
theorem dX12_route_25 : decode cX12_route 25 = .ok (.goto 4, 3) := by decide +kernel
theorem dX12_route_28 : decode cX12_route 28 = .ok (.iconst 0, 1) := by decide +kernel
theorem dX12_route_29 : decode cX12_route 29 = .ok (.invokevirtual 325, 3) := by decide +kernel
theorem dX12_route_32 : decode cX12_route 32 = .ok (.aload_n 0, 1) := by decide +kernel
theorem dX12_route_33 : decode cX12_route 33 = .ok (.getfield 80, 3) := by decide +kernel
theorem dX12_route_36 : decode cX12_route 36 = .ok (.iload_n 3, 1) := by decide +kernel
theorem dX12_route_37 : decode cX12_route 37 = .ok (.ifCond .eq 8, 3) := by decide +kernel
theorem dX12_route_40 : decode cX12_route 40 = .ok (.bipush 36, 2) := by decide +kernel
theorem dX12_route_42 : decode cX12_route 42 = .ok (.goto 4, 3) := by decide +kernel
theorem dX12_route_45 : decode cX12_route 45 = .ok (.iconst 0, 1) := by decide +kernel
theorem dX12_route_46 : decode cX12_route 46 = .ok (.bipush 6, 2) := by decide +kernel
theorem dX12_route_48 : decode cX12_route 48 = .ok (.iload_n 2, 1) := by decide +kernel
theorem dX12_route_49 : decode cX12_route 49 = .ok (.imul, 1) := by decide +kernel
theorem dX12_route_50 : decode cX12_route 50 = .ok (.iadd, 1) := by decide +kernel
theorem dX12_route_51 : decode cX12_route 51 = .ok (.iload_n 1, 1) := by decide +kernel
theorem dX12_route_52 : decode cX12_route 52 = .ok (.iadd, 1) := by decide +kernel
theorem dX12_route_53 : decode cX12_route 53 = .ok (.iaload, 1) := by decide +kernel
theorem dX12_route_54 : decode cX12_route 54 = .ok (.ireturn, 1) := by decide +kernel
def fX12_second_78 (a0 : Nat) (rec37 : Int32 → Int32 → xMem → Option xMem) (l1 : Int32) (l2 : Int32) (m : xMem) : Option xMem := xLet (l2 + (1 : Int32)) fun x1 => rec37 l1 x1 m
set_option maxRecDepth 4000 in
theorem fX12_second_78_ok {a0 : Nat} {rec37 : Int32 → Int32 → xMem → Option xMem} {d : Nat} (hd : 5 ≤ d) (ha0 : isModel a0) (hrec37 : ∀ (l1 : Int32) (l2 : Int32) (o3 : Option Value) (q3 : xNoD o3 = true) (m : xMem) (r : xMem), rec37 l1 l2 m = some r → xFx hh_164 cX12_second d 37 [some (.ref a0), some (.int l1), some (.int l2), o3] [] (xLay m) 0 0 none (xLay r)) {l1 : Int32} {l2 : Int32} {o3 : Option Value} {m : xMem} {r : xMem} (q3 : xNoD o3 = true) (h : fX12_second_78 a0 rec37 l1 l2 m = some r) : xFx hh_164 cX12_second d 78 [some (.ref a0), some (.int l1), some (.int l2), o3] [] (xLay m) 0 0 none (xLay r) := by
  unfold fX12_second_78 at h
  obtain ⟨x1, hx1, h⟩ := xLet_el h
  refine fx_iinc (ls2 := [some (.ref a0), some (.int l1), some (.int x1), o3]) dX12_second_78 rfl rfl rfl hx1 rfl ?_
  refine fx_goto (t := 37) dX12_second_81 rfl rfl ?_
  exact hrec37 l1 x1 (o3) q3 m r h
def fX12_second_164 (a0 : Nat) (rec90 : Int32 → Int32 → xMem → Option xMem) (l1 : Int32) (l2 : Int32) (m : xMem) : Option xMem := xLet (l2 + (1 : Int32)) fun x1 => rec90 l1 x1 m
set_option maxRecDepth 4000 in
theorem fX12_second_164_ok {a0 : Nat} {rec90 : Int32 → Int32 → xMem → Option xMem} {d : Nat} (hd : 5 ≤ d) (ha0 : isModel a0) (hrec90 : ∀ (l1 : Int32) (l2 : Int32) (o3 : Option Value) (q3 : xNoD o3 = true) (m : xMem) (r : xMem), rec90 l1 l2 m = some r → xFx hh_164 cX12_second d 90 [some (.ref a0), some (.int l1), some (.int l2), o3] [] (xLay m) 0 0 none (xLay r)) {l1 : Int32} {l2 : Int32} {o3 : Option Value} {m : xMem} {r : xMem} (q3 : xNoD o3 = true) (h : fX12_second_164 a0 rec90 l1 l2 m = some r) : xFx hh_164 cX12_second d 164 [some (.ref a0), some (.int l1), some (.int l2), o3] [] (xLay m) 0 0 none (xLay r) := by
  unfold fX12_second_164 at h
  obtain ⟨x1, hx1, h⟩ := xLet_el h
  refine fx_iinc (ls2 := [some (.ref a0), some (.int l1), some (.int x1), o3]) dX12_second_164 rfl rfl rfl hx1 rfl ?_
  refine fx_goto (t := 90) dX12_second_167 rfl rfl ?_
  exact hrec90 l1 x1 (o3) q3 m r h
def fX12_second_288 (a0 : Nat) (rec172 : Int32 → Int32 → xMem → Option xMem) (l1 : Int32) (l2 : Int32) (m : xMem) : Option xMem := xLet (l2 + (1 : Int32)) fun x1 => rec172 l1 x1 m
set_option maxRecDepth 4000 in
theorem fX12_second_288_ok {a0 : Nat} {rec172 : Int32 → Int32 → xMem → Option xMem} {d : Nat} (hd : 5 ≤ d) (ha0 : isModel a0) (hrec172 : ∀ (l1 : Int32) (l2 : Int32) (o3 : Option Value) (q3 : xNoD o3 = true) (m : xMem) (r : xMem), rec172 l1 l2 m = some r → xFx hh_164 cX12_second d 172 [some (.ref a0), some (.int l1), some (.int l2), o3] [] (xLay m) 0 0 none (xLay r)) {l1 : Int32} {l2 : Int32} {o3 : Option Value} {m : xMem} {r : xMem} (q3 : xNoD o3 = true) (h : fX12_second_288 a0 rec172 l1 l2 m = some r) : xFx hh_164 cX12_second d 288 [some (.ref a0), some (.int l1), some (.int l2), o3] [] (xLay m) 0 0 none (xLay r) := by
  unfold fX12_second_288 at h
  obtain ⟨x1, hx1, h⟩ := xLet_el h
  refine fx_iinc (ls2 := [some (.ref a0), some (.int l1), some (.int x1), o3]) dX12_second_288 rfl rfl rfl hx1 rfl ?_
  refine fx_goto (t := 172) dX12_second_291 rfl rfl ?_
  exact hrec172 l1 x1 (o3) q3 m r h
def fX12_second_254 (a0 : Nat) (rec172 : Int32 → Int32 → xMem → Option xMem) (l1 : Int32) (l2 : Int32) (s0 : Nat) (s1 : Int32) (s2 : Int32) (s3 : Int32) (m : xMem) : Option xMem := xLet (s2 + s3) fun x1 => bif xIn s1 1610 then xLet (xPut m s0 s1.toNatClampNeg x1) fun m2 => (fX12_isOver a0 l2 m2).bind fun p4 => if p4.1 = (0 : Int32) then fX12_second_288 a0 rec172 l1 l2 p4.2 else (fX12_hallOf a0 l2 (3 : Int32) p4.2).bind fun p6 => if ¬ p6.1 = (-1 : Int32) then fX12_second_288 a0 rec172 l1 l2 p6.2 else xLet ((4 : Int32) * l2) fun x8 => xLet ((20 : Int32) + x8) fun x9 => xLet (x9 + (3 : Int32)) fun x10 => bif xIn x10 1610 then xLet (xPut p6.2 (a0 + 1) x10.toNatClampNeg l1) fun m11 => fX12_second_288 a0 rec172 l1 l2 m11 else none else none
set_option maxRecDepth 4000 in
theorem fX12_second_254_ok {a0 : Nat} {rec172 : Int32 → Int32 → xMem → Option xMem} {d : Nat} (hd : 5 ≤ d) (ha0 : isModel a0) (hrec172 : ∀ (l1 : Int32) (l2 : Int32) (o3 : Option Value) (q3 : xNoD o3 = true) (m : xMem) (r : xMem), rec172 l1 l2 m = some r → xFx hh_164 cX12_second d 172 [some (.ref a0), some (.int l1), some (.int l2), o3] [] (xLay m) 0 0 none (xLay r)) {l1 : Int32} {l2 : Int32} {s0 : Nat} {s1 : Int32} {s2 : Int32} {s3 : Int32} {o3 : Option Value} {m : xMem} {r : xMem} (hs0 : xTmL[s0]? = some (101, 1610, [])) (q3 : xNoD o3 = true) (h : fX12_second_254 a0 rec172 l1 l2 s0 s1 s2 s3 m = some r) : xFx hh_164 cX12_second d 254 [some (.ref a0), some (.int l1), some (.int l2), o3] [.int s3, .int s2, .int s1, .ref s0] (xLay m) 0 0 none (xLay r) := by
  unfold fX12_second_254 at h
  obtain ⟨x1, hx1, h⟩ := xLet_el h
  refine fx_iadd dX12_second_254 rfl hx1 ?_
  obtain ⟨hj3, h⟩ := xChk_el h
  obtain ⟨m2, hm2, h⟩ := xLet_el h
  refine gx_iastore dX12_second_255 rfl hs0 hj3 hm2 ?_
  refine fx_aload_n dX12_second_256 rfl rfl ?_
  refine fx_iload_n dX12_second_257 rfl rfl ?_
  obtain ⟨p4, ep4, h⟩ := xBind_el h
  refine gx_callv (as := [.int l2]) (r := []) rfl dX12_second_258 ca_12_374 rfl me_192 rfl rfl rfl rfl (ha0.1) rfl (fX12_isOver_ok (d := d) (by omega) ha0 ep4) rfl rfl ?_
  refine fx_if_eq (t := 288) dX12_second_261 rfl rfl (fun hc5 => ?_) (fun hc5 => ?_)
  · rw [if_pos hc5] at h
    exact fX12_second_288_ok (o3 := o3) hd ha0 hrec172 q3 h
  · rw [if_neg hc5] at h
    refine fx_aload_n dX12_second_264 rfl rfl ?_
    refine fx_iload_n dX12_second_265 rfl rfl ?_
    refine fx_iconst (x := 3) dX12_second_266 rfl (by decide) ?_
    obtain ⟨p6, ep6, h⟩ := xBind_el h
    refine gx_callv (as := [.int l2, .int (3 : Int32)]) (r := []) rfl dX12_second_267 ca_12_295 rfl me_170 rfl rfl rfl rfl (ha0.1) rfl (fX12_hallOf_ok (d := d) (by omega) ha0 ep6) rfl rfl ?_
    refine fx_iconst (x := -1) dX12_second_270 rfl (by decide) ?_
    refine fx_icmp_ne (t := 288) dX12_second_271 rfl rfl (fun hc7 => ?_) (fun hc7 => ?_)
    · rw [if_pos hc7] at h
      exact fX12_second_288_ok (o3 := o3) hd ha0 hrec172 q3 h
    · rw [if_neg hc7] at h
      refine fx_aload_n dX12_second_274 rfl rfl ?_
      refine gx_getr dX12_second_275 rfl fd_12_7 ha0.1 rfl rfl ?_
      refine fx_bipush (x := 20) dX12_second_278 rfl (by decide) ?_
      refine fx_iconst (x := 4) dX12_second_280 rfl (by decide) ?_
      refine fx_iload_n dX12_second_281 rfl rfl ?_
      obtain ⟨x8, hx8, h⟩ := xLet_el h
      refine fx_imul dX12_second_282 rfl hx8 ?_
      obtain ⟨x9, hx9, h⟩ := xLet_el h
      refine fx_iadd dX12_second_283 rfl hx9 ?_
      refine fx_iconst (x := 3) dX12_second_284 rfl (by decide) ?_
      obtain ⟨x10, hx10, h⟩ := xLet_el h
      refine fx_iadd dX12_second_285 rfl hx10 ?_
      refine fx_iload_n dX12_second_286 rfl rfl ?_
      obtain ⟨hj12, h⟩ := xChk_el h
      obtain ⟨m11, hm11, h⟩ := xLet_el h
      refine gx_iastore dX12_second_287 rfl ha0.2.1 hj12 hm11 ?_
      exact fX12_second_288_ok (o3 := o3) hd ha0 hrec172 q3 h
def fX12_second_225 (a0 : Nat) (rec172 : Int32 → Int32 → xMem → Option xMem) (l1 : Int32) (l2 : Int32) (s0 : Nat) (s1 : Int32) (s2 : Int32) (m : xMem) : Option xMem := bif xIn s1 1610 then xLet (xPut m s0 s1.toNatClampNeg s2) fun m1 => xLet ((4 : Int32) * l2) fun x3 => xLet ((20 : Int32) + x3) fun x4 => xLet (x4 + (2 : Int32)) fun x5 => bif xIn x5 1610 then xLet (m1.1 (a0 + 1) x5.toNatClampNeg) fun x6 => bif xIn l2 6 then xLet (m1.1 (a0 + 20) l2.toNatClampNeg) fun x8 => if x8 = (0 : Int32) then fX12_second_254 a0 rec172 l1 l2 (a0 + 1) x5 x6 (0 : Int32) m1 else fX12_second_254 a0 rec172 l1 l2 (a0 + 1) x5 x6 (1 : Int32) m1 else none else none else none
set_option maxRecDepth 4000 in
theorem fX12_second_225_ok {a0 : Nat} {rec172 : Int32 → Int32 → xMem → Option xMem} {d : Nat} (hd : 5 ≤ d) (ha0 : isModel a0) (hrec172 : ∀ (l1 : Int32) (l2 : Int32) (o3 : Option Value) (q3 : xNoD o3 = true) (m : xMem) (r : xMem), rec172 l1 l2 m = some r → xFx hh_164 cX12_second d 172 [some (.ref a0), some (.int l1), some (.int l2), o3] [] (xLay m) 0 0 none (xLay r)) {l1 : Int32} {l2 : Int32} {s0 : Nat} {s1 : Int32} {s2 : Int32} {o3 : Option Value} {m : xMem} {r : xMem} (hs0 : xTmL[s0]? = some (101, 1610, [])) (q3 : xNoD o3 = true) (h : fX12_second_225 a0 rec172 l1 l2 s0 s1 s2 m = some r) : xFx hh_164 cX12_second d 225 [some (.ref a0), some (.int l1), some (.int l2), o3] [.int s2, .int s1, .ref s0] (xLay m) 0 0 none (xLay r) := by
  unfold fX12_second_225 at h
  obtain ⟨hj2, h⟩ := xChk_el h
  obtain ⟨m1, hm1, h⟩ := xLet_el h
  refine gx_iastore dX12_second_225 rfl hs0 hj2 hm1 ?_
  refine fx_aload_n dX12_second_226 rfl rfl ?_
  refine gx_getr dX12_second_227 rfl fd_12_7 ha0.1 rfl rfl ?_
  refine fx_bipush (x := 20) dX12_second_230 rfl (by decide) ?_
  refine fx_iconst (x := 4) dX12_second_232 rfl (by decide) ?_
  refine fx_iload_n dX12_second_233 rfl rfl ?_
  obtain ⟨x3, hx3, h⟩ := xLet_el h
  refine fx_imul dX12_second_234 rfl hx3 ?_
  obtain ⟨x4, hx4, h⟩ := xLet_el h
  refine fx_iadd dX12_second_235 rfl hx4 ?_
  refine fx_iconst (x := 2) dX12_second_236 rfl (by decide) ?_
  obtain ⟨x5, hx5, h⟩ := xLet_el h
  refine fx_iadd dX12_second_237 rfl hx5 ?_
  refine fx_dup2 dX12_second_238 rfl rfl ?_
  obtain ⟨hj7, h⟩ := xChk_el h
  obtain ⟨x6, hx6, h⟩ := xLet_el h
  refine gx_iaload dX12_second_239 rfl ha0.2.1 hj7 hx6 ?_
  refine fx_aload_n dX12_second_240 rfl rfl ?_
  refine gx_getr dX12_second_241 rfl fd_12_76 ha0.1 rfl rfl ?_
  refine fx_iload_n dX12_second_244 rfl rfl ?_
  obtain ⟨hj9, h⟩ := xChk_el h
  obtain ⟨x8, hx8, h⟩ := xLet_el h
  refine gx_baload (t := 3) dX12_second_245 rfl ha0.2.2.2.2.2.2.2.2.2.2.2.2.2.2.2.2.2.2.2.2.1 rfl hj9 hx8 ?_
  refine fx_if_eq (t := 253) dX12_second_246 rfl rfl (fun hc10 => ?_) (fun hc10 => ?_)
  · rw [if_pos hc10] at h
    refine fx_iconst (x := 0) dX12_second_253 rfl (by decide) ?_
    exact fX12_second_254_ok (o3 := o3) hd ha0 hrec172 ha0.2.1 q3 h
  · rw [if_neg hc10] at h
    refine fx_iconst (x := 1) dX12_second_249 rfl (by decide) ?_
    refine fx_goto (t := 254) dX12_second_250 rfl rfl ?_
    exact fX12_second_254_ok (o3 := o3) hd ha0 hrec172 ha0.2.1 q3 h
def fX12_second_172 (a0 : Nat) : Nat → Int32 → Int32 → xMem → Option xMem
  | 0, _, _, _ => none
  | fuel + 1, l1, l2, m => bif xIn (1 : Int32) 1610 then xLet (m.1 (a0 + 1) (1 : Int32).toNatClampNeg) fun x1 => if x1 ≤ l2 then bif xIn (0 : Int32) 1610 then xLet (m.1 (a0 + 1) (0 : Int32).toNatClampNeg) fun x4 => xLet (x4 + (1 : Int32)) fun x6 => bif xIn (0 : Int32) 1610 then xLet (xPut m (a0 + 1) (0 : Int32).toNatClampNeg x6) fun m7 => some m7 else none else none else bif xIn (10 : Int32) 1610 then xLet (m.1 (a0 + 1) (10 : Int32).toNatClampNeg) fun x9 => (fX12_inHall a0 l2 m).bind fun p11 => xLet (x9 + p11.1) fun x12 => (fX12_countOf a0 (130 : Int32) l2 p11.2).bind fun p13 => xLet (x12 + p13.1) fun x14 => if x14 ≤ (1000000000 : Int32) then fX12_second_225 a0 (fX12_second_172 a0 fuel) l1 l2 (a0 + 1) (10 : Int32) x14 p13.2 else fX12_second_225 a0 (fX12_second_172 a0 fuel) l1 l2 (a0 + 1) (10 : Int32) (1000000000 : Int32) p13.2 else none else none
set_option maxRecDepth 4000 in
theorem fX12_second_172_ok {a0 : Nat} {d : Nat} (hd : 5 ≤ d) (ha0 : isModel a0) : ∀ (fuel : Nat) (l1 : Int32) (l2 : Int32) (o3 : Option Value) (q3 : xNoD o3 = true) (m : xMem) (r : xMem), fX12_second_172 a0 fuel l1 l2 m = some r → xFx hh_164 cX12_second d 172 [some (.ref a0), some (.int l1), some (.int l2), o3] [] (xLay m) 0 0 none (xLay r) := by
  intro fuel
  induction fuel with
  | zero => intro l1 l2 o3 q3 m r  h; cases h
  | succ fuel ih =>
    intro l1 l2 o3 q3 m r  h
    unfold fX12_second_172 at h
    refine fx_iload_n dX12_second_172 rfl rfl ?_
    refine fx_aload_n dX12_second_173 rfl rfl ?_
    refine gx_getr dX12_second_174 rfl fd_12_7 ha0.1 rfl rfl ?_
    refine fx_iconst (x := 1) dX12_second_177 rfl (by decide) ?_
    obtain ⟨hj2, h⟩ := xChk_el h
    obtain ⟨x1, hx1, h⟩ := xLet_el h
    refine gx_iaload dX12_second_178 rfl ha0.2.1 hj2 hx1 ?_
    refine fx_icmp_ge (t := 294) dX12_second_179 rfl rfl (fun hc3 => ?_) (fun hc3 => ?_)
    · rw [if_pos hc3] at h
      refine fx_aload_n dX12_second_294 rfl rfl ?_
      refine gx_getr dX12_second_295 rfl fd_12_7 ha0.1 rfl rfl ?_
      refine fx_iconst (x := 0) dX12_second_298 rfl (by decide) ?_
      refine fx_dup2 dX12_second_299 rfl rfl ?_
      obtain ⟨hj5, h⟩ := xChk_el h
      obtain ⟨x4, hx4, h⟩ := xLet_el h
      refine gx_iaload dX12_second_300 rfl ha0.2.1 hj5 hx4 ?_
      refine fx_iconst (x := 1) dX12_second_301 rfl (by decide) ?_
      obtain ⟨x6, hx6, h⟩ := xLet_el h
      refine fx_iadd dX12_second_302 rfl hx6 ?_
      obtain ⟨hj8, h⟩ := xChk_el h
      obtain ⟨m7, hm7, h⟩ := xLet_el h
      refine gx_iastore dX12_second_303 rfl ha0.2.1 hj8 hm7 ?_
      cases h
      exact fx_return dX12_second_304 rfl rfl
    · rw [if_neg hc3] at h
      refine fx_aload_n dX12_second_182 rfl rfl ?_
      refine gx_getr dX12_second_183 rfl fd_12_7 ha0.1 rfl rfl ?_
      refine fx_bipush (x := 10) dX12_second_186 rfl (by decide) ?_
      obtain ⟨hj10, h⟩ := xChk_el h
      obtain ⟨x9, hx9, h⟩ := xLet_el h
      refine gx_iaload dX12_second_188 rfl ha0.2.1 hj10 hx9 ?_
      refine fx_aload_n dX12_second_189 rfl rfl ?_
      refine fx_iload_n dX12_second_190 rfl rfl ?_
      obtain ⟨p11, ep11, h⟩ := xBind_el h
      refine gx_callv (as := [.int l2]) (r := [.int x9]) rfl dX12_second_191 ca_12_292 rfl me_168 rfl rfl rfl rfl (ha0.1) rfl (fX12_inHall_ok (d := d) (by omega) ha0 ep11) rfl rfl ?_
      obtain ⟨x12, hx12, h⟩ := xLet_el h
      refine fx_iadd dX12_second_194 rfl hx12 ?_
      refine fx_aload_n dX12_second_195 rfl rfl ?_
      refine fx_sipush (x := 130) dX12_second_196 rfl (by decide) ?_
      refine fx_iload_n dX12_second_199 rfl rfl ?_
      obtain ⟨p13, ep13, h⟩ := xBind_el h
      refine gx_callv (as := [.int (130 : Int32), .int l2]) (r := [.int x12]) rfl dX12_second_200 ca_12_289 rfl me_169 rfl rfl rfl rfl (ha0.1) rfl (fX12_countOf_ok (d := d) (by omega) ha0 ep13) rfl rfl ?_
      obtain ⟨x14, hx14, h⟩ := xLet_el h
      refine fx_iadd dX12_second_203 rfl hx14 ?_
      refine fx_istore_n (ls2 := [some (.ref a0), some (.int l1), some (.int l2), some (.int x14)]) dX12_second_204 rfl rfl rfl ?_
      refine fx_aload_n dX12_second_205 rfl rfl ?_
      refine gx_getr dX12_second_206 rfl fd_12_7 ha0.1 rfl rfl ?_
      refine fx_bipush (x := 10) dX12_second_209 rfl (by decide) ?_
      refine fx_iload_n dX12_second_211 rfl rfl ?_
      refine fx_ldc_w dX12_second_212 rfl ck_12_317 ?_
      refine fx_icmp_le (t := 224) dX12_second_215 rfl rfl (fun hc15 => ?_) (fun hc15 => ?_)
      · rw [if_pos hc15] at h
        refine fx_iload_n dX12_second_224 rfl rfl ?_
        exact fX12_second_225_ok (o3 := some (.int x14)) hd ha0 ih ha0.2.1 rfl h
      · rw [if_neg hc15] at h
        refine fx_ldc_w dX12_second_218 rfl ck_12_317 ?_
        refine fx_goto (t := 225) dX12_second_221 rfl rfl ?_
        exact fX12_second_225_ok (o3 := some (.int x14)) hd ha0 ih ha0.2.1 rfl h
def fX12_second_90 (a0 : Nat) : Nat → Int32 → Int32 → xMem → Option xMem
  | 0, _, _, _ => none
  | fuel + 1, l1, l2, m => bif xIn (2 : Int32) 1610 then xLet (m.1 (a0 + 1) (2 : Int32).toNatClampNeg) fun x1 => if x1 ≤ l2 then fX12_second_172 a0 xFuel l1 (0 : Int32) m else (fX12_linkOf a0 l2 (0 : Int32) m).bind fun p4 => if (2 : Int32) ≤ p4.1 then (fX12_linkOf a0 l2 (4 : Int32) p4.2).bind fun p6 => bif !decide (p6.1 = 0) then xLet (xRem l1 p6.1) fun x7 => if ¬ x7 = (0 : Int32) then fX12_second_164 a0 (fX12_second_90 a0 fuel) l1 l2 p6.2 else (fX12_linkOf a0 l2 (1 : Int32) p6.2).bind fun p10 => (fX12_linkOf a0 l2 (2 : Int32) p10.2).bind fun p11 => (fX12_lifts a0 l2 p10.1 p11.1 p11.2).bind fun p12 => (fX12_linkOf a0 l2 (2 : Int32) p12).bind fun p13 => (fX12_linkOf a0 l2 (1 : Int32) p13.2).bind fun p14 => (fX12_lifts a0 l2 p13.1 p14.1 p14.2).bind fun p15 => fX12_second_164 a0 (fX12_second_90 a0 fuel) l1 l2 p15 else none else (fX12_stairs a0 l2 l1 p4.2).bind fun p16 => fX12_second_164 a0 (fX12_second_90 a0 fuel) l1 l2 p16 else none
set_option maxRecDepth 4000 in
theorem fX12_second_90_ok {a0 : Nat} {d : Nat} (hd : 5 ≤ d) (ha0 : isModel a0) : ∀ (fuel : Nat) (l1 : Int32) (l2 : Int32) (o3 : Option Value) (q3 : xNoD o3 = true) (m : xMem) (r : xMem), fX12_second_90 a0 fuel l1 l2 m = some r → xFx hh_164 cX12_second d 90 [some (.ref a0), some (.int l1), some (.int l2), o3] [] (xLay m) 0 0 none (xLay r) := by
  intro fuel
  induction fuel with
  | zero => intro l1 l2 o3 q3 m r  h; cases h
  | succ fuel ih =>
    intro l1 l2 o3 q3 m r  h
    unfold fX12_second_90 at h
    refine fx_iload_n dX12_second_90 rfl rfl ?_
    refine fx_aload_n dX12_second_91 rfl rfl ?_
    refine gx_getr dX12_second_92 rfl fd_12_7 ha0.1 rfl rfl ?_
    refine fx_iconst (x := 2) dX12_second_95 rfl (by decide) ?_
    obtain ⟨hj2, h⟩ := xChk_el h
    obtain ⟨x1, hx1, h⟩ := xLet_el h
    refine gx_iaload dX12_second_96 rfl ha0.2.1 hj2 hx1 ?_
    refine fx_icmp_ge (t := 170) dX12_second_97 rfl rfl (fun hc3 => ?_) (fun hc3 => ?_)
    · rw [if_pos hc3] at h
      refine fx_iconst (x := 0) dX12_second_170 rfl (by decide) ?_
      refine fx_istore_n (ls2 := [some (.ref a0), some (.int l1), some (.int (0 : Int32)), o3]) dX12_second_171 rfl rfl rfl ?_
      exact fX12_second_172_ok hd ha0 xFuel l1 (0 : Int32) (o3) q3 m r h
    · rw [if_neg hc3] at h
      refine fx_aload_n dX12_second_100 rfl rfl ?_
      refine fx_iload_n dX12_second_101 rfl rfl ?_
      refine fx_iconst (x := 0) dX12_second_102 rfl (by decide) ?_
      obtain ⟨p4, ep4, h⟩ := xBind_el h
      refine gx_callv (as := [.int l2, .int (0 : Int32)]) (r := []) rfl dX12_second_103 ca_12_103 rfl me_34 rfl rfl rfl rfl (ha0.1) rfl (fX12_linkOf_ok (d := d) (by omega) ha0 ep4) rfl rfl ?_
      refine fx_iconst (x := 2) dX12_second_106 rfl (by decide) ?_
      refine fx_icmp_ge (t := 119) dX12_second_107 rfl rfl (fun hc5 => ?_) (fun hc5 => ?_)
      · rw [if_pos hc5] at h
        refine fx_iload_n dX12_second_119 rfl rfl ?_
        refine fx_aload_n dX12_second_120 rfl rfl ?_
        refine fx_iload_n dX12_second_121 rfl rfl ?_
        refine fx_iconst (x := 4) dX12_second_122 rfl (by decide) ?_
        obtain ⟨p6, ep6, h⟩ := xBind_el h
        refine gx_callv (as := [.int l2, .int (4 : Int32)]) (r := [.int l1]) rfl dX12_second_123 ca_12_103 rfl me_34 rfl rfl rfl rfl (ha0.1) rfl (fX12_linkOf_ok (d := d) (by omega) ha0 ep6) rfl rfl ?_
        obtain ⟨hz8, h⟩ := xChk_el h
        obtain ⟨x7, hx7, h⟩ := xLet_el h
        refine fx_irem dX12_second_126 rfl (by simpa using hz8) hx7 ?_
        refine fx_if_ne (t := 164) dX12_second_127 rfl rfl (fun hc9 => ?_) (fun hc9 => ?_)
        · rw [if_pos hc9] at h
          exact fX12_second_164_ok (o3 := o3) hd ha0 ih q3 h
        · rw [if_neg hc9] at h
          refine fx_aload_n dX12_second_130 rfl rfl ?_
          refine fx_iload_n dX12_second_131 rfl rfl ?_
          refine fx_aload_n dX12_second_132 rfl rfl ?_
          refine fx_iload_n dX12_second_133 rfl rfl ?_
          refine fx_iconst (x := 1) dX12_second_134 rfl (by decide) ?_
          obtain ⟨p10, ep10, h⟩ := xBind_el h
          refine gx_callv (as := [.int l2, .int (1 : Int32)]) (r := [.int l2, .ref a0]) rfl dX12_second_135 ca_12_103 rfl me_34 rfl rfl rfl rfl (ha0.1) rfl (fX12_linkOf_ok (d := d) (by omega) ha0 ep10) rfl rfl ?_
          refine fx_aload_n dX12_second_138 rfl rfl ?_
          refine fx_iload_n dX12_second_139 rfl rfl ?_
          refine fx_iconst (x := 2) dX12_second_140 rfl (by decide) ?_
          obtain ⟨p11, ep11, h⟩ := xBind_el h
          refine gx_callv (as := [.int l2, .int (2 : Int32)]) (r := [.int p10.1, .int l2, .ref a0]) rfl dX12_second_141 ca_12_103 rfl me_34 rfl rfl rfl rfl (ha0.1) rfl (fX12_linkOf_ok (d := d) (by omega) ha0 ep11) rfl rfl ?_
          obtain ⟨p12, ep12, h⟩ := xBind_el h
          refine gx_callv (as := [.int l2, .int p10.1, .int p11.1]) (r := []) rfl dX12_second_144 ca_12_371 rfl me_191 rfl rfl rfl rfl (ha0.1) rfl (fX12_lifts_ok (d := d) (by omega) ha0 ep12) rfl rfl ?_
          refine fx_aload_n dX12_second_147 rfl rfl ?_
          refine fx_iload_n dX12_second_148 rfl rfl ?_
          refine fx_aload_n dX12_second_149 rfl rfl ?_
          refine fx_iload_n dX12_second_150 rfl rfl ?_
          refine fx_iconst (x := 2) dX12_second_151 rfl (by decide) ?_
          obtain ⟨p13, ep13, h⟩ := xBind_el h
          refine gx_callv (as := [.int l2, .int (2 : Int32)]) (r := [.int l2, .ref a0]) rfl dX12_second_152 ca_12_103 rfl me_34 rfl rfl rfl rfl (ha0.1) rfl (fX12_linkOf_ok (d := d) (by omega) ha0 ep13) rfl rfl ?_
          refine fx_aload_n dX12_second_155 rfl rfl ?_
          refine fx_iload_n dX12_second_156 rfl rfl ?_
          refine fx_iconst (x := 1) dX12_second_157 rfl (by decide) ?_
          obtain ⟨p14, ep14, h⟩ := xBind_el h
          refine gx_callv (as := [.int l2, .int (1 : Int32)]) (r := [.int p13.1, .int l2, .ref a0]) rfl dX12_second_158 ca_12_103 rfl me_34 rfl rfl rfl rfl (ha0.1) rfl (fX12_linkOf_ok (d := d) (by omega) ha0 ep14) rfl rfl ?_
          obtain ⟨p15, ep15, h⟩ := xBind_el h
          refine gx_callv (as := [.int l2, .int p13.1, .int p14.1]) (r := []) rfl dX12_second_161 ca_12_371 rfl me_191 rfl rfl rfl rfl (ha0.1) rfl (fX12_lifts_ok (d := d) (by omega) ha0 ep15) rfl rfl ?_
          exact fX12_second_164_ok (o3 := o3) hd ha0 ih q3 h
      · rw [if_neg hc5] at h
        refine fx_aload_n dX12_second_110 rfl rfl ?_
        refine fx_iload_n dX12_second_111 rfl rfl ?_
        refine fx_iload_n dX12_second_112 rfl rfl ?_
        obtain ⟨p16, ep16, h⟩ := xBind_el h
        refine gx_callv (as := [.int l2, .int l1]) (r := []) rfl dX12_second_113 ca_12_368 rfl me_180 rfl rfl rfl rfl (ha0.1) rfl (fX12_stairs_ok (d := d) (by omega) ha0 ep16) rfl rfl ?_
        refine fx_goto (t := 164) dX12_second_116 rfl rfl ?_
        exact fX12_second_164_ok (o3 := o3) hd ha0 ih q3 h
def fX12_second_37 (a0 : Nat) : Nat → Int32 → Int32 → xMem → Option xMem
  | 0, _, _, _ => none
  | fuel + 1, l1, l2, m => bif xIn (2 : Int32) 1610 then xLet (m.1 (a0 + 1) (2 : Int32).toNatClampNeg) fun x1 => if x1 ≤ l2 then (fX12_allRoutes a0 m).bind fun p4 => fX12_second_90 a0 xFuel l1 (0 : Int32) p4 else (fX12_linkOf a0 l2 (0 : Int32) m).bind fun p5 => if (2 : Int32) ≤ p5.1 then fX12_second_78 a0 (fX12_second_37 a0 fuel) l1 l2 p5.2 else (fX12_loadOf a0 l2 p5.2).bind fun p7 => if ¬ p7.1 = (0 : Int32) then fX12_second_78 a0 (fX12_second_37 a0 fuel) l1 l2 p7.2 else (fX12_linkOf a0 l2 (7 : Int32) p7.2).bind fun p9 => (fX12_tells a0 l2 (5 : Int32) p9.1 p9.2).bind fun p10 => fX12_second_78 a0 (fX12_second_37 a0 fuel) l1 l2 p10 else none
set_option maxRecDepth 4000 in
theorem fX12_second_37_ok {a0 : Nat} {d : Nat} (hd : 5 ≤ d) (ha0 : isModel a0) : ∀ (fuel : Nat) (l1 : Int32) (l2 : Int32) (o3 : Option Value) (q3 : xNoD o3 = true) (m : xMem) (r : xMem), fX12_second_37 a0 fuel l1 l2 m = some r → xFx hh_164 cX12_second d 37 [some (.ref a0), some (.int l1), some (.int l2), o3] [] (xLay m) 0 0 none (xLay r) := by
  intro fuel
  induction fuel with
  | zero => intro l1 l2 o3 q3 m r  h; cases h
  | succ fuel ih =>
    intro l1 l2 o3 q3 m r  h
    unfold fX12_second_37 at h
    refine fx_iload_n dX12_second_37 rfl rfl ?_
    refine fx_aload_n dX12_second_38 rfl rfl ?_
    refine gx_getr dX12_second_39 rfl fd_12_7 ha0.1 rfl rfl ?_
    refine fx_iconst (x := 2) dX12_second_42 rfl (by decide) ?_
    obtain ⟨hj2, h⟩ := xChk_el h
    obtain ⟨x1, hx1, h⟩ := xLet_el h
    refine gx_iaload dX12_second_43 rfl ha0.2.1 hj2 hx1 ?_
    refine fx_icmp_ge (t := 84) dX12_second_44 rfl rfl (fun hc3 => ?_) (fun hc3 => ?_)
    · rw [if_pos hc3] at h
      refine fx_aload_n dX12_second_84 rfl rfl ?_
      obtain ⟨p4, ep4, h⟩ := xBind_el h
      refine gx_callv (as := []) (r := []) rfl dX12_second_85 ca_12_365 rfl me_175 rfl rfl rfl rfl (ha0.1) rfl (fX12_allRoutes_ok (d := d) (by omega) ha0 ep4) rfl rfl ?_
      refine fx_iconst (x := 0) dX12_second_88 rfl (by decide) ?_
      refine fx_istore_n (ls2 := [some (.ref a0), some (.int l1), some (.int (0 : Int32)), o3]) dX12_second_89 rfl rfl rfl ?_
      exact fX12_second_90_ok hd ha0 xFuel l1 (0 : Int32) (o3) q3 p4 r h
    · rw [if_neg hc3] at h
      refine fx_aload_n dX12_second_47 rfl rfl ?_
      refine fx_iload_n dX12_second_48 rfl rfl ?_
      refine fx_iconst (x := 0) dX12_second_49 rfl (by decide) ?_
      obtain ⟨p5, ep5, h⟩ := xBind_el h
      refine gx_callv (as := [.int l2, .int (0 : Int32)]) (r := []) rfl dX12_second_50 ca_12_103 rfl me_34 rfl rfl rfl rfl (ha0.1) rfl (fX12_linkOf_ok (d := d) (by omega) ha0 ep5) rfl rfl ?_
      refine fx_iconst (x := 2) dX12_second_53 rfl (by decide) ?_
      refine fx_icmp_ge (t := 78) dX12_second_54 rfl rfl (fun hc6 => ?_) (fun hc6 => ?_)
      · rw [if_pos hc6] at h
        exact fX12_second_78_ok (o3 := o3) hd ha0 ih q3 h
      · rw [if_neg hc6] at h
        refine fx_aload_n dX12_second_57 rfl rfl ?_
        refine fx_iload_n dX12_second_58 rfl rfl ?_
        obtain ⟨p7, ep7, h⟩ := xBind_el h
        refine gx_callv (as := [.int l2]) (r := []) rfl dX12_second_59 ca_12_117 rfl me_35 rfl rfl rfl rfl (ha0.1) rfl (fX12_loadOf_ok (d := d) (by omega) ha0 ep7) rfl rfl ?_
        refine fx_if_ne (t := 78) dX12_second_62 rfl rfl (fun hc8 => ?_) (fun hc8 => ?_)
        · rw [if_pos hc8] at h
          exact fX12_second_78_ok (o3 := o3) hd ha0 ih q3 h
        · rw [if_neg hc8] at h
          refine fx_aload_n dX12_second_65 rfl rfl ?_
          refine fx_iload_n dX12_second_66 rfl rfl ?_
          refine fx_iconst (x := 5) dX12_second_67 rfl (by decide) ?_
          refine fx_aload_n dX12_second_68 rfl rfl ?_
          refine fx_iload_n dX12_second_69 rfl rfl ?_
          refine fx_bipush (x := 7) dX12_second_70 rfl (by decide) ?_
          obtain ⟨p9, ep9, h⟩ := xBind_el h
          refine gx_callv (as := [.int l2, .int (7 : Int32)]) (r := [.int (5 : Int32), .int l2, .ref a0]) rfl dX12_second_72 ca_12_103 rfl me_34 rfl rfl rfl rfl (ha0.1) rfl (fX12_linkOf_ok (d := d) (by omega) ha0 ep9) rfl rfl ?_
          obtain ⟨p10, ep10, h⟩ := xBind_el h
          refine gx_callv (as := [.int l2, .int (5 : Int32), .int p9.1]) (r := []) rfl dX12_second_75 ca_12_110 rfl me_26 rfl rfl rfl rfl (ha0.1) rfl (fX12_tells_ok (d := d) (by omega) ha0 ep10) rfl rfl ?_
          exact fX12_second_78_ok (o3 := o3) hd ha0 ih q3 h
def fX12_second_14 (a0 : Nat) : Nat → Int32 → Int32 → xMem → Option xMem
  | 0, _, _, _ => none
  | fuel + 1, l1, l2, m => bif xIn (1 : Int32) 1610 then xLet (m.1 (a0 + 1) (1 : Int32).toNatClampNeg) fun x1 => if x1 ≤ l2 then fX12_second_37 a0 xFuel l1 (0 : Int32) m else (fX12_lets a0 l2 m).bind fun p4 => xLet (l2 + (1 : Int32)) fun x5 => fX12_second_14 a0 fuel l1 x5 p4 else none
set_option maxRecDepth 4000 in
theorem fX12_second_14_ok {a0 : Nat} {d : Nat} (hd : 5 ≤ d) (ha0 : isModel a0) : ∀ (fuel : Nat) (l1 : Int32) (l2 : Int32) (o3 : Option Value) (q3 : xNoD o3 = true) (m : xMem) (r : xMem), fX12_second_14 a0 fuel l1 l2 m = some r → xFx hh_164 cX12_second d 14 [some (.ref a0), some (.int l1), some (.int l2), o3] [] (xLay m) 0 0 none (xLay r) := by
  intro fuel
  induction fuel with
  | zero => intro l1 l2 o3 q3 m r  h; cases h
  | succ fuel ih =>
    intro l1 l2 o3 q3 m r  h
    unfold fX12_second_14 at h
    refine fx_iload_n dX12_second_14 rfl rfl ?_
    refine fx_aload_n dX12_second_15 rfl rfl ?_
    refine gx_getr dX12_second_16 rfl fd_12_7 ha0.1 rfl rfl ?_
    refine fx_iconst (x := 1) dX12_second_19 rfl (by decide) ?_
    obtain ⟨hj2, h⟩ := xChk_el h
    obtain ⟨x1, hx1, h⟩ := xLet_el h
    refine gx_iaload dX12_second_20 rfl ha0.2.1 hj2 hx1 ?_
    refine fx_icmp_ge (t := 35) dX12_second_21 rfl rfl (fun hc3 => ?_) (fun hc3 => ?_)
    · rw [if_pos hc3] at h
      refine fx_iconst (x := 0) dX12_second_35 rfl (by decide) ?_
      refine fx_istore_n (ls2 := [some (.ref a0), some (.int l1), some (.int (0 : Int32)), o3]) dX12_second_36 rfl rfl rfl ?_
      exact fX12_second_37_ok hd ha0 xFuel l1 (0 : Int32) (o3) q3 m r h
    · rw [if_neg hc3] at h
      refine fx_aload_n dX12_second_24 rfl rfl ?_
      refine fx_iload_n dX12_second_25 rfl rfl ?_
      obtain ⟨p4, ep4, h⟩ := xBind_el h
      refine gx_callv (as := [.int l2]) (r := []) rfl dX12_second_26 ca_12_362 rfl me_174 rfl rfl rfl rfl (ha0.1) rfl (fX12_lets_ok (d := d) (by omega) ha0 ep4) rfl rfl ?_
      obtain ⟨x5, hx5, h⟩ := xLet_el h
      refine fx_iinc (ls2 := [some (.ref a0), some (.int l1), some (.int x5), o3]) dX12_second_29 rfl rfl rfl hx5 rfl ?_
      refine fx_goto (t := 14) dX12_second_32 rfl rfl ?_
      exact ih l1 x5 (o3) q3 p4 r h
def fX12_second_0 (a0 : Nat) (m : xMem) : Option xMem := bif xIn (0 : Int32) 1610 then xLet (m.1 (a0 + 1) (0 : Int32).toNatClampNeg) fun x1 => (fX12_bursts a0 x1 m).bind fun p3 => fX12_second_14 a0 xFuel x1 (0 : Int32) p3 else none
set_option maxRecDepth 4000 in
theorem fX12_second_0_ok {a0 : Nat} {d : Nat} (hd : 5 ≤ d) (ha0 : isModel a0) {o1 : Option Value} {o2 : Option Value} {o3 : Option Value} {m : xMem} {r : xMem} (q1 : xNoD o1 = true) (q2 : xNoD o2 = true) (q3 : xNoD o3 = true) (h : fX12_second_0 a0 m = some r) : xFx hh_164 cX12_second d 0 [some (.ref a0), o1, o2, o3] [] (xLay m) 0 0 none (xLay r) := by
  unfold fX12_second_0 at h
  refine fx_aload_n dX12_second_0 rfl rfl ?_
  refine gx_getr dX12_second_1 rfl fd_12_7 ha0.1 rfl rfl ?_
  refine fx_iconst (x := 0) dX12_second_4 rfl (by decide) ?_
  obtain ⟨hj2, h⟩ := xChk_el h
  obtain ⟨x1, hx1, h⟩ := xLet_el h
  refine gx_iaload dX12_second_5 rfl ha0.2.1 hj2 hx1 ?_
  refine fx_istore_n (ls2 := [some (.ref a0), some (.int x1), o2, o3]) dX12_second_6 rfl rfl rfl ?_
  refine fx_aload_n dX12_second_7 rfl rfl ?_
  refine fx_iload_n dX12_second_8 rfl rfl ?_
  obtain ⟨p3, ep3, h⟩ := xBind_el h
  refine gx_callv (as := [.int x1]) (r := []) rfl dX12_second_9 ca_12_359 rfl me_165 rfl rfl rfl rfl (ha0.1) rfl (fX12_bursts_ok (d := d) (by omega) ha0 ep3) rfl rfl ?_
  refine fx_iconst (x := 0) dX12_second_12 rfl (by decide) ?_
  refine fx_istore_n (ls2 := [some (.ref a0), some (.int x1), some (.int (0 : Int32)), o3]) dX12_second_13 rfl rfl rfl ?_
  exact fX12_second_14_ok hd ha0 xFuel x1 (0 : Int32) (o3) q3 p3 r h
def fX12_second (a0 : Nat) (m : xMem) : Option xMem := fX12_second_0 a0  m
theorem fX12_second_ok {a0 : Nat} {m : xMem} {r : xMem} {d : Nat} (hd : 6 ≤ d) (ha0 : isModel a0) (h : fX12_second a0 m = some r) : xEx d 164 [.ref a0] (xLay m) none (xLay r) := by
  obtain ⟨d, rfl⟩ : ∃ q, d = q + 1 := ⟨d - 1, by omega⟩
  exact xEx_of me_164 rfl (fX12_second_0_ok (d := d) (o1 := none) (o2 := none) (o3 := none) (by omega) ha0 rfl rfl rfl h)
def fX12_run_12 (a0 : Nat) (a1 : Int32) : Nat → Int32 → xMem → Option (Int32 × xMem)
  | 0, _, _ => none
  | fuel + 1, l2, m => if a1 ≤ l2 then bif xIn (0 : Int32) 1610 then xLet (m.1 (a0 + 1) (0 : Int32).toNatClampNeg) fun x2 => some (x2, m) else none else (fX12_second a0 m).bind fun p4 => xLet (l2 + (1 : Int32)) fun x5 => fX12_run_12 a0 a1 fuel x5 p4
set_option maxRecDepth 4000 in
theorem fX12_run_12_ok {a0 : Nat} {a1 : Int32} {d : Nat} (hd : 6 ≤ d) (ha0 : isModel a0) : ∀ (fuel : Nat) (l2 : Int32) (m : xMem) (r : (Int32 × xMem)), fX12_run_12 a0 a1 fuel l2 m = some r → xFx hh_162 cX12_run d 12 [some (.ref a0), some (.int a1), some (.int l2)] [] (xLay m) 0 0 (some (.int r.1)) (xLay r.2) := by
  intro fuel
  induction fuel with
  | zero => intro l2  m r  h; cases h
  | succ fuel ih =>
    intro l2  m r  h
    unfold fX12_run_12 at h
    refine fx_iload_n dX12_run_12 rfl rfl ?_
    refine fx_iload_n dX12_run_13 rfl rfl ?_
    refine fx_icmp_ge (t := 27) dX12_run_14 rfl rfl (fun hc1 => ?_) (fun hc1 => ?_)
    · rw [if_pos hc1] at h
      refine fx_aload_n dX12_run_27 rfl rfl ?_
      refine gx_getr dX12_run_28 rfl fd_12_7 ha0.1 rfl rfl ?_
      refine fx_iconst (x := 0) dX12_run_31 rfl (by decide) ?_
      obtain ⟨hj3, h⟩ := xChk_el h
      obtain ⟨x2, hx2, h⟩ := xLet_el h
      refine gx_iaload dX12_run_32 rfl ha0.2.1 hj3 hx2 ?_
      cases h
      exact fx_ireturn dX12_run_33 rfl rfl
    · rw [if_neg hc1] at h
      refine fx_aload_n dX12_run_17 rfl rfl ?_
      obtain ⟨p4, ep4, h⟩ := xBind_el h
      refine gx_callv (as := []) (r := []) rfl dX12_run_18 ca_12_380 rfl me_164 rfl rfl rfl rfl (ha0.1) rfl (fX12_second_ok (d := d) (by omega) ha0 ep4) rfl rfl ?_
      obtain ⟨x5, hx5, h⟩ := xLet_el h
      refine fx_iinc (ls2 := [some (.ref a0), some (.int a1), some (.int x5)]) dX12_run_21 rfl rfl rfl hx5 rfl ?_
      refine fx_goto (t := 12) dX12_run_24 rfl rfl ?_
      exact ih x5 p4 r h
def fX12_run_0 (a0 : Nat) (a1 : Int32) (m : xMem) : Option (Int32 × xMem) := (fX12_isRun a0 a1 m).bind fun p1 => if ¬ p1.1 = (0 : Int32) then fX12_run_12 a0 a1 xFuel (0 : Int32) p1.2 else some ((-1 : Int32), p1.2)
set_option maxRecDepth 4000 in
theorem fX12_run_0_ok {a0 : Nat} {a1 : Int32} {d : Nat} (hd : 6 ≤ d) (ha0 : isModel a0) {o2 : Option Value} {m : xMem} {r : (Int32 × xMem)} (q2 : xNoD o2 = true) (h : fX12_run_0 a0 a1 m = some r) : xFx hh_162 cX12_run d 0 [some (.ref a0), some (.int a1), o2] [] (xLay m) 0 0 (some (.int r.1)) (xLay r.2) := by
  unfold fX12_run_0 at h
  refine fx_aload_n dX12_run_0 rfl rfl ?_
  refine fx_iload_n dX12_run_1 rfl rfl ?_
  obtain ⟨p1, ep1, h⟩ := xBind_el h
  refine gx_callv (as := [.int a1]) (r := []) rfl dX12_run_2 ca_12_377 rfl me_163 rfl rfl rfl rfl (ha0.1) rfl (fX12_isRun_ok (d := d) (by omega) ha0 ep1) rfl rfl ?_
  refine fx_if_ne (t := 10) dX12_run_5 rfl rfl (fun hc2 => ?_) (fun hc2 => ?_)
  · rw [if_pos hc2] at h
    refine fx_iconst (x := 0) dX12_run_10 rfl (by decide) ?_
    refine fx_istore_n (ls2 := [some (.ref a0), some (.int a1), some (.int (0 : Int32))]) dX12_run_11 rfl rfl rfl ?_
    exact fX12_run_12_ok hd ha0 xFuel (0 : Int32) p1.2 r h
  · rw [if_neg hc2] at h
    refine fx_iconst (x := -1) dX12_run_8 rfl (by decide) ?_
    cases h
    exact fx_ireturn dX12_run_9 rfl rfl
def fX12_run (a0 : Nat) (a1 : Int32) (m : xMem) : Option (Int32 × xMem) := fX12_run_0 a0 a1  m
theorem fX12_run_ok {a0 : Nat} {a1 : Int32} {m : xMem} {r : (Int32 × xMem)} {d : Nat} (hd : 7 ≤ d) (ha0 : isModel a0) (h : fX12_run a0 a1 m = some r) : xEx d 162 [.ref a0, .int a1] (xLay m) (some (.int r.1)) (xLay r.2) := by
  obtain ⟨d, rfl⟩ : ∃ q, d = q + 1 := ⟨d - 1, by omega⟩
  exact xEx_of me_162 rfl (fX12_run_0_ok (d := d) (o2 := none) (by omega) ha0 rfl h)
def fX11_of_0 (a0 : Nat) (a1 : Int32) (a2 : Int32) (m : xMem) : Option (Int32 × xMem) := (fX9_hasHall (a0 + 1) a1 m).bind fun p1 => if ¬ p1.1 = (0 : Int32) then bif xIn a1 6 then xLet (a0 + 1 + 15 + 3 * a1.toNatClampNeg) fun r4 => xLet (a2 - (10 : Int32)) fun x5 => (fX9_hasHall (a0 + 1) x5 p1.2).bind fun p6 => if p6.1 = (0 : Int32) then xLet (a2 - (20 : Int32)) fun x8 => (fX9_hasHall (a0 + 1) x8 p6.2).bind fun p9 => if p9.1 = (0 : Int32) then if a2 = (0 : Int32) then xLet (p9.2.1 r4 4) fun x12 => some (x12, p9.2) else if a2 = (1 : Int32) then xLet (p9.2.1 r4 5) fun x14 => some (x14, p9.2) else if a2 = (2 : Int32) then xLet (p9.2.1 r4 6) fun x16 => some (x16, p9.2) else if a2 = (3 : Int32) then xLet (p9.2.1 r4 7) fun x18 => some (x18, p9.2) else if a2 = (4 : Int32) then xLet (p9.2.1 r4 3) fun x20 => some (x20, p9.2) else some ((-1 : Int32), p9.2) else xLet ((6 : Int32) + a2) fun x21 => xLet (x21 - (20 : Int32)) fun x22 => bif xIn x22 12 then xLet (p9.2.1 (r4 + 1) x22.toNatClampNeg) fun x23 => some (x23, p9.2) else none else xLet (a2 - (10 : Int32)) fun x25 => bif xIn x25 12 then xLet (p6.2.1 (r4 + 1) x25.toNatClampNeg) fun x26 => some (x26, p6.2) else none else none else some ((-1 : Int32), p1.2)
set_option maxRecDepth 4000 in
theorem fX11_of_0_ok {a0 : Nat} {a1 : Int32} {a2 : Int32} {d : Nat} (hd : 1 ≤ d) (ha0 : isMS a0) {o3 : Option Value} {m : xMem} {r : (Int32 × xMem)} (q3 : xNoD o3 = true) (h : fX11_of_0 a0 a1 a2 m = some r) : xFx hh_193 cX11_of d 0 [some (.ref a0), some (.int a1), some (.int a2), o3] [] (xLay m) 0 0 (some (.int r.1)) (xLay r.2) := by
  unfold fX11_of_0 at h
  refine fx_aload_n dX11_of_0 rfl rfl ?_
  refine gx_getr dX11_of_1 rfl fd_11_10 ha0.1 rfl rfl ?_
  refine fx_iload_n dX11_of_4 rfl rfl ?_
  obtain ⟨p1, ep1, h⟩ := xBind_el h
  refine gx_callv (as := [.int a1]) (r := []) rfl dX11_of_5 ca_11_65 rfl me_20 rfl rfl rfl rfl (ha0.2.1.1) rfl (fX9_hasHall_ok (d := d) (by omega) ha0.2.1 ep1) rfl rfl ?_
  refine fx_if_ne (t := 13) dX11_of_8 rfl rfl (fun hc2 => ?_) (fun hc2 => ?_)
  · rw [if_pos hc2] at h
    refine fx_aload_n dX11_of_13 rfl rfl ?_
    refine gx_getr dX11_of_14 rfl fd_11_10 ha0.1 rfl rfl ?_
    refine gx_getr dX11_of_17 rfl fd_11_55 ha0.2.1.1 rfl rfl ?_
    refine fx_iload_n dX11_of_20 rfl rfl ?_
    obtain ⟨hj3, h⟩ := xChk_el h
    obtain ⟨r4, hr4, h⟩ := xLet_el h
    refine gx_aaload (t := 4) dX11_of_21 rfl ha0.2.1.2.1 rfl hj3 ((xRef_at (sl_9_0 (a0 + 1)) hj3).trans (congrArg some hr4)) ?_
    have hpr4 : isHall r4 := by rw [← hr4]; exact ha0.2.1.2.2.2.2.2.2.2.1 _ (xIn_lt hj3)
    refine fx_astore_n (ls2 := [some (.ref a0), some (.int a1), some (.int a2), some (.ref r4)]) dX11_of_22 rfl rfl rfl ?_
    refine fx_aload_n dX11_of_23 rfl rfl ?_
    refine gx_getr dX11_of_24 rfl fd_11_10 ha0.1 rfl rfl ?_
    refine fx_iload_n dX11_of_27 rfl rfl ?_
    refine fx_bipush (x := 10) dX11_of_28 rfl (by decide) ?_
    obtain ⟨x5, hx5, h⟩ := xLet_el h
    refine fx_isub dX11_of_30 rfl hx5 ?_
    obtain ⟨p6, ep6, h⟩ := xBind_el h
    refine gx_callv (as := [.int x5]) (r := []) rfl dX11_of_31 ca_11_65 rfl me_20 rfl rfl rfl rfl (ha0.2.1.1) rfl (fX9_hasHall_ok (d := d) (by omega) ha0.2.1 ep6) rfl rfl ?_
    refine fx_if_eq (t := 47) dX11_of_34 rfl rfl (fun hc7 => ?_) (fun hc7 => ?_)
    · rw [if_pos hc7] at h
      refine fx_aload_n dX11_of_47 rfl rfl ?_
      refine gx_getr dX11_of_48 rfl fd_11_10 ha0.1 rfl rfl ?_
      refine fx_iload_n dX11_of_51 rfl rfl ?_
      refine fx_bipush (x := 20) dX11_of_52 rfl (by decide) ?_
      obtain ⟨x8, hx8, h⟩ := xLet_el h
      refine fx_isub dX11_of_54 rfl hx8 ?_
      obtain ⟨p9, ep9, h⟩ := xBind_el h
      refine gx_callv (as := [.int x8]) (r := []) rfl dX11_of_55 ca_11_65 rfl me_20 rfl rfl rfl rfl (ha0.2.1.1) rfl (fX9_hasHall_ok (d := d) (by omega) ha0.2.1 ep9) rfl rfl ?_
      refine fx_if_eq (t := 74) dX11_of_58 rfl rfl (fun hc10 => ?_) (fun hc10 => ?_)
      · rw [if_pos hc10] at h
        refine fx_iload_n dX11_of_74 rfl rfl ?_
        by_cases hc11 : a2 = (0 : Int32)
        · rw [if_pos hc11] at h
          refine fx_tabIn (t := 108) dX11_of_75 rfl (by rw [hc11]; decide) (by rw [hc11]; decide) (by rw [hc11]; rfl) rfl ?_
          refine fx_aload_n dX11_of_108 rfl rfl ?_
          obtain ⟨x12, hx12, h⟩ := xLet_el h
          refine gx_get dX11_of_109 rfl fd_11_178 hpr4.1 rfl rfl hx12 ?_
          cases h
          exact fx_ireturn dX11_of_112 rfl rfl
        · rw [if_neg hc11] at h
          by_cases hc13 : a2 = (1 : Int32)
          · rw [if_pos hc13] at h
            refine fx_tabIn (t := 113) dX11_of_75 rfl (by rw [hc13]; decide) (by rw [hc13]; decide) (by rw [hc13]; rfl) rfl ?_
            refine fx_aload_n dX11_of_113 rfl rfl ?_
            obtain ⟨x14, hx14, h⟩ := xLet_el h
            refine gx_get dX11_of_114 rfl fd_11_181 hpr4.1 rfl rfl hx14 ?_
            cases h
            exact fx_ireturn dX11_of_117 rfl rfl
          · rw [if_neg hc13] at h
            by_cases hc15 : a2 = (2 : Int32)
            · rw [if_pos hc15] at h
              refine fx_tabIn (t := 118) dX11_of_75 rfl (by rw [hc15]; decide) (by rw [hc15]; decide) (by rw [hc15]; rfl) rfl ?_
              refine fx_aload_n dX11_of_118 rfl rfl ?_
              obtain ⟨x16, hx16, h⟩ := xLet_el h
              refine gx_get dX11_of_119 rfl fd_11_184 hpr4.1 rfl rfl hx16 ?_
              cases h
              exact fx_ireturn dX11_of_122 rfl rfl
            · rw [if_neg hc15] at h
              by_cases hc17 : a2 = (3 : Int32)
              · rw [if_pos hc17] at h
                refine fx_tabIn (t := 123) dX11_of_75 rfl (by rw [hc17]; decide) (by rw [hc17]; decide) (by rw [hc17]; rfl) rfl ?_
                refine fx_aload_n dX11_of_123 rfl rfl ?_
                obtain ⟨x18, hx18, h⟩ := xLet_el h
                refine gx_get dX11_of_124 rfl fd_11_187 hpr4.1 rfl rfl hx18 ?_
                cases h
                exact fx_ireturn dX11_of_127 rfl rfl
              · rw [if_neg hc17] at h
                by_cases hc19 : a2 = (4 : Int32)
                · rw [if_pos hc19] at h
                  refine fx_tabIn (t := 128) dX11_of_75 rfl (by rw [hc19]; decide) (by rw [hc19]; decide) (by rw [hc19]; rfl) rfl ?_
                  refine fx_aload_n dX11_of_128 rfl rfl ?_
                  obtain ⟨x20, hx20, h⟩ := xLet_el h
                  refine gx_get dX11_of_129 rfl fd_11_69 hpr4.1 rfl rfl hx20 ?_
                  cases h
                  exact fx_ireturn dX11_of_132 rfl rfl
                · rw [if_neg hc19] at h
                  have e0 : a2.toInt ≠ 0 := fun q => hc11 (Int32.toInt_inj.mp (q.trans (by decide)))
                  have e1 : a2.toInt ≠ 1 := fun q => hc13 (Int32.toInt_inj.mp (q.trans (by decide)))
                  have e2 : a2.toInt ≠ 2 := fun q => hc15 (Int32.toInt_inj.mp (q.trans (by decide)))
                  have e3 : a2.toInt ≠ 3 := fun q => hc17 (Int32.toInt_inj.mp (q.trans (by decide)))
                  have e4 : a2.toInt ≠ 4 := fun q => hc19 (Int32.toInt_inj.mp (q.trans (by decide)))
                  refine fx_tabOut (t := 133) dX11_of_75 rfl (by omega) rfl ?_
                  refine fx_iconst (x := -1) dX11_of_133 rfl (by decide) ?_
                  cases h
                  exact fx_ireturn dX11_of_134 rfl rfl
      · rw [if_neg hc10] at h
        refine fx_aload_n dX11_of_61 rfl rfl ?_
        refine gx_getr dX11_of_62 rfl fd_11_174 hpr4.1 rfl rfl ?_
        refine fx_bipush (x := 6) dX11_of_65 rfl (by decide) ?_
        refine fx_iload_n dX11_of_67 rfl rfl ?_
        obtain ⟨x21, hx21, h⟩ := xLet_el h
        refine fx_iadd dX11_of_68 rfl hx21 ?_
        refine fx_bipush (x := 20) dX11_of_69 rfl (by decide) ?_
        obtain ⟨x22, hx22, h⟩ := xLet_el h
        refine fx_isub dX11_of_71 rfl hx22 ?_
        obtain ⟨hj24, h⟩ := xChk_el h
        obtain ⟨x23, hx23, h⟩ := xLet_el h
        refine gx_iaload dX11_of_72 rfl hpr4.2.1 hj24 hx23 ?_
        cases h
        exact fx_ireturn dX11_of_73 rfl rfl
    · rw [if_neg hc7] at h
      refine fx_aload_n dX11_of_37 rfl rfl ?_
      refine gx_getr dX11_of_38 rfl fd_11_174 hpr4.1 rfl rfl ?_
      refine fx_iload_n dX11_of_41 rfl rfl ?_
      refine fx_bipush (x := 10) dX11_of_42 rfl (by decide) ?_
      obtain ⟨x25, hx25, h⟩ := xLet_el h
      refine fx_isub dX11_of_44 rfl hx25 ?_
      obtain ⟨hj27, h⟩ := xChk_el h
      obtain ⟨x26, hx26, h⟩ := xLet_el h
      refine gx_iaload dX11_of_45 rfl hpr4.2.1 hj27 hx26 ?_
      cases h
      exact fx_ireturn dX11_of_46 rfl rfl
  · rw [if_neg hc2] at h
    refine fx_iconst (x := -1) dX11_of_11 rfl (by decide) ?_
    cases h
    exact fx_ireturn dX11_of_12 rfl rfl
def fX11_of (a0 : Nat) (a1 : Int32) (a2 : Int32) (m : xMem) : Option (Int32 × xMem) := fX11_of_0 a0 a1 a2  m
theorem fX11_of_ok {a0 : Nat} {a1 : Int32} {a2 : Int32} {m : xMem} {r : (Int32 × xMem)} {d : Nat} (hd : 2 ≤ d) (ha0 : isMS a0) (h : fX11_of a0 a1 a2 m = some r) : xEx d 193 [.ref a0, .int a1, .int a2] (xLay m) (some (.int r.1)) (xLay r.2) := by
  obtain ⟨d, rfl⟩ : ∃ q, d = q + 1 := ⟨d - 1, by omega⟩
  exact xEx_of me_193 rfl (fX11_of_0_ok (d := d) (o3 := none) (by omega) ha0 rfl h)
def fX12_of_159 (a0 : Nat) (a1 : Int32) (a2 : Int32) (s0 : Int32) (m : xMem) : Option (Int32 × xMem) := some (s0, m)
set_option maxRecDepth 4000 in
theorem fX12_of_159_ok {a0 : Nat} {a1 : Int32} {a2 : Int32} {d : Nat} (hd : 2 ≤ d) (ha0 : isModel a0) {s0 : Int32} {m : xMem} {r : (Int32 × xMem)} (h : fX12_of_159 a0 a1 a2 s0 m = some r) : xFx hh_194 cX12_of d 159 [some (.ref a0), some (.int a1), some (.int a2)] [.int s0] (xLay m) 0 0 (some (.int r.1)) (xLay r.2) := by
  unfold fX12_of_159 at h
  cases h
  exact fx_ireturn dX12_of_159 rfl rfl
def fX12_of_158 (a0 : Nat) (a1 : Int32) (a2 : Int32) (m : xMem) : Option (Int32 × xMem) := fX12_of_159 a0 a1 a2 (-1 : Int32) m
set_option maxRecDepth 4000 in
theorem fX12_of_158_ok {a0 : Nat} {a1 : Int32} {a2 : Int32} {d : Nat} (hd : 2 ≤ d) (ha0 : isModel a0) {m : xMem} {r : (Int32 × xMem)} (h : fX12_of_158 a0 a1 a2 m = some r) : xFx hh_194 cX12_of d 158 [some (.ref a0), some (.int a1), some (.int a2)] [] (xLay m) 0 0 (some (.int r.1)) (xLay r.2) := by
  unfold fX12_of_158 at h
  refine fx_iconst (x := -1) dX12_of_158 rfl (by decide) ?_
  exact fX12_of_159_ok hd ha0 h
def fX12_of_117 (a0 : Nat) (a1 : Int32) (a2 : Int32) (m : xMem) : Option (Int32 × xMem) := if a2 < (20 : Int32) then fX12_of_158 a0 a1 a2 m else xLet (a2 - (20 : Int32)) fun x2 => (fX12_isHall a0 x2 m).bind fun p3 => if p3.1 = (0 : Int32) then fX12_of_158 a0 a1 a2 p3.2 else xLet ((12 : Int32) * a1) fun x5 => xLet ((50 : Int32) + x5) fun x6 => xLet (a2 - (20 : Int32)) fun x7 => xLet ((2 : Int32) * x7) fun x8 => xLet (x6 + x8) fun x9 => xLet (x9 + (1 : Int32)) fun x10 => bif xIn x10 1610 then xLet (p3.2.1 (a0 + 1) x10.toNatClampNeg) fun x11 => fX12_of_159 a0 a1 a2 x11 p3.2 else none
set_option maxRecDepth 4000 in
theorem fX12_of_117_ok {a0 : Nat} {a1 : Int32} {a2 : Int32} {d : Nat} (hd : 2 ≤ d) (ha0 : isModel a0) {m : xMem} {r : (Int32 × xMem)} (h : fX12_of_117 a0 a1 a2 m = some r) : xFx hh_194 cX12_of d 117 [some (.ref a0), some (.int a1), some (.int a2)] [] (xLay m) 0 0 (some (.int r.1)) (xLay r.2) := by
  unfold fX12_of_117 at h
  refine fx_iload_n dX12_of_117 rfl rfl ?_
  refine fx_bipush (x := 20) dX12_of_118 rfl (by decide) ?_
  refine fx_icmp_lt (t := 158) dX12_of_120 rfl rfl (fun hc1 => ?_) (fun hc1 => ?_)
  · rw [if_pos hc1] at h
    exact fX12_of_158_ok hd ha0 h
  · rw [if_neg hc1] at h
    refine fx_aload_n dX12_of_123 rfl rfl ?_
    refine fx_iload_n dX12_of_124 rfl rfl ?_
    refine fx_bipush (x := 20) dX12_of_125 rfl (by decide) ?_
    obtain ⟨x2, hx2, h⟩ := xLet_el h
    refine fx_isub dX12_of_127 rfl hx2 ?_
    obtain ⟨p3, ep3, h⟩ := xBind_el h
    refine gx_callv (as := [.int x2]) (r := []) rfl dX12_of_128 ca_12_107 rfl me_22 rfl rfl rfl rfl (ha0.1) rfl (fX12_isHall_ok (d := d) (by omega) ha0 ep3) rfl rfl ?_
    refine fx_if_eq (t := 158) dX12_of_131 rfl rfl (fun hc4 => ?_) (fun hc4 => ?_)
    · rw [if_pos hc4] at h
      exact fX12_of_158_ok hd ha0 h
    · rw [if_neg hc4] at h
      refine fx_aload_n dX12_of_134 rfl rfl ?_
      refine gx_getr dX12_of_135 rfl fd_12_7 ha0.1 rfl rfl ?_
      refine fx_bipush (x := 50) dX12_of_138 rfl (by decide) ?_
      refine fx_bipush (x := 12) dX12_of_140 rfl (by decide) ?_
      refine fx_iload_n dX12_of_142 rfl rfl ?_
      obtain ⟨x5, hx5, h⟩ := xLet_el h
      refine fx_imul dX12_of_143 rfl hx5 ?_
      obtain ⟨x6, hx6, h⟩ := xLet_el h
      refine fx_iadd dX12_of_144 rfl hx6 ?_
      refine fx_iconst (x := 2) dX12_of_145 rfl (by decide) ?_
      refine fx_iload_n dX12_of_146 rfl rfl ?_
      refine fx_bipush (x := 20) dX12_of_147 rfl (by decide) ?_
      obtain ⟨x7, hx7, h⟩ := xLet_el h
      refine fx_isub dX12_of_149 rfl hx7 ?_
      obtain ⟨x8, hx8, h⟩ := xLet_el h
      refine fx_imul dX12_of_150 rfl hx8 ?_
      obtain ⟨x9, hx9, h⟩ := xLet_el h
      refine fx_iadd dX12_of_151 rfl hx9 ?_
      refine fx_iconst (x := 1) dX12_of_152 rfl (by decide) ?_
      obtain ⟨x10, hx10, h⟩ := xLet_el h
      refine fx_iadd dX12_of_153 rfl hx10 ?_
      obtain ⟨hj12, h⟩ := xChk_el h
      obtain ⟨x11, hx11, h⟩ := xLet_el h
      refine gx_iaload dX12_of_154 rfl ha0.2.1 hj12 hx11 ?_
      refine fx_goto (t := 159) dX12_of_155 rfl rfl ?_
      exact fX12_of_159_ok hd ha0 h
def fX12_of_0 (a0 : Nat) (a1 : Int32) (a2 : Int32) (m : xMem) : Option (Int32 × xMem) := (fX12_isHall a0 a1 m).bind fun p1 => if ¬ p1.1 = (0 : Int32) then if a2 = (0 : Int32) then (fX12_inHall a0 a1 p1.2).bind fun p4 => some (p4.1, p4.2) else if a2 = (1 : Int32) then (fX12_countOf a0 (130 : Int32) a1 p1.2).bind fun p6 => some (p6.1, p6.2) else if a2 = (2 : Int32) then (fX12_hallOf a0 a1 (2 : Int32) p1.2).bind fun p8 => some (p8.1, p8.2) else if a2 = (3 : Int32) then (fX12_hallOf a0 a1 (3 : Int32) p1.2).bind fun p10 => some (p10.1, p10.2) else if a2 = (4 : Int32) then (fX12_hallOf a0 a1 (1 : Int32) p1.2).bind fun p12 => some (p12.1, p12.2) else if a2 < (10 : Int32) then fX12_of_117 a0 a1 a2 p1.2 else xLet (a2 - (10 : Int32)) fun x14 => (fX12_isHall a0 x14 p1.2).bind fun p15 => if p15.1 = (0 : Int32) then fX12_of_117 a0 a1 a2 p15.2 else xLet ((12 : Int32) * a1) fun x17 => xLet ((50 : Int32) + x17) fun x18 => xLet (a2 - (10 : Int32)) fun x19 => xLet ((2 : Int32) * x19) fun x20 => xLet (x18 + x20) fun x21 => bif xIn x21 1610 then xLet (p15.2.1 (a0 + 1) x21.toNatClampNeg) fun x22 => some (x22, p15.2) else none else some ((-1 : Int32), p1.2)
set_option maxRecDepth 4000 in
theorem fX12_of_0_ok {a0 : Nat} {a1 : Int32} {a2 : Int32} {d : Nat} (hd : 2 ≤ d) (ha0 : isModel a0) {m : xMem} {r : (Int32 × xMem)} (h : fX12_of_0 a0 a1 a2 m = some r) : xFx hh_194 cX12_of d 0 [some (.ref a0), some (.int a1), some (.int a2)] [] (xLay m) 0 0 (some (.int r.1)) (xLay r.2) := by
  unfold fX12_of_0 at h
  refine fx_aload_n dX12_of_0 rfl rfl ?_
  refine fx_iload_n dX12_of_1 rfl rfl ?_
  obtain ⟨p1, ep1, h⟩ := xBind_el h
  refine gx_callv (as := [.int a1]) (r := []) rfl dX12_of_2 ca_12_107 rfl me_22 rfl rfl rfl rfl (ha0.1) rfl (fX12_isHall_ok (d := d) (by omega) ha0 ep1) rfl rfl ?_
  refine fx_if_ne (t := 10) dX12_of_5 rfl rfl (fun hc2 => ?_) (fun hc2 => ?_)
  · rw [if_pos hc2] at h
    refine fx_iload_n dX12_of_10 rfl rfl ?_
    by_cases hc3 : a2 = (0 : Int32)
    · rw [if_pos hc3] at h
      refine fx_tabIn (t := 44) dX12_of_11 rfl (by rw [hc3]; decide) (by rw [hc3]; decide) (by rw [hc3]; rfl) rfl ?_
      refine fx_aload_n dX12_of_44 rfl rfl ?_
      refine fx_iload_n dX12_of_45 rfl rfl ?_
      obtain ⟨p4, ep4, h⟩ := xBind_el h
      refine gx_callv (as := [.int a1]) (r := []) rfl dX12_of_46 ca_12_292 rfl me_168 rfl rfl rfl rfl (ha0.1) rfl (fX12_inHall_ok (d := d) (by omega) ha0 ep4) rfl rfl ?_
      cases h
      exact fx_ireturn dX12_of_49 rfl rfl
    · rw [if_neg hc3] at h
      by_cases hc5 : a2 = (1 : Int32)
      · rw [if_pos hc5] at h
        refine fx_tabIn (t := 50) dX12_of_11 rfl (by rw [hc5]; decide) (by rw [hc5]; decide) (by rw [hc5]; rfl) rfl ?_
        refine fx_aload_n dX12_of_50 rfl rfl ?_
        refine fx_sipush (x := 130) dX12_of_51 rfl (by decide) ?_
        refine fx_iload_n dX12_of_54 rfl rfl ?_
        obtain ⟨p6, ep6, h⟩ := xBind_el h
        refine gx_callv (as := [.int (130 : Int32), .int a1]) (r := []) rfl dX12_of_55 ca_12_289 rfl me_169 rfl rfl rfl rfl (ha0.1) rfl (fX12_countOf_ok (d := d) (by omega) ha0 ep6) rfl rfl ?_
        cases h
        exact fx_ireturn dX12_of_58 rfl rfl
      · rw [if_neg hc5] at h
        by_cases hc7 : a2 = (2 : Int32)
        · rw [if_pos hc7] at h
          refine fx_tabIn (t := 59) dX12_of_11 rfl (by rw [hc7]; decide) (by rw [hc7]; decide) (by rw [hc7]; rfl) rfl ?_
          refine fx_aload_n dX12_of_59 rfl rfl ?_
          refine fx_iload_n dX12_of_60 rfl rfl ?_
          refine fx_iconst (x := 2) dX12_of_61 rfl (by decide) ?_
          obtain ⟨p8, ep8, h⟩ := xBind_el h
          refine gx_callv (as := [.int a1, .int (2 : Int32)]) (r := []) rfl dX12_of_62 ca_12_295 rfl me_170 rfl rfl rfl rfl (ha0.1) rfl (fX12_hallOf_ok (d := d) (by omega) ha0 ep8) rfl rfl ?_
          cases h
          exact fx_ireturn dX12_of_65 rfl rfl
        · rw [if_neg hc7] at h
          by_cases hc9 : a2 = (3 : Int32)
          · rw [if_pos hc9] at h
            refine fx_tabIn (t := 66) dX12_of_11 rfl (by rw [hc9]; decide) (by rw [hc9]; decide) (by rw [hc9]; rfl) rfl ?_
            refine fx_aload_n dX12_of_66 rfl rfl ?_
            refine fx_iload_n dX12_of_67 rfl rfl ?_
            refine fx_iconst (x := 3) dX12_of_68 rfl (by decide) ?_
            obtain ⟨p10, ep10, h⟩ := xBind_el h
            refine gx_callv (as := [.int a1, .int (3 : Int32)]) (r := []) rfl dX12_of_69 ca_12_295 rfl me_170 rfl rfl rfl rfl (ha0.1) rfl (fX12_hallOf_ok (d := d) (by omega) ha0 ep10) rfl rfl ?_
            cases h
            exact fx_ireturn dX12_of_72 rfl rfl
          · rw [if_neg hc9] at h
            by_cases hc11 : a2 = (4 : Int32)
            · rw [if_pos hc11] at h
              refine fx_tabIn (t := 73) dX12_of_11 rfl (by rw [hc11]; decide) (by rw [hc11]; decide) (by rw [hc11]; rfl) rfl ?_
              refine fx_aload_n dX12_of_73 rfl rfl ?_
              refine fx_iload_n dX12_of_74 rfl rfl ?_
              refine fx_iconst (x := 1) dX12_of_75 rfl (by decide) ?_
              obtain ⟨p12, ep12, h⟩ := xBind_el h
              refine gx_callv (as := [.int a1, .int (1 : Int32)]) (r := []) rfl dX12_of_76 ca_12_295 rfl me_170 rfl rfl rfl rfl (ha0.1) rfl (fX12_hallOf_ok (d := d) (by omega) ha0 ep12) rfl rfl ?_
              cases h
              exact fx_ireturn dX12_of_79 rfl rfl
            · rw [if_neg hc11] at h
              have e0 : a2.toInt ≠ 0 := fun q => hc3 (Int32.toInt_inj.mp (q.trans (by decide)))
              have e1 : a2.toInt ≠ 1 := fun q => hc5 (Int32.toInt_inj.mp (q.trans (by decide)))
              have e2 : a2.toInt ≠ 2 := fun q => hc7 (Int32.toInt_inj.mp (q.trans (by decide)))
              have e3 : a2.toInt ≠ 3 := fun q => hc9 (Int32.toInt_inj.mp (q.trans (by decide)))
              have e4 : a2.toInt ≠ 4 := fun q => hc11 (Int32.toInt_inj.mp (q.trans (by decide)))
              refine fx_tabOut (t := 80) dX12_of_11 rfl (by omega) rfl ?_
              refine fx_iload_n dX12_of_80 rfl rfl ?_
              refine fx_bipush (x := 10) dX12_of_81 rfl (by decide) ?_
              refine fx_icmp_lt (t := 117) dX12_of_83 rfl rfl (fun hc13 => ?_) (fun hc13 => ?_)
              · rw [if_pos hc13] at h
                exact fX12_of_117_ok hd ha0 h
              · rw [if_neg hc13] at h
                refine fx_aload_n dX12_of_86 rfl rfl ?_
                refine fx_iload_n dX12_of_87 rfl rfl ?_
                refine fx_bipush (x := 10) dX12_of_88 rfl (by decide) ?_
                obtain ⟨x14, hx14, h⟩ := xLet_el h
                refine fx_isub dX12_of_90 rfl hx14 ?_
                obtain ⟨p15, ep15, h⟩ := xBind_el h
                refine gx_callv (as := [.int x14]) (r := []) rfl dX12_of_91 ca_12_107 rfl me_22 rfl rfl rfl rfl (ha0.1) rfl (fX12_isHall_ok (d := d) (by omega) ha0 ep15) rfl rfl ?_
                refine fx_if_eq (t := 117) dX12_of_94 rfl rfl (fun hc16 => ?_) (fun hc16 => ?_)
                · rw [if_pos hc16] at h
                  exact fX12_of_117_ok hd ha0 h
                · rw [if_neg hc16] at h
                  refine fx_aload_n dX12_of_97 rfl rfl ?_
                  refine gx_getr dX12_of_98 rfl fd_12_7 ha0.1 rfl rfl ?_
                  refine fx_bipush (x := 50) dX12_of_101 rfl (by decide) ?_
                  refine fx_bipush (x := 12) dX12_of_103 rfl (by decide) ?_
                  refine fx_iload_n dX12_of_105 rfl rfl ?_
                  obtain ⟨x17, hx17, h⟩ := xLet_el h
                  refine fx_imul dX12_of_106 rfl hx17 ?_
                  obtain ⟨x18, hx18, h⟩ := xLet_el h
                  refine fx_iadd dX12_of_107 rfl hx18 ?_
                  refine fx_iconst (x := 2) dX12_of_108 rfl (by decide) ?_
                  refine fx_iload_n dX12_of_109 rfl rfl ?_
                  refine fx_bipush (x := 10) dX12_of_110 rfl (by decide) ?_
                  obtain ⟨x19, hx19, h⟩ := xLet_el h
                  refine fx_isub dX12_of_112 rfl hx19 ?_
                  obtain ⟨x20, hx20, h⟩ := xLet_el h
                  refine fx_imul dX12_of_113 rfl hx20 ?_
                  obtain ⟨x21, hx21, h⟩ := xLet_el h
                  refine fx_iadd dX12_of_114 rfl hx21 ?_
                  obtain ⟨hj23, h⟩ := xChk_el h
                  obtain ⟨x22, hx22, h⟩ := xLet_el h
                  refine gx_iaload dX12_of_115 rfl ha0.2.1 hj23 hx22 ?_
                  cases h
                  exact fx_ireturn dX12_of_116 rfl rfl
  · rw [if_neg hc2] at h
    refine fx_iconst (x := -1) dX12_of_8 rfl (by decide) ?_
    cases h
    exact fx_ireturn dX12_of_9 rfl rfl
def fX12_of (a0 : Nat) (a1 : Int32) (a2 : Int32) (m : xMem) : Option (Int32 × xMem) := fX12_of_0 a0 a1 a2  m
theorem fX12_of_ok {a0 : Nat} {a1 : Int32} {a2 : Int32} {m : xMem} {r : (Int32 × xMem)} {d : Nat} (hd : 3 ≤ d) (ha0 : isModel a0) (h : fX12_of a0 a1 a2 m = some r) : xEx d 194 [.ref a0, .int a1, .int a2] (xLay m) (some (.int r.1)) (xLay r.2) := by
  obtain ⟨d, rfl⟩ : ∃ q, d = q + 1 := ⟨d - 1, by omega⟩
  exact xEx_of me_194 rfl (fX12_of_0_ok (d := d) (by omega) ha0 h)
def fX11_on_94 (a0 : Nat) (a1 : Int32) (a2 : Int32) (s0 : Int32) (m : xMem) : Option (Int32 × xMem) := some (s0, m)
set_option maxRecDepth 4000 in
theorem fX11_on_94_ok {a0 : Nat} {a1 : Int32} {a2 : Int32} {d : Nat} (hd : 1 ≤ d) (ha0 : isMS a0) {s0 : Int32} {o3 : Option Value} {m : xMem} {r : (Int32 × xMem)} (q3 : xNoD o3 = true) (h : fX11_on_94 a0 a1 a2 s0 m = some r) : xFx hh_195 cX11_on d 94 [some (.ref a0), some (.int a1), some (.int a2), o3] [.int s0] (xLay m) 0 0 (some (.int r.1)) (xLay r.2) := by
  unfold fX11_on_94 at h
  cases h
  exact fx_ireturn dX11_on_94 rfl rfl
def fX11_on_107 (a0 : Nat) (a1 : Int32) (a2 : Int32) (s0 : Int32) (m : xMem) : Option (Int32 × xMem) := some (s0, m)
set_option maxRecDepth 4000 in
theorem fX11_on_107_ok {a0 : Nat} {a1 : Int32} {a2 : Int32} {d : Nat} (hd : 1 ≤ d) (ha0 : isMS a0) {s0 : Int32} {o3 : Option Value} {m : xMem} {r : (Int32 × xMem)} (q3 : xNoD o3 = true) (h : fX11_on_107 a0 a1 a2 s0 m = some r) : xFx hh_195 cX11_on d 107 [some (.ref a0), some (.int a1), some (.int a2), o3] [.int s0] (xLay m) 0 0 (some (.int r.1)) (xLay r.2) := by
  unfold fX11_on_107 at h
  cases h
  exact fx_ireturn dX11_on_107 rfl rfl
def fX11_on_0 (a0 : Nat) (a1 : Int32) (a2 : Int32) (m : xMem) : Option (Int32 × xMem) := (fX9_hasLink (a0 + 1) a1 m).bind fun p1 => if ¬ p1.1 = (0 : Int32) then bif xIn a1 10 then xLet (a0 + 1 + 33 + 2 * a1.toNatClampNeg) fun r4 => if a2 = (0 : Int32) then xLet (p1.2.1 r4 9) fun x6 => some (x6, p1.2) else if a2 = (1 : Int32) then xLet (p1.2.1 r4 6) fun x8 => some (x8, p1.2) else if a2 = (2 : Int32) then xLet (p1.2.1 r4 12) fun x10 => if x10 = (0 : Int32) then fX11_on_94 a0 a1 a2 (0 : Int32) p1.2 else fX11_on_94 a0 a1 a2 (1 : Int32) p1.2 else if a2 = (3 : Int32) then xLet (p1.2.1 r4 13) fun x13 => if x13 = (0 : Int32) then fX11_on_107 a0 a1 a2 (0 : Int32) p1.2 else fX11_on_107 a0 a1 a2 (1 : Int32) p1.2 else if a2 = (4 : Int32) then xLet (p1.2.1 r4 7) fun x16 => some (x16, p1.2) else if a2 = (5 : Int32) then xLet (p1.2.1 r4 10) fun x18 => some (x18, p1.2) else if a2 = (6 : Int32) then xLet (p1.2.1 r4 11) fun x20 => some (x20, p1.2) else if a2 = (7 : Int32) then xLet (p1.2.1 r4 8) fun x22 => some (x22, p1.2) else some ((-1 : Int32), p1.2) else none else some ((-1 : Int32), p1.2)
set_option maxRecDepth 4000 in
theorem fX11_on_0_ok {a0 : Nat} {a1 : Int32} {a2 : Int32} {d : Nat} (hd : 1 ≤ d) (ha0 : isMS a0) {o3 : Option Value} {m : xMem} {r : (Int32 × xMem)} (q3 : xNoD o3 = true) (h : fX11_on_0 a0 a1 a2 m = some r) : xFx hh_195 cX11_on d 0 [some (.ref a0), some (.int a1), some (.int a2), o3] [] (xLay m) 0 0 (some (.int r.1)) (xLay r.2) := by
  unfold fX11_on_0 at h
  refine fx_aload_n dX11_on_0 rfl rfl ?_
  refine gx_getr dX11_on_1 rfl fd_11_10 ha0.1 rfl rfl ?_
  refine fx_iload_n dX11_on_4 rfl rfl ?_
  obtain ⟨p1, ep1, h⟩ := xBind_el h
  refine gx_callv (as := [.int a1]) (r := []) rfl dX11_on_5 ca_11_96 rfl me_29 rfl rfl rfl rfl (ha0.2.1.1) rfl (fX9_hasLink_ok (d := d) (by omega) ha0.2.1 ep1) rfl rfl ?_
  refine fx_if_ne (t := 13) dX11_on_8 rfl rfl (fun hc2 => ?_) (fun hc2 => ?_)
  · rw [if_pos hc2] at h
    refine fx_aload_n dX11_on_13 rfl rfl ?_
    refine gx_getr dX11_on_14 rfl fd_11_10 ha0.1 rfl rfl ?_
    refine gx_getr dX11_on_17 rfl fd_11_75 ha0.2.1.1 rfl rfl ?_
    refine fx_iload_n dX11_on_20 rfl rfl ?_
    obtain ⟨hj3, h⟩ := xChk_el h
    obtain ⟨r4, hr4, h⟩ := xLet_el h
    refine gx_aaload (t := 5) dX11_on_21 rfl ha0.2.1.2.2.1 rfl hj3 ((xRef_at (sl_9_1 (a0 + 1)) hj3).trans (congrArg some hr4)) ?_
    have hpr4 : isLink r4 := by rw [← hr4]; exact ha0.2.1.2.2.2.2.2.2.2.2.1 _ (xIn_lt hj3)
    refine fx_astore_n (ls2 := [some (.ref a0), some (.int a1), some (.int a2), some (.ref r4)]) dX11_on_22 rfl rfl rfl ?_
    refine fx_iload_n dX11_on_23 rfl rfl ?_
    by_cases hc5 : a2 = (0 : Int32)
    · rw [if_pos hc5] at h
      refine fx_tabIn (t := 72) dX11_on_24 rfl (by rw [hc5]; decide) (by rw [hc5]; decide) (by rw [hc5]; rfl) rfl ?_
      refine fx_aload_n dX11_on_72 rfl rfl ?_
      obtain ⟨x6, hx6, h⟩ := xLet_el h
      refine gx_get dX11_on_73 rfl fd_11_190 hpr4.1 rfl rfl hx6 ?_
      cases h
      exact fx_ireturn dX11_on_76 rfl rfl
    · rw [if_neg hc5] at h
      by_cases hc7 : a2 = (1 : Int32)
      · rw [if_pos hc7] at h
        refine fx_tabIn (t := 77) dX11_on_24 rfl (by rw [hc7]; decide) (by rw [hc7]; decide) (by rw [hc7]; rfl) rfl ?_
        refine fx_aload_n dX11_on_77 rfl rfl ?_
        obtain ⟨x8, hx8, h⟩ := xLet_el h
        refine gx_get dX11_on_78 rfl fd_11_191 hpr4.1 rfl rfl hx8 ?_
        cases h
        exact fx_ireturn dX11_on_81 rfl rfl
      · rw [if_neg hc7] at h
        by_cases hc9 : a2 = (2 : Int32)
        · rw [if_pos hc9] at h
          refine fx_tabIn (t := 82) dX11_on_24 rfl (by rw [hc9]; decide) (by rw [hc9]; decide) (by rw [hc9]; rfl) rfl ?_
          refine fx_aload_n dX11_on_82 rfl rfl ?_
          obtain ⟨x10, hx10, h⟩ := xLet_el h
          refine gx_get dX11_on_83 rfl fd_11_194 hpr4.1 rfl rfl hx10 ?_
          refine fx_if_eq (t := 93) dX11_on_86 rfl rfl (fun hc11 => ?_) (fun hc11 => ?_)
          · rw [if_pos hc11] at h
            refine fx_iconst (x := 0) dX11_on_93 rfl (by decide) ?_
            exact fX11_on_94_ok (o3 := some (.ref r4)) hd ha0 rfl h
          · rw [if_neg hc11] at h
            refine fx_iconst (x := 1) dX11_on_89 rfl (by decide) ?_
            refine fx_goto (t := 94) dX11_on_90 rfl rfl ?_
            exact fX11_on_94_ok (o3 := some (.ref r4)) hd ha0 rfl h
        · rw [if_neg hc9] at h
          by_cases hc12 : a2 = (3 : Int32)
          · rw [if_pos hc12] at h
            refine fx_tabIn (t := 95) dX11_on_24 rfl (by rw [hc12]; decide) (by rw [hc12]; decide) (by rw [hc12]; rfl) rfl ?_
            refine fx_aload_n dX11_on_95 rfl rfl ?_
            obtain ⟨x13, hx13, h⟩ := xLet_el h
            refine gx_get dX11_on_96 rfl fd_11_99 hpr4.1 rfl rfl hx13 ?_
            refine fx_if_eq (t := 106) dX11_on_99 rfl rfl (fun hc14 => ?_) (fun hc14 => ?_)
            · rw [if_pos hc14] at h
              refine fx_iconst (x := 0) dX11_on_106 rfl (by decide) ?_
              exact fX11_on_107_ok (o3 := some (.ref r4)) hd ha0 rfl h
            · rw [if_neg hc14] at h
              refine fx_iconst (x := 1) dX11_on_102 rfl (by decide) ?_
              refine fx_goto (t := 107) dX11_on_103 rfl rfl ?_
              exact fX11_on_107_ok (o3 := some (.ref r4)) hd ha0 rfl h
          · rw [if_neg hc12] at h
            by_cases hc15 : a2 = (4 : Int32)
            · rw [if_pos hc15] at h
              refine fx_tabIn (t := 108) dX11_on_24 rfl (by rw [hc15]; decide) (by rw [hc15]; decide) (by rw [hc15]; rfl) rfl ?_
              refine fx_aload_n dX11_on_108 rfl rfl ?_
              obtain ⟨x16, hx16, h⟩ := xLet_el h
              refine gx_get dX11_on_109 rfl fd_11_197 hpr4.1 rfl rfl hx16 ?_
              cases h
              exact fx_ireturn dX11_on_112 rfl rfl
            · rw [if_neg hc15] at h
              by_cases hc17 : a2 = (5 : Int32)
              · rw [if_pos hc17] at h
                refine fx_tabIn (t := 113) dX11_on_24 rfl (by rw [hc17]; decide) (by rw [hc17]; decide) (by rw [hc17]; rfl) rfl ?_
                refine fx_aload_n dX11_on_113 rfl rfl ?_
                obtain ⟨x18, hx18, h⟩ := xLet_el h
                refine gx_get dX11_on_114 rfl fd_11_200 hpr4.1 rfl rfl hx18 ?_
                cases h
                exact fx_ireturn dX11_on_117 rfl rfl
              · rw [if_neg hc17] at h
                by_cases hc19 : a2 = (6 : Int32)
                · rw [if_pos hc19] at h
                  refine fx_tabIn (t := 118) dX11_on_24 rfl (by rw [hc19]; decide) (by rw [hc19]; decide) (by rw [hc19]; rfl) rfl ?_
                  refine fx_aload_n dX11_on_118 rfl rfl ?_
                  obtain ⟨x20, hx20, h⟩ := xLet_el h
                  refine gx_get dX11_on_119 rfl fd_11_203 hpr4.1 rfl rfl hx20 ?_
                  cases h
                  exact fx_ireturn dX11_on_122 rfl rfl
                · rw [if_neg hc19] at h
                  by_cases hc21 : a2 = (7 : Int32)
                  · rw [if_pos hc21] at h
                    refine fx_tabIn (t := 123) dX11_on_24 rfl (by rw [hc21]; decide) (by rw [hc21]; decide) (by rw [hc21]; rfl) rfl ?_
                    refine fx_aload_n dX11_on_123 rfl rfl ?_
                    obtain ⟨x22, hx22, h⟩ := xLet_el h
                    refine gx_get dX11_on_124 rfl fd_11_93 hpr4.1 rfl rfl hx22 ?_
                    cases h
                    exact fx_ireturn dX11_on_127 rfl rfl
                  · rw [if_neg hc21] at h
                    have e0 : a2.toInt ≠ 0 := fun q => hc5 (Int32.toInt_inj.mp (q.trans (by decide)))
                    have e1 : a2.toInt ≠ 1 := fun q => hc7 (Int32.toInt_inj.mp (q.trans (by decide)))
                    have e2 : a2.toInt ≠ 2 := fun q => hc9 (Int32.toInt_inj.mp (q.trans (by decide)))
                    have e3 : a2.toInt ≠ 3 := fun q => hc12 (Int32.toInt_inj.mp (q.trans (by decide)))
                    have e4 : a2.toInt ≠ 4 := fun q => hc15 (Int32.toInt_inj.mp (q.trans (by decide)))
                    have e5 : a2.toInt ≠ 5 := fun q => hc17 (Int32.toInt_inj.mp (q.trans (by decide)))
                    have e6 : a2.toInt ≠ 6 := fun q => hc19 (Int32.toInt_inj.mp (q.trans (by decide)))
                    have e7 : a2.toInt ≠ 7 := fun q => hc21 (Int32.toInt_inj.mp (q.trans (by decide)))
                    refine fx_tabOut (t := 128) dX11_on_24 rfl (by omega) rfl ?_
                    refine fx_iconst (x := -1) dX11_on_128 rfl (by decide) ?_
                    cases h
                    exact fx_ireturn dX11_on_129 rfl rfl
  · rw [if_neg hc2] at h
    refine fx_iconst (x := -1) dX11_on_11 rfl (by decide) ?_
    cases h
    exact fx_ireturn dX11_on_12 rfl rfl
def fX11_on (a0 : Nat) (a1 : Int32) (a2 : Int32) (m : xMem) : Option (Int32 × xMem) := fX11_on_0 a0 a1 a2  m
theorem fX11_on_ok {a0 : Nat} {a1 : Int32} {a2 : Int32} {m : xMem} {r : (Int32 × xMem)} {d : Nat} (hd : 2 ≤ d) (ha0 : isMS a0) (h : fX11_on a0 a1 a2 m = some r) : xEx d 195 [.ref a0, .int a1, .int a2] (xLay m) (some (.int r.1)) (xLay r.2) := by
  obtain ⟨d, rfl⟩ : ∃ q, d = q + 1 := ⟨d - 1, by omega⟩
  exact xEx_of me_195 rfl (fX11_on_0_ok (d := d) (o3 := none) (by omega) ha0 rfl h)
def fX12_on_0 (a0 : Nat) (a1 : Int32) (a2 : Int32) (m : xMem) : Option (Int32 × xMem) := (fX12_isLink a0 a1 m).bind fun p1 => if ¬ p1.1 = (0 : Int32) then if a2 = (0 : Int32) then (fX12_loadOf a0 a1 p1.2).bind fun p4 => some (p4.1, p4.2) else if a2 = (1 : Int32) then (fX12_linkOf a0 a1 (5 : Int32) p1.2).bind fun p6 => some (p6.1, p6.2) else if a2 = (2 : Int32) then (fX12_linkOf a0 a1 (6 : Int32) p1.2).bind fun p8 => some (p8.1, p8.2) else if a2 = (3 : Int32) then (fX12_linkOf a0 a1 (9 : Int32) p1.2).bind fun p10 => some (p10.1, p10.2) else if a2 = (4 : Int32) then (fX12_linkOf a0 a1 (7 : Int32) p1.2).bind fun p12 => some (p12.1, p12.2) else if a2 = (5 : Int32) then (fX12_linkOf a0 a1 (10 : Int32) p1.2).bind fun p14 => some (p14.1, p14.2) else if a2 = (6 : Int32) then (fX12_linkOf a0 a1 (11 : Int32) p1.2).bind fun p16 => some (p16.1, p16.2) else if a2 = (7 : Int32) then (fX12_linkOf a0 a1 (8 : Int32) p1.2).bind fun p18 => some (p18.1, p18.2) else some ((-1 : Int32), p1.2) else some ((-1 : Int32), p1.2)
set_option maxRecDepth 4000 in
theorem fX12_on_0_ok {a0 : Nat} {a1 : Int32} {a2 : Int32} {d : Nat} (hd : 2 ≤ d) (ha0 : isModel a0) {m : xMem} {r : (Int32 × xMem)} (h : fX12_on_0 a0 a1 a2 m = some r) : xFx hh_196 cX12_on d 0 [some (.ref a0), some (.int a1), some (.int a2)] [] (xLay m) 0 0 (some (.int r.1)) (xLay r.2) := by
  unfold fX12_on_0 at h
  refine fx_aload_n dX12_on_0 rfl rfl ?_
  refine fx_iload_n dX12_on_1 rfl rfl ?_
  obtain ⟨p1, ep1, h⟩ := xBind_el h
  refine gx_callv (as := [.int a1]) (r := []) rfl dX12_on_2 ca_12_99 rfl me_33 rfl rfl rfl rfl (ha0.1) rfl (fX12_isLink_ok (d := d) (by omega) ha0 ep1) rfl rfl ?_
  refine fx_if_ne (t := 10) dX12_on_5 rfl rfl (fun hc2 => ?_) (fun hc2 => ?_)
  · rw [if_pos hc2] at h
    refine fx_iload_n dX12_on_10 rfl rfl ?_
    by_cases hc3 : a2 = (0 : Int32)
    · rw [if_pos hc3] at h
      refine fx_tabIn (t := 56) dX12_on_11 rfl (by rw [hc3]; decide) (by rw [hc3]; decide) (by rw [hc3]; rfl) rfl ?_
      refine fx_aload_n dX12_on_56 rfl rfl ?_
      refine fx_iload_n dX12_on_57 rfl rfl ?_
      obtain ⟨p4, ep4, h⟩ := xBind_el h
      refine gx_callv (as := [.int a1]) (r := []) rfl dX12_on_58 ca_12_117 rfl me_35 rfl rfl rfl rfl (ha0.1) rfl (fX12_loadOf_ok (d := d) (by omega) ha0 ep4) rfl rfl ?_
      cases h
      exact fx_ireturn dX12_on_61 rfl rfl
    · rw [if_neg hc3] at h
      by_cases hc5 : a2 = (1 : Int32)
      · rw [if_pos hc5] at h
        refine fx_tabIn (t := 62) dX12_on_11 rfl (by rw [hc5]; decide) (by rw [hc5]; decide) (by rw [hc5]; rfl) rfl ?_
        refine fx_aload_n dX12_on_62 rfl rfl ?_
        refine fx_iload_n dX12_on_63 rfl rfl ?_
        refine fx_iconst (x := 5) dX12_on_64 rfl (by decide) ?_
        obtain ⟨p6, ep6, h⟩ := xBind_el h
        refine gx_callv (as := [.int a1, .int (5 : Int32)]) (r := []) rfl dX12_on_65 ca_12_103 rfl me_34 rfl rfl rfl rfl (ha0.1) rfl (fX12_linkOf_ok (d := d) (by omega) ha0 ep6) rfl rfl ?_
        cases h
        exact fx_ireturn dX12_on_68 rfl rfl
      · rw [if_neg hc5] at h
        by_cases hc7 : a2 = (2 : Int32)
        · rw [if_pos hc7] at h
          refine fx_tabIn (t := 69) dX12_on_11 rfl (by rw [hc7]; decide) (by rw [hc7]; decide) (by rw [hc7]; rfl) rfl ?_
          refine fx_aload_n dX12_on_69 rfl rfl ?_
          refine fx_iload_n dX12_on_70 rfl rfl ?_
          refine fx_bipush (x := 6) dX12_on_71 rfl (by decide) ?_
          obtain ⟨p8, ep8, h⟩ := xBind_el h
          refine gx_callv (as := [.int a1, .int (6 : Int32)]) (r := []) rfl dX12_on_73 ca_12_103 rfl me_34 rfl rfl rfl rfl (ha0.1) rfl (fX12_linkOf_ok (d := d) (by omega) ha0 ep8) rfl rfl ?_
          cases h
          exact fx_ireturn dX12_on_76 rfl rfl
        · rw [if_neg hc7] at h
          by_cases hc9 : a2 = (3 : Int32)
          · rw [if_pos hc9] at h
            refine fx_tabIn (t := 77) dX12_on_11 rfl (by rw [hc9]; decide) (by rw [hc9]; decide) (by rw [hc9]; rfl) rfl ?_
            refine fx_aload_n dX12_on_77 rfl rfl ?_
            refine fx_iload_n dX12_on_78 rfl rfl ?_
            refine fx_bipush (x := 9) dX12_on_79 rfl (by decide) ?_
            obtain ⟨p10, ep10, h⟩ := xBind_el h
            refine gx_callv (as := [.int a1, .int (9 : Int32)]) (r := []) rfl dX12_on_81 ca_12_103 rfl me_34 rfl rfl rfl rfl (ha0.1) rfl (fX12_linkOf_ok (d := d) (by omega) ha0 ep10) rfl rfl ?_
            cases h
            exact fx_ireturn dX12_on_84 rfl rfl
          · rw [if_neg hc9] at h
            by_cases hc11 : a2 = (4 : Int32)
            · rw [if_pos hc11] at h
              refine fx_tabIn (t := 85) dX12_on_11 rfl (by rw [hc11]; decide) (by rw [hc11]; decide) (by rw [hc11]; rfl) rfl ?_
              refine fx_aload_n dX12_on_85 rfl rfl ?_
              refine fx_iload_n dX12_on_86 rfl rfl ?_
              refine fx_bipush (x := 7) dX12_on_87 rfl (by decide) ?_
              obtain ⟨p12, ep12, h⟩ := xBind_el h
              refine gx_callv (as := [.int a1, .int (7 : Int32)]) (r := []) rfl dX12_on_89 ca_12_103 rfl me_34 rfl rfl rfl rfl (ha0.1) rfl (fX12_linkOf_ok (d := d) (by omega) ha0 ep12) rfl rfl ?_
              cases h
              exact fx_ireturn dX12_on_92 rfl rfl
            · rw [if_neg hc11] at h
              by_cases hc13 : a2 = (5 : Int32)
              · rw [if_pos hc13] at h
                refine fx_tabIn (t := 93) dX12_on_11 rfl (by rw [hc13]; decide) (by rw [hc13]; decide) (by rw [hc13]; rfl) rfl ?_
                refine fx_aload_n dX12_on_93 rfl rfl ?_
                refine fx_iload_n dX12_on_94 rfl rfl ?_
                refine fx_bipush (x := 10) dX12_on_95 rfl (by decide) ?_
                obtain ⟨p14, ep14, h⟩ := xBind_el h
                refine gx_callv (as := [.int a1, .int (10 : Int32)]) (r := []) rfl dX12_on_97 ca_12_103 rfl me_34 rfl rfl rfl rfl (ha0.1) rfl (fX12_linkOf_ok (d := d) (by omega) ha0 ep14) rfl rfl ?_
                cases h
                exact fx_ireturn dX12_on_100 rfl rfl
              · rw [if_neg hc13] at h
                by_cases hc15 : a2 = (6 : Int32)
                · rw [if_pos hc15] at h
                  refine fx_tabIn (t := 101) dX12_on_11 rfl (by rw [hc15]; decide) (by rw [hc15]; decide) (by rw [hc15]; rfl) rfl ?_
                  refine fx_aload_n dX12_on_101 rfl rfl ?_
                  refine fx_iload_n dX12_on_102 rfl rfl ?_
                  refine fx_bipush (x := 11) dX12_on_103 rfl (by decide) ?_
                  obtain ⟨p16, ep16, h⟩ := xBind_el h
                  refine gx_callv (as := [.int a1, .int (11 : Int32)]) (r := []) rfl dX12_on_105 ca_12_103 rfl me_34 rfl rfl rfl rfl (ha0.1) rfl (fX12_linkOf_ok (d := d) (by omega) ha0 ep16) rfl rfl ?_
                  cases h
                  exact fx_ireturn dX12_on_108 rfl rfl
                · rw [if_neg hc15] at h
                  by_cases hc17 : a2 = (7 : Int32)
                  · rw [if_pos hc17] at h
                    refine fx_tabIn (t := 109) dX12_on_11 rfl (by rw [hc17]; decide) (by rw [hc17]; decide) (by rw [hc17]; rfl) rfl ?_
                    refine fx_aload_n dX12_on_109 rfl rfl ?_
                    refine fx_iload_n dX12_on_110 rfl rfl ?_
                    refine fx_bipush (x := 8) dX12_on_111 rfl (by decide) ?_
                    obtain ⟨p18, ep18, h⟩ := xBind_el h
                    refine gx_callv (as := [.int a1, .int (8 : Int32)]) (r := []) rfl dX12_on_113 ca_12_103 rfl me_34 rfl rfl rfl rfl (ha0.1) rfl (fX12_linkOf_ok (d := d) (by omega) ha0 ep18) rfl rfl ?_
                    cases h
                    exact fx_ireturn dX12_on_116 rfl rfl
                  · rw [if_neg hc17] at h
                    have e0 : a2.toInt ≠ 0 := fun q => hc3 (Int32.toInt_inj.mp (q.trans (by decide)))
                    have e1 : a2.toInt ≠ 1 := fun q => hc5 (Int32.toInt_inj.mp (q.trans (by decide)))
                    have e2 : a2.toInt ≠ 2 := fun q => hc7 (Int32.toInt_inj.mp (q.trans (by decide)))
                    have e3 : a2.toInt ≠ 3 := fun q => hc9 (Int32.toInt_inj.mp (q.trans (by decide)))
                    have e4 : a2.toInt ≠ 4 := fun q => hc11 (Int32.toInt_inj.mp (q.trans (by decide)))
                    have e5 : a2.toInt ≠ 5 := fun q => hc13 (Int32.toInt_inj.mp (q.trans (by decide)))
                    have e6 : a2.toInt ≠ 6 := fun q => hc15 (Int32.toInt_inj.mp (q.trans (by decide)))
                    have e7 : a2.toInt ≠ 7 := fun q => hc17 (Int32.toInt_inj.mp (q.trans (by decide)))
                    refine fx_tabOut (t := 117) dX12_on_11 rfl (by omega) rfl ?_
                    refine fx_iconst (x := -1) dX12_on_117 rfl (by decide) ?_
                    cases h
                    exact fx_ireturn dX12_on_118 rfl rfl
  · rw [if_neg hc2] at h
    refine fx_iconst (x := -1) dX12_on_8 rfl (by decide) ?_
    cases h
    exact fx_ireturn dX12_on_9 rfl rfl
def fX12_on (a0 : Nat) (a1 : Int32) (a2 : Int32) (m : xMem) : Option (Int32 × xMem) := fX12_on_0 a0 a1 a2  m
theorem fX12_on_ok {a0 : Nat} {a1 : Int32} {a2 : Int32} {m : xMem} {r : (Int32 × xMem)} {d : Nat} (hd : 3 ≤ d) (ha0 : isModel a0) (h : fX12_on a0 a1 a2 m = some r) : xEx d 196 [.ref a0, .int a1, .int a2] (xLay m) (some (.int r.1)) (xLay r.2) := by
  obtain ⟨d, rfl⟩ : ∃ q, d = q + 1 := ⟨d - 1, by omega⟩
  exact xEx_of me_196 rfl (fX12_on_0_ok (d := d) (by omega) ha0 h)
def fX11_step_42 (a0 : Nat) (a1 : Int32) (a2 : Int32) (a3 : Int32) (m : xMem) : Option (Int32 × xMem) := some ((-1 : Int32), m)
set_option maxRecDepth 4000 in
theorem fX11_step_42_ok {a0 : Nat} {a1 : Int32} {a2 : Int32} {a3 : Int32} {d : Nat} (hd : 2 ≤ d) (ha0 : isMS a0) {m : xMem} {r : (Int32 × xMem)} (h : fX11_step_42 a0 a1 a2 a3 m = some r) : xFx hh_197 cX11_step d 42 [some (.ref a0), some (.int a1), some (.int a2), some (.int a3)] [] (xLay m) 0 0 (some (.int r.1)) (xLay r.2) := by
  unfold fX11_step_42 at h
  refine fx_iconst (x := -1) dX11_step_42 rfl (by decide) ?_
  cases h
  exact fx_ireturn dX11_step_43 rfl rfl
def fX11_step_0 (a0 : Nat) (a1 : Int32) (a2 : Int32) (a3 : Int32) (m : xMem) : Option (Int32 × xMem) := (fX9_hasStepped (a0 + 1) a1 m).bind fun p1 => if p1.1 = (0 : Int32) then fX11_step_42 a0 a1 a2 a3 p1.2 else (fX11_within a2 (0 : Int32) (1 : Int32) p1.2).bind fun p3 => if p3.1 = (0 : Int32) then fX11_step_42 a0 a1 a2 a3 p3.2 else bif xIn a1 10 then xLet (a0 + 1 + 33 + 2 * a1.toNatClampNeg) fun r6 => xLet (p3.2.1 r6 4) fun x7 => xLet (x7 - (1 : Int32)) fun x8 => (fX11_within a3 (0 : Int32) x8 p3.2).bind fun p9 => if ¬ p9.1 = (0 : Int32) then bif xIn a1 10 then xLet (a0 + 1 + 33 + 2 * a1.toNatClampNeg) fun r12 => (fX3_who r12 a2 a3 p9.2).bind fun p13 => some (p13.1, p13.2) else none else fX11_step_42 a0 a1 a2 a3 p9.2 else none
set_option maxRecDepth 4000 in
theorem fX11_step_0_ok {a0 : Nat} {a1 : Int32} {a2 : Int32} {a3 : Int32} {d : Nat} (hd : 2 ≤ d) (ha0 : isMS a0) {m : xMem} {r : (Int32 × xMem)} (h : fX11_step_0 a0 a1 a2 a3 m = some r) : xFx hh_197 cX11_step d 0 [some (.ref a0), some (.int a1), some (.int a2), some (.int a3)] [] (xLay m) 0 0 (some (.int r.1)) (xLay r.2) := by
  unfold fX11_step_0 at h
  refine fx_aload_n dX11_step_0 rfl rfl ?_
  refine gx_getr dX11_step_1 rfl fd_11_10 ha0.1 rfl rfl ?_
  refine fx_iload_n dX11_step_4 rfl rfl ?_
  obtain ⟨p1, ep1, h⟩ := xBind_el h
  refine gx_callv (as := [.int a1]) (r := []) rfl dX11_step_5 ca_11_84 rfl me_28 rfl rfl rfl rfl (ha0.2.1.1) rfl (fX9_hasStepped_ok (d := d) (by omega) ha0.2.1 ep1) rfl rfl ?_
  refine fx_if_eq (t := 42) dX11_step_8 rfl rfl (fun hc2 => ?_) (fun hc2 => ?_)
  · rw [if_pos hc2] at h
    exact fX11_step_42_ok hd ha0 h
  · rw [if_neg hc2] at h
    refine fx_iload_n dX11_step_11 rfl rfl ?_
    refine fx_iconst (x := 0) dX11_step_12 rfl (by decide) ?_
    refine fx_iconst (x := 1) dX11_step_13 rfl (by decide) ?_
    obtain ⟨p3, ep3, h⟩ := xBind_el h
    refine gx_calls (as := [.int a2, .int (0 : Int32), .int (1 : Int32)]) (r := []) rfl dX11_step_14 ca_11_47 rfl me_14 rfl rfl rfl rfl (fX11_within_ok (d := d) (by omega) ep3) rfl rfl ?_
    refine fx_if_eq (t := 42) dX11_step_17 rfl rfl (fun hc4 => ?_) (fun hc4 => ?_)
    · rw [if_pos hc4] at h
      exact fX11_step_42_ok hd ha0 h
    · rw [if_neg hc4] at h
      refine fx_iload_n dX11_step_20 rfl rfl ?_
      refine fx_iconst (x := 0) dX11_step_21 rfl (by decide) ?_
      refine fx_aload_n dX11_step_22 rfl rfl ?_
      refine gx_getr dX11_step_23 rfl fd_11_10 ha0.1 rfl rfl ?_
      refine gx_getr dX11_step_26 rfl fd_11_75 ha0.2.1.1 rfl rfl ?_
      refine fx_iload_n dX11_step_29 rfl rfl ?_
      obtain ⟨hj5, h⟩ := xChk_el h
      obtain ⟨r6, hr6, h⟩ := xLet_el h
      refine gx_aaload (t := 5) dX11_step_30 rfl ha0.2.1.2.2.1 rfl hj5 ((xRef_at (sl_9_1 (a0 + 1)) hj5).trans (congrArg some hr6)) ?_
      have hpr6 : isLink r6 := by rw [← hr6]; exact ha0.2.1.2.2.2.2.2.2.2.2.1 _ (xIn_lt hj5)
      obtain ⟨x7, hx7, h⟩ := xLet_el h
      refine gx_get dX11_step_31 rfl fd_11_206 hpr6.1 rfl rfl hx7 ?_
      refine fx_iconst (x := 1) dX11_step_34 rfl (by decide) ?_
      obtain ⟨x8, hx8, h⟩ := xLet_el h
      refine fx_isub dX11_step_35 rfl hx8 ?_
      obtain ⟨p9, ep9, h⟩ := xBind_el h
      refine gx_calls (as := [.int a3, .int (0 : Int32), .int x8]) (r := []) rfl dX11_step_36 ca_11_47 rfl me_14 rfl rfl rfl rfl (fX11_within_ok (d := d) (by omega) ep9) rfl rfl ?_
      refine fx_if_ne (t := 44) dX11_step_39 rfl rfl (fun hc10 => ?_) (fun hc10 => ?_)
      · rw [if_pos hc10] at h
        refine fx_aload_n dX11_step_44 rfl rfl ?_
        refine gx_getr dX11_step_45 rfl fd_11_10 ha0.1 rfl rfl ?_
        refine gx_getr dX11_step_48 rfl fd_11_75 ha0.2.1.1 rfl rfl ?_
        refine fx_iload_n dX11_step_51 rfl rfl ?_
        obtain ⟨hj11, h⟩ := xChk_el h
        obtain ⟨r12, hr12, h⟩ := xLet_el h
        refine gx_aaload (t := 5) dX11_step_52 rfl ha0.2.1.2.2.1 rfl hj11 ((xRef_at (sl_9_1 (a0 + 1)) hj11).trans (congrArg some hr12)) ?_
        have hpr12 : isLink r12 := by rw [← hr12]; exact ha0.2.1.2.2.2.2.2.2.2.2.1 _ (xIn_lt hj11)
        refine fx_iload_n dX11_step_53 rfl rfl ?_
        refine fx_iload_n dX11_step_54 rfl rfl ?_
        obtain ⟨p13, ep13, h⟩ := xBind_el h
        refine gx_callv (as := [.int a2, .int a3]) (r := []) rfl dX11_step_55 ca_11_207 rfl me_152 rfl rfl rfl rfl (hpr12.1) rfl (fX3_who_ok (d := d) (by omega) hpr12 ep13) rfl rfl ?_
        cases h
        exact fx_ireturn dX11_step_58 rfl rfl
      · rw [if_neg hc10] at h
        exact fX11_step_42_ok hd ha0 h
def fX11_step (a0 : Nat) (a1 : Int32) (a2 : Int32) (a3 : Int32) (m : xMem) : Option (Int32 × xMem) := fX11_step_0 a0 a1 a2 a3  m
theorem fX11_step_ok {a0 : Nat} {a1 : Int32} {a2 : Int32} {a3 : Int32} {m : xMem} {r : (Int32 × xMem)} {d : Nat} (hd : 3 ≤ d) (ha0 : isMS a0) (h : fX11_step a0 a1 a2 a3 m = some r) : xEx d 197 [.ref a0, .int a1, .int a2, .int a3] (xLay m) (some (.int r.1)) (xLay r.2) := by
  obtain ⟨d, rfl⟩ : ∃ q, d = q + 1 := ⟨d - 1, by omega⟩
  exact xEx_of me_197 rfl (fX11_step_0_ok (d := d) (by omega) ha0 h)
def fX12_step_49 (a0 : Nat) (a1 : Int32) (a2 : Int32) (a3 : Int32) (s0 : Int32) (m : xMem) : Option (Int32 × xMem) := some (s0, m)
set_option maxRecDepth 4000 in
theorem fX12_step_49_ok {a0 : Nat} {a1 : Int32} {a2 : Int32} {a3 : Int32} {d : Nat} (hd : 3 ≤ d) (ha0 : isModel a0) {s0 : Int32} {m : xMem} {r : (Int32 × xMem)} (h : fX12_step_49 a0 a1 a2 a3 s0 m = some r) : xFx hh_198 cX12_step d 49 [some (.ref a0), some (.int a1), some (.int a2), some (.int a3)] [.int s0] (xLay m) 0 0 (some (.int r.1)) (xLay r.2) := by
  unfold fX12_step_49 at h
  cases h
  exact fx_ireturn dX12_step_49 rfl rfl
def fX12_step_48 (a0 : Nat) (a1 : Int32) (a2 : Int32) (a3 : Int32) (m : xMem) : Option (Int32 × xMem) := fX12_step_49 a0 a1 a2 a3 (-1 : Int32) m
set_option maxRecDepth 4000 in
theorem fX12_step_48_ok {a0 : Nat} {a1 : Int32} {a2 : Int32} {a3 : Int32} {d : Nat} (hd : 3 ≤ d) (ha0 : isModel a0) {m : xMem} {r : (Int32 × xMem)} (h : fX12_step_48 a0 a1 a2 a3 m = some r) : xFx hh_198 cX12_step d 48 [some (.ref a0), some (.int a1), some (.int a2), some (.int a3)] [] (xLay m) 0 0 (some (.int r.1)) (xLay r.2) := by
  unfold fX12_step_48 at h
  refine fx_iconst (x := -1) dX12_step_48 rfl (by decide) ?_
  exact fX12_step_49_ok hd ha0 h
def fX12_step_0 (a0 : Nat) (a1 : Int32) (a2 : Int32) (a3 : Int32) (m : xMem) : Option (Int32 × xMem) := (fX12_isStairs a0 a1 m).bind fun p1 => if p1.1 = (0 : Int32) then fX12_step_48 a0 a1 a2 a3 p1.2 else (fX12_in a2 (0 : Int32) (1 : Int32) p1.2).bind fun p3 => if p3.1 = (0 : Int32) then fX12_step_48 a0 a1 a2 a3 p3.2 else (fX12_linkOf a0 a1 (3 : Int32) p3.2).bind fun p5 => xLet (p5.1 - (1 : Int32)) fun x6 => (fX12_in a3 (0 : Int32) x6 p5.2).bind fun p7 => if p7.1 = (0 : Int32) then fX12_step_48 a0 a1 a2 a3 p7.2 else (fX12_placeOf a0 a1 a2 a3 p7.2).bind fun p9 => bif xIn p9.1 1610 then xLet (p9.2.1 (a0 + 1) p9.1.toNatClampNeg) fun x10 => fX12_step_49 a0 a1 a2 a3 x10 p9.2 else none
set_option maxRecDepth 4000 in
theorem fX12_step_0_ok {a0 : Nat} {a1 : Int32} {a2 : Int32} {a3 : Int32} {d : Nat} (hd : 3 ≤ d) (ha0 : isModel a0) {m : xMem} {r : (Int32 × xMem)} (h : fX12_step_0 a0 a1 a2 a3 m = some r) : xFx hh_198 cX12_step d 0 [some (.ref a0), some (.int a1), some (.int a2), some (.int a3)] [] (xLay m) 0 0 (some (.int r.1)) (xLay r.2) := by
  unfold fX12_step_0 at h
  refine fx_aload_n dX12_step_0 rfl rfl ?_
  refine fx_iload_n dX12_step_1 rfl rfl ?_
  obtain ⟨p1, ep1, h⟩ := xBind_el h
  refine gx_callv (as := [.int a1]) (r := []) rfl dX12_step_2 ca_12_114 rfl me_32 rfl rfl rfl rfl (ha0.1) rfl (fX12_isStairs_ok (d := d) (by omega) ha0 ep1) rfl rfl ?_
  refine fx_if_eq (t := 48) dX12_step_5 rfl rfl (fun hc2 => ?_) (fun hc2 => ?_)
  · rw [if_pos hc2] at h
    exact fX12_step_48_ok hd ha0 h
  · rw [if_neg hc2] at h
    refine fx_iload_n dX12_step_8 rfl rfl ?_
    refine fx_iconst (x := 0) dX12_step_9 rfl (by decide) ?_
    refine fx_iconst (x := 1) dX12_step_10 rfl (by decide) ?_
    obtain ⟨p3, ep3, h⟩ := xBind_el h
    refine gx_calls (as := [.int a2, .int (0 : Int32), .int (1 : Int32)]) (r := []) rfl dX12_step_11 ca_12_95 rfl me_18 rfl rfl rfl rfl (fX12_in_ok (d := d) (by omega) ep3) rfl rfl ?_
    refine fx_if_eq (t := 48) dX12_step_14 rfl rfl (fun hc4 => ?_) (fun hc4 => ?_)
    · rw [if_pos hc4] at h
      exact fX12_step_48_ok hd ha0 h
    · rw [if_neg hc4] at h
      refine fx_iload_n dX12_step_17 rfl rfl ?_
      refine fx_iconst (x := 0) dX12_step_18 rfl (by decide) ?_
      refine fx_aload_n dX12_step_19 rfl rfl ?_
      refine fx_iload_n dX12_step_20 rfl rfl ?_
      refine fx_iconst (x := 3) dX12_step_21 rfl (by decide) ?_
      obtain ⟨p5, ep5, h⟩ := xBind_el h
      refine gx_callv (as := [.int a1, .int (3 : Int32)]) (r := [.int (0 : Int32), .int a3]) rfl dX12_step_22 ca_12_103 rfl me_34 rfl rfl rfl rfl (ha0.1) rfl (fX12_linkOf_ok (d := d) (by omega) ha0 ep5) rfl rfl ?_
      refine fx_iconst (x := 1) dX12_step_25 rfl (by decide) ?_
      obtain ⟨x6, hx6, h⟩ := xLet_el h
      refine fx_isub dX12_step_26 rfl hx6 ?_
      obtain ⟨p7, ep7, h⟩ := xBind_el h
      refine gx_calls (as := [.int a3, .int (0 : Int32), .int x6]) (r := []) rfl dX12_step_27 ca_12_95 rfl me_18 rfl rfl rfl rfl (fX12_in_ok (d := d) (by omega) ep7) rfl rfl ?_
      refine fx_if_eq (t := 48) dX12_step_30 rfl rfl (fun hc8 => ?_) (fun hc8 => ?_)
      · rw [if_pos hc8] at h
        exact fX12_step_48_ok hd ha0 h
      · rw [if_neg hc8] at h
        refine fx_aload_n dX12_step_33 rfl rfl ?_
        refine gx_getr dX12_step_34 rfl fd_12_7 ha0.1 rfl rfl ?_
        refine fx_aload_n dX12_step_37 rfl rfl ?_
        refine fx_iload_n dX12_step_38 rfl rfl ?_
        refine fx_iload_n dX12_step_39 rfl rfl ?_
        refine fx_iload_n dX12_step_40 rfl rfl ?_
        obtain ⟨p9, ep9, h⟩ := xBind_el h
        refine gx_callv (as := [.int a1, .int a2, .int a3]) (r := [.ref (a0 + 1)]) rfl dX12_step_41 ca_12_334 rfl me_183 rfl rfl rfl rfl (ha0.1) rfl (fX12_placeOf_ok (d := d) (by omega) ha0 ep9) rfl rfl ?_
        obtain ⟨hj11, h⟩ := xChk_el h
        obtain ⟨x10, hx10, h⟩ := xLet_el h
        refine gx_iaload dX12_step_44 rfl ha0.2.1 hj11 hx10 ?_
        refine fx_goto (t := 49) dX12_step_45 rfl rfl ?_
        exact fX12_step_49_ok hd ha0 h
def fX12_step (a0 : Nat) (a1 : Int32) (a2 : Int32) (a3 : Int32) (m : xMem) : Option (Int32 × xMem) := fX12_step_0 a0 a1 a2 a3  m
theorem fX12_step_ok {a0 : Nat} {a1 : Int32} {a2 : Int32} {a3 : Int32} {m : xMem} {r : (Int32 × xMem)} {d : Nat} (hd : 4 ≤ d) (ha0 : isModel a0) (h : fX12_step a0 a1 a2 a3 m = some r) : xEx d 198 [.ref a0, .int a1, .int a2, .int a3] (xLay m) (some (.int r.1)) (xLay r.2) := by
  obtain ⟨d, rfl⟩ : ∃ q, d = q + 1 := ⟨d - 1, by omega⟩
  exact xEx_of me_198 rfl (fX12_step_0_ok (d := d) (by omega) ha0 h)
def fX11_route_22 (a0 : Nat) (a1 : Int32) (a2 : Int32) (a3 : Int32) (m : xMem) : Option (Int32 × xMem) := some ((-1 : Int32), m)
set_option maxRecDepth 4000 in
theorem fX11_route_22_ok {a0 : Nat} {a1 : Int32} {a2 : Int32} {a3 : Int32} {d : Nat} (hd : 5 ≤ d) (ha0 : isMS a0) {m : xMem} {r : (Int32 × xMem)} (h : fX11_route_22 a0 a1 a2 a3 m = some r) : xFx hh_199 cX11_route d 22 [some (.ref a0), some (.int a1), some (.int a2), some (.int a3)] [] (xLay m) 0 0 (some (.int r.1)) (xLay r.2) := by
  unfold fX11_route_22 at h
  refine fx_iconst (x := -1) dX11_route_22 rfl (by decide) ?_
  cases h
  exact fx_ireturn dX11_route_23 rfl rfl
def fX11_route_61 (a0 : Nat) (a1 : Int32) (a2 : Int32) (a3 : Int32) (s0 : Nat) (s1 : Int32) (m : xMem) : Option (Int32 × xMem) := (fX8_firstLink s0 s1 a1 a2 m).bind fun p1 => some (p1.1, p1.2)
set_option maxRecDepth 4000 in
theorem fX11_route_61_ok {a0 : Nat} {a1 : Int32} {a2 : Int32} {a3 : Int32} {d : Nat} (hd : 5 ≤ d) (ha0 : isMS a0) {s0 : Nat} {s1 : Int32} {m : xMem} {r : (Int32 × xMem)} (hs0 : isRoutes s0) (h : fX11_route_61 a0 a1 a2 a3 s0 s1 m = some r) : xFx hh_199 cX11_route d 61 [some (.ref a0), some (.int a1), some (.int a2), some (.int a3)] [.int s1, .ref s0] (xLay m) 0 0 (some (.int r.1)) (xLay r.2) := by
  unfold fX11_route_61 at h
  refine fx_iload_n dX11_route_61 rfl rfl ?_
  refine fx_iload_n dX11_route_62 rfl rfl ?_
  obtain ⟨p1, ep1, h⟩ := xBind_el h
  refine gx_callv (as := [.int s1, .int a1, .int a2]) (r := []) rfl dX11_route_63 ca_11_221 rfl me_146 rfl rfl rfl rfl (hs0.1) rfl (fX8_firstLink_ok (d := d) (by omega) hs0 ep1) rfl rfl ?_
  cases h
  exact fx_ireturn dX11_route_66 rfl rfl
def fX11_route_0 (a0 : Nat) (a1 : Int32) (a2 : Int32) (a3 : Int32) (m : xMem) : Option (Int32 × xMem) := (fX9_hasHall (a0 + 1) a1 m).bind fun p1 => if p1.1 = (0 : Int32) then fX11_route_22 a0 a1 a2 a3 p1.2 else (fX9_hasHall (a0 + 1) a2 p1.2).bind fun p3 => if ¬ p3.1 = (0 : Int32) then (fX6_forgetRoutes (a0 + 250) p3.2).bind fun p5 => (fX8_find (a0 + 250 + 1) (a0 + 1) p5).bind fun p6 => if a3 = (0 : Int32) then fX11_route_61 a0 a1 a2 a3 (a0 + 250 + 1) (0 : Int32) p6 else fX11_route_61 a0 a1 a2 a3 (a0 + 250 + 1) (1 : Int32) p6 else fX11_route_22 a0 a1 a2 a3 p3.2
set_option maxRecDepth 4000 in
theorem fX11_route_0_ok {a0 : Nat} {a1 : Int32} {a2 : Int32} {a3 : Int32} {d : Nat} (hd : 5 ≤ d) (ha0 : isMS a0) {m : xMem} {r : (Int32 × xMem)} (h : fX11_route_0 a0 a1 a2 a3 m = some r) : xFx hh_199 cX11_route d 0 [some (.ref a0), some (.int a1), some (.int a2), some (.int a3)] [] (xLay m) 0 0 (some (.int r.1)) (xLay r.2) := by
  unfold fX11_route_0 at h
  refine fx_aload_n dX11_route_0 rfl rfl ?_
  refine gx_getr dX11_route_1 rfl fd_11_10 ha0.1 rfl rfl ?_
  refine fx_iload_n dX11_route_4 rfl rfl ?_
  obtain ⟨p1, ep1, h⟩ := xBind_el h
  refine gx_callv (as := [.int a1]) (r := []) rfl dX11_route_5 ca_11_65 rfl me_20 rfl rfl rfl rfl (ha0.2.1.1) rfl (fX9_hasHall_ok (d := d) (by omega) ha0.2.1 ep1) rfl rfl ?_
  refine fx_if_eq (t := 22) dX11_route_8 rfl rfl (fun hc2 => ?_) (fun hc2 => ?_)
  · rw [if_pos hc2] at h
    exact fX11_route_22_ok hd ha0 h
  · rw [if_neg hc2] at h
    refine fx_aload_n dX11_route_11 rfl rfl ?_
    refine gx_getr dX11_route_12 rfl fd_11_10 ha0.1 rfl rfl ?_
    refine fx_iload_n dX11_route_15 rfl rfl ?_
    obtain ⟨p3, ep3, h⟩ := xBind_el h
    refine gx_callv (as := [.int a2]) (r := []) rfl dX11_route_16 ca_11_65 rfl me_20 rfl rfl rfl rfl (ha0.2.1.1) rfl (fX9_hasHall_ok (d := d) (by omega) ha0.2.1 ep3) rfl rfl ?_
    refine fx_if_ne (t := 24) dX11_route_19 rfl rfl (fun hc4 => ?_) (fun hc4 => ?_)
    · rw [if_pos hc4] at h
      refine fx_aload_n dX11_route_24 rfl rfl ?_
      refine gx_getr dX11_route_25 rfl fd_11_25 ha0.1 rfl rfl ?_
      obtain ⟨p5, ep5, h⟩ := xBind_el h
      refine gx_callv (as := []) (r := []) rfl dX11_route_28 ca_11_166 rfl me_118 rfl rfl rfl rfl (ha0.2.2.2.2.1.1) rfl (fX6_forgetRoutes_ok (d := d) (by omega) ha0.2.2.2.2.1 ep5) rfl rfl ?_
      refine fx_aload_n dX11_route_31 rfl rfl ?_
      refine gx_getr dX11_route_32 rfl fd_11_25 ha0.1 rfl rfl ?_
      refine gx_getr dX11_route_35 rfl fd_11_211 ha0.2.2.2.2.1.1 rfl rfl ?_
      refine fx_aload_n dX11_route_38 rfl rfl ?_
      refine gx_getr dX11_route_39 rfl fd_11_10 ha0.1 rfl rfl ?_
      obtain ⟨p6, ep6, h⟩ := xBind_el h
      refine gx_callv (as := [.ref (a0 + 1)]) (r := []) rfl dX11_route_42 ca_11_215 rfl me_133 rfl rfl rfl rfl (ha0.2.2.2.2.1.2.1.1) rfl (fX8_find_ok (d := d) (by omega) ha0.2.2.2.2.1.2.1 ha0.2.1 ep6) rfl rfl ?_
      refine fx_aload_n dX11_route_45 rfl rfl ?_
      refine gx_getr dX11_route_46 rfl fd_11_25 ha0.1 rfl rfl ?_
      refine gx_getr dX11_route_49 rfl fd_11_211 ha0.2.2.2.2.1.1 rfl rfl ?_
      refine fx_iload_n dX11_route_52 rfl rfl ?_
      refine fx_if_eq (t := 60) dX11_route_53 rfl rfl (fun hc7 => ?_) (fun hc7 => ?_)
      · rw [if_pos hc7] at h
        refine fx_iconst (x := 0) dX11_route_60 rfl (by decide) ?_
        exact fX11_route_61_ok hd ha0 ha0.2.2.2.2.1.2.1 h
      · rw [if_neg hc7] at h
        refine fx_iconst (x := 1) dX11_route_56 rfl (by decide) ?_
        refine fx_goto (t := 61) dX11_route_57 rfl rfl ?_
        exact fX11_route_61_ok hd ha0 ha0.2.2.2.2.1.2.1 h
    · rw [if_neg hc4] at h
      exact fX11_route_22_ok hd ha0 h
def fX11_route (a0 : Nat) (a1 : Int32) (a2 : Int32) (a3 : Int32) (m : xMem) : Option (Int32 × xMem) := fX11_route_0 a0 a1 a2 a3  m
theorem fX11_route_ok {a0 : Nat} {a1 : Int32} {a2 : Int32} {a3 : Int32} {m : xMem} {r : (Int32 × xMem)} {d : Nat} (hd : 6 ≤ d) (ha0 : isMS a0) (h : fX11_route a0 a1 a2 a3 m = some r) : xEx d 199 [.ref a0, .int a1, .int a2, .int a3] (xLay m) (some (.int r.1)) (xLay r.2) := by
  obtain ⟨d, rfl⟩ : ∃ q, d = q + 1 := ⟨d - 1, by omega⟩
  exact xEx_of me_199 rfl (fX11_route_0_ok (d := d) (by omega) ha0 h)
def fX12_route_16 (a0 : Nat) (a1 : Int32) (a2 : Int32) (a3 : Int32) (m : xMem) : Option (Int32 × xMem) := some ((-1 : Int32), m)
set_option maxRecDepth 4000 in
theorem fX12_route_16_ok {a0 : Nat} {a1 : Int32} {a2 : Int32} {a3 : Int32} {d : Nat} (hd : 4 ≤ d) (ha0 : isModel a0) {m : xMem} {r : (Int32 × xMem)} (h : fX12_route_16 a0 a1 a2 a3 m = some r) : xFx hh_200 cX12_route d 16 [some (.ref a0), some (.int a1), some (.int a2), some (.int a3)] [] (xLay m) 0 0 (some (.int r.1)) (xLay r.2) := by
  unfold fX12_route_16 at h
  refine fx_iconst (x := -1) dX12_route_16 rfl (by decide) ?_
  cases h
  exact fx_ireturn dX12_route_17 rfl rfl
def fX12_route_46 (a0 : Nat) (a1 : Int32) (a2 : Int32) (a3 : Int32) (s0 : Nat) (s1 : Int32) (m : xMem) : Option (Int32 × xMem) := xLet ((6 : Int32) * a2) fun x1 => xLet (s1 + x1) fun x2 => xLet (x2 + a1) fun x3 => bif xIn x3 72 then xLet (m.1 s0 x3.toNatClampNeg) fun x4 => some (x4, m) else none
set_option maxRecDepth 4000 in
theorem fX12_route_46_ok {a0 : Nat} {a1 : Int32} {a2 : Int32} {a3 : Int32} {d : Nat} (hd : 4 ≤ d) (ha0 : isModel a0) {s0 : Nat} {s1 : Int32} {m : xMem} {r : (Int32 × xMem)} (hs0 : xTmL[s0]? = some (101, 72, [])) (h : fX12_route_46 a0 a1 a2 a3 s0 s1 m = some r) : xFx hh_200 cX12_route d 46 [some (.ref a0), some (.int a1), some (.int a2), some (.int a3)] [.int s1, .ref s0] (xLay m) 0 0 (some (.int r.1)) (xLay r.2) := by
  unfold fX12_route_46 at h
  refine fx_bipush (x := 6) dX12_route_46 rfl (by decide) ?_
  refine fx_iload_n dX12_route_48 rfl rfl ?_
  obtain ⟨x1, hx1, h⟩ := xLet_el h
  refine fx_imul dX12_route_49 rfl hx1 ?_
  obtain ⟨x2, hx2, h⟩ := xLet_el h
  refine fx_iadd dX12_route_50 rfl hx2 ?_
  refine fx_iload_n dX12_route_51 rfl rfl ?_
  obtain ⟨x3, hx3, h⟩ := xLet_el h
  refine fx_iadd dX12_route_52 rfl hx3 ?_
  obtain ⟨hj5, h⟩ := xChk_el h
  obtain ⟨x4, hx4, h⟩ := xLet_el h
  refine gx_iaload dX12_route_53 rfl hs0 hj5 hx4 ?_
  cases h
  exact fx_ireturn dX12_route_54 rfl rfl
def fX12_route_29 (a0 : Nat) (a1 : Int32) (a2 : Int32) (a3 : Int32) (s0 : Nat) (s1 : Int32) (s2 : Int32) (m : xMem) : Option (Int32 × xMem) := (fX12_routes s0 s1 s2 m).bind fun p1 => if a3 = (0 : Int32) then fX12_route_46 a0 a1 a2 a3 (a0 + 21) (0 : Int32) p1 else fX12_route_46 a0 a1 a2 a3 (a0 + 21) (36 : Int32) p1
set_option maxRecDepth 4000 in
theorem fX12_route_29_ok {a0 : Nat} {a1 : Int32} {a2 : Int32} {a3 : Int32} {d : Nat} (hd : 4 ≤ d) (ha0 : isModel a0) {s0 : Nat} {s1 : Int32} {s2 : Int32} {m : xMem} {r : (Int32 × xMem)} (hs0 : isModel s0) (h : fX12_route_29 a0 a1 a2 a3 s0 s1 s2 m = some r) : xFx hh_200 cX12_route d 29 [some (.ref a0), some (.int a1), some (.int a2), some (.int a3)] [.int s2, .int s1, .ref s0] (xLay m) 0 0 (some (.int r.1)) (xLay r.2) := by
  unfold fX12_route_29 at h
  obtain ⟨p1, ep1, h⟩ := xBind_el h
  refine gx_callv (as := [.int s1, .int s2]) (r := []) rfl dX12_route_29 ca_12_325 rfl me_176 rfl rfl rfl rfl (hs0.1) rfl (fX12_routes_ok (d := d) (by omega) hs0 ep1) rfl rfl ?_
  refine fx_aload_n dX12_route_32 rfl rfl ?_
  refine gx_getr dX12_route_33 rfl fd_12_80 ha0.1 rfl rfl ?_
  refine fx_iload_n dX12_route_36 rfl rfl ?_
  refine fx_if_eq (t := 45) dX12_route_37 rfl rfl (fun hc2 => ?_) (fun hc2 => ?_)
  · rw [if_pos hc2] at h
    refine fx_iconst (x := 0) dX12_route_45 rfl (by decide) ?_
    exact fX12_route_46_ok hd ha0 ha0.2.2.2.2.2.2.2.2.2.2.2.2.2.2.2.2.2.2.2.2.2.1 h
  · rw [if_neg hc2] at h
    refine fx_bipush (x := 36) dX12_route_40 rfl (by decide) ?_
    refine fx_goto (t := 46) dX12_route_42 rfl rfl ?_
    exact fX12_route_46_ok hd ha0 ha0.2.2.2.2.2.2.2.2.2.2.2.2.2.2.2.2.2.2.2.2.2.1 h
def fX12_route_0 (a0 : Nat) (a1 : Int32) (a2 : Int32) (a3 : Int32) (m : xMem) : Option (Int32 × xMem) := (fX12_isHall a0 a1 m).bind fun p1 => if p1.1 = (0 : Int32) then fX12_route_16 a0 a1 a2 a3 p1.2 else (fX12_isHall a0 a2 p1.2).bind fun p3 => if ¬ p3.1 = (0 : Int32) then if a3 = (0 : Int32) then fX12_route_29 a0 a1 a2 a3 a0 a2 (0 : Int32) p3.2 else fX12_route_29 a0 a1 a2 a3 a0 a2 (1 : Int32) p3.2 else fX12_route_16 a0 a1 a2 a3 p3.2
set_option maxRecDepth 4000 in
theorem fX12_route_0_ok {a0 : Nat} {a1 : Int32} {a2 : Int32} {a3 : Int32} {d : Nat} (hd : 4 ≤ d) (ha0 : isModel a0) {m : xMem} {r : (Int32 × xMem)} (h : fX12_route_0 a0 a1 a2 a3 m = some r) : xFx hh_200 cX12_route d 0 [some (.ref a0), some (.int a1), some (.int a2), some (.int a3)] [] (xLay m) 0 0 (some (.int r.1)) (xLay r.2) := by
  unfold fX12_route_0 at h
  refine fx_aload_n dX12_route_0 rfl rfl ?_
  refine fx_iload_n dX12_route_1 rfl rfl ?_
  obtain ⟨p1, ep1, h⟩ := xBind_el h
  refine gx_callv (as := [.int a1]) (r := []) rfl dX12_route_2 ca_12_107 rfl me_22 rfl rfl rfl rfl (ha0.1) rfl (fX12_isHall_ok (d := d) (by omega) ha0 ep1) rfl rfl ?_
  refine fx_if_eq (t := 16) dX12_route_5 rfl rfl (fun hc2 => ?_) (fun hc2 => ?_)
  · rw [if_pos hc2] at h
    exact fX12_route_16_ok hd ha0 h
  · rw [if_neg hc2] at h
    refine fx_aload_n dX12_route_8 rfl rfl ?_
    refine fx_iload_n dX12_route_9 rfl rfl ?_
    obtain ⟨p3, ep3, h⟩ := xBind_el h
    refine gx_callv (as := [.int a2]) (r := []) rfl dX12_route_10 ca_12_107 rfl me_22 rfl rfl rfl rfl (ha0.1) rfl (fX12_isHall_ok (d := d) (by omega) ha0 ep3) rfl rfl ?_
    refine fx_if_ne (t := 18) dX12_route_13 rfl rfl (fun hc4 => ?_) (fun hc4 => ?_)
    · rw [if_pos hc4] at h
      refine fx_aload_n dX12_route_18 rfl rfl ?_
      refine fx_iload_n dX12_route_19 rfl rfl ?_
      refine fx_iload_n dX12_route_20 rfl rfl ?_
      refine fx_if_eq (t := 28) dX12_route_21 rfl rfl (fun hc5 => ?_) (fun hc5 => ?_)
      · rw [if_pos hc5] at h
        refine fx_iconst (x := 0) dX12_route_28 rfl (by decide) ?_
        exact fX12_route_29_ok hd ha0 ha0 h
      · rw [if_neg hc5] at h
        refine fx_iconst (x := 1) dX12_route_24 rfl (by decide) ?_
        refine fx_goto (t := 29) dX12_route_25 rfl rfl ?_
        exact fX12_route_29_ok hd ha0 ha0 h
    · rw [if_neg hc4] at h
      exact fX12_route_16_ok hd ha0 h
def fX12_route (a0 : Nat) (a1 : Int32) (a2 : Int32) (a3 : Int32) (m : xMem) : Option (Int32 × xMem) := fX12_route_0 a0 a1 a2 a3  m
theorem fX12_route_ok {a0 : Nat} {a1 : Int32} {a2 : Int32} {a3 : Int32} {m : xMem} {r : (Int32 × xMem)} {d : Nat} (hd : 5 ≤ d) (ha0 : isModel a0) (h : fX12_route a0 a1 a2 a3 m = some r) : xEx d 200 [.ref a0, .int a1, .int a2, .int a3] (xLay m) (some (.int r.1)) (xLay r.2) := by
  obtain ⟨d, rfl⟩ : ∃ q, d = q + 1 := ⟨d - 1, by omega⟩
  exact xEx_of me_200 rfl (fX12_route_0_ok (d := d) (by omega) ha0 h)
