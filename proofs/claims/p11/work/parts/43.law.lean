/-! THE LAW as a pure function, and its run -/
theorem bdL_law_18 : (decode cL_law 18 = .ok (.iload_n 3, 1)) ∧ (decode cL_law 19 = .ok (.aload_n 0, 1)) ∧ (decode cL_law 20 = .ok (.arraylength, 1)) ∧ (decode cL_law 21 = .ok (.bipush 8, 2)) ∧ (decode cL_law 23 = .ok (.isub, 1)) ∧ (decode cL_law 24 = .ok (.if_icmp .gt 1372, 3)) ∧ (decode cL_law 27 = .ok (.aload_n 0, 1)) ∧ (decode cL_law 28 = .ok (.iload_n 3, 1)) ∧ (decode cL_law 29 = .ok (.iaload, 1)) ∧ (decode cL_law 30 = .ok (.bipush 63, 2)) ∧ (decode cL_law 32 = .ok (.iand, 1)) ∧ (decode cL_law 33 = .ok (.tableswitch 1357 0 33 #[151, 174, 207, 270, 303, 336, 359, 478, 541, 564, 577, 600, 623, 646, 679, 712, 755, 814, 837, 880, 923, 956, 989, 1042, 1075, 1134, 1147, 1200, 1223, 1246, 1259, 1308, 1321, 1334], 151)) ∧ (decode cL_law 184 = .ok (.aload_n 1, 1)) ∧ (decode cL_law 185 = .ok (.aload_n 0, 1)) ∧ (decode cL_law 186 = .ok (.iload_n 3, 1)) ∧ (decode cL_law 187 = .ok (.iconst 1, 1)) := by decide +kernel
theorem dL_law_18 : decode cL_law 18 = .ok (.iload_n 3, 1) := bdL_law_18.1
theorem dL_law_19 : decode cL_law 19 = .ok (.aload_n 0, 1) := bdL_law_18.2.1
theorem dL_law_20 : decode cL_law 20 = .ok (.arraylength, 1) := bdL_law_18.2.2.1
theorem dL_law_21 : decode cL_law 21 = .ok (.bipush 8, 2) := bdL_law_18.2.2.2.1
theorem dL_law_23 : decode cL_law 23 = .ok (.isub, 1) := bdL_law_18.2.2.2.2.1
theorem dL_law_24 : decode cL_law 24 = .ok (.if_icmp .gt 1372, 3) := bdL_law_18.2.2.2.2.2.1
theorem dL_law_27 : decode cL_law 27 = .ok (.aload_n 0, 1) := bdL_law_18.2.2.2.2.2.2.1
theorem dL_law_28 : decode cL_law 28 = .ok (.iload_n 3, 1) := bdL_law_18.2.2.2.2.2.2.2.1
theorem dL_law_29 : decode cL_law 29 = .ok (.iaload, 1) := bdL_law_18.2.2.2.2.2.2.2.2.1
theorem dL_law_30 : decode cL_law 30 = .ok (.bipush 63, 2) := bdL_law_18.2.2.2.2.2.2.2.2.2.1
theorem dL_law_32 : decode cL_law 32 = .ok (.iand, 1) := bdL_law_18.2.2.2.2.2.2.2.2.2.2.1
theorem dL_law_33 : decode cL_law 33 = .ok (.tableswitch 1357 0 33 #[151, 174, 207, 270, 303, 336, 359, 478, 541, 564, 577, 600, 623, 646, 679, 712, 755, 814, 837, 880, 923, 956, 989, 1042, 1075, 1134, 1147, 1200, 1223, 1246, 1259, 1308, 1321, 1334], 151) := bdL_law_18.2.2.2.2.2.2.2.2.2.2.2.1
theorem dL_law_184 : decode cL_law 184 = .ok (.aload_n 1, 1) := bdL_law_18.2.2.2.2.2.2.2.2.2.2.2.2.1
theorem dL_law_185 : decode cL_law 185 = .ok (.aload_n 0, 1) := bdL_law_18.2.2.2.2.2.2.2.2.2.2.2.2.2.1
theorem dL_law_186 : decode cL_law 186 = .ok (.iload_n 3, 1) := bdL_law_18.2.2.2.2.2.2.2.2.2.2.2.2.2.2.1
theorem dL_law_187 : decode cL_law 187 = .ok (.iconst 1, 1) := bdL_law_18.2.2.2.2.2.2.2.2.2.2.2.2.2.2.2
theorem bdL_law_188 : (decode cL_law 188 = .ok (.iadd, 1)) ∧ (decode cL_law 189 = .ok (.iaload, 1)) ∧ (decode cL_law 190 = .ok (.invokevirtual 13, 3)) ∧ (decode cL_law 193 = .ok (.pop, 1)) ∧ (decode cL_law 194 = .ok (.aload_n 2, 1)) ∧ (decode cL_law 195 = .ok (.aload_n 0, 1)) ∧ (decode cL_law 196 = .ok (.iload_n 3, 1)) ∧ (decode cL_law 197 = .ok (.iconst 1, 1)) ∧ (decode cL_law 198 = .ok (.iadd, 1)) ∧ (decode cL_law 199 = .ok (.iaload, 1)) ∧ (decode cL_law 200 = .ok (.invokevirtual 17, 3)) ∧ (decode cL_law 203 = .ok (.pop, 1)) ∧ (decode cL_law 204 = .ok (.goto 1186, 3)) ∧ (decode cL_law 207 = .ok (.aload_n 1, 1)) ∧ (decode cL_law 208 = .ok (.aload_n 0, 1)) ∧ (decode cL_law 209 = .ok (.iload_n 3, 1)) := by decide +kernel
theorem dL_law_188 : decode cL_law 188 = .ok (.iadd, 1) := bdL_law_188.1
theorem dL_law_189 : decode cL_law 189 = .ok (.iaload, 1) := bdL_law_188.2.1
theorem dL_law_190 : decode cL_law 190 = .ok (.invokevirtual 13, 3) := bdL_law_188.2.2.1
theorem dL_law_193 : decode cL_law 193 = .ok (.pop, 1) := bdL_law_188.2.2.2.1
theorem dL_law_194 : decode cL_law 194 = .ok (.aload_n 2, 1) := bdL_law_188.2.2.2.2.1
theorem dL_law_195 : decode cL_law 195 = .ok (.aload_n 0, 1) := bdL_law_188.2.2.2.2.2.1
theorem dL_law_196 : decode cL_law 196 = .ok (.iload_n 3, 1) := bdL_law_188.2.2.2.2.2.2.1
theorem dL_law_197 : decode cL_law 197 = .ok (.iconst 1, 1) := bdL_law_188.2.2.2.2.2.2.2.1
theorem dL_law_198 : decode cL_law 198 = .ok (.iadd, 1) := bdL_law_188.2.2.2.2.2.2.2.2.1
theorem dL_law_199 : decode cL_law 199 = .ok (.iaload, 1) := bdL_law_188.2.2.2.2.2.2.2.2.2.1
theorem dL_law_200 : decode cL_law 200 = .ok (.invokevirtual 17, 3) := bdL_law_188.2.2.2.2.2.2.2.2.2.2.1
theorem dL_law_203 : decode cL_law 203 = .ok (.pop, 1) := bdL_law_188.2.2.2.2.2.2.2.2.2.2.2.1
theorem dL_law_204 : decode cL_law 204 = .ok (.goto 1186, 3) := bdL_law_188.2.2.2.2.2.2.2.2.2.2.2.2.1
theorem dL_law_207 : decode cL_law 207 = .ok (.aload_n 1, 1) := bdL_law_188.2.2.2.2.2.2.2.2.2.2.2.2.2.1
theorem dL_law_208 : decode cL_law 208 = .ok (.aload_n 0, 1) := bdL_law_188.2.2.2.2.2.2.2.2.2.2.2.2.2.2.1
theorem dL_law_209 : decode cL_law 209 = .ok (.iload_n 3, 1) := bdL_law_188.2.2.2.2.2.2.2.2.2.2.2.2.2.2.2
theorem bdL_law_210 : (decode cL_law 210 = .ok (.iconst 1, 1)) ∧ (decode cL_law 211 = .ok (.iadd, 1)) ∧ (decode cL_law 212 = .ok (.iaload, 1)) ∧ (decode cL_law 213 = .ok (.aload_n 0, 1)) ∧ (decode cL_law 214 = .ok (.iload_n 3, 1)) ∧ (decode cL_law 215 = .ok (.iconst 2, 1)) ∧ (decode cL_law 216 = .ok (.iadd, 1)) ∧ (decode cL_law 217 = .ok (.iaload, 1)) ∧ (decode cL_law 218 = .ok (.invokevirtual 18, 3)) ∧ (decode cL_law 221 = .ok (.pop, 1)) ∧ (decode cL_law 222 = .ok (.aload_n 2, 1)) ∧ (decode cL_law 223 = .ok (.aload_n 0, 1)) ∧ (decode cL_law 224 = .ok (.iload_n 3, 1)) ∧ (decode cL_law 225 = .ok (.iconst 1, 1)) ∧ (decode cL_law 226 = .ok (.iadd, 1)) ∧ (decode cL_law 227 = .ok (.iaload, 1)) := by decide +kernel
theorem dL_law_210 : decode cL_law 210 = .ok (.iconst 1, 1) := bdL_law_210.1
theorem dL_law_211 : decode cL_law 211 = .ok (.iadd, 1) := bdL_law_210.2.1
theorem dL_law_212 : decode cL_law 212 = .ok (.iaload, 1) := bdL_law_210.2.2.1
theorem dL_law_213 : decode cL_law 213 = .ok (.aload_n 0, 1) := bdL_law_210.2.2.2.1
theorem dL_law_214 : decode cL_law 214 = .ok (.iload_n 3, 1) := bdL_law_210.2.2.2.2.1
theorem dL_law_215 : decode cL_law 215 = .ok (.iconst 2, 1) := bdL_law_210.2.2.2.2.2.1
theorem dL_law_216 : decode cL_law 216 = .ok (.iadd, 1) := bdL_law_210.2.2.2.2.2.2.1
theorem dL_law_217 : decode cL_law 217 = .ok (.iaload, 1) := bdL_law_210.2.2.2.2.2.2.2.1
theorem dL_law_218 : decode cL_law 218 = .ok (.invokevirtual 18, 3) := bdL_law_210.2.2.2.2.2.2.2.2.1
theorem dL_law_221 : decode cL_law 221 = .ok (.pop, 1) := bdL_law_210.2.2.2.2.2.2.2.2.2.1
theorem dL_law_222 : decode cL_law 222 = .ok (.aload_n 2, 1) := bdL_law_210.2.2.2.2.2.2.2.2.2.2.1
theorem dL_law_223 : decode cL_law 223 = .ok (.aload_n 0, 1) := bdL_law_210.2.2.2.2.2.2.2.2.2.2.2.1
theorem dL_law_224 : decode cL_law 224 = .ok (.iload_n 3, 1) := bdL_law_210.2.2.2.2.2.2.2.2.2.2.2.2.1
theorem dL_law_225 : decode cL_law 225 = .ok (.iconst 1, 1) := bdL_law_210.2.2.2.2.2.2.2.2.2.2.2.2.2.1
theorem dL_law_226 : decode cL_law 226 = .ok (.iadd, 1) := bdL_law_210.2.2.2.2.2.2.2.2.2.2.2.2.2.2.1
theorem dL_law_227 : decode cL_law 227 = .ok (.iaload, 1) := bdL_law_210.2.2.2.2.2.2.2.2.2.2.2.2.2.2.2
theorem bdL_law_228 : (decode cL_law 228 = .ok (.aload_n 0, 1)) ∧ (decode cL_law 229 = .ok (.iload_n 3, 1)) ∧ (decode cL_law 230 = .ok (.iconst 2, 1)) ∧ (decode cL_law 231 = .ok (.iadd, 1)) ∧ (decode cL_law 232 = .ok (.iaload, 1)) ∧ (decode cL_law 233 = .ok (.invokevirtual 22, 3)) ∧ (decode cL_law 236 = .ok (.pop, 1)) ∧ (decode cL_law 237 = .ok (.goto 1153, 3)) ∧ (decode cL_law 240 = .ok (.aload_n 1, 1)) ∧ (decode cL_law 241 = .ok (.aload_n 0, 1)) ∧ (decode cL_law 242 = .ok (.iload_n 3, 1)) ∧ (decode cL_law 243 = .ok (.iconst 1, 1)) ∧ (decode cL_law 244 = .ok (.iadd, 1)) ∧ (decode cL_law 245 = .ok (.iaload, 1)) ∧ (decode cL_law 246 = .ok (.aload_n 0, 1)) ∧ (decode cL_law 247 = .ok (.iload_n 3, 1)) := by decide +kernel
theorem dL_law_228 : decode cL_law 228 = .ok (.aload_n 0, 1) := bdL_law_228.1
theorem dL_law_229 : decode cL_law 229 = .ok (.iload_n 3, 1) := bdL_law_228.2.1
theorem dL_law_230 : decode cL_law 230 = .ok (.iconst 2, 1) := bdL_law_228.2.2.1
theorem dL_law_231 : decode cL_law 231 = .ok (.iadd, 1) := bdL_law_228.2.2.2.1
theorem dL_law_232 : decode cL_law 232 = .ok (.iaload, 1) := bdL_law_228.2.2.2.2.1
theorem dL_law_233 : decode cL_law 233 = .ok (.invokevirtual 22, 3) := bdL_law_228.2.2.2.2.2.1
theorem dL_law_236 : decode cL_law 236 = .ok (.pop, 1) := bdL_law_228.2.2.2.2.2.2.1
theorem dL_law_237 : decode cL_law 237 = .ok (.goto 1153, 3) := bdL_law_228.2.2.2.2.2.2.2.1
theorem dL_law_240 : decode cL_law 240 = .ok (.aload_n 1, 1) := bdL_law_228.2.2.2.2.2.2.2.2.1
theorem dL_law_241 : decode cL_law 241 = .ok (.aload_n 0, 1) := bdL_law_228.2.2.2.2.2.2.2.2.2.1
theorem dL_law_242 : decode cL_law 242 = .ok (.iload_n 3, 1) := bdL_law_228.2.2.2.2.2.2.2.2.2.2.1
theorem dL_law_243 : decode cL_law 243 = .ok (.iconst 1, 1) := bdL_law_228.2.2.2.2.2.2.2.2.2.2.2.1
theorem dL_law_244 : decode cL_law 244 = .ok (.iadd, 1) := bdL_law_228.2.2.2.2.2.2.2.2.2.2.2.2.1
theorem dL_law_245 : decode cL_law 245 = .ok (.iaload, 1) := bdL_law_228.2.2.2.2.2.2.2.2.2.2.2.2.2.1
theorem dL_law_246 : decode cL_law 246 = .ok (.aload_n 0, 1) := bdL_law_228.2.2.2.2.2.2.2.2.2.2.2.2.2.2.1
theorem dL_law_247 : decode cL_law 247 = .ok (.iload_n 3, 1) := bdL_law_228.2.2.2.2.2.2.2.2.2.2.2.2.2.2.2
theorem bdL_law_248 : (decode cL_law 248 = .ok (.iconst 2, 1)) ∧ (decode cL_law 249 = .ok (.iadd, 1)) ∧ (decode cL_law 250 = .ok (.iaload, 1)) ∧ (decode cL_law 251 = .ok (.aload_n 0, 1)) ∧ (decode cL_law 252 = .ok (.iload_n 3, 1)) ∧ (decode cL_law 253 = .ok (.iconst 3, 1)) ∧ (decode cL_law 254 = .ok (.iadd, 1)) ∧ (decode cL_law 255 = .ok (.iaload, 1)) ∧ (decode cL_law 256 = .ok (.aload_n 0, 1)) ∧ (decode cL_law 257 = .ok (.iload_n 3, 1)) ∧ (decode cL_law 258 = .ok (.iconst 4, 1)) ∧ (decode cL_law 259 = .ok (.iadd, 1)) ∧ (decode cL_law 260 = .ok (.iaload, 1)) ∧ (decode cL_law 261 = .ok (.aload_n 0, 1)) ∧ (decode cL_law 262 = .ok (.iload_n 3, 1)) ∧ (decode cL_law 263 = .ok (.iconst 5, 1)) := by decide +kernel
theorem dL_law_248 : decode cL_law 248 = .ok (.iconst 2, 1) := bdL_law_248.1
theorem dL_law_249 : decode cL_law 249 = .ok (.iadd, 1) := bdL_law_248.2.1
theorem dL_law_250 : decode cL_law 250 = .ok (.iaload, 1) := bdL_law_248.2.2.1
theorem dL_law_251 : decode cL_law 251 = .ok (.aload_n 0, 1) := bdL_law_248.2.2.2.1
theorem dL_law_252 : decode cL_law 252 = .ok (.iload_n 3, 1) := bdL_law_248.2.2.2.2.1
theorem dL_law_253 : decode cL_law 253 = .ok (.iconst 3, 1) := bdL_law_248.2.2.2.2.2.1
theorem dL_law_254 : decode cL_law 254 = .ok (.iadd, 1) := bdL_law_248.2.2.2.2.2.2.1
theorem dL_law_255 : decode cL_law 255 = .ok (.iaload, 1) := bdL_law_248.2.2.2.2.2.2.2.1
theorem dL_law_256 : decode cL_law 256 = .ok (.aload_n 0, 1) := bdL_law_248.2.2.2.2.2.2.2.2.1
theorem dL_law_257 : decode cL_law 257 = .ok (.iload_n 3, 1) := bdL_law_248.2.2.2.2.2.2.2.2.2.1
theorem dL_law_258 : decode cL_law 258 = .ok (.iconst 4, 1) := bdL_law_248.2.2.2.2.2.2.2.2.2.2.1
theorem dL_law_259 : decode cL_law 259 = .ok (.iadd, 1) := bdL_law_248.2.2.2.2.2.2.2.2.2.2.2.1
theorem dL_law_260 : decode cL_law 260 = .ok (.iaload, 1) := bdL_law_248.2.2.2.2.2.2.2.2.2.2.2.2.1
theorem dL_law_261 : decode cL_law 261 = .ok (.aload_n 0, 1) := bdL_law_248.2.2.2.2.2.2.2.2.2.2.2.2.2.1
theorem dL_law_262 : decode cL_law 262 = .ok (.iload_n 3, 1) := bdL_law_248.2.2.2.2.2.2.2.2.2.2.2.2.2.2.1
theorem dL_law_263 : decode cL_law 263 = .ok (.iconst 5, 1) := bdL_law_248.2.2.2.2.2.2.2.2.2.2.2.2.2.2.2
theorem bdL_law_264 : (decode cL_law 264 = .ok (.iadd, 1)) ∧ (decode cL_law 265 = .ok (.iaload, 1)) ∧ (decode cL_law 266 = .ok (.invokevirtual 23, 3)) ∧ (decode cL_law 269 = .ok (.pop, 1)) ∧ (decode cL_law 270 = .ok (.aload_n 2, 1)) ∧ (decode cL_law 271 = .ok (.aload_n 0, 1)) ∧ (decode cL_law 272 = .ok (.iload_n 3, 1)) ∧ (decode cL_law 273 = .ok (.iconst 1, 1)) ∧ (decode cL_law 274 = .ok (.iadd, 1)) ∧ (decode cL_law 275 = .ok (.iaload, 1)) ∧ (decode cL_law 276 = .ok (.aload_n 0, 1)) ∧ (decode cL_law 277 = .ok (.iload_n 3, 1)) ∧ (decode cL_law 278 = .ok (.iconst 2, 1)) ∧ (decode cL_law 279 = .ok (.iadd, 1)) ∧ (decode cL_law 280 = .ok (.iaload, 1)) ∧ (decode cL_law 281 = .ok (.aload_n 0, 1)) := by decide +kernel
theorem dL_law_264 : decode cL_law 264 = .ok (.iadd, 1) := bdL_law_264.1
theorem dL_law_265 : decode cL_law 265 = .ok (.iaload, 1) := bdL_law_264.2.1
theorem dL_law_266 : decode cL_law 266 = .ok (.invokevirtual 23, 3) := bdL_law_264.2.2.1
theorem dL_law_269 : decode cL_law 269 = .ok (.pop, 1) := bdL_law_264.2.2.2.1
theorem dL_law_270 : decode cL_law 270 = .ok (.aload_n 2, 1) := bdL_law_264.2.2.2.2.1
theorem dL_law_271 : decode cL_law 271 = .ok (.aload_n 0, 1) := bdL_law_264.2.2.2.2.2.1
theorem dL_law_272 : decode cL_law 272 = .ok (.iload_n 3, 1) := bdL_law_264.2.2.2.2.2.2.1
theorem dL_law_273 : decode cL_law 273 = .ok (.iconst 1, 1) := bdL_law_264.2.2.2.2.2.2.2.1
theorem dL_law_274 : decode cL_law 274 = .ok (.iadd, 1) := bdL_law_264.2.2.2.2.2.2.2.2.1
theorem dL_law_275 : decode cL_law 275 = .ok (.iaload, 1) := bdL_law_264.2.2.2.2.2.2.2.2.2.1
theorem dL_law_276 : decode cL_law 276 = .ok (.aload_n 0, 1) := bdL_law_264.2.2.2.2.2.2.2.2.2.2.1
theorem dL_law_277 : decode cL_law 277 = .ok (.iload_n 3, 1) := bdL_law_264.2.2.2.2.2.2.2.2.2.2.2.1
theorem dL_law_278 : decode cL_law 278 = .ok (.iconst 2, 1) := bdL_law_264.2.2.2.2.2.2.2.2.2.2.2.2.1
theorem dL_law_279 : decode cL_law 279 = .ok (.iadd, 1) := bdL_law_264.2.2.2.2.2.2.2.2.2.2.2.2.2.1
theorem dL_law_280 : decode cL_law 280 = .ok (.iaload, 1) := bdL_law_264.2.2.2.2.2.2.2.2.2.2.2.2.2.2.1
theorem dL_law_281 : decode cL_law 281 = .ok (.aload_n 0, 1) := bdL_law_264.2.2.2.2.2.2.2.2.2.2.2.2.2.2.2
theorem bdL_law_282 : (decode cL_law 282 = .ok (.iload_n 3, 1)) ∧ (decode cL_law 283 = .ok (.iconst 3, 1)) ∧ (decode cL_law 284 = .ok (.iadd, 1)) ∧ (decode cL_law 285 = .ok (.iaload, 1)) ∧ (decode cL_law 286 = .ok (.aload_n 0, 1)) ∧ (decode cL_law 287 = .ok (.iload_n 3, 1)) ∧ (decode cL_law 288 = .ok (.iconst 4, 1)) ∧ (decode cL_law 289 = .ok (.iadd, 1)) ∧ (decode cL_law 290 = .ok (.iaload, 1)) ∧ (decode cL_law 291 = .ok (.aload_n 0, 1)) ∧ (decode cL_law 292 = .ok (.iload_n 3, 1)) ∧ (decode cL_law 293 = .ok (.iconst 5, 1)) ∧ (decode cL_law 294 = .ok (.iadd, 1)) ∧ (decode cL_law 295 = .ok (.iaload, 1)) ∧ (decode cL_law 296 = .ok (.invokevirtual 27, 3)) ∧ (decode cL_law 299 = .ok (.pop, 1)) := by decide +kernel
theorem dL_law_282 : decode cL_law 282 = .ok (.iload_n 3, 1) := bdL_law_282.1
theorem dL_law_283 : decode cL_law 283 = .ok (.iconst 3, 1) := bdL_law_282.2.1
theorem dL_law_284 : decode cL_law 284 = .ok (.iadd, 1) := bdL_law_282.2.2.1
theorem dL_law_285 : decode cL_law 285 = .ok (.iaload, 1) := bdL_law_282.2.2.2.1
theorem dL_law_286 : decode cL_law 286 = .ok (.aload_n 0, 1) := bdL_law_282.2.2.2.2.1
theorem dL_law_287 : decode cL_law 287 = .ok (.iload_n 3, 1) := bdL_law_282.2.2.2.2.2.1
theorem dL_law_288 : decode cL_law 288 = .ok (.iconst 4, 1) := bdL_law_282.2.2.2.2.2.2.1
theorem dL_law_289 : decode cL_law 289 = .ok (.iadd, 1) := bdL_law_282.2.2.2.2.2.2.2.1
theorem dL_law_290 : decode cL_law 290 = .ok (.iaload, 1) := bdL_law_282.2.2.2.2.2.2.2.2.1
theorem dL_law_291 : decode cL_law 291 = .ok (.aload_n 0, 1) := bdL_law_282.2.2.2.2.2.2.2.2.2.1
theorem dL_law_292 : decode cL_law 292 = .ok (.iload_n 3, 1) := bdL_law_282.2.2.2.2.2.2.2.2.2.2.1
theorem dL_law_293 : decode cL_law 293 = .ok (.iconst 5, 1) := bdL_law_282.2.2.2.2.2.2.2.2.2.2.2.1
theorem dL_law_294 : decode cL_law 294 = .ok (.iadd, 1) := bdL_law_282.2.2.2.2.2.2.2.2.2.2.2.2.1
theorem dL_law_295 : decode cL_law 295 = .ok (.iaload, 1) := bdL_law_282.2.2.2.2.2.2.2.2.2.2.2.2.2.1
theorem dL_law_296 : decode cL_law 296 = .ok (.invokevirtual 27, 3) := bdL_law_282.2.2.2.2.2.2.2.2.2.2.2.2.2.2.1
theorem dL_law_299 : decode cL_law 299 = .ok (.pop, 1) := bdL_law_282.2.2.2.2.2.2.2.2.2.2.2.2.2.2.2
theorem bdL_law_300 : (decode cL_law 300 = .ok (.goto 1090, 3)) ∧ (decode cL_law 303 = .ok (.aload_n 1, 1)) ∧ (decode cL_law 304 = .ok (.aload_n 0, 1)) ∧ (decode cL_law 305 = .ok (.iload_n 3, 1)) ∧ (decode cL_law 306 = .ok (.iconst 1, 1)) ∧ (decode cL_law 307 = .ok (.iadd, 1)) ∧ (decode cL_law 308 = .ok (.iaload, 1)) ∧ (decode cL_law 309 = .ok (.aload_n 0, 1)) ∧ (decode cL_law 310 = .ok (.iload_n 3, 1)) ∧ (decode cL_law 311 = .ok (.iconst 2, 1)) ∧ (decode cL_law 312 = .ok (.iadd, 1)) ∧ (decode cL_law 313 = .ok (.iaload, 1)) ∧ (decode cL_law 314 = .ok (.invokevirtual 28, 3)) ∧ (decode cL_law 317 = .ok (.pop, 1)) ∧ (decode cL_law 318 = .ok (.aload_n 2, 1)) ∧ (decode cL_law 319 = .ok (.aload_n 0, 1)) := by decide +kernel
theorem dL_law_300 : decode cL_law 300 = .ok (.goto 1090, 3) := bdL_law_300.1
theorem dL_law_303 : decode cL_law 303 = .ok (.aload_n 1, 1) := bdL_law_300.2.1
theorem dL_law_304 : decode cL_law 304 = .ok (.aload_n 0, 1) := bdL_law_300.2.2.1
theorem dL_law_305 : decode cL_law 305 = .ok (.iload_n 3, 1) := bdL_law_300.2.2.2.1
theorem dL_law_306 : decode cL_law 306 = .ok (.iconst 1, 1) := bdL_law_300.2.2.2.2.1
theorem dL_law_307 : decode cL_law 307 = .ok (.iadd, 1) := bdL_law_300.2.2.2.2.2.1
theorem dL_law_308 : decode cL_law 308 = .ok (.iaload, 1) := bdL_law_300.2.2.2.2.2.2.1
theorem dL_law_309 : decode cL_law 309 = .ok (.aload_n 0, 1) := bdL_law_300.2.2.2.2.2.2.2.1
theorem dL_law_310 : decode cL_law 310 = .ok (.iload_n 3, 1) := bdL_law_300.2.2.2.2.2.2.2.2.1
theorem dL_law_311 : decode cL_law 311 = .ok (.iconst 2, 1) := bdL_law_300.2.2.2.2.2.2.2.2.2.1
theorem dL_law_312 : decode cL_law 312 = .ok (.iadd, 1) := bdL_law_300.2.2.2.2.2.2.2.2.2.2.1
theorem dL_law_313 : decode cL_law 313 = .ok (.iaload, 1) := bdL_law_300.2.2.2.2.2.2.2.2.2.2.2.1
theorem dL_law_314 : decode cL_law 314 = .ok (.invokevirtual 28, 3) := bdL_law_300.2.2.2.2.2.2.2.2.2.2.2.2.1
theorem dL_law_317 : decode cL_law 317 = .ok (.pop, 1) := bdL_law_300.2.2.2.2.2.2.2.2.2.2.2.2.2.1
theorem dL_law_318 : decode cL_law 318 = .ok (.aload_n 2, 1) := bdL_law_300.2.2.2.2.2.2.2.2.2.2.2.2.2.2.1
theorem dL_law_319 : decode cL_law 319 = .ok (.aload_n 0, 1) := bdL_law_300.2.2.2.2.2.2.2.2.2.2.2.2.2.2.2
theorem bdL_law_320 : (decode cL_law 320 = .ok (.iload_n 3, 1)) ∧ (decode cL_law 321 = .ok (.iconst 1, 1)) ∧ (decode cL_law 322 = .ok (.iadd, 1)) ∧ (decode cL_law 323 = .ok (.iaload, 1)) ∧ (decode cL_law 324 = .ok (.aload_n 0, 1)) ∧ (decode cL_law 325 = .ok (.iload_n 3, 1)) ∧ (decode cL_law 326 = .ok (.iconst 2, 1)) ∧ (decode cL_law 327 = .ok (.iadd, 1)) ∧ (decode cL_law 328 = .ok (.iaload, 1)) ∧ (decode cL_law 329 = .ok (.invokevirtual 31, 3)) ∧ (decode cL_law 332 = .ok (.pop, 1)) ∧ (decode cL_law 333 = .ok (.goto 1057, 3)) ∧ (decode cL_law 336 = .ok (.aload_n 1, 1)) ∧ (decode cL_law 337 = .ok (.aload_n 0, 1)) ∧ (decode cL_law 338 = .ok (.iload_n 3, 1)) ∧ (decode cL_law 339 = .ok (.iconst 1, 1)) := by decide +kernel
theorem dL_law_320 : decode cL_law 320 = .ok (.iload_n 3, 1) := bdL_law_320.1
theorem dL_law_321 : decode cL_law 321 = .ok (.iconst 1, 1) := bdL_law_320.2.1
theorem dL_law_322 : decode cL_law 322 = .ok (.iadd, 1) := bdL_law_320.2.2.1
theorem dL_law_323 : decode cL_law 323 = .ok (.iaload, 1) := bdL_law_320.2.2.2.1
theorem dL_law_324 : decode cL_law 324 = .ok (.aload_n 0, 1) := bdL_law_320.2.2.2.2.1
theorem dL_law_325 : decode cL_law 325 = .ok (.iload_n 3, 1) := bdL_law_320.2.2.2.2.2.1
theorem dL_law_326 : decode cL_law 326 = .ok (.iconst 2, 1) := bdL_law_320.2.2.2.2.2.2.1
theorem dL_law_327 : decode cL_law 327 = .ok (.iadd, 1) := bdL_law_320.2.2.2.2.2.2.2.1
theorem dL_law_328 : decode cL_law 328 = .ok (.iaload, 1) := bdL_law_320.2.2.2.2.2.2.2.2.1
theorem dL_law_329 : decode cL_law 329 = .ok (.invokevirtual 31, 3) := bdL_law_320.2.2.2.2.2.2.2.2.2.1
theorem dL_law_332 : decode cL_law 332 = .ok (.pop, 1) := bdL_law_320.2.2.2.2.2.2.2.2.2.2.1
theorem dL_law_333 : decode cL_law 333 = .ok (.goto 1057, 3) := bdL_law_320.2.2.2.2.2.2.2.2.2.2.2.1
theorem dL_law_336 : decode cL_law 336 = .ok (.aload_n 1, 1) := bdL_law_320.2.2.2.2.2.2.2.2.2.2.2.2.1
theorem dL_law_337 : decode cL_law 337 = .ok (.aload_n 0, 1) := bdL_law_320.2.2.2.2.2.2.2.2.2.2.2.2.2.1
theorem dL_law_338 : decode cL_law 338 = .ok (.iload_n 3, 1) := bdL_law_320.2.2.2.2.2.2.2.2.2.2.2.2.2.2.1
theorem dL_law_339 : decode cL_law 339 = .ok (.iconst 1, 1) := bdL_law_320.2.2.2.2.2.2.2.2.2.2.2.2.2.2.2
theorem bdL_law_340 : (decode cL_law 340 = .ok (.iadd, 1)) ∧ (decode cL_law 341 = .ok (.iaload, 1)) ∧ (decode cL_law 342 = .ok (.aload_n 0, 1)) ∧ (decode cL_law 343 = .ok (.iload_n 3, 1)) ∧ (decode cL_law 344 = .ok (.iconst 2, 1)) ∧ (decode cL_law 345 = .ok (.iadd, 1)) ∧ (decode cL_law 346 = .ok (.iaload, 1)) ∧ (decode cL_law 347 = .ok (.invokevirtual 32, 3)) ∧ (decode cL_law 350 = .ok (.pop, 1)) ∧ (decode cL_law 351 = .ok (.aload_n 2, 1)) ∧ (decode cL_law 352 = .ok (.aload_n 0, 1)) ∧ (decode cL_law 353 = .ok (.iload_n 3, 1)) ∧ (decode cL_law 354 = .ok (.iconst 1, 1)) ∧ (decode cL_law 355 = .ok (.iadd, 1)) ∧ (decode cL_law 356 = .ok (.iaload, 1)) ∧ (decode cL_law 357 = .ok (.aload_n 0, 1)) := by decide +kernel
theorem dL_law_340 : decode cL_law 340 = .ok (.iadd, 1) := bdL_law_340.1
theorem dL_law_341 : decode cL_law 341 = .ok (.iaload, 1) := bdL_law_340.2.1
theorem dL_law_342 : decode cL_law 342 = .ok (.aload_n 0, 1) := bdL_law_340.2.2.1
theorem dL_law_343 : decode cL_law 343 = .ok (.iload_n 3, 1) := bdL_law_340.2.2.2.1
theorem dL_law_344 : decode cL_law 344 = .ok (.iconst 2, 1) := bdL_law_340.2.2.2.2.1
theorem dL_law_345 : decode cL_law 345 = .ok (.iadd, 1) := bdL_law_340.2.2.2.2.2.1
theorem dL_law_346 : decode cL_law 346 = .ok (.iaload, 1) := bdL_law_340.2.2.2.2.2.2.1
theorem dL_law_347 : decode cL_law 347 = .ok (.invokevirtual 32, 3) := bdL_law_340.2.2.2.2.2.2.2.1
theorem dL_law_350 : decode cL_law 350 = .ok (.pop, 1) := bdL_law_340.2.2.2.2.2.2.2.2.1
theorem dL_law_351 : decode cL_law 351 = .ok (.aload_n 2, 1) := bdL_law_340.2.2.2.2.2.2.2.2.2.1
theorem dL_law_352 : decode cL_law 352 = .ok (.aload_n 0, 1) := bdL_law_340.2.2.2.2.2.2.2.2.2.2.1
theorem dL_law_353 : decode cL_law 353 = .ok (.iload_n 3, 1) := bdL_law_340.2.2.2.2.2.2.2.2.2.2.2.1
theorem dL_law_354 : decode cL_law 354 = .ok (.iconst 1, 1) := bdL_law_340.2.2.2.2.2.2.2.2.2.2.2.2.1
theorem dL_law_355 : decode cL_law 355 = .ok (.iadd, 1) := bdL_law_340.2.2.2.2.2.2.2.2.2.2.2.2.2.1
theorem dL_law_356 : decode cL_law 356 = .ok (.iaload, 1) := bdL_law_340.2.2.2.2.2.2.2.2.2.2.2.2.2.2.1
theorem dL_law_357 : decode cL_law 357 = .ok (.aload_n 0, 1) := bdL_law_340.2.2.2.2.2.2.2.2.2.2.2.2.2.2.2
theorem bdL_law_358 : (decode cL_law 358 = .ok (.iload_n 3, 1)) ∧ (decode cL_law 359 = .ok (.iconst 2, 1)) ∧ (decode cL_law 360 = .ok (.iadd, 1)) ∧ (decode cL_law 361 = .ok (.iaload, 1)) ∧ (decode cL_law 362 = .ok (.invokevirtual 35, 3)) ∧ (decode cL_law 365 = .ok (.pop, 1)) ∧ (decode cL_law 366 = .ok (.goto 1024, 3)) ∧ (decode cL_law 369 = .ok (.aload_n 1, 1)) ∧ (decode cL_law 370 = .ok (.aload_n 0, 1)) ∧ (decode cL_law 371 = .ok (.iload_n 3, 1)) ∧ (decode cL_law 372 = .ok (.iconst 1, 1)) ∧ (decode cL_law 373 = .ok (.iadd, 1)) ∧ (decode cL_law 374 = .ok (.iaload, 1)) ∧ (decode cL_law 375 = .ok (.invokevirtual 36, 3)) ∧ (decode cL_law 378 = .ok (.pop, 1)) ∧ (decode cL_law 379 = .ok (.aload_n 2, 1)) := by decide +kernel
theorem dL_law_358 : decode cL_law 358 = .ok (.iload_n 3, 1) := bdL_law_358.1
theorem dL_law_359 : decode cL_law 359 = .ok (.iconst 2, 1) := bdL_law_358.2.1
theorem dL_law_360 : decode cL_law 360 = .ok (.iadd, 1) := bdL_law_358.2.2.1
theorem dL_law_361 : decode cL_law 361 = .ok (.iaload, 1) := bdL_law_358.2.2.2.1
theorem dL_law_362 : decode cL_law 362 = .ok (.invokevirtual 35, 3) := bdL_law_358.2.2.2.2.1
theorem dL_law_365 : decode cL_law 365 = .ok (.pop, 1) := bdL_law_358.2.2.2.2.2.1
theorem dL_law_366 : decode cL_law 366 = .ok (.goto 1024, 3) := bdL_law_358.2.2.2.2.2.2.1
theorem dL_law_369 : decode cL_law 369 = .ok (.aload_n 1, 1) := bdL_law_358.2.2.2.2.2.2.2.1
theorem dL_law_370 : decode cL_law 370 = .ok (.aload_n 0, 1) := bdL_law_358.2.2.2.2.2.2.2.2.1
theorem dL_law_371 : decode cL_law 371 = .ok (.iload_n 3, 1) := bdL_law_358.2.2.2.2.2.2.2.2.2.1
theorem dL_law_372 : decode cL_law 372 = .ok (.iconst 1, 1) := bdL_law_358.2.2.2.2.2.2.2.2.2.2.1
theorem dL_law_373 : decode cL_law 373 = .ok (.iadd, 1) := bdL_law_358.2.2.2.2.2.2.2.2.2.2.2.1
theorem dL_law_374 : decode cL_law 374 = .ok (.iaload, 1) := bdL_law_358.2.2.2.2.2.2.2.2.2.2.2.2.1
theorem dL_law_375 : decode cL_law 375 = .ok (.invokevirtual 36, 3) := bdL_law_358.2.2.2.2.2.2.2.2.2.2.2.2.2.1
theorem dL_law_378 : decode cL_law 378 = .ok (.pop, 1) := bdL_law_358.2.2.2.2.2.2.2.2.2.2.2.2.2.2.1
theorem dL_law_379 : decode cL_law 379 = .ok (.aload_n 2, 1) := bdL_law_358.2.2.2.2.2.2.2.2.2.2.2.2.2.2.2
theorem bdL_law_380 : (decode cL_law 380 = .ok (.aload_n 0, 1)) ∧ (decode cL_law 381 = .ok (.iload_n 3, 1)) ∧ (decode cL_law 382 = .ok (.iconst 1, 1)) ∧ (decode cL_law 383 = .ok (.iadd, 1)) ∧ (decode cL_law 384 = .ok (.iaload, 1)) ∧ (decode cL_law 385 = .ok (.invokevirtual 40, 3)) ∧ (decode cL_law 388 = .ok (.pop, 1)) ∧ (decode cL_law 389 = .ok (.goto 1001, 3)) ∧ (decode cL_law 392 = .ok (.aload_n 1, 1)) ∧ (decode cL_law 393 = .ok (.aload_n 0, 1)) ∧ (decode cL_law 394 = .ok (.iload_n 3, 1)) ∧ (decode cL_law 395 = .ok (.iconst 1, 1)) ∧ (decode cL_law 396 = .ok (.iadd, 1)) ∧ (decode cL_law 397 = .ok (.iaload, 1)) ∧ (decode cL_law 398 = .ok (.aload_n 0, 1)) ∧ (decode cL_law 399 = .ok (.iload_n 3, 1)) := by decide +kernel
theorem dL_law_380 : decode cL_law 380 = .ok (.aload_n 0, 1) := bdL_law_380.1
theorem dL_law_381 : decode cL_law 381 = .ok (.iload_n 3, 1) := bdL_law_380.2.1
theorem dL_law_382 : decode cL_law 382 = .ok (.iconst 1, 1) := bdL_law_380.2.2.1
theorem dL_law_383 : decode cL_law 383 = .ok (.iadd, 1) := bdL_law_380.2.2.2.1
theorem dL_law_384 : decode cL_law 384 = .ok (.iaload, 1) := bdL_law_380.2.2.2.2.1
theorem dL_law_385 : decode cL_law 385 = .ok (.invokevirtual 40, 3) := bdL_law_380.2.2.2.2.2.1
theorem dL_law_388 : decode cL_law 388 = .ok (.pop, 1) := bdL_law_380.2.2.2.2.2.2.1
theorem dL_law_389 : decode cL_law 389 = .ok (.goto 1001, 3) := bdL_law_380.2.2.2.2.2.2.2.1
theorem dL_law_392 : decode cL_law 392 = .ok (.aload_n 1, 1) := bdL_law_380.2.2.2.2.2.2.2.2.1
theorem dL_law_393 : decode cL_law 393 = .ok (.aload_n 0, 1) := bdL_law_380.2.2.2.2.2.2.2.2.2.1
theorem dL_law_394 : decode cL_law 394 = .ok (.iload_n 3, 1) := bdL_law_380.2.2.2.2.2.2.2.2.2.2.1
theorem dL_law_395 : decode cL_law 395 = .ok (.iconst 1, 1) := bdL_law_380.2.2.2.2.2.2.2.2.2.2.2.1
theorem dL_law_396 : decode cL_law 396 = .ok (.iadd, 1) := bdL_law_380.2.2.2.2.2.2.2.2.2.2.2.2.1
theorem dL_law_397 : decode cL_law 397 = .ok (.iaload, 1) := bdL_law_380.2.2.2.2.2.2.2.2.2.2.2.2.2.1
theorem dL_law_398 : decode cL_law 398 = .ok (.aload_n 0, 1) := bdL_law_380.2.2.2.2.2.2.2.2.2.2.2.2.2.2.1
theorem dL_law_399 : decode cL_law 399 = .ok (.iload_n 3, 1) := bdL_law_380.2.2.2.2.2.2.2.2.2.2.2.2.2.2.2
theorem bdL_law_400 : (decode cL_law 400 = .ok (.iconst 2, 1)) ∧ (decode cL_law 401 = .ok (.iadd, 1)) ∧ (decode cL_law 402 = .ok (.iaload, 1)) ∧ (decode cL_law 403 = .ok (.aload_n 0, 1)) ∧ (decode cL_law 404 = .ok (.iload_n 3, 1)) ∧ (decode cL_law 405 = .ok (.iconst 3, 1)) ∧ (decode cL_law 406 = .ok (.iadd, 1)) ∧ (decode cL_law 407 = .ok (.iaload, 1)) ∧ (decode cL_law 408 = .ok (.aload_n 0, 1)) ∧ (decode cL_law 409 = .ok (.iload_n 3, 1)) ∧ (decode cL_law 410 = .ok (.iconst 4, 1)) ∧ (decode cL_law 411 = .ok (.iadd, 1)) ∧ (decode cL_law 412 = .ok (.iaload, 1)) ∧ (decode cL_law 413 = .ok (.aload_n 0, 1)) ∧ (decode cL_law 414 = .ok (.iload_n 3, 1)) ∧ (decode cL_law 415 = .ok (.iconst 5, 1)) := by decide +kernel
theorem dL_law_400 : decode cL_law 400 = .ok (.iconst 2, 1) := bdL_law_400.1
theorem dL_law_401 : decode cL_law 401 = .ok (.iadd, 1) := bdL_law_400.2.1
theorem dL_law_402 : decode cL_law 402 = .ok (.iaload, 1) := bdL_law_400.2.2.1
theorem dL_law_403 : decode cL_law 403 = .ok (.aload_n 0, 1) := bdL_law_400.2.2.2.1
theorem dL_law_404 : decode cL_law 404 = .ok (.iload_n 3, 1) := bdL_law_400.2.2.2.2.1
theorem dL_law_405 : decode cL_law 405 = .ok (.iconst 3, 1) := bdL_law_400.2.2.2.2.2.1
theorem dL_law_406 : decode cL_law 406 = .ok (.iadd, 1) := bdL_law_400.2.2.2.2.2.2.1
theorem dL_law_407 : decode cL_law 407 = .ok (.iaload, 1) := bdL_law_400.2.2.2.2.2.2.2.1
theorem dL_law_408 : decode cL_law 408 = .ok (.aload_n 0, 1) := bdL_law_400.2.2.2.2.2.2.2.2.1
theorem dL_law_409 : decode cL_law 409 = .ok (.iload_n 3, 1) := bdL_law_400.2.2.2.2.2.2.2.2.2.1
theorem dL_law_410 : decode cL_law 410 = .ok (.iconst 4, 1) := bdL_law_400.2.2.2.2.2.2.2.2.2.2.1
theorem dL_law_411 : decode cL_law 411 = .ok (.iadd, 1) := bdL_law_400.2.2.2.2.2.2.2.2.2.2.2.1
theorem dL_law_412 : decode cL_law 412 = .ok (.iaload, 1) := bdL_law_400.2.2.2.2.2.2.2.2.2.2.2.2.1
theorem dL_law_413 : decode cL_law 413 = .ok (.aload_n 0, 1) := bdL_law_400.2.2.2.2.2.2.2.2.2.2.2.2.2.1
theorem dL_law_414 : decode cL_law 414 = .ok (.iload_n 3, 1) := bdL_law_400.2.2.2.2.2.2.2.2.2.2.2.2.2.2.1
theorem dL_law_415 : decode cL_law 415 = .ok (.iconst 5, 1) := bdL_law_400.2.2.2.2.2.2.2.2.2.2.2.2.2.2.2
theorem bdL_law_416 : (decode cL_law 416 = .ok (.iadd, 1)) ∧ (decode cL_law 417 = .ok (.iaload, 1)) ∧ (decode cL_law 418 = .ok (.aload_n 0, 1)) ∧ (decode cL_law 419 = .ok (.iload_n 3, 1)) ∧ (decode cL_law 420 = .ok (.bipush 6, 2)) ∧ (decode cL_law 422 = .ok (.iadd, 1)) ∧ (decode cL_law 423 = .ok (.iaload, 1)) ∧ (decode cL_law 424 = .ok (.ifCond .eq 7, 3)) ∧ (decode cL_law 427 = .ok (.iconst 1, 1)) ∧ (decode cL_law 428 = .ok (.goto 4, 3)) ∧ (decode cL_law 431 = .ok (.iconst 0, 1)) ∧ (decode cL_law 432 = .ok (.aload_n 0, 1)) ∧ (decode cL_law 433 = .ok (.iload_n 3, 1)) ∧ (decode cL_law 434 = .ok (.bipush 7, 2)) ∧ (decode cL_law 436 = .ok (.iadd, 1)) ∧ (decode cL_law 437 = .ok (.iaload, 1)) := by decide +kernel
theorem dL_law_416 : decode cL_law 416 = .ok (.iadd, 1) := bdL_law_416.1
theorem dL_law_417 : decode cL_law 417 = .ok (.iaload, 1) := bdL_law_416.2.1
theorem dL_law_418 : decode cL_law 418 = .ok (.aload_n 0, 1) := bdL_law_416.2.2.1
theorem dL_law_419 : decode cL_law 419 = .ok (.iload_n 3, 1) := bdL_law_416.2.2.2.1
theorem dL_law_420 : decode cL_law 420 = .ok (.bipush 6, 2) := bdL_law_416.2.2.2.2.1
theorem dL_law_422 : decode cL_law 422 = .ok (.iadd, 1) := bdL_law_416.2.2.2.2.2.1
theorem dL_law_423 : decode cL_law 423 = .ok (.iaload, 1) := bdL_law_416.2.2.2.2.2.2.1
theorem dL_law_424 : decode cL_law 424 = .ok (.ifCond .eq 7, 3) := bdL_law_416.2.2.2.2.2.2.2.1
theorem dL_law_427 : decode cL_law 427 = .ok (.iconst 1, 1) := bdL_law_416.2.2.2.2.2.2.2.2.1
theorem dL_law_428 : decode cL_law 428 = .ok (.goto 4, 3) := bdL_law_416.2.2.2.2.2.2.2.2.2.1
theorem dL_law_431 : decode cL_law 431 = .ok (.iconst 0, 1) := bdL_law_416.2.2.2.2.2.2.2.2.2.2.1
theorem dL_law_432 : decode cL_law 432 = .ok (.aload_n 0, 1) := bdL_law_416.2.2.2.2.2.2.2.2.2.2.2.1
theorem dL_law_433 : decode cL_law 433 = .ok (.iload_n 3, 1) := bdL_law_416.2.2.2.2.2.2.2.2.2.2.2.2.1
theorem dL_law_434 : decode cL_law 434 = .ok (.bipush 7, 2) := bdL_law_416.2.2.2.2.2.2.2.2.2.2.2.2.2.1
theorem dL_law_436 : decode cL_law 436 = .ok (.iadd, 1) := bdL_law_416.2.2.2.2.2.2.2.2.2.2.2.2.2.2.1
theorem dL_law_437 : decode cL_law 437 = .ok (.iaload, 1) := bdL_law_416.2.2.2.2.2.2.2.2.2.2.2.2.2.2.2
theorem bdL_law_438 : (decode cL_law 438 = .ok (.ifCond .eq 7, 3)) ∧ (decode cL_law 441 = .ok (.iconst 1, 1)) ∧ (decode cL_law 442 = .ok (.goto 4, 3)) ∧ (decode cL_law 445 = .ok (.iconst 0, 1)) ∧ (decode cL_law 446 = .ok (.invokevirtual 41, 3)) ∧ (decode cL_law 449 = .ok (.pop, 1)) ∧ (decode cL_law 450 = .ok (.aload_n 2, 1)) ∧ (decode cL_law 451 = .ok (.aload_n 0, 1)) ∧ (decode cL_law 452 = .ok (.iload_n 3, 1)) ∧ (decode cL_law 453 = .ok (.iconst 1, 1)) ∧ (decode cL_law 454 = .ok (.iadd, 1)) ∧ (decode cL_law 455 = .ok (.iaload, 1)) ∧ (decode cL_law 456 = .ok (.aload_n 0, 1)) ∧ (decode cL_law 457 = .ok (.iload_n 3, 1)) ∧ (decode cL_law 458 = .ok (.iconst 2, 1)) ∧ (decode cL_law 459 = .ok (.iadd, 1)) := by decide +kernel
theorem dL_law_438 : decode cL_law 438 = .ok (.ifCond .eq 7, 3) := bdL_law_438.1
theorem dL_law_441 : decode cL_law 441 = .ok (.iconst 1, 1) := bdL_law_438.2.1
theorem dL_law_442 : decode cL_law 442 = .ok (.goto 4, 3) := bdL_law_438.2.2.1
theorem dL_law_445 : decode cL_law 445 = .ok (.iconst 0, 1) := bdL_law_438.2.2.2.1
theorem dL_law_446 : decode cL_law 446 = .ok (.invokevirtual 41, 3) := bdL_law_438.2.2.2.2.1
theorem dL_law_449 : decode cL_law 449 = .ok (.pop, 1) := bdL_law_438.2.2.2.2.2.1
theorem dL_law_450 : decode cL_law 450 = .ok (.aload_n 2, 1) := bdL_law_438.2.2.2.2.2.2.1
theorem dL_law_451 : decode cL_law 451 = .ok (.aload_n 0, 1) := bdL_law_438.2.2.2.2.2.2.2.1
theorem dL_law_452 : decode cL_law 452 = .ok (.iload_n 3, 1) := bdL_law_438.2.2.2.2.2.2.2.2.1
theorem dL_law_453 : decode cL_law 453 = .ok (.iconst 1, 1) := bdL_law_438.2.2.2.2.2.2.2.2.2.1
theorem dL_law_454 : decode cL_law 454 = .ok (.iadd, 1) := bdL_law_438.2.2.2.2.2.2.2.2.2.2.1
theorem dL_law_455 : decode cL_law 455 = .ok (.iaload, 1) := bdL_law_438.2.2.2.2.2.2.2.2.2.2.2.1
theorem dL_law_456 : decode cL_law 456 = .ok (.aload_n 0, 1) := bdL_law_438.2.2.2.2.2.2.2.2.2.2.2.2.1
theorem dL_law_457 : decode cL_law 457 = .ok (.iload_n 3, 1) := bdL_law_438.2.2.2.2.2.2.2.2.2.2.2.2.2.1
theorem dL_law_458 : decode cL_law 458 = .ok (.iconst 2, 1) := bdL_law_438.2.2.2.2.2.2.2.2.2.2.2.2.2.2.1
theorem dL_law_459 : decode cL_law 459 = .ok (.iadd, 1) := bdL_law_438.2.2.2.2.2.2.2.2.2.2.2.2.2.2.2
theorem bdL_law_460 : (decode cL_law 460 = .ok (.iaload, 1)) ∧ (decode cL_law 461 = .ok (.aload_n 0, 1)) ∧ (decode cL_law 462 = .ok (.iload_n 3, 1)) ∧ (decode cL_law 463 = .ok (.iconst 3, 1)) ∧ (decode cL_law 464 = .ok (.iadd, 1)) ∧ (decode cL_law 465 = .ok (.iaload, 1)) ∧ (decode cL_law 466 = .ok (.aload_n 0, 1)) ∧ (decode cL_law 467 = .ok (.iload_n 3, 1)) ∧ (decode cL_law 468 = .ok (.iconst 4, 1)) ∧ (decode cL_law 469 = .ok (.iadd, 1)) ∧ (decode cL_law 470 = .ok (.iaload, 1)) ∧ (decode cL_law 471 = .ok (.aload_n 0, 1)) ∧ (decode cL_law 472 = .ok (.iload_n 3, 1)) ∧ (decode cL_law 473 = .ok (.iconst 5, 1)) ∧ (decode cL_law 474 = .ok (.iadd, 1)) ∧ (decode cL_law 475 = .ok (.iaload, 1)) := by decide +kernel
theorem dL_law_460 : decode cL_law 460 = .ok (.iaload, 1) := bdL_law_460.1
theorem dL_law_461 : decode cL_law 461 = .ok (.aload_n 0, 1) := bdL_law_460.2.1
theorem dL_law_462 : decode cL_law 462 = .ok (.iload_n 3, 1) := bdL_law_460.2.2.1
theorem dL_law_463 : decode cL_law 463 = .ok (.iconst 3, 1) := bdL_law_460.2.2.2.1
theorem dL_law_464 : decode cL_law 464 = .ok (.iadd, 1) := bdL_law_460.2.2.2.2.1
theorem dL_law_465 : decode cL_law 465 = .ok (.iaload, 1) := bdL_law_460.2.2.2.2.2.1
theorem dL_law_466 : decode cL_law 466 = .ok (.aload_n 0, 1) := bdL_law_460.2.2.2.2.2.2.1
theorem dL_law_467 : decode cL_law 467 = .ok (.iload_n 3, 1) := bdL_law_460.2.2.2.2.2.2.2.1
theorem dL_law_468 : decode cL_law 468 = .ok (.iconst 4, 1) := bdL_law_460.2.2.2.2.2.2.2.2.1
theorem dL_law_469 : decode cL_law 469 = .ok (.iadd, 1) := bdL_law_460.2.2.2.2.2.2.2.2.2.1
theorem dL_law_470 : decode cL_law 470 = .ok (.iaload, 1) := bdL_law_460.2.2.2.2.2.2.2.2.2.2.1
theorem dL_law_471 : decode cL_law 471 = .ok (.aload_n 0, 1) := bdL_law_460.2.2.2.2.2.2.2.2.2.2.2.1
theorem dL_law_472 : decode cL_law 472 = .ok (.iload_n 3, 1) := bdL_law_460.2.2.2.2.2.2.2.2.2.2.2.2.1
theorem dL_law_473 : decode cL_law 473 = .ok (.iconst 5, 1) := bdL_law_460.2.2.2.2.2.2.2.2.2.2.2.2.2.1
theorem dL_law_474 : decode cL_law 474 = .ok (.iadd, 1) := bdL_law_460.2.2.2.2.2.2.2.2.2.2.2.2.2.2.1
theorem dL_law_475 : decode cL_law 475 = .ok (.iaload, 1) := bdL_law_460.2.2.2.2.2.2.2.2.2.2.2.2.2.2.2
theorem bdL_law_476 : (decode cL_law 476 = .ok (.aload_n 0, 1)) ∧ (decode cL_law 477 = .ok (.iload_n 3, 1)) ∧ (decode cL_law 478 = .ok (.bipush 6, 2)) ∧ (decode cL_law 480 = .ok (.iadd, 1)) ∧ (decode cL_law 481 = .ok (.iaload, 1)) ∧ (decode cL_law 482 = .ok (.ifCond .eq 7, 3)) ∧ (decode cL_law 485 = .ok (.iconst 1, 1)) ∧ (decode cL_law 486 = .ok (.goto 4, 3)) ∧ (decode cL_law 489 = .ok (.iconst 0, 1)) ∧ (decode cL_law 490 = .ok (.aload_n 0, 1)) ∧ (decode cL_law 491 = .ok (.iload_n 3, 1)) ∧ (decode cL_law 492 = .ok (.bipush 7, 2)) ∧ (decode cL_law 494 = .ok (.iadd, 1)) ∧ (decode cL_law 495 = .ok (.iaload, 1)) ∧ (decode cL_law 496 = .ok (.ifCond .eq 7, 3)) ∧ (decode cL_law 499 = .ok (.iconst 1, 1)) := by decide +kernel
theorem dL_law_476 : decode cL_law 476 = .ok (.aload_n 0, 1) := bdL_law_476.1
theorem dL_law_477 : decode cL_law 477 = .ok (.iload_n 3, 1) := bdL_law_476.2.1
theorem dL_law_478 : decode cL_law 478 = .ok (.bipush 6, 2) := bdL_law_476.2.2.1
theorem dL_law_480 : decode cL_law 480 = .ok (.iadd, 1) := bdL_law_476.2.2.2.1
theorem dL_law_481 : decode cL_law 481 = .ok (.iaload, 1) := bdL_law_476.2.2.2.2.1
theorem dL_law_482 : decode cL_law 482 = .ok (.ifCond .eq 7, 3) := bdL_law_476.2.2.2.2.2.1
theorem dL_law_485 : decode cL_law 485 = .ok (.iconst 1, 1) := bdL_law_476.2.2.2.2.2.2.1
theorem dL_law_486 : decode cL_law 486 = .ok (.goto 4, 3) := bdL_law_476.2.2.2.2.2.2.2.1
theorem dL_law_489 : decode cL_law 489 = .ok (.iconst 0, 1) := bdL_law_476.2.2.2.2.2.2.2.2.1
theorem dL_law_490 : decode cL_law 490 = .ok (.aload_n 0, 1) := bdL_law_476.2.2.2.2.2.2.2.2.2.1
theorem dL_law_491 : decode cL_law 491 = .ok (.iload_n 3, 1) := bdL_law_476.2.2.2.2.2.2.2.2.2.2.1
theorem dL_law_492 : decode cL_law 492 = .ok (.bipush 7, 2) := bdL_law_476.2.2.2.2.2.2.2.2.2.2.2.1
theorem dL_law_494 : decode cL_law 494 = .ok (.iadd, 1) := bdL_law_476.2.2.2.2.2.2.2.2.2.2.2.2.1
theorem dL_law_495 : decode cL_law 495 = .ok (.iaload, 1) := bdL_law_476.2.2.2.2.2.2.2.2.2.2.2.2.2.1
theorem dL_law_496 : decode cL_law 496 = .ok (.ifCond .eq 7, 3) := bdL_law_476.2.2.2.2.2.2.2.2.2.2.2.2.2.2.1
theorem dL_law_499 : decode cL_law 499 = .ok (.iconst 1, 1) := bdL_law_476.2.2.2.2.2.2.2.2.2.2.2.2.2.2.2
theorem bdL_law_500 : (decode cL_law 500 = .ok (.goto 4, 3)) ∧ (decode cL_law 503 = .ok (.iconst 0, 1)) ∧ (decode cL_law 504 = .ok (.invokevirtual 45, 3)) ∧ (decode cL_law 507 = .ok (.pop, 1)) ∧ (decode cL_law 508 = .ok (.goto 882, 3)) ∧ (decode cL_law 511 = .ok (.aload_n 1, 1)) ∧ (decode cL_law 512 = .ok (.aload_n 0, 1)) ∧ (decode cL_law 513 = .ok (.iload_n 3, 1)) ∧ (decode cL_law 514 = .ok (.iconst 1, 1)) ∧ (decode cL_law 515 = .ok (.iadd, 1)) ∧ (decode cL_law 516 = .ok (.iaload, 1)) ∧ (decode cL_law 517 = .ok (.aload_n 0, 1)) ∧ (decode cL_law 518 = .ok (.iload_n 3, 1)) ∧ (decode cL_law 519 = .ok (.iconst 2, 1)) ∧ (decode cL_law 520 = .ok (.iadd, 1)) ∧ (decode cL_law 521 = .ok (.iaload, 1)) := by decide +kernel
theorem dL_law_500 : decode cL_law 500 = .ok (.goto 4, 3) := bdL_law_500.1
theorem dL_law_503 : decode cL_law 503 = .ok (.iconst 0, 1) := bdL_law_500.2.1
theorem dL_law_504 : decode cL_law 504 = .ok (.invokevirtual 45, 3) := bdL_law_500.2.2.1
theorem dL_law_507 : decode cL_law 507 = .ok (.pop, 1) := bdL_law_500.2.2.2.1
theorem dL_law_508 : decode cL_law 508 = .ok (.goto 882, 3) := bdL_law_500.2.2.2.2.1
theorem dL_law_511 : decode cL_law 511 = .ok (.aload_n 1, 1) := bdL_law_500.2.2.2.2.2.1
theorem dL_law_512 : decode cL_law 512 = .ok (.aload_n 0, 1) := bdL_law_500.2.2.2.2.2.2.1
theorem dL_law_513 : decode cL_law 513 = .ok (.iload_n 3, 1) := bdL_law_500.2.2.2.2.2.2.2.1
theorem dL_law_514 : decode cL_law 514 = .ok (.iconst 1, 1) := bdL_law_500.2.2.2.2.2.2.2.2.1
theorem dL_law_515 : decode cL_law 515 = .ok (.iadd, 1) := bdL_law_500.2.2.2.2.2.2.2.2.2.1
theorem dL_law_516 : decode cL_law 516 = .ok (.iaload, 1) := bdL_law_500.2.2.2.2.2.2.2.2.2.2.1
theorem dL_law_517 : decode cL_law 517 = .ok (.aload_n 0, 1) := bdL_law_500.2.2.2.2.2.2.2.2.2.2.2.1
theorem dL_law_518 : decode cL_law 518 = .ok (.iload_n 3, 1) := bdL_law_500.2.2.2.2.2.2.2.2.2.2.2.2.1
theorem dL_law_519 : decode cL_law 519 = .ok (.iconst 2, 1) := bdL_law_500.2.2.2.2.2.2.2.2.2.2.2.2.2.1
theorem dL_law_520 : decode cL_law 520 = .ok (.iadd, 1) := bdL_law_500.2.2.2.2.2.2.2.2.2.2.2.2.2.2.1
theorem dL_law_521 : decode cL_law 521 = .ok (.iaload, 1) := bdL_law_500.2.2.2.2.2.2.2.2.2.2.2.2.2.2.2
theorem bdL_law_522 : (decode cL_law 522 = .ok (.aload_n 0, 1)) ∧ (decode cL_law 523 = .ok (.iload_n 3, 1)) ∧ (decode cL_law 524 = .ok (.iconst 3, 1)) ∧ (decode cL_law 525 = .ok (.iadd, 1)) ∧ (decode cL_law 526 = .ok (.iaload, 1)) ∧ (decode cL_law 527 = .ok (.aload_n 0, 1)) ∧ (decode cL_law 528 = .ok (.iload_n 3, 1)) ∧ (decode cL_law 529 = .ok (.iconst 4, 1)) ∧ (decode cL_law 530 = .ok (.iadd, 1)) ∧ (decode cL_law 531 = .ok (.iaload, 1)) ∧ (decode cL_law 532 = .ok (.aload_n 0, 1)) ∧ (decode cL_law 533 = .ok (.iload_n 3, 1)) ∧ (decode cL_law 534 = .ok (.iconst 5, 1)) ∧ (decode cL_law 535 = .ok (.iadd, 1)) ∧ (decode cL_law 536 = .ok (.iaload, 1)) ∧ (decode cL_law 537 = .ok (.invokevirtual 46, 3)) := by decide +kernel
theorem dL_law_522 : decode cL_law 522 = .ok (.aload_n 0, 1) := bdL_law_522.1
theorem dL_law_523 : decode cL_law 523 = .ok (.iload_n 3, 1) := bdL_law_522.2.1
theorem dL_law_524 : decode cL_law 524 = .ok (.iconst 3, 1) := bdL_law_522.2.2.1
theorem dL_law_525 : decode cL_law 525 = .ok (.iadd, 1) := bdL_law_522.2.2.2.1
theorem dL_law_526 : decode cL_law 526 = .ok (.iaload, 1) := bdL_law_522.2.2.2.2.1
theorem dL_law_527 : decode cL_law 527 = .ok (.aload_n 0, 1) := bdL_law_522.2.2.2.2.2.1
theorem dL_law_528 : decode cL_law 528 = .ok (.iload_n 3, 1) := bdL_law_522.2.2.2.2.2.2.1
theorem dL_law_529 : decode cL_law 529 = .ok (.iconst 4, 1) := bdL_law_522.2.2.2.2.2.2.2.1
theorem dL_law_530 : decode cL_law 530 = .ok (.iadd, 1) := bdL_law_522.2.2.2.2.2.2.2.2.1
theorem dL_law_531 : decode cL_law 531 = .ok (.iaload, 1) := bdL_law_522.2.2.2.2.2.2.2.2.2.1
theorem dL_law_532 : decode cL_law 532 = .ok (.aload_n 0, 1) := bdL_law_522.2.2.2.2.2.2.2.2.2.2.1
theorem dL_law_533 : decode cL_law 533 = .ok (.iload_n 3, 1) := bdL_law_522.2.2.2.2.2.2.2.2.2.2.2.1
theorem dL_law_534 : decode cL_law 534 = .ok (.iconst 5, 1) := bdL_law_522.2.2.2.2.2.2.2.2.2.2.2.2.1
theorem dL_law_535 : decode cL_law 535 = .ok (.iadd, 1) := bdL_law_522.2.2.2.2.2.2.2.2.2.2.2.2.2.1
theorem dL_law_536 : decode cL_law 536 = .ok (.iaload, 1) := bdL_law_522.2.2.2.2.2.2.2.2.2.2.2.2.2.2.1
theorem dL_law_537 : decode cL_law 537 = .ok (.invokevirtual 46, 3) := bdL_law_522.2.2.2.2.2.2.2.2.2.2.2.2.2.2.2
theorem bdL_law_540 : (decode cL_law 540 = .ok (.pop, 1)) ∧ (decode cL_law 541 = .ok (.aload_n 2, 1)) ∧ (decode cL_law 542 = .ok (.aload_n 0, 1)) ∧ (decode cL_law 543 = .ok (.iload_n 3, 1)) ∧ (decode cL_law 544 = .ok (.iconst 1, 1)) ∧ (decode cL_law 545 = .ok (.iadd, 1)) ∧ (decode cL_law 546 = .ok (.iaload, 1)) ∧ (decode cL_law 547 = .ok (.aload_n 0, 1)) ∧ (decode cL_law 548 = .ok (.iload_n 3, 1)) ∧ (decode cL_law 549 = .ok (.iconst 2, 1)) ∧ (decode cL_law 550 = .ok (.iadd, 1)) ∧ (decode cL_law 551 = .ok (.iaload, 1)) ∧ (decode cL_law 552 = .ok (.aload_n 0, 1)) ∧ (decode cL_law 553 = .ok (.iload_n 3, 1)) ∧ (decode cL_law 554 = .ok (.iconst 3, 1)) ∧ (decode cL_law 555 = .ok (.iadd, 1)) := by decide +kernel
theorem dL_law_540 : decode cL_law 540 = .ok (.pop, 1) := bdL_law_540.1
theorem dL_law_541 : decode cL_law 541 = .ok (.aload_n 2, 1) := bdL_law_540.2.1
theorem dL_law_542 : decode cL_law 542 = .ok (.aload_n 0, 1) := bdL_law_540.2.2.1
theorem dL_law_543 : decode cL_law 543 = .ok (.iload_n 3, 1) := bdL_law_540.2.2.2.1
theorem dL_law_544 : decode cL_law 544 = .ok (.iconst 1, 1) := bdL_law_540.2.2.2.2.1
theorem dL_law_545 : decode cL_law 545 = .ok (.iadd, 1) := bdL_law_540.2.2.2.2.2.1
theorem dL_law_546 : decode cL_law 546 = .ok (.iaload, 1) := bdL_law_540.2.2.2.2.2.2.1
theorem dL_law_547 : decode cL_law 547 = .ok (.aload_n 0, 1) := bdL_law_540.2.2.2.2.2.2.2.1
theorem dL_law_548 : decode cL_law 548 = .ok (.iload_n 3, 1) := bdL_law_540.2.2.2.2.2.2.2.2.1
theorem dL_law_549 : decode cL_law 549 = .ok (.iconst 2, 1) := bdL_law_540.2.2.2.2.2.2.2.2.2.1
theorem dL_law_550 : decode cL_law 550 = .ok (.iadd, 1) := bdL_law_540.2.2.2.2.2.2.2.2.2.2.1
theorem dL_law_551 : decode cL_law 551 = .ok (.iaload, 1) := bdL_law_540.2.2.2.2.2.2.2.2.2.2.2.1
theorem dL_law_552 : decode cL_law 552 = .ok (.aload_n 0, 1) := bdL_law_540.2.2.2.2.2.2.2.2.2.2.2.2.1
theorem dL_law_553 : decode cL_law 553 = .ok (.iload_n 3, 1) := bdL_law_540.2.2.2.2.2.2.2.2.2.2.2.2.2.1
theorem dL_law_554 : decode cL_law 554 = .ok (.iconst 3, 1) := bdL_law_540.2.2.2.2.2.2.2.2.2.2.2.2.2.2.1
theorem dL_law_555 : decode cL_law 555 = .ok (.iadd, 1) := bdL_law_540.2.2.2.2.2.2.2.2.2.2.2.2.2.2.2
theorem bdL_law_556 : (decode cL_law 556 = .ok (.iaload, 1)) ∧ (decode cL_law 557 = .ok (.aload_n 0, 1)) ∧ (decode cL_law 558 = .ok (.iload_n 3, 1)) ∧ (decode cL_law 559 = .ok (.iconst 4, 1)) ∧ (decode cL_law 560 = .ok (.iadd, 1)) ∧ (decode cL_law 561 = .ok (.iaload, 1)) ∧ (decode cL_law 562 = .ok (.aload_n 0, 1)) ∧ (decode cL_law 563 = .ok (.iload_n 3, 1)) ∧ (decode cL_law 564 = .ok (.iconst 5, 1)) ∧ (decode cL_law 565 = .ok (.iadd, 1)) ∧ (decode cL_law 566 = .ok (.iaload, 1)) ∧ (decode cL_law 567 = .ok (.invokevirtual 49, 3)) ∧ (decode cL_law 570 = .ok (.pop, 1)) ∧ (decode cL_law 571 = .ok (.goto 819, 3)) ∧ (decode cL_law 574 = .ok (.aload_n 1, 1)) ∧ (decode cL_law 575 = .ok (.aload_n 0, 1)) := by decide +kernel
theorem dL_law_556 : decode cL_law 556 = .ok (.iaload, 1) := bdL_law_556.1
theorem dL_law_557 : decode cL_law 557 = .ok (.aload_n 0, 1) := bdL_law_556.2.1
theorem dL_law_558 : decode cL_law 558 = .ok (.iload_n 3, 1) := bdL_law_556.2.2.1
theorem dL_law_559 : decode cL_law 559 = .ok (.iconst 4, 1) := bdL_law_556.2.2.2.1
theorem dL_law_560 : decode cL_law 560 = .ok (.iadd, 1) := bdL_law_556.2.2.2.2.1
theorem dL_law_561 : decode cL_law 561 = .ok (.iaload, 1) := bdL_law_556.2.2.2.2.2.1
theorem dL_law_562 : decode cL_law 562 = .ok (.aload_n 0, 1) := bdL_law_556.2.2.2.2.2.2.1
theorem dL_law_563 : decode cL_law 563 = .ok (.iload_n 3, 1) := bdL_law_556.2.2.2.2.2.2.2.1
theorem dL_law_564 : decode cL_law 564 = .ok (.iconst 5, 1) := bdL_law_556.2.2.2.2.2.2.2.2.1
theorem dL_law_565 : decode cL_law 565 = .ok (.iadd, 1) := bdL_law_556.2.2.2.2.2.2.2.2.2.1
theorem dL_law_566 : decode cL_law 566 = .ok (.iaload, 1) := bdL_law_556.2.2.2.2.2.2.2.2.2.2.1
theorem dL_law_567 : decode cL_law 567 = .ok (.invokevirtual 49, 3) := bdL_law_556.2.2.2.2.2.2.2.2.2.2.2.1
theorem dL_law_570 : decode cL_law 570 = .ok (.pop, 1) := bdL_law_556.2.2.2.2.2.2.2.2.2.2.2.2.1
theorem dL_law_571 : decode cL_law 571 = .ok (.goto 819, 3) := bdL_law_556.2.2.2.2.2.2.2.2.2.2.2.2.2.1
theorem dL_law_574 : decode cL_law 574 = .ok (.aload_n 1, 1) := bdL_law_556.2.2.2.2.2.2.2.2.2.2.2.2.2.2.1
theorem dL_law_575 : decode cL_law 575 = .ok (.aload_n 0, 1) := bdL_law_556.2.2.2.2.2.2.2.2.2.2.2.2.2.2.2
theorem bdL_law_576 : (decode cL_law 576 = .ok (.iload_n 3, 1)) ∧ (decode cL_law 577 = .ok (.iconst 1, 1)) ∧ (decode cL_law 578 = .ok (.iadd, 1)) ∧ (decode cL_law 579 = .ok (.iaload, 1)) ∧ (decode cL_law 580 = .ok (.invokevirtual 50, 3)) ∧ (decode cL_law 583 = .ok (.pop, 1)) ∧ (decode cL_law 584 = .ok (.aload_n 2, 1)) ∧ (decode cL_law 585 = .ok (.aload_n 0, 1)) ∧ (decode cL_law 586 = .ok (.iload_n 3, 1)) ∧ (decode cL_law 587 = .ok (.iconst 1, 1)) ∧ (decode cL_law 588 = .ok (.iadd, 1)) ∧ (decode cL_law 589 = .ok (.iaload, 1)) ∧ (decode cL_law 590 = .ok (.invokevirtual 53, 3)) ∧ (decode cL_law 593 = .ok (.pop, 1)) ∧ (decode cL_law 594 = .ok (.goto 796, 3)) ∧ (decode cL_law 597 = .ok (.aload_n 1, 1)) := by decide +kernel
theorem dL_law_576 : decode cL_law 576 = .ok (.iload_n 3, 1) := bdL_law_576.1
theorem dL_law_577 : decode cL_law 577 = .ok (.iconst 1, 1) := bdL_law_576.2.1
theorem dL_law_578 : decode cL_law 578 = .ok (.iadd, 1) := bdL_law_576.2.2.1
theorem dL_law_579 : decode cL_law 579 = .ok (.iaload, 1) := bdL_law_576.2.2.2.1
theorem dL_law_580 : decode cL_law 580 = .ok (.invokevirtual 50, 3) := bdL_law_576.2.2.2.2.1
theorem dL_law_583 : decode cL_law 583 = .ok (.pop, 1) := bdL_law_576.2.2.2.2.2.1
theorem dL_law_584 : decode cL_law 584 = .ok (.aload_n 2, 1) := bdL_law_576.2.2.2.2.2.2.1
theorem dL_law_585 : decode cL_law 585 = .ok (.aload_n 0, 1) := bdL_law_576.2.2.2.2.2.2.2.1
theorem dL_law_586 : decode cL_law 586 = .ok (.iload_n 3, 1) := bdL_law_576.2.2.2.2.2.2.2.2.1
theorem dL_law_587 : decode cL_law 587 = .ok (.iconst 1, 1) := bdL_law_576.2.2.2.2.2.2.2.2.2.1
theorem dL_law_588 : decode cL_law 588 = .ok (.iadd, 1) := bdL_law_576.2.2.2.2.2.2.2.2.2.2.1
theorem dL_law_589 : decode cL_law 589 = .ok (.iaload, 1) := bdL_law_576.2.2.2.2.2.2.2.2.2.2.2.1
theorem dL_law_590 : decode cL_law 590 = .ok (.invokevirtual 53, 3) := bdL_law_576.2.2.2.2.2.2.2.2.2.2.2.2.1
theorem dL_law_593 : decode cL_law 593 = .ok (.pop, 1) := bdL_law_576.2.2.2.2.2.2.2.2.2.2.2.2.2.1
theorem dL_law_594 : decode cL_law 594 = .ok (.goto 796, 3) := bdL_law_576.2.2.2.2.2.2.2.2.2.2.2.2.2.2.1
theorem dL_law_597 : decode cL_law 597 = .ok (.aload_n 1, 1) := bdL_law_576.2.2.2.2.2.2.2.2.2.2.2.2.2.2.2
theorem bdL_law_598 : (decode cL_law 598 = .ok (.invokevirtual 54, 3)) ∧ (decode cL_law 601 = .ok (.aload_n 2, 1)) ∧ (decode cL_law 602 = .ok (.invokevirtual 58, 3)) ∧ (decode cL_law 605 = .ok (.if_icmp .eq 785, 3)) ∧ (decode cL_law 608 = .ok (.iconst 0, 1)) ∧ (decode cL_law 609 = .ok (.ireturn, 1)) ∧ (decode cL_law 610 = .ok (.aload_n 1, 1)) ∧ (decode cL_law 611 = .ok (.aload_n 0, 1)) ∧ (decode cL_law 612 = .ok (.iload_n 3, 1)) ∧ (decode cL_law 613 = .ok (.iconst 1, 1)) ∧ (decode cL_law 614 = .ok (.iadd, 1)) ∧ (decode cL_law 615 = .ok (.iaload, 1)) ∧ (decode cL_law 616 = .ok (.invokevirtual 59, 3)) ∧ (decode cL_law 619 = .ok (.pop, 1)) ∧ (decode cL_law 620 = .ok (.aload_n 2, 1)) ∧ (decode cL_law 621 = .ok (.aload_n 0, 1)) := by decide +kernel
theorem dL_law_598 : decode cL_law 598 = .ok (.invokevirtual 54, 3) := bdL_law_598.1
theorem dL_law_601 : decode cL_law 601 = .ok (.aload_n 2, 1) := bdL_law_598.2.1
theorem dL_law_602 : decode cL_law 602 = .ok (.invokevirtual 58, 3) := bdL_law_598.2.2.1
theorem dL_law_605 : decode cL_law 605 = .ok (.if_icmp .eq 785, 3) := bdL_law_598.2.2.2.1
theorem dL_law_608 : decode cL_law 608 = .ok (.iconst 0, 1) := bdL_law_598.2.2.2.2.1
theorem dL_law_609 : decode cL_law 609 = .ok (.ireturn, 1) := bdL_law_598.2.2.2.2.2.1
theorem dL_law_610 : decode cL_law 610 = .ok (.aload_n 1, 1) := bdL_law_598.2.2.2.2.2.2.1
theorem dL_law_611 : decode cL_law 611 = .ok (.aload_n 0, 1) := bdL_law_598.2.2.2.2.2.2.2.1
theorem dL_law_612 : decode cL_law 612 = .ok (.iload_n 3, 1) := bdL_law_598.2.2.2.2.2.2.2.2.1
theorem dL_law_613 : decode cL_law 613 = .ok (.iconst 1, 1) := bdL_law_598.2.2.2.2.2.2.2.2.2.1
theorem dL_law_614 : decode cL_law 614 = .ok (.iadd, 1) := bdL_law_598.2.2.2.2.2.2.2.2.2.2.1
theorem dL_law_615 : decode cL_law 615 = .ok (.iaload, 1) := bdL_law_598.2.2.2.2.2.2.2.2.2.2.2.1
theorem dL_law_616 : decode cL_law 616 = .ok (.invokevirtual 59, 3) := bdL_law_598.2.2.2.2.2.2.2.2.2.2.2.2.1
theorem dL_law_619 : decode cL_law 619 = .ok (.pop, 1) := bdL_law_598.2.2.2.2.2.2.2.2.2.2.2.2.2.1
theorem dL_law_620 : decode cL_law 620 = .ok (.aload_n 2, 1) := bdL_law_598.2.2.2.2.2.2.2.2.2.2.2.2.2.2.1
theorem dL_law_621 : decode cL_law 621 = .ok (.aload_n 0, 1) := bdL_law_598.2.2.2.2.2.2.2.2.2.2.2.2.2.2.2
theorem bdL_law_622 : (decode cL_law 622 = .ok (.iload_n 3, 1)) ∧ (decode cL_law 623 = .ok (.iconst 1, 1)) ∧ (decode cL_law 624 = .ok (.iadd, 1)) ∧ (decode cL_law 625 = .ok (.iaload, 1)) ∧ (decode cL_law 626 = .ok (.invokevirtual 62, 3)) ∧ (decode cL_law 629 = .ok (.pop, 1)) ∧ (decode cL_law 630 = .ok (.goto 760, 3)) ∧ (decode cL_law 633 = .ok (.aload_n 1, 1)) ∧ (decode cL_law 634 = .ok (.aload_n 0, 1)) ∧ (decode cL_law 635 = .ok (.iload_n 3, 1)) ∧ (decode cL_law 636 = .ok (.iconst 1, 1)) ∧ (decode cL_law 637 = .ok (.iadd, 1)) ∧ (decode cL_law 638 = .ok (.iaload, 1)) ∧ (decode cL_law 639 = .ok (.invokevirtual 63, 3)) ∧ (decode cL_law 642 = .ok (.pop, 1)) ∧ (decode cL_law 643 = .ok (.aload_n 2, 1)) := by decide +kernel
theorem dL_law_622 : decode cL_law 622 = .ok (.iload_n 3, 1) := bdL_law_622.1
theorem dL_law_623 : decode cL_law 623 = .ok (.iconst 1, 1) := bdL_law_622.2.1
theorem dL_law_624 : decode cL_law 624 = .ok (.iadd, 1) := bdL_law_622.2.2.1
theorem dL_law_625 : decode cL_law 625 = .ok (.iaload, 1) := bdL_law_622.2.2.2.1
theorem dL_law_626 : decode cL_law 626 = .ok (.invokevirtual 62, 3) := bdL_law_622.2.2.2.2.1
theorem dL_law_629 : decode cL_law 629 = .ok (.pop, 1) := bdL_law_622.2.2.2.2.2.1
theorem dL_law_630 : decode cL_law 630 = .ok (.goto 760, 3) := bdL_law_622.2.2.2.2.2.2.1
theorem dL_law_633 : decode cL_law 633 = .ok (.aload_n 1, 1) := bdL_law_622.2.2.2.2.2.2.2.1
theorem dL_law_634 : decode cL_law 634 = .ok (.aload_n 0, 1) := bdL_law_622.2.2.2.2.2.2.2.2.1
theorem dL_law_635 : decode cL_law 635 = .ok (.iload_n 3, 1) := bdL_law_622.2.2.2.2.2.2.2.2.2.1
theorem dL_law_636 : decode cL_law 636 = .ok (.iconst 1, 1) := bdL_law_622.2.2.2.2.2.2.2.2.2.2.1
theorem dL_law_637 : decode cL_law 637 = .ok (.iadd, 1) := bdL_law_622.2.2.2.2.2.2.2.2.2.2.2.1
theorem dL_law_638 : decode cL_law 638 = .ok (.iaload, 1) := bdL_law_622.2.2.2.2.2.2.2.2.2.2.2.2.1
theorem dL_law_639 : decode cL_law 639 = .ok (.invokevirtual 63, 3) := bdL_law_622.2.2.2.2.2.2.2.2.2.2.2.2.2.1
theorem dL_law_642 : decode cL_law 642 = .ok (.pop, 1) := bdL_law_622.2.2.2.2.2.2.2.2.2.2.2.2.2.2.1
theorem dL_law_643 : decode cL_law 643 = .ok (.aload_n 2, 1) := bdL_law_622.2.2.2.2.2.2.2.2.2.2.2.2.2.2.2
theorem bdL_law_644 : (decode cL_law 644 = .ok (.aload_n 0, 1)) ∧ (decode cL_law 645 = .ok (.iload_n 3, 1)) ∧ (decode cL_law 646 = .ok (.iconst 1, 1)) ∧ (decode cL_law 647 = .ok (.iadd, 1)) ∧ (decode cL_law 648 = .ok (.iaload, 1)) ∧ (decode cL_law 649 = .ok (.invokevirtual 66, 3)) ∧ (decode cL_law 652 = .ok (.pop, 1)) ∧ (decode cL_law 653 = .ok (.goto 737, 3)) ∧ (decode cL_law 656 = .ok (.aload_n 1, 1)) ∧ (decode cL_law 657 = .ok (.aload_n 0, 1)) ∧ (decode cL_law 658 = .ok (.iload_n 3, 1)) ∧ (decode cL_law 659 = .ok (.iconst 1, 1)) ∧ (decode cL_law 660 = .ok (.iadd, 1)) ∧ (decode cL_law 661 = .ok (.iaload, 1)) ∧ (decode cL_law 662 = .ok (.invokevirtual 67, 3)) ∧ (decode cL_law 665 = .ok (.pop, 1)) := by decide +kernel
theorem dL_law_644 : decode cL_law 644 = .ok (.aload_n 0, 1) := bdL_law_644.1
theorem dL_law_645 : decode cL_law 645 = .ok (.iload_n 3, 1) := bdL_law_644.2.1
theorem dL_law_646 : decode cL_law 646 = .ok (.iconst 1, 1) := bdL_law_644.2.2.1
theorem dL_law_647 : decode cL_law 647 = .ok (.iadd, 1) := bdL_law_644.2.2.2.1
theorem dL_law_648 : decode cL_law 648 = .ok (.iaload, 1) := bdL_law_644.2.2.2.2.1
theorem dL_law_649 : decode cL_law 649 = .ok (.invokevirtual 66, 3) := bdL_law_644.2.2.2.2.2.1
theorem dL_law_652 : decode cL_law 652 = .ok (.pop, 1) := bdL_law_644.2.2.2.2.2.2.1
theorem dL_law_653 : decode cL_law 653 = .ok (.goto 737, 3) := bdL_law_644.2.2.2.2.2.2.2.1
theorem dL_law_656 : decode cL_law 656 = .ok (.aload_n 1, 1) := bdL_law_644.2.2.2.2.2.2.2.2.1
theorem dL_law_657 : decode cL_law 657 = .ok (.aload_n 0, 1) := bdL_law_644.2.2.2.2.2.2.2.2.2.1
theorem dL_law_658 : decode cL_law 658 = .ok (.iload_n 3, 1) := bdL_law_644.2.2.2.2.2.2.2.2.2.2.1
theorem dL_law_659 : decode cL_law 659 = .ok (.iconst 1, 1) := bdL_law_644.2.2.2.2.2.2.2.2.2.2.2.1
theorem dL_law_660 : decode cL_law 660 = .ok (.iadd, 1) := bdL_law_644.2.2.2.2.2.2.2.2.2.2.2.2.1
theorem dL_law_661 : decode cL_law 661 = .ok (.iaload, 1) := bdL_law_644.2.2.2.2.2.2.2.2.2.2.2.2.2.1
theorem dL_law_662 : decode cL_law 662 = .ok (.invokevirtual 67, 3) := bdL_law_644.2.2.2.2.2.2.2.2.2.2.2.2.2.2.1
theorem dL_law_665 : decode cL_law 665 = .ok (.pop, 1) := bdL_law_644.2.2.2.2.2.2.2.2.2.2.2.2.2.2.2
theorem bdL_law_666 : (decode cL_law 666 = .ok (.aload_n 2, 1)) ∧ (decode cL_law 667 = .ok (.aload_n 0, 1)) ∧ (decode cL_law 668 = .ok (.iload_n 3, 1)) ∧ (decode cL_law 669 = .ok (.iconst 1, 1)) ∧ (decode cL_law 670 = .ok (.iadd, 1)) ∧ (decode cL_law 671 = .ok (.iaload, 1)) ∧ (decode cL_law 672 = .ok (.invokevirtual 70, 3)) ∧ (decode cL_law 675 = .ok (.pop, 1)) ∧ (decode cL_law 676 = .ok (.goto 714, 3)) ∧ (decode cL_law 679 = .ok (.aload_n 1, 1)) ∧ (decode cL_law 680 = .ok (.aload_n 0, 1)) ∧ (decode cL_law 681 = .ok (.iload_n 3, 1)) ∧ (decode cL_law 682 = .ok (.iconst 1, 1)) ∧ (decode cL_law 683 = .ok (.iadd, 1)) ∧ (decode cL_law 684 = .ok (.iaload, 1)) ∧ (decode cL_law 685 = .ok (.aload_n 0, 1)) := by decide +kernel
theorem dL_law_666 : decode cL_law 666 = .ok (.aload_n 2, 1) := bdL_law_666.1
theorem dL_law_667 : decode cL_law 667 = .ok (.aload_n 0, 1) := bdL_law_666.2.1
theorem dL_law_668 : decode cL_law 668 = .ok (.iload_n 3, 1) := bdL_law_666.2.2.1
theorem dL_law_669 : decode cL_law 669 = .ok (.iconst 1, 1) := bdL_law_666.2.2.2.1
theorem dL_law_670 : decode cL_law 670 = .ok (.iadd, 1) := bdL_law_666.2.2.2.2.1
theorem dL_law_671 : decode cL_law 671 = .ok (.iaload, 1) := bdL_law_666.2.2.2.2.2.1
theorem dL_law_672 : decode cL_law 672 = .ok (.invokevirtual 70, 3) := bdL_law_666.2.2.2.2.2.2.1
theorem dL_law_675 : decode cL_law 675 = .ok (.pop, 1) := bdL_law_666.2.2.2.2.2.2.2.1
theorem dL_law_676 : decode cL_law 676 = .ok (.goto 714, 3) := bdL_law_666.2.2.2.2.2.2.2.2.1
theorem dL_law_679 : decode cL_law 679 = .ok (.aload_n 1, 1) := bdL_law_666.2.2.2.2.2.2.2.2.2.1
theorem dL_law_680 : decode cL_law 680 = .ok (.aload_n 0, 1) := bdL_law_666.2.2.2.2.2.2.2.2.2.2.1
theorem dL_law_681 : decode cL_law 681 = .ok (.iload_n 3, 1) := bdL_law_666.2.2.2.2.2.2.2.2.2.2.2.1
theorem dL_law_682 : decode cL_law 682 = .ok (.iconst 1, 1) := bdL_law_666.2.2.2.2.2.2.2.2.2.2.2.2.1
theorem dL_law_683 : decode cL_law 683 = .ok (.iadd, 1) := bdL_law_666.2.2.2.2.2.2.2.2.2.2.2.2.2.1
theorem dL_law_684 : decode cL_law 684 = .ok (.iaload, 1) := bdL_law_666.2.2.2.2.2.2.2.2.2.2.2.2.2.2.1
theorem dL_law_685 : decode cL_law 685 = .ok (.aload_n 0, 1) := bdL_law_666.2.2.2.2.2.2.2.2.2.2.2.2.2.2.2
theorem bdL_law_686 : (decode cL_law 686 = .ok (.iload_n 3, 1)) ∧ (decode cL_law 687 = .ok (.iconst 2, 1)) ∧ (decode cL_law 688 = .ok (.iadd, 1)) ∧ (decode cL_law 689 = .ok (.iaload, 1)) ∧ (decode cL_law 690 = .ok (.invokevirtual 71, 3)) ∧ (decode cL_law 693 = .ok (.pop, 1)) ∧ (decode cL_law 694 = .ok (.aload_n 2, 1)) ∧ (decode cL_law 695 = .ok (.aload_n 0, 1)) ∧ (decode cL_law 696 = .ok (.iload_n 3, 1)) ∧ (decode cL_law 697 = .ok (.iconst 1, 1)) ∧ (decode cL_law 698 = .ok (.iadd, 1)) ∧ (decode cL_law 699 = .ok (.iaload, 1)) ∧ (decode cL_law 700 = .ok (.aload_n 0, 1)) ∧ (decode cL_law 701 = .ok (.iload_n 3, 1)) ∧ (decode cL_law 702 = .ok (.iconst 2, 1)) ∧ (decode cL_law 703 = .ok (.iadd, 1)) := by decide +kernel
theorem dL_law_686 : decode cL_law 686 = .ok (.iload_n 3, 1) := bdL_law_686.1
theorem dL_law_687 : decode cL_law 687 = .ok (.iconst 2, 1) := bdL_law_686.2.1
theorem dL_law_688 : decode cL_law 688 = .ok (.iadd, 1) := bdL_law_686.2.2.1
theorem dL_law_689 : decode cL_law 689 = .ok (.iaload, 1) := bdL_law_686.2.2.2.1
theorem dL_law_690 : decode cL_law 690 = .ok (.invokevirtual 71, 3) := bdL_law_686.2.2.2.2.1
theorem dL_law_693 : decode cL_law 693 = .ok (.pop, 1) := bdL_law_686.2.2.2.2.2.1
theorem dL_law_694 : decode cL_law 694 = .ok (.aload_n 2, 1) := bdL_law_686.2.2.2.2.2.2.1
theorem dL_law_695 : decode cL_law 695 = .ok (.aload_n 0, 1) := bdL_law_686.2.2.2.2.2.2.2.1
theorem dL_law_696 : decode cL_law 696 = .ok (.iload_n 3, 1) := bdL_law_686.2.2.2.2.2.2.2.2.1
theorem dL_law_697 : decode cL_law 697 = .ok (.iconst 1, 1) := bdL_law_686.2.2.2.2.2.2.2.2.2.1
theorem dL_law_698 : decode cL_law 698 = .ok (.iadd, 1) := bdL_law_686.2.2.2.2.2.2.2.2.2.2.1
theorem dL_law_699 : decode cL_law 699 = .ok (.iaload, 1) := bdL_law_686.2.2.2.2.2.2.2.2.2.2.2.1
theorem dL_law_700 : decode cL_law 700 = .ok (.aload_n 0, 1) := bdL_law_686.2.2.2.2.2.2.2.2.2.2.2.2.1
theorem dL_law_701 : decode cL_law 701 = .ok (.iload_n 3, 1) := bdL_law_686.2.2.2.2.2.2.2.2.2.2.2.2.2.1
theorem dL_law_702 : decode cL_law 702 = .ok (.iconst 2, 1) := bdL_law_686.2.2.2.2.2.2.2.2.2.2.2.2.2.2.1
theorem dL_law_703 : decode cL_law 703 = .ok (.iadd, 1) := bdL_law_686.2.2.2.2.2.2.2.2.2.2.2.2.2.2.2
theorem bdL_law_704 : (decode cL_law 704 = .ok (.iaload, 1)) ∧ (decode cL_law 705 = .ok (.invokevirtual 75, 3)) ∧ (decode cL_law 708 = .ok (.pop, 1)) ∧ (decode cL_law 709 = .ok (.goto 681, 3)) ∧ (decode cL_law 712 = .ok (.aload_n 1, 1)) ∧ (decode cL_law 713 = .ok (.aload_n 0, 1)) ∧ (decode cL_law 714 = .ok (.iload_n 3, 1)) ∧ (decode cL_law 715 = .ok (.iconst 1, 1)) ∧ (decode cL_law 716 = .ok (.iadd, 1)) ∧ (decode cL_law 717 = .ok (.iaload, 1)) ∧ (decode cL_law 718 = .ok (.aload_n 0, 1)) ∧ (decode cL_law 719 = .ok (.iload_n 3, 1)) ∧ (decode cL_law 720 = .ok (.iconst 2, 1)) ∧ (decode cL_law 721 = .ok (.iadd, 1)) ∧ (decode cL_law 722 = .ok (.iaload, 1)) ∧ (decode cL_law 723 = .ok (.invokevirtual 76, 3)) := by decide +kernel
theorem dL_law_704 : decode cL_law 704 = .ok (.iaload, 1) := bdL_law_704.1
theorem dL_law_705 : decode cL_law 705 = .ok (.invokevirtual 75, 3) := bdL_law_704.2.1
theorem dL_law_708 : decode cL_law 708 = .ok (.pop, 1) := bdL_law_704.2.2.1
theorem dL_law_709 : decode cL_law 709 = .ok (.goto 681, 3) := bdL_law_704.2.2.2.1
theorem dL_law_712 : decode cL_law 712 = .ok (.aload_n 1, 1) := bdL_law_704.2.2.2.2.1
theorem dL_law_713 : decode cL_law 713 = .ok (.aload_n 0, 1) := bdL_law_704.2.2.2.2.2.1
theorem dL_law_714 : decode cL_law 714 = .ok (.iload_n 3, 1) := bdL_law_704.2.2.2.2.2.2.1
theorem dL_law_715 : decode cL_law 715 = .ok (.iconst 1, 1) := bdL_law_704.2.2.2.2.2.2.2.1
theorem dL_law_716 : decode cL_law 716 = .ok (.iadd, 1) := bdL_law_704.2.2.2.2.2.2.2.2.1
theorem dL_law_717 : decode cL_law 717 = .ok (.iaload, 1) := bdL_law_704.2.2.2.2.2.2.2.2.2.1
theorem dL_law_718 : decode cL_law 718 = .ok (.aload_n 0, 1) := bdL_law_704.2.2.2.2.2.2.2.2.2.2.1
theorem dL_law_719 : decode cL_law 719 = .ok (.iload_n 3, 1) := bdL_law_704.2.2.2.2.2.2.2.2.2.2.2.1
theorem dL_law_720 : decode cL_law 720 = .ok (.iconst 2, 1) := bdL_law_704.2.2.2.2.2.2.2.2.2.2.2.2.1
theorem dL_law_721 : decode cL_law 721 = .ok (.iadd, 1) := bdL_law_704.2.2.2.2.2.2.2.2.2.2.2.2.2.1
theorem dL_law_722 : decode cL_law 722 = .ok (.iaload, 1) := bdL_law_704.2.2.2.2.2.2.2.2.2.2.2.2.2.2.1
theorem dL_law_723 : decode cL_law 723 = .ok (.invokevirtual 76, 3) := bdL_law_704.2.2.2.2.2.2.2.2.2.2.2.2.2.2.2
theorem bdL_law_726 : (decode cL_law 726 = .ok (.pop, 1)) ∧ (decode cL_law 727 = .ok (.aload_n 2, 1)) ∧ (decode cL_law 728 = .ok (.aload_n 0, 1)) ∧ (decode cL_law 729 = .ok (.iload_n 3, 1)) ∧ (decode cL_law 730 = .ok (.iconst 1, 1)) ∧ (decode cL_law 731 = .ok (.iadd, 1)) ∧ (decode cL_law 732 = .ok (.iaload, 1)) ∧ (decode cL_law 733 = .ok (.aload_n 0, 1)) ∧ (decode cL_law 734 = .ok (.iload_n 3, 1)) ∧ (decode cL_law 735 = .ok (.iconst 2, 1)) ∧ (decode cL_law 736 = .ok (.iadd, 1)) ∧ (decode cL_law 737 = .ok (.iaload, 1)) ∧ (decode cL_law 738 = .ok (.invokevirtual 79, 3)) ∧ (decode cL_law 741 = .ok (.pop, 1)) ∧ (decode cL_law 742 = .ok (.goto 648, 3)) ∧ (decode cL_law 745 = .ok (.aload_n 1, 1)) := by decide +kernel
theorem dL_law_726 : decode cL_law 726 = .ok (.pop, 1) := bdL_law_726.1
theorem dL_law_727 : decode cL_law 727 = .ok (.aload_n 2, 1) := bdL_law_726.2.1
theorem dL_law_728 : decode cL_law 728 = .ok (.aload_n 0, 1) := bdL_law_726.2.2.1
theorem dL_law_729 : decode cL_law 729 = .ok (.iload_n 3, 1) := bdL_law_726.2.2.2.1
theorem dL_law_730 : decode cL_law 730 = .ok (.iconst 1, 1) := bdL_law_726.2.2.2.2.1
theorem dL_law_731 : decode cL_law 731 = .ok (.iadd, 1) := bdL_law_726.2.2.2.2.2.1
theorem dL_law_732 : decode cL_law 732 = .ok (.iaload, 1) := bdL_law_726.2.2.2.2.2.2.1
theorem dL_law_733 : decode cL_law 733 = .ok (.aload_n 0, 1) := bdL_law_726.2.2.2.2.2.2.2.1
theorem dL_law_734 : decode cL_law 734 = .ok (.iload_n 3, 1) := bdL_law_726.2.2.2.2.2.2.2.2.1
theorem dL_law_735 : decode cL_law 735 = .ok (.iconst 2, 1) := bdL_law_726.2.2.2.2.2.2.2.2.2.1
theorem dL_law_736 : decode cL_law 736 = .ok (.iadd, 1) := bdL_law_726.2.2.2.2.2.2.2.2.2.2.1
theorem dL_law_737 : decode cL_law 737 = .ok (.iaload, 1) := bdL_law_726.2.2.2.2.2.2.2.2.2.2.2.1
theorem dL_law_738 : decode cL_law 738 = .ok (.invokevirtual 79, 3) := bdL_law_726.2.2.2.2.2.2.2.2.2.2.2.2.1
theorem dL_law_741 : decode cL_law 741 = .ok (.pop, 1) := bdL_law_726.2.2.2.2.2.2.2.2.2.2.2.2.2.1
theorem dL_law_742 : decode cL_law 742 = .ok (.goto 648, 3) := bdL_law_726.2.2.2.2.2.2.2.2.2.2.2.2.2.2.1
theorem dL_law_745 : decode cL_law 745 = .ok (.aload_n 1, 1) := bdL_law_726.2.2.2.2.2.2.2.2.2.2.2.2.2.2.2
theorem bdL_law_746 : (decode cL_law 746 = .ok (.aload_n 0, 1)) ∧ (decode cL_law 747 = .ok (.iload_n 3, 1)) ∧ (decode cL_law 748 = .ok (.iconst 1, 1)) ∧ (decode cL_law 749 = .ok (.iadd, 1)) ∧ (decode cL_law 750 = .ok (.iaload, 1)) ∧ (decode cL_law 751 = .ok (.aload_n 0, 1)) ∧ (decode cL_law 752 = .ok (.iload_n 3, 1)) ∧ (decode cL_law 753 = .ok (.iconst 2, 1)) ∧ (decode cL_law 754 = .ok (.iadd, 1)) ∧ (decode cL_law 755 = .ok (.iaload, 1)) ∧ (decode cL_law 756 = .ok (.aload_n 0, 1)) ∧ (decode cL_law 757 = .ok (.iload_n 3, 1)) ∧ (decode cL_law 758 = .ok (.iconst 3, 1)) ∧ (decode cL_law 759 = .ok (.iadd, 1)) ∧ (decode cL_law 760 = .ok (.iaload, 1)) ∧ (decode cL_law 761 = .ok (.invokevirtual 80, 3)) := by decide +kernel
theorem dL_law_746 : decode cL_law 746 = .ok (.aload_n 0, 1) := bdL_law_746.1
theorem dL_law_747 : decode cL_law 747 = .ok (.iload_n 3, 1) := bdL_law_746.2.1
theorem dL_law_748 : decode cL_law 748 = .ok (.iconst 1, 1) := bdL_law_746.2.2.1
theorem dL_law_749 : decode cL_law 749 = .ok (.iadd, 1) := bdL_law_746.2.2.2.1
theorem dL_law_750 : decode cL_law 750 = .ok (.iaload, 1) := bdL_law_746.2.2.2.2.1
theorem dL_law_751 : decode cL_law 751 = .ok (.aload_n 0, 1) := bdL_law_746.2.2.2.2.2.1
theorem dL_law_752 : decode cL_law 752 = .ok (.iload_n 3, 1) := bdL_law_746.2.2.2.2.2.2.1
theorem dL_law_753 : decode cL_law 753 = .ok (.iconst 2, 1) := bdL_law_746.2.2.2.2.2.2.2.1
theorem dL_law_754 : decode cL_law 754 = .ok (.iadd, 1) := bdL_law_746.2.2.2.2.2.2.2.2.1
theorem dL_law_755 : decode cL_law 755 = .ok (.iaload, 1) := bdL_law_746.2.2.2.2.2.2.2.2.2.1
theorem dL_law_756 : decode cL_law 756 = .ok (.aload_n 0, 1) := bdL_law_746.2.2.2.2.2.2.2.2.2.2.1
theorem dL_law_757 : decode cL_law 757 = .ok (.iload_n 3, 1) := bdL_law_746.2.2.2.2.2.2.2.2.2.2.2.1
theorem dL_law_758 : decode cL_law 758 = .ok (.iconst 3, 1) := bdL_law_746.2.2.2.2.2.2.2.2.2.2.2.2.1
theorem dL_law_759 : decode cL_law 759 = .ok (.iadd, 1) := bdL_law_746.2.2.2.2.2.2.2.2.2.2.2.2.2.1
theorem dL_law_760 : decode cL_law 760 = .ok (.iaload, 1) := bdL_law_746.2.2.2.2.2.2.2.2.2.2.2.2.2.2.1
theorem dL_law_761 : decode cL_law 761 = .ok (.invokevirtual 80, 3) := bdL_law_746.2.2.2.2.2.2.2.2.2.2.2.2.2.2.2
theorem bdL_law_764 : (decode cL_law 764 = .ok (.pop, 1)) ∧ (decode cL_law 765 = .ok (.aload_n 2, 1)) ∧ (decode cL_law 766 = .ok (.aload_n 0, 1)) ∧ (decode cL_law 767 = .ok (.iload_n 3, 1)) ∧ (decode cL_law 768 = .ok (.iconst 1, 1)) ∧ (decode cL_law 769 = .ok (.iadd, 1)) ∧ (decode cL_law 770 = .ok (.iaload, 1)) ∧ (decode cL_law 771 = .ok (.aload_n 0, 1)) ∧ (decode cL_law 772 = .ok (.iload_n 3, 1)) ∧ (decode cL_law 773 = .ok (.iconst 2, 1)) ∧ (decode cL_law 774 = .ok (.iadd, 1)) ∧ (decode cL_law 775 = .ok (.iaload, 1)) ∧ (decode cL_law 776 = .ok (.aload_n 0, 1)) ∧ (decode cL_law 777 = .ok (.iload_n 3, 1)) ∧ (decode cL_law 778 = .ok (.iconst 3, 1)) ∧ (decode cL_law 779 = .ok (.iadd, 1)) := by decide +kernel
theorem dL_law_764 : decode cL_law 764 = .ok (.pop, 1) := bdL_law_764.1
theorem dL_law_765 : decode cL_law 765 = .ok (.aload_n 2, 1) := bdL_law_764.2.1
theorem dL_law_766 : decode cL_law 766 = .ok (.aload_n 0, 1) := bdL_law_764.2.2.1
theorem dL_law_767 : decode cL_law 767 = .ok (.iload_n 3, 1) := bdL_law_764.2.2.2.1
theorem dL_law_768 : decode cL_law 768 = .ok (.iconst 1, 1) := bdL_law_764.2.2.2.2.1
theorem dL_law_769 : decode cL_law 769 = .ok (.iadd, 1) := bdL_law_764.2.2.2.2.2.1
theorem dL_law_770 : decode cL_law 770 = .ok (.iaload, 1) := bdL_law_764.2.2.2.2.2.2.1
theorem dL_law_771 : decode cL_law 771 = .ok (.aload_n 0, 1) := bdL_law_764.2.2.2.2.2.2.2.1
theorem dL_law_772 : decode cL_law 772 = .ok (.iload_n 3, 1) := bdL_law_764.2.2.2.2.2.2.2.2.1
theorem dL_law_773 : decode cL_law 773 = .ok (.iconst 2, 1) := bdL_law_764.2.2.2.2.2.2.2.2.2.1
theorem dL_law_774 : decode cL_law 774 = .ok (.iadd, 1) := bdL_law_764.2.2.2.2.2.2.2.2.2.2.1
theorem dL_law_775 : decode cL_law 775 = .ok (.iaload, 1) := bdL_law_764.2.2.2.2.2.2.2.2.2.2.2.1
theorem dL_law_776 : decode cL_law 776 = .ok (.aload_n 0, 1) := bdL_law_764.2.2.2.2.2.2.2.2.2.2.2.2.1
theorem dL_law_777 : decode cL_law 777 = .ok (.iload_n 3, 1) := bdL_law_764.2.2.2.2.2.2.2.2.2.2.2.2.2.1
theorem dL_law_778 : decode cL_law 778 = .ok (.iconst 3, 1) := bdL_law_764.2.2.2.2.2.2.2.2.2.2.2.2.2.2.1
theorem dL_law_779 : decode cL_law 779 = .ok (.iadd, 1) := bdL_law_764.2.2.2.2.2.2.2.2.2.2.2.2.2.2.2
theorem bdL_law_780 : (decode cL_law 780 = .ok (.iaload, 1)) ∧ (decode cL_law 781 = .ok (.invokevirtual 84, 3)) ∧ (decode cL_law 784 = .ok (.pop, 1)) ∧ (decode cL_law 785 = .ok (.goto 605, 3)) ∧ (decode cL_law 788 = .ok (.aload_n 1, 1)) ∧ (decode cL_law 789 = .ok (.aload_n 0, 1)) ∧ (decode cL_law 790 = .ok (.iload_n 3, 1)) ∧ (decode cL_law 791 = .ok (.iconst 1, 1)) ∧ (decode cL_law 792 = .ok (.iadd, 1)) ∧ (decode cL_law 793 = .ok (.iaload, 1)) ∧ (decode cL_law 794 = .ok (.aload_n 0, 1)) ∧ (decode cL_law 795 = .ok (.iload_n 3, 1)) ∧ (decode cL_law 796 = .ok (.iconst 2, 1)) ∧ (decode cL_law 797 = .ok (.iadd, 1)) ∧ (decode cL_law 798 = .ok (.iaload, 1)) ∧ (decode cL_law 799 = .ok (.aload_n 0, 1)) := by decide +kernel
theorem dL_law_780 : decode cL_law 780 = .ok (.iaload, 1) := bdL_law_780.1
theorem dL_law_781 : decode cL_law 781 = .ok (.invokevirtual 84, 3) := bdL_law_780.2.1
theorem dL_law_784 : decode cL_law 784 = .ok (.pop, 1) := bdL_law_780.2.2.1
theorem dL_law_785 : decode cL_law 785 = .ok (.goto 605, 3) := bdL_law_780.2.2.2.1
theorem dL_law_788 : decode cL_law 788 = .ok (.aload_n 1, 1) := bdL_law_780.2.2.2.2.1
theorem dL_law_789 : decode cL_law 789 = .ok (.aload_n 0, 1) := bdL_law_780.2.2.2.2.2.1
theorem dL_law_790 : decode cL_law 790 = .ok (.iload_n 3, 1) := bdL_law_780.2.2.2.2.2.2.1
theorem dL_law_791 : decode cL_law 791 = .ok (.iconst 1, 1) := bdL_law_780.2.2.2.2.2.2.2.1
theorem dL_law_792 : decode cL_law 792 = .ok (.iadd, 1) := bdL_law_780.2.2.2.2.2.2.2.2.1
theorem dL_law_793 : decode cL_law 793 = .ok (.iaload, 1) := bdL_law_780.2.2.2.2.2.2.2.2.2.1
theorem dL_law_794 : decode cL_law 794 = .ok (.aload_n 0, 1) := bdL_law_780.2.2.2.2.2.2.2.2.2.2.1
theorem dL_law_795 : decode cL_law 795 = .ok (.iload_n 3, 1) := bdL_law_780.2.2.2.2.2.2.2.2.2.2.2.1
theorem dL_law_796 : decode cL_law 796 = .ok (.iconst 2, 1) := bdL_law_780.2.2.2.2.2.2.2.2.2.2.2.2.1
theorem dL_law_797 : decode cL_law 797 = .ok (.iadd, 1) := bdL_law_780.2.2.2.2.2.2.2.2.2.2.2.2.2.1
theorem dL_law_798 : decode cL_law 798 = .ok (.iaload, 1) := bdL_law_780.2.2.2.2.2.2.2.2.2.2.2.2.2.2.1
theorem dL_law_799 : decode cL_law 799 = .ok (.aload_n 0, 1) := bdL_law_780.2.2.2.2.2.2.2.2.2.2.2.2.2.2.2
theorem bdL_law_800 : (decode cL_law 800 = .ok (.iload_n 3, 1)) ∧ (decode cL_law 801 = .ok (.iconst 3, 1)) ∧ (decode cL_law 802 = .ok (.iadd, 1)) ∧ (decode cL_law 803 = .ok (.iaload, 1)) ∧ (decode cL_law 804 = .ok (.ifCond .eq 7, 3)) ∧ (decode cL_law 807 = .ok (.iconst 1, 1)) ∧ (decode cL_law 808 = .ok (.goto 4, 3)) ∧ (decode cL_law 811 = .ok (.iconst 0, 1)) ∧ (decode cL_law 812 = .ok (.invokevirtual 85, 3)) ∧ (decode cL_law 815 = .ok (.pop, 1)) ∧ (decode cL_law 816 = .ok (.aload_n 2, 1)) ∧ (decode cL_law 817 = .ok (.aload_n 0, 1)) ∧ (decode cL_law 818 = .ok (.iload_n 3, 1)) ∧ (decode cL_law 819 = .ok (.iconst 1, 1)) ∧ (decode cL_law 820 = .ok (.iadd, 1)) ∧ (decode cL_law 821 = .ok (.iaload, 1)) := by decide +kernel
theorem dL_law_800 : decode cL_law 800 = .ok (.iload_n 3, 1) := bdL_law_800.1
theorem dL_law_801 : decode cL_law 801 = .ok (.iconst 3, 1) := bdL_law_800.2.1
theorem dL_law_802 : decode cL_law 802 = .ok (.iadd, 1) := bdL_law_800.2.2.1
theorem dL_law_803 : decode cL_law 803 = .ok (.iaload, 1) := bdL_law_800.2.2.2.1
theorem dL_law_804 : decode cL_law 804 = .ok (.ifCond .eq 7, 3) := bdL_law_800.2.2.2.2.1
theorem dL_law_807 : decode cL_law 807 = .ok (.iconst 1, 1) := bdL_law_800.2.2.2.2.2.1
theorem dL_law_808 : decode cL_law 808 = .ok (.goto 4, 3) := bdL_law_800.2.2.2.2.2.2.1
theorem dL_law_811 : decode cL_law 811 = .ok (.iconst 0, 1) := bdL_law_800.2.2.2.2.2.2.2.1
theorem dL_law_812 : decode cL_law 812 = .ok (.invokevirtual 85, 3) := bdL_law_800.2.2.2.2.2.2.2.2.1
theorem dL_law_815 : decode cL_law 815 = .ok (.pop, 1) := bdL_law_800.2.2.2.2.2.2.2.2.2.1
theorem dL_law_816 : decode cL_law 816 = .ok (.aload_n 2, 1) := bdL_law_800.2.2.2.2.2.2.2.2.2.2.1
theorem dL_law_817 : decode cL_law 817 = .ok (.aload_n 0, 1) := bdL_law_800.2.2.2.2.2.2.2.2.2.2.2.1
theorem dL_law_818 : decode cL_law 818 = .ok (.iload_n 3, 1) := bdL_law_800.2.2.2.2.2.2.2.2.2.2.2.2.1
theorem dL_law_819 : decode cL_law 819 = .ok (.iconst 1, 1) := bdL_law_800.2.2.2.2.2.2.2.2.2.2.2.2.2.1
theorem dL_law_820 : decode cL_law 820 = .ok (.iadd, 1) := bdL_law_800.2.2.2.2.2.2.2.2.2.2.2.2.2.2.1
theorem dL_law_821 : decode cL_law 821 = .ok (.iaload, 1) := bdL_law_800.2.2.2.2.2.2.2.2.2.2.2.2.2.2.2
theorem bdL_law_822 : (decode cL_law 822 = .ok (.aload_n 0, 1)) ∧ (decode cL_law 823 = .ok (.iload_n 3, 1)) ∧ (decode cL_law 824 = .ok (.iconst 2, 1)) ∧ (decode cL_law 825 = .ok (.iadd, 1)) ∧ (decode cL_law 826 = .ok (.iaload, 1)) ∧ (decode cL_law 827 = .ok (.aload_n 0, 1)) ∧ (decode cL_law 828 = .ok (.iload_n 3, 1)) ∧ (decode cL_law 829 = .ok (.iconst 3, 1)) ∧ (decode cL_law 830 = .ok (.iadd, 1)) ∧ (decode cL_law 831 = .ok (.iaload, 1)) ∧ (decode cL_law 832 = .ok (.ifCond .eq 7, 3)) ∧ (decode cL_law 835 = .ok (.iconst 1, 1)) ∧ (decode cL_law 836 = .ok (.goto 4, 3)) ∧ (decode cL_law 839 = .ok (.iconst 0, 1)) ∧ (decode cL_law 840 = .ok (.invokevirtual 89, 3)) ∧ (decode cL_law 843 = .ok (.pop, 1)) := by decide +kernel
theorem dL_law_822 : decode cL_law 822 = .ok (.aload_n 0, 1) := bdL_law_822.1
theorem dL_law_823 : decode cL_law 823 = .ok (.iload_n 3, 1) := bdL_law_822.2.1
theorem dL_law_824 : decode cL_law 824 = .ok (.iconst 2, 1) := bdL_law_822.2.2.1
theorem dL_law_825 : decode cL_law 825 = .ok (.iadd, 1) := bdL_law_822.2.2.2.1
theorem dL_law_826 : decode cL_law 826 = .ok (.iaload, 1) := bdL_law_822.2.2.2.2.1
theorem dL_law_827 : decode cL_law 827 = .ok (.aload_n 0, 1) := bdL_law_822.2.2.2.2.2.1
theorem dL_law_828 : decode cL_law 828 = .ok (.iload_n 3, 1) := bdL_law_822.2.2.2.2.2.2.1
theorem dL_law_829 : decode cL_law 829 = .ok (.iconst 3, 1) := bdL_law_822.2.2.2.2.2.2.2.1
theorem dL_law_830 : decode cL_law 830 = .ok (.iadd, 1) := bdL_law_822.2.2.2.2.2.2.2.2.1
theorem dL_law_831 : decode cL_law 831 = .ok (.iaload, 1) := bdL_law_822.2.2.2.2.2.2.2.2.2.1
theorem dL_law_832 : decode cL_law 832 = .ok (.ifCond .eq 7, 3) := bdL_law_822.2.2.2.2.2.2.2.2.2.2.1
theorem dL_law_835 : decode cL_law 835 = .ok (.iconst 1, 1) := bdL_law_822.2.2.2.2.2.2.2.2.2.2.2.1
theorem dL_law_836 : decode cL_law 836 = .ok (.goto 4, 3) := bdL_law_822.2.2.2.2.2.2.2.2.2.2.2.2.1
theorem dL_law_839 : decode cL_law 839 = .ok (.iconst 0, 1) := bdL_law_822.2.2.2.2.2.2.2.2.2.2.2.2.2.1
theorem dL_law_840 : decode cL_law 840 = .ok (.invokevirtual 89, 3) := bdL_law_822.2.2.2.2.2.2.2.2.2.2.2.2.2.2.1
theorem dL_law_843 : decode cL_law 843 = .ok (.pop, 1) := bdL_law_822.2.2.2.2.2.2.2.2.2.2.2.2.2.2.2
theorem bdL_law_844 : (decode cL_law 844 = .ok (.goto 546, 3)) ∧ (decode cL_law 847 = .ok (.aload_n 1, 1)) ∧ (decode cL_law 848 = .ok (.aload_n 0, 1)) ∧ (decode cL_law 849 = .ok (.iload_n 3, 1)) ∧ (decode cL_law 850 = .ok (.iconst 1, 1)) ∧ (decode cL_law 851 = .ok (.iadd, 1)) ∧ (decode cL_law 852 = .ok (.iaload, 1)) ∧ (decode cL_law 853 = .ok (.invokevirtual 90, 3)) ∧ (decode cL_law 856 = .ok (.pop, 1)) ∧ (decode cL_law 857 = .ok (.aload_n 2, 1)) ∧ (decode cL_law 858 = .ok (.aload_n 0, 1)) ∧ (decode cL_law 859 = .ok (.iload_n 3, 1)) ∧ (decode cL_law 860 = .ok (.iconst 1, 1)) ∧ (decode cL_law 861 = .ok (.iadd, 1)) ∧ (decode cL_law 862 = .ok (.iaload, 1)) ∧ (decode cL_law 863 = .ok (.invokevirtual 93, 3)) := by decide +kernel
theorem dL_law_844 : decode cL_law 844 = .ok (.goto 546, 3) := bdL_law_844.1
theorem dL_law_847 : decode cL_law 847 = .ok (.aload_n 1, 1) := bdL_law_844.2.1
theorem dL_law_848 : decode cL_law 848 = .ok (.aload_n 0, 1) := bdL_law_844.2.2.1
theorem dL_law_849 : decode cL_law 849 = .ok (.iload_n 3, 1) := bdL_law_844.2.2.2.1
theorem dL_law_850 : decode cL_law 850 = .ok (.iconst 1, 1) := bdL_law_844.2.2.2.2.1
theorem dL_law_851 : decode cL_law 851 = .ok (.iadd, 1) := bdL_law_844.2.2.2.2.2.1
theorem dL_law_852 : decode cL_law 852 = .ok (.iaload, 1) := bdL_law_844.2.2.2.2.2.2.1
theorem dL_law_853 : decode cL_law 853 = .ok (.invokevirtual 90, 3) := bdL_law_844.2.2.2.2.2.2.2.1
theorem dL_law_856 : decode cL_law 856 = .ok (.pop, 1) := bdL_law_844.2.2.2.2.2.2.2.2.1
theorem dL_law_857 : decode cL_law 857 = .ok (.aload_n 2, 1) := bdL_law_844.2.2.2.2.2.2.2.2.2.1
theorem dL_law_858 : decode cL_law 858 = .ok (.aload_n 0, 1) := bdL_law_844.2.2.2.2.2.2.2.2.2.2.1
theorem dL_law_859 : decode cL_law 859 = .ok (.iload_n 3, 1) := bdL_law_844.2.2.2.2.2.2.2.2.2.2.2.1
theorem dL_law_860 : decode cL_law 860 = .ok (.iconst 1, 1) := bdL_law_844.2.2.2.2.2.2.2.2.2.2.2.2.1
theorem dL_law_861 : decode cL_law 861 = .ok (.iadd, 1) := bdL_law_844.2.2.2.2.2.2.2.2.2.2.2.2.2.1
theorem dL_law_862 : decode cL_law 862 = .ok (.iaload, 1) := bdL_law_844.2.2.2.2.2.2.2.2.2.2.2.2.2.2.1
theorem dL_law_863 : decode cL_law 863 = .ok (.invokevirtual 93, 3) := bdL_law_844.2.2.2.2.2.2.2.2.2.2.2.2.2.2.2
theorem bdL_law_866 : (decode cL_law 866 = .ok (.pop, 1)) ∧ (decode cL_law 867 = .ok (.goto 523, 3)) ∧ (decode cL_law 870 = .ok (.aload_n 1, 1)) ∧ (decode cL_law 871 = .ok (.aload_n 0, 1)) ∧ (decode cL_law 872 = .ok (.iload_n 3, 1)) ∧ (decode cL_law 873 = .ok (.iconst 1, 1)) ∧ (decode cL_law 874 = .ok (.iadd, 1)) ∧ (decode cL_law 875 = .ok (.iaload, 1)) ∧ (decode cL_law 876 = .ok (.aload_n 0, 1)) ∧ (decode cL_law 877 = .ok (.iload_n 3, 1)) ∧ (decode cL_law 878 = .ok (.iconst 2, 1)) ∧ (decode cL_law 879 = .ok (.iadd, 1)) ∧ (decode cL_law 880 = .ok (.iaload, 1)) ∧ (decode cL_law 881 = .ok (.aload_n 0, 1)) ∧ (decode cL_law 882 = .ok (.iload_n 3, 1)) ∧ (decode cL_law 883 = .ok (.iconst 3, 1)) := by decide +kernel
theorem dL_law_866 : decode cL_law 866 = .ok (.pop, 1) := bdL_law_866.1
theorem dL_law_867 : decode cL_law 867 = .ok (.goto 523, 3) := bdL_law_866.2.1
theorem dL_law_870 : decode cL_law 870 = .ok (.aload_n 1, 1) := bdL_law_866.2.2.1
theorem dL_law_871 : decode cL_law 871 = .ok (.aload_n 0, 1) := bdL_law_866.2.2.2.1
theorem dL_law_872 : decode cL_law 872 = .ok (.iload_n 3, 1) := bdL_law_866.2.2.2.2.1
theorem dL_law_873 : decode cL_law 873 = .ok (.iconst 1, 1) := bdL_law_866.2.2.2.2.2.1
theorem dL_law_874 : decode cL_law 874 = .ok (.iadd, 1) := bdL_law_866.2.2.2.2.2.2.1
theorem dL_law_875 : decode cL_law 875 = .ok (.iaload, 1) := bdL_law_866.2.2.2.2.2.2.2.1
theorem dL_law_876 : decode cL_law 876 = .ok (.aload_n 0, 1) := bdL_law_866.2.2.2.2.2.2.2.2.1
theorem dL_law_877 : decode cL_law 877 = .ok (.iload_n 3, 1) := bdL_law_866.2.2.2.2.2.2.2.2.2.1
theorem dL_law_878 : decode cL_law 878 = .ok (.iconst 2, 1) := bdL_law_866.2.2.2.2.2.2.2.2.2.2.1
theorem dL_law_879 : decode cL_law 879 = .ok (.iadd, 1) := bdL_law_866.2.2.2.2.2.2.2.2.2.2.2.1
theorem dL_law_880 : decode cL_law 880 = .ok (.iaload, 1) := bdL_law_866.2.2.2.2.2.2.2.2.2.2.2.2.1
theorem dL_law_881 : decode cL_law 881 = .ok (.aload_n 0, 1) := bdL_law_866.2.2.2.2.2.2.2.2.2.2.2.2.2.1
theorem dL_law_882 : decode cL_law 882 = .ok (.iload_n 3, 1) := bdL_law_866.2.2.2.2.2.2.2.2.2.2.2.2.2.2.1
theorem dL_law_883 : decode cL_law 883 = .ok (.iconst 3, 1) := bdL_law_866.2.2.2.2.2.2.2.2.2.2.2.2.2.2.2
theorem bdL_law_884 : (decode cL_law 884 = .ok (.iadd, 1)) ∧ (decode cL_law 885 = .ok (.iaload, 1)) ∧ (decode cL_law 886 = .ok (.invokevirtual 94, 3)) ∧ (decode cL_law 889 = .ok (.pop, 1)) ∧ (decode cL_law 890 = .ok (.aload_n 2, 1)) ∧ (decode cL_law 891 = .ok (.aload_n 0, 1)) ∧ (decode cL_law 892 = .ok (.iload_n 3, 1)) ∧ (decode cL_law 893 = .ok (.iconst 1, 1)) ∧ (decode cL_law 894 = .ok (.iadd, 1)) ∧ (decode cL_law 895 = .ok (.iaload, 1)) ∧ (decode cL_law 896 = .ok (.aload_n 0, 1)) ∧ (decode cL_law 897 = .ok (.iload_n 3, 1)) ∧ (decode cL_law 898 = .ok (.iconst 2, 1)) ∧ (decode cL_law 899 = .ok (.iadd, 1)) ∧ (decode cL_law 900 = .ok (.iaload, 1)) ∧ (decode cL_law 901 = .ok (.aload_n 0, 1)) := by decide +kernel
theorem dL_law_884 : decode cL_law 884 = .ok (.iadd, 1) := bdL_law_884.1
theorem dL_law_885 : decode cL_law 885 = .ok (.iaload, 1) := bdL_law_884.2.1
theorem dL_law_886 : decode cL_law 886 = .ok (.invokevirtual 94, 3) := bdL_law_884.2.2.1
theorem dL_law_889 : decode cL_law 889 = .ok (.pop, 1) := bdL_law_884.2.2.2.1
theorem dL_law_890 : decode cL_law 890 = .ok (.aload_n 2, 1) := bdL_law_884.2.2.2.2.1
theorem dL_law_891 : decode cL_law 891 = .ok (.aload_n 0, 1) := bdL_law_884.2.2.2.2.2.1
theorem dL_law_892 : decode cL_law 892 = .ok (.iload_n 3, 1) := bdL_law_884.2.2.2.2.2.2.1
theorem dL_law_893 : decode cL_law 893 = .ok (.iconst 1, 1) := bdL_law_884.2.2.2.2.2.2.2.1
theorem dL_law_894 : decode cL_law 894 = .ok (.iadd, 1) := bdL_law_884.2.2.2.2.2.2.2.2.1
theorem dL_law_895 : decode cL_law 895 = .ok (.iaload, 1) := bdL_law_884.2.2.2.2.2.2.2.2.2.1
theorem dL_law_896 : decode cL_law 896 = .ok (.aload_n 0, 1) := bdL_law_884.2.2.2.2.2.2.2.2.2.2.1
theorem dL_law_897 : decode cL_law 897 = .ok (.iload_n 3, 1) := bdL_law_884.2.2.2.2.2.2.2.2.2.2.2.1
theorem dL_law_898 : decode cL_law 898 = .ok (.iconst 2, 1) := bdL_law_884.2.2.2.2.2.2.2.2.2.2.2.2.1
theorem dL_law_899 : decode cL_law 899 = .ok (.iadd, 1) := bdL_law_884.2.2.2.2.2.2.2.2.2.2.2.2.2.1
theorem dL_law_900 : decode cL_law 900 = .ok (.iaload, 1) := bdL_law_884.2.2.2.2.2.2.2.2.2.2.2.2.2.2.1
theorem dL_law_901 : decode cL_law 901 = .ok (.aload_n 0, 1) := bdL_law_884.2.2.2.2.2.2.2.2.2.2.2.2.2.2.2
theorem bdL_law_902 : (decode cL_law 902 = .ok (.iload_n 3, 1)) ∧ (decode cL_law 903 = .ok (.iconst 3, 1)) ∧ (decode cL_law 904 = .ok (.iadd, 1)) ∧ (decode cL_law 905 = .ok (.iaload, 1)) ∧ (decode cL_law 906 = .ok (.invokevirtual 97, 3)) ∧ (decode cL_law 909 = .ok (.pop, 1)) ∧ (decode cL_law 910 = .ok (.goto 480, 3)) ∧ (decode cL_law 913 = .ok (.aload_n 1, 1)) ∧ (decode cL_law 914 = .ok (.aload_n 0, 1)) ∧ (decode cL_law 915 = .ok (.iload_n 3, 1)) ∧ (decode cL_law 916 = .ok (.iconst 1, 1)) ∧ (decode cL_law 917 = .ok (.iadd, 1)) ∧ (decode cL_law 918 = .ok (.iaload, 1)) ∧ (decode cL_law 919 = .ok (.aload_n 0, 1)) ∧ (decode cL_law 920 = .ok (.iload_n 3, 1)) ∧ (decode cL_law 921 = .ok (.iconst 2, 1)) := by decide +kernel
theorem dL_law_902 : decode cL_law 902 = .ok (.iload_n 3, 1) := bdL_law_902.1
theorem dL_law_903 : decode cL_law 903 = .ok (.iconst 3, 1) := bdL_law_902.2.1
theorem dL_law_904 : decode cL_law 904 = .ok (.iadd, 1) := bdL_law_902.2.2.1
theorem dL_law_905 : decode cL_law 905 = .ok (.iaload, 1) := bdL_law_902.2.2.2.1
theorem dL_law_906 : decode cL_law 906 = .ok (.invokevirtual 97, 3) := bdL_law_902.2.2.2.2.1
theorem dL_law_909 : decode cL_law 909 = .ok (.pop, 1) := bdL_law_902.2.2.2.2.2.1
theorem dL_law_910 : decode cL_law 910 = .ok (.goto 480, 3) := bdL_law_902.2.2.2.2.2.2.1
theorem dL_law_913 : decode cL_law 913 = .ok (.aload_n 1, 1) := bdL_law_902.2.2.2.2.2.2.2.1
theorem dL_law_914 : decode cL_law 914 = .ok (.aload_n 0, 1) := bdL_law_902.2.2.2.2.2.2.2.2.1
theorem dL_law_915 : decode cL_law 915 = .ok (.iload_n 3, 1) := bdL_law_902.2.2.2.2.2.2.2.2.2.1
theorem dL_law_916 : decode cL_law 916 = .ok (.iconst 1, 1) := bdL_law_902.2.2.2.2.2.2.2.2.2.2.1
theorem dL_law_917 : decode cL_law 917 = .ok (.iadd, 1) := bdL_law_902.2.2.2.2.2.2.2.2.2.2.2.1
theorem dL_law_918 : decode cL_law 918 = .ok (.iaload, 1) := bdL_law_902.2.2.2.2.2.2.2.2.2.2.2.2.1
theorem dL_law_919 : decode cL_law 919 = .ok (.aload_n 0, 1) := bdL_law_902.2.2.2.2.2.2.2.2.2.2.2.2.2.1
theorem dL_law_920 : decode cL_law 920 = .ok (.iload_n 3, 1) := bdL_law_902.2.2.2.2.2.2.2.2.2.2.2.2.2.2.1
theorem dL_law_921 : decode cL_law 921 = .ok (.iconst 2, 1) := bdL_law_902.2.2.2.2.2.2.2.2.2.2.2.2.2.2.2
theorem bdL_law_922 : (decode cL_law 922 = .ok (.iadd, 1)) ∧ (decode cL_law 923 = .ok (.iaload, 1)) ∧ (decode cL_law 924 = .ok (.aload_n 0, 1)) ∧ (decode cL_law 925 = .ok (.iload_n 3, 1)) ∧ (decode cL_law 926 = .ok (.iconst 3, 1)) ∧ (decode cL_law 927 = .ok (.iadd, 1)) ∧ (decode cL_law 928 = .ok (.iaload, 1)) ∧ (decode cL_law 929 = .ok (.invokevirtual 98, 3)) ∧ (decode cL_law 932 = .ok (.pop, 1)) ∧ (decode cL_law 933 = .ok (.aload_n 2, 1)) ∧ (decode cL_law 934 = .ok (.aload_n 0, 1)) ∧ (decode cL_law 935 = .ok (.iload_n 3, 1)) ∧ (decode cL_law 936 = .ok (.iconst 1, 1)) ∧ (decode cL_law 937 = .ok (.iadd, 1)) ∧ (decode cL_law 938 = .ok (.iaload, 1)) ∧ (decode cL_law 939 = .ok (.aload_n 0, 1)) := by decide +kernel
theorem dL_law_922 : decode cL_law 922 = .ok (.iadd, 1) := bdL_law_922.1
theorem dL_law_923 : decode cL_law 923 = .ok (.iaload, 1) := bdL_law_922.2.1
theorem dL_law_924 : decode cL_law 924 = .ok (.aload_n 0, 1) := bdL_law_922.2.2.1
theorem dL_law_925 : decode cL_law 925 = .ok (.iload_n 3, 1) := bdL_law_922.2.2.2.1
theorem dL_law_926 : decode cL_law 926 = .ok (.iconst 3, 1) := bdL_law_922.2.2.2.2.1
theorem dL_law_927 : decode cL_law 927 = .ok (.iadd, 1) := bdL_law_922.2.2.2.2.2.1
theorem dL_law_928 : decode cL_law 928 = .ok (.iaload, 1) := bdL_law_922.2.2.2.2.2.2.1
theorem dL_law_929 : decode cL_law 929 = .ok (.invokevirtual 98, 3) := bdL_law_922.2.2.2.2.2.2.2.1
theorem dL_law_932 : decode cL_law 932 = .ok (.pop, 1) := bdL_law_922.2.2.2.2.2.2.2.2.1
theorem dL_law_933 : decode cL_law 933 = .ok (.aload_n 2, 1) := bdL_law_922.2.2.2.2.2.2.2.2.2.1
theorem dL_law_934 : decode cL_law 934 = .ok (.aload_n 0, 1) := bdL_law_922.2.2.2.2.2.2.2.2.2.2.1
theorem dL_law_935 : decode cL_law 935 = .ok (.iload_n 3, 1) := bdL_law_922.2.2.2.2.2.2.2.2.2.2.2.1
theorem dL_law_936 : decode cL_law 936 = .ok (.iconst 1, 1) := bdL_law_922.2.2.2.2.2.2.2.2.2.2.2.2.1
theorem dL_law_937 : decode cL_law 937 = .ok (.iadd, 1) := bdL_law_922.2.2.2.2.2.2.2.2.2.2.2.2.2.1
theorem dL_law_938 : decode cL_law 938 = .ok (.iaload, 1) := bdL_law_922.2.2.2.2.2.2.2.2.2.2.2.2.2.2.1
theorem dL_law_939 : decode cL_law 939 = .ok (.aload_n 0, 1) := bdL_law_922.2.2.2.2.2.2.2.2.2.2.2.2.2.2.2
theorem bdL_law_940 : (decode cL_law 940 = .ok (.iload_n 3, 1)) ∧ (decode cL_law 941 = .ok (.iconst 2, 1)) ∧ (decode cL_law 942 = .ok (.iadd, 1)) ∧ (decode cL_law 943 = .ok (.iaload, 1)) ∧ (decode cL_law 944 = .ok (.aload_n 0, 1)) ∧ (decode cL_law 945 = .ok (.iload_n 3, 1)) ∧ (decode cL_law 946 = .ok (.iconst 3, 1)) ∧ (decode cL_law 947 = .ok (.iadd, 1)) ∧ (decode cL_law 948 = .ok (.iaload, 1)) ∧ (decode cL_law 949 = .ok (.invokevirtual 101, 3)) ∧ (decode cL_law 952 = .ok (.pop, 1)) ∧ (decode cL_law 953 = .ok (.goto 437, 3)) ∧ (decode cL_law 956 = .ok (.aload_n 1, 1)) ∧ (decode cL_law 957 = .ok (.aload_n 0, 1)) ∧ (decode cL_law 958 = .ok (.iload_n 3, 1)) ∧ (decode cL_law 959 = .ok (.iconst 1, 1)) := by decide +kernel
theorem dL_law_940 : decode cL_law 940 = .ok (.iload_n 3, 1) := bdL_law_940.1
theorem dL_law_941 : decode cL_law 941 = .ok (.iconst 2, 1) := bdL_law_940.2.1
theorem dL_law_942 : decode cL_law 942 = .ok (.iadd, 1) := bdL_law_940.2.2.1
theorem dL_law_943 : decode cL_law 943 = .ok (.iaload, 1) := bdL_law_940.2.2.2.1
theorem dL_law_944 : decode cL_law 944 = .ok (.aload_n 0, 1) := bdL_law_940.2.2.2.2.1
theorem dL_law_945 : decode cL_law 945 = .ok (.iload_n 3, 1) := bdL_law_940.2.2.2.2.2.1
theorem dL_law_946 : decode cL_law 946 = .ok (.iconst 3, 1) := bdL_law_940.2.2.2.2.2.2.1
theorem dL_law_947 : decode cL_law 947 = .ok (.iadd, 1) := bdL_law_940.2.2.2.2.2.2.2.1
theorem dL_law_948 : decode cL_law 948 = .ok (.iaload, 1) := bdL_law_940.2.2.2.2.2.2.2.2.1
theorem dL_law_949 : decode cL_law 949 = .ok (.invokevirtual 101, 3) := bdL_law_940.2.2.2.2.2.2.2.2.2.1
theorem dL_law_952 : decode cL_law 952 = .ok (.pop, 1) := bdL_law_940.2.2.2.2.2.2.2.2.2.2.1
theorem dL_law_953 : decode cL_law 953 = .ok (.goto 437, 3) := bdL_law_940.2.2.2.2.2.2.2.2.2.2.2.1
theorem dL_law_956 : decode cL_law 956 = .ok (.aload_n 1, 1) := bdL_law_940.2.2.2.2.2.2.2.2.2.2.2.2.1
theorem dL_law_957 : decode cL_law 957 = .ok (.aload_n 0, 1) := bdL_law_940.2.2.2.2.2.2.2.2.2.2.2.2.2.1
theorem dL_law_958 : decode cL_law 958 = .ok (.iload_n 3, 1) := bdL_law_940.2.2.2.2.2.2.2.2.2.2.2.2.2.2.1
theorem dL_law_959 : decode cL_law 959 = .ok (.iconst 1, 1) := bdL_law_940.2.2.2.2.2.2.2.2.2.2.2.2.2.2.2
theorem bdL_law_960 : (decode cL_law 960 = .ok (.iadd, 1)) ∧ (decode cL_law 961 = .ok (.iaload, 1)) ∧ (decode cL_law 962 = .ok (.aload_n 0, 1)) ∧ (decode cL_law 963 = .ok (.iload_n 3, 1)) ∧ (decode cL_law 964 = .ok (.iconst 2, 1)) ∧ (decode cL_law 965 = .ok (.iadd, 1)) ∧ (decode cL_law 966 = .ok (.iaload, 1)) ∧ (decode cL_law 967 = .ok (.invokevirtual 102, 3)) ∧ (decode cL_law 970 = .ok (.pop, 1)) ∧ (decode cL_law 971 = .ok (.aload_n 2, 1)) ∧ (decode cL_law 972 = .ok (.aload_n 0, 1)) ∧ (decode cL_law 973 = .ok (.iload_n 3, 1)) ∧ (decode cL_law 974 = .ok (.iconst 1, 1)) ∧ (decode cL_law 975 = .ok (.iadd, 1)) ∧ (decode cL_law 976 = .ok (.iaload, 1)) ∧ (decode cL_law 977 = .ok (.aload_n 0, 1)) := by decide +kernel
theorem dL_law_960 : decode cL_law 960 = .ok (.iadd, 1) := bdL_law_960.1
theorem dL_law_961 : decode cL_law 961 = .ok (.iaload, 1) := bdL_law_960.2.1
theorem dL_law_962 : decode cL_law 962 = .ok (.aload_n 0, 1) := bdL_law_960.2.2.1
theorem dL_law_963 : decode cL_law 963 = .ok (.iload_n 3, 1) := bdL_law_960.2.2.2.1
theorem dL_law_964 : decode cL_law 964 = .ok (.iconst 2, 1) := bdL_law_960.2.2.2.2.1
theorem dL_law_965 : decode cL_law 965 = .ok (.iadd, 1) := bdL_law_960.2.2.2.2.2.1
theorem dL_law_966 : decode cL_law 966 = .ok (.iaload, 1) := bdL_law_960.2.2.2.2.2.2.1
theorem dL_law_967 : decode cL_law 967 = .ok (.invokevirtual 102, 3) := bdL_law_960.2.2.2.2.2.2.2.1
theorem dL_law_970 : decode cL_law 970 = .ok (.pop, 1) := bdL_law_960.2.2.2.2.2.2.2.2.1
theorem dL_law_971 : decode cL_law 971 = .ok (.aload_n 2, 1) := bdL_law_960.2.2.2.2.2.2.2.2.2.1
theorem dL_law_972 : decode cL_law 972 = .ok (.aload_n 0, 1) := bdL_law_960.2.2.2.2.2.2.2.2.2.2.1
theorem dL_law_973 : decode cL_law 973 = .ok (.iload_n 3, 1) := bdL_law_960.2.2.2.2.2.2.2.2.2.2.2.1
theorem dL_law_974 : decode cL_law 974 = .ok (.iconst 1, 1) := bdL_law_960.2.2.2.2.2.2.2.2.2.2.2.2.1
theorem dL_law_975 : decode cL_law 975 = .ok (.iadd, 1) := bdL_law_960.2.2.2.2.2.2.2.2.2.2.2.2.2.1
theorem dL_law_976 : decode cL_law 976 = .ok (.iaload, 1) := bdL_law_960.2.2.2.2.2.2.2.2.2.2.2.2.2.2.1
theorem dL_law_977 : decode cL_law 977 = .ok (.aload_n 0, 1) := bdL_law_960.2.2.2.2.2.2.2.2.2.2.2.2.2.2.2
theorem bdL_law_978 : (decode cL_law 978 = .ok (.iload_n 3, 1)) ∧ (decode cL_law 979 = .ok (.iconst 2, 1)) ∧ (decode cL_law 980 = .ok (.iadd, 1)) ∧ (decode cL_law 981 = .ok (.iaload, 1)) ∧ (decode cL_law 982 = .ok (.invokevirtual 105, 3)) ∧ (decode cL_law 985 = .ok (.pop, 1)) ∧ (decode cL_law 986 = .ok (.goto 404, 3)) ∧ (decode cL_law 989 = .ok (.aload_n 1, 1)) ∧ (decode cL_law 990 = .ok (.aload_n 0, 1)) ∧ (decode cL_law 991 = .ok (.iload_n 3, 1)) ∧ (decode cL_law 992 = .ok (.iconst 1, 1)) ∧ (decode cL_law 993 = .ok (.iadd, 1)) ∧ (decode cL_law 994 = .ok (.iaload, 1)) ∧ (decode cL_law 995 = .ok (.aload_n 0, 1)) ∧ (decode cL_law 996 = .ok (.iload_n 3, 1)) ∧ (decode cL_law 997 = .ok (.iconst 2, 1)) := by decide +kernel
theorem dL_law_978 : decode cL_law 978 = .ok (.iload_n 3, 1) := bdL_law_978.1
theorem dL_law_979 : decode cL_law 979 = .ok (.iconst 2, 1) := bdL_law_978.2.1
theorem dL_law_980 : decode cL_law 980 = .ok (.iadd, 1) := bdL_law_978.2.2.1
theorem dL_law_981 : decode cL_law 981 = .ok (.iaload, 1) := bdL_law_978.2.2.2.1
theorem dL_law_982 : decode cL_law 982 = .ok (.invokevirtual 105, 3) := bdL_law_978.2.2.2.2.1
theorem dL_law_985 : decode cL_law 985 = .ok (.pop, 1) := bdL_law_978.2.2.2.2.2.1
theorem dL_law_986 : decode cL_law 986 = .ok (.goto 404, 3) := bdL_law_978.2.2.2.2.2.2.1
theorem dL_law_989 : decode cL_law 989 = .ok (.aload_n 1, 1) := bdL_law_978.2.2.2.2.2.2.2.1
theorem dL_law_990 : decode cL_law 990 = .ok (.aload_n 0, 1) := bdL_law_978.2.2.2.2.2.2.2.2.1
theorem dL_law_991 : decode cL_law 991 = .ok (.iload_n 3, 1) := bdL_law_978.2.2.2.2.2.2.2.2.2.1
theorem dL_law_992 : decode cL_law 992 = .ok (.iconst 1, 1) := bdL_law_978.2.2.2.2.2.2.2.2.2.2.1
theorem dL_law_993 : decode cL_law 993 = .ok (.iadd, 1) := bdL_law_978.2.2.2.2.2.2.2.2.2.2.2.1
theorem dL_law_994 : decode cL_law 994 = .ok (.iaload, 1) := bdL_law_978.2.2.2.2.2.2.2.2.2.2.2.2.1
theorem dL_law_995 : decode cL_law 995 = .ok (.aload_n 0, 1) := bdL_law_978.2.2.2.2.2.2.2.2.2.2.2.2.2.1
theorem dL_law_996 : decode cL_law 996 = .ok (.iload_n 3, 1) := bdL_law_978.2.2.2.2.2.2.2.2.2.2.2.2.2.2.1
theorem dL_law_997 : decode cL_law 997 = .ok (.iconst 2, 1) := bdL_law_978.2.2.2.2.2.2.2.2.2.2.2.2.2.2.2
theorem bdL_law_998 : (decode cL_law 998 = .ok (.iadd, 1)) ∧ (decode cL_law 999 = .ok (.iaload, 1)) ∧ (decode cL_law 1000 = .ok (.invokevirtual 106, 3)) ∧ (decode cL_law 1003 = .ok (.pop, 1)) ∧ (decode cL_law 1004 = .ok (.aload_n 2, 1)) ∧ (decode cL_law 1005 = .ok (.aload_n 0, 1)) ∧ (decode cL_law 1006 = .ok (.iload_n 3, 1)) ∧ (decode cL_law 1007 = .ok (.iconst 1, 1)) ∧ (decode cL_law 1008 = .ok (.iadd, 1)) ∧ (decode cL_law 1009 = .ok (.iaload, 1)) ∧ (decode cL_law 1010 = .ok (.aload_n 0, 1)) ∧ (decode cL_law 1011 = .ok (.iload_n 3, 1)) ∧ (decode cL_law 1012 = .ok (.iconst 2, 1)) ∧ (decode cL_law 1013 = .ok (.iadd, 1)) ∧ (decode cL_law 1014 = .ok (.iaload, 1)) ∧ (decode cL_law 1015 = .ok (.invokevirtual 109, 3)) := by decide +kernel
theorem dL_law_998 : decode cL_law 998 = .ok (.iadd, 1) := bdL_law_998.1
theorem dL_law_999 : decode cL_law 999 = .ok (.iaload, 1) := bdL_law_998.2.1
theorem dL_law_1000 : decode cL_law 1000 = .ok (.invokevirtual 106, 3) := bdL_law_998.2.2.1
theorem dL_law_1003 : decode cL_law 1003 = .ok (.pop, 1) := bdL_law_998.2.2.2.1
theorem dL_law_1004 : decode cL_law 1004 = .ok (.aload_n 2, 1) := bdL_law_998.2.2.2.2.1
theorem dL_law_1005 : decode cL_law 1005 = .ok (.aload_n 0, 1) := bdL_law_998.2.2.2.2.2.1
theorem dL_law_1006 : decode cL_law 1006 = .ok (.iload_n 3, 1) := bdL_law_998.2.2.2.2.2.2.1
theorem dL_law_1007 : decode cL_law 1007 = .ok (.iconst 1, 1) := bdL_law_998.2.2.2.2.2.2.2.1
theorem dL_law_1008 : decode cL_law 1008 = .ok (.iadd, 1) := bdL_law_998.2.2.2.2.2.2.2.2.1
theorem dL_law_1009 : decode cL_law 1009 = .ok (.iaload, 1) := bdL_law_998.2.2.2.2.2.2.2.2.2.1
theorem dL_law_1010 : decode cL_law 1010 = .ok (.aload_n 0, 1) := bdL_law_998.2.2.2.2.2.2.2.2.2.2.1
theorem dL_law_1011 : decode cL_law 1011 = .ok (.iload_n 3, 1) := bdL_law_998.2.2.2.2.2.2.2.2.2.2.2.1
theorem dL_law_1012 : decode cL_law 1012 = .ok (.iconst 2, 1) := bdL_law_998.2.2.2.2.2.2.2.2.2.2.2.2.1
theorem dL_law_1013 : decode cL_law 1013 = .ok (.iadd, 1) := bdL_law_998.2.2.2.2.2.2.2.2.2.2.2.2.2.1
theorem dL_law_1014 : decode cL_law 1014 = .ok (.iaload, 1) := bdL_law_998.2.2.2.2.2.2.2.2.2.2.2.2.2.2.1
theorem dL_law_1015 : decode cL_law 1015 = .ok (.invokevirtual 109, 3) := bdL_law_998.2.2.2.2.2.2.2.2.2.2.2.2.2.2.2
theorem bdL_law_1018 : (decode cL_law 1018 = .ok (.pop, 1)) ∧ (decode cL_law 1019 = .ok (.goto 371, 3)) ∧ (decode cL_law 1022 = .ok (.aload_n 1, 1)) ∧ (decode cL_law 1023 = .ok (.aload_n 0, 1)) ∧ (decode cL_law 1024 = .ok (.iload_n 3, 1)) ∧ (decode cL_law 1025 = .ok (.iconst 1, 1)) ∧ (decode cL_law 1026 = .ok (.iadd, 1)) ∧ (decode cL_law 1027 = .ok (.iaload, 1)) ∧ (decode cL_law 1028 = .ok (.aload_n 0, 1)) ∧ (decode cL_law 1029 = .ok (.iload_n 3, 1)) ∧ (decode cL_law 1030 = .ok (.iconst 2, 1)) ∧ (decode cL_law 1031 = .ok (.iadd, 1)) ∧ (decode cL_law 1032 = .ok (.iaload, 1)) ∧ (decode cL_law 1033 = .ok (.aload_n 0, 1)) ∧ (decode cL_law 1034 = .ok (.iload_n 3, 1)) ∧ (decode cL_law 1035 = .ok (.iconst 3, 1)) := by decide +kernel
theorem dL_law_1018 : decode cL_law 1018 = .ok (.pop, 1) := bdL_law_1018.1
theorem dL_law_1019 : decode cL_law 1019 = .ok (.goto 371, 3) := bdL_law_1018.2.1
theorem dL_law_1022 : decode cL_law 1022 = .ok (.aload_n 1, 1) := bdL_law_1018.2.2.1
theorem dL_law_1023 : decode cL_law 1023 = .ok (.aload_n 0, 1) := bdL_law_1018.2.2.2.1
theorem dL_law_1024 : decode cL_law 1024 = .ok (.iload_n 3, 1) := bdL_law_1018.2.2.2.2.1
theorem dL_law_1025 : decode cL_law 1025 = .ok (.iconst 1, 1) := bdL_law_1018.2.2.2.2.2.1
theorem dL_law_1026 : decode cL_law 1026 = .ok (.iadd, 1) := bdL_law_1018.2.2.2.2.2.2.1
theorem dL_law_1027 : decode cL_law 1027 = .ok (.iaload, 1) := bdL_law_1018.2.2.2.2.2.2.2.1
theorem dL_law_1028 : decode cL_law 1028 = .ok (.aload_n 0, 1) := bdL_law_1018.2.2.2.2.2.2.2.2.1
theorem dL_law_1029 : decode cL_law 1029 = .ok (.iload_n 3, 1) := bdL_law_1018.2.2.2.2.2.2.2.2.2.1
theorem dL_law_1030 : decode cL_law 1030 = .ok (.iconst 2, 1) := bdL_law_1018.2.2.2.2.2.2.2.2.2.2.1
theorem dL_law_1031 : decode cL_law 1031 = .ok (.iadd, 1) := bdL_law_1018.2.2.2.2.2.2.2.2.2.2.2.1
theorem dL_law_1032 : decode cL_law 1032 = .ok (.iaload, 1) := bdL_law_1018.2.2.2.2.2.2.2.2.2.2.2.2.1
theorem dL_law_1033 : decode cL_law 1033 = .ok (.aload_n 0, 1) := bdL_law_1018.2.2.2.2.2.2.2.2.2.2.2.2.2.1
theorem dL_law_1034 : decode cL_law 1034 = .ok (.iload_n 3, 1) := bdL_law_1018.2.2.2.2.2.2.2.2.2.2.2.2.2.2.1
theorem dL_law_1035 : decode cL_law 1035 = .ok (.iconst 3, 1) := bdL_law_1018.2.2.2.2.2.2.2.2.2.2.2.2.2.2.2
theorem bdL_law_1036 : (decode cL_law 1036 = .ok (.iadd, 1)) ∧ (decode cL_law 1037 = .ok (.iaload, 1)) ∧ (decode cL_law 1038 = .ok (.aload_n 0, 1)) ∧ (decode cL_law 1039 = .ok (.iload_n 3, 1)) ∧ (decode cL_law 1040 = .ok (.iconst 4, 1)) ∧ (decode cL_law 1041 = .ok (.iadd, 1)) ∧ (decode cL_law 1042 = .ok (.iaload, 1)) ∧ (decode cL_law 1043 = .ok (.invokevirtual 110, 3)) ∧ (decode cL_law 1046 = .ok (.pop, 1)) ∧ (decode cL_law 1047 = .ok (.aload_n 2, 1)) ∧ (decode cL_law 1048 = .ok (.aload_n 0, 1)) ∧ (decode cL_law 1049 = .ok (.iload_n 3, 1)) ∧ (decode cL_law 1050 = .ok (.iconst 1, 1)) ∧ (decode cL_law 1051 = .ok (.iadd, 1)) ∧ (decode cL_law 1052 = .ok (.iaload, 1)) ∧ (decode cL_law 1053 = .ok (.aload_n 0, 1)) := by decide +kernel
theorem dL_law_1036 : decode cL_law 1036 = .ok (.iadd, 1) := bdL_law_1036.1
theorem dL_law_1037 : decode cL_law 1037 = .ok (.iaload, 1) := bdL_law_1036.2.1
theorem dL_law_1038 : decode cL_law 1038 = .ok (.aload_n 0, 1) := bdL_law_1036.2.2.1
theorem dL_law_1039 : decode cL_law 1039 = .ok (.iload_n 3, 1) := bdL_law_1036.2.2.2.1
theorem dL_law_1040 : decode cL_law 1040 = .ok (.iconst 4, 1) := bdL_law_1036.2.2.2.2.1
theorem dL_law_1041 : decode cL_law 1041 = .ok (.iadd, 1) := bdL_law_1036.2.2.2.2.2.1
theorem dL_law_1042 : decode cL_law 1042 = .ok (.iaload, 1) := bdL_law_1036.2.2.2.2.2.2.1
theorem dL_law_1043 : decode cL_law 1043 = .ok (.invokevirtual 110, 3) := bdL_law_1036.2.2.2.2.2.2.2.1
theorem dL_law_1046 : decode cL_law 1046 = .ok (.pop, 1) := bdL_law_1036.2.2.2.2.2.2.2.2.1
theorem dL_law_1047 : decode cL_law 1047 = .ok (.aload_n 2, 1) := bdL_law_1036.2.2.2.2.2.2.2.2.2.1
theorem dL_law_1048 : decode cL_law 1048 = .ok (.aload_n 0, 1) := bdL_law_1036.2.2.2.2.2.2.2.2.2.2.1
theorem dL_law_1049 : decode cL_law 1049 = .ok (.iload_n 3, 1) := bdL_law_1036.2.2.2.2.2.2.2.2.2.2.2.1
theorem dL_law_1050 : decode cL_law 1050 = .ok (.iconst 1, 1) := bdL_law_1036.2.2.2.2.2.2.2.2.2.2.2.2.1
theorem dL_law_1051 : decode cL_law 1051 = .ok (.iadd, 1) := bdL_law_1036.2.2.2.2.2.2.2.2.2.2.2.2.2.1
theorem dL_law_1052 : decode cL_law 1052 = .ok (.iaload, 1) := bdL_law_1036.2.2.2.2.2.2.2.2.2.2.2.2.2.2.1
theorem dL_law_1053 : decode cL_law 1053 = .ok (.aload_n 0, 1) := bdL_law_1036.2.2.2.2.2.2.2.2.2.2.2.2.2.2.2
theorem bdL_law_1054 : (decode cL_law 1054 = .ok (.iload_n 3, 1)) ∧ (decode cL_law 1055 = .ok (.iconst 2, 1)) ∧ (decode cL_law 1056 = .ok (.iadd, 1)) ∧ (decode cL_law 1057 = .ok (.iaload, 1)) ∧ (decode cL_law 1058 = .ok (.aload_n 0, 1)) ∧ (decode cL_law 1059 = .ok (.iload_n 3, 1)) ∧ (decode cL_law 1060 = .ok (.iconst 3, 1)) ∧ (decode cL_law 1061 = .ok (.iadd, 1)) ∧ (decode cL_law 1062 = .ok (.iaload, 1)) ∧ (decode cL_law 1063 = .ok (.aload_n 0, 1)) ∧ (decode cL_law 1064 = .ok (.iload_n 3, 1)) ∧ (decode cL_law 1065 = .ok (.iconst 4, 1)) ∧ (decode cL_law 1066 = .ok (.iadd, 1)) ∧ (decode cL_law 1067 = .ok (.iaload, 1)) ∧ (decode cL_law 1068 = .ok (.invokevirtual 114, 3)) ∧ (decode cL_law 1071 = .ok (.pop, 1)) := by decide +kernel
theorem dL_law_1054 : decode cL_law 1054 = .ok (.iload_n 3, 1) := bdL_law_1054.1
theorem dL_law_1055 : decode cL_law 1055 = .ok (.iconst 2, 1) := bdL_law_1054.2.1
theorem dL_law_1056 : decode cL_law 1056 = .ok (.iadd, 1) := bdL_law_1054.2.2.1
theorem dL_law_1057 : decode cL_law 1057 = .ok (.iaload, 1) := bdL_law_1054.2.2.2.1
theorem dL_law_1058 : decode cL_law 1058 = .ok (.aload_n 0, 1) := bdL_law_1054.2.2.2.2.1
theorem dL_law_1059 : decode cL_law 1059 = .ok (.iload_n 3, 1) := bdL_law_1054.2.2.2.2.2.1
theorem dL_law_1060 : decode cL_law 1060 = .ok (.iconst 3, 1) := bdL_law_1054.2.2.2.2.2.2.1
theorem dL_law_1061 : decode cL_law 1061 = .ok (.iadd, 1) := bdL_law_1054.2.2.2.2.2.2.2.1
theorem dL_law_1062 : decode cL_law 1062 = .ok (.iaload, 1) := bdL_law_1054.2.2.2.2.2.2.2.2.1
theorem dL_law_1063 : decode cL_law 1063 = .ok (.aload_n 0, 1) := bdL_law_1054.2.2.2.2.2.2.2.2.2.1
theorem dL_law_1064 : decode cL_law 1064 = .ok (.iload_n 3, 1) := bdL_law_1054.2.2.2.2.2.2.2.2.2.2.1
theorem dL_law_1065 : decode cL_law 1065 = .ok (.iconst 4, 1) := bdL_law_1054.2.2.2.2.2.2.2.2.2.2.2.1
theorem dL_law_1066 : decode cL_law 1066 = .ok (.iadd, 1) := bdL_law_1054.2.2.2.2.2.2.2.2.2.2.2.2.1
theorem dL_law_1067 : decode cL_law 1067 = .ok (.iaload, 1) := bdL_law_1054.2.2.2.2.2.2.2.2.2.2.2.2.2.1
theorem dL_law_1068 : decode cL_law 1068 = .ok (.invokevirtual 114, 3) := bdL_law_1054.2.2.2.2.2.2.2.2.2.2.2.2.2.2.1
theorem dL_law_1071 : decode cL_law 1071 = .ok (.pop, 1) := bdL_law_1054.2.2.2.2.2.2.2.2.2.2.2.2.2.2.2
theorem bdL_law_1072 : (decode cL_law 1072 = .ok (.goto 318, 3)) ∧ (decode cL_law 1075 = .ok (.aload_n 1, 1)) ∧ (decode cL_law 1076 = .ok (.aload_n 0, 1)) ∧ (decode cL_law 1077 = .ok (.iload_n 3, 1)) ∧ (decode cL_law 1078 = .ok (.iconst 1, 1)) ∧ (decode cL_law 1079 = .ok (.iadd, 1)) ∧ (decode cL_law 1080 = .ok (.iaload, 1)) ∧ (decode cL_law 1081 = .ok (.aload_n 0, 1)) ∧ (decode cL_law 1082 = .ok (.iload_n 3, 1)) ∧ (decode cL_law 1083 = .ok (.iconst 2, 1)) ∧ (decode cL_law 1084 = .ok (.iadd, 1)) ∧ (decode cL_law 1085 = .ok (.iaload, 1)) ∧ (decode cL_law 1086 = .ok (.invokevirtual 115, 3)) ∧ (decode cL_law 1089 = .ok (.pop, 1)) ∧ (decode cL_law 1090 = .ok (.aload_n 2, 1)) ∧ (decode cL_law 1091 = .ok (.aload_n 0, 1)) := by decide +kernel
theorem dL_law_1072 : decode cL_law 1072 = .ok (.goto 318, 3) := bdL_law_1072.1
theorem dL_law_1075 : decode cL_law 1075 = .ok (.aload_n 1, 1) := bdL_law_1072.2.1
theorem dL_law_1076 : decode cL_law 1076 = .ok (.aload_n 0, 1) := bdL_law_1072.2.2.1
theorem dL_law_1077 : decode cL_law 1077 = .ok (.iload_n 3, 1) := bdL_law_1072.2.2.2.1
theorem dL_law_1078 : decode cL_law 1078 = .ok (.iconst 1, 1) := bdL_law_1072.2.2.2.2.1
theorem dL_law_1079 : decode cL_law 1079 = .ok (.iadd, 1) := bdL_law_1072.2.2.2.2.2.1
theorem dL_law_1080 : decode cL_law 1080 = .ok (.iaload, 1) := bdL_law_1072.2.2.2.2.2.2.1
theorem dL_law_1081 : decode cL_law 1081 = .ok (.aload_n 0, 1) := bdL_law_1072.2.2.2.2.2.2.2.1
theorem dL_law_1082 : decode cL_law 1082 = .ok (.iload_n 3, 1) := bdL_law_1072.2.2.2.2.2.2.2.2.1
theorem dL_law_1083 : decode cL_law 1083 = .ok (.iconst 2, 1) := bdL_law_1072.2.2.2.2.2.2.2.2.2.1
theorem dL_law_1084 : decode cL_law 1084 = .ok (.iadd, 1) := bdL_law_1072.2.2.2.2.2.2.2.2.2.2.1
theorem dL_law_1085 : decode cL_law 1085 = .ok (.iaload, 1) := bdL_law_1072.2.2.2.2.2.2.2.2.2.2.2.1
theorem dL_law_1086 : decode cL_law 1086 = .ok (.invokevirtual 115, 3) := bdL_law_1072.2.2.2.2.2.2.2.2.2.2.2.2.1
theorem dL_law_1089 : decode cL_law 1089 = .ok (.pop, 1) := bdL_law_1072.2.2.2.2.2.2.2.2.2.2.2.2.2.1
theorem dL_law_1090 : decode cL_law 1090 = .ok (.aload_n 2, 1) := bdL_law_1072.2.2.2.2.2.2.2.2.2.2.2.2.2.2.1
theorem dL_law_1091 : decode cL_law 1091 = .ok (.aload_n 0, 1) := bdL_law_1072.2.2.2.2.2.2.2.2.2.2.2.2.2.2.2
theorem bdL_law_1092 : (decode cL_law 1092 = .ok (.iload_n 3, 1)) ∧ (decode cL_law 1093 = .ok (.iconst 1, 1)) ∧ (decode cL_law 1094 = .ok (.iadd, 1)) ∧ (decode cL_law 1095 = .ok (.iaload, 1)) ∧ (decode cL_law 1096 = .ok (.aload_n 0, 1)) ∧ (decode cL_law 1097 = .ok (.iload_n 3, 1)) ∧ (decode cL_law 1098 = .ok (.iconst 2, 1)) ∧ (decode cL_law 1099 = .ok (.iadd, 1)) ∧ (decode cL_law 1100 = .ok (.iaload, 1)) ∧ (decode cL_law 1101 = .ok (.invokevirtual 118, 3)) ∧ (decode cL_law 1104 = .ok (.pop, 1)) ∧ (decode cL_law 1105 = .ok (.goto 285, 3)) ∧ (decode cL_law 1108 = .ok (.aload_n 1, 1)) ∧ (decode cL_law 1109 = .ok (.aload_n 0, 1)) ∧ (decode cL_law 1110 = .ok (.iload_n 3, 1)) ∧ (decode cL_law 1111 = .ok (.iconst 1, 1)) := by decide +kernel
theorem dL_law_1092 : decode cL_law 1092 = .ok (.iload_n 3, 1) := bdL_law_1092.1
theorem dL_law_1093 : decode cL_law 1093 = .ok (.iconst 1, 1) := bdL_law_1092.2.1
theorem dL_law_1094 : decode cL_law 1094 = .ok (.iadd, 1) := bdL_law_1092.2.2.1
theorem dL_law_1095 : decode cL_law 1095 = .ok (.iaload, 1) := bdL_law_1092.2.2.2.1
theorem dL_law_1096 : decode cL_law 1096 = .ok (.aload_n 0, 1) := bdL_law_1092.2.2.2.2.1
theorem dL_law_1097 : decode cL_law 1097 = .ok (.iload_n 3, 1) := bdL_law_1092.2.2.2.2.2.1
theorem dL_law_1098 : decode cL_law 1098 = .ok (.iconst 2, 1) := bdL_law_1092.2.2.2.2.2.2.1
theorem dL_law_1099 : decode cL_law 1099 = .ok (.iadd, 1) := bdL_law_1092.2.2.2.2.2.2.2.1
theorem dL_law_1100 : decode cL_law 1100 = .ok (.iaload, 1) := bdL_law_1092.2.2.2.2.2.2.2.2.1
theorem dL_law_1101 : decode cL_law 1101 = .ok (.invokevirtual 118, 3) := bdL_law_1092.2.2.2.2.2.2.2.2.2.1
theorem dL_law_1104 : decode cL_law 1104 = .ok (.pop, 1) := bdL_law_1092.2.2.2.2.2.2.2.2.2.2.1
theorem dL_law_1105 : decode cL_law 1105 = .ok (.goto 285, 3) := bdL_law_1092.2.2.2.2.2.2.2.2.2.2.2.1
theorem dL_law_1108 : decode cL_law 1108 = .ok (.aload_n 1, 1) := bdL_law_1092.2.2.2.2.2.2.2.2.2.2.2.2.1
theorem dL_law_1109 : decode cL_law 1109 = .ok (.aload_n 0, 1) := bdL_law_1092.2.2.2.2.2.2.2.2.2.2.2.2.2.1
theorem dL_law_1110 : decode cL_law 1110 = .ok (.iload_n 3, 1) := bdL_law_1092.2.2.2.2.2.2.2.2.2.2.2.2.2.2.1
theorem dL_law_1111 : decode cL_law 1111 = .ok (.iconst 1, 1) := bdL_law_1092.2.2.2.2.2.2.2.2.2.2.2.2.2.2.2
theorem bdL_law_1112 : (decode cL_law 1112 = .ok (.iadd, 1)) ∧ (decode cL_law 1113 = .ok (.iaload, 1)) ∧ (decode cL_law 1114 = .ok (.ifCond .eq 7, 3)) ∧ (decode cL_law 1117 = .ok (.iconst 1, 1)) ∧ (decode cL_law 1118 = .ok (.goto 4, 3)) ∧ (decode cL_law 1121 = .ok (.iconst 0, 1)) ∧ (decode cL_law 1122 = .ok (.aload_n 0, 1)) ∧ (decode cL_law 1123 = .ok (.iload_n 3, 1)) ∧ (decode cL_law 1124 = .ok (.iconst 2, 1)) ∧ (decode cL_law 1125 = .ok (.iadd, 1)) ∧ (decode cL_law 1126 = .ok (.iaload, 1)) ∧ (decode cL_law 1127 = .ok (.aload_n 0, 1)) ∧ (decode cL_law 1128 = .ok (.iload_n 3, 1)) ∧ (decode cL_law 1129 = .ok (.iconst 3, 1)) ∧ (decode cL_law 1130 = .ok (.iadd, 1)) ∧ (decode cL_law 1131 = .ok (.iaload, 1)) := by decide +kernel
theorem dL_law_1112 : decode cL_law 1112 = .ok (.iadd, 1) := bdL_law_1112.1
theorem dL_law_1113 : decode cL_law 1113 = .ok (.iaload, 1) := bdL_law_1112.2.1
theorem dL_law_1114 : decode cL_law 1114 = .ok (.ifCond .eq 7, 3) := bdL_law_1112.2.2.1
theorem dL_law_1117 : decode cL_law 1117 = .ok (.iconst 1, 1) := bdL_law_1112.2.2.2.1
theorem dL_law_1118 : decode cL_law 1118 = .ok (.goto 4, 3) := bdL_law_1112.2.2.2.2.1
theorem dL_law_1121 : decode cL_law 1121 = .ok (.iconst 0, 1) := bdL_law_1112.2.2.2.2.2.1
theorem dL_law_1122 : decode cL_law 1122 = .ok (.aload_n 0, 1) := bdL_law_1112.2.2.2.2.2.2.1
theorem dL_law_1123 : decode cL_law 1123 = .ok (.iload_n 3, 1) := bdL_law_1112.2.2.2.2.2.2.2.1
theorem dL_law_1124 : decode cL_law 1124 = .ok (.iconst 2, 1) := bdL_law_1112.2.2.2.2.2.2.2.2.1
theorem dL_law_1125 : decode cL_law 1125 = .ok (.iadd, 1) := bdL_law_1112.2.2.2.2.2.2.2.2.2.1
theorem dL_law_1126 : decode cL_law 1126 = .ok (.iaload, 1) := bdL_law_1112.2.2.2.2.2.2.2.2.2.2.1
theorem dL_law_1127 : decode cL_law 1127 = .ok (.aload_n 0, 1) := bdL_law_1112.2.2.2.2.2.2.2.2.2.2.2.1
theorem dL_law_1128 : decode cL_law 1128 = .ok (.iload_n 3, 1) := bdL_law_1112.2.2.2.2.2.2.2.2.2.2.2.2.1
theorem dL_law_1129 : decode cL_law 1129 = .ok (.iconst 3, 1) := bdL_law_1112.2.2.2.2.2.2.2.2.2.2.2.2.2.1
theorem dL_law_1130 : decode cL_law 1130 = .ok (.iadd, 1) := bdL_law_1112.2.2.2.2.2.2.2.2.2.2.2.2.2.2.1
theorem dL_law_1131 : decode cL_law 1131 = .ok (.iaload, 1) := bdL_law_1112.2.2.2.2.2.2.2.2.2.2.2.2.2.2.2
theorem bdL_law_1132 : (decode cL_law 1132 = .ok (.invokevirtual 119, 3)) ∧ (decode cL_law 1135 = .ok (.pop, 1)) ∧ (decode cL_law 1136 = .ok (.aload_n 2, 1)) ∧ (decode cL_law 1137 = .ok (.aload_n 0, 1)) ∧ (decode cL_law 1138 = .ok (.iload_n 3, 1)) ∧ (decode cL_law 1139 = .ok (.iconst 1, 1)) ∧ (decode cL_law 1140 = .ok (.iadd, 1)) ∧ (decode cL_law 1141 = .ok (.iaload, 1)) ∧ (decode cL_law 1142 = .ok (.ifCond .eq 7, 3)) ∧ (decode cL_law 1145 = .ok (.iconst 1, 1)) ∧ (decode cL_law 1146 = .ok (.goto 4, 3)) ∧ (decode cL_law 1149 = .ok (.iconst 0, 1)) ∧ (decode cL_law 1150 = .ok (.aload_n 0, 1)) ∧ (decode cL_law 1151 = .ok (.iload_n 3, 1)) ∧ (decode cL_law 1152 = .ok (.iconst 2, 1)) ∧ (decode cL_law 1153 = .ok (.iadd, 1)) := by decide +kernel
theorem dL_law_1132 : decode cL_law 1132 = .ok (.invokevirtual 119, 3) := bdL_law_1132.1
theorem dL_law_1135 : decode cL_law 1135 = .ok (.pop, 1) := bdL_law_1132.2.1
theorem dL_law_1136 : decode cL_law 1136 = .ok (.aload_n 2, 1) := bdL_law_1132.2.2.1
theorem dL_law_1137 : decode cL_law 1137 = .ok (.aload_n 0, 1) := bdL_law_1132.2.2.2.1
theorem dL_law_1138 : decode cL_law 1138 = .ok (.iload_n 3, 1) := bdL_law_1132.2.2.2.2.1
theorem dL_law_1139 : decode cL_law 1139 = .ok (.iconst 1, 1) := bdL_law_1132.2.2.2.2.2.1
theorem dL_law_1140 : decode cL_law 1140 = .ok (.iadd, 1) := bdL_law_1132.2.2.2.2.2.2.1
theorem dL_law_1141 : decode cL_law 1141 = .ok (.iaload, 1) := bdL_law_1132.2.2.2.2.2.2.2.1
theorem dL_law_1142 : decode cL_law 1142 = .ok (.ifCond .eq 7, 3) := bdL_law_1132.2.2.2.2.2.2.2.2.1
theorem dL_law_1145 : decode cL_law 1145 = .ok (.iconst 1, 1) := bdL_law_1132.2.2.2.2.2.2.2.2.2.1
theorem dL_law_1146 : decode cL_law 1146 = .ok (.goto 4, 3) := bdL_law_1132.2.2.2.2.2.2.2.2.2.2.1
theorem dL_law_1149 : decode cL_law 1149 = .ok (.iconst 0, 1) := bdL_law_1132.2.2.2.2.2.2.2.2.2.2.2.1
theorem dL_law_1150 : decode cL_law 1150 = .ok (.aload_n 0, 1) := bdL_law_1132.2.2.2.2.2.2.2.2.2.2.2.2.1
theorem dL_law_1151 : decode cL_law 1151 = .ok (.iload_n 3, 1) := bdL_law_1132.2.2.2.2.2.2.2.2.2.2.2.2.2.1
theorem dL_law_1152 : decode cL_law 1152 = .ok (.iconst 2, 1) := bdL_law_1132.2.2.2.2.2.2.2.2.2.2.2.2.2.2.1
theorem dL_law_1153 : decode cL_law 1153 = .ok (.iadd, 1) := bdL_law_1132.2.2.2.2.2.2.2.2.2.2.2.2.2.2.2
theorem bdL_law_1154 : (decode cL_law 1154 = .ok (.iaload, 1)) ∧ (decode cL_law 1155 = .ok (.aload_n 0, 1)) ∧ (decode cL_law 1156 = .ok (.iload_n 3, 1)) ∧ (decode cL_law 1157 = .ok (.iconst 3, 1)) ∧ (decode cL_law 1158 = .ok (.iadd, 1)) ∧ (decode cL_law 1159 = .ok (.iaload, 1)) ∧ (decode cL_law 1160 = .ok (.invokevirtual 123, 3)) ∧ (decode cL_law 1163 = .ok (.pop, 1)) ∧ (decode cL_law 1164 = .ok (.goto 226, 3)) ∧ (decode cL_law 1167 = .ok (.aload_n 1, 1)) ∧ (decode cL_law 1168 = .ok (.invokevirtual 124, 3)) ∧ (decode cL_law 1171 = .ok (.pop, 1)) ∧ (decode cL_law 1172 = .ok (.aload_n 2, 1)) ∧ (decode cL_law 1173 = .ok (.invokevirtual 127, 3)) ∧ (decode cL_law 1176 = .ok (.pop, 1)) ∧ (decode cL_law 1177 = .ok (.goto 213, 3)) := by decide +kernel
theorem dL_law_1154 : decode cL_law 1154 = .ok (.iaload, 1) := bdL_law_1154.1
theorem dL_law_1155 : decode cL_law 1155 = .ok (.aload_n 0, 1) := bdL_law_1154.2.1
theorem dL_law_1156 : decode cL_law 1156 = .ok (.iload_n 3, 1) := bdL_law_1154.2.2.1
theorem dL_law_1157 : decode cL_law 1157 = .ok (.iconst 3, 1) := bdL_law_1154.2.2.2.1
theorem dL_law_1158 : decode cL_law 1158 = .ok (.iadd, 1) := bdL_law_1154.2.2.2.2.1
theorem dL_law_1159 : decode cL_law 1159 = .ok (.iaload, 1) := bdL_law_1154.2.2.2.2.2.1
theorem dL_law_1160 : decode cL_law 1160 = .ok (.invokevirtual 123, 3) := bdL_law_1154.2.2.2.2.2.2.1
theorem dL_law_1163 : decode cL_law 1163 = .ok (.pop, 1) := bdL_law_1154.2.2.2.2.2.2.2.1
theorem dL_law_1164 : decode cL_law 1164 = .ok (.goto 226, 3) := bdL_law_1154.2.2.2.2.2.2.2.2.1
theorem dL_law_1167 : decode cL_law 1167 = .ok (.aload_n 1, 1) := bdL_law_1154.2.2.2.2.2.2.2.2.2.1
theorem dL_law_1168 : decode cL_law 1168 = .ok (.invokevirtual 124, 3) := bdL_law_1154.2.2.2.2.2.2.2.2.2.2.1
theorem dL_law_1171 : decode cL_law 1171 = .ok (.pop, 1) := bdL_law_1154.2.2.2.2.2.2.2.2.2.2.2.1
theorem dL_law_1172 : decode cL_law 1172 = .ok (.aload_n 2, 1) := bdL_law_1154.2.2.2.2.2.2.2.2.2.2.2.2.1
theorem dL_law_1173 : decode cL_law 1173 = .ok (.invokevirtual 127, 3) := bdL_law_1154.2.2.2.2.2.2.2.2.2.2.2.2.2.1
theorem dL_law_1176 : decode cL_law 1176 = .ok (.pop, 1) := bdL_law_1154.2.2.2.2.2.2.2.2.2.2.2.2.2.2.1
theorem dL_law_1177 : decode cL_law 1177 = .ok (.goto 213, 3) := bdL_law_1154.2.2.2.2.2.2.2.2.2.2.2.2.2.2.2
theorem bdL_law_1180 : (decode cL_law 1180 = .ok (.aload_n 1, 1)) ∧ (decode cL_law 1181 = .ok (.aload_n 0, 1)) ∧ (decode cL_law 1182 = .ok (.iload_n 3, 1)) ∧ (decode cL_law 1183 = .ok (.iconst 1, 1)) ∧ (decode cL_law 1184 = .ok (.iadd, 1)) ∧ (decode cL_law 1185 = .ok (.iaload, 1)) ∧ (decode cL_law 1186 = .ok (.aload_n 0, 1)) ∧ (decode cL_law 1187 = .ok (.iload_n 3, 1)) ∧ (decode cL_law 1188 = .ok (.iconst 2, 1)) ∧ (decode cL_law 1189 = .ok (.iadd, 1)) ∧ (decode cL_law 1190 = .ok (.iaload, 1)) ∧ (decode cL_law 1191 = .ok (.aload_n 0, 1)) ∧ (decode cL_law 1192 = .ok (.iload_n 3, 1)) ∧ (decode cL_law 1193 = .ok (.iconst 3, 1)) ∧ (decode cL_law 1194 = .ok (.iadd, 1)) ∧ (decode cL_law 1195 = .ok (.iaload, 1)) := by decide +kernel
theorem dL_law_1180 : decode cL_law 1180 = .ok (.aload_n 1, 1) := bdL_law_1180.1
theorem dL_law_1181 : decode cL_law 1181 = .ok (.aload_n 0, 1) := bdL_law_1180.2.1
theorem dL_law_1182 : decode cL_law 1182 = .ok (.iload_n 3, 1) := bdL_law_1180.2.2.1
theorem dL_law_1183 : decode cL_law 1183 = .ok (.iconst 1, 1) := bdL_law_1180.2.2.2.1
theorem dL_law_1184 : decode cL_law 1184 = .ok (.iadd, 1) := bdL_law_1180.2.2.2.2.1
theorem dL_law_1185 : decode cL_law 1185 = .ok (.iaload, 1) := bdL_law_1180.2.2.2.2.2.1
theorem dL_law_1186 : decode cL_law 1186 = .ok (.aload_n 0, 1) := bdL_law_1180.2.2.2.2.2.2.1
theorem dL_law_1187 : decode cL_law 1187 = .ok (.iload_n 3, 1) := bdL_law_1180.2.2.2.2.2.2.2.1
theorem dL_law_1188 : decode cL_law 1188 = .ok (.iconst 2, 1) := bdL_law_1180.2.2.2.2.2.2.2.2.1
theorem dL_law_1189 : decode cL_law 1189 = .ok (.iadd, 1) := bdL_law_1180.2.2.2.2.2.2.2.2.2.1
theorem dL_law_1190 : decode cL_law 1190 = .ok (.iaload, 1) := bdL_law_1180.2.2.2.2.2.2.2.2.2.2.1
theorem dL_law_1191 : decode cL_law 1191 = .ok (.aload_n 0, 1) := bdL_law_1180.2.2.2.2.2.2.2.2.2.2.2.1
theorem dL_law_1192 : decode cL_law 1192 = .ok (.iload_n 3, 1) := bdL_law_1180.2.2.2.2.2.2.2.2.2.2.2.2.1
theorem dL_law_1193 : decode cL_law 1193 = .ok (.iconst 3, 1) := bdL_law_1180.2.2.2.2.2.2.2.2.2.2.2.2.2.1
theorem dL_law_1194 : decode cL_law 1194 = .ok (.iadd, 1) := bdL_law_1180.2.2.2.2.2.2.2.2.2.2.2.2.2.2.1
theorem dL_law_1195 : decode cL_law 1195 = .ok (.iaload, 1) := bdL_law_1180.2.2.2.2.2.2.2.2.2.2.2.2.2.2.2
theorem bdL_law_1196 : (decode cL_law 1196 = .ok (.aload_n 0, 1)) ∧ (decode cL_law 1197 = .ok (.iload_n 3, 1)) ∧ (decode cL_law 1198 = .ok (.iconst 4, 1)) ∧ (decode cL_law 1199 = .ok (.iadd, 1)) ∧ (decode cL_law 1200 = .ok (.iaload, 1)) ∧ (decode cL_law 1201 = .ok (.invokevirtual 128, 3)) ∧ (decode cL_law 1204 = .ok (.pop, 1)) ∧ (decode cL_law 1205 = .ok (.aload_n 2, 1)) ∧ (decode cL_law 1206 = .ok (.aload_n 0, 1)) ∧ (decode cL_law 1207 = .ok (.iload_n 3, 1)) ∧ (decode cL_law 1208 = .ok (.iconst 1, 1)) ∧ (decode cL_law 1209 = .ok (.iadd, 1)) ∧ (decode cL_law 1210 = .ok (.iaload, 1)) ∧ (decode cL_law 1211 = .ok (.aload_n 0, 1)) ∧ (decode cL_law 1212 = .ok (.iload_n 3, 1)) ∧ (decode cL_law 1213 = .ok (.iconst 2, 1)) := by decide +kernel
theorem dL_law_1196 : decode cL_law 1196 = .ok (.aload_n 0, 1) := bdL_law_1196.1
theorem dL_law_1197 : decode cL_law 1197 = .ok (.iload_n 3, 1) := bdL_law_1196.2.1
theorem dL_law_1198 : decode cL_law 1198 = .ok (.iconst 4, 1) := bdL_law_1196.2.2.1
theorem dL_law_1199 : decode cL_law 1199 = .ok (.iadd, 1) := bdL_law_1196.2.2.2.1
theorem dL_law_1200 : decode cL_law 1200 = .ok (.iaload, 1) := bdL_law_1196.2.2.2.2.1
theorem dL_law_1201 : decode cL_law 1201 = .ok (.invokevirtual 128, 3) := bdL_law_1196.2.2.2.2.2.1
theorem dL_law_1204 : decode cL_law 1204 = .ok (.pop, 1) := bdL_law_1196.2.2.2.2.2.2.1
theorem dL_law_1205 : decode cL_law 1205 = .ok (.aload_n 2, 1) := bdL_law_1196.2.2.2.2.2.2.2.1
theorem dL_law_1206 : decode cL_law 1206 = .ok (.aload_n 0, 1) := bdL_law_1196.2.2.2.2.2.2.2.2.1
theorem dL_law_1207 : decode cL_law 1207 = .ok (.iload_n 3, 1) := bdL_law_1196.2.2.2.2.2.2.2.2.2.1
theorem dL_law_1208 : decode cL_law 1208 = .ok (.iconst 1, 1) := bdL_law_1196.2.2.2.2.2.2.2.2.2.2.1
theorem dL_law_1209 : decode cL_law 1209 = .ok (.iadd, 1) := bdL_law_1196.2.2.2.2.2.2.2.2.2.2.2.1
theorem dL_law_1210 : decode cL_law 1210 = .ok (.iaload, 1) := bdL_law_1196.2.2.2.2.2.2.2.2.2.2.2.2.1
theorem dL_law_1211 : decode cL_law 1211 = .ok (.aload_n 0, 1) := bdL_law_1196.2.2.2.2.2.2.2.2.2.2.2.2.2.1
theorem dL_law_1212 : decode cL_law 1212 = .ok (.iload_n 3, 1) := bdL_law_1196.2.2.2.2.2.2.2.2.2.2.2.2.2.2.1
theorem dL_law_1213 : decode cL_law 1213 = .ok (.iconst 2, 1) := bdL_law_1196.2.2.2.2.2.2.2.2.2.2.2.2.2.2.2
theorem bdL_law_1214 : (decode cL_law 1214 = .ok (.iadd, 1)) ∧ (decode cL_law 1215 = .ok (.iaload, 1)) ∧ (decode cL_law 1216 = .ok (.aload_n 0, 1)) ∧ (decode cL_law 1217 = .ok (.iload_n 3, 1)) ∧ (decode cL_law 1218 = .ok (.iconst 3, 1)) ∧ (decode cL_law 1219 = .ok (.iadd, 1)) ∧ (decode cL_law 1220 = .ok (.iaload, 1)) ∧ (decode cL_law 1221 = .ok (.aload_n 0, 1)) ∧ (decode cL_law 1222 = .ok (.iload_n 3, 1)) ∧ (decode cL_law 1223 = .ok (.iconst 4, 1)) ∧ (decode cL_law 1224 = .ok (.iadd, 1)) ∧ (decode cL_law 1225 = .ok (.iaload, 1)) ∧ (decode cL_law 1226 = .ok (.invokevirtual 131, 3)) ∧ (decode cL_law 1229 = .ok (.pop, 1)) ∧ (decode cL_law 1230 = .ok (.goto 160, 3)) ∧ (decode cL_law 1233 = .ok (.aload_n 1, 1)) := by decide +kernel
theorem dL_law_1214 : decode cL_law 1214 = .ok (.iadd, 1) := bdL_law_1214.1
theorem dL_law_1215 : decode cL_law 1215 = .ok (.iaload, 1) := bdL_law_1214.2.1
theorem dL_law_1216 : decode cL_law 1216 = .ok (.aload_n 0, 1) := bdL_law_1214.2.2.1
theorem dL_law_1217 : decode cL_law 1217 = .ok (.iload_n 3, 1) := bdL_law_1214.2.2.2.1
theorem dL_law_1218 : decode cL_law 1218 = .ok (.iconst 3, 1) := bdL_law_1214.2.2.2.2.1
theorem dL_law_1219 : decode cL_law 1219 = .ok (.iadd, 1) := bdL_law_1214.2.2.2.2.2.1
theorem dL_law_1220 : decode cL_law 1220 = .ok (.iaload, 1) := bdL_law_1214.2.2.2.2.2.2.1
theorem dL_law_1221 : decode cL_law 1221 = .ok (.aload_n 0, 1) := bdL_law_1214.2.2.2.2.2.2.2.1
theorem dL_law_1222 : decode cL_law 1222 = .ok (.iload_n 3, 1) := bdL_law_1214.2.2.2.2.2.2.2.2.1
theorem dL_law_1223 : decode cL_law 1223 = .ok (.iconst 4, 1) := bdL_law_1214.2.2.2.2.2.2.2.2.2.1
theorem dL_law_1224 : decode cL_law 1224 = .ok (.iadd, 1) := bdL_law_1214.2.2.2.2.2.2.2.2.2.2.1
theorem dL_law_1225 : decode cL_law 1225 = .ok (.iaload, 1) := bdL_law_1214.2.2.2.2.2.2.2.2.2.2.2.1
theorem dL_law_1226 : decode cL_law 1226 = .ok (.invokevirtual 131, 3) := bdL_law_1214.2.2.2.2.2.2.2.2.2.2.2.2.1
theorem dL_law_1229 : decode cL_law 1229 = .ok (.pop, 1) := bdL_law_1214.2.2.2.2.2.2.2.2.2.2.2.2.2.1
theorem dL_law_1230 : decode cL_law 1230 = .ok (.goto 160, 3) := bdL_law_1214.2.2.2.2.2.2.2.2.2.2.2.2.2.2.1
theorem dL_law_1233 : decode cL_law 1233 = .ok (.aload_n 1, 1) := bdL_law_1214.2.2.2.2.2.2.2.2.2.2.2.2.2.2.2
theorem bdL_law_1234 : (decode cL_law 1234 = .ok (.aload_n 0, 1)) ∧ (decode cL_law 1235 = .ok (.iload_n 3, 1)) ∧ (decode cL_law 1236 = .ok (.iconst 1, 1)) ∧ (decode cL_law 1237 = .ok (.iadd, 1)) ∧ (decode cL_law 1238 = .ok (.iaload, 1)) ∧ (decode cL_law 1239 = .ok (.invokevirtual 132, 3)) ∧ (decode cL_law 1242 = .ok (.pop, 1)) ∧ (decode cL_law 1243 = .ok (.aload_n 2, 1)) ∧ (decode cL_law 1244 = .ok (.aload_n 0, 1)) ∧ (decode cL_law 1245 = .ok (.iload_n 3, 1)) ∧ (decode cL_law 1246 = .ok (.iconst 1, 1)) ∧ (decode cL_law 1247 = .ok (.iadd, 1)) ∧ (decode cL_law 1248 = .ok (.iaload, 1)) ∧ (decode cL_law 1249 = .ok (.invokevirtual 135, 3)) ∧ (decode cL_law 1252 = .ok (.pop, 1)) ∧ (decode cL_law 1253 = .ok (.goto 137, 3)) := by decide +kernel
theorem dL_law_1234 : decode cL_law 1234 = .ok (.aload_n 0, 1) := bdL_law_1234.1
theorem dL_law_1235 : decode cL_law 1235 = .ok (.iload_n 3, 1) := bdL_law_1234.2.1
theorem dL_law_1236 : decode cL_law 1236 = .ok (.iconst 1, 1) := bdL_law_1234.2.2.1
theorem dL_law_1237 : decode cL_law 1237 = .ok (.iadd, 1) := bdL_law_1234.2.2.2.1
theorem dL_law_1238 : decode cL_law 1238 = .ok (.iaload, 1) := bdL_law_1234.2.2.2.2.1
theorem dL_law_1239 : decode cL_law 1239 = .ok (.invokevirtual 132, 3) := bdL_law_1234.2.2.2.2.2.1
theorem dL_law_1242 : decode cL_law 1242 = .ok (.pop, 1) := bdL_law_1234.2.2.2.2.2.2.1
theorem dL_law_1243 : decode cL_law 1243 = .ok (.aload_n 2, 1) := bdL_law_1234.2.2.2.2.2.2.2.1
theorem dL_law_1244 : decode cL_law 1244 = .ok (.aload_n 0, 1) := bdL_law_1234.2.2.2.2.2.2.2.2.1
theorem dL_law_1245 : decode cL_law 1245 = .ok (.iload_n 3, 1) := bdL_law_1234.2.2.2.2.2.2.2.2.2.1
theorem dL_law_1246 : decode cL_law 1246 = .ok (.iconst 1, 1) := bdL_law_1234.2.2.2.2.2.2.2.2.2.2.1
theorem dL_law_1247 : decode cL_law 1247 = .ok (.iadd, 1) := bdL_law_1234.2.2.2.2.2.2.2.2.2.2.2.1
theorem dL_law_1248 : decode cL_law 1248 = .ok (.iaload, 1) := bdL_law_1234.2.2.2.2.2.2.2.2.2.2.2.2.1
theorem dL_law_1249 : decode cL_law 1249 = .ok (.invokevirtual 135, 3) := bdL_law_1234.2.2.2.2.2.2.2.2.2.2.2.2.2.1
theorem dL_law_1252 : decode cL_law 1252 = .ok (.pop, 1) := bdL_law_1234.2.2.2.2.2.2.2.2.2.2.2.2.2.2.1
theorem dL_law_1253 : decode cL_law 1253 = .ok (.goto 137, 3) := bdL_law_1234.2.2.2.2.2.2.2.2.2.2.2.2.2.2.2
theorem bdL_law_1256 : (decode cL_law 1256 = .ok (.aload_n 1, 1)) ∧ (decode cL_law 1257 = .ok (.aload_n 0, 1)) ∧ (decode cL_law 1258 = .ok (.iload_n 3, 1)) ∧ (decode cL_law 1259 = .ok (.iconst 1, 1)) ∧ (decode cL_law 1260 = .ok (.iadd, 1)) ∧ (decode cL_law 1261 = .ok (.iaload, 1)) ∧ (decode cL_law 1262 = .ok (.invokevirtual 136, 3)) ∧ (decode cL_law 1265 = .ok (.pop, 1)) ∧ (decode cL_law 1266 = .ok (.aload_n 2, 1)) ∧ (decode cL_law 1267 = .ok (.aload_n 0, 1)) ∧ (decode cL_law 1268 = .ok (.iload_n 3, 1)) ∧ (decode cL_law 1269 = .ok (.iconst 1, 1)) ∧ (decode cL_law 1270 = .ok (.iadd, 1)) ∧ (decode cL_law 1271 = .ok (.iaload, 1)) ∧ (decode cL_law 1272 = .ok (.invokevirtual 139, 3)) ∧ (decode cL_law 1275 = .ok (.pop, 1)) := by decide +kernel
theorem dL_law_1256 : decode cL_law 1256 = .ok (.aload_n 1, 1) := bdL_law_1256.1
theorem dL_law_1257 : decode cL_law 1257 = .ok (.aload_n 0, 1) := bdL_law_1256.2.1
theorem dL_law_1258 : decode cL_law 1258 = .ok (.iload_n 3, 1) := bdL_law_1256.2.2.1
theorem dL_law_1259 : decode cL_law 1259 = .ok (.iconst 1, 1) := bdL_law_1256.2.2.2.1
theorem dL_law_1260 : decode cL_law 1260 = .ok (.iadd, 1) := bdL_law_1256.2.2.2.2.1
theorem dL_law_1261 : decode cL_law 1261 = .ok (.iaload, 1) := bdL_law_1256.2.2.2.2.2.1
theorem dL_law_1262 : decode cL_law 1262 = .ok (.invokevirtual 136, 3) := bdL_law_1256.2.2.2.2.2.2.1
theorem dL_law_1265 : decode cL_law 1265 = .ok (.pop, 1) := bdL_law_1256.2.2.2.2.2.2.2.1
theorem dL_law_1266 : decode cL_law 1266 = .ok (.aload_n 2, 1) := bdL_law_1256.2.2.2.2.2.2.2.2.1
theorem dL_law_1267 : decode cL_law 1267 = .ok (.aload_n 0, 1) := bdL_law_1256.2.2.2.2.2.2.2.2.2.1
theorem dL_law_1268 : decode cL_law 1268 = .ok (.iload_n 3, 1) := bdL_law_1256.2.2.2.2.2.2.2.2.2.2.1
theorem dL_law_1269 : decode cL_law 1269 = .ok (.iconst 1, 1) := bdL_law_1256.2.2.2.2.2.2.2.2.2.2.2.1
theorem dL_law_1270 : decode cL_law 1270 = .ok (.iadd, 1) := bdL_law_1256.2.2.2.2.2.2.2.2.2.2.2.2.1
theorem dL_law_1271 : decode cL_law 1271 = .ok (.iaload, 1) := bdL_law_1256.2.2.2.2.2.2.2.2.2.2.2.2.2.1
theorem dL_law_1272 : decode cL_law 1272 = .ok (.invokevirtual 139, 3) := bdL_law_1256.2.2.2.2.2.2.2.2.2.2.2.2.2.2.1
theorem dL_law_1275 : decode cL_law 1275 = .ok (.pop, 1) := bdL_law_1256.2.2.2.2.2.2.2.2.2.2.2.2.2.2.2
theorem bdL_law_1276 : (decode cL_law 1276 = .ok (.goto 114, 3)) ∧ (decode cL_law 1279 = .ok (.aload_n 1, 1)) ∧ (decode cL_law 1280 = .ok (.invokevirtual 140, 3)) ∧ (decode cL_law 1283 = .ok (.pop, 1)) ∧ (decode cL_law 1284 = .ok (.aload_n 2, 1)) ∧ (decode cL_law 1285 = .ok (.invokevirtual 143, 3)) ∧ (decode cL_law 1288 = .ok (.pop, 1)) ∧ (decode cL_law 1289 = .ok (.goto 101, 3)) ∧ (decode cL_law 1292 = .ok (.aload_n 1, 1)) ∧ (decode cL_law 1293 = .ok (.aload_n 0, 1)) ∧ (decode cL_law 1294 = .ok (.iload_n 3, 1)) ∧ (decode cL_law 1295 = .ok (.iconst 1, 1)) ∧ (decode cL_law 1296 = .ok (.iadd, 1)) ∧ (decode cL_law 1297 = .ok (.iaload, 1)) ∧ (decode cL_law 1298 = .ok (.aload_n 0, 1)) ∧ (decode cL_law 1299 = .ok (.iload_n 3, 1)) := by decide +kernel
theorem dL_law_1276 : decode cL_law 1276 = .ok (.goto 114, 3) := bdL_law_1276.1
theorem dL_law_1279 : decode cL_law 1279 = .ok (.aload_n 1, 1) := bdL_law_1276.2.1
theorem dL_law_1280 : decode cL_law 1280 = .ok (.invokevirtual 140, 3) := bdL_law_1276.2.2.1
theorem dL_law_1283 : decode cL_law 1283 = .ok (.pop, 1) := bdL_law_1276.2.2.2.1
theorem dL_law_1284 : decode cL_law 1284 = .ok (.aload_n 2, 1) := bdL_law_1276.2.2.2.2.1
theorem dL_law_1285 : decode cL_law 1285 = .ok (.invokevirtual 143, 3) := bdL_law_1276.2.2.2.2.2.1
theorem dL_law_1288 : decode cL_law 1288 = .ok (.pop, 1) := bdL_law_1276.2.2.2.2.2.2.1
theorem dL_law_1289 : decode cL_law 1289 = .ok (.goto 101, 3) := bdL_law_1276.2.2.2.2.2.2.2.1
theorem dL_law_1292 : decode cL_law 1292 = .ok (.aload_n 1, 1) := bdL_law_1276.2.2.2.2.2.2.2.2.1
theorem dL_law_1293 : decode cL_law 1293 = .ok (.aload_n 0, 1) := bdL_law_1276.2.2.2.2.2.2.2.2.2.1
theorem dL_law_1294 : decode cL_law 1294 = .ok (.iload_n 3, 1) := bdL_law_1276.2.2.2.2.2.2.2.2.2.2.1
theorem dL_law_1295 : decode cL_law 1295 = .ok (.iconst 1, 1) := bdL_law_1276.2.2.2.2.2.2.2.2.2.2.2.1
theorem dL_law_1296 : decode cL_law 1296 = .ok (.iadd, 1) := bdL_law_1276.2.2.2.2.2.2.2.2.2.2.2.2.1
theorem dL_law_1297 : decode cL_law 1297 = .ok (.iaload, 1) := bdL_law_1276.2.2.2.2.2.2.2.2.2.2.2.2.2.1
theorem dL_law_1298 : decode cL_law 1298 = .ok (.aload_n 0, 1) := bdL_law_1276.2.2.2.2.2.2.2.2.2.2.2.2.2.2.1
theorem dL_law_1299 : decode cL_law 1299 = .ok (.iload_n 3, 1) := bdL_law_1276.2.2.2.2.2.2.2.2.2.2.2.2.2.2.2
theorem bdL_law_1300 : (decode cL_law 1300 = .ok (.iconst 2, 1)) ∧ (decode cL_law 1301 = .ok (.iadd, 1)) ∧ (decode cL_law 1302 = .ok (.iaload, 1)) ∧ (decode cL_law 1303 = .ok (.ifCond .eq 7, 3)) ∧ (decode cL_law 1306 = .ok (.iconst 1, 1)) ∧ (decode cL_law 1307 = .ok (.goto 4, 3)) ∧ (decode cL_law 1310 = .ok (.iconst 0, 1)) ∧ (decode cL_law 1311 = .ok (.invokevirtual 144, 3)) ∧ (decode cL_law 1314 = .ok (.pop, 1)) ∧ (decode cL_law 1315 = .ok (.aload_n 2, 1)) ∧ (decode cL_law 1316 = .ok (.aload_n 0, 1)) ∧ (decode cL_law 1317 = .ok (.iload_n 3, 1)) ∧ (decode cL_law 1318 = .ok (.iconst 1, 1)) ∧ (decode cL_law 1319 = .ok (.iadd, 1)) ∧ (decode cL_law 1320 = .ok (.iaload, 1)) ∧ (decode cL_law 1321 = .ok (.aload_n 0, 1)) := by decide +kernel
theorem dL_law_1300 : decode cL_law 1300 = .ok (.iconst 2, 1) := bdL_law_1300.1
theorem dL_law_1301 : decode cL_law 1301 = .ok (.iadd, 1) := bdL_law_1300.2.1
theorem dL_law_1302 : decode cL_law 1302 = .ok (.iaload, 1) := bdL_law_1300.2.2.1
theorem dL_law_1303 : decode cL_law 1303 = .ok (.ifCond .eq 7, 3) := bdL_law_1300.2.2.2.1
theorem dL_law_1306 : decode cL_law 1306 = .ok (.iconst 1, 1) := bdL_law_1300.2.2.2.2.1
theorem dL_law_1307 : decode cL_law 1307 = .ok (.goto 4, 3) := bdL_law_1300.2.2.2.2.2.1
theorem dL_law_1310 : decode cL_law 1310 = .ok (.iconst 0, 1) := bdL_law_1300.2.2.2.2.2.2.1
theorem dL_law_1311 : decode cL_law 1311 = .ok (.invokevirtual 144, 3) := bdL_law_1300.2.2.2.2.2.2.2.1
theorem dL_law_1314 : decode cL_law 1314 = .ok (.pop, 1) := bdL_law_1300.2.2.2.2.2.2.2.2.1
theorem dL_law_1315 : decode cL_law 1315 = .ok (.aload_n 2, 1) := bdL_law_1300.2.2.2.2.2.2.2.2.2.1
theorem dL_law_1316 : decode cL_law 1316 = .ok (.aload_n 0, 1) := bdL_law_1300.2.2.2.2.2.2.2.2.2.2.1
theorem dL_law_1317 : decode cL_law 1317 = .ok (.iload_n 3, 1) := bdL_law_1300.2.2.2.2.2.2.2.2.2.2.2.1
theorem dL_law_1318 : decode cL_law 1318 = .ok (.iconst 1, 1) := bdL_law_1300.2.2.2.2.2.2.2.2.2.2.2.2.1
theorem dL_law_1319 : decode cL_law 1319 = .ok (.iadd, 1) := bdL_law_1300.2.2.2.2.2.2.2.2.2.2.2.2.2.1
theorem dL_law_1320 : decode cL_law 1320 = .ok (.iaload, 1) := bdL_law_1300.2.2.2.2.2.2.2.2.2.2.2.2.2.2.1
theorem dL_law_1321 : decode cL_law 1321 = .ok (.aload_n 0, 1) := bdL_law_1300.2.2.2.2.2.2.2.2.2.2.2.2.2.2.2
theorem bdL_law_1322 : (decode cL_law 1322 = .ok (.iload_n 3, 1)) ∧ (decode cL_law 1323 = .ok (.iconst 2, 1)) ∧ (decode cL_law 1324 = .ok (.iadd, 1)) ∧ (decode cL_law 1325 = .ok (.iaload, 1)) ∧ (decode cL_law 1326 = .ok (.ifCond .eq 7, 3)) ∧ (decode cL_law 1329 = .ok (.iconst 1, 1)) ∧ (decode cL_law 1330 = .ok (.goto 4, 3)) ∧ (decode cL_law 1333 = .ok (.iconst 0, 1)) ∧ (decode cL_law 1334 = .ok (.invokevirtual 148, 3)) ∧ (decode cL_law 1337 = .ok (.pop, 1)) ∧ (decode cL_law 1338 = .ok (.goto 52, 3)) ∧ (decode cL_law 1341 = .ok (.aload_n 1, 1)) ∧ (decode cL_law 1342 = .ok (.invokevirtual 149, 3)) ∧ (decode cL_law 1345 = .ok (.pop, 1)) ∧ (decode cL_law 1346 = .ok (.aload_n 2, 1)) ∧ (decode cL_law 1347 = .ok (.invokevirtual 152, 3)) := by decide +kernel
theorem dL_law_1322 : decode cL_law 1322 = .ok (.iload_n 3, 1) := bdL_law_1322.1
theorem dL_law_1323 : decode cL_law 1323 = .ok (.iconst 2, 1) := bdL_law_1322.2.1
theorem dL_law_1324 : decode cL_law 1324 = .ok (.iadd, 1) := bdL_law_1322.2.2.1
theorem dL_law_1325 : decode cL_law 1325 = .ok (.iaload, 1) := bdL_law_1322.2.2.2.1
theorem dL_law_1326 : decode cL_law 1326 = .ok (.ifCond .eq 7, 3) := bdL_law_1322.2.2.2.2.1
theorem dL_law_1329 : decode cL_law 1329 = .ok (.iconst 1, 1) := bdL_law_1322.2.2.2.2.2.1
theorem dL_law_1330 : decode cL_law 1330 = .ok (.goto 4, 3) := bdL_law_1322.2.2.2.2.2.2.1
theorem dL_law_1333 : decode cL_law 1333 = .ok (.iconst 0, 1) := bdL_law_1322.2.2.2.2.2.2.2.1
theorem dL_law_1334 : decode cL_law 1334 = .ok (.invokevirtual 148, 3) := bdL_law_1322.2.2.2.2.2.2.2.2.1
theorem dL_law_1337 : decode cL_law 1337 = .ok (.pop, 1) := bdL_law_1322.2.2.2.2.2.2.2.2.2.1
theorem dL_law_1338 : decode cL_law 1338 = .ok (.goto 52, 3) := bdL_law_1322.2.2.2.2.2.2.2.2.2.2.1
theorem dL_law_1341 : decode cL_law 1341 = .ok (.aload_n 1, 1) := bdL_law_1322.2.2.2.2.2.2.2.2.2.2.2.1
theorem dL_law_1342 : decode cL_law 1342 = .ok (.invokevirtual 149, 3) := bdL_law_1322.2.2.2.2.2.2.2.2.2.2.2.2.1
theorem dL_law_1345 : decode cL_law 1345 = .ok (.pop, 1) := bdL_law_1322.2.2.2.2.2.2.2.2.2.2.2.2.2.1
theorem dL_law_1346 : decode cL_law 1346 = .ok (.aload_n 2, 1) := bdL_law_1322.2.2.2.2.2.2.2.2.2.2.2.2.2.2.1
theorem dL_law_1347 : decode cL_law 1347 = .ok (.invokevirtual 152, 3) := bdL_law_1322.2.2.2.2.2.2.2.2.2.2.2.2.2.2.2
theorem bdL_law_1350 : (decode cL_law 1350 = .ok (.pop, 1)) ∧ (decode cL_law 1351 = .ok (.goto 39, 3)) ∧ (decode cL_law 1354 = .ok (.aload_n 1, 1)) ∧ (decode cL_law 1355 = .ok (.invokevirtual 153, 3)) ∧ (decode cL_law 1358 = .ok (.pop, 1)) ∧ (decode cL_law 1359 = .ok (.aload_n 2, 1)) ∧ (decode cL_law 1360 = .ok (.invokevirtual 156, 3)) ∧ (decode cL_law 1363 = .ok (.pop, 1)) ∧ (decode cL_law 1364 = .ok (.goto 26, 3)) ∧ (decode cL_law 1367 = .ok (.aload_n 1, 1)) ∧ (decode cL_law 1368 = .ok (.aload_n 0, 1)) ∧ (decode cL_law 1369 = .ok (.iload_n 3, 1)) ∧ (decode cL_law 1370 = .ok (.iconst 1, 1)) ∧ (decode cL_law 1371 = .ok (.iadd, 1)) ∧ (decode cL_law 1372 = .ok (.iaload, 1)) ∧ (decode cL_law 1373 = .ok (.invokevirtual 157, 3)) := by decide +kernel
theorem dL_law_1350 : decode cL_law 1350 = .ok (.pop, 1) := bdL_law_1350.1
theorem dL_law_1351 : decode cL_law 1351 = .ok (.goto 39, 3) := bdL_law_1350.2.1
theorem dL_law_1354 : decode cL_law 1354 = .ok (.aload_n 1, 1) := bdL_law_1350.2.2.1
theorem dL_law_1355 : decode cL_law 1355 = .ok (.invokevirtual 153, 3) := bdL_law_1350.2.2.2.1
theorem dL_law_1358 : decode cL_law 1358 = .ok (.pop, 1) := bdL_law_1350.2.2.2.2.1
theorem dL_law_1359 : decode cL_law 1359 = .ok (.aload_n 2, 1) := bdL_law_1350.2.2.2.2.2.1
theorem dL_law_1360 : decode cL_law 1360 = .ok (.invokevirtual 156, 3) := bdL_law_1350.2.2.2.2.2.2.1
theorem dL_law_1363 : decode cL_law 1363 = .ok (.pop, 1) := bdL_law_1350.2.2.2.2.2.2.2.1
theorem dL_law_1364 : decode cL_law 1364 = .ok (.goto 26, 3) := bdL_law_1350.2.2.2.2.2.2.2.2.1
theorem dL_law_1367 : decode cL_law 1367 = .ok (.aload_n 1, 1) := bdL_law_1350.2.2.2.2.2.2.2.2.2.1
theorem dL_law_1368 : decode cL_law 1368 = .ok (.aload_n 0, 1) := bdL_law_1350.2.2.2.2.2.2.2.2.2.2.1
theorem dL_law_1369 : decode cL_law 1369 = .ok (.iload_n 3, 1) := bdL_law_1350.2.2.2.2.2.2.2.2.2.2.2.1
theorem dL_law_1370 : decode cL_law 1370 = .ok (.iconst 1, 1) := bdL_law_1350.2.2.2.2.2.2.2.2.2.2.2.2.1
theorem dL_law_1371 : decode cL_law 1371 = .ok (.iadd, 1) := bdL_law_1350.2.2.2.2.2.2.2.2.2.2.2.2.2.1
theorem dL_law_1372 : decode cL_law 1372 = .ok (.iaload, 1) := bdL_law_1350.2.2.2.2.2.2.2.2.2.2.2.2.2.2.1
theorem dL_law_1373 : decode cL_law 1373 = .ok (.invokevirtual 157, 3) := bdL_law_1350.2.2.2.2.2.2.2.2.2.2.2.2.2.2.2
theorem bdL_law_1376 : (decode cL_law 1376 = .ok (.pop, 1)) ∧ (decode cL_law 1377 = .ok (.aload_n 2, 1)) ∧ (decode cL_law 1378 = .ok (.aload_n 0, 1)) ∧ (decode cL_law 1379 = .ok (.iload_n 3, 1)) ∧ (decode cL_law 1380 = .ok (.iconst 1, 1)) ∧ (decode cL_law 1381 = .ok (.iadd, 1)) ∧ (decode cL_law 1382 = .ok (.iaload, 1)) ∧ (decode cL_law 1383 = .ok (.invokevirtual 160, 3)) ∧ (decode cL_law 1386 = .ok (.pop, 1)) ∧ (decode cL_law 1387 = .ok (.goto 3, 3)) ∧ (decode cL_law 1390 = .ok (.iinc 3 8, 3)) ∧ (decode cL_law 1393 = .ok (.goto (-1375), 3)) ∧ (decode cL_law 1396 = .ok (.iconst 1, 1)) ∧ (decode cL_law 1397 = .ok (.ireturn, 1)) := by decide +kernel
theorem dL_law_1376 : decode cL_law 1376 = .ok (.pop, 1) := bdL_law_1376.1
theorem dL_law_1377 : decode cL_law 1377 = .ok (.aload_n 2, 1) := bdL_law_1376.2.1
theorem dL_law_1378 : decode cL_law 1378 = .ok (.aload_n 0, 1) := bdL_law_1376.2.2.1
theorem dL_law_1379 : decode cL_law 1379 = .ok (.iload_n 3, 1) := bdL_law_1376.2.2.2.1
theorem dL_law_1380 : decode cL_law 1380 = .ok (.iconst 1, 1) := bdL_law_1376.2.2.2.2.1
theorem dL_law_1381 : decode cL_law 1381 = .ok (.iadd, 1) := bdL_law_1376.2.2.2.2.2.1
theorem dL_law_1382 : decode cL_law 1382 = .ok (.iaload, 1) := bdL_law_1376.2.2.2.2.2.2.1
theorem dL_law_1383 : decode cL_law 1383 = .ok (.invokevirtual 160, 3) := bdL_law_1376.2.2.2.2.2.2.2.1
theorem dL_law_1386 : decode cL_law 1386 = .ok (.pop, 1) := bdL_law_1376.2.2.2.2.2.2.2.2.1
theorem dL_law_1387 : decode cL_law 1387 = .ok (.goto 3, 3) := bdL_law_1376.2.2.2.2.2.2.2.2.2.1
theorem dL_law_1390 : decode cL_law 1390 = .ok (.iinc 3 8, 3) := bdL_law_1376.2.2.2.2.2.2.2.2.2.2.1
theorem dL_law_1393 : decode cL_law 1393 = .ok (.goto (-1375), 3) := bdL_law_1376.2.2.2.2.2.2.2.2.2.2.2.1
theorem dL_law_1396 : decode cL_law 1396 = .ok (.iconst 1, 1) := bdL_law_1376.2.2.2.2.2.2.2.2.2.2.2.2.1
theorem dL_law_1397 : decode cL_law 1397 = .ok (.ireturn, 1) := bdL_law_1376.2.2.2.2.2.2.2.2.2.2.2.2.2
theorem ca_13_9 : xCall 13 9 = some (9, 0, 1024) := by decide +kernel
theorem ca_13_12 : xCall 13 12 = some (12, 12, 5178) := by decide +kernel
def fL_1390 (L : Nat) (xs : Nat → Int32) (rec18 : Int32 → xMem → Option (Int32 × xMem)) (l3 : Int32) (m : xMem) : Option (Int32 × xMem) := xLet (l3 + (8 : Int32)) fun x1 => rec18 x1 m
set_option maxRecDepth 4000 in
theorem fL_1390_ok {L : Nat} {xs : Nat → Int32} {rec18 : Int32 → xMem → Option (Int32 × xMem)} {d : Nat} (hd : 49 ≤ d)  (hrec18 : ∀ (l3 : Int32) (m : xMem) (r : (Int32 × xMem)), rec18 l3 m = some r → xFx (xHL L xs) code d 18 [some (.ref xSc), some (.ref 0), some (.ref 291), some (.int l3)] [] (xLay m) 317 20810 (some (.int r.1)) (xLay r.2)) {l3 : Int32} {m : xMem} {r : (Int32 × xMem)} (h : fL_1390 L xs rec18 l3 m = some r) : xFx (xHL L xs) code d 1390 [some (.ref xSc), some (.ref 0), some (.ref 291), some (.int l3)] [] (xLay m) 317 20810 (some (.int r.1)) (xLay r.2) := by
  unfold fL_1390 at h
  obtain ⟨x1, hx1, h⟩ := xLet_el h
  refine fx_iinc (ls2 := [some (.ref xSc), some (.ref 0), some (.ref 291), some (.int x1)]) dL_law_1390 rfl rfl rfl hx1 rfl ?_
  refine fx_goto (t := 18) dL_law_1393 rfl rfl ?_
  exact hrec18 x1 m r h
def fL_504 (L : Nat) (xs : Nat → Int32) (rec18 : Int32 → xMem → Option (Int32 × xMem)) (l3 : Int32) (s0 : Nat) (s1 : Int32) (s2 : Int32) (s3 : Int32) (s4 : Int32) (s5 : Int32) (s6 : Int32) (s7 : Int32) (m : xMem) : Option (Int32 × xMem) := (fX12_burst s0 s1 s2 s3 s4 s5 s6 s7 m).bind fun p1 => fL_1390 L xs rec18 l3 p1.2
set_option maxRecDepth 4000 in
theorem fL_504_ok {L : Nat} {xs : Nat → Int32} {rec18 : Int32 → xMem → Option (Int32 × xMem)} {d : Nat} (hd : 49 ≤ d)  (hrec18 : ∀ (l3 : Int32) (m : xMem) (r : (Int32 × xMem)), rec18 l3 m = some r → xFx (xHL L xs) code d 18 [some (.ref xSc), some (.ref 0), some (.ref 291), some (.int l3)] [] (xLay m) 317 20810 (some (.int r.1)) (xLay r.2)) {l3 : Int32} {s0 : Nat} {s1 : Int32} {s2 : Int32} {s3 : Int32} {s4 : Int32} {s5 : Int32} {s6 : Int32} {s7 : Int32} {m : xMem} {r : (Int32 × xMem)} (hs0 : isModel s0) (h : fL_504 L xs rec18 l3 s0 s1 s2 s3 s4 s5 s6 s7 m = some r) : xFx (xHL L xs) code d 504 [some (.ref xSc), some (.ref 0), some (.ref 291), some (.int l3)] [.int s7, .int s6, .int s5, .int s4, .int s3, .int s2, .int s1, .ref s0] (xLay m) 317 20810 (some (.int r.1)) (xLay r.2) := by
  unfold fL_504 at h
  obtain ⟨p1, ep1, h⟩ := xBind_el h
  refine gx_callv (as := [.int s1, .int s2, .int s3, .int s4, .int s5, .int s6, .int s7]) (r := []) rfl dL_law_504 ca_13_45 rfl me_42 rfl rfl rfl rfl (hs0.1) rfl (fX12_burst_ok (d := d) (by omega) hs0 ep1) rfl rfl ?_
  refine fx_pop dL_law_507 rfl rfl ?_
  refine fx_goto (t := 1390) dL_law_508 rfl rfl ?_
  exact fL_1390_ok hd hrec18 h
def fL_490 (L : Nat) (xs : Nat → Int32) (rec18 : Int32 → xMem → Option (Int32 × xMem)) (l3 : Int32) (s0 : Nat) (s1 : Int32) (s2 : Int32) (s3 : Int32) (s4 : Int32) (s5 : Int32) (s6 : Int32) (m : xMem) : Option (Int32 × xMem) := xLet (l3 + (7 : Int32)) fun x1 => bif xIn x1 L then xLet (xs x1.toNatClampNeg) fun x2 => if x2 = (0 : Int32) then fL_504 L xs rec18 l3 s0 s1 s2 s3 s4 s5 s6 (0 : Int32) m else fL_504 L xs rec18 l3 s0 s1 s2 s3 s4 s5 s6 (1 : Int32) m else none
set_option maxRecDepth 4000 in
theorem fL_490_ok {L : Nat} {xs : Nat → Int32} {rec18 : Int32 → xMem → Option (Int32 × xMem)} {d : Nat} (hd : 49 ≤ d)  (hrec18 : ∀ (l3 : Int32) (m : xMem) (r : (Int32 × xMem)), rec18 l3 m = some r → xFx (xHL L xs) code d 18 [some (.ref xSc), some (.ref 0), some (.ref 291), some (.int l3)] [] (xLay m) 317 20810 (some (.int r.1)) (xLay r.2)) {l3 : Int32} {s0 : Nat} {s1 : Int32} {s2 : Int32} {s3 : Int32} {s4 : Int32} {s5 : Int32} {s6 : Int32} {m : xMem} {r : (Int32 × xMem)} (hs0 : isModel s0) (h : fL_490 L xs rec18 l3 s0 s1 s2 s3 s4 s5 s6 m = some r) : xFx (xHL L xs) code d 490 [some (.ref xSc), some (.ref 0), some (.ref 291), some (.int l3)] [.int s6, .int s5, .int s4, .int s3, .int s2, .int s1, .ref s0] (xLay m) 317 20810 (some (.int r.1)) (xLay r.2) := by
  unfold fL_490 at h
  refine fx_aload_n dL_law_490 rfl rfl ?_
  refine fx_iload_n dL_law_491 rfl rfl ?_
  refine fx_bipush (x := 7) dL_law_492 rfl (by decide) ?_
  obtain ⟨x1, hx1, h⟩ := xLet_el h
  refine fx_iadd dL_law_494 rfl hx1 ?_
  obtain ⟨hj3, h⟩ := xChk_el h
  obtain ⟨x2, hx2, h⟩ := xLet_el h
  refine fx_sload dL_law_495 rfl rfl hj3 hx2 ?_
  refine fx_if_eq (t := 503) dL_law_496 rfl rfl (fun hc4 => ?_) (fun hc4 => ?_)
  · rw [if_pos hc4] at h
    refine fx_iconst (x := 0) dL_law_503 rfl (by decide) ?_
    exact fL_504_ok hd hrec18 hs0 h
  · rw [if_neg hc4] at h
    refine fx_iconst (x := 1) dL_law_499 rfl (by decide) ?_
    refine fx_goto (t := 504) dL_law_500 rfl rfl ?_
    exact fL_504_ok hd hrec18 hs0 h
def fL_446 (L : Nat) (xs : Nat → Int32) (rec18 : Int32 → xMem → Option (Int32 × xMem)) (l3 : Int32) (s0 : Nat) (s1 : Int32) (s2 : Int32) (s3 : Int32) (s4 : Int32) (s5 : Int32) (s6 : Int32) (s7 : Int32) (m : xMem) : Option (Int32 × xMem) := (fX11_burst s0 s1 s2 s3 s4 s5 s6 s7 m).bind fun p1 => xLet (l3 + (1 : Int32)) fun x2 => bif xIn x2 L then xLet (xs x2.toNatClampNeg) fun x3 => xLet (l3 + (2 : Int32)) fun x5 => bif xIn x5 L then xLet (xs x5.toNatClampNeg) fun x6 => xLet (l3 + (3 : Int32)) fun x8 => bif xIn x8 L then xLet (xs x8.toNatClampNeg) fun x9 => xLet (l3 + (4 : Int32)) fun x11 => bif xIn x11 L then xLet (xs x11.toNatClampNeg) fun x12 => xLet (l3 + (5 : Int32)) fun x14 => bif xIn x14 L then xLet (xs x14.toNatClampNeg) fun x15 => xLet (l3 + (6 : Int32)) fun x17 => bif xIn x17 L then xLet (xs x17.toNatClampNeg) fun x18 => if x18 = (0 : Int32) then fL_490 L xs rec18 l3 291 x3 x6 x9 x12 x15 (0 : Int32) p1.2 else fL_490 L xs rec18 l3 291 x3 x6 x9 x12 x15 (1 : Int32) p1.2 else none else none else none else none else none else none
set_option maxRecDepth 4000 in
theorem fL_446_ok {L : Nat} {xs : Nat → Int32} {rec18 : Int32 → xMem → Option (Int32 × xMem)} {d : Nat} (hd : 49 ≤ d)  (hrec18 : ∀ (l3 : Int32) (m : xMem) (r : (Int32 × xMem)), rec18 l3 m = some r → xFx (xHL L xs) code d 18 [some (.ref xSc), some (.ref 0), some (.ref 291), some (.int l3)] [] (xLay m) 317 20810 (some (.int r.1)) (xLay r.2)) {l3 : Int32} {s0 : Nat} {s1 : Int32} {s2 : Int32} {s3 : Int32} {s4 : Int32} {s5 : Int32} {s6 : Int32} {s7 : Int32} {m : xMem} {r : (Int32 × xMem)} (hs0 : isMS s0) (h : fL_446 L xs rec18 l3 s0 s1 s2 s3 s4 s5 s6 s7 m = some r) : xFx (xHL L xs) code d 446 [some (.ref xSc), some (.ref 0), some (.ref 291), some (.int l3)] [.int s7, .int s6, .int s5, .int s4, .int s3, .int s2, .int s1, .ref s0] (xLay m) 317 20810 (some (.int r.1)) (xLay r.2) := by
  unfold fL_446 at h
  obtain ⟨p1, ep1, h⟩ := xBind_el h
  refine gx_callv (as := [.int s1, .int s2, .int s3, .int s4, .int s5, .int s6, .int s7]) (r := []) rfl dL_law_446 ca_13_41 rfl me_41 rfl rfl rfl rfl (hs0.1) rfl (fX11_burst_ok (d := d) (by omega) hs0 ep1) rfl rfl ?_
  refine fx_pop dL_law_449 rfl rfl ?_
  refine fx_aload_n dL_law_450 rfl rfl ?_
  refine fx_aload_n dL_law_451 rfl rfl ?_
  refine fx_iload_n dL_law_452 rfl rfl ?_
  refine fx_iconst (x := 1) dL_law_453 rfl (by decide) ?_
  obtain ⟨x2, hx2, h⟩ := xLet_el h
  refine fx_iadd dL_law_454 rfl hx2 ?_
  obtain ⟨hj4, h⟩ := xChk_el h
  obtain ⟨x3, hx3, h⟩ := xLet_el h
  refine fx_sload dL_law_455 rfl rfl hj4 hx3 ?_
  refine fx_aload_n dL_law_456 rfl rfl ?_
  refine fx_iload_n dL_law_457 rfl rfl ?_
  refine fx_iconst (x := 2) dL_law_458 rfl (by decide) ?_
  obtain ⟨x5, hx5, h⟩ := xLet_el h
  refine fx_iadd dL_law_459 rfl hx5 ?_
  obtain ⟨hj7, h⟩ := xChk_el h
  obtain ⟨x6, hx6, h⟩ := xLet_el h
  refine fx_sload dL_law_460 rfl rfl hj7 hx6 ?_
  refine fx_aload_n dL_law_461 rfl rfl ?_
  refine fx_iload_n dL_law_462 rfl rfl ?_
  refine fx_iconst (x := 3) dL_law_463 rfl (by decide) ?_
  obtain ⟨x8, hx8, h⟩ := xLet_el h
  refine fx_iadd dL_law_464 rfl hx8 ?_
  obtain ⟨hj10, h⟩ := xChk_el h
  obtain ⟨x9, hx9, h⟩ := xLet_el h
  refine fx_sload dL_law_465 rfl rfl hj10 hx9 ?_
  refine fx_aload_n dL_law_466 rfl rfl ?_
  refine fx_iload_n dL_law_467 rfl rfl ?_
  refine fx_iconst (x := 4) dL_law_468 rfl (by decide) ?_
  obtain ⟨x11, hx11, h⟩ := xLet_el h
  refine fx_iadd dL_law_469 rfl hx11 ?_
  obtain ⟨hj13, h⟩ := xChk_el h
  obtain ⟨x12, hx12, h⟩ := xLet_el h
  refine fx_sload dL_law_470 rfl rfl hj13 hx12 ?_
  refine fx_aload_n dL_law_471 rfl rfl ?_
  refine fx_iload_n dL_law_472 rfl rfl ?_
  refine fx_iconst (x := 5) dL_law_473 rfl (by decide) ?_
  obtain ⟨x14, hx14, h⟩ := xLet_el h
  refine fx_iadd dL_law_474 rfl hx14 ?_
  obtain ⟨hj16, h⟩ := xChk_el h
  obtain ⟨x15, hx15, h⟩ := xLet_el h
  refine fx_sload dL_law_475 rfl rfl hj16 hx15 ?_
  refine fx_aload_n dL_law_476 rfl rfl ?_
  refine fx_iload_n dL_law_477 rfl rfl ?_
  refine fx_bipush (x := 6) dL_law_478 rfl (by decide) ?_
  obtain ⟨x17, hx17, h⟩ := xLet_el h
  refine fx_iadd dL_law_480 rfl hx17 ?_
  obtain ⟨hj19, h⟩ := xChk_el h
  obtain ⟨x18, hx18, h⟩ := xLet_el h
  refine fx_sload dL_law_481 rfl rfl hj19 hx18 ?_
  refine fx_if_eq (t := 489) dL_law_482 rfl rfl (fun hc20 => ?_) (fun hc20 => ?_)
  · rw [if_pos hc20] at h
    refine fx_iconst (x := 0) dL_law_489 rfl (by decide) ?_
    exact fL_490_ok hd hrec18 hModel h
  · rw [if_neg hc20] at h
    refine fx_iconst (x := 1) dL_law_485 rfl (by decide) ?_
    refine fx_goto (t := 490) dL_law_486 rfl rfl ?_
    exact fL_490_ok hd hrec18 hModel h
def fL_432 (L : Nat) (xs : Nat → Int32) (rec18 : Int32 → xMem → Option (Int32 × xMem)) (l3 : Int32) (s0 : Nat) (s1 : Int32) (s2 : Int32) (s3 : Int32) (s4 : Int32) (s5 : Int32) (s6 : Int32) (m : xMem) : Option (Int32 × xMem) := xLet (l3 + (7 : Int32)) fun x1 => bif xIn x1 L then xLet (xs x1.toNatClampNeg) fun x2 => if x2 = (0 : Int32) then fL_446 L xs rec18 l3 s0 s1 s2 s3 s4 s5 s6 (0 : Int32) m else fL_446 L xs rec18 l3 s0 s1 s2 s3 s4 s5 s6 (1 : Int32) m else none
set_option maxRecDepth 4000 in
theorem fL_432_ok {L : Nat} {xs : Nat → Int32} {rec18 : Int32 → xMem → Option (Int32 × xMem)} {d : Nat} (hd : 49 ≤ d)  (hrec18 : ∀ (l3 : Int32) (m : xMem) (r : (Int32 × xMem)), rec18 l3 m = some r → xFx (xHL L xs) code d 18 [some (.ref xSc), some (.ref 0), some (.ref 291), some (.int l3)] [] (xLay m) 317 20810 (some (.int r.1)) (xLay r.2)) {l3 : Int32} {s0 : Nat} {s1 : Int32} {s2 : Int32} {s3 : Int32} {s4 : Int32} {s5 : Int32} {s6 : Int32} {m : xMem} {r : (Int32 × xMem)} (hs0 : isMS s0) (h : fL_432 L xs rec18 l3 s0 s1 s2 s3 s4 s5 s6 m = some r) : xFx (xHL L xs) code d 432 [some (.ref xSc), some (.ref 0), some (.ref 291), some (.int l3)] [.int s6, .int s5, .int s4, .int s3, .int s2, .int s1, .ref s0] (xLay m) 317 20810 (some (.int r.1)) (xLay r.2) := by
  unfold fL_432 at h
  refine fx_aload_n dL_law_432 rfl rfl ?_
  refine fx_iload_n dL_law_433 rfl rfl ?_
  refine fx_bipush (x := 7) dL_law_434 rfl (by decide) ?_
  obtain ⟨x1, hx1, h⟩ := xLet_el h
  refine fx_iadd dL_law_436 rfl hx1 ?_
  obtain ⟨hj3, h⟩ := xChk_el h
  obtain ⟨x2, hx2, h⟩ := xLet_el h
  refine fx_sload dL_law_437 rfl rfl hj3 hx2 ?_
  refine fx_if_eq (t := 445) dL_law_438 rfl rfl (fun hc4 => ?_) (fun hc4 => ?_)
  · rw [if_pos hc4] at h
    refine fx_iconst (x := 0) dL_law_445 rfl (by decide) ?_
    exact fL_446_ok hd hrec18 hs0 h
  · rw [if_neg hc4] at h
    refine fx_iconst (x := 1) dL_law_441 rfl (by decide) ?_
    refine fx_goto (t := 446) dL_law_442 rfl rfl ?_
    exact fL_446_ok hd hrec18 hs0 h
def fL_840 (L : Nat) (xs : Nat → Int32) (rec18 : Int32 → xMem → Option (Int32 × xMem)) (l3 : Int32) (s0 : Nat) (s1 : Int32) (s2 : Int32) (s3 : Int32) (m : xMem) : Option (Int32 × xMem) := (fX12_route s0 s1 s2 s3 m).bind fun p1 => fL_1390 L xs rec18 l3 p1.2
set_option maxRecDepth 4000 in
theorem fL_840_ok {L : Nat} {xs : Nat → Int32} {rec18 : Int32 → xMem → Option (Int32 × xMem)} {d : Nat} (hd : 49 ≤ d)  (hrec18 : ∀ (l3 : Int32) (m : xMem) (r : (Int32 × xMem)), rec18 l3 m = some r → xFx (xHL L xs) code d 18 [some (.ref xSc), some (.ref 0), some (.ref 291), some (.int l3)] [] (xLay m) 317 20810 (some (.int r.1)) (xLay r.2)) {l3 : Int32} {s0 : Nat} {s1 : Int32} {s2 : Int32} {s3 : Int32} {m : xMem} {r : (Int32 × xMem)} (hs0 : isModel s0) (h : fL_840 L xs rec18 l3 s0 s1 s2 s3 m = some r) : xFx (xHL L xs) code d 840 [some (.ref xSc), some (.ref 0), some (.ref 291), some (.int l3)] [.int s3, .int s2, .int s1, .ref s0] (xLay m) 317 20810 (some (.int r.1)) (xLay r.2) := by
  unfold fL_840 at h
  obtain ⟨p1, ep1, h⟩ := xBind_el h
  refine gx_callv (as := [.int s1, .int s2, .int s3]) (r := []) rfl dL_law_840 ca_13_89 rfl me_200 rfl rfl rfl rfl (hs0.1) rfl (fX12_route_ok (d := d) (by omega) hs0 ep1) rfl rfl ?_
  refine fx_pop dL_law_843 rfl rfl ?_
  refine fx_goto (t := 1390) dL_law_844 rfl rfl ?_
  exact fL_1390_ok hd hrec18 h
def fL_812 (L : Nat) (xs : Nat → Int32) (rec18 : Int32 → xMem → Option (Int32 × xMem)) (l3 : Int32) (s0 : Nat) (s1 : Int32) (s2 : Int32) (s3 : Int32) (m : xMem) : Option (Int32 × xMem) := (fX11_route s0 s1 s2 s3 m).bind fun p1 => xLet (l3 + (1 : Int32)) fun x2 => bif xIn x2 L then xLet (xs x2.toNatClampNeg) fun x3 => xLet (l3 + (2 : Int32)) fun x5 => bif xIn x5 L then xLet (xs x5.toNatClampNeg) fun x6 => xLet (l3 + (3 : Int32)) fun x8 => bif xIn x8 L then xLet (xs x8.toNatClampNeg) fun x9 => if x9 = (0 : Int32) then fL_840 L xs rec18 l3 291 x3 x6 (0 : Int32) p1.2 else fL_840 L xs rec18 l3 291 x3 x6 (1 : Int32) p1.2 else none else none else none
set_option maxRecDepth 4000 in
theorem fL_812_ok {L : Nat} {xs : Nat → Int32} {rec18 : Int32 → xMem → Option (Int32 × xMem)} {d : Nat} (hd : 49 ≤ d)  (hrec18 : ∀ (l3 : Int32) (m : xMem) (r : (Int32 × xMem)), rec18 l3 m = some r → xFx (xHL L xs) code d 18 [some (.ref xSc), some (.ref 0), some (.ref 291), some (.int l3)] [] (xLay m) 317 20810 (some (.int r.1)) (xLay r.2)) {l3 : Int32} {s0 : Nat} {s1 : Int32} {s2 : Int32} {s3 : Int32} {m : xMem} {r : (Int32 × xMem)} (hs0 : isMS s0) (h : fL_812 L xs rec18 l3 s0 s1 s2 s3 m = some r) : xFx (xHL L xs) code d 812 [some (.ref xSc), some (.ref 0), some (.ref 291), some (.int l3)] [.int s3, .int s2, .int s1, .ref s0] (xLay m) 317 20810 (some (.int r.1)) (xLay r.2) := by
  unfold fL_812 at h
  obtain ⟨p1, ep1, h⟩ := xBind_el h
  refine gx_callv (as := [.int s1, .int s2, .int s3]) (r := []) rfl dL_law_812 ca_13_85 rfl me_199 rfl rfl rfl rfl (hs0.1) rfl (fX11_route_ok (d := d) (by omega) hs0 ep1) rfl rfl ?_
  refine fx_pop dL_law_815 rfl rfl ?_
  refine fx_aload_n dL_law_816 rfl rfl ?_
  refine fx_aload_n dL_law_817 rfl rfl ?_
  refine fx_iload_n dL_law_818 rfl rfl ?_
  refine fx_iconst (x := 1) dL_law_819 rfl (by decide) ?_
  obtain ⟨x2, hx2, h⟩ := xLet_el h
  refine fx_iadd dL_law_820 rfl hx2 ?_
  obtain ⟨hj4, h⟩ := xChk_el h
  obtain ⟨x3, hx3, h⟩ := xLet_el h
  refine fx_sload dL_law_821 rfl rfl hj4 hx3 ?_
  refine fx_aload_n dL_law_822 rfl rfl ?_
  refine fx_iload_n dL_law_823 rfl rfl ?_
  refine fx_iconst (x := 2) dL_law_824 rfl (by decide) ?_
  obtain ⟨x5, hx5, h⟩ := xLet_el h
  refine fx_iadd dL_law_825 rfl hx5 ?_
  obtain ⟨hj7, h⟩ := xChk_el h
  obtain ⟨x6, hx6, h⟩ := xLet_el h
  refine fx_sload dL_law_826 rfl rfl hj7 hx6 ?_
  refine fx_aload_n dL_law_827 rfl rfl ?_
  refine fx_iload_n dL_law_828 rfl rfl ?_
  refine fx_iconst (x := 3) dL_law_829 rfl (by decide) ?_
  obtain ⟨x8, hx8, h⟩ := xLet_el h
  refine fx_iadd dL_law_830 rfl hx8 ?_
  obtain ⟨hj10, h⟩ := xChk_el h
  obtain ⟨x9, hx9, h⟩ := xLet_el h
  refine fx_sload dL_law_831 rfl rfl hj10 hx9 ?_
  refine fx_if_eq (t := 839) dL_law_832 rfl rfl (fun hc11 => ?_) (fun hc11 => ?_)
  · rw [if_pos hc11] at h
    refine fx_iconst (x := 0) dL_law_839 rfl (by decide) ?_
    exact fL_840_ok hd hrec18 hModel h
  · rw [if_neg hc11] at h
    refine fx_iconst (x := 1) dL_law_835 rfl (by decide) ?_
    refine fx_goto (t := 840) dL_law_836 rfl rfl ?_
    exact fL_840_ok hd hrec18 hModel h
def fL_1150 (L : Nat) (xs : Nat → Int32) (rec18 : Int32 → xMem → Option (Int32 × xMem)) (l3 : Int32) (s0 : Nat) (s1 : Int32) (m : xMem) : Option (Int32 × xMem) := xLet (l3 + (2 : Int32)) fun x1 => bif xIn x1 L then xLet (xs x1.toNatClampNeg) fun x2 => xLet (l3 + (3 : Int32)) fun x4 => bif xIn x4 L then xLet (xs x4.toNatClampNeg) fun x5 => (fX12_day s0 s1 x2 x5 m).bind fun p7 => fL_1390 L xs rec18 l3 p7.2 else none else none
set_option maxRecDepth 4000 in
theorem fL_1150_ok {L : Nat} {xs : Nat → Int32} {rec18 : Int32 → xMem → Option (Int32 × xMem)} {d : Nat} (hd : 49 ≤ d)  (hrec18 : ∀ (l3 : Int32) (m : xMem) (r : (Int32 × xMem)), rec18 l3 m = some r → xFx (xHL L xs) code d 18 [some (.ref xSc), some (.ref 0), some (.ref 291), some (.int l3)] [] (xLay m) 317 20810 (some (.int r.1)) (xLay r.2)) {l3 : Int32} {s0 : Nat} {s1 : Int32} {m : xMem} {r : (Int32 × xMem)} (hs0 : isModel s0) (h : fL_1150 L xs rec18 l3 s0 s1 m = some r) : xFx (xHL L xs) code d 1150 [some (.ref xSc), some (.ref 0), some (.ref 291), some (.int l3)] [.int s1, .ref s0] (xLay m) 317 20810 (some (.int r.1)) (xLay r.2) := by
  unfold fL_1150 at h
  refine fx_aload_n dL_law_1150 rfl rfl ?_
  refine fx_iload_n dL_law_1151 rfl rfl ?_
  refine fx_iconst (x := 2) dL_law_1152 rfl (by decide) ?_
  obtain ⟨x1, hx1, h⟩ := xLet_el h
  refine fx_iadd dL_law_1153 rfl hx1 ?_
  obtain ⟨hj3, h⟩ := xChk_el h
  obtain ⟨x2, hx2, h⟩ := xLet_el h
  refine fx_sload dL_law_1154 rfl rfl hj3 hx2 ?_
  refine fx_aload_n dL_law_1155 rfl rfl ?_
  refine fx_iload_n dL_law_1156 rfl rfl ?_
  refine fx_iconst (x := 3) dL_law_1157 rfl (by decide) ?_
  obtain ⟨x4, hx4, h⟩ := xLet_el h
  refine fx_iadd dL_law_1158 rfl hx4 ?_
  obtain ⟨hj6, h⟩ := xChk_el h
  obtain ⟨x5, hx5, h⟩ := xLet_el h
  refine fx_sload dL_law_1159 rfl rfl hj6 hx5 ?_
  obtain ⟨p7, ep7, h⟩ := xBind_el h
  refine gx_callv (as := [.int s1, .int x2, .int x5]) (r := []) rfl dL_law_1160 ca_13_123 rfl me_238 rfl rfl rfl rfl (hs0.1) rfl (fX12_day_ok (d := d) (by omega) hs0 ep7) rfl rfl ?_
  refine fx_pop dL_law_1163 rfl rfl ?_
  refine fx_goto (t := 1390) dL_law_1164 rfl rfl ?_
  exact fL_1390_ok hd hrec18 h
def fL_1122 (L : Nat) (xs : Nat → Int32) (rec18 : Int32 → xMem → Option (Int32 × xMem)) (l3 : Int32) (s0 : Nat) (s1 : Int32) (m : xMem) : Option (Int32 × xMem) := xLet (l3 + (2 : Int32)) fun x1 => bif xIn x1 L then xLet (xs x1.toNatClampNeg) fun x2 => xLet (l3 + (3 : Int32)) fun x4 => bif xIn x4 L then xLet (xs x4.toNatClampNeg) fun x5 => (fX11_day s0 s1 x2 x5 m).bind fun p7 => xLet (l3 + (1 : Int32)) fun x8 => bif xIn x8 L then xLet (xs x8.toNatClampNeg) fun x9 => if x9 = (0 : Int32) then fL_1150 L xs rec18 l3 291 (0 : Int32) p7.2 else fL_1150 L xs rec18 l3 291 (1 : Int32) p7.2 else none else none else none
set_option maxRecDepth 4000 in
theorem fL_1122_ok {L : Nat} {xs : Nat → Int32} {rec18 : Int32 → xMem → Option (Int32 × xMem)} {d : Nat} (hd : 49 ≤ d)  (hrec18 : ∀ (l3 : Int32) (m : xMem) (r : (Int32 × xMem)), rec18 l3 m = some r → xFx (xHL L xs) code d 18 [some (.ref xSc), some (.ref 0), some (.ref 291), some (.int l3)] [] (xLay m) 317 20810 (some (.int r.1)) (xLay r.2)) {l3 : Int32} {s0 : Nat} {s1 : Int32} {m : xMem} {r : (Int32 × xMem)} (hs0 : isMS s0) (h : fL_1122 L xs rec18 l3 s0 s1 m = some r) : xFx (xHL L xs) code d 1122 [some (.ref xSc), some (.ref 0), some (.ref 291), some (.int l3)] [.int s1, .ref s0] (xLay m) 317 20810 (some (.int r.1)) (xLay r.2) := by
  unfold fL_1122 at h
  refine fx_aload_n dL_law_1122 rfl rfl ?_
  refine fx_iload_n dL_law_1123 rfl rfl ?_
  refine fx_iconst (x := 2) dL_law_1124 rfl (by decide) ?_
  obtain ⟨x1, hx1, h⟩ := xLet_el h
  refine fx_iadd dL_law_1125 rfl hx1 ?_
  obtain ⟨hj3, h⟩ := xChk_el h
  obtain ⟨x2, hx2, h⟩ := xLet_el h
  refine fx_sload dL_law_1126 rfl rfl hj3 hx2 ?_
  refine fx_aload_n dL_law_1127 rfl rfl ?_
  refine fx_iload_n dL_law_1128 rfl rfl ?_
  refine fx_iconst (x := 3) dL_law_1129 rfl (by decide) ?_
  obtain ⟨x4, hx4, h⟩ := xLet_el h
  refine fx_iadd dL_law_1130 rfl hx4 ?_
  obtain ⟨hj6, h⟩ := xChk_el h
  obtain ⟨x5, hx5, h⟩ := xLet_el h
  refine fx_sload dL_law_1131 rfl rfl hj6 hx5 ?_
  obtain ⟨p7, ep7, h⟩ := xBind_el h
  refine gx_callv (as := [.int s1, .int x2, .int x5]) (r := []) rfl dL_law_1132 ca_13_119 rfl me_236 rfl rfl rfl rfl (hs0.1) rfl (fX11_day_ok (d := d) (by omega) hs0 ep7) rfl rfl ?_
  refine fx_pop dL_law_1135 rfl rfl ?_
  refine fx_aload_n dL_law_1136 rfl rfl ?_
  refine fx_aload_n dL_law_1137 rfl rfl ?_
  refine fx_iload_n dL_law_1138 rfl rfl ?_
  refine fx_iconst (x := 1) dL_law_1139 rfl (by decide) ?_
  obtain ⟨x8, hx8, h⟩ := xLet_el h
  refine fx_iadd dL_law_1140 rfl hx8 ?_
  obtain ⟨hj10, h⟩ := xChk_el h
  obtain ⟨x9, hx9, h⟩ := xLet_el h
  refine fx_sload dL_law_1141 rfl rfl hj10 hx9 ?_
  refine fx_if_eq (t := 1149) dL_law_1142 rfl rfl (fun hc11 => ?_) (fun hc11 => ?_)
  · rw [if_pos hc11] at h
    refine fx_iconst (x := 0) dL_law_1149 rfl (by decide) ?_
    exact fL_1150_ok hd hrec18 hModel h
  · rw [if_neg hc11] at h
    refine fx_iconst (x := 1) dL_law_1145 rfl (by decide) ?_
    refine fx_goto (t := 1150) dL_law_1146 rfl rfl ?_
    exact fL_1150_ok hd hrec18 hModel h
def fL_1334 (L : Nat) (xs : Nat → Int32) (rec18 : Int32 → xMem → Option (Int32 × xMem)) (l3 : Int32) (s0 : Nat) (s1 : Int32) (s2 : Int32) (m : xMem) : Option (Int32 × xMem) := (fX12_taken s0 s1 s2 m).bind fun p1 => fL_1390 L xs rec18 l3 p1.2
set_option maxRecDepth 4000 in
theorem fL_1334_ok {L : Nat} {xs : Nat → Int32} {rec18 : Int32 → xMem → Option (Int32 × xMem)} {d : Nat} (hd : 49 ≤ d)  (hrec18 : ∀ (l3 : Int32) (m : xMem) (r : (Int32 × xMem)), rec18 l3 m = some r → xFx (xHL L xs) code d 18 [some (.ref xSc), some (.ref 0), some (.ref 291), some (.int l3)] [] (xLay m) 317 20810 (some (.int r.1)) (xLay r.2)) {l3 : Int32} {s0 : Nat} {s1 : Int32} {s2 : Int32} {m : xMem} {r : (Int32 × xMem)} (hs0 : isModel s0) (h : fL_1334 L xs rec18 l3 s0 s1 s2 m = some r) : xFx (xHL L xs) code d 1334 [some (.ref xSc), some (.ref 0), some (.ref 291), some (.int l3)] [.int s2, .int s1, .ref s0] (xLay m) 317 20810 (some (.int r.1)) (xLay r.2) := by
  unfold fL_1334 at h
  obtain ⟨p1, ep1, h⟩ := xBind_el h
  refine gx_callv (as := [.int s1, .int s2]) (r := []) rfl dL_law_1334 ca_13_148 rfl me_261 rfl rfl rfl rfl (hs0.1) rfl (fX12_taken_ok (d := d) (by omega) hs0 ep1) rfl rfl ?_
  refine fx_pop dL_law_1337 rfl rfl ?_
  refine fx_goto (t := 1390) dL_law_1338 rfl rfl ?_
  exact fL_1390_ok hd hrec18 h
def fL_1311 (L : Nat) (xs : Nat → Int32) (rec18 : Int32 → xMem → Option (Int32 × xMem)) (l3 : Int32) (s0 : Nat) (s1 : Int32) (s2 : Int32) (m : xMem) : Option (Int32 × xMem) := (fX11_taken s0 s1 s2 m).bind fun p1 => xLet (l3 + (1 : Int32)) fun x2 => bif xIn x2 L then xLet (xs x2.toNatClampNeg) fun x3 => xLet (l3 + (2 : Int32)) fun x5 => bif xIn x5 L then xLet (xs x5.toNatClampNeg) fun x6 => if x6 = (0 : Int32) then fL_1334 L xs rec18 l3 291 x3 (0 : Int32) p1.2 else fL_1334 L xs rec18 l3 291 x3 (1 : Int32) p1.2 else none else none
set_option maxRecDepth 4000 in
theorem fL_1311_ok {L : Nat} {xs : Nat → Int32} {rec18 : Int32 → xMem → Option (Int32 × xMem)} {d : Nat} (hd : 49 ≤ d)  (hrec18 : ∀ (l3 : Int32) (m : xMem) (r : (Int32 × xMem)), rec18 l3 m = some r → xFx (xHL L xs) code d 18 [some (.ref xSc), some (.ref 0), some (.ref 291), some (.int l3)] [] (xLay m) 317 20810 (some (.int r.1)) (xLay r.2)) {l3 : Int32} {s0 : Nat} {s1 : Int32} {s2 : Int32} {m : xMem} {r : (Int32 × xMem)} (hs0 : isMS s0) (h : fL_1311 L xs rec18 l3 s0 s1 s2 m = some r) : xFx (xHL L xs) code d 1311 [some (.ref xSc), some (.ref 0), some (.ref 291), some (.int l3)] [.int s2, .int s1, .ref s0] (xLay m) 317 20810 (some (.int r.1)) (xLay r.2) := by
  unfold fL_1311 at h
  obtain ⟨p1, ep1, h⟩ := xBind_el h
  refine gx_callv (as := [.int s1, .int s2]) (r := []) rfl dL_law_1311 ca_13_144 rfl me_259 rfl rfl rfl rfl (hs0.1) rfl (fX11_taken_ok (d := d) (by omega) hs0 ep1) rfl rfl ?_
  refine fx_pop dL_law_1314 rfl rfl ?_
  refine fx_aload_n dL_law_1315 rfl rfl ?_
  refine fx_aload_n dL_law_1316 rfl rfl ?_
  refine fx_iload_n dL_law_1317 rfl rfl ?_
  refine fx_iconst (x := 1) dL_law_1318 rfl (by decide) ?_
  obtain ⟨x2, hx2, h⟩ := xLet_el h
  refine fx_iadd dL_law_1319 rfl hx2 ?_
  obtain ⟨hj4, h⟩ := xChk_el h
  obtain ⟨x3, hx3, h⟩ := xLet_el h
  refine fx_sload dL_law_1320 rfl rfl hj4 hx3 ?_
  refine fx_aload_n dL_law_1321 rfl rfl ?_
  refine fx_iload_n dL_law_1322 rfl rfl ?_
  refine fx_iconst (x := 2) dL_law_1323 rfl (by decide) ?_
  obtain ⟨x5, hx5, h⟩ := xLet_el h
  refine fx_iadd dL_law_1324 rfl hx5 ?_
  obtain ⟨hj7, h⟩ := xChk_el h
  obtain ⟨x6, hx6, h⟩ := xLet_el h
  refine fx_sload dL_law_1325 rfl rfl hj7 hx6 ?_
  refine fx_if_eq (t := 1333) dL_law_1326 rfl rfl (fun hc8 => ?_) (fun hc8 => ?_)
  · rw [if_pos hc8] at h
    refine fx_iconst (x := 0) dL_law_1333 rfl (by decide) ?_
    exact fL_1334_ok hd hrec18 hModel h
  · rw [if_neg hc8] at h
    refine fx_iconst (x := 1) dL_law_1329 rfl (by decide) ?_
    refine fx_goto (t := 1334) dL_law_1330 rfl rfl ?_
    exact fL_1334_ok hd hrec18 hModel h
def fL_18 (L : Nat) (xs : Nat → Int32) : Nat → Int32 → xMem → Option (Int32 × xMem)
  | 0, _, _ => none
  | fuel + 1, l3, m => xLet (Int32.ofNat L) fun x1 => xLet (x1 - (8 : Int32)) fun x2 => if x2 < l3 then some ((1 : Int32), m) else bif xIn l3 L then xLet (xs l3.toNatClampNeg) fun x4 => xLet (x4 &&& (63 : Int32)) fun x6 => if x6 = (0 : Int32) then xLet (l3 + (1 : Int32)) fun x8 => bif xIn x8 L then xLet (xs x8.toNatClampNeg) fun x9 => (fX11_hall 0 x9 m).bind fun p11 => xLet (l3 + (1 : Int32)) fun x12 => bif xIn x12 L then xLet (xs x12.toNatClampNeg) fun x13 => (fX12_hall 291 x13 p11.2).bind fun p15 => fL_1390 L xs (fL_18 L xs fuel) l3 p15.2 else none else none else if x6 = (1 : Int32) then xLet (l3 + (1 : Int32)) fun x17 => bif xIn x17 L then xLet (xs x17.toNatClampNeg) fun x18 => xLet (l3 + (2 : Int32)) fun x20 => bif xIn x20 L then xLet (xs x20.toNatClampNeg) fun x21 => (fX11_bar 0 x18 x21 m).bind fun p23 => xLet (l3 + (1 : Int32)) fun x24 => bif xIn x24 L then xLet (xs x24.toNatClampNeg) fun x25 => xLet (l3 + (2 : Int32)) fun x27 => bif xIn x27 L then xLet (xs x27.toNatClampNeg) fun x28 => (fX12_bar 291 x25 x28 p23.2).bind fun p30 => fL_1390 L xs (fL_18 L xs fuel) l3 p30.2 else none else none else none else none else if x6 = (2 : Int32) then xLet (l3 + (1 : Int32)) fun x32 => bif xIn x32 L then xLet (xs x32.toNatClampNeg) fun x33 => xLet (l3 + (2 : Int32)) fun x35 => bif xIn x35 L then xLet (xs x35.toNatClampNeg) fun x36 => xLet (l3 + (3 : Int32)) fun x38 => bif xIn x38 L then xLet (xs x38.toNatClampNeg) fun x39 => xLet (l3 + (4 : Int32)) fun x41 => bif xIn x41 L then xLet (xs x41.toNatClampNeg) fun x42 => xLet (l3 + (5 : Int32)) fun x44 => bif xIn x44 L then xLet (xs x44.toNatClampNeg) fun x45 => (fX11_link 0 x33 x36 x39 x42 x45 m).bind fun p47 => xLet (l3 + (1 : Int32)) fun x48 => bif xIn x48 L then xLet (xs x48.toNatClampNeg) fun x49 => xLet (l3 + (2 : Int32)) fun x51 => bif xIn x51 L then xLet (xs x51.toNatClampNeg) fun x52 => xLet (l3 + (3 : Int32)) fun x54 => bif xIn x54 L then xLet (xs x54.toNatClampNeg) fun x55 => xLet (l3 + (4 : Int32)) fun x57 => bif xIn x57 L then xLet (xs x57.toNatClampNeg) fun x58 => xLet (l3 + (5 : Int32)) fun x60 => bif xIn x60 L then xLet (xs x60.toNatClampNeg) fun x61 => (fX12_link 291 x49 x52 x55 x58 x61 p47.2).bind fun p63 => fL_1390 L xs (fL_18 L xs fuel) l3 p63.2 else none else none else none else none else none else none else none else none else none else none else if x6 = (3 : Int32) then xLet (l3 + (1 : Int32)) fun x65 => bif xIn x65 L then xLet (xs x65.toNatClampNeg) fun x66 => xLet (l3 + (2 : Int32)) fun x68 => bif xIn x68 L then xLet (xs x68.toNatClampNeg) fun x69 => (fX11_turn 0 x66 x69 m).bind fun p71 => xLet (l3 + (1 : Int32)) fun x72 => bif xIn x72 L then xLet (xs x72.toNatClampNeg) fun x73 => xLet (l3 + (2 : Int32)) fun x75 => bif xIn x75 L then xLet (xs x75.toNatClampNeg) fun x76 => (fX12_turn 291 x73 x76 p71.2).bind fun p78 => fL_1390 L xs (fL_18 L xs fuel) l3 p78.2 else none else none else none else none else if x6 = (4 : Int32) then xLet (l3 + (1 : Int32)) fun x80 => bif xIn x80 L then xLet (xs x80.toNatClampNeg) fun x81 => xLet (l3 + (2 : Int32)) fun x83 => bif xIn x83 L then xLet (xs x83.toNatClampNeg) fun x84 => (fX11_mode 0 x81 x84 m).bind fun p86 => xLet (l3 + (1 : Int32)) fun x87 => bif xIn x87 L then xLet (xs x87.toNatClampNeg) fun x88 => xLet (l3 + (2 : Int32)) fun x90 => bif xIn x90 L then xLet (xs x90.toNatClampNeg) fun x91 => (fX12_mode 291 x88 x91 p86.2).bind fun p93 => fL_1390 L xs (fL_18 L xs fuel) l3 p93.2 else none else none else none else none else if x6 = (5 : Int32) then xLet (l3 + (1 : Int32)) fun x95 => bif xIn x95 L then xLet (xs x95.toNatClampNeg) fun x96 => (fX11_reset 0 x96 m).bind fun p98 => xLet (l3 + (1 : Int32)) fun x99 => bif xIn x99 L then xLet (xs x99.toNatClampNeg) fun x100 => (fX12_reset 291 x100 p98.2).bind fun p102 => fL_1390 L xs (fL_18 L xs fuel) l3 p102.2 else none else none else if x6 = (6 : Int32) then xLet (l3 + (1 : Int32)) fun x104 => bif xIn x104 L then xLet (xs x104.toNatClampNeg) fun x105 => xLet (l3 + (2 : Int32)) fun x107 => bif xIn x107 L then xLet (xs x107.toNatClampNeg) fun x108 => xLet (l3 + (3 : Int32)) fun x110 => bif xIn x110 L then xLet (xs x110.toNatClampNeg) fun x111 => xLet (l3 + (4 : Int32)) fun x113 => bif xIn x113 L then xLet (xs x113.toNatClampNeg) fun x114 => xLet (l3 + (5 : Int32)) fun x116 => bif xIn x116 L then xLet (xs x116.toNatClampNeg) fun x117 => xLet (l3 + (6 : Int32)) fun x119 => bif xIn x119 L then xLet (xs x119.toNatClampNeg) fun x120 => if x120 = (0 : Int32) then fL_432 L xs (fL_18 L xs fuel) l3 0 x105 x108 x111 x114 x117 (0 : Int32) m else fL_432 L xs (fL_18 L xs fuel) l3 0 x105 x108 x111 x114 x117 (1 : Int32) m else none else none else none else none else none else none else if x6 = (7 : Int32) then xLet (l3 + (1 : Int32)) fun x124 => bif xIn x124 L then xLet (xs x124.toNatClampNeg) fun x125 => xLet (l3 + (2 : Int32)) fun x127 => bif xIn x127 L then xLet (xs x127.toNatClampNeg) fun x128 => xLet (l3 + (3 : Int32)) fun x130 => bif xIn x130 L then xLet (xs x130.toNatClampNeg) fun x131 => xLet (l3 + (4 : Int32)) fun x133 => bif xIn x133 L then xLet (xs x133.toNatClampNeg) fun x134 => xLet (l3 + (5 : Int32)) fun x136 => bif xIn x136 L then xLet (xs x136.toNatClampNeg) fun x137 => (fX11_feed 0 x125 x128 x131 x134 x137 m).bind fun p139 => xLet (l3 + (1 : Int32)) fun x140 => bif xIn x140 L then xLet (xs x140.toNatClampNeg) fun x141 => xLet (l3 + (2 : Int32)) fun x143 => bif xIn x143 L then xLet (xs x143.toNatClampNeg) fun x144 => xLet (l3 + (3 : Int32)) fun x146 => bif xIn x146 L then xLet (xs x146.toNatClampNeg) fun x147 => xLet (l3 + (4 : Int32)) fun x149 => bif xIn x149 L then xLet (xs x149.toNatClampNeg) fun x150 => xLet (l3 + (5 : Int32)) fun x152 => bif xIn x152 L then xLet (xs x152.toNatClampNeg) fun x153 => (fX12_feed 291 x141 x144 x147 x150 x153 p139.2).bind fun p155 => fL_1390 L xs (fL_18 L xs fuel) l3 p155.2 else none else none else none else none else none else none else none else none else none else none else if x6 = (8 : Int32) then xLet (l3 + (1 : Int32)) fun x157 => bif xIn x157 L then xLet (xs x157.toNatClampNeg) fun x158 => (fX11_end 0 x158 m).bind fun p160 => xLet (l3 + (1 : Int32)) fun x161 => bif xIn x161 L then xLet (xs x161.toNatClampNeg) fun x162 => (fX12_end 291 x162 p160.2).bind fun p164 => fL_1390 L xs (fL_18 L xs fuel) l3 p164.2 else none else none else if x6 = (9 : Int32) then (fX11_text 0 m).bind fun p166 => (fX12_text 291 p166.2).bind fun p167 => if p166.1 = p167.1 then fL_1390 L xs (fL_18 L xs fuel) l3 p167.2 else some ((0 : Int32), p167.2) else if x6 = (10 : Int32) then xLet (l3 + (1 : Int32)) fun x170 => bif xIn x170 L then xLet (xs x170.toNatClampNeg) fun x171 => (fX11_fault 0 x171 m).bind fun p173 => xLet (l3 + (1 : Int32)) fun x174 => bif xIn x174 L then xLet (xs x174.toNatClampNeg) fun x175 => (fX12_fault 291 x175 p173.2).bind fun p177 => fL_1390 L xs (fL_18 L xs fuel) l3 p177.2 else none else none else if x6 = (11 : Int32) then xLet (l3 + (1 : Int32)) fun x179 => bif xIn x179 L then xLet (xs x179.toNatClampNeg) fun x180 => (fX11_by 0 x180 m).bind fun p182 => xLet (l3 + (1 : Int32)) fun x183 => bif xIn x183 L then xLet (xs x183.toNatClampNeg) fun x184 => (fX12_by 291 x184 p182.2).bind fun p186 => fL_1390 L xs (fL_18 L xs fuel) l3 p186.2 else none else none else if x6 = (12 : Int32) then xLet (l3 + (1 : Int32)) fun x188 => bif xIn x188 L then xLet (xs x188.toNatClampNeg) fun x189 => (fX11_run 0 x189 m).bind fun p191 => xLet (l3 + (1 : Int32)) fun x192 => bif xIn x192 L then xLet (xs x192.toNatClampNeg) fun x193 => (fX12_run 291 x193 p191.2).bind fun p195 => fL_1390 L xs (fL_18 L xs fuel) l3 p195.2 else none else none else if x6 = (13 : Int32) then xLet (l3 + (1 : Int32)) fun x197 => bif xIn x197 L then xLet (xs x197.toNatClampNeg) fun x198 => xLet (l3 + (2 : Int32)) fun x200 => bif xIn x200 L then xLet (xs x200.toNatClampNeg) fun x201 => (fX11_of 0 x198 x201 m).bind fun p203 => xLet (l3 + (1 : Int32)) fun x204 => bif xIn x204 L then xLet (xs x204.toNatClampNeg) fun x205 => xLet (l3 + (2 : Int32)) fun x207 => bif xIn x207 L then xLet (xs x207.toNatClampNeg) fun x208 => (fX12_of 291 x205 x208 p203.2).bind fun p210 => fL_1390 L xs (fL_18 L xs fuel) l3 p210.2 else none else none else none else none else if x6 = (14 : Int32) then xLet (l3 + (1 : Int32)) fun x212 => bif xIn x212 L then xLet (xs x212.toNatClampNeg) fun x213 => xLet (l3 + (2 : Int32)) fun x215 => bif xIn x215 L then xLet (xs x215.toNatClampNeg) fun x216 => (fX11_on 0 x213 x216 m).bind fun p218 => xLet (l3 + (1 : Int32)) fun x219 => bif xIn x219 L then xLet (xs x219.toNatClampNeg) fun x220 => xLet (l3 + (2 : Int32)) fun x222 => bif xIn x222 L then xLet (xs x222.toNatClampNeg) fun x223 => (fX12_on 291 x220 x223 p218.2).bind fun p225 => fL_1390 L xs (fL_18 L xs fuel) l3 p225.2 else none else none else none else none else if x6 = (15 : Int32) then xLet (l3 + (1 : Int32)) fun x227 => bif xIn x227 L then xLet (xs x227.toNatClampNeg) fun x228 => xLet (l3 + (2 : Int32)) fun x230 => bif xIn x230 L then xLet (xs x230.toNatClampNeg) fun x231 => xLet (l3 + (3 : Int32)) fun x233 => bif xIn x233 L then xLet (xs x233.toNatClampNeg) fun x234 => (fX11_step 0 x228 x231 x234 m).bind fun p236 => xLet (l3 + (1 : Int32)) fun x237 => bif xIn x237 L then xLet (xs x237.toNatClampNeg) fun x238 => xLet (l3 + (2 : Int32)) fun x240 => bif xIn x240 L then xLet (xs x240.toNatClampNeg) fun x241 => xLet (l3 + (3 : Int32)) fun x243 => bif xIn x243 L then xLet (xs x243.toNatClampNeg) fun x244 => (fX12_step 291 x238 x241 x244 p236.2).bind fun p246 => fL_1390 L xs (fL_18 L xs fuel) l3 p246.2 else none else none else none else none else none else none else if x6 = (16 : Int32) then xLet (l3 + (1 : Int32)) fun x248 => bif xIn x248 L then xLet (xs x248.toNatClampNeg) fun x249 => xLet (l3 + (2 : Int32)) fun x251 => bif xIn x251 L then xLet (xs x251.toNatClampNeg) fun x252 => xLet (l3 + (3 : Int32)) fun x254 => bif xIn x254 L then xLet (xs x254.toNatClampNeg) fun x255 => if x255 = (0 : Int32) then fL_812 L xs (fL_18 L xs fuel) l3 0 x249 x252 (0 : Int32) m else fL_812 L xs (fL_18 L xs fuel) l3 0 x249 x252 (1 : Int32) m else none else none else none else if x6 = (17 : Int32) then xLet (l3 + (1 : Int32)) fun x259 => bif xIn x259 L then xLet (xs x259.toNatClampNeg) fun x260 => (fX11_all 0 x260 m).bind fun p262 => xLet (l3 + (1 : Int32)) fun x263 => bif xIn x263 L then xLet (xs x263.toNatClampNeg) fun x264 => (fX12_all 291 x264 p262.2).bind fun p266 => fL_1390 L xs (fL_18 L xs fuel) l3 p266.2 else none else none else if x6 = (18 : Int32) then xLet (l3 + (1 : Int32)) fun x268 => bif xIn x268 L then xLet (xs x268.toNatClampNeg) fun x269 => xLet (l3 + (2 : Int32)) fun x271 => bif xIn x271 L then xLet (xs x271.toNatClampNeg) fun x272 => xLet (l3 + (3 : Int32)) fun x274 => bif xIn x274 L then xLet (xs x274.toNatClampNeg) fun x275 => (fX11_ways 0 x269 x272 x275 m).bind fun p277 => xLet (l3 + (1 : Int32)) fun x278 => bif xIn x278 L then xLet (xs x278.toNatClampNeg) fun x279 => xLet (l3 + (2 : Int32)) fun x281 => bif xIn x281 L then xLet (xs x281.toNatClampNeg) fun x282 => xLet (l3 + (3 : Int32)) fun x284 => bif xIn x284 L then xLet (xs x284.toNatClampNeg) fun x285 => (fX12_ways 291 x279 x282 x285 p277.2).bind fun p287 => fL_1390 L xs (fL_18 L xs fuel) l3 p287.2 else none else none else none else none else none else none else if x6 = (19 : Int32) then xLet (l3 + (1 : Int32)) fun x289 => bif xIn x289 L then xLet (xs x289.toNatClampNeg) fun x290 => xLet (l3 + (2 : Int32)) fun x292 => bif xIn x292 L then xLet (xs x292.toNatClampNeg) fun x293 => xLet (l3 + (3 : Int32)) fun x295 => bif xIn x295 L then xLet (xs x295.toNatClampNeg) fun x296 => (fX11_least 0 x290 x293 x296 m).bind fun p298 => xLet (l3 + (1 : Int32)) fun x299 => bif xIn x299 L then xLet (xs x299.toNatClampNeg) fun x300 => xLet (l3 + (2 : Int32)) fun x302 => bif xIn x302 L then xLet (xs x302.toNatClampNeg) fun x303 => xLet (l3 + (3 : Int32)) fun x305 => bif xIn x305 L then xLet (xs x305.toNatClampNeg) fun x306 => (fX12_least 291 x300 x303 x306 p298.2).bind fun p308 => fL_1390 L xs (fL_18 L xs fuel) l3 p308.2 else none else none else none else none else none else none else if x6 = (20 : Int32) then xLet (l3 + (1 : Int32)) fun x310 => bif xIn x310 L then xLet (xs x310.toNatClampNeg) fun x311 => xLet (l3 + (2 : Int32)) fun x313 => bif xIn x313 L then xLet (xs x313.toNatClampNeg) fun x314 => (fX11_felt 0 x311 x314 m).bind fun p316 => xLet (l3 + (1 : Int32)) fun x317 => bif xIn x317 L then xLet (xs x317.toNatClampNeg) fun x318 => xLet (l3 + (2 : Int32)) fun x320 => bif xIn x320 L then xLet (xs x320.toNatClampNeg) fun x321 => (fX12_felt 291 x318 x321 p316.2).bind fun p323 => fL_1390 L xs (fL_18 L xs fuel) l3 p323.2 else none else none else none else none else if x6 = (21 : Int32) then xLet (l3 + (1 : Int32)) fun x325 => bif xIn x325 L then xLet (xs x325.toNatClampNeg) fun x326 => xLet (l3 + (2 : Int32)) fun x328 => bif xIn x328 L then xLet (xs x328.toNatClampNeg) fun x329 => (fX11_standing 0 x326 x329 m).bind fun p331 => xLet (l3 + (1 : Int32)) fun x332 => bif xIn x332 L then xLet (xs x332.toNatClampNeg) fun x333 => xLet (l3 + (2 : Int32)) fun x335 => bif xIn x335 L then xLet (xs x335.toNatClampNeg) fun x336 => (fX12_standing 291 x333 x336 p331.2).bind fun p338 => fL_1390 L xs (fL_18 L xs fuel) l3 p338.2 else none else none else none else none else if x6 = (22 : Int32) then xLet (l3 + (1 : Int32)) fun x340 => bif xIn x340 L then xLet (xs x340.toNatClampNeg) fun x341 => xLet (l3 + (2 : Int32)) fun x343 => bif xIn x343 L then xLet (xs x343.toNatClampNeg) fun x344 => xLet (l3 + (3 : Int32)) fun x346 => bif xIn x346 L then xLet (xs x346.toNatClampNeg) fun x347 => xLet (l3 + (4 : Int32)) fun x349 => bif xIn x349 L then xLet (xs x349.toNatClampNeg) fun x350 => (fX11_alone 0 x341 x344 x347 x350 m).bind fun p352 => xLet (l3 + (1 : Int32)) fun x353 => bif xIn x353 L then xLet (xs x353.toNatClampNeg) fun x354 => xLet (l3 + (2 : Int32)) fun x356 => bif xIn x356 L then xLet (xs x356.toNatClampNeg) fun x357 => xLet (l3 + (3 : Int32)) fun x359 => bif xIn x359 L then xLet (xs x359.toNatClampNeg) fun x360 => xLet (l3 + (4 : Int32)) fun x362 => bif xIn x362 L then xLet (xs x362.toNatClampNeg) fun x363 => (fX12_alone 291 x354 x357 x360 x363 p352.2).bind fun p365 => fL_1390 L xs (fL_18 L xs fuel) l3 p365.2 else none else none else none else none else none else none else none else none else if x6 = (23 : Int32) then xLet (l3 + (1 : Int32)) fun x367 => bif xIn x367 L then xLet (xs x367.toNatClampNeg) fun x368 => xLet (l3 + (2 : Int32)) fun x370 => bif xIn x370 L then xLet (xs x370.toNatClampNeg) fun x371 => (fX11_crossing 0 x368 x371 m).bind fun p373 => xLet (l3 + (1 : Int32)) fun x374 => bif xIn x374 L then xLet (xs x374.toNatClampNeg) fun x375 => xLet (l3 + (2 : Int32)) fun x377 => bif xIn x377 L then xLet (xs x377.toNatClampNeg) fun x378 => (fX12_crossing 291 x375 x378 p373.2).bind fun p380 => fL_1390 L xs (fL_18 L xs fuel) l3 p380.2 else none else none else none else none else if x6 = (24 : Int32) then xLet (l3 + (1 : Int32)) fun x382 => bif xIn x382 L then xLet (xs x382.toNatClampNeg) fun x383 => if x383 = (0 : Int32) then fL_1122 L xs (fL_18 L xs fuel) l3 0 (0 : Int32) m else fL_1122 L xs (fL_18 L xs fuel) l3 0 (1 : Int32) m else none else if x6 = (25 : Int32) then (fX11_effect 0 m).bind fun p387 => (fX12_effect 291 p387.2).bind fun p388 => fL_1390 L xs (fL_18 L xs fuel) l3 p388.2 else if x6 = (26 : Int32) then xLet (l3 + (1 : Int32)) fun x390 => bif xIn x390 L then xLet (xs x390.toNatClampNeg) fun x391 => xLet (l3 + (2 : Int32)) fun x393 => bif xIn x393 L then xLet (xs x393.toNatClampNeg) fun x394 => xLet (l3 + (3 : Int32)) fun x396 => bif xIn x396 L then xLet (xs x396.toNatClampNeg) fun x397 => xLet (l3 + (4 : Int32)) fun x399 => bif xIn x399 L then xLet (xs x399.toNatClampNeg) fun x400 => (fX11_mend 0 x391 x394 x397 x400 m).bind fun p402 => xLet (l3 + (1 : Int32)) fun x403 => bif xIn x403 L then xLet (xs x403.toNatClampNeg) fun x404 => xLet (l3 + (2 : Int32)) fun x406 => bif xIn x406 L then xLet (xs x406.toNatClampNeg) fun x407 => xLet (l3 + (3 : Int32)) fun x409 => bif xIn x409 L then xLet (xs x409.toNatClampNeg) fun x410 => xLet (l3 + (4 : Int32)) fun x412 => bif xIn x412 L then xLet (xs x412.toNatClampNeg) fun x413 => (fX12_mend 291 x404 x407 x410 x413 p402.2).bind fun p415 => fL_1390 L xs (fL_18 L xs fuel) l3 p415.2 else none else none else none else none else none else none else none else none else if x6 = (27 : Int32) then xLet (l3 + (1 : Int32)) fun x417 => bif xIn x417 L then xLet (xs x417.toNatClampNeg) fun x418 => (fX11_order 0 x418 m).bind fun p420 => xLet (l3 + (1 : Int32)) fun x421 => bif xIn x421 L then xLet (xs x421.toNatClampNeg) fun x422 => (fX12_order 291 x422 p420.2).bind fun p424 => fL_1390 L xs (fL_18 L xs fuel) l3 p424.2 else none else none else if x6 = (28 : Int32) then xLet (l3 + (1 : Int32)) fun x426 => bif xIn x426 L then xLet (xs x426.toNatClampNeg) fun x427 => (fX11_load 0 x427 m).bind fun p429 => xLet (l3 + (1 : Int32)) fun x430 => bif xIn x430 L then xLet (xs x430.toNatClampNeg) fun x431 => (fX12_load 291 x431 p429.2).bind fun p433 => fL_1390 L xs (fL_18 L xs fuel) l3 p433.2 else none else none else if x6 = (29 : Int32) then (fX11_unload 0 m).bind fun p435 => (fX12_unload 291 p435.2).bind fun p436 => fL_1390 L xs (fL_18 L xs fuel) l3 p436.2 else if x6 = (30 : Int32) then xLet (l3 + (1 : Int32)) fun x438 => bif xIn x438 L then xLet (xs x438.toNatClampNeg) fun x439 => xLet (l3 + (2 : Int32)) fun x441 => bif xIn x441 L then xLet (xs x441.toNatClampNeg) fun x442 => if x442 = (0 : Int32) then fL_1311 L xs (fL_18 L xs fuel) l3 0 x439 (0 : Int32) m else fL_1311 L xs (fL_18 L xs fuel) l3 0 x439 (1 : Int32) m else none else none else if x6 = (31 : Int32) then (fX11_image 0 m).bind fun p446 => (fX12_image 291 p446.2).bind fun p447 => fL_1390 L xs (fL_18 L xs fuel) l3 p447.2 else if x6 = (32 : Int32) then (fX11_back 0 m).bind fun p449 => (fX12_back 291 p449.2).bind fun p450 => fL_1390 L xs (fL_18 L xs fuel) l3 p450.2 else if x6 = (33 : Int32) then xLet (l3 + (1 : Int32)) fun x452 => bif xIn x452 L then xLet (xs x452.toNatClampNeg) fun x453 => (fX11_about 0 x453 m).bind fun p455 => xLet (l3 + (1 : Int32)) fun x456 => bif xIn x456 L then xLet (xs x456.toNatClampNeg) fun x457 => (fX12_about 291 x457 p455.2).bind fun p459 => fL_1390 L xs (fL_18 L xs fuel) l3 p459.2 else none else none else fL_1390 L xs (fL_18 L xs fuel) l3 m else none
set_option maxRecDepth 4000 in
theorem fL_18_ok {L : Nat} {xs : Nat → Int32} {d : Nat} (hd : 49 ≤ d)  : ∀ (fuel : Nat) (l3 : Int32) (m : xMem) (r : (Int32 × xMem)), fL_18 L xs fuel l3 m = some r → xFx (xHL L xs) code d 18 [some (.ref xSc), some (.ref 0), some (.ref 291), some (.int l3)] [] (xLay m) 317 20810 (some (.int r.1)) (xLay r.2) := by
  intro fuel
  induction fuel with
  | zero => intro l3  m r  h; cases h
  | succ fuel ih =>
    intro l3  m r  h
    unfold fL_18 at h
    refine fx_iload_n dL_law_18 rfl rfl ?_
    refine fx_aload_n dL_law_19 rfl rfl ?_
    obtain ⟨x1, hx1, h⟩ := xLet_el h
    refine fx_slen dL_law_20 rfl rfl hx1 ?_
    refine fx_bipush (x := 8) dL_law_21 rfl (by decide) ?_
    obtain ⟨x2, hx2, h⟩ := xLet_el h
    refine fx_isub dL_law_23 rfl hx2 ?_
    refine fx_icmp_gt (t := 1396) dL_law_24 rfl rfl (fun hc3 => ?_) (fun hc3 => ?_)
    · rw [if_pos hc3] at h
      refine fx_iconst (x := 1) dL_law_1396 rfl (by decide) ?_
      cases h
      exact fx_ireturn dL_law_1397 rfl rfl
    · rw [if_neg hc3] at h
      refine fx_aload_n dL_law_27 rfl rfl ?_
      refine fx_iload_n dL_law_28 rfl rfl ?_
      obtain ⟨hj5, h⟩ := xChk_el h
      obtain ⟨x4, hx4, h⟩ := xLet_el h
      refine fx_sload dL_law_29 rfl rfl hj5 hx4 ?_
      refine fx_bipush (x := 63) dL_law_30 rfl (by decide) ?_
      obtain ⟨x6, hx6, h⟩ := xLet_el h
      refine fx_iand dL_law_32 rfl hx6 ?_
      by_cases hc7 : x6 = (0 : Int32)
      · rw [if_pos hc7] at h
        refine fx_tabIn (t := 184) dL_law_33 rfl (by rw [hc7]; decide) (by rw [hc7]; decide) (by rw [hc7]; rfl) rfl ?_
        refine fx_aload_n dL_law_184 rfl rfl ?_
        refine fx_aload_n dL_law_185 rfl rfl ?_
        refine fx_iload_n dL_law_186 rfl rfl ?_
        refine fx_iconst (x := 1) dL_law_187 rfl (by decide) ?_
        obtain ⟨x8, hx8, h⟩ := xLet_el h
        refine fx_iadd dL_law_188 rfl hx8 ?_
        obtain ⟨hj10, h⟩ := xChk_el h
        obtain ⟨x9, hx9, h⟩ := xLet_el h
        refine fx_sload dL_law_189 rfl rfl hj10 hx9 ?_
        obtain ⟨p11, ep11, h⟩ := xBind_el h
        refine gx_callv (as := [.int x9]) (r := []) rfl dL_law_190 ca_13_13 rfl me_13 rfl rfl rfl rfl (hMS.1) rfl (fX11_hall_ok (d := d) (by omega) hMS ep11) rfl rfl ?_
        refine fx_pop dL_law_193 rfl rfl ?_
        refine fx_aload_n dL_law_194 rfl rfl ?_
        refine fx_aload_n dL_law_195 rfl rfl ?_
        refine fx_iload_n dL_law_196 rfl rfl ?_
        refine fx_iconst (x := 1) dL_law_197 rfl (by decide) ?_
        obtain ⟨x12, hx12, h⟩ := xLet_el h
        refine fx_iadd dL_law_198 rfl hx12 ?_
        obtain ⟨hj14, h⟩ := xChk_el h
        obtain ⟨x13, hx13, h⟩ := xLet_el h
        refine fx_sload dL_law_199 rfl rfl hj14 hx13 ?_
        obtain ⟨p15, ep15, h⟩ := xBind_el h
        refine gx_callv (as := [.int x13]) (r := []) rfl dL_law_200 ca_13_17 rfl me_17 rfl rfl rfl rfl (hModel.1) rfl (fX12_hall_ok (d := d) (by omega) hModel ep15) rfl rfl ?_
        refine fx_pop dL_law_203 rfl rfl ?_
        refine fx_goto (t := 1390) dL_law_204 rfl rfl ?_
        exact fL_1390_ok hd ih h
      · rw [if_neg hc7] at h
        by_cases hc16 : x6 = (1 : Int32)
        · rw [if_pos hc16] at h
          refine fx_tabIn (t := 207) dL_law_33 rfl (by rw [hc16]; decide) (by rw [hc16]; decide) (by rw [hc16]; rfl) rfl ?_
          refine fx_aload_n dL_law_207 rfl rfl ?_
          refine fx_aload_n dL_law_208 rfl rfl ?_
          refine fx_iload_n dL_law_209 rfl rfl ?_
          refine fx_iconst (x := 1) dL_law_210 rfl (by decide) ?_
          obtain ⟨x17, hx17, h⟩ := xLet_el h
          refine fx_iadd dL_law_211 rfl hx17 ?_
          obtain ⟨hj19, h⟩ := xChk_el h
          obtain ⟨x18, hx18, h⟩ := xLet_el h
          refine fx_sload dL_law_212 rfl rfl hj19 hx18 ?_
          refine fx_aload_n dL_law_213 rfl rfl ?_
          refine fx_iload_n dL_law_214 rfl rfl ?_
          refine fx_iconst (x := 2) dL_law_215 rfl (by decide) ?_
          obtain ⟨x20, hx20, h⟩ := xLet_el h
          refine fx_iadd dL_law_216 rfl hx20 ?_
          obtain ⟨hj22, h⟩ := xChk_el h
          obtain ⟨x21, hx21, h⟩ := xLet_el h
          refine fx_sload dL_law_217 rfl rfl hj22 hx21 ?_
          obtain ⟨p23, ep23, h⟩ := xBind_el h
          refine gx_callv (as := [.int x18, .int x21]) (r := []) rfl dL_law_218 ca_13_18 rfl me_19 rfl rfl rfl rfl (hMS.1) rfl (fX11_bar_ok (d := d) (by omega) hMS ep23) rfl rfl ?_
          refine fx_pop dL_law_221 rfl rfl ?_
          refine fx_aload_n dL_law_222 rfl rfl ?_
          refine fx_aload_n dL_law_223 rfl rfl ?_
          refine fx_iload_n dL_law_224 rfl rfl ?_
          refine fx_iconst (x := 1) dL_law_225 rfl (by decide) ?_
          obtain ⟨x24, hx24, h⟩ := xLet_el h
          refine fx_iadd dL_law_226 rfl hx24 ?_
          obtain ⟨hj26, h⟩ := xChk_el h
          obtain ⟨x25, hx25, h⟩ := xLet_el h
          refine fx_sload dL_law_227 rfl rfl hj26 hx25 ?_
          refine fx_aload_n dL_law_228 rfl rfl ?_
          refine fx_iload_n dL_law_229 rfl rfl ?_
          refine fx_iconst (x := 2) dL_law_230 rfl (by decide) ?_
          obtain ⟨x27, hx27, h⟩ := xLet_el h
          refine fx_iadd dL_law_231 rfl hx27 ?_
          obtain ⟨hj29, h⟩ := xChk_el h
          obtain ⟨x28, hx28, h⟩ := xLet_el h
          refine fx_sload dL_law_232 rfl rfl hj29 hx28 ?_
          obtain ⟨p30, ep30, h⟩ := xBind_el h
          refine gx_callv (as := [.int x25, .int x28]) (r := []) rfl dL_law_233 ca_13_22 rfl me_21 rfl rfl rfl rfl (hModel.1) rfl (fX12_bar_ok (d := d) (by omega) hModel ep30) rfl rfl ?_
          refine fx_pop dL_law_236 rfl rfl ?_
          refine fx_goto (t := 1390) dL_law_237 rfl rfl ?_
          exact fL_1390_ok hd ih h
        · rw [if_neg hc16] at h
          by_cases hc31 : x6 = (2 : Int32)
          · rw [if_pos hc31] at h
            refine fx_tabIn (t := 240) dL_law_33 rfl (by rw [hc31]; decide) (by rw [hc31]; decide) (by rw [hc31]; rfl) rfl ?_
            refine fx_aload_n dL_law_240 rfl rfl ?_
            refine fx_aload_n dL_law_241 rfl rfl ?_
            refine fx_iload_n dL_law_242 rfl rfl ?_
            refine fx_iconst (x := 1) dL_law_243 rfl (by decide) ?_
            obtain ⟨x32, hx32, h⟩ := xLet_el h
            refine fx_iadd dL_law_244 rfl hx32 ?_
            obtain ⟨hj34, h⟩ := xChk_el h
            obtain ⟨x33, hx33, h⟩ := xLet_el h
            refine fx_sload dL_law_245 rfl rfl hj34 hx33 ?_
            refine fx_aload_n dL_law_246 rfl rfl ?_
            refine fx_iload_n dL_law_247 rfl rfl ?_
            refine fx_iconst (x := 2) dL_law_248 rfl (by decide) ?_
            obtain ⟨x35, hx35, h⟩ := xLet_el h
            refine fx_iadd dL_law_249 rfl hx35 ?_
            obtain ⟨hj37, h⟩ := xChk_el h
            obtain ⟨x36, hx36, h⟩ := xLet_el h
            refine fx_sload dL_law_250 rfl rfl hj37 hx36 ?_
            refine fx_aload_n dL_law_251 rfl rfl ?_
            refine fx_iload_n dL_law_252 rfl rfl ?_
            refine fx_iconst (x := 3) dL_law_253 rfl (by decide) ?_
            obtain ⟨x38, hx38, h⟩ := xLet_el h
            refine fx_iadd dL_law_254 rfl hx38 ?_
            obtain ⟨hj40, h⟩ := xChk_el h
            obtain ⟨x39, hx39, h⟩ := xLet_el h
            refine fx_sload dL_law_255 rfl rfl hj40 hx39 ?_
            refine fx_aload_n dL_law_256 rfl rfl ?_
            refine fx_iload_n dL_law_257 rfl rfl ?_
            refine fx_iconst (x := 4) dL_law_258 rfl (by decide) ?_
            obtain ⟨x41, hx41, h⟩ := xLet_el h
            refine fx_iadd dL_law_259 rfl hx41 ?_
            obtain ⟨hj43, h⟩ := xChk_el h
            obtain ⟨x42, hx42, h⟩ := xLet_el h
            refine fx_sload dL_law_260 rfl rfl hj43 hx42 ?_
            refine fx_aload_n dL_law_261 rfl rfl ?_
            refine fx_iload_n dL_law_262 rfl rfl ?_
            refine fx_iconst (x := 5) dL_law_263 rfl (by decide) ?_
            obtain ⟨x44, hx44, h⟩ := xLet_el h
            refine fx_iadd dL_law_264 rfl hx44 ?_
            obtain ⟨hj46, h⟩ := xChk_el h
            obtain ⟨x45, hx45, h⟩ := xLet_el h
            refine fx_sload dL_law_265 rfl rfl hj46 hx45 ?_
            obtain ⟨p47, ep47, h⟩ := xBind_el h
            refine gx_callv (as := [.int x33, .int x36, .int x39, .int x42, .int x45]) (r := []) rfl dL_law_266 ca_13_23 rfl me_23 rfl rfl rfl rfl (hMS.1) rfl (fX11_link_ok (d := d) (by omega) hMS ep47) rfl rfl ?_
            refine fx_pop dL_law_269 rfl rfl ?_
            refine fx_aload_n dL_law_270 rfl rfl ?_
            refine fx_aload_n dL_law_271 rfl rfl ?_
            refine fx_iload_n dL_law_272 rfl rfl ?_
            refine fx_iconst (x := 1) dL_law_273 rfl (by decide) ?_
            obtain ⟨x48, hx48, h⟩ := xLet_el h
            refine fx_iadd dL_law_274 rfl hx48 ?_
            obtain ⟨hj50, h⟩ := xChk_el h
            obtain ⟨x49, hx49, h⟩ := xLet_el h
            refine fx_sload dL_law_275 rfl rfl hj50 hx49 ?_
            refine fx_aload_n dL_law_276 rfl rfl ?_
            refine fx_iload_n dL_law_277 rfl rfl ?_
            refine fx_iconst (x := 2) dL_law_278 rfl (by decide) ?_
            obtain ⟨x51, hx51, h⟩ := xLet_el h
            refine fx_iadd dL_law_279 rfl hx51 ?_
            obtain ⟨hj53, h⟩ := xChk_el h
            obtain ⟨x52, hx52, h⟩ := xLet_el h
            refine fx_sload dL_law_280 rfl rfl hj53 hx52 ?_
            refine fx_aload_n dL_law_281 rfl rfl ?_
            refine fx_iload_n dL_law_282 rfl rfl ?_
            refine fx_iconst (x := 3) dL_law_283 rfl (by decide) ?_
            obtain ⟨x54, hx54, h⟩ := xLet_el h
            refine fx_iadd dL_law_284 rfl hx54 ?_
            obtain ⟨hj56, h⟩ := xChk_el h
            obtain ⟨x55, hx55, h⟩ := xLet_el h
            refine fx_sload dL_law_285 rfl rfl hj56 hx55 ?_
            refine fx_aload_n dL_law_286 rfl rfl ?_
            refine fx_iload_n dL_law_287 rfl rfl ?_
            refine fx_iconst (x := 4) dL_law_288 rfl (by decide) ?_
            obtain ⟨x57, hx57, h⟩ := xLet_el h
            refine fx_iadd dL_law_289 rfl hx57 ?_
            obtain ⟨hj59, h⟩ := xChk_el h
            obtain ⟨x58, hx58, h⟩ := xLet_el h
            refine fx_sload dL_law_290 rfl rfl hj59 hx58 ?_
            refine fx_aload_n dL_law_291 rfl rfl ?_
            refine fx_iload_n dL_law_292 rfl rfl ?_
            refine fx_iconst (x := 5) dL_law_293 rfl (by decide) ?_
            obtain ⟨x60, hx60, h⟩ := xLet_el h
            refine fx_iadd dL_law_294 rfl hx60 ?_
            obtain ⟨hj62, h⟩ := xChk_el h
            obtain ⟨x61, hx61, h⟩ := xLet_el h
            refine fx_sload dL_law_295 rfl rfl hj62 hx61 ?_
            obtain ⟨p63, ep63, h⟩ := xBind_el h
            refine gx_callv (as := [.int x49, .int x52, .int x55, .int x58, .int x61]) (r := []) rfl dL_law_296 ca_13_27 rfl me_25 rfl rfl rfl rfl (hModel.1) rfl (fX12_link_ok (d := d) (by omega) hModel ep63) rfl rfl ?_
            refine fx_pop dL_law_299 rfl rfl ?_
            refine fx_goto (t := 1390) dL_law_300 rfl rfl ?_
            exact fL_1390_ok hd ih h
          · rw [if_neg hc31] at h
            by_cases hc64 : x6 = (3 : Int32)
            · rw [if_pos hc64] at h
              refine fx_tabIn (t := 303) dL_law_33 rfl (by rw [hc64]; decide) (by rw [hc64]; decide) (by rw [hc64]; rfl) rfl ?_
              refine fx_aload_n dL_law_303 rfl rfl ?_
              refine fx_aload_n dL_law_304 rfl rfl ?_
              refine fx_iload_n dL_law_305 rfl rfl ?_
              refine fx_iconst (x := 1) dL_law_306 rfl (by decide) ?_
              obtain ⟨x65, hx65, h⟩ := xLet_el h
              refine fx_iadd dL_law_307 rfl hx65 ?_
              obtain ⟨hj67, h⟩ := xChk_el h
              obtain ⟨x66, hx66, h⟩ := xLet_el h
              refine fx_sload dL_law_308 rfl rfl hj67 hx66 ?_
              refine fx_aload_n dL_law_309 rfl rfl ?_
              refine fx_iload_n dL_law_310 rfl rfl ?_
              refine fx_iconst (x := 2) dL_law_311 rfl (by decide) ?_
              obtain ⟨x68, hx68, h⟩ := xLet_el h
              refine fx_iadd dL_law_312 rfl hx68 ?_
              obtain ⟨hj70, h⟩ := xChk_el h
              obtain ⟨x69, hx69, h⟩ := xLet_el h
              refine fx_sload dL_law_313 rfl rfl hj70 hx69 ?_
              obtain ⟨p71, ep71, h⟩ := xBind_el h
              refine gx_callv (as := [.int x66, .int x69]) (r := []) rfl dL_law_314 ca_13_28 rfl me_27 rfl rfl rfl rfl (hMS.1) rfl (fX11_turn_ok (d := d) (by omega) hMS ep71) rfl rfl ?_
              refine fx_pop dL_law_317 rfl rfl ?_
              refine fx_aload_n dL_law_318 rfl rfl ?_
              refine fx_aload_n dL_law_319 rfl rfl ?_
              refine fx_iload_n dL_law_320 rfl rfl ?_
              refine fx_iconst (x := 1) dL_law_321 rfl (by decide) ?_
              obtain ⟨x72, hx72, h⟩ := xLet_el h
              refine fx_iadd dL_law_322 rfl hx72 ?_
              obtain ⟨hj74, h⟩ := xChk_el h
              obtain ⟨x73, hx73, h⟩ := xLet_el h
              refine fx_sload dL_law_323 rfl rfl hj74 hx73 ?_
              refine fx_aload_n dL_law_324 rfl rfl ?_
              refine fx_iload_n dL_law_325 rfl rfl ?_
              refine fx_iconst (x := 2) dL_law_326 rfl (by decide) ?_
              obtain ⟨x75, hx75, h⟩ := xLet_el h
              refine fx_iadd dL_law_327 rfl hx75 ?_
              obtain ⟨hj77, h⟩ := xChk_el h
              obtain ⟨x76, hx76, h⟩ := xLet_el h
              refine fx_sload dL_law_328 rfl rfl hj77 hx76 ?_
              obtain ⟨p78, ep78, h⟩ := xBind_el h
              refine gx_callv (as := [.int x73, .int x76]) (r := []) rfl dL_law_329 ca_13_31 rfl me_31 rfl rfl rfl rfl (hModel.1) rfl (fX12_turn_ok (d := d) (by omega) hModel ep78) rfl rfl ?_
              refine fx_pop dL_law_332 rfl rfl ?_
              refine fx_goto (t := 1390) dL_law_333 rfl rfl ?_
              exact fL_1390_ok hd ih h
            · rw [if_neg hc64] at h
              by_cases hc79 : x6 = (4 : Int32)
              · rw [if_pos hc79] at h
                refine fx_tabIn (t := 336) dL_law_33 rfl (by rw [hc79]; decide) (by rw [hc79]; decide) (by rw [hc79]; rfl) rfl ?_
                refine fx_aload_n dL_law_336 rfl rfl ?_
                refine fx_aload_n dL_law_337 rfl rfl ?_
                refine fx_iload_n dL_law_338 rfl rfl ?_
                refine fx_iconst (x := 1) dL_law_339 rfl (by decide) ?_
                obtain ⟨x80, hx80, h⟩ := xLet_el h
                refine fx_iadd dL_law_340 rfl hx80 ?_
                obtain ⟨hj82, h⟩ := xChk_el h
                obtain ⟨x81, hx81, h⟩ := xLet_el h
                refine fx_sload dL_law_341 rfl rfl hj82 hx81 ?_
                refine fx_aload_n dL_law_342 rfl rfl ?_
                refine fx_iload_n dL_law_343 rfl rfl ?_
                refine fx_iconst (x := 2) dL_law_344 rfl (by decide) ?_
                obtain ⟨x83, hx83, h⟩ := xLet_el h
                refine fx_iadd dL_law_345 rfl hx83 ?_
                obtain ⟨hj85, h⟩ := xChk_el h
                obtain ⟨x84, hx84, h⟩ := xLet_el h
                refine fx_sload dL_law_346 rfl rfl hj85 hx84 ?_
                obtain ⟨p86, ep86, h⟩ := xBind_el h
                refine gx_callv (as := [.int x81, .int x84]) (r := []) rfl dL_law_347 ca_13_32 rfl me_36 rfl rfl rfl rfl (hMS.1) rfl (fX11_mode_ok (d := d) (by omega) hMS ep86) rfl rfl ?_
                refine fx_pop dL_law_350 rfl rfl ?_
                refine fx_aload_n dL_law_351 rfl rfl ?_
                refine fx_aload_n dL_law_352 rfl rfl ?_
                refine fx_iload_n dL_law_353 rfl rfl ?_
                refine fx_iconst (x := 1) dL_law_354 rfl (by decide) ?_
                obtain ⟨x87, hx87, h⟩ := xLet_el h
                refine fx_iadd dL_law_355 rfl hx87 ?_
                obtain ⟨hj89, h⟩ := xChk_el h
                obtain ⟨x88, hx88, h⟩ := xLet_el h
                refine fx_sload dL_law_356 rfl rfl hj89 hx88 ?_
                refine fx_aload_n dL_law_357 rfl rfl ?_
                refine fx_iload_n dL_law_358 rfl rfl ?_
                refine fx_iconst (x := 2) dL_law_359 rfl (by decide) ?_
                obtain ⟨x90, hx90, h⟩ := xLet_el h
                refine fx_iadd dL_law_360 rfl hx90 ?_
                obtain ⟨hj92, h⟩ := xChk_el h
                obtain ⟨x91, hx91, h⟩ := xLet_el h
                refine fx_sload dL_law_361 rfl rfl hj92 hx91 ?_
                obtain ⟨p93, ep93, h⟩ := xBind_el h
                refine gx_callv (as := [.int x88, .int x91]) (r := []) rfl dL_law_362 ca_13_35 rfl me_38 rfl rfl rfl rfl (hModel.1) rfl (fX12_mode_ok (d := d) (by omega) hModel ep93) rfl rfl ?_
                refine fx_pop dL_law_365 rfl rfl ?_
                refine fx_goto (t := 1390) dL_law_366 rfl rfl ?_
                exact fL_1390_ok hd ih h
              · rw [if_neg hc79] at h
                by_cases hc94 : x6 = (5 : Int32)
                · rw [if_pos hc94] at h
                  refine fx_tabIn (t := 369) dL_law_33 rfl (by rw [hc94]; decide) (by rw [hc94]; decide) (by rw [hc94]; rfl) rfl ?_
                  refine fx_aload_n dL_law_369 rfl rfl ?_
                  refine fx_aload_n dL_law_370 rfl rfl ?_
                  refine fx_iload_n dL_law_371 rfl rfl ?_
                  refine fx_iconst (x := 1) dL_law_372 rfl (by decide) ?_
                  obtain ⟨x95, hx95, h⟩ := xLet_el h
                  refine fx_iadd dL_law_373 rfl hx95 ?_
                  obtain ⟨hj97, h⟩ := xChk_el h
                  obtain ⟨x96, hx96, h⟩ := xLet_el h
                  refine fx_sload dL_law_374 rfl rfl hj97 hx96 ?_
                  obtain ⟨p98, ep98, h⟩ := xBind_el h
                  refine gx_callv (as := [.int x96]) (r := []) rfl dL_law_375 ca_13_36 rfl me_39 rfl rfl rfl rfl (hMS.1) rfl (fX11_reset_ok (d := d) (by omega) hMS ep98) rfl rfl ?_
                  refine fx_pop dL_law_378 rfl rfl ?_
                  refine fx_aload_n dL_law_379 rfl rfl ?_
                  refine fx_aload_n dL_law_380 rfl rfl ?_
                  refine fx_iload_n dL_law_381 rfl rfl ?_
                  refine fx_iconst (x := 1) dL_law_382 rfl (by decide) ?_
                  obtain ⟨x99, hx99, h⟩ := xLet_el h
                  refine fx_iadd dL_law_383 rfl hx99 ?_
                  obtain ⟨hj101, h⟩ := xChk_el h
                  obtain ⟨x100, hx100, h⟩ := xLet_el h
                  refine fx_sload dL_law_384 rfl rfl hj101 hx100 ?_
                  obtain ⟨p102, ep102, h⟩ := xBind_el h
                  refine gx_callv (as := [.int x100]) (r := []) rfl dL_law_385 ca_13_40 rfl me_40 rfl rfl rfl rfl (hModel.1) rfl (fX12_reset_ok (d := d) (by omega) hModel ep102) rfl rfl ?_
                  refine fx_pop dL_law_388 rfl rfl ?_
                  refine fx_goto (t := 1390) dL_law_389 rfl rfl ?_
                  exact fL_1390_ok hd ih h
                · rw [if_neg hc94] at h
                  by_cases hc103 : x6 = (6 : Int32)
                  · rw [if_pos hc103] at h
                    refine fx_tabIn (t := 392) dL_law_33 rfl (by rw [hc103]; decide) (by rw [hc103]; decide) (by rw [hc103]; rfl) rfl ?_
                    refine fx_aload_n dL_law_392 rfl rfl ?_
                    refine fx_aload_n dL_law_393 rfl rfl ?_
                    refine fx_iload_n dL_law_394 rfl rfl ?_
                    refine fx_iconst (x := 1) dL_law_395 rfl (by decide) ?_
                    obtain ⟨x104, hx104, h⟩ := xLet_el h
                    refine fx_iadd dL_law_396 rfl hx104 ?_
                    obtain ⟨hj106, h⟩ := xChk_el h
                    obtain ⟨x105, hx105, h⟩ := xLet_el h
                    refine fx_sload dL_law_397 rfl rfl hj106 hx105 ?_
                    refine fx_aload_n dL_law_398 rfl rfl ?_
                    refine fx_iload_n dL_law_399 rfl rfl ?_
                    refine fx_iconst (x := 2) dL_law_400 rfl (by decide) ?_
                    obtain ⟨x107, hx107, h⟩ := xLet_el h
                    refine fx_iadd dL_law_401 rfl hx107 ?_
                    obtain ⟨hj109, h⟩ := xChk_el h
                    obtain ⟨x108, hx108, h⟩ := xLet_el h
                    refine fx_sload dL_law_402 rfl rfl hj109 hx108 ?_
                    refine fx_aload_n dL_law_403 rfl rfl ?_
                    refine fx_iload_n dL_law_404 rfl rfl ?_
                    refine fx_iconst (x := 3) dL_law_405 rfl (by decide) ?_
                    obtain ⟨x110, hx110, h⟩ := xLet_el h
                    refine fx_iadd dL_law_406 rfl hx110 ?_
                    obtain ⟨hj112, h⟩ := xChk_el h
                    obtain ⟨x111, hx111, h⟩ := xLet_el h
                    refine fx_sload dL_law_407 rfl rfl hj112 hx111 ?_
                    refine fx_aload_n dL_law_408 rfl rfl ?_
                    refine fx_iload_n dL_law_409 rfl rfl ?_
                    refine fx_iconst (x := 4) dL_law_410 rfl (by decide) ?_
                    obtain ⟨x113, hx113, h⟩ := xLet_el h
                    refine fx_iadd dL_law_411 rfl hx113 ?_
                    obtain ⟨hj115, h⟩ := xChk_el h
                    obtain ⟨x114, hx114, h⟩ := xLet_el h
                    refine fx_sload dL_law_412 rfl rfl hj115 hx114 ?_
                    refine fx_aload_n dL_law_413 rfl rfl ?_
                    refine fx_iload_n dL_law_414 rfl rfl ?_
                    refine fx_iconst (x := 5) dL_law_415 rfl (by decide) ?_
                    obtain ⟨x116, hx116, h⟩ := xLet_el h
                    refine fx_iadd dL_law_416 rfl hx116 ?_
                    obtain ⟨hj118, h⟩ := xChk_el h
                    obtain ⟨x117, hx117, h⟩ := xLet_el h
                    refine fx_sload dL_law_417 rfl rfl hj118 hx117 ?_
                    refine fx_aload_n dL_law_418 rfl rfl ?_
                    refine fx_iload_n dL_law_419 rfl rfl ?_
                    refine fx_bipush (x := 6) dL_law_420 rfl (by decide) ?_
                    obtain ⟨x119, hx119, h⟩ := xLet_el h
                    refine fx_iadd dL_law_422 rfl hx119 ?_
                    obtain ⟨hj121, h⟩ := xChk_el h
                    obtain ⟨x120, hx120, h⟩ := xLet_el h
                    refine fx_sload dL_law_423 rfl rfl hj121 hx120 ?_
                    refine fx_if_eq (t := 431) dL_law_424 rfl rfl (fun hc122 => ?_) (fun hc122 => ?_)
                    · rw [if_pos hc122] at h
                      refine fx_iconst (x := 0) dL_law_431 rfl (by decide) ?_
                      exact fL_432_ok hd ih hMS h
                    · rw [if_neg hc122] at h
                      refine fx_iconst (x := 1) dL_law_427 rfl (by decide) ?_
                      refine fx_goto (t := 432) dL_law_428 rfl rfl ?_
                      exact fL_432_ok hd ih hMS h
                  · rw [if_neg hc103] at h
                    by_cases hc123 : x6 = (7 : Int32)
                    · rw [if_pos hc123] at h
                      refine fx_tabIn (t := 511) dL_law_33 rfl (by rw [hc123]; decide) (by rw [hc123]; decide) (by rw [hc123]; rfl) rfl ?_
                      refine fx_aload_n dL_law_511 rfl rfl ?_
                      refine fx_aload_n dL_law_512 rfl rfl ?_
                      refine fx_iload_n dL_law_513 rfl rfl ?_
                      refine fx_iconst (x := 1) dL_law_514 rfl (by decide) ?_
                      obtain ⟨x124, hx124, h⟩ := xLet_el h
                      refine fx_iadd dL_law_515 rfl hx124 ?_
                      obtain ⟨hj126, h⟩ := xChk_el h
                      obtain ⟨x125, hx125, h⟩ := xLet_el h
                      refine fx_sload dL_law_516 rfl rfl hj126 hx125 ?_
                      refine fx_aload_n dL_law_517 rfl rfl ?_
                      refine fx_iload_n dL_law_518 rfl rfl ?_
                      refine fx_iconst (x := 2) dL_law_519 rfl (by decide) ?_
                      obtain ⟨x127, hx127, h⟩ := xLet_el h
                      refine fx_iadd dL_law_520 rfl hx127 ?_
                      obtain ⟨hj129, h⟩ := xChk_el h
                      obtain ⟨x128, hx128, h⟩ := xLet_el h
                      refine fx_sload dL_law_521 rfl rfl hj129 hx128 ?_
                      refine fx_aload_n dL_law_522 rfl rfl ?_
                      refine fx_iload_n dL_law_523 rfl rfl ?_
                      refine fx_iconst (x := 3) dL_law_524 rfl (by decide) ?_
                      obtain ⟨x130, hx130, h⟩ := xLet_el h
                      refine fx_iadd dL_law_525 rfl hx130 ?_
                      obtain ⟨hj132, h⟩ := xChk_el h
                      obtain ⟨x131, hx131, h⟩ := xLet_el h
                      refine fx_sload dL_law_526 rfl rfl hj132 hx131 ?_
                      refine fx_aload_n dL_law_527 rfl rfl ?_
                      refine fx_iload_n dL_law_528 rfl rfl ?_
                      refine fx_iconst (x := 4) dL_law_529 rfl (by decide) ?_
                      obtain ⟨x133, hx133, h⟩ := xLet_el h
                      refine fx_iadd dL_law_530 rfl hx133 ?_
                      obtain ⟨hj135, h⟩ := xChk_el h
                      obtain ⟨x134, hx134, h⟩ := xLet_el h
                      refine fx_sload dL_law_531 rfl rfl hj135 hx134 ?_
                      refine fx_aload_n dL_law_532 rfl rfl ?_
                      refine fx_iload_n dL_law_533 rfl rfl ?_
                      refine fx_iconst (x := 5) dL_law_534 rfl (by decide) ?_
                      obtain ⟨x136, hx136, h⟩ := xLet_el h
                      refine fx_iadd dL_law_535 rfl hx136 ?_
                      obtain ⟨hj138, h⟩ := xChk_el h
                      obtain ⟨x137, hx137, h⟩ := xLet_el h
                      refine fx_sload dL_law_536 rfl rfl hj138 hx137 ?_
                      obtain ⟨p139, ep139, h⟩ := xBind_el h
                      refine gx_callv (as := [.int x125, .int x128, .int x131, .int x134, .int x137]) (r := []) rfl dL_law_537 ca_13_46 rfl me_43 rfl rfl rfl rfl (hMS.1) rfl (fX11_feed_ok (d := d) (by omega) hMS ep139) rfl rfl ?_
                      refine fx_pop dL_law_540 rfl rfl ?_
                      refine fx_aload_n dL_law_541 rfl rfl ?_
                      refine fx_aload_n dL_law_542 rfl rfl ?_
                      refine fx_iload_n dL_law_543 rfl rfl ?_
                      refine fx_iconst (x := 1) dL_law_544 rfl (by decide) ?_
                      obtain ⟨x140, hx140, h⟩ := xLet_el h
                      refine fx_iadd dL_law_545 rfl hx140 ?_
                      obtain ⟨hj142, h⟩ := xChk_el h
                      obtain ⟨x141, hx141, h⟩ := xLet_el h
                      refine fx_sload dL_law_546 rfl rfl hj142 hx141 ?_
                      refine fx_aload_n dL_law_547 rfl rfl ?_
                      refine fx_iload_n dL_law_548 rfl rfl ?_
                      refine fx_iconst (x := 2) dL_law_549 rfl (by decide) ?_
                      obtain ⟨x143, hx143, h⟩ := xLet_el h
                      refine fx_iadd dL_law_550 rfl hx143 ?_
                      obtain ⟨hj145, h⟩ := xChk_el h
                      obtain ⟨x144, hx144, h⟩ := xLet_el h
                      refine fx_sload dL_law_551 rfl rfl hj145 hx144 ?_
                      refine fx_aload_n dL_law_552 rfl rfl ?_
                      refine fx_iload_n dL_law_553 rfl rfl ?_
                      refine fx_iconst (x := 3) dL_law_554 rfl (by decide) ?_
                      obtain ⟨x146, hx146, h⟩ := xLet_el h
                      refine fx_iadd dL_law_555 rfl hx146 ?_
                      obtain ⟨hj148, h⟩ := xChk_el h
                      obtain ⟨x147, hx147, h⟩ := xLet_el h
                      refine fx_sload dL_law_556 rfl rfl hj148 hx147 ?_
                      refine fx_aload_n dL_law_557 rfl rfl ?_
                      refine fx_iload_n dL_law_558 rfl rfl ?_
                      refine fx_iconst (x := 4) dL_law_559 rfl (by decide) ?_
                      obtain ⟨x149, hx149, h⟩ := xLet_el h
                      refine fx_iadd dL_law_560 rfl hx149 ?_
                      obtain ⟨hj151, h⟩ := xChk_el h
                      obtain ⟨x150, hx150, h⟩ := xLet_el h
                      refine fx_sload dL_law_561 rfl rfl hj151 hx150 ?_
                      refine fx_aload_n dL_law_562 rfl rfl ?_
                      refine fx_iload_n dL_law_563 rfl rfl ?_
                      refine fx_iconst (x := 5) dL_law_564 rfl (by decide) ?_
                      obtain ⟨x152, hx152, h⟩ := xLet_el h
                      refine fx_iadd dL_law_565 rfl hx152 ?_
                      obtain ⟨hj154, h⟩ := xChk_el h
                      obtain ⟨x153, hx153, h⟩ := xLet_el h
                      refine fx_sload dL_law_566 rfl rfl hj154 hx153 ?_
                      obtain ⟨p155, ep155, h⟩ := xBind_el h
                      refine gx_callv (as := [.int x141, .int x144, .int x147, .int x150, .int x153]) (r := []) rfl dL_law_567 ca_13_49 rfl me_46 rfl rfl rfl rfl (hModel.1) rfl (fX12_feed_ok (d := d) (by omega) hModel ep155) rfl rfl ?_
                      refine fx_pop dL_law_570 rfl rfl ?_
                      refine fx_goto (t := 1390) dL_law_571 rfl rfl ?_
                      exact fL_1390_ok hd ih h
                    · rw [if_neg hc123] at h
                      by_cases hc156 : x6 = (8 : Int32)
                      · rw [if_pos hc156] at h
                        refine fx_tabIn (t := 574) dL_law_33 rfl (by rw [hc156]; decide) (by rw [hc156]; decide) (by rw [hc156]; rfl) rfl ?_
                        refine fx_aload_n dL_law_574 rfl rfl ?_
                        refine fx_aload_n dL_law_575 rfl rfl ?_
                        refine fx_iload_n dL_law_576 rfl rfl ?_
                        refine fx_iconst (x := 1) dL_law_577 rfl (by decide) ?_
                        obtain ⟨x157, hx157, h⟩ := xLet_el h
                        refine fx_iadd dL_law_578 rfl hx157 ?_
                        obtain ⟨hj159, h⟩ := xChk_el h
                        obtain ⟨x158, hx158, h⟩ := xLet_el h
                        refine fx_sload dL_law_579 rfl rfl hj159 hx158 ?_
                        obtain ⟨p160, ep160, h⟩ := xBind_el h
                        refine gx_callv (as := [.int x158]) (r := []) rfl dL_law_580 ca_13_50 rfl me_48 rfl rfl rfl rfl (hMS.1) rfl (fX11_end_ok (d := d) (by omega) hMS ep160) rfl rfl ?_
                        refine fx_pop dL_law_583 rfl rfl ?_
                        refine fx_aload_n dL_law_584 rfl rfl ?_
                        refine fx_aload_n dL_law_585 rfl rfl ?_
                        refine fx_iload_n dL_law_586 rfl rfl ?_
                        refine fx_iconst (x := 1) dL_law_587 rfl (by decide) ?_
                        obtain ⟨x161, hx161, h⟩ := xLet_el h
                        refine fx_iadd dL_law_588 rfl hx161 ?_
                        obtain ⟨hj163, h⟩ := xChk_el h
                        obtain ⟨x162, hx162, h⟩ := xLet_el h
                        refine fx_sload dL_law_589 rfl rfl hj163 hx162 ?_
                        obtain ⟨p164, ep164, h⟩ := xBind_el h
                        refine gx_callv (as := [.int x162]) (r := []) rfl dL_law_590 ca_13_53 rfl me_49 rfl rfl rfl rfl (hModel.1) rfl (fX12_end_ok (d := d) (by omega) hModel ep164) rfl rfl ?_
                        refine fx_pop dL_law_593 rfl rfl ?_
                        refine fx_goto (t := 1390) dL_law_594 rfl rfl ?_
                        exact fL_1390_ok hd ih h
                      · rw [if_neg hc156] at h
                        by_cases hc165 : x6 = (9 : Int32)
                        · rw [if_pos hc165] at h
                          refine fx_tabIn (t := 597) dL_law_33 rfl (by rw [hc165]; decide) (by rw [hc165]; decide) (by rw [hc165]; rfl) rfl ?_
                          refine fx_aload_n dL_law_597 rfl rfl ?_
                          obtain ⟨p166, ep166, h⟩ := xBind_el h
                          refine gx_callv (as := []) (r := []) rfl dL_law_598 ca_13_54 rfl me_50 rfl rfl rfl rfl (hMS.1) rfl (fX11_text_ok (d := d) (by omega) hMS ep166) rfl rfl ?_
                          refine fx_aload_n dL_law_601 rfl rfl ?_
                          obtain ⟨p167, ep167, h⟩ := xBind_el h
                          refine gx_callv (as := []) (r := [.int p166.1]) rfl dL_law_602 ca_13_58 rfl me_86 rfl rfl rfl rfl (hModel.1) rfl (fX12_text_ok (d := d) (by omega) hModel ep167) rfl rfl ?_
                          refine fx_icmp_eq (t := 1390) dL_law_605 rfl rfl (fun hc168 => ?_) (fun hc168 => ?_)
                          · rw [if_pos hc168] at h
                            exact fL_1390_ok hd ih h
                          · rw [if_neg hc168] at h
                            refine fx_iconst (x := 0) dL_law_608 rfl (by decide) ?_
                            cases h
                            exact fx_ireturn dL_law_609 rfl rfl
                        · rw [if_neg hc165] at h
                          by_cases hc169 : x6 = (10 : Int32)
                          · rw [if_pos hc169] at h
                            refine fx_tabIn (t := 610) dL_law_33 rfl (by rw [hc169]; decide) (by rw [hc169]; decide) (by rw [hc169]; rfl) rfl ?_
                            refine fx_aload_n dL_law_610 rfl rfl ?_
                            refine fx_aload_n dL_law_611 rfl rfl ?_
                            refine fx_iload_n dL_law_612 rfl rfl ?_
                            refine fx_iconst (x := 1) dL_law_613 rfl (by decide) ?_
                            obtain ⟨x170, hx170, h⟩ := xLet_el h
                            refine fx_iadd dL_law_614 rfl hx170 ?_
                            obtain ⟨hj172, h⟩ := xChk_el h
                            obtain ⟨x171, hx171, h⟩ := xLet_el h
                            refine fx_sload dL_law_615 rfl rfl hj172 hx171 ?_
                            obtain ⟨p173, ep173, h⟩ := xBind_el h
                            refine gx_callv (as := [.int x171]) (r := []) rfl dL_law_616 ca_13_59 rfl me_111 rfl rfl rfl rfl (hMS.1) rfl (fX11_fault_ok (d := d) (by omega) hMS ep173) rfl rfl ?_
                            refine fx_pop dL_law_619 rfl rfl ?_
                            refine fx_aload_n dL_law_620 rfl rfl ?_
                            refine fx_aload_n dL_law_621 rfl rfl ?_
                            refine fx_iload_n dL_law_622 rfl rfl ?_
                            refine fx_iconst (x := 1) dL_law_623 rfl (by decide) ?_
                            obtain ⟨x174, hx174, h⟩ := xLet_el h
                            refine fx_iadd dL_law_624 rfl hx174 ?_
                            obtain ⟨hj176, h⟩ := xChk_el h
                            obtain ⟨x175, hx175, h⟩ := xLet_el h
                            refine fx_sload dL_law_625 rfl rfl hj176 hx175 ?_
                            obtain ⟨p177, ep177, h⟩ := xBind_el h
                            refine gx_callv (as := [.int x175]) (r := []) rfl dL_law_626 ca_13_62 rfl me_112 rfl rfl rfl rfl (hModel.1) rfl (fX12_fault_ok (d := d) (by omega) hModel ep177) rfl rfl ?_
                            refine fx_pop dL_law_629 rfl rfl ?_
                            refine fx_goto (t := 1390) dL_law_630 rfl rfl ?_
                            exact fL_1390_ok hd ih h
                          · rw [if_neg hc169] at h
                            by_cases hc178 : x6 = (11 : Int32)
                            · rw [if_pos hc178] at h
                              refine fx_tabIn (t := 633) dL_law_33 rfl (by rw [hc178]; decide) (by rw [hc178]; decide) (by rw [hc178]; rfl) rfl ?_
                              refine fx_aload_n dL_law_633 rfl rfl ?_
                              refine fx_aload_n dL_law_634 rfl rfl ?_
                              refine fx_iload_n dL_law_635 rfl rfl ?_
                              refine fx_iconst (x := 1) dL_law_636 rfl (by decide) ?_
                              obtain ⟨x179, hx179, h⟩ := xLet_el h
                              refine fx_iadd dL_law_637 rfl hx179 ?_
                              obtain ⟨hj181, h⟩ := xChk_el h
                              obtain ⟨x180, hx180, h⟩ := xLet_el h
                              refine fx_sload dL_law_638 rfl rfl hj181 hx180 ?_
                              obtain ⟨p182, ep182, h⟩ := xBind_el h
                              refine gx_callv (as := [.int x180]) (r := []) rfl dL_law_639 ca_13_63 rfl me_113 rfl rfl rfl rfl (hMS.1) rfl (fX11_by_ok (d := d) (by omega) hMS ep182) rfl rfl ?_
                              refine fx_pop dL_law_642 rfl rfl ?_
                              refine fx_aload_n dL_law_643 rfl rfl ?_
                              refine fx_aload_n dL_law_644 rfl rfl ?_
                              refine fx_iload_n dL_law_645 rfl rfl ?_
                              refine fx_iconst (x := 1) dL_law_646 rfl (by decide) ?_
                              obtain ⟨x183, hx183, h⟩ := xLet_el h
                              refine fx_iadd dL_law_647 rfl hx183 ?_
                              obtain ⟨hj185, h⟩ := xChk_el h
                              obtain ⟨x184, hx184, h⟩ := xLet_el h
                              refine fx_sload dL_law_648 rfl rfl hj185 hx184 ?_
                              obtain ⟨p186, ep186, h⟩ := xBind_el h
                              refine gx_callv (as := [.int x184]) (r := []) rfl dL_law_649 ca_13_66 rfl me_114 rfl rfl rfl rfl (hModel.1) rfl (fX12_by_ok (d := d) (by omega) hModel ep186) rfl rfl ?_
                              refine fx_pop dL_law_652 rfl rfl ?_
                              refine fx_goto (t := 1390) dL_law_653 rfl rfl ?_
                              exact fL_1390_ok hd ih h
                            · rw [if_neg hc178] at h
                              by_cases hc187 : x6 = (12 : Int32)
                              · rw [if_pos hc187] at h
                                refine fx_tabIn (t := 656) dL_law_33 rfl (by rw [hc187]; decide) (by rw [hc187]; decide) (by rw [hc187]; rfl) rfl ?_
                                refine fx_aload_n dL_law_656 rfl rfl ?_
                                refine fx_aload_n dL_law_657 rfl rfl ?_
                                refine fx_iload_n dL_law_658 rfl rfl ?_
                                refine fx_iconst (x := 1) dL_law_659 rfl (by decide) ?_
                                obtain ⟨x188, hx188, h⟩ := xLet_el h
                                refine fx_iadd dL_law_660 rfl hx188 ?_
                                obtain ⟨hj190, h⟩ := xChk_el h
                                obtain ⟨x189, hx189, h⟩ := xLet_el h
                                refine fx_sload dL_law_661 rfl rfl hj190 hx189 ?_
                                obtain ⟨p191, ep191, h⟩ := xBind_el h
                                refine gx_callv (as := [.int x189]) (r := []) rfl dL_law_662 ca_13_67 rfl me_115 rfl rfl rfl rfl (hMS.1) rfl (fX11_run_ok (d := d) (by omega) hMS ep191) rfl rfl ?_
                                refine fx_pop dL_law_665 rfl rfl ?_
                                refine fx_aload_n dL_law_666 rfl rfl ?_
                                refine fx_aload_n dL_law_667 rfl rfl ?_
                                refine fx_iload_n dL_law_668 rfl rfl ?_
                                refine fx_iconst (x := 1) dL_law_669 rfl (by decide) ?_
                                obtain ⟨x192, hx192, h⟩ := xLet_el h
                                refine fx_iadd dL_law_670 rfl hx192 ?_
                                obtain ⟨hj194, h⟩ := xChk_el h
                                obtain ⟨x193, hx193, h⟩ := xLet_el h
                                refine fx_sload dL_law_671 rfl rfl hj194 hx193 ?_
                                obtain ⟨p195, ep195, h⟩ := xBind_el h
                                refine gx_callv (as := [.int x193]) (r := []) rfl dL_law_672 ca_13_70 rfl me_162 rfl rfl rfl rfl (hModel.1) rfl (fX12_run_ok (d := d) (by omega) hModel ep195) rfl rfl ?_
                                refine fx_pop dL_law_675 rfl rfl ?_
                                refine fx_goto (t := 1390) dL_law_676 rfl rfl ?_
                                exact fL_1390_ok hd ih h
                              · rw [if_neg hc187] at h
                                by_cases hc196 : x6 = (13 : Int32)
                                · rw [if_pos hc196] at h
                                  refine fx_tabIn (t := 679) dL_law_33 rfl (by rw [hc196]; decide) (by rw [hc196]; decide) (by rw [hc196]; rfl) rfl ?_
                                  refine fx_aload_n dL_law_679 rfl rfl ?_
                                  refine fx_aload_n dL_law_680 rfl rfl ?_
                                  refine fx_iload_n dL_law_681 rfl rfl ?_
                                  refine fx_iconst (x := 1) dL_law_682 rfl (by decide) ?_
                                  obtain ⟨x197, hx197, h⟩ := xLet_el h
                                  refine fx_iadd dL_law_683 rfl hx197 ?_
                                  obtain ⟨hj199, h⟩ := xChk_el h
                                  obtain ⟨x198, hx198, h⟩ := xLet_el h
                                  refine fx_sload dL_law_684 rfl rfl hj199 hx198 ?_
                                  refine fx_aload_n dL_law_685 rfl rfl ?_
                                  refine fx_iload_n dL_law_686 rfl rfl ?_
                                  refine fx_iconst (x := 2) dL_law_687 rfl (by decide) ?_
                                  obtain ⟨x200, hx200, h⟩ := xLet_el h
                                  refine fx_iadd dL_law_688 rfl hx200 ?_
                                  obtain ⟨hj202, h⟩ := xChk_el h
                                  obtain ⟨x201, hx201, h⟩ := xLet_el h
                                  refine fx_sload dL_law_689 rfl rfl hj202 hx201 ?_
                                  obtain ⟨p203, ep203, h⟩ := xBind_el h
                                  refine gx_callv (as := [.int x198, .int x201]) (r := []) rfl dL_law_690 ca_13_71 rfl me_193 rfl rfl rfl rfl (hMS.1) rfl (fX11_of_ok (d := d) (by omega) hMS ep203) rfl rfl ?_
                                  refine fx_pop dL_law_693 rfl rfl ?_
                                  refine fx_aload_n dL_law_694 rfl rfl ?_
                                  refine fx_aload_n dL_law_695 rfl rfl ?_
                                  refine fx_iload_n dL_law_696 rfl rfl ?_
                                  refine fx_iconst (x := 1) dL_law_697 rfl (by decide) ?_
                                  obtain ⟨x204, hx204, h⟩ := xLet_el h
                                  refine fx_iadd dL_law_698 rfl hx204 ?_
                                  obtain ⟨hj206, h⟩ := xChk_el h
                                  obtain ⟨x205, hx205, h⟩ := xLet_el h
                                  refine fx_sload dL_law_699 rfl rfl hj206 hx205 ?_
                                  refine fx_aload_n dL_law_700 rfl rfl ?_
                                  refine fx_iload_n dL_law_701 rfl rfl ?_
                                  refine fx_iconst (x := 2) dL_law_702 rfl (by decide) ?_
                                  obtain ⟨x207, hx207, h⟩ := xLet_el h
                                  refine fx_iadd dL_law_703 rfl hx207 ?_
                                  obtain ⟨hj209, h⟩ := xChk_el h
                                  obtain ⟨x208, hx208, h⟩ := xLet_el h
                                  refine fx_sload dL_law_704 rfl rfl hj209 hx208 ?_
                                  obtain ⟨p210, ep210, h⟩ := xBind_el h
                                  refine gx_callv (as := [.int x205, .int x208]) (r := []) rfl dL_law_705 ca_13_75 rfl me_194 rfl rfl rfl rfl (hModel.1) rfl (fX12_of_ok (d := d) (by omega) hModel ep210) rfl rfl ?_
                                  refine fx_pop dL_law_708 rfl rfl ?_
                                  refine fx_goto (t := 1390) dL_law_709 rfl rfl ?_
                                  exact fL_1390_ok hd ih h
                                · rw [if_neg hc196] at h
                                  by_cases hc211 : x6 = (14 : Int32)
                                  · rw [if_pos hc211] at h
                                    refine fx_tabIn (t := 712) dL_law_33 rfl (by rw [hc211]; decide) (by rw [hc211]; decide) (by rw [hc211]; rfl) rfl ?_
                                    refine fx_aload_n dL_law_712 rfl rfl ?_
                                    refine fx_aload_n dL_law_713 rfl rfl ?_
                                    refine fx_iload_n dL_law_714 rfl rfl ?_
                                    refine fx_iconst (x := 1) dL_law_715 rfl (by decide) ?_
                                    obtain ⟨x212, hx212, h⟩ := xLet_el h
                                    refine fx_iadd dL_law_716 rfl hx212 ?_
                                    obtain ⟨hj214, h⟩ := xChk_el h
                                    obtain ⟨x213, hx213, h⟩ := xLet_el h
                                    refine fx_sload dL_law_717 rfl rfl hj214 hx213 ?_
                                    refine fx_aload_n dL_law_718 rfl rfl ?_
                                    refine fx_iload_n dL_law_719 rfl rfl ?_
                                    refine fx_iconst (x := 2) dL_law_720 rfl (by decide) ?_
                                    obtain ⟨x215, hx215, h⟩ := xLet_el h
                                    refine fx_iadd dL_law_721 rfl hx215 ?_
                                    obtain ⟨hj217, h⟩ := xChk_el h
                                    obtain ⟨x216, hx216, h⟩ := xLet_el h
                                    refine fx_sload dL_law_722 rfl rfl hj217 hx216 ?_
                                    obtain ⟨p218, ep218, h⟩ := xBind_el h
                                    refine gx_callv (as := [.int x213, .int x216]) (r := []) rfl dL_law_723 ca_13_76 rfl me_195 rfl rfl rfl rfl (hMS.1) rfl (fX11_on_ok (d := d) (by omega) hMS ep218) rfl rfl ?_
                                    refine fx_pop dL_law_726 rfl rfl ?_
                                    refine fx_aload_n dL_law_727 rfl rfl ?_
                                    refine fx_aload_n dL_law_728 rfl rfl ?_
                                    refine fx_iload_n dL_law_729 rfl rfl ?_
                                    refine fx_iconst (x := 1) dL_law_730 rfl (by decide) ?_
                                    obtain ⟨x219, hx219, h⟩ := xLet_el h
                                    refine fx_iadd dL_law_731 rfl hx219 ?_
                                    obtain ⟨hj221, h⟩ := xChk_el h
                                    obtain ⟨x220, hx220, h⟩ := xLet_el h
                                    refine fx_sload dL_law_732 rfl rfl hj221 hx220 ?_
                                    refine fx_aload_n dL_law_733 rfl rfl ?_
                                    refine fx_iload_n dL_law_734 rfl rfl ?_
                                    refine fx_iconst (x := 2) dL_law_735 rfl (by decide) ?_
                                    obtain ⟨x222, hx222, h⟩ := xLet_el h
                                    refine fx_iadd dL_law_736 rfl hx222 ?_
                                    obtain ⟨hj224, h⟩ := xChk_el h
                                    obtain ⟨x223, hx223, h⟩ := xLet_el h
                                    refine fx_sload dL_law_737 rfl rfl hj224 hx223 ?_
                                    obtain ⟨p225, ep225, h⟩ := xBind_el h
                                    refine gx_callv (as := [.int x220, .int x223]) (r := []) rfl dL_law_738 ca_13_79 rfl me_196 rfl rfl rfl rfl (hModel.1) rfl (fX12_on_ok (d := d) (by omega) hModel ep225) rfl rfl ?_
                                    refine fx_pop dL_law_741 rfl rfl ?_
                                    refine fx_goto (t := 1390) dL_law_742 rfl rfl ?_
                                    exact fL_1390_ok hd ih h
                                  · rw [if_neg hc211] at h
                                    by_cases hc226 : x6 = (15 : Int32)
                                    · rw [if_pos hc226] at h
                                      refine fx_tabIn (t := 745) dL_law_33 rfl (by rw [hc226]; decide) (by rw [hc226]; decide) (by rw [hc226]; rfl) rfl ?_
                                      refine fx_aload_n dL_law_745 rfl rfl ?_
                                      refine fx_aload_n dL_law_746 rfl rfl ?_
                                      refine fx_iload_n dL_law_747 rfl rfl ?_
                                      refine fx_iconst (x := 1) dL_law_748 rfl (by decide) ?_
                                      obtain ⟨x227, hx227, h⟩ := xLet_el h
                                      refine fx_iadd dL_law_749 rfl hx227 ?_
                                      obtain ⟨hj229, h⟩ := xChk_el h
                                      obtain ⟨x228, hx228, h⟩ := xLet_el h
                                      refine fx_sload dL_law_750 rfl rfl hj229 hx228 ?_
                                      refine fx_aload_n dL_law_751 rfl rfl ?_
                                      refine fx_iload_n dL_law_752 rfl rfl ?_
                                      refine fx_iconst (x := 2) dL_law_753 rfl (by decide) ?_
                                      obtain ⟨x230, hx230, h⟩ := xLet_el h
                                      refine fx_iadd dL_law_754 rfl hx230 ?_
                                      obtain ⟨hj232, h⟩ := xChk_el h
                                      obtain ⟨x231, hx231, h⟩ := xLet_el h
                                      refine fx_sload dL_law_755 rfl rfl hj232 hx231 ?_
                                      refine fx_aload_n dL_law_756 rfl rfl ?_
                                      refine fx_iload_n dL_law_757 rfl rfl ?_
                                      refine fx_iconst (x := 3) dL_law_758 rfl (by decide) ?_
                                      obtain ⟨x233, hx233, h⟩ := xLet_el h
                                      refine fx_iadd dL_law_759 rfl hx233 ?_
                                      obtain ⟨hj235, h⟩ := xChk_el h
                                      obtain ⟨x234, hx234, h⟩ := xLet_el h
                                      refine fx_sload dL_law_760 rfl rfl hj235 hx234 ?_
                                      obtain ⟨p236, ep236, h⟩ := xBind_el h
                                      refine gx_callv (as := [.int x228, .int x231, .int x234]) (r := []) rfl dL_law_761 ca_13_80 rfl me_197 rfl rfl rfl rfl (hMS.1) rfl (fX11_step_ok (d := d) (by omega) hMS ep236) rfl rfl ?_
                                      refine fx_pop dL_law_764 rfl rfl ?_
                                      refine fx_aload_n dL_law_765 rfl rfl ?_
                                      refine fx_aload_n dL_law_766 rfl rfl ?_
                                      refine fx_iload_n dL_law_767 rfl rfl ?_
                                      refine fx_iconst (x := 1) dL_law_768 rfl (by decide) ?_
                                      obtain ⟨x237, hx237, h⟩ := xLet_el h
                                      refine fx_iadd dL_law_769 rfl hx237 ?_
                                      obtain ⟨hj239, h⟩ := xChk_el h
                                      obtain ⟨x238, hx238, h⟩ := xLet_el h
                                      refine fx_sload dL_law_770 rfl rfl hj239 hx238 ?_
                                      refine fx_aload_n dL_law_771 rfl rfl ?_
                                      refine fx_iload_n dL_law_772 rfl rfl ?_
                                      refine fx_iconst (x := 2) dL_law_773 rfl (by decide) ?_
                                      obtain ⟨x240, hx240, h⟩ := xLet_el h
                                      refine fx_iadd dL_law_774 rfl hx240 ?_
                                      obtain ⟨hj242, h⟩ := xChk_el h
                                      obtain ⟨x241, hx241, h⟩ := xLet_el h
                                      refine fx_sload dL_law_775 rfl rfl hj242 hx241 ?_
                                      refine fx_aload_n dL_law_776 rfl rfl ?_
                                      refine fx_iload_n dL_law_777 rfl rfl ?_
                                      refine fx_iconst (x := 3) dL_law_778 rfl (by decide) ?_
                                      obtain ⟨x243, hx243, h⟩ := xLet_el h
                                      refine fx_iadd dL_law_779 rfl hx243 ?_
                                      obtain ⟨hj245, h⟩ := xChk_el h
                                      obtain ⟨x244, hx244, h⟩ := xLet_el h
                                      refine fx_sload dL_law_780 rfl rfl hj245 hx244 ?_
                                      obtain ⟨p246, ep246, h⟩ := xBind_el h
                                      refine gx_callv (as := [.int x238, .int x241, .int x244]) (r := []) rfl dL_law_781 ca_13_84 rfl me_198 rfl rfl rfl rfl (hModel.1) rfl (fX12_step_ok (d := d) (by omega) hModel ep246) rfl rfl ?_
                                      refine fx_pop dL_law_784 rfl rfl ?_
                                      refine fx_goto (t := 1390) dL_law_785 rfl rfl ?_
                                      exact fL_1390_ok hd ih h
                                    · rw [if_neg hc226] at h
                                      by_cases hc247 : x6 = (16 : Int32)
                                      · rw [if_pos hc247] at h
                                        refine fx_tabIn (t := 788) dL_law_33 rfl (by rw [hc247]; decide) (by rw [hc247]; decide) (by rw [hc247]; rfl) rfl ?_
                                        refine fx_aload_n dL_law_788 rfl rfl ?_
                                        refine fx_aload_n dL_law_789 rfl rfl ?_
                                        refine fx_iload_n dL_law_790 rfl rfl ?_
                                        refine fx_iconst (x := 1) dL_law_791 rfl (by decide) ?_
                                        obtain ⟨x248, hx248, h⟩ := xLet_el h
                                        refine fx_iadd dL_law_792 rfl hx248 ?_
                                        obtain ⟨hj250, h⟩ := xChk_el h
                                        obtain ⟨x249, hx249, h⟩ := xLet_el h
                                        refine fx_sload dL_law_793 rfl rfl hj250 hx249 ?_
                                        refine fx_aload_n dL_law_794 rfl rfl ?_
                                        refine fx_iload_n dL_law_795 rfl rfl ?_
                                        refine fx_iconst (x := 2) dL_law_796 rfl (by decide) ?_
                                        obtain ⟨x251, hx251, h⟩ := xLet_el h
                                        refine fx_iadd dL_law_797 rfl hx251 ?_
                                        obtain ⟨hj253, h⟩ := xChk_el h
                                        obtain ⟨x252, hx252, h⟩ := xLet_el h
                                        refine fx_sload dL_law_798 rfl rfl hj253 hx252 ?_
                                        refine fx_aload_n dL_law_799 rfl rfl ?_
                                        refine fx_iload_n dL_law_800 rfl rfl ?_
                                        refine fx_iconst (x := 3) dL_law_801 rfl (by decide) ?_
                                        obtain ⟨x254, hx254, h⟩ := xLet_el h
                                        refine fx_iadd dL_law_802 rfl hx254 ?_
                                        obtain ⟨hj256, h⟩ := xChk_el h
                                        obtain ⟨x255, hx255, h⟩ := xLet_el h
                                        refine fx_sload dL_law_803 rfl rfl hj256 hx255 ?_
                                        refine fx_if_eq (t := 811) dL_law_804 rfl rfl (fun hc257 => ?_) (fun hc257 => ?_)
                                        · rw [if_pos hc257] at h
                                          refine fx_iconst (x := 0) dL_law_811 rfl (by decide) ?_
                                          exact fL_812_ok hd ih hMS h
                                        · rw [if_neg hc257] at h
                                          refine fx_iconst (x := 1) dL_law_807 rfl (by decide) ?_
                                          refine fx_goto (t := 812) dL_law_808 rfl rfl ?_
                                          exact fL_812_ok hd ih hMS h
                                      · rw [if_neg hc247] at h
                                        by_cases hc258 : x6 = (17 : Int32)
                                        · rw [if_pos hc258] at h
                                          refine fx_tabIn (t := 847) dL_law_33 rfl (by rw [hc258]; decide) (by rw [hc258]; decide) (by rw [hc258]; rfl) rfl ?_
                                          refine fx_aload_n dL_law_847 rfl rfl ?_
                                          refine fx_aload_n dL_law_848 rfl rfl ?_
                                          refine fx_iload_n dL_law_849 rfl rfl ?_
                                          refine fx_iconst (x := 1) dL_law_850 rfl (by decide) ?_
                                          obtain ⟨x259, hx259, h⟩ := xLet_el h
                                          refine fx_iadd dL_law_851 rfl hx259 ?_
                                          obtain ⟨hj261, h⟩ := xChk_el h
                                          obtain ⟨x260, hx260, h⟩ := xLet_el h
                                          refine fx_sload dL_law_852 rfl rfl hj261 hx260 ?_
                                          obtain ⟨p262, ep262, h⟩ := xBind_el h
                                          refine gx_callv (as := [.int x260]) (r := []) rfl dL_law_853 ca_13_90 rfl me_201 rfl rfl rfl rfl (hMS.1) rfl (fX11_all_ok (d := d) (by omega) hMS ep262) rfl rfl ?_
                                          refine fx_pop dL_law_856 rfl rfl ?_
                                          refine fx_aload_n dL_law_857 rfl rfl ?_
                                          refine fx_aload_n dL_law_858 rfl rfl ?_
                                          refine fx_iload_n dL_law_859 rfl rfl ?_
                                          refine fx_iconst (x := 1) dL_law_860 rfl (by decide) ?_
                                          obtain ⟨x263, hx263, h⟩ := xLet_el h
                                          refine fx_iadd dL_law_861 rfl hx263 ?_
                                          obtain ⟨hj265, h⟩ := xChk_el h
                                          obtain ⟨x264, hx264, h⟩ := xLet_el h
                                          refine fx_sload dL_law_862 rfl rfl hj265 hx264 ?_
                                          obtain ⟨p266, ep266, h⟩ := xBind_el h
                                          refine gx_callv (as := [.int x264]) (r := []) rfl dL_law_863 ca_13_93 rfl me_202 rfl rfl rfl rfl (hModel.1) rfl (fX12_all_ok (d := d) (by omega) hModel ep266) rfl rfl ?_
                                          refine fx_pop dL_law_866 rfl rfl ?_
                                          refine fx_goto (t := 1390) dL_law_867 rfl rfl ?_
                                          exact fL_1390_ok hd ih h
                                        · rw [if_neg hc258] at h
                                          by_cases hc267 : x6 = (18 : Int32)
                                          · rw [if_pos hc267] at h
                                            refine fx_tabIn (t := 870) dL_law_33 rfl (by rw [hc267]; decide) (by rw [hc267]; decide) (by rw [hc267]; rfl) rfl ?_
                                            refine fx_aload_n dL_law_870 rfl rfl ?_
                                            refine fx_aload_n dL_law_871 rfl rfl ?_
                                            refine fx_iload_n dL_law_872 rfl rfl ?_
                                            refine fx_iconst (x := 1) dL_law_873 rfl (by decide) ?_
                                            obtain ⟨x268, hx268, h⟩ := xLet_el h
                                            refine fx_iadd dL_law_874 rfl hx268 ?_
                                            obtain ⟨hj270, h⟩ := xChk_el h
                                            obtain ⟨x269, hx269, h⟩ := xLet_el h
                                            refine fx_sload dL_law_875 rfl rfl hj270 hx269 ?_
                                            refine fx_aload_n dL_law_876 rfl rfl ?_
                                            refine fx_iload_n dL_law_877 rfl rfl ?_
                                            refine fx_iconst (x := 2) dL_law_878 rfl (by decide) ?_
                                            obtain ⟨x271, hx271, h⟩ := xLet_el h
                                            refine fx_iadd dL_law_879 rfl hx271 ?_
                                            obtain ⟨hj273, h⟩ := xChk_el h
                                            obtain ⟨x272, hx272, h⟩ := xLet_el h
                                            refine fx_sload dL_law_880 rfl rfl hj273 hx272 ?_
                                            refine fx_aload_n dL_law_881 rfl rfl ?_
                                            refine fx_iload_n dL_law_882 rfl rfl ?_
                                            refine fx_iconst (x := 3) dL_law_883 rfl (by decide) ?_
                                            obtain ⟨x274, hx274, h⟩ := xLet_el h
                                            refine fx_iadd dL_law_884 rfl hx274 ?_
                                            obtain ⟨hj276, h⟩ := xChk_el h
                                            obtain ⟨x275, hx275, h⟩ := xLet_el h
                                            refine fx_sload dL_law_885 rfl rfl hj276 hx275 ?_
                                            obtain ⟨p277, ep277, h⟩ := xBind_el h
                                            refine gx_callv (as := [.int x269, .int x272, .int x275]) (r := []) rfl dL_law_886 ca_13_94 rfl me_203 rfl rfl rfl rfl (hMS.1) rfl (fX11_ways_ok (d := d) (by omega) hMS ep277) rfl rfl ?_
                                            refine fx_pop dL_law_889 rfl rfl ?_
                                            refine fx_aload_n dL_law_890 rfl rfl ?_
                                            refine fx_aload_n dL_law_891 rfl rfl ?_
                                            refine fx_iload_n dL_law_892 rfl rfl ?_
                                            refine fx_iconst (x := 1) dL_law_893 rfl (by decide) ?_
                                            obtain ⟨x278, hx278, h⟩ := xLet_el h
                                            refine fx_iadd dL_law_894 rfl hx278 ?_
                                            obtain ⟨hj280, h⟩ := xChk_el h
                                            obtain ⟨x279, hx279, h⟩ := xLet_el h
                                            refine fx_sload dL_law_895 rfl rfl hj280 hx279 ?_
                                            refine fx_aload_n dL_law_896 rfl rfl ?_
                                            refine fx_iload_n dL_law_897 rfl rfl ?_
                                            refine fx_iconst (x := 2) dL_law_898 rfl (by decide) ?_
                                            obtain ⟨x281, hx281, h⟩ := xLet_el h
                                            refine fx_iadd dL_law_899 rfl hx281 ?_
                                            obtain ⟨hj283, h⟩ := xChk_el h
                                            obtain ⟨x282, hx282, h⟩ := xLet_el h
                                            refine fx_sload dL_law_900 rfl rfl hj283 hx282 ?_
                                            refine fx_aload_n dL_law_901 rfl rfl ?_
                                            refine fx_iload_n dL_law_902 rfl rfl ?_
                                            refine fx_iconst (x := 3) dL_law_903 rfl (by decide) ?_
                                            obtain ⟨x284, hx284, h⟩ := xLet_el h
                                            refine fx_iadd dL_law_904 rfl hx284 ?_
                                            obtain ⟨hj286, h⟩ := xChk_el h
                                            obtain ⟨x285, hx285, h⟩ := xLet_el h
                                            refine fx_sload dL_law_905 rfl rfl hj286 hx285 ?_
                                            obtain ⟨p287, ep287, h⟩ := xBind_el h
                                            refine gx_callv (as := [.int x279, .int x282, .int x285]) (r := []) rfl dL_law_906 ca_13_97 rfl me_212 rfl rfl rfl rfl (hModel.1) rfl (fX12_ways_ok (d := d) (by omega) hModel ep287) rfl rfl ?_
                                            refine fx_pop dL_law_909 rfl rfl ?_
                                            refine fx_goto (t := 1390) dL_law_910 rfl rfl ?_
                                            exact fL_1390_ok hd ih h
                                          · rw [if_neg hc267] at h
                                            by_cases hc288 : x6 = (19 : Int32)
                                            · rw [if_pos hc288] at h
                                              refine fx_tabIn (t := 913) dL_law_33 rfl (by rw [hc288]; decide) (by rw [hc288]; decide) (by rw [hc288]; rfl) rfl ?_
                                              refine fx_aload_n dL_law_913 rfl rfl ?_
                                              refine fx_aload_n dL_law_914 rfl rfl ?_
                                              refine fx_iload_n dL_law_915 rfl rfl ?_
                                              refine fx_iconst (x := 1) dL_law_916 rfl (by decide) ?_
                                              obtain ⟨x289, hx289, h⟩ := xLet_el h
                                              refine fx_iadd dL_law_917 rfl hx289 ?_
                                              obtain ⟨hj291, h⟩ := xChk_el h
                                              obtain ⟨x290, hx290, h⟩ := xLet_el h
                                              refine fx_sload dL_law_918 rfl rfl hj291 hx290 ?_
                                              refine fx_aload_n dL_law_919 rfl rfl ?_
                                              refine fx_iload_n dL_law_920 rfl rfl ?_
                                              refine fx_iconst (x := 2) dL_law_921 rfl (by decide) ?_
                                              obtain ⟨x292, hx292, h⟩ := xLet_el h
                                              refine fx_iadd dL_law_922 rfl hx292 ?_
                                              obtain ⟨hj294, h⟩ := xChk_el h
                                              obtain ⟨x293, hx293, h⟩ := xLet_el h
                                              refine fx_sload dL_law_923 rfl rfl hj294 hx293 ?_
                                              refine fx_aload_n dL_law_924 rfl rfl ?_
                                              refine fx_iload_n dL_law_925 rfl rfl ?_
                                              refine fx_iconst (x := 3) dL_law_926 rfl (by decide) ?_
                                              obtain ⟨x295, hx295, h⟩ := xLet_el h
                                              refine fx_iadd dL_law_927 rfl hx295 ?_
                                              obtain ⟨hj297, h⟩ := xChk_el h
                                              obtain ⟨x296, hx296, h⟩ := xLet_el h
                                              refine fx_sload dL_law_928 rfl rfl hj297 hx296 ?_
                                              obtain ⟨p298, ep298, h⟩ := xBind_el h
                                              refine gx_callv (as := [.int x290, .int x293, .int x296]) (r := []) rfl dL_law_929 ca_13_98 rfl me_217 rfl rfl rfl rfl (hMS.1) rfl (fX11_least_ok (d := d) (by omega) hMS ep298) rfl rfl ?_
                                              refine fx_pop dL_law_932 rfl rfl ?_
                                              refine fx_aload_n dL_law_933 rfl rfl ?_
                                              refine fx_aload_n dL_law_934 rfl rfl ?_
                                              refine fx_iload_n dL_law_935 rfl rfl ?_
                                              refine fx_iconst (x := 1) dL_law_936 rfl (by decide) ?_
                                              obtain ⟨x299, hx299, h⟩ := xLet_el h
                                              refine fx_iadd dL_law_937 rfl hx299 ?_
                                              obtain ⟨hj301, h⟩ := xChk_el h
                                              obtain ⟨x300, hx300, h⟩ := xLet_el h
                                              refine fx_sload dL_law_938 rfl rfl hj301 hx300 ?_
                                              refine fx_aload_n dL_law_939 rfl rfl ?_
                                              refine fx_iload_n dL_law_940 rfl rfl ?_
                                              refine fx_iconst (x := 2) dL_law_941 rfl (by decide) ?_
                                              obtain ⟨x302, hx302, h⟩ := xLet_el h
                                              refine fx_iadd dL_law_942 rfl hx302 ?_
                                              obtain ⟨hj304, h⟩ := xChk_el h
                                              obtain ⟨x303, hx303, h⟩ := xLet_el h
                                              refine fx_sload dL_law_943 rfl rfl hj304 hx303 ?_
                                              refine fx_aload_n dL_law_944 rfl rfl ?_
                                              refine fx_iload_n dL_law_945 rfl rfl ?_
                                              refine fx_iconst (x := 3) dL_law_946 rfl (by decide) ?_
                                              obtain ⟨x305, hx305, h⟩ := xLet_el h
                                              refine fx_iadd dL_law_947 rfl hx305 ?_
                                              obtain ⟨hj307, h⟩ := xChk_el h
                                              obtain ⟨x306, hx306, h⟩ := xLet_el h
                                              refine fx_sload dL_law_948 rfl rfl hj307 hx306 ?_
                                              obtain ⟨p308, ep308, h⟩ := xBind_el h
                                              refine gx_callv (as := [.int x300, .int x303, .int x306]) (r := []) rfl dL_law_949 ca_13_101 rfl me_220 rfl rfl rfl rfl (hModel.1) rfl (fX12_least_ok (d := d) (by omega) hModel ep308) rfl rfl ?_
                                              refine fx_pop dL_law_952 rfl rfl ?_
                                              refine fx_goto (t := 1390) dL_law_953 rfl rfl ?_
                                              exact fL_1390_ok hd ih h
                                            · rw [if_neg hc288] at h
                                              by_cases hc309 : x6 = (20 : Int32)
                                              · rw [if_pos hc309] at h
                                                refine fx_tabIn (t := 956) dL_law_33 rfl (by rw [hc309]; decide) (by rw [hc309]; decide) (by rw [hc309]; rfl) rfl ?_
                                                refine fx_aload_n dL_law_956 rfl rfl ?_
                                                refine fx_aload_n dL_law_957 rfl rfl ?_
                                                refine fx_iload_n dL_law_958 rfl rfl ?_
                                                refine fx_iconst (x := 1) dL_law_959 rfl (by decide) ?_
                                                obtain ⟨x310, hx310, h⟩ := xLet_el h
                                                refine fx_iadd dL_law_960 rfl hx310 ?_
                                                obtain ⟨hj312, h⟩ := xChk_el h
                                                obtain ⟨x311, hx311, h⟩ := xLet_el h
                                                refine fx_sload dL_law_961 rfl rfl hj312 hx311 ?_
                                                refine fx_aload_n dL_law_962 rfl rfl ?_
                                                refine fx_iload_n dL_law_963 rfl rfl ?_
                                                refine fx_iconst (x := 2) dL_law_964 rfl (by decide) ?_
                                                obtain ⟨x313, hx313, h⟩ := xLet_el h
                                                refine fx_iadd dL_law_965 rfl hx313 ?_
                                                obtain ⟨hj315, h⟩ := xChk_el h
                                                obtain ⟨x314, hx314, h⟩ := xLet_el h
                                                refine fx_sload dL_law_966 rfl rfl hj315 hx314 ?_
                                                obtain ⟨p316, ep316, h⟩ := xBind_el h
                                                refine gx_callv (as := [.int x311, .int x314]) (r := []) rfl dL_law_967 ca_13_102 rfl me_221 rfl rfl rfl rfl (hMS.1) rfl (fX11_felt_ok (d := d) (by omega) hMS ep316) rfl rfl ?_
                                                refine fx_pop dL_law_970 rfl rfl ?_
                                                refine fx_aload_n dL_law_971 rfl rfl ?_
                                                refine fx_aload_n dL_law_972 rfl rfl ?_
                                                refine fx_iload_n dL_law_973 rfl rfl ?_
                                                refine fx_iconst (x := 1) dL_law_974 rfl (by decide) ?_
                                                obtain ⟨x317, hx317, h⟩ := xLet_el h
                                                refine fx_iadd dL_law_975 rfl hx317 ?_
                                                obtain ⟨hj319, h⟩ := xChk_el h
                                                obtain ⟨x318, hx318, h⟩ := xLet_el h
                                                refine fx_sload dL_law_976 rfl rfl hj319 hx318 ?_
                                                refine fx_aload_n dL_law_977 rfl rfl ?_
                                                refine fx_iload_n dL_law_978 rfl rfl ?_
                                                refine fx_iconst (x := 2) dL_law_979 rfl (by decide) ?_
                                                obtain ⟨x320, hx320, h⟩ := xLet_el h
                                                refine fx_iadd dL_law_980 rfl hx320 ?_
                                                obtain ⟨hj322, h⟩ := xChk_el h
                                                obtain ⟨x321, hx321, h⟩ := xLet_el h
                                                refine fx_sload dL_law_981 rfl rfl hj322 hx321 ?_
                                                obtain ⟨p323, ep323, h⟩ := xBind_el h
                                                refine gx_callv (as := [.int x318, .int x321]) (r := []) rfl dL_law_982 ca_13_105 rfl me_222 rfl rfl rfl rfl (hModel.1) rfl (fX12_felt_ok (d := d) (by omega) hModel ep323) rfl rfl ?_
                                                refine fx_pop dL_law_985 rfl rfl ?_
                                                refine fx_goto (t := 1390) dL_law_986 rfl rfl ?_
                                                exact fL_1390_ok hd ih h
                                              · rw [if_neg hc309] at h
                                                by_cases hc324 : x6 = (21 : Int32)
                                                · rw [if_pos hc324] at h
                                                  refine fx_tabIn (t := 989) dL_law_33 rfl (by rw [hc324]; decide) (by rw [hc324]; decide) (by rw [hc324]; rfl) rfl ?_
                                                  refine fx_aload_n dL_law_989 rfl rfl ?_
                                                  refine fx_aload_n dL_law_990 rfl rfl ?_
                                                  refine fx_iload_n dL_law_991 rfl rfl ?_
                                                  refine fx_iconst (x := 1) dL_law_992 rfl (by decide) ?_
                                                  obtain ⟨x325, hx325, h⟩ := xLet_el h
                                                  refine fx_iadd dL_law_993 rfl hx325 ?_
                                                  obtain ⟨hj327, h⟩ := xChk_el h
                                                  obtain ⟨x326, hx326, h⟩ := xLet_el h
                                                  refine fx_sload dL_law_994 rfl rfl hj327 hx326 ?_
                                                  refine fx_aload_n dL_law_995 rfl rfl ?_
                                                  refine fx_iload_n dL_law_996 rfl rfl ?_
                                                  refine fx_iconst (x := 2) dL_law_997 rfl (by decide) ?_
                                                  obtain ⟨x328, hx328, h⟩ := xLet_el h
                                                  refine fx_iadd dL_law_998 rfl hx328 ?_
                                                  obtain ⟨hj330, h⟩ := xChk_el h
                                                  obtain ⟨x329, hx329, h⟩ := xLet_el h
                                                  refine fx_sload dL_law_999 rfl rfl hj330 hx329 ?_
                                                  obtain ⟨p331, ep331, h⟩ := xBind_el h
                                                  refine gx_callv (as := [.int x326, .int x329]) (r := []) rfl dL_law_1000 ca_13_106 rfl me_224 rfl rfl rfl rfl (hMS.1) rfl (fX11_standing_ok (d := d) (by omega) hMS ep331) rfl rfl ?_
                                                  refine fx_pop dL_law_1003 rfl rfl ?_
                                                  refine fx_aload_n dL_law_1004 rfl rfl ?_
                                                  refine fx_aload_n dL_law_1005 rfl rfl ?_
                                                  refine fx_iload_n dL_law_1006 rfl rfl ?_
                                                  refine fx_iconst (x := 1) dL_law_1007 rfl (by decide) ?_
                                                  obtain ⟨x332, hx332, h⟩ := xLet_el h
                                                  refine fx_iadd dL_law_1008 rfl hx332 ?_
                                                  obtain ⟨hj334, h⟩ := xChk_el h
                                                  obtain ⟨x333, hx333, h⟩ := xLet_el h
                                                  refine fx_sload dL_law_1009 rfl rfl hj334 hx333 ?_
                                                  refine fx_aload_n dL_law_1010 rfl rfl ?_
                                                  refine fx_iload_n dL_law_1011 rfl rfl ?_
                                                  refine fx_iconst (x := 2) dL_law_1012 rfl (by decide) ?_
                                                  obtain ⟨x335, hx335, h⟩ := xLet_el h
                                                  refine fx_iadd dL_law_1013 rfl hx335 ?_
                                                  obtain ⟨hj337, h⟩ := xChk_el h
                                                  obtain ⟨x336, hx336, h⟩ := xLet_el h
                                                  refine fx_sload dL_law_1014 rfl rfl hj337 hx336 ?_
                                                  obtain ⟨p338, ep338, h⟩ := xBind_el h
                                                  refine gx_callv (as := [.int x333, .int x336]) (r := []) rfl dL_law_1015 ca_13_109 rfl me_226 rfl rfl rfl rfl (hModel.1) rfl (fX12_standing_ok (d := d) (by omega) hModel ep338) rfl rfl ?_
                                                  refine fx_pop dL_law_1018 rfl rfl ?_
                                                  refine fx_goto (t := 1390) dL_law_1019 rfl rfl ?_
                                                  exact fL_1390_ok hd ih h
                                                · rw [if_neg hc324] at h
                                                  by_cases hc339 : x6 = (22 : Int32)
                                                  · rw [if_pos hc339] at h
                                                    refine fx_tabIn (t := 1022) dL_law_33 rfl (by rw [hc339]; decide) (by rw [hc339]; decide) (by rw [hc339]; rfl) rfl ?_
                                                    refine fx_aload_n dL_law_1022 rfl rfl ?_
                                                    refine fx_aload_n dL_law_1023 rfl rfl ?_
                                                    refine fx_iload_n dL_law_1024 rfl rfl ?_
                                                    refine fx_iconst (x := 1) dL_law_1025 rfl (by decide) ?_
                                                    obtain ⟨x340, hx340, h⟩ := xLet_el h
                                                    refine fx_iadd dL_law_1026 rfl hx340 ?_
                                                    obtain ⟨hj342, h⟩ := xChk_el h
                                                    obtain ⟨x341, hx341, h⟩ := xLet_el h
                                                    refine fx_sload dL_law_1027 rfl rfl hj342 hx341 ?_
                                                    refine fx_aload_n dL_law_1028 rfl rfl ?_
                                                    refine fx_iload_n dL_law_1029 rfl rfl ?_
                                                    refine fx_iconst (x := 2) dL_law_1030 rfl (by decide) ?_
                                                    obtain ⟨x343, hx343, h⟩ := xLet_el h
                                                    refine fx_iadd dL_law_1031 rfl hx343 ?_
                                                    obtain ⟨hj345, h⟩ := xChk_el h
                                                    obtain ⟨x344, hx344, h⟩ := xLet_el h
                                                    refine fx_sload dL_law_1032 rfl rfl hj345 hx344 ?_
                                                    refine fx_aload_n dL_law_1033 rfl rfl ?_
                                                    refine fx_iload_n dL_law_1034 rfl rfl ?_
                                                    refine fx_iconst (x := 3) dL_law_1035 rfl (by decide) ?_
                                                    obtain ⟨x346, hx346, h⟩ := xLet_el h
                                                    refine fx_iadd dL_law_1036 rfl hx346 ?_
                                                    obtain ⟨hj348, h⟩ := xChk_el h
                                                    obtain ⟨x347, hx347, h⟩ := xLet_el h
                                                    refine fx_sload dL_law_1037 rfl rfl hj348 hx347 ?_
                                                    refine fx_aload_n dL_law_1038 rfl rfl ?_
                                                    refine fx_iload_n dL_law_1039 rfl rfl ?_
                                                    refine fx_iconst (x := 4) dL_law_1040 rfl (by decide) ?_
                                                    obtain ⟨x349, hx349, h⟩ := xLet_el h
                                                    refine fx_iadd dL_law_1041 rfl hx349 ?_
                                                    obtain ⟨hj351, h⟩ := xChk_el h
                                                    obtain ⟨x350, hx350, h⟩ := xLet_el h
                                                    refine fx_sload dL_law_1042 rfl rfl hj351 hx350 ?_
                                                    obtain ⟨p352, ep352, h⟩ := xBind_el h
                                                    refine gx_callv (as := [.int x341, .int x344, .int x347, .int x350]) (r := []) rfl dL_law_1043 ca_13_110 rfl me_227 rfl rfl rfl rfl (hMS.1) rfl (fX11_alone_ok (d := d) (by omega) hMS ep352) rfl rfl ?_
                                                    refine fx_pop dL_law_1046 rfl rfl ?_
                                                    refine fx_aload_n dL_law_1047 rfl rfl ?_
                                                    refine fx_aload_n dL_law_1048 rfl rfl ?_
                                                    refine fx_iload_n dL_law_1049 rfl rfl ?_
                                                    refine fx_iconst (x := 1) dL_law_1050 rfl (by decide) ?_
                                                    obtain ⟨x353, hx353, h⟩ := xLet_el h
                                                    refine fx_iadd dL_law_1051 rfl hx353 ?_
                                                    obtain ⟨hj355, h⟩ := xChk_el h
                                                    obtain ⟨x354, hx354, h⟩ := xLet_el h
                                                    refine fx_sload dL_law_1052 rfl rfl hj355 hx354 ?_
                                                    refine fx_aload_n dL_law_1053 rfl rfl ?_
                                                    refine fx_iload_n dL_law_1054 rfl rfl ?_
                                                    refine fx_iconst (x := 2) dL_law_1055 rfl (by decide) ?_
                                                    obtain ⟨x356, hx356, h⟩ := xLet_el h
                                                    refine fx_iadd dL_law_1056 rfl hx356 ?_
                                                    obtain ⟨hj358, h⟩ := xChk_el h
                                                    obtain ⟨x357, hx357, h⟩ := xLet_el h
                                                    refine fx_sload dL_law_1057 rfl rfl hj358 hx357 ?_
                                                    refine fx_aload_n dL_law_1058 rfl rfl ?_
                                                    refine fx_iload_n dL_law_1059 rfl rfl ?_
                                                    refine fx_iconst (x := 3) dL_law_1060 rfl (by decide) ?_
                                                    obtain ⟨x359, hx359, h⟩ := xLet_el h
                                                    refine fx_iadd dL_law_1061 rfl hx359 ?_
                                                    obtain ⟨hj361, h⟩ := xChk_el h
                                                    obtain ⟨x360, hx360, h⟩ := xLet_el h
                                                    refine fx_sload dL_law_1062 rfl rfl hj361 hx360 ?_
                                                    refine fx_aload_n dL_law_1063 rfl rfl ?_
                                                    refine fx_iload_n dL_law_1064 rfl rfl ?_
                                                    refine fx_iconst (x := 4) dL_law_1065 rfl (by decide) ?_
                                                    obtain ⟨x362, hx362, h⟩ := xLet_el h
                                                    refine fx_iadd dL_law_1066 rfl hx362 ?_
                                                    obtain ⟨hj364, h⟩ := xChk_el h
                                                    obtain ⟨x363, hx363, h⟩ := xLet_el h
                                                    refine fx_sload dL_law_1067 rfl rfl hj364 hx363 ?_
                                                    obtain ⟨p365, ep365, h⟩ := xBind_el h
                                                    refine gx_callv (as := [.int x354, .int x357, .int x360, .int x363]) (r := []) rfl dL_law_1068 ca_13_114 rfl me_231 rfl rfl rfl rfl (hModel.1) rfl (fX12_alone_ok (d := d) (by omega) hModel ep365) rfl rfl ?_
                                                    refine fx_pop dL_law_1071 rfl rfl ?_
                                                    refine fx_goto (t := 1390) dL_law_1072 rfl rfl ?_
                                                    exact fL_1390_ok hd ih h
                                                  · rw [if_neg hc339] at h
                                                    by_cases hc366 : x6 = (23 : Int32)
                                                    · rw [if_pos hc366] at h
                                                      refine fx_tabIn (t := 1075) dL_law_33 rfl (by rw [hc366]; decide) (by rw [hc366]; decide) (by rw [hc366]; rfl) rfl ?_
                                                      refine fx_aload_n dL_law_1075 rfl rfl ?_
                                                      refine fx_aload_n dL_law_1076 rfl rfl ?_
                                                      refine fx_iload_n dL_law_1077 rfl rfl ?_
                                                      refine fx_iconst (x := 1) dL_law_1078 rfl (by decide) ?_
                                                      obtain ⟨x367, hx367, h⟩ := xLet_el h
                                                      refine fx_iadd dL_law_1079 rfl hx367 ?_
                                                      obtain ⟨hj369, h⟩ := xChk_el h
                                                      obtain ⟨x368, hx368, h⟩ := xLet_el h
                                                      refine fx_sload dL_law_1080 rfl rfl hj369 hx368 ?_
                                                      refine fx_aload_n dL_law_1081 rfl rfl ?_
                                                      refine fx_iload_n dL_law_1082 rfl rfl ?_
                                                      refine fx_iconst (x := 2) dL_law_1083 rfl (by decide) ?_
                                                      obtain ⟨x370, hx370, h⟩ := xLet_el h
                                                      refine fx_iadd dL_law_1084 rfl hx370 ?_
                                                      obtain ⟨hj372, h⟩ := xChk_el h
                                                      obtain ⟨x371, hx371, h⟩ := xLet_el h
                                                      refine fx_sload dL_law_1085 rfl rfl hj372 hx371 ?_
                                                      obtain ⟨p373, ep373, h⟩ := xBind_el h
                                                      refine gx_callv (as := [.int x368, .int x371]) (r := []) rfl dL_law_1086 ca_13_115 rfl me_234 rfl rfl rfl rfl (hMS.1) rfl (fX11_crossing_ok (d := d) (by omega) hMS ep373) rfl rfl ?_
                                                      refine fx_pop dL_law_1089 rfl rfl ?_
                                                      refine fx_aload_n dL_law_1090 rfl rfl ?_
                                                      refine fx_aload_n dL_law_1091 rfl rfl ?_
                                                      refine fx_iload_n dL_law_1092 rfl rfl ?_
                                                      refine fx_iconst (x := 1) dL_law_1093 rfl (by decide) ?_
                                                      obtain ⟨x374, hx374, h⟩ := xLet_el h
                                                      refine fx_iadd dL_law_1094 rfl hx374 ?_
                                                      obtain ⟨hj376, h⟩ := xChk_el h
                                                      obtain ⟨x375, hx375, h⟩ := xLet_el h
                                                      refine fx_sload dL_law_1095 rfl rfl hj376 hx375 ?_
                                                      refine fx_aload_n dL_law_1096 rfl rfl ?_
                                                      refine fx_iload_n dL_law_1097 rfl rfl ?_
                                                      refine fx_iconst (x := 2) dL_law_1098 rfl (by decide) ?_
                                                      obtain ⟨x377, hx377, h⟩ := xLet_el h
                                                      refine fx_iadd dL_law_1099 rfl hx377 ?_
                                                      obtain ⟨hj379, h⟩ := xChk_el h
                                                      obtain ⟨x378, hx378, h⟩ := xLet_el h
                                                      refine fx_sload dL_law_1100 rfl rfl hj379 hx378 ?_
                                                      obtain ⟨p380, ep380, h⟩ := xBind_el h
                                                      refine gx_callv (as := [.int x375, .int x378]) (r := []) rfl dL_law_1101 ca_13_118 rfl me_235 rfl rfl rfl rfl (hModel.1) rfl (fX12_crossing_ok (d := d) (by omega) hModel ep380) rfl rfl ?_
                                                      refine fx_pop dL_law_1104 rfl rfl ?_
                                                      refine fx_goto (t := 1390) dL_law_1105 rfl rfl ?_
                                                      exact fL_1390_ok hd ih h
                                                    · rw [if_neg hc366] at h
                                                      by_cases hc381 : x6 = (24 : Int32)
                                                      · rw [if_pos hc381] at h
                                                        refine fx_tabIn (t := 1108) dL_law_33 rfl (by rw [hc381]; decide) (by rw [hc381]; decide) (by rw [hc381]; rfl) rfl ?_
                                                        refine fx_aload_n dL_law_1108 rfl rfl ?_
                                                        refine fx_aload_n dL_law_1109 rfl rfl ?_
                                                        refine fx_iload_n dL_law_1110 rfl rfl ?_
                                                        refine fx_iconst (x := 1) dL_law_1111 rfl (by decide) ?_
                                                        obtain ⟨x382, hx382, h⟩ := xLet_el h
                                                        refine fx_iadd dL_law_1112 rfl hx382 ?_
                                                        obtain ⟨hj384, h⟩ := xChk_el h
                                                        obtain ⟨x383, hx383, h⟩ := xLet_el h
                                                        refine fx_sload dL_law_1113 rfl rfl hj384 hx383 ?_
                                                        refine fx_if_eq (t := 1121) dL_law_1114 rfl rfl (fun hc385 => ?_) (fun hc385 => ?_)
                                                        · rw [if_pos hc385] at h
                                                          refine fx_iconst (x := 0) dL_law_1121 rfl (by decide) ?_
                                                          exact fL_1122_ok hd ih hMS h
                                                        · rw [if_neg hc385] at h
                                                          refine fx_iconst (x := 1) dL_law_1117 rfl (by decide) ?_
                                                          refine fx_goto (t := 1122) dL_law_1118 rfl rfl ?_
                                                          exact fL_1122_ok hd ih hMS h
                                                      · rw [if_neg hc381] at h
                                                        by_cases hc386 : x6 = (25 : Int32)
                                                        · rw [if_pos hc386] at h
                                                          refine fx_tabIn (t := 1167) dL_law_33 rfl (by rw [hc386]; decide) (by rw [hc386]; decide) (by rw [hc386]; rfl) rfl ?_
                                                          refine fx_aload_n dL_law_1167 rfl rfl ?_
                                                          obtain ⟨p387, ep387, h⟩ := xBind_el h
                                                          refine gx_callv (as := []) (r := []) rfl dL_law_1168 ca_13_124 rfl me_239 rfl rfl rfl rfl (hMS.1) rfl (fX11_effect_ok (d := d) (by omega) hMS ep387) rfl rfl ?_
                                                          refine fx_pop dL_law_1171 rfl rfl ?_
                                                          refine fx_aload_n dL_law_1172 rfl rfl ?_
                                                          obtain ⟨p388, ep388, h⟩ := xBind_el h
                                                          refine gx_callv (as := []) (r := []) rfl dL_law_1173 ca_13_127 rfl me_241 rfl rfl rfl rfl (hModel.1) rfl (fX12_effect_ok (d := d) (by omega) hModel ep388) rfl rfl ?_
                                                          refine fx_pop dL_law_1176 rfl rfl ?_
                                                          refine fx_goto (t := 1390) dL_law_1177 rfl rfl ?_
                                                          exact fL_1390_ok hd ih h
                                                        · rw [if_neg hc386] at h
                                                          by_cases hc389 : x6 = (26 : Int32)
                                                          · rw [if_pos hc389] at h
                                                            refine fx_tabIn (t := 1180) dL_law_33 rfl (by rw [hc389]; decide) (by rw [hc389]; decide) (by rw [hc389]; rfl) rfl ?_
                                                            refine fx_aload_n dL_law_1180 rfl rfl ?_
                                                            refine fx_aload_n dL_law_1181 rfl rfl ?_
                                                            refine fx_iload_n dL_law_1182 rfl rfl ?_
                                                            refine fx_iconst (x := 1) dL_law_1183 rfl (by decide) ?_
                                                            obtain ⟨x390, hx390, h⟩ := xLet_el h
                                                            refine fx_iadd dL_law_1184 rfl hx390 ?_
                                                            obtain ⟨hj392, h⟩ := xChk_el h
                                                            obtain ⟨x391, hx391, h⟩ := xLet_el h
                                                            refine fx_sload dL_law_1185 rfl rfl hj392 hx391 ?_
                                                            refine fx_aload_n dL_law_1186 rfl rfl ?_
                                                            refine fx_iload_n dL_law_1187 rfl rfl ?_
                                                            refine fx_iconst (x := 2) dL_law_1188 rfl (by decide) ?_
                                                            obtain ⟨x393, hx393, h⟩ := xLet_el h
                                                            refine fx_iadd dL_law_1189 rfl hx393 ?_
                                                            obtain ⟨hj395, h⟩ := xChk_el h
                                                            obtain ⟨x394, hx394, h⟩ := xLet_el h
                                                            refine fx_sload dL_law_1190 rfl rfl hj395 hx394 ?_
                                                            refine fx_aload_n dL_law_1191 rfl rfl ?_
                                                            refine fx_iload_n dL_law_1192 rfl rfl ?_
                                                            refine fx_iconst (x := 3) dL_law_1193 rfl (by decide) ?_
                                                            obtain ⟨x396, hx396, h⟩ := xLet_el h
                                                            refine fx_iadd dL_law_1194 rfl hx396 ?_
                                                            obtain ⟨hj398, h⟩ := xChk_el h
                                                            obtain ⟨x397, hx397, h⟩ := xLet_el h
                                                            refine fx_sload dL_law_1195 rfl rfl hj398 hx397 ?_
                                                            refine fx_aload_n dL_law_1196 rfl rfl ?_
                                                            refine fx_iload_n dL_law_1197 rfl rfl ?_
                                                            refine fx_iconst (x := 4) dL_law_1198 rfl (by decide) ?_
                                                            obtain ⟨x399, hx399, h⟩ := xLet_el h
                                                            refine fx_iadd dL_law_1199 rfl hx399 ?_
                                                            obtain ⟨hj401, h⟩ := xChk_el h
                                                            obtain ⟨x400, hx400, h⟩ := xLet_el h
                                                            refine fx_sload dL_law_1200 rfl rfl hj401 hx400 ?_
                                                            obtain ⟨p402, ep402, h⟩ := xBind_el h
                                                            refine gx_callv (as := [.int x391, .int x394, .int x397, .int x400]) (r := []) rfl dL_law_1201 ca_13_128 rfl me_243 rfl rfl rfl rfl (hMS.1) rfl (fX11_mend_ok (d := d) (by omega) hMS ep402) rfl rfl ?_
                                                            refine fx_pop dL_law_1204 rfl rfl ?_
                                                            refine fx_aload_n dL_law_1205 rfl rfl ?_
                                                            refine fx_aload_n dL_law_1206 rfl rfl ?_
                                                            refine fx_iload_n dL_law_1207 rfl rfl ?_
                                                            refine fx_iconst (x := 1) dL_law_1208 rfl (by decide) ?_
                                                            obtain ⟨x403, hx403, h⟩ := xLet_el h
                                                            refine fx_iadd dL_law_1209 rfl hx403 ?_
                                                            obtain ⟨hj405, h⟩ := xChk_el h
                                                            obtain ⟨x404, hx404, h⟩ := xLet_el h
                                                            refine fx_sload dL_law_1210 rfl rfl hj405 hx404 ?_
                                                            refine fx_aload_n dL_law_1211 rfl rfl ?_
                                                            refine fx_iload_n dL_law_1212 rfl rfl ?_
                                                            refine fx_iconst (x := 2) dL_law_1213 rfl (by decide) ?_
                                                            obtain ⟨x406, hx406, h⟩ := xLet_el h
                                                            refine fx_iadd dL_law_1214 rfl hx406 ?_
                                                            obtain ⟨hj408, h⟩ := xChk_el h
                                                            obtain ⟨x407, hx407, h⟩ := xLet_el h
                                                            refine fx_sload dL_law_1215 rfl rfl hj408 hx407 ?_
                                                            refine fx_aload_n dL_law_1216 rfl rfl ?_
                                                            refine fx_iload_n dL_law_1217 rfl rfl ?_
                                                            refine fx_iconst (x := 3) dL_law_1218 rfl (by decide) ?_
                                                            obtain ⟨x409, hx409, h⟩ := xLet_el h
                                                            refine fx_iadd dL_law_1219 rfl hx409 ?_
                                                            obtain ⟨hj411, h⟩ := xChk_el h
                                                            obtain ⟨x410, hx410, h⟩ := xLet_el h
                                                            refine fx_sload dL_law_1220 rfl rfl hj411 hx410 ?_
                                                            refine fx_aload_n dL_law_1221 rfl rfl ?_
                                                            refine fx_iload_n dL_law_1222 rfl rfl ?_
                                                            refine fx_iconst (x := 4) dL_law_1223 rfl (by decide) ?_
                                                            obtain ⟨x412, hx412, h⟩ := xLet_el h
                                                            refine fx_iadd dL_law_1224 rfl hx412 ?_
                                                            obtain ⟨hj414, h⟩ := xChk_el h
                                                            obtain ⟨x413, hx413, h⟩ := xLet_el h
                                                            refine fx_sload dL_law_1225 rfl rfl hj414 hx413 ?_
                                                            obtain ⟨p415, ep415, h⟩ := xBind_el h
                                                            refine gx_callv (as := [.int x404, .int x407, .int x410, .int x413]) (r := []) rfl dL_law_1226 ca_13_131 rfl me_245 rfl rfl rfl rfl (hModel.1) rfl (fX12_mend_ok (d := d) (by omega) hModel ep415) rfl rfl ?_
                                                            refine fx_pop dL_law_1229 rfl rfl ?_
                                                            refine fx_goto (t := 1390) dL_law_1230 rfl rfl ?_
                                                            exact fL_1390_ok hd ih h
                                                          · rw [if_neg hc389] at h
                                                            by_cases hc416 : x6 = (27 : Int32)
                                                            · rw [if_pos hc416] at h
                                                              refine fx_tabIn (t := 1233) dL_law_33 rfl (by rw [hc416]; decide) (by rw [hc416]; decide) (by rw [hc416]; rfl) rfl ?_
                                                              refine fx_aload_n dL_law_1233 rfl rfl ?_
                                                              refine fx_aload_n dL_law_1234 rfl rfl ?_
                                                              refine fx_iload_n dL_law_1235 rfl rfl ?_
                                                              refine fx_iconst (x := 1) dL_law_1236 rfl (by decide) ?_
                                                              obtain ⟨x417, hx417, h⟩ := xLet_el h
                                                              refine fx_iadd dL_law_1237 rfl hx417 ?_
                                                              obtain ⟨hj419, h⟩ := xChk_el h
                                                              obtain ⟨x418, hx418, h⟩ := xLet_el h
                                                              refine fx_sload dL_law_1238 rfl rfl hj419 hx418 ?_
                                                              obtain ⟨p420, ep420, h⟩ := xBind_el h
                                                              refine gx_callv (as := [.int x418]) (r := []) rfl dL_law_1239 ca_13_132 rfl me_246 rfl rfl rfl rfl (hMS.1) rfl (fX11_order_ok (d := d) (by omega) hMS ep420) rfl rfl ?_
                                                              refine fx_pop dL_law_1242 rfl rfl ?_
                                                              refine fx_aload_n dL_law_1243 rfl rfl ?_
                                                              refine fx_aload_n dL_law_1244 rfl rfl ?_
                                                              refine fx_iload_n dL_law_1245 rfl rfl ?_
                                                              refine fx_iconst (x := 1) dL_law_1246 rfl (by decide) ?_
                                                              obtain ⟨x421, hx421, h⟩ := xLet_el h
                                                              refine fx_iadd dL_law_1247 rfl hx421 ?_
                                                              obtain ⟨hj423, h⟩ := xChk_el h
                                                              obtain ⟨x422, hx422, h⟩ := xLet_el h
                                                              refine fx_sload dL_law_1248 rfl rfl hj423 hx422 ?_
                                                              obtain ⟨p424, ep424, h⟩ := xBind_el h
                                                              refine gx_callv (as := [.int x422]) (r := []) rfl dL_law_1249 ca_13_135 rfl me_251 rfl rfl rfl rfl (hModel.1) rfl (fX12_order_ok (d := d) (by omega) hModel ep424) rfl rfl ?_
                                                              refine fx_pop dL_law_1252 rfl rfl ?_
                                                              refine fx_goto (t := 1390) dL_law_1253 rfl rfl ?_
                                                              exact fL_1390_ok hd ih h
                                                            · rw [if_neg hc416] at h
                                                              by_cases hc425 : x6 = (28 : Int32)
                                                              · rw [if_pos hc425] at h
                                                                refine fx_tabIn (t := 1256) dL_law_33 rfl (by rw [hc425]; decide) (by rw [hc425]; decide) (by rw [hc425]; rfl) rfl ?_
                                                                refine fx_aload_n dL_law_1256 rfl rfl ?_
                                                                refine fx_aload_n dL_law_1257 rfl rfl ?_
                                                                refine fx_iload_n dL_law_1258 rfl rfl ?_
                                                                refine fx_iconst (x := 1) dL_law_1259 rfl (by decide) ?_
                                                                obtain ⟨x426, hx426, h⟩ := xLet_el h
                                                                refine fx_iadd dL_law_1260 rfl hx426 ?_
                                                                obtain ⟨hj428, h⟩ := xChk_el h
                                                                obtain ⟨x427, hx427, h⟩ := xLet_el h
                                                                refine fx_sload dL_law_1261 rfl rfl hj428 hx427 ?_
                                                                obtain ⟨p429, ep429, h⟩ := xBind_el h
                                                                refine gx_callv (as := [.int x427]) (r := []) rfl dL_law_1262 ca_13_136 rfl me_254 rfl rfl rfl rfl (hMS.1) rfl (fX11_load_ok (d := d) (by omega) hMS ep429) rfl rfl ?_
                                                                refine fx_pop dL_law_1265 rfl rfl ?_
                                                                refine fx_aload_n dL_law_1266 rfl rfl ?_
                                                                refine fx_aload_n dL_law_1267 rfl rfl ?_
                                                                refine fx_iload_n dL_law_1268 rfl rfl ?_
                                                                refine fx_iconst (x := 1) dL_law_1269 rfl (by decide) ?_
                                                                obtain ⟨x430, hx430, h⟩ := xLet_el h
                                                                refine fx_iadd dL_law_1270 rfl hx430 ?_
                                                                obtain ⟨hj432, h⟩ := xChk_el h
                                                                obtain ⟨x431, hx431, h⟩ := xLet_el h
                                                                refine fx_sload dL_law_1271 rfl rfl hj432 hx431 ?_
                                                                obtain ⟨p433, ep433, h⟩ := xBind_el h
                                                                refine gx_callv (as := [.int x431]) (r := []) rfl dL_law_1272 ca_13_139 rfl me_256 rfl rfl rfl rfl (hModel.1) rfl (fX12_load_ok (d := d) (by omega) hModel ep433) rfl rfl ?_
                                                                refine fx_pop dL_law_1275 rfl rfl ?_
                                                                refine fx_goto (t := 1390) dL_law_1276 rfl rfl ?_
                                                                exact fL_1390_ok hd ih h
                                                              · rw [if_neg hc425] at h
                                                                by_cases hc434 : x6 = (29 : Int32)
                                                                · rw [if_pos hc434] at h
                                                                  refine fx_tabIn (t := 1279) dL_law_33 rfl (by rw [hc434]; decide) (by rw [hc434]; decide) (by rw [hc434]; rfl) rfl ?_
                                                                  refine fx_aload_n dL_law_1279 rfl rfl ?_
                                                                  obtain ⟨p435, ep435, h⟩ := xBind_el h
                                                                  refine gx_callv (as := []) (r := []) rfl dL_law_1280 ca_13_140 rfl me_257 rfl rfl rfl rfl (hMS.1) rfl (fX11_unload_ok (d := d) (by omega) hMS ep435) rfl rfl ?_
                                                                  refine fx_pop dL_law_1283 rfl rfl ?_
                                                                  refine fx_aload_n dL_law_1284 rfl rfl ?_
                                                                  obtain ⟨p436, ep436, h⟩ := xBind_el h
                                                                  refine gx_callv (as := []) (r := []) rfl dL_law_1285 ca_13_143 rfl me_258 rfl rfl rfl rfl (hModel.1) rfl (fX12_unload_ok (d := d) (by omega) hModel ep436) rfl rfl ?_
                                                                  refine fx_pop dL_law_1288 rfl rfl ?_
                                                                  refine fx_goto (t := 1390) dL_law_1289 rfl rfl ?_
                                                                  exact fL_1390_ok hd ih h
                                                                · rw [if_neg hc434] at h
                                                                  by_cases hc437 : x6 = (30 : Int32)
                                                                  · rw [if_pos hc437] at h
                                                                    refine fx_tabIn (t := 1292) dL_law_33 rfl (by rw [hc437]; decide) (by rw [hc437]; decide) (by rw [hc437]; rfl) rfl ?_
                                                                    refine fx_aload_n dL_law_1292 rfl rfl ?_
                                                                    refine fx_aload_n dL_law_1293 rfl rfl ?_
                                                                    refine fx_iload_n dL_law_1294 rfl rfl ?_
                                                                    refine fx_iconst (x := 1) dL_law_1295 rfl (by decide) ?_
                                                                    obtain ⟨x438, hx438, h⟩ := xLet_el h
                                                                    refine fx_iadd dL_law_1296 rfl hx438 ?_
                                                                    obtain ⟨hj440, h⟩ := xChk_el h
                                                                    obtain ⟨x439, hx439, h⟩ := xLet_el h
                                                                    refine fx_sload dL_law_1297 rfl rfl hj440 hx439 ?_
                                                                    refine fx_aload_n dL_law_1298 rfl rfl ?_
                                                                    refine fx_iload_n dL_law_1299 rfl rfl ?_
                                                                    refine fx_iconst (x := 2) dL_law_1300 rfl (by decide) ?_
                                                                    obtain ⟨x441, hx441, h⟩ := xLet_el h
                                                                    refine fx_iadd dL_law_1301 rfl hx441 ?_
                                                                    obtain ⟨hj443, h⟩ := xChk_el h
                                                                    obtain ⟨x442, hx442, h⟩ := xLet_el h
                                                                    refine fx_sload dL_law_1302 rfl rfl hj443 hx442 ?_
                                                                    refine fx_if_eq (t := 1310) dL_law_1303 rfl rfl (fun hc444 => ?_) (fun hc444 => ?_)
                                                                    · rw [if_pos hc444] at h
                                                                      refine fx_iconst (x := 0) dL_law_1310 rfl (by decide) ?_
                                                                      exact fL_1311_ok hd ih hMS h
                                                                    · rw [if_neg hc444] at h
                                                                      refine fx_iconst (x := 1) dL_law_1306 rfl (by decide) ?_
                                                                      refine fx_goto (t := 1311) dL_law_1307 rfl rfl ?_
                                                                      exact fL_1311_ok hd ih hMS h
                                                                  · rw [if_neg hc437] at h
                                                                    by_cases hc445 : x6 = (31 : Int32)
                                                                    · rw [if_pos hc445] at h
                                                                      refine fx_tabIn (t := 1341) dL_law_33 rfl (by rw [hc445]; decide) (by rw [hc445]; decide) (by rw [hc445]; rfl) rfl ?_
                                                                      refine fx_aload_n dL_law_1341 rfl rfl ?_
                                                                      obtain ⟨p446, ep446, h⟩ := xBind_el h
                                                                      refine gx_callv (as := []) (r := []) rfl dL_law_1342 ca_13_149 rfl me_263 rfl rfl rfl rfl (hMS.1) rfl (fX11_image_ok (d := d) (by omega) hMS ep446) rfl rfl ?_
                                                                      refine fx_pop dL_law_1345 rfl rfl ?_
                                                                      refine fx_aload_n dL_law_1346 rfl rfl ?_
                                                                      obtain ⟨p447, ep447, h⟩ := xBind_el h
                                                                      refine gx_callv (as := []) (r := []) rfl dL_law_1347 ca_13_152 rfl me_268 rfl rfl rfl rfl (hModel.1) rfl (fX12_image_ok (d := d) (by omega) hModel ep447) rfl rfl ?_
                                                                      refine fx_pop dL_law_1350 rfl rfl ?_
                                                                      refine fx_goto (t := 1390) dL_law_1351 rfl rfl ?_
                                                                      exact fL_1390_ok hd ih h
                                                                    · rw [if_neg hc445] at h
                                                                      by_cases hc448 : x6 = (32 : Int32)
                                                                      · rw [if_pos hc448] at h
                                                                        refine fx_tabIn (t := 1354) dL_law_33 rfl (by rw [hc448]; decide) (by rw [hc448]; decide) (by rw [hc448]; rfl) rfl ?_
                                                                        refine fx_aload_n dL_law_1354 rfl rfl ?_
                                                                        obtain ⟨p449, ep449, h⟩ := xBind_el h
                                                                        refine gx_callv (as := []) (r := []) rfl dL_law_1355 ca_13_153 rfl me_269 rfl rfl rfl rfl (hMS.1) rfl (fX11_back_ok (d := d) (by omega) hMS ep449) rfl rfl ?_
                                                                        refine fx_pop dL_law_1358 rfl rfl ?_
                                                                        refine fx_aload_n dL_law_1359 rfl rfl ?_
                                                                        obtain ⟨p450, ep450, h⟩ := xBind_el h
                                                                        refine gx_callv (as := []) (r := []) rfl dL_law_1360 ca_13_156 rfl me_270 rfl rfl rfl rfl (hModel.1) rfl (fX12_back_ok (d := d) (by omega) hModel ep450) rfl rfl ?_
                                                                        refine fx_pop dL_law_1363 rfl rfl ?_
                                                                        refine fx_goto (t := 1390) dL_law_1364 rfl rfl ?_
                                                                        exact fL_1390_ok hd ih h
                                                                      · rw [if_neg hc448] at h
                                                                        by_cases hc451 : x6 = (33 : Int32)
                                                                        · rw [if_pos hc451] at h
                                                                          refine fx_tabIn (t := 1367) dL_law_33 rfl (by rw [hc451]; decide) (by rw [hc451]; decide) (by rw [hc451]; rfl) rfl ?_
                                                                          refine fx_aload_n dL_law_1367 rfl rfl ?_
                                                                          refine fx_aload_n dL_law_1368 rfl rfl ?_
                                                                          refine fx_iload_n dL_law_1369 rfl rfl ?_
                                                                          refine fx_iconst (x := 1) dL_law_1370 rfl (by decide) ?_
                                                                          obtain ⟨x452, hx452, h⟩ := xLet_el h
                                                                          refine fx_iadd dL_law_1371 rfl hx452 ?_
                                                                          obtain ⟨hj454, h⟩ := xChk_el h
                                                                          obtain ⟨x453, hx453, h⟩ := xLet_el h
                                                                          refine fx_sload dL_law_1372 rfl rfl hj454 hx453 ?_
                                                                          obtain ⟨p455, ep455, h⟩ := xBind_el h
                                                                          refine gx_callv (as := [.int x453]) (r := []) rfl dL_law_1373 ca_13_157 rfl me_271 rfl rfl rfl rfl (hMS.1) rfl (fX11_about_ok (d := d) (by omega) hMS ep455) rfl rfl ?_
                                                                          refine fx_pop dL_law_1376 rfl rfl ?_
                                                                          refine fx_aload_n dL_law_1377 rfl rfl ?_
                                                                          refine fx_aload_n dL_law_1378 rfl rfl ?_
                                                                          refine fx_iload_n dL_law_1379 rfl rfl ?_
                                                                          refine fx_iconst (x := 1) dL_law_1380 rfl (by decide) ?_
                                                                          obtain ⟨x456, hx456, h⟩ := xLet_el h
                                                                          refine fx_iadd dL_law_1381 rfl hx456 ?_
                                                                          obtain ⟨hj458, h⟩ := xChk_el h
                                                                          obtain ⟨x457, hx457, h⟩ := xLet_el h
                                                                          refine fx_sload dL_law_1382 rfl rfl hj458 hx457 ?_
                                                                          obtain ⟨p459, ep459, h⟩ := xBind_el h
                                                                          refine gx_callv (as := [.int x457]) (r := []) rfl dL_law_1383 ca_13_160 rfl me_272 rfl rfl rfl rfl (hModel.1) rfl (fX12_about_ok (d := d) (by omega) hModel ep459) rfl rfl ?_
                                                                          refine fx_pop dL_law_1386 rfl rfl ?_
                                                                          refine fx_goto (t := 1390) dL_law_1387 rfl rfl ?_
                                                                          exact fL_1390_ok hd ih h
                                                                        · rw [if_neg hc451] at h
                                                                          have e0 : x6.toInt ≠ 0 := fun q => hc7 (Int32.toInt_inj.mp (q.trans (by decide)))
                                                                          have e1 : x6.toInt ≠ 1 := fun q => hc16 (Int32.toInt_inj.mp (q.trans (by decide)))
                                                                          have e2 : x6.toInt ≠ 2 := fun q => hc31 (Int32.toInt_inj.mp (q.trans (by decide)))
                                                                          have e3 : x6.toInt ≠ 3 := fun q => hc64 (Int32.toInt_inj.mp (q.trans (by decide)))
                                                                          have e4 : x6.toInt ≠ 4 := fun q => hc79 (Int32.toInt_inj.mp (q.trans (by decide)))
                                                                          have e5 : x6.toInt ≠ 5 := fun q => hc94 (Int32.toInt_inj.mp (q.trans (by decide)))
                                                                          have e6 : x6.toInt ≠ 6 := fun q => hc103 (Int32.toInt_inj.mp (q.trans (by decide)))
                                                                          have e7 : x6.toInt ≠ 7 := fun q => hc123 (Int32.toInt_inj.mp (q.trans (by decide)))
                                                                          have e8 : x6.toInt ≠ 8 := fun q => hc156 (Int32.toInt_inj.mp (q.trans (by decide)))
                                                                          have e9 : x6.toInt ≠ 9 := fun q => hc165 (Int32.toInt_inj.mp (q.trans (by decide)))
                                                                          have e10 : x6.toInt ≠ 10 := fun q => hc169 (Int32.toInt_inj.mp (q.trans (by decide)))
                                                                          have e11 : x6.toInt ≠ 11 := fun q => hc178 (Int32.toInt_inj.mp (q.trans (by decide)))
                                                                          have e12 : x6.toInt ≠ 12 := fun q => hc187 (Int32.toInt_inj.mp (q.trans (by decide)))
                                                                          have e13 : x6.toInt ≠ 13 := fun q => hc196 (Int32.toInt_inj.mp (q.trans (by decide)))
                                                                          have e14 : x6.toInt ≠ 14 := fun q => hc211 (Int32.toInt_inj.mp (q.trans (by decide)))
                                                                          have e15 : x6.toInt ≠ 15 := fun q => hc226 (Int32.toInt_inj.mp (q.trans (by decide)))
                                                                          have e16 : x6.toInt ≠ 16 := fun q => hc247 (Int32.toInt_inj.mp (q.trans (by decide)))
                                                                          have e17 : x6.toInt ≠ 17 := fun q => hc258 (Int32.toInt_inj.mp (q.trans (by decide)))
                                                                          have e18 : x6.toInt ≠ 18 := fun q => hc267 (Int32.toInt_inj.mp (q.trans (by decide)))
                                                                          have e19 : x6.toInt ≠ 19 := fun q => hc288 (Int32.toInt_inj.mp (q.trans (by decide)))
                                                                          have e20 : x6.toInt ≠ 20 := fun q => hc309 (Int32.toInt_inj.mp (q.trans (by decide)))
                                                                          have e21 : x6.toInt ≠ 21 := fun q => hc324 (Int32.toInt_inj.mp (q.trans (by decide)))
                                                                          have e22 : x6.toInt ≠ 22 := fun q => hc339 (Int32.toInt_inj.mp (q.trans (by decide)))
                                                                          have e23 : x6.toInt ≠ 23 := fun q => hc366 (Int32.toInt_inj.mp (q.trans (by decide)))
                                                                          have e24 : x6.toInt ≠ 24 := fun q => hc381 (Int32.toInt_inj.mp (q.trans (by decide)))
                                                                          have e25 : x6.toInt ≠ 25 := fun q => hc386 (Int32.toInt_inj.mp (q.trans (by decide)))
                                                                          have e26 : x6.toInt ≠ 26 := fun q => hc389 (Int32.toInt_inj.mp (q.trans (by decide)))
                                                                          have e27 : x6.toInt ≠ 27 := fun q => hc416 (Int32.toInt_inj.mp (q.trans (by decide)))
                                                                          have e28 : x6.toInt ≠ 28 := fun q => hc425 (Int32.toInt_inj.mp (q.trans (by decide)))
                                                                          have e29 : x6.toInt ≠ 29 := fun q => hc434 (Int32.toInt_inj.mp (q.trans (by decide)))
                                                                          have e30 : x6.toInt ≠ 30 := fun q => hc437 (Int32.toInt_inj.mp (q.trans (by decide)))
                                                                          have e31 : x6.toInt ≠ 31 := fun q => hc445 (Int32.toInt_inj.mp (q.trans (by decide)))
                                                                          have e32 : x6.toInt ≠ 32 := fun q => hc448 (Int32.toInt_inj.mp (q.trans (by decide)))
                                                                          have e33 : x6.toInt ≠ 33 := fun q => hc451 (Int32.toInt_inj.mp (q.trans (by decide)))
                                                                          refine fx_tabOut (t := 1390) dL_law_33 rfl (by omega) rfl ?_
                                                                          exact fL_1390_ok hd ih h
