theorem dX12_init_222 : decode cX12_init 222 = .ok (.aload_n 0, 1) := by decide +kernel
theorem dX12_init_223 : decode cX12_init 223 = .ok (.getfield 7, 3) := by decide +kernel
theorem dX12_init_226 : decode cX12_init 226 = .ok (.iconst 5, 1) := by decide +kernel
theorem dX12_init_227 : decode cX12_init 227 = .ok (.iconst (-1), 1) := by decide +kernel
theorem dX12_init_228 : decode cX12_init 228 = .ok (.iastore, 1) := by decide +kernel
theorem dX12_init_229 : decode cX12_init 229 = .ok (.iconst 0, 1) := by decide +kernel
theorem dX12_init_230 : decode cX12_init 230 = .ok (.istore_n 1, 1) := by decide +kernel
theorem dX12_init_231 : decode cX12_init 231 = .ok (.iload_n 1, 1) := by decide +kernel
theorem dX12_init_232 : decode cX12_init 232 = .ok (.sipush 800, 3) := by decide +kernel
theorem dX12_init_235 : decode cX12_init 235 = .ok (.if_icmp .ge 20, 3) := by decide +kernel
theorem dX12_init_238 : decode cX12_init 238 = .ok (.aload_n 0, 1) := by decide +kernel
theorem dX12_init_239 : decode cX12_init 239 = .ok (.getfield 7, 3) := by decide +kernel
theorem dX12_init_242 : decode cX12_init 242 = .ok (.sipush 580, 3) := by decide +kernel
theorem dX12_init_245 : decode cX12_init 245 = .ok (.iload_n 1, 1) := by decide +kernel
theorem dX12_init_246 : decode cX12_init 246 = .ok (.iadd, 1) := by decide +kernel
theorem dX12_init_247 : decode cX12_init 247 = .ok (.iconst (-1), 1) := by decide +kernel
theorem dX12_init_248 : decode cX12_init 248 = .ok (.iastore, 1) := by decide +kernel
theorem dX12_init_249 : decode cX12_init 249 = .ok (.iinc 1 1, 3) := by decide +kernel
theorem dX12_init_252 : decode cX12_init 252 = .ok (.goto (-21), 3) := by decide +kernel
theorem dX12_init_255 : decode cX12_init 255 = .ok (.iconst 0, 1) := by decide +kernel
theorem dX12_init_256 : decode cX12_init 256 = .ok (.istore_n 1, 1) := by decide +kernel
theorem dX12_init_257 : decode cX12_init 257 = .ok (.iload_n 1, 1) := by decide +kernel
theorem dX12_init_258 : decode cX12_init 258 = .ok (.sipush 1610, 3) := by decide +kernel
theorem dX12_init_261 : decode cX12_init 261 = .ok (.if_icmp .ge 21, 3) := by decide +kernel
theorem dX12_init_264 : decode cX12_init 264 = .ok (.aload_n 0, 1) := by decide +kernel
theorem dX12_init_265 : decode cX12_init 265 = .ok (.getfield 13, 3) := by decide +kernel
theorem dX12_init_268 : decode cX12_init 268 = .ok (.iload_n 1, 1) := by decide +kernel
theorem dX12_init_269 : decode cX12_init 269 = .ok (.aload_n 0, 1) := by decide +kernel
theorem dX12_init_270 : decode cX12_init 270 = .ok (.getfield 7, 3) := by decide +kernel
theorem dX12_init_273 : decode cX12_init 273 = .ok (.iload_n 1, 1) := by decide +kernel
theorem dX12_init_274 : decode cX12_init 274 = .ok (.iaload, 1) := by decide +kernel
theorem dX12_init_275 : decode cX12_init 275 = .ok (.iastore, 1) := by decide +kernel
theorem dX12_init_276 : decode cX12_init 276 = .ok (.iinc 1 1, 3) := by decide +kernel
theorem dX12_init_279 : decode cX12_init 279 = .ok (.goto (-22), 3) := by decide +kernel
theorem dX12_init_282 : decode cX12_init 282 = .ok (.return_, 1) := by decide +kernel
theorem dL_law_0 : decode cL_law 0 = .ok (.new 7, 3) := by decide +kernel
theorem dL_law_3 : decode cL_law 3 = .ok (.dup, 1) := by decide +kernel
theorem dL_law_4 : decode cL_law 4 = .ok (.invokespecial 9, 3) := by decide +kernel
theorem dL_law_7 : decode cL_law 7 = .ok (.astore_n 1, 1) := by decide +kernel
theorem dL_law_8 : decode cL_law 8 = .ok (.new 10, 3) := by decide +kernel
theorem dL_law_11 : decode cL_law 11 = .ok (.dup, 1) := by decide +kernel
theorem dL_law_12 : decode cL_law 12 = .ok (.invokespecial 12, 3) := by decide +kernel
theorem dL_law_15 : decode cL_law 15 = .ok (.astore_n 2, 1) := by decide +kernel
theorem dL_law_16 : decode cL_law 16 = .ok (.iconst 0, 1) := by decide +kernel
theorem dL_law_17 : decode cL_law 17 = .ok (.istore_n 3, 1) := by decide +kernel
/-! THE START: both constructors, and the memory behind them -/
def eD1 : eM := [
  .inr (11, [.ref 1, .ref 84, .ref 167, .ref 250, .ref 255, .ref 260, .ref 266]), .inr (9, [.ref 2, .ref 3, .ref 4, .ref 5, .ref 8, .ref 14, .int (0), .int (0), .int (0), .int (0), .int (0), .int (-1), .int (0), .int (0), .int (0), .int (0)]), .inl (4, 6, [some 16, some 19, some 22, some 25, some 28, some 31]), .inl (5, 10, [some 34, some 36, some 38, some 40, some 42, some 44, some 46, some 48, some 50, some 52]), .inl (6, 30, [some 54, some 55, some 56, some 57, some 58, some 59, some 60, some 61, some 62, some 63, some 64, some 65, some 66, some 67, some 68, some 69, some 70, some 71, some 72, some 73, some 74, some 75, some 76, some 77, some 78, some 79, some 80, some 81, some 82, some 83]), .inr (1, [.ref 6, .ref 7, .int (0)]), .inl (1, 12, []), .inl (1, 12, []),
  .inr (5, [.ref 9, .ref 10, .ref 11, .ref 12, .ref 13, .int (0)]), .inl (1, 6, []), .inl (1, 6, []), .inl (1, 6, []), .inl (1, 6, []), .inl (1, 64, []), .inr (4, [.ref 15, .int (0)]), .inl (1, 60, []),
  .inr (2, [.ref 17, .ref 18, .int (0), .int (0), .int (0), .int (0), .int (0), .int (0), .int (0)]), .inl (1, 12, []), .inl (1, 12, []), .inr (2, [.ref 20, .ref 21, .int (0), .int (0), .int (0), .int (0), .int (0), .int (0), .int (0)]), .inl (1, 12, []), .inl (1, 12, []), .inr (2, [.ref 23, .ref 24, .int (0), .int (0), .int (0), .int (0), .int (0), .int (0), .int (0)]), .inl (1, 12, []),
  .inl (1, 12, []), .inr (2, [.ref 26, .ref 27, .int (0), .int (0), .int (0), .int (0), .int (0), .int (0), .int (0)]), .inl (1, 12, []), .inl (1, 12, []), .inr (2, [.ref 29, .ref 30, .int (0), .int (0), .int (0), .int (0), .int (0), .int (0), .int (0)]), .inl (1, 12, []), .inl (1, 12, []), .inr (2, [.ref 32, .ref 33, .int (0), .int (0), .int (0), .int (0), .int (0), .int (0), .int (0)]),
  .inl (1, 12, []), .inl (1, 12, []), .inr (3, [.ref 35, .int (0), .int (0), .int (0), .int (0), .int (0), .int (0), .int (0), .int (0), .int (0), .int (0), .int (0), .int (0), .int (0)]), .inl (1, 80, []), .inr (3, [.ref 37, .int (0), .int (0), .int (0), .int (0), .int (0), .int (0), .int (0), .int (0), .int (0), .int (0), .int (0), .int (0), .int (0)]), .inl (1, 80, []), .inr (3, [.ref 39, .int (0), .int (0), .int (0), .int (0), .int (0), .int (0), .int (0), .int (0), .int (0), .int (0), .int (0), .int (0), .int (0)]), .inl (1, 80, []),
  .inr (3, [.ref 41, .int (0), .int (0), .int (0), .int (0), .int (0), .int (0), .int (0), .int (0), .int (0), .int (0), .int (0), .int (0), .int (0)]), .inl (1, 80, []), .inr (3, [.ref 43, .int (0), .int (0), .int (0), .int (0), .int (0), .int (0), .int (0), .int (0), .int (0), .int (0), .int (0), .int (0), .int (0)]), .inl (1, 80, []), .inr (3, [.ref 45, .int (0), .int (0), .int (0), .int (0), .int (0), .int (0), .int (0), .int (0), .int (0), .int (0), .int (0), .int (0), .int (0)]), .inl (1, 80, []), .inr (3, [.ref 47, .int (0), .int (0), .int (0), .int (0), .int (0), .int (0), .int (0), .int (0), .int (0), .int (0), .int (0), .int (0), .int (0)]), .inl (1, 80, []),
  .inr (3, [.ref 49, .int (0), .int (0), .int (0), .int (0), .int (0), .int (0), .int (0), .int (0), .int (0), .int (0), .int (0), .int (0), .int (0)]), .inl (1, 80, []), .inr (3, [.ref 51, .int (0), .int (0), .int (0), .int (0), .int (0), .int (0), .int (0), .int (0), .int (0), .int (0), .int (0), .int (0), .int (0)]), .inl (1, 80, []), .inr (3, [.ref 53, .int (0), .int (0), .int (0), .int (0), .int (0), .int (0), .int (0), .int (0), .int (0), .int (0), .int (0), .int (0), .int (0)]), .inl (1, 80, []), .inr (0, [.int (0), .int (0), .int (0), .int (0), .int (0), .int (0), .int (0)]), .inr (0, [.int (0), .int (0), .int (0), .int (0), .int (0), .int (0), .int (0)]),
  .inr (0, [.int (0), .int (0), .int (0), .int (0), .int (0), .int (0), .int (0)]), .inr (0, [.int (0), .int (0), .int (0), .int (0), .int (0), .int (0), .int (0)]), .inr (0, [.int (0), .int (0), .int (0), .int (0), .int (0), .int (0), .int (0)]), .inr (0, [.int (0), .int (0), .int (0), .int (0), .int (0), .int (0), .int (0)]), .inr (0, [.int (0), .int (0), .int (0), .int (0), .int (0), .int (0), .int (0)]), .inr (0, [.int (0), .int (0), .int (0), .int (0), .int (0), .int (0), .int (0)]), .inr (0, [.int (0), .int (0), .int (0), .int (0), .int (0), .int (0), .int (0)]), .inr (0, [.int (0), .int (0), .int (0), .int (0), .int (0), .int (0), .int (0)]),
  .inr (0, [.int (0), .int (0), .int (0), .int (0), .int (0), .int (0), .int (0)]), .inr (0, [.int (0), .int (0), .int (0), .int (0), .int (0), .int (0), .int (0)]), .inr (0, [.int (0), .int (0), .int (0), .int (0), .int (0), .int (0), .int (0)]), .inr (0, [.int (0), .int (0), .int (0), .int (0), .int (0), .int (0), .int (0)]), .inr (0, [.int (0), .int (0), .int (0), .int (0), .int (0), .int (0), .int (0)]), .inr (0, [.int (0), .int (0), .int (0), .int (0), .int (0), .int (0), .int (0)]), .inr (0, [.int (0), .int (0), .int (0), .int (0), .int (0), .int (0), .int (0)]), .inr (0, [.int (0), .int (0), .int (0), .int (0), .int (0), .int (0), .int (0)]),
  .inr (0, [.int (0), .int (0), .int (0), .int (0), .int (0), .int (0), .int (0)]), .inr (0, [.int (0), .int (0), .int (0), .int (0), .int (0), .int (0), .int (0)]), .inr (0, [.int (0), .int (0), .int (0), .int (0), .int (0), .int (0), .int (0)]), .inr (0, [.int (0), .int (0), .int (0), .int (0), .int (0), .int (0), .int (0)]), .inr (0, [.int (0), .int (0), .int (0), .int (0), .int (0), .int (0), .int (0)]), .inr (0, [.int (0), .int (0), .int (0), .int (0), .int (0), .int (0), .int (0)]), .inr (0, [.int (0), .int (0), .int (0), .int (0), .int (0), .int (0), .int (0)]), .inr (0, [.int (0), .int (0), .int (0), .int (0), .int (0), .int (0), .int (0)]),
  .inr (0, [.int (0), .int (0), .int (0), .int (0), .int (0), .int (0), .int (0)]), .inr (0, [.int (0), .int (0), .int (0), .int (0), .int (0), .int (0), .int (0)]), .inr (0, [.int (0), .int (0), .int (0), .int (0), .int (0), .int (0), .int (0)]), .inr (0, [.int (0), .int (0), .int (0), .int (0), .int (0), .int (0), .int (0)]), .inr (9, [.ref 85, .ref 86, .ref 87, .ref 88, .ref 91, .ref 97, .int (0), .int (0), .int (0), .int (0), .int (0), .int (-1), .int (0), .int (0), .int (0), .int (0)]), .inl (4, 6, [some 99, some 102, some 105, some 108, some 111, some 114]), .inl (5, 10, [some 117, some 119, some 121, some 123, some 125, some 127, some 129, some 131, some 133, some 135]), .inl (6, 30, [some 137, some 138, some 139, some 140, some 141, some 142, some 143, some 144, some 145, some 146, some 147, some 148, some 149, some 150, some 151, some 152, some 153, some 154, some 155, some 156, some 157, some 158, some 159, some 160, some 161, some 162, some 163, some 164, some 165, some 166]),
  .inr (1, [.ref 89, .ref 90, .int (0)]), .inl (1, 12, []), .inl (1, 12, []), .inr (5, [.ref 92, .ref 93, .ref 94, .ref 95, .ref 96, .int (0)]), .inl (1, 6, []), .inl (1, 6, []), .inl (1, 6, []), .inl (1, 6, []),
  .inl (1, 64, []), .inr (4, [.ref 98, .int (0)]), .inl (1, 60, []), .inr (2, [.ref 100, .ref 101, .int (0), .int (0), .int (0), .int (0), .int (0), .int (0), .int (0)]), .inl (1, 12, []), .inl (1, 12, []), .inr (2, [.ref 103, .ref 104, .int (0), .int (0), .int (0), .int (0), .int (0), .int (0), .int (0)]), .inl (1, 12, []),
  .inl (1, 12, []), .inr (2, [.ref 106, .ref 107, .int (0), .int (0), .int (0), .int (0), .int (0), .int (0), .int (0)]), .inl (1, 12, []), .inl (1, 12, []), .inr (2, [.ref 109, .ref 110, .int (0), .int (0), .int (0), .int (0), .int (0), .int (0), .int (0)]), .inl (1, 12, []), .inl (1, 12, []), .inr (2, [.ref 112, .ref 113, .int (0), .int (0), .int (0), .int (0), .int (0), .int (0), .int (0)]),
  .inl (1, 12, []), .inl (1, 12, []), .inr (2, [.ref 115, .ref 116, .int (0), .int (0), .int (0), .int (0), .int (0), .int (0), .int (0)]), .inl (1, 12, []), .inl (1, 12, []), .inr (3, [.ref 118, .int (0), .int (0), .int (0), .int (0), .int (0), .int (0), .int (0), .int (0), .int (0), .int (0), .int (0), .int (0), .int (0)]), .inl (1, 80, []), .inr (3, [.ref 120, .int (0), .int (0), .int (0), .int (0), .int (0), .int (0), .int (0), .int (0), .int (0), .int (0), .int (0), .int (0), .int (0)]),
  .inl (1, 80, []), .inr (3, [.ref 122, .int (0), .int (0), .int (0), .int (0), .int (0), .int (0), .int (0), .int (0), .int (0), .int (0), .int (0), .int (0), .int (0)]), .inl (1, 80, []), .inr (3, [.ref 124, .int (0), .int (0), .int (0), .int (0), .int (0), .int (0), .int (0), .int (0), .int (0), .int (0), .int (0), .int (0), .int (0)]), .inl (1, 80, []), .inr (3, [.ref 126, .int (0), .int (0), .int (0), .int (0), .int (0), .int (0), .int (0), .int (0), .int (0), .int (0), .int (0), .int (0), .int (0)]), .inl (1, 80, []), .inr (3, [.ref 128, .int (0), .int (0), .int (0), .int (0), .int (0), .int (0), .int (0), .int (0), .int (0), .int (0), .int (0), .int (0), .int (0)]),
  .inl (1, 80, []), .inr (3, [.ref 130, .int (0), .int (0), .int (0), .int (0), .int (0), .int (0), .int (0), .int (0), .int (0), .int (0), .int (0), .int (0), .int (0)]), .inl (1, 80, []), .inr (3, [.ref 132, .int (0), .int (0), .int (0), .int (0), .int (0), .int (0), .int (0), .int (0), .int (0), .int (0), .int (0), .int (0), .int (0)]), .inl (1, 80, []), .inr (3, [.ref 134, .int (0), .int (0), .int (0), .int (0), .int (0), .int (0), .int (0), .int (0), .int (0), .int (0), .int (0), .int (0), .int (0)]), .inl (1, 80, []), .inr (3, [.ref 136, .int (0), .int (0), .int (0), .int (0), .int (0), .int (0), .int (0), .int (0), .int (0), .int (0), .int (0), .int (0), .int (0)]),
  .inl (1, 80, []), .inr (0, [.int (0), .int (0), .int (0), .int (0), .int (0), .int (0), .int (0)]), .inr (0, [.int (0), .int (0), .int (0), .int (0), .int (0), .int (0), .int (0)]), .inr (0, [.int (0), .int (0), .int (0), .int (0), .int (0), .int (0), .int (0)]), .inr (0, [.int (0), .int (0), .int (0), .int (0), .int (0), .int (0), .int (0)]), .inr (0, [.int (0), .int (0), .int (0), .int (0), .int (0), .int (0), .int (0)]), .inr (0, [.int (0), .int (0), .int (0), .int (0), .int (0), .int (0), .int (0)]), .inr (0, [.int (0), .int (0), .int (0), .int (0), .int (0), .int (0), .int (0)]),
  .inr (0, [.int (0), .int (0), .int (0), .int (0), .int (0), .int (0), .int (0)]), .inr (0, [.int (0), .int (0), .int (0), .int (0), .int (0), .int (0), .int (0)]), .inr (0, [.int (0), .int (0), .int (0), .int (0), .int (0), .int (0), .int (0)]), .inr (0, [.int (0), .int (0), .int (0), .int (0), .int (0), .int (0), .int (0)]), .inr (0, [.int (0), .int (0), .int (0), .int (0), .int (0), .int (0), .int (0)]), .inr (0, [.int (0), .int (0), .int (0), .int (0), .int (0), .int (0), .int (0)]), .inr (0, [.int (0), .int (0), .int (0), .int (0), .int (0), .int (0), .int (0)]), .inr (0, [.int (0), .int (0), .int (0), .int (0), .int (0), .int (0), .int (0)]),
  .inr (0, [.int (0), .int (0), .int (0), .int (0), .int (0), .int (0), .int (0)]), .inr (0, [.int (0), .int (0), .int (0), .int (0), .int (0), .int (0), .int (0)]), .inr (0, [.int (0), .int (0), .int (0), .int (0), .int (0), .int (0), .int (0)]), .inr (0, [.int (0), .int (0), .int (0), .int (0), .int (0), .int (0), .int (0)]), .inr (0, [.int (0), .int (0), .int (0), .int (0), .int (0), .int (0), .int (0)]), .inr (0, [.int (0), .int (0), .int (0), .int (0), .int (0), .int (0), .int (0)]), .inr (0, [.int (0), .int (0), .int (0), .int (0), .int (0), .int (0), .int (0)]), .inr (0, [.int (0), .int (0), .int (0), .int (0), .int (0), .int (0), .int (0)]),
  .inr (0, [.int (0), .int (0), .int (0), .int (0), .int (0), .int (0), .int (0)]), .inr (0, [.int (0), .int (0), .int (0), .int (0), .int (0), .int (0), .int (0)]), .inr (0, [.int (0), .int (0), .int (0), .int (0), .int (0), .int (0), .int (0)]), .inr (0, [.int (0), .int (0), .int (0), .int (0), .int (0), .int (0), .int (0)]), .inr (0, [.int (0), .int (0), .int (0), .int (0), .int (0), .int (0), .int (0)]), .inr (0, [.int (0), .int (0), .int (0), .int (0), .int (0), .int (0), .int (0)]), .inr (0, [.int (0), .int (0), .int (0), .int (0), .int (0), .int (0), .int (0)]), .inr (9, [.ref 168, .ref 169, .ref 170, .ref 171, .ref 174, .ref 180, .int (0), .int (0), .int (0), .int (0), .int (0), .int (-1), .int (0), .int (0), .int (0), .int (0)]),
  .inl (4, 6, [some 182, some 185, some 188, some 191, some 194, some 197]), .inl (5, 10, [some 200, some 202, some 204, some 206, some 208, some 210, some 212, some 214, some 216, some 218]), .inl (6, 30, [some 220, some 221, some 222, some 223, some 224, some 225, some 226, some 227, some 228, some 229, some 230, some 231, some 232, some 233, some 234, some 235, some 236, some 237, some 238, some 239, some 240, some 241, some 242, some 243, some 244, some 245, some 246, some 247, some 248, some 249]), .inr (1, [.ref 172, .ref 173, .int (0)]), .inl (1, 12, []), .inl (1, 12, []), .inr (5, [.ref 175, .ref 176, .ref 177, .ref 178, .ref 179, .int (0)]), .inl (1, 6, []),
  .inl (1, 6, []), .inl (1, 6, []), .inl (1, 6, []), .inl (1, 64, []), .inr (4, [.ref 181, .int (0)]), .inl (1, 60, []), .inr (2, [.ref 183, .ref 184, .int (0), .int (0), .int (0), .int (0), .int (0), .int (0), .int (0)]), .inl (1, 12, []),
  .inl (1, 12, []), .inr (2, [.ref 186, .ref 187, .int (0), .int (0), .int (0), .int (0), .int (0), .int (0), .int (0)]), .inl (1, 12, []), .inl (1, 12, []), .inr (2, [.ref 189, .ref 190, .int (0), .int (0), .int (0), .int (0), .int (0), .int (0), .int (0)]), .inl (1, 12, []), .inl (1, 12, []), .inr (2, [.ref 192, .ref 193, .int (0), .int (0), .int (0), .int (0), .int (0), .int (0), .int (0)]),
  .inl (1, 12, []), .inl (1, 12, []), .inr (2, [.ref 195, .ref 196, .int (0), .int (0), .int (0), .int (0), .int (0), .int (0), .int (0)]), .inl (1, 12, []), .inl (1, 12, []), .inr (2, [.ref 198, .ref 199, .int (0), .int (0), .int (0), .int (0), .int (0), .int (0), .int (0)]), .inl (1, 12, []), .inl (1, 12, []),
  .inr (3, [.ref 201, .int (0), .int (0), .int (0), .int (0), .int (0), .int (0), .int (0), .int (0), .int (0), .int (0), .int (0), .int (0), .int (0)]), .inl (1, 80, []), .inr (3, [.ref 203, .int (0), .int (0), .int (0), .int (0), .int (0), .int (0), .int (0), .int (0), .int (0), .int (0), .int (0), .int (0), .int (0)]), .inl (1, 80, []), .inr (3, [.ref 205, .int (0), .int (0), .int (0), .int (0), .int (0), .int (0), .int (0), .int (0), .int (0), .int (0), .int (0), .int (0), .int (0)]), .inl (1, 80, []), .inr (3, [.ref 207, .int (0), .int (0), .int (0), .int (0), .int (0), .int (0), .int (0), .int (0), .int (0), .int (0), .int (0), .int (0), .int (0)]), .inl (1, 80, []),
  .inr (3, [.ref 209, .int (0), .int (0), .int (0), .int (0), .int (0), .int (0), .int (0), .int (0), .int (0), .int (0), .int (0), .int (0), .int (0)]), .inl (1, 80, []), .inr (3, [.ref 211, .int (0), .int (0), .int (0), .int (0), .int (0), .int (0), .int (0), .int (0), .int (0), .int (0), .int (0), .int (0), .int (0)]), .inl (1, 80, []), .inr (3, [.ref 213, .int (0), .int (0), .int (0), .int (0), .int (0), .int (0), .int (0), .int (0), .int (0), .int (0), .int (0), .int (0), .int (0)]), .inl (1, 80, []), .inr (3, [.ref 215, .int (0), .int (0), .int (0), .int (0), .int (0), .int (0), .int (0), .int (0), .int (0), .int (0), .int (0), .int (0), .int (0)]), .inl (1, 80, []),
  .inr (3, [.ref 217, .int (0), .int (0), .int (0), .int (0), .int (0), .int (0), .int (0), .int (0), .int (0), .int (0), .int (0), .int (0), .int (0)]), .inl (1, 80, []), .inr (3, [.ref 219, .int (0), .int (0), .int (0), .int (0), .int (0), .int (0), .int (0), .int (0), .int (0), .int (0), .int (0), .int (0), .int (0)]), .inl (1, 80, []), .inr (0, [.int (0), .int (0), .int (0), .int (0), .int (0), .int (0), .int (0)]), .inr (0, [.int (0), .int (0), .int (0), .int (0), .int (0), .int (0), .int (0)]), .inr (0, [.int (0), .int (0), .int (0), .int (0), .int (0), .int (0), .int (0)]), .inr (0, [.int (0), .int (0), .int (0), .int (0), .int (0), .int (0), .int (0)]),
  .inr (0, [.int (0), .int (0), .int (0), .int (0), .int (0), .int (0), .int (0)]), .inr (0, [.int (0), .int (0), .int (0), .int (0), .int (0), .int (0), .int (0)]), .inr (0, [.int (0), .int (0), .int (0), .int (0), .int (0), .int (0), .int (0)]), .inr (0, [.int (0), .int (0), .int (0), .int (0), .int (0), .int (0), .int (0)]), .inr (0, [.int (0), .int (0), .int (0), .int (0), .int (0), .int (0), .int (0)]), .inr (0, [.int (0), .int (0), .int (0), .int (0), .int (0), .int (0), .int (0)]), .inr (0, [.int (0), .int (0), .int (0), .int (0), .int (0), .int (0), .int (0)]), .inr (0, [.int (0), .int (0), .int (0), .int (0), .int (0), .int (0), .int (0)]),
  .inr (0, [.int (0), .int (0), .int (0), .int (0), .int (0), .int (0), .int (0)]), .inr (0, [.int (0), .int (0), .int (0), .int (0), .int (0), .int (0), .int (0)]), .inr (0, [.int (0), .int (0), .int (0), .int (0), .int (0), .int (0), .int (0)]), .inr (0, [.int (0), .int (0), .int (0), .int (0), .int (0), .int (0), .int (0)]), .inr (0, [.int (0), .int (0), .int (0), .int (0), .int (0), .int (0), .int (0)]), .inr (0, [.int (0), .int (0), .int (0), .int (0), .int (0), .int (0), .int (0)]), .inr (0, [.int (0), .int (0), .int (0), .int (0), .int (0), .int (0), .int (0)]), .inr (0, [.int (0), .int (0), .int (0), .int (0), .int (0), .int (0), .int (0)]),
  .inr (0, [.int (0), .int (0), .int (0), .int (0), .int (0), .int (0), .int (0)]), .inr (0, [.int (0), .int (0), .int (0), .int (0), .int (0), .int (0), .int (0)]), .inr (0, [.int (0), .int (0), .int (0), .int (0), .int (0), .int (0), .int (0)]), .inr (0, [.int (0), .int (0), .int (0), .int (0), .int (0), .int (0), .int (0)]), .inr (0, [.int (0), .int (0), .int (0), .int (0), .int (0), .int (0), .int (0)]), .inr (0, [.int (0), .int (0), .int (0), .int (0), .int (0), .int (0), .int (0)]), .inr (0, [.int (0), .int (0), .int (0), .int (0), .int (0), .int (0), .int (0)]), .inr (0, [.int (0), .int (0), .int (0), .int (0), .int (0), .int (0), .int (0)]),
  .inr (0, [.int (0), .int (0), .int (0), .int (0), .int (0), .int (0), .int (0)]), .inr (0, [.int (0), .int (0), .int (0), .int (0), .int (0), .int (0), .int (0)]), .inr (6, [.ref 251, .ref 254]), .inr (8, [.ref 252, .ref 253, .int (-1)]), .inl (1, 72, []), .inl (1, 36, []), .inl (1, 8, []), .inr (7, [.ref 256, .ref 257, .ref 258, .ref 259, .int (0), .int (-1), .int (-1), .int (0), .int (0), .int (0)]),
  .inl (1, 300, []), .inl (1, 301, []), .inl (1, 301, []), .inl (1, 301, []), .inr (10, [.ref 261, .ref 262, .ref 263, .ref 264, .ref 265, .int (0), .int (0)]), .inl (1, 300, []), .inl (1, 300, []), .inl (1, 10, []),
  .inl (1, 10, []), .inl (1, 300, []), .inl (7, 4, [some 267, some 273, some 279, some 285]), .inr (10, [.ref 268, .ref 269, .ref 270, .ref 271, .ref 272, .int (0), .int (0)]), .inl (1, 300, []), .inl (1, 300, []), .inl (1, 10, []), .inl (1, 10, []),
  .inl (1, 300, []), .inr (10, [.ref 274, .ref 275, .ref 276, .ref 277, .ref 278, .int (0), .int (0)]), .inl (1, 300, []), .inl (1, 300, []), .inl (1, 10, []), .inl (1, 10, []), .inl (1, 300, []), .inr (10, [.ref 280, .ref 281, .ref 282, .ref 283, .ref 284, .int (0), .int (0)]),
  .inl (1, 300, []), .inl (1, 300, []), .inl (1, 10, []), .inl (1, 10, []), .inl (1, 300, []), .inr (10, [.ref 286, .ref 287, .ref 288, .ref 289, .ref 290, .int (0), .int (0)]), .inl (1, 300, []), .inl (1, 300, []),
  .inl (1, 10, []), .inl (1, 10, []), .inl (1, 300, [])
]
def eD2 : eM := [
  .inr (12, [.ref 292, .ref 293, .ref 294, .ref 295, .int (0), .int (-1), .int (-1), .ref 296, .ref 297, .ref 298, .ref 299, .ref 300, .int (0), .int (0), .int (0), .int (0), .int (0), .int (0), .int (0), .int (0), .int (0), .ref 301, .ref 302, .int (0), .ref 303, .ref 304, .int (0), .int (0), .int (0), .ref 305, .ref 306, .int (0), .ref 307, .ref 308, .ref 309, .ref 310, .ref 311, .ref 312, .ref 313, .ref 314, .ref 315, .ref 316]), .inl (1, 1610, []), .inl (1, 1610, []), .inl (1, 1610, []), .inl (0, 300, []), .inl (1, 4, []), .inl (1, 40, []), .inl (1, 40, []),
  .inl (1, 1600, []), .inl (1, 1600, []), .inl (1, 40, []), .inl (1, 41, []), .inl (1, 80, []), .inl (1, 80, []), .inl (1, 10, []), .inl (1, 10, []),
  .inl (1, 400, []), .inl (1, 400, []), .inl (1, 8, []), .inl (2, 200, []), .inl (3, 6, []), .inl (1, 72, []), .inl (1, 6, []), .inl (1, 80, []),
  .inl (1, 81, []), .inl (1, 81, [])
]
theorem eMS : eCall 4000 6 0 0 [.inr (11, xNewO 11)] = some eD1 := by decide +kernel
theorem me_12 : xMet 12 = some (yX12_init, cX12_init, 2, none, 12, 0, 2, 5180, 5179, 0, 1013) := rfl
theorem me_0 : xMet 0 = some (yX11_init, cX11_init, 2, none, 11, 0, 2, 1026, 1025, 0, 1001) := rfl
def hh_12 : xH := (none, true, 12, none, 25, 10009)
def eNo : Nat → Nat → eM → Option eM := fun _ _ _ => none
theorem eMM : eTo hh_12 cX12_init eNo 222 4000 (0, [some (.ref 291), none], [], eD1 ++ [.inr (12, xNewO 12)], 0, 0) = some (222, [some (.ref 291), none], [], eD1 ++ eD2, 25, 10009) := by decide +kernel
def m0 : xMem := (fun b j => if ((b = 1 ∨ b = 84 ∨ b = 167) ∧ j = 11) ∨ (b = 251 ∧ j = 2) ∨ ((b = 255 ∨ b = 291) ∧ (j = 5 ∨ j = 6)) then -1 else 0, fun _ => 0)
def eLayOk (a : Nat) (e : eC) (t : Nat × Nat × List (Option Nat)) : Bool := match e with
  | .inl (ty, n, L) => decide (t.1 = ty + 100) && (decide (t.2.1 = n) && (bif decide (ty < 4) then decide (¬ (a = 1 ∨ a = 84 ∨ a = 167 ∨ a = 251 ∨ a = 255 ∨ a = 291)) else decide (t.2.2 = L)))
  | .inr (ci, fs) => decide (t.1 = ci) && (decide (ci < 100) && decide (xFs m0 a t.2.2 = fs))
theorem eLayOk_of {a : Nat} {e : eC} {t : Nat × Nat × List (Option Nat)} (h : eLayOk a e t = true) : eCell e = xCellOf m0 a t := by
  obtain ⟨t1, t2, t3⟩ := t
  match e, h with
  | .inl (ty, n, L), h =>
    simp only [eLayOk, Bool.and_eq_true, decide_eq_true_eq] at h
    obtain ⟨rfl, rfl, h⟩ := h
    unfold xCellOf
    simp only
    rw [if_neg (by omega)]
    by_cases h4 : ty < 4
    · rw [decide_eq_true h4] at h
      have ha : ¬ (a = 1 ∨ a = 84 ∨ a = 167 ∨ a = 251 ∨ a = 255 ∨ a = 291) := of_decide_eq_true h
      have hm : m0.1 a = fun _ => 0 := by
        funext j
        unfold m0
        simp only
        rw [if_neg (by omega)]
      rw [eNewP h4]
      rcases (show ty = 0 ∨ ty = 1 ∨ ty = 2 ∨ ty = 3 by omega) with rfl | rfl | rfl | rfl
      · rw [if_neg (by decide), if_pos (by decide), hm]; rfl
      · rw [if_neg (by decide), if_pos (by decide), hm]; rfl
      · rw [if_pos (by decide)]; rfl
      · rw [if_neg (by decide), if_pos (by decide), hm]; rfl
    · rw [decide_eq_false h4] at h
      have h : t3 = L := of_decide_eq_true h
      subst h
      rw [if_neg (by omega), if_neg (by omega), Nat.add_sub_cancel]
      unfold eCell
      simp only [if_neg h4]
  | .inr (ci, fs), h =>
    simp only [eLayOk, Bool.and_eq_true, decide_eq_true_eq] at h
    obtain ⟨rfl, h1, h2⟩ := h
    unfold xCellOf eCell
    simp only
    rw [if_pos h1, h2]
theorem eLayAll : ∀ a, a < 317 → (match (eD1 ++ eD2)[a]?, xTmL[a]? with | some e, some t => eLayOk a e t | _, _ => false) = true := by decide +kernel
theorem eLen : (eD1 ++ eD2).length = 317 := by decide +kernel
theorem eLay : eMem (eD1 ++ eD2) = xLay m0 := by
  apply List.ext_getElem?
  intro a
  by_cases ha : a < 317
  · have h := eLayAll a ha
    unfold eMem xLay
    rw [List.getElem?_map, List.getElem?_mapIdx]
    split at h
    · rename_i e t he ht
      rw [he, ht]
      exact congrArg some (eLayOk_of h)
    · cases h
  · rw [List.getElem?_eq_none (by rw [eMem_len, eLen]; omega), List.getElem?_eq_none (by rw [xLay_len, xTmL_len]; omega)]
theorem hModel : isModel 291 := by decide +kernel
def mA (k : Nat) : xMem := (fun b j => if b = 292 ∧ (j = 5 ∨ (580 ≤ j ∧ j < 580 + k)) then -1 else m0.1 b j, m0.2)
theorem mA_0 : xPut m0 292 5 (-1) = mA 0 := by
  unfold xPut mA
  refine Prod.ext ?_ rfl
  funext b j
  by_cases h : b = 292 ∧ j = 5
  · simp [h]
  · simp only [if_neg h]
    rw [if_neg]
    omega
theorem mA_succ (k : Nat) : xPut (mA k) 292 (580 + k) (-1) = mA (k + 1) := by
  unfold xPut mA
  refine Prod.ext ?_ rfl
  funext b j
  simp only
  by_cases h : b = 292 ∧ j = 580 + k
  · rw [if_pos h, if_pos (by omega)]
  · rw [if_neg h]
    by_cases h2 : b = 292 ∧ (j = 5 ∨ (580 ≤ j ∧ j < 580 + k))
    · rw [if_pos h2, if_pos (by omega)]
    · rw [if_neg h2, if_neg (by omega)]
def mB (k : Nat) : xMem := (fun b j => if b = 293 ∧ j < k then (mA 800).1 292 j else (mA 800).1 b j, m0.2)
theorem mB_0 : mB 0 = mA 800 := by
  unfold mB
  refine Prod.ext ?_ rfl
  funext b j
  simp
theorem mB_a (k j : Nat) : (mB k).1 292 j = (mA 800).1 292 j := by
  unfold mB
  simp
theorem mB_succ (k : Nat) : xPut (mB k) 293 k ((mB k).1 292 k) = mB (k + 1) := by
  rw [mB_a]
  unfold xPut mB
  refine Prod.ext ?_ rfl
  funext b j
  simp only
  by_cases h : b = 293 ∧ j = k
  · obtain ⟨rfl, rfl⟩ := h
    rw [if_pos ⟨rfl, rfl⟩, if_pos ⟨rfl, by omega⟩]
  · rw [if_neg h]
    by_cases h2 : b = 293 ∧ j < k
    · rw [if_pos h2, if_pos (by omega)]
    · rw [if_neg h2, if_neg (by omega)]
theorem xIn_nI {j n : Nat} (h : j < n) (hn : n < 2 ^ 31) : xIn (nI j) n = true := by
  unfold xIn
  rw [nI_clamp (by omega)]
  simp [nI_pos (show j < 2 ^ 31 by omega), h]

theorem sModel_2 {d : Nat} : ∀ (e k : Nat), k + e = 1610 → xFx hh_12 cX12_init d 257 [some (.ref 291), some (.int (nI k))] [] (xLay (mB k)) 25 10009 none (xLay (mB 1610)) := by
  intro e
  induction e with
  | zero =>
    intro k hk
    have hk : k = 1610 := by omega
    subst hk
    refine fx_iload_n dX12_init_257 rfl rfl ?_
    refine fx_sipush (x := 1610) dX12_init_258 rfl (by decide) ?_
    refine fx_icmp_ge (t := 282) dX12_init_261 rfl rfl (fun _ => ?_) (fun hc => absurd (by decide) hc)
    exact fx_return dX12_init_282 rfl rfl
  | succ e ih =>
    intro k hk
    refine fx_iload_n dX12_init_257 rfl rfl ?_
    refine fx_sipush (x := nI 1610) dX12_init_258 rfl (by decide) ?_
    refine fx_icmp_ge (t := 282) dX12_init_261 rfl rfl (fun hc => absurd hc (nI_ge (by omega) (by omega))) (fun _ => ?_)
    refine fx_aload_n dX12_init_264 rfl rfl ?_
    refine gx_getr dX12_init_265 rfl fd_12_13 hModel.1 rfl rfl ?_
    refine fx_iload_n dX12_init_268 rfl rfl ?_
    refine fx_aload_n dX12_init_269 rfl rfl ?_
    refine gx_getr dX12_init_270 rfl fd_12_7 hModel.1 rfl rfl ?_
    refine fx_iload_n dX12_init_273 rfl rfl ?_
    have hc2 : (nI k).toNatClampNeg = k := nI_clamp (by omega)
    refine gx_iaload (y := (mB k).1 292 k) dX12_init_274 rfl hModel.2.1 (xIn_nI (by omega) (by omega)) (by rw [hc2]) ?_
    refine gx_iastore (m2 := mB (k + 1)) dX12_init_275 rfl hModel.2.2.1 (xIn_nI (by omega) (by omega)) (by rw [hc2]; exact mB_succ k) ?_
    refine fx_iinc (ls2 := [some (.ref 291), some (.int (nI (k + 1)))]) dX12_init_276 rfl rfl rfl (nI_1 k) rfl ?_
    refine fx_goto (t := 257) dX12_init_279 rfl rfl ?_
    exact ih (k + 1) (by omega)
theorem sModel_1 {d : Nat} : ∀ (e k : Nat), k + e = 800 → xFx hh_12 cX12_init d 231 [some (.ref 291), some (.int (nI k))] [] (xLay (mA k)) 25 10009 none (xLay (mB 1610)) := by
  intro e
  induction e with
  | zero =>
    intro k hk
    have hk : k = 800 := by omega
    subst hk
    refine fx_iload_n dX12_init_231 rfl rfl ?_
    refine fx_sipush (x := 800) dX12_init_232 rfl (by decide) ?_
    refine fx_icmp_ge (t := 255) dX12_init_235 rfl rfl (fun _ => ?_) (fun hc => absurd (by decide) hc)
    refine fx_iconst (x := 0) dX12_init_255 rfl (by decide) ?_
    refine fx_istore_n (ls2 := [some (.ref 291), some (.int (nI 0))]) dX12_init_256 rfl rfl rfl ?_
    have e := sModel_2 (d := d) 1610 0 (by omega)
    rw [mB_0] at e
    exact e
  | succ e ih =>
    intro k hk
    refine fx_iload_n dX12_init_231 rfl rfl ?_
    refine fx_sipush (x := nI 800) dX12_init_232 rfl (by decide) ?_
    refine fx_icmp_ge (t := 255) dX12_init_235 rfl rfl (fun hc => absurd hc (nI_ge (by omega) (by omega))) (fun _ => ?_)
    refine fx_aload_n dX12_init_238 rfl rfl ?_
    refine gx_getr dX12_init_239 rfl fd_12_7 hModel.1 rfl rfl ?_
    refine fx_sipush (x := nI 580) dX12_init_242 rfl (by decide) ?_
    refine fx_iload_n dX12_init_245 rfl rfl ?_
    refine fx_iadd dX12_init_246 rfl (nI_add 580 k) ?_
    refine fx_iconst (x := -1) dX12_init_247 rfl (by decide) ?_
    have hc2 : (nI (580 + k)).toNatClampNeg = 580 + k := nI_clamp (by omega)
    refine gx_iastore (m2 := mA (k + 1)) dX12_init_248 rfl hModel.2.1 (xIn_nI (by omega) (by omega)) (by rw [hc2]; exact mA_succ k) ?_
    refine fx_iinc (ls2 := [some (.ref 291), some (.int (nI (k + 1)))]) dX12_init_249 rfl rfl rfl (nI_1 k) rfl ?_
    refine fx_goto (t := 231) dX12_init_252 rfl rfl ?_
    exact ih (k + 1) (by omega)
/-- the reference's constructor -/
theorem sModel {d : Nat} : xEx (d + 1) 12 [.ref 291] (eMem (eD1 ++ [.inr (12, xNewO 12)])) none (xLay (mB 1610)) := by
  refine xEx_of me_12 rfl ?_
  show xFx hh_12 cX12_init d 0 [some (.ref 291), none] [] (eMem (eD1 ++ [.inr (12, xNewO 12)])) 0 0 none (xLay (mB 1610))
  refine eTo_ok (P := 222) (call := eNo) (fun z a D D2 he => by cases he) 4000 (0, [some (.ref 291), none], [], eD1 ++ [.inr (12, xNewO 12)], 0, 0) _ eMM ?_
  show xFx hh_12 cX12_init d 222 [some (.ref 291), none] [] (eMem (eD1 ++ eD2)) 25 10009 none (xLay (mB 1610))
  rw [eLay]
  refine fx_aload_n dX12_init_222 rfl rfl ?_
  refine gx_getr dX12_init_223 rfl fd_12_7 hModel.1 rfl rfl ?_
  refine fx_iconst (x := 5) dX12_init_226 rfl (by decide) ?_
  refine fx_iconst (x := -1) dX12_init_227 rfl (by decide) ?_
  refine gx_iastore (m2 := mA 0) dX12_init_228 rfl hModel.2.1 (by decide) mA_0 ?_
  refine fx_iconst (x := 0) dX12_init_229 rfl (by decide) ?_
  refine fx_istore_n (ls2 := [some (.ref 291), some (.int (nI 0))]) dX12_init_230 rfl rfl rfl ?_
  exact sModel_1 800 0 (by omega)
