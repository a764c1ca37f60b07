/-! THE LAW as a pure function, and its run -/
theorem dL_law_18 : decode cL_law 18 = .ok (.iload_n 3, 1) := by decide +kernel
theorem dL_law_19 : decode cL_law 19 = .ok (.aload_n 0, 1) := by decide +kernel
theorem dL_law_20 : decode cL_law 20 = .ok (.arraylength, 1) := by decide +kernel
theorem dL_law_21 : decode cL_law 21 = .ok (.bipush 8, 2) := by decide +kernel
theorem dL_law_23 : decode cL_law 23 = .ok (.isub, 1) := by decide +kernel
theorem dL_law_24 : decode cL_law 24 = .ok (.if_icmp .gt 1372, 3) := by decide +kernel
theorem dL_law_27 : decode cL_law 27 = .ok (.aload_n 0, 1) := by decide +kernel
theorem dL_law_28 : decode cL_law 28 = .ok (.iload_n 3, 1) := by decide +kernel
theorem dL_law_29 : decode cL_law 29 = .ok (.iaload, 1) := by decide +kernel
theorem dL_law_30 : decode cL_law 30 = .ok (.bipush 63, 2) := by decide +kernel
theorem dL_law_32 : decode cL_law 32 = .ok (.iand, 1) := by decide +kernel
theorem dL_law_33 : decode cL_law 33 = .ok (.tableswitch 1357 0 33 #[151, 174, 207, 270, 303, 336, 359, 478, 541, 564, 577, 600, 623, 646, 679, 712, 755, 814, 837, 880, 923, 956, 989, 1042, 1075, 1134, 1147, 1200, 1223, 1246, 1259, 1308, 1321, 1334], 151) := by decide +kernel
theorem dL_law_184 : decode cL_law 184 = .ok (.aload_n 1, 1) := by decide +kernel
theorem dL_law_185 : decode cL_law 185 = .ok (.aload_n 0, 1) := by decide +kernel
theorem dL_law_186 : decode cL_law 186 = .ok (.iload_n 3, 1) := by decide +kernel
theorem dL_law_187 : decode cL_law 187 = .ok (.iconst 1, 1) := by decide +kernel
theorem dL_law_188 : decode cL_law 188 = .ok (.iadd, 1) := by decide +kernel
theorem dL_law_189 : decode cL_law 189 = .ok (.iaload, 1) := by decide +kernel
theorem dL_law_190 : decode cL_law 190 = .ok (.invokevirtual 13, 3) := by decide +kernel
theorem dL_law_193 : decode cL_law 193 = .ok (.aload_n 2, 1) := by decide +kernel
theorem dL_law_194 : decode cL_law 194 = .ok (.aload_n 0, 1) := by decide +kernel
theorem dL_law_195 : decode cL_law 195 = .ok (.iload_n 3, 1) := by decide +kernel
theorem dL_law_196 : decode cL_law 196 = .ok (.iconst 1, 1) := by decide +kernel
theorem dL_law_197 : decode cL_law 197 = .ok (.iadd, 1) := by decide +kernel
theorem dL_law_198 : decode cL_law 198 = .ok (.iaload, 1) := by decide +kernel
theorem dL_law_199 : decode cL_law 199 = .ok (.invokevirtual 17, 3) := by decide +kernel
theorem dL_law_202 : decode cL_law 202 = .ok (.if_icmp .eq 1188, 3) := by decide +kernel
theorem dL_law_205 : decode cL_law 205 = .ok (.iconst 0, 1) := by decide +kernel
theorem dL_law_206 : decode cL_law 206 = .ok (.ireturn, 1) := by decide +kernel
theorem dL_law_207 : decode cL_law 207 = .ok (.aload_n 1, 1) := by decide +kernel
theorem dL_law_208 : decode cL_law 208 = .ok (.aload_n 0, 1) := by decide +kernel
theorem dL_law_209 : decode cL_law 209 = .ok (.iload_n 3, 1) := by decide +kernel
theorem dL_law_210 : decode cL_law 210 = .ok (.iconst 1, 1) := by decide +kernel
theorem dL_law_211 : decode cL_law 211 = .ok (.iadd, 1) := by decide +kernel
theorem dL_law_212 : decode cL_law 212 = .ok (.iaload, 1) := by decide +kernel
theorem dL_law_213 : decode cL_law 213 = .ok (.aload_n 0, 1) := by decide +kernel
theorem dL_law_214 : decode cL_law 214 = .ok (.iload_n 3, 1) := by decide +kernel
theorem dL_law_215 : decode cL_law 215 = .ok (.iconst 2, 1) := by decide +kernel
theorem dL_law_216 : decode cL_law 216 = .ok (.iadd, 1) := by decide +kernel
theorem dL_law_217 : decode cL_law 217 = .ok (.iaload, 1) := by decide +kernel
theorem dL_law_218 : decode cL_law 218 = .ok (.invokevirtual 18, 3) := by decide +kernel
theorem dL_law_221 : decode cL_law 221 = .ok (.aload_n 2, 1) := by decide +kernel
theorem dL_law_222 : decode cL_law 222 = .ok (.aload_n 0, 1) := by decide +kernel
theorem dL_law_223 : decode cL_law 223 = .ok (.iload_n 3, 1) := by decide +kernel
theorem dL_law_224 : decode cL_law 224 = .ok (.iconst 1, 1) := by decide +kernel
theorem dL_law_225 : decode cL_law 225 = .ok (.iadd, 1) := by decide +kernel
theorem dL_law_226 : decode cL_law 226 = .ok (.iaload, 1) := by decide +kernel
theorem dL_law_227 : decode cL_law 227 = .ok (.aload_n 0, 1) := by decide +kernel
theorem dL_law_228 : decode cL_law 228 = .ok (.iload_n 3, 1) := by decide +kernel
theorem dL_law_229 : decode cL_law 229 = .ok (.iconst 2, 1) := by decide +kernel
theorem dL_law_230 : decode cL_law 230 = .ok (.iadd, 1) := by decide +kernel
theorem dL_law_231 : decode cL_law 231 = .ok (.iaload, 1) := by decide +kernel
theorem dL_law_232 : decode cL_law 232 = .ok (.invokevirtual 22, 3) := by decide +kernel
theorem dL_law_235 : decode cL_law 235 = .ok (.if_icmp .eq 1155, 3) := by decide +kernel
theorem dL_law_238 : decode cL_law 238 = .ok (.iconst 0, 1) := by decide +kernel
theorem dL_law_239 : decode cL_law 239 = .ok (.ireturn, 1) := by decide +kernel
theorem dL_law_240 : decode cL_law 240 = .ok (.aload_n 1, 1) := by decide +kernel
theorem dL_law_241 : decode cL_law 241 = .ok (.aload_n 0, 1) := by decide +kernel
theorem dL_law_242 : decode cL_law 242 = .ok (.iload_n 3, 1) := by decide +kernel
theorem dL_law_243 : decode cL_law 243 = .ok (.iconst 1, 1) := by decide +kernel
theorem dL_law_244 : decode cL_law 244 = .ok (.iadd, 1) := by decide +kernel
theorem dL_law_245 : decode cL_law 245 = .ok (.iaload, 1) := by decide +kernel
theorem dL_law_246 : decode cL_law 246 = .ok (.aload_n 0, 1) := by decide +kernel
theorem dL_law_247 : decode cL_law 247 = .ok (.iload_n 3, 1) := by decide +kernel
theorem dL_law_248 : decode cL_law 248 = .ok (.iconst 2, 1) := by decide +kernel
theorem dL_law_249 : decode cL_law 249 = .ok (.iadd, 1) := by decide +kernel
theorem dL_law_250 : decode cL_law 250 = .ok (.iaload, 1) := by decide +kernel
theorem dL_law_251 : decode cL_law 251 = .ok (.aload_n 0, 1) := by decide +kernel
theorem dL_law_252 : decode cL_law 252 = .ok (.iload_n 3, 1) := by decide +kernel
theorem dL_law_253 : decode cL_law 253 = .ok (.iconst 3, 1) := by decide +kernel
theorem dL_law_254 : decode cL_law 254 = .ok (.iadd, 1) := by decide +kernel
theorem dL_law_255 : decode cL_law 255 = .ok (.iaload, 1) := by decide +kernel
theorem dL_law_256 : decode cL_law 256 = .ok (.aload_n 0, 1) := by decide +kernel
theorem dL_law_257 : decode cL_law 257 = .ok (.iload_n 3, 1) := by decide +kernel
theorem dL_law_258 : decode cL_law 258 = .ok (.iconst 4, 1) := by decide +kernel
theorem dL_law_259 : decode cL_law 259 = .ok (.iadd, 1) := by decide +kernel
theorem dL_law_260 : decode cL_law 260 = .ok (.iaload, 1) := by decide +kernel
theorem dL_law_261 : decode cL_law 261 = .ok (.aload_n 0, 1) := by decide +kernel
theorem dL_law_262 : decode cL_law 262 = .ok (.iload_n 3, 1) := by decide +kernel
theorem dL_law_263 : decode cL_law 263 = .ok (.iconst 5, 1) := by decide +kernel
theorem dL_law_264 : decode cL_law 264 = .ok (.iadd, 1) := by decide +kernel
theorem dL_law_265 : decode cL_law 265 = .ok (.iaload, 1) := by decide +kernel
theorem dL_law_266 : decode cL_law 266 = .ok (.invokevirtual 23, 3) := by decide +kernel
theorem dL_law_269 : decode cL_law 269 = .ok (.aload_n 2, 1) := by decide +kernel
theorem dL_law_270 : decode cL_law 270 = .ok (.aload_n 0, 1) := by decide +kernel
theorem dL_law_271 : decode cL_law 271 = .ok (.iload_n 3, 1) := by decide +kernel
theorem dL_law_272 : decode cL_law 272 = .ok (.iconst 1, 1) := by decide +kernel
theorem dL_law_273 : decode cL_law 273 = .ok (.iadd, 1) := by decide +kernel
theorem dL_law_274 : decode cL_law 274 = .ok (.iaload, 1) := by decide +kernel
theorem dL_law_275 : decode cL_law 275 = .ok (.aload_n 0, 1) := by decide +kernel
theorem dL_law_276 : decode cL_law 276 = .ok (.iload_n 3, 1) := by decide +kernel
theorem dL_law_277 : decode cL_law 277 = .ok (.iconst 2, 1) := by decide +kernel
theorem dL_law_278 : decode cL_law 278 = .ok (.iadd, 1) := by decide +kernel
theorem dL_law_279 : decode cL_law 279 = .ok (.iaload, 1) := by decide +kernel
theorem dL_law_280 : decode cL_law 280 = .ok (.aload_n 0, 1) := by decide +kernel
theorem dL_law_281 : decode cL_law 281 = .ok (.iload_n 3, 1) := by decide +kernel
theorem dL_law_282 : decode cL_law 282 = .ok (.iconst 3, 1) := by decide +kernel
theorem dL_law_283 : decode cL_law 283 = .ok (.iadd, 1) := by decide +kernel
theorem dL_law_284 : decode cL_law 284 = .ok (.iaload, 1) := by decide +kernel
theorem dL_law_285 : decode cL_law 285 = .ok (.aload_n 0, 1) := by decide +kernel
theorem dL_law_286 : decode cL_law 286 = .ok (.iload_n 3, 1) := by decide +kernel
theorem dL_law_287 : decode cL_law 287 = .ok (.iconst 4, 1) := by decide +kernel
theorem dL_law_288 : decode cL_law 288 = .ok (.iadd, 1) := by decide +kernel
theorem dL_law_289 : decode cL_law 289 = .ok (.iaload, 1) := by decide +kernel
theorem dL_law_290 : decode cL_law 290 = .ok (.aload_n 0, 1) := by decide +kernel
theorem dL_law_291 : decode cL_law 291 = .ok (.iload_n 3, 1) := by decide +kernel
theorem dL_law_292 : decode cL_law 292 = .ok (.iconst 5, 1) := by decide +kernel
theorem dL_law_293 : decode cL_law 293 = .ok (.iadd, 1) := by decide +kernel
theorem dL_law_294 : decode cL_law 294 = .ok (.iaload, 1) := by decide +kernel
theorem dL_law_295 : decode cL_law 295 = .ok (.invokevirtual 27, 3) := by decide +kernel
theorem dL_law_298 : decode cL_law 298 = .ok (.if_icmp .eq 1092, 3) := by decide +kernel
theorem dL_law_301 : decode cL_law 301 = .ok (.iconst 0, 1) := by decide +kernel
theorem dL_law_302 : decode cL_law 302 = .ok (.ireturn, 1) := by decide +kernel
theorem dL_law_303 : decode cL_law 303 = .ok (.aload_n 1, 1) := by decide +kernel
theorem dL_law_304 : decode cL_law 304 = .ok (.aload_n 0, 1) := by decide +kernel
theorem dL_law_305 : decode cL_law 305 = .ok (.iload_n 3, 1) := by decide +kernel
theorem dL_law_306 : decode cL_law 306 = .ok (.iconst 1, 1) := by decide +kernel
theorem dL_law_307 : decode cL_law 307 = .ok (.iadd, 1) := by decide +kernel
theorem dL_law_308 : decode cL_law 308 = .ok (.iaload, 1) := by decide +kernel
theorem dL_law_309 : decode cL_law 309 = .ok (.aload_n 0, 1) := by decide +kernel
theorem dL_law_310 : decode cL_law 310 = .ok (.iload_n 3, 1) := by decide +kernel
theorem dL_law_311 : decode cL_law 311 = .ok (.iconst 2, 1) := by decide +kernel
theorem dL_law_312 : decode cL_law 312 = .ok (.iadd, 1) := by decide +kernel
theorem dL_law_313 : decode cL_law 313 = .ok (.iaload, 1) := by decide +kernel
theorem dL_law_314 : decode cL_law 314 = .ok (.invokevirtual 28, 3) := by decide +kernel
theorem dL_law_317 : decode cL_law 317 = .ok (.aload_n 2, 1) := by decide +kernel
theorem dL_law_318 : decode cL_law 318 = .ok (.aload_n 0, 1) := by decide +kernel
theorem dL_law_319 : decode cL_law 319 = .ok (.iload_n 3, 1) := by decide +kernel
theorem dL_law_320 : decode cL_law 320 = .ok (.iconst 1, 1) := by decide +kernel
theorem dL_law_321 : decode cL_law 321 = .ok (.iadd, 1) := by decide +kernel
theorem dL_law_322 : decode cL_law 322 = .ok (.iaload, 1) := by decide +kernel
theorem dL_law_323 : decode cL_law 323 = .ok (.aload_n 0, 1) := by decide +kernel
theorem dL_law_324 : decode cL_law 324 = .ok (.iload_n 3, 1) := by decide +kernel
theorem dL_law_325 : decode cL_law 325 = .ok (.iconst 2, 1) := by decide +kernel
theorem dL_law_326 : decode cL_law 326 = .ok (.iadd, 1) := by decide +kernel
theorem dL_law_327 : decode cL_law 327 = .ok (.iaload, 1) := by decide +kernel
theorem dL_law_328 : decode cL_law 328 = .ok (.invokevirtual 31, 3) := by decide +kernel
theorem dL_law_331 : decode cL_law 331 = .ok (.if_icmp .eq 1059, 3) := by decide +kernel
theorem dL_law_334 : decode cL_law 334 = .ok (.iconst 0, 1) := by decide +kernel
theorem dL_law_335 : decode cL_law 335 = .ok (.ireturn, 1) := by decide +kernel
theorem dL_law_336 : decode cL_law 336 = .ok (.aload_n 1, 1) := by decide +kernel
theorem dL_law_337 : decode cL_law 337 = .ok (.aload_n 0, 1) := by decide +kernel
theorem dL_law_338 : decode cL_law 338 = .ok (.iload_n 3, 1) := by decide +kernel
theorem dL_law_339 : decode cL_law 339 = .ok (.iconst 1, 1) := by decide +kernel
theorem dL_law_340 : decode cL_law 340 = .ok (.iadd, 1) := by decide +kernel
theorem dL_law_341 : decode cL_law 341 = .ok (.iaload, 1) := by decide +kernel
theorem dL_law_342 : decode cL_law 342 = .ok (.aload_n 0, 1) := by decide +kernel
theorem dL_law_343 : decode cL_law 343 = .ok (.iload_n 3, 1) := by decide +kernel
theorem dL_law_344 : decode cL_law 344 = .ok (.iconst 2, 1) := by decide +kernel
theorem dL_law_345 : decode cL_law 345 = .ok (.iadd, 1) := by decide +kernel
theorem dL_law_346 : decode cL_law 346 = .ok (.iaload, 1) := by decide +kernel
theorem dL_law_347 : decode cL_law 347 = .ok (.invokevirtual 32, 3) := by decide +kernel
theorem dL_law_350 : decode cL_law 350 = .ok (.aload_n 2, 1) := by decide +kernel
theorem dL_law_351 : decode cL_law 351 = .ok (.aload_n 0, 1) := by decide +kernel
theorem dL_law_352 : decode cL_law 352 = .ok (.iload_n 3, 1) := by decide +kernel
theorem dL_law_353 : decode cL_law 353 = .ok (.iconst 1, 1) := by decide +kernel
theorem dL_law_354 : decode cL_law 354 = .ok (.iadd, 1) := by decide +kernel
theorem dL_law_355 : decode cL_law 355 = .ok (.iaload, 1) := by decide +kernel
theorem dL_law_356 : decode cL_law 356 = .ok (.aload_n 0, 1) := by decide +kernel
theorem dL_law_357 : decode cL_law 357 = .ok (.iload_n 3, 1) := by decide +kernel
theorem dL_law_358 : decode cL_law 358 = .ok (.iconst 2, 1) := by decide +kernel
theorem dL_law_359 : decode cL_law 359 = .ok (.iadd, 1) := by decide +kernel
theorem dL_law_360 : decode cL_law 360 = .ok (.iaload, 1) := by decide +kernel
theorem dL_law_361 : decode cL_law 361 = .ok (.invokevirtual 35, 3) := by decide +kernel
theorem dL_law_364 : decode cL_law 364 = .ok (.if_icmp .eq 1026, 3) := by decide +kernel
theorem dL_law_367 : decode cL_law 367 = .ok (.iconst 0, 1) := by decide +kernel
theorem dL_law_368 : decode cL_law 368 = .ok (.ireturn, 1) := by decide +kernel
theorem dL_law_369 : decode cL_law 369 = .ok (.aload_n 1, 1) := by decide +kernel
theorem dL_law_370 : decode cL_law 370 = .ok (.aload_n 0, 1) := by decide +kernel
theorem dL_law_371 : decode cL_law 371 = .ok (.iload_n 3, 1) := by decide +kernel
theorem dL_law_372 : decode cL_law 372 = .ok (.iconst 1, 1) := by decide +kernel
theorem dL_law_373 : decode cL_law 373 = .ok (.iadd, 1) := by decide +kernel
theorem dL_law_374 : decode cL_law 374 = .ok (.iaload, 1) := by decide +kernel
theorem dL_law_375 : decode cL_law 375 = .ok (.invokevirtual 36, 3) := by decide +kernel
theorem dL_law_378 : decode cL_law 378 = .ok (.aload_n 2, 1) := by decide +kernel
theorem dL_law_379 : decode cL_law 379 = .ok (.aload_n 0, 1) := by decide +kernel
theorem dL_law_380 : decode cL_law 380 = .ok (.iload_n 3, 1) := by decide +kernel
theorem dL_law_381 : decode cL_law 381 = .ok (.iconst 1, 1) := by decide +kernel
theorem dL_law_382 : decode cL_law 382 = .ok (.iadd, 1) := by decide +kernel
theorem dL_law_383 : decode cL_law 383 = .ok (.iaload, 1) := by decide +kernel
theorem dL_law_384 : decode cL_law 384 = .ok (.invokevirtual 40, 3) := by decide +kernel
theorem dL_law_387 : decode cL_law 387 = .ok (.if_icmp .eq 1003, 3) := by decide +kernel
theorem dL_law_390 : decode cL_law 390 = .ok (.iconst 0, 1) := by decide +kernel
theorem dL_law_391 : decode cL_law 391 = .ok (.ireturn, 1) := by decide +kernel
theorem dL_law_392 : decode cL_law 392 = .ok (.aload_n 1, 1) := by decide +kernel
theorem dL_law_393 : decode cL_law 393 = .ok (.aload_n 0, 1) := by decide +kernel
theorem dL_law_394 : decode cL_law 394 = .ok (.iload_n 3, 1) := by decide +kernel
theorem dL_law_395 : decode cL_law 395 = .ok (.iconst 1, 1) := by decide +kernel
theorem dL_law_396 : decode cL_law 396 = .ok (.iadd, 1) := by decide +kernel
theorem dL_law_397 : decode cL_law 397 = .ok (.iaload, 1) := by decide +kernel
theorem dL_law_398 : decode cL_law 398 = .ok (.aload_n 0, 1) := by decide +kernel
theorem dL_law_399 : decode cL_law 399 = .ok (.iload_n 3, 1) := by decide +kernel
theorem dL_law_400 : decode cL_law 400 = .ok (.iconst 2, 1) := by decide +kernel
theorem dL_law_401 : decode cL_law 401 = .ok (.iadd, 1) := by decide +kernel
theorem dL_law_402 : decode cL_law 402 = .ok (.iaload, 1) := by decide +kernel
theorem dL_law_403 : decode cL_law 403 = .ok (.aload_n 0, 1) := by decide +kernel
theorem dL_law_404 : decode cL_law 404 = .ok (.iload_n 3, 1) := by decide +kernel
theorem dL_law_405 : decode cL_law 405 = .ok (.iconst 3, 1) := by decide +kernel
theorem dL_law_406 : decode cL_law 406 = .ok (.iadd, 1) := by decide +kernel
theorem dL_law_407 : decode cL_law 407 = .ok (.iaload, 1) := by decide +kernel
theorem dL_law_408 : decode cL_law 408 = .ok (.aload_n 0, 1) := by decide +kernel
theorem dL_law_409 : decode cL_law 409 = .ok (.iload_n 3, 1) := by decide +kernel
theorem dL_law_410 : decode cL_law 410 = .ok (.iconst 4, 1) := by decide +kernel
theorem dL_law_411 : decode cL_law 411 = .ok (.iadd, 1) := by decide +kernel
theorem dL_law_412 : decode cL_law 412 = .ok (.iaload, 1) := by decide +kernel
theorem dL_law_413 : decode cL_law 413 = .ok (.aload_n 0, 1) := by decide +kernel
theorem dL_law_414 : decode cL_law 414 = .ok (.iload_n 3, 1) := by decide +kernel
theorem dL_law_415 : decode cL_law 415 = .ok (.iconst 5, 1) := by decide +kernel
theorem dL_law_416 : decode cL_law 416 = .ok (.iadd, 1) := by decide +kernel
theorem dL_law_417 : decode cL_law 417 = .ok (.iaload, 1) := by decide +kernel
theorem dL_law_418 : decode cL_law 418 = .ok (.aload_n 0, 1) := by decide +kernel
theorem dL_law_419 : decode cL_law 419 = .ok (.iload_n 3, 1) := by decide +kernel
theorem dL_law_420 : decode cL_law 420 = .ok (.bipush 6, 2) := by decide +kernel
theorem dL_law_422 : decode cL_law 422 = .ok (.iadd, 1) := by decide +kernel
theorem dL_law_423 : decode cL_law 423 = .ok (.iaload, 1) := by decide +kernel
theorem dL_law_424 : decode cL_law 424 = .ok (.ifCond .eq 7, 3) := by decide +kernel
theorem dL_law_427 : decode cL_law 427 = .ok (.iconst 1, 1) := by decide +kernel
theorem dL_law_428 : decode cL_law 428 = .ok (.goto 4, 3) := by decide +kernel
theorem dL_law_431 : decode cL_law 431 = .ok (.iconst 0, 1) := by decide +kernel
theorem dL_law_432 : decode cL_law 432 = .ok (.aload_n 0, 1) := by decide +kernel
theorem dL_law_433 : decode cL_law 433 = .ok (.iload_n 3, 1) := by decide +kernel
theorem dL_law_434 : decode cL_law 434 = .ok (.bipush 7, 2) := by decide +kernel
theorem dL_law_436 : decode cL_law 436 = .ok (.iadd, 1) := by decide +kernel
theorem dL_law_437 : decode cL_law 437 = .ok (.iaload, 1) := by decide +kernel
theorem dL_law_438 : decode cL_law 438 = .ok (.ifCond .eq 7, 3) := by decide +kernel
theorem dL_law_441 : decode cL_law 441 = .ok (.iconst 1, 1) := by decide +kernel
theorem dL_law_442 : decode cL_law 442 = .ok (.goto 4, 3) := by decide +kernel
theorem dL_law_445 : decode cL_law 445 = .ok (.iconst 0, 1) := by decide +kernel
theorem dL_law_446 : decode cL_law 446 = .ok (.invokevirtual 41, 3) := by decide +kernel
theorem dL_law_449 : decode cL_law 449 = .ok (.aload_n 2, 1) := by decide +kernel
theorem dL_law_450 : decode cL_law 450 = .ok (.aload_n 0, 1) := by decide +kernel
theorem dL_law_451 : decode cL_law 451 = .ok (.iload_n 3, 1) := by decide +kernel
theorem dL_law_452 : decode cL_law 452 = .ok (.iconst 1, 1) := by decide +kernel
theorem dL_law_453 : decode cL_law 453 = .ok (.iadd, 1) := by decide +kernel
theorem dL_law_454 : decode cL_law 454 = .ok (.iaload, 1) := by decide +kernel
theorem dL_law_455 : decode cL_law 455 = .ok (.aload_n 0, 1) := by decide +kernel
theorem dL_law_456 : decode cL_law 456 = .ok (.iload_n 3, 1) := by decide +kernel
theorem dL_law_457 : decode cL_law 457 = .ok (.iconst 2, 1) := by decide +kernel
theorem dL_law_458 : decode cL_law 458 = .ok (.iadd, 1) := by decide +kernel
theorem dL_law_459 : decode cL_law 459 = .ok (.iaload, 1) := by decide +kernel
theorem dL_law_460 : decode cL_law 460 = .ok (.aload_n 0, 1) := by decide +kernel
theorem dL_law_461 : decode cL_law 461 = .ok (.iload_n 3, 1) := by decide +kernel
theorem dL_law_462 : decode cL_law 462 = .ok (.iconst 3, 1) := by decide +kernel
theorem dL_law_463 : decode cL_law 463 = .ok (.iadd, 1) := by decide +kernel
theorem dL_law_464 : decode cL_law 464 = .ok (.iaload, 1) := by decide +kernel
theorem dL_law_465 : decode cL_law 465 = .ok (.aload_n 0, 1) := by decide +kernel
theorem dL_law_466 : decode cL_law 466 = .ok (.iload_n 3, 1) := by decide +kernel
theorem dL_law_467 : decode cL_law 467 = .ok (.iconst 4, 1) := by decide +kernel
theorem dL_law_468 : decode cL_law 468 = .ok (.iadd, 1) := by decide +kernel
theorem dL_law_469 : decode cL_law 469 = .ok (.iaload, 1) := by decide +kernel
theorem dL_law_470 : decode cL_law 470 = .ok (.aload_n 0, 1) := by decide +kernel
theorem dL_law_471 : decode cL_law 471 = .ok (.iload_n 3, 1) := by decide +kernel
theorem dL_law_472 : decode cL_law 472 = .ok (.iconst 5, 1) := by decide +kernel
theorem dL_law_473 : decode cL_law 473 = .ok (.iadd, 1) := by decide +kernel
theorem dL_law_474 : decode cL_law 474 = .ok (.iaload, 1) := by decide +kernel
theorem dL_law_475 : decode cL_law 475 = .ok (.aload_n 0, 1) := by decide +kernel
theorem dL_law_476 : decode cL_law 476 = .ok (.iload_n 3, 1) := by decide +kernel
theorem dL_law_477 : decode cL_law 477 = .ok (.bipush 6, 2) := by decide +kernel
theorem dL_law_479 : decode cL_law 479 = .ok (.iadd, 1) := by decide +kernel
theorem dL_law_480 : decode cL_law 480 = .ok (.iaload, 1) := by decide +kernel
theorem dL_law_481 : decode cL_law 481 = .ok (.ifCond .eq 7, 3) := by decide +kernel
theorem dL_law_484 : decode cL_law 484 = .ok (.iconst 1, 1) := by decide +kernel
theorem dL_law_485 : decode cL_law 485 = .ok (.goto 4, 3) := by decide +kernel
theorem dL_law_488 : decode cL_law 488 = .ok (.iconst 0, 1) := by decide +kernel
theorem dL_law_489 : decode cL_law 489 = .ok (.aload_n 0, 1) := by decide +kernel
theorem dL_law_490 : decode cL_law 490 = .ok (.iload_n 3, 1) := by decide +kernel
theorem dL_law_491 : decode cL_law 491 = .ok (.bipush 7, 2) := by decide +kernel
theorem dL_law_493 : decode cL_law 493 = .ok (.iadd, 1) := by decide +kernel
theorem dL_law_494 : decode cL_law 494 = .ok (.iaload, 1) := by decide +kernel
theorem dL_law_495 : decode cL_law 495 = .ok (.ifCond .eq 7, 3) := by decide +kernel
theorem dL_law_498 : decode cL_law 498 = .ok (.iconst 1, 1) := by decide +kernel
theorem dL_law_499 : decode cL_law 499 = .ok (.goto 4, 3) := by decide +kernel
theorem dL_law_502 : decode cL_law 502 = .ok (.iconst 0, 1) := by decide +kernel
theorem dL_law_503 : decode cL_law 503 = .ok (.invokevirtual 45, 3) := by decide +kernel
theorem dL_law_506 : decode cL_law 506 = .ok (.if_icmp .eq 884, 3) := by decide +kernel
theorem dL_law_509 : decode cL_law 509 = .ok (.iconst 0, 1) := by decide +kernel
theorem dL_law_510 : decode cL_law 510 = .ok (.ireturn, 1) := by decide +kernel
theorem dL_law_511 : decode cL_law 511 = .ok (.aload_n 1, 1) := by decide +kernel
theorem dL_law_512 : decode cL_law 512 = .ok (.aload_n 0, 1) := by decide +kernel
theorem dL_law_513 : decode cL_law 513 = .ok (.iload_n 3, 1) := by decide +kernel
theorem dL_law_514 : decode cL_law 514 = .ok (.iconst 1, 1) := by decide +kernel
theorem dL_law_515 : decode cL_law 515 = .ok (.iadd, 1) := by decide +kernel
theorem dL_law_516 : decode cL_law 516 = .ok (.iaload, 1) := by decide +kernel
theorem dL_law_517 : decode cL_law 517 = .ok (.aload_n 0, 1) := by decide +kernel
theorem dL_law_518 : decode cL_law 518 = .ok (.iload_n 3, 1) := by decide +kernel
theorem dL_law_519 : decode cL_law 519 = .ok (.iconst 2, 1) := by decide +kernel
theorem dL_law_520 : decode cL_law 520 = .ok (.iadd, 1) := by decide +kernel
theorem dL_law_521 : decode cL_law 521 = .ok (.iaload, 1) := by decide +kernel
theorem dL_law_522 : decode cL_law 522 = .ok (.aload_n 0, 1) := by decide +kernel
theorem dL_law_523 : decode cL_law 523 = .ok (.iload_n 3, 1) := by decide +kernel
theorem dL_law_524 : decode cL_law 524 = .ok (.iconst 3, 1) := by decide +kernel
theorem dL_law_525 : decode cL_law 525 = .ok (.iadd, 1) := by decide +kernel
theorem dL_law_526 : decode cL_law 526 = .ok (.iaload, 1) := by decide +kernel
theorem dL_law_527 : decode cL_law 527 = .ok (.aload_n 0, 1) := by decide +kernel
theorem dL_law_528 : decode cL_law 528 = .ok (.iload_n 3, 1) := by decide +kernel
theorem dL_law_529 : decode cL_law 529 = .ok (.iconst 4, 1) := by decide +kernel
theorem dL_law_530 : decode cL_law 530 = .ok (.iadd, 1) := by decide +kernel
theorem dL_law_531 : decode cL_law 531 = .ok (.iaload, 1) := by decide +kernel
theorem dL_law_532 : decode cL_law 532 = .ok (.aload_n 0, 1) := by decide +kernel
theorem dL_law_533 : decode cL_law 533 = .ok (.iload_n 3, 1) := by decide +kernel
theorem dL_law_534 : decode cL_law 534 = .ok (.iconst 5, 1) := by decide +kernel
theorem dL_law_535 : decode cL_law 535 = .ok (.iadd, 1) := by decide +kernel
theorem dL_law_536 : decode cL_law 536 = .ok (.iaload, 1) := by decide +kernel
theorem dL_law_537 : decode cL_law 537 = .ok (.invokevirtual 46, 3) := by decide +kernel
theorem dL_law_540 : decode cL_law 540 = .ok (.aload_n 2, 1) := by decide +kernel
theorem dL_law_541 : decode cL_law 541 = .ok (.aload_n 0, 1) := by decide +kernel
theorem dL_law_542 : decode cL_law 542 = .ok (.iload_n 3, 1) := by decide +kernel
theorem dL_law_543 : decode cL_law 543 = .ok (.iconst 1, 1) := by decide +kernel
theorem dL_law_544 : decode cL_law 544 = .ok (.iadd, 1) := by decide +kernel
theorem dL_law_545 : decode cL_law 545 = .ok (.iaload, 1) := by decide +kernel
theorem dL_law_546 : decode cL_law 546 = .ok (.aload_n 0, 1) := by decide +kernel
theorem dL_law_547 : decode cL_law 547 = .ok (.iload_n 3, 1) := by decide +kernel
theorem dL_law_548 : decode cL_law 548 = .ok (.iconst 2, 1) := by decide +kernel
theorem dL_law_549 : decode cL_law 549 = .ok (.iadd, 1) := by decide +kernel
theorem dL_law_550 : decode cL_law 550 = .ok (.iaload, 1) := by decide +kernel
theorem dL_law_551 : decode cL_law 551 = .ok (.aload_n 0, 1) := by decide +kernel
theorem dL_law_552 : decode cL_law 552 = .ok (.iload_n 3, 1) := by decide +kernel
theorem dL_law_553 : decode cL_law 553 = .ok (.iconst 3, 1) := by decide +kernel
theorem dL_law_554 : decode cL_law 554 = .ok (.iadd, 1) := by decide +kernel
theorem dL_law_555 : decode cL_law 555 = .ok (.iaload, 1) := by decide +kernel
theorem dL_law_556 : decode cL_law 556 = .ok (.aload_n 0, 1) := by decide +kernel
theorem dL_law_557 : decode cL_law 557 = .ok (.iload_n 3, 1) := by decide +kernel
theorem dL_law_558 : decode cL_law 558 = .ok (.iconst 4, 1) := by decide +kernel
theorem dL_law_559 : decode cL_law 559 = .ok (.iadd, 1) := by decide +kernel
theorem dL_law_560 : decode cL_law 560 = .ok (.iaload, 1) := by decide +kernel
theorem dL_law_561 : decode cL_law 561 = .ok (.aload_n 0, 1) := by decide +kernel
theorem dL_law_562 : decode cL_law 562 = .ok (.iload_n 3, 1) := by decide +kernel
theorem dL_law_563 : decode cL_law 563 = .ok (.iconst 5, 1) := by decide +kernel
theorem dL_law_564 : decode cL_law 564 = .ok (.iadd, 1) := by decide +kernel
theorem dL_law_565 : decode cL_law 565 = .ok (.iaload, 1) := by decide +kernel
theorem dL_law_566 : decode cL_law 566 = .ok (.invokevirtual 49, 3) := by decide +kernel
theorem dL_law_569 : decode cL_law 569 = .ok (.if_icmp .eq 821, 3) := by decide +kernel
theorem dL_law_572 : decode cL_law 572 = .ok (.iconst 0, 1) := by decide +kernel
theorem dL_law_573 : decode cL_law 573 = .ok (.ireturn, 1) := by decide +kernel
theorem dL_law_574 : decode cL_law 574 = .ok (.aload_n 1, 1) := by decide +kernel
theorem dL_law_575 : decode cL_law 575 = .ok (.aload_n 0, 1) := by decide +kernel
theorem dL_law_576 : decode cL_law 576 = .ok (.iload_n 3, 1) := by decide +kernel
theorem dL_law_577 : decode cL_law 577 = .ok (.iconst 1, 1) := by decide +kernel
theorem dL_law_578 : decode cL_law 578 = .ok (.iadd, 1) := by decide +kernel
theorem dL_law_579 : decode cL_law 579 = .ok (.iaload, 1) := by decide +kernel
theorem dL_law_580 : decode cL_law 580 = .ok (.invokevirtual 50, 3) := by decide +kernel
theorem dL_law_583 : decode cL_law 583 = .ok (.aload_n 2, 1) := by decide +kernel
theorem dL_law_584 : decode cL_law 584 = .ok (.aload_n 0, 1) := by decide +kernel
theorem dL_law_585 : decode cL_law 585 = .ok (.iload_n 3, 1) := by decide +kernel
theorem dL_law_586 : decode cL_law 586 = .ok (.iconst 1, 1) := by decide +kernel
theorem dL_law_587 : decode cL_law 587 = .ok (.iadd, 1) := by decide +kernel
theorem dL_law_588 : decode cL_law 588 = .ok (.iaload, 1) := by decide +kernel
theorem dL_law_589 : decode cL_law 589 = .ok (.invokevirtual 53, 3) := by decide +kernel
theorem dL_law_592 : decode cL_law 592 = .ok (.if_icmp .eq 798, 3) := by decide +kernel
theorem dL_law_595 : decode cL_law 595 = .ok (.iconst 0, 1) := by decide +kernel
theorem dL_law_596 : decode cL_law 596 = .ok (.ireturn, 1) := by decide +kernel
theorem dL_law_597 : decode cL_law 597 = .ok (.aload_n 1, 1) := by decide +kernel
theorem dL_law_598 : decode cL_law 598 = .ok (.invokevirtual 54, 3) := by decide +kernel
theorem dL_law_601 : decode cL_law 601 = .ok (.aload_n 2, 1) := by decide +kernel
theorem dL_law_602 : decode cL_law 602 = .ok (.invokevirtual 58, 3) := by decide +kernel
theorem dL_law_605 : decode cL_law 605 = .ok (.if_icmp .eq 785, 3) := by decide +kernel
theorem dL_law_608 : decode cL_law 608 = .ok (.iconst 0, 1) := by decide +kernel
theorem dL_law_609 : decode cL_law 609 = .ok (.ireturn, 1) := by decide +kernel
theorem dL_law_610 : decode cL_law 610 = .ok (.aload_n 1, 1) := by decide +kernel
theorem dL_law_611 : decode cL_law 611 = .ok (.aload_n 0, 1) := by decide +kernel
theorem dL_law_612 : decode cL_law 612 = .ok (.iload_n 3, 1) := by decide +kernel
theorem dL_law_613 : decode cL_law 613 = .ok (.iconst 1, 1) := by decide +kernel
theorem dL_law_614 : decode cL_law 614 = .ok (.iadd, 1) := by decide +kernel
theorem dL_law_615 : decode cL_law 615 = .ok (.iaload, 1) := by decide +kernel
theorem dL_law_616 : decode cL_law 616 = .ok (.invokevirtual 59, 3) := by decide +kernel
theorem dL_law_619 : decode cL_law 619 = .ok (.aload_n 2, 1) := by decide +kernel
theorem dL_law_620 : decode cL_law 620 = .ok (.aload_n 0, 1) := by decide +kernel
theorem dL_law_621 : decode cL_law 621 = .ok (.iload_n 3, 1) := by decide +kernel
theorem dL_law_622 : decode cL_law 622 = .ok (.iconst 1, 1) := by decide +kernel
theorem dL_law_623 : decode cL_law 623 = .ok (.iadd, 1) := by decide +kernel
theorem dL_law_624 : decode cL_law 624 = .ok (.iaload, 1) := by decide +kernel
theorem dL_law_625 : decode cL_law 625 = .ok (.invokevirtual 62, 3) := by decide +kernel
theorem dL_law_628 : decode cL_law 628 = .ok (.if_icmp .eq 762, 3) := by decide +kernel
theorem dL_law_631 : decode cL_law 631 = .ok (.iconst 0, 1) := by decide +kernel
theorem dL_law_632 : decode cL_law 632 = .ok (.ireturn, 1) := by decide +kernel
theorem dL_law_633 : decode cL_law 633 = .ok (.aload_n 1, 1) := by decide +kernel
theorem dL_law_634 : decode cL_law 634 = .ok (.aload_n 0, 1) := by decide +kernel
theorem dL_law_635 : decode cL_law 635 = .ok (.iload_n 3, 1) := by decide +kernel
theorem dL_law_636 : decode cL_law 636 = .ok (.iconst 1, 1) := by decide +kernel
theorem dL_law_637 : decode cL_law 637 = .ok (.iadd, 1) := by decide +kernel
theorem dL_law_638 : decode cL_law 638 = .ok (.iaload, 1) := by decide +kernel
theorem dL_law_639 : decode cL_law 639 = .ok (.invokevirtual 63, 3) := by decide +kernel
theorem dL_law_642 : decode cL_law 642 = .ok (.aload_n 2, 1) := by decide +kernel
theorem dL_law_643 : decode cL_law 643 = .ok (.aload_n 0, 1) := by decide +kernel
theorem dL_law_644 : decode cL_law 644 = .ok (.iload_n 3, 1) := by decide +kernel
theorem dL_law_645 : decode cL_law 645 = .ok (.iconst 1, 1) := by decide +kernel
theorem dL_law_646 : decode cL_law 646 = .ok (.iadd, 1) := by decide +kernel
theorem dL_law_647 : decode cL_law 647 = .ok (.iaload, 1) := by decide +kernel
theorem dL_law_648 : decode cL_law 648 = .ok (.invokevirtual 66, 3) := by decide +kernel
theorem dL_law_651 : decode cL_law 651 = .ok (.if_icmp .eq 739, 3) := by decide +kernel
theorem dL_law_654 : decode cL_law 654 = .ok (.iconst 0, 1) := by decide +kernel
theorem dL_law_655 : decode cL_law 655 = .ok (.ireturn, 1) := by decide +kernel
theorem dL_law_656 : decode cL_law 656 = .ok (.aload_n 1, 1) := by decide +kernel
theorem dL_law_657 : decode cL_law 657 = .ok (.aload_n 0, 1) := by decide +kernel
theorem dL_law_658 : decode cL_law 658 = .ok (.iload_n 3, 1) := by decide +kernel
theorem dL_law_659 : decode cL_law 659 = .ok (.iconst 1, 1) := by decide +kernel
theorem dL_law_660 : decode cL_law 660 = .ok (.iadd, 1) := by decide +kernel
theorem dL_law_661 : decode cL_law 661 = .ok (.iaload, 1) := by decide +kernel
theorem dL_law_662 : decode cL_law 662 = .ok (.invokevirtual 67, 3) := by decide +kernel
theorem dL_law_665 : decode cL_law 665 = .ok (.aload_n 2, 1) := by decide +kernel
theorem dL_law_666 : decode cL_law 666 = .ok (.aload_n 0, 1) := by decide +kernel
theorem dL_law_667 : decode cL_law 667 = .ok (.iload_n 3, 1) := by decide +kernel
theorem dL_law_668 : decode cL_law 668 = .ok (.iconst 1, 1) := by decide +kernel
theorem dL_law_669 : decode cL_law 669 = .ok (.iadd, 1) := by decide +kernel
theorem dL_law_670 : decode cL_law 670 = .ok (.iaload, 1) := by decide +kernel
theorem dL_law_671 : decode cL_law 671 = .ok (.invokevirtual 70, 3) := by decide +kernel
theorem dL_law_674 : decode cL_law 674 = .ok (.if_icmp .eq 716, 3) := by decide +kernel
theorem dL_law_677 : decode cL_law 677 = .ok (.iconst 0, 1) := by decide +kernel
theorem dL_law_678 : decode cL_law 678 = .ok (.ireturn, 1) := by decide +kernel
theorem dL_law_679 : decode cL_law 679 = .ok (.aload_n 1, 1) := by decide +kernel
theorem dL_law_680 : decode cL_law 680 = .ok (.aload_n 0, 1) := by decide +kernel
theorem dL_law_681 : decode cL_law 681 = .ok (.iload_n 3, 1) := by decide +kernel
theorem dL_law_682 : decode cL_law 682 = .ok (.iconst 1, 1) := by decide +kernel
theorem dL_law_683 : decode cL_law 683 = .ok (.iadd, 1) := by decide +kernel
theorem dL_law_684 : decode cL_law 684 = .ok (.iaload, 1) := by decide +kernel
theorem dL_law_685 : decode cL_law 685 = .ok (.aload_n 0, 1) := by decide +kernel
theorem dL_law_686 : decode cL_law 686 = .ok (.iload_n 3, 1) := by decide +kernel
theorem dL_law_687 : decode cL_law 687 = .ok (.iconst 2, 1) := by decide +kernel
theorem dL_law_688 : decode cL_law 688 = .ok (.iadd, 1) := by decide +kernel
theorem dL_law_689 : decode cL_law 689 = .ok (.iaload, 1) := by decide +kernel
theorem dL_law_690 : decode cL_law 690 = .ok (.invokevirtual 71, 3) := by decide +kernel
theorem dL_law_693 : decode cL_law 693 = .ok (.aload_n 2, 1) := by decide +kernel
theorem dL_law_694 : decode cL_law 694 = .ok (.aload_n 0, 1) := by decide +kernel
theorem dL_law_695 : decode cL_law 695 = .ok (.iload_n 3, 1) := by decide +kernel
theorem dL_law_696 : decode cL_law 696 = .ok (.iconst 1, 1) := by decide +kernel
theorem dL_law_697 : decode cL_law 697 = .ok (.iadd, 1) := by decide +kernel
theorem dL_law_698 : decode cL_law 698 = .ok (.iaload, 1) := by decide +kernel
theorem dL_law_699 : decode cL_law 699 = .ok (.aload_n 0, 1) := by decide +kernel
theorem dL_law_700 : decode cL_law 700 = .ok (.iload_n 3, 1) := by decide +kernel
theorem dL_law_701 : decode cL_law 701 = .ok (.iconst 2, 1) := by decide +kernel
theorem dL_law_702 : decode cL_law 702 = .ok (.iadd, 1) := by decide +kernel
theorem dL_law_703 : decode cL_law 703 = .ok (.iaload, 1) := by decide +kernel
theorem dL_law_704 : decode cL_law 704 = .ok (.invokevirtual 75, 3) := by decide +kernel
theorem dL_law_707 : decode cL_law 707 = .ok (.if_icmp .eq 683, 3) := by decide +kernel
theorem dL_law_710 : decode cL_law 710 = .ok (.iconst 0, 1) := by decide +kernel
theorem dL_law_711 : decode cL_law 711 = .ok (.ireturn, 1) := by decide +kernel
theorem dL_law_712 : decode cL_law 712 = .ok (.aload_n 1, 1) := by decide +kernel
theorem dL_law_713 : decode cL_law 713 = .ok (.aload_n 0, 1) := by decide +kernel
theorem dL_law_714 : decode cL_law 714 = .ok (.iload_n 3, 1) := by decide +kernel
theorem dL_law_715 : decode cL_law 715 = .ok (.iconst 1, 1) := by decide +kernel
theorem dL_law_716 : decode cL_law 716 = .ok (.iadd, 1) := by decide +kernel
theorem dL_law_717 : decode cL_law 717 = .ok (.iaload, 1) := by decide +kernel
theorem dL_law_718 : decode cL_law 718 = .ok (.aload_n 0, 1) := by decide +kernel
theorem dL_law_719 : decode cL_law 719 = .ok (.iload_n 3, 1) := by decide +kernel
theorem dL_law_720 : decode cL_law 720 = .ok (.iconst 2, 1) := by decide +kernel
theorem dL_law_721 : decode cL_law 721 = .ok (.iadd, 1) := by decide +kernel
theorem dL_law_722 : decode cL_law 722 = .ok (.iaload, 1) := by decide +kernel
theorem dL_law_723 : decode cL_law 723 = .ok (.invokevirtual 76, 3) := by decide +kernel
theorem dL_law_726 : decode cL_law 726 = .ok (.aload_n 2, 1) := by decide +kernel
theorem dL_law_727 : decode cL_law 727 = .ok (.aload_n 0, 1) := by decide +kernel
theorem dL_law_728 : decode cL_law 728 = .ok (.iload_n 3, 1) := by decide +kernel
theorem dL_law_729 : decode cL_law 729 = .ok (.iconst 1, 1) := by decide +kernel
theorem dL_law_730 : decode cL_law 730 = .ok (.iadd, 1) := by decide +kernel
theorem dL_law_731 : decode cL_law 731 = .ok (.iaload, 1) := by decide +kernel
theorem dL_law_732 : decode cL_law 732 = .ok (.aload_n 0, 1) := by decide +kernel
theorem dL_law_733 : decode cL_law 733 = .ok (.iload_n 3, 1) := by decide +kernel
theorem dL_law_734 : decode cL_law 734 = .ok (.iconst 2, 1) := by decide +kernel
theorem dL_law_735 : decode cL_law 735 = .ok (.iadd, 1) := by decide +kernel
theorem dL_law_736 : decode cL_law 736 = .ok (.iaload, 1) := by decide +kernel
theorem dL_law_737 : decode cL_law 737 = .ok (.invokevirtual 79, 3) := by decide +kernel
theorem dL_law_740 : decode cL_law 740 = .ok (.if_icmp .eq 650, 3) := by decide +kernel
theorem dL_law_743 : decode cL_law 743 = .ok (.iconst 0, 1) := by decide +kernel
theorem dL_law_744 : decode cL_law 744 = .ok (.ireturn, 1) := by decide +kernel
theorem dL_law_745 : decode cL_law 745 = .ok (.aload_n 1, 1) := by decide +kernel
theorem dL_law_746 : decode cL_law 746 = .ok (.aload_n 0, 1) := by decide +kernel
theorem dL_law_747 : decode cL_law 747 = .ok (.iload_n 3, 1) := by decide +kernel
theorem dL_law_748 : decode cL_law 748 = .ok (.iconst 1, 1) := by decide +kernel
theorem dL_law_749 : decode cL_law 749 = .ok (.iadd, 1) := by decide +kernel
theorem dL_law_750 : decode cL_law 750 = .ok (.iaload, 1) := by decide +kernel
theorem dL_law_751 : decode cL_law 751 = .ok (.aload_n 0, 1) := by decide +kernel
theorem dL_law_752 : decode cL_law 752 = .ok (.iload_n 3, 1) := by decide +kernel
theorem dL_law_753 : decode cL_law 753 = .ok (.iconst 2, 1) := by decide +kernel
theorem dL_law_754 : decode cL_law 754 = .ok (.iadd, 1) := by decide +kernel
theorem dL_law_755 : decode cL_law 755 = .ok (.iaload, 1) := by decide +kernel
theorem dL_law_756 : decode cL_law 756 = .ok (.aload_n 0, 1) := by decide +kernel
theorem dL_law_757 : decode cL_law 757 = .ok (.iload_n 3, 1) := by decide +kernel
theorem dL_law_758 : decode cL_law 758 = .ok (.iconst 3, 1) := by decide +kernel
theorem dL_law_759 : decode cL_law 759 = .ok (.iadd, 1) := by decide +kernel
theorem dL_law_760 : decode cL_law 760 = .ok (.iaload, 1) := by decide +kernel
theorem dL_law_761 : decode cL_law 761 = .ok (.invokevirtual 80, 3) := by decide +kernel
theorem dL_law_764 : decode cL_law 764 = .ok (.aload_n 2, 1) := by decide +kernel
theorem dL_law_765 : decode cL_law 765 = .ok (.aload_n 0, 1) := by decide +kernel
theorem dL_law_766 : decode cL_law 766 = .ok (.iload_n 3, 1) := by decide +kernel
theorem dL_law_767 : decode cL_law 767 = .ok (.iconst 1, 1) := by decide +kernel
theorem dL_law_768 : decode cL_law 768 = .ok (.iadd, 1) := by decide +kernel
theorem dL_law_769 : decode cL_law 769 = .ok (.iaload, 1) := by decide +kernel
theorem dL_law_770 : decode cL_law 770 = .ok (.aload_n 0, 1) := by decide +kernel
theorem dL_law_771 : decode cL_law 771 = .ok (.iload_n 3, 1) := by decide +kernel
theorem dL_law_772 : decode cL_law 772 = .ok (.iconst 2, 1) := by decide +kernel
theorem dL_law_773 : decode cL_law 773 = .ok (.iadd, 1) := by decide +kernel
theorem dL_law_774 : decode cL_law 774 = .ok (.iaload, 1) := by decide +kernel
theorem dL_law_775 : decode cL_law 775 = .ok (.aload_n 0, 1) := by decide +kernel
theorem dL_law_776 : decode cL_law 776 = .ok (.iload_n 3, 1) := by decide +kernel
theorem dL_law_777 : decode cL_law 777 = .ok (.iconst 3, 1) := by decide +kernel
theorem dL_law_778 : decode cL_law 778 = .ok (.iadd, 1) := by decide +kernel
theorem dL_law_779 : decode cL_law 779 = .ok (.iaload, 1) := by decide +kernel
theorem dL_law_780 : decode cL_law 780 = .ok (.invokevirtual 84, 3) := by decide +kernel
theorem dL_law_783 : decode cL_law 783 = .ok (.if_icmp .eq 607, 3) := by decide +kernel
theorem dL_law_786 : decode cL_law 786 = .ok (.iconst 0, 1) := by decide +kernel
theorem dL_law_787 : decode cL_law 787 = .ok (.ireturn, 1) := by decide +kernel
theorem dL_law_788 : decode cL_law 788 = .ok (.aload_n 1, 1) := by decide +kernel
theorem dL_law_789 : decode cL_law 789 = .ok (.aload_n 0, 1) := by decide +kernel
theorem dL_law_790 : decode cL_law 790 = .ok (.iload_n 3, 1) := by decide +kernel
theorem dL_law_791 : decode cL_law 791 = .ok (.iconst 1, 1) := by decide +kernel
theorem dL_law_792 : decode cL_law 792 = .ok (.iadd, 1) := by decide +kernel
theorem dL_law_793 : decode cL_law 793 = .ok (.iaload, 1) := by decide +kernel
theorem dL_law_794 : decode cL_law 794 = .ok (.aload_n 0, 1) := by decide +kernel
theorem dL_law_795 : decode cL_law 795 = .ok (.iload_n 3, 1) := by decide +kernel
theorem dL_law_796 : decode cL_law 796 = .ok (.iconst 2, 1) := by decide +kernel
theorem dL_law_797 : decode cL_law 797 = .ok (.iadd, 1) := by decide +kernel
theorem dL_law_798 : decode cL_law 798 = .ok (.iaload, 1) := by decide +kernel
theorem dL_law_799 : decode cL_law 799 = .ok (.aload_n 0, 1) := by decide +kernel
theorem dL_law_800 : decode cL_law 800 = .ok (.iload_n 3, 1) := by decide +kernel
theorem dL_law_801 : decode cL_law 801 = .ok (.iconst 3, 1) := by decide +kernel
theorem dL_law_802 : decode cL_law 802 = .ok (.iadd, 1) := by decide +kernel
theorem dL_law_803 : decode cL_law 803 = .ok (.iaload, 1) := by decide +kernel
theorem dL_law_804 : decode cL_law 804 = .ok (.ifCond .eq 7, 3) := by decide +kernel
theorem dL_law_807 : decode cL_law 807 = .ok (.iconst 1, 1) := by decide +kernel
theorem dL_law_808 : decode cL_law 808 = .ok (.goto 4, 3) := by decide +kernel
theorem dL_law_811 : decode cL_law 811 = .ok (.iconst 0, 1) := by decide +kernel
theorem dL_law_812 : decode cL_law 812 = .ok (.invokevirtual 85, 3) := by decide +kernel
theorem dL_law_815 : decode cL_law 815 = .ok (.aload_n 2, 1) := by decide +kernel
theorem dL_law_816 : decode cL_law 816 = .ok (.aload_n 0, 1) := by decide +kernel
theorem dL_law_817 : decode cL_law 817 = .ok (.iload_n 3, 1) := by decide +kernel
theorem dL_law_818 : decode cL_law 818 = .ok (.iconst 1, 1) := by decide +kernel
theorem dL_law_819 : decode cL_law 819 = .ok (.iadd, 1) := by decide +kernel
theorem dL_law_820 : decode cL_law 820 = .ok (.iaload, 1) := by decide +kernel
theorem dL_law_821 : decode cL_law 821 = .ok (.aload_n 0, 1) := by decide +kernel
theorem dL_law_822 : decode cL_law 822 = .ok (.iload_n 3, 1) := by decide +kernel
theorem dL_law_823 : decode cL_law 823 = .ok (.iconst 2, 1) := by decide +kernel
theorem dL_law_824 : decode cL_law 824 = .ok (.iadd, 1) := by decide +kernel
theorem dL_law_825 : decode cL_law 825 = .ok (.iaload, 1) := by decide +kernel
theorem dL_law_826 : decode cL_law 826 = .ok (.aload_n 0, 1) := by decide +kernel
theorem dL_law_827 : decode cL_law 827 = .ok (.iload_n 3, 1) := by decide +kernel
theorem dL_law_828 : decode cL_law 828 = .ok (.iconst 3, 1) := by decide +kernel
theorem dL_law_829 : decode cL_law 829 = .ok (.iadd, 1) := by decide +kernel
theorem dL_law_830 : decode cL_law 830 = .ok (.iaload, 1) := by decide +kernel
theorem dL_law_831 : decode cL_law 831 = .ok (.ifCond .eq 7, 3) := by decide +kernel
theorem dL_law_834 : decode cL_law 834 = .ok (.iconst 1, 1) := by decide +kernel
theorem dL_law_835 : decode cL_law 835 = .ok (.goto 4, 3) := by decide +kernel
theorem dL_law_838 : decode cL_law 838 = .ok (.iconst 0, 1) := by decide +kernel
theorem dL_law_839 : decode cL_law 839 = .ok (.invokevirtual 89, 3) := by decide +kernel
theorem dL_law_842 : decode cL_law 842 = .ok (.if_icmp .eq 548, 3) := by decide +kernel
theorem dL_law_845 : decode cL_law 845 = .ok (.iconst 0, 1) := by decide +kernel
theorem dL_law_846 : decode cL_law 846 = .ok (.ireturn, 1) := by decide +kernel
theorem dL_law_847 : decode cL_law 847 = .ok (.aload_n 1, 1) := by decide +kernel
theorem dL_law_848 : decode cL_law 848 = .ok (.aload_n 0, 1) := by decide +kernel
theorem dL_law_849 : decode cL_law 849 = .ok (.iload_n 3, 1) := by decide +kernel
theorem dL_law_850 : decode cL_law 850 = .ok (.iconst 1, 1) := by decide +kernel
theorem dL_law_851 : decode cL_law 851 = .ok (.iadd, 1) := by decide +kernel
theorem dL_law_852 : decode cL_law 852 = .ok (.iaload, 1) := by decide +kernel
theorem dL_law_853 : decode cL_law 853 = .ok (.invokevirtual 90, 3) := by decide +kernel
theorem dL_law_856 : decode cL_law 856 = .ok (.aload_n 2, 1) := by decide +kernel
theorem dL_law_857 : decode cL_law 857 = .ok (.aload_n 0, 1) := by decide +kernel
theorem dL_law_858 : decode cL_law 858 = .ok (.iload_n 3, 1) := by decide +kernel
theorem dL_law_859 : decode cL_law 859 = .ok (.iconst 1, 1) := by decide +kernel
theorem dL_law_860 : decode cL_law 860 = .ok (.iadd, 1) := by decide +kernel
theorem dL_law_861 : decode cL_law 861 = .ok (.iaload, 1) := by decide +kernel
theorem dL_law_862 : decode cL_law 862 = .ok (.invokevirtual 93, 3) := by decide +kernel
theorem dL_law_865 : decode cL_law 865 = .ok (.if_icmp .eq 525, 3) := by decide +kernel
theorem dL_law_868 : decode cL_law 868 = .ok (.iconst 0, 1) := by decide +kernel
theorem dL_law_869 : decode cL_law 869 = .ok (.ireturn, 1) := by decide +kernel
theorem dL_law_870 : decode cL_law 870 = .ok (.aload_n 1, 1) := by decide +kernel
theorem dL_law_871 : decode cL_law 871 = .ok (.aload_n 0, 1) := by decide +kernel
theorem dL_law_872 : decode cL_law 872 = .ok (.iload_n 3, 1) := by decide +kernel
theorem dL_law_873 : decode cL_law 873 = .ok (.iconst 1, 1) := by decide +kernel
theorem dL_law_874 : decode cL_law 874 = .ok (.iadd, 1) := by decide +kernel
theorem dL_law_875 : decode cL_law 875 = .ok (.iaload, 1) := by decide +kernel
theorem dL_law_876 : decode cL_law 876 = .ok (.aload_n 0, 1) := by decide +kernel
theorem dL_law_877 : decode cL_law 877 = .ok (.iload_n 3, 1) := by decide +kernel
theorem dL_law_878 : decode cL_law 878 = .ok (.iconst 2, 1) := by decide +kernel
theorem dL_law_879 : decode cL_law 879 = .ok (.iadd, 1) := by decide +kernel
theorem dL_law_880 : decode cL_law 880 = .ok (.iaload, 1) := by decide +kernel
theorem dL_law_881 : decode cL_law 881 = .ok (.aload_n 0, 1) := by decide +kernel
theorem dL_law_882 : decode cL_law 882 = .ok (.iload_n 3, 1) := by decide +kernel
theorem dL_law_883 : decode cL_law 883 = .ok (.iconst 3, 1) := by decide +kernel
theorem dL_law_884 : decode cL_law 884 = .ok (.iadd, 1) := by decide +kernel
theorem dL_law_885 : decode cL_law 885 = .ok (.iaload, 1) := by decide +kernel
theorem dL_law_886 : decode cL_law 886 = .ok (.invokevirtual 94, 3) := by decide +kernel
theorem dL_law_889 : decode cL_law 889 = .ok (.aload_n 2, 1) := by decide +kernel
theorem dL_law_890 : decode cL_law 890 = .ok (.aload_n 0, 1) := by decide +kernel
theorem dL_law_891 : decode cL_law 891 = .ok (.iload_n 3, 1) := by decide +kernel
theorem dL_law_892 : decode cL_law 892 = .ok (.iconst 1, 1) := by decide +kernel
theorem dL_law_893 : decode cL_law 893 = .ok (.iadd, 1) := by decide +kernel
theorem dL_law_894 : decode cL_law 894 = .ok (.iaload, 1) := by decide +kernel
theorem dL_law_895 : decode cL_law 895 = .ok (.aload_n 0, 1) := by decide +kernel
theorem dL_law_896 : decode cL_law 896 = .ok (.iload_n 3, 1) := by decide +kernel
theorem dL_law_897 : decode cL_law 897 = .ok (.iconst 2, 1) := by decide +kernel
theorem dL_law_898 : decode cL_law 898 = .ok (.iadd, 1) := by decide +kernel
theorem dL_law_899 : decode cL_law 899 = .ok (.iaload, 1) := by decide +kernel
theorem dL_law_900 : decode cL_law 900 = .ok (.aload_n 0, 1) := by decide +kernel
theorem dL_law_901 : decode cL_law 901 = .ok (.iload_n 3, 1) := by decide +kernel
theorem dL_law_902 : decode cL_law 902 = .ok (.iconst 3, 1) := by decide +kernel
theorem dL_law_903 : decode cL_law 903 = .ok (.iadd, 1) := by decide +kernel
theorem dL_law_904 : decode cL_law 904 = .ok (.iaload, 1) := by decide +kernel
theorem dL_law_905 : decode cL_law 905 = .ok (.invokevirtual 97, 3) := by decide +kernel
theorem dL_law_908 : decode cL_law 908 = .ok (.if_icmp .eq 482, 3) := by decide +kernel
theorem dL_law_911 : decode cL_law 911 = .ok (.iconst 0, 1) := by decide +kernel
theorem dL_law_912 : decode cL_law 912 = .ok (.ireturn, 1) := by decide +kernel
theorem dL_law_913 : decode cL_law 913 = .ok (.aload_n 1, 1) := by decide +kernel
theorem dL_law_914 : decode cL_law 914 = .ok (.aload_n 0, 1) := by decide +kernel
theorem dL_law_915 : decode cL_law 915 = .ok (.iload_n 3, 1) := by decide +kernel
theorem dL_law_916 : decode cL_law 916 = .ok (.iconst 1, 1) := by decide +kernel
theorem dL_law_917 : decode cL_law 917 = .ok (.iadd, 1) := by decide +kernel
theorem dL_law_918 : decode cL_law 918 = .ok (.iaload, 1) := by decide +kernel
theorem dL_law_919 : decode cL_law 919 = .ok (.aload_n 0, 1) := by decide +kernel
theorem dL_law_920 : decode cL_law 920 = .ok (.iload_n 3, 1) := by decide +kernel
theorem dL_law_921 : decode cL_law 921 = .ok (.iconst 2, 1) := by decide +kernel
theorem dL_law_922 : decode cL_law 922 = .ok (.iadd, 1) := by decide +kernel
theorem dL_law_923 : decode cL_law 923 = .ok (.iaload, 1) := by decide +kernel
theorem dL_law_924 : decode cL_law 924 = .ok (.aload_n 0, 1) := by decide +kernel
theorem dL_law_925 : decode cL_law 925 = .ok (.iload_n 3, 1) := by decide +kernel
theorem dL_law_926 : decode cL_law 926 = .ok (.iconst 3, 1) := by decide +kernel
theorem dL_law_927 : decode cL_law 927 = .ok (.iadd, 1) := by decide +kernel
theorem dL_law_928 : decode cL_law 928 = .ok (.iaload, 1) := by decide +kernel
theorem dL_law_929 : decode cL_law 929 = .ok (.invokevirtual 98, 3) := by decide +kernel
theorem dL_law_932 : decode cL_law 932 = .ok (.aload_n 2, 1) := by decide +kernel
theorem dL_law_933 : decode cL_law 933 = .ok (.aload_n 0, 1) := by decide +kernel
theorem dL_law_934 : decode cL_law 934 = .ok (.iload_n 3, 1) := by decide +kernel
theorem dL_law_935 : decode cL_law 935 = .ok (.iconst 1, 1) := by decide +kernel
theorem dL_law_936 : decode cL_law 936 = .ok (.iadd, 1) := by decide +kernel
theorem dL_law_937 : decode cL_law 937 = .ok (.iaload, 1) := by decide +kernel
theorem dL_law_938 : decode cL_law 938 = .ok (.aload_n 0, 1) := by decide +kernel
theorem dL_law_939 : decode cL_law 939 = .ok (.iload_n 3, 1) := by decide +kernel
theorem dL_law_940 : decode cL_law 940 = .ok (.iconst 2, 1) := by decide +kernel
theorem dL_law_941 : decode cL_law 941 = .ok (.iadd, 1) := by decide +kernel
theorem dL_law_942 : decode cL_law 942 = .ok (.iaload, 1) := by decide +kernel
theorem dL_law_943 : decode cL_law 943 = .ok (.aload_n 0, 1) := by decide +kernel
theorem dL_law_944 : decode cL_law 944 = .ok (.iload_n 3, 1) := by decide +kernel
theorem dL_law_945 : decode cL_law 945 = .ok (.iconst 3, 1) := by decide +kernel
theorem dL_law_946 : decode cL_law 946 = .ok (.iadd, 1) := by decide +kernel
theorem dL_law_947 : decode cL_law 947 = .ok (.iaload, 1) := by decide +kernel
theorem dL_law_948 : decode cL_law 948 = .ok (.invokevirtual 101, 3) := by decide +kernel
theorem dL_law_951 : decode cL_law 951 = .ok (.if_icmp .eq 439, 3) := by decide +kernel
theorem dL_law_954 : decode cL_law 954 = .ok (.iconst 0, 1) := by decide +kernel
theorem dL_law_955 : decode cL_law 955 = .ok (.ireturn, 1) := by decide +kernel
theorem dL_law_956 : decode cL_law 956 = .ok (.aload_n 1, 1) := by decide +kernel
theorem dL_law_957 : decode cL_law 957 = .ok (.aload_n 0, 1) := by decide +kernel
theorem dL_law_958 : decode cL_law 958 = .ok (.iload_n 3, 1) := by decide +kernel
theorem dL_law_959 : decode cL_law 959 = .ok (.iconst 1, 1) := by decide +kernel
theorem dL_law_960 : decode cL_law 960 = .ok (.iadd, 1) := by decide +kernel
theorem dL_law_961 : decode cL_law 961 = .ok (.iaload, 1) := by decide +kernel
theorem dL_law_962 : decode cL_law 962 = .ok (.aload_n 0, 1) := by decide +kernel
theorem dL_law_963 : decode cL_law 963 = .ok (.iload_n 3, 1) := by decide +kernel
theorem dL_law_964 : decode cL_law 964 = .ok (.iconst 2, 1) := by decide +kernel
theorem dL_law_965 : decode cL_law 965 = .ok (.iadd, 1) := by decide +kernel
theorem dL_law_966 : decode cL_law 966 = .ok (.iaload, 1) := by decide +kernel
theorem dL_law_967 : decode cL_law 967 = .ok (.invokevirtual 102, 3) := by decide +kernel
theorem dL_law_970 : decode cL_law 970 = .ok (.aload_n 2, 1) := by decide +kernel
theorem dL_law_971 : decode cL_law 971 = .ok (.aload_n 0, 1) := by decide +kernel
theorem dL_law_972 : decode cL_law 972 = .ok (.iload_n 3, 1) := by decide +kernel
theorem dL_law_973 : decode cL_law 973 = .ok (.iconst 1, 1) := by decide +kernel
theorem dL_law_974 : decode cL_law 974 = .ok (.iadd, 1) := by decide +kernel
theorem dL_law_975 : decode cL_law 975 = .ok (.iaload, 1) := by decide +kernel
theorem dL_law_976 : decode cL_law 976 = .ok (.aload_n 0, 1) := by decide +kernel
theorem dL_law_977 : decode cL_law 977 = .ok (.iload_n 3, 1) := by decide +kernel
theorem dL_law_978 : decode cL_law 978 = .ok (.iconst 2, 1) := by decide +kernel
theorem dL_law_979 : decode cL_law 979 = .ok (.iadd, 1) := by decide +kernel
theorem dL_law_980 : decode cL_law 980 = .ok (.iaload, 1) := by decide +kernel
theorem dL_law_981 : decode cL_law 981 = .ok (.invokevirtual 105, 3) := by decide +kernel
theorem dL_law_984 : decode cL_law 984 = .ok (.if_icmp .eq 406, 3) := by decide +kernel
theorem dL_law_987 : decode cL_law 987 = .ok (.iconst 0, 1) := by decide +kernel
theorem dL_law_988 : decode cL_law 988 = .ok (.ireturn, 1) := by decide +kernel
theorem dL_law_989 : decode cL_law 989 = .ok (.aload_n 1, 1) := by decide +kernel
theorem dL_law_990 : decode cL_law 990 = .ok (.aload_n 0, 1) := by decide +kernel
theorem dL_law_991 : decode cL_law 991 = .ok (.iload_n 3, 1) := by decide +kernel
theorem dL_law_992 : decode cL_law 992 = .ok (.iconst 1, 1) := by decide +kernel
theorem dL_law_993 : decode cL_law 993 = .ok (.iadd, 1) := by decide +kernel
theorem dL_law_994 : decode cL_law 994 = .ok (.iaload, 1) := by decide +kernel
theorem dL_law_995 : decode cL_law 995 = .ok (.aload_n 0, 1) := by decide +kernel
theorem dL_law_996 : decode cL_law 996 = .ok (.iload_n 3, 1) := by decide +kernel
theorem dL_law_997 : decode cL_law 997 = .ok (.iconst 2, 1) := by decide +kernel
theorem dL_law_998 : decode cL_law 998 = .ok (.iadd, 1) := by decide +kernel
theorem dL_law_999 : decode cL_law 999 = .ok (.iaload, 1) := by decide +kernel
theorem dL_law_1000 : decode cL_law 1000 = .ok (.invokevirtual 106, 3) := by decide +kernel
theorem dL_law_1003 : decode cL_law 1003 = .ok (.aload_n 2, 1) := by decide +kernel
theorem dL_law_1004 : decode cL_law 1004 = .ok (.aload_n 0, 1) := by decide +kernel
theorem dL_law_1005 : decode cL_law 1005 = .ok (.iload_n 3, 1) := by decide +kernel
theorem dL_law_1006 : decode cL_law 1006 = .ok (.iconst 1, 1) := by decide +kernel
theorem dL_law_1007 : decode cL_law 1007 = .ok (.iadd, 1) := by decide +kernel
theorem dL_law_1008 : decode cL_law 1008 = .ok (.iaload, 1) := by decide +kernel
theorem dL_law_1009 : decode cL_law 1009 = .ok (.aload_n 0, 1) := by decide +kernel
theorem dL_law_1010 : decode cL_law 1010 = .ok (.iload_n 3, 1) := by decide +kernel
theorem dL_law_1011 : decode cL_law 1011 = .ok (.iconst 2, 1) := by decide +kernel
theorem dL_law_1012 : decode cL_law 1012 = .ok (.iadd, 1) := by decide +kernel
theorem dL_law_1013 : decode cL_law 1013 = .ok (.iaload, 1) := by decide +kernel
theorem dL_law_1014 : decode cL_law 1014 = .ok (.invokevirtual 109, 3) := by decide +kernel
theorem dL_law_1017 : decode cL_law 1017 = .ok (.if_icmp .eq 373, 3) := by decide +kernel
theorem dL_law_1020 : decode cL_law 1020 = .ok (.iconst 0, 1) := by decide +kernel
theorem dL_law_1021 : decode cL_law 1021 = .ok (.ireturn, 1) := by decide +kernel
theorem dL_law_1022 : decode cL_law 1022 = .ok (.aload_n 1, 1) := by decide +kernel
theorem dL_law_1023 : decode cL_law 1023 = .ok (.aload_n 0, 1) := by decide +kernel
theorem dL_law_1024 : decode cL_law 1024 = .ok (.iload_n 3, 1) := by decide +kernel
theorem dL_law_1025 : decode cL_law 1025 = .ok (.iconst 1, 1) := by decide +kernel
theorem dL_law_1026 : decode cL_law 1026 = .ok (.iadd, 1) := by decide +kernel
theorem dL_law_1027 : decode cL_law 1027 = .ok (.iaload, 1) := by decide +kernel
theorem dL_law_1028 : decode cL_law 1028 = .ok (.aload_n 0, 1) := by decide +kernel
theorem dL_law_1029 : decode cL_law 1029 = .ok (.iload_n 3, 1) := by decide +kernel
theorem dL_law_1030 : decode cL_law 1030 = .ok (.iconst 2, 1) := by decide +kernel
theorem dL_law_1031 : decode cL_law 1031 = .ok (.iadd, 1) := by decide +kernel
theorem dL_law_1032 : decode cL_law 1032 = .ok (.iaload, 1) := by decide +kernel
theorem dL_law_1033 : decode cL_law 1033 = .ok (.aload_n 0, 1) := by decide +kernel
theorem dL_law_1034 : decode cL_law 1034 = .ok (.iload_n 3, 1) := by decide +kernel
theorem dL_law_1035 : decode cL_law 1035 = .ok (.iconst 3, 1) := by decide +kernel
theorem dL_law_1036 : decode cL_law 1036 = .ok (.iadd, 1) := by decide +kernel
theorem dL_law_1037 : decode cL_law 1037 = .ok (.iaload, 1) := by decide +kernel
theorem dL_law_1038 : decode cL_law 1038 = .ok (.aload_n 0, 1) := by decide +kernel
theorem dL_law_1039 : decode cL_law 1039 = .ok (.iload_n 3, 1) := by decide +kernel
theorem dL_law_1040 : decode cL_law 1040 = .ok (.iconst 4, 1) := by decide +kernel
theorem dL_law_1041 : decode cL_law 1041 = .ok (.iadd, 1) := by decide +kernel
theorem dL_law_1042 : decode cL_law 1042 = .ok (.iaload, 1) := by decide +kernel
theorem dL_law_1043 : decode cL_law 1043 = .ok (.invokevirtual 110, 3) := by decide +kernel
theorem dL_law_1046 : decode cL_law 1046 = .ok (.aload_n 2, 1) := by decide +kernel
theorem dL_law_1047 : decode cL_law 1047 = .ok (.aload_n 0, 1) := by decide +kernel
theorem dL_law_1048 : decode cL_law 1048 = .ok (.iload_n 3, 1) := by decide +kernel
theorem dL_law_1049 : decode cL_law 1049 = .ok (.iconst 1, 1) := by decide +kernel
theorem dL_law_1050 : decode cL_law 1050 = .ok (.iadd, 1) := by decide +kernel
theorem dL_law_1051 : decode cL_law 1051 = .ok (.iaload, 1) := by decide +kernel
theorem dL_law_1052 : decode cL_law 1052 = .ok (.aload_n 0, 1) := by decide +kernel
theorem dL_law_1053 : decode cL_law 1053 = .ok (.iload_n 3, 1) := by decide +kernel
theorem dL_law_1054 : decode cL_law 1054 = .ok (.iconst 2, 1) := by decide +kernel
theorem dL_law_1055 : decode cL_law 1055 = .ok (.iadd, 1) := by decide +kernel
theorem dL_law_1056 : decode cL_law 1056 = .ok (.iaload, 1) := by decide +kernel
theorem dL_law_1057 : decode cL_law 1057 = .ok (.aload_n 0, 1) := by decide +kernel
theorem dL_law_1058 : decode cL_law 1058 = .ok (.iload_n 3, 1) := by decide +kernel
theorem dL_law_1059 : decode cL_law 1059 = .ok (.iconst 3, 1) := by decide +kernel
theorem dL_law_1060 : decode cL_law 1060 = .ok (.iadd, 1) := by decide +kernel
theorem dL_law_1061 : decode cL_law 1061 = .ok (.iaload, 1) := by decide +kernel
theorem dL_law_1062 : decode cL_law 1062 = .ok (.aload_n 0, 1) := by decide +kernel
theorem dL_law_1063 : decode cL_law 1063 = .ok (.iload_n 3, 1) := by decide +kernel
theorem dL_law_1064 : decode cL_law 1064 = .ok (.iconst 4, 1) := by decide +kernel
theorem dL_law_1065 : decode cL_law 1065 = .ok (.iadd, 1) := by decide +kernel
theorem dL_law_1066 : decode cL_law 1066 = .ok (.iaload, 1) := by decide +kernel
theorem dL_law_1067 : decode cL_law 1067 = .ok (.invokevirtual 114, 3) := by decide +kernel
theorem dL_law_1070 : decode cL_law 1070 = .ok (.if_icmp .eq 320, 3) := by decide +kernel
theorem dL_law_1073 : decode cL_law 1073 = .ok (.iconst 0, 1) := by decide +kernel
theorem dL_law_1074 : decode cL_law 1074 = .ok (.ireturn, 1) := by decide +kernel
theorem dL_law_1075 : decode cL_law 1075 = .ok (.aload_n 1, 1) := by decide +kernel
theorem dL_law_1076 : decode cL_law 1076 = .ok (.aload_n 0, 1) := by decide +kernel
theorem dL_law_1077 : decode cL_law 1077 = .ok (.iload_n 3, 1) := by decide +kernel
theorem dL_law_1078 : decode cL_law 1078 = .ok (.iconst 1, 1) := by decide +kernel
theorem dL_law_1079 : decode cL_law 1079 = .ok (.iadd, 1) := by decide +kernel
theorem dL_law_1080 : decode cL_law 1080 = .ok (.iaload, 1) := by decide +kernel
theorem dL_law_1081 : decode cL_law 1081 = .ok (.aload_n 0, 1) := by decide +kernel
theorem dL_law_1082 : decode cL_law 1082 = .ok (.iload_n 3, 1) := by decide +kernel
theorem dL_law_1083 : decode cL_law 1083 = .ok (.iconst 2, 1) := by decide +kernel
theorem dL_law_1084 : decode cL_law 1084 = .ok (.iadd, 1) := by decide +kernel
theorem dL_law_1085 : decode cL_law 1085 = .ok (.iaload, 1) := by decide +kernel
theorem dL_law_1086 : decode cL_law 1086 = .ok (.invokevirtual 115, 3) := by decide +kernel
theorem dL_law_1089 : decode cL_law 1089 = .ok (.aload_n 2, 1) := by decide +kernel
theorem dL_law_1090 : decode cL_law 1090 = .ok (.aload_n 0, 1) := by decide +kernel
theorem dL_law_1091 : decode cL_law 1091 = .ok (.iload_n 3, 1) := by decide +kernel
theorem dL_law_1092 : decode cL_law 1092 = .ok (.iconst 1, 1) := by decide +kernel
theorem dL_law_1093 : decode cL_law 1093 = .ok (.iadd, 1) := by decide +kernel
theorem dL_law_1094 : decode cL_law 1094 = .ok (.iaload, 1) := by decide +kernel
theorem dL_law_1095 : decode cL_law 1095 = .ok (.aload_n 0, 1) := by decide +kernel
theorem dL_law_1096 : decode cL_law 1096 = .ok (.iload_n 3, 1) := by decide +kernel
theorem dL_law_1097 : decode cL_law 1097 = .ok (.iconst 2, 1) := by decide +kernel
theorem dL_law_1098 : decode cL_law 1098 = .ok (.iadd, 1) := by decide +kernel
theorem dL_law_1099 : decode cL_law 1099 = .ok (.iaload, 1) := by decide +kernel
theorem dL_law_1100 : decode cL_law 1100 = .ok (.invokevirtual 118, 3) := by decide +kernel
theorem dL_law_1103 : decode cL_law 1103 = .ok (.if_icmp .eq 287, 3) := by decide +kernel
theorem dL_law_1106 : decode cL_law 1106 = .ok (.iconst 0, 1) := by decide +kernel
theorem dL_law_1107 : decode cL_law 1107 = .ok (.ireturn, 1) := by decide +kernel
theorem dL_law_1108 : decode cL_law 1108 = .ok (.aload_n 1, 1) := by decide +kernel
theorem dL_law_1109 : decode cL_law 1109 = .ok (.aload_n 0, 1) := by decide +kernel
theorem dL_law_1110 : decode cL_law 1110 = .ok (.iload_n 3, 1) := by decide +kernel
theorem dL_law_1111 : decode cL_law 1111 = .ok (.iconst 1, 1) := by decide +kernel
theorem dL_law_1112 : decode cL_law 1112 = .ok (.iadd, 1) := by decide +kernel
theorem dL_law_1113 : decode cL_law 1113 = .ok (.iaload, 1) := by decide +kernel
theorem dL_law_1114 : decode cL_law 1114 = .ok (.ifCond .eq 7, 3) := by decide +kernel
theorem dL_law_1117 : decode cL_law 1117 = .ok (.iconst 1, 1) := by decide +kernel
theorem dL_law_1118 : decode cL_law 1118 = .ok (.goto 4, 3) := by decide +kernel
theorem dL_law_1121 : decode cL_law 1121 = .ok (.iconst 0, 1) := by decide +kernel
theorem dL_law_1122 : decode cL_law 1122 = .ok (.aload_n 0, 1) := by decide +kernel
theorem dL_law_1123 : decode cL_law 1123 = .ok (.iload_n 3, 1) := by decide +kernel
theorem dL_law_1124 : decode cL_law 1124 = .ok (.iconst 2, 1) := by decide +kernel
theorem dL_law_1125 : decode cL_law 1125 = .ok (.iadd, 1) := by decide +kernel
theorem dL_law_1126 : decode cL_law 1126 = .ok (.iaload, 1) := by decide +kernel
theorem dL_law_1127 : decode cL_law 1127 = .ok (.aload_n 0, 1) := by decide +kernel
theorem dL_law_1128 : decode cL_law 1128 = .ok (.iload_n 3, 1) := by decide +kernel
theorem dL_law_1129 : decode cL_law 1129 = .ok (.iconst 3, 1) := by decide +kernel
theorem dL_law_1130 : decode cL_law 1130 = .ok (.iadd, 1) := by decide +kernel
theorem dL_law_1131 : decode cL_law 1131 = .ok (.iaload, 1) := by decide +kernel
theorem dL_law_1132 : decode cL_law 1132 = .ok (.invokevirtual 119, 3) := by decide +kernel
theorem dL_law_1135 : decode cL_law 1135 = .ok (.aload_n 2, 1) := by decide +kernel
theorem dL_law_1136 : decode cL_law 1136 = .ok (.aload_n 0, 1) := by decide +kernel
theorem dL_law_1137 : decode cL_law 1137 = .ok (.iload_n 3, 1) := by decide +kernel
theorem dL_law_1138 : decode cL_law 1138 = .ok (.iconst 1, 1) := by decide +kernel
theorem dL_law_1139 : decode cL_law 1139 = .ok (.iadd, 1) := by decide +kernel
theorem dL_law_1140 : decode cL_law 1140 = .ok (.iaload, 1) := by decide +kernel
theorem dL_law_1141 : decode cL_law 1141 = .ok (.ifCond .eq 7, 3) := by decide +kernel
theorem dL_law_1144 : decode cL_law 1144 = .ok (.iconst 1, 1) := by decide +kernel
theorem dL_law_1145 : decode cL_law 1145 = .ok (.goto 4, 3) := by decide +kernel
theorem dL_law_1148 : decode cL_law 1148 = .ok (.iconst 0, 1) := by decide +kernel
theorem dL_law_1149 : decode cL_law 1149 = .ok (.aload_n 0, 1) := by decide +kernel
theorem dL_law_1150 : decode cL_law 1150 = .ok (.iload_n 3, 1) := by decide +kernel
theorem dL_law_1151 : decode cL_law 1151 = .ok (.iconst 2, 1) := by decide +kernel
theorem dL_law_1152 : decode cL_law 1152 = .ok (.iadd, 1) := by decide +kernel
theorem dL_law_1153 : decode cL_law 1153 = .ok (.iaload, 1) := by decide +kernel
theorem dL_law_1154 : decode cL_law 1154 = .ok (.aload_n 0, 1) := by decide +kernel
theorem dL_law_1155 : decode cL_law 1155 = .ok (.iload_n 3, 1) := by decide +kernel
theorem dL_law_1156 : decode cL_law 1156 = .ok (.iconst 3, 1) := by decide +kernel
theorem dL_law_1157 : decode cL_law 1157 = .ok (.iadd, 1) := by decide +kernel
theorem dL_law_1158 : decode cL_law 1158 = .ok (.iaload, 1) := by decide +kernel
theorem dL_law_1159 : decode cL_law 1159 = .ok (.invokevirtual 123, 3) := by decide +kernel
theorem dL_law_1162 : decode cL_law 1162 = .ok (.if_icmp .eq 228, 3) := by decide +kernel
theorem dL_law_1165 : decode cL_law 1165 = .ok (.iconst 0, 1) := by decide +kernel
theorem dL_law_1166 : decode cL_law 1166 = .ok (.ireturn, 1) := by decide +kernel
theorem dL_law_1167 : decode cL_law 1167 = .ok (.aload_n 1, 1) := by decide +kernel
theorem dL_law_1168 : decode cL_law 1168 = .ok (.invokevirtual 124, 3) := by decide +kernel
theorem dL_law_1171 : decode cL_law 1171 = .ok (.aload_n 2, 1) := by decide +kernel
theorem dL_law_1172 : decode cL_law 1172 = .ok (.invokevirtual 127, 3) := by decide +kernel
theorem dL_law_1175 : decode cL_law 1175 = .ok (.if_icmp .eq 215, 3) := by decide +kernel
theorem dL_law_1178 : decode cL_law 1178 = .ok (.iconst 0, 1) := by decide +kernel
theorem dL_law_1179 : decode cL_law 1179 = .ok (.ireturn, 1) := by decide +kernel
theorem dL_law_1180 : decode cL_law 1180 = .ok (.aload_n 1, 1) := by decide +kernel
theorem dL_law_1181 : decode cL_law 1181 = .ok (.aload_n 0, 1) := by decide +kernel
theorem dL_law_1182 : decode cL_law 1182 = .ok (.iload_n 3, 1) := by decide +kernel
theorem dL_law_1183 : decode cL_law 1183 = .ok (.iconst 1, 1) := by decide +kernel
theorem dL_law_1184 : decode cL_law 1184 = .ok (.iadd, 1) := by decide +kernel
theorem dL_law_1185 : decode cL_law 1185 = .ok (.iaload, 1) := by decide +kernel
theorem dL_law_1186 : decode cL_law 1186 = .ok (.aload_n 0, 1) := by decide +kernel
theorem dL_law_1187 : decode cL_law 1187 = .ok (.iload_n 3, 1) := by decide +kernel
theorem dL_law_1188 : decode cL_law 1188 = .ok (.iconst 2, 1) := by decide +kernel
theorem dL_law_1189 : decode cL_law 1189 = .ok (.iadd, 1) := by decide +kernel
theorem dL_law_1190 : decode cL_law 1190 = .ok (.iaload, 1) := by decide +kernel
theorem dL_law_1191 : decode cL_law 1191 = .ok (.aload_n 0, 1) := by decide +kernel
theorem dL_law_1192 : decode cL_law 1192 = .ok (.iload_n 3, 1) := by decide +kernel
theorem dL_law_1193 : decode cL_law 1193 = .ok (.iconst 3, 1) := by decide +kernel
theorem dL_law_1194 : decode cL_law 1194 = .ok (.iadd, 1) := by decide +kernel
theorem dL_law_1195 : decode cL_law 1195 = .ok (.iaload, 1) := by decide +kernel
theorem dL_law_1196 : decode cL_law 1196 = .ok (.aload_n 0, 1) := by decide +kernel
theorem dL_law_1197 : decode cL_law 1197 = .ok (.iload_n 3, 1) := by decide +kernel
theorem dL_law_1198 : decode cL_law 1198 = .ok (.iconst 4, 1) := by decide +kernel
theorem dL_law_1199 : decode cL_law 1199 = .ok (.iadd, 1) := by decide +kernel
theorem dL_law_1200 : decode cL_law 1200 = .ok (.iaload, 1) := by decide +kernel
theorem dL_law_1201 : decode cL_law 1201 = .ok (.invokevirtual 128, 3) := by decide +kernel
theorem dL_law_1204 : decode cL_law 1204 = .ok (.aload_n 2, 1) := by decide +kernel
theorem dL_law_1205 : decode cL_law 1205 = .ok (.aload_n 0, 1) := by decide +kernel
theorem dL_law_1206 : decode cL_law 1206 = .ok (.iload_n 3, 1) := by decide +kernel
theorem dL_law_1207 : decode cL_law 1207 = .ok (.iconst 1, 1) := by decide +kernel
theorem dL_law_1208 : decode cL_law 1208 = .ok (.iadd, 1) := by decide +kernel
theorem dL_law_1209 : decode cL_law 1209 = .ok (.iaload, 1) := by decide +kernel
theorem dL_law_1210 : decode cL_law 1210 = .ok (.aload_n 0, 1) := by decide +kernel
theorem dL_law_1211 : decode cL_law 1211 = .ok (.iload_n 3, 1) := by decide +kernel
theorem dL_law_1212 : decode cL_law 1212 = .ok (.iconst 2, 1) := by decide +kernel
theorem dL_law_1213 : decode cL_law 1213 = .ok (.iadd, 1) := by decide +kernel
theorem dL_law_1214 : decode cL_law 1214 = .ok (.iaload, 1) := by decide +kernel
theorem dL_law_1215 : decode cL_law 1215 = .ok (.aload_n 0, 1) := by decide +kernel
theorem dL_law_1216 : decode cL_law 1216 = .ok (.iload_n 3, 1) := by decide +kernel
theorem dL_law_1217 : decode cL_law 1217 = .ok (.iconst 3, 1) := by decide +kernel
theorem dL_law_1218 : decode cL_law 1218 = .ok (.iadd, 1) := by decide +kernel
theorem dL_law_1219 : decode cL_law 1219 = .ok (.iaload, 1) := by decide +kernel
theorem dL_law_1220 : decode cL_law 1220 = .ok (.aload_n 0, 1) := by decide +kernel
theorem dL_law_1221 : decode cL_law 1221 = .ok (.iload_n 3, 1) := by decide +kernel
theorem dL_law_1222 : decode cL_law 1222 = .ok (.iconst 4, 1) := by decide +kernel
theorem dL_law_1223 : decode cL_law 1223 = .ok (.iadd, 1) := by decide +kernel
theorem dL_law_1224 : decode cL_law 1224 = .ok (.iaload, 1) := by decide +kernel
theorem dL_law_1225 : decode cL_law 1225 = .ok (.invokevirtual 131, 3) := by decide +kernel
theorem dL_law_1228 : decode cL_law 1228 = .ok (.if_icmp .eq 162, 3) := by decide +kernel
theorem dL_law_1231 : decode cL_law 1231 = .ok (.iconst 0, 1) := by decide +kernel
theorem dL_law_1232 : decode cL_law 1232 = .ok (.ireturn, 1) := by decide +kernel
theorem dL_law_1233 : decode cL_law 1233 = .ok (.aload_n 1, 1) := by decide +kernel
theorem dL_law_1234 : decode cL_law 1234 = .ok (.aload_n 0, 1) := by decide +kernel
theorem dL_law_1235 : decode cL_law 1235 = .ok (.iload_n 3, 1) := by decide +kernel
theorem dL_law_1236 : decode cL_law 1236 = .ok (.iconst 1, 1) := by decide +kernel
theorem dL_law_1237 : decode cL_law 1237 = .ok (.iadd, 1) := by decide +kernel
theorem dL_law_1238 : decode cL_law 1238 = .ok (.iaload, 1) := by decide +kernel
theorem dL_law_1239 : decode cL_law 1239 = .ok (.invokevirtual 132, 3) := by decide +kernel
theorem dL_law_1242 : decode cL_law 1242 = .ok (.aload_n 2, 1) := by decide +kernel
theorem dL_law_1243 : decode cL_law 1243 = .ok (.aload_n 0, 1) := by decide +kernel
theorem dL_law_1244 : decode cL_law 1244 = .ok (.iload_n 3, 1) := by decide +kernel
theorem dL_law_1245 : decode cL_law 1245 = .ok (.iconst 1, 1) := by decide +kernel
theorem dL_law_1246 : decode cL_law 1246 = .ok (.iadd, 1) := by decide +kernel
theorem dL_law_1247 : decode cL_law 1247 = .ok (.iaload, 1) := by decide +kernel
theorem dL_law_1248 : decode cL_law 1248 = .ok (.invokevirtual 135, 3) := by decide +kernel
theorem dL_law_1251 : decode cL_law 1251 = .ok (.if_icmp .eq 139, 3) := by decide +kernel
theorem dL_law_1254 : decode cL_law 1254 = .ok (.iconst 0, 1) := by decide +kernel
theorem dL_law_1255 : decode cL_law 1255 = .ok (.ireturn, 1) := by decide +kernel
theorem dL_law_1256 : decode cL_law 1256 = .ok (.aload_n 1, 1) := by decide +kernel
theorem dL_law_1257 : decode cL_law 1257 = .ok (.aload_n 0, 1) := by decide +kernel
theorem dL_law_1258 : decode cL_law 1258 = .ok (.iload_n 3, 1) := by decide +kernel
theorem dL_law_1259 : decode cL_law 1259 = .ok (.iconst 1, 1) := by decide +kernel
theorem dL_law_1260 : decode cL_law 1260 = .ok (.iadd, 1) := by decide +kernel
theorem dL_law_1261 : decode cL_law 1261 = .ok (.iaload, 1) := by decide +kernel
theorem dL_law_1262 : decode cL_law 1262 = .ok (.invokevirtual 136, 3) := by decide +kernel
theorem dL_law_1265 : decode cL_law 1265 = .ok (.aload_n 2, 1) := by decide +kernel
theorem dL_law_1266 : decode cL_law 1266 = .ok (.aload_n 0, 1) := by decide +kernel
theorem dL_law_1267 : decode cL_law 1267 = .ok (.iload_n 3, 1) := by decide +kernel
theorem dL_law_1268 : decode cL_law 1268 = .ok (.iconst 1, 1) := by decide +kernel
theorem dL_law_1269 : decode cL_law 1269 = .ok (.iadd, 1) := by decide +kernel
theorem dL_law_1270 : decode cL_law 1270 = .ok (.iaload, 1) := by decide +kernel
theorem dL_law_1271 : decode cL_law 1271 = .ok (.invokevirtual 139, 3) := by decide +kernel
theorem dL_law_1274 : decode cL_law 1274 = .ok (.if_icmp .eq 116, 3) := by decide +kernel
theorem dL_law_1277 : decode cL_law 1277 = .ok (.iconst 0, 1) := by decide +kernel
theorem dL_law_1278 : decode cL_law 1278 = .ok (.ireturn, 1) := by decide +kernel
theorem dL_law_1279 : decode cL_law 1279 = .ok (.aload_n 1, 1) := by decide +kernel
theorem dL_law_1280 : decode cL_law 1280 = .ok (.invokevirtual 140, 3) := by decide +kernel
theorem dL_law_1283 : decode cL_law 1283 = .ok (.aload_n 2, 1) := by decide +kernel
theorem dL_law_1284 : decode cL_law 1284 = .ok (.invokevirtual 143, 3) := by decide +kernel
theorem dL_law_1287 : decode cL_law 1287 = .ok (.if_icmp .eq 103, 3) := by decide +kernel
theorem dL_law_1290 : decode cL_law 1290 = .ok (.iconst 0, 1) := by decide +kernel
theorem dL_law_1291 : decode cL_law 1291 = .ok (.ireturn, 1) := by decide +kernel
theorem dL_law_1292 : decode cL_law 1292 = .ok (.aload_n 1, 1) := by decide +kernel
theorem dL_law_1293 : decode cL_law 1293 = .ok (.aload_n 0, 1) := by decide +kernel
theorem dL_law_1294 : decode cL_law 1294 = .ok (.iload_n 3, 1) := by decide +kernel
theorem dL_law_1295 : decode cL_law 1295 = .ok (.iconst 1, 1) := by decide +kernel
theorem dL_law_1296 : decode cL_law 1296 = .ok (.iadd, 1) := by decide +kernel
theorem dL_law_1297 : decode cL_law 1297 = .ok (.iaload, 1) := by decide +kernel
theorem dL_law_1298 : decode cL_law 1298 = .ok (.aload_n 0, 1) := by decide +kernel
theorem dL_law_1299 : decode cL_law 1299 = .ok (.iload_n 3, 1) := by decide +kernel
theorem dL_law_1300 : decode cL_law 1300 = .ok (.iconst 2, 1) := by decide +kernel
theorem dL_law_1301 : decode cL_law 1301 = .ok (.iadd, 1) := by decide +kernel
theorem dL_law_1302 : decode cL_law 1302 = .ok (.iaload, 1) := by decide +kernel
theorem dL_law_1303 : decode cL_law 1303 = .ok (.ifCond .eq 7, 3) := by decide +kernel
theorem dL_law_1306 : decode cL_law 1306 = .ok (.iconst 1, 1) := by decide +kernel
theorem dL_law_1307 : decode cL_law 1307 = .ok (.goto 4, 3) := by decide +kernel
theorem dL_law_1310 : decode cL_law 1310 = .ok (.iconst 0, 1) := by decide +kernel
theorem dL_law_1311 : decode cL_law 1311 = .ok (.invokevirtual 144, 3) := by decide +kernel
theorem dL_law_1314 : decode cL_law 1314 = .ok (.aload_n 2, 1) := by decide +kernel
theorem dL_law_1315 : decode cL_law 1315 = .ok (.aload_n 0, 1) := by decide +kernel
theorem dL_law_1316 : decode cL_law 1316 = .ok (.iload_n 3, 1) := by decide +kernel
theorem dL_law_1317 : decode cL_law 1317 = .ok (.iconst 1, 1) := by decide +kernel
theorem dL_law_1318 : decode cL_law 1318 = .ok (.iadd, 1) := by decide +kernel
theorem dL_law_1319 : decode cL_law 1319 = .ok (.iaload, 1) := by decide +kernel
theorem dL_law_1320 : decode cL_law 1320 = .ok (.aload_n 0, 1) := by decide +kernel
theorem dL_law_1321 : decode cL_law 1321 = .ok (.iload_n 3, 1) := by decide +kernel
theorem dL_law_1322 : decode cL_law 1322 = .ok (.iconst 2, 1) := by decide +kernel
theorem dL_law_1323 : decode cL_law 1323 = .ok (.iadd, 1) := by decide +kernel
theorem dL_law_1324 : decode cL_law 1324 = .ok (.iaload, 1) := by decide +kernel
theorem dL_law_1325 : decode cL_law 1325 = .ok (.ifCond .eq 7, 3) := by decide +kernel
theorem dL_law_1328 : decode cL_law 1328 = .ok (.iconst 1, 1) := by decide +kernel
theorem dL_law_1329 : decode cL_law 1329 = .ok (.goto 4, 3) := by decide +kernel
theorem dL_law_1332 : decode cL_law 1332 = .ok (.iconst 0, 1) := by decide +kernel
theorem dL_law_1333 : decode cL_law 1333 = .ok (.invokevirtual 148, 3) := by decide +kernel
theorem dL_law_1336 : decode cL_law 1336 = .ok (.if_icmp .eq 54, 3) := by decide +kernel
theorem dL_law_1339 : decode cL_law 1339 = .ok (.iconst 0, 1) := by decide +kernel
theorem dL_law_1340 : decode cL_law 1340 = .ok (.ireturn, 1) := by decide +kernel
theorem dL_law_1341 : decode cL_law 1341 = .ok (.aload_n 1, 1) := by decide +kernel
theorem dL_law_1342 : decode cL_law 1342 = .ok (.invokevirtual 149, 3) := by decide +kernel
theorem dL_law_1345 : decode cL_law 1345 = .ok (.aload_n 2, 1) := by decide +kernel
theorem dL_law_1346 : decode cL_law 1346 = .ok (.invokevirtual 152, 3) := by decide +kernel
theorem dL_law_1349 : decode cL_law 1349 = .ok (.if_icmp .eq 41, 3) := by decide +kernel
theorem dL_law_1352 : decode cL_law 1352 = .ok (.iconst 0, 1) := by decide +kernel
theorem dL_law_1353 : decode cL_law 1353 = .ok (.ireturn, 1) := by decide +kernel
theorem dL_law_1354 : decode cL_law 1354 = .ok (.aload_n 1, 1) := by decide +kernel
theorem dL_law_1355 : decode cL_law 1355 = .ok (.invokevirtual 153, 3) := by decide +kernel
theorem dL_law_1358 : decode cL_law 1358 = .ok (.aload_n 2, 1) := by decide +kernel
theorem dL_law_1359 : decode cL_law 1359 = .ok (.invokevirtual 156, 3) := by decide +kernel
theorem dL_law_1362 : decode cL_law 1362 = .ok (.if_icmp .eq 28, 3) := by decide +kernel
theorem dL_law_1365 : decode cL_law 1365 = .ok (.iconst 0, 1) := by decide +kernel
theorem dL_law_1366 : decode cL_law 1366 = .ok (.ireturn, 1) := by decide +kernel
theorem dL_law_1367 : decode cL_law 1367 = .ok (.aload_n 1, 1) := by decide +kernel
theorem dL_law_1368 : decode cL_law 1368 = .ok (.aload_n 0, 1) := by decide +kernel
theorem dL_law_1369 : decode cL_law 1369 = .ok (.iload_n 3, 1) := by decide +kernel
theorem dL_law_1370 : decode cL_law 1370 = .ok (.iconst 1, 1) := by decide +kernel
theorem dL_law_1371 : decode cL_law 1371 = .ok (.iadd, 1) := by decide +kernel
theorem dL_law_1372 : decode cL_law 1372 = .ok (.iaload, 1) := by decide +kernel
theorem dL_law_1373 : decode cL_law 1373 = .ok (.invokevirtual 157, 3) := by decide +kernel
theorem dL_law_1376 : decode cL_law 1376 = .ok (.aload_n 2, 1) := by decide +kernel
theorem dL_law_1377 : decode cL_law 1377 = .ok (.aload_n 0, 1) := by decide +kernel
theorem dL_law_1378 : decode cL_law 1378 = .ok (.iload_n 3, 1) := by decide +kernel
theorem dL_law_1379 : decode cL_law 1379 = .ok (.iconst 1, 1) := by decide +kernel
theorem dL_law_1380 : decode cL_law 1380 = .ok (.iadd, 1) := by decide +kernel
theorem dL_law_1381 : decode cL_law 1381 = .ok (.iaload, 1) := by decide +kernel
theorem dL_law_1382 : decode cL_law 1382 = .ok (.invokevirtual 160, 3) := by decide +kernel
theorem dL_law_1385 : decode cL_law 1385 = .ok (.if_icmp .eq 5, 3) := by decide +kernel
theorem dL_law_1388 : decode cL_law 1388 = .ok (.iconst 0, 1) := by decide +kernel
theorem dL_law_1389 : decode cL_law 1389 = .ok (.ireturn, 1) := by decide +kernel
theorem dL_law_1390 : decode cL_law 1390 = .ok (.iinc 3 8, 3) := by decide +kernel
theorem dL_law_1393 : decode cL_law 1393 = .ok (.goto (-1375), 3) := by decide +kernel
theorem dL_law_1396 : decode cL_law 1396 = .ok (.iconst 1, 1) := by decide +kernel
theorem dL_law_1397 : decode cL_law 1397 = .ok (.ireturn, 1) := by decide +kernel
theorem ca_13_9 : xCall 13 9 = some (9, 0, 1024) := by decide +kernel
theorem ca_13_12 : xCall 13 12 = some (12, 12, 5178) := by decide +kernel
theorem ca_13_13 : xCall 13 13 = some (13, 13, 2225) := by decide +kernel
theorem ca_13_17 : xCall 13 17 = some (17, 17, 6071) := by decide +kernel
theorem ca_13_18 : xCall 13 18 = some (18, 19, 2239) := by decide +kernel
theorem ca_13_22 : xCall 13 22 = some (22, 21, 6078) := by decide +kernel
theorem ca_13_23 : xCall 13 23 = some (23, 23, 3007) := by decide +kernel
theorem ca_13_27 : xCall 13 27 = some (27, 25, 6086) := by decide +kernel
theorem ca_13_28 : xCall 13 28 = some (28, 27, 3016) := by decide +kernel
theorem ca_13_31 : xCall 13 31 = some (31, 31, 6094) := by decide +kernel
theorem ca_13_32 : xCall 13 32 = some (32, 36, 3032) := by decide +kernel
theorem ca_13_35 : xCall 13 35 = some (35, 38, 6114) := by decide +kernel
theorem ca_13_36 : xCall 13 36 = some (36, 39, 3040) := by decide +kernel
theorem ca_13_40 : xCall 13 40 = some (40, 40, 6118) := by decide +kernel
theorem ca_13_41 : xCall 13 41 = some (41, 41, 3045) := by decide +kernel
theorem ca_13_45 : xCall 13 45 = some (45, 42, 6122) := by decide +kernel
theorem ca_13_46 : xCall 13 46 = some (46, 43, 3050) := by decide +kernel
theorem ca_13_49 : xCall 13 49 = some (49, 46, 6127) := by decide +kernel
theorem ca_13_50 : xCall 13 50 = some (50, 48, 3062) := by decide +kernel
theorem ca_13_53 : xCall 13 53 = some (53, 49, 6135) := by decide +kernel
theorem ca_13_54 : xCall 13 54 = some (54, 50, 3066) := by decide +kernel
theorem ca_13_58 : xCall 13 58 = some (58, 86, 6139) := by decide +kernel
theorem ca_13_59 : xCall 13 59 = some (59, 111, 3216) := by decide +kernel
theorem ca_13_62 : xCall 13 62 = some (62, 112, 7010) := by decide +kernel
theorem ca_13_63 : xCall 13 63 = some (63, 113, 3220) := by decide +kernel
theorem ca_13_66 : xCall 13 66 = some (66, 114, 7014) := by decide +kernel
theorem ca_13_67 : xCall 13 67 = some (67, 115, 3224) := by decide +kernel
theorem ca_13_70 : xCall 13 70 = some (70, 162, 7039) := by decide +kernel
theorem ca_13_71 : xCall 13 71 = some (71, 193, 4198) := by decide +kernel
theorem ca_13_75 : xCall 13 75 = some (75, 194, 7149) := by decide +kernel
theorem ca_13_76 : xCall 13 76 = some (76, 195, 4202) := by decide +kernel
theorem ca_13_79 : xCall 13 79 = some (79, 196, 7153) := by decide +kernel
theorem ca_13_80 : xCall 13 80 = some (80, 197, 4206) := by decide +kernel
theorem ca_13_84 : xCall 13 84 = some (84, 198, 7157) := by decide +kernel
theorem ca_13_85 : xCall 13 85 = some (85, 199, 4211) := by decide +kernel
theorem ca_13_89 : xCall 13 89 = some (89, 200, 7018) := by decide +kernel
theorem ca_13_90 : xCall 13 90 = some (90, 201, 4217) := by decide +kernel
theorem ca_13_93 : xCall 13 93 = some (93, 202, 7161) := by decide +kernel
theorem ca_13_94 : xCall 13 94 = some (94, 203, 4221) := by decide +kernel
theorem ca_13_97 : xCall 13 97 = some (97, 212, 7165) := by decide +kernel
theorem ca_13_98 : xCall 13 98 = some (98, 217, 5023) := by decide +kernel
theorem ca_13_101 : xCall 13 101 = some (101, 220, 7186) := by decide +kernel
theorem ca_13_102 : xCall 13 102 = some (102, 221, 5036) := by decide +kernel
theorem ca_13_105 : xCall 13 105 = some (105, 222, 7190) := by decide +kernel
theorem ca_13_106 : xCall 13 106 = some (106, 224, 5042) := by decide +kernel
theorem ca_13_109 : xCall 13 109 = some (109, 226, 7198) := by decide +kernel
theorem ca_13_110 : xCall 13 110 = some (110, 227, 5051) := by decide +kernel
theorem ca_13_114 : xCall 13 114 = some (114, 231, 7203) := by decide +kernel
theorem ca_13_115 : xCall 13 115 = some (115, 234, 5071) := by decide +kernel
theorem ca_13_118 : xCall 13 118 = some (118, 235, 7215) := by decide +kernel
theorem ca_13_119 : xCall 13 119 = some (119, 236, 5075) := by decide +kernel
theorem ca_13_123 : xCall 13 123 = some (123, 238, 7219) := by decide +kernel
theorem ca_13_124 : xCall 13 124 = some (124, 239, 5083) := by decide +kernel
theorem ca_13_127 : xCall 13 127 = some (127, 241, 7223) := by decide +kernel
theorem ca_13_128 : xCall 13 128 = some (128, 243, 5093) := by decide +kernel
theorem ca_13_131 : xCall 13 131 = some (131, 245, 7232) := by decide +kernel
theorem ca_13_132 : xCall 13 132 = some (132, 246, 5101) := by decide +kernel
theorem ca_13_135 : xCall 13 135 = some (135, 251, 7236) := by decide +kernel
theorem ca_13_136 : xCall 13 136 = some (136, 254, 5122) := by decide +kernel
theorem ca_13_139 : xCall 13 139 = some (139, 256, 8008) := by decide +kernel
theorem ca_13_140 : xCall 13 140 = some (140, 257, 5130) := by decide +kernel
theorem ca_13_143 : xCall 13 143 = some (143, 258, 8012) := by decide +kernel
theorem ca_13_144 : xCall 13 144 = some (144, 259, 5134) := by decide +kernel
theorem ca_13_148 : xCall 13 148 = some (148, 261, 8016) := by decide +kernel
theorem ca_13_149 : xCall 13 149 = some (149, 263, 5144) := by decide +kernel
theorem ca_13_152 : xCall 13 152 = some (152, 268, 8024) := by decide +kernel
theorem ca_13_153 : xCall 13 153 = some (153, 269, 5168) := by decide +kernel
theorem ca_13_156 : xCall 13 156 = some (156, 270, 8028) := by decide +kernel
theorem ca_13_157 : xCall 13 157 = some (157, 271, 5172) := by decide +kernel
theorem ca_13_160 : xCall 13 160 = some (160, 272, 8032) := by decide +kernel
theorem nw_13_7 : xNew 13 7 = some (7, 11, 1022, 1023, 1001) := by decide +kernel
theorem nw_13_10 : xNew 13 10 = some (10, 12, 5176, 5177, 1013) := by decide +kernel
def fL_1390 (L : Nat) (xs : Nat → Int32) (rec18 : Int32 → xMem → Option (Int32 × xMem)) (l3 : Int32) (m : xMem) : Option (Int32 × xMem) := xLet (l3 + (8 : Int32)) fun x1 => rec18 x1 m
set_option maxRecDepth 4000 in
theorem fL_1390_ok {L : Nat} {xs : Nat → Int32} {rec18 : Int32 → xMem → Option (Int32 × xMem)} {d : Nat} (hd : 10 ≤ d)  (hrec18 : ∀ (l3 : Int32) (m : xMem) (r : (Int32 × xMem)), rec18 l3 m = some r → xFx (xHL L xs) code d 18 [some (.ref xSc), some (.ref 0), some (.ref 291), some (.int l3)] [] (xLay m) 317 20810 (some (.int r.1)) (xLay r.2)) {l3 : Int32} {m : xMem} {r : (Int32 × xMem)} (h : fL_1390 L xs rec18 l3 m = some r) : xFx (xHL L xs) code d 1390 [some (.ref xSc), some (.ref 0), some (.ref 291), some (.int l3)] [] (xLay m) 317 20810 (some (.int r.1)) (xLay r.2) := by
  unfold fL_1390 at h
  obtain ⟨x1, hx1, h⟩ := xLet_el h
  refine fx_iinc (ls2 := [some (.ref xSc), some (.ref 0), some (.ref 291), some (.int x1)]) dL_law_1390 rfl rfl rfl hx1 rfl ?_
  refine fx_goto (t := 18) dL_law_1393 rfl rfl ?_
  exact hrec18 x1 m r h
def fL_503 (L : Nat) (xs : Nat → Int32) (rec18 : Int32 → xMem → Option (Int32 × xMem)) (l3 : Int32) (s0 : Int32) (s1 : Nat) (s2 : Int32) (s3 : Int32) (s4 : Int32) (s5 : Int32) (s6 : Int32) (s7 : Int32) (s8 : Int32) (m : xMem) : Option (Int32 × xMem) := (fX12_burst s1 s2 s3 s4 s5 s6 s7 s8 m).bind fun p1 => if s0 = p1.1 then fL_1390 L xs rec18 l3 p1.2 else some ((0 : Int32), p1.2)
set_option maxRecDepth 4000 in
theorem fL_503_ok {L : Nat} {xs : Nat → Int32} {rec18 : Int32 → xMem → Option (Int32 × xMem)} {d : Nat} (hd : 10 ≤ d)  (hrec18 : ∀ (l3 : Int32) (m : xMem) (r : (Int32 × xMem)), rec18 l3 m = some r → xFx (xHL L xs) code d 18 [some (.ref xSc), some (.ref 0), some (.ref 291), some (.int l3)] [] (xLay m) 317 20810 (some (.int r.1)) (xLay r.2)) {l3 : Int32} {s0 : Int32} {s1 : Nat} {s2 : Int32} {s3 : Int32} {s4 : Int32} {s5 : Int32} {s6 : Int32} {s7 : Int32} {s8 : Int32} {m : xMem} {r : (Int32 × xMem)} (hs1 : isModel s1) (h : fL_503 L xs rec18 l3 s0 s1 s2 s3 s4 s5 s6 s7 s8 m = some r) : xFx (xHL L xs) code d 503 [some (.ref xSc), some (.ref 0), some (.ref 291), some (.int l3)] [.int s8, .int s7, .int s6, .int s5, .int s4, .int s3, .int s2, .ref s1, .int s0] (xLay m) 317 20810 (some (.int r.1)) (xLay r.2) := by
  unfold fL_503 at h
  obtain ⟨p1, ep1, h⟩ := xBind_el h
  refine gx_callv (as := [.int s2, .int s3, .int s4, .int s5, .int s6, .int s7, .int s8]) (r := [.int s0]) rfl dL_law_503 ca_13_45 rfl me_42 rfl rfl rfl rfl (hs1.1) rfl (fX12_burst_ok (d := d) (by omega) hs1 ep1) rfl rfl ?_
  refine fx_icmp_eq (t := 1390) dL_law_506 rfl rfl (fun hc2 => ?_) (fun hc2 => ?_)
  · rw [if_pos hc2] at h
    exact fL_1390_ok hd hrec18 h
  · rw [if_neg hc2] at h
    refine fx_iconst (x := 0) dL_law_509 rfl (by decide) ?_
    cases h
    exact fx_ireturn dL_law_510 rfl rfl
def fL_489 (L : Nat) (xs : Nat → Int32) (rec18 : Int32 → xMem → Option (Int32 × xMem)) (l3 : Int32) (s0 : Int32) (s1 : Nat) (s2 : Int32) (s3 : Int32) (s4 : Int32) (s5 : Int32) (s6 : Int32) (s7 : Int32) (m : xMem) : Option (Int32 × xMem) := xLet (l3 + (7 : Int32)) fun x1 => bif xIn x1 L then xLet (xs x1.toNatClampNeg) fun x2 => if x2 = (0 : Int32) then fL_503 L xs rec18 l3 s0 s1 s2 s3 s4 s5 s6 s7 (0 : Int32) m else fL_503 L xs rec18 l3 s0 s1 s2 s3 s4 s5 s6 s7 (1 : Int32) m else none
set_option maxRecDepth 4000 in
theorem fL_489_ok {L : Nat} {xs : Nat → Int32} {rec18 : Int32 → xMem → Option (Int32 × xMem)} {d : Nat} (hd : 10 ≤ d)  (hrec18 : ∀ (l3 : Int32) (m : xMem) (r : (Int32 × xMem)), rec18 l3 m = some r → xFx (xHL L xs) code d 18 [some (.ref xSc), some (.ref 0), some (.ref 291), some (.int l3)] [] (xLay m) 317 20810 (some (.int r.1)) (xLay r.2)) {l3 : Int32} {s0 : Int32} {s1 : Nat} {s2 : Int32} {s3 : Int32} {s4 : Int32} {s5 : Int32} {s6 : Int32} {s7 : Int32} {m : xMem} {r : (Int32 × xMem)} (hs1 : isModel s1) (h : fL_489 L xs rec18 l3 s0 s1 s2 s3 s4 s5 s6 s7 m = some r) : xFx (xHL L xs) code d 489 [some (.ref xSc), some (.ref 0), some (.ref 291), some (.int l3)] [.int s7, .int s6, .int s5, .int s4, .int s3, .int s2, .ref s1, .int s0] (xLay m) 317 20810 (some (.int r.1)) (xLay r.2) := by
  unfold fL_489 at h
  refine fx_aload_n dL_law_489 rfl rfl ?_
  refine fx_iload_n dL_law_490 rfl rfl ?_
  refine fx_bipush (x := 7) dL_law_491 rfl (by decide) ?_
  obtain ⟨x1, hx1, h⟩ := xLet_el h
  refine fx_iadd dL_law_493 rfl hx1 ?_
  obtain ⟨hj3, h⟩ := xChk_el h
  obtain ⟨x2, hx2, h⟩ := xLet_el h
  refine fx_sload dL_law_494 rfl rfl hj3 hx2 ?_
  refine fx_if_eq (t := 502) dL_law_495 rfl rfl (fun hc4 => ?_) (fun hc4 => ?_)
  · rw [if_pos hc4] at h
    refine fx_iconst (x := 0) dL_law_502 rfl (by decide) ?_
    exact fL_503_ok hd hrec18 hs1 h
  · rw [if_neg hc4] at h
    refine fx_iconst (x := 1) dL_law_498 rfl (by decide) ?_
    refine fx_goto (t := 503) dL_law_499 rfl rfl ?_
    exact fL_503_ok hd hrec18 hs1 h
def fL_446 (L : Nat) (xs : Nat → Int32) (rec18 : Int32 → xMem → Option (Int32 × xMem)) (l3 : Int32) (s0 : Nat) (s1 : Int32) (s2 : Int32) (s3 : Int32) (s4 : Int32) (s5 : Int32) (s6 : Int32) (s7 : Int32) (m : xMem) : Option (Int32 × xMem) := (fX11_burst s0 s1 s2 s3 s4 s5 s6 s7 m).bind fun p1 => xLet (l3 + (1 : Int32)) fun x2 => bif xIn x2 L then xLet (xs x2.toNatClampNeg) fun x3 => xLet (l3 + (2 : Int32)) fun x5 => bif xIn x5 L then xLet (xs x5.toNatClampNeg) fun x6 => xLet (l3 + (3 : Int32)) fun x8 => bif xIn x8 L then xLet (xs x8.toNatClampNeg) fun x9 => xLet (l3 + (4 : Int32)) fun x11 => bif xIn x11 L then xLet (xs x11.toNatClampNeg) fun x12 => xLet (l3 + (5 : Int32)) fun x14 => bif xIn x14 L then xLet (xs x14.toNatClampNeg) fun x15 => xLet (l3 + (6 : Int32)) fun x17 => bif xIn x17 L then xLet (xs x17.toNatClampNeg) fun x18 => if x18 = (0 : Int32) then fL_489 L xs rec18 l3 p1.1 291 x3 x6 x9 x12 x15 (0 : Int32) p1.2 else fL_489 L xs rec18 l3 p1.1 291 x3 x6 x9 x12 x15 (1 : Int32) p1.2 else none else none else none else none else none else none
set_option maxRecDepth 4000 in
theorem fL_446_ok {L : Nat} {xs : Nat → Int32} {rec18 : Int32 → xMem → Option (Int32 × xMem)} {d : Nat} (hd : 10 ≤ d)  (hrec18 : ∀ (l3 : Int32) (m : xMem) (r : (Int32 × xMem)), rec18 l3 m = some r → xFx (xHL L xs) code d 18 [some (.ref xSc), some (.ref 0), some (.ref 291), some (.int l3)] [] (xLay m) 317 20810 (some (.int r.1)) (xLay r.2)) {l3 : Int32} {s0 : Nat} {s1 : Int32} {s2 : Int32} {s3 : Int32} {s4 : Int32} {s5 : Int32} {s6 : Int32} {s7 : Int32} {m : xMem} {r : (Int32 × xMem)} (hs0 : isMS s0) (h : fL_446 L xs rec18 l3 s0 s1 s2 s3 s4 s5 s6 s7 m = some r) : xFx (xHL L xs) code d 446 [some (.ref xSc), some (.ref 0), some (.ref 291), some (.int l3)] [.int s7, .int s6, .int s5, .int s4, .int s3, .int s2, .int s1, .ref s0] (xLay m) 317 20810 (some (.int r.1)) (xLay r.2) := by
  unfold fL_446 at h
  obtain ⟨p1, ep1, h⟩ := xBind_el h
  refine gx_callv (as := [.int s1, .int s2, .int s3, .int s4, .int s5, .int s6, .int s7]) (r := []) rfl dL_law_446 ca_13_41 rfl me_41 rfl rfl rfl rfl (hs0.1) rfl (fX11_burst_ok (d := d) (by omega) hs0 ep1) rfl rfl ?_
  refine fx_aload_n dL_law_449 rfl rfl ?_
  refine fx_aload_n dL_law_450 rfl rfl ?_
  refine fx_iload_n dL_law_451 rfl rfl ?_
  refine fx_iconst (x := 1) dL_law_452 rfl (by decide) ?_
  obtain ⟨x2, hx2, h⟩ := xLet_el h
  refine fx_iadd dL_law_453 rfl hx2 ?_
  obtain ⟨hj4, h⟩ := xChk_el h
  obtain ⟨x3, hx3, h⟩ := xLet_el h
  refine fx_sload dL_law_454 rfl rfl hj4 hx3 ?_
  refine fx_aload_n dL_law_455 rfl rfl ?_
  refine fx_iload_n dL_law_456 rfl rfl ?_
  refine fx_iconst (x := 2) dL_law_457 rfl (by decide) ?_
  obtain ⟨x5, hx5, h⟩ := xLet_el h
  refine fx_iadd dL_law_458 rfl hx5 ?_
  obtain ⟨hj7, h⟩ := xChk_el h
  obtain ⟨x6, hx6, h⟩ := xLet_el h
  refine fx_sload dL_law_459 rfl rfl hj7 hx6 ?_
  refine fx_aload_n dL_law_460 rfl rfl ?_
  refine fx_iload_n dL_law_461 rfl rfl ?_
  refine fx_iconst (x := 3) dL_law_462 rfl (by decide) ?_
  obtain ⟨x8, hx8, h⟩ := xLet_el h
  refine fx_iadd dL_law_463 rfl hx8 ?_
  obtain ⟨hj10, h⟩ := xChk_el h
  obtain ⟨x9, hx9, h⟩ := xLet_el h
  refine fx_sload dL_law_464 rfl rfl hj10 hx9 ?_
  refine fx_aload_n dL_law_465 rfl rfl ?_
  refine fx_iload_n dL_law_466 rfl rfl ?_
  refine fx_iconst (x := 4) dL_law_467 rfl (by decide) ?_
  obtain ⟨x11, hx11, h⟩ := xLet_el h
  refine fx_iadd dL_law_468 rfl hx11 ?_
  obtain ⟨hj13, h⟩ := xChk_el h
  obtain ⟨x12, hx12, h⟩ := xLet_el h
  refine fx_sload dL_law_469 rfl rfl hj13 hx12 ?_
  refine fx_aload_n dL_law_470 rfl rfl ?_
  refine fx_iload_n dL_law_471 rfl rfl ?_
  refine fx_iconst (x := 5) dL_law_472 rfl (by decide) ?_
  obtain ⟨x14, hx14, h⟩ := xLet_el h
  refine fx_iadd dL_law_473 rfl hx14 ?_
  obtain ⟨hj16, h⟩ := xChk_el h
  obtain ⟨x15, hx15, h⟩ := xLet_el h
  refine fx_sload dL_law_474 rfl rfl hj16 hx15 ?_
  refine fx_aload_n dL_law_475 rfl rfl ?_
  refine fx_iload_n dL_law_476 rfl rfl ?_
  refine fx_bipush (x := 6) dL_law_477 rfl (by decide) ?_
  obtain ⟨x17, hx17, h⟩ := xLet_el h
  refine fx_iadd dL_law_479 rfl hx17 ?_
  obtain ⟨hj19, h⟩ := xChk_el h
  obtain ⟨x18, hx18, h⟩ := xLet_el h
  refine fx_sload dL_law_480 rfl rfl hj19 hx18 ?_
  refine fx_if_eq (t := 488) dL_law_481 rfl rfl (fun hc20 => ?_) (fun hc20 => ?_)
  · rw [if_pos hc20] at h
    refine fx_iconst (x := 0) dL_law_488 rfl (by decide) ?_
    exact fL_489_ok hd hrec18 hModel h
  · rw [if_neg hc20] at h
    refine fx_iconst (x := 1) dL_law_484 rfl (by decide) ?_
    refine fx_goto (t := 489) dL_law_485 rfl rfl ?_
    exact fL_489_ok hd hrec18 hModel h
def fL_432 (L : Nat) (xs : Nat → Int32) (rec18 : Int32 → xMem → Option (Int32 × xMem)) (l3 : Int32) (s0 : Nat) (s1 : Int32) (s2 : Int32) (s3 : Int32) (s4 : Int32) (s5 : Int32) (s6 : Int32) (m : xMem) : Option (Int32 × xMem) := xLet (l3 + (7 : Int32)) fun x1 => bif xIn x1 L then xLet (xs x1.toNatClampNeg) fun x2 => if x2 = (0 : Int32) then fL_446 L xs rec18 l3 s0 s1 s2 s3 s4 s5 s6 (0 : Int32) m else fL_446 L xs rec18 l3 s0 s1 s2 s3 s4 s5 s6 (1 : Int32) m else none
set_option maxRecDepth 4000 in
theorem fL_432_ok {L : Nat} {xs : Nat → Int32} {rec18 : Int32 → xMem → Option (Int32 × xMem)} {d : Nat} (hd : 10 ≤ d)  (hrec18 : ∀ (l3 : Int32) (m : xMem) (r : (Int32 × xMem)), rec18 l3 m = some r → xFx (xHL L xs) code d 18 [some (.ref xSc), some (.ref 0), some (.ref 291), some (.int l3)] [] (xLay m) 317 20810 (some (.int r.1)) (xLay r.2)) {l3 : Int32} {s0 : Nat} {s1 : Int32} {s2 : Int32} {s3 : Int32} {s4 : Int32} {s5 : Int32} {s6 : Int32} {m : xMem} {r : (Int32 × xMem)} (hs0 : isMS s0) (h : fL_432 L xs rec18 l3 s0 s1 s2 s3 s4 s5 s6 m = some r) : xFx (xHL L xs) code d 432 [some (.ref xSc), some (.ref 0), some (.ref 291), some (.int l3)] [.int s6, .int s5, .int s4, .int s3, .int s2, .int s1, .ref s0] (xLay m) 317 20810 (some (.int r.1)) (xLay r.2) := by
  unfold fL_432 at h
  refine fx_aload_n dL_law_432 rfl rfl ?_
  refine fx_iload_n dL_law_433 rfl rfl ?_
  refine fx_bipush (x := 7) dL_law_434 rfl (by decide) ?_
  obtain ⟨x1, hx1, h⟩ := xLet_el h
  refine fx_iadd dL_law_436 rfl hx1 ?_
  obtain ⟨hj3, h⟩ := xChk_el h
  obtain ⟨x2, hx2, h⟩ := xLet_el h
  refine fx_sload dL_law_437 rfl rfl hj3 hx2 ?_
  refine fx_if_eq (t := 445) dL_law_438 rfl rfl (fun hc4 => ?_) (fun hc4 => ?_)
  · rw [if_pos hc4] at h
    refine fx_iconst (x := 0) dL_law_445 rfl (by decide) ?_
    exact fL_446_ok hd hrec18 hs0 h
  · rw [if_neg hc4] at h
    refine fx_iconst (x := 1) dL_law_441 rfl (by decide) ?_
    refine fx_goto (t := 446) dL_law_442 rfl rfl ?_
    exact fL_446_ok hd hrec18 hs0 h
def fL_839 (L : Nat) (xs : Nat → Int32) (rec18 : Int32 → xMem → Option (Int32 × xMem)) (l3 : Int32) (s0 : Int32) (s1 : Nat) (s2 : Int32) (s3 : Int32) (s4 : Int32) (m : xMem) : Option (Int32 × xMem) := (fX12_route s1 s2 s3 s4 m).bind fun p1 => if s0 = p1.1 then fL_1390 L xs rec18 l3 p1.2 else some ((0 : Int32), p1.2)
set_option maxRecDepth 4000 in
theorem fL_839_ok {L : Nat} {xs : Nat → Int32} {rec18 : Int32 → xMem → Option (Int32 × xMem)} {d : Nat} (hd : 10 ≤ d)  (hrec18 : ∀ (l3 : Int32) (m : xMem) (r : (Int32 × xMem)), rec18 l3 m = some r → xFx (xHL L xs) code d 18 [some (.ref xSc), some (.ref 0), some (.ref 291), some (.int l3)] [] (xLay m) 317 20810 (some (.int r.1)) (xLay r.2)) {l3 : Int32} {s0 : Int32} {s1 : Nat} {s2 : Int32} {s3 : Int32} {s4 : Int32} {m : xMem} {r : (Int32 × xMem)} (hs1 : isModel s1) (h : fL_839 L xs rec18 l3 s0 s1 s2 s3 s4 m = some r) : xFx (xHL L xs) code d 839 [some (.ref xSc), some (.ref 0), some (.ref 291), some (.int l3)] [.int s4, .int s3, .int s2, .ref s1, .int s0] (xLay m) 317 20810 (some (.int r.1)) (xLay r.2) := by
  unfold fL_839 at h
  obtain ⟨p1, ep1, h⟩ := xBind_el h
  refine gx_callv (as := [.int s2, .int s3, .int s4]) (r := [.int s0]) rfl dL_law_839 ca_13_89 rfl me_200 rfl rfl rfl rfl (hs1.1) rfl (fX12_route_ok (d := d) (by omega) hs1 ep1) rfl rfl ?_
  refine fx_icmp_eq (t := 1390) dL_law_842 rfl rfl (fun hc2 => ?_) (fun hc2 => ?_)
  · rw [if_pos hc2] at h
    exact fL_1390_ok hd hrec18 h
  · rw [if_neg hc2] at h
    refine fx_iconst (x := 0) dL_law_845 rfl (by decide) ?_
    cases h
    exact fx_ireturn dL_law_846 rfl rfl
def fL_812 (L : Nat) (xs : Nat → Int32) (rec18 : Int32 → xMem → Option (Int32 × xMem)) (l3 : Int32) (s0 : Nat) (s1 : Int32) (s2 : Int32) (s3 : Int32) (m : xMem) : Option (Int32 × xMem) := (fX11_route s0 s1 s2 s3 m).bind fun p1 => xLet (l3 + (1 : Int32)) fun x2 => bif xIn x2 L then xLet (xs x2.toNatClampNeg) fun x3 => xLet (l3 + (2 : Int32)) fun x5 => bif xIn x5 L then xLet (xs x5.toNatClampNeg) fun x6 => xLet (l3 + (3 : Int32)) fun x8 => bif xIn x8 L then xLet (xs x8.toNatClampNeg) fun x9 => if x9 = (0 : Int32) then fL_839 L xs rec18 l3 p1.1 291 x3 x6 (0 : Int32) p1.2 else fL_839 L xs rec18 l3 p1.1 291 x3 x6 (1 : Int32) p1.2 else none else none else none
set_option maxRecDepth 4000 in
theorem fL_812_ok {L : Nat} {xs : Nat → Int32} {rec18 : Int32 → xMem → Option (Int32 × xMem)} {d : Nat} (hd : 10 ≤ d)  (hrec18 : ∀ (l3 : Int32) (m : xMem) (r : (Int32 × xMem)), rec18 l3 m = some r → xFx (xHL L xs) code d 18 [some (.ref xSc), some (.ref 0), some (.ref 291), some (.int l3)] [] (xLay m) 317 20810 (some (.int r.1)) (xLay r.2)) {l3 : Int32} {s0 : Nat} {s1 : Int32} {s2 : Int32} {s3 : Int32} {m : xMem} {r : (Int32 × xMem)} (hs0 : isMS s0) (h : fL_812 L xs rec18 l3 s0 s1 s2 s3 m = some r) : xFx (xHL L xs) code d 812 [some (.ref xSc), some (.ref 0), some (.ref 291), some (.int l3)] [.int s3, .int s2, .int s1, .ref s0] (xLay m) 317 20810 (some (.int r.1)) (xLay r.2) := by
  unfold fL_812 at h
  obtain ⟨p1, ep1, h⟩ := xBind_el h
  refine gx_callv (as := [.int s1, .int s2, .int s3]) (r := []) rfl dL_law_812 ca_13_85 rfl me_199 rfl rfl rfl rfl (hs0.1) rfl (fX11_route_ok (d := d) (by omega) hs0 ep1) rfl rfl ?_
  refine fx_aload_n dL_law_815 rfl rfl ?_
  refine fx_aload_n dL_law_816 rfl rfl ?_
  refine fx_iload_n dL_law_817 rfl rfl ?_
  refine fx_iconst (x := 1) dL_law_818 rfl (by decide) ?_
  obtain ⟨x2, hx2, h⟩ := xLet_el h
  refine fx_iadd dL_law_819 rfl hx2 ?_
  obtain ⟨hj4, h⟩ := xChk_el h
  obtain ⟨x3, hx3, h⟩ := xLet_el h
  refine fx_sload dL_law_820 rfl rfl hj4 hx3 ?_
  refine fx_aload_n dL_law_821 rfl rfl ?_
  refine fx_iload_n dL_law_822 rfl rfl ?_
  refine fx_iconst (x := 2) dL_law_823 rfl (by decide) ?_
  obtain ⟨x5, hx5, h⟩ := xLet_el h
  refine fx_iadd dL_law_824 rfl hx5 ?_
  obtain ⟨hj7, h⟩ := xChk_el h
  obtain ⟨x6, hx6, h⟩ := xLet_el h
  refine fx_sload dL_law_825 rfl rfl hj7 hx6 ?_
  refine fx_aload_n dL_law_826 rfl rfl ?_
  refine fx_iload_n dL_law_827 rfl rfl ?_
  refine fx_iconst (x := 3) dL_law_828 rfl (by decide) ?_
  obtain ⟨x8, hx8, h⟩ := xLet_el h
  refine fx_iadd dL_law_829 rfl hx8 ?_
  obtain ⟨hj10, h⟩ := xChk_el h
  obtain ⟨x9, hx9, h⟩ := xLet_el h
  refine fx_sload dL_law_830 rfl rfl hj10 hx9 ?_
  refine fx_if_eq (t := 838) dL_law_831 rfl rfl (fun hc11 => ?_) (fun hc11 => ?_)
  · rw [if_pos hc11] at h
    refine fx_iconst (x := 0) dL_law_838 rfl (by decide) ?_
    exact fL_839_ok hd hrec18 hModel h
  · rw [if_neg hc11] at h
    refine fx_iconst (x := 1) dL_law_834 rfl (by decide) ?_
    refine fx_goto (t := 839) dL_law_835 rfl rfl ?_
    exact fL_839_ok hd hrec18 hModel h
def fL_1149 (L : Nat) (xs : Nat → Int32) (rec18 : Int32 → xMem → Option (Int32 × xMem)) (l3 : Int32) (s0 : Int32) (s1 : Nat) (s2 : Int32) (m : xMem) : Option (Int32 × xMem) := xLet (l3 + (2 : Int32)) fun x1 => bif xIn x1 L then xLet (xs x1.toNatClampNeg) fun x2 => xLet (l3 + (3 : Int32)) fun x4 => bif xIn x4 L then xLet (xs x4.toNatClampNeg) fun x5 => (fX12_day s1 s2 x2 x5 m).bind fun p7 => if s0 = p7.1 then fL_1390 L xs rec18 l3 p7.2 else some ((0 : Int32), p7.2) else none else none
set_option maxRecDepth 4000 in
theorem fL_1149_ok {L : Nat} {xs : Nat → Int32} {rec18 : Int32 → xMem → Option (Int32 × xMem)} {d : Nat} (hd : 10 ≤ d)  (hrec18 : ∀ (l3 : Int32) (m : xMem) (r : (Int32 × xMem)), rec18 l3 m = some r → xFx (xHL L xs) code d 18 [some (.ref xSc), some (.ref 0), some (.ref 291), some (.int l3)] [] (xLay m) 317 20810 (some (.int r.1)) (xLay r.2)) {l3 : Int32} {s0 : Int32} {s1 : Nat} {s2 : Int32} {m : xMem} {r : (Int32 × xMem)} (hs1 : isModel s1) (h : fL_1149 L xs rec18 l3 s0 s1 s2 m = some r) : xFx (xHL L xs) code d 1149 [some (.ref xSc), some (.ref 0), some (.ref 291), some (.int l3)] [.int s2, .ref s1, .int s0] (xLay m) 317 20810 (some (.int r.1)) (xLay r.2) := by
  unfold fL_1149 at h
  refine fx_aload_n dL_law_1149 rfl rfl ?_
  refine fx_iload_n dL_law_1150 rfl rfl ?_
  refine fx_iconst (x := 2) dL_law_1151 rfl (by decide) ?_
  obtain ⟨x1, hx1, h⟩ := xLet_el h
  refine fx_iadd dL_law_1152 rfl hx1 ?_
  obtain ⟨hj3, h⟩ := xChk_el h
  obtain ⟨x2, hx2, h⟩ := xLet_el h
  refine fx_sload dL_law_1153 rfl rfl hj3 hx2 ?_
  refine fx_aload_n dL_law_1154 rfl rfl ?_
  refine fx_iload_n dL_law_1155 rfl rfl ?_
  refine fx_iconst (x := 3) dL_law_1156 rfl (by decide) ?_
  obtain ⟨x4, hx4, h⟩ := xLet_el h
  refine fx_iadd dL_law_1157 rfl hx4 ?_
  obtain ⟨hj6, h⟩ := xChk_el h
  obtain ⟨x5, hx5, h⟩ := xLet_el h
  refine fx_sload dL_law_1158 rfl rfl hj6 hx5 ?_
  obtain ⟨p7, ep7, h⟩ := xBind_el h
  refine gx_callv (as := [.int s2, .int x2, .int x5]) (r := [.int s0]) rfl dL_law_1159 ca_13_123 rfl me_238 rfl rfl rfl rfl (hs1.1) rfl (fX12_day_ok (d := d) (by omega) hs1 ep7) rfl rfl ?_
  refine fx_icmp_eq (t := 1390) dL_law_1162 rfl rfl (fun hc8 => ?_) (fun hc8 => ?_)
  · rw [if_pos hc8] at h
    exact fL_1390_ok hd hrec18 h
  · rw [if_neg hc8] at h
    refine fx_iconst (x := 0) dL_law_1165 rfl (by decide) ?_
    cases h
    exact fx_ireturn dL_law_1166 rfl rfl
def fL_1122 (L : Nat) (xs : Nat → Int32) (rec18 : Int32 → xMem → Option (Int32 × xMem)) (l3 : Int32) (s0 : Nat) (s1 : Int32) (m : xMem) : Option (Int32 × xMem) := xLet (l3 + (2 : Int32)) fun x1 => bif xIn x1 L then xLet (xs x1.toNatClampNeg) fun x2 => xLet (l3 + (3 : Int32)) fun x4 => bif xIn x4 L then xLet (xs x4.toNatClampNeg) fun x5 => (fX11_day s0 s1 x2 x5 m).bind fun p7 => xLet (l3 + (1 : Int32)) fun x8 => bif xIn x8 L then xLet (xs x8.toNatClampNeg) fun x9 => if x9 = (0 : Int32) then fL_1149 L xs rec18 l3 p7.1 291 (0 : Int32) p7.2 else fL_1149 L xs rec18 l3 p7.1 291 (1 : Int32) p7.2 else none else none else none
set_option maxRecDepth 4000 in
theorem fL_1122_ok {L : Nat} {xs : Nat → Int32} {rec18 : Int32 → xMem → Option (Int32 × xMem)} {d : Nat} (hd : 10 ≤ d)  (hrec18 : ∀ (l3 : Int32) (m : xMem) (r : (Int32 × xMem)), rec18 l3 m = some r → xFx (xHL L xs) code d 18 [some (.ref xSc), some (.ref 0), some (.ref 291), some (.int l3)] [] (xLay m) 317 20810 (some (.int r.1)) (xLay r.2)) {l3 : Int32} {s0 : Nat} {s1 : Int32} {m : xMem} {r : (Int32 × xMem)} (hs0 : isMS s0) (h : fL_1122 L xs rec18 l3 s0 s1 m = some r) : xFx (xHL L xs) code d 1122 [some (.ref xSc), some (.ref 0), some (.ref 291), some (.int l3)] [.int s1, .ref s0] (xLay m) 317 20810 (some (.int r.1)) (xLay r.2) := by
  unfold fL_1122 at h
  refine fx_aload_n dL_law_1122 rfl rfl ?_
  refine fx_iload_n dL_law_1123 rfl rfl ?_
  refine fx_iconst (x := 2) dL_law_1124 rfl (by decide) ?_
  obtain ⟨x1, hx1, h⟩ := xLet_el h
  refine fx_iadd dL_law_1125 rfl hx1 ?_
  obtain ⟨hj3, h⟩ := xChk_el h
  obtain ⟨x2, hx2, h⟩ := xLet_el h
  refine fx_sload dL_law_1126 rfl rfl hj3 hx2 ?_
  refine fx_aload_n dL_law_1127 rfl rfl ?_
  refine fx_iload_n dL_law_1128 rfl rfl ?_
  refine fx_iconst (x := 3) dL_law_1129 rfl (by decide) ?_
  obtain ⟨x4, hx4, h⟩ := xLet_el h
  refine fx_iadd dL_law_1130 rfl hx4 ?_
  obtain ⟨hj6, h⟩ := xChk_el h
  obtain ⟨x5, hx5, h⟩ := xLet_el h
  refine fx_sload dL_law_1131 rfl rfl hj6 hx5 ?_
  obtain ⟨p7, ep7, h⟩ := xBind_el h
  refine gx_callv (as := [.int s1, .int x2, .int x5]) (r := []) rfl dL_law_1132 ca_13_119 rfl me_236 rfl rfl rfl rfl (hs0.1) rfl (fX11_day_ok (d := d) (by omega) hs0 ep7) rfl rfl ?_
  refine fx_aload_n dL_law_1135 rfl rfl ?_
  refine fx_aload_n dL_law_1136 rfl rfl ?_
  refine fx_iload_n dL_law_1137 rfl rfl ?_
  refine fx_iconst (x := 1) dL_law_1138 rfl (by decide) ?_
  obtain ⟨x8, hx8, h⟩ := xLet_el h
  refine fx_iadd dL_law_1139 rfl hx8 ?_
  obtain ⟨hj10, h⟩ := xChk_el h
  obtain ⟨x9, hx9, h⟩ := xLet_el h
  refine fx_sload dL_law_1140 rfl rfl hj10 hx9 ?_
  refine fx_if_eq (t := 1148) dL_law_1141 rfl rfl (fun hc11 => ?_) (fun hc11 => ?_)
  · rw [if_pos hc11] at h
    refine fx_iconst (x := 0) dL_law_1148 rfl (by decide) ?_
    exact fL_1149_ok hd hrec18 hModel h
  · rw [if_neg hc11] at h
    refine fx_iconst (x := 1) dL_law_1144 rfl (by decide) ?_
    refine fx_goto (t := 1149) dL_law_1145 rfl rfl ?_
    exact fL_1149_ok hd hrec18 hModel h
def fL_1333 (L : Nat) (xs : Nat → Int32) (rec18 : Int32 → xMem → Option (Int32 × xMem)) (l3 : Int32) (s0 : Int32) (s1 : Nat) (s2 : Int32) (s3 : Int32) (m : xMem) : Option (Int32 × xMem) := (fX12_taken s1 s2 s3 m).bind fun p1 => if s0 = p1.1 then fL_1390 L xs rec18 l3 p1.2 else some ((0 : Int32), p1.2)
set_option maxRecDepth 4000 in
theorem fL_1333_ok {L : Nat} {xs : Nat → Int32} {rec18 : Int32 → xMem → Option (Int32 × xMem)} {d : Nat} (hd : 10 ≤ d)  (hrec18 : ∀ (l3 : Int32) (m : xMem) (r : (Int32 × xMem)), rec18 l3 m = some r → xFx (xHL L xs) code d 18 [some (.ref xSc), some (.ref 0), some (.ref 291), some (.int l3)] [] (xLay m) 317 20810 (some (.int r.1)) (xLay r.2)) {l3 : Int32} {s0 : Int32} {s1 : Nat} {s2 : Int32} {s3 : Int32} {m : xMem} {r : (Int32 × xMem)} (hs1 : isModel s1) (h : fL_1333 L xs rec18 l3 s0 s1 s2 s3 m = some r) : xFx (xHL L xs) code d 1333 [some (.ref xSc), some (.ref 0), some (.ref 291), some (.int l3)] [.int s3, .int s2, .ref s1, .int s0] (xLay m) 317 20810 (some (.int r.1)) (xLay r.2) := by
  unfold fL_1333 at h
  obtain ⟨p1, ep1, h⟩ := xBind_el h
  refine gx_callv (as := [.int s2, .int s3]) (r := [.int s0]) rfl dL_law_1333 ca_13_148 rfl me_261 rfl rfl rfl rfl (hs1.1) rfl (fX12_taken_ok (d := d) (by omega) hs1 ep1) rfl rfl ?_
  refine fx_icmp_eq (t := 1390) dL_law_1336 rfl rfl (fun hc2 => ?_) (fun hc2 => ?_)
  · rw [if_pos hc2] at h
    exact fL_1390_ok hd hrec18 h
  · rw [if_neg hc2] at h
    refine fx_iconst (x := 0) dL_law_1339 rfl (by decide) ?_
    cases h
    exact fx_ireturn dL_law_1340 rfl rfl
def fL_1311 (L : Nat) (xs : Nat → Int32) (rec18 : Int32 → xMem → Option (Int32 × xMem)) (l3 : Int32) (s0 : Nat) (s1 : Int32) (s2 : Int32) (m : xMem) : Option (Int32 × xMem) := (fX11_taken s0 s1 s2 m).bind fun p1 => xLet (l3 + (1 : Int32)) fun x2 => bif xIn x2 L then xLet (xs x2.toNatClampNeg) fun x3 => xLet (l3 + (2 : Int32)) fun x5 => bif xIn x5 L then xLet (xs x5.toNatClampNeg) fun x6 => if x6 = (0 : Int32) then fL_1333 L xs rec18 l3 p1.1 291 x3 (0 : Int32) p1.2 else fL_1333 L xs rec18 l3 p1.1 291 x3 (1 : Int32) p1.2 else none else none
set_option maxRecDepth 4000 in
theorem fL_1311_ok {L : Nat} {xs : Nat → Int32} {rec18 : Int32 → xMem → Option (Int32 × xMem)} {d : Nat} (hd : 10 ≤ d)  (hrec18 : ∀ (l3 : Int32) (m : xMem) (r : (Int32 × xMem)), rec18 l3 m = some r → xFx (xHL L xs) code d 18 [some (.ref xSc), some (.ref 0), some (.ref 291), some (.int l3)] [] (xLay m) 317 20810 (some (.int r.1)) (xLay r.2)) {l3 : Int32} {s0 : Nat} {s1 : Int32} {s2 : Int32} {m : xMem} {r : (Int32 × xMem)} (hs0 : isMS s0) (h : fL_1311 L xs rec18 l3 s0 s1 s2 m = some r) : xFx (xHL L xs) code d 1311 [some (.ref xSc), some (.ref 0), some (.ref 291), some (.int l3)] [.int s2, .int s1, .ref s0] (xLay m) 317 20810 (some (.int r.1)) (xLay r.2) := by
  unfold fL_1311 at h
  obtain ⟨p1, ep1, h⟩ := xBind_el h
  refine gx_callv (as := [.int s1, .int s2]) (r := []) rfl dL_law_1311 ca_13_144 rfl me_259 rfl rfl rfl rfl (hs0.1) rfl (fX11_taken_ok (d := d) (by omega) hs0 ep1) rfl rfl ?_
  refine fx_aload_n dL_law_1314 rfl rfl ?_
  refine fx_aload_n dL_law_1315 rfl rfl ?_
  refine fx_iload_n dL_law_1316 rfl rfl ?_
  refine fx_iconst (x := 1) dL_law_1317 rfl (by decide) ?_
  obtain ⟨x2, hx2, h⟩ := xLet_el h
  refine fx_iadd dL_law_1318 rfl hx2 ?_
  obtain ⟨hj4, h⟩ := xChk_el h
  obtain ⟨x3, hx3, h⟩ := xLet_el h
  refine fx_sload dL_law_1319 rfl rfl hj4 hx3 ?_
  refine fx_aload_n dL_law_1320 rfl rfl ?_
  refine fx_iload_n dL_law_1321 rfl rfl ?_
  refine fx_iconst (x := 2) dL_law_1322 rfl (by decide) ?_
  obtain ⟨x5, hx5, h⟩ := xLet_el h
  refine fx_iadd dL_law_1323 rfl hx5 ?_
  obtain ⟨hj7, h⟩ := xChk_el h
  obtain ⟨x6, hx6, h⟩ := xLet_el h
  refine fx_sload dL_law_1324 rfl rfl hj7 hx6 ?_
  refine fx_if_eq (t := 1332) dL_law_1325 rfl rfl (fun hc8 => ?_) (fun hc8 => ?_)
  · rw [if_pos hc8] at h
    refine fx_iconst (x := 0) dL_law_1332 rfl (by decide) ?_
    exact fL_1333_ok hd hrec18 hModel h
  · rw [if_neg hc8] at h
    refine fx_iconst (x := 1) dL_law_1328 rfl (by decide) ?_
    refine fx_goto (t := 1333) dL_law_1329 rfl rfl ?_
    exact fL_1333_ok hd hrec18 hModel h
def fL_18 (L : Nat) (xs : Nat → Int32) : Nat → Int32 → xMem → Option (Int32 × xMem)
  | 0, _, _ => none
  | fuel + 1, l3, m => xLet (Int32.ofNat L) fun x1 => xLet (x1 - (8 : Int32)) fun x2 => if x2 < l3 then some ((1 : Int32), m) else bif xIn l3 L then xLet (xs l3.toNatClampNeg) fun x4 => xLet (x4 &&& (63 : Int32)) fun x6 => if x6 = (0 : Int32) then xLet (l3 + (1 : Int32)) fun x8 => bif xIn x8 L then xLet (xs x8.toNatClampNeg) fun x9 => (fX11_hall 0 x9 m).bind fun p11 => xLet (l3 + (1 : Int32)) fun x12 => bif xIn x12 L then xLet (xs x12.toNatClampNeg) fun x13 => (fX12_hall 291 x13 p11.2).bind fun p15 => if p11.1 = p15.1 then fL_1390 L xs (fL_18 L xs fuel) l3 p15.2 else some ((0 : Int32), p15.2) else none else none else if x6 = (1 : Int32) then xLet (l3 + (1 : Int32)) fun x18 => bif xIn x18 L then xLet (xs x18.toNatClampNeg) fun x19 => xLet (l3 + (2 : Int32)) fun x21 => bif xIn x21 L then xLet (xs x21.toNatClampNeg) fun x22 => (fX11_bar 0 x19 x22 m).bind fun p24 => xLet (l3 + (1 : Int32)) fun x25 => bif xIn x25 L then xLet (xs x25.toNatClampNeg) fun x26 => xLet (l3 + (2 : Int32)) fun x28 => bif xIn x28 L then xLet (xs x28.toNatClampNeg) fun x29 => (fX12_bar 291 x26 x29 p24.2).bind fun p31 => if p24.1 = p31.1 then fL_1390 L xs (fL_18 L xs fuel) l3 p31.2 else some ((0 : Int32), p31.2) else none else none else none else none else if x6 = (2 : Int32) then xLet (l3 + (1 : Int32)) fun x34 => bif xIn x34 L then xLet (xs x34.toNatClampNeg) fun x35 => xLet (l3 + (2 : Int32)) fun x37 => bif xIn x37 L then xLet (xs x37.toNatClampNeg) fun x38 => xLet (l3 + (3 : Int32)) fun x40 => bif xIn x40 L then xLet (xs x40.toNatClampNeg) fun x41 => xLet (l3 + (4 : Int32)) fun x43 => bif xIn x43 L then xLet (xs x43.toNatClampNeg) fun x44 => xLet (l3 + (5 : Int32)) fun x46 => bif xIn x46 L then xLet (xs x46.toNatClampNeg) fun x47 => (fX11_link 0 x35 x38 x41 x44 x47 m).bind fun p49 => xLet (l3 + (1 : Int32)) fun x50 => bif xIn x50 L then xLet (xs x50.toNatClampNeg) fun x51 => xLet (l3 + (2 : Int32)) fun x53 => bif xIn x53 L then xLet (xs x53.toNatClampNeg) fun x54 => xLet (l3 + (3 : Int32)) fun x56 => bif xIn x56 L then xLet (xs x56.toNatClampNeg) fun x57 => xLet (l3 + (4 : Int32)) fun x59 => bif xIn x59 L then xLet (xs x59.toNatClampNeg) fun x60 => xLet (l3 + (5 : Int32)) fun x62 => bif xIn x62 L then xLet (xs x62.toNatClampNeg) fun x63 => (fX12_link 291 x51 x54 x57 x60 x63 p49.2).bind fun p65 => if p49.1 = p65.1 then fL_1390 L xs (fL_18 L xs fuel) l3 p65.2 else some ((0 : Int32), p65.2) else none else none else none else none else none else none else none else none else none else none else if x6 = (3 : Int32) then xLet (l3 + (1 : Int32)) fun x68 => bif xIn x68 L then xLet (xs x68.toNatClampNeg) fun x69 => xLet (l3 + (2 : Int32)) fun x71 => bif xIn x71 L then xLet (xs x71.toNatClampNeg) fun x72 => (fX11_turn 0 x69 x72 m).bind fun p74 => xLet (l3 + (1 : Int32)) fun x75 => bif xIn x75 L then xLet (xs x75.toNatClampNeg) fun x76 => xLet (l3 + (2 : Int32)) fun x78 => bif xIn x78 L then xLet (xs x78.toNatClampNeg) fun x79 => (fX12_turn 291 x76 x79 p74.2).bind fun p81 => if p74.1 = p81.1 then fL_1390 L xs (fL_18 L xs fuel) l3 p81.2 else some ((0 : Int32), p81.2) else none else none else none else none else if x6 = (4 : Int32) then xLet (l3 + (1 : Int32)) fun x84 => bif xIn x84 L then xLet (xs x84.toNatClampNeg) fun x85 => xLet (l3 + (2 : Int32)) fun x87 => bif xIn x87 L then xLet (xs x87.toNatClampNeg) fun x88 => (fX11_mode 0 x85 x88 m).bind fun p90 => xLet (l3 + (1 : Int32)) fun x91 => bif xIn x91 L then xLet (xs x91.toNatClampNeg) fun x92 => xLet (l3 + (2 : Int32)) fun x94 => bif xIn x94 L then xLet (xs x94.toNatClampNeg) fun x95 => (fX12_mode 291 x92 x95 p90.2).bind fun p97 => if p90.1 = p97.1 then fL_1390 L xs (fL_18 L xs fuel) l3 p97.2 else some ((0 : Int32), p97.2) else none else none else none else none else if x6 = (5 : Int32) then xLet (l3 + (1 : Int32)) fun x100 => bif xIn x100 L then xLet (xs x100.toNatClampNeg) fun x101 => (fX11_reset 0 x101 m).bind fun p103 => xLet (l3 + (1 : Int32)) fun x104 => bif xIn x104 L then xLet (xs x104.toNatClampNeg) fun x105 => (fX12_reset 291 x105 p103.2).bind fun p107 => if p103.1 = p107.1 then fL_1390 L xs (fL_18 L xs fuel) l3 p107.2 else some ((0 : Int32), p107.2) else none else none else if x6 = (6 : Int32) then xLet (l3 + (1 : Int32)) fun x110 => bif xIn x110 L then xLet (xs x110.toNatClampNeg) fun x111 => xLet (l3 + (2 : Int32)) fun x113 => bif xIn x113 L then xLet (xs x113.toNatClampNeg) fun x114 => xLet (l3 + (3 : Int32)) fun x116 => bif xIn x116 L then xLet (xs x116.toNatClampNeg) fun x117 => xLet (l3 + (4 : Int32)) fun x119 => bif xIn x119 L then xLet (xs x119.toNatClampNeg) fun x120 => xLet (l3 + (5 : Int32)) fun x122 => bif xIn x122 L then xLet (xs x122.toNatClampNeg) fun x123 => xLet (l3 + (6 : Int32)) fun x125 => bif xIn x125 L then xLet (xs x125.toNatClampNeg) fun x126 => if x126 = (0 : Int32) then fL_432 L xs (fL_18 L xs fuel) l3 0 x111 x114 x117 x120 x123 (0 : Int32) m else fL_432 L xs (fL_18 L xs fuel) l3 0 x111 x114 x117 x120 x123 (1 : Int32) m else none else none else none else none else none else none else if x6 = (7 : Int32) then xLet (l3 + (1 : Int32)) fun x130 => bif xIn x130 L then xLet (xs x130.toNatClampNeg) fun x131 => xLet (l3 + (2 : Int32)) fun x133 => bif xIn x133 L then xLet (xs x133.toNatClampNeg) fun x134 => xLet (l3 + (3 : Int32)) fun x136 => bif xIn x136 L then xLet (xs x136.toNatClampNeg) fun x137 => xLet (l3 + (4 : Int32)) fun x139 => bif xIn x139 L then xLet (xs x139.toNatClampNeg) fun x140 => xLet (l3 + (5 : Int32)) fun x142 => bif xIn x142 L then xLet (xs x142.toNatClampNeg) fun x143 => (fX11_feed 0 x131 x134 x137 x140 x143 m).bind fun p145 => xLet (l3 + (1 : Int32)) fun x146 => bif xIn x146 L then xLet (xs x146.toNatClampNeg) fun x147 => xLet (l3 + (2 : Int32)) fun x149 => bif xIn x149 L then xLet (xs x149.toNatClampNeg) fun x150 => xLet (l3 + (3 : Int32)) fun x152 => bif xIn x152 L then xLet (xs x152.toNatClampNeg) fun x153 => xLet (l3 + (4 : Int32)) fun x155 => bif xIn x155 L then xLet (xs x155.toNatClampNeg) fun x156 => xLet (l3 + (5 : Int32)) fun x158 => bif xIn x158 L then xLet (xs x158.toNatClampNeg) fun x159 => (fX12_feed 291 x147 x150 x153 x156 x159 p145.2).bind fun p161 => if p145.1 = p161.1 then fL_1390 L xs (fL_18 L xs fuel) l3 p161.2 else some ((0 : Int32), p161.2) else none else none else none else none else none else none else none else none else none else none else if x6 = (8 : Int32) then xLet (l3 + (1 : Int32)) fun x164 => bif xIn x164 L then xLet (xs x164.toNatClampNeg) fun x165 => (fX11_end 0 x165 m).bind fun p167 => xLet (l3 + (1 : Int32)) fun x168 => bif xIn x168 L then xLet (xs x168.toNatClampNeg) fun x169 => (fX12_end 291 x169 p167.2).bind fun p171 => if p167.1 = p171.1 then fL_1390 L xs (fL_18 L xs fuel) l3 p171.2 else some ((0 : Int32), p171.2) else none else none else if x6 = (9 : Int32) then (fX11_text 0 m).bind fun p174 => (fX12_text 291 p174.2).bind fun p175 => if p174.1 = p175.1 then fL_1390 L xs (fL_18 L xs fuel) l3 p175.2 else some ((0 : Int32), p175.2) else if x6 = (10 : Int32) then xLet (l3 + (1 : Int32)) fun x178 => bif xIn x178 L then xLet (xs x178.toNatClampNeg) fun x179 => (fX11_fault 0 x179 m).bind fun p181 => xLet (l3 + (1 : Int32)) fun x182 => bif xIn x182 L then xLet (xs x182.toNatClampNeg) fun x183 => (fX12_fault 291 x183 p181.2).bind fun p185 => if p181.1 = p185.1 then fL_1390 L xs (fL_18 L xs fuel) l3 p185.2 else some ((0 : Int32), p185.2) else none else none else if x6 = (11 : Int32) then xLet (l3 + (1 : Int32)) fun x188 => bif xIn x188 L then xLet (xs x188.toNatClampNeg) fun x189 => (fX11_by 0 x189 m).bind fun p191 => xLet (l3 + (1 : Int32)) fun x192 => bif xIn x192 L then xLet (xs x192.toNatClampNeg) fun x193 => (fX12_by 291 x193 p191.2).bind fun p195 => if p191.1 = p195.1 then fL_1390 L xs (fL_18 L xs fuel) l3 p195.2 else some ((0 : Int32), p195.2) else none else none else if x6 = (12 : Int32) then xLet (l3 + (1 : Int32)) fun x198 => bif xIn x198 L then xLet (xs x198.toNatClampNeg) fun x199 => (fX11_run 0 x199 m).bind fun p201 => xLet (l3 + (1 : Int32)) fun x202 => bif xIn x202 L then xLet (xs x202.toNatClampNeg) fun x203 => (fX12_run 291 x203 p201.2).bind fun p205 => if p201.1 = p205.1 then fL_1390 L xs (fL_18 L xs fuel) l3 p205.2 else some ((0 : Int32), p205.2) else none else none else if x6 = (13 : Int32) then xLet (l3 + (1 : Int32)) fun x208 => bif xIn x208 L then xLet (xs x208.toNatClampNeg) fun x209 => xLet (l3 + (2 : Int32)) fun x211 => bif xIn x211 L then xLet (xs x211.toNatClampNeg) fun x212 => (fX11_of 0 x209 x212 m).bind fun p214 => xLet (l3 + (1 : Int32)) fun x215 => bif xIn x215 L then xLet (xs x215.toNatClampNeg) fun x216 => xLet (l3 + (2 : Int32)) fun x218 => bif xIn x218 L then xLet (xs x218.toNatClampNeg) fun x219 => (fX12_of 291 x216 x219 p214.2).bind fun p221 => if p214.1 = p221.1 then fL_1390 L xs (fL_18 L xs fuel) l3 p221.2 else some ((0 : Int32), p221.2) else none else none else none else none else if x6 = (14 : Int32) then xLet (l3 + (1 : Int32)) fun x224 => bif xIn x224 L then xLet (xs x224.toNatClampNeg) fun x225 => xLet (l3 + (2 : Int32)) fun x227 => bif xIn x227 L then xLet (xs x227.toNatClampNeg) fun x228 => (fX11_on 0 x225 x228 m).bind fun p230 => xLet (l3 + (1 : Int32)) fun x231 => bif xIn x231 L then xLet (xs x231.toNatClampNeg) fun x232 => xLet (l3 + (2 : Int32)) fun x234 => bif xIn x234 L then xLet (xs x234.toNatClampNeg) fun x235 => (fX12_on 291 x232 x235 p230.2).bind fun p237 => if p230.1 = p237.1 then fL_1390 L xs (fL_18 L xs fuel) l3 p237.2 else some ((0 : Int32), p237.2) else none else none else none else none else if x6 = (15 : Int32) then xLet (l3 + (1 : Int32)) fun x240 => bif xIn x240 L then xLet (xs x240.toNatClampNeg) fun x241 => xLet (l3 + (2 : Int32)) fun x243 => bif xIn x243 L then xLet (xs x243.toNatClampNeg) fun x244 => xLet (l3 + (3 : Int32)) fun x246 => bif xIn x246 L then xLet (xs x246.toNatClampNeg) fun x247 => (fX11_step 0 x241 x244 x247 m).bind fun p249 => xLet (l3 + (1 : Int32)) fun x250 => bif xIn x250 L then xLet (xs x250.toNatClampNeg) fun x251 => xLet (l3 + (2 : Int32)) fun x253 => bif xIn x253 L then xLet (xs x253.toNatClampNeg) fun x254 => xLet (l3 + (3 : Int32)) fun x256 => bif xIn x256 L then xLet (xs x256.toNatClampNeg) fun x257 => (fX12_step 291 x251 x254 x257 p249.2).bind fun p259 => if p249.1 = p259.1 then fL_1390 L xs (fL_18 L xs fuel) l3 p259.2 else some ((0 : Int32), p259.2) else none else none else none else none else none else none else if x6 = (16 : Int32) then xLet (l3 + (1 : Int32)) fun x262 => bif xIn x262 L then xLet (xs x262.toNatClampNeg) fun x263 => xLet (l3 + (2 : Int32)) fun x265 => bif xIn x265 L then xLet (xs x265.toNatClampNeg) fun x266 => xLet (l3 + (3 : Int32)) fun x268 => bif xIn x268 L then xLet (xs x268.toNatClampNeg) fun x269 => if x269 = (0 : Int32) then fL_812 L xs (fL_18 L xs fuel) l3 0 x263 x266 (0 : Int32) m else fL_812 L xs (fL_18 L xs fuel) l3 0 x263 x266 (1 : Int32) m else none else none else none else if x6 = (17 : Int32) then xLet (l3 + (1 : Int32)) fun x273 => bif xIn x273 L then xLet (xs x273.toNatClampNeg) fun x274 => (fX11_all 0 x274 m).bind fun p276 => xLet (l3 + (1 : Int32)) fun x277 => bif xIn x277 L then xLet (xs x277.toNatClampNeg) fun x278 => (fX12_all 291 x278 p276.2).bind fun p280 => if p276.1 = p280.1 then fL_1390 L xs (fL_18 L xs fuel) l3 p280.2 else some ((0 : Int32), p280.2) else none else none else if x6 = (18 : Int32) then xLet (l3 + (1 : Int32)) fun x283 => bif xIn x283 L then xLet (xs x283.toNatClampNeg) fun x284 => xLet (l3 + (2 : Int32)) fun x286 => bif xIn x286 L then xLet (xs x286.toNatClampNeg) fun x287 => xLet (l3 + (3 : Int32)) fun x289 => bif xIn x289 L then xLet (xs x289.toNatClampNeg) fun x290 => (fX11_ways 0 x284 x287 x290 m).bind fun p292 => xLet (l3 + (1 : Int32)) fun x293 => bif xIn x293 L then xLet (xs x293.toNatClampNeg) fun x294 => xLet (l3 + (2 : Int32)) fun x296 => bif xIn x296 L then xLet (xs x296.toNatClampNeg) fun x297 => xLet (l3 + (3 : Int32)) fun x299 => bif xIn x299 L then xLet (xs x299.toNatClampNeg) fun x300 => (fX12_ways 291 x294 x297 x300 p292.2).bind fun p302 => if p292.1 = p302.1 then fL_1390 L xs (fL_18 L xs fuel) l3 p302.2 else some ((0 : Int32), p302.2) else none else none else none else none else none else none else if x6 = (19 : Int32) then xLet (l3 + (1 : Int32)) fun x305 => bif xIn x305 L then xLet (xs x305.toNatClampNeg) fun x306 => xLet (l3 + (2 : Int32)) fun x308 => bif xIn x308 L then xLet (xs x308.toNatClampNeg) fun x309 => xLet (l3 + (3 : Int32)) fun x311 => bif xIn x311 L then xLet (xs x311.toNatClampNeg) fun x312 => (fX11_least 0 x306 x309 x312 m).bind fun p314 => xLet (l3 + (1 : Int32)) fun x315 => bif xIn x315 L then xLet (xs x315.toNatClampNeg) fun x316 => xLet (l3 + (2 : Int32)) fun x318 => bif xIn x318 L then xLet (xs x318.toNatClampNeg) fun x319 => xLet (l3 + (3 : Int32)) fun x321 => bif xIn x321 L then xLet (xs x321.toNatClampNeg) fun x322 => (fX12_least 291 x316 x319 x322 p314.2).bind fun p324 => if p314.1 = p324.1 then fL_1390 L xs (fL_18 L xs fuel) l3 p324.2 else some ((0 : Int32), p324.2) else none else none else none else none else none else none else if x6 = (20 : Int32) then xLet (l3 + (1 : Int32)) fun x327 => bif xIn x327 L then xLet (xs x327.toNatClampNeg) fun x328 => xLet (l3 + (2 : Int32)) fun x330 => bif xIn x330 L then xLet (xs x330.toNatClampNeg) fun x331 => (fX11_felt 0 x328 x331 m).bind fun p333 => xLet (l3 + (1 : Int32)) fun x334 => bif xIn x334 L then xLet (xs x334.toNatClampNeg) fun x335 => xLet (l3 + (2 : Int32)) fun x337 => bif xIn x337 L then xLet (xs x337.toNatClampNeg) fun x338 => (fX12_felt 291 x335 x338 p333.2).bind fun p340 => if p333.1 = p340.1 then fL_1390 L xs (fL_18 L xs fuel) l3 p340.2 else some ((0 : Int32), p340.2) else none else none else none else none else if x6 = (21 : Int32) then xLet (l3 + (1 : Int32)) fun x343 => bif xIn x343 L then xLet (xs x343.toNatClampNeg) fun x344 => xLet (l3 + (2 : Int32)) fun x346 => bif xIn x346 L then xLet (xs x346.toNatClampNeg) fun x347 => (fX11_standing 0 x344 x347 m).bind fun p349 => xLet (l3 + (1 : Int32)) fun x350 => bif xIn x350 L then xLet (xs x350.toNatClampNeg) fun x351 => xLet (l3 + (2 : Int32)) fun x353 => bif xIn x353 L then xLet (xs x353.toNatClampNeg) fun x354 => (fX12_standing 291 x351 x354 p349.2).bind fun p356 => if p349.1 = p356.1 then fL_1390 L xs (fL_18 L xs fuel) l3 p356.2 else some ((0 : Int32), p356.2) else none else none else none else none else if x6 = (22 : Int32) then xLet (l3 + (1 : Int32)) fun x359 => bif xIn x359 L then xLet (xs x359.toNatClampNeg) fun x360 => xLet (l3 + (2 : Int32)) fun x362 => bif xIn x362 L then xLet (xs x362.toNatClampNeg) fun x363 => xLet (l3 + (3 : Int32)) fun x365 => bif xIn x365 L then xLet (xs x365.toNatClampNeg) fun x366 => xLet (l3 + (4 : Int32)) fun x368 => bif xIn x368 L then xLet (xs x368.toNatClampNeg) fun x369 => (fX11_alone 0 x360 x363 x366 x369 m).bind fun p371 => xLet (l3 + (1 : Int32)) fun x372 => bif xIn x372 L then xLet (xs x372.toNatClampNeg) fun x373 => xLet (l3 + (2 : Int32)) fun x375 => bif xIn x375 L then xLet (xs x375.toNatClampNeg) fun x376 => xLet (l3 + (3 : Int32)) fun x378 => bif xIn x378 L then xLet (xs x378.toNatClampNeg) fun x379 => xLet (l3 + (4 : Int32)) fun x381 => bif xIn x381 L then xLet (xs x381.toNatClampNeg) fun x382 => (fX12_alone 291 x373 x376 x379 x382 p371.2).bind fun p384 => if p371.1 = p384.1 then fL_1390 L xs (fL_18 L xs fuel) l3 p384.2 else some ((0 : Int32), p384.2) else none else none else none else none else none else none else none else none else if x6 = (23 : Int32) then xLet (l3 + (1 : Int32)) fun x387 => bif xIn x387 L then xLet (xs x387.toNatClampNeg) fun x388 => xLet (l3 + (2 : Int32)) fun x390 => bif xIn x390 L then xLet (xs x390.toNatClampNeg) fun x391 => (fX11_crossing 0 x388 x391 m).bind fun p393 => xLet (l3 + (1 : Int32)) fun x394 => bif xIn x394 L then xLet (xs x394.toNatClampNeg) fun x395 => xLet (l3 + (2 : Int32)) fun x397 => bif xIn x397 L then xLet (xs x397.toNatClampNeg) fun x398 => (fX12_crossing 291 x395 x398 p393.2).bind fun p400 => if p393.1 = p400.1 then fL_1390 L xs (fL_18 L xs fuel) l3 p400.2 else some ((0 : Int32), p400.2) else none else none else none else none else if x6 = (24 : Int32) then xLet (l3 + (1 : Int32)) fun x403 => bif xIn x403 L then xLet (xs x403.toNatClampNeg) fun x404 => if x404 = (0 : Int32) then fL_1122 L xs (fL_18 L xs fuel) l3 0 (0 : Int32) m else fL_1122 L xs (fL_18 L xs fuel) l3 0 (1 : Int32) m else none else if x6 = (25 : Int32) then (fX11_effect 0 m).bind fun p408 => (fX12_effect 291 p408.2).bind fun p409 => if p408.1 = p409.1 then fL_1390 L xs (fL_18 L xs fuel) l3 p409.2 else some ((0 : Int32), p409.2) else if x6 = (26 : Int32) then xLet (l3 + (1 : Int32)) fun x412 => bif xIn x412 L then xLet (xs x412.toNatClampNeg) fun x413 => xLet (l3 + (2 : Int32)) fun x415 => bif xIn x415 L then xLet (xs x415.toNatClampNeg) fun x416 => xLet (l3 + (3 : Int32)) fun x418 => bif xIn x418 L then xLet (xs x418.toNatClampNeg) fun x419 => xLet (l3 + (4 : Int32)) fun x421 => bif xIn x421 L then xLet (xs x421.toNatClampNeg) fun x422 => (fX11_mend 0 x413 x416 x419 x422 m).bind fun p424 => xLet (l3 + (1 : Int32)) fun x425 => bif xIn x425 L then xLet (xs x425.toNatClampNeg) fun x426 => xLet (l3 + (2 : Int32)) fun x428 => bif xIn x428 L then xLet (xs x428.toNatClampNeg) fun x429 => xLet (l3 + (3 : Int32)) fun x431 => bif xIn x431 L then xLet (xs x431.toNatClampNeg) fun x432 => xLet (l3 + (4 : Int32)) fun x434 => bif xIn x434 L then xLet (xs x434.toNatClampNeg) fun x435 => (fX12_mend 291 x426 x429 x432 x435 p424.2).bind fun p437 => if p424.1 = p437.1 then fL_1390 L xs (fL_18 L xs fuel) l3 p437.2 else some ((0 : Int32), p437.2) else none else none else none else none else none else none else none else none else if x6 = (27 : Int32) then xLet (l3 + (1 : Int32)) fun x440 => bif xIn x440 L then xLet (xs x440.toNatClampNeg) fun x441 => (fX11_order 0 x441 m).bind fun p443 => xLet (l3 + (1 : Int32)) fun x444 => bif xIn x444 L then xLet (xs x444.toNatClampNeg) fun x445 => (fX12_order 291 x445 p443.2).bind fun p447 => if p443.1 = p447.1 then fL_1390 L xs (fL_18 L xs fuel) l3 p447.2 else some ((0 : Int32), p447.2) else none else none else if x6 = (28 : Int32) then xLet (l3 + (1 : Int32)) fun x450 => bif xIn x450 L then xLet (xs x450.toNatClampNeg) fun x451 => (fX11_load 0 x451 m).bind fun p453 => xLet (l3 + (1 : Int32)) fun x454 => bif xIn x454 L then xLet (xs x454.toNatClampNeg) fun x455 => (fX12_load 291 x455 p453.2).bind fun p457 => if p453.1 = p457.1 then fL_1390 L xs (fL_18 L xs fuel) l3 p457.2 else some ((0 : Int32), p457.2) else none else none else if x6 = (29 : Int32) then (fX11_unload 0 m).bind fun p460 => (fX12_unload 291 p460.2).bind fun p461 => if p460.1 = p461.1 then fL_1390 L xs (fL_18 L xs fuel) l3 p461.2 else some ((0 : Int32), p461.2) else if x6 = (30 : Int32) then xLet (l3 + (1 : Int32)) fun x464 => bif xIn x464 L then xLet (xs x464.toNatClampNeg) fun x465 => xLet (l3 + (2 : Int32)) fun x467 => bif xIn x467 L then xLet (xs x467.toNatClampNeg) fun x468 => if x468 = (0 : Int32) then fL_1311 L xs (fL_18 L xs fuel) l3 0 x465 (0 : Int32) m else fL_1311 L xs (fL_18 L xs fuel) l3 0 x465 (1 : Int32) m else none else none else if x6 = (31 : Int32) then (fX11_image 0 m).bind fun p472 => (fX12_image 291 p472.2).bind fun p473 => if p472.1 = p473.1 then fL_1390 L xs (fL_18 L xs fuel) l3 p473.2 else some ((0 : Int32), p473.2) else if x6 = (32 : Int32) then (fX11_back 0 m).bind fun p476 => (fX12_back 291 p476.2).bind fun p477 => if p476.1 = p477.1 then fL_1390 L xs (fL_18 L xs fuel) l3 p477.2 else some ((0 : Int32), p477.2) else if x6 = (33 : Int32) then xLet (l3 + (1 : Int32)) fun x480 => bif xIn x480 L then xLet (xs x480.toNatClampNeg) fun x481 => (fX11_about 0 x481 m).bind fun p483 => xLet (l3 + (1 : Int32)) fun x484 => bif xIn x484 L then xLet (xs x484.toNatClampNeg) fun x485 => (fX12_about 291 x485 p483.2).bind fun p487 => if p483.1 = p487.1 then fL_1390 L xs (fL_18 L xs fuel) l3 p487.2 else some ((0 : Int32), p487.2) else none else none else fL_1390 L xs (fL_18 L xs fuel) l3 m else none
set_option maxRecDepth 4000 in
theorem fL_18_ok {L : Nat} {xs : Nat → Int32} {d : Nat} (hd : 10 ≤ d)  : ∀ (fuel : Nat) (l3 : Int32) (m : xMem) (r : (Int32 × xMem)), fL_18 L xs fuel l3 m = some r → xFx (xHL L xs) code d 18 [some (.ref xSc), some (.ref 0), some (.ref 291), some (.int l3)] [] (xLay m) 317 20810 (some (.int r.1)) (xLay r.2) := by
  intro fuel
  induction fuel with
  | zero => intro l3  m r  h; cases h
  | succ fuel ih =>
    intro l3  m r  h
    unfold fL_18 at h
    refine fx_iload_n dL_law_18 rfl rfl ?_
    refine fx_aload_n dL_law_19 rfl rfl ?_
    obtain ⟨x1, hx1, h⟩ := xLet_el h
    refine fx_slen dL_law_20 rfl rfl hx1 ?_
    refine fx_bipush (x := 8) dL_law_21 rfl (by decide) ?_
    obtain ⟨x2, hx2, h⟩ := xLet_el h
    refine fx_isub dL_law_23 rfl hx2 ?_
    refine fx_icmp_gt (t := 1396) dL_law_24 rfl rfl (fun hc3 => ?_) (fun hc3 => ?_)
    · rw [if_pos hc3] at h
      refine fx_iconst (x := 1) dL_law_1396 rfl (by decide) ?_
      cases h
      exact fx_ireturn dL_law_1397 rfl rfl
    · rw [if_neg hc3] at h
      refine fx_aload_n dL_law_27 rfl rfl ?_
      refine fx_iload_n dL_law_28 rfl rfl ?_
      obtain ⟨hj5, h⟩ := xChk_el h
      obtain ⟨x4, hx4, h⟩ := xLet_el h
      refine fx_sload dL_law_29 rfl rfl hj5 hx4 ?_
      refine fx_bipush (x := 63) dL_law_30 rfl (by decide) ?_
      obtain ⟨x6, hx6, h⟩ := xLet_el h
      refine fx_iand dL_law_32 rfl hx6 ?_
      by_cases hc7 : x6 = (0 : Int32)
      · rw [if_pos hc7] at h
        refine fx_tabIn (t := 184) dL_law_33 rfl (by rw [hc7]; decide) (by rw [hc7]; decide) (by rw [hc7]; rfl) rfl ?_
        refine fx_aload_n dL_law_184 rfl rfl ?_
        refine fx_aload_n dL_law_185 rfl rfl ?_
        refine fx_iload_n dL_law_186 rfl rfl ?_
        refine fx_iconst (x := 1) dL_law_187 rfl (by decide) ?_
        obtain ⟨x8, hx8, h⟩ := xLet_el h
        refine fx_iadd dL_law_188 rfl hx8 ?_
        obtain ⟨hj10, h⟩ := xChk_el h
        obtain ⟨x9, hx9, h⟩ := xLet_el h
        refine fx_sload dL_law_189 rfl rfl hj10 hx9 ?_
        obtain ⟨p11, ep11, h⟩ := xBind_el h
        refine gx_callv (as := [.int x9]) (r := []) rfl dL_law_190 ca_13_13 rfl me_13 rfl rfl rfl rfl (hMS.1) rfl (fX11_hall_ok (d := d) (by omega) hMS ep11) rfl rfl ?_
        refine fx_aload_n dL_law_193 rfl rfl ?_
        refine fx_aload_n dL_law_194 rfl rfl ?_
        refine fx_iload_n dL_law_195 rfl rfl ?_
        refine fx_iconst (x := 1) dL_law_196 rfl (by decide) ?_
        obtain ⟨x12, hx12, h⟩ := xLet_el h
        refine fx_iadd dL_law_197 rfl hx12 ?_
        obtain ⟨hj14, h⟩ := xChk_el h
        obtain ⟨x13, hx13, h⟩ := xLet_el h
        refine fx_sload dL_law_198 rfl rfl hj14 hx13 ?_
        obtain ⟨p15, ep15, h⟩ := xBind_el h
        refine gx_callv (as := [.int x13]) (r := [.int p11.1]) rfl dL_law_199 ca_13_17 rfl me_17 rfl rfl rfl rfl (hModel.1) rfl (fX12_hall_ok (d := d) (by omega) hModel ep15) rfl rfl ?_
        refine fx_icmp_eq (t := 1390) dL_law_202 rfl rfl (fun hc16 => ?_) (fun hc16 => ?_)
        · rw [if_pos hc16] at h
          exact fL_1390_ok hd ih h
        · rw [if_neg hc16] at h
          refine fx_iconst (x := 0) dL_law_205 rfl (by decide) ?_
          cases h
          exact fx_ireturn dL_law_206 rfl rfl
      · rw [if_neg hc7] at h
        by_cases hc17 : x6 = (1 : Int32)
        · rw [if_pos hc17] at h
          refine fx_tabIn (t := 207) dL_law_33 rfl (by rw [hc17]; decide) (by rw [hc17]; decide) (by rw [hc17]; rfl) rfl ?_
          refine fx_aload_n dL_law_207 rfl rfl ?_
          refine fx_aload_n dL_law_208 rfl rfl ?_
          refine fx_iload_n dL_law_209 rfl rfl ?_
          refine fx_iconst (x := 1) dL_law_210 rfl (by decide) ?_
          obtain ⟨x18, hx18, h⟩ := xLet_el h
          refine fx_iadd dL_law_211 rfl hx18 ?_
          obtain ⟨hj20, h⟩ := xChk_el h
          obtain ⟨x19, hx19, h⟩ := xLet_el h
          refine fx_sload dL_law_212 rfl rfl hj20 hx19 ?_
          refine fx_aload_n dL_law_213 rfl rfl ?_
          refine fx_iload_n dL_law_214 rfl rfl ?_
          refine fx_iconst (x := 2) dL_law_215 rfl (by decide) ?_
          obtain ⟨x21, hx21, h⟩ := xLet_el h
          refine fx_iadd dL_law_216 rfl hx21 ?_
          obtain ⟨hj23, h⟩ := xChk_el h
          obtain ⟨x22, hx22, h⟩ := xLet_el h
          refine fx_sload dL_law_217 rfl rfl hj23 hx22 ?_
          obtain ⟨p24, ep24, h⟩ := xBind_el h
          refine gx_callv (as := [.int x19, .int x22]) (r := []) rfl dL_law_218 ca_13_18 rfl me_19 rfl rfl rfl rfl (hMS.1) rfl (fX11_bar_ok (d := d) (by omega) hMS ep24) rfl rfl ?_
          refine fx_aload_n dL_law_221 rfl rfl ?_
          refine fx_aload_n dL_law_222 rfl rfl ?_
          refine fx_iload_n dL_law_223 rfl rfl ?_
          refine fx_iconst (x := 1) dL_law_224 rfl (by decide) ?_
          obtain ⟨x25, hx25, h⟩ := xLet_el h
          refine fx_iadd dL_law_225 rfl hx25 ?_
          obtain ⟨hj27, h⟩ := xChk_el h
          obtain ⟨x26, hx26, h⟩ := xLet_el h
          refine fx_sload dL_law_226 rfl rfl hj27 hx26 ?_
          refine fx_aload_n dL_law_227 rfl rfl ?_
          refine fx_iload_n dL_law_228 rfl rfl ?_
          refine fx_iconst (x := 2) dL_law_229 rfl (by decide) ?_
          obtain ⟨x28, hx28, h⟩ := xLet_el h
          refine fx_iadd dL_law_230 rfl hx28 ?_
          obtain ⟨hj30, h⟩ := xChk_el h
          obtain ⟨x29, hx29, h⟩ := xLet_el h
          refine fx_sload dL_law_231 rfl rfl hj30 hx29 ?_
          obtain ⟨p31, ep31, h⟩ := xBind_el h
          refine gx_callv (as := [.int x26, .int x29]) (r := [.int p24.1]) rfl dL_law_232 ca_13_22 rfl me_21 rfl rfl rfl rfl (hModel.1) rfl (fX12_bar_ok (d := d) (by omega) hModel ep31) rfl rfl ?_
          refine fx_icmp_eq (t := 1390) dL_law_235 rfl rfl (fun hc32 => ?_) (fun hc32 => ?_)
          · rw [if_pos hc32] at h
            exact fL_1390_ok hd ih h
          · rw [if_neg hc32] at h
            refine fx_iconst (x := 0) dL_law_238 rfl (by decide) ?_
            cases h
            exact fx_ireturn dL_law_239 rfl rfl
        · rw [if_neg hc17] at h
          by_cases hc33 : x6 = (2 : Int32)
          · rw [if_pos hc33] at h
            refine fx_tabIn (t := 240) dL_law_33 rfl (by rw [hc33]; decide) (by rw [hc33]; decide) (by rw [hc33]; rfl) rfl ?_
            refine fx_aload_n dL_law_240 rfl rfl ?_
            refine fx_aload_n dL_law_241 rfl rfl ?_
            refine fx_iload_n dL_law_242 rfl rfl ?_
            refine fx_iconst (x := 1) dL_law_243 rfl (by decide) ?_
            obtain ⟨x34, hx34, h⟩ := xLet_el h
            refine fx_iadd dL_law_244 rfl hx34 ?_
            obtain ⟨hj36, h⟩ := xChk_el h
            obtain ⟨x35, hx35, h⟩ := xLet_el h
            refine fx_sload dL_law_245 rfl rfl hj36 hx35 ?_
            refine fx_aload_n dL_law_246 rfl rfl ?_
            refine fx_iload_n dL_law_247 rfl rfl ?_
            refine fx_iconst (x := 2) dL_law_248 rfl (by decide) ?_
            obtain ⟨x37, hx37, h⟩ := xLet_el h
            refine fx_iadd dL_law_249 rfl hx37 ?_
            obtain ⟨hj39, h⟩ := xChk_el h
            obtain ⟨x38, hx38, h⟩ := xLet_el h
            refine fx_sload dL_law_250 rfl rfl hj39 hx38 ?_
            refine fx_aload_n dL_law_251 rfl rfl ?_
            refine fx_iload_n dL_law_252 rfl rfl ?_
            refine fx_iconst (x := 3) dL_law_253 rfl (by decide) ?_
            obtain ⟨x40, hx40, h⟩ := xLet_el h
            refine fx_iadd dL_law_254 rfl hx40 ?_
            obtain ⟨hj42, h⟩ := xChk_el h
            obtain ⟨x41, hx41, h⟩ := xLet_el h
            refine fx_sload dL_law_255 rfl rfl hj42 hx41 ?_
            refine fx_aload_n dL_law_256 rfl rfl ?_
            refine fx_iload_n dL_law_257 rfl rfl ?_
            refine fx_iconst (x := 4) dL_law_258 rfl (by decide) ?_
            obtain ⟨x43, hx43, h⟩ := xLet_el h
            refine fx_iadd dL_law_259 rfl hx43 ?_
            obtain ⟨hj45, h⟩ := xChk_el h
            obtain ⟨x44, hx44, h⟩ := xLet_el h
            refine fx_sload dL_law_260 rfl rfl hj45 hx44 ?_
            refine fx_aload_n dL_law_261 rfl rfl ?_
            refine fx_iload_n dL_law_262 rfl rfl ?_
            refine fx_iconst (x := 5) dL_law_263 rfl (by decide) ?_
            obtain ⟨x46, hx46, h⟩ := xLet_el h
            refine fx_iadd dL_law_264 rfl hx46 ?_
            obtain ⟨hj48, h⟩ := xChk_el h
            obtain ⟨x47, hx47, h⟩ := xLet_el h
            refine fx_sload dL_law_265 rfl rfl hj48 hx47 ?_
            obtain ⟨p49, ep49, h⟩ := xBind_el h
            refine gx_callv (as := [.int x35, .int x38, .int x41, .int x44, .int x47]) (r := []) rfl dL_law_266 ca_13_23 rfl me_23 rfl rfl rfl rfl (hMS.1) rfl (fX11_link_ok (d := d) (by omega) hMS ep49) rfl rfl ?_
            refine fx_aload_n dL_law_269 rfl rfl ?_
            refine fx_aload_n dL_law_270 rfl rfl ?_
            refine fx_iload_n dL_law_271 rfl rfl ?_
            refine fx_iconst (x := 1) dL_law_272 rfl (by decide) ?_
            obtain ⟨x50, hx50, h⟩ := xLet_el h
            refine fx_iadd dL_law_273 rfl hx50 ?_
            obtain ⟨hj52, h⟩ := xChk_el h
            obtain ⟨x51, hx51, h⟩ := xLet_el h
            refine fx_sload dL_law_274 rfl rfl hj52 hx51 ?_
            refine fx_aload_n dL_law_275 rfl rfl ?_
            refine fx_iload_n dL_law_276 rfl rfl ?_
            refine fx_iconst (x := 2) dL_law_277 rfl (by decide) ?_
            obtain ⟨x53, hx53, h⟩ := xLet_el h
            refine fx_iadd dL_law_278 rfl hx53 ?_
            obtain ⟨hj55, h⟩ := xChk_el h
            obtain ⟨x54, hx54, h⟩ := xLet_el h
            refine fx_sload dL_law_279 rfl rfl hj55 hx54 ?_
            refine fx_aload_n dL_law_280 rfl rfl ?_
            refine fx_iload_n dL_law_281 rfl rfl ?_
            refine fx_iconst (x := 3) dL_law_282 rfl (by decide) ?_
            obtain ⟨x56, hx56, h⟩ := xLet_el h
            refine fx_iadd dL_law_283 rfl hx56 ?_
            obtain ⟨hj58, h⟩ := xChk_el h
            obtain ⟨x57, hx57, h⟩ := xLet_el h
            refine fx_sload dL_law_284 rfl rfl hj58 hx57 ?_
            refine fx_aload_n dL_law_285 rfl rfl ?_
            refine fx_iload_n dL_law_286 rfl rfl ?_
            refine fx_iconst (x := 4) dL_law_287 rfl (by decide) ?_
            obtain ⟨x59, hx59, h⟩ := xLet_el h
            refine fx_iadd dL_law_288 rfl hx59 ?_
            obtain ⟨hj61, h⟩ := xChk_el h
            obtain ⟨x60, hx60, h⟩ := xLet_el h
            refine fx_sload dL_law_289 rfl rfl hj61 hx60 ?_
            refine fx_aload_n dL_law_290 rfl rfl ?_
            refine fx_iload_n dL_law_291 rfl rfl ?_
            refine fx_iconst (x := 5) dL_law_292 rfl (by decide) ?_
            obtain ⟨x62, hx62, h⟩ := xLet_el h
            refine fx_iadd dL_law_293 rfl hx62 ?_
            obtain ⟨hj64, h⟩ := xChk_el h
            obtain ⟨x63, hx63, h⟩ := xLet_el h
            refine fx_sload dL_law_294 rfl rfl hj64 hx63 ?_
            obtain ⟨p65, ep65, h⟩ := xBind_el h
            refine gx_callv (as := [.int x51, .int x54, .int x57, .int x60, .int x63]) (r := [.int p49.1]) rfl dL_law_295 ca_13_27 rfl me_25 rfl rfl rfl rfl (hModel.1) rfl (fX12_link_ok (d := d) (by omega) hModel ep65) rfl rfl ?_
            refine fx_icmp_eq (t := 1390) dL_law_298 rfl rfl (fun hc66 => ?_) (fun hc66 => ?_)
            · rw [if_pos hc66] at h
              exact fL_1390_ok hd ih h
            · rw [if_neg hc66] at h
              refine fx_iconst (x := 0) dL_law_301 rfl (by decide) ?_
              cases h
              exact fx_ireturn dL_law_302 rfl rfl
          · rw [if_neg hc33] at h
            by_cases hc67 : x6 = (3 : Int32)
            · rw [if_pos hc67] at h
              refine fx_tabIn (t := 303) dL_law_33 rfl (by rw [hc67]; decide) (by rw [hc67]; decide) (by rw [hc67]; rfl) rfl ?_
              refine fx_aload_n dL_law_303 rfl rfl ?_
              refine fx_aload_n dL_law_304 rfl rfl ?_
              refine fx_iload_n dL_law_305 rfl rfl ?_
              refine fx_iconst (x := 1) dL_law_306 rfl (by decide) ?_
              obtain ⟨x68, hx68, h⟩ := xLet_el h
              refine fx_iadd dL_law_307 rfl hx68 ?_
              obtain ⟨hj70, h⟩ := xChk_el h
              obtain ⟨x69, hx69, h⟩ := xLet_el h
              refine fx_sload dL_law_308 rfl rfl hj70 hx69 ?_
              refine fx_aload_n dL_law_309 rfl rfl ?_
              refine fx_iload_n dL_law_310 rfl rfl ?_
              refine fx_iconst (x := 2) dL_law_311 rfl (by decide) ?_
              obtain ⟨x71, hx71, h⟩ := xLet_el h
              refine fx_iadd dL_law_312 rfl hx71 ?_
              obtain ⟨hj73, h⟩ := xChk_el h
              obtain ⟨x72, hx72, h⟩ := xLet_el h
              refine fx_sload dL_law_313 rfl rfl hj73 hx72 ?_
              obtain ⟨p74, ep74, h⟩ := xBind_el h
              refine gx_callv (as := [.int x69, .int x72]) (r := []) rfl dL_law_314 ca_13_28 rfl me_27 rfl rfl rfl rfl (hMS.1) rfl (fX11_turn_ok (d := d) (by omega) hMS ep74) rfl rfl ?_
              refine fx_aload_n dL_law_317 rfl rfl ?_
              refine fx_aload_n dL_law_318 rfl rfl ?_
              refine fx_iload_n dL_law_319 rfl rfl ?_
              refine fx_iconst (x := 1) dL_law_320 rfl (by decide) ?_
              obtain ⟨x75, hx75, h⟩ := xLet_el h
              refine fx_iadd dL_law_321 rfl hx75 ?_
              obtain ⟨hj77, h⟩ := xChk_el h
              obtain ⟨x76, hx76, h⟩ := xLet_el h
              refine fx_sload dL_law_322 rfl rfl hj77 hx76 ?_
              refine fx_aload_n dL_law_323 rfl rfl ?_
              refine fx_iload_n dL_law_324 rfl rfl ?_
              refine fx_iconst (x := 2) dL_law_325 rfl (by decide) ?_
              obtain ⟨x78, hx78, h⟩ := xLet_el h
              refine fx_iadd dL_law_326 rfl hx78 ?_
              obtain ⟨hj80, h⟩ := xChk_el h
              obtain ⟨x79, hx79, h⟩ := xLet_el h
              refine fx_sload dL_law_327 rfl rfl hj80 hx79 ?_
              obtain ⟨p81, ep81, h⟩ := xBind_el h
              refine gx_callv (as := [.int x76, .int x79]) (r := [.int p74.1]) rfl dL_law_328 ca_13_31 rfl me_31 rfl rfl rfl rfl (hModel.1) rfl (fX12_turn_ok (d := d) (by omega) hModel ep81) rfl rfl ?_
              refine fx_icmp_eq (t := 1390) dL_law_331 rfl rfl (fun hc82 => ?_) (fun hc82 => ?_)
              · rw [if_pos hc82] at h
                exact fL_1390_ok hd ih h
              · rw [if_neg hc82] at h
                refine fx_iconst (x := 0) dL_law_334 rfl (by decide) ?_
                cases h
                exact fx_ireturn dL_law_335 rfl rfl
            · rw [if_neg hc67] at h
              by_cases hc83 : x6 = (4 : Int32)
              · rw [if_pos hc83] at h
                refine fx_tabIn (t := 336) dL_law_33 rfl (by rw [hc83]; decide) (by rw [hc83]; decide) (by rw [hc83]; rfl) rfl ?_
                refine fx_aload_n dL_law_336 rfl rfl ?_
                refine fx_aload_n dL_law_337 rfl rfl ?_
                refine fx_iload_n dL_law_338 rfl rfl ?_
                refine fx_iconst (x := 1) dL_law_339 rfl (by decide) ?_
                obtain ⟨x84, hx84, h⟩ := xLet_el h
                refine fx_iadd dL_law_340 rfl hx84 ?_
                obtain ⟨hj86, h⟩ := xChk_el h
                obtain ⟨x85, hx85, h⟩ := xLet_el h
                refine fx_sload dL_law_341 rfl rfl hj86 hx85 ?_
                refine fx_aload_n dL_law_342 rfl rfl ?_
                refine fx_iload_n dL_law_343 rfl rfl ?_
                refine fx_iconst (x := 2) dL_law_344 rfl (by decide) ?_
                obtain ⟨x87, hx87, h⟩ := xLet_el h
                refine fx_iadd dL_law_345 rfl hx87 ?_
                obtain ⟨hj89, h⟩ := xChk_el h
                obtain ⟨x88, hx88, h⟩ := xLet_el h
                refine fx_sload dL_law_346 rfl rfl hj89 hx88 ?_
                obtain ⟨p90, ep90, h⟩ := xBind_el h
                refine gx_callv (as := [.int x85, .int x88]) (r := []) rfl dL_law_347 ca_13_32 rfl me_36 rfl rfl rfl rfl (hMS.1) rfl (fX11_mode_ok (d := d) (by omega) hMS ep90) rfl rfl ?_
                refine fx_aload_n dL_law_350 rfl rfl ?_
                refine fx_aload_n dL_law_351 rfl rfl ?_
                refine fx_iload_n dL_law_352 rfl rfl ?_
                refine fx_iconst (x := 1) dL_law_353 rfl (by decide) ?_
                obtain ⟨x91, hx91, h⟩ := xLet_el h
                refine fx_iadd dL_law_354 rfl hx91 ?_
                obtain ⟨hj93, h⟩ := xChk_el h
                obtain ⟨x92, hx92, h⟩ := xLet_el h
                refine fx_sload dL_law_355 rfl rfl hj93 hx92 ?_
                refine fx_aload_n dL_law_356 rfl rfl ?_
                refine fx_iload_n dL_law_357 rfl rfl ?_
                refine fx_iconst (x := 2) dL_law_358 rfl (by decide) ?_
                obtain ⟨x94, hx94, h⟩ := xLet_el h
                refine fx_iadd dL_law_359 rfl hx94 ?_
                obtain ⟨hj96, h⟩ := xChk_el h
                obtain ⟨x95, hx95, h⟩ := xLet_el h
                refine fx_sload dL_law_360 rfl rfl hj96 hx95 ?_
                obtain ⟨p97, ep97, h⟩ := xBind_el h
                refine gx_callv (as := [.int x92, .int x95]) (r := [.int p90.1]) rfl dL_law_361 ca_13_35 rfl me_38 rfl rfl rfl rfl (hModel.1) rfl (fX12_mode_ok (d := d) (by omega) hModel ep97) rfl rfl ?_
                refine fx_icmp_eq (t := 1390) dL_law_364 rfl rfl (fun hc98 => ?_) (fun hc98 => ?_)
                · rw [if_pos hc98] at h
                  exact fL_1390_ok hd ih h
                · rw [if_neg hc98] at h
                  refine fx_iconst (x := 0) dL_law_367 rfl (by decide) ?_
                  cases h
                  exact fx_ireturn dL_law_368 rfl rfl
              · rw [if_neg hc83] at h
                by_cases hc99 : x6 = (5 : Int32)
                · rw [if_pos hc99] at h
                  refine fx_tabIn (t := 369) dL_law_33 rfl (by rw [hc99]; decide) (by rw [hc99]; decide) (by rw [hc99]; rfl) rfl ?_
                  refine fx_aload_n dL_law_369 rfl rfl ?_
                  refine fx_aload_n dL_law_370 rfl rfl ?_
                  refine fx_iload_n dL_law_371 rfl rfl ?_
                  refine fx_iconst (x := 1) dL_law_372 rfl (by decide) ?_
                  obtain ⟨x100, hx100, h⟩ := xLet_el h
                  refine fx_iadd dL_law_373 rfl hx100 ?_
                  obtain ⟨hj102, h⟩ := xChk_el h
                  obtain ⟨x101, hx101, h⟩ := xLet_el h
                  refine fx_sload dL_law_374 rfl rfl hj102 hx101 ?_
                  obtain ⟨p103, ep103, h⟩ := xBind_el h
                  refine gx_callv (as := [.int x101]) (r := []) rfl dL_law_375 ca_13_36 rfl me_39 rfl rfl rfl rfl (hMS.1) rfl (fX11_reset_ok (d := d) (by omega) hMS ep103) rfl rfl ?_
                  refine fx_aload_n dL_law_378 rfl rfl ?_
                  refine fx_aload_n dL_law_379 rfl rfl ?_
                  refine fx_iload_n dL_law_380 rfl rfl ?_
                  refine fx_iconst (x := 1) dL_law_381 rfl (by decide) ?_
                  obtain ⟨x104, hx104, h⟩ := xLet_el h
                  refine fx_iadd dL_law_382 rfl hx104 ?_
                  obtain ⟨hj106, h⟩ := xChk_el h
                  obtain ⟨x105, hx105, h⟩ := xLet_el h
                  refine fx_sload dL_law_383 rfl rfl hj106 hx105 ?_
                  obtain ⟨p107, ep107, h⟩ := xBind_el h
                  refine gx_callv (as := [.int x105]) (r := [.int p103.1]) rfl dL_law_384 ca_13_40 rfl me_40 rfl rfl rfl rfl (hModel.1) rfl (fX12_reset_ok (d := d) (by omega) hModel ep107) rfl rfl ?_
                  refine fx_icmp_eq (t := 1390) dL_law_387 rfl rfl (fun hc108 => ?_) (fun hc108 => ?_)
                  · rw [if_pos hc108] at h
                    exact fL_1390_ok hd ih h
                  · rw [if_neg hc108] at h
                    refine fx_iconst (x := 0) dL_law_390 rfl (by decide) ?_
                    cases h
                    exact fx_ireturn dL_law_391 rfl rfl
                · rw [if_neg hc99] at h
                  by_cases hc109 : x6 = (6 : Int32)
                  · rw [if_pos hc109] at h
                    refine fx_tabIn (t := 392) dL_law_33 rfl (by rw [hc109]; decide) (by rw [hc109]; decide) (by rw [hc109]; rfl) rfl ?_
                    refine fx_aload_n dL_law_392 rfl rfl ?_
                    refine fx_aload_n dL_law_393 rfl rfl ?_
                    refine fx_iload_n dL_law_394 rfl rfl ?_
                    refine fx_iconst (x := 1) dL_law_395 rfl (by decide) ?_
                    obtain ⟨x110, hx110, h⟩ := xLet_el h
                    refine fx_iadd dL_law_396 rfl hx110 ?_
                    obtain ⟨hj112, h⟩ := xChk_el h
                    obtain ⟨x111, hx111, h⟩ := xLet_el h
                    refine fx_sload dL_law_397 rfl rfl hj112 hx111 ?_
                    refine fx_aload_n dL_law_398 rfl rfl ?_
                    refine fx_iload_n dL_law_399 rfl rfl ?_
                    refine fx_iconst (x := 2) dL_law_400 rfl (by decide) ?_
                    obtain ⟨x113, hx113, h⟩ := xLet_el h
                    refine fx_iadd dL_law_401 rfl hx113 ?_
                    obtain ⟨hj115, h⟩ := xChk_el h
                    obtain ⟨x114, hx114, h⟩ := xLet_el h
                    refine fx_sload dL_law_402 rfl rfl hj115 hx114 ?_
                    refine fx_aload_n dL_law_403 rfl rfl ?_
                    refine fx_iload_n dL_law_404 rfl rfl ?_
                    refine fx_iconst (x := 3) dL_law_405 rfl (by decide) ?_
                    obtain ⟨x116, hx116, h⟩ := xLet_el h
                    refine fx_iadd dL_law_406 rfl hx116 ?_
                    obtain ⟨hj118, h⟩ := xChk_el h
                    obtain ⟨x117, hx117, h⟩ := xLet_el h
                    refine fx_sload dL_law_407 rfl rfl hj118 hx117 ?_
                    refine fx_aload_n dL_law_408 rfl rfl ?_
                    refine fx_iload_n dL_law_409 rfl rfl ?_
                    refine fx_iconst (x := 4) dL_law_410 rfl (by decide) ?_
                    obtain ⟨x119, hx119, h⟩ := xLet_el h
                    refine fx_iadd dL_law_411 rfl hx119 ?_
                    obtain ⟨hj121, h⟩ := xChk_el h
                    obtain ⟨x120, hx120, h⟩ := xLet_el h
                    refine fx_sload dL_law_412 rfl rfl hj121 hx120 ?_
                    refine fx_aload_n dL_law_413 rfl rfl ?_
                    refine fx_iload_n dL_law_414 rfl rfl ?_
                    refine fx_iconst (x := 5) dL_law_415 rfl (by decide) ?_
                    obtain ⟨x122, hx122, h⟩ := xLet_el h
                    refine fx_iadd dL_law_416 rfl hx122 ?_
                    obtain ⟨hj124, h⟩ := xChk_el h
                    obtain ⟨x123, hx123, h⟩ := xLet_el h
                    refine fx_sload dL_law_417 rfl rfl hj124 hx123 ?_
                    refine fx_aload_n dL_law_418 rfl rfl ?_
                    refine fx_iload_n dL_law_419 rfl rfl ?_
                    refine fx_bipush (x := 6) dL_law_420 rfl (by decide) ?_
                    obtain ⟨x125, hx125, h⟩ := xLet_el h
                    refine fx_iadd dL_law_422 rfl hx125 ?_
                    obtain ⟨hj127, h⟩ := xChk_el h
                    obtain ⟨x126, hx126, h⟩ := xLet_el h
                    refine fx_sload dL_law_423 rfl rfl hj127 hx126 ?_
                    refine fx_if_eq (t := 431) dL_law_424 rfl rfl (fun hc128 => ?_) (fun hc128 => ?_)
                    · rw [if_pos hc128] at h
                      refine fx_iconst (x := 0) dL_law_431 rfl (by decide) ?_
                      exact fL_432_ok hd ih hMS h
                    · rw [if_neg hc128] at h
                      refine fx_iconst (x := 1) dL_law_427 rfl (by decide) ?_
                      refine fx_goto (t := 432) dL_law_428 rfl rfl ?_
                      exact fL_432_ok hd ih hMS h
                  · rw [if_neg hc109] at h
                    by_cases hc129 : x6 = (7 : Int32)
                    · rw [if_pos hc129] at h
                      refine fx_tabIn (t := 511) dL_law_33 rfl (by rw [hc129]; decide) (by rw [hc129]; decide) (by rw [hc129]; rfl) rfl ?_
                      refine fx_aload_n dL_law_511 rfl rfl ?_
                      refine fx_aload_n dL_law_512 rfl rfl ?_
                      refine fx_iload_n dL_law_513 rfl rfl ?_
                      refine fx_iconst (x := 1) dL_law_514 rfl (by decide) ?_
                      obtain ⟨x130, hx130, h⟩ := xLet_el h
                      refine fx_iadd dL_law_515 rfl hx130 ?_
                      obtain ⟨hj132, h⟩ := xChk_el h
                      obtain ⟨x131, hx131, h⟩ := xLet_el h
                      refine fx_sload dL_law_516 rfl rfl hj132 hx131 ?_
                      refine fx_aload_n dL_law_517 rfl rfl ?_
                      refine fx_iload_n dL_law_518 rfl rfl ?_
                      refine fx_iconst (x := 2) dL_law_519 rfl (by decide) ?_
                      obtain ⟨x133, hx133, h⟩ := xLet_el h
                      refine fx_iadd dL_law_520 rfl hx133 ?_
                      obtain ⟨hj135, h⟩ := xChk_el h
                      obtain ⟨x134, hx134, h⟩ := xLet_el h
                      refine fx_sload dL_law_521 rfl rfl hj135 hx134 ?_
                      refine fx_aload_n dL_law_522 rfl rfl ?_
                      refine fx_iload_n dL_law_523 rfl rfl ?_
                      refine fx_iconst (x := 3) dL_law_524 rfl (by decide) ?_
                      obtain ⟨x136, hx136, h⟩ := xLet_el h
                      refine fx_iadd dL_law_525 rfl hx136 ?_
                      obtain ⟨hj138, h⟩ := xChk_el h
                      obtain ⟨x137, hx137, h⟩ := xLet_el h
                      refine fx_sload dL_law_526 rfl rfl hj138 hx137 ?_
                      refine fx_aload_n dL_law_527 rfl rfl ?_
                      refine fx_iload_n dL_law_528 rfl rfl ?_
                      refine fx_iconst (x := 4) dL_law_529 rfl (by decide) ?_
                      obtain ⟨x139, hx139, h⟩ := xLet_el h
                      refine fx_iadd dL_law_530 rfl hx139 ?_
                      obtain ⟨hj141, h⟩ := xChk_el h
                      obtain ⟨x140, hx140, h⟩ := xLet_el h
                      refine fx_sload dL_law_531 rfl rfl hj141 hx140 ?_
                      refine fx_aload_n dL_law_532 rfl rfl ?_
                      refine fx_iload_n dL_law_533 rfl rfl ?_
                      refine fx_iconst (x := 5) dL_law_534 rfl (by decide) ?_
                      obtain ⟨x142, hx142, h⟩ := xLet_el h
                      refine fx_iadd dL_law_535 rfl hx142 ?_
                      obtain ⟨hj144, h⟩ := xChk_el h
                      obtain ⟨x143, hx143, h⟩ := xLet_el h
                      refine fx_sload dL_law_536 rfl rfl hj144 hx143 ?_
                      obtain ⟨p145, ep145, h⟩ := xBind_el h
                      refine gx_callv (as := [.int x131, .int x134, .int x137, .int x140, .int x143]) (r := []) rfl dL_law_537 ca_13_46 rfl me_43 rfl rfl rfl rfl (hMS.1) rfl (fX11_feed_ok (d := d) (by omega) hMS ep145) rfl rfl ?_
                      refine fx_aload_n dL_law_540 rfl rfl ?_
                      refine fx_aload_n dL_law_541 rfl rfl ?_
                      refine fx_iload_n dL_law_542 rfl rfl ?_
                      refine fx_iconst (x := 1) dL_law_543 rfl (by decide) ?_
                      obtain ⟨x146, hx146, h⟩ := xLet_el h
                      refine fx_iadd dL_law_544 rfl hx146 ?_
                      obtain ⟨hj148, h⟩ := xChk_el h
                      obtain ⟨x147, hx147, h⟩ := xLet_el h
                      refine fx_sload dL_law_545 rfl rfl hj148 hx147 ?_
                      refine fx_aload_n dL_law_546 rfl rfl ?_
                      refine fx_iload_n dL_law_547 rfl rfl ?_
                      refine fx_iconst (x := 2) dL_law_548 rfl (by decide) ?_
                      obtain ⟨x149, hx149, h⟩ := xLet_el h
                      refine fx_iadd dL_law_549 rfl hx149 ?_
                      obtain ⟨hj151, h⟩ := xChk_el h
                      obtain ⟨x150, hx150, h⟩ := xLet_el h
                      refine fx_sload dL_law_550 rfl rfl hj151 hx150 ?_
                      refine fx_aload_n dL_law_551 rfl rfl ?_
                      refine fx_iload_n dL_law_552 rfl rfl ?_
                      refine fx_iconst (x := 3) dL_law_553 rfl (by decide) ?_
                      obtain ⟨x152, hx152, h⟩ := xLet_el h
                      refine fx_iadd dL_law_554 rfl hx152 ?_
                      obtain ⟨hj154, h⟩ := xChk_el h
                      obtain ⟨x153, hx153, h⟩ := xLet_el h
                      refine fx_sload dL_law_555 rfl rfl hj154 hx153 ?_
                      refine fx_aload_n dL_law_556 rfl rfl ?_
                      refine fx_iload_n dL_law_557 rfl rfl ?_
                      refine fx_iconst (x := 4) dL_law_558 rfl (by decide) ?_
                      obtain ⟨x155, hx155, h⟩ := xLet_el h
                      refine fx_iadd dL_law_559 rfl hx155 ?_
                      obtain ⟨hj157, h⟩ := xChk_el h
                      obtain ⟨x156, hx156, h⟩ := xLet_el h
                      refine fx_sload dL_law_560 rfl rfl hj157 hx156 ?_
                      refine fx_aload_n dL_law_561 rfl rfl ?_
                      refine fx_iload_n dL_law_562 rfl rfl ?_
                      refine fx_iconst (x := 5) dL_law_563 rfl (by decide) ?_
                      obtain ⟨x158, hx158, h⟩ := xLet_el h
                      refine fx_iadd dL_law_564 rfl hx158 ?_
                      obtain ⟨hj160, h⟩ := xChk_el h
                      obtain ⟨x159, hx159, h⟩ := xLet_el h
                      refine fx_sload dL_law_565 rfl rfl hj160 hx159 ?_
                      obtain ⟨p161, ep161, h⟩ := xBind_el h
                      refine gx_callv (as := [.int x147, .int x150, .int x153, .int x156, .int x159]) (r := [.int p145.1]) rfl dL_law_566 ca_13_49 rfl me_46 rfl rfl rfl rfl (hModel.1) rfl (fX12_feed_ok (d := d) (by omega) hModel ep161) rfl rfl ?_
                      refine fx_icmp_eq (t := 1390) dL_law_569 rfl rfl (fun hc162 => ?_) (fun hc162 => ?_)
                      · rw [if_pos hc162] at h
                        exact fL_1390_ok hd ih h
                      · rw [if_neg hc162] at h
                        refine fx_iconst (x := 0) dL_law_572 rfl (by decide) ?_
                        cases h
                        exact fx_ireturn dL_law_573 rfl rfl
                    · rw [if_neg hc129] at h
                      by_cases hc163 : x6 = (8 : Int32)
                      · rw [if_pos hc163] at h
                        refine fx_tabIn (t := 574) dL_law_33 rfl (by rw [hc163]; decide) (by rw [hc163]; decide) (by rw [hc163]; rfl) rfl ?_
                        refine fx_aload_n dL_law_574 rfl rfl ?_
                        refine fx_aload_n dL_law_575 rfl rfl ?_
                        refine fx_iload_n dL_law_576 rfl rfl ?_
                        refine fx_iconst (x := 1) dL_law_577 rfl (by decide) ?_
                        obtain ⟨x164, hx164, h⟩ := xLet_el h
                        refine fx_iadd dL_law_578 rfl hx164 ?_
                        obtain ⟨hj166, h⟩ := xChk_el h
                        obtain ⟨x165, hx165, h⟩ := xLet_el h
                        refine fx_sload dL_law_579 rfl rfl hj166 hx165 ?_
                        obtain ⟨p167, ep167, h⟩ := xBind_el h
                        refine gx_callv (as := [.int x165]) (r := []) rfl dL_law_580 ca_13_50 rfl me_48 rfl rfl rfl rfl (hMS.1) rfl (fX11_end_ok (d := d) (by omega) hMS ep167) rfl rfl ?_
                        refine fx_aload_n dL_law_583 rfl rfl ?_
                        refine fx_aload_n dL_law_584 rfl rfl ?_
                        refine fx_iload_n dL_law_585 rfl rfl ?_
                        refine fx_iconst (x := 1) dL_law_586 rfl (by decide) ?_
                        obtain ⟨x168, hx168, h⟩ := xLet_el h
                        refine fx_iadd dL_law_587 rfl hx168 ?_
                        obtain ⟨hj170, h⟩ := xChk_el h
                        obtain ⟨x169, hx169, h⟩ := xLet_el h
                        refine fx_sload dL_law_588 rfl rfl hj170 hx169 ?_
                        obtain ⟨p171, ep171, h⟩ := xBind_el h
                        refine gx_callv (as := [.int x169]) (r := [.int p167.1]) rfl dL_law_589 ca_13_53 rfl me_49 rfl rfl rfl rfl (hModel.1) rfl (fX12_end_ok (d := d) (by omega) hModel ep171) rfl rfl ?_
                        refine fx_icmp_eq (t := 1390) dL_law_592 rfl rfl (fun hc172 => ?_) (fun hc172 => ?_)
                        · rw [if_pos hc172] at h
                          exact fL_1390_ok hd ih h
                        · rw [if_neg hc172] at h
                          refine fx_iconst (x := 0) dL_law_595 rfl (by decide) ?_
                          cases h
                          exact fx_ireturn dL_law_596 rfl rfl
                      · rw [if_neg hc163] at h
                        by_cases hc173 : x6 = (9 : Int32)
                        · rw [if_pos hc173] at h
                          refine fx_tabIn (t := 597) dL_law_33 rfl (by rw [hc173]; decide) (by rw [hc173]; decide) (by rw [hc173]; rfl) rfl ?_
                          refine fx_aload_n dL_law_597 rfl rfl ?_
                          obtain ⟨p174, ep174, h⟩ := xBind_el h
                          refine gx_callv (as := []) (r := []) rfl dL_law_598 ca_13_54 rfl me_50 rfl rfl rfl rfl (hMS.1) rfl (fX11_text_ok (d := d) (by omega) hMS ep174) rfl rfl ?_
                          refine fx_aload_n dL_law_601 rfl rfl ?_
                          obtain ⟨p175, ep175, h⟩ := xBind_el h
                          refine gx_callv (as := []) (r := [.int p174.1]) rfl dL_law_602 ca_13_58 rfl me_86 rfl rfl rfl rfl (hModel.1) rfl (fX12_text_ok (d := d) (by omega) hModel ep175) rfl rfl ?_
                          refine fx_icmp_eq (t := 1390) dL_law_605 rfl rfl (fun hc176 => ?_) (fun hc176 => ?_)
                          · rw [if_pos hc176] at h
                            exact fL_1390_ok hd ih h
                          · rw [if_neg hc176] at h
                            refine fx_iconst (x := 0) dL_law_608 rfl (by decide) ?_
                            cases h
                            exact fx_ireturn dL_law_609 rfl rfl
                        · rw [if_neg hc173] at h
                          by_cases hc177 : x6 = (10 : Int32)
                          · rw [if_pos hc177] at h
                            refine fx_tabIn (t := 610) dL_law_33 rfl (by rw [hc177]; decide) (by rw [hc177]; decide) (by rw [hc177]; rfl) rfl ?_
                            refine fx_aload_n dL_law_610 rfl rfl ?_
                            refine fx_aload_n dL_law_611 rfl rfl ?_
                            refine fx_iload_n dL_law_612 rfl rfl ?_
                            refine fx_iconst (x := 1) dL_law_613 rfl (by decide) ?_
                            obtain ⟨x178, hx178, h⟩ := xLet_el h
                            refine fx_iadd dL_law_614 rfl hx178 ?_
                            obtain ⟨hj180, h⟩ := xChk_el h
                            obtain ⟨x179, hx179, h⟩ := xLet_el h
                            refine fx_sload dL_law_615 rfl rfl hj180 hx179 ?_
                            obtain ⟨p181, ep181, h⟩ := xBind_el h
                            refine gx_callv (as := [.int x179]) (r := []) rfl dL_law_616 ca_13_59 rfl me_111 rfl rfl rfl rfl (hMS.1) rfl (fX11_fault_ok (d := d) (by omega) hMS ep181) rfl rfl ?_
                            refine fx_aload_n dL_law_619 rfl rfl ?_
                            refine fx_aload_n dL_law_620 rfl rfl ?_
                            refine fx_iload_n dL_law_621 rfl rfl ?_
                            refine fx_iconst (x := 1) dL_law_622 rfl (by decide) ?_
                            obtain ⟨x182, hx182, h⟩ := xLet_el h
                            refine fx_iadd dL_law_623 rfl hx182 ?_
                            obtain ⟨hj184, h⟩ := xChk_el h
                            obtain ⟨x183, hx183, h⟩ := xLet_el h
                            refine fx_sload dL_law_624 rfl rfl hj184 hx183 ?_
                            obtain ⟨p185, ep185, h⟩ := xBind_el h
                            refine gx_callv (as := [.int x183]) (r := [.int p181.1]) rfl dL_law_625 ca_13_62 rfl me_112 rfl rfl rfl rfl (hModel.1) rfl (fX12_fault_ok (d := d) (by omega) hModel ep185) rfl rfl ?_
                            refine fx_icmp_eq (t := 1390) dL_law_628 rfl rfl (fun hc186 => ?_) (fun hc186 => ?_)
                            · rw [if_pos hc186] at h
                              exact fL_1390_ok hd ih h
                            · rw [if_neg hc186] at h
                              refine fx_iconst (x := 0) dL_law_631 rfl (by decide) ?_
                              cases h
                              exact fx_ireturn dL_law_632 rfl rfl
                          · rw [if_neg hc177] at h
                            by_cases hc187 : x6 = (11 : Int32)
                            · rw [if_pos hc187] at h
                              refine fx_tabIn (t := 633) dL_law_33 rfl (by rw [hc187]; decide) (by rw [hc187]; decide) (by rw [hc187]; rfl) rfl ?_
                              refine fx_aload_n dL_law_633 rfl rfl ?_
                              refine fx_aload_n dL_law_634 rfl rfl ?_
                              refine fx_iload_n dL_law_635 rfl rfl ?_
                              refine fx_iconst (x := 1) dL_law_636 rfl (by decide) ?_
                              obtain ⟨x188, hx188, h⟩ := xLet_el h
                              refine fx_iadd dL_law_637 rfl hx188 ?_
                              obtain ⟨hj190, h⟩ := xChk_el h
                              obtain ⟨x189, hx189, h⟩ := xLet_el h
                              refine fx_sload dL_law_638 rfl rfl hj190 hx189 ?_
                              obtain ⟨p191, ep191, h⟩ := xBind_el h
                              refine gx_callv (as := [.int x189]) (r := []) rfl dL_law_639 ca_13_63 rfl me_113 rfl rfl rfl rfl (hMS.1) rfl (fX11_by_ok (d := d) (by omega) hMS ep191) rfl rfl ?_
                              refine fx_aload_n dL_law_642 rfl rfl ?_
                              refine fx_aload_n dL_law_643 rfl rfl ?_
                              refine fx_iload_n dL_law_644 rfl rfl ?_
                              refine fx_iconst (x := 1) dL_law_645 rfl (by decide) ?_
                              obtain ⟨x192, hx192, h⟩ := xLet_el h
                              refine fx_iadd dL_law_646 rfl hx192 ?_
                              obtain ⟨hj194, h⟩ := xChk_el h
                              obtain ⟨x193, hx193, h⟩ := xLet_el h
                              refine fx_sload dL_law_647 rfl rfl hj194 hx193 ?_
                              obtain ⟨p195, ep195, h⟩ := xBind_el h
                              refine gx_callv (as := [.int x193]) (r := [.int p191.1]) rfl dL_law_648 ca_13_66 rfl me_114 rfl rfl rfl rfl (hModel.1) rfl (fX12_by_ok (d := d) (by omega) hModel ep195) rfl rfl ?_
                              refine fx_icmp_eq (t := 1390) dL_law_651 rfl rfl (fun hc196 => ?_) (fun hc196 => ?_)
                              · rw [if_pos hc196] at h
                                exact fL_1390_ok hd ih h
                              · rw [if_neg hc196] at h
                                refine fx_iconst (x := 0) dL_law_654 rfl (by decide) ?_
                                cases h
                                exact fx_ireturn dL_law_655 rfl rfl
                            · rw [if_neg hc187] at h
                              by_cases hc197 : x6 = (12 : Int32)
                              · rw [if_pos hc197] at h
                                refine fx_tabIn (t := 656) dL_law_33 rfl (by rw [hc197]; decide) (by rw [hc197]; decide) (by rw [hc197]; rfl) rfl ?_
                                refine fx_aload_n dL_law_656 rfl rfl ?_
                                refine fx_aload_n dL_law_657 rfl rfl ?_
                                refine fx_iload_n dL_law_658 rfl rfl ?_
                                refine fx_iconst (x := 1) dL_law_659 rfl (by decide) ?_
                                obtain ⟨x198, hx198, h⟩ := xLet_el h
                                refine fx_iadd dL_law_660 rfl hx198 ?_
                                obtain ⟨hj200, h⟩ := xChk_el h
                                obtain ⟨x199, hx199, h⟩ := xLet_el h
                                refine fx_sload dL_law_661 rfl rfl hj200 hx199 ?_
                                obtain ⟨p201, ep201, h⟩ := xBind_el h
                                refine gx_callv (as := [.int x199]) (r := []) rfl dL_law_662 ca_13_67 rfl me_115 rfl rfl rfl rfl (hMS.1) rfl (fX11_run_ok (d := d) (by omega) hMS ep201) rfl rfl ?_
                                refine fx_aload_n dL_law_665 rfl rfl ?_
                                refine fx_aload_n dL_law_666 rfl rfl ?_
                                refine fx_iload_n dL_law_667 rfl rfl ?_
                                refine fx_iconst (x := 1) dL_law_668 rfl (by decide) ?_
                                obtain ⟨x202, hx202, h⟩ := xLet_el h
                                refine fx_iadd dL_law_669 rfl hx202 ?_
                                obtain ⟨hj204, h⟩ := xChk_el h
                                obtain ⟨x203, hx203, h⟩ := xLet_el h
                                refine fx_sload dL_law_670 rfl rfl hj204 hx203 ?_
                                obtain ⟨p205, ep205, h⟩ := xBind_el h
                                refine gx_callv (as := [.int x203]) (r := [.int p201.1]) rfl dL_law_671 ca_13_70 rfl me_162 rfl rfl rfl rfl (hModel.1) rfl (fX12_run_ok (d := d) (by omega) hModel ep205) rfl rfl ?_
                                refine fx_icmp_eq (t := 1390) dL_law_674 rfl rfl (fun hc206 => ?_) (fun hc206 => ?_)
                                · rw [if_pos hc206] at h
                                  exact fL_1390_ok hd ih h
                                · rw [if_neg hc206] at h
                                  refine fx_iconst (x := 0) dL_law_677 rfl (by decide) ?_
                                  cases h
                                  exact fx_ireturn dL_law_678 rfl rfl
                              · rw [if_neg hc197] at h
                                by_cases hc207 : x6 = (13 : Int32)
                                · rw [if_pos hc207] at h
                                  refine fx_tabIn (t := 679) dL_law_33 rfl (by rw [hc207]; decide) (by rw [hc207]; decide) (by rw [hc207]; rfl) rfl ?_
                                  refine fx_aload_n dL_law_679 rfl rfl ?_
                                  refine fx_aload_n dL_law_680 rfl rfl ?_
                                  refine fx_iload_n dL_law_681 rfl rfl ?_
                                  refine fx_iconst (x := 1) dL_law_682 rfl (by decide) ?_
                                  obtain ⟨x208, hx208, h⟩ := xLet_el h
                                  refine fx_iadd dL_law_683 rfl hx208 ?_
                                  obtain ⟨hj210, h⟩ := xChk_el h
                                  obtain ⟨x209, hx209, h⟩ := xLet_el h
                                  refine fx_sload dL_law_684 rfl rfl hj210 hx209 ?_
                                  refine fx_aload_n dL_law_685 rfl rfl ?_
                                  refine fx_iload_n dL_law_686 rfl rfl ?_
                                  refine fx_iconst (x := 2) dL_law_687 rfl (by decide) ?_
                                  obtain ⟨x211, hx211, h⟩ := xLet_el h
                                  refine fx_iadd dL_law_688 rfl hx211 ?_
                                  obtain ⟨hj213, h⟩ := xChk_el h
                                  obtain ⟨x212, hx212, h⟩ := xLet_el h
                                  refine fx_sload dL_law_689 rfl rfl hj213 hx212 ?_
                                  obtain ⟨p214, ep214, h⟩ := xBind_el h
                                  refine gx_callv (as := [.int x209, .int x212]) (r := []) rfl dL_law_690 ca_13_71 rfl me_193 rfl rfl rfl rfl (hMS.1) rfl (fX11_of_ok (d := d) (by omega) hMS ep214) rfl rfl ?_
                                  refine fx_aload_n dL_law_693 rfl rfl ?_
                                  refine fx_aload_n dL_law_694 rfl rfl ?_
                                  refine fx_iload_n dL_law_695 rfl rfl ?_
                                  refine fx_iconst (x := 1) dL_law_696 rfl (by decide) ?_
                                  obtain ⟨x215, hx215, h⟩ := xLet_el h
                                  refine fx_iadd dL_law_697 rfl hx215 ?_
                                  obtain ⟨hj217, h⟩ := xChk_el h
                                  obtain ⟨x216, hx216, h⟩ := xLet_el h
                                  refine fx_sload dL_law_698 rfl rfl hj217 hx216 ?_
                                  refine fx_aload_n dL_law_699 rfl rfl ?_
                                  refine fx_iload_n dL_law_700 rfl rfl ?_
                                  refine fx_iconst (x := 2) dL_law_701 rfl (by decide) ?_
                                  obtain ⟨x218, hx218, h⟩ := xLet_el h
                                  refine fx_iadd dL_law_702 rfl hx218 ?_
                                  obtain ⟨hj220, h⟩ := xChk_el h
                                  obtain ⟨x219, hx219, h⟩ := xLet_el h
                                  refine fx_sload dL_law_703 rfl rfl hj220 hx219 ?_
                                  obtain ⟨p221, ep221, h⟩ := xBind_el h
                                  refine gx_callv (as := [.int x216, .int x219]) (r := [.int p214.1]) rfl dL_law_704 ca_13_75 rfl me_194 rfl rfl rfl rfl (hModel.1) rfl (fX12_of_ok (d := d) (by omega) hModel ep221) rfl rfl ?_
                                  refine fx_icmp_eq (t := 1390) dL_law_707 rfl rfl (fun hc222 => ?_) (fun hc222 => ?_)
                                  · rw [if_pos hc222] at h
                                    exact fL_1390_ok hd ih h
                                  · rw [if_neg hc222] at h
                                    refine fx_iconst (x := 0) dL_law_710 rfl (by decide) ?_
                                    cases h
                                    exact fx_ireturn dL_law_711 rfl rfl
                                · rw [if_neg hc207] at h
                                  by_cases hc223 : x6 = (14 : Int32)
                                  · rw [if_pos hc223] at h
                                    refine fx_tabIn (t := 712) dL_law_33 rfl (by rw [hc223]; decide) (by rw [hc223]; decide) (by rw [hc223]; rfl) rfl ?_
                                    refine fx_aload_n dL_law_712 rfl rfl ?_
                                    refine fx_aload_n dL_law_713 rfl rfl ?_
                                    refine fx_iload_n dL_law_714 rfl rfl ?_
                                    refine fx_iconst (x := 1) dL_law_715 rfl (by decide) ?_
                                    obtain ⟨x224, hx224, h⟩ := xLet_el h
                                    refine fx_iadd dL_law_716 rfl hx224 ?_
                                    obtain ⟨hj226, h⟩ := xChk_el h
                                    obtain ⟨x225, hx225, h⟩ := xLet_el h
                                    refine fx_sload dL_law_717 rfl rfl hj226 hx225 ?_
                                    refine fx_aload_n dL_law_718 rfl rfl ?_
                                    refine fx_iload_n dL_law_719 rfl rfl ?_
                                    refine fx_iconst (x := 2) dL_law_720 rfl (by decide) ?_
                                    obtain ⟨x227, hx227, h⟩ := xLet_el h
                                    refine fx_iadd dL_law_721 rfl hx227 ?_
                                    obtain ⟨hj229, h⟩ := xChk_el h
                                    obtain ⟨x228, hx228, h⟩ := xLet_el h
                                    refine fx_sload dL_law_722 rfl rfl hj229 hx228 ?_
                                    obtain ⟨p230, ep230, h⟩ := xBind_el h
                                    refine gx_callv (as := [.int x225, .int x228]) (r := []) rfl dL_law_723 ca_13_76 rfl me_195 rfl rfl rfl rfl (hMS.1) rfl (fX11_on_ok (d := d) (by omega) hMS ep230) rfl rfl ?_
                                    refine fx_aload_n dL_law_726 rfl rfl ?_
                                    refine fx_aload_n dL_law_727 rfl rfl ?_
                                    refine fx_iload_n dL_law_728 rfl rfl ?_
                                    refine fx_iconst (x := 1) dL_law_729 rfl (by decide) ?_
                                    obtain ⟨x231, hx231, h⟩ := xLet_el h
                                    refine fx_iadd dL_law_730 rfl hx231 ?_
                                    obtain ⟨hj233, h⟩ := xChk_el h
                                    obtain ⟨x232, hx232, h⟩ := xLet_el h
                                    refine fx_sload dL_law_731 rfl rfl hj233 hx232 ?_
                                    refine fx_aload_n dL_law_732 rfl rfl ?_
                                    refine fx_iload_n dL_law_733 rfl rfl ?_
                                    refine fx_iconst (x := 2) dL_law_734 rfl (by decide) ?_
                                    obtain ⟨x234, hx234, h⟩ := xLet_el h
                                    refine fx_iadd dL_law_735 rfl hx234 ?_
                                    obtain ⟨hj236, h⟩ := xChk_el h
                                    obtain ⟨x235, hx235, h⟩ := xLet_el h
                                    refine fx_sload dL_law_736 rfl rfl hj236 hx235 ?_
                                    obtain ⟨p237, ep237, h⟩ := xBind_el h
                                    refine gx_callv (as := [.int x232, .int x235]) (r := [.int p230.1]) rfl dL_law_737 ca_13_79 rfl me_196 rfl rfl rfl rfl (hModel.1) rfl (fX12_on_ok (d := d) (by omega) hModel ep237) rfl rfl ?_
                                    refine fx_icmp_eq (t := 1390) dL_law_740 rfl rfl (fun hc238 => ?_) (fun hc238 => ?_)
                                    · rw [if_pos hc238] at h
                                      exact fL_1390_ok hd ih h
                                    · rw [if_neg hc238] at h
                                      refine fx_iconst (x := 0) dL_law_743 rfl (by decide) ?_
                                      cases h
                                      exact fx_ireturn dL_law_744 rfl rfl
                                  · rw [if_neg hc223] at h
                                    by_cases hc239 : x6 = (15 : Int32)
                                    · rw [if_pos hc239] at h
                                      refine fx_tabIn (t := 745) dL_law_33 rfl (by rw [hc239]; decide) (by rw [hc239]; decide) (by rw [hc239]; rfl) rfl ?_
                                      refine fx_aload_n dL_law_745 rfl rfl ?_
                                      refine fx_aload_n dL_law_746 rfl rfl ?_
                                      refine fx_iload_n dL_law_747 rfl rfl ?_
                                      refine fx_iconst (x := 1) dL_law_748 rfl (by decide) ?_
                                      obtain ⟨x240, hx240, h⟩ := xLet_el h
                                      refine fx_iadd dL_law_749 rfl hx240 ?_
                                      obtain ⟨hj242, h⟩ := xChk_el h
                                      obtain ⟨x241, hx241, h⟩ := xLet_el h
                                      refine fx_sload dL_law_750 rfl rfl hj242 hx241 ?_
                                      refine fx_aload_n dL_law_751 rfl rfl ?_
                                      refine fx_iload_n dL_law_752 rfl rfl ?_
                                      refine fx_iconst (x := 2) dL_law_753 rfl (by decide) ?_
                                      obtain ⟨x243, hx243, h⟩ := xLet_el h
                                      refine fx_iadd dL_law_754 rfl hx243 ?_
                                      obtain ⟨hj245, h⟩ := xChk_el h
                                      obtain ⟨x244, hx244, h⟩ := xLet_el h
                                      refine fx_sload dL_law_755 rfl rfl hj245 hx244 ?_
                                      refine fx_aload_n dL_law_756 rfl rfl ?_
                                      refine fx_iload_n dL_law_757 rfl rfl ?_
                                      refine fx_iconst (x := 3) dL_law_758 rfl (by decide) ?_
                                      obtain ⟨x246, hx246, h⟩ := xLet_el h
                                      refine fx_iadd dL_law_759 rfl hx246 ?_
                                      obtain ⟨hj248, h⟩ := xChk_el h
                                      obtain ⟨x247, hx247, h⟩ := xLet_el h
                                      refine fx_sload dL_law_760 rfl rfl hj248 hx247 ?_
                                      obtain ⟨p249, ep249, h⟩ := xBind_el h
                                      refine gx_callv (as := [.int x241, .int x244, .int x247]) (r := []) rfl dL_law_761 ca_13_80 rfl me_197 rfl rfl rfl rfl (hMS.1) rfl (fX11_step_ok (d := d) (by omega) hMS ep249) rfl rfl ?_
                                      refine fx_aload_n dL_law_764 rfl rfl ?_
                                      refine fx_aload_n dL_law_765 rfl rfl ?_
                                      refine fx_iload_n dL_law_766 rfl rfl ?_
                                      refine fx_iconst (x := 1) dL_law_767 rfl (by decide) ?_
                                      obtain ⟨x250, hx250, h⟩ := xLet_el h
                                      refine fx_iadd dL_law_768 rfl hx250 ?_
                                      obtain ⟨hj252, h⟩ := xChk_el h
                                      obtain ⟨x251, hx251, h⟩ := xLet_el h
                                      refine fx_sload dL_law_769 rfl rfl hj252 hx251 ?_
                                      refine fx_aload_n dL_law_770 rfl rfl ?_
                                      refine fx_iload_n dL_law_771 rfl rfl ?_
                                      refine fx_iconst (x := 2) dL_law_772 rfl (by decide) ?_
                                      obtain ⟨x253, hx253, h⟩ := xLet_el h
                                      refine fx_iadd dL_law_773 rfl hx253 ?_
                                      obtain ⟨hj255, h⟩ := xChk_el h
                                      obtain ⟨x254, hx254, h⟩ := xLet_el h
                                      refine fx_sload dL_law_774 rfl rfl hj255 hx254 ?_
                                      refine fx_aload_n dL_law_775 rfl rfl ?_
                                      refine fx_iload_n dL_law_776 rfl rfl ?_
                                      refine fx_iconst (x := 3) dL_law_777 rfl (by decide) ?_
                                      obtain ⟨x256, hx256, h⟩ := xLet_el h
                                      refine fx_iadd dL_law_778 rfl hx256 ?_
                                      obtain ⟨hj258, h⟩ := xChk_el h
                                      obtain ⟨x257, hx257, h⟩ := xLet_el h
                                      refine fx_sload dL_law_779 rfl rfl hj258 hx257 ?_
                                      obtain ⟨p259, ep259, h⟩ := xBind_el h
                                      refine gx_callv (as := [.int x251, .int x254, .int x257]) (r := [.int p249.1]) rfl dL_law_780 ca_13_84 rfl me_198 rfl rfl rfl rfl (hModel.1) rfl (fX12_step_ok (d := d) (by omega) hModel ep259) rfl rfl ?_
                                      refine fx_icmp_eq (t := 1390) dL_law_783 rfl rfl (fun hc260 => ?_) (fun hc260 => ?_)
                                      · rw [if_pos hc260] at h
                                        exact fL_1390_ok hd ih h
                                      · rw [if_neg hc260] at h
                                        refine fx_iconst (x := 0) dL_law_786 rfl (by decide) ?_
                                        cases h
                                        exact fx_ireturn dL_law_787 rfl rfl
                                    · rw [if_neg hc239] at h
                                      by_cases hc261 : x6 = (16 : Int32)
                                      · rw [if_pos hc261] at h
                                        refine fx_tabIn (t := 788) dL_law_33 rfl (by rw [hc261]; decide) (by rw [hc261]; decide) (by rw [hc261]; rfl) rfl ?_
                                        refine fx_aload_n dL_law_788 rfl rfl ?_
                                        refine fx_aload_n dL_law_789 rfl rfl ?_
                                        refine fx_iload_n dL_law_790 rfl rfl ?_
                                        refine fx_iconst (x := 1) dL_law_791 rfl (by decide) ?_
                                        obtain ⟨x262, hx262, h⟩ := xLet_el h
                                        refine fx_iadd dL_law_792 rfl hx262 ?_
                                        obtain ⟨hj264, h⟩ := xChk_el h
                                        obtain ⟨x263, hx263, h⟩ := xLet_el h
                                        refine fx_sload dL_law_793 rfl rfl hj264 hx263 ?_
                                        refine fx_aload_n dL_law_794 rfl rfl ?_
                                        refine fx_iload_n dL_law_795 rfl rfl ?_
                                        refine fx_iconst (x := 2) dL_law_796 rfl (by decide) ?_
                                        obtain ⟨x265, hx265, h⟩ := xLet_el h
                                        refine fx_iadd dL_law_797 rfl hx265 ?_
                                        obtain ⟨hj267, h⟩ := xChk_el h
                                        obtain ⟨x266, hx266, h⟩ := xLet_el h
                                        refine fx_sload dL_law_798 rfl rfl hj267 hx266 ?_
                                        refine fx_aload_n dL_law_799 rfl rfl ?_
                                        refine fx_iload_n dL_law_800 rfl rfl ?_
                                        refine fx_iconst (x := 3) dL_law_801 rfl (by decide) ?_
                                        obtain ⟨x268, hx268, h⟩ := xLet_el h
                                        refine fx_iadd dL_law_802 rfl hx268 ?_
                                        obtain ⟨hj270, h⟩ := xChk_el h
                                        obtain ⟨x269, hx269, h⟩ := xLet_el h
                                        refine fx_sload dL_law_803 rfl rfl hj270 hx269 ?_
                                        refine fx_if_eq (t := 811) dL_law_804 rfl rfl (fun hc271 => ?_) (fun hc271 => ?_)
                                        · rw [if_pos hc271] at h
                                          refine fx_iconst (x := 0) dL_law_811 rfl (by decide) ?_
                                          exact fL_812_ok hd ih hMS h
                                        · rw [if_neg hc271] at h
                                          refine fx_iconst (x := 1) dL_law_807 rfl (by decide) ?_
                                          refine fx_goto (t := 812) dL_law_808 rfl rfl ?_
                                          exact fL_812_ok hd ih hMS h
                                      · rw [if_neg hc261] at h
                                        by_cases hc272 : x6 = (17 : Int32)
                                        · rw [if_pos hc272] at h
                                          refine fx_tabIn (t := 847) dL_law_33 rfl (by rw [hc272]; decide) (by rw [hc272]; decide) (by rw [hc272]; rfl) rfl ?_
                                          refine fx_aload_n dL_law_847 rfl rfl ?_
                                          refine fx_aload_n dL_law_848 rfl rfl ?_
                                          refine fx_iload_n dL_law_849 rfl rfl ?_
                                          refine fx_iconst (x := 1) dL_law_850 rfl (by decide) ?_
                                          obtain ⟨x273, hx273, h⟩ := xLet_el h
                                          refine fx_iadd dL_law_851 rfl hx273 ?_
                                          obtain ⟨hj275, h⟩ := xChk_el h
                                          obtain ⟨x274, hx274, h⟩ := xLet_el h
                                          refine fx_sload dL_law_852 rfl rfl hj275 hx274 ?_
                                          obtain ⟨p276, ep276, h⟩ := xBind_el h
                                          refine gx_callv (as := [.int x274]) (r := []) rfl dL_law_853 ca_13_90 rfl me_201 rfl rfl rfl rfl (hMS.1) rfl (fX11_all_ok (d := d) (by omega) hMS ep276) rfl rfl ?_
                                          refine fx_aload_n dL_law_856 rfl rfl ?_
                                          refine fx_aload_n dL_law_857 rfl rfl ?_
                                          refine fx_iload_n dL_law_858 rfl rfl ?_
                                          refine fx_iconst (x := 1) dL_law_859 rfl (by decide) ?_
                                          obtain ⟨x277, hx277, h⟩ := xLet_el h
                                          refine fx_iadd dL_law_860 rfl hx277 ?_
                                          obtain ⟨hj279, h⟩ := xChk_el h
                                          obtain ⟨x278, hx278, h⟩ := xLet_el h
                                          refine fx_sload dL_law_861 rfl rfl hj279 hx278 ?_
                                          obtain ⟨p280, ep280, h⟩ := xBind_el h
                                          refine gx_callv (as := [.int x278]) (r := [.int p276.1]) rfl dL_law_862 ca_13_93 rfl me_202 rfl rfl rfl rfl (hModel.1) rfl (fX12_all_ok (d := d) (by omega) hModel ep280) rfl rfl ?_
                                          refine fx_icmp_eq (t := 1390) dL_law_865 rfl rfl (fun hc281 => ?_) (fun hc281 => ?_)
                                          · rw [if_pos hc281] at h
                                            exact fL_1390_ok hd ih h
                                          · rw [if_neg hc281] at h
                                            refine fx_iconst (x := 0) dL_law_868 rfl (by decide) ?_
                                            cases h
                                            exact fx_ireturn dL_law_869 rfl rfl
                                        · rw [if_neg hc272] at h
                                          by_cases hc282 : x6 = (18 : Int32)
                                          · rw [if_pos hc282] at h
                                            refine fx_tabIn (t := 870) dL_law_33 rfl (by rw [hc282]; decide) (by rw [hc282]; decide) (by rw [hc282]; rfl) rfl ?_
                                            refine fx_aload_n dL_law_870 rfl rfl ?_
                                            refine fx_aload_n dL_law_871 rfl rfl ?_
                                            refine fx_iload_n dL_law_872 rfl rfl ?_
                                            refine fx_iconst (x := 1) dL_law_873 rfl (by decide) ?_
                                            obtain ⟨x283, hx283, h⟩ := xLet_el h
                                            refine fx_iadd dL_law_874 rfl hx283 ?_
                                            obtain ⟨hj285, h⟩ := xChk_el h
                                            obtain ⟨x284, hx284, h⟩ := xLet_el h
                                            refine fx_sload dL_law_875 rfl rfl hj285 hx284 ?_
                                            refine fx_aload_n dL_law_876 rfl rfl ?_
                                            refine fx_iload_n dL_law_877 rfl rfl ?_
                                            refine fx_iconst (x := 2) dL_law_878 rfl (by decide) ?_
                                            obtain ⟨x286, hx286, h⟩ := xLet_el h
                                            refine fx_iadd dL_law_879 rfl hx286 ?_
                                            obtain ⟨hj288, h⟩ := xChk_el h
                                            obtain ⟨x287, hx287, h⟩ := xLet_el h
                                            refine fx_sload dL_law_880 rfl rfl hj288 hx287 ?_
                                            refine fx_aload_n dL_law_881 rfl rfl ?_
                                            refine fx_iload_n dL_law_882 rfl rfl ?_
                                            refine fx_iconst (x := 3) dL_law_883 rfl (by decide) ?_
                                            obtain ⟨x289, hx289, h⟩ := xLet_el h
                                            refine fx_iadd dL_law_884 rfl hx289 ?_
                                            obtain ⟨hj291, h⟩ := xChk_el h
                                            obtain ⟨x290, hx290, h⟩ := xLet_el h
                                            refine fx_sload dL_law_885 rfl rfl hj291 hx290 ?_
                                            obtain ⟨p292, ep292, h⟩ := xBind_el h
                                            refine gx_callv (as := [.int x284, .int x287, .int x290]) (r := []) rfl dL_law_886 ca_13_94 rfl me_203 rfl rfl rfl rfl (hMS.1) rfl (fX11_ways_ok (d := d) (by omega) hMS ep292) rfl rfl ?_
                                            refine fx_aload_n dL_law_889 rfl rfl ?_
                                            refine fx_aload_n dL_law_890 rfl rfl ?_
                                            refine fx_iload_n dL_law_891 rfl rfl ?_
                                            refine fx_iconst (x := 1) dL_law_892 rfl (by decide) ?_
                                            obtain ⟨x293, hx293, h⟩ := xLet_el h
                                            refine fx_iadd dL_law_893 rfl hx293 ?_
                                            obtain ⟨hj295, h⟩ := xChk_el h
                                            obtain ⟨x294, hx294, h⟩ := xLet_el h
                                            refine fx_sload dL_law_894 rfl rfl hj295 hx294 ?_
                                            refine fx_aload_n dL_law_895 rfl rfl ?_
                                            refine fx_iload_n dL_law_896 rfl rfl ?_
                                            refine fx_iconst (x := 2) dL_law_897 rfl (by decide) ?_
                                            obtain ⟨x296, hx296, h⟩ := xLet_el h
                                            refine fx_iadd dL_law_898 rfl hx296 ?_
                                            obtain ⟨hj298, h⟩ := xChk_el h
                                            obtain ⟨x297, hx297, h⟩ := xLet_el h
                                            refine fx_sload dL_law_899 rfl rfl hj298 hx297 ?_
                                            refine fx_aload_n dL_law_900 rfl rfl ?_
                                            refine fx_iload_n dL_law_901 rfl rfl ?_
                                            refine fx_iconst (x := 3) dL_law_902 rfl (by decide) ?_
                                            obtain ⟨x299, hx299, h⟩ := xLet_el h
                                            refine fx_iadd dL_law_903 rfl hx299 ?_
                                            obtain ⟨hj301, h⟩ := xChk_el h
                                            obtain ⟨x300, hx300, h⟩ := xLet_el h
                                            refine fx_sload dL_law_904 rfl rfl hj301 hx300 ?_
                                            obtain ⟨p302, ep302, h⟩ := xBind_el h
                                            refine gx_callv (as := [.int x294, .int x297, .int x300]) (r := [.int p292.1]) rfl dL_law_905 ca_13_97 rfl me_212 rfl rfl rfl rfl (hModel.1) rfl (fX12_ways_ok (d := d) (by omega) hModel ep302) rfl rfl ?_
                                            refine fx_icmp_eq (t := 1390) dL_law_908 rfl rfl (fun hc303 => ?_) (fun hc303 => ?_)
                                            · rw [if_pos hc303] at h
                                              exact fL_1390_ok hd ih h
                                            · rw [if_neg hc303] at h
                                              refine fx_iconst (x := 0) dL_law_911 rfl (by decide) ?_
                                              cases h
                                              exact fx_ireturn dL_law_912 rfl rfl
                                          · rw [if_neg hc282] at h
                                            by_cases hc304 : x6 = (19 : Int32)
                                            · rw [if_pos hc304] at h
                                              refine fx_tabIn (t := 913) dL_law_33 rfl (by rw [hc304]; decide) (by rw [hc304]; decide) (by rw [hc304]; rfl) rfl ?_
                                              refine fx_aload_n dL_law_913 rfl rfl ?_
                                              refine fx_aload_n dL_law_914 rfl rfl ?_
                                              refine fx_iload_n dL_law_915 rfl rfl ?_
                                              refine fx_iconst (x := 1) dL_law_916 rfl (by decide) ?_
                                              obtain ⟨x305, hx305, h⟩ := xLet_el h
                                              refine fx_iadd dL_law_917 rfl hx305 ?_
                                              obtain ⟨hj307, h⟩ := xChk_el h
                                              obtain ⟨x306, hx306, h⟩ := xLet_el h
                                              refine fx_sload dL_law_918 rfl rfl hj307 hx306 ?_
                                              refine fx_aload_n dL_law_919 rfl rfl ?_
                                              refine fx_iload_n dL_law_920 rfl rfl ?_
                                              refine fx_iconst (x := 2) dL_law_921 rfl (by decide) ?_
                                              obtain ⟨x308, hx308, h⟩ := xLet_el h
                                              refine fx_iadd dL_law_922 rfl hx308 ?_
                                              obtain ⟨hj310, h⟩ := xChk_el h
                                              obtain ⟨x309, hx309, h⟩ := xLet_el h
                                              refine fx_sload dL_law_923 rfl rfl hj310 hx309 ?_
                                              refine fx_aload_n dL_law_924 rfl rfl ?_
                                              refine fx_iload_n dL_law_925 rfl rfl ?_
                                              refine fx_iconst (x := 3) dL_law_926 rfl (by decide) ?_
                                              obtain ⟨x311, hx311, h⟩ := xLet_el h
                                              refine fx_iadd dL_law_927 rfl hx311 ?_
                                              obtain ⟨hj313, h⟩ := xChk_el h
                                              obtain ⟨x312, hx312, h⟩ := xLet_el h
                                              refine fx_sload dL_law_928 rfl rfl hj313 hx312 ?_
                                              obtain ⟨p314, ep314, h⟩ := xBind_el h
                                              refine gx_callv (as := [.int x306, .int x309, .int x312]) (r := []) rfl dL_law_929 ca_13_98 rfl me_217 rfl rfl rfl rfl (hMS.1) rfl (fX11_least_ok (d := d) (by omega) hMS ep314) rfl rfl ?_
                                              refine fx_aload_n dL_law_932 rfl rfl ?_
                                              refine fx_aload_n dL_law_933 rfl rfl ?_
                                              refine fx_iload_n dL_law_934 rfl rfl ?_
                                              refine fx_iconst (x := 1) dL_law_935 rfl (by decide) ?_
                                              obtain ⟨x315, hx315, h⟩ := xLet_el h
                                              refine fx_iadd dL_law_936 rfl hx315 ?_
                                              obtain ⟨hj317, h⟩ := xChk_el h
                                              obtain ⟨x316, hx316, h⟩ := xLet_el h
                                              refine fx_sload dL_law_937 rfl rfl hj317 hx316 ?_
                                              refine fx_aload_n dL_law_938 rfl rfl ?_
                                              refine fx_iload_n dL_law_939 rfl rfl ?_
                                              refine fx_iconst (x := 2) dL_law_940 rfl (by decide) ?_
                                              obtain ⟨x318, hx318, h⟩ := xLet_el h
                                              refine fx_iadd dL_law_941 rfl hx318 ?_
                                              obtain ⟨hj320, h⟩ := xChk_el h
                                              obtain ⟨x319, hx319, h⟩ := xLet_el h
                                              refine fx_sload dL_law_942 rfl rfl hj320 hx319 ?_
                                              refine fx_aload_n dL_law_943 rfl rfl ?_
                                              refine fx_iload_n dL_law_944 rfl rfl ?_
                                              refine fx_iconst (x := 3) dL_law_945 rfl (by decide) ?_
                                              obtain ⟨x321, hx321, h⟩ := xLet_el h
                                              refine fx_iadd dL_law_946 rfl hx321 ?_
                                              obtain ⟨hj323, h⟩ := xChk_el h
                                              obtain ⟨x322, hx322, h⟩ := xLet_el h
                                              refine fx_sload dL_law_947 rfl rfl hj323 hx322 ?_
                                              obtain ⟨p324, ep324, h⟩ := xBind_el h
                                              refine gx_callv (as := [.int x316, .int x319, .int x322]) (r := [.int p314.1]) rfl dL_law_948 ca_13_101 rfl me_220 rfl rfl rfl rfl (hModel.1) rfl (fX12_least_ok (d := d) (by omega) hModel ep324) rfl rfl ?_
                                              refine fx_icmp_eq (t := 1390) dL_law_951 rfl rfl (fun hc325 => ?_) (fun hc325 => ?_)
                                              · rw [if_pos hc325] at h
                                                exact fL_1390_ok hd ih h
                                              · rw [if_neg hc325] at h
                                                refine fx_iconst (x := 0) dL_law_954 rfl (by decide) ?_
                                                cases h
                                                exact fx_ireturn dL_law_955 rfl rfl
                                            · rw [if_neg hc304] at h
                                              by_cases hc326 : x6 = (20 : Int32)
                                              · rw [if_pos hc326] at h
                                                refine fx_tabIn (t := 956) dL_law_33 rfl (by rw [hc326]; decide) (by rw [hc326]; decide) (by rw [hc326]; rfl) rfl ?_
                                                refine fx_aload_n dL_law_956 rfl rfl ?_
                                                refine fx_aload_n dL_law_957 rfl rfl ?_
                                                refine fx_iload_n dL_law_958 rfl rfl ?_
                                                refine fx_iconst (x := 1) dL_law_959 rfl (by decide) ?_
                                                obtain ⟨x327, hx327, h⟩ := xLet_el h
                                                refine fx_iadd dL_law_960 rfl hx327 ?_
                                                obtain ⟨hj329, h⟩ := xChk_el h
                                                obtain ⟨x328, hx328, h⟩ := xLet_el h
                                                refine fx_sload dL_law_961 rfl rfl hj329 hx328 ?_
                                                refine fx_aload_n dL_law_962 rfl rfl ?_
                                                refine fx_iload_n dL_law_963 rfl rfl ?_
                                                refine fx_iconst (x := 2) dL_law_964 rfl (by decide) ?_
                                                obtain ⟨x330, hx330, h⟩ := xLet_el h
                                                refine fx_iadd dL_law_965 rfl hx330 ?_
                                                obtain ⟨hj332, h⟩ := xChk_el h
                                                obtain ⟨x331, hx331, h⟩ := xLet_el h
                                                refine fx_sload dL_law_966 rfl rfl hj332 hx331 ?_
                                                obtain ⟨p333, ep333, h⟩ := xBind_el h
                                                refine gx_callv (as := [.int x328, .int x331]) (r := []) rfl dL_law_967 ca_13_102 rfl me_221 rfl rfl rfl rfl (hMS.1) rfl (fX11_felt_ok (d := d) (by omega) hMS ep333) rfl rfl ?_
                                                refine fx_aload_n dL_law_970 rfl rfl ?_
                                                refine fx_aload_n dL_law_971 rfl rfl ?_
                                                refine fx_iload_n dL_law_972 rfl rfl ?_
                                                refine fx_iconst (x := 1) dL_law_973 rfl (by decide) ?_
                                                obtain ⟨x334, hx334, h⟩ := xLet_el h
                                                refine fx_iadd dL_law_974 rfl hx334 ?_
                                                obtain ⟨hj336, h⟩ := xChk_el h
                                                obtain ⟨x335, hx335, h⟩ := xLet_el h
                                                refine fx_sload dL_law_975 rfl rfl hj336 hx335 ?_
                                                refine fx_aload_n dL_law_976 rfl rfl ?_
                                                refine fx_iload_n dL_law_977 rfl rfl ?_
                                                refine fx_iconst (x := 2) dL_law_978 rfl (by decide) ?_
                                                obtain ⟨x337, hx337, h⟩ := xLet_el h
                                                refine fx_iadd dL_law_979 rfl hx337 ?_
                                                obtain ⟨hj339, h⟩ := xChk_el h
                                                obtain ⟨x338, hx338, h⟩ := xLet_el h
                                                refine fx_sload dL_law_980 rfl rfl hj339 hx338 ?_
                                                obtain ⟨p340, ep340, h⟩ := xBind_el h
                                                refine gx_callv (as := [.int x335, .int x338]) (r := [.int p333.1]) rfl dL_law_981 ca_13_105 rfl me_222 rfl rfl rfl rfl (hModel.1) rfl (fX12_felt_ok (d := d) (by omega) hModel ep340) rfl rfl ?_
                                                refine fx_icmp_eq (t := 1390) dL_law_984 rfl rfl (fun hc341 => ?_) (fun hc341 => ?_)
                                                · rw [if_pos hc341] at h
                                                  exact fL_1390_ok hd ih h
                                                · rw [if_neg hc341] at h
                                                  refine fx_iconst (x := 0) dL_law_987 rfl (by decide) ?_
                                                  cases h
                                                  exact fx_ireturn dL_law_988 rfl rfl
                                              · rw [if_neg hc326] at h
                                                by_cases hc342 : x6 = (21 : Int32)
                                                · rw [if_pos hc342] at h
                                                  refine fx_tabIn (t := 989) dL_law_33 rfl (by rw [hc342]; decide) (by rw [hc342]; decide) (by rw [hc342]; rfl) rfl ?_
                                                  refine fx_aload_n dL_law_989 rfl rfl ?_
                                                  refine fx_aload_n dL_law_990 rfl rfl ?_
                                                  refine fx_iload_n dL_law_991 rfl rfl ?_
                                                  refine fx_iconst (x := 1) dL_law_992 rfl (by decide) ?_
                                                  obtain ⟨x343, hx343, h⟩ := xLet_el h
                                                  refine fx_iadd dL_law_993 rfl hx343 ?_
                                                  obtain ⟨hj345, h⟩ := xChk_el h
                                                  obtain ⟨x344, hx344, h⟩ := xLet_el h
                                                  refine fx_sload dL_law_994 rfl rfl hj345 hx344 ?_
                                                  refine fx_aload_n dL_law_995 rfl rfl ?_
                                                  refine fx_iload_n dL_law_996 rfl rfl ?_
                                                  refine fx_iconst (x := 2) dL_law_997 rfl (by decide) ?_
                                                  obtain ⟨x346, hx346, h⟩ := xLet_el h
                                                  refine fx_iadd dL_law_998 rfl hx346 ?_
                                                  obtain ⟨hj348, h⟩ := xChk_el h
                                                  obtain ⟨x347, hx347, h⟩ := xLet_el h
                                                  refine fx_sload dL_law_999 rfl rfl hj348 hx347 ?_
                                                  obtain ⟨p349, ep349, h⟩ := xBind_el h
                                                  refine gx_callv (as := [.int x344, .int x347]) (r := []) rfl dL_law_1000 ca_13_106 rfl me_224 rfl rfl rfl rfl (hMS.1) rfl (fX11_standing_ok (d := d) (by omega) hMS ep349) rfl rfl ?_
                                                  refine fx_aload_n dL_law_1003 rfl rfl ?_
                                                  refine fx_aload_n dL_law_1004 rfl rfl ?_
                                                  refine fx_iload_n dL_law_1005 rfl rfl ?_
                                                  refine fx_iconst (x := 1) dL_law_1006 rfl (by decide) ?_
                                                  obtain ⟨x350, hx350, h⟩ := xLet_el h
                                                  refine fx_iadd dL_law_1007 rfl hx350 ?_
                                                  obtain ⟨hj352, h⟩ := xChk_el h
                                                  obtain ⟨x351, hx351, h⟩ := xLet_el h
                                                  refine fx_sload dL_law_1008 rfl rfl hj352 hx351 ?_
                                                  refine fx_aload_n dL_law_1009 rfl rfl ?_
                                                  refine fx_iload_n dL_law_1010 rfl rfl ?_
                                                  refine fx_iconst (x := 2) dL_law_1011 rfl (by decide) ?_
                                                  obtain ⟨x353, hx353, h⟩ := xLet_el h
                                                  refine fx_iadd dL_law_1012 rfl hx353 ?_
                                                  obtain ⟨hj355, h⟩ := xChk_el h
                                                  obtain ⟨x354, hx354, h⟩ := xLet_el h
                                                  refine fx_sload dL_law_1013 rfl rfl hj355 hx354 ?_
                                                  obtain ⟨p356, ep356, h⟩ := xBind_el h
                                                  refine gx_callv (as := [.int x351, .int x354]) (r := [.int p349.1]) rfl dL_law_1014 ca_13_109 rfl me_226 rfl rfl rfl rfl (hModel.1) rfl (fX12_standing_ok (d := d) (by omega) hModel ep356) rfl rfl ?_
                                                  refine fx_icmp_eq (t := 1390) dL_law_1017 rfl rfl (fun hc357 => ?_) (fun hc357 => ?_)
                                                  · rw [if_pos hc357] at h
                                                    exact fL_1390_ok hd ih h
                                                  · rw [if_neg hc357] at h
                                                    refine fx_iconst (x := 0) dL_law_1020 rfl (by decide) ?_
                                                    cases h
                                                    exact fx_ireturn dL_law_1021 rfl rfl
                                                · rw [if_neg hc342] at h
                                                  by_cases hc358 : x6 = (22 : Int32)
                                                  · rw [if_pos hc358] at h
                                                    refine fx_tabIn (t := 1022) dL_law_33 rfl (by rw [hc358]; decide) (by rw [hc358]; decide) (by rw [hc358]; rfl) rfl ?_
                                                    refine fx_aload_n dL_law_1022 rfl rfl ?_
                                                    refine fx_aload_n dL_law_1023 rfl rfl ?_
                                                    refine fx_iload_n dL_law_1024 rfl rfl ?_
                                                    refine fx_iconst (x := 1) dL_law_1025 rfl (by decide) ?_
                                                    obtain ⟨x359, hx359, h⟩ := xLet_el h
                                                    refine fx_iadd dL_law_1026 rfl hx359 ?_
                                                    obtain ⟨hj361, h⟩ := xChk_el h
                                                    obtain ⟨x360, hx360, h⟩ := xLet_el h
                                                    refine fx_sload dL_law_1027 rfl rfl hj361 hx360 ?_
                                                    refine fx_aload_n dL_law_1028 rfl rfl ?_
                                                    refine fx_iload_n dL_law_1029 rfl rfl ?_
                                                    refine fx_iconst (x := 2) dL_law_1030 rfl (by decide) ?_
                                                    obtain ⟨x362, hx362, h⟩ := xLet_el h
                                                    refine fx_iadd dL_law_1031 rfl hx362 ?_
                                                    obtain ⟨hj364, h⟩ := xChk_el h
                                                    obtain ⟨x363, hx363, h⟩ := xLet_el h
                                                    refine fx_sload dL_law_1032 rfl rfl hj364 hx363 ?_
                                                    refine fx_aload_n dL_law_1033 rfl rfl ?_
                                                    refine fx_iload_n dL_law_1034 rfl rfl ?_
                                                    refine fx_iconst (x := 3) dL_law_1035 rfl (by decide) ?_
                                                    obtain ⟨x365, hx365, h⟩ := xLet_el h
                                                    refine fx_iadd dL_law_1036 rfl hx365 ?_
                                                    obtain ⟨hj367, h⟩ := xChk_el h
                                                    obtain ⟨x366, hx366, h⟩ := xLet_el h
                                                    refine fx_sload dL_law_1037 rfl rfl hj367 hx366 ?_
                                                    refine fx_aload_n dL_law_1038 rfl rfl ?_
                                                    refine fx_iload_n dL_law_1039 rfl rfl ?_
                                                    refine fx_iconst (x := 4) dL_law_1040 rfl (by decide) ?_
                                                    obtain ⟨x368, hx368, h⟩ := xLet_el h
                                                    refine fx_iadd dL_law_1041 rfl hx368 ?_
                                                    obtain ⟨hj370, h⟩ := xChk_el h
                                                    obtain ⟨x369, hx369, h⟩ := xLet_el h
                                                    refine fx_sload dL_law_1042 rfl rfl hj370 hx369 ?_
                                                    obtain ⟨p371, ep371, h⟩ := xBind_el h
                                                    refine gx_callv (as := [.int x360, .int x363, .int x366, .int x369]) (r := []) rfl dL_law_1043 ca_13_110 rfl me_227 rfl rfl rfl rfl (hMS.1) rfl (fX11_alone_ok (d := d) (by omega) hMS ep371) rfl rfl ?_
                                                    refine fx_aload_n dL_law_1046 rfl rfl ?_
                                                    refine fx_aload_n dL_law_1047 rfl rfl ?_
                                                    refine fx_iload_n dL_law_1048 rfl rfl ?_
                                                    refine fx_iconst (x := 1) dL_law_1049 rfl (by decide) ?_
                                                    obtain ⟨x372, hx372, h⟩ := xLet_el h
                                                    refine fx_iadd dL_law_1050 rfl hx372 ?_
                                                    obtain ⟨hj374, h⟩ := xChk_el h
                                                    obtain ⟨x373, hx373, h⟩ := xLet_el h
                                                    refine fx_sload dL_law_1051 rfl rfl hj374 hx373 ?_
                                                    refine fx_aload_n dL_law_1052 rfl rfl ?_
                                                    refine fx_iload_n dL_law_1053 rfl rfl ?_
                                                    refine fx_iconst (x := 2) dL_law_1054 rfl (by decide) ?_
                                                    obtain ⟨x375, hx375, h⟩ := xLet_el h
                                                    refine fx_iadd dL_law_1055 rfl hx375 ?_
                                                    obtain ⟨hj377, h⟩ := xChk_el h
                                                    obtain ⟨x376, hx376, h⟩ := xLet_el h
                                                    refine fx_sload dL_law_1056 rfl rfl hj377 hx376 ?_
                                                    refine fx_aload_n dL_law_1057 rfl rfl ?_
                                                    refine fx_iload_n dL_law_1058 rfl rfl ?_
                                                    refine fx_iconst (x := 3) dL_law_1059 rfl (by decide) ?_
                                                    obtain ⟨x378, hx378, h⟩ := xLet_el h
                                                    refine fx_iadd dL_law_1060 rfl hx378 ?_
                                                    obtain ⟨hj380, h⟩ := xChk_el h
                                                    obtain ⟨x379, hx379, h⟩ := xLet_el h
                                                    refine fx_sload dL_law_1061 rfl rfl hj380 hx379 ?_
                                                    refine fx_aload_n dL_law_1062 rfl rfl ?_
                                                    refine fx_iload_n dL_law_1063 rfl rfl ?_
                                                    refine fx_iconst (x := 4) dL_law_1064 rfl (by decide) ?_
                                                    obtain ⟨x381, hx381, h⟩ := xLet_el h
                                                    refine fx_iadd dL_law_1065 rfl hx381 ?_
                                                    obtain ⟨hj383, h⟩ := xChk_el h
                                                    obtain ⟨x382, hx382, h⟩ := xLet_el h
                                                    refine fx_sload dL_law_1066 rfl rfl hj383 hx382 ?_
                                                    obtain ⟨p384, ep384, h⟩ := xBind_el h
                                                    refine gx_callv (as := [.int x373, .int x376, .int x379, .int x382]) (r := [.int p371.1]) rfl dL_law_1067 ca_13_114 rfl me_231 rfl rfl rfl rfl (hModel.1) rfl (fX12_alone_ok (d := d) (by omega) hModel ep384) rfl rfl ?_
                                                    refine fx_icmp_eq (t := 1390) dL_law_1070 rfl rfl (fun hc385 => ?_) (fun hc385 => ?_)
                                                    · rw [if_pos hc385] at h
                                                      exact fL_1390_ok hd ih h
                                                    · rw [if_neg hc385] at h
                                                      refine fx_iconst (x := 0) dL_law_1073 rfl (by decide) ?_
                                                      cases h
                                                      exact fx_ireturn dL_law_1074 rfl rfl
                                                  · rw [if_neg hc358] at h
                                                    by_cases hc386 : x6 = (23 : Int32)
                                                    · rw [if_pos hc386] at h
                                                      refine fx_tabIn (t := 1075) dL_law_33 rfl (by rw [hc386]; decide) (by rw [hc386]; decide) (by rw [hc386]; rfl) rfl ?_
                                                      refine fx_aload_n dL_law_1075 rfl rfl ?_
                                                      refine fx_aload_n dL_law_1076 rfl rfl ?_
                                                      refine fx_iload_n dL_law_1077 rfl rfl ?_
                                                      refine fx_iconst (x := 1) dL_law_1078 rfl (by decide) ?_
                                                      obtain ⟨x387, hx387, h⟩ := xLet_el h
                                                      refine fx_iadd dL_law_1079 rfl hx387 ?_
                                                      obtain ⟨hj389, h⟩ := xChk_el h
                                                      obtain ⟨x388, hx388, h⟩ := xLet_el h
                                                      refine fx_sload dL_law_1080 rfl rfl hj389 hx388 ?_
                                                      refine fx_aload_n dL_law_1081 rfl rfl ?_
                                                      refine fx_iload_n dL_law_1082 rfl rfl ?_
                                                      refine fx_iconst (x := 2) dL_law_1083 rfl (by decide) ?_
                                                      obtain ⟨x390, hx390, h⟩ := xLet_el h
                                                      refine fx_iadd dL_law_1084 rfl hx390 ?_
                                                      obtain ⟨hj392, h⟩ := xChk_el h
                                                      obtain ⟨x391, hx391, h⟩ := xLet_el h
                                                      refine fx_sload dL_law_1085 rfl rfl hj392 hx391 ?_
                                                      obtain ⟨p393, ep393, h⟩ := xBind_el h
                                                      refine gx_callv (as := [.int x388, .int x391]) (r := []) rfl dL_law_1086 ca_13_115 rfl me_234 rfl rfl rfl rfl (hMS.1) rfl (fX11_crossing_ok (d := d) (by omega) hMS ep393) rfl rfl ?_
                                                      refine fx_aload_n dL_law_1089 rfl rfl ?_
                                                      refine fx_aload_n dL_law_1090 rfl rfl ?_
                                                      refine fx_iload_n dL_law_1091 rfl rfl ?_
                                                      refine fx_iconst (x := 1) dL_law_1092 rfl (by decide) ?_
                                                      obtain ⟨x394, hx394, h⟩ := xLet_el h
                                                      refine fx_iadd dL_law_1093 rfl hx394 ?_
                                                      obtain ⟨hj396, h⟩ := xChk_el h
                                                      obtain ⟨x395, hx395, h⟩ := xLet_el h
                                                      refine fx_sload dL_law_1094 rfl rfl hj396 hx395 ?_
                                                      refine fx_aload_n dL_law_1095 rfl rfl ?_
                                                      refine fx_iload_n dL_law_1096 rfl rfl ?_
                                                      refine fx_iconst (x := 2) dL_law_1097 rfl (by decide) ?_
                                                      obtain ⟨x397, hx397, h⟩ := xLet_el h
                                                      refine fx_iadd dL_law_1098 rfl hx397 ?_
                                                      obtain ⟨hj399, h⟩ := xChk_el h
                                                      obtain ⟨x398, hx398, h⟩ := xLet_el h
                                                      refine fx_sload dL_law_1099 rfl rfl hj399 hx398 ?_
                                                      obtain ⟨p400, ep400, h⟩ := xBind_el h
                                                      refine gx_callv (as := [.int x395, .int x398]) (r := [.int p393.1]) rfl dL_law_1100 ca_13_118 rfl me_235 rfl rfl rfl rfl (hModel.1) rfl (fX12_crossing_ok (d := d) (by omega) hModel ep400) rfl rfl ?_
                                                      refine fx_icmp_eq (t := 1390) dL_law_1103 rfl rfl (fun hc401 => ?_) (fun hc401 => ?_)
                                                      · rw [if_pos hc401] at h
                                                        exact fL_1390_ok hd ih h
                                                      · rw [if_neg hc401] at h
                                                        refine fx_iconst (x := 0) dL_law_1106 rfl (by decide) ?_
                                                        cases h
                                                        exact fx_ireturn dL_law_1107 rfl rfl
                                                    · rw [if_neg hc386] at h
                                                      by_cases hc402 : x6 = (24 : Int32)
                                                      · rw [if_pos hc402] at h
                                                        refine fx_tabIn (t := 1108) dL_law_33 rfl (by rw [hc402]; decide) (by rw [hc402]; decide) (by rw [hc402]; rfl) rfl ?_
                                                        refine fx_aload_n dL_law_1108 rfl rfl ?_
                                                        refine fx_aload_n dL_law_1109 rfl rfl ?_
                                                        refine fx_iload_n dL_law_1110 rfl rfl ?_
                                                        refine fx_iconst (x := 1) dL_law_1111 rfl (by decide) ?_
                                                        obtain ⟨x403, hx403, h⟩ := xLet_el h
                                                        refine fx_iadd dL_law_1112 rfl hx403 ?_
                                                        obtain ⟨hj405, h⟩ := xChk_el h
                                                        obtain ⟨x404, hx404, h⟩ := xLet_el h
                                                        refine fx_sload dL_law_1113 rfl rfl hj405 hx404 ?_
                                                        refine fx_if_eq (t := 1121) dL_law_1114 rfl rfl (fun hc406 => ?_) (fun hc406 => ?_)
                                                        · rw [if_pos hc406] at h
                                                          refine fx_iconst (x := 0) dL_law_1121 rfl (by decide) ?_
                                                          exact fL_1122_ok hd ih hMS h
                                                        · rw [if_neg hc406] at h
                                                          refine fx_iconst (x := 1) dL_law_1117 rfl (by decide) ?_
                                                          refine fx_goto (t := 1122) dL_law_1118 rfl rfl ?_
                                                          exact fL_1122_ok hd ih hMS h
                                                      · rw [if_neg hc402] at h
                                                        by_cases hc407 : x6 = (25 : Int32)
                                                        · rw [if_pos hc407] at h
                                                          refine fx_tabIn (t := 1167) dL_law_33 rfl (by rw [hc407]; decide) (by rw [hc407]; decide) (by rw [hc407]; rfl) rfl ?_
                                                          refine fx_aload_n dL_law_1167 rfl rfl ?_
                                                          obtain ⟨p408, ep408, h⟩ := xBind_el h
                                                          refine gx_callv (as := []) (r := []) rfl dL_law_1168 ca_13_124 rfl me_239 rfl rfl rfl rfl (hMS.1) rfl (fX11_effect_ok (d := d) (by omega) hMS ep408) rfl rfl ?_
                                                          refine fx_aload_n dL_law_1171 rfl rfl ?_
                                                          obtain ⟨p409, ep409, h⟩ := xBind_el h
                                                          refine gx_callv (as := []) (r := [.int p408.1]) rfl dL_law_1172 ca_13_127 rfl me_241 rfl rfl rfl rfl (hModel.1) rfl (fX12_effect_ok (d := d) (by omega) hModel ep409) rfl rfl ?_
                                                          refine fx_icmp_eq (t := 1390) dL_law_1175 rfl rfl (fun hc410 => ?_) (fun hc410 => ?_)
                                                          · rw [if_pos hc410] at h
                                                            exact fL_1390_ok hd ih h
                                                          · rw [if_neg hc410] at h
                                                            refine fx_iconst (x := 0) dL_law_1178 rfl (by decide) ?_
                                                            cases h
                                                            exact fx_ireturn dL_law_1179 rfl rfl
                                                        · rw [if_neg hc407] at h
                                                          by_cases hc411 : x6 = (26 : Int32)
                                                          · rw [if_pos hc411] at h
                                                            refine fx_tabIn (t := 1180) dL_law_33 rfl (by rw [hc411]; decide) (by rw [hc411]; decide) (by rw [hc411]; rfl) rfl ?_
                                                            refine fx_aload_n dL_law_1180 rfl rfl ?_
                                                            refine fx_aload_n dL_law_1181 rfl rfl ?_
                                                            refine fx_iload_n dL_law_1182 rfl rfl ?_
                                                            refine fx_iconst (x := 1) dL_law_1183 rfl (by decide) ?_
                                                            obtain ⟨x412, hx412, h⟩ := xLet_el h
                                                            refine fx_iadd dL_law_1184 rfl hx412 ?_
                                                            obtain ⟨hj414, h⟩ := xChk_el h
                                                            obtain ⟨x413, hx413, h⟩ := xLet_el h
                                                            refine fx_sload dL_law_1185 rfl rfl hj414 hx413 ?_
                                                            refine fx_aload_n dL_law_1186 rfl rfl ?_
                                                            refine fx_iload_n dL_law_1187 rfl rfl ?_
                                                            refine fx_iconst (x := 2) dL_law_1188 rfl (by decide) ?_
                                                            obtain ⟨x415, hx415, h⟩ := xLet_el h
                                                            refine fx_iadd dL_law_1189 rfl hx415 ?_
                                                            obtain ⟨hj417, h⟩ := xChk_el h
                                                            obtain ⟨x416, hx416, h⟩ := xLet_el h
                                                            refine fx_sload dL_law_1190 rfl rfl hj417 hx416 ?_
                                                            refine fx_aload_n dL_law_1191 rfl rfl ?_
                                                            refine fx_iload_n dL_law_1192 rfl rfl ?_
                                                            refine fx_iconst (x := 3) dL_law_1193 rfl (by decide) ?_
                                                            obtain ⟨x418, hx418, h⟩ := xLet_el h
                                                            refine fx_iadd dL_law_1194 rfl hx418 ?_
                                                            obtain ⟨hj420, h⟩ := xChk_el h
                                                            obtain ⟨x419, hx419, h⟩ := xLet_el h
                                                            refine fx_sload dL_law_1195 rfl rfl hj420 hx419 ?_
                                                            refine fx_aload_n dL_law_1196 rfl rfl ?_
                                                            refine fx_iload_n dL_law_1197 rfl rfl ?_
                                                            refine fx_iconst (x := 4) dL_law_1198 rfl (by decide) ?_
                                                            obtain ⟨x421, hx421, h⟩ := xLet_el h
                                                            refine fx_iadd dL_law_1199 rfl hx421 ?_
                                                            obtain ⟨hj423, h⟩ := xChk_el h
                                                            obtain ⟨x422, hx422, h⟩ := xLet_el h
                                                            refine fx_sload dL_law_1200 rfl rfl hj423 hx422 ?_
                                                            obtain ⟨p424, ep424, h⟩ := xBind_el h
                                                            refine gx_callv (as := [.int x413, .int x416, .int x419, .int x422]) (r := []) rfl dL_law_1201 ca_13_128 rfl me_243 rfl rfl rfl rfl (hMS.1) rfl (fX11_mend_ok (d := d) (by omega) hMS ep424) rfl rfl ?_
                                                            refine fx_aload_n dL_law_1204 rfl rfl ?_
                                                            refine fx_aload_n dL_law_1205 rfl rfl ?_
                                                            refine fx_iload_n dL_law_1206 rfl rfl ?_
                                                            refine fx_iconst (x := 1) dL_law_1207 rfl (by decide) ?_
                                                            obtain ⟨x425, hx425, h⟩ := xLet_el h
                                                            refine fx_iadd dL_law_1208 rfl hx425 ?_
                                                            obtain ⟨hj427, h⟩ := xChk_el h
                                                            obtain ⟨x426, hx426, h⟩ := xLet_el h
                                                            refine fx_sload dL_law_1209 rfl rfl hj427 hx426 ?_
                                                            refine fx_aload_n dL_law_1210 rfl rfl ?_
                                                            refine fx_iload_n dL_law_1211 rfl rfl ?_
                                                            refine fx_iconst (x := 2) dL_law_1212 rfl (by decide) ?_
                                                            obtain ⟨x428, hx428, h⟩ := xLet_el h
                                                            refine fx_iadd dL_law_1213 rfl hx428 ?_
                                                            obtain ⟨hj430, h⟩ := xChk_el h
                                                            obtain ⟨x429, hx429, h⟩ := xLet_el h
                                                            refine fx_sload dL_law_1214 rfl rfl hj430 hx429 ?_
                                                            refine fx_aload_n dL_law_1215 rfl rfl ?_
                                                            refine fx_iload_n dL_law_1216 rfl rfl ?_
                                                            refine fx_iconst (x := 3) dL_law_1217 rfl (by decide) ?_
                                                            obtain ⟨x431, hx431, h⟩ := xLet_el h
                                                            refine fx_iadd dL_law_1218 rfl hx431 ?_
                                                            obtain ⟨hj433, h⟩ := xChk_el h
                                                            obtain ⟨x432, hx432, h⟩ := xLet_el h
                                                            refine fx_sload dL_law_1219 rfl rfl hj433 hx432 ?_
                                                            refine fx_aload_n dL_law_1220 rfl rfl ?_
                                                            refine fx_iload_n dL_law_1221 rfl rfl ?_
                                                            refine fx_iconst (x := 4) dL_law_1222 rfl (by decide) ?_
                                                            obtain ⟨x434, hx434, h⟩ := xLet_el h
                                                            refine fx_iadd dL_law_1223 rfl hx434 ?_
                                                            obtain ⟨hj436, h⟩ := xChk_el h
                                                            obtain ⟨x435, hx435, h⟩ := xLet_el h
                                                            refine fx_sload dL_law_1224 rfl rfl hj436 hx435 ?_
                                                            obtain ⟨p437, ep437, h⟩ := xBind_el h
                                                            refine gx_callv (as := [.int x426, .int x429, .int x432, .int x435]) (r := [.int p424.1]) rfl dL_law_1225 ca_13_131 rfl me_245 rfl rfl rfl rfl (hModel.1) rfl (fX12_mend_ok (d := d) (by omega) hModel ep437) rfl rfl ?_
                                                            refine fx_icmp_eq (t := 1390) dL_law_1228 rfl rfl (fun hc438 => ?_) (fun hc438 => ?_)
                                                            · rw [if_pos hc438] at h
                                                              exact fL_1390_ok hd ih h
                                                            · rw [if_neg hc438] at h
                                                              refine fx_iconst (x := 0) dL_law_1231 rfl (by decide) ?_
                                                              cases h
                                                              exact fx_ireturn dL_law_1232 rfl rfl
                                                          · rw [if_neg hc411] at h
                                                            by_cases hc439 : x6 = (27 : Int32)
                                                            · rw [if_pos hc439] at h
                                                              refine fx_tabIn (t := 1233) dL_law_33 rfl (by rw [hc439]; decide) (by rw [hc439]; decide) (by rw [hc439]; rfl) rfl ?_
                                                              refine fx_aload_n dL_law_1233 rfl rfl ?_
                                                              refine fx_aload_n dL_law_1234 rfl rfl ?_
                                                              refine fx_iload_n dL_law_1235 rfl rfl ?_
                                                              refine fx_iconst (x := 1) dL_law_1236 rfl (by decide) ?_
                                                              obtain ⟨x440, hx440, h⟩ := xLet_el h
                                                              refine fx_iadd dL_law_1237 rfl hx440 ?_
                                                              obtain ⟨hj442, h⟩ := xChk_el h
                                                              obtain ⟨x441, hx441, h⟩ := xLet_el h
                                                              refine fx_sload dL_law_1238 rfl rfl hj442 hx441 ?_
                                                              obtain ⟨p443, ep443, h⟩ := xBind_el h
                                                              refine gx_callv (as := [.int x441]) (r := []) rfl dL_law_1239 ca_13_132 rfl me_246 rfl rfl rfl rfl (hMS.1) rfl (fX11_order_ok (d := d) (by omega) hMS ep443) rfl rfl ?_
                                                              refine fx_aload_n dL_law_1242 rfl rfl ?_
                                                              refine fx_aload_n dL_law_1243 rfl rfl ?_
                                                              refine fx_iload_n dL_law_1244 rfl rfl ?_
                                                              refine fx_iconst (x := 1) dL_law_1245 rfl (by decide) ?_
                                                              obtain ⟨x444, hx444, h⟩ := xLet_el h
                                                              refine fx_iadd dL_law_1246 rfl hx444 ?_
                                                              obtain ⟨hj446, h⟩ := xChk_el h
                                                              obtain ⟨x445, hx445, h⟩ := xLet_el h
                                                              refine fx_sload dL_law_1247 rfl rfl hj446 hx445 ?_
                                                              obtain ⟨p447, ep447, h⟩ := xBind_el h
                                                              refine gx_callv (as := [.int x445]) (r := [.int p443.1]) rfl dL_law_1248 ca_13_135 rfl me_251 rfl rfl rfl rfl (hModel.1) rfl (fX12_order_ok (d := d) (by omega) hModel ep447) rfl rfl ?_
                                                              refine fx_icmp_eq (t := 1390) dL_law_1251 rfl rfl (fun hc448 => ?_) (fun hc448 => ?_)
                                                              · rw [if_pos hc448] at h
                                                                exact fL_1390_ok hd ih h
                                                              · rw [if_neg hc448] at h
                                                                refine fx_iconst (x := 0) dL_law_1254 rfl (by decide) ?_
                                                                cases h
                                                                exact fx_ireturn dL_law_1255 rfl rfl
                                                            · rw [if_neg hc439] at h
                                                              by_cases hc449 : x6 = (28 : Int32)
                                                              · rw [if_pos hc449] at h
                                                                refine fx_tabIn (t := 1256) dL_law_33 rfl (by rw [hc449]; decide) (by rw [hc449]; decide) (by rw [hc449]; rfl) rfl ?_
                                                                refine fx_aload_n dL_law_1256 rfl rfl ?_
                                                                refine fx_aload_n dL_law_1257 rfl rfl ?_
                                                                refine fx_iload_n dL_law_1258 rfl rfl ?_
                                                                refine fx_iconst (x := 1) dL_law_1259 rfl (by decide) ?_
                                                                obtain ⟨x450, hx450, h⟩ := xLet_el h
                                                                refine fx_iadd dL_law_1260 rfl hx450 ?_
                                                                obtain ⟨hj452, h⟩ := xChk_el h
                                                                obtain ⟨x451, hx451, h⟩ := xLet_el h
                                                                refine fx_sload dL_law_1261 rfl rfl hj452 hx451 ?_
                                                                obtain ⟨p453, ep453, h⟩ := xBind_el h
                                                                refine gx_callv (as := [.int x451]) (r := []) rfl dL_law_1262 ca_13_136 rfl me_254 rfl rfl rfl rfl (hMS.1) rfl (fX11_load_ok (d := d) (by omega) hMS ep453) rfl rfl ?_
                                                                refine fx_aload_n dL_law_1265 rfl rfl ?_
                                                                refine fx_aload_n dL_law_1266 rfl rfl ?_
                                                                refine fx_iload_n dL_law_1267 rfl rfl ?_
                                                                refine fx_iconst (x := 1) dL_law_1268 rfl (by decide) ?_
                                                                obtain ⟨x454, hx454, h⟩ := xLet_el h
                                                                refine fx_iadd dL_law_1269 rfl hx454 ?_
                                                                obtain ⟨hj456, h⟩ := xChk_el h
                                                                obtain ⟨x455, hx455, h⟩ := xLet_el h
                                                                refine fx_sload dL_law_1270 rfl rfl hj456 hx455 ?_
                                                                obtain ⟨p457, ep457, h⟩ := xBind_el h
                                                                refine gx_callv (as := [.int x455]) (r := [.int p453.1]) rfl dL_law_1271 ca_13_139 rfl me_256 rfl rfl rfl rfl (hModel.1) rfl (fX12_load_ok (d := d) (by omega) hModel ep457) rfl rfl ?_
                                                                refine fx_icmp_eq (t := 1390) dL_law_1274 rfl rfl (fun hc458 => ?_) (fun hc458 => ?_)
                                                                · rw [if_pos hc458] at h
                                                                  exact fL_1390_ok hd ih h
                                                                · rw [if_neg hc458] at h
                                                                  refine fx_iconst (x := 0) dL_law_1277 rfl (by decide) ?_
                                                                  cases h
                                                                  exact fx_ireturn dL_law_1278 rfl rfl
                                                              · rw [if_neg hc449] at h
                                                                by_cases hc459 : x6 = (29 : Int32)
                                                                · rw [if_pos hc459] at h
                                                                  refine fx_tabIn (t := 1279) dL_law_33 rfl (by rw [hc459]; decide) (by rw [hc459]; decide) (by rw [hc459]; rfl) rfl ?_
                                                                  refine fx_aload_n dL_law_1279 rfl rfl ?_
                                                                  obtain ⟨p460, ep460, h⟩ := xBind_el h
                                                                  refine gx_callv (as := []) (r := []) rfl dL_law_1280 ca_13_140 rfl me_257 rfl rfl rfl rfl (hMS.1) rfl (fX11_unload_ok (d := d) (by omega) hMS ep460) rfl rfl ?_
                                                                  refine fx_aload_n dL_law_1283 rfl rfl ?_
                                                                  obtain ⟨p461, ep461, h⟩ := xBind_el h
                                                                  refine gx_callv (as := []) (r := [.int p460.1]) rfl dL_law_1284 ca_13_143 rfl me_258 rfl rfl rfl rfl (hModel.1) rfl (fX12_unload_ok (d := d) (by omega) hModel ep461) rfl rfl ?_
                                                                  refine fx_icmp_eq (t := 1390) dL_law_1287 rfl rfl (fun hc462 => ?_) (fun hc462 => ?_)
                                                                  · rw [if_pos hc462] at h
                                                                    exact fL_1390_ok hd ih h
                                                                  · rw [if_neg hc462] at h
                                                                    refine fx_iconst (x := 0) dL_law_1290 rfl (by decide) ?_
                                                                    cases h
                                                                    exact fx_ireturn dL_law_1291 rfl rfl
                                                                · rw [if_neg hc459] at h
                                                                  by_cases hc463 : x6 = (30 : Int32)
                                                                  · rw [if_pos hc463] at h
                                                                    refine fx_tabIn (t := 1292) dL_law_33 rfl (by rw [hc463]; decide) (by rw [hc463]; decide) (by rw [hc463]; rfl) rfl ?_
                                                                    refine fx_aload_n dL_law_1292 rfl rfl ?_
                                                                    refine fx_aload_n dL_law_1293 rfl rfl ?_
                                                                    refine fx_iload_n dL_law_1294 rfl rfl ?_
                                                                    refine fx_iconst (x := 1) dL_law_1295 rfl (by decide) ?_
                                                                    obtain ⟨x464, hx464, h⟩ := xLet_el h
                                                                    refine fx_iadd dL_law_1296 rfl hx464 ?_
                                                                    obtain ⟨hj466, h⟩ := xChk_el h
                                                                    obtain ⟨x465, hx465, h⟩ := xLet_el h
                                                                    refine fx_sload dL_law_1297 rfl rfl hj466 hx465 ?_
                                                                    refine fx_aload_n dL_law_1298 rfl rfl ?_
                                                                    refine fx_iload_n dL_law_1299 rfl rfl ?_
                                                                    refine fx_iconst (x := 2) dL_law_1300 rfl (by decide) ?_
                                                                    obtain ⟨x467, hx467, h⟩ := xLet_el h
                                                                    refine fx_iadd dL_law_1301 rfl hx467 ?_
                                                                    obtain ⟨hj469, h⟩ := xChk_el h
                                                                    obtain ⟨x468, hx468, h⟩ := xLet_el h
                                                                    refine fx_sload dL_law_1302 rfl rfl hj469 hx468 ?_
                                                                    refine fx_if_eq (t := 1310) dL_law_1303 rfl rfl (fun hc470 => ?_) (fun hc470 => ?_)
                                                                    · rw [if_pos hc470] at h
                                                                      refine fx_iconst (x := 0) dL_law_1310 rfl (by decide) ?_
                                                                      exact fL_1311_ok hd ih hMS h
                                                                    · rw [if_neg hc470] at h
                                                                      refine fx_iconst (x := 1) dL_law_1306 rfl (by decide) ?_
                                                                      refine fx_goto (t := 1311) dL_law_1307 rfl rfl ?_
                                                                      exact fL_1311_ok hd ih hMS h
                                                                  · rw [if_neg hc463] at h
                                                                    by_cases hc471 : x6 = (31 : Int32)
                                                                    · rw [if_pos hc471] at h
                                                                      refine fx_tabIn (t := 1341) dL_law_33 rfl (by rw [hc471]; decide) (by rw [hc471]; decide) (by rw [hc471]; rfl) rfl ?_
                                                                      refine fx_aload_n dL_law_1341 rfl rfl ?_
                                                                      obtain ⟨p472, ep472, h⟩ := xBind_el h
                                                                      refine gx_callv (as := []) (r := []) rfl dL_law_1342 ca_13_149 rfl me_263 rfl rfl rfl rfl (hMS.1) rfl (fX11_image_ok (d := d) (by omega) hMS ep472) rfl rfl ?_
                                                                      refine fx_aload_n dL_law_1345 rfl rfl ?_
                                                                      obtain ⟨p473, ep473, h⟩ := xBind_el h
                                                                      refine gx_callv (as := []) (r := [.int p472.1]) rfl dL_law_1346 ca_13_152 rfl me_268 rfl rfl rfl rfl (hModel.1) rfl (fX12_image_ok (d := d) (by omega) hModel ep473) rfl rfl ?_
                                                                      refine fx_icmp_eq (t := 1390) dL_law_1349 rfl rfl (fun hc474 => ?_) (fun hc474 => ?_)
                                                                      · rw [if_pos hc474] at h
                                                                        exact fL_1390_ok hd ih h
                                                                      · rw [if_neg hc474] at h
                                                                        refine fx_iconst (x := 0) dL_law_1352 rfl (by decide) ?_
                                                                        cases h
                                                                        exact fx_ireturn dL_law_1353 rfl rfl
                                                                    · rw [if_neg hc471] at h
                                                                      by_cases hc475 : x6 = (32 : Int32)
                                                                      · rw [if_pos hc475] at h
                                                                        refine fx_tabIn (t := 1354) dL_law_33 rfl (by rw [hc475]; decide) (by rw [hc475]; decide) (by rw [hc475]; rfl) rfl ?_
                                                                        refine fx_aload_n dL_law_1354 rfl rfl ?_
                                                                        obtain ⟨p476, ep476, h⟩ := xBind_el h
                                                                        refine gx_callv (as := []) (r := []) rfl dL_law_1355 ca_13_153 rfl me_269 rfl rfl rfl rfl (hMS.1) rfl (fX11_back_ok (d := d) (by omega) hMS ep476) rfl rfl ?_
                                                                        refine fx_aload_n dL_law_1358 rfl rfl ?_
                                                                        obtain ⟨p477, ep477, h⟩ := xBind_el h
                                                                        refine gx_callv (as := []) (r := [.int p476.1]) rfl dL_law_1359 ca_13_156 rfl me_270 rfl rfl rfl rfl (hModel.1) rfl (fX12_back_ok (d := d) (by omega) hModel ep477) rfl rfl ?_
                                                                        refine fx_icmp_eq (t := 1390) dL_law_1362 rfl rfl (fun hc478 => ?_) (fun hc478 => ?_)
                                                                        · rw [if_pos hc478] at h
                                                                          exact fL_1390_ok hd ih h
                                                                        · rw [if_neg hc478] at h
                                                                          refine fx_iconst (x := 0) dL_law_1365 rfl (by decide) ?_
                                                                          cases h
                                                                          exact fx_ireturn dL_law_1366 rfl rfl
                                                                      · rw [if_neg hc475] at h
                                                                        by_cases hc479 : x6 = (33 : Int32)
                                                                        · rw [if_pos hc479] at h
                                                                          refine fx_tabIn (t := 1367) dL_law_33 rfl (by rw [hc479]; decide) (by rw [hc479]; decide) (by rw [hc479]; rfl) rfl ?_
                                                                          refine fx_aload_n dL_law_1367 rfl rfl ?_
                                                                          refine fx_aload_n dL_law_1368 rfl rfl ?_
                                                                          refine fx_iload_n dL_law_1369 rfl rfl ?_
                                                                          refine fx_iconst (x := 1) dL_law_1370 rfl (by decide) ?_
                                                                          obtain ⟨x480, hx480, h⟩ := xLet_el h
                                                                          refine fx_iadd dL_law_1371 rfl hx480 ?_
                                                                          obtain ⟨hj482, h⟩ := xChk_el h
                                                                          obtain ⟨x481, hx481, h⟩ := xLet_el h
                                                                          refine fx_sload dL_law_1372 rfl rfl hj482 hx481 ?_
                                                                          obtain ⟨p483, ep483, h⟩ := xBind_el h
                                                                          refine gx_callv (as := [.int x481]) (r := []) rfl dL_law_1373 ca_13_157 rfl me_271 rfl rfl rfl rfl (hMS.1) rfl (fX11_about_ok (d := d) (by omega) hMS ep483) rfl rfl ?_
                                                                          refine fx_aload_n dL_law_1376 rfl rfl ?_
                                                                          refine fx_aload_n dL_law_1377 rfl rfl ?_
                                                                          refine fx_iload_n dL_law_1378 rfl rfl ?_
                                                                          refine fx_iconst (x := 1) dL_law_1379 rfl (by decide) ?_
                                                                          obtain ⟨x484, hx484, h⟩ := xLet_el h
                                                                          refine fx_iadd dL_law_1380 rfl hx484 ?_
                                                                          obtain ⟨hj486, h⟩ := xChk_el h
                                                                          obtain ⟨x485, hx485, h⟩ := xLet_el h
                                                                          refine fx_sload dL_law_1381 rfl rfl hj486 hx485 ?_
                                                                          obtain ⟨p487, ep487, h⟩ := xBind_el h
                                                                          refine gx_callv (as := [.int x485]) (r := [.int p483.1]) rfl dL_law_1382 ca_13_160 rfl me_272 rfl rfl rfl rfl (hModel.1) rfl (fX12_about_ok (d := d) (by omega) hModel ep487) rfl rfl ?_
                                                                          refine fx_icmp_eq (t := 1390) dL_law_1385 rfl rfl (fun hc488 => ?_) (fun hc488 => ?_)
                                                                          · rw [if_pos hc488] at h
                                                                            exact fL_1390_ok hd ih h
                                                                          · rw [if_neg hc488] at h
                                                                            refine fx_iconst (x := 0) dL_law_1388 rfl (by decide) ?_
                                                                            cases h
                                                                            exact fx_ireturn dL_law_1389 rfl rfl
                                                                        · rw [if_neg hc479] at h
                                                                          have e0 : x6.toInt ≠ 0 := fun q => hc7 (Int32.toInt_inj.mp (q.trans (by decide)))
                                                                          have e1 : x6.toInt ≠ 1 := fun q => hc17 (Int32.toInt_inj.mp (q.trans (by decide)))
                                                                          have e2 : x6.toInt ≠ 2 := fun q => hc33 (Int32.toInt_inj.mp (q.trans (by decide)))
                                                                          have e3 : x6.toInt ≠ 3 := fun q => hc67 (Int32.toInt_inj.mp (q.trans (by decide)))
                                                                          have e4 : x6.toInt ≠ 4 := fun q => hc83 (Int32.toInt_inj.mp (q.trans (by decide)))
                                                                          have e5 : x6.toInt ≠ 5 := fun q => hc99 (Int32.toInt_inj.mp (q.trans (by decide)))
                                                                          have e6 : x6.toInt ≠ 6 := fun q => hc109 (Int32.toInt_inj.mp (q.trans (by decide)))
                                                                          have e7 : x6.toInt ≠ 7 := fun q => hc129 (Int32.toInt_inj.mp (q.trans (by decide)))
                                                                          have e8 : x6.toInt ≠ 8 := fun q => hc163 (Int32.toInt_inj.mp (q.trans (by decide)))
                                                                          have e9 : x6.toInt ≠ 9 := fun q => hc173 (Int32.toInt_inj.mp (q.trans (by decide)))
                                                                          have e10 : x6.toInt ≠ 10 := fun q => hc177 (Int32.toInt_inj.mp (q.trans (by decide)))
                                                                          have e11 : x6.toInt ≠ 11 := fun q => hc187 (Int32.toInt_inj.mp (q.trans (by decide)))
                                                                          have e12 : x6.toInt ≠ 12 := fun q => hc197 (Int32.toInt_inj.mp (q.trans (by decide)))
                                                                          have e13 : x6.toInt ≠ 13 := fun q => hc207 (Int32.toInt_inj.mp (q.trans (by decide)))
                                                                          have e14 : x6.toInt ≠ 14 := fun q => hc223 (Int32.toInt_inj.mp (q.trans (by decide)))
                                                                          have e15 : x6.toInt ≠ 15 := fun q => hc239 (Int32.toInt_inj.mp (q.trans (by decide)))
                                                                          have e16 : x6.toInt ≠ 16 := fun q => hc261 (Int32.toInt_inj.mp (q.trans (by decide)))
                                                                          have e17 : x6.toInt ≠ 17 := fun q => hc272 (Int32.toInt_inj.mp (q.trans (by decide)))
                                                                          have e18 : x6.toInt ≠ 18 := fun q => hc282 (Int32.toInt_inj.mp (q.trans (by decide)))
                                                                          have e19 : x6.toInt ≠ 19 := fun q => hc304 (Int32.toInt_inj.mp (q.trans (by decide)))
                                                                          have e20 : x6.toInt ≠ 20 := fun q => hc326 (Int32.toInt_inj.mp (q.trans (by decide)))
                                                                          have e21 : x6.toInt ≠ 21 := fun q => hc342 (Int32.toInt_inj.mp (q.trans (by decide)))
                                                                          have e22 : x6.toInt ≠ 22 := fun q => hc358 (Int32.toInt_inj.mp (q.trans (by decide)))
                                                                          have e23 : x6.toInt ≠ 23 := fun q => hc386 (Int32.toInt_inj.mp (q.trans (by decide)))
                                                                          have e24 : x6.toInt ≠ 24 := fun q => hc402 (Int32.toInt_inj.mp (q.trans (by decide)))
                                                                          have e25 : x6.toInt ≠ 25 := fun q => hc407 (Int32.toInt_inj.mp (q.trans (by decide)))
                                                                          have e26 : x6.toInt ≠ 26 := fun q => hc411 (Int32.toInt_inj.mp (q.trans (by decide)))
                                                                          have e27 : x6.toInt ≠ 27 := fun q => hc439 (Int32.toInt_inj.mp (q.trans (by decide)))
                                                                          have e28 : x6.toInt ≠ 28 := fun q => hc449 (Int32.toInt_inj.mp (q.trans (by decide)))
                                                                          have e29 : x6.toInt ≠ 29 := fun q => hc459 (Int32.toInt_inj.mp (q.trans (by decide)))
                                                                          have e30 : x6.toInt ≠ 30 := fun q => hc463 (Int32.toInt_inj.mp (q.trans (by decide)))
                                                                          have e31 : x6.toInt ≠ 31 := fun q => hc471 (Int32.toInt_inj.mp (q.trans (by decide)))
                                                                          have e32 : x6.toInt ≠ 32 := fun q => hc475 (Int32.toInt_inj.mp (q.trans (by decide)))
                                                                          have e33 : x6.toInt ≠ 33 := fun q => hc479 (Int32.toInt_inj.mp (q.trans (by decide)))
                                                                          refine fx_tabOut (t := 1390) dL_law_33 rfl (by omega) rfl ?_
                                                                          exact fL_1390_ok hd ih h
