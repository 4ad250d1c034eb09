theorem dl_0 : decode code 0 = .ok (.new 7, 3) := by decide +kernel
theorem dl_3 : decode code 3 = .ok (.dup, 1) := by decide +kernel
theorem dl_4 : decode code 4 = .ok (.invokespecial 9, 3) := by decide +kernel
theorem dl_7 : decode code 7 = .ok (.astore_n 1, 1) := by decide +kernel
theorem dl_8 : decode code 8 = .ok (.new 10, 3) := by decide +kernel
theorem dl_11 : decode code 11 = .ok (.dup, 1) := by decide +kernel
theorem dl_12 : decode code 12 = .ok (.invokespecial 12, 3) := by decide +kernel
theorem dl_15 : decode code 15 = .ok (.astore_n 2, 1) := by decide +kernel
theorem dl_16 : decode code 16 = .ok (.iconst 0, 1) := by decide +kernel
theorem dl_17 : decode code 17 = .ok (.istore_n 3, 1) := by decide +kernel
theorem dl_18 : decode code 18 = .ok (.iload_n 3, 1) := by decide +kernel
theorem dl_19 : decode code 19 = .ok (.aload_n 0, 1) := by decide +kernel
theorem dl_20 : decode code 20 = .ok (.arraylength, 1) := by decide +kernel
theorem dl_21 : decode code 21 = .ok (.iconst 5, 1) := by decide +kernel
theorem dl_22 : decode code 22 = .ok (.isub, 1) := by decide +kernel
theorem dl_23 : decode code 23 = .ok (.if_icmp .gt 1027, 3) := by decide +kernel
theorem dl_26 : decode code 26 = .ok (.aload_n 0, 1) := by decide +kernel
theorem dl_27 : decode code 27 = .ok (.iload_n 3, 1) := by decide +kernel
theorem dl_28 : decode code 28 = .ok (.iaload, 1) := by decide +kernel
theorem dl_29 : decode code 29 = .ok (.bipush 31, 2) := by decide +kernel
theorem dl_31 : decode code 31 = .ok (.iand, 1) := by decide +kernel
theorem dl_32 : decode code 32 = .ok (.tableswitch 1012 0 31 #[144, 167, 180, 193, 216, 249, 282, 305, 328, 361, 384, 407, 430, 453, 476, 499, 548, 571, 594, 627, 660, 693, 716, 749, 772, 805, 874, 907, 930, 943, 966, 989], 144) := by decide +kernel
theorem dl_176 : decode code 176 = .ok (.aload_n 1, 1) := by decide +kernel
theorem dl_177 : decode code 177 = .ok (.aload_n 0, 1) := by decide +kernel
theorem dl_178 : decode code 178 = .ok (.iload_n 3, 1) := by decide +kernel
theorem dl_179 : decode code 179 = .ok (.iconst 1, 1) := by decide +kernel
theorem dl_180 : decode code 180 = .ok (.iadd, 1) := by decide +kernel
theorem dl_181 : decode code 181 = .ok (.iaload, 1) := by decide +kernel
theorem dl_182 : decode code 182 = .ok (.invokevirtual 13, 3) := by decide +kernel
theorem dl_185 : decode code 185 = .ok (.aload_n 2, 1) := by decide +kernel
theorem dl_186 : decode code 186 = .ok (.aload_n 0, 1) := by decide +kernel
theorem dl_187 : decode code 187 = .ok (.iload_n 3, 1) := by decide +kernel
theorem dl_188 : decode code 188 = .ok (.iconst 1, 1) := by decide +kernel
theorem dl_189 : decode code 189 = .ok (.iadd, 1) := by decide +kernel
theorem dl_190 : decode code 190 = .ok (.iaload, 1) := by decide +kernel
theorem dl_191 : decode code 191 = .ok (.invokevirtual 17, 3) := by decide +kernel
theorem dl_194 : decode code 194 = .ok (.if_icmp .eq 850, 3) := by decide +kernel
theorem dl_197 : decode code 197 = .ok (.iconst 0, 1) := by decide +kernel
theorem dl_198 : decode code 198 = .ok (.ireturn, 1) := by decide +kernel
theorem dl_199 : decode code 199 = .ok (.aload_n 1, 1) := by decide +kernel
theorem dl_200 : decode code 200 = .ok (.invokevirtual 18, 3) := by decide +kernel
theorem dl_203 : decode code 203 = .ok (.aload_n 2, 1) := by decide +kernel
theorem dl_204 : decode code 204 = .ok (.invokevirtual 22, 3) := by decide +kernel
theorem dl_207 : decode code 207 = .ok (.if_icmp .eq 837, 3) := by decide +kernel
theorem dl_210 : decode code 210 = .ok (.iconst 0, 1) := by decide +kernel
theorem dl_211 : decode code 211 = .ok (.ireturn, 1) := by decide +kernel
theorem dl_212 : decode code 212 = .ok (.aload_n 1, 1) := by decide +kernel
theorem dl_213 : decode code 213 = .ok (.invokevirtual 23, 3) := by decide +kernel
theorem dl_216 : decode code 216 = .ok (.aload_n 2, 1) := by decide +kernel
theorem dl_217 : decode code 217 = .ok (.invokevirtual 26, 3) := by decide +kernel
theorem dl_220 : decode code 220 = .ok (.if_icmp .eq 824, 3) := by decide +kernel
theorem dl_223 : decode code 223 = .ok (.iconst 0, 1) := by decide +kernel
theorem dl_224 : decode code 224 = .ok (.ireturn, 1) := by decide +kernel
theorem dl_225 : decode code 225 = .ok (.aload_n 1, 1) := by decide +kernel
theorem dl_226 : decode code 226 = .ok (.aload_n 0, 1) := by decide +kernel
theorem dl_227 : decode code 227 = .ok (.iload_n 3, 1) := by decide +kernel
theorem dl_228 : decode code 228 = .ok (.iconst 1, 1) := by decide +kernel
theorem dl_229 : decode code 229 = .ok (.iadd, 1) := by decide +kernel
theorem dl_230 : decode code 230 = .ok (.iaload, 1) := by decide +kernel
theorem dl_231 : decode code 231 = .ok (.invokevirtual 27, 3) := by decide +kernel
theorem dl_234 : decode code 234 = .ok (.aload_n 2, 1) := by decide +kernel
theorem dl_235 : decode code 235 = .ok (.aload_n 0, 1) := by decide +kernel
theorem dl_236 : decode code 236 = .ok (.iload_n 3, 1) := by decide +kernel
theorem dl_237 : decode code 237 = .ok (.iconst 1, 1) := by decide +kernel
theorem dl_238 : decode code 238 = .ok (.iadd, 1) := by decide +kernel
theorem dl_239 : decode code 239 = .ok (.iaload, 1) := by decide +kernel
theorem dl_240 : decode code 240 = .ok (.invokevirtual 30, 3) := by decide +kernel
theorem dl_243 : decode code 243 = .ok (.if_icmp .eq 801, 3) := by decide +kernel
theorem dl_246 : decode code 246 = .ok (.iconst 0, 1) := by decide +kernel
theorem dl_247 : decode code 247 = .ok (.ireturn, 1) := by decide +kernel
theorem dl_248 : decode code 248 = .ok (.aload_n 1, 1) := by decide +kernel
theorem dl_249 : decode code 249 = .ok (.aload_n 0, 1) := by decide +kernel
theorem dl_250 : decode code 250 = .ok (.iload_n 3, 1) := by decide +kernel
theorem dl_251 : decode code 251 = .ok (.iconst 1, 1) := by decide +kernel
theorem dl_252 : decode code 252 = .ok (.iadd, 1) := by decide +kernel
theorem dl_253 : decode code 253 = .ok (.iaload, 1) := by decide +kernel
theorem dl_254 : decode code 254 = .ok (.aload_n 0, 1) := by decide +kernel
theorem dl_255 : decode code 255 = .ok (.iload_n 3, 1) := by decide +kernel
theorem dl_256 : decode code 256 = .ok (.iconst 2, 1) := by decide +kernel
theorem dl_257 : decode code 257 = .ok (.iadd, 1) := by decide +kernel
theorem dl_258 : decode code 258 = .ok (.iaload, 1) := by decide +kernel
theorem dl_259 : decode code 259 = .ok (.invokevirtual 31, 3) := by decide +kernel
theorem dl_262 : decode code 262 = .ok (.aload_n 2, 1) := by decide +kernel
theorem dl_263 : decode code 263 = .ok (.aload_n 0, 1) := by decide +kernel
theorem dl_264 : decode code 264 = .ok (.iload_n 3, 1) := by decide +kernel
theorem dl_265 : decode code 265 = .ok (.iconst 1, 1) := by decide +kernel
theorem dl_266 : decode code 266 = .ok (.iadd, 1) := by decide +kernel
theorem dl_267 : decode code 267 = .ok (.iaload, 1) := by decide +kernel
theorem dl_268 : decode code 268 = .ok (.aload_n 0, 1) := by decide +kernel
theorem dl_269 : decode code 269 = .ok (.iload_n 3, 1) := by decide +kernel
theorem dl_270 : decode code 270 = .ok (.iconst 2, 1) := by decide +kernel
theorem dl_271 : decode code 271 = .ok (.iadd, 1) := by decide +kernel
theorem dl_272 : decode code 272 = .ok (.iaload, 1) := by decide +kernel
theorem dl_273 : decode code 273 = .ok (.invokevirtual 35, 3) := by decide +kernel
theorem dl_276 : decode code 276 = .ok (.if_icmp .eq 768, 3) := by decide +kernel
theorem dl_279 : decode code 279 = .ok (.iconst 0, 1) := by decide +kernel
theorem dl_280 : decode code 280 = .ok (.ireturn, 1) := by decide +kernel
theorem dl_281 : decode code 281 = .ok (.aload_n 1, 1) := by decide +kernel
theorem dl_282 : decode code 282 = .ok (.aload_n 0, 1) := by decide +kernel
theorem dl_283 : decode code 283 = .ok (.iload_n 3, 1) := by decide +kernel
theorem dl_284 : decode code 284 = .ok (.iconst 1, 1) := by decide +kernel
theorem dl_285 : decode code 285 = .ok (.iadd, 1) := by decide +kernel
theorem dl_286 : decode code 286 = .ok (.iaload, 1) := by decide +kernel
theorem dl_287 : decode code 287 = .ok (.aload_n 0, 1) := by decide +kernel
theorem dl_288 : decode code 288 = .ok (.iload_n 3, 1) := by decide +kernel
theorem dl_289 : decode code 289 = .ok (.iconst 2, 1) := by decide +kernel
theorem dl_290 : decode code 290 = .ok (.iadd, 1) := by decide +kernel
theorem dl_291 : decode code 291 = .ok (.iaload, 1) := by decide +kernel
theorem dl_292 : decode code 292 = .ok (.invokevirtual 36, 3) := by decide +kernel
theorem dl_295 : decode code 295 = .ok (.aload_n 2, 1) := by decide +kernel
theorem dl_296 : decode code 296 = .ok (.aload_n 0, 1) := by decide +kernel
theorem dl_297 : decode code 297 = .ok (.iload_n 3, 1) := by decide +kernel
theorem dl_298 : decode code 298 = .ok (.iconst 1, 1) := by decide +kernel
theorem dl_299 : decode code 299 = .ok (.iadd, 1) := by decide +kernel
theorem dl_300 : decode code 300 = .ok (.iaload, 1) := by decide +kernel
theorem dl_301 : decode code 301 = .ok (.aload_n 0, 1) := by decide +kernel
theorem dl_302 : decode code 302 = .ok (.iload_n 3, 1) := by decide +kernel
theorem dl_303 : decode code 303 = .ok (.iconst 2, 1) := by decide +kernel
theorem dl_304 : decode code 304 = .ok (.iadd, 1) := by decide +kernel
theorem dl_305 : decode code 305 = .ok (.iaload, 1) := by decide +kernel
theorem dl_306 : decode code 306 = .ok (.invokevirtual 39, 3) := by decide +kernel
theorem dl_309 : decode code 309 = .ok (.if_icmp .eq 735, 3) := by decide +kernel
theorem dl_312 : decode code 312 = .ok (.iconst 0, 1) := by decide +kernel
theorem dl_313 : decode code 313 = .ok (.ireturn, 1) := by decide +kernel
theorem dl_314 : decode code 314 = .ok (.aload_n 1, 1) := by decide +kernel
theorem dl_315 : decode code 315 = .ok (.aload_n 0, 1) := by decide +kernel
theorem dl_316 : decode code 316 = .ok (.iload_n 3, 1) := by decide +kernel
theorem dl_317 : decode code 317 = .ok (.iconst 1, 1) := by decide +kernel
theorem dl_318 : decode code 318 = .ok (.iadd, 1) := by decide +kernel
theorem dl_319 : decode code 319 = .ok (.iaload, 1) := by decide +kernel
theorem dl_320 : decode code 320 = .ok (.invokevirtual 40, 3) := by decide +kernel
theorem dl_323 : decode code 323 = .ok (.aload_n 2, 1) := by decide +kernel
theorem dl_324 : decode code 324 = .ok (.aload_n 0, 1) := by decide +kernel
theorem dl_325 : decode code 325 = .ok (.iload_n 3, 1) := by decide +kernel
theorem dl_326 : decode code 326 = .ok (.iconst 1, 1) := by decide +kernel
theorem dl_327 : decode code 327 = .ok (.iadd, 1) := by decide +kernel
theorem dl_328 : decode code 328 = .ok (.iaload, 1) := by decide +kernel
theorem dl_329 : decode code 329 = .ok (.invokevirtual 43, 3) := by decide +kernel
theorem dl_332 : decode code 332 = .ok (.if_icmp .eq 712, 3) := by decide +kernel
theorem dl_335 : decode code 335 = .ok (.iconst 0, 1) := by decide +kernel
theorem dl_336 : decode code 336 = .ok (.ireturn, 1) := by decide +kernel
theorem dl_337 : decode code 337 = .ok (.aload_n 1, 1) := by decide +kernel
theorem dl_338 : decode code 338 = .ok (.aload_n 0, 1) := by decide +kernel
theorem dl_339 : decode code 339 = .ok (.iload_n 3, 1) := by decide +kernel
theorem dl_340 : decode code 340 = .ok (.iconst 1, 1) := by decide +kernel
theorem dl_341 : decode code 341 = .ok (.iadd, 1) := by decide +kernel
theorem dl_342 : decode code 342 = .ok (.iaload, 1) := by decide +kernel
theorem dl_343 : decode code 343 = .ok (.invokevirtual 44, 3) := by decide +kernel
theorem dl_346 : decode code 346 = .ok (.aload_n 2, 1) := by decide +kernel
theorem dl_347 : decode code 347 = .ok (.aload_n 0, 1) := by decide +kernel
theorem dl_348 : decode code 348 = .ok (.iload_n 3, 1) := by decide +kernel
theorem dl_349 : decode code 349 = .ok (.iconst 1, 1) := by decide +kernel
theorem dl_350 : decode code 350 = .ok (.iadd, 1) := by decide +kernel
theorem dl_351 : decode code 351 = .ok (.iaload, 1) := by decide +kernel
theorem dl_352 : decode code 352 = .ok (.invokevirtual 47, 3) := by decide +kernel
theorem dl_355 : decode code 355 = .ok (.if_icmp .eq 689, 3) := by decide +kernel
theorem dl_358 : decode code 358 = .ok (.iconst 0, 1) := by decide +kernel
theorem dl_359 : decode code 359 = .ok (.ireturn, 1) := by decide +kernel
theorem dl_360 : decode code 360 = .ok (.aload_n 1, 1) := by decide +kernel
theorem dl_361 : decode code 361 = .ok (.aload_n 0, 1) := by decide +kernel
theorem dl_362 : decode code 362 = .ok (.iload_n 3, 1) := by decide +kernel
theorem dl_363 : decode code 363 = .ok (.iconst 1, 1) := by decide +kernel
theorem dl_364 : decode code 364 = .ok (.iadd, 1) := by decide +kernel
theorem dl_365 : decode code 365 = .ok (.iaload, 1) := by decide +kernel
theorem dl_366 : decode code 366 = .ok (.aload_n 0, 1) := by decide +kernel
theorem dl_367 : decode code 367 = .ok (.iload_n 3, 1) := by decide +kernel
theorem dl_368 : decode code 368 = .ok (.iconst 2, 1) := by decide +kernel
theorem dl_369 : decode code 369 = .ok (.iadd, 1) := by decide +kernel
theorem dl_370 : decode code 370 = .ok (.iaload, 1) := by decide +kernel
theorem dl_371 : decode code 371 = .ok (.invokevirtual 48, 3) := by decide +kernel
theorem dl_374 : decode code 374 = .ok (.aload_n 2, 1) := by decide +kernel
theorem dl_375 : decode code 375 = .ok (.aload_n 0, 1) := by decide +kernel
