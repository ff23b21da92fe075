/-! the law: what its instructions decode to, and its method -/
def Y_Law (nm : String) : Yx := (⟨"OneTuneNineLaw", nm, "([I)Z"⟩, code, 4, ret)
theorem k_Law_law_0 : decode code 0 = .ok (.new 7, 3) := by decide +kernel
theorem k_Law_law_3 : decode code 3 = .ok (.dup, 1) := by decide +kernel
theorem k_Law_law_4 : decode code 4 = .ok (.invokespecial 9, 3) := by decide +kernel
theorem k_Law_law_7 : decode code 7 = .ok (.astore_n 1, 1) := by decide +kernel
theorem k_Law_law_8 : decode code 8 = .ok (.new 10, 3) := by decide +kernel
theorem k_Law_law_11 : decode code 11 = .ok (.dup, 1) := by decide +kernel
theorem k_Law_law_12 : decode code 12 = .ok (.invokespecial 12, 3) := by decide +kernel
theorem k_Law_law_15 : decode code 15 = .ok (.astore_n 2, 1) := by decide +kernel
theorem k_Law_law_16 : decode code 16 = .ok (.iconst 0, 1) := by decide +kernel
theorem k_Law_law_17 : decode code 17 = .ok (.istore_n 3, 1) := by decide +kernel
theorem k_Law_law_18 : decode code 18 = .ok (.iload_n 3, 1) := by decide +kernel
theorem k_Law_law_19 : decode code 19 = .ok (.aload_n 0, 1) := by decide +kernel
theorem k_Law_law_20 : decode code 20 = .ok (.arraylength, 1) := by decide +kernel
theorem k_Law_law_21 : decode code 21 = .ok (.iconst 3, 1) := by decide +kernel
theorem k_Law_law_22 : decode code 22 = .ok (.isub, 1) := by decide +kernel
theorem k_Law_law_23 : decode code 23 = .ok (.if_icmp .gt 852, 3) := by decide +kernel
theorem k_Law_law_26 : decode code 26 = .ok (.aload_n 0, 1) := by decide +kernel
theorem k_Law_law_27 : decode code 27 = .ok (.iload_n 3, 1) := by decide +kernel
theorem k_Law_law_28 : decode code 28 = .ok (.iaload, 1) := by decide +kernel
theorem k_Law_law_29 : decode code 29 = .ok (.bipush 31, 2) := by decide +kernel
theorem k_Law_law_31 : decode code 31 = .ok (.iand, 1) := by decide +kernel
theorem k_Law_law_32 : decode code 32 = .ok (.tableswitch 837 0 29 #[136, 159, 172, 205, 238, 271, 304, 327, 350, 373, 406, 429, 452, 465, 498, 511, 524, 547, 560, 573, 607, 640, 663, 676, 699, 722, 755, 788, 801, 814], 136) := by decide +kernel
theorem k_Law_law_168 : decode code 168 = .ok (.aload_n 1, 1) := by decide +kernel
theorem k_Law_law_169 : decode code 169 = .ok (.aload_n 0, 1) := by decide +kernel
theorem k_Law_law_170 : decode code 170 = .ok (.iload_n 3, 1) := by decide +kernel
theorem k_Law_law_171 : decode code 171 = .ok (.iconst 1, 1) := by decide +kernel
theorem k_Law_law_172 : decode code 172 = .ok (.iadd, 1) := by decide +kernel
theorem k_Law_law_173 : decode code 173 = .ok (.iaload, 1) := by decide +kernel
theorem k_Law_law_174 : decode code 174 = .ok (.invokevirtual 13, 3) := by decide +kernel
theorem k_Law_law_177 : decode code 177 = .ok (.aload_n 2, 1) := by decide +kernel
theorem k_Law_law_178 : decode code 178 = .ok (.aload_n 0, 1) := by decide +kernel
theorem k_Law_law_179 : decode code 179 = .ok (.iload_n 3, 1) := by decide +kernel
theorem k_Law_law_180 : decode code 180 = .ok (.iconst 1, 1) := by decide +kernel
theorem k_Law_law_181 : decode code 181 = .ok (.iadd, 1) := by decide +kernel
theorem k_Law_law_182 : decode code 182 = .ok (.iaload, 1) := by decide +kernel
theorem k_Law_law_183 : decode code 183 = .ok (.invokevirtual 17, 3) := by decide +kernel
theorem k_Law_law_186 : decode code 186 = .ok (.if_icmp .eq 683, 3) := by decide +kernel
theorem k_Law_law_189 : decode code 189 = .ok (.iconst 0, 1) := by decide +kernel
theorem k_Law_law_190 : decode code 190 = .ok (.ireturn, 1) := by decide +kernel
theorem k_Law_law_191 : decode code 191 = .ok (.aload_n 1, 1) := by decide +kernel
theorem k_Law_law_192 : decode code 192 = .ok (.invokevirtual 18, 3) := by decide +kernel
theorem k_Law_law_195 : decode code 195 = .ok (.aload_n 2, 1) := by decide +kernel
theorem k_Law_law_196 : decode code 196 = .ok (.invokevirtual 22, 3) := by decide +kernel
theorem k_Law_law_199 : decode code 199 = .ok (.if_icmp .eq 670, 3) := by decide +kernel
theorem k_Law_law_202 : decode code 202 = .ok (.iconst 0, 1) := by decide +kernel
theorem k_Law_law_203 : decode code 203 = .ok (.ireturn, 1) := by decide +kernel
theorem k_Law_law_204 : decode code 204 = .ok (.aload_n 1, 1) := by decide +kernel
theorem k_Law_law_205 : decode code 205 = .ok (.aload_n 0, 1) := by decide +kernel
theorem k_Law_law_206 : decode code 206 = .ok (.iload_n 3, 1) := by decide +kernel
theorem k_Law_law_207 : decode code 207 = .ok (.iconst 1, 1) := by decide +kernel
theorem k_Law_law_208 : decode code 208 = .ok (.iadd, 1) := by decide +kernel
theorem k_Law_law_209 : decode code 209 = .ok (.iaload, 1) := by decide +kernel
theorem k_Law_law_210 : decode code 210 = .ok (.aload_n 0, 1) := by decide +kernel
theorem k_Law_law_211 : decode code 211 = .ok (.iload_n 3, 1) := by decide +kernel
theorem k_Law_law_212 : decode code 212 = .ok (.iconst 2, 1) := by decide +kernel
theorem k_Law_law_213 : decode code 213 = .ok (.iadd, 1) := by decide +kernel
theorem k_Law_law_214 : decode code 214 = .ok (.iaload, 1) := by decide +kernel
theorem k_Law_law_215 : decode code 215 = .ok (.invokevirtual 23, 3) := by decide +kernel
theorem k_Law_law_218 : decode code 218 = .ok (.aload_n 2, 1) := by decide +kernel
theorem k_Law_law_219 : decode code 219 = .ok (.aload_n 0, 1) := by decide +kernel
theorem k_Law_law_220 : decode code 220 = .ok (.iload_n 3, 1) := by decide +kernel
theorem k_Law_law_221 : decode code 221 = .ok (.iconst 1, 1) := by decide +kernel
theorem k_Law_law_222 : decode code 222 = .ok (.iadd, 1) := by decide +kernel
theorem k_Law_law_223 : decode code 223 = .ok (.iaload, 1) := by decide +kernel
theorem k_Law_law_224 : decode code 224 = .ok (.aload_n 0, 1) := by decide +kernel
theorem k_Law_law_225 : decode code 225 = .ok (.iload_n 3, 1) := by decide +kernel
theorem k_Law_law_226 : decode code 226 = .ok (.iconst 2, 1) := by decide +kernel
theorem k_Law_law_227 : decode code 227 = .ok (.iadd, 1) := by decide +kernel
theorem k_Law_law_228 : decode code 228 = .ok (.iaload, 1) := by decide +kernel
theorem k_Law_law_229 : decode code 229 = .ok (.invokevirtual 27, 3) := by decide +kernel
theorem k_Law_law_232 : decode code 232 = .ok (.if_icmp .eq 637, 3) := by decide +kernel
theorem k_Law_law_235 : decode code 235 = .ok (.iconst 0, 1) := by decide +kernel
theorem k_Law_law_236 : decode code 236 = .ok (.ireturn, 1) := by decide +kernel
theorem k_Law_law_237 : decode code 237 = .ok (.aload_n 1, 1) := by decide +kernel
theorem k_Law_law_238 : decode code 238 = .ok (.aload_n 0, 1) := by decide +kernel
theorem k_Law_law_239 : decode code 239 = .ok (.iload_n 3, 1) := by decide +kernel
theorem k_Law_law_240 : decode code 240 = .ok (.iconst 1, 1) := by decide +kernel
theorem k_Law_law_241 : decode code 241 = .ok (.iadd, 1) := by decide +kernel
theorem k_Law_law_242 : decode code 242 = .ok (.iaload, 1) := by decide +kernel
theorem k_Law_law_243 : decode code 243 = .ok (.aload_n 0, 1) := by decide +kernel
theorem k_Law_law_244 : decode code 244 = .ok (.iload_n 3, 1) := by decide +kernel
theorem k_Law_law_245 : decode code 245 = .ok (.iconst 2, 1) := by decide +kernel
theorem k_Law_law_246 : decode code 246 = .ok (.iadd, 1) := by decide +kernel
theorem k_Law_law_247 : decode code 247 = .ok (.iaload, 1) := by decide +kernel
theorem k_Law_law_248 : decode code 248 = .ok (.invokevirtual 28, 3) := by decide +kernel
theorem k_Law_law_251 : decode code 251 = .ok (.aload_n 2, 1) := by decide +kernel
theorem k_Law_law_252 : decode code 252 = .ok (.aload_n 0, 1) := by decide +kernel
theorem k_Law_law_253 : decode code 253 = .ok (.iload_n 3, 1) := by decide +kernel
theorem k_Law_law_254 : decode code 254 = .ok (.iconst 1, 1) := by decide +kernel
theorem k_Law_law_255 : decode code 255 = .ok (.iadd, 1) := by decide +kernel
theorem k_Law_law_256 : decode code 256 = .ok (.iaload, 1) := by decide +kernel
theorem k_Law_law_257 : decode code 257 = .ok (.aload_n 0, 1) := by decide +kernel
theorem k_Law_law_258 : decode code 258 = .ok (.iload_n 3, 1) := by decide +kernel
theorem k_Law_law_259 : decode code 259 = .ok (.iconst 2, 1) := by decide +kernel
theorem k_Law_law_260 : decode code 260 = .ok (.iadd, 1) := by decide +kernel
theorem k_Law_law_261 : decode code 261 = .ok (.iaload, 1) := by decide +kernel
theorem k_Law_law_262 : decode code 262 = .ok (.invokevirtual 31, 3) := by decide +kernel
theorem k_Law_law_265 : decode code 265 = .ok (.if_icmp .eq 604, 3) := by decide +kernel
theorem k_Law_law_268 : decode code 268 = .ok (.iconst 0, 1) := by decide +kernel
theorem k_Law_law_269 : decode code 269 = .ok (.ireturn, 1) := by decide +kernel
theorem k_Law_law_270 : decode code 270 = .ok (.aload_n 1, 1) := by decide +kernel
theorem k_Law_law_271 : decode code 271 = .ok (.aload_n 0, 1) := by decide +kernel
theorem k_Law_law_272 : decode code 272 = .ok (.iload_n 3, 1) := by decide +kernel
theorem k_Law_law_273 : decode code 273 = .ok (.iconst 1, 1) := by decide +kernel
theorem k_Law_law_274 : decode code 274 = .ok (.iadd, 1) := by decide +kernel
theorem k_Law_law_275 : decode code 275 = .ok (.iaload, 1) := by decide +kernel
theorem k_Law_law_276 : decode code 276 = .ok (.aload_n 0, 1) := by decide +kernel
theorem k_Law_law_277 : decode code 277 = .ok (.iload_n 3, 1) := by decide +kernel
theorem k_Law_law_278 : decode code 278 = .ok (.iconst 2, 1) := by decide +kernel
theorem k_Law_law_279 : decode code 279 = .ok (.iadd, 1) := by decide +kernel
theorem k_Law_law_280 : decode code 280 = .ok (.iaload, 1) := by decide +kernel
theorem k_Law_law_281 : decode code 281 = .ok (.invokevirtual 32, 3) := by decide +kernel
theorem k_Law_law_284 : decode code 284 = .ok (.aload_n 2, 1) := by decide +kernel
theorem k_Law_law_285 : decode code 285 = .ok (.aload_n 0, 1) := by decide +kernel
theorem k_Law_law_286 : decode code 286 = .ok (.iload_n 3, 1) := by decide +kernel
theorem k_Law_law_287 : decode code 287 = .ok (.iconst 1, 1) := by decide +kernel
theorem k_Law_law_288 : decode code 288 = .ok (.iadd, 1) := by decide +kernel
theorem k_Law_law_289 : decode code 289 = .ok (.iaload, 1) := by decide +kernel
theorem k_Law_law_290 : decode code 290 = .ok (.aload_n 0, 1) := by decide +kernel
theorem k_Law_law_291 : decode code 291 = .ok (.iload_n 3, 1) := by decide +kernel
theorem k_Law_law_292 : decode code 292 = .ok (.iconst 2, 1) := by decide +kernel
theorem k_Law_law_293 : decode code 293 = .ok (.iadd, 1) := by decide +kernel
theorem k_Law_law_294 : decode code 294 = .ok (.iaload, 1) := by decide +kernel
theorem k_Law_law_295 : decode code 295 = .ok (.invokevirtual 35, 3) := by decide +kernel
theorem k_Law_law_298 : decode code 298 = .ok (.if_icmp .eq 571, 3) := by decide +kernel
theorem k_Law_law_301 : decode code 301 = .ok (.iconst 0, 1) := by decide +kernel
theorem k_Law_law_302 : decode code 302 = .ok (.ireturn, 1) := by decide +kernel
theorem k_Law_law_303 : decode code 303 = .ok (.aload_n 1, 1) := by decide +kernel
theorem k_Law_law_304 : decode code 304 = .ok (.aload_n 0, 1) := by decide +kernel
theorem k_Law_law_305 : decode code 305 = .ok (.iload_n 3, 1) := by decide +kernel
theorem k_Law_law_306 : decode code 306 = .ok (.iconst 1, 1) := by decide +kernel
theorem k_Law_law_307 : decode code 307 = .ok (.iadd, 1) := by decide +kernel
theorem k_Law_law_308 : decode code 308 = .ok (.iaload, 1) := by decide +kernel
theorem k_Law_law_309 : decode code 309 = .ok (.aload_n 0, 1) := by decide +kernel
theorem k_Law_law_310 : decode code 310 = .ok (.iload_n 3, 1) := by decide +kernel
theorem k_Law_law_311 : decode code 311 = .ok (.iconst 2, 1) := by decide +kernel
theorem k_Law_law_312 : decode code 312 = .ok (.iadd, 1) := by decide +kernel
theorem k_Law_law_313 : decode code 313 = .ok (.iaload, 1) := by decide +kernel
theorem k_Law_law_314 : decode code 314 = .ok (.invokevirtual 36, 3) := by decide +kernel
theorem k_Law_law_317 : decode code 317 = .ok (.aload_n 2, 1) := by decide +kernel
theorem k_Law_law_318 : decode code 318 = .ok (.aload_n 0, 1) := by decide +kernel
theorem k_Law_law_319 : decode code 319 = .ok (.iload_n 3, 1) := by decide +kernel
theorem k_Law_law_320 : decode code 320 = .ok (.iconst 1, 1) := by decide +kernel
theorem k_Law_law_321 : decode code 321 = .ok (.iadd, 1) := by decide +kernel
theorem k_Law_law_322 : decode code 322 = .ok (.iaload, 1) := by decide +kernel
theorem k_Law_law_323 : decode code 323 = .ok (.aload_n 0, 1) := by decide +kernel
theorem k_Law_law_324 : decode code 324 = .ok (.iload_n 3, 1) := by decide +kernel
theorem k_Law_law_325 : decode code 325 = .ok (.iconst 2, 1) := by decide +kernel
theorem k_Law_law_326 : decode code 326 = .ok (.iadd, 1) := by decide +kernel
theorem k_Law_law_327 : decode code 327 = .ok (.iaload, 1) := by decide +kernel
theorem k_Law_law_328 : decode code 328 = .ok (.invokevirtual 39, 3) := by decide +kernel
theorem k_Law_law_331 : decode code 331 = .ok (.if_icmp .eq 538, 3) := by decide +kernel
theorem k_Law_law_334 : decode code 334 = .ok (.iconst 0, 1) := by decide +kernel
theorem k_Law_law_335 : decode code 335 = .ok (.ireturn, 1) := by decide +kernel
theorem k_Law_law_336 : decode code 336 = .ok (.aload_n 1, 1) := by decide +kernel
theorem k_Law_law_337 : decode code 337 = .ok (.aload_n 0, 1) := by decide +kernel
theorem k_Law_law_338 : decode code 338 = .ok (.iload_n 3, 1) := by decide +kernel
theorem k_Law_law_339 : decode code 339 = .ok (.iconst 1, 1) := by decide +kernel
theorem k_Law_law_340 : decode code 340 = .ok (.iadd, 1) := by decide +kernel
theorem k_Law_law_341 : decode code 341 = .ok (.iaload, 1) := by decide +kernel
theorem k_Law_law_342 : decode code 342 = .ok (.invokevirtual 40, 3) := by decide +kernel
theorem k_Law_law_345 : decode code 345 = .ok (.aload_n 2, 1) := by decide +kernel
theorem k_Law_law_346 : decode code 346 = .ok (.aload_n 0, 1) := by decide +kernel
theorem k_Law_law_347 : decode code 347 = .ok (.iload_n 3, 1) := by decide +kernel
theorem k_Law_law_348 : decode code 348 = .ok (.iconst 1, 1) := by decide +kernel
theorem k_Law_law_349 : decode code 349 = .ok (.iadd, 1) := by decide +kernel
theorem k_Law_law_350 : decode code 350 = .ok (.iaload, 1) := by decide +kernel
theorem k_Law_law_351 : decode code 351 = .ok (.invokevirtual 43, 3) := by decide +kernel
theorem k_Law_law_354 : decode code 354 = .ok (.if_icmp .eq 515, 3) := by decide +kernel
theorem k_Law_law_357 : decode code 357 = .ok (.iconst 0, 1) := by decide +kernel
theorem k_Law_law_358 : decode code 358 = .ok (.ireturn, 1) := by decide +kernel
theorem k_Law_law_359 : decode code 359 = .ok (.aload_n 1, 1) := by decide +kernel
theorem k_Law_law_360 : decode code 360 = .ok (.aload_n 0, 1) := by decide +kernel
theorem k_Law_law_361 : decode code 361 = .ok (.iload_n 3, 1) := by decide +kernel
theorem k_Law_law_362 : decode code 362 = .ok (.iconst 1, 1) := by decide +kernel
theorem k_Law_law_363 : decode code 363 = .ok (.iadd, 1) := by decide +kernel
theorem k_Law_law_364 : decode code 364 = .ok (.iaload, 1) := by decide +kernel
theorem k_Law_law_365 : decode code 365 = .ok (.invokevirtual 44, 3) := by decide +kernel
theorem k_Law_law_368 : decode code 368 = .ok (.aload_n 2, 1) := by decide +kernel
theorem k_Law_law_369 : decode code 369 = .ok (.aload_n 0, 1) := by decide +kernel
theorem k_Law_law_370 : decode code 370 = .ok (.iload_n 3, 1) := by decide +kernel
theorem k_Law_law_371 : decode code 371 = .ok (.iconst 1, 1) := by decide +kernel
theorem k_Law_law_372 : decode code 372 = .ok (.iadd, 1) := by decide +kernel
theorem k_Law_law_373 : decode code 373 = .ok (.iaload, 1) := by decide +kernel
theorem k_Law_law_374 : decode code 374 = .ok (.invokevirtual 47, 3) := by decide +kernel
theorem k_Law_law_377 : decode code 377 = .ok (.if_icmp .eq 492, 3) := by decide +kernel
theorem k_Law_law_380 : decode code 380 = .ok (.iconst 0, 1) := by decide +kernel
theorem k_Law_law_381 : decode code 381 = .ok (.ireturn, 1) := by decide +kernel
theorem k_Law_law_382 : decode code 382 = .ok (.aload_n 1, 1) := by decide +kernel
theorem k_Law_law_383 : decode code 383 = .ok (.aload_n 0, 1) := by decide +kernel
theorem k_Law_law_384 : decode code 384 = .ok (.iload_n 3, 1) := by decide +kernel
theorem k_Law_law_385 : decode code 385 = .ok (.iconst 1, 1) := by decide +kernel
theorem k_Law_law_386 : decode code 386 = .ok (.iadd, 1) := by decide +kernel
theorem k_Law_law_387 : decode code 387 = .ok (.iaload, 1) := by decide +kernel
theorem k_Law_law_388 : decode code 388 = .ok (.invokevirtual 48, 3) := by decide +kernel
theorem k_Law_law_391 : decode code 391 = .ok (.aload_n 2, 1) := by decide +kernel
theorem k_Law_law_392 : decode code 392 = .ok (.aload_n 0, 1) := by decide +kernel
theorem k_Law_law_393 : decode code 393 = .ok (.iload_n 3, 1) := by decide +kernel
theorem k_Law_law_394 : decode code 394 = .ok (.iconst 1, 1) := by decide +kernel
theorem k_Law_law_395 : decode code 395 = .ok (.iadd, 1) := by decide +kernel
theorem k_Law_law_396 : decode code 396 = .ok (.iaload, 1) := by decide +kernel
theorem k_Law_law_397 : decode code 397 = .ok (.invokevirtual 51, 3) := by decide +kernel
theorem k_Law_law_400 : decode code 400 = .ok (.if_icmp .eq 469, 3) := by decide +kernel
theorem k_Law_law_403 : decode code 403 = .ok (.iconst 0, 1) := by decide +kernel
theorem k_Law_law_404 : decode code 404 = .ok (.ireturn, 1) := by decide +kernel
theorem k_Law_law_405 : decode code 405 = .ok (.aload_n 1, 1) := by decide +kernel
theorem k_Law_law_406 : decode code 406 = .ok (.aload_n 0, 1) := by decide +kernel
theorem k_Law_law_407 : decode code 407 = .ok (.iload_n 3, 1) := by decide +kernel
theorem k_Law_law_408 : decode code 408 = .ok (.iconst 1, 1) := by decide +kernel
theorem k_Law_law_409 : decode code 409 = .ok (.iadd, 1) := by decide +kernel
theorem k_Law_law_410 : decode code 410 = .ok (.iaload, 1) := by decide +kernel
theorem k_Law_law_411 : decode code 411 = .ok (.aload_n 0, 1) := by decide +kernel
theorem k_Law_law_412 : decode code 412 = .ok (.iload_n 3, 1) := by decide +kernel
theorem k_Law_law_413 : decode code 413 = .ok (.iconst 2, 1) := by decide +kernel
theorem k_Law_law_414 : decode code 414 = .ok (.iadd, 1) := by decide +kernel
theorem k_Law_law_415 : decode code 415 = .ok (.iaload, 1) := by decide +kernel
theorem k_Law_law_416 : decode code 416 = .ok (.invokevirtual 52, 3) := by decide +kernel
theorem k_Law_law_419 : decode code 419 = .ok (.aload_n 2, 1) := by decide +kernel
theorem k_Law_law_420 : decode code 420 = .ok (.aload_n 0, 1) := by decide +kernel
theorem k_Law_law_421 : decode code 421 = .ok (.iload_n 3, 1) := by decide +kernel
theorem k_Law_law_422 : decode code 422 = .ok (.iconst 1, 1) := by decide +kernel
theorem k_Law_law_423 : decode code 423 = .ok (.iadd, 1) := by decide +kernel
theorem k_Law_law_424 : decode code 424 = .ok (.iaload, 1) := by decide +kernel
theorem k_Law_law_425 : decode code 425 = .ok (.aload_n 0, 1) := by decide +kernel
theorem k_Law_law_426 : decode code 426 = .ok (.iload_n 3, 1) := by decide +kernel
theorem k_Law_law_427 : decode code 427 = .ok (.iconst 2, 1) := by decide +kernel
theorem k_Law_law_428 : decode code 428 = .ok (.iadd, 1) := by decide +kernel
theorem k_Law_law_429 : decode code 429 = .ok (.iaload, 1) := by decide +kernel
theorem k_Law_law_430 : decode code 430 = .ok (.invokevirtual 55, 3) := by decide +kernel
theorem k_Law_law_433 : decode code 433 = .ok (.if_icmp .eq 436, 3) := by decide +kernel
theorem k_Law_law_436 : decode code 436 = .ok (.iconst 0, 1) := by decide +kernel
theorem k_Law_law_437 : decode code 437 = .ok (.ireturn, 1) := by decide +kernel
theorem k_Law_law_438 : decode code 438 = .ok (.aload_n 1, 1) := by decide +kernel
theorem k_Law_law_439 : decode code 439 = .ok (.aload_n 0, 1) := by decide +kernel
theorem k_Law_law_440 : decode code 440 = .ok (.iload_n 3, 1) := by decide +kernel
theorem k_Law_law_441 : decode code 441 = .ok (.iconst 1, 1) := by decide +kernel
theorem k_Law_law_442 : decode code 442 = .ok (.iadd, 1) := by decide +kernel
theorem k_Law_law_443 : decode code 443 = .ok (.iaload, 1) := by decide +kernel
theorem k_Law_law_444 : decode code 444 = .ok (.invokevirtual 56, 3) := by decide +kernel
theorem k_Law_law_447 : decode code 447 = .ok (.aload_n 2, 1) := by decide +kernel
theorem k_Law_law_448 : decode code 448 = .ok (.aload_n 0, 1) := by decide +kernel
theorem k_Law_law_449 : decode code 449 = .ok (.iload_n 3, 1) := by decide +kernel
theorem k_Law_law_450 : decode code 450 = .ok (.iconst 1, 1) := by decide +kernel
theorem k_Law_law_451 : decode code 451 = .ok (.iadd, 1) := by decide +kernel
theorem k_Law_law_452 : decode code 452 = .ok (.iaload, 1) := by decide +kernel
theorem k_Law_law_453 : decode code 453 = .ok (.invokevirtual 59, 3) := by decide +kernel
theorem k_Law_law_456 : decode code 456 = .ok (.if_icmp .eq 413, 3) := by decide +kernel
theorem k_Law_law_459 : decode code 459 = .ok (.iconst 0, 1) := by decide +kernel
theorem k_Law_law_460 : decode code 460 = .ok (.ireturn, 1) := by decide +kernel
theorem k_Law_law_461 : decode code 461 = .ok (.aload_n 1, 1) := by decide +kernel
theorem k_Law_law_462 : decode code 462 = .ok (.aload_n 0, 1) := by decide +kernel
theorem k_Law_law_463 : decode code 463 = .ok (.iload_n 3, 1) := by decide +kernel
theorem k_Law_law_464 : decode code 464 = .ok (.iconst 1, 1) := by decide +kernel
theorem k_Law_law_465 : decode code 465 = .ok (.iadd, 1) := by decide +kernel
theorem k_Law_law_466 : decode code 466 = .ok (.iaload, 1) := by decide +kernel
theorem k_Law_law_467 : decode code 467 = .ok (.invokevirtual 60, 3) := by decide +kernel
theorem k_Law_law_470 : decode code 470 = .ok (.aload_n 2, 1) := by decide +kernel
theorem k_Law_law_471 : decode code 471 = .ok (.aload_n 0, 1) := by decide +kernel
theorem k_Law_law_472 : decode code 472 = .ok (.iload_n 3, 1) := by decide +kernel
theorem k_Law_law_473 : decode code 473 = .ok (.iconst 1, 1) := by decide +kernel
theorem k_Law_law_474 : decode code 474 = .ok (.iadd, 1) := by decide +kernel
theorem k_Law_law_475 : decode code 475 = .ok (.iaload, 1) := by decide +kernel
theorem k_Law_law_476 : decode code 476 = .ok (.invokevirtual 63, 3) := by decide +kernel
theorem k_Law_law_479 : decode code 479 = .ok (.if_icmp .eq 390, 3) := by decide +kernel
theorem k_Law_law_482 : decode code 482 = .ok (.iconst 0, 1) := by decide +kernel
theorem k_Law_law_483 : decode code 483 = .ok (.ireturn, 1) := by decide +kernel
theorem k_Law_law_484 : decode code 484 = .ok (.aload_n 1, 1) := by decide +kernel
theorem k_Law_law_485 : decode code 485 = .ok (.invokevirtual 64, 3) := by decide +kernel
theorem k_Law_law_488 : decode code 488 = .ok (.aload_n 2, 1) := by decide +kernel
theorem k_Law_law_489 : decode code 489 = .ok (.invokevirtual 67, 3) := by decide +kernel
theorem k_Law_law_492 : decode code 492 = .ok (.if_icmp .eq 377, 3) := by decide +kernel
theorem k_Law_law_495 : decode code 495 = .ok (.iconst 0, 1) := by decide +kernel
theorem k_Law_law_496 : decode code 496 = .ok (.ireturn, 1) := by decide +kernel
theorem k_Law_law_497 : decode code 497 = .ok (.aload_n 1, 1) := by decide +kernel
theorem k_Law_law_498 : decode code 498 = .ok (.aload_n 0, 1) := by decide +kernel
theorem k_Law_law_499 : decode code 499 = .ok (.iload_n 3, 1) := by decide +kernel
theorem k_Law_law_500 : decode code 500 = .ok (.iconst 1, 1) := by decide +kernel
theorem k_Law_law_501 : decode code 501 = .ok (.iadd, 1) := by decide +kernel
theorem k_Law_law_502 : decode code 502 = .ok (.iaload, 1) := by decide +kernel
theorem k_Law_law_503 : decode code 503 = .ok (.aload_n 0, 1) := by decide +kernel
theorem k_Law_law_504 : decode code 504 = .ok (.iload_n 3, 1) := by decide +kernel
theorem k_Law_law_505 : decode code 505 = .ok (.iconst 2, 1) := by decide +kernel
theorem k_Law_law_506 : decode code 506 = .ok (.iadd, 1) := by decide +kernel
theorem k_Law_law_507 : decode code 507 = .ok (.iaload, 1) := by decide +kernel
theorem k_Law_law_508 : decode code 508 = .ok (.invokevirtual 68, 3) := by decide +kernel
theorem k_Law_law_511 : decode code 511 = .ok (.aload_n 2, 1) := by decide +kernel
theorem k_Law_law_512 : decode code 512 = .ok (.aload_n 0, 1) := by decide +kernel
theorem k_Law_law_513 : decode code 513 = .ok (.iload_n 3, 1) := by decide +kernel
theorem k_Law_law_514 : decode code 514 = .ok (.iconst 1, 1) := by decide +kernel
theorem k_Law_law_515 : decode code 515 = .ok (.iadd, 1) := by decide +kernel
theorem k_Law_law_516 : decode code 516 = .ok (.iaload, 1) := by decide +kernel
theorem k_Law_law_517 : decode code 517 = .ok (.aload_n 0, 1) := by decide +kernel
theorem k_Law_law_518 : decode code 518 = .ok (.iload_n 3, 1) := by decide +kernel
theorem k_Law_law_519 : decode code 519 = .ok (.iconst 2, 1) := by decide +kernel
theorem k_Law_law_520 : decode code 520 = .ok (.iadd, 1) := by decide +kernel
theorem k_Law_law_521 : decode code 521 = .ok (.iaload, 1) := by decide +kernel
theorem k_Law_law_522 : decode code 522 = .ok (.invokevirtual 71, 3) := by decide +kernel
theorem k_Law_law_525 : decode code 525 = .ok (.if_icmp .eq 344, 3) := by decide +kernel
theorem k_Law_law_528 : decode code 528 = .ok (.iconst 0, 1) := by decide +kernel
theorem k_Law_law_529 : decode code 529 = .ok (.ireturn, 1) := by decide +kernel
theorem k_Law_law_530 : decode code 530 = .ok (.aload_n 1, 1) := by decide +kernel
theorem k_Law_law_531 : decode code 531 = .ok (.invokevirtual 72, 3) := by decide +kernel
theorem k_Law_law_534 : decode code 534 = .ok (.aload_n 2, 1) := by decide +kernel
theorem k_Law_law_535 : decode code 535 = .ok (.invokevirtual 75, 3) := by decide +kernel
theorem k_Law_law_538 : decode code 538 = .ok (.if_icmp .eq 331, 3) := by decide +kernel
theorem k_Law_law_541 : decode code 541 = .ok (.iconst 0, 1) := by decide +kernel
theorem k_Law_law_542 : decode code 542 = .ok (.ireturn, 1) := by decide +kernel
theorem k_Law_law_543 : decode code 543 = .ok (.aload_n 1, 1) := by decide +kernel
theorem k_Law_law_544 : decode code 544 = .ok (.invokevirtual 76, 3) := by decide +kernel
theorem k_Law_law_547 : decode code 547 = .ok (.aload_n 2, 1) := by decide +kernel
theorem k_Law_law_548 : decode code 548 = .ok (.invokevirtual 79, 3) := by decide +kernel
theorem k_Law_law_551 : decode code 551 = .ok (.if_icmp .eq 318, 3) := by decide +kernel
theorem k_Law_law_554 : decode code 554 = .ok (.iconst 0, 1) := by decide +kernel
theorem k_Law_law_555 : decode code 555 = .ok (.ireturn, 1) := by decide +kernel
theorem k_Law_law_556 : decode code 556 = .ok (.aload_n 1, 1) := by decide +kernel
theorem k_Law_law_557 : decode code 557 = .ok (.aload_n 0, 1) := by decide +kernel
theorem k_Law_law_558 : decode code 558 = .ok (.iload_n 3, 1) := by decide +kernel
theorem k_Law_law_559 : decode code 559 = .ok (.iconst 1, 1) := by decide +kernel
theorem k_Law_law_560 : decode code 560 = .ok (.iadd, 1) := by decide +kernel
theorem k_Law_law_561 : decode code 561 = .ok (.iaload, 1) := by decide +kernel
theorem k_Law_law_562 : decode code 562 = .ok (.invokevirtual 80, 3) := by decide +kernel
theorem k_Law_law_565 : decode code 565 = .ok (.aload_n 2, 1) := by decide +kernel
theorem k_Law_law_566 : decode code 566 = .ok (.aload_n 0, 1) := by decide +kernel
theorem k_Law_law_567 : decode code 567 = .ok (.iload_n 3, 1) := by decide +kernel
theorem k_Law_law_568 : decode code 568 = .ok (.iconst 1, 1) := by decide +kernel
theorem k_Law_law_569 : decode code 569 = .ok (.iadd, 1) := by decide +kernel
theorem k_Law_law_570 : decode code 570 = .ok (.iaload, 1) := by decide +kernel
theorem k_Law_law_571 : decode code 571 = .ok (.invokevirtual 83, 3) := by decide +kernel
theorem k_Law_law_574 : decode code 574 = .ok (.if_icmp .eq 295, 3) := by decide +kernel
theorem k_Law_law_577 : decode code 577 = .ok (.iconst 0, 1) := by decide +kernel
theorem k_Law_law_578 : decode code 578 = .ok (.ireturn, 1) := by decide +kernel
theorem k_Law_law_579 : decode code 579 = .ok (.aload_n 1, 1) := by decide +kernel
theorem k_Law_law_580 : decode code 580 = .ok (.invokevirtual 84, 3) := by decide +kernel
theorem k_Law_law_583 : decode code 583 = .ok (.aload_n 2, 1) := by decide +kernel
theorem k_Law_law_584 : decode code 584 = .ok (.invokevirtual 87, 3) := by decide +kernel
theorem k_Law_law_587 : decode code 587 = .ok (.if_icmp .eq 282, 3) := by decide +kernel
theorem k_Law_law_590 : decode code 590 = .ok (.iconst 0, 1) := by decide +kernel
theorem k_Law_law_591 : decode code 591 = .ok (.ireturn, 1) := by decide +kernel
theorem k_Law_law_592 : decode code 592 = .ok (.aload_n 1, 1) := by decide +kernel
theorem k_Law_law_593 : decode code 593 = .ok (.invokevirtual 88, 3) := by decide +kernel
theorem k_Law_law_596 : decode code 596 = .ok (.aload_n 2, 1) := by decide +kernel
theorem k_Law_law_597 : decode code 597 = .ok (.invokevirtual 91, 3) := by decide +kernel
theorem k_Law_law_600 : decode code 600 = .ok (.if_icmp .eq 269, 3) := by decide +kernel
theorem k_Law_law_603 : decode code 603 = .ok (.iconst 0, 1) := by decide +kernel
theorem k_Law_law_604 : decode code 604 = .ok (.ireturn, 1) := by decide +kernel
theorem k_Law_law_605 : decode code 605 = .ok (.aload_n 1, 1) := by decide +kernel
theorem k_Law_law_606 : decode code 606 = .ok (.aload_n 0, 1) := by decide +kernel
theorem k_Law_law_607 : decode code 607 = .ok (.iload_n 3, 1) := by decide +kernel
theorem k_Law_law_608 : decode code 608 = .ok (.iconst 1, 1) := by decide +kernel
theorem k_Law_law_609 : decode code 609 = .ok (.iadd, 1) := by decide +kernel
theorem k_Law_law_610 : decode code 610 = .ok (.iaload, 1) := by decide +kernel
theorem k_Law_law_611 : decode code 611 = .ok (.aload_n 0, 1) := by decide +kernel
theorem k_Law_law_612 : decode code 612 = .ok (.iload_n 3, 1) := by decide +kernel
theorem k_Law_law_613 : decode code 613 = .ok (.iconst 2, 1) := by decide +kernel
theorem k_Law_law_614 : decode code 614 = .ok (.iadd, 1) := by decide +kernel
theorem k_Law_law_615 : decode code 615 = .ok (.iaload, 1) := by decide +kernel
theorem k_Law_law_616 : decode code 616 = .ok (.invokevirtual 92, 3) := by decide +kernel
theorem k_Law_law_619 : decode code 619 = .ok (.aload_n 2, 1) := by decide +kernel
theorem k_Law_law_620 : decode code 620 = .ok (.aload_n 0, 1) := by decide +kernel
theorem k_Law_law_621 : decode code 621 = .ok (.iload_n 3, 1) := by decide +kernel
theorem k_Law_law_622 : decode code 622 = .ok (.iconst 1, 1) := by decide +kernel
theorem k_Law_law_623 : decode code 623 = .ok (.iadd, 1) := by decide +kernel
theorem k_Law_law_624 : decode code 624 = .ok (.iaload, 1) := by decide +kernel
theorem k_Law_law_625 : decode code 625 = .ok (.aload_n 0, 1) := by decide +kernel
theorem k_Law_law_626 : decode code 626 = .ok (.iload_n 3, 1) := by decide +kernel
theorem k_Law_law_627 : decode code 627 = .ok (.iconst 2, 1) := by decide +kernel
theorem k_Law_law_628 : decode code 628 = .ok (.iadd, 1) := by decide +kernel
theorem k_Law_law_629 : decode code 629 = .ok (.iaload, 1) := by decide +kernel
theorem k_Law_law_630 : decode code 630 = .ok (.invokevirtual 96, 3) := by decide +kernel
theorem k_Law_law_633 : decode code 633 = .ok (.lcmp, 1) := by decide +kernel
theorem k_Law_law_634 : decode code 634 = .ok (.ifCond .eq 235, 3) := by decide +kernel
theorem k_Law_law_637 : decode code 637 = .ok (.iconst 0, 1) := by decide +kernel
theorem k_Law_law_638 : decode code 638 = .ok (.ireturn, 1) := by decide +kernel
theorem k_Law_law_639 : decode code 639 = .ok (.aload_n 1, 1) := by decide +kernel
theorem k_Law_law_640 : decode code 640 = .ok (.aload_n 0, 1) := by decide +kernel
theorem k_Law_law_641 : decode code 641 = .ok (.iload_n 3, 1) := by decide +kernel
theorem k_Law_law_642 : decode code 642 = .ok (.iconst 1, 1) := by decide +kernel
theorem k_Law_law_643 : decode code 643 = .ok (.iadd, 1) := by decide +kernel
theorem k_Law_law_644 : decode code 644 = .ok (.iaload, 1) := by decide +kernel
theorem k_Law_law_645 : decode code 645 = .ok (.aload_n 0, 1) := by decide +kernel
theorem k_Law_law_646 : decode code 646 = .ok (.iload_n 3, 1) := by decide +kernel
theorem k_Law_law_647 : decode code 647 = .ok (.iconst 2, 1) := by decide +kernel
theorem k_Law_law_648 : decode code 648 = .ok (.iadd, 1) := by decide +kernel
theorem k_Law_law_649 : decode code 649 = .ok (.iaload, 1) := by decide +kernel
theorem k_Law_law_650 : decode code 650 = .ok (.invokevirtual 97, 3) := by decide +kernel
theorem k_Law_law_653 : decode code 653 = .ok (.aload_n 2, 1) := by decide +kernel
theorem k_Law_law_654 : decode code 654 = .ok (.aload_n 0, 1) := by decide +kernel
theorem k_Law_law_655 : decode code 655 = .ok (.iload_n 3, 1) := by decide +kernel
theorem k_Law_law_656 : decode code 656 = .ok (.iconst 1, 1) := by decide +kernel
theorem k_Law_law_657 : decode code 657 = .ok (.iadd, 1) := by decide +kernel
theorem k_Law_law_658 : decode code 658 = .ok (.iaload, 1) := by decide +kernel
theorem k_Law_law_659 : decode code 659 = .ok (.aload_n 0, 1) := by decide +kernel
theorem k_Law_law_660 : decode code 660 = .ok (.iload_n 3, 1) := by decide +kernel
theorem k_Law_law_661 : decode code 661 = .ok (.iconst 2, 1) := by decide +kernel
theorem k_Law_law_662 : decode code 662 = .ok (.iadd, 1) := by decide +kernel
theorem k_Law_law_663 : decode code 663 = .ok (.iaload, 1) := by decide +kernel
theorem k_Law_law_664 : decode code 664 = .ok (.invokevirtual 100, 3) := by decide +kernel
theorem k_Law_law_667 : decode code 667 = .ok (.if_icmp .eq 202, 3) := by decide +kernel
theorem k_Law_law_670 : decode code 670 = .ok (.iconst 0, 1) := by decide +kernel
theorem k_Law_law_671 : decode code 671 = .ok (.ireturn, 1) := by decide +kernel
theorem k_Law_law_672 : decode code 672 = .ok (.aload_n 1, 1) := by decide +kernel
theorem k_Law_law_673 : decode code 673 = .ok (.aload_n 0, 1) := by decide +kernel
theorem k_Law_law_674 : decode code 674 = .ok (.iload_n 3, 1) := by decide +kernel
theorem k_Law_law_675 : decode code 675 = .ok (.iconst 1, 1) := by decide +kernel
theorem k_Law_law_676 : decode code 676 = .ok (.iadd, 1) := by decide +kernel
theorem k_Law_law_677 : decode code 677 = .ok (.iaload, 1) := by decide +kernel
theorem k_Law_law_678 : decode code 678 = .ok (.invokevirtual 101, 3) := by decide +kernel
theorem k_Law_law_681 : decode code 681 = .ok (.aload_n 2, 1) := by decide +kernel
theorem k_Law_law_682 : decode code 682 = .ok (.aload_n 0, 1) := by decide +kernel
theorem k_Law_law_683 : decode code 683 = .ok (.iload_n 3, 1) := by decide +kernel
theorem k_Law_law_684 : decode code 684 = .ok (.iconst 1, 1) := by decide +kernel
theorem k_Law_law_685 : decode code 685 = .ok (.iadd, 1) := by decide +kernel
theorem k_Law_law_686 : decode code 686 = .ok (.iaload, 1) := by decide +kernel
theorem k_Law_law_687 : decode code 687 = .ok (.invokevirtual 104, 3) := by decide +kernel
theorem k_Law_law_690 : decode code 690 = .ok (.if_icmp .eq 179, 3) := by decide +kernel
theorem k_Law_law_693 : decode code 693 = .ok (.iconst 0, 1) := by decide +kernel
theorem k_Law_law_694 : decode code 694 = .ok (.ireturn, 1) := by decide +kernel
theorem k_Law_law_695 : decode code 695 = .ok (.aload_n 1, 1) := by decide +kernel
theorem k_Law_law_696 : decode code 696 = .ok (.invokevirtual 105, 3) := by decide +kernel
theorem k_Law_law_699 : decode code 699 = .ok (.aload_n 2, 1) := by decide +kernel
theorem k_Law_law_700 : decode code 700 = .ok (.invokevirtual 108, 3) := by decide +kernel
theorem k_Law_law_703 : decode code 703 = .ok (.if_icmp .eq 166, 3) := by decide +kernel
theorem k_Law_law_706 : decode code 706 = .ok (.iconst 0, 1) := by decide +kernel
theorem k_Law_law_707 : decode code 707 = .ok (.ireturn, 1) := by decide +kernel
theorem k_Law_law_708 : decode code 708 = .ok (.aload_n 1, 1) := by decide +kernel
theorem k_Law_law_709 : decode code 709 = .ok (.aload_n 0, 1) := by decide +kernel
theorem k_Law_law_710 : decode code 710 = .ok (.iload_n 3, 1) := by decide +kernel
theorem k_Law_law_711 : decode code 711 = .ok (.iconst 1, 1) := by decide +kernel
theorem k_Law_law_712 : decode code 712 = .ok (.iadd, 1) := by decide +kernel
theorem k_Law_law_713 : decode code 713 = .ok (.iaload, 1) := by decide +kernel
theorem k_Law_law_714 : decode code 714 = .ok (.invokevirtual 109, 3) := by decide +kernel
theorem k_Law_law_717 : decode code 717 = .ok (.aload_n 2, 1) := by decide +kernel
theorem k_Law_law_718 : decode code 718 = .ok (.aload_n 0, 1) := by decide +kernel
theorem k_Law_law_719 : decode code 719 = .ok (.iload_n 3, 1) := by decide +kernel
theorem k_Law_law_720 : decode code 720 = .ok (.iconst 1, 1) := by decide +kernel
theorem k_Law_law_721 : decode code 721 = .ok (.iadd, 1) := by decide +kernel
theorem k_Law_law_722 : decode code 722 = .ok (.iaload, 1) := by decide +kernel
theorem k_Law_law_723 : decode code 723 = .ok (.invokevirtual 112, 3) := by decide +kernel
theorem k_Law_law_726 : decode code 726 = .ok (.if_icmp .eq 143, 3) := by decide +kernel
theorem k_Law_law_729 : decode code 729 = .ok (.iconst 0, 1) := by decide +kernel
theorem k_Law_law_730 : decode code 730 = .ok (.ireturn, 1) := by decide +kernel
theorem k_Law_law_731 : decode code 731 = .ok (.aload_n 1, 1) := by decide +kernel
theorem k_Law_law_732 : decode code 732 = .ok (.aload_n 0, 1) := by decide +kernel
theorem k_Law_law_733 : decode code 733 = .ok (.iload_n 3, 1) := by decide +kernel
theorem k_Law_law_734 : decode code 734 = .ok (.iconst 1, 1) := by decide +kernel
theorem k_Law_law_735 : decode code 735 = .ok (.iadd, 1) := by decide +kernel
theorem k_Law_law_736 : decode code 736 = .ok (.iaload, 1) := by decide +kernel
theorem k_Law_law_737 : decode code 737 = .ok (.invokevirtual 113, 3) := by decide +kernel
theorem k_Law_law_740 : decode code 740 = .ok (.aload_n 2, 1) := by decide +kernel
theorem k_Law_law_741 : decode code 741 = .ok (.aload_n 0, 1) := by decide +kernel
theorem k_Law_law_742 : decode code 742 = .ok (.iload_n 3, 1) := by decide +kernel
theorem k_Law_law_743 : decode code 743 = .ok (.iconst 1, 1) := by decide +kernel
theorem k_Law_law_744 : decode code 744 = .ok (.iadd, 1) := by decide +kernel
theorem k_Law_law_745 : decode code 745 = .ok (.iaload, 1) := by decide +kernel
theorem k_Law_law_746 : decode code 746 = .ok (.invokevirtual 116, 3) := by decide +kernel
theorem k_Law_law_749 : decode code 749 = .ok (.if_icmp .eq 120, 3) := by decide +kernel
theorem k_Law_law_752 : decode code 752 = .ok (.iconst 0, 1) := by decide +kernel
theorem k_Law_law_753 : decode code 753 = .ok (.ireturn, 1) := by decide +kernel
theorem k_Law_law_754 : decode code 754 = .ok (.aload_n 1, 1) := by decide +kernel
theorem k_Law_law_755 : decode code 755 = .ok (.aload_n 0, 1) := by decide +kernel
theorem k_Law_law_756 : decode code 756 = .ok (.iload_n 3, 1) := by decide +kernel
theorem k_Law_law_757 : decode code 757 = .ok (.iconst 1, 1) := by decide +kernel
theorem k_Law_law_758 : decode code 758 = .ok (.iadd, 1) := by decide +kernel
theorem k_Law_law_759 : decode code 759 = .ok (.iaload, 1) := by decide +kernel
theorem k_Law_law_760 : decode code 760 = .ok (.aload_n 0, 1) := by decide +kernel
theorem k_Law_law_761 : decode code 761 = .ok (.iload_n 3, 1) := by decide +kernel
theorem k_Law_law_762 : decode code 762 = .ok (.iconst 2, 1) := by decide +kernel
theorem k_Law_law_763 : decode code 763 = .ok (.iadd, 1) := by decide +kernel
theorem k_Law_law_764 : decode code 764 = .ok (.iaload, 1) := by decide +kernel
theorem k_Law_law_765 : decode code 765 = .ok (.invokevirtual 117, 3) := by decide +kernel
theorem k_Law_law_768 : decode code 768 = .ok (.aload_n 2, 1) := by decide +kernel
theorem k_Law_law_769 : decode code 769 = .ok (.aload_n 0, 1) := by decide +kernel
theorem k_Law_law_770 : decode code 770 = .ok (.iload_n 3, 1) := by decide +kernel
theorem k_Law_law_771 : decode code 771 = .ok (.iconst 1, 1) := by decide +kernel
theorem k_Law_law_772 : decode code 772 = .ok (.iadd, 1) := by decide +kernel
theorem k_Law_law_773 : decode code 773 = .ok (.iaload, 1) := by decide +kernel
theorem k_Law_law_774 : decode code 774 = .ok (.aload_n 0, 1) := by decide +kernel
theorem k_Law_law_775 : decode code 775 = .ok (.iload_n 3, 1) := by decide +kernel
theorem k_Law_law_776 : decode code 776 = .ok (.iconst 2, 1) := by decide +kernel
theorem k_Law_law_777 : decode code 777 = .ok (.iadd, 1) := by decide +kernel
theorem k_Law_law_778 : decode code 778 = .ok (.iaload, 1) := by decide +kernel
theorem k_Law_law_779 : decode code 779 = .ok (.invokevirtual 120, 3) := by decide +kernel
theorem k_Law_law_782 : decode code 782 = .ok (.if_icmp .eq 87, 3) := by decide +kernel
theorem k_Law_law_785 : decode code 785 = .ok (.iconst 0, 1) := by decide +kernel
theorem k_Law_law_786 : decode code 786 = .ok (.ireturn, 1) := by decide +kernel
theorem k_Law_law_787 : decode code 787 = .ok (.aload_n 1, 1) := by decide +kernel
theorem k_Law_law_788 : decode code 788 = .ok (.aload_n 0, 1) := by decide +kernel
theorem k_Law_law_789 : decode code 789 = .ok (.iload_n 3, 1) := by decide +kernel
theorem k_Law_law_790 : decode code 790 = .ok (.iconst 1, 1) := by decide +kernel
theorem k_Law_law_791 : decode code 791 = .ok (.iadd, 1) := by decide +kernel
theorem k_Law_law_792 : decode code 792 = .ok (.iaload, 1) := by decide +kernel
theorem k_Law_law_793 : decode code 793 = .ok (.aload_n 0, 1) := by decide +kernel
theorem k_Law_law_794 : decode code 794 = .ok (.iload_n 3, 1) := by decide +kernel
theorem k_Law_law_795 : decode code 795 = .ok (.iconst 2, 1) := by decide +kernel
theorem k_Law_law_796 : decode code 796 = .ok (.iadd, 1) := by decide +kernel
theorem k_Law_law_797 : decode code 797 = .ok (.iaload, 1) := by decide +kernel
theorem k_Law_law_798 : decode code 798 = .ok (.invokevirtual 121, 3) := by decide +kernel
theorem k_Law_law_801 : decode code 801 = .ok (.aload_n 2, 1) := by decide +kernel
theorem k_Law_law_802 : decode code 802 = .ok (.aload_n 0, 1) := by decide +kernel
theorem k_Law_law_803 : decode code 803 = .ok (.iload_n 3, 1) := by decide +kernel
theorem k_Law_law_804 : decode code 804 = .ok (.iconst 1, 1) := by decide +kernel
theorem k_Law_law_805 : decode code 805 = .ok (.iadd, 1) := by decide +kernel
theorem k_Law_law_806 : decode code 806 = .ok (.iaload, 1) := by decide +kernel
theorem k_Law_law_807 : decode code 807 = .ok (.aload_n 0, 1) := by decide +kernel
theorem k_Law_law_808 : decode code 808 = .ok (.iload_n 3, 1) := by decide +kernel
theorem k_Law_law_809 : decode code 809 = .ok (.iconst 2, 1) := by decide +kernel
theorem k_Law_law_810 : decode code 810 = .ok (.iadd, 1) := by decide +kernel
theorem k_Law_law_811 : decode code 811 = .ok (.iaload, 1) := by decide +kernel
theorem k_Law_law_812 : decode code 812 = .ok (.invokevirtual 124, 3) := by decide +kernel
theorem k_Law_law_815 : decode code 815 = .ok (.if_icmp .eq 54, 3) := by decide +kernel
theorem k_Law_law_818 : decode code 818 = .ok (.iconst 0, 1) := by decide +kernel
theorem k_Law_law_819 : decode code 819 = .ok (.ireturn, 1) := by decide +kernel
theorem k_Law_law_820 : decode code 820 = .ok (.aload_n 1, 1) := by decide +kernel
theorem k_Law_law_821 : decode code 821 = .ok (.invokevirtual 125, 3) := by decide +kernel
theorem k_Law_law_824 : decode code 824 = .ok (.aload_n 2, 1) := by decide +kernel
theorem k_Law_law_825 : decode code 825 = .ok (.invokevirtual 128, 3) := by decide +kernel
theorem k_Law_law_828 : decode code 828 = .ok (.if_icmp .eq 41, 3) := by decide +kernel
theorem k_Law_law_831 : decode code 831 = .ok (.iconst 0, 1) := by decide +kernel
theorem k_Law_law_832 : decode code 832 = .ok (.ireturn, 1) := by decide +kernel
theorem k_Law_law_833 : decode code 833 = .ok (.aload_n 1, 1) := by decide +kernel
theorem k_Law_law_834 : decode code 834 = .ok (.invokevirtual 129, 3) := by decide +kernel
theorem k_Law_law_837 : decode code 837 = .ok (.aload_n 2, 1) := by decide +kernel
theorem k_Law_law_838 : decode code 838 = .ok (.invokevirtual 132, 3) := by decide +kernel
theorem k_Law_law_841 : decode code 841 = .ok (.if_icmp .eq 28, 3) := by decide +kernel
theorem k_Law_law_844 : decode code 844 = .ok (.iconst 0, 1) := by decide +kernel
theorem k_Law_law_845 : decode code 845 = .ok (.ireturn, 1) := by decide +kernel
theorem k_Law_law_846 : decode code 846 = .ok (.aload_n 1, 1) := by decide +kernel
theorem k_Law_law_847 : decode code 847 = .ok (.aload_n 0, 1) := by decide +kernel
theorem k_Law_law_848 : decode code 848 = .ok (.iload_n 3, 1) := by decide +kernel
theorem k_Law_law_849 : decode code 849 = .ok (.iconst 1, 1) := by decide +kernel
theorem k_Law_law_850 : decode code 850 = .ok (.iadd, 1) := by decide +kernel
theorem k_Law_law_851 : decode code 851 = .ok (.iaload, 1) := by decide +kernel
theorem k_Law_law_852 : decode code 852 = .ok (.invokevirtual 133, 3) := by decide +kernel
theorem k_Law_law_855 : decode code 855 = .ok (.aload_n 2, 1) := by decide +kernel
theorem k_Law_law_856 : decode code 856 = .ok (.aload_n 0, 1) := by decide +kernel
theorem k_Law_law_857 : decode code 857 = .ok (.iload_n 3, 1) := by decide +kernel
theorem k_Law_law_858 : decode code 858 = .ok (.iconst 1, 1) := by decide +kernel
theorem k_Law_law_859 : decode code 859 = .ok (.iadd, 1) := by decide +kernel
theorem k_Law_law_860 : decode code 860 = .ok (.iaload, 1) := by decide +kernel
theorem k_Law_law_861 : decode code 861 = .ok (.invokevirtual 136, 3) := by decide +kernel
theorem k_Law_law_864 : decode code 864 = .ok (.if_icmp .eq 5, 3) := by decide +kernel
theorem k_Law_law_867 : decode code 867 = .ok (.iconst 0, 1) := by decide +kernel
theorem k_Law_law_868 : decode code 868 = .ok (.ireturn, 1) := by decide +kernel
theorem k_Law_law_869 : decode code 869 = .ok (.iinc 3 3, 3) := by decide +kernel
theorem k_Law_law_872 : decode code 872 = .ok (.goto (-854), 3) := by decide +kernel
theorem k_Law_law_875 : decode code 875 = .ok (.iconst 1, 1) := by decide +kernel
theorem k_Law_law_876 : decode code 876 = .ok (.ireturn, 1) := by decide +kernel

theorem pMS.obj {h : AH} {m : Nat} {S : St} (p : pMS h m S) : ∃ fs, h.2 m = some (aO 8 fs) := by
  obtain ⟨X, a, ⟨fp, sn, ho, -⟩, -⟩ := p
  exact ⟨_, ho⟩
theorem wSt.v13 {S : St} (w : wSt S) : vK (nK S) 13 6 := ⟨w.1.1, by have := w.1.2.1; omega, w.1.2.2⟩
