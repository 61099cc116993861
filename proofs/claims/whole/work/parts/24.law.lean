theorem k0 : kd 0 = 8 := by decide +kernel
theorem k110 : kd 110 = 9 := by decide +kernel
theorem k120 : kd 120 = 22 := by decide +kernel
theorem w_lbL : Cond.methodLink RL 97 yL_bucket ∈ lw_tbl := wi 1197 (by decide +kernel)
theorem w_lbS : Cond.static yL_bucket ∈ lw_tbl := wi 1198 (by decide +kernel)
theorem w_lbI : Cond.initialized RL ∈ lw_tbl := wi 93 (by decide +kernel)
def R_law : String := "QueueKeeperLaw"
def lw_P (b : Addr) (xs : List Int32) (args : Array Value) (s : State) : Prop := args = #[.ref b] ∧ s.IntsAt b xs ∧ xs.length ≤ 3072 ∧ (Jvm.Cond.and given_1 narrow_1).before args s = true
def lw_Q (_ : Array Value) (s : State) (o : Outcome) (t : State) : Prop := o = .returned (some (.int 1)) ∧ Framed s o t [] 601024 7293034
def lw_Z (below : List Frame) (a : Array Value) (s : State) : State → Prop := fun t => ∃ o, t.status = .running ∧ Ended t below o ∧ lw_Q a s o t
/-- the law's own end, with 1 on the stack, nothing written that was there before, its room as the claim has it -/
theorem lw_ret {p : Program} {l : Launch} {e : Env} {s : State} {m : MethodId} {below : List Frame} {meth : Method} {c : Code} {b : Nat} (hx : p.tables.exec = Jvm.exec) (hb : c.code = code) (hr : meth.sig.returnType = ret) (hlocks : meth.locks = false) {pc : Nat} {H : Heap} {ls : Array Slot} (hdg : decode code pc = .ok (.ireturn, 1)) : W p l e room_1 s m #[Value.ref b] below meth c H [] 601024 7293034 (lw_Z below #[Value.ref b] s) (F0 m pc ls [.int 1]) := by
  intro T hT X
  obtain ⟨fs, hret, hrun, hended, hW, hframe⟩ := X.leave (v := some (.int 1)) (hlocks := hlocks) (fun h => by rw [hr] at h; cases h)
  have hmeth' : T.vm.method? m = some meth := X.method'
  refine ⟨T.setFrames fs, ?_, .returned (some (.int 1)), hrun, hended, rfl, ⟨_, rfl⟩, hW, hframe⟩
  jvm_step X.here [X.here.top, hx, hb, hdg, hmeth', hr, ret, narrow_b1]
  (try refine ⟨rfl, ?_⟩); (try refine ⟨rfl, ?_⟩)
  first | (intro acts; rw [hret _ acts rfl rfl rfl]) | rw [hret _ _ rfl rfl rfl]
  exact Steps.refl _
/-- what holds at the law's entry: the machine, the code, the tables' words (any of lw_tbl by 'hts w (by decide +kernel)'), the script of L ints xs at the cell b, what the Statement gives of the start (any of its parts by flat_of_before) -/
def lw_At (p : Program) (s : State) (m : MethodId) (meth : Method) (c : Code) (b L : Nat) (xs : Nat → Int32) : Prop :=
  p.tables.exec = Jvm.exec ∧ c.code = code ∧ meth.sig.returnType = ret ∧ c.maxLocals = 7 ∧ s.vm.findClass R_law = some m.cls ∧ (∀ w ∈ lw_tbl, w.before #[Value.ref b] s = true) ∧ va_X b L xs s s.heap ∧ b < s.heap.size ∧ meth.locks = false ∧ (Jvm.Cond.and given_1 narrow_1).before #[Value.ref b] s = true
theorem kc_bipush_63 : (Int8.ofInt (63)).toInt32 = 63 := by decide
theorem kc_iconst_6 : Int32.ofInt (6) = 6 := by decide
theorem dL_law_23 : decode code 23 = .ok (.iload 4, 2) := by decide +kernel
theorem dL_law_25 : decode code 25 = .ok (.aload_n 0, 1) := by decide +kernel
theorem dL_law_26 : decode code 26 = .ok (.arraylength, 1) := by decide +kernel
theorem dL_law_27 : decode code 27 = .ok (.bipush 6, 2) := by decide +kernel
theorem dL_law_29 : decode code 29 = .ok (.isub, 1) := by decide +kernel
theorem dL_law_30 : decode code 30 = .ok (.if_icmp .gt 1374, 3) := by decide +kernel
theorem dL_law_33 : decode code 33 = .ok (.aload_n 0, 1) := by decide +kernel
theorem dL_law_34 : decode code 34 = .ok (.iload 4, 2) := by decide +kernel
theorem dL_law_36 : decode code 36 = .ok (.iaload, 1) := by decide +kernel
theorem dL_law_37 : decode code 37 = .ok (.bipush 63, 2) := by decide +kernel
theorem dL_law_39 : decode code 39 = .ok (.iand, 1) := by decide +kernel
theorem dL_law_40 : decode code 40 = .ok (.tableswitch 1358 0 38 #[172, 245, 270, 295, 344, 369, 382, 407, 444, 469, 506, 531, 556, 581, 618, 655, 680, 705, 730, 798, 835, 860, 897, 934, 971, 996, 1021, 1046, 1083, 1120, 1133, 1158, 1195, 1220, 1245, 1258, 1295, 1308, 1333], 172) := by decide +kernel
theorem dL_law_212 : decode code 212 = .ok (.aload_n 1, 1) := by decide +kernel
theorem dL_law_213 : decode code 213 = .ok (.aload_n 0, 1) := by decide +kernel
theorem dL_law_214 : decode code 214 = .ok (.iload 4, 2) := by decide +kernel
theorem dL_law_216 : decode code 216 = .ok (.iconst 1, 1) := by decide +kernel
theorem dL_law_217 : decode code 217 = .ok (.iadd, 1) := by decide +kernel
theorem dL_law_218 : decode code 218 = .ok (.iaload, 1) := by decide +kernel
theorem dL_law_219 : decode code 219 = .ok (.aload_n 0, 1) := by decide +kernel
theorem dL_law_220 : decode code 220 = .ok (.iload 4, 2) := by decide +kernel
theorem dL_law_222 : decode code 222 = .ok (.iconst 2, 1) := by decide +kernel
theorem dL_law_223 : decode code 223 = .ok (.iadd, 1) := by decide +kernel
theorem dL_law_224 : decode code 224 = .ok (.iaload, 1) := by decide +kernel
theorem dL_law_225 : decode code 225 = .ok (.aload_n 0, 1) := by decide +kernel
theorem dL_law_226 : decode code 226 = .ok (.iload 4, 2) := by decide +kernel
theorem dL_law_228 : decode code 228 = .ok (.iconst 3, 1) := by decide +kernel
theorem dL_law_229 : decode code 229 = .ok (.iadd, 1) := by decide +kernel
theorem dL_law_230 : decode code 230 = .ok (.iaload, 1) := by decide +kernel
theorem dL_law_231 : decode code 231 = .ok (.aload_n 0, 1) := by decide +kernel
theorem dL_law_232 : decode code 232 = .ok (.iload 4, 2) := by decide +kernel
theorem dL_law_234 : decode code 234 = .ok (.iconst 4, 1) := by decide +kernel
theorem dL_law_235 : decode code 235 = .ok (.iadd, 1) := by decide +kernel
theorem dL_law_236 : decode code 236 = .ok (.iaload, 1) := by decide +kernel
theorem dL_law_237 : decode code 237 = .ok (.aload_n 0, 1) := by decide +kernel
theorem dL_law_238 : decode code 238 = .ok (.iload 4, 2) := by decide +kernel
theorem dL_law_240 : decode code 240 = .ok (.iconst 5, 1) := by decide +kernel
theorem dL_law_241 : decode code 241 = .ok (.iadd, 1) := by decide +kernel
theorem dL_law_242 : decode code 242 = .ok (.iaload, 1) := by decide +kernel
theorem dL_law_243 : decode code 243 = .ok (.invokevirtual 21, 3) := by decide +kernel
theorem dL_law_246 : decode code 246 = .ok (.aload_n 2, 1) := by decide +kernel
theorem dL_law_247 : decode code 247 = .ok (.aload_n 0, 1) := by decide +kernel
theorem dL_law_248 : decode code 248 = .ok (.iload 4, 2) := by decide +kernel
theorem dL_law_250 : decode code 250 = .ok (.iconst 1, 1) := by decide +kernel
theorem dL_law_251 : decode code 251 = .ok (.iadd, 1) := by decide +kernel
theorem dL_law_252 : decode code 252 = .ok (.iaload, 1) := by decide +kernel
theorem dL_law_253 : decode code 253 = .ok (.aload_n 0, 1) := by decide +kernel
theorem dL_law_254 : decode code 254 = .ok (.iload 4, 2) := by decide +kernel
theorem dL_law_256 : decode code 256 = .ok (.iconst 2, 1) := by decide +kernel
theorem dL_law_257 : decode code 257 = .ok (.iadd, 1) := by decide +kernel
theorem dL_law_258 : decode code 258 = .ok (.iaload, 1) := by decide +kernel
theorem dL_law_259 : decode code 259 = .ok (.aload_n 0, 1) := by decide +kernel
theorem dL_law_260 : decode code 260 = .ok (.iload 4, 2) := by decide +kernel
theorem dL_law_262 : decode code 262 = .ok (.iconst 3, 1) := by decide +kernel
theorem dL_law_263 : decode code 263 = .ok (.iadd, 1) := by decide +kernel
theorem dL_law_264 : decode code 264 = .ok (.iaload, 1) := by decide +kernel
theorem dL_law_265 : decode code 265 = .ok (.aload_n 0, 1) := by decide +kernel
theorem dL_law_266 : decode code 266 = .ok (.iload 4, 2) := by decide +kernel
theorem dL_law_268 : decode code 268 = .ok (.iconst 4, 1) := by decide +kernel
theorem dL_law_269 : decode code 269 = .ok (.iadd, 1) := by decide +kernel
theorem dL_law_270 : decode code 270 = .ok (.iaload, 1) := by decide +kernel
theorem dL_law_271 : decode code 271 = .ok (.aload_n 0, 1) := by decide +kernel
theorem dL_law_272 : decode code 272 = .ok (.iload 4, 2) := by decide +kernel
theorem dL_law_274 : decode code 274 = .ok (.iconst 5, 1) := by decide +kernel
theorem dL_law_275 : decode code 275 = .ok (.iadd, 1) := by decide +kernel
theorem dL_law_276 : decode code 276 = .ok (.iaload, 1) := by decide +kernel
theorem dL_law_277 : decode code 277 = .ok (.invokevirtual 25, 3) := by decide +kernel
theorem dL_law_280 : decode code 280 = .ok (.if_icmp .eq 1118, 3) := by decide +kernel
theorem dL_law_283 : decode code 283 = .ok (.iconst 0, 1) := by decide +kernel
theorem dL_law_284 : decode code 284 = .ok (.ireturn, 1) := by decide +kernel
theorem dL_law_285 : decode code 285 = .ok (.aload_n 1, 1) := by decide +kernel
theorem dL_law_286 : decode code 286 = .ok (.aload_n 0, 1) := by decide +kernel
theorem dL_law_287 : decode code 287 = .ok (.iload 4, 2) := by decide +kernel
theorem dL_law_289 : decode code 289 = .ok (.iconst 1, 1) := by decide +kernel
theorem dL_law_290 : decode code 290 = .ok (.iadd, 1) := by decide +kernel
theorem dL_law_291 : decode code 291 = .ok (.iaload, 1) := by decide +kernel
theorem dL_law_292 : decode code 292 = .ok (.invokevirtual 26, 3) := by decide +kernel
theorem dL_law_295 : decode code 295 = .ok (.aload_n 2, 1) := by decide +kernel
theorem dL_law_296 : decode code 296 = .ok (.aload_n 0, 1) := by decide +kernel
theorem dL_law_297 : decode code 297 = .ok (.iload 4, 2) := by decide +kernel
theorem dL_law_299 : decode code 299 = .ok (.iconst 1, 1) := by decide +kernel
theorem dL_law_300 : decode code 300 = .ok (.iadd, 1) := by decide +kernel
theorem dL_law_301 : decode code 301 = .ok (.iaload, 1) := by decide +kernel
theorem dL_law_302 : decode code 302 = .ok (.invokevirtual 30, 3) := by decide +kernel
theorem dL_law_305 : decode code 305 = .ok (.if_icmp .eq 1093, 3) := by decide +kernel
theorem dL_law_308 : decode code 308 = .ok (.iconst 0, 1) := by decide +kernel
theorem dL_law_309 : decode code 309 = .ok (.ireturn, 1) := by decide +kernel
theorem dL_law_310 : decode code 310 = .ok (.aload_n 1, 1) := by decide +kernel
theorem dL_law_311 : decode code 311 = .ok (.aload_n 0, 1) := by decide +kernel
theorem dL_law_312 : decode code 312 = .ok (.iload 4, 2) := by decide +kernel
theorem dL_law_314 : decode code 314 = .ok (.iconst 1, 1) := by decide +kernel
theorem dL_law_315 : decode code 315 = .ok (.iadd, 1) := by decide +kernel
theorem dL_law_316 : decode code 316 = .ok (.iaload, 1) := by decide +kernel
theorem dL_law_317 : decode code 317 = .ok (.invokevirtual 31, 3) := by decide +kernel
theorem dL_law_320 : decode code 320 = .ok (.aload_n 2, 1) := by decide +kernel
theorem dL_law_321 : decode code 321 = .ok (.aload_n 0, 1) := by decide +kernel
theorem dL_law_322 : decode code 322 = .ok (.iload 4, 2) := by decide +kernel
theorem dL_law_324 : decode code 324 = .ok (.iconst 1, 1) := by decide +kernel
theorem dL_law_325 : decode code 325 = .ok (.iadd, 1) := by decide +kernel
theorem dL_law_326 : decode code 326 = .ok (.iaload, 1) := by decide +kernel
theorem dL_law_327 : decode code 327 = .ok (.invokevirtual 34, 3) := by decide +kernel
theorem dL_law_330 : decode code 330 = .ok (.if_icmp .eq 1068, 3) := by decide +kernel
theorem dL_law_333 : decode code 333 = .ok (.iconst 0, 1) := by decide +kernel
theorem dL_law_334 : decode code 334 = .ok (.ireturn, 1) := by decide +kernel
theorem dL_law_335 : decode code 335 = .ok (.aload_n 1, 1) := by decide +kernel
theorem dL_law_336 : decode code 336 = .ok (.aload_n 0, 1) := by decide +kernel
theorem dL_law_337 : decode code 337 = .ok (.iload 4, 2) := by decide +kernel
theorem dL_law_339 : decode code 339 = .ok (.iconst 1, 1) := by decide +kernel
theorem dL_law_340 : decode code 340 = .ok (.iadd, 1) := by decide +kernel
theorem dL_law_341 : decode code 341 = .ok (.iaload, 1) := by decide +kernel
theorem dL_law_342 : decode code 342 = .ok (.aload_n 0, 1) := by decide +kernel
theorem dL_law_343 : decode code 343 = .ok (.iload 4, 2) := by decide +kernel
theorem dL_law_345 : decode code 345 = .ok (.iconst 2, 1) := by decide +kernel
theorem dL_law_346 : decode code 346 = .ok (.iadd, 1) := by decide +kernel
theorem dL_law_347 : decode code 347 = .ok (.iaload, 1) := by decide +kernel
theorem dL_law_348 : decode code 348 = .ok (.aload_n 0, 1) := by decide +kernel
theorem dL_law_349 : decode code 349 = .ok (.iload 4, 2) := by decide +kernel
theorem dL_law_351 : decode code 351 = .ok (.iconst 3, 1) := by decide +kernel
theorem dL_law_352 : decode code 352 = .ok (.iadd, 1) := by decide +kernel
theorem dL_law_353 : decode code 353 = .ok (.iaload, 1) := by decide +kernel
theorem dL_law_354 : decode code 354 = .ok (.invokevirtual 35, 3) := by decide +kernel
theorem dL_law_357 : decode code 357 = .ok (.aload_n 2, 1) := by decide +kernel
theorem dL_law_358 : decode code 358 = .ok (.aload_n 0, 1) := by decide +kernel
theorem dL_law_359 : decode code 359 = .ok (.iload 4, 2) := by decide +kernel
theorem dL_law_361 : decode code 361 = .ok (.iconst 1, 1) := by decide +kernel
theorem dL_law_362 : decode code 362 = .ok (.iadd, 1) := by decide +kernel
theorem dL_law_363 : decode code 363 = .ok (.iaload, 1) := by decide +kernel
theorem dL_law_364 : decode code 364 = .ok (.aload_n 0, 1) := by decide +kernel
theorem dL_law_365 : decode code 365 = .ok (.iload 4, 2) := by decide +kernel
theorem dL_law_367 : decode code 367 = .ok (.iconst 2, 1) := by decide +kernel
theorem dL_law_368 : decode code 368 = .ok (.iadd, 1) := by decide +kernel
theorem dL_law_369 : decode code 369 = .ok (.iaload, 1) := by decide +kernel
theorem dL_law_370 : decode code 370 = .ok (.aload_n 0, 1) := by decide +kernel
theorem dL_law_371 : decode code 371 = .ok (.iload 4, 2) := by decide +kernel
theorem dL_law_373 : decode code 373 = .ok (.iconst 3, 1) := by decide +kernel
theorem dL_law_374 : decode code 374 = .ok (.iadd, 1) := by decide +kernel
theorem dL_law_375 : decode code 375 = .ok (.iaload, 1) := by decide +kernel
theorem dL_law_376 : decode code 376 = .ok (.invokevirtual 39, 3) := by decide +kernel
theorem dL_law_379 : decode code 379 = .ok (.if_icmp .eq 1019, 3) := by decide +kernel
theorem dL_law_382 : decode code 382 = .ok (.iconst 0, 1) := by decide +kernel
theorem dL_law_383 : decode code 383 = .ok (.ireturn, 1) := by decide +kernel
theorem dL_law_384 : decode code 384 = .ok (.aload_n 1, 1) := by decide +kernel
theorem dL_law_385 : decode code 385 = .ok (.aload_n 0, 1) := by decide +kernel
theorem dL_law_386 : decode code 386 = .ok (.iload 4, 2) := by decide +kernel
theorem dL_law_388 : decode code 388 = .ok (.iconst 1, 1) := by decide +kernel
theorem dL_law_389 : decode code 389 = .ok (.iadd, 1) := by decide +kernel
theorem dL_law_390 : decode code 390 = .ok (.iaload, 1) := by decide +kernel
theorem dL_law_391 : decode code 391 = .ok (.invokevirtual 40, 3) := by decide +kernel
theorem dL_law_394 : decode code 394 = .ok (.aload_n 2, 1) := by decide +kernel
theorem dL_law_395 : decode code 395 = .ok (.aload_n 0, 1) := by decide +kernel
theorem dL_law_396 : decode code 396 = .ok (.iload 4, 2) := by decide +kernel
theorem dL_law_398 : decode code 398 = .ok (.iconst 1, 1) := by decide +kernel
theorem dL_law_399 : decode code 399 = .ok (.iadd, 1) := by decide +kernel
theorem dL_law_400 : decode code 400 = .ok (.iaload, 1) := by decide +kernel
theorem dL_law_401 : decode code 401 = .ok (.invokevirtual 43, 3) := by decide +kernel
theorem dL_law_404 : decode code 404 = .ok (.if_icmp .eq 994, 3) := by decide +kernel
theorem dL_law_407 : decode code 407 = .ok (.iconst 0, 1) := by decide +kernel
theorem dL_law_408 : decode code 408 = .ok (.ireturn, 1) := by decide +kernel
theorem dL_law_409 : decode code 409 = .ok (.aload_n 1, 1) := by decide +kernel
theorem dL_law_410 : decode code 410 = .ok (.invokevirtual 44, 3) := by decide +kernel
theorem dL_law_413 : decode code 413 = .ok (.aload_n 2, 1) := by decide +kernel
theorem dL_law_414 : decode code 414 = .ok (.invokevirtual 48, 3) := by decide +kernel
theorem dL_law_417 : decode code 417 = .ok (.if_icmp .eq 981, 3) := by decide +kernel
theorem dL_law_420 : decode code 420 = .ok (.iconst 0, 1) := by decide +kernel
theorem dL_law_421 : decode code 421 = .ok (.ireturn, 1) := by decide +kernel
theorem dL_law_422 : decode code 422 = .ok (.aload_n 1, 1) := by decide +kernel
theorem dL_law_423 : decode code 423 = .ok (.aload_n 0, 1) := by decide +kernel
theorem dL_law_424 : decode code 424 = .ok (.iload 4, 2) := by decide +kernel
theorem dL_law_426 : decode code 426 = .ok (.iconst 1, 1) := by decide +kernel
theorem dL_law_427 : decode code 427 = .ok (.iadd, 1) := by decide +kernel
theorem dL_law_428 : decode code 428 = .ok (.iaload, 1) := by decide +kernel
theorem dL_law_429 : decode code 429 = .ok (.invokevirtual 49, 3) := by decide +kernel
theorem dL_law_432 : decode code 432 = .ok (.aload_n 2, 1) := by decide +kernel
theorem dL_law_433 : decode code 433 = .ok (.aload_n 0, 1) := by decide +kernel
theorem dL_law_434 : decode code 434 = .ok (.iload 4, 2) := by decide +kernel
theorem dL_law_436 : decode code 436 = .ok (.iconst 1, 1) := by decide +kernel
theorem dL_law_437 : decode code 437 = .ok (.iadd, 1) := by decide +kernel
theorem dL_law_438 : decode code 438 = .ok (.iaload, 1) := by decide +kernel
theorem dL_law_439 : decode code 439 = .ok (.invokevirtual 52, 3) := by decide +kernel
theorem dL_law_442 : decode code 442 = .ok (.if_icmp .eq 956, 3) := by decide +kernel
theorem dL_law_445 : decode code 445 = .ok (.iconst 0, 1) := by decide +kernel
theorem dL_law_446 : decode code 446 = .ok (.ireturn, 1) := by decide +kernel
theorem dL_law_447 : decode code 447 = .ok (.aload_n 1, 1) := by decide +kernel
theorem dL_law_448 : decode code 448 = .ok (.aload_n 0, 1) := by decide +kernel
theorem dL_law_449 : decode code 449 = .ok (.iload 4, 2) := by decide +kernel
theorem dL_law_451 : decode code 451 = .ok (.iconst 1, 1) := by decide +kernel
theorem dL_law_452 : decode code 452 = .ok (.iadd, 1) := by decide +kernel
theorem dL_law_453 : decode code 453 = .ok (.iaload, 1) := by decide +kernel
theorem dL_law_454 : decode code 454 = .ok (.aload_n 0, 1) := by decide +kernel
theorem dL_law_455 : decode code 455 = .ok (.iload 4, 2) := by decide +kernel
theorem dL_law_457 : decode code 457 = .ok (.iconst 2, 1) := by decide +kernel
theorem dL_law_458 : decode code 458 = .ok (.iadd, 1) := by decide +kernel
theorem dL_law_459 : decode code 459 = .ok (.iaload, 1) := by decide +kernel
theorem dL_law_460 : decode code 460 = .ok (.invokevirtual 53, 3) := by decide +kernel
theorem dL_law_463 : decode code 463 = .ok (.aload_n 2, 1) := by decide +kernel
theorem dL_law_464 : decode code 464 = .ok (.aload_n 0, 1) := by decide +kernel
theorem dL_law_465 : decode code 465 = .ok (.iload 4, 2) := by decide +kernel
theorem dL_law_467 : decode code 467 = .ok (.iconst 1, 1) := by decide +kernel
theorem dL_law_468 : decode code 468 = .ok (.iadd, 1) := by decide +kernel
theorem dL_law_469 : decode code 469 = .ok (.iaload, 1) := by decide +kernel
theorem dL_law_470 : decode code 470 = .ok (.aload_n 0, 1) := by decide +kernel
theorem dL_law_471 : decode code 471 = .ok (.iload 4, 2) := by decide +kernel
theorem dL_law_473 : decode code 473 = .ok (.iconst 2, 1) := by decide +kernel
theorem dL_law_474 : decode code 474 = .ok (.iadd, 1) := by decide +kernel
theorem dL_law_475 : decode code 475 = .ok (.iaload, 1) := by decide +kernel
theorem dL_law_476 : decode code 476 = .ok (.invokevirtual 56, 3) := by decide +kernel
theorem dL_law_479 : decode code 479 = .ok (.if_icmp .eq 919, 3) := by decide +kernel
theorem dL_law_482 : decode code 482 = .ok (.iconst 0, 1) := by decide +kernel
theorem dL_law_483 : decode code 483 = .ok (.ireturn, 1) := by decide +kernel
theorem dL_law_484 : decode code 484 = .ok (.aload_n 1, 1) := by decide +kernel
theorem dL_law_485 : decode code 485 = .ok (.aload_n 0, 1) := by decide +kernel
theorem dL_law_486 : decode code 486 = .ok (.iload 4, 2) := by decide +kernel
theorem dL_law_488 : decode code 488 = .ok (.iconst 1, 1) := by decide +kernel
theorem dL_law_489 : decode code 489 = .ok (.iadd, 1) := by decide +kernel
theorem dL_law_490 : decode code 490 = .ok (.iaload, 1) := by decide +kernel
theorem dL_law_491 : decode code 491 = .ok (.invokevirtual 57, 3) := by decide +kernel
theorem dL_law_494 : decode code 494 = .ok (.aload_n 2, 1) := by decide +kernel
theorem dL_law_495 : decode code 495 = .ok (.aload_n 0, 1) := by decide +kernel
theorem dL_law_496 : decode code 496 = .ok (.iload 4, 2) := by decide +kernel
theorem dL_law_498 : decode code 498 = .ok (.iconst 1, 1) := by decide +kernel
theorem dL_law_499 : decode code 499 = .ok (.iadd, 1) := by decide +kernel
theorem dL_law_500 : decode code 500 = .ok (.iaload, 1) := by decide +kernel
theorem dL_law_501 : decode code 501 = .ok (.invokevirtual 60, 3) := by decide +kernel
theorem dL_law_504 : decode code 504 = .ok (.if_icmp .eq 894, 3) := by decide +kernel
theorem dL_law_507 : decode code 507 = .ok (.iconst 0, 1) := by decide +kernel
theorem dL_law_508 : decode code 508 = .ok (.ireturn, 1) := by decide +kernel
theorem dL_law_509 : decode code 509 = .ok (.aload_n 1, 1) := by decide +kernel
theorem dL_law_510 : decode code 510 = .ok (.aload_n 0, 1) := by decide +kernel
theorem dL_law_511 : decode code 511 = .ok (.iload 4, 2) := by decide +kernel
theorem dL_law_513 : decode code 513 = .ok (.iconst 1, 1) := by decide +kernel
theorem dL_law_514 : decode code 514 = .ok (.iadd, 1) := by decide +kernel
theorem dL_law_515 : decode code 515 = .ok (.iaload, 1) := by decide +kernel
theorem dL_law_516 : decode code 516 = .ok (.aload_n 0, 1) := by decide +kernel
theorem dL_law_517 : decode code 517 = .ok (.iload 4, 2) := by decide +kernel
theorem dL_law_519 : decode code 519 = .ok (.iconst 2, 1) := by decide +kernel
theorem dL_law_520 : decode code 520 = .ok (.iadd, 1) := by decide +kernel
theorem dL_law_521 : decode code 521 = .ok (.iaload, 1) := by decide +kernel
theorem dL_law_522 : decode code 522 = .ok (.invokevirtual 61, 3) := by decide +kernel
theorem dL_law_525 : decode code 525 = .ok (.aload_n 2, 1) := by decide +kernel
theorem dL_law_526 : decode code 526 = .ok (.aload_n 0, 1) := by decide +kernel
theorem dL_law_527 : decode code 527 = .ok (.iload 4, 2) := by decide +kernel
theorem dL_law_529 : decode code 529 = .ok (.iconst 1, 1) := by decide +kernel
theorem dL_law_530 : decode code 530 = .ok (.iadd, 1) := by decide +kernel
theorem dL_law_531 : decode code 531 = .ok (.iaload, 1) := by decide +kernel
theorem dL_law_532 : decode code 532 = .ok (.aload_n 0, 1) := by decide +kernel
theorem dL_law_533 : decode code 533 = .ok (.iload 4, 2) := by decide +kernel
theorem dL_law_535 : decode code 535 = .ok (.iconst 2, 1) := by decide +kernel
theorem dL_law_536 : decode code 536 = .ok (.iadd, 1) := by decide +kernel
theorem dL_law_537 : decode code 537 = .ok (.iaload, 1) := by decide +kernel
theorem dL_law_538 : decode code 538 = .ok (.invokevirtual 64, 3) := by decide +kernel
theorem dL_law_541 : decode code 541 = .ok (.if_icmp .eq 857, 3) := by decide +kernel
theorem dL_law_544 : decode code 544 = .ok (.iconst 0, 1) := by decide +kernel
theorem dL_law_545 : decode code 545 = .ok (.ireturn, 1) := by decide +kernel
theorem dL_law_546 : decode code 546 = .ok (.aload_n 1, 1) := by decide +kernel
theorem dL_law_547 : decode code 547 = .ok (.aload_n 0, 1) := by decide +kernel
theorem dL_law_548 : decode code 548 = .ok (.iload 4, 2) := by decide +kernel
theorem dL_law_550 : decode code 550 = .ok (.iconst 1, 1) := by decide +kernel
theorem dL_law_551 : decode code 551 = .ok (.iadd, 1) := by decide +kernel
theorem dL_law_552 : decode code 552 = .ok (.iaload, 1) := by decide +kernel
theorem dL_law_553 : decode code 553 = .ok (.invokevirtual 65, 3) := by decide +kernel
theorem dL_law_556 : decode code 556 = .ok (.aload_n 2, 1) := by decide +kernel
theorem dL_law_557 : decode code 557 = .ok (.aload_n 0, 1) := by decide +kernel
theorem dL_law_558 : decode code 558 = .ok (.iload 4, 2) := by decide +kernel
theorem dL_law_560 : decode code 560 = .ok (.iconst 1, 1) := by decide +kernel
theorem dL_law_561 : decode code 561 = .ok (.iadd, 1) := by decide +kernel
theorem dL_law_562 : decode code 562 = .ok (.iaload, 1) := by decide +kernel
theorem dL_law_563 : decode code 563 = .ok (.invokevirtual 68, 3) := by decide +kernel
theorem dL_law_566 : decode code 566 = .ok (.if_icmp .eq 832, 3) := by decide +kernel
theorem dL_law_569 : decode code 569 = .ok (.iconst 0, 1) := by decide +kernel
theorem dL_law_570 : decode code 570 = .ok (.ireturn, 1) := by decide +kernel
theorem dL_law_571 : decode code 571 = .ok (.aload_n 1, 1) := by decide +kernel
theorem dL_law_572 : decode code 572 = .ok (.aload_n 0, 1) := by decide +kernel
theorem dL_law_573 : decode code 573 = .ok (.iload 4, 2) := by decide +kernel
theorem dL_law_575 : decode code 575 = .ok (.iconst 1, 1) := by decide +kernel
theorem dL_law_576 : decode code 576 = .ok (.iadd, 1) := by decide +kernel
theorem dL_law_577 : decode code 577 = .ok (.iaload, 1) := by decide +kernel
theorem dL_law_578 : decode code 578 = .ok (.invokevirtual 69, 3) := by decide +kernel
theorem dL_law_581 : decode code 581 = .ok (.aload_n 2, 1) := by decide +kernel
theorem dL_law_582 : decode code 582 = .ok (.aload_n 0, 1) := by decide +kernel
theorem dL_law_583 : decode code 583 = .ok (.iload 4, 2) := by decide +kernel
theorem dL_law_585 : decode code 585 = .ok (.iconst 1, 1) := by decide +kernel
theorem dL_law_586 : decode code 586 = .ok (.iadd, 1) := by decide +kernel
theorem dL_law_587 : decode code 587 = .ok (.iaload, 1) := by decide +kernel
theorem dL_law_588 : decode code 588 = .ok (.invokevirtual 72, 3) := by decide +kernel
theorem dL_law_591 : decode code 591 = .ok (.if_icmp .eq 807, 3) := by decide +kernel
theorem dL_law_594 : decode code 594 = .ok (.iconst 0, 1) := by decide +kernel
theorem dL_law_595 : decode code 595 = .ok (.ireturn, 1) := by decide +kernel
theorem dL_law_596 : decode code 596 = .ok (.aload_n 1, 1) := by decide +kernel
theorem dL_law_597 : decode code 597 = .ok (.aload_n 0, 1) := by decide +kernel
theorem dL_law_598 : decode code 598 = .ok (.iload 4, 2) := by decide +kernel
theorem dL_law_600 : decode code 600 = .ok (.iconst 1, 1) := by decide +kernel
theorem dL_law_601 : decode code 601 = .ok (.iadd, 1) := by decide +kernel
theorem dL_law_602 : decode code 602 = .ok (.iaload, 1) := by decide +kernel
theorem dL_law_603 : decode code 603 = .ok (.invokevirtual 73, 3) := by decide +kernel
theorem dL_law_606 : decode code 606 = .ok (.aload_n 2, 1) := by decide +kernel
theorem dL_law_607 : decode code 607 = .ok (.aload_n 0, 1) := by decide +kernel
theorem dL_law_608 : decode code 608 = .ok (.iload 4, 2) := by decide +kernel
theorem dL_law_610 : decode code 610 = .ok (.iconst 1, 1) := by decide +kernel
theorem dL_law_611 : decode code 611 = .ok (.iadd, 1) := by decide +kernel
theorem dL_law_612 : decode code 612 = .ok (.iaload, 1) := by decide +kernel
theorem dL_law_613 : decode code 613 = .ok (.invokevirtual 76, 3) := by decide +kernel
theorem dL_law_616 : decode code 616 = .ok (.if_icmp .eq 782, 3) := by decide +kernel
theorem dL_law_619 : decode code 619 = .ok (.iconst 0, 1) := by decide +kernel
theorem dL_law_620 : decode code 620 = .ok (.ireturn, 1) := by decide +kernel
theorem dL_law_621 : decode code 621 = .ok (.aload_n 1, 1) := by decide +kernel
theorem dL_law_622 : decode code 622 = .ok (.aload_n 0, 1) := by decide +kernel
theorem dL_law_623 : decode code 623 = .ok (.iload 4, 2) := by decide +kernel
theorem dL_law_625 : decode code 625 = .ok (.iconst 1, 1) := by decide +kernel
theorem dL_law_626 : decode code 626 = .ok (.iadd, 1) := by decide +kernel
theorem dL_law_627 : decode code 627 = .ok (.iaload, 1) := by decide +kernel
theorem dL_law_628 : decode code 628 = .ok (.aload_n 0, 1) := by decide +kernel
theorem dL_law_629 : decode code 629 = .ok (.iload 4, 2) := by decide +kernel
theorem dL_law_631 : decode code 631 = .ok (.iconst 2, 1) := by decide +kernel
theorem dL_law_632 : decode code 632 = .ok (.iadd, 1) := by decide +kernel
theorem dL_law_633 : decode code 633 = .ok (.iaload, 1) := by decide +kernel
theorem dL_law_634 : decode code 634 = .ok (.invokevirtual 77, 3) := by decide +kernel
theorem dL_law_637 : decode code 637 = .ok (.aload_n 2, 1) := by decide +kernel
theorem dL_law_638 : decode code 638 = .ok (.aload_n 0, 1) := by decide +kernel
theorem dL_law_639 : decode code 639 = .ok (.iload 4, 2) := by decide +kernel
theorem dL_law_641 : decode code 641 = .ok (.iconst 1, 1) := by decide +kernel
theorem dL_law_642 : decode code 642 = .ok (.iadd, 1) := by decide +kernel
theorem dL_law_643 : decode code 643 = .ok (.iaload, 1) := by decide +kernel
theorem dL_law_644 : decode code 644 = .ok (.aload_n 0, 1) := by decide +kernel
theorem dL_law_645 : decode code 645 = .ok (.iload 4, 2) := by decide +kernel
theorem dL_law_647 : decode code 647 = .ok (.iconst 2, 1) := by decide +kernel
theorem dL_law_648 : decode code 648 = .ok (.iadd, 1) := by decide +kernel
theorem dL_law_649 : decode code 649 = .ok (.iaload, 1) := by decide +kernel
theorem dL_law_650 : decode code 650 = .ok (.invokevirtual 80, 3) := by decide +kernel
theorem dL_law_653 : decode code 653 = .ok (.if_icmp .eq 745, 3) := by decide +kernel
theorem dL_law_656 : decode code 656 = .ok (.iconst 0, 1) := by decide +kernel
theorem dL_law_657 : decode code 657 = .ok (.ireturn, 1) := by decide +kernel
theorem dL_law_658 : decode code 658 = .ok (.aload_n 1, 1) := by decide +kernel
theorem dL_law_659 : decode code 659 = .ok (.aload_n 0, 1) := by decide +kernel
theorem dL_law_660 : decode code 660 = .ok (.iload 4, 2) := by decide +kernel
theorem dL_law_662 : decode code 662 = .ok (.iconst 1, 1) := by decide +kernel
theorem dL_law_663 : decode code 663 = .ok (.iadd, 1) := by decide +kernel
theorem dL_law_664 : decode code 664 = .ok (.iaload, 1) := by decide +kernel
theorem dL_law_665 : decode code 665 = .ok (.aload_n 0, 1) := by decide +kernel
theorem dL_law_666 : decode code 666 = .ok (.iload 4, 2) := by decide +kernel
theorem dL_law_668 : decode code 668 = .ok (.iconst 2, 1) := by decide +kernel
theorem dL_law_669 : decode code 669 = .ok (.iadd, 1) := by decide +kernel
theorem dL_law_670 : decode code 670 = .ok (.iaload, 1) := by decide +kernel
theorem dL_law_671 : decode code 671 = .ok (.invokevirtual 81, 3) := by decide +kernel
theorem dL_law_674 : decode code 674 = .ok (.aload_n 2, 1) := by decide +kernel
theorem dL_law_675 : decode code 675 = .ok (.aload_n 0, 1) := by decide +kernel
theorem dL_law_676 : decode code 676 = .ok (.iload 4, 2) := by decide +kernel
theorem dL_law_678 : decode code 678 = .ok (.iconst 1, 1) := by decide +kernel
theorem dL_law_679 : decode code 679 = .ok (.iadd, 1) := by decide +kernel
theorem dL_law_680 : decode code 680 = .ok (.iaload, 1) := by decide +kernel
theorem dL_law_681 : decode code 681 = .ok (.aload_n 0, 1) := by decide +kernel
theorem dL_law_682 : decode code 682 = .ok (.iload 4, 2) := by decide +kernel
theorem dL_law_684 : decode code 684 = .ok (.iconst 2, 1) := by decide +kernel
theorem dL_law_685 : decode code 685 = .ok (.iadd, 1) := by decide +kernel
theorem dL_law_686 : decode code 686 = .ok (.iaload, 1) := by decide +kernel
theorem dL_law_687 : decode code 687 = .ok (.invokevirtual 84, 3) := by decide +kernel
theorem dL_law_690 : decode code 690 = .ok (.if_icmp .eq 708, 3) := by decide +kernel
theorem dL_law_693 : decode code 693 = .ok (.iconst 0, 1) := by decide +kernel
theorem dL_law_694 : decode code 694 = .ok (.ireturn, 1) := by decide +kernel
theorem dL_law_695 : decode code 695 = .ok (.aload_n 1, 1) := by decide +kernel
theorem dL_law_696 : decode code 696 = .ok (.aload_n 0, 1) := by decide +kernel
theorem dL_law_697 : decode code 697 = .ok (.iload 4, 2) := by decide +kernel
theorem dL_law_699 : decode code 699 = .ok (.iconst 1, 1) := by decide +kernel
theorem dL_law_700 : decode code 700 = .ok (.iadd, 1) := by decide +kernel
theorem dL_law_701 : decode code 701 = .ok (.iaload, 1) := by decide +kernel
theorem dL_law_702 : decode code 702 = .ok (.invokevirtual 85, 3) := by decide +kernel
theorem dL_law_705 : decode code 705 = .ok (.aload_n 2, 1) := by decide +kernel
theorem dL_law_706 : decode code 706 = .ok (.aload_n 0, 1) := by decide +kernel
theorem dL_law_707 : decode code 707 = .ok (.iload 4, 2) := by decide +kernel
theorem dL_law_709 : decode code 709 = .ok (.iconst 1, 1) := by decide +kernel
theorem dL_law_710 : decode code 710 = .ok (.iadd, 1) := by decide +kernel
theorem dL_law_711 : decode code 711 = .ok (.iaload, 1) := by decide +kernel
theorem dL_law_712 : decode code 712 = .ok (.invokevirtual 88, 3) := by decide +kernel
theorem dL_law_715 : decode code 715 = .ok (.if_icmp .eq 683, 3) := by decide +kernel
theorem dL_law_718 : decode code 718 = .ok (.iconst 0, 1) := by decide +kernel
theorem dL_law_719 : decode code 719 = .ok (.ireturn, 1) := by decide +kernel
theorem dL_law_720 : decode code 720 = .ok (.aload_n 1, 1) := by decide +kernel
theorem dL_law_721 : decode code 721 = .ok (.aload_n 0, 1) := by decide +kernel
theorem dL_law_722 : decode code 722 = .ok (.iload 4, 2) := by decide +kernel
theorem dL_law_724 : decode code 724 = .ok (.iconst 1, 1) := by decide +kernel
theorem dL_law_725 : decode code 725 = .ok (.iadd, 1) := by decide +kernel
theorem dL_law_726 : decode code 726 = .ok (.iaload, 1) := by decide +kernel
theorem dL_law_727 : decode code 727 = .ok (.invokevirtual 89, 3) := by decide +kernel
theorem dL_law_730 : decode code 730 = .ok (.aload_n 2, 1) := by decide +kernel
theorem dL_law_731 : decode code 731 = .ok (.aload_n 0, 1) := by decide +kernel
theorem dL_law_732 : decode code 732 = .ok (.iload 4, 2) := by decide +kernel
theorem dL_law_734 : decode code 734 = .ok (.iconst 1, 1) := by decide +kernel
theorem dL_law_735 : decode code 735 = .ok (.iadd, 1) := by decide +kernel
theorem dL_law_736 : decode code 736 = .ok (.iaload, 1) := by decide +kernel
theorem dL_law_737 : decode code 737 = .ok (.invokevirtual 92, 3) := by decide +kernel
theorem dL_law_740 : decode code 740 = .ok (.if_icmp .eq 658, 3) := by decide +kernel
theorem dL_law_743 : decode code 743 = .ok (.iconst 0, 1) := by decide +kernel
theorem dL_law_744 : decode code 744 = .ok (.ireturn, 1) := by decide +kernel
theorem dL_law_745 : decode code 745 = .ok (.aload_n 1, 1) := by decide +kernel
theorem dL_law_746 : decode code 746 = .ok (.aload_n 0, 1) := by decide +kernel
theorem dL_law_747 : decode code 747 = .ok (.iload 4, 2) := by decide +kernel
theorem dL_law_749 : decode code 749 = .ok (.iconst 1, 1) := by decide +kernel
theorem dL_law_750 : decode code 750 = .ok (.iadd, 1) := by decide +kernel
theorem dL_law_751 : decode code 751 = .ok (.iaload, 1) := by decide +kernel
theorem dL_law_752 : decode code 752 = .ok (.invokevirtual 93, 3) := by decide +kernel
theorem dL_law_755 : decode code 755 = .ok (.aload_n 2, 1) := by decide +kernel
theorem dL_law_756 : decode code 756 = .ok (.aload_n 0, 1) := by decide +kernel
theorem dL_law_757 : decode code 757 = .ok (.iload 4, 2) := by decide +kernel
theorem dL_law_759 : decode code 759 = .ok (.iconst 1, 1) := by decide +kernel
theorem dL_law_760 : decode code 760 = .ok (.iadd, 1) := by decide +kernel
theorem dL_law_761 : decode code 761 = .ok (.iaload, 1) := by decide +kernel
theorem dL_law_762 : decode code 762 = .ok (.invokevirtual 96, 3) := by decide +kernel
theorem dL_law_765 : decode code 765 = .ok (.if_icmp .eq 633, 3) := by decide +kernel
theorem dL_law_768 : decode code 768 = .ok (.iconst 0, 1) := by decide +kernel
theorem dL_law_769 : decode code 769 = .ok (.ireturn, 1) := by decide +kernel
theorem dL_law_770 : decode code 770 = .ok (.aload_n 1, 1) := by decide +kernel
theorem dL_law_771 : decode code 771 = .ok (.aload_n 0, 1) := by decide +kernel
theorem dL_law_772 : decode code 772 = .ok (.iload 4, 2) := by decide +kernel
theorem dL_law_774 : decode code 774 = .ok (.iconst 1, 1) := by decide +kernel
theorem dL_law_775 : decode code 775 = .ok (.iadd, 1) := by decide +kernel
theorem dL_law_776 : decode code 776 = .ok (.iaload, 1) := by decide +kernel
theorem dL_law_777 : decode code 777 = .ok (.aload_n 0, 1) := by decide +kernel
theorem dL_law_778 : decode code 778 = .ok (.iload 4, 2) := by decide +kernel
theorem dL_law_780 : decode code 780 = .ok (.iconst 2, 1) := by decide +kernel
theorem dL_law_781 : decode code 781 = .ok (.iadd, 1) := by decide +kernel
theorem dL_law_782 : decode code 782 = .ok (.iaload, 1) := by decide +kernel
theorem dL_law_783 : decode code 783 = .ok (.aload_n 3, 1) := by decide +kernel
theorem dL_law_784 : decode code 784 = .ok (.invokestatic 97, 3) := by decide +kernel
theorem dL_law_787 : decode code 787 = .ok (.istore 5, 2) := by decide +kernel
theorem dL_law_789 : decode code 789 = .ok (.aload_n 2, 1) := by decide +kernel
theorem dL_law_790 : decode code 790 = .ok (.aload_n 0, 1) := by decide +kernel
theorem dL_law_791 : decode code 791 = .ok (.iload 4, 2) := by decide +kernel
theorem dL_law_793 : decode code 793 = .ok (.iconst 1, 1) := by decide +kernel
theorem dL_law_794 : decode code 794 = .ok (.iadd, 1) := by decide +kernel
theorem dL_law_795 : decode code 795 = .ok (.iaload, 1) := by decide +kernel
theorem dL_law_796 : decode code 796 = .ok (.aload_n 0, 1) := by decide +kernel
theorem dL_law_797 : decode code 797 = .ok (.iload 4, 2) := by decide +kernel
theorem dL_law_799 : decode code 799 = .ok (.iconst 2, 1) := by decide +kernel
theorem dL_law_800 : decode code 800 = .ok (.iadd, 1) := by decide +kernel
theorem dL_law_801 : decode code 801 = .ok (.iaload, 1) := by decide +kernel
theorem dL_law_802 : decode code 802 = .ok (.invokevirtual 102, 3) := by decide +kernel
theorem dL_law_805 : decode code 805 = .ok (.istore 6, 2) := by decide +kernel
theorem dL_law_807 : decode code 807 = .ok (.aload_n 2, 1) := by decide +kernel
theorem dL_law_808 : decode code 808 = .ok (.invokevirtual 103, 3) := by decide +kernel
theorem dL_law_811 : decode code 811 = .ok (.iload 5, 2) := by decide +kernel
theorem dL_law_813 : decode code 813 = .ok (.if_icmp .eq 5, 3) := by decide +kernel
theorem dL_law_816 : decode code 816 = .ok (.iconst 0, 1) := by decide +kernel
theorem dL_law_817 : decode code 817 = .ok (.ireturn, 1) := by decide +kernel
theorem dL_law_818 : decode code 818 = .ok (.iload 5, 2) := by decide +kernel
theorem dL_law_820 : decode code 820 = .ok (.ifCond .ne 15, 3) := by decide +kernel
theorem dL_law_823 : decode code 823 = .ok (.aload_n 3, 1) := by decide +kernel
theorem dL_law_824 : decode code 824 = .ok (.iconst 0, 1) := by decide +kernel
theorem dL_law_825 : decode code 825 = .ok (.laload, 1) := by decide +kernel
theorem dL_law_826 : decode code 826 = .ok (.iload 6, 2) := by decide +kernel
theorem dL_law_828 : decode code 828 = .ok (.i2l, 1) := by decide +kernel
theorem dL_law_829 : decode code 829 = .ok (.lcmp, 1) := by decide +kernel
theorem dL_law_830 : decode code 830 = .ok (.ifCond .eq 5, 3) := by decide +kernel
theorem dL_law_833 : decode code 833 = .ok (.iconst 0, 1) := by decide +kernel
theorem dL_law_834 : decode code 834 = .ok (.ireturn, 1) := by decide +kernel
theorem dL_law_835 : decode code 835 = .ok (.goto 563, 3) := by decide +kernel
theorem dL_law_838 : decode code 838 = .ok (.aload_n 1, 1) := by decide +kernel
theorem dL_law_839 : decode code 839 = .ok (.aload_n 0, 1) := by decide +kernel
theorem dL_law_840 : decode code 840 = .ok (.iload 4, 2) := by decide +kernel
theorem dL_law_842 : decode code 842 = .ok (.iconst 1, 1) := by decide +kernel
theorem dL_law_843 : decode code 843 = .ok (.iadd, 1) := by decide +kernel
theorem dL_law_844 : decode code 844 = .ok (.iaload, 1) := by decide +kernel
theorem dL_law_845 : decode code 845 = .ok (.aload_n 0, 1) := by decide +kernel
theorem dL_law_846 : decode code 846 = .ok (.iload 4, 2) := by decide +kernel
theorem dL_law_848 : decode code 848 = .ok (.iconst 2, 1) := by decide +kernel
theorem dL_law_849 : decode code 849 = .ok (.iadd, 1) := by decide +kernel
theorem dL_law_850 : decode code 850 = .ok (.iaload, 1) := by decide +kernel
theorem dL_law_851 : decode code 851 = .ok (.invokevirtual 106, 3) := by decide +kernel
theorem dL_law_854 : decode code 854 = .ok (.aload_n 2, 1) := by decide +kernel
theorem dL_law_855 : decode code 855 = .ok (.aload_n 0, 1) := by decide +kernel
theorem dL_law_856 : decode code 856 = .ok (.iload 4, 2) := by decide +kernel
theorem dL_law_858 : decode code 858 = .ok (.iconst 1, 1) := by decide +kernel
theorem dL_law_859 : decode code 859 = .ok (.iadd, 1) := by decide +kernel
theorem dL_law_860 : decode code 860 = .ok (.iaload, 1) := by decide +kernel
theorem dL_law_861 : decode code 861 = .ok (.aload_n 0, 1) := by decide +kernel
theorem dL_law_862 : decode code 862 = .ok (.iload 4, 2) := by decide +kernel
theorem dL_law_864 : decode code 864 = .ok (.iconst 2, 1) := by decide +kernel
theorem dL_law_865 : decode code 865 = .ok (.iadd, 1) := by decide +kernel
theorem dL_law_866 : decode code 866 = .ok (.iaload, 1) := by decide +kernel
theorem dL_law_867 : decode code 867 = .ok (.invokevirtual 109, 3) := by decide +kernel
theorem dL_law_870 : decode code 870 = .ok (.if_icmp .eq 528, 3) := by decide +kernel
theorem dL_law_873 : decode code 873 = .ok (.iconst 0, 1) := by decide +kernel
theorem dL_law_874 : decode code 874 = .ok (.ireturn, 1) := by decide +kernel
theorem dL_law_875 : decode code 875 = .ok (.aload_n 1, 1) := by decide +kernel
theorem dL_law_876 : decode code 876 = .ok (.aload_n 0, 1) := by decide +kernel
theorem dL_law_877 : decode code 877 = .ok (.iload 4, 2) := by decide +kernel
theorem dL_law_879 : decode code 879 = .ok (.iconst 1, 1) := by decide +kernel
theorem dL_law_880 : decode code 880 = .ok (.iadd, 1) := by decide +kernel
theorem dL_law_881 : decode code 881 = .ok (.iaload, 1) := by decide +kernel
theorem dL_law_882 : decode code 882 = .ok (.invokevirtual 110, 3) := by decide +kernel
theorem dL_law_885 : decode code 885 = .ok (.aload_n 2, 1) := by decide +kernel
theorem dL_law_886 : decode code 886 = .ok (.aload_n 0, 1) := by decide +kernel
theorem dL_law_887 : decode code 887 = .ok (.iload 4, 2) := by decide +kernel
theorem dL_law_889 : decode code 889 = .ok (.iconst 1, 1) := by decide +kernel
theorem dL_law_890 : decode code 890 = .ok (.iadd, 1) := by decide +kernel
theorem dL_law_891 : decode code 891 = .ok (.iaload, 1) := by decide +kernel
theorem dL_law_892 : decode code 892 = .ok (.invokevirtual 113, 3) := by decide +kernel
theorem dL_law_895 : decode code 895 = .ok (.if_icmp .eq 503, 3) := by decide +kernel
theorem dL_law_898 : decode code 898 = .ok (.iconst 0, 1) := by decide +kernel
theorem dL_law_899 : decode code 899 = .ok (.ireturn, 1) := by decide +kernel
theorem dL_law_900 : decode code 900 = .ok (.aload_n 1, 1) := by decide +kernel
theorem dL_law_901 : decode code 901 = .ok (.aload_n 0, 1) := by decide +kernel
theorem dL_law_902 : decode code 902 = .ok (.iload 4, 2) := by decide +kernel
theorem dL_law_904 : decode code 904 = .ok (.iconst 1, 1) := by decide +kernel
theorem dL_law_905 : decode code 905 = .ok (.iadd, 1) := by decide +kernel
theorem dL_law_906 : decode code 906 = .ok (.iaload, 1) := by decide +kernel
theorem dL_law_907 : decode code 907 = .ok (.aload_n 0, 1) := by decide +kernel
theorem dL_law_908 : decode code 908 = .ok (.iload 4, 2) := by decide +kernel
theorem dL_law_910 : decode code 910 = .ok (.iconst 2, 1) := by decide +kernel
theorem dL_law_911 : decode code 911 = .ok (.iadd, 1) := by decide +kernel
theorem dL_law_912 : decode code 912 = .ok (.iaload, 1) := by decide +kernel
theorem dL_law_913 : decode code 913 = .ok (.invokevirtual 114, 3) := by decide +kernel
theorem dL_law_916 : decode code 916 = .ok (.aload_n 2, 1) := by decide +kernel
theorem dL_law_917 : decode code 917 = .ok (.aload_n 0, 1) := by decide +kernel
theorem dL_law_918 : decode code 918 = .ok (.iload 4, 2) := by decide +kernel
theorem dL_law_920 : decode code 920 = .ok (.iconst 1, 1) := by decide +kernel
theorem dL_law_921 : decode code 921 = .ok (.iadd, 1) := by decide +kernel
theorem dL_law_922 : decode code 922 = .ok (.iaload, 1) := by decide +kernel
theorem dL_law_923 : decode code 923 = .ok (.aload_n 0, 1) := by decide +kernel
theorem dL_law_924 : decode code 924 = .ok (.iload 4, 2) := by decide +kernel
theorem dL_law_926 : decode code 926 = .ok (.iconst 2, 1) := by decide +kernel
theorem dL_law_927 : decode code 927 = .ok (.iadd, 1) := by decide +kernel
theorem dL_law_928 : decode code 928 = .ok (.iaload, 1) := by decide +kernel
theorem dL_law_929 : decode code 929 = .ok (.invokevirtual 117, 3) := by decide +kernel
theorem dL_law_932 : decode code 932 = .ok (.if_icmp .eq 466, 3) := by decide +kernel
theorem dL_law_935 : decode code 935 = .ok (.iconst 0, 1) := by decide +kernel
theorem dL_law_936 : decode code 936 = .ok (.ireturn, 1) := by decide +kernel
theorem dL_law_937 : decode code 937 = .ok (.aload_n 1, 1) := by decide +kernel
theorem dL_law_938 : decode code 938 = .ok (.aload_n 0, 1) := by decide +kernel
theorem dL_law_939 : decode code 939 = .ok (.iload 4, 2) := by decide +kernel
theorem dL_law_941 : decode code 941 = .ok (.iconst 1, 1) := by decide +kernel
theorem dL_law_942 : decode code 942 = .ok (.iadd, 1) := by decide +kernel
theorem dL_law_943 : decode code 943 = .ok (.iaload, 1) := by decide +kernel
theorem dL_law_944 : decode code 944 = .ok (.aload_n 0, 1) := by decide +kernel
theorem dL_law_945 : decode code 945 = .ok (.iload 4, 2) := by decide +kernel
theorem dL_law_947 : decode code 947 = .ok (.iconst 2, 1) := by decide +kernel
theorem dL_law_948 : decode code 948 = .ok (.iadd, 1) := by decide +kernel
theorem dL_law_949 : decode code 949 = .ok (.iaload, 1) := by decide +kernel
theorem dL_law_950 : decode code 950 = .ok (.invokevirtual 118, 3) := by decide +kernel
theorem dL_law_953 : decode code 953 = .ok (.aload_n 2, 1) := by decide +kernel
theorem dL_law_954 : decode code 954 = .ok (.aload_n 0, 1) := by decide +kernel
theorem dL_law_955 : decode code 955 = .ok (.iload 4, 2) := by decide +kernel
theorem dL_law_957 : decode code 957 = .ok (.iconst 1, 1) := by decide +kernel
theorem dL_law_958 : decode code 958 = .ok (.iadd, 1) := by decide +kernel
theorem dL_law_959 : decode code 959 = .ok (.iaload, 1) := by decide +kernel
theorem dL_law_960 : decode code 960 = .ok (.aload_n 0, 1) := by decide +kernel
theorem dL_law_961 : decode code 961 = .ok (.iload 4, 2) := by decide +kernel
theorem dL_law_963 : decode code 963 = .ok (.iconst 2, 1) := by decide +kernel
theorem dL_law_964 : decode code 964 = .ok (.iadd, 1) := by decide +kernel
theorem dL_law_965 : decode code 965 = .ok (.iaload, 1) := by decide +kernel
theorem dL_law_966 : decode code 966 = .ok (.invokevirtual 121, 3) := by decide +kernel
theorem dL_law_969 : decode code 969 = .ok (.if_icmp .eq 429, 3) := by decide +kernel
theorem dL_law_972 : decode code 972 = .ok (.iconst 0, 1) := by decide +kernel
theorem dL_law_973 : decode code 973 = .ok (.ireturn, 1) := by decide +kernel
theorem dL_law_974 : decode code 974 = .ok (.aload_n 1, 1) := by decide +kernel
theorem dL_law_975 : decode code 975 = .ok (.aload_n 0, 1) := by decide +kernel
theorem dL_law_976 : decode code 976 = .ok (.iload 4, 2) := by decide +kernel
theorem dL_law_978 : decode code 978 = .ok (.iconst 1, 1) := by decide +kernel
theorem dL_law_979 : decode code 979 = .ok (.iadd, 1) := by decide +kernel
theorem dL_law_980 : decode code 980 = .ok (.iaload, 1) := by decide +kernel
theorem dL_law_981 : decode code 981 = .ok (.aload_n 0, 1) := by decide +kernel
theorem dL_law_982 : decode code 982 = .ok (.iload 4, 2) := by decide +kernel
theorem dL_law_984 : decode code 984 = .ok (.iconst 2, 1) := by decide +kernel
theorem dL_law_985 : decode code 985 = .ok (.iadd, 1) := by decide +kernel
theorem dL_law_986 : decode code 986 = .ok (.iaload, 1) := by decide +kernel
theorem dL_law_987 : decode code 987 = .ok (.invokevirtual 122, 3) := by decide +kernel
theorem dL_law_990 : decode code 990 = .ok (.aload_n 2, 1) := by decide +kernel
theorem dL_law_991 : decode code 991 = .ok (.aload_n 0, 1) := by decide +kernel
theorem dL_law_992 : decode code 992 = .ok (.iload 4, 2) := by decide +kernel
theorem dL_law_994 : decode code 994 = .ok (.iconst 1, 1) := by decide +kernel
theorem dL_law_995 : decode code 995 = .ok (.iadd, 1) := by decide +kernel
theorem dL_law_996 : decode code 996 = .ok (.iaload, 1) := by decide +kernel
theorem dL_law_997 : decode code 997 = .ok (.aload_n 0, 1) := by decide +kernel
theorem dL_law_998 : decode code 998 = .ok (.iload 4, 2) := by decide +kernel
theorem dL_law_1000 : decode code 1000 = .ok (.iconst 2, 1) := by decide +kernel
theorem dL_law_1001 : decode code 1001 = .ok (.iadd, 1) := by decide +kernel
theorem dL_law_1002 : decode code 1002 = .ok (.iaload, 1) := by decide +kernel
theorem dL_law_1003 : decode code 1003 = .ok (.invokevirtual 125, 3) := by decide +kernel
theorem dL_law_1006 : decode code 1006 = .ok (.if_icmp .eq 392, 3) := by decide +kernel
theorem dL_law_1009 : decode code 1009 = .ok (.iconst 0, 1) := by decide +kernel
theorem dL_law_1010 : decode code 1010 = .ok (.ireturn, 1) := by decide +kernel
theorem dL_law_1011 : decode code 1011 = .ok (.aload_n 1, 1) := by decide +kernel
theorem dL_law_1012 : decode code 1012 = .ok (.aload_n 0, 1) := by decide +kernel
theorem dL_law_1013 : decode code 1013 = .ok (.iload 4, 2) := by decide +kernel
theorem dL_law_1015 : decode code 1015 = .ok (.iconst 1, 1) := by decide +kernel
theorem dL_law_1016 : decode code 1016 = .ok (.iadd, 1) := by decide +kernel
theorem dL_law_1017 : decode code 1017 = .ok (.iaload, 1) := by decide +kernel
theorem dL_law_1018 : decode code 1018 = .ok (.invokevirtual 126, 3) := by decide +kernel
theorem dL_law_1021 : decode code 1021 = .ok (.aload_n 2, 1) := by decide +kernel
theorem dL_law_1022 : decode code 1022 = .ok (.aload_n 0, 1) := by decide +kernel
theorem dL_law_1023 : decode code 1023 = .ok (.iload 4, 2) := by decide +kernel
theorem dL_law_1025 : decode code 1025 = .ok (.iconst 1, 1) := by decide +kernel
theorem dL_law_1026 : decode code 1026 = .ok (.iadd, 1) := by decide +kernel
theorem dL_law_1027 : decode code 1027 = .ok (.iaload, 1) := by decide +kernel
theorem dL_law_1028 : decode code 1028 = .ok (.invokevirtual 129, 3) := by decide +kernel
theorem dL_law_1031 : decode code 1031 = .ok (.if_icmp .eq 367, 3) := by decide +kernel
theorem dL_law_1034 : decode code 1034 = .ok (.iconst 0, 1) := by decide +kernel
theorem dL_law_1035 : decode code 1035 = .ok (.ireturn, 1) := by decide +kernel
theorem dL_law_1036 : decode code 1036 = .ok (.aload_n 1, 1) := by decide +kernel
theorem dL_law_1037 : decode code 1037 = .ok (.aload_n 0, 1) := by decide +kernel
theorem dL_law_1038 : decode code 1038 = .ok (.iload 4, 2) := by decide +kernel
theorem dL_law_1040 : decode code 1040 = .ok (.iconst 1, 1) := by decide +kernel
theorem dL_law_1041 : decode code 1041 = .ok (.iadd, 1) := by decide +kernel
theorem dL_law_1042 : decode code 1042 = .ok (.iaload, 1) := by decide +kernel
theorem dL_law_1043 : decode code 1043 = .ok (.invokevirtual 130, 3) := by decide +kernel
theorem dL_law_1046 : decode code 1046 = .ok (.aload_n 2, 1) := by decide +kernel
theorem dL_law_1047 : decode code 1047 = .ok (.aload_n 0, 1) := by decide +kernel
theorem dL_law_1048 : decode code 1048 = .ok (.iload 4, 2) := by decide +kernel
theorem dL_law_1050 : decode code 1050 = .ok (.iconst 1, 1) := by decide +kernel
theorem dL_law_1051 : decode code 1051 = .ok (.iadd, 1) := by decide +kernel
theorem dL_law_1052 : decode code 1052 = .ok (.iaload, 1) := by decide +kernel
theorem dL_law_1053 : decode code 1053 = .ok (.invokevirtual 133, 3) := by decide +kernel
theorem dL_law_1056 : decode code 1056 = .ok (.if_icmp .eq 342, 3) := by decide +kernel
theorem dL_law_1059 : decode code 1059 = .ok (.iconst 0, 1) := by decide +kernel
theorem dL_law_1060 : decode code 1060 = .ok (.ireturn, 1) := by decide +kernel
theorem dL_law_1061 : decode code 1061 = .ok (.aload_n 1, 1) := by decide +kernel
theorem dL_law_1062 : decode code 1062 = .ok (.aload_n 0, 1) := by decide +kernel
theorem dL_law_1063 : decode code 1063 = .ok (.iload 4, 2) := by decide +kernel
theorem dL_law_1065 : decode code 1065 = .ok (.iconst 1, 1) := by decide +kernel
theorem dL_law_1066 : decode code 1066 = .ok (.iadd, 1) := by decide +kernel
theorem dL_law_1067 : decode code 1067 = .ok (.iaload, 1) := by decide +kernel
theorem dL_law_1068 : decode code 1068 = .ok (.invokevirtual 134, 3) := by decide +kernel
theorem dL_law_1071 : decode code 1071 = .ok (.aload_n 2, 1) := by decide +kernel
theorem dL_law_1072 : decode code 1072 = .ok (.aload_n 0, 1) := by decide +kernel
theorem dL_law_1073 : decode code 1073 = .ok (.iload 4, 2) := by decide +kernel
theorem dL_law_1075 : decode code 1075 = .ok (.iconst 1, 1) := by decide +kernel
theorem dL_law_1076 : decode code 1076 = .ok (.iadd, 1) := by decide +kernel
theorem dL_law_1077 : decode code 1077 = .ok (.iaload, 1) := by decide +kernel
theorem dL_law_1078 : decode code 1078 = .ok (.invokevirtual 137, 3) := by decide +kernel
theorem dL_law_1081 : decode code 1081 = .ok (.if_icmp .eq 317, 3) := by decide +kernel
theorem dL_law_1084 : decode code 1084 = .ok (.iconst 0, 1) := by decide +kernel
theorem dL_law_1085 : decode code 1085 = .ok (.ireturn, 1) := by decide +kernel
theorem dL_law_1086 : decode code 1086 = .ok (.aload_n 1, 1) := by decide +kernel
theorem dL_law_1087 : decode code 1087 = .ok (.aload_n 0, 1) := by decide +kernel
theorem dL_law_1088 : decode code 1088 = .ok (.iload 4, 2) := by decide +kernel
theorem dL_law_1090 : decode code 1090 = .ok (.iconst 1, 1) := by decide +kernel
theorem dL_law_1091 : decode code 1091 = .ok (.iadd, 1) := by decide +kernel
theorem dL_law_1092 : decode code 1092 = .ok (.iaload, 1) := by decide +kernel
theorem dL_law_1093 : decode code 1093 = .ok (.aload_n 0, 1) := by decide +kernel
theorem dL_law_1094 : decode code 1094 = .ok (.iload 4, 2) := by decide +kernel
theorem dL_law_1096 : decode code 1096 = .ok (.iconst 2, 1) := by decide +kernel
theorem dL_law_1097 : decode code 1097 = .ok (.iadd, 1) := by decide +kernel
theorem dL_law_1098 : decode code 1098 = .ok (.iaload, 1) := by decide +kernel
theorem dL_law_1099 : decode code 1099 = .ok (.invokevirtual 138, 3) := by decide +kernel
theorem dL_law_1102 : decode code 1102 = .ok (.aload_n 2, 1) := by decide +kernel
theorem dL_law_1103 : decode code 1103 = .ok (.aload_n 0, 1) := by decide +kernel
theorem dL_law_1104 : decode code 1104 = .ok (.iload 4, 2) := by decide +kernel
theorem dL_law_1106 : decode code 1106 = .ok (.iconst 1, 1) := by decide +kernel
theorem dL_law_1107 : decode code 1107 = .ok (.iadd, 1) := by decide +kernel
theorem dL_law_1108 : decode code 1108 = .ok (.iaload, 1) := by decide +kernel
theorem dL_law_1109 : decode code 1109 = .ok (.aload_n 0, 1) := by decide +kernel
theorem dL_law_1110 : decode code 1110 = .ok (.iload 4, 2) := by decide +kernel
theorem dL_law_1112 : decode code 1112 = .ok (.iconst 2, 1) := by decide +kernel
theorem dL_law_1113 : decode code 1113 = .ok (.iadd, 1) := by decide +kernel
theorem dL_law_1114 : decode code 1114 = .ok (.iaload, 1) := by decide +kernel
theorem dL_law_1115 : decode code 1115 = .ok (.invokevirtual 141, 3) := by decide +kernel
theorem dL_law_1118 : decode code 1118 = .ok (.if_icmp .eq 280, 3) := by decide +kernel
theorem dL_law_1121 : decode code 1121 = .ok (.iconst 0, 1) := by decide +kernel
theorem dL_law_1122 : decode code 1122 = .ok (.ireturn, 1) := by decide +kernel
theorem dL_law_1123 : decode code 1123 = .ok (.aload_n 1, 1) := by decide +kernel
theorem dL_law_1124 : decode code 1124 = .ok (.aload_n 0, 1) := by decide +kernel
theorem dL_law_1125 : decode code 1125 = .ok (.iload 4, 2) := by decide +kernel
theorem dL_law_1127 : decode code 1127 = .ok (.iconst 1, 1) := by decide +kernel
theorem dL_law_1128 : decode code 1128 = .ok (.iadd, 1) := by decide +kernel
theorem dL_law_1129 : decode code 1129 = .ok (.iaload, 1) := by decide +kernel
theorem dL_law_1130 : decode code 1130 = .ok (.aload_n 0, 1) := by decide +kernel
theorem dL_law_1131 : decode code 1131 = .ok (.iload 4, 2) := by decide +kernel
theorem dL_law_1133 : decode code 1133 = .ok (.iconst 2, 1) := by decide +kernel
theorem dL_law_1134 : decode code 1134 = .ok (.iadd, 1) := by decide +kernel
theorem dL_law_1135 : decode code 1135 = .ok (.iaload, 1) := by decide +kernel
theorem dL_law_1136 : decode code 1136 = .ok (.invokevirtual 142, 3) := by decide +kernel
theorem dL_law_1139 : decode code 1139 = .ok (.aload_n 2, 1) := by decide +kernel
theorem dL_law_1140 : decode code 1140 = .ok (.aload_n 0, 1) := by decide +kernel
theorem dL_law_1141 : decode code 1141 = .ok (.iload 4, 2) := by decide +kernel
theorem dL_law_1143 : decode code 1143 = .ok (.iconst 1, 1) := by decide +kernel
theorem dL_law_1144 : decode code 1144 = .ok (.iadd, 1) := by decide +kernel
theorem dL_law_1145 : decode code 1145 = .ok (.iaload, 1) := by decide +kernel
theorem dL_law_1146 : decode code 1146 = .ok (.aload_n 0, 1) := by decide +kernel
theorem dL_law_1147 : decode code 1147 = .ok (.iload 4, 2) := by decide +kernel
theorem dL_law_1149 : decode code 1149 = .ok (.iconst 2, 1) := by decide +kernel
theorem dL_law_1150 : decode code 1150 = .ok (.iadd, 1) := by decide +kernel
theorem dL_law_1151 : decode code 1151 = .ok (.iaload, 1) := by decide +kernel
theorem dL_law_1152 : decode code 1152 = .ok (.invokevirtual 145, 3) := by decide +kernel
theorem dL_law_1155 : decode code 1155 = .ok (.if_icmp .eq 243, 3) := by decide +kernel
theorem dL_law_1158 : decode code 1158 = .ok (.iconst 0, 1) := by decide +kernel
theorem dL_law_1159 : decode code 1159 = .ok (.ireturn, 1) := by decide +kernel
theorem dL_law_1160 : decode code 1160 = .ok (.aload_n 1, 1) := by decide +kernel
theorem dL_law_1161 : decode code 1161 = .ok (.invokevirtual 146, 3) := by decide +kernel
theorem dL_law_1164 : decode code 1164 = .ok (.aload_n 2, 1) := by decide +kernel
theorem dL_law_1165 : decode code 1165 = .ok (.invokevirtual 149, 3) := by decide +kernel
theorem dL_law_1168 : decode code 1168 = .ok (.if_icmp .eq 230, 3) := by decide +kernel
theorem dL_law_1171 : decode code 1171 = .ok (.iconst 0, 1) := by decide +kernel
theorem dL_law_1172 : decode code 1172 = .ok (.ireturn, 1) := by decide +kernel
theorem dL_law_1173 : decode code 1173 = .ok (.aload_n 1, 1) := by decide +kernel
theorem dL_law_1174 : decode code 1174 = .ok (.aload_n 0, 1) := by decide +kernel
theorem dL_law_1175 : decode code 1175 = .ok (.iload 4, 2) := by decide +kernel
theorem dL_law_1177 : decode code 1177 = .ok (.iconst 1, 1) := by decide +kernel
theorem dL_law_1178 : decode code 1178 = .ok (.iadd, 1) := by decide +kernel
theorem dL_law_1179 : decode code 1179 = .ok (.iaload, 1) := by decide +kernel
theorem dL_law_1180 : decode code 1180 = .ok (.invokevirtual 150, 3) := by decide +kernel
theorem dL_law_1183 : decode code 1183 = .ok (.aload_n 2, 1) := by decide +kernel
theorem dL_law_1184 : decode code 1184 = .ok (.aload_n 0, 1) := by decide +kernel
theorem dL_law_1185 : decode code 1185 = .ok (.iload 4, 2) := by decide +kernel
theorem dL_law_1187 : decode code 1187 = .ok (.iconst 1, 1) := by decide +kernel
theorem dL_law_1188 : decode code 1188 = .ok (.iadd, 1) := by decide +kernel
theorem dL_law_1189 : decode code 1189 = .ok (.iaload, 1) := by decide +kernel
theorem dL_law_1190 : decode code 1190 = .ok (.invokevirtual 153, 3) := by decide +kernel
theorem dL_law_1193 : decode code 1193 = .ok (.if_icmp .eq 205, 3) := by decide +kernel
theorem dL_law_1196 : decode code 1196 = .ok (.iconst 0, 1) := by decide +kernel
theorem dL_law_1197 : decode code 1197 = .ok (.ireturn, 1) := by decide +kernel
theorem dL_law_1198 : decode code 1198 = .ok (.aload_n 1, 1) := by decide +kernel
theorem dL_law_1199 : decode code 1199 = .ok (.aload_n 0, 1) := by decide +kernel
theorem dL_law_1200 : decode code 1200 = .ok (.iload 4, 2) := by decide +kernel
theorem dL_law_1202 : decode code 1202 = .ok (.iconst 1, 1) := by decide +kernel
theorem dL_law_1203 : decode code 1203 = .ok (.iadd, 1) := by decide +kernel
theorem dL_law_1204 : decode code 1204 = .ok (.iaload, 1) := by decide +kernel
theorem dL_law_1205 : decode code 1205 = .ok (.aload_n 0, 1) := by decide +kernel
theorem dL_law_1206 : decode code 1206 = .ok (.iload 4, 2) := by decide +kernel
theorem dL_law_1208 : decode code 1208 = .ok (.iconst 2, 1) := by decide +kernel
theorem dL_law_1209 : decode code 1209 = .ok (.iadd, 1) := by decide +kernel
theorem dL_law_1210 : decode code 1210 = .ok (.iaload, 1) := by decide +kernel
theorem dL_law_1211 : decode code 1211 = .ok (.invokevirtual 154, 3) := by decide +kernel
theorem dL_law_1214 : decode code 1214 = .ok (.aload_n 2, 1) := by decide +kernel
theorem dL_law_1215 : decode code 1215 = .ok (.aload_n 0, 1) := by decide +kernel
theorem dL_law_1216 : decode code 1216 = .ok (.iload 4, 2) := by decide +kernel
theorem dL_law_1218 : decode code 1218 = .ok (.iconst 1, 1) := by decide +kernel
theorem dL_law_1219 : decode code 1219 = .ok (.iadd, 1) := by decide +kernel
theorem dL_law_1220 : decode code 1220 = .ok (.iaload, 1) := by decide +kernel
theorem dL_law_1221 : decode code 1221 = .ok (.aload_n 0, 1) := by decide +kernel
theorem dL_law_1222 : decode code 1222 = .ok (.iload 4, 2) := by decide +kernel
theorem dL_law_1224 : decode code 1224 = .ok (.iconst 2, 1) := by decide +kernel
theorem dL_law_1225 : decode code 1225 = .ok (.iadd, 1) := by decide +kernel
theorem dL_law_1226 : decode code 1226 = .ok (.iaload, 1) := by decide +kernel
theorem dL_law_1227 : decode code 1227 = .ok (.invokevirtual 157, 3) := by decide +kernel
theorem dL_law_1230 : decode code 1230 = .ok (.if_icmp .eq 168, 3) := by decide +kernel
theorem dL_law_1233 : decode code 1233 = .ok (.iconst 0, 1) := by decide +kernel
theorem dL_law_1234 : decode code 1234 = .ok (.ireturn, 1) := by decide +kernel
theorem dL_law_1235 : decode code 1235 = .ok (.aload_n 1, 1) := by decide +kernel
theorem dL_law_1236 : decode code 1236 = .ok (.aload_n 0, 1) := by decide +kernel
theorem dL_law_1237 : decode code 1237 = .ok (.iload 4, 2) := by decide +kernel
theorem dL_law_1239 : decode code 1239 = .ok (.iconst 1, 1) := by decide +kernel
theorem dL_law_1240 : decode code 1240 = .ok (.iadd, 1) := by decide +kernel
theorem dL_law_1241 : decode code 1241 = .ok (.iaload, 1) := by decide +kernel
theorem dL_law_1242 : decode code 1242 = .ok (.invokevirtual 158, 3) := by decide +kernel
theorem dL_law_1245 : decode code 1245 = .ok (.aload_n 2, 1) := by decide +kernel
theorem dL_law_1246 : decode code 1246 = .ok (.aload_n 0, 1) := by decide +kernel
theorem dL_law_1247 : decode code 1247 = .ok (.iload 4, 2) := by decide +kernel
theorem dL_law_1249 : decode code 1249 = .ok (.iconst 1, 1) := by decide +kernel
theorem dL_law_1250 : decode code 1250 = .ok (.iadd, 1) := by decide +kernel
theorem dL_law_1251 : decode code 1251 = .ok (.iaload, 1) := by decide +kernel
theorem dL_law_1252 : decode code 1252 = .ok (.invokevirtual 161, 3) := by decide +kernel
theorem dL_law_1255 : decode code 1255 = .ok (.if_icmp .eq 143, 3) := by decide +kernel
theorem dL_law_1258 : decode code 1258 = .ok (.iconst 0, 1) := by decide +kernel
theorem dL_law_1259 : decode code 1259 = .ok (.ireturn, 1) := by decide +kernel
theorem dL_law_1260 : decode code 1260 = .ok (.aload_n 1, 1) := by decide +kernel
theorem dL_law_1261 : decode code 1261 = .ok (.aload_n 0, 1) := by decide +kernel
theorem dL_law_1262 : decode code 1262 = .ok (.iload 4, 2) := by decide +kernel
theorem dL_law_1264 : decode code 1264 = .ok (.iconst 1, 1) := by decide +kernel
theorem dL_law_1265 : decode code 1265 = .ok (.iadd, 1) := by decide +kernel
theorem dL_law_1266 : decode code 1266 = .ok (.iaload, 1) := by decide +kernel
theorem dL_law_1267 : decode code 1267 = .ok (.invokevirtual 162, 3) := by decide +kernel
theorem dL_law_1270 : decode code 1270 = .ok (.aload_n 2, 1) := by decide +kernel
theorem dL_law_1271 : decode code 1271 = .ok (.aload_n 0, 1) := by decide +kernel
theorem dL_law_1272 : decode code 1272 = .ok (.iload 4, 2) := by decide +kernel
theorem dL_law_1274 : decode code 1274 = .ok (.iconst 1, 1) := by decide +kernel
theorem dL_law_1275 : decode code 1275 = .ok (.iadd, 1) := by decide +kernel
theorem dL_law_1276 : decode code 1276 = .ok (.iaload, 1) := by decide +kernel
theorem dL_law_1277 : decode code 1277 = .ok (.invokevirtual 165, 3) := by decide +kernel
theorem dL_law_1280 : decode code 1280 = .ok (.if_icmp .eq 118, 3) := by decide +kernel
theorem dL_law_1283 : decode code 1283 = .ok (.iconst 0, 1) := by decide +kernel
theorem dL_law_1284 : decode code 1284 = .ok (.ireturn, 1) := by decide +kernel
theorem dL_law_1285 : decode code 1285 = .ok (.aload_n 1, 1) := by decide +kernel
theorem dL_law_1286 : decode code 1286 = .ok (.invokevirtual 166, 3) := by decide +kernel
theorem dL_law_1289 : decode code 1289 = .ok (.aload_n 2, 1) := by decide +kernel
theorem dL_law_1290 : decode code 1290 = .ok (.invokevirtual 169, 3) := by decide +kernel
theorem dL_law_1293 : decode code 1293 = .ok (.if_icmp .eq 105, 3) := by decide +kernel
theorem dL_law_1296 : decode code 1296 = .ok (.iconst 0, 1) := by decide +kernel
theorem dL_law_1297 : decode code 1297 = .ok (.ireturn, 1) := by decide +kernel
theorem dL_law_1298 : decode code 1298 = .ok (.aload_n 1, 1) := by decide +kernel
theorem dL_law_1299 : decode code 1299 = .ok (.aload_n 0, 1) := by decide +kernel
theorem dL_law_1300 : decode code 1300 = .ok (.iload 4, 2) := by decide +kernel
theorem dL_law_1302 : decode code 1302 = .ok (.iconst 1, 1) := by decide +kernel
theorem dL_law_1303 : decode code 1303 = .ok (.iadd, 1) := by decide +kernel
theorem dL_law_1304 : decode code 1304 = .ok (.iaload, 1) := by decide +kernel
theorem dL_law_1305 : decode code 1305 = .ok (.aload_n 0, 1) := by decide +kernel
theorem dL_law_1306 : decode code 1306 = .ok (.iload 4, 2) := by decide +kernel
theorem dL_law_1308 : decode code 1308 = .ok (.iconst 2, 1) := by decide +kernel
theorem dL_law_1309 : decode code 1309 = .ok (.iadd, 1) := by decide +kernel
theorem dL_law_1310 : decode code 1310 = .ok (.iaload, 1) := by decide +kernel
theorem dL_law_1311 : decode code 1311 = .ok (.invokevirtual 170, 3) := by decide +kernel
theorem dL_law_1314 : decode code 1314 = .ok (.aload_n 2, 1) := by decide +kernel
theorem dL_law_1315 : decode code 1315 = .ok (.aload_n 0, 1) := by decide +kernel
theorem dL_law_1316 : decode code 1316 = .ok (.iload 4, 2) := by decide +kernel
theorem dL_law_1318 : decode code 1318 = .ok (.iconst 1, 1) := by decide +kernel
theorem dL_law_1319 : decode code 1319 = .ok (.iadd, 1) := by decide +kernel
theorem dL_law_1320 : decode code 1320 = .ok (.iaload, 1) := by decide +kernel
theorem dL_law_1321 : decode code 1321 = .ok (.aload_n 0, 1) := by decide +kernel
theorem dL_law_1322 : decode code 1322 = .ok (.iload 4, 2) := by decide +kernel
theorem dL_law_1324 : decode code 1324 = .ok (.iconst 2, 1) := by decide +kernel
theorem dL_law_1325 : decode code 1325 = .ok (.iadd, 1) := by decide +kernel
theorem dL_law_1326 : decode code 1326 = .ok (.iaload, 1) := by decide +kernel
theorem dL_law_1327 : decode code 1327 = .ok (.invokevirtual 173, 3) := by decide +kernel
theorem dL_law_1330 : decode code 1330 = .ok (.if_icmp .eq 68, 3) := by decide +kernel
theorem dL_law_1333 : decode code 1333 = .ok (.iconst 0, 1) := by decide +kernel
theorem dL_law_1334 : decode code 1334 = .ok (.ireturn, 1) := by decide +kernel
theorem dL_law_1335 : decode code 1335 = .ok (.aload_n 1, 1) := by decide +kernel
theorem dL_law_1336 : decode code 1336 = .ok (.invokevirtual 174, 3) := by decide +kernel
theorem dL_law_1339 : decode code 1339 = .ok (.aload_n 2, 1) := by decide +kernel
theorem dL_law_1340 : decode code 1340 = .ok (.invokevirtual 177, 3) := by decide +kernel
theorem dL_law_1343 : decode code 1343 = .ok (.if_icmp .eq 55, 3) := by decide +kernel
theorem dL_law_1346 : decode code 1346 = .ok (.iconst 0, 1) := by decide +kernel
theorem dL_law_1347 : decode code 1347 = .ok (.ireturn, 1) := by decide +kernel
theorem dL_law_1348 : decode code 1348 = .ok (.aload_n 1, 1) := by decide +kernel
theorem dL_law_1349 : decode code 1349 = .ok (.aload_n 0, 1) := by decide +kernel
theorem dL_law_1350 : decode code 1350 = .ok (.iload 4, 2) := by decide +kernel
theorem dL_law_1352 : decode code 1352 = .ok (.iconst 1, 1) := by decide +kernel
theorem dL_law_1353 : decode code 1353 = .ok (.iadd, 1) := by decide +kernel
theorem dL_law_1354 : decode code 1354 = .ok (.iaload, 1) := by decide +kernel
theorem dL_law_1355 : decode code 1355 = .ok (.invokevirtual 178, 3) := by decide +kernel
theorem dL_law_1358 : decode code 1358 = .ok (.aload_n 2, 1) := by decide +kernel
theorem dL_law_1359 : decode code 1359 = .ok (.aload_n 0, 1) := by decide +kernel
theorem dL_law_1360 : decode code 1360 = .ok (.iload 4, 2) := by decide +kernel
theorem dL_law_1362 : decode code 1362 = .ok (.iconst 1, 1) := by decide +kernel
theorem dL_law_1363 : decode code 1363 = .ok (.iadd, 1) := by decide +kernel
theorem dL_law_1364 : decode code 1364 = .ok (.iaload, 1) := by decide +kernel
theorem dL_law_1365 : decode code 1365 = .ok (.invokevirtual 181, 3) := by decide +kernel
theorem dL_law_1368 : decode code 1368 = .ok (.if_icmp .eq 30, 3) := by decide +kernel
theorem dL_law_1371 : decode code 1371 = .ok (.iconst 0, 1) := by decide +kernel
theorem dL_law_1372 : decode code 1372 = .ok (.ireturn, 1) := by decide +kernel
theorem dL_law_1373 : decode code 1373 = .ok (.aload_n 1, 1) := by decide +kernel
theorem dL_law_1374 : decode code 1374 = .ok (.aload_n 0, 1) := by decide +kernel
theorem dL_law_1375 : decode code 1375 = .ok (.iload 4, 2) := by decide +kernel
theorem dL_law_1377 : decode code 1377 = .ok (.iconst 1, 1) := by decide +kernel
theorem dL_law_1378 : decode code 1378 = .ok (.iadd, 1) := by decide +kernel
theorem dL_law_1379 : decode code 1379 = .ok (.iaload, 1) := by decide +kernel
theorem dL_law_1380 : decode code 1380 = .ok (.invokevirtual 182, 3) := by decide +kernel
theorem dL_law_1383 : decode code 1383 = .ok (.aload_n 2, 1) := by decide +kernel
theorem dL_law_1384 : decode code 1384 = .ok (.aload_n 0, 1) := by decide +kernel
theorem dL_law_1385 : decode code 1385 = .ok (.iload 4, 2) := by decide +kernel
theorem dL_law_1387 : decode code 1387 = .ok (.iconst 1, 1) := by decide +kernel
theorem dL_law_1388 : decode code 1388 = .ok (.iadd, 1) := by decide +kernel
theorem dL_law_1389 : decode code 1389 = .ok (.iaload, 1) := by decide +kernel
theorem dL_law_1390 : decode code 1390 = .ok (.invokevirtual 185, 3) := by decide +kernel
theorem dL_law_1393 : decode code 1393 = .ok (.if_icmp .eq 5, 3) := by decide +kernel
theorem dL_law_1396 : decode code 1396 = .ok (.iconst 0, 1) := by decide +kernel
theorem dL_law_1397 : decode code 1397 = .ok (.ireturn, 1) := by decide +kernel
theorem dL_law_1398 : decode code 1398 = .ok (.iinc 4 6, 3) := by decide +kernel
theorem dL_law_1401 : decode code 1401 = .ok (.goto (-1378), 3) := by decide +kernel
theorem dL_law_1404 : decode code 1404 = .ok (.iconst 1, 1) := by decide +kernel
theorem dL_law_1405 : decode code 1405 = .ok (.ireturn, 1) := by decide +kernel
section LawRows
variable {p : Program} {l : Launch} {e : Env} {s : State} {m : MethodId} {below : List Frame} {meth : Method} {c : Code} {G : GT} {cells slots : Nat} {pc : Nat} {lv : List (Option Value)} {st : List Value} {h : Hp} {b L : Nat} {xs : Nat → Int32}
abbrev QL (below : List Frame) (b : Nat) (s : State) : Unit → State → Prop := fun _ => lw_Z below #[Value.ref b] s
def SX (G : GT) (b L : Nat) (xs : Nat → Int32) (s : State) : Prop := va_X b L xs s s.heap ∧ b < s.heap.size ∧ ¬ AG G s.heap.size b
variable {o : Option Unit}
theorem f_sld (cx : CX p s m #[.ref b] c code 7 RL G) (hx : SX G b L xs s) {i : Int32} (hi : ib i L) (hd : decode code pc = .ok (.iaload, 1)) (k : PF p l e room_1 s m #[.ref b] below meth c 7 G cells slots (QL below b s) (pc + 1) lv (.int (xs i.toNatClampNeg) :: st) h o) : PF p l e room_1 s m #[.ref b] below meth c 7 G cells slots (QL below b s) pc lv (.int i :: .ref b :: st) h o :=
  fun a ha H locs ls hl hI => va_sld cx.1 cx.2.1 hx.1 hx.2.1 hx.2.2 hI.2.2 hi hd (k a ha H locs ls hl hI)
theorem f_scrlen (cx : CX p s m #[.ref b] c code 7 RL G) (hx : SX G b L xs s) (hd : decode code pc = .ok (.arraylength, 1)) (k : PF p l e room_1 s m #[.ref b] below meth c 7 G cells slots (QL below b s) (pc + 1) lv (.int (Int32.ofNat L) :: st) h o) : PF p l e room_1 s m #[.ref b] below meth c 7 G cells slots (QL below b s) pc lv (.ref b :: st) h o :=
  fun a ha H locs ls hl hI => va_slen cx.1 cx.2.1 hx.1 hx.2.1 hx.2.2 hI.2.2 hd (k a ha H locs ls hl hI)
theorem f_lald0 (cx : CX p s m #[.ref b] c code 7 RL G) {ob : Nat} (hk : kd ob = 22) (hd : decode code pc = .ok (.laload, 1)) (k : PF p l e room_1 s m #[.ref b] below meth c 7 G cells slots (QL below b s) (pc + 1) lv (.long (h ob 0).toInt64 :: st) h o) : PF p l e room_1 s m #[.ref b] below meth c 7 G cells slots (QL below b s) pc lv (.int 0 :: .ref (gad G ob) :: st) h o := by
  intro a ha H locs ls hl hI
  obtain ⟨q, hq⟩ := ob_at hk (by omega)
  have he : (wd G h)[q]? = some (gad G ob, .inl (gca G 4, 1, .inr (.inl (fun i => (h ob i).toInt64)))) := by rw [wd_at hq, ce_l hk]
  exact va_lald (i := 0) cx.1 cx.2.1 cx.2.2.2.2.2.1 hI.1 q 4 he rfl (show ¬ ((0 : Int32) < 0 ∨ 1 ≤ Int32.toNatClampNeg 0) by decide) hd (k a ha H locs ls hl hI)
theorem f_lend (cx : CX p s m #[.ref b] c code 7 RL G) (hg : ∀ q ∈ obk, s.heap.size ≤ gad G q.1) (hr : meth.sig.returnType = ret) (hlk : meth.locks = false) (hc : cells ≤ 601024 ∧ slots ≤ 7293034) (hd : decode code pc = .ok (.ireturn, 1)) : PF p l e room_1 s m #[.ref b] below meth c 7 G cells slots (QL below b s) pc lv [.int 1] h o := by
  intro a ha H locs ls hl hI
  refine va_forget (fun z hz => ?_) ?_
  · rcases hI.2.2.2.2 z hz with ⟨o, ho, h1⟩ | h1
    · rw [← h1]; exact hg o ho
    · exact h1
  · exact W.widen (k := 601024) (n := 7293034) hc.1 hc.2 (lw_ret cx.1 cx.2.1 hr hlk hd)
theorem f_Lbk (cx : CX2 p s m #[.ref b] c code 7 RL G) (hst : l.stackTraces = false) {x1 x2 : Int32} {r : Int32 × Hp} (hb : p_L_bk h 0 x1 x2 120 = some r) (hcs : cells + 1 ≤ 601024 ∧ slots + 6 ≤ 7293034) (hW : (st.map fun v => v.category).sum ≤ 8) (hd : decode code pc = .ok (.invokestatic 97, 3)) (k : PF p l e room_1 s m #[.ref b] below meth c 7 G (cells + 1) (slots + 6) (QL below b s) (pc + 3) lv (.int r.1 :: st) r.2 o) : PF p l e room_1 s m #[.ref b] below meth c 7 G cells slots (QL below b s) pc lv (.ref (gad G 120) :: .int x2 :: .int x1 :: .ref (gad G 0) :: st) h o := by
  intro a ha H locs ls hl hI
  have g := cx.1.2.2.2.2.1
  have hr : va_Run p l e room_1 s m #[.ref b] below meth c H locs cells slots 1 6 (F0 m pc ls (.ref (gad G 120) :: .int x2 :: .int x1 :: .ref (gad G 0) :: st)) st (CtQ G (some (.int r.1)) r.2 H.size [.ref (gad G 0), .int x1, .int x2, .ref (gad G 120)].toArray) (AG G H.size) := by
    refine vx_runSW (Ts := []) (As := [.ref (gad G 0), .int x1, .int x2, .ref (gad G 120)]) (rest := st) (bytes := cL_bucket) (maxL := 5) (ret := some .int) (hh := hhL) ⟨cx.1.1, cx.1.2.1, cx.1.2.2.1, cx.1.2.2.2.1, fun w hw => by cases hw⟩ (c_L_bk l hst G h 0 x1 x2 120 k0 k120 r hb H.size) ⟨⟨rfl, rfl, Nat.le_of_ble_eq_true rfl, Nat.le_of_ble_eq_true rfl, fun w hw a1 U hU => ?_, List.mem_cons_self⟩, g.use w_cwL rfl _, g.use w_lbI rfl _, by decide +kernel, fun sig hs => ?_, g.use w_lbL rfl _, g.use w_lbS rfl _⟩ ⟨Pre2.blind, fun U hU hW => ⟨rfl, Pre2.of cx hI hU hW⟩⟩ rfl rfl hl.1 rfl (lv_room hW) hd hcs
    · rw [List.mem_singleton.mp hw]
      exact okw_at rfl hU (g.use w_cwL rfl #[])
    · have hn : (parseMethodDescriptor yL_bucket.desc).map (fun d => d.parameters.length) = some 4 := by decide +kernel
      rw [hs] at hn
      exact (Option.some.inj hn).symm
  intro T hT X
  obtain ⟨v, st₀, t, T1, Lc, h0, X1, hL, e1, e2, ⟨hv, hP, hD, hz, hk⟩, stp⟩ := hr T hT X
  cases hv
  rw [h0] at hz hk
  obtain ⟨t2, a1, b1⟩ := k a ha T1.heap (locs ++ Lc) ls hl ⟨by rw [e1]; exact hP, wd_D _ hD, Nat.le_trans hI.2.2.1 (by rw [e1]; exact hz), fun q g1 g2 => by
      rw [e1, hk q (Nat.lt_of_lt_of_le g1 hI.2.2.1) (fun z => g2 (AG.le hI.2.2.1 z))]
      exact hI.2.2.2.1 q g1 g2, fun q hq => by
      rcases List.mem_append.mp hq with g | g
      · exact hI.2.2.2.2 q g
      · exact AG.le hI.2.2.1 (hL q g)⟩ T1 rfl X1
  exact ⟨t2, stp t2 a1, b1⟩
end LawRows

def b_law (xs : Nat → Int32) (L : Nat) (k23 : Hp × Int32 → Option Unit) (q : Hp × Int32) : Option Unit :=
  if ((Int32.ofNat L) - 6) < q.2 then (some ()) else (if ib q.2 L then (if ((xs (Int32.toNatClampNeg q.2)) &&& 63) = 0 then (if ib (q.2 + 1) L then (if ib (q.2 + 2) L then (if ib (q.2 + 3) L then (if ib (q.2 + 4) L then (if ib (q.2 + 5) L then (Option.bind (p_X9_feed q.1 0 (xs (Int32.toNatClampNeg (q.2 + 1))) (xs (Int32.toNatClampNeg (q.2 + 2))) (xs (Int32.toNatClampNeg (q.2 + 3))) (xs (Int32.toNatClampNeg (q.2 + 4))) (xs (Int32.toNatClampNeg (q.2 + 5)))) fun r7 => if ib (q.2 + 1) L then (if ib (q.2 + 2) L then (if ib (q.2 + 3) L then (if ib (q.2 + 4) L then (if ib (q.2 + 5) L then (Option.bind (p_X10_feed r7.2 110 (xs (Int32.toNatClampNeg (q.2 + 1))) (xs (Int32.toNatClampNeg (q.2 + 2))) (xs (Int32.toNatClampNeg (q.2 + 3))) (xs (Int32.toNatClampNeg (q.2 + 4))) (xs (Int32.toNatClampNeg (q.2 + 5)))) fun r13 => if r7.1 = r13.1 then (k23 (r13.2, q.2 + 6)) else (none)) else none) else none) else none) else none) else none) else none) else none) else none) else none) else none) else if ((xs (Int32.toNatClampNeg q.2)) &&& 63) = 1 then (if ib (q.2 + 1) L then (Option.bind (p_X9_text q.1 0 (xs (Int32.toNatClampNeg (q.2 + 1)))) fun r16 => if ib (q.2 + 1) L then (Option.bind (p_X10_text r16.2 110 (xs (Int32.toNatClampNeg (q.2 + 1)))) fun r18 => if r16.1 = r18.1 then (k23 (r18.2, q.2 + 6)) else (none)) else none) else none) else if ((xs (Int32.toNatClampNeg q.2)) &&& 63) = 2 then (if ib (q.2 + 1) L then (Option.bind (p_X9_fault q.1 0 (xs (Int32.toNatClampNeg (q.2 + 1)))) fun r21 => if ib (q.2 + 1) L then (Option.bind (p_X10_fault r21.2 110 (xs (Int32.toNatClampNeg (q.2 + 1)))) fun r23 => if r21.1 = r23.1 then (k23 (r23.2, q.2 + 6)) else (none)) else none) else none) else if ((xs (Int32.toNatClampNeg q.2)) &&& 63) = 3 then (if ib (q.2 + 1) L then (if ib (q.2 + 2) L then (if ib (q.2 + 3) L then (Option.bind (p_X9_come q.1 0 (xs (Int32.toNatClampNeg (q.2 + 1))) (xs (Int32.toNatClampNeg (q.2 + 2))) (xs (Int32.toNatClampNeg (q.2 + 3)))) fun r28 => if ib (q.2 + 1) L then (if ib (q.2 + 2) L then (if ib (q.2 + 3) L then (Option.bind (p_X10_come r28.2 110 (xs (Int32.toNatClampNeg (q.2 + 1))) (xs (Int32.toNatClampNeg (q.2 + 2))) (xs (Int32.toNatClampNeg (q.2 + 3)))) fun r32 => if r28.1 = r32.1 then (k23 (r32.2, q.2 + 6)) else (none)) else none) else none) else none) else none) else none) else none) else if ((xs (Int32.toNatClampNeg q.2)) &&& 63) = 4 then (if ib (q.2 + 1) L then (Option.bind (p_X9_pass q.1 0 (xs (Int32.toNatClampNeg (q.2 + 1)))) fun r35 => if ib (q.2 + 1) L then (Option.bind (p_X10_pass r35.2 110 (xs (Int32.toNatClampNeg (q.2 + 1)))) fun r37 => if r35.1 = r37.1 then (k23 (r37.2, q.2 + 6)) else (none)) else none) else none) else if ((xs (Int32.toNatClampNeg q.2)) &&& 63) = 5 then (Option.bind (p_X9_go q.1 0) fun r39 => Option.bind (p_X10_go r39.2 110) fun r40 => if r39.1 = r40.1 then (k23 (r40.2, q.2 + 6)) else (none)) else if ((xs (Int32.toNatClampNeg q.2)) &&& 63) = 6 then (if ib (q.2 + 1) L then (Option.bind (p_X9_run q.1 0 (xs (Int32.toNatClampNeg (q.2 + 1)))) fun r43 => if ib (q.2 + 1) L then (Option.bind (p_X10_run r43.2 110 (xs (Int32.toNatClampNeg (q.2 + 1)))) fun r45 => if r43.1 = r45.1 then (k23 (r45.2, q.2 + 6)) else (none)) else none) else none) else if ((xs (Int32.toNatClampNeg q.2)) &&& 63) = 7 then (if ib (q.2 + 1) L then (if ib (q.2 + 2) L then (Option.bind (p_X9_sender q.1 0 (xs (Int32.toNatClampNeg (q.2 + 1))) (xs (Int32.toNatClampNeg (q.2 + 2)))) fun r49 => if ib (q.2 + 1) L then (if ib (q.2 + 2) L then (Option.bind (p_X10_sender_ r49.2 110 (xs (Int32.toNatClampNeg (q.2 + 1))) (xs (Int32.toNatClampNeg (q.2 + 2)))) fun r52 => if r49.1 = r52.1 then (k23 (r52.2, q.2 + 6)) else (none)) else none) else none) else none) else none) else if ((xs (Int32.toNatClampNeg q.2)) &&& 63) = 8 then (if ib (q.2 + 1) L then (Option.bind (p_X9_whose q.1 0 (xs (Int32.toNatClampNeg (q.2 + 1)))) fun r55 => if ib (q.2 + 1) L then (Option.bind (p_X10_whose r55.2 110 (xs (Int32.toNatClampNeg (q.2 + 1)))) fun r57 => if r55.1 = r57.1 then (k23 (r57.2, q.2 + 6)) else (none)) else none) else none) else if ((xs (Int32.toNatClampNeg q.2)) &&& 63) = 9 then (if ib (q.2 + 1) L then (if ib (q.2 + 2) L then (Option.bind (p_X9_ifRun q.1 0 (xs (Int32.toNatClampNeg (q.2 + 1))) (xs (Int32.toNatClampNeg (q.2 + 2)))) fun r61 => if ib (q.2 + 1) L then (if ib (q.2 + 2) L then (Option.bind (p_X10_ifRun r61.2 110 (xs (Int32.toNatClampNeg (q.2 + 1))) (xs (Int32.toNatClampNeg (q.2 + 2)))) fun r64 => if r61.1 = r64.1 then (k23 (r64.2, q.2 + 6)) else (none)) else none) else none) else none) else none) else if ((xs (Int32.toNatClampNeg q.2)) &&& 63) = 10 then (if ib (q.2 + 1) L then (Option.bind (p_X9_firstCut q.1 0 (xs (Int32.toNatClampNeg (q.2 + 1)))) fun r67 => if ib (q.2 + 1) L then (Option.bind (p_X10_firstCut r67.2 110 (xs (Int32.toNatClampNeg (q.2 + 1)))) fun r69 => if r67.1 = r69.1 then (k23 (r69.2, q.2 + 6)) else (none)) else none) else none) else if ((xs (Int32.toNatClampNeg q.2)) &&& 63) = 11 then (if ib (q.2 + 1) L then (Option.bind (p_X9_leastLimit q.1 0 (xs (Int32.toNatClampNeg (q.2 + 1)))) fun r72 => if ib (q.2 + 1) L then (Option.bind (p_X10_leastLimit r72.2 110 (xs (Int32.toNatClampNeg (q.2 + 1)))) fun r74 => if r72.1 = r74.1 then (k23 (r74.2, q.2 + 6)) else (none)) else none) else none) else if ((xs (Int32.toNatClampNeg q.2)) &&& 63) = 12 then (if ib (q.2 + 1) L then (Option.bind (p_X9_bestTarget q.1 0 (xs (Int32.toNatClampNeg (q.2 + 1)))) fun r77 => if ib (q.2 + 1) L then (Option.bind (p_X10_bestTarget r77.2 110 (xs (Int32.toNatClampNeg (q.2 + 1)))) fun r79 => if r77.1 = r79.1 then (k23 (r79.2, q.2 + 6)) else (none)) else none) else none) else if ((xs (Int32.toNatClampNeg q.2)) &&& 63) = 13 then (if ib (q.2 + 1) L then (if ib (q.2 + 2) L then (Option.bind (p_X9_settle q.1 0 (xs (Int32.toNatClampNeg (q.2 + 1))) (xs (Int32.toNatClampNeg (q.2 + 2)))) fun r83 => if ib (q.2 + 1) L then (if ib (q.2 + 2) L then (Option.bind (p_X10_settle r83.2 110 (xs (Int32.toNatClampNeg (q.2 + 1))) (xs (Int32.toNatClampNeg (q.2 + 2)))) fun r86 => if r83.1 = r86.1 then (k23 (r86.2, q.2 + 6)) else (none)) else none) else none) else none) else none) else if ((xs (Int32.toNatClampNeg q.2)) &&& 63) = 14 then (if ib (q.2 + 1) L then (if ib (q.2 + 2) L then (Option.bind (p_X9_watch q.1 0 (xs (Int32.toNatClampNeg (q.2 + 1))) (xs (Int32.toNatClampNeg (q.2 + 2)))) fun r90 => if ib (q.2 + 1) L then (if ib (q.2 + 2) L then (Option.bind (p_X10_watch r90.2 110 (xs (Int32.toNatClampNeg (q.2 + 1))) (xs (Int32.toNatClampNeg (q.2 + 2)))) fun r93 => if r90.1 = r93.1 then (k23 (r93.2, q.2 + 6)) else (none)) else none) else none) else none) else none) else if ((xs (Int32.toNatClampNeg q.2)) &&& 63) = 15 then (if ib (q.2 + 1) L then (Option.bind (p_X9_watched q.1 0 (xs (Int32.toNatClampNeg (q.2 + 1)))) fun r96 => if ib (q.2 + 1) L then (Option.bind (p_X10_watched r96.2 110 (xs (Int32.toNatClampNeg (q.2 + 1)))) fun r98 => if r96.1 = r98.1 then (k23 (r98.2, q.2 + 6)) else (none)) else none) else none) else if ((xs (Int32.toNatClampNeg q.2)) &&& 63) = 16 then (if ib (q.2 + 1) L then (Option.bind (p_X9_set q.1 0 (xs (Int32.toNatClampNeg (q.2 + 1)))) fun r101 => if ib (q.2 + 1) L then (Option.bind (p_X10_set r101.2 110 (xs (Int32.toNatClampNeg (q.2 + 1)))) fun r103 => if r101.1 = r103.1 then (k23 (r103.2, q.2 + 6)) else (none)) else none) else none) else if ((xs (Int32.toNatClampNeg q.2)) &&& 63) = 17 then (if ib (q.2 + 1) L then (Option.bind (p_X9_bucketFor q.1 0 (xs (Int32.toNatClampNeg (q.2 + 1)))) fun r106 => if ib (q.2 + 1) L then (Option.bind (p_X10_bucketFor r106.2 110 (xs (Int32.toNatClampNeg (q.2 + 1)))) fun r108 => if r106.1 = r108.1 then (k23 (r108.2, q.2 + 6)) else (none)) else none) else none) else if ((xs (Int32.toNatClampNeg q.2)) &&& 63) = 18 then (if ib (q.2 + 1) L then (if ib (q.2 + 2) L then (Option.bind (p_L_bk q.1 0 (xs (Int32.toNatClampNeg (q.2 + 1))) (xs (Int32.toNatClampNeg (q.2 + 2))) 120) fun r112 => if ib (q.2 + 1) L then (if ib (q.2 + 2) L then (Option.bind (p_X10_bucket r112.2 110 (xs (Int32.toNatClampNeg (q.2 + 1))) (xs (Int32.toNatClampNeg (q.2 + 2)))) fun r115 => Option.bind (p_X10_thrown r115.2 110) fun r116 => if r116.1 = r112.1 then (if r112.1 = 0 then (if (lg_cmp (Int32.toInt64 (r116.2 120 0)) (Int32.toInt64 r115.1)) = 0 then (k23 (r116.2, q.2 + 6)) else (none)) else (k23 (r116.2, q.2 + 6))) else (none)) else none) else none) else none) else none) else if ((xs (Int32.toNatClampNeg q.2)) &&& 63) = 19 then (if ib (q.2 + 1) L then (if ib (q.2 + 2) L then (Option.bind (p_X9_inBucket q.1 0 (xs (Int32.toNatClampNeg (q.2 + 1))) (xs (Int32.toNatClampNeg (q.2 + 2)))) fun r120 => if ib (q.2 + 1) L then (if ib (q.2 + 2) L then (Option.bind (p_X10_inBucket r120.2 110 (xs (Int32.toNatClampNeg (q.2 + 1))) (xs (Int32.toNatClampNeg (q.2 + 2)))) fun r123 => if r120.1 = r123.1 then (k23 (r123.2, q.2 + 6)) else (none)) else none) else none) else none) else none) else if ((xs (Int32.toNatClampNeg q.2)) &&& 63) = 20 then (if ib (q.2 + 1) L then (Option.bind (p_X9_order q.1 0 (xs (Int32.toNatClampNeg (q.2 + 1)))) fun r126 => if ib (q.2 + 1) L then (Option.bind (p_X10_order r126.2 110 (xs (Int32.toNatClampNeg (q.2 + 1)))) fun r128 => if r126.1 = r128.1 then (k23 (r128.2, q.2 + 6)) else (none)) else none) else none) else if ((xs (Int32.toNatClampNeg q.2)) &&& 63) = 21 then (if ib (q.2 + 1) L then (if ib (q.2 + 2) L then (Option.bind (p_X9_frame q.1 0 (xs (Int32.toNatClampNeg (q.2 + 1))) (xs (Int32.toNatClampNeg (q.2 + 2)))) fun r132 => if ib (q.2 + 1) L then (if ib (q.2 + 2) L then (Option.bind (p_X10_frame r132.2 110 (xs (Int32.toNatClampNeg (q.2 + 1))) (xs (Int32.toNatClampNeg (q.2 + 2)))) fun r135 => if r132.1 = r135.1 then (k23 (r135.2, q.2 + 6)) else (none)) else none) else none) else none) else none) else if ((xs (Int32.toNatClampNeg q.2)) &&& 63) = 22 then (if ib (q.2 + 1) L then (if ib (q.2 + 2) L then (Option.bind (p_X9_past q.1 0 (xs (Int32.toNatClampNeg (q.2 + 1))) (xs (Int32.toNatClampNeg (q.2 + 2)))) fun r139 => if ib (q.2 + 1) L then (if ib (q.2 + 2) L then (Option.bind (p_X10_past r139.2 110 (xs (Int32.toNatClampNeg (q.2 + 1))) (xs (Int32.toNatClampNeg (q.2 + 2)))) fun r142 => if r139.1 = r142.1 then (k23 (r142.2, q.2 + 6)) else (none)) else none) else none) else none) else none) else if ((xs (Int32.toNatClampNeg q.2)) &&& 63) = 23 then (if ib (q.2 + 1) L then (if ib (q.2 + 2) L then (Option.bind (p_X9_eldest q.1 0 (xs (Int32.toNatClampNeg (q.2 + 1))) (xs (Int32.toNatClampNeg (q.2 + 2)))) fun r146 => if ib (q.2 + 1) L then (if ib (q.2 + 2) L then (Option.bind (p_X10_eldest r146.2 110 (xs (Int32.toNatClampNeg (q.2 + 1))) (xs (Int32.toNatClampNeg (q.2 + 2)))) fun r149 => if r146.1 = r149.1 then (k23 (r149.2, q.2 + 6)) else (none)) else none) else none) else none) else none) else if ((xs (Int32.toNatClampNeg q.2)) &&& 63) = 24 then (if ib (q.2 + 1) L then (Option.bind (p_X9_least q.1 0 (xs (Int32.toNatClampNeg (q.2 + 1)))) fun r152 => if ib (q.2 + 1) L then (Option.bind (p_X10_least r152.2 110 (xs (Int32.toNatClampNeg (q.2 + 1)))) fun r154 => if r152.1 = r154.1 then (k23 (r154.2, q.2 + 6)) else (none)) else none) else none) else if ((xs (Int32.toNatClampNeg q.2)) &&& 63) = 25 then (if ib (q.2 + 1) L then (Option.bind (p_X9_rootBy q.1 0 (xs (Int32.toNatClampNeg (q.2 + 1)))) fun r157 => if ib (q.2 + 1) L then (Option.bind (p_X10_rootBy r157.2 110 (xs (Int32.toNatClampNeg (q.2 + 1)))) fun r159 => if r157.1 = r159.1 then (k23 (r159.2, q.2 + 6)) else (none)) else none) else none) else if ((xs (Int32.toNatClampNeg q.2)) &&& 63) = 26 then (if ib (q.2 + 1) L then (Option.bind (p_X9_exact q.1 0 (xs (Int32.toNatClampNeg (q.2 + 1)))) fun r162 => if ib (q.2 + 1) L then (Option.bind (p_X10_exact r162.2 110 (xs (Int32.toNatClampNeg (q.2 + 1)))) fun r164 => if r162.1 = r164.1 then (k23 (r164.2, q.2 + 6)) else (none)) else none) else none) else if ((xs (Int32.toNatClampNeg q.2)) &&& 63) = 27 then (if ib (q.2 + 1) L then (if ib (q.2 + 2) L then (Option.bind (p_X9_farthest q.1 0 (xs (Int32.toNatClampNeg (q.2 + 1))) (xs (Int32.toNatClampNeg (q.2 + 2)))) fun r168 => if ib (q.2 + 1) L then (if ib (q.2 + 2) L then (Option.bind (p_X10_farthest r168.2 110 (xs (Int32.toNatClampNeg (q.2 + 1))) (xs (Int32.toNatClampNeg (q.2 + 2)))) fun r171 => if r168.1 = r171.1 then (k23 (r171.2, q.2 + 6)) else (none)) else none) else none) else none) else none) else if ((xs (Int32.toNatClampNeg q.2)) &&& 63) = 28 then (if ib (q.2 + 1) L then (if ib (q.2 + 2) L then (Option.bind (p_X9_flow q.1 0 (xs (Int32.toNatClampNeg (q.2 + 1))) (xs (Int32.toNatClampNeg (q.2 + 2)))) fun r175 => if ib (q.2 + 1) L then (if ib (q.2 + 2) L then (Option.bind (p_X10_flow r175.2 110 (xs (Int32.toNatClampNeg (q.2 + 1))) (xs (Int32.toNatClampNeg (q.2 + 2)))) fun r178 => if r175.1 = r178.1 then (k23 (r178.2, q.2 + 6)) else (none)) else none) else none) else none) else none) else if ((xs (Int32.toNatClampNeg q.2)) &&& 63) = 29 then (Option.bind (p_X9_uneven q.1 0) fun r180 => Option.bind (p_X10_uneven r180.2 110) fun r181 => if r180.1 = r181.1 then (k23 (r181.2, q.2 + 6)) else (none)) else if ((xs (Int32.toNatClampNeg q.2)) &&& 63) = 30 then (if ib (q.2 + 1) L then (Option.bind (p_X9_ahead q.1 0 (xs (Int32.toNatClampNeg (q.2 + 1)))) fun r184 => if ib (q.2 + 1) L then (Option.bind (p_X10_ahead r184.2 110 (xs (Int32.toNatClampNeg (q.2 + 1)))) fun r186 => if r184.1 = r186.1 then (k23 (r186.2, q.2 + 6)) else (none)) else none) else none) else if ((xs (Int32.toNatClampNeg q.2)) &&& 63) = 31 then (if ib (q.2 + 1) L then (if ib (q.2 + 2) L then (Option.bind (p_X9_drain q.1 0 (xs (Int32.toNatClampNeg (q.2 + 1))) (xs (Int32.toNatClampNeg (q.2 + 2)))) fun r190 => if ib (q.2 + 1) L then (if ib (q.2 + 2) L then (Option.bind (p_X10_drain r190.2 110 (xs (Int32.toNatClampNeg (q.2 + 1))) (xs (Int32.toNatClampNeg (q.2 + 2)))) fun r193 => if r190.1 = r193.1 then (k23 (r193.2, q.2 + 6)) else (none)) else none) else none) else none) else none) else if ((xs (Int32.toNatClampNeg q.2)) &&& 63) = 32 then (if ib (q.2 + 1) L then (Option.bind (p_X9_leastTarget q.1 0 (xs (Int32.toNatClampNeg (q.2 + 1)))) fun r196 => if ib (q.2 + 1) L then (Option.bind (p_X10_leastTarget r196.2 110 (xs (Int32.toNatClampNeg (q.2 + 1)))) fun r198 => if r196.1 = r198.1 then (k23 (r198.2, q.2 + 6)) else (none)) else none) else none) else if ((xs (Int32.toNatClampNeg q.2)) &&& 63) = 33 then (if ib (q.2 + 1) L then (Option.bind (p_X9_bestQuantum q.1 0 (xs (Int32.toNatClampNeg (q.2 + 1)))) fun r201 => if ib (q.2 + 1) L then (Option.bind (p_X10_bestQuantum r201.2 110 (xs (Int32.toNatClampNeg (q.2 + 1)))) fun r203 => if r201.1 = r203.1 then (k23 (r203.2, q.2 + 6)) else (none)) else none) else none) else if ((xs (Int32.toNatClampNeg q.2)) &&& 63) = 34 then (Option.bind (p_X9_shared q.1 0) fun r205 => Option.bind (p_X10_shared r205.2 110) fun r206 => if r205.1 = r206.1 then (k23 (r206.2, q.2 + 6)) else (none)) else if ((xs (Int32.toNatClampNeg q.2)) &&& 63) = 35 then (if ib (q.2 + 1) L then (if ib (q.2 + 2) L then (Option.bind (p_X9_within q.1 0 (xs (Int32.toNatClampNeg (q.2 + 1))) (xs (Int32.toNatClampNeg (q.2 + 2)))) fun r210 => if ib (q.2 + 1) L then (if ib (q.2 + 2) L then (Option.bind (p_X10_within r210.2 110 (xs (Int32.toNatClampNeg (q.2 + 1))) (xs (Int32.toNatClampNeg (q.2 + 2)))) fun r213 => if r210.1 = r213.1 then (k23 (r213.2, q.2 + 6)) else (none)) else none) else none) else none) else none) else if ((xs (Int32.toNatClampNeg q.2)) &&& 63) = 36 then (Option.bind (p_X9_middle q.1 0) fun r215 => Option.bind (p_X10_middle r215.2 110) fun r216 => if r215.1 = r216.1 then (k23 (r216.2, q.2 + 6)) else (none)) else if ((xs (Int32.toNatClampNeg q.2)) &&& 63) = 37 then (if ib (q.2 + 1) L then (Option.bind (p_X9_load q.1 0 (xs (Int32.toNatClampNeg (q.2 + 1)))) fun r219 => if ib (q.2 + 1) L then (Option.bind (p_X10_load r219.2 110 (xs (Int32.toNatClampNeg (q.2 + 1)))) fun r221 => if r219.1 = r221.1 then (k23 (r221.2, q.2 + 6)) else (none)) else none) else none) else if ((xs (Int32.toNatClampNeg q.2)) &&& 63) = 38 then (if ib (q.2 + 1) L then (Option.bind (p_X9_count q.1 0 (xs (Int32.toNatClampNeg (q.2 + 1)))) fun r224 => if ib (q.2 + 1) L then (Option.bind (p_X10_count r224.2 110 (xs (Int32.toNatClampNeg (q.2 + 1)))) fun r226 => if r224.1 = r226.1 then (k23 (r226.2, q.2 + 6)) else (none)) else none) else none) else (k23 (q.1, q.2 + 6))) else none)
set_option maxRecDepth 4000 in
set_option maxHeartbeats 4000000 in
theorem s_law {p : Program} {l : Launch} {e : Env} {s : State} {m : MethodId} {below : List Frame} {meth : Method} {c : Code} {G : GT} {b L : Nat} {xs : Nat → Int32} (cx2 : CX2 p s m #[Value.ref b] c code 7 RL G) (hst : l.stackTraces = false) (hx : SX G b L xs s) (hg : ∀ q ∈ obk, s.heap.size ≤ gad G q.1) (hr : meth.sig.returnType = ret) (hlk : meth.locks = false) : ∀ (n : Nat) (q : Hp × Int32) (cells slots : Nat), cells + n + 1 ≤ 601024 → slots + 6 * n + 6 ≤ 7293034 → PF p l e room_1 s m #[Value.ref b] below meth c 7 G cells slots (QL below b s) 23 [some (.ref b), some (.ref (gad G 0)), some (.ref (gad G 110)), some (.ref (gad G 120)), some (.int q.2), none, none] [] q.1 (lp (b_law xs L) n q) := by
  have cx := cx2.1
  intro n
  induction n with
  | zero => exact fun q cells slots _ _ => f_none
  | succ n ih =>
  intro q cells slots hc1 hc2
  have hA : cells ≤ 601024 ∧ slots ≤ 7293034 := ⟨by omega, by omega⟩
  have hB : cells + 1 ≤ 601024 ∧ slots + 6 ≤ 7293034 := ⟨by omega, by omega⟩
  have hk23 : ∀ (q : Hp × Int32) (c1 s1 : Nat), c1 ≤ cells + 1 → s1 ≤ slots + 6 → PF p l e room_1 s m #[Value.ref b] below meth c 7 G c1 s1 (QL below b s) 23 [some (.ref b), some (.ref (gad G 0)), some (.ref (gad G 110)), some (.ref (gad G 120)), some (.int q.2), none, none] [] q.1 (lp (b_law xs L) n q) := fun q c1 s1 h1 h2 => ih q c1 s1 (by omega) (by omega)
  show PF p l e room_1 s m #[Value.ref b] below meth c 7 G cells slots (QL below b s) 23 [some (.ref b), some (.ref (gad G 0)), some (.ref (gad G 110)), some (.ref (gad G 120)), some (.int q.2), none, none] [] q.1 (b_law xs L (lp (b_law xs L) n) q)
  generalize lp (b_law xs L) n = k23 at hk23 ⊢
  unfold b_law
  refine f_iload (pc := 23) cx dL_law_23 rfl ?_
  refine f_aload_n (pc := 25) cx dL_law_25 rfl rfl ?_
  refine f_scrlen (pc := 26) cx hx dL_law_26 ?_
  refine f_bipush (pc := 27) cx dL_law_27 kc_bipush_6 ?_
  refine f_isub (pc := 29) cx dL_law_29 ?_
  refine f_icmp_gt (pc := 30) (tgt := 1404) cx dL_law_30 (by decide) (fun _ => ?_) (fun _ => ?_)
  · refine f_iconst (pc := 1404) cx dL_law_1404 kc_iconst_1 ?_
    exact f_lend cx hg hr hlk hA dL_law_1405
  · refine f_aload_n (pc := 33) cx dL_law_33 rfl rfl ?_
    refine f_iload (pc := 34) cx dL_law_34 rfl ?_
    refine f_need (fun c1 => ?_)
    refine f_sld (pc := 36) cx hx c1 dL_law_36 ?_
    refine f_bipush (pc := 37) cx dL_law_37 kc_bipush_63 ?_
    refine f_iand (pc := 39) cx dL_law_39 ?_
    refine f_case (?_) (fun n14 => ?_)
    · refine f_tin (pc := 40) (tgt := 212) cx dL_law_40 (by decide) (by decide) rfl (by decide) ?_
      refine f_aload_n (pc := 212) cx dL_law_212 rfl rfl ?_
      refine f_aload_n (pc := 213) cx dL_law_213 rfl rfl ?_
      refine f_iload (pc := 214) cx dL_law_214 rfl ?_
      refine f_iconst (pc := 216) cx dL_law_216 kc_iconst_1 ?_
      refine f_iadd (pc := 217) cx dL_law_217 ?_
      refine f_need (fun c2 => ?_)
      refine f_sld (pc := 218) cx hx c2 dL_law_218 ?_
      refine f_aload_n (pc := 219) cx dL_law_219 rfl rfl ?_
      refine f_iload (pc := 220) cx dL_law_220 rfl ?_
      refine f_iconst (pc := 222) cx dL_law_222 kc_iconst_2 ?_
      refine f_iadd (pc := 223) cx dL_law_223 ?_
      refine f_need (fun c3 => ?_)
      refine f_sld (pc := 224) cx hx c3 dL_law_224 ?_
      refine f_aload_n (pc := 225) cx dL_law_225 rfl rfl ?_
      refine f_iload (pc := 226) cx dL_law_226 rfl ?_
      refine f_iconst (pc := 228) cx dL_law_228 kc_iconst_3 ?_
      refine f_iadd (pc := 229) cx dL_law_229 ?_
      refine f_need (fun c4 => ?_)
      refine f_sld (pc := 230) cx hx c4 dL_law_230 ?_
      refine f_aload_n (pc := 231) cx dL_law_231 rfl rfl ?_
      refine f_iload (pc := 232) cx dL_law_232 rfl ?_
      refine f_iconst (pc := 234) cx dL_law_234 kc_iconst_4 ?_
      refine f_iadd (pc := 235) cx dL_law_235 ?_
      refine f_need (fun c5 => ?_)
      refine f_sld (pc := 236) cx hx c5 dL_law_236 ?_
      refine f_aload_n (pc := 237) cx dL_law_237 rfl rfl ?_
      refine f_iload (pc := 238) cx dL_law_238 rfl ?_
      refine f_iconst (pc := 240) cx dL_law_240 kc_iconst_5 ?_
      refine f_iadd (pc := 241) cx dL_law_241 ?_
      refine f_need (fun c6 => ?_)
      refine f_sld (pc := 242) cx hx c6 dL_law_242 ?_
      refine f_bind (fun r7 hr7 => ?_)
      refine k_L_21 (pc := 243) cx (c_X9_feed l G _ 0 (xs (Int32.toNatClampNeg (q.2 + 1))) (xs (Int32.toNatClampNeg (q.2 + 2))) (xs (Int32.toNatClampNeg (q.2 + 3))) (xs (Int32.toNatClampNeg (q.2 + 4))) (xs (Int32.toNatClampNeg (q.2 + 5))) k0 r7 hr7) k0 ⟨Nat.le_of_ble_eq_true rfl, Nat.le_of_ble_eq_true rfl⟩ (by first | exact hA | exact hB) (Nat.le_of_ble_eq_true rfl) dL_law_243 ?_
      refine f_aload_n (pc := 246) cx dL_law_246 rfl rfl ?_
      refine f_aload_n (pc := 247) cx dL_law_247 rfl rfl ?_
      refine f_iload (pc := 248) cx dL_law_248 rfl ?_
      refine f_iconst (pc := 250) cx dL_law_250 kc_iconst_1 ?_
      refine f_iadd (pc := 251) cx dL_law_251 ?_
      refine f_need (fun c8 => ?_)
      refine f_sld (pc := 252) cx hx c8 dL_law_252 ?_
      refine f_aload_n (pc := 253) cx dL_law_253 rfl rfl ?_
      refine f_iload (pc := 254) cx dL_law_254 rfl ?_
      refine f_iconst (pc := 256) cx dL_law_256 kc_iconst_2 ?_
      refine f_iadd (pc := 257) cx dL_law_257 ?_
      refine f_need (fun c9 => ?_)
      refine f_sld (pc := 258) cx hx c9 dL_law_258 ?_
      refine f_aload_n (pc := 259) cx dL_law_259 rfl rfl ?_
      refine f_iload (pc := 260) cx dL_law_260 rfl ?_
      refine f_iconst (pc := 262) cx dL_law_262 kc_iconst_3 ?_
      refine f_iadd (pc := 263) cx dL_law_263 ?_
      refine f_need (fun c10 => ?_)
      refine f_sld (pc := 264) cx hx c10 dL_law_264 ?_
      refine f_aload_n (pc := 265) cx dL_law_265 rfl rfl ?_
      refine f_iload (pc := 266) cx dL_law_266 rfl ?_
      refine f_iconst (pc := 268) cx dL_law_268 kc_iconst_4 ?_
      refine f_iadd (pc := 269) cx dL_law_269 ?_
      refine f_need (fun c11 => ?_)
      refine f_sld (pc := 270) cx hx c11 dL_law_270 ?_
      refine f_aload_n (pc := 271) cx dL_law_271 rfl rfl ?_
      refine f_iload (pc := 272) cx dL_law_272 rfl ?_
      refine f_iconst (pc := 274) cx dL_law_274 kc_iconst_5 ?_
      refine f_iadd (pc := 275) cx dL_law_275 ?_
      refine f_need (fun c12 => ?_)
      refine f_sld (pc := 276) cx hx c12 dL_law_276 ?_
      refine f_bind (fun r13 hr13 => ?_)
      refine k_L_25 (pc := 277) cx (c_X10_feed l G _ 110 (xs (Int32.toNatClampNeg (q.2 + 1))) (xs (Int32.toNatClampNeg (q.2 + 2))) (xs (Int32.toNatClampNeg (q.2 + 3))) (xs (Int32.toNatClampNeg (q.2 + 4))) (xs (Int32.toNatClampNeg (q.2 + 5))) k110 r13 hr13) k110 ⟨Nat.le_of_ble_eq_true rfl, Nat.le_of_ble_eq_true rfl⟩ (by first | exact hA | exact hB) (Nat.le_of_ble_eq_true rfl) dL_law_277 ?_
      refine f_icmp_eq (pc := 280) (tgt := 1398) cx dL_law_280 (by decide) (fun _ => ?_) (fun _ => ?_)
      · refine f_iinc4 (pc := 1398) cx dL_law_1398 kc_iconst_6 (by decide) rfl ?_
        refine f_goto (pc := 1401) (tgt := 23) cx dL_law_1401 (by decide) ?_
        exact f_weak (LSb.s (LSb.s (LSb.s (LSb.s (LSb.s (LSb.n (LSb.n LSb.e))))))) (hk23 (r13.2, q.2 + 6) _ _ (by omega) (by omega))
      · refine f_iconst (pc := 283) cx dL_law_283 kc_iconst_0 ?_
        exact f_none
    refine f_case (?_) (fun n19 => ?_)
    · refine f_tin (pc := 40) (tgt := 285) cx dL_law_40 (by decide) (by decide) rfl (by decide) ?_
      refine f_aload_n (pc := 285) cx dL_law_285 rfl rfl ?_
      refine f_aload_n (pc := 286) cx dL_law_286 rfl rfl ?_
      refine f_iload (pc := 287) cx dL_law_287 rfl ?_
      refine f_iconst (pc := 289) cx dL_law_289 kc_iconst_1 ?_
      refine f_iadd (pc := 290) cx dL_law_290 ?_
      refine f_need (fun c15 => ?_)
      refine f_sld (pc := 291) cx hx c15 dL_law_291 ?_
      refine f_bind (fun r16 hr16 => ?_)
      refine k_L_26 (pc := 292) cx (c_X9_text l G _ 0 (xs (Int32.toNatClampNeg (q.2 + 1))) k0 r16 hr16) k0 ⟨Nat.le_of_ble_eq_true rfl, Nat.le_of_ble_eq_true rfl⟩ (by first | exact hA | exact hB) (Nat.le_of_ble_eq_true rfl) dL_law_292 ?_
      refine f_aload_n (pc := 295) cx dL_law_295 rfl rfl ?_
      refine f_aload_n (pc := 296) cx dL_law_296 rfl rfl ?_
      refine f_iload (pc := 297) cx dL_law_297 rfl ?_
      refine f_iconst (pc := 299) cx dL_law_299 kc_iconst_1 ?_
      refine f_iadd (pc := 300) cx dL_law_300 ?_
      refine f_need (fun c17 => ?_)
      refine f_sld (pc := 301) cx hx c17 dL_law_301 ?_
      refine f_bind (fun r18 hr18 => ?_)
      refine k_L_30 (pc := 302) cx (c_X10_text l G _ 110 (xs (Int32.toNatClampNeg (q.2 + 1))) k110 r18 hr18) k110 ⟨Nat.le_of_ble_eq_true rfl, Nat.le_of_ble_eq_true rfl⟩ (by first | exact hA | exact hB) (Nat.le_of_ble_eq_true rfl) dL_law_302 ?_
      refine f_icmp_eq (pc := 305) (tgt := 1398) cx dL_law_305 (by decide) (fun _ => ?_) (fun _ => ?_)
      · refine f_iinc4 (pc := 1398) cx dL_law_1398 kc_iconst_6 (by decide) rfl ?_
        refine f_goto (pc := 1401) (tgt := 23) cx dL_law_1401 (by decide) ?_
        exact f_weak (LSb.s (LSb.s (LSb.s (LSb.s (LSb.s (LSb.n (LSb.n LSb.e))))))) (hk23 (r18.2, q.2 + 6) _ _ (by omega) (by omega))
      · refine f_iconst (pc := 308) cx dL_law_308 kc_iconst_0 ?_
        exact f_none
    refine f_case (?_) (fun n24 => ?_)
    · refine f_tin (pc := 40) (tgt := 310) cx dL_law_40 (by decide) (by decide) rfl (by decide) ?_
      refine f_aload_n (pc := 310) cx dL_law_310 rfl rfl ?_
      refine f_aload_n (pc := 311) cx dL_law_311 rfl rfl ?_
      refine f_iload (pc := 312) cx dL_law_312 rfl ?_
      refine f_iconst (pc := 314) cx dL_law_314 kc_iconst_1 ?_
      refine f_iadd (pc := 315) cx dL_law_315 ?_
      refine f_need (fun c20 => ?_)
      refine f_sld (pc := 316) cx hx c20 dL_law_316 ?_
      refine f_bind (fun r21 hr21 => ?_)
      refine k_L_31 (pc := 317) cx (c_X9_fault l G _ 0 (xs (Int32.toNatClampNeg (q.2 + 1))) k0 r21 hr21) k0 ⟨Nat.le_of_ble_eq_true rfl, Nat.le_of_ble_eq_true rfl⟩ (by first | exact hA | exact hB) (Nat.le_of_ble_eq_true rfl) dL_law_317 ?_
      refine f_aload_n (pc := 320) cx dL_law_320 rfl rfl ?_
      refine f_aload_n (pc := 321) cx dL_law_321 rfl rfl ?_
      refine f_iload (pc := 322) cx dL_law_322 rfl ?_
      refine f_iconst (pc := 324) cx dL_law_324 kc_iconst_1 ?_
      refine f_iadd (pc := 325) cx dL_law_325 ?_
      refine f_need (fun c22 => ?_)
      refine f_sld (pc := 326) cx hx c22 dL_law_326 ?_
      refine f_bind (fun r23 hr23 => ?_)
      refine k_L_34 (pc := 327) cx (c_X10_fault l G _ 110 (xs (Int32.toNatClampNeg (q.2 + 1))) k110 r23 hr23) k110 ⟨Nat.le_of_ble_eq_true rfl, Nat.le_of_ble_eq_true rfl⟩ (by first | exact hA | exact hB) (Nat.le_of_ble_eq_true rfl) dL_law_327 ?_
      refine f_icmp_eq (pc := 330) (tgt := 1398) cx dL_law_330 (by decide) (fun _ => ?_) (fun _ => ?_)
      · refine f_iinc4 (pc := 1398) cx dL_law_1398 kc_iconst_6 (by decide) rfl ?_
        refine f_goto (pc := 1401) (tgt := 23) cx dL_law_1401 (by decide) ?_
        exact f_weak (LSb.s (LSb.s (LSb.s (LSb.s (LSb.s (LSb.n (LSb.n LSb.e))))))) (hk23 (r23.2, q.2 + 6) _ _ (by omega) (by omega))
      · refine f_iconst (pc := 333) cx dL_law_333 kc_iconst_0 ?_
        exact f_none
    refine f_case (?_) (fun n33 => ?_)
    · refine f_tin (pc := 40) (tgt := 335) cx dL_law_40 (by decide) (by decide) rfl (by decide) ?_
      refine f_aload_n (pc := 335) cx dL_law_335 rfl rfl ?_
      refine f_aload_n (pc := 336) cx dL_law_336 rfl rfl ?_
      refine f_iload (pc := 337) cx dL_law_337 rfl ?_
      refine f_iconst (pc := 339) cx dL_law_339 kc_iconst_1 ?_
      refine f_iadd (pc := 340) cx dL_law_340 ?_
      refine f_need (fun c25 => ?_)
      refine f_sld (pc := 341) cx hx c25 dL_law_341 ?_
      refine f_aload_n (pc := 342) cx dL_law_342 rfl rfl ?_
      refine f_iload (pc := 343) cx dL_law_343 rfl ?_
      refine f_iconst (pc := 345) cx dL_law_345 kc_iconst_2 ?_
      refine f_iadd (pc := 346) cx dL_law_346 ?_
      refine f_need (fun c26 => ?_)
      refine f_sld (pc := 347) cx hx c26 dL_law_347 ?_
      refine f_aload_n (pc := 348) cx dL_law_348 rfl rfl ?_
      refine f_iload (pc := 349) cx dL_law_349 rfl ?_
      refine f_iconst (pc := 351) cx dL_law_351 kc_iconst_3 ?_
      refine f_iadd (pc := 352) cx dL_law_352 ?_
      refine f_need (fun c27 => ?_)
      refine f_sld (pc := 353) cx hx c27 dL_law_353 ?_
      refine f_bind (fun r28 hr28 => ?_)
      refine k_L_35 (pc := 354) cx (c_X9_come l G _ 0 (xs (Int32.toNatClampNeg (q.2 + 1))) (xs (Int32.toNatClampNeg (q.2 + 2))) (xs (Int32.toNatClampNeg (q.2 + 3))) k0 r28 hr28) k0 ⟨Nat.le_of_ble_eq_true rfl, Nat.le_of_ble_eq_true rfl⟩ (by first | exact hA | exact hB) (Nat.le_of_ble_eq_true rfl) dL_law_354 ?_
      refine f_aload_n (pc := 357) cx dL_law_357 rfl rfl ?_
      refine f_aload_n (pc := 358) cx dL_law_358 rfl rfl ?_
      refine f_iload (pc := 359) cx dL_law_359 rfl ?_
      refine f_iconst (pc := 361) cx dL_law_361 kc_iconst_1 ?_
      refine f_iadd (pc := 362) cx dL_law_362 ?_
      refine f_need (fun c29 => ?_)
      refine f_sld (pc := 363) cx hx c29 dL_law_363 ?_
      refine f_aload_n (pc := 364) cx dL_law_364 rfl rfl ?_
      refine f_iload (pc := 365) cx dL_law_365 rfl ?_
      refine f_iconst (pc := 367) cx dL_law_367 kc_iconst_2 ?_
      refine f_iadd (pc := 368) cx dL_law_368 ?_
      refine f_need (fun c30 => ?_)
      refine f_sld (pc := 369) cx hx c30 dL_law_369 ?_
      refine f_aload_n (pc := 370) cx dL_law_370 rfl rfl ?_
      refine f_iload (pc := 371) cx dL_law_371 rfl ?_
      refine f_iconst (pc := 373) cx dL_law_373 kc_iconst_3 ?_
      refine f_iadd (pc := 374) cx dL_law_374 ?_
      refine f_need (fun c31 => ?_)
      refine f_sld (pc := 375) cx hx c31 dL_law_375 ?_
      refine f_bind (fun r32 hr32 => ?_)
      refine k_L_39 (pc := 376) cx (c_X10_come l G _ 110 (xs (Int32.toNatClampNeg (q.2 + 1))) (xs (Int32.toNatClampNeg (q.2 + 2))) (xs (Int32.toNatClampNeg (q.2 + 3))) k110 r32 hr32) k110 ⟨Nat.le_of_ble_eq_true rfl, Nat.le_of_ble_eq_true rfl⟩ (by first | exact hA | exact hB) (Nat.le_of_ble_eq_true rfl) dL_law_376 ?_
      refine f_icmp_eq (pc := 379) (tgt := 1398) cx dL_law_379 (by decide) (fun _ => ?_) (fun _ => ?_)
      · refine f_iinc4 (pc := 1398) cx dL_law_1398 kc_iconst_6 (by decide) rfl ?_
        refine f_goto (pc := 1401) (tgt := 23) cx dL_law_1401 (by decide) ?_
        exact f_weak (LSb.s (LSb.s (LSb.s (LSb.s (LSb.s (LSb.n (LSb.n LSb.e))))))) (hk23 (r32.2, q.2 + 6) _ _ (by omega) (by omega))
      · refine f_iconst (pc := 382) cx dL_law_382 kc_iconst_0 ?_
        exact f_none
    refine f_case (?_) (fun n38 => ?_)
    · refine f_tin (pc := 40) (tgt := 384) cx dL_law_40 (by decide) (by decide) rfl (by decide) ?_
      refine f_aload_n (pc := 384) cx dL_law_384 rfl rfl ?_
      refine f_aload_n (pc := 385) cx dL_law_385 rfl rfl ?_
      refine f_iload (pc := 386) cx dL_law_386 rfl ?_
      refine f_iconst (pc := 388) cx dL_law_388 kc_iconst_1 ?_
      refine f_iadd (pc := 389) cx dL_law_389 ?_
      refine f_need (fun c34 => ?_)
      refine f_sld (pc := 390) cx hx c34 dL_law_390 ?_
      refine f_bind (fun r35 hr35 => ?_)
      refine k_L_40 (pc := 391) cx (c_X9_pass l G _ 0 (xs (Int32.toNatClampNeg (q.2 + 1))) k0 r35 hr35) k0 ⟨Nat.le_of_ble_eq_true rfl, Nat.le_of_ble_eq_true rfl⟩ (by first | exact hA | exact hB) (Nat.le_of_ble_eq_true rfl) dL_law_391 ?_
      refine f_aload_n (pc := 394) cx dL_law_394 rfl rfl ?_
      refine f_aload_n (pc := 395) cx dL_law_395 rfl rfl ?_
      refine f_iload (pc := 396) cx dL_law_396 rfl ?_
      refine f_iconst (pc := 398) cx dL_law_398 kc_iconst_1 ?_
      refine f_iadd (pc := 399) cx dL_law_399 ?_
      refine f_need (fun c36 => ?_)
      refine f_sld (pc := 400) cx hx c36 dL_law_400 ?_
      refine f_bind (fun r37 hr37 => ?_)
      refine k_L_43 (pc := 401) cx (c_X10_pass l G _ 110 (xs (Int32.toNatClampNeg (q.2 + 1))) k110 r37 hr37) k110 ⟨Nat.le_of_ble_eq_true rfl, Nat.le_of_ble_eq_true rfl⟩ (by first | exact hA | exact hB) (Nat.le_of_ble_eq_true rfl) dL_law_401 ?_
      refine f_icmp_eq (pc := 404) (tgt := 1398) cx dL_law_404 (by decide) (fun _ => ?_) (fun _ => ?_)
      · refine f_iinc4 (pc := 1398) cx dL_law_1398 kc_iconst_6 (by decide) rfl ?_
        refine f_goto (pc := 1401) (tgt := 23) cx dL_law_1401 (by decide) ?_
        exact f_weak (LSb.s (LSb.s (LSb.s (LSb.s (LSb.s (LSb.n (LSb.n LSb.e))))))) (hk23 (r37.2, q.2 + 6) _ _ (by omega) (by omega))
      · refine f_iconst (pc := 407) cx dL_law_407 kc_iconst_0 ?_
        exact f_none
    refine f_case (?_) (fun n41 => ?_)
    · refine f_tin (pc := 40) (tgt := 409) cx dL_law_40 (by decide) (by decide) rfl (by decide) ?_
      refine f_aload_n (pc := 409) cx dL_law_409 rfl rfl ?_
      refine f_bind (fun r39 hr39 => ?_)
      refine k_L_44 (pc := 410) cx (c_X9_go l G _ 0 k0 r39 hr39) k0 ⟨Nat.le_of_ble_eq_true rfl, Nat.le_of_ble_eq_true rfl⟩ (by first | exact hA | exact hB) (Nat.le_of_ble_eq_true rfl) dL_law_410 ?_
      refine f_aload_n (pc := 413) cx dL_law_413 rfl rfl ?_
      refine f_bind (fun r40 hr40 => ?_)
      refine k_L_48 (pc := 414) cx (c_X10_go l G _ 110 k110 r40 hr40) k110 ⟨Nat.le_of_ble_eq_true rfl, Nat.le_of_ble_eq_true rfl⟩ (by first | exact hA | exact hB) (Nat.le_of_ble_eq_true rfl) dL_law_414 ?_
      refine f_icmp_eq (pc := 417) (tgt := 1398) cx dL_law_417 (by decide) (fun _ => ?_) (fun _ => ?_)
      · refine f_iinc4 (pc := 1398) cx dL_law_1398 kc_iconst_6 (by decide) rfl ?_
        refine f_goto (pc := 1401) (tgt := 23) cx dL_law_1401 (by decide) ?_
        exact f_weak (LSb.s (LSb.s (LSb.s (LSb.s (LSb.s (LSb.n (LSb.n LSb.e))))))) (hk23 (r40.2, q.2 + 6) _ _ (by omega) (by omega))
      · refine f_iconst (pc := 420) cx dL_law_420 kc_iconst_0 ?_
        exact f_none
    refine f_case (?_) (fun n46 => ?_)
    · refine f_tin (pc := 40) (tgt := 422) cx dL_law_40 (by decide) (by decide) rfl (by decide) ?_
      refine f_aload_n (pc := 422) cx dL_law_422 rfl rfl ?_
      refine f_aload_n (pc := 423) cx dL_law_423 rfl rfl ?_
      refine f_iload (pc := 424) cx dL_law_424 rfl ?_
      refine f_iconst (pc := 426) cx dL_law_426 kc_iconst_1 ?_
      refine f_iadd (pc := 427) cx dL_law_427 ?_
      refine f_need (fun c42 => ?_)
      refine f_sld (pc := 428) cx hx c42 dL_law_428 ?_
      refine f_bind (fun r43 hr43 => ?_)
      refine k_L_49 (pc := 429) cx (c_X9_run l G _ 0 (xs (Int32.toNatClampNeg (q.2 + 1))) k0 r43 hr43) k0 ⟨Nat.le_of_ble_eq_true rfl, Nat.le_of_ble_eq_true rfl⟩ (by first | exact hA | exact hB) (Nat.le_of_ble_eq_true rfl) dL_law_429 ?_
      refine f_aload_n (pc := 432) cx dL_law_432 rfl rfl ?_
      refine f_aload_n (pc := 433) cx dL_law_433 rfl rfl ?_
      refine f_iload (pc := 434) cx dL_law_434 rfl ?_
      refine f_iconst (pc := 436) cx dL_law_436 kc_iconst_1 ?_
      refine f_iadd (pc := 437) cx dL_law_437 ?_
      refine f_need (fun c44 => ?_)
      refine f_sld (pc := 438) cx hx c44 dL_law_438 ?_
      refine f_bind (fun r45 hr45 => ?_)
      refine k_L_52 (pc := 439) cx (c_X10_run l G _ 110 (xs (Int32.toNatClampNeg (q.2 + 1))) k110 r45 hr45) k110 ⟨Nat.le_of_ble_eq_true rfl, Nat.le_of_ble_eq_true rfl⟩ (by first | exact hA | exact hB) (Nat.le_of_ble_eq_true rfl) dL_law_439 ?_
      refine f_icmp_eq (pc := 442) (tgt := 1398) cx dL_law_442 (by decide) (fun _ => ?_) (fun _ => ?_)
      · refine f_iinc4 (pc := 1398) cx dL_law_1398 kc_iconst_6 (by decide) rfl ?_
        refine f_goto (pc := 1401) (tgt := 23) cx dL_law_1401 (by decide) ?_
        exact f_weak (LSb.s (LSb.s (LSb.s (LSb.s (LSb.s (LSb.n (LSb.n LSb.e))))))) (hk23 (r45.2, q.2 + 6) _ _ (by omega) (by omega))
      · refine f_iconst (pc := 445) cx dL_law_445 kc_iconst_0 ?_
        exact f_none
    refine f_case (?_) (fun n53 => ?_)
    · refine f_tin (pc := 40) (tgt := 447) cx dL_law_40 (by decide) (by decide) rfl (by decide) ?_
      refine f_aload_n (pc := 447) cx dL_law_447 rfl rfl ?_
      refine f_aload_n (pc := 448) cx dL_law_448 rfl rfl ?_
      refine f_iload (pc := 449) cx dL_law_449 rfl ?_
      refine f_iconst (pc := 451) cx dL_law_451 kc_iconst_1 ?_
      refine f_iadd (pc := 452) cx dL_law_452 ?_
      refine f_need (fun c47 => ?_)
      refine f_sld (pc := 453) cx hx c47 dL_law_453 ?_
      refine f_aload_n (pc := 454) cx dL_law_454 rfl rfl ?_
      refine f_iload (pc := 455) cx dL_law_455 rfl ?_
      refine f_iconst (pc := 457) cx dL_law_457 kc_iconst_2 ?_
      refine f_iadd (pc := 458) cx dL_law_458 ?_
      refine f_need (fun c48 => ?_)
      refine f_sld (pc := 459) cx hx c48 dL_law_459 ?_
      refine f_bind (fun r49 hr49 => ?_)
      refine k_L_53 (pc := 460) cx (c_X9_sender l G _ 0 (xs (Int32.toNatClampNeg (q.2 + 1))) (xs (Int32.toNatClampNeg (q.2 + 2))) k0 r49 hr49) k0 ⟨Nat.le_of_ble_eq_true rfl, Nat.le_of_ble_eq_true rfl⟩ (by first | exact hA | exact hB) (Nat.le_of_ble_eq_true rfl) dL_law_460 ?_
      refine f_aload_n (pc := 463) cx dL_law_463 rfl rfl ?_
      refine f_aload_n (pc := 464) cx dL_law_464 rfl rfl ?_
      refine f_iload (pc := 465) cx dL_law_465 rfl ?_
      refine f_iconst (pc := 467) cx dL_law_467 kc_iconst_1 ?_
      refine f_iadd (pc := 468) cx dL_law_468 ?_
      refine f_need (fun c50 => ?_)
      refine f_sld (pc := 469) cx hx c50 dL_law_469 ?_
      refine f_aload_n (pc := 470) cx dL_law_470 rfl rfl ?_
      refine f_iload (pc := 471) cx dL_law_471 rfl ?_
      refine f_iconst (pc := 473) cx dL_law_473 kc_iconst_2 ?_
      refine f_iadd (pc := 474) cx dL_law_474 ?_
      refine f_need (fun c51 => ?_)
      refine f_sld (pc := 475) cx hx c51 dL_law_475 ?_
      refine f_bind (fun r52 hr52 => ?_)
      refine k_L_56 (pc := 476) cx (c_X10_sender_ l G _ 110 (xs (Int32.toNatClampNeg (q.2 + 1))) (xs (Int32.toNatClampNeg (q.2 + 2))) k110 r52 hr52) k110 ⟨Nat.le_of_ble_eq_true rfl, Nat.le_of_ble_eq_true rfl⟩ (by first | exact hA | exact hB) (Nat.le_of_ble_eq_true rfl) dL_law_476 ?_
      refine f_icmp_eq (pc := 479) (tgt := 1398) cx dL_law_479 (by decide) (fun _ => ?_) (fun _ => ?_)
      · refine f_iinc4 (pc := 1398) cx dL_law_1398 kc_iconst_6 (by decide) rfl ?_
        refine f_goto (pc := 1401) (tgt := 23) cx dL_law_1401 (by decide) ?_
        exact f_weak (LSb.s (LSb.s (LSb.s (LSb.s (LSb.s (LSb.n (LSb.n LSb.e))))))) (hk23 (r52.2, q.2 + 6) _ _ (by omega) (by omega))
      · refine f_iconst (pc := 482) cx dL_law_482 kc_iconst_0 ?_
        exact f_none
    refine f_case (?_) (fun n58 => ?_)
    · refine f_tin (pc := 40) (tgt := 484) cx dL_law_40 (by decide) (by decide) rfl (by decide) ?_
      refine f_aload_n (pc := 484) cx dL_law_484 rfl rfl ?_
      refine f_aload_n (pc := 485) cx dL_law_485 rfl rfl ?_
      refine f_iload (pc := 486) cx dL_law_486 rfl ?_
      refine f_iconst (pc := 488) cx dL_law_488 kc_iconst_1 ?_
      refine f_iadd (pc := 489) cx dL_law_489 ?_
      refine f_need (fun c54 => ?_)
      refine f_sld (pc := 490) cx hx c54 dL_law_490 ?_
      refine f_bind (fun r55 hr55 => ?_)
      refine k_L_57 (pc := 491) cx (c_X9_whose l G _ 0 (xs (Int32.toNatClampNeg (q.2 + 1))) k0 r55 hr55) k0 ⟨Nat.le_of_ble_eq_true rfl, Nat.le_of_ble_eq_true rfl⟩ (by first | exact hA | exact hB) (Nat.le_of_ble_eq_true rfl) dL_law_491 ?_
      refine f_aload_n (pc := 494) cx dL_law_494 rfl rfl ?_
      refine f_aload_n (pc := 495) cx dL_law_495 rfl rfl ?_
      refine f_iload (pc := 496) cx dL_law_496 rfl ?_
      refine f_iconst (pc := 498) cx dL_law_498 kc_iconst_1 ?_
      refine f_iadd (pc := 499) cx dL_law_499 ?_
      refine f_need (fun c56 => ?_)
      refine f_sld (pc := 500) cx hx c56 dL_law_500 ?_
      refine f_bind (fun r57 hr57 => ?_)
      refine k_L_60 (pc := 501) cx (c_X10_whose l G _ 110 (xs (Int32.toNatClampNeg (q.2 + 1))) k110 r57 hr57) k110 ⟨Nat.le_of_ble_eq_true rfl, Nat.le_of_ble_eq_true rfl⟩ (by first | exact hA | exact hB) (Nat.le_of_ble_eq_true rfl) dL_law_501 ?_
      refine f_icmp_eq (pc := 504) (tgt := 1398) cx dL_law_504 (by decide) (fun _ => ?_) (fun _ => ?_)
      · refine f_iinc4 (pc := 1398) cx dL_law_1398 kc_iconst_6 (by decide) rfl ?_
        refine f_goto (pc := 1401) (tgt := 23) cx dL_law_1401 (by decide) ?_
        exact f_weak (LSb.s (LSb.s (LSb.s (LSb.s (LSb.s (LSb.n (LSb.n LSb.e))))))) (hk23 (r57.2, q.2 + 6) _ _ (by omega) (by omega))
      · refine f_iconst (pc := 507) cx dL_law_507 kc_iconst_0 ?_
        exact f_none
    refine f_case (?_) (fun n65 => ?_)
    · refine f_tin (pc := 40) (tgt := 509) cx dL_law_40 (by decide) (by decide) rfl (by decide) ?_
      refine f_aload_n (pc := 509) cx dL_law_509 rfl rfl ?_
      refine f_aload_n (pc := 510) cx dL_law_510 rfl rfl ?_
      refine f_iload (pc := 511) cx dL_law_511 rfl ?_
      refine f_iconst (pc := 513) cx dL_law_513 kc_iconst_1 ?_
      refine f_iadd (pc := 514) cx dL_law_514 ?_
      refine f_need (fun c59 => ?_)
      refine f_sld (pc := 515) cx hx c59 dL_law_515 ?_
      refine f_aload_n (pc := 516) cx dL_law_516 rfl rfl ?_
      refine f_iload (pc := 517) cx dL_law_517 rfl ?_
      refine f_iconst (pc := 519) cx dL_law_519 kc_iconst_2 ?_
      refine f_iadd (pc := 520) cx dL_law_520 ?_
      refine f_need (fun c60 => ?_)
      refine f_sld (pc := 521) cx hx c60 dL_law_521 ?_
      refine f_bind (fun r61 hr61 => ?_)
      refine k_L_61 (pc := 522) cx (c_X9_ifRun l G _ 0 (xs (Int32.toNatClampNeg (q.2 + 1))) (xs (Int32.toNatClampNeg (q.2 + 2))) k0 r61 hr61) k0 ⟨Nat.le_of_ble_eq_true rfl, Nat.le_of_ble_eq_true rfl⟩ (by first | exact hA | exact hB) (Nat.le_of_ble_eq_true rfl) dL_law_522 ?_
      refine f_aload_n (pc := 525) cx dL_law_525 rfl rfl ?_
      refine f_aload_n (pc := 526) cx dL_law_526 rfl rfl ?_
      refine f_iload (pc := 527) cx dL_law_527 rfl ?_
      refine f_iconst (pc := 529) cx dL_law_529 kc_iconst_1 ?_
      refine f_iadd (pc := 530) cx dL_law_530 ?_
      refine f_need (fun c62 => ?_)
      refine f_sld (pc := 531) cx hx c62 dL_law_531 ?_
      refine f_aload_n (pc := 532) cx dL_law_532 rfl rfl ?_
      refine f_iload (pc := 533) cx dL_law_533 rfl ?_
      refine f_iconst (pc := 535) cx dL_law_535 kc_iconst_2 ?_
      refine f_iadd (pc := 536) cx dL_law_536 ?_
      refine f_need (fun c63 => ?_)
      refine f_sld (pc := 537) cx hx c63 dL_law_537 ?_
      refine f_bind (fun r64 hr64 => ?_)
      refine k_L_64 (pc := 538) cx (c_X10_ifRun l G _ 110 (xs (Int32.toNatClampNeg (q.2 + 1))) (xs (Int32.toNatClampNeg (q.2 + 2))) k110 r64 hr64) k110 ⟨Nat.le_of_ble_eq_true rfl, Nat.le_of_ble_eq_true rfl⟩ (by first | exact hA | exact hB) (Nat.le_of_ble_eq_true rfl) dL_law_538 ?_
      refine f_icmp_eq (pc := 541) (tgt := 1398) cx dL_law_541 (by decide) (fun _ => ?_) (fun _ => ?_)
      · refine f_iinc4 (pc := 1398) cx dL_law_1398 kc_iconst_6 (by decide) rfl ?_
        refine f_goto (pc := 1401) (tgt := 23) cx dL_law_1401 (by decide) ?_
        exact f_weak (LSb.s (LSb.s (LSb.s (LSb.s (LSb.s (LSb.n (LSb.n LSb.e))))))) (hk23 (r64.2, q.2 + 6) _ _ (by omega) (by omega))
      · refine f_iconst (pc := 544) cx dL_law_544 kc_iconst_0 ?_
        exact f_none
    refine f_case (?_) (fun n70 => ?_)
    · refine f_tin (pc := 40) (tgt := 546) cx dL_law_40 (by decide) (by decide) rfl (by decide) ?_
      refine f_aload_n (pc := 546) cx dL_law_546 rfl rfl ?_
      refine f_aload_n (pc := 547) cx dL_law_547 rfl rfl ?_
      refine f_iload (pc := 548) cx dL_law_548 rfl ?_
      refine f_iconst (pc := 550) cx dL_law_550 kc_iconst_1 ?_
      refine f_iadd (pc := 551) cx dL_law_551 ?_
      refine f_need (fun c66 => ?_)
      refine f_sld (pc := 552) cx hx c66 dL_law_552 ?_
      refine f_bind (fun r67 hr67 => ?_)
      refine k_L_65 (pc := 553) cx (c_X9_firstCut l G _ 0 (xs (Int32.toNatClampNeg (q.2 + 1))) k0 r67 hr67) k0 ⟨Nat.le_of_ble_eq_true rfl, Nat.le_of_ble_eq_true rfl⟩ (by first | exact hA | exact hB) (Nat.le_of_ble_eq_true rfl) dL_law_553 ?_
      refine f_aload_n (pc := 556) cx dL_law_556 rfl rfl ?_
      refine f_aload_n (pc := 557) cx dL_law_557 rfl rfl ?_
      refine f_iload (pc := 558) cx dL_law_558 rfl ?_
      refine f_iconst (pc := 560) cx dL_law_560 kc_iconst_1 ?_
      refine f_iadd (pc := 561) cx dL_law_561 ?_
      refine f_need (fun c68 => ?_)
      refine f_sld (pc := 562) cx hx c68 dL_law_562 ?_
      refine f_bind (fun r69 hr69 => ?_)
      refine k_L_68 (pc := 563) cx (c_X10_firstCut l G _ 110 (xs (Int32.toNatClampNeg (q.2 + 1))) k110 r69 hr69) k110 ⟨Nat.le_of_ble_eq_true rfl, Nat.le_of_ble_eq_true rfl⟩ (by first | exact hA | exact hB) (Nat.le_of_ble_eq_true rfl) dL_law_563 ?_
      refine f_icmp_eq (pc := 566) (tgt := 1398) cx dL_law_566 (by decide) (fun _ => ?_) (fun _ => ?_)
      · refine f_iinc4 (pc := 1398) cx dL_law_1398 kc_iconst_6 (by decide) rfl ?_
        refine f_goto (pc := 1401) (tgt := 23) cx dL_law_1401 (by decide) ?_
        exact f_weak (LSb.s (LSb.s (LSb.s (LSb.s (LSb.s (LSb.n (LSb.n LSb.e))))))) (hk23 (r69.2, q.2 + 6) _ _ (by omega) (by omega))
      · refine f_iconst (pc := 569) cx dL_law_569 kc_iconst_0 ?_
        exact f_none
    refine f_case (?_) (fun n75 => ?_)
    · refine f_tin (pc := 40) (tgt := 571) cx dL_law_40 (by decide) (by decide) rfl (by decide) ?_
      refine f_aload_n (pc := 571) cx dL_law_571 rfl rfl ?_
      refine f_aload_n (pc := 572) cx dL_law_572 rfl rfl ?_
      refine f_iload (pc := 573) cx dL_law_573 rfl ?_
      refine f_iconst (pc := 575) cx dL_law_575 kc_iconst_1 ?_
      refine f_iadd (pc := 576) cx dL_law_576 ?_
      refine f_need (fun c71 => ?_)
      refine f_sld (pc := 577) cx hx c71 dL_law_577 ?_
      refine f_bind (fun r72 hr72 => ?_)
      refine k_L_69 (pc := 578) cx (c_X9_leastLimit l G _ 0 (xs (Int32.toNatClampNeg (q.2 + 1))) k0 r72 hr72) k0 ⟨Nat.le_of_ble_eq_true rfl, Nat.le_of_ble_eq_true rfl⟩ (by first | exact hA | exact hB) (Nat.le_of_ble_eq_true rfl) dL_law_578 ?_
      refine f_aload_n (pc := 581) cx dL_law_581 rfl rfl ?_
      refine f_aload_n (pc := 582) cx dL_law_582 rfl rfl ?_
      refine f_iload (pc := 583) cx dL_law_583 rfl ?_
      refine f_iconst (pc := 585) cx dL_law_585 kc_iconst_1 ?_
      refine f_iadd (pc := 586) cx dL_law_586 ?_
      refine f_need (fun c73 => ?_)
      refine f_sld (pc := 587) cx hx c73 dL_law_587 ?_
      refine f_bind (fun r74 hr74 => ?_)
      refine k_L_72 (pc := 588) cx (c_X10_leastLimit l G _ 110 (xs (Int32.toNatClampNeg (q.2 + 1))) k110 r74 hr74) k110 ⟨Nat.le_of_ble_eq_true rfl, Nat.le_of_ble_eq_true rfl⟩ (by first | exact hA | exact hB) (Nat.le_of_ble_eq_true rfl) dL_law_588 ?_
      refine f_icmp_eq (pc := 591) (tgt := 1398) cx dL_law_591 (by decide) (fun _ => ?_) (fun _ => ?_)
      · refine f_iinc4 (pc := 1398) cx dL_law_1398 kc_iconst_6 (by decide) rfl ?_
        refine f_goto (pc := 1401) (tgt := 23) cx dL_law_1401 (by decide) ?_
        exact f_weak (LSb.s (LSb.s (LSb.s (LSb.s (LSb.s (LSb.n (LSb.n LSb.e))))))) (hk23 (r74.2, q.2 + 6) _ _ (by omega) (by omega))
      · refine f_iconst (pc := 594) cx dL_law_594 kc_iconst_0 ?_
        exact f_none
    refine f_case (?_) (fun n80 => ?_)
    · refine f_tin (pc := 40) (tgt := 596) cx dL_law_40 (by decide) (by decide) rfl (by decide) ?_
      refine f_aload_n (pc := 596) cx dL_law_596 rfl rfl ?_
      refine f_aload_n (pc := 597) cx dL_law_597 rfl rfl ?_
      refine f_iload (pc := 598) cx dL_law_598 rfl ?_
      refine f_iconst (pc := 600) cx dL_law_600 kc_iconst_1 ?_
      refine f_iadd (pc := 601) cx dL_law_601 ?_
      refine f_need (fun c76 => ?_)
      refine f_sld (pc := 602) cx hx c76 dL_law_602 ?_
      refine f_bind (fun r77 hr77 => ?_)
      refine k_L_73 (pc := 603) cx (c_X9_bestTarget l G _ 0 (xs (Int32.toNatClampNeg (q.2 + 1))) k0 r77 hr77) k0 ⟨Nat.le_of_ble_eq_true rfl, Nat.le_of_ble_eq_true rfl⟩ (by first | exact hA | exact hB) (Nat.le_of_ble_eq_true rfl) dL_law_603 ?_
      refine f_aload_n (pc := 606) cx dL_law_606 rfl rfl ?_
      refine f_aload_n (pc := 607) cx dL_law_607 rfl rfl ?_
      refine f_iload (pc := 608) cx dL_law_608 rfl ?_
      refine f_iconst (pc := 610) cx dL_law_610 kc_iconst_1 ?_
      refine f_iadd (pc := 611) cx dL_law_611 ?_
      refine f_need (fun c78 => ?_)
      refine f_sld (pc := 612) cx hx c78 dL_law_612 ?_
      refine f_bind (fun r79 hr79 => ?_)
      refine k_L_76 (pc := 613) cx (c_X10_bestTarget l G _ 110 (xs (Int32.toNatClampNeg (q.2 + 1))) k110 r79 hr79) k110 ⟨Nat.le_of_ble_eq_true rfl, Nat.le_of_ble_eq_true rfl⟩ (by first | exact hA | exact hB) (Nat.le_of_ble_eq_true rfl) dL_law_613 ?_
      refine f_icmp_eq (pc := 616) (tgt := 1398) cx dL_law_616 (by decide) (fun _ => ?_) (fun _ => ?_)
      · refine f_iinc4 (pc := 1398) cx dL_law_1398 kc_iconst_6 (by decide) rfl ?_
        refine f_goto (pc := 1401) (tgt := 23) cx dL_law_1401 (by decide) ?_
        exact f_weak (LSb.s (LSb.s (LSb.s (LSb.s (LSb.s (LSb.n (LSb.n LSb.e))))))) (hk23 (r79.2, q.2 + 6) _ _ (by omega) (by omega))
      · refine f_iconst (pc := 619) cx dL_law_619 kc_iconst_0 ?_
        exact f_none
    refine f_case (?_) (fun n87 => ?_)
    · refine f_tin (pc := 40) (tgt := 621) cx dL_law_40 (by decide) (by decide) rfl (by decide) ?_
      refine f_aload_n (pc := 621) cx dL_law_621 rfl rfl ?_
      refine f_aload_n (pc := 622) cx dL_law_622 rfl rfl ?_
      refine f_iload (pc := 623) cx dL_law_623 rfl ?_
      refine f_iconst (pc := 625) cx dL_law_625 kc_iconst_1 ?_
      refine f_iadd (pc := 626) cx dL_law_626 ?_
      refine f_need (fun c81 => ?_)
      refine f_sld (pc := 627) cx hx c81 dL_law_627 ?_
      refine f_aload_n (pc := 628) cx dL_law_628 rfl rfl ?_
      refine f_iload (pc := 629) cx dL_law_629 rfl ?_
      refine f_iconst (pc := 631) cx dL_law_631 kc_iconst_2 ?_
      refine f_iadd (pc := 632) cx dL_law_632 ?_
      refine f_need (fun c82 => ?_)
      refine f_sld (pc := 633) cx hx c82 dL_law_633 ?_
      refine f_bind (fun r83 hr83 => ?_)
      refine k_L_77 (pc := 634) cx (c_X9_settle l G _ 0 (xs (Int32.toNatClampNeg (q.2 + 1))) (xs (Int32.toNatClampNeg (q.2 + 2))) k0 r83 hr83) k0 ⟨Nat.le_of_ble_eq_true rfl, Nat.le_of_ble_eq_true rfl⟩ (by first | exact hA | exact hB) (Nat.le_of_ble_eq_true rfl) dL_law_634 ?_
      refine f_aload_n (pc := 637) cx dL_law_637 rfl rfl ?_
      refine f_aload_n (pc := 638) cx dL_law_638 rfl rfl ?_
      refine f_iload (pc := 639) cx dL_law_639 rfl ?_
      refine f_iconst (pc := 641) cx dL_law_641 kc_iconst_1 ?_
      refine f_iadd (pc := 642) cx dL_law_642 ?_
      refine f_need (fun c84 => ?_)
      refine f_sld (pc := 643) cx hx c84 dL_law_643 ?_
      refine f_aload_n (pc := 644) cx dL_law_644 rfl rfl ?_
      refine f_iload (pc := 645) cx dL_law_645 rfl ?_
      refine f_iconst (pc := 647) cx dL_law_647 kc_iconst_2 ?_
      refine f_iadd (pc := 648) cx dL_law_648 ?_
      refine f_need (fun c85 => ?_)
      refine f_sld (pc := 649) cx hx c85 dL_law_649 ?_
      refine f_bind (fun r86 hr86 => ?_)
      refine k_L_80 (pc := 650) cx (c_X10_settle l G _ 110 (xs (Int32.toNatClampNeg (q.2 + 1))) (xs (Int32.toNatClampNeg (q.2 + 2))) k110 r86 hr86) k110 ⟨Nat.le_of_ble_eq_true rfl, Nat.le_of_ble_eq_true rfl⟩ (by first | exact hA | exact hB) (Nat.le_of_ble_eq_true rfl) dL_law_650 ?_
      refine f_icmp_eq (pc := 653) (tgt := 1398) cx dL_law_653 (by decide) (fun _ => ?_) (fun _ => ?_)
      · refine f_iinc4 (pc := 1398) cx dL_law_1398 kc_iconst_6 (by decide) rfl ?_
        refine f_goto (pc := 1401) (tgt := 23) cx dL_law_1401 (by decide) ?_
        exact f_weak (LSb.s (LSb.s (LSb.s (LSb.s (LSb.s (LSb.n (LSb.n LSb.e))))))) (hk23 (r86.2, q.2 + 6) _ _ (by omega) (by omega))
      · refine f_iconst (pc := 656) cx dL_law_656 kc_iconst_0 ?_
        exact f_none
    refine f_case (?_) (fun n94 => ?_)
    · refine f_tin (pc := 40) (tgt := 658) cx dL_law_40 (by decide) (by decide) rfl (by decide) ?_
      refine f_aload_n (pc := 658) cx dL_law_658 rfl rfl ?_
      refine f_aload_n (pc := 659) cx dL_law_659 rfl rfl ?_
      refine f_iload (pc := 660) cx dL_law_660 rfl ?_
      refine f_iconst (pc := 662) cx dL_law_662 kc_iconst_1 ?_
      refine f_iadd (pc := 663) cx dL_law_663 ?_
      refine f_need (fun c88 => ?_)
      refine f_sld (pc := 664) cx hx c88 dL_law_664 ?_
      refine f_aload_n (pc := 665) cx dL_law_665 rfl rfl ?_
      refine f_iload (pc := 666) cx dL_law_666 rfl ?_
      refine f_iconst (pc := 668) cx dL_law_668 kc_iconst_2 ?_
      refine f_iadd (pc := 669) cx dL_law_669 ?_
      refine f_need (fun c89 => ?_)
      refine f_sld (pc := 670) cx hx c89 dL_law_670 ?_
      refine f_bind (fun r90 hr90 => ?_)
      refine k_L_81 (pc := 671) cx (c_X9_watch l G _ 0 (xs (Int32.toNatClampNeg (q.2 + 1))) (xs (Int32.toNatClampNeg (q.2 + 2))) k0 r90 hr90) k0 ⟨Nat.le_of_ble_eq_true rfl, Nat.le_of_ble_eq_true rfl⟩ (by first | exact hA | exact hB) (Nat.le_of_ble_eq_true rfl) dL_law_671 ?_
      refine f_aload_n (pc := 674) cx dL_law_674 rfl rfl ?_
      refine f_aload_n (pc := 675) cx dL_law_675 rfl rfl ?_
      refine f_iload (pc := 676) cx dL_law_676 rfl ?_
      refine f_iconst (pc := 678) cx dL_law_678 kc_iconst_1 ?_
      refine f_iadd (pc := 679) cx dL_law_679 ?_
      refine f_need (fun c91 => ?_)
      refine f_sld (pc := 680) cx hx c91 dL_law_680 ?_
      refine f_aload_n (pc := 681) cx dL_law_681 rfl rfl ?_
      refine f_iload (pc := 682) cx dL_law_682 rfl ?_
      refine f_iconst (pc := 684) cx dL_law_684 kc_iconst_2 ?_
      refine f_iadd (pc := 685) cx dL_law_685 ?_
      refine f_need (fun c92 => ?_)
      refine f_sld (pc := 686) cx hx c92 dL_law_686 ?_
      refine f_bind (fun r93 hr93 => ?_)
      refine k_L_84 (pc := 687) cx (c_X10_watch l G _ 110 (xs (Int32.toNatClampNeg (q.2 + 1))) (xs (Int32.toNatClampNeg (q.2 + 2))) k110 r93 hr93) k110 ⟨Nat.le_of_ble_eq_true rfl, Nat.le_of_ble_eq_true rfl⟩ (by first | exact hA | exact hB) (Nat.le_of_ble_eq_true rfl) dL_law_687 ?_
      refine f_icmp_eq (pc := 690) (tgt := 1398) cx dL_law_690 (by decide) (fun _ => ?_) (fun _ => ?_)
      · refine f_iinc4 (pc := 1398) cx dL_law_1398 kc_iconst_6 (by decide) rfl ?_
        refine f_goto (pc := 1401) (tgt := 23) cx dL_law_1401 (by decide) ?_
        exact f_weak (LSb.s (LSb.s (LSb.s (LSb.s (LSb.s (LSb.n (LSb.n LSb.e))))))) (hk23 (r93.2, q.2 + 6) _ _ (by omega) (by omega))
      · refine f_iconst (pc := 693) cx dL_law_693 kc_iconst_0 ?_
        exact f_none
    refine f_case (?_) (fun n99 => ?_)
    · refine f_tin (pc := 40) (tgt := 695) cx dL_law_40 (by decide) (by decide) rfl (by decide) ?_
      refine f_aload_n (pc := 695) cx dL_law_695 rfl rfl ?_
      refine f_aload_n (pc := 696) cx dL_law_696 rfl rfl ?_
      refine f_iload (pc := 697) cx dL_law_697 rfl ?_
      refine f_iconst (pc := 699) cx dL_law_699 kc_iconst_1 ?_
      refine f_iadd (pc := 700) cx dL_law_700 ?_
      refine f_need (fun c95 => ?_)
      refine f_sld (pc := 701) cx hx c95 dL_law_701 ?_
      refine f_bind (fun r96 hr96 => ?_)
      refine k_L_85 (pc := 702) cx (c_X9_watched l G _ 0 (xs (Int32.toNatClampNeg (q.2 + 1))) k0 r96 hr96) k0 ⟨Nat.le_of_ble_eq_true rfl, Nat.le_of_ble_eq_true rfl⟩ (by first | exact hA | exact hB) (Nat.le_of_ble_eq_true rfl) dL_law_702 ?_
      refine f_aload_n (pc := 705) cx dL_law_705 rfl rfl ?_
      refine f_aload_n (pc := 706) cx dL_law_706 rfl rfl ?_
      refine f_iload (pc := 707) cx dL_law_707 rfl ?_
      refine f_iconst (pc := 709) cx dL_law_709 kc_iconst_1 ?_
      refine f_iadd (pc := 710) cx dL_law_710 ?_
      refine f_need (fun c97 => ?_)
      refine f_sld (pc := 711) cx hx c97 dL_law_711 ?_
      refine f_bind (fun r98 hr98 => ?_)
      refine k_L_88 (pc := 712) cx (c_X10_watched l G _ 110 (xs (Int32.toNatClampNeg (q.2 + 1))) k110 r98 hr98) k110 ⟨Nat.le_of_ble_eq_true rfl, Nat.le_of_ble_eq_true rfl⟩ (by first | exact hA | exact hB) (Nat.le_of_ble_eq_true rfl) dL_law_712 ?_
      refine f_icmp_eq (pc := 715) (tgt := 1398) cx dL_law_715 (by decide) (fun _ => ?_) (fun _ => ?_)
      · refine f_iinc4 (pc := 1398) cx dL_law_1398 kc_iconst_6 (by decide) rfl ?_
        refine f_goto (pc := 1401) (tgt := 23) cx dL_law_1401 (by decide) ?_
        exact f_weak (LSb.s (LSb.s (LSb.s (LSb.s (LSb.s (LSb.n (LSb.n LSb.e))))))) (hk23 (r98.2, q.2 + 6) _ _ (by omega) (by omega))
      · refine f_iconst (pc := 718) cx dL_law_718 kc_iconst_0 ?_
        exact f_none
    refine f_case (?_) (fun n104 => ?_)
    · refine f_tin (pc := 40) (tgt := 720) cx dL_law_40 (by decide) (by decide) rfl (by decide) ?_
      refine f_aload_n (pc := 720) cx dL_law_720 rfl rfl ?_
      refine f_aload_n (pc := 721) cx dL_law_721 rfl rfl ?_
      refine f_iload (pc := 722) cx dL_law_722 rfl ?_
      refine f_iconst (pc := 724) cx dL_law_724 kc_iconst_1 ?_
      refine f_iadd (pc := 725) cx dL_law_725 ?_
      refine f_need (fun c100 => ?_)
      refine f_sld (pc := 726) cx hx c100 dL_law_726 ?_
      refine f_bind (fun r101 hr101 => ?_)
      refine k_L_89 (pc := 727) cx (c_X9_set l G _ 0 (xs (Int32.toNatClampNeg (q.2 + 1))) k0 r101 hr101) k0 ⟨Nat.le_of_ble_eq_true rfl, Nat.le_of_ble_eq_true rfl⟩ (by first | exact hA | exact hB) (Nat.le_of_ble_eq_true rfl) dL_law_727 ?_
      refine f_aload_n (pc := 730) cx dL_law_730 rfl rfl ?_
      refine f_aload_n (pc := 731) cx dL_law_731 rfl rfl ?_
      refine f_iload (pc := 732) cx dL_law_732 rfl ?_
      refine f_iconst (pc := 734) cx dL_law_734 kc_iconst_1 ?_
      refine f_iadd (pc := 735) cx dL_law_735 ?_
      refine f_need (fun c102 => ?_)
      refine f_sld (pc := 736) cx hx c102 dL_law_736 ?_
      refine f_bind (fun r103 hr103 => ?_)
      refine k_L_92 (pc := 737) cx (c_X10_set l G _ 110 (xs (Int32.toNatClampNeg (q.2 + 1))) k110 r103 hr103) k110 ⟨Nat.le_of_ble_eq_true rfl, Nat.le_of_ble_eq_true rfl⟩ (by first | exact hA | exact hB) (Nat.le_of_ble_eq_true rfl) dL_law_737 ?_
      refine f_icmp_eq (pc := 740) (tgt := 1398) cx dL_law_740 (by decide) (fun _ => ?_) (fun _ => ?_)
      · refine f_iinc4 (pc := 1398) cx dL_law_1398 kc_iconst_6 (by decide) rfl ?_
        refine f_goto (pc := 1401) (tgt := 23) cx dL_law_1401 (by decide) ?_
        exact f_weak (LSb.s (LSb.s (LSb.s (LSb.s (LSb.s (LSb.n (LSb.n LSb.e))))))) (hk23 (r103.2, q.2 + 6) _ _ (by omega) (by omega))
      · refine f_iconst (pc := 743) cx dL_law_743 kc_iconst_0 ?_
        exact f_none
    refine f_case (?_) (fun n109 => ?_)
    · refine f_tin (pc := 40) (tgt := 745) cx dL_law_40 (by decide) (by decide) rfl (by decide) ?_
      refine f_aload_n (pc := 745) cx dL_law_745 rfl rfl ?_
      refine f_aload_n (pc := 746) cx dL_law_746 rfl rfl ?_
      refine f_iload (pc := 747) cx dL_law_747 rfl ?_
      refine f_iconst (pc := 749) cx dL_law_749 kc_iconst_1 ?_
      refine f_iadd (pc := 750) cx dL_law_750 ?_
      refine f_need (fun c105 => ?_)
      refine f_sld (pc := 751) cx hx c105 dL_law_751 ?_
      refine f_bind (fun r106 hr106 => ?_)
      refine k_L_93 (pc := 752) cx (c_X9_bucketFor l G _ 0 (xs (Int32.toNatClampNeg (q.2 + 1))) k0 r106 hr106) k0 ⟨Nat.le_of_ble_eq_true rfl, Nat.le_of_ble_eq_true rfl⟩ (by first | exact hA | exact hB) (Nat.le_of_ble_eq_true rfl) dL_law_752 ?_
      refine f_aload_n (pc := 755) cx dL_law_755 rfl rfl ?_
      refine f_aload_n (pc := 756) cx dL_law_756 rfl rfl ?_
      refine f_iload (pc := 757) cx dL_law_757 rfl ?_
      refine f_iconst (pc := 759) cx dL_law_759 kc_iconst_1 ?_
      refine f_iadd (pc := 760) cx dL_law_760 ?_
      refine f_need (fun c107 => ?_)
      refine f_sld (pc := 761) cx hx c107 dL_law_761 ?_
      refine f_bind (fun r108 hr108 => ?_)
      refine k_L_96 (pc := 762) cx (c_X10_bucketFor l G _ 110 (xs (Int32.toNatClampNeg (q.2 + 1))) k110 r108 hr108) k110 ⟨Nat.le_of_ble_eq_true rfl, Nat.le_of_ble_eq_true rfl⟩ (by first | exact hA | exact hB) (Nat.le_of_ble_eq_true rfl) dL_law_762 ?_
      refine f_icmp_eq (pc := 765) (tgt := 1398) cx dL_law_765 (by decide) (fun _ => ?_) (fun _ => ?_)
      · refine f_iinc4 (pc := 1398) cx dL_law_1398 kc_iconst_6 (by decide) rfl ?_
        refine f_goto (pc := 1401) (tgt := 23) cx dL_law_1401 (by decide) ?_
        exact f_weak (LSb.s (LSb.s (LSb.s (LSb.s (LSb.s (LSb.n (LSb.n LSb.e))))))) (hk23 (r108.2, q.2 + 6) _ _ (by omega) (by omega))
      · refine f_iconst (pc := 768) cx dL_law_768 kc_iconst_0 ?_
        exact f_none
    refine f_case (?_) (fun n117 => ?_)
    · refine f_tin (pc := 40) (tgt := 770) cx dL_law_40 (by decide) (by decide) rfl (by decide) ?_
      refine f_aload_n (pc := 770) cx dL_law_770 rfl rfl ?_
      refine f_aload_n (pc := 771) cx dL_law_771 rfl rfl ?_
      refine f_iload (pc := 772) cx dL_law_772 rfl ?_
      refine f_iconst (pc := 774) cx dL_law_774 kc_iconst_1 ?_
      refine f_iadd (pc := 775) cx dL_law_775 ?_
      refine f_need (fun c110 => ?_)
      refine f_sld (pc := 776) cx hx c110 dL_law_776 ?_
      refine f_aload_n (pc := 777) cx dL_law_777 rfl rfl ?_
      refine f_iload (pc := 778) cx dL_law_778 rfl ?_
      refine f_iconst (pc := 780) cx dL_law_780 kc_iconst_2 ?_
      refine f_iadd (pc := 781) cx dL_law_781 ?_
      refine f_need (fun c111 => ?_)
      refine f_sld (pc := 782) cx hx c111 dL_law_782 ?_
      refine f_aload_n (pc := 783) cx dL_law_783 rfl rfl ?_
      refine f_bind (fun r112 hr112 => ?_)
      refine f_Lbk (pc := 784) cx2 hst hr112 hB (Nat.le_of_ble_eq_true rfl) dL_law_784 ?_
      refine f_istore5 (pc := 787) cx dL_law_787 (by decide) rfl ?_
      refine f_aload_n (pc := 789) cx dL_law_789 rfl rfl ?_
      refine f_aload_n (pc := 790) cx dL_law_790 rfl rfl ?_
      refine f_iload (pc := 791) cx dL_law_791 rfl ?_
      refine f_iconst (pc := 793) cx dL_law_793 kc_iconst_1 ?_
      refine f_iadd (pc := 794) cx dL_law_794 ?_
      refine f_need (fun c113 => ?_)
      refine f_sld (pc := 795) cx hx c113 dL_law_795 ?_
      refine f_aload_n (pc := 796) cx dL_law_796 rfl rfl ?_
      refine f_iload (pc := 797) cx dL_law_797 rfl ?_
      refine f_iconst (pc := 799) cx dL_law_799 kc_iconst_2 ?_
      refine f_iadd (pc := 800) cx dL_law_800 ?_
      refine f_need (fun c114 => ?_)
      refine f_sld (pc := 801) cx hx c114 dL_law_801 ?_
      refine f_bind (fun r115 hr115 => ?_)
      refine k_L_102 (pc := 802) cx (c_X10_bucket l G _ 110 (xs (Int32.toNatClampNeg (q.2 + 1))) (xs (Int32.toNatClampNeg (q.2 + 2))) k110 r115 hr115) k110 ⟨Nat.le_of_ble_eq_true rfl, Nat.le_of_ble_eq_true rfl⟩ (by first | exact hA | exact hB) (Nat.le_of_ble_eq_true rfl) dL_law_802 ?_
      refine f_istore6 (pc := 805) cx dL_law_805 (by decide) rfl ?_
      refine f_aload_n (pc := 807) cx dL_law_807 rfl rfl ?_
      refine f_bind (fun r116 hr116 => ?_)
      refine k_L_103 (pc := 808) cx (c_X10_thrown l G _ 110 k110 r116 hr116) k110 ⟨Nat.le_of_ble_eq_true rfl, Nat.le_of_ble_eq_true rfl⟩ (by first | exact hA | exact hB) (Nat.le_of_ble_eq_true rfl) dL_law_808 ?_
      refine f_iload (pc := 811) cx dL_law_811 rfl ?_
      refine f_icmp_eq (pc := 813) (tgt := 818) cx dL_law_813 (by decide) (fun _ => ?_) (fun _ => ?_)
      · refine f_iload (pc := 818) cx dL_law_818 rfl ?_
        refine f_if_ne (pc := 820) (tgt := 835) cx dL_law_820 (by decide) (fun _ => ?_) (fun _ => ?_)
        · refine f_aload_n (pc := 823) cx dL_law_823 rfl rfl ?_
          refine f_iconst (pc := 824) cx dL_law_824 kc_iconst_0 ?_
          refine f_lald0 (pc := 825) cx k120 dL_law_825 ?_
          refine f_iload (pc := 826) cx dL_law_826 rfl ?_
          refine f_i2l (pc := 828) cx dL_law_828 ?_
          refine f_lcmp (pc := 829) cx dL_law_829 ?_
          refine f_if_eq (pc := 830) (tgt := 835) cx dL_law_830 (by decide) (fun _ => ?_) (fun _ => ?_)
          · refine f_goto (pc := 835) (tgt := 1398) cx dL_law_835 (by decide) ?_
            refine f_iinc4 (pc := 1398) cx dL_law_1398 kc_iconst_6 (by decide) rfl ?_
            refine f_goto (pc := 1401) (tgt := 23) cx dL_law_1401 (by decide) ?_
            exact f_weak (LSb.s (LSb.s (LSb.s (LSb.s (LSb.s (LSb.n (LSb.n LSb.e))))))) (hk23 (r116.2, q.2 + 6) _ _ (by omega) (by omega))
          · refine f_iconst (pc := 833) cx dL_law_833 kc_iconst_0 ?_
            exact f_none
        · refine f_goto (pc := 835) (tgt := 1398) cx dL_law_835 (by decide) ?_
          refine f_iinc4 (pc := 1398) cx dL_law_1398 kc_iconst_6 (by decide) rfl ?_
          refine f_goto (pc := 1401) (tgt := 23) cx dL_law_1401 (by decide) ?_
          exact f_weak (LSb.s (LSb.s (LSb.s (LSb.s (LSb.s (LSb.n (LSb.n LSb.e))))))) (hk23 (r116.2, q.2 + 6) _ _ (by omega) (by omega))
      · refine f_iconst (pc := 816) cx dL_law_816 kc_iconst_0 ?_
        exact f_none
    refine f_case (?_) (fun n124 => ?_)
    · refine f_tin (pc := 40) (tgt := 838) cx dL_law_40 (by decide) (by decide) rfl (by decide) ?_
      refine f_aload_n (pc := 838) cx dL_law_838 rfl rfl ?_
      refine f_aload_n (pc := 839) cx dL_law_839 rfl rfl ?_
      refine f_iload (pc := 840) cx dL_law_840 rfl ?_
      refine f_iconst (pc := 842) cx dL_law_842 kc_iconst_1 ?_
      refine f_iadd (pc := 843) cx dL_law_843 ?_
      refine f_need (fun c118 => ?_)
      refine f_sld (pc := 844) cx hx c118 dL_law_844 ?_
      refine f_aload_n (pc := 845) cx dL_law_845 rfl rfl ?_
      refine f_iload (pc := 846) cx dL_law_846 rfl ?_
      refine f_iconst (pc := 848) cx dL_law_848 kc_iconst_2 ?_
      refine f_iadd (pc := 849) cx dL_law_849 ?_
      refine f_need (fun c119 => ?_)
      refine f_sld (pc := 850) cx hx c119 dL_law_850 ?_
      refine f_bind (fun r120 hr120 => ?_)
      refine k_L_106 (pc := 851) cx (c_X9_inBucket l G _ 0 (xs (Int32.toNatClampNeg (q.2 + 1))) (xs (Int32.toNatClampNeg (q.2 + 2))) k0 r120 hr120) k0 ⟨Nat.le_of_ble_eq_true rfl, Nat.le_of_ble_eq_true rfl⟩ (by first | exact hA | exact hB) (Nat.le_of_ble_eq_true rfl) dL_law_851 ?_
      refine f_aload_n (pc := 854) cx dL_law_854 rfl rfl ?_
      refine f_aload_n (pc := 855) cx dL_law_855 rfl rfl ?_
      refine f_iload (pc := 856) cx dL_law_856 rfl ?_
      refine f_iconst (pc := 858) cx dL_law_858 kc_iconst_1 ?_
      refine f_iadd (pc := 859) cx dL_law_859 ?_
      refine f_need (fun c121 => ?_)
      refine f_sld (pc := 860) cx hx c121 dL_law_860 ?_
      refine f_aload_n (pc := 861) cx dL_law_861 rfl rfl ?_
      refine f_iload (pc := 862) cx dL_law_862 rfl ?_
      refine f_iconst (pc := 864) cx dL_law_864 kc_iconst_2 ?_
      refine f_iadd (pc := 865) cx dL_law_865 ?_
      refine f_need (fun c122 => ?_)
      refine f_sld (pc := 866) cx hx c122 dL_law_866 ?_
      refine f_bind (fun r123 hr123 => ?_)
      refine k_L_109 (pc := 867) cx (c_X10_inBucket l G _ 110 (xs (Int32.toNatClampNeg (q.2 + 1))) (xs (Int32.toNatClampNeg (q.2 + 2))) k110 r123 hr123) k110 ⟨Nat.le_of_ble_eq_true rfl, Nat.le_of_ble_eq_true rfl⟩ (by first | exact hA | exact hB) (Nat.le_of_ble_eq_true rfl) dL_law_867 ?_
      refine f_icmp_eq (pc := 870) (tgt := 1398) cx dL_law_870 (by decide) (fun _ => ?_) (fun _ => ?_)
      · refine f_iinc4 (pc := 1398) cx dL_law_1398 kc_iconst_6 (by decide) rfl ?_
        refine f_goto (pc := 1401) (tgt := 23) cx dL_law_1401 (by decide) ?_
        exact f_weak (LSb.s (LSb.s (LSb.s (LSb.s (LSb.s (LSb.n (LSb.n LSb.e))))))) (hk23 (r123.2, q.2 + 6) _ _ (by omega) (by omega))
      · refine f_iconst (pc := 873) cx dL_law_873 kc_iconst_0 ?_
        exact f_none
    refine f_case (?_) (fun n129 => ?_)
    · refine f_tin (pc := 40) (tgt := 875) cx dL_law_40 (by decide) (by decide) rfl (by decide) ?_
      refine f_aload_n (pc := 875) cx dL_law_875 rfl rfl ?_
      refine f_aload_n (pc := 876) cx dL_law_876 rfl rfl ?_
      refine f_iload (pc := 877) cx dL_law_877 rfl ?_
      refine f_iconst (pc := 879) cx dL_law_879 kc_iconst_1 ?_
      refine f_iadd (pc := 880) cx dL_law_880 ?_
      refine f_need (fun c125 => ?_)
      refine f_sld (pc := 881) cx hx c125 dL_law_881 ?_
      refine f_bind (fun r126 hr126 => ?_)
      refine k_L_110 (pc := 882) cx (c_X9_order l G _ 0 (xs (Int32.toNatClampNeg (q.2 + 1))) k0 r126 hr126) k0 ⟨Nat.le_of_ble_eq_true rfl, Nat.le_of_ble_eq_true rfl⟩ (by first | exact hA | exact hB) (Nat.le_of_ble_eq_true rfl) dL_law_882 ?_
      refine f_aload_n (pc := 885) cx dL_law_885 rfl rfl ?_
      refine f_aload_n (pc := 886) cx dL_law_886 rfl rfl ?_
      refine f_iload (pc := 887) cx dL_law_887 rfl ?_
      refine f_iconst (pc := 889) cx dL_law_889 kc_iconst_1 ?_
      refine f_iadd (pc := 890) cx dL_law_890 ?_
      refine f_need (fun c127 => ?_)
      refine f_sld (pc := 891) cx hx c127 dL_law_891 ?_
      refine f_bind (fun r128 hr128 => ?_)
      refine k_L_113 (pc := 892) cx (c_X10_order l G _ 110 (xs (Int32.toNatClampNeg (q.2 + 1))) k110 r128 hr128) k110 ⟨Nat.le_of_ble_eq_true rfl, Nat.le_of_ble_eq_true rfl⟩ (by first | exact hA | exact hB) (Nat.le_of_ble_eq_true rfl) dL_law_892 ?_
      refine f_icmp_eq (pc := 895) (tgt := 1398) cx dL_law_895 (by decide) (fun _ => ?_) (fun _ => ?_)
      · refine f_iinc4 (pc := 1398) cx dL_law_1398 kc_iconst_6 (by decide) rfl ?_
        refine f_goto (pc := 1401) (tgt := 23) cx dL_law_1401 (by decide) ?_
        exact f_weak (LSb.s (LSb.s (LSb.s (LSb.s (LSb.s (LSb.n (LSb.n LSb.e))))))) (hk23 (r128.2, q.2 + 6) _ _ (by omega) (by omega))
      · refine f_iconst (pc := 898) cx dL_law_898 kc_iconst_0 ?_
        exact f_none
    refine f_case (?_) (fun n136 => ?_)
    · refine f_tin (pc := 40) (tgt := 900) cx dL_law_40 (by decide) (by decide) rfl (by decide) ?_
      refine f_aload_n (pc := 900) cx dL_law_900 rfl rfl ?_
      refine f_aload_n (pc := 901) cx dL_law_901 rfl rfl ?_
      refine f_iload (pc := 902) cx dL_law_902 rfl ?_
      refine f_iconst (pc := 904) cx dL_law_904 kc_iconst_1 ?_
      refine f_iadd (pc := 905) cx dL_law_905 ?_
      refine f_need (fun c130 => ?_)
      refine f_sld (pc := 906) cx hx c130 dL_law_906 ?_
      refine f_aload_n (pc := 907) cx dL_law_907 rfl rfl ?_
      refine f_iload (pc := 908) cx dL_law_908 rfl ?_
      refine f_iconst (pc := 910) cx dL_law_910 kc_iconst_2 ?_
      refine f_iadd (pc := 911) cx dL_law_911 ?_
      refine f_need (fun c131 => ?_)
      refine f_sld (pc := 912) cx hx c131 dL_law_912 ?_
      refine f_bind (fun r132 hr132 => ?_)
      refine k_L_114 (pc := 913) cx (c_X9_frame l G _ 0 (xs (Int32.toNatClampNeg (q.2 + 1))) (xs (Int32.toNatClampNeg (q.2 + 2))) k0 r132 hr132) k0 ⟨Nat.le_of_ble_eq_true rfl, Nat.le_of_ble_eq_true rfl⟩ (by first | exact hA | exact hB) (Nat.le_of_ble_eq_true rfl) dL_law_913 ?_
      refine f_aload_n (pc := 916) cx dL_law_916 rfl rfl ?_
      refine f_aload_n (pc := 917) cx dL_law_917 rfl rfl ?_
      refine f_iload (pc := 918) cx dL_law_918 rfl ?_
      refine f_iconst (pc := 920) cx dL_law_920 kc_iconst_1 ?_
      refine f_iadd (pc := 921) cx dL_law_921 ?_
      refine f_need (fun c133 => ?_)
      refine f_sld (pc := 922) cx hx c133 dL_law_922 ?_
      refine f_aload_n (pc := 923) cx dL_law_923 rfl rfl ?_
      refine f_iload (pc := 924) cx dL_law_924 rfl ?_
      refine f_iconst (pc := 926) cx dL_law_926 kc_iconst_2 ?_
      refine f_iadd (pc := 927) cx dL_law_927 ?_
      refine f_need (fun c134 => ?_)
      refine f_sld (pc := 928) cx hx c134 dL_law_928 ?_
      refine f_bind (fun r135 hr135 => ?_)
      refine k_L_117 (pc := 929) cx (c_X10_frame l G _ 110 (xs (Int32.toNatClampNeg (q.2 + 1))) (xs (Int32.toNatClampNeg (q.2 + 2))) k110 r135 hr135) k110 ⟨Nat.le_of_ble_eq_true rfl, Nat.le_of_ble_eq_true rfl⟩ (by first | exact hA | exact hB) (Nat.le_of_ble_eq_true rfl) dL_law_929 ?_
      refine f_icmp_eq (pc := 932) (tgt := 1398) cx dL_law_932 (by decide) (fun _ => ?_) (fun _ => ?_)
      · refine f_iinc4 (pc := 1398) cx dL_law_1398 kc_iconst_6 (by decide) rfl ?_
        refine f_goto (pc := 1401) (tgt := 23) cx dL_law_1401 (by decide) ?_
        exact f_weak (LSb.s (LSb.s (LSb.s (LSb.s (LSb.s (LSb.n (LSb.n LSb.e))))))) (hk23 (r135.2, q.2 + 6) _ _ (by omega) (by omega))
      · refine f_iconst (pc := 935) cx dL_law_935 kc_iconst_0 ?_
        exact f_none
    refine f_case (?_) (fun n143 => ?_)
    · refine f_tin (pc := 40) (tgt := 937) cx dL_law_40 (by decide) (by decide) rfl (by decide) ?_
      refine f_aload_n (pc := 937) cx dL_law_937 rfl rfl ?_
      refine f_aload_n (pc := 938) cx dL_law_938 rfl rfl ?_
      refine f_iload (pc := 939) cx dL_law_939 rfl ?_
      refine f_iconst (pc := 941) cx dL_law_941 kc_iconst_1 ?_
      refine f_iadd (pc := 942) cx dL_law_942 ?_
      refine f_need (fun c137 => ?_)
      refine f_sld (pc := 943) cx hx c137 dL_law_943 ?_
      refine f_aload_n (pc := 944) cx dL_law_944 rfl rfl ?_
      refine f_iload (pc := 945) cx dL_law_945 rfl ?_
      refine f_iconst (pc := 947) cx dL_law_947 kc_iconst_2 ?_
      refine f_iadd (pc := 948) cx dL_law_948 ?_
      refine f_need (fun c138 => ?_)
      refine f_sld (pc := 949) cx hx c138 dL_law_949 ?_
      refine f_bind (fun r139 hr139 => ?_)
      refine k_L_118 (pc := 950) cx (c_X9_past l G _ 0 (xs (Int32.toNatClampNeg (q.2 + 1))) (xs (Int32.toNatClampNeg (q.2 + 2))) k0 r139 hr139) k0 ⟨Nat.le_of_ble_eq_true rfl, Nat.le_of_ble_eq_true rfl⟩ (by first | exact hA | exact hB) (Nat.le_of_ble_eq_true rfl) dL_law_950 ?_
      refine f_aload_n (pc := 953) cx dL_law_953 rfl rfl ?_
      refine f_aload_n (pc := 954) cx dL_law_954 rfl rfl ?_
      refine f_iload (pc := 955) cx dL_law_955 rfl ?_
      refine f_iconst (pc := 957) cx dL_law_957 kc_iconst_1 ?_
      refine f_iadd (pc := 958) cx dL_law_958 ?_
      refine f_need (fun c140 => ?_)
      refine f_sld (pc := 959) cx hx c140 dL_law_959 ?_
      refine f_aload_n (pc := 960) cx dL_law_960 rfl rfl ?_
      refine f_iload (pc := 961) cx dL_law_961 rfl ?_
      refine f_iconst (pc := 963) cx dL_law_963 kc_iconst_2 ?_
      refine f_iadd (pc := 964) cx dL_law_964 ?_
      refine f_need (fun c141 => ?_)
      refine f_sld (pc := 965) cx hx c141 dL_law_965 ?_
      refine f_bind (fun r142 hr142 => ?_)
      refine k_L_121 (pc := 966) cx (c_X10_past l G _ 110 (xs (Int32.toNatClampNeg (q.2 + 1))) (xs (Int32.toNatClampNeg (q.2 + 2))) k110 r142 hr142) k110 ⟨Nat.le_of_ble_eq_true rfl, Nat.le_of_ble_eq_true rfl⟩ (by first | exact hA | exact hB) (Nat.le_of_ble_eq_true rfl) dL_law_966 ?_
      refine f_icmp_eq (pc := 969) (tgt := 1398) cx dL_law_969 (by decide) (fun _ => ?_) (fun _ => ?_)
      · refine f_iinc4 (pc := 1398) cx dL_law_1398 kc_iconst_6 (by decide) rfl ?_
        refine f_goto (pc := 1401) (tgt := 23) cx dL_law_1401 (by decide) ?_
        exact f_weak (LSb.s (LSb.s (LSb.s (LSb.s (LSb.s (LSb.n (LSb.n LSb.e))))))) (hk23 (r142.2, q.2 + 6) _ _ (by omega) (by omega))
      · refine f_iconst (pc := 972) cx dL_law_972 kc_iconst_0 ?_
        exact f_none
    refine f_case (?_) (fun n150 => ?_)
    · refine f_tin (pc := 40) (tgt := 974) cx dL_law_40 (by decide) (by decide) rfl (by decide) ?_
      refine f_aload_n (pc := 974) cx dL_law_974 rfl rfl ?_
      refine f_aload_n (pc := 975) cx dL_law_975 rfl rfl ?_
      refine f_iload (pc := 976) cx dL_law_976 rfl ?_
      refine f_iconst (pc := 978) cx dL_law_978 kc_iconst_1 ?_
      refine f_iadd (pc := 979) cx dL_law_979 ?_
      refine f_need (fun c144 => ?_)
      refine f_sld (pc := 980) cx hx c144 dL_law_980 ?_
      refine f_aload_n (pc := 981) cx dL_law_981 rfl rfl ?_
      refine f_iload (pc := 982) cx dL_law_982 rfl ?_
      refine f_iconst (pc := 984) cx dL_law_984 kc_iconst_2 ?_
      refine f_iadd (pc := 985) cx dL_law_985 ?_
      refine f_need (fun c145 => ?_)
      refine f_sld (pc := 986) cx hx c145 dL_law_986 ?_
      refine f_bind (fun r146 hr146 => ?_)
      refine k_L_122 (pc := 987) cx (c_X9_eldest l G _ 0 (xs (Int32.toNatClampNeg (q.2 + 1))) (xs (Int32.toNatClampNeg (q.2 + 2))) k0 r146 hr146) k0 ⟨Nat.le_of_ble_eq_true rfl, Nat.le_of_ble_eq_true rfl⟩ (by first | exact hA | exact hB) (Nat.le_of_ble_eq_true rfl) dL_law_987 ?_
      refine f_aload_n (pc := 990) cx dL_law_990 rfl rfl ?_
      refine f_aload_n (pc := 991) cx dL_law_991 rfl rfl ?_
      refine f_iload (pc := 992) cx dL_law_992 rfl ?_
      refine f_iconst (pc := 994) cx dL_law_994 kc_iconst_1 ?_
      refine f_iadd (pc := 995) cx dL_law_995 ?_
      refine f_need (fun c147 => ?_)
      refine f_sld (pc := 996) cx hx c147 dL_law_996 ?_
      refine f_aload_n (pc := 997) cx dL_law_997 rfl rfl ?_
      refine f_iload (pc := 998) cx dL_law_998 rfl ?_
      refine f_iconst (pc := 1000) cx dL_law_1000 kc_iconst_2 ?_
      refine f_iadd (pc := 1001) cx dL_law_1001 ?_
      refine f_need (fun c148 => ?_)
      refine f_sld (pc := 1002) cx hx c148 dL_law_1002 ?_
      refine f_bind (fun r149 hr149 => ?_)
      refine k_L_125 (pc := 1003) cx (c_X10_eldest l G _ 110 (xs (Int32.toNatClampNeg (q.2 + 1))) (xs (Int32.toNatClampNeg (q.2 + 2))) k110 r149 hr149) k110 ⟨Nat.le_of_ble_eq_true rfl, Nat.le_of_ble_eq_true rfl⟩ (by first | exact hA | exact hB) (Nat.le_of_ble_eq_true rfl) dL_law_1003 ?_
      refine f_icmp_eq (pc := 1006) (tgt := 1398) cx dL_law_1006 (by decide) (fun _ => ?_) (fun _ => ?_)
      · refine f_iinc4 (pc := 1398) cx dL_law_1398 kc_iconst_6 (by decide) rfl ?_
        refine f_goto (pc := 1401) (tgt := 23) cx dL_law_1401 (by decide) ?_
        exact f_weak (LSb.s (LSb.s (LSb.s (LSb.s (LSb.s (LSb.n (LSb.n LSb.e))))))) (hk23 (r149.2, q.2 + 6) _ _ (by omega) (by omega))
      · refine f_iconst (pc := 1009) cx dL_law_1009 kc_iconst_0 ?_
        exact f_none
    refine f_case (?_) (fun n155 => ?_)
    · refine f_tin (pc := 40) (tgt := 1011) cx dL_law_40 (by decide) (by decide) rfl (by decide) ?_
      refine f_aload_n (pc := 1011) cx dL_law_1011 rfl rfl ?_
      refine f_aload_n (pc := 1012) cx dL_law_1012 rfl rfl ?_
      refine f_iload (pc := 1013) cx dL_law_1013 rfl ?_
      refine f_iconst (pc := 1015) cx dL_law_1015 kc_iconst_1 ?_
      refine f_iadd (pc := 1016) cx dL_law_1016 ?_
      refine f_need (fun c151 => ?_)
      refine f_sld (pc := 1017) cx hx c151 dL_law_1017 ?_
      refine f_bind (fun r152 hr152 => ?_)
      refine k_L_126 (pc := 1018) cx (c_X9_least l G _ 0 (xs (Int32.toNatClampNeg (q.2 + 1))) k0 r152 hr152) k0 ⟨Nat.le_of_ble_eq_true rfl, Nat.le_of_ble_eq_true rfl⟩ (by first | exact hA | exact hB) (Nat.le_of_ble_eq_true rfl) dL_law_1018 ?_
      refine f_aload_n (pc := 1021) cx dL_law_1021 rfl rfl ?_
      refine f_aload_n (pc := 1022) cx dL_law_1022 rfl rfl ?_
      refine f_iload (pc := 1023) cx dL_law_1023 rfl ?_
      refine f_iconst (pc := 1025) cx dL_law_1025 kc_iconst_1 ?_
      refine f_iadd (pc := 1026) cx dL_law_1026 ?_
      refine f_need (fun c153 => ?_)
      refine f_sld (pc := 1027) cx hx c153 dL_law_1027 ?_
      refine f_bind (fun r154 hr154 => ?_)
      refine k_L_129 (pc := 1028) cx (c_X10_least l G _ 110 (xs (Int32.toNatClampNeg (q.2 + 1))) k110 r154 hr154) k110 ⟨Nat.le_of_ble_eq_true rfl, Nat.le_of_ble_eq_true rfl⟩ (by first | exact hA | exact hB) (Nat.le_of_ble_eq_true rfl) dL_law_1028 ?_
      refine f_icmp_eq (pc := 1031) (tgt := 1398) cx dL_law_1031 (by decide) (fun _ => ?_) (fun _ => ?_)
      · refine f_iinc4 (pc := 1398) cx dL_law_1398 kc_iconst_6 (by decide) rfl ?_
        refine f_goto (pc := 1401) (tgt := 23) cx dL_law_1401 (by decide) ?_
        exact f_weak (LSb.s (LSb.s (LSb.s (LSb.s (LSb.s (LSb.n (LSb.n LSb.e))))))) (hk23 (r154.2, q.2 + 6) _ _ (by omega) (by omega))
      · refine f_iconst (pc := 1034) cx dL_law_1034 kc_iconst_0 ?_
        exact f_none
    refine f_case (?_) (fun n160 => ?_)
    · refine f_tin (pc := 40) (tgt := 1036) cx dL_law_40 (by decide) (by decide) rfl (by decide) ?_
      refine f_aload_n (pc := 1036) cx dL_law_1036 rfl rfl ?_
      refine f_aload_n (pc := 1037) cx dL_law_1037 rfl rfl ?_
      refine f_iload (pc := 1038) cx dL_law_1038 rfl ?_
      refine f_iconst (pc := 1040) cx dL_law_1040 kc_iconst_1 ?_
      refine f_iadd (pc := 1041) cx dL_law_1041 ?_
      refine f_need (fun c156 => ?_)
      refine f_sld (pc := 1042) cx hx c156 dL_law_1042 ?_
      refine f_bind (fun r157 hr157 => ?_)
      refine k_L_130 (pc := 1043) cx (c_X9_rootBy l G _ 0 (xs (Int32.toNatClampNeg (q.2 + 1))) k0 r157 hr157) k0 ⟨Nat.le_of_ble_eq_true rfl, Nat.le_of_ble_eq_true rfl⟩ (by first | exact hA | exact hB) (Nat.le_of_ble_eq_true rfl) dL_law_1043 ?_
      refine f_aload_n (pc := 1046) cx dL_law_1046 rfl rfl ?_
      refine f_aload_n (pc := 1047) cx dL_law_1047 rfl rfl ?_
      refine f_iload (pc := 1048) cx dL_law_1048 rfl ?_
      refine f_iconst (pc := 1050) cx dL_law_1050 kc_iconst_1 ?_
      refine f_iadd (pc := 1051) cx dL_law_1051 ?_
      refine f_need (fun c158 => ?_)
      refine f_sld (pc := 1052) cx hx c158 dL_law_1052 ?_
      refine f_bind (fun r159 hr159 => ?_)
      refine k_L_133 (pc := 1053) cx (c_X10_rootBy l G _ 110 (xs (Int32.toNatClampNeg (q.2 + 1))) k110 r159 hr159) k110 ⟨Nat.le_of_ble_eq_true rfl, Nat.le_of_ble_eq_true rfl⟩ (by first | exact hA | exact hB) (Nat.le_of_ble_eq_true rfl) dL_law_1053 ?_
      refine f_icmp_eq (pc := 1056) (tgt := 1398) cx dL_law_1056 (by decide) (fun _ => ?_) (fun _ => ?_)
      · refine f_iinc4 (pc := 1398) cx dL_law_1398 kc_iconst_6 (by decide) rfl ?_
        refine f_goto (pc := 1401) (tgt := 23) cx dL_law_1401 (by decide) ?_
        exact f_weak (LSb.s (LSb.s (LSb.s (LSb.s (LSb.s (LSb.n (LSb.n LSb.e))))))) (hk23 (r159.2, q.2 + 6) _ _ (by omega) (by omega))
      · refine f_iconst (pc := 1059) cx dL_law_1059 kc_iconst_0 ?_
        exact f_none
    refine f_case (?_) (fun n165 => ?_)
    · refine f_tin (pc := 40) (tgt := 1061) cx dL_law_40 (by decide) (by decide) rfl (by decide) ?_
      refine f_aload_n (pc := 1061) cx dL_law_1061 rfl rfl ?_
      refine f_aload_n (pc := 1062) cx dL_law_1062 rfl rfl ?_
      refine f_iload (pc := 1063) cx dL_law_1063 rfl ?_
      refine f_iconst (pc := 1065) cx dL_law_1065 kc_iconst_1 ?_
      refine f_iadd (pc := 1066) cx dL_law_1066 ?_
      refine f_need (fun c161 => ?_)
      refine f_sld (pc := 1067) cx hx c161 dL_law_1067 ?_
      refine f_bind (fun r162 hr162 => ?_)
      refine k_L_134 (pc := 1068) cx (c_X9_exact l G _ 0 (xs (Int32.toNatClampNeg (q.2 + 1))) k0 r162 hr162) k0 ⟨Nat.le_of_ble_eq_true rfl, Nat.le_of_ble_eq_true rfl⟩ (by first | exact hA | exact hB) (Nat.le_of_ble_eq_true rfl) dL_law_1068 ?_
      refine f_aload_n (pc := 1071) cx dL_law_1071 rfl rfl ?_
      refine f_aload_n (pc := 1072) cx dL_law_1072 rfl rfl ?_
      refine f_iload (pc := 1073) cx dL_law_1073 rfl ?_
      refine f_iconst (pc := 1075) cx dL_law_1075 kc_iconst_1 ?_
      refine f_iadd (pc := 1076) cx dL_law_1076 ?_
      refine f_need (fun c163 => ?_)
      refine f_sld (pc := 1077) cx hx c163 dL_law_1077 ?_
      refine f_bind (fun r164 hr164 => ?_)
      refine k_L_137 (pc := 1078) cx (c_X10_exact l G _ 110 (xs (Int32.toNatClampNeg (q.2 + 1))) k110 r164 hr164) k110 ⟨Nat.le_of_ble_eq_true rfl, Nat.le_of_ble_eq_true rfl⟩ (by first | exact hA | exact hB) (Nat.le_of_ble_eq_true rfl) dL_law_1078 ?_
      refine f_icmp_eq (pc := 1081) (tgt := 1398) cx dL_law_1081 (by decide) (fun _ => ?_) (fun _ => ?_)
      · refine f_iinc4 (pc := 1398) cx dL_law_1398 kc_iconst_6 (by decide) rfl ?_
        refine f_goto (pc := 1401) (tgt := 23) cx dL_law_1401 (by decide) ?_
        exact f_weak (LSb.s (LSb.s (LSb.s (LSb.s (LSb.s (LSb.n (LSb.n LSb.e))))))) (hk23 (r164.2, q.2 + 6) _ _ (by omega) (by omega))
      · refine f_iconst (pc := 1084) cx dL_law_1084 kc_iconst_0 ?_
        exact f_none
    refine f_case (?_) (fun n172 => ?_)
    · refine f_tin (pc := 40) (tgt := 1086) cx dL_law_40 (by decide) (by decide) rfl (by decide) ?_
      refine f_aload_n (pc := 1086) cx dL_law_1086 rfl rfl ?_
      refine f_aload_n (pc := 1087) cx dL_law_1087 rfl rfl ?_
      refine f_iload (pc := 1088) cx dL_law_1088 rfl ?_
      refine f_iconst (pc := 1090) cx dL_law_1090 kc_iconst_1 ?_
      refine f_iadd (pc := 1091) cx dL_law_1091 ?_
      refine f_need (fun c166 => ?_)
      refine f_sld (pc := 1092) cx hx c166 dL_law_1092 ?_
      refine f_aload_n (pc := 1093) cx dL_law_1093 rfl rfl ?_
      refine f_iload (pc := 1094) cx dL_law_1094 rfl ?_
      refine f_iconst (pc := 1096) cx dL_law_1096 kc_iconst_2 ?_
      refine f_iadd (pc := 1097) cx dL_law_1097 ?_
      refine f_need (fun c167 => ?_)
      refine f_sld (pc := 1098) cx hx c167 dL_law_1098 ?_
      refine f_bind (fun r168 hr168 => ?_)
      refine k_L_138 (pc := 1099) cx (c_X9_farthest l G _ 0 (xs (Int32.toNatClampNeg (q.2 + 1))) (xs (Int32.toNatClampNeg (q.2 + 2))) k0 r168 hr168) k0 ⟨Nat.le_of_ble_eq_true rfl, Nat.le_of_ble_eq_true rfl⟩ (by first | exact hA | exact hB) (Nat.le_of_ble_eq_true rfl) dL_law_1099 ?_
      refine f_aload_n (pc := 1102) cx dL_law_1102 rfl rfl ?_
      refine f_aload_n (pc := 1103) cx dL_law_1103 rfl rfl ?_
      refine f_iload (pc := 1104) cx dL_law_1104 rfl ?_
      refine f_iconst (pc := 1106) cx dL_law_1106 kc_iconst_1 ?_
      refine f_iadd (pc := 1107) cx dL_law_1107 ?_
      refine f_need (fun c169 => ?_)
      refine f_sld (pc := 1108) cx hx c169 dL_law_1108 ?_
      refine f_aload_n (pc := 1109) cx dL_law_1109 rfl rfl ?_
      refine f_iload (pc := 1110) cx dL_law_1110 rfl ?_
      refine f_iconst (pc := 1112) cx dL_law_1112 kc_iconst_2 ?_
      refine f_iadd (pc := 1113) cx dL_law_1113 ?_
      refine f_need (fun c170 => ?_)
      refine f_sld (pc := 1114) cx hx c170 dL_law_1114 ?_
      refine f_bind (fun r171 hr171 => ?_)
      refine k_L_141 (pc := 1115) cx (c_X10_farthest l G _ 110 (xs (Int32.toNatClampNeg (q.2 + 1))) (xs (Int32.toNatClampNeg (q.2 + 2))) k110 r171 hr171) k110 ⟨Nat.le_of_ble_eq_true rfl, Nat.le_of_ble_eq_true rfl⟩ (by first | exact hA | exact hB) (Nat.le_of_ble_eq_true rfl) dL_law_1115 ?_
      refine f_icmp_eq (pc := 1118) (tgt := 1398) cx dL_law_1118 (by decide) (fun _ => ?_) (fun _ => ?_)
      · refine f_iinc4 (pc := 1398) cx dL_law_1398 kc_iconst_6 (by decide) rfl ?_
        refine f_goto (pc := 1401) (tgt := 23) cx dL_law_1401 (by decide) ?_
        exact f_weak (LSb.s (LSb.s (LSb.s (LSb.s (LSb.s (LSb.n (LSb.n LSb.e))))))) (hk23 (r171.2, q.2 + 6) _ _ (by omega) (by omega))
      · refine f_iconst (pc := 1121) cx dL_law_1121 kc_iconst_0 ?_
        exact f_none
    refine f_case (?_) (fun n179 => ?_)
    · refine f_tin (pc := 40) (tgt := 1123) cx dL_law_40 (by decide) (by decide) rfl (by decide) ?_
      refine f_aload_n (pc := 1123) cx dL_law_1123 rfl rfl ?_
      refine f_aload_n (pc := 1124) cx dL_law_1124 rfl rfl ?_
      refine f_iload (pc := 1125) cx dL_law_1125 rfl ?_
      refine f_iconst (pc := 1127) cx dL_law_1127 kc_iconst_1 ?_
      refine f_iadd (pc := 1128) cx dL_law_1128 ?_
      refine f_need (fun c173 => ?_)
      refine f_sld (pc := 1129) cx hx c173 dL_law_1129 ?_
      refine f_aload_n (pc := 1130) cx dL_law_1130 rfl rfl ?_
      refine f_iload (pc := 1131) cx dL_law_1131 rfl ?_
      refine f_iconst (pc := 1133) cx dL_law_1133 kc_iconst_2 ?_
      refine f_iadd (pc := 1134) cx dL_law_1134 ?_
      refine f_need (fun c174 => ?_)
      refine f_sld (pc := 1135) cx hx c174 dL_law_1135 ?_
      refine f_bind (fun r175 hr175 => ?_)
      refine k_L_142 (pc := 1136) cx (c_X9_flow l G _ 0 (xs (Int32.toNatClampNeg (q.2 + 1))) (xs (Int32.toNatClampNeg (q.2 + 2))) k0 r175 hr175) k0 ⟨Nat.le_of_ble_eq_true rfl, Nat.le_of_ble_eq_true rfl⟩ (by first | exact hA | exact hB) (Nat.le_of_ble_eq_true rfl) dL_law_1136 ?_
      refine f_aload_n (pc := 1139) cx dL_law_1139 rfl rfl ?_
      refine f_aload_n (pc := 1140) cx dL_law_1140 rfl rfl ?_
      refine f_iload (pc := 1141) cx dL_law_1141 rfl ?_
      refine f_iconst (pc := 1143) cx dL_law_1143 kc_iconst_1 ?_
      refine f_iadd (pc := 1144) cx dL_law_1144 ?_
      refine f_need (fun c176 => ?_)
      refine f_sld (pc := 1145) cx hx c176 dL_law_1145 ?_
      refine f_aload_n (pc := 1146) cx dL_law_1146 rfl rfl ?_
      refine f_iload (pc := 1147) cx dL_law_1147 rfl ?_
      refine f_iconst (pc := 1149) cx dL_law_1149 kc_iconst_2 ?_
      refine f_iadd (pc := 1150) cx dL_law_1150 ?_
      refine f_need (fun c177 => ?_)
      refine f_sld (pc := 1151) cx hx c177 dL_law_1151 ?_
      refine f_bind (fun r178 hr178 => ?_)
      refine k_L_145 (pc := 1152) cx (c_X10_flow l G _ 110 (xs (Int32.toNatClampNeg (q.2 + 1))) (xs (Int32.toNatClampNeg (q.2 + 2))) k110 r178 hr178) k110 ⟨Nat.le_of_ble_eq_true rfl, Nat.le_of_ble_eq_true rfl⟩ (by first | exact hA | exact hB) (Nat.le_of_ble_eq_true rfl) dL_law_1152 ?_
      refine f_icmp_eq (pc := 1155) (tgt := 1398) cx dL_law_1155 (by decide) (fun _ => ?_) (fun _ => ?_)
      · refine f_iinc4 (pc := 1398) cx dL_law_1398 kc_iconst_6 (by decide) rfl ?_
        refine f_goto (pc := 1401) (tgt := 23) cx dL_law_1401 (by decide) ?_
        exact f_weak (LSb.s (LSb.s (LSb.s (LSb.s (LSb.s (LSb.n (LSb.n LSb.e))))))) (hk23 (r178.2, q.2 + 6) _ _ (by omega) (by omega))
      · refine f_iconst (pc := 1158) cx dL_law_1158 kc_iconst_0 ?_
        exact f_none
    refine f_case (?_) (fun n182 => ?_)
    · refine f_tin (pc := 40) (tgt := 1160) cx dL_law_40 (by decide) (by decide) rfl (by decide) ?_
      refine f_aload_n (pc := 1160) cx dL_law_1160 rfl rfl ?_
      refine f_bind (fun r180 hr180 => ?_)
      refine k_L_146 (pc := 1161) cx (c_X9_uneven l G _ 0 k0 r180 hr180) k0 ⟨Nat.le_of_ble_eq_true rfl, Nat.le_of_ble_eq_true rfl⟩ (by first | exact hA | exact hB) (Nat.le_of_ble_eq_true rfl) dL_law_1161 ?_
      refine f_aload_n (pc := 1164) cx dL_law_1164 rfl rfl ?_
      refine f_bind (fun r181 hr181 => ?_)
      refine k_L_149 (pc := 1165) cx (c_X10_uneven l G _ 110 k110 r181 hr181) k110 ⟨Nat.le_of_ble_eq_true rfl, Nat.le_of_ble_eq_true rfl⟩ (by first | exact hA | exact hB) (Nat.le_of_ble_eq_true rfl) dL_law_1165 ?_
      refine f_icmp_eq (pc := 1168) (tgt := 1398) cx dL_law_1168 (by decide) (fun _ => ?_) (fun _ => ?_)
      · refine f_iinc4 (pc := 1398) cx dL_law_1398 kc_iconst_6 (by decide) rfl ?_
        refine f_goto (pc := 1401) (tgt := 23) cx dL_law_1401 (by decide) ?_
        exact f_weak (LSb.s (LSb.s (LSb.s (LSb.s (LSb.s (LSb.n (LSb.n LSb.e))))))) (hk23 (r181.2, q.2 + 6) _ _ (by omega) (by omega))
      · refine f_iconst (pc := 1171) cx dL_law_1171 kc_iconst_0 ?_
        exact f_none
    refine f_case (?_) (fun n187 => ?_)
    · refine f_tin (pc := 40) (tgt := 1173) cx dL_law_40 (by decide) (by decide) rfl (by decide) ?_
      refine f_aload_n (pc := 1173) cx dL_law_1173 rfl rfl ?_
      refine f_aload_n (pc := 1174) cx dL_law_1174 rfl rfl ?_
      refine f_iload (pc := 1175) cx dL_law_1175 rfl ?_
      refine f_iconst (pc := 1177) cx dL_law_1177 kc_iconst_1 ?_
      refine f_iadd (pc := 1178) cx dL_law_1178 ?_
      refine f_need (fun c183 => ?_)
      refine f_sld (pc := 1179) cx hx c183 dL_law_1179 ?_
      refine f_bind (fun r184 hr184 => ?_)
      refine k_L_150 (pc := 1180) cx (c_X9_ahead l G _ 0 (xs (Int32.toNatClampNeg (q.2 + 1))) k0 r184 hr184) k0 ⟨Nat.le_of_ble_eq_true rfl, Nat.le_of_ble_eq_true rfl⟩ (by first | exact hA | exact hB) (Nat.le_of_ble_eq_true rfl) dL_law_1180 ?_
      refine f_aload_n (pc := 1183) cx dL_law_1183 rfl rfl ?_
      refine f_aload_n (pc := 1184) cx dL_law_1184 rfl rfl ?_
      refine f_iload (pc := 1185) cx dL_law_1185 rfl ?_
      refine f_iconst (pc := 1187) cx dL_law_1187 kc_iconst_1 ?_
      refine f_iadd (pc := 1188) cx dL_law_1188 ?_
      refine f_need (fun c185 => ?_)
      refine f_sld (pc := 1189) cx hx c185 dL_law_1189 ?_
      refine f_bind (fun r186 hr186 => ?_)
      refine k_L_153 (pc := 1190) cx (c_X10_ahead l G _ 110 (xs (Int32.toNatClampNeg (q.2 + 1))) k110 r186 hr186) k110 ⟨Nat.le_of_ble_eq_true rfl, Nat.le_of_ble_eq_true rfl⟩ (by first | exact hA | exact hB) (Nat.le_of_ble_eq_true rfl) dL_law_1190 ?_
      refine f_icmp_eq (pc := 1193) (tgt := 1398) cx dL_law_1193 (by decide) (fun _ => ?_) (fun _ => ?_)
      · refine f_iinc4 (pc := 1398) cx dL_law_1398 kc_iconst_6 (by decide) rfl ?_
        refine f_goto (pc := 1401) (tgt := 23) cx dL_law_1401 (by decide) ?_
        exact f_weak (LSb.s (LSb.s (LSb.s (LSb.s (LSb.s (LSb.n (LSb.n LSb.e))))))) (hk23 (r186.2, q.2 + 6) _ _ (by omega) (by omega))
      · refine f_iconst (pc := 1196) cx dL_law_1196 kc_iconst_0 ?_
        exact f_none
    refine f_case (?_) (fun n194 => ?_)
    · refine f_tin (pc := 40) (tgt := 1198) cx dL_law_40 (by decide) (by decide) rfl (by decide) ?_
      refine f_aload_n (pc := 1198) cx dL_law_1198 rfl rfl ?_
      refine f_aload_n (pc := 1199) cx dL_law_1199 rfl rfl ?_
      refine f_iload (pc := 1200) cx dL_law_1200 rfl ?_
      refine f_iconst (pc := 1202) cx dL_law_1202 kc_iconst_1 ?_
      refine f_iadd (pc := 1203) cx dL_law_1203 ?_
      refine f_need (fun c188 => ?_)
      refine f_sld (pc := 1204) cx hx c188 dL_law_1204 ?_
      refine f_aload_n (pc := 1205) cx dL_law_1205 rfl rfl ?_
      refine f_iload (pc := 1206) cx dL_law_1206 rfl ?_
      refine f_iconst (pc := 1208) cx dL_law_1208 kc_iconst_2 ?_
      refine f_iadd (pc := 1209) cx dL_law_1209 ?_
      refine f_need (fun c189 => ?_)
      refine f_sld (pc := 1210) cx hx c189 dL_law_1210 ?_
      refine f_bind (fun r190 hr190 => ?_)
      refine k_L_154 (pc := 1211) cx (c_X9_drain l G _ 0 (xs (Int32.toNatClampNeg (q.2 + 1))) (xs (Int32.toNatClampNeg (q.2 + 2))) k0 r190 hr190) k0 ⟨Nat.le_of_ble_eq_true rfl, Nat.le_of_ble_eq_true rfl⟩ (by first | exact hA | exact hB) (Nat.le_of_ble_eq_true rfl) dL_law_1211 ?_
      refine f_aload_n (pc := 1214) cx dL_law_1214 rfl rfl ?_
      refine f_aload_n (pc := 1215) cx dL_law_1215 rfl rfl ?_
      refine f_iload (pc := 1216) cx dL_law_1216 rfl ?_
      refine f_iconst (pc := 1218) cx dL_law_1218 kc_iconst_1 ?_
      refine f_iadd (pc := 1219) cx dL_law_1219 ?_
      refine f_need (fun c191 => ?_)
      refine f_sld (pc := 1220) cx hx c191 dL_law_1220 ?_
      refine f_aload_n (pc := 1221) cx dL_law_1221 rfl rfl ?_
      refine f_iload (pc := 1222) cx dL_law_1222 rfl ?_
      refine f_iconst (pc := 1224) cx dL_law_1224 kc_iconst_2 ?_
      refine f_iadd (pc := 1225) cx dL_law_1225 ?_
      refine f_need (fun c192 => ?_)
      refine f_sld (pc := 1226) cx hx c192 dL_law_1226 ?_
      refine f_bind (fun r193 hr193 => ?_)
      refine k_L_157 (pc := 1227) cx (c_X10_drain l G _ 110 (xs (Int32.toNatClampNeg (q.2 + 1))) (xs (Int32.toNatClampNeg (q.2 + 2))) k110 r193 hr193) k110 ⟨Nat.le_of_ble_eq_true rfl, Nat.le_of_ble_eq_true rfl⟩ (by first | exact hA | exact hB) (Nat.le_of_ble_eq_true rfl) dL_law_1227 ?_
      refine f_icmp_eq (pc := 1230) (tgt := 1398) cx dL_law_1230 (by decide) (fun _ => ?_) (fun _ => ?_)
      · refine f_iinc4 (pc := 1398) cx dL_law_1398 kc_iconst_6 (by decide) rfl ?_
        refine f_goto (pc := 1401) (tgt := 23) cx dL_law_1401 (by decide) ?_
        exact f_weak (LSb.s (LSb.s (LSb.s (LSb.s (LSb.s (LSb.n (LSb.n LSb.e))))))) (hk23 (r193.2, q.2 + 6) _ _ (by omega) (by omega))
      · refine f_iconst (pc := 1233) cx dL_law_1233 kc_iconst_0 ?_
        exact f_none
    refine f_case (?_) (fun n199 => ?_)
    · refine f_tin (pc := 40) (tgt := 1235) cx dL_law_40 (by decide) (by decide) rfl (by decide) ?_
      refine f_aload_n (pc := 1235) cx dL_law_1235 rfl rfl ?_
      refine f_aload_n (pc := 1236) cx dL_law_1236 rfl rfl ?_
      refine f_iload (pc := 1237) cx dL_law_1237 rfl ?_
      refine f_iconst (pc := 1239) cx dL_law_1239 kc_iconst_1 ?_
      refine f_iadd (pc := 1240) cx dL_law_1240 ?_
      refine f_need (fun c195 => ?_)
      refine f_sld (pc := 1241) cx hx c195 dL_law_1241 ?_
      refine f_bind (fun r196 hr196 => ?_)
      refine k_L_158 (pc := 1242) cx (c_X9_leastTarget l G _ 0 (xs (Int32.toNatClampNeg (q.2 + 1))) k0 r196 hr196) k0 ⟨Nat.le_of_ble_eq_true rfl, Nat.le_of_ble_eq_true rfl⟩ (by first | exact hA | exact hB) (Nat.le_of_ble_eq_true rfl) dL_law_1242 ?_
      refine f_aload_n (pc := 1245) cx dL_law_1245 rfl rfl ?_
      refine f_aload_n (pc := 1246) cx dL_law_1246 rfl rfl ?_
      refine f_iload (pc := 1247) cx dL_law_1247 rfl ?_
      refine f_iconst (pc := 1249) cx dL_law_1249 kc_iconst_1 ?_
      refine f_iadd (pc := 1250) cx dL_law_1250 ?_
      refine f_need (fun c197 => ?_)
      refine f_sld (pc := 1251) cx hx c197 dL_law_1251 ?_
      refine f_bind (fun r198 hr198 => ?_)
      refine k_L_161 (pc := 1252) cx (c_X10_leastTarget l G _ 110 (xs (Int32.toNatClampNeg (q.2 + 1))) k110 r198 hr198) k110 ⟨Nat.le_of_ble_eq_true rfl, Nat.le_of_ble_eq_true rfl⟩ (by first | exact hA | exact hB) (Nat.le_of_ble_eq_true rfl) dL_law_1252 ?_
      refine f_icmp_eq (pc := 1255) (tgt := 1398) cx dL_law_1255 (by decide) (fun _ => ?_) (fun _ => ?_)
      · refine f_iinc4 (pc := 1398) cx dL_law_1398 kc_iconst_6 (by decide) rfl ?_
        refine f_goto (pc := 1401) (tgt := 23) cx dL_law_1401 (by decide) ?_
        exact f_weak (LSb.s (LSb.s (LSb.s (LSb.s (LSb.s (LSb.n (LSb.n LSb.e))))))) (hk23 (r198.2, q.2 + 6) _ _ (by omega) (by omega))
      · refine f_iconst (pc := 1258) cx dL_law_1258 kc_iconst_0 ?_
        exact f_none
    refine f_case (?_) (fun n204 => ?_)
    · refine f_tin (pc := 40) (tgt := 1260) cx dL_law_40 (by decide) (by decide) rfl (by decide) ?_
      refine f_aload_n (pc := 1260) cx dL_law_1260 rfl rfl ?_
      refine f_aload_n (pc := 1261) cx dL_law_1261 rfl rfl ?_
      refine f_iload (pc := 1262) cx dL_law_1262 rfl ?_
      refine f_iconst (pc := 1264) cx dL_law_1264 kc_iconst_1 ?_
      refine f_iadd (pc := 1265) cx dL_law_1265 ?_
      refine f_need (fun c200 => ?_)
      refine f_sld (pc := 1266) cx hx c200 dL_law_1266 ?_
      refine f_bind (fun r201 hr201 => ?_)
      refine k_L_162 (pc := 1267) cx (c_X9_bestQuantum l G _ 0 (xs (Int32.toNatClampNeg (q.2 + 1))) k0 r201 hr201) k0 ⟨Nat.le_of_ble_eq_true rfl, Nat.le_of_ble_eq_true rfl⟩ (by first | exact hA | exact hB) (Nat.le_of_ble_eq_true rfl) dL_law_1267 ?_
      refine f_aload_n (pc := 1270) cx dL_law_1270 rfl rfl ?_
      refine f_aload_n (pc := 1271) cx dL_law_1271 rfl rfl ?_
      refine f_iload (pc := 1272) cx dL_law_1272 rfl ?_
      refine f_iconst (pc := 1274) cx dL_law_1274 kc_iconst_1 ?_
      refine f_iadd (pc := 1275) cx dL_law_1275 ?_
      refine f_need (fun c202 => ?_)
      refine f_sld (pc := 1276) cx hx c202 dL_law_1276 ?_
      refine f_bind (fun r203 hr203 => ?_)
      refine k_L_165 (pc := 1277) cx (c_X10_bestQuantum l G _ 110 (xs (Int32.toNatClampNeg (q.2 + 1))) k110 r203 hr203) k110 ⟨Nat.le_of_ble_eq_true rfl, Nat.le_of_ble_eq_true rfl⟩ (by first | exact hA | exact hB) (Nat.le_of_ble_eq_true rfl) dL_law_1277 ?_
      refine f_icmp_eq (pc := 1280) (tgt := 1398) cx dL_law_1280 (by decide) (fun _ => ?_) (fun _ => ?_)
      · refine f_iinc4 (pc := 1398) cx dL_law_1398 kc_iconst_6 (by decide) rfl ?_
        refine f_goto (pc := 1401) (tgt := 23) cx dL_law_1401 (by decide) ?_
        exact f_weak (LSb.s (LSb.s (LSb.s (LSb.s (LSb.s (LSb.n (LSb.n LSb.e))))))) (hk23 (r203.2, q.2 + 6) _ _ (by omega) (by omega))
      · refine f_iconst (pc := 1283) cx dL_law_1283 kc_iconst_0 ?_
        exact f_none
    refine f_case (?_) (fun n207 => ?_)
    · refine f_tin (pc := 40) (tgt := 1285) cx dL_law_40 (by decide) (by decide) rfl (by decide) ?_
      refine f_aload_n (pc := 1285) cx dL_law_1285 rfl rfl ?_
      refine f_bind (fun r205 hr205 => ?_)
      refine k_L_166 (pc := 1286) cx (c_X9_shared l G _ 0 k0 r205 hr205) k0 ⟨Nat.le_of_ble_eq_true rfl, Nat.le_of_ble_eq_true rfl⟩ (by first | exact hA | exact hB) (Nat.le_of_ble_eq_true rfl) dL_law_1286 ?_
      refine f_aload_n (pc := 1289) cx dL_law_1289 rfl rfl ?_
      refine f_bind (fun r206 hr206 => ?_)
      refine k_L_169 (pc := 1290) cx (c_X10_shared l G _ 110 k110 r206 hr206) k110 ⟨Nat.le_of_ble_eq_true rfl, Nat.le_of_ble_eq_true rfl⟩ (by first | exact hA | exact hB) (Nat.le_of_ble_eq_true rfl) dL_law_1290 ?_
      refine f_icmp_eq (pc := 1293) (tgt := 1398) cx dL_law_1293 (by decide) (fun _ => ?_) (fun _ => ?_)
      · refine f_iinc4 (pc := 1398) cx dL_law_1398 kc_iconst_6 (by decide) rfl ?_
        refine f_goto (pc := 1401) (tgt := 23) cx dL_law_1401 (by decide) ?_
        exact f_weak (LSb.s (LSb.s (LSb.s (LSb.s (LSb.s (LSb.n (LSb.n LSb.e))))))) (hk23 (r206.2, q.2 + 6) _ _ (by omega) (by omega))
      · refine f_iconst (pc := 1296) cx dL_law_1296 kc_iconst_0 ?_
        exact f_none
    refine f_case (?_) (fun n214 => ?_)
    · refine f_tin (pc := 40) (tgt := 1298) cx dL_law_40 (by decide) (by decide) rfl (by decide) ?_
      refine f_aload_n (pc := 1298) cx dL_law_1298 rfl rfl ?_
      refine f_aload_n (pc := 1299) cx dL_law_1299 rfl rfl ?_
      refine f_iload (pc := 1300) cx dL_law_1300 rfl ?_
      refine f_iconst (pc := 1302) cx dL_law_1302 kc_iconst_1 ?_
      refine f_iadd (pc := 1303) cx dL_law_1303 ?_
      refine f_need (fun c208 => ?_)
      refine f_sld (pc := 1304) cx hx c208 dL_law_1304 ?_
      refine f_aload_n (pc := 1305) cx dL_law_1305 rfl rfl ?_
      refine f_iload (pc := 1306) cx dL_law_1306 rfl ?_
      refine f_iconst (pc := 1308) cx dL_law_1308 kc_iconst_2 ?_
      refine f_iadd (pc := 1309) cx dL_law_1309 ?_
      refine f_need (fun c209 => ?_)
      refine f_sld (pc := 1310) cx hx c209 dL_law_1310 ?_
      refine f_bind (fun r210 hr210 => ?_)
      refine k_L_170 (pc := 1311) cx (c_X9_within l G _ 0 (xs (Int32.toNatClampNeg (q.2 + 1))) (xs (Int32.toNatClampNeg (q.2 + 2))) k0 r210 hr210) k0 ⟨Nat.le_of_ble_eq_true rfl, Nat.le_of_ble_eq_true rfl⟩ (by first | exact hA | exact hB) (Nat.le_of_ble_eq_true rfl) dL_law_1311 ?_
      refine f_aload_n (pc := 1314) cx dL_law_1314 rfl rfl ?_
      refine f_aload_n (pc := 1315) cx dL_law_1315 rfl rfl ?_
      refine f_iload (pc := 1316) cx dL_law_1316 rfl ?_
      refine f_iconst (pc := 1318) cx dL_law_1318 kc_iconst_1 ?_
      refine f_iadd (pc := 1319) cx dL_law_1319 ?_
      refine f_need (fun c211 => ?_)
      refine f_sld (pc := 1320) cx hx c211 dL_law_1320 ?_
      refine f_aload_n (pc := 1321) cx dL_law_1321 rfl rfl ?_
      refine f_iload (pc := 1322) cx dL_law_1322 rfl ?_
      refine f_iconst (pc := 1324) cx dL_law_1324 kc_iconst_2 ?_
      refine f_iadd (pc := 1325) cx dL_law_1325 ?_
      refine f_need (fun c212 => ?_)
      refine f_sld (pc := 1326) cx hx c212 dL_law_1326 ?_
      refine f_bind (fun r213 hr213 => ?_)
      refine k_L_173 (pc := 1327) cx (c_X10_within l G _ 110 (xs (Int32.toNatClampNeg (q.2 + 1))) (xs (Int32.toNatClampNeg (q.2 + 2))) k110 r213 hr213) k110 ⟨Nat.le_of_ble_eq_true rfl, Nat.le_of_ble_eq_true rfl⟩ (by first | exact hA | exact hB) (Nat.le_of_ble_eq_true rfl) dL_law_1327 ?_
      refine f_icmp_eq (pc := 1330) (tgt := 1398) cx dL_law_1330 (by decide) (fun _ => ?_) (fun _ => ?_)
      · refine f_iinc4 (pc := 1398) cx dL_law_1398 kc_iconst_6 (by decide) rfl ?_
        refine f_goto (pc := 1401) (tgt := 23) cx dL_law_1401 (by decide) ?_
        exact f_weak (LSb.s (LSb.s (LSb.s (LSb.s (LSb.s (LSb.n (LSb.n LSb.e))))))) (hk23 (r213.2, q.2 + 6) _ _ (by omega) (by omega))
      · refine f_iconst (pc := 1333) cx dL_law_1333 kc_iconst_0 ?_
        exact f_none
    refine f_case (?_) (fun n217 => ?_)
    · refine f_tin (pc := 40) (tgt := 1335) cx dL_law_40 (by decide) (by decide) rfl (by decide) ?_
      refine f_aload_n (pc := 1335) cx dL_law_1335 rfl rfl ?_
      refine f_bind (fun r215 hr215 => ?_)
      refine k_L_174 (pc := 1336) cx (c_X9_middle l G _ 0 k0 r215 hr215) k0 ⟨Nat.le_of_ble_eq_true rfl, Nat.le_of_ble_eq_true rfl⟩ (by first | exact hA | exact hB) (Nat.le_of_ble_eq_true rfl) dL_law_1336 ?_
      refine f_aload_n (pc := 1339) cx dL_law_1339 rfl rfl ?_
      refine f_bind (fun r216 hr216 => ?_)
      refine k_L_177 (pc := 1340) cx (c_X10_middle l G _ 110 k110 r216 hr216) k110 ⟨Nat.le_of_ble_eq_true rfl, Nat.le_of_ble_eq_true rfl⟩ (by first | exact hA | exact hB) (Nat.le_of_ble_eq_true rfl) dL_law_1340 ?_
      refine f_icmp_eq (pc := 1343) (tgt := 1398) cx dL_law_1343 (by decide) (fun _ => ?_) (fun _ => ?_)
      · refine f_iinc4 (pc := 1398) cx dL_law_1398 kc_iconst_6 (by decide) rfl ?_
        refine f_goto (pc := 1401) (tgt := 23) cx dL_law_1401 (by decide) ?_
        exact f_weak (LSb.s (LSb.s (LSb.s (LSb.s (LSb.s (LSb.n (LSb.n LSb.e))))))) (hk23 (r216.2, q.2 + 6) _ _ (by omega) (by omega))
      · refine f_iconst (pc := 1346) cx dL_law_1346 kc_iconst_0 ?_
        exact f_none
    refine f_case (?_) (fun n222 => ?_)
    · refine f_tin (pc := 40) (tgt := 1348) cx dL_law_40 (by decide) (by decide) rfl (by decide) ?_
      refine f_aload_n (pc := 1348) cx dL_law_1348 rfl rfl ?_
      refine f_aload_n (pc := 1349) cx dL_law_1349 rfl rfl ?_
      refine f_iload (pc := 1350) cx dL_law_1350 rfl ?_
      refine f_iconst (pc := 1352) cx dL_law_1352 kc_iconst_1 ?_
      refine f_iadd (pc := 1353) cx dL_law_1353 ?_
      refine f_need (fun c218 => ?_)
      refine f_sld (pc := 1354) cx hx c218 dL_law_1354 ?_
      refine f_bind (fun r219 hr219 => ?_)
      refine k_L_178 (pc := 1355) cx (c_X9_load l G _ 0 (xs (Int32.toNatClampNeg (q.2 + 1))) k0 r219 hr219) k0 ⟨Nat.le_of_ble_eq_true rfl, Nat.le_of_ble_eq_true rfl⟩ (by first | exact hA | exact hB) (Nat.le_of_ble_eq_true rfl) dL_law_1355 ?_
      refine f_aload_n (pc := 1358) cx dL_law_1358 rfl rfl ?_
      refine f_aload_n (pc := 1359) cx dL_law_1359 rfl rfl ?_
      refine f_iload (pc := 1360) cx dL_law_1360 rfl ?_
      refine f_iconst (pc := 1362) cx dL_law_1362 kc_iconst_1 ?_
      refine f_iadd (pc := 1363) cx dL_law_1363 ?_
      refine f_need (fun c220 => ?_)
      refine f_sld (pc := 1364) cx hx c220 dL_law_1364 ?_
      refine f_bind (fun r221 hr221 => ?_)
      refine k_L_181 (pc := 1365) cx (c_X10_load l G _ 110 (xs (Int32.toNatClampNeg (q.2 + 1))) k110 r221 hr221) k110 ⟨Nat.le_of_ble_eq_true rfl, Nat.le_of_ble_eq_true rfl⟩ (by first | exact hA | exact hB) (Nat.le_of_ble_eq_true rfl) dL_law_1365 ?_
      refine f_icmp_eq (pc := 1368) (tgt := 1398) cx dL_law_1368 (by decide) (fun _ => ?_) (fun _ => ?_)
      · refine f_iinc4 (pc := 1398) cx dL_law_1398 kc_iconst_6 (by decide) rfl ?_
        refine f_goto (pc := 1401) (tgt := 23) cx dL_law_1401 (by decide) ?_
        exact f_weak (LSb.s (LSb.s (LSb.s (LSb.s (LSb.s (LSb.n (LSb.n LSb.e))))))) (hk23 (r221.2, q.2 + 6) _ _ (by omega) (by omega))
      · refine f_iconst (pc := 1371) cx dL_law_1371 kc_iconst_0 ?_
        exact f_none
    refine f_case (?_) (fun n227 => ?_)
    · refine f_tin (pc := 40) (tgt := 1373) cx dL_law_40 (by decide) (by decide) rfl (by decide) ?_
      refine f_aload_n (pc := 1373) cx dL_law_1373 rfl rfl ?_
      refine f_aload_n (pc := 1374) cx dL_law_1374 rfl rfl ?_
      refine f_iload (pc := 1375) cx dL_law_1375 rfl ?_
      refine f_iconst (pc := 1377) cx dL_law_1377 kc_iconst_1 ?_
      refine f_iadd (pc := 1378) cx dL_law_1378 ?_
      refine f_need (fun c223 => ?_)
      refine f_sld (pc := 1379) cx hx c223 dL_law_1379 ?_
      refine f_bind (fun r224 hr224 => ?_)
      refine k_L_182 (pc := 1380) cx (c_X9_count l G _ 0 (xs (Int32.toNatClampNeg (q.2 + 1))) k0 r224 hr224) k0 ⟨Nat.le_of_ble_eq_true rfl, Nat.le_of_ble_eq_true rfl⟩ (by first | exact hA | exact hB) (Nat.le_of_ble_eq_true rfl) dL_law_1380 ?_
      refine f_aload_n (pc := 1383) cx dL_law_1383 rfl rfl ?_
      refine f_aload_n (pc := 1384) cx dL_law_1384 rfl rfl ?_
      refine f_iload (pc := 1385) cx dL_law_1385 rfl ?_
      refine f_iconst (pc := 1387) cx dL_law_1387 kc_iconst_1 ?_
      refine f_iadd (pc := 1388) cx dL_law_1388 ?_
      refine f_need (fun c225 => ?_)
      refine f_sld (pc := 1389) cx hx c225 dL_law_1389 ?_
      refine f_bind (fun r226 hr226 => ?_)
      refine k_L_185 (pc := 1390) cx (c_X10_count l G _ 110 (xs (Int32.toNatClampNeg (q.2 + 1))) k110 r226 hr226) k110 ⟨Nat.le_of_ble_eq_true rfl, Nat.le_of_ble_eq_true rfl⟩ (by first | exact hA | exact hB) (Nat.le_of_ble_eq_true rfl) dL_law_1390 ?_
      refine f_icmp_eq (pc := 1393) (tgt := 1398) cx dL_law_1393 (by decide) (fun _ => ?_) (fun _ => ?_)
      · refine f_iinc4 (pc := 1398) cx dL_law_1398 kc_iconst_6 (by decide) rfl ?_
        refine f_goto (pc := 1401) (tgt := 23) cx dL_law_1401 (by decide) ?_
        exact f_weak (LSb.s (LSb.s (LSb.s (LSb.s (LSb.s (LSb.n (LSb.n LSb.e))))))) (hk23 (r226.2, q.2 + 6) _ _ (by omega) (by omega))
      · refine f_iconst (pc := 1396) cx dL_law_1396 kc_iconst_0 ?_
        exact f_none
    refine f_tout (pc := 40) (tgt := 1398) (N := 39) cx dL_law_40 (by decide) (by decide) (lt_s (lt_s (lt_s (lt_s (lt_s (lt_s (lt_s (lt_s (lt_s (lt_s (lt_s (lt_s (lt_s (lt_s (lt_s (lt_s (lt_s (lt_s (lt_s (lt_s (lt_s (lt_s (lt_s (lt_s (lt_s (lt_s (lt_s (lt_s (lt_s (lt_s (lt_s (lt_s (lt_s (lt_s (lt_s (lt_s (lt_s (lt_s (lt_s lt_0 n14) n19) n24) n33) n38) n41) n46) n53) n58) n65) n70) n75) n80) n87) n94) n99) n104) n109) n117) n124) n129) n136) n143) n150) n155) n160) n165) n172) n179) n182) n187) n194) n199) n204) n207) n214) n217) n222) n227) (by decide) ?_
    refine f_iinc4 (pc := 1398) cx dL_law_1398 kc_iconst_6 (by decide) rfl ?_
    refine f_goto (pc := 1401) (tgt := 23) cx dL_law_1401 (by decide) ?_
    exact f_weak (LSb.s (LSb.s (LSb.s (LSb.s (LSb.s (LSb.n (LSb.n LSb.e))))))) (hk23 (q.1, q.2 + 6) _ _ (by omega) (by omega))
