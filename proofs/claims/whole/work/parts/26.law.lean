-- ===== end of PART A; then your names; then what follows =====
/-! THE CLAIM OUT OF ONE WALK OF THE LAW'S BODY. Your part is whole_start (and what it stands on); all else here is the same for every law, but numbers. -/
def R_law : String := "RopeVotesLaw"
def lw_P (b : Addr) (xs : List Int32) (args : Array Value) (s : State) : Prop := args = #[.ref b] ∧ s.IntsAt b xs ∧ xs.length ≤ 2048 ∧ (Jvm.Cond.and given_1 narrow_1).before args s = true
def lw_Q (_ : Array Value) (s : State) (o : Outcome) (t : State) : Prop := o = .returned (some (.int 1)) ∧ Framed s o t [] 1090 11478
def lw_Z (below : List Frame) (a : Array Value) (s : State) : State → Prop := fun t => ∃ o, t.status = .running ∧ Ended t below o ∧ lw_Q a s o t
/-- the law's own end, with 1 on the stack, nothing written that was there before, its room as the claim has it -/
theorem lw_ret {p : Program} {l : Launch} {e : Env} {s : State} {m : MethodId} {below : List Frame} {meth : Method} {c : Code} {b : Nat} (hx : p.tables.exec = Jvm.exec) (hb : c.code = code) (hr : meth.sig.returnType = ret) (hlocks : meth.locks = false) {pc : Nat} {H : Heap} {ls : Array Slot} (hdg : decode code pc = .ok (.ireturn, 1)) : W p l e room_1 s m #[Value.ref b] below meth c H [] 1090 11478 (lw_Z below #[Value.ref b] s) (F0 m pc ls [.int 1]) := by
  intro T hT X
  obtain ⟨fs, hret, hrun, hended, hW, hframe⟩ := X.leave (v := some (.int 1)) (hlocks := hlocks) (fun h => by rw [hr] at h; cases h)
  have hmeth' : T.vm.method? m = some meth := X.method'
  refine ⟨T.setFrames fs, ?_, .returned (some (.int 1)), hrun, hended, rfl, ⟨_, rfl⟩, hW, hframe⟩
  jvm_step X.here [X.here.top, hx, hb, hdg, hmeth', hr, ret, narrow_b1]
  (try refine ⟨rfl, ?_⟩); (try refine ⟨rfl, ?_⟩)
  first | (intro acts; rw [hret _ acts rfl rfl rfl]) | rw [hret _ _ rfl rfl rfl]
  exact Steps.refl _
/-- what holds at the law's entry: the machine, the code, the tables' words (any of lw_tbl by 'hts w (by decide +kernel)'), the script of L ints xs at the cell b, what the Statement gives of the start (any of its parts by flat_of_before) -/
def lw_At (p : Program) (s : State) (m : MethodId) (meth : Method) (c : Code) (b L : Nat) (xs : Nat → Int32) : Prop :=
  p.tables.exec = Jvm.exec ∧ c.code = code ∧ meth.sig.returnType = ret ∧ c.maxLocals = 7 ∧ s.vm.findClass R_law = some m.cls ∧ (∀ w ∈ lw_tbl, w.before #[Value.ref b] s = true) ∧ va_X b L xs s s.heap ∧ b < s.heap.size ∧ meth.locks = false ∧ (Jvm.Cond.and given_1 narrow_1).before #[Value.ref b] s = true
theorem d_law_0 : decode code 0 = .ok (.new 8, 3) := by decide +kernel
theorem d_law_3 : decode code 3 = .ok (.dup, 1) := by decide +kernel
theorem d_law_4 : decode code 4 = .ok (.invokespecial 71, 3) := by decide +kernel
theorem d_law_7 : decode code 7 = .ok (.astore_n 1, 1) := by decide +kernel
theorem d_law_8 : decode code 8 = .ok (.new 72, 3) := by decide +kernel
theorem d_law_11 : decode code 11 = .ok (.dup, 1) := by decide +kernel
theorem d_law_12 : decode code 12 = .ok (.invokespecial 74, 3) := by decide +kernel
theorem d_law_15 : decode code 15 = .ok (.astore_n 2, 1) := by decide +kernel
theorem d_law_16 : decode code 16 = .ok (.iconst 1, 1) := by decide +kernel
theorem d_law_17 : decode code 17 = .ok (.newarray .long, 2) := by decide +kernel
theorem d_law_19 : decode code 19 = .ok (.astore_n 3, 1) := by decide +kernel
theorem d_law_20 : decode code 20 = .ok (.iconst 0, 1) := by decide +kernel
theorem d_law_21 : decode code 21 = .ok (.istore 4, 2) := by decide +kernel
theorem d_law_23 : decode code 23 = .ok (.iload 4, 2) := by decide +kernel
theorem d_law_25 : decode code 25 = .ok (.aload_n 0, 1) := by decide +kernel
theorem d_law_26 : decode code 26 = .ok (.arraylength, 1) := by decide +kernel
theorem d_law_27 : decode code 27 = .ok (.iconst 4, 1) := by decide +kernel
theorem d_law_28 : decode code 28 = .ok (.isub, 1) := by decide +kernel
theorem d_law_29 : decode code 29 = .ok (.if_icmp .gt 1306, 3) := by decide +kernel
theorem d_law_32 : decode code 32 = .ok (.aload_n 0, 1) := by decide +kernel
theorem d_law_33 : decode code 33 = .ok (.iload 4, 2) := by decide +kernel
theorem d_law_35 : decode code 35 = .ok (.iaload, 1) := by decide +kernel
theorem d_law_36 : decode code 36 = .ok (.bipush 31, 2) := by decide +kernel
theorem d_law_38 : decode code 38 = .ok (.iand, 1) := by decide +kernel
theorem d_law_39 : decode code 39 = .ok (.tableswitch 1290 0 25 #[117, 161, 217, 230, 286, 342, 355, 423, 503, 587, 643, 699, 712, 725, 738, 779, 835, 848, 861, 917, 973, 1053, 1109, 1165, 1221, 1277], 117) := by decide +kernel
theorem d_law_156 : decode code 156 = .ok (.aload_n 1, 1) := by decide +kernel
theorem d_law_157 : decode code 157 = .ok (.aload_n 3, 1) := by decide +kernel
theorem d_law_158 : decode code 158 = .ok (.invokestatic 75, 3) := by decide +kernel
theorem d_law_161 : decode code 161 = .ok (.istore 5, 2) := by decide +kernel
theorem d_law_163 : decode code 163 = .ok (.aload_n 2, 1) := by decide +kernel
theorem d_law_164 : decode code 164 = .ok (.invokevirtual 80, 3) := by decide +kernel
theorem d_law_167 : decode code 167 = .ok (.istore 6, 2) := by decide +kernel
theorem d_law_169 : decode code 169 = .ok (.aload_n 2, 1) := by decide +kernel
theorem d_law_170 : decode code 170 = .ok (.invokevirtual 81, 3) := by decide +kernel
theorem d_law_173 : decode code 173 = .ok (.iload 5, 2) := by decide +kernel
theorem d_law_175 : decode code 175 = .ok (.if_icmp .eq 5, 3) := by decide +kernel
theorem d_law_178 : decode code 178 = .ok (.iconst 0, 1) := by decide +kernel
theorem d_law_179 : decode code 179 = .ok (.ireturn, 1) := by decide +kernel
theorem d_law_180 : decode code 180 = .ok (.iload 5, 2) := by decide +kernel
theorem d_law_182 : decode code 182 = .ok (.ifCond .ne 15, 3) := by decide +kernel
theorem d_law_185 : decode code 185 = .ok (.aload_n 3, 1) := by decide +kernel
theorem d_law_186 : decode code 186 = .ok (.iconst 0, 1) := by decide +kernel
theorem d_law_187 : decode code 187 = .ok (.laload, 1) := by decide +kernel
theorem d_law_188 : decode code 188 = .ok (.iload 6, 2) := by decide +kernel
theorem d_law_190 : decode code 190 = .ok (.i2l, 1) := by decide +kernel
theorem d_law_191 : decode code 191 = .ok (.lcmp, 1) := by decide +kernel
theorem d_law_192 : decode code 192 = .ok (.ifCond .eq 5, 3) := by decide +kernel
theorem d_law_195 : decode code 195 = .ok (.iconst 0, 1) := by decide +kernel
theorem d_law_196 : decode code 196 = .ok (.ireturn, 1) := by decide +kernel
theorem d_law_197 : decode code 197 = .ok (.goto 1132, 3) := by decide +kernel
theorem d_law_200 : decode code 200 = .ok (.aload_n 1, 1) := by decide +kernel
theorem d_law_201 : decode code 201 = .ok (.aload_n 0, 1) := by decide +kernel
theorem d_law_202 : decode code 202 = .ok (.iload 4, 2) := by decide +kernel
theorem d_law_204 : decode code 204 = .ok (.iconst 1, 1) := by decide +kernel
theorem d_law_205 : decode code 205 = .ok (.iadd, 1) := by decide +kernel
theorem d_law_206 : decode code 206 = .ok (.iaload, 1) := by decide +kernel
theorem d_law_207 : decode code 207 = .ok (.aload_n 3, 1) := by decide +kernel
theorem d_law_208 : decode code 208 = .ok (.invokestatic 84, 3) := by decide +kernel
theorem d_law_211 : decode code 211 = .ok (.istore 5, 2) := by decide +kernel
theorem d_law_213 : decode code 213 = .ok (.aload_n 2, 1) := by decide +kernel
theorem d_law_214 : decode code 214 = .ok (.aload_n 0, 1) := by decide +kernel
theorem d_law_215 : decode code 215 = .ok (.iload 4, 2) := by decide +kernel
theorem d_law_217 : decode code 217 = .ok (.iconst 1, 1) := by decide +kernel
theorem d_law_218 : decode code 218 = .ok (.iadd, 1) := by decide +kernel
theorem d_law_219 : decode code 219 = .ok (.iaload, 1) := by decide +kernel
theorem d_law_220 : decode code 220 = .ok (.invokevirtual 87, 3) := by decide +kernel
theorem d_law_223 : decode code 223 = .ok (.istore 6, 2) := by decide +kernel
theorem d_law_225 : decode code 225 = .ok (.aload_n 2, 1) := by decide +kernel
theorem d_law_226 : decode code 226 = .ok (.invokevirtual 81, 3) := by decide +kernel
theorem d_law_229 : decode code 229 = .ok (.iload 5, 2) := by decide +kernel
theorem d_law_231 : decode code 231 = .ok (.if_icmp .eq 5, 3) := by decide +kernel
theorem d_law_234 : decode code 234 = .ok (.iconst 0, 1) := by decide +kernel
theorem d_law_235 : decode code 235 = .ok (.ireturn, 1) := by decide +kernel
theorem d_law_236 : decode code 236 = .ok (.iload 5, 2) := by decide +kernel
theorem d_law_238 : decode code 238 = .ok (.ifCond .ne 15, 3) := by decide +kernel
theorem d_law_241 : decode code 241 = .ok (.aload_n 3, 1) := by decide +kernel
theorem d_law_242 : decode code 242 = .ok (.iconst 0, 1) := by decide +kernel
theorem d_law_243 : decode code 243 = .ok (.laload, 1) := by decide +kernel
theorem d_law_244 : decode code 244 = .ok (.iload 6, 2) := by decide +kernel
theorem d_law_246 : decode code 246 = .ok (.i2l, 1) := by decide +kernel
theorem d_law_247 : decode code 247 = .ok (.lcmp, 1) := by decide +kernel
theorem d_law_248 : decode code 248 = .ok (.ifCond .eq 5, 3) := by decide +kernel
theorem d_law_251 : decode code 251 = .ok (.iconst 0, 1) := by decide +kernel
theorem d_law_252 : decode code 252 = .ok (.ireturn, 1) := by decide +kernel
theorem d_law_253 : decode code 253 = .ok (.goto 1076, 3) := by decide +kernel
theorem d_law_256 : decode code 256 = .ok (.aload_n 1, 1) := by decide +kernel
theorem d_law_257 : decode code 257 = .ok (.invokevirtual 88, 3) := by decide +kernel
theorem d_law_260 : decode code 260 = .ok (.aload_n 2, 1) := by decide +kernel
theorem d_law_261 : decode code 261 = .ok (.invokevirtual 91, 3) := by decide +kernel
theorem d_law_264 : decode code 264 = .ok (.if_icmp .eq 1065, 3) := by decide +kernel
theorem d_law_267 : decode code 267 = .ok (.iconst 0, 1) := by decide +kernel
theorem d_law_268 : decode code 268 = .ok (.ireturn, 1) := by decide +kernel
theorem d_law_269 : decode code 269 = .ok (.aload_n 1, 1) := by decide +kernel
theorem d_law_270 : decode code 270 = .ok (.aload_n 0, 1) := by decide +kernel
theorem d_law_271 : decode code 271 = .ok (.iload 4, 2) := by decide +kernel
theorem d_law_273 : decode code 273 = .ok (.iconst 1, 1) := by decide +kernel
theorem d_law_274 : decode code 274 = .ok (.iadd, 1) := by decide +kernel
theorem d_law_275 : decode code 275 = .ok (.iaload, 1) := by decide +kernel
theorem d_law_276 : decode code 276 = .ok (.aload_n 3, 1) := by decide +kernel
theorem d_law_277 : decode code 277 = .ok (.invokestatic 92, 3) := by decide +kernel
theorem d_law_280 : decode code 280 = .ok (.istore 5, 2) := by decide +kernel
theorem d_law_282 : decode code 282 = .ok (.aload_n 2, 1) := by decide +kernel
theorem d_law_283 : decode code 283 = .ok (.aload_n 0, 1) := by decide +kernel
theorem d_law_284 : decode code 284 = .ok (.iload 4, 2) := by decide +kernel
theorem d_law_286 : decode code 286 = .ok (.iconst 1, 1) := by decide +kernel
theorem d_law_287 : decode code 287 = .ok (.iadd, 1) := by decide +kernel
theorem d_law_288 : decode code 288 = .ok (.iaload, 1) := by decide +kernel
theorem d_law_289 : decode code 289 = .ok (.invokevirtual 94, 3) := by decide +kernel
theorem d_law_292 : decode code 292 = .ok (.istore 6, 2) := by decide +kernel
theorem d_law_294 : decode code 294 = .ok (.aload_n 2, 1) := by decide +kernel
theorem d_law_295 : decode code 295 = .ok (.invokevirtual 81, 3) := by decide +kernel
theorem d_law_298 : decode code 298 = .ok (.iload 5, 2) := by decide +kernel
theorem d_law_300 : decode code 300 = .ok (.if_icmp .eq 5, 3) := by decide +kernel
theorem d_law_303 : decode code 303 = .ok (.iconst 0, 1) := by decide +kernel
theorem d_law_304 : decode code 304 = .ok (.ireturn, 1) := by decide +kernel
theorem d_law_305 : decode code 305 = .ok (.iload 5, 2) := by decide +kernel
theorem d_law_307 : decode code 307 = .ok (.ifCond .ne 15, 3) := by decide +kernel
theorem d_law_310 : decode code 310 = .ok (.aload_n 3, 1) := by decide +kernel
theorem d_law_311 : decode code 311 = .ok (.iconst 0, 1) := by decide +kernel
theorem d_law_312 : decode code 312 = .ok (.laload, 1) := by decide +kernel
theorem d_law_313 : decode code 313 = .ok (.iload 6, 2) := by decide +kernel
theorem d_law_315 : decode code 315 = .ok (.i2l, 1) := by decide +kernel
theorem d_law_316 : decode code 316 = .ok (.lcmp, 1) := by decide +kernel
theorem d_law_317 : decode code 317 = .ok (.ifCond .eq 5, 3) := by decide +kernel
theorem d_law_320 : decode code 320 = .ok (.iconst 0, 1) := by decide +kernel
theorem d_law_321 : decode code 321 = .ok (.ireturn, 1) := by decide +kernel
theorem d_law_322 : decode code 322 = .ok (.goto 1007, 3) := by decide +kernel
theorem d_law_325 : decode code 325 = .ok (.aload_n 1, 1) := by decide +kernel
theorem d_law_326 : decode code 326 = .ok (.aload_n 0, 1) := by decide +kernel
theorem d_law_327 : decode code 327 = .ok (.iload 4, 2) := by decide +kernel
theorem d_law_329 : decode code 329 = .ok (.iconst 1, 1) := by decide +kernel
theorem d_law_330 : decode code 330 = .ok (.iadd, 1) := by decide +kernel
theorem d_law_331 : decode code 331 = .ok (.iaload, 1) := by decide +kernel
theorem d_law_332 : decode code 332 = .ok (.aload_n 3, 1) := by decide +kernel
theorem d_law_333 : decode code 333 = .ok (.invokestatic 95, 3) := by decide +kernel
theorem d_law_336 : decode code 336 = .ok (.istore 5, 2) := by decide +kernel
theorem d_law_338 : decode code 338 = .ok (.aload_n 2, 1) := by decide +kernel
theorem d_law_339 : decode code 339 = .ok (.aload_n 0, 1) := by decide +kernel
theorem d_law_340 : decode code 340 = .ok (.iload 4, 2) := by decide +kernel
theorem d_law_342 : decode code 342 = .ok (.iconst 1, 1) := by decide +kernel
theorem d_law_343 : decode code 343 = .ok (.iadd, 1) := by decide +kernel
theorem d_law_344 : decode code 344 = .ok (.iaload, 1) := by decide +kernel
theorem d_law_345 : decode code 345 = .ok (.invokevirtual 97, 3) := by decide +kernel
theorem d_law_348 : decode code 348 = .ok (.istore 6, 2) := by decide +kernel
theorem d_law_350 : decode code 350 = .ok (.aload_n 2, 1) := by decide +kernel
theorem d_law_351 : decode code 351 = .ok (.invokevirtual 81, 3) := by decide +kernel
theorem d_law_354 : decode code 354 = .ok (.iload 5, 2) := by decide +kernel
theorem d_law_356 : decode code 356 = .ok (.if_icmp .eq 5, 3) := by decide +kernel
theorem d_law_359 : decode code 359 = .ok (.iconst 0, 1) := by decide +kernel
theorem d_law_360 : decode code 360 = .ok (.ireturn, 1) := by decide +kernel
theorem d_law_361 : decode code 361 = .ok (.iload 5, 2) := by decide +kernel
theorem d_law_363 : decode code 363 = .ok (.ifCond .ne 15, 3) := by decide +kernel
theorem d_law_366 : decode code 366 = .ok (.aload_n 3, 1) := by decide +kernel
theorem d_law_367 : decode code 367 = .ok (.iconst 0, 1) := by decide +kernel
theorem d_law_368 : decode code 368 = .ok (.laload, 1) := by decide +kernel
theorem d_law_369 : decode code 369 = .ok (.iload 6, 2) := by decide +kernel
theorem d_law_371 : decode code 371 = .ok (.i2l, 1) := by decide +kernel
theorem d_law_372 : decode code 372 = .ok (.lcmp, 1) := by decide +kernel
theorem d_law_373 : decode code 373 = .ok (.ifCond .eq 5, 3) := by decide +kernel
theorem d_law_376 : decode code 376 = .ok (.iconst 0, 1) := by decide +kernel
theorem d_law_377 : decode code 377 = .ok (.ireturn, 1) := by decide +kernel
theorem d_law_378 : decode code 378 = .ok (.goto 951, 3) := by decide +kernel
theorem d_law_381 : decode code 381 = .ok (.aload_n 1, 1) := by decide +kernel
theorem d_law_382 : decode code 382 = .ok (.invokevirtual 98, 3) := by decide +kernel
theorem d_law_385 : decode code 385 = .ok (.aload_n 2, 1) := by decide +kernel
theorem d_law_386 : decode code 386 = .ok (.invokevirtual 101, 3) := by decide +kernel
theorem d_law_389 : decode code 389 = .ok (.if_icmp .eq 940, 3) := by decide +kernel
theorem d_law_392 : decode code 392 = .ok (.iconst 0, 1) := by decide +kernel
theorem d_law_393 : decode code 393 = .ok (.ireturn, 1) := by decide +kernel
theorem d_law_394 : decode code 394 = .ok (.aload_n 1, 1) := by decide +kernel
theorem d_law_395 : decode code 395 = .ok (.aload_n 0, 1) := by decide +kernel
theorem d_law_396 : decode code 396 = .ok (.iload 4, 2) := by decide +kernel
theorem d_law_398 : decode code 398 = .ok (.iconst 1, 1) := by decide +kernel
theorem d_law_399 : decode code 399 = .ok (.iadd, 1) := by decide +kernel
theorem d_law_400 : decode code 400 = .ok (.iaload, 1) := by decide +kernel
theorem d_law_401 : decode code 401 = .ok (.aload_n 0, 1) := by decide +kernel
theorem d_law_402 : decode code 402 = .ok (.iload 4, 2) := by decide +kernel
theorem d_law_404 : decode code 404 = .ok (.iconst 2, 1) := by decide +kernel
theorem d_law_405 : decode code 405 = .ok (.iadd, 1) := by decide +kernel
theorem d_law_406 : decode code 406 = .ok (.iaload, 1) := by decide +kernel
theorem d_law_407 : decode code 407 = .ok (.aload_n 3, 1) := by decide +kernel
theorem d_law_408 : decode code 408 = .ok (.invokestatic 102, 3) := by decide +kernel
theorem d_law_411 : decode code 411 = .ok (.istore 5, 2) := by decide +kernel
theorem d_law_413 : decode code 413 = .ok (.aload_n 2, 1) := by decide +kernel
theorem d_law_414 : decode code 414 = .ok (.aload_n 0, 1) := by decide +kernel
theorem d_law_415 : decode code 415 = .ok (.iload 4, 2) := by decide +kernel
theorem d_law_417 : decode code 417 = .ok (.iconst 1, 1) := by decide +kernel
theorem d_law_418 : decode code 418 = .ok (.iadd, 1) := by decide +kernel
theorem d_law_419 : decode code 419 = .ok (.iaload, 1) := by decide +kernel
theorem d_law_420 : decode code 420 = .ok (.aload_n 0, 1) := by decide +kernel
theorem d_law_421 : decode code 421 = .ok (.iload 4, 2) := by decide +kernel
theorem d_law_423 : decode code 423 = .ok (.iconst 2, 1) := by decide +kernel
theorem d_law_424 : decode code 424 = .ok (.iadd, 1) := by decide +kernel
theorem d_law_425 : decode code 425 = .ok (.iaload, 1) := by decide +kernel
theorem d_law_426 : decode code 426 = .ok (.invokevirtual 105, 3) := by decide +kernel
theorem d_law_429 : decode code 429 = .ok (.istore 6, 2) := by decide +kernel
theorem d_law_431 : decode code 431 = .ok (.aload_n 2, 1) := by decide +kernel
theorem d_law_432 : decode code 432 = .ok (.invokevirtual 81, 3) := by decide +kernel
theorem d_law_435 : decode code 435 = .ok (.iload 5, 2) := by decide +kernel
theorem d_law_437 : decode code 437 = .ok (.if_icmp .eq 5, 3) := by decide +kernel
theorem d_law_440 : decode code 440 = .ok (.iconst 0, 1) := by decide +kernel
theorem d_law_441 : decode code 441 = .ok (.ireturn, 1) := by decide +kernel
theorem d_law_442 : decode code 442 = .ok (.iload 5, 2) := by decide +kernel
theorem d_law_444 : decode code 444 = .ok (.ifCond .ne 15, 3) := by decide +kernel
theorem d_law_447 : decode code 447 = .ok (.aload_n 3, 1) := by decide +kernel
theorem d_law_448 : decode code 448 = .ok (.iconst 0, 1) := by decide +kernel
theorem d_law_449 : decode code 449 = .ok (.laload, 1) := by decide +kernel
theorem d_law_450 : decode code 450 = .ok (.iload 6, 2) := by decide +kernel
theorem d_law_452 : decode code 452 = .ok (.i2l, 1) := by decide +kernel
theorem d_law_453 : decode code 453 = .ok (.lcmp, 1) := by decide +kernel
theorem d_law_454 : decode code 454 = .ok (.ifCond .eq 5, 3) := by decide +kernel
theorem d_law_457 : decode code 457 = .ok (.iconst 0, 1) := by decide +kernel
theorem d_law_458 : decode code 458 = .ok (.ireturn, 1) := by decide +kernel
theorem d_law_459 : decode code 459 = .ok (.goto 870, 3) := by decide +kernel
theorem d_law_462 : decode code 462 = .ok (.aload_n 1, 1) := by decide +kernel
theorem d_law_463 : decode code 463 = .ok (.aload_n 0, 1) := by decide +kernel
theorem d_law_464 : decode code 464 = .ok (.iload 4, 2) := by decide +kernel
theorem d_law_466 : decode code 466 = .ok (.iconst 1, 1) := by decide +kernel
theorem d_law_467 : decode code 467 = .ok (.iadd, 1) := by decide +kernel
theorem d_law_468 : decode code 468 = .ok (.iaload, 1) := by decide +kernel
theorem d_law_469 : decode code 469 = .ok (.aload_n 0, 1) := by decide +kernel
theorem d_law_470 : decode code 470 = .ok (.iload 4, 2) := by decide +kernel
theorem d_law_472 : decode code 472 = .ok (.iconst 2, 1) := by decide +kernel
theorem d_law_473 : decode code 473 = .ok (.iadd, 1) := by decide +kernel
theorem d_law_474 : decode code 474 = .ok (.iaload, 1) := by decide +kernel
theorem d_law_475 : decode code 475 = .ok (.aload_n 0, 1) := by decide +kernel
theorem d_law_476 : decode code 476 = .ok (.iload 4, 2) := by decide +kernel
theorem d_law_478 : decode code 478 = .ok (.iconst 3, 1) := by decide +kernel
theorem d_law_479 : decode code 479 = .ok (.iadd, 1) := by decide +kernel
theorem d_law_480 : decode code 480 = .ok (.iaload, 1) := by decide +kernel
theorem d_law_481 : decode code 481 = .ok (.aload_n 3, 1) := by decide +kernel
theorem d_law_482 : decode code 482 = .ok (.invokestatic 106, 3) := by decide +kernel
theorem d_law_485 : decode code 485 = .ok (.istore 5, 2) := by decide +kernel
theorem d_law_487 : decode code 487 = .ok (.aload_n 2, 1) := by decide +kernel
theorem d_law_488 : decode code 488 = .ok (.aload_n 0, 1) := by decide +kernel
theorem d_law_489 : decode code 489 = .ok (.iload 4, 2) := by decide +kernel
theorem d_law_491 : decode code 491 = .ok (.iconst 1, 1) := by decide +kernel
theorem d_law_492 : decode code 492 = .ok (.iadd, 1) := by decide +kernel
theorem d_law_493 : decode code 493 = .ok (.iaload, 1) := by decide +kernel
theorem d_law_494 : decode code 494 = .ok (.aload_n 0, 1) := by decide +kernel
theorem d_law_495 : decode code 495 = .ok (.iload 4, 2) := by decide +kernel
theorem d_law_497 : decode code 497 = .ok (.iconst 2, 1) := by decide +kernel
theorem d_law_498 : decode code 498 = .ok (.iadd, 1) := by decide +kernel
theorem d_law_499 : decode code 499 = .ok (.iaload, 1) := by decide +kernel
theorem d_law_500 : decode code 500 = .ok (.aload_n 0, 1) := by decide +kernel
theorem d_law_501 : decode code 501 = .ok (.iload 4, 2) := by decide +kernel
theorem d_law_503 : decode code 503 = .ok (.iconst 3, 1) := by decide +kernel
theorem d_law_504 : decode code 504 = .ok (.iadd, 1) := by decide +kernel
theorem d_law_505 : decode code 505 = .ok (.iaload, 1) := by decide +kernel
theorem d_law_506 : decode code 506 = .ok (.invokevirtual 109, 3) := by decide +kernel
theorem d_law_509 : decode code 509 = .ok (.istore 6, 2) := by decide +kernel
theorem d_law_511 : decode code 511 = .ok (.aload_n 2, 1) := by decide +kernel
theorem d_law_512 : decode code 512 = .ok (.invokevirtual 81, 3) := by decide +kernel
theorem d_law_515 : decode code 515 = .ok (.iload 5, 2) := by decide +kernel
theorem d_law_517 : decode code 517 = .ok (.if_icmp .eq 5, 3) := by decide +kernel
theorem d_law_520 : decode code 520 = .ok (.iconst 0, 1) := by decide +kernel
theorem d_law_521 : decode code 521 = .ok (.ireturn, 1) := by decide +kernel
theorem d_law_522 : decode code 522 = .ok (.iload 5, 2) := by decide +kernel
theorem d_law_524 : decode code 524 = .ok (.ifCond .ne 15, 3) := by decide +kernel
theorem d_law_527 : decode code 527 = .ok (.aload_n 3, 1) := by decide +kernel
theorem d_law_528 : decode code 528 = .ok (.iconst 0, 1) := by decide +kernel
theorem d_law_529 : decode code 529 = .ok (.laload, 1) := by decide +kernel
theorem d_law_530 : decode code 530 = .ok (.iload 6, 2) := by decide +kernel
theorem d_law_532 : decode code 532 = .ok (.i2l, 1) := by decide +kernel
theorem d_law_533 : decode code 533 = .ok (.lcmp, 1) := by decide +kernel
theorem d_law_534 : decode code 534 = .ok (.ifCond .eq 5, 3) := by decide +kernel
theorem d_law_537 : decode code 537 = .ok (.iconst 0, 1) := by decide +kernel
theorem d_law_538 : decode code 538 = .ok (.ireturn, 1) := by decide +kernel
theorem d_law_539 : decode code 539 = .ok (.goto 790, 3) := by decide +kernel
theorem d_law_542 : decode code 542 = .ok (.aload_n 1, 1) := by decide +kernel
theorem d_law_543 : decode code 543 = .ok (.aload_n 0, 1) := by decide +kernel
theorem d_law_544 : decode code 544 = .ok (.iload 4, 2) := by decide +kernel
theorem d_law_546 : decode code 546 = .ok (.iconst 1, 1) := by decide +kernel
theorem d_law_547 : decode code 547 = .ok (.iadd, 1) := by decide +kernel
theorem d_law_548 : decode code 548 = .ok (.iaload, 1) := by decide +kernel
theorem d_law_549 : decode code 549 = .ok (.aload_n 0, 1) := by decide +kernel
theorem d_law_550 : decode code 550 = .ok (.iload 4, 2) := by decide +kernel
theorem d_law_552 : decode code 552 = .ok (.iconst 2, 1) := by decide +kernel
theorem d_law_553 : decode code 553 = .ok (.iadd, 1) := by decide +kernel
theorem d_law_554 : decode code 554 = .ok (.iaload, 1) := by decide +kernel
theorem d_law_555 : decode code 555 = .ok (.ifCond .eq 7, 3) := by decide +kernel
theorem d_law_558 : decode code 558 = .ok (.iconst 1, 1) := by decide +kernel
theorem d_law_559 : decode code 559 = .ok (.goto 4, 3) := by decide +kernel
theorem d_law_562 : decode code 562 = .ok (.iconst 0, 1) := by decide +kernel
theorem d_law_563 : decode code 563 = .ok (.aload_n 3, 1) := by decide +kernel
theorem d_law_564 : decode code 564 = .ok (.invokestatic 110, 3) := by decide +kernel
theorem d_law_567 : decode code 567 = .ok (.istore 5, 2) := by decide +kernel
theorem d_law_569 : decode code 569 = .ok (.aload_n 2, 1) := by decide +kernel
theorem d_law_570 : decode code 570 = .ok (.aload_n 0, 1) := by decide +kernel
theorem d_law_571 : decode code 571 = .ok (.iload 4, 2) := by decide +kernel
theorem d_law_573 : decode code 573 = .ok (.iconst 1, 1) := by decide +kernel
theorem d_law_574 : decode code 574 = .ok (.iadd, 1) := by decide +kernel
theorem d_law_575 : decode code 575 = .ok (.iaload, 1) := by decide +kernel
theorem d_law_576 : decode code 576 = .ok (.aload_n 0, 1) := by decide +kernel
theorem d_law_577 : decode code 577 = .ok (.iload 4, 2) := by decide +kernel
theorem d_law_579 : decode code 579 = .ok (.iconst 2, 1) := by decide +kernel
theorem d_law_580 : decode code 580 = .ok (.iadd, 1) := by decide +kernel
theorem d_law_581 : decode code 581 = .ok (.iaload, 1) := by decide +kernel
theorem d_law_582 : decode code 582 = .ok (.ifCond .eq 7, 3) := by decide +kernel
theorem d_law_585 : decode code 585 = .ok (.iconst 1, 1) := by decide +kernel
theorem d_law_586 : decode code 586 = .ok (.goto 4, 3) := by decide +kernel
theorem d_law_589 : decode code 589 = .ok (.iconst 0, 1) := by decide +kernel
theorem d_law_590 : decode code 590 = .ok (.invokevirtual 113, 3) := by decide +kernel
theorem d_law_593 : decode code 593 = .ok (.istore 6, 2) := by decide +kernel
theorem d_law_595 : decode code 595 = .ok (.aload_n 2, 1) := by decide +kernel
theorem d_law_596 : decode code 596 = .ok (.invokevirtual 81, 3) := by decide +kernel
theorem d_law_599 : decode code 599 = .ok (.iload 5, 2) := by decide +kernel
theorem d_law_601 : decode code 601 = .ok (.if_icmp .eq 5, 3) := by decide +kernel
theorem d_law_604 : decode code 604 = .ok (.iconst 0, 1) := by decide +kernel
theorem d_law_605 : decode code 605 = .ok (.ireturn, 1) := by decide +kernel
theorem d_law_606 : decode code 606 = .ok (.iload 5, 2) := by decide +kernel
theorem d_law_608 : decode code 608 = .ok (.ifCond .ne 15, 3) := by decide +kernel
theorem d_law_611 : decode code 611 = .ok (.aload_n 3, 1) := by decide +kernel
theorem d_law_612 : decode code 612 = .ok (.iconst 0, 1) := by decide +kernel
theorem d_law_613 : decode code 613 = .ok (.laload, 1) := by decide +kernel
theorem d_law_614 : decode code 614 = .ok (.iload 6, 2) := by decide +kernel
theorem d_law_616 : decode code 616 = .ok (.i2l, 1) := by decide +kernel
theorem d_law_617 : decode code 617 = .ok (.lcmp, 1) := by decide +kernel
theorem d_law_618 : decode code 618 = .ok (.ifCond .eq 5, 3) := by decide +kernel
theorem d_law_621 : decode code 621 = .ok (.iconst 0, 1) := by decide +kernel
theorem d_law_622 : decode code 622 = .ok (.ireturn, 1) := by decide +kernel
theorem d_law_623 : decode code 623 = .ok (.goto 706, 3) := by decide +kernel
theorem d_law_626 : decode code 626 = .ok (.aload_n 1, 1) := by decide +kernel
theorem d_law_627 : decode code 627 = .ok (.aload_n 0, 1) := by decide +kernel
theorem d_law_628 : decode code 628 = .ok (.iload 4, 2) := by decide +kernel
theorem d_law_630 : decode code 630 = .ok (.iconst 1, 1) := by decide +kernel
theorem d_law_631 : decode code 631 = .ok (.iadd, 1) := by decide +kernel
theorem d_law_632 : decode code 632 = .ok (.iaload, 1) := by decide +kernel
theorem d_law_633 : decode code 633 = .ok (.aload_n 3, 1) := by decide +kernel
theorem d_law_634 : decode code 634 = .ok (.invokestatic 114, 3) := by decide +kernel
theorem d_law_637 : decode code 637 = .ok (.istore 5, 2) := by decide +kernel
theorem d_law_639 : decode code 639 = .ok (.aload_n 2, 1) := by decide +kernel
theorem d_law_640 : decode code 640 = .ok (.aload_n 0, 1) := by decide +kernel
theorem d_law_641 : decode code 641 = .ok (.iload 4, 2) := by decide +kernel
theorem d_law_643 : decode code 643 = .ok (.iconst 1, 1) := by decide +kernel
theorem d_law_644 : decode code 644 = .ok (.iadd, 1) := by decide +kernel
theorem d_law_645 : decode code 645 = .ok (.iaload, 1) := by decide +kernel
theorem d_law_646 : decode code 646 = .ok (.invokevirtual 116, 3) := by decide +kernel
theorem d_law_649 : decode code 649 = .ok (.istore 6, 2) := by decide +kernel
theorem d_law_651 : decode code 651 = .ok (.aload_n 2, 1) := by decide +kernel
theorem d_law_652 : decode code 652 = .ok (.invokevirtual 81, 3) := by decide +kernel
theorem d_law_655 : decode code 655 = .ok (.iload 5, 2) := by decide +kernel
theorem d_law_657 : decode code 657 = .ok (.if_icmp .eq 5, 3) := by decide +kernel
theorem d_law_660 : decode code 660 = .ok (.iconst 0, 1) := by decide +kernel
theorem d_law_661 : decode code 661 = .ok (.ireturn, 1) := by decide +kernel
theorem d_law_662 : decode code 662 = .ok (.iload 5, 2) := by decide +kernel
theorem d_law_664 : decode code 664 = .ok (.ifCond .ne 15, 3) := by decide +kernel
theorem d_law_667 : decode code 667 = .ok (.aload_n 3, 1) := by decide +kernel
theorem d_law_668 : decode code 668 = .ok (.iconst 0, 1) := by decide +kernel
theorem d_law_669 : decode code 669 = .ok (.laload, 1) := by decide +kernel
theorem d_law_670 : decode code 670 = .ok (.iload 6, 2) := by decide +kernel
theorem d_law_672 : decode code 672 = .ok (.i2l, 1) := by decide +kernel
theorem d_law_673 : decode code 673 = .ok (.lcmp, 1) := by decide +kernel
theorem d_law_674 : decode code 674 = .ok (.ifCond .eq 5, 3) := by decide +kernel
theorem d_law_677 : decode code 677 = .ok (.iconst 0, 1) := by decide +kernel
theorem d_law_678 : decode code 678 = .ok (.ireturn, 1) := by decide +kernel
theorem d_law_679 : decode code 679 = .ok (.goto 650, 3) := by decide +kernel
theorem d_law_682 : decode code 682 = .ok (.aload_n 1, 1) := by decide +kernel
theorem d_law_683 : decode code 683 = .ok (.aload_n 0, 1) := by decide +kernel
theorem d_law_684 : decode code 684 = .ok (.iload 4, 2) := by decide +kernel
theorem d_law_686 : decode code 686 = .ok (.iconst 1, 1) := by decide +kernel
theorem d_law_687 : decode code 687 = .ok (.iadd, 1) := by decide +kernel
theorem d_law_688 : decode code 688 = .ok (.iaload, 1) := by decide +kernel
theorem d_law_689 : decode code 689 = .ok (.aload_n 3, 1) := by decide +kernel
theorem d_law_690 : decode code 690 = .ok (.invokestatic 117, 3) := by decide +kernel
theorem d_law_693 : decode code 693 = .ok (.istore 5, 2) := by decide +kernel
theorem d_law_695 : decode code 695 = .ok (.aload_n 2, 1) := by decide +kernel
theorem d_law_696 : decode code 696 = .ok (.aload_n 0, 1) := by decide +kernel
theorem d_law_697 : decode code 697 = .ok (.iload 4, 2) := by decide +kernel
theorem d_law_699 : decode code 699 = .ok (.iconst 1, 1) := by decide +kernel
theorem d_law_700 : decode code 700 = .ok (.iadd, 1) := by decide +kernel
theorem d_law_701 : decode code 701 = .ok (.iaload, 1) := by decide +kernel
theorem d_law_702 : decode code 702 = .ok (.invokevirtual 119, 3) := by decide +kernel
theorem d_law_705 : decode code 705 = .ok (.istore 6, 2) := by decide +kernel
theorem d_law_707 : decode code 707 = .ok (.aload_n 2, 1) := by decide +kernel
theorem d_law_708 : decode code 708 = .ok (.invokevirtual 81, 3) := by decide +kernel
theorem d_law_711 : decode code 711 = .ok (.iload 5, 2) := by decide +kernel
theorem d_law_713 : decode code 713 = .ok (.if_icmp .eq 5, 3) := by decide +kernel
theorem d_law_716 : decode code 716 = .ok (.iconst 0, 1) := by decide +kernel
theorem d_law_717 : decode code 717 = .ok (.ireturn, 1) := by decide +kernel
theorem d_law_718 : decode code 718 = .ok (.iload 5, 2) := by decide +kernel
theorem d_law_720 : decode code 720 = .ok (.ifCond .ne 15, 3) := by decide +kernel
theorem d_law_723 : decode code 723 = .ok (.aload_n 3, 1) := by decide +kernel
theorem d_law_724 : decode code 724 = .ok (.iconst 0, 1) := by decide +kernel
theorem d_law_725 : decode code 725 = .ok (.laload, 1) := by decide +kernel
theorem d_law_726 : decode code 726 = .ok (.iload 6, 2) := by decide +kernel
theorem d_law_728 : decode code 728 = .ok (.i2l, 1) := by decide +kernel
theorem d_law_729 : decode code 729 = .ok (.lcmp, 1) := by decide +kernel
theorem d_law_730 : decode code 730 = .ok (.ifCond .eq 5, 3) := by decide +kernel
theorem d_law_733 : decode code 733 = .ok (.iconst 0, 1) := by decide +kernel
theorem d_law_734 : decode code 734 = .ok (.ireturn, 1) := by decide +kernel
theorem d_law_735 : decode code 735 = .ok (.goto 594, 3) := by decide +kernel
theorem d_law_738 : decode code 738 = .ok (.aload_n 1, 1) := by decide +kernel
theorem d_law_739 : decode code 739 = .ok (.invokevirtual 120, 3) := by decide +kernel
theorem d_law_742 : decode code 742 = .ok (.aload_n 2, 1) := by decide +kernel
theorem d_law_743 : decode code 743 = .ok (.invokevirtual 123, 3) := by decide +kernel
theorem d_law_746 : decode code 746 = .ok (.if_icmp .eq 583, 3) := by decide +kernel
theorem d_law_749 : decode code 749 = .ok (.iconst 0, 1) := by decide +kernel
theorem d_law_750 : decode code 750 = .ok (.ireturn, 1) := by decide +kernel
theorem d_law_751 : decode code 751 = .ok (.aload_n 1, 1) := by decide +kernel
theorem d_law_752 : decode code 752 = .ok (.invokevirtual 124, 3) := by decide +kernel
theorem d_law_755 : decode code 755 = .ok (.aload_n 2, 1) := by decide +kernel
theorem d_law_756 : decode code 756 = .ok (.invokevirtual 127, 3) := by decide +kernel
theorem d_law_759 : decode code 759 = .ok (.if_icmp .eq 570, 3) := by decide +kernel
theorem d_law_762 : decode code 762 = .ok (.iconst 0, 1) := by decide +kernel
theorem d_law_763 : decode code 763 = .ok (.ireturn, 1) := by decide +kernel
theorem d_law_764 : decode code 764 = .ok (.aload_n 1, 1) := by decide +kernel
theorem d_law_765 : decode code 765 = .ok (.invokevirtual 128, 3) := by decide +kernel
theorem d_law_768 : decode code 768 = .ok (.aload_n 2, 1) := by decide +kernel
theorem d_law_769 : decode code 769 = .ok (.invokevirtual 131, 3) := by decide +kernel
theorem d_law_772 : decode code 772 = .ok (.if_icmp .eq 557, 3) := by decide +kernel
theorem d_law_775 : decode code 775 = .ok (.iconst 0, 1) := by decide +kernel
theorem d_law_776 : decode code 776 = .ok (.ireturn, 1) := by decide +kernel
theorem d_law_777 : decode code 777 = .ok (.aload_n 1, 1) := by decide +kernel
theorem d_law_778 : decode code 778 = .ok (.aload_n 0, 1) := by decide +kernel
theorem d_law_779 : decode code 779 = .ok (.iload 4, 2) := by decide +kernel
theorem d_law_781 : decode code 781 = .ok (.iconst 1, 1) := by decide +kernel
theorem d_law_782 : decode code 782 = .ok (.iadd, 1) := by decide +kernel
theorem d_law_783 : decode code 783 = .ok (.iaload, 1) := by decide +kernel
theorem d_law_784 : decode code 784 = .ok (.ifCond .eq 7, 3) := by decide +kernel
theorem d_law_787 : decode code 787 = .ok (.iconst 1, 1) := by decide +kernel
theorem d_law_788 : decode code 788 = .ok (.goto 4, 3) := by decide +kernel
theorem d_law_791 : decode code 791 = .ok (.iconst 0, 1) := by decide +kernel
theorem d_law_792 : decode code 792 = .ok (.invokevirtual 132, 3) := by decide +kernel
theorem d_law_795 : decode code 795 = .ok (.aload_n 2, 1) := by decide +kernel
theorem d_law_796 : decode code 796 = .ok (.aload_n 0, 1) := by decide +kernel
theorem d_law_797 : decode code 797 = .ok (.iload 4, 2) := by decide +kernel
theorem d_law_799 : decode code 799 = .ok (.iconst 1, 1) := by decide +kernel
theorem d_law_800 : decode code 800 = .ok (.iadd, 1) := by decide +kernel
theorem d_law_801 : decode code 801 = .ok (.iaload, 1) := by decide +kernel
theorem d_law_802 : decode code 802 = .ok (.ifCond .eq 7, 3) := by decide +kernel
theorem d_law_805 : decode code 805 = .ok (.iconst 1, 1) := by decide +kernel
theorem d_law_806 : decode code 806 = .ok (.goto 4, 3) := by decide +kernel
theorem d_law_809 : decode code 809 = .ok (.iconst 0, 1) := by decide +kernel
theorem d_law_810 : decode code 810 = .ok (.invokevirtual 136, 3) := by decide +kernel
theorem d_law_813 : decode code 813 = .ok (.if_icmp .eq 516, 3) := by decide +kernel
theorem d_law_816 : decode code 816 = .ok (.iconst 0, 1) := by decide +kernel
theorem d_law_817 : decode code 817 = .ok (.ireturn, 1) := by decide +kernel
theorem d_law_818 : decode code 818 = .ok (.aload_n 1, 1) := by decide +kernel
theorem d_law_819 : decode code 819 = .ok (.aload_n 0, 1) := by decide +kernel
theorem d_law_820 : decode code 820 = .ok (.iload 4, 2) := by decide +kernel
theorem d_law_822 : decode code 822 = .ok (.iconst 1, 1) := by decide +kernel
theorem d_law_823 : decode code 823 = .ok (.iadd, 1) := by decide +kernel
theorem d_law_824 : decode code 824 = .ok (.iaload, 1) := by decide +kernel
theorem d_law_825 : decode code 825 = .ok (.aload_n 3, 1) := by decide +kernel
theorem d_law_826 : decode code 826 = .ok (.invokestatic 137, 3) := by decide +kernel
theorem d_law_829 : decode code 829 = .ok (.istore 5, 2) := by decide +kernel
theorem d_law_831 : decode code 831 = .ok (.aload_n 2, 1) := by decide +kernel
theorem d_law_832 : decode code 832 = .ok (.aload_n 0, 1) := by decide +kernel
theorem d_law_833 : decode code 833 = .ok (.iload 4, 2) := by decide +kernel
theorem d_law_835 : decode code 835 = .ok (.iconst 1, 1) := by decide +kernel
theorem d_law_836 : decode code 836 = .ok (.iadd, 1) := by decide +kernel
theorem d_law_837 : decode code 837 = .ok (.iaload, 1) := by decide +kernel
theorem d_law_838 : decode code 838 = .ok (.invokevirtual 139, 3) := by decide +kernel
theorem d_law_841 : decode code 841 = .ok (.istore 6, 2) := by decide +kernel
theorem d_law_843 : decode code 843 = .ok (.aload_n 2, 1) := by decide +kernel
theorem d_law_844 : decode code 844 = .ok (.invokevirtual 81, 3) := by decide +kernel
theorem d_law_847 : decode code 847 = .ok (.iload 5, 2) := by decide +kernel
theorem d_law_849 : decode code 849 = .ok (.if_icmp .eq 5, 3) := by decide +kernel
theorem d_law_852 : decode code 852 = .ok (.iconst 0, 1) := by decide +kernel
theorem d_law_853 : decode code 853 = .ok (.ireturn, 1) := by decide +kernel
theorem d_law_854 : decode code 854 = .ok (.iload 5, 2) := by decide +kernel
theorem d_law_856 : decode code 856 = .ok (.ifCond .ne 15, 3) := by decide +kernel
theorem d_law_859 : decode code 859 = .ok (.aload_n 3, 1) := by decide +kernel
theorem d_law_860 : decode code 860 = .ok (.iconst 0, 1) := by decide +kernel
theorem d_law_861 : decode code 861 = .ok (.laload, 1) := by decide +kernel
theorem d_law_862 : decode code 862 = .ok (.iload 6, 2) := by decide +kernel
theorem d_law_864 : decode code 864 = .ok (.i2l, 1) := by decide +kernel
theorem d_law_865 : decode code 865 = .ok (.lcmp, 1) := by decide +kernel
theorem d_law_866 : decode code 866 = .ok (.ifCond .eq 5, 3) := by decide +kernel
theorem d_law_869 : decode code 869 = .ok (.iconst 0, 1) := by decide +kernel
theorem d_law_870 : decode code 870 = .ok (.ireturn, 1) := by decide +kernel
theorem d_law_871 : decode code 871 = .ok (.goto 458, 3) := by decide +kernel
theorem d_law_874 : decode code 874 = .ok (.aload_n 1, 1) := by decide +kernel
theorem d_law_875 : decode code 875 = .ok (.invokevirtual 140, 3) := by decide +kernel
theorem d_law_878 : decode code 878 = .ok (.aload_n 2, 1) := by decide +kernel
theorem d_law_879 : decode code 879 = .ok (.invokevirtual 143, 3) := by decide +kernel
theorem d_law_882 : decode code 882 = .ok (.if_icmp .eq 447, 3) := by decide +kernel
theorem d_law_885 : decode code 885 = .ok (.iconst 0, 1) := by decide +kernel
theorem d_law_886 : decode code 886 = .ok (.ireturn, 1) := by decide +kernel
theorem d_law_887 : decode code 887 = .ok (.aload_n 1, 1) := by decide +kernel
theorem d_law_888 : decode code 888 = .ok (.invokevirtual 144, 3) := by decide +kernel
theorem d_law_891 : decode code 891 = .ok (.aload_n 2, 1) := by decide +kernel
theorem d_law_892 : decode code 892 = .ok (.invokevirtual 147, 3) := by decide +kernel
theorem d_law_895 : decode code 895 = .ok (.if_icmp .eq 434, 3) := by decide +kernel
theorem d_law_898 : decode code 898 = .ok (.iconst 0, 1) := by decide +kernel
theorem d_law_899 : decode code 899 = .ok (.ireturn, 1) := by decide +kernel
theorem d_law_900 : decode code 900 = .ok (.aload_n 1, 1) := by decide +kernel
theorem d_law_901 : decode code 901 = .ok (.aload_n 0, 1) := by decide +kernel
theorem d_law_902 : decode code 902 = .ok (.iload 4, 2) := by decide +kernel
theorem d_law_904 : decode code 904 = .ok (.iconst 1, 1) := by decide +kernel
theorem d_law_905 : decode code 905 = .ok (.iadd, 1) := by decide +kernel
theorem d_law_906 : decode code 906 = .ok (.iaload, 1) := by decide +kernel
theorem d_law_907 : decode code 907 = .ok (.aload_n 3, 1) := by decide +kernel
theorem d_law_908 : decode code 908 = .ok (.invokestatic 148, 3) := by decide +kernel
theorem d_law_911 : decode code 911 = .ok (.istore 5, 2) := by decide +kernel
theorem d_law_913 : decode code 913 = .ok (.aload_n 2, 1) := by decide +kernel
theorem d_law_914 : decode code 914 = .ok (.aload_n 0, 1) := by decide +kernel
theorem d_law_915 : decode code 915 = .ok (.iload 4, 2) := by decide +kernel
theorem d_law_917 : decode code 917 = .ok (.iconst 1, 1) := by decide +kernel
theorem d_law_918 : decode code 918 = .ok (.iadd, 1) := by decide +kernel
theorem d_law_919 : decode code 919 = .ok (.iaload, 1) := by decide +kernel
theorem d_law_920 : decode code 920 = .ok (.invokevirtual 150, 3) := by decide +kernel
theorem d_law_923 : decode code 923 = .ok (.istore 6, 2) := by decide +kernel
theorem d_law_925 : decode code 925 = .ok (.aload_n 2, 1) := by decide +kernel
theorem d_law_926 : decode code 926 = .ok (.invokevirtual 81, 3) := by decide +kernel
theorem d_law_929 : decode code 929 = .ok (.iload 5, 2) := by decide +kernel
theorem d_law_931 : decode code 931 = .ok (.if_icmp .eq 5, 3) := by decide +kernel
theorem d_law_934 : decode code 934 = .ok (.iconst 0, 1) := by decide +kernel
theorem d_law_935 : decode code 935 = .ok (.ireturn, 1) := by decide +kernel
theorem d_law_936 : decode code 936 = .ok (.iload 5, 2) := by decide +kernel
theorem d_law_938 : decode code 938 = .ok (.ifCond .ne 15, 3) := by decide +kernel
theorem d_law_941 : decode code 941 = .ok (.aload_n 3, 1) := by decide +kernel
theorem d_law_942 : decode code 942 = .ok (.iconst 0, 1) := by decide +kernel
theorem d_law_943 : decode code 943 = .ok (.laload, 1) := by decide +kernel
theorem d_law_944 : decode code 944 = .ok (.iload 6, 2) := by decide +kernel
theorem d_law_946 : decode code 946 = .ok (.i2l, 1) := by decide +kernel
theorem d_law_947 : decode code 947 = .ok (.lcmp, 1) := by decide +kernel
theorem d_law_948 : decode code 948 = .ok (.ifCond .eq 5, 3) := by decide +kernel
theorem d_law_951 : decode code 951 = .ok (.iconst 0, 1) := by decide +kernel
theorem d_law_952 : decode code 952 = .ok (.ireturn, 1) := by decide +kernel
theorem d_law_953 : decode code 953 = .ok (.goto 376, 3) := by decide +kernel
theorem d_law_956 : decode code 956 = .ok (.aload_n 1, 1) := by decide +kernel
theorem d_law_957 : decode code 957 = .ok (.aload_n 0, 1) := by decide +kernel
theorem d_law_958 : decode code 958 = .ok (.iload 4, 2) := by decide +kernel
theorem d_law_960 : decode code 960 = .ok (.iconst 1, 1) := by decide +kernel
theorem d_law_961 : decode code 961 = .ok (.iadd, 1) := by decide +kernel
theorem d_law_962 : decode code 962 = .ok (.iaload, 1) := by decide +kernel
theorem d_law_963 : decode code 963 = .ok (.aload_n 3, 1) := by decide +kernel
theorem d_law_964 : decode code 964 = .ok (.invokestatic 151, 3) := by decide +kernel
theorem d_law_967 : decode code 967 = .ok (.istore 5, 2) := by decide +kernel
theorem d_law_969 : decode code 969 = .ok (.aload_n 2, 1) := by decide +kernel
theorem d_law_970 : decode code 970 = .ok (.aload_n 0, 1) := by decide +kernel
theorem d_law_971 : decode code 971 = .ok (.iload 4, 2) := by decide +kernel
theorem d_law_973 : decode code 973 = .ok (.iconst 1, 1) := by decide +kernel
theorem d_law_974 : decode code 974 = .ok (.iadd, 1) := by decide +kernel
theorem d_law_975 : decode code 975 = .ok (.iaload, 1) := by decide +kernel
theorem d_law_976 : decode code 976 = .ok (.invokevirtual 153, 3) := by decide +kernel
theorem d_law_979 : decode code 979 = .ok (.istore 6, 2) := by decide +kernel
theorem d_law_981 : decode code 981 = .ok (.aload_n 2, 1) := by decide +kernel
theorem d_law_982 : decode code 982 = .ok (.invokevirtual 81, 3) := by decide +kernel
theorem d_law_985 : decode code 985 = .ok (.iload 5, 2) := by decide +kernel
theorem d_law_987 : decode code 987 = .ok (.if_icmp .eq 5, 3) := by decide +kernel
theorem d_law_990 : decode code 990 = .ok (.iconst 0, 1) := by decide +kernel
theorem d_law_991 : decode code 991 = .ok (.ireturn, 1) := by decide +kernel
theorem d_law_992 : decode code 992 = .ok (.iload 5, 2) := by decide +kernel
theorem d_law_994 : decode code 994 = .ok (.ifCond .ne 15, 3) := by decide +kernel
theorem d_law_997 : decode code 997 = .ok (.aload_n 3, 1) := by decide +kernel
theorem d_law_998 : decode code 998 = .ok (.iconst 0, 1) := by decide +kernel
theorem d_law_999 : decode code 999 = .ok (.laload, 1) := by decide +kernel
theorem d_law_1000 : decode code 1000 = .ok (.iload 6, 2) := by decide +kernel
theorem d_law_1002 : decode code 1002 = .ok (.i2l, 1) := by decide +kernel
theorem d_law_1003 : decode code 1003 = .ok (.lcmp, 1) := by decide +kernel
theorem d_law_1004 : decode code 1004 = .ok (.ifCond .eq 5, 3) := by decide +kernel
theorem d_law_1007 : decode code 1007 = .ok (.iconst 0, 1) := by decide +kernel
theorem d_law_1008 : decode code 1008 = .ok (.ireturn, 1) := by decide +kernel
theorem d_law_1009 : decode code 1009 = .ok (.goto 320, 3) := by decide +kernel
theorem d_law_1012 : decode code 1012 = .ok (.aload_n 1, 1) := by decide +kernel
theorem d_law_1013 : decode code 1013 = .ok (.aload_n 0, 1) := by decide +kernel
theorem d_law_1014 : decode code 1014 = .ok (.iload 4, 2) := by decide +kernel
theorem d_law_1016 : decode code 1016 = .ok (.iconst 1, 1) := by decide +kernel
theorem d_law_1017 : decode code 1017 = .ok (.iadd, 1) := by decide +kernel
theorem d_law_1018 : decode code 1018 = .ok (.iaload, 1) := by decide +kernel
theorem d_law_1019 : decode code 1019 = .ok (.aload_n 0, 1) := by decide +kernel
theorem d_law_1020 : decode code 1020 = .ok (.iload 4, 2) := by decide +kernel
theorem d_law_1022 : decode code 1022 = .ok (.iconst 2, 1) := by decide +kernel
theorem d_law_1023 : decode code 1023 = .ok (.iadd, 1) := by decide +kernel
theorem d_law_1024 : decode code 1024 = .ok (.iaload, 1) := by decide +kernel
theorem d_law_1025 : decode code 1025 = .ok (.aload_n 0, 1) := by decide +kernel
theorem d_law_1026 : decode code 1026 = .ok (.iload 4, 2) := by decide +kernel
theorem d_law_1028 : decode code 1028 = .ok (.iconst 3, 1) := by decide +kernel
theorem d_law_1029 : decode code 1029 = .ok (.iadd, 1) := by decide +kernel
theorem d_law_1030 : decode code 1030 = .ok (.iaload, 1) := by decide +kernel
theorem d_law_1031 : decode code 1031 = .ok (.aload_n 3, 1) := by decide +kernel
theorem d_law_1032 : decode code 1032 = .ok (.invokestatic 154, 3) := by decide +kernel
theorem d_law_1035 : decode code 1035 = .ok (.istore 5, 2) := by decide +kernel
theorem d_law_1037 : decode code 1037 = .ok (.aload_n 2, 1) := by decide +kernel
theorem d_law_1038 : decode code 1038 = .ok (.aload_n 0, 1) := by decide +kernel
theorem d_law_1039 : decode code 1039 = .ok (.iload 4, 2) := by decide +kernel
theorem d_law_1041 : decode code 1041 = .ok (.iconst 1, 1) := by decide +kernel
theorem d_law_1042 : decode code 1042 = .ok (.iadd, 1) := by decide +kernel
theorem d_law_1043 : decode code 1043 = .ok (.iaload, 1) := by decide +kernel
theorem d_law_1044 : decode code 1044 = .ok (.aload_n 0, 1) := by decide +kernel
theorem d_law_1045 : decode code 1045 = .ok (.iload 4, 2) := by decide +kernel
theorem d_law_1047 : decode code 1047 = .ok (.iconst 2, 1) := by decide +kernel
theorem d_law_1048 : decode code 1048 = .ok (.iadd, 1) := by decide +kernel
theorem d_law_1049 : decode code 1049 = .ok (.iaload, 1) := by decide +kernel
theorem d_law_1050 : decode code 1050 = .ok (.aload_n 0, 1) := by decide +kernel
theorem d_law_1051 : decode code 1051 = .ok (.iload 4, 2) := by decide +kernel
theorem d_law_1053 : decode code 1053 = .ok (.iconst 3, 1) := by decide +kernel
theorem d_law_1054 : decode code 1054 = .ok (.iadd, 1) := by decide +kernel
theorem d_law_1055 : decode code 1055 = .ok (.iaload, 1) := by decide +kernel
theorem d_law_1056 : decode code 1056 = .ok (.invokevirtual 156, 3) := by decide +kernel
theorem d_law_1059 : decode code 1059 = .ok (.istore 6, 2) := by decide +kernel
theorem d_law_1061 : decode code 1061 = .ok (.aload_n 2, 1) := by decide +kernel
theorem d_law_1062 : decode code 1062 = .ok (.invokevirtual 81, 3) := by decide +kernel
theorem d_law_1065 : decode code 1065 = .ok (.iload 5, 2) := by decide +kernel
theorem d_law_1067 : decode code 1067 = .ok (.if_icmp .eq 5, 3) := by decide +kernel
theorem d_law_1070 : decode code 1070 = .ok (.iconst 0, 1) := by decide +kernel
theorem d_law_1071 : decode code 1071 = .ok (.ireturn, 1) := by decide +kernel
theorem d_law_1072 : decode code 1072 = .ok (.iload 5, 2) := by decide +kernel
theorem d_law_1074 : decode code 1074 = .ok (.ifCond .ne 15, 3) := by decide +kernel
theorem d_law_1077 : decode code 1077 = .ok (.aload_n 3, 1) := by decide +kernel
theorem d_law_1078 : decode code 1078 = .ok (.iconst 0, 1) := by decide +kernel
theorem d_law_1079 : decode code 1079 = .ok (.laload, 1) := by decide +kernel
theorem d_law_1080 : decode code 1080 = .ok (.iload 6, 2) := by decide +kernel
theorem d_law_1082 : decode code 1082 = .ok (.i2l, 1) := by decide +kernel
theorem d_law_1083 : decode code 1083 = .ok (.lcmp, 1) := by decide +kernel
theorem d_law_1084 : decode code 1084 = .ok (.ifCond .eq 5, 3) := by decide +kernel
theorem d_law_1087 : decode code 1087 = .ok (.iconst 0, 1) := by decide +kernel
theorem d_law_1088 : decode code 1088 = .ok (.ireturn, 1) := by decide +kernel
theorem d_law_1089 : decode code 1089 = .ok (.goto 240, 3) := by decide +kernel
theorem d_law_1092 : decode code 1092 = .ok (.aload_n 1, 1) := by decide +kernel
theorem d_law_1093 : decode code 1093 = .ok (.aload_n 0, 1) := by decide +kernel
theorem d_law_1094 : decode code 1094 = .ok (.iload 4, 2) := by decide +kernel
theorem d_law_1096 : decode code 1096 = .ok (.iconst 1, 1) := by decide +kernel
theorem d_law_1097 : decode code 1097 = .ok (.iadd, 1) := by decide +kernel
theorem d_law_1098 : decode code 1098 = .ok (.iaload, 1) := by decide +kernel
theorem d_law_1099 : decode code 1099 = .ok (.aload_n 3, 1) := by decide +kernel
theorem d_law_1100 : decode code 1100 = .ok (.invokestatic 157, 3) := by decide +kernel
theorem d_law_1103 : decode code 1103 = .ok (.istore 5, 2) := by decide +kernel
theorem d_law_1105 : decode code 1105 = .ok (.aload_n 2, 1) := by decide +kernel
theorem d_law_1106 : decode code 1106 = .ok (.aload_n 0, 1) := by decide +kernel
theorem d_law_1107 : decode code 1107 = .ok (.iload 4, 2) := by decide +kernel
theorem d_law_1109 : decode code 1109 = .ok (.iconst 1, 1) := by decide +kernel
theorem d_law_1110 : decode code 1110 = .ok (.iadd, 1) := by decide +kernel
theorem d_law_1111 : decode code 1111 = .ok (.iaload, 1) := by decide +kernel
theorem d_law_1112 : decode code 1112 = .ok (.invokevirtual 159, 3) := by decide +kernel
theorem d_law_1115 : decode code 1115 = .ok (.istore 6, 2) := by decide +kernel
theorem d_law_1117 : decode code 1117 = .ok (.aload_n 2, 1) := by decide +kernel
theorem d_law_1118 : decode code 1118 = .ok (.invokevirtual 81, 3) := by decide +kernel
theorem d_law_1121 : decode code 1121 = .ok (.iload 5, 2) := by decide +kernel
theorem d_law_1123 : decode code 1123 = .ok (.if_icmp .eq 5, 3) := by decide +kernel
theorem d_law_1126 : decode code 1126 = .ok (.iconst 0, 1) := by decide +kernel
theorem d_law_1127 : decode code 1127 = .ok (.ireturn, 1) := by decide +kernel
theorem d_law_1128 : decode code 1128 = .ok (.iload 5, 2) := by decide +kernel
theorem d_law_1130 : decode code 1130 = .ok (.ifCond .ne 15, 3) := by decide +kernel
theorem d_law_1133 : decode code 1133 = .ok (.aload_n 3, 1) := by decide +kernel
theorem d_law_1134 : decode code 1134 = .ok (.iconst 0, 1) := by decide +kernel
theorem d_law_1135 : decode code 1135 = .ok (.laload, 1) := by decide +kernel
theorem d_law_1136 : decode code 1136 = .ok (.iload 6, 2) := by decide +kernel
theorem d_law_1138 : decode code 1138 = .ok (.i2l, 1) := by decide +kernel
theorem d_law_1139 : decode code 1139 = .ok (.lcmp, 1) := by decide +kernel
theorem d_law_1140 : decode code 1140 = .ok (.ifCond .eq 5, 3) := by decide +kernel
theorem d_law_1143 : decode code 1143 = .ok (.iconst 0, 1) := by decide +kernel
theorem d_law_1144 : decode code 1144 = .ok (.ireturn, 1) := by decide +kernel
theorem d_law_1145 : decode code 1145 = .ok (.goto 184, 3) := by decide +kernel
theorem d_law_1148 : decode code 1148 = .ok (.aload_n 1, 1) := by decide +kernel
theorem d_law_1149 : decode code 1149 = .ok (.aload_n 0, 1) := by decide +kernel
theorem d_law_1150 : decode code 1150 = .ok (.iload 4, 2) := by decide +kernel
theorem d_law_1152 : decode code 1152 = .ok (.iconst 1, 1) := by decide +kernel
theorem d_law_1153 : decode code 1153 = .ok (.iadd, 1) := by decide +kernel
theorem d_law_1154 : decode code 1154 = .ok (.iaload, 1) := by decide +kernel
theorem d_law_1155 : decode code 1155 = .ok (.aload_n 3, 1) := by decide +kernel
theorem d_law_1156 : decode code 1156 = .ok (.invokestatic 160, 3) := by decide +kernel
theorem d_law_1159 : decode code 1159 = .ok (.istore 5, 2) := by decide +kernel
theorem d_law_1161 : decode code 1161 = .ok (.aload_n 2, 1) := by decide +kernel
theorem d_law_1162 : decode code 1162 = .ok (.aload_n 0, 1) := by decide +kernel
theorem d_law_1163 : decode code 1163 = .ok (.iload 4, 2) := by decide +kernel
theorem d_law_1165 : decode code 1165 = .ok (.iconst 1, 1) := by decide +kernel
theorem d_law_1166 : decode code 1166 = .ok (.iadd, 1) := by decide +kernel
theorem d_law_1167 : decode code 1167 = .ok (.iaload, 1) := by decide +kernel
theorem d_law_1168 : decode code 1168 = .ok (.invokevirtual 162, 3) := by decide +kernel
theorem d_law_1171 : decode code 1171 = .ok (.istore 6, 2) := by decide +kernel
theorem d_law_1173 : decode code 1173 = .ok (.aload_n 2, 1) := by decide +kernel
theorem d_law_1174 : decode code 1174 = .ok (.invokevirtual 81, 3) := by decide +kernel
theorem d_law_1177 : decode code 1177 = .ok (.iload 5, 2) := by decide +kernel
theorem d_law_1179 : decode code 1179 = .ok (.if_icmp .eq 5, 3) := by decide +kernel
theorem d_law_1182 : decode code 1182 = .ok (.iconst 0, 1) := by decide +kernel
theorem d_law_1183 : decode code 1183 = .ok (.ireturn, 1) := by decide +kernel
theorem d_law_1184 : decode code 1184 = .ok (.iload 5, 2) := by decide +kernel
theorem d_law_1186 : decode code 1186 = .ok (.ifCond .ne 15, 3) := by decide +kernel
theorem d_law_1189 : decode code 1189 = .ok (.aload_n 3, 1) := by decide +kernel
theorem d_law_1190 : decode code 1190 = .ok (.iconst 0, 1) := by decide +kernel
theorem d_law_1191 : decode code 1191 = .ok (.laload, 1) := by decide +kernel
theorem d_law_1192 : decode code 1192 = .ok (.iload 6, 2) := by decide +kernel
theorem d_law_1194 : decode code 1194 = .ok (.i2l, 1) := by decide +kernel
theorem d_law_1195 : decode code 1195 = .ok (.lcmp, 1) := by decide +kernel
theorem d_law_1196 : decode code 1196 = .ok (.ifCond .eq 5, 3) := by decide +kernel
theorem d_law_1199 : decode code 1199 = .ok (.iconst 0, 1) := by decide +kernel
theorem d_law_1200 : decode code 1200 = .ok (.ireturn, 1) := by decide +kernel
theorem d_law_1201 : decode code 1201 = .ok (.goto 128, 3) := by decide +kernel
theorem d_law_1204 : decode code 1204 = .ok (.aload_n 1, 1) := by decide +kernel
theorem d_law_1205 : decode code 1205 = .ok (.aload_n 0, 1) := by decide +kernel
theorem d_law_1206 : decode code 1206 = .ok (.iload 4, 2) := by decide +kernel
theorem d_law_1208 : decode code 1208 = .ok (.iconst 1, 1) := by decide +kernel
theorem d_law_1209 : decode code 1209 = .ok (.iadd, 1) := by decide +kernel
theorem d_law_1210 : decode code 1210 = .ok (.iaload, 1) := by decide +kernel
theorem d_law_1211 : decode code 1211 = .ok (.aload_n 3, 1) := by decide +kernel
theorem d_law_1212 : decode code 1212 = .ok (.invokestatic 163, 3) := by decide +kernel
theorem d_law_1215 : decode code 1215 = .ok (.istore 5, 2) := by decide +kernel
theorem d_law_1217 : decode code 1217 = .ok (.aload_n 2, 1) := by decide +kernel
theorem d_law_1218 : decode code 1218 = .ok (.aload_n 0, 1) := by decide +kernel
theorem d_law_1219 : decode code 1219 = .ok (.iload 4, 2) := by decide +kernel
theorem d_law_1221 : decode code 1221 = .ok (.iconst 1, 1) := by decide +kernel
theorem d_law_1222 : decode code 1222 = .ok (.iadd, 1) := by decide +kernel
theorem d_law_1223 : decode code 1223 = .ok (.iaload, 1) := by decide +kernel
theorem d_law_1224 : decode code 1224 = .ok (.invokevirtual 165, 3) := by decide +kernel
theorem d_law_1227 : decode code 1227 = .ok (.istore 6, 2) := by decide +kernel
theorem d_law_1229 : decode code 1229 = .ok (.aload_n 2, 1) := by decide +kernel
theorem d_law_1230 : decode code 1230 = .ok (.invokevirtual 81, 3) := by decide +kernel
theorem d_law_1233 : decode code 1233 = .ok (.iload 5, 2) := by decide +kernel
theorem d_law_1235 : decode code 1235 = .ok (.if_icmp .eq 5, 3) := by decide +kernel
theorem d_law_1238 : decode code 1238 = .ok (.iconst 0, 1) := by decide +kernel
theorem d_law_1239 : decode code 1239 = .ok (.ireturn, 1) := by decide +kernel
theorem d_law_1240 : decode code 1240 = .ok (.iload 5, 2) := by decide +kernel
theorem d_law_1242 : decode code 1242 = .ok (.ifCond .ne 15, 3) := by decide +kernel
theorem d_law_1245 : decode code 1245 = .ok (.aload_n 3, 1) := by decide +kernel
theorem d_law_1246 : decode code 1246 = .ok (.iconst 0, 1) := by decide +kernel
theorem d_law_1247 : decode code 1247 = .ok (.laload, 1) := by decide +kernel
theorem d_law_1248 : decode code 1248 = .ok (.iload 6, 2) := by decide +kernel
theorem d_law_1250 : decode code 1250 = .ok (.i2l, 1) := by decide +kernel
theorem d_law_1251 : decode code 1251 = .ok (.lcmp, 1) := by decide +kernel
theorem d_law_1252 : decode code 1252 = .ok (.ifCond .eq 5, 3) := by decide +kernel
theorem d_law_1255 : decode code 1255 = .ok (.iconst 0, 1) := by decide +kernel
theorem d_law_1256 : decode code 1256 = .ok (.ireturn, 1) := by decide +kernel
theorem d_law_1257 : decode code 1257 = .ok (.goto 72, 3) := by decide +kernel
theorem d_law_1260 : decode code 1260 = .ok (.aload_n 1, 1) := by decide +kernel
theorem d_law_1261 : decode code 1261 = .ok (.aload_n 0, 1) := by decide +kernel
theorem d_law_1262 : decode code 1262 = .ok (.iload 4, 2) := by decide +kernel
theorem d_law_1264 : decode code 1264 = .ok (.iconst 1, 1) := by decide +kernel
theorem d_law_1265 : decode code 1265 = .ok (.iadd, 1) := by decide +kernel
theorem d_law_1266 : decode code 1266 = .ok (.iaload, 1) := by decide +kernel
theorem d_law_1267 : decode code 1267 = .ok (.aload_n 3, 1) := by decide +kernel
theorem d_law_1268 : decode code 1268 = .ok (.invokestatic 166, 3) := by decide +kernel
theorem d_law_1271 : decode code 1271 = .ok (.istore 5, 2) := by decide +kernel
theorem d_law_1273 : decode code 1273 = .ok (.aload_n 2, 1) := by decide +kernel
theorem d_law_1274 : decode code 1274 = .ok (.aload_n 0, 1) := by decide +kernel
theorem d_law_1275 : decode code 1275 = .ok (.iload 4, 2) := by decide +kernel
theorem d_law_1277 : decode code 1277 = .ok (.iconst 1, 1) := by decide +kernel
theorem d_law_1278 : decode code 1278 = .ok (.iadd, 1) := by decide +kernel
theorem d_law_1279 : decode code 1279 = .ok (.iaload, 1) := by decide +kernel
theorem d_law_1280 : decode code 1280 = .ok (.invokevirtual 168, 3) := by decide +kernel
theorem d_law_1283 : decode code 1283 = .ok (.istore 6, 2) := by decide +kernel
theorem d_law_1285 : decode code 1285 = .ok (.aload_n 2, 1) := by decide +kernel
theorem d_law_1286 : decode code 1286 = .ok (.invokevirtual 81, 3) := by decide +kernel
theorem d_law_1289 : decode code 1289 = .ok (.iload 5, 2) := by decide +kernel
theorem d_law_1291 : decode code 1291 = .ok (.if_icmp .eq 5, 3) := by decide +kernel
theorem d_law_1294 : decode code 1294 = .ok (.iconst 0, 1) := by decide +kernel
theorem d_law_1295 : decode code 1295 = .ok (.ireturn, 1) := by decide +kernel
theorem d_law_1296 : decode code 1296 = .ok (.iload 5, 2) := by decide +kernel
theorem d_law_1298 : decode code 1298 = .ok (.ifCond .ne 15, 3) := by decide +kernel
theorem d_law_1301 : decode code 1301 = .ok (.aload_n 3, 1) := by decide +kernel
theorem d_law_1302 : decode code 1302 = .ok (.iconst 0, 1) := by decide +kernel
theorem d_law_1303 : decode code 1303 = .ok (.laload, 1) := by decide +kernel
theorem d_law_1304 : decode code 1304 = .ok (.iload 6, 2) := by decide +kernel
theorem d_law_1306 : decode code 1306 = .ok (.i2l, 1) := by decide +kernel
theorem d_law_1307 : decode code 1307 = .ok (.lcmp, 1) := by decide +kernel
theorem d_law_1308 : decode code 1308 = .ok (.ifCond .eq 5, 3) := by decide +kernel
theorem d_law_1311 : decode code 1311 = .ok (.iconst 0, 1) := by decide +kernel
theorem d_law_1312 : decode code 1312 = .ok (.ireturn, 1) := by decide +kernel
theorem d_law_1313 : decode code 1313 = .ok (.goto 16, 3) := by decide +kernel
theorem d_law_1316 : decode code 1316 = .ok (.aload_n 1, 1) := by decide +kernel
theorem d_law_1317 : decode code 1317 = .ok (.invokevirtual 169, 3) := by decide +kernel
theorem d_law_1320 : decode code 1320 = .ok (.aload_n 2, 1) := by decide +kernel
theorem d_law_1321 : decode code 1321 = .ok (.invokevirtual 172, 3) := by decide +kernel
theorem d_law_1324 : decode code 1324 = .ok (.if_icmp .eq 5, 3) := by decide +kernel
theorem d_law_1327 : decode code 1327 = .ok (.iconst 0, 1) := by decide +kernel
theorem d_law_1328 : decode code 1328 = .ok (.ireturn, 1) := by decide +kernel
theorem d_law_1329 : decode code 1329 = .ok (.iinc 4 4, 3) := by decide +kernel
theorem d_law_1332 : decode code 1332 = .ok (.goto (-1309), 3) := by decide +kernel
theorem d_law_1335 : decode code 1335 = .ok (.iconst 1, 1) := by decide +kernel
theorem d_law_1336 : decode code 1336 = .ok (.ireturn, 1) := by decide +kernel
set_option maxRecDepth 20000 in
theorem q_245 : (Jvm.Cond.codeWith ({ cls := "RopeVotesLaw", name := "putOn", desc := "(LRopeVotes;[J)I" } : Jvm.MethodName) method_3_code (3 : Nat) (Option.some Jvm.ClassFile.FieldType.int) [((0 : Nat), (8 : Nat), (11 : Nat), (13 : Nat))]) ∈ rr_all := rr_in 260 rfl rfl
set_option maxRecDepth 20000 in
theorem q_329 : (Jvm.Cond.codeWith ({ cls := "RopeVotesLaw", name := "takeOff", desc := "(LRopeVotes;I[J)I" } : Jvm.MethodName) method_4_code (4 : Nat) (Option.some Jvm.ClassFile.FieldType.int) [((0 : Nat), (9 : Nat), (12 : Nat), (19 : Nat)), ((0 : Nat), (9 : Nat), (15 : Nat), (13 : Nat))]) ∈ rr_all := rr_in 344 rfl rfl
set_option maxRecDepth 20000 in
theorem q_365 : (Jvm.Cond.codeWith ({ cls := "RopeVotesLaw", name := "place", desc := "(LRopeVotes;I[J)I" } : Jvm.MethodName) method_5_code (4 : Nat) (Option.some Jvm.ClassFile.FieldType.int) [((0 : Nat), (9 : Nat), (12 : Nat), (19 : Nat))]) ∈ rr_all := rr_in 380 rfl rfl
set_option maxRecDepth 20000 in
theorem q_372 : (Jvm.Cond.codeWith ({ cls := "RopeVotesLaw", name := "placeByTurns", desc := "(LRopeVotes;I[J)I" } : Jvm.MethodName) method_6_code (4 : Nat) (Option.some Jvm.ClassFile.FieldType.int) [((0 : Nat), (9 : Nat), (12 : Nat), (19 : Nat))]) ∈ rr_all := rr_in 387 rfl rfl
set_option maxRecDepth 20000 in
theorem q_379 : (Jvm.Cond.codeWith ({ cls := "RopeVotesLaw", name := "wind", desc := "(LRopeVotes;II[J)I" } : Jvm.MethodName) method_7_code (5 : Nat) (Option.some Jvm.ClassFile.FieldType.int) [((0 : Nat), (10 : Nat), (13 : Nat), (19 : Nat)), ((0 : Nat), (10 : Nat), (17 : Nat), (31 : Nat))]) ∈ rr_all := rr_in 394 rfl rfl
set_option maxRecDepth 20000 in
theorem q_411 : (Jvm.Cond.codeWith ({ cls := "RopeVotesLaw", name := "setLimits", desc := "(LRopeVotes;III[J)I" } : Jvm.MethodName) method_8_code (6 : Nat) (Option.some Jvm.ClassFile.FieldType.int) [((0 : Nat), (12 : Nat), (15 : Nat), (19 : Nat)), ((0 : Nat), (12 : Nat), (19 : Nat), (31 : Nat))]) ∈ rr_all := rr_in 426 rfl rfl
set_option maxRecDepth 20000 in
theorem q_419 : (Jvm.Cond.codeWith ({ cls := "RopeVotesLaw", name := "cut", desc := "(LRopeVotes;IZ[J)I" } : Jvm.MethodName) method_9_code (5 : Nat) (Option.some Jvm.ClassFile.FieldType.int) [((0 : Nat), (10 : Nat), (13 : Nat), (19 : Nat))]) ∈ rr_all := rr_in 434 rfl rfl
set_option maxRecDepth 20000 in
theorem q_430 : (Jvm.Cond.codeWith ({ cls := "RopeVotesLaw", name := "vote", desc := "(LRopeVotes;I[J)I" } : Jvm.MethodName) method_10_code (4 : Nat) (Option.some Jvm.ClassFile.FieldType.int) [((0 : Nat), (9 : Nat), (12 : Nat), (19 : Nat))]) ∈ rr_all := rr_in 445 rfl rfl
set_option maxRecDepth 20000 in
theorem q_437 : (Jvm.Cond.codeWith ({ cls := "RopeVotesLaw", name := "voteTime", desc := "(LRopeVotes;I[J)I" } : Jvm.MethodName) method_11_code (4 : Nat) (Option.some Jvm.ClassFile.FieldType.int) [((0 : Nat), (9 : Nat), (12 : Nat), (19 : Nat))]) ∈ rr_all := rr_in 452 rfl rfl
set_option maxRecDepth 20000 in
theorem q_444 : (Jvm.Cond.codeWith ({ cls := "RopeVotesLaw", name := "pass", desc := "(LRopeVotes;I[J)I" } : Jvm.MethodName) method_12_code (4 : Nat) (Option.some Jvm.ClassFile.FieldType.int) [((0 : Nat), (9 : Nat), (12 : Nat), (31 : Nat)), ((0 : Nat), (9 : Nat), (15 : Nat), (13 : Nat))]) ∈ rr_all := rr_in 459 rfl rfl
set_option maxRecDepth 20000 in
theorem q_512 : (Jvm.Cond.codeWith ({ cls := "RopeVotesLaw", name := "decided", desc := "(LRopeVotes;I[J)I" } : Jvm.MethodName) method_13_code (4 : Nat) (Option.some Jvm.ClassFile.FieldType.int) [((0 : Nat), (9 : Nat), (12 : Nat), (19 : Nat))]) ∈ rr_all := rr_in 527 rfl rfl
set_option maxRecDepth 20000 in
theorem q_520 : (Jvm.Cond.codeWith ({ cls := "RopeVotesLaw", name := "minutes", desc := "(LRopeVotes;I[J)I" } : Jvm.MethodName) method_14_code (4 : Nat) (Option.some Jvm.ClassFile.FieldType.int) [((0 : Nat), (9 : Nat), (12 : Nat), (31 : Nat))]) ∈ rr_all := rr_in 535 rfl rfl
set_option maxRecDepth 20000 in
theorem q_528 : (Jvm.Cond.codeWith ({ cls := "RopeVotesLaw", name := "board", desc := "(LRopeVotes;III[J)I" } : Jvm.MethodName) method_15_code (6 : Nat) (Option.some Jvm.ClassFile.FieldType.int) [((0 : Nat), (12 : Nat), (15 : Nat), (19 : Nat)), ((0 : Nat), (12 : Nat), (19 : Nat), (31 : Nat)), ((0 : Nat), (12 : Nat), (23 : Nat), (13 : Nat))]) ∈ rr_all := rr_in 543 rfl rfl
set_option maxRecDepth 20000 in
theorem q_546 : (Jvm.Cond.codeWith ({ cls := "RopeVotesLaw", name := "people", desc := "(LRopeVotes;I[J)I" } : Jvm.MethodName) method_16_code (4 : Nat) (Option.some Jvm.ClassFile.FieldType.int) [((0 : Nat), (9 : Nat), (12 : Nat), (19 : Nat))]) ∈ rr_all := rr_in 561 rfl rfl
set_option maxRecDepth 20000 in
theorem q_553 : (Jvm.Cond.codeWith ({ cls := "RopeVotesLaw", name := "arrived", desc := "(LRopeVotes;I[J)I" } : Jvm.MethodName) method_17_code (4 : Nat) (Option.some Jvm.ClassFile.FieldType.int) [((0 : Nat), (9 : Nat), (12 : Nat), (19 : Nat))]) ∈ rr_all := rr_in 568 rfl rfl
set_option maxRecDepth 20000 in
theorem q_565 : (Jvm.Cond.codeWith ({ cls := "RopeVotesLaw", name := "hung", desc := "(LRopeVotes;I[J)I" } : Jvm.MethodName) method_18_code (4 : Nat) (Option.some Jvm.ClassFile.FieldType.int) [((0 : Nat), (9 : Nat), (12 : Nat), (19 : Nat))]) ∈ rr_all := rr_in 580 rfl rfl
set_option maxRecDepth 20000 in
theorem q_572 : (Jvm.Cond.codeWith ({ cls := "RopeVotesLaw", name := "refund", desc := "(LRopeVotes;I[J)I" } : Jvm.MethodName) method_19_code (4 : Nat) (Option.some Jvm.ClassFile.FieldType.int) [((0 : Nat), (9 : Nat), (12 : Nat), (19 : Nat))]) ∈ rr_all := rr_in 587 rfl rfl
