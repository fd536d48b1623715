section
/-! THE CLAIM OUT OF ONE WALK OF THE LAW'S BODY. Your part is whole_start (and what it stands on); all else here is the same for every law, but numbers. -/
def R_law : String := "IroningBasketsLaw"
def lw_P (b : Addr) (xs : List Int32) (args : Array Value) (s : State) : Prop := args = #[.ref b] ∧ s.IntsAt b xs ∧ xs.length ≤ 2560 ∧ (Jvm.Cond.and given_1 narrow_1).before args s = true
/-- what a walk over the start with the record d0 says of its end, said of the start itself -/
theorem lw_closed {s t : State} {o : Outcome} {d0 : Drawn} {L : List Loc} {k n : Nat} (hd0 : s.drawn.sameBut d0 lw_cs) (hv : ∃ v, o = .returned v) (hW : (s.setDrawn d0).WarmedH t.vm) (hs : (s.setDrawn d0).sameButNew ({ t with vm := s.vm } : State) L k n) : State.butDraws s t lw_cs (fun t1 => Framed s o t1 L k n) := by
  have h2 : t.drawn = d0 := congrArg State.drawn hs.1
  refine ⟨⟨hv, hW, State.sameButNew.setDrawn hs s.drawn⟩, ?_, by decide⟩
  rw [h2]
  exact hd0
def lw_Q (_ : Array Value) (s : State) (o : Outcome) (t : State) : Prop := o = .returned (some (.int 1)) ∧ State.butDraws s t lw_cs (fun t1 => Framed s o t1 [] 600000 7302249)
def lw_Z (below : List Frame) (a : Array Value) (s : State) : State → Prop := fun t => ∃ o, t.status = .running ∧ Ended t below o ∧ lw_Q a s o t
/-- the law's own end, with 1 on the stack, nothing written that was there before, its room as the claim has it; d0: the record of draws at this point (at the entry s.drawn: begin with 'refine W.base ?_' and 'have hd0 := Drawn.sameBut.refl s.drawn lw_cs') -/
theorem lw_ret {p : Program} {l : Launch} {e : Env} {s : State} {m : MethodId} {below : List Frame} {meth : Method} {c : Code} {b : Nat} {d0 : Drawn} (hd0 : s.drawn.sameBut d0 lw_cs) (hx : p.tables.exec = Jvm.exec) (hb : c.code = code) (hr : meth.sig.returnType = ret) (hlocks : meth.locks = false) {pc : Nat} {H : Heap} {ls : Array Slot} (hdg : decode code pc = .ok (.ireturn, 1)) : W p l e room_1 (s.setDrawn d0) m #[Value.ref b] below meth c H [] 600000 7302249 (lw_Z below #[Value.ref b] s) (F0 m pc ls [.int 1]) := by
  intro T hT X
  obtain ⟨fs, hret, hrun, hended, hW, hframe⟩ := X.leave (v := some (.int 1)) (hlocks := hlocks) (fun h => by rw [hr] at h; cases h)
  have hmeth' : T.vm.method? m = some meth := X.method'
  refine ⟨T.setFrames fs, ?_, .returned (some (.int 1)), hrun, hended, rfl, lw_closed hd0 ⟨_, rfl⟩ hW hframe⟩
  jvm_step X.here [X.here.top, hx, hb, hdg, hmeth', hr, ret, narrow_b1]
  (try refine ⟨rfl, ?_⟩); (try refine ⟨rfl, ?_⟩)
  first | (intro acts; rw [hret _ acts rfl rfl rfl]) | rw [hret _ _ rfl rfl rfl]
  exact Steps.refl _
/-- what holds at the law's entry: the machine, the code, the tables' words (any of lw_tbl by 'hts w (by decide +kernel)'), the script of L ints xs at the cell b, what the Statement gives of the start (any of its parts by flat_of_before) -/
def lw_At (p : Program) (s : State) (m : MethodId) (meth : Method) (c : Code) (b L : Nat) (xs : Nat → Int32) : Prop :=
  p.tables.exec = Jvm.exec ∧ c.code = code ∧ meth.sig.returnType = ret ∧ c.maxLocals = 8 ∧ s.vm.findClass R_law = some m.cls ∧ (∀ w ∈ lw_tbl, w.before #[Value.ref b] s = true) ∧ va_X b L xs s s.heap ∧ b < s.heap.size ∧ meth.locks = false ∧ (Jvm.Cond.and given_1 narrow_1).before #[Value.ref b] s = true
end
section
/-! the law: its code, its links, its calls -/
theorem dl_0 : decode code 0 = .ok (.new 7, 3) := by decide +kernel
theorem dl_3 : decode code 3 = .ok (.dup, 1) := by decide +kernel
theorem dl_4 : decode code 4 = .ok (.invokespecial 9, 3) := by decide +kernel
theorem dl_7 : decode code 7 = .ok (.astore_n 1, 1) := by decide +kernel
theorem dl_8 : decode code 8 = .ok (.new 10, 3) := by decide +kernel
theorem dl_11 : decode code 11 = .ok (.dup, 1) := by decide +kernel
theorem dl_12 : decode code 12 = .ok (.invokespecial 12, 3) := by decide +kernel
theorem dl_15 : decode code 15 = .ok (.astore_n 2, 1) := by decide +kernel
theorem dl_16 : decode code 16 = .ok (.iconst 0, 1) := by decide +kernel
theorem dl_17 : decode code 17 = .ok (.istore_n 3, 1) := by decide +kernel
theorem dl_18 : decode code 18 = .ok (.iload_n 3, 1) := by decide +kernel
theorem dl_19 : decode code 19 = .ok (.aload_n 0, 1) := by decide +kernel
theorem dl_20 : decode code 20 = .ok (.arraylength, 1) := by decide +kernel
theorem dl_21 : decode code 21 = .ok (.iconst 5, 1) := by decide +kernel
theorem dl_22 : decode code 22 = .ok (.isub, 1) := by decide +kernel
theorem dl_23 : decode code 23 = .ok (.if_icmp .gt 870, 3) := by decide +kernel
theorem dl_26 : decode code 26 = .ok (.aload_n 0, 1) := by decide +kernel
theorem dl_27 : decode code 27 = .ok (.iload_n 3, 1) := by decide +kernel
theorem dl_28 : decode code 28 = .ok (.iaload, 1) := by decide +kernel
theorem dl_29 : decode code 29 = .ok (.bipush 31, 2) := by decide +kernel
theorem dl_31 : decode code 31 = .ok (.iand, 1) := by decide +kernel
theorem dl_32 : decode code 32 = .ok (.tableswitch 855 0 28 #[132, 155, 188, 241, 254, 287, 320, 343, 366, 389, 412, 445, 470, 483, 496, 509, 522, 535, 568, 601, 634, 657, 690, 713, 730, 773, 796, 829, 842], 132) := by decide +kernel
theorem dl_164 : decode code 164 = .ok (.aload_n 1, 1) := by decide +kernel
theorem dl_165 : decode code 165 = .ok (.aload_n 0, 1) := by decide +kernel
theorem dl_166 : decode code 166 = .ok (.iload_n 3, 1) := by decide +kernel
theorem dl_167 : decode code 167 = .ok (.iconst 1, 1) := by decide +kernel
theorem dl_168 : decode code 168 = .ok (.iadd, 1) := by decide +kernel
theorem dl_169 : decode code 169 = .ok (.iaload, 1) := by decide +kernel
theorem dl_170 : decode code 170 = .ok (.invokevirtual 13, 3) := by decide +kernel
theorem dl_173 : decode code 173 = .ok (.pop, 1) := by decide +kernel
theorem dl_174 : decode code 174 = .ok (.aload_n 2, 1) := by decide +kernel
theorem dl_175 : decode code 175 = .ok (.aload_n 0, 1) := by decide +kernel
theorem dl_176 : decode code 176 = .ok (.iload_n 3, 1) := by decide +kernel
theorem dl_177 : decode code 177 = .ok (.iconst 1, 1) := by decide +kernel
theorem dl_178 : decode code 178 = .ok (.iadd, 1) := by decide +kernel
theorem dl_179 : decode code 179 = .ok (.iaload, 1) := by decide +kernel
theorem dl_180 : decode code 180 = .ok (.invokevirtual 17, 3) := by decide +kernel
theorem dl_183 : decode code 183 = .ok (.pop, 1) := by decide +kernel
theorem dl_184 : decode code 184 = .ok (.goto 703, 3) := by decide +kernel
theorem dl_187 : decode code 187 = .ok (.aload_n 1, 1) := by decide +kernel
theorem dl_188 : decode code 188 = .ok (.aload_n 0, 1) := by decide +kernel
theorem dl_189 : decode code 189 = .ok (.iload_n 3, 1) := by decide +kernel
theorem dl_190 : decode code 190 = .ok (.iconst 1, 1) := by decide +kernel
theorem dl_191 : decode code 191 = .ok (.iadd, 1) := by decide +kernel
theorem dl_192 : decode code 192 = .ok (.iaload, 1) := by decide +kernel
theorem dl_193 : decode code 193 = .ok (.aload_n 0, 1) := by decide +kernel
theorem dl_194 : decode code 194 = .ok (.iload_n 3, 1) := by decide +kernel
theorem dl_195 : decode code 195 = .ok (.iconst 2, 1) := by decide +kernel
theorem dl_196 : decode code 196 = .ok (.iadd, 1) := by decide +kernel
theorem dl_197 : decode code 197 = .ok (.iaload, 1) := by decide +kernel
theorem dl_198 : decode code 198 = .ok (.invokevirtual 18, 3) := by decide +kernel
theorem dl_201 : decode code 201 = .ok (.pop, 1) := by decide +kernel
theorem dl_202 : decode code 202 = .ok (.aload_n 2, 1) := by decide +kernel
theorem dl_203 : decode code 203 = .ok (.aload_n 0, 1) := by decide +kernel
theorem dl_204 : decode code 204 = .ok (.iload_n 3, 1) := by decide +kernel
theorem dl_205 : decode code 205 = .ok (.iconst 1, 1) := by decide +kernel
theorem dl_206 : decode code 206 = .ok (.iadd, 1) := by decide +kernel
theorem dl_207 : decode code 207 = .ok (.iaload, 1) := by decide +kernel
theorem dl_208 : decode code 208 = .ok (.aload_n 0, 1) := by decide +kernel
theorem dl_209 : decode code 209 = .ok (.iload_n 3, 1) := by decide +kernel
theorem dl_210 : decode code 210 = .ok (.iconst 2, 1) := by decide +kernel
theorem dl_211 : decode code 211 = .ok (.iadd, 1) := by decide +kernel
theorem dl_212 : decode code 212 = .ok (.iaload, 1) := by decide +kernel
theorem dl_213 : decode code 213 = .ok (.invokevirtual 22, 3) := by decide +kernel
theorem dl_216 : decode code 216 = .ok (.pop, 1) := by decide +kernel
theorem dl_217 : decode code 217 = .ok (.goto 670, 3) := by decide +kernel
theorem dl_220 : decode code 220 = .ok (.aload_n 1, 1) := by decide +kernel
theorem dl_221 : decode code 221 = .ok (.aload_n 0, 1) := by decide +kernel
theorem dl_222 : decode code 222 = .ok (.iload_n 3, 1) := by decide +kernel
theorem dl_223 : decode code 223 = .ok (.iconst 1, 1) := by decide +kernel
theorem dl_224 : decode code 224 = .ok (.iadd, 1) := by decide +kernel
theorem dl_225 : decode code 225 = .ok (.iaload, 1) := by decide +kernel
theorem dl_226 : decode code 226 = .ok (.aload_n 0, 1) := by decide +kernel
theorem dl_227 : decode code 227 = .ok (.iload_n 3, 1) := by decide +kernel
theorem dl_228 : decode code 228 = .ok (.iconst 2, 1) := by decide +kernel
theorem dl_229 : decode code 229 = .ok (.iadd, 1) := by decide +kernel
theorem dl_230 : decode code 230 = .ok (.iaload, 1) := by decide +kernel
theorem dl_231 : decode code 231 = .ok (.aload_n 0, 1) := by decide +kernel
theorem dl_232 : decode code 232 = .ok (.iload_n 3, 1) := by decide +kernel
theorem dl_233 : decode code 233 = .ok (.iconst 3, 1) := by decide +kernel
theorem dl_234 : decode code 234 = .ok (.iadd, 1) := by decide +kernel
theorem dl_235 : decode code 235 = .ok (.iaload, 1) := by decide +kernel
theorem dl_236 : decode code 236 = .ok (.aload_n 0, 1) := by decide +kernel
theorem dl_237 : decode code 237 = .ok (.iload_n 3, 1) := by decide +kernel
theorem dl_238 : decode code 238 = .ok (.iconst 4, 1) := by decide +kernel
theorem dl_239 : decode code 239 = .ok (.iadd, 1) := by decide +kernel
theorem dl_240 : decode code 240 = .ok (.iaload, 1) := by decide +kernel
theorem dl_241 : decode code 241 = .ok (.invokevirtual 23, 3) := by decide +kernel
theorem dl_244 : decode code 244 = .ok (.pop, 1) := by decide +kernel
theorem dl_245 : decode code 245 = .ok (.aload_n 2, 1) := by decide +kernel
theorem dl_246 : decode code 246 = .ok (.aload_n 0, 1) := by decide +kernel
theorem dl_247 : decode code 247 = .ok (.iload_n 3, 1) := by decide +kernel
theorem dl_248 : decode code 248 = .ok (.iconst 1, 1) := by decide +kernel
theorem dl_249 : decode code 249 = .ok (.iadd, 1) := by decide +kernel
theorem dl_250 : decode code 250 = .ok (.iaload, 1) := by decide +kernel
theorem dl_251 : decode code 251 = .ok (.aload_n 0, 1) := by decide +kernel
theorem dl_252 : decode code 252 = .ok (.iload_n 3, 1) := by decide +kernel
theorem dl_253 : decode code 253 = .ok (.iconst 2, 1) := by decide +kernel
theorem dl_254 : decode code 254 = .ok (.iadd, 1) := by decide +kernel
theorem dl_255 : decode code 255 = .ok (.iaload, 1) := by decide +kernel
theorem dl_256 : decode code 256 = .ok (.aload_n 0, 1) := by decide +kernel
theorem dl_257 : decode code 257 = .ok (.iload_n 3, 1) := by decide +kernel
theorem dl_258 : decode code 258 = .ok (.iconst 3, 1) := by decide +kernel
theorem dl_259 : decode code 259 = .ok (.iadd, 1) := by decide +kernel
theorem dl_260 : decode code 260 = .ok (.iaload, 1) := by decide +kernel
theorem dl_261 : decode code 261 = .ok (.aload_n 0, 1) := by decide +kernel
theorem dl_262 : decode code 262 = .ok (.iload_n 3, 1) := by decide +kernel
theorem dl_263 : decode code 263 = .ok (.iconst 4, 1) := by decide +kernel
theorem dl_264 : decode code 264 = .ok (.iadd, 1) := by decide +kernel
theorem dl_265 : decode code 265 = .ok (.iaload, 1) := by decide +kernel
theorem dl_266 : decode code 266 = .ok (.invokevirtual 27, 3) := by decide +kernel
theorem dl_269 : decode code 269 = .ok (.pop, 1) := by decide +kernel
theorem dl_270 : decode code 270 = .ok (.goto 617, 3) := by decide +kernel
theorem dl_273 : decode code 273 = .ok (.aload_n 1, 1) := by decide +kernel
theorem dl_274 : decode code 274 = .ok (.invokevirtual 28, 3) := by decide +kernel
theorem dl_277 : decode code 277 = .ok (.pop, 1) := by decide +kernel
theorem dl_278 : decode code 278 = .ok (.aload_n 2, 1) := by decide +kernel
theorem dl_279 : decode code 279 = .ok (.invokevirtual 32, 3) := by decide +kernel
theorem dl_282 : decode code 282 = .ok (.pop, 1) := by decide +kernel
theorem dl_283 : decode code 283 = .ok (.goto 604, 3) := by decide +kernel
theorem dl_286 : decode code 286 = .ok (.aload_n 1, 1) := by decide +kernel
theorem dl_287 : decode code 287 = .ok (.aload_n 0, 1) := by decide +kernel
theorem dl_288 : decode code 288 = .ok (.iload_n 3, 1) := by decide +kernel
theorem dl_289 : decode code 289 = .ok (.iconst 1, 1) := by decide +kernel
theorem dl_290 : decode code 290 = .ok (.iadd, 1) := by decide +kernel
theorem dl_291 : decode code 291 = .ok (.iaload, 1) := by decide +kernel
theorem dl_292 : decode code 292 = .ok (.aload_n 0, 1) := by decide +kernel
theorem dl_293 : decode code 293 = .ok (.iload_n 3, 1) := by decide +kernel
theorem dl_294 : decode code 294 = .ok (.iconst 2, 1) := by decide +kernel
theorem dl_295 : decode code 295 = .ok (.iadd, 1) := by decide +kernel
theorem dl_296 : decode code 296 = .ok (.iaload, 1) := by decide +kernel
theorem dl_297 : decode code 297 = .ok (.invokevirtual 33, 3) := by decide +kernel
theorem dl_300 : decode code 300 = .ok (.pop, 1) := by decide +kernel
theorem dl_301 : decode code 301 = .ok (.aload_n 2, 1) := by decide +kernel
theorem dl_302 : decode code 302 = .ok (.aload_n 0, 1) := by decide +kernel
theorem dl_303 : decode code 303 = .ok (.iload_n 3, 1) := by decide +kernel
theorem dl_304 : decode code 304 = .ok (.iconst 1, 1) := by decide +kernel
theorem dl_305 : decode code 305 = .ok (.iadd, 1) := by decide +kernel
theorem dl_306 : decode code 306 = .ok (.iaload, 1) := by decide +kernel
theorem dl_307 : decode code 307 = .ok (.aload_n 0, 1) := by decide +kernel
theorem dl_308 : decode code 308 = .ok (.iload_n 3, 1) := by decide +kernel
theorem dl_309 : decode code 309 = .ok (.iconst 2, 1) := by decide +kernel
theorem dl_310 : decode code 310 = .ok (.iadd, 1) := by decide +kernel
theorem dl_311 : decode code 311 = .ok (.iaload, 1) := by decide +kernel
theorem dl_312 : decode code 312 = .ok (.invokevirtual 36, 3) := by decide +kernel
theorem dl_315 : decode code 315 = .ok (.pop, 1) := by decide +kernel
theorem dl_316 : decode code 316 = .ok (.goto 571, 3) := by decide +kernel
theorem dl_319 : decode code 319 = .ok (.aload_n 1, 1) := by decide +kernel
theorem dl_320 : decode code 320 = .ok (.aload_n 0, 1) := by decide +kernel
theorem dl_321 : decode code 321 = .ok (.iload_n 3, 1) := by decide +kernel
theorem dl_322 : decode code 322 = .ok (.iconst 1, 1) := by decide +kernel
theorem dl_323 : decode code 323 = .ok (.iadd, 1) := by decide +kernel
theorem dl_324 : decode code 324 = .ok (.iaload, 1) := by decide +kernel
theorem dl_325 : decode code 325 = .ok (.aload_n 0, 1) := by decide +kernel
theorem dl_326 : decode code 326 = .ok (.iload_n 3, 1) := by decide +kernel
theorem dl_327 : decode code 327 = .ok (.iconst 2, 1) := by decide +kernel
theorem dl_328 : decode code 328 = .ok (.iadd, 1) := by decide +kernel
theorem dl_329 : decode code 329 = .ok (.iaload, 1) := by decide +kernel
theorem dl_330 : decode code 330 = .ok (.invokevirtual 37, 3) := by decide +kernel
theorem dl_333 : decode code 333 = .ok (.pop, 1) := by decide +kernel
theorem dl_334 : decode code 334 = .ok (.aload_n 2, 1) := by decide +kernel
theorem dl_335 : decode code 335 = .ok (.aload_n 0, 1) := by decide +kernel
theorem dl_336 : decode code 336 = .ok (.iload_n 3, 1) := by decide +kernel
theorem dl_337 : decode code 337 = .ok (.iconst 1, 1) := by decide +kernel
theorem dl_338 : decode code 338 = .ok (.iadd, 1) := by decide +kernel
theorem dl_339 : decode code 339 = .ok (.iaload, 1) := by decide +kernel
theorem dl_340 : decode code 340 = .ok (.aload_n 0, 1) := by decide +kernel
theorem dl_341 : decode code 341 = .ok (.iload_n 3, 1) := by decide +kernel
theorem dl_342 : decode code 342 = .ok (.iconst 2, 1) := by decide +kernel
theorem dl_343 : decode code 343 = .ok (.iadd, 1) := by decide +kernel
theorem dl_344 : decode code 344 = .ok (.iaload, 1) := by decide +kernel
theorem dl_345 : decode code 345 = .ok (.invokevirtual 40, 3) := by decide +kernel
theorem dl_348 : decode code 348 = .ok (.pop, 1) := by decide +kernel
theorem dl_349 : decode code 349 = .ok (.goto 538, 3) := by decide +kernel
theorem dl_352 : decode code 352 = .ok (.aload_n 1, 1) := by decide +kernel
theorem dl_353 : decode code 353 = .ok (.aload_n 0, 1) := by decide +kernel
theorem dl_354 : decode code 354 = .ok (.iload_n 3, 1) := by decide +kernel
theorem dl_355 : decode code 355 = .ok (.iconst 1, 1) := by decide +kernel
theorem dl_356 : decode code 356 = .ok (.iadd, 1) := by decide +kernel
theorem dl_357 : decode code 357 = .ok (.iaload, 1) := by decide +kernel
theorem dl_358 : decode code 358 = .ok (.invokevirtual 41, 3) := by decide +kernel
theorem dl_361 : decode code 361 = .ok (.pop, 1) := by decide +kernel
theorem dl_362 : decode code 362 = .ok (.aload_n 2, 1) := by decide +kernel
theorem dl_363 : decode code 363 = .ok (.aload_n 0, 1) := by decide +kernel
theorem dl_364 : decode code 364 = .ok (.iload_n 3, 1) := by decide +kernel
theorem dl_365 : decode code 365 = .ok (.iconst 1, 1) := by decide +kernel
theorem dl_366 : decode code 366 = .ok (.iadd, 1) := by decide +kernel
theorem dl_367 : decode code 367 = .ok (.iaload, 1) := by decide +kernel
theorem dl_368 : decode code 368 = .ok (.invokevirtual 44, 3) := by decide +kernel
theorem dl_371 : decode code 371 = .ok (.pop, 1) := by decide +kernel
theorem dl_372 : decode code 372 = .ok (.goto 515, 3) := by decide +kernel
theorem dl_375 : decode code 375 = .ok (.aload_n 1, 1) := by decide +kernel
theorem dl_376 : decode code 376 = .ok (.aload_n 0, 1) := by decide +kernel
theorem dl_377 : decode code 377 = .ok (.iload_n 3, 1) := by decide +kernel
theorem dl_378 : decode code 378 = .ok (.iconst 1, 1) := by decide +kernel
theorem dl_379 : decode code 379 = .ok (.iadd, 1) := by decide +kernel
theorem dl_380 : decode code 380 = .ok (.iaload, 1) := by decide +kernel
theorem dl_381 : decode code 381 = .ok (.invokevirtual 45, 3) := by decide +kernel
theorem dl_384 : decode code 384 = .ok (.pop, 1) := by decide +kernel
theorem dl_385 : decode code 385 = .ok (.aload_n 2, 1) := by decide +kernel
theorem dl_386 : decode code 386 = .ok (.aload_n 0, 1) := by decide +kernel
theorem dl_387 : decode code 387 = .ok (.iload_n 3, 1) := by decide +kernel
theorem dl_388 : decode code 388 = .ok (.iconst 1, 1) := by decide +kernel
theorem dl_389 : decode code 389 = .ok (.iadd, 1) := by decide +kernel
theorem dl_390 : decode code 390 = .ok (.iaload, 1) := by decide +kernel
theorem dl_391 : decode code 391 = .ok (.invokevirtual 48, 3) := by decide +kernel
theorem dl_394 : decode code 394 = .ok (.pop, 1) := by decide +kernel
theorem dl_395 : decode code 395 = .ok (.goto 492, 3) := by decide +kernel
theorem dl_398 : decode code 398 = .ok (.aload_n 1, 1) := by decide +kernel
theorem dl_399 : decode code 399 = .ok (.aload_n 0, 1) := by decide +kernel
theorem dl_400 : decode code 400 = .ok (.iload_n 3, 1) := by decide +kernel
theorem dl_401 : decode code 401 = .ok (.iconst 1, 1) := by decide +kernel
theorem dl_402 : decode code 402 = .ok (.iadd, 1) := by decide +kernel
theorem dl_403 : decode code 403 = .ok (.iaload, 1) := by decide +kernel
theorem dl_404 : decode code 404 = .ok (.invokevirtual 49, 3) := by decide +kernel
theorem dl_407 : decode code 407 = .ok (.pop, 1) := by decide +kernel
theorem dl_408 : decode code 408 = .ok (.aload_n 2, 1) := by decide +kernel
theorem dl_409 : decode code 409 = .ok (.aload_n 0, 1) := by decide +kernel
theorem dl_410 : decode code 410 = .ok (.iload_n 3, 1) := by decide +kernel
theorem dl_411 : decode code 411 = .ok (.iconst 1, 1) := by decide +kernel
theorem dl_412 : decode code 412 = .ok (.iadd, 1) := by decide +kernel
theorem dl_413 : decode code 413 = .ok (.iaload, 1) := by decide +kernel
theorem dl_414 : decode code 414 = .ok (.invokevirtual 52, 3) := by decide +kernel
theorem dl_417 : decode code 417 = .ok (.pop, 1) := by decide +kernel
theorem dl_418 : decode code 418 = .ok (.goto 469, 3) := by decide +kernel
theorem dl_421 : decode code 421 = .ok (.aload_n 1, 1) := by decide +kernel
theorem dl_422 : decode code 422 = .ok (.aload_n 0, 1) := by decide +kernel
theorem dl_423 : decode code 423 = .ok (.iload_n 3, 1) := by decide +kernel
theorem dl_424 : decode code 424 = .ok (.iconst 1, 1) := by decide +kernel
theorem dl_425 : decode code 425 = .ok (.iadd, 1) := by decide +kernel
theorem dl_426 : decode code 426 = .ok (.iaload, 1) := by decide +kernel
theorem dl_427 : decode code 427 = .ok (.invokevirtual 53, 3) := by decide +kernel
theorem dl_430 : decode code 430 = .ok (.pop, 1) := by decide +kernel
theorem dl_431 : decode code 431 = .ok (.aload_n 2, 1) := by decide +kernel
theorem dl_432 : decode code 432 = .ok (.aload_n 0, 1) := by decide +kernel
theorem dl_433 : decode code 433 = .ok (.iload_n 3, 1) := by decide +kernel
theorem dl_434 : decode code 434 = .ok (.iconst 1, 1) := by decide +kernel
theorem dl_435 : decode code 435 = .ok (.iadd, 1) := by decide +kernel
theorem dl_436 : decode code 436 = .ok (.iaload, 1) := by decide +kernel
theorem dl_437 : decode code 437 = .ok (.invokevirtual 56, 3) := by decide +kernel
theorem dl_440 : decode code 440 = .ok (.pop, 1) := by decide +kernel
theorem dl_441 : decode code 441 = .ok (.goto 446, 3) := by decide +kernel
theorem dl_444 : decode code 444 = .ok (.aload_n 1, 1) := by decide +kernel
theorem dl_445 : decode code 445 = .ok (.aload_n 0, 1) := by decide +kernel
theorem dl_446 : decode code 446 = .ok (.iload_n 3, 1) := by decide +kernel
theorem dl_447 : decode code 447 = .ok (.iconst 1, 1) := by decide +kernel
theorem dl_448 : decode code 448 = .ok (.iadd, 1) := by decide +kernel
theorem dl_449 : decode code 449 = .ok (.iaload, 1) := by decide +kernel
theorem dl_450 : decode code 450 = .ok (.aload_n 0, 1) := by decide +kernel
theorem dl_451 : decode code 451 = .ok (.iload_n 3, 1) := by decide +kernel
theorem dl_452 : decode code 452 = .ok (.iconst 2, 1) := by decide +kernel
theorem dl_453 : decode code 453 = .ok (.iadd, 1) := by decide +kernel
theorem dl_454 : decode code 454 = .ok (.iaload, 1) := by decide +kernel
theorem dl_455 : decode code 455 = .ok (.invokevirtual 57, 3) := by decide +kernel
theorem dl_458 : decode code 458 = .ok (.pop, 1) := by decide +kernel
theorem dl_459 : decode code 459 = .ok (.aload_n 2, 1) := by decide +kernel
theorem dl_460 : decode code 460 = .ok (.aload_n 0, 1) := by decide +kernel
theorem dl_461 : decode code 461 = .ok (.iload_n 3, 1) := by decide +kernel
theorem dl_462 : decode code 462 = .ok (.iconst 1, 1) := by decide +kernel
theorem dl_463 : decode code 463 = .ok (.iadd, 1) := by decide +kernel
theorem dl_464 : decode code 464 = .ok (.iaload, 1) := by decide +kernel
theorem dl_465 : decode code 465 = .ok (.aload_n 0, 1) := by decide +kernel
theorem dl_466 : decode code 466 = .ok (.iload_n 3, 1) := by decide +kernel
theorem dl_467 : decode code 467 = .ok (.iconst 2, 1) := by decide +kernel
theorem dl_468 : decode code 468 = .ok (.iadd, 1) := by decide +kernel
theorem dl_469 : decode code 469 = .ok (.iaload, 1) := by decide +kernel
theorem dl_470 : decode code 470 = .ok (.invokevirtual 60, 3) := by decide +kernel
theorem dl_473 : decode code 473 = .ok (.pop, 1) := by decide +kernel
theorem dl_474 : decode code 474 = .ok (.goto 413, 3) := by decide +kernel
theorem dl_477 : decode code 477 = .ok (.aload_n 1, 1) := by decide +kernel
theorem dl_478 : decode code 478 = .ok (.aload_n 0, 1) := by decide +kernel
theorem dl_479 : decode code 479 = .ok (.iload_n 3, 1) := by decide +kernel
theorem dl_480 : decode code 480 = .ok (.iconst 1, 1) := by decide +kernel
theorem dl_481 : decode code 481 = .ok (.iadd, 1) := by decide +kernel
theorem dl_482 : decode code 482 = .ok (.iaload, 1) := by decide +kernel
theorem dl_483 : decode code 483 = .ok (.i2c, 1) := by decide +kernel
theorem dl_484 : decode code 484 = .ok (.invokevirtual 61, 3) := by decide +kernel
theorem dl_487 : decode code 487 = .ok (.pop, 1) := by decide +kernel
theorem dl_488 : decode code 488 = .ok (.aload_n 2, 1) := by decide +kernel
theorem dl_489 : decode code 489 = .ok (.aload_n 0, 1) := by decide +kernel
theorem dl_490 : decode code 490 = .ok (.iload_n 3, 1) := by decide +kernel
theorem dl_491 : decode code 491 = .ok (.iconst 1, 1) := by decide +kernel
theorem dl_492 : decode code 492 = .ok (.iadd, 1) := by decide +kernel
theorem dl_493 : decode code 493 = .ok (.iaload, 1) := by decide +kernel
theorem dl_494 : decode code 494 = .ok (.i2c, 1) := by decide +kernel
theorem dl_495 : decode code 495 = .ok (.invokevirtual 65, 3) := by decide +kernel
theorem dl_498 : decode code 498 = .ok (.pop, 1) := by decide +kernel
theorem dl_499 : decode code 499 = .ok (.goto 388, 3) := by decide +kernel
theorem dl_502 : decode code 502 = .ok (.aload_n 1, 1) := by decide +kernel
theorem dl_503 : decode code 503 = .ok (.invokevirtual 66, 3) := by decide +kernel
theorem dl_506 : decode code 506 = .ok (.pop, 1) := by decide +kernel
theorem dl_507 : decode code 507 = .ok (.aload_n 2, 1) := by decide +kernel
theorem dl_508 : decode code 508 = .ok (.invokevirtual 69, 3) := by decide +kernel
theorem dl_511 : decode code 511 = .ok (.pop, 1) := by decide +kernel
theorem dl_512 : decode code 512 = .ok (.goto 375, 3) := by decide +kernel
theorem dl_515 : decode code 515 = .ok (.aload_n 1, 1) := by decide +kernel
theorem dl_516 : decode code 516 = .ok (.invokevirtual 70, 3) := by decide +kernel
theorem dl_519 : decode code 519 = .ok (.pop, 1) := by decide +kernel
theorem dl_520 : decode code 520 = .ok (.aload_n 2, 1) := by decide +kernel
theorem dl_521 : decode code 521 = .ok (.invokevirtual 73, 3) := by decide +kernel
theorem dl_524 : decode code 524 = .ok (.pop, 1) := by decide +kernel
theorem dl_525 : decode code 525 = .ok (.goto 362, 3) := by decide +kernel
theorem dl_528 : decode code 528 = .ok (.aload_n 1, 1) := by decide +kernel
theorem dl_529 : decode code 529 = .ok (.invokevirtual 74, 3) := by decide +kernel
theorem dl_532 : decode code 532 = .ok (.pop, 1) := by decide +kernel
theorem dl_533 : decode code 533 = .ok (.aload_n 2, 1) := by decide +kernel
theorem dl_534 : decode code 534 = .ok (.invokevirtual 77, 3) := by decide +kernel
theorem dl_537 : decode code 537 = .ok (.pop, 1) := by decide +kernel
theorem dl_538 : decode code 538 = .ok (.goto 349, 3) := by decide +kernel
theorem dl_541 : decode code 541 = .ok (.aload_n 1, 1) := by decide +kernel
theorem dl_542 : decode code 542 = .ok (.invokevirtual 78, 3) := by decide +kernel
theorem dl_545 : decode code 545 = .ok (.pop, 1) := by decide +kernel
theorem dl_546 : decode code 546 = .ok (.aload_n 2, 1) := by decide +kernel
theorem dl_547 : decode code 547 = .ok (.invokevirtual 81, 3) := by decide +kernel
theorem dl_550 : decode code 550 = .ok (.pop, 1) := by decide +kernel
theorem dl_551 : decode code 551 = .ok (.goto 336, 3) := by decide +kernel
theorem dl_554 : decode code 554 = .ok (.aload_n 1, 1) := by decide +kernel
theorem dl_555 : decode code 555 = .ok (.invokevirtual 82, 3) := by decide +kernel
theorem dl_558 : decode code 558 = .ok (.pop, 1) := by decide +kernel
theorem dl_559 : decode code 559 = .ok (.aload_n 2, 1) := by decide +kernel
theorem dl_560 : decode code 560 = .ok (.invokevirtual 85, 3) := by decide +kernel
theorem dl_563 : decode code 563 = .ok (.pop, 1) := by decide +kernel
theorem dl_564 : decode code 564 = .ok (.goto 323, 3) := by decide +kernel
theorem dl_567 : decode code 567 = .ok (.aload_n 1, 1) := by decide +kernel
theorem dl_568 : decode code 568 = .ok (.aload_n 0, 1) := by decide +kernel
theorem dl_569 : decode code 569 = .ok (.iload_n 3, 1) := by decide +kernel
theorem dl_570 : decode code 570 = .ok (.iconst 1, 1) := by decide +kernel
theorem dl_571 : decode code 571 = .ok (.iadd, 1) := by decide +kernel
theorem dl_572 : decode code 572 = .ok (.iaload, 1) := by decide +kernel
theorem dl_573 : decode code 573 = .ok (.aload_n 0, 1) := by decide +kernel
theorem dl_574 : decode code 574 = .ok (.iload_n 3, 1) := by decide +kernel
theorem dl_575 : decode code 575 = .ok (.iconst 2, 1) := by decide +kernel
theorem dl_576 : decode code 576 = .ok (.iadd, 1) := by decide +kernel
theorem dl_577 : decode code 577 = .ok (.iaload, 1) := by decide +kernel
theorem dl_578 : decode code 578 = .ok (.invokevirtual 86, 3) := by decide +kernel
theorem dl_581 : decode code 581 = .ok (.pop, 1) := by decide +kernel
theorem dl_582 : decode code 582 = .ok (.aload_n 2, 1) := by decide +kernel
theorem dl_583 : decode code 583 = .ok (.aload_n 0, 1) := by decide +kernel
theorem dl_584 : decode code 584 = .ok (.iload_n 3, 1) := by decide +kernel
theorem dl_585 : decode code 585 = .ok (.iconst 1, 1) := by decide +kernel
theorem dl_586 : decode code 586 = .ok (.iadd, 1) := by decide +kernel
theorem dl_587 : decode code 587 = .ok (.iaload, 1) := by decide +kernel
theorem dl_588 : decode code 588 = .ok (.aload_n 0, 1) := by decide +kernel
theorem dl_589 : decode code 589 = .ok (.iload_n 3, 1) := by decide +kernel
theorem dl_590 : decode code 590 = .ok (.iconst 2, 1) := by decide +kernel
theorem dl_591 : decode code 591 = .ok (.iadd, 1) := by decide +kernel
theorem dl_592 : decode code 592 = .ok (.iaload, 1) := by decide +kernel
theorem dl_593 : decode code 593 = .ok (.invokevirtual 89, 3) := by decide +kernel
theorem dl_596 : decode code 596 = .ok (.pop, 1) := by decide +kernel
theorem dl_597 : decode code 597 = .ok (.goto 290, 3) := by decide +kernel
theorem dl_600 : decode code 600 = .ok (.aload_n 1, 1) := by decide +kernel
theorem dl_601 : decode code 601 = .ok (.aload_n 0, 1) := by decide +kernel
theorem dl_602 : decode code 602 = .ok (.iload_n 3, 1) := by decide +kernel
theorem dl_603 : decode code 603 = .ok (.iconst 1, 1) := by decide +kernel
theorem dl_604 : decode code 604 = .ok (.iadd, 1) := by decide +kernel
theorem dl_605 : decode code 605 = .ok (.iaload, 1) := by decide +kernel
theorem dl_606 : decode code 606 = .ok (.aload_n 0, 1) := by decide +kernel
theorem dl_607 : decode code 607 = .ok (.iload_n 3, 1) := by decide +kernel
theorem dl_608 : decode code 608 = .ok (.iconst 2, 1) := by decide +kernel
theorem dl_609 : decode code 609 = .ok (.iadd, 1) := by decide +kernel
theorem dl_610 : decode code 610 = .ok (.iaload, 1) := by decide +kernel
theorem dl_611 : decode code 611 = .ok (.invokevirtual 90, 3) := by decide +kernel
theorem dl_614 : decode code 614 = .ok (.pop, 1) := by decide +kernel
theorem dl_615 : decode code 615 = .ok (.aload_n 2, 1) := by decide +kernel
theorem dl_616 : decode code 616 = .ok (.aload_n 0, 1) := by decide +kernel
theorem dl_617 : decode code 617 = .ok (.iload_n 3, 1) := by decide +kernel
theorem dl_618 : decode code 618 = .ok (.iconst 1, 1) := by decide +kernel
theorem dl_619 : decode code 619 = .ok (.iadd, 1) := by decide +kernel
theorem dl_620 : decode code 620 = .ok (.iaload, 1) := by decide +kernel
theorem dl_621 : decode code 621 = .ok (.aload_n 0, 1) := by decide +kernel
theorem dl_622 : decode code 622 = .ok (.iload_n 3, 1) := by decide +kernel
theorem dl_623 : decode code 623 = .ok (.iconst 2, 1) := by decide +kernel
theorem dl_624 : decode code 624 = .ok (.iadd, 1) := by decide +kernel
theorem dl_625 : decode code 625 = .ok (.iaload, 1) := by decide +kernel
theorem dl_626 : decode code 626 = .ok (.invokevirtual 93, 3) := by decide +kernel
theorem dl_629 : decode code 629 = .ok (.pop, 1) := by decide +kernel
theorem dl_630 : decode code 630 = .ok (.goto 257, 3) := by decide +kernel
theorem dl_633 : decode code 633 = .ok (.aload_n 1, 1) := by decide +kernel
theorem dl_634 : decode code 634 = .ok (.aload_n 0, 1) := by decide +kernel
theorem dl_635 : decode code 635 = .ok (.iload_n 3, 1) := by decide +kernel
theorem dl_636 : decode code 636 = .ok (.iconst 1, 1) := by decide +kernel
theorem dl_637 : decode code 637 = .ok (.iadd, 1) := by decide +kernel
theorem dl_638 : decode code 638 = .ok (.iaload, 1) := by decide +kernel
theorem dl_639 : decode code 639 = .ok (.aload_n 0, 1) := by decide +kernel
theorem dl_640 : decode code 640 = .ok (.iload_n 3, 1) := by decide +kernel
theorem dl_641 : decode code 641 = .ok (.iconst 2, 1) := by decide +kernel
theorem dl_642 : decode code 642 = .ok (.iadd, 1) := by decide +kernel
theorem dl_643 : decode code 643 = .ok (.iaload, 1) := by decide +kernel
theorem dl_644 : decode code 644 = .ok (.invokevirtual 94, 3) := by decide +kernel
theorem dl_647 : decode code 647 = .ok (.pop, 1) := by decide +kernel
theorem dl_648 : decode code 648 = .ok (.aload_n 2, 1) := by decide +kernel
theorem dl_649 : decode code 649 = .ok (.aload_n 0, 1) := by decide +kernel
theorem dl_650 : decode code 650 = .ok (.iload_n 3, 1) := by decide +kernel
theorem dl_651 : decode code 651 = .ok (.iconst 1, 1) := by decide +kernel
theorem dl_652 : decode code 652 = .ok (.iadd, 1) := by decide +kernel
theorem dl_653 : decode code 653 = .ok (.iaload, 1) := by decide +kernel
theorem dl_654 : decode code 654 = .ok (.aload_n 0, 1) := by decide +kernel
theorem dl_655 : decode code 655 = .ok (.iload_n 3, 1) := by decide +kernel
theorem dl_656 : decode code 656 = .ok (.iconst 2, 1) := by decide +kernel
theorem dl_657 : decode code 657 = .ok (.iadd, 1) := by decide +kernel
theorem dl_658 : decode code 658 = .ok (.iaload, 1) := by decide +kernel
theorem dl_659 : decode code 659 = .ok (.invokevirtual 97, 3) := by decide +kernel
theorem dl_662 : decode code 662 = .ok (.pop, 1) := by decide +kernel
theorem dl_663 : decode code 663 = .ok (.goto 224, 3) := by decide +kernel
theorem dl_666 : decode code 666 = .ok (.aload_n 1, 1) := by decide +kernel
theorem dl_667 : decode code 667 = .ok (.aload_n 0, 1) := by decide +kernel
theorem dl_668 : decode code 668 = .ok (.iload_n 3, 1) := by decide +kernel
theorem dl_669 : decode code 669 = .ok (.iconst 1, 1) := by decide +kernel
theorem dl_670 : decode code 670 = .ok (.iadd, 1) := by decide +kernel
theorem dl_671 : decode code 671 = .ok (.iaload, 1) := by decide +kernel
theorem dl_672 : decode code 672 = .ok (.invokevirtual 98, 3) := by decide +kernel
theorem dl_675 : decode code 675 = .ok (.pop, 1) := by decide +kernel
theorem dl_676 : decode code 676 = .ok (.aload_n 2, 1) := by decide +kernel
theorem dl_677 : decode code 677 = .ok (.aload_n 0, 1) := by decide +kernel
theorem dl_678 : decode code 678 = .ok (.iload_n 3, 1) := by decide +kernel
theorem dl_679 : decode code 679 = .ok (.iconst 1, 1) := by decide +kernel
theorem dl_680 : decode code 680 = .ok (.iadd, 1) := by decide +kernel
theorem dl_681 : decode code 681 = .ok (.iaload, 1) := by decide +kernel
theorem dl_682 : decode code 682 = .ok (.invokevirtual 101, 3) := by decide +kernel
theorem dl_685 : decode code 685 = .ok (.pop, 1) := by decide +kernel
theorem dl_686 : decode code 686 = .ok (.goto 201, 3) := by decide +kernel
theorem dl_689 : decode code 689 = .ok (.aload_n 1, 1) := by decide +kernel
theorem dl_690 : decode code 690 = .ok (.aload_n 0, 1) := by decide +kernel
theorem dl_691 : decode code 691 = .ok (.iload_n 3, 1) := by decide +kernel
theorem dl_692 : decode code 692 = .ok (.iconst 1, 1) := by decide +kernel
theorem dl_693 : decode code 693 = .ok (.iadd, 1) := by decide +kernel
theorem dl_694 : decode code 694 = .ok (.iaload, 1) := by decide +kernel
theorem dl_695 : decode code 695 = .ok (.aload_n 0, 1) := by decide +kernel
theorem dl_696 : decode code 696 = .ok (.iload_n 3, 1) := by decide +kernel
theorem dl_697 : decode code 697 = .ok (.iconst 2, 1) := by decide +kernel
theorem dl_698 : decode code 698 = .ok (.iadd, 1) := by decide +kernel
theorem dl_699 : decode code 699 = .ok (.iaload, 1) := by decide +kernel
theorem dl_700 : decode code 700 = .ok (.invokevirtual 102, 3) := by decide +kernel
theorem dl_703 : decode code 703 = .ok (.pop, 1) := by decide +kernel
theorem dl_704 : decode code 704 = .ok (.aload_n 2, 1) := by decide +kernel
theorem dl_705 : decode code 705 = .ok (.aload_n 0, 1) := by decide +kernel
theorem dl_706 : decode code 706 = .ok (.iload_n 3, 1) := by decide +kernel
theorem dl_707 : decode code 707 = .ok (.iconst 1, 1) := by decide +kernel
theorem dl_708 : decode code 708 = .ok (.iadd, 1) := by decide +kernel
theorem dl_709 : decode code 709 = .ok (.iaload, 1) := by decide +kernel
theorem dl_710 : decode code 710 = .ok (.aload_n 0, 1) := by decide +kernel
theorem dl_711 : decode code 711 = .ok (.iload_n 3, 1) := by decide +kernel
theorem dl_712 : decode code 712 = .ok (.iconst 2, 1) := by decide +kernel
theorem dl_713 : decode code 713 = .ok (.iadd, 1) := by decide +kernel
theorem dl_714 : decode code 714 = .ok (.iaload, 1) := by decide +kernel
theorem dl_715 : decode code 715 = .ok (.invokevirtual 105, 3) := by decide +kernel
theorem dl_718 : decode code 718 = .ok (.pop, 1) := by decide +kernel
theorem dl_719 : decode code 719 = .ok (.goto 168, 3) := by decide +kernel
theorem dl_722 : decode code 722 = .ok (.aload_n 1, 1) := by decide +kernel
theorem dl_723 : decode code 723 = .ok (.aload_n 0, 1) := by decide +kernel
theorem dl_724 : decode code 724 = .ok (.iload_n 3, 1) := by decide +kernel
theorem dl_725 : decode code 725 = .ok (.iconst 1, 1) := by decide +kernel
theorem dl_726 : decode code 726 = .ok (.iadd, 1) := by decide +kernel
theorem dl_727 : decode code 727 = .ok (.iaload, 1) := by decide +kernel
theorem dl_728 : decode code 728 = .ok (.invokevirtual 106, 3) := by decide +kernel
theorem dl_731 : decode code 731 = .ok (.pop, 1) := by decide +kernel
theorem dl_732 : decode code 732 = .ok (.aload_n 2, 1) := by decide +kernel
theorem dl_733 : decode code 733 = .ok (.aload_n 0, 1) := by decide +kernel
theorem dl_734 : decode code 734 = .ok (.iload_n 3, 1) := by decide +kernel
theorem dl_735 : decode code 735 = .ok (.iconst 1, 1) := by decide +kernel
theorem dl_736 : decode code 736 = .ok (.iadd, 1) := by decide +kernel
theorem dl_737 : decode code 737 = .ok (.iaload, 1) := by decide +kernel
theorem dl_738 : decode code 738 = .ok (.invokevirtual 109, 3) := by decide +kernel
theorem dl_741 : decode code 741 = .ok (.pop, 1) := by decide +kernel
theorem dl_742 : decode code 742 = .ok (.goto 145, 3) := by decide +kernel
theorem dl_745 : decode code 745 = .ok (.aload_n 1, 1) := by decide +kernel
theorem dl_746 : decode code 746 = .ok (.invokevirtual 110, 3) := by decide +kernel
theorem dl_749 : decode code 749 = .ok (.f2d, 1) := by decide +kernel
theorem dl_750 : decode code 750 = .ok (.dstore 4, 2) := by decide +kernel
theorem dl_752 : decode code 752 = .ok (.aload_n 2, 1) := by decide +kernel
theorem dl_753 : decode code 753 = .ok (.invokevirtual 114, 3) := by decide +kernel
theorem dl_756 : decode code 756 = .ok (.f2d, 1) := by decide +kernel
theorem dl_757 : decode code 757 = .ok (.dstore 6, 2) := by decide +kernel
theorem dl_759 : decode code 759 = .ok (.goto 128, 3) := by decide +kernel
theorem dl_762 : decode code 762 = .ok (.aload_n 1, 1) := by decide +kernel
theorem dl_763 : decode code 763 = .ok (.aload_n 0, 1) := by decide +kernel
theorem dl_764 : decode code 764 = .ok (.iload_n 3, 1) := by decide +kernel
theorem dl_765 : decode code 765 = .ok (.iconst 1, 1) := by decide +kernel
theorem dl_766 : decode code 766 = .ok (.iadd, 1) := by decide +kernel
theorem dl_767 : decode code 767 = .ok (.iaload, 1) := by decide +kernel
theorem dl_768 : decode code 768 = .ok (.aload_n 0, 1) := by decide +kernel
theorem dl_769 : decode code 769 = .ok (.iload_n 3, 1) := by decide +kernel
theorem dl_770 : decode code 770 = .ok (.iconst 2, 1) := by decide +kernel
theorem dl_771 : decode code 771 = .ok (.iadd, 1) := by decide +kernel
theorem dl_772 : decode code 772 = .ok (.iaload, 1) := by decide +kernel
theorem dl_773 : decode code 773 = .ok (.aload_n 0, 1) := by decide +kernel
theorem dl_774 : decode code 774 = .ok (.iload_n 3, 1) := by decide +kernel
theorem dl_775 : decode code 775 = .ok (.iconst 3, 1) := by decide +kernel
theorem dl_776 : decode code 776 = .ok (.iadd, 1) := by decide +kernel
theorem dl_777 : decode code 777 = .ok (.iaload, 1) := by decide +kernel
theorem dl_778 : decode code 778 = .ok (.invokevirtual 115, 3) := by decide +kernel
theorem dl_781 : decode code 781 = .ok (.pop, 1) := by decide +kernel
theorem dl_782 : decode code 782 = .ok (.aload_n 2, 1) := by decide +kernel
theorem dl_783 : decode code 783 = .ok (.aload_n 0, 1) := by decide +kernel
theorem dl_784 : decode code 784 = .ok (.iload_n 3, 1) := by decide +kernel
theorem dl_785 : decode code 785 = .ok (.iconst 1, 1) := by decide +kernel
theorem dl_786 : decode code 786 = .ok (.iadd, 1) := by decide +kernel
theorem dl_787 : decode code 787 = .ok (.iaload, 1) := by decide +kernel
theorem dl_788 : decode code 788 = .ok (.aload_n 0, 1) := by decide +kernel
theorem dl_789 : decode code 789 = .ok (.iload_n 3, 1) := by decide +kernel
theorem dl_790 : decode code 790 = .ok (.iconst 2, 1) := by decide +kernel
theorem dl_791 : decode code 791 = .ok (.iadd, 1) := by decide +kernel
theorem dl_792 : decode code 792 = .ok (.iaload, 1) := by decide +kernel
theorem dl_793 : decode code 793 = .ok (.aload_n 0, 1) := by decide +kernel
theorem dl_794 : decode code 794 = .ok (.iload_n 3, 1) := by decide +kernel
theorem dl_795 : decode code 795 = .ok (.iconst 3, 1) := by decide +kernel
theorem dl_796 : decode code 796 = .ok (.iadd, 1) := by decide +kernel
theorem dl_797 : decode code 797 = .ok (.iaload, 1) := by decide +kernel
theorem dl_798 : decode code 798 = .ok (.invokevirtual 119, 3) := by decide +kernel
theorem dl_801 : decode code 801 = .ok (.pop, 1) := by decide +kernel
theorem dl_802 : decode code 802 = .ok (.goto 85, 3) := by decide +kernel
theorem dl_805 : decode code 805 = .ok (.aload_n 1, 1) := by decide +kernel
theorem dl_806 : decode code 806 = .ok (.aload_n 0, 1) := by decide +kernel
theorem dl_807 : decode code 807 = .ok (.iload_n 3, 1) := by decide +kernel
theorem dl_808 : decode code 808 = .ok (.iconst 1, 1) := by decide +kernel
theorem dl_809 : decode code 809 = .ok (.iadd, 1) := by decide +kernel
theorem dl_810 : decode code 810 = .ok (.iaload, 1) := by decide +kernel
theorem dl_811 : decode code 811 = .ok (.invokevirtual 120, 3) := by decide +kernel
theorem dl_814 : decode code 814 = .ok (.pop, 1) := by decide +kernel
theorem dl_815 : decode code 815 = .ok (.aload_n 2, 1) := by decide +kernel
theorem dl_816 : decode code 816 = .ok (.aload_n 0, 1) := by decide +kernel
theorem dl_817 : decode code 817 = .ok (.iload_n 3, 1) := by decide +kernel
theorem dl_818 : decode code 818 = .ok (.iconst 1, 1) := by decide +kernel
theorem dl_819 : decode code 819 = .ok (.iadd, 1) := by decide +kernel
theorem dl_820 : decode code 820 = .ok (.iaload, 1) := by decide +kernel
theorem dl_821 : decode code 821 = .ok (.invokevirtual 123, 3) := by decide +kernel
theorem dl_824 : decode code 824 = .ok (.pop, 1) := by decide +kernel
theorem dl_825 : decode code 825 = .ok (.goto 62, 3) := by decide +kernel
theorem dl_828 : decode code 828 = .ok (.aload_n 1, 1) := by decide +kernel
theorem dl_829 : decode code 829 = .ok (.aload_n 0, 1) := by decide +kernel
theorem dl_830 : decode code 830 = .ok (.iload_n 3, 1) := by decide +kernel
theorem dl_831 : decode code 831 = .ok (.iconst 1, 1) := by decide +kernel
theorem dl_832 : decode code 832 = .ok (.iadd, 1) := by decide +kernel
theorem dl_833 : decode code 833 = .ok (.iaload, 1) := by decide +kernel
theorem dl_834 : decode code 834 = .ok (.aload_n 0, 1) := by decide +kernel
theorem dl_835 : decode code 835 = .ok (.iload_n 3, 1) := by decide +kernel
theorem dl_836 : decode code 836 = .ok (.iconst 2, 1) := by decide +kernel
theorem dl_837 : decode code 837 = .ok (.iadd, 1) := by decide +kernel
theorem dl_838 : decode code 838 = .ok (.iaload, 1) := by decide +kernel
theorem dl_839 : decode code 839 = .ok (.invokevirtual 124, 3) := by decide +kernel
theorem dl_842 : decode code 842 = .ok (.pop, 1) := by decide +kernel
theorem dl_843 : decode code 843 = .ok (.aload_n 2, 1) := by decide +kernel
theorem dl_844 : decode code 844 = .ok (.aload_n 0, 1) := by decide +kernel
theorem dl_845 : decode code 845 = .ok (.iload_n 3, 1) := by decide +kernel
theorem dl_846 : decode code 846 = .ok (.iconst 1, 1) := by decide +kernel
theorem dl_847 : decode code 847 = .ok (.iadd, 1) := by decide +kernel
theorem dl_848 : decode code 848 = .ok (.iaload, 1) := by decide +kernel
theorem dl_849 : decode code 849 = .ok (.aload_n 0, 1) := by decide +kernel
theorem dl_850 : decode code 850 = .ok (.iload_n 3, 1) := by decide +kernel
theorem dl_851 : decode code 851 = .ok (.iconst 2, 1) := by decide +kernel
theorem dl_852 : decode code 852 = .ok (.iadd, 1) := by decide +kernel
theorem dl_853 : decode code 853 = .ok (.iaload, 1) := by decide +kernel
theorem dl_854 : decode code 854 = .ok (.invokevirtual 127, 3) := by decide +kernel
theorem dl_857 : decode code 857 = .ok (.pop, 1) := by decide +kernel
theorem dl_858 : decode code 858 = .ok (.goto 29, 3) := by decide +kernel
theorem dl_861 : decode code 861 = .ok (.aload_n 1, 1) := by decide +kernel
theorem dl_862 : decode code 862 = .ok (.invokevirtual 128, 3) := by decide +kernel
theorem dl_865 : decode code 865 = .ok (.pop, 1) := by decide +kernel
theorem dl_866 : decode code 866 = .ok (.aload_n 2, 1) := by decide +kernel
theorem dl_867 : decode code 867 = .ok (.invokevirtual 131, 3) := by decide +kernel
theorem dl_870 : decode code 870 = .ok (.pop, 1) := by decide +kernel
theorem dl_871 : decode code 871 = .ok (.goto 16, 3) := by decide +kernel
theorem dl_874 : decode code 874 = .ok (.aload_n 1, 1) := by decide +kernel
theorem dl_875 : decode code 875 = .ok (.invokevirtual 132, 3) := by decide +kernel
theorem dl_878 : decode code 878 = .ok (.aload_n 2, 1) := by decide +kernel
theorem dl_879 : decode code 879 = .ok (.invokevirtual 135, 3) := by decide +kernel
theorem dl_882 : decode code 882 = .ok (.if_icmp .eq 5, 3) := by decide +kernel
theorem dl_885 : decode code 885 = .ok (.iconst 0, 1) := by decide +kernel
theorem dl_886 : decode code 886 = .ok (.ireturn, 1) := by decide +kernel
theorem dl_887 : decode code 887 = .ok (.iinc 3 5, 3) := by decide +kernel
theorem dl_890 : decode code 890 = .ok (.goto (-872), 3) := by decide +kernel
theorem dl_893 : decode code 893 = .ok (.iconst 1, 1) := by decide +kernel
theorem dl_894 : decode code 894 = .ok (.ireturn, 1) := by decide +kernel
def ltL : List (Nat × Nat × Nat) := [(13, 90, 399), (17, 146, 929), (18, 91, 457), (22, 147, 944), (23, 92, 461), (27, 151, 948), (28, 93, 514), (32, 152, 992), (33, 94, 566), (36, 154, 1038), (37, 95, 592), (40, 157, 1054), (41, 96, 609), (44, 163, 1066), (45, 97, 661), (48, 167, 1106), (49, 98, 704), (52, 168, 1134), (53, 99, 721), (56, 169, 1138), (57, 100, 726), (60, 171, 1142), (61, 101, 736), (65, 172, 1149), (66, 102, 744), (69, 173, 1153), (70, 103, 748), (73, 183, 1157), (74, 104, 752), (77, 184, 1161), (78, 105, 760), (81, 185, 1165), (82, 106, 764), (85, 186, 1169), (86, 107, 768), (89, 189, 1173), (90, 108, 782), (93, 191, 1185), (94, 109, 792), (97, 194, 1193), (98, 110, 805), (101, 195, 1205), (102, 111, 817), (105, 196, 1209), (106, 112, 825), (109, 201, 1213), (110, 113, 848), (114, 202, 1237), (115, 114, 852), (119, 204, 1241), (120, 115, 860), (123, 205, 1249), (124, 116, 864), (127, 206, 1253), (128, 117, 868), (131, 207, 1257), (132, 118, 879), (135, 208, 1261)]
def ltJ : List (Nat × Nat × Nat) := [(9, 89, 80), (12, 123, 885)]
def ltN : List (Nat × Nat × Nat) := [(7, 10, 78), (10, 11, 883)]
def npL : List Nat := [88, 94, 129, 191, 210, 229, 256, 327, 341, 473]
-- {'AI': 119, 'AC': 379, 'O0': 127, 'O9': 326, 'S_WEIGHTS': 499, 'S_MINUTES_A_DEGREE': 586, 'S_HANGERS_TAKEN': 630, 'S_MINUTES': 653}
set_option maxRecDepth 100000 in
theorem ltL_ok : ltL.all (fun e => decide (e.2.1 < mtab.length) && decide ((mP e.2.1).1 = 0) && decide (lw_tbl[e.2.2]? = some (Cond.methodLink RL e.1 (mN e.2.1)))) = true := by decide +kernel
set_option maxRecDepth 100000 in
theorem ltJ_ok : ltJ.all (fun e => decide (e.2.1 < mtab.length) && decide ((mP e.2.1).1 = 1) && decide (lw_tbl[e.2.2]? = some (Cond.methodLink RL e.1 (mN e.2.1)))) = true := by decide +kernel
set_option maxRecDepth 100000 in
theorem ltN_ok : ltN.all (fun e => decide (e.2.1 < 12) && decide (lw_tbl[e.2.2]? = some (Cond.classLink RL e.1 (fR e.2.1)))) = true := by decide +kernel
theorem ltL_at {i j q : Nat} (h : (i, j, q) ∈ ltL) : j < mtab.length ∧ (mP j).1 = 0 ∧ Cond.methodLink RL i (mN j) ∈ gw := by
  have := List.all_eq_true.mp ltL_ok _ h
  simp only [Bool.and_eq_true, decide_eq_true_eq] at this
  exact ⟨this.1.1, this.1.2, lw_at this.2 rfl⟩
theorem ltJ_at {i j q : Nat} (h : (i, j, q) ∈ ltJ) : j < mtab.length ∧ (mP j).1 = 1 ∧ Cond.methodLink RL i (mN j) ∈ gw := by
  have := List.all_eq_true.mp ltJ_ok _ h
  simp only [Bool.and_eq_true, decide_eq_true_eq] at this
  exact ⟨this.1.1, this.1.2, lw_at this.2 rfl⟩
theorem ltN_at {i ci q : Nat} (h : (i, ci, q) ∈ ltN) : ci < 12 ∧ Cond.classLink RL i (fR ci) ∈ gw := by
  have := List.all_eq_true.mp ltN_ok _ h
  simp only [Bool.and_eq_true, decide_eq_true_eq] at this
  exact ⟨this.1, lw_at this.2 rfl⟩
/-- the law at work: the machine, its code, the words, the world -/
def LC (b : Nat) (t : Nat → Nat) (ac : Nat → ClassId) (D : va_G) (p : Program) (s : State) (m : MethodId) (args : Array Value) (c : Code) : Prop :=
  p.tables.exec = Jvm.exec ∧ c.code = code ∧ c.maxLocals = 8 ∧ s.vm.findClass RL = some m.cls ∧ (∀ w ∈ gw, w.before args s = true) ∧ EV b t ac D s ∧ b ≤ s.heap.size
theorem EV.dr {b : Nat} {t : Nat → Nat} {ac : Nat → ClassId} {D : va_G} {U : State} (h : EV b t ac D U) (d : Drawn) : EV b t ac D (U.setDrawn d) := by
  obtain ⟨h1, h2, h3, h4, h5⟩ := h
  exact ⟨va_K.moved (u := U) (U := U.setDrawn d) (Vm.Alike.refl U.vm) h1, fun q hq => va_Nw.same rfl (u := U) rfl (h2 q hq), fun k hk => ⟨(h3 k hk).1.moved (u := U) (U := U.setDrawn d) (Vm.Alike.refl U.vm), (h3 k hk).2.moved (u := U) (U := U.setDrawn d) (Vm.Alike.refl U.vm)⟩, h4.moved (u := U) (U := U.setDrawn d) (Vm.Alike.refl U.vm), h5.moved (u := U) (U := U.setDrawn d) (Vm.Alike.refl U.vm)⟩
theorem LC.dr {b : Nat} {t : Nat → Nat} {ac : Nat → ClassId} {D : va_G} {p : Program} {s : State} {m : MethodId} {args : Array Value} {c : Code} (h : LC b t ac D p s m args c) (d : Drawn) : LC b t ac D p (s.setDrawn d) m args c := ⟨h.1, h.2.1, h.2.2.1, h.2.2.2.1, dr_words h.2.2.2.2.1 d, h.2.2.2.2.2.1.dr d, h.2.2.2.2.2.2⟩
section LCALL
variable {p : Program} {l : Launch} {e : Env} {s : State} {m : MethodId} {args : Array Value} {below : List Frame} {meth : Method} {c : Code} {H : Heap} {locs : List Loc} {cells slots : Nat} {Q : State → Prop} {b : Nat} {t : Nat → Nat} {ac : Nat → ClassId} {D : va_G} {pc : Nat} {ls : Array Slot} {h h' : List hC}
/-- a call out of the law -/
theorem L_callM {i j q a : Nat} {as : List Value} {rest : List Value} {v : Option Value} {fs : List Value} (hl : (i, j, q) ∈ ltL) (C : LC b t ac D p s m args c) (hd : decode code pc = .ok (.invokevirtual i, 3)) (hM : Met l (mN j) (wsm j) (rmm j 0 0) (Pm b t ac D (.ref a :: as) h) (Qm b t ac D v h') 0 0 (fun q => b ≤ q)) (hcell : h[a]? = some (.inl (mC j, fs))) (hlen : as.length + 1 = mA j) (hroom : mF j + 1 ≤ room_1.frames ∧ 8 + (mL j + 11) + mW j ≤ room_1.locals) (hls : ls.size = 8) (hrest : (rest.map fun v => v.category).sum ≤ 8) (hW : WH b t ac D h H) (hS : va_S (fun q => b ≤ q) s.heap H locs) (hsz : s.heap.size + cells ≤ b + h.length) (hcs : cells ≤ room_1.cells ∧ slots ≤ room_1.slots)
    (k : ∀ (H' : Heap) (locs' : List Loc), WH b t ac D h' H' → va_S (fun q => b ≤ q) s.heap H' locs' → W p l e room_1 s m args below meth c H' locs' cells slots Q (F0 m (pc + 3) ls ((v.map (cv (ad b t))).toList ++ rest))) :
    W p l e room_1 s m args below meth c H locs cells slots Q (F0 m pc ls ((as.map (cv (ad b t))).reverse ++ (.ref (ad b t a) :: rest))) := by
  obtain ⟨hx0, hb, hml0, hown, hts, hE, hbs⟩ := C
  obtain ⟨hj, hP0, hlink⟩ := ltL_at hl
  obtain ⟨w1, w2, w3, w4, w5, w6, w7, -, -⟩ := mrow_at hj
  obtain ⟨q1, q2, q3⟩ := w7 hP0
  have hn : (parseMethodDescriptor (mN j).desc).map (fun d => d.parameters.length) = some as.length := desc_n (by rw [q3, hlen])
  have hfix : CallFix p m c code 8 s args gw RL := ⟨hx0, hb, hml0, hown, hts⟩
  intro T hT X0
  have hTs : H.size ≤ b + h.length := by
    have := X0.heapSize
    rw [hT] at this
    omega
  have hb2 : b ≤ H.size := Nat.le_trans hbs hS.1
  have hPm : ∀ U : State, U.heap = H → s.WarmedH U.vm → Pm b t ac D (.ref a :: as) h (((Value.ref a :: as).map (cv (ad b t))).toArray) U := fun U hU hWm => ⟨rfl, by rw [hU]; exact hW, hE.to hS hWm hU, by rw [hU]; exact hb2, by rw [hU]; exact hTs⟩
  refine W_call (v := v) (h1 := h') (va_runV (C := (mN j).cls) (As := as.map (cv (ad b t))) (rest := rest) (b := ad b t a) hfix hM (cwV as.length hts (gw_all (fun w hw => ?_)) rfl rfl rfl ⟨rfl, w5, w6, hn⟩ hroom) ⟨Pm_blind, ?_, fun U hU hWm => hPm U hU hWm⟩ rfl (by rw [List.length_map]) hls rfl (lv_room hrest) hd hcs) hS (fun H' locs' g1 g2 => k H' locs' g1 g2) T hT X0
  · rcases List.mem_append.mp hw with hw | hw
    · simp only [List.mem_cons, List.not_mem_nil, or_false] at hw
      rcases hw with rfl | rfl | rfl | rfl
      · exact hlink
      · exact q1
      · exact q2
      · exact w1
    · exact wsm_in hj w hw
  · rw [w2]
    exact va_recv hE.1 hW (vw_at w3) (wz_at hcell)
/-- a call out of the law -/
theorem L_call {i j q a : Nat} {as : List Value} {rest : List Value} {v : Option Value} {fs : List Value} (hl : (i, j, q) ∈ ltL) (C : LC b t ac D p s m args c) (hd : decode code pc = .ok (.invokevirtual i, 3)) (hz : mZ j = false) (hx : X j 0 (pad j (.ref a :: as)) [] h = some (v, h')) (hcell : h[a]? = some (.inl (mC j, fs))) (hc : (Value.ref a :: as).all cat1 = true) (hlen : as.length + 1 = mA j) (hml : mA j ≤ mL j) (hroom : mF j + 1 ≤ room_1.frames ∧ 8 + (mL j + 11) + mW j ≤ room_1.locals) (hls : ls.size = 8) (hrest : (rest.map fun v => v.category).sum ≤ 8) (hW : WH b t ac D h H) (hS : va_S (fun q => b ≤ q) s.heap H locs) (hhl : h.length ≤ sB) (hsz : s.heap.size + cells ≤ b + h.length) (hcs : cells ≤ room_1.cells ∧ slots ≤ room_1.slots)
    (k : ∀ (H' : Heap) (locs' : List Loc), WH b t ac D h' H' → va_S (fun q => b ≤ q) s.heap H' locs' → W p l e room_1 s m args below meth c H' locs' cells slots Q (F0 m (pc + 3) ls ((v.map (cv (ad b t))).toList ++ rest))) :
    W p l e room_1 s m args below meth c H locs cells slots Q (F0 m pc ls ((as.map (cv (ad b t))).reverse ++ (.ref (ad b t a) :: rest))) := by
  obtain ⟨hj, -, -⟩ := ltL_at hl
  exact L_callM hl C hd (met_X l (b := b) (t := t) (ac := ac) (D := D) hj hz hx hc (by rw [List.length_cons]; omega) hhl) hcell hlen hroom hls hrest hW hS hsz hcs k
/-- a constructor, called out of the law -/
theorem L_init {i j q a n a1 b1 : Nat} {rest : List Value} (hl : (i, j, q) ∈ ltJ) (C : LC b t ac D p s m args c) (hd : decode code pc = .ok (.invokespecial i, 3)) (hx : exec n j 0 (pad j [.ref a]) [] h = some (none, h', a1, b1)) (hlen : 1 = mA j) (hml : mA j ≤ mL j) (hroom : mF j + 1 ≤ room_1.frames ∧ 8 + (mL j + 11) + mW j ≤ room_1.locals) (hls : ls.size = 8) (hrest : (rest.map fun v => v.category).sum ≤ 8) (hW : WH b t ac D h H) (hS : va_S (fun q => b ≤ q) s.heap H locs) (hhl : h.length + a1 ≤ sB) (hsz : s.heap.size + cells ≤ b + h.length) (hcs : cells + a1 ≤ room_1.cells ∧ slots + b1 ≤ room_1.slots)
    (k : ∀ (H' : Heap) (locs' : List Loc), WH b t ac D h' H' → va_S (fun q => b ≤ q) s.heap H' locs' → W p l e room_1 s m args below meth c H' locs' (cells + a1) (slots + b1) Q (F0 m (pc + 3) ls rest)) :
    W p l e room_1 s m args below meth c H locs cells slots Q (F0 m pc ls (.ref (ad b t a) :: rest)) := by
  obtain ⟨hx0, hb, hml0, hown, hts, hE, hbs⟩ := C
  obtain ⟨hj, hP0, hlink⟩ := ltJ_at hl
  have hM := met_of (snd l n) (b := b) (t := t) (ac := ac) (D := D) hj hx (show ([.ref a] : List Value).all cat1 = true from rfl) (by rw [List.length_singleton]; omega) hhl
  obtain ⟨w1, w2, w3, w4, w5, w6, -, w7, -⟩ := mrow_at hj
  obtain ⟨q1, q2, q4, q3⟩ := w7 hP0
  have hn : (parseMethodDescriptor (mN j).desc).map (fun d => d.parameters.length) = some 0 := desc_n (by rw [q3, ← hlen])
  have hwr : wsm j = Cond.code (mN j) (mB j) (mL j) none :: gw := by unfold wsm; rw [q4]
  have hfix : CallFix p m c code 8 s args gw RL := ⟨hx0, hb, hml0, hown, hts⟩
  intro T hT X0
  have hTs : H.size ≤ b + h.length := by
    have := X0.heapSize
    rw [hT] at this
    omega
  have hb2 : b ≤ H.size := Nat.le_trans hbs hS.1
  have hPm : ∀ U : State, U.heap = H → s.WarmedH U.vm → Pm b t ac D [.ref a] h ((([.ref a] : List Value).map (cv (ad b t))).toArray) U := fun U hU hWm => ⟨rfl, by rw [hU]; exact hW, hE.to hS hWm hU, by rw [hU]; exact hb2, by rw [hU]; exact hTs⟩
  exact W_call (v := none) (h1 := h') (va_runI (As := []) (rest := rest) (b := ad b t a) hfix hM (cwI 0 hts (gw_all (fun w hw => wsm_in hj w hw)) hwr rfl rfl (hts _ w1) (hts _ hlink) (hts _ q1) q2 ⟨w5, w6, hn⟩ hroom) ⟨Pm_blind, fun U hU hWm => hPm U hU hWm⟩ rfl rfl hls rfl (lv_room hrest) hd hcs) hS (fun H' locs' g1 g2 => k H' locs' g1 g2) T hT X0
/-- a new object, made by the law -/
theorem L_new {i ci q : Nat} {st : List Value} (hl : (i, ci, q) ∈ ltN) (C : LC b t ac D p s m args c) (hd : decode code pc = .ok (.new i, 3)) (hW : WH b t ac D h H) (hS : va_S (fun q => b ≤ q) s.heap H locs) (hlen : h.length < sB) (hsz : s.heap.size + cells ≤ b + h.length) (hcs : cells + 1 ≤ room_1.cells ∧ slots + fN ci ≤ room_1.slots)
    (k : ∀ H' : Heap, WH b t ac D (h ++ [.inl (ci, (List.range (fN ci)).map (fun k => dfl (fty ci k)))]) H' → va_S (fun q => b ≤ q) s.heap H' locs → W p l e room_1 s m args below meth c H' locs (cells + 1) (slots + fN ci) Q (F0 m (pc + 3) ls (.ref (ad b t h.length) :: st))) : W p l e room_1 s m args below meth c H locs cells slots Q (F0 m pc ls st) := by
  obtain ⟨hx0, hb, hml0, hown, hts, hE, hbs⟩ := C
  obtain ⟨h12, hlink⟩ := ltN_at hl
  have hA : ∀ q : Nat, s.heap.size ≤ q → b ≤ q := fun q hq => Nat.le_trans hbs hq
  have key : ∀ (q : Nat) (H1 : Heap), va_P D vwCl (wz (ad b t) ac h ++ [(q, ce (ad b t) ac (.inl (ci, (List.range (fN ci)).map (fun k => dfl (fty ci k)))))]) H1 → va_D (fun q => b ≤ q) (wz (ad b t) ac h ++ [(q, ce (ad b t) ac (.inl (ci, (List.range (fN ci)).map (fun k => dfl (fty ci k)))))]) → va_S (fun q => b ≤ q) s.heap H1 locs →
      W p l e room_1 s m args below meth c H1 locs (cells + 1) (slots + fN ci) Q (F0 m (pc + 3) ls (.ref q :: st)) := by
    intro q H1 hP1 hD1 hS1 T hT X0
    have hlw : (wz (ad b t) ac h).length = h.length := by simp [wz]
    have hlast : (wz (ad b t) ac h ++ [(q, ce (ad b t) ac (.inl (ci, (List.range (fN ci)).map (fun k => dfl (fty ci k)))))])[h.length]? = some (q, ce (ad b t) ac (.inl (ci, (List.range (fN ci)).map (fun k => dfl (fty ci k))))) := by
      rw [List.getElem?_append_right (by omega), hlw, Nat.sub_self]; rfl
    have h1 : q < H1.size := (hP1 _ _ hlast).lt
    have h2 : H1.size ≤ s.heap.size + (cells + 1) := by rw [← hT]; exact X0.heapSize
    have h3 : b ≤ q := hD1.2 _ _ hlast
    have h4 : ¬ q < b + h.length := by
      intro hq
      have hk : q - b < h.length := by omega
      have hat := wz_at (r := ad b t) (ac := ac) (h := h) (k := q - b) (x := h[q - b]) (List.getElem?_eq_getElem hk)
      have hat2 : (wz (ad b t) ac h ++ [(q, ce (ad b t) ac (.inl (ci, (List.range (fN ci)).map (fun k => dfl (fty ci k)))))])[q - b]? = some (ad b t (q - b), ce (ad b t) ac h[q - b]) := by
        rw [List.getElem?_append_left (by omega)]; exact hat
      have := hD1.1 _ _ _ _ hat2 hlast (by
        show ad b t (q - b) = q
        rw [ad_lt (by omega)]; omega)
      omega
    have hq : q = ad b t h.length := by rw [ad_lt hlen]; omega
    subst hq
    rw [← wz_push] at hP1
    exact k H1 hP1 hS1 T hT X0
  refine va_new (ci := ci) (fs := ((List.range (fN ci)).map (fun k => dfl (fty ci k))).map (cv (ad b t))) hx0 hb hts (cls_at h12).2.2 (fty ci) (fun k hk => fty_ok h12 hk) hown (hts _ hlink) (hts _ (cls_at h12).1) (hts _ (cls_at h12).2.1) hE.1 hW (wz_D (Nat.le_of_lt hlen)) hS hA (vw_at h12) (fun j hj => ?_) hcs.1 hcs.2 hd (fun q H1 hP1 hD1 hS1 => key q H1 hP1 hD1 hS1)
  have := of_decide_eq_true (List.all_eq_true.mp (List.all_eq_true.mp dfl_ok ci (List.mem_range.mpr h12)) j (List.mem_range.mpr hj))
  rw [this]
  simp [vp_V, hj, dfl_cv]
end LCALL
end
section
/-! what holds at the law's entry -/
def sLp (k : Nat) : Nat := match k with
  | 0 => 653
  | 1 => 499
  | 2 => 586
  | _ => 630
def sTm (k : Nat) : Term := .static RX0 (sNm k) "[I"
def sWd (k : Nat) : List Cond := [.arrayOf (sTm k) .int, .eq (.length (sTm k)) (.int 4), .eq (.elem (sTm k) (.int 0)) (.int (sArr k 0)), .eq (.elem (sTm k) (.int 1)) (.int (sArr k 1)), .eq (.elem (sTm k) (.int 2)) (.int (sArr k 2)), .eq (.elem (sTm k) (.int 3)) (.int (sArr k 3))]
set_option maxRecDepth 100000 in
theorem sWd_ok : ∀ k, k < 4 → ∀ w ∈ sWd k, w ∈ flatC (Jvm.Cond.and given_1 narrow_1) := by decide +kernel
set_option maxRecDepth 100000 in
theorem sLp_ok : ∀ k, k < 4 → lw_tbl[sLp k]? = some (Cond.laysStatic RX0 (sNm k) "[I") := by decide +kernel
set_option maxRecDepth 100000 in
theorem npL_ok : (List.range ntab.length).all (fun k => decide ((ntab[k]?).map (fun q => Cond.methodLinkNest q.1 q.2.1 q.2.2.1 q.2.2.2) = lw_tbl[npL.getD k 0]?)) = true := by decide +kernel
set_option maxRecDepth 100000 in
theorem aO_ok : lw_tbl[127]? = some (Cond.arrayOver (.object RX0)) ∧ lw_tbl[326]? = some (Cond.arrayOver (.object RX9)) := by decide +kernel
theorem EV_at {p : Program} {s : State} {m : MethodId} {meth : Method} {c : Code} {b0 L : Nat} {xs : Nat → Int32} (C0 : lw_At p s m meth c b0 L xs) : ∃ (t : Nat → Nat) (ac : Nat → ClassId) (D : va_G), EV s.heap.size t ac D s := by
  obtain ⟨hx, hb, hr, hml, hown, hts0, hX, hbl, hlocks, hgv⟩ := C0
  have hts : ∀ w ∈ gw, w.before #[Value.ref b0] s = true := fun w h => hts0 w (gw_tbl w h)
  have hk : ∀ ci : Nat, ∃ q : ClassId × (Nat → Nat), ci < 12 → u_Kn s (fR ci) (fT ci) (fN ci) q.1 q.2 := fun ci => by
    by_cases h : ci < 12
    · obtain ⟨c, iS, hh⟩ := u_known (n := fN ci) hts (cls_at h).2.2 (hts _ (cls_at h).1)
      exact ⟨(c, iS), fun _ => hh⟩
    · exact ⟨(m.cls, fun _ => 0), fun q => absurd q h⟩
  have jd := jdk_at
  obtain ⟨c0, k0, p0, x1, x2, x3⟩ := Cond.arrayClass_spec (hts _ jd.2.2.2.2.2.2.2.2.2.2.1)
  obtain ⟨c1, k1, p1, y1, y2, y3⟩ := Cond.arrayClass_spec (hts _ jd.2.2.2.2.2.2.2.2.2.2.2)
  have o0 := hts0 _ (List.mem_of_getElem? aO_ok.1)
  have o9 := hts0 _ (List.mem_of_getElem? aO_ok.2)
  obtain ⟨p2, c2, k2, a1, a2, a3, a4, a5⟩ := Cond.arrayOver_spec o0
  obtain ⟨p3, c3, k3, b1, b2, b3, b4, b5⟩ := Cond.arrayOver_spec o9
  have hs := flat_of_before _ hgv
  have hA : ∀ a : Nat, a < s.heap.size → ¬ s.heap.size ≤ a := fun a h q => absurd h (Nat.not_lt.mpr q)
  have st : ∀ k : Nat, ∃ t : Nat, k < 4 → va_Z RX0 (sNm k) "[I" (.ref t) (fun q => s.heap.size ≤ q) s s.heap ∧ va_T .int t 4 (fun j => .int (sArr k j)) (fun q => s.heap.size ≤ q) s s.heap := fun k => by
    by_cases hk4 : k < 4
    · have hw := fun w h => hs w (sWd_ok k hk4 w h)
      obtain ⟨t, e, hT⟩ := va_Tof (N := 4) (f := fun j => .int (sArr k j)) (A := fun q => s.heap.size ≤ q) (by decide) (hw (.arrayOf (sTm k) .int) (by simp [sWd])) (va_eqt (z := 4) (hw _ (by simp [sWd]))) (fun j hj => by
        match j, hj with
        | 0, _ => exact va_eqt (hw (.eq (.elem (sTm k) (.int 0)) (.int (sArr k 0))) (by simp [sWd]))
        | 1, _ => exact va_eqt (hw (.eq (.elem (sTm k) (.int 1)) (.int (sArr k 1))) (by simp [sWd]))
        | 2, _ => exact va_eqt (hw (.eq (.elem (sTm k) (.int 2)) (.int (sArr k 2))) (by simp [sWd]))
        | 3, _ => exact va_eqt (hw (.eq (.elem (sTm k) (.int 3)) (.int (sArr k 3))) (by simp [sWd]))
        | j + 4, q => exact absurd q (by omega)) hA
      exact ⟨t, fun _ => ⟨va_Zof (hts0 _ (List.mem_of_getElem? (sLp_ok k hk4))) (hts _ (cls_at (show 0 < 12 by decide)).2.1) e hA, hT⟩⟩
    · exact ⟨0, fun q => absurd q hk4⟩
  refine ⟨fun k => Classical.choose (st k), fun k => match k with | 0 => c0 | 1 => c1 | 2 => c2 | _ => c3, (fun ci => (Classical.choose (hk ci)).1, fun ci => (Classical.choose (hk ci)).2), ⟨?_, ?_⟩, fun q hq => ?_, fun k hk4 => Classical.choose_spec (st k) hk4, va_AO.of o0, va_AO.of o9⟩
  · intro ci q hq
    have h12 : ci < 12 := (List.getElem?_eq_some_iff.mp hq).1
    have := vw_at h12
    rw [hq] at this
    rw [Option.some.inj this]
    exact Classical.choose_spec (hk ci) h12
  · intro k q hq
    match k, hq with
    | 0, hq => cases hq; exact ⟨fun n z => ⟨(fun k h => by cases h), k0, x2, p0, x3⟩, x1⟩
    | 1, hq => cases hq; exact ⟨fun n z => ⟨(fun k h => by cases h), k1, y2, p1, y3⟩, y1⟩
    | 2, hq => cases hq; exact ⟨fun n z => ⟨(fun k h => by cases h), k2, a3, p2, a4⟩, k2, p2, a3, a4, a1, a5⟩
    | 3, hq => cases hq; exact ⟨fun n z => ⟨(fun k h => by cases h), k3, b3, p3, b4⟩, k3, p3, b3, b4, b1, b5⟩
    | k + 4, hq => simp at hq
  · obtain ⟨k, hk2⟩ := List.mem_iff_getElem?.mp hq
    have hl := (List.getElem?_eq_some_iff.mp hk2).1
    have := of_decide_eq_true (List.all_eq_true.mp npL_ok k (List.mem_range.mpr hl))
    rw [hk2] at this
    exact va_Nw.of rfl (hts0 _ (List.mem_of_getElem? this.symm))
end
section
/-! meanMinutes: floats, no NaN comes -/
theorem dm113_0 : decode (mB 113) 0 = .ok (.aload_n 0, 1) := by decide +kernel
theorem dm113_1 : decode (mB 113) 1 = .ok (.getfield 12, 3) := by decide +kernel
theorem dm113_4 : decode (mB 113) 4 = .ok (.getfield 279, 3) := by decide +kernel
theorem dm113_7 : decode (mB 113) 7 = .ok (.getfield 291, 3) := by decide +kernel
theorem dm113_10 : decode (mB 113) 10 = .ok (.ifCond .ne 5, 3) := by decide +kernel
theorem dm113_13 : decode (mB 113) 13 = .ok (.fconst 0, 1) := by decide +kernel
theorem dm113_14 : decode (mB 113) 14 = .ok (.freturn, 1) := by decide +kernel
theorem dm113_15 : decode (mB 113) 15 = .ok (.aload_n 0, 1) := by decide +kernel
theorem dm113_16 : decode (mB 113) 16 = .ok (.getfield 12, 3) := by decide +kernel
theorem dm113_19 : decode (mB 113) 19 = .ok (.getfield 279, 3) := by decide +kernel
theorem dm113_22 : decode (mB 113) 22 = .ok (.getfield 293, 3) := by decide +kernel
theorem dm113_25 : decode (mB 113) 25 = .ok (.i2f, 1) := by decide +kernel
theorem dm113_26 : decode (mB 113) 26 = .ok (.aload_n 0, 1) := by decide +kernel
theorem dm113_27 : decode (mB 113) 27 = .ok (.getfield 12, 3) := by decide +kernel
theorem dm113_30 : decode (mB 113) 30 = .ok (.getfield 279, 3) := by decide +kernel
theorem dm113_33 : decode (mB 113) 33 = .ok (.getfield 291, 3) := by decide +kernel
theorem dm113_36 : decode (mB 113) 36 = .ok (.i2f, 1) := by decide +kernel
theorem dm113_37 : decode (mB 113) 37 = .ok (.fdiv, 1) := by decide +kernel
theorem dm113_38 : decode (mB 113) 38 = .ok (.freturn, 1) := by decide +kernel
theorem dm202_0 : decode (mB 202) 0 = .ok (.aload_n 0, 1) := by decide +kernel
theorem dm202_1 : decode (mB 202) 1 = .ok (.iconst 0, 1) := by decide +kernel
theorem dm202_2 : decode (mB 202) 2 = .ok (.putfield 28, 3) := by decide +kernel
theorem dm202_5 : decode (mB 202) 5 = .ok (.aload_n 0, 1) := by decide +kernel
theorem dm202_6 : decode (mB 202) 6 = .ok (.getfield 7, 3) := by decide +kernel
theorem dm202_9 : decode (mB 202) 9 = .ok (.bipush 13, 2) := by decide +kernel
theorem dm202_11 : decode (mB 202) 11 = .ok (.iaload, 1) := by decide +kernel
theorem dm202_12 : decode (mB 202) 12 = .ok (.ifCond .ne 7, 3) := by decide +kernel
theorem dm202_15 : decode (mB 202) 15 = .ok (.fconst 0, 1) := by decide +kernel
theorem dm202_16 : decode (mB 202) 16 = .ok (.goto 20, 3) := by decide +kernel
theorem dm202_19 : decode (mB 202) 19 = .ok (.aload_n 0, 1) := by decide +kernel
theorem dm202_20 : decode (mB 202) 20 = .ok (.getfield 7, 3) := by decide +kernel
theorem dm202_23 : decode (mB 202) 23 = .ok (.bipush 14, 2) := by decide +kernel
theorem dm202_25 : decode (mB 202) 25 = .ok (.iaload, 1) := by decide +kernel
theorem dm202_26 : decode (mB 202) 26 = .ok (.i2f, 1) := by decide +kernel
theorem dm202_27 : decode (mB 202) 27 = .ok (.aload_n 0, 1) := by decide +kernel
theorem dm202_28 : decode (mB 202) 28 = .ok (.getfield 7, 3) := by decide +kernel
theorem dm202_31 : decode (mB 202) 31 = .ok (.bipush 13, 2) := by decide +kernel
theorem dm202_33 : decode (mB 202) 33 = .ok (.iaload, 1) := by decide +kernel
theorem dm202_34 : decode (mB 202) 34 = .ok (.i2f, 1) := by decide +kernel
theorem dm202_35 : decode (mB 202) 35 = .ok (.fdiv, 1) := by decide +kernel
theorem dm202_36 : decode (mB 202) 36 = .ok (.freturn, 1) := by decide +kernel
theorem vf32_of {x : UInt32} (h : Jvm.FP.Core.fIsNaN x = false) : vf_n32 x := by
  have h1 : ¬ 2139095040 < x.toNat % 2 ^ 31 := fun q => by
    rw [(Jvm.FP.Core.isNaN_bits32 x).mpr q] at h; cases h
  show (x &&& 0x7fffffff) ≤ 0x7f800000
  rw [UInt32.le_iff_toNat_le, UInt32.toNat_and, show (0x7fffffff : UInt32).toNat = 2 ^ 31 - 1 by decide, Nat.and_two_pow_sub_one_eq_mod, show (0x7f800000 : UInt32).toNat = 2139095040 by decide]
  omega
theorem vf64_of {x : UInt64} (h : Jvm.FP.Core.dIsNaN x = false) : vf_n64 x := by
  have h1 : ¬ 9218868437227405312 < x.toNat % 2 ^ 63 := fun q => by
    rw [(Jvm.FP.Core.isNaN_bits x).mpr q] at h; cases h
  show (x &&& 0x7fffffffffffffff) ≤ 0x7ff0000000000000
  rw [UInt64.le_iff_toNat_le, UInt64.toNat_and, show (0x7fffffffffffffff : UInt64).toNat = 2 ^ 63 - 1 by decide, Nat.and_two_pow_sub_one_eq_mod, show (0x7ff0000000000000 : UInt64).toNat = 9218868437227405312 by decide]
  omega
/-- minutes a piece: p pieces, m minutes -/
def mnF (p m : Int32) : UInt32 := if p = 0 then FP.fconst0 else FP.fdiv (FP.i2f m) (FP.i2f p)
theorem mnF_div {p m : Int32} (h : ¬ p = 0) : Jvm.FP.Core.fIsNaN (FP.fdiv (FP.i2f m) (FP.i2f p)) = false :=
  Jvm.FP.Core.fdiv_out (Jvm.FP.Core.i2f_fin m).notNaN (Jvm.FP.Core.i2f_fin p) (fun z => Jvm.FP.Core.i2f_ne_zero h ((Jvm.FP.Core.zero_bits232 _).mp z))
theorem mnF_nn {p m : Int32} : Jvm.FP.Core.fIsNaN (mnF p m) = false := by
  unfold mnF
  by_cases h : p = 0
  · rw [if_pos h]
    cases q : Jvm.FP.Core.fIsNaN FP.fconst0 with
    | false => rfl
    | true => exact absurd ((Jvm.FP.Core.isNaN_bits32 _).mp q) (by decide)
  · rw [if_neg h]; exact mnF_div h
theorem mnF_d {p m : Int32} : vf_n64 (FP.f2d (mnF p m)) := vf64_of ((Jvm.FP.f2d_nan _).trans mnF_nn)
section MEAN
variable {b : Nat} {t : Nat → Nat} {ac : Nat → ClassId} {D : va_G} {T : Nat → Nat → Int32} {P : Nat → Nat → Nat}
theorem sh49 : shapes[49]? = some (.inl (2, [none, none, none, none])) := by decide +kernel
theorem sh1 : shapes[1]? = some (.inl (9, [none, none, none, none, some 2, some 3, some 4, some 8, some 42, some 46, some 49, some 50])) := by decide +kernel
theorem sh0 : shapes[0]? = some (.inl (10, [some 1, some 52, some 103, some 154, some 360, none])) := by decide +kernel
theorem sh366 : shapes[366]? = some (.inl (11, [none, some 367, some 368, some 369, none, some 370, none, some 371, none, none, none, some 372, none])) := by decide +kernel
theorem sh367 : shapes[367]? = some (.inr (0, 912)) := by decide +kernel
theorem met_m1 (l : Launch) : Met l (mN 113) (wsm 113) (rmm 113 0 0) (Pm b t ac D [.ref 0] (H T P)) (Qm b t ac D (some (.float (mnF (T 49 2) (T 49 3)))) (H T P)) 0 0 (fun q => b ≤ q) := by
  have hj : 113 < mtab.length := by rw [mlen]; decide
  have hr := mrow_at hj
  have g0 : getF (H T P)[0]? 10 0 = some (.ref 1) := g_fr sh0 rfl
  have g1 : getF (H T P)[1]? 9 10 = some (.ref 49) := g_fr sh1 rfl
  have g2 : getF (H T P)[49]? 2 2 = some (.int (T 49 2)) := g_fi sh49 rfl
  have g3 : getF (H T P)[49]? 2 3 = some (.int (T 49 3)) := g_fi sh49 rfl
  have f0 : fref (mC 113) 12 = some (10, 0) := by decide +kernel
  have f1 : fref (mC 113) 279 = some (9, 10) := by decide +kernel
  have f2 : fref (mC 113) 291 = some (2, 2) := by decide +kernel
  have f3 : fref (mC 113) 293 = some (2, 3) := by decide +kernel
  refine Met.ofW (cc := mB 113) (maxL := mL 113) (ret := mR 113) hr.2.2.2.1 rfl ?_
  intro p e s m args below meth c s₁ B hml hv
  obtain ⟨rfl, hW, hE, hb0, hsz⟩ := hv
  have hts := atoms_spec (ws := wsm 113) B.pre
  have hown : s.vm.findClass (mN 113).cls = some m.cls := findClass_of_methodNamed B.named
  rw [hr.2.1] at hown
  rw [lg_entry_eq]
  have hlen : (H T P).length ≤ sB := by rw [H_len]; decide
  have C : Ctx b t ac D p s m (([.ref 0] : List Value).map (cv (ad b t))).toArray meth c (rmm 113 0 0) 113 := ⟨B.exec, B.bytes, B.returns, hml, hown, fun w hw => hts w (List.mem_cons_of_mem _ hw), B.notSynchronized, fun hn => by rw [← hn]; exact (name_of_methodNamed B.named B.method).1, hE, Nat.le_refl _, Nat.le_refl _, hb0⟩
  have hL : LR (ad b t) ((lg_sl (([.ref 0] : List Value).map (cv (ad b t))) ++ List.replicate (mL 113 - (lg_sl (([.ref 0] : List Value).map (cv (ad b t)))).length) Slot.unset).toArray) (mL 113) [.ref 0] := pad_LR (j := 113) rfl (by decide +kernel)
  have hS : va_S (fun q => b ≤ q) s.heap s.heap [] := va_S.rf
  have hx := B.exec
  have hb := B.bytes
  have hrt : meth.sig.returnType = some .float := B.returns
  have cs : (0 : Nat) ≤ (rmm 113 0 0).cells ∧ 0 ≤ (rmm 113 0 0).slots := ⟨Nat.le_refl _, Nat.le_refl _⟩
  generalize ((lg_sl (([.ref 0] : List Value).map (cv (ad b t))) ++ List.replicate (mL 113 - (lg_sl (([.ref 0] : List Value).map (cv (ad b t)))).length) Slot.unset).toArray) = ls at hL ⊢
  refine s_aload_n (pc' := 1) (S := []) (S' := [.ref 0]) (L' := [.ref 0]) (h' := H T P) C dm113_0 rfl hL hW hS hlen cs (fun ls H1 locs hL hW hS => ?_)
  refine s_getfield (pc' := 4) (S := [.ref 0]) (S' := [.ref 1]) (L' := [.ref 0]) (h' := H T P) C dm113_1 (by simp [act, f0, g0]) hL hW hS hlen cs (fun ls H1 locs hL hW hS => ?_)
  refine s_getfield (pc' := 7) (S := [.ref 1]) (S' := [.ref 49]) (L' := [.ref 0]) (h' := H T P) C dm113_4 (by simp [act, f1, g1]) hL hW hS hlen cs (fun ls H1 locs hL hW hS => ?_)
  refine s_getfield (pc' := 10) (S := [.ref 49]) (S' := [.int (T 49 2)]) (L' := [.ref 0]) (h' := H T P) C dm113_7 (by simp [act, f2, g2]) hL hW hS hlen cs (fun ls H1 locs hL hW hS => ?_)
  refine lv_if_ne (x := T 49 2) (rest := []) (tgt := 15) hx hb dm113_10 (by decide) (fun hp => ?_) (fun hp => ?_)
  · refine s_aload_n (pc' := 16) (S := []) (S' := [.ref 0]) (L' := [.ref 0]) (h' := H T P) C dm113_15 rfl hL hW hS hlen cs (fun ls H1 locs hL hW hS => ?_)
    refine s_getfield (pc' := 19) (S := [.ref 0]) (S' := [.ref 1]) (L' := [.ref 0]) (h' := H T P) C dm113_16 (by simp [act, f0, g0]) hL hW hS hlen cs (fun ls H1 locs hL hW hS => ?_)
    refine s_getfield (pc' := 22) (S := [.ref 1]) (S' := [.ref 49]) (L' := [.ref 0]) (h' := H T P) C dm113_19 (by simp [act, f1, g1]) hL hW hS hlen cs (fun ls H1 locs hL hW hS => ?_)
    refine s_getfield (pc' := 25) (S := [.ref 49]) (S' := [.int (T 49 3)]) (L' := [.ref 0]) (h' := H T P) C dm113_22 (by simp [act, f3, g3]) hL hW hS hlen cs (fun ls H1 locs hL hW hS => ?_)
    refine lv_i2f (x := T 49 3) (rest := []) hx hb dm113_25 ?_
    refine s_aload_n (pc' := 27) (S := [.float (FP.i2f (T 49 3))]) (S' := [.ref 0, .float (FP.i2f (T 49 3))]) (L' := [.ref 0]) (h' := H T P) C dm113_26 rfl hL hW hS hlen cs (fun ls H1 locs hL hW hS => ?_)
    refine s_getfield (pc' := 30) (S := [.ref 0, .float (FP.i2f (T 49 3))]) (S' := [.ref 1, .float (FP.i2f (T 49 3))]) (L' := [.ref 0]) (h' := H T P) C dm113_27 (by simp [act, f0, g0]) hL hW hS hlen cs (fun ls H1 locs hL hW hS => ?_)
    refine s_getfield (pc' := 33) (S := [.ref 1, .float (FP.i2f (T 49 3))]) (S' := [.ref 49, .float (FP.i2f (T 49 3))]) (L' := [.ref 0]) (h' := H T P) C dm113_30 (by simp [act, f1, g1]) hL hW hS hlen cs (fun ls H1 locs hL hW hS => ?_)
    refine s_getfield (pc' := 36) (S := [.ref 49, .float (FP.i2f (T 49 3))]) (S' := [.int (T 49 2), .float (FP.i2f (T 49 3))]) (L' := [.ref 0]) (h' := H T P) C dm113_33 (by simp [act, f2, g2]) hL hW hS hlen cs (fun ls H1 locs hL hW hS => ?_)
    refine lv_i2f (x := T 49 2) (rest := [.float (FP.i2f (T 49 3))]) hx hb dm113_36 ?_
    refine lv_fdiv (rest := []) hx hb dm113_37 (vf32_of (mnF_div hp)) ?_
    exact W.fret hx hb hrt (fun u hu _ => ⟨by rw [mnF, if_neg hp]; rfl, by rw [hu]; exact hW, hS.F hu⟩) (fun q hq => hS.2.2 q hq) dm113_38 B.notSynchronized
  · refine lv_fconst0 (rest := []) hx hb dm113_13 ?_
    exact W.fret hx hb hrt (fun u hu _ => ⟨by rw [mnF, if_pos hp]; rfl, by rw [hu]; exact hW, hS.F hu⟩) (fun q hq => hS.2.2 q hq) dm113_14 B.notSynchronized
theorem p366 : ∃ c, putF (H T P)[366]? 11 0 (.int 0) = some c ∧ (H T P).set 366 c = H (up1 T 366 0 0) P := by
  have hl : 0 < (mkF (T 366) 0 [none, some 367, some 368, some 369, none, some 370, none, some 371, none, none, none, some 372, none]).length := by
    rw [mkF_len]; decide
  have := H_setT (T := T) (P := P) sh366 (upA (T 366) 0 0)
  refine ⟨_, ?_, this⟩
  rw [H_at, sh366]
  simp only [Option.map_some, mk, putF, hl, true_and, and_self, if_true]
  rw [if_pos (by decide)]
  rw [mkF_set _ _ _ _ _ (show ([none, some 367, some 368, some 369, none, some 370, none, some 371, none, none, none, some 372, none] : List (Option Nat))[0]? = some none from rfl)]
theorem met_m2 (l : Launch) (h0 : T 366 0 = 0) : Met l (mN 202) (wsm 202) (rmm 202 0 0) (Pm b t ac D [.ref 366] (H T P)) (Qm b t ac D (some (.float (mnF (T 367 13) (T 367 14)))) (H T P)) 0 0 (fun q => b ≤ q) := by
  have hj : 202 < mtab.length := by rw [mlen]; decide
  have hr := mrow_at hj
  obtain ⟨c0, e0, e1⟩ := p366 (T := T) (P := P)
  rw [show up1 T 366 0 0 = T by
    have e : upA (T 366) 0 0 = T 366 := by
      have := upA_self (T 366) 0
      rwa [h0] at this
    show upA T 366 (upA (T 366) 0 0) = T
    rw [e]
    exact upA_self _ _] at e1
  have g0 : getF (H T P)[366]? 11 1 = some (.ref 367) := g_fr sh366 rfl
  have g13 : getI (H T P)[367]? 367 0 13 = some (T 367 13) := by
    rw [g_gi sh367 (by decide), if_pos (by decide)]; rfl
  have g14 : getI (H T P)[367]? 367 0 14 = some (T 367 14) := by
    rw [g_gi sh367 (by decide), if_pos (by decide)]; rfl
  have f0 : fref (mC 202) 7 = some (11, 1) := by decide +kernel
  have f1 : fref (mC 202) 28 = some (11, 0) := by decide +kernel
  have fin : (fT 11 0).2.2.2 = false := by decide +kernel
  refine Met.ofW (cc := mB 202) (maxL := mL 202) (ret := mR 202) hr.2.2.2.1 rfl ?_
  intro p e s m args below meth c s₁ B hml hv
  obtain ⟨rfl, hW, hE, hb0, hsz⟩ := hv
  have hts := atoms_spec (ws := wsm 202) B.pre
  have hown : s.vm.findClass (mN 202).cls = some m.cls := findClass_of_methodNamed B.named
  rw [hr.2.1] at hown
  rw [lg_entry_eq]
  have hlen : (H T P).length ≤ sB := by rw [H_len]; decide
  have C : Ctx b t ac D p s m (([.ref 366] : List Value).map (cv (ad b t))).toArray meth c (rmm 202 0 0) 202 := ⟨B.exec, B.bytes, B.returns, hml, hown, fun w hw => hts w (List.mem_cons_of_mem _ hw), B.notSynchronized, fun hn => by rw [← hn]; exact (name_of_methodNamed B.named B.method).1, hE, Nat.le_refl _, Nat.le_refl _, hb0⟩
  have hL : LR (ad b t) ((lg_sl (([.ref 366] : List Value).map (cv (ad b t))) ++ List.replicate (mL 202 - (lg_sl (([.ref 366] : List Value).map (cv (ad b t)))).length) Slot.unset).toArray) (mL 202) [.ref 366] := pad_LR (j := 202) rfl (by decide +kernel)
  have hS : va_S (fun q => b ≤ q) s.heap s.heap [] := va_S.rf
  have hx := B.exec
  have hb := B.bytes
  have hrt : meth.sig.returnType = some .float := B.returns
  have cs : (0 : Nat) ≤ (rmm 202 0 0).cells ∧ 0 ≤ (rmm 202 0 0).slots := ⟨Nat.le_refl _, Nat.le_refl _⟩
  generalize ((lg_sl (([.ref 366] : List Value).map (cv (ad b t))) ++ List.replicate (mL 202 - (lg_sl (([.ref 366] : List Value).map (cv (ad b t)))).length) Slot.unset).toArray) = ls at hL ⊢
  refine s_aload_n (pc' := 1) (S := []) (S' := [.ref 366]) (L' := [.ref 366]) (h' := H T P) C dm202_0 rfl hL hW hS hlen cs (fun ls H1 locs hL hW hS => ?_)
  refine lv_iconst (v := 0) hx hb dm202_1 (by decide) ?_
  refine s_putfield (pc' := 5) (S := [.int 0, .ref 366]) (S' := []) (L' := [.ref 366]) (h' := H T P) C dm202_2 (by simp [act, f1, e0, fin, e1]) hL hW hS hlen cs (fun ls H1 locs hL hW hS => ?_)
  refine s_aload_n (pc' := 6) (S := []) (S' := [.ref 366]) (L' := [.ref 366]) (h' := H T P) C dm202_5 rfl hL hW hS hlen cs (fun ls H1 locs hL hW hS => ?_)
  refine s_getfield (pc' := 9) (S := [.ref 366]) (S' := [.ref 367]) (L' := [.ref 366]) (h' := H T P) C dm202_6 (by simp [act, f0, g0]) hL hW hS hlen cs (fun ls H1 locs hL hW hS => ?_)
  refine lv_bipush (v := 13) hx hb dm202_9 (by decide) ?_
  refine s_iaload (pc' := 12) (S := [.int 13, .ref 367]) (S' := [.int (T 367 13)]) (L' := [.ref 366]) (h' := H T P) C dm202_11 (by simp [act, g13]) hL hW hS hlen cs (fun ls H1 locs hL hW hS => ?_)
  refine lv_if_ne (x := T 367 13) (rest := []) (tgt := 19) hx hb dm202_12 (by decide) (fun hp => ?_) (fun hp => ?_)
  · refine s_aload_n (pc' := 20) (S := []) (S' := [.ref 366]) (L' := [.ref 366]) (h' := H T P) C dm202_19 rfl hL hW hS hlen cs (fun ls H1 locs hL hW hS => ?_)
    refine s_getfield (pc' := 23) (S := [.ref 366]) (S' := [.ref 367]) (L' := [.ref 366]) (h' := H T P) C dm202_20 (by simp [act, f0, g0]) hL hW hS hlen cs (fun ls H1 locs hL hW hS => ?_)
    refine lv_bipush (v := 14) hx hb dm202_23 (by decide) ?_
    refine s_iaload (pc' := 26) (S := [.int 14, .ref 367]) (S' := [.int (T 367 14)]) (L' := [.ref 366]) (h' := H T P) C dm202_25 (by simp [act, g14]) hL hW hS hlen cs (fun ls H1 locs hL hW hS => ?_)
    refine lv_i2f (x := T 367 14) (rest := []) hx hb dm202_26 ?_
    refine s_aload_n (pc' := 28) (S := [.float (FP.i2f (T 367 14))]) (S' := [.ref 366, .float (FP.i2f (T 367 14))]) (L' := [.ref 366]) (h' := H T P) C dm202_27 rfl hL hW hS hlen cs (fun ls H1 locs hL hW hS => ?_)
    refine s_getfield (pc' := 31) (S := [.ref 366, .float (FP.i2f (T 367 14))]) (S' := [.ref 367, .float (FP.i2f (T 367 14))]) (L' := [.ref 366]) (h' := H T P) C dm202_28 (by simp [act, f0, g0]) hL hW hS hlen cs (fun ls H1 locs hL hW hS => ?_)
    refine lv_bipush (v := 13) hx hb dm202_31 (by decide) ?_
    refine s_iaload (pc' := 34) (S := [.int 13, .ref 367, .float (FP.i2f (T 367 14))]) (S' := [.int (T 367 13), .float (FP.i2f (T 367 14))]) (L' := [.ref 366]) (h' := H T P) C dm202_33 (by simp [act, g13]) hL hW hS hlen cs (fun ls H1 locs hL hW hS => ?_)
    refine lv_i2f (x := T 367 13) (rest := [.float (FP.i2f (T 367 14))]) hx hb dm202_34 ?_
    refine lv_fdiv (rest := []) hx hb dm202_35 (vf32_of (mnF_div hp)) ?_
    exact W.fret hx hb hrt (fun u hu _ => ⟨by rw [mnF, if_neg hp]; rfl, by rw [hu]; exact hW, hS.F hu⟩) (fun q hq => hS.2.2 q hq) dm202_36 B.notSynchronized
  · refine lv_fconst0 (rest := []) hx hb dm202_15 ?_
    refine lv_goto (tgt := 36) hx hb dm202_16 (by decide) ?_
    exact W.fret hx hb hrt (fun u hu _ => ⟨by rw [mnF, if_pos hp]; rfl, by rw [hu]; exact hW, hS.F hu⟩) (fun q hq => hS.2.2 q hq) dm202_36 B.notSynchronized
end MEAN
end
