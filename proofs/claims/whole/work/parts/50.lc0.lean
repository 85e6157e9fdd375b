theorem dL_law_184 : decode cL_law 184 = .ok (.aload_n 1, 1) := by decide +kernel
theorem dL_law_185 : decode cL_law 185 = .ok (.aload_n 0, 1) := by decide +kernel
theorem dL_law_186 : decode cL_law 186 = .ok (.iload 5, 2) := by decide +kernel
theorem dL_law_188 : decode cL_law 188 = .ok (.iconst 1, 1) := by decide +kernel
theorem dL_law_189 : decode cL_law 189 = .ok (.iadd, 1) := by decide +kernel
theorem dL_law_190 : decode cL_law 190 = .ok (.iaload, 1) := by decide +kernel
theorem dL_law_191 : decode cL_law 191 = .ok (.i2c, 1) := by decide +kernel
theorem dL_law_192 : decode cL_law 192 = .ok (.aload_n 3, 1) := by decide +kernel
theorem dL_law_193 : decode cL_law 193 = .ok (.invokestatic 122, 3) := by decide +kernel
theorem dL_law_196 : decode cL_law 196 = .ok (.istore 6, 2) := by decide +kernel
theorem dL_law_198 : decode cL_law 198 = .ok (.aload_n 2, 1) := by decide +kernel
theorem dL_law_199 : decode cL_law 199 = .ok (.aload_n 0, 1) := by decide +kernel
theorem dL_law_200 : decode cL_law 200 = .ok (.iload 5, 2) := by decide +kernel
theorem dL_law_202 : decode cL_law 202 = .ok (.iconst 1, 1) := by decide +kernel
theorem dL_law_203 : decode cL_law 203 = .ok (.iadd, 1) := by decide +kernel
theorem dL_law_204 : decode cL_law 204 = .ok (.iaload, 1) := by decide +kernel
theorem dL_law_205 : decode cL_law 205 = .ok (.i2c, 1) := by decide +kernel
theorem dL_law_206 : decode cL_law 206 = .ok (.invokevirtual 127, 3) := by decide +kernel
theorem dL_law_209 : decode cL_law 209 = .ok (.istore 7, 2) := by decide +kernel
theorem dL_law_211 : decode cL_law 211 = .ok (.aload_n 2, 1) := by decide +kernel
theorem dL_law_212 : decode cL_law 212 = .ok (.invokevirtual 128, 3) := by decide +kernel
theorem dL_law_215 : decode cL_law 215 = .ok (.iload 6, 2) := by decide +kernel
theorem dL_law_217 : decode cL_law 217 = .ok (.if_icmp .eq 5, 3) := by decide +kernel
theorem dL_law_222 : decode cL_law 222 = .ok (.iload 6, 2) := by decide +kernel
theorem dL_law_224 : decode cL_law 224 = .ok (.ifCond .ne 15, 3) := by decide +kernel
theorem dL_law_227 : decode cL_law 227 = .ok (.aload_n 3, 1) := by decide +kernel
theorem dL_law_228 : decode cL_law 228 = .ok (.iconst 0, 1) := by decide +kernel
theorem dL_law_229 : decode cL_law 229 = .ok (.laload, 1) := by decide +kernel
theorem dL_law_230 : decode cL_law 230 = .ok (.iload 7, 2) := by decide +kernel
theorem dL_law_232 : decode cL_law 232 = .ok (.i2l, 1) := by decide +kernel
theorem dL_law_233 : decode cL_law 233 = .ok (.lcmp, 1) := by decide +kernel
theorem dL_law_234 : decode cL_law 234 = .ok (.ifCond .eq 5, 3) := by decide +kernel
theorem dL_law_239 : decode cL_law 239 = .ok (.goto 2046, 3) := by decide +kernel
theorem dL_law_242 : decode cL_law 242 = .ok (.aload_n 1, 1) := by decide +kernel
theorem dL_law_243 : decode cL_law 243 = .ok (.aload_n 0, 1) := by decide +kernel
theorem dL_law_244 : decode cL_law 244 = .ok (.iload 5, 2) := by decide +kernel
theorem dL_law_246 : decode cL_law 246 = .ok (.iconst 1, 1) := by decide +kernel
theorem dL_law_247 : decode cL_law 247 = .ok (.iadd, 1) := by decide +kernel
theorem dL_law_248 : decode cL_law 248 = .ok (.iaload, 1) := by decide +kernel
theorem dL_law_249 : decode cL_law 249 = .ok (.aload_n 3, 1) := by decide +kernel
theorem dL_law_250 : decode cL_law 250 = .ok (.invokestatic 132, 3) := by decide +kernel
theorem dL_law_253 : decode cL_law 253 = .ok (.istore 6, 2) := by decide +kernel
theorem dL_law_255 : decode cL_law 255 = .ok (.aload_n 2, 1) := by decide +kernel
theorem dL_law_256 : decode cL_law 256 = .ok (.aload_n 0, 1) := by decide +kernel
theorem dL_law_257 : decode cL_law 257 = .ok (.iload 5, 2) := by decide +kernel
theorem dL_law_259 : decode cL_law 259 = .ok (.iconst 1, 1) := by decide +kernel
theorem dL_law_260 : decode cL_law 260 = .ok (.iadd, 1) := by decide +kernel
theorem dL_law_261 : decode cL_law 261 = .ok (.iaload, 1) := by decide +kernel
theorem dL_law_262 : decode cL_law 262 = .ok (.invokevirtual 135, 3) := by decide +kernel
theorem dL_law_265 : decode cL_law 265 = .ok (.istore 7, 2) := by decide +kernel
theorem dL_law_267 : decode cL_law 267 = .ok (.aload_n 2, 1) := by decide +kernel
theorem dL_law_268 : decode cL_law 268 = .ok (.invokevirtual 128, 3) := by decide +kernel
theorem dL_law_271 : decode cL_law 271 = .ok (.iload 6, 2) := by decide +kernel
theorem dL_law_273 : decode cL_law 273 = .ok (.if_icmp .eq 5, 3) := by decide +kernel
theorem dL_law_278 : decode cL_law 278 = .ok (.iload 6, 2) := by decide +kernel
theorem dL_law_280 : decode cL_law 280 = .ok (.ifCond .ne 15, 3) := by decide +kernel
theorem dL_law_283 : decode cL_law 283 = .ok (.aload_n 3, 1) := by decide +kernel
theorem dL_law_284 : decode cL_law 284 = .ok (.iconst 0, 1) := by decide +kernel
theorem dL_law_285 : decode cL_law 285 = .ok (.laload, 1) := by decide +kernel
theorem dL_law_286 : decode cL_law 286 = .ok (.iload 7, 2) := by decide +kernel
theorem dL_law_288 : decode cL_law 288 = .ok (.i2l, 1) := by decide +kernel
theorem dL_law_289 : decode cL_law 289 = .ok (.lcmp, 1) := by decide +kernel
theorem dL_law_290 : decode cL_law 290 = .ok (.ifCond .eq 5, 3) := by decide +kernel
theorem dL_law_295 : decode cL_law 295 = .ok (.goto 1990, 3) := by decide +kernel
theorem dL_law_298 : decode cL_law 298 = .ok (.aload_n 1, 1) := by decide +kernel
theorem dL_law_299 : decode cL_law 299 = .ok (.aload_n 0, 1) := by decide +kernel
theorem dL_law_300 : decode cL_law 300 = .ok (.iload 5, 2) := by decide +kernel
theorem dL_law_302 : decode cL_law 302 = .ok (.iconst 1, 1) := by decide +kernel
theorem dL_law_303 : decode cL_law 303 = .ok (.iadd, 1) := by decide +kernel
theorem dL_law_304 : decode cL_law 304 = .ok (.iaload, 1) := by decide +kernel
theorem dL_law_305 : decode cL_law 305 = .ok (.aload_n 0, 1) := by decide +kernel
theorem dL_law_306 : decode cL_law 306 = .ok (.iload 5, 2) := by decide +kernel
theorem dL_law_308 : decode cL_law 308 = .ok (.iconst 2, 1) := by decide +kernel
theorem dL_law_309 : decode cL_law 309 = .ok (.iadd, 1) := by decide +kernel
theorem dL_law_310 : decode cL_law 310 = .ok (.iaload, 1) := by decide +kernel
theorem dL_law_311 : decode cL_law 311 = .ok (.i2c, 1) := by decide +kernel
theorem dL_law_312 : decode cL_law 312 = .ok (.aload_n 0, 1) := by decide +kernel
theorem dL_law_313 : decode cL_law 313 = .ok (.iload 5, 2) := by decide +kernel
theorem dL_law_315 : decode cL_law 315 = .ok (.iconst 3, 1) := by decide +kernel
theorem dL_law_316 : decode cL_law 316 = .ok (.iadd, 1) := by decide +kernel
theorem dL_law_317 : decode cL_law 317 = .ok (.iaload, 1) := by decide +kernel
theorem dL_law_318 : decode cL_law 318 = .ok (.aload_n 3, 1) := by decide +kernel
theorem dL_law_319 : decode cL_law 319 = .ok (.invokestatic 136, 3) := by decide +kernel
theorem dL_law_322 : decode cL_law 322 = .ok (.istore 6, 2) := by decide +kernel
theorem dL_law_324 : decode cL_law 324 = .ok (.aload_n 2, 1) := by decide +kernel
theorem dL_law_325 : decode cL_law 325 = .ok (.aload_n 0, 1) := by decide +kernel
theorem dL_law_326 : decode cL_law 326 = .ok (.iload 5, 2) := by decide +kernel
theorem dL_law_328 : decode cL_law 328 = .ok (.iconst 1, 1) := by decide +kernel
theorem dL_law_329 : decode cL_law 329 = .ok (.iadd, 1) := by decide +kernel
theorem dL_law_330 : decode cL_law 330 = .ok (.iaload, 1) := by decide +kernel
theorem dL_law_331 : decode cL_law 331 = .ok (.aload_n 0, 1) := by decide +kernel
theorem dL_law_332 : decode cL_law 332 = .ok (.iload 5, 2) := by decide +kernel
theorem dL_law_334 : decode cL_law 334 = .ok (.iconst 2, 1) := by decide +kernel
theorem dL_law_335 : decode cL_law 335 = .ok (.iadd, 1) := by decide +kernel
theorem dL_law_336 : decode cL_law 336 = .ok (.iaload, 1) := by decide +kernel
theorem dL_law_337 : decode cL_law 337 = .ok (.i2c, 1) := by decide +kernel
theorem dL_law_338 : decode cL_law 338 = .ok (.aload_n 0, 1) := by decide +kernel
theorem dL_law_339 : decode cL_law 339 = .ok (.iload 5, 2) := by decide +kernel
theorem dL_law_341 : decode cL_law 341 = .ok (.iconst 3, 1) := by decide +kernel
theorem dL_law_342 : decode cL_law 342 = .ok (.iadd, 1) := by decide +kernel
theorem dL_law_343 : decode cL_law 343 = .ok (.iaload, 1) := by decide +kernel
theorem dL_law_344 : decode cL_law 344 = .ok (.invokevirtual 139, 3) := by decide +kernel
theorem dL_law_347 : decode cL_law 347 = .ok (.istore 7, 2) := by decide +kernel
theorem dL_law_349 : decode cL_law 349 = .ok (.aload_n 2, 1) := by decide +kernel
theorem dL_law_350 : decode cL_law 350 = .ok (.invokevirtual 128, 3) := by decide +kernel
theorem dL_law_353 : decode cL_law 353 = .ok (.iload 6, 2) := by decide +kernel
theorem dL_law_355 : decode cL_law 355 = .ok (.if_icmp .eq 5, 3) := by decide +kernel
theorem dL_law_360 : decode cL_law 360 = .ok (.iload 6, 2) := by decide +kernel
theorem dL_law_362 : decode cL_law 362 = .ok (.ifCond .ne 15, 3) := by decide +kernel
theorem dL_law_365 : decode cL_law 365 = .ok (.aload_n 3, 1) := by decide +kernel
theorem dL_law_366 : decode cL_law 366 = .ok (.iconst 0, 1) := by decide +kernel
theorem dL_law_367 : decode cL_law 367 = .ok (.laload, 1) := by decide +kernel
theorem dL_law_368 : decode cL_law 368 = .ok (.iload 7, 2) := by decide +kernel
theorem dL_law_370 : decode cL_law 370 = .ok (.i2l, 1) := by decide +kernel
theorem dL_law_371 : decode cL_law 371 = .ok (.lcmp, 1) := by decide +kernel
theorem dL_law_372 : decode cL_law 372 = .ok (.ifCond .eq 5, 3) := by decide +kernel
theorem dL_law_377 : decode cL_law 377 = .ok (.goto 1908, 3) := by decide +kernel
theorem dL_law_380 : decode cL_law 380 = .ok (.aload_n 1, 1) := by decide +kernel
theorem dL_law_381 : decode cL_law 381 = .ok (.aload_n 0, 1) := by decide +kernel
theorem dL_law_382 : decode cL_law 382 = .ok (.iload 5, 2) := by decide +kernel
theorem dL_law_384 : decode cL_law 384 = .ok (.iconst 1, 1) := by decide +kernel
theorem dL_law_385 : decode cL_law 385 = .ok (.iadd, 1) := by decide +kernel
theorem dL_law_386 : decode cL_law 386 = .ok (.iaload, 1) := by decide +kernel
theorem dL_law_387 : decode cL_law 387 = .ok (.i2c, 1) := by decide +kernel
theorem dL_law_388 : decode cL_law 388 = .ok (.aload_n 0, 1) := by decide +kernel
theorem dL_law_389 : decode cL_law 389 = .ok (.iload 5, 2) := by decide +kernel
theorem dL_law_391 : decode cL_law 391 = .ok (.iconst 2, 1) := by decide +kernel
theorem dL_law_392 : decode cL_law 392 = .ok (.iadd, 1) := by decide +kernel
theorem dL_law_393 : decode cL_law 393 = .ok (.iaload, 1) := by decide +kernel
theorem dL_law_394 : decode cL_law 394 = .ok (.aload_n 0, 1) := by decide +kernel
theorem dL_law_395 : decode cL_law 395 = .ok (.iload 5, 2) := by decide +kernel
theorem dL_law_397 : decode cL_law 397 = .ok (.iconst 3, 1) := by decide +kernel
theorem dL_law_398 : decode cL_law 398 = .ok (.iadd, 1) := by decide +kernel
theorem dL_law_399 : decode cL_law 399 = .ok (.iaload, 1) := by decide +kernel
theorem dL_law_400 : decode cL_law 400 = .ok (.aload_n 3, 1) := by decide +kernel
theorem dL_law_401 : decode cL_law 401 = .ok (.invokestatic 140, 3) := by decide +kernel
theorem dL_law_404 : decode cL_law 404 = .ok (.istore 6, 2) := by decide +kernel
theorem dL_law_406 : decode cL_law 406 = .ok (.aload_n 2, 1) := by decide +kernel
theorem dL_law_407 : decode cL_law 407 = .ok (.aload_n 0, 1) := by decide +kernel
theorem dL_law_408 : decode cL_law 408 = .ok (.iload 5, 2) := by decide +kernel
theorem dL_law_410 : decode cL_law 410 = .ok (.iconst 1, 1) := by decide +kernel
theorem dL_law_411 : decode cL_law 411 = .ok (.iadd, 1) := by decide +kernel
theorem dL_law_412 : decode cL_law 412 = .ok (.iaload, 1) := by decide +kernel
theorem dL_law_413 : decode cL_law 413 = .ok (.i2c, 1) := by decide +kernel
theorem dL_law_414 : decode cL_law 414 = .ok (.aload_n 0, 1) := by decide +kernel
theorem dL_law_415 : decode cL_law 415 = .ok (.iload 5, 2) := by decide +kernel
theorem dL_law_417 : decode cL_law 417 = .ok (.iconst 2, 1) := by decide +kernel
theorem dL_law_418 : decode cL_law 418 = .ok (.iadd, 1) := by decide +kernel
theorem dL_law_419 : decode cL_law 419 = .ok (.iaload, 1) := by decide +kernel
theorem dL_law_420 : decode cL_law 420 = .ok (.aload_n 0, 1) := by decide +kernel
theorem dL_law_421 : decode cL_law 421 = .ok (.iload 5, 2) := by decide +kernel
theorem dL_law_423 : decode cL_law 423 = .ok (.iconst 3, 1) := by decide +kernel
theorem dL_law_424 : decode cL_law 424 = .ok (.iadd, 1) := by decide +kernel
theorem dL_law_425 : decode cL_law 425 = .ok (.iaload, 1) := by decide +kernel
theorem dL_law_426 : decode cL_law 426 = .ok (.invokevirtual 143, 3) := by decide +kernel
theorem dL_law_429 : decode cL_law 429 = .ok (.istore 7, 2) := by decide +kernel
theorem dL_law_431 : decode cL_law 431 = .ok (.aload_n 2, 1) := by decide +kernel
theorem dL_law_432 : decode cL_law 432 = .ok (.invokevirtual 128, 3) := by decide +kernel
theorem dL_law_435 : decode cL_law 435 = .ok (.iload 6, 2) := by decide +kernel
theorem dL_law_437 : decode cL_law 437 = .ok (.if_icmp .eq 5, 3) := by decide +kernel
theorem dL_law_442 : decode cL_law 442 = .ok (.iload 6, 2) := by decide +kernel
theorem dL_law_444 : decode cL_law 444 = .ok (.ifCond .ne 15, 3) := by decide +kernel
theorem dL_law_447 : decode cL_law 447 = .ok (.aload_n 3, 1) := by decide +kernel
theorem dL_law_448 : decode cL_law 448 = .ok (.iconst 0, 1) := by decide +kernel
theorem dL_law_449 : decode cL_law 449 = .ok (.laload, 1) := by decide +kernel
theorem dL_law_450 : decode cL_law 450 = .ok (.iload 7, 2) := by decide +kernel
theorem dL_law_452 : decode cL_law 452 = .ok (.i2l, 1) := by decide +kernel
theorem dL_law_453 : decode cL_law 453 = .ok (.lcmp, 1) := by decide +kernel
theorem dL_law_454 : decode cL_law 454 = .ok (.ifCond .eq 5, 3) := by decide +kernel
theorem dL_law_459 : decode cL_law 459 = .ok (.goto 1826, 3) := by decide +kernel
section LC0
variable {G : hk_G} {l : Launch} {x m o od c nc nb t k n : Nat} {S : hs_S} {h : hk_H}
theorem lc_addHouse {w1 w2 w3 w4 u1 u2 u3 u4 : Int32} (hfl : l.stackTraces = false) (hj : hJ S c nc nb t) (ht : t < 512) (hL : 5 * t + 5 ≤ hk_K G 1101) (hw0 : hl_I G x m o od S c nc nb h) (hk : 220 ≤ k) (hn : 8000 ≤ n) (e1 : nI (hk_K G (4000 + (5 * t + 1))) = w1) (e2 : nI (hk_K G (4000 + (5 * t + 2))) = w2) (e3 : nI (hk_K G (4000 + (5 * t + 3))) = w3) (e4 : nI (hk_K G (4000 + (5 * t + 4))) = w4) (f1 : (w1.toUInt32 % 65536).toInt32 = u1) (f2 : (w2.toUInt32 % 65536).toInt32 = u2) (f3 : (w3.toUInt32 % 65536).toInt32 = u3) (f4 : (w4.toUInt32 % 65536).toInt32 = u4) (KK : hl_KK G l x m o od t (k - 220) (n - 8000)) : hk_W G l 12 yL_law cL_law 9 (some .boolean) [] hl_Qe hk_no k n h 184 (hl_lv G x m o od t) [] := by
  obtain ⟨A, g, hm, thr, f, fd, hA, rfl, hw, hd, ho, hod, rfl⟩ := hw0
  unfold hl_lv
  obtain ⟨ho1, hoA⟩ := hl_oA hw hd ho
  refine hk_aload_n dL_law_184 rfl rfl rfl ?_
  refine hk_aload_n dL_law_185 rfl rfl rfl ?_
  refine hk_iload dL_law_186 rfl rfl ?_
  refine hk_iconst (v := nI 1) dL_law_188 rfl (by decide) ?_
  refine hk_iadd dL_law_189 rfl ?_
  refine cx_top (nI_add _ _) ?_
  refine hl_sld rfl (by omega) dL_law_190 rfl (by omega) ?_
  refine cx_top e1 ?_
  refine hk_i2c dL_law_191 rfl f1 ?_
  refine hk_aload_n dL_law_192 rfl rfl rfl ?_
  refine hl_callS dL_law_193 rfl ls_L_122 (cl_addHouse (h := hm) hfl hA hj.I (nar_u f1) ho1 hoA) rfl rfl (by decide) ⟨by omega, by omega⟩ (Nat.le_of_ble_eq_true rfl) (hk_ki fun v1 h1 q1 => ?_) hk_nx
  refine hk_istore dL_law_196 rfl (by decide) rfl ?_
  rcases q1 with ⟨z, rfl, f9, hf9, rfl⟩ | ⟨z, rfl, rfl⟩
  · skip
    have hR := hl_R1 (f1 := f9) (S' := cs_open S c u1) hA hw hd ho hod
    obtain ⟨A9, thr9, -, -, hw1, -, -, -⟩ := id hR
    obtain ⟨fs1, hat1⟩ := hm_Wd_at hw1
    refine hk_aload_n dL_law_198 rfl rfl rfl ?_
    refine hk_aload_n dL_law_199 rfl rfl rfl ?_
    refine hk_iload dL_law_200 rfl rfl ?_
    refine hk_iconst (v := nI 1) dL_law_202 rfl (by decide) ?_
    refine hk_iadd dL_law_203 rfl ?_
    refine cx_top (nI_add _ _) ?_
    refine hl_sld rfl (by omega) dL_law_204 rfl (by omega) ?_
    refine cx_top e1 ?_
    refine hk_i2c dL_law_205 rfl f1 ?_
    refine hk_callV dL_law_206 rfl mv_L_127 (cm_addHouse hfl hw1) rfl rfl hat1 rfl rfl (by decide) ⟨by omega, by omega⟩ (Nat.le_of_ble_eq_true rfl) (hk_ki fun v2 h2 q2 => ?_) hk_nx
    refine hk_istore dL_law_209 rfl (by decide) rfl ?_
    obtain ⟨g2, hx2, q2⟩ := q2
    rcases q2 with ⟨z2, rfl, hw2⟩ | ⟨z2, hw2⟩
    · skip
      obtain ⟨hq2, hj2, hr2⟩ := st_addHouse hj ht z
      obtain ⟨hI2, ho3, hod3⟩ := hl_fin hR hx2 hw2 hq2
      obtain ⟨fs2, hat2⟩ := hm_Wd_at hw2
      refine hk_aload_n dL_law_211 rfl rfl rfl ?_
      refine hk_callV dL_law_212 rfl mv_L_128 (cm_thrown hfl hw2) rfl rfl hat2 rfl rfl (by decide) ⟨Nat.zero_le _, Nat.zero_le _⟩ (Nat.le_of_ble_eq_true rfl) (hk_ki fun v3 h3 q3 => ?_) hk_nx
      obtain ⟨rfl, rfl⟩ := q3
      refine hk_iload dL_law_215 rfl rfl ?_
      refine hk_icmp_eq (tgt := 222) dL_law_217 (by decide) rfl (fun _ => ?_) (fun zz => absurd rfl zz)
      refine hk_iload dL_law_222 rfl rfl ?_
      refine hk_if_ne (tgt := 239) dL_law_224 (by decide) rfl (fun zz => absurd rfl zz) (fun _ => ?_)
      refine hk_aload_n dL_law_227 rfl rfl rfl ?_
      refine hk_iconst (v := nI 0) dL_law_228 rfl (by decide) ?_
      refine hk_lald dL_law_229 rfl ho3 (vp_in_nI (by decide) (by decide)) ?_
      refine cx_topl (show f9 (nI 0).toNatClampNeg = _ from hf9) ?_
      refine hk_iload dL_law_230 rfl rfl ?_
      refine hk_i2l dL_law_232 rfl ?_
      refine hk_lcmp dL_law_233 rfl ?_
      refine hk_if_eq (tgt := 239) dL_law_234 (by decide) rfl (fun _ => ?_) (fun zz => absurd (lg_cmp_0.mpr (congrArg Int32.toInt64 hr2)) zz)
      refine hk_goto (tgt := 2285) dL_law_239 (by decide) ?_
      exact hl_go KK (by omega) (by omega) hj2 hI2 (hl_lvle _ _ _)
    · exact absurd (ml_tr_z z) z2
  · skip
    have hR := hl_R0 (S' := S) hA hw hd ho hod
    obtain ⟨A9, thr9, -, -, hw1, -, -, -⟩ := id hR
    obtain ⟨fs1, hat1⟩ := hm_Wd_at hw1
    refine hk_aload_n dL_law_198 rfl rfl rfl ?_
    refine hk_aload_n dL_law_199 rfl rfl rfl ?_
    refine hk_iload dL_law_200 rfl rfl ?_
    refine hk_iconst (v := nI 1) dL_law_202 rfl (by decide) ?_
    refine hk_iadd dL_law_203 rfl ?_
    refine cx_top (nI_add _ _) ?_
    refine hl_sld rfl (by omega) dL_law_204 rfl (by omega) ?_
    refine cx_top e1 ?_
    refine hk_i2c dL_law_205 rfl f1 ?_
    refine hk_callV dL_law_206 rfl mv_L_127 (cm_addHouse hfl hw1) rfl rfl hat1 rfl rfl (by decide) ⟨by omega, by omega⟩ (Nat.le_of_ble_eq_true rfl) (hk_ki fun v2 h2 q2 => ?_) hk_nx
    refine hk_istore dL_law_209 rfl (by decide) rfl ?_
    obtain ⟨g2, hx2, q2⟩ := q2
    rcases q2 with ⟨z2, rfl, hw2⟩ | ⟨z2, hw2⟩
    · exact absurd z2 (ml_tr_p z (by decide)).1
    · skip
      obtain ⟨hI2, ho3, hod3⟩ := hl_fin hR hx2 hw2 hm_q.rf
      obtain ⟨fs2, hat2⟩ := hm_Wd_at hw2
      refine hk_aload_n dL_law_211 rfl rfl rfl ?_
      refine hk_callV dL_law_212 rfl mv_L_128 (cm_thrown hfl hw2) rfl rfl hat2 rfl rfl (by decide) ⟨Nat.zero_le _, Nat.zero_le _⟩ (Nat.le_of_ble_eq_true rfl) (hk_ki fun v3 h3 q3 => ?_) hk_nx
      obtain ⟨rfl, rfl⟩ := q3
      refine hk_iload dL_law_215 rfl rfl ?_
      refine hk_icmp_eq (tgt := 222) dL_law_217 (by decide) rfl (fun _ => ?_) (fun zz => absurd rfl zz)
      refine hk_iload dL_law_222 rfl rfl ?_
      refine hk_if_ne (tgt := 239) dL_law_224 (by decide) rfl (fun _ => ?_) (fun zz => absurd zz (nI_ne0 (Nat.pos_of_ne_zero (ml_tr_p z (by decide)).1) (ml_tr_p z (by decide)).2))
      refine hk_goto (tgt := 2285) dL_law_239 (by decide) ?_
      exact hl_go KK (by omega) (by omega) (hj.up (Nat.le_succ t)) hI2 (hl_lvle _ _ _)
theorem lc_kindOf {w1 w2 w3 w4 u1 u2 u3 u4 : Int32} (hfl : l.stackTraces = false) (hj : hJ S c nc nb t) (ht : t < 512) (hL : 5 * t + 5 ≤ hk_K G 1101) (hw0 : hl_I G x m o od S c nc nb h) (hk : 220 ≤ k) (hn : 8000 ≤ n) (e1 : nI (hk_K G (4000 + (5 * t + 1))) = w1) (e2 : nI (hk_K G (4000 + (5 * t + 2))) = w2) (e3 : nI (hk_K G (4000 + (5 * t + 3))) = w3) (e4 : nI (hk_K G (4000 + (5 * t + 4))) = w4) (f1 : (w1.toUInt32 % 65536).toInt32 = u1) (f2 : (w2.toUInt32 % 65536).toInt32 = u2) (f3 : (w3.toUInt32 % 65536).toInt32 = u3) (f4 : (w4.toUInt32 % 65536).toInt32 = u4) (KK : hl_KK G l x m o od t (k - 220) (n - 8000)) : hk_W G l 12 yL_law cL_law 9 (some .boolean) [] hl_Qe hk_no k n h 242 (hl_lv G x m o od t) [] := by
  obtain ⟨A, g, hm, thr, f, fd, hA, rfl, hw, hd, ho, hod, rfl⟩ := hw0
  unfold hl_lv
  obtain ⟨ho1, hoA⟩ := hl_oA hw hd ho
  refine hk_aload_n dL_law_242 rfl rfl rfl ?_
  refine hk_aload_n dL_law_243 rfl rfl rfl ?_
  refine hk_iload dL_law_244 rfl rfl ?_
  refine hk_iconst (v := nI 1) dL_law_246 rfl (by decide) ?_
  refine hk_iadd dL_law_247 rfl ?_
  refine cx_top (nI_add _ _) ?_
  refine hl_sld rfl (by omega) dL_law_248 rfl (by omega) ?_
  refine cx_top e1 ?_
  refine hk_aload_n dL_law_249 rfl rfl rfl ?_
  refine hl_callS dL_law_250 rfl ls_L_132 (cl_kindOf (h := hm) hfl hA hj.I ho1 hoA) rfl rfl (by decide) ⟨by omega, by omega⟩ (Nat.le_of_ble_eq_true rfl) (hk_ki fun v1 h1 q1 => ?_) hk_nx
  refine hk_istore dL_law_253 rfl (by decide) rfl ?_
  rcases q1 with ⟨z, rfl, f9, hf9, rfl⟩ | ⟨z, rfl, rfl⟩
  · skip
    have hR := hl_R1 (f1 := f9) (S' := S) hA hw hd ho hod
    obtain ⟨A9, thr9, -, -, hw1, -, -, -⟩ := id hR
    obtain ⟨fs1, hat1⟩ := hm_Wd_at hw1
    refine hk_aload_n dL_law_255 rfl rfl rfl ?_
    refine hk_aload_n dL_law_256 rfl rfl rfl ?_
    refine hk_iload dL_law_257 rfl rfl ?_
    refine hk_iconst (v := nI 1) dL_law_259 rfl (by decide) ?_
    refine hk_iadd dL_law_260 rfl ?_
    refine cx_top (nI_add _ _) ?_
    refine hl_sld rfl (by omega) dL_law_261 rfl (by omega) ?_
    refine cx_top e1 ?_
    refine hk_callV dL_law_262 rfl mv_L_135 (cm_kindOf hfl hw1) rfl rfl hat1 rfl rfl (by decide) ⟨by omega, by omega⟩ (Nat.le_of_ble_eq_true rfl) (hk_ki fun v2 h2 q2 => ?_) hk_nx
    refine hk_istore dL_law_265 rfl (by decide) rfl ?_
    obtain ⟨g2, hx2, q2⟩ := q2
    rcases q2 with ⟨z2, rfl, hw2⟩ | ⟨z2, hw2⟩
    · skip
      obtain ⟨hq2, hj2, hr2⟩ := st_kindOf hj ht z
      obtain ⟨hI2, ho3, hod3⟩ := hl_fin hR hx2 hw2 hq2
      obtain ⟨fs2, hat2⟩ := hm_Wd_at hw2
      refine hk_aload_n dL_law_267 rfl rfl rfl ?_
      refine hk_callV dL_law_268 rfl mv_L_128 (cm_thrown hfl hw2) rfl rfl hat2 rfl rfl (by decide) ⟨Nat.zero_le _, Nat.zero_le _⟩ (Nat.le_of_ble_eq_true rfl) (hk_ki fun v3 h3 q3 => ?_) hk_nx
      obtain ⟨rfl, rfl⟩ := q3
      refine hk_iload dL_law_271 rfl rfl ?_
      refine hk_icmp_eq (tgt := 278) dL_law_273 (by decide) rfl (fun _ => ?_) (fun zz => absurd rfl zz)
      refine hk_iload dL_law_278 rfl rfl ?_
      refine hk_if_ne (tgt := 295) dL_law_280 (by decide) rfl (fun zz => absurd rfl zz) (fun _ => ?_)
      refine hk_aload_n dL_law_283 rfl rfl rfl ?_
      refine hk_iconst (v := nI 0) dL_law_284 rfl (by decide) ?_
      refine hk_lald dL_law_285 rfl ho3 (vp_in_nI (by decide) (by decide)) ?_
      refine cx_topl (show f9 (nI 0).toNatClampNeg = _ from hf9) ?_
      refine hk_iload dL_law_286 rfl rfl ?_
      refine hk_i2l dL_law_288 rfl ?_
      refine hk_lcmp dL_law_289 rfl ?_
      refine hk_if_eq (tgt := 295) dL_law_290 (by decide) rfl (fun _ => ?_) (fun zz => absurd (lg_cmp_0.mpr (congrArg Int32.toInt64 hr2)) zz)
      refine hk_goto (tgt := 2285) dL_law_295 (by decide) ?_
      exact hl_go KK (by omega) (by omega) hj2 hI2 (hl_lvle _ _ _)
    · exact absurd (ml_tr_z z) z2
  · skip
    have hR := hl_R0 (S' := S) hA hw hd ho hod
    obtain ⟨A9, thr9, -, -, hw1, -, -, -⟩ := id hR
    obtain ⟨fs1, hat1⟩ := hm_Wd_at hw1
    refine hk_aload_n dL_law_255 rfl rfl rfl ?_
    refine hk_aload_n dL_law_256 rfl rfl rfl ?_
    refine hk_iload dL_law_257 rfl rfl ?_
    refine hk_iconst (v := nI 1) dL_law_259 rfl (by decide) ?_
    refine hk_iadd dL_law_260 rfl ?_
    refine cx_top (nI_add _ _) ?_
    refine hl_sld rfl (by omega) dL_law_261 rfl (by omega) ?_
    refine cx_top e1 ?_
    refine hk_callV dL_law_262 rfl mv_L_135 (cm_kindOf hfl hw1) rfl rfl hat1 rfl rfl (by decide) ⟨by omega, by omega⟩ (Nat.le_of_ble_eq_true rfl) (hk_ki fun v2 h2 q2 => ?_) hk_nx
    refine hk_istore dL_law_265 rfl (by decide) rfl ?_
    obtain ⟨g2, hx2, q2⟩ := q2
    rcases q2 with ⟨z2, rfl, hw2⟩ | ⟨z2, hw2⟩
    · exact absurd z2 (ml_tr_p z (by decide)).1
    · skip
      obtain ⟨hI2, ho3, hod3⟩ := hl_fin hR hx2 hw2 hm_q.rf
      obtain ⟨fs2, hat2⟩ := hm_Wd_at hw2
      refine hk_aload_n dL_law_267 rfl rfl rfl ?_
      refine hk_callV dL_law_268 rfl mv_L_128 (cm_thrown hfl hw2) rfl rfl hat2 rfl rfl (by decide) ⟨Nat.zero_le _, Nat.zero_le _⟩ (Nat.le_of_ble_eq_true rfl) (hk_ki fun v3 h3 q3 => ?_) hk_nx
      obtain ⟨rfl, rfl⟩ := q3
      refine hk_iload dL_law_271 rfl rfl ?_
      refine hk_icmp_eq (tgt := 278) dL_law_273 (by decide) rfl (fun _ => ?_) (fun zz => absurd rfl zz)
      refine hk_iload dL_law_278 rfl rfl ?_
      refine hk_if_ne (tgt := 295) dL_law_280 (by decide) rfl (fun _ => ?_) (fun zz => absurd zz (nI_ne0 (Nat.pos_of_ne_zero (ml_tr_p z (by decide)).1) (ml_tr_p z (by decide)).2))
      refine hk_goto (tgt := 2285) dL_law_295 (by decide) ?_
      exact hl_go KK (by omega) (by omega) (hj.up (Nat.le_succ t)) hI2 (hl_lvle _ _ _)
theorem lc_dig {w1 w2 w3 w4 u1 u2 u3 u4 : Int32} (hfl : l.stackTraces = false) (hj : hJ S c nc nb t) (ht : t < 512) (hL : 5 * t + 5 ≤ hk_K G 1101) (hw0 : hl_I G x m o od S c nc nb h) (hk : 220 ≤ k) (hn : 8000 ≤ n) (e1 : nI (hk_K G (4000 + (5 * t + 1))) = w1) (e2 : nI (hk_K G (4000 + (5 * t + 2))) = w2) (e3 : nI (hk_K G (4000 + (5 * t + 3))) = w3) (e4 : nI (hk_K G (4000 + (5 * t + 4))) = w4) (f1 : (w1.toUInt32 % 65536).toInt32 = u1) (f2 : (w2.toUInt32 % 65536).toInt32 = u2) (f3 : (w3.toUInt32 % 65536).toInt32 = u3) (f4 : (w4.toUInt32 % 65536).toInt32 = u4) (KK : hl_KK G l x m o od t (k - 220) (n - 8000)) : hk_W G l 12 yL_law cL_law 9 (some .boolean) [] hl_Qe hk_no k n h 298 (hl_lv G x m o od t) [] := by
  obtain ⟨A, g, hm, thr, f, fd, hA, rfl, hw, hd, ho, hod, rfl⟩ := hw0
  unfold hl_lv
  obtain ⟨ho1, hoA⟩ := hl_oA hw hd ho
  refine hk_aload_n dL_law_298 rfl rfl rfl ?_
  refine hk_aload_n dL_law_299 rfl rfl rfl ?_
  refine hk_iload dL_law_300 rfl rfl ?_
  refine hk_iconst (v := nI 1) dL_law_302 rfl (by decide) ?_
  refine hk_iadd dL_law_303 rfl ?_
  refine cx_top (nI_add _ _) ?_
  refine hl_sld rfl (by omega) dL_law_304 rfl (by omega) ?_
  refine cx_top e1 ?_
  refine hk_aload_n dL_law_305 rfl rfl rfl ?_
  refine hk_iload dL_law_306 rfl rfl ?_
  refine hk_iconst (v := nI 2) dL_law_308 rfl (by decide) ?_
  refine hk_iadd dL_law_309 rfl ?_
  refine cx_top (nI_add _ _) ?_
  refine hl_sld rfl (by omega) dL_law_310 rfl (by omega) ?_
  refine cx_top e2 ?_
  refine hk_i2c dL_law_311 rfl f2 ?_
  refine hk_aload_n dL_law_312 rfl rfl rfl ?_
  refine hk_iload dL_law_313 rfl rfl ?_
  refine hk_iconst (v := nI 3) dL_law_315 rfl (by decide) ?_
  refine hk_iadd dL_law_316 rfl ?_
  refine cx_top (nI_add _ _) ?_
  refine hl_sld rfl (by omega) dL_law_317 rfl (by omega) ?_
  refine cx_top e3 ?_
  refine hk_aload_n dL_law_318 rfl rfl rfl ?_
  refine hl_callS dL_law_319 rfl ls_L_136 (cl_dig (h := hm) hfl hA hj.I ho1 hoA) rfl rfl (by decide) ⟨by omega, by omega⟩ (Nat.le_of_ble_eq_true rfl) (hk_ki fun v1 h1 q1 => ?_) hk_nx
  refine hk_istore dL_law_322 rfl (by decide) rfl ?_
  rcases q1 with ⟨z, rfl, f9, hf9, rfl⟩ | ⟨z, rfl, rfl⟩
  · skip
    have hR := hl_R1 (f1 := f9) (S' := cs_dig S w1 u2 w3) hA hw hd ho hod
    obtain ⟨A9, thr9, -, -, hw1, -, -, -⟩ := id hR
    obtain ⟨fs1, hat1⟩ := hm_Wd_at hw1
    refine hk_aload_n dL_law_324 rfl rfl rfl ?_
    refine hk_aload_n dL_law_325 rfl rfl rfl ?_
    refine hk_iload dL_law_326 rfl rfl ?_
    refine hk_iconst (v := nI 1) dL_law_328 rfl (by decide) ?_
    refine hk_iadd dL_law_329 rfl ?_
    refine cx_top (nI_add _ _) ?_
    refine hl_sld rfl (by omega) dL_law_330 rfl (by omega) ?_
    refine cx_top e1 ?_
    refine hk_aload_n dL_law_331 rfl rfl rfl ?_
    refine hk_iload dL_law_332 rfl rfl ?_
    refine hk_iconst (v := nI 2) dL_law_334 rfl (by decide) ?_
    refine hk_iadd dL_law_335 rfl ?_
    refine cx_top (nI_add _ _) ?_
    refine hl_sld rfl (by omega) dL_law_336 rfl (by omega) ?_
    refine cx_top e2 ?_
    refine hk_i2c dL_law_337 rfl f2 ?_
    refine hk_aload_n dL_law_338 rfl rfl rfl ?_
    refine hk_iload dL_law_339 rfl rfl ?_
    refine hk_iconst (v := nI 3) dL_law_341 rfl (by decide) ?_
    refine hk_iadd dL_law_342 rfl ?_
    refine cx_top (nI_add _ _) ?_
    refine hl_sld rfl (by omega) dL_law_343 rfl (by omega) ?_
    refine cx_top e3 ?_
    refine hk_callV dL_law_344 rfl mv_L_139 (cm_dig hfl hw1) rfl rfl hat1 rfl rfl (by decide) ⟨by omega, by omega⟩ (Nat.le_of_ble_eq_true rfl) (hk_ki fun v2 h2 q2 => ?_) hk_nx
    refine hk_istore dL_law_347 rfl (by decide) rfl ?_
    obtain ⟨g2, hx2, q2⟩ := q2
    rcases q2 with ⟨z2, rfl, hw2⟩ | ⟨z2, hw2⟩
    · skip
      obtain ⟨hq2, hj2, hr2⟩ := st_dig hj ht z
      obtain ⟨hI2, ho3, hod3⟩ := hl_fin hR hx2 hw2 hq2
      obtain ⟨fs2, hat2⟩ := hm_Wd_at hw2
      refine hk_aload_n dL_law_349 rfl rfl rfl ?_
      refine hk_callV dL_law_350 rfl mv_L_128 (cm_thrown hfl hw2) rfl rfl hat2 rfl rfl (by decide) ⟨Nat.zero_le _, Nat.zero_le _⟩ (Nat.le_of_ble_eq_true rfl) (hk_ki fun v3 h3 q3 => ?_) hk_nx
      obtain ⟨rfl, rfl⟩ := q3
      refine hk_iload dL_law_353 rfl rfl ?_
      refine hk_icmp_eq (tgt := 360) dL_law_355 (by decide) rfl (fun _ => ?_) (fun zz => absurd rfl zz)
      refine hk_iload dL_law_360 rfl rfl ?_
      refine hk_if_ne (tgt := 377) dL_law_362 (by decide) rfl (fun zz => absurd rfl zz) (fun _ => ?_)
      refine hk_aload_n dL_law_365 rfl rfl rfl ?_
      refine hk_iconst (v := nI 0) dL_law_366 rfl (by decide) ?_
      refine hk_lald dL_law_367 rfl ho3 (vp_in_nI (by decide) (by decide)) ?_
      refine cx_topl (show f9 (nI 0).toNatClampNeg = _ from hf9) ?_
      refine hk_iload dL_law_368 rfl rfl ?_
      refine hk_i2l dL_law_370 rfl ?_
      refine hk_lcmp dL_law_371 rfl ?_
      refine hk_if_eq (tgt := 377) dL_law_372 (by decide) rfl (fun _ => ?_) (fun zz => absurd (lg_cmp_0.mpr (congrArg Int32.toInt64 hr2)) zz)
      refine hk_goto (tgt := 2285) dL_law_377 (by decide) ?_
      exact hl_go KK (by omega) (by omega) hj2 hI2 (hl_lvle _ _ _)
    · exact absurd (ml_tr_z z) z2
  · skip
    have hR := hl_R0 (S' := S) hA hw hd ho hod
    obtain ⟨A9, thr9, -, -, hw1, -, -, -⟩ := id hR
    obtain ⟨fs1, hat1⟩ := hm_Wd_at hw1
    refine hk_aload_n dL_law_324 rfl rfl rfl ?_
    refine hk_aload_n dL_law_325 rfl rfl rfl ?_
    refine hk_iload dL_law_326 rfl rfl ?_
    refine hk_iconst (v := nI 1) dL_law_328 rfl (by decide) ?_
    refine hk_iadd dL_law_329 rfl ?_
    refine cx_top (nI_add _ _) ?_
    refine hl_sld rfl (by omega) dL_law_330 rfl (by omega) ?_
    refine cx_top e1 ?_
    refine hk_aload_n dL_law_331 rfl rfl rfl ?_
    refine hk_iload dL_law_332 rfl rfl ?_
    refine hk_iconst (v := nI 2) dL_law_334 rfl (by decide) ?_
    refine hk_iadd dL_law_335 rfl ?_
    refine cx_top (nI_add _ _) ?_
    refine hl_sld rfl (by omega) dL_law_336 rfl (by omega) ?_
    refine cx_top e2 ?_
    refine hk_i2c dL_law_337 rfl f2 ?_
    refine hk_aload_n dL_law_338 rfl rfl rfl ?_
    refine hk_iload dL_law_339 rfl rfl ?_
    refine hk_iconst (v := nI 3) dL_law_341 rfl (by decide) ?_
    refine hk_iadd dL_law_342 rfl ?_
    refine cx_top (nI_add _ _) ?_
    refine hl_sld rfl (by omega) dL_law_343 rfl (by omega) ?_
    refine cx_top e3 ?_
    refine hk_callV dL_law_344 rfl mv_L_139 (cm_dig hfl hw1) rfl rfl hat1 rfl rfl (by decide) ⟨by omega, by omega⟩ (Nat.le_of_ble_eq_true rfl) (hk_ki fun v2 h2 q2 => ?_) hk_nx
    refine hk_istore dL_law_347 rfl (by decide) rfl ?_
    obtain ⟨g2, hx2, q2⟩ := q2
    rcases q2 with ⟨z2, rfl, hw2⟩ | ⟨z2, hw2⟩
    · exact absurd z2 (ml_tr_p z (by decide)).1
    · skip
      obtain ⟨hI2, ho3, hod3⟩ := hl_fin hR hx2 hw2 hm_q.rf
      obtain ⟨fs2, hat2⟩ := hm_Wd_at hw2
      refine hk_aload_n dL_law_349 rfl rfl rfl ?_
      refine hk_callV dL_law_350 rfl mv_L_128 (cm_thrown hfl hw2) rfl rfl hat2 rfl rfl (by decide) ⟨Nat.zero_le _, Nat.zero_le _⟩ (Nat.le_of_ble_eq_true rfl) (hk_ki fun v3 h3 q3 => ?_) hk_nx
      obtain ⟨rfl, rfl⟩ := q3
      refine hk_iload dL_law_353 rfl rfl ?_
      refine hk_icmp_eq (tgt := 360) dL_law_355 (by decide) rfl (fun _ => ?_) (fun zz => absurd rfl zz)
      refine hk_iload dL_law_360 rfl rfl ?_
      refine hk_if_ne (tgt := 377) dL_law_362 (by decide) rfl (fun _ => ?_) (fun zz => absurd zz (nI_ne0 (Nat.pos_of_ne_zero (ml_tr_p z (by decide)).1) (ml_tr_p z (by decide)).2))
      refine hk_goto (tgt := 2285) dL_law_377 (by decide) ?_
      exact hl_go KK (by omega) (by omega) (hj.up (Nat.le_succ t)) hI2 (hl_lvle _ _ _)
theorem lc_decree {w1 w2 w3 w4 u1 u2 u3 u4 : Int32} (hfl : l.stackTraces = false) (hj : hJ S c nc nb t) (ht : t < 512) (hL : 5 * t + 5 ≤ hk_K G 1101) (hw0 : hl_I G x m o od S c nc nb h) (hk : 220 ≤ k) (hn : 8000 ≤ n) (e1 : nI (hk_K G (4000 + (5 * t + 1))) = w1) (e2 : nI (hk_K G (4000 + (5 * t + 2))) = w2) (e3 : nI (hk_K G (4000 + (5 * t + 3))) = w3) (e4 : nI (hk_K G (4000 + (5 * t + 4))) = w4) (f1 : (w1.toUInt32 % 65536).toInt32 = u1) (f2 : (w2.toUInt32 % 65536).toInt32 = u2) (f3 : (w3.toUInt32 % 65536).toInt32 = u3) (f4 : (w4.toUInt32 % 65536).toInt32 = u4) (KK : hl_KK G l x m o od t (k - 220) (n - 8000)) : hk_W G l 12 yL_law cL_law 9 (some .boolean) [] hl_Qe hk_no k n h 380 (hl_lv G x m o od t) [] := by
  obtain ⟨A, g, hm, thr, f, fd, hA, rfl, hw, hd, ho, hod, rfl⟩ := hw0
  unfold hl_lv
  obtain ⟨ho1, hoA⟩ := hl_oA hw hd ho
  refine hk_aload_n dL_law_380 rfl rfl rfl ?_
  refine hk_aload_n dL_law_381 rfl rfl rfl ?_
  refine hk_iload dL_law_382 rfl rfl ?_
  refine hk_iconst (v := nI 1) dL_law_384 rfl (by decide) ?_
  refine hk_iadd dL_law_385 rfl ?_
  refine cx_top (nI_add _ _) ?_
  refine hl_sld rfl (by omega) dL_law_386 rfl (by omega) ?_
  refine cx_top e1 ?_
  refine hk_i2c dL_law_387 rfl f1 ?_
  refine hk_aload_n dL_law_388 rfl rfl rfl ?_
  refine hk_iload dL_law_389 rfl rfl ?_
  refine hk_iconst (v := nI 2) dL_law_391 rfl (by decide) ?_
  refine hk_iadd dL_law_392 rfl ?_
  refine cx_top (nI_add _ _) ?_
  refine hl_sld rfl (by omega) dL_law_393 rfl (by omega) ?_
  refine cx_top e2 ?_
  refine hk_aload_n dL_law_394 rfl rfl rfl ?_
  refine hk_iload dL_law_395 rfl rfl ?_
  refine hk_iconst (v := nI 3) dL_law_397 rfl (by decide) ?_
  refine hk_iadd dL_law_398 rfl ?_
  refine cx_top (nI_add _ _) ?_
  refine hl_sld rfl (by omega) dL_law_399 rfl (by omega) ?_
  refine cx_top e3 ?_
  refine hk_aload_n dL_law_400 rfl rfl rfl ?_
  refine hl_callS dL_law_401 rfl ls_L_140 (cl_decree (h := hm) hfl hA hj.I ho1 hoA) rfl rfl (by decide) ⟨by omega, by omega⟩ (Nat.le_of_ble_eq_true rfl) (hk_ki fun v1 h1 q1 => ?_) hk_nx
  refine hk_istore dL_law_404 rfl (by decide) rfl ?_
  rcases q1 with ⟨z, rfl, f9, hf9, rfl⟩ | ⟨z, rfl, rfl⟩
  · skip
    have hR := hl_R1 (f1 := f9) (S' := cs_decree S u1 w2 w3) hA hw hd ho hod
    obtain ⟨A9, thr9, -, -, hw1, -, -, -⟩ := id hR
    obtain ⟨fs1, hat1⟩ := hm_Wd_at hw1
    refine hk_aload_n dL_law_406 rfl rfl rfl ?_
    refine hk_aload_n dL_law_407 rfl rfl rfl ?_
    refine hk_iload dL_law_408 rfl rfl ?_
    refine hk_iconst (v := nI 1) dL_law_410 rfl (by decide) ?_
    refine hk_iadd dL_law_411 rfl ?_
    refine cx_top (nI_add _ _) ?_
    refine hl_sld rfl (by omega) dL_law_412 rfl (by omega) ?_
    refine cx_top e1 ?_
    refine hk_i2c dL_law_413 rfl f1 ?_
    refine hk_aload_n dL_law_414 rfl rfl rfl ?_
    refine hk_iload dL_law_415 rfl rfl ?_
    refine hk_iconst (v := nI 2) dL_law_417 rfl (by decide) ?_
    refine hk_iadd dL_law_418 rfl ?_
    refine cx_top (nI_add _ _) ?_
    refine hl_sld rfl (by omega) dL_law_419 rfl (by omega) ?_
    refine cx_top e2 ?_
    refine hk_aload_n dL_law_420 rfl rfl rfl ?_
    refine hk_iload dL_law_421 rfl rfl ?_
    refine hk_iconst (v := nI 3) dL_law_423 rfl (by decide) ?_
    refine hk_iadd dL_law_424 rfl ?_
    refine cx_top (nI_add _ _) ?_
    refine hl_sld rfl (by omega) dL_law_425 rfl (by omega) ?_
    refine cx_top e3 ?_
    refine hk_callV dL_law_426 rfl mv_L_143 (cm_decree hfl hw1) rfl rfl hat1 rfl rfl (by decide) ⟨by omega, by omega⟩ (Nat.le_of_ble_eq_true rfl) (hk_ki fun v2 h2 q2 => ?_) hk_nx
    refine hk_istore dL_law_429 rfl (by decide) rfl ?_
    obtain ⟨g2, hx2, q2⟩ := q2
    rcases q2 with ⟨z2, rfl, hw2⟩ | ⟨z2, hw2⟩
    · skip
      obtain ⟨hq2, hj2, hr2⟩ := st_decree hj ht z
      obtain ⟨hI2, ho3, hod3⟩ := hl_fin hR hx2 hw2 hq2
      obtain ⟨fs2, hat2⟩ := hm_Wd_at hw2
      refine hk_aload_n dL_law_431 rfl rfl rfl ?_
      refine hk_callV dL_law_432 rfl mv_L_128 (cm_thrown hfl hw2) rfl rfl hat2 rfl rfl (by decide) ⟨Nat.zero_le _, Nat.zero_le _⟩ (Nat.le_of_ble_eq_true rfl) (hk_ki fun v3 h3 q3 => ?_) hk_nx
      obtain ⟨rfl, rfl⟩ := q3
      refine hk_iload dL_law_435 rfl rfl ?_
      refine hk_icmp_eq (tgt := 442) dL_law_437 (by decide) rfl (fun _ => ?_) (fun zz => absurd rfl zz)
      refine hk_iload dL_law_442 rfl rfl ?_
      refine hk_if_ne (tgt := 459) dL_law_444 (by decide) rfl (fun zz => absurd rfl zz) (fun _ => ?_)
      refine hk_aload_n dL_law_447 rfl rfl rfl ?_
      refine hk_iconst (v := nI 0) dL_law_448 rfl (by decide) ?_
      refine hk_lald dL_law_449 rfl ho3 (vp_in_nI (by decide) (by decide)) ?_
      refine cx_topl (show f9 (nI 0).toNatClampNeg = _ from hf9) ?_
      refine hk_iload dL_law_450 rfl rfl ?_
      refine hk_i2l dL_law_452 rfl ?_
      refine hk_lcmp dL_law_453 rfl ?_
      refine hk_if_eq (tgt := 459) dL_law_454 (by decide) rfl (fun _ => ?_) (fun zz => absurd (lg_cmp_0.mpr (congrArg Int32.toInt64 hr2)) zz)
      refine hk_goto (tgt := 2285) dL_law_459 (by decide) ?_
      exact hl_go KK (by omega) (by omega) hj2 hI2 (hl_lvle _ _ _)
    · exact absurd (ml_tr_z z) z2
  · skip
    have hR := hl_R0 (S' := S) hA hw hd ho hod
    obtain ⟨A9, thr9, -, -, hw1, -, -, -⟩ := id hR
    obtain ⟨fs1, hat1⟩ := hm_Wd_at hw1
    refine hk_aload_n dL_law_406 rfl rfl rfl ?_
    refine hk_aload_n dL_law_407 rfl rfl rfl ?_
    refine hk_iload dL_law_408 rfl rfl ?_
    refine hk_iconst (v := nI 1) dL_law_410 rfl (by decide) ?_
    refine hk_iadd dL_law_411 rfl ?_
    refine cx_top (nI_add _ _) ?_
    refine hl_sld rfl (by omega) dL_law_412 rfl (by omega) ?_
    refine cx_top e1 ?_
    refine hk_i2c dL_law_413 rfl f1 ?_
    refine hk_aload_n dL_law_414 rfl rfl rfl ?_
    refine hk_iload dL_law_415 rfl rfl ?_
    refine hk_iconst (v := nI 2) dL_law_417 rfl (by decide) ?_
    refine hk_iadd dL_law_418 rfl ?_
    refine cx_top (nI_add _ _) ?_
    refine hl_sld rfl (by omega) dL_law_419 rfl (by omega) ?_
    refine cx_top e2 ?_
    refine hk_aload_n dL_law_420 rfl rfl rfl ?_
    refine hk_iload dL_law_421 rfl rfl ?_
    refine hk_iconst (v := nI 3) dL_law_423 rfl (by decide) ?_
    refine hk_iadd dL_law_424 rfl ?_
    refine cx_top (nI_add _ _) ?_
    refine hl_sld rfl (by omega) dL_law_425 rfl (by omega) ?_
    refine cx_top e3 ?_
    refine hk_callV dL_law_426 rfl mv_L_143 (cm_decree hfl hw1) rfl rfl hat1 rfl rfl (by decide) ⟨by omega, by omega⟩ (Nat.le_of_ble_eq_true rfl) (hk_ki fun v2 h2 q2 => ?_) hk_nx
    refine hk_istore dL_law_429 rfl (by decide) rfl ?_
    obtain ⟨g2, hx2, q2⟩ := q2
    rcases q2 with ⟨z2, rfl, hw2⟩ | ⟨z2, hw2⟩
    · exact absurd z2 (ml_tr_p z (by decide)).1
    · skip
      obtain ⟨hI2, ho3, hod3⟩ := hl_fin hR hx2 hw2 hm_q.rf
      obtain ⟨fs2, hat2⟩ := hm_Wd_at hw2
      refine hk_aload_n dL_law_431 rfl rfl rfl ?_
      refine hk_callV dL_law_432 rfl mv_L_128 (cm_thrown hfl hw2) rfl rfl hat2 rfl rfl (by decide) ⟨Nat.zero_le _, Nat.zero_le _⟩ (Nat.le_of_ble_eq_true rfl) (hk_ki fun v3 h3 q3 => ?_) hk_nx
      obtain ⟨rfl, rfl⟩ := q3
      refine hk_iload dL_law_435 rfl rfl ?_
      refine hk_icmp_eq (tgt := 442) dL_law_437 (by decide) rfl (fun _ => ?_) (fun zz => absurd rfl zz)
      refine hk_iload dL_law_442 rfl rfl ?_
      refine hk_if_ne (tgt := 459) dL_law_444 (by decide) rfl (fun _ => ?_) (fun zz => absurd zz (nI_ne0 (Nat.pos_of_ne_zero (ml_tr_p z (by decide)).1) (ml_tr_p z (by decide)).2))
      refine hk_goto (tgt := 2285) dL_law_459 (by decide) ?_
      exact hl_go KK (by omega) (by omega) (hj.up (Nat.le_succ t)) hI2 (hl_lvle _ _ _)
end LC0
