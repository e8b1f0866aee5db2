/-! THE LAW'S LOOP -/
def isScr (K : xK) (b L : Nat) (xs : Nat → Int32) : Prop := va_X b L xs K.1.2.2.2.2.1 K.1.2.2.2.2.1.heap ∧ b < K.1.2.2.2.2.1.heap.size ∧ ¬ K.2.1 b
section LW
variable {W : xW} {K : xK} {d : xD} {b L i : Nat} {xs : Nat → Int32}
theorem m_sld {cc : ByteArray} {own : String} {dep pc : Nat} {loc : List (Option Value)} {stk : List Value} (h : isScr K b L xs) (hi : i < L) (hL : L < 2 ^ 31) (dd : decode cc pc = .ok (.iaload, 1)) (kk : mG W K cc own dep d (pc + 1) loc (.int (xs i) :: stk)) : mG W K cc own dep d pc loc (.int (nI i) :: .ref b :: stk) := by
  intro hb
  obtain ⟨⟨l, p, e, R, s, m, args, below, meth, c⟩, A, Z, rm, nm, ret⟩ := K
  intro hO H locs ls hP hD hS hl hml
  refine va_sld hO.1 hO.2.1 h.1 h.2.1 h.2.2 hS (pk_in i L hi rfl) dd ?_
  rw [pk_cl i rfl (by omega)]
  exact kk hb hO H locs ls hP hD hS hl hml
theorem m_slen {cc : ByteArray} {own : String} {dep pc : Nat} {loc : List (Option Value)} {stk : List Value} (h : isScr K b L xs) (dd : decode cc pc = .ok (.arraylength, 1)) (kk : mG W K cc own dep d (pc + 1) loc (.int (nI L) :: stk)) : mG W K cc own dep d pc loc (.ref b :: stk) := by
  intro hb
  obtain ⟨⟨l, p, e, R, s, m, args, below, meth, c⟩, A, Z, rm, nm, ret⟩ := K
  intro hO H locs ls hP hD hS hl hml
  exact va_slen hO.1 hO.2.1 h.1 h.2.1 h.2.2 hS dd (kk hb hO H locs ls hP hD hS hl hml)

set_option maxHeartbeats 1000000 in
theorem law_write (hs : isScr K b L xs) (hi : i + 4 ≤ L) (hL : L ≤ 2048) (h : inv d) (kk : ∀ d', inv d' → mG W K cL_law RL (11 + 1) d' 1198 [some (.ref b), some (.ref (xad W 0)), some (.ref (xad W 240)), some (.int (nI i))] []) : mG W K cL_law RL (11 + 1) d 176 [some (.ref b), some (.ref (xad W 0)), some (.ref (xad W 240)), some (.int (nI i))] [] := by
  obtain ⟨J, j1, j2⟩ := p_write (l := K.1.1) (W := W) (((xs (i + 1)).toInt64 <<< ((32 : Int32).toInt64 &&& 63)) ||| ((xs (i + 2)).toInt64 &&& 4294967295)) (xs (i + 3)) h
  refine m_aload_n dL_law_176 rfl ?_
  refine m_aload_n dL_law_177 rfl ?_
  refine m_iload_n dL_law_178 rfl ?_
  refine m_iconstN 1 dL_law_179 (by decide) ?_
  refine m_iaddN dL_law_180 ?_
  refine m_sld hs (by omega) (by omega) dL_law_181 ?_
  refine m_i2l dL_law_182 ?_
  refine m_bipush (v := 32) dL_law_183 (by decide) ?_
  refine m_lshl dL_law_185 ?_
  refine m_aload_n dL_law_186 rfl ?_
  refine m_iload_n dL_law_187 rfl ?_
  refine m_iconstN 2 dL_law_188 (by decide) ?_
  refine m_iaddN dL_law_189 ?_
  refine m_sld hs (by omega) (by omega) dL_law_190 ?_
  refine m_i2l dL_law_191 ?_
  refine m_ldc2 ct_L_13 dL_law_192 ?_
  refine m_land dL_law_195 ?_
  refine m_lor dL_law_196 ?_
  refine m_aload_n dL_law_197 rfl ?_
  refine m_iload_n dL_law_198 rfl ?_
  refine m_iconstN 3 dL_law_199 (by decide) ?_
  refine m_iaddN dL_law_200 ?_
  refine m_sld hs (by omega) (by omega) dL_law_201 ?_
  refine m_callVI j1 cv_L_15 dL_law_202 (fun r d1 hJ => ?_)
  refine m_aload_n dL_law_205 rfl ?_
  refine m_aload_n dL_law_206 rfl ?_
  refine m_iload_n dL_law_207 rfl ?_
  refine m_iconstN 1 dL_law_208 (by decide) ?_
  refine m_iaddN dL_law_209 ?_
  refine m_sld hs (by omega) (by omega) dL_law_210 ?_
  refine m_i2l dL_law_211 ?_
  refine m_bipush (v := 32) dL_law_212 (by decide) ?_
  refine m_lshl dL_law_214 ?_
  refine m_aload_n dL_law_215 rfl ?_
  refine m_iload_n dL_law_216 rfl ?_
  refine m_iconstN 2 dL_law_217 (by decide) ?_
  refine m_iaddN dL_law_218 ?_
  refine m_sld hs (by omega) (by omega) dL_law_219 ?_
  refine m_i2l dL_law_220 ?_
  refine m_ldc2 ct_L_13 dL_law_221 ?_
  refine m_land dL_law_224 ?_
  refine m_lor dL_law_225 ?_
  refine m_aload_n dL_law_226 rfl ?_
  refine m_iload_n dL_law_227 rfl ?_
  refine m_iconstN 3 dL_law_228 (by decide) ?_
  refine m_iaddN dL_law_229 ?_
  refine m_sld hs (by omega) (by omega) dL_law_230 ?_
  refine m_callVI (j2 r d1 hJ) cv_L_19 dL_law_231 (fun r2 d2 g => ?_)
  exact m_icmp_eq 1198 dL_law_234 (by decide) (fun _ => kk d2 g.2) (fun q => absurd g.1.symm q)
set_option maxHeartbeats 1000000 in
theorem law_erase (hs : isScr K b L xs) (hi : i + 4 ≤ L) (hL : L ≤ 2048) (h : inv d) (kk : ∀ d', inv d' → mG W K cL_law RL (11 + 1) d' 1198 [some (.ref b), some (.ref (xad W 0)), some (.ref (xad W 240)), some (.int (nI i))] []) : mG W K cL_law RL (11 + 1) d 239 [some (.ref b), some (.ref (xad W 0)), some (.ref (xad W 240)), some (.int (nI i))] [] := by
  obtain ⟨J, j1, j2⟩ := p_erase (l := K.1.1) (W := W) h
  refine m_aload_n dL_law_239 rfl ?_
  refine m_callVI j1 cv_L_20 dL_law_240 (fun r d1 hJ => ?_)
  refine m_aload_n dL_law_243 rfl ?_
  refine m_callVI (j2 r d1 hJ) cv_L_24 dL_law_244 (fun r2 d2 g => ?_)
  exact m_icmp_eq 1198 dL_law_247 (by decide) (fun _ => kk d2 g.2) (fun q => absurd g.1.symm q)
set_option maxHeartbeats 1000000 in
theorem law_fault (hs : isScr K b L xs) (hi : i + 4 ≤ L) (hL : L ≤ 2048) (h : inv d) (kk : ∀ d', inv d' → mG W K cL_law RL (11 + 1) d' 1198 [some (.ref b), some (.ref (xad W 0)), some (.ref (xad W 240)), some (.int (nI i))] []) : mG W K cL_law RL (11 + 1) d 252 [some (.ref b), some (.ref (xad W 0)), some (.ref (xad W 240)), some (.int (nI i))] [] := by
  obtain ⟨J, j1, j2⟩ := p_fault (l := K.1.1) (W := W) h
  refine m_aload_n dL_law_252 rfl ?_
  refine m_callVI j1 cv_L_25 dL_law_253 (fun r d1 hJ => ?_)
  refine m_aload_n dL_law_256 rfl ?_
  refine m_callVI (j2 r d1 hJ) cv_L_28 dL_law_257 (fun r2 d2 g => ?_)
  exact m_icmp_eq 1198 dL_law_260 (by decide) (fun _ => kk d2 g.2) (fun q => absurd g.1.symm q)
set_option maxHeartbeats 1000000 in
theorem law_told (hs : isScr K b L xs) (hi : i + 4 ≤ L) (hL : L ≤ 2048) (h : inv d) (kk : ∀ d', inv d' → mG W K cL_law RL (11 + 1) d' 1198 [some (.ref b), some (.ref (xad W 0)), some (.ref (xad W 240)), some (.int (nI i))] []) : mG W K cL_law RL (11 + 1) d 265 [some (.ref b), some (.ref (xad W 0)), some (.ref (xad W 240)), some (.int (nI i))] [] := by
  obtain ⟨J, j1, j2⟩ := p_told (l := K.1.1) (W := W) h
  refine m_aload_n dL_law_265 rfl ?_
  refine m_callVI j1 cv_L_29 dL_law_266 (fun r d1 hJ => ?_)
  refine m_aload_n dL_law_269 rfl ?_
  refine m_callVI (j2 r d1 hJ) cv_L_32 dL_law_270 (fun r2 d2 g => ?_)
  exact m_icmp_eq 1198 dL_law_273 (by decide) (fun _ => kk d2 g.2) (fun q => absurd g.1.symm q)
set_option maxHeartbeats 1000000 in
theorem law_free (hs : isScr K b L xs) (hi : i + 4 ≤ L) (hL : L ≤ 2048) (h : inv d) (kk : ∀ d', inv d' → mG W K cL_law RL (11 + 1) d' 1198 [some (.ref b), some (.ref (xad W 0)), some (.ref (xad W 240)), some (.int (nI i))] []) : mG W K cL_law RL (11 + 1) d 278 [some (.ref b), some (.ref (xad W 0)), some (.ref (xad W 240)), some (.int (nI i))] [] := by
  by_cases hz : xs (i + 3) = 0
  · obtain ⟨J, j1, j2⟩ : pair K.1.1 W mX11_free mX12_free [.int (xs (i + 1)), .int (xs (i + 2)), .int 0] d := p_free (xs (i + 1)) (xs (i + 2)) false h
    refine m_aload_n dL_law_278 rfl ?_
    refine m_aload_n dL_law_279 rfl ?_
    refine m_iload_n dL_law_280 rfl ?_
    refine m_iconstN 1 dL_law_281 (by decide) ?_
    refine m_iaddN dL_law_282 ?_
    refine m_sld hs (by omega) (by omega) dL_law_283 ?_
    refine m_aload_n dL_law_284 rfl ?_
    refine m_iload_n dL_law_285 rfl ?_
    refine m_iconstN 2 dL_law_286 (by decide) ?_
    refine m_iaddN dL_law_287 ?_
    refine m_sld hs (by omega) (by omega) dL_law_288 ?_
    refine m_aload_n dL_law_289 rfl ?_
    refine m_iload_n dL_law_290 rfl ?_
    refine m_iconstN 3 dL_law_291 (by decide) ?_
    refine m_iaddN dL_law_292 ?_
    refine m_sld hs (by omega) (by omega) dL_law_293 ?_
    refine m_if_eq 301 dL_law_294 (by decide) (fun _ => ?_) (fun q => absurd hz q)
    refine m_iconst (v := 0) dL_law_301 (by decide) ?_
    refine m_callVI j1 cv_L_33 dL_law_302 (fun r d1 hJ => ?_)
    refine m_aload_n dL_law_305 rfl ?_
    refine m_aload_n dL_law_306 rfl ?_
    refine m_iload_n dL_law_307 rfl ?_
    refine m_iconstN 1 dL_law_308 (by decide) ?_
    refine m_iaddN dL_law_309 ?_
    refine m_sld hs (by omega) (by omega) dL_law_310 ?_
    refine m_aload_n dL_law_311 rfl ?_
    refine m_iload_n dL_law_312 rfl ?_
    refine m_iconstN 2 dL_law_313 (by decide) ?_
    refine m_iaddN dL_law_314 ?_
    refine m_sld hs (by omega) (by omega) dL_law_315 ?_
    refine m_aload_n dL_law_316 rfl ?_
    refine m_iload_n dL_law_317 rfl ?_
    refine m_iconstN 3 dL_law_318 (by decide) ?_
    refine m_iaddN dL_law_319 ?_
    refine m_sld hs (by omega) (by omega) dL_law_320 ?_
    refine m_if_eq 328 dL_law_321 (by decide) (fun _ => ?_) (fun q => absurd hz q)
    refine m_iconst (v := 0) dL_law_328 (by decide) ?_
    refine m_callVI (j2 r d1 hJ) cv_L_37 dL_law_329 (fun r2 d2 g => ?_)
    exact m_icmp_eq 1198 dL_law_332 (by decide) (fun _ => kk d2 g.2) (fun q => absurd g.1.symm q)
  · obtain ⟨J, j1, j2⟩ : pair K.1.1 W mX11_free mX12_free [.int (xs (i + 1)), .int (xs (i + 2)), .int 1] d := p_free (xs (i + 1)) (xs (i + 2)) true h
    refine m_aload_n dL_law_278 rfl ?_
    refine m_aload_n dL_law_279 rfl ?_
    refine m_iload_n dL_law_280 rfl ?_
    refine m_iconstN 1 dL_law_281 (by decide) ?_
    refine m_iaddN dL_law_282 ?_
    refine m_sld hs (by omega) (by omega) dL_law_283 ?_
    refine m_aload_n dL_law_284 rfl ?_
    refine m_iload_n dL_law_285 rfl ?_
    refine m_iconstN 2 dL_law_286 (by decide) ?_
    refine m_iaddN dL_law_287 ?_
    refine m_sld hs (by omega) (by omega) dL_law_288 ?_
    refine m_aload_n dL_law_289 rfl ?_
    refine m_iload_n dL_law_290 rfl ?_
    refine m_iconstN 3 dL_law_291 (by decide) ?_
    refine m_iaddN dL_law_292 ?_
    refine m_sld hs (by omega) (by omega) dL_law_293 ?_
    refine m_if_eq 301 dL_law_294 (by decide) (fun q => absurd q hz) (fun _ => ?_)
    refine m_iconst (v := 1) dL_law_297 (by decide) ?_
    refine m_goto 302 dL_law_298 (by decide) ?_
    refine m_callVI j1 cv_L_33 dL_law_302 (fun r d1 hJ => ?_)
    refine m_aload_n dL_law_305 rfl ?_
    refine m_aload_n dL_law_306 rfl ?_
    refine m_iload_n dL_law_307 rfl ?_
    refine m_iconstN 1 dL_law_308 (by decide) ?_
    refine m_iaddN dL_law_309 ?_
    refine m_sld hs (by omega) (by omega) dL_law_310 ?_
    refine m_aload_n dL_law_311 rfl ?_
    refine m_iload_n dL_law_312 rfl ?_
    refine m_iconstN 2 dL_law_313 (by decide) ?_
    refine m_iaddN dL_law_314 ?_
    refine m_sld hs (by omega) (by omega) dL_law_315 ?_
    refine m_aload_n dL_law_316 rfl ?_
    refine m_iload_n dL_law_317 rfl ?_
    refine m_iconstN 3 dL_law_318 (by decide) ?_
    refine m_iaddN dL_law_319 ?_
    refine m_sld hs (by omega) (by omega) dL_law_320 ?_
    refine m_if_eq 328 dL_law_321 (by decide) (fun q => absurd q hz) (fun _ => ?_)
    refine m_iconst (v := 1) dL_law_324 (by decide) ?_
    refine m_goto 329 dL_law_325 (by decide) ?_
    refine m_callVI (j2 r d1 hJ) cv_L_37 dL_law_329 (fun r2 d2 g => ?_)
    exact m_icmp_eq 1198 dL_law_332 (by decide) (fun _ => kk d2 g.2) (fun q => absurd g.1.symm q)
set_option maxHeartbeats 1000000 in
theorem law_add (hs : isScr K b L xs) (hi : i + 4 ≤ L) (hL : L ≤ 2048) (h : inv d) (kk : ∀ d', inv d' → mG W K cL_law RL (11 + 1) d' 1198 [some (.ref b), some (.ref (xad W 0)), some (.ref (xad W 240)), some (.int (nI i))] []) : mG W K cL_law RL (11 + 1) d 337 [some (.ref b), some (.ref (xad W 0)), some (.ref (xad W 240)), some (.int (nI i))] [] := by
  obtain ⟨J, j1, j2⟩ := p_add (l := K.1.1) (W := W) (xs (i + 1)) (xs (i + 2)) h
  refine m_aload_n dL_law_337 rfl ?_
  refine m_aload_n dL_law_338 rfl ?_
  refine m_iload_n dL_law_339 rfl ?_
  refine m_iconstN 1 dL_law_340 (by decide) ?_
  refine m_iaddN dL_law_341 ?_
  refine m_sld hs (by omega) (by omega) dL_law_342 ?_
  refine m_aload_n dL_law_343 rfl ?_
  refine m_iload_n dL_law_344 rfl ?_
  refine m_iconstN 2 dL_law_345 (by decide) ?_
  refine m_iaddN dL_law_346 ?_
  refine m_sld hs (by omega) (by omega) dL_law_347 ?_
  refine m_callVI j1 cv_L_38 dL_law_348 (fun r d1 hJ => ?_)
  refine m_aload_n dL_law_351 rfl ?_
  refine m_aload_n dL_law_352 rfl ?_
  refine m_iload_n dL_law_353 rfl ?_
  refine m_iconstN 1 dL_law_354 (by decide) ?_
  refine m_iaddN dL_law_355 ?_
  refine m_sld hs (by omega) (by omega) dL_law_356 ?_
  refine m_aload_n dL_law_357 rfl ?_
  refine m_iload_n dL_law_358 rfl ?_
  refine m_iconstN 2 dL_law_359 (by decide) ?_
  refine m_iaddN dL_law_360 ?_
  refine m_sld hs (by omega) (by omega) dL_law_361 ?_
  refine m_callVI (j2 r d1 hJ) cv_L_42 dL_law_362 (fun r2 d2 g => ?_)
  exact m_icmp_eq 1198 dL_law_365 (by decide) (fun _ => kk d2 g.2) (fun q => absurd g.1.symm q)
set_option maxHeartbeats 1000000 in
theorem law_clear (hs : isScr K b L xs) (hi : i + 4 ≤ L) (hL : L ≤ 2048) (h : inv d) (kk : ∀ d', inv d' → mG W K cL_law RL (11 + 1) d' 1198 [some (.ref b), some (.ref (xad W 0)), some (.ref (xad W 240)), some (.int (nI i))] []) : mG W K cL_law RL (11 + 1) d 370 [some (.ref b), some (.ref (xad W 0)), some (.ref (xad W 240)), some (.int (nI i))] [] := by
  obtain ⟨J, j1, j2⟩ := p_clear (l := K.1.1) (W := W) (xs (i + 1)) h
  refine m_aload_n dL_law_370 rfl ?_
  refine m_aload_n dL_law_371 rfl ?_
  refine m_iload_n dL_law_372 rfl ?_
  refine m_iconstN 1 dL_law_373 (by decide) ?_
  refine m_iaddN dL_law_374 ?_
  refine m_sld hs (by omega) (by omega) dL_law_375 ?_
  refine m_callVI j1 cv_L_43 dL_law_376 (fun r d1 hJ => ?_)
  refine m_aload_n dL_law_379 rfl ?_
  refine m_aload_n dL_law_380 rfl ?_
  refine m_iload_n dL_law_381 rfl ?_
  refine m_iconstN 1 dL_law_382 (by decide) ?_
  refine m_iaddN dL_law_383 ?_
  refine m_sld hs (by omega) (by omega) dL_law_384 ?_
  refine m_callVI (j2 r d1 hJ) cv_L_47 dL_law_385 (fun r2 d2 g => ?_)
  exact m_icmp_eq 1198 dL_law_388 (by decide) (fun _ => kk d2 g.2) (fun q => absurd g.1.symm q)
set_option maxHeartbeats 1000000 in
theorem law_letter (hs : isScr K b L xs) (hi : i + 4 ≤ L) (hL : L ≤ 2048) (h : inv d) (kk : ∀ d', inv d' → mG W K cL_law RL (11 + 1) d' 1198 [some (.ref b), some (.ref (xad W 0)), some (.ref (xad W 240)), some (.int (nI i))] []) : mG W K cL_law RL (11 + 1) d 393 [some (.ref b), some (.ref (xad W 0)), some (.ref (xad W 240)), some (.int (nI i))] [] := by
  obtain ⟨J, j1, j2⟩ := p_letter (l := K.1.1) (W := W) (xs (i + 1)) (xs (i + 2)) (xs (i + 3)) h
  refine m_aload_n dL_law_393 rfl ?_
  refine m_aload_n dL_law_394 rfl ?_
  refine m_iload_n dL_law_395 rfl ?_
  refine m_iconstN 1 dL_law_396 (by decide) ?_
  refine m_iaddN dL_law_397 ?_
  refine m_sld hs (by omega) (by omega) dL_law_398 ?_
  refine m_aload_n dL_law_399 rfl ?_
  refine m_iload_n dL_law_400 rfl ?_
  refine m_iconstN 2 dL_law_401 (by decide) ?_
  refine m_iaddN dL_law_402 ?_
  refine m_sld hs (by omega) (by omega) dL_law_403 ?_
  refine m_aload_n dL_law_404 rfl ?_
  refine m_iload_n dL_law_405 rfl ?_
  refine m_iconstN 3 dL_law_406 (by decide) ?_
  refine m_iaddN dL_law_407 ?_
  refine m_sld hs (by omega) (by omega) dL_law_408 ?_
  refine m_callVI j1 cv_L_48 dL_law_409 (fun r d1 hJ => ?_)
  refine m_aload_n dL_law_412 rfl ?_
  refine m_aload_n dL_law_413 rfl ?_
  refine m_iload_n dL_law_414 rfl ?_
  refine m_iconstN 1 dL_law_415 (by decide) ?_
  refine m_iaddN dL_law_416 ?_
  refine m_sld hs (by omega) (by omega) dL_law_417 ?_
  refine m_aload_n dL_law_418 rfl ?_
  refine m_iload_n dL_law_419 rfl ?_
  refine m_iconstN 2 dL_law_420 (by decide) ?_
  refine m_iaddN dL_law_421 ?_
  refine m_sld hs (by omega) (by omega) dL_law_422 ?_
  refine m_aload_n dL_law_423 rfl ?_
  refine m_iload_n dL_law_424 rfl ?_
  refine m_iconstN 3 dL_law_425 (by decide) ?_
  refine m_iaddN dL_law_426 ?_
  refine m_sld hs (by omega) (by omega) dL_law_427 ?_
  refine m_callVI (j2 r d1 hJ) cv_L_52 dL_law_428 (fun r2 d2 g => ?_)
  exact m_icmp_eq 1198 dL_law_431 (by decide) (fun _ => kk d2 g.2) (fun q => absurd g.1.symm q)
set_option maxHeartbeats 1000000 in
theorem law_same (hs : isScr K b L xs) (hi : i + 4 ≤ L) (hL : L ≤ 2048) (h : inv d) (kk : ∀ d', inv d' → mG W K cL_law RL (11 + 1) d' 1198 [some (.ref b), some (.ref (xad W 0)), some (.ref (xad W 240)), some (.int (nI i))] []) : mG W K cL_law RL (11 + 1) d 436 [some (.ref b), some (.ref (xad W 0)), some (.ref (xad W 240)), some (.int (nI i))] [] := by
  obtain ⟨J, j1, j2⟩ := p_same (l := K.1.1) (W := W) (xs (i + 1)) (xs (i + 2)) h
  refine m_aload_n dL_law_436 rfl ?_
  refine m_aload_n dL_law_437 rfl ?_
  refine m_iload_n dL_law_438 rfl ?_
  refine m_iconstN 1 dL_law_439 (by decide) ?_
  refine m_iaddN dL_law_440 ?_
  refine m_sld hs (by omega) (by omega) dL_law_441 ?_
  refine m_aload_n dL_law_442 rfl ?_
  refine m_iload_n dL_law_443 rfl ?_
  refine m_iconstN 2 dL_law_444 (by decide) ?_
  refine m_iaddN dL_law_445 ?_
  refine m_sld hs (by omega) (by omega) dL_law_446 ?_
  refine m_callVI j1 cv_L_53 dL_law_447 (fun r d1 hJ => ?_)
  refine m_aload_n dL_law_450 rfl ?_
  refine m_aload_n dL_law_451 rfl ?_
  refine m_iload_n dL_law_452 rfl ?_
  refine m_iconstN 1 dL_law_453 (by decide) ?_
  refine m_iaddN dL_law_454 ?_
  refine m_sld hs (by omega) (by omega) dL_law_455 ?_
  refine m_aload_n dL_law_456 rfl ?_
  refine m_iload_n dL_law_457 rfl ?_
  refine m_iconstN 2 dL_law_458 (by decide) ?_
  refine m_iaddN dL_law_459 ?_
  refine m_sld hs (by omega) (by omega) dL_law_460 ?_
  refine m_callVI (j2 r d1 hJ) cv_L_56 dL_law_461 (fun r2 d2 g => ?_)
  exact m_icmp_eq 1198 dL_law_464 (by decide) (fun _ => kk d2 g.2) (fun q => absurd g.1.symm q)
set_option maxHeartbeats 1000000 in
theorem law_apart (hs : isScr K b L xs) (hi : i + 4 ≤ L) (hL : L ≤ 2048) (h : inv d) (kk : ∀ d', inv d' → mG W K cL_law RL (11 + 1) d' 1198 [some (.ref b), some (.ref (xad W 0)), some (.ref (xad W 240)), some (.int (nI i))] []) : mG W K cL_law RL (11 + 1) d 469 [some (.ref b), some (.ref (xad W 0)), some (.ref (xad W 240)), some (.int (nI i))] [] := by
  obtain ⟨J, j1, j2⟩ := p_apart (l := K.1.1) (W := W) (xs (i + 1)) (xs (i + 2)) h
  refine m_aload_n dL_law_469 rfl ?_
  refine m_aload_n dL_law_470 rfl ?_
  refine m_iload_n dL_law_471 rfl ?_
  refine m_iconstN 1 dL_law_472 (by decide) ?_
  refine m_iaddN dL_law_473 ?_
  refine m_sld hs (by omega) (by omega) dL_law_474 ?_
  refine m_aload_n dL_law_475 rfl ?_
  refine m_iload_n dL_law_476 rfl ?_
  refine m_iconstN 2 dL_law_477 (by decide) ?_
  refine m_iaddN dL_law_478 ?_
  refine m_sld hs (by omega) (by omega) dL_law_479 ?_
  refine m_callVI j1 cv_L_57 dL_law_480 (fun r d1 hJ => ?_)
  refine m_aload_n dL_law_483 rfl ?_
  refine m_aload_n dL_law_484 rfl ?_
  refine m_iload_n dL_law_485 rfl ?_
  refine m_iconstN 1 dL_law_486 (by decide) ?_
  refine m_iaddN dL_law_487 ?_
  refine m_sld hs (by omega) (by omega) dL_law_488 ?_
  refine m_aload_n dL_law_489 rfl ?_
  refine m_iload_n dL_law_490 rfl ?_
  refine m_iconstN 2 dL_law_491 (by decide) ?_
  refine m_iaddN dL_law_492 ?_
  refine m_sld hs (by omega) (by omega) dL_law_493 ?_
  refine m_callVI (j2 r d1 hJ) cv_L_60 dL_law_494 (fun r2 d2 g => ?_)
  exact m_icmp_eq 1198 dL_law_497 (by decide) (fun _ => kk d2 g.2) (fun q => absurd g.1.symm q)
set_option maxHeartbeats 1000000 in
theorem law_layer (hs : isScr K b L xs) (hi : i + 4 ≤ L) (hL : L ≤ 2048) (h : inv d) (kk : ∀ d', inv d' → mG W K cL_law RL (11 + 1) d' 1198 [some (.ref b), some (.ref (xad W 0)), some (.ref (xad W 240)), some (.int (nI i))] []) : mG W K cL_law RL (11 + 1) d 502 [some (.ref b), some (.ref (xad W 0)), some (.ref (xad W 240)), some (.int (nI i))] [] := by
  obtain ⟨J, j1, j2⟩ := p_layer (l := K.1.1) (W := W) (xs (i + 1)) (xs (i + 2)) h
  refine m_aload_n dL_law_502 rfl ?_
  refine m_aload_n dL_law_503 rfl ?_
  refine m_iload_n dL_law_504 rfl ?_
  refine m_iconstN 1 dL_law_505 (by decide) ?_
  refine m_iaddN dL_law_506 ?_
  refine m_sld hs (by omega) (by omega) dL_law_507 ?_
  refine m_aload_n dL_law_508 rfl ?_
  refine m_iload_n dL_law_509 rfl ?_
  refine m_iconstN 2 dL_law_510 (by decide) ?_
  refine m_iaddN dL_law_511 ?_
  refine m_sld hs (by omega) (by omega) dL_law_512 ?_
  refine m_callVI j1 cv_L_61 dL_law_513 (fun r d1 hJ => ?_)
  refine m_aload_n dL_law_516 rfl ?_
  refine m_aload_n dL_law_517 rfl ?_
  refine m_iload_n dL_law_518 rfl ?_
  refine m_iconstN 1 dL_law_519 (by decide) ?_
  refine m_iaddN dL_law_520 ?_
  refine m_sld hs (by omega) (by omega) dL_law_521 ?_
  refine m_aload_n dL_law_522 rfl ?_
  refine m_iload_n dL_law_523 rfl ?_
  refine m_iconstN 2 dL_law_524 (by decide) ?_
  refine m_iaddN dL_law_525 ?_
  refine m_sld hs (by omega) (by omega) dL_law_526 ?_
  refine m_callVI (j2 r d1 hJ) cv_L_64 dL_law_527 (fun r2 d2 g => ?_)
  exact m_icmp_eq 1198 dL_law_530 (by decide) (fun _ => kk d2 g.2) (fun q => absurd g.1.symm q)
set_option maxHeartbeats 1000000 in
theorem law_ahead (hs : isScr K b L xs) (hi : i + 4 ≤ L) (hL : L ≤ 2048) (h : inv d) (kk : ∀ d', inv d' → mG W K cL_law RL (11 + 1) d' 1198 [some (.ref b), some (.ref (xad W 0)), some (.ref (xad W 240)), some (.int (nI i))] []) : mG W K cL_law RL (11 + 1) d 535 [some (.ref b), some (.ref (xad W 0)), some (.ref (xad W 240)), some (.int (nI i))] [] := by
  obtain ⟨J, j1, j2⟩ := p_ahead (l := K.1.1) (W := W) (xs (i + 1)) (xs (i + 2)) (xs (i + 3)) h
  refine m_aload_n dL_law_535 rfl ?_
  refine m_aload_n dL_law_536 rfl ?_
  refine m_iload_n dL_law_537 rfl ?_
  refine m_iconstN 1 dL_law_538 (by decide) ?_
  refine m_iaddN dL_law_539 ?_
  refine m_sld hs (by omega) (by omega) dL_law_540 ?_
  refine m_aload_n dL_law_541 rfl ?_
  refine m_iload_n dL_law_542 rfl ?_
  refine m_iconstN 2 dL_law_543 (by decide) ?_
  refine m_iaddN dL_law_544 ?_
  refine m_sld hs (by omega) (by omega) dL_law_545 ?_
  refine m_aload_n dL_law_546 rfl ?_
  refine m_iload_n dL_law_547 rfl ?_
  refine m_iconstN 3 dL_law_548 (by decide) ?_
  refine m_iaddN dL_law_549 ?_
  refine m_sld hs (by omega) (by omega) dL_law_550 ?_
  refine m_callVI j1 cv_L_65 dL_law_551 (fun r d1 hJ => ?_)
  refine m_aload_n dL_law_554 rfl ?_
  refine m_aload_n dL_law_555 rfl ?_
  refine m_iload_n dL_law_556 rfl ?_
  refine m_iconstN 1 dL_law_557 (by decide) ?_
  refine m_iaddN dL_law_558 ?_
  refine m_sld hs (by omega) (by omega) dL_law_559 ?_
  refine m_aload_n dL_law_560 rfl ?_
  refine m_iload_n dL_law_561 rfl ?_
  refine m_iconstN 2 dL_law_562 (by decide) ?_
  refine m_iaddN dL_law_563 ?_
  refine m_sld hs (by omega) (by omega) dL_law_564 ?_
  refine m_aload_n dL_law_565 rfl ?_
  refine m_iload_n dL_law_566 rfl ?_
  refine m_iconstN 3 dL_law_567 (by decide) ?_
  refine m_iaddN dL_law_568 ?_
  refine m_sld hs (by omega) (by omega) dL_law_569 ?_
  refine m_callVI (j2 r d1 hJ) cv_L_68 dL_law_570 (fun r2 d2 g => ?_)
  exact m_icmp_eq 1198 dL_law_573 (by decide) (fun _ => kk d2 g.2) (fun q => absurd g.1.symm q)
set_option maxHeartbeats 1000000 in
theorem law_begins (hs : isScr K b L xs) (hi : i + 4 ≤ L) (hL : L ≤ 2048) (h : inv d) (kk : ∀ d', inv d' → mG W K cL_law RL (11 + 1) d' 1198 [some (.ref b), some (.ref (xad W 0)), some (.ref (xad W 240)), some (.int (nI i))] []) : mG W K cL_law RL (11 + 1) d 578 [some (.ref b), some (.ref (xad W 0)), some (.ref (xad W 240)), some (.int (nI i))] [] := by
  obtain ⟨J, j1, j2⟩ := p_begins (l := K.1.1) (W := W) (xs (i + 1)) (xs (i + 2)) h
  refine m_aload_n dL_law_578 rfl ?_
  refine m_aload_n dL_law_579 rfl ?_
  refine m_iload_n dL_law_580 rfl ?_
  refine m_iconstN 1 dL_law_581 (by decide) ?_
  refine m_iaddN dL_law_582 ?_
  refine m_sld hs (by omega) (by omega) dL_law_583 ?_
  refine m_aload_n dL_law_584 rfl ?_
  refine m_iload_n dL_law_585 rfl ?_
  refine m_iconstN 2 dL_law_586 (by decide) ?_
  refine m_iaddN dL_law_587 ?_
  refine m_sld hs (by omega) (by omega) dL_law_588 ?_
  refine m_callVI j1 cv_L_69 dL_law_589 (fun r d1 hJ => ?_)
  refine m_aload_n dL_law_592 rfl ?_
  refine m_aload_n dL_law_593 rfl ?_
  refine m_iload_n dL_law_594 rfl ?_
  refine m_iconstN 1 dL_law_595 (by decide) ?_
  refine m_iaddN dL_law_596 ?_
  refine m_sld hs (by omega) (by omega) dL_law_597 ?_
  refine m_aload_n dL_law_598 rfl ?_
  refine m_iload_n dL_law_599 rfl ?_
  refine m_iconstN 2 dL_law_600 (by decide) ?_
  refine m_iaddN dL_law_601 ?_
  refine m_sld hs (by omega) (by omega) dL_law_602 ?_
  refine m_callVI (j2 r d1 hJ) cv_L_72 dL_law_603 (fun r2 d2 g => ?_)
  exact m_icmp_eq 1198 dL_law_606 (by decide) (fun _ => kk d2 g.2) (fun q => absurd g.1.symm q)
set_option maxHeartbeats 1000000 in
theorem law_join (hs : isScr K b L xs) (hi : i + 4 ≤ L) (hL : L ≤ 2048) (h : inv d) (kk : ∀ d', inv d' → mG W K cL_law RL (11 + 1) d' 1198 [some (.ref b), some (.ref (xad W 0)), some (.ref (xad W 240)), some (.int (nI i))] []) : mG W K cL_law RL (11 + 1) d 611 [some (.ref b), some (.ref (xad W 0)), some (.ref (xad W 240)), some (.int (nI i))] [] := by
  obtain ⟨J, j1, j2⟩ := p_join (l := K.1.1) (W := W) (xs (i + 1)) (xs (i + 2)) (xs (i + 3)) h
  refine m_aload_n dL_law_611 rfl ?_
  refine m_aload_n dL_law_612 rfl ?_
  refine m_iload_n dL_law_613 rfl ?_
  refine m_iconstN 1 dL_law_614 (by decide) ?_
  refine m_iaddN dL_law_615 ?_
  refine m_sld hs (by omega) (by omega) dL_law_616 ?_
  refine m_aload_n dL_law_617 rfl ?_
  refine m_iload_n dL_law_618 rfl ?_
  refine m_iconstN 2 dL_law_619 (by decide) ?_
  refine m_iaddN dL_law_620 ?_
  refine m_sld hs (by omega) (by omega) dL_law_621 ?_
  refine m_aload_n dL_law_622 rfl ?_
  refine m_iload_n dL_law_623 rfl ?_
  refine m_iconstN 3 dL_law_624 (by decide) ?_
  refine m_iaddN dL_law_625 ?_
  refine m_sld hs (by omega) (by omega) dL_law_626 ?_
  refine m_callVI j1 cv_L_73 dL_law_627 (fun r d1 hJ => ?_)
  refine m_aload_n dL_law_630 rfl ?_
  refine m_aload_n dL_law_631 rfl ?_
  refine m_iload_n dL_law_632 rfl ?_
  refine m_iconstN 1 dL_law_633 (by decide) ?_
  refine m_iaddN dL_law_634 ?_
  refine m_sld hs (by omega) (by omega) dL_law_635 ?_
  refine m_aload_n dL_law_636 rfl ?_
  refine m_iload_n dL_law_637 rfl ?_
  refine m_iconstN 2 dL_law_638 (by decide) ?_
  refine m_iaddN dL_law_639 ?_
  refine m_sld hs (by omega) (by omega) dL_law_640 ?_
  refine m_aload_n dL_law_641 rfl ?_
  refine m_iload_n dL_law_642 rfl ?_
  refine m_iconstN 3 dL_law_643 (by decide) ?_
  refine m_iaddN dL_law_644 ?_
  refine m_sld hs (by omega) (by omega) dL_law_645 ?_
  refine m_callVI (j2 r d1 hJ) cv_L_76 dL_law_646 (fun r2 d2 g => ?_)
  exact m_icmp_eq 1198 dL_law_649 (by decide) (fun _ => kk d2 g.2) (fun q => absurd g.1.symm q)
set_option maxHeartbeats 1000000 in
theorem law_left (hs : isScr K b L xs) (hi : i + 4 ≤ L) (hL : L ≤ 2048) (h : inv d) (kk : ∀ d', inv d' → mG W K cL_law RL (11 + 1) d' 1198 [some (.ref b), some (.ref (xad W 0)), some (.ref (xad W 240)), some (.int (nI i))] []) : mG W K cL_law RL (11 + 1) d 654 [some (.ref b), some (.ref (xad W 0)), some (.ref (xad W 240)), some (.int (nI i))] [] := by
  obtain ⟨J, j1, j2⟩ := p_left (l := K.1.1) (W := W) (xs (i + 1)) (xs (i + 2)) (xs (i + 3)) h
  refine m_aload_n dL_law_654 rfl ?_
  refine m_aload_n dL_law_655 rfl ?_
  refine m_iload_n dL_law_656 rfl ?_
  refine m_iconstN 1 dL_law_657 (by decide) ?_
  refine m_iaddN dL_law_658 ?_
  refine m_sld hs (by omega) (by omega) dL_law_659 ?_
  refine m_aload_n dL_law_660 rfl ?_
  refine m_iload_n dL_law_661 rfl ?_
  refine m_iconstN 2 dL_law_662 (by decide) ?_
  refine m_iaddN dL_law_663 ?_
  refine m_sld hs (by omega) (by omega) dL_law_664 ?_
  refine m_aload_n dL_law_665 rfl ?_
  refine m_iload_n dL_law_666 rfl ?_
  refine m_iconstN 3 dL_law_667 (by decide) ?_
  refine m_iaddN dL_law_668 ?_
  refine m_sld hs (by omega) (by omega) dL_law_669 ?_
  refine m_callVI j1 cv_L_77 dL_law_670 (fun r d1 hJ => ?_)
  refine m_aload_n dL_law_673 rfl ?_
  refine m_aload_n dL_law_674 rfl ?_
  refine m_iload_n dL_law_675 rfl ?_
  refine m_iconstN 1 dL_law_676 (by decide) ?_
  refine m_iaddN dL_law_677 ?_
  refine m_sld hs (by omega) (by omega) dL_law_678 ?_
  refine m_aload_n dL_law_679 rfl ?_
  refine m_iload_n dL_law_680 rfl ?_
  refine m_iconstN 2 dL_law_681 (by decide) ?_
  refine m_iaddN dL_law_682 ?_
  refine m_sld hs (by omega) (by omega) dL_law_683 ?_
  refine m_aload_n dL_law_684 rfl ?_
  refine m_iload_n dL_law_685 rfl ?_
  refine m_iconstN 3 dL_law_686 (by decide) ?_
  refine m_iaddN dL_law_687 ?_
  refine m_sld hs (by omega) (by omega) dL_law_688 ?_
  refine m_callVI (j2 r d1 hJ) cv_L_80 dL_law_689 (fun r2 d2 g => ?_)
  exact m_icmp_eq 1198 dL_law_692 (by decide) (fun _ => kk d2 g.2) (fun q => absurd g.1.symm q)
set_option maxHeartbeats 1000000 in
theorem law_shared (hs : isScr K b L xs) (hi : i + 4 ≤ L) (hL : L ≤ 2048) (h : inv d) (kk : ∀ d', inv d' → mG W K cL_law RL (11 + 1) d' 1198 [some (.ref b), some (.ref (xad W 0)), some (.ref (xad W 240)), some (.int (nI i))] []) : mG W K cL_law RL (11 + 1) d 697 [some (.ref b), some (.ref (xad W 0)), some (.ref (xad W 240)), some (.int (nI i))] [] := by
  obtain ⟨J, j1, j2⟩ := p_shared (l := K.1.1) (W := W) (xs (i + 1)) (xs (i + 2)) (xs (i + 3)) h
  refine m_aload_n dL_law_697 rfl ?_
  refine m_aload_n dL_law_698 rfl ?_
  refine m_iload_n dL_law_699 rfl ?_
  refine m_iconstN 1 dL_law_700 (by decide) ?_
  refine m_iaddN dL_law_701 ?_
  refine m_sld hs (by omega) (by omega) dL_law_702 ?_
  refine m_aload_n dL_law_703 rfl ?_
  refine m_iload_n dL_law_704 rfl ?_
  refine m_iconstN 2 dL_law_705 (by decide) ?_
  refine m_iaddN dL_law_706 ?_
  refine m_sld hs (by omega) (by omega) dL_law_707 ?_
  refine m_aload_n dL_law_708 rfl ?_
  refine m_iload_n dL_law_709 rfl ?_
  refine m_iconstN 3 dL_law_710 (by decide) ?_
  refine m_iaddN dL_law_711 ?_
  refine m_sld hs (by omega) (by omega) dL_law_712 ?_
  refine m_callVI j1 cv_L_81 dL_law_713 (fun r d1 hJ => ?_)
  refine m_aload_n dL_law_716 rfl ?_
  refine m_aload_n dL_law_717 rfl ?_
  refine m_iload_n dL_law_718 rfl ?_
  refine m_iconstN 1 dL_law_719 (by decide) ?_
  refine m_iaddN dL_law_720 ?_
  refine m_sld hs (by omega) (by omega) dL_law_721 ?_
  refine m_aload_n dL_law_722 rfl ?_
  refine m_iload_n dL_law_723 rfl ?_
  refine m_iconstN 2 dL_law_724 (by decide) ?_
  refine m_iaddN dL_law_725 ?_
  refine m_sld hs (by omega) (by omega) dL_law_726 ?_
  refine m_aload_n dL_law_727 rfl ?_
  refine m_iload_n dL_law_728 rfl ?_
  refine m_iconstN 3 dL_law_729 (by decide) ?_
  refine m_iaddN dL_law_730 ?_
  refine m_sld hs (by omega) (by omega) dL_law_731 ?_
  refine m_callVI (j2 r d1 hJ) cv_L_84 dL_law_732 (fun r2 d2 g => ?_)
  exact m_icmp_eq 1198 dL_law_735 (by decide) (fun _ => kk d2 g.2) (fun q => absurd g.1.symm q)
set_option maxHeartbeats 1000000 in
theorem law_both (hs : isScr K b L xs) (hi : i + 4 ≤ L) (hL : L ≤ 2048) (h : inv d) (kk : ∀ d', inv d' → mG W K cL_law RL (11 + 1) d' 1198 [some (.ref b), some (.ref (xad W 0)), some (.ref (xad W 240)), some (.int (nI i))] []) : mG W K cL_law RL (11 + 1) d 740 [some (.ref b), some (.ref (xad W 0)), some (.ref (xad W 240)), some (.int (nI i))] [] := by
  obtain ⟨J, j1, j2⟩ := p_both (l := K.1.1) (W := W) (xs (i + 1)) (xs (i + 2)) (xs (i + 3)) h
  refine m_aload_n dL_law_740 rfl ?_
  refine m_aload_n dL_law_741 rfl ?_
  refine m_iload_n dL_law_742 rfl ?_
  refine m_iconstN 1 dL_law_743 (by decide) ?_
  refine m_iaddN dL_law_744 ?_
  refine m_sld hs (by omega) (by omega) dL_law_745 ?_
  refine m_aload_n dL_law_746 rfl ?_
  refine m_iload_n dL_law_747 rfl ?_
  refine m_iconstN 2 dL_law_748 (by decide) ?_
  refine m_iaddN dL_law_749 ?_
  refine m_sld hs (by omega) (by omega) dL_law_750 ?_
  refine m_aload_n dL_law_751 rfl ?_
  refine m_iload_n dL_law_752 rfl ?_
  refine m_iconstN 3 dL_law_753 (by decide) ?_
  refine m_iaddN dL_law_754 ?_
  refine m_sld hs (by omega) (by omega) dL_law_755 ?_
  refine m_callVI j1 cv_L_85 dL_law_756 (fun r d1 hJ => ?_)
  refine m_aload_n dL_law_759 rfl ?_
  refine m_aload_n dL_law_760 rfl ?_
  refine m_iload_n dL_law_761 rfl ?_
  refine m_iconstN 1 dL_law_762 (by decide) ?_
  refine m_iaddN dL_law_763 ?_
  refine m_sld hs (by omega) (by omega) dL_law_764 ?_
  refine m_aload_n dL_law_765 rfl ?_
  refine m_iload_n dL_law_766 rfl ?_
  refine m_iconstN 2 dL_law_767 (by decide) ?_
  refine m_iaddN dL_law_768 ?_
  refine m_sld hs (by omega) (by omega) dL_law_769 ?_
  refine m_aload_n dL_law_770 rfl ?_
  refine m_iload_n dL_law_771 rfl ?_
  refine m_iconstN 3 dL_law_772 (by decide) ?_
  refine m_iaddN dL_law_773 ?_
  refine m_sld hs (by omega) (by omega) dL_law_774 ?_
  refine m_callVI (j2 r d1 hJ) cv_L_88 dL_law_775 (fun r2 d2 g => ?_)
  exact m_icmp_eq 1198 dL_law_778 (by decide) (fun _ => kk d2 g.2) (fun q => absurd g.1.symm q)
set_option maxHeartbeats 1000000 in
theorem law_mirror (hs : isScr K b L xs) (hi : i + 4 ≤ L) (hL : L ≤ 2048) (h : inv d) (kk : ∀ d', inv d' → mG W K cL_law RL (11 + 1) d' 1198 [some (.ref b), some (.ref (xad W 0)), some (.ref (xad W 240)), some (.int (nI i))] []) : mG W K cL_law RL (11 + 1) d 783 [some (.ref b), some (.ref (xad W 0)), some (.ref (xad W 240)), some (.int (nI i))] [] := by
  obtain ⟨J, j1, j2⟩ := p_mirror (l := K.1.1) (W := W) (xs (i + 1)) h
  refine m_aload_n dL_law_783 rfl ?_
  refine m_aload_n dL_law_784 rfl ?_
  refine m_iload_n dL_law_785 rfl ?_
  refine m_iconstN 1 dL_law_786 (by decide) ?_
  refine m_iaddN dL_law_787 ?_
  refine m_sld hs (by omega) (by omega) dL_law_788 ?_
  refine m_callVI j1 cv_L_89 dL_law_789 (fun r d1 hJ => ?_)
  refine m_aload_n dL_law_792 rfl ?_
  refine m_aload_n dL_law_793 rfl ?_
  refine m_iload_n dL_law_794 rfl ?_
  refine m_iconstN 1 dL_law_795 (by decide) ?_
  refine m_iaddN dL_law_796 ?_
  refine m_sld hs (by omega) (by omega) dL_law_797 ?_
  refine m_callVI (j2 r d1 hJ) cv_L_92 dL_law_798 (fun r2 d2 g => ?_)
  exact m_icmp_eq 1198 dL_law_801 (by decide) (fun _ => kk d2 g.2) (fun q => absurd g.1.symm q)
set_option maxHeartbeats 1000000 in
theorem law_part (hs : isScr K b L xs) (hi : i + 4 ≤ L) (hL : L ≤ 2048) (h : inv d) (kk : ∀ d', inv d' → mG W K cL_law RL (11 + 1) d' 1198 [some (.ref b), some (.ref (xad W 0)), some (.ref (xad W 240)), some (.int (nI i))] []) : mG W K cL_law RL (11 + 1) d 806 [some (.ref b), some (.ref (xad W 0)), some (.ref (xad W 240)), some (.int (nI i))] [] := by
  obtain ⟨J, j1, j2⟩ := p_part (l := K.1.1) (W := W) (xs (i + 1)) (xs (i + 2)) h
  refine m_aload_n dL_law_806 rfl ?_
  refine m_aload_n dL_law_807 rfl ?_
  refine m_iload_n dL_law_808 rfl ?_
  refine m_iconstN 1 dL_law_809 (by decide) ?_
  refine m_iaddN dL_law_810 ?_
  refine m_sld hs (by omega) (by omega) dL_law_811 ?_
  refine m_aload_n dL_law_812 rfl ?_
  refine m_iload_n dL_law_813 rfl ?_
  refine m_iconstN 2 dL_law_814 (by decide) ?_
  refine m_iaddN dL_law_815 ?_
  refine m_sld hs (by omega) (by omega) dL_law_816 ?_
  refine m_callVI j1 cv_L_93 dL_law_817 (fun r d1 hJ => ?_)
  refine m_aload_n dL_law_820 rfl ?_
  refine m_aload_n dL_law_821 rfl ?_
  refine m_iload_n dL_law_822 rfl ?_
  refine m_iconstN 1 dL_law_823 (by decide) ?_
  refine m_iaddN dL_law_824 ?_
  refine m_sld hs (by omega) (by omega) dL_law_825 ?_
  refine m_aload_n dL_law_826 rfl ?_
  refine m_iload_n dL_law_827 rfl ?_
  refine m_iconstN 2 dL_law_828 (by decide) ?_
  refine m_iaddN dL_law_829 ?_
  refine m_sld hs (by omega) (by omega) dL_law_830 ?_
  refine m_callVI (j2 r d1 hJ) cv_L_96 dL_law_831 (fun r2 d2 g => ?_)
  exact m_icmp_eq 1198 dL_law_834 (by decide) (fun _ => kk d2 g.2) (fun q => absurd g.1.symm q)
set_option maxHeartbeats 1000000 in
theorem law_root (hs : isScr K b L xs) (hi : i + 4 ≤ L) (hL : L ≤ 2048) (h : inv d) (kk : ∀ d', inv d' → mG W K cL_law RL (11 + 1) d' 1198 [some (.ref b), some (.ref (xad W 0)), some (.ref (xad W 240)), some (.int (nI i))] []) : mG W K cL_law RL (11 + 1) d 839 [some (.ref b), some (.ref (xad W 0)), some (.ref (xad W 240)), some (.int (nI i))] [] := by
  obtain ⟨J, j1, j2⟩ := p_root (l := K.1.1) (W := W) (xs (i + 1)) h
  refine m_aload_n dL_law_839 rfl ?_
  refine m_aload_n dL_law_840 rfl ?_
  refine m_iload_n dL_law_841 rfl ?_
  refine m_iconstN 1 dL_law_842 (by decide) ?_
  refine m_iaddN dL_law_843 ?_
  refine m_sld hs (by omega) (by omega) dL_law_844 ?_
  refine m_callVI j1 cv_L_97 dL_law_845 (fun r d1 hJ => ?_)
  refine m_aload_n dL_law_848 rfl ?_
  refine m_aload_n dL_law_849 rfl ?_
  refine m_iload_n dL_law_850 rfl ?_
  refine m_iconstN 1 dL_law_851 (by decide) ?_
  refine m_iaddN dL_law_852 ?_
  refine m_sld hs (by omega) (by omega) dL_law_853 ?_
  refine m_callVI (j2 r d1 hJ) cv_L_100 dL_law_854 (fun r2 d2 g => ?_)
  exact m_icmp_eq 1198 dL_law_857 (by decide) (fun _ => kk d2 g.2) (fun q => absurd g.1.symm q)
set_option maxHeartbeats 1000000 in
theorem law_circle (hs : isScr K b L xs) (hi : i + 4 ≤ L) (hL : L ≤ 2048) (h : inv d) (kk : ∀ d', inv d' → mG W K cL_law RL (11 + 1) d' 1198 [some (.ref b), some (.ref (xad W 0)), some (.ref (xad W 240)), some (.int (nI i))] []) : mG W K cL_law RL (11 + 1) d 862 [some (.ref b), some (.ref (xad W 0)), some (.ref (xad W 240)), some (.int (nI i))] [] := by
  obtain ⟨J, j1, j2⟩ := p_circle (l := K.1.1) (W := W) (xs (i + 1)) h
  refine m_aload_n dL_law_862 rfl ?_
  refine m_aload_n dL_law_863 rfl ?_
  refine m_iload_n dL_law_864 rfl ?_
  refine m_iconstN 1 dL_law_865 (by decide) ?_
  refine m_iaddN dL_law_866 ?_
  refine m_sld hs (by omega) (by omega) dL_law_867 ?_
  refine m_callVI j1 cv_L_101 dL_law_868 (fun r d1 hJ => ?_)
  refine m_aload_n dL_law_871 rfl ?_
  refine m_aload_n dL_law_872 rfl ?_
  refine m_iload_n dL_law_873 rfl ?_
  refine m_iconstN 1 dL_law_874 (by decide) ?_
  refine m_iaddN dL_law_875 ?_
  refine m_sld hs (by omega) (by omega) dL_law_876 ?_
  refine m_callVI (j2 r d1 hJ) cv_L_104 dL_law_877 (fun r2 d2 g => ?_)
  exact m_icmp_eq 1198 dL_law_880 (by decide) (fun _ => kk d2 g.2) (fun q => absurd g.1.symm q)
set_option maxHeartbeats 1000000 in
theorem law_turned (hs : isScr K b L xs) (hi : i + 4 ≤ L) (hL : L ≤ 2048) (h : inv d) (kk : ∀ d', inv d' → mG W K cL_law RL (11 + 1) d' 1198 [some (.ref b), some (.ref (xad W 0)), some (.ref (xad W 240)), some (.int (nI i))] []) : mG W K cL_law RL (11 + 1) d 885 [some (.ref b), some (.ref (xad W 0)), some (.ref (xad W 240)), some (.int (nI i))] [] := by
  obtain ⟨J, j1, j2⟩ := p_turned (l := K.1.1) (W := W) (xs (i + 1)) (xs (i + 2)) h
  refine m_aload_n dL_law_885 rfl ?_
  refine m_aload_n dL_law_886 rfl ?_
  refine m_iload_n dL_law_887 rfl ?_
  refine m_iconstN 1 dL_law_888 (by decide) ?_
  refine m_iaddN dL_law_889 ?_
  refine m_sld hs (by omega) (by omega) dL_law_890 ?_
  refine m_aload_n dL_law_891 rfl ?_
  refine m_iload_n dL_law_892 rfl ?_
  refine m_iconstN 2 dL_law_893 (by decide) ?_
  refine m_iaddN dL_law_894 ?_
  refine m_sld hs (by omega) (by omega) dL_law_895 ?_
  refine m_callVI j1 cv_L_105 dL_law_896 (fun r d1 hJ => ?_)
  refine m_aload_n dL_law_899 rfl ?_
  refine m_aload_n dL_law_900 rfl ?_
  refine m_iload_n dL_law_901 rfl ?_
  refine m_iconstN 1 dL_law_902 (by decide) ?_
  refine m_iaddN dL_law_903 ?_
  refine m_sld hs (by omega) (by omega) dL_law_904 ?_
  refine m_aload_n dL_law_905 rfl ?_
  refine m_iload_n dL_law_906 rfl ?_
  refine m_iconstN 2 dL_law_907 (by decide) ?_
  refine m_iaddN dL_law_908 ?_
  refine m_sld hs (by omega) (by omega) dL_law_909 ?_
  refine m_callVI (j2 r d1 hJ) cv_L_108 dL_law_910 (fun r2 d2 g => ?_)
  exact m_icmp_eq 1198 dL_law_913 (by decide) (fun _ => kk d2 g.2) (fun q => absurd g.1.symm q)
set_option maxHeartbeats 1000000 in
theorem law_together (hs : isScr K b L xs) (hi : i + 4 ≤ L) (hL : L ≤ 2048) (h : inv d) (kk : ∀ d', inv d' → mG W K cL_law RL (11 + 1) d' 1198 [some (.ref b), some (.ref (xad W 0)), some (.ref (xad W 240)), some (.int (nI i))] []) : mG W K cL_law RL (11 + 1) d 918 [some (.ref b), some (.ref (xad W 0)), some (.ref (xad W 240)), some (.int (nI i))] [] := by
  obtain ⟨J, j1, j2⟩ := p_together (l := K.1.1) (W := W) (xs (i + 1)) h
  refine m_aload_n dL_law_918 rfl ?_
  refine m_aload_n dL_law_919 rfl ?_
  refine m_iload_n dL_law_920 rfl ?_
  refine m_iconstN 1 dL_law_921 (by decide) ?_
  refine m_iaddN dL_law_922 ?_
  refine m_sld hs (by omega) (by omega) dL_law_923 ?_
  refine m_callVI j1 cv_L_109 dL_law_924 (fun r d1 hJ => ?_)
  refine m_aload_n dL_law_927 rfl ?_
  refine m_aload_n dL_law_928 rfl ?_
  refine m_iload_n dL_law_929 rfl ?_
  refine m_iconstN 1 dL_law_930 (by decide) ?_
  refine m_iaddN dL_law_931 ?_
  refine m_sld hs (by omega) (by omega) dL_law_932 ?_
  refine m_callVI (j2 r d1 hJ) cv_L_112 dL_law_933 (fun r2 d2 g => ?_)
  exact m_icmp_eq 1198 dL_law_936 (by decide) (fun _ => kk d2 g.2) (fun q => absurd g.1.symm q)
set_option maxHeartbeats 1000000 in
theorem law_many (hs : isScr K b L xs) (hi : i + 4 ≤ L) (hL : L ≤ 2048) (h : inv d) (kk : ∀ d', inv d' → mG W K cL_law RL (11 + 1) d' 1198 [some (.ref b), some (.ref (xad W 0)), some (.ref (xad W 240)), some (.int (nI i))] []) : mG W K cL_law RL (11 + 1) d 941 [some (.ref b), some (.ref (xad W 0)), some (.ref (xad W 240)), some (.int (nI i))] [] := by
  obtain ⟨J, j1, j2⟩ := p_many (l := K.1.1) (W := W) (xs (i + 1)) h
  refine m_aload_n dL_law_941 rfl ?_
  refine m_aload_n dL_law_942 rfl ?_
  refine m_iload_n dL_law_943 rfl ?_
  refine m_iconstN 1 dL_law_944 (by decide) ?_
  refine m_iaddN dL_law_945 ?_
  refine m_sld hs (by omega) (by omega) dL_law_946 ?_
  refine m_callVI j1 cv_L_113 dL_law_947 (fun r d1 hJ => ?_)
  refine m_aload_n dL_law_950 rfl ?_
  refine m_aload_n dL_law_951 rfl ?_
  refine m_iload_n dL_law_952 rfl ?_
  refine m_iconstN 1 dL_law_953 (by decide) ?_
  refine m_iaddN dL_law_954 ?_
  refine m_sld hs (by omega) (by omega) dL_law_955 ?_
  refine m_callVI (j2 r d1 hJ) cv_L_116 dL_law_956 (fun r2 d2 g => ?_)
  exact m_icmp_eq 1198 dL_law_959 (by decide) (fun _ => kk d2 g.2) (fun q => absurd g.1.symm q)
set_option maxHeartbeats 1000000 in
theorem law_of (hs : isScr K b L xs) (hi : i + 4 ≤ L) (hL : L ≤ 2048) (h : inv d) (kk : ∀ d', inv d' → mG W K cL_law RL (11 + 1) d' 1198 [some (.ref b), some (.ref (xad W 0)), some (.ref (xad W 240)), some (.int (nI i))] []) : mG W K cL_law RL (11 + 1) d 964 [some (.ref b), some (.ref (xad W 0)), some (.ref (xad W 240)), some (.int (nI i))] [] := by
  obtain ⟨J, j1, j2⟩ := p_of (l := K.1.1) (W := W) (xs (i + 1)) (xs (i + 2)) (xs (i + 3)) h
  refine m_aload_n dL_law_964 rfl ?_
  refine m_aload_n dL_law_965 rfl ?_
  refine m_iload_n dL_law_966 rfl ?_
  refine m_iconstN 1 dL_law_967 (by decide) ?_
  refine m_iaddN dL_law_968 ?_
  refine m_sld hs (by omega) (by omega) dL_law_969 ?_
  refine m_aload_n dL_law_970 rfl ?_
  refine m_iload_n dL_law_971 rfl ?_
  refine m_iconstN 2 dL_law_972 (by decide) ?_
  refine m_iaddN dL_law_973 ?_
  refine m_sld hs (by omega) (by omega) dL_law_974 ?_
  refine m_aload_n dL_law_975 rfl ?_
  refine m_iload_n dL_law_976 rfl ?_
  refine m_iconstN 3 dL_law_977 (by decide) ?_
  refine m_iaddN dL_law_978 ?_
  refine m_sld hs (by omega) (by omega) dL_law_979 ?_
  refine m_callVI j1 cv_L_117 dL_law_980 (fun r d1 hJ => ?_)
  refine m_aload_n dL_law_983 rfl ?_
  refine m_aload_n dL_law_984 rfl ?_
  refine m_iload_n dL_law_985 rfl ?_
  refine m_iconstN 1 dL_law_986 (by decide) ?_
  refine m_iaddN dL_law_987 ?_
  refine m_sld hs (by omega) (by omega) dL_law_988 ?_
  refine m_aload_n dL_law_989 rfl ?_
  refine m_iload_n dL_law_990 rfl ?_
  refine m_iconstN 2 dL_law_991 (by decide) ?_
  refine m_iaddN dL_law_992 ?_
  refine m_sld hs (by omega) (by omega) dL_law_993 ?_
  refine m_aload_n dL_law_994 rfl ?_
  refine m_iload_n dL_law_995 rfl ?_
  refine m_iconstN 3 dL_law_996 (by decide) ?_
  refine m_iaddN dL_law_997 ?_
  refine m_sld hs (by omega) (by omega) dL_law_998 ?_
  refine m_callVI (j2 r d1 hJ) cv_L_120 dL_law_999 (fun r2 d2 g => ?_)
  exact m_icmp_eq 1198 dL_law_1002 (by decide) (fun _ => kk d2 g.2) (fun q => absurd g.1.symm q)
set_option maxHeartbeats 1000000 in
theorem law_place (hs : isScr K b L xs) (hi : i + 4 ≤ L) (hL : L ≤ 2048) (h : inv d) (kk : ∀ d', inv d' → mG W K cL_law RL (11 + 1) d' 1198 [some (.ref b), some (.ref (xad W 0)), some (.ref (xad W 240)), some (.int (nI i))] []) : mG W K cL_law RL (11 + 1) d 1007 [some (.ref b), some (.ref (xad W 0)), some (.ref (xad W 240)), some (.int (nI i))] [] := by
  obtain ⟨J, j1, j2⟩ := p_place (l := K.1.1) (W := W) (xs (i + 1)) h
  refine m_aload_n dL_law_1007 rfl ?_
  refine m_aload_n dL_law_1008 rfl ?_
  refine m_iload_n dL_law_1009 rfl ?_
  refine m_iconstN 1 dL_law_1010 (by decide) ?_
  refine m_iaddN dL_law_1011 ?_
  refine m_sld hs (by omega) (by omega) dL_law_1012 ?_
  refine m_callVI j1 cv_L_121 dL_law_1013 (fun r d1 hJ => ?_)
  refine m_aload_n dL_law_1016 rfl ?_
  refine m_aload_n dL_law_1017 rfl ?_
  refine m_iload_n dL_law_1018 rfl ?_
  refine m_iconstN 1 dL_law_1019 (by decide) ?_
  refine m_iaddN dL_law_1020 ?_
  refine m_sld hs (by omega) (by omega) dL_law_1021 ?_
  refine m_callVI (j2 r d1 hJ) cv_L_124 dL_law_1022 (fun r2 d2 g => ?_)
  exact m_icmp_eq 1198 dL_law_1025 (by decide) (fun _ => kk d2 g.2) (fun q => absurd g.1.symm q)
set_option maxHeartbeats 1000000 in
theorem law_reader (hs : isScr K b L xs) (hi : i + 4 ≤ L) (hL : L ≤ 2048) (h : inv d) (kk : ∀ d', inv d' → mG W K cL_law RL (11 + 1) d' 1198 [some (.ref b), some (.ref (xad W 0)), some (.ref (xad W 240)), some (.int (nI i))] []) : mG W K cL_law RL (11 + 1) d 1030 [some (.ref b), some (.ref (xad W 0)), some (.ref (xad W 240)), some (.int (nI i))] [] := by
  obtain ⟨J, j1, j2⟩ := p_reader (l := K.1.1) (W := W) (xs (i + 1)) (xs (i + 2)) h
  refine m_aload_n dL_law_1030 rfl ?_
  refine m_aload_n dL_law_1031 rfl ?_
  refine m_iload_n dL_law_1032 rfl ?_
  refine m_iconstN 1 dL_law_1033 (by decide) ?_
  refine m_iaddN dL_law_1034 ?_
  refine m_sld hs (by omega) (by omega) dL_law_1035 ?_
  refine m_aload_n dL_law_1036 rfl ?_
  refine m_iload_n dL_law_1037 rfl ?_
  refine m_iconstN 2 dL_law_1038 (by decide) ?_
  refine m_iaddN dL_law_1039 ?_
  refine m_sld hs (by omega) (by omega) dL_law_1040 ?_
  refine m_callVI j1 cv_L_125 dL_law_1041 (fun r d1 hJ => ?_)
  refine m_aload_n dL_law_1044 rfl ?_
  refine m_aload_n dL_law_1045 rfl ?_
  refine m_iload_n dL_law_1046 rfl ?_
  refine m_iconstN 1 dL_law_1047 (by decide) ?_
  refine m_iaddN dL_law_1048 ?_
  refine m_sld hs (by omega) (by omega) dL_law_1049 ?_
  refine m_aload_n dL_law_1050 rfl ?_
  refine m_iload_n dL_law_1051 rfl ?_
  refine m_iconstN 2 dL_law_1052 (by decide) ?_
  refine m_iaddN dL_law_1053 ?_
  refine m_sld hs (by omega) (by omega) dL_law_1054 ?_
  refine m_callVI (j2 r d1 hJ) cv_L_128 dL_law_1055 (fun r2 d2 g => ?_)
  exact m_icmp_eq 1198 dL_law_1058 (by decide) (fun _ => kk d2 g.2) (fun q => absurd g.1.symm q)
set_option maxHeartbeats 1000000 in
theorem law_move (hs : isScr K b L xs) (hi : i + 4 ≤ L) (hL : L ≤ 2048) (h : inv d) (kk : ∀ d', inv d' → mG W K cL_law RL (11 + 1) d' 1198 [some (.ref b), some (.ref (xad W 0)), some (.ref (xad W 240)), some (.int (nI i))] []) : mG W K cL_law RL (11 + 1) d 1063 [some (.ref b), some (.ref (xad W 0)), some (.ref (xad W 240)), some (.int (nI i))] [] := by
  obtain ⟨J, j1, j2⟩ := p_move (l := K.1.1) (W := W) (xs (i + 1)) (xs (i + 2)) (xs (i + 3)) h
  refine m_aload_n dL_law_1063 rfl ?_
  refine m_aload_n dL_law_1064 rfl ?_
  refine m_iload_n dL_law_1065 rfl ?_
  refine m_iconstN 1 dL_law_1066 (by decide) ?_
  refine m_iaddN dL_law_1067 ?_
  refine m_sld hs (by omega) (by omega) dL_law_1068 ?_
  refine m_aload_n dL_law_1069 rfl ?_
  refine m_iload_n dL_law_1070 rfl ?_
  refine m_iconstN 2 dL_law_1071 (by decide) ?_
  refine m_iaddN dL_law_1072 ?_
  refine m_sld hs (by omega) (by omega) dL_law_1073 ?_
  refine m_aload_n dL_law_1074 rfl ?_
  refine m_iload_n dL_law_1075 rfl ?_
  refine m_iconstN 3 dL_law_1076 (by decide) ?_
  refine m_iaddN dL_law_1077 ?_
  refine m_sld hs (by omega) (by omega) dL_law_1078 ?_
  refine m_callVI j1 cv_L_129 dL_law_1079 (fun r d1 hJ => ?_)
  refine m_aload_n dL_law_1082 rfl ?_
  refine m_aload_n dL_law_1083 rfl ?_
  refine m_iload_n dL_law_1084 rfl ?_
  refine m_iconstN 1 dL_law_1085 (by decide) ?_
  refine m_iaddN dL_law_1086 ?_
  refine m_sld hs (by omega) (by omega) dL_law_1087 ?_
  refine m_aload_n dL_law_1088 rfl ?_
  refine m_iload_n dL_law_1089 rfl ?_
  refine m_iconstN 2 dL_law_1090 (by decide) ?_
  refine m_iaddN dL_law_1091 ?_
  refine m_sld hs (by omega) (by omega) dL_law_1092 ?_
  refine m_aload_n dL_law_1093 rfl ?_
  refine m_iload_n dL_law_1094 rfl ?_
  refine m_iconstN 3 dL_law_1095 (by decide) ?_
  refine m_iaddN dL_law_1096 ?_
  refine m_sld hs (by omega) (by omega) dL_law_1097 ?_
  refine m_callVI (j2 r d1 hJ) cv_L_132 dL_law_1098 (fun r2 d2 g => ?_)
  exact m_icmp_eq 1198 dL_law_1101 (by decide) (fun _ => kk d2 g.2) (fun q => absurd g.1.symm q)
set_option maxHeartbeats 1000000 in
theorem law_minds (hs : isScr K b L xs) (hi : i + 4 ≤ L) (hL : L ≤ 2048) (h : inv d) (kk : ∀ d', inv d' → mG W K cL_law RL (11 + 1) d' 1198 [some (.ref b), some (.ref (xad W 0)), some (.ref (xad W 240)), some (.int (nI i))] []) : mG W K cL_law RL (11 + 1) d 1106 [some (.ref b), some (.ref (xad W 0)), some (.ref (xad W 240)), some (.int (nI i))] [] := by
  obtain ⟨J, j1, j2⟩ := p_minds (l := K.1.1) (W := W) h
  refine m_aload_n dL_law_1106 rfl ?_
  refine m_callVI j1 cv_L_133 dL_law_1107 (fun r d1 hJ => ?_)
  refine m_aload_n dL_law_1110 rfl ?_
  refine m_callVI (j2 r d1 hJ) cv_L_136 dL_law_1111 (fun r2 d2 g => ?_)
  exact m_icmp_eq 1198 dL_law_1114 (by decide) (fun _ => kk d2 g.2) (fun q => absurd g.1.symm q)
set_option maxHeartbeats 1000000 in
theorem law_run (hs : isScr K b L xs) (hi : i + 4 ≤ L) (hL : L ≤ 2048) (h : inv d) (kk : ∀ d', inv d' → mG W K cL_law RL (11 + 1) d' 1198 [some (.ref b), some (.ref (xad W 0)), some (.ref (xad W 240)), some (.int (nI i))] []) : mG W K cL_law RL (11 + 1) d 1119 [some (.ref b), some (.ref (xad W 0)), some (.ref (xad W 240)), some (.int (nI i))] [] := by
  obtain ⟨J, j1, j2⟩ := p_run (l := K.1.1) (W := W) (xs (i + 1)) (xs (i + 2)) h
  refine m_aload_n dL_law_1119 rfl ?_
  refine m_aload_n dL_law_1120 rfl ?_
  refine m_iload_n dL_law_1121 rfl ?_
  refine m_iconstN 1 dL_law_1122 (by decide) ?_
  refine m_iaddN dL_law_1123 ?_
  refine m_sld hs (by omega) (by omega) dL_law_1124 ?_
  refine m_aload_n dL_law_1125 rfl ?_
  refine m_iload_n dL_law_1126 rfl ?_
  refine m_iconstN 2 dL_law_1127 (by decide) ?_
  refine m_iaddN dL_law_1128 ?_
  refine m_sld hs (by omega) (by omega) dL_law_1129 ?_
  refine m_callVI j1 cv_L_137 dL_law_1130 (fun r d1 hJ => ?_)
  refine m_aload_n dL_law_1133 rfl ?_
  refine m_aload_n dL_law_1134 rfl ?_
  refine m_iload_n dL_law_1135 rfl ?_
  refine m_iconstN 1 dL_law_1136 (by decide) ?_
  refine m_iaddN dL_law_1137 ?_
  refine m_sld hs (by omega) (by omega) dL_law_1138 ?_
  refine m_aload_n dL_law_1139 rfl ?_
  refine m_iload_n dL_law_1140 rfl ?_
  refine m_iconstN 2 dL_law_1141 (by decide) ?_
  refine m_iaddN dL_law_1142 ?_
  refine m_sld hs (by omega) (by omega) dL_law_1143 ?_
  refine m_callVI (j2 r d1 hJ) cv_L_140 dL_law_1144 (fun r2 d2 g => ?_)
  exact m_icmp_eq 1198 dL_law_1147 (by decide) (fun _ => kk d2 g.2) (fun q => absurd g.1.symm q)
set_option maxHeartbeats 1000000 in
theorem law_taken (hs : isScr K b L xs) (hi : i + 4 ≤ L) (hL : L ≤ 2048) (h : inv d) (kk : ∀ d', inv d' → mG W K cL_law RL (11 + 1) d' 1198 [some (.ref b), some (.ref (xad W 0)), some (.ref (xad W 240)), some (.int (nI i))] []) : mG W K cL_law RL (11 + 1) d 1152 [some (.ref b), some (.ref (xad W 0)), some (.ref (xad W 240)), some (.int (nI i))] [] := by
  obtain ⟨J, j1, j2⟩ := p_taken (l := K.1.1) (W := W) (xs (i + 1)) h
  refine m_aload_n dL_law_1152 rfl ?_
  refine m_aload_n dL_law_1153 rfl ?_
  refine m_iload_n dL_law_1154 rfl ?_
  refine m_iconstN 1 dL_law_1155 (by decide) ?_
  refine m_iaddN dL_law_1156 ?_
  refine m_sld hs (by omega) (by omega) dL_law_1157 ?_
  refine m_callVI j1 cv_L_141 dL_law_1158 (fun r d1 hJ => ?_)
  refine m_aload_n dL_law_1161 rfl ?_
  refine m_aload_n dL_law_1162 rfl ?_
  refine m_iload_n dL_law_1163 rfl ?_
  refine m_iconstN 1 dL_law_1164 (by decide) ?_
  refine m_iaddN dL_law_1165 ?_
  refine m_sld hs (by omega) (by omega) dL_law_1166 ?_
  refine m_callVI (j2 r d1 hJ) cv_L_144 dL_law_1167 (fun r2 d2 g => ?_)
  exact m_icmp_eq 1198 dL_law_1170 (by decide) (fun _ => kk d2 g.2) (fun q => absurd g.1.symm q)
set_option maxHeartbeats 1000000 in
theorem law_count (hs : isScr K b L xs) (hi : i + 4 ≤ L) (hL : L ≤ 2048) (h : inv d) (kk : ∀ d', inv d' → mG W K cL_law RL (11 + 1) d' 1198 [some (.ref b), some (.ref (xad W 0)), some (.ref (xad W 240)), some (.int (nI i))] []) : mG W K cL_law RL (11 + 1) d 1175 [some (.ref b), some (.ref (xad W 0)), some (.ref (xad W 240)), some (.int (nI i))] [] := by
  obtain ⟨J, j1, j2⟩ := p_count (l := K.1.1) (W := W) (xs (i + 1)) h
  refine m_aload_n dL_law_1175 rfl ?_
  refine m_aload_n dL_law_1176 rfl ?_
  refine m_iload_n dL_law_1177 rfl ?_
  refine m_iconstN 1 dL_law_1178 (by decide) ?_
  refine m_iaddN dL_law_1179 ?_
  refine m_sld hs (by omega) (by omega) dL_law_1180 ?_
  refine m_callVI j1 cv_L_145 dL_law_1181 (fun r d1 hJ => ?_)
  refine m_aload_n dL_law_1184 rfl ?_
  refine m_aload_n dL_law_1185 rfl ?_
  refine m_iload_n dL_law_1186 rfl ?_
  refine m_iconstN 1 dL_law_1187 (by decide) ?_
  refine m_iaddN dL_law_1188 ?_
  refine m_sld hs (by omega) (by omega) dL_law_1189 ?_
  refine m_callVI (j2 r d1 hJ) cv_L_148 dL_law_1190 (fun r2 d2 g => ?_)
  exact m_icmp_eq 1198 dL_law_1193 (by decide) (fun _ => kk d2 g.2) (fun q => absurd g.1.symm q)
theorem law_sw (hs : isScr K b L xs) (hi : i + 4 ≤ L) (hL : L ≤ 2048) (h : inv d) (kk : ∀ d', inv d' → mG W K cL_law RL (11 + 1) d' 1198 [some (.ref b), some (.ref (xad W 0)), some (.ref (xad W 240)), some (.int (nI i))] []) : ∀ j, j < 32 → mG W K cL_law RL (11 + 1) d 32 [some (.ref b), some (.ref (xad W 0)), some (.ref (xad W 240)), some (.int (nI i))] [.int (nI j)]
  | 0, _ => m_tswIn 176 dL_law_32 (by decide) (by decide) rfl (by decide) (law_write hs hi hL h kk)
  | 1, _ => m_tswIn 239 dL_law_32 (by decide) (by decide) rfl (by decide) (law_erase hs hi hL h kk)
  | 2, _ => m_tswIn 252 dL_law_32 (by decide) (by decide) rfl (by decide) (law_fault hs hi hL h kk)
  | 3, _ => m_tswIn 265 dL_law_32 (by decide) (by decide) rfl (by decide) (law_told hs hi hL h kk)
  | 4, _ => m_tswIn 278 dL_law_32 (by decide) (by decide) rfl (by decide) (law_free hs hi hL h kk)
  | 5, _ => m_tswIn 337 dL_law_32 (by decide) (by decide) rfl (by decide) (law_add hs hi hL h kk)
  | 6, _ => m_tswIn 370 dL_law_32 (by decide) (by decide) rfl (by decide) (law_clear hs hi hL h kk)
  | 7, _ => m_tswIn 393 dL_law_32 (by decide) (by decide) rfl (by decide) (law_letter hs hi hL h kk)
  | 8, _ => m_tswIn 436 dL_law_32 (by decide) (by decide) rfl (by decide) (law_same hs hi hL h kk)
  | 9, _ => m_tswIn 469 dL_law_32 (by decide) (by decide) rfl (by decide) (law_apart hs hi hL h kk)
  | 10, _ => m_tswIn 502 dL_law_32 (by decide) (by decide) rfl (by decide) (law_layer hs hi hL h kk)
  | 11, _ => m_tswIn 535 dL_law_32 (by decide) (by decide) rfl (by decide) (law_ahead hs hi hL h kk)
  | 12, _ => m_tswIn 578 dL_law_32 (by decide) (by decide) rfl (by decide) (law_begins hs hi hL h kk)
  | 13, _ => m_tswIn 611 dL_law_32 (by decide) (by decide) rfl (by decide) (law_join hs hi hL h kk)
  | 14, _ => m_tswIn 654 dL_law_32 (by decide) (by decide) rfl (by decide) (law_left hs hi hL h kk)
  | 15, _ => m_tswIn 697 dL_law_32 (by decide) (by decide) rfl (by decide) (law_shared hs hi hL h kk)
  | 16, _ => m_tswIn 740 dL_law_32 (by decide) (by decide) rfl (by decide) (law_both hs hi hL h kk)
  | 17, _ => m_tswIn 783 dL_law_32 (by decide) (by decide) rfl (by decide) (law_mirror hs hi hL h kk)
  | 18, _ => m_tswIn 806 dL_law_32 (by decide) (by decide) rfl (by decide) (law_part hs hi hL h kk)
  | 19, _ => m_tswIn 839 dL_law_32 (by decide) (by decide) rfl (by decide) (law_root hs hi hL h kk)
  | 20, _ => m_tswIn 862 dL_law_32 (by decide) (by decide) rfl (by decide) (law_circle hs hi hL h kk)
  | 21, _ => m_tswIn 885 dL_law_32 (by decide) (by decide) rfl (by decide) (law_turned hs hi hL h kk)
  | 22, _ => m_tswIn 918 dL_law_32 (by decide) (by decide) rfl (by decide) (law_together hs hi hL h kk)
  | 23, _ => m_tswIn 941 dL_law_32 (by decide) (by decide) rfl (by decide) (law_many hs hi hL h kk)
  | 24, _ => m_tswIn 964 dL_law_32 (by decide) (by decide) rfl (by decide) (law_of hs hi hL h kk)
  | 25, _ => m_tswIn 1007 dL_law_32 (by decide) (by decide) rfl (by decide) (law_place hs hi hL h kk)
  | 26, _ => m_tswIn 1030 dL_law_32 (by decide) (by decide) rfl (by decide) (law_reader hs hi hL h kk)
  | 27, _ => m_tswIn 1063 dL_law_32 (by decide) (by decide) rfl (by decide) (law_move hs hi hL h kk)
  | 28, _ => m_tswIn 1106 dL_law_32 (by decide) (by decide) rfl (by decide) (law_minds hs hi hL h kk)
  | 29, _ => m_tswIn 1119 dL_law_32 (by decide) (by decide) rfl (by decide) (law_run hs hi hL h kk)
  | 30, _ => m_tswIn 1152 dL_law_32 (by decide) (by decide) rfl (by decide) (law_taken hs hi hL h kk)
  | 31, _ => m_tswIn 1175 dL_law_32 (by decide) (by decide) rfl (by decide) (law_count hs hi hL h kk)
  | n + 32, hj => absurd hj (by omega)
/-- the loop, to its end -/
theorem law_loop (hs : isScr K b L xs) (hL : L ≤ 2048) (hend : ∀ d' i', inv d' → mG W K cL_law RL (11 + 1) d' 1205 [some (.ref b), some (.ref (xad W 0)), some (.ref (xad W 240)), some (.int (nI i'))] [.int 1]) : ∀ (n i : Nat) (d : xD), L + 4 ≤ i + n → i ≤ L → inv d → mG W K cL_law RL (11 + 1) d 18 [some (.ref b), some (.ref (xad W 0)), some (.ref (xad W 240)), some (.int (nI i))] [] := by
  intro n
  induction n with
  | zero => intro i d h1 h2; omega
  | succ n ih =>
    intro i d h1 h2 h
    refine m_iload_n dL_law_18 rfl ?_
    refine m_aload_n dL_law_19 rfl ?_
    refine m_slen hs dL_law_20 ?_
    refine m_iconstN 4 dL_law_21 (by decide) ?_
    refine m_isub dL_law_22 ?_
    have e1 := pk_sub_toInt (a := L) (b := 4) (by omega) (by omega)
    have e2 := nI_toInt (n := i) (by omega)
    refine m_icmp_gt 1204 dL_law_23 (by decide) (fun _ => ?_) (fun q => ?_)
    · refine m_iconst (v := 1) dL_law_1204 (by decide) ?_
      exact hend d i h
    · have hi : i + 4 ≤ L := by
        have q2 : ¬ (nI L - nI 4).toInt < (nI i).toInt := fun z => q (Int32.lt_iff_toInt_lt.mpr z)
        omega
      refine m_aload_n dL_law_26 rfl ?_
      refine m_iload_n dL_law_27 rfl ?_
      refine m_sld hs (by omega) (by omega) dL_law_28 ?_
      refine m_bipush (v := 31) dL_law_29 (by decide) ?_
      refine m_iand dL_law_31 ?_
      obtain ⟨j, hj, ej⟩ := pk_andE (xs i) (m := 31) 5 (by decide)
      rw [ej]
      refine law_sw hs hi hL h (fun d' h' => ?_) j hj
      refine m_iincN 4 dL_law_1198 (by decide) rfl rfl ?_
      refine m_goto 18 dL_law_1201 (by decide) ?_
      exact ih (i + 4) d' (by omega) hi h'
end LW
