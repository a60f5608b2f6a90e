/-! The law itself: each entry is sound (printed by wip/whole/gen80.py). -/
theorem wl_1416 : Cond.methodLink "FalseLightMarshLaw" 180 yX9_thrown ∈ zTs := z_in (i := 1416) (by decide +kernel) (by decide +kernel)
theorem wl_1420 : Cond.methodLink "FalseLightMarshLaw" 179 yX9_append ∈ zTs := z_in (i := 1420) (by decide +kernel) (by decide +kernel)
theorem wl_1428 : Cond.methodLink "FalseLightMarshLaw" 186 yX9_shorten ∈ zTs := z_in (i := 1428) (by decide +kernel) (by decide +kernel)
theorem wl_1435 : Cond.methodLink "FalseLightMarshLaw" 190 yX9_load ∈ zTs := z_in (i := 1435) (by decide +kernel) (by decide +kernel)
theorem wl_1527 : Cond.methodLink "FalseLightMarshLaw" 195 yX9_hasError ∈ zTs := z_in (i := 1527) (by decide +kernel) (by decide +kernel)
theorem wl_1531 : Cond.methodLink "FalseLightMarshLaw" 198 yX9_errorOffset ∈ zTs := z_in (i := 1531) (by decide +kernel) (by decide +kernel)
theorem wl_1535 : Cond.methodLink "FalseLightMarshLaw" 202 yX9_width ∈ zTs := z_in (i := 1535) (by decide +kernel) (by decide +kernel)
theorem wl_1539 : Cond.methodLink "FalseLightMarshLaw" 206 yX9_height ∈ zTs := z_in (i := 1539) (by decide +kernel) (by decide +kernel)
theorem wl_1543 : Cond.methodLink "FalseLightMarshLaw" 210 yX9_isWater ∈ zTs := z_in (i := 1543) (by decide +kernel) (by decide +kernel)
theorem wl_1558 : Cond.methodLink "FalseLightMarshLaw" 213 yX9_isHut ∈ zTs := z_in (i := 1558) (by decide +kernel) (by decide +kernel)
theorem wl_1562 : Cond.methodLink "FalseLightMarshLaw" 216 yX9_isPlank ∈ zTs := z_in (i := 1562) (by decide +kernel) (by decide +kernel)
theorem wl_1566 : Cond.methodLink "FalseLightMarshLaw" 219 yX9_plankStrength ∈ zTs := z_in (i := 1566) (by decide +kernel) (by decide +kernel)
theorem wl_1570 : Cond.methodLink "FalseLightMarshLaw" 223 yX9_plankCount ∈ zTs := z_in (i := 1570) (by decide +kernel) (by decide +kernel)
theorem wl_1578 : Cond.methodLink "FalseLightMarshLaw" 227 yX9_pathLength ∈ zTs := z_in (i := 1578) (by decide +kernel) (by decide +kernel)
theorem wl_1615 : Cond.methodLink "FalseLightMarshLaw" 230 yX9_stepsToHut ∈ zTs := z_in (i := 1615) (by decide +kernel) (by decide +kernel)
theorem wl_1623 : Cond.methodLink "FalseLightMarshLaw" 234 yX9_time ∈ zTs := z_in (i := 1623) (by decide +kernel) (by decide +kernel)
theorem wl_1627 : Cond.methodLink "FalseLightMarshLaw" 238 yX9_clearness ∈ zTs := z_in (i := 1627) (by decide +kernel) (by decide +kernel)
theorem wl_1631 : Cond.methodLink "FalseLightMarshLaw" 241 yX9_fog ∈ zTs := z_in (i := 1631) (by decide +kernel) (by decide +kernel)
theorem wl_1635 : Cond.methodLink "FalseLightMarshLaw" 245 yX9_sight ∈ zTs := z_in (i := 1635) (by decide +kernel) (by decide +kernel)
theorem wl_1642 : Cond.methodLink "FalseLightMarshLaw" 249 yX9_lightCount ∈ zTs := z_in (i := 1642) (by decide +kernel) (by decide +kernel)
theorem wl_542 : Cond.methodLink "FalseLightMarshLaw" 191 yX8_hasError ∈ zTs := z_in (i := 542) (by decide +kernel) (by decide +kernel)
theorem wl_546 : Cond.methodLink "FalseLightMarshLaw" 199 yX8_width ∈ zTs := z_in (i := 546) (by decide +kernel) (by decide +kernel)
theorem wl_550 : Cond.methodLink "FalseLightMarshLaw" 203 yX8_height ∈ zTs := z_in (i := 550) (by decide +kernel) (by decide +kernel)
theorem wl_554 : Cond.methodLink "FalseLightMarshLaw" 220 yX8_plankCount ∈ zTs := z_in (i := 554) (by decide +kernel) (by decide +kernel)
theorem wl_567 : Cond.methodLink "FalseLightMarshLaw" 231 yX8_time ∈ zTs := z_in (i := 567) (by decide +kernel) (by decide +kernel)
theorem wl_571 : Cond.methodLink "FalseLightMarshLaw" 235 yX8_clearness ∈ zTs := z_in (i := 571) (by decide +kernel) (by decide +kernel)
theorem wl_575 : Cond.methodLink "FalseLightMarshLaw" 242 yX8_sight ∈ zTs := z_in (i := 575) (by decide +kernel) (by decide +kernel)
theorem wl_586 : Cond.methodLink "FalseLightMarshLaw" 246 yX8_lightCount ∈ zTs := z_in (i := 586) (by decide +kernel) (by decide +kernel)
theorem wl_763 : Cond.methodLink "FalseLightMarshLaw" 174 yL_append ∈ zTs := z_in (i := 763) (by decide +kernel) (by decide +kernel)
theorem wl_843 : Cond.methodLink "FalseLightMarshLaw" 183 yL_shorten ∈ zTs := z_in (i := 843) (by decide +kernel) (by decide +kernel)
theorem wl_867 : Cond.methodLink "FalseLightMarshLaw" 187 yL_load ∈ zTs := z_in (i := 867) (by decide +kernel) (by decide +kernel)
theorem wl_879 : Cond.methodLink "FalseLightMarshLaw" 196 yL_errorOffset ∈ zTs := z_in (i := 879) (by decide +kernel) (by decide +kernel)
theorem wl_903 : Cond.methodLink "FalseLightMarshLaw" 207 yL_isWater ∈ zTs := z_in (i := 903) (by decide +kernel) (by decide +kernel)
theorem wl_935 : Cond.methodLink "FalseLightMarshLaw" 211 yL_isHut ∈ zTs := z_in (i := 935) (by decide +kernel) (by decide +kernel)
theorem wl_942 : Cond.methodLink "FalseLightMarshLaw" 214 yL_isPlank ∈ zTs := z_in (i := 942) (by decide +kernel) (by decide +kernel)
theorem wl_950 : Cond.methodLink "FalseLightMarshLaw" 217 yL_plankStrength ∈ zTs := z_in (i := 950) (by decide +kernel) (by decide +kernel)
theorem wl_958 : Cond.methodLink "FalseLightMarshLaw" 224 yL_pathLength ∈ zTs := z_in (i := 958) (by decide +kernel) (by decide +kernel)
theorem wl_970 : Cond.methodLink "FalseLightMarshLaw" 228 yL_stepsToHut ∈ zTs := z_in (i := 970) (by decide +kernel) (by decide +kernel)
theorem wl_982 : Cond.methodLink "FalseLightMarshLaw" 239 yL_fog ∈ zTs := z_in (i := 982) (by decide +kernel) (by decide +kernel)
theorem wl_994 : Cond.methodLink "FalseLightMarshLaw" 250 yL_lightColumn ∈ zTs := z_in (i := 994) (by decide +kernel) (by decide +kernel)
theorem dL_law_23 : decode cL_law 23 = .ok (.iload 4, 2) := by decide +kernel
theorem dL_law_25 : decode cL_law 25 = .ok (.aload_n 0, 1) := by decide +kernel
theorem dL_law_26 : decode cL_law 26 = .ok (.arraylength, 1) := by decide +kernel
theorem dL_law_27 : decode cL_law 27 = .ok (.bipush 6, 2) := by decide +kernel
theorem dL_law_29 : decode cL_law 29 = .ok (.isub, 1) := by decide +kernel
theorem dL_law_30 : decode cL_law 30 = .ok (.if_icmp .gt 3608, 3) := by decide +kernel
theorem dL_law_33 : decode cL_law 33 = .ok (.aload_n 0, 1) := by decide +kernel
theorem dL_law_34 : decode cL_law 34 = .ok (.iload 4, 2) := by decide +kernel
theorem dL_law_36 : decode cL_law 36 = .ok (.iaload, 1) := by decide +kernel
theorem dL_law_37 : decode cL_law 37 = .ok (.bipush 63, 2) := by decide +kernel
theorem dL_law_39 : decode cL_law 39 = .ok (.iand, 1) := by decide +kernel
theorem dL_law_40 : decode cL_law 40 = .ok (.tableswitch 3592 0 63 #[272, 376, 432, 476, 489, 533, 546, 559, 634, 709, 784, 852, 865, 957, 1025, 1038, 1051, 1107, 1120, 1133, 1189, 1245, 1301, 1364, 1427, 1483, 1539, 1602, 1615, 1671, 1727, 1790, 1853, 1916, 1972, 2035, 2091, 2166, 2241, 2316, 2372, 2385, 2398, 2411, 2454, 2495, 2551, 2614, 2670, 2726, 2739, 2795, 2903, 2971, 3039, 3095, 3175, 3231, 3299, 3367, 3411, 3467, 3523, 3536], 272) := by decide +kernel
theorem dL_law_312 : decode cL_law 312 = .ok (.aload_n 1, 1) := by decide +kernel
theorem dL_law_313 : decode cL_law 313 = .ok (.aload_n 0, 1) := by decide +kernel
theorem dL_law_314 : decode cL_law 314 = .ok (.iload 4, 2) := by decide +kernel
theorem dL_law_316 : decode cL_law 316 = .ok (.iconst 1, 1) := by decide +kernel
theorem dL_law_317 : decode cL_law 317 = .ok (.iadd, 1) := by decide +kernel
theorem dL_law_318 : decode cL_law 318 = .ok (.iaload, 1) := by decide +kernel
theorem dL_law_319 : decode cL_law 319 = .ok (.aload_n 0, 1) := by decide +kernel
theorem dL_law_320 : decode cL_law 320 = .ok (.iload 4, 2) := by decide +kernel
theorem dL_law_322 : decode cL_law 322 = .ok (.iconst 2, 1) := by decide +kernel
theorem dL_law_323 : decode cL_law 323 = .ok (.iadd, 1) := by decide +kernel
theorem dL_law_324 : decode cL_law 324 = .ok (.iaload, 1) := by decide +kernel
theorem dL_law_325 : decode cL_law 325 = .ok (.aload_n 0, 1) := by decide +kernel
theorem dL_law_326 : decode cL_law 326 = .ok (.iload 4, 2) := by decide +kernel
theorem dL_law_328 : decode cL_law 328 = .ok (.iconst 3, 1) := by decide +kernel
theorem dL_law_329 : decode cL_law 329 = .ok (.iadd, 1) := by decide +kernel
theorem dL_law_330 : decode cL_law 330 = .ok (.iaload, 1) := by decide +kernel
theorem dL_law_331 : decode cL_law 331 = .ok (.aload_n 0, 1) := by decide +kernel
theorem dL_law_332 : decode cL_law 332 = .ok (.iload 4, 2) := by decide +kernel
theorem dL_law_334 : decode cL_law 334 = .ok (.iconst 4, 1) := by decide +kernel
theorem dL_law_335 : decode cL_law 335 = .ok (.iadd, 1) := by decide +kernel
theorem dL_law_336 : decode cL_law 336 = .ok (.iaload, 1) := by decide +kernel
theorem dL_law_337 : decode cL_law 337 = .ok (.aload_n 0, 1) := by decide +kernel
theorem dL_law_338 : decode cL_law 338 = .ok (.iload 4, 2) := by decide +kernel
theorem dL_law_340 : decode cL_law 340 = .ok (.iconst 5, 1) := by decide +kernel
theorem dL_law_341 : decode cL_law 341 = .ok (.iadd, 1) := by decide +kernel
theorem dL_law_342 : decode cL_law 342 = .ok (.iaload, 1) := by decide +kernel
theorem dL_law_343 : decode cL_law 343 = .ok (.aload_n 3, 1) := by decide +kernel
theorem dL_law_344 : decode cL_law 344 = .ok (.invokestatic 174, 3) := by decide +kernel
theorem dL_law_347 : decode cL_law 347 = .ok (.istore 5, 2) := by decide +kernel
theorem dL_law_349 : decode cL_law 349 = .ok (.aload_n 2, 1) := by decide +kernel
theorem dL_law_350 : decode cL_law 350 = .ok (.aload_n 0, 1) := by decide +kernel
theorem dL_law_351 : decode cL_law 351 = .ok (.iload 4, 2) := by decide +kernel
theorem dL_law_353 : decode cL_law 353 = .ok (.iconst 1, 1) := by decide +kernel
theorem dL_law_354 : decode cL_law 354 = .ok (.iadd, 1) := by decide +kernel
theorem dL_law_355 : decode cL_law 355 = .ok (.iaload, 1) := by decide +kernel
theorem dL_law_356 : decode cL_law 356 = .ok (.aload_n 0, 1) := by decide +kernel
theorem dL_law_357 : decode cL_law 357 = .ok (.iload 4, 2) := by decide +kernel
theorem dL_law_359 : decode cL_law 359 = .ok (.iconst 2, 1) := by decide +kernel
theorem dL_law_360 : decode cL_law 360 = .ok (.iadd, 1) := by decide +kernel
theorem dL_law_361 : decode cL_law 361 = .ok (.iaload, 1) := by decide +kernel
theorem dL_law_362 : decode cL_law 362 = .ok (.aload_n 0, 1) := by decide +kernel
theorem dL_law_363 : decode cL_law 363 = .ok (.iload 4, 2) := by decide +kernel
theorem dL_law_365 : decode cL_law 365 = .ok (.iconst 3, 1) := by decide +kernel
theorem dL_law_366 : decode cL_law 366 = .ok (.iadd, 1) := by decide +kernel
theorem dL_law_367 : decode cL_law 367 = .ok (.iaload, 1) := by decide +kernel
theorem dL_law_368 : decode cL_law 368 = .ok (.aload_n 0, 1) := by decide +kernel
theorem dL_law_369 : decode cL_law 369 = .ok (.iload 4, 2) := by decide +kernel
theorem dL_law_371 : decode cL_law 371 = .ok (.iconst 4, 1) := by decide +kernel
theorem dL_law_372 : decode cL_law 372 = .ok (.iadd, 1) := by decide +kernel
theorem dL_law_373 : decode cL_law 373 = .ok (.iaload, 1) := by decide +kernel
theorem dL_law_374 : decode cL_law 374 = .ok (.aload_n 0, 1) := by decide +kernel
theorem dL_law_375 : decode cL_law 375 = .ok (.iload 4, 2) := by decide +kernel
theorem tLaw0 {LL : Nat} {xs : Nat → Int32} {N : Nat} : z_AllE (zX1 LL xs N) 1 (zLK0 LL xs N) :=
  z_ac (j := 2) rfl (zx_I (sp_iload dL_law_23 rfl)) <|
  z_ac (j := 3) rfl (zx_I (sp_aload_n (q := 0) dL_law_25 rfl rfl)) <|
  z_ac (j := 4) rfl (zx_I (sp_slen0 dL_law_26 rfl)) <|
  z_ac (j := 5) rfl (zx_I (sp_bipush dL_law_27 (by decide +kernel) rfl)) <|
  z_ac (j := 6) rfl (zx_I (sp_isub dL_law_29 rfl)) <|
  z_ac (j := 7) rfl (zx_I (sp_icmp_gt dL_law_30 rfl rfl)) <|
  z_ac (j := 8) rfl (zx_I (sp_aload_n (q := 0) dL_law_33 rfl rfl)) <|
  z_ac (j := 9) rfl (zx_I (sp_iload dL_law_34 rfl)) <|
  z_ac (j := 10) rfl (zx_I (sp_sld dL_law_36 rfl)) <|
  z_ac (j := 11) rfl (zx_I (sp_bipush dL_law_37 (by decide +kernel) rfl)) <|
  z_ac (j := 12) rfl (zx_I (sp_iand dL_law_39 rfl)) <|
  z_ac (j := 13) rfl (zx_I (sp_tsw dL_law_40 (by decide +kernel) (by decide +kernel))) <|
  z_ac (j := 14) rfl (zx_I (sp_aload_n (q := 1) dL_law_312 rfl rfl)) <|
  z_ac (j := 15) rfl (zx_I (sp_aload_n (q := 0) dL_law_313 rfl rfl)) <|
  z_ac (j := 16) rfl (zx_I (sp_iload dL_law_314 rfl)) <|
  z_ac (j := 17) rfl (zx_I (sp_iconst dL_law_316 (by decide +kernel) rfl)) <|
  z_ac (j := 18) rfl (zx_I (sp_iadd dL_law_317 rfl)) <|
  z_ac (j := 19) rfl (zx_I (sp_sld dL_law_318 rfl)) <|
  z_ac (j := 20) rfl (zx_I (sp_aload_n (q := 0) dL_law_319 rfl rfl)) <|
  z_ac (j := 21) rfl (zx_I (sp_iload dL_law_320 rfl)) <|
  z_ac (j := 22) rfl (zx_I (sp_iconst dL_law_322 (by decide +kernel) rfl)) <|
  z_ac (j := 23) rfl (zx_I (sp_iadd dL_law_323 rfl)) <|
  z_ac (j := 24) rfl (zx_I (sp_sld dL_law_324 rfl)) <|
  z_ac (j := 25) rfl (zx_I (sp_aload_n (q := 0) dL_law_325 rfl rfl)) <|
  z_ac (j := 26) rfl (zx_I (sp_iload dL_law_326 rfl)) <|
  z_ac (j := 27) rfl (zx_I (sp_iconst dL_law_328 (by decide +kernel) rfl)) <|
  z_ac (j := 28) rfl (zx_I (sp_iadd dL_law_329 rfl)) <|
  z_ac (j := 29) rfl (zx_I (sp_sld dL_law_330 rfl)) <|
  z_ac (j := 30) rfl (zx_I (sp_aload_n (q := 0) dL_law_331 rfl rfl)) <|
  z_ac (j := 31) rfl (zx_I (sp_iload dL_law_332 rfl)) <|
  z_ac (j := 32) rfl (zx_I (sp_iconst dL_law_334 (by decide +kernel) rfl)) <|
  z_ac (j := 33) rfl (zx_I (sp_iadd dL_law_335 rfl)) <|
  z_ac (j := 34) rfl (zx_I (sp_sld dL_law_336 rfl)) <|
  z_ac (j := 35) rfl (zx_I (sp_aload_n (q := 0) dL_law_337 rfl rfl)) <|
  z_ac (j := 36) rfl (zx_I (sp_iload dL_law_338 rfl)) <|
  z_ac (j := 37) rfl (zx_I (sp_iconst dL_law_340 (by decide +kernel) rfl)) <|
  z_ac (j := 38) rfl (zx_I (sp_iadd dL_law_341 rfl)) <|
  z_ac (j := 39) rfl (zx_I (sp_sld dL_law_342 rfl)) <|
  z_ac (j := 40) rfl (zx_I (sp_aload_n (q := 3) dL_law_343 rfl rfl)) <|
  z_ac (j := 41) rfl (zx_W dL_law_344 wl_763 qL_append (by decide +kernel) rfl) <|
  z_ac (j := 42) rfl (zx_I (sp_istore dL_law_347 (by decide) (fun j hj => by have e : j = 4 := (by omega); subst e; rfl) rfl)) <|
  z_ac (j := 43) rfl (zx_I (sp_aload_n (q := 2) dL_law_349 rfl rfl)) <|
  z_ac (j := 44) rfl (zx_I (sp_aload_n (q := 0) dL_law_350 rfl rfl)) <|
  z_ac (j := 45) rfl (zx_I (sp_iload dL_law_351 rfl)) <|
  z_ac (j := 46) rfl (zx_I (sp_iconst dL_law_353 (by decide +kernel) rfl)) <|
  z_ac (j := 47) rfl (zx_I (sp_iadd dL_law_354 rfl)) <|
  z_ac (j := 48) rfl (zx_I (sp_sld dL_law_355 rfl)) <|
  z_ac (j := 49) rfl (zx_I (sp_aload_n (q := 0) dL_law_356 rfl rfl)) <|
  z_ac (j := 50) rfl (zx_I (sp_iload dL_law_357 rfl)) <|
  z_ac (j := 51) rfl (zx_I (sp_iconst dL_law_359 (by decide +kernel) rfl)) <|
  z_ac (j := 52) rfl (zx_I (sp_iadd dL_law_360 rfl)) <|
  z_ac (j := 53) rfl (zx_I (sp_sld dL_law_361 rfl)) <|
  z_ac (j := 54) rfl (zx_I (sp_aload_n (q := 0) dL_law_362 rfl rfl)) <|
  z_ac (j := 55) rfl (zx_I (sp_iload dL_law_363 rfl)) <|
  z_ac (j := 56) rfl (zx_I (sp_iconst dL_law_365 (by decide +kernel) rfl)) <|
  z_ac (j := 57) rfl (zx_I (sp_iadd dL_law_366 rfl)) <|
  z_ac (j := 58) rfl (zx_I (sp_sld dL_law_367 rfl)) <|
  z_ac (j := 59) rfl (zx_I (sp_aload_n (q := 0) dL_law_368 rfl rfl)) <|
  z_ac (j := 60) rfl (zx_I (sp_iload dL_law_369 rfl)) <|
  z_ac (j := 61) rfl (zx_I (sp_iconst dL_law_371 (by decide +kernel) rfl)) <|
  z_ac (j := 62) rfl (zx_I (sp_iadd dL_law_372 rfl)) <|
  z_ac (j := 63) rfl (zx_I (sp_sld dL_law_373 rfl)) <|
  z_ac (j := 64) rfl (zx_I (sp_aload_n (q := 0) dL_law_374 rfl rfl)) <|
  z_ac (j := 65) rfl (zx_I (sp_iload dL_law_375 rfl)) <| z_an
theorem dL_law_377 : decode cL_law 377 = .ok (.iconst 5, 1) := by decide +kernel
theorem dL_law_378 : decode cL_law 378 = .ok (.iadd, 1) := by decide +kernel
theorem dL_law_379 : decode cL_law 379 = .ok (.iaload, 1) := by decide +kernel
theorem dL_law_380 : decode cL_law 380 = .ok (.invokevirtual 179, 3) := by decide +kernel
theorem dL_law_383 : decode cL_law 383 = .ok (.istore 6, 2) := by decide +kernel
theorem dL_law_385 : decode cL_law 385 = .ok (.aload_n 2, 1) := by decide +kernel
theorem dL_law_386 : decode cL_law 386 = .ok (.invokevirtual 180, 3) := by decide +kernel
theorem dL_law_389 : decode cL_law 389 = .ok (.iload 5, 2) := by decide +kernel
theorem dL_law_391 : decode cL_law 391 = .ok (.if_icmp .eq 5, 3) := by decide +kernel
theorem dL_law_394 : decode cL_law 394 = .ok (.iconst 0, 1) := by decide +kernel
theorem dL_law_395 : decode cL_law 395 = .ok (.ireturn, 1) := by decide +kernel
theorem dL_law_396 : decode cL_law 396 = .ok (.iload 5, 2) := by decide +kernel
theorem dL_law_398 : decode cL_law 398 = .ok (.ifCond .ne 15, 3) := by decide +kernel
theorem dL_law_401 : decode cL_law 401 = .ok (.aload_n 3, 1) := by decide +kernel
theorem dL_law_402 : decode cL_law 402 = .ok (.iconst 0, 1) := by decide +kernel
theorem dL_law_403 : decode cL_law 403 = .ok (.laload, 1) := by decide +kernel
theorem dL_law_404 : decode cL_law 404 = .ok (.iload 6, 2) := by decide +kernel
theorem dL_law_406 : decode cL_law 406 = .ok (.i2l, 1) := by decide +kernel
theorem dL_law_407 : decode cL_law 407 = .ok (.lcmp, 1) := by decide +kernel
theorem dL_law_408 : decode cL_law 408 = .ok (.ifCond .eq 5, 3) := by decide +kernel
theorem dL_law_411 : decode cL_law 411 = .ok (.iconst 0, 1) := by decide +kernel
theorem dL_law_412 : decode cL_law 412 = .ok (.ireturn, 1) := by decide +kernel
theorem dL_law_413 : decode cL_law 413 = .ok (.goto 3219, 3) := by decide +kernel
theorem dL_law_416 : decode cL_law 416 = .ok (.aload_n 1, 1) := by decide +kernel
theorem dL_law_417 : decode cL_law 417 = .ok (.aload_n 0, 1) := by decide +kernel
theorem dL_law_418 : decode cL_law 418 = .ok (.iload 4, 2) := by decide +kernel
theorem dL_law_420 : decode cL_law 420 = .ok (.iconst 1, 1) := by decide +kernel
theorem dL_law_421 : decode cL_law 421 = .ok (.iadd, 1) := by decide +kernel
theorem dL_law_422 : decode cL_law 422 = .ok (.iaload, 1) := by decide +kernel
theorem dL_law_423 : decode cL_law 423 = .ok (.aload_n 3, 1) := by decide +kernel
theorem dL_law_424 : decode cL_law 424 = .ok (.invokestatic 183, 3) := by decide +kernel
theorem dL_law_427 : decode cL_law 427 = .ok (.istore 5, 2) := by decide +kernel
theorem dL_law_429 : decode cL_law 429 = .ok (.aload_n 2, 1) := by decide +kernel
theorem dL_law_430 : decode cL_law 430 = .ok (.aload_n 0, 1) := by decide +kernel
theorem dL_law_431 : decode cL_law 431 = .ok (.iload 4, 2) := by decide +kernel
theorem dL_law_433 : decode cL_law 433 = .ok (.iconst 1, 1) := by decide +kernel
theorem dL_law_434 : decode cL_law 434 = .ok (.iadd, 1) := by decide +kernel
theorem dL_law_435 : decode cL_law 435 = .ok (.iaload, 1) := by decide +kernel
theorem dL_law_436 : decode cL_law 436 = .ok (.invokevirtual 186, 3) := by decide +kernel
theorem dL_law_439 : decode cL_law 439 = .ok (.istore 6, 2) := by decide +kernel
theorem dL_law_441 : decode cL_law 441 = .ok (.aload_n 2, 1) := by decide +kernel
theorem dL_law_442 : decode cL_law 442 = .ok (.invokevirtual 180, 3) := by decide +kernel
theorem dL_law_445 : decode cL_law 445 = .ok (.iload 5, 2) := by decide +kernel
theorem dL_law_447 : decode cL_law 447 = .ok (.if_icmp .eq 5, 3) := by decide +kernel
theorem dL_law_450 : decode cL_law 450 = .ok (.iconst 0, 1) := by decide +kernel
theorem dL_law_451 : decode cL_law 451 = .ok (.ireturn, 1) := by decide +kernel
theorem dL_law_452 : decode cL_law 452 = .ok (.iload 5, 2) := by decide +kernel
theorem dL_law_454 : decode cL_law 454 = .ok (.ifCond .ne 15, 3) := by decide +kernel
theorem dL_law_457 : decode cL_law 457 = .ok (.aload_n 3, 1) := by decide +kernel
theorem dL_law_458 : decode cL_law 458 = .ok (.iconst 0, 1) := by decide +kernel
theorem dL_law_459 : decode cL_law 459 = .ok (.laload, 1) := by decide +kernel
theorem dL_law_460 : decode cL_law 460 = .ok (.iload 6, 2) := by decide +kernel
theorem dL_law_462 : decode cL_law 462 = .ok (.i2l, 1) := by decide +kernel
theorem dL_law_463 : decode cL_law 463 = .ok (.lcmp, 1) := by decide +kernel
theorem dL_law_464 : decode cL_law 464 = .ok (.ifCond .eq 5, 3) := by decide +kernel
theorem dL_law_467 : decode cL_law 467 = .ok (.iconst 0, 1) := by decide +kernel
theorem dL_law_468 : decode cL_law 468 = .ok (.ireturn, 1) := by decide +kernel
theorem dL_law_469 : decode cL_law 469 = .ok (.goto 3163, 3) := by decide +kernel
theorem dL_law_472 : decode cL_law 472 = .ok (.aload_n 1, 1) := by decide +kernel
theorem dL_law_473 : decode cL_law 473 = .ok (.aload_n 3, 1) := by decide +kernel
theorem dL_law_474 : decode cL_law 474 = .ok (.invokestatic 187, 3) := by decide +kernel
theorem dL_law_477 : decode cL_law 477 = .ok (.istore 5, 2) := by decide +kernel
theorem dL_law_479 : decode cL_law 479 = .ok (.aload_n 2, 1) := by decide +kernel
theorem dL_law_480 : decode cL_law 480 = .ok (.invokevirtual 190, 3) := by decide +kernel
theorem tLaw1 {LL : Nat} {xs : Nat → Int32} {N : Nat} : z_AllE (zX1 LL xs N) 65 (zLK1 LL xs N) :=
  z_ac (j := 66) rfl (zx_I (sp_iconst dL_law_377 (by decide +kernel) rfl)) <|
  z_ac (j := 67) rfl (zx_I (sp_iadd dL_law_378 rfl)) <|
  z_ac (j := 68) rfl (zx_I (sp_sld dL_law_379 rfl)) <|
  z_ac (j := 69) rfl (zx_V dL_law_380 wl_1420 qX9_append (by decide +kernel) ⟨_, _, rfl⟩ rfl) <|
  z_ac (j := 70) rfl (zx_I (sp_istoreK dL_law_383 (by decide) (by decide) rfl)) <|
  z_ac (j := 71) rfl (zx_I (sp_aload_n (q := 2) dL_law_385 rfl rfl)) <|
  z_ac (j := 72) rfl (zx_V dL_law_386 wl_1416 qX9_thrown (by decide +kernel) ⟨_, _, rfl⟩ rfl) <|
  z_ac (j := 73) rfl (zx_I (sp_iload dL_law_389 rfl)) <|
  z_ac (j := 74) rfl (zx_I (sp_icmp_eq dL_law_391 rfl rfl)) <|
  z_ac (j := 75) rfl (zx_I (sp_iconst dL_law_394 (by decide +kernel) rfl)) <|
  z_ac (j := 76) rfl (zx_R (sr_bool dL_law_395 rfl)) <|
  z_ac (j := 77) rfl (zx_I (sp_iload dL_law_396 rfl)) <|
  z_ac (j := 78) rfl (zx_I (sp_if_ne dL_law_398 rfl rfl)) <|
  z_ac (j := 79) rfl (zx_I (sp_aload_n (q := 3) dL_law_401 rfl rfl)) <|
  z_ac (j := 80) rfl (zx_I (sp_iconst dL_law_402 (by decide +kernel) rfl)) <|
  z_ac (j := 81) rfl (zx_I (sp_lald dL_law_403 rfl)) <|
  z_ac (j := 82) rfl (zx_I (sp_iload dL_law_404 rfl)) <|
  z_ac (j := 83) rfl (zx_I (sp_i2l dL_law_406 rfl)) <|
  z_ac (j := 84) rfl (zx_I (sp_lcmp dL_law_407 rfl)) <|
  z_ac (j := 85) rfl (zx_I (sp_if_eq dL_law_408 rfl rfl)) <|
  z_ac (j := 86) rfl (zx_I (sp_iconst dL_law_411 (by decide +kernel) rfl)) <|
  z_ac (j := 87) rfl (zx_R (sr_bool dL_law_412 rfl)) <|
  z_ac (j := 88) rfl (zx_I (sp_goto dL_law_413 rfl)) <|
  z_ac (j := 89) rfl (zx_I (sp_aload_n (q := 1) dL_law_416 rfl rfl)) <|
  z_ac (j := 90) rfl (zx_I (sp_aload_n (q := 0) dL_law_417 rfl rfl)) <|
  z_ac (j := 91) rfl (zx_I (sp_iload dL_law_418 rfl)) <|
  z_ac (j := 92) rfl (zx_I (sp_iconst dL_law_420 (by decide +kernel) rfl)) <|
  z_ac (j := 93) rfl (zx_I (sp_iadd dL_law_421 rfl)) <|
  z_ac (j := 94) rfl (zx_I (sp_sld dL_law_422 rfl)) <|
  z_ac (j := 95) rfl (zx_I (sp_aload_n (q := 3) dL_law_423 rfl rfl)) <|
  z_ac (j := 96) rfl (zx_W dL_law_424 wl_843 qL_shorten (by decide +kernel) rfl) <|
  z_ac (j := 97) rfl (zx_I (sp_istore dL_law_427 (by decide) (fun j hj => by have e : j = 4 := (by omega); subst e; rfl) rfl)) <|
  z_ac (j := 98) rfl (zx_I (sp_aload_n (q := 2) dL_law_429 rfl rfl)) <|
  z_ac (j := 99) rfl (zx_I (sp_aload_n (q := 0) dL_law_430 rfl rfl)) <|
  z_ac (j := 100) rfl (zx_I (sp_iload dL_law_431 rfl)) <|
  z_ac (j := 101) rfl (zx_I (sp_iconst dL_law_433 (by decide +kernel) rfl)) <|
  z_ac (j := 102) rfl (zx_I (sp_iadd dL_law_434 rfl)) <|
  z_ac (j := 103) rfl (zx_I (sp_sld dL_law_435 rfl)) <|
  z_ac (j := 104) rfl (zx_V dL_law_436 wl_1428 qX9_shorten (by decide +kernel) ⟨_, _, rfl⟩ rfl) <|
  z_ac (j := 105) rfl (zx_I (sp_istoreK dL_law_439 (by decide) (by decide) rfl)) <|
  z_ac (j := 106) rfl (zx_I (sp_aload_n (q := 2) dL_law_441 rfl rfl)) <|
  z_ac (j := 107) rfl (zx_V dL_law_442 wl_1416 qX9_thrown (by decide +kernel) ⟨_, _, rfl⟩ rfl) <|
  z_ac (j := 108) rfl (zx_I (sp_iload dL_law_445 rfl)) <|
  z_ac (j := 109) rfl (zx_I (sp_icmp_eq dL_law_447 rfl rfl)) <|
  z_ac (j := 110) rfl (zx_I (sp_iconst dL_law_450 (by decide +kernel) rfl)) <|
  z_ac (j := 111) rfl (zx_R (sr_bool dL_law_451 rfl)) <|
  z_ac (j := 112) rfl (zx_I (sp_iload dL_law_452 rfl)) <|
  z_ac (j := 113) rfl (zx_I (sp_if_ne dL_law_454 rfl rfl)) <|
  z_ac (j := 114) rfl (zx_I (sp_aload_n (q := 3) dL_law_457 rfl rfl)) <|
  z_ac (j := 115) rfl (zx_I (sp_iconst dL_law_458 (by decide +kernel) rfl)) <|
  z_ac (j := 116) rfl (zx_I (sp_lald dL_law_459 rfl)) <|
  z_ac (j := 117) rfl (zx_I (sp_iload dL_law_460 rfl)) <|
  z_ac (j := 118) rfl (zx_I (sp_i2l dL_law_462 rfl)) <|
  z_ac (j := 119) rfl (zx_I (sp_lcmp dL_law_463 rfl)) <|
  z_ac (j := 120) rfl (zx_I (sp_if_eq dL_law_464 rfl rfl)) <|
  z_ac (j := 121) rfl (zx_I (sp_iconst dL_law_467 (by decide +kernel) rfl)) <|
  z_ac (j := 122) rfl (zx_R (sr_bool dL_law_468 rfl)) <|
  z_ac (j := 123) rfl (zx_I (sp_goto dL_law_469 rfl)) <|
  z_ac (j := 124) rfl (zx_I (sp_aload_n (q := 1) dL_law_472 rfl rfl)) <|
  z_ac (j := 125) rfl (zx_I (sp_aload_n (q := 3) dL_law_473 rfl rfl)) <|
  z_ac (j := 126) rfl (zx_W dL_law_474 wl_867 qL_load (by decide +kernel) rfl) <|
  z_ac (j := 127) rfl (zx_I (sp_istore dL_law_477 (by decide) (fun j hj => by have e : j = 4 := (by omega); subst e; rfl) rfl)) <|
  z_ac (j := 128) rfl (zx_I (sp_aload_n (q := 2) dL_law_479 rfl rfl)) <|
  z_ac (j := 129) rfl (zx_V dL_law_480 wl_1435 qX9_load (by decide +kernel) ⟨_, _, rfl⟩ rfl) <| z_an
theorem dL_law_483 : decode cL_law 483 = .ok (.istore 6, 2) := by decide +kernel
theorem dL_law_485 : decode cL_law 485 = .ok (.aload_n 2, 1) := by decide +kernel
theorem dL_law_486 : decode cL_law 486 = .ok (.invokevirtual 180, 3) := by decide +kernel
theorem dL_law_489 : decode cL_law 489 = .ok (.iload 5, 2) := by decide +kernel
theorem dL_law_491 : decode cL_law 491 = .ok (.if_icmp .eq 5, 3) := by decide +kernel
theorem dL_law_494 : decode cL_law 494 = .ok (.iconst 0, 1) := by decide +kernel
theorem dL_law_495 : decode cL_law 495 = .ok (.ireturn, 1) := by decide +kernel
theorem dL_law_496 : decode cL_law 496 = .ok (.iload 5, 2) := by decide +kernel
theorem dL_law_498 : decode cL_law 498 = .ok (.ifCond .ne 15, 3) := by decide +kernel
theorem dL_law_501 : decode cL_law 501 = .ok (.aload_n 3, 1) := by decide +kernel
theorem dL_law_502 : decode cL_law 502 = .ok (.iconst 0, 1) := by decide +kernel
theorem dL_law_503 : decode cL_law 503 = .ok (.laload, 1) := by decide +kernel
theorem dL_law_504 : decode cL_law 504 = .ok (.iload 6, 2) := by decide +kernel
theorem dL_law_506 : decode cL_law 506 = .ok (.i2l, 1) := by decide +kernel
theorem dL_law_507 : decode cL_law 507 = .ok (.lcmp, 1) := by decide +kernel
theorem dL_law_508 : decode cL_law 508 = .ok (.ifCond .eq 5, 3) := by decide +kernel
theorem dL_law_511 : decode cL_law 511 = .ok (.iconst 0, 1) := by decide +kernel
theorem dL_law_512 : decode cL_law 512 = .ok (.ireturn, 1) := by decide +kernel
theorem dL_law_513 : decode cL_law 513 = .ok (.goto 3119, 3) := by decide +kernel
theorem dL_law_516 : decode cL_law 516 = .ok (.aload_n 1, 1) := by decide +kernel
theorem dL_law_517 : decode cL_law 517 = .ok (.invokevirtual 191, 3) := by decide +kernel
theorem dL_law_520 : decode cL_law 520 = .ok (.aload_n 2, 1) := by decide +kernel
theorem dL_law_521 : decode cL_law 521 = .ok (.invokevirtual 195, 3) := by decide +kernel
theorem dL_law_524 : decode cL_law 524 = .ok (.if_icmp .eq 3108, 3) := by decide +kernel
theorem dL_law_527 : decode cL_law 527 = .ok (.iconst 0, 1) := by decide +kernel
theorem dL_law_528 : decode cL_law 528 = .ok (.ireturn, 1) := by decide +kernel
theorem dL_law_529 : decode cL_law 529 = .ok (.aload_n 1, 1) := by decide +kernel
theorem dL_law_530 : decode cL_law 530 = .ok (.aload_n 3, 1) := by decide +kernel
theorem dL_law_531 : decode cL_law 531 = .ok (.invokestatic 196, 3) := by decide +kernel
theorem dL_law_534 : decode cL_law 534 = .ok (.istore 5, 2) := by decide +kernel
theorem dL_law_536 : decode cL_law 536 = .ok (.aload_n 2, 1) := by decide +kernel
theorem dL_law_537 : decode cL_law 537 = .ok (.invokevirtual 198, 3) := by decide +kernel
theorem dL_law_540 : decode cL_law 540 = .ok (.istore 6, 2) := by decide +kernel
theorem dL_law_542 : decode cL_law 542 = .ok (.aload_n 2, 1) := by decide +kernel
theorem dL_law_543 : decode cL_law 543 = .ok (.invokevirtual 180, 3) := by decide +kernel
theorem dL_law_546 : decode cL_law 546 = .ok (.iload 5, 2) := by decide +kernel
theorem dL_law_548 : decode cL_law 548 = .ok (.if_icmp .eq 5, 3) := by decide +kernel
theorem dL_law_551 : decode cL_law 551 = .ok (.iconst 0, 1) := by decide +kernel
theorem dL_law_552 : decode cL_law 552 = .ok (.ireturn, 1) := by decide +kernel
theorem dL_law_553 : decode cL_law 553 = .ok (.iload 5, 2) := by decide +kernel
theorem dL_law_555 : decode cL_law 555 = .ok (.ifCond .ne 15, 3) := by decide +kernel
theorem dL_law_558 : decode cL_law 558 = .ok (.aload_n 3, 1) := by decide +kernel
theorem dL_law_559 : decode cL_law 559 = .ok (.iconst 0, 1) := by decide +kernel
theorem dL_law_560 : decode cL_law 560 = .ok (.laload, 1) := by decide +kernel
theorem dL_law_561 : decode cL_law 561 = .ok (.iload 6, 2) := by decide +kernel
theorem dL_law_563 : decode cL_law 563 = .ok (.i2l, 1) := by decide +kernel
theorem dL_law_564 : decode cL_law 564 = .ok (.lcmp, 1) := by decide +kernel
theorem dL_law_565 : decode cL_law 565 = .ok (.ifCond .eq 5, 3) := by decide +kernel
theorem dL_law_568 : decode cL_law 568 = .ok (.iconst 0, 1) := by decide +kernel
theorem dL_law_569 : decode cL_law 569 = .ok (.ireturn, 1) := by decide +kernel
theorem dL_law_570 : decode cL_law 570 = .ok (.goto 3062, 3) := by decide +kernel
theorem dL_law_573 : decode cL_law 573 = .ok (.aload_n 1, 1) := by decide +kernel
theorem dL_law_574 : decode cL_law 574 = .ok (.invokevirtual 199, 3) := by decide +kernel
theorem dL_law_577 : decode cL_law 577 = .ok (.aload_n 2, 1) := by decide +kernel
theorem dL_law_578 : decode cL_law 578 = .ok (.invokevirtual 202, 3) := by decide +kernel
theorem dL_law_581 : decode cL_law 581 = .ok (.if_icmp .eq 3051, 3) := by decide +kernel
theorem dL_law_584 : decode cL_law 584 = .ok (.iconst 0, 1) := by decide +kernel
theorem dL_law_585 : decode cL_law 585 = .ok (.ireturn, 1) := by decide +kernel
theorem dL_law_586 : decode cL_law 586 = .ok (.aload_n 1, 1) := by decide +kernel
theorem dL_law_587 : decode cL_law 587 = .ok (.invokevirtual 203, 3) := by decide +kernel
theorem dL_law_590 : decode cL_law 590 = .ok (.aload_n 2, 1) := by decide +kernel
theorem dL_law_591 : decode cL_law 591 = .ok (.invokevirtual 206, 3) := by decide +kernel
theorem dL_law_594 : decode cL_law 594 = .ok (.if_icmp .eq 3038, 3) := by decide +kernel
theorem dL_law_597 : decode cL_law 597 = .ok (.iconst 0, 1) := by decide +kernel
theorem tLaw2 {LL : Nat} {xs : Nat → Int32} {N : Nat} : z_AllE (zX1 LL xs N) 129 (zLK2 LL xs N) :=
  z_ac (j := 130) rfl (zx_I (sp_istoreK dL_law_483 (by decide) (by decide) rfl)) <|
  z_ac (j := 131) rfl (zx_I (sp_aload_n (q := 2) dL_law_485 rfl rfl)) <|
  z_ac (j := 132) rfl (zx_V dL_law_486 wl_1416 qX9_thrown (by decide +kernel) ⟨_, _, rfl⟩ rfl) <|
  z_ac (j := 133) rfl (zx_I (sp_iload dL_law_489 rfl)) <|
  z_ac (j := 134) rfl (zx_I (sp_icmp_eq dL_law_491 rfl rfl)) <|
  z_ac (j := 135) rfl (zx_I (sp_iconst dL_law_494 (by decide +kernel) rfl)) <|
  z_ac (j := 136) rfl (zx_R (sr_bool dL_law_495 rfl)) <|
  z_ac (j := 137) rfl (zx_I (sp_iload dL_law_496 rfl)) <|
  z_ac (j := 138) rfl (zx_I (sp_if_ne dL_law_498 rfl rfl)) <|
  z_ac (j := 139) rfl (zx_I (sp_aload_n (q := 3) dL_law_501 rfl rfl)) <|
  z_ac (j := 140) rfl (zx_I (sp_iconst dL_law_502 (by decide +kernel) rfl)) <|
  z_ac (j := 141) rfl (zx_I (sp_lald dL_law_503 rfl)) <|
  z_ac (j := 142) rfl (zx_I (sp_iload dL_law_504 rfl)) <|
  z_ac (j := 143) rfl (zx_I (sp_i2l dL_law_506 rfl)) <|
  z_ac (j := 144) rfl (zx_I (sp_lcmp dL_law_507 rfl)) <|
  z_ac (j := 145) rfl (zx_I (sp_if_eq dL_law_508 rfl rfl)) <|
  z_ac (j := 146) rfl (zx_I (sp_iconst dL_law_511 (by decide +kernel) rfl)) <|
  z_ac (j := 147) rfl (zx_R (sr_bool dL_law_512 rfl)) <|
  z_ac (j := 148) rfl (zx_I (sp_goto dL_law_513 rfl)) <|
  z_ac (j := 149) rfl (zx_I (sp_aload_n (q := 1) dL_law_516 rfl rfl)) <|
  z_ac (j := 150) rfl (zx_V dL_law_517 wl_542 qX8_hasError (by decide +kernel) ⟨_, _, rfl⟩ rfl) <|
  z_ac (j := 151) rfl (zx_I (sp_aload_n (q := 2) dL_law_520 rfl rfl)) <|
  z_ac (j := 152) rfl (zx_V dL_law_521 wl_1527 qX9_hasError (by decide +kernel) ⟨_, _, rfl⟩ rfl) <|
  z_ac (j := 153) rfl (zx_I (sp_icmp_eq dL_law_524 rfl rfl)) <|
  z_ac (j := 154) rfl (zx_I (sp_iconst dL_law_527 (by decide +kernel) rfl)) <|
  z_ac (j := 155) rfl (zx_R (sr_bool dL_law_528 rfl)) <|
  z_ac (j := 156) rfl (zx_I (sp_aload_n (q := 1) dL_law_529 rfl rfl)) <|
  z_ac (j := 157) rfl (zx_I (sp_aload_n (q := 3) dL_law_530 rfl rfl)) <|
  z_ac (j := 158) rfl (zx_W dL_law_531 wl_879 qL_errorOffset (by decide +kernel) rfl) <|
  z_ac (j := 159) rfl (zx_I (sp_istore dL_law_534 (by decide) (fun j hj => by have e : j = 4 := (by omega); subst e; rfl) rfl)) <|
  z_ac (j := 160) rfl (zx_I (sp_aload_n (q := 2) dL_law_536 rfl rfl)) <|
  z_ac (j := 161) rfl (zx_V dL_law_537 wl_1531 qX9_errorOffset (by decide +kernel) ⟨_, _, rfl⟩ rfl) <|
  z_ac (j := 162) rfl (zx_I (sp_istoreK dL_law_540 (by decide) (by decide) rfl)) <|
  z_ac (j := 163) rfl (zx_I (sp_aload_n (q := 2) dL_law_542 rfl rfl)) <|
  z_ac (j := 164) rfl (zx_V dL_law_543 wl_1416 qX9_thrown (by decide +kernel) ⟨_, _, rfl⟩ rfl) <|
  z_ac (j := 165) rfl (zx_I (sp_iload dL_law_546 rfl)) <|
  z_ac (j := 166) rfl (zx_I (sp_icmp_eq dL_law_548 rfl rfl)) <|
  z_ac (j := 167) rfl (zx_I (sp_iconst dL_law_551 (by decide +kernel) rfl)) <|
  z_ac (j := 168) rfl (zx_R (sr_bool dL_law_552 rfl)) <|
  z_ac (j := 169) rfl (zx_I (sp_iload dL_law_553 rfl)) <|
  z_ac (j := 170) rfl (zx_I (sp_if_ne dL_law_555 rfl rfl)) <|
  z_ac (j := 171) rfl (zx_I (sp_aload_n (q := 3) dL_law_558 rfl rfl)) <|
  z_ac (j := 172) rfl (zx_I (sp_iconst dL_law_559 (by decide +kernel) rfl)) <|
  z_ac (j := 173) rfl (zx_I (sp_lald dL_law_560 rfl)) <|
  z_ac (j := 174) rfl (zx_I (sp_iload dL_law_561 rfl)) <|
  z_ac (j := 175) rfl (zx_I (sp_i2l dL_law_563 rfl)) <|
  z_ac (j := 176) rfl (zx_I (sp_lcmp dL_law_564 rfl)) <|
  z_ac (j := 177) rfl (zx_I (sp_if_eq dL_law_565 rfl rfl)) <|
  z_ac (j := 178) rfl (zx_I (sp_iconst dL_law_568 (by decide +kernel) rfl)) <|
  z_ac (j := 179) rfl (zx_R (sr_bool dL_law_569 rfl)) <|
  z_ac (j := 180) rfl (zx_I (sp_goto dL_law_570 rfl)) <|
  z_ac (j := 181) rfl (zx_I (sp_aload_n (q := 1) dL_law_573 rfl rfl)) <|
  z_ac (j := 182) rfl (zx_V dL_law_574 wl_546 qX8_width (by decide +kernel) ⟨_, _, rfl⟩ rfl) <|
  z_ac (j := 183) rfl (zx_I (sp_aload_n (q := 2) dL_law_577 rfl rfl)) <|
  z_ac (j := 184) rfl (zx_V dL_law_578 wl_1535 qX9_width (by decide +kernel) ⟨_, _, rfl⟩ rfl) <|
  z_ac (j := 185) rfl (zx_I (sp_icmp_eq dL_law_581 rfl rfl)) <|
  z_ac (j := 186) rfl (zx_I (sp_iconst dL_law_584 (by decide +kernel) rfl)) <|
  z_ac (j := 187) rfl (zx_R (sr_bool dL_law_585 rfl)) <|
  z_ac (j := 188) rfl (zx_I (sp_aload_n (q := 1) dL_law_586 rfl rfl)) <|
  z_ac (j := 189) rfl (zx_V dL_law_587 wl_550 qX8_height (by decide +kernel) ⟨_, _, rfl⟩ rfl) <|
  z_ac (j := 190) rfl (zx_I (sp_aload_n (q := 2) dL_law_590 rfl rfl)) <|
  z_ac (j := 191) rfl (zx_V dL_law_591 wl_1539 qX9_height (by decide +kernel) ⟨_, _, rfl⟩ rfl) <|
  z_ac (j := 192) rfl (zx_I (sp_icmp_eq dL_law_594 rfl rfl)) <|
  z_ac (j := 193) rfl (zx_I (sp_iconst dL_law_597 (by decide +kernel) rfl)) <| z_an
theorem dL_law_598 : decode cL_law 598 = .ok (.ireturn, 1) := by decide +kernel
theorem dL_law_599 : decode cL_law 599 = .ok (.aload_n 1, 1) := by decide +kernel
theorem dL_law_600 : decode cL_law 600 = .ok (.aload_n 0, 1) := by decide +kernel
theorem dL_law_601 : decode cL_law 601 = .ok (.iload 4, 2) := by decide +kernel
theorem dL_law_603 : decode cL_law 603 = .ok (.iconst 1, 1) := by decide +kernel
theorem dL_law_604 : decode cL_law 604 = .ok (.iadd, 1) := by decide +kernel
theorem dL_law_605 : decode cL_law 605 = .ok (.iaload, 1) := by decide +kernel
theorem dL_law_606 : decode cL_law 606 = .ok (.aload_n 0, 1) := by decide +kernel
theorem dL_law_607 : decode cL_law 607 = .ok (.iload 4, 2) := by decide +kernel
theorem dL_law_609 : decode cL_law 609 = .ok (.iconst 2, 1) := by decide +kernel
theorem dL_law_610 : decode cL_law 610 = .ok (.iadd, 1) := by decide +kernel
theorem dL_law_611 : decode cL_law 611 = .ok (.iaload, 1) := by decide +kernel
theorem dL_law_612 : decode cL_law 612 = .ok (.aload_n 3, 1) := by decide +kernel
theorem dL_law_613 : decode cL_law 613 = .ok (.invokestatic 207, 3) := by decide +kernel
theorem dL_law_616 : decode cL_law 616 = .ok (.istore 5, 2) := by decide +kernel
theorem dL_law_618 : decode cL_law 618 = .ok (.aload_n 2, 1) := by decide +kernel
theorem dL_law_619 : decode cL_law 619 = .ok (.aload_n 0, 1) := by decide +kernel
theorem dL_law_620 : decode cL_law 620 = .ok (.iload 4, 2) := by decide +kernel
theorem dL_law_622 : decode cL_law 622 = .ok (.iconst 1, 1) := by decide +kernel
theorem dL_law_623 : decode cL_law 623 = .ok (.iadd, 1) := by decide +kernel
theorem dL_law_624 : decode cL_law 624 = .ok (.iaload, 1) := by decide +kernel
theorem dL_law_625 : decode cL_law 625 = .ok (.aload_n 0, 1) := by decide +kernel
theorem dL_law_626 : decode cL_law 626 = .ok (.iload 4, 2) := by decide +kernel
theorem dL_law_628 : decode cL_law 628 = .ok (.iconst 2, 1) := by decide +kernel
theorem dL_law_629 : decode cL_law 629 = .ok (.iadd, 1) := by decide +kernel
theorem dL_law_630 : decode cL_law 630 = .ok (.iaload, 1) := by decide +kernel
theorem dL_law_631 : decode cL_law 631 = .ok (.invokevirtual 210, 3) := by decide +kernel
theorem dL_law_634 : decode cL_law 634 = .ok (.istore 6, 2) := by decide +kernel
theorem dL_law_636 : decode cL_law 636 = .ok (.aload_n 2, 1) := by decide +kernel
theorem dL_law_637 : decode cL_law 637 = .ok (.invokevirtual 180, 3) := by decide +kernel
theorem dL_law_640 : decode cL_law 640 = .ok (.iload 5, 2) := by decide +kernel
theorem dL_law_642 : decode cL_law 642 = .ok (.if_icmp .eq 5, 3) := by decide +kernel
theorem dL_law_645 : decode cL_law 645 = .ok (.iconst 0, 1) := by decide +kernel
theorem dL_law_646 : decode cL_law 646 = .ok (.ireturn, 1) := by decide +kernel
theorem dL_law_647 : decode cL_law 647 = .ok (.iload 5, 2) := by decide +kernel
theorem dL_law_649 : decode cL_law 649 = .ok (.ifCond .ne 22, 3) := by decide +kernel
theorem dL_law_652 : decode cL_law 652 = .ok (.aload_n 3, 1) := by decide +kernel
theorem dL_law_653 : decode cL_law 653 = .ok (.iconst 0, 1) := by decide +kernel
theorem dL_law_654 : decode cL_law 654 = .ok (.laload, 1) := by decide +kernel
theorem dL_law_655 : decode cL_law 655 = .ok (.iload 6, 2) := by decide +kernel
theorem dL_law_657 : decode cL_law 657 = .ok (.ifCond .eq 7, 3) := by decide +kernel
theorem dL_law_660 : decode cL_law 660 = .ok (.lconst 1, 1) := by decide +kernel
theorem dL_law_661 : decode cL_law 661 = .ok (.goto 4, 3) := by decide +kernel
theorem dL_law_664 : decode cL_law 664 = .ok (.lconst 0, 1) := by decide +kernel
theorem dL_law_665 : decode cL_law 665 = .ok (.lcmp, 1) := by decide +kernel
theorem dL_law_666 : decode cL_law 666 = .ok (.ifCond .eq 5, 3) := by decide +kernel
theorem dL_law_669 : decode cL_law 669 = .ok (.iconst 0, 1) := by decide +kernel
theorem dL_law_670 : decode cL_law 670 = .ok (.ireturn, 1) := by decide +kernel
theorem dL_law_671 : decode cL_law 671 = .ok (.goto 2961, 3) := by decide +kernel
theorem dL_law_674 : decode cL_law 674 = .ok (.aload_n 1, 1) := by decide +kernel
theorem dL_law_675 : decode cL_law 675 = .ok (.aload_n 0, 1) := by decide +kernel
theorem dL_law_676 : decode cL_law 676 = .ok (.iload 4, 2) := by decide +kernel
theorem dL_law_678 : decode cL_law 678 = .ok (.iconst 1, 1) := by decide +kernel
theorem dL_law_679 : decode cL_law 679 = .ok (.iadd, 1) := by decide +kernel
theorem dL_law_680 : decode cL_law 680 = .ok (.iaload, 1) := by decide +kernel
theorem dL_law_681 : decode cL_law 681 = .ok (.aload_n 0, 1) := by decide +kernel
theorem dL_law_682 : decode cL_law 682 = .ok (.iload 4, 2) := by decide +kernel
theorem dL_law_684 : decode cL_law 684 = .ok (.iconst 2, 1) := by decide +kernel
theorem dL_law_685 : decode cL_law 685 = .ok (.iadd, 1) := by decide +kernel
theorem dL_law_686 : decode cL_law 686 = .ok (.iaload, 1) := by decide +kernel
theorem dL_law_687 : decode cL_law 687 = .ok (.aload_n 3, 1) := by decide +kernel
theorem dL_law_688 : decode cL_law 688 = .ok (.invokestatic 211, 3) := by decide +kernel
theorem dL_law_691 : decode cL_law 691 = .ok (.istore 5, 2) := by decide +kernel
theorem dL_law_693 : decode cL_law 693 = .ok (.aload_n 2, 1) := by decide +kernel
theorem tLaw3 {LL : Nat} {xs : Nat → Int32} {N : Nat} : z_AllE (zX1 LL xs N) 193 (zLK3 LL xs N) :=
  z_ac (j := 194) rfl (zx_R (sr_bool dL_law_598 rfl)) <|
  z_ac (j := 195) rfl (zx_I (sp_aload_n (q := 1) dL_law_599 rfl rfl)) <|
  z_ac (j := 196) rfl (zx_I (sp_aload_n (q := 0) dL_law_600 rfl rfl)) <|
  z_ac (j := 197) rfl (zx_I (sp_iload dL_law_601 rfl)) <|
  z_ac (j := 198) rfl (zx_I (sp_iconst dL_law_603 (by decide +kernel) rfl)) <|
  z_ac (j := 199) rfl (zx_I (sp_iadd dL_law_604 rfl)) <|
  z_ac (j := 200) rfl (zx_I (sp_sld dL_law_605 rfl)) <|
  z_ac (j := 201) rfl (zx_I (sp_aload_n (q := 0) dL_law_606 rfl rfl)) <|
  z_ac (j := 202) rfl (zx_I (sp_iload dL_law_607 rfl)) <|
  z_ac (j := 203) rfl (zx_I (sp_iconst dL_law_609 (by decide +kernel) rfl)) <|
  z_ac (j := 204) rfl (zx_I (sp_iadd dL_law_610 rfl)) <|
  z_ac (j := 205) rfl (zx_I (sp_sld dL_law_611 rfl)) <|
  z_ac (j := 206) rfl (zx_I (sp_aload_n (q := 3) dL_law_612 rfl rfl)) <|
  z_ac (j := 207) rfl (zx_W dL_law_613 wl_903 qL_isWater (by decide +kernel) rfl) <|
  z_ac (j := 208) rfl (zx_I (sp_istore dL_law_616 (by decide) (fun j hj => by have e : j = 4 := (by omega); subst e; rfl) rfl)) <|
  z_ac (j := 209) rfl (zx_I (sp_aload_n (q := 2) dL_law_618 rfl rfl)) <|
  z_ac (j := 210) rfl (zx_I (sp_aload_n (q := 0) dL_law_619 rfl rfl)) <|
  z_ac (j := 211) rfl (zx_I (sp_iload dL_law_620 rfl)) <|
  z_ac (j := 212) rfl (zx_I (sp_iconst dL_law_622 (by decide +kernel) rfl)) <|
  z_ac (j := 213) rfl (zx_I (sp_iadd dL_law_623 rfl)) <|
  z_ac (j := 214) rfl (zx_I (sp_sld dL_law_624 rfl)) <|
  z_ac (j := 215) rfl (zx_I (sp_aload_n (q := 0) dL_law_625 rfl rfl)) <|
  z_ac (j := 216) rfl (zx_I (sp_iload dL_law_626 rfl)) <|
  z_ac (j := 217) rfl (zx_I (sp_iconst dL_law_628 (by decide +kernel) rfl)) <|
  z_ac (j := 218) rfl (zx_I (sp_iadd dL_law_629 rfl)) <|
  z_ac (j := 219) rfl (zx_I (sp_sld dL_law_630 rfl)) <|
  z_ac (j := 220) rfl (zx_V dL_law_631 wl_1543 qX9_isWater (by decide +kernel) ⟨_, _, rfl⟩ rfl) <|
  z_ac (j := 221) rfl (zx_I (sp_istoreK dL_law_634 (by decide) (by decide) rfl)) <|
  z_ac (j := 222) rfl (zx_I (sp_aload_n (q := 2) dL_law_636 rfl rfl)) <|
  z_ac (j := 223) rfl (zx_V dL_law_637 wl_1416 qX9_thrown (by decide +kernel) ⟨_, _, rfl⟩ rfl) <|
  z_ac (j := 224) rfl (zx_I (sp_iload dL_law_640 rfl)) <|
  z_ac (j := 225) rfl (zx_I (sp_icmp_eq dL_law_642 rfl rfl)) <|
  z_ac (j := 226) rfl (zx_I (sp_iconst dL_law_645 (by decide +kernel) rfl)) <|
  z_ac (j := 227) rfl (zx_R (sr_bool dL_law_646 rfl)) <|
  z_ac (j := 228) rfl (zx_I (sp_iload dL_law_647 rfl)) <|
  z_ac (j := 229) rfl (zx_I (sp_if_ne dL_law_649 rfl rfl)) <|
  z_ac (j := 230) rfl (zx_I (sp_aload_n (q := 3) dL_law_652 rfl rfl)) <|
  z_ac (j := 231) rfl (zx_I (sp_iconst dL_law_653 (by decide +kernel) rfl)) <|
  z_ac (j := 232) rfl (zx_I (sp_lald dL_law_654 rfl)) <|
  z_ac (j := 233) rfl (zx_I (sp_iload dL_law_655 rfl)) <|
  z_ac (j := 234) rfl (zx_I (sp_if_eq dL_law_657 rfl rfl)) <|
  z_ac (j := 235) rfl (zx_I (sp_lconst (n := 1) dL_law_660 (by decide +kernel) rfl)) <|
  z_ac (j := 236) rfl (zx_I (sp_goto dL_law_661 rfl)) <|
  z_ac (j := 237) rfl (zx_I (sp_lconst (n := 0) dL_law_664 (by decide +kernel) rfl)) <|
  z_ac (j := 238) rfl (zx_I (sp_lcmp dL_law_665 rfl)) <|
  z_ac (j := 239) rfl (zx_I (sp_if_eq dL_law_666 rfl rfl)) <|
  z_ac (j := 240) rfl (zx_I (sp_iconst dL_law_669 (by decide +kernel) rfl)) <|
  z_ac (j := 241) rfl (zx_R (sr_bool dL_law_670 rfl)) <|
  z_ac (j := 242) rfl (zx_I (sp_goto dL_law_671 rfl)) <|
  z_ac (j := 243) rfl (zx_I (sp_aload_n (q := 1) dL_law_674 rfl rfl)) <|
  z_ac (j := 244) rfl (zx_I (sp_aload_n (q := 0) dL_law_675 rfl rfl)) <|
  z_ac (j := 245) rfl (zx_I (sp_iload dL_law_676 rfl)) <|
  z_ac (j := 246) rfl (zx_I (sp_iconst dL_law_678 (by decide +kernel) rfl)) <|
  z_ac (j := 247) rfl (zx_I (sp_iadd dL_law_679 rfl)) <|
  z_ac (j := 248) rfl (zx_I (sp_sld dL_law_680 rfl)) <|
  z_ac (j := 249) rfl (zx_I (sp_aload_n (q := 0) dL_law_681 rfl rfl)) <|
  z_ac (j := 250) rfl (zx_I (sp_iload dL_law_682 rfl)) <|
  z_ac (j := 251) rfl (zx_I (sp_iconst dL_law_684 (by decide +kernel) rfl)) <|
  z_ac (j := 252) rfl (zx_I (sp_iadd dL_law_685 rfl)) <|
  z_ac (j := 253) rfl (zx_I (sp_sld dL_law_686 rfl)) <|
  z_ac (j := 254) rfl (zx_I (sp_aload_n (q := 3) dL_law_687 rfl rfl)) <|
  z_ac (j := 255) rfl (zx_W dL_law_688 wl_935 qL_isHut (by decide +kernel) rfl) <|
  z_ac (j := 256) rfl (zx_I (sp_istore dL_law_691 (by decide) (fun j hj => by have e : j = 4 := (by omega); subst e; rfl) rfl)) <|
  z_ac (j := 257) rfl (zx_I (sp_aload_n (q := 2) dL_law_693 rfl rfl)) <| z_an
theorem dL_law_694 : decode cL_law 694 = .ok (.aload_n 0, 1) := by decide +kernel
theorem dL_law_695 : decode cL_law 695 = .ok (.iload 4, 2) := by decide +kernel
theorem dL_law_697 : decode cL_law 697 = .ok (.iconst 1, 1) := by decide +kernel
theorem dL_law_698 : decode cL_law 698 = .ok (.iadd, 1) := by decide +kernel
theorem dL_law_699 : decode cL_law 699 = .ok (.iaload, 1) := by decide +kernel
theorem dL_law_700 : decode cL_law 700 = .ok (.aload_n 0, 1) := by decide +kernel
theorem dL_law_701 : decode cL_law 701 = .ok (.iload 4, 2) := by decide +kernel
theorem dL_law_703 : decode cL_law 703 = .ok (.iconst 2, 1) := by decide +kernel
theorem dL_law_704 : decode cL_law 704 = .ok (.iadd, 1) := by decide +kernel
theorem dL_law_705 : decode cL_law 705 = .ok (.iaload, 1) := by decide +kernel
theorem dL_law_706 : decode cL_law 706 = .ok (.invokevirtual 213, 3) := by decide +kernel
theorem dL_law_709 : decode cL_law 709 = .ok (.istore 6, 2) := by decide +kernel
theorem dL_law_711 : decode cL_law 711 = .ok (.aload_n 2, 1) := by decide +kernel
theorem dL_law_712 : decode cL_law 712 = .ok (.invokevirtual 180, 3) := by decide +kernel
theorem dL_law_715 : decode cL_law 715 = .ok (.iload 5, 2) := by decide +kernel
theorem dL_law_717 : decode cL_law 717 = .ok (.if_icmp .eq 5, 3) := by decide +kernel
theorem dL_law_720 : decode cL_law 720 = .ok (.iconst 0, 1) := by decide +kernel
theorem dL_law_721 : decode cL_law 721 = .ok (.ireturn, 1) := by decide +kernel
theorem dL_law_722 : decode cL_law 722 = .ok (.iload 5, 2) := by decide +kernel
theorem dL_law_724 : decode cL_law 724 = .ok (.ifCond .ne 22, 3) := by decide +kernel
theorem dL_law_727 : decode cL_law 727 = .ok (.aload_n 3, 1) := by decide +kernel
theorem dL_law_728 : decode cL_law 728 = .ok (.iconst 0, 1) := by decide +kernel
theorem dL_law_729 : decode cL_law 729 = .ok (.laload, 1) := by decide +kernel
theorem dL_law_730 : decode cL_law 730 = .ok (.iload 6, 2) := by decide +kernel
theorem dL_law_732 : decode cL_law 732 = .ok (.ifCond .eq 7, 3) := by decide +kernel
theorem dL_law_735 : decode cL_law 735 = .ok (.lconst 1, 1) := by decide +kernel
theorem dL_law_736 : decode cL_law 736 = .ok (.goto 4, 3) := by decide +kernel
theorem dL_law_739 : decode cL_law 739 = .ok (.lconst 0, 1) := by decide +kernel
theorem dL_law_740 : decode cL_law 740 = .ok (.lcmp, 1) := by decide +kernel
theorem dL_law_741 : decode cL_law 741 = .ok (.ifCond .eq 5, 3) := by decide +kernel
theorem dL_law_744 : decode cL_law 744 = .ok (.iconst 0, 1) := by decide +kernel
theorem dL_law_745 : decode cL_law 745 = .ok (.ireturn, 1) := by decide +kernel
theorem dL_law_746 : decode cL_law 746 = .ok (.goto 2886, 3) := by decide +kernel
theorem dL_law_749 : decode cL_law 749 = .ok (.aload_n 1, 1) := by decide +kernel
theorem dL_law_750 : decode cL_law 750 = .ok (.aload_n 0, 1) := by decide +kernel
theorem dL_law_751 : decode cL_law 751 = .ok (.iload 4, 2) := by decide +kernel
theorem dL_law_753 : decode cL_law 753 = .ok (.iconst 1, 1) := by decide +kernel
theorem dL_law_754 : decode cL_law 754 = .ok (.iadd, 1) := by decide +kernel
theorem dL_law_755 : decode cL_law 755 = .ok (.iaload, 1) := by decide +kernel
theorem dL_law_756 : decode cL_law 756 = .ok (.aload_n 0, 1) := by decide +kernel
theorem dL_law_757 : decode cL_law 757 = .ok (.iload 4, 2) := by decide +kernel
theorem dL_law_759 : decode cL_law 759 = .ok (.iconst 2, 1) := by decide +kernel
theorem dL_law_760 : decode cL_law 760 = .ok (.iadd, 1) := by decide +kernel
theorem dL_law_761 : decode cL_law 761 = .ok (.iaload, 1) := by decide +kernel
theorem dL_law_762 : decode cL_law 762 = .ok (.aload_n 3, 1) := by decide +kernel
theorem dL_law_763 : decode cL_law 763 = .ok (.invokestatic 214, 3) := by decide +kernel
theorem dL_law_766 : decode cL_law 766 = .ok (.istore 5, 2) := by decide +kernel
theorem dL_law_768 : decode cL_law 768 = .ok (.aload_n 2, 1) := by decide +kernel
theorem dL_law_769 : decode cL_law 769 = .ok (.aload_n 0, 1) := by decide +kernel
theorem dL_law_770 : decode cL_law 770 = .ok (.iload 4, 2) := by decide +kernel
theorem dL_law_772 : decode cL_law 772 = .ok (.iconst 1, 1) := by decide +kernel
theorem dL_law_773 : decode cL_law 773 = .ok (.iadd, 1) := by decide +kernel
theorem dL_law_774 : decode cL_law 774 = .ok (.iaload, 1) := by decide +kernel
theorem dL_law_775 : decode cL_law 775 = .ok (.aload_n 0, 1) := by decide +kernel
theorem dL_law_776 : decode cL_law 776 = .ok (.iload 4, 2) := by decide +kernel
theorem dL_law_778 : decode cL_law 778 = .ok (.iconst 2, 1) := by decide +kernel
theorem dL_law_779 : decode cL_law 779 = .ok (.iadd, 1) := by decide +kernel
theorem dL_law_780 : decode cL_law 780 = .ok (.iaload, 1) := by decide +kernel
theorem dL_law_781 : decode cL_law 781 = .ok (.invokevirtual 216, 3) := by decide +kernel
theorem dL_law_784 : decode cL_law 784 = .ok (.istore 6, 2) := by decide +kernel
theorem dL_law_786 : decode cL_law 786 = .ok (.aload_n 2, 1) := by decide +kernel
theorem dL_law_787 : decode cL_law 787 = .ok (.invokevirtual 180, 3) := by decide +kernel
theorem dL_law_790 : decode cL_law 790 = .ok (.iload 5, 2) := by decide +kernel
theorem dL_law_792 : decode cL_law 792 = .ok (.if_icmp .eq 5, 3) := by decide +kernel
theorem tLaw4 {LL : Nat} {xs : Nat → Int32} {N : Nat} : z_AllE (zX1 LL xs N) 257 (zLK4 LL xs N) :=
  z_ac (j := 258) rfl (zx_I (sp_aload_n (q := 0) dL_law_694 rfl rfl)) <|
  z_ac (j := 259) rfl (zx_I (sp_iload dL_law_695 rfl)) <|
  z_ac (j := 260) rfl (zx_I (sp_iconst dL_law_697 (by decide +kernel) rfl)) <|
  z_ac (j := 261) rfl (zx_I (sp_iadd dL_law_698 rfl)) <|
  z_ac (j := 262) rfl (zx_I (sp_sld dL_law_699 rfl)) <|
  z_ac (j := 263) rfl (zx_I (sp_aload_n (q := 0) dL_law_700 rfl rfl)) <|
  z_ac (j := 264) rfl (zx_I (sp_iload dL_law_701 rfl)) <|
  z_ac (j := 265) rfl (zx_I (sp_iconst dL_law_703 (by decide +kernel) rfl)) <|
  z_ac (j := 266) rfl (zx_I (sp_iadd dL_law_704 rfl)) <|
  z_ac (j := 267) rfl (zx_I (sp_sld dL_law_705 rfl)) <|
  z_ac (j := 268) rfl (zx_V dL_law_706 wl_1558 qX9_isHut (by decide +kernel) ⟨_, _, rfl⟩ rfl) <|
  z_ac (j := 269) rfl (zx_I (sp_istoreK dL_law_709 (by decide) (by decide) rfl)) <|
  z_ac (j := 270) rfl (zx_I (sp_aload_n (q := 2) dL_law_711 rfl rfl)) <|
  z_ac (j := 271) rfl (zx_V dL_law_712 wl_1416 qX9_thrown (by decide +kernel) ⟨_, _, rfl⟩ rfl) <|
  z_ac (j := 272) rfl (zx_I (sp_iload dL_law_715 rfl)) <|
  z_ac (j := 273) rfl (zx_I (sp_icmp_eq dL_law_717 rfl rfl)) <|
  z_ac (j := 274) rfl (zx_I (sp_iconst dL_law_720 (by decide +kernel) rfl)) <|
  z_ac (j := 275) rfl (zx_R (sr_bool dL_law_721 rfl)) <|
  z_ac (j := 276) rfl (zx_I (sp_iload dL_law_722 rfl)) <|
  z_ac (j := 277) rfl (zx_I (sp_if_ne dL_law_724 rfl rfl)) <|
  z_ac (j := 278) rfl (zx_I (sp_aload_n (q := 3) dL_law_727 rfl rfl)) <|
  z_ac (j := 279) rfl (zx_I (sp_iconst dL_law_728 (by decide +kernel) rfl)) <|
  z_ac (j := 280) rfl (zx_I (sp_lald dL_law_729 rfl)) <|
  z_ac (j := 281) rfl (zx_I (sp_iload dL_law_730 rfl)) <|
  z_ac (j := 282) rfl (zx_I (sp_if_eq dL_law_732 rfl rfl)) <|
  z_ac (j := 283) rfl (zx_I (sp_lconst (n := 1) dL_law_735 (by decide +kernel) rfl)) <|
  z_ac (j := 284) rfl (zx_I (sp_goto dL_law_736 rfl)) <|
  z_ac (j := 285) rfl (zx_I (sp_lconst (n := 0) dL_law_739 (by decide +kernel) rfl)) <|
  z_ac (j := 286) rfl (zx_I (sp_lcmp dL_law_740 rfl)) <|
  z_ac (j := 287) rfl (zx_I (sp_if_eq dL_law_741 rfl rfl)) <|
  z_ac (j := 288) rfl (zx_I (sp_iconst dL_law_744 (by decide +kernel) rfl)) <|
  z_ac (j := 289) rfl (zx_R (sr_bool dL_law_745 rfl)) <|
  z_ac (j := 290) rfl (zx_I (sp_goto dL_law_746 rfl)) <|
  z_ac (j := 291) rfl (zx_I (sp_aload_n (q := 1) dL_law_749 rfl rfl)) <|
  z_ac (j := 292) rfl (zx_I (sp_aload_n (q := 0) dL_law_750 rfl rfl)) <|
  z_ac (j := 293) rfl (zx_I (sp_iload dL_law_751 rfl)) <|
  z_ac (j := 294) rfl (zx_I (sp_iconst dL_law_753 (by decide +kernel) rfl)) <|
  z_ac (j := 295) rfl (zx_I (sp_iadd dL_law_754 rfl)) <|
  z_ac (j := 296) rfl (zx_I (sp_sld dL_law_755 rfl)) <|
  z_ac (j := 297) rfl (zx_I (sp_aload_n (q := 0) dL_law_756 rfl rfl)) <|
  z_ac (j := 298) rfl (zx_I (sp_iload dL_law_757 rfl)) <|
  z_ac (j := 299) rfl (zx_I (sp_iconst dL_law_759 (by decide +kernel) rfl)) <|
  z_ac (j := 300) rfl (zx_I (sp_iadd dL_law_760 rfl)) <|
  z_ac (j := 301) rfl (zx_I (sp_sld dL_law_761 rfl)) <|
  z_ac (j := 302) rfl (zx_I (sp_aload_n (q := 3) dL_law_762 rfl rfl)) <|
  z_ac (j := 303) rfl (zx_W dL_law_763 wl_942 qL_isPlank (by decide +kernel) rfl) <|
  z_ac (j := 304) rfl (zx_I (sp_istore dL_law_766 (by decide) (fun j hj => by have e : j = 4 := (by omega); subst e; rfl) rfl)) <|
  z_ac (j := 305) rfl (zx_I (sp_aload_n (q := 2) dL_law_768 rfl rfl)) <|
  z_ac (j := 306) rfl (zx_I (sp_aload_n (q := 0) dL_law_769 rfl rfl)) <|
  z_ac (j := 307) rfl (zx_I (sp_iload dL_law_770 rfl)) <|
  z_ac (j := 308) rfl (zx_I (sp_iconst dL_law_772 (by decide +kernel) rfl)) <|
  z_ac (j := 309) rfl (zx_I (sp_iadd dL_law_773 rfl)) <|
  z_ac (j := 310) rfl (zx_I (sp_sld dL_law_774 rfl)) <|
  z_ac (j := 311) rfl (zx_I (sp_aload_n (q := 0) dL_law_775 rfl rfl)) <|
  z_ac (j := 312) rfl (zx_I (sp_iload dL_law_776 rfl)) <|
  z_ac (j := 313) rfl (zx_I (sp_iconst dL_law_778 (by decide +kernel) rfl)) <|
  z_ac (j := 314) rfl (zx_I (sp_iadd dL_law_779 rfl)) <|
  z_ac (j := 315) rfl (zx_I (sp_sld dL_law_780 rfl)) <|
  z_ac (j := 316) rfl (zx_V dL_law_781 wl_1562 qX9_isPlank (by decide +kernel) ⟨_, _, rfl⟩ rfl) <|
  z_ac (j := 317) rfl (zx_I (sp_istoreK dL_law_784 (by decide) (by decide) rfl)) <|
  z_ac (j := 318) rfl (zx_I (sp_aload_n (q := 2) dL_law_786 rfl rfl)) <|
  z_ac (j := 319) rfl (zx_V dL_law_787 wl_1416 qX9_thrown (by decide +kernel) ⟨_, _, rfl⟩ rfl) <|
  z_ac (j := 320) rfl (zx_I (sp_iload dL_law_790 rfl)) <|
  z_ac (j := 321) rfl (zx_I (sp_icmp_eq dL_law_792 rfl rfl)) <| z_an
theorem dL_law_795 : decode cL_law 795 = .ok (.iconst 0, 1) := by decide +kernel
theorem dL_law_796 : decode cL_law 796 = .ok (.ireturn, 1) := by decide +kernel
theorem dL_law_797 : decode cL_law 797 = .ok (.iload 5, 2) := by decide +kernel
theorem dL_law_799 : decode cL_law 799 = .ok (.ifCond .ne 22, 3) := by decide +kernel
theorem dL_law_802 : decode cL_law 802 = .ok (.aload_n 3, 1) := by decide +kernel
theorem dL_law_803 : decode cL_law 803 = .ok (.iconst 0, 1) := by decide +kernel
theorem dL_law_804 : decode cL_law 804 = .ok (.laload, 1) := by decide +kernel
theorem dL_law_805 : decode cL_law 805 = .ok (.iload 6, 2) := by decide +kernel
theorem dL_law_807 : decode cL_law 807 = .ok (.ifCond .eq 7, 3) := by decide +kernel
theorem dL_law_810 : decode cL_law 810 = .ok (.lconst 1, 1) := by decide +kernel
theorem dL_law_811 : decode cL_law 811 = .ok (.goto 4, 3) := by decide +kernel
theorem dL_law_814 : decode cL_law 814 = .ok (.lconst 0, 1) := by decide +kernel
theorem dL_law_815 : decode cL_law 815 = .ok (.lcmp, 1) := by decide +kernel
theorem dL_law_816 : decode cL_law 816 = .ok (.ifCond .eq 5, 3) := by decide +kernel
theorem dL_law_819 : decode cL_law 819 = .ok (.iconst 0, 1) := by decide +kernel
theorem dL_law_820 : decode cL_law 820 = .ok (.ireturn, 1) := by decide +kernel
theorem dL_law_821 : decode cL_law 821 = .ok (.goto 2811, 3) := by decide +kernel
theorem dL_law_824 : decode cL_law 824 = .ok (.aload_n 1, 1) := by decide +kernel
theorem dL_law_825 : decode cL_law 825 = .ok (.aload_n 0, 1) := by decide +kernel
theorem dL_law_826 : decode cL_law 826 = .ok (.iload 4, 2) := by decide +kernel
theorem dL_law_828 : decode cL_law 828 = .ok (.iconst 1, 1) := by decide +kernel
theorem dL_law_829 : decode cL_law 829 = .ok (.iadd, 1) := by decide +kernel
theorem dL_law_830 : decode cL_law 830 = .ok (.iaload, 1) := by decide +kernel
theorem dL_law_831 : decode cL_law 831 = .ok (.aload_n 0, 1) := by decide +kernel
theorem dL_law_832 : decode cL_law 832 = .ok (.iload 4, 2) := by decide +kernel
theorem dL_law_834 : decode cL_law 834 = .ok (.iconst 2, 1) := by decide +kernel
theorem dL_law_835 : decode cL_law 835 = .ok (.iadd, 1) := by decide +kernel
theorem dL_law_836 : decode cL_law 836 = .ok (.iaload, 1) := by decide +kernel
theorem dL_law_837 : decode cL_law 837 = .ok (.aload_n 3, 1) := by decide +kernel
theorem dL_law_838 : decode cL_law 838 = .ok (.invokestatic 217, 3) := by decide +kernel
theorem dL_law_841 : decode cL_law 841 = .ok (.istore 5, 2) := by decide +kernel
theorem dL_law_843 : decode cL_law 843 = .ok (.aload_n 2, 1) := by decide +kernel
theorem dL_law_844 : decode cL_law 844 = .ok (.aload_n 0, 1) := by decide +kernel
theorem dL_law_845 : decode cL_law 845 = .ok (.iload 4, 2) := by decide +kernel
theorem dL_law_847 : decode cL_law 847 = .ok (.iconst 1, 1) := by decide +kernel
theorem dL_law_848 : decode cL_law 848 = .ok (.iadd, 1) := by decide +kernel
theorem dL_law_849 : decode cL_law 849 = .ok (.iaload, 1) := by decide +kernel
theorem dL_law_850 : decode cL_law 850 = .ok (.aload_n 0, 1) := by decide +kernel
theorem dL_law_851 : decode cL_law 851 = .ok (.iload 4, 2) := by decide +kernel
theorem dL_law_853 : decode cL_law 853 = .ok (.iconst 2, 1) := by decide +kernel
theorem dL_law_854 : decode cL_law 854 = .ok (.iadd, 1) := by decide +kernel
theorem dL_law_855 : decode cL_law 855 = .ok (.iaload, 1) := by decide +kernel
theorem dL_law_856 : decode cL_law 856 = .ok (.invokevirtual 219, 3) := by decide +kernel
theorem dL_law_859 : decode cL_law 859 = .ok (.istore 6, 2) := by decide +kernel
theorem dL_law_861 : decode cL_law 861 = .ok (.aload_n 2, 1) := by decide +kernel
theorem dL_law_862 : decode cL_law 862 = .ok (.invokevirtual 180, 3) := by decide +kernel
theorem dL_law_865 : decode cL_law 865 = .ok (.iload 5, 2) := by decide +kernel
theorem dL_law_867 : decode cL_law 867 = .ok (.if_icmp .eq 5, 3) := by decide +kernel
theorem dL_law_870 : decode cL_law 870 = .ok (.iconst 0, 1) := by decide +kernel
theorem dL_law_871 : decode cL_law 871 = .ok (.ireturn, 1) := by decide +kernel
theorem dL_law_872 : decode cL_law 872 = .ok (.iload 5, 2) := by decide +kernel
theorem dL_law_874 : decode cL_law 874 = .ok (.ifCond .ne 15, 3) := by decide +kernel
theorem dL_law_877 : decode cL_law 877 = .ok (.aload_n 3, 1) := by decide +kernel
theorem dL_law_878 : decode cL_law 878 = .ok (.iconst 0, 1) := by decide +kernel
theorem dL_law_879 : decode cL_law 879 = .ok (.laload, 1) := by decide +kernel
theorem dL_law_880 : decode cL_law 880 = .ok (.iload 6, 2) := by decide +kernel
theorem dL_law_882 : decode cL_law 882 = .ok (.i2l, 1) := by decide +kernel
theorem dL_law_883 : decode cL_law 883 = .ok (.lcmp, 1) := by decide +kernel
theorem dL_law_884 : decode cL_law 884 = .ok (.ifCond .eq 5, 3) := by decide +kernel
theorem dL_law_887 : decode cL_law 887 = .ok (.iconst 0, 1) := by decide +kernel
theorem dL_law_888 : decode cL_law 888 = .ok (.ireturn, 1) := by decide +kernel
theorem dL_law_889 : decode cL_law 889 = .ok (.goto 2743, 3) := by decide +kernel
theorem dL_law_892 : decode cL_law 892 = .ok (.aload_n 1, 1) := by decide +kernel
theorem dL_law_893 : decode cL_law 893 = .ok (.invokevirtual 220, 3) := by decide +kernel
theorem tLaw5 {LL : Nat} {xs : Nat → Int32} {N : Nat} : z_AllE (zX1 LL xs N) 321 (zLK5 LL xs N) :=
  z_ac (j := 322) rfl (zx_I (sp_iconst dL_law_795 (by decide +kernel) rfl)) <|
  z_ac (j := 323) rfl (zx_R (sr_bool dL_law_796 rfl)) <|
  z_ac (j := 324) rfl (zx_I (sp_iload dL_law_797 rfl)) <|
  z_ac (j := 325) rfl (zx_I (sp_if_ne dL_law_799 rfl rfl)) <|
  z_ac (j := 326) rfl (zx_I (sp_aload_n (q := 3) dL_law_802 rfl rfl)) <|
  z_ac (j := 327) rfl (zx_I (sp_iconst dL_law_803 (by decide +kernel) rfl)) <|
  z_ac (j := 328) rfl (zx_I (sp_lald dL_law_804 rfl)) <|
  z_ac (j := 329) rfl (zx_I (sp_iload dL_law_805 rfl)) <|
  z_ac (j := 330) rfl (zx_I (sp_if_eq dL_law_807 rfl rfl)) <|
  z_ac (j := 331) rfl (zx_I (sp_lconst (n := 1) dL_law_810 (by decide +kernel) rfl)) <|
  z_ac (j := 332) rfl (zx_I (sp_goto dL_law_811 rfl)) <|
  z_ac (j := 333) rfl (zx_I (sp_lconst (n := 0) dL_law_814 (by decide +kernel) rfl)) <|
  z_ac (j := 334) rfl (zx_I (sp_lcmp dL_law_815 rfl)) <|
  z_ac (j := 335) rfl (zx_I (sp_if_eq dL_law_816 rfl rfl)) <|
  z_ac (j := 336) rfl (zx_I (sp_iconst dL_law_819 (by decide +kernel) rfl)) <|
  z_ac (j := 337) rfl (zx_R (sr_bool dL_law_820 rfl)) <|
  z_ac (j := 338) rfl (zx_I (sp_goto dL_law_821 rfl)) <|
  z_ac (j := 339) rfl (zx_I (sp_aload_n (q := 1) dL_law_824 rfl rfl)) <|
  z_ac (j := 340) rfl (zx_I (sp_aload_n (q := 0) dL_law_825 rfl rfl)) <|
  z_ac (j := 341) rfl (zx_I (sp_iload dL_law_826 rfl)) <|
  z_ac (j := 342) rfl (zx_I (sp_iconst dL_law_828 (by decide +kernel) rfl)) <|
  z_ac (j := 343) rfl (zx_I (sp_iadd dL_law_829 rfl)) <|
  z_ac (j := 344) rfl (zx_I (sp_sld dL_law_830 rfl)) <|
  z_ac (j := 345) rfl (zx_I (sp_aload_n (q := 0) dL_law_831 rfl rfl)) <|
  z_ac (j := 346) rfl (zx_I (sp_iload dL_law_832 rfl)) <|
  z_ac (j := 347) rfl (zx_I (sp_iconst dL_law_834 (by decide +kernel) rfl)) <|
  z_ac (j := 348) rfl (zx_I (sp_iadd dL_law_835 rfl)) <|
  z_ac (j := 349) rfl (zx_I (sp_sld dL_law_836 rfl)) <|
  z_ac (j := 350) rfl (zx_I (sp_aload_n (q := 3) dL_law_837 rfl rfl)) <|
  z_ac (j := 351) rfl (zx_W dL_law_838 wl_950 qL_plankStrength (by decide +kernel) rfl) <|
  z_ac (j := 352) rfl (zx_I (sp_istore dL_law_841 (by decide) (fun j hj => by have e : j = 4 := (by omega); subst e; rfl) rfl)) <|
  z_ac (j := 353) rfl (zx_I (sp_aload_n (q := 2) dL_law_843 rfl rfl)) <|
  z_ac (j := 354) rfl (zx_I (sp_aload_n (q := 0) dL_law_844 rfl rfl)) <|
  z_ac (j := 355) rfl (zx_I (sp_iload dL_law_845 rfl)) <|
  z_ac (j := 356) rfl (zx_I (sp_iconst dL_law_847 (by decide +kernel) rfl)) <|
  z_ac (j := 357) rfl (zx_I (sp_iadd dL_law_848 rfl)) <|
  z_ac (j := 358) rfl (zx_I (sp_sld dL_law_849 rfl)) <|
  z_ac (j := 359) rfl (zx_I (sp_aload_n (q := 0) dL_law_850 rfl rfl)) <|
  z_ac (j := 360) rfl (zx_I (sp_iload dL_law_851 rfl)) <|
  z_ac (j := 361) rfl (zx_I (sp_iconst dL_law_853 (by decide +kernel) rfl)) <|
  z_ac (j := 362) rfl (zx_I (sp_iadd dL_law_854 rfl)) <|
  z_ac (j := 363) rfl (zx_I (sp_sld dL_law_855 rfl)) <|
  z_ac (j := 364) rfl (zx_V dL_law_856 wl_1566 qX9_plankStrength (by decide +kernel) ⟨_, _, rfl⟩ rfl) <|
  z_ac (j := 365) rfl (zx_I (sp_istoreK dL_law_859 (by decide) (by decide) rfl)) <|
  z_ac (j := 366) rfl (zx_I (sp_aload_n (q := 2) dL_law_861 rfl rfl)) <|
  z_ac (j := 367) rfl (zx_V dL_law_862 wl_1416 qX9_thrown (by decide +kernel) ⟨_, _, rfl⟩ rfl) <|
  z_ac (j := 368) rfl (zx_I (sp_iload dL_law_865 rfl)) <|
  z_ac (j := 369) rfl (zx_I (sp_icmp_eq dL_law_867 rfl rfl)) <|
  z_ac (j := 370) rfl (zx_I (sp_iconst dL_law_870 (by decide +kernel) rfl)) <|
  z_ac (j := 371) rfl (zx_R (sr_bool dL_law_871 rfl)) <|
  z_ac (j := 372) rfl (zx_I (sp_iload dL_law_872 rfl)) <|
  z_ac (j := 373) rfl (zx_I (sp_if_ne dL_law_874 rfl rfl)) <|
  z_ac (j := 374) rfl (zx_I (sp_aload_n (q := 3) dL_law_877 rfl rfl)) <|
  z_ac (j := 375) rfl (zx_I (sp_iconst dL_law_878 (by decide +kernel) rfl)) <|
  z_ac (j := 376) rfl (zx_I (sp_lald dL_law_879 rfl)) <|
  z_ac (j := 377) rfl (zx_I (sp_iload dL_law_880 rfl)) <|
  z_ac (j := 378) rfl (zx_I (sp_i2l dL_law_882 rfl)) <|
  z_ac (j := 379) rfl (zx_I (sp_lcmp dL_law_883 rfl)) <|
  z_ac (j := 380) rfl (zx_I (sp_if_eq dL_law_884 rfl rfl)) <|
  z_ac (j := 381) rfl (zx_I (sp_iconst dL_law_887 (by decide +kernel) rfl)) <|
  z_ac (j := 382) rfl (zx_R (sr_bool dL_law_888 rfl)) <|
  z_ac (j := 383) rfl (zx_I (sp_goto dL_law_889 rfl)) <|
  z_ac (j := 384) rfl (zx_I (sp_aload_n (q := 1) dL_law_892 rfl rfl)) <|
  z_ac (j := 385) rfl (zx_V dL_law_893 wl_554 qX8_plankCount (by decide +kernel) ⟨_, _, rfl⟩ rfl) <| z_an
theorem dL_law_896 : decode cL_law 896 = .ok (.aload_n 2, 1) := by decide +kernel
theorem dL_law_897 : decode cL_law 897 = .ok (.invokevirtual 223, 3) := by decide +kernel
theorem dL_law_900 : decode cL_law 900 = .ok (.if_icmp .eq 2732, 3) := by decide +kernel
theorem dL_law_903 : decode cL_law 903 = .ok (.iconst 0, 1) := by decide +kernel
theorem dL_law_904 : decode cL_law 904 = .ok (.ireturn, 1) := by decide +kernel
theorem dL_law_905 : decode cL_law 905 = .ok (.aload_n 1, 1) := by decide +kernel
theorem dL_law_906 : decode cL_law 906 = .ok (.aload_n 0, 1) := by decide +kernel
theorem dL_law_907 : decode cL_law 907 = .ok (.iload 4, 2) := by decide +kernel
theorem dL_law_909 : decode cL_law 909 = .ok (.iconst 1, 1) := by decide +kernel
theorem dL_law_910 : decode cL_law 910 = .ok (.iadd, 1) := by decide +kernel
theorem dL_law_911 : decode cL_law 911 = .ok (.iaload, 1) := by decide +kernel
theorem dL_law_912 : decode cL_law 912 = .ok (.aload_n 0, 1) := by decide +kernel
theorem dL_law_913 : decode cL_law 913 = .ok (.iload 4, 2) := by decide +kernel
theorem dL_law_915 : decode cL_law 915 = .ok (.iconst 2, 1) := by decide +kernel
theorem dL_law_916 : decode cL_law 916 = .ok (.iadd, 1) := by decide +kernel
theorem dL_law_917 : decode cL_law 917 = .ok (.iaload, 1) := by decide +kernel
theorem dL_law_918 : decode cL_law 918 = .ok (.aload_n 0, 1) := by decide +kernel
theorem dL_law_919 : decode cL_law 919 = .ok (.iload 4, 2) := by decide +kernel
theorem dL_law_921 : decode cL_law 921 = .ok (.iconst 3, 1) := by decide +kernel
theorem dL_law_922 : decode cL_law 922 = .ok (.iadd, 1) := by decide +kernel
theorem dL_law_923 : decode cL_law 923 = .ok (.iaload, 1) := by decide +kernel
theorem dL_law_924 : decode cL_law 924 = .ok (.aload_n 0, 1) := by decide +kernel
theorem dL_law_925 : decode cL_law 925 = .ok (.iload 4, 2) := by decide +kernel
theorem dL_law_927 : decode cL_law 927 = .ok (.iconst 4, 1) := by decide +kernel
theorem dL_law_928 : decode cL_law 928 = .ok (.iadd, 1) := by decide +kernel
theorem dL_law_929 : decode cL_law 929 = .ok (.iaload, 1) := by decide +kernel
theorem dL_law_930 : decode cL_law 930 = .ok (.aload_n 3, 1) := by decide +kernel
theorem dL_law_931 : decode cL_law 931 = .ok (.invokestatic 224, 3) := by decide +kernel
theorem dL_law_934 : decode cL_law 934 = .ok (.istore 5, 2) := by decide +kernel
theorem dL_law_936 : decode cL_law 936 = .ok (.aload_n 2, 1) := by decide +kernel
theorem dL_law_937 : decode cL_law 937 = .ok (.aload_n 0, 1) := by decide +kernel
theorem dL_law_938 : decode cL_law 938 = .ok (.iload 4, 2) := by decide +kernel
theorem dL_law_940 : decode cL_law 940 = .ok (.iconst 1, 1) := by decide +kernel
theorem dL_law_941 : decode cL_law 941 = .ok (.iadd, 1) := by decide +kernel
theorem dL_law_942 : decode cL_law 942 = .ok (.iaload, 1) := by decide +kernel
theorem dL_law_943 : decode cL_law 943 = .ok (.aload_n 0, 1) := by decide +kernel
theorem dL_law_944 : decode cL_law 944 = .ok (.iload 4, 2) := by decide +kernel
theorem dL_law_946 : decode cL_law 946 = .ok (.iconst 2, 1) := by decide +kernel
theorem dL_law_947 : decode cL_law 947 = .ok (.iadd, 1) := by decide +kernel
theorem dL_law_948 : decode cL_law 948 = .ok (.iaload, 1) := by decide +kernel
theorem dL_law_949 : decode cL_law 949 = .ok (.aload_n 0, 1) := by decide +kernel
theorem dL_law_950 : decode cL_law 950 = .ok (.iload 4, 2) := by decide +kernel
theorem dL_law_952 : decode cL_law 952 = .ok (.iconst 3, 1) := by decide +kernel
theorem dL_law_953 : decode cL_law 953 = .ok (.iadd, 1) := by decide +kernel
theorem dL_law_954 : decode cL_law 954 = .ok (.iaload, 1) := by decide +kernel
theorem dL_law_955 : decode cL_law 955 = .ok (.aload_n 0, 1) := by decide +kernel
theorem dL_law_956 : decode cL_law 956 = .ok (.iload 4, 2) := by decide +kernel
theorem dL_law_958 : decode cL_law 958 = .ok (.iconst 4, 1) := by decide +kernel
theorem dL_law_959 : decode cL_law 959 = .ok (.iadd, 1) := by decide +kernel
theorem dL_law_960 : decode cL_law 960 = .ok (.iaload, 1) := by decide +kernel
theorem dL_law_961 : decode cL_law 961 = .ok (.invokevirtual 227, 3) := by decide +kernel
theorem dL_law_964 : decode cL_law 964 = .ok (.istore 6, 2) := by decide +kernel
theorem dL_law_966 : decode cL_law 966 = .ok (.aload_n 2, 1) := by decide +kernel
theorem dL_law_967 : decode cL_law 967 = .ok (.invokevirtual 180, 3) := by decide +kernel
theorem dL_law_970 : decode cL_law 970 = .ok (.iload 5, 2) := by decide +kernel
theorem dL_law_972 : decode cL_law 972 = .ok (.if_icmp .eq 5, 3) := by decide +kernel
theorem dL_law_975 : decode cL_law 975 = .ok (.iconst 0, 1) := by decide +kernel
theorem dL_law_976 : decode cL_law 976 = .ok (.ireturn, 1) := by decide +kernel
theorem dL_law_977 : decode cL_law 977 = .ok (.iload 5, 2) := by decide +kernel
theorem dL_law_979 : decode cL_law 979 = .ok (.ifCond .ne 15, 3) := by decide +kernel
theorem dL_law_982 : decode cL_law 982 = .ok (.aload_n 3, 1) := by decide +kernel
theorem dL_law_983 : decode cL_law 983 = .ok (.iconst 0, 1) := by decide +kernel
theorem dL_law_984 : decode cL_law 984 = .ok (.laload, 1) := by decide +kernel
theorem dL_law_985 : decode cL_law 985 = .ok (.iload 6, 2) := by decide +kernel
theorem tLaw6 {LL : Nat} {xs : Nat → Int32} {N : Nat} : z_AllE (zX1 LL xs N) 385 (zLK6 LL xs N) :=
  z_ac (j := 386) rfl (zx_I (sp_aload_n (q := 2) dL_law_896 rfl rfl)) <|
  z_ac (j := 387) rfl (zx_V dL_law_897 wl_1570 qX9_plankCount (by decide +kernel) ⟨_, _, rfl⟩ rfl) <|
  z_ac (j := 388) rfl (zx_I (sp_icmp_eq dL_law_900 rfl rfl)) <|
  z_ac (j := 389) rfl (zx_I (sp_iconst dL_law_903 (by decide +kernel) rfl)) <|
  z_ac (j := 390) rfl (zx_R (sr_bool dL_law_904 rfl)) <|
  z_ac (j := 391) rfl (zx_I (sp_aload_n (q := 1) dL_law_905 rfl rfl)) <|
  z_ac (j := 392) rfl (zx_I (sp_aload_n (q := 0) dL_law_906 rfl rfl)) <|
  z_ac (j := 393) rfl (zx_I (sp_iload dL_law_907 rfl)) <|
  z_ac (j := 394) rfl (zx_I (sp_iconst dL_law_909 (by decide +kernel) rfl)) <|
  z_ac (j := 395) rfl (zx_I (sp_iadd dL_law_910 rfl)) <|
  z_ac (j := 396) rfl (zx_I (sp_sld dL_law_911 rfl)) <|
  z_ac (j := 397) rfl (zx_I (sp_aload_n (q := 0) dL_law_912 rfl rfl)) <|
  z_ac (j := 398) rfl (zx_I (sp_iload dL_law_913 rfl)) <|
  z_ac (j := 399) rfl (zx_I (sp_iconst dL_law_915 (by decide +kernel) rfl)) <|
  z_ac (j := 400) rfl (zx_I (sp_iadd dL_law_916 rfl)) <|
  z_ac (j := 401) rfl (zx_I (sp_sld dL_law_917 rfl)) <|
  z_ac (j := 402) rfl (zx_I (sp_aload_n (q := 0) dL_law_918 rfl rfl)) <|
  z_ac (j := 403) rfl (zx_I (sp_iload dL_law_919 rfl)) <|
  z_ac (j := 404) rfl (zx_I (sp_iconst dL_law_921 (by decide +kernel) rfl)) <|
  z_ac (j := 405) rfl (zx_I (sp_iadd dL_law_922 rfl)) <|
  z_ac (j := 406) rfl (zx_I (sp_sld dL_law_923 rfl)) <|
  z_ac (j := 407) rfl (zx_I (sp_aload_n (q := 0) dL_law_924 rfl rfl)) <|
  z_ac (j := 408) rfl (zx_I (sp_iload dL_law_925 rfl)) <|
  z_ac (j := 409) rfl (zx_I (sp_iconst dL_law_927 (by decide +kernel) rfl)) <|
  z_ac (j := 410) rfl (zx_I (sp_iadd dL_law_928 rfl)) <|
  z_ac (j := 411) rfl (zx_I (sp_sld dL_law_929 rfl)) <|
  z_ac (j := 412) rfl (zx_I (sp_aload_n (q := 3) dL_law_930 rfl rfl)) <|
  z_ac (j := 413) rfl (zx_W dL_law_931 wl_958 qL_pathLength (by decide +kernel) rfl) <|
  z_ac (j := 414) rfl (zx_I (sp_istore dL_law_934 (by decide) (fun j hj => by have e : j = 4 := (by omega); subst e; rfl) rfl)) <|
  z_ac (j := 415) rfl (zx_I (sp_aload_n (q := 2) dL_law_936 rfl rfl)) <|
  z_ac (j := 416) rfl (zx_I (sp_aload_n (q := 0) dL_law_937 rfl rfl)) <|
  z_ac (j := 417) rfl (zx_I (sp_iload dL_law_938 rfl)) <|
  z_ac (j := 418) rfl (zx_I (sp_iconst dL_law_940 (by decide +kernel) rfl)) <|
  z_ac (j := 419) rfl (zx_I (sp_iadd dL_law_941 rfl)) <|
  z_ac (j := 420) rfl (zx_I (sp_sld dL_law_942 rfl)) <|
  z_ac (j := 421) rfl (zx_I (sp_aload_n (q := 0) dL_law_943 rfl rfl)) <|
  z_ac (j := 422) rfl (zx_I (sp_iload dL_law_944 rfl)) <|
  z_ac (j := 423) rfl (zx_I (sp_iconst dL_law_946 (by decide +kernel) rfl)) <|
  z_ac (j := 424) rfl (zx_I (sp_iadd dL_law_947 rfl)) <|
  z_ac (j := 425) rfl (zx_I (sp_sld dL_law_948 rfl)) <|
  z_ac (j := 426) rfl (zx_I (sp_aload_n (q := 0) dL_law_949 rfl rfl)) <|
  z_ac (j := 427) rfl (zx_I (sp_iload dL_law_950 rfl)) <|
  z_ac (j := 428) rfl (zx_I (sp_iconst dL_law_952 (by decide +kernel) rfl)) <|
  z_ac (j := 429) rfl (zx_I (sp_iadd dL_law_953 rfl)) <|
  z_ac (j := 430) rfl (zx_I (sp_sld dL_law_954 rfl)) <|
  z_ac (j := 431) rfl (zx_I (sp_aload_n (q := 0) dL_law_955 rfl rfl)) <|
  z_ac (j := 432) rfl (zx_I (sp_iload dL_law_956 rfl)) <|
  z_ac (j := 433) rfl (zx_I (sp_iconst dL_law_958 (by decide +kernel) rfl)) <|
  z_ac (j := 434) rfl (zx_I (sp_iadd dL_law_959 rfl)) <|
  z_ac (j := 435) rfl (zx_I (sp_sld dL_law_960 rfl)) <|
  z_ac (j := 436) rfl (zx_V dL_law_961 wl_1578 qX9_pathLength (by decide +kernel) ⟨_, _, rfl⟩ rfl) <|
  z_ac (j := 437) rfl (zx_I (sp_istoreK dL_law_964 (by decide) (by decide) rfl)) <|
  z_ac (j := 438) rfl (zx_I (sp_aload_n (q := 2) dL_law_966 rfl rfl)) <|
  z_ac (j := 439) rfl (zx_V dL_law_967 wl_1416 qX9_thrown (by decide +kernel) ⟨_, _, rfl⟩ rfl) <|
  z_ac (j := 440) rfl (zx_I (sp_iload dL_law_970 rfl)) <|
  z_ac (j := 441) rfl (zx_I (sp_icmp_eq dL_law_972 rfl rfl)) <|
  z_ac (j := 442) rfl (zx_I (sp_iconst dL_law_975 (by decide +kernel) rfl)) <|
  z_ac (j := 443) rfl (zx_R (sr_bool dL_law_976 rfl)) <|
  z_ac (j := 444) rfl (zx_I (sp_iload dL_law_977 rfl)) <|
  z_ac (j := 445) rfl (zx_I (sp_if_ne dL_law_979 rfl rfl)) <|
  z_ac (j := 446) rfl (zx_I (sp_aload_n (q := 3) dL_law_982 rfl rfl)) <|
  z_ac (j := 447) rfl (zx_I (sp_iconst dL_law_983 (by decide +kernel) rfl)) <|
  z_ac (j := 448) rfl (zx_I (sp_lald dL_law_984 rfl)) <|
  z_ac (j := 449) rfl (zx_I (sp_iload dL_law_985 rfl)) <| z_an
theorem dL_law_987 : decode cL_law 987 = .ok (.i2l, 1) := by decide +kernel
theorem dL_law_988 : decode cL_law 988 = .ok (.lcmp, 1) := by decide +kernel
theorem dL_law_989 : decode cL_law 989 = .ok (.ifCond .eq 5, 3) := by decide +kernel
theorem dL_law_992 : decode cL_law 992 = .ok (.iconst 0, 1) := by decide +kernel
theorem dL_law_993 : decode cL_law 993 = .ok (.ireturn, 1) := by decide +kernel
theorem dL_law_994 : decode cL_law 994 = .ok (.goto 2638, 3) := by decide +kernel
theorem dL_law_997 : decode cL_law 997 = .ok (.aload_n 1, 1) := by decide +kernel
theorem dL_law_998 : decode cL_law 998 = .ok (.aload_n 0, 1) := by decide +kernel
theorem dL_law_999 : decode cL_law 999 = .ok (.iload 4, 2) := by decide +kernel
theorem dL_law_1001 : decode cL_law 1001 = .ok (.iconst 1, 1) := by decide +kernel
theorem dL_law_1002 : decode cL_law 1002 = .ok (.iadd, 1) := by decide +kernel
theorem dL_law_1003 : decode cL_law 1003 = .ok (.iaload, 1) := by decide +kernel
theorem dL_law_1004 : decode cL_law 1004 = .ok (.aload_n 0, 1) := by decide +kernel
theorem dL_law_1005 : decode cL_law 1005 = .ok (.iload 4, 2) := by decide +kernel
theorem dL_law_1007 : decode cL_law 1007 = .ok (.iconst 2, 1) := by decide +kernel
theorem dL_law_1008 : decode cL_law 1008 = .ok (.iadd, 1) := by decide +kernel
theorem dL_law_1009 : decode cL_law 1009 = .ok (.iaload, 1) := by decide +kernel
theorem dL_law_1010 : decode cL_law 1010 = .ok (.aload_n 3, 1) := by decide +kernel
theorem dL_law_1011 : decode cL_law 1011 = .ok (.invokestatic 228, 3) := by decide +kernel
theorem dL_law_1014 : decode cL_law 1014 = .ok (.istore 5, 2) := by decide +kernel
theorem dL_law_1016 : decode cL_law 1016 = .ok (.aload_n 2, 1) := by decide +kernel
theorem dL_law_1017 : decode cL_law 1017 = .ok (.aload_n 0, 1) := by decide +kernel
theorem dL_law_1018 : decode cL_law 1018 = .ok (.iload 4, 2) := by decide +kernel
theorem dL_law_1020 : decode cL_law 1020 = .ok (.iconst 1, 1) := by decide +kernel
theorem dL_law_1021 : decode cL_law 1021 = .ok (.iadd, 1) := by decide +kernel
theorem dL_law_1022 : decode cL_law 1022 = .ok (.iaload, 1) := by decide +kernel
theorem dL_law_1023 : decode cL_law 1023 = .ok (.aload_n 0, 1) := by decide +kernel
theorem dL_law_1024 : decode cL_law 1024 = .ok (.iload 4, 2) := by decide +kernel
theorem dL_law_1026 : decode cL_law 1026 = .ok (.iconst 2, 1) := by decide +kernel
theorem dL_law_1027 : decode cL_law 1027 = .ok (.iadd, 1) := by decide +kernel
theorem dL_law_1028 : decode cL_law 1028 = .ok (.iaload, 1) := by decide +kernel
theorem dL_law_1029 : decode cL_law 1029 = .ok (.invokevirtual 230, 3) := by decide +kernel
theorem dL_law_1032 : decode cL_law 1032 = .ok (.istore 6, 2) := by decide +kernel
theorem dL_law_1034 : decode cL_law 1034 = .ok (.aload_n 2, 1) := by decide +kernel
theorem dL_law_1035 : decode cL_law 1035 = .ok (.invokevirtual 180, 3) := by decide +kernel
theorem dL_law_1038 : decode cL_law 1038 = .ok (.iload 5, 2) := by decide +kernel
theorem dL_law_1040 : decode cL_law 1040 = .ok (.if_icmp .eq 5, 3) := by decide +kernel
theorem dL_law_1043 : decode cL_law 1043 = .ok (.iconst 0, 1) := by decide +kernel
theorem dL_law_1044 : decode cL_law 1044 = .ok (.ireturn, 1) := by decide +kernel
theorem dL_law_1045 : decode cL_law 1045 = .ok (.iload 5, 2) := by decide +kernel
theorem dL_law_1047 : decode cL_law 1047 = .ok (.ifCond .ne 15, 3) := by decide +kernel
theorem dL_law_1050 : decode cL_law 1050 = .ok (.aload_n 3, 1) := by decide +kernel
theorem dL_law_1051 : decode cL_law 1051 = .ok (.iconst 0, 1) := by decide +kernel
theorem dL_law_1052 : decode cL_law 1052 = .ok (.laload, 1) := by decide +kernel
theorem dL_law_1053 : decode cL_law 1053 = .ok (.iload 6, 2) := by decide +kernel
theorem dL_law_1055 : decode cL_law 1055 = .ok (.i2l, 1) := by decide +kernel
theorem dL_law_1056 : decode cL_law 1056 = .ok (.lcmp, 1) := by decide +kernel
theorem dL_law_1057 : decode cL_law 1057 = .ok (.ifCond .eq 5, 3) := by decide +kernel
theorem dL_law_1060 : decode cL_law 1060 = .ok (.iconst 0, 1) := by decide +kernel
theorem dL_law_1061 : decode cL_law 1061 = .ok (.ireturn, 1) := by decide +kernel
theorem dL_law_1062 : decode cL_law 1062 = .ok (.goto 2570, 3) := by decide +kernel
theorem dL_law_1065 : decode cL_law 1065 = .ok (.aload_n 1, 1) := by decide +kernel
theorem dL_law_1066 : decode cL_law 1066 = .ok (.invokevirtual 231, 3) := by decide +kernel
theorem dL_law_1069 : decode cL_law 1069 = .ok (.aload_n 2, 1) := by decide +kernel
theorem dL_law_1070 : decode cL_law 1070 = .ok (.invokevirtual 234, 3) := by decide +kernel
theorem dL_law_1073 : decode cL_law 1073 = .ok (.if_icmp .eq 2559, 3) := by decide +kernel
theorem dL_law_1076 : decode cL_law 1076 = .ok (.iconst 0, 1) := by decide +kernel
theorem dL_law_1077 : decode cL_law 1077 = .ok (.ireturn, 1) := by decide +kernel
theorem dL_law_1078 : decode cL_law 1078 = .ok (.aload_n 1, 1) := by decide +kernel
theorem dL_law_1079 : decode cL_law 1079 = .ok (.invokevirtual 235, 3) := by decide +kernel
theorem dL_law_1082 : decode cL_law 1082 = .ok (.aload_n 2, 1) := by decide +kernel
theorem dL_law_1083 : decode cL_law 1083 = .ok (.invokevirtual 238, 3) := by decide +kernel
theorem dL_law_1086 : decode cL_law 1086 = .ok (.if_icmp .eq 2546, 3) := by decide +kernel
theorem dL_law_1089 : decode cL_law 1089 = .ok (.iconst 0, 1) := by decide +kernel
theorem tLaw7 {LL : Nat} {xs : Nat → Int32} {N : Nat} : z_AllE (zX1 LL xs N) 449 (zLK7 LL xs N) :=
  z_ac (j := 450) rfl (zx_I (sp_i2l dL_law_987 rfl)) <|
  z_ac (j := 451) rfl (zx_I (sp_lcmp dL_law_988 rfl)) <|
  z_ac (j := 452) rfl (zx_I (sp_if_eq dL_law_989 rfl rfl)) <|
  z_ac (j := 453) rfl (zx_I (sp_iconst dL_law_992 (by decide +kernel) rfl)) <|
  z_ac (j := 454) rfl (zx_R (sr_bool dL_law_993 rfl)) <|
  z_ac (j := 455) rfl (zx_I (sp_goto dL_law_994 rfl)) <|
  z_ac (j := 456) rfl (zx_I (sp_aload_n (q := 1) dL_law_997 rfl rfl)) <|
  z_ac (j := 457) rfl (zx_I (sp_aload_n (q := 0) dL_law_998 rfl rfl)) <|
  z_ac (j := 458) rfl (zx_I (sp_iload dL_law_999 rfl)) <|
  z_ac (j := 459) rfl (zx_I (sp_iconst dL_law_1001 (by decide +kernel) rfl)) <|
  z_ac (j := 460) rfl (zx_I (sp_iadd dL_law_1002 rfl)) <|
  z_ac (j := 461) rfl (zx_I (sp_sld dL_law_1003 rfl)) <|
  z_ac (j := 462) rfl (zx_I (sp_aload_n (q := 0) dL_law_1004 rfl rfl)) <|
  z_ac (j := 463) rfl (zx_I (sp_iload dL_law_1005 rfl)) <|
  z_ac (j := 464) rfl (zx_I (sp_iconst dL_law_1007 (by decide +kernel) rfl)) <|
  z_ac (j := 465) rfl (zx_I (sp_iadd dL_law_1008 rfl)) <|
  z_ac (j := 466) rfl (zx_I (sp_sld dL_law_1009 rfl)) <|
  z_ac (j := 467) rfl (zx_I (sp_aload_n (q := 3) dL_law_1010 rfl rfl)) <|
  z_ac (j := 468) rfl (zx_W dL_law_1011 wl_970 qL_stepsToHut (by decide +kernel) rfl) <|
  z_ac (j := 469) rfl (zx_I (sp_istore dL_law_1014 (by decide) (fun j hj => by have e : j = 4 := (by omega); subst e; rfl) rfl)) <|
  z_ac (j := 470) rfl (zx_I (sp_aload_n (q := 2) dL_law_1016 rfl rfl)) <|
  z_ac (j := 471) rfl (zx_I (sp_aload_n (q := 0) dL_law_1017 rfl rfl)) <|
  z_ac (j := 472) rfl (zx_I (sp_iload dL_law_1018 rfl)) <|
  z_ac (j := 473) rfl (zx_I (sp_iconst dL_law_1020 (by decide +kernel) rfl)) <|
  z_ac (j := 474) rfl (zx_I (sp_iadd dL_law_1021 rfl)) <|
  z_ac (j := 475) rfl (zx_I (sp_sld dL_law_1022 rfl)) <|
  z_ac (j := 476) rfl (zx_I (sp_aload_n (q := 0) dL_law_1023 rfl rfl)) <|
  z_ac (j := 477) rfl (zx_I (sp_iload dL_law_1024 rfl)) <|
  z_ac (j := 478) rfl (zx_I (sp_iconst dL_law_1026 (by decide +kernel) rfl)) <|
  z_ac (j := 479) rfl (zx_I (sp_iadd dL_law_1027 rfl)) <|
  z_ac (j := 480) rfl (zx_I (sp_sld dL_law_1028 rfl)) <|
  z_ac (j := 481) rfl (zx_V dL_law_1029 wl_1615 qX9_stepsToHut (by decide +kernel) ⟨_, _, rfl⟩ rfl) <|
  z_ac (j := 482) rfl (zx_I (sp_istoreK dL_law_1032 (by decide) (by decide) rfl)) <|
  z_ac (j := 483) rfl (zx_I (sp_aload_n (q := 2) dL_law_1034 rfl rfl)) <|
  z_ac (j := 484) rfl (zx_V dL_law_1035 wl_1416 qX9_thrown (by decide +kernel) ⟨_, _, rfl⟩ rfl) <|
  z_ac (j := 485) rfl (zx_I (sp_iload dL_law_1038 rfl)) <|
  z_ac (j := 486) rfl (zx_I (sp_icmp_eq dL_law_1040 rfl rfl)) <|
  z_ac (j := 487) rfl (zx_I (sp_iconst dL_law_1043 (by decide +kernel) rfl)) <|
  z_ac (j := 488) rfl (zx_R (sr_bool dL_law_1044 rfl)) <|
  z_ac (j := 489) rfl (zx_I (sp_iload dL_law_1045 rfl)) <|
  z_ac (j := 490) rfl (zx_I (sp_if_ne dL_law_1047 rfl rfl)) <|
  z_ac (j := 491) rfl (zx_I (sp_aload_n (q := 3) dL_law_1050 rfl rfl)) <|
  z_ac (j := 492) rfl (zx_I (sp_iconst dL_law_1051 (by decide +kernel) rfl)) <|
  z_ac (j := 493) rfl (zx_I (sp_lald dL_law_1052 rfl)) <|
  z_ac (j := 494) rfl (zx_I (sp_iload dL_law_1053 rfl)) <|
  z_ac (j := 495) rfl (zx_I (sp_i2l dL_law_1055 rfl)) <|
  z_ac (j := 496) rfl (zx_I (sp_lcmp dL_law_1056 rfl)) <|
  z_ac (j := 497) rfl (zx_I (sp_if_eq dL_law_1057 rfl rfl)) <|
  z_ac (j := 498) rfl (zx_I (sp_iconst dL_law_1060 (by decide +kernel) rfl)) <|
  z_ac (j := 499) rfl (zx_R (sr_bool dL_law_1061 rfl)) <|
  z_ac (j := 500) rfl (zx_I (sp_goto dL_law_1062 rfl)) <|
  z_ac (j := 501) rfl (zx_I (sp_aload_n (q := 1) dL_law_1065 rfl rfl)) <|
  z_ac (j := 502) rfl (zx_V dL_law_1066 wl_567 qX8_time (by decide +kernel) ⟨_, _, rfl⟩ rfl) <|
  z_ac (j := 503) rfl (zx_I (sp_aload_n (q := 2) dL_law_1069 rfl rfl)) <|
  z_ac (j := 504) rfl (zx_V dL_law_1070 wl_1623 qX9_time (by decide +kernel) ⟨_, _, rfl⟩ rfl) <|
  z_ac (j := 505) rfl (zx_I (sp_icmp_eq dL_law_1073 rfl rfl)) <|
  z_ac (j := 506) rfl (zx_I (sp_iconst dL_law_1076 (by decide +kernel) rfl)) <|
  z_ac (j := 507) rfl (zx_R (sr_bool dL_law_1077 rfl)) <|
  z_ac (j := 508) rfl (zx_I (sp_aload_n (q := 1) dL_law_1078 rfl rfl)) <|
  z_ac (j := 509) rfl (zx_V dL_law_1079 wl_571 qX8_clearness (by decide +kernel) ⟨_, _, rfl⟩ rfl) <|
  z_ac (j := 510) rfl (zx_I (sp_aload_n (q := 2) dL_law_1082 rfl rfl)) <|
  z_ac (j := 511) rfl (zx_V dL_law_1083 wl_1627 qX9_clearness (by decide +kernel) ⟨_, _, rfl⟩ rfl) <|
  z_ac (j := 512) rfl (zx_I (sp_icmp_eq dL_law_1086 rfl rfl)) <|
  z_ac (j := 513) rfl (zx_I (sp_iconst dL_law_1089 (by decide +kernel) rfl)) <| z_an
theorem dL_law_1090 : decode cL_law 1090 = .ok (.ireturn, 1) := by decide +kernel
theorem dL_law_1091 : decode cL_law 1091 = .ok (.aload_n 1, 1) := by decide +kernel
theorem dL_law_1092 : decode cL_law 1092 = .ok (.aload_n 0, 1) := by decide +kernel
theorem dL_law_1093 : decode cL_law 1093 = .ok (.iload 4, 2) := by decide +kernel
theorem dL_law_1095 : decode cL_law 1095 = .ok (.iconst 1, 1) := by decide +kernel
theorem dL_law_1096 : decode cL_law 1096 = .ok (.iadd, 1) := by decide +kernel
theorem dL_law_1097 : decode cL_law 1097 = .ok (.iaload, 1) := by decide +kernel
theorem dL_law_1098 : decode cL_law 1098 = .ok (.aload_n 3, 1) := by decide +kernel
theorem dL_law_1099 : decode cL_law 1099 = .ok (.invokestatic 239, 3) := by decide +kernel
theorem dL_law_1102 : decode cL_law 1102 = .ok (.istore 5, 2) := by decide +kernel
theorem dL_law_1104 : decode cL_law 1104 = .ok (.aload_n 2, 1) := by decide +kernel
theorem dL_law_1105 : decode cL_law 1105 = .ok (.aload_n 0, 1) := by decide +kernel
theorem dL_law_1106 : decode cL_law 1106 = .ok (.iload 4, 2) := by decide +kernel
theorem dL_law_1108 : decode cL_law 1108 = .ok (.iconst 1, 1) := by decide +kernel
theorem dL_law_1109 : decode cL_law 1109 = .ok (.iadd, 1) := by decide +kernel
theorem dL_law_1110 : decode cL_law 1110 = .ok (.iaload, 1) := by decide +kernel
theorem dL_law_1111 : decode cL_law 1111 = .ok (.invokevirtual 241, 3) := by decide +kernel
theorem dL_law_1114 : decode cL_law 1114 = .ok (.istore 6, 2) := by decide +kernel
theorem dL_law_1116 : decode cL_law 1116 = .ok (.aload_n 2, 1) := by decide +kernel
theorem dL_law_1117 : decode cL_law 1117 = .ok (.invokevirtual 180, 3) := by decide +kernel
theorem dL_law_1120 : decode cL_law 1120 = .ok (.iload 5, 2) := by decide +kernel
theorem dL_law_1122 : decode cL_law 1122 = .ok (.if_icmp .eq 5, 3) := by decide +kernel
theorem dL_law_1125 : decode cL_law 1125 = .ok (.iconst 0, 1) := by decide +kernel
theorem dL_law_1126 : decode cL_law 1126 = .ok (.ireturn, 1) := by decide +kernel
theorem dL_law_1127 : decode cL_law 1127 = .ok (.iload 5, 2) := by decide +kernel
theorem dL_law_1129 : decode cL_law 1129 = .ok (.ifCond .ne 15, 3) := by decide +kernel
theorem dL_law_1132 : decode cL_law 1132 = .ok (.aload_n 3, 1) := by decide +kernel
theorem dL_law_1133 : decode cL_law 1133 = .ok (.iconst 0, 1) := by decide +kernel
theorem dL_law_1134 : decode cL_law 1134 = .ok (.laload, 1) := by decide +kernel
theorem dL_law_1135 : decode cL_law 1135 = .ok (.iload 6, 2) := by decide +kernel
theorem dL_law_1137 : decode cL_law 1137 = .ok (.i2l, 1) := by decide +kernel
theorem dL_law_1138 : decode cL_law 1138 = .ok (.lcmp, 1) := by decide +kernel
theorem dL_law_1139 : decode cL_law 1139 = .ok (.ifCond .eq 5, 3) := by decide +kernel
theorem dL_law_1142 : decode cL_law 1142 = .ok (.iconst 0, 1) := by decide +kernel
theorem dL_law_1143 : decode cL_law 1143 = .ok (.ireturn, 1) := by decide +kernel
theorem dL_law_1144 : decode cL_law 1144 = .ok (.goto 2488, 3) := by decide +kernel
theorem dL_law_1147 : decode cL_law 1147 = .ok (.aload_n 1, 1) := by decide +kernel
theorem dL_law_1148 : decode cL_law 1148 = .ok (.invokevirtual 242, 3) := by decide +kernel
theorem dL_law_1151 : decode cL_law 1151 = .ok (.aload_n 2, 1) := by decide +kernel
theorem dL_law_1152 : decode cL_law 1152 = .ok (.invokevirtual 245, 3) := by decide +kernel
theorem dL_law_1155 : decode cL_law 1155 = .ok (.if_icmp .eq 2477, 3) := by decide +kernel
theorem dL_law_1158 : decode cL_law 1158 = .ok (.iconst 0, 1) := by decide +kernel
theorem dL_law_1159 : decode cL_law 1159 = .ok (.ireturn, 1) := by decide +kernel
theorem dL_law_1160 : decode cL_law 1160 = .ok (.aload_n 1, 1) := by decide +kernel
theorem dL_law_1161 : decode cL_law 1161 = .ok (.invokevirtual 246, 3) := by decide +kernel
theorem dL_law_1164 : decode cL_law 1164 = .ok (.aload_n 2, 1) := by decide +kernel
theorem dL_law_1165 : decode cL_law 1165 = .ok (.invokevirtual 249, 3) := by decide +kernel
theorem dL_law_1168 : decode cL_law 1168 = .ok (.if_icmp .eq 2464, 3) := by decide +kernel
theorem dL_law_1171 : decode cL_law 1171 = .ok (.iconst 0, 1) := by decide +kernel
theorem dL_law_1172 : decode cL_law 1172 = .ok (.ireturn, 1) := by decide +kernel
theorem dL_law_1173 : decode cL_law 1173 = .ok (.aload_n 1, 1) := by decide +kernel
theorem dL_law_1174 : decode cL_law 1174 = .ok (.aload_n 0, 1) := by decide +kernel
theorem dL_law_1175 : decode cL_law 1175 = .ok (.iload 4, 2) := by decide +kernel
theorem dL_law_1177 : decode cL_law 1177 = .ok (.iconst 1, 1) := by decide +kernel
theorem dL_law_1178 : decode cL_law 1178 = .ok (.iadd, 1) := by decide +kernel
theorem dL_law_1179 : decode cL_law 1179 = .ok (.iaload, 1) := by decide +kernel
theorem dL_law_1180 : decode cL_law 1180 = .ok (.aload_n 3, 1) := by decide +kernel
theorem dL_law_1181 : decode cL_law 1181 = .ok (.invokestatic 250, 3) := by decide +kernel
theorem dL_law_1184 : decode cL_law 1184 = .ok (.istore 5, 2) := by decide +kernel
theorem dL_law_1186 : decode cL_law 1186 = .ok (.aload_n 2, 1) := by decide +kernel
theorem dL_law_1187 : decode cL_law 1187 = .ok (.aload_n 0, 1) := by decide +kernel
theorem dL_law_1188 : decode cL_law 1188 = .ok (.iload 4, 2) := by decide +kernel
theorem dL_law_1190 : decode cL_law 1190 = .ok (.iconst 1, 1) := by decide +kernel
theorem dL_law_1191 : decode cL_law 1191 = .ok (.iadd, 1) := by decide +kernel
theorem tLaw8 {LL : Nat} {xs : Nat → Int32} {N : Nat} : z_AllE (zX1 LL xs N) 513 (zLK8 LL xs N) :=
  z_ac (j := 514) rfl (zx_R (sr_bool dL_law_1090 rfl)) <|
  z_ac (j := 515) rfl (zx_I (sp_aload_n (q := 1) dL_law_1091 rfl rfl)) <|
  z_ac (j := 516) rfl (zx_I (sp_aload_n (q := 0) dL_law_1092 rfl rfl)) <|
  z_ac (j := 517) rfl (zx_I (sp_iload dL_law_1093 rfl)) <|
  z_ac (j := 518) rfl (zx_I (sp_iconst dL_law_1095 (by decide +kernel) rfl)) <|
  z_ac (j := 519) rfl (zx_I (sp_iadd dL_law_1096 rfl)) <|
  z_ac (j := 520) rfl (zx_I (sp_sld dL_law_1097 rfl)) <|
  z_ac (j := 521) rfl (zx_I (sp_aload_n (q := 3) dL_law_1098 rfl rfl)) <|
  z_ac (j := 522) rfl (zx_W dL_law_1099 wl_982 qL_fog (by decide +kernel) rfl) <|
  z_ac (j := 523) rfl (zx_I (sp_istore dL_law_1102 (by decide) (fun j hj => by have e : j = 4 := (by omega); subst e; rfl) rfl)) <|
  z_ac (j := 524) rfl (zx_I (sp_aload_n (q := 2) dL_law_1104 rfl rfl)) <|
  z_ac (j := 525) rfl (zx_I (sp_aload_n (q := 0) dL_law_1105 rfl rfl)) <|
  z_ac (j := 526) rfl (zx_I (sp_iload dL_law_1106 rfl)) <|
  z_ac (j := 527) rfl (zx_I (sp_iconst dL_law_1108 (by decide +kernel) rfl)) <|
  z_ac (j := 528) rfl (zx_I (sp_iadd dL_law_1109 rfl)) <|
  z_ac (j := 529) rfl (zx_I (sp_sld dL_law_1110 rfl)) <|
  z_ac (j := 530) rfl (zx_V dL_law_1111 wl_1631 qX9_fog (by decide +kernel) ⟨_, _, rfl⟩ rfl) <|
  z_ac (j := 531) rfl (zx_I (sp_istoreK dL_law_1114 (by decide) (by decide) rfl)) <|
  z_ac (j := 532) rfl (zx_I (sp_aload_n (q := 2) dL_law_1116 rfl rfl)) <|
  z_ac (j := 533) rfl (zx_V dL_law_1117 wl_1416 qX9_thrown (by decide +kernel) ⟨_, _, rfl⟩ rfl) <|
  z_ac (j := 534) rfl (zx_I (sp_iload dL_law_1120 rfl)) <|
  z_ac (j := 535) rfl (zx_I (sp_icmp_eq dL_law_1122 rfl rfl)) <|
  z_ac (j := 536) rfl (zx_I (sp_iconst dL_law_1125 (by decide +kernel) rfl)) <|
  z_ac (j := 537) rfl (zx_R (sr_bool dL_law_1126 rfl)) <|
  z_ac (j := 538) rfl (zx_I (sp_iload dL_law_1127 rfl)) <|
  z_ac (j := 539) rfl (zx_I (sp_if_ne dL_law_1129 rfl rfl)) <|
  z_ac (j := 540) rfl (zx_I (sp_aload_n (q := 3) dL_law_1132 rfl rfl)) <|
  z_ac (j := 541) rfl (zx_I (sp_iconst dL_law_1133 (by decide +kernel) rfl)) <|
  z_ac (j := 542) rfl (zx_I (sp_lald dL_law_1134 rfl)) <|
  z_ac (j := 543) rfl (zx_I (sp_iload dL_law_1135 rfl)) <|
  z_ac (j := 544) rfl (zx_I (sp_i2l dL_law_1137 rfl)) <|
  z_ac (j := 545) rfl (zx_I (sp_lcmp dL_law_1138 rfl)) <|
  z_ac (j := 546) rfl (zx_I (sp_if_eq dL_law_1139 rfl rfl)) <|
  z_ac (j := 547) rfl (zx_I (sp_iconst dL_law_1142 (by decide +kernel) rfl)) <|
  z_ac (j := 548) rfl (zx_R (sr_bool dL_law_1143 rfl)) <|
  z_ac (j := 549) rfl (zx_I (sp_goto dL_law_1144 rfl)) <|
  z_ac (j := 550) rfl (zx_I (sp_aload_n (q := 1) dL_law_1147 rfl rfl)) <|
  z_ac (j := 551) rfl (zx_V dL_law_1148 wl_575 qX8_sight (by decide +kernel) ⟨_, _, rfl⟩ rfl) <|
  z_ac (j := 552) rfl (zx_I (sp_aload_n (q := 2) dL_law_1151 rfl rfl)) <|
  z_ac (j := 553) rfl (zx_V dL_law_1152 wl_1635 qX9_sight (by decide +kernel) ⟨_, _, rfl⟩ rfl) <|
  z_ac (j := 554) rfl (zx_I (sp_icmp_eq dL_law_1155 rfl rfl)) <|
  z_ac (j := 555) rfl (zx_I (sp_iconst dL_law_1158 (by decide +kernel) rfl)) <|
  z_ac (j := 556) rfl (zx_R (sr_bool dL_law_1159 rfl)) <|
  z_ac (j := 557) rfl (zx_I (sp_aload_n (q := 1) dL_law_1160 rfl rfl)) <|
  z_ac (j := 558) rfl (zx_V dL_law_1161 wl_586 qX8_lightCount (by decide +kernel) ⟨_, _, rfl⟩ rfl) <|
  z_ac (j := 559) rfl (zx_I (sp_aload_n (q := 2) dL_law_1164 rfl rfl)) <|
  z_ac (j := 560) rfl (zx_V dL_law_1165 wl_1642 qX9_lightCount (by decide +kernel) ⟨_, _, rfl⟩ rfl) <|
  z_ac (j := 561) rfl (zx_I (sp_icmp_eq dL_law_1168 rfl rfl)) <|
  z_ac (j := 562) rfl (zx_I (sp_iconst dL_law_1171 (by decide +kernel) rfl)) <|
  z_ac (j := 563) rfl (zx_R (sr_bool dL_law_1172 rfl)) <|
  z_ac (j := 564) rfl (zx_I (sp_aload_n (q := 1) dL_law_1173 rfl rfl)) <|
  z_ac (j := 565) rfl (zx_I (sp_aload_n (q := 0) dL_law_1174 rfl rfl)) <|
  z_ac (j := 566) rfl (zx_I (sp_iload dL_law_1175 rfl)) <|
  z_ac (j := 567) rfl (zx_I (sp_iconst dL_law_1177 (by decide +kernel) rfl)) <|
  z_ac (j := 568) rfl (zx_I (sp_iadd dL_law_1178 rfl)) <|
  z_ac (j := 569) rfl (zx_I (sp_sld dL_law_1179 rfl)) <|
  z_ac (j := 570) rfl (zx_I (sp_aload_n (q := 3) dL_law_1180 rfl rfl)) <|
  z_ac (j := 571) rfl (zx_W dL_law_1181 wl_994 qL_lightColumn (by decide +kernel) rfl) <|
  z_ac (j := 572) rfl (zx_I (sp_istore dL_law_1184 (by decide) (fun j hj => by have e : j = 4 := (by omega); subst e; rfl) rfl)) <|
  z_ac (j := 573) rfl (zx_I (sp_aload_n (q := 2) dL_law_1186 rfl rfl)) <|
  z_ac (j := 574) rfl (zx_I (sp_aload_n (q := 0) dL_law_1187 rfl rfl)) <|
  z_ac (j := 575) rfl (zx_I (sp_iload dL_law_1188 rfl)) <|
  z_ac (j := 576) rfl (zx_I (sp_iconst dL_law_1190 (by decide +kernel) rfl)) <|
  z_ac (j := 577) rfl (zx_I (sp_iadd dL_law_1191 rfl)) <| z_an
