/-! The law itself, from its first question on. -/
theorem q375_237 : decode (zbc 375) 237 = .ok (.iload 5, 2) := by decide +kernel
theorem q375_239 : decode (zbc 375) 239 = .ok (.bipush 6, 2) := by decide +kernel
theorem q375_241 : decode (zbc 375) 241 = .ok (.if_icmp .ge 38, 3) := by decide +kernel
theorem q375_244 : decode (zbc 375) 244 = .ok (.iload_n 3, 1) := by decide +kernel
theorem q375_245 : decode (zbc 375) 245 = .ok (.ifCond .eq 34, 3) := by decide +kernel
theorem q375_248 : decode (zbc 375) 248 = .ok (.aload_n 2, 1) := by decide +kernel
theorem q375_249 : decode (zbc 375) 249 = .ok (.aload_n 1, 1) := by decide +kernel
theorem q375_250 : decode (zbc 375) 250 = .ok (.iload 4, 2) := by decide +kernel
theorem q375_252 : decode (zbc 375) 252 = .ok (.iaload, 1) := by decide +kernel
theorem q375_253 : decode (zbc 375) 253 = .ok (.iconst 3, 1) := by decide +kernel
theorem q375_254 : decode (zbc 375) 254 = .ok (.iload 5, 2) := by decide +kernel
theorem q375_256 : decode (zbc 375) 256 = .ok (.imul, 1) := by decide +kernel
theorem q375_257 : decode (zbc 375) 257 = .ok (.ishr, 1) := by decide +kernel
theorem q375_258 : decode (zbc 375) 258 = .ok (.aload_n 1, 1) := by decide +kernel
theorem q375_259 : decode (zbc 375) 259 = .ok (.iload 4, 2) := by decide +kernel
theorem q375_261 : decode (zbc 375) 261 = .ok (.iconst 1, 1) := by decide +kernel
theorem q375_262 : decode (zbc 375) 262 = .ok (.iadd, 1) := by decide +kernel
theorem q375_263 : decode (zbc 375) 263 = .ok (.iaload, 1) := by decide +kernel
theorem q375_264 : decode (zbc 375) 264 = .ok (.iconst 2, 1) := by decide +kernel
theorem q375_265 : decode (zbc 375) 265 = .ok (.iload 5, 2) := by decide +kernel
theorem q375_267 : decode (zbc 375) 267 = .ok (.imul, 1) := by decide +kernel
theorem q375_268 : decode (zbc 375) 268 = .ok (.ishr, 1) := by decide +kernel
theorem q375_269 : decode (zbc 375) 269 = .ok (.invokestatic 333, 3) := by decide +kernel
theorem kx_1441 : Cond.methodLink "FalseLightMarshLaw" 333 yL_does ∈ zTs := z_in (i := 1441) (by decide +kernel) (by decide +kernel)
theorem kx_1442 : Cond.static yL_does ∈ zTs := z_in (i := 1442) (by decide +kernel) (by decide +kernel)
theorem kx_1443 : Cond.code yL_does cL_does 10 (some .boolean) ∈ zTs := z_in (i := 1443) (by decide +kernel) (by decide +kernel)
theorem wk375_269 : wSC 375 269 345 3 none := wk_S q375_269 kx_1441 kx_1442 kx_31 kx_1443 ⟨by decide, by decide, by decide +kernel⟩ ⟨Nat.le_of_ble_eq_true rfl, Nat.le_of_ble_eq_true rfl⟩
theorem q375_272 : decode (zbc 375) 272 = .ok (.istore_n 3, 1) := by decide +kernel
theorem q375_273 : decode (zbc 375) 273 = .ok (.iinc 5 1, 3) := by decide +kernel
theorem q375_276 : decode (zbc 375) 276 = .ok (.goto (-39), 3) := by decide +kernel
theorem lw_p {X : Nat × (Nat → Int32)} {b : WB} {c d : Nat} {F : GM} {Q : WQ} {i6 : Nat} {S : Int → Int} {Y : DY} {B : Int} {kk : Nat} {a6 : Value} (hkk : kk ≤ 2) (hb1 : c + 78 ≤ b.1) (hb2 : d + 468 ≤ b.2.1) (hB : B ≤ 8000) (har : wAr i6 6 S Y) (hk : ∀ G, PGE (B + 4 * ((6 : Nat) : Int)) G → wW (229, X) 375 b 279 [.ref 310, .ref (1000 + i6), .ref 192, .int (zi 1), .int (zi (2 * (kk : Int))), .int (zi ((6 : Nat) : Int)), a6] [] G F Y (c + 78) (d + 468) Q) : ∀ (d9 : Nat) (k : Nat) (G : GM), 6 - (k : Int) < (d9 : Int) → (k : Int) ≤ 6 → PGE (B + 4 * (k : Int)) G → wW (229, X) 375 b 237 [.ref 310, .ref (1000 + i6), .ref 192, .int (zi 1), .int (zi (2 * (kk : Int))), .int (zi (k : Int)), a6] [] G F Y (c + 13 * k) (d + 78 * k) Q := by
  intro d9
  induction d9 with
  | zero =>
    intro k
    intros
    exact absurd (by assumption) (by omega)
  | succ d9 ih =>
      intro k G hd hk9 hp
      obtain ⟨sv, u, h, s, p⟩ := hp
      refine wi_iload (i := 5) (pc' := 239) q375_237 rfl rfl ?_
      refine wi_bipush (pc' := 241) q375_239 rfl (by decide) ?_
      refine wi_icmp_ge (t := 279) (pc' := 244) q375_241 (by decide) rfl (by omega) (by omega) ?_ ?_
      · intro h9
        obtain rfl : k = 6 := by omega
        exact wW_cd (by omega) (by omega) (hk G ⟨sv, u, h, s, p⟩)
      · intro h9
        refine wi_iload_n (i := 3) (pc' := 245) q375_244 rfl rfl rfl ?_
        refine wi_if_eq (t := 279) (pc' := 248) q375_245 (by decide) rfl (by omega) (fun h1 => absurd h1 (by omega)) (fun h1 => ?_)
        refine wi_aload_n (i := 2) (pc' := 249) q375_248 rfl rfl rfl ?_
        refine wi_aload_n (i := 1) (pc' := 250) q375_249 rfl rfl rfl ?_
        refine wi_iload (i := 4) (pc' := 252) q375_250 rfl rfl ?_
        refine wi_arget (pc' := 253) q375_252 rfl har ⟨by omega, by omega⟩ (by omega) ?_
        refine wi_iconst (pc' := 254) q375_253 rfl ?_
        refine wi_iload (i := 5) (pc' := 256) q375_254 rfl rfl ?_
        refine wi_imul (pc' := 257) q375_256 rfl ?_
        refine wi_ishr (pc' := 258) q375_257 rfl ?_
        refine wi_aload_n (i := 1) (pc' := 259) q375_258 rfl rfl rfl ?_
        refine wi_iload (i := 4) (pc' := 261) q375_259 rfl rfl ?_
        refine wi_iconst (pc' := 262) q375_261 rfl ?_
        refine wi_iadd (pc' := 263) q375_262 rfl ?_
        refine wi_arget (pc' := 264) q375_263 rfl har ⟨by omega, by omega⟩ (by omega) ?_
        refine wi_iconst (pc' := 265) q375_264 rfl ?_
        refine wi_iload (i := 5) (pc' := 267) q375_265 rfl rfl ?_
        refine wi_imul (pc' := 268) q375_267 rfl ?_
        refine wi_ishr (pc' := 269) q375_268 rfl ?_
        refine wi_call (pc' := 272) wk375_269 rfl (cS_does (zr_to _) (by omega) p) rfl (Nat.le_of_ble_eq_true rfl) (Nat.le_of_ble_eq_true rfl) (by (try dsimp only); omega) (by (try dsimp only); omega) (wrv_n) ?_
        rintro o1 G1 F1 Y1 ⟨rfl, rfl, rfl, sv1, u1, h1, s1, p1⟩ -
        refine wi_istore3 (pc' := 273) q375_272 rfl rfl rfl (Or.inr rfl) ?_
        refine wi_iinc5 (pc' := 276) q375_273 rfl rfl (Or.inr rfl) ?_
        refine wi_goto (t := 237) q375_276 (by decide) ?_
        refine wW_cd (c' := c + 13 * (k + 1)) (d' := d + 78 * (k + 1)) (by omega) (by omega) ?_
        rw [show ((k : Int) + 1) = ((k + 1 : Nat) : Int) by omega]
        rw [show B + 4 * (k : Int) + 4 = B + 4 * ((k + 1 : Nat) : Int) by omega] at p1
        exact ih (k + 1) _ (by omega) (by omega) ⟨_, _, _, _, p1⟩
theorem q375_234 : decode (zbc 375) 234 = .ok (.iconst 0, 1) := by decide +kernel
theorem q375_235 : decode (zbc 375) 235 = .ok (.istore 5, 2) := by decide +kernel
theorem q375_279 : decode (zbc 375) 279 = .ok (.iload_n 3, 1) := by decide +kernel
theorem q375_280 : decode (zbc 375) 280 = .ok (.ifCond .eq 10, 3) := by decide +kernel
theorem q375_283 : decode (zbc 375) 283 = .ok (.aload_n 2, 1) := by decide +kernel
theorem q375_284 : decode (zbc 375) 284 = .ok (.invokestatic 301, 3) := by decide +kernel
theorem wk375_284 : wSC 375 284 339 1 none := wk_S q375_284 kx_1370 kx_1371 kx_31 kx_1372 ⟨by decide, by decide, by decide +kernel⟩ ⟨Nat.le_of_ble_eq_true rfl, Nat.le_of_ble_eq_true rfl⟩
theorem q375_287 : decode (zbc 375) 287 = .ok (.goto 4, 3) := by decide +kernel
theorem q375_291 : decode (zbc 375) 291 = .ok (.lstore 5, 2) := by decide +kernel
theorem q375_293 : decode (zbc 375) 293 = .ok (.iload_n 3, 1) := by decide +kernel
theorem q375_294 : decode (zbc 375) 294 = .ok (.ifCond .eq 80, 3) := by decide +kernel
theorem q375_297 : decode (zbc 375) 297 = .ok (.aload_n 2, 1) := by decide +kernel
theorem q375_298 : decode (zbc 375) 298 = .ok (.aload_n 1, 1) := by decide +kernel
theorem q375_299 : decode (zbc 375) 299 = .ok (.iload 4, 2) := by decide +kernel
theorem q375_301 : decode (zbc 375) 301 = .ok (.iconst 1, 1) := by decide +kernel
theorem q375_302 : decode (zbc 375) 302 = .ok (.iadd, 1) := by decide +kernel
theorem q375_303 : decode (zbc 375) 303 = .ok (.iaload, 1) := by decide +kernel
theorem q375_304 : decode (zbc 375) 304 = .ok (.invokestatic 310, 3) := by decide +kernel
theorem kx_1394 : Cond.methodLink "FalseLightMarshLaw" 310 yL_paths ∈ zTs := z_in (i := 1394) (by decide +kernel) (by decide +kernel)
theorem kx_1395 : Cond.static yL_paths ∈ zTs := z_in (i := 1395) (by decide +kernel) (by decide +kernel)
theorem kx_1396 : Cond.code yL_paths cL_paths 13 (some .boolean) ∈ zTs := z_in (i := 1396) (by decide +kernel) (by decide +kernel)
theorem wk375_304 : wSC 375 304 341 2 none := wk_S q375_304 kx_1394 kx_1395 kx_31 kx_1396 ⟨by decide, by decide, by decide +kernel⟩ ⟨Nat.le_of_ble_eq_true rfl, Nat.le_of_ble_eq_true rfl⟩
theorem q375_307 : decode (zbc 375) 307 = .ok (.ifCond .eq 67, 3) := by decide +kernel
theorem q375_310 : decode (zbc 375) 310 = .ok (.aload_n 2, 1) := by decide +kernel
theorem q375_311 : decode (zbc 375) 311 = .ok (.invokestatic 314, 3) := by decide +kernel
theorem kx_1402 : Cond.methodLink "FalseLightMarshLaw" 314 yL_lights ∈ zTs := z_in (i := 1402) (by decide +kernel) (by decide +kernel)
theorem kx_1403 : Cond.static yL_lights ∈ zTs := z_in (i := 1403) (by decide +kernel) (by decide +kernel)
theorem kx_1404 : Cond.code yL_lights cL_lights 9 (some .boolean) ∈ zTs := z_in (i := 1404) (by decide +kernel) (by decide +kernel)
theorem wk375_311 : wSC 375 311 342 1 none := wk_S q375_311 kx_1402 kx_1403 kx_31 kx_1404 ⟨by decide, by decide, by decide +kernel⟩ ⟨Nat.le_of_ble_eq_true rfl, Nat.le_of_ble_eq_true rfl⟩
theorem q375_314 : decode (zbc 375) 314 = .ok (.ifCond .eq 60, 3) := by decide +kernel
theorem q375_317 : decode (zbc 375) 317 = .ok (.aload_n 2, 1) := by decide +kernel
theorem q375_318 : decode (zbc 375) 318 = .ok (.invokestatic 318, 3) := by decide +kernel
theorem kx_1405 : Cond.methodLink "FalseLightMarshLaw" 318 yL_travellers ∈ zTs := z_in (i := 1405) (by decide +kernel) (by decide +kernel)
theorem kx_1406 : Cond.static yL_travellers ∈ zTs := z_in (i := 1406) (by decide +kernel) (by decide +kernel)
theorem wk375_318 : wSC 375 318 343 1 none := wk_S q375_318 kx_1405 kx_1406 kx_31 kx_1407 ⟨by decide, by decide, by decide +kernel⟩ ⟨Nat.le_of_ble_eq_true rfl, Nat.le_of_ble_eq_true rfl⟩
theorem q375_321 : decode (zbc 375) 321 = .ok (.ifCond .eq 53, 3) := by decide +kernel
theorem q375_324 : decode (zbc 375) 324 = .ok (.aload_n 2, 1) := by decide +kernel
theorem q375_325 : decode (zbc 375) 325 = .ok (.invokestatic 301, 3) := by decide +kernel
theorem wk375_325 : wSC 375 325 339 1 none := wk_S q375_325 kx_1370 kx_1371 kx_31 kx_1372 ⟨by decide, by decide, by decide +kernel⟩ ⟨Nat.le_of_ble_eq_true rfl, Nat.le_of_ble_eq_true rfl⟩
theorem q375_328 : decode (zbc 375) 328 = .ok (.lload 5, 2) := by decide +kernel
theorem q375_330 : decode (zbc 375) 330 = .ok (.lcmp, 1) := by decide +kernel
theorem q375_331 : decode (zbc 375) 331 = .ok (.ifCond .ne 43, 3) := by decide +kernel
theorem q375_334 : decode (zbc 375) 334 = .ok (.iload 4, 2) := by decide +kernel
theorem q375_336 : decode (zbc 375) 336 = .ok (.iconst 4, 1) := by decide +kernel
theorem q375_337 : decode (zbc 375) 337 = .ok (.if_icmp .eq 16, 3) := by decide +kernel
theorem q375_353 : decode (zbc 375) 353 = .ok (.aload_n 2, 1) := by decide +kernel
theorem q375_354 : decode (zbc 375) 354 = .ok (.invokestatic 318, 3) := by decide +kernel
theorem wk375_354 : wSC 375 354 343 1 none := wk_S q375_354 kx_1405 kx_1406 kx_31 kx_1407 ⟨by decide, by decide, by decide +kernel⟩ ⟨Nat.le_of_ble_eq_true rfl, Nat.le_of_ble_eq_true rfl⟩
theorem q375_357 : decode (zbc 375) 357 = .ok (.ifCond .eq 17, 3) := by decide +kernel
theorem q375_360 : decode (zbc 375) 360 = .ok (.aload_n 2, 1) := by decide +kernel
theorem q375_361 : decode (zbc 375) 361 = .ok (.invokestatic 301, 3) := by decide +kernel
theorem wk375_361 : wSC 375 361 339 1 none := wk_S q375_361 kx_1370 kx_1371 kx_31 kx_1372 ⟨by decide, by decide, by decide +kernel⟩ ⟨Nat.le_of_ble_eq_true rfl, Nat.le_of_ble_eq_true rfl⟩
theorem q375_364 : decode (zbc 375) 364 = .ok (.lload 5, 2) := by decide +kernel
theorem q375_366 : decode (zbc 375) 366 = .ok (.lcmp, 1) := by decide +kernel
theorem q375_367 : decode (zbc 375) 367 = .ok (.ifCond .ne 7, 3) := by decide +kernel
theorem q375_370 : decode (zbc 375) 370 = .ok (.iconst 1, 1) := by decide +kernel
theorem q375_371 : decode (zbc 375) 371 = .ok (.goto 4, 3) := by decide +kernel
theorem q375_375 : decode (zbc 375) 375 = .ok (.istore_n 3, 1) := by decide +kernel
theorem q375_340 : decode (zbc 375) 340 = .ok (.aload_n 2, 1) := by decide +kernel
theorem q375_341 : decode (zbc 375) 341 = .ok (.aload_n 1, 1) := by decide +kernel
theorem q375_342 : decode (zbc 375) 342 = .ok (.iload 4, 2) := by decide +kernel
theorem q375_344 : decode (zbc 375) 344 = .ok (.iconst 1, 1) := by decide +kernel
theorem q375_345 : decode (zbc 375) 345 = .ok (.iadd, 1) := by decide +kernel
theorem q375_346 : decode (zbc 375) 346 = .ok (.iaload, 1) := by decide +kernel
theorem q375_347 : decode (zbc 375) 347 = .ok (.invokestatic 337, 3) := by decide +kernel
theorem kx_1434 : Cond.methodLink "FalseLightMarshLaw" 337 yL_ticks ∈ zTs := z_in (i := 1434) (by decide +kernel) (by decide +kernel)
theorem kx_1435 : Cond.static yL_ticks ∈ zTs := z_in (i := 1435) (by decide +kernel) (by decide +kernel)
theorem wk375_347 : wSC 375 347 344 2 none := wk_S q375_347 kx_1434 kx_1435 kx_31 kx_1436 ⟨by decide, by decide, by decide +kernel⟩ ⟨Nat.le_of_ble_eq_true rfl, Nat.le_of_ble_eq_true rfl⟩
theorem q375_350 : decode (zbc 375) 350 = .ok (.ifCond .eq 24, 3) := by decide +kernel
theorem lw_d {X : Nat × (Nat → Int32)} {b : WB} {c d : Nat} {F : GM} {Q : WQ} {i6 : Nat} {S : Int → Int} {G : GM} {Y : DY} {B : Int} {kk : Nat} {a5 a6 : Value} (hkk : kk ≤ 2) (hb1 : c + 660 ≤ b.1) (hb2 : d + 4300 ≤ b.2.1) (hB0 : 0 ≤ B) (hB : B ≤ 8000) (har : wAr i6 6 S Y) (hp : PGE B G) (hk : ∀ (G : GM) (Y : DY) (was9 : Int), wAr i6 6 S Y → PGE (B + 124) G → wW (229, X) 375 b 376 [.ref 310, .ref (1000 + i6), .ref 192, .int (zi 1), .int (zi (2 * (kk : Int))), .long (zl was9), .null] [] G F Y (c + 660) (d + 4300) Q) : wW (229, X) 375 b 234 [.ref 310, .ref (1000 + i6), .ref 192, .int (zi 1), .int (zi (2 * (kk : Int))), a5, a6] [] G F Y c d Q := by
  refine wi_iconst (pc' := 235) q375_234 rfl ?_
  refine wi_istore5 (pc' := 237) q375_235 rfl rfl (Or.inr rfl) ?_
  refine lw_p (B := B) (kk := kk) hkk (by omega) (by omega) (by omega) har ?_ 99 0 _ (by omega) (by omega) (by rw [show B + 4 * ((0 : Nat) : Int) = B by omega]; exact hp)
  rintro G0 ⟨sv, u, h, s, p⟩
  have p := PG_up p (show B + 4 * ((6 : Nat) : Int) ≤ B + 24 by omega)
  have hs3 : s 3 ≤ B + 24 := p.1.2.2.1
  have p := PG_up p (show B + 24 ≤ B + 124 by omega)
  refine wi_iload_n (i := 3) (pc' := 280) q375_279 rfl rfl rfl ?_
  refine wi_if_eq (t := 290) (pc' := 283) q375_280 (by decide) rfl (by omega) (fun h1 => absurd h1 (by omega)) (fun h1 => ?_)
  refine wi_aload_n (i := 2) (pc' := 284) q375_283 rfl rfl rfl ?_
  refine wi_call (pc' := 287) wk375_284 rfl (cS_state p) rfl (Nat.le_of_ble_eq_true rfl) (Nat.le_of_ble_eq_true rfl) (by (try dsimp only); omega) (by (try dsimp only); omega) (wrv_n) ?_
  rintro o1 G1 F1 Y1 ⟨rfl, p1, rfl, rfl⟩ -
  refine wi_goto (t := 291) q375_287 (by decide) ?_
  refine wi_lstore5 (pc' := 293) q375_291 rfl rfl rfl (Or.inr rfl) ?_
  refine wi_iload_n (i := 3) (pc' := 294) q375_293 rfl rfl rfl ?_
  refine wi_if_eq (t := 374) (pc' := 297) q375_294 (by decide) rfl (by omega) (fun h2 => absurd h2 (by omega)) (fun h2 => ?_)
  refine wi_aload_n (i := 2) (pc' := 298) q375_297 rfl rfl rfl ?_
  refine wi_aload_n (i := 1) (pc' := 299) q375_298 rfl rfl rfl ?_
  refine wi_iload (i := 4) (pc' := 301) q375_299 rfl rfl ?_
  refine wi_iconst (pc' := 302) q375_301 rfl ?_
  refine wi_iadd (pc' := 303) q375_302 rfl ?_
  refine wi_arget (pc' := 304) q375_303 rfl har ⟨by omega, by omega⟩ (by omega) ?_
  refine wi_call (pc' := 307) wk375_304 rfl (cS_paths p1) rfl (Nat.le_of_ble_eq_true rfl) (Nat.le_of_ble_eq_true rfl) (by (try dsimp only); omega) (by (try dsimp only); omega) (wrv_n) ?_
  rintro o2 G2 F2 Y2 ⟨rfl, p2, rfl, f2⟩ -
  have har2 := wAr_fr har f2
  refine wi_if_eq (t := 374) (pc' := 310) q375_307 (by decide) rfl (by omega) (fun h3 => absurd h3 (by omega)) (fun h3 => ?_)
  refine wi_aload_n (i := 2) (pc' := 311) q375_310 rfl rfl rfl ?_
  refine wi_call (pc' := 314) wk375_311 rfl (cS_lights p2) rfl (Nat.le_of_ble_eq_true rfl) (Nat.le_of_ble_eq_true rfl) (by (try dsimp only); omega) (by (try dsimp only); omega) (wrv_n) ?_
  rintro o3 G3 F3 Y3 ⟨rfl, p3, rfl, rfl⟩ -
  refine wi_if_eq (t := 374) (pc' := 317) q375_314 (by decide) rfl (by omega) (fun h4 => absurd h4 (by omega)) (fun h4 => ?_)
  refine wi_aload_n (i := 2) (pc' := 318) q375_317 rfl rfl rfl ?_
  refine wi_call (pc' := 321) wk375_318 rfl (cS_travellers (by omega) p3) rfl (Nat.le_of_ble_eq_true rfl) (Nat.le_of_ble_eq_true rfl) (by (try dsimp only); omega) (by (try dsimp only); omega) (wrv_n) ?_
  rintro o4 G4 F4 Y4 ⟨rfl, p4, rfl, f4⟩ -
  have har4 := wAr_fr har2 f4
  refine wi_if_eq (t := 374) (pc' := 324) q375_321 (by decide) rfl (by omega) (fun h5 => absurd h5 (by omega)) (fun h5 => ?_)
  refine wi_aload_n (i := 2) (pc' := 325) q375_324 rfl rfl rfl ?_
  refine wi_call (pc' := 328) wk375_325 rfl (cS_state p4) rfl (Nat.le_of_ble_eq_true rfl) (Nat.le_of_ble_eq_true rfl) (by (try dsimp only); omega) (by (try dsimp only); omega) (wrv_n) ?_
  rintro o5 G5 F5 Y5 ⟨rfl, p5, rfl, rfl⟩ -
  refine wi_lload (i := 5) (pc' := 330) q375_328 rfl rfl ?_
  refine wi_lcmp (v := 0) (pc' := 331) q375_330 rfl lg_self ?_
  refine wi_if_ne (t := 374) (pc' := 334) q375_331 (by decide) rfl (by omega) (fun h6 => absurd h6 (by omega)) (fun h6 => ?_)
  refine wi_iload (i := 4) (pc' := 336) q375_334 rfl rfl ?_
  refine wi_iconst (pc' := 337) q375_336 rfl ?_
  refine wi_icmp_eq (t := 353) (pc' := 340) q375_337 (by decide) rfl (by omega) (by omega) ?_ ?_
  · intro h8
    refine wi_aload_n (i := 2) (pc' := 354) q375_353 rfl rfl rfl ?_
    refine wi_call (pc' := 357) wk375_354 rfl (cS_travellers (by omega) p5) rfl (Nat.le_of_ble_eq_true rfl) (Nat.le_of_ble_eq_true rfl) (by (try dsimp only); omega) (by (try dsimp only); omega) (wrv_n) ?_
    rintro o6 G6 F6 Y6 ⟨rfl, p6, rfl, f6⟩ -
    have har6 := wAr_fr har4 f6
    refine wi_if_eq (t := 374) (pc' := 360) q375_357 (by decide) rfl (by omega) (fun h7 => absurd h7 (by omega)) (fun h7 => ?_)
    refine wi_aload_n (i := 2) (pc' := 361) q375_360 rfl rfl rfl ?_
    refine wi_call (pc' := 364) wk375_361 rfl (cS_state p6) rfl (Nat.le_of_ble_eq_true rfl) (Nat.le_of_ble_eq_true rfl) (by (try dsimp only); omega) (by (try dsimp only); omega) (wrv_n) ?_
    rintro o7 G7 F7 Y7 ⟨rfl, p7, rfl, rfl⟩ -
    refine wi_lload (i := 5) (pc' := 366) q375_364 rfl rfl ?_
    refine wi_lcmp (v := 0) (pc' := 367) q375_366 rfl lg_self ?_
    refine wi_if_ne (t := 374) (pc' := 370) q375_367 (by decide) rfl (by omega) (fun h8 => absurd h8 (by omega)) (fun h8 => ?_)
    refine wi_iconst (pc' := 371) q375_370 rfl ?_
    refine wi_goto (t := 375) q375_371 (by decide) ?_
    refine wi_istore3 (pc' := 376) q375_375 rfl rfl rfl (Or.inr rfl) ?_
    exact wW_cd (by (try dsimp only); omega) (by (try dsimp only); omega) (hk _ _ _ har6 ⟨_, _, _, _, p7⟩)
  · intro h8
    refine wi_aload_n (i := 2) (pc' := 341) q375_340 rfl rfl rfl ?_
    refine wi_aload_n (i := 1) (pc' := 342) q375_341 rfl rfl rfl ?_
    refine wi_iload (i := 4) (pc' := 344) q375_342 rfl rfl ?_
    refine wi_iconst (pc' := 345) q375_344 rfl ?_
    refine wi_iadd (pc' := 346) q375_345 rfl ?_
    refine wi_arget (pc' := 347) q375_346 rfl har4 ⟨by omega, by omega⟩ (by omega) ?_
    refine wi_call (pc' := 350) wk375_347 rfl (cS_ticks (by omega) (by omega) p5) rfl (Nat.le_of_ble_eq_true rfl) (Nat.le_of_ble_eq_true rfl) (by (try dsimp only); omega) (by (try dsimp only); omega) (wrv_n) ?_
    rintro o8 G8 F8 Y8 ⟨rfl, rfl, p8, f8⟩ -
    have har8 := wAr_fr har4 f8
    refine wi_if_eq (t := 374) (pc' := 353) q375_350 (by decide) rfl (by omega) (fun h9 => absurd h9 (by omega)) (fun h9 => ?_)
    refine wi_aload_n (i := 2) (pc' := 354) q375_353 rfl rfl rfl ?_
    refine wi_call (pc' := 357) wk375_354 rfl (cS_travellers (by omega) p8) rfl (Nat.le_of_ble_eq_true rfl) (Nat.le_of_ble_eq_true rfl) (by (try dsimp only); omega) (by (try dsimp only); omega) (wrv_n) ?_
    rintro o9 G9 F9 Y9 ⟨rfl, p9, rfl, f9⟩ -
    have har9 := wAr_fr har8 f9
    refine wi_if_eq (t := 374) (pc' := 360) q375_357 (by decide) rfl (by omega) (fun h10 => absurd h10 (by omega)) (fun h10 => ?_)
    refine wi_aload_n (i := 2) (pc' := 361) q375_360 rfl rfl rfl ?_
    refine wi_call (pc' := 364) wk375_361 rfl (cS_state p9) rfl (Nat.le_of_ble_eq_true rfl) (Nat.le_of_ble_eq_true rfl) (by (try dsimp only); omega) (by (try dsimp only); omega) (wrv_n) ?_
    rintro o10 G10 F10 Y10 ⟨rfl, p10, rfl, rfl⟩ -
    refine wi_lload (i := 5) (pc' := 366) q375_364 rfl rfl ?_
    refine wi_lcmp (v := 0) (pc' := 367) q375_366 rfl lg_self ?_
    refine wi_if_ne (t := 374) (pc' := 370) q375_367 (by decide) rfl (by omega) (fun h11 => absurd h11 (by omega)) (fun h11 => ?_)
    refine wi_iconst (pc' := 371) q375_370 rfl ?_
    refine wi_goto (t := 375) q375_371 (by decide) ?_
    refine wi_istore3 (pc' := 376) q375_375 rfl rfl rfl (Or.inr rfl) ?_
    exact wW_cd (by (try dsimp only); omega) (by (try dsimp only); omega) (hk _ _ _ har9 ⟨_, _, _, _, p10⟩)
theorem q375_156 : decode (zbc 375) 156 = .ok (.iload 4, 2) := by decide +kernel
theorem q375_158 : decode (zbc 375) 158 = .ok (.iconst 1, 1) := by decide +kernel
theorem q375_159 : decode (zbc 375) 159 = .ok (.iadd, 1) := by decide +kernel
theorem q375_160 : decode (zbc 375) 160 = .ok (.bipush 6, 2) := by decide +kernel
theorem q375_162 : decode (zbc 375) 162 = .ok (.if_icmp .ge 220, 3) := by decide +kernel
theorem q375_165 : decode (zbc 375) 165 = .ok (.iload_n 3, 1) := by decide +kernel
theorem q375_166 : decode (zbc 375) 166 = .ok (.ifCond .eq 216, 3) := by decide +kernel
theorem q375_169 : decode (zbc 375) 169 = .ok (.iload 4, 2) := by decide +kernel
theorem q375_171 : decode (zbc 375) 171 = .ok (.iconst 2, 1) := by decide +kernel
theorem q375_172 : decode (zbc 375) 172 = .ok (.if_icmp .eq 62, 3) := by decide +kernel
theorem q375_376 : decode (zbc 375) 376 = .ok (.iinc 4 2, 3) := by decide +kernel
theorem q375_379 : decode (zbc 375) 379 = .ok (.goto (-223), 3) := by decide +kernel
theorem q375_175 : decode (zbc 375) 175 = .ok (.aload_n 2, 1) := by decide +kernel
theorem q375_176 : decode (zbc 375) 176 = .ok (.aload_n 1, 1) := by decide +kernel
theorem q375_177 : decode (zbc 375) 177 = .ok (.iload 4, 2) := by decide +kernel
theorem q375_179 : decode (zbc 375) 179 = .ok (.iaload, 1) := by decide +kernel
theorem q375_180 : decode (zbc 375) 180 = .ok (.aload_n 1, 1) := by decide +kernel
theorem q375_181 : decode (zbc 375) 181 = .ok (.iload 4, 2) := by decide +kernel
theorem q375_183 : decode (zbc 375) 183 = .ok (.iconst 1, 1) := by decide +kernel
theorem q375_184 : decode (zbc 375) 184 = .ok (.iadd, 1) := by decide +kernel
theorem q375_185 : decode (zbc 375) 185 = .ok (.iaload, 1) := by decide +kernel
theorem q375_186 : decode (zbc 375) 186 = .ok (.invokestatic 321, 3) := by decide +kernel
theorem kx_1111 : Cond.methodLink "FalseLightMarshLaw" 321 yL_marsh ∈ zTs := z_in (i := 1111) (by decide +kernel) (by decide +kernel)
theorem kx_1112 : Cond.static yL_marsh ∈ zTs := z_in (i := 1112) (by decide +kernel) (by decide +kernel)
theorem kx_1113 : Cond.code yL_marsh cL_marsh 12 (some (.object "java/lang/String")) ∈ zTs := z_in (i := 1113) (by decide +kernel) (by decide +kernel)
theorem wk375_186 : wSC 375 186 338 2 none := wk_S q375_186 kx_1111 kx_1112 kx_31 kx_1113 ⟨by decide, by decide, by decide +kernel⟩ ⟨Nat.le_of_ble_eq_true rfl, Nat.le_of_ble_eq_true rfl⟩
theorem q375_189 : decode (zbc 375) 189 = .ok (.invokestatic 325, 3) := by decide +kernel
theorem kx_1106 : Cond.methodLink "FalseLightMarshLaw" 325 yL_feeds ∈ zTs := z_in (i := 1106) (by decide +kernel) (by decide +kernel)
theorem kx_1107 : Cond.static yL_feeds ∈ zTs := z_in (i := 1107) (by decide +kernel) (by decide +kernel)
theorem kx_1108 : Cond.code yL_feeds cL_feeds 5 (some .boolean) ∈ zTs := z_in (i := 1108) (by decide +kernel) (by decide +kernel)
theorem wk375_189 : wSC 375 189 337 2 none := wk_S q375_189 kx_1106 kx_1107 kx_31 kx_1108 ⟨by decide, by decide, by decide +kernel⟩ ⟨Nat.le_of_ble_eq_true rfl, Nat.le_of_ble_eq_true rfl⟩
theorem q375_192 : decode (zbc 375) 192 = .ok (.ifCond .eq 40, 3) := by decide +kernel
theorem q375_195 : decode (zbc 375) 195 = .ok (.aload_n 2, 1) := by decide +kernel
theorem q375_196 : decode (zbc 375) 196 = .ok (.bipush 12, 2) := by decide +kernel
theorem q375_198 : decode (zbc 375) 198 = .ok (.iconst 0, 1) := by decide +kernel
theorem q375_199 : decode (zbc 375) 199 = .ok (.invokestatic 185, 3) := by decide +kernel
theorem wq375_199 {L9 : Nat} {xs9 : Nat → Int32} {N9 : Nat} : z_SC N9 znl zTs (zZ L9 xs9 N9) zyn zbc zrt zfr zlo (fun _ i => i) ztb 375 199 2 336 3 := sc_S (P := fun _ i => i) zTs_good q375_199 kx_545 kx_546 kx_31 kx_547 rfl ⟨by decide, by decide, by decide +kernel⟩ ⟨Nat.le_of_ble_eq_true rfl, Nat.le_of_ble_eq_true rfl⟩
theorem q375_202 : decode (zbc 375) 202 = .ok (.aload_n 2, 1) := by decide +kernel
theorem q375_203 : decode (zbc 375) 203 = .ok (.invokevirtual 257, 3) := by decide +kernel
theorem wq375_203 {L9 : Nat} {xs9 : Nat → Int32} {N9 : Nat} : z_SC N9 znl zTs (zZ L9 xs9 N9) zyn zbc zrt zfr zlo (fun _ i => i) ztb 375 203 3 228 1 := sc_V (P := fun _ i => i) (n' := 0) zTs_good q375_203 kx_541 kx_542 kx_543 kx_32 kx_544 rfl ⟨by decide, by decide, by decide +kernel⟩ rfl ⟨Nat.le_of_ble_eq_true rfl, Nat.le_of_ble_eq_true rfl⟩
theorem q375_206 : decode (zbc 375) 206 = .ok (.if_icmp .ne 26, 3) := by decide +kernel
theorem q375_209 : decode (zbc 375) 209 = .ok (.aload_n 2, 1) := by decide +kernel
theorem q375_210 : decode (zbc 375) 210 = .ok (.invokevirtual 329, 3) := by decide +kernel
theorem kx_505 : Cond.methodLink "FalseLightMarshLaw" 329 yX8_hasError ∈ zTs := z_in (i := 505) (by decide +kernel) (by decide +kernel)
theorem kx_506 : Cond.instanceMethod yX8_hasError ∈ zTs := z_in (i := 506) (by decide +kernel) (by decide +kernel)
theorem kx_507 : Cond.selects "FalseLightMarsh" yX8_hasError yX8_hasError ∈ zTs := z_in (i := 507) (by decide +kernel) (by decide +kernel)
theorem kx_508 : Cond.code yX8_hasError cX8_hasError 1 (some .boolean) ∈ zTs := z_in (i := 508) (by decide +kernel) (by decide +kernel)
theorem wq375_210 {L9 : Nat} {xs9 : Nat → Int32} {N9 : Nat} : z_SC N9 znl zTs (zZ L9 xs9 N9) zyn zbc zrt zfr zlo (fun _ i => i) ztb 375 210 3 204 1 := sc_V (P := fun _ i => i) (n' := 0) zTs_good q375_210 kx_505 kx_506 kx_507 kx_32 kx_508 rfl ⟨by decide, by decide, by decide +kernel⟩ rfl ⟨Nat.le_of_ble_eq_true rfl, Nat.le_of_ble_eq_true rfl⟩
theorem q375_213 : decode (zbc 375) 213 = .ok (.ifCond .ne 19, 3) := by decide +kernel
theorem q375_216 : decode (zbc 375) 216 = .ok (.aload_n 2, 1) := by decide +kernel
theorem q375_217 : decode (zbc 375) 217 = .ok (.bipush 9, 2) := by decide +kernel
theorem q375_219 : decode (zbc 375) 219 = .ok (.iconst 0, 1) := by decide +kernel
theorem q375_220 : decode (zbc 375) 220 = .ok (.invokestatic 185, 3) := by decide +kernel
theorem wq375_220 {L9 : Nat} {xs9 : Nat → Int32} {N9 : Nat} : z_SC N9 znl zTs (zZ L9 xs9 N9) zyn zbc zrt zfr zlo (fun _ i => i) ztb 375 220 2 336 3 := sc_S (P := fun _ i => i) zTs_good q375_220 kx_545 kx_546 kx_31 kx_547 rfl ⟨by decide, by decide, by decide +kernel⟩ ⟨Nat.le_of_ble_eq_true rfl, Nat.le_of_ble_eq_true rfl⟩
theorem q375_223 : decode (zbc 375) 223 = .ok (.bipush (-102), 2) := by decide +kernel
theorem q375_225 : decode (zbc 375) 225 = .ok (.if_icmp .ne 7, 3) := by decide +kernel
theorem q375_228 : decode (zbc 375) 228 = .ok (.iconst 1, 1) := by decide +kernel
theorem q375_229 : decode (zbc 375) 229 = .ok (.goto 4, 3) := by decide +kernel
theorem q375_233 : decode (zbc 375) 233 = .ok (.istore_n 3, 1) := by decide +kernel
theorem lw_k {X : Nat × (Nat → Int32)} {b : WB} {c d : Nat} {F : GM} {Q : WQ} {i6 : Nat} {S : Int → Int} (hb1 : c + 2700 ≤ b.1) (hb2 : d + 570000 ≤ b.2.1) (hk : ∀ (a5 a6 : Value) (G : GM) (Y : DY) (k : Nat), wW (229, X) 375 b 382 [.ref 310, .ref (1000 + i6), .ref 192, .int (zi 1), .int (zi (2 * (k : Int))), a5, a6] [] G F Y (c + 2700) (d + 570000) Q) : ∀ (d9 : Nat) (k : Nat) (a5 a6 : Value) (G : GM) (Y : DY), 3 - (k : Int) < (d9 : Int) → (k : Int) ≤ 3 → wAr i6 6 S Y → PGE (124 * (k : Int)) G → wW (229, X) 375 b 156 [.ref 310, .ref (1000 + i6), .ref 192, .int (zi 1), .int (zi (2 * (k : Int))), a5, a6] [] G F Y (c + 900 * k) (d + 190000 * k) Q := by
  intro d9
  induction d9 with
  | zero =>
    intro k
    intros
    exact absurd (by assumption) (by omega)
  | succ d9 ih =>
      intro k a5 a6 G Y hd hk9 har hp
      refine wi_iload (i := 4) (pc' := 158) q375_156 rfl rfl ?_
      refine wi_iconst (pc' := 159) q375_158 rfl ?_
      refine wi_iadd (pc' := 160) q375_159 rfl ?_
      refine wi_bipush (pc' := 162) q375_160 rfl (by decide) ?_
      refine wi_icmp_ge (t := 382) (pc' := 165) q375_162 (by decide) rfl (by omega) (by omega) ?_ ?_
      · intro h9
        exact wW_cd (by omega) (by omega) (hk a5 a6 G Y k)
      · intro h9
        refine wi_iload_n (i := 3) (pc' := 166) q375_165 rfl rfl rfl ?_
        refine wi_if_eq (t := 382) (pc' := 169) q375_166 (by decide) rfl (by omega) (fun h1 => absurd h1 (by omega)) (fun h1 => ?_)
        refine wi_iload (i := 4) (pc' := 171) q375_169 rfl rfl ?_
        refine wi_iconst (pc' := 172) q375_171 rfl ?_
        refine wi_icmp_eq (t := 234) (pc' := 175) q375_172 (by decide) rfl (by omega) (by omega) ?_ ?_
        · intro h8
          refine wW_cd (c' := c + 900 * k + 230) (d' := d + 190000 * k + 180200) (by (try dsimp only); omega) (by (try dsimp only); omega) ?_
          refine lw_d (kk := k) (B := 124 * (k : Int)) (c := c + 900 * k + 230) (d := d + 190000 * k + 180200) (by omega) (by omega) (by omega) (by omega) (by omega) har hp ?_
          intro G8 Y8 was9 har8 hp8
          refine wi_iinc4 (pc' := 379) q375_376 rfl rfl (Or.inr rfl) ?_
          refine wi_goto (t := 156) q375_379 (by decide) ?_
          refine wW_cd (c' := c + 900 * (k + 1)) (d' := d + 190000 * (k + 1)) (by (try dsimp only); omega) (by (try dsimp only); omega) ?_
          rw [show (2 * (k : Int) + 2) = 2 * ((k + 1 : Nat) : Int) by omega]
          rw [show 124 * (k : Int) + 124 = 124 * ((k + 1 : Nat) : Int) by omega] at hp8
          exact ih (k + 1) _ _ _ _ (by omega) (by omega) har8 hp8
        · intro h8
          obtain ⟨sv, u, h, s, p⟩ := hp
          refine wi_aload_n (i := 2) (pc' := 176) q375_175 rfl rfl rfl ?_
          refine wi_aload_n (i := 1) (pc' := 177) q375_176 rfl rfl rfl ?_
          refine wi_iload (i := 4) (pc' := 179) q375_177 rfl rfl ?_
          refine wi_arget (pc' := 180) q375_179 rfl har ⟨by omega, by omega⟩ (by omega) ?_
          refine wi_aload_n (i := 1) (pc' := 181) q375_180 rfl rfl rfl ?_
          refine wi_iload (i := 4) (pc' := 183) q375_181 rfl rfl ?_
          refine wi_iconst (pc' := 184) q375_183 rfl ?_
          refine wi_iadd (pc' := 185) q375_184 rfl ?_
          refine wi_arget (pc' := 186) q375_185 rfl har ⟨by omega, by omega⟩ (by omega) ?_
          refine wi_call (pc' := 189) wk375_186 rfl (cS_marsh) rfl (Nat.le_of_ble_eq_true rfl) (Nat.le_of_ble_eq_true rfl) (by (try dsimp only); omega) (by (try dsimp only); omega) (wrv_n) ?_
          rintro o1 G1 F1 Y1 ⟨r, t, D, rfl, rfl, rfl, hst, hgood, f1⟩ -
          have har1 := wAr_fr har f1
          obtain ⟨hl4, -, hF⟩ := id hgood
          refine wi_call (pc' := 192) wk375_189 rfl (cS_feeds hst hl4 p) rfl (Nat.le_of_ble_eq_true rfl) (Nat.le_of_ble_eq_true rfl) (by (try dsimp only); omega) (by (try dsimp only); omega) (wrv_n) ?_
          rintro o1 G1 F1 Y1 ⟨rfl, rfl, p1, f1⟩ -
          have har1 := wAr_fr har1 f1
          refine wi_if_eq (t := 232) (pc' := 195) q375_192 (by decide) rfl (by omega) (fun h2 => absurd h2 (by omega)) (fun h2 => ?_)
          refine wi_aload_n (i := 2) (pc' := 196) q375_195 rfl rfl rfl ?_
          refine wi_bipush (pc' := 198) q375_196 rfl (by decide) ?_
          refine wi_iconst (pc' := 199) q375_198 rfl ?_
          refine wi_cv (u9 := (229, X)) (pc' := 202) wq375_199 rfl (cL_s2 (pB_load hgood (by omega) p1) zLc_i) (fun h => absurd h (by decide)) rfl rfl rfl (by (try dsimp only); omega) (by (try dsimp only); omega) ?_
          intro G8 hx
          obtain ⟨p8, e10⟩ := hx
          have b5 := p8.ok.2.2.2.2.2.1
          refine wi_aload_n (i := 2) (pc' := 203) q375_202 rfl rfl rfl ?_
          refine wi_cp (u9 := (229, X)) (pc' := 206) wq375_203 rfl (cQ_travellerCount (Nat.le_refl _) p8.ok p8.hR) (fun _ => ⟨_, _, rfl⟩) rfl rfl (by (try dsimp only); omega) (by (try dsimp only); omega) ?_
          refine wi_icmp_ne (t := 232) (pc' := 209) q375_206 (by decide) rfl (by omega) (by omega) (fun h3 => absurd h3 (by omega)) (fun h3 => ?_)
          refine wi_aload_n (i := 2) (pc' := 210) q375_209 rfl rfl rfl ?_
          refine wi_cp (u9 := (229, X)) (pc' := 213) wq375_210 rfl (cQ_hasError (Nat.le_refl _) p8.2.2.2.2.1) (fun _ => ⟨_, _, rfl⟩) rfl rfl (by (try dsimp only); omega) (by (try dsimp only); omega) ?_
          rw [show zb (0 ≤ (_ : GM) 192 10) = (0 : Int) from zb_f (by rw [e10]; decide)]
          refine wi_if_ne (t := 232) (pc' := 216) q375_213 (by decide) rfl (by omega) (fun h4 => absurd h4 (by omega)) (fun h4 => ?_)
          refine wi_aload_n (i := 2) (pc' := 217) q375_216 rfl rfl rfl ?_
          refine wi_bipush (pc' := 219) q375_217 rfl (by decide) ?_
          refine wi_iconst (pc' := 220) q375_219 rfl ?_
          refine wi_cx (u9 := (229, X)) (pc' := 223) wq375_220 rfl (cL_s2 (pC_undo p8) zLc_i) (fun h => absurd h (by decide)) rfl rfl (by (try dsimp only); omega) (by (try dsimp only); omega) ?_
          intro G7 hx
          rw [vL_undoNo rfl]
          have p7 := PG_und0 hx rfl
          refine wi_bipush (pc' := 225) q375_223 rfl (by decide) ?_
          refine wi_icmp_ne (t := 232) (pc' := 228) q375_225 (by decide) rfl (by omega) (by omega) (fun h5 => absurd h5 (by omega)) (fun h5 => ?_)
          refine wi_iconst (pc' := 229) q375_228 rfl ?_
          refine wi_goto (t := 233) q375_229 (by decide) ?_
          refine wi_istore3 (pc' := 234) q375_233 rfl rfl rfl (Or.inr rfl) ?_
          refine wW_cd (c' := c + 900 * k + 230) (d' := d + 190000 * k + 180200) (by (try dsimp only); omega) (by (try dsimp only); omega) ?_
          refine lw_d (kk := k) (B := 124 * (k : Int)) (c := c + 900 * k + 230) (d := d + 190000 * k + 180200) (by omega) (by omega) (by omega) (by omega) (by omega) har1 ⟨_, _, _, _, p7⟩ ?_
          intro G8 Y8 was9 har8 hp8
          refine wi_iinc4 (pc' := 379) q375_376 rfl rfl (Or.inr rfl) ?_
          refine wi_goto (t := 156) q375_379 (by decide) ?_
          refine wW_cd (c' := c + 900 * (k + 1)) (d' := d + 190000 * (k + 1)) (by (try dsimp only); omega) (by (try dsimp only); omega) ?_
          rw [show (2 * (k : Int) + 2) = 2 * ((k + 1 : Nat) : Int) by omega]
          rw [show 124 * (k : Int) + 124 = 124 * ((k + 1 : Nat) : Int) by omega] at hp8
          exact ih (k + 1) _ _ _ _ (by omega) (by omega) har8 hp8
theorem q375_43 : decode (zbc 375) 43 = .ok (.aload_n 2, 1) := by decide +kernel
theorem q375_44 : decode (zbc 375) 44 = .ok (.bipush 9, 2) := by decide +kernel
theorem q375_46 : decode (zbc 375) 46 = .ok (.iconst 0, 1) := by decide +kernel
theorem q375_47 : decode (zbc 375) 47 = .ok (.invokestatic 185, 3) := by decide +kernel
theorem wq375_47 {L9 : Nat} {xs9 : Nat → Int32} {N9 : Nat} : z_SC N9 znl zTs (zZ L9 xs9 N9) zyn zbc zrt zfr zlo (fun _ i => i) ztb 375 47 2 336 3 := sc_S (P := fun _ i => i) zTs_good q375_47 kx_545 kx_546 kx_31 kx_547 rfl ⟨by decide, by decide, by decide +kernel⟩ ⟨Nat.le_of_ble_eq_true rfl, Nat.le_of_ble_eq_true rfl⟩
theorem q375_50 : decode (zbc 375) 50 = .ok (.bipush (-102), 2) := by decide +kernel
theorem q375_52 : decode (zbc 375) 52 = .ok (.if_icmp .ne 99, 3) := by decide +kernel
theorem q375_55 : decode (zbc 375) 55 = .ok (.aload_n 2, 1) := by decide +kernel
theorem q375_56 : decode (zbc 375) 56 = .ok (.invokevirtual 233, 3) := by decide +kernel
theorem wq375_56 {L9 : Nat} {xs9 : Nat → Int32} {N9 : Nat} : z_SC N9 znl zTs (zZ L9 xs9 N9) zyn zbc zrt zfr zlo (fun _ i => i) ztb 375 56 3 206 1 := sc_V (P := fun _ i => i) (n' := 0) zTs_good q375_56 kx_509 kx_510 kx_511 kx_32 kx_512 rfl ⟨by decide, by decide, by decide +kernel⟩ rfl ⟨Nat.le_of_ble_eq_true rfl, Nat.le_of_ble_eq_true rfl⟩
theorem q375_59 : decode (zbc 375) 59 = .ok (.iconst 4, 1) := by decide +kernel
theorem q375_60 : decode (zbc 375) 60 = .ok (.if_icmp .ne 91, 3) := by decide +kernel
theorem q375_63 : decode (zbc 375) 63 = .ok (.aload_n 2, 1) := by decide +kernel
theorem q375_64 : decode (zbc 375) 64 = .ok (.invokevirtual 236, 3) := by decide +kernel
theorem wq375_64 {L9 : Nat} {xs9 : Nat → Int32} {N9 : Nat} : z_SC N9 znl zTs (zZ L9 xs9 N9) zyn zbc zrt zfr zlo (fun _ i => i) ztb 375 64 3 207 1 := sc_V (P := fun _ i => i) (n' := 0) zTs_good q375_64 kx_513 kx_514 kx_515 kx_32 kx_516 rfl ⟨by decide, by decide, by decide +kernel⟩ rfl ⟨Nat.le_of_ble_eq_true rfl, Nat.le_of_ble_eq_true rfl⟩
theorem q375_67 : decode (zbc 375) 67 = .ok (.iconst 3, 1) := by decide +kernel
theorem q375_68 : decode (zbc 375) 68 = .ok (.if_icmp .ne 83, 3) := by decide +kernel
theorem q375_71 : decode (zbc 375) 71 = .ok (.aload_n 2, 1) := by decide +kernel
theorem q375_72 : decode (zbc 375) 72 = .ok (.invokevirtual 278, 3) := by decide +kernel
theorem wq375_72 {L9 : Nat} {xs9 : Nat → Int32} {N9 : Nat} : z_SC N9 znl zTs (zZ L9 xs9 N9) zyn zbc zrt zfr zlo (fun _ i => i) ztb 375 72 3 218 1 := sc_V (P := fun _ i => i) (n' := 0) zTs_good q375_72 kx_530 kx_531 kx_532 kx_32 kx_533 rfl ⟨by decide, by decide, by decide +kernel⟩ rfl ⟨Nat.le_of_ble_eq_true rfl, Nat.le_of_ble_eq_true rfl⟩
theorem q375_75 : decode (zbc 375) 75 = .ok (.iconst 4, 1) := by decide +kernel
theorem q375_76 : decode (zbc 375) 76 = .ok (.if_icmp .ne 75, 3) := by decide +kernel
theorem q375_79 : decode (zbc 375) 79 = .ok (.aload_n 2, 1) := by decide +kernel
theorem q375_80 : decode (zbc 375) 80 = .ok (.invokevirtual 270, 3) := by decide +kernel
theorem wq375_80 {L9 : Nat} {xs9 : Nat → Int32} {N9 : Nat} : z_SC N9 znl zTs (zZ L9 xs9 N9) zyn zbc zrt zfr zlo (fun _ i => i) ztb 375 80 3 212 1 := sc_V (P := fun _ i => i) (n' := 0) zTs_good q375_80 kx_517 kx_518 kx_519 kx_32 kx_520 rfl ⟨by decide, by decide, by decide +kernel⟩ rfl ⟨Nat.le_of_ble_eq_true rfl, Nat.le_of_ble_eq_true rfl⟩
theorem q375_83 : decode (zbc 375) 83 = .ok (.iconst 1, 1) := by decide +kernel
theorem q375_84 : decode (zbc 375) 84 = .ok (.if_icmp .ne 67, 3) := by decide +kernel
theorem q375_87 : decode (zbc 375) 87 = .ok (.aload_n 2, 1) := by decide +kernel
theorem q375_88 : decode (zbc 375) 88 = .ok (.bipush 15, 2) := by decide +kernel
theorem q375_90 : decode (zbc 375) 90 = .ok (.iconst 0, 1) := by decide +kernel
theorem q375_91 : decode (zbc 375) 91 = .ok (.invokestatic 185, 3) := by decide +kernel
theorem wq375_91 {L9 : Nat} {xs9 : Nat → Int32} {N9 : Nat} : z_SC N9 znl zTs (zZ L9 xs9 N9) zyn zbc zrt zfr zlo (fun _ i => i) ztb 375 91 2 336 3 := sc_S (P := fun _ i => i) zTs_good q375_91 kx_545 kx_546 kx_31 kx_547 rfl ⟨by decide, by decide, by decide +kernel⟩ ⟨Nat.le_of_ble_eq_true rfl, Nat.le_of_ble_eq_true rfl⟩
theorem q375_94 : decode (zbc 375) 94 = .ok (.bipush (-101), 2) := by decide +kernel
theorem q375_96 : decode (zbc 375) 96 = .ok (.if_icmp .ne 55, 3) := by decide +kernel
theorem q375_99 : decode (zbc 375) 99 = .ok (.aload_n 2, 1) := by decide +kernel
theorem q375_100 : decode (zbc 375) 100 = .ok (.bipush 47, 2) := by decide +kernel
theorem q375_102 : decode (zbc 375) 102 = .ok (.iconst 0, 1) := by decide +kernel
theorem q375_103 : decode (zbc 375) 103 = .ok (.invokestatic 185, 3) := by decide +kernel
theorem wq375_103 {L9 : Nat} {xs9 : Nat → Int32} {N9 : Nat} : z_SC N9 znl zTs (zZ L9 xs9 N9) zyn zbc zrt zfr zlo (fun _ i => i) ztb 375 103 2 336 3 := sc_S (P := fun _ i => i) zTs_good q375_103 kx_545 kx_546 kx_31 kx_547 rfl ⟨by decide, by decide, by decide +kernel⟩ ⟨Nat.le_of_ble_eq_true rfl, Nat.le_of_ble_eq_true rfl⟩
theorem q375_106 : decode (zbc 375) 106 = .ok (.bipush (-104), 2) := by decide +kernel
theorem q375_108 : decode (zbc 375) 108 = .ok (.if_icmp .ne 43, 3) := by decide +kernel
theorem q375_111 : decode (zbc 375) 111 = .ok (.aload_n 2, 1) := by decide +kernel
theorem q375_112 : decode (zbc 375) 112 = .ok (.bipush 11, 2) := by decide +kernel
theorem q375_114 : decode (zbc 375) 114 = .ok (.iconst 0, 1) := by decide +kernel
theorem q375_115 : decode (zbc 375) 115 = .ok (.invokestatic 185, 3) := by decide +kernel
theorem wq375_115 {L9 : Nat} {xs9 : Nat → Int32} {N9 : Nat} : z_SC N9 znl zTs (zZ L9 xs9 N9) zyn zbc zrt zfr zlo (fun _ i => i) ztb 375 115 2 336 3 := sc_S (P := fun _ i => i) zTs_good q375_115 kx_545 kx_546 kx_31 kx_547 rfl ⟨by decide, by decide, by decide +kernel⟩ ⟨Nat.le_of_ble_eq_true rfl, Nat.le_of_ble_eq_true rfl⟩
theorem q375_118 : decode (zbc 375) 118 = .ok (.bipush (-101), 2) := by decide +kernel
theorem q375_120 : decode (zbc 375) 120 = .ok (.if_icmp .ne 31, 3) := by decide +kernel
theorem q375_123 : decode (zbc 375) 123 = .ok (.aload_n 2, 1) := by decide +kernel
theorem q375_124 : decode (zbc 375) 124 = .ok (.aload_n 1, 1) := by decide +kernel
theorem q375_125 : decode (zbc 375) 125 = .ok (.iconst 0, 1) := by decide +kernel
theorem q375_126 : decode (zbc 375) 126 = .ok (.iaload, 1) := by decide +kernel
theorem q375_127 : decode (zbc 375) 127 = .ok (.invokestatic 310, 3) := by decide +kernel
theorem wk375_127 : wSC 375 127 341 2 none := wk_S q375_127 kx_1394 kx_1395 kx_31 kx_1396 ⟨by decide, by decide, by decide +kernel⟩ ⟨Nat.le_of_ble_eq_true rfl, Nat.le_of_ble_eq_true rfl⟩
theorem q375_130 : decode (zbc 375) 130 = .ok (.ifCond .eq 21, 3) := by decide +kernel
theorem q375_133 : decode (zbc 375) 133 = .ok (.aload_n 2, 1) := by decide +kernel
theorem q375_134 : decode (zbc 375) 134 = .ok (.invokestatic 314, 3) := by decide +kernel
theorem wk375_134 : wSC 375 134 342 1 none := wk_S q375_134 kx_1402 kx_1403 kx_31 kx_1404 ⟨by decide, by decide, by decide +kernel⟩ ⟨Nat.le_of_ble_eq_true rfl, Nat.le_of_ble_eq_true rfl⟩
theorem q375_137 : decode (zbc 375) 137 = .ok (.ifCond .eq 14, 3) := by decide +kernel
theorem q375_140 : decode (zbc 375) 140 = .ok (.aload_n 2, 1) := by decide +kernel
theorem q375_141 : decode (zbc 375) 141 = .ok (.invokestatic 318, 3) := by decide +kernel
theorem wk375_141 : wSC 375 141 343 1 none := wk_S q375_141 kx_1405 kx_1406 kx_31 kx_1407 ⟨by decide, by decide, by decide +kernel⟩ ⟨Nat.le_of_ble_eq_true rfl, Nat.le_of_ble_eq_true rfl⟩
theorem q375_144 : decode (zbc 375) 144 = .ok (.ifCond .eq 7, 3) := by decide +kernel
theorem q375_147 : decode (zbc 375) 147 = .ok (.iconst 1, 1) := by decide +kernel
theorem q375_148 : decode (zbc 375) 148 = .ok (.goto 4, 3) := by decide +kernel
theorem q375_152 : decode (zbc 375) 152 = .ok (.istore_n 3, 1) := by decide +kernel
theorem q375_153 : decode (zbc 375) 153 = .ok (.iconst 0, 1) := by decide +kernel
theorem q375_154 : decode (zbc 375) 154 = .ok (.istore 4, 2) := by decide +kernel
theorem q375_382 : decode (zbc 375) 382 = .ok (.iload_n 3, 1) := by decide +kernel
theorem q375_383 : decode (zbc 375) 383 = .ok (.ireturn, 1) := by decide +kernel
theorem lw_43 {X : Nat × (Nat → Int32)} {b : WB} {F : GM} {i6 : Nat} {S : Int → Int} {G : GM} {Y : DY} {a3 a4 a5 a6 : Value} {c d : Nat} (hb1 : 3600 ≤ b.1) (hb2 : 581000 ≤ b.2.1) (hc : c ≤ 300) (hd : d ≤ 7000) (har : wAr i6 6 S Y) (hJ : JS Gz G) : wW (229, X) 375 b 43 [.ref 310, .ref (1000 + i6), .ref 192, a3, a4, a5, a6] [] G F Y c d (fun o _ _ _ => o = some (.int (zi 1))) := by
  obtain ⟨p, e10, e9, e196⟩ := PG_0 hJ
  obtain ⟨v0, v1, v2, v3⟩ := rFst_v
  refine wi_aload_n (i := 2) (pc' := 44) q375_43 rfl rfl rfl ?_
  refine wi_bipush (pc' := 46) q375_44 rfl (by decide) ?_
  refine wi_iconst (pc' := 47) q375_46 rfl ?_
  refine wi_cx (u9 := (229, X)) (pc' := 50) wq375_47 rfl (cL_s2 (cU_undo p.2.1.1.1 p) zLc_i) (fun h => absurd h (by decide)) rfl rfl (by (try dsimp only); omega) (by (try dsimp only); omega) ?_
  intro G1 hx
  subst hx
  refine wi_bipush (pc' := 52) q375_50 rfl (by decide) ?_
  refine wi_icmp_ne (t := 151) (pc' := 55) q375_52 (by decide) rfl (by omega) (by omega) (fun h1 => absurd h1 (by omega)) (fun h1 => ?_)
  refine wi_aload_n (i := 2) (pc' := 56) q375_55 rfl rfl rfl ?_
  refine wi_cp (u9 := (229, X)) (pc' := 59) wq375_56 rfl (cQ_width (Nat.le_refl _) p.ok p.hR) (fun _ => ⟨_, _, rfl⟩) rfl rfl (by (try dsimp only); omega) (by (try dsimp only); omega) ?_
  rw [v0]
  refine wi_iconst (pc' := 60) q375_59 rfl ?_
  refine wi_icmp_ne (t := 151) (pc' := 63) q375_60 (by decide) rfl (by omega) (by omega) (fun h2 => absurd h2 (by omega)) (fun h2 => ?_)
  refine wi_aload_n (i := 2) (pc' := 64) q375_63 rfl rfl rfl ?_
  refine wi_cp (u9 := (229, X)) (pc' := 67) wq375_64 rfl (cQ_height (Nat.le_refl _) p.ok p.hR) (fun _ => ⟨_, _, rfl⟩) rfl rfl (by (try dsimp only); omega) (by (try dsimp only); omega) ?_
  rw [v1]
  refine wi_iconst (pc' := 68) q375_67 rfl ?_
  refine wi_icmp_ne (t := 151) (pc' := 71) q375_68 (by decide) rfl (by omega) (by omega) (fun h3 => absurd h3 (by omega)) (fun h3 => ?_)
  refine wi_aload_n (i := 2) (pc' := 72) q375_71 rfl rfl rfl ?_
  refine wi_cp (u9 := (229, X)) (pc' := 75) wq375_72 rfl (cQ_sight (Nat.le_refl _) p.ok p.hR) (fun _ => ⟨_, _, rfl⟩) rfl rfl (by (try dsimp only); omega) (by (try dsimp only); omega) ?_
  rw [v2]
  refine wi_iconst (pc' := 76) q375_75 rfl ?_
  refine wi_icmp_ne (t := 151) (pc' := 79) q375_76 (by decide) rfl (by omega) (by omega) (fun h4 => absurd h4 (by omega)) (fun h4 => ?_)
  refine wi_aload_n (i := 2) (pc' := 80) q375_79 rfl rfl rfl ?_
  refine wi_cp (u9 := (229, X)) (pc' := 83) wq375_80 rfl (cQ_plankCount (Nat.le_refl _) p.ok p.hR) (fun _ => ⟨_, _, rfl⟩) rfl rfl (by (try dsimp only); omega) (by (try dsimp only); omega) ?_
  rw [v3]
  refine wi_iconst (pc' := 84) q375_83 rfl ?_
  refine wi_icmp_ne (t := 151) (pc' := 87) q375_84 (by decide) rfl (by omega) (by omega) (fun h5 => absurd h5 (by omega)) (fun h5 => ?_)
  refine wi_aload_n (i := 2) (pc' := 88) q375_87 rfl rfl rfl ?_
  refine wi_bipush (pc' := 90) q375_88 rfl (by decide) ?_
  refine wi_iconst (pc' := 91) q375_90 rfl ?_
  refine wi_cx (u9 := (229, X)) (pc' := 94) wq375_91 rfl (cL_s2 (cU_error e10) zLc_i) (fun h => absurd h (by decide)) rfl rfl (by (try dsimp only); omega) (by (try dsimp only); omega) ?_
  intro G2 hx2
  have p2 := PG_q p hx2
  have e9 : G2 192 9 = 0 := by
    rw [hx2 192 (by decide) (by decide)]
    exact e9
  have e196 : G2 196 0 = 0 := by
    rw [hx2 196 (by decide) (by decide)]
    exact e196
  refine wi_bipush (pc' := 96) q375_94 rfl (by decide) ?_
  refine wi_icmp_ne (t := 151) (pc' := 99) q375_96 (by decide) rfl (by omega) (by omega) (fun h6 => absurd h6 (by omega)) (fun h6 => ?_)
  refine wi_aload_n (i := 2) (pc' := 100) q375_99 rfl rfl rfl ?_
  refine wi_bipush (pc' := 102) q375_100 rfl (by decide) ?_
  refine wi_iconst (pc' := 103) q375_102 rfl ?_
  refine wi_cx (u9 := (229, X)) (pc' := 106) wq375_103 rfl (cL_s2 (cU_byte e9) zLc_i) (fun h => absurd h (by decide)) rfl rfl (by (try dsimp only); omega) (by (try dsimp only); omega) ?_
  intro G3 hx3
  have p3 := PG_q p2 hx3
  have e196 : G3 196 0 = 0 := by
    rw [hx3 196 (by decide) (by decide)]
    exact e196
  refine wi_bipush (pc' := 108) q375_106 rfl (by decide) ?_
  refine wi_icmp_ne (t := 151) (pc' := 111) q375_108 (by decide) rfl (by omega) (by omega) (fun h7 => absurd h7 (by omega)) (fun h7 => ?_)
  refine wi_aload_n (i := 2) (pc' := 112) q375_111 rfl rfl rfl ?_
  refine wi_bipush (pc' := 114) q375_112 rfl (by decide) ?_
  refine wi_iconst (pc' := 115) q375_114 rfl ?_
  refine wi_cx (u9 := (229, X)) (pc' := 118) wq375_115 rfl (cL_s2 (cU_rest e196 p3) zLc_i) (fun h => absurd h (by decide)) rfl rfl (by (try dsimp only); omega) (by (try dsimp only); omega) ?_
  intro G4 hx
  subst hx
  refine wi_bipush (pc' := 120) q375_118 rfl (by decide) ?_
  refine wi_icmp_ne (t := 151) (pc' := 123) q375_120 (by decide) rfl (by omega) (by omega) (fun h8 => absurd h8 (by omega)) (fun h8 => ?_)
  refine wi_aload_n (i := 2) (pc' := 124) q375_123 rfl rfl rfl ?_
  refine wi_aload_n (i := 1) (pc' := 125) q375_124 rfl rfl rfl ?_
  refine wi_iconst (pc' := 126) q375_125 rfl ?_
  refine wi_arget (pc' := 127) q375_126 rfl har ⟨by omega, by omega⟩ (by omega) ?_
  refine wi_call (pc' := 130) wk375_127 rfl (cS_paths p3) rfl (Nat.le_of_ble_eq_true rfl) (Nat.le_of_ble_eq_true rfl) (by (try dsimp only); omega) (by (try dsimp only); omega) (wrv_n) ?_
  rintro o1 G1 F1 Y1 ⟨rfl, p1, rfl, f1⟩ -
  have har1 := wAr_fr har f1
  refine wi_if_eq (t := 151) (pc' := 133) q375_130 (by decide) rfl (by omega) (fun h9 => absurd h9 (by omega)) (fun h9 => ?_)
  refine wi_aload_n (i := 2) (pc' := 134) q375_133 rfl rfl rfl ?_
  refine wi_call (pc' := 137) wk375_134 rfl (cS_lights p1) rfl (Nat.le_of_ble_eq_true rfl) (Nat.le_of_ble_eq_true rfl) (by (try dsimp only); omega) (by (try dsimp only); omega) (wrv_n) ?_
  rintro o2 G2 F2 Y2 ⟨rfl, p2, rfl, rfl⟩ -
  refine wi_if_eq (t := 151) (pc' := 140) q375_137 (by decide) rfl (by omega) (fun h10 => absurd h10 (by omega)) (fun h10 => ?_)
  refine wi_aload_n (i := 2) (pc' := 141) q375_140 rfl rfl rfl ?_
  refine wi_call (pc' := 144) wk375_141 rfl (cS_travellers (by omega) p2) rfl (Nat.le_of_ble_eq_true rfl) (Nat.le_of_ble_eq_true rfl) (by (try dsimp only); omega) (by (try dsimp only); omega) (wrv_n) ?_
  rintro o3 G3 F3 Y3 ⟨rfl, p3, rfl, f3⟩ -
  have har3 := wAr_fr har1 f3
  refine wi_if_eq (t := 151) (pc' := 147) q375_144 (by decide) rfl (by omega) (fun h11 => absurd h11 (by omega)) (fun h11 => ?_)
  refine wi_iconst (pc' := 148) q375_147 rfl ?_
  refine wi_goto (t := 152) q375_148 (by decide) ?_
  refine wi_istore3 (pc' := 153) q375_152 rfl rfl rfl (Or.inr rfl) ?_
  refine wi_iconst (pc' := 154) q375_153 rfl ?_
  refine wi_istore4 (pc' := 156) q375_154 rfl rfl (Or.inr rfl) ?_
  refine wW_cd (c' := 820) (d' := 10300) (by (try dsimp only); omega) (by (try dsimp only); omega) ?_
  rw [show (0 : Int) = 2 * ((0 : Nat) : Int) from rfl]
  refine lw_k (c := 820) (d := 10300) (by omega) (by omega) ?_ 99 0 _ _ _ _ (by omega) (by omega) har3 ⟨_, _, _, _, p3⟩
  intro a5 a6 G9 Y9 k
  refine wi_iload_n (i := 3) (pc' := 383) q375_382 rfl rfl rfl ?_
  refine wW_r (o := some (.int (zi 1))) ⟨q375_383, _, rfl, rfl⟩ rfl (by (try dsimp only); omega) (by (try dsimp only); omega) ?_
  exact rfl
