/-! The law's ticks(x, w): the strengths afterwards. -/
theorem stS_le {s0 s : Int → Int} {y k : Int} (h : cW (s0 (30 + 12 * y + k)) (s (30 + 12 * y + k))) : (if 10 < s (30 + 12 * y + k) then s (30 + 12 * y + k) - 10 else 0) ≤ stS s0 y k ∧ (stS s0 y k = 0 ∨ zb (10 < s (30 + 12 * y + k)) + zb (s (30 + 12 * y + k) = 1) = 1) := by
  unfold cW at h
  unfold stS zb
  generalize s0 (30 + 12 * y + k) = a at *
  generalize s (30 + 12 * y + k) = b at *
  constructor
  · split <;> split <;> omega
  · by_cases ha : 10 < a
    · right
      by_cases hb : 10 < b
      · rw [if_pos hb, if_neg (by omega)]
        decide
      · rw [if_neg hb, if_pos (by omega)]
        decide
    · left
      rw [if_neg ha]
theorem q344_249 : decode (zbc 344) 249 = .ok (.iload 12, 2) := by decide +kernel
theorem q344_251 : decode (zbc 344) 251 = .ok (.aload_n 0, 1) := by decide +kernel
theorem q344_252 : decode (zbc 344) 252 = .ok (.invokevirtual 233, 3) := by decide +kernel
theorem wq344_252 {L9 : Nat} {xs9 : Nat → Int32} {N9 : Nat} : z_SC N9 znl zTs (zZ L9 xs9 N9) zyn zbc zrt zfr zlo (fun _ i => i) ztb 344 252 3 206 1 := sc_V (P := fun _ i => i) (n' := 0) zTs_good q344_252 kx_509 kx_510 kx_511 kx_32 kx_512 rfl ⟨by decide, by decide, by decide +kernel⟩ rfl ⟨Nat.le_of_ble_eq_true rfl, Nat.le_of_ble_eq_true rfl⟩
theorem q344_255 : decode (zbc 344) 255 = .ok (.if_icmp .ge 102, 3) := by decide +kernel
theorem q344_258 : decode (zbc 344) 258 = .ok (.iload 10, 2) := by decide +kernel
theorem q344_260 : decode (zbc 344) 260 = .ok (.ifCond .eq 88, 3) := by decide +kernel
theorem q344_263 : decode (zbc 344) 263 = .ok (.aload_n 0, 1) := by decide +kernel
theorem q344_264 : decode (zbc 344) 264 = .ok (.bipush 18, 2) := by decide +kernel
theorem q344_266 : decode (zbc 344) 266 = .ok (.iload 12, 2) := by decide +kernel
theorem q344_268 : decode (zbc 344) 268 = .ok (.iload 11, 2) := by decide +kernel
theorem q344_270 : decode (zbc 344) 270 = .ok (.invokestatic 251, 3) := by decide +kernel
theorem wq344_270 {L9 : Nat} {xs9 : Nat → Int32} {N9 : Nat} : z_SC N9 znl zTs (zZ L9 xs9 N9) zyn zbc zrt zfr zlo (fun _ i => i) ztb 344 270 2 335 4 := sc_S (P := fun _ i => i) zTs_good q344_270 kx_1385 kx_1386 kx_31 kx_1387 rfl ⟨by decide, by decide, by decide +kernel⟩ ⟨Nat.le_of_ble_eq_true rfl, Nat.le_of_ble_eq_true rfl⟩
theorem q344_273 : decode (zbc 344) 273 = .ok (.iconst 1, 1) := by decide +kernel
theorem q344_274 : decode (zbc 344) 274 = .ok (.if_icmp .ne 16, 3) := by decide +kernel
theorem q344_290 : decode (zbc 344) 290 = .ok (.iconst 0, 1) := by decide +kernel
theorem q344_291 : decode (zbc 344) 291 = .ok (.aload 9, 2) := by decide +kernel
theorem q344_293 : decode (zbc 344) 293 = .ok (.bipush 12, 2) := by decide +kernel
theorem q344_295 : decode (zbc 344) 295 = .ok (.iload 11, 2) := by decide +kernel
theorem q344_297 : decode (zbc 344) 297 = .ok (.imul, 1) := by decide +kernel
theorem q344_298 : decode (zbc 344) 298 = .ok (.iload 12, 2) := by decide +kernel
theorem q344_300 : decode (zbc 344) 300 = .ok (.iadd, 1) := by decide +kernel
theorem q344_301 : decode (zbc 344) 301 = .ok (.iaload, 1) := by decide +kernel
theorem q344_302 : decode (zbc 344) 302 = .ok (.if_icmp .gt 46, 3) := by decide +kernel
theorem q344_305 : decode (zbc 344) 305 = .ok (.aload 9, 2) := by decide +kernel
theorem q344_307 : decode (zbc 344) 307 = .ok (.bipush 12, 2) := by decide +kernel
theorem q344_309 : decode (zbc 344) 309 = .ok (.iload 11, 2) := by decide +kernel
theorem q344_311 : decode (zbc 344) 311 = .ok (.imul, 1) := by decide +kernel
theorem q344_312 : decode (zbc 344) 312 = .ok (.iload 12, 2) := by decide +kernel
theorem q344_314 : decode (zbc 344) 314 = .ok (.iadd, 1) := by decide +kernel
theorem q344_315 : decode (zbc 344) 315 = .ok (.iaload, 1) := by decide +kernel
theorem q344_316 : decode (zbc 344) 316 = .ok (.ifCond .eq 28, 3) := by decide +kernel
theorem q344_344 : decode (zbc 344) 344 = .ok (.iconst 1, 1) := by decide +kernel
theorem q344_345 : decode (zbc 344) 345 = .ok (.goto 4, 3) := by decide +kernel
theorem q344_349 : decode (zbc 344) 349 = .ok (.istore 10, 2) := by decide +kernel
theorem q344_351 : decode (zbc 344) 351 = .ok (.iinc 12 1, 3) := by decide +kernel
theorem q344_354 : decode (zbc 344) 354 = .ok (.goto (-105), 3) := by decide +kernel
theorem q344_319 : decode (zbc 344) 319 = .ok (.aload_n 0, 1) := by decide +kernel
theorem q344_320 : decode (zbc 344) 320 = .ok (.bipush 18, 2) := by decide +kernel
theorem q344_322 : decode (zbc 344) 322 = .ok (.iload 12, 2) := by decide +kernel
theorem q344_324 : decode (zbc 344) 324 = .ok (.iload 11, 2) := by decide +kernel
theorem q344_326 : decode (zbc 344) 326 = .ok (.invokestatic 251, 3) := by decide +kernel
theorem wq344_326 {L9 : Nat} {xs9 : Nat → Int32} {N9 : Nat} : z_SC N9 znl zTs (zZ L9 xs9 N9) zyn zbc zrt zfr zlo (fun _ i => i) ztb 344 326 2 335 4 := sc_S (P := fun _ i => i) zTs_good q344_326 kx_1385 kx_1386 kx_31 kx_1387 rfl ⟨by decide, by decide, by decide +kernel⟩ ⟨Nat.le_of_ble_eq_true rfl, Nat.le_of_ble_eq_true rfl⟩
theorem q344_329 : decode (zbc 344) 329 = .ok (.aload_n 0, 1) := by decide +kernel
theorem q344_330 : decode (zbc 344) 330 = .ok (.bipush 16, 2) := by decide +kernel
theorem q344_332 : decode (zbc 344) 332 = .ok (.iload 12, 2) := by decide +kernel
theorem q344_334 : decode (zbc 344) 334 = .ok (.iload 11, 2) := by decide +kernel
theorem q344_336 : decode (zbc 344) 336 = .ok (.invokestatic 251, 3) := by decide +kernel
theorem wq344_336 {L9 : Nat} {xs9 : Nat → Int32} {N9 : Nat} : z_SC N9 znl zTs (zZ L9 xs9 N9) zyn zbc zrt zfr zlo (fun _ i => i) ztb 344 336 2 335 4 := sc_S (P := fun _ i => i) zTs_good q344_336 kx_1385 kx_1386 kx_31 kx_1387 rfl ⟨by decide, by decide, by decide +kernel⟩ ⟨Nat.le_of_ble_eq_true rfl, Nat.le_of_ble_eq_true rfl⟩
theorem q344_339 : decode (zbc 344) 339 = .ok (.iadd, 1) := by decide +kernel
theorem q344_340 : decode (zbc 344) 340 = .ok (.iconst 1, 1) := by decide +kernel
theorem q344_341 : decode (zbc 344) 341 = .ok (.if_icmp .ne 7, 3) := by decide +kernel
theorem q344_277 : decode (zbc 344) 277 = .ok (.aload_n 0, 1) := by decide +kernel
theorem q344_278 : decode (zbc 344) 278 = .ok (.bipush 19, 2) := by decide +kernel
theorem q344_280 : decode (zbc 344) 280 = .ok (.iload 12, 2) := by decide +kernel
theorem q344_282 : decode (zbc 344) 282 = .ok (.iload 11, 2) := by decide +kernel
theorem q344_284 : decode (zbc 344) 284 = .ok (.invokestatic 251, 3) := by decide +kernel
theorem wq344_284 {L9 : Nat} {xs9 : Nat → Int32} {N9 : Nat} : z_SC N9 znl zTs (zZ L9 xs9 N9) zyn zbc zrt zfr zlo (fun _ i => i) ztb 344 284 2 335 4 := sc_S (P := fun _ i => i) zTs_good q344_284 kx_1385 kx_1386 kx_31 kx_1387 rfl ⟨by decide, by decide, by decide +kernel⟩ ⟨Nat.le_of_ble_eq_true rfl, Nat.le_of_ble_eq_true rfl⟩
theorem q344_287 : decode (zbc 344) 287 = .ok (.goto 4, 3) := by decide +kernel
theorem tk_j {X : Nat × (Nat → Int32)} {B : Int} {sv : Nat → Int → Int} {u : Int} {h : Nat → Int → Int} {s : Int → Int} {b : WB} {c d : Nat} {F : GM} {Y : DY} {Q : WQ} {s0 D : Int → Int} {Y0 : DY} {r1 r2 r3 r4 r5 r6 r7 r8 a13 a14 : Value} (hb1 : c ≤ b.1) (hb2 : d ≤ b.2.1) (har : wFa Y0 144 D Y) (hD : ∀ yy kk, 0 ≤ kk → kk < s 0 → 0 ≤ yy → yy < s 1 → D (12 * yy + kk) = stS s0 yy kk) (hok0 : ∀ yy kk, 0 ≤ kk → kk < s 0 → 0 ≤ yy → yy < s 1 → 0 ≤ stS s0 yy kk ∧ stS s0 yy kk ≤ 9) (hcw : ∀ i, 30 ≤ i → i < 174 → cW (s0 i) (s i)) {y : Nat} (hy : (y : Int) < s 1) (hk : ∀ G (k : Nat), (k : Int) = s 0 → PG B sv u h s G → wW (229, X) 344 b 357 [.ref 192, r1, r2, r3, r4, r5, r6, r7, r8, .ref (1000 + Y0.2.2), .int (zi 1), .int (zi (y : Int)), .int (zi (k : Int)), a13, a14] [] G F Y c d Q) : ∀ (d9 : Nat) (k : Nat) (G : GM), s 0 - (k : Int) < (d9 : Int) → (k : Int) ≤ s 0 → PG B sv u h s G → wW (229, X) 344 b 249 [.ref 192, r1, r2, r3, r4, r5, r6, r7, r8, .ref (1000 + Y0.2.2), .int (zi 1), .int (zi (y : Int)), .int (zi (k : Int)), a13, a14] [] G F Y c d Q := by
  intro d9
  induction d9 with
  | zero =>
    intro k
    intros
    exact absurd (by assumption) (by omega)
  | succ d9 ih =>
      intro k G hd hk9 p
      obtain ⟨a0, a1, -⟩ := id p.ok
      refine wi_iload (i := 12) (pc' := 251) q344_249 rfl rfl ?_
      refine wi_aload_n (i := 0) (pc' := 252) q344_251 rfl rfl rfl ?_
      refine wi_cp (u9 := (229, X)) (pc' := 255) wq344_252 rfl (cQ_width (Nat.le_refl _) p.ok p.hR) (fun _ => ⟨_, _, rfl⟩) rfl rfl (by (try dsimp only); omega) (by (try dsimp only); omega) ?_
      refine wi_icmp_ge (t := 357) (pc' := 258) q344_255 (by decide) rfl (by omega) (by omega) ?_ ?_
      · intro h9
        exact hk G k (by omega) p
      · intro h9
        have hc8 := wOk_p (x := (k : Int)) (y := (y : Int)) p.ok (by omega) (by omega)
        have hd8 := hD (y : Int) (k : Int) (by omega) (by omega) (by omega) (by omega)
        have hr8 := hok0 (y : Int) (k : Int) (by omega) (by omega) (by omega) (by omega)
        obtain ⟨hle, h18⟩ := stS_le (s0 := s0) (s := s) (y := (y : Int)) (k := (k : Int)) (hcw _ (by omega) (by omega))
        rw [← hd8] at hr8 hle h18
        have z1 := zb_rng (p := 10 < (s (30 + 12 * (y : Int) + (k : Int))))
        have z2 := zb_rng (p := (s (30 + 12 * (y : Int) + (k : Int))) = 1)
        refine wi_iload (i := 10) (pc' := 260) q344_258 rfl rfl ?_
        refine wi_if_eq (t := 348) (pc' := 263) q344_260 (by decide) rfl (by omega) (fun h1 => absurd h1 (by omega)) (fun h1 => ?_)
        refine wi_aload_n (i := 0) (pc' := 264) q344_263 rfl rfl rfl ?_
        refine wi_bipush (pc' := 266) q344_264 rfl (by decide) ?_
        refine wi_iload (i := 12) (pc' := 268) q344_266 rfl rfl ?_
        refine wi_iload (i := 11) (pc' := 270) q344_268 rfl rfl ?_
        refine wi_cv (u9 := (229, X)) (pc' := 273) wq344_270 rfl (cL_s3 (pL_isPlank p (by omega) (by omega)) zLc_i) (fun h => absurd h (by decide)) rfl rfl (vL_isPlank (s := s) (x := (k : Int)) (y := (y : Int)) (by omega) (by omega)).1 (by (try dsimp only); omega) (by (try dsimp only); omega) ?_
        intro Gp1 p1
        rw [(vL_isPlank (s := s) (x := (k : Int)) (y := (y : Int)) (by omega) (by omega)).2]
        refine wi_iconst (pc' := 274) q344_273 rfl ?_
        refine wi_icmp_ne (t := 290) (pc' := 277) q344_274 (by decide) rfl zr_zb (by omega) ?_ ?_
        · intro h8
          have hp8 : ¬ 10 < (s (30 + 12 * (y : Int) + (k : Int))) := fun h => h8 (zb_t h)
          rw [if_neg hp8] at hle
          refine wi_iconst (pc' := 291) q344_290 rfl ?_
          refine wi_aload (i := 9) (pc' := 293) q344_291 rfl rfl ?_
          refine wi_bipush (pc' := 295) q344_293 rfl (by decide) ?_
          refine wi_iload (i := 11) (pc' := 297) q344_295 rfl rfl ?_
          refine wi_imul (pc' := 298) q344_297 rfl ?_
          refine wi_iload (i := 12) (pc' := 300) q344_298 rfl rfl ?_
          refine wi_iadd (pc' := 301) q344_300 rfl ?_
          refine wi_faget (pc' := 302) q344_301 rfl har ⟨by omega, by omega⟩ (by omega) ?_
          refine wi_icmp_gt (t := 348) (pc' := 305) q344_302 (by decide) rfl (by omega) (by omega) (fun h2 => absurd h2 (by omega)) (fun h2 => ?_)
          refine wi_aload (i := 9) (pc' := 307) q344_305 rfl rfl ?_
          refine wi_bipush (pc' := 309) q344_307 rfl (by decide) ?_
          refine wi_iload (i := 11) (pc' := 311) q344_309 rfl rfl ?_
          refine wi_imul (pc' := 312) q344_311 rfl ?_
          refine wi_iload (i := 12) (pc' := 314) q344_312 rfl rfl ?_
          refine wi_iadd (pc' := 315) q344_314 rfl ?_
          refine wi_faget (pc' := 316) q344_315 rfl har ⟨by omega, by omega⟩ (by omega) ?_
          refine wi_if_eq (t := 344) (pc' := 319) q344_316 (by decide) rfl (by omega) ?_ ?_
          · intro h7
            refine wi_iconst (pc' := 345) q344_344 rfl ?_
            refine wi_goto (t := 349) q344_345 (by decide) ?_
            refine wi_istore10 (pc' := 351) q344_349 rfl rfl (Or.inr rfl) ?_
            refine wi_iinc12 (pc' := 354) q344_351 rfl rfl (Or.inr rfl) ?_
            refine wi_goto (t := 249) q344_354 (by decide) ?_
            rw [show ((k : Int) + 1) = ((k + 1 : Nat) : Int) by omega]
            exact ih (k + 1) _ (by omega) (by omega) p1
          · intro h7
            refine wi_aload_n (i := 0) (pc' := 320) q344_319 rfl rfl rfl ?_
            refine wi_bipush (pc' := 322) q344_320 rfl (by decide) ?_
            refine wi_iload (i := 12) (pc' := 324) q344_322 rfl rfl ?_
            refine wi_iload (i := 11) (pc' := 326) q344_324 rfl rfl ?_
            refine wi_cv (u9 := (229, X)) (pc' := 329) wq344_326 rfl (cL_s3 (pL_isPlank p1 (by omega) (by omega)) zLc_i) (fun h => absurd h (by decide)) rfl rfl (vL_isPlank (s := s) (x := (k : Int)) (y := (y : Int)) (by omega) (by omega)).1 (by (try dsimp only); omega) (by (try dsimp only); omega) ?_
            intro Gp2 p2
            rw [(vL_isPlank (s := s) (x := (k : Int)) (y := (y : Int)) (by omega) (by omega)).2]
            refine wi_aload_n (i := 0) (pc' := 330) q344_329 rfl rfl rfl ?_
            refine wi_bipush (pc' := 332) q344_330 rfl (by decide) ?_
            refine wi_iload (i := 12) (pc' := 334) q344_332 rfl rfl ?_
            refine wi_iload (i := 11) (pc' := 336) q344_334 rfl rfl ?_
            refine wi_cv (u9 := (229, X)) (pc' := 339) wq344_336 rfl (cL_s3 (pL_isWater p2 (by omega) (by omega)) zLc_i) (fun h => absurd h (by decide)) rfl rfl (vL_isWater (s := s) (x := (k : Int)) (y := (y : Int)) (by omega) (by omega)).1 (by (try dsimp only); omega) (by (try dsimp only); omega) ?_
            intro Gp3 p3
            rw [(vL_isWater (s := s) (x := (k : Int)) (y := (y : Int)) (by omega) (by omega)).2]
            refine wi_iadd (pc' := 340) q344_339 rfl ?_
            refine wi_iconst (pc' := 341) q344_340 rfl ?_
            refine wi_icmp_ne (t := 348) (pc' := 344) q344_341 (by decide) rfl (by omega) (by omega) (fun h3 => absurd h3 (by omega)) (fun h3 => ?_)
            refine wi_iconst (pc' := 345) q344_344 rfl ?_
            refine wi_goto (t := 349) q344_345 (by decide) ?_
            refine wi_istore10 (pc' := 351) q344_349 rfl rfl (Or.inr rfl) ?_
            refine wi_iinc12 (pc' := 354) q344_351 rfl rfl (Or.inr rfl) ?_
            refine wi_goto (t := 249) q344_354 (by decide) ?_
            rw [show ((k : Int) + 1) = ((k + 1 : Nat) : Int) by omega]
            exact ih (k + 1) _ (by omega) (by omega) p3
        · intro h8
          have hp8 : 10 < (s (30 + 12 * (y : Int) + (k : Int))) := zb_one.mp h8
          rw [if_pos hp8] at hle
          refine wi_aload_n (i := 0) (pc' := 278) q344_277 rfl rfl rfl ?_
          refine wi_bipush (pc' := 280) q344_278 rfl (by decide) ?_
          refine wi_iload (i := 12) (pc' := 282) q344_280 rfl rfl ?_
          refine wi_iload (i := 11) (pc' := 284) q344_282 rfl rfl ?_
          refine wi_cv (u9 := (229, X)) (pc' := 287) wq344_284 rfl (cL_s3 (pL_plankStrength p1  (by omega) (by omega)) zLc_i) (fun h => absurd h (by decide)) rfl rfl (vL_strength (x := (k : Int)) (y := (y : Int)) p1.ok (by omega) (by omega) hp8).1 (by (try dsimp only); omega) (by (try dsimp only); omega) ?_
          intro Gp4 p4
          rw [(vL_strength (x := (k : Int)) (y := (y : Int)) p1.ok (by omega) (by omega) hp8).2]
          refine wi_goto (t := 291) q344_287 (by decide) ?_
          refine wi_aload (i := 9) (pc' := 293) q344_291 rfl rfl ?_
          refine wi_bipush (pc' := 295) q344_293 rfl (by decide) ?_
          refine wi_iload (i := 11) (pc' := 297) q344_295 rfl rfl ?_
          refine wi_imul (pc' := 298) q344_297 rfl ?_
          refine wi_iload (i := 12) (pc' := 300) q344_298 rfl rfl ?_
          refine wi_iadd (pc' := 301) q344_300 rfl ?_
          refine wi_faget (pc' := 302) q344_301 rfl har ⟨by omega, by omega⟩ (by omega) ?_
          refine wi_icmp_gt (t := 348) (pc' := 305) q344_302 (by decide) rfl (by omega) (by omega) (fun h4 => absurd h4 (by omega)) (fun h4 => ?_)
          refine wi_aload (i := 9) (pc' := 307) q344_305 rfl rfl ?_
          refine wi_bipush (pc' := 309) q344_307 rfl (by decide) ?_
          refine wi_iload (i := 11) (pc' := 311) q344_309 rfl rfl ?_
          refine wi_imul (pc' := 312) q344_311 rfl ?_
          refine wi_iload (i := 12) (pc' := 314) q344_312 rfl rfl ?_
          refine wi_iadd (pc' := 315) q344_314 rfl ?_
          refine wi_faget (pc' := 316) q344_315 rfl har ⟨by omega, by omega⟩ (by omega) ?_
          refine wi_if_eq (t := 344) (pc' := 319) q344_316 (by decide) rfl (by omega) ?_ ?_
          · intro h7
            refine wi_iconst (pc' := 345) q344_344 rfl ?_
            refine wi_goto (t := 349) q344_345 (by decide) ?_
            refine wi_istore10 (pc' := 351) q344_349 rfl rfl (Or.inr rfl) ?_
            refine wi_iinc12 (pc' := 354) q344_351 rfl rfl (Or.inr rfl) ?_
            refine wi_goto (t := 249) q344_354 (by decide) ?_
            rw [show ((k : Int) + 1) = ((k + 1 : Nat) : Int) by omega]
            exact ih (k + 1) _ (by omega) (by omega) p4
          · intro h7
            refine wi_aload_n (i := 0) (pc' := 320) q344_319 rfl rfl rfl ?_
            refine wi_bipush (pc' := 322) q344_320 rfl (by decide) ?_
            refine wi_iload (i := 12) (pc' := 324) q344_322 rfl rfl ?_
            refine wi_iload (i := 11) (pc' := 326) q344_324 rfl rfl ?_
            refine wi_cv (u9 := (229, X)) (pc' := 329) wq344_326 rfl (cL_s3 (pL_isPlank p4 (by omega) (by omega)) zLc_i) (fun h => absurd h (by decide)) rfl rfl (vL_isPlank (s := s) (x := (k : Int)) (y := (y : Int)) (by omega) (by omega)).1 (by (try dsimp only); omega) (by (try dsimp only); omega) ?_
            intro Gp5 p5
            rw [(vL_isPlank (s := s) (x := (k : Int)) (y := (y : Int)) (by omega) (by omega)).2]
            refine wi_aload_n (i := 0) (pc' := 330) q344_329 rfl rfl rfl ?_
            refine wi_bipush (pc' := 332) q344_330 rfl (by decide) ?_
            refine wi_iload (i := 12) (pc' := 334) q344_332 rfl rfl ?_
            refine wi_iload (i := 11) (pc' := 336) q344_334 rfl rfl ?_
            refine wi_cv (u9 := (229, X)) (pc' := 339) wq344_336 rfl (cL_s3 (pL_isWater p5 (by omega) (by omega)) zLc_i) (fun h => absurd h (by decide)) rfl rfl (vL_isWater (s := s) (x := (k : Int)) (y := (y : Int)) (by omega) (by omega)).1 (by (try dsimp only); omega) (by (try dsimp only); omega) ?_
            intro Gp6 p6
            rw [(vL_isWater (s := s) (x := (k : Int)) (y := (y : Int)) (by omega) (by omega)).2]
            refine wi_iadd (pc' := 340) q344_339 rfl ?_
            refine wi_iconst (pc' := 341) q344_340 rfl ?_
            refine wi_icmp_ne (t := 348) (pc' := 344) q344_341 (by decide) rfl (by omega) (by omega) (fun h5 => absurd h5 (by omega)) (fun h5 => ?_)
            refine wi_iconst (pc' := 345) q344_344 rfl ?_
            refine wi_goto (t := 349) q344_345 (by decide) ?_
            refine wi_istore10 (pc' := 351) q344_349 rfl rfl (Or.inr rfl) ?_
            refine wi_iinc12 (pc' := 354) q344_351 rfl rfl (Or.inr rfl) ?_
            refine wi_goto (t := 249) q344_354 (by decide) ?_
            rw [show ((k : Int) + 1) = ((k + 1 : Nat) : Int) by omega]
            exact ih (k + 1) _ (by omega) (by omega) p6
theorem q344_237 : decode (zbc 344) 237 = .ok (.iload 11, 2) := by decide +kernel
theorem q344_239 : decode (zbc 344) 239 = .ok (.aload_n 0, 1) := by decide +kernel
theorem q344_240 : decode (zbc 344) 240 = .ok (.invokevirtual 236, 3) := by decide +kernel
theorem wq344_240 {L9 : Nat} {xs9 : Nat → Int32} {N9 : Nat} : z_SC N9 znl zTs (zZ L9 xs9 N9) zyn zbc zrt zfr zlo (fun _ i => i) ztb 344 240 3 207 1 := sc_V (P := fun _ i => i) (n' := 0) zTs_good q344_240 kx_513 kx_514 kx_515 kx_32 kx_516 rfl ⟨by decide, by decide, by decide +kernel⟩ rfl ⟨Nat.le_of_ble_eq_true rfl, Nat.le_of_ble_eq_true rfl⟩
theorem q344_243 : decode (zbc 344) 243 = .ok (.if_icmp .ge 120, 3) := by decide +kernel
theorem q344_246 : decode (zbc 344) 246 = .ok (.iconst 0, 1) := by decide +kernel
theorem q344_247 : decode (zbc 344) 247 = .ok (.istore 12, 2) := by decide +kernel
theorem q344_357 : decode (zbc 344) 357 = .ok (.iinc 11 1, 3) := by decide +kernel
theorem q344_360 : decode (zbc 344) 360 = .ok (.goto (-123), 3) := by decide +kernel
theorem tk_p {X : Nat × (Nat → Int32)} {B : Int} {sv : Nat → Int → Int} {u : Int} {h : Nat → Int → Int} {s : Int → Int} {b : WB} {c d : Nat} {F : GM} {Y : DY} {Q : WQ} {s0 D : Int → Int} {Y0 : DY} {r1 r2 r3 r4 r5 r6 r7 r8 a13 a14 : Value} (hb1 : c ≤ b.1) (hb2 : d ≤ b.2.1) (har : wFa Y0 144 D Y) (hD : ∀ yy kk, 0 ≤ kk → kk < s 0 → 0 ≤ yy → yy < s 1 → D (12 * yy + kk) = stS s0 yy kk) (hok0 : ∀ yy kk, 0 ≤ kk → kk < s 0 → 0 ≤ yy → yy < s 1 → 0 ≤ stS s0 yy kk ∧ stS s0 yy kk ≤ 9) (hcw : ∀ i, 30 ≤ i → i < 174 → cW (s0 i) (s i)) (hk : ∀ G (k : Nat) (a12 : Value), (k : Int) = s 1 → PG B sv u h s G → wW (229, X) 344 b 363 [.ref 192, r1, r2, r3, r4, r5, r6, r7, r8, .ref (1000 + Y0.2.2), .int (zi 1), .int (zi (k : Int)), a12, a13, a14] [] G F Y c d Q) : ∀ (d9 : Nat) (k : Nat) (a12 : Value) (G : GM), s 1 - (k : Int) < (d9 : Int) → (k : Int) ≤ s 1 → PG B sv u h s G → wW (229, X) 344 b 237 [.ref 192, r1, r2, r3, r4, r5, r6, r7, r8, .ref (1000 + Y0.2.2), .int (zi 1), .int (zi (k : Int)), a12, a13, a14] [] G F Y c d Q := by
  intro d9
  induction d9 with
  | zero =>
    intro k
    intros
    exact absurd (by assumption) (by omega)
  | succ d9 ih =>
      intro k a12 G hd hk9 p
      obtain ⟨a0, a1, -⟩ := id p.ok
      refine wi_iload (i := 11) (pc' := 239) q344_237 rfl rfl ?_
      refine wi_aload_n (i := 0) (pc' := 240) q344_239 rfl rfl rfl ?_
      refine wi_cp (u9 := (229, X)) (pc' := 243) wq344_240 rfl (cQ_height (Nat.le_refl _) p.ok p.hR) (fun _ => ⟨_, _, rfl⟩) rfl rfl (by (try dsimp only); omega) (by (try dsimp only); omega) ?_
      refine wi_icmp_ge (t := 363) (pc' := 246) q344_243 (by decide) rfl (by omega) (by omega) ?_ ?_
      · intro h9
        exact hk G k a12 (by omega) p
      · intro h9
        refine wi_iconst (pc' := 247) q344_246 rfl ?_
        refine wi_istore12 (pc' := 249) q344_247 rfl rfl (Or.inr rfl) ?_
        refine tk_j (y := k) hb1 hb2 har hD hok0 hcw (by omega) ?_ 99 0 _ (by omega) (by omega) p
        intro G9 k2 hk2 p9
        refine wi_iinc11 (pc' := 360) q344_357 rfl rfl (Or.inr rfl) ?_
        refine wi_goto (t := 237) q344_360 (by decide) ?_
        rw [show ((k : Int) + 1) = ((k + 1 : Nat) : Int) by omega]
        exact ih (k + 1) _ _ (by omega) (by omega) p9
