/-! The law's does(x, w, v), the whole. -/
theorem qn_save {s : Int → Int} (hok : mOk s) {c : Int} (hc : 0 ≤ c ∧ c ≤ 1) : (q_save s c).1 = 0 ∧ 0 ≤ (q_save s c).2 ∧ (q_save s c).2 ≤ 2147483647 := by
  have b3 := hok.2.2.2.1
  rw [show q_save s c = (0, s 3) from if_pos hc]
  exact ⟨rfl, b3.1, by show s 3 ≤ _; omega⟩
theorem un_ne {u : Int} (hu : 0 ≤ u ∧ u ≤ 8) : zr (zN [0] ((q_undo u).1, gI (q_undo u).2)) ∧ zN [0] ((q_undo u).1, gI (q_undo u).2) ≠ -104 := by
  by_cases h : u = 0
  · rw [show q_undo u = (1, 0) from if_pos h]
    exact ⟨by decide, by decide⟩
  · rw [show q_undo u = (0, u - 1) from if_neg h]
    have e : zN [0] ((0 : Int), gI (u - 1)) = u - 1 := (if_pos rfl).trans (zi_to ⟨by omega, by omega⟩)
    dsimp only
    rw [e]
    exact ⟨⟨by omega, by omega⟩, by omega⟩
theorem q345_283 : decode (zbc 345) 283 = .ok (.aload_n 0, 1) := by decide +kernel
theorem q345_284 : decode (zbc 345) 284 = .ok (.iload_n 2, 1) := by decide +kernel
theorem q345_285 : decode (zbc 345) 285 = .ok (.iconst 1, 1) := by decide +kernel
theorem q345_286 : decode (zbc 345) 286 = .ok (.iand, 1) := by decide +kernel
theorem q345_287 : decode (zbc 345) 287 = .ok (.ifCond .ne 8, 3) := by decide +kernel
theorem q345_295 : decode (zbc 345) 295 = .ok (.bipush 11, 2) := by decide +kernel
theorem q345_297 : decode (zbc 345) 297 = .ok (.iload_n 2, 1) := by decide +kernel
theorem q345_298 : decode (zbc 345) 298 = .ok (.iconst 1, 1) := by decide +kernel
theorem q345_299 : decode (zbc 345) 299 = .ok (.ishr, 1) := by decide +kernel
theorem q345_300 : decode (zbc 345) 300 = .ok (.iconst 1, 1) := by decide +kernel
theorem q345_301 : decode (zbc 345) 301 = .ok (.iand, 1) := by decide +kernel
theorem q345_302 : decode (zbc 345) 302 = .ok (.invokestatic 185, 3) := by decide +kernel
theorem wq345_302 {L9 : Nat} {xs9 : Nat → Int32} {N9 : Nat} : z_SC N9 znl zTs (zZ L9 xs9 N9) zyn zbc zrt zfr zlo (fun _ i => i) ztb 345 302 2 336 3 := sc_S (P := fun _ i => i) zTs_good q345_302 kx_545 kx_546 kx_31 kx_547 rfl ⟨by decide, by decide, by decide +kernel⟩ ⟨Nat.le_of_ble_eq_true rfl, Nat.le_of_ble_eq_true rfl⟩
theorem q345_305 : decode (zbc 345) 305 = .ok (.istore 9, 2) := by decide +kernel
theorem q345_307 : decode (zbc 345) 307 = .ok (.goto 21, 3) := by decide +kernel
theorem q345_290 : decode (zbc 345) 290 = .ok (.bipush 10, 2) := by decide +kernel
theorem q345_292 : decode (zbc 345) 292 = .ok (.goto 5, 3) := by decide +kernel
theorem dz_283 {X : Nat × (Nat → Int32)} {B : Int} {sv : Nat → Int → Int} {u : Int} {h : Nat → Int → Int} {s : Int → Int} {b : WB} {c d : Nat} {F : GM} {Y : DY} {w v cu cv l9 t9 : Int} {a9 : Value} {G : GM} (hb1 : c + 7 ≤ b.1) (hb2 : d + 42 ≤ b.2.1) (hB : B ≤ 9000) (p : PG B sv u h s G) (hcu : zr cu) (hcv : zr cv) (hl9 : zr l9) (ht9 : zr t9) (hv : zr v) : wW (229, X) 345 b 283 [.ref 192, .int (zi w), .int (zi v), .long (zl (dgS s)), .null, .int (zi cu), .int (zi cv), .int (zi l9), .int (zi t9), a9] [] G F Y c d (fun o G' F' Y' => o = some (.int (zi 1)) ∧ F = F' ∧ Y = Y' ∧ ∃ sv u h s, PG (B + 4) sv u h s G') := by
  have hcc : 0 ≤ zand (zshr v 1) 1 ∧ zand (zshr v 1) 1 ≤ 1 := by
    have := zhas_01 v 1
    omega
  refine wi_aload_n (i := 0) (pc' := 284) q345_283 rfl rfl rfl ?_
  refine wi_iload_n (i := 2) (pc' := 285) q345_284 rfl rfl rfl ?_
  refine wi_iconst (pc' := 286) q345_285 rfl ?_
  refine wi_iand (pc' := 287) q345_286 rfl ?_
  refine wi_if_ne (t := 295) (pc' := 290) q345_287 (by decide) rfl (zr_and _ _) ?_ ?_
  · intro h8
    refine wi_bipush (pc' := 297) q345_295 rfl (by decide) ?_
    refine wi_iload_n (i := 2) (pc' := 298) q345_297 rfl rfl rfl ?_
    refine wi_iconst (pc' := 299) q345_298 rfl ?_
    refine wi_ishr (pc' := 300) q345_299 rfl ?_
    refine wi_iconst (pc' := 301) q345_300 rfl ?_
    refine wi_iand (pc' := 302) q345_301 rfl ?_
    obtain ⟨q, hq, hc9⟩ := pC_restore (F := F) (w3 := zi 0) (w4 := zi 0) (w5 := zi 0) (w6 := zi 0) p hcc
    refine wi_ch (u9 := (229, X)) (q := q) (ex := [3, 2]) (A := (fun G' => ∃ sv u h s, PG (B + 4) sv u h s G')) (C := (PG B sv u h s)) (pc' := 305) wq345_302 rfl (cL_s2 hc9 zLc_i) (fun h => absurd h (by decide)) rfl rfl (fun h0 => hq.elim (fun h => by omega) (fun h => ⟨h.2.1, by omega⟩)) (fun G' h9 => h9.imp (fun ⟨a, _, _, _, b⟩ => ⟨a, _, _, _, _, PG_up b (by omega)⟩) id) (by (try dsimp only); omega) (by (try dsimp only); omega) ?_
    intro G9 got hg hx
    refine wi_istore9 (pc' := 307) q345_305 rfl rfl (Or.inr rfl) ?_
    refine wi_goto (t := 328) q345_307 (by decide) ?_
    exact dz_t (by (try dsimp only); omega) (by (try dsimp only); omega) hg hx
  · intro h8
    refine wi_bipush (pc' := 292) q345_290 rfl (by decide) ?_
    refine wi_goto (t := 297) q345_292 (by decide) ?_
    refine wi_iload_n (i := 2) (pc' := 298) q345_297 rfl rfl rfl ?_
    refine wi_iconst (pc' := 299) q345_298 rfl ?_
    refine wi_ishr (pc' := 300) q345_299 rfl ?_
    refine wi_iconst (pc' := 301) q345_300 rfl ?_
    refine wi_iand (pc' := 302) q345_301 rfl ?_
    refine wi_ch (u9 := (229, X)) (q := q_save s (zand (zshr v 1) 1)) (ex := [3]) (A := (fun G' => ∃ sv u h s, PG (B + 4) sv u h s G')) (C := (PG B sv u h s)) (pc' := 305) wq345_302 rfl (cL_s2 (pC_save p hcc) zLc_i) (fun h => absurd h (by decide)) rfl rfl (fun _ => (qn_save p.ok hcc).2) (fun G' ⟨sv', h9⟩ => Or.inl ⟨(qn_save p.ok hcc).1, _, _, _, _, PG_up h9 (by omega)⟩) (by (try dsimp only); omega) (by (try dsimp only); omega) ?_
    intro G9 got hg hx
    refine wi_istore9 (pc' := 307) q345_305 rfl rfl (Or.inr rfl) ?_
    refine wi_goto (t := 328) q345_307 (by decide) ?_
    exact dz_t (by (try dsimp only); omega) (by (try dsimp only); omega) hg hx
theorem q345_310 : decode (zbc 345) 310 = .ok (.aload_n 0, 1) := by decide +kernel
theorem q345_311 : decode (zbc 345) 311 = .ok (.bipush 9, 2) := by decide +kernel
theorem q345_313 : decode (zbc 345) 313 = .ok (.iconst 0, 1) := by decide +kernel
theorem q345_314 : decode (zbc 345) 314 = .ok (.invokestatic 185, 3) := by decide +kernel
theorem wq345_314 {L9 : Nat} {xs9 : Nat → Int32} {N9 : Nat} : z_SC N9 znl zTs (zZ L9 xs9 N9) zyn zbc zrt zfr zlo (fun _ i => i) ztb 345 314 2 336 3 := sc_S (P := fun _ i => i) zTs_good q345_314 kx_545 kx_546 kx_31 kx_547 rfl ⟨by decide, by decide, by decide +kernel⟩ ⟨Nat.le_of_ble_eq_true rfl, Nat.le_of_ble_eq_true rfl⟩
theorem q345_317 : decode (zbc 345) 317 = .ok (.bipush (-104), 2) := by decide +kernel
theorem q345_319 : decode (zbc 345) 319 = .ok (.if_icmp .eq 7, 3) := by decide +kernel
theorem q345_322 : decode (zbc 345) 322 = .ok (.iconst 1, 1) := by decide +kernel
theorem q345_323 : decode (zbc 345) 323 = .ok (.goto 4, 3) := by decide +kernel
theorem q345_327 : decode (zbc 345) 327 = .ok (.ireturn, 1) := by decide +kernel
theorem dz_310 {X : Nat × (Nat → Int32)} {B : Int} {sv : Nat → Int → Int} {u : Int} {h : Nat → Int → Int} {s : Int → Int} {b : WB} {c d : Nat} {F : GM} {Y : DY} {w v cu cv l9 t9 : Int} {a9 : Value} {G : GM} (hb1 : c + 7 ≤ b.1) (hb2 : d + 42 ≤ b.2.1) (hB : B ≤ 9000) (p : PG B sv u h s G) (hcu : zr cu) (hcv : zr cv) (hl9 : zr l9) (ht9 : zr t9) (hv : zr v) : wW (229, X) 345 b 310 [.ref 192, .int (zi w), .int (zi v), .long (zl (dgS s)), .null, .int (zi cu), .int (zi cv), .int (zi l9), .int (zi t9), a9] [] G F Y c d (fun o G' F' Y' => o = some (.int (zi 1)) ∧ F = F' ∧ Y = Y' ∧ ∃ sv u h s, PG (B + 4) sv u h s G') := by
  obtain ⟨z1, z2⟩ := un_ne p.u8
  refine wi_aload_n (i := 0) (pc' := 311) q345_310 rfl rfl rfl ?_
  refine wi_bipush (pc' := 313) q345_311 rfl (by decide) ?_
  refine wi_iconst (pc' := 314) q345_313 rfl ?_
  refine wi_cx (u9 := (229, X)) (pc' := 317) wq345_314 rfl (cL_s2 (pC_undo p) zLc_i) (fun h => absurd h (by decide)) rfl rfl (by (try dsimp only); omega) (by (try dsimp only); omega) ?_
  intro G9 hx
  have hA : ∃ sv u h s, PG (B + 4) sv u h s G9 := hx.elim (fun a => ⟨_, _, _, _, PG_up a.2 (by omega)⟩) (fun a => ⟨_, _, _, _, PG_up a.2 (by omega)⟩)
  generalize zN [0] ((q_undo u).1, gI (q_undo u).2) = got at z1 z2 ⊢
  refine wi_bipush (pc' := 319) q345_317 rfl (by decide) ?_
  refine wi_icmp_eq (t := 326) (pc' := 322) q345_319 (by decide) rfl (by omega) (by omega) (fun h1 => absurd h1 (by omega)) (fun h1 => ?_)
  refine wi_iconst (pc' := 323) q345_322 rfl ?_
  refine wi_goto (t := 327) q345_323 (by decide) ?_
  refine wW_r (o := some (.int (zi 1))) ⟨q345_327, _, rfl, rfl⟩ rfl (by (try dsimp only); omega) (by (try dsimp only); omega) ?_
  exact ⟨rfl, rfl, rfl, hA⟩
theorem q345_0 : decode (zbc 345) 0 = .ok (.aload_n 0, 1) := by decide +kernel
theorem q345_1 : decode (zbc 345) 1 = .ok (.invokestatic 301, 3) := by decide +kernel
theorem wk345_1 : wSC 345 1 339 1 none := wk_S q345_1 kx_1370 kx_1371 kx_31 kx_1372 ⟨by decide, by decide, by decide +kernel⟩ ⟨Nat.le_of_ble_eq_true rfl, Nat.le_of_ble_eq_true rfl⟩
theorem q345_4 : decode (zbc 345) 4 = .ok (.lstore_n 3, 1) := by decide +kernel
theorem q345_5 : decode (zbc 345) 5 = .ok (.iload_n 2, 1) := by decide +kernel
theorem q345_6 : decode (zbc 345) 6 = .ok (.sipush 255, 3) := by decide +kernel
theorem q345_9 : decode (zbc 345) 9 = .ok (.iand, 1) := by decide +kernel
theorem q345_10 : decode (zbc 345) 10 = .ok (.aload_n 0, 1) := by decide +kernel
theorem q345_11 : decode (zbc 345) 11 = .ok (.invokevirtual 233, 3) := by decide +kernel
theorem wq345_11 {L9 : Nat} {xs9 : Nat → Int32} {N9 : Nat} : z_SC N9 znl zTs (zZ L9 xs9 N9) zyn zbc zrt zfr zlo (fun _ i => i) ztb 345 11 3 206 1 := sc_V (P := fun _ i => i) (n' := 0) zTs_good q345_11 kx_509 kx_510 kx_511 kx_32 kx_512 rfl ⟨by decide, by decide, by decide +kernel⟩ rfl ⟨Nat.le_of_ble_eq_true rfl, Nat.le_of_ble_eq_true rfl⟩
theorem q345_14 : decode (zbc 345) 14 = .ok (.irem, 1) := by decide +kernel
theorem q345_15 : decode (zbc 345) 15 = .ok (.istore 5, 2) := by decide +kernel
theorem q345_17 : decode (zbc 345) 17 = .ok (.iload_n 2, 1) := by decide +kernel
theorem q345_18 : decode (zbc 345) 18 = .ok (.iconst 3, 1) := by decide +kernel
theorem q345_19 : decode (zbc 345) 19 = .ok (.ishr, 1) := by decide +kernel
theorem q345_20 : decode (zbc 345) 20 = .ok (.sipush 255, 3) := by decide +kernel
theorem q345_23 : decode (zbc 345) 23 = .ok (.iand, 1) := by decide +kernel
theorem q345_24 : decode (zbc 345) 24 = .ok (.aload_n 0, 1) := by decide +kernel
theorem q345_25 : decode (zbc 345) 25 = .ok (.invokevirtual 236, 3) := by decide +kernel
theorem wq345_25 {L9 : Nat} {xs9 : Nat → Int32} {N9 : Nat} : z_SC N9 znl zTs (zZ L9 xs9 N9) zyn zbc zrt zfr zlo (fun _ i => i) ztb 345 25 3 207 1 := sc_V (P := fun _ i => i) (n' := 0) zTs_good q345_25 kx_513 kx_514 kx_515 kx_32 kx_516 rfl ⟨by decide, by decide, by decide +kernel⟩ rfl ⟨Nat.le_of_ble_eq_true rfl, Nat.le_of_ble_eq_true rfl⟩
theorem q345_28 : decode (zbc 345) 28 = .ok (.irem, 1) := by decide +kernel
theorem q345_29 : decode (zbc 345) 29 = .ok (.istore 6, 2) := by decide +kernel
theorem q345_31 : decode (zbc 345) 31 = .ok (.iload_n 2, 1) := by decide +kernel
theorem q345_32 : decode (zbc 345) 32 = .ok (.iconst 4, 1) := by decide +kernel
theorem q345_33 : decode (zbc 345) 33 = .ok (.ishr, 1) := by decide +kernel
theorem q345_34 : decode (zbc 345) 34 = .ok (.bipush 7, 2) := by decide +kernel
theorem q345_36 : decode (zbc 345) 36 = .ok (.iand, 1) := by decide +kernel
theorem q345_37 : decode (zbc 345) 37 = .ok (.istore 7, 2) := by decide +kernel
theorem q345_39 : decode (zbc 345) 39 = .ok (.iload_n 2, 1) := by decide +kernel
theorem q345_40 : decode (zbc 345) 40 = .ok (.iconst 2, 1) := by decide +kernel
theorem q345_41 : decode (zbc 345) 41 = .ok (.ishr, 1) := by decide +kernel
theorem q345_42 : decode (zbc 345) 42 = .ok (.bipush 7, 2) := by decide +kernel
theorem q345_44 : decode (zbc 345) 44 = .ok (.iand, 1) := by decide +kernel
theorem q345_45 : decode (zbc 345) 45 = .ok (.istore 8, 2) := by decide +kernel
theorem q345_47 : decode (zbc 345) 47 = .ok (.iload_n 1, 1) := by decide +kernel
theorem q345_48 : decode (zbc 345) 48 = .ok (.bipush 15, 2) := by decide +kernel
theorem q345_50 : decode (zbc 345) 50 = .ok (.iand, 1) := by decide +kernel
theorem q345_51 : decode (zbc 345) 51 = .ok (.tableswitch 259 0 14 #[73, 73, 101, 101, 115, 131, 143, 166, 181, 202, 202, 217, 217, 217, 232], 73) := by decide +kernel
theorem cS_does {X : Nat × (Nat → Int32)} {B : Int} {sv : Nat → Int → Int} {u : Int} {h : Nat → Int → Int} {s : Int → Int} {G F : GM} {Y : DY} {w v : Int} (hv : zr v) (hB : B ≤ 9000) (p : PG B sv u h s G) : wC (229, X) 345 13 78 [.ref 192, .int (zi w), .int (zi v)] G F Y (fun o G' F' Y' => o = some (.int (zi 1)) ∧ F = F' ∧ Y = Y' ∧ ∃ sv u h s, PG (B + 4) sv u h s G') := by
  refine w_met (L0 := [.ref 192, .int (zi w), .int (zi v), .null, .null, .null, .null, .null, .null, .null]) (by decide +kernel) rfl rfl ?_
  obtain ⟨a0, a1, -⟩ := id p.ok
  have e1 := zand_255 v
  have e2 := zand_255 (zshr v 3)
  have m1 := Int.emod_nonneg (zand v 255) (show s 0 ≠ 0 by omega)
  have m2 := Int.emod_lt_of_pos (zand v 255) (show 0 < s 0 by omega)
  have m3 := Int.emod_nonneg (zand (zshr v 3) 255) (show s 1 ≠ 0 by omega)
  have m4 := Int.emod_lt_of_pos (zand (zshr v 3) 255) (show 0 < s 1 by omega)
  have e15 := zand_15 w
  refine wi_aload_n (i := 0) (pc' := 1) q345_0 rfl rfl rfl ?_
  refine wi_call (pc' := 4) wk345_1 rfl (cS_state p) rfl (Nat.le_of_ble_eq_true rfl) (Nat.le_of_ble_eq_true rfl) (by (try dsimp only); omega) (by (try dsimp only); omega) (wrv_n) ?_
  rintro o9 G9 F9 Y9 ⟨rfl, p9, rfl, rfl⟩ hle9
  refine wi_lstore3 (pc' := 5) q345_4 rfl rfl rfl rfl (Or.inr rfl) ?_
  refine wi_iload_n (i := 2) (pc' := 6) q345_5 rfl rfl rfl ?_
  refine wi_sipush (pc' := 9) q345_6 rfl (by decide) ?_
  refine wi_iand (pc' := 10) q345_9 rfl ?_
  refine wi_aload_n (i := 0) (pc' := 11) q345_10 rfl rfl rfl ?_
  refine wi_cp (u9 := (229, X)) (pc' := 14) wq345_11 rfl (cQ_width (Nat.le_refl _) p9.ok p9.hR) (fun _ => ⟨_, _, rfl⟩) rfl rfl (by (try dsimp only); omega) (by (try dsimp only); omega) ?_
  refine wi_irem (pc' := 15) q345_14 rfl (by omega) (by omega) ?_
  refine wi_istore5 (pc' := 17) q345_15 rfl rfl (Or.inr rfl) ?_
  refine wi_iload_n (i := 2) (pc' := 18) q345_17 rfl rfl rfl ?_
  refine wi_iconst (pc' := 19) q345_18 rfl ?_
  refine wi_ishr (pc' := 20) q345_19 rfl ?_
  refine wi_sipush (pc' := 23) q345_20 rfl (by decide) ?_
  refine wi_iand (pc' := 24) q345_23 rfl ?_
  refine wi_aload_n (i := 0) (pc' := 25) q345_24 rfl rfl rfl ?_
  refine wi_cp (u9 := (229, X)) (pc' := 28) wq345_25 rfl (cQ_height (Nat.le_refl _) p9.ok p9.hR) (fun _ => ⟨_, _, rfl⟩) rfl rfl (by (try dsimp only); omega) (by (try dsimp only); omega) ?_
  refine wi_irem (pc' := 29) q345_28 rfl (by omega) (by omega) ?_
  refine wi_istore6 (pc' := 31) q345_29 rfl rfl (Or.inr rfl) ?_
  refine wi_iload_n (i := 2) (pc' := 32) q345_31 rfl rfl rfl ?_
  refine wi_iconst (pc' := 33) q345_32 rfl ?_
  refine wi_ishr (pc' := 34) q345_33 rfl ?_
  refine wi_bipush (pc' := 36) q345_34 rfl (by decide) ?_
  refine wi_iand (pc' := 37) q345_36 rfl ?_
  refine wi_istore7 (pc' := 39) q345_37 rfl rfl (Or.inr rfl) ?_
  refine wi_iload_n (i := 2) (pc' := 40) q345_39 rfl rfl rfl ?_
  refine wi_iconst (pc' := 41) q345_40 rfl ?_
  refine wi_ishr (pc' := 42) q345_41 rfl ?_
  refine wi_bipush (pc' := 44) q345_42 rfl (by decide) ?_
  refine wi_iand (pc' := 45) q345_44 rfl ?_
  refine wi_istore8 (pc' := 47) q345_45 rfl rfl (Or.inr rfl) ?_
  refine wi_iload_n (i := 1) (pc' := 48) q345_47 rfl rfl rfl ?_
  refine wi_bipush (pc' := 50) q345_48 rfl (by decide) ?_
  refine wi_iand (pc' := 51) q345_50 rfl ?_
  generalize zand v 255 % s 0 = cu at m1 m2 ⊢
  generalize zand (zshr v 3) 255 % s 1 = cv at m3 m4 ⊢
  have hl9 := zr_and (zshr v 4) 7
  have ht9 := zr_and (zshr v 2) 7
  generalize zand (zshr v 4) 7 = l9 at hl9 ⊢
  generalize zand (zshr v 2) 7 = t9 at ht9 ⊢
  generalize hn : zand w 15 = n at e15 ⊢
  rcases (show n = 0 ∨ n = 1 ∨ n = 2 ∨ n = 3 ∨ n = 4 ∨ n = 5 ∨ n = 6 ∨ n = 7 ∨ n = 8 ∨ n = 9 ∨ n = 10 ∨ n = 11 ∨ n = 12 ∨ n = 13 ∨ n = 14 ∨ n = 15 by omega) with rfl | rfl | rfl | rfl | rfl | rfl | rfl | rfl | rfl | rfl | rfl | rfl | rfl | rfl | rfl | rfl
  · refine wi_ts (t := 124) (off := 73) q345_51 (by decide) (by decide) rfl (by decide) ?_
    exact dz_124 (by (try dsimp only); omega) (by (try dsimp only); omega) hB p9 (by omega) (by omega) hl9 ht9 hv
  · refine wi_ts (t := 124) (off := 73) q345_51 (by decide) (by decide) rfl (by decide) ?_
    exact dz_124 (by (try dsimp only); omega) (by (try dsimp only); omega) hB p9 (by omega) (by omega) hl9 ht9 hv
  · refine wi_ts (t := 152) (off := 101) q345_51 (by decide) (by decide) rfl (by decide) ?_
    exact dz_152 (by (try dsimp only); omega) (by (try dsimp only); omega) hB p9 (by omega) (by omega) hl9 ht9 hv
  · refine wi_ts (t := 152) (off := 101) q345_51 (by decide) (by decide) rfl (by decide) ?_
    exact dz_152 (by (try dsimp only); omega) (by (try dsimp only); omega) hB p9 (by omega) (by omega) hl9 ht9 hv
  · refine wi_ts (t := 166) (off := 115) q345_51 (by decide) (by decide) rfl (by decide) ?_
    exact dz_166 (by (try dsimp only); omega) (by (try dsimp only); omega) hB p9 (by omega) (by omega) hl9 ht9 hv
  · refine wi_ts (t := 182) (off := 131) q345_51 (by decide) (by decide) rfl (by decide) ?_
    exact dz_182 (by (try dsimp only); omega) (by (try dsimp only); omega) hB p9 (by omega) (by omega) hl9 ht9 hv
  · refine wi_ts (t := 194) (off := 143) q345_51 (by decide) (by decide) rfl (by decide) ?_
    exact dz_194 (by (try dsimp only); omega) (by (try dsimp only); omega) hB p9 (by omega) (by omega) hl9 ht9 hv
  · refine wi_ts (t := 217) (off := 166) q345_51 (by decide) (by decide) rfl (by decide) ?_
    exact dz_217 (by (try dsimp only); omega) (by (try dsimp only); omega) hB p9 (by omega) (by omega) hl9 ht9 hv
  · refine wi_ts (t := 232) (off := 181) q345_51 (by decide) (by decide) rfl (by decide) ?_
    exact dz_232 (by (try dsimp only); omega) (by (try dsimp only); omega) hB p9 (by omega) (by omega) hl9 ht9 hv
  · refine wi_ts (t := 253) (off := 202) q345_51 (by decide) (by decide) rfl (by decide) ?_
    exact dz_253 (by (try dsimp only); omega) (by (try dsimp only); omega) hB p9 (by omega) (by omega) hl9 ht9 hv
  · refine wi_ts (t := 253) (off := 202) q345_51 (by decide) (by decide) rfl (by decide) ?_
    exact dz_253 (by (try dsimp only); omega) (by (try dsimp only); omega) hB p9 (by omega) (by omega) hl9 ht9 hv
  · refine wi_ts (t := 268) (off := 217) q345_51 (by decide) (by decide) rfl (by decide) ?_
    exact dz_268 (by (try dsimp only); omega) (by (try dsimp only); omega) hB p9 (by omega) (by omega) hl9 ht9 hv
  · refine wi_ts (t := 268) (off := 217) q345_51 (by decide) (by decide) rfl (by decide) ?_
    exact dz_268 (by (try dsimp only); omega) (by (try dsimp only); omega) hB p9 (by omega) (by omega) hl9 ht9 hv
  · refine wi_ts (t := 268) (off := 217) q345_51 (by decide) (by decide) rfl (by decide) ?_
    exact dz_268 (by (try dsimp only); omega) (by (try dsimp only); omega) hB p9 (by omega) (by omega) hl9 ht9 hv
  · refine wi_ts (t := 283) (off := 232) q345_51 (by decide) (by decide) rfl (by decide) ?_
    exact dz_283 (by (try dsimp only); omega) (by (try dsimp only); omega) hB p9 (by omega) (by omega) hl9 ht9 hv
  · refine wi_tsD (t := 310) q345_51 (by decide) (by decide) (by decide) ?_
    exact dz_310 (by (try dsimp only); omega) (by (try dsimp only); omega) hB p9 (by omega) (by omega) hl9 ht9 hv
