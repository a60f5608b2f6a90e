/-! The law's marsh(w, v), the whole. -/
theorem MB_new {Y Y' : DY} {s : List Int} (h : SBn (w_add Y (0, 10, [1, 0, 0, 0]) (fun _ => 0)) Y.2.2 s Y') : MB Y s Y' := by
  obtain ⟨j, m, h1, h2, h3, h4⟩ := h
  have h2 : Y.2.2 + 1 ≤ j := h2
  have h3 : Y.2.2 + 1 ≤ Y'.2.2 := h3
  refine ⟨⟨j, m, h1, by omega⟩, by omega, fun k hk => ?_⟩
  obtain ⟨e1, e2⟩ := h4 k (show k < Y.2.2 + 1 by omega) (by omega)
  exact ⟨e1.trans (w_add_E hk), e2.trans (w_add_lo hk rfl)⟩
/-- a marsh's text -/
def tGood (t : List Int) (D : Int → Int) : Prop := t.length ≤ 400 ∧ (∃ H k, rdW (fun _ => 0) H k t D) ∧ Fit 0 D
theorem q338_451 : decode (zbc 338) 451 = .ok (.iload 9, 2) := by decide +kernel
theorem q338_453 : decode (zbc 338) 453 = .ok (.iload_n 0, 1) := by decide +kernel
theorem q338_454 : decode (zbc 338) 454 = .ok (.bipush 17, 2) := by decide +kernel
theorem q338_456 : decode (zbc 338) 456 = .ok (.ishr, 1) := by decide +kernel
theorem q338_457 : decode (zbc 338) 457 = .ok (.sipush 255, 3) := by decide +kernel
theorem q338_460 : decode (zbc 338) 460 = .ok (.iand, 1) := by decide +kernel
theorem q338_461 : decode (zbc 338) 461 = .ok (.bipush 6, 2) := by decide +kernel
theorem q338_463 : decode (zbc 338) 463 = .ok (.irem, 1) := by decide +kernel
theorem q338_464 : decode (zbc 338) 464 = .ok (.if_icmp .ge 100, 3) := by decide +kernel
theorem q338_467 : decode (zbc 338) 467 = .ok (.iload 5, 2) := by decide +kernel
theorem q338_469 : decode (zbc 338) 469 = .ok (.ldc 210, 2) := by decide +kernel
theorem q338_471 : decode (zbc 338) 471 = .ok (.imul, 1) := by decide +kernel
theorem q338_472 : decode (zbc 338) 472 = .ok (.sipush 12345, 3) := by decide +kernel
theorem q338_475 : decode (zbc 338) 475 = .ok (.iadd, 1) := by decide +kernel
theorem q338_476 : decode (zbc 338) 476 = .ok (.istore 5, 2) := by decide +kernel
theorem q338_478 : decode (zbc 338) 478 = .ok (.iload 5, 2) := by decide +kernel
theorem q338_480 : decode (zbc 338) 480 = .ok (.bipush 8, 2) := by decide +kernel
theorem q338_482 : decode (zbc 338) 482 = .ok (.ishr, 1) := by decide +kernel
theorem q338_483 : decode (zbc 338) 483 = .ok (.sipush 255, 3) := by decide +kernel
theorem q338_486 : decode (zbc 338) 486 = .ok (.iand, 1) := by decide +kernel
theorem q338_487 : decode (zbc 338) 487 = .ok (.iload_n 2, 1) := by decide +kernel
theorem q338_488 : decode (zbc 338) 488 = .ok (.irem, 1) := by decide +kernel
theorem q338_489 : decode (zbc 338) 489 = .ok (.istore 10, 2) := by decide +kernel
theorem q338_491 : decode (zbc 338) 491 = .ok (.iload 5, 2) := by decide +kernel
theorem q338_493 : decode (zbc 338) 493 = .ok (.bipush 11, 2) := by decide +kernel
theorem q338_495 : decode (zbc 338) 495 = .ok (.ishr, 1) := by decide +kernel
theorem q338_496 : decode (zbc 338) 496 = .ok (.sipush 255, 3) := by decide +kernel
theorem q338_499 : decode (zbc 338) 499 = .ok (.iand, 1) := by decide +kernel
theorem q338_500 : decode (zbc 338) 500 = .ok (.iload_n 3, 1) := by decide +kernel
theorem q338_501 : decode (zbc 338) 501 = .ok (.irem, 1) := by decide +kernel
theorem q338_502 : decode (zbc 338) 502 = .ok (.istore 11, 2) := by decide +kernel
theorem q338_504 : decode (zbc 338) 504 = .ok (.aload 6, 2) := by decide +kernel
theorem q338_506 : decode (zbc 338) 506 = .ok (.iload 11, 2) := by decide +kernel
theorem q338_508 : decode (zbc 338) 508 = .ok (.aaload, 1) := by decide +kernel
theorem q338_509 : decode (zbc 338) 509 = .ok (.iload 10, 2) := by decide +kernel
theorem q338_511 : decode (zbc 338) 511 = .ok (.caload, 1) := by decide +kernel
theorem q338_512 : decode (zbc 338) 512 = .ok (.bipush 102, 2) := by decide +kernel
theorem q338_514 : decode (zbc 338) 514 = .ok (.if_icmp .eq 16, 3) := by decide +kernel
theorem q338_530 : decode (zbc 338) 530 = .ok (.aload 4, 2) := by decide +kernel
theorem q338_532 : decode (zbc 338) 532 = .ok (.ldc 225, 2) := by decide +kernel
theorem q338_534 : decode (zbc 338) 534 = .ok (.invokevirtual 203, 3) := by decide +kernel
theorem wk338_534 : wSC 338 534 348 2 (some "java/lang/StringBuilder") := wk_V (n' := 1) q338_534 kx_1285 kx_1142 kx_1143 kx_56 kx_1144 ⟨by decide, by decide, by decide +kernel⟩ rfl ⟨Nat.le_of_ble_eq_true rfl, Nat.le_of_ble_eq_true rfl⟩
theorem q338_537 : decode (zbc 338) 537 = .ok (.iload 10, 2) := by decide +kernel
theorem q338_539 : decode (zbc 338) 539 = .ok (.invokevirtual 195, 3) := by decide +kernel
theorem wk338_539 : wSC 338 539 352 2 (some "java/lang/StringBuilder") := wk_V (n' := 1) q338_539 kx_1246 kx_1247 kx_1248 kx_56 kx_1249 ⟨by decide, by decide, by decide +kernel⟩ rfl ⟨Nat.le_of_ble_eq_true rfl, Nat.le_of_ble_eq_true rfl⟩
theorem q338_542 : decode (zbc 338) 542 = .ok (.bipush 32, 2) := by decide +kernel
theorem q338_544 : decode (zbc 338) 544 = .ok (.invokevirtual 198, 3) := by decide +kernel
theorem wk338_544 : wSC 338 544 350 2 (some "java/lang/StringBuilder") := wk_V (n' := 1) q338_544 kx_1271 kx_1272 kx_1273 kx_56 kx_1274 ⟨by decide, by decide, by decide +kernel⟩ rfl ⟨Nat.le_of_ble_eq_true rfl, Nat.le_of_ble_eq_true rfl⟩
theorem q338_547 : decode (zbc 338) 547 = .ok (.iload 11, 2) := by decide +kernel
theorem q338_549 : decode (zbc 338) 549 = .ok (.invokevirtual 195, 3) := by decide +kernel
theorem wk338_549 : wSC 338 549 352 2 (some "java/lang/StringBuilder") := wk_V (n' := 1) q338_549 kx_1246 kx_1247 kx_1248 kx_56 kx_1249 ⟨by decide, by decide, by decide +kernel⟩ rfl ⟨Nat.le_of_ble_eq_true rfl, Nat.le_of_ble_eq_true rfl⟩
theorem q338_552 : decode (zbc 338) 552 = .ok (.bipush 59, 2) := by decide +kernel
theorem q338_554 : decode (zbc 338) 554 = .ok (.invokevirtual 198, 3) := by decide +kernel
theorem wk338_554 : wSC 338 554 350 2 (some "java/lang/StringBuilder") := wk_V (n' := 1) q338_554 kx_1271 kx_1272 kx_1273 kx_56 kx_1274 ⟨by decide, by decide, by decide +kernel⟩ rfl ⟨Nat.le_of_ble_eq_true rfl, Nat.le_of_ble_eq_true rfl⟩
theorem q338_557 : decode (zbc 338) 557 = .ok (.pop, 1) := by decide +kernel
theorem q338_558 : decode (zbc 338) 558 = .ok (.iinc 9 1, 3) := by decide +kernel
theorem q338_561 : decode (zbc 338) 561 = .ok (.goto (-110), 3) := by decide +kernel
theorem q338_517 : decode (zbc 338) 517 = .ok (.aload 6, 2) := by decide +kernel
theorem q338_519 : decode (zbc 338) 519 = .ok (.iload 11, 2) := by decide +kernel
theorem q338_521 : decode (zbc 338) 521 = .ok (.aaload, 1) := by decide +kernel
theorem q338_522 : decode (zbc 338) 522 = .ok (.iload 10, 2) := by decide +kernel
theorem q338_524 : decode (zbc 338) 524 = .ok (.caload, 1) := by decide +kernel
theorem q338_525 : decode (zbc 338) 525 = .ok (.bipush 112, 2) := by decide +kernel
theorem q338_527 : decode (zbc 338) 527 = .ok (.if_icmp .ne 31, 3) := by decide +kernel
theorem mr_w {X : Nat × (Nat → Int32)} {b : WB} {c d : Nat} {G F : GM} {Q : WQ} {Y0 : DY} {K W H : Nat} {w v a : Int} {C E : Int → Int} {K2 : Nat} {a8 : Value} (hW : 2 ≤ W ∧ W ≤ 7) (hH : 2 ≤ H ∧ H ≤ 6) (hb1 : c + 25 ≤ b.1) (hb2 : d + 25000 ≤ b.2.1) (hk : ∀ (k nw : Nat) (t : List Int) (D : Int → Int) (x : Int) (a10 a11 : Value) (Y : DY), nw ≤ 5 → rdW (fun _ => 0) H nw t D → mG W H C D a (nw : Int) → M3 Y0 K W H C K2 E t Y → t.length ≤ 292 + 14 * nw → wW (229, X) 338 b 564 [.int (zi w), .int (zi v), .int (zi (W : Int)), .int (zi (H : Int)), .ref (1000 + Y0.2.2), .int (zi x), .ref (1000 + K), .ref (1000 + K2), a8, .int (zi (k : Int)), a10, a11] [] G F Y (c + 25) (d + 25000) Q) : ∀ (d9 : Nat) (k : Nat) (nw : Nat) (t : List Int) (D : Int → Int) (x : Int) (a10 a11 : Value) (Y : DY), 5 - (k : Int) < (d9 : Int) → (k : Int) ≤ 5 → nw ≤ k → rdW (fun _ => 0) H nw t D → mG W H C D a (nw : Int) → M3 Y0 K W H C K2 E t Y → t.length ≤ 292 + 14 * nw → wW (229, X) 338 b 451 [.int (zi w), .int (zi v), .int (zi (W : Int)), .int (zi (H : Int)), .ref (1000 + Y0.2.2), .int (zi x), .ref (1000 + K), .ref (1000 + K2), a8, .int (zi (k : Int)), a10, a11] [] G F Y (c + 5 * k) (d + 5000 * k) Q := by
  intro d9
  induction d9 with
  | zero =>
    intro k
    intros
    exact absurd (by assumption) (by omega)
  | succ d9 ih =>
      intro k nw t D x a10 a11 Y hd hk9 hnk hr hD hm hl
      have e7 := zand_255 (zshr w 17)
      refine wi_iload (i := 9) (pc' := 453) q338_451 rfl rfl ?_
      refine wi_iload_n (i := 0) (pc' := 454) q338_453 rfl rfl rfl ?_
      refine wi_bipush (pc' := 456) q338_454 rfl (by decide) ?_
      refine wi_ishr (pc' := 457) q338_456 rfl ?_
      refine wi_sipush (pc' := 460) q338_457 rfl (by decide) ?_
      refine wi_iand (pc' := 461) q338_460 rfl ?_
      refine wi_bipush (pc' := 463) q338_461 rfl (by decide) ?_
      refine wi_irem (pc' := 464) q338_463 rfl (by omega) (by omega) ?_
      refine wi_icmp_ge (t := 564) (pc' := 467) q338_464 (by decide) rfl (by omega) (by omega) ?_ ?_
      · intro h9
        exact wW_cd (by omega) (by omega) (hk k nw t D x a10 a11 Y (by omega) hr hD hm hl)
      · intro h9
        have w0 : (W : Int) ≠ 0 := by omega
        have h0 : (H : Int) ≠ 0 := by omega
        refine wi_iload (i := 5) (pc' := 469) q338_467 rfl rfl ?_
        refine wi_ldc (z := 1103515245) (pc' := 471) q338_469 rfl kx_1289 (by decide +kernel) ?_
        refine wi_imul (pc' := 472) q338_471 rfl ?_
        refine wi_sipush (pc' := 475) q338_472 rfl (by decide) ?_
        refine wi_iadd (pc' := 476) q338_475 rfl ?_
        generalize x * 1103515245 + 12345 = x1 at *
        refine wi_istore5 (pc' := 478) q338_476 rfl rfl (Or.inr rfl) ?_
        refine wi_iload (i := 5) (pc' := 480) q338_478 rfl rfl ?_
        refine wi_bipush (pc' := 482) q338_480 rfl (by decide) ?_
        refine wi_ishr (pc' := 483) q338_482 rfl ?_
        refine wi_sipush (pc' := 486) q338_483 rfl (by decide) ?_
        refine wi_iand (pc' := 487) q338_486 rfl ?_
        refine wi_iload_n (i := 2) (pc' := 488) q338_487 rfl rfl rfl ?_
        have e8 := zand_255 (zshr x1 8)
        refine wi_irem (pc' := 489) q338_488 rfl (by omega) (by omega) ?_
        have q1 := Int.emod_nonneg (zand (zshr x1 8) 255) (show (W : Int) ≠ 0 by omega)
        have q2 := Int.emod_lt_of_pos (zand (zshr x1 8) 255) (show 0 < (W : Int) by omega)
        generalize zand (zshr x1 8) 255 % (W : Int) = cu at q1 q2 ⊢
        refine wi_istore10 (pc' := 491) q338_489 rfl rfl (Or.inr rfl) ?_
        refine wi_iload (i := 5) (pc' := 493) q338_491 rfl rfl ?_
        refine wi_bipush (pc' := 495) q338_493 rfl (by decide) ?_
        refine wi_ishr (pc' := 496) q338_495 rfl ?_
        refine wi_sipush (pc' := 499) q338_496 rfl (by decide) ?_
        refine wi_iand (pc' := 500) q338_499 rfl ?_
        refine wi_iload_n (i := 3) (pc' := 501) q338_500 rfl rfl rfl ?_
        have e11 := zand_255 (zshr x1 11)
        refine wi_irem (pc' := 502) q338_501 rfl (by omega) (by omega) ?_
        have q3 := Int.emod_nonneg (zand (zshr x1 11) 255) (show (H : Int) ≠ 0 by omega)
        have q4 := Int.emod_lt_of_pos (zand (zshr x1 11) 255) (show 0 < (H : Int) by omega)
        generalize zand (zshr x1 11) 255 % (H : Int) = cv at q3 q4 ⊢
        obtain ⟨c1, c2⟩ := hD.2.2 cv cu q3 q4 q1 q2
        refine wi_istore11 (pc' := 504) q338_502 rfl rfl (Or.inr rfl) ?_
        refine wi_aload (i := 6) (pc' := 506) q338_504 rfl rfl ?_
        refine wi_iload (i := 11) (pc' := 508) q338_506 rfl rfl ?_
        refine wi_rwrow (r := cv) (pc' := 509) q338_508 rfl hm.1.2 (Or.inr (Or.inl rfl)) ⟨by omega, by omega⟩ (by omega) ?_
        refine wi_iload (i := 10) (pc' := 511) q338_509 rfl rfl ?_
        refine wi_rwgetC (r := cv) (pc' := 512) q338_511 rfl hm.1.2 ⟨by omega, by omega⟩ ⟨by omega, by omega⟩ (by omega) ?_
        refine wi_bipush (pc' := 514) q338_512 rfl (by decide) ?_
        refine wi_icmp_eq (t := 530) (pc' := 517) q338_514 (by decide) rfl (by omega) (by omega) ?_ ?_
        · intro h8
          refine wi_aload (i := 4) (pc' := 532) q338_530 rfl rfl ?_
          refine wi_ldcS (tx := "traveller ") (r := 339) (pc' := 534) q338_532 rfl rfl (by decide) (by decide) ?_
          refine wi_appS (n := (292 + 14 * nw)) (q := 10) (pc' := 537) MP_3 wk338_534 rfl hm (kT_c (i := 9) (by decide)) hl (by decide) (by omega) (Nat.le_of_ble_eq_true rfl) (by (try dsimp only); omega) (by (try dsimp only); omega) ?_
          intro Y1 m2 l3
          refine wi_iload (i := 10) (pc' := 539) q338_537 rfl rfl ?_
          refine wi_appN1 (n := ((292 + 14 * nw) + 10)) (v := cu) (pc' := 542) MP_3 wk338_539 rfl m2 (by omega) l3 (by omega) (Nat.le_of_ble_eq_true rfl) (by (try dsimp only); omega) (by (try dsimp only); omega) ?_
          intro Y4 m5 l6
          refine wi_bipush (pc' := 544) q338_542 rfl (by decide) ?_
          refine wi_appC (n := (((292 + 14 * nw) + 10) + 1)) (v := 32) (pc' := 547) MP_3 wk338_544 rfl m5 (by omega) l6 (by omega) (Nat.le_of_ble_eq_true rfl) (by (try dsimp only); omega) (by (try dsimp only); omega) ?_
          intro Y7 m8 l9
          refine wi_iload (i := 11) (pc' := 549) q338_547 rfl rfl ?_
          refine wi_appN1 (n := ((((292 + 14 * nw) + 10) + 1) + 1)) (v := cv) (pc' := 552) MP_3 wk338_549 rfl m8 (by omega) l9 (by omega) (Nat.le_of_ble_eq_true rfl) (by (try dsimp only); omega) (by (try dsimp only); omega) ?_
          intro Y10 m11 l12
          refine wi_bipush (pc' := 554) q338_552 rfl (by decide) ?_
          refine wi_appC (n := (((((292 + 14 * nw) + 10) + 1) + 1) + 1)) (v := 59) (pc' := 557) MP_3 wk338_554 rfl m11 (by omega) l12 (by omega) (Nat.le_of_ble_eq_true rfl) (by (try dsimp only); omega) (by (try dsimp only); omega) ?_
          intro Y13 m14 l15
          refine wi_popR (pc' := 558) q338_557 rfl ?_
          refine wi_iinc9 (pc' := 561) q338_558 rfl rfl (Or.inr rfl) ?_
          refine wi_goto (t := 451) q338_561 (by decide) ?_
          refine wW_cd (c' := c + 5 * (k + 1)) (d' := d + 5000 * (k + 1)) (by omega) (by omega) ?_
          obtain ⟨hF1, ⟨d0, d1, d4, d5⟩, hcel⟩ := id hD
          obtain ⟨n1, n2⟩ := pCell_fp (c := C (12 * cv + cu)) (by omega)
          rw [tx_walk] at m14 l15
          rw [show ((k : Int) + 1) = ((k + 1 : Nat) : Int) by omega]
          refine ih (k + 1) (nw + 1) _ _ x1 _ _ _ (by omega) (by omega) (by omega) (rdW_s hr (by omega) (by omega) (by omega) (by omega) (by rw [c1]; exact n1) (by rw [c1]; exact n2) (by omega)) ?_ m14 (by omega)
          rw [show ((nw + 1 : Nat) : Int) = (nw : Int) + 1 by omega]
          exact mG_walk hD (by omega) ⟨q1, q2⟩ ⟨q3, q4⟩
        · intro h8
          refine wi_aload (i := 6) (pc' := 519) q338_517 rfl rfl ?_
          refine wi_iload (i := 11) (pc' := 521) q338_519 rfl rfl ?_
          refine wi_rwrow (r := cv) (pc' := 522) q338_521 rfl hm.1.2 (Or.inr (Or.inl rfl)) ⟨by omega, by omega⟩ (by omega) ?_
          refine wi_iload (i := 10) (pc' := 524) q338_522 rfl rfl ?_
          refine wi_rwgetC (r := cv) (pc' := 525) q338_524 rfl hm.1.2 ⟨by omega, by omega⟩ ⟨by omega, by omega⟩ (by omega) ?_
          refine wi_bipush (pc' := 527) q338_525 rfl (by decide) ?_
          refine wi_icmp_ne (t := 558) (pc' := 530) q338_527 (by decide) rfl (by omega) (by omega) ?_ ?_
          · intro h7
            refine wi_iinc9 (pc' := 561) q338_558 rfl rfl (Or.inr rfl) ?_
            refine wi_goto (t := 451) q338_561 (by decide) ?_
            refine wW_cd (c' := c + 5 * (k + 1)) (d' := d + 5000 * (k + 1)) (by omega) (by omega) ?_
            rw [show ((k : Int) + 1) = ((k + 1 : Nat) : Int) by omega]
            exact ih (k + 1) nw _ D x1 _ _ _ (by omega) (by omega) (by omega) hr hD hm hl
          · intro h7
            refine wi_aload (i := 4) (pc' := 532) q338_530 rfl rfl ?_
            refine wi_ldcS (tx := "traveller ") (r := 339) (pc' := 534) q338_532 rfl rfl (by decide) (by decide) ?_
            refine wi_appS (n := (292 + 14 * nw)) (q := 10) (pc' := 537) MP_3 wk338_534 rfl hm (kT_c (i := 9) (by decide)) hl (by decide) (by omega) (Nat.le_of_ble_eq_true rfl) (by (try dsimp only); omega) (by (try dsimp only); omega) ?_
            intro Y16 m17 l18
            refine wi_iload (i := 10) (pc' := 539) q338_537 rfl rfl ?_
            refine wi_appN1 (n := ((292 + 14 * nw) + 10)) (v := cu) (pc' := 542) MP_3 wk338_539 rfl m17 (by omega) l18 (by omega) (Nat.le_of_ble_eq_true rfl) (by (try dsimp only); omega) (by (try dsimp only); omega) ?_
            intro Y19 m20 l21
            refine wi_bipush (pc' := 544) q338_542 rfl (by decide) ?_
            refine wi_appC (n := (((292 + 14 * nw) + 10) + 1)) (v := 32) (pc' := 547) MP_3 wk338_544 rfl m20 (by omega) l21 (by omega) (Nat.le_of_ble_eq_true rfl) (by (try dsimp only); omega) (by (try dsimp only); omega) ?_
            intro Y22 m23 l24
            refine wi_iload (i := 11) (pc' := 549) q338_547 rfl rfl ?_
            refine wi_appN1 (n := ((((292 + 14 * nw) + 10) + 1) + 1)) (v := cv) (pc' := 552) MP_3 wk338_549 rfl m23 (by omega) l24 (by omega) (Nat.le_of_ble_eq_true rfl) (by (try dsimp only); omega) (by (try dsimp only); omega) ?_
            intro Y25 m26 l27
            refine wi_bipush (pc' := 554) q338_552 rfl (by decide) ?_
            refine wi_appC (n := (((((292 + 14 * nw) + 10) + 1) + 1) + 1)) (v := 59) (pc' := 557) MP_3 wk338_554 rfl m26 (by omega) l27 (by omega) (Nat.le_of_ble_eq_true rfl) (by (try dsimp only); omega) (by (try dsimp only); omega) ?_
            intro Y28 m29 l30
            refine wi_popR (pc' := 558) q338_557 rfl ?_
            refine wi_iinc9 (pc' := 561) q338_558 rfl rfl (Or.inr rfl) ?_
            refine wi_goto (t := 451) q338_561 (by decide) ?_
            refine wW_cd (c' := c + 5 * (k + 1)) (d' := d + 5000 * (k + 1)) (by omega) (by omega) ?_
            obtain ⟨hF1, ⟨d0, d1, d4, d5⟩, hcel⟩ := id hD
            obtain ⟨n1, n2⟩ := pCell_fp (c := C (12 * cv + cu)) (by omega)
            rw [tx_walk] at m29 l30
            rw [show ((k : Int) + 1) = ((k + 1 : Nat) : Int) by omega]
            refine ih (k + 1) (nw + 1) _ _ x1 _ _ _ (by omega) (by omega) (by omega) (rdW_s hr (by omega) (by omega) (by omega) (by omega) (by rw [c1]; exact n1) (by rw [c1]; exact n2) (by omega)) ?_ m29 (by omega)
            rw [show ((nw + 1 : Nat) : Int) = (nw : Int) + 1 by omega]
            exact mG_walk hD (by omega) ⟨q1, q2⟩ ⟨q3, q4⟩
theorem q338_0 : decode (zbc 338) 0 = .ok (.iconst 2, 1) := by decide +kernel
theorem q338_1 : decode (zbc 338) 1 = .ok (.iload_n 0, 1) := by decide +kernel
theorem q338_2 : decode (zbc 338) 2 = .ok (.sipush 255, 3) := by decide +kernel
theorem q338_5 : decode (zbc 338) 5 = .ok (.iand, 1) := by decide +kernel
theorem q338_6 : decode (zbc 338) 6 = .ok (.bipush 6, 2) := by decide +kernel
theorem q338_8 : decode (zbc 338) 8 = .ok (.irem, 1) := by decide +kernel
theorem q338_9 : decode (zbc 338) 9 = .ok (.iadd, 1) := by decide +kernel
theorem q338_10 : decode (zbc 338) 10 = .ok (.istore_n 2, 1) := by decide +kernel
theorem q338_11 : decode (zbc 338) 11 = .ok (.iconst 2, 1) := by decide +kernel
theorem q338_12 : decode (zbc 338) 12 = .ok (.iload_n 0, 1) := by decide +kernel
theorem q338_13 : decode (zbc 338) 13 = .ok (.iconst 3, 1) := by decide +kernel
theorem q338_14 : decode (zbc 338) 14 = .ok (.ishr, 1) := by decide +kernel
theorem q338_15 : decode (zbc 338) 15 = .ok (.sipush 255, 3) := by decide +kernel
theorem q338_18 : decode (zbc 338) 18 = .ok (.iand, 1) := by decide +kernel
theorem q338_19 : decode (zbc 338) 19 = .ok (.iconst 5, 1) := by decide +kernel
theorem q338_20 : decode (zbc 338) 20 = .ok (.irem, 1) := by decide +kernel
theorem q338_21 : decode (zbc 338) 21 = .ok (.iadd, 1) := by decide +kernel
theorem q338_22 : decode (zbc 338) 22 = .ok (.istore_n 3, 1) := by decide +kernel
theorem q338_23 : decode (zbc 338) 23 = .ok (.new 188, 3) := by decide +kernel
theorem kx_1114 : Cond.classLink "FalseLightMarshLaw" 188 "java/lang/StringBuilder" ∈ zTs := z_in (i := 1114) (by decide +kernel) (by decide +kernel)
theorem q338_26 : decode (zbc 338) 26 = .ok (.dup, 1) := by decide +kernel
theorem q338_27 : decode (zbc 338) 27 = .ok (.ldc 190, 2) := by decide +kernel
theorem q338_29 : decode (zbc 338) 29 = .ok (.invokespecial 192, 3) := by decide +kernel
theorem kx_1117 : Cond.methodLink "FalseLightMarshLaw" 192 yJ4_init_a7421 ∈ zTs := z_in (i := 1117) (by decide +kernel) (by decide +kernel)
theorem kx_1118 : Cond.instanceMethod yJ4_init_a7421 ∈ zTs := z_in (i := 1118) (by decide +kernel) (by decide +kernel)
theorem kx_1119 : Cond.code yJ4_init_a7421 cJ4_init_a7421 2 none ∈ zTs := z_in (i := 1119) (by decide +kernel) (by decide +kernel)
theorem wk338_29 : wSC 338 29 346 2 (some "java/lang/StringBuilder") := wk_I (n' := 1) q338_29 kx_1117 kx_1118 kx_56 rfl kx_1119 rfl ⟨by decide, by decide, by decide +kernel⟩ rfl ⟨Nat.le_of_ble_eq_true rfl, Nat.le_of_ble_eq_true rfl⟩
theorem q338_32 : decode (zbc 338) 32 = .ok (.iload_n 2, 1) := by decide +kernel
theorem q338_33 : decode (zbc 338) 33 = .ok (.invokevirtual 195, 3) := by decide +kernel
theorem wk338_33 : wSC 338 33 352 2 (some "java/lang/StringBuilder") := wk_V (n' := 1) q338_33 kx_1246 kx_1247 kx_1248 kx_56 kx_1249 ⟨by decide, by decide, by decide +kernel⟩ rfl ⟨Nat.le_of_ble_eq_true rfl, Nat.le_of_ble_eq_true rfl⟩
theorem q338_36 : decode (zbc 338) 36 = .ok (.bipush 32, 2) := by decide +kernel
theorem q338_38 : decode (zbc 338) 38 = .ok (.invokevirtual 198, 3) := by decide +kernel
theorem wk338_38 : wSC 338 38 350 2 (some "java/lang/StringBuilder") := wk_V (n' := 1) q338_38 kx_1271 kx_1272 kx_1273 kx_56 kx_1274 ⟨by decide, by decide, by decide +kernel⟩ rfl ⟨Nat.le_of_ble_eq_true rfl, Nat.le_of_ble_eq_true rfl⟩
theorem q338_41 : decode (zbc 338) 41 = .ok (.iload_n 3, 1) := by decide +kernel
theorem q338_42 : decode (zbc 338) 42 = .ok (.invokevirtual 195, 3) := by decide +kernel
theorem wk338_42 : wSC 338 42 352 2 (some "java/lang/StringBuilder") := wk_V (n' := 1) q338_42 kx_1246 kx_1247 kx_1248 kx_56 kx_1249 ⟨by decide, by decide, by decide +kernel⟩ rfl ⟨Nat.le_of_ble_eq_true rfl, Nat.le_of_ble_eq_true rfl⟩
theorem q338_45 : decode (zbc 338) 45 = .ok (.ldc 201, 2) := by decide +kernel
theorem q338_47 : decode (zbc 338) 47 = .ok (.invokevirtual 203, 3) := by decide +kernel
theorem wk338_47 : wSC 338 47 348 2 (some "java/lang/StringBuilder") := wk_V (n' := 1) q338_47 kx_1285 kx_1142 kx_1143 kx_56 kx_1144 ⟨by decide, by decide, by decide +kernel⟩ rfl ⟨Nat.le_of_ble_eq_true rfl, Nat.le_of_ble_eq_true rfl⟩
theorem q338_50 : decode (zbc 338) 50 = .ok (.iload_n 0, 1) := by decide +kernel
theorem q338_51 : decode (zbc 338) 51 = .ok (.bipush 6, 2) := by decide +kernel
theorem q338_53 : decode (zbc 338) 53 = .ok (.ishr, 1) := by decide +kernel
theorem q338_54 : decode (zbc 338) 54 = .ok (.sipush 255, 3) := by decide +kernel
theorem q338_57 : decode (zbc 338) 57 = .ok (.iand, 1) := by decide +kernel
theorem q338_58 : decode (zbc 338) 58 = .ok (.bipush 8, 2) := by decide +kernel
theorem q338_60 : decode (zbc 338) 60 = .ok (.irem, 1) := by decide +kernel
theorem q338_61 : decode (zbc 338) 61 = .ok (.invokevirtual 195, 3) := by decide +kernel
theorem wk338_61 : wSC 338 61 352 2 (some "java/lang/StringBuilder") := wk_V (n' := 1) q338_61 kx_1246 kx_1247 kx_1248 kx_56 kx_1249 ⟨by decide, by decide, by decide +kernel⟩ rfl ⟨Nat.le_of_ble_eq_true rfl, Nat.le_of_ble_eq_true rfl⟩
theorem q338_64 : decode (zbc 338) 64 = .ok (.bipush 59, 2) := by decide +kernel
theorem q338_66 : decode (zbc 338) 66 = .ok (.invokevirtual 198, 3) := by decide +kernel
theorem wk338_66 : wSC 338 66 350 2 (some "java/lang/StringBuilder") := wk_V (n' := 1) q338_66 kx_1271 kx_1272 kx_1273 kx_56 kx_1274 ⟨by decide, by decide, by decide +kernel⟩ rfl ⟨Nat.le_of_ble_eq_true rfl, Nat.le_of_ble_eq_true rfl⟩
theorem q338_69 : decode (zbc 338) 69 = .ok (.astore 4, 2) := by decide +kernel
theorem q338_71 : decode (zbc 338) 71 = .ok (.iload_n 1, 1) := by decide +kernel
theorem q338_72 : decode (zbc 338) 72 = .ok (.istore 5, 2) := by decide +kernel
theorem q338_74 : decode (zbc 338) 74 = .ok (.iload_n 3, 1) := by decide +kernel
theorem q338_75 : decode (zbc 338) 75 = .ok (.iload_n 2, 1) := by decide +kernel
theorem kx_1286 : Cond.classLink "FalseLightMarshLaw" 206 "[[C" ∈ zTs := z_in (i := 1286) (by decide +kernel) (by decide +kernel)
theorem q338_76 : decode (zbc 338) 76 = .ok (.multianewarray 206 2, 4) := by decide +kernel
theorem q338_80 : decode (zbc 338) 80 = .ok (.astore 6, 2) := by decide +kernel
theorem q338_82 : decode (zbc 338) 82 = .ok (.iconst 0, 1) := by decide +kernel
theorem q338_83 : decode (zbc 338) 83 = .ok (.istore 7, 2) := by decide +kernel
theorem q338_174 : decode (zbc 338) 174 = .ok (.iconst 0, 1) := by decide +kernel
theorem q338_175 : decode (zbc 338) 175 = .ok (.istore 7, 2) := by decide +kernel
theorem q338_231 : decode (zbc 338) 231 = .ok (.iload_n 3, 1) := by decide +kernel
theorem q338_232 : decode (zbc 338) 232 = .ok (.iload_n 2, 1) := by decide +kernel
theorem kx_1292 : Cond.classLink "FalseLightMarshLaw" 215 "[[Z" ∈ zTs := z_in (i := 1292) (by decide +kernel) (by decide +kernel)
theorem q338_233 : decode (zbc 338) 233 = .ok (.multianewarray 215 2, 4) := by decide +kernel
theorem q338_237 : decode (zbc 338) 237 = .ok (.astore 7, 2) := by decide +kernel
theorem q338_239 : decode (zbc 338) 239 = .ok (.iconst 0, 1) := by decide +kernel
theorem q338_240 : decode (zbc 338) 240 = .ok (.istore 8, 2) := by decide +kernel
theorem q338_242 : decode (zbc 338) 242 = .ok (.iconst 0, 1) := by decide +kernel
theorem q338_243 : decode (zbc 338) 243 = .ok (.istore 9, 2) := by decide +kernel
theorem q338_448 : decode (zbc 338) 448 = .ok (.iconst 0, 1) := by decide +kernel
theorem q338_449 : decode (zbc 338) 449 = .ok (.istore 9, 2) := by decide +kernel
theorem q338_564 : decode (zbc 338) 564 = .ok (.aload 4, 2) := by decide +kernel
theorem q338_566 : decode (zbc 338) 566 = .ok (.invokevirtual 227, 3) := by decide +kernel
theorem kx_1299 : Cond.methodLink "FalseLightMarshLaw" 227 yJ4_toString_0e30d ∈ zTs := z_in (i := 1299) (by decide +kernel) (by decide +kernel)
theorem kx_1300 : Cond.instanceMethod yJ4_toString_0e30d ∈ zTs := z_in (i := 1300) (by decide +kernel) (by decide +kernel)
theorem kx_1301 : Cond.selects "java/lang/StringBuilder" yJ4_toString_0e30d yJ4_toString_0e30d ∈ zTs := z_in (i := 1301) (by decide +kernel) (by decide +kernel)
theorem kx_1302 : Cond.code yJ4_toString_0e30d cJ4_toString_0e30d 1 (some (.object "java/lang/String")) ∈ zTs := z_in (i := 1302) (by decide +kernel) (by decide +kernel)
theorem wk338_566 : wSC 338 566 354 1 (some "java/lang/StringBuilder") := wk_V (n' := 0) q338_566 kx_1299 kx_1300 kx_1301 kx_56 kx_1302 ⟨by decide, by decide, by decide +kernel⟩ rfl ⟨Nat.le_of_ble_eq_true rfl, Nat.le_of_ble_eq_true rfl⟩
theorem q338_569 : decode (zbc 338) 569 = .ok (.areturn, 1) := by decide +kernel
theorem cS_marsh {X : Nat × (Nat → Int32)} {G F : GM} {Y : DY} {w v : Int} : wC (229, X) 338 200 180000 [.int (zi w), .int (zi v)] G F Y (fun o G' F' Y' => ∃ (r : Nat) (t : List Int) (D : Int → Int), o = some (.ref r) ∧ G = G' ∧ F = F' ∧ wStr Y' r t ∧ tGood t D ∧ Yfr Y Y') := by
  refine w_met (L0 := [.int (zi w), .int (zi v), .null, .null, .null, .null, .null, .null, .null, .null, .null, .null]) (by decide +kernel) rfl rfl ?_
  have e1 := zand_255 w
  have e2 := zand_255 (zshr w 3)
  have e6 := zand_255 (zshr w 6)
  refine wi_iconst (pc' := 1) q338_0 rfl ?_
  refine wi_iload_n (i := 0) (pc' := 2) q338_1 rfl rfl rfl ?_
  refine wi_sipush (pc' := 5) q338_2 rfl (by decide) ?_
  refine wi_iand (pc' := 6) q338_5 rfl ?_
  refine wi_bipush (pc' := 8) q338_6 rfl (by decide) ?_
  refine wi_irem (pc' := 9) q338_8 rfl (by omega) (by omega) ?_
  refine wi_iadd (pc' := 10) q338_9 rfl ?_
  obtain ⟨W, hWe⟩ : ∃ W : Nat, 2 + zand w 255 % 6 = (W : Int) := ⟨(2 + zand w 255 % 6).toNat, (Int.toNat_of_nonneg (by omega)).symm⟩
  rw [hWe]
  have hW : 2 ≤ W ∧ W ≤ 7 := by omega
  refine wi_istore2 (pc' := 11) q338_10 rfl rfl rfl (Or.inr rfl) ?_
  refine wi_iconst (pc' := 12) q338_11 rfl ?_
  refine wi_iload_n (i := 0) (pc' := 13) q338_12 rfl rfl rfl ?_
  refine wi_iconst (pc' := 14) q338_13 rfl ?_
  refine wi_ishr (pc' := 15) q338_14 rfl ?_
  refine wi_sipush (pc' := 18) q338_15 rfl (by decide) ?_
  refine wi_iand (pc' := 19) q338_18 rfl ?_
  refine wi_iconst (pc' := 20) q338_19 rfl ?_
  refine wi_irem (pc' := 21) q338_20 rfl (by omega) (by omega) ?_
  refine wi_iadd (pc' := 22) q338_21 rfl ?_
  obtain ⟨H, hHe⟩ : ∃ H : Nat, 2 + zand (zshr w 3) 255 % 5 = (H : Int) := ⟨(2 + zand (zshr w 3) 255 % 5).toNat, (Int.toNat_of_nonneg (by omega)).symm⟩
  rw [hHe]
  have hH : 2 ≤ H ∧ H ≤ 6 := by omega
  refine wi_istore3 (pc' := 23) q338_22 rfl rfl rfl (Or.inr rfl) ?_
  refine wi_mkSB (pc' := 26) q338_23 rfl kx_1114 (by (try dsimp only); omega) (by (try dsimp only); omega) ?_
  refine wi_dupR (pc' := 27) q338_26 rfl ?_
  refine wi_ldcS (tx := "marsh ") (r := 330) (pc' := 29) q338_27 rfl rfl (by decide) (by decide) ?_
  refine wi_call (pc' := 32) wk338_29 rfl (cJ_init4 (Y := w_add Y (0, 10, [1, 0, 0, 0]) (fun _ => 0)) (i := Y.2.2) (show Y.2.2 < Y.2.2 + 1 by omega) w_add_hi (by rw [w_add_En]) (kT_c (i := 0) (by decide))) rfl (Nat.le_of_ble_eq_true rfl) (Nat.le_of_ble_eq_true rfl) (by (try dsimp only); omega) (by (try dsimp only); omega) ((fun C hC => by cases hC; exact ⟨_, _, rfl, Or.inl ⟨Y.2.2, 10, TJ4, 4, _, rfl, show Y.2.2 < Y.2.2 + 1 by omega, w_add_hi, rfl⟩⟩)) ?_
  rintro o9 G9 F9 Y9 ⟨rfl, rfl, rfl, hq9⟩ hle9
  have hm0 := MB_new hq9
  have hl0 : (kT 0).length ≤ 6 := by decide
  refine wi_iload_n (i := 2) (pc' := 33) q338_32 rfl rfl rfl ?_
  refine wi_appN1 (n := 6) (v := (W : Int)) (pc' := 36) MP_B wk338_33 rfl hm0 (by omega) hl0 (by omega) (Nat.le_of_ble_eq_true rfl) (by (try dsimp only); omega) (by (try dsimp only); omega) ?_
  intro Y1 m2 l3
  refine wi_bipush (pc' := 38) q338_36 rfl (by decide) ?_
  refine wi_appC (n := (6 + 1)) (v := 32) (pc' := 41) MP_B wk338_38 rfl m2 (by omega) l3 (by omega) (Nat.le_of_ble_eq_true rfl) (by (try dsimp only); omega) (by (try dsimp only); omega) ?_
  intro Y4 m5 l6
  refine wi_iload_n (i := 3) (pc' := 42) q338_41 rfl rfl rfl ?_
  refine wi_appN1 (n := ((6 + 1) + 1)) (v := (H : Int)) (pc' := 45) MP_B wk338_42 rfl m5 (by omega) l6 (by omega) (Nat.le_of_ble_eq_true rfl) (by (try dsimp only); omega) (by (try dsimp only); omega) ?_
  intro Y7 m8 l9
  refine wi_ldcS (tx := " clear ") (r := 331) (pc' := 47) q338_45 rfl rfl (by decide) (by decide) ?_
  refine wi_appS (n := (((6 + 1) + 1) + 1)) (q := 7) (pc' := 50) MP_B wk338_47 rfl m8 (kT_c (i := 1) (by decide)) l9 (by decide) (by omega) (Nat.le_of_ble_eq_true rfl) (by (try dsimp only); omega) (by (try dsimp only); omega) ?_
  intro Y10 m11 l12
  refine wi_iload_n (i := 0) (pc' := 51) q338_50 rfl rfl rfl ?_
  refine wi_bipush (pc' := 53) q338_51 rfl (by decide) ?_
  refine wi_ishr (pc' := 54) q338_53 rfl ?_
  refine wi_sipush (pc' := 57) q338_54 rfl (by decide) ?_
  refine wi_iand (pc' := 58) q338_57 rfl ?_
  refine wi_bipush (pc' := 60) q338_58 rfl (by decide) ?_
  refine wi_irem (pc' := 61) q338_60 rfl (by omega) (by omega) ?_
  have q6 : 0 ≤ zand (zshr w 6) 255 % 8 ∧ zand (zshr w 6) 255 % 8 ≤ 7 := by omega
  generalize zand (zshr w 6) 255 % 8 = cl at q6 ⊢
  refine wi_appN1 (n := ((((6 + 1) + 1) + 1) + 7)) (v := cl) (pc' := 64) MP_B wk338_61 rfl m11 (by omega) l12 (by omega) (Nat.le_of_ble_eq_true rfl) (by (try dsimp only); omega) (by (try dsimp only); omega) ?_
  intro Y13 m14 l15
  refine wi_bipush (pc' := 66) q338_64 rfl (by decide) ?_
  refine wi_appC (n := (((((6 + 1) + 1) + 1) + 7) + 1)) (v := 59) (pc' := 69) MP_B wk338_66 rfl m14 (by omega) l15 (by omega) (Nat.le_of_ble_eq_true rfl) (by (try dsimp only); omega) (by (try dsimp only); omega) ?_
  intro Y16 m17 l18
  refine wi_astore4 (pc' := 71) q338_69 rfl rfl (Or.inr rfl) ?_
  refine wi_iload_n (i := 1) (pc' := 72) q338_71 rfl rfl rfl ?_
  refine wi_istore5 (pc' := 74) q338_72 rfl rfl (Or.inr rfl) ?_
  refine wi_iload_n (i := 3) (pc' := 75) q338_74 rfl rfl rfl ?_
  refine wi_iload_n (i := 2) (pc' := 76) q338_75 rfl rfl rfl ?_
  rw [tx_head] at m17 l18
  have hmm := Nat.mul_le_mul hH.2 hW.2
  refine wi_mnaC (n := H) (m := W) (pc' := 80) q338_76 rfl (by rw [show "[" ++ (FieldType.array .char).toString = "[[C" from by decide +kernel]; exact kx_1286) rfl rfl (by omega) (by omega) (by (try dsimp only); omega) (by (try dsimp only); have := Nat.mul_le_mul hH.2 hW.2; omega) ?_
  have hM2 := M2_new (W := W) (H := H) m17
  refine wi_astore6 (pc' := 82) q338_80 rfl rfl (Or.inr rfl) ?_
  refine wi_iconst (pc' := 83) q338_82 rfl ?_
  refine wi_istore7 (pc' := 85) q338_83 rfl rfl (Or.inr rfl) ?_
  refine wW_cd (c' := 20) (d' := 8000) (by (try dsimp only); omega) (by (try dsimp only); omega) ?_
  refine mr_o (Y0 := Y) (K := Y16.2.2) (W := W) (H := H) (c := 20) (d := 8000) hW hH (by (try dsimp only); omega) (by (try dsimp only); omega) ?_ 99 0 _ (fun _ => 0) _ _ _ _ (by omega) (by omega) (rdR_0 (b := (H : Int)) ⟨by omega, by omega⟩ ⟨by omega, by omega⟩ ⟨q6.1, by omega⟩) (mR_0 (cl := cl) ⟨hW.1, by omega⟩ ⟨hH.1, by omega⟩ ⟨q6.1, by omega⟩) hM2 (by omega)
  intro t1 C D1 x1 a8 Y1 hr1 hD1 hm1 hl1
  have hD1 := mR_end hD1
  refine wi_iconst (pc' := 175) q338_174 rfl ?_
  refine wi_istore7 (pc' := 177) q338_175 rfl rfl (Or.inr rfl) ?_
  refine mr_f (Y0 := Y) (K := Y16.2.2) (W := W) (H := H) (C := C) hW hH (by (try dsimp only); omega) (by (try dsimp only); omega) ?_ 99 0 _ _ _ (by omega) (by omega) (rdF_0 hr1) hD1 hm1 (by omega)
  intro k2 t2 D2 Y2 hk2 hr2 hD2 hm2 hl2
  refine wi_iload_n (i := 3) (pc' := 232) q338_231 rfl rfl rfl ?_
  refine wi_iload_n (i := 2) (pc' := 233) q338_232 rfl rfl rfl ?_
  refine wi_mnaZ (n := H) (m := W) (pc' := 237) q338_233 rfl (by rw [show "[" ++ (FieldType.array .boolean).toString = "[[Z" from by decide +kernel]; exact kx_1292) rfl rfl (by omega) (by omega) (by (try dsimp only); omega) (by (try dsimp only); have := Nat.mul_le_mul hH.2 hW.2; omega) ?_
  have hM3 := M3_new hm2
  refine wi_astore7 (pc' := 239) q338_237 rfl rfl (Or.inr rfl) ?_
  refine wi_iconst (pc' := 240) q338_239 rfl ?_
  refine wi_istore8 (pc' := 242) q338_240 rfl rfl (Or.inr rfl) ?_
  refine wi_iconst (pc' := 243) q338_242 rfl ?_
  refine wi_istore9 (pc' := 245) q338_243 rfl rfl (Or.inr rfl) ?_
  refine wW_cd (c' := 100) (d' := 80000) (by (try dsimp only); omega) (by (try dsimp only); omega) ?_
  refine mr_l (Y0 := Y) (K := Y16.2.2) (K2 := Y2.2.2) (W := W) (H := H) (C := C) (c := 100) (d := 80000) hW hH (by (try dsimp only); omega) (by (try dsimp only); omega) ?_ 99 0 0 t2 D2 (fun _ => 0) _ _ _ _ (by omega) (by omega) (Nat.le_refl _) (rdL_0 hr2) hD2 ⟨fun _ => Or.inl rfl, fun l l0 l1 => by have := hD2.2.1.2.2.1; omega⟩ hM3 (by omega)
  intro k3 nl t3 D3 E3 x3 b10 b11 Y3 hk3 hr3 hD3 hE3 hm3 hl3
  refine wi_iconst (pc' := 449) q338_448 rfl ?_
  refine wi_istore9 (pc' := 451) q338_449 rfl rfl (Or.inr rfl) ?_
  refine wW_cd (c' := 170) (d' := 150000) (by (try dsimp only); omega) (by (try dsimp only); omega) ?_
  refine mr_w (Y0 := Y) (K := Y16.2.2) (K2 := Y2.2.2) (W := W) (H := H) (C := C) (c := 170) (d := 150000) hW hH (by (try dsimp only); omega) (by (try dsimp only); omega) ?_ 99 0 0 t3 D3 _ _ _ _ (by omega) (by omega) (Nat.le_refl _) (rdW_0 hr3) hD3 hm3 (by omega)
  intro k4 nw t4 D4 x4 d10 d11 Y4 hk4 hr4 hD4 hm4 hl4
  refine wW_g (fun hg => ?_)
  obtain ⟨⟨⟨⟨⟨j5, m5, hs5, -⟩, hf5⟩, -⟩, -⟩, -⟩ := hm4
  refine wi_aload (i := 4) (pc' := 566) q338_564 rfl rfl ?_
  refine wi_call (pc' := 569) wk338_566 rfl (cJ_toStr hs5 (by omega) hg.2.2.2.1) rfl (Nat.le_of_ble_eq_true rfl) (Nat.le_of_ble_eq_true rfl) (by (try dsimp only); omega) (by (try dsimp only); omega) (wrv_sb hs5) ?_
  rintro o9 G9 F9 Y9 ⟨rfl, rfl, rfl, hq1, hq2, hq3⟩ hle9
  refine wW_r (o := some (.ref (1000 + Y4.2.2))) ⟨q338_569, _, rfl, Or.inl ⟨_, rfl⟩⟩ rfl (by (try dsimp only); omega) (by (try dsimp only); omega) ?_
  exact ⟨_, _, _, rfl, rfl, rfl, hq1, ⟨by omega, ⟨_, _, hr4⟩, hD4.1⟩, Yfr_t hf5 ⟨hq2, hq3⟩⟩
