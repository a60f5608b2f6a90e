/-! The law's travellers(x), the whole. -/
theorem q343_566 : decode (zbc 343) 566 = .ok (.iload_n 1, 1) := by decide +kernel
theorem q343_567 : decode (zbc 343) 567 = .ok (.ifCond .ne 7, 3) := by decide +kernel
theorem q343_574 : decode (zbc 343) 574 = .ok (.aload_n 2, 1) := by decide +kernel
theorem q343_575 : decode (zbc 343) 575 = .ok (.iconst 1, 1) := by decide +kernel
theorem q343_576 : decode (zbc 343) 576 = .ok (.iaload, 1) := by decide +kernel
theorem q343_577 : decode (zbc 343) 577 = .ok (.i2f, 1) := by decide +kernel
theorem q343_578 : decode (zbc 343) 578 = .ok (.iload_n 1, 1) := by decide +kernel
theorem q343_579 : decode (zbc 343) 579 = .ok (.i2f, 1) := by decide +kernel
theorem q343_580 : decode (zbc 343) 580 = .ok (.fdiv, 1) := by decide +kernel
theorem q343_581 : decode (zbc 343) 581 = .ok (.fcmp .l, 1) := by decide +kernel
theorem q343_582 : decode (zbc 343) 582 = .ok (.ifCond .ne 57, 3) := by decide +kernel
theorem q343_570 : decode (zbc 343) 570 = .ok (.fconst 0, 1) := by decide +kernel
theorem q343_571 : decode (zbc 343) 571 = .ok (.goto 10, 3) := by decide +kernel
theorem tr_sh {X : Nat × (Nat → Int32)} {b : WB} {c d : Nat} {G F : GM} {Y : DY} {Q : WQ} {s : Int → Int} {i : Nat} {D : Int → Int} (h5 : 0 ≤ s 5 ∧ s 5 ≤ 6) (har : wAr i 3 D Y) (hD1 : D 1 = sCount s 1) {r0 a4 a5 a6 a7 a8 a9 a10 a11 a12 a13 a14 a15 a16 : Value} : wW (229, X) 343 b 585 [r0, .int (zi (s 5)), .ref (1000 + i), .int (zi (sStp s (s 5).toNat)), a4, a5, a6, a7, a8, a9, a10, a11, a12, a13, a14, a15, a16] [] G F Y c d Q → wW (229, X) 343 b 566 [r0, .int (zi (s 5)), .ref (1000 + i), .int (zi (sStp s (s 5).toNat)), a4, a5, a6, a7, a8, a9, a10, a11, a12, a13, a14, a15, a16] [.float (sShare s)] G F Y c d Q := by
  intro hk
  obtain ⟨p3, p4⟩ : ∃ c : Nat, s 5 = c := ⟨(s 5).toNat, by omega⟩
  have p5 : p3 < 7 := by omega
  have hcn := sCount_rng s 1 h5
  obtain ⟨p1, p2⟩ : ∃ c : Nat, sCount s 1 = c := ⟨(sCount s 1).toNat, by omega⟩
  refine wi_iload_n (i := 1) (pc' := 567) q343_566 rfl rfl rfl ?_
  refine wi_if_ne (t := 574) (pc' := 570) q343_567 (by decide) rfl (by omega) ?_ ?_
  · intro h6
    have hp0 : p3 ≠ 0 := fun h => h6 (by rw [p4, h]; rfl)
    have es : sShare s = FP.fdiv (FP.i2f (zi (sCount s 1))) (FP.i2f (zi (s 5))) := if_neg h6
    refine wi_aload_n (i := 2) (pc' := 575) q343_574 rfl rfl rfl ?_
    refine wi_iconst (pc' := 576) q343_575 rfl ?_
    refine wi_arget (pc' := 577) q343_576 rfl har (by omega) (by omega) ?_
    rw [hD1]
    refine wi_i2f (pc' := 578) q343_577 rfl ?_
    refine wi_iload_n (i := 1) (pc' := 579) q343_578 rfl rfl rfl ?_
    refine wi_i2f (pc' := 580) q343_579 rfl ?_
    refine wi_fdiv (pc' := 581) q343_580 rfl (by rw [p2, p4]; exact zf_share p1 (by omega) p3 p5 hp0) ?_
    rw [← es]
    refine wi_fcmp (v := 0) (pc' := 582) q343_581 rfl (by rw [es, p2, p4]; exact fsh_self p1 (by omega) p3 p5 hp0) ?_
    refine wi_if_ne (t := 639) (pc' := 585) q343_582 (by decide) rfl (by decide) (fun h => absurd rfl h) (fun _ => hk)
  · intro h6
    have es : sShare s = FP.fconst0 := if_pos h6
    refine wi_fconst (pc' := 571) q343_570 rfl ?_
    refine wi_goto (t := 581) q343_571 (by decide) ?_
    rw [es]
    refine wi_fcmp (v := 0) (pc' := 582) q343_581 rfl (by decide +kernel) ?_
    refine wi_if_ne (t := 639) (pc' := 585) q343_582 (by decide) rfl (by decide) (fun h => absurd rfl h) (fun _ => hk)
theorem q343_589 : decode (zbc 343) 589 = .ok (.iload_n 1, 1) := by decide +kernel
theorem q343_590 : decode (zbc 343) 590 = .ok (.ifCond .ne 7, 3) := by decide +kernel
theorem q343_597 : decode (zbc 343) 597 = .ok (.iload_n 3, 1) := by decide +kernel
theorem q343_598 : decode (zbc 343) 598 = .ok (.i2d, 1) := by decide +kernel
theorem q343_599 : decode (zbc 343) 599 = .ok (.iload_n 1, 1) := by decide +kernel
theorem q343_600 : decode (zbc 343) 600 = .ok (.i2d, 1) := by decide +kernel
theorem q343_601 : decode (zbc 343) 601 = .ok (.ddiv, 1) := by decide +kernel
theorem q343_602 : decode (zbc 343) 602 = .ok (.dcmp .l, 1) := by decide +kernel
theorem q343_603 : decode (zbc 343) 603 = .ok (.ifCond .ne 36, 3) := by decide +kernel
theorem q343_593 : decode (zbc 343) 593 = .ok (.dconst 0, 1) := by decide +kernel
theorem q343_594 : decode (zbc 343) 594 = .ok (.goto 8, 3) := by decide +kernel
theorem tr_me {X : Nat × (Nat → Int32)} {b : WB} {c d : Nat} {G F : GM} {Y : DY} {Q : WQ} {s : Int → Int} {i : Nat} (h5 : 0 ≤ s 5 ∧ s 5 ≤ 6) {r0 a4 a5 a6 a7 a8 a9 a10 a11 a12 a13 a14 a15 a16 : Value} : wW (229, X) 343 b 606 [r0, .int (zi (s 5)), .ref (1000 + i), .int (zi (sStp s (s 5).toNat)), a4, a5, a6, a7, a8, a9, a10, a11, a12, a13, a14, a15, a16] [] G F Y c d Q → wW (229, X) 343 b 589 [r0, .int (zi (s 5)), .ref (1000 + i), .int (zi (sStp s (s 5).toNat)), a4, a5, a6, a7, a8, a9, a10, a11, a12, a13, a14, a15, a16] [.double (sMean s)] G F Y c d Q := by
  intro hk
  obtain ⟨p3, p4⟩ : ∃ c : Nat, s 5 = c := ⟨(s 5).toNat, by omega⟩
  have p5 : p3 < 7 := by omega
  refine wi_iload_n (i := 1) (pc' := 590) q343_589 rfl rfl rfl ?_
  refine wi_if_ne (t := 597) (pc' := 593) q343_590 (by decide) rfl (by omega) ?_ ?_
  · intro h6
    have hp0 : p3 ≠ 0 := fun h => h6 (by rw [p4, h]; rfl)
    have es : sMean s = FP.ddiv (FP.i2d (zi (sStp s (s 5).toNat))) (FP.i2d (zi (s 5))) := if_neg h6
    refine wi_iload_n (i := 3) (pc' := 598) q343_597 rfl rfl rfl ?_
    refine wi_i2d (pc' := 599) q343_598 rfl ?_
    refine wi_iload_n (i := 1) (pc' := 600) q343_599 rfl rfl rfl ?_
    refine wi_i2d (pc' := 601) q343_600 rfl ?_
    refine wi_ddiv (pc' := 602) q343_601 rfl (by rw [p4]; exact zq_div _ p5 hp0) ?_
    rw [← es]
    refine wi_dcmp (v := 0) (pc' := 603) q343_602 rfl (dcmp_self (by rw [es, p4]; exact dsh_rng _ p5 hp0)) ?_
    refine wi_if_ne (t := 639) (pc' := 606) q343_603 (by decide) rfl (by decide) (fun h => absurd rfl h) (fun _ => hk)
  · intro h6
    have es : sMean s = FP.dconst0 := if_pos h6
    refine wi_dconst (pc' := 594) q343_593 rfl ?_
    refine wi_goto (t := 602) q343_594 (by decide) ?_
    rw [es]
    refine wi_dcmp (v := 0) (pc' := 603) q343_602 rfl (by decide +kernel) ?_
    refine wi_if_ne (t := 639) (pc' := 606) q343_603 (by decide) rfl (by decide) (fun h => absurd rfl h) (fun _ => hk)
theorem q343_0 : decode (zbc 343) 0 = .ok (.aload_n 0, 1) := by decide +kernel
theorem q343_1 : decode (zbc 343) 1 = .ok (.invokevirtual 257, 3) := by decide +kernel
theorem wq343_1 {L9 : Nat} {xs9 : Nat → Int32} {N9 : Nat} : z_SC N9 znl zTs (zZ L9 xs9 N9) zyn zbc zrt zfr zlo (fun _ i => i) ztb 343 1 3 228 1 := sc_V (P := fun _ i => i) (n' := 0) zTs_good q343_1 kx_541 kx_542 kx_543 kx_32 kx_544 rfl ⟨by decide, by decide, by decide +kernel⟩ rfl ⟨Nat.le_of_ble_eq_true rfl, Nat.le_of_ble_eq_true rfl⟩
theorem q343_4 : decode (zbc 343) 4 = .ok (.istore_n 1, 1) := by decide +kernel
theorem q343_5 : decode (zbc 343) 5 = .ok (.iconst 3, 1) := by decide +kernel
theorem q343_6 : decode (zbc 343) 6 = .ok (.newarray .int, 2) := by decide +kernel
theorem q343_8 : decode (zbc 343) 8 = .ok (.astore_n 2, 1) := by decide +kernel
theorem q343_9 : decode (zbc 343) 9 = .ok (.iconst 0, 1) := by decide +kernel
theorem q343_10 : decode (zbc 343) 10 = .ok (.istore_n 3, 1) := by decide +kernel
theorem q343_11 : decode (zbc 343) 11 = .ok (.aload_n 0, 1) := by decide +kernel
theorem q343_12 : decode (zbc 343) 12 = .ok (.bipush 31, 2) := by decide +kernel
theorem q343_14 : decode (zbc 343) 14 = .ok (.iload_n 1, 1) := by decide +kernel
theorem q343_15 : decode (zbc 343) 15 = .ok (.invokestatic 185, 3) := by decide +kernel
theorem wq343_15 {L9 : Nat} {xs9 : Nat → Int32} {N9 : Nat} : z_SC N9 znl zTs (zZ L9 xs9 N9) zyn zbc zrt zfr zlo (fun _ i => i) ztb 343 15 2 336 3 := sc_S (P := fun _ i => i) zTs_good q343_15 kx_545 kx_546 kx_31 kx_547 rfl ⟨by decide, by decide, by decide +kernel⟩ ⟨Nat.le_of_ble_eq_true rfl, Nat.le_of_ble_eq_true rfl⟩
theorem q343_18 : decode (zbc 343) 18 = .ok (.bipush (-104), 2) := by decide +kernel
theorem q343_20 : decode (zbc 343) 20 = .ok (.if_icmp .ne 25, 3) := by decide +kernel
theorem q343_23 : decode (zbc 343) 23 = .ok (.aload_n 0, 1) := by decide +kernel
theorem q343_24 : decode (zbc 343) 24 = .ok (.bipush 42, 2) := by decide +kernel
theorem q343_26 : decode (zbc 343) 26 = .ok (.iload_n 1, 1) := by decide +kernel
theorem q343_27 : decode (zbc 343) 27 = .ok (.invokestatic 185, 3) := by decide +kernel
theorem wq343_27 {L9 : Nat} {xs9 : Nat → Int32} {N9 : Nat} : z_SC N9 znl zTs (zZ L9 xs9 N9) zyn zbc zrt zfr zlo (fun _ i => i) ztb 343 27 2 336 3 := sc_S (P := fun _ i => i) zTs_good q343_27 kx_545 kx_546 kx_31 kx_547 rfl ⟨by decide, by decide, by decide +kernel⟩ ⟨Nat.le_of_ble_eq_true rfl, Nat.le_of_ble_eq_true rfl⟩
theorem q343_30 : decode (zbc 343) 30 = .ok (.bipush (-104), 2) := by decide +kernel
theorem q343_32 : decode (zbc 343) 32 = .ok (.if_icmp .ne 13, 3) := by decide +kernel
theorem q343_35 : decode (zbc 343) 35 = .ok (.iload_n 1, 1) := by decide +kernel
theorem q343_36 : decode (zbc 343) 36 = .ok (.bipush 6, 2) := by decide +kernel
theorem q343_38 : decode (zbc 343) 38 = .ok (.if_icmp .gt 7, 3) := by decide +kernel
theorem q343_41 : decode (zbc 343) 41 = .ok (.iconst 1, 1) := by decide +kernel
theorem q343_42 : decode (zbc 343) 42 = .ok (.goto 4, 3) := by decide +kernel
theorem q343_46 : decode (zbc 343) 46 = .ok (.istore 4, 2) := by decide +kernel
theorem q343_48 : decode (zbc 343) 48 = .ok (.iconst 0, 1) := by decide +kernel
theorem q343_49 : decode (zbc 343) 49 = .ok (.istore 5, 2) := by decide +kernel
theorem q343_527 : decode (zbc 343) 527 = .ok (.iload 4, 2) := by decide +kernel
theorem q343_529 : decode (zbc 343) 529 = .ok (.ifCond .eq 110, 3) := by decide +kernel
theorem q343_532 : decode (zbc 343) 532 = .ok (.aload_n 2, 1) := by decide +kernel
theorem q343_533 : decode (zbc 343) 533 = .ok (.iconst 0, 1) := by decide +kernel
theorem q343_534 : decode (zbc 343) 534 = .ok (.iaload, 1) := by decide +kernel
theorem q343_535 : decode (zbc 343) 535 = .ok (.aload_n 0, 1) := by decide +kernel
theorem q343_536 : decode (zbc 343) 536 = .ok (.invokevirtual 281, 3) := by decide +kernel
theorem kx_1409 : Cond.methodLink "FalseLightMarshLaw" 281 yX8_walkingCount ∈ zTs := z_in (i := 1409) (by decide +kernel) (by decide +kernel)
theorem kx_1410 : Cond.instanceMethod yX8_walkingCount ∈ zTs := z_in (i := 1410) (by decide +kernel) (by decide +kernel)
theorem kx_1411 : Cond.selects "FalseLightMarsh" yX8_walkingCount yX8_walkingCount ∈ zTs := z_in (i := 1411) (by decide +kernel) (by decide +kernel)
theorem kx_1412 : Cond.code yX8_walkingCount cX8_walkingCount 1 (some .int) ∈ zTs := z_in (i := 1412) (by decide +kernel) (by decide +kernel)
theorem wq343_536 {L9 : Nat} {xs9 : Nat → Int32} {N9 : Nat} : z_SC N9 znl zTs (zZ L9 xs9 N9) zyn zbc zrt zfr zlo (fun _ i => i) ztb 343 536 3 241 1 := sc_V (P := fun _ i => i) (n' := 0) zTs_good q343_536 kx_1409 kx_1410 kx_1411 kx_32 kx_1412 rfl ⟨by decide, by decide, by decide +kernel⟩ rfl ⟨Nat.le_of_ble_eq_true rfl, Nat.le_of_ble_eq_true rfl⟩
theorem q343_539 : decode (zbc 343) 539 = .ok (.if_icmp .ne 100, 3) := by decide +kernel
theorem q343_542 : decode (zbc 343) 542 = .ok (.aload_n 2, 1) := by decide +kernel
theorem q343_543 : decode (zbc 343) 543 = .ok (.iconst 1, 1) := by decide +kernel
theorem q343_544 : decode (zbc 343) 544 = .ok (.iaload, 1) := by decide +kernel
theorem q343_545 : decode (zbc 343) 545 = .ok (.aload_n 0, 1) := by decide +kernel
theorem q343_546 : decode (zbc 343) 546 = .ok (.invokevirtual 284, 3) := by decide +kernel
theorem kx_1413 : Cond.methodLink "FalseLightMarshLaw" 284 yX8_arrivedCount ∈ zTs := z_in (i := 1413) (by decide +kernel) (by decide +kernel)
theorem kx_1414 : Cond.instanceMethod yX8_arrivedCount ∈ zTs := z_in (i := 1414) (by decide +kernel) (by decide +kernel)
theorem kx_1415 : Cond.selects "FalseLightMarsh" yX8_arrivedCount yX8_arrivedCount ∈ zTs := z_in (i := 1415) (by decide +kernel) (by decide +kernel)
theorem kx_1416 : Cond.code yX8_arrivedCount cX8_arrivedCount 1 (some .int) ∈ zTs := z_in (i := 1416) (by decide +kernel) (by decide +kernel)
theorem wq343_546 {L9 : Nat} {xs9 : Nat → Int32} {N9 : Nat} : z_SC N9 znl zTs (zZ L9 xs9 N9) zyn zbc zrt zfr zlo (fun _ i => i) ztb 343 546 3 242 1 := sc_V (P := fun _ i => i) (n' := 0) zTs_good q343_546 kx_1413 kx_1414 kx_1415 kx_32 kx_1416 rfl ⟨by decide, by decide, by decide +kernel⟩ rfl ⟨Nat.le_of_ble_eq_true rfl, Nat.le_of_ble_eq_true rfl⟩
theorem q343_549 : decode (zbc 343) 549 = .ok (.if_icmp .ne 90, 3) := by decide +kernel
theorem q343_552 : decode (zbc 343) 552 = .ok (.aload_n 2, 1) := by decide +kernel
theorem q343_553 : decode (zbc 343) 553 = .ok (.iconst 2, 1) := by decide +kernel
theorem q343_554 : decode (zbc 343) 554 = .ok (.iaload, 1) := by decide +kernel
theorem q343_555 : decode (zbc 343) 555 = .ok (.aload_n 0, 1) := by decide +kernel
theorem q343_556 : decode (zbc 343) 556 = .ok (.invokevirtual 287, 3) := by decide +kernel
theorem kx_1417 : Cond.methodLink "FalseLightMarshLaw" 287 yX8_sunkCount ∈ zTs := z_in (i := 1417) (by decide +kernel) (by decide +kernel)
theorem kx_1418 : Cond.instanceMethod yX8_sunkCount ∈ zTs := z_in (i := 1418) (by decide +kernel) (by decide +kernel)
theorem kx_1419 : Cond.selects "FalseLightMarsh" yX8_sunkCount yX8_sunkCount ∈ zTs := z_in (i := 1419) (by decide +kernel) (by decide +kernel)
theorem kx_1420 : Cond.code yX8_sunkCount cX8_sunkCount 1 (some .int) ∈ zTs := z_in (i := 1420) (by decide +kernel) (by decide +kernel)
theorem wq343_556 {L9 : Nat} {xs9 : Nat → Int32} {N9 : Nat} : z_SC N9 znl zTs (zZ L9 xs9 N9) zyn zbc zrt zfr zlo (fun _ i => i) ztb 343 556 3 243 1 := sc_V (P := fun _ i => i) (n' := 0) zTs_good q343_556 kx_1417 kx_1418 kx_1419 kx_32 kx_1420 rfl ⟨by decide, by decide, by decide +kernel⟩ rfl ⟨Nat.le_of_ble_eq_true rfl, Nat.le_of_ble_eq_true rfl⟩
theorem q343_559 : decode (zbc 343) 559 = .ok (.if_icmp .ne 80, 3) := by decide +kernel
theorem q343_562 : decode (zbc 343) 562 = .ok (.aload_n 0, 1) := by decide +kernel
theorem q343_563 : decode (zbc 343) 563 = .ok (.invokevirtual 290, 3) := by decide +kernel
theorem kx_1421 : Cond.methodLink "FalseLightMarshLaw" 290 yX8_arrivedShare ∈ zTs := z_in (i := 1421) (by decide +kernel) (by decide +kernel)
theorem kx_1422 : Cond.instanceMethod yX8_arrivedShare ∈ zTs := z_in (i := 1422) (by decide +kernel) (by decide +kernel)
theorem kx_1423 : Cond.selects "FalseLightMarsh" yX8_arrivedShare yX8_arrivedShare ∈ zTs := z_in (i := 1423) (by decide +kernel) (by decide +kernel)
theorem kx_1424 : Cond.code yX8_arrivedShare cX8_arrivedShare 2 (some .float) ∈ zTs := z_in (i := 1424) (by decide +kernel) (by decide +kernel)
theorem wq343_563 {L9 : Nat} {xs9 : Nat → Int32} {N9 : Nat} : z_SC N9 znl zTs (zZ L9 xs9 N9) zyn zbc zrt zfr zlo (fun _ i => i) ztb 343 563 3 244 1 := sc_V (P := fun _ i => i) (n' := 0) zTs_good q343_563 kx_1421 kx_1422 kx_1423 kx_32 kx_1424 rfl ⟨by decide, by decide, by decide +kernel⟩ rfl ⟨Nat.le_of_ble_eq_true rfl, Nat.le_of_ble_eq_true rfl⟩
theorem q343_585 : decode (zbc 343) 585 = .ok (.aload_n 0, 1) := by decide +kernel
theorem q343_586 : decode (zbc 343) 586 = .ok (.invokevirtual 294, 3) := by decide +kernel
theorem kx_1425 : Cond.methodLink "FalseLightMarshLaw" 294 yX8_meanSteps ∈ zTs := z_in (i := 1425) (by decide +kernel) (by decide +kernel)
theorem kx_1426 : Cond.instanceMethod yX8_meanSteps ∈ zTs := z_in (i := 1426) (by decide +kernel) (by decide +kernel)
theorem kx_1427 : Cond.selects "FalseLightMarsh" yX8_meanSteps yX8_meanSteps ∈ zTs := z_in (i := 1427) (by decide +kernel) (by decide +kernel)
theorem kx_1428 : Cond.code yX8_meanSteps cX8_meanSteps 2 (some .double) ∈ zTs := z_in (i := 1428) (by decide +kernel) (by decide +kernel)
theorem wq343_586 {L9 : Nat} {xs9 : Nat → Int32} {N9 : Nat} : z_SC N9 znl zTs (zZ L9 xs9 N9) zyn zbc zrt zfr zlo (fun _ i => i) ztb 343 586 3 245 1 := sc_V (P := fun _ i => i) (n' := 0) zTs_good q343_586 kx_1425 kx_1426 kx_1427 kx_32 kx_1428 rfl ⟨by decide, by decide, by decide +kernel⟩ rfl ⟨Nat.le_of_ble_eq_true rfl, Nat.le_of_ble_eq_true rfl⟩
theorem q343_606 : decode (zbc 343) 606 = .ok (.aload_n 0, 1) := by decide +kernel
theorem q343_607 : decode (zbc 343) 607 = .ok (.invokevirtual 278, 3) := by decide +kernel
theorem wq343_607 {L9 : Nat} {xs9 : Nat → Int32} {N9 : Nat} : z_SC N9 znl zTs (zZ L9 xs9 N9) zyn zbc zrt zfr zlo (fun _ i => i) ztb 343 607 3 218 1 := sc_V (P := fun _ i => i) (n' := 0) zTs_good q343_607 kx_530 kx_531 kx_532 kx_32 kx_533 rfl ⟨by decide, by decide, by decide +kernel⟩ rfl ⟨Nat.le_of_ble_eq_true rfl, Nat.le_of_ble_eq_true rfl⟩
theorem q343_610 : decode (zbc 343) 610 = .ok (.iconst 0, 1) := by decide +kernel
theorem q343_611 : decode (zbc 343) 611 = .ok (.aload_n 0, 1) := by decide +kernel
theorem q343_612 : decode (zbc 343) 612 = .ok (.invokevirtual 246, 3) := by decide +kernel
theorem wq343_612 {L9 : Nat} {xs9 : Nat → Int32} {N9 : Nat} : z_SC N9 znl zTs (zZ L9 xs9 N9) zyn zbc zrt zfr zlo (fun _ i => i) ztb 343 612 3 216 1 := sc_V (P := fun _ i => i) (n' := 0) zTs_good q343_612 kx_1380 kx_1381 kx_1382 kx_32 kx_1383 rfl ⟨by decide, by decide, by decide +kernel⟩ rfl ⟨Nat.le_of_ble_eq_true rfl, Nat.le_of_ble_eq_true rfl⟩
theorem q343_615 : decode (zbc 343) 615 = .ok (.aload_n 0, 1) := by decide +kernel
theorem q343_616 : decode (zbc 343) 616 = .ok (.bipush 22, 2) := by decide +kernel
theorem q343_618 : decode (zbc 343) 618 = .ok (.aload_n 0, 1) := by decide +kernel
theorem q343_619 : decode (zbc 343) 619 = .ok (.invokevirtual 241, 3) := by decide +kernel
theorem wq343_619 {L9 : Nat} {xs9 : Nat → Int32} {N9 : Nat} : z_SC N9 znl zTs (zZ L9 xs9 N9) zyn zbc zrt zfr zlo (fun _ i => i) ztb 343 619 3 215 1 := sc_V (P := fun _ i => i) (n' := 0) zTs_good q343_619 kx_1375 kx_1376 kx_1377 kx_32 kx_1378 rfl ⟨by decide, by decide, by decide +kernel⟩ rfl ⟨Nat.le_of_ble_eq_true rfl, Nat.le_of_ble_eq_true rfl⟩
theorem q343_622 : decode (zbc 343) 622 = .ok (.bipush 24, 2) := by decide +kernel
theorem q343_624 : decode (zbc 343) 624 = .ok (.irem, 1) := by decide +kernel
theorem q343_625 : decode (zbc 343) 625 = .ok (.invokestatic 185, 3) := by decide +kernel
theorem wq343_625 {L9 : Nat} {xs9 : Nat → Int32} {N9 : Nat} : z_SC N9 znl zTs (zZ L9 xs9 N9) zyn zbc zrt zfr zlo (fun _ i => i) ztb 343 625 2 336 3 := sc_S (P := fun _ i => i) zTs_good q343_625 kx_545 kx_546 kx_31 kx_547 rfl ⟨by decide, by decide, by decide +kernel⟩ ⟨Nat.le_of_ble_eq_true rfl, Nat.le_of_ble_eq_true rfl⟩
theorem q343_628 : decode (zbc 343) 628 = .ok (.isub, 1) := by decide +kernel
theorem kxm_1433 : Cond.methodLink "FalseLightMarshLaw" 298 Lib.Math.max.name ∈ zTs := z_in (i := 1433) (by decide +kernel) (by decide +kernel)
theorem q343_629 : decode (zbc 343) 629 = .ok (.invokestatic 298, 3) := by decide +kernel
theorem q343_632 : decode (zbc 343) 632 = .ok (.if_icmp .ne 7, 3) := by decide +kernel
theorem q343_635 : decode (zbc 343) 635 = .ok (.iconst 1, 1) := by decide +kernel
theorem q343_636 : decode (zbc 343) 636 = .ok (.goto 4, 3) := by decide +kernel
theorem q343_640 : decode (zbc 343) 640 = .ok (.ireturn, 1) := by decide +kernel
theorem cS_travellers {X : Nat × (Nat → Int32)} {B : Int} {sv : Nat → Int → Int} {u : Int} {h : Nat → Int → Int} {s : Int → Int} {G F : GM} {Y : DY} (hB : B ≤ 9999) (p : PG B sv u h s G) : wC (229, X) 343 27 159 [.ref 192] G F Y (fun o G' F' Y' => o = some (.int (zi 1)) ∧ PG B sv u h s G' ∧ F = F' ∧ Yfr Y Y') := by
  refine w_met (L0 := [.ref 192, .null, .null, .null, .null, .null, .null, .null, .null, .null, .null, .null, .null, .null, .null, .null, .null]) (by decide +kernel) rfl rfl ?_
  have a0 := p.ok.1
  have a1 := p.ok.2.1
  have a2 := p.ok.2.2.1
  have a3 := p.ok.2.2.2.1
  have a4 := p.ok.2.2.2.2.1
  have a5 := p.ok.2.2.2.2.2.1
  refine wi_aload_n (i := 0) (pc' := 1) q343_0 rfl rfl rfl ?_
  refine wi_cp (u9 := (229, X)) (pc' := 4) wq343_1 rfl (cQ_travellerCount (Nat.le_refl _) p.ok p.hR) (fun _ => ⟨_, _, rfl⟩) rfl rfl (by (try dsimp only); omega) (by (try dsimp only); omega) ?_
  refine wi_istore1 (pc' := 5) q343_4 rfl rfl rfl (Or.inr rfl) ?_
  refine wi_iconst (pc' := 6) q343_5 rfl ?_
  refine wi_newI (n := 3) (pc' := 8) q343_6 rfl kw_103 rfl (by decide) (by (try dsimp only); omega) (by (try dsimp only); omega) ?_
  refine wi_astore2 (pc' := 9) q343_8 rfl rfl rfl (Or.inr rfl) ?_
  refine wi_iconst (pc' := 10) q343_9 rfl ?_
  refine wi_istore3 (pc' := 11) q343_10 rfl rfl rfl (Or.inr rfl) ?_
  refine wi_aload_n (i := 0) (pc' := 12) q343_11 rfl rfl rfl ?_
  refine wi_bipush (pc' := 14) q343_12 rfl (by decide) ?_
  refine wi_iload_n (i := 1) (pc' := 15) q343_14 rfl rfl rfl ?_
  refine wi_cx (u9 := (229, X)) (pc' := 18) wq343_15 rfl (cL_s2 (pL_travellerColumn p  (by omega)) zLc_i) (fun h => absurd h (by decide)) rfl rfl (by (try dsimp only); omega) (by (try dsimp only); omega) ?_
  intro Gp1 p1
  rw [vL_walkerOut (s := s) (t := s 5) (f := 0) (fun h => by omega)]
  refine wi_bipush (pc' := 20) q343_18 rfl (by decide) ?_
  refine wi_icmp_ne (t := 45) (pc' := 23) q343_20 (by decide) rfl (by omega) (by omega) (fun h1 => absurd h1 (by omega)) (fun h1 => ?_)
  refine wi_aload_n (i := 0) (pc' := 24) q343_23 rfl rfl rfl ?_
  refine wi_bipush (pc' := 26) q343_24 rfl (by decide) ?_
  refine wi_iload_n (i := 1) (pc' := 27) q343_26 rfl rfl rfl ?_
  refine wi_cx (u9 := (229, X)) (pc' := 30) wq343_27 rfl (cL_s2 (pL_nearestLight p1  (by omega)) zLc_i) (fun h => absurd h (by decide)) rfl rfl (by (try dsimp only); omega) (by (try dsimp only); omega) ?_
  intro Gp2 p2
  rw [vL_nearOut (s := s) (t := s 5) (fun h => by omega)]
  refine wi_bipush (pc' := 32) q343_30 rfl (by decide) ?_
  refine wi_icmp_ne (t := 45) (pc' := 35) q343_32 (by decide) rfl (by omega) (by omega) (fun h2 => absurd h2 (by omega)) (fun h2 => ?_)
  refine wi_iload_n (i := 1) (pc' := 36) q343_35 rfl rfl rfl ?_
  refine wi_bipush (pc' := 38) q343_36 rfl (by decide) ?_
  refine wi_icmp_gt (t := 45) (pc' := 41) q343_38 (by decide) rfl (by omega) (by omega) (fun h3 => absurd h3 (by omega)) (fun h3 => ?_)
  refine wi_iconst (pc' := 42) q343_41 rfl ?_
  refine wi_goto (t := 46) q343_42 (by decide) ?_
  refine wi_istore4 (pc' := 48) q343_46 rfl rfl (Or.inr rfl) ?_
  refine wi_iconst (pc' := 49) q343_48 rfl ?_
  refine wi_istore5 (pc' := 51) q343_49 rfl rfl (Or.inr rfl) ?_
  refine wW_cd (c' := 3) (d' := 15) (by (try dsimp only); omega) (by (try dsimp only); omega) ?_
  refine tr_t (Y0 := Y) (c := 3) (d := 15) hB (by (try dsimp only); omega) (by (try dsimp only); omega) ?_ 99 0 _ _ _ _ _ _ _ _ _ _ _ _ _ _ (by omega) (by omega) p2 wFa_new ⟨rfl, rfl, rfl⟩
  intro G9 D Y9 a6 a7 a8 a9 a10 a11 a12 a13 a14 a15 a16 p9 har hD
  obtain ⟨hD0, hD1, hD2⟩ := hD
  have hD0 : D 0 = sCount s 0 := hD0
  have hD1 : D 1 = sCount s 1 := hD1
  have hD2 : D 2 = sCount s 2 := hD2
  have c0 := sCount_rng s 0 a5
  have c1 := sCount_rng s 1 a5
  have c2 := sCount_rng s 2 a5
  have hf9 := p.ok.2.2.2.2.2.2.1 (s 3 % 24) (by omega) (by omega)
  have hsi : sSight s = max 0 (s 2 - s (6 + s 3 % 24)) := by
    unfold sSight
    split <;> omega
  refine wi_iload (i := 4) (pc' := 529) q343_527 rfl rfl ?_
  refine wi_if_eq (t := 639) (pc' := 532) q343_529 (by decide) rfl (by omega) (fun h4 => absurd h4 (by omega)) (fun h4 => ?_)
  refine wi_aload_n (i := 2) (pc' := 533) q343_532 rfl rfl rfl ?_
  refine wi_iconst (pc' := 534) q343_533 rfl ?_
  refine wi_arget (pc' := 535) q343_534 rfl har.1 (by omega) (by omega) ?_
  refine wi_aload_n (i := 0) (pc' := 536) q343_535 rfl rfl rfl ?_
  refine wi_cp (u9 := (229, X)) (pc' := 539) wq343_536 rfl (cQ_walkingCount (Nat.le_refl _) p9.ok p9.hR) (fun _ => ⟨_, _, rfl⟩) rfl rfl (by (try dsimp only); omega) (by (try dsimp only); omega) ?_
  refine wi_icmp_ne (t := 639) (pc' := 542) q343_539 (by decide) rfl (by omega) (by omega) (fun h5 => absurd h5 (by omega)) (fun h5 => ?_)
  refine wi_aload_n (i := 2) (pc' := 543) q343_542 rfl rfl rfl ?_
  refine wi_iconst (pc' := 544) q343_543 rfl ?_
  refine wi_arget (pc' := 545) q343_544 rfl har.1 (by omega) (by omega) ?_
  refine wi_aload_n (i := 0) (pc' := 546) q343_545 rfl rfl rfl ?_
  refine wi_cp (u9 := (229, X)) (pc' := 549) wq343_546 rfl (cQ_arrivedCount (Nat.le_refl _) p9.ok p9.hR) (fun _ => ⟨_, _, rfl⟩) rfl rfl (by (try dsimp only); omega) (by (try dsimp only); omega) ?_
  refine wi_icmp_ne (t := 639) (pc' := 552) q343_549 (by decide) rfl (by omega) (by omega) (fun h6 => absurd h6 (by omega)) (fun h6 => ?_)
  refine wi_aload_n (i := 2) (pc' := 553) q343_552 rfl rfl rfl ?_
  refine wi_iconst (pc' := 554) q343_553 rfl ?_
  refine wi_arget (pc' := 555) q343_554 rfl har.1 (by omega) (by omega) ?_
  refine wi_aload_n (i := 0) (pc' := 556) q343_555 rfl rfl rfl ?_
  refine wi_cp (u9 := (229, X)) (pc' := 559) wq343_556 rfl (cQ_sunkCount (Nat.le_refl _) p9.ok p9.hR) (fun _ => ⟨_, _, rfl⟩) rfl rfl (by (try dsimp only); omega) (by (try dsimp only); omega) ?_
  refine wi_icmp_ne (t := 639) (pc' := 562) q343_559 (by decide) rfl (by omega) (by omega) (fun h7 => absurd h7 (by omega)) (fun h7 => ?_)
  refine wi_aload_n (i := 0) (pc' := 563) q343_562 rfl rfl rfl ?_
  refine wi_call1 (u := (229, X)) (pc' := 566) wq343_563 rfl (cQ_arrivedShare (Nat.le_refl _) p9.ok p9.hR) (fun _ => ⟨_, _, rfl⟩) rfl rfl (by rintro z G9 F9 n9 ⟨h9, -⟩; cases h9) (by rintro v9 G9 F9 n9 ⟨h9, -⟩; cases h9; exact w_v_f _ _) (by rintro v9 G9 F9 n9 ⟨-, -, -, rfl⟩; exact ⟨by (try dsimp only); omega, by (try dsimp only); omega⟩) ?_
  rintro v9 G9 F9 n9 ⟨h9, rfl, rfl, rfl⟩
  cases h9
  refine tr_sh a5 har.1 hD1 ?_
  refine wi_aload_n (i := 0) (pc' := 586) q343_585 rfl rfl rfl ?_
  refine wi_call1 (u := (229, X)) (pc' := 589) wq343_586 rfl (cQ_meanSteps (Nat.le_refl _) p9.ok p9.hR) (fun _ => ⟨_, _, rfl⟩) rfl rfl (by rintro z G9 F9 n9 ⟨h9, -⟩; cases h9) (by rintro v9 G9 F9 n9 ⟨h9, -⟩; cases h9; exact w_v_d _ _) (by rintro v9 G9 F9 n9 ⟨-, -, -, rfl⟩; exact ⟨by (try dsimp only); omega, by (try dsimp only); omega⟩) ?_
  rintro v9 G9 F9 n9 ⟨h9, rfl, rfl, rfl⟩
  cases h9
  refine tr_me a5 ?_
  refine wi_aload_n (i := 0) (pc' := 607) q343_606 rfl rfl rfl ?_
  refine wi_cp (u9 := (229, X)) (pc' := 610) wq343_607 rfl (cQ_sight (Nat.le_refl _) p9.ok p9.hR) (fun _ => ⟨_, _, rfl⟩) rfl rfl (by (try dsimp only); omega) (by (try dsimp only); omega) ?_
  refine wi_iconst (pc' := 611) q343_610 rfl ?_
  refine wi_aload_n (i := 0) (pc' := 612) q343_611 rfl rfl rfl ?_
  refine wi_cp (u9 := (229, X)) (pc' := 615) wq343_612 rfl (cQ_clearness (Nat.le_refl _) p9.ok p9.hR) (fun _ => ⟨_, _, rfl⟩) rfl rfl (by (try dsimp only); omega) (by (try dsimp only); omega) ?_
  refine wi_aload_n (i := 0) (pc' := 616) q343_615 rfl rfl rfl ?_
  refine wi_bipush (pc' := 618) q343_616 rfl (by decide) ?_
  refine wi_aload_n (i := 0) (pc' := 619) q343_618 rfl rfl rfl ?_
  refine wi_cp5 (u9 := (229, X)) (pc' := 622) wq343_619 rfl (cQ_time (Nat.le_refl _) p9.ok p9.hR) (fun _ => ⟨_, _, rfl⟩) rfl rfl (Nat.le_of_ble_eq_true rfl) (by (try dsimp only); omega) (by (try dsimp only); omega) ?_
  refine wi_bipush (pc' := 624) q343_622 rfl (by decide) ?_
  refine wi_irem (pc' := 625) q343_624 rfl (by omega) (by omega) ?_
  refine wi_cv (u9 := (229, X)) (pc' := 628) wq343_625 rfl (cL_s2 (pL_fog p9 (by omega)) zLc_i) (fun h => absurd h (by decide)) rfl rfl (vL_fog (k := ((s 3) % 24)) p9.ok (by omega)).1 (by (try dsimp only); omega) (by (try dsimp only); omega) ?_
  intro Gp3 p3
  rw [(vL_fog (k := ((s 3) % 24)) p9.ok (by omega)).2]
  refine wi_isub (pc' := 629) q343_628 rfl ?_
  refine wi_mmax (pc' := 632) q343_629 rfl kxm_1433 (Nat.le_of_ble_eq_true rfl) (Nat.le_of_ble_eq_true rfl) (by omega) (by omega) (Nat.le_of_ble_eq_true rfl) (by (try dsimp only); omega) (by (try dsimp only); omega) ?_
  refine wi_icmp_ne (t := 639) (pc' := 635) q343_632 (by decide) rfl (by omega) (by omega) (fun h8 => absurd h8 (by omega)) (fun h8 => ?_)
  refine wi_iconst (pc' := 636) q343_635 rfl ?_
  refine wi_goto (t := 640) q343_636 (by decide) ?_
  refine wW_r (o := some (.int (zi 1))) ⟨q343_640, _, rfl, rfl⟩ rfl (by (try dsimp only); omega) (by (try dsimp only); omega) ?_
  exact ⟨rfl, p3, rfl, har.2⟩
