/-! The law's ticks(x, w): its loop of travellers. -/
section E4V
variable {s : Int → Int} {t : Int}
theorem vL_untilNo (ht : 0 ≤ t ∧ t < s 5) (hz : s (214 + 7 * t + 2) = 0) (hn : sUntil s t < 0) : zN [3, 0, 2] ((q_until s s t).1, gI (q_until s s t).2) = -101 := zN_x (c := 2) (k := 2) (by
  have e : q_until s s t = (3, 0) := (if_pos ⟨by omega, by omega⟩).trans ((if_neg (fun h => h hz)).trans (if_pos hn))
  rw [e]
  rfl) rfl
theorem vL_untilAt {j : Nat} (ht : 0 ≤ t ∧ t < s 5) (hz : s (214 + 7 * t + 2) = 0) (hj : j < 300) (hn : sUntil s t = (j : Int)) : zN [3, 0, 2] ((q_until s s t).1, gI (q_until s s t).2) = ((j + 1 : Nat) : Int) := (zN_v (v := ((j + 1 : Nat) : Int)) (by
  have e : q_until s s t = (0, sUntil s t + 1) := (if_pos ⟨by omega, by omega⟩).trans ((if_neg (fun h => h hz)).trans (if_neg (by omega)))
  rw [e, hn]
  rfl) ⟨by omega, by omega⟩).2
theorem vL_willAt {v : Int} (ht : 0 ≤ t ∧ t < s 5) (he : sTicks s 300 (214 + 7 * t + 2) = v) : (q_willArrive s (sTicks s 300) t).1 = 0 ∧ zN [3] ((q_willArrive s (sTicks s 300) t).1, gZ (q_willArrive s (sTicks s 300) t).2) = zb (v = 1) := by
  subst he
  exact zN_b (if_pos ⟨by omega, by omega⟩)
theorem tk_up {q : Int} (hok : mOk s) (hq : 1 ≤ q ∧ q ≤ 100) (h3 : s 3 + q ≤ 9999) : 0 ≤ sCount (sTicks s q.toNat) 1 - sCount s 1 ∧ sCount (sTicks s q.toNat) 1 - sCount s 1 ≤ 2147483647 := by
  have e : q_tick s q = (0, sCount (sTicks s q.toNat) 1 - sCount s 1) := (if_pos hq).trans (if_neg (by omega))
  have := qn_tick (q := q) hok (by rw [e])
  rw [e] at this
  exact this
theorem sTicks_5 (hok : mOk s) {k : Nat} (h3 : s 3 + k ≤ 30000) : sTicks s k 5 = s 5 := by
  obtain ⟨k1, z1⟩ := sTicks_ok hok k h3
  rw [z1.2.2.2.2.2.1, zp_ne (by omega)]
theorem sTicks_3 (hok : mOk s) {k : Nat} (h3 : s 3 + k ≤ 30000) : sTicks s k 3 = s 3 + k := by
  obtain ⟨k1, z1⟩ := sTicks_ok hok k h3
  rw [z1.2.2.2.1, zp_eq]
theorem sTicks_01 (hok : mOk s) {k : Nat} (h3 : s 3 + k ≤ 30000) : sTicks s k 0 = s 0 ∧ sTicks s k 1 = s 1 := by
  obtain ⟨k1, z1⟩ := sTicks_ok hok k h3
  exact ⟨by rw [z1.1, zp_ne (by omega)], by rw [z1.2.1, zp_ne (by omega)]⟩
theorem PG_bk {B : Int} {sv : Nat → Int → Int} {u : Int} {h : Nat → Int → Int} {s s' : Int → Int} {G' : GM} (hx : (0 < min (u + 1) 8 ∧ PG B sv (min (u + 1) 8 - 1) (fun j => hcons s h (j + 1)) (hcons s h 0) G') ∨ (min (u + 1) 8 = 0 ∧ PG B sv (min (u + 1) 8) (hcons s h) s' G')) (hu : 0 ≤ u) (h7 : u ≤ 7) : PG B sv u h s G' := by
  have := PG_back hx hu
  rwa [show min u 7 = u by omega] at this
end E4V
theorem q344_397 : decode (zbc 344) 397 = .ok (.iload 11, 2) := by decide +kernel
theorem q344_399 : decode (zbc 344) 399 = .ok (.aload_n 0, 1) := by decide +kernel
theorem q344_400 : decode (zbc 344) 400 = .ok (.invokevirtual 257, 3) := by decide +kernel
theorem wq344_400 {L9 : Nat} {xs9 : Nat → Int32} {N9 : Nat} : z_SC N9 znl zTs (zZ L9 xs9 N9) zyn zbc zrt zfr zlo (fun _ i => i) ztb 344 400 3 228 1 := sc_V (P := fun _ i => i) (n' := 0) zTs_good q344_400 kx_541 kx_542 kx_543 kx_32 kx_544 rfl ⟨by decide, by decide, by decide +kernel⟩ rfl ⟨Nat.le_of_ble_eq_true rfl, Nat.le_of_ble_eq_true rfl⟩
theorem q344_403 : decode (zbc 344) 403 = .ok (.if_icmp .ge 185, 3) := by decide +kernel
theorem q344_406 : decode (zbc 344) 406 = .ok (.iload 10, 2) := by decide +kernel
theorem q344_408 : decode (zbc 344) 408 = .ok (.ifCond .eq 180, 3) := by decide +kernel
theorem q344_411 : decode (zbc 344) 411 = .ok (.aload_n 0, 1) := by decide +kernel
theorem q344_412 : decode (zbc 344) 412 = .ok (.bipush 33, 2) := by decide +kernel
theorem q344_414 : decode (zbc 344) 414 = .ok (.iload 11, 2) := by decide +kernel
theorem q344_416 : decode (zbc 344) 416 = .ok (.invokestatic 185, 3) := by decide +kernel
theorem wq344_416 {L9 : Nat} {xs9 : Nat → Int32} {N9 : Nat} : z_SC N9 znl zTs (zZ L9 xs9 N9) zyn zbc zrt zfr zlo (fun _ i => i) ztb 344 416 2 336 3 := sc_S (P := fun _ i => i) zTs_good q344_416 kx_545 kx_546 kx_31 kx_547 rfl ⟨by decide, by decide, by decide +kernel⟩ ⟨Nat.le_of_ble_eq_true rfl, Nat.le_of_ble_eq_true rfl⟩
theorem q344_419 : decode (zbc 344) 419 = .ok (.ifCond .ne 6, 3) := by decide +kernel
theorem q344_425 : decode (zbc 344) 425 = .ok (.aload_n 0, 1) := by decide +kernel
theorem q344_426 : decode (zbc 344) 426 = .ok (.bipush 43, 2) := by decide +kernel
theorem q344_428 : decode (zbc 344) 428 = .ok (.iload 11, 2) := by decide +kernel
theorem q344_430 : decode (zbc 344) 430 = .ok (.invokestatic 185, 3) := by decide +kernel
theorem wq344_430 {L9 : Nat} {xs9 : Nat → Int32} {N9 : Nat} : z_SC N9 znl zTs (zZ L9 xs9 N9) zyn zbc zrt zfr zlo (fun _ i => i) ztb 344 430 2 336 3 := sc_S (P := fun _ i => i) zTs_good q344_430 kx_545 kx_546 kx_31 kx_547 rfl ⟨by decide, by decide, by decide +kernel⟩ ⟨Nat.le_of_ble_eq_true rfl, Nat.le_of_ble_eq_true rfl⟩
theorem q344_433 : decode (zbc 344) 433 = .ok (.istore 12, 2) := by decide +kernel
theorem q344_435 : decode (zbc 344) 435 = .ok (.aload_n 0, 1) := by decide +kernel
theorem q344_436 : decode (zbc 344) 436 = .ok (.bipush 44, 2) := by decide +kernel
theorem q344_438 : decode (zbc 344) 438 = .ok (.iload 11, 2) := by decide +kernel
theorem q344_440 : decode (zbc 344) 440 = .ok (.invokestatic 185, 3) := by decide +kernel
theorem wq344_440 {L9 : Nat} {xs9 : Nat → Int32} {N9 : Nat} : z_SC N9 znl zTs (zZ L9 xs9 N9) zyn zbc zrt zfr zlo (fun _ i => i) ztb 344 440 2 336 3 := sc_S (P := fun _ i => i) zTs_good q344_440 kx_545 kx_546 kx_31 kx_547 rfl ⟨by decide, by decide, by decide +kernel⟩ ⟨Nat.le_of_ble_eq_true rfl, Nat.le_of_ble_eq_true rfl⟩
theorem q344_443 : decode (zbc 344) 443 = .ok (.istore 13, 2) := by decide +kernel
theorem q344_445 : decode (zbc 344) 445 = .ok (.iload 12, 2) := by decide +kernel
theorem q344_447 : decode (zbc 344) 447 = .ok (.bipush (-101), 2) := by decide +kernel
theorem q344_449 : decode (zbc 344) 449 = .ok (.if_icmp .ne 18, 3) := by decide +kernel
theorem q344_452 : decode (zbc 344) 452 = .ok (.iload 13, 2) := by decide +kernel
theorem q344_454 : decode (zbc 344) 454 = .ok (.ifCond .ne 7, 3) := by decide +kernel
theorem q344_457 : decode (zbc 344) 457 = .ok (.iconst 1, 1) := by decide +kernel
theorem q344_458 : decode (zbc 344) 458 = .ok (.goto 4, 3) := by decide +kernel
theorem q344_462 : decode (zbc 344) 462 = .ok (.istore 10, 2) := by decide +kernel
theorem q344_464 : decode (zbc 344) 464 = .ok (.goto 118, 3) := by decide +kernel
theorem q344_582 : decode (zbc 344) 582 = .ok (.iinc 11 1, 3) := by decide +kernel
theorem q344_585 : decode (zbc 344) 585 = .ok (.goto (-188), 3) := by decide +kernel
theorem q344_467 : decode (zbc 344) 467 = .ok (.iload 12, 2) := by decide +kernel
theorem q344_469 : decode (zbc 344) 469 = .ok (.bipush 100, 2) := by decide +kernel
theorem q344_471 : decode (zbc 344) 471 = .ok (.if_icmp .gt 111, 3) := by decide +kernel
theorem q344_474 : decode (zbc 344) 474 = .ok (.iload 12, 2) := by decide +kernel
theorem q344_476 : decode (zbc 344) 476 = .ok (.ifCond .le 51, 3) := by decide +kernel
theorem q344_479 : decode (zbc 344) 479 = .ok (.aload_n 0, 1) := by decide +kernel
theorem q344_480 : decode (zbc 344) 480 = .ok (.iconst 0, 1) := by decide +kernel
theorem q344_481 : decode (zbc 344) 481 = .ok (.iload 12, 2) := by decide +kernel
theorem q344_483 : decode (zbc 344) 483 = .ok (.invokestatic 185, 3) := by decide +kernel
theorem wq344_483 {L9 : Nat} {xs9 : Nat → Int32} {N9 : Nat} : z_SC N9 znl zTs (zZ L9 xs9 N9) zyn zbc zrt zfr zlo (fun _ i => i) ztb 344 483 2 336 3 := sc_S (P := fun _ i => i) zTs_good q344_483 kx_545 kx_546 kx_31 kx_547 rfl ⟨by decide, by decide, by decide +kernel⟩ ⟨Nat.le_of_ble_eq_true rfl, Nat.le_of_ble_eq_true rfl⟩
theorem q344_486 : decode (zbc 344) 486 = .ok (.ifCond .lt 41, 3) := by decide +kernel
theorem q344_489 : decode (zbc 344) 489 = .ok (.aload_n 0, 1) := by decide +kernel
theorem q344_490 : decode (zbc 344) 490 = .ok (.bipush 33, 2) := by decide +kernel
theorem q344_492 : decode (zbc 344) 492 = .ok (.iload 11, 2) := by decide +kernel
theorem q344_494 : decode (zbc 344) 494 = .ok (.invokestatic 185, 3) := by decide +kernel
theorem wq344_494 {L9 : Nat} {xs9 : Nat → Int32} {N9 : Nat} : z_SC N9 znl zTs (zZ L9 xs9 N9) zyn zbc zrt zfr zlo (fun _ i => i) ztb 344 494 2 336 3 := sc_S (P := fun _ i => i) zTs_good q344_494 kx_545 kx_546 kx_31 kx_547 rfl ⟨by decide, by decide, by decide +kernel⟩ ⟨Nat.le_of_ble_eq_true rfl, Nat.le_of_ble_eq_true rfl⟩
theorem q344_497 : decode (zbc 344) 497 = .ok (.ifCond .ne 30, 3) := by decide +kernel
theorem q344_500 : decode (zbc 344) 500 = .ok (.aload_n 0, 1) := by decide +kernel
theorem q344_501 : decode (zbc 344) 501 = .ok (.bipush 34, 2) := by decide +kernel
theorem q344_503 : decode (zbc 344) 503 = .ok (.iload 11, 2) := by decide +kernel
theorem q344_505 : decode (zbc 344) 505 = .ok (.invokestatic 185, 3) := by decide +kernel
theorem wq344_505 {L9 : Nat} {xs9 : Nat → Int32} {N9 : Nat} : z_SC N9 znl zTs (zZ L9 xs9 N9) zyn zbc zrt zfr zlo (fun _ i => i) ztb 344 505 2 336 3 := sc_S (P := fun _ i => i) zTs_good q344_505 kx_545 kx_546 kx_31 kx_547 rfl ⟨by decide, by decide, by decide +kernel⟩ ⟨Nat.le_of_ble_eq_true rfl, Nat.le_of_ble_eq_true rfl⟩
theorem q344_508 : decode (zbc 344) 508 = .ok (.iload 13, 2) := by decide +kernel
theorem q344_510 : decode (zbc 344) 510 = .ok (.if_icmp .ne 17, 3) := by decide +kernel
theorem q344_513 : decode (zbc 344) 513 = .ok (.aload_n 0, 1) := by decide +kernel
theorem q344_514 : decode (zbc 344) 514 = .ok (.bipush 9, 2) := by decide +kernel
theorem q344_516 : decode (zbc 344) 516 = .ok (.iconst 0, 1) := by decide +kernel
theorem q344_517 : decode (zbc 344) 517 = .ok (.invokestatic 185, 3) := by decide +kernel
theorem wq344_517 {L9 : Nat} {xs9 : Nat → Int32} {N9 : Nat} : z_SC N9 znl zTs (zZ L9 xs9 N9) zyn zbc zrt zfr zlo (fun _ i => i) ztb 344 517 2 336 3 := sc_S (P := fun _ i => i) zTs_good q344_517 kx_545 kx_546 kx_31 kx_547 rfl ⟨by decide, by decide, by decide +kernel⟩ ⟨Nat.le_of_ble_eq_true rfl, Nat.le_of_ble_eq_true rfl⟩
theorem q344_520 : decode (zbc 344) 520 = .ok (.ifCond .lt 7, 3) := by decide +kernel
theorem q344_523 : decode (zbc 344) 523 = .ok (.iconst 1, 1) := by decide +kernel
theorem q344_524 : decode (zbc 344) 524 = .ok (.goto 4, 3) := by decide +kernel
theorem q344_528 : decode (zbc 344) 528 = .ok (.istore 10, 2) := by decide +kernel
theorem q344_530 : decode (zbc 344) 530 = .ok (.iload 12, 2) := by decide +kernel
theorem q344_532 : decode (zbc 344) 532 = .ok (.iconst 1, 1) := by decide +kernel
theorem q344_533 : decode (zbc 344) 533 = .ok (.if_icmp .le 49, 3) := by decide +kernel
theorem q344_536 : decode (zbc 344) 536 = .ok (.iload 10, 2) := by decide +kernel
theorem q344_538 : decode (zbc 344) 538 = .ok (.ifCond .eq 41, 3) := by decide +kernel
theorem q344_541 : decode (zbc 344) 541 = .ok (.aload_n 0, 1) := by decide +kernel
theorem q344_542 : decode (zbc 344) 542 = .ok (.iconst 0, 1) := by decide +kernel
theorem q344_543 : decode (zbc 344) 543 = .ok (.iload 12, 2) := by decide +kernel
theorem q344_545 : decode (zbc 344) 545 = .ok (.iconst 1, 1) := by decide +kernel
theorem q344_546 : decode (zbc 344) 546 = .ok (.isub, 1) := by decide +kernel
theorem q344_547 : decode (zbc 344) 547 = .ok (.invokestatic 185, 3) := by decide +kernel
theorem wq344_547 {L9 : Nat} {xs9 : Nat → Int32} {N9 : Nat} : z_SC N9 znl zTs (zZ L9 xs9 N9) zyn zbc zrt zfr zlo (fun _ i => i) ztb 344 547 2 336 3 := sc_S (P := fun _ i => i) zTs_good q344_547 kx_545 kx_546 kx_31 kx_547 rfl ⟨by decide, by decide, by decide +kernel⟩ ⟨Nat.le_of_ble_eq_true rfl, Nat.le_of_ble_eq_true rfl⟩
theorem q344_550 : decode (zbc 344) 550 = .ok (.ifCond .lt 29, 3) := by decide +kernel
theorem q344_553 : decode (zbc 344) 553 = .ok (.aload_n 0, 1) := by decide +kernel
theorem q344_554 : decode (zbc 344) 554 = .ok (.bipush 33, 2) := by decide +kernel
theorem q344_556 : decode (zbc 344) 556 = .ok (.iload 11, 2) := by decide +kernel
theorem q344_558 : decode (zbc 344) 558 = .ok (.invokestatic 185, 3) := by decide +kernel
theorem wq344_558 {L9 : Nat} {xs9 : Nat → Int32} {N9 : Nat} : z_SC N9 znl zTs (zZ L9 xs9 N9) zyn zbc zrt zfr zlo (fun _ i => i) ztb 344 558 2 336 3 := sc_S (P := fun _ i => i) zTs_good q344_558 kx_545 kx_546 kx_31 kx_547 rfl ⟨by decide, by decide, by decide +kernel⟩ ⟨Nat.le_of_ble_eq_true rfl, Nat.le_of_ble_eq_true rfl⟩
theorem q344_561 : decode (zbc 344) 561 = .ok (.iconst 1, 1) := by decide +kernel
theorem q344_562 : decode (zbc 344) 562 = .ok (.if_icmp .ne 17, 3) := by decide +kernel
theorem q344_565 : decode (zbc 344) 565 = .ok (.aload_n 0, 1) := by decide +kernel
theorem q344_566 : decode (zbc 344) 566 = .ok (.bipush 9, 2) := by decide +kernel
theorem q344_568 : decode (zbc 344) 568 = .ok (.iconst 0, 1) := by decide +kernel
theorem q344_569 : decode (zbc 344) 569 = .ok (.invokestatic 185, 3) := by decide +kernel
theorem wq344_569 {L9 : Nat} {xs9 : Nat → Int32} {N9 : Nat} : z_SC N9 znl zTs (zZ L9 xs9 N9) zyn zbc zrt zfr zlo (fun _ i => i) ztb 344 569 2 336 3 := sc_S (P := fun _ i => i) zTs_good q344_569 kx_545 kx_546 kx_31 kx_547 rfl ⟨by decide, by decide, by decide +kernel⟩ ⟨Nat.le_of_ble_eq_true rfl, Nat.le_of_ble_eq_true rfl⟩
theorem q344_572 : decode (zbc 344) 572 = .ok (.ifCond .lt 7, 3) := by decide +kernel
theorem q344_575 : decode (zbc 344) 575 = .ok (.iconst 1, 1) := by decide +kernel
theorem q344_576 : decode (zbc 344) 576 = .ok (.goto 4, 3) := by decide +kernel
theorem q344_580 : decode (zbc 344) 580 = .ok (.istore 10, 2) := by decide +kernel
theorem q344_422 : decode (zbc 344) 422 = .ok (.goto 160, 3) := by decide +kernel
theorem tk_t {X : Nat × (Nat → Int32)} {B : Int} {sv : Nat → Int → Int} {u : Int} {h : Nat → Int → Int} {s : Int → Int} {b : WB} {c d : Nat} {F : GM} {Y : DY} {Q : WQ} {i : Nat} {r1 r2 r3 r4 r5 r6 r7 r8 a14 : Value} (hb1 : c + 6 ≤ b.1) (hb2 : d + 36 ≤ b.2.1) (h3 : s 3 + 100 ≤ B) (hB : B ≤ 9999) (hu : u ≤ 7) (hk : ∀ G (k : Nat) (a12 a13 : Value), (k : Int) = s 5 → PG B sv u h s G → wW (229, X) 344 b 588 [.ref 192, r1, r2, r3, r4, r5, r6, r7, r8, .ref (1000 + i), .int (zi 1), .int (zi (k : Int)), a12, a13, a14] [] G F Y (c + 6) (d + 36) Q) : ∀ (d9 : Nat) (k : Nat) (a12 a13 : Value) (G : GM), s 5 - (k : Int) < (d9 : Int) → (k : Int) ≤ s 5 → PG B sv u h s G → wW (229, X) 344 b 397 [.ref 192, r1, r2, r3, r4, r5, r6, r7, r8, .ref (1000 + i), .int (zi 1), .int (zi (k : Int)), a12, a13, a14] [] G F Y (c + k) (d + 6 * k) Q := by
  intro d9
  induction d9 with
  | zero =>
    intro k
    intros
    exact absurd (by assumption) (by omega)
  | succ d9 ih =>
      intro k a12 a13 G hd hk9 p
      have a5 := p.ok.2.2.2.2.2.1
      have u8 := p.u8
      have a3 := p.ok.2.2.2.1
      have hT : s 3 ≤ 9999 := by omega
      refine wi_iload (i := 11) (pc' := 399) q344_397 rfl rfl ?_
      refine wi_aload_n (i := 0) (pc' := 400) q344_399 rfl rfl rfl ?_
      refine wi_cp (u9 := (229, X)) (pc' := 403) wq344_400 rfl (cQ_travellerCount (Nat.le_refl _) p.ok p.hR) (fun _ => ⟨_, _, rfl⟩) rfl rfl (by (try dsimp only); omega) (by (try dsimp only); omega) ?_
      refine wi_icmp_ge (t := 588) (pc' := 406) q344_403 (by decide) rfl (by omega) (by omega) ?_ ?_
      · intro h9
        exact wW_cd (by omega) (by omega) (hk G k a12 a13 (by omega) p)
      · intro h9
        refine wi_iload (i := 10) (pc' := 408) q344_406 rfl rfl ?_
        refine wi_if_eq (t := 588) (pc' := 411) q344_408 (by decide) rfl (by omega) (fun h1 => absurd h1 (by omega)) (fun h1 => ?_)
        refine wi_aload_n (i := 0) (pc' := 412) q344_411 rfl rfl rfl ?_
        refine wi_bipush (pc' := 414) q344_412 rfl (by decide) ?_
        refine wi_iload (i := 11) (pc' := 416) q344_414 rfl rfl ?_
        refine wi_cv (u9 := (229, X)) (pc' := 419) wq344_416 rfl (cL_s2 (pL_isWalking p (by omega)) zLc_i) (fun h => absurd h (by decide)) rfl rfl (vL_state (s := s) (t := (k : Int)) (f := 0) (by omega)).1 (by (try dsimp only); omega) (by (try dsimp only); omega) ?_
        intro Gp1 p1
        rw [(vL_state (s := s) (t := (k : Int)) (f := 0) (by omega)).2]
        refine wi_if_ne (t := 425) (pc' := 422) q344_419 (by decide) rfl zr_zb ?_ ?_
        · intro h8
          have hz : s (214 + 7 * (k : Int) + 2) = 0 := Decidable.byContradiction (fun h => h8 (zb_f h))
          rcases until_is p.ok hT (w := (k : Int)) (by omega) hz with ⟨n1, n2⟩ | ⟨j, j1, j2, j3, j4, j5⟩
          · skip
            refine wi_aload_n (i := 0) (pc' := 426) q344_425 rfl rfl rfl ?_
            refine wi_bipush (pc' := 428) q344_426 rfl (by decide) ?_
            refine wi_iload (i := 11) (pc' := 430) q344_428 rfl rfl ?_
            refine wi_cx (u9 := (229, X)) (pc' := 433) wq344_430 rfl (cL_s2 (pL_ticksUntilDone p1 hT (by omega)) zLc_i) (fun h => absurd h (by decide)) rfl rfl (by (try dsimp only); omega) (by (try dsimp only); omega) ?_
            intro Gp2 p2
            rw [vL_untilNo (t := (k : Int)) (by omega) hz n1]
            refine wi_istore12 (pc' := 435) q344_433 rfl rfl (Or.inr rfl) ?_
            refine wi_aload_n (i := 0) (pc' := 436) q344_435 rfl rfl rfl ?_
            refine wi_bipush (pc' := 438) q344_436 rfl (by decide) ?_
            refine wi_iload (i := 11) (pc' := 440) q344_438 rfl rfl ?_
            refine wi_cv (u9 := (229, X)) (pc' := 443) wq344_440 rfl (cL_s2 (pL_willArrive p2 hT (by omega)) zLc_i) (fun h => absurd h (by decide)) rfl rfl ((⟨(vL_willAt (t := (k : Int)) ⟨by omega, by omega⟩ n2).1, (vL_willAt (t := (k : Int)) ⟨by omega, by omega⟩ n2).2.trans (zb_f (by decide))⟩ : (q_willArrive s (sTicks s 300) (k : Int)).1 = 0 ∧ zN [3] ((q_willArrive s (sTicks s 300) (k : Int)).1, gZ (q_willArrive s (sTicks s 300) (k : Int)).2) = 0)).1 (by (try dsimp only); omega) (by (try dsimp only); omega) ?_
            intro Gp3 p3
            rw [((⟨(vL_willAt (t := (k : Int)) ⟨by omega, by omega⟩ n2).1, (vL_willAt (t := (k : Int)) ⟨by omega, by omega⟩ n2).2.trans (zb_f (by decide))⟩ : (q_willArrive s (sTicks s 300) (k : Int)).1 = 0 ∧ zN [3] ((q_willArrive s (sTicks s 300) (k : Int)).1, gZ (q_willArrive s (sTicks s 300) (k : Int)).2) = 0)).2]
            refine wi_istore13 (pc' := 445) q344_443 rfl rfl (Or.inr rfl) ?_
            refine wi_iload (i := 12) (pc' := 447) q344_445 rfl rfl ?_
            refine wi_bipush (pc' := 449) q344_447 rfl (by decide) ?_
            refine wi_icmp_ne (t := 467) (pc' := 452) q344_449 (by decide) rfl (by omega) (by omega) (fun h2 => absurd h2 (by omega)) (fun h2 => ?_)
            refine wi_iload (i := 13) (pc' := 454) q344_452 rfl rfl ?_
            refine wi_if_ne (t := 461) (pc' := 457) q344_454 (by decide) rfl (by omega) (fun h3 => absurd h3 (by omega)) (fun h3 => ?_)
            refine wi_iconst (pc' := 458) q344_457 rfl ?_
            refine wi_goto (t := 462) q344_458 (by decide) ?_
            refine wi_istore10 (pc' := 464) q344_462 rfl rfl (Or.inr rfl) ?_
            refine wi_goto (t := 582) q344_464 (by decide) ?_
            refine wi_iinc11 (pc' := 585) q344_582 rfl rfl (Or.inr rfl) ?_
            refine wi_goto (t := 397) q344_585 (by decide) ?_
            refine wW_cd (c' := c + (k + 1)) (d' := d + 6 * (k + 1)) (by omega) (by omega) ?_
            rw [show ((k : Int) + 1) = ((k + 1 : Nat) : Int) by omega]
            exact ih (k + 1) _ _ _ (by omega) (by omega) p3
          · obtain ⟨s1, hs1⟩ : ∃ s1, s1 = sTicks s (j + 1) := ⟨_, rfl⟩
            obtain ⟨s2, hs2⟩ : ∃ s2, s2 = sTicks s j := ⟨_, rfl⟩
            rw [← hs1] at j3 j4
            rw [← hs2] at j5
            have z1 := zb_rng (p := s1 (214 + 7 * (k : Int) + 2) = 1)
            refine wi_aload_n (i := 0) (pc' := 426) q344_425 rfl rfl rfl ?_
            refine wi_bipush (pc' := 428) q344_426 rfl (by decide) ?_
            refine wi_iload (i := 11) (pc' := 430) q344_428 rfl rfl ?_
            refine wi_cx (u9 := (229, X)) (pc' := 433) wq344_430 rfl (cL_s2 (pL_ticksUntilDone p1 hT (by omega)) zLc_i) (fun h => absurd h (by decide)) rfl rfl (by (try dsimp only); omega) (by (try dsimp only); omega) ?_
            intro Gp4 p4
            rw [vL_untilAt (t := (k : Int)) (by omega) hz j1 j2]
            refine wi_istore12 (pc' := 435) q344_433 rfl rfl (Or.inr rfl) ?_
            refine wi_aload_n (i := 0) (pc' := 436) q344_435 rfl rfl rfl ?_
            refine wi_bipush (pc' := 438) q344_436 rfl (by decide) ?_
            refine wi_iload (i := 11) (pc' := 440) q344_438 rfl rfl ?_
            refine wi_cv (u9 := (229, X)) (pc' := 443) wq344_440 rfl (cL_s2 (pL_willArrive p4 hT (by omega)) zLc_i) (fun h => absurd h (by decide)) rfl rfl (vL_willAt (t := (k : Int)) ⟨by omega, by omega⟩ j4).1 (by (try dsimp only); omega) (by (try dsimp only); omega) ?_
            intro Gp5 p5
            rw [(vL_willAt (t := (k : Int)) ⟨by omega, by omega⟩ j4).2]
            refine wi_istore13 (pc' := 445) q344_443 rfl rfl (Or.inr rfl) ?_
            refine wi_iload (i := 12) (pc' := 447) q344_445 rfl rfl ?_
            refine wi_bipush (pc' := 449) q344_447 rfl (by decide) ?_
            refine wi_icmp_ne (t := 467) (pc' := 452) q344_449 (by decide) rfl (by omega) (by omega) (fun h4 => ?_) (fun h4 => absurd h4 (by omega))
            refine wi_iload (i := 12) (pc' := 469) q344_467 rfl rfl ?_
            refine wi_bipush (pc' := 471) q344_469 rfl (by decide) ?_
            refine wi_icmp_gt (t := 582) (pc' := 474) q344_471 (by decide) rfl (by omega) (by omega) ?_ ?_
            · intro h7
              refine wi_iinc11 (pc' := 585) q344_582 rfl rfl (Or.inr rfl) ?_
              refine wi_goto (t := 397) q344_585 (by decide) ?_
              refine wW_cd (c' := c + (k + 1)) (d' := d + 6 * (k + 1)) (by omega) (by omega) ?_
              rw [show ((k : Int) + 1) = ((k + 1 : Nat) : Int) by omega]
              exact ih (k + 1) _ _ _ (by omega) (by omega) p5
            · intro h7
              refine wi_iload (i := 12) (pc' := 476) q344_474 rfl rfl ?_
              refine wi_if_le (t := 527) (pc' := 479) q344_476 (by decide) rfl (by omega) (fun h5 => absurd h5 (by omega)) (fun h5 => ?_)
              refine wi_aload_n (i := 0) (pc' := 480) q344_479 rfl rfl rfl ?_
              refine wi_iconst (pc' := 481) q344_480 rfl ?_
              refine wi_iload (i := 12) (pc' := 483) q344_481 rfl rfl ?_
              have hup := tk_up (q := ((j + 1 : Nat) : Int)) p.ok ⟨by omega, by omega⟩ (by omega)
              refine wi_cv (u9 := (229, X)) (pc' := 486) wq344_483 rfl (cL_s2 (pC_tick p5 (q := ((j + 1 : Nat) : Int)) (B' := B) (by omega) (Int.le_refl _) (fun _ _ _ => by omega) (by omega)) zLc_i) (fun h => absurd h (by decide)) rfl rfl (vL_tickOk (q := ((j + 1 : Nat) : Int)) p.ok ⟨by omega, by omega⟩ (by omega)).1 (by (try dsimp only); omega) (by (try dsimp only); omega) ?_
              intro G9 hx
              rw [(vL_tickOk (q := ((j + 1 : Nat) : Int)) p.ok ⟨by omega, by omega⟩ (by omega)).2]
              have p9 : PG B sv (min (u + 1) 8) (hcons s h) s1 G9 := by
                rw [hs1]
                exact PGc_yes hx (vL_tickOk (q := ((j + 1 : Nat) : Int)) p.ok ⟨by omega, by omega⟩ (by omega)).1
              clear hx
              have e5 : s1 5 = s 5 := by rw [hs1]; exact sTicks_5 p.ok (by omega)
              refine wi_if_lt (t := 527) (pc' := 489) q344_486 (by decide) rfl (by omega) (fun h6 => absurd h6 (by omega)) (fun h6 => ?_)
              refine wi_aload_n (i := 0) (pc' := 490) q344_489 rfl rfl rfl ?_
              refine wi_bipush (pc' := 492) q344_490 rfl (by decide) ?_
              refine wi_iload (i := 11) (pc' := 494) q344_492 rfl rfl ?_
              refine wi_cv (u9 := (229, X)) (pc' := 497) wq344_494 rfl (cL_s2 (pL_isWalking p9  (by omega)) zLc_i) (fun h => absurd h (by decide)) rfl rfl ((⟨(vL_state (s := s1) (t := (k : Int)) (f := 0) (by omega)).1, (vL_state (s := s1) (t := (k : Int)) (f := 0) (by omega)).2.trans (zb_f j3)⟩ : (q_state s1 (k : Int) 0).1 = 0 ∧ zN [3] ((q_state s1 (k : Int) 0).1, gZ (q_state s1 (k : Int) 0).2) = 0)).1 (by (try dsimp only); omega) (by (try dsimp only); omega) ?_
              intro Gp6 p6
              rw [((⟨(vL_state (s := s1) (t := (k : Int)) (f := 0) (by omega)).1, (vL_state (s := s1) (t := (k : Int)) (f := 0) (by omega)).2.trans (zb_f j3)⟩ : (q_state s1 (k : Int) 0).1 = 0 ∧ zN [3] ((q_state s1 (k : Int) 0).1, gZ (q_state s1 (k : Int) 0).2) = 0)).2]
              refine wi_if_ne (t := 527) (pc' := 500) q344_497 (by decide) rfl (by omega) (fun h7 => absurd h7 (by omega)) (fun h7 => ?_)
              refine wi_aload_n (i := 0) (pc' := 501) q344_500 rfl rfl rfl ?_
              refine wi_bipush (pc' := 503) q344_501 rfl (by decide) ?_
              refine wi_iload (i := 11) (pc' := 505) q344_503 rfl rfl ?_
              refine wi_cv (u9 := (229, X)) (pc' := 508) wq344_505 rfl (cL_s2 (pL_hasArrived p6  (by omega)) zLc_i) (fun h => absurd h (by decide)) rfl rfl (vL_state (s := s1) (t := (k : Int)) (f := 1) (by omega)).1 (by (try dsimp only); omega) (by (try dsimp only); omega) ?_
              intro Gp7 p7
              rw [(vL_state (s := s1) (t := (k : Int)) (f := 1) (by omega)).2]
              refine wi_iload (i := 13) (pc' := 510) q344_508 rfl rfl ?_
              refine wi_icmp_ne (t := 527) (pc' := 513) q344_510 (by decide) rfl (by omega) (by omega) (fun h8 => absurd h8 (by omega)) (fun h8 => ?_)
              refine wi_aload_n (i := 0) (pc' := 514) q344_513 rfl rfl rfl ?_
              refine wi_bipush (pc' := 516) q344_514 rfl (by decide) ?_
              refine wi_iconst (pc' := 517) q344_516 rfl ?_
              refine wi_cv (u9 := (229, X)) (pc' := 520) wq344_517 rfl (cL_s2 (pC_undo p7) zLc_i) (fun h => absurd h (by decide)) rfl rfl (vL_undoOk (u := min (u + 1) 8) (by omega)).1 (by (try dsimp only); omega) (by (try dsimp only); omega) ?_
              intro G8 hx
              rw [(vL_undoOk (u := min (u + 1) 8) (by omega)).2]
              have p8 := PG_bk hx u8.1 hu
              clear hx
              refine wi_if_lt (t := 527) (pc' := 523) q344_520 (by decide) rfl (by omega) (fun h9 => absurd h9 (by omega)) (fun h9 => ?_)
              refine wi_iconst (pc' := 524) q344_523 rfl ?_
              refine wi_goto (t := 528) q344_524 (by decide) ?_
              refine wi_istore10 (pc' := 530) q344_528 rfl rfl (Or.inr rfl) ?_
              refine wi_iload (i := 12) (pc' := 532) q344_530 rfl rfl ?_
              refine wi_iconst (pc' := 533) q344_532 rfl ?_
              refine wi_icmp_le (t := 582) (pc' := 536) q344_533 (by decide) rfl (by omega) (by omega) ?_ ?_
              · intro h6
                refine wi_iinc11 (pc' := 585) q344_582 rfl rfl (Or.inr rfl) ?_
                refine wi_goto (t := 397) q344_585 (by decide) ?_
                refine wW_cd (c' := c + (k + 1)) (d' := d + 6 * (k + 1)) (by omega) (by omega) ?_
                rw [show ((k : Int) + 1) = ((k + 1 : Nat) : Int) by omega]
                exact ih (k + 1) _ _ _ (by omega) (by omega) p8
              · intro h6
                refine wi_iload (i := 10) (pc' := 538) q344_536 rfl rfl ?_
                refine wi_if_eq (t := 579) (pc' := 541) q344_538 (by decide) rfl (by omega) (fun h10 => absurd h10 (by omega)) (fun h10 => ?_)
                refine wi_aload_n (i := 0) (pc' := 542) q344_541 rfl rfl rfl ?_
                refine wi_iconst (pc' := 543) q344_542 rfl ?_
                refine wi_iload (i := 12) (pc' := 545) q344_543 rfl rfl ?_
                refine wi_iconst (pc' := 546) q344_545 rfl ?_
                refine wi_isub (pc' := 547) q344_546 rfl ?_
                rw [show ((((j + 1 : Nat) : Int) - 1) : Int) = (j : Int) from by omega]
                have hup := tk_up (q := (j : Int)) p.ok ⟨by omega, by omega⟩ (by omega)
                refine wi_cv (u9 := (229, X)) (pc' := 550) wq344_547 rfl (cL_s2 (pC_tick p8 (q := (j : Int)) (B' := B) (by omega) (Int.le_refl _) (fun _ _ _ => by omega) (by omega)) zLc_i) (fun h => absurd h (by decide)) rfl rfl (vL_tickOk (q := (j : Int)) p.ok ⟨by omega, by omega⟩ (by omega)).1 (by (try dsimp only); omega) (by (try dsimp only); omega) ?_
                intro G9 hx
                rw [(vL_tickOk (q := (j : Int)) p.ok ⟨by omega, by omega⟩ (by omega)).2]
                have p9 : PG B sv (min (u + 1) 8) (hcons s h) s2 G9 := by
                  rw [hs2]
                  exact PGc_yes hx (vL_tickOk (q := (j : Int)) p.ok ⟨by omega, by omega⟩ (by omega)).1
                clear hx
                have e5 : s2 5 = s 5 := by rw [hs2]; exact sTicks_5 p.ok (by omega)
                refine wi_if_lt (t := 579) (pc' := 553) q344_550 (by decide) rfl (by omega) (fun h11 => absurd h11 (by omega)) (fun h11 => ?_)
                refine wi_aload_n (i := 0) (pc' := 554) q344_553 rfl rfl rfl ?_
                refine wi_bipush (pc' := 556) q344_554 rfl (by decide) ?_
                refine wi_iload (i := 11) (pc' := 558) q344_556 rfl rfl ?_
                refine wi_cv (u9 := (229, X)) (pc' := 561) wq344_558 rfl (cL_s2 (pL_isWalking p9  (by omega)) zLc_i) (fun h => absurd h (by decide)) rfl rfl ((⟨(vL_state (s := s2) (t := (k : Int)) (f := 0) (by omega)).1, (vL_state (s := s2) (t := (k : Int)) (f := 0) (by omega)).2.trans (zb_t j5)⟩ : (q_state s2 (k : Int) 0).1 = 0 ∧ zN [3] ((q_state s2 (k : Int) 0).1, gZ (q_state s2 (k : Int) 0).2) = 1)).1 (by (try dsimp only); omega) (by (try dsimp only); omega) ?_
                intro Gp8 p8
                rw [((⟨(vL_state (s := s2) (t := (k : Int)) (f := 0) (by omega)).1, (vL_state (s := s2) (t := (k : Int)) (f := 0) (by omega)).2.trans (zb_t j5)⟩ : (q_state s2 (k : Int) 0).1 = 0 ∧ zN [3] ((q_state s2 (k : Int) 0).1, gZ (q_state s2 (k : Int) 0).2) = 1)).2]
                refine wi_iconst (pc' := 562) q344_561 rfl ?_
                refine wi_icmp_ne (t := 579) (pc' := 565) q344_562 (by decide) rfl (by omega) (by omega) (fun h12 => absurd h12 (by omega)) (fun h12 => ?_)
                refine wi_aload_n (i := 0) (pc' := 566) q344_565 rfl rfl rfl ?_
                refine wi_bipush (pc' := 568) q344_566 rfl (by decide) ?_
                refine wi_iconst (pc' := 569) q344_568 rfl ?_
                refine wi_cv (u9 := (229, X)) (pc' := 572) wq344_569 rfl (cL_s2 (pC_undo p8) zLc_i) (fun h => absurd h (by decide)) rfl rfl (vL_undoOk (u := min (u + 1) 8) (by omega)).1 (by (try dsimp only); omega) (by (try dsimp only); omega) ?_
                intro G8 hx
                rw [(vL_undoOk (u := min (u + 1) 8) (by omega)).2]
                have p8 := PG_bk hx u8.1 hu
                clear hx
                refine wi_if_lt (t := 579) (pc' := 575) q344_572 (by decide) rfl (by omega) (fun h13 => absurd h13 (by omega)) (fun h13 => ?_)
                refine wi_iconst (pc' := 576) q344_575 rfl ?_
                refine wi_goto (t := 580) q344_576 (by decide) ?_
                refine wi_istore10 (pc' := 582) q344_580 rfl rfl (Or.inr rfl) ?_
                refine wi_iinc11 (pc' := 585) q344_582 rfl rfl (Or.inr rfl) ?_
                refine wi_goto (t := 397) q344_585 (by decide) ?_
                refine wW_cd (c' := c + (k + 1)) (d' := d + 6 * (k + 1)) (by omega) (by omega) ?_
                rw [show ((k : Int) + 1) = ((k + 1 : Nat) : Int) by omega]
                exact ih (k + 1) _ _ _ (by omega) (by omega) p8
        · intro h8
          refine wi_goto (t := 582) q344_422 (by decide) ?_
          refine wi_iinc11 (pc' := 585) q344_582 rfl rfl (Or.inr rfl) ?_
          refine wi_goto (t := 397) q344_585 (by decide) ?_
          refine wW_cd (c' := c + (k + 1)) (d' := d + 6 * (k + 1)) (by omega) (by omega) ?_
          rw [show ((k : Int) + 1) = ((k + 1 : Nat) : Int) by omega]
          exact ih (k + 1) _ _ _ (by omega) (by omega) p1
