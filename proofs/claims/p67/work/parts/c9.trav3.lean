/-! The law's travellers(x): all. -/
theorem near_zr {s : Int → Int} {t : Int} (hok : mOk s) : zr (sNear s t (s 4).toNat) := by
  have hr := sNear_rng s t (s 4).toNat
  have a4 := hok.2.2.2.2.1
  exact ⟨by omega, by omega⟩
theorem q343_51 : decode (zbc 343) 51 = .ok (.iload 5, 2) := by decide +kernel
theorem q343_53 : decode (zbc 343) 53 = .ok (.iload_n 1, 1) := by decide +kernel
theorem q343_54 : decode (zbc 343) 54 = .ok (.if_icmp .ge 473, 3) := by decide +kernel
theorem q343_57 : decode (zbc 343) 57 = .ok (.iload 4, 2) := by decide +kernel
theorem q343_59 : decode (zbc 343) 59 = .ok (.ifCond .eq 468, 3) := by decide +kernel
theorem q343_62 : decode (zbc 343) 62 = .ok (.aload_n 0, 1) := by decide +kernel
theorem q343_63 : decode (zbc 343) 63 = .ok (.bipush 31, 2) := by decide +kernel
theorem q343_65 : decode (zbc 343) 65 = .ok (.iload 5, 2) := by decide +kernel
theorem q343_67 : decode (zbc 343) 67 = .ok (.invokestatic 185, 3) := by decide +kernel
theorem wq343_67 {L9 : Nat} {xs9 : Nat → Int32} {N9 : Nat} : z_SC N9 znl zTs (zZ L9 xs9 N9) zyn zbc zrt zfr zlo (fun _ i => i) ztb 343 67 2 336 3 := sc_S (P := fun _ i => i) zTs_good q343_67 kx_545 kx_546 kx_31 kx_547 rfl ⟨by decide, by decide, by decide +kernel⟩ ⟨Nat.le_of_ble_eq_true rfl, Nat.le_of_ble_eq_true rfl⟩
theorem q343_70 : decode (zbc 343) 70 = .ok (.istore 6, 2) := by decide +kernel
theorem q343_72 : decode (zbc 343) 72 = .ok (.aload_n 0, 1) := by decide +kernel
theorem q343_73 : decode (zbc 343) 73 = .ok (.bipush 32, 2) := by decide +kernel
theorem q343_75 : decode (zbc 343) 75 = .ok (.iload 5, 2) := by decide +kernel
theorem q343_77 : decode (zbc 343) 77 = .ok (.invokestatic 185, 3) := by decide +kernel
theorem wq343_77 {L9 : Nat} {xs9 : Nat → Int32} {N9 : Nat} : z_SC N9 znl zTs (zZ L9 xs9 N9) zyn zbc zrt zfr zlo (fun _ i => i) ztb 343 77 2 336 3 := sc_S (P := fun _ i => i) zTs_good q343_77 kx_545 kx_546 kx_31 kx_547 rfl ⟨by decide, by decide, by decide +kernel⟩ ⟨Nat.le_of_ble_eq_true rfl, Nat.le_of_ble_eq_true rfl⟩
theorem q343_80 : decode (zbc 343) 80 = .ok (.istore 7, 2) := by decide +kernel
theorem q343_82 : decode (zbc 343) 82 = .ok (.aload_n 0, 1) := by decide +kernel
theorem q343_83 : decode (zbc 343) 83 = .ok (.bipush 33, 2) := by decide +kernel
theorem q343_85 : decode (zbc 343) 85 = .ok (.iload 5, 2) := by decide +kernel
theorem q343_87 : decode (zbc 343) 87 = .ok (.invokestatic 185, 3) := by decide +kernel
theorem wq343_87 {L9 : Nat} {xs9 : Nat → Int32} {N9 : Nat} : z_SC N9 znl zTs (zZ L9 xs9 N9) zyn zbc zrt zfr zlo (fun _ i => i) ztb 343 87 2 336 3 := sc_S (P := fun _ i => i) zTs_good q343_87 kx_545 kx_546 kx_31 kx_547 rfl ⟨by decide, by decide, by decide +kernel⟩ ⟨Nat.le_of_ble_eq_true rfl, Nat.le_of_ble_eq_true rfl⟩
theorem q343_90 : decode (zbc 343) 90 = .ok (.istore 8, 2) := by decide +kernel
theorem q343_92 : decode (zbc 343) 92 = .ok (.aload_n 0, 1) := by decide +kernel
theorem q343_93 : decode (zbc 343) 93 = .ok (.bipush 34, 2) := by decide +kernel
theorem q343_95 : decode (zbc 343) 95 = .ok (.iload 5, 2) := by decide +kernel
theorem q343_97 : decode (zbc 343) 97 = .ok (.invokestatic 185, 3) := by decide +kernel
theorem wq343_97 {L9 : Nat} {xs9 : Nat → Int32} {N9 : Nat} : z_SC N9 znl zTs (zZ L9 xs9 N9) zyn zbc zrt zfr zlo (fun _ i => i) ztb 343 97 2 336 3 := sc_S (P := fun _ i => i) zTs_good q343_97 kx_545 kx_546 kx_31 kx_547 rfl ⟨by decide, by decide, by decide +kernel⟩ ⟨Nat.le_of_ble_eq_true rfl, Nat.le_of_ble_eq_true rfl⟩
theorem q343_100 : decode (zbc 343) 100 = .ok (.istore 9, 2) := by decide +kernel
theorem q343_102 : decode (zbc 343) 102 = .ok (.aload_n 0, 1) := by decide +kernel
theorem q343_103 : decode (zbc 343) 103 = .ok (.bipush 35, 2) := by decide +kernel
theorem q343_105 : decode (zbc 343) 105 = .ok (.iload 5, 2) := by decide +kernel
theorem q343_107 : decode (zbc 343) 107 = .ok (.invokestatic 185, 3) := by decide +kernel
theorem wq343_107 {L9 : Nat} {xs9 : Nat → Int32} {N9 : Nat} : z_SC N9 znl zTs (zZ L9 xs9 N9) zyn zbc zrt zfr zlo (fun _ i => i) ztb 343 107 2 336 3 := sc_S (P := fun _ i => i) zTs_good q343_107 kx_545 kx_546 kx_31 kx_547 rfl ⟨by decide, by decide, by decide +kernel⟩ ⟨Nat.le_of_ble_eq_true rfl, Nat.le_of_ble_eq_true rfl⟩
theorem q343_110 : decode (zbc 343) 110 = .ok (.istore 10, 2) := by decide +kernel
theorem q343_112 : decode (zbc 343) 112 = .ok (.aload_n 2, 1) := by decide +kernel
theorem q343_113 : decode (zbc 343) 113 = .ok (.iconst 0, 1) := by decide +kernel
theorem q343_114 : decode (zbc 343) 114 = .ok (.dup2, 1) := by decide +kernel
theorem q343_115 : decode (zbc 343) 115 = .ok (.iaload, 1) := by decide +kernel
theorem q343_116 : decode (zbc 343) 116 = .ok (.iload 8, 2) := by decide +kernel
theorem q343_118 : decode (zbc 343) 118 = .ok (.iadd, 1) := by decide +kernel
theorem q343_119 : decode (zbc 343) 119 = .ok (.iastore, 1) := by decide +kernel
theorem q343_120 : decode (zbc 343) 120 = .ok (.aload_n 2, 1) := by decide +kernel
theorem q343_121 : decode (zbc 343) 121 = .ok (.iconst 1, 1) := by decide +kernel
theorem q343_122 : decode (zbc 343) 122 = .ok (.dup2, 1) := by decide +kernel
theorem q343_123 : decode (zbc 343) 123 = .ok (.iaload, 1) := by decide +kernel
theorem q343_124 : decode (zbc 343) 124 = .ok (.iload 9, 2) := by decide +kernel
theorem q343_126 : decode (zbc 343) 126 = .ok (.iadd, 1) := by decide +kernel
theorem q343_127 : decode (zbc 343) 127 = .ok (.iastore, 1) := by decide +kernel
theorem q343_128 : decode (zbc 343) 128 = .ok (.aload_n 2, 1) := by decide +kernel
theorem q343_129 : decode (zbc 343) 129 = .ok (.iconst 2, 1) := by decide +kernel
theorem q343_130 : decode (zbc 343) 130 = .ok (.dup2, 1) := by decide +kernel
theorem q343_131 : decode (zbc 343) 131 = .ok (.iaload, 1) := by decide +kernel
theorem q343_132 : decode (zbc 343) 132 = .ok (.iload 10, 2) := by decide +kernel
theorem q343_134 : decode (zbc 343) 134 = .ok (.iadd, 1) := by decide +kernel
theorem q343_135 : decode (zbc 343) 135 = .ok (.iastore, 1) := by decide +kernel
theorem q343_136 : decode (zbc 343) 136 = .ok (.iload_n 3, 1) := by decide +kernel
theorem q343_137 : decode (zbc 343) 137 = .ok (.aload_n 0, 1) := by decide +kernel
theorem q343_138 : decode (zbc 343) 138 = .ok (.bipush 36, 2) := by decide +kernel
theorem q343_140 : decode (zbc 343) 140 = .ok (.iload 5, 2) := by decide +kernel
theorem q343_142 : decode (zbc 343) 142 = .ok (.invokestatic 185, 3) := by decide +kernel
theorem wq343_142 {L9 : Nat} {xs9 : Nat → Int32} {N9 : Nat} : z_SC N9 znl zTs (zZ L9 xs9 N9) zyn zbc zrt zfr zlo (fun _ i => i) ztb 343 142 2 336 3 := sc_S (P := fun _ i => i) zTs_good q343_142 kx_545 kx_546 kx_31 kx_547 rfl ⟨by decide, by decide, by decide +kernel⟩ ⟨Nat.le_of_ble_eq_true rfl, Nat.le_of_ble_eq_true rfl⟩
theorem q343_145 : decode (zbc 343) 145 = .ok (.iadd, 1) := by decide +kernel
theorem q343_146 : decode (zbc 343) 146 = .ok (.istore_n 3, 1) := by decide +kernel
theorem q343_147 : decode (zbc 343) 147 = .ok (.iconst 0, 1) := by decide +kernel
theorem q343_148 : decode (zbc 343) 148 = .ok (.istore 11, 2) := by decide +kernel
theorem q343_150 : decode (zbc 343) 150 = .ok (.iconst (-1), 1) := by decide +kernel
theorem q343_151 : decode (zbc 343) 151 = .ok (.istore 12, 2) := by decide +kernel
theorem q343_153 : decode (zbc 343) 153 = .ok (.iconst 0, 1) := by decide +kernel
theorem q343_154 : decode (zbc 343) 154 = .ok (.istore 13, 2) := by decide +kernel
theorem q343_156 : decode (zbc 343) 156 = .ok (.iconst 0, 1) := by decide +kernel
theorem q343_157 : decode (zbc 343) 157 = .ok (.istore 14, 2) := by decide +kernel
theorem q343_340 : decode (zbc 343) 340 = .ok (.iload 4, 2) := by decide +kernel
theorem q343_342 : decode (zbc 343) 342 = .ok (.ifCond .eq 176, 3) := by decide +kernel
theorem q343_345 : decode (zbc 343) 345 = .ok (.iload 8, 2) := by decide +kernel
theorem q343_347 : decode (zbc 343) 347 = .ok (.iload 9, 2) := by decide +kernel
theorem q343_349 : decode (zbc 343) 349 = .ok (.iadd, 1) := by decide +kernel
theorem q343_350 : decode (zbc 343) 350 = .ok (.iload 10, 2) := by decide +kernel
theorem q343_352 : decode (zbc 343) 352 = .ok (.iadd, 1) := by decide +kernel
theorem q343_353 : decode (zbc 343) 353 = .ok (.iconst 1, 1) := by decide +kernel
theorem q343_354 : decode (zbc 343) 354 = .ok (.if_icmp .ne 164, 3) := by decide +kernel
theorem q343_357 : decode (zbc 343) 357 = .ok (.iload 9, 2) := by decide +kernel
theorem q343_359 : decode (zbc 343) 359 = .ok (.ifCond .eq 17, 3) := by decide +kernel
theorem q343_376 : decode (zbc 343) 376 = .ok (.iload 10, 2) := by decide +kernel
theorem q343_378 : decode (zbc 343) 378 = .ok (.ifCond .eq 8, 3) := by decide +kernel
theorem q343_386 : decode (zbc 343) 386 = .ok (.iload 8, 2) := by decide +kernel
theorem q343_388 : decode (zbc 343) 388 = .ok (.iconst 1, 1) := by decide +kernel
theorem q343_389 : decode (zbc 343) 389 = .ok (.if_icmp .eq 14, 3) := by decide +kernel
theorem q343_403 : decode (zbc 343) 403 = .ok (.aload_n 0, 1) := by decide +kernel
theorem q343_404 : decode (zbc 343) 404 = .ok (.bipush 37, 2) := by decide +kernel
theorem q343_406 : decode (zbc 343) 406 = .ok (.iload 5, 2) := by decide +kernel
theorem q343_408 : decode (zbc 343) 408 = .ok (.invokestatic 185, 3) := by decide +kernel
theorem wq343_408 {L9 : Nat} {xs9 : Nat → Int32} {N9 : Nat} : z_SC N9 znl zTs (zZ L9 xs9 N9) zyn zbc zrt zfr zlo (fun _ i => i) ztb 343 408 2 336 3 := sc_S (P := fun _ i => i) zTs_good q343_408 kx_545 kx_546 kx_31 kx_547 rfl ⟨by decide, by decide, by decide +kernel⟩ ⟨Nat.le_of_ble_eq_true rfl, Nat.le_of_ble_eq_true rfl⟩
theorem q343_411 : decode (zbc 343) 411 = .ok (.iconst 1, 1) := by decide +kernel
theorem q343_412 : decode (zbc 343) 412 = .ok (.if_icmp .ne 17, 3) := by decide +kernel
theorem q343_429 : decode (zbc 343) 429 = .ok (.aload_n 0, 1) := by decide +kernel
theorem q343_430 : decode (zbc 343) 430 = .ok (.bipush 38, 2) := by decide +kernel
theorem q343_432 : decode (zbc 343) 432 = .ok (.iload 5, 2) := by decide +kernel
theorem q343_434 : decode (zbc 343) 434 = .ok (.invokestatic 185, 3) := by decide +kernel
theorem wq343_434 {L9 : Nat} {xs9 : Nat → Int32} {N9 : Nat} : z_SC N9 znl zTs (zZ L9 xs9 N9) zyn zbc zrt zfr zlo (fun _ i => i) ztb 343 434 2 336 3 := sc_S (P := fun _ i => i) zTs_good q343_434 kx_545 kx_546 kx_31 kx_547 rfl ⟨by decide, by decide, by decide +kernel⟩ ⟨Nat.le_of_ble_eq_true rfl, Nat.le_of_ble_eq_true rfl⟩
theorem q343_437 : decode (zbc 343) 437 = .ok (.bipush (-101), 2) := by decide +kernel
theorem q343_439 : decode (zbc 343) 439 = .ok (.if_icmp .ne 79, 3) := by decide +kernel
theorem q343_442 : decode (zbc 343) 442 = .ok (.aload_n 0, 1) := by decide +kernel
theorem q343_443 : decode (zbc 343) 443 = .ok (.bipush 42, 2) := by decide +kernel
theorem q343_445 : decode (zbc 343) 445 = .ok (.iload 5, 2) := by decide +kernel
theorem q343_447 : decode (zbc 343) 447 = .ok (.invokestatic 185, 3) := by decide +kernel
theorem wq343_447 {L9 : Nat} {xs9 : Nat → Int32} {N9 : Nat} : z_SC N9 znl zTs (zZ L9 xs9 N9) zyn zbc zrt zfr zlo (fun _ i => i) ztb 343 447 2 336 3 := sc_S (P := fun _ i => i) zTs_good q343_447 kx_545 kx_546 kx_31 kx_547 rfl ⟨by decide, by decide, by decide +kernel⟩ ⟨Nat.le_of_ble_eq_true rfl, Nat.le_of_ble_eq_true rfl⟩
theorem q343_465 : decode (zbc 343) 465 = .ok (.aload_n 0, 1) := by decide +kernel
theorem q343_466 : decode (zbc 343) 466 = .ok (.bipush 39, 2) := by decide +kernel
theorem q343_468 : decode (zbc 343) 468 = .ok (.iload 5, 2) := by decide +kernel
theorem q343_470 : decode (zbc 343) 470 = .ok (.aload_n 0, 1) := by decide +kernel
theorem q343_471 : decode (zbc 343) 471 = .ok (.invokevirtual 254, 3) := by decide +kernel
theorem wq343_471 {L9 : Nat} {xs9 : Nat → Int32} {N9 : Nat} : z_SC N9 znl zTs (zZ L9 xs9 N9) zyn zbc zrt zfr zlo (fun _ i => i) ztb 343 471 3 219 1 := sc_V (P := fun _ i => i) (n' := 0) zTs_good q343_471 kx_1388 kx_1389 kx_1390 kx_32 kx_1391 rfl ⟨by decide, by decide, by decide +kernel⟩ rfl ⟨Nat.le_of_ble_eq_true rfl, Nat.le_of_ble_eq_true rfl⟩
theorem q343_474 : decode (zbc 343) 474 = .ok (.invokestatic 251, 3) := by decide +kernel
theorem wq343_474 {L9 : Nat} {xs9 : Nat → Int32} {N9 : Nat} : z_SC N9 znl zTs (zZ L9 xs9 N9) zyn zbc zrt zfr zlo (fun _ i => i) ztb 343 474 2 335 4 := sc_S (P := fun _ i => i) zTs_good q343_474 kx_1385 kx_1386 kx_31 kx_1387 rfl ⟨by decide, by decide, by decide +kernel⟩ ⟨Nat.le_of_ble_eq_true rfl, Nat.le_of_ble_eq_true rfl⟩
theorem q343_477 : decode (zbc 343) 477 = .ok (.bipush (-104), 2) := by decide +kernel
theorem q343_479 : decode (zbc 343) 479 = .ok (.if_icmp .ne 39, 3) := by decide +kernel
theorem q343_482 : decode (zbc 343) 482 = .ok (.iload 8, 2) := by decide +kernel
theorem q343_484 : decode (zbc 343) 484 = .ok (.iconst 1, 1) := by decide +kernel
theorem q343_485 : decode (zbc 343) 485 = .ok (.if_icmp .eq 29, 3) := by decide +kernel
theorem q343_514 : decode (zbc 343) 514 = .ok (.iconst 1, 1) := by decide +kernel
theorem q343_515 : decode (zbc 343) 515 = .ok (.goto 4, 3) := by decide +kernel
theorem q343_519 : decode (zbc 343) 519 = .ok (.istore 4, 2) := by decide +kernel
theorem q343_521 : decode (zbc 343) 521 = .ok (.iinc 5 1, 3) := by decide +kernel
theorem q343_524 : decode (zbc 343) 524 = .ok (.goto (-473), 3) := by decide +kernel
theorem q343_415 : decode (zbc 343) 415 = .ok (.aload_n 0, 1) := by decide +kernel
theorem q343_416 : decode (zbc 343) 416 = .ok (.bipush 38, 2) := by decide +kernel
theorem q343_418 : decode (zbc 343) 418 = .ok (.iload 5, 2) := by decide +kernel
theorem q343_420 : decode (zbc 343) 420 = .ok (.invokestatic 185, 3) := by decide +kernel
theorem wq343_420 {L9 : Nat} {xs9 : Nat → Int32} {N9 : Nat} : z_SC N9 znl zTs (zZ L9 xs9 N9) zyn zbc zrt zfr zlo (fun _ i => i) ztb 343 420 2 336 3 := sc_S (P := fun _ i => i) zTs_good q343_420 kx_545 kx_546 kx_31 kx_547 rfl ⟨by decide, by decide, by decide +kernel⟩ ⟨Nat.le_of_ble_eq_true rfl, Nat.le_of_ble_eq_true rfl⟩
theorem q343_423 : decode (zbc 343) 423 = .ok (.ifCond .lt 95, 3) := by decide +kernel
theorem q343_426 : decode (zbc 343) 426 = .ok (.goto 16, 3) := by decide +kernel
theorem q343_362 : decode (zbc 343) 362 = .ok (.aload_n 0, 1) := by decide +kernel
theorem q343_363 : decode (zbc 343) 363 = .ok (.bipush 17, 2) := by decide +kernel
theorem q343_365 : decode (zbc 343) 365 = .ok (.iload 6, 2) := by decide +kernel
theorem q343_367 : decode (zbc 343) 367 = .ok (.iload 7, 2) := by decide +kernel
theorem q343_369 : decode (zbc 343) 369 = .ok (.invokestatic 251, 3) := by decide +kernel
theorem wq343_369 {L9 : Nat} {xs9 : Nat → Int32} {N9 : Nat} : z_SC N9 znl zTs (zZ L9 xs9 N9) zyn zbc zrt zfr zlo (fun _ i => i) ztb 343 369 2 335 4 := sc_S (P := fun _ i => i) zTs_good q343_369 kx_1385 kx_1386 kx_31 kx_1387 rfl ⟨by decide, by decide, by decide +kernel⟩ ⟨Nat.le_of_ble_eq_true rfl, Nat.le_of_ble_eq_true rfl⟩
theorem q343_372 : decode (zbc 343) 372 = .ok (.iconst 1, 1) := by decide +kernel
theorem q343_373 : decode (zbc 343) 373 = .ok (.if_icmp .ne 145, 3) := by decide +kernel
theorem q343_392 : decode (zbc 343) 392 = .ok (.aload_n 0, 1) := by decide +kernel
theorem q343_393 : decode (zbc 343) 393 = .ok (.bipush 37, 2) := by decide +kernel
theorem q343_395 : decode (zbc 343) 395 = .ok (.iload 5, 2) := by decide +kernel
theorem q343_397 : decode (zbc 343) 397 = .ok (.invokestatic 185, 3) := by decide +kernel
theorem wq343_397 {L9 : Nat} {xs9 : Nat → Int32} {N9 : Nat} : z_SC N9 znl zTs (zZ L9 xs9 N9) zyn zbc zrt zfr zlo (fun _ i => i) ztb 343 397 2 336 3 := sc_S (P := fun _ i => i) zTs_good q343_397 kx_545 kx_546 kx_31 kx_547 rfl ⟨by decide, by decide, by decide +kernel⟩ ⟨Nat.le_of_ble_eq_true rfl, Nat.le_of_ble_eq_true rfl⟩
theorem q343_400 : decode (zbc 343) 400 = .ok (.ifCond .ne 118, 3) := by decide +kernel
theorem q343_488 : decode (zbc 343) 488 = .ok (.aload_n 0, 1) := by decide +kernel
theorem q343_489 : decode (zbc 343) 489 = .ok (.bipush 43, 2) := by decide +kernel
theorem q343_491 : decode (zbc 343) 491 = .ok (.iload 5, 2) := by decide +kernel
theorem q343_493 : decode (zbc 343) 493 = .ok (.invokestatic 185, 3) := by decide +kernel
theorem wq343_493 {L9 : Nat} {xs9 : Nat → Int32} {N9 : Nat} : z_SC N9 znl zTs (zZ L9 xs9 N9) zyn zbc zrt zfr zlo (fun _ i => i) ztb 343 493 2 336 3 := sc_S (P := fun _ i => i) zTs_good q343_493 kx_545 kx_546 kx_31 kx_547 rfl ⟨by decide, by decide, by decide +kernel⟩ ⟨Nat.le_of_ble_eq_true rfl, Nat.le_of_ble_eq_true rfl⟩
theorem q343_496 : decode (zbc 343) 496 = .ok (.bipush (-102), 2) := by decide +kernel
theorem q343_498 : decode (zbc 343) 498 = .ok (.if_icmp .ne 20, 3) := by decide +kernel
theorem q343_501 : decode (zbc 343) 501 = .ok (.aload_n 0, 1) := by decide +kernel
theorem q343_502 : decode (zbc 343) 502 = .ok (.bipush 44, 2) := by decide +kernel
theorem q343_504 : decode (zbc 343) 504 = .ok (.iload 5, 2) := by decide +kernel
theorem q343_506 : decode (zbc 343) 506 = .ok (.invokestatic 185, 3) := by decide +kernel
theorem wq343_506 {L9 : Nat} {xs9 : Nat → Int32} {N9 : Nat} : z_SC N9 znl zTs (zZ L9 xs9 N9) zyn zbc zrt zfr zlo (fun _ i => i) ztb 343 506 2 336 3 := sc_S (P := fun _ i => i) zTs_good q343_506 kx_545 kx_546 kx_31 kx_547 rfl ⟨by decide, by decide, by decide +kernel⟩ ⟨Nat.le_of_ble_eq_true rfl, Nat.le_of_ble_eq_true rfl⟩
theorem q343_509 : decode (zbc 343) 509 = .ok (.iload 9, 2) := by decide +kernel
theorem q343_511 : decode (zbc 343) 511 = .ok (.if_icmp .ne 7, 3) := by decide +kernel
theorem q343_381 : decode (zbc 343) 381 = .ok (.iload 11, 2) := by decide +kernel
theorem q343_383 : decode (zbc 343) 383 = .ok (.ifCond .eq 135, 3) := by decide +kernel
theorem tr_t {X : Nat × (Nat → Int32)} {B : Int} {sv : Nat → Int → Int} {u : Int} {h : Nat → Int → Int} {s : Int → Int} {b : WB} {c d : Nat} {F : GM} {Q : WQ} {Y0 : DY} (hB : B ≤ 9999) (hb1 : c + 24 ≤ b.1) (hb2 : d + 144 ≤ b.2.1) (hk : ∀ G D Y a6 a7 a8 a9 a10 a11 a12 a13 a14 a15 a16, PG B sv u h s G → wFa Y0 3 D Y → (D 0 = zcnt (fun w => s (214 + 7 * w + 2) = 0) (s 5).toNat ∧ D 1 = zcnt (fun w => s (214 + 7 * w + 2) = 1) (s 5).toNat ∧ D 2 = zcnt (fun w => s (214 + 7 * w + 2) = 2) (s 5).toNat) →  wW (229, X) 343 b 527 [.ref 192, .int (zi (s 5)), .ref (1000 + Y0.2.2), .int (zi (sStp s (s 5).toNat)), .int (zi 1), .int (zi ((s 5).toNat : Int)), a6, a7, a8, a9, a10, a11, a12, a13, a14, a15, a16] [] G F Y (c + 24) (d + 144) Q) : ∀ (d9 : Nat) (k : Nat) (D : Int → Int) (Y : DY) (a6 a7 a8 a9 a10 a11 a12 a13 a14 a15 a16 : Value) (G : GM), s 5 - (k : Int) < (d9 : Int) → (k : Int) ≤ s 5 → PG B sv u h s G → wFa Y0 3 D Y → (D 0 = zcnt (fun w => s (214 + 7 * w + 2) = 0) k ∧ D 1 = zcnt (fun w => s (214 + 7 * w + 2) = 1) k ∧ D 2 = zcnt (fun w => s (214 + 7 * w + 2) = 2) k) → wW (229, X) 343 b 51 [.ref 192, .int (zi (s 5)), .ref (1000 + Y0.2.2), .int (zi (sStp s k)), .int (zi 1), .int (zi (k : Int)), a6, a7, a8, a9, a10, a11, a12, a13, a14, a15, a16] [] G F Y (c + 4 * k) (d + 24 * k) Q := by
  intro d9
  induction d9 with
  | zero =>
    intro k
    intros
    exact absurd (by assumption) (by omega)
  | succ d9 ih =>
      intro k D Y a6 a7 a8 a9 a10 a11 a12 a13 a14 a15 a16 G hd hk9 p har hD
      have a4b := p.ok.2.2.2.2.1
      have a5b := p.ok.2.2.2.2.2.1
      have a0 := p.ok.1
      have a1 := p.ok.2.1
      have a3 := p.ok.2.2.2.1
      have hT : s 3 ≤ 9999 := Int.le_trans p.1.2.2.1 hB
      refine wi_iload (i := 5) (pc' := 53) q343_51 rfl rfl ?_
      refine wi_iload_n (i := 1) (pc' := 54) q343_53 rfl rfl rfl ?_
      refine wi_icmp_ge (t := 527) (pc' := 57) q343_54 (by decide) rfl (by omega) (by omega) ?_ ?_
      · intro h9
        obtain rfl : k = (s 5).toNat := by omega
        exact wW_cd (by omega) (by omega) (hk G D Y a6 a7 a8 a9 a10 a11 a12 a13 a14 a15 a16 p har hD)
      · intro h9
        have hw9 := wOk_w p.ok (t := (k : Int)) ⟨by omega, by omega⟩
        obtain ⟨l1, l2, l3, l4, l5⟩ := hw9
        obtain ⟨hD0, hD1, hD2⟩ := hD
        have z0 := zb_rng (p := (s (214 + 7 * (k : Int) + 2)) = 0)
        have z1 := zb_rng (p := (s (214 + 7 * (k : Int) + 2)) = 1)
        have z2 := zb_rng (p := (s (214 + 7 * (k : Int) + 2)) = 2)
        have c0 := zcnt_rng (fun w => s (214 + 7 * w + 2) = 0) k
        have c1 := zcnt_rng (fun w => s (214 + 7 * w + 2) = 1) k
        have c2 := zcnt_rng (fun w => s (214 + 7 * w + 2) = 2) k
        refine wi_iload (i := 4) (pc' := 59) q343_57 rfl rfl ?_
        refine wi_if_eq (t := 527) (pc' := 62) q343_59 (by decide) rfl (by omega) (fun h1 => absurd h1 (by omega)) (fun h1 => ?_)
        refine wi_aload_n (i := 0) (pc' := 63) q343_62 rfl rfl rfl ?_
        refine wi_bipush (pc' := 65) q343_63 rfl (by decide) ?_
        refine wi_iload (i := 5) (pc' := 67) q343_65 rfl rfl ?_
        refine wi_cv (u9 := (229, X)) (pc' := 70) wq343_67 rfl (cL_s2 (pL_travellerColumn p (by omega)) zLc_i) (fun h => absurd h (by decide)) rfl rfl (vL_walker (t := (k : Int)) (f := 0) p.ok (by omega) (by omega)).1 (by (try dsimp only); omega) (by (try dsimp only); omega) ?_
        intro Gp1 p1
        rw [(vL_walker (t := (k : Int)) (f := 0) p.ok (by omega) (by omega)).2]
        refine wi_istore6 (pc' := 72) q343_70 rfl rfl (Or.inr rfl) ?_
        refine wi_aload_n (i := 0) (pc' := 73) q343_72 rfl rfl rfl ?_
        refine wi_bipush (pc' := 75) q343_73 rfl (by decide) ?_
        refine wi_iload (i := 5) (pc' := 77) q343_75 rfl rfl ?_
        refine wi_cv (u9 := (229, X)) (pc' := 80) wq343_77 rfl (cL_s2 (pL_travellerRow p1 (by omega)) zLc_i) (fun h => absurd h (by decide)) rfl rfl (vL_walker (t := (k : Int)) (f := 1) p1.ok (by omega) (by omega)).1 (by (try dsimp only); omega) (by (try dsimp only); omega) ?_
        intro Gp2 p2
        rw [(vL_walker (t := (k : Int)) (f := 1) p1.ok (by omega) (by omega)).2]
        refine wi_istore7 (pc' := 82) q343_80 rfl rfl (Or.inr rfl) ?_
        refine wi_aload_n (i := 0) (pc' := 83) q343_82 rfl rfl rfl ?_
        refine wi_bipush (pc' := 85) q343_83 rfl (by decide) ?_
        refine wi_iload (i := 5) (pc' := 87) q343_85 rfl rfl ?_
        refine wi_cv (u9 := (229, X)) (pc' := 90) wq343_87 rfl (cL_s2 (pL_isWalking p2 (by omega)) zLc_i) (fun h => absurd h (by decide)) rfl rfl (vL_state (s := s) (t := (k : Int)) (f := 0) (by omega)).1 (by (try dsimp only); omega) (by (try dsimp only); omega) ?_
        intro Gp3 p3
        rw [(vL_state (s := s) (t := (k : Int)) (f := 0) (by omega)).2]
        refine wi_istore8 (pc' := 92) q343_90 rfl rfl (Or.inr rfl) ?_
        refine wi_aload_n (i := 0) (pc' := 93) q343_92 rfl rfl rfl ?_
        refine wi_bipush (pc' := 95) q343_93 rfl (by decide) ?_
        refine wi_iload (i := 5) (pc' := 97) q343_95 rfl rfl ?_
        refine wi_cv (u9 := (229, X)) (pc' := 100) wq343_97 rfl (cL_s2 (pL_hasArrived p3 (by omega)) zLc_i) (fun h => absurd h (by decide)) rfl rfl (vL_state (s := s) (t := (k : Int)) (f := 1) (by omega)).1 (by (try dsimp only); omega) (by (try dsimp only); omega) ?_
        intro Gp4 p4
        rw [(vL_state (s := s) (t := (k : Int)) (f := 1) (by omega)).2]
        refine wi_istore9 (pc' := 102) q343_100 rfl rfl (Or.inr rfl) ?_
        refine wi_aload_n (i := 0) (pc' := 103) q343_102 rfl rfl rfl ?_
        refine wi_bipush (pc' := 105) q343_103 rfl (by decide) ?_
        refine wi_iload (i := 5) (pc' := 107) q343_105 rfl rfl ?_
        refine wi_cv (u9 := (229, X)) (pc' := 110) wq343_107 rfl (cL_s2 (pL_hasSunk p4 (by omega)) zLc_i) (fun h => absurd h (by decide)) rfl rfl (vL_state (s := s) (t := (k : Int)) (f := 2) (by omega)).1 (by (try dsimp only); omega) (by (try dsimp only); omega) ?_
        intro Gp5 p5
        rw [(vL_state (s := s) (t := (k : Int)) (f := 2) (by omega)).2]
        refine wi_istore10 (pc' := 112) q343_110 rfl rfl (Or.inr rfl) ?_
        refine wi_aload_n (i := 2) (pc' := 113) q343_112 rfl rfl rfl ?_
        refine wi_iconst (pc' := 114) q343_113 rfl ?_
        refine wi_dup2 (pc' := 115) q343_114 rfl ?_
        refine wi_faget (pc' := 116) q343_115 rfl har (by omega) (by omega) ?_
        refine wi_iload (i := 8) (pc' := 118) q343_116 rfl rfl ?_
        refine wi_iadd (pc' := 119) q343_118 rfl ?_
        refine wi_faset (pc' := 120) q343_119 rfl har (by omega) (by omega) (by omega) ?_
        intro Y2 hY2
        refine wi_aload_n (i := 2) (pc' := 121) q343_120 rfl rfl rfl ?_
        refine wi_iconst (pc' := 122) q343_121 rfl ?_
        refine wi_dup2 (pc' := 123) q343_122 rfl ?_
        refine wi_faget (pc' := 124) q343_123 rfl hY2 (by omega) (by omega) ?_
        rw [show ((zp D 0 ((D 0) + (zb (s (214 + 7 * (k : Int) + 2) = 0)))) 1 : Int) = D 1 from zp_ne (by decide)]
        refine wi_iload (i := 9) (pc' := 126) q343_124 rfl rfl ?_
        refine wi_iadd (pc' := 127) q343_126 rfl ?_
        refine wi_faset (pc' := 128) q343_127 rfl hY2 (by omega) (by omega) (by omega) ?_
        intro Y3 hY3
        refine wi_aload_n (i := 2) (pc' := 129) q343_128 rfl rfl rfl ?_
        refine wi_iconst (pc' := 130) q343_129 rfl ?_
        refine wi_dup2 (pc' := 131) q343_130 rfl ?_
        refine wi_faget (pc' := 132) q343_131 rfl hY3 (by omega) (by omega) ?_
        rw [show ((zp (zp D 0 ((D 0) + (zb (s (214 + 7 * (k : Int) + 2) = 0)))) 1 ((D 1) + (zb (s (214 + 7 * (k : Int) + 2) = 1)))) 2 : Int) = D 2 from (zp_ne (by decide)).trans (zp_ne (by decide))]
        refine wi_iload (i := 10) (pc' := 134) q343_132 rfl rfl ?_
        refine wi_iadd (pc' := 135) q343_134 rfl ?_
        refine wi_faset (pc' := 136) q343_135 rfl hY3 (by omega) (by omega) (by omega) ?_
        intro Y4 hY4
        refine wi_iload_n (i := 3) (pc' := 137) q343_136 rfl rfl rfl ?_
        refine wi_aload_n (i := 0) (pc' := 138) q343_137 rfl rfl rfl ?_
        refine wi_bipush (pc' := 140) q343_138 rfl (by decide) ?_
        refine wi_iload (i := 5) (pc' := 142) q343_140 rfl rfl ?_
        refine wi_cv (u9 := (229, X)) (pc' := 145) wq343_142 rfl (cL_s2 (pL_stepsTaken p5 (by omega)) zLc_i) (fun h => absurd h (by decide)) rfl rfl (vL_walker (t := (k : Int)) (f := 6) p5.ok (by omega) (by omega)).1 (by (try dsimp only); omega) (by (try dsimp only); omega) ?_
        intro Gp6 p6
        rw [(vL_walker (t := (k : Int)) (f := 6) p5.ok (by omega) (by omega)).2]
        refine wi_iadd (pc' := 146) q343_145 rfl ?_
        refine wi_istore3 (pc' := 147) q343_146 rfl rfl rfl (Or.inr rfl) ?_
        refine wi_iconst (pc' := 148) q343_147 rfl ?_
        refine wi_istore11 (pc' := 150) q343_148 rfl rfl (Or.inr rfl) ?_
        refine wi_iconst (pc' := 151) q343_150 rfl ?_
        refine wi_istore12 (pc' := 153) q343_151 rfl rfl (Or.inr rfl) ?_
        refine wi_iconst (pc' := 154) q343_153 rfl ?_
        refine wi_istore13 (pc' := 156) q343_154 rfl rfl (Or.inr rfl) ?_
        refine wi_iconst (pc' := 157) q343_156 rfl ?_
        refine wi_istore14 (pc' := 159) q343_157 rfl rfl (Or.inr rfl) ?_
        rw [show (sStp s k + s (214 + 7 * (k : Int) + 6) : Int) = sStp s (k + 1) from rfl]
        refine tr_l (t := k) (by omega) (by omega) (by omega) ?_ 99 0 _ _ _ _ (by omega) (by omega) p6 (by omega) (fun h => by have h9 : (0 : Int) ≤ -1 := h; omega)
        intro G9 le a15 a16 p9
        have hnr := sNear_rng s (k : Int) (s 4).toNat
        have hi9 := p9.1.2.2.2.1 (k : Int) (by omega) (by omega)
        obtain ⟨i1, i2, i3⟩ := hi9
        have hD9 : (zp (zp (zp D 0 ((D 0) + (zb (s (214 + 7 * (k : Int) + 2) = 0)))) 1 ((D 1) + (zb (s (214 + 7 * (k : Int) + 2) = 1)))) 2 ((D 2) + (zb (s (214 + 7 * (k : Int) + 2) = 2)))) 0 = zcnt (fun w => s (214 + 7 * w + 2) = 0) (k + 1) ∧ (zp (zp (zp D 0 ((D 0) + (zb (s (214 + 7 * (k : Int) + 2) = 0)))) 1 ((D 1) + (zb (s (214 + 7 * (k : Int) + 2) = 1)))) 2 ((D 2) + (zb (s (214 + 7 * (k : Int) + 2) = 2)))) 1 = zcnt (fun w => s (214 + 7 * w + 2) = 1) (k + 1) ∧ (zp (zp (zp D 0 ((D 0) + (zb (s (214 + 7 * (k : Int) + 2) = 0)))) 1 ((D 1) + (zb (s (214 + 7 * (k : Int) + 2) = 1)))) 2 ((D 2) + (zb (s (214 + 7 * (k : Int) + 2) = 2)))) 2 = zcnt (fun w => s (214 + 7 * w + 2) = 2) (k + 1) := by
          rw [zp_ne (show (0 : Int) ≠ 2 by decide), zp_ne (show (0 : Int) ≠ 1 by decide), zp_eq, zp_ne (show (1 : Int) ≠ 2 by decide), zp_eq, zp_eq, hD0, hD1, hD2]
          exact ⟨rfl, rfl, rfl⟩
        rcases (show (s (214 + 7 * (k : Int) + 2)) = 0 ∨ (s (214 + 7 * (k : Int) + 2)) = 1 ∨ (s (214 + 7 * (k : Int) + 2)) = 2 by omega) with hst | hst | hst
        · have hq0 := hst
          rw [show ((zb (s (214 + 7 * (k : Int) + 2) = 0)) : Int) = 1 from zb_t (by omega), show ((zb (s (214 + 7 * (k : Int) + 2) = 1)) : Int) = 0 from zb_f (by omega), show ((zb (s (214 + 7 * (k : Int) + 2) = 2)) : Int) = 0 from zb_f (by omega)]
          refine wi_iload (i := 4) (pc' := 342) q343_340 rfl rfl ?_
          refine wi_if_eq (t := 518) (pc' := 345) q343_342 (by decide) rfl (by omega) (fun h5 => absurd h5 (by omega)) (fun h5 => ?_)
          refine wi_iload (i := 8) (pc' := 347) q343_345 rfl rfl ?_
          refine wi_iload (i := 9) (pc' := 349) q343_347 rfl rfl ?_
          refine wi_iadd (pc' := 350) q343_349 rfl ?_
          refine wi_iload (i := 10) (pc' := 352) q343_350 rfl rfl ?_
          refine wi_iadd (pc' := 353) q343_352 rfl ?_
          refine wi_iconst (pc' := 354) q343_353 rfl ?_
          refine wi_icmp_ne (t := 518) (pc' := 357) q343_354 (by decide) rfl (by omega) (by omega) (fun h6 => absurd h6 (by omega)) (fun h6 => ?_)
          refine wi_iload (i := 9) (pc' := 359) q343_357 rfl rfl ?_
          refine wi_if_eq (t := 376) (pc' := 362) q343_359 (by decide) rfl (by omega) (fun h7 => ?_) (fun h7 => absurd h7 (by omega))
          refine wi_iload (i := 10) (pc' := 378) q343_376 rfl rfl ?_
          refine wi_if_eq (t := 386) (pc' := 381) q343_378 (by decide) rfl (by omega) (fun h8 => ?_) (fun h8 => absurd h8 (by omega))
          refine wi_iload (i := 8) (pc' := 388) q343_386 rfl rfl ?_
          refine wi_iconst (pc' := 389) q343_388 rfl ?_
          refine wi_icmp_eq (t := 403) (pc' := 392) q343_389 (by decide) rfl (by omega) (by omega) (fun h9 => ?_) (fun h9 => absurd h9 (by omega))
          refine wi_aload_n (i := 0) (pc' := 404) q343_403 rfl rfl rfl ?_
          refine wi_bipush (pc' := 406) q343_404 rfl (by decide) ?_
          refine wi_iload (i := 5) (pc' := 408) q343_406 rfl rfl ?_
          refine wi_cv (u9 := (229, X)) (pc' := 411) wq343_408 rfl (cL_s2 (pL_hasTarget p9 (by omega)) zLc_i) (fun h => absurd h (by decide)) rfl rfl (vL_hasTgt (s := s) (t := (k : Int)) (by omega)).1 (by (try dsimp only); omega) (by (try dsimp only); omega) ?_
          intro Gp7 p7
          rw [(vL_hasTgt (s := s) (t := (k : Int)) (by omega)).2]
          refine wi_iconst (pc' := 412) q343_411 rfl ?_
          refine wi_icmp_ne (t := 429) (pc' := 415) q343_412 (by decide) rfl zr_zb (by omega) ?_ ?_
          · intro h8
            have hnt : ¬ 0 ≤ s (214 + 7 * (k : Int) + 3) := fun h => h8 (zb_t h)
            refine wi_aload_n (i := 0) (pc' := 430) q343_429 rfl rfl rfl ?_
            refine wi_bipush (pc' := 432) q343_430 rfl (by decide) ?_
            refine wi_iload (i := 5) (pc' := 434) q343_432 rfl rfl ?_
            refine wi_cx (u9 := (229, X)) (pc' := 437) wq343_434 rfl (cL_s2 (pL_target p7  (by omega)) zLc_i) (fun h => absurd h (by decide)) rfl rfl (by (try dsimp only); omega) (by (try dsimp only); omega) ?_
            intro Gp8 p8
            rw [(vL_tgt (t := (k : Int)) p7.ok (by omega)).trans (if_pos (by omega))]
            refine wi_bipush (pc' := 439) q343_437 rfl (by decide) ?_
            refine wi_icmp_ne (t := 518) (pc' := 442) q343_439 (by decide) rfl (by omega) (by omega) (fun h10 => absurd h10 (by omega)) (fun h10 => ?_)
            refine wi_aload_n (i := 0) (pc' := 443) q343_442 rfl rfl rfl ?_
            refine wi_bipush (pc' := 445) q343_443 rfl (by decide) ?_
            refine wi_iload (i := 5) (pc' := 447) q343_445 rfl rfl ?_
            refine wi_cx (u9 := (229, X)) (pc' := 450) wq343_447 rfl (cL_s2 (pL_nearestLight p8  (by omega)) zLc_i) (fun h => absurd h (by decide)) rfl rfl (by (try dsimp only); omega) (by (try dsimp only); omega) ?_
            intro Gp9 p9
            rw [vL_near (t := (k : Int)) p8.ok (by omega)]
            refine tr_m (near_zr p9.ok) ?_
            refine wi_aload_n (i := 0) (pc' := 466) q343_465 rfl rfl rfl ?_
            refine wi_bipush (pc' := 468) q343_466 rfl (by decide) ?_
            refine wi_iload (i := 5) (pc' := 470) q343_468 rfl rfl ?_
            refine wi_aload_n (i := 0) (pc' := 471) q343_470 rfl rfl rfl ?_
            refine wi_cp (u9 := (229, X)) (pc' := 474) wq343_471 rfl (cQ_lightCount (Nat.le_refl _) p9.ok p9.hR) (fun _ => ⟨_, _, rfl⟩) rfl rfl (by (try dsimp only); omega) (by (try dsimp only); omega) ?_
            refine wi_cx (u9 := (229, X)) (pc' := 477) wq343_474 rfl (cL_s3 (pL_hasPassed p9  (by omega) (by omega)) zLc_i) (fun h => absurd h (by decide)) rfl rfl (by (try dsimp only); omega) (by (try dsimp only); omega) ?_
            intro Gp10 p10
            rw [vL_passedOut (s := s) (t := (k : Int)) (l := s 4) (fun h => by omega)]
            refine wi_bipush (pc' := 479) q343_477 rfl (by decide) ?_
            refine wi_icmp_ne (t := 518) (pc' := 482) q343_479 (by decide) rfl (by omega) (by omega) (fun h11 => absurd h11 (by omega)) (fun h11 => ?_)
            refine wi_iload (i := 8) (pc' := 484) q343_482 rfl rfl ?_
            refine wi_iconst (pc' := 485) q343_484 rfl ?_
            refine wi_icmp_eq (t := 514) (pc' := 488) q343_485 (by decide) rfl (by omega) (by omega) (fun h12 => ?_) (fun h12 => absurd h12 (by omega))
            refine wi_iconst (pc' := 515) q343_514 rfl ?_
            refine wi_goto (t := 519) q343_515 (by decide) ?_
            refine wi_istore4 (pc' := 521) q343_519 rfl rfl (Or.inr rfl) ?_
            refine wi_iinc5 (pc' := 524) q343_521 rfl rfl (Or.inr rfl) ?_
            refine wi_goto (t := 51) q343_524 (by decide) ?_
            refine wW_cd (c' := c + 4 * (k + 1)) (d' := d + 24 * (k + 1)) (by omega) (by omega) ?_
            rw [show ((k : Int) + 1) = ((k + 1 : Nat) : Int) by omega]
            exact ih (k + 1) _ _ _ _ _ _ _ _ _ _ _ _ _ _ (by omega) (by omega) p10 hY4 hD9
          · intro h8
            have hht : 0 ≤ s (214 + 7 * (k : Int) + 3) := zb_one.mp h8
            refine wi_aload_n (i := 0) (pc' := 416) q343_415 rfl rfl rfl ?_
            refine wi_bipush (pc' := 418) q343_416 rfl (by decide) ?_
            refine wi_iload (i := 5) (pc' := 420) q343_418 rfl rfl ?_
            refine wi_cv (u9 := (229, X)) (pc' := 423) wq343_420 rfl (cL_s2 (pL_target p7  (by omega)) zLc_i) (fun h => absurd h (by decide)) rfl rfl (vL_tgtIn (t := (k : Int)) p7.ok (by omega) hht).1 (by (try dsimp only); omega) (by (try dsimp only); omega) ?_
            intro Gp11 p11
            rw [(vL_tgtIn (t := (k : Int)) p7.ok (by omega) hht).2]
            refine wi_if_lt (t := 518) (pc' := 426) q343_423 (by decide) rfl (by omega) (fun h13 => absurd h13 (by omega)) (fun h13 => ?_)
            refine wi_goto (t := 442) q343_426 (by decide) ?_
            refine wi_aload_n (i := 0) (pc' := 443) q343_442 rfl rfl rfl ?_
            refine wi_bipush (pc' := 445) q343_443 rfl (by decide) ?_
            refine wi_iload (i := 5) (pc' := 447) q343_445 rfl rfl ?_
            refine wi_cx (u9 := (229, X)) (pc' := 450) wq343_447 rfl (cL_s2 (pL_nearestLight p11  (by omega)) zLc_i) (fun h => absurd h (by decide)) rfl rfl (by (try dsimp only); omega) (by (try dsimp only); omega) ?_
            intro Gp12 p12
            rw [vL_near (t := (k : Int)) p11.ok (by omega)]
            refine tr_m (near_zr p12.ok) ?_
            refine wi_aload_n (i := 0) (pc' := 466) q343_465 rfl rfl rfl ?_
            refine wi_bipush (pc' := 468) q343_466 rfl (by decide) ?_
            refine wi_iload (i := 5) (pc' := 470) q343_468 rfl rfl ?_
            refine wi_aload_n (i := 0) (pc' := 471) q343_470 rfl rfl rfl ?_
            refine wi_cp (u9 := (229, X)) (pc' := 474) wq343_471 rfl (cQ_lightCount (Nat.le_refl _) p12.ok p12.hR) (fun _ => ⟨_, _, rfl⟩) rfl rfl (by (try dsimp only); omega) (by (try dsimp only); omega) ?_
            refine wi_cx (u9 := (229, X)) (pc' := 477) wq343_474 rfl (cL_s3 (pL_hasPassed p12  (by omega) (by omega)) zLc_i) (fun h => absurd h (by decide)) rfl rfl (by (try dsimp only); omega) (by (try dsimp only); omega) ?_
            intro Gp13 p13
            rw [vL_passedOut (s := s) (t := (k : Int)) (l := s 4) (fun h => by omega)]
            refine wi_bipush (pc' := 479) q343_477 rfl (by decide) ?_
            refine wi_icmp_ne (t := 518) (pc' := 482) q343_479 (by decide) rfl (by omega) (by omega) (fun h14 => absurd h14 (by omega)) (fun h14 => ?_)
            refine wi_iload (i := 8) (pc' := 484) q343_482 rfl rfl ?_
            refine wi_iconst (pc' := 485) q343_484 rfl ?_
            refine wi_icmp_eq (t := 514) (pc' := 488) q343_485 (by decide) rfl (by omega) (by omega) (fun h15 => ?_) (fun h15 => absurd h15 (by omega))
            refine wi_iconst (pc' := 515) q343_514 rfl ?_
            refine wi_goto (t := 519) q343_515 (by decide) ?_
            refine wi_istore4 (pc' := 521) q343_519 rfl rfl (Or.inr rfl) ?_
            refine wi_iinc5 (pc' := 524) q343_521 rfl rfl (Or.inr rfl) ?_
            refine wi_goto (t := 51) q343_524 (by decide) ?_
            refine wW_cd (c' := c + 4 * (k + 1)) (d' := d + 24 * (k + 1)) (by omega) (by omega) ?_
            rw [show ((k : Int) + 1) = ((k + 1 : Nat) : Int) by omega]
            exact ih (k + 1) _ _ _ _ _ _ _ _ _ _ _ _ _ _ (by omega) (by omega) p13 hY4 hD9
        · have hq1 := hst
          rw [show ((zb (s (214 + 7 * (k : Int) + 2) = 0)) : Int) = 0 from zb_f (by omega), show ((zb (s (214 + 7 * (k : Int) + 2) = 1)) : Int) = 1 from zb_t (by omega), show ((zb (s (214 + 7 * (k : Int) + 2) = 2)) : Int) = 0 from zb_f (by omega)]
          have hnt : ¬ 0 ≤ s (214 + 7 * (k : Int) + 3) := by
            have := i1 (by omega)
            omega
          refine wi_iload (i := 4) (pc' := 342) q343_340 rfl rfl ?_
          refine wi_if_eq (t := 518) (pc' := 345) q343_342 (by decide) rfl (by omega) (fun h16 => absurd h16 (by omega)) (fun h16 => ?_)
          refine wi_iload (i := 8) (pc' := 347) q343_345 rfl rfl ?_
          refine wi_iload (i := 9) (pc' := 349) q343_347 rfl rfl ?_
          refine wi_iadd (pc' := 350) q343_349 rfl ?_
          refine wi_iload (i := 10) (pc' := 352) q343_350 rfl rfl ?_
          refine wi_iadd (pc' := 353) q343_352 rfl ?_
          refine wi_iconst (pc' := 354) q343_353 rfl ?_
          refine wi_icmp_ne (t := 518) (pc' := 357) q343_354 (by decide) rfl (by omega) (by omega) (fun h17 => absurd h17 (by omega)) (fun h17 => ?_)
          refine wi_iload (i := 9) (pc' := 359) q343_357 rfl rfl ?_
          refine wi_if_eq (t := 376) (pc' := 362) q343_359 (by decide) rfl (by omega) (fun h18 => absurd h18 (by omega)) (fun h18 => ?_)
          refine wi_aload_n (i := 0) (pc' := 363) q343_362 rfl rfl rfl ?_
          refine wi_bipush (pc' := 365) q343_363 rfl (by decide) ?_
          refine wi_iload (i := 6) (pc' := 367) q343_365 rfl rfl ?_
          refine wi_iload (i := 7) (pc' := 369) q343_367 rfl rfl ?_
          refine wi_cv (u9 := (229, X)) (pc' := 372) wq343_369 rfl (cL_s3 (pL_isHut p9  (by omega) (by omega)) zLc_i) (fun h => absurd h (by decide)) rfl rfl ((⟨(vL_isHut (s := s) (x := (s (214 + 7 * (k : Int) + 0))) (y := (s (214 + 7 * (k : Int) + 1))) (by omega) (by omega)).1, (vL_isHut (s := s) (x := (s (214 + 7 * (k : Int) + 0))) (y := (s (214 + 7 * (k : Int) + 1))) (by omega) (by omega)).2.trans (zb_t (i2 hst))⟩ : (q_isHut s (s (214 + 7 * (k : Int) + 0)) (s (214 + 7 * (k : Int) + 1))).1 = 0 ∧ zN [3] ((q_isHut s (s (214 + 7 * (k : Int) + 0)) (s (214 + 7 * (k : Int) + 1))).1, gZ (q_isHut s (s (214 + 7 * (k : Int) + 0)) (s (214 + 7 * (k : Int) + 1))).2) = 1)).1 (by (try dsimp only); omega) (by (try dsimp only); omega) ?_
          intro Gp14 p14
          rw [((⟨(vL_isHut (s := s) (x := (s (214 + 7 * (k : Int) + 0))) (y := (s (214 + 7 * (k : Int) + 1))) (by omega) (by omega)).1, (vL_isHut (s := s) (x := (s (214 + 7 * (k : Int) + 0))) (y := (s (214 + 7 * (k : Int) + 1))) (by omega) (by omega)).2.trans (zb_t (i2 hst))⟩ : (q_isHut s (s (214 + 7 * (k : Int) + 0)) (s (214 + 7 * (k : Int) + 1))).1 = 0 ∧ zN [3] ((q_isHut s (s (214 + 7 * (k : Int) + 0)) (s (214 + 7 * (k : Int) + 1))).1, gZ (q_isHut s (s (214 + 7 * (k : Int) + 0)) (s (214 + 7 * (k : Int) + 1))).2) = 1)).2]
          refine wi_iconst (pc' := 373) q343_372 rfl ?_
          refine wi_icmp_ne (t := 518) (pc' := 376) q343_373 (by decide) rfl (by omega) (by omega) (fun h19 => absurd h19 (by omega)) (fun h19 => ?_)
          refine wi_iload (i := 10) (pc' := 378) q343_376 rfl rfl ?_
          refine wi_if_eq (t := 386) (pc' := 381) q343_378 (by decide) rfl (by omega) (fun h20 => ?_) (fun h20 => absurd h20 (by omega))
          refine wi_iload (i := 8) (pc' := 388) q343_386 rfl rfl ?_
          refine wi_iconst (pc' := 389) q343_388 rfl ?_
          refine wi_icmp_eq (t := 403) (pc' := 392) q343_389 (by decide) rfl (by omega) (by omega) (fun h21 => absurd h21 (by omega)) (fun h21 => ?_)
          refine wi_aload_n (i := 0) (pc' := 393) q343_392 rfl rfl rfl ?_
          refine wi_bipush (pc' := 395) q343_393 rfl (by decide) ?_
          refine wi_iload (i := 5) (pc' := 397) q343_395 rfl rfl ?_
          refine wi_cv (u9 := (229, X)) (pc' := 400) wq343_397 rfl (cL_s2 (pL_hasTarget p14  (by omega)) zLc_i) (fun h => absurd h (by decide)) rfl rfl ((⟨(vL_hasTgt (s := s) (t := (k : Int)) (by omega)).1, (vL_hasTgt (s := s) (t := (k : Int)) (by omega)).2.trans (zb_f hnt)⟩ : (q_hasTarget s (k : Int)).1 = 0 ∧ zN [3] ((q_hasTarget s (k : Int)).1, gZ (q_hasTarget s (k : Int)).2) = 0)).1 (by (try dsimp only); omega) (by (try dsimp only); omega) ?_
          intro Gp15 p15
          rw [((⟨(vL_hasTgt (s := s) (t := (k : Int)) (by omega)).1, (vL_hasTgt (s := s) (t := (k : Int)) (by omega)).2.trans (zb_f hnt)⟩ : (q_hasTarget s (k : Int)).1 = 0 ∧ zN [3] ((q_hasTarget s (k : Int)).1, gZ (q_hasTarget s (k : Int)).2) = 0)).2]
          refine wi_if_ne (t := 518) (pc' := 403) q343_400 (by decide) rfl (by omega) (fun h22 => absurd h22 (by omega)) (fun h22 => ?_)
          refine wi_aload_n (i := 0) (pc' := 404) q343_403 rfl rfl rfl ?_
          refine wi_bipush (pc' := 406) q343_404 rfl (by decide) ?_
          refine wi_iload (i := 5) (pc' := 408) q343_406 rfl rfl ?_
          refine wi_cv (u9 := (229, X)) (pc' := 411) wq343_408 rfl (cL_s2 (pL_hasTarget p15  (by omega)) zLc_i) (fun h => absurd h (by decide)) rfl rfl ((⟨(vL_hasTgt (s := s) (t := (k : Int)) (by omega)).1, (vL_hasTgt (s := s) (t := (k : Int)) (by omega)).2.trans (zb_f hnt)⟩ : (q_hasTarget s (k : Int)).1 = 0 ∧ zN [3] ((q_hasTarget s (k : Int)).1, gZ (q_hasTarget s (k : Int)).2) = 0)).1 (by (try dsimp only); omega) (by (try dsimp only); omega) ?_
          intro Gp16 p16
          rw [((⟨(vL_hasTgt (s := s) (t := (k : Int)) (by omega)).1, (vL_hasTgt (s := s) (t := (k : Int)) (by omega)).2.trans (zb_f hnt)⟩ : (q_hasTarget s (k : Int)).1 = 0 ∧ zN [3] ((q_hasTarget s (k : Int)).1, gZ (q_hasTarget s (k : Int)).2) = 0)).2]
          refine wi_iconst (pc' := 412) q343_411 rfl ?_
          refine wi_icmp_ne (t := 429) (pc' := 415) q343_412 (by decide) rfl (by omega) (by omega) (fun h23 => ?_) (fun h23 => absurd h23 (by omega))
          refine wi_aload_n (i := 0) (pc' := 430) q343_429 rfl rfl rfl ?_
          refine wi_bipush (pc' := 432) q343_430 rfl (by decide) ?_
          refine wi_iload (i := 5) (pc' := 434) q343_432 rfl rfl ?_
          refine wi_cx (u9 := (229, X)) (pc' := 437) wq343_434 rfl (cL_s2 (pL_target p16  (by omega)) zLc_i) (fun h => absurd h (by decide)) rfl rfl (by (try dsimp only); omega) (by (try dsimp only); omega) ?_
          intro Gp17 p17
          rw [(vL_tgt (t := (k : Int)) p16.ok (by omega)).trans (if_pos (by omega))]
          refine wi_bipush (pc' := 439) q343_437 rfl (by decide) ?_
          refine wi_icmp_ne (t := 518) (pc' := 442) q343_439 (by decide) rfl (by omega) (by omega) (fun h24 => absurd h24 (by omega)) (fun h24 => ?_)
          refine wi_aload_n (i := 0) (pc' := 443) q343_442 rfl rfl rfl ?_
          refine wi_bipush (pc' := 445) q343_443 rfl (by decide) ?_
          refine wi_iload (i := 5) (pc' := 447) q343_445 rfl rfl ?_
          refine wi_cx (u9 := (229, X)) (pc' := 450) wq343_447 rfl (cL_s2 (pL_nearestLight p17  (by omega)) zLc_i) (fun h => absurd h (by decide)) rfl rfl (by (try dsimp only); omega) (by (try dsimp only); omega) ?_
          intro Gp18 p18
          rw [vL_near (t := (k : Int)) p17.ok (by omega)]
          refine tr_m (near_zr p18.ok) ?_
          refine wi_aload_n (i := 0) (pc' := 466) q343_465 rfl rfl rfl ?_
          refine wi_bipush (pc' := 468) q343_466 rfl (by decide) ?_
          refine wi_iload (i := 5) (pc' := 470) q343_468 rfl rfl ?_
          refine wi_aload_n (i := 0) (pc' := 471) q343_470 rfl rfl rfl ?_
          refine wi_cp (u9 := (229, X)) (pc' := 474) wq343_471 rfl (cQ_lightCount (Nat.le_refl _) p18.ok p18.hR) (fun _ => ⟨_, _, rfl⟩) rfl rfl (by (try dsimp only); omega) (by (try dsimp only); omega) ?_
          refine wi_cx (u9 := (229, X)) (pc' := 477) wq343_474 rfl (cL_s3 (pL_hasPassed p18  (by omega) (by omega)) zLc_i) (fun h => absurd h (by decide)) rfl rfl (by (try dsimp only); omega) (by (try dsimp only); omega) ?_
          intro Gp19 p19
          rw [vL_passedOut (s := s) (t := (k : Int)) (l := s 4) (fun h => by omega)]
          refine wi_bipush (pc' := 479) q343_477 rfl (by decide) ?_
          refine wi_icmp_ne (t := 518) (pc' := 482) q343_479 (by decide) rfl (by omega) (by omega) (fun h25 => absurd h25 (by omega)) (fun h25 => ?_)
          refine wi_iload (i := 8) (pc' := 484) q343_482 rfl rfl ?_
          refine wi_iconst (pc' := 485) q343_484 rfl ?_
          refine wi_icmp_eq (t := 514) (pc' := 488) q343_485 (by decide) rfl (by omega) (by omega) (fun h26 => absurd h26 (by omega)) (fun h26 => ?_)
          refine wi_aload_n (i := 0) (pc' := 489) q343_488 rfl rfl rfl ?_
          refine wi_bipush (pc' := 491) q343_489 rfl (by decide) ?_
          refine wi_iload (i := 5) (pc' := 493) q343_491 rfl rfl ?_
          refine wi_cx (u9 := (229, X)) (pc' := 496) wq343_493 rfl (cL_s2 (pL_ticksUntilDone p19 hT (by omega)) zLc_i) (fun h => absurd h (by decide)) rfl rfl (by (try dsimp only); omega) (by (try dsimp only); omega) ?_
          intro Gp20 p20
          rw [vL_untilSt (s := s) (t := (k : Int)) (by omega) (by omega)]
          refine wi_bipush (pc' := 498) q343_496 rfl (by decide) ?_
          refine wi_icmp_ne (t := 518) (pc' := 501) q343_498 (by decide) rfl (by omega) (by omega) (fun h27 => absurd h27 (by omega)) (fun h27 => ?_)
          refine wi_aload_n (i := 0) (pc' := 502) q343_501 rfl rfl rfl ?_
          refine wi_bipush (pc' := 504) q343_502 rfl (by decide) ?_
          refine wi_iload (i := 5) (pc' := 506) q343_504 rfl rfl ?_
          refine wi_cv (u9 := (229, X)) (pc' := 509) wq343_506 rfl (cL_s2 (pL_willArrive p20 hT (by omega)) zLc_i) (fun h => absurd h (by decide)) rfl rfl ((⟨(vL_will (t := (k : Int)) p20.ok hT (by omega) (by omega)).1, (vL_will (t := (k : Int)) p20.ok hT (by omega) (by omega)).2.trans (zb_t (by omega))⟩ : (q_willArrive s (sTicks s 300) (k : Int)).1 = 0 ∧ zN [3] ((q_willArrive s (sTicks s 300) (k : Int)).1, gZ (q_willArrive s (sTicks s 300) (k : Int)).2) = 1)).1 (by (try dsimp only); omega) (by (try dsimp only); omega) ?_
          intro Gp21 p21
          rw [((⟨(vL_will (t := (k : Int)) p20.ok hT (by omega) (by omega)).1, (vL_will (t := (k : Int)) p20.ok hT (by omega) (by omega)).2.trans (zb_t (by omega))⟩ : (q_willArrive s (sTicks s 300) (k : Int)).1 = 0 ∧ zN [3] ((q_willArrive s (sTicks s 300) (k : Int)).1, gZ (q_willArrive s (sTicks s 300) (k : Int)).2) = 1)).2]
          refine wi_iload (i := 9) (pc' := 511) q343_509 rfl rfl ?_
          refine wi_icmp_ne (t := 518) (pc' := 514) q343_511 (by decide) rfl (by omega) (by omega) (fun h28 => absurd h28 (by omega)) (fun h28 => ?_)
          refine wi_iconst (pc' := 515) q343_514 rfl ?_
          refine wi_goto (t := 519) q343_515 (by decide) ?_
          refine wi_istore4 (pc' := 521) q343_519 rfl rfl (Or.inr rfl) ?_
          refine wi_iinc5 (pc' := 524) q343_521 rfl rfl (Or.inr rfl) ?_
          refine wi_goto (t := 51) q343_524 (by decide) ?_
          refine wW_cd (c' := c + 4 * (k + 1)) (d' := d + 24 * (k + 1)) (by omega) (by omega) ?_
          rw [show ((k : Int) + 1) = ((k + 1 : Nat) : Int) by omega]
          exact ih (k + 1) _ _ _ _ _ _ _ _ _ _ _ _ _ _ (by omega) (by omega) p21 hY4 hD9
        · have hq2 := hst
          rw [show ((zb (s (214 + 7 * (k : Int) + 2) = 0)) : Int) = 0 from zb_f (by omega), show ((zb (s (214 + 7 * (k : Int) + 2) = 1)) : Int) = 0 from zb_f (by omega), show ((zb (s (214 + 7 * (k : Int) + 2) = 2)) : Int) = 1 from zb_t (by omega)]
          have hfl : flS s (k : Int) (s 4).toNat = 1 := by
            obtain ⟨l, b0, b1, b2, b3⟩ := i3 hst
            exact flS_on b0 b2 b3 _ (by omega)
          rw [hfl]
          have hnt : ¬ 0 ≤ s (214 + 7 * (k : Int) + 3) := by
            have := i1 (by omega)
            omega
          refine wi_iload (i := 4) (pc' := 342) q343_340 rfl rfl ?_
          refine wi_if_eq (t := 518) (pc' := 345) q343_342 (by decide) rfl (by omega) (fun h29 => absurd h29 (by omega)) (fun h29 => ?_)
          refine wi_iload (i := 8) (pc' := 347) q343_345 rfl rfl ?_
          refine wi_iload (i := 9) (pc' := 349) q343_347 rfl rfl ?_
          refine wi_iadd (pc' := 350) q343_349 rfl ?_
          refine wi_iload (i := 10) (pc' := 352) q343_350 rfl rfl ?_
          refine wi_iadd (pc' := 353) q343_352 rfl ?_
          refine wi_iconst (pc' := 354) q343_353 rfl ?_
          refine wi_icmp_ne (t := 518) (pc' := 357) q343_354 (by decide) rfl (by omega) (by omega) (fun h30 => absurd h30 (by omega)) (fun h30 => ?_)
          refine wi_iload (i := 9) (pc' := 359) q343_357 rfl rfl ?_
          refine wi_if_eq (t := 376) (pc' := 362) q343_359 (by decide) rfl (by omega) (fun h31 => ?_) (fun h31 => absurd h31 (by omega))
          refine wi_iload (i := 10) (pc' := 378) q343_376 rfl rfl ?_
          refine wi_if_eq (t := 386) (pc' := 381) q343_378 (by decide) rfl (by omega) (fun h32 => absurd h32 (by omega)) (fun h32 => ?_)
          refine wi_iload (i := 11) (pc' := 383) q343_381 rfl rfl ?_
          refine wi_if_eq (t := 518) (pc' := 386) q343_383 (by decide) rfl (by omega) (fun h33 => absurd h33 (by omega)) (fun h33 => ?_)
          refine wi_iload (i := 8) (pc' := 388) q343_386 rfl rfl ?_
          refine wi_iconst (pc' := 389) q343_388 rfl ?_
          refine wi_icmp_eq (t := 403) (pc' := 392) q343_389 (by decide) rfl (by omega) (by omega) (fun h34 => absurd h34 (by omega)) (fun h34 => ?_)
          refine wi_aload_n (i := 0) (pc' := 393) q343_392 rfl rfl rfl ?_
          refine wi_bipush (pc' := 395) q343_393 rfl (by decide) ?_
          refine wi_iload (i := 5) (pc' := 397) q343_395 rfl rfl ?_
          refine wi_cv (u9 := (229, X)) (pc' := 400) wq343_397 rfl (cL_s2 (pL_hasTarget p9  (by omega)) zLc_i) (fun h => absurd h (by decide)) rfl rfl ((⟨(vL_hasTgt (s := s) (t := (k : Int)) (by omega)).1, (vL_hasTgt (s := s) (t := (k : Int)) (by omega)).2.trans (zb_f hnt)⟩ : (q_hasTarget s (k : Int)).1 = 0 ∧ zN [3] ((q_hasTarget s (k : Int)).1, gZ (q_hasTarget s (k : Int)).2) = 0)).1 (by (try dsimp only); omega) (by (try dsimp only); omega) ?_
          intro Gp22 p22
          rw [((⟨(vL_hasTgt (s := s) (t := (k : Int)) (by omega)).1, (vL_hasTgt (s := s) (t := (k : Int)) (by omega)).2.trans (zb_f hnt)⟩ : (q_hasTarget s (k : Int)).1 = 0 ∧ zN [3] ((q_hasTarget s (k : Int)).1, gZ (q_hasTarget s (k : Int)).2) = 0)).2]
          refine wi_if_ne (t := 518) (pc' := 403) q343_400 (by decide) rfl (by omega) (fun h35 => absurd h35 (by omega)) (fun h35 => ?_)
          refine wi_aload_n (i := 0) (pc' := 404) q343_403 rfl rfl rfl ?_
          refine wi_bipush (pc' := 406) q343_404 rfl (by decide) ?_
          refine wi_iload (i := 5) (pc' := 408) q343_406 rfl rfl ?_
          refine wi_cv (u9 := (229, X)) (pc' := 411) wq343_408 rfl (cL_s2 (pL_hasTarget p22  (by omega)) zLc_i) (fun h => absurd h (by decide)) rfl rfl ((⟨(vL_hasTgt (s := s) (t := (k : Int)) (by omega)).1, (vL_hasTgt (s := s) (t := (k : Int)) (by omega)).2.trans (zb_f hnt)⟩ : (q_hasTarget s (k : Int)).1 = 0 ∧ zN [3] ((q_hasTarget s (k : Int)).1, gZ (q_hasTarget s (k : Int)).2) = 0)).1 (by (try dsimp only); omega) (by (try dsimp only); omega) ?_
          intro Gp23 p23
          rw [((⟨(vL_hasTgt (s := s) (t := (k : Int)) (by omega)).1, (vL_hasTgt (s := s) (t := (k : Int)) (by omega)).2.trans (zb_f hnt)⟩ : (q_hasTarget s (k : Int)).1 = 0 ∧ zN [3] ((q_hasTarget s (k : Int)).1, gZ (q_hasTarget s (k : Int)).2) = 0)).2]
          refine wi_iconst (pc' := 412) q343_411 rfl ?_
          refine wi_icmp_ne (t := 429) (pc' := 415) q343_412 (by decide) rfl (by omega) (by omega) (fun h36 => ?_) (fun h36 => absurd h36 (by omega))
          refine wi_aload_n (i := 0) (pc' := 430) q343_429 rfl rfl rfl ?_
          refine wi_bipush (pc' := 432) q343_430 rfl (by decide) ?_
          refine wi_iload (i := 5) (pc' := 434) q343_432 rfl rfl ?_
          refine wi_cx (u9 := (229, X)) (pc' := 437) wq343_434 rfl (cL_s2 (pL_target p23  (by omega)) zLc_i) (fun h => absurd h (by decide)) rfl rfl (by (try dsimp only); omega) (by (try dsimp only); omega) ?_
          intro Gp24 p24
          rw [(vL_tgt (t := (k : Int)) p23.ok (by omega)).trans (if_pos (by omega))]
          refine wi_bipush (pc' := 439) q343_437 rfl (by decide) ?_
          refine wi_icmp_ne (t := 518) (pc' := 442) q343_439 (by decide) rfl (by omega) (by omega) (fun h37 => absurd h37 (by omega)) (fun h37 => ?_)
          refine wi_aload_n (i := 0) (pc' := 443) q343_442 rfl rfl rfl ?_
          refine wi_bipush (pc' := 445) q343_443 rfl (by decide) ?_
          refine wi_iload (i := 5) (pc' := 447) q343_445 rfl rfl ?_
          refine wi_cx (u9 := (229, X)) (pc' := 450) wq343_447 rfl (cL_s2 (pL_nearestLight p24  (by omega)) zLc_i) (fun h => absurd h (by decide)) rfl rfl (by (try dsimp only); omega) (by (try dsimp only); omega) ?_
          intro Gp25 p25
          rw [vL_near (t := (k : Int)) p24.ok (by omega)]
          refine tr_m (near_zr p25.ok) ?_
          refine wi_aload_n (i := 0) (pc' := 466) q343_465 rfl rfl rfl ?_
          refine wi_bipush (pc' := 468) q343_466 rfl (by decide) ?_
          refine wi_iload (i := 5) (pc' := 470) q343_468 rfl rfl ?_
          refine wi_aload_n (i := 0) (pc' := 471) q343_470 rfl rfl rfl ?_
          refine wi_cp (u9 := (229, X)) (pc' := 474) wq343_471 rfl (cQ_lightCount (Nat.le_refl _) p25.ok p25.hR) (fun _ => ⟨_, _, rfl⟩) rfl rfl (by (try dsimp only); omega) (by (try dsimp only); omega) ?_
          refine wi_cx (u9 := (229, X)) (pc' := 477) wq343_474 rfl (cL_s3 (pL_hasPassed p25  (by omega) (by omega)) zLc_i) (fun h => absurd h (by decide)) rfl rfl (by (try dsimp only); omega) (by (try dsimp only); omega) ?_
          intro Gp26 p26
          rw [vL_passedOut (s := s) (t := (k : Int)) (l := s 4) (fun h => by omega)]
          refine wi_bipush (pc' := 479) q343_477 rfl (by decide) ?_
          refine wi_icmp_ne (t := 518) (pc' := 482) q343_479 (by decide) rfl (by omega) (by omega) (fun h38 => absurd h38 (by omega)) (fun h38 => ?_)
          refine wi_iload (i := 8) (pc' := 484) q343_482 rfl rfl ?_
          refine wi_iconst (pc' := 485) q343_484 rfl ?_
          refine wi_icmp_eq (t := 514) (pc' := 488) q343_485 (by decide) rfl (by omega) (by omega) (fun h39 => absurd h39 (by omega)) (fun h39 => ?_)
          refine wi_aload_n (i := 0) (pc' := 489) q343_488 rfl rfl rfl ?_
          refine wi_bipush (pc' := 491) q343_489 rfl (by decide) ?_
          refine wi_iload (i := 5) (pc' := 493) q343_491 rfl rfl ?_
          refine wi_cx (u9 := (229, X)) (pc' := 496) wq343_493 rfl (cL_s2 (pL_ticksUntilDone p26 hT (by omega)) zLc_i) (fun h => absurd h (by decide)) rfl rfl (by (try dsimp only); omega) (by (try dsimp only); omega) ?_
          intro Gp27 p27
          rw [vL_untilSt (s := s) (t := (k : Int)) (by omega) (by omega)]
          refine wi_bipush (pc' := 498) q343_496 rfl (by decide) ?_
          refine wi_icmp_ne (t := 518) (pc' := 501) q343_498 (by decide) rfl (by omega) (by omega) (fun h40 => absurd h40 (by omega)) (fun h40 => ?_)
          refine wi_aload_n (i := 0) (pc' := 502) q343_501 rfl rfl rfl ?_
          refine wi_bipush (pc' := 504) q343_502 rfl (by decide) ?_
          refine wi_iload (i := 5) (pc' := 506) q343_504 rfl rfl ?_
          refine wi_cv (u9 := (229, X)) (pc' := 509) wq343_506 rfl (cL_s2 (pL_willArrive p27 hT (by omega)) zLc_i) (fun h => absurd h (by decide)) rfl rfl ((⟨(vL_will (t := (k : Int)) p27.ok hT (by omega) (by omega)).1, (vL_will (t := (k : Int)) p27.ok hT (by omega) (by omega)).2.trans (zb_f (by omega))⟩ : (q_willArrive s (sTicks s 300) (k : Int)).1 = 0 ∧ zN [3] ((q_willArrive s (sTicks s 300) (k : Int)).1, gZ (q_willArrive s (sTicks s 300) (k : Int)).2) = 0)).1 (by (try dsimp only); omega) (by (try dsimp only); omega) ?_
          intro Gp28 p28
          rw [((⟨(vL_will (t := (k : Int)) p27.ok hT (by omega) (by omega)).1, (vL_will (t := (k : Int)) p27.ok hT (by omega) (by omega)).2.trans (zb_f (by omega))⟩ : (q_willArrive s (sTicks s 300) (k : Int)).1 = 0 ∧ zN [3] ((q_willArrive s (sTicks s 300) (k : Int)).1, gZ (q_willArrive s (sTicks s 300) (k : Int)).2) = 0)).2]
          refine wi_iload (i := 9) (pc' := 511) q343_509 rfl rfl ?_
          refine wi_icmp_ne (t := 518) (pc' := 514) q343_511 (by decide) rfl (by omega) (by omega) (fun h41 => absurd h41 (by omega)) (fun h41 => ?_)
          refine wi_iconst (pc' := 515) q343_514 rfl ?_
          refine wi_goto (t := 519) q343_515 (by decide) ?_
          refine wi_istore4 (pc' := 521) q343_519 rfl rfl (Or.inr rfl) ?_
          refine wi_iinc5 (pc' := 524) q343_521 rfl rfl (Or.inr rfl) ?_
          refine wi_goto (t := 51) q343_524 (by decide) ?_
          refine wW_cd (c' := c + 4 * (k + 1)) (d' := d + 24 * (k + 1)) (by omega) (by omega) ?_
          rw [show ((k : Int) + 1) = ((k + 1 : Nat) : Int) by omega]
          exact ih (k + 1) _ _ _ _ _ _ _ _ _ _ _ _ _ _ (by omega) (by omega) p28 hY4 hD9
