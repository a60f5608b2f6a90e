/-! The law's ticks(x, w), the whole. -/
theorem stS_rng {s : Int → Int} (hok : mOk s) {y k : Int} (hk : 0 ≤ k ∧ k < s 0) (hy : 0 ≤ y ∧ y < s 1) : 0 ≤ stS s y k ∧ stS s y k ≤ 9 := by
  have h := wOk_p (x := k) (y := y) hok hk hy
  unfold stS
  split <;> omega
theorem vL_after0 {s : Int → Int} {c : Int} (hok : mOk s) (h3 : s 3 ≤ 9999) : (q_after s 0 c).1 = 0 ∧ zN [1] ((q_after s 0 c).1, gI (q_after s 0 c).2) = sCount s c := vL_after (m := 0) hok h3 (by decide)
theorem q344_0 : decode (zbc 344) 0 = .ok (.aload_n 0, 1) := by decide +kernel
theorem q344_1 : decode (zbc 344) 1 = .ok (.invokestatic 301, 3) := by decide +kernel
theorem wk344_1 : wSC 344 1 339 1 none := wk_S q344_1 kx_1370 kx_1371 kx_31 kx_1372 ⟨by decide, by decide, by decide +kernel⟩ ⟨Nat.le_of_ble_eq_true rfl, Nat.le_of_ble_eq_true rfl⟩
theorem q344_4 : decode (zbc 344) 4 = .ok (.lstore_n 2, 1) := by decide +kernel
theorem q344_5 : decode (zbc 344) 5 = .ok (.iconst 1, 1) := by decide +kernel
theorem q344_6 : decode (zbc 344) 6 = .ok (.iload_n 1, 1) := by decide +kernel
theorem q344_7 : decode (zbc 344) 7 = .ok (.sipush 255, 3) := by decide +kernel
theorem q344_10 : decode (zbc 344) 10 = .ok (.iand, 1) := by decide +kernel
theorem q344_11 : decode (zbc 344) 11 = .ok (.bipush 30, 2) := by decide +kernel
theorem q344_13 : decode (zbc 344) 13 = .ok (.irem, 1) := by decide +kernel
theorem q344_14 : decode (zbc 344) 14 = .ok (.iadd, 1) := by decide +kernel
theorem q344_15 : decode (zbc 344) 15 = .ok (.istore 4, 2) := by decide +kernel
theorem q344_17 : decode (zbc 344) 17 = .ok (.aload_n 0, 1) := by decide +kernel
theorem q344_18 : decode (zbc 344) 18 = .ok (.bipush 45, 2) := by decide +kernel
theorem q344_20 : decode (zbc 344) 20 = .ok (.iload 4, 2) := by decide +kernel
theorem q344_22 : decode (zbc 344) 22 = .ok (.invokestatic 185, 3) := by decide +kernel
theorem wq344_22 {L9 : Nat} {xs9 : Nat → Int32} {N9 : Nat} : z_SC N9 znl zTs (zZ L9 xs9 N9) zyn zbc zrt zfr zlo (fun _ i => i) ztb 344 22 2 336 3 := sc_S (P := fun _ i => i) zTs_good q344_22 kx_545 kx_546 kx_31 kx_547 rfl ⟨by decide, by decide, by decide +kernel⟩ ⟨Nat.le_of_ble_eq_true rfl, Nat.le_of_ble_eq_true rfl⟩
theorem q344_25 : decode (zbc 344) 25 = .ok (.istore 5, 2) := by decide +kernel
theorem q344_27 : decode (zbc 344) 27 = .ok (.aload_n 0, 1) := by decide +kernel
theorem q344_28 : decode (zbc 344) 28 = .ok (.bipush 46, 2) := by decide +kernel
theorem q344_30 : decode (zbc 344) 30 = .ok (.iload 4, 2) := by decide +kernel
theorem q344_32 : decode (zbc 344) 32 = .ok (.invokestatic 185, 3) := by decide +kernel
theorem wq344_32 {L9 : Nat} {xs9 : Nat → Int32} {N9 : Nat} : z_SC N9 znl zTs (zZ L9 xs9 N9) zyn zbc zrt zfr zlo (fun _ i => i) ztb 344 32 2 336 3 := sc_S (P := fun _ i => i) zTs_good q344_32 kx_545 kx_546 kx_31 kx_547 rfl ⟨by decide, by decide, by decide +kernel⟩ ⟨Nat.le_of_ble_eq_true rfl, Nat.le_of_ble_eq_true rfl⟩
theorem q344_35 : decode (zbc 344) 35 = .ok (.istore 6, 2) := by decide +kernel
theorem q344_37 : decode (zbc 344) 37 = .ok (.aload_n 0, 1) := by decide +kernel
theorem q344_38 : decode (zbc 344) 38 = .ok (.invokevirtual 284, 3) := by decide +kernel
theorem wq344_38 {L9 : Nat} {xs9 : Nat → Int32} {N9 : Nat} : z_SC N9 znl zTs (zZ L9 xs9 N9) zyn zbc zrt zfr zlo (fun _ i => i) ztb 344 38 3 242 1 := sc_V (P := fun _ i => i) (n' := 0) zTs_good q344_38 kx_1413 kx_1414 kx_1415 kx_32 kx_1416 rfl ⟨by decide, by decide, by decide +kernel⟩ rfl ⟨Nat.le_of_ble_eq_true rfl, Nat.le_of_ble_eq_true rfl⟩
theorem q344_41 : decode (zbc 344) 41 = .ok (.istore 7, 2) := by decide +kernel
theorem q344_43 : decode (zbc 344) 43 = .ok (.aload_n 0, 1) := by decide +kernel
theorem q344_44 : decode (zbc 344) 44 = .ok (.invokevirtual 241, 3) := by decide +kernel
theorem wq344_44 {L9 : Nat} {xs9 : Nat → Int32} {N9 : Nat} : z_SC N9 znl zTs (zZ L9 xs9 N9) zyn zbc zrt zfr zlo (fun _ i => i) ztb 344 44 3 215 1 := sc_V (P := fun _ i => i) (n' := 0) zTs_good q344_44 kx_1375 kx_1376 kx_1377 kx_32 kx_1378 rfl ⟨by decide, by decide, by decide +kernel⟩ rfl ⟨Nat.le_of_ble_eq_true rfl, Nat.le_of_ble_eq_true rfl⟩
theorem q344_47 : decode (zbc 344) 47 = .ok (.istore 8, 2) := by decide +kernel
theorem q344_49 : decode (zbc 344) 49 = .ok (.sipush 144, 3) := by decide +kernel
theorem q344_52 : decode (zbc 344) 52 = .ok (.newarray .int, 2) := by decide +kernel
theorem q344_54 : decode (zbc 344) 54 = .ok (.astore 9, 2) := by decide +kernel
theorem q344_56 : decode (zbc 344) 56 = .ok (.iconst 0, 1) := by decide +kernel
theorem q344_57 : decode (zbc 344) 57 = .ok (.istore 10, 2) := by decide +kernel
theorem q344_131 : decode (zbc 344) 131 = .ok (.aload_n 0, 1) := by decide +kernel
theorem q344_132 : decode (zbc 344) 132 = .ok (.bipush 45, 2) := by decide +kernel
theorem q344_134 : decode (zbc 344) 134 = .ok (.iconst 0, 1) := by decide +kernel
theorem q344_135 : decode (zbc 344) 135 = .ok (.invokestatic 185, 3) := by decide +kernel
theorem wq344_135 {L9 : Nat} {xs9 : Nat → Int32} {N9 : Nat} : z_SC N9 znl zTs (zZ L9 xs9 N9) zyn zbc zrt zfr zlo (fun _ i => i) ztb 344 135 2 336 3 := sc_S (P := fun _ i => i) zTs_good q344_135 kx_545 kx_546 kx_31 kx_547 rfl ⟨by decide, by decide, by decide +kernel⟩ ⟨Nat.le_of_ble_eq_true rfl, Nat.le_of_ble_eq_true rfl⟩
theorem q344_138 : decode (zbc 344) 138 = .ok (.iload 7, 2) := by decide +kernel
theorem q344_140 : decode (zbc 344) 140 = .ok (.if_icmp .ne 91, 3) := by decide +kernel
theorem q344_143 : decode (zbc 344) 143 = .ok (.aload_n 0, 1) := by decide +kernel
theorem q344_144 : decode (zbc 344) 144 = .ok (.bipush 46, 2) := by decide +kernel
theorem q344_146 : decode (zbc 344) 146 = .ok (.iconst 0, 1) := by decide +kernel
theorem q344_147 : decode (zbc 344) 147 = .ok (.invokestatic 185, 3) := by decide +kernel
theorem wq344_147 {L9 : Nat} {xs9 : Nat → Int32} {N9 : Nat} : z_SC N9 znl zTs (zZ L9 xs9 N9) zyn zbc zrt zfr zlo (fun _ i => i) ztb 344 147 2 336 3 := sc_S (P := fun _ i => i) zTs_good q344_147 kx_545 kx_546 kx_31 kx_547 rfl ⟨by decide, by decide, by decide +kernel⟩ ⟨Nat.le_of_ble_eq_true rfl, Nat.le_of_ble_eq_true rfl⟩
theorem q344_150 : decode (zbc 344) 150 = .ok (.aload_n 0, 1) := by decide +kernel
theorem q344_151 : decode (zbc 344) 151 = .ok (.invokevirtual 287, 3) := by decide +kernel
theorem wq344_151 {L9 : Nat} {xs9 : Nat → Int32} {N9 : Nat} : z_SC N9 znl zTs (zZ L9 xs9 N9) zyn zbc zrt zfr zlo (fun _ i => i) ztb 344 151 3 243 1 := sc_V (P := fun _ i => i) (n' := 0) zTs_good q344_151 kx_1417 kx_1418 kx_1419 kx_32 kx_1420 rfl ⟨by decide, by decide, by decide +kernel⟩ rfl ⟨Nat.le_of_ble_eq_true rfl, Nat.le_of_ble_eq_true rfl⟩
theorem q344_154 : decode (zbc 344) 154 = .ok (.if_icmp .ne 77, 3) := by decide +kernel
theorem q344_157 : decode (zbc 344) 157 = .ok (.aload_n 0, 1) := by decide +kernel
theorem q344_158 : decode (zbc 344) 158 = .ok (.bipush 45, 2) := by decide +kernel
theorem q344_160 : decode (zbc 344) 160 = .ok (.sipush 301, 3) := by decide +kernel
theorem q344_163 : decode (zbc 344) 163 = .ok (.invokestatic 185, 3) := by decide +kernel
theorem wq344_163 {L9 : Nat} {xs9 : Nat → Int32} {N9 : Nat} : z_SC N9 znl zTs (zZ L9 xs9 N9) zyn zbc zrt zfr zlo (fun _ i => i) ztb 344 163 2 336 3 := sc_S (P := fun _ i => i) zTs_good q344_163 kx_545 kx_546 kx_31 kx_547 rfl ⟨by decide, by decide, by decide +kernel⟩ ⟨Nat.le_of_ble_eq_true rfl, Nat.le_of_ble_eq_true rfl⟩
theorem q344_166 : decode (zbc 344) 166 = .ok (.bipush (-103), 2) := by decide +kernel
theorem q344_168 : decode (zbc 344) 168 = .ok (.if_icmp .ne 63, 3) := by decide +kernel
theorem q344_171 : decode (zbc 344) 171 = .ok (.aload_n 0, 1) := by decide +kernel
theorem q344_172 : decode (zbc 344) 172 = .ok (.iconst 0, 1) := by decide +kernel
theorem q344_173 : decode (zbc 344) 173 = .ok (.iconst 0, 1) := by decide +kernel
theorem q344_174 : decode (zbc 344) 174 = .ok (.invokestatic 185, 3) := by decide +kernel
theorem wq344_174 {L9 : Nat} {xs9 : Nat → Int32} {N9 : Nat} : z_SC N9 znl zTs (zZ L9 xs9 N9) zyn zbc zrt zfr zlo (fun _ i => i) ztb 344 174 2 336 3 := sc_S (P := fun _ i => i) zTs_good q344_174 kx_545 kx_546 kx_31 kx_547 rfl ⟨by decide, by decide, by decide +kernel⟩ ⟨Nat.le_of_ble_eq_true rfl, Nat.le_of_ble_eq_true rfl⟩
theorem q344_177 : decode (zbc 344) 177 = .ok (.bipush (-103), 2) := by decide +kernel
theorem q344_179 : decode (zbc 344) 179 = .ok (.if_icmp .ne 52, 3) := by decide +kernel
theorem q344_182 : decode (zbc 344) 182 = .ok (.aload_n 0, 1) := by decide +kernel
theorem q344_183 : decode (zbc 344) 183 = .ok (.iconst 0, 1) := by decide +kernel
theorem q344_184 : decode (zbc 344) 184 = .ok (.iload 4, 2) := by decide +kernel
theorem q344_186 : decode (zbc 344) 186 = .ok (.invokestatic 185, 3) := by decide +kernel
theorem wq344_186 {L9 : Nat} {xs9 : Nat → Int32} {N9 : Nat} : z_SC N9 znl zTs (zZ L9 xs9 N9) zyn zbc zrt zfr zlo (fun _ i => i) ztb 344 186 2 336 3 := sc_S (P := fun _ i => i) zTs_good q344_186 kx_545 kx_546 kx_31 kx_547 rfl ⟨by decide, by decide, by decide +kernel⟩ ⟨Nat.le_of_ble_eq_true rfl, Nat.le_of_ble_eq_true rfl⟩
theorem q344_189 : decode (zbc 344) 189 = .ok (.iload 5, 2) := by decide +kernel
theorem q344_191 : decode (zbc 344) 191 = .ok (.iload 7, 2) := by decide +kernel
theorem q344_193 : decode (zbc 344) 193 = .ok (.isub, 1) := by decide +kernel
theorem q344_194 : decode (zbc 344) 194 = .ok (.if_icmp .ne 37, 3) := by decide +kernel
theorem q344_197 : decode (zbc 344) 197 = .ok (.aload_n 0, 1) := by decide +kernel
theorem q344_198 : decode (zbc 344) 198 = .ok (.invokevirtual 284, 3) := by decide +kernel
theorem wq344_198 {L9 : Nat} {xs9 : Nat → Int32} {N9 : Nat} : z_SC N9 znl zTs (zZ L9 xs9 N9) zyn zbc zrt zfr zlo (fun _ i => i) ztb 344 198 3 242 1 := sc_V (P := fun _ i => i) (n' := 0) zTs_good q344_198 kx_1413 kx_1414 kx_1415 kx_32 kx_1416 rfl ⟨by decide, by decide, by decide +kernel⟩ rfl ⟨Nat.le_of_ble_eq_true rfl, Nat.le_of_ble_eq_true rfl⟩
theorem q344_201 : decode (zbc 344) 201 = .ok (.iload 5, 2) := by decide +kernel
theorem q344_203 : decode (zbc 344) 203 = .ok (.if_icmp .ne 28, 3) := by decide +kernel
theorem q344_206 : decode (zbc 344) 206 = .ok (.aload_n 0, 1) := by decide +kernel
theorem q344_207 : decode (zbc 344) 207 = .ok (.invokevirtual 287, 3) := by decide +kernel
theorem wq344_207 {L9 : Nat} {xs9 : Nat → Int32} {N9 : Nat} : z_SC N9 znl zTs (zZ L9 xs9 N9) zyn zbc zrt zfr zlo (fun _ i => i) ztb 344 207 3 243 1 := sc_V (P := fun _ i => i) (n' := 0) zTs_good q344_207 kx_1417 kx_1418 kx_1419 kx_32 kx_1420 rfl ⟨by decide, by decide, by decide +kernel⟩ rfl ⟨Nat.le_of_ble_eq_true rfl, Nat.le_of_ble_eq_true rfl⟩
theorem q344_210 : decode (zbc 344) 210 = .ok (.iload 6, 2) := by decide +kernel
theorem q344_212 : decode (zbc 344) 212 = .ok (.if_icmp .ne 19, 3) := by decide +kernel
theorem q344_215 : decode (zbc 344) 215 = .ok (.aload_n 0, 1) := by decide +kernel
theorem q344_216 : decode (zbc 344) 216 = .ok (.invokevirtual 241, 3) := by decide +kernel
theorem wq344_216 {L9 : Nat} {xs9 : Nat → Int32} {N9 : Nat} : z_SC N9 znl zTs (zZ L9 xs9 N9) zyn zbc zrt zfr zlo (fun _ i => i) ztb 344 216 3 215 1 := sc_V (P := fun _ i => i) (n' := 0) zTs_good q344_216 kx_1375 kx_1376 kx_1377 kx_32 kx_1378 rfl ⟨by decide, by decide, by decide +kernel⟩ rfl ⟨Nat.le_of_ble_eq_true rfl, Nat.le_of_ble_eq_true rfl⟩
theorem q344_219 : decode (zbc 344) 219 = .ok (.iload 8, 2) := by decide +kernel
theorem q344_221 : decode (zbc 344) 221 = .ok (.iload 4, 2) := by decide +kernel
theorem q344_223 : decode (zbc 344) 223 = .ok (.iadd, 1) := by decide +kernel
theorem q344_224 : decode (zbc 344) 224 = .ok (.if_icmp .ne 7, 3) := by decide +kernel
theorem q344_227 : decode (zbc 344) 227 = .ok (.iconst 1, 1) := by decide +kernel
theorem q344_228 : decode (zbc 344) 228 = .ok (.goto 4, 3) := by decide +kernel
theorem q344_232 : decode (zbc 344) 232 = .ok (.istore 10, 2) := by decide +kernel
theorem q344_234 : decode (zbc 344) 234 = .ok (.iconst 0, 1) := by decide +kernel
theorem q344_235 : decode (zbc 344) 235 = .ok (.istore 11, 2) := by decide +kernel
theorem q344_363 : decode (zbc 344) 363 = .ok (.iload 10, 2) := by decide +kernel
theorem q344_365 : decode (zbc 344) 365 = .ok (.ifCond .eq 26, 3) := by decide +kernel
theorem q344_368 : decode (zbc 344) 368 = .ok (.aload_n 0, 1) := by decide +kernel
theorem q344_369 : decode (zbc 344) 369 = .ok (.bipush 9, 2) := by decide +kernel
theorem q344_371 : decode (zbc 344) 371 = .ok (.iconst 0, 1) := by decide +kernel
theorem q344_372 : decode (zbc 344) 372 = .ok (.invokestatic 185, 3) := by decide +kernel
theorem wq344_372 {L9 : Nat} {xs9 : Nat → Int32} {N9 : Nat} : z_SC N9 znl zTs (zZ L9 xs9 N9) zyn zbc zrt zfr zlo (fun _ i => i) ztb 344 372 2 336 3 := sc_S (P := fun _ i => i) zTs_good q344_372 kx_545 kx_546 kx_31 kx_547 rfl ⟨by decide, by decide, by decide +kernel⟩ ⟨Nat.le_of_ble_eq_true rfl, Nat.le_of_ble_eq_true rfl⟩
theorem q344_375 : decode (zbc 344) 375 = .ok (.ifCond .lt 16, 3) := by decide +kernel
theorem q344_378 : decode (zbc 344) 378 = .ok (.aload_n 0, 1) := by decide +kernel
theorem q344_379 : decode (zbc 344) 379 = .ok (.invokestatic 301, 3) := by decide +kernel
theorem wk344_379 : wSC 344 379 339 1 none := wk_S q344_379 kx_1370 kx_1371 kx_31 kx_1372 ⟨by decide, by decide, by decide +kernel⟩ ⟨Nat.le_of_ble_eq_true rfl, Nat.le_of_ble_eq_true rfl⟩
theorem q344_382 : decode (zbc 344) 382 = .ok (.lload_n 2, 1) := by decide +kernel
theorem q344_383 : decode (zbc 344) 383 = .ok (.lcmp, 1) := by decide +kernel
theorem q344_384 : decode (zbc 344) 384 = .ok (.ifCond .ne 7, 3) := by decide +kernel
theorem q344_387 : decode (zbc 344) 387 = .ok (.iconst 1, 1) := by decide +kernel
theorem q344_388 : decode (zbc 344) 388 = .ok (.goto 4, 3) := by decide +kernel
theorem q344_392 : decode (zbc 344) 392 = .ok (.istore 10, 2) := by decide +kernel
theorem q344_394 : decode (zbc 344) 394 = .ok (.iconst 0, 1) := by decide +kernel
theorem q344_395 : decode (zbc 344) 395 = .ok (.istore 11, 2) := by decide +kernel
theorem q344_588 : decode (zbc 344) 588 = .ok (.aload_n 0, 1) := by decide +kernel
theorem q344_589 : decode (zbc 344) 589 = .ok (.invokevirtual 305, 3) := by decide +kernel
theorem kx_1437 : Cond.methodLink "FalseLightMarshLaw" 305 yX8_bestClearness ∈ zTs := z_in (i := 1437) (by decide +kernel) (by decide +kernel)
theorem kx_1438 : Cond.instanceMethod yX8_bestClearness ∈ zTs := z_in (i := 1438) (by decide +kernel) (by decide +kernel)
theorem kx_1439 : Cond.selects "FalseLightMarsh" yX8_bestClearness yX8_bestClearness ∈ zTs := z_in (i := 1439) (by decide +kernel) (by decide +kernel)
theorem kx_1440 : Cond.code yX8_bestClearness cX8_bestClearness 5 (some .int) ∈ zTs := z_in (i := 1440) (by decide +kernel) (by decide +kernel)
theorem wq344_589 {L9 : Nat} {xs9 : Nat → Int32} {N9 : Nat} : z_SC N9 znl zTs (zZ L9 xs9 N9) zyn zbc zrt zfr zlo (fun _ i => i) ztb 344 589 3 250 1 := sc_V (P := fun _ i => i) (n' := 0) zTs_good q344_589 kx_1437 kx_1438 kx_1439 kx_32 kx_1440 rfl ⟨by decide, by decide, by decide +kernel⟩ rfl ⟨Nat.le_of_ble_eq_true rfl, Nat.le_of_ble_eq_true rfl⟩
theorem q344_592 : decode (zbc 344) 592 = .ok (.istore 11, 2) := by decide +kernel
theorem q344_594 : decode (zbc 344) 594 = .ok (.iload 10, 2) := by decide +kernel
theorem q344_596 : decode (zbc 344) 596 = .ok (.ifCond .eq 30, 3) := by decide +kernel
theorem q344_599 : decode (zbc 344) 599 = .ok (.iload 11, 2) := by decide +kernel
theorem q344_601 : decode (zbc 344) 601 = .ok (.ifCond .lt 25, 3) := by decide +kernel
theorem q344_604 : decode (zbc 344) 604 = .ok (.iload 11, 2) := by decide +kernel
theorem q344_606 : decode (zbc 344) 606 = .ok (.bipush 20, 2) := by decide +kernel
theorem q344_608 : decode (zbc 344) 608 = .ok (.if_icmp .gt 18, 3) := by decide +kernel
theorem q344_611 : decode (zbc 344) 611 = .ok (.aload_n 0, 1) := by decide +kernel
theorem q344_612 : decode (zbc 344) 612 = .ok (.bipush 6, 2) := by decide +kernel
theorem q344_614 : decode (zbc 344) 614 = .ok (.iload 11, 2) := by decide +kernel
theorem q344_616 : decode (zbc 344) 616 = .ok (.invokestatic 185, 3) := by decide +kernel
theorem wq344_616 {L9 : Nat} {xs9 : Nat → Int32} {N9 : Nat} : z_SC N9 znl zTs (zZ L9 xs9 N9) zyn zbc zrt zfr zlo (fun _ i => i) ztb 344 616 2 336 3 := sc_S (P := fun _ i => i) zTs_good q344_616 kx_545 kx_546 kx_31 kx_547 rfl ⟨by decide, by decide, by decide +kernel⟩ ⟨Nat.le_of_ble_eq_true rfl, Nat.le_of_ble_eq_true rfl⟩
theorem q344_619 : decode (zbc 344) 619 = .ok (.ifCond .lt 7, 3) := by decide +kernel
theorem q344_622 : decode (zbc 344) 622 = .ok (.iconst 1, 1) := by decide +kernel
theorem q344_623 : decode (zbc 344) 623 = .ok (.goto 4, 3) := by decide +kernel
theorem q344_627 : decode (zbc 344) 627 = .ok (.istore 10, 2) := by decide +kernel
theorem q344_629 : decode (zbc 344) 629 = .ok (.aload_n 0, 1) := by decide +kernel
theorem q344_630 : decode (zbc 344) 630 = .ok (.bipush 45, 2) := by decide +kernel
theorem q344_632 : decode (zbc 344) 632 = .ok (.sipush 300, 3) := by decide +kernel
theorem q344_635 : decode (zbc 344) 635 = .ok (.invokestatic 185, 3) := by decide +kernel
theorem wq344_635 {L9 : Nat} {xs9 : Nat → Int32} {N9 : Nat} : z_SC N9 znl zTs (zZ L9 xs9 N9) zyn zbc zrt zfr zlo (fun _ i => i) ztb 344 635 2 336 3 := sc_S (P := fun _ i => i) zTs_good q344_635 kx_545 kx_546 kx_31 kx_547 rfl ⟨by decide, by decide, by decide +kernel⟩ ⟨Nat.le_of_ble_eq_true rfl, Nat.le_of_ble_eq_true rfl⟩
theorem q344_638 : decode (zbc 344) 638 = .ok (.istore 12, 2) := by decide +kernel
theorem q344_640 : decode (zbc 344) 640 = .ok (.iload 10, 2) := by decide +kernel
theorem q344_642 : decode (zbc 344) 642 = .ok (.ifCond .eq 17, 3) := by decide +kernel
theorem q344_645 : decode (zbc 344) 645 = .ok (.aload_n 0, 1) := by decide +kernel
theorem q344_646 : decode (zbc 344) 646 = .ok (.bipush 9, 2) := by decide +kernel
theorem q344_648 : decode (zbc 344) 648 = .ok (.iconst 0, 1) := by decide +kernel
theorem q344_649 : decode (zbc 344) 649 = .ok (.invokestatic 185, 3) := by decide +kernel
theorem wq344_649 {L9 : Nat} {xs9 : Nat → Int32} {N9 : Nat} : z_SC N9 znl zTs (zZ L9 xs9 N9) zyn zbc zrt zfr zlo (fun _ i => i) ztb 344 649 2 336 3 := sc_S (P := fun _ i => i) zTs_good q344_649 kx_545 kx_546 kx_31 kx_547 rfl ⟨by decide, by decide, by decide +kernel⟩ ⟨Nat.le_of_ble_eq_true rfl, Nat.le_of_ble_eq_true rfl⟩
theorem q344_652 : decode (zbc 344) 652 = .ok (.ifCond .lt 7, 3) := by decide +kernel
theorem q344_655 : decode (zbc 344) 655 = .ok (.iconst 1, 1) := by decide +kernel
theorem q344_656 : decode (zbc 344) 656 = .ok (.goto 4, 3) := by decide +kernel
theorem q344_660 : decode (zbc 344) 660 = .ok (.istore 10, 2) := by decide +kernel
theorem q344_662 : decode (zbc 344) 662 = .ok (.iload_n 1, 1) := by decide +kernel
theorem q344_663 : decode (zbc 344) 663 = .ok (.bipush 8, 2) := by decide +kernel
theorem q344_665 : decode (zbc 344) 665 = .ok (.ishr, 1) := by decide +kernel
theorem q344_666 : decode (zbc 344) 666 = .ok (.iconst 3, 1) := by decide +kernel
theorem q344_667 : decode (zbc 344) 667 = .ok (.iand, 1) := by decide +kernel
theorem q344_668 : decode (zbc 344) 668 = .ok (.istore 13, 2) := by decide +kernel
theorem q344_763 : decode (zbc 344) 763 = .ok (.iload 10, 2) := by decide +kernel
theorem q344_765 : decode (zbc 344) 765 = .ok (.ifCond .eq 16, 3) := by decide +kernel
theorem q344_768 : decode (zbc 344) 768 = .ok (.aload_n 0, 1) := by decide +kernel
theorem q344_769 : decode (zbc 344) 769 = .ok (.invokestatic 301, 3) := by decide +kernel
theorem wk344_769 : wSC 344 769 339 1 none := wk_S q344_769 kx_1370 kx_1371 kx_31 kx_1372 ⟨by decide, by decide, by decide +kernel⟩ ⟨Nat.le_of_ble_eq_true rfl, Nat.le_of_ble_eq_true rfl⟩
theorem q344_772 : decode (zbc 344) 772 = .ok (.lload_n 2, 1) := by decide +kernel
theorem q344_773 : decode (zbc 344) 773 = .ok (.lcmp, 1) := by decide +kernel
theorem q344_774 : decode (zbc 344) 774 = .ok (.ifCond .ne 7, 3) := by decide +kernel
theorem q344_777 : decode (zbc 344) 777 = .ok (.iconst 1, 1) := by decide +kernel
theorem q344_778 : decode (zbc 344) 778 = .ok (.goto 4, 3) := by decide +kernel
theorem q344_782 : decode (zbc 344) 782 = .ok (.ireturn, 1) := by decide +kernel
theorem cS_ticks {X : Nat × (Nat → Int32)} {B : Int} {sv : Nat → Int → Int} {u : Int} {h : Nat → Int → Int} {s : Int → Int} {G F : GM} {Y : DY} {w : Int} (hs3 : s 3 + 100 ≤ B) (hB : B ≤ 9999) (p : PG B sv u h s G) : wC (229, X) 344 27 300 [.ref 192, .int (zi w)] G F Y (fun o G' F' Y' => o = some (.int (zi 1)) ∧ F = F' ∧ PG B sv (min u 7) h s G' ∧ Yfr Y Y') := by
  refine w_met (L0 := [.ref 192, .int (zi w), .null, .null, .null, .null, .null, .null, .null, .null, .null, .null, .null, .null, .null]) (by decide +kernel) rfl rfl ?_
  have a0 := p.ok.1
  have a1 := p.ok.2.1
  have a2 := p.ok.2.2.1
  have a3 := p.ok.2.2.2.1
  have a5 := p.ok.2.2.2.2.2.1
  have u8 := p.u8
  have r8 := sCount_rng s 1 a5
  have r9 := sCount_rng s 2 a5
  have hT : s 3 ≤ 9999 := by omega
  have e1 := zand_255 w
  refine wi_aload_n (i := 0) (pc' := 1) q344_0 rfl rfl rfl ?_
  refine wi_call (pc' := 4) wk344_1 rfl (cS_state p) rfl (Nat.le_of_ble_eq_true rfl) (Nat.le_of_ble_eq_true rfl) (by (try dsimp only); omega) (by (try dsimp only); omega) (wrv_n) ?_
  rintro o9 G9 F9 Y9 ⟨rfl, q1, rfl, rfl⟩ hle9
  refine wi_lstore2 (pc' := 5) q344_4 rfl rfl rfl rfl (Or.inr rfl) ?_
  refine wi_iconst (pc' := 6) q344_5 rfl ?_
  refine wi_iload_n (i := 1) (pc' := 7) q344_6 rfl rfl rfl ?_
  refine wi_sipush (pc' := 10) q344_7 rfl (by decide) ?_
  refine wi_iand (pc' := 11) q344_10 rfl ?_
  refine wi_bipush (pc' := 13) q344_11 rfl (by decide) ?_
  refine wi_irem (pc' := 14) q344_13 rfl (by omega) (by omega) ?_
  refine wi_iadd (pc' := 15) q344_14 rfl ?_
  have hm : 1 ≤ 1 + zand w 255 % 30 ∧ 1 + zand w 255 % 30 ≤ 30 := by omega
  generalize 1 + zand w 255 % 30 = m at hm ⊢
  refine wi_istore4 (pc' := 17) q344_15 rfl rfl (Or.inr rfl) ?_
  refine wi_aload_n (i := 0) (pc' := 18) q344_17 rfl rfl rfl ?_
  refine wi_bipush (pc' := 20) q344_18 rfl (by decide) ?_
  refine wi_iload (i := 4) (pc' := 22) q344_20 rfl rfl ?_
  refine wi_cv (u9 := (229, X)) (pc' := 25) wq344_22 rfl (cL_s2 (pL_arrivedAfter q1 hT (by omega)) zLc_i) (fun h => absurd h (by decide)) rfl rfl (vL_after (c := 1) q1.ok hT (m := m) ⟨by omega, by omega⟩).1 (by (try dsimp only); omega) (by (try dsimp only); omega) ?_
  intro G9 hx
  rw [(vL_after (c := 1) q1.ok hT (m := m) ⟨by omega, by omega⟩).2]
  have q22 := hx
  clear hx
  refine wi_istore5 (pc' := 27) q344_25 rfl rfl (Or.inr rfl) ?_
  refine wi_aload_n (i := 0) (pc' := 28) q344_27 rfl rfl rfl ?_
  refine wi_bipush (pc' := 30) q344_28 rfl (by decide) ?_
  refine wi_iload (i := 4) (pc' := 32) q344_30 rfl rfl ?_
  refine wi_cv (u9 := (229, X)) (pc' := 35) wq344_32 rfl (cL_s2 (pL_sunkAfter q22 hT (by omega)) zLc_i) (fun h => absurd h (by decide)) rfl rfl (vL_after (c := 2) q22.ok hT (m := m) ⟨by omega, by omega⟩).1 (by (try dsimp only); omega) (by (try dsimp only); omega) ?_
  intro G9 hx
  rw [(vL_after (c := 2) q22.ok hT (m := m) ⟨by omega, by omega⟩).2]
  have q32 := hx
  clear hx
  refine wi_istore6 (pc' := 37) q344_35 rfl rfl (Or.inr rfl) ?_
  refine wi_aload_n (i := 0) (pc' := 38) q344_37 rfl rfl rfl ?_
  refine wi_cp (u9 := (229, X)) (pc' := 41) wq344_38 rfl (cQ_arrivedCount (Nat.le_refl _) q32.ok q32.hR) (fun _ => ⟨_, _, rfl⟩) rfl rfl (by (try dsimp only); omega) (by (try dsimp only); omega) ?_
  refine wi_istore7 (pc' := 43) q344_41 rfl rfl (Or.inr rfl) ?_
  refine wi_aload_n (i := 0) (pc' := 44) q344_43 rfl rfl rfl ?_
  refine wi_cp (u9 := (229, X)) (pc' := 47) wq344_44 rfl (cQ_time (Nat.le_refl _) q32.ok q32.hR) (fun _ => ⟨_, _, rfl⟩) rfl rfl (by (try dsimp only); omega) (by (try dsimp only); omega) ?_
  refine wi_istore8 (pc' := 49) q344_47 rfl rfl (Or.inr rfl) ?_
  refine wi_sipush (pc' := 52) q344_49 rfl (by decide) ?_
  refine wi_newI (n := 144) (pc' := 54) q344_52 rfl kw_103 rfl (by decide) (by (try dsimp only); omega) (by (try dsimp only); omega) ?_
  refine wi_astore9 (pc' := 56) q344_54 rfl rfl (Or.inr rfl) ?_
  refine wi_iconst (pc' := 57) q344_56 rfl ?_
  refine wi_istore10 (pc' := 59) q344_57 rfl rfl (Or.inr rfl) ?_
  refine tk_o (Y0 := Y) (by (try dsimp only); omega) (by (try dsimp only); omega) ?_ 99 0 _ _ _ _ (by omega) (by omega) q32 wFa_new (fun yy kk k0 k1 y0 y1 hq => by omega)
  intro G8 D Y8 k1 a11 hk1 p8 har hS
  obtain ⟨s1, hs1⟩ : ∃ s1, s1 = sTicks s m.toNat := ⟨_, rfl⟩
  rw [← hs1]
  refine wi_aload_n (i := 0) (pc' := 132) q344_131 rfl rfl rfl ?_
  refine wi_bipush (pc' := 134) q344_132 rfl (by decide) ?_
  refine wi_iconst (pc' := 135) q344_134 rfl ?_
  refine wi_cv (u9 := (229, X)) (pc' := 138) wq344_135 rfl (cL_s2 (pL_arrivedAfter p8 hT (by omega)) zLc_i) (fun h => absurd h (by decide)) rfl rfl (vL_after0 (c := 1) p8.ok hT).1 (by (try dsimp only); omega) (by (try dsimp only); omega) ?_
  intro G9 hx
  rw [(vL_after0 (c := 1) p8.ok hT).2]
  have q135 := hx
  clear hx
  refine wi_iload (i := 7) (pc' := 140) q344_138 rfl rfl ?_
  refine wi_icmp_ne (t := 231) (pc' := 143) q344_140 (by decide) rfl (by omega) (by omega) (fun h1 => absurd h1 (by omega)) (fun h1 => ?_)
  refine wi_aload_n (i := 0) (pc' := 144) q344_143 rfl rfl rfl ?_
  refine wi_bipush (pc' := 146) q344_144 rfl (by decide) ?_
  refine wi_iconst (pc' := 147) q344_146 rfl ?_
  refine wi_cv (u9 := (229, X)) (pc' := 150) wq344_147 rfl (cL_s2 (pL_sunkAfter q135 hT (by omega)) zLc_i) (fun h => absurd h (by decide)) rfl rfl (vL_after0 (c := 2) q135.ok hT).1 (by (try dsimp only); omega) (by (try dsimp only); omega) ?_
  intro G9 hx
  rw [(vL_after0 (c := 2) q135.ok hT).2]
  have q147 := hx
  clear hx
  refine wi_aload_n (i := 0) (pc' := 151) q344_150 rfl rfl rfl ?_
  refine wi_cp (u9 := (229, X)) (pc' := 154) wq344_151 rfl (cQ_sunkCount (Nat.le_refl _) q147.ok q147.hR) (fun _ => ⟨_, _, rfl⟩) rfl rfl (by (try dsimp only); omega) (by (try dsimp only); omega) ?_
  refine wi_icmp_ne (t := 231) (pc' := 157) q344_154 (by decide) rfl (by omega) (by omega) (fun h2 => absurd h2 (by omega)) (fun h2 => ?_)
  refine wi_aload_n (i := 0) (pc' := 158) q344_157 rfl rfl rfl ?_
  refine wi_bipush (pc' := 160) q344_158 rfl (by decide) ?_
  refine wi_sipush (pc' := 163) q344_160 rfl (by decide) ?_
  refine wi_cx (u9 := (229, X)) (pc' := 166) wq344_163 rfl (cL_s2 (pL_arrivedAfter q147 hT (by omega)) zLc_i) (fun h => absurd h (by decide)) rfl rfl (by (try dsimp only); omega) (by (try dsimp only); omega) ?_
  intro Gp1 p1
  rw [vL_afterBad (s := s) (m := 301) (c := 1) (by decide)]
  refine wi_bipush (pc' := 168) q344_166 rfl (by decide) ?_
  refine wi_icmp_ne (t := 231) (pc' := 171) q344_168 (by decide) rfl (by omega) (by omega) (fun h3 => absurd h3 (by omega)) (fun h3 => ?_)
  refine wi_aload_n (i := 0) (pc' := 172) q344_171 rfl rfl rfl ?_
  refine wi_iconst (pc' := 173) q344_172 rfl ?_
  refine wi_iconst (pc' := 174) q344_173 rfl ?_
  refine wi_cx (u9 := (229, X)) (pc' := 177) wq344_174 rfl (cL_s2 (pC_tick p1 (q := 0) (B' := B) (by omega) (Int.le_refl _) (fun _ _ _ => by omega) (by omega)) zLc_i) (fun h => absurd h (by decide)) rfl rfl (by (try dsimp only); omega) (by (try dsimp only); omega) ?_
  intro G9 hx
  rw [(vL_tickBad (s := s) (q := 0) (by decide)).2]
  have q174 := PGc_no hx (by rw [(vL_tickBad (s := s) (q := 0) (by decide)).1]; decide)
  clear hx
  refine wi_bipush (pc' := 179) q344_177 rfl (by decide) ?_
  refine wi_icmp_ne (t := 231) (pc' := 182) q344_179 (by decide) rfl (by omega) (by omega) (fun h4 => absurd h4 (by omega)) (fun h4 => ?_)
  refine wi_aload_n (i := 0) (pc' := 183) q344_182 rfl rfl rfl ?_
  refine wi_iconst (pc' := 184) q344_183 rfl ?_
  refine wi_iload (i := 4) (pc' := 186) q344_184 rfl rfl ?_
  refine wi_cv (u9 := (229, X)) (pc' := 189) wq344_186 rfl (cL_s2 (pC_tick q174 (q := m) (B' := B) (by omega) (Int.le_refl _) (fun _ _ _ => by omega) (by omega)) zLc_i) (fun h => absurd h (by decide)) rfl rfl (vL_tickOk (q := m) q174.ok ⟨by omega, by omega⟩ (by omega)).1 (by (try dsimp only); omega) (by (try dsimp only); omega) ?_
  intro G9 hx
  rw [(vL_tickOk (q := m) q174.ok ⟨by omega, by omega⟩ (by omega)).2]
  rw [← hs1]
  have p9 : PG B sv (min (u + 1) 8) (hcons s h) s1 G9 := by
    rw [hs1]
    exact PGc_yes hx (vL_tickOk (q := m) q174.ok ⟨by omega, by omega⟩ (by omega)).1
  clear hx
  have e5 : s1 5 = s 5 := by rw [hs1]; exact sTicks_5 q174.ok (by omega)
  have e3 : s1 3 = s 3 + m := by
    rw [hs1, sTicks_3 q174.ok (by omega)]
    omega
  obtain ⟨e0, e1⟩ : s1 0 = s 0 ∧ s1 1 = s 1 := by rw [hs1]; exact sTicks_01 q174.ok (by omega)
  have r1 := sCount_rng s1 1 (by omega)
  have r2 := sCount_rng s1 2 (by omega)
  have r3 := sCount_rng s 1 (by omega)
  refine wi_iload (i := 5) (pc' := 191) q344_189 rfl rfl ?_
  refine wi_iload (i := 7) (pc' := 193) q344_191 rfl rfl ?_
  refine wi_isub (pc' := 194) q344_193 rfl ?_
  refine wi_icmp_ne (t := 231) (pc' := 197) q344_194 (by decide) rfl (by omega) (by omega) (fun h5 => absurd h5 (by omega)) (fun h5 => ?_)
  refine wi_aload_n (i := 0) (pc' := 198) q344_197 rfl rfl rfl ?_
  refine wi_cp (u9 := (229, X)) (pc' := 201) wq344_198 rfl (cQ_arrivedCount (Nat.le_refl _) p9.ok p9.hR) (fun _ => ⟨_, _, rfl⟩) rfl rfl (by (try dsimp only); omega) (by (try dsimp only); omega) ?_
  refine wi_iload (i := 5) (pc' := 203) q344_201 rfl rfl ?_
  refine wi_icmp_ne (t := 231) (pc' := 206) q344_203 (by decide) rfl (by omega) (by omega) (fun h6 => absurd h6 (by omega)) (fun h6 => ?_)
  refine wi_aload_n (i := 0) (pc' := 207) q344_206 rfl rfl rfl ?_
  refine wi_cp (u9 := (229, X)) (pc' := 210) wq344_207 rfl (cQ_sunkCount (Nat.le_refl _) p9.ok p9.hR) (fun _ => ⟨_, _, rfl⟩) rfl rfl (by (try dsimp only); omega) (by (try dsimp only); omega) ?_
  refine wi_iload (i := 6) (pc' := 212) q344_210 rfl rfl ?_
  refine wi_icmp_ne (t := 231) (pc' := 215) q344_212 (by decide) rfl (by omega) (by omega) (fun h7 => absurd h7 (by omega)) (fun h7 => ?_)
  refine wi_aload_n (i := 0) (pc' := 216) q344_215 rfl rfl rfl ?_
  refine wi_cp (u9 := (229, X)) (pc' := 219) wq344_216 rfl (cQ_time (Nat.le_refl _) p9.ok p9.hR) (fun _ => ⟨_, _, rfl⟩) rfl rfl (by (try dsimp only); omega) (by (try dsimp only); omega) ?_
  refine wi_iload (i := 8) (pc' := 221) q344_219 rfl rfl ?_
  refine wi_iload (i := 4) (pc' := 223) q344_221 rfl rfl ?_
  refine wi_iadd (pc' := 224) q344_223 rfl ?_
  refine wi_icmp_ne (t := 231) (pc' := 227) q344_224 (by decide) rfl (by omega) (by omega) (fun h8 => absurd h8 (by omega)) (fun h8 => ?_)
  refine wi_iconst (pc' := 228) q344_227 rfl ?_
  refine wi_goto (t := 232) q344_228 (by decide) ?_
  refine wi_istore10 (pc' := 234) q344_232 rfl rfl (Or.inr rfl) ?_
  refine wi_iconst (pc' := 235) q344_234 rfl ?_
  refine wi_istore11 (pc' := 237) q344_235 rfl rfl (Or.inr rfl) ?_
  refine tk_p (s0 := s) (Y0 := Y) (D := D) (by (try dsimp only); omega) (by (try dsimp only); omega) har (fun yy kk k0 k1 y0 y1 => hS yy kk k0 (by omega) y0 (by omega) (by omega)) (fun yy kk k0 k1 y0 y1 => stS_rng p.ok ⟨by omega, by omega⟩ ⟨by omega, by omega⟩) (fun i i0 i1 => by rw [hs1]; exact (sTicks_keep p.ok p.1.2.2.2.1 m.toNat (by omega)).2 i i0 i1) ?_ 99 0 _ _ (by omega) (by omega) p9
  intro G7 k2 a12 hk2 p7
  refine wi_iload (i := 10) (pc' := 365) q344_363 rfl rfl ?_
  refine wi_if_eq (t := 391) (pc' := 368) q344_365 (by decide) rfl (by omega) (fun h9 => absurd h9 (by omega)) (fun h9 => ?_)
  refine wi_aload_n (i := 0) (pc' := 369) q344_368 rfl rfl rfl ?_
  refine wi_bipush (pc' := 371) q344_369 rfl (by decide) ?_
  refine wi_iconst (pc' := 372) q344_371 rfl ?_
  refine wi_cv (u9 := (229, X)) (pc' := 375) wq344_372 rfl (cL_s2 (pC_undo p7) zLc_i) (fun h => absurd h (by decide)) rfl rfl (vL_undoOk (u := min (u + 1) 8) (by omega)).1 (by (try dsimp only); omega) (by (try dsimp only); omega) ?_
  intro G8 hx
  rw [(vL_undoOk (u := min (u + 1) 8) (by omega)).2]
  have p6 := PG_back hx u8.1
  clear hx
  have v7 : 0 ≤ min u 7 ∧ min u 7 ≤ 7 := by omega
  have hv7 : min u 7 = min u 7 := rfl
  generalize hv : min u 7 = v at p6 v7
  clear hv7
  refine wi_if_lt (t := 391) (pc' := 378) q344_375 (by decide) rfl (by omega) (fun h10 => absurd h10 (by omega)) (fun h10 => ?_)
  refine wi_aload_n (i := 0) (pc' := 379) q344_378 rfl rfl rfl ?_
  refine wi_call (pc' := 382) wk344_379 rfl (cS_state p6) rfl (Nat.le_of_ble_eq_true rfl) (Nat.le_of_ble_eq_true rfl) (by (try dsimp only); omega) (by (try dsimp only); omega) (wrv_n) ?_
  rintro o9 G9 F9 Y9 ⟨rfl, q379, rfl, rfl⟩ hle9
  refine wi_lload_n (i := 2) (pc' := 383) q344_382 rfl rfl rfl ?_
  refine wi_lcmp (v := 0) (pc' := 384) q344_383 rfl lg_self ?_
  refine wi_if_ne (t := 391) (pc' := 387) q344_384 (by decide) rfl (by omega) (fun h11 => absurd h11 (by omega)) (fun h11 => ?_)
  refine wi_iconst (pc' := 388) q344_387 rfl ?_
  refine wi_goto (t := 392) q344_388 (by decide) ?_
  refine wi_istore10 (pc' := 394) q344_392 rfl rfl (Or.inr rfl) ?_
  refine wi_iconst (pc' := 395) q344_394 rfl ?_
  refine wi_istore11 (pc' := 397) q344_395 rfl rfl (Or.inr rfl) ?_
  refine tk_t (u := v) (i := Y.2.2) (by (try dsimp only); omega) (by (try dsimp only); omega) hs3 hB v7.2 ?_ 99 0 _ _ _ (by omega) (by omega) q379
  intro G5 k3 b12 b13 hk3 p5
  refine wi_aload_n (i := 0) (pc' := 589) q344_588 rfl rfl rfl ?_
  obtain ⟨⟨b1, b2⟩, b3, b4⟩ := sBest_is (t := s) (fun i i0 i1 => (cB_rng p5.ok hT ⟨i0, i1⟩).1) 21 (by decide) (by decide)
  refine wi_call1 (u := (229, X)) (pc' := 592) wq344_589 rfl (cQ_bestClearness (Nat.le_refl _) p5.ok p5.hR (t := s) (fun _ _ _ => rfl) hT) (fun _ => ⟨_, _, rfl⟩) rfl rfl (by rintro z G9 F9 n9 ⟨h9, -⟩; cases h9) (by rintro v9 G9 F9 n9 ⟨h9, -⟩; cases h9; exact w_v_i _ _) (by rintro v9 G9 F9 n9 ⟨-, -, -, rfl⟩; exact ⟨by (try dsimp only); omega, by (try dsimp only); omega⟩) ?_
  rintro v9 G9 F9 n9 ⟨h9, hxq, rfl, rfl⟩
  cases h9
  have p4 := PG_q p5 hxq
  rw [b3] at b4
  generalize (sBest s 21).1 = bs at b1 b2 b4 ⊢
  have hbs : ∀ i : Int, 0 ≤ i → i ≤ 20 → cB s i ≤ cB s bs ∧ (i < bs → cB s i < cB s bs) := fun i i0 i1 => b4 i i0 (by omega)
  have h0bs : 0 ≤ bs ∧ bs ≤ 20 := by omega
  clear b4 b3
  have cbs := cB_rng p4.ok hT h0bs
  have e3b : (zp s 2 bs) 3 = s 3 := zp_ne (by decide)
  refine wi_istore11 (pc' := 594) q344_592 rfl rfl (Or.inr rfl) ?_
  refine wi_iload (i := 10) (pc' := 596) q344_594 rfl rfl ?_
  refine wi_if_eq (t := 626) (pc' := 599) q344_596 (by decide) rfl (by omega) (fun h12 => absurd h12 (by omega)) (fun h12 => ?_)
  refine wi_iload (i := 11) (pc' := 601) q344_599 rfl rfl ?_
  refine wi_if_lt (t := 626) (pc' := 604) q344_601 (by decide) rfl (by omega) (fun h13 => absurd h13 (by omega)) (fun h13 => ?_)
  refine wi_iload (i := 11) (pc' := 606) q344_604 rfl rfl ?_
  refine wi_bipush (pc' := 608) q344_606 rfl (by decide) ?_
  refine wi_icmp_gt (t := 626) (pc' := 611) q344_608 (by decide) rfl (by omega) (by omega) (fun h14 => absurd h14 (by omega)) (fun h14 => ?_)
  refine wi_aload_n (i := 0) (pc' := 612) q344_611 rfl rfl rfl ?_
  refine wi_bipush (pc' := 614) q344_612 rfl (by decide) ?_
  refine wi_iload (i := 11) (pc' := 616) q344_614 rfl rfl ?_
  refine wi_cv (u9 := (229, X)) (pc' := 619) wq344_616 rfl (cL_s2 (pC_setClearness p4 (by omega)) zLc_i) (fun h => absurd h (by decide)) rfl rfl (vL_clOk (c := bs) p4.ok ⟨by omega, by omega⟩).1 (by (try dsimp only); omega) (by (try dsimp only); omega) ?_
  intro G9 hx
  rw [(vL_clOk (c := bs) p4.ok ⟨by omega, by omega⟩).2]
  have p9 := PGc_yes hx (vL_clOk (c := bs) p4.ok ⟨by omega, by omega⟩).1
  clear hx
  refine wi_if_lt (t := 626) (pc' := 622) q344_619 (by decide) rfl (by omega) (fun h15 => absurd h15 (by omega)) (fun h15 => ?_)
  refine wi_iconst (pc' := 623) q344_622 rfl ?_
  refine wi_goto (t := 627) q344_623 (by decide) ?_
  refine wi_istore10 (pc' := 629) q344_627 rfl rfl (Or.inr rfl) ?_
  refine wi_aload_n (i := 0) (pc' := 630) q344_629 rfl rfl rfl ?_
  refine wi_bipush (pc' := 632) q344_630 rfl (by decide) ?_
  refine wi_sipush (pc' := 635) q344_632 rfl (by decide) ?_
  refine wi_cv (u9 := (229, X)) (pc' := 638) wq344_635 rfl (cL_s2 (pL_arrivedAfter p9 (by omega) (by omega)) zLc_i) (fun h => absurd h (by decide)) rfl rfl (vL_bcl p9.ok (by omega)).1 (by (try dsimp only); omega) (by (try dsimp only); omega) ?_
  intro G7 hx
  rw [(vL_bcl p9.ok (by omega)).2]
  have p3 := hx
  clear hx
  refine wi_istore12 (pc' := 640) q344_638 rfl rfl (Or.inr rfl) ?_
  refine wi_iload (i := 10) (pc' := 642) q344_640 rfl rfl ?_
  refine wi_if_eq (t := 659) (pc' := 645) q344_642 (by decide) rfl (by omega) (fun h16 => absurd h16 (by omega)) (fun h16 => ?_)
  refine wi_aload_n (i := 0) (pc' := 646) q344_645 rfl rfl rfl ?_
  refine wi_bipush (pc' := 648) q344_646 rfl (by decide) ?_
  refine wi_iconst (pc' := 649) q344_648 rfl ?_
  refine wi_cv (u9 := (229, X)) (pc' := 652) wq344_649 rfl (cL_s2 (pC_undo p3) zLc_i) (fun h => absurd h (by decide)) rfl rfl (vL_undoOk (u := min (v + 1) 8) (by omega)).1 (by (try dsimp only); omega) (by (try dsimp only); omega) ?_
  intro G8 hx
  rw [(vL_undoOk (u := min (v + 1) 8) (by omega)).2]
  have p2 := PG_bk hx v7.1 v7.2
  clear hx
  refine wi_if_lt (t := 659) (pc' := 655) q344_652 (by decide) rfl (by omega) (fun h17 => absurd h17 (by omega)) (fun h17 => ?_)
  refine wi_iconst (pc' := 656) q344_655 rfl ?_
  refine wi_goto (t := 660) q344_656 (by decide) ?_
  refine wi_istore10 (pc' := 662) q344_660 rfl rfl (Or.inr rfl) ?_
  refine wi_iload_n (i := 1) (pc' := 663) q344_662 rfl rfl rfl ?_
  refine wi_bipush (pc' := 665) q344_663 rfl (by decide) ?_
  refine wi_ishr (pc' := 666) q344_665 rfl ?_
  refine wi_iconst (pc' := 667) q344_666 rfl ?_
  refine wi_iand (pc' := 668) q344_667 rfl ?_
  refine wi_istore13 (pc' := 670) q344_668 rfl rfl (Or.inr rfl) ?_
  have hz3 := zand_3 (zshr w 8)
  refine tk_c (u := v) (i := Y.2.2) (by (try dsimp only); omega) (by (try dsimp only); omega) hs3 hB v7.2 h0bs hbs ?_ 7 _ _ _ ⟨by omega, by omega⟩ (by omega) p2
  intro G4 kc a14 p1
  refine wi_iload (i := 10) (pc' := 765) q344_763 rfl rfl ?_
  refine wi_if_eq (t := 781) (pc' := 768) q344_765 (by decide) rfl (by omega) (fun h18 => absurd h18 (by omega)) (fun h18 => ?_)
  refine wi_aload_n (i := 0) (pc' := 769) q344_768 rfl rfl rfl ?_
  refine wi_call (pc' := 772) wk344_769 rfl (cS_state p1) rfl (Nat.le_of_ble_eq_true rfl) (Nat.le_of_ble_eq_true rfl) (by (try dsimp only); omega) (by (try dsimp only); omega) (wrv_n) ?_
  rintro o9 G9 F9 Y9 ⟨rfl, q769, rfl, rfl⟩ hle9
  refine wi_lload_n (i := 2) (pc' := 773) q344_772 rfl rfl rfl ?_
  refine wi_lcmp (v := 0) (pc' := 774) q344_773 rfl lg_self ?_
  refine wi_if_ne (t := 781) (pc' := 777) q344_774 (by decide) rfl (by omega) (fun h19 => absurd h19 (by omega)) (fun h19 => ?_)
  refine wi_iconst (pc' := 778) q344_777 rfl ?_
  refine wi_goto (t := 782) q344_778 (by decide) ?_
  refine wW_r (o := some (.int (zi 1))) ⟨q344_782, _, rfl, rfl⟩ rfl (by (try dsimp only); omega) (by (try dsimp only); omega) ?_
  exact ⟨rfl, rfl, q769, har.2⟩
