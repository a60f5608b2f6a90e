/-! Runs over made cells: the JDK on builders. -/
theorem wsh0 {a : Int} (h : zr a) : zshl a 0 = a := by
  unfold zshl
  rw [show zi a <<< (zi 0 &&& 31) = zi a from ?_, zi_to h]
  rw [show zi 0 &&& 31 = 0 by decide +kernel]
  exact Int32.shiftLeft_zero
theorem wsr0 {a : Int} (h : zr a) : zshr a 0 = a := by
  unfold zshr
  rw [show zi a >>> (zi 0 &&& 31) = zi a from ?_, zi_to h]
  rw [show zi 0 &&& 31 = 0 by decide +kernel]
  exact Int32.shiftRight_zero
section BA
variable {Y : DY} {h : Sh} {E : Int → Int} {j : Nat}
theorem w_add_lo {s : Sh} (hj : j < Y.2.2) (hs : Y.2.1 j = s) : (w_add Y h E).2.1 j = s := by
  show (if j = Y.2.2 then h else Y.2.1 j) = s
  rw [if_neg (by omega), hs]
theorem w_add_hi : (w_add Y h E).2.1 Y.2.2 = h := if_pos rfl
theorem w_add_E (hj : j < Y.2.2) : (w_add Y h E).1 j = Y.1 j := zk_ne (by omega)
theorem w_add_En : (w_add Y h E).1 Y.2.2 = E := zk_eq _ _ _
end BA
theorem q365_0 : decode (zbc 365) 0 = .ok (.getstatic 18, 3) := by decide +kernel
theorem kx_1185 : Cond.fieldLink "java/lang/AbstractStringBuilder" 18 "java/lang/String" "COMPACT_STRINGS" "Z" ∈ zTs := z_in (i := 1185) (by decide +kernel) (by decide +kernel)
theorem q365_3 : decode (zbc 365) 3 = .ok (.ifCond .eq 14, 3) := by decide +kernel
theorem q365_6 : decode (zbc 365) 6 = .ok (.aload_n 0, 1) := by decide +kernel
theorem q365_7 : decode (zbc 365) 7 = .ok (.getfield 22, 3) := by decide +kernel
theorem kx_1235 : Cond.fieldLink "java/lang/AbstractStringBuilder" 22 "java/lang/AbstractStringBuilder" "coder" "B" ∈ zTs := z_in (i := 1235) (by decide +kernel) (by decide +kernel)
theorem q365_10 : decode (zbc 365) 10 = .ok (.ifCond .ne 7, 3) := by decide +kernel
theorem q365_13 : decode (zbc 365) 13 = .ok (.iconst 1, 1) := by decide +kernel
theorem q365_14 : decode (zbc 365) 14 = .ok (.goto 4, 3) := by decide +kernel
theorem q365_18 : decode (zbc 365) 18 = .ok (.ireturn, 1) := by decide +kernel
theorem cJ_isLat {u : WU} {G F : GM} {Y : DY} {i j m : Nat} {t : List Int} (h : SBx Y i j m t) : wC u 365 0 0 [.ref (1000 + i)] G F Y (wPu G F Y (some (.int (zi 1)))) := by
  refine w_met (L0 := [.ref (1000 + i)]) (by decide +kernel) rfl rfl ?_
  have h0 := h
  obtain ⟨hi, hj, hij, hsi, hsj, hco, hcn, htm, hm, hby, hch⟩ := h
  refine wi_gsC (pc' := 3) q365_0 rfl kx_1185 ?_
  refine wi_if_eq (t := 17) (pc' := 6) q365_3 (by decide) rfl (by omega) (fun h1 => absurd h1 (by omega)) (fun h1 => ?_)
  refine wi_aload_n (i := 0) (pc' := 7) q365_6 rfl rfl rfl ?_
  refine wi_getI (ci := 10) (j := 1) (C := RJ4) (T := TJ4) (Nf := 4) (pc' := 10) q365_7 rfl rfl inJ4 (by decide) kx_1235 rfl hi hsi rfl ?_
  rw [show (Y).1 i ((1 : Nat) : Int) = 0 from hco]
  refine wi_if_ne (t := 17) (pc' := 13) q365_10 (by decide) rfl (by omega) (fun h2 => absurd h2 (by omega)) (fun h2 => ?_)
  refine wi_iconst (pc' := 14) q365_13 rfl ?_
  refine wi_goto (t := 18) q365_14 (by decide) ?_
  refine wW_r (o := some (.int (zi 1))) ⟨q365_18, _, rfl, w_nZ (Or.inr rfl)⟩ rfl (by (try dsimp only); omega) (by (try dsimp only); omega) ?_
  exact ⟨rfl, rfl, rfl, rfl⟩
theorem q364_0 : decode (zbc 364) 0 = .ok (.aload_n 0, 1) := by decide +kernel
theorem q364_1 : decode (zbc 364) 1 = .ok (.getfield 15, 3) := by decide +kernel
theorem kx_1234 : Cond.fieldLink "java/lang/AbstractStringBuilder" 15 "java/lang/AbstractStringBuilder" "value" "[B" ∈ zTs := z_in (i := 1234) (by decide +kernel) (by decide +kernel)
theorem q364_4 : decode (zbc 364) 4 = .ok (.areturn, 1) := by decide +kernel
theorem cJ_value {u : WU} {G F : GM} {Y : DY} {i j m : Nat} {t : List Int} (h : SBx Y i j m t) : wC u 364 0 0 [.ref (1000 + i)] G F Y (wPu G F Y (some (.ref (1000 + j)))) := by
  refine w_met (L0 := [.ref (1000 + i)]) (by decide +kernel) rfl rfl ?_
  have h0 := h
  obtain ⟨hi, hj, hij, hsi, hsj, hco, hcn, htm, hm, hby, hch⟩ := h
  refine wi_aload_n (i := 0) (pc' := 1) q364_0 rfl rfl rfl ?_
  refine wi_getR (ci := 10) (j := 0) (C := RJ4) (T := TJ4) (Nf := 4) (pc' := 4) q364_1 rfl rfl inJ4 (by decide) kx_1234 rfl hi hsi rfl ?_
  refine wW_r (o := some (.ref (1000 + j))) ⟨q364_4, _, rfl, Or.inr ⟨_, rfl⟩⟩ rfl (by (try dsimp only); omega) (by (try dsimp only); omega) ?_
  exact ⟨rfl, rfl, rfl, rfl⟩
theorem q366_0 : decode (zbc 366) 0 = .ok (.aload_n 0, 1) := by decide +kernel
theorem q366_1 : decode (zbc 366) 1 = .ok (.getfield 79, 3) := by decide +kernel
theorem kx_1237 : Cond.fieldLink "java/lang/AbstractStringBuilder" 79 "java/lang/AbstractStringBuilder" "count" "I" ∈ zTs := z_in (i := 1237) (by decide +kernel) (by decide +kernel)
theorem q366_4 : decode (zbc 366) 4 = .ok (.ireturn, 1) := by decide +kernel
theorem cJ_len5 {u : WU} {G F : GM} {Y : DY} {i j m : Nat} {t : List Int} (h : SBx Y i j m t) : wC u 366 0 0 [.ref (1000 + i)] G F Y (wPu G F Y (some (.int (zi (t.length : Int))))) := by
  refine w_met (L0 := [.ref (1000 + i)]) (by decide +kernel) rfl rfl ?_
  have h0 := h
  obtain ⟨hi, hj, hij, hsi, hsj, hco, hcn, htm, hm, hby, hch⟩ := h
  refine wi_aload_n (i := 0) (pc' := 1) q366_0 rfl rfl rfl ?_
  refine wi_getI (ci := 10) (j := 3) (C := RJ4) (T := TJ4) (Nf := 4) (pc' := 4) q366_1 rfl rfl inJ4 (by decide) kx_1237 rfl hi hsi rfl ?_
  rw [show (Y).1 i ((3 : Nat) : Int) = (t.length : Int) from hcn]
  refine wW_r (o := some (.int (zi (t.length : Int)))) ⟨q366_4, _, rfl, rfl⟩ rfl (by (try dsimp only); omega) (by (try dsimp only); omega) ?_
  exact ⟨rfl, rfl, rfl, rfl⟩
theorem q372_0 : decode (zbc 372) 0 = .ok (.aload_n 0, 1) := by decide +kernel
theorem q372_1 : decode (zbc 372) 1 = .ok (.invokespecial 343, 3) := by decide +kernel
theorem kx_1323 : Cond.methodLink "java/lang/StringBuilder" 343 yJ5_length_8abf5 ∈ zTs := z_in (i := 1323) (by decide +kernel) (by decide +kernel)
theorem kx_1319 : Cond.sameMethod "java/lang/AbstractStringBuilder" "java/lang/AbstractStringBuilder" "length" "()I" ∈ zTs := z_in (i := 1319) (by decide +kernel) (by decide +kernel)
theorem kx_1146 : Cond.superclass "java/lang/StringBuilder" "java/lang/AbstractStringBuilder" ∈ zTs := z_in (i := 1146) (by decide +kernel) (by decide +kernel)
theorem kx_1318 : Cond.instanceMethod yJ5_length_8abf5 ∈ zTs := z_in (i := 1318) (by decide +kernel) (by decide +kernel)
theorem kx_55 : Cond.initialized "java/lang/AbstractStringBuilder" ∈ zTs := z_in (i := 55) (by decide +kernel) (by decide +kernel)
theorem kx_1324 : Cond.code yJ5_length_8abf5 cJ5_length_8abf5 1 (some .int) ∈ zTs := z_in (i := 1324) (by decide +kernel) (by decide +kernel)
theorem wk372_1 : wSC 372 1 366 1 (some "java/lang/StringBuilder") := wk_SU (ci := 10) (n' := 0) rfl q372_1 kx_1323 kx_1319 kx_1146 kx_1318 kx_55 kx_1324 ⟨by decide, by decide +kernel⟩ rfl ⟨Nat.le_of_ble_eq_true rfl, Nat.le_of_ble_eq_true rfl⟩
theorem q372_4 : decode (zbc 372) 4 = .ok (.ireturn, 1) := by decide +kernel
theorem cJ_len4 {u : WU} {G F : GM} {Y : DY} {i j m : Nat} {t : List Int} (h : SBx Y i j m t) : wC u 372 0 0 [.ref (1000 + i)] G F Y (wPu G F Y (some (.int (zi (t.length : Int))))) := by
  refine w_met (L0 := [.ref (1000 + i)]) (by decide +kernel) rfl rfl ?_
  have h0 := h
  obtain ⟨hi, hj, hij, hsi, hsj, hco, hcn, htm, hm, hby, hch⟩ := h
  refine wi_aload_n (i := 0) (pc' := 1) q372_0 rfl rfl rfl ?_
  refine wi_call (pc' := 4) wk372_1 rfl (cJ_len5 h0) rfl (Nat.le_of_ble_eq_true rfl) (Nat.le_of_ble_eq_true rfl) (by (try dsimp only); omega) (by (try dsimp only); omega) (wrv_sb h0) ?_
  rintro o9 G9 F9 Y9 ⟨rfl, rfl, rfl, rfl⟩ hle9
  refine wW_r (o := some (.int (zi (t.length : Int)))) ⟨q372_4, _, rfl, rfl⟩ rfl (by (try dsimp only); omega) (by (try dsimp only); omega) ?_
  exact ⟨rfl, rfl, rfl, rfl⟩
theorem q370_0 : decode (zbc 370) 0 = .ok (.iload_n 0, 1) := by decide +kernel
theorem q370_1 : decode (zbc 370) 1 = .ok (.sipush 255, 3) := by decide +kernel
theorem q370_4 : decode (zbc 370) 4 = .ok (.if_icmp .gt 7, 3) := by decide +kernel
theorem q370_7 : decode (zbc 370) 7 = .ok (.iconst 1, 1) := by decide +kernel
theorem q370_8 : decode (zbc 370) 8 = .ok (.goto 4, 3) := by decide +kernel
theorem q370_12 : decode (zbc 370) 12 = .ok (.ireturn, 1) := by decide +kernel
theorem cJ_canEnc {u : WU} {G F : GM} {Y : DY} {v : Int} (hv : 0 ≤ v ∧ v ≤ 127) : wC u 370 0 0 [.int (zi v)] G F Y (wPu G F Y (some (.int (zi 1)))) := by
  refine w_met (L0 := [.int (zi v)]) (by decide +kernel) rfl rfl ?_
  refine wi_iload_n (i := 0) (pc' := 1) q370_0 rfl rfl rfl ?_
  refine wi_sipush (pc' := 4) q370_1 rfl (by decide) ?_
  refine wi_icmp_gt (t := 11) (pc' := 7) q370_4 (by decide) rfl (by omega) (by omega) (fun h1 => absurd h1 (by omega)) (fun h1 => ?_)
  refine wi_iconst (pc' := 8) q370_7 rfl ?_
  refine wi_goto (t := 12) q370_8 (by decide) ?_
  refine wW_r (o := some (.int (zi 1))) ⟨q370_12, _, rfl, w_nZ (Or.inr rfl)⟩ rfl (by (try dsimp only); omega) (by (try dsimp only); omega) ?_
  exact ⟨rfl, rfl, rfl, rfl⟩
theorem q359_0 : decode (zbc 359) 0 = .ok (.iload_n 0, 1) := by decide +kernel
theorem q359_1 : decode (zbc 359) 1 = .ok (.iload_n 1, 1) := by decide +kernel
theorem q359_2 : decode (zbc 359) 2 = .ok (.iload_n 2, 1) := by decide +kernel
theorem kxm_1163 : Cond.methodLink "jdk/internal/util/ArraysSupport" 194 Lib.Math.max.name ∈ zTs := z_in (i := 1163) (by decide +kernel) (by decide +kernel)
theorem q359_3 : decode (zbc 359) 3 = .ok (.invokestatic 194, 3) := by decide +kernel
theorem q359_6 : decode (zbc 359) 6 = .ok (.iadd, 1) := by decide +kernel
theorem q359_7 : decode (zbc 359) 7 = .ok (.istore_n 3, 1) := by decide +kernel
theorem q359_8 : decode (zbc 359) 8 = .ok (.iconst 0, 1) := by decide +kernel
theorem q359_9 : decode (zbc 359) 9 = .ok (.iload_n 3, 1) := by decide +kernel
theorem q359_10 : decode (zbc 359) 10 = .ok (.if_icmp .ge 11, 3) := by decide +kernel
theorem q359_13 : decode (zbc 359) 13 = .ok (.iload_n 3, 1) := by decide +kernel
theorem kx_1164 : Cond.constant "jdk/internal/util/ArraysSupport" 200 2147483639 ∈ zTs := z_in (i := 1164) (by decide +kernel) (by decide +kernel)
theorem q359_14 : decode (zbc 359) 14 = .ok (.ldc 200, 2) := by decide +kernel
theorem q359_16 : decode (zbc 359) 16 = .ok (.if_icmp .gt 5, 3) := by decide +kernel
theorem q359_19 : decode (zbc 359) 19 = .ok (.iload_n 3, 1) := by decide +kernel
theorem q359_20 : decode (zbc 359) 20 = .ok (.ireturn, 1) := by decide +kernel
theorem cJ_newLen {u : WU} {G F : GM} {Y : DY} {a v p : Int} (ha : 0 ≤ a ∧ a ≤ 100000) (hv : 0 < v ∧ v ≤ 100000) (hp9 : 0 < p ∧ p ≤ 100000) : wC u 359 0 0 [.int (zi a), .int (zi v), .int (zi p)] G F Y (wPu G F Y (some (.int (zi (a + max v p))))) := by
  refine w_met (L0 := [.int (zi a), .int (zi v), .int (zi p), .null]) (by decide +kernel) rfl rfl ?_
  have hmx : 0 < max v p ∧ max v p ≤ 100000 := by omega
  refine wi_iload_n (i := 0) (pc' := 1) q359_0 rfl rfl rfl ?_
  refine wi_iload_n (i := 1) (pc' := 2) q359_1 rfl rfl rfl ?_
  refine wi_iload_n (i := 2) (pc' := 3) q359_2 rfl rfl rfl ?_
  refine wi_mmax (pc' := 6) q359_3 rfl kxm_1163 (Nat.le_of_ble_eq_true rfl) (Nat.le_of_ble_eq_true rfl) (by omega) (by omega) (Nat.le_of_ble_eq_true rfl) (by (try dsimp only); omega) (by (try dsimp only); omega) ?_
  refine wi_iadd (pc' := 7) q359_6 rfl ?_
  refine wi_istore3 (pc' := 8) q359_7 rfl rfl rfl (Or.inr rfl) ?_
  refine wi_iconst (pc' := 9) q359_8 rfl ?_
  refine wi_iload_n (i := 3) (pc' := 10) q359_9 rfl rfl rfl ?_
  refine wi_icmp_ge (t := 21) (pc' := 13) q359_10 (by decide) rfl (by omega) (by omega) (fun h1 => absurd h1 (by omega)) (fun h1 => ?_)
  refine wi_iload_n (i := 3) (pc' := 14) q359_13 rfl rfl rfl ?_
  refine wi_ldc (z := 2147483639) (pc' := 16) q359_14 rfl kx_1164 (by decide +kernel) ?_
  refine wi_icmp_gt (t := 21) (pc' := 19) q359_16 (by decide) rfl (by omega) (by omega) (fun h2 => absurd h2 (by omega)) (fun h2 => ?_)
  refine wi_iload_n (i := 3) (pc' := 20) q359_19 rfl rfl rfl ?_
  refine wW_r (o := some (.int (zi (a + (max v p))))) ⟨q359_20, _, rfl, rfl⟩ rfl (by (try dsimp only); omega) (by (try dsimp only); omega) ?_
  exact ⟨rfl, rfl, rfl, rfl⟩
theorem q358_0 : decode (zbc 358) 0 = .ok (.aload_n 0, 1) := by decide +kernel
theorem q358_1 : decode (zbc 358) 1 = .ok (.getfield 15, 3) := by decide +kernel
theorem q358_4 : decode (zbc 358) 4 = .ok (.arraylength, 1) := by decide +kernel
theorem q358_5 : decode (zbc 358) 5 = .ok (.istore_n 2, 1) := by decide +kernel
theorem q358_6 : decode (zbc 358) 6 = .ok (.iload_n 1, 1) := by decide +kernel
theorem q358_7 : decode (zbc 358) 7 = .ok (.aload_n 0, 1) := by decide +kernel
theorem q358_8 : decode (zbc 358) 8 = .ok (.getfield 22, 3) := by decide +kernel
theorem q358_11 : decode (zbc 358) 11 = .ok (.ishl, 1) := by decide +kernel
theorem q358_12 : decode (zbc 358) 12 = .ok (.istore_n 3, 1) := by decide +kernel
theorem q358_13 : decode (zbc 358) 13 = .ok (.iload_n 3, 1) := by decide +kernel
theorem q358_14 : decode (zbc 358) 14 = .ok (.iload_n 2, 1) := by decide +kernel
theorem q358_15 : decode (zbc 358) 15 = .ok (.isub, 1) := by decide +kernel
theorem q358_16 : decode (zbc 358) 16 = .ok (.istore 4, 2) := by decide +kernel
theorem q358_18 : decode (zbc 358) 18 = .ok (.iload_n 2, 1) := by decide +kernel
theorem q358_19 : decode (zbc 358) 19 = .ok (.iload 4, 2) := by decide +kernel
theorem q358_21 : decode (zbc 358) 21 = .ok (.iload_n 2, 1) := by decide +kernel
theorem q358_22 : decode (zbc 358) 22 = .ok (.iconst 2, 1) := by decide +kernel
theorem q358_23 : decode (zbc 358) 23 = .ok (.aload_n 0, 1) := by decide +kernel
theorem q358_24 : decode (zbc 358) 24 = .ok (.getfield 22, 3) := by decide +kernel
theorem q358_27 : decode (zbc 358) 27 = .ok (.ishl, 1) := by decide +kernel
theorem q358_28 : decode (zbc 358) 28 = .ok (.iadd, 1) := by decide +kernel
theorem q358_29 : decode (zbc 358) 29 = .ok (.invokestatic 114, 3) := by decide +kernel
theorem kx_1160 : Cond.methodLink "java/lang/AbstractStringBuilder" 114 yJ8_newLength_cabcc ∈ zTs := z_in (i := 1160) (by decide +kernel) (by decide +kernel)
theorem kx_1161 : Cond.static yJ8_newLength_cabcc ∈ zTs := z_in (i := 1161) (by decide +kernel) (by decide +kernel)
theorem kx_57 : Cond.initialized "jdk/internal/util/ArraysSupport" ∈ zTs := z_in (i := 57) (by decide +kernel) (by decide +kernel)
theorem kx_1162 : Cond.code yJ8_newLength_cabcc cJ8_newLength_cabcc 4 (some .int) ∈ zTs := z_in (i := 1162) (by decide +kernel) (by decide +kernel)
theorem wk358_29 : wSC 358 29 359 3 none := wk_S q358_29 kx_1160 kx_1161 kx_57 kx_1162 ⟨by decide, by decide, by decide +kernel⟩ ⟨Nat.le_of_ble_eq_true rfl, Nat.le_of_ble_eq_true rfl⟩
theorem q358_32 : decode (zbc 358) 32 = .ok (.istore 5, 2) := by decide +kernel
theorem q358_34 : decode (zbc 358) 34 = .ok (.iload 5, 2) := by decide +kernel
theorem kx_1126 : Cond.constant "java/lang/AbstractStringBuilder" 39 2147483647 ∈ zTs := z_in (i := 1126) (by decide +kernel) (by decide +kernel)
theorem q358_36 : decode (zbc 358) 36 = .ok (.ldc 39, 2) := by decide +kernel
theorem q358_38 : decode (zbc 358) 38 = .ok (.if_icmp .ne 13, 3) := by decide +kernel
theorem q358_51 : decode (zbc 358) 51 = .ok (.iload 5, 2) := by decide +kernel
theorem q358_53 : decode (zbc 358) 53 = .ok (.aload_n 0, 1) := by decide +kernel
theorem q358_54 : decode (zbc 358) 54 = .ok (.getfield 22, 3) := by decide +kernel
theorem q358_57 : decode (zbc 358) 57 = .ok (.ishr, 1) := by decide +kernel
theorem q358_58 : decode (zbc 358) 58 = .ok (.ireturn, 1) := by decide +kernel
theorem cJ_newCap {u : WU} {G F : GM} {Y : DY} {i j m : Nat} {t : List Int} (h : SBx Y i j m t) {q : Int} (hq : (m : Int) < q ∧ q ≤ 1000) : wC u 358 0 0 [.ref (1000 + i), .int (zi q)] G F Y (wPu G F Y (some (.int (zi ((m : Int) + max (q - m) (m + 2)))))) := by
  refine w_met (L0 := [.ref (1000 + i), .int (zi q), .null, .null, .null, .null]) (by decide +kernel) rfl rfl ?_
  have h0 := h
  obtain ⟨hi, hj, hij, hsi, hsj, hco, hcn, htm, hm, hby, hch⟩ := h
  refine wi_aload_n (i := 0) (pc' := 1) q358_0 rfl rfl rfl ?_
  refine wi_getR (ci := 10) (j := 0) (C := RJ4) (T := TJ4) (Nf := 4) (pc' := 4) q358_1 rfl rfl inJ4 (by decide) kx_1234 rfl hi hsi rfl ?_
  refine wi_alen (pc' := 5) q358_4 rfl rfl hj hsj (Or.inr (Or.inl rfl)) ?_
  refine wi_istore2 (pc' := 6) q358_5 rfl rfl rfl (Or.inr rfl) ?_
  refine wi_iload_n (i := 1) (pc' := 7) q358_6 rfl rfl rfl ?_
  refine wi_aload_n (i := 0) (pc' := 8) q358_7 rfl rfl rfl ?_
  refine wi_getI (ci := 10) (j := 1) (C := RJ4) (T := TJ4) (Nf := 4) (pc' := 11) q358_8 rfl rfl inJ4 (by decide) kx_1235 rfl hi hsi rfl ?_
  rw [show (Y).1 i ((1 : Nat) : Int) = 0 from hco]
  refine wi_ishl (pc' := 12) q358_11 rfl ?_
  rw [show ((zshl q 0) : Int) = q from wsh0 (by omega)]
  refine wi_istore3 (pc' := 13) q358_12 rfl rfl rfl (Or.inr rfl) ?_
  refine wi_iload_n (i := 3) (pc' := 14) q358_13 rfl rfl rfl ?_
  refine wi_iload_n (i := 2) (pc' := 15) q358_14 rfl rfl rfl ?_
  refine wi_isub (pc' := 16) q358_15 rfl ?_
  refine wi_istore4 (pc' := 18) q358_16 rfl rfl (Or.inr rfl) ?_
  refine wi_iload_n (i := 2) (pc' := 19) q358_18 rfl rfl rfl ?_
  refine wi_iload (i := 4) (pc' := 21) q358_19 rfl rfl ?_
  refine wi_iload_n (i := 2) (pc' := 22) q358_21 rfl rfl rfl ?_
  refine wi_iconst (pc' := 23) q358_22 rfl ?_
  refine wi_aload_n (i := 0) (pc' := 24) q358_23 rfl rfl rfl ?_
  refine wi_getI (ci := 10) (j := 1) (C := RJ4) (T := TJ4) (Nf := 4) (pc' := 27) q358_24 rfl rfl inJ4 (by decide) kx_1235 rfl hi hsi rfl ?_
  rw [show (Y).1 i ((1 : Nat) : Int) = 0 from hco]
  refine wi_ishl (pc' := 28) q358_27 rfl ?_
  rw [show ((zshl 2 0) : Int) = 2 from wsh0 (by omega)]
  refine wi_iadd (pc' := 29) q358_28 rfl ?_
  refine wi_call (pc' := 32) wk358_29 rfl (cJ_newLen (a := (m : Int)) (v := q - m) (p := (m : Int) + 2) (by omega) (by omega) (by omega)) rfl (Nat.le_of_ble_eq_true rfl) (Nat.le_of_ble_eq_true rfl) (by (try dsimp only); omega) (by (try dsimp only); omega) (wrv_n) ?_
  rintro o9 G9 F9 Y9 ⟨rfl, rfl, rfl, rfl⟩ hle9
  refine wi_istore5 (pc' := 34) q358_32 rfl rfl (Or.inr rfl) ?_
  refine wi_iload (i := 5) (pc' := 36) q358_34 rfl rfl ?_
  refine wi_ldc (z := 2147483647) (pc' := 38) q358_36 rfl kx_1126 (by decide +kernel) ?_
  refine wi_icmp_ne (t := 51) (pc' := 41) q358_38 (by decide) rfl (by omega) (by omega) (fun h1 => ?_) (fun h1 => absurd h1 (by omega))
  refine wi_iload (i := 5) (pc' := 53) q358_51 rfl rfl ?_
  refine wi_aload_n (i := 0) (pc' := 54) q358_53 rfl rfl rfl ?_
  refine wi_getI (ci := 10) (j := 1) (C := RJ4) (T := TJ4) (Nf := 4) (pc' := 57) q358_54 rfl rfl inJ4 (by decide) kx_1235 rfl hi hsi rfl ?_
  rw [show (Y).1 i ((1 : Nat) : Int) = 0 from hco]
  refine wi_ishr (pc' := 58) q358_57 rfl ?_
  rw [show ((zshr ((m : Int) + max (q - m) (m + 2)) 0) : Int) = ((m : Int) + max (q - m) (m + 2)) from wsr0 (by omega)]
  refine wW_r (o := some (.int (zi ((m : Int) + max (q - m) (m + 2))))) ⟨q358_58, _, rfl, rfl⟩ rfl (by (try dsimp only); omega) (by (try dsimp only); omega) ?_
  exact ⟨rfl, rfl, rfl, rfl⟩
theorem q360_0 : decode (zbc 360) 0 = .ok (.iload_n 1, 1) := by decide +kernel
theorem q360_1 : decode (zbc 360) 1 = .ok (.aload_n 0, 1) := by decide +kernel
theorem q360_2 : decode (zbc 360) 2 = .ok (.arraylength, 1) := by decide +kernel
theorem q360_3 : decode (zbc 360) 3 = .ok (.if_icmp .ne 11, 3) := by decide +kernel
theorem q360_14 : decode (zbc 360) 14 = .ok (.iload_n 1, 1) := by decide +kernel
theorem q360_15 : decode (zbc 360) 15 = .ok (.newarray .byte, 2) := by decide +kernel
theorem q360_17 : decode (zbc 360) 17 = .ok (.astore_n 2, 1) := by decide +kernel
theorem q360_18 : decode (zbc 360) 18 = .ok (.aload_n 0, 1) := by decide +kernel
theorem q360_19 : decode (zbc 360) 19 = .ok (.iconst 0, 1) := by decide +kernel
theorem q360_20 : decode (zbc 360) 20 = .ok (.aload_n 2, 1) := by decide +kernel
theorem q360_21 : decode (zbc 360) 21 = .ok (.iconst 0, 1) := by decide +kernel
theorem q360_22 : decode (zbc 360) 22 = .ok (.aload_n 0, 1) := by decide +kernel
theorem q360_23 : decode (zbc 360) 23 = .ok (.arraylength, 1) := by decide +kernel
theorem q360_24 : decode (zbc 360) 24 = .ok (.iload_n 1, 1) := by decide +kernel
theorem kxm_1178 : Cond.methodLink "java/util/Arrays" 304 Lib.Math.min.name ∈ zTs := z_in (i := 1178) (by decide +kernel) (by decide +kernel)
theorem q360_25 : decode (zbc 360) 25 = .ok (.invokestatic 304, 3) := by decide +kernel
theorem q360_28 : decode (zbc 360) 28 = .ok (.invokestatic 150, 3) := by decide +kernel
theorem kx_1179 : Cond.methodLink "java/util/Arrays" 150 ⟨"java/lang/System", "arraycopy", "(Ljava/lang/Object;ILjava/lang/Object;II)V"⟩ ∈ zTs := z_in (i := 1179) (by decide +kernel) (by decide +kernel)
theorem q360_31 : decode (zbc 360) 31 = .ok (.aload_n 2, 1) := by decide +kernel
theorem q360_32 : decode (zbc 360) 32 = .ok (.areturn, 1) := by decide +kernel
theorem cJ_copyOf {u : WU} {G F : GM} {Y : DY} {j m n : Nat} (hj : j < Y.2.2) (hsj : Y.2.1 j = (2, m, [])) (hm : m ≤ 1000) (hmn : m < n) (hn : n ≤ 5000) (hby : ∀ k : Nat, k < m → 0 ≤ Y.1 j (k : Int) ∧ Y.1 j (k : Int) ≤ 127) : wC u 360 1 n [.ref (1000 + j), .int (zi (n : Int))] G F Y (fun o G' F' Y' => o = some (.ref (1000 + Y.2.2)) ∧ G = G' ∧ F = F' ∧ Y' = w_row (w_add Y (2, n, []) (fun _ => 0)) Y.2.2 (w_cpy (Y.1 j) (fun _ => 0) 0 0 m)) := by
  refine w_met (L0 := [.ref (1000 + j), .int (zi (n : Int)), .null]) (by decide +kernel) rfl rfl ?_
  refine wi_iload_n (i := 1) (pc' := 1) q360_0 rfl rfl rfl ?_
  refine wi_aload_n (i := 0) (pc' := 2) q360_1 rfl rfl rfl ?_
  refine wi_alen (pc' := 3) q360_2 rfl rfl hj hsj (Or.inr (Or.inl rfl)) ?_
  refine wi_icmp_ne (t := 14) (pc' := 6) q360_3 (by decide) rfl (by omega) (by omega) (fun h1 => ?_) (fun h1 => absurd h1 (by omega))
  refine wi_iload_n (i := 1) (pc' := 15) q360_14 rfl rfl rfl ?_
  refine wi_newB (n := n) (pc' := 17) q360_15 rfl wq_arr_byte rfl (by omega) (by (try dsimp only); omega) (by (try dsimp only); omega) ?_
  refine wi_astore2 (pc' := 18) q360_17 rfl rfl rfl (Or.inr rfl) ?_
  refine wi_aload_n (i := 0) (pc' := 19) q360_18 rfl rfl rfl ?_
  refine wi_iconst (pc' := 20) q360_19 rfl ?_
  refine wi_aload_n (i := 2) (pc' := 21) q360_20 rfl rfl rfl ?_
  refine wi_iconst (pc' := 22) q360_21 rfl ?_
  refine wi_aload_n (i := 0) (pc' := 23) q360_22 rfl rfl rfl ?_
  refine wi_alen (pc' := 24) q360_23 rfl rfl (show j < Y.2.2 + 1 by omega) (w_add_lo hj hsj) (Or.inr (Or.inl rfl)) ?_
  refine wi_iload_n (i := 1) (pc' := 25) q360_24 rfl rfl rfl ?_
  refine wi_mmin (pc' := 28) q360_25 rfl kxm_1178 (Nat.le_of_ble_eq_true rfl) (Nat.le_of_ble_eq_true rfl) (by omega) (by omega) (Nat.le_of_ble_eq_true rfl) (by (try dsimp only); omega) (by (try dsimp only); omega) ?_
  rw [show ((min (m : Int) (n : Int)) : Int) = (m : Int) from by omega]
  refine wi_acp (pc' := 31) (i0 := j) (i1 := Y.2.2) (n0 := m) (n1 := n) q360_28 rfl kx_1179 (Nat.le_of_ble_eq_true rfl) (Nat.le_of_ble_eq_true rfl) rfl rfl (show j < Y.2.2 + 1 by omega) (show Y.2.2 < Y.2.2 + 1 by omega) (w_add_lo hj hsj) w_add_hi (by omega) (by omega) (by omega) (by omega) (by omega) (by omega) (fun k h1 h2 => ?_) (Nat.le_of_ble_eq_true rfl) ?_
  · rw [w_add_E hj]
    have := hby k.toNat (by omega)
    rwa [Int.toNat_of_nonneg h1] at this
  refine wi_aload_n (i := 2) (pc' := 32) q360_31 rfl rfl rfl ?_
  refine wW_r (o := some (.ref (1000 + Y.2.2))) ⟨q360_32, _, rfl, Or.inr ⟨_, rfl⟩⟩ rfl (by (try dsimp only); omega) (by (try dsimp only); omega) ?_
  rw [w_add_E hj, w_add_En]
  exact ⟨rfl, rfl, rfl, rfl⟩
