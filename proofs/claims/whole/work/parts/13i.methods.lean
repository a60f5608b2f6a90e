/-! Each entry of the tables is sound (printed by wip/whole/gen12.py). -/
theorem dL_lightColumn_0 : decode cL_lightColumn 0 = .ok (.aload_n 2, 1) := by decide +kernel
theorem dL_lightColumn_1 : decode cL_lightColumn 1 = .ok (.iconst 0, 1) := by decide +kernel
theorem dL_lightColumn_2 : decode cL_lightColumn 2 = .ok (.aload_n 0, 1) := by decide +kernel
theorem dL_lightColumn_3 : decode cL_lightColumn 3 = .ok (.iload_n 1, 1) := by decide +kernel
theorem dL_lightColumn_4 : decode cL_lightColumn 4 = .ok (.invokevirtual 56, 3) := by decide +kernel
theorem dL_lightColumn_7 : decode cL_lightColumn 7 = .ok (.i2l, 1) := by decide +kernel
theorem dL_lightColumn_8 : decode cL_lightColumn 8 = .ok (.lastore, 1) := by decide +kernel
theorem dL_lightColumn_9 : decode cL_lightColumn 9 = .ok (.goto 6, 3) := by decide +kernel
theorem dL_lightColumn_12 : decode cL_lightColumn 12 = .ok (.astore_n 3, 1) := by decide +kernel
theorem dL_lightColumn_13 : decode cL_lightColumn 13 = .ok (.iconst 1, 1) := by decide +kernel
theorem dL_lightColumn_14 : decode cL_lightColumn 14 = .ok (.ireturn, 1) := by decide +kernel
theorem dL_lightColumn_15 : decode cL_lightColumn 15 = .ok (.iconst 0, 1) := by decide +kernel
theorem dL_lightColumn_16 : decode cL_lightColumn 16 = .ok (.ireturn, 1) := by decide +kernel
theorem shL_lightColumn {L : Nat} {xs : Nat → Int32} {N : Nat} : zSH L xs N 297 4 := z_sw [((0, 9, 12, 34), ("java/lang/IndexOutOfBoundsException", 1))] rfl rfl rfl (by
  intro r hr
  simp only [List.mem_cons, List.not_mem_nil, or_false] at hr
  rcases hr with rfl
  · exact ⟨by decide +kernel, by decide +kernel, wq_906, by decide +kernel, Or.inr ⟨_, _, dL_lightColumn_12, dL_lightColumn_13, by decide +kernel, dL_lightColumn_14, by decide +kernel⟩⟩)
theorem tL_lightColumn {L : Nat} {xs : Nat → Int32} {N : Nat} : z_AllE (zE L xs N 297) 0 (kL_lightColumn N) :=
  z_ac (j := 1) rfl (z_eI (sp_aload_n (q := 2) dL_lightColumn_0 rfl rfl)) <|
  z_ac (j := 2) rfl (z_eI (sp_iconst dL_lightColumn_1 (by decide +kernel) rfl)) <|
  z_ac (j := 3) rfl (z_eI (sp_aload_n (q := 0) dL_lightColumn_2 rfl rfl)) <|
  z_ac (j := 4) rfl (z_eI (sp_iload_n (q := 1) dL_lightColumn_3 rfl rfl)) <|
  z_ac (j := 5) rfl (z_cV dL_lightColumn_4 wl_997 qX8_lightColumn (by decide +kernel) ⟨_, _, rfl⟩ shL_lightColumn rfl) <|
  z_ac (j := 6) rfl (z_eI (sp_i2l dL_lightColumn_7 rfl)) <|
  z_ac (j := 7) rfl (z_eI (sp_last dL_lightColumn_8 rfl)) <|
  z_ac (j := 8) rfl (z_eI (sp_goto dL_lightColumn_9 rfl)) <|
  z_ac (j := 9) rfl (z_eI (sp_astore_n (q := 3) dL_lightColumn_12 rfl (by decide) (fun _ _ => rfl) rfl)) <|
  z_ac (j := 10) rfl (z_eI (sp_iconst dL_lightColumn_13 (by decide +kernel) rfl)) <|
  z_ac (j := 11) rfl (z_eR (sr_int dL_lightColumn_14 rfl)) <|
  z_ac (j := 12) rfl (z_eI (sp_iconst dL_lightColumn_15 (by decide +kernel) rfl)) <|
  z_ac (j := 13) rfl (z_eR (sr_int dL_lightColumn_16 rfl)) <| z_an
theorem dL_lightRow_0 : decode cL_lightRow 0 = .ok (.aload_n 2, 1) := by decide +kernel
theorem dL_lightRow_1 : decode cL_lightRow 1 = .ok (.iconst 0, 1) := by decide +kernel
theorem dL_lightRow_2 : decode cL_lightRow 2 = .ok (.aload_n 0, 1) := by decide +kernel
theorem dL_lightRow_3 : decode cL_lightRow 3 = .ok (.iload_n 1, 1) := by decide +kernel
theorem dL_lightRow_4 : decode cL_lightRow 4 = .ok (.invokevirtual 59, 3) := by decide +kernel
theorem dL_lightRow_7 : decode cL_lightRow 7 = .ok (.i2l, 1) := by decide +kernel
theorem dL_lightRow_8 : decode cL_lightRow 8 = .ok (.lastore, 1) := by decide +kernel
theorem dL_lightRow_9 : decode cL_lightRow 9 = .ok (.goto 6, 3) := by decide +kernel
theorem dL_lightRow_12 : decode cL_lightRow 12 = .ok (.astore_n 3, 1) := by decide +kernel
theorem dL_lightRow_13 : decode cL_lightRow 13 = .ok (.iconst 1, 1) := by decide +kernel
theorem dL_lightRow_14 : decode cL_lightRow 14 = .ok (.ireturn, 1) := by decide +kernel
theorem dL_lightRow_15 : decode cL_lightRow 15 = .ok (.iconst 0, 1) := by decide +kernel
theorem dL_lightRow_16 : decode cL_lightRow 16 = .ok (.ireturn, 1) := by decide +kernel
theorem shL_lightRow {L : Nat} {xs : Nat → Int32} {N : Nat} : zSH L xs N 298 4 := z_sw [((0, 9, 12, 34), ("java/lang/IndexOutOfBoundsException", 1))] rfl rfl rfl (by
  intro r hr
  simp only [List.mem_cons, List.not_mem_nil, or_false] at hr
  rcases hr with rfl
  · exact ⟨by decide +kernel, by decide +kernel, wq_906, by decide +kernel, Or.inr ⟨_, _, dL_lightRow_12, dL_lightRow_13, by decide +kernel, dL_lightRow_14, by decide +kernel⟩⟩)
theorem tL_lightRow {L : Nat} {xs : Nat → Int32} {N : Nat} : z_AllE (zE L xs N 298) 0 (kL_lightRow N) :=
  z_ac (j := 1) rfl (z_eI (sp_aload_n (q := 2) dL_lightRow_0 rfl rfl)) <|
  z_ac (j := 2) rfl (z_eI (sp_iconst dL_lightRow_1 (by decide +kernel) rfl)) <|
  z_ac (j := 3) rfl (z_eI (sp_aload_n (q := 0) dL_lightRow_2 rfl rfl)) <|
  z_ac (j := 4) rfl (z_eI (sp_iload_n (q := 1) dL_lightRow_3 rfl rfl)) <|
  z_ac (j := 5) rfl (z_cV dL_lightRow_4 wl_1013 qX8_lightRow (by decide +kernel) ⟨_, _, rfl⟩ shL_lightRow rfl) <|
  z_ac (j := 6) rfl (z_eI (sp_i2l dL_lightRow_7 rfl)) <|
  z_ac (j := 7) rfl (z_eI (sp_last dL_lightRow_8 rfl)) <|
  z_ac (j := 8) rfl (z_eI (sp_goto dL_lightRow_9 rfl)) <|
  z_ac (j := 9) rfl (z_eI (sp_astore_n (q := 3) dL_lightRow_12 rfl (by decide) (fun _ _ => rfl) rfl)) <|
  z_ac (j := 10) rfl (z_eI (sp_iconst dL_lightRow_13 (by decide +kernel) rfl)) <|
  z_ac (j := 11) rfl (z_eR (sr_int dL_lightRow_14 rfl)) <|
  z_ac (j := 12) rfl (z_eI (sp_iconst dL_lightRow_15 (by decide +kernel) rfl)) <|
  z_ac (j := 13) rfl (z_eR (sr_int dL_lightRow_16 rfl)) <| z_an
theorem dL_brightness_0 : decode cL_brightness 0 = .ok (.aload_n 2, 1) := by decide +kernel
theorem dL_brightness_1 : decode cL_brightness 1 = .ok (.iconst 0, 1) := by decide +kernel
theorem dL_brightness_2 : decode cL_brightness 2 = .ok (.aload_n 0, 1) := by decide +kernel
theorem dL_brightness_3 : decode cL_brightness 3 = .ok (.iload_n 1, 1) := by decide +kernel
theorem dL_brightness_4 : decode cL_brightness 4 = .ok (.invokevirtual 62, 3) := by decide +kernel
theorem dL_brightness_7 : decode cL_brightness 7 = .ok (.i2l, 1) := by decide +kernel
theorem dL_brightness_8 : decode cL_brightness 8 = .ok (.lastore, 1) := by decide +kernel
theorem dL_brightness_9 : decode cL_brightness 9 = .ok (.goto 6, 3) := by decide +kernel
theorem dL_brightness_12 : decode cL_brightness 12 = .ok (.astore_n 3, 1) := by decide +kernel
theorem dL_brightness_13 : decode cL_brightness 13 = .ok (.iconst 1, 1) := by decide +kernel
theorem dL_brightness_14 : decode cL_brightness 14 = .ok (.ireturn, 1) := by decide +kernel
theorem dL_brightness_15 : decode cL_brightness 15 = .ok (.iconst 0, 1) := by decide +kernel
theorem dL_brightness_16 : decode cL_brightness 16 = .ok (.ireturn, 1) := by decide +kernel
theorem shL_brightness {L : Nat} {xs : Nat → Int32} {N : Nat} : zSH L xs N 299 4 := z_sw [((0, 9, 12, 34), ("java/lang/IndexOutOfBoundsException", 1))] rfl rfl rfl (by
  intro r hr
  simp only [List.mem_cons, List.not_mem_nil, or_false] at hr
  rcases hr with rfl
  · exact ⟨by decide +kernel, by decide +kernel, wq_906, by decide +kernel, Or.inr ⟨_, _, dL_brightness_12, dL_brightness_13, by decide +kernel, dL_brightness_14, by decide +kernel⟩⟩)
theorem tL_brightness {L : Nat} {xs : Nat → Int32} {N : Nat} : z_AllE (zE L xs N 299) 0 (kL_brightness N) :=
  z_ac (j := 1) rfl (z_eI (sp_aload_n (q := 2) dL_brightness_0 rfl rfl)) <|
  z_ac (j := 2) rfl (z_eI (sp_iconst dL_brightness_1 (by decide +kernel) rfl)) <|
  z_ac (j := 3) rfl (z_eI (sp_aload_n (q := 0) dL_brightness_2 rfl rfl)) <|
  z_ac (j := 4) rfl (z_eI (sp_iload_n (q := 1) dL_brightness_3 rfl rfl)) <|
  z_ac (j := 5) rfl (z_cV dL_brightness_4 wl_1023 qX8_brightness (by decide +kernel) ⟨_, _, rfl⟩ shL_brightness rfl) <|
  z_ac (j := 6) rfl (z_eI (sp_i2l dL_brightness_7 rfl)) <|
  z_ac (j := 7) rfl (z_eI (sp_last dL_brightness_8 rfl)) <|
  z_ac (j := 8) rfl (z_eI (sp_goto dL_brightness_9 rfl)) <|
  z_ac (j := 9) rfl (z_eI (sp_astore_n (q := 3) dL_brightness_12 rfl (by decide) (fun _ _ => rfl) rfl)) <|
  z_ac (j := 10) rfl (z_eI (sp_iconst dL_brightness_13 (by decide +kernel) rfl)) <|
  z_ac (j := 11) rfl (z_eR (sr_int dL_brightness_14 rfl)) <|
  z_ac (j := 12) rfl (z_eI (sp_iconst dL_brightness_15 (by decide +kernel) rfl)) <|
  z_ac (j := 13) rfl (z_eR (sr_int dL_brightness_16 rfl)) <| z_an
theorem dL_isTrueLight_0 : decode cL_isTrueLight 0 = .ok (.aload_n 2, 1) := by decide +kernel
theorem dL_isTrueLight_1 : decode cL_isTrueLight 1 = .ok (.iconst 0, 1) := by decide +kernel
theorem dL_isTrueLight_2 : decode cL_isTrueLight 2 = .ok (.aload_n 0, 1) := by decide +kernel
theorem dL_isTrueLight_3 : decode cL_isTrueLight 3 = .ok (.iload_n 1, 1) := by decide +kernel
theorem dL_isTrueLight_4 : decode cL_isTrueLight 4 = .ok (.invokevirtual 65, 3) := by decide +kernel
theorem dL_isTrueLight_7 : decode cL_isTrueLight 7 = .ok (.ifCond .eq 7, 3) := by decide +kernel
theorem dL_isTrueLight_10 : decode cL_isTrueLight 10 = .ok (.lconst 1, 1) := by decide +kernel
theorem dL_isTrueLight_11 : decode cL_isTrueLight 11 = .ok (.goto 4, 3) := by decide +kernel
theorem dL_isTrueLight_14 : decode cL_isTrueLight 14 = .ok (.lconst 0, 1) := by decide +kernel
theorem dL_isTrueLight_15 : decode cL_isTrueLight 15 = .ok (.lastore, 1) := by decide +kernel
theorem dL_isTrueLight_16 : decode cL_isTrueLight 16 = .ok (.goto 6, 3) := by decide +kernel
theorem dL_isTrueLight_19 : decode cL_isTrueLight 19 = .ok (.astore_n 3, 1) := by decide +kernel
theorem dL_isTrueLight_20 : decode cL_isTrueLight 20 = .ok (.iconst 1, 1) := by decide +kernel
theorem dL_isTrueLight_21 : decode cL_isTrueLight 21 = .ok (.ireturn, 1) := by decide +kernel
theorem dL_isTrueLight_22 : decode cL_isTrueLight 22 = .ok (.iconst 0, 1) := by decide +kernel
theorem dL_isTrueLight_23 : decode cL_isTrueLight 23 = .ok (.ireturn, 1) := by decide +kernel
theorem shL_isTrueLight {L : Nat} {xs : Nat → Int32} {N : Nat} : zSH L xs N 300 4 := z_sw [((0, 16, 19, 34), ("java/lang/IndexOutOfBoundsException", 1))] rfl rfl rfl (by
  intro r hr
  simp only [List.mem_cons, List.not_mem_nil, or_false] at hr
  rcases hr with rfl
  · exact ⟨by decide +kernel, by decide +kernel, wq_906, by decide +kernel, Or.inr ⟨_, _, dL_isTrueLight_19, dL_isTrueLight_20, by decide +kernel, dL_isTrueLight_21, by decide +kernel⟩⟩)
theorem tL_isTrueLight {L : Nat} {xs : Nat → Int32} {N : Nat} : z_AllE (zE L xs N 300) 0 (kL_isTrueLight N) :=
  z_ac (j := 1) rfl (z_eI (sp_aload_n (q := 2) dL_isTrueLight_0 rfl rfl)) <|
  z_ac (j := 2) rfl (z_eI (sp_iconst dL_isTrueLight_1 (by decide +kernel) rfl)) <|
  z_ac (j := 3) rfl (z_eI (sp_aload_n (q := 0) dL_isTrueLight_2 rfl rfl)) <|
  z_ac (j := 4) rfl (z_eI (sp_iload_n (q := 1) dL_isTrueLight_3 rfl rfl)) <|
  z_ac (j := 5) rfl (z_cV dL_isTrueLight_4 wl_1030 qX8_isTrueLight (by decide +kernel) ⟨_, _, rfl⟩ shL_isTrueLight rfl) <|
  z_ac (j := 6) rfl (z_eI (sp_if_eq dL_isTrueLight_7 rfl rfl)) <|
  z_ac (j := 7) rfl (z_eI (sp_lconst (n := 1) dL_isTrueLight_10 (by decide +kernel) rfl)) <|
  z_ac (j := 8) rfl (z_eI (sp_goto dL_isTrueLight_11 rfl)) <|
  z_ac (j := 9) rfl (z_eI (sp_lconst (n := 0) dL_isTrueLight_14 (by decide +kernel) rfl)) <|
  z_ac (j := 10) rfl (z_eI (sp_last dL_isTrueLight_15 rfl)) <|
  z_ac (j := 11) rfl (z_eI (sp_goto dL_isTrueLight_16 rfl)) <|
  z_ac (j := 12) rfl (z_eI (sp_astore_n (q := 3) dL_isTrueLight_19 rfl (by decide) (fun _ _ => rfl) rfl)) <|
  z_ac (j := 13) rfl (z_eI (sp_iconst dL_isTrueLight_20 (by decide +kernel) rfl)) <|
  z_ac (j := 14) rfl (z_eR (sr_int dL_isTrueLight_21 rfl)) <|
  z_ac (j := 15) rfl (z_eI (sp_iconst dL_isTrueLight_22 (by decide +kernel) rfl)) <|
  z_ac (j := 16) rfl (z_eR (sr_int dL_isTrueLight_23 rfl)) <| z_an
theorem dL_hasSuccessor_0 : decode cL_hasSuccessor 0 = .ok (.aload_n 2, 1) := by decide +kernel
theorem dL_hasSuccessor_1 : decode cL_hasSuccessor 1 = .ok (.iconst 0, 1) := by decide +kernel
theorem dL_hasSuccessor_2 : decode cL_hasSuccessor 2 = .ok (.aload_n 0, 1) := by decide +kernel
theorem dL_hasSuccessor_3 : decode cL_hasSuccessor 3 = .ok (.iload_n 1, 1) := by decide +kernel
theorem dL_hasSuccessor_4 : decode cL_hasSuccessor 4 = .ok (.invokevirtual 69, 3) := by decide +kernel
theorem dL_hasSuccessor_7 : decode cL_hasSuccessor 7 = .ok (.ifCond .eq 7, 3) := by decide +kernel
theorem dL_hasSuccessor_10 : decode cL_hasSuccessor 10 = .ok (.lconst 1, 1) := by decide +kernel
theorem dL_hasSuccessor_11 : decode cL_hasSuccessor 11 = .ok (.goto 4, 3) := by decide +kernel
theorem dL_hasSuccessor_14 : decode cL_hasSuccessor 14 = .ok (.lconst 0, 1) := by decide +kernel
theorem dL_hasSuccessor_15 : decode cL_hasSuccessor 15 = .ok (.lastore, 1) := by decide +kernel
theorem dL_hasSuccessor_16 : decode cL_hasSuccessor 16 = .ok (.goto 6, 3) := by decide +kernel
theorem dL_hasSuccessor_19 : decode cL_hasSuccessor 19 = .ok (.astore_n 3, 1) := by decide +kernel
theorem dL_hasSuccessor_20 : decode cL_hasSuccessor 20 = .ok (.iconst 1, 1) := by decide +kernel
theorem dL_hasSuccessor_21 : decode cL_hasSuccessor 21 = .ok (.ireturn, 1) := by decide +kernel
theorem dL_hasSuccessor_22 : decode cL_hasSuccessor 22 = .ok (.iconst 0, 1) := by decide +kernel
theorem dL_hasSuccessor_23 : decode cL_hasSuccessor 23 = .ok (.ireturn, 1) := by decide +kernel
theorem shL_hasSuccessor {L : Nat} {xs : Nat → Int32} {N : Nat} : zSH L xs N 301 4 := z_sw [((0, 16, 19, 34), ("java/lang/IndexOutOfBoundsException", 1))] rfl rfl rfl (by
  intro r hr
  simp only [List.mem_cons, List.not_mem_nil, or_false] at hr
  rcases hr with rfl
  · exact ⟨by decide +kernel, by decide +kernel, wq_906, by decide +kernel, Or.inr ⟨_, _, dL_hasSuccessor_19, dL_hasSuccessor_20, by decide +kernel, dL_hasSuccessor_21, by decide +kernel⟩⟩)
theorem tL_hasSuccessor {L : Nat} {xs : Nat → Int32} {N : Nat} : z_AllE (zE L xs N 301) 0 (kL_hasSuccessor N) :=
  z_ac (j := 1) rfl (z_eI (sp_aload_n (q := 2) dL_hasSuccessor_0 rfl rfl)) <|
  z_ac (j := 2) rfl (z_eI (sp_iconst dL_hasSuccessor_1 (by decide +kernel) rfl)) <|
  z_ac (j := 3) rfl (z_eI (sp_aload_n (q := 0) dL_hasSuccessor_2 rfl rfl)) <|
  z_ac (j := 4) rfl (z_eI (sp_iload_n (q := 1) dL_hasSuccessor_3 rfl rfl)) <|
  z_ac (j := 5) rfl (z_cV dL_hasSuccessor_4 wl_1038 qX8_hasSuccessor (by decide +kernel) ⟨_, _, rfl⟩ shL_hasSuccessor rfl) <|
  z_ac (j := 6) rfl (z_eI (sp_if_eq dL_hasSuccessor_7 rfl rfl)) <|
  z_ac (j := 7) rfl (z_eI (sp_lconst (n := 1) dL_hasSuccessor_10 (by decide +kernel) rfl)) <|
  z_ac (j := 8) rfl (z_eI (sp_goto dL_hasSuccessor_11 rfl)) <|
  z_ac (j := 9) rfl (z_eI (sp_lconst (n := 0) dL_hasSuccessor_14 (by decide +kernel) rfl)) <|
  z_ac (j := 10) rfl (z_eI (sp_last dL_hasSuccessor_15 rfl)) <|
  z_ac (j := 11) rfl (z_eI (sp_goto dL_hasSuccessor_16 rfl)) <|
  z_ac (j := 12) rfl (z_eI (sp_astore_n (q := 3) dL_hasSuccessor_19 rfl (by decide) (fun _ _ => rfl) rfl)) <|
  z_ac (j := 13) rfl (z_eI (sp_iconst dL_hasSuccessor_20 (by decide +kernel) rfl)) <|
  z_ac (j := 14) rfl (z_eR (sr_int dL_hasSuccessor_21 rfl)) <|
  z_ac (j := 15) rfl (z_eI (sp_iconst dL_hasSuccessor_22 (by decide +kernel) rfl)) <|
  z_ac (j := 16) rfl (z_eR (sr_int dL_hasSuccessor_23 rfl)) <| z_an
theorem dL_successor_0 : decode cL_successor 0 = .ok (.aload_n 2, 1) := by decide +kernel
theorem dL_successor_1 : decode cL_successor 1 = .ok (.iconst 0, 1) := by decide +kernel
theorem dL_successor_2 : decode cL_successor 2 = .ok (.aload_n 0, 1) := by decide +kernel
theorem dL_successor_3 : decode cL_successor 3 = .ok (.iload_n 1, 1) := by decide +kernel
theorem dL_successor_4 : decode cL_successor 4 = .ok (.invokevirtual 72, 3) := by decide +kernel
theorem dL_successor_7 : decode cL_successor 7 = .ok (.i2l, 1) := by decide +kernel
theorem dL_successor_8 : decode cL_successor 8 = .ok (.lastore, 1) := by decide +kernel
theorem dL_successor_9 : decode cL_successor 9 = .ok (.goto 9, 3) := by decide +kernel
theorem dL_successor_12 : decode cL_successor 12 = .ok (.astore_n 3, 1) := by decide +kernel
theorem dL_successor_13 : decode cL_successor 13 = .ok (.iconst 1, 1) := by decide +kernel
theorem dL_successor_14 : decode cL_successor 14 = .ok (.ireturn, 1) := by decide +kernel
theorem dL_successor_15 : decode cL_successor 15 = .ok (.astore_n 3, 1) := by decide +kernel
theorem dL_successor_16 : decode cL_successor 16 = .ok (.iconst 2, 1) := by decide +kernel
theorem dL_successor_17 : decode cL_successor 17 = .ok (.ireturn, 1) := by decide +kernel
theorem dL_successor_18 : decode cL_successor 18 = .ok (.iconst 0, 1) := by decide +kernel
theorem dL_successor_19 : decode cL_successor 19 = .ok (.ireturn, 1) := by decide +kernel
theorem shL_successor {L : Nat} {xs : Nat → Int32} {N : Nat} : zSH L xs N 302 4 := z_sw [((0, 9, 12, 34), ("java/lang/IndexOutOfBoundsException", 1)), ((0, 9, 15, 28), ("java/util/NoSuchElementException", 2))] rfl rfl rfl (by
  intro r hr
  simp only [List.mem_cons, List.not_mem_nil, or_false] at hr
  rcases hr with rfl | rfl
  · exact ⟨by decide +kernel, by decide +kernel, wq_906, by decide +kernel, Or.inr ⟨_, _, dL_successor_12, dL_successor_13, by decide +kernel, dL_successor_14, by decide +kernel⟩⟩
  · exact ⟨by decide +kernel, by decide +kernel, wq_882, by decide +kernel, Or.inr ⟨_, _, dL_successor_15, dL_successor_16, by decide +kernel, dL_successor_17, by decide +kernel⟩⟩)
theorem tL_successor {L : Nat} {xs : Nat → Int32} {N : Nat} : z_AllE (zE L xs N 302) 0 (kL_successor N) :=
  z_ac (j := 1) rfl (z_eI (sp_aload_n (q := 2) dL_successor_0 rfl rfl)) <|
  z_ac (j := 2) rfl (z_eI (sp_iconst dL_successor_1 (by decide +kernel) rfl)) <|
  z_ac (j := 3) rfl (z_eI (sp_aload_n (q := 0) dL_successor_2 rfl rfl)) <|
  z_ac (j := 4) rfl (z_eI (sp_iload_n (q := 1) dL_successor_3 rfl rfl)) <|
  z_ac (j := 5) rfl (z_cV dL_successor_4 wl_1045 qX8_successor (by decide +kernel) ⟨_, _, rfl⟩ shL_successor rfl) <|
  z_ac (j := 6) rfl (z_eI (sp_i2l dL_successor_7 rfl)) <|
  z_ac (j := 7) rfl (z_eI (sp_last dL_successor_8 rfl)) <|
  z_ac (j := 8) rfl (z_eI (sp_goto dL_successor_9 rfl)) <|
  z_ac (j := 9) rfl (z_eI (sp_astore_n (q := 3) dL_successor_12 rfl (by decide) (fun _ _ => rfl) rfl)) <|
  z_ac (j := 10) rfl (z_eI (sp_iconst dL_successor_13 (by decide +kernel) rfl)) <|
  z_ac (j := 11) rfl (z_eR (sr_int dL_successor_14 rfl)) <|
  z_ac (j := 12) rfl (z_eI (sp_astore_n (q := 3) dL_successor_15 rfl (by decide) (fun _ _ => rfl) rfl)) <|
  z_ac (j := 13) rfl (z_eI (sp_iconst dL_successor_16 (by decide +kernel) rfl)) <|
  z_ac (j := 14) rfl (z_eR (sr_int dL_successor_17 rfl)) <|
  z_ac (j := 15) rfl (z_eI (sp_iconst dL_successor_18 (by decide +kernel) rfl)) <|
  z_ac (j := 16) rfl (z_eR (sr_int dL_successor_19 rfl)) <| z_an
theorem dL_followers_0 : decode cL_followers 0 = .ok (.aload_n 2, 1) := by decide +kernel
theorem dL_followers_1 : decode cL_followers 1 = .ok (.iconst 0, 1) := by decide +kernel
theorem dL_followers_2 : decode cL_followers 2 = .ok (.aload_n 0, 1) := by decide +kernel
theorem dL_followers_3 : decode cL_followers 3 = .ok (.iload_n 1, 1) := by decide +kernel
theorem dL_followers_4 : decode cL_followers 4 = .ok (.invokevirtual 75, 3) := by decide +kernel
theorem dL_followers_7 : decode cL_followers 7 = .ok (.i2l, 1) := by decide +kernel
theorem dL_followers_8 : decode cL_followers 8 = .ok (.lastore, 1) := by decide +kernel
theorem dL_followers_9 : decode cL_followers 9 = .ok (.goto 6, 3) := by decide +kernel
theorem dL_followers_12 : decode cL_followers 12 = .ok (.astore_n 3, 1) := by decide +kernel
theorem dL_followers_13 : decode cL_followers 13 = .ok (.iconst 1, 1) := by decide +kernel
theorem dL_followers_14 : decode cL_followers 14 = .ok (.ireturn, 1) := by decide +kernel
theorem dL_followers_15 : decode cL_followers 15 = .ok (.iconst 0, 1) := by decide +kernel
theorem dL_followers_16 : decode cL_followers 16 = .ok (.ireturn, 1) := by decide +kernel
theorem shL_followers {L : Nat} {xs : Nat → Int32} {N : Nat} : zSH L xs N 303 4 := z_sw [((0, 9, 12, 34), ("java/lang/IndexOutOfBoundsException", 1))] rfl rfl rfl (by
  intro r hr
  simp only [List.mem_cons, List.not_mem_nil, or_false] at hr
  rcases hr with rfl
  · exact ⟨by decide +kernel, by decide +kernel, wq_906, by decide +kernel, Or.inr ⟨_, _, dL_followers_12, dL_followers_13, by decide +kernel, dL_followers_14, by decide +kernel⟩⟩)
theorem tL_followers {L : Nat} {xs : Nat → Int32} {N : Nat} : z_AllE (zE L xs N 303) 0 (kL_followers N) :=
  z_ac (j := 1) rfl (z_eI (sp_aload_n (q := 2) dL_followers_0 rfl rfl)) <|
  z_ac (j := 2) rfl (z_eI (sp_iconst dL_followers_1 (by decide +kernel) rfl)) <|
  z_ac (j := 3) rfl (z_eI (sp_aload_n (q := 0) dL_followers_2 rfl rfl)) <|
  z_ac (j := 4) rfl (z_eI (sp_iload_n (q := 1) dL_followers_3 rfl rfl)) <|
  z_ac (j := 5) rfl (z_cV dL_followers_4 wl_1057 qX8_followers (by decide +kernel) ⟨_, _, rfl⟩ shL_followers rfl) <|
  z_ac (j := 6) rfl (z_eI (sp_i2l dL_followers_7 rfl)) <|
  z_ac (j := 7) rfl (z_eI (sp_last dL_followers_8 rfl)) <|
  z_ac (j := 8) rfl (z_eI (sp_goto dL_followers_9 rfl)) <|
  z_ac (j := 9) rfl (z_eI (sp_astore_n (q := 3) dL_followers_12 rfl (by decide) (fun _ _ => rfl) rfl)) <|
  z_ac (j := 10) rfl (z_eI (sp_iconst dL_followers_13 (by decide +kernel) rfl)) <|
  z_ac (j := 11) rfl (z_eR (sr_int dL_followers_14 rfl)) <|
  z_ac (j := 12) rfl (z_eI (sp_iconst dL_followers_15 (by decide +kernel) rfl)) <|
  z_ac (j := 13) rfl (z_eR (sr_int dL_followers_16 rfl)) <| z_an
theorem dL_leadsAstray_0 : decode cL_leadsAstray 0 = .ok (.aload_n 2, 1) := by decide +kernel
theorem dL_leadsAstray_1 : decode cL_leadsAstray 1 = .ok (.iconst 0, 1) := by decide +kernel
theorem dL_leadsAstray_2 : decode cL_leadsAstray 2 = .ok (.aload_n 0, 1) := by decide +kernel
theorem dL_leadsAstray_3 : decode cL_leadsAstray 3 = .ok (.iload_n 1, 1) := by decide +kernel
theorem dL_leadsAstray_4 : decode cL_leadsAstray 4 = .ok (.invokevirtual 78, 3) := by decide +kernel
theorem dL_leadsAstray_7 : decode cL_leadsAstray 7 = .ok (.ifCond .eq 7, 3) := by decide +kernel
theorem dL_leadsAstray_10 : decode cL_leadsAstray 10 = .ok (.lconst 1, 1) := by decide +kernel
theorem dL_leadsAstray_11 : decode cL_leadsAstray 11 = .ok (.goto 4, 3) := by decide +kernel
theorem dL_leadsAstray_14 : decode cL_leadsAstray 14 = .ok (.lconst 0, 1) := by decide +kernel
theorem dL_leadsAstray_15 : decode cL_leadsAstray 15 = .ok (.lastore, 1) := by decide +kernel
theorem dL_leadsAstray_16 : decode cL_leadsAstray 16 = .ok (.goto 6, 3) := by decide +kernel
theorem dL_leadsAstray_19 : decode cL_leadsAstray 19 = .ok (.astore_n 3, 1) := by decide +kernel
theorem dL_leadsAstray_20 : decode cL_leadsAstray 20 = .ok (.iconst 1, 1) := by decide +kernel
theorem dL_leadsAstray_21 : decode cL_leadsAstray 21 = .ok (.ireturn, 1) := by decide +kernel
theorem dL_leadsAstray_22 : decode cL_leadsAstray 22 = .ok (.iconst 0, 1) := by decide +kernel
theorem dL_leadsAstray_23 : decode cL_leadsAstray 23 = .ok (.ireturn, 1) := by decide +kernel
theorem shL_leadsAstray {L : Nat} {xs : Nat → Int32} {N : Nat} : zSH L xs N 304 4 := z_sw [((0, 16, 19, 34), ("java/lang/IndexOutOfBoundsException", 1))] rfl rfl rfl (by
  intro r hr
  simp only [List.mem_cons, List.not_mem_nil, or_false] at hr
  rcases hr with rfl
  · exact ⟨by decide +kernel, by decide +kernel, wq_906, by decide +kernel, Or.inr ⟨_, _, dL_leadsAstray_19, dL_leadsAstray_20, by decide +kernel, dL_leadsAstray_21, by decide +kernel⟩⟩)
theorem tL_leadsAstray {L : Nat} {xs : Nat → Int32} {N : Nat} : z_AllE (zE L xs N 304) 0 (kL_leadsAstray N) :=
  z_ac (j := 1) rfl (z_eI (sp_aload_n (q := 2) dL_leadsAstray_0 rfl rfl)) <|
  z_ac (j := 2) rfl (z_eI (sp_iconst dL_leadsAstray_1 (by decide +kernel) rfl)) <|
  z_ac (j := 3) rfl (z_eI (sp_aload_n (q := 0) dL_leadsAstray_2 rfl rfl)) <|
  z_ac (j := 4) rfl (z_eI (sp_iload_n (q := 1) dL_leadsAstray_3 rfl rfl)) <|
  z_ac (j := 5) rfl (z_cV dL_leadsAstray_4 wl_1068 qX8_leadsAstray (by decide +kernel) ⟨_, _, rfl⟩ shL_leadsAstray rfl) <|
  z_ac (j := 6) rfl (z_eI (sp_if_eq dL_leadsAstray_7 rfl rfl)) <|
  z_ac (j := 7) rfl (z_eI (sp_lconst (n := 1) dL_leadsAstray_10 (by decide +kernel) rfl)) <|
  z_ac (j := 8) rfl (z_eI (sp_goto dL_leadsAstray_11 rfl)) <|
  z_ac (j := 9) rfl (z_eI (sp_lconst (n := 0) dL_leadsAstray_14 (by decide +kernel) rfl)) <|
  z_ac (j := 10) rfl (z_eI (sp_last dL_leadsAstray_15 rfl)) <|
  z_ac (j := 11) rfl (z_eI (sp_goto dL_leadsAstray_16 rfl)) <|
  z_ac (j := 12) rfl (z_eI (sp_astore_n (q := 3) dL_leadsAstray_19 rfl (by decide) (fun _ _ => rfl) rfl)) <|
  z_ac (j := 13) rfl (z_eI (sp_iconst dL_leadsAstray_20 (by decide +kernel) rfl)) <|
  z_ac (j := 14) rfl (z_eR (sr_int dL_leadsAstray_21 rfl)) <|
  z_ac (j := 15) rfl (z_eI (sp_iconst dL_leadsAstray_22 (by decide +kernel) rfl)) <|
  z_ac (j := 16) rfl (z_eR (sr_int dL_leadsAstray_23 rfl)) <| z_an
theorem dL_travellerColumn_0 : decode cL_travellerColumn 0 = .ok (.aload_n 2, 1) := by decide +kernel
theorem dL_travellerColumn_1 : decode cL_travellerColumn 1 = .ok (.iconst 0, 1) := by decide +kernel
theorem dL_travellerColumn_2 : decode cL_travellerColumn 2 = .ok (.aload_n 0, 1) := by decide +kernel
theorem dL_travellerColumn_3 : decode cL_travellerColumn 3 = .ok (.iload_n 1, 1) := by decide +kernel
theorem dL_travellerColumn_4 : decode cL_travellerColumn 4 = .ok (.invokevirtual 81, 3) := by decide +kernel
theorem dL_travellerColumn_7 : decode cL_travellerColumn 7 = .ok (.i2l, 1) := by decide +kernel
theorem dL_travellerColumn_8 : decode cL_travellerColumn 8 = .ok (.lastore, 1) := by decide +kernel
theorem dL_travellerColumn_9 : decode cL_travellerColumn 9 = .ok (.goto 6, 3) := by decide +kernel
theorem dL_travellerColumn_12 : decode cL_travellerColumn 12 = .ok (.astore_n 3, 1) := by decide +kernel
theorem dL_travellerColumn_13 : decode cL_travellerColumn 13 = .ok (.iconst 1, 1) := by decide +kernel
theorem dL_travellerColumn_14 : decode cL_travellerColumn 14 = .ok (.ireturn, 1) := by decide +kernel
theorem dL_travellerColumn_15 : decode cL_travellerColumn 15 = .ok (.iconst 0, 1) := by decide +kernel
theorem dL_travellerColumn_16 : decode cL_travellerColumn 16 = .ok (.ireturn, 1) := by decide +kernel
theorem shL_travellerColumn {L : Nat} {xs : Nat → Int32} {N : Nat} : zSH L xs N 305 4 := z_sw [((0, 9, 12, 34), ("java/lang/IndexOutOfBoundsException", 1))] rfl rfl rfl (by
  intro r hr
  simp only [List.mem_cons, List.not_mem_nil, or_false] at hr
  rcases hr with rfl
  · exact ⟨by decide +kernel, by decide +kernel, wq_906, by decide +kernel, Or.inr ⟨_, _, dL_travellerColumn_12, dL_travellerColumn_13, by decide +kernel, dL_travellerColumn_14, by decide +kernel⟩⟩)
theorem tL_travellerColumn {L : Nat} {xs : Nat → Int32} {N : Nat} : z_AllE (zE L xs N 305) 0 (kL_travellerColumn N) :=
  z_ac (j := 1) rfl (z_eI (sp_aload_n (q := 2) dL_travellerColumn_0 rfl rfl)) <|
  z_ac (j := 2) rfl (z_eI (sp_iconst dL_travellerColumn_1 (by decide +kernel) rfl)) <|
  z_ac (j := 3) rfl (z_eI (sp_aload_n (q := 0) dL_travellerColumn_2 rfl rfl)) <|
  z_ac (j := 4) rfl (z_eI (sp_iload_n (q := 1) dL_travellerColumn_3 rfl rfl)) <|
  z_ac (j := 5) rfl (z_cV dL_travellerColumn_4 wl_1081 qX8_travellerColumn (by decide +kernel) ⟨_, _, rfl⟩ shL_travellerColumn rfl) <|
  z_ac (j := 6) rfl (z_eI (sp_i2l dL_travellerColumn_7 rfl)) <|
  z_ac (j := 7) rfl (z_eI (sp_last dL_travellerColumn_8 rfl)) <|
  z_ac (j := 8) rfl (z_eI (sp_goto dL_travellerColumn_9 rfl)) <|
  z_ac (j := 9) rfl (z_eI (sp_astore_n (q := 3) dL_travellerColumn_12 rfl (by decide) (fun _ _ => rfl) rfl)) <|
  z_ac (j := 10) rfl (z_eI (sp_iconst dL_travellerColumn_13 (by decide +kernel) rfl)) <|
  z_ac (j := 11) rfl (z_eR (sr_int dL_travellerColumn_14 rfl)) <|
  z_ac (j := 12) rfl (z_eI (sp_iconst dL_travellerColumn_15 (by decide +kernel) rfl)) <|
  z_ac (j := 13) rfl (z_eR (sr_int dL_travellerColumn_16 rfl)) <| z_an
theorem dL_travellerRow_0 : decode cL_travellerRow 0 = .ok (.aload_n 2, 1) := by decide +kernel
theorem dL_travellerRow_1 : decode cL_travellerRow 1 = .ok (.iconst 0, 1) := by decide +kernel
theorem dL_travellerRow_2 : decode cL_travellerRow 2 = .ok (.aload_n 0, 1) := by decide +kernel
theorem dL_travellerRow_3 : decode cL_travellerRow 3 = .ok (.iload_n 1, 1) := by decide +kernel
theorem dL_travellerRow_4 : decode cL_travellerRow 4 = .ok (.invokevirtual 84, 3) := by decide +kernel
theorem dL_travellerRow_7 : decode cL_travellerRow 7 = .ok (.i2l, 1) := by decide +kernel
theorem dL_travellerRow_8 : decode cL_travellerRow 8 = .ok (.lastore, 1) := by decide +kernel
theorem dL_travellerRow_9 : decode cL_travellerRow 9 = .ok (.goto 6, 3) := by decide +kernel
theorem dL_travellerRow_12 : decode cL_travellerRow 12 = .ok (.astore_n 3, 1) := by decide +kernel
theorem dL_travellerRow_13 : decode cL_travellerRow 13 = .ok (.iconst 1, 1) := by decide +kernel
theorem dL_travellerRow_14 : decode cL_travellerRow 14 = .ok (.ireturn, 1) := by decide +kernel
theorem dL_travellerRow_15 : decode cL_travellerRow 15 = .ok (.iconst 0, 1) := by decide +kernel
theorem dL_travellerRow_16 : decode cL_travellerRow 16 = .ok (.ireturn, 1) := by decide +kernel
theorem shL_travellerRow {L : Nat} {xs : Nat → Int32} {N : Nat} : zSH L xs N 306 4 := z_sw [((0, 9, 12, 34), ("java/lang/IndexOutOfBoundsException", 1))] rfl rfl rfl (by
  intro r hr
  simp only [List.mem_cons, List.not_mem_nil, or_false] at hr
  rcases hr with rfl
  · exact ⟨by decide +kernel, by decide +kernel, wq_906, by decide +kernel, Or.inr ⟨_, _, dL_travellerRow_12, dL_travellerRow_13, by decide +kernel, dL_travellerRow_14, by decide +kernel⟩⟩)
theorem tL_travellerRow {L : Nat} {xs : Nat → Int32} {N : Nat} : z_AllE (zE L xs N 306) 0 (kL_travellerRow N) :=
  z_ac (j := 1) rfl (z_eI (sp_aload_n (q := 2) dL_travellerRow_0 rfl rfl)) <|
  z_ac (j := 2) rfl (z_eI (sp_iconst dL_travellerRow_1 (by decide +kernel) rfl)) <|
  z_ac (j := 3) rfl (z_eI (sp_aload_n (q := 0) dL_travellerRow_2 rfl rfl)) <|
  z_ac (j := 4) rfl (z_eI (sp_iload_n (q := 1) dL_travellerRow_3 rfl rfl)) <|
  z_ac (j := 5) rfl (z_cV dL_travellerRow_4 wl_1093 qX8_travellerRow (by decide +kernel) ⟨_, _, rfl⟩ shL_travellerRow rfl) <|
  z_ac (j := 6) rfl (z_eI (sp_i2l dL_travellerRow_7 rfl)) <|
  z_ac (j := 7) rfl (z_eI (sp_last dL_travellerRow_8 rfl)) <|
  z_ac (j := 8) rfl (z_eI (sp_goto dL_travellerRow_9 rfl)) <|
  z_ac (j := 9) rfl (z_eI (sp_astore_n (q := 3) dL_travellerRow_12 rfl (by decide) (fun _ _ => rfl) rfl)) <|
  z_ac (j := 10) rfl (z_eI (sp_iconst dL_travellerRow_13 (by decide +kernel) rfl)) <|
  z_ac (j := 11) rfl (z_eR (sr_int dL_travellerRow_14 rfl)) <|
  z_ac (j := 12) rfl (z_eI (sp_iconst dL_travellerRow_15 (by decide +kernel) rfl)) <|
  z_ac (j := 13) rfl (z_eR (sr_int dL_travellerRow_16 rfl)) <| z_an
theorem dL_isWalking_0 : decode cL_isWalking 0 = .ok (.aload_n 2, 1) := by decide +kernel
theorem dL_isWalking_1 : decode cL_isWalking 1 = .ok (.iconst 0, 1) := by decide +kernel
theorem dL_isWalking_2 : decode cL_isWalking 2 = .ok (.aload_n 0, 1) := by decide +kernel
theorem dL_isWalking_3 : decode cL_isWalking 3 = .ok (.iload_n 1, 1) := by decide +kernel
theorem dL_isWalking_4 : decode cL_isWalking 4 = .ok (.invokevirtual 87, 3) := by decide +kernel
theorem dL_isWalking_7 : decode cL_isWalking 7 = .ok (.ifCond .eq 7, 3) := by decide +kernel
theorem dL_isWalking_10 : decode cL_isWalking 10 = .ok (.lconst 1, 1) := by decide +kernel
theorem dL_isWalking_11 : decode cL_isWalking 11 = .ok (.goto 4, 3) := by decide +kernel
theorem dL_isWalking_14 : decode cL_isWalking 14 = .ok (.lconst 0, 1) := by decide +kernel
theorem dL_isWalking_15 : decode cL_isWalking 15 = .ok (.lastore, 1) := by decide +kernel
theorem dL_isWalking_16 : decode cL_isWalking 16 = .ok (.goto 6, 3) := by decide +kernel
theorem dL_isWalking_19 : decode cL_isWalking 19 = .ok (.astore_n 3, 1) := by decide +kernel
theorem dL_isWalking_20 : decode cL_isWalking 20 = .ok (.iconst 1, 1) := by decide +kernel
theorem dL_isWalking_21 : decode cL_isWalking 21 = .ok (.ireturn, 1) := by decide +kernel
theorem dL_isWalking_22 : decode cL_isWalking 22 = .ok (.iconst 0, 1) := by decide +kernel
theorem dL_isWalking_23 : decode cL_isWalking 23 = .ok (.ireturn, 1) := by decide +kernel
theorem shL_isWalking {L : Nat} {xs : Nat → Int32} {N : Nat} : zSH L xs N 307 4 := z_sw [((0, 16, 19, 34), ("java/lang/IndexOutOfBoundsException", 1))] rfl rfl rfl (by
  intro r hr
  simp only [List.mem_cons, List.not_mem_nil, or_false] at hr
  rcases hr with rfl
  · exact ⟨by decide +kernel, by decide +kernel, wq_906, by decide +kernel, Or.inr ⟨_, _, dL_isWalking_19, dL_isWalking_20, by decide +kernel, dL_isWalking_21, by decide +kernel⟩⟩)
theorem tL_isWalking {L : Nat} {xs : Nat → Int32} {N : Nat} : z_AllE (zE L xs N 307) 0 (kL_isWalking N) :=
  z_ac (j := 1) rfl (z_eI (sp_aload_n (q := 2) dL_isWalking_0 rfl rfl)) <|
  z_ac (j := 2) rfl (z_eI (sp_iconst dL_isWalking_1 (by decide +kernel) rfl)) <|
  z_ac (j := 3) rfl (z_eI (sp_aload_n (q := 0) dL_isWalking_2 rfl rfl)) <|
  z_ac (j := 4) rfl (z_eI (sp_iload_n (q := 1) dL_isWalking_3 rfl rfl)) <|
  z_ac (j := 5) rfl (z_cV dL_isWalking_4 wl_1100 qX8_isWalking (by decide +kernel) ⟨_, _, rfl⟩ shL_isWalking rfl) <|
  z_ac (j := 6) rfl (z_eI (sp_if_eq dL_isWalking_7 rfl rfl)) <|
  z_ac (j := 7) rfl (z_eI (sp_lconst (n := 1) dL_isWalking_10 (by decide +kernel) rfl)) <|
  z_ac (j := 8) rfl (z_eI (sp_goto dL_isWalking_11 rfl)) <|
  z_ac (j := 9) rfl (z_eI (sp_lconst (n := 0) dL_isWalking_14 (by decide +kernel) rfl)) <|
  z_ac (j := 10) rfl (z_eI (sp_last dL_isWalking_15 rfl)) <|
  z_ac (j := 11) rfl (z_eI (sp_goto dL_isWalking_16 rfl)) <|
  z_ac (j := 12) rfl (z_eI (sp_astore_n (q := 3) dL_isWalking_19 rfl (by decide) (fun _ _ => rfl) rfl)) <|
  z_ac (j := 13) rfl (z_eI (sp_iconst dL_isWalking_20 (by decide +kernel) rfl)) <|
  z_ac (j := 14) rfl (z_eR (sr_int dL_isWalking_21 rfl)) <|
  z_ac (j := 15) rfl (z_eI (sp_iconst dL_isWalking_22 (by decide +kernel) rfl)) <|
  z_ac (j := 16) rfl (z_eR (sr_int dL_isWalking_23 rfl)) <| z_an
theorem dL_hasArrived_0 : decode cL_hasArrived 0 = .ok (.aload_n 2, 1) := by decide +kernel
theorem dL_hasArrived_1 : decode cL_hasArrived 1 = .ok (.iconst 0, 1) := by decide +kernel
theorem dL_hasArrived_2 : decode cL_hasArrived 2 = .ok (.aload_n 0, 1) := by decide +kernel
theorem dL_hasArrived_3 : decode cL_hasArrived 3 = .ok (.iload_n 1, 1) := by decide +kernel
theorem dL_hasArrived_4 : decode cL_hasArrived 4 = .ok (.invokevirtual 90, 3) := by decide +kernel
theorem dL_hasArrived_7 : decode cL_hasArrived 7 = .ok (.ifCond .eq 7, 3) := by decide +kernel
theorem dL_hasArrived_10 : decode cL_hasArrived 10 = .ok (.lconst 1, 1) := by decide +kernel
theorem dL_hasArrived_11 : decode cL_hasArrived 11 = .ok (.goto 4, 3) := by decide +kernel
theorem dL_hasArrived_14 : decode cL_hasArrived 14 = .ok (.lconst 0, 1) := by decide +kernel
theorem dL_hasArrived_15 : decode cL_hasArrived 15 = .ok (.lastore, 1) := by decide +kernel
theorem dL_hasArrived_16 : decode cL_hasArrived 16 = .ok (.goto 6, 3) := by decide +kernel
theorem dL_hasArrived_19 : decode cL_hasArrived 19 = .ok (.astore_n 3, 1) := by decide +kernel
theorem dL_hasArrived_20 : decode cL_hasArrived 20 = .ok (.iconst 1, 1) := by decide +kernel
theorem dL_hasArrived_21 : decode cL_hasArrived 21 = .ok (.ireturn, 1) := by decide +kernel
theorem dL_hasArrived_22 : decode cL_hasArrived 22 = .ok (.iconst 0, 1) := by decide +kernel
theorem dL_hasArrived_23 : decode cL_hasArrived 23 = .ok (.ireturn, 1) := by decide +kernel
theorem shL_hasArrived {L : Nat} {xs : Nat → Int32} {N : Nat} : zSH L xs N 308 4 := z_sw [((0, 16, 19, 34), ("java/lang/IndexOutOfBoundsException", 1))] rfl rfl rfl (by
  intro r hr
  simp only [List.mem_cons, List.not_mem_nil, or_false] at hr
  rcases hr with rfl
  · exact ⟨by decide +kernel, by decide +kernel, wq_906, by decide +kernel, Or.inr ⟨_, _, dL_hasArrived_19, dL_hasArrived_20, by decide +kernel, dL_hasArrived_21, by decide +kernel⟩⟩)
theorem tL_hasArrived {L : Nat} {xs : Nat → Int32} {N : Nat} : z_AllE (zE L xs N 308) 0 (kL_hasArrived N) :=
  z_ac (j := 1) rfl (z_eI (sp_aload_n (q := 2) dL_hasArrived_0 rfl rfl)) <|
  z_ac (j := 2) rfl (z_eI (sp_iconst dL_hasArrived_1 (by decide +kernel) rfl)) <|
  z_ac (j := 3) rfl (z_eI (sp_aload_n (q := 0) dL_hasArrived_2 rfl rfl)) <|
  z_ac (j := 4) rfl (z_eI (sp_iload_n (q := 1) dL_hasArrived_3 rfl rfl)) <|
  z_ac (j := 5) rfl (z_cV dL_hasArrived_4 wl_1107 qX8_hasArrived (by decide +kernel) ⟨_, _, rfl⟩ shL_hasArrived rfl) <|
  z_ac (j := 6) rfl (z_eI (sp_if_eq dL_hasArrived_7 rfl rfl)) <|
  z_ac (j := 7) rfl (z_eI (sp_lconst (n := 1) dL_hasArrived_10 (by decide +kernel) rfl)) <|
  z_ac (j := 8) rfl (z_eI (sp_goto dL_hasArrived_11 rfl)) <|
  z_ac (j := 9) rfl (z_eI (sp_lconst (n := 0) dL_hasArrived_14 (by decide +kernel) rfl)) <|
  z_ac (j := 10) rfl (z_eI (sp_last dL_hasArrived_15 rfl)) <|
  z_ac (j := 11) rfl (z_eI (sp_goto dL_hasArrived_16 rfl)) <|
  z_ac (j := 12) rfl (z_eI (sp_astore_n (q := 3) dL_hasArrived_19 rfl (by decide) (fun _ _ => rfl) rfl)) <|
  z_ac (j := 13) rfl (z_eI (sp_iconst dL_hasArrived_20 (by decide +kernel) rfl)) <|
  z_ac (j := 14) rfl (z_eR (sr_int dL_hasArrived_21 rfl)) <|
  z_ac (j := 15) rfl (z_eI (sp_iconst dL_hasArrived_22 (by decide +kernel) rfl)) <|
  z_ac (j := 16) rfl (z_eR (sr_int dL_hasArrived_23 rfl)) <| z_an
theorem dL_hasSunk_0 : decode cL_hasSunk 0 = .ok (.aload_n 2, 1) := by decide +kernel
theorem dL_hasSunk_1 : decode cL_hasSunk 1 = .ok (.iconst 0, 1) := by decide +kernel
theorem dL_hasSunk_2 : decode cL_hasSunk 2 = .ok (.aload_n 0, 1) := by decide +kernel
theorem dL_hasSunk_3 : decode cL_hasSunk 3 = .ok (.iload_n 1, 1) := by decide +kernel
theorem dL_hasSunk_4 : decode cL_hasSunk 4 = .ok (.invokevirtual 93, 3) := by decide +kernel
theorem dL_hasSunk_7 : decode cL_hasSunk 7 = .ok (.ifCond .eq 7, 3) := by decide +kernel
theorem dL_hasSunk_10 : decode cL_hasSunk 10 = .ok (.lconst 1, 1) := by decide +kernel
theorem dL_hasSunk_11 : decode cL_hasSunk 11 = .ok (.goto 4, 3) := by decide +kernel
theorem dL_hasSunk_14 : decode cL_hasSunk 14 = .ok (.lconst 0, 1) := by decide +kernel
theorem dL_hasSunk_15 : decode cL_hasSunk 15 = .ok (.lastore, 1) := by decide +kernel
theorem dL_hasSunk_16 : decode cL_hasSunk 16 = .ok (.goto 6, 3) := by decide +kernel
theorem dL_hasSunk_19 : decode cL_hasSunk 19 = .ok (.astore_n 3, 1) := by decide +kernel
theorem dL_hasSunk_20 : decode cL_hasSunk 20 = .ok (.iconst 1, 1) := by decide +kernel
theorem dL_hasSunk_21 : decode cL_hasSunk 21 = .ok (.ireturn, 1) := by decide +kernel
theorem dL_hasSunk_22 : decode cL_hasSunk 22 = .ok (.iconst 0, 1) := by decide +kernel
theorem dL_hasSunk_23 : decode cL_hasSunk 23 = .ok (.ireturn, 1) := by decide +kernel
theorem shL_hasSunk {L : Nat} {xs : Nat → Int32} {N : Nat} : zSH L xs N 309 4 := z_sw [((0, 16, 19, 34), ("java/lang/IndexOutOfBoundsException", 1))] rfl rfl rfl (by
  intro r hr
  simp only [List.mem_cons, List.not_mem_nil, or_false] at hr
  rcases hr with rfl
  · exact ⟨by decide +kernel, by decide +kernel, wq_906, by decide +kernel, Or.inr ⟨_, _, dL_hasSunk_19, dL_hasSunk_20, by decide +kernel, dL_hasSunk_21, by decide +kernel⟩⟩)
theorem tL_hasSunk {L : Nat} {xs : Nat → Int32} {N : Nat} : z_AllE (zE L xs N 309) 0 (kL_hasSunk N) :=
  z_ac (j := 1) rfl (z_eI (sp_aload_n (q := 2) dL_hasSunk_0 rfl rfl)) <|
  z_ac (j := 2) rfl (z_eI (sp_iconst dL_hasSunk_1 (by decide +kernel) rfl)) <|
  z_ac (j := 3) rfl (z_eI (sp_aload_n (q := 0) dL_hasSunk_2 rfl rfl)) <|
  z_ac (j := 4) rfl (z_eI (sp_iload_n (q := 1) dL_hasSunk_3 rfl rfl)) <|
  z_ac (j := 5) rfl (z_cV dL_hasSunk_4 wl_1114 qX8_hasSunk (by decide +kernel) ⟨_, _, rfl⟩ shL_hasSunk rfl) <|
  z_ac (j := 6) rfl (z_eI (sp_if_eq dL_hasSunk_7 rfl rfl)) <|
  z_ac (j := 7) rfl (z_eI (sp_lconst (n := 1) dL_hasSunk_10 (by decide +kernel) rfl)) <|
  z_ac (j := 8) rfl (z_eI (sp_goto dL_hasSunk_11 rfl)) <|
  z_ac (j := 9) rfl (z_eI (sp_lconst (n := 0) dL_hasSunk_14 (by decide +kernel) rfl)) <|
  z_ac (j := 10) rfl (z_eI (sp_last dL_hasSunk_15 rfl)) <|
  z_ac (j := 11) rfl (z_eI (sp_goto dL_hasSunk_16 rfl)) <|
  z_ac (j := 12) rfl (z_eI (sp_astore_n (q := 3) dL_hasSunk_19 rfl (by decide) (fun _ _ => rfl) rfl)) <|
  z_ac (j := 13) rfl (z_eI (sp_iconst dL_hasSunk_20 (by decide +kernel) rfl)) <|
  z_ac (j := 14) rfl (z_eR (sr_int dL_hasSunk_21 rfl)) <|
  z_ac (j := 15) rfl (z_eI (sp_iconst dL_hasSunk_22 (by decide +kernel) rfl)) <|
  z_ac (j := 16) rfl (z_eR (sr_int dL_hasSunk_23 rfl)) <| z_an
theorem dL_stepsTaken_0 : decode cL_stepsTaken 0 = .ok (.aload_n 2, 1) := by decide +kernel
theorem dL_stepsTaken_1 : decode cL_stepsTaken 1 = .ok (.iconst 0, 1) := by decide +kernel
theorem dL_stepsTaken_2 : decode cL_stepsTaken 2 = .ok (.aload_n 0, 1) := by decide +kernel
theorem dL_stepsTaken_3 : decode cL_stepsTaken 3 = .ok (.iload_n 1, 1) := by decide +kernel
theorem dL_stepsTaken_4 : decode cL_stepsTaken 4 = .ok (.invokevirtual 96, 3) := by decide +kernel
theorem dL_stepsTaken_7 : decode cL_stepsTaken 7 = .ok (.i2l, 1) := by decide +kernel
theorem dL_stepsTaken_8 : decode cL_stepsTaken 8 = .ok (.lastore, 1) := by decide +kernel
theorem dL_stepsTaken_9 : decode cL_stepsTaken 9 = .ok (.goto 6, 3) := by decide +kernel
theorem dL_stepsTaken_12 : decode cL_stepsTaken 12 = .ok (.astore_n 3, 1) := by decide +kernel
theorem dL_stepsTaken_13 : decode cL_stepsTaken 13 = .ok (.iconst 1, 1) := by decide +kernel
theorem dL_stepsTaken_14 : decode cL_stepsTaken 14 = .ok (.ireturn, 1) := by decide +kernel
theorem dL_stepsTaken_15 : decode cL_stepsTaken 15 = .ok (.iconst 0, 1) := by decide +kernel
theorem dL_stepsTaken_16 : decode cL_stepsTaken 16 = .ok (.ireturn, 1) := by decide +kernel
theorem shL_stepsTaken {L : Nat} {xs : Nat → Int32} {N : Nat} : zSH L xs N 310 4 := z_sw [((0, 9, 12, 34), ("java/lang/IndexOutOfBoundsException", 1))] rfl rfl rfl (by
  intro r hr
  simp only [List.mem_cons, List.not_mem_nil, or_false] at hr
  rcases hr with rfl
  · exact ⟨by decide +kernel, by decide +kernel, wq_906, by decide +kernel, Or.inr ⟨_, _, dL_stepsTaken_12, dL_stepsTaken_13, by decide +kernel, dL_stepsTaken_14, by decide +kernel⟩⟩)
theorem tL_stepsTaken {L : Nat} {xs : Nat → Int32} {N : Nat} : z_AllE (zE L xs N 310) 0 (kL_stepsTaken N) :=
  z_ac (j := 1) rfl (z_eI (sp_aload_n (q := 2) dL_stepsTaken_0 rfl rfl)) <|
  z_ac (j := 2) rfl (z_eI (sp_iconst dL_stepsTaken_1 (by decide +kernel) rfl)) <|
  z_ac (j := 3) rfl (z_eI (sp_aload_n (q := 0) dL_stepsTaken_2 rfl rfl)) <|
  z_ac (j := 4) rfl (z_eI (sp_iload_n (q := 1) dL_stepsTaken_3 rfl rfl)) <|
  z_ac (j := 5) rfl (z_cV dL_stepsTaken_4 wl_1121 qX8_stepsTaken (by decide +kernel) ⟨_, _, rfl⟩ shL_stepsTaken rfl) <|
  z_ac (j := 6) rfl (z_eI (sp_i2l dL_stepsTaken_7 rfl)) <|
  z_ac (j := 7) rfl (z_eI (sp_last dL_stepsTaken_8 rfl)) <|
  z_ac (j := 8) rfl (z_eI (sp_goto dL_stepsTaken_9 rfl)) <|
  z_ac (j := 9) rfl (z_eI (sp_astore_n (q := 3) dL_stepsTaken_12 rfl (by decide) (fun _ _ => rfl) rfl)) <|
  z_ac (j := 10) rfl (z_eI (sp_iconst dL_stepsTaken_13 (by decide +kernel) rfl)) <|
  z_ac (j := 11) rfl (z_eR (sr_int dL_stepsTaken_14 rfl)) <|
  z_ac (j := 12) rfl (z_eI (sp_iconst dL_stepsTaken_15 (by decide +kernel) rfl)) <|
  z_ac (j := 13) rfl (z_eR (sr_int dL_stepsTaken_16 rfl)) <| z_an
theorem dL_hasTarget_0 : decode cL_hasTarget 0 = .ok (.aload_n 2, 1) := by decide +kernel
theorem dL_hasTarget_1 : decode cL_hasTarget 1 = .ok (.iconst 0, 1) := by decide +kernel
theorem dL_hasTarget_2 : decode cL_hasTarget 2 = .ok (.aload_n 0, 1) := by decide +kernel
theorem dL_hasTarget_3 : decode cL_hasTarget 3 = .ok (.iload_n 1, 1) := by decide +kernel
theorem dL_hasTarget_4 : decode cL_hasTarget 4 = .ok (.invokevirtual 99, 3) := by decide +kernel
theorem dL_hasTarget_7 : decode cL_hasTarget 7 = .ok (.ifCond .eq 7, 3) := by decide +kernel
theorem dL_hasTarget_10 : decode cL_hasTarget 10 = .ok (.lconst 1, 1) := by decide +kernel
theorem dL_hasTarget_11 : decode cL_hasTarget 11 = .ok (.goto 4, 3) := by decide +kernel
theorem dL_hasTarget_14 : decode cL_hasTarget 14 = .ok (.lconst 0, 1) := by decide +kernel
theorem dL_hasTarget_15 : decode cL_hasTarget 15 = .ok (.lastore, 1) := by decide +kernel
theorem dL_hasTarget_16 : decode cL_hasTarget 16 = .ok (.goto 6, 3) := by decide +kernel
theorem dL_hasTarget_19 : decode cL_hasTarget 19 = .ok (.astore_n 3, 1) := by decide +kernel
theorem dL_hasTarget_20 : decode cL_hasTarget 20 = .ok (.iconst 1, 1) := by decide +kernel
theorem dL_hasTarget_21 : decode cL_hasTarget 21 = .ok (.ireturn, 1) := by decide +kernel
theorem dL_hasTarget_22 : decode cL_hasTarget 22 = .ok (.iconst 0, 1) := by decide +kernel
theorem dL_hasTarget_23 : decode cL_hasTarget 23 = .ok (.ireturn, 1) := by decide +kernel
theorem shL_hasTarget {L : Nat} {xs : Nat → Int32} {N : Nat} : zSH L xs N 311 4 := z_sw [((0, 16, 19, 34), ("java/lang/IndexOutOfBoundsException", 1))] rfl rfl rfl (by
  intro r hr
  simp only [List.mem_cons, List.not_mem_nil, or_false] at hr
  rcases hr with rfl
  · exact ⟨by decide +kernel, by decide +kernel, wq_906, by decide +kernel, Or.inr ⟨_, _, dL_hasTarget_19, dL_hasTarget_20, by decide +kernel, dL_hasTarget_21, by decide +kernel⟩⟩)
theorem tL_hasTarget {L : Nat} {xs : Nat → Int32} {N : Nat} : z_AllE (zE L xs N 311) 0 (kL_hasTarget N) :=
  z_ac (j := 1) rfl (z_eI (sp_aload_n (q := 2) dL_hasTarget_0 rfl rfl)) <|
  z_ac (j := 2) rfl (z_eI (sp_iconst dL_hasTarget_1 (by decide +kernel) rfl)) <|
  z_ac (j := 3) rfl (z_eI (sp_aload_n (q := 0) dL_hasTarget_2 rfl rfl)) <|
  z_ac (j := 4) rfl (z_eI (sp_iload_n (q := 1) dL_hasTarget_3 rfl rfl)) <|
  z_ac (j := 5) rfl (z_cV dL_hasTarget_4 wl_1128 qX8_hasTarget (by decide +kernel) ⟨_, _, rfl⟩ shL_hasTarget rfl) <|
  z_ac (j := 6) rfl (z_eI (sp_if_eq dL_hasTarget_7 rfl rfl)) <|
  z_ac (j := 7) rfl (z_eI (sp_lconst (n := 1) dL_hasTarget_10 (by decide +kernel) rfl)) <|
  z_ac (j := 8) rfl (z_eI (sp_goto dL_hasTarget_11 rfl)) <|
  z_ac (j := 9) rfl (z_eI (sp_lconst (n := 0) dL_hasTarget_14 (by decide +kernel) rfl)) <|
  z_ac (j := 10) rfl (z_eI (sp_last dL_hasTarget_15 rfl)) <|
  z_ac (j := 11) rfl (z_eI (sp_goto dL_hasTarget_16 rfl)) <|
  z_ac (j := 12) rfl (z_eI (sp_astore_n (q := 3) dL_hasTarget_19 rfl (by decide) (fun _ _ => rfl) rfl)) <|
  z_ac (j := 13) rfl (z_eI (sp_iconst dL_hasTarget_20 (by decide +kernel) rfl)) <|
  z_ac (j := 14) rfl (z_eR (sr_int dL_hasTarget_21 rfl)) <|
  z_ac (j := 15) rfl (z_eI (sp_iconst dL_hasTarget_22 (by decide +kernel) rfl)) <|
  z_ac (j := 16) rfl (z_eR (sr_int dL_hasTarget_23 rfl)) <| z_an
theorem dL_target_0 : decode cL_target 0 = .ok (.aload_n 2, 1) := by decide +kernel
theorem dL_target_1 : decode cL_target 1 = .ok (.iconst 0, 1) := by decide +kernel
theorem dL_target_2 : decode cL_target 2 = .ok (.aload_n 0, 1) := by decide +kernel
theorem dL_target_3 : decode cL_target 3 = .ok (.iload_n 1, 1) := by decide +kernel
theorem dL_target_4 : decode cL_target 4 = .ok (.invokevirtual 102, 3) := by decide +kernel
theorem dL_target_7 : decode cL_target 7 = .ok (.i2l, 1) := by decide +kernel
theorem dL_target_8 : decode cL_target 8 = .ok (.lastore, 1) := by decide +kernel
theorem dL_target_9 : decode cL_target 9 = .ok (.goto 9, 3) := by decide +kernel
theorem dL_target_12 : decode cL_target 12 = .ok (.astore_n 3, 1) := by decide +kernel
theorem dL_target_13 : decode cL_target 13 = .ok (.iconst 1, 1) := by decide +kernel
theorem dL_target_14 : decode cL_target 14 = .ok (.ireturn, 1) := by decide +kernel
theorem dL_target_15 : decode cL_target 15 = .ok (.astore_n 3, 1) := by decide +kernel
theorem dL_target_16 : decode cL_target 16 = .ok (.iconst 2, 1) := by decide +kernel
theorem dL_target_17 : decode cL_target 17 = .ok (.ireturn, 1) := by decide +kernel
theorem dL_target_18 : decode cL_target 18 = .ok (.iconst 0, 1) := by decide +kernel
theorem dL_target_19 : decode cL_target 19 = .ok (.ireturn, 1) := by decide +kernel
theorem shL_target {L : Nat} {xs : Nat → Int32} {N : Nat} : zSH L xs N 312 4 := z_sw [((0, 9, 12, 34), ("java/lang/IndexOutOfBoundsException", 1)), ((0, 9, 15, 28), ("java/util/NoSuchElementException", 2))] rfl rfl rfl (by
  intro r hr
  simp only [List.mem_cons, List.not_mem_nil, or_false] at hr
  rcases hr with rfl | rfl
  · exact ⟨by decide +kernel, by decide +kernel, wq_906, by decide +kernel, Or.inr ⟨_, _, dL_target_12, dL_target_13, by decide +kernel, dL_target_14, by decide +kernel⟩⟩
  · exact ⟨by decide +kernel, by decide +kernel, wq_882, by decide +kernel, Or.inr ⟨_, _, dL_target_15, dL_target_16, by decide +kernel, dL_target_17, by decide +kernel⟩⟩)
theorem tL_target {L : Nat} {xs : Nat → Int32} {N : Nat} : z_AllE (zE L xs N 312) 0 (kL_target N) :=
  z_ac (j := 1) rfl (z_eI (sp_aload_n (q := 2) dL_target_0 rfl rfl)) <|
  z_ac (j := 2) rfl (z_eI (sp_iconst dL_target_1 (by decide +kernel) rfl)) <|
  z_ac (j := 3) rfl (z_eI (sp_aload_n (q := 0) dL_target_2 rfl rfl)) <|
  z_ac (j := 4) rfl (z_eI (sp_iload_n (q := 1) dL_target_3 rfl rfl)) <|
  z_ac (j := 5) rfl (z_cV dL_target_4 wl_1135 qX8_target (by decide +kernel) ⟨_, _, rfl⟩ shL_target rfl) <|
  z_ac (j := 6) rfl (z_eI (sp_i2l dL_target_7 rfl)) <|
  z_ac (j := 7) rfl (z_eI (sp_last dL_target_8 rfl)) <|
  z_ac (j := 8) rfl (z_eI (sp_goto dL_target_9 rfl)) <|
  z_ac (j := 9) rfl (z_eI (sp_astore_n (q := 3) dL_target_12 rfl (by decide) (fun _ _ => rfl) rfl)) <|
  z_ac (j := 10) rfl (z_eI (sp_iconst dL_target_13 (by decide +kernel) rfl)) <|
  z_ac (j := 11) rfl (z_eR (sr_int dL_target_14 rfl)) <|
  z_ac (j := 12) rfl (z_eI (sp_astore_n (q := 3) dL_target_15 rfl (by decide) (fun _ _ => rfl) rfl)) <|
  z_ac (j := 13) rfl (z_eI (sp_iconst dL_target_16 (by decide +kernel) rfl)) <|
  z_ac (j := 14) rfl (z_eR (sr_int dL_target_17 rfl)) <|
  z_ac (j := 15) rfl (z_eI (sp_iconst dL_target_18 (by decide +kernel) rfl)) <|
  z_ac (j := 16) rfl (z_eR (sr_int dL_target_19 rfl)) <| z_an
theorem dL_hasPassed_0 : decode cL_hasPassed 0 = .ok (.aload_n 3, 1) := by decide +kernel
theorem dL_hasPassed_1 : decode cL_hasPassed 1 = .ok (.iconst 0, 1) := by decide +kernel
theorem dL_hasPassed_2 : decode cL_hasPassed 2 = .ok (.aload_n 0, 1) := by decide +kernel
theorem dL_hasPassed_3 : decode cL_hasPassed 3 = .ok (.iload_n 1, 1) := by decide +kernel
theorem dL_hasPassed_4 : decode cL_hasPassed 4 = .ok (.iload_n 2, 1) := by decide +kernel
theorem dL_hasPassed_5 : decode cL_hasPassed 5 = .ok (.invokevirtual 105, 3) := by decide +kernel
theorem dL_hasPassed_8 : decode cL_hasPassed 8 = .ok (.ifCond .eq 7, 3) := by decide +kernel
theorem dL_hasPassed_11 : decode cL_hasPassed 11 = .ok (.lconst 1, 1) := by decide +kernel
theorem dL_hasPassed_12 : decode cL_hasPassed 12 = .ok (.goto 4, 3) := by decide +kernel
theorem dL_hasPassed_15 : decode cL_hasPassed 15 = .ok (.lconst 0, 1) := by decide +kernel
theorem dL_hasPassed_16 : decode cL_hasPassed 16 = .ok (.lastore, 1) := by decide +kernel
theorem dL_hasPassed_17 : decode cL_hasPassed 17 = .ok (.goto 7, 3) := by decide +kernel
theorem dL_hasPassed_20 : decode cL_hasPassed 20 = .ok (.astore 4, 2) := by decide +kernel
theorem dL_hasPassed_22 : decode cL_hasPassed 22 = .ok (.iconst 1, 1) := by decide +kernel
theorem dL_hasPassed_23 : decode cL_hasPassed 23 = .ok (.ireturn, 1) := by decide +kernel
theorem dL_hasPassed_24 : decode cL_hasPassed 24 = .ok (.iconst 0, 1) := by decide +kernel
theorem dL_hasPassed_25 : decode cL_hasPassed 25 = .ok (.ireturn, 1) := by decide +kernel
theorem shL_hasPassed {L : Nat} {xs : Nat → Int32} {N : Nat} : zSH L xs N 313 5 := z_sw [((0, 17, 20, 34), ("java/lang/IndexOutOfBoundsException", 1))] rfl rfl rfl (by
  intro r hr
  simp only [List.mem_cons, List.not_mem_nil, or_false] at hr
  rcases hr with rfl
  · exact ⟨by decide +kernel, by decide +kernel, wq_906, by decide +kernel, Or.inl ⟨_, _, dL_hasPassed_20, dL_hasPassed_22, by decide +kernel, dL_hasPassed_23, by decide +kernel⟩⟩)
theorem tL_hasPassed {L : Nat} {xs : Nat → Int32} {N : Nat} : z_AllE (zE L xs N 313) 0 (kL_hasPassed N) :=
  z_ac (j := 1) rfl (z_eI (sp_aload_n (q := 3) dL_hasPassed_0 rfl rfl)) <|
  z_ac (j := 2) rfl (z_eI (sp_iconst dL_hasPassed_1 (by decide +kernel) rfl)) <|
  z_ac (j := 3) rfl (z_eI (sp_aload_n (q := 0) dL_hasPassed_2 rfl rfl)) <|
  z_ac (j := 4) rfl (z_eI (sp_iload_n (q := 1) dL_hasPassed_3 rfl rfl)) <|
  z_ac (j := 5) rfl (z_eI (sp_iload_n (q := 2) dL_hasPassed_4 rfl rfl)) <|
  z_ac (j := 6) rfl (z_cV dL_hasPassed_5 wl_1143 qX8_hasPassed (by decide +kernel) ⟨_, _, rfl⟩ shL_hasPassed rfl) <|
  z_ac (j := 7) rfl (z_eI (sp_if_eq dL_hasPassed_8 rfl rfl)) <|
  z_ac (j := 8) rfl (z_eI (sp_lconst (n := 1) dL_hasPassed_11 (by decide +kernel) rfl)) <|
  z_ac (j := 9) rfl (z_eI (sp_goto dL_hasPassed_12 rfl)) <|
  z_ac (j := 10) rfl (z_eI (sp_lconst (n := 0) dL_hasPassed_15 (by decide +kernel) rfl)) <|
  z_ac (j := 11) rfl (z_eI (sp_last dL_hasPassed_16 rfl)) <|
  z_ac (j := 12) rfl (z_eI (sp_goto dL_hasPassed_17 rfl)) <|
  z_ac (j := 13) rfl (z_eI (sp_astore dL_hasPassed_20 (by decide) (fun _ _ => rfl) rfl)) <|
  z_ac (j := 14) rfl (z_eI (sp_iconst dL_hasPassed_22 (by decide +kernel) rfl)) <|
  z_ac (j := 15) rfl (z_eR (sr_int dL_hasPassed_23 rfl)) <|
  z_ac (j := 16) rfl (z_eI (sp_iconst dL_hasPassed_24 (by decide +kernel) rfl)) <|
  z_ac (j := 17) rfl (z_eR (sr_int dL_hasPassed_25 rfl)) <| z_an
theorem dL_distrusts_0 : decode cL_distrusts 0 = .ok (.aload_n 3, 1) := by decide +kernel
theorem dL_distrusts_1 : decode cL_distrusts 1 = .ok (.iconst 0, 1) := by decide +kernel
theorem dL_distrusts_2 : decode cL_distrusts 2 = .ok (.aload_n 0, 1) := by decide +kernel
theorem dL_distrusts_3 : decode cL_distrusts 3 = .ok (.iload_n 1, 1) := by decide +kernel
theorem dL_distrusts_4 : decode cL_distrusts 4 = .ok (.iload_n 2, 1) := by decide +kernel
theorem dL_distrusts_5 : decode cL_distrusts 5 = .ok (.invokevirtual 108, 3) := by decide +kernel
theorem dL_distrusts_8 : decode cL_distrusts 8 = .ok (.ifCond .eq 7, 3) := by decide +kernel
theorem dL_distrusts_11 : decode cL_distrusts 11 = .ok (.lconst 1, 1) := by decide +kernel
theorem dL_distrusts_12 : decode cL_distrusts 12 = .ok (.goto 4, 3) := by decide +kernel
theorem dL_distrusts_15 : decode cL_distrusts 15 = .ok (.lconst 0, 1) := by decide +kernel
theorem dL_distrusts_16 : decode cL_distrusts 16 = .ok (.lastore, 1) := by decide +kernel
theorem dL_distrusts_17 : decode cL_distrusts 17 = .ok (.goto 7, 3) := by decide +kernel
theorem dL_distrusts_20 : decode cL_distrusts 20 = .ok (.astore 4, 2) := by decide +kernel
theorem dL_distrusts_22 : decode cL_distrusts 22 = .ok (.iconst 1, 1) := by decide +kernel
theorem dL_distrusts_23 : decode cL_distrusts 23 = .ok (.ireturn, 1) := by decide +kernel
theorem dL_distrusts_24 : decode cL_distrusts 24 = .ok (.iconst 0, 1) := by decide +kernel
theorem dL_distrusts_25 : decode cL_distrusts 25 = .ok (.ireturn, 1) := by decide +kernel
theorem shL_distrusts {L : Nat} {xs : Nat → Int32} {N : Nat} : zSH L xs N 314 5 := z_sw [((0, 17, 20, 34), ("java/lang/IndexOutOfBoundsException", 1))] rfl rfl rfl (by
  intro r hr
  simp only [List.mem_cons, List.not_mem_nil, or_false] at hr
  rcases hr with rfl
  · exact ⟨by decide +kernel, by decide +kernel, wq_906, by decide +kernel, Or.inl ⟨_, _, dL_distrusts_20, dL_distrusts_22, by decide +kernel, dL_distrusts_23, by decide +kernel⟩⟩)
theorem tL_distrusts {L : Nat} {xs : Nat → Int32} {N : Nat} : z_AllE (zE L xs N 314) 0 (kL_distrusts N) :=
  z_ac (j := 1) rfl (z_eI (sp_aload_n (q := 3) dL_distrusts_0 rfl rfl)) <|
  z_ac (j := 2) rfl (z_eI (sp_iconst dL_distrusts_1 (by decide +kernel) rfl)) <|
  z_ac (j := 3) rfl (z_eI (sp_aload_n (q := 0) dL_distrusts_2 rfl rfl)) <|
  z_ac (j := 4) rfl (z_eI (sp_iload_n (q := 1) dL_distrusts_3 rfl rfl)) <|
  z_ac (j := 5) rfl (z_eI (sp_iload_n (q := 2) dL_distrusts_4 rfl rfl)) <|
  z_ac (j := 6) rfl (z_cV dL_distrusts_5 wl_1150 qX8_distrusts (by decide +kernel) ⟨_, _, rfl⟩ shL_distrusts rfl) <|
  z_ac (j := 7) rfl (z_eI (sp_if_eq dL_distrusts_8 rfl rfl)) <|
  z_ac (j := 8) rfl (z_eI (sp_lconst (n := 1) dL_distrusts_11 (by decide +kernel) rfl)) <|
  z_ac (j := 9) rfl (z_eI (sp_goto dL_distrusts_12 rfl)) <|
  z_ac (j := 10) rfl (z_eI (sp_lconst (n := 0) dL_distrusts_15 (by decide +kernel) rfl)) <|
  z_ac (j := 11) rfl (z_eI (sp_last dL_distrusts_16 rfl)) <|
  z_ac (j := 12) rfl (z_eI (sp_goto dL_distrusts_17 rfl)) <|
  z_ac (j := 13) rfl (z_eI (sp_astore dL_distrusts_20 (by decide) (fun _ _ => rfl) rfl)) <|
  z_ac (j := 14) rfl (z_eI (sp_iconst dL_distrusts_22 (by decide +kernel) rfl)) <|
  z_ac (j := 15) rfl (z_eR (sr_int dL_distrusts_23 rfl)) <|
  z_ac (j := 16) rfl (z_eI (sp_iconst dL_distrusts_24 (by decide +kernel) rfl)) <|
  z_ac (j := 17) rfl (z_eR (sr_int dL_distrusts_25 rfl)) <| z_an
theorem dL_sees_0 : decode cL_sees 0 = .ok (.aload_n 3, 1) := by decide +kernel
theorem dL_sees_1 : decode cL_sees 1 = .ok (.iconst 0, 1) := by decide +kernel
theorem dL_sees_2 : decode cL_sees 2 = .ok (.aload_n 0, 1) := by decide +kernel
theorem dL_sees_3 : decode cL_sees 3 = .ok (.iload_n 1, 1) := by decide +kernel
theorem dL_sees_4 : decode cL_sees 4 = .ok (.iload_n 2, 1) := by decide +kernel
theorem dL_sees_5 : decode cL_sees 5 = .ok (.invokevirtual 111, 3) := by decide +kernel
theorem dL_sees_8 : decode cL_sees 8 = .ok (.ifCond .eq 7, 3) := by decide +kernel
theorem dL_sees_11 : decode cL_sees 11 = .ok (.lconst 1, 1) := by decide +kernel
theorem dL_sees_12 : decode cL_sees 12 = .ok (.goto 4, 3) := by decide +kernel
theorem dL_sees_15 : decode cL_sees 15 = .ok (.lconst 0, 1) := by decide +kernel
theorem dL_sees_16 : decode cL_sees 16 = .ok (.lastore, 1) := by decide +kernel
theorem dL_sees_17 : decode cL_sees 17 = .ok (.goto 7, 3) := by decide +kernel
theorem dL_sees_20 : decode cL_sees 20 = .ok (.astore 4, 2) := by decide +kernel
theorem dL_sees_22 : decode cL_sees 22 = .ok (.iconst 1, 1) := by decide +kernel
theorem dL_sees_23 : decode cL_sees 23 = .ok (.ireturn, 1) := by decide +kernel
theorem dL_sees_24 : decode cL_sees 24 = .ok (.iconst 0, 1) := by decide +kernel
theorem dL_sees_25 : decode cL_sees 25 = .ok (.ireturn, 1) := by decide +kernel
theorem shL_sees {L : Nat} {xs : Nat → Int32} {N : Nat} : zSH L xs N 315 5 := z_sw [((0, 17, 20, 34), ("java/lang/IndexOutOfBoundsException", 1))] rfl rfl rfl (by
  intro r hr
  simp only [List.mem_cons, List.not_mem_nil, or_false] at hr
  rcases hr with rfl
  · exact ⟨by decide +kernel, by decide +kernel, wq_906, by decide +kernel, Or.inl ⟨_, _, dL_sees_20, dL_sees_22, by decide +kernel, dL_sees_23, by decide +kernel⟩⟩)
theorem tL_sees {L : Nat} {xs : Nat → Int32} {N : Nat} : z_AllE (zE L xs N 315) 0 (kL_sees N) :=
  z_ac (j := 1) rfl (z_eI (sp_aload_n (q := 3) dL_sees_0 rfl rfl)) <|
  z_ac (j := 2) rfl (z_eI (sp_iconst dL_sees_1 (by decide +kernel) rfl)) <|
  z_ac (j := 3) rfl (z_eI (sp_aload_n (q := 0) dL_sees_2 rfl rfl)) <|
  z_ac (j := 4) rfl (z_eI (sp_iload_n (q := 1) dL_sees_3 rfl rfl)) <|
  z_ac (j := 5) rfl (z_eI (sp_iload_n (q := 2) dL_sees_4 rfl rfl)) <|
  z_ac (j := 6) rfl (z_cV dL_sees_5 wl_1157 qX8_sees (by decide +kernel) ⟨_, _, rfl⟩ shL_sees rfl) <|
  z_ac (j := 7) rfl (z_eI (sp_if_eq dL_sees_8 rfl rfl)) <|
  z_ac (j := 8) rfl (z_eI (sp_lconst (n := 1) dL_sees_11 (by decide +kernel) rfl)) <|
  z_ac (j := 9) rfl (z_eI (sp_goto dL_sees_12 rfl)) <|
  z_ac (j := 10) rfl (z_eI (sp_lconst (n := 0) dL_sees_15 (by decide +kernel) rfl)) <|
  z_ac (j := 11) rfl (z_eI (sp_last dL_sees_16 rfl)) <|
  z_ac (j := 12) rfl (z_eI (sp_goto dL_sees_17 rfl)) <|
  z_ac (j := 13) rfl (z_eI (sp_astore dL_sees_20 (by decide) (fun _ _ => rfl) rfl)) <|
  z_ac (j := 14) rfl (z_eI (sp_iconst dL_sees_22 (by decide +kernel) rfl)) <|
  z_ac (j := 15) rfl (z_eR (sr_int dL_sees_23 rfl)) <|
  z_ac (j := 16) rfl (z_eI (sp_iconst dL_sees_24 (by decide +kernel) rfl)) <|
  z_ac (j := 17) rfl (z_eR (sr_int dL_sees_25 rfl)) <| z_an
theorem dL_nearestLight_0 : decode cL_nearestLight 0 = .ok (.aload_n 2, 1) := by decide +kernel
theorem dL_nearestLight_1 : decode cL_nearestLight 1 = .ok (.iconst 0, 1) := by decide +kernel
theorem dL_nearestLight_2 : decode cL_nearestLight 2 = .ok (.aload_n 0, 1) := by decide +kernel
theorem dL_nearestLight_3 : decode cL_nearestLight 3 = .ok (.iload_n 1, 1) := by decide +kernel
theorem dL_nearestLight_4 : decode cL_nearestLight 4 = .ok (.invokevirtual 114, 3) := by decide +kernel
theorem dL_nearestLight_7 : decode cL_nearestLight 7 = .ok (.i2l, 1) := by decide +kernel
theorem dL_nearestLight_8 : decode cL_nearestLight 8 = .ok (.lastore, 1) := by decide +kernel
theorem dL_nearestLight_9 : decode cL_nearestLight 9 = .ok (.goto 9, 3) := by decide +kernel
theorem dL_nearestLight_12 : decode cL_nearestLight 12 = .ok (.astore_n 3, 1) := by decide +kernel
theorem dL_nearestLight_13 : decode cL_nearestLight 13 = .ok (.iconst 1, 1) := by decide +kernel
theorem dL_nearestLight_14 : decode cL_nearestLight 14 = .ok (.ireturn, 1) := by decide +kernel
theorem dL_nearestLight_15 : decode cL_nearestLight 15 = .ok (.astore_n 3, 1) := by decide +kernel
theorem dL_nearestLight_16 : decode cL_nearestLight 16 = .ok (.iconst 2, 1) := by decide +kernel
theorem dL_nearestLight_17 : decode cL_nearestLight 17 = .ok (.ireturn, 1) := by decide +kernel
theorem dL_nearestLight_18 : decode cL_nearestLight 18 = .ok (.iconst 0, 1) := by decide +kernel
theorem dL_nearestLight_19 : decode cL_nearestLight 19 = .ok (.ireturn, 1) := by decide +kernel
theorem shL_nearestLight {L : Nat} {xs : Nat → Int32} {N : Nat} : zSH L xs N 316 4 := z_sw [((0, 9, 12, 34), ("java/lang/IndexOutOfBoundsException", 1)), ((0, 9, 15, 28), ("java/util/NoSuchElementException", 2))] rfl rfl rfl (by
  intro r hr
  simp only [List.mem_cons, List.not_mem_nil, or_false] at hr
  rcases hr with rfl | rfl
  · exact ⟨by decide +kernel, by decide +kernel, wq_906, by decide +kernel, Or.inr ⟨_, _, dL_nearestLight_12, dL_nearestLight_13, by decide +kernel, dL_nearestLight_14, by decide +kernel⟩⟩
  · exact ⟨by decide +kernel, by decide +kernel, wq_882, by decide +kernel, Or.inr ⟨_, _, dL_nearestLight_15, dL_nearestLight_16, by decide +kernel, dL_nearestLight_17, by decide +kernel⟩⟩)
theorem tL_nearestLight {L : Nat} {xs : Nat → Int32} {N : Nat} : z_AllE (zE L xs N 316) 0 (kL_nearestLight N) :=
  z_ac (j := 1) rfl (z_eI (sp_aload_n (q := 2) dL_nearestLight_0 rfl rfl)) <|
  z_ac (j := 2) rfl (z_eI (sp_iconst dL_nearestLight_1 (by decide +kernel) rfl)) <|
  z_ac (j := 3) rfl (z_eI (sp_aload_n (q := 0) dL_nearestLight_2 rfl rfl)) <|
  z_ac (j := 4) rfl (z_eI (sp_iload_n (q := 1) dL_nearestLight_3 rfl rfl)) <|
  z_ac (j := 5) rfl (z_cV dL_nearestLight_4 wl_1165 qX8_nearestLight (by decide +kernel) ⟨_, _, rfl⟩ shL_nearestLight rfl) <|
  z_ac (j := 6) rfl (z_eI (sp_i2l dL_nearestLight_7 rfl)) <|
  z_ac (j := 7) rfl (z_eI (sp_last dL_nearestLight_8 rfl)) <|
  z_ac (j := 8) rfl (z_eI (sp_goto dL_nearestLight_9 rfl)) <|
  z_ac (j := 9) rfl (z_eI (sp_astore_n (q := 3) dL_nearestLight_12 rfl (by decide) (fun _ _ => rfl) rfl)) <|
  z_ac (j := 10) rfl (z_eI (sp_iconst dL_nearestLight_13 (by decide +kernel) rfl)) <|
  z_ac (j := 11) rfl (z_eR (sr_int dL_nearestLight_14 rfl)) <|
  z_ac (j := 12) rfl (z_eI (sp_astore_n (q := 3) dL_nearestLight_15 rfl (by decide) (fun _ _ => rfl) rfl)) <|
  z_ac (j := 13) rfl (z_eI (sp_iconst dL_nearestLight_16 (by decide +kernel) rfl)) <|
  z_ac (j := 14) rfl (z_eR (sr_int dL_nearestLight_17 rfl)) <|
  z_ac (j := 15) rfl (z_eI (sp_iconst dL_nearestLight_18 (by decide +kernel) rfl)) <|
  z_ac (j := 16) rfl (z_eR (sr_int dL_nearestLight_19 rfl)) <| z_an
theorem dL_ticksUntilDone_0 : decode cL_ticksUntilDone 0 = .ok (.aload_n 2, 1) := by decide +kernel
theorem dL_ticksUntilDone_1 : decode cL_ticksUntilDone 1 = .ok (.iconst 0, 1) := by decide +kernel
theorem dL_ticksUntilDone_2 : decode cL_ticksUntilDone 2 = .ok (.aload_n 0, 1) := by decide +kernel
theorem dL_ticksUntilDone_3 : decode cL_ticksUntilDone 3 = .ok (.iload_n 1, 1) := by decide +kernel
theorem dL_ticksUntilDone_4 : decode cL_ticksUntilDone 4 = .ok (.invokevirtual 117, 3) := by decide +kernel
theorem dL_ticksUntilDone_7 : decode cL_ticksUntilDone 7 = .ok (.i2l, 1) := by decide +kernel
theorem dL_ticksUntilDone_8 : decode cL_ticksUntilDone 8 = .ok (.lastore, 1) := by decide +kernel
theorem dL_ticksUntilDone_9 : decode cL_ticksUntilDone 9 = .ok (.goto 12, 3) := by decide +kernel
theorem dL_ticksUntilDone_12 : decode cL_ticksUntilDone 12 = .ok (.astore_n 3, 1) := by decide +kernel
theorem dL_ticksUntilDone_13 : decode cL_ticksUntilDone 13 = .ok (.iconst 1, 1) := by decide +kernel
theorem dL_ticksUntilDone_14 : decode cL_ticksUntilDone 14 = .ok (.ireturn, 1) := by decide +kernel
theorem dL_ticksUntilDone_15 : decode cL_ticksUntilDone 15 = .ok (.astore_n 3, 1) := by decide +kernel
theorem dL_ticksUntilDone_16 : decode cL_ticksUntilDone 16 = .ok (.iconst 2, 1) := by decide +kernel
theorem dL_ticksUntilDone_17 : decode cL_ticksUntilDone 17 = .ok (.ireturn, 1) := by decide +kernel
theorem dL_ticksUntilDone_18 : decode cL_ticksUntilDone 18 = .ok (.astore_n 3, 1) := by decide +kernel
theorem dL_ticksUntilDone_19 : decode cL_ticksUntilDone 19 = .ok (.iconst 3, 1) := by decide +kernel
theorem dL_ticksUntilDone_20 : decode cL_ticksUntilDone 20 = .ok (.ireturn, 1) := by decide +kernel
theorem dL_ticksUntilDone_21 : decode cL_ticksUntilDone 21 = .ok (.iconst 0, 1) := by decide +kernel
theorem dL_ticksUntilDone_22 : decode cL_ticksUntilDone 22 = .ok (.ireturn, 1) := by decide +kernel
theorem shL_ticksUntilDone {L : Nat} {xs : Nat → Int32} {N : Nat} : zSH L xs N 317 4 := z_sw [((0, 9, 12, 34), ("java/lang/IndexOutOfBoundsException", 1)), ((0, 9, 15, 13), ("java/lang/IllegalStateException", 2)), ((0, 9, 18, 28), ("java/util/NoSuchElementException", 3))] rfl rfl rfl (by
  intro r hr
  simp only [List.mem_cons, List.not_mem_nil, or_false] at hr
  rcases hr with rfl | rfl | rfl
  · exact ⟨by decide +kernel, by decide +kernel, wq_906, by decide +kernel, Or.inr ⟨_, _, dL_ticksUntilDone_12, dL_ticksUntilDone_13, by decide +kernel, dL_ticksUntilDone_14, by decide +kernel⟩⟩
  · exact ⟨by decide +kernel, by decide +kernel, wq_766, by decide +kernel, Or.inr ⟨_, _, dL_ticksUntilDone_15, dL_ticksUntilDone_16, by decide +kernel, dL_ticksUntilDone_17, by decide +kernel⟩⟩
  · exact ⟨by decide +kernel, by decide +kernel, wq_882, by decide +kernel, Or.inr ⟨_, _, dL_ticksUntilDone_18, dL_ticksUntilDone_19, by decide +kernel, dL_ticksUntilDone_20, by decide +kernel⟩⟩)
theorem tL_ticksUntilDone {L : Nat} {xs : Nat → Int32} {N : Nat} : z_AllE (zE L xs N 317) 0 (kL_ticksUntilDone N) :=
  z_ac (j := 1) rfl (z_eI (sp_aload_n (q := 2) dL_ticksUntilDone_0 rfl rfl)) <|
  z_ac (j := 2) rfl (z_eI (sp_iconst dL_ticksUntilDone_1 (by decide +kernel) rfl)) <|
  z_ac (j := 3) rfl (z_eI (sp_aload_n (q := 0) dL_ticksUntilDone_2 rfl rfl)) <|
  z_ac (j := 4) rfl (z_eI (sp_iload_n (q := 1) dL_ticksUntilDone_3 rfl rfl)) <|
  z_ac (j := 5) rfl (z_cV dL_ticksUntilDone_4 wl_1174 qX8_ticksUntilDone (by decide +kernel) ⟨_, _, rfl⟩ shL_ticksUntilDone rfl) <|
  z_ac (j := 6) rfl (z_eI (sp_i2l dL_ticksUntilDone_7 rfl)) <|
  z_ac (j := 7) rfl (z_eI (sp_last dL_ticksUntilDone_8 rfl)) <|
  z_ac (j := 8) rfl (z_eI (sp_goto dL_ticksUntilDone_9 rfl)) <|
  z_ac (j := 9) rfl (z_eI (sp_astore_n (q := 3) dL_ticksUntilDone_12 rfl (by decide) (fun _ _ => rfl) rfl)) <|
  z_ac (j := 10) rfl (z_eI (sp_iconst dL_ticksUntilDone_13 (by decide +kernel) rfl)) <|
  z_ac (j := 11) rfl (z_eR (sr_int dL_ticksUntilDone_14 rfl)) <|
  z_ac (j := 12) rfl (z_eI (sp_astore_n (q := 3) dL_ticksUntilDone_15 rfl (by decide) (fun _ _ => rfl) rfl)) <|
  z_ac (j := 13) rfl (z_eI (sp_iconst dL_ticksUntilDone_16 (by decide +kernel) rfl)) <|
  z_ac (j := 14) rfl (z_eR (sr_int dL_ticksUntilDone_17 rfl)) <|
  z_ac (j := 15) rfl (z_eI (sp_astore_n (q := 3) dL_ticksUntilDone_18 rfl (by decide) (fun _ _ => rfl) rfl)) <|
  z_ac (j := 16) rfl (z_eI (sp_iconst dL_ticksUntilDone_19 (by decide +kernel) rfl)) <|
  z_ac (j := 17) rfl (z_eR (sr_int dL_ticksUntilDone_20 rfl)) <|
  z_ac (j := 18) rfl (z_eI (sp_iconst dL_ticksUntilDone_21 (by decide +kernel) rfl)) <|
  z_ac (j := 19) rfl (z_eR (sr_int dL_ticksUntilDone_22 rfl)) <| z_an
theorem dL_willArrive_0 : decode cL_willArrive 0 = .ok (.aload_n 2, 1) := by decide +kernel
theorem dL_willArrive_1 : decode cL_willArrive 1 = .ok (.iconst 0, 1) := by decide +kernel
theorem dL_willArrive_2 : decode cL_willArrive 2 = .ok (.aload_n 0, 1) := by decide +kernel
theorem dL_willArrive_3 : decode cL_willArrive 3 = .ok (.iload_n 1, 1) := by decide +kernel
theorem dL_willArrive_4 : decode cL_willArrive 4 = .ok (.invokevirtual 120, 3) := by decide +kernel
theorem dL_willArrive_7 : decode cL_willArrive 7 = .ok (.ifCond .eq 7, 3) := by decide +kernel
theorem dL_willArrive_10 : decode cL_willArrive 10 = .ok (.lconst 1, 1) := by decide +kernel
theorem dL_willArrive_11 : decode cL_willArrive 11 = .ok (.goto 4, 3) := by decide +kernel
theorem dL_willArrive_14 : decode cL_willArrive 14 = .ok (.lconst 0, 1) := by decide +kernel
theorem dL_willArrive_15 : decode cL_willArrive 15 = .ok (.lastore, 1) := by decide +kernel
theorem dL_willArrive_16 : decode cL_willArrive 16 = .ok (.goto 6, 3) := by decide +kernel
theorem dL_willArrive_19 : decode cL_willArrive 19 = .ok (.astore_n 3, 1) := by decide +kernel
theorem dL_willArrive_20 : decode cL_willArrive 20 = .ok (.iconst 1, 1) := by decide +kernel
theorem dL_willArrive_21 : decode cL_willArrive 21 = .ok (.ireturn, 1) := by decide +kernel
theorem dL_willArrive_22 : decode cL_willArrive 22 = .ok (.iconst 0, 1) := by decide +kernel
theorem dL_willArrive_23 : decode cL_willArrive 23 = .ok (.ireturn, 1) := by decide +kernel
theorem shL_willArrive {L : Nat} {xs : Nat → Int32} {N : Nat} : zSH L xs N 318 4 := z_sw [((0, 16, 19, 34), ("java/lang/IndexOutOfBoundsException", 1))] rfl rfl rfl (by
  intro r hr
  simp only [List.mem_cons, List.not_mem_nil, or_false] at hr
  rcases hr with rfl
  · exact ⟨by decide +kernel, by decide +kernel, wq_906, by decide +kernel, Or.inr ⟨_, _, dL_willArrive_19, dL_willArrive_20, by decide +kernel, dL_willArrive_21, by decide +kernel⟩⟩)
theorem tL_willArrive {L : Nat} {xs : Nat → Int32} {N : Nat} : z_AllE (zE L xs N 318) 0 (kL_willArrive N) :=
  z_ac (j := 1) rfl (z_eI (sp_aload_n (q := 2) dL_willArrive_0 rfl rfl)) <|
  z_ac (j := 2) rfl (z_eI (sp_iconst dL_willArrive_1 (by decide +kernel) rfl)) <|
  z_ac (j := 3) rfl (z_eI (sp_aload_n (q := 0) dL_willArrive_2 rfl rfl)) <|
  z_ac (j := 4) rfl (z_eI (sp_iload_n (q := 1) dL_willArrive_3 rfl rfl)) <|
  z_ac (j := 5) rfl (z_cV dL_willArrive_4 wl_1187 qX8_willArrive (by decide +kernel) ⟨_, _, rfl⟩ shL_willArrive rfl) <|
  z_ac (j := 6) rfl (z_eI (sp_if_eq dL_willArrive_7 rfl rfl)) <|
  z_ac (j := 7) rfl (z_eI (sp_lconst (n := 1) dL_willArrive_10 (by decide +kernel) rfl)) <|
  z_ac (j := 8) rfl (z_eI (sp_goto dL_willArrive_11 rfl)) <|
  z_ac (j := 9) rfl (z_eI (sp_lconst (n := 0) dL_willArrive_14 (by decide +kernel) rfl)) <|
  z_ac (j := 10) rfl (z_eI (sp_last dL_willArrive_15 rfl)) <|
  z_ac (j := 11) rfl (z_eI (sp_goto dL_willArrive_16 rfl)) <|
  z_ac (j := 12) rfl (z_eI (sp_astore_n (q := 3) dL_willArrive_19 rfl (by decide) (fun _ _ => rfl) rfl)) <|
  z_ac (j := 13) rfl (z_eI (sp_iconst dL_willArrive_20 (by decide +kernel) rfl)) <|
  z_ac (j := 14) rfl (z_eR (sr_int dL_willArrive_21 rfl)) <|
  z_ac (j := 15) rfl (z_eI (sp_iconst dL_willArrive_22 (by decide +kernel) rfl)) <|
  z_ac (j := 16) rfl (z_eR (sr_int dL_willArrive_23 rfl)) <| z_an
theorem dL_arrivedAfter_0 : decode cL_arrivedAfter 0 = .ok (.aload_n 2, 1) := by decide +kernel
theorem dL_arrivedAfter_1 : decode cL_arrivedAfter 1 = .ok (.iconst 0, 1) := by decide +kernel
theorem dL_arrivedAfter_2 : decode cL_arrivedAfter 2 = .ok (.aload_n 0, 1) := by decide +kernel
theorem dL_arrivedAfter_3 : decode cL_arrivedAfter 3 = .ok (.iload_n 1, 1) := by decide +kernel
theorem dL_arrivedAfter_4 : decode cL_arrivedAfter 4 = .ok (.invokevirtual 123, 3) := by decide +kernel
theorem dL_arrivedAfter_7 : decode cL_arrivedAfter 7 = .ok (.i2l, 1) := by decide +kernel
theorem dL_arrivedAfter_8 : decode cL_arrivedAfter 8 = .ok (.lastore, 1) := by decide +kernel
theorem dL_arrivedAfter_9 : decode cL_arrivedAfter 9 = .ok (.goto 6, 3) := by decide +kernel
theorem dL_arrivedAfter_12 : decode cL_arrivedAfter 12 = .ok (.astore_n 3, 1) := by decide +kernel
theorem dL_arrivedAfter_13 : decode cL_arrivedAfter 13 = .ok (.iconst 1, 1) := by decide +kernel
theorem dL_arrivedAfter_14 : decode cL_arrivedAfter 14 = .ok (.ireturn, 1) := by decide +kernel
theorem dL_arrivedAfter_15 : decode cL_arrivedAfter 15 = .ok (.iconst 0, 1) := by decide +kernel
theorem dL_arrivedAfter_16 : decode cL_arrivedAfter 16 = .ok (.ireturn, 1) := by decide +kernel
theorem shL_arrivedAfter {L : Nat} {xs : Nat → Int32} {N : Nat} : zSH L xs N 319 4 := z_sw [((0, 9, 12, 19), ("java/lang/IllegalArgumentException", 1))] rfl rfl rfl (by
  intro r hr
  simp only [List.mem_cons, List.not_mem_nil, or_false] at hr
  rcases hr with rfl
  · exact ⟨by decide +kernel, by decide +kernel, wq_846, by decide +kernel, Or.inr ⟨_, _, dL_arrivedAfter_12, dL_arrivedAfter_13, by decide +kernel, dL_arrivedAfter_14, by decide +kernel⟩⟩)
theorem tL_arrivedAfter {L : Nat} {xs : Nat → Int32} {N : Nat} : z_AllE (zE L xs N 319) 0 (kL_arrivedAfter N) :=
  z_ac (j := 1) rfl (z_eI (sp_aload_n (q := 2) dL_arrivedAfter_0 rfl rfl)) <|
  z_ac (j := 2) rfl (z_eI (sp_iconst dL_arrivedAfter_1 (by decide +kernel) rfl)) <|
  z_ac (j := 3) rfl (z_eI (sp_aload_n (q := 0) dL_arrivedAfter_2 rfl rfl)) <|
  z_ac (j := 4) rfl (z_eI (sp_iload_n (q := 1) dL_arrivedAfter_3 rfl rfl)) <|
  z_ac (j := 5) rfl (z_cV dL_arrivedAfter_4 wl_1194 qX8_arrivedAfter (by decide +kernel) ⟨_, _, rfl⟩ shL_arrivedAfter rfl) <|
  z_ac (j := 6) rfl (z_eI (sp_i2l dL_arrivedAfter_7 rfl)) <|
  z_ac (j := 7) rfl (z_eI (sp_last dL_arrivedAfter_8 rfl)) <|
  z_ac (j := 8) rfl (z_eI (sp_goto dL_arrivedAfter_9 rfl)) <|
  z_ac (j := 9) rfl (z_eI (sp_astore_n (q := 3) dL_arrivedAfter_12 rfl (by decide) (fun _ _ => rfl) rfl)) <|
  z_ac (j := 10) rfl (z_eI (sp_iconst dL_arrivedAfter_13 (by decide +kernel) rfl)) <|
  z_ac (j := 11) rfl (z_eR (sr_int dL_arrivedAfter_14 rfl)) <|
  z_ac (j := 12) rfl (z_eI (sp_iconst dL_arrivedAfter_15 (by decide +kernel) rfl)) <|
  z_ac (j := 13) rfl (z_eR (sr_int dL_arrivedAfter_16 rfl)) <| z_an
theorem dL_sunkAfter_0 : decode cL_sunkAfter 0 = .ok (.aload_n 2, 1) := by decide +kernel
theorem dL_sunkAfter_1 : decode cL_sunkAfter 1 = .ok (.iconst 0, 1) := by decide +kernel
theorem dL_sunkAfter_2 : decode cL_sunkAfter 2 = .ok (.aload_n 0, 1) := by decide +kernel
theorem dL_sunkAfter_3 : decode cL_sunkAfter 3 = .ok (.iload_n 1, 1) := by decide +kernel
theorem dL_sunkAfter_4 : decode cL_sunkAfter 4 = .ok (.invokevirtual 126, 3) := by decide +kernel
theorem dL_sunkAfter_7 : decode cL_sunkAfter 7 = .ok (.i2l, 1) := by decide +kernel
theorem dL_sunkAfter_8 : decode cL_sunkAfter 8 = .ok (.lastore, 1) := by decide +kernel
theorem dL_sunkAfter_9 : decode cL_sunkAfter 9 = .ok (.goto 6, 3) := by decide +kernel
theorem dL_sunkAfter_12 : decode cL_sunkAfter 12 = .ok (.astore_n 3, 1) := by decide +kernel
theorem dL_sunkAfter_13 : decode cL_sunkAfter 13 = .ok (.iconst 1, 1) := by decide +kernel
theorem dL_sunkAfter_14 : decode cL_sunkAfter 14 = .ok (.ireturn, 1) := by decide +kernel
theorem dL_sunkAfter_15 : decode cL_sunkAfter 15 = .ok (.iconst 0, 1) := by decide +kernel
theorem dL_sunkAfter_16 : decode cL_sunkAfter 16 = .ok (.ireturn, 1) := by decide +kernel
theorem shL_sunkAfter {L : Nat} {xs : Nat → Int32} {N : Nat} : zSH L xs N 320 4 := z_sw [((0, 9, 12, 19), ("java/lang/IllegalArgumentException", 1))] rfl rfl rfl (by
  intro r hr
  simp only [List.mem_cons, List.not_mem_nil, or_false] at hr
  rcases hr with rfl
  · exact ⟨by decide +kernel, by decide +kernel, wq_846, by decide +kernel, Or.inr ⟨_, _, dL_sunkAfter_12, dL_sunkAfter_13, by decide +kernel, dL_sunkAfter_14, by decide +kernel⟩⟩)
theorem tL_sunkAfter {L : Nat} {xs : Nat → Int32} {N : Nat} : z_AllE (zE L xs N 320) 0 (kL_sunkAfter N) :=
  z_ac (j := 1) rfl (z_eI (sp_aload_n (q := 2) dL_sunkAfter_0 rfl rfl)) <|
  z_ac (j := 2) rfl (z_eI (sp_iconst dL_sunkAfter_1 (by decide +kernel) rfl)) <|
  z_ac (j := 3) rfl (z_eI (sp_aload_n (q := 0) dL_sunkAfter_2 rfl rfl)) <|
  z_ac (j := 4) rfl (z_eI (sp_iload_n (q := 1) dL_sunkAfter_3 rfl rfl)) <|
  z_ac (j := 5) rfl (z_cV dL_sunkAfter_4 wl_1205 qX8_sunkAfter (by decide +kernel) ⟨_, _, rfl⟩ shL_sunkAfter rfl) <|
  z_ac (j := 6) rfl (z_eI (sp_i2l dL_sunkAfter_7 rfl)) <|
  z_ac (j := 7) rfl (z_eI (sp_last dL_sunkAfter_8 rfl)) <|
  z_ac (j := 8) rfl (z_eI (sp_goto dL_sunkAfter_9 rfl)) <|
  z_ac (j := 9) rfl (z_eI (sp_astore_n (q := 3) dL_sunkAfter_12 rfl (by decide) (fun _ _ => rfl) rfl)) <|
  z_ac (j := 10) rfl (z_eI (sp_iconst dL_sunkAfter_13 (by decide +kernel) rfl)) <|
  z_ac (j := 11) rfl (z_eR (sr_int dL_sunkAfter_14 rfl)) <|
  z_ac (j := 12) rfl (z_eI (sp_iconst dL_sunkAfter_15 (by decide +kernel) rfl)) <|
  z_ac (j := 13) rfl (z_eR (sr_int dL_sunkAfter_16 rfl)) <| z_an
theorem dL_tick_0 : decode cL_tick 0 = .ok (.aload_n 2, 1) := by decide +kernel
theorem dL_tick_1 : decode cL_tick 1 = .ok (.iconst 0, 1) := by decide +kernel
theorem dL_tick_2 : decode cL_tick 2 = .ok (.aload_n 0, 1) := by decide +kernel
theorem dL_tick_3 : decode cL_tick 3 = .ok (.iload_n 1, 1) := by decide +kernel
theorem dL_tick_4 : decode cL_tick 4 = .ok (.invokevirtual 129, 3) := by decide +kernel
theorem dL_tick_7 : decode cL_tick 7 = .ok (.i2l, 1) := by decide +kernel
theorem dL_tick_8 : decode cL_tick 8 = .ok (.lastore, 1) := by decide +kernel
theorem dL_tick_9 : decode cL_tick 9 = .ok (.goto 9, 3) := by decide +kernel
theorem dL_tick_12 : decode cL_tick 12 = .ok (.astore_n 3, 1) := by decide +kernel
theorem dL_tick_13 : decode cL_tick 13 = .ok (.iconst 1, 1) := by decide +kernel
theorem dL_tick_14 : decode cL_tick 14 = .ok (.ireturn, 1) := by decide +kernel
theorem dL_tick_15 : decode cL_tick 15 = .ok (.astore_n 3, 1) := by decide +kernel
theorem dL_tick_16 : decode cL_tick 16 = .ok (.iconst 2, 1) := by decide +kernel
theorem dL_tick_17 : decode cL_tick 17 = .ok (.ireturn, 1) := by decide +kernel
theorem dL_tick_18 : decode cL_tick 18 = .ok (.iconst 0, 1) := by decide +kernel
theorem dL_tick_19 : decode cL_tick 19 = .ok (.ireturn, 1) := by decide +kernel
theorem shL_tick {L : Nat} {xs : Nat → Int32} {N : Nat} : zSH L xs N 321 4 := z_sw [((0, 9, 12, 19), ("java/lang/IllegalArgumentException", 1)), ((0, 9, 15, 13), ("java/lang/IllegalStateException", 2))] rfl rfl rfl (by
  intro r hr
  simp only [List.mem_cons, List.not_mem_nil, or_false] at hr
  rcases hr with rfl | rfl
  · exact ⟨by decide +kernel, by decide +kernel, wq_846, by decide +kernel, Or.inr ⟨_, _, dL_tick_12, dL_tick_13, by decide +kernel, dL_tick_14, by decide +kernel⟩⟩
  · exact ⟨by decide +kernel, by decide +kernel, wq_766, by decide +kernel, Or.inr ⟨_, _, dL_tick_15, dL_tick_16, by decide +kernel, dL_tick_17, by decide +kernel⟩⟩)
theorem tL_tick {L : Nat} {xs : Nat → Int32} {N : Nat} : z_AllE (zE L xs N 321) 0 (kL_tick N) :=
  z_ac (j := 1) rfl (z_eI (sp_aload_n (q := 2) dL_tick_0 rfl rfl)) <|
  z_ac (j := 2) rfl (z_eI (sp_iconst dL_tick_1 (by decide +kernel) rfl)) <|
  z_ac (j := 3) rfl (z_eI (sp_aload_n (q := 0) dL_tick_2 rfl rfl)) <|
  z_ac (j := 4) rfl (z_eI (sp_iload_n (q := 1) dL_tick_3 rfl rfl)) <|
  z_ac (j := 5) rfl (z_cV dL_tick_4 wl_1212 qX8_tick (by decide +kernel) ⟨_, _, rfl⟩ shL_tick rfl) <|
  z_ac (j := 6) rfl (z_eI (sp_i2l dL_tick_7 rfl)) <|
  z_ac (j := 7) rfl (z_eI (sp_last dL_tick_8 rfl)) <|
  z_ac (j := 8) rfl (z_eI (sp_goto dL_tick_9 rfl)) <|
  z_ac (j := 9) rfl (z_eI (sp_astore_n (q := 3) dL_tick_12 rfl (by decide) (fun _ _ => rfl) rfl)) <|
  z_ac (j := 10) rfl (z_eI (sp_iconst dL_tick_13 (by decide +kernel) rfl)) <|
  z_ac (j := 11) rfl (z_eR (sr_int dL_tick_14 rfl)) <|
  z_ac (j := 12) rfl (z_eI (sp_astore_n (q := 3) dL_tick_15 rfl (by decide) (fun _ _ => rfl) rfl)) <|
  z_ac (j := 13) rfl (z_eI (sp_iconst dL_tick_16 (by decide +kernel) rfl)) <|
  z_ac (j := 14) rfl (z_eR (sr_int dL_tick_17 rfl)) <|
  z_ac (j := 15) rfl (z_eI (sp_iconst dL_tick_18 (by decide +kernel) rfl)) <|
  z_ac (j := 16) rfl (z_eR (sr_int dL_tick_19 rfl)) <| z_an
theorem dL_addLight_0 : decode cL_addLight 0 = .ok (.aload 5, 2) := by decide +kernel
theorem dL_addLight_2 : decode cL_addLight 2 = .ok (.iconst 0, 1) := by decide +kernel
theorem dL_addLight_3 : decode cL_addLight 3 = .ok (.aload_n 0, 1) := by decide +kernel
theorem dL_addLight_4 : decode cL_addLight 4 = .ok (.iload_n 1, 1) := by decide +kernel
theorem dL_addLight_5 : decode cL_addLight 5 = .ok (.iload_n 2, 1) := by decide +kernel
theorem dL_addLight_6 : decode cL_addLight 6 = .ok (.iload_n 3, 1) := by decide +kernel
theorem dL_addLight_7 : decode cL_addLight 7 = .ok (.iload 4, 2) := by decide +kernel
theorem dL_addLight_9 : decode cL_addLight 9 = .ok (.invokevirtual 132, 3) := by decide +kernel
theorem dL_addLight_12 : decode cL_addLight 12 = .ok (.i2l, 1) := by decide +kernel
theorem dL_addLight_13 : decode cL_addLight 13 = .ok (.lastore, 1) := by decide +kernel
theorem dL_addLight_14 : decode cL_addLight 14 = .ok (.goto 15, 3) := by decide +kernel
theorem dL_addLight_17 : decode cL_addLight 17 = .ok (.astore 6, 2) := by decide +kernel
theorem dL_addLight_19 : decode cL_addLight 19 = .ok (.iconst 1, 1) := by decide +kernel
theorem dL_addLight_20 : decode cL_addLight 20 = .ok (.ireturn, 1) := by decide +kernel
theorem dL_addLight_21 : decode cL_addLight 21 = .ok (.astore 6, 2) := by decide +kernel
theorem dL_addLight_23 : decode cL_addLight 23 = .ok (.iconst 2, 1) := by decide +kernel
theorem dL_addLight_24 : decode cL_addLight 24 = .ok (.ireturn, 1) := by decide +kernel
theorem dL_addLight_25 : decode cL_addLight 25 = .ok (.astore 6, 2) := by decide +kernel
theorem dL_addLight_27 : decode cL_addLight 27 = .ok (.iconst 3, 1) := by decide +kernel
theorem dL_addLight_28 : decode cL_addLight 28 = .ok (.ireturn, 1) := by decide +kernel
theorem dL_addLight_29 : decode cL_addLight 29 = .ok (.iconst 0, 1) := by decide +kernel
theorem dL_addLight_30 : decode cL_addLight 30 = .ok (.ireturn, 1) := by decide +kernel
theorem shL_addLight {L : Nat} {xs : Nat → Int32} {N : Nat} : zSH L xs N 322 7 := z_sw [((0, 14, 17, 34), ("java/lang/IndexOutOfBoundsException", 1)), ((0, 14, 21, 19), ("java/lang/IllegalArgumentException", 2)), ((0, 14, 25, 13), ("java/lang/IllegalStateException", 3))] rfl rfl rfl (by
  intro r hr
  simp only [List.mem_cons, List.not_mem_nil, or_false] at hr
  rcases hr with rfl | rfl | rfl
  · exact ⟨by decide +kernel, by decide +kernel, wq_906, by decide +kernel, Or.inl ⟨_, _, dL_addLight_17, dL_addLight_19, by decide +kernel, dL_addLight_20, by decide +kernel⟩⟩
  · exact ⟨by decide +kernel, by decide +kernel, wq_846, by decide +kernel, Or.inl ⟨_, _, dL_addLight_21, dL_addLight_23, by decide +kernel, dL_addLight_24, by decide +kernel⟩⟩
  · exact ⟨by decide +kernel, by decide +kernel, wq_766, by decide +kernel, Or.inl ⟨_, _, dL_addLight_25, dL_addLight_27, by decide +kernel, dL_addLight_28, by decide +kernel⟩⟩)
theorem tL_addLight {L : Nat} {xs : Nat → Int32} {N : Nat} : z_AllE (zE L xs N 322) 0 (kL_addLight N) :=
  z_ac (j := 1) rfl (z_eI (sp_aload dL_addLight_0 rfl)) <|
  z_ac (j := 2) rfl (z_eI (sp_iconst dL_addLight_2 (by decide +kernel) rfl)) <|
  z_ac (j := 3) rfl (z_eI (sp_aload_n (q := 0) dL_addLight_3 rfl rfl)) <|
  z_ac (j := 4) rfl (z_eI (sp_iload_n (q := 1) dL_addLight_4 rfl rfl)) <|
  z_ac (j := 5) rfl (z_eI (sp_iload_n (q := 2) dL_addLight_5 rfl rfl)) <|
  z_ac (j := 6) rfl (z_eI (sp_iload_n (q := 3) dL_addLight_6 rfl rfl)) <|
  z_ac (j := 7) rfl (z_eI (sp_iload dL_addLight_7 rfl)) <|
  z_ac (j := 8) rfl (z_cV dL_addLight_9 wl_1227 qX8_addLight (by decide +kernel) ⟨_, _, rfl⟩ shL_addLight rfl) <|
  z_ac (j := 9) rfl (z_eI (sp_i2l dL_addLight_12 rfl)) <|
  z_ac (j := 10) rfl (z_eI (sp_last dL_addLight_13 rfl)) <|
  z_ac (j := 11) rfl (z_eI (sp_goto dL_addLight_14 rfl)) <|
  z_ac (j := 12) rfl (z_eI (sp_astore dL_addLight_17 (by decide) (fun _ _ => rfl) rfl)) <|
  z_ac (j := 13) rfl (z_eI (sp_iconst dL_addLight_19 (by decide +kernel) rfl)) <|
  z_ac (j := 14) rfl (z_eR (sr_int dL_addLight_20 rfl)) <|
  z_ac (j := 15) rfl (z_eI (sp_astore dL_addLight_21 (by decide) (fun _ _ => rfl) rfl)) <|
  z_ac (j := 16) rfl (z_eI (sp_iconst dL_addLight_23 (by decide +kernel) rfl)) <|
  z_ac (j := 17) rfl (z_eR (sr_int dL_addLight_24 rfl)) <|
  z_ac (j := 18) rfl (z_eI (sp_astore dL_addLight_25 (by decide) (fun _ _ => rfl) rfl)) <|
  z_ac (j := 19) rfl (z_eI (sp_iconst dL_addLight_27 (by decide +kernel) rfl)) <|
  z_ac (j := 20) rfl (z_eR (sr_int dL_addLight_28 rfl)) <|
  z_ac (j := 21) rfl (z_eI (sp_iconst dL_addLight_29 (by decide +kernel) rfl)) <|
  z_ac (j := 22) rfl (z_eR (sr_int dL_addLight_30 rfl)) <| z_an
theorem dL_addTraveller_0 : decode cL_addTraveller 0 = .ok (.aload_n 3, 1) := by decide +kernel
theorem dL_addTraveller_1 : decode cL_addTraveller 1 = .ok (.iconst 0, 1) := by decide +kernel
theorem dL_addTraveller_2 : decode cL_addTraveller 2 = .ok (.aload_n 0, 1) := by decide +kernel
theorem dL_addTraveller_3 : decode cL_addTraveller 3 = .ok (.iload_n 1, 1) := by decide +kernel
theorem dL_addTraveller_4 : decode cL_addTraveller 4 = .ok (.iload_n 2, 1) := by decide +kernel
theorem dL_addTraveller_5 : decode cL_addTraveller 5 = .ok (.invokevirtual 136, 3) := by decide +kernel
theorem dL_addTraveller_8 : decode cL_addTraveller 8 = .ok (.i2l, 1) := by decide +kernel
theorem dL_addTraveller_9 : decode cL_addTraveller 9 = .ok (.lastore, 1) := by decide +kernel
theorem dL_addTraveller_10 : decode cL_addTraveller 10 = .ok (.goto 11, 3) := by decide +kernel
theorem dL_addTraveller_13 : decode cL_addTraveller 13 = .ok (.astore 4, 2) := by decide +kernel
theorem dL_addTraveller_15 : decode cL_addTraveller 15 = .ok (.iconst 1, 1) := by decide +kernel
theorem dL_addTraveller_16 : decode cL_addTraveller 16 = .ok (.ireturn, 1) := by decide +kernel
theorem dL_addTraveller_17 : decode cL_addTraveller 17 = .ok (.astore 4, 2) := by decide +kernel
theorem dL_addTraveller_19 : decode cL_addTraveller 19 = .ok (.iconst 2, 1) := by decide +kernel
theorem dL_addTraveller_20 : decode cL_addTraveller 20 = .ok (.ireturn, 1) := by decide +kernel
theorem dL_addTraveller_21 : decode cL_addTraveller 21 = .ok (.iconst 0, 1) := by decide +kernel
theorem dL_addTraveller_22 : decode cL_addTraveller 22 = .ok (.ireturn, 1) := by decide +kernel
theorem shL_addTraveller {L : Nat} {xs : Nat → Int32} {N : Nat} : zSH L xs N 323 5 := z_sw [((0, 10, 13, 34), ("java/lang/IndexOutOfBoundsException", 1)), ((0, 10, 17, 13), ("java/lang/IllegalStateException", 2))] rfl rfl rfl (by
  intro r hr
  simp only [List.mem_cons, List.not_mem_nil, or_false] at hr
  rcases hr with rfl | rfl
  · exact ⟨by decide +kernel, by decide +kernel, wq_906, by decide +kernel, Or.inl ⟨_, _, dL_addTraveller_13, dL_addTraveller_15, by decide +kernel, dL_addTraveller_16, by decide +kernel⟩⟩
  · exact ⟨by decide +kernel, by decide +kernel, wq_766, by decide +kernel, Or.inl ⟨_, _, dL_addTraveller_17, dL_addTraveller_19, by decide +kernel, dL_addTraveller_20, by decide +kernel⟩⟩)
theorem tL_addTraveller {L : Nat} {xs : Nat → Int32} {N : Nat} : z_AllE (zE L xs N 323) 0 (kL_addTraveller N) :=
  z_ac (j := 1) rfl (z_eI (sp_aload_n (q := 3) dL_addTraveller_0 rfl rfl)) <|
  z_ac (j := 2) rfl (z_eI (sp_iconst dL_addTraveller_1 (by decide +kernel) rfl)) <|
  z_ac (j := 3) rfl (z_eI (sp_aload_n (q := 0) dL_addTraveller_2 rfl rfl)) <|
  z_ac (j := 4) rfl (z_eI (sp_iload_n (q := 1) dL_addTraveller_3 rfl rfl)) <|
  z_ac (j := 5) rfl (z_eI (sp_iload_n (q := 2) dL_addTraveller_4 rfl rfl)) <|
  z_ac (j := 6) rfl (z_cV dL_addTraveller_5 wl_1238 qX8_addTraveller (by decide +kernel) ⟨_, _, rfl⟩ shL_addTraveller rfl) <|
  z_ac (j := 7) rfl (z_eI (sp_i2l dL_addTraveller_8 rfl)) <|
  z_ac (j := 8) rfl (z_eI (sp_last dL_addTraveller_9 rfl)) <|
  z_ac (j := 9) rfl (z_eI (sp_goto dL_addTraveller_10 rfl)) <|
  z_ac (j := 10) rfl (z_eI (sp_astore dL_addTraveller_13 (by decide) (fun _ _ => rfl) rfl)) <|
  z_ac (j := 11) rfl (z_eI (sp_iconst dL_addTraveller_15 (by decide +kernel) rfl)) <|
  z_ac (j := 12) rfl (z_eR (sr_int dL_addTraveller_16 rfl)) <|
  z_ac (j := 13) rfl (z_eI (sp_astore dL_addTraveller_17 (by decide) (fun _ _ => rfl) rfl)) <|
  z_ac (j := 14) rfl (z_eI (sp_iconst dL_addTraveller_19 (by decide +kernel) rfl)) <|
  z_ac (j := 15) rfl (z_eR (sr_int dL_addTraveller_20 rfl)) <|
  z_ac (j := 16) rfl (z_eI (sp_iconst dL_addTraveller_21 (by decide +kernel) rfl)) <|
  z_ac (j := 17) rfl (z_eR (sr_int dL_addTraveller_22 rfl)) <| z_an
theorem dL_setSuccessor_0 : decode cL_setSuccessor 0 = .ok (.aload_n 3, 1) := by decide +kernel
theorem dL_setSuccessor_1 : decode cL_setSuccessor 1 = .ok (.iconst 0, 1) := by decide +kernel
theorem dL_setSuccessor_2 : decode cL_setSuccessor 2 = .ok (.aload_n 0, 1) := by decide +kernel
theorem dL_setSuccessor_3 : decode cL_setSuccessor 3 = .ok (.iload_n 1, 1) := by decide +kernel
theorem dL_setSuccessor_4 : decode cL_setSuccessor 4 = .ok (.iload_n 2, 1) := by decide +kernel
theorem dL_setSuccessor_5 : decode cL_setSuccessor 5 = .ok (.invokevirtual 139, 3) := by decide +kernel
theorem dL_setSuccessor_8 : decode cL_setSuccessor 8 = .ok (.i2l, 1) := by decide +kernel
theorem dL_setSuccessor_9 : decode cL_setSuccessor 9 = .ok (.lastore, 1) := by decide +kernel
theorem dL_setSuccessor_10 : decode cL_setSuccessor 10 = .ok (.goto 11, 3) := by decide +kernel
theorem dL_setSuccessor_13 : decode cL_setSuccessor 13 = .ok (.astore 4, 2) := by decide +kernel
theorem dL_setSuccessor_15 : decode cL_setSuccessor 15 = .ok (.iconst 1, 1) := by decide +kernel
theorem dL_setSuccessor_16 : decode cL_setSuccessor 16 = .ok (.ireturn, 1) := by decide +kernel
theorem dL_setSuccessor_17 : decode cL_setSuccessor 17 = .ok (.astore 4, 2) := by decide +kernel
theorem dL_setSuccessor_19 : decode cL_setSuccessor 19 = .ok (.iconst 2, 1) := by decide +kernel
theorem dL_setSuccessor_20 : decode cL_setSuccessor 20 = .ok (.ireturn, 1) := by decide +kernel
theorem dL_setSuccessor_21 : decode cL_setSuccessor 21 = .ok (.iconst 0, 1) := by decide +kernel
theorem dL_setSuccessor_22 : decode cL_setSuccessor 22 = .ok (.ireturn, 1) := by decide +kernel
theorem shL_setSuccessor {L : Nat} {xs : Nat → Int32} {N : Nat} : zSH L xs N 324 5 := z_sw [((0, 10, 13, 34), ("java/lang/IndexOutOfBoundsException", 1)), ((0, 10, 17, 19), ("java/lang/IllegalArgumentException", 2))] rfl rfl rfl (by
  intro r hr
  simp only [List.mem_cons, List.not_mem_nil, or_false] at hr
  rcases hr with rfl | rfl
  · exact ⟨by decide +kernel, by decide +kernel, wq_906, by decide +kernel, Or.inl ⟨_, _, dL_setSuccessor_13, dL_setSuccessor_15, by decide +kernel, dL_setSuccessor_16, by decide +kernel⟩⟩
  · exact ⟨by decide +kernel, by decide +kernel, wq_846, by decide +kernel, Or.inl ⟨_, _, dL_setSuccessor_17, dL_setSuccessor_19, by decide +kernel, dL_setSuccessor_20, by decide +kernel⟩⟩)
theorem tL_setSuccessor {L : Nat} {xs : Nat → Int32} {N : Nat} : z_AllE (zE L xs N 324) 0 (kL_setSuccessor N) :=
  z_ac (j := 1) rfl (z_eI (sp_aload_n (q := 3) dL_setSuccessor_0 rfl rfl)) <|
  z_ac (j := 2) rfl (z_eI (sp_iconst dL_setSuccessor_1 (by decide +kernel) rfl)) <|
  z_ac (j := 3) rfl (z_eI (sp_aload_n (q := 0) dL_setSuccessor_2 rfl rfl)) <|
  z_ac (j := 4) rfl (z_eI (sp_iload_n (q := 1) dL_setSuccessor_3 rfl rfl)) <|
  z_ac (j := 5) rfl (z_eI (sp_iload_n (q := 2) dL_setSuccessor_4 rfl rfl)) <|
  z_ac (j := 6) rfl (z_cV dL_setSuccessor_5 wl_1248 qX8_setSuccessor (by decide +kernel) ⟨_, _, rfl⟩ shL_setSuccessor rfl) <|
  z_ac (j := 7) rfl (z_eI (sp_i2l dL_setSuccessor_8 rfl)) <|
  z_ac (j := 8) rfl (z_eI (sp_last dL_setSuccessor_9 rfl)) <|
  z_ac (j := 9) rfl (z_eI (sp_goto dL_setSuccessor_10 rfl)) <|
  z_ac (j := 10) rfl (z_eI (sp_astore dL_setSuccessor_13 (by decide) (fun _ _ => rfl) rfl)) <|
  z_ac (j := 11) rfl (z_eI (sp_iconst dL_setSuccessor_15 (by decide +kernel) rfl)) <|
  z_ac (j := 12) rfl (z_eR (sr_int dL_setSuccessor_16 rfl)) <|
  z_ac (j := 13) rfl (z_eI (sp_astore dL_setSuccessor_17 (by decide) (fun _ _ => rfl) rfl)) <|
  z_ac (j := 14) rfl (z_eI (sp_iconst dL_setSuccessor_19 (by decide +kernel) rfl)) <|
  z_ac (j := 15) rfl (z_eR (sr_int dL_setSuccessor_20 rfl)) <|
  z_ac (j := 16) rfl (z_eI (sp_iconst dL_setSuccessor_21 (by decide +kernel) rfl)) <|
  z_ac (j := 17) rfl (z_eR (sr_int dL_setSuccessor_22 rfl)) <| z_an
theorem dL_clearSuccessor_0 : decode cL_clearSuccessor 0 = .ok (.aload_n 2, 1) := by decide +kernel
theorem dL_clearSuccessor_1 : decode cL_clearSuccessor 1 = .ok (.iconst 0, 1) := by decide +kernel
theorem dL_clearSuccessor_2 : decode cL_clearSuccessor 2 = .ok (.aload_n 0, 1) := by decide +kernel
theorem dL_clearSuccessor_3 : decode cL_clearSuccessor 3 = .ok (.iload_n 1, 1) := by decide +kernel
theorem dL_clearSuccessor_4 : decode cL_clearSuccessor 4 = .ok (.invokevirtual 142, 3) := by decide +kernel
theorem dL_clearSuccessor_7 : decode cL_clearSuccessor 7 = .ok (.i2l, 1) := by decide +kernel
theorem dL_clearSuccessor_8 : decode cL_clearSuccessor 8 = .ok (.lastore, 1) := by decide +kernel
theorem dL_clearSuccessor_9 : decode cL_clearSuccessor 9 = .ok (.goto 9, 3) := by decide +kernel
theorem dL_clearSuccessor_12 : decode cL_clearSuccessor 12 = .ok (.astore_n 3, 1) := by decide +kernel
theorem dL_clearSuccessor_13 : decode cL_clearSuccessor 13 = .ok (.iconst 1, 1) := by decide +kernel
theorem dL_clearSuccessor_14 : decode cL_clearSuccessor 14 = .ok (.ireturn, 1) := by decide +kernel
theorem dL_clearSuccessor_15 : decode cL_clearSuccessor 15 = .ok (.astore_n 3, 1) := by decide +kernel
theorem dL_clearSuccessor_16 : decode cL_clearSuccessor 16 = .ok (.iconst 2, 1) := by decide +kernel
theorem dL_clearSuccessor_17 : decode cL_clearSuccessor 17 = .ok (.ireturn, 1) := by decide +kernel
theorem dL_clearSuccessor_18 : decode cL_clearSuccessor 18 = .ok (.iconst 0, 1) := by decide +kernel
theorem dL_clearSuccessor_19 : decode cL_clearSuccessor 19 = .ok (.ireturn, 1) := by decide +kernel
theorem shL_clearSuccessor {L : Nat} {xs : Nat → Int32} {N : Nat} : zSH L xs N 325 4 := z_sw [((0, 9, 12, 34), ("java/lang/IndexOutOfBoundsException", 1)), ((0, 9, 15, 28), ("java/util/NoSuchElementException", 2))] rfl rfl rfl (by
  intro r hr
  simp only [List.mem_cons, List.not_mem_nil, or_false] at hr
  rcases hr with rfl | rfl
  · exact ⟨by decide +kernel, by decide +kernel, wq_906, by decide +kernel, Or.inr ⟨_, _, dL_clearSuccessor_12, dL_clearSuccessor_13, by decide +kernel, dL_clearSuccessor_14, by decide +kernel⟩⟩
  · exact ⟨by decide +kernel, by decide +kernel, wq_882, by decide +kernel, Or.inr ⟨_, _, dL_clearSuccessor_15, dL_clearSuccessor_16, by decide +kernel, dL_clearSuccessor_17, by decide +kernel⟩⟩)
theorem tL_clearSuccessor {L : Nat} {xs : Nat → Int32} {N : Nat} : z_AllE (zE L xs N 325) 0 (kL_clearSuccessor N) :=
  z_ac (j := 1) rfl (z_eI (sp_aload_n (q := 2) dL_clearSuccessor_0 rfl rfl)) <|
  z_ac (j := 2) rfl (z_eI (sp_iconst dL_clearSuccessor_1 (by decide +kernel) rfl)) <|
  z_ac (j := 3) rfl (z_eI (sp_aload_n (q := 0) dL_clearSuccessor_2 rfl rfl)) <|
  z_ac (j := 4) rfl (z_eI (sp_iload_n (q := 1) dL_clearSuccessor_3 rfl rfl)) <|
  z_ac (j := 5) rfl (z_cV dL_clearSuccessor_4 wl_1261 qX8_clearSuccessor (by decide +kernel) ⟨_, _, rfl⟩ shL_clearSuccessor rfl) <|
  z_ac (j := 6) rfl (z_eI (sp_i2l dL_clearSuccessor_7 rfl)) <|
  z_ac (j := 7) rfl (z_eI (sp_last dL_clearSuccessor_8 rfl)) <|
  z_ac (j := 8) rfl (z_eI (sp_goto dL_clearSuccessor_9 rfl)) <|
  z_ac (j := 9) rfl (z_eI (sp_astore_n (q := 3) dL_clearSuccessor_12 rfl (by decide) (fun _ _ => rfl) rfl)) <|
  z_ac (j := 10) rfl (z_eI (sp_iconst dL_clearSuccessor_13 (by decide +kernel) rfl)) <|
  z_ac (j := 11) rfl (z_eR (sr_int dL_clearSuccessor_14 rfl)) <|
  z_ac (j := 12) rfl (z_eI (sp_astore_n (q := 3) dL_clearSuccessor_15 rfl (by decide) (fun _ _ => rfl) rfl)) <|
  z_ac (j := 13) rfl (z_eI (sp_iconst dL_clearSuccessor_16 (by decide +kernel) rfl)) <|
  z_ac (j := 14) rfl (z_eR (sr_int dL_clearSuccessor_17 rfl)) <|
  z_ac (j := 15) rfl (z_eI (sp_iconst dL_clearSuccessor_18 (by decide +kernel) rfl)) <|
  z_ac (j := 16) rfl (z_eR (sr_int dL_clearSuccessor_19 rfl)) <| z_an
theorem dL_layPlank_0 : decode cL_layPlank 0 = .ok (.aload 4, 2) := by decide +kernel
theorem dL_layPlank_2 : decode cL_layPlank 2 = .ok (.iconst 0, 1) := by decide +kernel
theorem dL_layPlank_3 : decode cL_layPlank 3 = .ok (.aload_n 0, 1) := by decide +kernel
theorem dL_layPlank_4 : decode cL_layPlank 4 = .ok (.iload_n 1, 1) := by decide +kernel
theorem dL_layPlank_5 : decode cL_layPlank 5 = .ok (.iload_n 2, 1) := by decide +kernel
theorem dL_layPlank_6 : decode cL_layPlank 6 = .ok (.iload_n 3, 1) := by decide +kernel
theorem dL_layPlank_7 : decode cL_layPlank 7 = .ok (.invokevirtual 145, 3) := by decide +kernel
theorem dL_layPlank_10 : decode cL_layPlank 10 = .ok (.i2l, 1) := by decide +kernel
theorem dL_layPlank_11 : decode cL_layPlank 11 = .ok (.lastore, 1) := by decide +kernel
theorem dL_layPlank_12 : decode cL_layPlank 12 = .ok (.goto 15, 3) := by decide +kernel
theorem dL_layPlank_15 : decode cL_layPlank 15 = .ok (.astore 5, 2) := by decide +kernel
theorem dL_layPlank_17 : decode cL_layPlank 17 = .ok (.iconst 1, 1) := by decide +kernel
theorem dL_layPlank_18 : decode cL_layPlank 18 = .ok (.ireturn, 1) := by decide +kernel
theorem dL_layPlank_19 : decode cL_layPlank 19 = .ok (.astore 5, 2) := by decide +kernel
theorem dL_layPlank_21 : decode cL_layPlank 21 = .ok (.iconst 2, 1) := by decide +kernel
theorem dL_layPlank_22 : decode cL_layPlank 22 = .ok (.ireturn, 1) := by decide +kernel
theorem dL_layPlank_23 : decode cL_layPlank 23 = .ok (.astore 5, 2) := by decide +kernel
theorem dL_layPlank_25 : decode cL_layPlank 25 = .ok (.iconst 3, 1) := by decide +kernel
theorem dL_layPlank_26 : decode cL_layPlank 26 = .ok (.ireturn, 1) := by decide +kernel
theorem dL_layPlank_27 : decode cL_layPlank 27 = .ok (.iconst 0, 1) := by decide +kernel
theorem dL_layPlank_28 : decode cL_layPlank 28 = .ok (.ireturn, 1) := by decide +kernel
theorem shL_layPlank {L : Nat} {xs : Nat → Int32} {N : Nat} : zSH L xs N 326 6 := z_sw [((0, 12, 15, 34), ("java/lang/IndexOutOfBoundsException", 1)), ((0, 12, 19, 19), ("java/lang/IllegalArgumentException", 2)), ((0, 12, 23, 13), ("java/lang/IllegalStateException", 3))] rfl rfl rfl (by
  intro r hr
  simp only [List.mem_cons, List.not_mem_nil, or_false] at hr
  rcases hr with rfl | rfl | rfl
  · exact ⟨by decide +kernel, by decide +kernel, wq_906, by decide +kernel, Or.inl ⟨_, _, dL_layPlank_15, dL_layPlank_17, by decide +kernel, dL_layPlank_18, by decide +kernel⟩⟩
  · exact ⟨by decide +kernel, by decide +kernel, wq_846, by decide +kernel, Or.inl ⟨_, _, dL_layPlank_19, dL_layPlank_21, by decide +kernel, dL_layPlank_22, by decide +kernel⟩⟩
  · exact ⟨by decide +kernel, by decide +kernel, wq_766, by decide +kernel, Or.inl ⟨_, _, dL_layPlank_23, dL_layPlank_25, by decide +kernel, dL_layPlank_26, by decide +kernel⟩⟩)
theorem tL_layPlank {L : Nat} {xs : Nat → Int32} {N : Nat} : z_AllE (zE L xs N 326) 0 (kL_layPlank N) :=
  z_ac (j := 1) rfl (z_eI (sp_aload dL_layPlank_0 rfl)) <|
  z_ac (j := 2) rfl (z_eI (sp_iconst dL_layPlank_2 (by decide +kernel) rfl)) <|
  z_ac (j := 3) rfl (z_eI (sp_aload_n (q := 0) dL_layPlank_3 rfl rfl)) <|
  z_ac (j := 4) rfl (z_eI (sp_iload_n (q := 1) dL_layPlank_4 rfl rfl)) <|
  z_ac (j := 5) rfl (z_eI (sp_iload_n (q := 2) dL_layPlank_5 rfl rfl)) <|
  z_ac (j := 6) rfl (z_eI (sp_iload_n (q := 3) dL_layPlank_6 rfl rfl)) <|
  z_ac (j := 7) rfl (z_cV dL_layPlank_7 wl_1268 qX8_layPlank (by decide +kernel) ⟨_, _, rfl⟩ shL_layPlank rfl) <|
  z_ac (j := 8) rfl (z_eI (sp_i2l dL_layPlank_10 rfl)) <|
  z_ac (j := 9) rfl (z_eI (sp_last dL_layPlank_11 rfl)) <|
  z_ac (j := 10) rfl (z_eI (sp_goto dL_layPlank_12 rfl)) <|
  z_ac (j := 11) rfl (z_eI (sp_astore dL_layPlank_15 (by decide) (fun _ _ => rfl) rfl)) <|
  z_ac (j := 12) rfl (z_eI (sp_iconst dL_layPlank_17 (by decide +kernel) rfl)) <|
  z_ac (j := 13) rfl (z_eR (sr_int dL_layPlank_18 rfl)) <|
  z_ac (j := 14) rfl (z_eI (sp_astore dL_layPlank_19 (by decide) (fun _ _ => rfl) rfl)) <|
  z_ac (j := 15) rfl (z_eI (sp_iconst dL_layPlank_21 (by decide +kernel) rfl)) <|
  z_ac (j := 16) rfl (z_eR (sr_int dL_layPlank_22 rfl)) <|
  z_ac (j := 17) rfl (z_eI (sp_astore dL_layPlank_23 (by decide) (fun _ _ => rfl) rfl)) <|
  z_ac (j := 18) rfl (z_eI (sp_iconst dL_layPlank_25 (by decide +kernel) rfl)) <|
  z_ac (j := 19) rfl (z_eR (sr_int dL_layPlank_26 rfl)) <|
  z_ac (j := 20) rfl (z_eI (sp_iconst dL_layPlank_27 (by decide +kernel) rfl)) <|
  z_ac (j := 21) rfl (z_eR (sr_int dL_layPlank_28 rfl)) <| z_an
theorem dL_setClearness_0 : decode cL_setClearness 0 = .ok (.aload_n 2, 1) := by decide +kernel
theorem dL_setClearness_1 : decode cL_setClearness 1 = .ok (.iconst 0, 1) := by decide +kernel
theorem dL_setClearness_2 : decode cL_setClearness 2 = .ok (.aload_n 0, 1) := by decide +kernel
theorem dL_setClearness_3 : decode cL_setClearness 3 = .ok (.iload_n 1, 1) := by decide +kernel
theorem dL_setClearness_4 : decode cL_setClearness 4 = .ok (.invokevirtual 149, 3) := by decide +kernel
theorem dL_setClearness_7 : decode cL_setClearness 7 = .ok (.i2l, 1) := by decide +kernel
theorem dL_setClearness_8 : decode cL_setClearness 8 = .ok (.lastore, 1) := by decide +kernel
theorem dL_setClearness_9 : decode cL_setClearness 9 = .ok (.goto 6, 3) := by decide +kernel
theorem dL_setClearness_12 : decode cL_setClearness 12 = .ok (.astore_n 3, 1) := by decide +kernel
theorem dL_setClearness_13 : decode cL_setClearness 13 = .ok (.iconst 1, 1) := by decide +kernel
theorem dL_setClearness_14 : decode cL_setClearness 14 = .ok (.ireturn, 1) := by decide +kernel
theorem dL_setClearness_15 : decode cL_setClearness 15 = .ok (.iconst 0, 1) := by decide +kernel
theorem dL_setClearness_16 : decode cL_setClearness 16 = .ok (.ireturn, 1) := by decide +kernel
theorem shL_setClearness {L : Nat} {xs : Nat → Int32} {N : Nat} : zSH L xs N 327 4 := z_sw [((0, 9, 12, 19), ("java/lang/IllegalArgumentException", 1))] rfl rfl rfl (by
  intro r hr
  simp only [List.mem_cons, List.not_mem_nil, or_false] at hr
  rcases hr with rfl
  · exact ⟨by decide +kernel, by decide +kernel, wq_846, by decide +kernel, Or.inr ⟨_, _, dL_setClearness_12, dL_setClearness_13, by decide +kernel, dL_setClearness_14, by decide +kernel⟩⟩)
theorem tL_setClearness {L : Nat} {xs : Nat → Int32} {N : Nat} : z_AllE (zE L xs N 327) 0 (kL_setClearness N) :=
  z_ac (j := 1) rfl (z_eI (sp_aload_n (q := 2) dL_setClearness_0 rfl rfl)) <|
  z_ac (j := 2) rfl (z_eI (sp_iconst dL_setClearness_1 (by decide +kernel) rfl)) <|
  z_ac (j := 3) rfl (z_eI (sp_aload_n (q := 0) dL_setClearness_2 rfl rfl)) <|
  z_ac (j := 4) rfl (z_eI (sp_iload_n (q := 1) dL_setClearness_3 rfl rfl)) <|
  z_ac (j := 5) rfl (z_cV dL_setClearness_4 wl_1277 qX8_setClearness (by decide +kernel) ⟨_, _, rfl⟩ shL_setClearness rfl) <|
  z_ac (j := 6) rfl (z_eI (sp_i2l dL_setClearness_7 rfl)) <|
  z_ac (j := 7) rfl (z_eI (sp_last dL_setClearness_8 rfl)) <|
  z_ac (j := 8) rfl (z_eI (sp_goto dL_setClearness_9 rfl)) <|
  z_ac (j := 9) rfl (z_eI (sp_astore_n (q := 3) dL_setClearness_12 rfl (by decide) (fun _ _ => rfl) rfl)) <|
  z_ac (j := 10) rfl (z_eI (sp_iconst dL_setClearness_13 (by decide +kernel) rfl)) <|
  z_ac (j := 11) rfl (z_eR (sr_int dL_setClearness_14 rfl)) <|
  z_ac (j := 12) rfl (z_eI (sp_iconst dL_setClearness_15 (by decide +kernel) rfl)) <|
  z_ac (j := 13) rfl (z_eR (sr_int dL_setClearness_16 rfl)) <| z_an
theorem dL_setFog_0 : decode cL_setFog 0 = .ok (.aload_n 3, 1) := by decide +kernel
theorem dL_setFog_1 : decode cL_setFog 1 = .ok (.iconst 0, 1) := by decide +kernel
theorem dL_setFog_2 : decode cL_setFog 2 = .ok (.aload_n 0, 1) := by decide +kernel
theorem dL_setFog_3 : decode cL_setFog 3 = .ok (.iload_n 1, 1) := by decide +kernel
theorem dL_setFog_4 : decode cL_setFog 4 = .ok (.iload_n 2, 1) := by decide +kernel
theorem dL_setFog_5 : decode cL_setFog 5 = .ok (.invokevirtual 152, 3) := by decide +kernel
theorem dL_setFog_8 : decode cL_setFog 8 = .ok (.i2l, 1) := by decide +kernel
theorem dL_setFog_9 : decode cL_setFog 9 = .ok (.lastore, 1) := by decide +kernel
theorem dL_setFog_10 : decode cL_setFog 10 = .ok (.goto 11, 3) := by decide +kernel
theorem dL_setFog_13 : decode cL_setFog 13 = .ok (.astore 4, 2) := by decide +kernel
theorem dL_setFog_15 : decode cL_setFog 15 = .ok (.iconst 1, 1) := by decide +kernel
theorem dL_setFog_16 : decode cL_setFog 16 = .ok (.ireturn, 1) := by decide +kernel
theorem dL_setFog_17 : decode cL_setFog 17 = .ok (.astore 4, 2) := by decide +kernel
theorem dL_setFog_19 : decode cL_setFog 19 = .ok (.iconst 2, 1) := by decide +kernel
theorem dL_setFog_20 : decode cL_setFog 20 = .ok (.ireturn, 1) := by decide +kernel
theorem dL_setFog_21 : decode cL_setFog 21 = .ok (.iconst 0, 1) := by decide +kernel
theorem dL_setFog_22 : decode cL_setFog 22 = .ok (.ireturn, 1) := by decide +kernel
theorem shL_setFog {L : Nat} {xs : Nat → Int32} {N : Nat} : zSH L xs N 328 5 := z_sw [((0, 10, 13, 34), ("java/lang/IndexOutOfBoundsException", 1)), ((0, 10, 17, 19), ("java/lang/IllegalArgumentException", 2))] rfl rfl rfl (by
  intro r hr
  simp only [List.mem_cons, List.not_mem_nil, or_false] at hr
  rcases hr with rfl | rfl
  · exact ⟨by decide +kernel, by decide +kernel, wq_906, by decide +kernel, Or.inl ⟨_, _, dL_setFog_13, dL_setFog_15, by decide +kernel, dL_setFog_16, by decide +kernel⟩⟩
  · exact ⟨by decide +kernel, by decide +kernel, wq_846, by decide +kernel, Or.inl ⟨_, _, dL_setFog_17, dL_setFog_19, by decide +kernel, dL_setFog_20, by decide +kernel⟩⟩)
theorem tL_setFog {L : Nat} {xs : Nat → Int32} {N : Nat} : z_AllE (zE L xs N 328) 0 (kL_setFog N) :=
  z_ac (j := 1) rfl (z_eI (sp_aload_n (q := 3) dL_setFog_0 rfl rfl)) <|
  z_ac (j := 2) rfl (z_eI (sp_iconst dL_setFog_1 (by decide +kernel) rfl)) <|
  z_ac (j := 3) rfl (z_eI (sp_aload_n (q := 0) dL_setFog_2 rfl rfl)) <|
  z_ac (j := 4) rfl (z_eI (sp_iload_n (q := 1) dL_setFog_3 rfl rfl)) <|
  z_ac (j := 5) rfl (z_eI (sp_iload_n (q := 2) dL_setFog_4 rfl rfl)) <|
  z_ac (j := 6) rfl (z_cV dL_setFog_5 wl_1285 qX8_setFog (by decide +kernel) ⟨_, _, rfl⟩ shL_setFog rfl) <|
  z_ac (j := 7) rfl (z_eI (sp_i2l dL_setFog_8 rfl)) <|
  z_ac (j := 8) rfl (z_eI (sp_last dL_setFog_9 rfl)) <|
  z_ac (j := 9) rfl (z_eI (sp_goto dL_setFog_10 rfl)) <|
  z_ac (j := 10) rfl (z_eI (sp_astore dL_setFog_13 (by decide) (fun _ _ => rfl) rfl)) <|
  z_ac (j := 11) rfl (z_eI (sp_iconst dL_setFog_15 (by decide +kernel) rfl)) <|
  z_ac (j := 12) rfl (z_eR (sr_int dL_setFog_16 rfl)) <|
  z_ac (j := 13) rfl (z_eI (sp_astore dL_setFog_17 (by decide) (fun _ _ => rfl) rfl)) <|
  z_ac (j := 14) rfl (z_eI (sp_iconst dL_setFog_19 (by decide +kernel) rfl)) <|
  z_ac (j := 15) rfl (z_eR (sr_int dL_setFog_20 rfl)) <|
  z_ac (j := 16) rfl (z_eI (sp_iconst dL_setFog_21 (by decide +kernel) rfl)) <|
  z_ac (j := 17) rfl (z_eR (sr_int dL_setFog_22 rfl)) <| z_an
theorem dL_setTarget_0 : decode cL_setTarget 0 = .ok (.aload_n 3, 1) := by decide +kernel
theorem dL_setTarget_1 : decode cL_setTarget 1 = .ok (.iconst 0, 1) := by decide +kernel
theorem dL_setTarget_2 : decode cL_setTarget 2 = .ok (.aload_n 0, 1) := by decide +kernel
theorem dL_setTarget_3 : decode cL_setTarget 3 = .ok (.iload_n 1, 1) := by decide +kernel
theorem dL_setTarget_4 : decode cL_setTarget 4 = .ok (.iload_n 2, 1) := by decide +kernel
theorem dL_setTarget_5 : decode cL_setTarget 5 = .ok (.invokevirtual 155, 3) := by decide +kernel
theorem dL_setTarget_8 : decode cL_setTarget 8 = .ok (.i2l, 1) := by decide +kernel
theorem dL_setTarget_9 : decode cL_setTarget 9 = .ok (.lastore, 1) := by decide +kernel
theorem dL_setTarget_10 : decode cL_setTarget 10 = .ok (.goto 11, 3) := by decide +kernel
theorem dL_setTarget_13 : decode cL_setTarget 13 = .ok (.astore 4, 2) := by decide +kernel
theorem dL_setTarget_15 : decode cL_setTarget 15 = .ok (.iconst 1, 1) := by decide +kernel
theorem dL_setTarget_16 : decode cL_setTarget 16 = .ok (.ireturn, 1) := by decide +kernel
theorem dL_setTarget_17 : decode cL_setTarget 17 = .ok (.astore 4, 2) := by decide +kernel
theorem dL_setTarget_19 : decode cL_setTarget 19 = .ok (.iconst 2, 1) := by decide +kernel
theorem dL_setTarget_20 : decode cL_setTarget 20 = .ok (.ireturn, 1) := by decide +kernel
theorem dL_setTarget_21 : decode cL_setTarget 21 = .ok (.iconst 0, 1) := by decide +kernel
theorem dL_setTarget_22 : decode cL_setTarget 22 = .ok (.ireturn, 1) := by decide +kernel
theorem shL_setTarget {L : Nat} {xs : Nat → Int32} {N : Nat} : zSH L xs N 329 5 := z_sw [((0, 10, 13, 34), ("java/lang/IndexOutOfBoundsException", 1)), ((0, 10, 17, 13), ("java/lang/IllegalStateException", 2))] rfl rfl rfl (by
  intro r hr
  simp only [List.mem_cons, List.not_mem_nil, or_false] at hr
  rcases hr with rfl | rfl
  · exact ⟨by decide +kernel, by decide +kernel, wq_906, by decide +kernel, Or.inl ⟨_, _, dL_setTarget_13, dL_setTarget_15, by decide +kernel, dL_setTarget_16, by decide +kernel⟩⟩
  · exact ⟨by decide +kernel, by decide +kernel, wq_766, by decide +kernel, Or.inl ⟨_, _, dL_setTarget_17, dL_setTarget_19, by decide +kernel, dL_setTarget_20, by decide +kernel⟩⟩)
theorem tL_setTarget {L : Nat} {xs : Nat → Int32} {N : Nat} : z_AllE (zE L xs N 329) 0 (kL_setTarget N) :=
  z_ac (j := 1) rfl (z_eI (sp_aload_n (q := 3) dL_setTarget_0 rfl rfl)) <|
  z_ac (j := 2) rfl (z_eI (sp_iconst dL_setTarget_1 (by decide +kernel) rfl)) <|
  z_ac (j := 3) rfl (z_eI (sp_aload_n (q := 0) dL_setTarget_2 rfl rfl)) <|
  z_ac (j := 4) rfl (z_eI (sp_iload_n (q := 1) dL_setTarget_3 rfl rfl)) <|
  z_ac (j := 5) rfl (z_eI (sp_iload_n (q := 2) dL_setTarget_4 rfl rfl)) <|
  z_ac (j := 6) rfl (z_cV dL_setTarget_5 wl_1293 qX8_setTarget (by decide +kernel) ⟨_, _, rfl⟩ shL_setTarget rfl) <|
  z_ac (j := 7) rfl (z_eI (sp_i2l dL_setTarget_8 rfl)) <|
  z_ac (j := 8) rfl (z_eI (sp_last dL_setTarget_9 rfl)) <|
  z_ac (j := 9) rfl (z_eI (sp_goto dL_setTarget_10 rfl)) <|
  z_ac (j := 10) rfl (z_eI (sp_astore dL_setTarget_13 (by decide) (fun _ _ => rfl) rfl)) <|
  z_ac (j := 11) rfl (z_eI (sp_iconst dL_setTarget_15 (by decide +kernel) rfl)) <|
  z_ac (j := 12) rfl (z_eR (sr_int dL_setTarget_16 rfl)) <|
  z_ac (j := 13) rfl (z_eI (sp_astore dL_setTarget_17 (by decide) (fun _ _ => rfl) rfl)) <|
  z_ac (j := 14) rfl (z_eI (sp_iconst dL_setTarget_19 (by decide +kernel) rfl)) <|
  z_ac (j := 15) rfl (z_eR (sr_int dL_setTarget_20 rfl)) <|
  z_ac (j := 16) rfl (z_eI (sp_iconst dL_setTarget_21 (by decide +kernel) rfl)) <|
  z_ac (j := 17) rfl (z_eR (sr_int dL_setTarget_22 rfl)) <| z_an
theorem dL_undo_0 : decode cL_undo 0 = .ok (.aload_n 1, 1) := by decide +kernel
theorem dL_undo_1 : decode cL_undo 1 = .ok (.iconst 0, 1) := by decide +kernel
theorem dL_undo_2 : decode cL_undo 2 = .ok (.aload_n 0, 1) := by decide +kernel
theorem dL_undo_3 : decode cL_undo 3 = .ok (.invokevirtual 158, 3) := by decide +kernel
theorem dL_undo_6 : decode cL_undo 6 = .ok (.i2l, 1) := by decide +kernel
theorem dL_undo_7 : decode cL_undo 7 = .ok (.lastore, 1) := by decide +kernel
theorem dL_undo_8 : decode cL_undo 8 = .ok (.goto 6, 3) := by decide +kernel
theorem dL_undo_11 : decode cL_undo 11 = .ok (.astore_n 2, 1) := by decide +kernel
theorem dL_undo_12 : decode cL_undo 12 = .ok (.iconst 1, 1) := by decide +kernel
theorem dL_undo_13 : decode cL_undo 13 = .ok (.ireturn, 1) := by decide +kernel
theorem dL_undo_14 : decode cL_undo 14 = .ok (.iconst 0, 1) := by decide +kernel
theorem dL_undo_15 : decode cL_undo 15 = .ok (.ireturn, 1) := by decide +kernel
theorem shL_undo {L : Nat} {xs : Nat → Int32} {N : Nat} : zSH L xs N 330 3 := z_sw [((0, 8, 11, 13), ("java/lang/IllegalStateException", 1))] rfl rfl rfl (by
  intro r hr
  simp only [List.mem_cons, List.not_mem_nil, or_false] at hr
  rcases hr with rfl
  · exact ⟨by decide +kernel, by decide +kernel, wq_766, by decide +kernel, Or.inr ⟨_, _, dL_undo_11, dL_undo_12, by decide +kernel, dL_undo_13, by decide +kernel⟩⟩)
theorem tL_undo {L : Nat} {xs : Nat → Int32} {N : Nat} : z_AllE (zE L xs N 330) 0 (kL_undo N) :=
  z_ac (j := 1) rfl (z_eI (sp_aload_n (q := 1) dL_undo_0 rfl rfl)) <|
  z_ac (j := 2) rfl (z_eI (sp_iconst dL_undo_1 (by decide +kernel) rfl)) <|
  z_ac (j := 3) rfl (z_eI (sp_aload_n (q := 0) dL_undo_2 rfl rfl)) <|
  z_ac (j := 4) rfl (z_cV dL_undo_3 wl_1300 qX8_undo (by decide +kernel) ⟨_, _, rfl⟩ shL_undo rfl) <|
  z_ac (j := 5) rfl (z_eI (sp_i2l dL_undo_6 rfl)) <|
  z_ac (j := 6) rfl (z_eI (sp_last dL_undo_7 rfl)) <|
  z_ac (j := 7) rfl (z_eI (sp_goto dL_undo_8 rfl)) <|
  z_ac (j := 8) rfl (z_eI (sp_astore_n (q := 2) dL_undo_11 rfl (by decide) (fun _ _ => rfl) rfl)) <|
  z_ac (j := 9) rfl (z_eI (sp_iconst dL_undo_12 (by decide +kernel) rfl)) <|
  z_ac (j := 10) rfl (z_eR (sr_int dL_undo_13 rfl)) <|
  z_ac (j := 11) rfl (z_eI (sp_iconst dL_undo_14 (by decide +kernel) rfl)) <|
  z_ac (j := 12) rfl (z_eR (sr_int dL_undo_15 rfl)) <| z_an
theorem dL_saveSnapshot_0 : decode cL_saveSnapshot 0 = .ok (.aload_n 2, 1) := by decide +kernel
theorem dL_saveSnapshot_1 : decode cL_saveSnapshot 1 = .ok (.iconst 0, 1) := by decide +kernel
theorem dL_saveSnapshot_2 : decode cL_saveSnapshot 2 = .ok (.aload_n 0, 1) := by decide +kernel
theorem dL_saveSnapshot_3 : decode cL_saveSnapshot 3 = .ok (.iload_n 1, 1) := by decide +kernel
theorem dL_saveSnapshot_4 : decode cL_saveSnapshot 4 = .ok (.invokevirtual 161, 3) := by decide +kernel
theorem dL_saveSnapshot_7 : decode cL_saveSnapshot 7 = .ok (.i2l, 1) := by decide +kernel
theorem dL_saveSnapshot_8 : decode cL_saveSnapshot 8 = .ok (.lastore, 1) := by decide +kernel
theorem dL_saveSnapshot_9 : decode cL_saveSnapshot 9 = .ok (.goto 6, 3) := by decide +kernel
theorem dL_saveSnapshot_12 : decode cL_saveSnapshot 12 = .ok (.astore_n 3, 1) := by decide +kernel
theorem dL_saveSnapshot_13 : decode cL_saveSnapshot 13 = .ok (.iconst 1, 1) := by decide +kernel
theorem dL_saveSnapshot_14 : decode cL_saveSnapshot 14 = .ok (.ireturn, 1) := by decide +kernel
theorem dL_saveSnapshot_15 : decode cL_saveSnapshot 15 = .ok (.iconst 0, 1) := by decide +kernel
theorem dL_saveSnapshot_16 : decode cL_saveSnapshot 16 = .ok (.ireturn, 1) := by decide +kernel
theorem shL_saveSnapshot {L : Nat} {xs : Nat → Int32} {N : Nat} : zSH L xs N 331 4 := z_sw [((0, 9, 12, 34), ("java/lang/IndexOutOfBoundsException", 1))] rfl rfl rfl (by
  intro r hr
  simp only [List.mem_cons, List.not_mem_nil, or_false] at hr
  rcases hr with rfl
  · exact ⟨by decide +kernel, by decide +kernel, wq_906, by decide +kernel, Or.inr ⟨_, _, dL_saveSnapshot_12, dL_saveSnapshot_13, by decide +kernel, dL_saveSnapshot_14, by decide +kernel⟩⟩)
theorem tL_saveSnapshot {L : Nat} {xs : Nat → Int32} {N : Nat} : z_AllE (zE L xs N 331) 0 (kL_saveSnapshot N) :=
  z_ac (j := 1) rfl (z_eI (sp_aload_n (q := 2) dL_saveSnapshot_0 rfl rfl)) <|
  z_ac (j := 2) rfl (z_eI (sp_iconst dL_saveSnapshot_1 (by decide +kernel) rfl)) <|
  z_ac (j := 3) rfl (z_eI (sp_aload_n (q := 0) dL_saveSnapshot_2 rfl rfl)) <|
  z_ac (j := 4) rfl (z_eI (sp_iload_n (q := 1) dL_saveSnapshot_3 rfl rfl)) <|
  z_ac (j := 5) rfl (z_cV dL_saveSnapshot_4 wl_1312 qX8_saveSnapshot (by decide +kernel) ⟨_, _, rfl⟩ shL_saveSnapshot rfl) <|
  z_ac (j := 6) rfl (z_eI (sp_i2l dL_saveSnapshot_7 rfl)) <|
  z_ac (j := 7) rfl (z_eI (sp_last dL_saveSnapshot_8 rfl)) <|
  z_ac (j := 8) rfl (z_eI (sp_goto dL_saveSnapshot_9 rfl)) <|
  z_ac (j := 9) rfl (z_eI (sp_astore_n (q := 3) dL_saveSnapshot_12 rfl (by decide) (fun _ _ => rfl) rfl)) <|
  z_ac (j := 10) rfl (z_eI (sp_iconst dL_saveSnapshot_13 (by decide +kernel) rfl)) <|
  z_ac (j := 11) rfl (z_eR (sr_int dL_saveSnapshot_14 rfl)) <|
  z_ac (j := 12) rfl (z_eI (sp_iconst dL_saveSnapshot_15 (by decide +kernel) rfl)) <|
  z_ac (j := 13) rfl (z_eR (sr_int dL_saveSnapshot_16 rfl)) <| z_an
theorem dL_restoreSnapshot_0 : decode cL_restoreSnapshot 0 = .ok (.aload_n 2, 1) := by decide +kernel
theorem dL_restoreSnapshot_1 : decode cL_restoreSnapshot 1 = .ok (.iconst 0, 1) := by decide +kernel
theorem dL_restoreSnapshot_2 : decode cL_restoreSnapshot 2 = .ok (.aload_n 0, 1) := by decide +kernel
theorem dL_restoreSnapshot_3 : decode cL_restoreSnapshot 3 = .ok (.iload_n 1, 1) := by decide +kernel
theorem dL_restoreSnapshot_4 : decode cL_restoreSnapshot 4 = .ok (.invokevirtual 164, 3) := by decide +kernel
theorem dL_restoreSnapshot_7 : decode cL_restoreSnapshot 7 = .ok (.i2l, 1) := by decide +kernel
theorem dL_restoreSnapshot_8 : decode cL_restoreSnapshot 8 = .ok (.lastore, 1) := by decide +kernel
theorem dL_restoreSnapshot_9 : decode cL_restoreSnapshot 9 = .ok (.goto 9, 3) := by decide +kernel
theorem dL_restoreSnapshot_12 : decode cL_restoreSnapshot 12 = .ok (.astore_n 3, 1) := by decide +kernel
theorem dL_restoreSnapshot_13 : decode cL_restoreSnapshot 13 = .ok (.iconst 1, 1) := by decide +kernel
theorem dL_restoreSnapshot_14 : decode cL_restoreSnapshot 14 = .ok (.ireturn, 1) := by decide +kernel
theorem dL_restoreSnapshot_15 : decode cL_restoreSnapshot 15 = .ok (.astore_n 3, 1) := by decide +kernel
theorem dL_restoreSnapshot_16 : decode cL_restoreSnapshot 16 = .ok (.iconst 2, 1) := by decide +kernel
theorem dL_restoreSnapshot_17 : decode cL_restoreSnapshot 17 = .ok (.ireturn, 1) := by decide +kernel
theorem dL_restoreSnapshot_18 : decode cL_restoreSnapshot 18 = .ok (.iconst 0, 1) := by decide +kernel
theorem dL_restoreSnapshot_19 : decode cL_restoreSnapshot 19 = .ok (.ireturn, 1) := by decide +kernel
theorem shL_restoreSnapshot {L : Nat} {xs : Nat → Int32} {N : Nat} : zSH L xs N 332 4 := z_sw [((0, 9, 12, 34), ("java/lang/IndexOutOfBoundsException", 1)), ((0, 9, 15, 28), ("java/util/NoSuchElementException", 2))] rfl rfl rfl (by
  intro r hr
  simp only [List.mem_cons, List.not_mem_nil, or_false] at hr
  rcases hr with rfl | rfl
  · exact ⟨by decide +kernel, by decide +kernel, wq_906, by decide +kernel, Or.inr ⟨_, _, dL_restoreSnapshot_12, dL_restoreSnapshot_13, by decide +kernel, dL_restoreSnapshot_14, by decide +kernel⟩⟩
  · exact ⟨by decide +kernel, by decide +kernel, wq_882, by decide +kernel, Or.inr ⟨_, _, dL_restoreSnapshot_15, dL_restoreSnapshot_16, by decide +kernel, dL_restoreSnapshot_17, by decide +kernel⟩⟩)
theorem tL_restoreSnapshot {L : Nat} {xs : Nat → Int32} {N : Nat} : z_AllE (zE L xs N 332) 0 (kL_restoreSnapshot N) :=
  z_ac (j := 1) rfl (z_eI (sp_aload_n (q := 2) dL_restoreSnapshot_0 rfl rfl)) <|
  z_ac (j := 2) rfl (z_eI (sp_iconst dL_restoreSnapshot_1 (by decide +kernel) rfl)) <|
  z_ac (j := 3) rfl (z_eI (sp_aload_n (q := 0) dL_restoreSnapshot_2 rfl rfl)) <|
  z_ac (j := 4) rfl (z_eI (sp_iload_n (q := 1) dL_restoreSnapshot_3 rfl rfl)) <|
  z_ac (j := 5) rfl (z_cV dL_restoreSnapshot_4 wl_1324 qX8_restoreSnapshot (by decide +kernel) ⟨_, _, rfl⟩ shL_restoreSnapshot rfl) <|
  z_ac (j := 6) rfl (z_eI (sp_i2l dL_restoreSnapshot_7 rfl)) <|
  z_ac (j := 7) rfl (z_eI (sp_last dL_restoreSnapshot_8 rfl)) <|
  z_ac (j := 8) rfl (z_eI (sp_goto dL_restoreSnapshot_9 rfl)) <|
  z_ac (j := 9) rfl (z_eI (sp_astore_n (q := 3) dL_restoreSnapshot_12 rfl (by decide) (fun _ _ => rfl) rfl)) <|
  z_ac (j := 10) rfl (z_eI (sp_iconst dL_restoreSnapshot_13 (by decide +kernel) rfl)) <|
  z_ac (j := 11) rfl (z_eR (sr_int dL_restoreSnapshot_14 rfl)) <|
  z_ac (j := 12) rfl (z_eI (sp_astore_n (q := 3) dL_restoreSnapshot_15 rfl (by decide) (fun _ _ => rfl) rfl)) <|
  z_ac (j := 13) rfl (z_eI (sp_iconst dL_restoreSnapshot_16 (by decide +kernel) rfl)) <|
  z_ac (j := 14) rfl (z_eR (sr_int dL_restoreSnapshot_17 rfl)) <|
  z_ac (j := 15) rfl (z_eI (sp_iconst dL_restoreSnapshot_18 (by decide +kernel) rfl)) <|
  z_ac (j := 16) rfl (z_eR (sr_int dL_restoreSnapshot_19 rfl)) <| z_an
theorem dL_printedByte_0 : decode cL_printedByte 0 = .ok (.aload_n 2, 1) := by decide +kernel
theorem dL_printedByte_1 : decode cL_printedByte 1 = .ok (.iconst 0, 1) := by decide +kernel
theorem dL_printedByte_2 : decode cL_printedByte 2 = .ok (.aload_n 0, 1) := by decide +kernel
theorem dL_printedByte_3 : decode cL_printedByte 3 = .ok (.iload_n 1, 1) := by decide +kernel
theorem dL_printedByte_4 : decode cL_printedByte 4 = .ok (.invokevirtual 167, 3) := by decide +kernel
theorem dL_printedByte_7 : decode cL_printedByte 7 = .ok (.i2l, 1) := by decide +kernel
theorem dL_printedByte_8 : decode cL_printedByte 8 = .ok (.lastore, 1) := by decide +kernel
theorem dL_printedByte_9 : decode cL_printedByte 9 = .ok (.goto 6, 3) := by decide +kernel
theorem dL_printedByte_12 : decode cL_printedByte 12 = .ok (.astore_n 3, 1) := by decide +kernel
theorem dL_printedByte_13 : decode cL_printedByte 13 = .ok (.iconst 1, 1) := by decide +kernel
theorem dL_printedByte_14 : decode cL_printedByte 14 = .ok (.ireturn, 1) := by decide +kernel
theorem dL_printedByte_15 : decode cL_printedByte 15 = .ok (.iconst 0, 1) := by decide +kernel
theorem dL_printedByte_16 : decode cL_printedByte 16 = .ok (.ireturn, 1) := by decide +kernel
theorem shL_printedByte {L : Nat} {xs : Nat → Int32} {N : Nat} : zSH L xs N 333 4 := z_sw [((0, 9, 12, 34), ("java/lang/IndexOutOfBoundsException", 1))] rfl rfl rfl (by
  intro r hr
  simp only [List.mem_cons, List.not_mem_nil, or_false] at hr
  rcases hr with rfl
  · exact ⟨by decide +kernel, by decide +kernel, wq_906, by decide +kernel, Or.inr ⟨_, _, dL_printedByte_12, dL_printedByte_13, by decide +kernel, dL_printedByte_14, by decide +kernel⟩⟩)
theorem tL_printedByte {L : Nat} {xs : Nat → Int32} {N : Nat} : z_AllE (zE L xs N 333) 0 (kL_printedByte N) :=
  z_ac (j := 1) rfl (z_eI (sp_aload_n (q := 2) dL_printedByte_0 rfl rfl)) <|
  z_ac (j := 2) rfl (z_eI (sp_iconst dL_printedByte_1 (by decide +kernel) rfl)) <|
  z_ac (j := 3) rfl (z_eI (sp_aload_n (q := 0) dL_printedByte_2 rfl rfl)) <|
  z_ac (j := 4) rfl (z_eI (sp_iload_n (q := 1) dL_printedByte_3 rfl rfl)) <|
  z_ac (j := 5) rfl (z_cV dL_printedByte_4 wl_1332 qX8_printedByte (by decide +kernel) ⟨_, _, rfl⟩ shL_printedByte rfl) <|
  z_ac (j := 6) rfl (z_eI (sp_i2l dL_printedByte_7 rfl)) <|
  z_ac (j := 7) rfl (z_eI (sp_last dL_printedByte_8 rfl)) <|
  z_ac (j := 8) rfl (z_eI (sp_goto dL_printedByte_9 rfl)) <|
  z_ac (j := 9) rfl (z_eI (sp_astore_n (q := 3) dL_printedByte_12 rfl (by decide) (fun _ _ => rfl) rfl)) <|
  z_ac (j := 10) rfl (z_eI (sp_iconst dL_printedByte_13 (by decide +kernel) rfl)) <|
  z_ac (j := 11) rfl (z_eR (sr_int dL_printedByte_14 rfl)) <|
  z_ac (j := 12) rfl (z_eI (sp_iconst dL_printedByte_15 (by decide +kernel) rfl)) <|
  z_ac (j := 13) rfl (z_eR (sr_int dL_printedByte_16 rfl)) <| z_an
