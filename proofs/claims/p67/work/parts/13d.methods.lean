/-! Each entry of the tables is sound (printed by wip/p67/gen12.py). -/
theorem dX8_tick_0 : decode cX8_tick 0 = .ok (.iload_n 1, 1) := by decide +kernel
theorem dX8_tick_1 : decode cX8_tick 1 = .ok (.iconst 1, 1) := by decide +kernel
theorem dX8_tick_2 : decode cX8_tick 2 = .ok (.if_icmp .lt 9, 3) := by decide +kernel
theorem dX8_tick_5 : decode cX8_tick 5 = .ok (.iload_n 1, 1) := by decide +kernel
theorem dX8_tick_6 : decode cX8_tick 6 = .ok (.bipush 100, 2) := by decide +kernel
theorem dX8_tick_8 : decode cX8_tick 8 = .ok (.if_icmp .le 14, 3) := by decide +kernel
theorem dX8_tick_11 : decode cX8_tick 11 = .ok (.new 92, 3) := by decide +kernel
theorem dX8_tick_14 : decode cX8_tick 14 = .ok (.dup, 1) := by decide +kernel
theorem dX8_tick_15 : decode cX8_tick 15 = .ok (.ldc_w 269, 3) := by decide +kernel
theorem dX8_tick_18 : decode cX8_tick 18 = .ok (.invokespecial 96, 3) := by decide +kernel
theorem dX8_tick_21 : decode cX8_tick 21 = .ok (.athrow, 1) := by decide +kernel
theorem dX8_tick_22 : decode cX8_tick 22 = .ok (.aload_n 0, 1) := by decide +kernel
theorem dX8_tick_23 : decode cX8_tick 23 = .ok (.getfield 12, 3) := by decide +kernel
theorem dX8_tick_26 : decode cX8_tick 26 = .ok (.getfield 165, 3) := by decide +kernel
theorem dX8_tick_29 : decode cX8_tick 29 = .ok (.iload_n 1, 1) := by decide +kernel
theorem dX8_tick_30 : decode cX8_tick 30 = .ok (.iadd, 1) := by decide +kernel
theorem dX8_tick_31 : decode cX8_tick 31 = .ok (.sipush 9999, 3) := by decide +kernel
theorem dX8_tick_34 : decode cX8_tick 34 = .ok (.if_icmp .le 14, 3) := by decide +kernel
theorem dX8_tick_37 : decode cX8_tick 37 = .ok (.new 83, 3) := by decide +kernel
theorem dX8_tick_40 : decode cX8_tick 40 = .ok (.dup, 1) := by decide +kernel
theorem dX8_tick_41 : decode cX8_tick 41 = .ok (.ldc_w 271, 3) := by decide +kernel
theorem dX8_tick_44 : decode cX8_tick 44 = .ok (.invokespecial 87, 3) := by decide +kernel
theorem dX8_tick_47 : decode cX8_tick 47 = .ok (.athrow, 1) := by decide +kernel
theorem dX8_tick_48 : decode cX8_tick 48 = .ok (.aload_n 0, 1) := by decide +kernel
theorem dX8_tick_49 : decode cX8_tick 49 = .ok (.getfield 22, 3) := by decide +kernel
theorem dX8_tick_52 : decode cX8_tick 52 = .ok (.aload_n 0, 1) := by decide +kernel
theorem dX8_tick_53 : decode cX8_tick 53 = .ok (.getfield 12, 3) := by decide +kernel
theorem dX8_tick_56 : decode cX8_tick 56 = .ok (.invokevirtual 273, 3) := by decide +kernel
theorem dX8_tick_59 : decode cX8_tick 59 = .ok (.aload_n 0, 1) := by decide +kernel
theorem dX8_tick_60 : decode cX8_tick 60 = .ok (.getfield 12, 3) := by decide +kernel
theorem dX8_tick_63 : decode cX8_tick 63 = .ok (.getfield 106, 3) := by decide +kernel
theorem dX8_tick_66 : decode cX8_tick 66 = .ok (.iconst 1, 1) := by decide +kernel
theorem dX8_tick_67 : decode cX8_tick 67 = .ok (.invokevirtual 248, 3) := by decide +kernel
theorem dX8_tick_70 : decode cX8_tick 70 = .ok (.istore_n 2, 1) := by decide +kernel
theorem dX8_tick_71 : decode cX8_tick 71 = .ok (.aload_n 0, 1) := by decide +kernel
theorem dX8_tick_72 : decode cX8_tick 72 = .ok (.getfield 44, 3) := by decide +kernel
theorem dX8_tick_75 : decode cX8_tick 75 = .ok (.aload_n 0, 1) := by decide +kernel
theorem dX8_tick_76 : decode cX8_tick 76 = .ok (.getfield 12, 3) := by decide +kernel
theorem dX8_tick_79 : decode cX8_tick 79 = .ok (.iload_n 1, 1) := by decide +kernel
theorem dX8_tick_80 : decode cX8_tick 80 = .ok (.invokevirtual 257, 3) := by decide +kernel
theorem dX8_tick_83 : decode cX8_tick 83 = .ok (.aload_n 0, 1) := by decide +kernel
theorem dX8_tick_84 : decode cX8_tick 84 = .ok (.getfield 12, 3) := by decide +kernel
theorem dX8_tick_87 : decode cX8_tick 87 = .ok (.getfield 106, 3) := by decide +kernel
theorem dX8_tick_90 : decode cX8_tick 90 = .ok (.iconst 1, 1) := by decide +kernel
theorem dX8_tick_91 : decode cX8_tick 91 = .ok (.invokevirtual 248, 3) := by decide +kernel
theorem dX8_tick_94 : decode cX8_tick 94 = .ok (.iload_n 2, 1) := by decide +kernel
theorem dX8_tick_95 : decode cX8_tick 95 = .ok (.isub, 1) := by decide +kernel
theorem dX8_tick_96 : decode cX8_tick 96 = .ok (.ireturn, 1) := by decide +kernel
theorem tX8_tick {L : Nat} {xs : Nat → Int32} {N : Nat} : z_AllE (zE L xs N 251) 0 (kX8_tick N) :=
  z_ac (j := 1) rfl (z_eI (sp_iload_n (q := 1) dX8_tick_0 rfl rfl)) <|
  z_ac (j := 2) rfl (z_eI (sp_iconst dX8_tick_1 (by decide +kernel) rfl)) <|
  z_ac (j := 3) rfl (z_eI (sp_icmp_lt dX8_tick_2 rfl rfl)) <|
  z_ac (j := 4) rfl (z_eI (sp_iload_n (q := 1) dX8_tick_5 rfl rfl)) <|
  z_ac (j := 5) rfl (z_eI (sp_bipush dX8_tick_6 (by decide +kernel) rfl)) <|
  z_ac (j := 6) rfl (z_eI (sp_icmp_le dX8_tick_8 rfl rfl)) <|
  z_ac (j := 7) rfl (z_tW rfl rfl (by decide +kernel) zTr1 (zmsg269) dX8_tick_11 dX8_tick_14 dX8_tick_15 dX8_tick_18 dX8_tick_21 rfl (by decide +kernel)) <|
  z_ac (j := 8) rfl (z_eI sp_none) <|
  z_ac (j := 9) rfl (z_eI sp_none) <|
  z_ac (j := 10) rfl (z_eI sp_none) <|
  z_ac (j := 11) rfl (z_eI sp_none) <|
  z_ac (j := 12) rfl (z_eI (sp_aload_n (q := 0) dX8_tick_22 rfl rfl)) <|
  z_ac (j := 13) rfl (z_eI (sp_getf (C := RX8) (T := TX8) (Nf := 11) dX8_tick_23 rfl inX8 (by decide) wf_471 rfl)) <|
  z_ac (j := 14) rfl (z_eI (sp_getf (C := RX7) (T := TX7) (Nf := 6) dX8_tick_26 rfl inX7 (by decide) wf_206 rfl)) <|
  z_ac (j := 15) rfl (z_eI (sp_iload_n (q := 1) dX8_tick_29 rfl rfl)) <|
  z_ac (j := 16) rfl (z_eI (sp_iadd dX8_tick_30 rfl)) <|
  z_ac (j := 17) rfl (z_eI (sp_sipush dX8_tick_31 (by decide +kernel) rfl)) <|
  z_ac (j := 18) rfl (z_eI (sp_icmp_le dX8_tick_34 rfl rfl)) <|
  z_ac (j := 19) rfl (z_tW rfl rfl (by decide +kernel) zTr0 (zmsg271) dX8_tick_37 dX8_tick_40 dX8_tick_41 dX8_tick_44 dX8_tick_47 rfl (by decide +kernel)) <|
  z_ac (j := 20) rfl (z_eI sp_none) <|
  z_ac (j := 21) rfl (z_eI sp_none) <|
  z_ac (j := 22) rfl (z_eI sp_none) <|
  z_ac (j := 23) rfl (z_eI sp_none) <|
  z_ac (j := 24) rfl (z_eI (sp_aload_n (q := 0) dX8_tick_48 rfl rfl)) <|
  z_ac (j := 25) rfl (z_eI (sp_getf (C := RX8) (T := TX8) (Nf := 11) dX8_tick_49 rfl inX8 (by decide) wf_473 rfl)) <|
  z_ac (j := 26) rfl (z_eI (sp_aload_n (q := 0) dX8_tick_52 rfl rfl)) <|
  z_ac (j := 27) rfl (z_eI (sp_getf (C := RX8) (T := TX8) (Nf := 11) dX8_tick_53 rfl inX8 (by decide) wf_471 rfl)) <|
  z_ac (j := 28) rfl (z_cV dX8_tick_56 wl_643 qX2_remember (by decide +kernel) ⟨_, _, rfl⟩ (z_sn rfl rfl) rfl) <|
  z_ac (j := 29) rfl (z_eI (sp_aload_n (q := 0) dX8_tick_59 rfl rfl)) <|
  z_ac (j := 30) rfl (z_eI (sp_getf (C := RX8) (T := TX8) (Nf := 11) dX8_tick_60 rfl inX8 (by decide) wf_471 rfl)) <|
  z_ac (j := 31) rfl (z_eI (sp_getf (C := RX7) (T := TX7) (Nf := 6) dX8_tick_63 rfl inX7 (by decide) wf_196 rfl)) <|
  z_ac (j := 32) rfl (z_eI (sp_iconst dX8_tick_66 (by decide +kernel) rfl)) <|
  z_ac (j := 33) rfl (z_cV dX8_tick_67 wl_676 qX6_countIn (by decide +kernel) ⟨_, _, rfl⟩ (z_sn rfl rfl) rfl) <|
  z_ac (j := 34) rfl (z_eI (sp_istore_n (q := 2) dX8_tick_70 rfl (by decide) (fun _ _ => rfl) rfl)) <|
  z_ac (j := 35) rfl (z_eI (sp_aload_n (q := 0) dX8_tick_71 rfl rfl)) <|
  z_ac (j := 36) rfl (z_eI (sp_getf (C := RX8) (T := TX8) (Nf := 11) dX8_tick_72 rfl inX8 (by decide) wf_477 rfl)) <|
  z_ac (j := 37) rfl (z_eI (sp_aload_n (q := 0) dX8_tick_75 rfl rfl)) <|
  z_ac (j := 38) rfl (z_eI (sp_getf (C := RX8) (T := TX8) (Nf := 11) dX8_tick_76 rfl inX8 (by decide) wf_471 rfl)) <|
  z_ac (j := 39) rfl (z_eI (sp_iload_n (q := 1) dX8_tick_79 rfl rfl)) <|
  z_ac (j := 40) rfl (z_cV dX8_tick_80 wl_680 qX4_run (by decide +kernel) ⟨_, _, rfl⟩ (z_sn rfl rfl) rfl) <|
  z_ac (j := 41) rfl (z_eI (sp_aload_n (q := 0) dX8_tick_83 rfl rfl)) <|
  z_ac (j := 42) rfl (z_eI (sp_getf (C := RX8) (T := TX8) (Nf := 11) dX8_tick_84 rfl inX8 (by decide) wf_471 rfl)) <|
  z_ac (j := 43) rfl (z_eI (sp_getf (C := RX7) (T := TX7) (Nf := 6) dX8_tick_87 rfl inX7 (by decide) wf_196 rfl)) <|
  z_ac (j := 44) rfl (z_eI (sp_iconst dX8_tick_90 (by decide +kernel) rfl)) <|
  z_ac (j := 45) rfl (z_cV dX8_tick_91 wl_676 qX6_countIn (by decide +kernel) ⟨_, _, rfl⟩ (z_sn rfl rfl) rfl) <|
  z_ac (j := 46) rfl (z_eI (sp_iload_n (q := 2) dX8_tick_94 rfl rfl)) <|
  z_ac (j := 47) rfl (z_eI (sp_isub dX8_tick_95 rfl)) <|
  z_ac (j := 48) rfl (z_eR (sr_int dX8_tick_96 rfl)) <| z_an
theorem dX8_addLight_0 : decode cX8_addLight 0 = .ok (.aload_n 0, 1) := by decide +kernel
theorem dX8_addLight_1 : decode cX8_addLight 1 = .ok (.iload_n 1, 1) := by decide +kernel
theorem dX8_addLight_2 : decode cX8_addLight 2 = .ok (.iload_n 2, 1) := by decide +kernel
theorem dX8_addLight_3 : decode cX8_addLight 3 = .ok (.invokevirtual 136, 3) := by decide +kernel
theorem dX8_addLight_6 : decode cX8_addLight 6 = .ok (.istore 5, 2) := by decide +kernel
theorem dX8_addLight_8 : decode cX8_addLight 8 = .ok (.iload_n 3, 1) := by decide +kernel
theorem dX8_addLight_9 : decode cX8_addLight 9 = .ok (.ifCond .lt 9, 3) := by decide +kernel
theorem dX8_addLight_12 : decode cX8_addLight 12 = .ok (.iload_n 3, 1) := by decide +kernel
theorem dX8_addLight_13 : decode cX8_addLight 13 = .ok (.bipush 9, 2) := by decide +kernel
theorem dX8_addLight_15 : decode cX8_addLight 15 = .ok (.if_icmp .le 14, 3) := by decide +kernel
theorem dX8_addLight_18 : decode cX8_addLight 18 = .ok (.new 92, 3) := by decide +kernel
theorem dX8_addLight_21 : decode cX8_addLight 21 = .ok (.dup, 1) := by decide +kernel
theorem dX8_addLight_22 : decode cX8_addLight 22 = .ok (.ldc_w 276, 3) := by decide +kernel
theorem dX8_addLight_25 : decode cX8_addLight 25 = .ok (.invokespecial 96, 3) := by decide +kernel
theorem dX8_addLight_28 : decode cX8_addLight 28 = .ok (.athrow, 1) := by decide +kernel
theorem dX8_addLight_29 : decode cX8_addLight 29 = .ok (.aload_n 0, 1) := by decide +kernel
theorem dX8_addLight_30 : decode cX8_addLight 30 = .ok (.getfield 12, 3) := by decide +kernel
theorem dX8_addLight_33 : decode cX8_addLight 33 = .ok (.getfield 180, 3) := by decide +kernel
theorem dX8_addLight_36 : decode cX8_addLight 36 = .ok (.getfield 184, 3) := by decide +kernel
theorem dX8_addLight_39 : decode cX8_addLight 39 = .ok (.bipush 8, 2) := by decide +kernel
theorem dX8_addLight_41 : decode cX8_addLight 41 = .ok (.if_icmp .ge 15, 3) := by decide +kernel
theorem dX8_addLight_44 : decode cX8_addLight 44 = .ok (.aload_n 0, 1) := by decide +kernel
theorem dX8_addLight_45 : decode cX8_addLight 45 = .ok (.getfield 12, 3) := by decide +kernel
theorem dX8_addLight_48 : decode cX8_addLight 48 = .ok (.iload 5, 2) := by decide +kernel
theorem dX8_addLight_50 : decode cX8_addLight 50 = .ok (.invokevirtual 278, 3) := by decide +kernel
theorem dX8_addLight_53 : decode cX8_addLight 53 = .ok (.ifCond .ne 14, 3) := by decide +kernel
theorem dX8_addLight_56 : decode cX8_addLight 56 = .ok (.new 83, 3) := by decide +kernel
theorem dX8_addLight_59 : decode cX8_addLight 59 = .ok (.dup, 1) := by decide +kernel
theorem dX8_addLight_60 : decode cX8_addLight 60 = .ok (.ldc_w 281, 3) := by decide +kernel
theorem dX8_addLight_63 : decode cX8_addLight 63 = .ok (.invokespecial 87, 3) := by decide +kernel
theorem dX8_addLight_66 : decode cX8_addLight 66 = .ok (.athrow, 1) := by decide +kernel
theorem dX8_addLight_67 : decode cX8_addLight 67 = .ok (.aload_n 0, 1) := by decide +kernel
theorem dX8_addLight_68 : decode cX8_addLight 68 = .ok (.getfield 22, 3) := by decide +kernel
theorem dX8_addLight_71 : decode cX8_addLight 71 = .ok (.aload_n 0, 1) := by decide +kernel
theorem dX8_addLight_72 : decode cX8_addLight 72 = .ok (.getfield 12, 3) := by decide +kernel
theorem dX8_addLight_75 : decode cX8_addLight 75 = .ok (.invokevirtual 273, 3) := by decide +kernel
theorem dX8_addLight_78 : decode cX8_addLight 78 = .ok (.aload_n 0, 1) := by decide +kernel
theorem dX8_addLight_79 : decode cX8_addLight 79 = .ok (.getfield 12, 3) := by decide +kernel
theorem dX8_addLight_82 : decode cX8_addLight 82 = .ok (.getfield 180, 3) := by decide +kernel
theorem dX8_addLight_85 : decode cX8_addLight 85 = .ok (.iload 5, 2) := by decide +kernel
theorem dX8_addLight_87 : decode cX8_addLight 87 = .ok (.iload_n 3, 1) := by decide +kernel
theorem dX8_addLight_88 : decode cX8_addLight 88 = .ok (.iload 4, 2) := by decide +kernel
theorem dX8_addLight_90 : decode cX8_addLight 90 = .ok (.invokevirtual 283, 3) := by decide +kernel
theorem dX8_addLight_93 : decode cX8_addLight 93 = .ok (.ireturn, 1) := by decide +kernel
theorem tX8_addLight {L : Nat} {xs : Nat → Int32} {N : Nat} : z_AllE (zE L xs N 252) 0 (kX8_addLight N) :=
  z_ac (j := 1) rfl (z_eI (sp_aload_n (q := 0) dX8_addLight_0 rfl rfl)) <|
  z_ac (j := 2) rfl (z_eI (sp_iload_n (q := 1) dX8_addLight_1 rfl rfl)) <|
  z_ac (j := 3) rfl (z_eI (sp_iload_n (q := 2) dX8_addLight_2 rfl rfl)) <|
  z_ac (j := 4) rfl (z_cV dX8_addLight_3 wl_776 qX8_requireCell (by decide +kernel) ⟨_, _, rfl⟩ (z_sn rfl rfl) rfl) <|
  z_ac (j := 5) rfl (z_eI (sp_istore dX8_addLight_6 (by decide) (fun _ _ => rfl) rfl)) <|
  z_ac (j := 6) rfl (z_eI (sp_iload_n (q := 3) dX8_addLight_8 rfl rfl)) <|
  z_ac (j := 7) rfl (z_eI (sp_if_lt dX8_addLight_9 rfl rfl)) <|
  z_ac (j := 8) rfl (z_eI (sp_iload_n (q := 3) dX8_addLight_12 rfl rfl)) <|
  z_ac (j := 9) rfl (z_eI (sp_bipush dX8_addLight_13 (by decide +kernel) rfl)) <|
  z_ac (j := 10) rfl (z_eI (sp_icmp_le dX8_addLight_15 rfl rfl)) <|
  z_ac (j := 11) rfl (z_tW rfl rfl (by decide +kernel) zTr1 (zmsg276) dX8_addLight_18 dX8_addLight_21 dX8_addLight_22 dX8_addLight_25 dX8_addLight_28 rfl (by decide +kernel)) <|
  z_ac (j := 12) rfl (z_eI sp_none) <|
  z_ac (j := 13) rfl (z_eI sp_none) <|
  z_ac (j := 14) rfl (z_eI sp_none) <|
  z_ac (j := 15) rfl (z_eI sp_none) <|
  z_ac (j := 16) rfl (z_eI (sp_aload_n (q := 0) dX8_addLight_29 rfl rfl)) <|
  z_ac (j := 17) rfl (z_eI (sp_getf (C := RX8) (T := TX8) (Nf := 11) dX8_addLight_30 rfl inX8 (by decide) wf_471 rfl)) <|
  z_ac (j := 18) rfl (z_eI (sp_getf (C := RX7) (T := TX7) (Nf := 6) dX8_addLight_33 rfl inX7 (by decide) wf_193 rfl)) <|
  z_ac (j := 19) rfl (z_eI (sp_getf (C := RX3) (T := TX3) (Nf := 5) dX8_addLight_36 rfl inX3 (by decide) wf_112 rfl)) <|
  z_ac (j := 20) rfl (z_eI (sp_bipush dX8_addLight_39 (by decide +kernel) rfl)) <|
  z_ac (j := 21) rfl (z_eI (sp_icmp_ge dX8_addLight_41 rfl rfl)) <|
  z_ac (j := 22) rfl (z_eI (sp_aload_n (q := 0) dX8_addLight_44 rfl rfl)) <|
  z_ac (j := 23) rfl (z_eI (sp_getf (C := RX8) (T := TX8) (Nf := 11) dX8_addLight_45 rfl inX8 (by decide) wf_471 rfl)) <|
  z_ac (j := 24) rfl (z_eI (sp_iload dX8_addLight_48 rfl)) <|
  z_ac (j := 25) rfl (z_cV dX8_addLight_50 wl_802 qX7_takesLight (by decide +kernel) ⟨_, _, rfl⟩ (z_sn rfl rfl) rfl) <|
  z_ac (j := 26) rfl (z_eI (sp_if_ne dX8_addLight_53 rfl rfl)) <|
  z_ac (j := 27) rfl (z_tW rfl rfl (by decide +kernel) zTr0 (zmsg281) dX8_addLight_56 dX8_addLight_59 dX8_addLight_60 dX8_addLight_63 dX8_addLight_66 rfl (by decide +kernel)) <|
  z_ac (j := 28) rfl (z_eI sp_none) <|
  z_ac (j := 29) rfl (z_eI sp_none) <|
  z_ac (j := 30) rfl (z_eI sp_none) <|
  z_ac (j := 31) rfl (z_eI sp_none) <|
  z_ac (j := 32) rfl (z_eI (sp_aload_n (q := 0) dX8_addLight_67 rfl rfl)) <|
  z_ac (j := 33) rfl (z_eI (sp_getf (C := RX8) (T := TX8) (Nf := 11) dX8_addLight_68 rfl inX8 (by decide) wf_473 rfl)) <|
  z_ac (j := 34) rfl (z_eI (sp_aload_n (q := 0) dX8_addLight_71 rfl rfl)) <|
  z_ac (j := 35) rfl (z_eI (sp_getf (C := RX8) (T := TX8) (Nf := 11) dX8_addLight_72 rfl inX8 (by decide) wf_471 rfl)) <|
  z_ac (j := 36) rfl (z_cV dX8_addLight_75 wl_643 qX2_remember (by decide +kernel) ⟨_, _, rfl⟩ (z_sn rfl rfl) rfl) <|
  z_ac (j := 37) rfl (z_eI (sp_aload_n (q := 0) dX8_addLight_78 rfl rfl)) <|
  z_ac (j := 38) rfl (z_eI (sp_getf (C := RX8) (T := TX8) (Nf := 11) dX8_addLight_79 rfl inX8 (by decide) wf_471 rfl)) <|
  z_ac (j := 39) rfl (z_eI (sp_getf (C := RX7) (T := TX7) (Nf := 6) dX8_addLight_82 rfl inX7 (by decide) wf_193 rfl)) <|
  z_ac (j := 40) rfl (z_eI (sp_iload dX8_addLight_85 rfl)) <|
  z_ac (j := 41) rfl (z_eI (sp_iload_n (q := 3) dX8_addLight_87 rfl rfl)) <|
  z_ac (j := 42) rfl (z_eI (sp_iload dX8_addLight_88 rfl)) <|
  z_ac (j := 43) rfl (z_cV dX8_addLight_90 wl_804 qX3_put (by decide +kernel) ⟨_, _, rfl⟩ (z_sn rfl rfl) rfl) <|
  z_ac (j := 44) rfl (z_eR (sr_int dX8_addLight_93 rfl)) <| z_an
theorem dX8_addTraveller_0 : decode cX8_addTraveller 0 = .ok (.aload_n 0, 1) := by decide +kernel
theorem dX8_addTraveller_1 : decode cX8_addTraveller 1 = .ok (.iload_n 1, 1) := by decide +kernel
theorem dX8_addTraveller_2 : decode cX8_addTraveller 2 = .ok (.iload_n 2, 1) := by decide +kernel
theorem dX8_addTraveller_3 : decode cX8_addTraveller 3 = .ok (.invokevirtual 136, 3) := by decide +kernel
theorem dX8_addTraveller_6 : decode cX8_addTraveller 6 = .ok (.istore_n 3, 1) := by decide +kernel
theorem dX8_addTraveller_7 : decode cX8_addTraveller 7 = .ok (.aload_n 0, 1) := by decide +kernel
theorem dX8_addTraveller_8 : decode cX8_addTraveller 8 = .ok (.getfield 12, 3) := by decide +kernel
theorem dX8_addTraveller_11 : decode cX8_addTraveller 11 = .ok (.getfield 106, 3) := by decide +kernel
theorem dX8_addTraveller_14 : decode cX8_addTraveller 14 = .ok (.getfield 110, 3) := by decide +kernel
theorem dX8_addTraveller_17 : decode cX8_addTraveller 17 = .ok (.bipush 6, 2) := by decide +kernel
theorem dX8_addTraveller_19 : decode cX8_addTraveller 19 = .ok (.if_icmp .ge 17, 3) := by decide +kernel
theorem dX8_addTraveller_22 : decode cX8_addTraveller 22 = .ok (.aload_n 0, 1) := by decide +kernel
theorem dX8_addTraveller_23 : decode cX8_addTraveller 23 = .ok (.getfield 12, 3) := by decide +kernel
theorem dX8_addTraveller_26 : decode cX8_addTraveller 26 = .ok (.getfield 120, 3) := by decide +kernel
theorem dX8_addTraveller_29 : decode cX8_addTraveller 29 = .ok (.iload_n 3, 1) := by decide +kernel
theorem dX8_addTraveller_30 : decode cX8_addTraveller 30 = .ok (.invokevirtual 287, 3) := by decide +kernel
theorem dX8_addTraveller_33 : decode cX8_addTraveller 33 = .ok (.ifCond .ne 14, 3) := by decide +kernel
theorem dX8_addTraveller_36 : decode cX8_addTraveller 36 = .ok (.new 83, 3) := by decide +kernel
theorem dX8_addTraveller_39 : decode cX8_addTraveller 39 = .ok (.dup, 1) := by decide +kernel
theorem dX8_addTraveller_40 : decode cX8_addTraveller 40 = .ok (.ldc_w 290, 3) := by decide +kernel
theorem dX8_addTraveller_43 : decode cX8_addTraveller 43 = .ok (.invokespecial 87, 3) := by decide +kernel
theorem dX8_addTraveller_46 : decode cX8_addTraveller 46 = .ok (.athrow, 1) := by decide +kernel
theorem dX8_addTraveller_47 : decode cX8_addTraveller 47 = .ok (.aload_n 0, 1) := by decide +kernel
theorem dX8_addTraveller_48 : decode cX8_addTraveller 48 = .ok (.getfield 22, 3) := by decide +kernel
theorem dX8_addTraveller_51 : decode cX8_addTraveller 51 = .ok (.aload_n 0, 1) := by decide +kernel
theorem dX8_addTraveller_52 : decode cX8_addTraveller 52 = .ok (.getfield 12, 3) := by decide +kernel
theorem dX8_addTraveller_55 : decode cX8_addTraveller 55 = .ok (.invokevirtual 273, 3) := by decide +kernel
theorem dX8_addTraveller_58 : decode cX8_addTraveller 58 = .ok (.aload_n 0, 1) := by decide +kernel
theorem dX8_addTraveller_59 : decode cX8_addTraveller 59 = .ok (.getfield 12, 3) := by decide +kernel
theorem dX8_addTraveller_62 : decode cX8_addTraveller 62 = .ok (.getfield 106, 3) := by decide +kernel
theorem dX8_addTraveller_65 : decode cX8_addTraveller 65 = .ok (.iload_n 3, 1) := by decide +kernel
theorem dX8_addTraveller_66 : decode cX8_addTraveller 66 = .ok (.invokevirtual 292, 3) := by decide +kernel
theorem dX8_addTraveller_69 : decode cX8_addTraveller 69 = .ok (.ireturn, 1) := by decide +kernel
theorem tX8_addTraveller {L : Nat} {xs : Nat → Int32} {N : Nat} : z_AllE (zE L xs N 253) 0 (kX8_addTraveller N) :=
  z_ac (j := 1) rfl (z_eI (sp_aload_n (q := 0) dX8_addTraveller_0 rfl rfl)) <|
  z_ac (j := 2) rfl (z_eI (sp_iload_n (q := 1) dX8_addTraveller_1 rfl rfl)) <|
  z_ac (j := 3) rfl (z_eI (sp_iload_n (q := 2) dX8_addTraveller_2 rfl rfl)) <|
  z_ac (j := 4) rfl (z_cV dX8_addTraveller_3 wl_776 qX8_requireCell (by decide +kernel) ⟨_, _, rfl⟩ (z_sn rfl rfl) rfl) <|
  z_ac (j := 5) rfl (z_eI (sp_istore_n (q := 3) dX8_addTraveller_6 rfl (by decide) (fun _ _ => rfl) rfl)) <|
  z_ac (j := 6) rfl (z_eI (sp_aload_n (q := 0) dX8_addTraveller_7 rfl rfl)) <|
  z_ac (j := 7) rfl (z_eI (sp_getf (C := RX8) (T := TX8) (Nf := 11) dX8_addTraveller_8 rfl inX8 (by decide) wf_471 rfl)) <|
  z_ac (j := 8) rfl (z_eI (sp_getf (C := RX7) (T := TX7) (Nf := 6) dX8_addTraveller_11 rfl inX7 (by decide) wf_196 rfl)) <|
  z_ac (j := 9) rfl (z_eI (sp_getf (C := RX6) (T := TX6) (Nf := 8) dX8_addTraveller_14 rfl inX6 (by decide) wf_147 rfl)) <|
  z_ac (j := 10) rfl (z_eI (sp_bipush dX8_addTraveller_17 (by decide +kernel) rfl)) <|
  z_ac (j := 11) rfl (z_eI (sp_icmp_ge dX8_addTraveller_19 rfl rfl)) <|
  z_ac (j := 12) rfl (z_eI (sp_aload_n (q := 0) dX8_addTraveller_22 rfl rfl)) <|
  z_ac (j := 13) rfl (z_eI (sp_getf (C := RX8) (T := TX8) (Nf := 11) dX8_addTraveller_23 rfl inX8 (by decide) wf_471 rfl)) <|
  z_ac (j := 14) rfl (z_eI (sp_getf (C := RX7) (T := TX7) (Nf := 6) dX8_addTraveller_26 rfl inX7 (by decide) wf_189 rfl)) <|
  z_ac (j := 15) rfl (z_eI (sp_iload_n (q := 3) dX8_addTraveller_29 rfl rfl)) <|
  z_ac (j := 16) rfl (z_cV dX8_addTraveller_30 wl_809 qX1_takesTraveller (by decide +kernel) ⟨_, _, rfl⟩ (z_sn rfl rfl) rfl) <|
  z_ac (j := 17) rfl (z_eI (sp_if_ne dX8_addTraveller_33 rfl rfl)) <|
  z_ac (j := 18) rfl (z_tW rfl rfl (by decide +kernel) zTr0 (zmsg290) dX8_addTraveller_36 dX8_addTraveller_39 dX8_addTraveller_40 dX8_addTraveller_43 dX8_addTraveller_46 rfl (by decide +kernel)) <|
  z_ac (j := 19) rfl (z_eI sp_none) <|
  z_ac (j := 20) rfl (z_eI sp_none) <|
  z_ac (j := 21) rfl (z_eI sp_none) <|
  z_ac (j := 22) rfl (z_eI sp_none) <|
  z_ac (j := 23) rfl (z_eI (sp_aload_n (q := 0) dX8_addTraveller_47 rfl rfl)) <|
  z_ac (j := 24) rfl (z_eI (sp_getf (C := RX8) (T := TX8) (Nf := 11) dX8_addTraveller_48 rfl inX8 (by decide) wf_473 rfl)) <|
  z_ac (j := 25) rfl (z_eI (sp_aload_n (q := 0) dX8_addTraveller_51 rfl rfl)) <|
  z_ac (j := 26) rfl (z_eI (sp_getf (C := RX8) (T := TX8) (Nf := 11) dX8_addTraveller_52 rfl inX8 (by decide) wf_471 rfl)) <|
  z_ac (j := 27) rfl (z_cV dX8_addTraveller_55 wl_643 qX2_remember (by decide +kernel) ⟨_, _, rfl⟩ (z_sn rfl rfl) rfl) <|
  z_ac (j := 28) rfl (z_eI (sp_aload_n (q := 0) dX8_addTraveller_58 rfl rfl)) <|
  z_ac (j := 29) rfl (z_eI (sp_getf (C := RX8) (T := TX8) (Nf := 11) dX8_addTraveller_59 rfl inX8 (by decide) wf_471 rfl)) <|
  z_ac (j := 30) rfl (z_eI (sp_getf (C := RX7) (T := TX7) (Nf := 6) dX8_addTraveller_62 rfl inX7 (by decide) wf_196 rfl)) <|
  z_ac (j := 31) rfl (z_eI (sp_iload_n (q := 3) dX8_addTraveller_65 rfl rfl)) <|
  z_ac (j := 32) rfl (z_cV dX8_addTraveller_66 wl_811 qX6_put (by decide +kernel) ⟨_, _, rfl⟩ (z_sn rfl rfl) rfl) <|
  z_ac (j := 33) rfl (z_eR (sr_int dX8_addTraveller_69 rfl)) <| z_an
theorem dX8_setSuccessor_0 : decode cX8_setSuccessor 0 = .ok (.aload_n 0, 1) := by decide +kernel
theorem dX8_setSuccessor_1 : decode cX8_setSuccessor 1 = .ok (.iload_n 1, 1) := by decide +kernel
theorem dX8_setSuccessor_2 : decode cX8_setSuccessor 2 = .ok (.invokevirtual 187, 3) := by decide +kernel
theorem dX8_setSuccessor_5 : decode cX8_setSuccessor 5 = .ok (.aload_n 0, 1) := by decide +kernel
theorem dX8_setSuccessor_6 : decode cX8_setSuccessor 6 = .ok (.iload_n 2, 1) := by decide +kernel
theorem dX8_setSuccessor_7 : decode cX8_setSuccessor 7 = .ok (.invokevirtual 187, 3) := by decide +kernel
theorem dX8_setSuccessor_10 : decode cX8_setSuccessor 10 = .ok (.iload_n 1, 1) := by decide +kernel
theorem dX8_setSuccessor_11 : decode cX8_setSuccessor 11 = .ok (.iload_n 2, 1) := by decide +kernel
theorem dX8_setSuccessor_12 : decode cX8_setSuccessor 12 = .ok (.if_icmp .ne 14, 3) := by decide +kernel
theorem dX8_setSuccessor_15 : decode cX8_setSuccessor 15 = .ok (.new 92, 3) := by decide +kernel
theorem dX8_setSuccessor_18 : decode cX8_setSuccessor 18 = .ok (.dup, 1) := by decide +kernel
theorem dX8_setSuccessor_19 : decode cX8_setSuccessor 19 = .ok (.ldc_w 294, 3) := by decide +kernel
theorem dX8_setSuccessor_22 : decode cX8_setSuccessor 22 = .ok (.invokespecial 96, 3) := by decide +kernel
theorem dX8_setSuccessor_25 : decode cX8_setSuccessor 25 = .ok (.athrow, 1) := by decide +kernel
theorem dX8_setSuccessor_26 : decode cX8_setSuccessor 26 = .ok (.aload_n 0, 1) := by decide +kernel
theorem dX8_setSuccessor_27 : decode cX8_setSuccessor 27 = .ok (.getfield 22, 3) := by decide +kernel
theorem dX8_setSuccessor_30 : decode cX8_setSuccessor 30 = .ok (.aload_n 0, 1) := by decide +kernel
theorem dX8_setSuccessor_31 : decode cX8_setSuccessor 31 = .ok (.getfield 12, 3) := by decide +kernel
theorem dX8_setSuccessor_34 : decode cX8_setSuccessor 34 = .ok (.invokevirtual 273, 3) := by decide +kernel
theorem dX8_setSuccessor_37 : decode cX8_setSuccessor 37 = .ok (.aload_n 0, 1) := by decide +kernel
theorem dX8_setSuccessor_38 : decode cX8_setSuccessor 38 = .ok (.getfield 12, 3) := by decide +kernel
theorem dX8_setSuccessor_41 : decode cX8_setSuccessor 41 = .ok (.getfield 180, 3) := by decide +kernel
theorem dX8_setSuccessor_44 : decode cX8_setSuccessor 44 = .ok (.getfield 209, 3) := by decide +kernel
theorem dX8_setSuccessor_47 : decode cX8_setSuccessor 47 = .ok (.iload_n 1, 1) := by decide +kernel
theorem dX8_setSuccessor_48 : decode cX8_setSuccessor 48 = .ok (.iload_n 2, 1) := by decide +kernel
theorem dX8_setSuccessor_49 : decode cX8_setSuccessor 49 = .ok (.iastore, 1) := by decide +kernel
theorem dX8_setSuccessor_50 : decode cX8_setSuccessor 50 = .ok (.aload_n 0, 1) := by decide +kernel
theorem dX8_setSuccessor_51 : decode cX8_setSuccessor 51 = .ok (.getfield 12, 3) := by decide +kernel
theorem dX8_setSuccessor_54 : decode cX8_setSuccessor 54 = .ok (.getfield 180, 3) := by decide +kernel
theorem dX8_setSuccessor_57 : decode cX8_setSuccessor 57 = .ok (.invokevirtual 296, 3) := by decide +kernel
theorem dX8_setSuccessor_60 : decode cX8_setSuccessor 60 = .ok (.ireturn, 1) := by decide +kernel
theorem tX8_setSuccessor {L : Nat} {xs : Nat → Int32} {N : Nat} : z_AllE (zE L xs N 254) 0 (kX8_setSuccessor N) :=
  z_ac (j := 1) rfl (z_eI (sp_aload_n (q := 0) dX8_setSuccessor_0 rfl rfl)) <|
  z_ac (j := 2) rfl (z_eI (sp_iload_n (q := 1) dX8_setSuccessor_1 rfl rfl)) <|
  z_ac (j := 3) rfl (z_cV dX8_setSuccessor_2 wl_816 qX8_requireLight (by decide +kernel) ⟨_, _, rfl⟩ (z_sn rfl rfl) rfl) <|
  z_ac (j := 4) rfl (z_eI (sp_aload_n (q := 0) dX8_setSuccessor_5 rfl rfl)) <|
  z_ac (j := 5) rfl (z_eI (sp_iload_n (q := 2) dX8_setSuccessor_6 rfl rfl)) <|
  z_ac (j := 6) rfl (z_cV dX8_setSuccessor_7 wl_816 qX8_requireLight (by decide +kernel) ⟨_, _, rfl⟩ (z_sn rfl rfl) rfl) <|
  z_ac (j := 7) rfl (z_eI (sp_iload_n (q := 1) dX8_setSuccessor_10 rfl rfl)) <|
  z_ac (j := 8) rfl (z_eI (sp_iload_n (q := 2) dX8_setSuccessor_11 rfl rfl)) <|
  z_ac (j := 9) rfl (z_eI (sp_icmp_ne dX8_setSuccessor_12 rfl rfl)) <|
  z_ac (j := 10) rfl (z_tW rfl rfl (by decide +kernel) zTr1 (zmsg294) dX8_setSuccessor_15 dX8_setSuccessor_18 dX8_setSuccessor_19 dX8_setSuccessor_22 dX8_setSuccessor_25 rfl (by decide +kernel)) <|
  z_ac (j := 11) rfl (z_eI sp_none) <|
  z_ac (j := 12) rfl (z_eI sp_none) <|
  z_ac (j := 13) rfl (z_eI sp_none) <|
  z_ac (j := 14) rfl (z_eI sp_none) <|
  z_ac (j := 15) rfl (z_eI (sp_aload_n (q := 0) dX8_setSuccessor_26 rfl rfl)) <|
  z_ac (j := 16) rfl (z_eI (sp_getf (C := RX8) (T := TX8) (Nf := 11) dX8_setSuccessor_27 rfl inX8 (by decide) wf_473 rfl)) <|
  z_ac (j := 17) rfl (z_eI (sp_aload_n (q := 0) dX8_setSuccessor_30 rfl rfl)) <|
  z_ac (j := 18) rfl (z_eI (sp_getf (C := RX8) (T := TX8) (Nf := 11) dX8_setSuccessor_31 rfl inX8 (by decide) wf_471 rfl)) <|
  z_ac (j := 19) rfl (z_cV dX8_setSuccessor_34 wl_643 qX2_remember (by decide +kernel) ⟨_, _, rfl⟩ (z_sn rfl rfl) rfl) <|
  z_ac (j := 20) rfl (z_eI (sp_aload_n (q := 0) dX8_setSuccessor_37 rfl rfl)) <|
  z_ac (j := 21) rfl (z_eI (sp_getf (C := RX8) (T := TX8) (Nf := 11) dX8_setSuccessor_38 rfl inX8 (by decide) wf_471 rfl)) <|
  z_ac (j := 22) rfl (z_eI (sp_getf (C := RX7) (T := TX7) (Nf := 6) dX8_setSuccessor_41 rfl inX7 (by decide) wf_193 rfl)) <|
  z_ac (j := 23) rfl (z_eI (sp_getf (C := RX3) (T := TX3) (Nf := 5) dX8_setSuccessor_44 rfl inX3 (by decide) wf_126 rfl)) <|
  z_ac (j := 24) rfl (z_eI (sp_iload_n (q := 1) dX8_setSuccessor_47 rfl rfl)) <|
  z_ac (j := 25) rfl (z_eI (sp_iload_n (q := 2) dX8_setSuccessor_48 rfl rfl)) <|
  z_ac (j := 26) rfl (z_eI (sp_iast dX8_setSuccessor_49 rfl)) <|
  z_ac (j := 27) rfl (z_eI (sp_aload_n (q := 0) dX8_setSuccessor_50 rfl rfl)) <|
  z_ac (j := 28) rfl (z_eI (sp_getf (C := RX8) (T := TX8) (Nf := 11) dX8_setSuccessor_51 rfl inX8 (by decide) wf_471 rfl)) <|
  z_ac (j := 29) rfl (z_eI (sp_getf (C := RX7) (T := TX7) (Nf := 6) dX8_setSuccessor_54 rfl inX7 (by decide) wf_193 rfl)) <|
  z_ac (j := 30) rfl (z_cV dX8_setSuccessor_57 wl_823 qX3_countWrong (by decide +kernel) ⟨_, _, rfl⟩ (z_sn rfl rfl) rfl) <|
  z_ac (j := 31) rfl (z_eR (sr_int dX8_setSuccessor_60 rfl)) <| z_an
theorem dX8_clearSuccessor_0 : decode cX8_clearSuccessor 0 = .ok (.aload_n 0, 1) := by decide +kernel
theorem dX8_clearSuccessor_1 : decode cX8_clearSuccessor 1 = .ok (.iload_n 1, 1) := by decide +kernel
theorem dX8_clearSuccessor_2 : decode cX8_clearSuccessor 2 = .ok (.invokevirtual 187, 3) := by decide +kernel
theorem dX8_clearSuccessor_5 : decode cX8_clearSuccessor 5 = .ok (.aload_n 0, 1) := by decide +kernel
theorem dX8_clearSuccessor_6 : decode cX8_clearSuccessor 6 = .ok (.iload_n 1, 1) := by decide +kernel
theorem dX8_clearSuccessor_7 : decode cX8_clearSuccessor 7 = .ok (.invokevirtual 212, 3) := by decide +kernel
theorem dX8_clearSuccessor_10 : decode cX8_clearSuccessor 10 = .ok (.istore_n 2, 1) := by decide +kernel
theorem dX8_clearSuccessor_11 : decode cX8_clearSuccessor 11 = .ok (.aload_n 0, 1) := by decide +kernel
theorem dX8_clearSuccessor_12 : decode cX8_clearSuccessor 12 = .ok (.getfield 22, 3) := by decide +kernel
theorem dX8_clearSuccessor_15 : decode cX8_clearSuccessor 15 = .ok (.aload_n 0, 1) := by decide +kernel
theorem dX8_clearSuccessor_16 : decode cX8_clearSuccessor 16 = .ok (.getfield 12, 3) := by decide +kernel
theorem dX8_clearSuccessor_19 : decode cX8_clearSuccessor 19 = .ok (.invokevirtual 273, 3) := by decide +kernel
theorem dX8_clearSuccessor_22 : decode cX8_clearSuccessor 22 = .ok (.aload_n 0, 1) := by decide +kernel
theorem dX8_clearSuccessor_23 : decode cX8_clearSuccessor 23 = .ok (.getfield 12, 3) := by decide +kernel
theorem dX8_clearSuccessor_26 : decode cX8_clearSuccessor 26 = .ok (.getfield 180, 3) := by decide +kernel
theorem dX8_clearSuccessor_29 : decode cX8_clearSuccessor 29 = .ok (.getfield 209, 3) := by decide +kernel
theorem dX8_clearSuccessor_32 : decode cX8_clearSuccessor 32 = .ok (.iload_n 1, 1) := by decide +kernel
theorem dX8_clearSuccessor_33 : decode cX8_clearSuccessor 33 = .ok (.iconst (-1), 1) := by decide +kernel
theorem dX8_clearSuccessor_34 : decode cX8_clearSuccessor 34 = .ok (.iastore, 1) := by decide +kernel
theorem dX8_clearSuccessor_35 : decode cX8_clearSuccessor 35 = .ok (.iload_n 2, 1) := by decide +kernel
theorem dX8_clearSuccessor_36 : decode cX8_clearSuccessor 36 = .ok (.ireturn, 1) := by decide +kernel
theorem tX8_clearSuccessor {L : Nat} {xs : Nat → Int32} {N : Nat} : z_AllE (zE L xs N 255) 0 (kX8_clearSuccessor N) :=
  z_ac (j := 1) rfl (z_eI (sp_aload_n (q := 0) dX8_clearSuccessor_0 rfl rfl)) <|
  z_ac (j := 2) rfl (z_eI (sp_iload_n (q := 1) dX8_clearSuccessor_1 rfl rfl)) <|
  z_ac (j := 3) rfl (z_cV dX8_clearSuccessor_2 wl_816 qX8_requireLight (by decide +kernel) ⟨_, _, rfl⟩ (z_sn rfl rfl) rfl) <|
  z_ac (j := 4) rfl (z_eI (sp_aload_n (q := 0) dX8_clearSuccessor_5 rfl rfl)) <|
  z_ac (j := 5) rfl (z_eI (sp_iload_n (q := 1) dX8_clearSuccessor_6 rfl rfl)) <|
  z_ac (j := 6) rfl (z_cV dX8_clearSuccessor_7 wl_837 qX8_requireSuccessor (by decide +kernel) ⟨_, _, rfl⟩ (z_sn rfl rfl) rfl) <|
  z_ac (j := 7) rfl (z_eI (sp_istore_n (q := 2) dX8_clearSuccessor_10 rfl (by decide) (fun _ _ => rfl) rfl)) <|
  z_ac (j := 8) rfl (z_eI (sp_aload_n (q := 0) dX8_clearSuccessor_11 rfl rfl)) <|
  z_ac (j := 9) rfl (z_eI (sp_getf (C := RX8) (T := TX8) (Nf := 11) dX8_clearSuccessor_12 rfl inX8 (by decide) wf_473 rfl)) <|
  z_ac (j := 10) rfl (z_eI (sp_aload_n (q := 0) dX8_clearSuccessor_15 rfl rfl)) <|
  z_ac (j := 11) rfl (z_eI (sp_getf (C := RX8) (T := TX8) (Nf := 11) dX8_clearSuccessor_16 rfl inX8 (by decide) wf_471 rfl)) <|
  z_ac (j := 12) rfl (z_cV dX8_clearSuccessor_19 wl_643 qX2_remember (by decide +kernel) ⟨_, _, rfl⟩ (z_sn rfl rfl) rfl) <|
  z_ac (j := 13) rfl (z_eI (sp_aload_n (q := 0) dX8_clearSuccessor_22 rfl rfl)) <|
  z_ac (j := 14) rfl (z_eI (sp_getf (C := RX8) (T := TX8) (Nf := 11) dX8_clearSuccessor_23 rfl inX8 (by decide) wf_471 rfl)) <|
  z_ac (j := 15) rfl (z_eI (sp_getf (C := RX7) (T := TX7) (Nf := 6) dX8_clearSuccessor_26 rfl inX7 (by decide) wf_193 rfl)) <|
  z_ac (j := 16) rfl (z_eI (sp_getf (C := RX3) (T := TX3) (Nf := 5) dX8_clearSuccessor_29 rfl inX3 (by decide) wf_126 rfl)) <|
  z_ac (j := 17) rfl (z_eI (sp_iload_n (q := 1) dX8_clearSuccessor_32 rfl rfl)) <|
  z_ac (j := 18) rfl (z_eI (sp_iconst dX8_clearSuccessor_33 (by decide +kernel) rfl)) <|
  z_ac (j := 19) rfl (z_eI (sp_iast dX8_clearSuccessor_34 rfl)) <|
  z_ac (j := 20) rfl (z_eI (sp_iload_n (q := 2) dX8_clearSuccessor_35 rfl rfl)) <|
  z_ac (j := 21) rfl (z_eR (sr_int dX8_clearSuccessor_36 rfl)) <| z_an
theorem dX8_layPlank_0 : decode cX8_layPlank 0 = .ok (.aload_n 0, 1) := by decide +kernel
theorem dX8_layPlank_1 : decode cX8_layPlank 1 = .ok (.iload_n 1, 1) := by decide +kernel
theorem dX8_layPlank_2 : decode cX8_layPlank 2 = .ok (.iload_n 2, 1) := by decide +kernel
theorem dX8_layPlank_3 : decode cX8_layPlank 3 = .ok (.invokevirtual 136, 3) := by decide +kernel
theorem dX8_layPlank_6 : decode cX8_layPlank 6 = .ok (.istore 4, 2) := by decide +kernel
theorem dX8_layPlank_8 : decode cX8_layPlank 8 = .ok (.iload_n 3, 1) := by decide +kernel
theorem dX8_layPlank_9 : decode cX8_layPlank 9 = .ok (.iconst 1, 1) := by decide +kernel
theorem dX8_layPlank_10 : decode cX8_layPlank 10 = .ok (.if_icmp .lt 9, 3) := by decide +kernel
theorem dX8_layPlank_13 : decode cX8_layPlank 13 = .ok (.iload_n 3, 1) := by decide +kernel
theorem dX8_layPlank_14 : decode cX8_layPlank 14 = .ok (.bipush 9, 2) := by decide +kernel
theorem dX8_layPlank_16 : decode cX8_layPlank 16 = .ok (.if_icmp .le 14, 3) := by decide +kernel
theorem dX8_layPlank_19 : decode cX8_layPlank 19 = .ok (.new 92, 3) := by decide +kernel
theorem dX8_layPlank_22 : decode cX8_layPlank 22 = .ok (.dup, 1) := by decide +kernel
theorem dX8_layPlank_23 : decode cX8_layPlank 23 = .ok (.ldc_w 299, 3) := by decide +kernel
theorem dX8_layPlank_26 : decode cX8_layPlank 26 = .ok (.invokespecial 96, 3) := by decide +kernel
theorem dX8_layPlank_29 : decode cX8_layPlank 29 = .ok (.athrow, 1) := by decide +kernel
theorem dX8_layPlank_30 : decode cX8_layPlank 30 = .ok (.aload_n 0, 1) := by decide +kernel
theorem dX8_layPlank_31 : decode cX8_layPlank 31 = .ok (.getfield 12, 3) := by decide +kernel
theorem dX8_layPlank_34 : decode cX8_layPlank 34 = .ok (.getfield 120, 3) := by decide +kernel
theorem dX8_layPlank_37 : decode cX8_layPlank 37 = .ok (.getfield 132, 3) := by decide +kernel
theorem dX8_layPlank_40 : decode cX8_layPlank 40 = .ok (.iload 4, 2) := by decide +kernel
theorem dX8_layPlank_42 : decode cX8_layPlank 42 = .ok (.iaload, 1) := by decide +kernel
theorem dX8_layPlank_43 : decode cX8_layPlank 43 = .ok (.bipush 10, 2) := by decide +kernel
theorem dX8_layPlank_45 : decode cX8_layPlank 45 = .ok (.if_icmp .eq 21, 3) := by decide +kernel
theorem dX8_layPlank_48 : decode cX8_layPlank 48 = .ok (.aload_n 0, 1) := by decide +kernel
theorem dX8_layPlank_49 : decode cX8_layPlank 49 = .ok (.getfield 12, 3) := by decide +kernel
theorem dX8_layPlank_52 : decode cX8_layPlank 52 = .ok (.getfield 120, 3) := by decide +kernel
theorem dX8_layPlank_55 : decode cX8_layPlank 55 = .ok (.getfield 132, 3) := by decide +kernel
theorem dX8_layPlank_58 : decode cX8_layPlank 58 = .ok (.iload 4, 2) := by decide +kernel
theorem dX8_layPlank_60 : decode cX8_layPlank 60 = .ok (.iaload, 1) := by decide +kernel
theorem dX8_layPlank_61 : decode cX8_layPlank 61 = .ok (.bipush 11, 2) := by decide +kernel
theorem dX8_layPlank_63 : decode cX8_layPlank 63 = .ok (.if_icmp .ne 14, 3) := by decide +kernel
theorem dX8_layPlank_66 : decode cX8_layPlank 66 = .ok (.new 83, 3) := by decide +kernel
theorem dX8_layPlank_69 : decode cX8_layPlank 69 = .ok (.dup, 1) := by decide +kernel
theorem dX8_layPlank_70 : decode cX8_layPlank 70 = .ok (.ldc_w 301, 3) := by decide +kernel
theorem dX8_layPlank_73 : decode cX8_layPlank 73 = .ok (.invokespecial 87, 3) := by decide +kernel
theorem dX8_layPlank_76 : decode cX8_layPlank 76 = .ok (.athrow, 1) := by decide +kernel
theorem dX8_layPlank_77 : decode cX8_layPlank 77 = .ok (.aload_n 0, 1) := by decide +kernel
theorem dX8_layPlank_78 : decode cX8_layPlank 78 = .ok (.getfield 22, 3) := by decide +kernel
theorem dX8_layPlank_81 : decode cX8_layPlank 81 = .ok (.aload_n 0, 1) := by decide +kernel
theorem dX8_layPlank_82 : decode cX8_layPlank 82 = .ok (.getfield 12, 3) := by decide +kernel
theorem dX8_layPlank_85 : decode cX8_layPlank 85 = .ok (.invokevirtual 273, 3) := by decide +kernel
theorem dX8_layPlank_88 : decode cX8_layPlank 88 = .ok (.aload_n 0, 1) := by decide +kernel
theorem dX8_layPlank_89 : decode cX8_layPlank 89 = .ok (.getfield 12, 3) := by decide +kernel
theorem dX8_layPlank_92 : decode cX8_layPlank 92 = .ok (.getfield 120, 3) := by decide +kernel
theorem dX8_layPlank_95 : decode cX8_layPlank 95 = .ok (.getfield 132, 3) := by decide +kernel
theorem dX8_layPlank_98 : decode cX8_layPlank 98 = .ok (.iload 4, 2) := by decide +kernel
theorem dX8_layPlank_100 : decode cX8_layPlank 100 = .ok (.iload_n 3, 1) := by decide +kernel
theorem dX8_layPlank_101 : decode cX8_layPlank 101 = .ok (.iastore, 1) := by decide +kernel
theorem dX8_layPlank_102 : decode cX8_layPlank 102 = .ok (.aload_n 0, 1) := by decide +kernel
theorem dX8_layPlank_103 : decode cX8_layPlank 103 = .ok (.getfield 12, 3) := by decide +kernel
theorem dX8_layPlank_106 : decode cX8_layPlank 106 = .ok (.getfield 120, 3) := by decide +kernel
theorem dX8_layPlank_109 : decode cX8_layPlank 109 = .ok (.invokevirtual 146, 3) := by decide +kernel
theorem dX8_layPlank_112 : decode cX8_layPlank 112 = .ok (.ireturn, 1) := by decide +kernel
theorem tX8_layPlank {L : Nat} {xs : Nat → Int32} {N : Nat} : z_AllE (zE L xs N 256) 0 (kX8_layPlank N) :=
  z_ac (j := 1) rfl (z_eI (sp_aload_n (q := 0) dX8_layPlank_0 rfl rfl)) <|
  z_ac (j := 2) rfl (z_eI (sp_iload_n (q := 1) dX8_layPlank_1 rfl rfl)) <|
  z_ac (j := 3) rfl (z_eI (sp_iload_n (q := 2) dX8_layPlank_2 rfl rfl)) <|
  z_ac (j := 4) rfl (z_cV dX8_layPlank_3 wl_776 qX8_requireCell (by decide +kernel) ⟨_, _, rfl⟩ (z_sn rfl rfl) rfl) <|
  z_ac (j := 5) rfl (z_eI (sp_istore dX8_layPlank_6 (by decide) (fun _ _ => rfl) rfl)) <|
  z_ac (j := 6) rfl (z_eI (sp_iload_n (q := 3) dX8_layPlank_8 rfl rfl)) <|
  z_ac (j := 7) rfl (z_eI (sp_iconst dX8_layPlank_9 (by decide +kernel) rfl)) <|
  z_ac (j := 8) rfl (z_eI (sp_icmp_lt dX8_layPlank_10 rfl rfl)) <|
  z_ac (j := 9) rfl (z_eI (sp_iload_n (q := 3) dX8_layPlank_13 rfl rfl)) <|
  z_ac (j := 10) rfl (z_eI (sp_bipush dX8_layPlank_14 (by decide +kernel) rfl)) <|
  z_ac (j := 11) rfl (z_eI (sp_icmp_le dX8_layPlank_16 rfl rfl)) <|
  z_ac (j := 12) rfl (z_tW rfl rfl (by decide +kernel) zTr1 (zmsg299) dX8_layPlank_19 dX8_layPlank_22 dX8_layPlank_23 dX8_layPlank_26 dX8_layPlank_29 rfl (by decide +kernel)) <|
  z_ac (j := 13) rfl (z_eI sp_none) <|
  z_ac (j := 14) rfl (z_eI sp_none) <|
  z_ac (j := 15) rfl (z_eI sp_none) <|
  z_ac (j := 16) rfl (z_eI sp_none) <|
  z_ac (j := 17) rfl (z_eI (sp_aload_n (q := 0) dX8_layPlank_30 rfl rfl)) <|
  z_ac (j := 18) rfl (z_eI (sp_getf (C := RX8) (T := TX8) (Nf := 11) dX8_layPlank_31 rfl inX8 (by decide) wf_471 rfl)) <|
  z_ac (j := 19) rfl (z_eI (sp_getf (C := RX7) (T := TX7) (Nf := 6) dX8_layPlank_34 rfl inX7 (by decide) wf_189 rfl)) <|
  z_ac (j := 20) rfl (z_eI (sp_getf (C := RX1) (T := TX1) (Nf := 3) dX8_layPlank_37 rfl inX1 (by decide) wf_94 rfl)) <|
  z_ac (j := 21) rfl (z_eI (sp_iload dX8_layPlank_40 rfl)) <|
  z_ac (j := 22) rfl (z_eI (sp_iald dX8_layPlank_42 rfl)) <|
  z_ac (j := 23) rfl (z_eI (sp_bipush dX8_layPlank_43 (by decide +kernel) rfl)) <|
  z_ac (j := 24) rfl (z_eI (sp_icmp_eq dX8_layPlank_45 rfl rfl)) <|
  z_ac (j := 25) rfl (z_eI (sp_aload_n (q := 0) dX8_layPlank_48 rfl rfl)) <|
  z_ac (j := 26) rfl (z_eI (sp_getf (C := RX8) (T := TX8) (Nf := 11) dX8_layPlank_49 rfl inX8 (by decide) wf_471 rfl)) <|
  z_ac (j := 27) rfl (z_eI (sp_getf (C := RX7) (T := TX7) (Nf := 6) dX8_layPlank_52 rfl inX7 (by decide) wf_189 rfl)) <|
  z_ac (j := 28) rfl (z_eI (sp_getf (C := RX1) (T := TX1) (Nf := 3) dX8_layPlank_55 rfl inX1 (by decide) wf_94 rfl)) <|
  z_ac (j := 29) rfl (z_eI (sp_iload dX8_layPlank_58 rfl)) <|
  z_ac (j := 30) rfl (z_eI (sp_iald dX8_layPlank_60 rfl)) <|
  z_ac (j := 31) rfl (z_eI (sp_bipush dX8_layPlank_61 (by decide +kernel) rfl)) <|
  z_ac (j := 32) rfl (z_eI (sp_icmp_ne dX8_layPlank_63 rfl rfl)) <|
  z_ac (j := 33) rfl (z_tW rfl rfl (by decide +kernel) zTr0 (zmsg301) dX8_layPlank_66 dX8_layPlank_69 dX8_layPlank_70 dX8_layPlank_73 dX8_layPlank_76 rfl (by decide +kernel)) <|
  z_ac (j := 34) rfl (z_eI sp_none) <|
  z_ac (j := 35) rfl (z_eI sp_none) <|
  z_ac (j := 36) rfl (z_eI sp_none) <|
  z_ac (j := 37) rfl (z_eI sp_none) <|
  z_ac (j := 38) rfl (z_eI (sp_aload_n (q := 0) dX8_layPlank_77 rfl rfl)) <|
  z_ac (j := 39) rfl (z_eI (sp_getf (C := RX8) (T := TX8) (Nf := 11) dX8_layPlank_78 rfl inX8 (by decide) wf_473 rfl)) <|
  z_ac (j := 40) rfl (z_eI (sp_aload_n (q := 0) dX8_layPlank_81 rfl rfl)) <|
  z_ac (j := 41) rfl (z_eI (sp_getf (C := RX8) (T := TX8) (Nf := 11) dX8_layPlank_82 rfl inX8 (by decide) wf_471 rfl)) <|
  z_ac (j := 42) rfl (z_cV dX8_layPlank_85 wl_643 qX2_remember (by decide +kernel) ⟨_, _, rfl⟩ (z_sn rfl rfl) rfl) <|
  z_ac (j := 43) rfl (z_eI (sp_aload_n (q := 0) dX8_layPlank_88 rfl rfl)) <|
  z_ac (j := 44) rfl (z_eI (sp_getf (C := RX8) (T := TX8) (Nf := 11) dX8_layPlank_89 rfl inX8 (by decide) wf_471 rfl)) <|
  z_ac (j := 45) rfl (z_eI (sp_getf (C := RX7) (T := TX7) (Nf := 6) dX8_layPlank_92 rfl inX7 (by decide) wf_189 rfl)) <|
  z_ac (j := 46) rfl (z_eI (sp_getf (C := RX1) (T := TX1) (Nf := 3) dX8_layPlank_95 rfl inX1 (by decide) wf_94 rfl)) <|
  z_ac (j := 47) rfl (z_eI (sp_iload dX8_layPlank_98 rfl)) <|
  z_ac (j := 48) rfl (z_eI (sp_iload_n (q := 3) dX8_layPlank_100 rfl rfl)) <|
  z_ac (j := 49) rfl (z_eI (sp_iast dX8_layPlank_101 rfl)) <|
  z_ac (j := 50) rfl (z_eI (sp_aload_n (q := 0) dX8_layPlank_102 rfl rfl)) <|
  z_ac (j := 51) rfl (z_eI (sp_getf (C := RX8) (T := TX8) (Nf := 11) dX8_layPlank_103 rfl inX8 (by decide) wf_471 rfl)) <|
  z_ac (j := 52) rfl (z_eI (sp_getf (C := RX7) (T := TX7) (Nf := 6) dX8_layPlank_106 rfl inX7 (by decide) wf_189 rfl)) <|
  z_ac (j := 53) rfl (z_cV dX8_layPlank_109 wl_521 qX1_countPlanks (by decide +kernel) ⟨_, _, rfl⟩ (z_sn rfl rfl) rfl) <|
  z_ac (j := 54) rfl (z_eR (sr_int dX8_layPlank_112 rfl)) <| z_an
theorem dX8_setClearness_0 : decode cX8_setClearness 0 = .ok (.iload_n 1, 1) := by decide +kernel
theorem dX8_setClearness_1 : decode cX8_setClearness 1 = .ok (.ifCond .lt 9, 3) := by decide +kernel
theorem dX8_setClearness_4 : decode cX8_setClearness 4 = .ok (.iload_n 1, 1) := by decide +kernel
theorem dX8_setClearness_5 : decode cX8_setClearness 5 = .ok (.bipush 20, 2) := by decide +kernel
theorem dX8_setClearness_7 : decode cX8_setClearness 7 = .ok (.if_icmp .le 14, 3) := by decide +kernel
theorem dX8_setClearness_10 : decode cX8_setClearness 10 = .ok (.new 92, 3) := by decide +kernel
theorem dX8_setClearness_13 : decode cX8_setClearness 13 = .ok (.dup, 1) := by decide +kernel
theorem dX8_setClearness_14 : decode cX8_setClearness 14 = .ok (.ldc_w 303, 3) := by decide +kernel
theorem dX8_setClearness_17 : decode cX8_setClearness 17 = .ok (.invokespecial 96, 3) := by decide +kernel
theorem dX8_setClearness_20 : decode cX8_setClearness 20 = .ok (.athrow, 1) := by decide +kernel
theorem dX8_setClearness_21 : decode cX8_setClearness 21 = .ok (.aload_n 0, 1) := by decide +kernel
theorem dX8_setClearness_22 : decode cX8_setClearness 22 = .ok (.getfield 22, 3) := by decide +kernel
theorem dX8_setClearness_25 : decode cX8_setClearness 25 = .ok (.aload_n 0, 1) := by decide +kernel
theorem dX8_setClearness_26 : decode cX8_setClearness 26 = .ok (.getfield 12, 3) := by decide +kernel
theorem dX8_setClearness_29 : decode cX8_setClearness 29 = .ok (.invokevirtual 273, 3) := by decide +kernel
theorem dX8_setClearness_32 : decode cX8_setClearness 32 = .ok (.aload_n 0, 1) := by decide +kernel
theorem dX8_setClearness_33 : decode cX8_setClearness 33 = .ok (.getfield 12, 3) := by decide +kernel
theorem dX8_setClearness_36 : decode cX8_setClearness 36 = .ok (.getfield 168, 3) := by decide +kernel
theorem dX8_setClearness_39 : decode cX8_setClearness 39 = .ok (.istore_n 2, 1) := by decide +kernel
theorem dX8_setClearness_40 : decode cX8_setClearness 40 = .ok (.aload_n 0, 1) := by decide +kernel
theorem dX8_setClearness_41 : decode cX8_setClearness 41 = .ok (.getfield 12, 3) := by decide +kernel
theorem dX8_setClearness_44 : decode cX8_setClearness 44 = .ok (.iload_n 1, 1) := by decide +kernel
theorem dX8_setClearness_45 : decode cX8_setClearness 45 = .ok (.putfield 168, 3) := by decide +kernel
theorem dX8_setClearness_48 : decode cX8_setClearness 48 = .ok (.iload_n 2, 1) := by decide +kernel
theorem dX8_setClearness_49 : decode cX8_setClearness 49 = .ok (.ireturn, 1) := by decide +kernel
theorem tX8_setClearness {L : Nat} {xs : Nat → Int32} {N : Nat} : z_AllE (zE L xs N 257) 0 (kX8_setClearness N) :=
  z_ac (j := 1) rfl (z_eI (sp_iload_n (q := 1) dX8_setClearness_0 rfl rfl)) <|
  z_ac (j := 2) rfl (z_eI (sp_if_lt dX8_setClearness_1 rfl rfl)) <|
  z_ac (j := 3) rfl (z_eI (sp_iload_n (q := 1) dX8_setClearness_4 rfl rfl)) <|
  z_ac (j := 4) rfl (z_eI (sp_bipush dX8_setClearness_5 (by decide +kernel) rfl)) <|
  z_ac (j := 5) rfl (z_eI (sp_icmp_le dX8_setClearness_7 rfl rfl)) <|
  z_ac (j := 6) rfl (z_tW rfl rfl (by decide +kernel) zTr1 (zmsg303) dX8_setClearness_10 dX8_setClearness_13 dX8_setClearness_14 dX8_setClearness_17 dX8_setClearness_20 rfl (by decide +kernel)) <|
  z_ac (j := 7) rfl (z_eI sp_none) <|
  z_ac (j := 8) rfl (z_eI sp_none) <|
  z_ac (j := 9) rfl (z_eI sp_none) <|
  z_ac (j := 10) rfl (z_eI sp_none) <|
  z_ac (j := 11) rfl (z_eI (sp_aload_n (q := 0) dX8_setClearness_21 rfl rfl)) <|
  z_ac (j := 12) rfl (z_eI (sp_getf (C := RX8) (T := TX8) (Nf := 11) dX8_setClearness_22 rfl inX8 (by decide) wf_473 rfl)) <|
  z_ac (j := 13) rfl (z_eI (sp_aload_n (q := 0) dX8_setClearness_25 rfl rfl)) <|
  z_ac (j := 14) rfl (z_eI (sp_getf (C := RX8) (T := TX8) (Nf := 11) dX8_setClearness_26 rfl inX8 (by decide) wf_471 rfl)) <|
  z_ac (j := 15) rfl (z_cV dX8_setClearness_29 wl_643 qX2_remember (by decide +kernel) ⟨_, _, rfl⟩ (z_sn rfl rfl) rfl) <|
  z_ac (j := 16) rfl (z_eI (sp_aload_n (q := 0) dX8_setClearness_32 rfl rfl)) <|
  z_ac (j := 17) rfl (z_eI (sp_getf (C := RX8) (T := TX8) (Nf := 11) dX8_setClearness_33 rfl inX8 (by decide) wf_471 rfl)) <|
  z_ac (j := 18) rfl (z_eI (sp_getf (C := RX7) (T := TX7) (Nf := 6) dX8_setClearness_36 rfl inX7 (by decide) wf_203 rfl)) <|
  z_ac (j := 19) rfl (z_eI (sp_istore_n (q := 2) dX8_setClearness_39 rfl (by decide) (fun _ _ => rfl) rfl)) <|
  z_ac (j := 20) rfl (z_eI (sp_aload_n (q := 0) dX8_setClearness_40 rfl rfl)) <|
  z_ac (j := 21) rfl (z_eI (sp_getf (C := RX8) (T := TX8) (Nf := 11) dX8_setClearness_41 rfl inX8 (by decide) wf_471 rfl)) <|
  z_ac (j := 22) rfl (z_eI (sp_iload_n (q := 1) dX8_setClearness_44 rfl rfl)) <|
  z_ac (j := 23) rfl (z_eI (sp_putI (C := RX7) (T := TX7) (Nf := 6) dX8_setClearness_45 rfl inX7 tyX7_ok nmX7 (by decide) wf_203 rfl (by decide +kernel) rfl)) <|
  z_ac (j := 24) rfl (z_eI (sp_iload_n (q := 2) dX8_setClearness_48 rfl rfl)) <|
  z_ac (j := 25) rfl (z_eR (sr_int dX8_setClearness_49 rfl)) <| z_an
theorem dX8_setFog_0 : decode cX8_setFog 0 = .ok (.aload_n 0, 1) := by decide +kernel
theorem dX8_setFog_1 : decode cX8_setFog 1 = .ok (.iload_n 1, 1) := by decide +kernel
theorem dX8_setFog_2 : decode cX8_setFog 2 = .ok (.invokevirtual 171, 3) := by decide +kernel
theorem dX8_setFog_5 : decode cX8_setFog 5 = .ok (.iload_n 2, 1) := by decide +kernel
theorem dX8_setFog_6 : decode cX8_setFog 6 = .ok (.ifCond .lt 9, 3) := by decide +kernel
theorem dX8_setFog_9 : decode cX8_setFog 9 = .ok (.iload_n 2, 1) := by decide +kernel
theorem dX8_setFog_10 : decode cX8_setFog 10 = .ok (.bipush 9, 2) := by decide +kernel
theorem dX8_setFog_12 : decode cX8_setFog 12 = .ok (.if_icmp .le 14, 3) := by decide +kernel
theorem dX8_setFog_15 : decode cX8_setFog 15 = .ok (.new 92, 3) := by decide +kernel
theorem dX8_setFog_18 : decode cX8_setFog 18 = .ok (.dup, 1) := by decide +kernel
theorem dX8_setFog_19 : decode cX8_setFog 19 = .ok (.ldc_w 305, 3) := by decide +kernel
theorem dX8_setFog_22 : decode cX8_setFog 22 = .ok (.invokespecial 96, 3) := by decide +kernel
theorem dX8_setFog_25 : decode cX8_setFog 25 = .ok (.athrow, 1) := by decide +kernel
theorem dX8_setFog_26 : decode cX8_setFog 26 = .ok (.aload_n 0, 1) := by decide +kernel
theorem dX8_setFog_27 : decode cX8_setFog 27 = .ok (.getfield 22, 3) := by decide +kernel
theorem dX8_setFog_30 : decode cX8_setFog 30 = .ok (.aload_n 0, 1) := by decide +kernel
theorem dX8_setFog_31 : decode cX8_setFog 31 = .ok (.getfield 12, 3) := by decide +kernel
theorem dX8_setFog_34 : decode cX8_setFog 34 = .ok (.invokevirtual 273, 3) := by decide +kernel
theorem dX8_setFog_37 : decode cX8_setFog 37 = .ok (.aload_n 0, 1) := by decide +kernel
theorem dX8_setFog_38 : decode cX8_setFog 38 = .ok (.getfield 12, 3) := by decide +kernel
theorem dX8_setFog_41 : decode cX8_setFog 41 = .ok (.getfield 174, 3) := by decide +kernel
theorem dX8_setFog_44 : decode cX8_setFog 44 = .ok (.iload_n 1, 1) := by decide +kernel
theorem dX8_setFog_45 : decode cX8_setFog 45 = .ok (.iaload, 1) := by decide +kernel
theorem dX8_setFog_46 : decode cX8_setFog 46 = .ok (.istore_n 3, 1) := by decide +kernel
theorem dX8_setFog_47 : decode cX8_setFog 47 = .ok (.aload_n 0, 1) := by decide +kernel
theorem dX8_setFog_48 : decode cX8_setFog 48 = .ok (.getfield 12, 3) := by decide +kernel
theorem dX8_setFog_51 : decode cX8_setFog 51 = .ok (.getfield 174, 3) := by decide +kernel
theorem dX8_setFog_54 : decode cX8_setFog 54 = .ok (.iload_n 1, 1) := by decide +kernel
theorem dX8_setFog_55 : decode cX8_setFog 55 = .ok (.iload_n 2, 1) := by decide +kernel
theorem dX8_setFog_56 : decode cX8_setFog 56 = .ok (.iastore, 1) := by decide +kernel
theorem dX8_setFog_57 : decode cX8_setFog 57 = .ok (.iload_n 3, 1) := by decide +kernel
theorem dX8_setFog_58 : decode cX8_setFog 58 = .ok (.ireturn, 1) := by decide +kernel
theorem tX8_setFog {L : Nat} {xs : Nat → Int32} {N : Nat} : z_AllE (zE L xs N 258) 0 (kX8_setFog N) :=
  z_ac (j := 1) rfl (z_eI (sp_aload_n (q := 0) dX8_setFog_0 rfl rfl)) <|
  z_ac (j := 2) rfl (z_eI (sp_iload_n (q := 1) dX8_setFog_1 rfl rfl)) <|
  z_ac (j := 3) rfl (z_cV dX8_setFog_2 wl_872 qX8_requireHour (by decide +kernel) ⟨_, _, rfl⟩ (z_sn rfl rfl) rfl) <|
  z_ac (j := 4) rfl (z_eI (sp_iload_n (q := 2) dX8_setFog_5 rfl rfl)) <|
  z_ac (j := 5) rfl (z_eI (sp_if_lt dX8_setFog_6 rfl rfl)) <|
  z_ac (j := 6) rfl (z_eI (sp_iload_n (q := 2) dX8_setFog_9 rfl rfl)) <|
  z_ac (j := 7) rfl (z_eI (sp_bipush dX8_setFog_10 (by decide +kernel) rfl)) <|
  z_ac (j := 8) rfl (z_eI (sp_icmp_le dX8_setFog_12 rfl rfl)) <|
  z_ac (j := 9) rfl (z_tW rfl rfl (by decide +kernel) zTr1 (zmsg305) dX8_setFog_15 dX8_setFog_18 dX8_setFog_19 dX8_setFog_22 dX8_setFog_25 rfl (by decide +kernel)) <|
  z_ac (j := 10) rfl (z_eI sp_none) <|
  z_ac (j := 11) rfl (z_eI sp_none) <|
  z_ac (j := 12) rfl (z_eI sp_none) <|
  z_ac (j := 13) rfl (z_eI sp_none) <|
  z_ac (j := 14) rfl (z_eI (sp_aload_n (q := 0) dX8_setFog_26 rfl rfl)) <|
  z_ac (j := 15) rfl (z_eI (sp_getf (C := RX8) (T := TX8) (Nf := 11) dX8_setFog_27 rfl inX8 (by decide) wf_473 rfl)) <|
  z_ac (j := 16) rfl (z_eI (sp_aload_n (q := 0) dX8_setFog_30 rfl rfl)) <|
  z_ac (j := 17) rfl (z_eI (sp_getf (C := RX8) (T := TX8) (Nf := 11) dX8_setFog_31 rfl inX8 (by decide) wf_471 rfl)) <|
  z_ac (j := 18) rfl (z_cV dX8_setFog_34 wl_643 qX2_remember (by decide +kernel) ⟨_, _, rfl⟩ (z_sn rfl rfl) rfl) <|
  z_ac (j := 19) rfl (z_eI (sp_aload_n (q := 0) dX8_setFog_37 rfl rfl)) <|
  z_ac (j := 20) rfl (z_eI (sp_getf (C := RX8) (T := TX8) (Nf := 11) dX8_setFog_38 rfl inX8 (by decide) wf_471 rfl)) <|
  z_ac (j := 21) rfl (z_eI (sp_getf (C := RX7) (T := TX7) (Nf := 6) dX8_setFog_41 rfl inX7 (by decide) wf_200 rfl)) <|
  z_ac (j := 22) rfl (z_eI (sp_iload_n (q := 1) dX8_setFog_44 rfl rfl)) <|
  z_ac (j := 23) rfl (z_eI (sp_iald dX8_setFog_45 rfl)) <|
  z_ac (j := 24) rfl (z_eI (sp_istore_n (q := 3) dX8_setFog_46 rfl (by decide) (fun _ _ => rfl) rfl)) <|
  z_ac (j := 25) rfl (z_eI (sp_aload_n (q := 0) dX8_setFog_47 rfl rfl)) <|
  z_ac (j := 26) rfl (z_eI (sp_getf (C := RX8) (T := TX8) (Nf := 11) dX8_setFog_48 rfl inX8 (by decide) wf_471 rfl)) <|
  z_ac (j := 27) rfl (z_eI (sp_getf (C := RX7) (T := TX7) (Nf := 6) dX8_setFog_51 rfl inX7 (by decide) wf_200 rfl)) <|
  z_ac (j := 28) rfl (z_eI (sp_iload_n (q := 1) dX8_setFog_54 rfl rfl)) <|
  z_ac (j := 29) rfl (z_eI (sp_iload_n (q := 2) dX8_setFog_55 rfl rfl)) <|
  z_ac (j := 30) rfl (z_eI (sp_iast dX8_setFog_56 rfl)) <|
  z_ac (j := 31) rfl (z_eI (sp_iload_n (q := 3) dX8_setFog_57 rfl rfl)) <|
  z_ac (j := 32) rfl (z_eR (sr_int dX8_setFog_58 rfl)) <| z_an
theorem dX8_setTarget_0 : decode cX8_setTarget 0 = .ok (.aload_n 0, 1) := by decide +kernel
theorem dX8_setTarget_1 : decode cX8_setTarget 1 = .ok (.iload_n 1, 1) := by decide +kernel
theorem dX8_setTarget_2 : decode cX8_setTarget 2 = .ok (.invokevirtual 221, 3) := by decide +kernel
theorem dX8_setTarget_5 : decode cX8_setTarget 5 = .ok (.aload_n 0, 1) := by decide +kernel
theorem dX8_setTarget_6 : decode cX8_setTarget 6 = .ok (.iload_n 2, 1) := by decide +kernel
theorem dX8_setTarget_7 : decode cX8_setTarget 7 = .ok (.invokevirtual 187, 3) := by decide +kernel
theorem dX8_setTarget_10 : decode cX8_setTarget 10 = .ok (.aload_n 0, 1) := by decide +kernel
theorem dX8_setTarget_11 : decode cX8_setTarget 11 = .ok (.iload_n 1, 1) := by decide +kernel
theorem dX8_setTarget_12 : decode cX8_setTarget 12 = .ok (.invokevirtual 254, 3) := by decide +kernel
theorem dX8_setTarget_15 : decode cX8_setTarget 15 = .ok (.aload_n 0, 1) := by decide +kernel
theorem dX8_setTarget_16 : decode cX8_setTarget 16 = .ok (.getfield 22, 3) := by decide +kernel
theorem dX8_setTarget_19 : decode cX8_setTarget 19 = .ok (.aload_n 0, 1) := by decide +kernel
theorem dX8_setTarget_20 : decode cX8_setTarget 20 = .ok (.getfield 12, 3) := by decide +kernel
theorem dX8_setTarget_23 : decode cX8_setTarget 23 = .ok (.invokevirtual 273, 3) := by decide +kernel
theorem dX8_setTarget_26 : decode cX8_setTarget 26 = .ok (.aload_n 0, 1) := by decide +kernel
theorem dX8_setTarget_27 : decode cX8_setTarget 27 = .ok (.getfield 12, 3) := by decide +kernel
theorem dX8_setTarget_30 : decode cX8_setTarget 30 = .ok (.getfield 106, 3) := by decide +kernel
theorem dX8_setTarget_33 : decode cX8_setTarget 33 = .ok (.getfield 229, 3) := by decide +kernel
theorem dX8_setTarget_36 : decode cX8_setTarget 36 = .ok (.iload_n 1, 1) := by decide +kernel
theorem dX8_setTarget_37 : decode cX8_setTarget 37 = .ok (.iload_n 2, 1) := by decide +kernel
theorem dX8_setTarget_38 : decode cX8_setTarget 38 = .ok (.iastore, 1) := by decide +kernel
theorem dX8_setTarget_39 : decode cX8_setTarget 39 = .ok (.aload_n 0, 1) := by decide +kernel
theorem dX8_setTarget_40 : decode cX8_setTarget 40 = .ok (.getfield 12, 3) := by decide +kernel
theorem dX8_setTarget_43 : decode cX8_setTarget 43 = .ok (.iload_n 1, 1) := by decide +kernel
theorem dX8_setTarget_44 : decode cX8_setTarget 44 = .ok (.iload_n 2, 1) := by decide +kernel
theorem dX8_setTarget_45 : decode cX8_setTarget 45 = .ok (.invokevirtual 240, 3) := by decide +kernel
theorem dX8_setTarget_48 : decode cX8_setTarget 48 = .ok (.ireturn, 1) := by decide +kernel
theorem tX8_setTarget {L : Nat} {xs : Nat → Int32} {N : Nat} : z_AllE (zE L xs N 259) 0 (kX8_setTarget N) :=
  z_ac (j := 1) rfl (z_eI (sp_aload_n (q := 0) dX8_setTarget_0 rfl rfl)) <|
  z_ac (j := 2) rfl (z_eI (sp_iload_n (q := 1) dX8_setTarget_1 rfl rfl)) <|
  z_ac (j := 3) rfl (z_cV dX8_setTarget_2 wl_882 qX8_requireTraveller (by decide +kernel) ⟨_, _, rfl⟩ (z_sn rfl rfl) rfl) <|
  z_ac (j := 4) rfl (z_eI (sp_aload_n (q := 0) dX8_setTarget_5 rfl rfl)) <|
  z_ac (j := 5) rfl (z_eI (sp_iload_n (q := 2) dX8_setTarget_6 rfl rfl)) <|
  z_ac (j := 6) rfl (z_cV dX8_setTarget_7 wl_816 qX8_requireLight (by decide +kernel) ⟨_, _, rfl⟩ (z_sn rfl rfl) rfl) <|
  z_ac (j := 7) rfl (z_eI (sp_aload_n (q := 0) dX8_setTarget_10 rfl rfl)) <|
  z_ac (j := 8) rfl (z_eI (sp_iload_n (q := 1) dX8_setTarget_11 rfl rfl)) <|
  z_ac (j := 9) rfl (z_cV dX8_setTarget_12 wl_887 qX8_requireWalking (by decide +kernel) ⟨_, _, rfl⟩ (z_sn rfl rfl) rfl) <|
  z_ac (j := 10) rfl (z_eI (sp_aload_n (q := 0) dX8_setTarget_15 rfl rfl)) <|
  z_ac (j := 11) rfl (z_eI (sp_getf (C := RX8) (T := TX8) (Nf := 11) dX8_setTarget_16 rfl inX8 (by decide) wf_473 rfl)) <|
  z_ac (j := 12) rfl (z_eI (sp_aload_n (q := 0) dX8_setTarget_19 rfl rfl)) <|
  z_ac (j := 13) rfl (z_eI (sp_getf (C := RX8) (T := TX8) (Nf := 11) dX8_setTarget_20 rfl inX8 (by decide) wf_471 rfl)) <|
  z_ac (j := 14) rfl (z_cV dX8_setTarget_23 wl_643 qX2_remember (by decide +kernel) ⟨_, _, rfl⟩ (z_sn rfl rfl) rfl) <|
  z_ac (j := 15) rfl (z_eI (sp_aload_n (q := 0) dX8_setTarget_26 rfl rfl)) <|
  z_ac (j := 16) rfl (z_eI (sp_getf (C := RX8) (T := TX8) (Nf := 11) dX8_setTarget_27 rfl inX8 (by decide) wf_471 rfl)) <|
  z_ac (j := 17) rfl (z_eI (sp_getf (C := RX7) (T := TX7) (Nf := 6) dX8_setTarget_30 rfl inX7 (by decide) wf_196 rfl)) <|
  z_ac (j := 18) rfl (z_eI (sp_getf (C := RX6) (T := TX6) (Nf := 8) dX8_setTarget_33 rfl inX6 (by decide) wf_160 rfl)) <|
  z_ac (j := 19) rfl (z_eI (sp_iload_n (q := 1) dX8_setTarget_36 rfl rfl)) <|
  z_ac (j := 20) rfl (z_eI (sp_iload_n (q := 2) dX8_setTarget_37 rfl rfl)) <|
  z_ac (j := 21) rfl (z_eI (sp_iast dX8_setTarget_38 rfl)) <|
  z_ac (j := 22) rfl (z_eI (sp_aload_n (q := 0) dX8_setTarget_39 rfl rfl)) <|
  z_ac (j := 23) rfl (z_eI (sp_getf (C := RX8) (T := TX8) (Nf := 11) dX8_setTarget_40 rfl inX8 (by decide) wf_471 rfl)) <|
  z_ac (j := 24) rfl (z_eI (sp_iload_n (q := 1) dX8_setTarget_43 rfl rfl)) <|
  z_ac (j := 25) rfl (z_eI (sp_iload_n (q := 2) dX8_setTarget_44 rfl rfl)) <|
  z_ac (j := 26) rfl (z_cV dX8_setTarget_45 wl_892 qX7_distanceTo (by decide +kernel) ⟨_, _, rfl⟩ (z_sn rfl rfl) rfl) <|
  z_ac (j := 27) rfl (z_eR (sr_int dX8_setTarget_48 rfl)) <| z_an
theorem dX8_undo_0 : decode cX8_undo 0 = .ok (.aload_n 0, 1) := by decide +kernel
theorem dX8_undo_1 : decode cX8_undo 1 = .ok (.getfield 22, 3) := by decide +kernel
theorem dX8_undo_4 : decode cX8_undo 4 = .ok (.getfield 307, 3) := by decide +kernel
theorem dX8_undo_7 : decode cX8_undo 7 = .ok (.ifCond .ne 14, 3) := by decide +kernel
theorem dX8_undo_10 : decode cX8_undo 10 = .ok (.new 83, 3) := by decide +kernel
theorem dX8_undo_13 : decode cX8_undo 13 = .ok (.dup, 1) := by decide +kernel
theorem dX8_undo_14 : decode cX8_undo 14 = .ok (.ldc_w 308, 3) := by decide +kernel
theorem dX8_undo_17 : decode cX8_undo 17 = .ok (.invokespecial 87, 3) := by decide +kernel
theorem dX8_undo_20 : decode cX8_undo 20 = .ok (.athrow, 1) := by decide +kernel
theorem dX8_undo_21 : decode cX8_undo 21 = .ok (.aload_n 0, 1) := by decide +kernel
theorem dX8_undo_22 : decode cX8_undo 22 = .ok (.getfield 22, 3) := by decide +kernel
theorem dX8_undo_25 : decode cX8_undo 25 = .ok (.aload_n 0, 1) := by decide +kernel
theorem dX8_undo_26 : decode cX8_undo 26 = .ok (.getfield 12, 3) := by decide +kernel
theorem dX8_undo_29 : decode cX8_undo 29 = .ok (.invokevirtual 310, 3) := by decide +kernel
theorem dX8_undo_32 : decode cX8_undo 32 = .ok (.aload_n 0, 1) := by decide +kernel
theorem dX8_undo_33 : decode cX8_undo 33 = .ok (.getfield 22, 3) := by decide +kernel
theorem dX8_undo_36 : decode cX8_undo 36 = .ok (.getfield 307, 3) := by decide +kernel
theorem dX8_undo_39 : decode cX8_undo 39 = .ok (.ireturn, 1) := by decide +kernel
theorem tX8_undo {L : Nat} {xs : Nat → Int32} {N : Nat} : z_AllE (zE L xs N 260) 0 (kX8_undo N) :=
  z_ac (j := 1) rfl (z_eI (sp_aload_n (q := 0) dX8_undo_0 rfl rfl)) <|
  z_ac (j := 2) rfl (z_eI (sp_getf (C := RX8) (T := TX8) (Nf := 11) dX8_undo_1 rfl inX8 (by decide) wf_473 rfl)) <|
  z_ac (j := 3) rfl (z_eI (sp_getf (C := RX2) (T := TX2) (Nf := 3) dX8_undo_4 rfl inX2 (by decide) wf_230 rfl)) <|
  z_ac (j := 4) rfl (z_eI (sp_if_ne dX8_undo_7 rfl rfl)) <|
  z_ac (j := 5) rfl (z_tW rfl rfl (by decide +kernel) zTr0 (zmsg308) dX8_undo_10 dX8_undo_13 dX8_undo_14 dX8_undo_17 dX8_undo_20 rfl (by decide +kernel)) <|
  z_ac (j := 6) rfl (z_eI sp_none) <|
  z_ac (j := 7) rfl (z_eI sp_none) <|
  z_ac (j := 8) rfl (z_eI sp_none) <|
  z_ac (j := 9) rfl (z_eI sp_none) <|
  z_ac (j := 10) rfl (z_eI (sp_aload_n (q := 0) dX8_undo_21 rfl rfl)) <|
  z_ac (j := 11) rfl (z_eI (sp_getf (C := RX8) (T := TX8) (Nf := 11) dX8_undo_22 rfl inX8 (by decide) wf_473 rfl)) <|
  z_ac (j := 12) rfl (z_eI (sp_aload_n (q := 0) dX8_undo_25 rfl rfl)) <|
  z_ac (j := 13) rfl (z_eI (sp_getf (C := RX8) (T := TX8) (Nf := 11) dX8_undo_26 rfl inX8 (by decide) wf_471 rfl)) <|
  z_ac (j := 14) rfl (z_cV dX8_undo_29 wl_898 qX2_restoreLatest (by decide +kernel) ⟨_, _, rfl⟩ (z_sn rfl rfl) rfl) <|
  z_ac (j := 15) rfl (z_eI (sp_aload_n (q := 0) dX8_undo_32 rfl rfl)) <|
  z_ac (j := 16) rfl (z_eI (sp_getf (C := RX8) (T := TX8) (Nf := 11) dX8_undo_33 rfl inX8 (by decide) wf_473 rfl)) <|
  z_ac (j := 17) rfl (z_eI (sp_getf (C := RX2) (T := TX2) (Nf := 3) dX8_undo_36 rfl inX2 (by decide) wf_230 rfl)) <|
  z_ac (j := 18) rfl (z_eR (sr_int dX8_undo_39 rfl)) <| z_an
theorem dX8_saveSnapshot_0 : decode cX8_saveSnapshot 0 = .ok (.aload_n 0, 1) := by decide +kernel
theorem dX8_saveSnapshot_1 : decode cX8_saveSnapshot 1 = .ok (.iload_n 1, 1) := by decide +kernel
theorem dX8_saveSnapshot_2 : decode cX8_saveSnapshot 2 = .ok (.invokevirtual 313, 3) := by decide +kernel
theorem dX8_saveSnapshot_5 : decode cX8_saveSnapshot 5 = .ok (.aload_n 0, 1) := by decide +kernel
theorem dX8_saveSnapshot_6 : decode cX8_saveSnapshot 6 = .ok (.getfield 26, 3) := by decide +kernel
theorem dX8_saveSnapshot_9 : decode cX8_saveSnapshot 9 = .ok (.iload_n 1, 1) := by decide +kernel
theorem dX8_saveSnapshot_10 : decode cX8_saveSnapshot 10 = .ok (.aaload, 1) := by decide +kernel
theorem dX8_saveSnapshot_11 : decode cX8_saveSnapshot 11 = .ok (.aload_n 0, 1) := by decide +kernel
theorem dX8_saveSnapshot_12 : decode cX8_saveSnapshot 12 = .ok (.getfield 12, 3) := by decide +kernel
theorem dX8_saveSnapshot_15 : decode cX8_saveSnapshot 15 = .ok (.invokevirtual 99, 3) := by decide +kernel
theorem dX8_saveSnapshot_18 : decode cX8_saveSnapshot 18 = .ok (.aload_n 0, 1) := by decide +kernel
theorem dX8_saveSnapshot_19 : decode cX8_saveSnapshot 19 = .ok (.getfield 30, 3) := by decide +kernel
theorem dX8_saveSnapshot_22 : decode cX8_saveSnapshot 22 = .ok (.iload_n 1, 1) := by decide +kernel
theorem dX8_saveSnapshot_23 : decode cX8_saveSnapshot 23 = .ok (.iconst 1, 1) := by decide +kernel
theorem dX8_saveSnapshot_24 : decode cX8_saveSnapshot 24 = .ok (.bastore, 1) := by decide +kernel
theorem dX8_saveSnapshot_25 : decode cX8_saveSnapshot 25 = .ok (.aload_n 0, 1) := by decide +kernel
theorem dX8_saveSnapshot_26 : decode cX8_saveSnapshot 26 = .ok (.getfield 12, 3) := by decide +kernel
theorem dX8_saveSnapshot_29 : decode cX8_saveSnapshot 29 = .ok (.getfield 165, 3) := by decide +kernel
theorem dX8_saveSnapshot_32 : decode cX8_saveSnapshot 32 = .ok (.ireturn, 1) := by decide +kernel
theorem tX8_saveSnapshot {L : Nat} {xs : Nat → Int32} {N : Nat} : z_AllE (zE L xs N 261) 0 (kX8_saveSnapshot N) :=
  z_ac (j := 1) rfl (z_eI (sp_aload_n (q := 0) dX8_saveSnapshot_0 rfl rfl)) <|
  z_ac (j := 2) rfl (z_eI (sp_iload_n (q := 1) dX8_saveSnapshot_1 rfl rfl)) <|
  z_ac (j := 3) rfl (z_cV dX8_saveSnapshot_2 wl_906 qX8_requireSlot (by decide +kernel) ⟨_, _, rfl⟩ (z_sn rfl rfl) rfl) <|
  z_ac (j := 4) rfl (z_eI (sp_aload_n (q := 0) dX8_saveSnapshot_5 rfl rfl)) <|
  z_ac (j := 5) rfl (z_eI (sp_getf (C := RX8) (T := TX8) (Nf := 11) dX8_saveSnapshot_6 rfl inX8 (by decide) wf_474 rfl)) <|
  z_ac (j := 6) rfl (z_eI (sp_iload_n (q := 1) dX8_saveSnapshot_9 rfl rfl)) <|
  z_ac (j := 7) rfl (z_eI (sp_aald dX8_saveSnapshot_10 rfl)) <|
  z_ac (j := 8) rfl (z_eI (sp_aload_n (q := 0) dX8_saveSnapshot_11 rfl rfl)) <|
  z_ac (j := 9) rfl (z_eI (sp_getf (C := RX8) (T := TX8) (Nf := 11) dX8_saveSnapshot_12 rfl inX8 (by decide) wf_471 rfl)) <|
  z_ac (j := 10) rfl (z_cV dX8_saveSnapshot_15 wl_911 qX7_copyFrom (by decide +kernel) ⟨_, _, rfl⟩ (z_sn rfl rfl) rfl) <|
  z_ac (j := 11) rfl (z_eI (sp_aload_n (q := 0) dX8_saveSnapshot_18 rfl rfl)) <|
  z_ac (j := 12) rfl (z_eI (sp_getf (C := RX8) (T := TX8) (Nf := 11) dX8_saveSnapshot_19 rfl inX8 (by decide) wf_475 rfl)) <|
  z_ac (j := 13) rfl (z_eI (sp_iload_n (q := 1) dX8_saveSnapshot_22 rfl rfl)) <|
  z_ac (j := 14) rfl (z_eI (sp_iconst dX8_saveSnapshot_23 (by decide +kernel) rfl)) <|
  z_ac (j := 15) rfl (z_eI (sp_zast dX8_saveSnapshot_24 rfl)) <|
  z_ac (j := 16) rfl (z_eI (sp_aload_n (q := 0) dX8_saveSnapshot_25 rfl rfl)) <|
  z_ac (j := 17) rfl (z_eI (sp_getf (C := RX8) (T := TX8) (Nf := 11) dX8_saveSnapshot_26 rfl inX8 (by decide) wf_471 rfl)) <|
  z_ac (j := 18) rfl (z_eI (sp_getf (C := RX7) (T := TX7) (Nf := 6) dX8_saveSnapshot_29 rfl inX7 (by decide) wf_206 rfl)) <|
  z_ac (j := 19) rfl (z_eR (sr_int dX8_saveSnapshot_32 rfl)) <| z_an
theorem dX8_restoreSnapshot_0 : decode cX8_restoreSnapshot 0 = .ok (.aload_n 0, 1) := by decide +kernel
theorem dX8_restoreSnapshot_1 : decode cX8_restoreSnapshot 1 = .ok (.iload_n 1, 1) := by decide +kernel
theorem dX8_restoreSnapshot_2 : decode cX8_restoreSnapshot 2 = .ok (.invokevirtual 313, 3) := by decide +kernel
theorem dX8_restoreSnapshot_5 : decode cX8_restoreSnapshot 5 = .ok (.aload_n 0, 1) := by decide +kernel
theorem dX8_restoreSnapshot_6 : decode cX8_restoreSnapshot 6 = .ok (.getfield 30, 3) := by decide +kernel
theorem dX8_restoreSnapshot_9 : decode cX8_restoreSnapshot 9 = .ok (.iload_n 1, 1) := by decide +kernel
theorem dX8_restoreSnapshot_10 : decode cX8_restoreSnapshot 10 = .ok (.baload, 1) := by decide +kernel
theorem dX8_restoreSnapshot_11 : decode cX8_restoreSnapshot 11 = .ok (.ifCond .ne 14, 3) := by decide +kernel
theorem dX8_restoreSnapshot_14 : decode cX8_restoreSnapshot 14 = .ok (.new 115, 3) := by decide +kernel
theorem dX8_restoreSnapshot_17 : decode cX8_restoreSnapshot 17 = .ok (.dup, 1) := by decide +kernel
theorem dX8_restoreSnapshot_18 : decode cX8_restoreSnapshot 18 = .ok (.ldc_w 316, 3) := by decide +kernel
theorem dX8_restoreSnapshot_21 : decode cX8_restoreSnapshot 21 = .ok (.invokespecial 119, 3) := by decide +kernel
theorem dX8_restoreSnapshot_24 : decode cX8_restoreSnapshot 24 = .ok (.athrow, 1) := by decide +kernel
theorem dX8_restoreSnapshot_25 : decode cX8_restoreSnapshot 25 = .ok (.aload_n 0, 1) := by decide +kernel
theorem dX8_restoreSnapshot_26 : decode cX8_restoreSnapshot 26 = .ok (.getfield 22, 3) := by decide +kernel
theorem dX8_restoreSnapshot_29 : decode cX8_restoreSnapshot 29 = .ok (.aload_n 0, 1) := by decide +kernel
theorem dX8_restoreSnapshot_30 : decode cX8_restoreSnapshot 30 = .ok (.getfield 12, 3) := by decide +kernel
theorem dX8_restoreSnapshot_33 : decode cX8_restoreSnapshot 33 = .ok (.invokevirtual 273, 3) := by decide +kernel
theorem dX8_restoreSnapshot_36 : decode cX8_restoreSnapshot 36 = .ok (.aload_n 0, 1) := by decide +kernel
theorem dX8_restoreSnapshot_37 : decode cX8_restoreSnapshot 37 = .ok (.getfield 12, 3) := by decide +kernel
theorem dX8_restoreSnapshot_40 : decode cX8_restoreSnapshot 40 = .ok (.aload_n 0, 1) := by decide +kernel
theorem dX8_restoreSnapshot_41 : decode cX8_restoreSnapshot 41 = .ok (.getfield 26, 3) := by decide +kernel
theorem dX8_restoreSnapshot_44 : decode cX8_restoreSnapshot 44 = .ok (.iload_n 1, 1) := by decide +kernel
theorem dX8_restoreSnapshot_45 : decode cX8_restoreSnapshot 45 = .ok (.aaload, 1) := by decide +kernel
theorem dX8_restoreSnapshot_46 : decode cX8_restoreSnapshot 46 = .ok (.invokevirtual 99, 3) := by decide +kernel
theorem dX8_restoreSnapshot_49 : decode cX8_restoreSnapshot 49 = .ok (.aload_n 0, 1) := by decide +kernel
theorem dX8_restoreSnapshot_50 : decode cX8_restoreSnapshot 50 = .ok (.getfield 12, 3) := by decide +kernel
theorem dX8_restoreSnapshot_53 : decode cX8_restoreSnapshot 53 = .ok (.getfield 165, 3) := by decide +kernel
theorem dX8_restoreSnapshot_56 : decode cX8_restoreSnapshot 56 = .ok (.ireturn, 1) := by decide +kernel
theorem tX8_restoreSnapshot {L : Nat} {xs : Nat → Int32} {N : Nat} : z_AllE (zE L xs N 262) 0 (kX8_restoreSnapshot N) :=
  z_ac (j := 1) rfl (z_eI (sp_aload_n (q := 0) dX8_restoreSnapshot_0 rfl rfl)) <|
  z_ac (j := 2) rfl (z_eI (sp_iload_n (q := 1) dX8_restoreSnapshot_1 rfl rfl)) <|
  z_ac (j := 3) rfl (z_cV dX8_restoreSnapshot_2 wl_906 qX8_requireSlot (by decide +kernel) ⟨_, _, rfl⟩ (z_sn rfl rfl) rfl) <|
  z_ac (j := 4) rfl (z_eI (sp_aload_n (q := 0) dX8_restoreSnapshot_5 rfl rfl)) <|
  z_ac (j := 5) rfl (z_eI (sp_getf (C := RX8) (T := TX8) (Nf := 11) dX8_restoreSnapshot_6 rfl inX8 (by decide) wf_475 rfl)) <|
  z_ac (j := 6) rfl (z_eI (sp_iload_n (q := 1) dX8_restoreSnapshot_9 rfl rfl)) <|
  z_ac (j := 7) rfl (z_eI (sp_zald dX8_restoreSnapshot_10 rfl)) <|
  z_ac (j := 8) rfl (z_eI (sp_if_ne dX8_restoreSnapshot_11 rfl rfl)) <|
  z_ac (j := 9) rfl (z_tWN rfl rfl (by decide +kernel) zTr2 (zmsg316) dX8_restoreSnapshot_14 dX8_restoreSnapshot_17 dX8_restoreSnapshot_18 dX8_restoreSnapshot_21 dX8_restoreSnapshot_24 rfl (by decide +kernel)) <|
  z_ac (j := 10) rfl (z_eI sp_none) <|
  z_ac (j := 11) rfl (z_eI sp_none) <|
  z_ac (j := 12) rfl (z_eI sp_none) <|
  z_ac (j := 13) rfl (z_eI sp_none) <|
  z_ac (j := 14) rfl (z_eI (sp_aload_n (q := 0) dX8_restoreSnapshot_25 rfl rfl)) <|
  z_ac (j := 15) rfl (z_eI (sp_getf (C := RX8) (T := TX8) (Nf := 11) dX8_restoreSnapshot_26 rfl inX8 (by decide) wf_473 rfl)) <|
  z_ac (j := 16) rfl (z_eI (sp_aload_n (q := 0) dX8_restoreSnapshot_29 rfl rfl)) <|
  z_ac (j := 17) rfl (z_eI (sp_getf (C := RX8) (T := TX8) (Nf := 11) dX8_restoreSnapshot_30 rfl inX8 (by decide) wf_471 rfl)) <|
  z_ac (j := 18) rfl (z_cV dX8_restoreSnapshot_33 wl_643 qX2_remember (by decide +kernel) ⟨_, _, rfl⟩ (z_sn rfl rfl) rfl) <|
  z_ac (j := 19) rfl (z_eI (sp_aload_n (q := 0) dX8_restoreSnapshot_36 rfl rfl)) <|
  z_ac (j := 20) rfl (z_eI (sp_getf (C := RX8) (T := TX8) (Nf := 11) dX8_restoreSnapshot_37 rfl inX8 (by decide) wf_471 rfl)) <|
  z_ac (j := 21) rfl (z_eI (sp_aload_n (q := 0) dX8_restoreSnapshot_40 rfl rfl)) <|
  z_ac (j := 22) rfl (z_eI (sp_getf (C := RX8) (T := TX8) (Nf := 11) dX8_restoreSnapshot_41 rfl inX8 (by decide) wf_474 rfl)) <|
  z_ac (j := 23) rfl (z_eI (sp_iload_n (q := 1) dX8_restoreSnapshot_44 rfl rfl)) <|
  z_ac (j := 24) rfl (z_eI (sp_aald dX8_restoreSnapshot_45 rfl)) <|
  z_ac (j := 25) rfl (z_cV dX8_restoreSnapshot_46 wl_911 qX7_copyFrom (by decide +kernel) ⟨_, _, rfl⟩ (z_sn rfl rfl) rfl) <|
  z_ac (j := 26) rfl (z_eI (sp_aload_n (q := 0) dX8_restoreSnapshot_49 rfl rfl)) <|
  z_ac (j := 27) rfl (z_eI (sp_getf (C := RX8) (T := TX8) (Nf := 11) dX8_restoreSnapshot_50 rfl inX8 (by decide) wf_471 rfl)) <|
  z_ac (j := 28) rfl (z_eI (sp_getf (C := RX7) (T := TX7) (Nf := 6) dX8_restoreSnapshot_53 rfl inX7 (by decide) wf_206 rfl)) <|
  z_ac (j := 29) rfl (z_eR (sr_int dX8_restoreSnapshot_56 rfl)) <| z_an
theorem tX8_print {L : Nat} {xs : Nat → Int32} {N : Nat} : z_AllE (zE L xs N 263) 0 (kX8_print N) := z_an
theorem dX8_printedByte_0 : decode cX8_printedByte 0 = .ok (.iload_n 1, 1) := by decide +kernel
theorem dX8_printedByte_1 : decode cX8_printedByte 1 = .ok (.ifCond .lt 11, 3) := by decide +kernel
theorem dX8_printedByte_4 : decode cX8_printedByte 4 = .ok (.iload_n 1, 1) := by decide +kernel
theorem dX8_printedByte_5 : decode cX8_printedByte 5 = .ok (.aload_n 0, 1) := by decide +kernel
theorem dX8_printedByte_6 : decode cX8_printedByte 6 = .ok (.getfield 59, 3) := by decide +kernel
theorem dX8_printedByte_9 : decode cX8_printedByte 9 = .ok (.if_icmp .lt 14, 3) := by decide +kernel
theorem dX8_printedByte_12 : decode cX8_printedByte 12 = .ok (.new 325, 3) := by decide +kernel
theorem dX8_printedByte_15 : decode cX8_printedByte 15 = .ok (.dup, 1) := by decide +kernel
theorem dX8_printedByte_16 : decode cX8_printedByte 16 = .ok (.ldc_w 327, 3) := by decide +kernel
theorem dX8_printedByte_19 : decode cX8_printedByte 19 = .ok (.invokespecial 329, 3) := by decide +kernel
theorem dX8_printedByte_22 : decode cX8_printedByte 22 = .ok (.athrow, 1) := by decide +kernel
theorem dX8_printedByte_23 : decode cX8_printedByte 23 = .ok (.aload_n 0, 1) := by decide +kernel
theorem dX8_printedByte_24 : decode cX8_printedByte 24 = .ok (.getfield 55, 3) := by decide +kernel
theorem dX8_printedByte_27 : decode cX8_printedByte 27 = .ok (.iload_n 1, 1) := by decide +kernel
theorem dX8_printedByte_28 : decode cX8_printedByte 28 = .ok (.baload, 1) := by decide +kernel
theorem dX8_printedByte_29 : decode cX8_printedByte 29 = .ok (.ireturn, 1) := by decide +kernel
theorem tX8_printedByte {L : Nat} {xs : Nat → Int32} {N : Nat} : z_AllE (zE L xs N 264) 0 (kX8_printedByte N) :=
  z_ac (j := 1) rfl (z_eI (sp_iload_n (q := 1) dX8_printedByte_0 rfl rfl)) <|
  z_ac (j := 2) rfl (z_eI (sp_if_lt dX8_printedByte_1 rfl rfl)) <|
  z_ac (j := 3) rfl (z_eI (sp_iload_n (q := 1) dX8_printedByte_4 rfl rfl)) <|
  z_ac (j := 4) rfl (z_eI (sp_aload_n (q := 0) dX8_printedByte_5 rfl rfl)) <|
  z_ac (j := 5) rfl (z_eI (sp_getf (C := RX8) (T := TX8) (Nf := 11) dX8_printedByte_6 rfl inX8 (by decide) wf_480 rfl)) <|
  z_ac (j := 6) rfl (z_eI (sp_icmp_lt dX8_printedByte_9 rfl rfl)) <|
  z_ac (j := 7) rfl (z_tW rfl rfl (by decide +kernel) zTr3 (zmsg327) dX8_printedByte_12 dX8_printedByte_15 dX8_printedByte_16 dX8_printedByte_19 dX8_printedByte_22 rfl (by decide +kernel)) <|
  z_ac (j := 8) rfl (z_eI sp_none) <|
  z_ac (j := 9) rfl (z_eI sp_none) <|
  z_ac (j := 10) rfl (z_eI sp_none) <|
  z_ac (j := 11) rfl (z_eI sp_none) <|
  z_ac (j := 12) rfl (z_eI (sp_aload_n (q := 0) dX8_printedByte_23 rfl rfl)) <|
  z_ac (j := 13) rfl (z_eI (sp_getf (C := RX8) (T := TX8) (Nf := 11) dX8_printedByte_24 rfl inX8 (by decide) wf_479 rfl)) <|
  z_ac (j := 14) rfl (z_eI (sp_iload_n (q := 1) dX8_printedByte_27 rfl rfl)) <|
  z_ac (j := 15) rfl (z_eI (sp_bald dX8_printedByte_28 rfl)) <|
  z_ac (j := 16) rfl (z_eR (sr_int dX8_printedByte_29 rfl)) <| z_an
theorem dX8_requireCell_0 : decode cX8_requireCell 0 = .ok (.aload_n 0, 1) := by decide +kernel
theorem dX8_requireCell_1 : decode cX8_requireCell 1 = .ok (.getfield 12, 3) := by decide +kernel
theorem dX8_requireCell_4 : decode cX8_requireCell 4 = .ok (.getfield 120, 3) := by decide +kernel
theorem dX8_requireCell_7 : decode cX8_requireCell 7 = .ok (.iload_n 1, 1) := by decide +kernel
theorem dX8_requireCell_8 : decode cX8_requireCell 8 = .ok (.iload_n 2, 1) := by decide +kernel
theorem dX8_requireCell_9 : decode cX8_requireCell 9 = .ok (.invokevirtual 330, 3) := by decide +kernel
theorem dX8_requireCell_12 : decode cX8_requireCell 12 = .ok (.ifCond .ne 14, 3) := by decide +kernel
theorem dX8_requireCell_15 : decode cX8_requireCell 15 = .ok (.new 325, 3) := by decide +kernel
theorem dX8_requireCell_18 : decode cX8_requireCell 18 = .ok (.dup, 1) := by decide +kernel
theorem dX8_requireCell_19 : decode cX8_requireCell 19 = .ok (.ldc_w 333, 3) := by decide +kernel
theorem dX8_requireCell_22 : decode cX8_requireCell 22 = .ok (.invokespecial 329, 3) := by decide +kernel
theorem dX8_requireCell_25 : decode cX8_requireCell 25 = .ok (.athrow, 1) := by decide +kernel
theorem dX8_requireCell_26 : decode cX8_requireCell 26 = .ok (.iload_n 1, 1) := by decide +kernel
theorem dX8_requireCell_27 : decode cX8_requireCell 27 = .ok (.iload_n 2, 1) := by decide +kernel
theorem dX8_requireCell_28 : decode cX8_requireCell 28 = .ok (.invokestatic 318, 3) := by decide +kernel
theorem dX8_requireCell_31 : decode cX8_requireCell 31 = .ok (.ireturn, 1) := by decide +kernel
theorem tX8_requireCell {L : Nat} {xs : Nat → Int32} {N : Nat} : z_AllE (zE L xs N 265) 0 (kX8_requireCell N) :=
  z_ac (j := 1) rfl (z_eI (sp_aload_n (q := 0) dX8_requireCell_0 rfl rfl)) <|
  z_ac (j := 2) rfl (z_eI (sp_getf (C := RX8) (T := TX8) (Nf := 11) dX8_requireCell_1 rfl inX8 (by decide) wf_471 rfl)) <|
  z_ac (j := 3) rfl (z_eI (sp_getf (C := RX7) (T := TX7) (Nf := 6) dX8_requireCell_4 rfl inX7 (by decide) wf_189 rfl)) <|
  z_ac (j := 4) rfl (z_eI (sp_iload_n (q := 1) dX8_requireCell_7 rfl rfl)) <|
  z_ac (j := 5) rfl (z_eI (sp_iload_n (q := 2) dX8_requireCell_8 rfl rfl)) <|
  z_ac (j := 6) rfl (z_cV dX8_requireCell_9 wl_780 qX1_contains (by decide +kernel) ⟨_, _, rfl⟩ (z_sn rfl rfl) rfl) <|
  z_ac (j := 7) rfl (z_eI (sp_if_ne dX8_requireCell_12 rfl rfl)) <|
  z_ac (j := 8) rfl (z_tW rfl rfl (by decide +kernel) zTr3 (zmsg333) dX8_requireCell_15 dX8_requireCell_18 dX8_requireCell_19 dX8_requireCell_22 dX8_requireCell_25 rfl (by decide +kernel)) <|
  z_ac (j := 9) rfl (z_eI sp_none) <|
  z_ac (j := 10) rfl (z_eI sp_none) <|
  z_ac (j := 11) rfl (z_eI sp_none) <|
  z_ac (j := 12) rfl (z_eI sp_none) <|
  z_ac (j := 13) rfl (z_eI (sp_iload_n (q := 1) dX8_requireCell_26 rfl rfl)) <|
  z_ac (j := 14) rfl (z_eI (sp_iload_n (q := 2) dX8_requireCell_27 rfl rfl)) <|
  z_ac (j := 15) rfl (z_cS dX8_requireCell_28 wl_800 qX8_cellAt (by decide +kernel) (z_sn rfl rfl) rfl) <|
  z_ac (j := 16) rfl (z_eR (sr_int dX8_requireCell_31 rfl)) <| z_an
theorem dX8_requireHour_0 : decode cX8_requireHour 0 = .ok (.iload_n 1, 1) := by decide +kernel
theorem dX8_requireHour_1 : decode cX8_requireHour 1 = .ok (.ifCond .lt 9, 3) := by decide +kernel
theorem dX8_requireHour_4 : decode cX8_requireHour 4 = .ok (.iload_n 1, 1) := by decide +kernel
theorem dX8_requireHour_5 : decode cX8_requireHour 5 = .ok (.bipush 24, 2) := by decide +kernel
theorem dX8_requireHour_7 : decode cX8_requireHour 7 = .ok (.if_icmp .lt 14, 3) := by decide +kernel
theorem dX8_requireHour_10 : decode cX8_requireHour 10 = .ok (.new 325, 3) := by decide +kernel
theorem dX8_requireHour_13 : decode cX8_requireHour 13 = .ok (.dup, 1) := by decide +kernel
theorem dX8_requireHour_14 : decode cX8_requireHour 14 = .ok (.ldc_w 335, 3) := by decide +kernel
theorem dX8_requireHour_17 : decode cX8_requireHour 17 = .ok (.invokespecial 329, 3) := by decide +kernel
theorem dX8_requireHour_20 : decode cX8_requireHour 20 = .ok (.athrow, 1) := by decide +kernel
theorem dX8_requireHour_21 : decode cX8_requireHour 21 = .ok (.return_, 1) := by decide +kernel
theorem tX8_requireHour {L : Nat} {xs : Nat → Int32} {N : Nat} : z_AllE (zE L xs N 266) 0 (kX8_requireHour N) :=
  z_ac (j := 1) rfl (z_eI (sp_iload_n (q := 1) dX8_requireHour_0 rfl rfl)) <|
  z_ac (j := 2) rfl (z_eI (sp_if_lt dX8_requireHour_1 rfl rfl)) <|
  z_ac (j := 3) rfl (z_eI (sp_iload_n (q := 1) dX8_requireHour_4 rfl rfl)) <|
  z_ac (j := 4) rfl (z_eI (sp_bipush dX8_requireHour_5 (by decide +kernel) rfl)) <|
  z_ac (j := 5) rfl (z_eI (sp_icmp_lt dX8_requireHour_7 rfl rfl)) <|
  z_ac (j := 6) rfl (z_tW rfl rfl (by decide +kernel) zTr3 (zmsg335) dX8_requireHour_10 dX8_requireHour_13 dX8_requireHour_14 dX8_requireHour_17 dX8_requireHour_20 rfl (by decide +kernel)) <|
  z_ac (j := 7) rfl (z_eI sp_none) <|
  z_ac (j := 8) rfl (z_eI sp_none) <|
  z_ac (j := 9) rfl (z_eI sp_none) <|
  z_ac (j := 10) rfl (z_eI sp_none) <|
  z_ac (j := 11) rfl (z_eW (sv_void dX8_requireHour_21 rfl)) <| z_an
theorem dX8_requireLight_0 : decode cX8_requireLight 0 = .ok (.aload_n 0, 1) := by decide +kernel
theorem dX8_requireLight_1 : decode cX8_requireLight 1 = .ok (.getfield 12, 3) := by decide +kernel
theorem dX8_requireLight_4 : decode cX8_requireLight 4 = .ok (.getfield 180, 3) := by decide +kernel
theorem dX8_requireLight_7 : decode cX8_requireLight 7 = .ok (.iload_n 1, 1) := by decide +kernel
theorem dX8_requireLight_8 : decode cX8_requireLight 8 = .ok (.invokevirtual 337, 3) := by decide +kernel
theorem dX8_requireLight_11 : decode cX8_requireLight 11 = .ok (.ifCond .ne 14, 3) := by decide +kernel
theorem dX8_requireLight_14 : decode cX8_requireLight 14 = .ok (.new 325, 3) := by decide +kernel
theorem dX8_requireLight_17 : decode cX8_requireLight 17 = .ok (.dup, 1) := by decide +kernel
theorem dX8_requireLight_18 : decode cX8_requireLight 18 = .ok (.ldc_w 339, 3) := by decide +kernel
theorem dX8_requireLight_21 : decode cX8_requireLight 21 = .ok (.invokespecial 329, 3) := by decide +kernel
theorem dX8_requireLight_24 : decode cX8_requireLight 24 = .ok (.athrow, 1) := by decide +kernel
theorem dX8_requireLight_25 : decode cX8_requireLight 25 = .ok (.return_, 1) := by decide +kernel
theorem tX8_requireLight {L : Nat} {xs : Nat → Int32} {N : Nat} : z_AllE (zE L xs N 267) 0 (kX8_requireLight N) :=
  z_ac (j := 1) rfl (z_eI (sp_aload_n (q := 0) dX8_requireLight_0 rfl rfl)) <|
  z_ac (j := 2) rfl (z_eI (sp_getf (C := RX8) (T := TX8) (Nf := 11) dX8_requireLight_1 rfl inX8 (by decide) wf_471 rfl)) <|
  z_ac (j := 3) rfl (z_eI (sp_getf (C := RX7) (T := TX7) (Nf := 6) dX8_requireLight_4 rfl inX7 (by decide) wf_193 rfl)) <|
  z_ac (j := 4) rfl (z_eI (sp_iload_n (q := 1) dX8_requireLight_7 rfl rfl)) <|
  z_ac (j := 5) rfl (z_cV dX8_requireLight_8 wl_820 qX3_contains (by decide +kernel) ⟨_, _, rfl⟩ (z_sn rfl rfl) rfl) <|
  z_ac (j := 6) rfl (z_eI (sp_if_ne dX8_requireLight_11 rfl rfl)) <|
  z_ac (j := 7) rfl (z_tW rfl rfl (by decide +kernel) zTr3 (zmsg339) dX8_requireLight_14 dX8_requireLight_17 dX8_requireLight_18 dX8_requireLight_21 dX8_requireLight_24 rfl (by decide +kernel)) <|
  z_ac (j := 8) rfl (z_eI sp_none) <|
  z_ac (j := 9) rfl (z_eI sp_none) <|
  z_ac (j := 10) rfl (z_eI sp_none) <|
  z_ac (j := 11) rfl (z_eI sp_none) <|
  z_ac (j := 12) rfl (z_eW (sv_void dX8_requireLight_25 rfl)) <| z_an
theorem dX8_requireTraveller_0 : decode cX8_requireTraveller 0 = .ok (.iload_n 1, 1) := by decide +kernel
theorem dX8_requireTraveller_1 : decode cX8_requireTraveller 1 = .ok (.ifCond .lt 17, 3) := by decide +kernel
theorem dX8_requireTraveller_4 : decode cX8_requireTraveller 4 = .ok (.iload_n 1, 1) := by decide +kernel
theorem dX8_requireTraveller_5 : decode cX8_requireTraveller 5 = .ok (.aload_n 0, 1) := by decide +kernel
theorem dX8_requireTraveller_6 : decode cX8_requireTraveller 6 = .ok (.getfield 12, 3) := by decide +kernel
theorem dX8_requireTraveller_9 : decode cX8_requireTraveller 9 = .ok (.getfield 106, 3) := by decide +kernel
theorem dX8_requireTraveller_12 : decode cX8_requireTraveller 12 = .ok (.getfield 110, 3) := by decide +kernel
theorem dX8_requireTraveller_15 : decode cX8_requireTraveller 15 = .ok (.if_icmp .lt 14, 3) := by decide +kernel
theorem dX8_requireTraveller_18 : decode cX8_requireTraveller 18 = .ok (.new 325, 3) := by decide +kernel
theorem dX8_requireTraveller_21 : decode cX8_requireTraveller 21 = .ok (.dup, 1) := by decide +kernel
theorem dX8_requireTraveller_22 : decode cX8_requireTraveller 22 = .ok (.ldc_w 341, 3) := by decide +kernel
theorem dX8_requireTraveller_25 : decode cX8_requireTraveller 25 = .ok (.invokespecial 329, 3) := by decide +kernel
theorem dX8_requireTraveller_28 : decode cX8_requireTraveller 28 = .ok (.athrow, 1) := by decide +kernel
theorem dX8_requireTraveller_29 : decode cX8_requireTraveller 29 = .ok (.return_, 1) := by decide +kernel
theorem tX8_requireTraveller {L : Nat} {xs : Nat → Int32} {N : Nat} : z_AllE (zE L xs N 268) 0 (kX8_requireTraveller N) :=
  z_ac (j := 1) rfl (z_eI (sp_iload_n (q := 1) dX8_requireTraveller_0 rfl rfl)) <|
  z_ac (j := 2) rfl (z_eI (sp_if_lt dX8_requireTraveller_1 rfl rfl)) <|
  z_ac (j := 3) rfl (z_eI (sp_iload_n (q := 1) dX8_requireTraveller_4 rfl rfl)) <|
  z_ac (j := 4) rfl (z_eI (sp_aload_n (q := 0) dX8_requireTraveller_5 rfl rfl)) <|
  z_ac (j := 5) rfl (z_eI (sp_getf (C := RX8) (T := TX8) (Nf := 11) dX8_requireTraveller_6 rfl inX8 (by decide) wf_471 rfl)) <|
  z_ac (j := 6) rfl (z_eI (sp_getf (C := RX7) (T := TX7) (Nf := 6) dX8_requireTraveller_9 rfl inX7 (by decide) wf_196 rfl)) <|
  z_ac (j := 7) rfl (z_eI (sp_getf (C := RX6) (T := TX6) (Nf := 8) dX8_requireTraveller_12 rfl inX6 (by decide) wf_147 rfl)) <|
  z_ac (j := 8) rfl (z_eI (sp_icmp_lt dX8_requireTraveller_15 rfl rfl)) <|
  z_ac (j := 9) rfl (z_tW rfl rfl (by decide +kernel) zTr3 (zmsg341) dX8_requireTraveller_18 dX8_requireTraveller_21 dX8_requireTraveller_22 dX8_requireTraveller_25 dX8_requireTraveller_28 rfl (by decide +kernel)) <|
  z_ac (j := 10) rfl (z_eI sp_none) <|
  z_ac (j := 11) rfl (z_eI sp_none) <|
  z_ac (j := 12) rfl (z_eI sp_none) <|
  z_ac (j := 13) rfl (z_eI sp_none) <|
  z_ac (j := 14) rfl (z_eW (sv_void dX8_requireTraveller_29 rfl)) <| z_an
theorem dX8_requireSlot_0 : decode cX8_requireSlot 0 = .ok (.iload_n 1, 1) := by decide +kernel
theorem dX8_requireSlot_1 : decode cX8_requireSlot 1 = .ok (.ifCond .lt 8, 3) := by decide +kernel
theorem dX8_requireSlot_4 : decode cX8_requireSlot 4 = .ok (.iload_n 1, 1) := by decide +kernel
theorem dX8_requireSlot_5 : decode cX8_requireSlot 5 = .ok (.iconst 2, 1) := by decide +kernel
theorem dX8_requireSlot_6 : decode cX8_requireSlot 6 = .ok (.if_icmp .lt 14, 3) := by decide +kernel
theorem dX8_requireSlot_9 : decode cX8_requireSlot 9 = .ok (.new 325, 3) := by decide +kernel
theorem dX8_requireSlot_12 : decode cX8_requireSlot 12 = .ok (.dup, 1) := by decide +kernel
theorem dX8_requireSlot_13 : decode cX8_requireSlot 13 = .ok (.ldc_w 343, 3) := by decide +kernel
theorem dX8_requireSlot_16 : decode cX8_requireSlot 16 = .ok (.invokespecial 329, 3) := by decide +kernel
theorem dX8_requireSlot_19 : decode cX8_requireSlot 19 = .ok (.athrow, 1) := by decide +kernel
theorem dX8_requireSlot_20 : decode cX8_requireSlot 20 = .ok (.return_, 1) := by decide +kernel
theorem tX8_requireSlot {L : Nat} {xs : Nat → Int32} {N : Nat} : z_AllE (zE L xs N 269) 0 (kX8_requireSlot N) :=
  z_ac (j := 1) rfl (z_eI (sp_iload_n (q := 1) dX8_requireSlot_0 rfl rfl)) <|
  z_ac (j := 2) rfl (z_eI (sp_if_lt dX8_requireSlot_1 rfl rfl)) <|
  z_ac (j := 3) rfl (z_eI (sp_iload_n (q := 1) dX8_requireSlot_4 rfl rfl)) <|
  z_ac (j := 4) rfl (z_eI (sp_iconst dX8_requireSlot_5 (by decide +kernel) rfl)) <|
  z_ac (j := 5) rfl (z_eI (sp_icmp_lt dX8_requireSlot_6 rfl rfl)) <|
  z_ac (j := 6) rfl (z_tW rfl rfl (by decide +kernel) zTr3 (zmsg343) dX8_requireSlot_9 dX8_requireSlot_12 dX8_requireSlot_13 dX8_requireSlot_16 dX8_requireSlot_19 rfl (by decide +kernel)) <|
  z_ac (j := 7) rfl (z_eI sp_none) <|
  z_ac (j := 8) rfl (z_eI sp_none) <|
  z_ac (j := 9) rfl (z_eI sp_none) <|
  z_ac (j := 10) rfl (z_eI sp_none) <|
  z_ac (j := 11) rfl (z_eW (sv_void dX8_requireSlot_20 rfl)) <| z_an
theorem dX8_requireWalking_0 : decode cX8_requireWalking 0 = .ok (.aload_n 0, 1) := by decide +kernel
theorem dX8_requireWalking_1 : decode cX8_requireWalking 1 = .ok (.getfield 12, 3) := by decide +kernel
theorem dX8_requireWalking_4 : decode cX8_requireWalking 4 = .ok (.getfield 106, 3) := by decide +kernel
theorem dX8_requireWalking_7 : decode cX8_requireWalking 7 = .ok (.getfield 225, 3) := by decide +kernel
theorem dX8_requireWalking_10 : decode cX8_requireWalking 10 = .ok (.iload_n 1, 1) := by decide +kernel
theorem dX8_requireWalking_11 : decode cX8_requireWalking 11 = .ok (.iaload, 1) := by decide +kernel
theorem dX8_requireWalking_12 : decode cX8_requireWalking 12 = .ok (.ifCond .eq 14, 3) := by decide +kernel
theorem dX8_requireWalking_15 : decode cX8_requireWalking 15 = .ok (.new 83, 3) := by decide +kernel
theorem dX8_requireWalking_18 : decode cX8_requireWalking 18 = .ok (.dup, 1) := by decide +kernel
theorem dX8_requireWalking_19 : decode cX8_requireWalking 19 = .ok (.ldc_w 345, 3) := by decide +kernel
theorem dX8_requireWalking_22 : decode cX8_requireWalking 22 = .ok (.invokespecial 87, 3) := by decide +kernel
theorem dX8_requireWalking_25 : decode cX8_requireWalking 25 = .ok (.athrow, 1) := by decide +kernel
theorem dX8_requireWalking_26 : decode cX8_requireWalking 26 = .ok (.return_, 1) := by decide +kernel
theorem tX8_requireWalking {L : Nat} {xs : Nat → Int32} {N : Nat} : z_AllE (zE L xs N 270) 0 (kX8_requireWalking N) :=
  z_ac (j := 1) rfl (z_eI (sp_aload_n (q := 0) dX8_requireWalking_0 rfl rfl)) <|
  z_ac (j := 2) rfl (z_eI (sp_getf (C := RX8) (T := TX8) (Nf := 11) dX8_requireWalking_1 rfl inX8 (by decide) wf_471 rfl)) <|
  z_ac (j := 3) rfl (z_eI (sp_getf (C := RX7) (T := TX7) (Nf := 6) dX8_requireWalking_4 rfl inX7 (by decide) wf_196 rfl)) <|
  z_ac (j := 4) rfl (z_eI (sp_getf (C := RX6) (T := TX6) (Nf := 8) dX8_requireWalking_7 rfl inX6 (by decide) wf_154 rfl)) <|
  z_ac (j := 5) rfl (z_eI (sp_iload_n (q := 1) dX8_requireWalking_10 rfl rfl)) <|
  z_ac (j := 6) rfl (z_eI (sp_iald dX8_requireWalking_11 rfl)) <|
  z_ac (j := 7) rfl (z_eI (sp_if_eq dX8_requireWalking_12 rfl rfl)) <|
  z_ac (j := 8) rfl (z_tW rfl rfl (by decide +kernel) zTr0 (zmsg345) dX8_requireWalking_15 dX8_requireWalking_18 dX8_requireWalking_19 dX8_requireWalking_22 dX8_requireWalking_25 rfl (by decide +kernel)) <|
  z_ac (j := 9) rfl (z_eI sp_none) <|
  z_ac (j := 10) rfl (z_eI sp_none) <|
  z_ac (j := 11) rfl (z_eI sp_none) <|
  z_ac (j := 12) rfl (z_eI sp_none) <|
  z_ac (j := 13) rfl (z_eW (sv_void dX8_requireWalking_26 rfl)) <| z_an
theorem dX8_requireSuccessor_0 : decode cX8_requireSuccessor 0 = .ok (.aload_n 0, 1) := by decide +kernel
theorem dX8_requireSuccessor_1 : decode cX8_requireSuccessor 1 = .ok (.getfield 12, 3) := by decide +kernel
theorem dX8_requireSuccessor_4 : decode cX8_requireSuccessor 4 = .ok (.getfield 180, 3) := by decide +kernel
theorem dX8_requireSuccessor_7 : decode cX8_requireSuccessor 7 = .ok (.getfield 209, 3) := by decide +kernel
theorem dX8_requireSuccessor_10 : decode cX8_requireSuccessor 10 = .ok (.iload_n 1, 1) := by decide +kernel
theorem dX8_requireSuccessor_11 : decode cX8_requireSuccessor 11 = .ok (.iaload, 1) := by decide +kernel
theorem dX8_requireSuccessor_12 : decode cX8_requireSuccessor 12 = .ok (.istore_n 2, 1) := by decide +kernel
theorem dX8_requireSuccessor_13 : decode cX8_requireSuccessor 13 = .ok (.iload_n 2, 1) := by decide +kernel
theorem dX8_requireSuccessor_14 : decode cX8_requireSuccessor 14 = .ok (.iconst (-1), 1) := by decide +kernel
theorem dX8_requireSuccessor_15 : decode cX8_requireSuccessor 15 = .ok (.if_icmp .ne 14, 3) := by decide +kernel
theorem dX8_requireSuccessor_18 : decode cX8_requireSuccessor 18 = .ok (.new 115, 3) := by decide +kernel
theorem dX8_requireSuccessor_21 : decode cX8_requireSuccessor 21 = .ok (.dup, 1) := by decide +kernel
theorem dX8_requireSuccessor_22 : decode cX8_requireSuccessor 22 = .ok (.ldc_w 347, 3) := by decide +kernel
theorem dX8_requireSuccessor_25 : decode cX8_requireSuccessor 25 = .ok (.invokespecial 119, 3) := by decide +kernel
theorem dX8_requireSuccessor_28 : decode cX8_requireSuccessor 28 = .ok (.athrow, 1) := by decide +kernel
theorem dX8_requireSuccessor_29 : decode cX8_requireSuccessor 29 = .ok (.iload_n 2, 1) := by decide +kernel
theorem dX8_requireSuccessor_30 : decode cX8_requireSuccessor 30 = .ok (.ireturn, 1) := by decide +kernel
theorem tX8_requireSuccessor {L : Nat} {xs : Nat → Int32} {N : Nat} : z_AllE (zE L xs N 271) 0 (kX8_requireSuccessor N) :=
  z_ac (j := 1) rfl (z_eI (sp_aload_n (q := 0) dX8_requireSuccessor_0 rfl rfl)) <|
  z_ac (j := 2) rfl (z_eI (sp_getf (C := RX8) (T := TX8) (Nf := 11) dX8_requireSuccessor_1 rfl inX8 (by decide) wf_471 rfl)) <|
  z_ac (j := 3) rfl (z_eI (sp_getf (C := RX7) (T := TX7) (Nf := 6) dX8_requireSuccessor_4 rfl inX7 (by decide) wf_193 rfl)) <|
  z_ac (j := 4) rfl (z_eI (sp_getf (C := RX3) (T := TX3) (Nf := 5) dX8_requireSuccessor_7 rfl inX3 (by decide) wf_126 rfl)) <|
  z_ac (j := 5) rfl (z_eI (sp_iload_n (q := 1) dX8_requireSuccessor_10 rfl rfl)) <|
  z_ac (j := 6) rfl (z_eI (sp_iald dX8_requireSuccessor_11 rfl)) <|
  z_ac (j := 7) rfl (z_eI (sp_istore_n (q := 2) dX8_requireSuccessor_12 rfl (by decide) (fun _ _ => rfl) rfl)) <|
  z_ac (j := 8) rfl (z_eI (sp_iload_n (q := 2) dX8_requireSuccessor_13 rfl rfl)) <|
  z_ac (j := 9) rfl (z_eI (sp_iconst dX8_requireSuccessor_14 (by decide +kernel) rfl)) <|
  z_ac (j := 10) rfl (z_eI (sp_icmp_ne dX8_requireSuccessor_15 rfl rfl)) <|
  z_ac (j := 11) rfl (z_tWN rfl rfl (by decide +kernel) zTr2 (zmsg347) dX8_requireSuccessor_18 dX8_requireSuccessor_21 dX8_requireSuccessor_22 dX8_requireSuccessor_25 dX8_requireSuccessor_28 rfl (by decide +kernel)) <|
  z_ac (j := 12) rfl (z_eI sp_none) <|
  z_ac (j := 13) rfl (z_eI sp_none) <|
  z_ac (j := 14) rfl (z_eI sp_none) <|
  z_ac (j := 15) rfl (z_eI sp_none) <|
  z_ac (j := 16) rfl (z_eI (sp_iload_n (q := 2) dX8_requireSuccessor_29 rfl rfl)) <|
  z_ac (j := 17) rfl (z_eR (sr_int dX8_requireSuccessor_30 rfl)) <| z_an
theorem dX8_requirePath_0 : decode cX8_requirePath 0 = .ok (.iload_n 0, 1) := by decide +kernel
theorem dX8_requirePath_1 : decode cX8_requirePath 1 = .ok (.iconst (-1), 1) := by decide +kernel
theorem dX8_requirePath_2 : decode cX8_requirePath 2 = .ok (.if_icmp .ne 14, 3) := by decide +kernel
theorem dX8_requirePath_5 : decode cX8_requirePath 5 = .ok (.new 115, 3) := by decide +kernel
theorem dX8_requirePath_8 : decode cX8_requirePath 8 = .ok (.dup, 1) := by decide +kernel
theorem dX8_requirePath_9 : decode cX8_requirePath 9 = .ok (.ldc_w 349, 3) := by decide +kernel
theorem dX8_requirePath_12 : decode cX8_requirePath 12 = .ok (.invokespecial 119, 3) := by decide +kernel
theorem dX8_requirePath_15 : decode cX8_requirePath 15 = .ok (.athrow, 1) := by decide +kernel
theorem dX8_requirePath_16 : decode cX8_requirePath 16 = .ok (.iload_n 0, 1) := by decide +kernel
theorem dX8_requirePath_17 : decode cX8_requirePath 17 = .ok (.ireturn, 1) := by decide +kernel
theorem tX8_requirePath {L : Nat} {xs : Nat → Int32} {N : Nat} : z_AllE (zE L xs N 272) 0 (kX8_requirePath N) :=
  z_ac (j := 1) rfl (z_eI (sp_iload_n (q := 0) dX8_requirePath_0 rfl rfl)) <|
  z_ac (j := 2) rfl (z_eI (sp_iconst dX8_requirePath_1 (by decide +kernel) rfl)) <|
  z_ac (j := 3) rfl (z_eI (sp_icmp_ne dX8_requirePath_2 rfl rfl)) <|
  z_ac (j := 4) rfl (z_tWN rfl rfl (by decide +kernel) zTr2 (zmsg349) dX8_requirePath_5 dX8_requirePath_8 dX8_requirePath_9 dX8_requirePath_12 dX8_requirePath_15 rfl (by decide +kernel)) <|
  z_ac (j := 5) rfl (z_eI sp_none) <|
  z_ac (j := 6) rfl (z_eI sp_none) <|
  z_ac (j := 7) rfl (z_eI sp_none) <|
  z_ac (j := 8) rfl (z_eI sp_none) <|
  z_ac (j := 9) rfl (z_eI (sp_iload_n (q := 0) dX8_requirePath_16 rfl rfl)) <|
  z_ac (j := 10) rfl (z_eR (sr_int dX8_requirePath_17 rfl)) <| z_an
theorem dX8_requireFuture_0 : decode cX8_requireFuture 0 = .ok (.iload_n 0, 1) := by decide +kernel
theorem dX8_requireFuture_1 : decode cX8_requireFuture 1 = .ok (.ifCond .lt 10, 3) := by decide +kernel
theorem dX8_requireFuture_4 : decode cX8_requireFuture 4 = .ok (.iload_n 0, 1) := by decide +kernel
theorem dX8_requireFuture_5 : decode cX8_requireFuture 5 = .ok (.sipush 300, 3) := by decide +kernel
theorem dX8_requireFuture_8 : decode cX8_requireFuture 8 = .ok (.if_icmp .le 14, 3) := by decide +kernel
theorem dX8_requireFuture_11 : decode cX8_requireFuture 11 = .ok (.new 92, 3) := by decide +kernel
theorem dX8_requireFuture_14 : decode cX8_requireFuture 14 = .ok (.dup, 1) := by decide +kernel
theorem dX8_requireFuture_15 : decode cX8_requireFuture 15 = .ok (.ldc_w 351, 3) := by decide +kernel
theorem dX8_requireFuture_18 : decode cX8_requireFuture 18 = .ok (.invokespecial 96, 3) := by decide +kernel
theorem dX8_requireFuture_21 : decode cX8_requireFuture 21 = .ok (.athrow, 1) := by decide +kernel
theorem dX8_requireFuture_22 : decode cX8_requireFuture 22 = .ok (.return_, 1) := by decide +kernel
theorem tX8_requireFuture {L : Nat} {xs : Nat → Int32} {N : Nat} : z_AllE (zE L xs N 273) 0 (kX8_requireFuture N) :=
  z_ac (j := 1) rfl (z_eI (sp_iload_n (q := 0) dX8_requireFuture_0 rfl rfl)) <|
  z_ac (j := 2) rfl (z_eI (sp_if_lt dX8_requireFuture_1 rfl rfl)) <|
  z_ac (j := 3) rfl (z_eI (sp_iload_n (q := 0) dX8_requireFuture_4 rfl rfl)) <|
  z_ac (j := 4) rfl (z_eI (sp_sipush dX8_requireFuture_5 (by decide +kernel) rfl)) <|
  z_ac (j := 5) rfl (z_eI (sp_icmp_le dX8_requireFuture_8 rfl rfl)) <|
  z_ac (j := 6) rfl (z_tW rfl rfl (by decide +kernel) zTr1 (zmsg351) dX8_requireFuture_11 dX8_requireFuture_14 dX8_requireFuture_15 dX8_requireFuture_18 dX8_requireFuture_21 rfl (by decide +kernel)) <|
  z_ac (j := 7) rfl (z_eI sp_none) <|
  z_ac (j := 8) rfl (z_eI sp_none) <|
  z_ac (j := 9) rfl (z_eI sp_none) <|
  z_ac (j := 10) rfl (z_eI sp_none) <|
  z_ac (j := 11) rfl (z_eW (sv_void dX8_requireFuture_22 rfl)) <| z_an
theorem dX8_cellAt_0 : decode cX8_cellAt 0 = .ok (.iload_n 1, 1) := by decide +kernel
theorem dX8_cellAt_1 : decode cX8_cellAt 1 = .ok (.bipush 12, 2) := by decide +kernel
theorem dX8_cellAt_3 : decode cX8_cellAt 3 = .ok (.imul, 1) := by decide +kernel
theorem dX8_cellAt_4 : decode cX8_cellAt 4 = .ok (.iload_n 0, 1) := by decide +kernel
theorem dX8_cellAt_5 : decode cX8_cellAt 5 = .ok (.iadd, 1) := by decide +kernel
theorem dX8_cellAt_6 : decode cX8_cellAt 6 = .ok (.ireturn, 1) := by decide +kernel
theorem tX8_cellAt {L : Nat} {xs : Nat → Int32} {N : Nat} : z_AllE (zE L xs N 274) 0 (kX8_cellAt N) :=
  z_ac (j := 1) rfl (z_eI (sp_iload_n (q := 1) dX8_cellAt_0 rfl rfl)) <|
  z_ac (j := 2) rfl (z_eI (sp_bipush dX8_cellAt_1 (by decide +kernel) rfl)) <|
  z_ac (j := 3) rfl (z_eI (sp_imul dX8_cellAt_3 rfl)) <|
  z_ac (j := 4) rfl (z_eI (sp_iload_n (q := 0) dX8_cellAt_4 rfl rfl)) <|
  z_ac (j := 5) rfl (z_eI (sp_iadd dX8_cellAt_5 rfl)) <|
  z_ac (j := 6) rfl (z_eR (sr_int dX8_cellAt_6 rfl)) <| z_an
theorem dX8_columnOf_0 : decode cX8_columnOf 0 = .ok (.iload_n 0, 1) := by decide +kernel
theorem dX8_columnOf_1 : decode cX8_columnOf 1 = .ok (.bipush 12, 2) := by decide +kernel
theorem dX8_columnOf_3 : decode cX8_columnOf 3 = .ok (.irem, 1) := by decide +kernel
theorem dX8_columnOf_4 : decode cX8_columnOf 4 = .ok (.ireturn, 1) := by decide +kernel
theorem tX8_columnOf {L : Nat} {xs : Nat → Int32} {N : Nat} : z_AllE (zE L xs N 275) 0 (kX8_columnOf N) :=
  z_ac (j := 1) rfl (z_eI (sp_iload_n (q := 0) dX8_columnOf_0 rfl rfl)) <|
  z_ac (j := 2) rfl (z_eI (sp_bipush dX8_columnOf_1 (by decide +kernel) rfl)) <|
  z_ac (j := 3) rfl (z_eI (sp_irem dX8_columnOf_3 rfl)) <|
  z_ac (j := 4) rfl (z_eR (sr_int dX8_columnOf_4 rfl)) <| z_an
theorem dX8_rowOf_0 : decode cX8_rowOf 0 = .ok (.iload_n 0, 1) := by decide +kernel
theorem dX8_rowOf_1 : decode cX8_rowOf 1 = .ok (.bipush 12, 2) := by decide +kernel
theorem dX8_rowOf_3 : decode cX8_rowOf 3 = .ok (.idiv, 1) := by decide +kernel
theorem dX8_rowOf_4 : decode cX8_rowOf 4 = .ok (.ireturn, 1) := by decide +kernel
theorem tX8_rowOf {L : Nat} {xs : Nat → Int32} {N : Nat} : z_AllE (zE L xs N 276) 0 (kX8_rowOf N) :=
  z_ac (j := 1) rfl (z_eI (sp_iload_n (q := 0) dX8_rowOf_0 rfl rfl)) <|
  z_ac (j := 2) rfl (z_eI (sp_bipush dX8_rowOf_1 (by decide +kernel) rfl)) <|
  z_ac (j := 3) rfl (z_eI (sp_idiv dX8_rowOf_3 rfl)) <|
  z_ac (j := 4) rfl (z_eR (sr_int dX8_rowOf_4 rfl)) <| z_an
theorem dX8_holds_0 : decode cX8_holds 0 = .ok (.iload_n 0, 1) := by decide +kernel
theorem dX8_holds_1 : decode cX8_holds 1 = .ok (.iload_n 1, 1) := by decide +kernel
theorem dX8_holds_2 : decode cX8_holds 2 = .ok (.ishr, 1) := by decide +kernel
theorem dX8_holds_3 : decode cX8_holds 3 = .ok (.iconst 1, 1) := by decide +kernel
theorem dX8_holds_4 : decode cX8_holds 4 = .ok (.iand, 1) := by decide +kernel
theorem dX8_holds_5 : decode cX8_holds 5 = .ok (.ifCond .eq 7, 3) := by decide +kernel
theorem dX8_holds_8 : decode cX8_holds 8 = .ok (.iconst 1, 1) := by decide +kernel
theorem dX8_holds_9 : decode cX8_holds 9 = .ok (.goto 4, 3) := by decide +kernel
theorem dX8_holds_12 : decode cX8_holds 12 = .ok (.iconst 0, 1) := by decide +kernel
theorem dX8_holds_13 : decode cX8_holds 13 = .ok (.ireturn, 1) := by decide +kernel
theorem tX8_holds {L : Nat} {xs : Nat → Int32} {N : Nat} : z_AllE (zE L xs N 277) 0 (kX8_holds N) :=
  z_ac (j := 1) rfl (z_eI (sp_iload_n (q := 0) dX8_holds_0 rfl rfl)) <|
  z_ac (j := 2) rfl (z_eI (sp_iload_n (q := 1) dX8_holds_1 rfl rfl)) <|
  z_ac (j := 3) rfl (z_eI (sp_ishr dX8_holds_2 rfl)) <|
  z_ac (j := 4) rfl (z_eI (sp_iconst dX8_holds_3 (by decide +kernel) rfl)) <|
  z_ac (j := 5) rfl (z_eI (sp_iand dX8_holds_4 rfl)) <|
  z_ac (j := 6) rfl (z_eI (sp_if_eq dX8_holds_5 rfl rfl)) <|
  z_ac (j := 7) rfl (z_eI (sp_iconst dX8_holds_8 (by decide +kernel) rfl)) <|
  z_ac (j := 8) rfl (z_eI (sp_goto dX8_holds_9 rfl)) <|
  z_ac (j := 9) rfl (z_eI (sp_iconst dX8_holds_12 (by decide +kernel) rfl)) <|
  z_ac (j := 10) rfl (z_eR (sr_bool dX8_holds_13 rfl)) <| z_an
theorem dX8_copyNumbers_0 : decode cX8_copyNumbers 0 = .ok (.aload_n 0, 1) := by decide +kernel
theorem dX8_copyNumbers_1 : decode cX8_copyNumbers 1 = .ok (.iconst 0, 1) := by decide +kernel
theorem dX8_copyNumbers_2 : decode cX8_copyNumbers 2 = .ok (.aload_n 1, 1) := by decide +kernel
theorem dX8_copyNumbers_3 : decode cX8_copyNumbers 3 = .ok (.iconst 0, 1) := by decide +kernel
theorem dX8_copyNumbers_4 : decode cX8_copyNumbers 4 = .ok (.aload_n 0, 1) := by decide +kernel
theorem dX8_copyNumbers_5 : decode cX8_copyNumbers 5 = .ok (.arraylength, 1) := by decide +kernel
theorem dX8_copyNumbers_6 : decode cX8_copyNumbers 6 = .ok (.aload_n 1, 1) := by decide +kernel
theorem dX8_copyNumbers_7 : decode cX8_copyNumbers 7 = .ok (.arraylength, 1) := by decide +kernel
theorem dX8_copyNumbers_8 : decode cX8_copyNumbers 8 = .ok (.invokestatic 353, 3) := by decide +kernel
theorem dX8_copyNumbers_11 : decode cX8_copyNumbers 11 = .ok (.invokestatic 358, 3) := by decide +kernel
theorem dX8_copyNumbers_14 : decode cX8_copyNumbers 14 = .ok (.return_, 1) := by decide +kernel
theorem tX8_copyNumbers {L : Nat} {xs : Nat → Int32} {N : Nat} : z_AllE (zE L xs N 278) 0 (kX8_copyNumbers N) :=
  z_ac (j := 1) rfl (z_eI (sp_aload_n (q := 0) dX8_copyNumbers_0 rfl rfl)) <|
  z_ac (j := 2) rfl (z_eI (sp_iconst dX8_copyNumbers_1 (by decide +kernel) rfl)) <|
  z_ac (j := 3) rfl (z_eI (sp_aload_n (q := 1) dX8_copyNumbers_2 rfl rfl)) <|
  z_ac (j := 4) rfl (z_eI (sp_iconst dX8_copyNumbers_3 (by decide +kernel) rfl)) <|
  z_ac (j := 5) rfl (z_eI (sp_aload_n (q := 0) dX8_copyNumbers_4 rfl rfl)) <|
  z_ac (j := 6) rfl (z_eI (sp_alen dX8_copyNumbers_5 rfl)) <|
  z_ac (j := 7) rfl (z_eI (sp_aload_n (q := 1) dX8_copyNumbers_6 rfl rfl)) <|
  z_ac (j := 8) rfl (z_eI (sp_alen dX8_copyNumbers_7 rfl)) <|
  z_ac (j := 9) rfl (z_eI (sp_mmin dX8_copyNumbers_8 wl_658 ws_659 wi_51 wc_660 (by decide) (by decide) rfl)) <|
  z_ac (j := 10) rfl (z_eI (sp_acopy dX8_copyNumbers_11 wl_661 wn_663 wz_662 wi_52 (by decide) (by decide +kernel) rfl)) <|
  z_ac (j := 11) rfl (z_eW (sv_void dX8_copyNumbers_14 rfl)) <| z_an
theorem dJ7_fill_53178_0 : decode cJ7_fill_53178 0 = .ok (.iconst 0, 1) := by decide +kernel
theorem dJ7_fill_53178_1 : decode cJ7_fill_53178 1 = .ok (.istore_n 2, 1) := by decide +kernel
theorem dJ7_fill_53178_2 : decode cJ7_fill_53178 2 = .ok (.aload_n 0, 1) := by decide +kernel
theorem dJ7_fill_53178_3 : decode cJ7_fill_53178 3 = .ok (.arraylength, 1) := by decide +kernel
theorem dJ7_fill_53178_4 : decode cJ7_fill_53178 4 = .ok (.istore_n 3, 1) := by decide +kernel
theorem dJ7_fill_53178_5 : decode cJ7_fill_53178 5 = .ok (.iload_n 2, 1) := by decide +kernel
theorem dJ7_fill_53178_6 : decode cJ7_fill_53178 6 = .ok (.iload_n 3, 1) := by decide +kernel
theorem dJ7_fill_53178_7 : decode cJ7_fill_53178 7 = .ok (.if_icmp .ge 13, 3) := by decide +kernel
theorem dJ7_fill_53178_10 : decode cJ7_fill_53178 10 = .ok (.aload_n 0, 1) := by decide +kernel
theorem dJ7_fill_53178_11 : decode cJ7_fill_53178 11 = .ok (.iload_n 2, 1) := by decide +kernel
theorem dJ7_fill_53178_12 : decode cJ7_fill_53178 12 = .ok (.iload_n 1, 1) := by decide +kernel
theorem dJ7_fill_53178_13 : decode cJ7_fill_53178 13 = .ok (.iastore, 1) := by decide +kernel
theorem dJ7_fill_53178_14 : decode cJ7_fill_53178 14 = .ok (.iinc 2 1, 3) := by decide +kernel
theorem dJ7_fill_53178_17 : decode cJ7_fill_53178 17 = .ok (.goto (-12), 3) := by decide +kernel
theorem dJ7_fill_53178_20 : decode cJ7_fill_53178 20 = .ok (.return_, 1) := by decide +kernel
theorem tJ7_fill_53178 {L : Nat} {xs : Nat → Int32} {N : Nat} : z_AllE (zE L xs N 279) 0 (kJ7_fill_53178 N) :=
  z_ac (j := 1) rfl (z_eI (sp_iconst dJ7_fill_53178_0 (by decide +kernel) rfl)) <|
  z_ac (j := 2) rfl (z_eI (sp_istore_n (q := 2) dJ7_fill_53178_1 rfl (by decide) (fun _ _ => rfl) rfl)) <|
  z_ac (j := 3) rfl (z_eI (sp_aload_n (q := 0) dJ7_fill_53178_2 rfl rfl)) <|
  z_ac (j := 4) rfl (z_eI (sp_alen dJ7_fill_53178_3 rfl)) <|
  z_ac (j := 5) rfl (z_eI (sp_istore_n (q := 3) dJ7_fill_53178_4 rfl (by decide) (fun _ _ => rfl) rfl)) <|
  z_ac (j := 6) rfl (z_eI (sp_iload_n (q := 2) dJ7_fill_53178_5 rfl rfl)) <|
  z_ac (j := 7) rfl (z_eI (sp_iload_n (q := 3) dJ7_fill_53178_6 rfl rfl)) <|
  z_ac (j := 8) rfl (z_eI (sp_icmp_ge dJ7_fill_53178_7 rfl rfl)) <|
  z_ac (j := 9) rfl (z_eI (sp_aload_n (q := 0) dJ7_fill_53178_10 rfl rfl)) <|
  z_ac (j := 10) rfl (z_eI (sp_iload_n (q := 2) dJ7_fill_53178_11 rfl rfl)) <|
  z_ac (j := 11) rfl (z_eI (sp_iload_n (q := 1) dJ7_fill_53178_12 rfl rfl)) <|
  z_ac (j := 12) rfl (z_eI (sp_iast dJ7_fill_53178_13 rfl)) <|
  z_ac (j := 13) rfl (z_eI (sp_iinc dJ7_fill_53178_14 (by decide +kernel) (by decide) (fun _ _ => rfl) rfl)) <|
  z_ac (j := 14) rfl (z_eI (sp_goto dJ7_fill_53178_17 rfl)) <|
  z_ac (j := 15) rfl (z_eW (sv_void dJ7_fill_53178_20 rfl)) <| z_an
theorem dJ0_length_8abf5_0 : decode cJ0_length_8abf5 0 = .ok (.aload_n 0, 1) := by decide +kernel
theorem dJ0_length_8abf5_1 : decode cJ0_length_8abf5 1 = .ok (.getfield 9, 3) := by decide +kernel
theorem dJ0_length_8abf5_4 : decode cJ0_length_8abf5 4 = .ok (.arraylength, 1) := by decide +kernel
theorem dJ0_length_8abf5_5 : decode cJ0_length_8abf5 5 = .ok (.aload_n 0, 1) := by decide +kernel
theorem dJ0_length_8abf5_6 : decode cJ0_length_8abf5 6 = .ok (.invokevirtual 335, 3) := by decide +kernel
theorem dJ0_length_8abf5_9 : decode cJ0_length_8abf5 9 = .ok (.ishr, 1) := by decide +kernel
theorem dJ0_length_8abf5_10 : decode cJ0_length_8abf5 10 = .ok (.ireturn, 1) := by decide +kernel
theorem tJ0_length_8abf5 {L : Nat} {xs : Nat → Int32} {N : Nat} : z_AllE (zE L xs N 280) 0 (kJ0_length_8abf5 N) :=
  z_ac (j := 1) rfl (z_eI (sp_aload_n (q := 0) dJ0_length_8abf5_0 rfl rfl)) <|
  z_ac (j := 2) rfl (z_eI (sp_sval dJ0_length_8abf5_1 wf_1358 rfl)) <|
  z_ac (j := 3) rfl (z_eI (sp_salen dJ0_length_8abf5_4 rfl)) <|
  z_ac (j := 4) rfl (z_eI (sp_aload_n (q := 0) dJ0_length_8abf5_5 rfl rfl)) <|
  z_ac (j := 5) rfl (z_cT dJ0_length_8abf5_6 wl_314 qJ0_coder_7d493 (by decide +kernel) rfl (z_sn rfl rfl) rfl) <|
  z_ac (j := 6) rfl (z_eI (sp_ishr dJ0_length_8abf5_9 rfl)) <|
  z_ac (j := 7) rfl (z_eR (sr_int dJ0_length_8abf5_10 rfl)) <| z_an
theorem dJ0_charAt_5068e_0 : decode cJ0_charAt_5068e 0 = .ok (.aload_n 0, 1) := by decide +kernel
theorem dJ0_charAt_5068e_1 : decode cJ0_charAt_5068e 1 = .ok (.invokevirtual 492, 3) := by decide +kernel
theorem dJ0_charAt_5068e_4 : decode cJ0_charAt_5068e 4 = .ok (.ifCond .eq 12, 3) := by decide +kernel
theorem dJ0_charAt_5068e_7 : decode cJ0_charAt_5068e 7 = .ok (.aload_n 0, 1) := by decide +kernel
theorem dJ0_charAt_5068e_8 : decode cJ0_charAt_5068e 8 = .ok (.getfield 9, 3) := by decide +kernel
theorem dJ0_charAt_5068e_11 : decode cJ0_charAt_5068e 11 = .ok (.iload_n 1, 1) := by decide +kernel
theorem dJ0_charAt_5068e_12 : decode cJ0_charAt_5068e 12 = .ok (.invokestatic 495, 3) := by decide +kernel
theorem dJ0_charAt_5068e_15 : decode cJ0_charAt_5068e 15 = .ok (.ireturn, 1) := by decide +kernel
theorem dJ0_charAt_5068e_16 : decode cJ0_charAt_5068e 16 = .ok (.aload_n 0, 1) := by decide +kernel
theorem dJ0_charAt_5068e_17 : decode cJ0_charAt_5068e 17 = .ok (.getfield 9, 3) := by decide +kernel
theorem dJ0_charAt_5068e_20 : decode cJ0_charAt_5068e 20 = .ok (.iload_n 1, 1) := by decide +kernel
theorem dJ0_charAt_5068e_21 : decode cJ0_charAt_5068e 21 = .ok (.invokestatic 498, 3) := by decide +kernel
theorem dJ0_charAt_5068e_24 : decode cJ0_charAt_5068e 24 = .ok (.ireturn, 1) := by decide +kernel
theorem tJ0_charAt_5068e {L : Nat} {xs : Nat → Int32} {N : Nat} : z_AllE (zE L xs N 281) 0 (kJ0_charAt_5068e N) :=
  z_ac (j := 1) rfl (z_eI (sp_aload_n (q := 0) dJ0_charAt_5068e_0 rfl rfl)) <|
  z_ac (j := 2) rfl (z_cT dJ0_charAt_5068e_1 wl_324 qJ0_isLatin1_aae02 (by decide +kernel) rfl (z_sn rfl rfl) rfl) <|
  z_ac (j := 3) rfl (z_eI (sp_if_eq dJ0_charAt_5068e_4 rfl rfl)) <|
  z_ac (j := 4) rfl (z_eI (sp_aload_n (q := 0) dJ0_charAt_5068e_7 rfl rfl)) <|
  z_ac (j := 5) rfl (z_eI (sp_sval dJ0_charAt_5068e_8 wf_1358 rfl)) <|
  z_ac (j := 6) rfl (z_eI (sp_iload_n (q := 1) dJ0_charAt_5068e_11 rfl rfl)) <|
  z_ac (j := 7) rfl (z_cS dJ0_charAt_5068e_12 wl_328 qJ1_charAt_3b067 (by decide +kernel) (z_sn rfl rfl) rfl) <|
  z_ac (j := 8) rfl (z_eR (sr_char dJ0_charAt_5068e_15 rfl)) <|
  z_ac (j := 9) rfl (z_eI sp_none) <|
  z_ac (j := 10) rfl (z_eI sp_none) <|
  z_ac (j := 11) rfl (z_eI sp_none) <|
  z_ac (j := 12) rfl (z_eI sp_none) <|
  z_ac (j := 13) rfl (z_eI sp_none) <| z_an
theorem dJ0_coder_7d493_0 : decode cJ0_coder_7d493 0 = .ok (.getstatic 38, 3) := by decide +kernel
theorem dJ0_coder_7d493_3 : decode cJ0_coder_7d493 3 = .ok (.ifCond .eq 10, 3) := by decide +kernel
theorem dJ0_coder_7d493_6 : decode cJ0_coder_7d493 6 = .ok (.aload_n 0, 1) := by decide +kernel
theorem dJ0_coder_7d493_7 : decode cJ0_coder_7d493 7 = .ok (.getfield 15, 3) := by decide +kernel
theorem dJ0_coder_7d493_10 : decode cJ0_coder_7d493 10 = .ok (.goto 4, 3) := by decide +kernel
theorem dJ0_coder_7d493_13 : decode cJ0_coder_7d493 13 = .ok (.iconst 1, 1) := by decide +kernel
theorem dJ0_coder_7d493_14 : decode cJ0_coder_7d493 14 = .ok (.ireturn, 1) := by decide +kernel
theorem tJ0_coder_7d493 {L : Nat} {xs : Nat → Int32} {N : Nat} : z_AllE (zE L xs N 282) 0 (kJ0_coder_7d493 N) :=
  z_ac (j := 1) rfl (z_eI (sp_compact dJ0_coder_7d493_0 wf_318 rfl)) <|
  z_ac (j := 2) rfl (z_eI (sp_if_eq dJ0_coder_7d493_3 rfl rfl)) <|
  z_ac (j := 3) rfl (z_eI (sp_aload_n (q := 0) dJ0_coder_7d493_6 rfl rfl)) <|
  z_ac (j := 4) rfl (z_eI (sp_scoder dJ0_coder_7d493_7 wf_1359 rfl)) <|
  z_ac (j := 5) rfl (z_eI (sp_goto dJ0_coder_7d493_10 rfl)) <|
  z_ac (j := 6) rfl (z_eI (sp_iconst dJ0_coder_7d493_13 (by decide +kernel) rfl)) <|
  z_ac (j := 7) rfl (z_eR (sr_byte dJ0_coder_7d493_14 rfl)) <| z_an
theorem dJ0_isLatin1_aae02_0 : decode cJ0_isLatin1_aae02 0 = .ok (.getstatic 38, 3) := by decide +kernel
theorem dJ0_isLatin1_aae02_3 : decode cJ0_isLatin1_aae02 3 = .ok (.ifCond .eq 14, 3) := by decide +kernel
theorem dJ0_isLatin1_aae02_6 : decode cJ0_isLatin1_aae02 6 = .ok (.aload_n 0, 1) := by decide +kernel
theorem dJ0_isLatin1_aae02_7 : decode cJ0_isLatin1_aae02 7 = .ok (.getfield 15, 3) := by decide +kernel
theorem dJ0_isLatin1_aae02_10 : decode cJ0_isLatin1_aae02 10 = .ok (.ifCond .ne 7, 3) := by decide +kernel
theorem dJ0_isLatin1_aae02_13 : decode cJ0_isLatin1_aae02 13 = .ok (.iconst 1, 1) := by decide +kernel
theorem dJ0_isLatin1_aae02_14 : decode cJ0_isLatin1_aae02 14 = .ok (.goto 4, 3) := by decide +kernel
theorem dJ0_isLatin1_aae02_17 : decode cJ0_isLatin1_aae02 17 = .ok (.iconst 0, 1) := by decide +kernel
theorem dJ0_isLatin1_aae02_18 : decode cJ0_isLatin1_aae02 18 = .ok (.ireturn, 1) := by decide +kernel
theorem tJ0_isLatin1_aae02 {L : Nat} {xs : Nat → Int32} {N : Nat} : z_AllE (zE L xs N 283) 0 (kJ0_isLatin1_aae02 N) :=
  z_ac (j := 1) rfl (z_eI (sp_compact dJ0_isLatin1_aae02_0 wf_318 rfl)) <|
  z_ac (j := 2) rfl (z_eI (sp_if_eq dJ0_isLatin1_aae02_3 rfl rfl)) <|
  z_ac (j := 3) rfl (z_eI (sp_aload_n (q := 0) dJ0_isLatin1_aae02_6 rfl rfl)) <|
  z_ac (j := 4) rfl (z_eI (sp_scoder dJ0_isLatin1_aae02_7 wf_1359 rfl)) <|
  z_ac (j := 5) rfl (z_eI (sp_if_ne dJ0_isLatin1_aae02_10 rfl rfl)) <|
  z_ac (j := 6) rfl (z_eI (sp_iconst dJ0_isLatin1_aae02_13 (by decide +kernel) rfl)) <|
  z_ac (j := 7) rfl (z_eI (sp_goto dJ0_isLatin1_aae02_14 rfl)) <|
  z_ac (j := 8) rfl (z_eI (sp_iconst dJ0_isLatin1_aae02_17 (by decide +kernel) rfl)) <|
  z_ac (j := 9) rfl (z_eR (sr_bool dJ0_isLatin1_aae02_18 rfl)) <| z_an
theorem dJ0_checkIndex_df160_0 : decode cJ0_checkIndex_df160 0 = .ok (.iload_n 0, 1) := by decide +kernel
theorem dJ0_checkIndex_df160_1 : decode cJ0_checkIndex_df160 1 = .ok (.iload_n 1, 1) := by decide +kernel
theorem dJ0_checkIndex_df160_2 : decode cJ0_checkIndex_df160 2 = .ok (.getstatic 1053, 3) := by decide +kernel
theorem dJ0_checkIndex_df160_5 : decode cJ0_checkIndex_df160 5 = .ok (.invokestatic 1059, 3) := by decide +kernel
theorem dJ0_checkIndex_df160_8 : decode cJ0_checkIndex_df160 8 = .ok (.pop, 1) := by decide +kernel
theorem dJ0_checkIndex_df160_9 : decode cJ0_checkIndex_df160 9 = .ok (.return_, 1) := by decide +kernel
theorem tJ0_checkIndex_df160 {L : Nat} {xs : Nat → Int32} {N : Nat} : z_AllE (zE L xs N 284) 0 (kJ0_checkIndex_df160 N) :=
  z_ac (j := 1) rfl (z_eI (sp_iload_n (q := 0) dJ0_checkIndex_df160_0 rfl rfl)) <|
  z_ac (j := 2) rfl (z_eI (sp_iload_n (q := 1) dJ0_checkIndex_df160_1 rfl rfl)) <|
  z_ac (j := 3) rfl (z_eI (sp_cki zTs_good dJ0_checkIndex_df160_2 wf_334 dJ0_checkIndex_df160_5 wl_336 ws_337 wi_43 wc_338 dJ0_checkIndex_df160_8 (by decide +kernel) (by decide +kernel) rfl)) <|
  z_ac (j := 4) rfl (z_eI sp_none) <|
  z_ac (j := 5) rfl (z_eI sp_none) <|
  z_ac (j := 6) rfl (z_eW (sv_void dJ0_checkIndex_df160_9 rfl)) <| z_an
theorem dJ1_charAt_3b067_0 : decode cJ1_charAt_3b067 0 = .ok (.iload_n 1, 1) := by decide +kernel
theorem dJ1_charAt_3b067_1 : decode cJ1_charAt_3b067 1 = .ok (.aload_n 0, 1) := by decide +kernel
theorem dJ1_charAt_3b067_2 : decode cJ1_charAt_3b067 2 = .ok (.arraylength, 1) := by decide +kernel
theorem dJ1_charAt_3b067_3 : decode cJ1_charAt_3b067 3 = .ok (.invokestatic 9, 3) := by decide +kernel
theorem dJ1_charAt_3b067_6 : decode cJ1_charAt_3b067 6 = .ok (.aload_n 0, 1) := by decide +kernel
theorem dJ1_charAt_3b067_7 : decode cJ1_charAt_3b067 7 = .ok (.iload_n 1, 1) := by decide +kernel
theorem dJ1_charAt_3b067_8 : decode cJ1_charAt_3b067 8 = .ok (.baload, 1) := by decide +kernel
theorem dJ1_charAt_3b067_9 : decode cJ1_charAt_3b067 9 = .ok (.sipush 255, 3) := by decide +kernel
theorem dJ1_charAt_3b067_12 : decode cJ1_charAt_3b067 12 = .ok (.iand, 1) := by decide +kernel
theorem dJ1_charAt_3b067_13 : decode cJ1_charAt_3b067 13 = .ok (.i2c, 1) := by decide +kernel
theorem dJ1_charAt_3b067_14 : decode cJ1_charAt_3b067 14 = .ok (.ireturn, 1) := by decide +kernel
theorem tJ1_charAt_3b067 {L : Nat} {xs : Nat → Int32} {N : Nat} : z_AllE (zE L xs N 285) 0 (kJ1_charAt_3b067 N) :=
  z_ac (j := 1) rfl (z_eI (sp_iload_n (q := 1) dJ1_charAt_3b067_0 rfl rfl)) <|
  z_ac (j := 2) rfl (z_eI (sp_aload_n (q := 0) dJ1_charAt_3b067_1 rfl rfl)) <|
  z_ac (j := 3) rfl (z_eI (sp_salen dJ1_charAt_3b067_2 rfl)) <|
  z_ac (j := 4) rfl (z_cS dJ1_charAt_3b067_3 wl_331 qJ0_checkIndex_df160 (by decide +kernel) (z_sn rfl rfl) rfl) <|
  z_ac (j := 5) rfl (z_eI (sp_aload_n (q := 0) dJ1_charAt_3b067_6 rfl rfl)) <|
  z_ac (j := 6) rfl (z_eI (sp_iload_n (q := 1) dJ1_charAt_3b067_7 rfl rfl)) <|
  z_ac (j := 7) rfl (z_eI (sp_sbald dJ1_charAt_3b067_8 rfl)) <|
  z_ac (j := 8) rfl (z_eI (sp_sipush dJ1_charAt_3b067_9 (by decide +kernel) rfl)) <|
  z_ac (j := 9) rfl (z_eI (sp_iand dJ1_charAt_3b067_12 rfl)) <|
  z_ac (j := 10) rfl (z_eI (sp_i2c dJ1_charAt_3b067_13 rfl)) <|
  z_ac (j := 11) rfl (z_eR (sr_char dJ1_charAt_3b067_14 rfl)) <| z_an
theorem tL_append {L : Nat} {xs : Nat → Int32} {N : Nat} : z_AllE (zE L xs N 286) 0 (kL_append N) := z_an
theorem tL_shorten {L : Nat} {xs : Nat → Int32} {N : Nat} : z_AllE (zE L xs N 287) 0 (kL_shorten N) := z_an
theorem tL_load {L : Nat} {xs : Nat → Int32} {N : Nat} : z_AllE (zE L xs N 288) 0 (kL_load N) := z_an
theorem tL_errorOffset {L : Nat} {xs : Nat → Int32} {N : Nat} : z_AllE (zE L xs N 289) 0 (kL_errorOffset N) := z_an
theorem tL_isWater {L : Nat} {xs : Nat → Int32} {N : Nat} : z_AllE (zE L xs N 290) 0 (kL_isWater N) := z_an
theorem tL_isHut {L : Nat} {xs : Nat → Int32} {N : Nat} : z_AllE (zE L xs N 291) 0 (kL_isHut N) := z_an
theorem tL_isPlank {L : Nat} {xs : Nat → Int32} {N : Nat} : z_AllE (zE L xs N 292) 0 (kL_isPlank N) := z_an
theorem tL_plankStrength {L : Nat} {xs : Nat → Int32} {N : Nat} : z_AllE (zE L xs N 293) 0 (kL_plankStrength N) := z_an
theorem tL_pathLength {L : Nat} {xs : Nat → Int32} {N : Nat} : z_AllE (zE L xs N 294) 0 (kL_pathLength N) := z_an
theorem tL_stepsToHut {L : Nat} {xs : Nat → Int32} {N : Nat} : z_AllE (zE L xs N 295) 0 (kL_stepsToHut N) := z_an
theorem tL_fog {L : Nat} {xs : Nat → Int32} {N : Nat} : z_AllE (zE L xs N 296) 0 (kL_fog N) := z_an
theorem tL_lightColumn {L : Nat} {xs : Nat → Int32} {N : Nat} : z_AllE (zE L xs N 297) 0 (kL_lightColumn N) := z_an
theorem tL_lightRow {L : Nat} {xs : Nat → Int32} {N : Nat} : z_AllE (zE L xs N 298) 0 (kL_lightRow N) := z_an
theorem tL_brightness {L : Nat} {xs : Nat → Int32} {N : Nat} : z_AllE (zE L xs N 299) 0 (kL_brightness N) := z_an
theorem tL_isTrueLight {L : Nat} {xs : Nat → Int32} {N : Nat} : z_AllE (zE L xs N 300) 0 (kL_isTrueLight N) := z_an
theorem tL_hasSuccessor {L : Nat} {xs : Nat → Int32} {N : Nat} : z_AllE (zE L xs N 301) 0 (kL_hasSuccessor N) := z_an
theorem tL_successor {L : Nat} {xs : Nat → Int32} {N : Nat} : z_AllE (zE L xs N 302) 0 (kL_successor N) := z_an
theorem tL_followers {L : Nat} {xs : Nat → Int32} {N : Nat} : z_AllE (zE L xs N 303) 0 (kL_followers N) := z_an
theorem tL_leadsAstray {L : Nat} {xs : Nat → Int32} {N : Nat} : z_AllE (zE L xs N 304) 0 (kL_leadsAstray N) := z_an
theorem tL_travellerColumn {L : Nat} {xs : Nat → Int32} {N : Nat} : z_AllE (zE L xs N 305) 0 (kL_travellerColumn N) := z_an
theorem tL_travellerRow {L : Nat} {xs : Nat → Int32} {N : Nat} : z_AllE (zE L xs N 306) 0 (kL_travellerRow N) := z_an
theorem tL_isWalking {L : Nat} {xs : Nat → Int32} {N : Nat} : z_AllE (zE L xs N 307) 0 (kL_isWalking N) := z_an
theorem tL_hasArrived {L : Nat} {xs : Nat → Int32} {N : Nat} : z_AllE (zE L xs N 308) 0 (kL_hasArrived N) := z_an
theorem tL_hasSunk {L : Nat} {xs : Nat → Int32} {N : Nat} : z_AllE (zE L xs N 309) 0 (kL_hasSunk N) := z_an
theorem tL_stepsTaken {L : Nat} {xs : Nat → Int32} {N : Nat} : z_AllE (zE L xs N 310) 0 (kL_stepsTaken N) := z_an
theorem tL_hasTarget {L : Nat} {xs : Nat → Int32} {N : Nat} : z_AllE (zE L xs N 311) 0 (kL_hasTarget N) := z_an
theorem tL_target {L : Nat} {xs : Nat → Int32} {N : Nat} : z_AllE (zE L xs N 312) 0 (kL_target N) := z_an
theorem tL_hasPassed {L : Nat} {xs : Nat → Int32} {N : Nat} : z_AllE (zE L xs N 313) 0 (kL_hasPassed N) := z_an
theorem tL_distrusts {L : Nat} {xs : Nat → Int32} {N : Nat} : z_AllE (zE L xs N 314) 0 (kL_distrusts N) := z_an
theorem tL_sees {L : Nat} {xs : Nat → Int32} {N : Nat} : z_AllE (zE L xs N 315) 0 (kL_sees N) := z_an
theorem tL_nearestLight {L : Nat} {xs : Nat → Int32} {N : Nat} : z_AllE (zE L xs N 316) 0 (kL_nearestLight N) := z_an
theorem tL_ticksUntilDone {L : Nat} {xs : Nat → Int32} {N : Nat} : z_AllE (zE L xs N 317) 0 (kL_ticksUntilDone N) := z_an
theorem tL_willArrive {L : Nat} {xs : Nat → Int32} {N : Nat} : z_AllE (zE L xs N 318) 0 (kL_willArrive N) := z_an
theorem tL_arrivedAfter {L : Nat} {xs : Nat → Int32} {N : Nat} : z_AllE (zE L xs N 319) 0 (kL_arrivedAfter N) := z_an
theorem tL_sunkAfter {L : Nat} {xs : Nat → Int32} {N : Nat} : z_AllE (zE L xs N 320) 0 (kL_sunkAfter N) := z_an
theorem tL_tick {L : Nat} {xs : Nat → Int32} {N : Nat} : z_AllE (zE L xs N 321) 0 (kL_tick N) := z_an
theorem tL_addLight {L : Nat} {xs : Nat → Int32} {N : Nat} : z_AllE (zE L xs N 322) 0 (kL_addLight N) := z_an
theorem tL_addTraveller {L : Nat} {xs : Nat → Int32} {N : Nat} : z_AllE (zE L xs N 323) 0 (kL_addTraveller N) := z_an
theorem tL_setSuccessor {L : Nat} {xs : Nat → Int32} {N : Nat} : z_AllE (zE L xs N 324) 0 (kL_setSuccessor N) := z_an
theorem tL_clearSuccessor {L : Nat} {xs : Nat → Int32} {N : Nat} : z_AllE (zE L xs N 325) 0 (kL_clearSuccessor N) := z_an
theorem tL_layPlank {L : Nat} {xs : Nat → Int32} {N : Nat} : z_AllE (zE L xs N 326) 0 (kL_layPlank N) := z_an
theorem tL_setClearness {L : Nat} {xs : Nat → Int32} {N : Nat} : z_AllE (zE L xs N 327) 0 (kL_setClearness N) := z_an
theorem tL_setFog {L : Nat} {xs : Nat → Int32} {N : Nat} : z_AllE (zE L xs N 328) 0 (kL_setFog N) := z_an
theorem tL_setTarget {L : Nat} {xs : Nat → Int32} {N : Nat} : z_AllE (zE L xs N 329) 0 (kL_setTarget N) := z_an
theorem tL_undo {L : Nat} {xs : Nat → Int32} {N : Nat} : z_AllE (zE L xs N 330) 0 (kL_undo N) := z_an
theorem tL_saveSnapshot {L : Nat} {xs : Nat → Int32} {N : Nat} : z_AllE (zE L xs N 331) 0 (kL_saveSnapshot N) := z_an
theorem tL_restoreSnapshot {L : Nat} {xs : Nat → Int32} {N : Nat} : z_AllE (zE L xs N 332) 0 (kL_restoreSnapshot N) := z_an
theorem tL_printedByte {L : Nat} {xs : Nat → Int32} {N : Nat} : z_AllE (zE L xs N 333) 0 (kL_printedByte N) := z_an
