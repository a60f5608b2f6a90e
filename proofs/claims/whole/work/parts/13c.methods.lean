/-! Each entry of the tables is sound (printed by wip/whole/gen12.py). -/
theorem dX9_addsWalker_0 : decode cX9_addsWalker 0 = .ok (.aload_n 0, 1) := by decide +kernel
theorem dX9_addsWalker_1 : decode cX9_addsWalker 1 = .ok (.iconst 5, 1) := by decide +kernel
theorem dX9_addsWalker_2 : decode cX9_addsWalker 2 = .ok (.iaload, 1) := by decide +kernel
theorem dX9_addsWalker_3 : decode cX9_addsWalker 3 = .ok (.istore_n 3, 1) := by decide +kernel
theorem dX9_addsWalker_4 : decode cX9_addsWalker 4 = .ok (.iconst 0, 1) := by decide +kernel
theorem dX9_addsWalker_5 : decode cX9_addsWalker 5 = .ok (.istore 4, 2) := by decide +kernel
theorem dX9_addsWalker_7 : decode cX9_addsWalker 7 = .ok (.iload 4, 2) := by decide +kernel
theorem dX9_addsWalker_9 : decode cX9_addsWalker 9 = .ok (.bipush 7, 2) := by decide +kernel
theorem dX9_addsWalker_11 : decode cX9_addsWalker 11 = .ok (.if_icmp .ge 18, 3) := by decide +kernel
theorem dX9_addsWalker_14 : decode cX9_addsWalker 14 = .ok (.aload_n 0, 1) := by decide +kernel
theorem dX9_addsWalker_15 : decode cX9_addsWalker 15 = .ok (.iload_n 3, 1) := by decide +kernel
theorem dX9_addsWalker_16 : decode cX9_addsWalker 16 = .ok (.iload 4, 2) := by decide +kernel
theorem dX9_addsWalker_18 : decode cX9_addsWalker 18 = .ok (.invokestatic 95, 3) := by decide +kernel
theorem dX9_addsWalker_21 : decode cX9_addsWalker 21 = .ok (.iconst 0, 1) := by decide +kernel
theorem dX9_addsWalker_22 : decode cX9_addsWalker 22 = .ok (.iastore, 1) := by decide +kernel
theorem dX9_addsWalker_23 : decode cX9_addsWalker 23 = .ok (.iinc 4 1, 3) := by decide +kernel
theorem dX9_addsWalker_26 : decode cX9_addsWalker 26 = .ok (.goto (-19), 3) := by decide +kernel
theorem dX9_addsWalker_29 : decode cX9_addsWalker 29 = .ok (.aload_n 0, 1) := by decide +kernel
theorem dX9_addsWalker_30 : decode cX9_addsWalker 30 = .ok (.iload_n 3, 1) := by decide +kernel
theorem dX9_addsWalker_31 : decode cX9_addsWalker 31 = .ok (.iconst 0, 1) := by decide +kernel
theorem dX9_addsWalker_32 : decode cX9_addsWalker 32 = .ok (.invokestatic 95, 3) := by decide +kernel
theorem dX9_addsWalker_35 : decode cX9_addsWalker 35 = .ok (.iload_n 1, 1) := by decide +kernel
theorem dX9_addsWalker_36 : decode cX9_addsWalker 36 = .ok (.iastore, 1) := by decide +kernel
theorem dX9_addsWalker_37 : decode cX9_addsWalker 37 = .ok (.aload_n 0, 1) := by decide +kernel
theorem dX9_addsWalker_38 : decode cX9_addsWalker 38 = .ok (.iload_n 3, 1) := by decide +kernel
theorem dX9_addsWalker_39 : decode cX9_addsWalker 39 = .ok (.iconst 1, 1) := by decide +kernel
theorem dX9_addsWalker_40 : decode cX9_addsWalker 40 = .ok (.invokestatic 95, 3) := by decide +kernel
theorem dX9_addsWalker_43 : decode cX9_addsWalker 43 = .ok (.iload_n 2, 1) := by decide +kernel
theorem dX9_addsWalker_44 : decode cX9_addsWalker 44 = .ok (.iastore, 1) := by decide +kernel
theorem dX9_addsWalker_45 : decode cX9_addsWalker 45 = .ok (.aload_n 0, 1) := by decide +kernel
theorem dX9_addsWalker_46 : decode cX9_addsWalker 46 = .ok (.iload_n 3, 1) := by decide +kernel
theorem dX9_addsWalker_47 : decode cX9_addsWalker 47 = .ok (.iconst 3, 1) := by decide +kernel
theorem dX9_addsWalker_48 : decode cX9_addsWalker 48 = .ok (.invokestatic 95, 3) := by decide +kernel
theorem dX9_addsWalker_51 : decode cX9_addsWalker 51 = .ok (.iconst (-1), 1) := by decide +kernel
theorem dX9_addsWalker_52 : decode cX9_addsWalker 52 = .ok (.iastore, 1) := by decide +kernel
theorem dX9_addsWalker_53 : decode cX9_addsWalker 53 = .ok (.aload_n 0, 1) := by decide +kernel
theorem dX9_addsWalker_54 : decode cX9_addsWalker 54 = .ok (.iconst 5, 1) := by decide +kernel
theorem dX9_addsWalker_55 : decode cX9_addsWalker 55 = .ok (.dup2, 1) := by decide +kernel
theorem dX9_addsWalker_56 : decode cX9_addsWalker 56 = .ok (.iaload, 1) := by decide +kernel
theorem dX9_addsWalker_57 : decode cX9_addsWalker 57 = .ok (.iconst 1, 1) := by decide +kernel
theorem dX9_addsWalker_58 : decode cX9_addsWalker 58 = .ok (.iadd, 1) := by decide +kernel
theorem dX9_addsWalker_59 : decode cX9_addsWalker 59 = .ok (.iastore, 1) := by decide +kernel
theorem dX9_addsWalker_60 : decode cX9_addsWalker 60 = .ok (.iload_n 3, 1) := by decide +kernel
theorem dX9_addsWalker_61 : decode cX9_addsWalker 61 = .ok (.ireturn, 1) := by decide +kernel
theorem tX9_addsWalker {L : Nat} {xs : Nat → Int32} {N : Nat} : z_AllE (zE L xs N 61) 0 (kX9_addsWalker N) :=
  z_ac (j := 1) rfl (z_eI (sp_aload_n (q := 0) dX9_addsWalker_0 rfl rfl)) <|
  z_ac (j := 2) rfl (z_eI (sp_iconst dX9_addsWalker_1 (by decide +kernel) rfl)) <|
  z_ac (j := 3) rfl (z_eI (sp_iald dX9_addsWalker_2 rfl)) <|
  z_ac (j := 4) rfl (z_eI (sp_istore_n (q := 3) dX9_addsWalker_3 rfl (by decide) (fun _ _ => rfl) rfl)) <|
  z_ac (j := 5) rfl (z_eI (sp_iconst dX9_addsWalker_4 (by decide +kernel) rfl)) <|
  z_ac (j := 6) rfl (z_eI (sp_istore dX9_addsWalker_5 (by decide) (fun _ _ => rfl) rfl)) <|
  z_ac (j := 7) rfl (z_eI (sp_iload dX9_addsWalker_7 rfl)) <|
  z_ac (j := 8) rfl (z_eI (sp_bipush dX9_addsWalker_9 (by decide +kernel) rfl)) <|
  z_ac (j := 9) rfl (z_eI (sp_icmp_ge dX9_addsWalker_11 rfl rfl)) <|
  z_ac (j := 10) rfl (z_eI (sp_aload_n (q := 0) dX9_addsWalker_14 rfl rfl)) <|
  z_ac (j := 11) rfl (z_eI (sp_iload_n (q := 3) dX9_addsWalker_15 rfl rfl)) <|
  z_ac (j := 12) rfl (z_eI (sp_iload dX9_addsWalker_16 rfl)) <|
  z_ac (j := 13) rfl (z_cS dX9_addsWalker_18 wl_1521 qX9_walkerAt (by decide +kernel) (z_sn rfl rfl) rfl) <|
  z_ac (j := 14) rfl (z_eI (sp_iconst dX9_addsWalker_21 (by decide +kernel) rfl)) <|
  z_ac (j := 15) rfl (z_eI (sp_iast dX9_addsWalker_22 rfl)) <|
  z_ac (j := 16) rfl (z_eI (sp_iinc dX9_addsWalker_23 (by decide +kernel) (by decide) (fun _ _ => rfl) rfl)) <|
  z_ac (j := 17) rfl (z_eI (sp_goto dX9_addsWalker_26 rfl)) <|
  z_ac (j := 18) rfl (z_eI (sp_aload_n (q := 0) dX9_addsWalker_29 rfl rfl)) <|
  z_ac (j := 19) rfl (z_eI (sp_iload_n (q := 3) dX9_addsWalker_30 rfl rfl)) <|
  z_ac (j := 20) rfl (z_eI (sp_iconst dX9_addsWalker_31 (by decide +kernel) rfl)) <|
  z_ac (j := 21) rfl (z_cS dX9_addsWalker_32 wl_1521 qX9_walkerAt (by decide +kernel) (z_sn rfl rfl) rfl) <|
  z_ac (j := 22) rfl (z_eI (sp_iload_n (q := 1) dX9_addsWalker_35 rfl rfl)) <|
  z_ac (j := 23) rfl (z_eI (sp_iast dX9_addsWalker_36 rfl)) <|
  z_ac (j := 24) rfl (z_eI (sp_aload_n (q := 0) dX9_addsWalker_37 rfl rfl)) <|
  z_ac (j := 25) rfl (z_eI (sp_iload_n (q := 3) dX9_addsWalker_38 rfl rfl)) <|
  z_ac (j := 26) rfl (z_eI (sp_iconst dX9_addsWalker_39 (by decide +kernel) rfl)) <|
  z_ac (j := 27) rfl (z_cS dX9_addsWalker_40 wl_1521 qX9_walkerAt (by decide +kernel) (z_sn rfl rfl) rfl) <|
  z_ac (j := 28) rfl (z_eI (sp_iload_n (q := 2) dX9_addsWalker_43 rfl rfl)) <|
  z_ac (j := 29) rfl (z_eI (sp_iast dX9_addsWalker_44 rfl)) <|
  z_ac (j := 30) rfl (z_eI (sp_aload_n (q := 0) dX9_addsWalker_45 rfl rfl)) <|
  z_ac (j := 31) rfl (z_eI (sp_iload_n (q := 3) dX9_addsWalker_46 rfl rfl)) <|
  z_ac (j := 32) rfl (z_eI (sp_iconst dX9_addsWalker_47 (by decide +kernel) rfl)) <|
  z_ac (j := 33) rfl (z_cS dX9_addsWalker_48 wl_1521 qX9_walkerAt (by decide +kernel) (z_sn rfl rfl) rfl) <|
  z_ac (j := 34) rfl (z_eI (sp_iconst dX9_addsWalker_51 (by decide +kernel) rfl)) <|
  z_ac (j := 35) rfl (z_eI (sp_iast dX9_addsWalker_52 rfl)) <|
  z_ac (j := 36) rfl (z_eI (sp_aload_n (q := 0) dX9_addsWalker_53 rfl rfl)) <|
  z_ac (j := 37) rfl (z_eI (sp_iconst dX9_addsWalker_54 (by decide +kernel) rfl)) <|
  z_ac (j := 38) rfl (z_eI (sp_dup2 dX9_addsWalker_55 rfl)) <|
  z_ac (j := 39) rfl (z_eI (sp_iald dX9_addsWalker_56 rfl)) <|
  z_ac (j := 40) rfl (z_eI (sp_iconst dX9_addsWalker_57 (by decide +kernel) rfl)) <|
  z_ac (j := 41) rfl (z_eI (sp_iadd dX9_addsWalker_58 rfl)) <|
  z_ac (j := 42) rfl (z_eI (sp_iast dX9_addsWalker_59 rfl)) <|
  z_ac (j := 43) rfl (z_eI (sp_iload_n (q := 3) dX9_addsWalker_60 rfl rfl)) <|
  z_ac (j := 44) rfl (z_eR (sr_int dX9_addsWalker_61 rfl)) <| z_an
theorem dX9_load_0 : decode cX9_load 0 = .ok (.aload_n 0, 1) := by decide +kernel
theorem dX9_load_1 : decode cX9_load 1 = .ok (.iconst 0, 1) := by decide +kernel
theorem dX9_load_2 : decode cX9_load 2 = .ok (.putfield 49, 3) := by decide +kernel
theorem dX9_load_5 : decode cX9_load 5 = .ok (.iconst 0, 1) := by decide +kernel
theorem dX9_load_6 : decode cX9_load 6 = .ok (.istore_n 1, 1) := by decide +kernel
theorem dX9_load_7 : decode cX9_load 7 = .ok (.iload_n 1, 1) := by decide +kernel
theorem dX9_load_8 : decode cX9_load 8 = .ok (.sipush 256, 3) := by decide +kernel
theorem dX9_load_11 : decode cX9_load 11 = .ok (.if_icmp .ge 16, 3) := by decide +kernel
theorem dX9_load_14 : decode cX9_load 14 = .ok (.aload_n 0, 1) := by decide +kernel
theorem dX9_load_15 : decode cX9_load 15 = .ok (.getfield 13, 3) := by decide +kernel
theorem dX9_load_18 : decode cX9_load 18 = .ok (.iload_n 1, 1) := by decide +kernel
theorem dX9_load_19 : decode cX9_load 19 = .ok (.iconst 0, 1) := by decide +kernel
theorem dX9_load_20 : decode cX9_load 20 = .ok (.iastore, 1) := by decide +kernel
theorem dX9_load_21 : decode cX9_load 21 = .ok (.iinc 1 1, 3) := by decide +kernel
theorem dX9_load_24 : decode cX9_load 24 = .ok (.goto (-17), 3) := by decide +kernel
theorem dX9_load_27 : decode cX9_load 27 = .ok (.aload_n 0, 1) := by decide +kernel
theorem dX9_load_28 : decode cX9_load 28 = .ok (.iconst 0, 1) := by decide +kernel
theorem dX9_load_29 : decode cX9_load 29 = .ok (.putfield 170, 3) := by decide +kernel
theorem dX9_load_32 : decode cX9_load 32 = .ok (.aload_n 0, 1) := by decide +kernel
theorem dX9_load_33 : decode cX9_load 33 = .ok (.iconst 0, 1) := by decide +kernel
theorem dX9_load_34 : decode cX9_load 34 = .ok (.putfield 203, 3) := by decide +kernel
theorem dX9_load_37 : decode cX9_load 37 = .ok (.aload_n 0, 1) := by decide +kernel
theorem dX9_load_38 : decode cX9_load 38 = .ok (.iconst (-1), 1) := by decide +kernel
theorem dX9_load_39 : decode cX9_load 39 = .ok (.putfield 32, 3) := by decide +kernel
theorem dX9_load_42 : decode cX9_load 42 = .ok (.aload_n 0, 1) := by decide +kernel
theorem dX9_load_43 : decode cX9_load 43 = .ok (.invokevirtual 207, 3) := by decide +kernel
theorem dX9_load_46 : decode cX9_load 46 = .ok (.aload_n 0, 1) := by decide +kernel
theorem dX9_load_47 : decode cX9_load 47 = .ok (.invokevirtual 246, 3) := by decide +kernel
theorem dX9_load_50 : decode cX9_load 50 = .ok (.aload_n 0, 1) := by decide +kernel
theorem dX9_load_51 : decode cX9_load 51 = .ok (.iconst 0, 1) := by decide +kernel
theorem dX9_load_52 : decode cX9_load 52 = .ok (.putfield 164, 3) := by decide +kernel
theorem dX9_load_55 : decode cX9_load 55 = .ok (.aload_n 0, 1) := by decide +kernel
theorem dX9_load_56 : decode cX9_load 56 = .ok (.getfield 203, 3) := by decide +kernel
theorem dX9_load_59 : decode cX9_load 59 = .ok (.ifCond .eq 9, 3) := by decide +kernel
theorem dX9_load_62 : decode cX9_load 62 = .ok (.aload_n 0, 1) := by decide +kernel
theorem dX9_load_63 : decode cX9_load 63 = .ok (.iconst 1, 1) := by decide +kernel
theorem dX9_load_64 : decode cX9_load 64 = .ok (.invokevirtual 167, 3) := by decide +kernel
theorem dX9_load_67 : decode cX9_load 67 = .ok (.ireturn, 1) := by decide +kernel
theorem dX9_load_68 : decode cX9_load 68 = .ok (.aload_n 0, 1) := by decide +kernel
theorem dX9_load_69 : decode cX9_load 69 = .ok (.getfield 13, 3) := by decide +kernel
theorem dX9_load_72 : decode cX9_load 72 = .ok (.iconst 0, 1) := by decide +kernel
theorem dX9_load_73 : decode cX9_load 73 = .ok (.aload_n 0, 1) := by decide +kernel
theorem dX9_load_74 : decode cX9_load 74 = .ok (.getfield 7, 3) := by decide +kernel
theorem dX9_load_77 : decode cX9_load 77 = .ok (.iconst 0, 1) := by decide +kernel
theorem dX9_load_78 : decode cX9_load 78 = .ok (.invokestatic 52, 3) := by decide +kernel
theorem dX9_load_81 : decode cX9_load 81 = .ok (.aload_n 0, 1) := by decide +kernel
theorem dX9_load_82 : decode cX9_load 82 = .ok (.iconst 0, 1) := by decide +kernel
theorem dX9_load_83 : decode cX9_load 83 = .ok (.putfield 249, 3) := by decide +kernel
theorem dX9_load_86 : decode cX9_load 86 = .ok (.iconst 0, 1) := by decide +kernel
theorem dX9_load_87 : decode cX9_load 87 = .ok (.istore_n 1, 1) := by decide +kernel
theorem dX9_load_88 : decode cX9_load 88 = .ok (.iload_n 1, 1) := by decide +kernel
theorem dX9_load_89 : decode cX9_load 89 = .ok (.iconst 2, 1) := by decide +kernel
theorem dX9_load_90 : decode cX9_load 90 = .ok (.if_icmp .ge 16, 3) := by decide +kernel
theorem dX9_load_93 : decode cX9_load 93 = .ok (.aload_n 0, 1) := by decide +kernel
theorem dX9_load_94 : decode cX9_load 94 = .ok (.getfield 25, 3) := by decide +kernel
theorem dX9_load_97 : decode cX9_load 97 = .ok (.iload_n 1, 1) := by decide +kernel
theorem dX9_load_98 : decode cX9_load 98 = .ok (.iconst 0, 1) := by decide +kernel
theorem dX9_load_99 : decode cX9_load 99 = .ok (.bastore, 1) := by decide +kernel
theorem dX9_load_100 : decode cX9_load 100 = .ok (.iinc 1 1, 3) := by decide +kernel
theorem dX9_load_103 : decode cX9_load 103 = .ok (.goto (-15), 3) := by decide +kernel
theorem dX9_load_106 : decode cX9_load 106 = .ok (.aload_n 0, 1) := by decide +kernel
theorem dX9_load_107 : decode cX9_load 107 = .ok (.getfield 7, 3) := by decide +kernel
theorem dX9_load_110 : decode cX9_load 110 = .ok (.iconst 5, 1) := by decide +kernel
theorem dX9_load_111 : decode cX9_load 111 = .ok (.iaload, 1) := by decide +kernel
theorem dX9_load_112 : decode cX9_load 112 = .ok (.ireturn, 1) := by decide +kernel
theorem tX9_load {L : Nat} {xs : Nat → Int32} {N : Nat} : z_AllE (zE L xs N 62) 0 (kX9_load N) :=
  z_ac (j := 1) rfl (z_eI (sp_aload_n (q := 0) dX9_load_0 rfl rfl)) <|
  z_ac (j := 2) rfl (z_eI (sp_iconst dX9_load_1 (by decide +kernel) rfl)) <|
  z_ac (j := 3) rfl (z_eI (sp_putI (C := RX9) (T := TX9) (Nf := 23) dX9_load_2 rfl inX9 tyX9_ok nmX9 (by decide) wf_1356 rfl (by decide +kernel) rfl)) <|
  z_ac (j := 4) rfl (z_eI (sp_iconst dX9_load_5 (by decide +kernel) rfl)) <|
  z_ac (j := 5) rfl (z_eI (sp_istore_n (q := 1) dX9_load_6 rfl (by decide) (fun _ _ => rfl) rfl)) <|
  z_ac (j := 6) rfl (z_eI (sp_iload_n (q := 1) dX9_load_7 rfl rfl)) <|
  z_ac (j := 7) rfl (z_eI (sp_sipush dX9_load_8 (by decide +kernel) rfl)) <|
  z_ac (j := 8) rfl (z_eI (sp_icmp_ge dX9_load_11 rfl rfl)) <|
  z_ac (j := 9) rfl (z_eI (sp_aload_n (q := 0) dX9_load_14 rfl rfl)) <|
  z_ac (j := 10) rfl (z_eI (sp_getf (C := RX9) (T := TX9) (Nf := 23) dX9_load_15 rfl inX9 (by decide) wf_1347 rfl)) <|
  z_ac (j := 11) rfl (z_eI (sp_iload_n (q := 1) dX9_load_18 rfl rfl)) <|
  z_ac (j := 12) rfl (z_eI (sp_iconst dX9_load_19 (by decide +kernel) rfl)) <|
  z_ac (j := 13) rfl (z_eI (sp_iast dX9_load_20 rfl)) <|
  z_ac (j := 14) rfl (z_eI (sp_iinc dX9_load_21 (by decide +kernel) (by decide) (fun _ _ => rfl) rfl)) <|
  z_ac (j := 15) rfl (z_eI (sp_goto dX9_load_24 rfl)) <|
  z_ac (j := 16) rfl (z_eI (sp_aload_n (q := 0) dX9_load_27 rfl rfl)) <|
  z_ac (j := 17) rfl (z_eI (sp_iconst dX9_load_28 (by decide +kernel) rfl)) <|
  z_ac (j := 18) rfl (z_eI (sp_putI (C := RX9) (T := TX9) (Nf := 23) dX9_load_29 rfl inX9 tyX9_ok nmX9 (by decide) wf_1361 rfl (by decide +kernel) rfl)) <|
  z_ac (j := 19) rfl (z_eI (sp_aload_n (q := 0) dX9_load_32 rfl rfl)) <|
  z_ac (j := 20) rfl (z_eI (sp_iconst dX9_load_33 (by decide +kernel) rfl)) <|
  z_ac (j := 21) rfl (z_eI (sp_putZ (C := RX9) (T := TX9) (Nf := 23) dX9_load_34 rfl inX9 tyX9_ok nmX9 (by decide) wf_1366 rfl (by decide +kernel) rfl)) <|
  z_ac (j := 22) rfl (z_eI (sp_aload_n (q := 0) dX9_load_37 rfl rfl)) <|
  z_ac (j := 23) rfl (z_eI (sp_iconst dX9_load_38 (by decide +kernel) rfl)) <|
  z_ac (j := 24) rfl (z_eI (sp_putI (C := RX9) (T := TX9) (Nf := 23) dX9_load_39 rfl inX9 tyX9_ok nmX9 (by decide) wf_1355 rfl (by decide +kernel) rfl)) <|
  z_ac (j := 25) rfl (z_eI (sp_aload_n (q := 0) dX9_load_42 rfl rfl)) <|
  z_ac (j := 26) rfl (z_cV dX9_load_43 wl_1439 qX9_next (by decide +kernel) ⟨_, _, rfl⟩ (z_sn rfl rfl) rfl) <|
  z_ac (j := 27) rfl (z_eI (sp_aload_n (q := 0) dX9_load_46 rfl rfl)) <|
  z_ac (j := 28) rfl (z_cV dX9_load_47 wl_1461 qX9_readText (by decide +kernel) ⟨_, _, rfl⟩ (z_sn rfl rfl) rfl) <|
  z_ac (j := 29) rfl (z_eI (sp_aload_n (q := 0) dX9_load_50 rfl rfl)) <|
  z_ac (j := 30) rfl (z_eI (sp_iconst dX9_load_51 (by decide +kernel) rfl)) <|
  z_ac (j := 31) rfl (z_eI (sp_putI (C := RX9) (T := TX9) (Nf := 23) dX9_load_52 rfl inX9 tyX9_ok nmX9 (by decide) wf_1354 rfl (by decide +kernel) rfl)) <|
  z_ac (j := 32) rfl (z_eI (sp_aload_n (q := 0) dX9_load_55 rfl rfl)) <|
  z_ac (j := 33) rfl (z_eI (sp_getf (C := RX9) (T := TX9) (Nf := 23) dX9_load_56 rfl inX9 (by decide) wf_1366 rfl)) <|
  z_ac (j := 34) rfl (z_eI (sp_if_eq dX9_load_59 rfl rfl)) <|
  z_ac (j := 35) rfl (z_eI (sp_aload_n (q := 0) dX9_load_62 rfl rfl)) <|
  z_ac (j := 36) rfl (z_eI (sp_iconst dX9_load_63 (by decide +kernel) rfl)) <|
  z_ac (j := 37) rfl (z_cV dX9_load_64 wl_1424 qX9_fails (by decide +kernel) ⟨_, _, rfl⟩ (z_sn rfl rfl) rfl) <|
  z_ac (j := 38) rfl (z_eR (sr_int dX9_load_67 rfl)) <|
  z_ac (j := 39) rfl (z_eI (sp_aload_n (q := 0) dX9_load_68 rfl rfl)) <|
  z_ac (j := 40) rfl (z_eI (sp_getf (C := RX9) (T := TX9) (Nf := 23) dX9_load_69 rfl inX9 (by decide) wf_1347 rfl)) <|
  z_ac (j := 41) rfl (z_eI (sp_iconst dX9_load_72 (by decide +kernel) rfl)) <|
  z_ac (j := 42) rfl (z_eI (sp_aload_n (q := 0) dX9_load_73 rfl rfl)) <|
  z_ac (j := 43) rfl (z_eI (sp_getf (C := RX9) (T := TX9) (Nf := 23) dX9_load_74 rfl inX9 (by decide) wf_1346 rfl)) <|
  z_ac (j := 44) rfl (z_eI (sp_iconst dX9_load_77 (by decide +kernel) rfl)) <|
  z_ac (j := 45) rfl (z_cS dX9_load_78 wl_1524 qX9_layRow (by decide +kernel) (z_sn rfl rfl) rfl) <|
  z_ac (j := 46) rfl (z_eI (sp_aload_n (q := 0) dX9_load_81 rfl rfl)) <|
  z_ac (j := 47) rfl (z_eI (sp_iconst dX9_load_82 (by decide +kernel) rfl)) <|
  z_ac (j := 48) rfl (z_eI (sp_putI (C := RX9) (T := TX9) (Nf := 23) dX9_load_83 rfl inX9 tyX9_ok nmX9 (by decide) wf_1352 rfl (by decide +kernel) rfl)) <|
  z_ac (j := 49) rfl (z_eI (sp_iconst dX9_load_86 (by decide +kernel) rfl)) <|
  z_ac (j := 50) rfl (z_eI (sp_istore_n (q := 1) dX9_load_87 rfl (by decide) (fun _ _ => rfl) rfl)) <|
  z_ac (j := 51) rfl (z_eI (sp_iload_n (q := 1) dX9_load_88 rfl rfl)) <|
  z_ac (j := 52) rfl (z_eI (sp_iconst dX9_load_89 (by decide +kernel) rfl)) <|
  z_ac (j := 53) rfl (z_eI (sp_icmp_ge dX9_load_90 rfl rfl)) <|
  z_ac (j := 54) rfl (z_eI (sp_aload_n (q := 0) dX9_load_93 rfl rfl)) <|
  z_ac (j := 55) rfl (z_eI (sp_getf (C := RX9) (T := TX9) (Nf := 23) dX9_load_94 rfl inX9 (by decide) wf_1351 rfl)) <|
  z_ac (j := 56) rfl (z_eI (sp_iload_n (q := 1) dX9_load_97 rfl rfl)) <|
  z_ac (j := 57) rfl (z_eI (sp_iconst dX9_load_98 (by decide +kernel) rfl)) <|
  z_ac (j := 58) rfl (z_eI (sp_zast dX9_load_99 rfl)) <|
  z_ac (j := 59) rfl (z_eI (sp_iinc dX9_load_100 (by decide +kernel) (by decide) (fun _ _ => rfl) rfl)) <|
  z_ac (j := 60) rfl (z_eI (sp_goto dX9_load_103 rfl)) <|
  z_ac (j := 61) rfl (z_eI (sp_aload_n (q := 0) dX9_load_106 rfl rfl)) <|
  z_ac (j := 62) rfl (z_eI (sp_getf (C := RX9) (T := TX9) (Nf := 23) dX9_load_107 rfl inX9 (by decide) wf_1346 rfl)) <|
  z_ac (j := 63) rfl (z_eI (sp_iconst dX9_load_110 (by decide +kernel) rfl)) <|
  z_ac (j := 64) rfl (z_eI (sp_iald dX9_load_111 rfl)) <|
  z_ac (j := 65) rfl (z_eR (sr_int dX9_load_112 rfl)) <| z_an
theorem dX9_readText_0 : decode cX9_readText 0 = .ok (.aload_n 0, 1) := by decide +kernel
theorem dX9_readText_1 : decode cX9_readText 1 = .ok (.aload_n 0, 1) := by decide +kernel
theorem dX9_readText_2 : decode cX9_readText 2 = .ok (.ldc2_w 252, 3) := by decide +kernel
theorem dX9_readText_5 : decode cX9_readText 5 = .ok (.invokevirtual 219, 3) := by decide +kernel
theorem dX9_readText_8 : decode cX9_readText 8 = .ok (.invokevirtual 210, 3) := by decide +kernel
theorem dX9_readText_11 : decode cX9_readText 11 = .ok (.pop, 1) := by decide +kernel
theorem dX9_readText_12 : decode cX9_readText 12 = .ok (.aload_n 0, 1) := by decide +kernel
theorem dX9_readText_13 : decode cX9_readText 13 = .ok (.getfield 13, 3) := by decide +kernel
theorem dX9_readText_16 : decode cX9_readText 16 = .ok (.iconst 0, 1) := by decide +kernel
theorem dX9_readText_17 : decode cX9_readText 17 = .ok (.aload_n 0, 1) := by decide +kernel
theorem dX9_readText_18 : decode cX9_readText 18 = .ok (.iconst 2, 1) := by decide +kernel
theorem dX9_readText_19 : decode cX9_readText 19 = .ok (.bipush 12, 2) := by decide +kernel
theorem dX9_readText_21 : decode cX9_readText 21 = .ok (.invokevirtual 227, 3) := by decide +kernel
theorem dX9_readText_24 : decode cX9_readText 24 = .ok (.iastore, 1) := by decide +kernel
theorem dX9_readText_25 : decode cX9_readText 25 = .ok (.aload_n 0, 1) := by decide +kernel
theorem dX9_readText_26 : decode cX9_readText 26 = .ok (.getfield 13, 3) := by decide +kernel
theorem dX9_readText_29 : decode cX9_readText 29 = .ok (.iconst 1, 1) := by decide +kernel
theorem dX9_readText_30 : decode cX9_readText 30 = .ok (.aload_n 0, 1) := by decide +kernel
theorem dX9_readText_31 : decode cX9_readText 31 = .ok (.iconst 2, 1) := by decide +kernel
theorem dX9_readText_32 : decode cX9_readText 32 = .ok (.bipush 12, 2) := by decide +kernel
theorem dX9_readText_34 : decode cX9_readText 34 = .ok (.invokevirtual 227, 3) := by decide +kernel
theorem dX9_readText_37 : decode cX9_readText 37 = .ok (.iastore, 1) := by decide +kernel
theorem dX9_readText_38 : decode cX9_readText 38 = .ok (.aload_n 0, 1) := by decide +kernel
theorem dX9_readText_39 : decode cX9_readText 39 = .ok (.aload_n 0, 1) := by decide +kernel
theorem dX9_readText_40 : decode cX9_readText 40 = .ok (.ldc2_w 254, 3) := by decide +kernel
theorem dX9_readText_43 : decode cX9_readText 43 = .ok (.invokevirtual 219, 3) := by decide +kernel
theorem dX9_readText_46 : decode cX9_readText 46 = .ok (.invokevirtual 210, 3) := by decide +kernel
theorem dX9_readText_49 : decode cX9_readText 49 = .ok (.pop, 1) := by decide +kernel
theorem dX9_readText_50 : decode cX9_readText 50 = .ok (.aload_n 0, 1) := by decide +kernel
theorem dX9_readText_51 : decode cX9_readText 51 = .ok (.getfield 13, 3) := by decide +kernel
theorem dX9_readText_54 : decode cX9_readText 54 = .ok (.iconst 2, 1) := by decide +kernel
theorem dX9_readText_55 : decode cX9_readText 55 = .ok (.aload_n 0, 1) := by decide +kernel
theorem dX9_readText_56 : decode cX9_readText 56 = .ok (.iconst 0, 1) := by decide +kernel
theorem dX9_readText_57 : decode cX9_readText 57 = .ok (.bipush 20, 2) := by decide +kernel
theorem dX9_readText_59 : decode cX9_readText 59 = .ok (.invokevirtual 227, 3) := by decide +kernel
theorem dX9_readText_62 : decode cX9_readText 62 = .ok (.iastore, 1) := by decide +kernel
theorem dX9_readText_63 : decode cX9_readText 63 = .ok (.aload_n 0, 1) := by decide +kernel
theorem dX9_readText_64 : decode cX9_readText 64 = .ok (.aload_n 0, 1) := by decide +kernel
theorem dX9_readText_65 : decode cX9_readText 65 = .ok (.getfield 183, 3) := by decide +kernel
theorem dX9_readText_68 : decode cX9_readText 68 = .ok (.iconst 3, 1) := by decide +kernel
theorem dX9_readText_69 : decode cX9_readText 69 = .ok (.if_icmp .ne 7, 3) := by decide +kernel
theorem dX9_readText_72 : decode cX9_readText 72 = .ok (.iconst 1, 1) := by decide +kernel
theorem dX9_readText_73 : decode cX9_readText 73 = .ok (.goto 4, 3) := by decide +kernel
theorem dX9_readText_76 : decode cX9_readText 76 = .ok (.iconst 0, 1) := by decide +kernel
theorem dX9_readText_77 : decode cX9_readText 77 = .ok (.invokevirtual 210, 3) := by decide +kernel
theorem dX9_readText_80 : decode cX9_readText 80 = .ok (.pop, 1) := by decide +kernel
theorem dX9_readText_81 : decode cX9_readText 81 = .ok (.iconst 0, 1) := by decide +kernel
theorem dX9_readText_82 : decode cX9_readText 82 = .ok (.istore_n 1, 1) := by decide +kernel
theorem dX9_readText_83 : decode cX9_readText 83 = .ok (.iload_n 1, 1) := by decide +kernel
theorem dX9_readText_84 : decode cX9_readText 84 = .ok (.aload_n 0, 1) := by decide +kernel
theorem dX9_readText_85 : decode cX9_readText 85 = .ok (.getfield 13, 3) := by decide +kernel
theorem dX9_readText_88 : decode cX9_readText 88 = .ok (.iconst 1, 1) := by decide +kernel
theorem dX9_readText_89 : decode cX9_readText 89 = .ok (.iaload, 1) := by decide +kernel
theorem dX9_readText_90 : decode cX9_readText 90 = .ok (.if_icmp .ge 14, 3) := by decide +kernel
theorem dX9_readText_93 : decode cX9_readText 93 = .ok (.aload_n 0, 1) := by decide +kernel
theorem dX9_readText_94 : decode cX9_readText 94 = .ok (.iload_n 1, 1) := by decide +kernel
theorem dX9_readText_95 : decode cX9_readText 95 = .ok (.invokevirtual 256, 3) := by decide +kernel
theorem dX9_readText_98 : decode cX9_readText 98 = .ok (.iinc 1 1, 3) := by decide +kernel
theorem dX9_readText_101 : decode cX9_readText 101 = .ok (.goto (-18), 3) := by decide +kernel
theorem dX9_readText_104 : decode cX9_readText 104 = .ok (.aload_n 0, 1) := by decide +kernel
theorem dX9_readText_105 : decode cX9_readText 105 = .ok (.getfield 203, 3) := by decide +kernel
theorem dX9_readText_108 : decode cX9_readText 108 = .ok (.ifCond .ne 20, 3) := by decide +kernel
theorem dX9_readText_111 : decode cX9_readText 111 = .ok (.aload_n 0, 1) := by decide +kernel
theorem dX9_readText_112 : decode cX9_readText 112 = .ok (.ldc2_w 260, 3) := by decide +kernel
theorem dX9_readText_115 : decode cX9_readText 115 = .ok (.invokevirtual 219, 3) := by decide +kernel
theorem dX9_readText_118 : decode cX9_readText 118 = .ok (.ifCond .eq 10, 3) := by decide +kernel
theorem dX9_readText_121 : decode cX9_readText 121 = .ok (.aload_n 0, 1) := by decide +kernel
theorem dX9_readText_122 : decode cX9_readText 122 = .ok (.invokevirtual 262, 3) := by decide +kernel
theorem dX9_readText_125 : decode cX9_readText 125 = .ok (.goto (-21), 3) := by decide +kernel
theorem dX9_readText_128 : decode cX9_readText 128 = .ok (.aload_n 0, 1) := by decide +kernel
theorem dX9_readText_129 : decode cX9_readText 129 = .ok (.getfield 203, 3) := by decide +kernel
theorem dX9_readText_132 : decode cX9_readText 132 = .ok (.ifCond .ne 20, 3) := by decide +kernel
theorem dX9_readText_135 : decode cX9_readText 135 = .ok (.aload_n 0, 1) := by decide +kernel
theorem dX9_readText_136 : decode cX9_readText 136 = .ok (.ldc2_w 265, 3) := by decide +kernel
theorem dX9_readText_139 : decode cX9_readText 139 = .ok (.invokevirtual 219, 3) := by decide +kernel
theorem dX9_readText_142 : decode cX9_readText 142 = .ok (.ifCond .eq 10, 3) := by decide +kernel
theorem dX9_readText_145 : decode cX9_readText 145 = .ok (.aload_n 0, 1) := by decide +kernel
theorem dX9_readText_146 : decode cX9_readText 146 = .ok (.invokevirtual 267, 3) := by decide +kernel
theorem dX9_readText_149 : decode cX9_readText 149 = .ok (.goto (-21), 3) := by decide +kernel
theorem dX9_readText_152 : decode cX9_readText 152 = .ok (.aload_n 0, 1) := by decide +kernel
theorem dX9_readText_153 : decode cX9_readText 153 = .ok (.getfield 203, 3) := by decide +kernel
theorem dX9_readText_156 : decode cX9_readText 156 = .ok (.ifCond .ne 20, 3) := by decide +kernel
theorem dX9_readText_159 : decode cX9_readText 159 = .ok (.aload_n 0, 1) := by decide +kernel
theorem dX9_readText_160 : decode cX9_readText 160 = .ok (.ldc2_w 270, 3) := by decide +kernel
theorem dX9_readText_163 : decode cX9_readText 163 = .ok (.invokevirtual 219, 3) := by decide +kernel
theorem dX9_readText_166 : decode cX9_readText 166 = .ok (.ifCond .eq 10, 3) := by decide +kernel
theorem dX9_readText_169 : decode cX9_readText 169 = .ok (.aload_n 0, 1) := by decide +kernel
theorem dX9_readText_170 : decode cX9_readText 170 = .ok (.invokevirtual 272, 3) := by decide +kernel
theorem dX9_readText_173 : decode cX9_readText 173 = .ok (.goto (-21), 3) := by decide +kernel
theorem dX9_readText_176 : decode cX9_readText 176 = .ok (.aload_n 0, 1) := by decide +kernel
theorem dX9_readText_177 : decode cX9_readText 177 = .ok (.getfield 203, 3) := by decide +kernel
theorem dX9_readText_180 : decode cX9_readText 180 = .ok (.ifCond .ne 16, 3) := by decide +kernel
theorem dX9_readText_183 : decode cX9_readText 183 = .ok (.aload_n 0, 1) := by decide +kernel
theorem dX9_readText_184 : decode cX9_readText 184 = .ok (.getfield 183, 3) := by decide +kernel
theorem dX9_readText_187 : decode cX9_readText 187 = .ok (.ifCond .eq 9, 3) := by decide +kernel
theorem dX9_readText_190 : decode cX9_readText 190 = .ok (.aload_n 0, 1) := by decide +kernel
theorem dX9_readText_191 : decode cX9_readText 191 = .ok (.iconst 0, 1) := by decide +kernel
theorem dX9_readText_192 : decode cX9_readText 192 = .ok (.invokevirtual 210, 3) := by decide +kernel
theorem dX9_readText_195 : decode cX9_readText 195 = .ok (.pop, 1) := by decide +kernel
theorem dX9_readText_196 : decode cX9_readText 196 = .ok (.return_, 1) := by decide +kernel
set_option maxRecDepth 10000 in
theorem tX9_readText {L : Nat} {xs : Nat → Int32} {N : Nat} : z_AllE (zE L xs N 63) 0 (kX9_readText N) :=
  z_ac (j := 1) rfl (z_eI (sp_aload_n (q := 0) dX9_readText_0 rfl rfl)) <|
  z_ac (j := 2) rfl (z_eI (sp_aload_n (q := 0) dX9_readText_1 rfl rfl)) <|
  z_ac (j := 3) rfl (z_eI (sp_ldc2 dX9_readText_2 wk_1465 rfl)) <|
  z_ac (j := 4) rfl (z_cV dX9_readText_5 wl_1466 qX9_is (by decide +kernel) ⟨_, _, rfl⟩ (z_sn rfl rfl) rfl) <|
  z_ac (j := 5) rfl (z_cV dX9_readText_8 wl_1470 qX9_takes (by decide +kernel) ⟨_, _, rfl⟩ (z_sn rfl rfl) rfl) <|
  z_ac (j := 6) rfl (z_eI (sp_pop dX9_readText_11 rfl)) <|
  z_ac (j := 7) rfl (z_eI (sp_aload_n (q := 0) dX9_readText_12 rfl rfl)) <|
  z_ac (j := 8) rfl (z_eI (sp_getf (C := RX9) (T := TX9) (Nf := 23) dX9_readText_13 rfl inX9 (by decide) wf_1347 rfl)) <|
  z_ac (j := 9) rfl (z_eI (sp_iconst dX9_readText_16 (by decide +kernel) rfl)) <|
  z_ac (j := 10) rfl (z_eI (sp_aload_n (q := 0) dX9_readText_17 rfl rfl)) <|
  z_ac (j := 11) rfl (z_eI (sp_iconst dX9_readText_18 (by decide +kernel) rfl)) <|
  z_ac (j := 12) rfl (z_eI (sp_bipush dX9_readText_19 (by decide +kernel) rfl)) <|
  z_ac (j := 13) rfl (z_cV dX9_readText_21 wl_1474 qX9_takesNumber (by decide +kernel) ⟨_, _, rfl⟩ (z_sn rfl rfl) rfl) <|
  z_ac (j := 14) rfl (z_eI (sp_iast dX9_readText_24 rfl)) <|
  z_ac (j := 15) rfl (z_eI (sp_aload_n (q := 0) dX9_readText_25 rfl rfl)) <|
  z_ac (j := 16) rfl (z_eI (sp_getf (C := RX9) (T := TX9) (Nf := 23) dX9_readText_26 rfl inX9 (by decide) wf_1347 rfl)) <|
  z_ac (j := 17) rfl (z_eI (sp_iconst dX9_readText_29 (by decide +kernel) rfl)) <|
  z_ac (j := 18) rfl (z_eI (sp_aload_n (q := 0) dX9_readText_30 rfl rfl)) <|
  z_ac (j := 19) rfl (z_eI (sp_iconst dX9_readText_31 (by decide +kernel) rfl)) <|
  z_ac (j := 20) rfl (z_eI (sp_bipush dX9_readText_32 (by decide +kernel) rfl)) <|
  z_ac (j := 21) rfl (z_cV dX9_readText_34 wl_1474 qX9_takesNumber (by decide +kernel) ⟨_, _, rfl⟩ (z_sn rfl rfl) rfl) <|
  z_ac (j := 22) rfl (z_eI (sp_iast dX9_readText_37 rfl)) <|
  z_ac (j := 23) rfl (z_eI (sp_aload_n (q := 0) dX9_readText_38 rfl rfl)) <|
  z_ac (j := 24) rfl (z_eI (sp_aload_n (q := 0) dX9_readText_39 rfl rfl)) <|
  z_ac (j := 25) rfl (z_eI (sp_ldc2 dX9_readText_40 wk_1478 rfl)) <|
  z_ac (j := 26) rfl (z_cV dX9_readText_43 wl_1466 qX9_is (by decide +kernel) ⟨_, _, rfl⟩ (z_sn rfl rfl) rfl) <|
  z_ac (j := 27) rfl (z_cV dX9_readText_46 wl_1470 qX9_takes (by decide +kernel) ⟨_, _, rfl⟩ (z_sn rfl rfl) rfl) <|
  z_ac (j := 28) rfl (z_eI (sp_pop dX9_readText_49 rfl)) <|
  z_ac (j := 29) rfl (z_eI (sp_aload_n (q := 0) dX9_readText_50 rfl rfl)) <|
  z_ac (j := 30) rfl (z_eI (sp_getf (C := RX9) (T := TX9) (Nf := 23) dX9_readText_51 rfl inX9 (by decide) wf_1347 rfl)) <|
  z_ac (j := 31) rfl (z_eI (sp_iconst dX9_readText_54 (by decide +kernel) rfl)) <|
  z_ac (j := 32) rfl (z_eI (sp_aload_n (q := 0) dX9_readText_55 rfl rfl)) <|
  z_ac (j := 33) rfl (z_eI (sp_iconst dX9_readText_56 (by decide +kernel) rfl)) <|
  z_ac (j := 34) rfl (z_eI (sp_bipush dX9_readText_57 (by decide +kernel) rfl)) <|
  z_ac (j := 35) rfl (z_cV dX9_readText_59 wl_1474 qX9_takesNumber (by decide +kernel) ⟨_, _, rfl⟩ (z_sn rfl rfl) rfl) <|
  z_ac (j := 36) rfl (z_eI (sp_iast dX9_readText_62 rfl)) <|
  z_ac (j := 37) rfl (z_eI (sp_aload_n (q := 0) dX9_readText_63 rfl rfl)) <|
  z_ac (j := 38) rfl (z_eI (sp_aload_n (q := 0) dX9_readText_64 rfl rfl)) <|
  z_ac (j := 39) rfl (z_eI (sp_getf (C := RX9) (T := TX9) (Nf := 23) dX9_readText_65 rfl inX9 (by decide) wf_1363 rfl)) <|
  z_ac (j := 40) rfl (z_eI (sp_iconst dX9_readText_68 (by decide +kernel) rfl)) <|
  z_ac (j := 41) rfl (z_eI (sp_icmp_ne dX9_readText_69 rfl rfl)) <|
  z_ac (j := 42) rfl (z_eI (sp_iconst dX9_readText_72 (by decide +kernel) rfl)) <|
  z_ac (j := 43) rfl (z_eI (sp_goto dX9_readText_73 rfl)) <|
  z_ac (j := 44) rfl (z_eI (sp_iconst dX9_readText_76 (by decide +kernel) rfl)) <|
  z_ac (j := 45) rfl (z_cV dX9_readText_77 wl_1470 qX9_takes (by decide +kernel) ⟨_, _, rfl⟩ (z_sn rfl rfl) rfl) <|
  z_ac (j := 46) rfl (z_eI (sp_pop dX9_readText_80 rfl)) <|
  z_ac (j := 47) rfl (z_eI (sp_iconst dX9_readText_81 (by decide +kernel) rfl)) <|
  z_ac (j := 48) rfl (z_eI (sp_istore_n (q := 1) dX9_readText_82 rfl (by decide) (fun _ _ => rfl) rfl)) <|
  z_ac (j := 49) rfl (z_eI (sp_iload_n (q := 1) dX9_readText_83 rfl rfl)) <|
  z_ac (j := 50) rfl (z_eI (sp_aload_n (q := 0) dX9_readText_84 rfl rfl)) <|
  z_ac (j := 51) rfl (z_eI (sp_getf (C := RX9) (T := TX9) (Nf := 23) dX9_readText_85 rfl inX9 (by decide) wf_1347 rfl)) <|
  z_ac (j := 52) rfl (z_eI (sp_iconst dX9_readText_88 (by decide +kernel) rfl)) <|
  z_ac (j := 53) rfl (z_eI (sp_iald dX9_readText_89 rfl)) <|
  z_ac (j := 54) rfl (z_eI (sp_icmp_ge dX9_readText_90 rfl rfl)) <|
  z_ac (j := 55) rfl (z_eI (sp_aload_n (q := 0) dX9_readText_93 rfl rfl)) <|
  z_ac (j := 56) rfl (z_eI (sp_iload_n (q := 1) dX9_readText_94 rfl rfl)) <|
  z_ac (j := 57) rfl (z_cV dX9_readText_95 wl_1479 qX9_readRow (by decide +kernel) ⟨_, _, rfl⟩ (z_sn rfl rfl) rfl) <|
  z_ac (j := 58) rfl (z_eI (sp_iinc dX9_readText_98 (by decide +kernel) (by decide) (fun _ _ => rfl) rfl)) <|
  z_ac (j := 59) rfl (z_eI (sp_goto dX9_readText_101 rfl)) <|
  z_ac (j := 60) rfl (z_eI (sp_aload_n (q := 0) dX9_readText_104 rfl rfl)) <|
  z_ac (j := 61) rfl (z_eI (sp_getf (C := RX9) (T := TX9) (Nf := 23) dX9_readText_105 rfl inX9 (by decide) wf_1366 rfl)) <|
  z_ac (j := 62) rfl (z_eI (sp_if_ne dX9_readText_108 rfl rfl)) <|
  z_ac (j := 63) rfl (z_eI (sp_aload_n (q := 0) dX9_readText_111 rfl rfl)) <|
  z_ac (j := 64) rfl (z_eI (sp_ldc2 dX9_readText_112 wk_1491 rfl)) <|
  z_ac (j := 65) rfl (z_cV dX9_readText_115 wl_1466 qX9_is (by decide +kernel) ⟨_, _, rfl⟩ (z_sn rfl rfl) rfl) <|
  z_ac (j := 66) rfl (z_eI (sp_if_eq dX9_readText_118 rfl rfl)) <|
  z_ac (j := 67) rfl (z_eI (sp_aload_n (q := 0) dX9_readText_121 rfl rfl)) <|
  z_ac (j := 68) rfl (z_cV dX9_readText_122 wl_1492 qX9_readFog (by decide +kernel) ⟨_, _, rfl⟩ (z_sn rfl rfl) rfl) <|
  z_ac (j := 69) rfl (z_eI (sp_goto dX9_readText_125 rfl)) <|
  z_ac (j := 70) rfl (z_eI (sp_aload_n (q := 0) dX9_readText_128 rfl rfl)) <|
  z_ac (j := 71) rfl (z_eI (sp_getf (C := RX9) (T := TX9) (Nf := 23) dX9_readText_129 rfl inX9 (by decide) wf_1366 rfl)) <|
  z_ac (j := 72) rfl (z_eI (sp_if_ne dX9_readText_132 rfl rfl)) <|
  z_ac (j := 73) rfl (z_eI (sp_aload_n (q := 0) dX9_readText_135 rfl rfl)) <|
  z_ac (j := 74) rfl (z_eI (sp_ldc2 dX9_readText_136 wk_1496 rfl)) <|
  z_ac (j := 75) rfl (z_cV dX9_readText_139 wl_1466 qX9_is (by decide +kernel) ⟨_, _, rfl⟩ (z_sn rfl rfl) rfl) <|
  z_ac (j := 76) rfl (z_eI (sp_if_eq dX9_readText_142 rfl rfl)) <|
  z_ac (j := 77) rfl (z_eI (sp_aload_n (q := 0) dX9_readText_145 rfl rfl)) <|
  z_ac (j := 78) rfl (z_cV dX9_readText_146 wl_1497 qX9_readLight (by decide +kernel) ⟨_, _, rfl⟩ (z_sn rfl rfl) rfl) <|
  z_ac (j := 79) rfl (z_eI (sp_goto dX9_readText_149 rfl)) <|
  z_ac (j := 80) rfl (z_eI (sp_aload_n (q := 0) dX9_readText_152 rfl rfl)) <|
  z_ac (j := 81) rfl (z_eI (sp_getf (C := RX9) (T := TX9) (Nf := 23) dX9_readText_153 rfl inX9 (by decide) wf_1366 rfl)) <|
  z_ac (j := 82) rfl (z_eI (sp_if_ne dX9_readText_156 rfl rfl)) <|
  z_ac (j := 83) rfl (z_eI (sp_aload_n (q := 0) dX9_readText_159 rfl rfl)) <|
  z_ac (j := 84) rfl (z_eI (sp_ldc2 dX9_readText_160 wk_1513 rfl)) <|
  z_ac (j := 85) rfl (z_cV dX9_readText_163 wl_1466 qX9_is (by decide +kernel) ⟨_, _, rfl⟩ (z_sn rfl rfl) rfl) <|
  z_ac (j := 86) rfl (z_eI (sp_if_eq dX9_readText_166 rfl rfl)) <|
  z_ac (j := 87) rfl (z_eI (sp_aload_n (q := 0) dX9_readText_169 rfl rfl)) <|
  z_ac (j := 88) rfl (z_cV dX9_readText_170 wl_1514 qX9_readTraveller (by decide +kernel) ⟨_, _, rfl⟩ (z_sn rfl rfl) rfl) <|
  z_ac (j := 89) rfl (z_eI (sp_goto dX9_readText_173 rfl)) <|
  z_ac (j := 90) rfl (z_eI (sp_aload_n (q := 0) dX9_readText_176 rfl rfl)) <|
  z_ac (j := 91) rfl (z_eI (sp_getf (C := RX9) (T := TX9) (Nf := 23) dX9_readText_177 rfl inX9 (by decide) wf_1366 rfl)) <|
  z_ac (j := 92) rfl (z_eI (sp_if_ne dX9_readText_180 rfl rfl)) <|
  z_ac (j := 93) rfl (z_eI (sp_aload_n (q := 0) dX9_readText_183 rfl rfl)) <|
  z_ac (j := 94) rfl (z_eI (sp_getf (C := RX9) (T := TX9) (Nf := 23) dX9_readText_184 rfl inX9 (by decide) wf_1363 rfl)) <|
  z_ac (j := 95) rfl (z_eI (sp_if_eq dX9_readText_187 rfl rfl)) <|
  z_ac (j := 96) rfl (z_eI (sp_aload_n (q := 0) dX9_readText_190 rfl rfl)) <|
  z_ac (j := 97) rfl (z_eI (sp_iconst dX9_readText_191 (by decide +kernel) rfl)) <|
  z_ac (j := 98) rfl (z_cV dX9_readText_192 wl_1470 qX9_takes (by decide +kernel) ⟨_, _, rfl⟩ (z_sn rfl rfl) rfl) <|
  z_ac (j := 99) rfl (z_eI (sp_pop dX9_readText_195 rfl)) <|
  z_ac (j := 100) rfl (z_eW (sv_void dX9_readText_196 rfl)) <| z_an
theorem dX9_hasError_0 : decode cX9_hasError 0 = .ok (.aload_n 0, 1) := by decide +kernel
theorem dX9_hasError_1 : decode cX9_hasError 1 = .ok (.iconst 0, 1) := by decide +kernel
theorem dX9_hasError_2 : decode cX9_hasError 2 = .ok (.putfield 49, 3) := by decide +kernel
theorem dX9_hasError_5 : decode cX9_hasError 5 = .ok (.aload_n 0, 1) := by decide +kernel
theorem dX9_hasError_6 : decode cX9_hasError 6 = .ok (.getfield 32, 3) := by decide +kernel
theorem dX9_hasError_9 : decode cX9_hasError 9 = .ok (.ifCond .lt 7, 3) := by decide +kernel
theorem dX9_hasError_12 : decode cX9_hasError 12 = .ok (.iconst 1, 1) := by decide +kernel
theorem dX9_hasError_13 : decode cX9_hasError 13 = .ok (.goto 4, 3) := by decide +kernel
theorem dX9_hasError_16 : decode cX9_hasError 16 = .ok (.iconst 0, 1) := by decide +kernel
theorem dX9_hasError_17 : decode cX9_hasError 17 = .ok (.ireturn, 1) := by decide +kernel
theorem tX9_hasError {L : Nat} {xs : Nat → Int32} {N : Nat} : z_AllE (zE L xs N 64) 0 (kX9_hasError N) :=
  z_ac (j := 1) rfl (z_eI (sp_aload_n (q := 0) dX9_hasError_0 rfl rfl)) <|
  z_ac (j := 2) rfl (z_eI (sp_iconst dX9_hasError_1 (by decide +kernel) rfl)) <|
  z_ac (j := 3) rfl (z_eI (sp_putI (C := RX9) (T := TX9) (Nf := 23) dX9_hasError_2 rfl inX9 tyX9_ok nmX9 (by decide) wf_1356 rfl (by decide +kernel) rfl)) <|
  z_ac (j := 4) rfl (z_eI (sp_aload_n (q := 0) dX9_hasError_5 rfl rfl)) <|
  z_ac (j := 5) rfl (z_eI (sp_getf (C := RX9) (T := TX9) (Nf := 23) dX9_hasError_6 rfl inX9 (by decide) wf_1355 rfl)) <|
  z_ac (j := 6) rfl (z_eI (sp_if_lt dX9_hasError_9 rfl rfl)) <|
  z_ac (j := 7) rfl (z_eI (sp_iconst dX9_hasError_12 (by decide +kernel) rfl)) <|
  z_ac (j := 8) rfl (z_eI (sp_goto dX9_hasError_13 rfl)) <|
  z_ac (j := 9) rfl (z_eI (sp_iconst dX9_hasError_16 (by decide +kernel) rfl)) <|
  z_ac (j := 10) rfl (z_eR (sr_bool dX9_hasError_17 rfl)) <| z_an
theorem dX9_errorOffset_0 : decode cX9_errorOffset 0 = .ok (.aload_n 0, 1) := by decide +kernel
theorem dX9_errorOffset_1 : decode cX9_errorOffset 1 = .ok (.iconst 0, 1) := by decide +kernel
theorem dX9_errorOffset_2 : decode cX9_errorOffset 2 = .ok (.putfield 49, 3) := by decide +kernel
theorem dX9_errorOffset_5 : decode cX9_errorOffset 5 = .ok (.aload_n 0, 1) := by decide +kernel
theorem dX9_errorOffset_6 : decode cX9_errorOffset 6 = .ok (.getfield 32, 3) := by decide +kernel
theorem dX9_errorOffset_9 : decode cX9_errorOffset 9 = .ok (.ifCond .ge 11, 3) := by decide +kernel
theorem dX9_errorOffset_12 : decode cX9_errorOffset 12 = .ok (.aload_n 0, 1) := by decide +kernel
theorem dX9_errorOffset_13 : decode cX9_errorOffset 13 = .ok (.iconst 1, 1) := by decide +kernel
theorem dX9_errorOffset_14 : decode cX9_errorOffset 14 = .ok (.invokevirtual 167, 3) := by decide +kernel
theorem dX9_errorOffset_17 : decode cX9_errorOffset 17 = .ok (.goto 7, 3) := by decide +kernel
theorem dX9_errorOffset_20 : decode cX9_errorOffset 20 = .ok (.aload_n 0, 1) := by decide +kernel
theorem dX9_errorOffset_21 : decode cX9_errorOffset 21 = .ok (.getfield 32, 3) := by decide +kernel
theorem dX9_errorOffset_24 : decode cX9_errorOffset 24 = .ok (.ireturn, 1) := by decide +kernel
theorem tX9_errorOffset {L : Nat} {xs : Nat → Int32} {N : Nat} : z_AllE (zE L xs N 65) 0 (kX9_errorOffset N) :=
  z_ac (j := 1) rfl (z_eI (sp_aload_n (q := 0) dX9_errorOffset_0 rfl rfl)) <|
  z_ac (j := 2) rfl (z_eI (sp_iconst dX9_errorOffset_1 (by decide +kernel) rfl)) <|
  z_ac (j := 3) rfl (z_eI (sp_putI (C := RX9) (T := TX9) (Nf := 23) dX9_errorOffset_2 rfl inX9 tyX9_ok nmX9 (by decide) wf_1356 rfl (by decide +kernel) rfl)) <|
  z_ac (j := 4) rfl (z_eI (sp_aload_n (q := 0) dX9_errorOffset_5 rfl rfl)) <|
  z_ac (j := 5) rfl (z_eI (sp_getf (C := RX9) (T := TX9) (Nf := 23) dX9_errorOffset_6 rfl inX9 (by decide) wf_1355 rfl)) <|
  z_ac (j := 6) rfl (z_eI (sp_if_ge dX9_errorOffset_9 rfl rfl)) <|
  z_ac (j := 7) rfl (z_eI (sp_aload_n (q := 0) dX9_errorOffset_12 rfl rfl)) <|
  z_ac (j := 8) rfl (z_eI (sp_iconst dX9_errorOffset_13 (by decide +kernel) rfl)) <|
  z_ac (j := 9) rfl (z_cV dX9_errorOffset_14 wl_1424 qX9_fails (by decide +kernel) ⟨_, _, rfl⟩ (z_sn rfl rfl) rfl) <|
  z_ac (j := 10) rfl (z_eI (sp_goto dX9_errorOffset_17 rfl)) <|
  z_ac (j := 11) rfl (z_eI (sp_aload_n (q := 0) dX9_errorOffset_20 rfl rfl)) <|
  z_ac (j := 12) rfl (z_eI (sp_getf (C := RX9) (T := TX9) (Nf := 23) dX9_errorOffset_21 rfl inX9 (by decide) wf_1355 rfl)) <|
  z_ac (j := 13) rfl (z_eR (sr_int dX9_errorOffset_24 rfl)) <| z_an
theorem dX9_width_0 : decode cX9_width 0 = .ok (.aload_n 0, 1) := by decide +kernel
theorem dX9_width_1 : decode cX9_width 1 = .ok (.iconst 0, 1) := by decide +kernel
theorem dX9_width_2 : decode cX9_width 2 = .ok (.putfield 49, 3) := by decide +kernel
theorem dX9_width_5 : decode cX9_width 5 = .ok (.aload_n 0, 1) := by decide +kernel
theorem dX9_width_6 : decode cX9_width 6 = .ok (.getfield 7, 3) := by decide +kernel
theorem dX9_width_9 : decode cX9_width 9 = .ok (.iconst 0, 1) := by decide +kernel
theorem dX9_width_10 : decode cX9_width 10 = .ok (.iaload, 1) := by decide +kernel
theorem dX9_width_11 : decode cX9_width 11 = .ok (.ireturn, 1) := by decide +kernel
theorem tX9_width {L : Nat} {xs : Nat → Int32} {N : Nat} : z_AllE (zE L xs N 66) 0 (kX9_width N) :=
  z_ac (j := 1) rfl (z_eI (sp_aload_n (q := 0) dX9_width_0 rfl rfl)) <|
  z_ac (j := 2) rfl (z_eI (sp_iconst dX9_width_1 (by decide +kernel) rfl)) <|
  z_ac (j := 3) rfl (z_eI (sp_putI (C := RX9) (T := TX9) (Nf := 23) dX9_width_2 rfl inX9 tyX9_ok nmX9 (by decide) wf_1356 rfl (by decide +kernel) rfl)) <|
  z_ac (j := 4) rfl (z_eI (sp_aload_n (q := 0) dX9_width_5 rfl rfl)) <|
  z_ac (j := 5) rfl (z_eI (sp_getf (C := RX9) (T := TX9) (Nf := 23) dX9_width_6 rfl inX9 (by decide) wf_1346 rfl)) <|
  z_ac (j := 6) rfl (z_eI (sp_iconst dX9_width_9 (by decide +kernel) rfl)) <|
  z_ac (j := 7) rfl (z_eI (sp_iald dX9_width_10 rfl)) <|
  z_ac (j := 8) rfl (z_eR (sr_int dX9_width_11 rfl)) <| z_an
theorem dX9_height_0 : decode cX9_height 0 = .ok (.aload_n 0, 1) := by decide +kernel
theorem dX9_height_1 : decode cX9_height 1 = .ok (.iconst 0, 1) := by decide +kernel
theorem dX9_height_2 : decode cX9_height 2 = .ok (.putfield 49, 3) := by decide +kernel
theorem dX9_height_5 : decode cX9_height 5 = .ok (.aload_n 0, 1) := by decide +kernel
theorem dX9_height_6 : decode cX9_height 6 = .ok (.getfield 7, 3) := by decide +kernel
theorem dX9_height_9 : decode cX9_height 9 = .ok (.iconst 1, 1) := by decide +kernel
theorem dX9_height_10 : decode cX9_height 10 = .ok (.iaload, 1) := by decide +kernel
theorem dX9_height_11 : decode cX9_height 11 = .ok (.ireturn, 1) := by decide +kernel
theorem tX9_height {L : Nat} {xs : Nat → Int32} {N : Nat} : z_AllE (zE L xs N 67) 0 (kX9_height N) :=
  z_ac (j := 1) rfl (z_eI (sp_aload_n (q := 0) dX9_height_0 rfl rfl)) <|
  z_ac (j := 2) rfl (z_eI (sp_iconst dX9_height_1 (by decide +kernel) rfl)) <|
  z_ac (j := 3) rfl (z_eI (sp_putI (C := RX9) (T := TX9) (Nf := 23) dX9_height_2 rfl inX9 tyX9_ok nmX9 (by decide) wf_1356 rfl (by decide +kernel) rfl)) <|
  z_ac (j := 4) rfl (z_eI (sp_aload_n (q := 0) dX9_height_5 rfl rfl)) <|
  z_ac (j := 5) rfl (z_eI (sp_getf (C := RX9) (T := TX9) (Nf := 23) dX9_height_6 rfl inX9 (by decide) wf_1346 rfl)) <|
  z_ac (j := 6) rfl (z_eI (sp_iconst dX9_height_9 (by decide +kernel) rfl)) <|
  z_ac (j := 7) rfl (z_eI (sp_iald dX9_height_10 rfl)) <|
  z_ac (j := 8) rfl (z_eR (sr_int dX9_height_11 rfl)) <| z_an
theorem dX9_isWater_0 : decode cX9_isWater 0 = .ok (.aload_n 0, 1) := by decide +kernel
theorem dX9_isWater_1 : decode cX9_isWater 1 = .ok (.iconst 0, 1) := by decide +kernel
theorem dX9_isWater_2 : decode cX9_isWater 2 = .ok (.putfield 49, 3) := by decide +kernel
theorem dX9_isWater_5 : decode cX9_isWater 5 = .ok (.aload_n 0, 1) := by decide +kernel
theorem dX9_isWater_6 : decode cX9_isWater 6 = .ok (.iload_n 1, 1) := by decide +kernel
theorem dX9_isWater_7 : decode cX9_isWater 7 = .ok (.iload_n 2, 1) := by decide +kernel
theorem dX9_isWater_8 : decode cX9_isWater 8 = .ok (.invokevirtual 275, 3) := by decide +kernel
theorem dX9_isWater_11 : decode cX9_isWater 11 = .ok (.ifCond .eq 25, 3) := by decide +kernel
theorem dX9_isWater_14 : decode cX9_isWater 14 = .ok (.aload_n 0, 1) := by decide +kernel
theorem dX9_isWater_15 : decode cX9_isWater 15 = .ok (.getfield 7, 3) := by decide +kernel
theorem dX9_isWater_18 : decode cX9_isWater 18 = .ok (.iload_n 1, 1) := by decide +kernel
theorem dX9_isWater_19 : decode cX9_isWater 19 = .ok (.iload_n 2, 1) := by decide +kernel
theorem dX9_isWater_20 : decode cX9_isWater 20 = .ok (.invokestatic 45, 3) := by decide +kernel
theorem dX9_isWater_23 : decode cX9_isWater 23 = .ok (.iaload, 1) := by decide +kernel
theorem dX9_isWater_24 : decode cX9_isWater 24 = .ok (.iconst 1, 1) := by decide +kernel
theorem dX9_isWater_25 : decode cX9_isWater 25 = .ok (.if_icmp .ne 7, 3) := by decide +kernel
theorem dX9_isWater_28 : decode cX9_isWater 28 = .ok (.iconst 1, 1) := by decide +kernel
theorem dX9_isWater_29 : decode cX9_isWater 29 = .ok (.goto 12, 3) := by decide +kernel
theorem dX9_isWater_32 : decode cX9_isWater 32 = .ok (.iconst 0, 1) := by decide +kernel
theorem dX9_isWater_33 : decode cX9_isWater 33 = .ok (.goto 8, 3) := by decide +kernel
theorem dX9_isWater_36 : decode cX9_isWater 36 = .ok (.aload_n 0, 1) := by decide +kernel
theorem dX9_isWater_37 : decode cX9_isWater 37 = .ok (.iconst 1, 1) := by decide +kernel
theorem dX9_isWater_38 : decode cX9_isWater 38 = .ok (.invokevirtual 278, 3) := by decide +kernel
theorem dX9_isWater_41 : decode cX9_isWater 41 = .ok (.ireturn, 1) := by decide +kernel
theorem tX9_isWater {L : Nat} {xs : Nat → Int32} {N : Nat} : z_AllE (zE L xs N 68) 0 (kX9_isWater N) :=
  z_ac (j := 1) rfl (z_eI (sp_aload_n (q := 0) dX9_isWater_0 rfl rfl)) <|
  z_ac (j := 2) rfl (z_eI (sp_iconst dX9_isWater_1 (by decide +kernel) rfl)) <|
  z_ac (j := 3) rfl (z_eI (sp_putI (C := RX9) (T := TX9) (Nf := 23) dX9_isWater_2 rfl inX9 tyX9_ok nmX9 (by decide) wf_1356 rfl (by decide +kernel) rfl)) <|
  z_ac (j := 4) rfl (z_eI (sp_aload_n (q := 0) dX9_isWater_5 rfl rfl)) <|
  z_ac (j := 5) rfl (z_eI (sp_iload_n (q := 1) dX9_isWater_6 rfl rfl)) <|
  z_ac (j := 6) rfl (z_eI (sp_iload_n (q := 2) dX9_isWater_7 rfl rfl)) <|
  z_ac (j := 7) rfl (z_cV dX9_isWater_8 wl_1547 qX9_isCell (by decide +kernel) ⟨_, _, rfl⟩ (z_sn rfl rfl) rfl) <|
  z_ac (j := 8) rfl (z_eI (sp_if_eq dX9_isWater_11 rfl rfl)) <|
  z_ac (j := 9) rfl (z_eI (sp_aload_n (q := 0) dX9_isWater_14 rfl rfl)) <|
  z_ac (j := 10) rfl (z_eI (sp_getf (C := RX9) (T := TX9) (Nf := 23) dX9_isWater_15 rfl inX9 (by decide) wf_1346 rfl)) <|
  z_ac (j := 11) rfl (z_eI (sp_iload_n (q := 1) dX9_isWater_18 rfl rfl)) <|
  z_ac (j := 12) rfl (z_eI (sp_iload_n (q := 2) dX9_isWater_19 rfl rfl)) <|
  z_ac (j := 13) rfl (z_cS dX9_isWater_20 wl_1343 qX9_cellAt (by decide +kernel) (z_sn rfl rfl) rfl) <|
  z_ac (j := 14) rfl (z_eI (sp_iald dX9_isWater_23 rfl)) <|
  z_ac (j := 15) rfl (z_eI (sp_iconst dX9_isWater_24 (by decide +kernel) rfl)) <|
  z_ac (j := 16) rfl (z_eI (sp_icmp_ne dX9_isWater_25 rfl rfl)) <|
  z_ac (j := 17) rfl (z_eI (sp_iconst dX9_isWater_28 (by decide +kernel) rfl)) <|
  z_ac (j := 18) rfl (z_eI (sp_goto dX9_isWater_29 rfl)) <|
  z_ac (j := 19) rfl (z_eI (sp_iconst dX9_isWater_32 (by decide +kernel) rfl)) <|
  z_ac (j := 20) rfl (z_eI (sp_goto dX9_isWater_33 rfl)) <|
  z_ac (j := 21) rfl (z_eI (sp_aload_n (q := 0) dX9_isWater_36 rfl rfl)) <|
  z_ac (j := 22) rfl (z_eI (sp_iconst dX9_isWater_37 (by decide +kernel) rfl)) <|
  z_ac (j := 23) rfl (z_cV dX9_isWater_38 wl_1554 qX9_isFailed (by decide +kernel) ⟨_, _, rfl⟩ (z_sn rfl rfl) rfl) <|
  z_ac (j := 24) rfl (z_eR (sr_bool dX9_isWater_41 rfl)) <| z_an
theorem dX9_isHut_0 : decode cX9_isHut 0 = .ok (.aload_n 0, 1) := by decide +kernel
theorem dX9_isHut_1 : decode cX9_isHut 1 = .ok (.iconst 0, 1) := by decide +kernel
theorem dX9_isHut_2 : decode cX9_isHut 2 = .ok (.putfield 49, 3) := by decide +kernel
theorem dX9_isHut_5 : decode cX9_isHut 5 = .ok (.aload_n 0, 1) := by decide +kernel
theorem dX9_isHut_6 : decode cX9_isHut 6 = .ok (.iload_n 1, 1) := by decide +kernel
theorem dX9_isHut_7 : decode cX9_isHut 7 = .ok (.iload_n 2, 1) := by decide +kernel
theorem dX9_isHut_8 : decode cX9_isHut 8 = .ok (.invokevirtual 275, 3) := by decide +kernel
theorem dX9_isHut_11 : decode cX9_isHut 11 = .ok (.ifCond .eq 25, 3) := by decide +kernel
theorem dX9_isHut_14 : decode cX9_isHut 14 = .ok (.aload_n 0, 1) := by decide +kernel
theorem dX9_isHut_15 : decode cX9_isHut 15 = .ok (.getfield 7, 3) := by decide +kernel
theorem dX9_isHut_18 : decode cX9_isHut 18 = .ok (.iload_n 1, 1) := by decide +kernel
theorem dX9_isHut_19 : decode cX9_isHut 19 = .ok (.iload_n 2, 1) := by decide +kernel
theorem dX9_isHut_20 : decode cX9_isHut 20 = .ok (.invokestatic 45, 3) := by decide +kernel
theorem dX9_isHut_23 : decode cX9_isHut 23 = .ok (.iaload, 1) := by decide +kernel
theorem dX9_isHut_24 : decode cX9_isHut 24 = .ok (.iconst 2, 1) := by decide +kernel
theorem dX9_isHut_25 : decode cX9_isHut 25 = .ok (.if_icmp .ne 7, 3) := by decide +kernel
theorem dX9_isHut_28 : decode cX9_isHut 28 = .ok (.iconst 1, 1) := by decide +kernel
theorem dX9_isHut_29 : decode cX9_isHut 29 = .ok (.goto 12, 3) := by decide +kernel
theorem dX9_isHut_32 : decode cX9_isHut 32 = .ok (.iconst 0, 1) := by decide +kernel
theorem dX9_isHut_33 : decode cX9_isHut 33 = .ok (.goto 8, 3) := by decide +kernel
theorem dX9_isHut_36 : decode cX9_isHut 36 = .ok (.aload_n 0, 1) := by decide +kernel
theorem dX9_isHut_37 : decode cX9_isHut 37 = .ok (.iconst 1, 1) := by decide +kernel
theorem dX9_isHut_38 : decode cX9_isHut 38 = .ok (.invokevirtual 278, 3) := by decide +kernel
theorem dX9_isHut_41 : decode cX9_isHut 41 = .ok (.ireturn, 1) := by decide +kernel
theorem tX9_isHut {L : Nat} {xs : Nat → Int32} {N : Nat} : z_AllE (zE L xs N 69) 0 (kX9_isHut N) :=
  z_ac (j := 1) rfl (z_eI (sp_aload_n (q := 0) dX9_isHut_0 rfl rfl)) <|
  z_ac (j := 2) rfl (z_eI (sp_iconst dX9_isHut_1 (by decide +kernel) rfl)) <|
  z_ac (j := 3) rfl (z_eI (sp_putI (C := RX9) (T := TX9) (Nf := 23) dX9_isHut_2 rfl inX9 tyX9_ok nmX9 (by decide) wf_1356 rfl (by decide +kernel) rfl)) <|
  z_ac (j := 4) rfl (z_eI (sp_aload_n (q := 0) dX9_isHut_5 rfl rfl)) <|
  z_ac (j := 5) rfl (z_eI (sp_iload_n (q := 1) dX9_isHut_6 rfl rfl)) <|
  z_ac (j := 6) rfl (z_eI (sp_iload_n (q := 2) dX9_isHut_7 rfl rfl)) <|
  z_ac (j := 7) rfl (z_cV dX9_isHut_8 wl_1547 qX9_isCell (by decide +kernel) ⟨_, _, rfl⟩ (z_sn rfl rfl) rfl) <|
  z_ac (j := 8) rfl (z_eI (sp_if_eq dX9_isHut_11 rfl rfl)) <|
  z_ac (j := 9) rfl (z_eI (sp_aload_n (q := 0) dX9_isHut_14 rfl rfl)) <|
  z_ac (j := 10) rfl (z_eI (sp_getf (C := RX9) (T := TX9) (Nf := 23) dX9_isHut_15 rfl inX9 (by decide) wf_1346 rfl)) <|
  z_ac (j := 11) rfl (z_eI (sp_iload_n (q := 1) dX9_isHut_18 rfl rfl)) <|
  z_ac (j := 12) rfl (z_eI (sp_iload_n (q := 2) dX9_isHut_19 rfl rfl)) <|
  z_ac (j := 13) rfl (z_cS dX9_isHut_20 wl_1343 qX9_cellAt (by decide +kernel) (z_sn rfl rfl) rfl) <|
  z_ac (j := 14) rfl (z_eI (sp_iald dX9_isHut_23 rfl)) <|
  z_ac (j := 15) rfl (z_eI (sp_iconst dX9_isHut_24 (by decide +kernel) rfl)) <|
  z_ac (j := 16) rfl (z_eI (sp_icmp_ne dX9_isHut_25 rfl rfl)) <|
  z_ac (j := 17) rfl (z_eI (sp_iconst dX9_isHut_28 (by decide +kernel) rfl)) <|
  z_ac (j := 18) rfl (z_eI (sp_goto dX9_isHut_29 rfl)) <|
  z_ac (j := 19) rfl (z_eI (sp_iconst dX9_isHut_32 (by decide +kernel) rfl)) <|
  z_ac (j := 20) rfl (z_eI (sp_goto dX9_isHut_33 rfl)) <|
  z_ac (j := 21) rfl (z_eI (sp_aload_n (q := 0) dX9_isHut_36 rfl rfl)) <|
  z_ac (j := 22) rfl (z_eI (sp_iconst dX9_isHut_37 (by decide +kernel) rfl)) <|
  z_ac (j := 23) rfl (z_cV dX9_isHut_38 wl_1554 qX9_isFailed (by decide +kernel) ⟨_, _, rfl⟩ (z_sn rfl rfl) rfl) <|
  z_ac (j := 24) rfl (z_eR (sr_bool dX9_isHut_41 rfl)) <| z_an
theorem dX9_isPlank_0 : decode cX9_isPlank 0 = .ok (.aload_n 0, 1) := by decide +kernel
theorem dX9_isPlank_1 : decode cX9_isPlank 1 = .ok (.iconst 0, 1) := by decide +kernel
theorem dX9_isPlank_2 : decode cX9_isPlank 2 = .ok (.putfield 49, 3) := by decide +kernel
theorem dX9_isPlank_5 : decode cX9_isPlank 5 = .ok (.aload_n 0, 1) := by decide +kernel
theorem dX9_isPlank_6 : decode cX9_isPlank 6 = .ok (.iload_n 1, 1) := by decide +kernel
theorem dX9_isPlank_7 : decode cX9_isPlank 7 = .ok (.iload_n 2, 1) := by decide +kernel
theorem dX9_isPlank_8 : decode cX9_isPlank 8 = .ok (.invokevirtual 275, 3) := by decide +kernel
theorem dX9_isPlank_11 : decode cX9_isPlank 11 = .ok (.ifCond .eq 26, 3) := by decide +kernel
theorem dX9_isPlank_14 : decode cX9_isPlank 14 = .ok (.aload_n 0, 1) := by decide +kernel
theorem dX9_isPlank_15 : decode cX9_isPlank 15 = .ok (.getfield 7, 3) := by decide +kernel
theorem dX9_isPlank_18 : decode cX9_isPlank 18 = .ok (.iload_n 1, 1) := by decide +kernel
theorem dX9_isPlank_19 : decode cX9_isPlank 19 = .ok (.iload_n 2, 1) := by decide +kernel
theorem dX9_isPlank_20 : decode cX9_isPlank 20 = .ok (.invokestatic 45, 3) := by decide +kernel
theorem dX9_isPlank_23 : decode cX9_isPlank 23 = .ok (.iaload, 1) := by decide +kernel
theorem dX9_isPlank_24 : decode cX9_isPlank 24 = .ok (.bipush 10, 2) := by decide +kernel
theorem dX9_isPlank_26 : decode cX9_isPlank 26 = .ok (.if_icmp .le 7, 3) := by decide +kernel
theorem dX9_isPlank_29 : decode cX9_isPlank 29 = .ok (.iconst 1, 1) := by decide +kernel
theorem dX9_isPlank_30 : decode cX9_isPlank 30 = .ok (.goto 12, 3) := by decide +kernel
theorem dX9_isPlank_33 : decode cX9_isPlank 33 = .ok (.iconst 0, 1) := by decide +kernel
theorem dX9_isPlank_34 : decode cX9_isPlank 34 = .ok (.goto 8, 3) := by decide +kernel
theorem dX9_isPlank_37 : decode cX9_isPlank 37 = .ok (.aload_n 0, 1) := by decide +kernel
theorem dX9_isPlank_38 : decode cX9_isPlank 38 = .ok (.iconst 1, 1) := by decide +kernel
theorem dX9_isPlank_39 : decode cX9_isPlank 39 = .ok (.invokevirtual 278, 3) := by decide +kernel
theorem dX9_isPlank_42 : decode cX9_isPlank 42 = .ok (.ireturn, 1) := by decide +kernel
theorem tX9_isPlank {L : Nat} {xs : Nat → Int32} {N : Nat} : z_AllE (zE L xs N 70) 0 (kX9_isPlank N) :=
  z_ac (j := 1) rfl (z_eI (sp_aload_n (q := 0) dX9_isPlank_0 rfl rfl)) <|
  z_ac (j := 2) rfl (z_eI (sp_iconst dX9_isPlank_1 (by decide +kernel) rfl)) <|
  z_ac (j := 3) rfl (z_eI (sp_putI (C := RX9) (T := TX9) (Nf := 23) dX9_isPlank_2 rfl inX9 tyX9_ok nmX9 (by decide) wf_1356 rfl (by decide +kernel) rfl)) <|
  z_ac (j := 4) rfl (z_eI (sp_aload_n (q := 0) dX9_isPlank_5 rfl rfl)) <|
  z_ac (j := 5) rfl (z_eI (sp_iload_n (q := 1) dX9_isPlank_6 rfl rfl)) <|
  z_ac (j := 6) rfl (z_eI (sp_iload_n (q := 2) dX9_isPlank_7 rfl rfl)) <|
  z_ac (j := 7) rfl (z_cV dX9_isPlank_8 wl_1547 qX9_isCell (by decide +kernel) ⟨_, _, rfl⟩ (z_sn rfl rfl) rfl) <|
  z_ac (j := 8) rfl (z_eI (sp_if_eq dX9_isPlank_11 rfl rfl)) <|
  z_ac (j := 9) rfl (z_eI (sp_aload_n (q := 0) dX9_isPlank_14 rfl rfl)) <|
  z_ac (j := 10) rfl (z_eI (sp_getf (C := RX9) (T := TX9) (Nf := 23) dX9_isPlank_15 rfl inX9 (by decide) wf_1346 rfl)) <|
  z_ac (j := 11) rfl (z_eI (sp_iload_n (q := 1) dX9_isPlank_18 rfl rfl)) <|
  z_ac (j := 12) rfl (z_eI (sp_iload_n (q := 2) dX9_isPlank_19 rfl rfl)) <|
  z_ac (j := 13) rfl (z_cS dX9_isPlank_20 wl_1343 qX9_cellAt (by decide +kernel) (z_sn rfl rfl) rfl) <|
  z_ac (j := 14) rfl (z_eI (sp_iald dX9_isPlank_23 rfl)) <|
  z_ac (j := 15) rfl (z_eI (sp_bipush dX9_isPlank_24 (by decide +kernel) rfl)) <|
  z_ac (j := 16) rfl (z_eI (sp_icmp_le dX9_isPlank_26 rfl rfl)) <|
  z_ac (j := 17) rfl (z_eI (sp_iconst dX9_isPlank_29 (by decide +kernel) rfl)) <|
  z_ac (j := 18) rfl (z_eI (sp_goto dX9_isPlank_30 rfl)) <|
  z_ac (j := 19) rfl (z_eI (sp_iconst dX9_isPlank_33 (by decide +kernel) rfl)) <|
  z_ac (j := 20) rfl (z_eI (sp_goto dX9_isPlank_34 rfl)) <|
  z_ac (j := 21) rfl (z_eI (sp_aload_n (q := 0) dX9_isPlank_37 rfl rfl)) <|
  z_ac (j := 22) rfl (z_eI (sp_iconst dX9_isPlank_38 (by decide +kernel) rfl)) <|
  z_ac (j := 23) rfl (z_cV dX9_isPlank_39 wl_1554 qX9_isFailed (by decide +kernel) ⟨_, _, rfl⟩ (z_sn rfl rfl) rfl) <|
  z_ac (j := 24) rfl (z_eR (sr_bool dX9_isPlank_42 rfl)) <| z_an
theorem dX9_plankStrength_0 : decode cX9_plankStrength 0 = .ok (.aload_n 0, 1) := by decide +kernel
theorem dX9_plankStrength_1 : decode cX9_plankStrength 1 = .ok (.iconst 0, 1) := by decide +kernel
theorem dX9_plankStrength_2 : decode cX9_plankStrength 2 = .ok (.putfield 49, 3) := by decide +kernel
theorem dX9_plankStrength_5 : decode cX9_plankStrength 5 = .ok (.aload_n 0, 1) := by decide +kernel
theorem dX9_plankStrength_6 : decode cX9_plankStrength 6 = .ok (.iload_n 1, 1) := by decide +kernel
theorem dX9_plankStrength_7 : decode cX9_plankStrength 7 = .ok (.iload_n 2, 1) := by decide +kernel
theorem dX9_plankStrength_8 : decode cX9_plankStrength 8 = .ok (.invokevirtual 275, 3) := by decide +kernel
theorem dX9_plankStrength_11 : decode cX9_plankStrength 11 = .ok (.ifCond .ne 9, 3) := by decide +kernel
theorem dX9_plankStrength_14 : decode cX9_plankStrength 14 = .ok (.aload_n 0, 1) := by decide +kernel
theorem dX9_plankStrength_15 : decode cX9_plankStrength 15 = .ok (.iconst 1, 1) := by decide +kernel
theorem dX9_plankStrength_16 : decode cX9_plankStrength 16 = .ok (.invokevirtual 167, 3) := by decide +kernel
theorem dX9_plankStrength_19 : decode cX9_plankStrength 19 = .ok (.ireturn, 1) := by decide +kernel
theorem dX9_plankStrength_20 : decode cX9_plankStrength 20 = .ok (.aload_n 0, 1) := by decide +kernel
theorem dX9_plankStrength_21 : decode cX9_plankStrength 21 = .ok (.getfield 7, 3) := by decide +kernel
theorem dX9_plankStrength_24 : decode cX9_plankStrength 24 = .ok (.iload_n 1, 1) := by decide +kernel
theorem dX9_plankStrength_25 : decode cX9_plankStrength 25 = .ok (.iload_n 2, 1) := by decide +kernel
theorem dX9_plankStrength_26 : decode cX9_plankStrength 26 = .ok (.invokestatic 45, 3) := by decide +kernel
theorem dX9_plankStrength_29 : decode cX9_plankStrength 29 = .ok (.iaload, 1) := by decide +kernel
theorem dX9_plankStrength_30 : decode cX9_plankStrength 30 = .ok (.bipush 10, 2) := by decide +kernel
theorem dX9_plankStrength_32 : decode cX9_plankStrength 32 = .ok (.if_icmp .le 19, 3) := by decide +kernel
theorem dX9_plankStrength_35 : decode cX9_plankStrength 35 = .ok (.aload_n 0, 1) := by decide +kernel
theorem dX9_plankStrength_36 : decode cX9_plankStrength 36 = .ok (.getfield 7, 3) := by decide +kernel
theorem dX9_plankStrength_39 : decode cX9_plankStrength 39 = .ok (.iload_n 1, 1) := by decide +kernel
theorem dX9_plankStrength_40 : decode cX9_plankStrength 40 = .ok (.iload_n 2, 1) := by decide +kernel
theorem dX9_plankStrength_41 : decode cX9_plankStrength 41 = .ok (.invokestatic 45, 3) := by decide +kernel
theorem dX9_plankStrength_44 : decode cX9_plankStrength 44 = .ok (.iaload, 1) := by decide +kernel
theorem dX9_plankStrength_45 : decode cX9_plankStrength 45 = .ok (.bipush 10, 2) := by decide +kernel
theorem dX9_plankStrength_47 : decode cX9_plankStrength 47 = .ok (.isub, 1) := by decide +kernel
theorem dX9_plankStrength_48 : decode cX9_plankStrength 48 = .ok (.goto 8, 3) := by decide +kernel
theorem dX9_plankStrength_51 : decode cX9_plankStrength 51 = .ok (.aload_n 0, 1) := by decide +kernel
theorem dX9_plankStrength_52 : decode cX9_plankStrength 52 = .ok (.iconst 2, 1) := by decide +kernel
theorem dX9_plankStrength_53 : decode cX9_plankStrength 53 = .ok (.invokevirtual 167, 3) := by decide +kernel
theorem dX9_plankStrength_56 : decode cX9_plankStrength 56 = .ok (.ireturn, 1) := by decide +kernel
theorem tX9_plankStrength {L : Nat} {xs : Nat → Int32} {N : Nat} : z_AllE (zE L xs N 71) 0 (kX9_plankStrength N) :=
  z_ac (j := 1) rfl (z_eI (sp_aload_n (q := 0) dX9_plankStrength_0 rfl rfl)) <|
  z_ac (j := 2) rfl (z_eI (sp_iconst dX9_plankStrength_1 (by decide +kernel) rfl)) <|
  z_ac (j := 3) rfl (z_eI (sp_putI (C := RX9) (T := TX9) (Nf := 23) dX9_plankStrength_2 rfl inX9 tyX9_ok nmX9 (by decide) wf_1356 rfl (by decide +kernel) rfl)) <|
  z_ac (j := 4) rfl (z_eI (sp_aload_n (q := 0) dX9_plankStrength_5 rfl rfl)) <|
  z_ac (j := 5) rfl (z_eI (sp_iload_n (q := 1) dX9_plankStrength_6 rfl rfl)) <|
  z_ac (j := 6) rfl (z_eI (sp_iload_n (q := 2) dX9_plankStrength_7 rfl rfl)) <|
  z_ac (j := 7) rfl (z_cV dX9_plankStrength_8 wl_1547 qX9_isCell (by decide +kernel) ⟨_, _, rfl⟩ (z_sn rfl rfl) rfl) <|
  z_ac (j := 8) rfl (z_eI (sp_if_ne dX9_plankStrength_11 rfl rfl)) <|
  z_ac (j := 9) rfl (z_eI (sp_aload_n (q := 0) dX9_plankStrength_14 rfl rfl)) <|
  z_ac (j := 10) rfl (z_eI (sp_iconst dX9_plankStrength_15 (by decide +kernel) rfl)) <|
  z_ac (j := 11) rfl (z_cV dX9_plankStrength_16 wl_1424 qX9_fails (by decide +kernel) ⟨_, _, rfl⟩ (z_sn rfl rfl) rfl) <|
  z_ac (j := 12) rfl (z_eR (sr_int dX9_plankStrength_19 rfl)) <|
  z_ac (j := 13) rfl (z_eI (sp_aload_n (q := 0) dX9_plankStrength_20 rfl rfl)) <|
  z_ac (j := 14) rfl (z_eI (sp_getf (C := RX9) (T := TX9) (Nf := 23) dX9_plankStrength_21 rfl inX9 (by decide) wf_1346 rfl)) <|
  z_ac (j := 15) rfl (z_eI (sp_iload_n (q := 1) dX9_plankStrength_24 rfl rfl)) <|
  z_ac (j := 16) rfl (z_eI (sp_iload_n (q := 2) dX9_plankStrength_25 rfl rfl)) <|
  z_ac (j := 17) rfl (z_cS dX9_plankStrength_26 wl_1343 qX9_cellAt (by decide +kernel) (z_sn rfl rfl) rfl) <|
  z_ac (j := 18) rfl (z_eI (sp_iald dX9_plankStrength_29 rfl)) <|
  z_ac (j := 19) rfl (z_eI (sp_bipush dX9_plankStrength_30 (by decide +kernel) rfl)) <|
  z_ac (j := 20) rfl (z_eI (sp_icmp_le dX9_plankStrength_32 rfl rfl)) <|
  z_ac (j := 21) rfl (z_eI (sp_aload_n (q := 0) dX9_plankStrength_35 rfl rfl)) <|
  z_ac (j := 22) rfl (z_eI (sp_getf (C := RX9) (T := TX9) (Nf := 23) dX9_plankStrength_36 rfl inX9 (by decide) wf_1346 rfl)) <|
  z_ac (j := 23) rfl (z_eI (sp_iload_n (q := 1) dX9_plankStrength_39 rfl rfl)) <|
  z_ac (j := 24) rfl (z_eI (sp_iload_n (q := 2) dX9_plankStrength_40 rfl rfl)) <|
  z_ac (j := 25) rfl (z_cS dX9_plankStrength_41 wl_1343 qX9_cellAt (by decide +kernel) (z_sn rfl rfl) rfl) <|
  z_ac (j := 26) rfl (z_eI (sp_iald dX9_plankStrength_44 rfl)) <|
  z_ac (j := 27) rfl (z_eI (sp_bipush dX9_plankStrength_45 (by decide +kernel) rfl)) <|
  z_ac (j := 28) rfl (z_eI (sp_isub dX9_plankStrength_47 rfl)) <|
  z_ac (j := 29) rfl (z_eI (sp_goto dX9_plankStrength_48 rfl)) <|
  z_ac (j := 30) rfl (z_eI (sp_aload_n (q := 0) dX9_plankStrength_51 rfl rfl)) <|
  z_ac (j := 31) rfl (z_eI (sp_iconst dX9_plankStrength_52 (by decide +kernel) rfl)) <|
  z_ac (j := 32) rfl (z_cV dX9_plankStrength_53 wl_1424 qX9_fails (by decide +kernel) ⟨_, _, rfl⟩ (z_sn rfl rfl) rfl) <|
  z_ac (j := 33) rfl (z_eR (sr_int dX9_plankStrength_56 rfl)) <| z_an
theorem dX9_planks_0 : decode cX9_planks 0 = .ok (.iconst 0, 1) := by decide +kernel
theorem dX9_planks_1 : decode cX9_planks 1 = .ok (.istore_n 1, 1) := by decide +kernel
theorem dX9_planks_2 : decode cX9_planks 2 = .ok (.iconst 0, 1) := by decide +kernel
theorem dX9_planks_3 : decode cX9_planks 3 = .ok (.istore_n 2, 1) := by decide +kernel
theorem dX9_planks_4 : decode cX9_planks 4 = .ok (.iload_n 2, 1) := by decide +kernel
theorem dX9_planks_5 : decode cX9_planks 5 = .ok (.aload_n 0, 1) := by decide +kernel
theorem dX9_planks_6 : decode cX9_planks 6 = .ok (.getfield 7, 3) := by decide +kernel
theorem dX9_planks_9 : decode cX9_planks 9 = .ok (.iconst 1, 1) := by decide +kernel
theorem dX9_planks_10 : decode cX9_planks 10 = .ok (.iaload, 1) := by decide +kernel
theorem dX9_planks_11 : decode cX9_planks 11 = .ok (.if_icmp .ge 45, 3) := by decide +kernel
theorem dX9_planks_14 : decode cX9_planks 14 = .ok (.iconst 0, 1) := by decide +kernel
theorem dX9_planks_15 : decode cX9_planks 15 = .ok (.istore_n 3, 1) := by decide +kernel
theorem dX9_planks_16 : decode cX9_planks 16 = .ok (.iload_n 3, 1) := by decide +kernel
theorem dX9_planks_17 : decode cX9_planks 17 = .ok (.aload_n 0, 1) := by decide +kernel
theorem dX9_planks_18 : decode cX9_planks 18 = .ok (.getfield 7, 3) := by decide +kernel
theorem dX9_planks_21 : decode cX9_planks 21 = .ok (.iconst 0, 1) := by decide +kernel
theorem dX9_planks_22 : decode cX9_planks 22 = .ok (.iaload, 1) := by decide +kernel
theorem dX9_planks_23 : decode cX9_planks 23 = .ok (.if_icmp .ge 27, 3) := by decide +kernel
theorem dX9_planks_26 : decode cX9_planks 26 = .ok (.aload_n 0, 1) := by decide +kernel
theorem dX9_planks_27 : decode cX9_planks 27 = .ok (.getfield 7, 3) := by decide +kernel
theorem dX9_planks_30 : decode cX9_planks 30 = .ok (.iload_n 3, 1) := by decide +kernel
theorem dX9_planks_31 : decode cX9_planks 31 = .ok (.iload_n 2, 1) := by decide +kernel
theorem dX9_planks_32 : decode cX9_planks 32 = .ok (.invokestatic 45, 3) := by decide +kernel
theorem dX9_planks_35 : decode cX9_planks 35 = .ok (.iaload, 1) := by decide +kernel
theorem dX9_planks_36 : decode cX9_planks 36 = .ok (.bipush 10, 2) := by decide +kernel
theorem dX9_planks_38 : decode cX9_planks 38 = .ok (.if_icmp .le 6, 3) := by decide +kernel
theorem dX9_planks_41 : decode cX9_planks 41 = .ok (.iinc 1 1, 3) := by decide +kernel
theorem dX9_planks_44 : decode cX9_planks 44 = .ok (.iinc 3 1, 3) := by decide +kernel
theorem dX9_planks_47 : decode cX9_planks 47 = .ok (.goto (-31), 3) := by decide +kernel
theorem dX9_planks_50 : decode cX9_planks 50 = .ok (.iinc 2 1, 3) := by decide +kernel
theorem dX9_planks_53 : decode cX9_planks 53 = .ok (.goto (-49), 3) := by decide +kernel
theorem dX9_planks_56 : decode cX9_planks 56 = .ok (.iload_n 1, 1) := by decide +kernel
theorem dX9_planks_57 : decode cX9_planks 57 = .ok (.ireturn, 1) := by decide +kernel
theorem tX9_planks {L : Nat} {xs : Nat → Int32} {N : Nat} : z_AllE (zE L xs N 72) 0 (kX9_planks N) :=
  z_ac (j := 1) rfl (z_eI (sp_iconst dX9_planks_0 (by decide +kernel) rfl)) <|
  z_ac (j := 2) rfl (z_eI (sp_istore_n (q := 1) dX9_planks_1 rfl (by decide) (fun _ _ => rfl) rfl)) <|
  z_ac (j := 3) rfl (z_eI (sp_iconst dX9_planks_2 (by decide +kernel) rfl)) <|
  z_ac (j := 4) rfl (z_eI (sp_istore_n (q := 2) dX9_planks_3 rfl (by decide) (fun _ _ => rfl) rfl)) <|
  z_ac (j := 5) rfl (z_eI (sp_iload_n (q := 2) dX9_planks_4 rfl rfl)) <|
  z_ac (j := 6) rfl (z_eI (sp_aload_n (q := 0) dX9_planks_5 rfl rfl)) <|
  z_ac (j := 7) rfl (z_eI (sp_getf (C := RX9) (T := TX9) (Nf := 23) dX9_planks_6 rfl inX9 (by decide) wf_1346 rfl)) <|
  z_ac (j := 8) rfl (z_eI (sp_iconst dX9_planks_9 (by decide +kernel) rfl)) <|
  z_ac (j := 9) rfl (z_eI (sp_iald dX9_planks_10 rfl)) <|
  z_ac (j := 10) rfl (z_eI (sp_icmp_ge dX9_planks_11 rfl rfl)) <|
  z_ac (j := 11) rfl (z_eI (sp_iconst dX9_planks_14 (by decide +kernel) rfl)) <|
  z_ac (j := 12) rfl (z_eI (sp_istore_n (q := 3) dX9_planks_15 rfl (by decide) (fun _ _ => rfl) rfl)) <|
  z_ac (j := 13) rfl (z_eI (sp_iload_n (q := 3) dX9_planks_16 rfl rfl)) <|
  z_ac (j := 14) rfl (z_eI (sp_aload_n (q := 0) dX9_planks_17 rfl rfl)) <|
  z_ac (j := 15) rfl (z_eI (sp_getf (C := RX9) (T := TX9) (Nf := 23) dX9_planks_18 rfl inX9 (by decide) wf_1346 rfl)) <|
  z_ac (j := 16) rfl (z_eI (sp_iconst dX9_planks_21 (by decide +kernel) rfl)) <|
  z_ac (j := 17) rfl (z_eI (sp_iald dX9_planks_22 rfl)) <|
  z_ac (j := 18) rfl (z_eI (sp_icmp_ge dX9_planks_23 rfl rfl)) <|
  z_ac (j := 19) rfl (z_eI (sp_aload_n (q := 0) dX9_planks_26 rfl rfl)) <|
  z_ac (j := 20) rfl (z_eI (sp_getf (C := RX9) (T := TX9) (Nf := 23) dX9_planks_27 rfl inX9 (by decide) wf_1346 rfl)) <|
  z_ac (j := 21) rfl (z_eI (sp_iload_n (q := 3) dX9_planks_30 rfl rfl)) <|
  z_ac (j := 22) rfl (z_eI (sp_iload_n (q := 2) dX9_planks_31 rfl rfl)) <|
  z_ac (j := 23) rfl (z_cS dX9_planks_32 wl_1343 qX9_cellAt (by decide +kernel) (z_sn rfl rfl) rfl) <|
  z_ac (j := 24) rfl (z_eI (sp_iald dX9_planks_35 rfl)) <|
  z_ac (j := 25) rfl (z_eI (sp_bipush dX9_planks_36 (by decide +kernel) rfl)) <|
  z_ac (j := 26) rfl (z_eI (sp_icmp_le dX9_planks_38 rfl rfl)) <|
  z_ac (j := 27) rfl (z_eI (sp_iinc dX9_planks_41 (by decide +kernel) (by decide) (fun _ _ => rfl) rfl)) <|
  z_ac (j := 28) rfl (z_eI (sp_iinc dX9_planks_44 (by decide +kernel) (by decide) (fun _ _ => rfl) rfl)) <|
  z_ac (j := 29) rfl (z_eI (sp_goto dX9_planks_47 rfl)) <|
  z_ac (j := 30) rfl (z_eI (sp_iinc dX9_planks_50 (by decide +kernel) (by decide) (fun _ _ => rfl) rfl)) <|
  z_ac (j := 31) rfl (z_eI (sp_goto dX9_planks_53 rfl)) <|
  z_ac (j := 32) rfl (z_eI (sp_iload_n (q := 1) dX9_planks_56 rfl rfl)) <|
  z_ac (j := 33) rfl (z_eR (sr_int dX9_planks_57 rfl)) <| z_an
theorem dX9_plankCount_0 : decode cX9_plankCount 0 = .ok (.aload_n 0, 1) := by decide +kernel
theorem dX9_plankCount_1 : decode cX9_plankCount 1 = .ok (.iconst 0, 1) := by decide +kernel
theorem dX9_plankCount_2 : decode cX9_plankCount 2 = .ok (.putfield 49, 3) := by decide +kernel
theorem dX9_plankCount_5 : decode cX9_plankCount 5 = .ok (.aload_n 0, 1) := by decide +kernel
theorem dX9_plankCount_6 : decode cX9_plankCount 6 = .ok (.invokevirtual 281, 3) := by decide +kernel
theorem dX9_plankCount_9 : decode cX9_plankCount 9 = .ok (.ireturn, 1) := by decide +kernel
theorem tX9_plankCount {L : Nat} {xs : Nat → Int32} {N : Nat} : z_AllE (zE L xs N 73) 0 (kX9_plankCount N) :=
  z_ac (j := 1) rfl (z_eI (sp_aload_n (q := 0) dX9_plankCount_0 rfl rfl)) <|
  z_ac (j := 2) rfl (z_eI (sp_iconst dX9_plankCount_1 (by decide +kernel) rfl)) <|
  z_ac (j := 3) rfl (z_eI (sp_putI (C := RX9) (T := TX9) (Nf := 23) dX9_plankCount_2 rfl inX9 tyX9_ok nmX9 (by decide) wf_1356 rfl (by decide +kernel) rfl)) <|
  z_ac (j := 4) rfl (z_eI (sp_aload_n (q := 0) dX9_plankCount_5 rfl rfl)) <|
  z_ac (j := 5) rfl (z_cV dX9_plankCount_6 wl_1574 qX9_planks (by decide +kernel) ⟨_, _, rfl⟩ (z_sn rfl rfl) rfl) <|
  z_ac (j := 6) rfl (z_eR (sr_int dX9_plankCount_9 rfl)) <| z_an
theorem dX9_pathLength_0 : decode cX9_pathLength 0 = .ok (.aload_n 0, 1) := by decide +kernel
theorem dX9_pathLength_1 : decode cX9_pathLength 1 = .ok (.iconst 0, 1) := by decide +kernel
theorem dX9_pathLength_2 : decode cX9_pathLength 2 = .ok (.putfield 49, 3) := by decide +kernel
theorem dX9_pathLength_5 : decode cX9_pathLength 5 = .ok (.aload_n 0, 1) := by decide +kernel
theorem dX9_pathLength_6 : decode cX9_pathLength 6 = .ok (.iload_n 1, 1) := by decide +kernel
theorem dX9_pathLength_7 : decode cX9_pathLength 7 = .ok (.iload_n 2, 1) := by decide +kernel
theorem dX9_pathLength_8 : decode cX9_pathLength 8 = .ok (.invokevirtual 275, 3) := by decide +kernel
theorem dX9_pathLength_11 : decode cX9_pathLength 11 = .ok (.ifCond .eq 13, 3) := by decide +kernel
theorem dX9_pathLength_14 : decode cX9_pathLength 14 = .ok (.aload_n 0, 1) := by decide +kernel
theorem dX9_pathLength_15 : decode cX9_pathLength 15 = .ok (.iload_n 3, 1) := by decide +kernel
theorem dX9_pathLength_16 : decode cX9_pathLength 16 = .ok (.iload 4, 2) := by decide +kernel
theorem dX9_pathLength_18 : decode cX9_pathLength 18 = .ok (.invokevirtual 275, 3) := by decide +kernel
theorem dX9_pathLength_21 : decode cX9_pathLength 21 = .ok (.ifCond .ne 9, 3) := by decide +kernel
theorem dX9_pathLength_24 : decode cX9_pathLength 24 = .ok (.aload_n 0, 1) := by decide +kernel
theorem dX9_pathLength_25 : decode cX9_pathLength 25 = .ok (.iconst 1, 1) := by decide +kernel
theorem dX9_pathLength_26 : decode cX9_pathLength 26 = .ok (.invokevirtual 167, 3) := by decide +kernel
theorem dX9_pathLength_29 : decode cX9_pathLength 29 = .ok (.ireturn, 1) := by decide +kernel
theorem dX9_pathLength_30 : decode cX9_pathLength 30 = .ok (.aload_n 0, 1) := by decide +kernel
theorem dX9_pathLength_31 : decode cX9_pathLength 31 = .ok (.aload_n 0, 1) := by decide +kernel
theorem dX9_pathLength_32 : decode cX9_pathLength 32 = .ok (.getfield 7, 3) := by decide +kernel
theorem dX9_pathLength_35 : decode cX9_pathLength 35 = .ok (.iload_n 3, 1) := by decide +kernel
theorem dX9_pathLength_36 : decode cX9_pathLength 36 = .ok (.iload 4, 2) := by decide +kernel
theorem dX9_pathLength_38 : decode cX9_pathLength 38 = .ok (.invokevirtual 125, 3) := by decide +kernel
theorem dX9_pathLength_41 : decode cX9_pathLength 41 = .ok (.iload_n 1, 1) := by decide +kernel
theorem dX9_pathLength_42 : decode cX9_pathLength 42 = .ok (.iload_n 3, 1) := by decide +kernel
theorem dX9_pathLength_43 : decode cX9_pathLength 43 = .ok (.if_icmp .ne 13, 3) := by decide +kernel
theorem dX9_pathLength_46 : decode cX9_pathLength 46 = .ok (.iload_n 2, 1) := by decide +kernel
theorem dX9_pathLength_47 : decode cX9_pathLength 47 = .ok (.iload 4, 2) := by decide +kernel
theorem dX9_pathLength_49 : decode cX9_pathLength 49 = .ok (.if_icmp .ne 7, 3) := by decide +kernel
theorem dX9_pathLength_52 : decode cX9_pathLength 52 = .ok (.iconst 0, 1) := by decide +kernel
theorem dX9_pathLength_53 : decode cX9_pathLength 53 = .ok (.goto 32, 3) := by decide +kernel
theorem dX9_pathLength_56 : decode cX9_pathLength 56 = .ok (.aload_n 0, 1) := by decide +kernel
theorem dX9_pathLength_57 : decode cX9_pathLength 57 = .ok (.getfield 7, 3) := by decide +kernel
theorem dX9_pathLength_60 : decode cX9_pathLength 60 = .ok (.iload_n 3, 1) := by decide +kernel
theorem dX9_pathLength_61 : decode cX9_pathLength 61 = .ok (.iload 4, 2) := by decide +kernel
theorem dX9_pathLength_63 : decode cX9_pathLength 63 = .ok (.invokestatic 45, 3) := by decide +kernel
theorem dX9_pathLength_66 : decode cX9_pathLength 66 = .ok (.iaload, 1) := by decide +kernel
theorem dX9_pathLength_67 : decode cX9_pathLength 67 = .ok (.iconst 1, 1) := by decide +kernel
theorem dX9_pathLength_68 : decode cX9_pathLength 68 = .ok (.if_icmp .ne 7, 3) := by decide +kernel
theorem dX9_pathLength_71 : decode cX9_pathLength 71 = .ok (.iconst (-1), 1) := by decide +kernel
theorem dX9_pathLength_72 : decode cX9_pathLength 72 = .ok (.goto 13, 3) := by decide +kernel
theorem dX9_pathLength_75 : decode cX9_pathLength 75 = .ok (.aload_n 0, 1) := by decide +kernel
theorem dX9_pathLength_76 : decode cX9_pathLength 76 = .ok (.aload_n 0, 1) := by decide +kernel
theorem dX9_pathLength_77 : decode cX9_pathLength 77 = .ok (.getfield 7, 3) := by decide +kernel
theorem dX9_pathLength_80 : decode cX9_pathLength 80 = .ok (.iload_n 1, 1) := by decide +kernel
theorem dX9_pathLength_81 : decode cX9_pathLength 81 = .ok (.iload_n 2, 1) := by decide +kernel
theorem dX9_pathLength_82 : decode cX9_pathLength 82 = .ok (.invokevirtual 129, 3) := by decide +kernel
theorem dX9_pathLength_85 : decode cX9_pathLength 85 = .ok (.istore 5, 2) := by decide +kernel
theorem dX9_pathLength_87 : decode cX9_pathLength 87 = .ok (.iload 5, 2) := by decide +kernel
theorem dX9_pathLength_89 : decode cX9_pathLength 89 = .ok (.ifCond .ge 11, 3) := by decide +kernel
theorem dX9_pathLength_92 : decode cX9_pathLength 92 = .ok (.aload_n 0, 1) := by decide +kernel
theorem dX9_pathLength_93 : decode cX9_pathLength 93 = .ok (.iconst 2, 1) := by decide +kernel
theorem dX9_pathLength_94 : decode cX9_pathLength 94 = .ok (.invokevirtual 167, 3) := by decide +kernel
theorem dX9_pathLength_97 : decode cX9_pathLength 97 = .ok (.goto 5, 3) := by decide +kernel
theorem dX9_pathLength_100 : decode cX9_pathLength 100 = .ok (.iload 5, 2) := by decide +kernel
theorem dX9_pathLength_102 : decode cX9_pathLength 102 = .ok (.ireturn, 1) := by decide +kernel
theorem tX9_pathLength {L : Nat} {xs : Nat → Int32} {N : Nat} : z_AllE (zE L xs N 74) 0 (kX9_pathLength N) :=
  z_ac (j := 1) rfl (z_eI (sp_aload_n (q := 0) dX9_pathLength_0 rfl rfl)) <|
  z_ac (j := 2) rfl (z_eI (sp_iconst dX9_pathLength_1 (by decide +kernel) rfl)) <|
  z_ac (j := 3) rfl (z_eI (sp_putI (C := RX9) (T := TX9) (Nf := 23) dX9_pathLength_2 rfl inX9 tyX9_ok nmX9 (by decide) wf_1356 rfl (by decide +kernel) rfl)) <|
  z_ac (j := 4) rfl (z_eI (sp_aload_n (q := 0) dX9_pathLength_5 rfl rfl)) <|
  z_ac (j := 5) rfl (z_eI (sp_iload_n (q := 1) dX9_pathLength_6 rfl rfl)) <|
  z_ac (j := 6) rfl (z_eI (sp_iload_n (q := 2) dX9_pathLength_7 rfl rfl)) <|
  z_ac (j := 7) rfl (z_cV dX9_pathLength_8 wl_1547 qX9_isCell (by decide +kernel) ⟨_, _, rfl⟩ (z_sn rfl rfl) rfl) <|
  z_ac (j := 8) rfl (z_eI (sp_if_eq dX9_pathLength_11 rfl rfl)) <|
  z_ac (j := 9) rfl (z_eI (sp_aload_n (q := 0) dX9_pathLength_14 rfl rfl)) <|
  z_ac (j := 10) rfl (z_eI (sp_iload_n (q := 3) dX9_pathLength_15 rfl rfl)) <|
  z_ac (j := 11) rfl (z_eI (sp_iload dX9_pathLength_16 rfl)) <|
  z_ac (j := 12) rfl (z_cV dX9_pathLength_18 wl_1547 qX9_isCell (by decide +kernel) ⟨_, _, rfl⟩ (z_sn rfl rfl) rfl) <|
  z_ac (j := 13) rfl (z_eI (sp_if_ne dX9_pathLength_21 rfl rfl)) <|
  z_ac (j := 14) rfl (z_eI (sp_aload_n (q := 0) dX9_pathLength_24 rfl rfl)) <|
  z_ac (j := 15) rfl (z_eI (sp_iconst dX9_pathLength_25 (by decide +kernel) rfl)) <|
  z_ac (j := 16) rfl (z_cV dX9_pathLength_26 wl_1424 qX9_fails (by decide +kernel) ⟨_, _, rfl⟩ (z_sn rfl rfl) rfl) <|
  z_ac (j := 17) rfl (z_eR (sr_int dX9_pathLength_29 rfl)) <|
  z_ac (j := 18) rfl (z_eI (sp_aload_n (q := 0) dX9_pathLength_30 rfl rfl)) <|
  z_ac (j := 19) rfl (z_eI (sp_aload_n (q := 0) dX9_pathLength_31 rfl rfl)) <|
  z_ac (j := 20) rfl (z_eI (sp_getf (C := RX9) (T := TX9) (Nf := 23) dX9_pathLength_32 rfl inX9 (by decide) wf_1346 rfl)) <|
  z_ac (j := 21) rfl (z_eI (sp_iload_n (q := 3) dX9_pathLength_35 rfl rfl)) <|
  z_ac (j := 22) rfl (z_eI (sp_iload dX9_pathLength_36 rfl)) <|
  z_ac (j := 23) rfl (z_cV dX9_pathLength_38 wl_1582 qX9_spreadsTo (by decide +kernel) ⟨_, _, rfl⟩ (z_sn rfl rfl) rfl) <|
  z_ac (j := 24) rfl (z_eI (sp_iload_n (q := 1) dX9_pathLength_41 rfl rfl)) <|
  z_ac (j := 25) rfl (z_eI (sp_iload_n (q := 3) dX9_pathLength_42 rfl rfl)) <|
  z_ac (j := 26) rfl (z_eI (sp_icmp_ne dX9_pathLength_43 rfl rfl)) <|
  z_ac (j := 27) rfl (z_eI (sp_iload_n (q := 2) dX9_pathLength_46 rfl rfl)) <|
  z_ac (j := 28) rfl (z_eI (sp_iload dX9_pathLength_47 rfl)) <|
  z_ac (j := 29) rfl (z_eI (sp_icmp_ne dX9_pathLength_49 rfl rfl)) <|
  z_ac (j := 30) rfl (z_eI (sp_iconst dX9_pathLength_52 (by decide +kernel) rfl)) <|
  z_ac (j := 31) rfl (z_eI (sp_goto dX9_pathLength_53 rfl)) <|
  z_ac (j := 32) rfl (z_eI (sp_aload_n (q := 0) dX9_pathLength_56 rfl rfl)) <|
  z_ac (j := 33) rfl (z_eI (sp_getf (C := RX9) (T := TX9) (Nf := 23) dX9_pathLength_57 rfl inX9 (by decide) wf_1346 rfl)) <|
  z_ac (j := 34) rfl (z_eI (sp_iload_n (q := 3) dX9_pathLength_60 rfl rfl)) <|
  z_ac (j := 35) rfl (z_eI (sp_iload dX9_pathLength_61 rfl)) <|
  z_ac (j := 36) rfl (z_cS dX9_pathLength_63 wl_1343 qX9_cellAt (by decide +kernel) (z_sn rfl rfl) rfl) <|
  z_ac (j := 37) rfl (z_eI (sp_iald dX9_pathLength_66 rfl)) <|
  z_ac (j := 38) rfl (z_eI (sp_iconst dX9_pathLength_67 (by decide +kernel) rfl)) <|
  z_ac (j := 39) rfl (z_eI (sp_icmp_ne dX9_pathLength_68 rfl rfl)) <|
  z_ac (j := 40) rfl (z_eI (sp_iconst dX9_pathLength_71 (by decide +kernel) rfl)) <|
  z_ac (j := 41) rfl (z_eI (sp_goto dX9_pathLength_72 rfl)) <|
  z_ac (j := 42) rfl (z_eI (sp_aload_n (q := 0) dX9_pathLength_75 rfl rfl)) <|
  z_ac (j := 43) rfl (z_eI (sp_aload_n (q := 0) dX9_pathLength_76 rfl rfl)) <|
  z_ac (j := 44) rfl (z_eI (sp_getf (C := RX9) (T := TX9) (Nf := 23) dX9_pathLength_77 rfl inX9 (by decide) wf_1346 rfl)) <|
  z_ac (j := 45) rfl (z_eI (sp_iload_n (q := 1) dX9_pathLength_80 rfl rfl)) <|
  z_ac (j := 46) rfl (z_eI (sp_iload_n (q := 2) dX9_pathLength_81 rfl rfl)) <|
  z_ac (j := 47) rfl (z_cV dX9_pathLength_82 wl_1607 qX9_stepsFrom (by decide +kernel) ⟨_, _, rfl⟩ (z_sn rfl rfl) rfl) <|
  z_ac (j := 48) rfl (z_eI (sp_istore dX9_pathLength_85 (by decide) (fun _ _ => rfl) rfl)) <|
  z_ac (j := 49) rfl (z_eI (sp_iload dX9_pathLength_87 rfl)) <|
  z_ac (j := 50) rfl (z_eI (sp_if_ge dX9_pathLength_89 rfl rfl)) <|
  z_ac (j := 51) rfl (z_eI (sp_aload_n (q := 0) dX9_pathLength_92 rfl rfl)) <|
  z_ac (j := 52) rfl (z_eI (sp_iconst dX9_pathLength_93 (by decide +kernel) rfl)) <|
  z_ac (j := 53) rfl (z_cV dX9_pathLength_94 wl_1424 qX9_fails (by decide +kernel) ⟨_, _, rfl⟩ (z_sn rfl rfl) rfl) <|
  z_ac (j := 54) rfl (z_eI (sp_goto dX9_pathLength_97 rfl)) <|
  z_ac (j := 55) rfl (z_eI (sp_iload dX9_pathLength_100 rfl)) <|
  z_ac (j := 56) rfl (z_eR (sr_int dX9_pathLength_102 rfl)) <| z_an
theorem dX9_stepsToHut_0 : decode cX9_stepsToHut 0 = .ok (.aload_n 0, 1) := by decide +kernel
theorem dX9_stepsToHut_1 : decode cX9_stepsToHut 1 = .ok (.iconst 0, 1) := by decide +kernel
theorem dX9_stepsToHut_2 : decode cX9_stepsToHut 2 = .ok (.putfield 49, 3) := by decide +kernel
theorem dX9_stepsToHut_5 : decode cX9_stepsToHut 5 = .ok (.aload_n 0, 1) := by decide +kernel
theorem dX9_stepsToHut_6 : decode cX9_stepsToHut 6 = .ok (.iload_n 1, 1) := by decide +kernel
theorem dX9_stepsToHut_7 : decode cX9_stepsToHut 7 = .ok (.iload_n 2, 1) := by decide +kernel
theorem dX9_stepsToHut_8 : decode cX9_stepsToHut 8 = .ok (.invokevirtual 275, 3) := by decide +kernel
theorem dX9_stepsToHut_11 : decode cX9_stepsToHut 11 = .ok (.ifCond .ne 9, 3) := by decide +kernel
theorem dX9_stepsToHut_14 : decode cX9_stepsToHut 14 = .ok (.aload_n 0, 1) := by decide +kernel
theorem dX9_stepsToHut_15 : decode cX9_stepsToHut 15 = .ok (.iconst 1, 1) := by decide +kernel
theorem dX9_stepsToHut_16 : decode cX9_stepsToHut 16 = .ok (.invokevirtual 167, 3) := by decide +kernel
theorem dX9_stepsToHut_19 : decode cX9_stepsToHut 19 = .ok (.ireturn, 1) := by decide +kernel
theorem dX9_stepsToHut_20 : decode cX9_stepsToHut 20 = .ok (.aload_n 0, 1) := by decide +kernel
theorem dX9_stepsToHut_21 : decode cX9_stepsToHut 21 = .ok (.aload_n 0, 1) := by decide +kernel
theorem dX9_stepsToHut_22 : decode cX9_stepsToHut 22 = .ok (.getfield 7, 3) := by decide +kernel
theorem dX9_stepsToHut_25 : decode cX9_stepsToHut 25 = .ok (.invokevirtual 285, 3) := by decide +kernel
theorem dX9_stepsToHut_28 : decode cX9_stepsToHut 28 = .ok (.aload_n 0, 1) := by decide +kernel
theorem dX9_stepsToHut_29 : decode cX9_stepsToHut 29 = .ok (.aload_n 0, 1) := by decide +kernel
theorem dX9_stepsToHut_30 : decode cX9_stepsToHut 30 = .ok (.getfield 7, 3) := by decide +kernel
theorem dX9_stepsToHut_33 : decode cX9_stepsToHut 33 = .ok (.iload_n 1, 1) := by decide +kernel
theorem dX9_stepsToHut_34 : decode cX9_stepsToHut 34 = .ok (.iload_n 2, 1) := by decide +kernel
theorem dX9_stepsToHut_35 : decode cX9_stepsToHut 35 = .ok (.invokevirtual 129, 3) := by decide +kernel
theorem dX9_stepsToHut_38 : decode cX9_stepsToHut 38 = .ok (.istore_n 3, 1) := by decide +kernel
theorem dX9_stepsToHut_39 : decode cX9_stepsToHut 39 = .ok (.iload_n 3, 1) := by decide +kernel
theorem dX9_stepsToHut_40 : decode cX9_stepsToHut 40 = .ok (.ifCond .ge 11, 3) := by decide +kernel
theorem dX9_stepsToHut_43 : decode cX9_stepsToHut 43 = .ok (.aload_n 0, 1) := by decide +kernel
theorem dX9_stepsToHut_44 : decode cX9_stepsToHut 44 = .ok (.iconst 2, 1) := by decide +kernel
theorem dX9_stepsToHut_45 : decode cX9_stepsToHut 45 = .ok (.invokevirtual 167, 3) := by decide +kernel
theorem dX9_stepsToHut_48 : decode cX9_stepsToHut 48 = .ok (.goto 4, 3) := by decide +kernel
theorem dX9_stepsToHut_51 : decode cX9_stepsToHut 51 = .ok (.iload_n 3, 1) := by decide +kernel
theorem dX9_stepsToHut_52 : decode cX9_stepsToHut 52 = .ok (.ireturn, 1) := by decide +kernel
theorem tX9_stepsToHut {L : Nat} {xs : Nat → Int32} {N : Nat} : z_AllE (zE L xs N 75) 0 (kX9_stepsToHut N) :=
  z_ac (j := 1) rfl (z_eI (sp_aload_n (q := 0) dX9_stepsToHut_0 rfl rfl)) <|
  z_ac (j := 2) rfl (z_eI (sp_iconst dX9_stepsToHut_1 (by decide +kernel) rfl)) <|
  z_ac (j := 3) rfl (z_eI (sp_putI (C := RX9) (T := TX9) (Nf := 23) dX9_stepsToHut_2 rfl inX9 tyX9_ok nmX9 (by decide) wf_1356 rfl (by decide +kernel) rfl)) <|
  z_ac (j := 4) rfl (z_eI (sp_aload_n (q := 0) dX9_stepsToHut_5 rfl rfl)) <|
  z_ac (j := 5) rfl (z_eI (sp_iload_n (q := 1) dX9_stepsToHut_6 rfl rfl)) <|
  z_ac (j := 6) rfl (z_eI (sp_iload_n (q := 2) dX9_stepsToHut_7 rfl rfl)) <|
  z_ac (j := 7) rfl (z_cV dX9_stepsToHut_8 wl_1547 qX9_isCell (by decide +kernel) ⟨_, _, rfl⟩ (z_sn rfl rfl) rfl) <|
  z_ac (j := 8) rfl (z_eI (sp_if_ne dX9_stepsToHut_11 rfl rfl)) <|
  z_ac (j := 9) rfl (z_eI (sp_aload_n (q := 0) dX9_stepsToHut_14 rfl rfl)) <|
  z_ac (j := 10) rfl (z_eI (sp_iconst dX9_stepsToHut_15 (by decide +kernel) rfl)) <|
  z_ac (j := 11) rfl (z_cV dX9_stepsToHut_16 wl_1424 qX9_fails (by decide +kernel) ⟨_, _, rfl⟩ (z_sn rfl rfl) rfl) <|
  z_ac (j := 12) rfl (z_eR (sr_int dX9_stepsToHut_19 rfl)) <|
  z_ac (j := 13) rfl (z_eI (sp_aload_n (q := 0) dX9_stepsToHut_20 rfl rfl)) <|
  z_ac (j := 14) rfl (z_eI (sp_aload_n (q := 0) dX9_stepsToHut_21 rfl rfl)) <|
  z_ac (j := 15) rfl (z_eI (sp_getf (C := RX9) (T := TX9) (Nf := 23) dX9_stepsToHut_22 rfl inX9 (by decide) wf_1346 rfl)) <|
  z_ac (j := 16) rfl (z_cV dX9_stepsToHut_25 wl_1619 qX9_spreadsToHuts (by decide +kernel) ⟨_, _, rfl⟩ (z_sn rfl rfl) rfl) <|
  z_ac (j := 17) rfl (z_eI (sp_aload_n (q := 0) dX9_stepsToHut_28 rfl rfl)) <|
  z_ac (j := 18) rfl (z_eI (sp_aload_n (q := 0) dX9_stepsToHut_29 rfl rfl)) <|
  z_ac (j := 19) rfl (z_eI (sp_getf (C := RX9) (T := TX9) (Nf := 23) dX9_stepsToHut_30 rfl inX9 (by decide) wf_1346 rfl)) <|
  z_ac (j := 20) rfl (z_eI (sp_iload_n (q := 1) dX9_stepsToHut_33 rfl rfl)) <|
  z_ac (j := 21) rfl (z_eI (sp_iload_n (q := 2) dX9_stepsToHut_34 rfl rfl)) <|
  z_ac (j := 22) rfl (z_cV dX9_stepsToHut_35 wl_1607 qX9_stepsFrom (by decide +kernel) ⟨_, _, rfl⟩ (z_sn rfl rfl) rfl) <|
  z_ac (j := 23) rfl (z_eI (sp_istore_n (q := 3) dX9_stepsToHut_38 rfl (by decide) (fun _ _ => rfl) rfl)) <|
  z_ac (j := 24) rfl (z_eI (sp_iload_n (q := 3) dX9_stepsToHut_39 rfl rfl)) <|
  z_ac (j := 25) rfl (z_eI (sp_if_ge dX9_stepsToHut_40 rfl rfl)) <|
  z_ac (j := 26) rfl (z_eI (sp_aload_n (q := 0) dX9_stepsToHut_43 rfl rfl)) <|
  z_ac (j := 27) rfl (z_eI (sp_iconst dX9_stepsToHut_44 (by decide +kernel) rfl)) <|
  z_ac (j := 28) rfl (z_cV dX9_stepsToHut_45 wl_1424 qX9_fails (by decide +kernel) ⟨_, _, rfl⟩ (z_sn rfl rfl) rfl) <|
  z_ac (j := 29) rfl (z_eI (sp_goto dX9_stepsToHut_48 rfl)) <|
  z_ac (j := 30) rfl (z_eI (sp_iload_n (q := 3) dX9_stepsToHut_51 rfl rfl)) <|
  z_ac (j := 31) rfl (z_eR (sr_int dX9_stepsToHut_52 rfl)) <| z_an
theorem dX9_time_0 : decode cX9_time 0 = .ok (.aload_n 0, 1) := by decide +kernel
theorem dX9_time_1 : decode cX9_time 1 = .ok (.iconst 0, 1) := by decide +kernel
theorem dX9_time_2 : decode cX9_time 2 = .ok (.putfield 49, 3) := by decide +kernel
theorem dX9_time_5 : decode cX9_time 5 = .ok (.aload_n 0, 1) := by decide +kernel
theorem dX9_time_6 : decode cX9_time 6 = .ok (.getfield 7, 3) := by decide +kernel
theorem dX9_time_9 : decode cX9_time 9 = .ok (.iconst 3, 1) := by decide +kernel
theorem dX9_time_10 : decode cX9_time 10 = .ok (.iaload, 1) := by decide +kernel
theorem dX9_time_11 : decode cX9_time 11 = .ok (.ireturn, 1) := by decide +kernel
theorem tX9_time {L : Nat} {xs : Nat → Int32} {N : Nat} : z_AllE (zE L xs N 76) 0 (kX9_time N) :=
  z_ac (j := 1) rfl (z_eI (sp_aload_n (q := 0) dX9_time_0 rfl rfl)) <|
  z_ac (j := 2) rfl (z_eI (sp_iconst dX9_time_1 (by decide +kernel) rfl)) <|
  z_ac (j := 3) rfl (z_eI (sp_putI (C := RX9) (T := TX9) (Nf := 23) dX9_time_2 rfl inX9 tyX9_ok nmX9 (by decide) wf_1356 rfl (by decide +kernel) rfl)) <|
  z_ac (j := 4) rfl (z_eI (sp_aload_n (q := 0) dX9_time_5 rfl rfl)) <|
  z_ac (j := 5) rfl (z_eI (sp_getf (C := RX9) (T := TX9) (Nf := 23) dX9_time_6 rfl inX9 (by decide) wf_1346 rfl)) <|
  z_ac (j := 6) rfl (z_eI (sp_iconst dX9_time_9 (by decide +kernel) rfl)) <|
  z_ac (j := 7) rfl (z_eI (sp_iald dX9_time_10 rfl)) <|
  z_ac (j := 8) rfl (z_eR (sr_int dX9_time_11 rfl)) <| z_an
theorem dX9_clearness_0 : decode cX9_clearness 0 = .ok (.aload_n 0, 1) := by decide +kernel
theorem dX9_clearness_1 : decode cX9_clearness 1 = .ok (.iconst 0, 1) := by decide +kernel
theorem dX9_clearness_2 : decode cX9_clearness 2 = .ok (.putfield 49, 3) := by decide +kernel
theorem dX9_clearness_5 : decode cX9_clearness 5 = .ok (.aload_n 0, 1) := by decide +kernel
theorem dX9_clearness_6 : decode cX9_clearness 6 = .ok (.getfield 7, 3) := by decide +kernel
theorem dX9_clearness_9 : decode cX9_clearness 9 = .ok (.iconst 2, 1) := by decide +kernel
theorem dX9_clearness_10 : decode cX9_clearness 10 = .ok (.iaload, 1) := by decide +kernel
theorem dX9_clearness_11 : decode cX9_clearness 11 = .ok (.ireturn, 1) := by decide +kernel
theorem tX9_clearness {L : Nat} {xs : Nat → Int32} {N : Nat} : z_AllE (zE L xs N 77) 0 (kX9_clearness N) :=
  z_ac (j := 1) rfl (z_eI (sp_aload_n (q := 0) dX9_clearness_0 rfl rfl)) <|
  z_ac (j := 2) rfl (z_eI (sp_iconst dX9_clearness_1 (by decide +kernel) rfl)) <|
  z_ac (j := 3) rfl (z_eI (sp_putI (C := RX9) (T := TX9) (Nf := 23) dX9_clearness_2 rfl inX9 tyX9_ok nmX9 (by decide) wf_1356 rfl (by decide +kernel) rfl)) <|
  z_ac (j := 4) rfl (z_eI (sp_aload_n (q := 0) dX9_clearness_5 rfl rfl)) <|
  z_ac (j := 5) rfl (z_eI (sp_getf (C := RX9) (T := TX9) (Nf := 23) dX9_clearness_6 rfl inX9 (by decide) wf_1346 rfl)) <|
  z_ac (j := 6) rfl (z_eI (sp_iconst dX9_clearness_9 (by decide +kernel) rfl)) <|
  z_ac (j := 7) rfl (z_eI (sp_iald dX9_clearness_10 rfl)) <|
  z_ac (j := 8) rfl (z_eR (sr_int dX9_clearness_11 rfl)) <| z_an
theorem dX9_fog_0 : decode cX9_fog 0 = .ok (.aload_n 0, 1) := by decide +kernel
theorem dX9_fog_1 : decode cX9_fog 1 = .ok (.iconst 0, 1) := by decide +kernel
theorem dX9_fog_2 : decode cX9_fog 2 = .ok (.putfield 49, 3) := by decide +kernel
theorem dX9_fog_5 : decode cX9_fog 5 = .ok (.iload_n 1, 1) := by decide +kernel
theorem dX9_fog_6 : decode cX9_fog 6 = .ok (.iconst 0, 1) := by decide +kernel
theorem dX9_fog_7 : decode cX9_fog 7 = .ok (.bipush 23, 2) := by decide +kernel
theorem dX9_fog_9 : decode cX9_fog 9 = .ok (.invokestatic 56, 3) := by decide +kernel
theorem dX9_fog_12 : decode cX9_fog 12 = .ok (.ifCond .eq 15, 3) := by decide +kernel
theorem dX9_fog_15 : decode cX9_fog 15 = .ok (.aload_n 0, 1) := by decide +kernel
theorem dX9_fog_16 : decode cX9_fog 16 = .ok (.getfield 7, 3) := by decide +kernel
theorem dX9_fog_19 : decode cX9_fog 19 = .ok (.bipush 6, 2) := by decide +kernel
theorem dX9_fog_21 : decode cX9_fog 21 = .ok (.iload_n 1, 1) := by decide +kernel
theorem dX9_fog_22 : decode cX9_fog 22 = .ok (.iadd, 1) := by decide +kernel
theorem dX9_fog_23 : decode cX9_fog 23 = .ok (.iaload, 1) := by decide +kernel
theorem dX9_fog_24 : decode cX9_fog 24 = .ok (.goto 8, 3) := by decide +kernel
theorem dX9_fog_27 : decode cX9_fog 27 = .ok (.aload_n 0, 1) := by decide +kernel
theorem dX9_fog_28 : decode cX9_fog 28 = .ok (.iconst 1, 1) := by decide +kernel
theorem dX9_fog_29 : decode cX9_fog 29 = .ok (.invokevirtual 167, 3) := by decide +kernel
theorem dX9_fog_32 : decode cX9_fog 32 = .ok (.ireturn, 1) := by decide +kernel
theorem tX9_fog {L : Nat} {xs : Nat → Int32} {N : Nat} : z_AllE (zE L xs N 78) 0 (kX9_fog N) :=
  z_ac (j := 1) rfl (z_eI (sp_aload_n (q := 0) dX9_fog_0 rfl rfl)) <|
  z_ac (j := 2) rfl (z_eI (sp_iconst dX9_fog_1 (by decide +kernel) rfl)) <|
  z_ac (j := 3) rfl (z_eI (sp_putI (C := RX9) (T := TX9) (Nf := 23) dX9_fog_2 rfl inX9 tyX9_ok nmX9 (by decide) wf_1356 rfl (by decide +kernel) rfl)) <|
  z_ac (j := 4) rfl (z_eI (sp_iload_n (q := 1) dX9_fog_5 rfl rfl)) <|
  z_ac (j := 5) rfl (z_eI (sp_iconst dX9_fog_6 (by decide +kernel) rfl)) <|
  z_ac (j := 6) rfl (z_eI (sp_bipush dX9_fog_7 (by decide +kernel) rfl)) <|
  z_ac (j := 7) rfl (z_cS dX9_fog_9 wl_1432 qX9_in (by decide +kernel) (z_sn rfl rfl) rfl) <|
  z_ac (j := 8) rfl (z_eI (sp_if_eq dX9_fog_12 rfl rfl)) <|
  z_ac (j := 9) rfl (z_eI (sp_aload_n (q := 0) dX9_fog_15 rfl rfl)) <|
  z_ac (j := 10) rfl (z_eI (sp_getf (C := RX9) (T := TX9) (Nf := 23) dX9_fog_16 rfl inX9 (by decide) wf_1346 rfl)) <|
  z_ac (j := 11) rfl (z_eI (sp_bipush dX9_fog_19 (by decide +kernel) rfl)) <|
  z_ac (j := 12) rfl (z_eI (sp_iload_n (q := 1) dX9_fog_21 rfl rfl)) <|
  z_ac (j := 13) rfl (z_eI (sp_iadd dX9_fog_22 rfl)) <|
  z_ac (j := 14) rfl (z_eI (sp_iald dX9_fog_23 rfl)) <|
  z_ac (j := 15) rfl (z_eI (sp_goto dX9_fog_24 rfl)) <|
  z_ac (j := 16) rfl (z_eI (sp_aload_n (q := 0) dX9_fog_27 rfl rfl)) <|
  z_ac (j := 17) rfl (z_eI (sp_iconst dX9_fog_28 (by decide +kernel) rfl)) <|
  z_ac (j := 18) rfl (z_cV dX9_fog_29 wl_1424 qX9_fails (by decide +kernel) ⟨_, _, rfl⟩ (z_sn rfl rfl) rfl) <|
  z_ac (j := 19) rfl (z_eR (sr_int dX9_fog_32 rfl)) <| z_an
theorem dX9_sight_0 : decode cX9_sight 0 = .ok (.aload_n 0, 1) := by decide +kernel
theorem dX9_sight_1 : decode cX9_sight 1 = .ok (.iconst 0, 1) := by decide +kernel
theorem dX9_sight_2 : decode cX9_sight 2 = .ok (.putfield 49, 3) := by decide +kernel
theorem dX9_sight_5 : decode cX9_sight 5 = .ok (.aload_n 0, 1) := by decide +kernel
theorem dX9_sight_6 : decode cX9_sight 6 = .ok (.getfield 7, 3) := by decide +kernel
theorem dX9_sight_9 : decode cX9_sight 9 = .ok (.invokestatic 111, 3) := by decide +kernel
theorem dX9_sight_12 : decode cX9_sight 12 = .ok (.ireturn, 1) := by decide +kernel
theorem tX9_sight {L : Nat} {xs : Nat → Int32} {N : Nat} : z_AllE (zE L xs N 79) 0 (kX9_sight N) :=
  z_ac (j := 1) rfl (z_eI (sp_aload_n (q := 0) dX9_sight_0 rfl rfl)) <|
  z_ac (j := 2) rfl (z_eI (sp_iconst dX9_sight_1 (by decide +kernel) rfl)) <|
  z_ac (j := 3) rfl (z_eI (sp_putI (C := RX9) (T := TX9) (Nf := 23) dX9_sight_2 rfl inX9 tyX9_ok nmX9 (by decide) wf_1356 rfl (by decide +kernel) rfl)) <|
  z_ac (j := 4) rfl (z_eI (sp_aload_n (q := 0) dX9_sight_5 rfl rfl)) <|
  z_ac (j := 5) rfl (z_eI (sp_getf (C := RX9) (T := TX9) (Nf := 23) dX9_sight_6 rfl inX9 (by decide) wf_1346 rfl)) <|
  z_ac (j := 6) rfl (z_cS dX9_sight_9 wl_1639 qX9_sightOf (by decide +kernel) (z_sn rfl rfl) rfl) <|
  z_ac (j := 7) rfl (z_eR (sr_int dX9_sight_12 rfl)) <| z_an
theorem dX9_lightCount_0 : decode cX9_lightCount 0 = .ok (.aload_n 0, 1) := by decide +kernel
theorem dX9_lightCount_1 : decode cX9_lightCount 1 = .ok (.iconst 0, 1) := by decide +kernel
theorem dX9_lightCount_2 : decode cX9_lightCount 2 = .ok (.putfield 49, 3) := by decide +kernel
theorem dX9_lightCount_5 : decode cX9_lightCount 5 = .ok (.aload_n 0, 1) := by decide +kernel
theorem dX9_lightCount_6 : decode cX9_lightCount 6 = .ok (.getfield 7, 3) := by decide +kernel
theorem dX9_lightCount_9 : decode cX9_lightCount 9 = .ok (.iconst 4, 1) := by decide +kernel
theorem dX9_lightCount_10 : decode cX9_lightCount 10 = .ok (.iaload, 1) := by decide +kernel
theorem dX9_lightCount_11 : decode cX9_lightCount 11 = .ok (.ireturn, 1) := by decide +kernel
theorem tX9_lightCount {L : Nat} {xs : Nat → Int32} {N : Nat} : z_AllE (zE L xs N 80) 0 (kX9_lightCount N) :=
  z_ac (j := 1) rfl (z_eI (sp_aload_n (q := 0) dX9_lightCount_0 rfl rfl)) <|
  z_ac (j := 2) rfl (z_eI (sp_iconst dX9_lightCount_1 (by decide +kernel) rfl)) <|
  z_ac (j := 3) rfl (z_eI (sp_putI (C := RX9) (T := TX9) (Nf := 23) dX9_lightCount_2 rfl inX9 tyX9_ok nmX9 (by decide) wf_1356 rfl (by decide +kernel) rfl)) <|
  z_ac (j := 4) rfl (z_eI (sp_aload_n (q := 0) dX9_lightCount_5 rfl rfl)) <|
  z_ac (j := 5) rfl (z_eI (sp_getf (C := RX9) (T := TX9) (Nf := 23) dX9_lightCount_6 rfl inX9 (by decide) wf_1346 rfl)) <|
  z_ac (j := 6) rfl (z_eI (sp_iconst dX9_lightCount_9 (by decide +kernel) rfl)) <|
  z_ac (j := 7) rfl (z_eI (sp_iald dX9_lightCount_10 rfl)) <|
  z_ac (j := 8) rfl (z_eR (sr_int dX9_lightCount_11 rfl)) <| z_an
theorem dX9_lightNumber_0 : decode cX9_lightNumber 0 = .ok (.aload_n 0, 1) := by decide +kernel
theorem dX9_lightNumber_1 : decode cX9_lightNumber 1 = .ok (.iconst 0, 1) := by decide +kernel
theorem dX9_lightNumber_2 : decode cX9_lightNumber 2 = .ok (.putfield 49, 3) := by decide +kernel
theorem dX9_lightNumber_5 : decode cX9_lightNumber 5 = .ok (.aload_n 0, 1) := by decide +kernel
theorem dX9_lightNumber_6 : decode cX9_lightNumber 6 = .ok (.iload_n 1, 1) := by decide +kernel
theorem dX9_lightNumber_7 : decode cX9_lightNumber 7 = .ok (.invokevirtual 288, 3) := by decide +kernel
theorem dX9_lightNumber_10 : decode cX9_lightNumber 10 = .ok (.ifCond .eq 16, 3) := by decide +kernel
theorem dX9_lightNumber_13 : decode cX9_lightNumber 13 = .ok (.aload_n 0, 1) := by decide +kernel
theorem dX9_lightNumber_14 : decode cX9_lightNumber 14 = .ok (.getfield 7, 3) := by decide +kernel
theorem dX9_lightNumber_17 : decode cX9_lightNumber 17 = .ok (.iload_n 1, 1) := by decide +kernel
theorem dX9_lightNumber_18 : decode cX9_lightNumber 18 = .ok (.iload_n 2, 1) := by decide +kernel
theorem dX9_lightNumber_19 : decode cX9_lightNumber 19 = .ok (.invokestatic 101, 3) := by decide +kernel
theorem dX9_lightNumber_22 : decode cX9_lightNumber 22 = .ok (.iaload, 1) := by decide +kernel
theorem dX9_lightNumber_23 : decode cX9_lightNumber 23 = .ok (.goto 8, 3) := by decide +kernel
theorem dX9_lightNumber_26 : decode cX9_lightNumber 26 = .ok (.aload_n 0, 1) := by decide +kernel
theorem dX9_lightNumber_27 : decode cX9_lightNumber 27 = .ok (.iconst 1, 1) := by decide +kernel
theorem dX9_lightNumber_28 : decode cX9_lightNumber 28 = .ok (.invokevirtual 167, 3) := by decide +kernel
theorem dX9_lightNumber_31 : decode cX9_lightNumber 31 = .ok (.ireturn, 1) := by decide +kernel
theorem tX9_lightNumber {L : Nat} {xs : Nat → Int32} {N : Nat} : z_AllE (zE L xs N 81) 0 (kX9_lightNumber N) :=
  z_ac (j := 1) rfl (z_eI (sp_aload_n (q := 0) dX9_lightNumber_0 rfl rfl)) <|
  z_ac (j := 2) rfl (z_eI (sp_iconst dX9_lightNumber_1 (by decide +kernel) rfl)) <|
  z_ac (j := 3) rfl (z_eI (sp_putI (C := RX9) (T := TX9) (Nf := 23) dX9_lightNumber_2 rfl inX9 tyX9_ok nmX9 (by decide) wf_1356 rfl (by decide +kernel) rfl)) <|
  z_ac (j := 4) rfl (z_eI (sp_aload_n (q := 0) dX9_lightNumber_5 rfl rfl)) <|
  z_ac (j := 5) rfl (z_eI (sp_iload_n (q := 1) dX9_lightNumber_6 rfl rfl)) <|
  z_ac (j := 6) rfl (z_cV dX9_lightNumber_7 wl_1654 qX9_isLight (by decide +kernel) ⟨_, _, rfl⟩ (z_sn rfl rfl) rfl) <|
  z_ac (j := 7) rfl (z_eI (sp_if_eq dX9_lightNumber_10 rfl rfl)) <|
  z_ac (j := 8) rfl (z_eI (sp_aload_n (q := 0) dX9_lightNumber_13 rfl rfl)) <|
  z_ac (j := 9) rfl (z_eI (sp_getf (C := RX9) (T := TX9) (Nf := 23) dX9_lightNumber_14 rfl inX9 (by decide) wf_1346 rfl)) <|
  z_ac (j := 10) rfl (z_eI (sp_iload_n (q := 1) dX9_lightNumber_17 rfl rfl)) <|
  z_ac (j := 11) rfl (z_eI (sp_iload_n (q := 2) dX9_lightNumber_18 rfl rfl)) <|
  z_ac (j := 12) rfl (z_cS dX9_lightNumber_19 wl_1504 qX9_lightAt (by decide +kernel) (z_sn rfl rfl) rfl) <|
  z_ac (j := 13) rfl (z_eI (sp_iald dX9_lightNumber_22 rfl)) <|
  z_ac (j := 14) rfl (z_eI (sp_goto dX9_lightNumber_23 rfl)) <|
  z_ac (j := 15) rfl (z_eI (sp_aload_n (q := 0) dX9_lightNumber_26 rfl rfl)) <|
  z_ac (j := 16) rfl (z_eI (sp_iconst dX9_lightNumber_27 (by decide +kernel) rfl)) <|
  z_ac (j := 17) rfl (z_cV dX9_lightNumber_28 wl_1424 qX9_fails (by decide +kernel) ⟨_, _, rfl⟩ (z_sn rfl rfl) rfl) <|
  z_ac (j := 18) rfl (z_eR (sr_int dX9_lightNumber_31 rfl)) <| z_an
theorem dX9_lightColumn_0 : decode cX9_lightColumn 0 = .ok (.aload_n 0, 1) := by decide +kernel
theorem dX9_lightColumn_1 : decode cX9_lightColumn 1 = .ok (.iload_n 1, 1) := by decide +kernel
theorem dX9_lightColumn_2 : decode cX9_lightColumn 2 = .ok (.iconst 0, 1) := by decide +kernel
theorem dX9_lightColumn_3 : decode cX9_lightColumn 3 = .ok (.invokevirtual 291, 3) := by decide +kernel
theorem dX9_lightColumn_6 : decode cX9_lightColumn 6 = .ok (.ireturn, 1) := by decide +kernel
theorem tX9_lightColumn {L : Nat} {xs : Nat → Int32} {N : Nat} : z_AllE (zE L xs N 82) 0 (kX9_lightColumn N) :=
  z_ac (j := 1) rfl (z_eI (sp_aload_n (q := 0) dX9_lightColumn_0 rfl rfl)) <|
  z_ac (j := 2) rfl (z_eI (sp_iload_n (q := 1) dX9_lightColumn_1 rfl rfl)) <|
  z_ac (j := 3) rfl (z_eI (sp_iconst dX9_lightColumn_2 (by decide +kernel) rfl)) <|
  z_ac (j := 4) rfl (z_cV dX9_lightColumn_3 wl_1650 qX9_lightNumber (by decide +kernel) ⟨_, _, rfl⟩ (z_sn rfl rfl) rfl) <|
  z_ac (j := 5) rfl (z_eR (sr_int dX9_lightColumn_6 rfl)) <| z_an
theorem dX9_lightRow_0 : decode cX9_lightRow 0 = .ok (.aload_n 0, 1) := by decide +kernel
theorem dX9_lightRow_1 : decode cX9_lightRow 1 = .ok (.iload_n 1, 1) := by decide +kernel
theorem dX9_lightRow_2 : decode cX9_lightRow 2 = .ok (.iconst 1, 1) := by decide +kernel
theorem dX9_lightRow_3 : decode cX9_lightRow 3 = .ok (.invokevirtual 291, 3) := by decide +kernel
theorem dX9_lightRow_6 : decode cX9_lightRow 6 = .ok (.ireturn, 1) := by decide +kernel
theorem tX9_lightRow {L : Nat} {xs : Nat → Int32} {N : Nat} : z_AllE (zE L xs N 83) 0 (kX9_lightRow N) :=
  z_ac (j := 1) rfl (z_eI (sp_aload_n (q := 0) dX9_lightRow_0 rfl rfl)) <|
  z_ac (j := 2) rfl (z_eI (sp_iload_n (q := 1) dX9_lightRow_1 rfl rfl)) <|
  z_ac (j := 3) rfl (z_eI (sp_iconst dX9_lightRow_2 (by decide +kernel) rfl)) <|
  z_ac (j := 4) rfl (z_cV dX9_lightRow_3 wl_1650 qX9_lightNumber (by decide +kernel) ⟨_, _, rfl⟩ (z_sn rfl rfl) rfl) <|
  z_ac (j := 5) rfl (z_eR (sr_int dX9_lightRow_6 rfl)) <| z_an
theorem dX9_brightness_0 : decode cX9_brightness 0 = .ok (.aload_n 0, 1) := by decide +kernel
theorem dX9_brightness_1 : decode cX9_brightness 1 = .ok (.iload_n 1, 1) := by decide +kernel
theorem dX9_brightness_2 : decode cX9_brightness 2 = .ok (.iconst 2, 1) := by decide +kernel
theorem dX9_brightness_3 : decode cX9_brightness 3 = .ok (.invokevirtual 291, 3) := by decide +kernel
theorem dX9_brightness_6 : decode cX9_brightness 6 = .ok (.ireturn, 1) := by decide +kernel
theorem tX9_brightness {L : Nat} {xs : Nat → Int32} {N : Nat} : z_AllE (zE L xs N 84) 0 (kX9_brightness N) :=
  z_ac (j := 1) rfl (z_eI (sp_aload_n (q := 0) dX9_brightness_0 rfl rfl)) <|
  z_ac (j := 2) rfl (z_eI (sp_iload_n (q := 1) dX9_brightness_1 rfl rfl)) <|
  z_ac (j := 3) rfl (z_eI (sp_iconst dX9_brightness_2 (by decide +kernel) rfl)) <|
  z_ac (j := 4) rfl (z_cV dX9_brightness_3 wl_1650 qX9_lightNumber (by decide +kernel) ⟨_, _, rfl⟩ (z_sn rfl rfl) rfl) <|
  z_ac (j := 5) rfl (z_eR (sr_int dX9_brightness_6 rfl)) <| z_an
theorem dX9_isTrueLight_0 : decode cX9_isTrueLight 0 = .ok (.aload_n 0, 1) := by decide +kernel
theorem dX9_isTrueLight_1 : decode cX9_isTrueLight 1 = .ok (.iload_n 1, 1) := by decide +kernel
theorem dX9_isTrueLight_2 : decode cX9_isTrueLight 2 = .ok (.iconst 3, 1) := by decide +kernel
theorem dX9_isTrueLight_3 : decode cX9_isTrueLight 3 = .ok (.invokevirtual 291, 3) := by decide +kernel
theorem dX9_isTrueLight_6 : decode cX9_isTrueLight 6 = .ok (.iconst 1, 1) := by decide +kernel
theorem dX9_isTrueLight_7 : decode cX9_isTrueLight 7 = .ok (.if_icmp .ne 7, 3) := by decide +kernel
theorem dX9_isTrueLight_10 : decode cX9_isTrueLight 10 = .ok (.iconst 1, 1) := by decide +kernel
theorem dX9_isTrueLight_11 : decode cX9_isTrueLight 11 = .ok (.goto 4, 3) := by decide +kernel
theorem dX9_isTrueLight_14 : decode cX9_isTrueLight 14 = .ok (.iconst 0, 1) := by decide +kernel
theorem dX9_isTrueLight_15 : decode cX9_isTrueLight 15 = .ok (.ireturn, 1) := by decide +kernel
theorem tX9_isTrueLight {L : Nat} {xs : Nat → Int32} {N : Nat} : z_AllE (zE L xs N 85) 0 (kX9_isTrueLight N) :=
  z_ac (j := 1) rfl (z_eI (sp_aload_n (q := 0) dX9_isTrueLight_0 rfl rfl)) <|
  z_ac (j := 2) rfl (z_eI (sp_iload_n (q := 1) dX9_isTrueLight_1 rfl rfl)) <|
  z_ac (j := 3) rfl (z_eI (sp_iconst dX9_isTrueLight_2 (by decide +kernel) rfl)) <|
  z_ac (j := 4) rfl (z_cV dX9_isTrueLight_3 wl_1650 qX9_lightNumber (by decide +kernel) ⟨_, _, rfl⟩ (z_sn rfl rfl) rfl) <|
  z_ac (j := 5) rfl (z_eI (sp_iconst dX9_isTrueLight_6 (by decide +kernel) rfl)) <|
  z_ac (j := 6) rfl (z_eI (sp_icmp_ne dX9_isTrueLight_7 rfl rfl)) <|
  z_ac (j := 7) rfl (z_eI (sp_iconst dX9_isTrueLight_10 (by decide +kernel) rfl)) <|
  z_ac (j := 8) rfl (z_eI (sp_goto dX9_isTrueLight_11 rfl)) <|
  z_ac (j := 9) rfl (z_eI (sp_iconst dX9_isTrueLight_14 (by decide +kernel) rfl)) <|
  z_ac (j := 10) rfl (z_eR (sr_bool dX9_isTrueLight_15 rfl)) <| z_an
theorem dX9_hasSuccessor_0 : decode cX9_hasSuccessor 0 = .ok (.aload_n 0, 1) := by decide +kernel
theorem dX9_hasSuccessor_1 : decode cX9_hasSuccessor 1 = .ok (.iconst 0, 1) := by decide +kernel
theorem dX9_hasSuccessor_2 : decode cX9_hasSuccessor 2 = .ok (.putfield 49, 3) := by decide +kernel
theorem dX9_hasSuccessor_5 : decode cX9_hasSuccessor 5 = .ok (.aload_n 0, 1) := by decide +kernel
theorem dX9_hasSuccessor_6 : decode cX9_hasSuccessor 6 = .ok (.iload_n 1, 1) := by decide +kernel
theorem dX9_hasSuccessor_7 : decode cX9_hasSuccessor 7 = .ok (.invokevirtual 288, 3) := by decide +kernel
theorem dX9_hasSuccessor_10 : decode cX9_hasSuccessor 10 = .ok (.ifCond .eq 24, 3) := by decide +kernel
theorem dX9_hasSuccessor_13 : decode cX9_hasSuccessor 13 = .ok (.aload_n 0, 1) := by decide +kernel
theorem dX9_hasSuccessor_14 : decode cX9_hasSuccessor 14 = .ok (.getfield 7, 3) := by decide +kernel
theorem dX9_hasSuccessor_17 : decode cX9_hasSuccessor 17 = .ok (.iload_n 1, 1) := by decide +kernel
theorem dX9_hasSuccessor_18 : decode cX9_hasSuccessor 18 = .ok (.iconst 4, 1) := by decide +kernel
theorem dX9_hasSuccessor_19 : decode cX9_hasSuccessor 19 = .ok (.invokestatic 101, 3) := by decide +kernel
theorem dX9_hasSuccessor_22 : decode cX9_hasSuccessor 22 = .ok (.iaload, 1) := by decide +kernel
theorem dX9_hasSuccessor_23 : decode cX9_hasSuccessor 23 = .ok (.ifCond .lt 7, 3) := by decide +kernel
theorem dX9_hasSuccessor_26 : decode cX9_hasSuccessor 26 = .ok (.iconst 1, 1) := by decide +kernel
theorem dX9_hasSuccessor_27 : decode cX9_hasSuccessor 27 = .ok (.goto 12, 3) := by decide +kernel
theorem dX9_hasSuccessor_30 : decode cX9_hasSuccessor 30 = .ok (.iconst 0, 1) := by decide +kernel
theorem dX9_hasSuccessor_31 : decode cX9_hasSuccessor 31 = .ok (.goto 8, 3) := by decide +kernel
theorem dX9_hasSuccessor_34 : decode cX9_hasSuccessor 34 = .ok (.aload_n 0, 1) := by decide +kernel
theorem dX9_hasSuccessor_35 : decode cX9_hasSuccessor 35 = .ok (.iconst 1, 1) := by decide +kernel
theorem dX9_hasSuccessor_36 : decode cX9_hasSuccessor 36 = .ok (.invokevirtual 278, 3) := by decide +kernel
theorem dX9_hasSuccessor_39 : decode cX9_hasSuccessor 39 = .ok (.ireturn, 1) := by decide +kernel
theorem tX9_hasSuccessor {L : Nat} {xs : Nat → Int32} {N : Nat} : z_AllE (zE L xs N 86) 0 (kX9_hasSuccessor N) :=
  z_ac (j := 1) rfl (z_eI (sp_aload_n (q := 0) dX9_hasSuccessor_0 rfl rfl)) <|
  z_ac (j := 2) rfl (z_eI (sp_iconst dX9_hasSuccessor_1 (by decide +kernel) rfl)) <|
  z_ac (j := 3) rfl (z_eI (sp_putI (C := RX9) (T := TX9) (Nf := 23) dX9_hasSuccessor_2 rfl inX9 tyX9_ok nmX9 (by decide) wf_1356 rfl (by decide +kernel) rfl)) <|
  z_ac (j := 4) rfl (z_eI (sp_aload_n (q := 0) dX9_hasSuccessor_5 rfl rfl)) <|
  z_ac (j := 5) rfl (z_eI (sp_iload_n (q := 1) dX9_hasSuccessor_6 rfl rfl)) <|
  z_ac (j := 6) rfl (z_cV dX9_hasSuccessor_7 wl_1654 qX9_isLight (by decide +kernel) ⟨_, _, rfl⟩ (z_sn rfl rfl) rfl) <|
  z_ac (j := 7) rfl (z_eI (sp_if_eq dX9_hasSuccessor_10 rfl rfl)) <|
  z_ac (j := 8) rfl (z_eI (sp_aload_n (q := 0) dX9_hasSuccessor_13 rfl rfl)) <|
  z_ac (j := 9) rfl (z_eI (sp_getf (C := RX9) (T := TX9) (Nf := 23) dX9_hasSuccessor_14 rfl inX9 (by decide) wf_1346 rfl)) <|
  z_ac (j := 10) rfl (z_eI (sp_iload_n (q := 1) dX9_hasSuccessor_17 rfl rfl)) <|
  z_ac (j := 11) rfl (z_eI (sp_iconst dX9_hasSuccessor_18 (by decide +kernel) rfl)) <|
  z_ac (j := 12) rfl (z_cS dX9_hasSuccessor_19 wl_1504 qX9_lightAt (by decide +kernel) (z_sn rfl rfl) rfl) <|
  z_ac (j := 13) rfl (z_eI (sp_iald dX9_hasSuccessor_22 rfl)) <|
  z_ac (j := 14) rfl (z_eI (sp_if_lt dX9_hasSuccessor_23 rfl rfl)) <|
  z_ac (j := 15) rfl (z_eI (sp_iconst dX9_hasSuccessor_26 (by decide +kernel) rfl)) <|
  z_ac (j := 16) rfl (z_eI (sp_goto dX9_hasSuccessor_27 rfl)) <|
  z_ac (j := 17) rfl (z_eI (sp_iconst dX9_hasSuccessor_30 (by decide +kernel) rfl)) <|
  z_ac (j := 18) rfl (z_eI (sp_goto dX9_hasSuccessor_31 rfl)) <|
  z_ac (j := 19) rfl (z_eI (sp_aload_n (q := 0) dX9_hasSuccessor_34 rfl rfl)) <|
  z_ac (j := 20) rfl (z_eI (sp_iconst dX9_hasSuccessor_35 (by decide +kernel) rfl)) <|
  z_ac (j := 21) rfl (z_cV dX9_hasSuccessor_36 wl_1554 qX9_isFailed (by decide +kernel) ⟨_, _, rfl⟩ (z_sn rfl rfl) rfl) <|
  z_ac (j := 22) rfl (z_eR (sr_bool dX9_hasSuccessor_39 rfl)) <| z_an
theorem dX9_successor_0 : decode cX9_successor 0 = .ok (.aload_n 0, 1) := by decide +kernel
theorem dX9_successor_1 : decode cX9_successor 1 = .ok (.iconst 0, 1) := by decide +kernel
theorem dX9_successor_2 : decode cX9_successor 2 = .ok (.putfield 49, 3) := by decide +kernel
theorem dX9_successor_5 : decode cX9_successor 5 = .ok (.aload_n 0, 1) := by decide +kernel
theorem dX9_successor_6 : decode cX9_successor 6 = .ok (.iload_n 1, 1) := by decide +kernel
theorem dX9_successor_7 : decode cX9_successor 7 = .ok (.invokevirtual 288, 3) := by decide +kernel
theorem dX9_successor_10 : decode cX9_successor 10 = .ok (.ifCond .ne 9, 3) := by decide +kernel
theorem dX9_successor_13 : decode cX9_successor 13 = .ok (.aload_n 0, 1) := by decide +kernel
theorem dX9_successor_14 : decode cX9_successor 14 = .ok (.iconst 1, 1) := by decide +kernel
theorem dX9_successor_15 : decode cX9_successor 15 = .ok (.invokevirtual 167, 3) := by decide +kernel
theorem dX9_successor_18 : decode cX9_successor 18 = .ok (.ireturn, 1) := by decide +kernel
theorem dX9_successor_19 : decode cX9_successor 19 = .ok (.aload_n 0, 1) := by decide +kernel
theorem dX9_successor_20 : decode cX9_successor 20 = .ok (.getfield 7, 3) := by decide +kernel
theorem dX9_successor_23 : decode cX9_successor 23 = .ok (.iload_n 1, 1) := by decide +kernel
theorem dX9_successor_24 : decode cX9_successor 24 = .ok (.iconst 4, 1) := by decide +kernel
theorem dX9_successor_25 : decode cX9_successor 25 = .ok (.invokestatic 101, 3) := by decide +kernel
theorem dX9_successor_28 : decode cX9_successor 28 = .ok (.iaload, 1) := by decide +kernel
theorem dX9_successor_29 : decode cX9_successor 29 = .ok (.ifCond .ge 11, 3) := by decide +kernel
theorem dX9_successor_32 : decode cX9_successor 32 = .ok (.aload_n 0, 1) := by decide +kernel
theorem dX9_successor_33 : decode cX9_successor 33 = .ok (.iconst 2, 1) := by decide +kernel
theorem dX9_successor_34 : decode cX9_successor 34 = .ok (.invokevirtual 167, 3) := by decide +kernel
theorem dX9_successor_37 : decode cX9_successor 37 = .ok (.goto 13, 3) := by decide +kernel
theorem dX9_successor_40 : decode cX9_successor 40 = .ok (.aload_n 0, 1) := by decide +kernel
theorem dX9_successor_41 : decode cX9_successor 41 = .ok (.getfield 7, 3) := by decide +kernel
theorem dX9_successor_44 : decode cX9_successor 44 = .ok (.iload_n 1, 1) := by decide +kernel
theorem dX9_successor_45 : decode cX9_successor 45 = .ok (.iconst 4, 1) := by decide +kernel
theorem dX9_successor_46 : decode cX9_successor 46 = .ok (.invokestatic 101, 3) := by decide +kernel
theorem dX9_successor_49 : decode cX9_successor 49 = .ok (.iaload, 1) := by decide +kernel
theorem dX9_successor_50 : decode cX9_successor 50 = .ok (.ireturn, 1) := by decide +kernel
theorem tX9_successor {L : Nat} {xs : Nat → Int32} {N : Nat} : z_AllE (zE L xs N 87) 0 (kX9_successor N) :=
  z_ac (j := 1) rfl (z_eI (sp_aload_n (q := 0) dX9_successor_0 rfl rfl)) <|
  z_ac (j := 2) rfl (z_eI (sp_iconst dX9_successor_1 (by decide +kernel) rfl)) <|
  z_ac (j := 3) rfl (z_eI (sp_putI (C := RX9) (T := TX9) (Nf := 23) dX9_successor_2 rfl inX9 tyX9_ok nmX9 (by decide) wf_1356 rfl (by decide +kernel) rfl)) <|
  z_ac (j := 4) rfl (z_eI (sp_aload_n (q := 0) dX9_successor_5 rfl rfl)) <|
  z_ac (j := 5) rfl (z_eI (sp_iload_n (q := 1) dX9_successor_6 rfl rfl)) <|
  z_ac (j := 6) rfl (z_cV dX9_successor_7 wl_1654 qX9_isLight (by decide +kernel) ⟨_, _, rfl⟩ (z_sn rfl rfl) rfl) <|
  z_ac (j := 7) rfl (z_eI (sp_if_ne dX9_successor_10 rfl rfl)) <|
  z_ac (j := 8) rfl (z_eI (sp_aload_n (q := 0) dX9_successor_13 rfl rfl)) <|
  z_ac (j := 9) rfl (z_eI (sp_iconst dX9_successor_14 (by decide +kernel) rfl)) <|
  z_ac (j := 10) rfl (z_cV dX9_successor_15 wl_1424 qX9_fails (by decide +kernel) ⟨_, _, rfl⟩ (z_sn rfl rfl) rfl) <|
  z_ac (j := 11) rfl (z_eR (sr_int dX9_successor_18 rfl)) <|
  z_ac (j := 12) rfl (z_eI (sp_aload_n (q := 0) dX9_successor_19 rfl rfl)) <|
  z_ac (j := 13) rfl (z_eI (sp_getf (C := RX9) (T := TX9) (Nf := 23) dX9_successor_20 rfl inX9 (by decide) wf_1346 rfl)) <|
  z_ac (j := 14) rfl (z_eI (sp_iload_n (q := 1) dX9_successor_23 rfl rfl)) <|
  z_ac (j := 15) rfl (z_eI (sp_iconst dX9_successor_24 (by decide +kernel) rfl)) <|
  z_ac (j := 16) rfl (z_cS dX9_successor_25 wl_1504 qX9_lightAt (by decide +kernel) (z_sn rfl rfl) rfl) <|
  z_ac (j := 17) rfl (z_eI (sp_iald dX9_successor_28 rfl)) <|
  z_ac (j := 18) rfl (z_eI (sp_if_ge dX9_successor_29 rfl rfl)) <|
  z_ac (j := 19) rfl (z_eI (sp_aload_n (q := 0) dX9_successor_32 rfl rfl)) <|
  z_ac (j := 20) rfl (z_eI (sp_iconst dX9_successor_33 (by decide +kernel) rfl)) <|
  z_ac (j := 21) rfl (z_cV dX9_successor_34 wl_1424 qX9_fails (by decide +kernel) ⟨_, _, rfl⟩ (z_sn rfl rfl) rfl) <|
  z_ac (j := 22) rfl (z_eI (sp_goto dX9_successor_37 rfl)) <|
  z_ac (j := 23) rfl (z_eI (sp_aload_n (q := 0) dX9_successor_40 rfl rfl)) <|
  z_ac (j := 24) rfl (z_eI (sp_getf (C := RX9) (T := TX9) (Nf := 23) dX9_successor_41 rfl inX9 (by decide) wf_1346 rfl)) <|
  z_ac (j := 25) rfl (z_eI (sp_iload_n (q := 1) dX9_successor_44 rfl rfl)) <|
  z_ac (j := 26) rfl (z_eI (sp_iconst dX9_successor_45 (by decide +kernel) rfl)) <|
  z_ac (j := 27) rfl (z_cS dX9_successor_46 wl_1504 qX9_lightAt (by decide +kernel) (z_sn rfl rfl) rfl) <|
  z_ac (j := 28) rfl (z_eI (sp_iald dX9_successor_49 rfl)) <|
  z_ac (j := 29) rfl (z_eR (sr_int dX9_successor_50 rfl)) <| z_an
theorem dX9_followers_0 : decode cX9_followers 0 = .ok (.aload_n 0, 1) := by decide +kernel
theorem dX9_followers_1 : decode cX9_followers 1 = .ok (.iconst 0, 1) := by decide +kernel
theorem dX9_followers_2 : decode cX9_followers 2 = .ok (.putfield 49, 3) := by decide +kernel
theorem dX9_followers_5 : decode cX9_followers 5 = .ok (.aload_n 0, 1) := by decide +kernel
theorem dX9_followers_6 : decode cX9_followers 6 = .ok (.iload_n 1, 1) := by decide +kernel
theorem dX9_followers_7 : decode cX9_followers 7 = .ok (.invokevirtual 288, 3) := by decide +kernel
theorem dX9_followers_10 : decode cX9_followers 10 = .ok (.ifCond .ne 9, 3) := by decide +kernel
theorem dX9_followers_13 : decode cX9_followers 13 = .ok (.aload_n 0, 1) := by decide +kernel
theorem dX9_followers_14 : decode cX9_followers 14 = .ok (.iconst 1, 1) := by decide +kernel
theorem dX9_followers_15 : decode cX9_followers 15 = .ok (.invokevirtual 167, 3) := by decide +kernel
theorem dX9_followers_18 : decode cX9_followers 18 = .ok (.ireturn, 1) := by decide +kernel
theorem dX9_followers_19 : decode cX9_followers 19 = .ok (.iconst 0, 1) := by decide +kernel
theorem dX9_followers_20 : decode cX9_followers 20 = .ok (.istore_n 2, 1) := by decide +kernel
theorem dX9_followers_21 : decode cX9_followers 21 = .ok (.iconst 0, 1) := by decide +kernel
theorem dX9_followers_22 : decode cX9_followers 22 = .ok (.istore_n 3, 1) := by decide +kernel
theorem dX9_followers_23 : decode cX9_followers 23 = .ok (.iload_n 3, 1) := by decide +kernel
theorem dX9_followers_24 : decode cX9_followers 24 = .ok (.aload_n 0, 1) := by decide +kernel
theorem dX9_followers_25 : decode cX9_followers 25 = .ok (.getfield 7, 3) := by decide +kernel
theorem dX9_followers_28 : decode cX9_followers 28 = .ok (.iconst 5, 1) := by decide +kernel
theorem dX9_followers_29 : decode cX9_followers 29 = .ok (.iaload, 1) := by decide +kernel
theorem dX9_followers_30 : decode cX9_followers 30 = .ok (.if_icmp .ge 39, 3) := by decide +kernel
theorem dX9_followers_33 : decode cX9_followers 33 = .ok (.aload_n 0, 1) := by decide +kernel
theorem dX9_followers_34 : decode cX9_followers 34 = .ok (.getfield 7, 3) := by decide +kernel
theorem dX9_followers_37 : decode cX9_followers 37 = .ok (.iload_n 3, 1) := by decide +kernel
theorem dX9_followers_38 : decode cX9_followers 38 = .ok (.iconst 2, 1) := by decide +kernel
theorem dX9_followers_39 : decode cX9_followers 39 = .ok (.invokestatic 95, 3) := by decide +kernel
theorem dX9_followers_42 : decode cX9_followers 42 = .ok (.iaload, 1) := by decide +kernel
theorem dX9_followers_43 : decode cX9_followers 43 = .ok (.ifCond .ne 20, 3) := by decide +kernel
theorem dX9_followers_46 : decode cX9_followers 46 = .ok (.aload_n 0, 1) := by decide +kernel
theorem dX9_followers_47 : decode cX9_followers 47 = .ok (.getfield 7, 3) := by decide +kernel
theorem dX9_followers_50 : decode cX9_followers 50 = .ok (.iload_n 3, 1) := by decide +kernel
theorem dX9_followers_51 : decode cX9_followers 51 = .ok (.iconst 3, 1) := by decide +kernel
theorem dX9_followers_52 : decode cX9_followers 52 = .ok (.invokestatic 95, 3) := by decide +kernel
theorem dX9_followers_55 : decode cX9_followers 55 = .ok (.iaload, 1) := by decide +kernel
theorem dX9_followers_56 : decode cX9_followers 56 = .ok (.iload_n 1, 1) := by decide +kernel
theorem dX9_followers_57 : decode cX9_followers 57 = .ok (.if_icmp .ne 6, 3) := by decide +kernel
theorem dX9_followers_60 : decode cX9_followers 60 = .ok (.iinc 2 1, 3) := by decide +kernel
theorem dX9_followers_63 : decode cX9_followers 63 = .ok (.iinc 3 1, 3) := by decide +kernel
theorem dX9_followers_66 : decode cX9_followers 66 = .ok (.goto (-43), 3) := by decide +kernel
theorem dX9_followers_69 : decode cX9_followers 69 = .ok (.iload_n 2, 1) := by decide +kernel
theorem dX9_followers_70 : decode cX9_followers 70 = .ok (.ireturn, 1) := by decide +kernel
theorem tX9_followers {L : Nat} {xs : Nat → Int32} {N : Nat} : z_AllE (zE L xs N 88) 0 (kX9_followers N) :=
  z_ac (j := 1) rfl (z_eI (sp_aload_n (q := 0) dX9_followers_0 rfl rfl)) <|
  z_ac (j := 2) rfl (z_eI (sp_iconst dX9_followers_1 (by decide +kernel) rfl)) <|
  z_ac (j := 3) rfl (z_eI (sp_putI (C := RX9) (T := TX9) (Nf := 23) dX9_followers_2 rfl inX9 tyX9_ok nmX9 (by decide) wf_1356 rfl (by decide +kernel) rfl)) <|
  z_ac (j := 4) rfl (z_eI (sp_aload_n (q := 0) dX9_followers_5 rfl rfl)) <|
  z_ac (j := 5) rfl (z_eI (sp_iload_n (q := 1) dX9_followers_6 rfl rfl)) <|
  z_ac (j := 6) rfl (z_cV dX9_followers_7 wl_1654 qX9_isLight (by decide +kernel) ⟨_, _, rfl⟩ (z_sn rfl rfl) rfl) <|
  z_ac (j := 7) rfl (z_eI (sp_if_ne dX9_followers_10 rfl rfl)) <|
  z_ac (j := 8) rfl (z_eI (sp_aload_n (q := 0) dX9_followers_13 rfl rfl)) <|
  z_ac (j := 9) rfl (z_eI (sp_iconst dX9_followers_14 (by decide +kernel) rfl)) <|
  z_ac (j := 10) rfl (z_cV dX9_followers_15 wl_1424 qX9_fails (by decide +kernel) ⟨_, _, rfl⟩ (z_sn rfl rfl) rfl) <|
  z_ac (j := 11) rfl (z_eR (sr_int dX9_followers_18 rfl)) <|
  z_ac (j := 12) rfl (z_eI (sp_iconst dX9_followers_19 (by decide +kernel) rfl)) <|
  z_ac (j := 13) rfl (z_eI (sp_istore_n (q := 2) dX9_followers_20 rfl (by decide) (fun _ _ => rfl) rfl)) <|
  z_ac (j := 14) rfl (z_eI (sp_iconst dX9_followers_21 (by decide +kernel) rfl)) <|
  z_ac (j := 15) rfl (z_eI (sp_istore_n (q := 3) dX9_followers_22 rfl (by decide) (fun _ _ => rfl) rfl)) <|
  z_ac (j := 16) rfl (z_eI (sp_iload_n (q := 3) dX9_followers_23 rfl rfl)) <|
  z_ac (j := 17) rfl (z_eI (sp_aload_n (q := 0) dX9_followers_24 rfl rfl)) <|
  z_ac (j := 18) rfl (z_eI (sp_getf (C := RX9) (T := TX9) (Nf := 23) dX9_followers_25 rfl inX9 (by decide) wf_1346 rfl)) <|
  z_ac (j := 19) rfl (z_eI (sp_iconst dX9_followers_28 (by decide +kernel) rfl)) <|
  z_ac (j := 20) rfl (z_eI (sp_iald dX9_followers_29 rfl)) <|
  z_ac (j := 21) rfl (z_eI (sp_icmp_ge dX9_followers_30 rfl rfl)) <|
  z_ac (j := 22) rfl (z_eI (sp_aload_n (q := 0) dX9_followers_33 rfl rfl)) <|
  z_ac (j := 23) rfl (z_eI (sp_getf (C := RX9) (T := TX9) (Nf := 23) dX9_followers_34 rfl inX9 (by decide) wf_1346 rfl)) <|
  z_ac (j := 24) rfl (z_eI (sp_iload_n (q := 3) dX9_followers_37 rfl rfl)) <|
  z_ac (j := 25) rfl (z_eI (sp_iconst dX9_followers_38 (by decide +kernel) rfl)) <|
  z_ac (j := 26) rfl (z_cS dX9_followers_39 wl_1521 qX9_walkerAt (by decide +kernel) (z_sn rfl rfl) rfl) <|
  z_ac (j := 27) rfl (z_eI (sp_iald dX9_followers_42 rfl)) <|
  z_ac (j := 28) rfl (z_eI (sp_if_ne dX9_followers_43 rfl rfl)) <|
  z_ac (j := 29) rfl (z_eI (sp_aload_n (q := 0) dX9_followers_46 rfl rfl)) <|
  z_ac (j := 30) rfl (z_eI (sp_getf (C := RX9) (T := TX9) (Nf := 23) dX9_followers_47 rfl inX9 (by decide) wf_1346 rfl)) <|
  z_ac (j := 31) rfl (z_eI (sp_iload_n (q := 3) dX9_followers_50 rfl rfl)) <|
  z_ac (j := 32) rfl (z_eI (sp_iconst dX9_followers_51 (by decide +kernel) rfl)) <|
  z_ac (j := 33) rfl (z_cS dX9_followers_52 wl_1521 qX9_walkerAt (by decide +kernel) (z_sn rfl rfl) rfl) <|
  z_ac (j := 34) rfl (z_eI (sp_iald dX9_followers_55 rfl)) <|
  z_ac (j := 35) rfl (z_eI (sp_iload_n (q := 1) dX9_followers_56 rfl rfl)) <|
  z_ac (j := 36) rfl (z_eI (sp_icmp_ne dX9_followers_57 rfl rfl)) <|
  z_ac (j := 37) rfl (z_eI (sp_iinc dX9_followers_60 (by decide +kernel) (by decide) (fun _ _ => rfl) rfl)) <|
  z_ac (j := 38) rfl (z_eI (sp_iinc dX9_followers_63 (by decide +kernel) (by decide) (fun _ _ => rfl) rfl)) <|
  z_ac (j := 39) rfl (z_eI (sp_goto dX9_followers_66 rfl)) <|
  z_ac (j := 40) rfl (z_eI (sp_iload_n (q := 2) dX9_followers_69 rfl rfl)) <|
  z_ac (j := 41) rfl (z_eR (sr_int dX9_followers_70 rfl)) <| z_an
theorem dX9_leadsAstray_0 : decode cX9_leadsAstray 0 = .ok (.aload_n 0, 1) := by decide +kernel
theorem dX9_leadsAstray_1 : decode cX9_leadsAstray 1 = .ok (.iconst 0, 1) := by decide +kernel
theorem dX9_leadsAstray_2 : decode cX9_leadsAstray 2 = .ok (.putfield 49, 3) := by decide +kernel
theorem dX9_leadsAstray_5 : decode cX9_leadsAstray 5 = .ok (.aload_n 0, 1) := by decide +kernel
theorem dX9_leadsAstray_6 : decode cX9_leadsAstray 6 = .ok (.iload_n 1, 1) := by decide +kernel
theorem dX9_leadsAstray_7 : decode cX9_leadsAstray 7 = .ok (.invokevirtual 288, 3) := by decide +kernel
theorem dX9_leadsAstray_10 : decode cX9_leadsAstray 10 = .ok (.ifCond .eq 14, 3) := by decide +kernel
theorem dX9_leadsAstray_13 : decode cX9_leadsAstray 13 = .ok (.aload_n 0, 1) := by decide +kernel
theorem dX9_leadsAstray_14 : decode cX9_leadsAstray 14 = .ok (.getfield 7, 3) := by decide +kernel
theorem dX9_leadsAstray_17 : decode cX9_leadsAstray 17 = .ok (.iload_n 1, 1) := by decide +kernel
theorem dX9_leadsAstray_18 : decode cX9_leadsAstray 18 = .ok (.invokestatic 294, 3) := by decide +kernel
theorem dX9_leadsAstray_21 : decode cX9_leadsAstray 21 = .ok (.goto 8, 3) := by decide +kernel
theorem dX9_leadsAstray_24 : decode cX9_leadsAstray 24 = .ok (.aload_n 0, 1) := by decide +kernel
theorem dX9_leadsAstray_25 : decode cX9_leadsAstray 25 = .ok (.iconst 1, 1) := by decide +kernel
theorem dX9_leadsAstray_26 : decode cX9_leadsAstray 26 = .ok (.invokevirtual 278, 3) := by decide +kernel
theorem dX9_leadsAstray_29 : decode cX9_leadsAstray 29 = .ok (.ireturn, 1) := by decide +kernel
theorem tX9_leadsAstray {L : Nat} {xs : Nat → Int32} {N : Nat} : z_AllE (zE L xs N 89) 0 (kX9_leadsAstray N) :=
  z_ac (j := 1) rfl (z_eI (sp_aload_n (q := 0) dX9_leadsAstray_0 rfl rfl)) <|
  z_ac (j := 2) rfl (z_eI (sp_iconst dX9_leadsAstray_1 (by decide +kernel) rfl)) <|
  z_ac (j := 3) rfl (z_eI (sp_putI (C := RX9) (T := TX9) (Nf := 23) dX9_leadsAstray_2 rfl inX9 tyX9_ok nmX9 (by decide) wf_1356 rfl (by decide +kernel) rfl)) <|
  z_ac (j := 4) rfl (z_eI (sp_aload_n (q := 0) dX9_leadsAstray_5 rfl rfl)) <|
  z_ac (j := 5) rfl (z_eI (sp_iload_n (q := 1) dX9_leadsAstray_6 rfl rfl)) <|
  z_ac (j := 6) rfl (z_cV dX9_leadsAstray_7 wl_1654 qX9_isLight (by decide +kernel) ⟨_, _, rfl⟩ (z_sn rfl rfl) rfl) <|
  z_ac (j := 7) rfl (z_eI (sp_if_eq dX9_leadsAstray_10 rfl rfl)) <|
  z_ac (j := 8) rfl (z_eI (sp_aload_n (q := 0) dX9_leadsAstray_13 rfl rfl)) <|
  z_ac (j := 9) rfl (z_eI (sp_getf (C := RX9) (T := TX9) (Nf := 23) dX9_leadsAstray_14 rfl inX9 (by decide) wf_1346 rfl)) <|
  z_ac (j := 10) rfl (z_eI (sp_iload_n (q := 1) dX9_leadsAstray_17 rfl rfl)) <|
  z_ac (j := 11) rfl (z_cS dX9_leadsAstray_18 wl_1686 qX9_isAstray (by decide +kernel) (z_sn rfl rfl) rfl) <|
  z_ac (j := 12) rfl (z_eI (sp_goto dX9_leadsAstray_21 rfl)) <|
  z_ac (j := 13) rfl (z_eI (sp_aload_n (q := 0) dX9_leadsAstray_24 rfl rfl)) <|
  z_ac (j := 14) rfl (z_eI (sp_iconst dX9_leadsAstray_25 (by decide +kernel) rfl)) <|
  z_ac (j := 15) rfl (z_cV dX9_leadsAstray_26 wl_1554 qX9_isFailed (by decide +kernel) ⟨_, _, rfl⟩ (z_sn rfl rfl) rfl) <|
  z_ac (j := 16) rfl (z_eR (sr_bool dX9_leadsAstray_29 rfl)) <| z_an
theorem dX9_travellerCount_0 : decode cX9_travellerCount 0 = .ok (.aload_n 0, 1) := by decide +kernel
theorem dX9_travellerCount_1 : decode cX9_travellerCount 1 = .ok (.iconst 0, 1) := by decide +kernel
theorem dX9_travellerCount_2 : decode cX9_travellerCount 2 = .ok (.putfield 49, 3) := by decide +kernel
theorem dX9_travellerCount_5 : decode cX9_travellerCount 5 = .ok (.aload_n 0, 1) := by decide +kernel
theorem dX9_travellerCount_6 : decode cX9_travellerCount 6 = .ok (.getfield 7, 3) := by decide +kernel
theorem dX9_travellerCount_9 : decode cX9_travellerCount 9 = .ok (.iconst 5, 1) := by decide +kernel
theorem dX9_travellerCount_10 : decode cX9_travellerCount 10 = .ok (.iaload, 1) := by decide +kernel
theorem dX9_travellerCount_11 : decode cX9_travellerCount 11 = .ok (.ireturn, 1) := by decide +kernel
theorem tX9_travellerCount {L : Nat} {xs : Nat → Int32} {N : Nat} : z_AllE (zE L xs N 90) 0 (kX9_travellerCount N) :=
  z_ac (j := 1) rfl (z_eI (sp_aload_n (q := 0) dX9_travellerCount_0 rfl rfl)) <|
  z_ac (j := 2) rfl (z_eI (sp_iconst dX9_travellerCount_1 (by decide +kernel) rfl)) <|
  z_ac (j := 3) rfl (z_eI (sp_putI (C := RX9) (T := TX9) (Nf := 23) dX9_travellerCount_2 rfl inX9 tyX9_ok nmX9 (by decide) wf_1356 rfl (by decide +kernel) rfl)) <|
  z_ac (j := 4) rfl (z_eI (sp_aload_n (q := 0) dX9_travellerCount_5 rfl rfl)) <|
  z_ac (j := 5) rfl (z_eI (sp_getf (C := RX9) (T := TX9) (Nf := 23) dX9_travellerCount_6 rfl inX9 (by decide) wf_1346 rfl)) <|
  z_ac (j := 6) rfl (z_eI (sp_iconst dX9_travellerCount_9 (by decide +kernel) rfl)) <|
  z_ac (j := 7) rfl (z_eI (sp_iald dX9_travellerCount_10 rfl)) <|
  z_ac (j := 8) rfl (z_eR (sr_int dX9_travellerCount_11 rfl)) <| z_an
theorem dX9_walkerNumber_0 : decode cX9_walkerNumber 0 = .ok (.aload_n 0, 1) := by decide +kernel
theorem dX9_walkerNumber_1 : decode cX9_walkerNumber 1 = .ok (.iconst 0, 1) := by decide +kernel
theorem dX9_walkerNumber_2 : decode cX9_walkerNumber 2 = .ok (.putfield 49, 3) := by decide +kernel
theorem dX9_walkerNumber_5 : decode cX9_walkerNumber 5 = .ok (.aload_n 0, 1) := by decide +kernel
theorem dX9_walkerNumber_6 : decode cX9_walkerNumber 6 = .ok (.iload_n 1, 1) := by decide +kernel
theorem dX9_walkerNumber_7 : decode cX9_walkerNumber 7 = .ok (.invokevirtual 298, 3) := by decide +kernel
theorem dX9_walkerNumber_10 : decode cX9_walkerNumber 10 = .ok (.ifCond .eq 16, 3) := by decide +kernel
theorem dX9_walkerNumber_13 : decode cX9_walkerNumber 13 = .ok (.aload_n 0, 1) := by decide +kernel
theorem dX9_walkerNumber_14 : decode cX9_walkerNumber 14 = .ok (.getfield 7, 3) := by decide +kernel
theorem dX9_walkerNumber_17 : decode cX9_walkerNumber 17 = .ok (.iload_n 1, 1) := by decide +kernel
theorem dX9_walkerNumber_18 : decode cX9_walkerNumber 18 = .ok (.iload_n 2, 1) := by decide +kernel
theorem dX9_walkerNumber_19 : decode cX9_walkerNumber 19 = .ok (.invokestatic 95, 3) := by decide +kernel
theorem dX9_walkerNumber_22 : decode cX9_walkerNumber 22 = .ok (.iaload, 1) := by decide +kernel
theorem dX9_walkerNumber_23 : decode cX9_walkerNumber 23 = .ok (.goto 8, 3) := by decide +kernel
theorem dX9_walkerNumber_26 : decode cX9_walkerNumber 26 = .ok (.aload_n 0, 1) := by decide +kernel
theorem dX9_walkerNumber_27 : decode cX9_walkerNumber 27 = .ok (.iconst 1, 1) := by decide +kernel
theorem dX9_walkerNumber_28 : decode cX9_walkerNumber 28 = .ok (.invokevirtual 167, 3) := by decide +kernel
theorem dX9_walkerNumber_31 : decode cX9_walkerNumber 31 = .ok (.ireturn, 1) := by decide +kernel
theorem tX9_walkerNumber {L : Nat} {xs : Nat → Int32} {N : Nat} : z_AllE (zE L xs N 91) 0 (kX9_walkerNumber N) :=
  z_ac (j := 1) rfl (z_eI (sp_aload_n (q := 0) dX9_walkerNumber_0 rfl rfl)) <|
  z_ac (j := 2) rfl (z_eI (sp_iconst dX9_walkerNumber_1 (by decide +kernel) rfl)) <|
  z_ac (j := 3) rfl (z_eI (sp_putI (C := RX9) (T := TX9) (Nf := 23) dX9_walkerNumber_2 rfl inX9 tyX9_ok nmX9 (by decide) wf_1356 rfl (by decide +kernel) rfl)) <|
  z_ac (j := 4) rfl (z_eI (sp_aload_n (q := 0) dX9_walkerNumber_5 rfl rfl)) <|
  z_ac (j := 5) rfl (z_eI (sp_iload_n (q := 1) dX9_walkerNumber_6 rfl rfl)) <|
  z_ac (j := 6) rfl (z_cV dX9_walkerNumber_7 wl_1704 qX9_isWalker (by decide +kernel) ⟨_, _, rfl⟩ (z_sn rfl rfl) rfl) <|
  z_ac (j := 7) rfl (z_eI (sp_if_eq dX9_walkerNumber_10 rfl rfl)) <|
  z_ac (j := 8) rfl (z_eI (sp_aload_n (q := 0) dX9_walkerNumber_13 rfl rfl)) <|
  z_ac (j := 9) rfl (z_eI (sp_getf (C := RX9) (T := TX9) (Nf := 23) dX9_walkerNumber_14 rfl inX9 (by decide) wf_1346 rfl)) <|
  z_ac (j := 10) rfl (z_eI (sp_iload_n (q := 1) dX9_walkerNumber_17 rfl rfl)) <|
  z_ac (j := 11) rfl (z_eI (sp_iload_n (q := 2) dX9_walkerNumber_18 rfl rfl)) <|
  z_ac (j := 12) rfl (z_cS dX9_walkerNumber_19 wl_1521 qX9_walkerAt (by decide +kernel) (z_sn rfl rfl) rfl) <|
  z_ac (j := 13) rfl (z_eI (sp_iald dX9_walkerNumber_22 rfl)) <|
  z_ac (j := 14) rfl (z_eI (sp_goto dX9_walkerNumber_23 rfl)) <|
  z_ac (j := 15) rfl (z_eI (sp_aload_n (q := 0) dX9_walkerNumber_26 rfl rfl)) <|
  z_ac (j := 16) rfl (z_eI (sp_iconst dX9_walkerNumber_27 (by decide +kernel) rfl)) <|
  z_ac (j := 17) rfl (z_cV dX9_walkerNumber_28 wl_1424 qX9_fails (by decide +kernel) ⟨_, _, rfl⟩ (z_sn rfl rfl) rfl) <|
  z_ac (j := 18) rfl (z_eR (sr_int dX9_walkerNumber_31 rfl)) <| z_an
theorem dX9_hasState_0 : decode cX9_hasState 0 = .ok (.aload_n 0, 1) := by decide +kernel
theorem dX9_hasState_1 : decode cX9_hasState 1 = .ok (.iconst 0, 1) := by decide +kernel
theorem dX9_hasState_2 : decode cX9_hasState 2 = .ok (.putfield 49, 3) := by decide +kernel
theorem dX9_hasState_5 : decode cX9_hasState 5 = .ok (.aload_n 0, 1) := by decide +kernel
theorem dX9_hasState_6 : decode cX9_hasState 6 = .ok (.iload_n 1, 1) := by decide +kernel
theorem dX9_hasState_7 : decode cX9_hasState 7 = .ok (.invokevirtual 298, 3) := by decide +kernel
theorem dX9_hasState_10 : decode cX9_hasState 10 = .ok (.ifCond .eq 25, 3) := by decide +kernel
theorem dX9_hasState_13 : decode cX9_hasState 13 = .ok (.aload_n 0, 1) := by decide +kernel
theorem dX9_hasState_14 : decode cX9_hasState 14 = .ok (.getfield 7, 3) := by decide +kernel
theorem dX9_hasState_17 : decode cX9_hasState 17 = .ok (.iload_n 1, 1) := by decide +kernel
theorem dX9_hasState_18 : decode cX9_hasState 18 = .ok (.iconst 2, 1) := by decide +kernel
theorem dX9_hasState_19 : decode cX9_hasState 19 = .ok (.invokestatic 95, 3) := by decide +kernel
theorem dX9_hasState_22 : decode cX9_hasState 22 = .ok (.iaload, 1) := by decide +kernel
theorem dX9_hasState_23 : decode cX9_hasState 23 = .ok (.iload_n 2, 1) := by decide +kernel
theorem dX9_hasState_24 : decode cX9_hasState 24 = .ok (.if_icmp .ne 7, 3) := by decide +kernel
theorem dX9_hasState_27 : decode cX9_hasState 27 = .ok (.iconst 1, 1) := by decide +kernel
theorem dX9_hasState_28 : decode cX9_hasState 28 = .ok (.goto 12, 3) := by decide +kernel
theorem dX9_hasState_31 : decode cX9_hasState 31 = .ok (.iconst 0, 1) := by decide +kernel
theorem dX9_hasState_32 : decode cX9_hasState 32 = .ok (.goto 8, 3) := by decide +kernel
theorem dX9_hasState_35 : decode cX9_hasState 35 = .ok (.aload_n 0, 1) := by decide +kernel
theorem dX9_hasState_36 : decode cX9_hasState 36 = .ok (.iconst 1, 1) := by decide +kernel
theorem dX9_hasState_37 : decode cX9_hasState 37 = .ok (.invokevirtual 278, 3) := by decide +kernel
theorem dX9_hasState_40 : decode cX9_hasState 40 = .ok (.ireturn, 1) := by decide +kernel
theorem tX9_hasState {L : Nat} {xs : Nat → Int32} {N : Nat} : z_AllE (zE L xs N 92) 0 (kX9_hasState N) :=
  z_ac (j := 1) rfl (z_eI (sp_aload_n (q := 0) dX9_hasState_0 rfl rfl)) <|
  z_ac (j := 2) rfl (z_eI (sp_iconst dX9_hasState_1 (by decide +kernel) rfl)) <|
  z_ac (j := 3) rfl (z_eI (sp_putI (C := RX9) (T := TX9) (Nf := 23) dX9_hasState_2 rfl inX9 tyX9_ok nmX9 (by decide) wf_1356 rfl (by decide +kernel) rfl)) <|
  z_ac (j := 4) rfl (z_eI (sp_aload_n (q := 0) dX9_hasState_5 rfl rfl)) <|
  z_ac (j := 5) rfl (z_eI (sp_iload_n (q := 1) dX9_hasState_6 rfl rfl)) <|
  z_ac (j := 6) rfl (z_cV dX9_hasState_7 wl_1704 qX9_isWalker (by decide +kernel) ⟨_, _, rfl⟩ (z_sn rfl rfl) rfl) <|
  z_ac (j := 7) rfl (z_eI (sp_if_eq dX9_hasState_10 rfl rfl)) <|
  z_ac (j := 8) rfl (z_eI (sp_aload_n (q := 0) dX9_hasState_13 rfl rfl)) <|
  z_ac (j := 9) rfl (z_eI (sp_getf (C := RX9) (T := TX9) (Nf := 23) dX9_hasState_14 rfl inX9 (by decide) wf_1346 rfl)) <|
  z_ac (j := 10) rfl (z_eI (sp_iload_n (q := 1) dX9_hasState_17 rfl rfl)) <|
  z_ac (j := 11) rfl (z_eI (sp_iconst dX9_hasState_18 (by decide +kernel) rfl)) <|
  z_ac (j := 12) rfl (z_cS dX9_hasState_19 wl_1521 qX9_walkerAt (by decide +kernel) (z_sn rfl rfl) rfl) <|
  z_ac (j := 13) rfl (z_eI (sp_iald dX9_hasState_22 rfl)) <|
  z_ac (j := 14) rfl (z_eI (sp_iload_n (q := 2) dX9_hasState_23 rfl rfl)) <|
  z_ac (j := 15) rfl (z_eI (sp_icmp_ne dX9_hasState_24 rfl rfl)) <|
  z_ac (j := 16) rfl (z_eI (sp_iconst dX9_hasState_27 (by decide +kernel) rfl)) <|
  z_ac (j := 17) rfl (z_eI (sp_goto dX9_hasState_28 rfl)) <|
  z_ac (j := 18) rfl (z_eI (sp_iconst dX9_hasState_31 (by decide +kernel) rfl)) <|
  z_ac (j := 19) rfl (z_eI (sp_goto dX9_hasState_32 rfl)) <|
  z_ac (j := 20) rfl (z_eI (sp_aload_n (q := 0) dX9_hasState_35 rfl rfl)) <|
  z_ac (j := 21) rfl (z_eI (sp_iconst dX9_hasState_36 (by decide +kernel) rfl)) <|
  z_ac (j := 22) rfl (z_cV dX9_hasState_37 wl_1554 qX9_isFailed (by decide +kernel) ⟨_, _, rfl⟩ (z_sn rfl rfl) rfl) <|
  z_ac (j := 23) rfl (z_eR (sr_bool dX9_hasState_40 rfl)) <| z_an
theorem dX9_travellerColumn_0 : decode cX9_travellerColumn 0 = .ok (.aload_n 0, 1) := by decide +kernel
theorem dX9_travellerColumn_1 : decode cX9_travellerColumn 1 = .ok (.iload_n 1, 1) := by decide +kernel
theorem dX9_travellerColumn_2 : decode cX9_travellerColumn 2 = .ok (.iconst 0, 1) := by decide +kernel
theorem dX9_travellerColumn_3 : decode cX9_travellerColumn 3 = .ok (.invokevirtual 301, 3) := by decide +kernel
theorem dX9_travellerColumn_6 : decode cX9_travellerColumn 6 = .ok (.ireturn, 1) := by decide +kernel
theorem tX9_travellerColumn {L : Nat} {xs : Nat → Int32} {N : Nat} : z_AllE (zE L xs N 93) 0 (kX9_travellerColumn N) :=
  z_ac (j := 1) rfl (z_eI (sp_aload_n (q := 0) dX9_travellerColumn_0 rfl rfl)) <|
  z_ac (j := 2) rfl (z_eI (sp_iload_n (q := 1) dX9_travellerColumn_1 rfl rfl)) <|
  z_ac (j := 3) rfl (z_eI (sp_iconst dX9_travellerColumn_2 (by decide +kernel) rfl)) <|
  z_ac (j := 4) rfl (z_cV dX9_travellerColumn_3 wl_1700 qX9_walkerNumber (by decide +kernel) ⟨_, _, rfl⟩ (z_sn rfl rfl) rfl) <|
  z_ac (j := 5) rfl (z_eR (sr_int dX9_travellerColumn_6 rfl)) <| z_an
theorem dX9_travellerRow_0 : decode cX9_travellerRow 0 = .ok (.aload_n 0, 1) := by decide +kernel
theorem dX9_travellerRow_1 : decode cX9_travellerRow 1 = .ok (.iload_n 1, 1) := by decide +kernel
theorem dX9_travellerRow_2 : decode cX9_travellerRow 2 = .ok (.iconst 1, 1) := by decide +kernel
theorem dX9_travellerRow_3 : decode cX9_travellerRow 3 = .ok (.invokevirtual 301, 3) := by decide +kernel
theorem dX9_travellerRow_6 : decode cX9_travellerRow 6 = .ok (.ireturn, 1) := by decide +kernel
theorem tX9_travellerRow {L : Nat} {xs : Nat → Int32} {N : Nat} : z_AllE (zE L xs N 94) 0 (kX9_travellerRow N) :=
  z_ac (j := 1) rfl (z_eI (sp_aload_n (q := 0) dX9_travellerRow_0 rfl rfl)) <|
  z_ac (j := 2) rfl (z_eI (sp_iload_n (q := 1) dX9_travellerRow_1 rfl rfl)) <|
  z_ac (j := 3) rfl (z_eI (sp_iconst dX9_travellerRow_2 (by decide +kernel) rfl)) <|
  z_ac (j := 4) rfl (z_cV dX9_travellerRow_3 wl_1700 qX9_walkerNumber (by decide +kernel) ⟨_, _, rfl⟩ (z_sn rfl rfl) rfl) <|
  z_ac (j := 5) rfl (z_eR (sr_int dX9_travellerRow_6 rfl)) <| z_an
theorem dX9_isWalking_0 : decode cX9_isWalking 0 = .ok (.aload_n 0, 1) := by decide +kernel
theorem dX9_isWalking_1 : decode cX9_isWalking 1 = .ok (.iload_n 1, 1) := by decide +kernel
theorem dX9_isWalking_2 : decode cX9_isWalking 2 = .ok (.iconst 0, 1) := by decide +kernel
theorem dX9_isWalking_3 : decode cX9_isWalking 3 = .ok (.invokevirtual 304, 3) := by decide +kernel
theorem dX9_isWalking_6 : decode cX9_isWalking 6 = .ok (.ireturn, 1) := by decide +kernel
theorem tX9_isWalking {L : Nat} {xs : Nat → Int32} {N : Nat} : z_AllE (zE L xs N 95) 0 (kX9_isWalking N) :=
  z_ac (j := 1) rfl (z_eI (sp_aload_n (q := 0) dX9_isWalking_0 rfl rfl)) <|
  z_ac (j := 2) rfl (z_eI (sp_iload_n (q := 1) dX9_isWalking_1 rfl rfl)) <|
  z_ac (j := 3) rfl (z_eI (sp_iconst dX9_isWalking_2 (by decide +kernel) rfl)) <|
  z_ac (j := 4) rfl (z_cV dX9_isWalking_3 wl_1716 qX9_hasState (by decide +kernel) ⟨_, _, rfl⟩ (z_sn rfl rfl) rfl) <|
  z_ac (j := 5) rfl (z_eR (sr_bool dX9_isWalking_6 rfl)) <| z_an
theorem dX9_hasArrived_0 : decode cX9_hasArrived 0 = .ok (.aload_n 0, 1) := by decide +kernel
theorem dX9_hasArrived_1 : decode cX9_hasArrived 1 = .ok (.iload_n 1, 1) := by decide +kernel
theorem dX9_hasArrived_2 : decode cX9_hasArrived 2 = .ok (.iconst 1, 1) := by decide +kernel
theorem dX9_hasArrived_3 : decode cX9_hasArrived 3 = .ok (.invokevirtual 304, 3) := by decide +kernel
theorem dX9_hasArrived_6 : decode cX9_hasArrived 6 = .ok (.ireturn, 1) := by decide +kernel
theorem tX9_hasArrived {L : Nat} {xs : Nat → Int32} {N : Nat} : z_AllE (zE L xs N 96) 0 (kX9_hasArrived N) :=
  z_ac (j := 1) rfl (z_eI (sp_aload_n (q := 0) dX9_hasArrived_0 rfl rfl)) <|
  z_ac (j := 2) rfl (z_eI (sp_iload_n (q := 1) dX9_hasArrived_1 rfl rfl)) <|
  z_ac (j := 3) rfl (z_eI (sp_iconst dX9_hasArrived_2 (by decide +kernel) rfl)) <|
  z_ac (j := 4) rfl (z_cV dX9_hasArrived_3 wl_1716 qX9_hasState (by decide +kernel) ⟨_, _, rfl⟩ (z_sn rfl rfl) rfl) <|
  z_ac (j := 5) rfl (z_eR (sr_bool dX9_hasArrived_6 rfl)) <| z_an
theorem dX9_hasSunk_0 : decode cX9_hasSunk 0 = .ok (.aload_n 0, 1) := by decide +kernel
theorem dX9_hasSunk_1 : decode cX9_hasSunk 1 = .ok (.iload_n 1, 1) := by decide +kernel
theorem dX9_hasSunk_2 : decode cX9_hasSunk 2 = .ok (.iconst 2, 1) := by decide +kernel
theorem dX9_hasSunk_3 : decode cX9_hasSunk 3 = .ok (.invokevirtual 304, 3) := by decide +kernel
theorem dX9_hasSunk_6 : decode cX9_hasSunk 6 = .ok (.ireturn, 1) := by decide +kernel
theorem tX9_hasSunk {L : Nat} {xs : Nat → Int32} {N : Nat} : z_AllE (zE L xs N 97) 0 (kX9_hasSunk N) :=
  z_ac (j := 1) rfl (z_eI (sp_aload_n (q := 0) dX9_hasSunk_0 rfl rfl)) <|
  z_ac (j := 2) rfl (z_eI (sp_iload_n (q := 1) dX9_hasSunk_1 rfl rfl)) <|
  z_ac (j := 3) rfl (z_eI (sp_iconst dX9_hasSunk_2 (by decide +kernel) rfl)) <|
  z_ac (j := 4) rfl (z_cV dX9_hasSunk_3 wl_1716 qX9_hasState (by decide +kernel) ⟨_, _, rfl⟩ (z_sn rfl rfl) rfl) <|
  z_ac (j := 5) rfl (z_eR (sr_bool dX9_hasSunk_6 rfl)) <| z_an
theorem dX9_stepsTaken_0 : decode cX9_stepsTaken 0 = .ok (.aload_n 0, 1) := by decide +kernel
theorem dX9_stepsTaken_1 : decode cX9_stepsTaken 1 = .ok (.iload_n 1, 1) := by decide +kernel
theorem dX9_stepsTaken_2 : decode cX9_stepsTaken 2 = .ok (.bipush 6, 2) := by decide +kernel
theorem dX9_stepsTaken_4 : decode cX9_stepsTaken 4 = .ok (.invokevirtual 301, 3) := by decide +kernel
theorem dX9_stepsTaken_7 : decode cX9_stepsTaken 7 = .ok (.ireturn, 1) := by decide +kernel
theorem tX9_stepsTaken {L : Nat} {xs : Nat → Int32} {N : Nat} : z_AllE (zE L xs N 98) 0 (kX9_stepsTaken N) :=
  z_ac (j := 1) rfl (z_eI (sp_aload_n (q := 0) dX9_stepsTaken_0 rfl rfl)) <|
  z_ac (j := 2) rfl (z_eI (sp_iload_n (q := 1) dX9_stepsTaken_1 rfl rfl)) <|
  z_ac (j := 3) rfl (z_eI (sp_bipush dX9_stepsTaken_2 (by decide +kernel) rfl)) <|
  z_ac (j := 4) rfl (z_cV dX9_stepsTaken_4 wl_1700 qX9_walkerNumber (by decide +kernel) ⟨_, _, rfl⟩ (z_sn rfl rfl) rfl) <|
  z_ac (j := 5) rfl (z_eR (sr_int dX9_stepsTaken_7 rfl)) <| z_an
theorem dX9_hasTarget_0 : decode cX9_hasTarget 0 = .ok (.aload_n 0, 1) := by decide +kernel
theorem dX9_hasTarget_1 : decode cX9_hasTarget 1 = .ok (.iconst 0, 1) := by decide +kernel
theorem dX9_hasTarget_2 : decode cX9_hasTarget 2 = .ok (.putfield 49, 3) := by decide +kernel
theorem dX9_hasTarget_5 : decode cX9_hasTarget 5 = .ok (.aload_n 0, 1) := by decide +kernel
theorem dX9_hasTarget_6 : decode cX9_hasTarget 6 = .ok (.iload_n 1, 1) := by decide +kernel
theorem dX9_hasTarget_7 : decode cX9_hasTarget 7 = .ok (.invokevirtual 298, 3) := by decide +kernel
theorem dX9_hasTarget_10 : decode cX9_hasTarget 10 = .ok (.ifCond .eq 24, 3) := by decide +kernel
theorem dX9_hasTarget_13 : decode cX9_hasTarget 13 = .ok (.aload_n 0, 1) := by decide +kernel
theorem dX9_hasTarget_14 : decode cX9_hasTarget 14 = .ok (.getfield 7, 3) := by decide +kernel
theorem dX9_hasTarget_17 : decode cX9_hasTarget 17 = .ok (.iload_n 1, 1) := by decide +kernel
theorem dX9_hasTarget_18 : decode cX9_hasTarget 18 = .ok (.iconst 3, 1) := by decide +kernel
theorem dX9_hasTarget_19 : decode cX9_hasTarget 19 = .ok (.invokestatic 95, 3) := by decide +kernel
theorem dX9_hasTarget_22 : decode cX9_hasTarget 22 = .ok (.iaload, 1) := by decide +kernel
theorem dX9_hasTarget_23 : decode cX9_hasTarget 23 = .ok (.ifCond .lt 7, 3) := by decide +kernel
theorem dX9_hasTarget_26 : decode cX9_hasTarget 26 = .ok (.iconst 1, 1) := by decide +kernel
theorem dX9_hasTarget_27 : decode cX9_hasTarget 27 = .ok (.goto 12, 3) := by decide +kernel
theorem dX9_hasTarget_30 : decode cX9_hasTarget 30 = .ok (.iconst 0, 1) := by decide +kernel
theorem dX9_hasTarget_31 : decode cX9_hasTarget 31 = .ok (.goto 8, 3) := by decide +kernel
theorem dX9_hasTarget_34 : decode cX9_hasTarget 34 = .ok (.aload_n 0, 1) := by decide +kernel
theorem dX9_hasTarget_35 : decode cX9_hasTarget 35 = .ok (.iconst 1, 1) := by decide +kernel
theorem dX9_hasTarget_36 : decode cX9_hasTarget 36 = .ok (.invokevirtual 278, 3) := by decide +kernel
theorem dX9_hasTarget_39 : decode cX9_hasTarget 39 = .ok (.ireturn, 1) := by decide +kernel
theorem tX9_hasTarget {L : Nat} {xs : Nat → Int32} {N : Nat} : z_AllE (zE L xs N 99) 0 (kX9_hasTarget N) :=
  z_ac (j := 1) rfl (z_eI (sp_aload_n (q := 0) dX9_hasTarget_0 rfl rfl)) <|
  z_ac (j := 2) rfl (z_eI (sp_iconst dX9_hasTarget_1 (by decide +kernel) rfl)) <|
  z_ac (j := 3) rfl (z_eI (sp_putI (C := RX9) (T := TX9) (Nf := 23) dX9_hasTarget_2 rfl inX9 tyX9_ok nmX9 (by decide) wf_1356 rfl (by decide +kernel) rfl)) <|
  z_ac (j := 4) rfl (z_eI (sp_aload_n (q := 0) dX9_hasTarget_5 rfl rfl)) <|
  z_ac (j := 5) rfl (z_eI (sp_iload_n (q := 1) dX9_hasTarget_6 rfl rfl)) <|
  z_ac (j := 6) rfl (z_cV dX9_hasTarget_7 wl_1704 qX9_isWalker (by decide +kernel) ⟨_, _, rfl⟩ (z_sn rfl rfl) rfl) <|
  z_ac (j := 7) rfl (z_eI (sp_if_eq dX9_hasTarget_10 rfl rfl)) <|
  z_ac (j := 8) rfl (z_eI (sp_aload_n (q := 0) dX9_hasTarget_13 rfl rfl)) <|
  z_ac (j := 9) rfl (z_eI (sp_getf (C := RX9) (T := TX9) (Nf := 23) dX9_hasTarget_14 rfl inX9 (by decide) wf_1346 rfl)) <|
  z_ac (j := 10) rfl (z_eI (sp_iload_n (q := 1) dX9_hasTarget_17 rfl rfl)) <|
  z_ac (j := 11) rfl (z_eI (sp_iconst dX9_hasTarget_18 (by decide +kernel) rfl)) <|
  z_ac (j := 12) rfl (z_cS dX9_hasTarget_19 wl_1521 qX9_walkerAt (by decide +kernel) (z_sn rfl rfl) rfl) <|
  z_ac (j := 13) rfl (z_eI (sp_iald dX9_hasTarget_22 rfl)) <|
  z_ac (j := 14) rfl (z_eI (sp_if_lt dX9_hasTarget_23 rfl rfl)) <|
  z_ac (j := 15) rfl (z_eI (sp_iconst dX9_hasTarget_26 (by decide +kernel) rfl)) <|
  z_ac (j := 16) rfl (z_eI (sp_goto dX9_hasTarget_27 rfl)) <|
  z_ac (j := 17) rfl (z_eI (sp_iconst dX9_hasTarget_30 (by decide +kernel) rfl)) <|
  z_ac (j := 18) rfl (z_eI (sp_goto dX9_hasTarget_31 rfl)) <|
  z_ac (j := 19) rfl (z_eI (sp_aload_n (q := 0) dX9_hasTarget_34 rfl rfl)) <|
  z_ac (j := 20) rfl (z_eI (sp_iconst dX9_hasTarget_35 (by decide +kernel) rfl)) <|
  z_ac (j := 21) rfl (z_cV dX9_hasTarget_36 wl_1554 qX9_isFailed (by decide +kernel) ⟨_, _, rfl⟩ (z_sn rfl rfl) rfl) <|
  z_ac (j := 22) rfl (z_eR (sr_bool dX9_hasTarget_39 rfl)) <| z_an
theorem dX9_target_0 : decode cX9_target 0 = .ok (.aload_n 0, 1) := by decide +kernel
theorem dX9_target_1 : decode cX9_target 1 = .ok (.iconst 0, 1) := by decide +kernel
theorem dX9_target_2 : decode cX9_target 2 = .ok (.putfield 49, 3) := by decide +kernel
theorem dX9_target_5 : decode cX9_target 5 = .ok (.aload_n 0, 1) := by decide +kernel
theorem dX9_target_6 : decode cX9_target 6 = .ok (.iload_n 1, 1) := by decide +kernel
theorem dX9_target_7 : decode cX9_target 7 = .ok (.invokevirtual 298, 3) := by decide +kernel
theorem dX9_target_10 : decode cX9_target 10 = .ok (.ifCond .ne 9, 3) := by decide +kernel
theorem dX9_target_13 : decode cX9_target 13 = .ok (.aload_n 0, 1) := by decide +kernel
theorem dX9_target_14 : decode cX9_target 14 = .ok (.iconst 1, 1) := by decide +kernel
theorem dX9_target_15 : decode cX9_target 15 = .ok (.invokevirtual 167, 3) := by decide +kernel
theorem dX9_target_18 : decode cX9_target 18 = .ok (.ireturn, 1) := by decide +kernel
theorem dX9_target_19 : decode cX9_target 19 = .ok (.aload_n 0, 1) := by decide +kernel
theorem dX9_target_20 : decode cX9_target 20 = .ok (.getfield 7, 3) := by decide +kernel
theorem dX9_target_23 : decode cX9_target 23 = .ok (.iload_n 1, 1) := by decide +kernel
theorem dX9_target_24 : decode cX9_target 24 = .ok (.iconst 3, 1) := by decide +kernel
theorem dX9_target_25 : decode cX9_target 25 = .ok (.invokestatic 95, 3) := by decide +kernel
theorem dX9_target_28 : decode cX9_target 28 = .ok (.iaload, 1) := by decide +kernel
theorem dX9_target_29 : decode cX9_target 29 = .ok (.ifCond .ge 11, 3) := by decide +kernel
theorem dX9_target_32 : decode cX9_target 32 = .ok (.aload_n 0, 1) := by decide +kernel
theorem dX9_target_33 : decode cX9_target 33 = .ok (.iconst 2, 1) := by decide +kernel
theorem dX9_target_34 : decode cX9_target 34 = .ok (.invokevirtual 167, 3) := by decide +kernel
theorem dX9_target_37 : decode cX9_target 37 = .ok (.goto 13, 3) := by decide +kernel
theorem dX9_target_40 : decode cX9_target 40 = .ok (.aload_n 0, 1) := by decide +kernel
theorem dX9_target_41 : decode cX9_target 41 = .ok (.getfield 7, 3) := by decide +kernel
theorem dX9_target_44 : decode cX9_target 44 = .ok (.iload_n 1, 1) := by decide +kernel
theorem dX9_target_45 : decode cX9_target 45 = .ok (.iconst 3, 1) := by decide +kernel
theorem dX9_target_46 : decode cX9_target 46 = .ok (.invokestatic 95, 3) := by decide +kernel
theorem dX9_target_49 : decode cX9_target 49 = .ok (.iaload, 1) := by decide +kernel
theorem dX9_target_50 : decode cX9_target 50 = .ok (.ireturn, 1) := by decide +kernel
theorem tX9_target {L : Nat} {xs : Nat → Int32} {N : Nat} : z_AllE (zE L xs N 100) 0 (kX9_target N) :=
  z_ac (j := 1) rfl (z_eI (sp_aload_n (q := 0) dX9_target_0 rfl rfl)) <|
  z_ac (j := 2) rfl (z_eI (sp_iconst dX9_target_1 (by decide +kernel) rfl)) <|
  z_ac (j := 3) rfl (z_eI (sp_putI (C := RX9) (T := TX9) (Nf := 23) dX9_target_2 rfl inX9 tyX9_ok nmX9 (by decide) wf_1356 rfl (by decide +kernel) rfl)) <|
  z_ac (j := 4) rfl (z_eI (sp_aload_n (q := 0) dX9_target_5 rfl rfl)) <|
  z_ac (j := 5) rfl (z_eI (sp_iload_n (q := 1) dX9_target_6 rfl rfl)) <|
  z_ac (j := 6) rfl (z_cV dX9_target_7 wl_1704 qX9_isWalker (by decide +kernel) ⟨_, _, rfl⟩ (z_sn rfl rfl) rfl) <|
  z_ac (j := 7) rfl (z_eI (sp_if_ne dX9_target_10 rfl rfl)) <|
  z_ac (j := 8) rfl (z_eI (sp_aload_n (q := 0) dX9_target_13 rfl rfl)) <|
  z_ac (j := 9) rfl (z_eI (sp_iconst dX9_target_14 (by decide +kernel) rfl)) <|
  z_ac (j := 10) rfl (z_cV dX9_target_15 wl_1424 qX9_fails (by decide +kernel) ⟨_, _, rfl⟩ (z_sn rfl rfl) rfl) <|
  z_ac (j := 11) rfl (z_eR (sr_int dX9_target_18 rfl)) <|
  z_ac (j := 12) rfl (z_eI (sp_aload_n (q := 0) dX9_target_19 rfl rfl)) <|
  z_ac (j := 13) rfl (z_eI (sp_getf (C := RX9) (T := TX9) (Nf := 23) dX9_target_20 rfl inX9 (by decide) wf_1346 rfl)) <|
  z_ac (j := 14) rfl (z_eI (sp_iload_n (q := 1) dX9_target_23 rfl rfl)) <|
  z_ac (j := 15) rfl (z_eI (sp_iconst dX9_target_24 (by decide +kernel) rfl)) <|
  z_ac (j := 16) rfl (z_cS dX9_target_25 wl_1521 qX9_walkerAt (by decide +kernel) (z_sn rfl rfl) rfl) <|
  z_ac (j := 17) rfl (z_eI (sp_iald dX9_target_28 rfl)) <|
  z_ac (j := 18) rfl (z_eI (sp_if_ge dX9_target_29 rfl rfl)) <|
  z_ac (j := 19) rfl (z_eI (sp_aload_n (q := 0) dX9_target_32 rfl rfl)) <|
  z_ac (j := 20) rfl (z_eI (sp_iconst dX9_target_33 (by decide +kernel) rfl)) <|
  z_ac (j := 21) rfl (z_cV dX9_target_34 wl_1424 qX9_fails (by decide +kernel) ⟨_, _, rfl⟩ (z_sn rfl rfl) rfl) <|
  z_ac (j := 22) rfl (z_eI (sp_goto dX9_target_37 rfl)) <|
  z_ac (j := 23) rfl (z_eI (sp_aload_n (q := 0) dX9_target_40 rfl rfl)) <|
  z_ac (j := 24) rfl (z_eI (sp_getf (C := RX9) (T := TX9) (Nf := 23) dX9_target_41 rfl inX9 (by decide) wf_1346 rfl)) <|
  z_ac (j := 25) rfl (z_eI (sp_iload_n (q := 1) dX9_target_44 rfl rfl)) <|
  z_ac (j := 26) rfl (z_eI (sp_iconst dX9_target_45 (by decide +kernel) rfl)) <|
  z_ac (j := 27) rfl (z_cS dX9_target_46 wl_1521 qX9_walkerAt (by decide +kernel) (z_sn rfl rfl) rfl) <|
  z_ac (j := 28) rfl (z_eI (sp_iald dX9_target_49 rfl)) <|
  z_ac (j := 29) rfl (z_eR (sr_int dX9_target_50 rfl)) <| z_an
theorem dX9_isBoth_0 : decode cX9_isBoth 0 = .ok (.aload_n 0, 1) := by decide +kernel
theorem dX9_isBoth_1 : decode cX9_isBoth 1 = .ok (.iconst 0, 1) := by decide +kernel
theorem dX9_isBoth_2 : decode cX9_isBoth 2 = .ok (.putfield 49, 3) := by decide +kernel
theorem dX9_isBoth_5 : decode cX9_isBoth 5 = .ok (.aload_n 0, 1) := by decide +kernel
theorem dX9_isBoth_6 : decode cX9_isBoth 6 = .ok (.iload_n 1, 1) := by decide +kernel
theorem dX9_isBoth_7 : decode cX9_isBoth 7 = .ok (.invokevirtual 298, 3) := by decide +kernel
theorem dX9_isBoth_10 : decode cX9_isBoth 10 = .ok (.ifCond .eq 11, 3) := by decide +kernel
theorem dX9_isBoth_13 : decode cX9_isBoth 13 = .ok (.aload_n 0, 1) := by decide +kernel
theorem dX9_isBoth_14 : decode cX9_isBoth 14 = .ok (.iload_n 2, 1) := by decide +kernel
theorem dX9_isBoth_15 : decode cX9_isBoth 15 = .ok (.invokevirtual 288, 3) := by decide +kernel
theorem dX9_isBoth_18 : decode cX9_isBoth 18 = .ok (.ifCond .ne 11, 3) := by decide +kernel
theorem dX9_isBoth_21 : decode cX9_isBoth 21 = .ok (.aload_n 0, 1) := by decide +kernel
theorem dX9_isBoth_22 : decode cX9_isBoth 22 = .ok (.iconst 1, 1) := by decide +kernel
theorem dX9_isBoth_23 : decode cX9_isBoth 23 = .ok (.invokevirtual 278, 3) := by decide +kernel
theorem dX9_isBoth_26 : decode cX9_isBoth 26 = .ok (.ifCond .eq 7, 3) := by decide +kernel
theorem dX9_isBoth_29 : decode cX9_isBoth 29 = .ok (.iconst 1, 1) := by decide +kernel
theorem dX9_isBoth_30 : decode cX9_isBoth 30 = .ok (.goto 4, 3) := by decide +kernel
theorem dX9_isBoth_33 : decode cX9_isBoth 33 = .ok (.iconst 0, 1) := by decide +kernel
theorem dX9_isBoth_34 : decode cX9_isBoth 34 = .ok (.ireturn, 1) := by decide +kernel
theorem tX9_isBoth {L : Nat} {xs : Nat → Int32} {N : Nat} : z_AllE (zE L xs N 101) 0 (kX9_isBoth N) :=
  z_ac (j := 1) rfl (z_eI (sp_aload_n (q := 0) dX9_isBoth_0 rfl rfl)) <|
  z_ac (j := 2) rfl (z_eI (sp_iconst dX9_isBoth_1 (by decide +kernel) rfl)) <|
  z_ac (j := 3) rfl (z_eI (sp_putI (C := RX9) (T := TX9) (Nf := 23) dX9_isBoth_2 rfl inX9 tyX9_ok nmX9 (by decide) wf_1356 rfl (by decide +kernel) rfl)) <|
  z_ac (j := 4) rfl (z_eI (sp_aload_n (q := 0) dX9_isBoth_5 rfl rfl)) <|
  z_ac (j := 5) rfl (z_eI (sp_iload_n (q := 1) dX9_isBoth_6 rfl rfl)) <|
  z_ac (j := 6) rfl (z_cV dX9_isBoth_7 wl_1704 qX9_isWalker (by decide +kernel) ⟨_, _, rfl⟩ (z_sn rfl rfl) rfl) <|
  z_ac (j := 7) rfl (z_eI (sp_if_eq dX9_isBoth_10 rfl rfl)) <|
  z_ac (j := 8) rfl (z_eI (sp_aload_n (q := 0) dX9_isBoth_13 rfl rfl)) <|
  z_ac (j := 9) rfl (z_eI (sp_iload_n (q := 2) dX9_isBoth_14 rfl rfl)) <|
  z_ac (j := 10) rfl (z_cV dX9_isBoth_15 wl_1654 qX9_isLight (by decide +kernel) ⟨_, _, rfl⟩ (z_sn rfl rfl) rfl) <|
  z_ac (j := 11) rfl (z_eI (sp_if_ne dX9_isBoth_18 rfl rfl)) <|
  z_ac (j := 12) rfl (z_eI (sp_aload_n (q := 0) dX9_isBoth_21 rfl rfl)) <|
  z_ac (j := 13) rfl (z_eI (sp_iconst dX9_isBoth_22 (by decide +kernel) rfl)) <|
  z_ac (j := 14) rfl (z_cV dX9_isBoth_23 wl_1554 qX9_isFailed (by decide +kernel) ⟨_, _, rfl⟩ (z_sn rfl rfl) rfl) <|
  z_ac (j := 15) rfl (z_eI (sp_if_eq dX9_isBoth_26 rfl rfl)) <|
  z_ac (j := 16) rfl (z_eI (sp_iconst dX9_isBoth_29 (by decide +kernel) rfl)) <|
  z_ac (j := 17) rfl (z_eI (sp_goto dX9_isBoth_30 rfl)) <|
  z_ac (j := 18) rfl (z_eI (sp_iconst dX9_isBoth_33 (by decide +kernel) rfl)) <|
  z_ac (j := 19) rfl (z_eR (sr_bool dX9_isBoth_34 rfl)) <| z_an
theorem dX9_hasPassed_0 : decode cX9_hasPassed 0 = .ok (.aload_n 0, 1) := by decide +kernel
theorem dX9_hasPassed_1 : decode cX9_hasPassed 1 = .ok (.iload_n 1, 1) := by decide +kernel
theorem dX9_hasPassed_2 : decode cX9_hasPassed 2 = .ok (.iload_n 2, 1) := by decide +kernel
theorem dX9_hasPassed_3 : decode cX9_hasPassed 3 = .ok (.invokevirtual 307, 3) := by decide +kernel
theorem dX9_hasPassed_6 : decode cX9_hasPassed 6 = .ok (.ifCond .eq 24, 3) := by decide +kernel
theorem dX9_hasPassed_9 : decode cX9_hasPassed 9 = .ok (.aload_n 0, 1) := by decide +kernel
theorem dX9_hasPassed_10 : decode cX9_hasPassed 10 = .ok (.getfield 7, 3) := by decide +kernel
theorem dX9_hasPassed_13 : decode cX9_hasPassed 13 = .ok (.iload_n 1, 1) := by decide +kernel
theorem dX9_hasPassed_14 : decode cX9_hasPassed 14 = .ok (.iconst 4, 1) := by decide +kernel
theorem dX9_hasPassed_15 : decode cX9_hasPassed 15 = .ok (.invokestatic 95, 3) := by decide +kernel
theorem dX9_hasPassed_18 : decode cX9_hasPassed 18 = .ok (.iaload, 1) := by decide +kernel
theorem dX9_hasPassed_19 : decode cX9_hasPassed 19 = .ok (.iload_n 2, 1) := by decide +kernel
theorem dX9_hasPassed_20 : decode cX9_hasPassed 20 = .ok (.invokestatic 118, 3) := by decide +kernel
theorem dX9_hasPassed_23 : decode cX9_hasPassed 23 = .ok (.ifCond .eq 7, 3) := by decide +kernel
theorem dX9_hasPassed_26 : decode cX9_hasPassed 26 = .ok (.iconst 1, 1) := by decide +kernel
theorem dX9_hasPassed_27 : decode cX9_hasPassed 27 = .ok (.goto 4, 3) := by decide +kernel
theorem dX9_hasPassed_30 : decode cX9_hasPassed 30 = .ok (.iconst 0, 1) := by decide +kernel
theorem dX9_hasPassed_31 : decode cX9_hasPassed 31 = .ok (.ireturn, 1) := by decide +kernel
theorem tX9_hasPassed {L : Nat} {xs : Nat → Int32} {N : Nat} : z_AllE (zE L xs N 102) 0 (kX9_hasPassed N) :=
  z_ac (j := 1) rfl (z_eI (sp_aload_n (q := 0) dX9_hasPassed_0 rfl rfl)) <|
  z_ac (j := 2) rfl (z_eI (sp_iload_n (q := 1) dX9_hasPassed_1 rfl rfl)) <|
  z_ac (j := 3) rfl (z_eI (sp_iload_n (q := 2) dX9_hasPassed_2 rfl rfl)) <|
  z_ac (j := 4) rfl (z_cV dX9_hasPassed_3 wl_1744 qX9_isBoth (by decide +kernel) ⟨_, _, rfl⟩ (z_sn rfl rfl) rfl) <|
  z_ac (j := 5) rfl (z_eI (sp_if_eq dX9_hasPassed_6 rfl rfl)) <|
  z_ac (j := 6) rfl (z_eI (sp_aload_n (q := 0) dX9_hasPassed_9 rfl rfl)) <|
  z_ac (j := 7) rfl (z_eI (sp_getf (C := RX9) (T := TX9) (Nf := 23) dX9_hasPassed_10 rfl inX9 (by decide) wf_1346 rfl)) <|
  z_ac (j := 8) rfl (z_eI (sp_iload_n (q := 1) dX9_hasPassed_13 rfl rfl)) <|
  z_ac (j := 9) rfl (z_eI (sp_iconst dX9_hasPassed_14 (by decide +kernel) rfl)) <|
  z_ac (j := 10) rfl (z_cS dX9_hasPassed_15 wl_1521 qX9_walkerAt (by decide +kernel) (z_sn rfl rfl) rfl) <|
  z_ac (j := 11) rfl (z_eI (sp_iald dX9_hasPassed_18 rfl)) <|
  z_ac (j := 12) rfl (z_eI (sp_iload_n (q := 2) dX9_hasPassed_19 rfl rfl)) <|
  z_ac (j := 13) rfl (z_cS dX9_hasPassed_20 wl_1689 qX9_has (by decide +kernel) (z_sn rfl rfl) rfl) <|
  z_ac (j := 14) rfl (z_eI (sp_if_eq dX9_hasPassed_23 rfl rfl)) <|
  z_ac (j := 15) rfl (z_eI (sp_iconst dX9_hasPassed_26 (by decide +kernel) rfl)) <|
  z_ac (j := 16) rfl (z_eI (sp_goto dX9_hasPassed_27 rfl)) <|
  z_ac (j := 17) rfl (z_eI (sp_iconst dX9_hasPassed_30 (by decide +kernel) rfl)) <|
  z_ac (j := 18) rfl (z_eR (sr_bool dX9_hasPassed_31 rfl)) <| z_an
theorem dX9_distrusts_0 : decode cX9_distrusts 0 = .ok (.aload_n 0, 1) := by decide +kernel
theorem dX9_distrusts_1 : decode cX9_distrusts 1 = .ok (.iload_n 1, 1) := by decide +kernel
theorem dX9_distrusts_2 : decode cX9_distrusts 2 = .ok (.iload_n 2, 1) := by decide +kernel
theorem dX9_distrusts_3 : decode cX9_distrusts 3 = .ok (.invokevirtual 307, 3) := by decide +kernel
theorem dX9_distrusts_6 : decode cX9_distrusts 6 = .ok (.ifCond .eq 24, 3) := by decide +kernel
theorem dX9_distrusts_9 : decode cX9_distrusts 9 = .ok (.aload_n 0, 1) := by decide +kernel
theorem dX9_distrusts_10 : decode cX9_distrusts 10 = .ok (.getfield 7, 3) := by decide +kernel
theorem dX9_distrusts_13 : decode cX9_distrusts 13 = .ok (.iload_n 1, 1) := by decide +kernel
theorem dX9_distrusts_14 : decode cX9_distrusts 14 = .ok (.iconst 5, 1) := by decide +kernel
theorem dX9_distrusts_15 : decode cX9_distrusts 15 = .ok (.invokestatic 95, 3) := by decide +kernel
theorem dX9_distrusts_18 : decode cX9_distrusts 18 = .ok (.iaload, 1) := by decide +kernel
theorem dX9_distrusts_19 : decode cX9_distrusts 19 = .ok (.iload_n 2, 1) := by decide +kernel
theorem dX9_distrusts_20 : decode cX9_distrusts 20 = .ok (.invokestatic 118, 3) := by decide +kernel
theorem dX9_distrusts_23 : decode cX9_distrusts 23 = .ok (.ifCond .eq 7, 3) := by decide +kernel
theorem dX9_distrusts_26 : decode cX9_distrusts 26 = .ok (.iconst 1, 1) := by decide +kernel
theorem dX9_distrusts_27 : decode cX9_distrusts 27 = .ok (.goto 4, 3) := by decide +kernel
theorem dX9_distrusts_30 : decode cX9_distrusts 30 = .ok (.iconst 0, 1) := by decide +kernel
theorem dX9_distrusts_31 : decode cX9_distrusts 31 = .ok (.ireturn, 1) := by decide +kernel
theorem tX9_distrusts {L : Nat} {xs : Nat → Int32} {N : Nat} : z_AllE (zE L xs N 103) 0 (kX9_distrusts N) :=
  z_ac (j := 1) rfl (z_eI (sp_aload_n (q := 0) dX9_distrusts_0 rfl rfl)) <|
  z_ac (j := 2) rfl (z_eI (sp_iload_n (q := 1) dX9_distrusts_1 rfl rfl)) <|
  z_ac (j := 3) rfl (z_eI (sp_iload_n (q := 2) dX9_distrusts_2 rfl rfl)) <|
  z_ac (j := 4) rfl (z_cV dX9_distrusts_3 wl_1744 qX9_isBoth (by decide +kernel) ⟨_, _, rfl⟩ (z_sn rfl rfl) rfl) <|
  z_ac (j := 5) rfl (z_eI (sp_if_eq dX9_distrusts_6 rfl rfl)) <|
  z_ac (j := 6) rfl (z_eI (sp_aload_n (q := 0) dX9_distrusts_9 rfl rfl)) <|
  z_ac (j := 7) rfl (z_eI (sp_getf (C := RX9) (T := TX9) (Nf := 23) dX9_distrusts_10 rfl inX9 (by decide) wf_1346 rfl)) <|
  z_ac (j := 8) rfl (z_eI (sp_iload_n (q := 1) dX9_distrusts_13 rfl rfl)) <|
  z_ac (j := 9) rfl (z_eI (sp_iconst dX9_distrusts_14 (by decide +kernel) rfl)) <|
  z_ac (j := 10) rfl (z_cS dX9_distrusts_15 wl_1521 qX9_walkerAt (by decide +kernel) (z_sn rfl rfl) rfl) <|
  z_ac (j := 11) rfl (z_eI (sp_iald dX9_distrusts_18 rfl)) <|
  z_ac (j := 12) rfl (z_eI (sp_iload_n (q := 2) dX9_distrusts_19 rfl rfl)) <|
  z_ac (j := 13) rfl (z_cS dX9_distrusts_20 wl_1689 qX9_has (by decide +kernel) (z_sn rfl rfl) rfl) <|
  z_ac (j := 14) rfl (z_eI (sp_if_eq dX9_distrusts_23 rfl rfl)) <|
  z_ac (j := 15) rfl (z_eI (sp_iconst dX9_distrusts_26 (by decide +kernel) rfl)) <|
  z_ac (j := 16) rfl (z_eI (sp_goto dX9_distrusts_27 rfl)) <|
  z_ac (j := 17) rfl (z_eI (sp_iconst dX9_distrusts_30 (by decide +kernel) rfl)) <|
  z_ac (j := 18) rfl (z_eR (sr_bool dX9_distrusts_31 rfl)) <| z_an
theorem dX9_sees_0 : decode cX9_sees 0 = .ok (.aload_n 0, 1) := by decide +kernel
theorem dX9_sees_1 : decode cX9_sees 1 = .ok (.iload_n 1, 1) := by decide +kernel
theorem dX9_sees_2 : decode cX9_sees 2 = .ok (.iload_n 2, 1) := by decide +kernel
theorem dX9_sees_3 : decode cX9_sees 3 = .ok (.invokevirtual 307, 3) := by decide +kernel
theorem dX9_sees_6 : decode cX9_sees 6 = .ok (.ifCond .eq 19, 3) := by decide +kernel
theorem dX9_sees_9 : decode cX9_sees 9 = .ok (.aload_n 0, 1) := by decide +kernel
theorem dX9_sees_10 : decode cX9_sees 10 = .ok (.getfield 7, 3) := by decide +kernel
theorem dX9_sees_13 : decode cX9_sees 13 = .ok (.iload_n 1, 1) := by decide +kernel
theorem dX9_sees_14 : decode cX9_sees 14 = .ok (.iload_n 2, 1) := by decide +kernel
theorem dX9_sees_15 : decode cX9_sees 15 = .ok (.invokestatic 115, 3) := by decide +kernel
theorem dX9_sees_18 : decode cX9_sees 18 = .ok (.ifCond .eq 7, 3) := by decide +kernel
theorem dX9_sees_21 : decode cX9_sees 21 = .ok (.iconst 1, 1) := by decide +kernel
theorem dX9_sees_22 : decode cX9_sees 22 = .ok (.goto 4, 3) := by decide +kernel
theorem dX9_sees_25 : decode cX9_sees 25 = .ok (.iconst 0, 1) := by decide +kernel
theorem dX9_sees_26 : decode cX9_sees 26 = .ok (.ireturn, 1) := by decide +kernel
theorem tX9_sees {L : Nat} {xs : Nat → Int32} {N : Nat} : z_AllE (zE L xs N 104) 0 (kX9_sees N) :=
  z_ac (j := 1) rfl (z_eI (sp_aload_n (q := 0) dX9_sees_0 rfl rfl)) <|
  z_ac (j := 2) rfl (z_eI (sp_iload_n (q := 1) dX9_sees_1 rfl rfl)) <|
  z_ac (j := 3) rfl (z_eI (sp_iload_n (q := 2) dX9_sees_2 rfl rfl)) <|
  z_ac (j := 4) rfl (z_cV dX9_sees_3 wl_1744 qX9_isBoth (by decide +kernel) ⟨_, _, rfl⟩ (z_sn rfl rfl) rfl) <|
  z_ac (j := 5) rfl (z_eI (sp_if_eq dX9_sees_6 rfl rfl)) <|
  z_ac (j := 6) rfl (z_eI (sp_aload_n (q := 0) dX9_sees_9 rfl rfl)) <|
  z_ac (j := 7) rfl (z_eI (sp_getf (C := RX9) (T := TX9) (Nf := 23) dX9_sees_10 rfl inX9 (by decide) wf_1346 rfl)) <|
  z_ac (j := 8) rfl (z_eI (sp_iload_n (q := 1) dX9_sees_13 rfl rfl)) <|
  z_ac (j := 9) rfl (z_eI (sp_iload_n (q := 2) dX9_sees_14 rfl rfl)) <|
  z_ac (j := 10) rfl (z_cS dX9_sees_15 wl_1756 qX9_isSeen (by decide +kernel) (z_sn rfl rfl) rfl) <|
  z_ac (j := 11) rfl (z_eI (sp_if_eq dX9_sees_18 rfl rfl)) <|
  z_ac (j := 12) rfl (z_eI (sp_iconst dX9_sees_21 (by decide +kernel) rfl)) <|
  z_ac (j := 13) rfl (z_eI (sp_goto dX9_sees_22 rfl)) <|
  z_ac (j := 14) rfl (z_eI (sp_iconst dX9_sees_25 (by decide +kernel) rfl)) <|
  z_ac (j := 15) rfl (z_eR (sr_bool dX9_sees_26 rfl)) <| z_an
