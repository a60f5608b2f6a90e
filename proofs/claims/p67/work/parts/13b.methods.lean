/-! Each entry of the tables is sound (printed by wip/p67/gen12.py). -/
theorem dX4_act_0 : decode cX4_act 0 = .ok (.aload_n 1, 1) := by decide +kernel
theorem dX4_act_1 : decode cX4_act 1 = .ok (.getfield 27, 3) := by decide +kernel
theorem dX4_act_4 : decode cX4_act 4 = .ok (.astore_n 3, 1) := by decide +kernel
theorem dX4_act_5 : decode cX4_act 5 = .ok (.aload_n 3, 1) := by decide +kernel
theorem dX4_act_6 : decode cX4_act 6 = .ok (.getfield 48, 3) := by decide +kernel
theorem dX4_act_9 : decode cX4_act 9 = .ok (.iload_n 2, 1) := by decide +kernel
theorem dX4_act_10 : decode cX4_act 10 = .ok (.iaload, 1) := by decide +kernel
theorem dX4_act_11 : decode cX4_act 11 = .ok (.iconst (-1), 1) := by decide +kernel
theorem dX4_act_12 : decode cX4_act 12 = .ok (.if_icmp .ne 14, 3) := by decide +kernel
theorem dX4_act_15 : decode cX4_act 15 = .ok (.aload_n 3, 1) := by decide +kernel
theorem dX4_act_16 : decode cX4_act 16 = .ok (.getfield 48, 3) := by decide +kernel
theorem dX4_act_19 : decode cX4_act 19 = .ok (.iload_n 2, 1) := by decide +kernel
theorem dX4_act_20 : decode cX4_act 20 = .ok (.aload_n 1, 1) := by decide +kernel
theorem dX4_act_21 : decode cX4_act 21 = .ok (.iload_n 2, 1) := by decide +kernel
theorem dX4_act_22 : decode cX4_act 22 = .ok (.invokevirtual 51, 3) := by decide +kernel
theorem dX4_act_25 : decode cX4_act 25 = .ok (.iastore, 1) := by decide +kernel
theorem dX4_act_26 : decode cX4_act 26 = .ok (.aload_n 3, 1) := by decide +kernel
theorem dX4_act_27 : decode cX4_act 27 = .ok (.getfield 48, 3) := by decide +kernel
theorem dX4_act_30 : decode cX4_act 30 = .ok (.iload_n 2, 1) := by decide +kernel
theorem dX4_act_31 : decode cX4_act 31 = .ok (.iaload, 1) := by decide +kernel
theorem dX4_act_32 : decode cX4_act 32 = .ok (.istore 4, 2) := by decide +kernel
theorem dX4_act_34 : decode cX4_act 34 = .ok (.aload_n 1, 1) := by decide +kernel
theorem dX4_act_35 : decode cX4_act 35 = .ok (.getfield 55, 3) := by decide +kernel
theorem dX4_act_38 : decode cX4_act 38 = .ok (.iload 4, 2) := by decide +kernel
theorem dX4_act_40 : decode cX4_act 40 = .ok (.invokevirtual 59, 3) := by decide +kernel
theorem dX4_act_43 : decode cX4_act 43 = .ok (.ifCond .ne 5, 3) := by decide +kernel
theorem dX4_act_46 : decode cX4_act 46 = .ok (.iconst 0, 1) := by decide +kernel
theorem dX4_act_47 : decode cX4_act 47 = .ok (.ireturn, 1) := by decide +kernel
theorem dX4_act_48 : decode cX4_act 48 = .ok (.aload_n 3, 1) := by decide +kernel
theorem dX4_act_49 : decode cX4_act 49 = .ok (.getfield 65, 3) := by decide +kernel
theorem dX4_act_52 : decode cX4_act 52 = .ok (.iload_n 2, 1) := by decide +kernel
theorem dX4_act_53 : decode cX4_act 53 = .ok (.iaload, 1) := by decide +kernel
theorem dX4_act_54 : decode cX4_act 54 = .ok (.aload_n 1, 1) := by decide +kernel
theorem dX4_act_55 : decode cX4_act 55 = .ok (.getfield 55, 3) := by decide +kernel
theorem dX4_act_58 : decode cX4_act 58 = .ok (.getfield 68, 3) := by decide +kernel
theorem dX4_act_61 : decode cX4_act 61 = .ok (.iload 4, 2) := by decide +kernel
theorem dX4_act_63 : decode cX4_act 63 = .ok (.iaload, 1) := by decide +kernel
theorem dX4_act_64 : decode cX4_act 64 = .ok (.if_icmp .eq 14, 3) := by decide +kernel
theorem dX4_act_67 : decode cX4_act 67 = .ok (.aload_n 0, 1) := by decide +kernel
theorem dX4_act_68 : decode cX4_act 68 = .ok (.aload_n 1, 1) := by decide +kernel
theorem dX4_act_69 : decode cX4_act 69 = .ok (.iload_n 2, 1) := by decide +kernel
theorem dX4_act_70 : decode cX4_act 70 = .ok (.iload 4, 2) := by decide +kernel
theorem dX4_act_72 : decode cX4_act 72 = .ok (.invokevirtual 69, 3) := by decide +kernel
theorem dX4_act_75 : decode cX4_act 75 = .ok (.ifCond .eq 14, 3) := by decide +kernel
theorem dX4_act_78 : decode cX4_act 78 = .ok (.aload_n 0, 1) := by decide +kernel
theorem dX4_act_79 : decode cX4_act 79 = .ok (.aload_n 1, 1) := by decide +kernel
theorem dX4_act_80 : decode cX4_act 80 = .ok (.iload_n 2, 1) := by decide +kernel
theorem dX4_act_81 : decode cX4_act 81 = .ok (.iload 4, 2) := by decide +kernel
theorem dX4_act_83 : decode cX4_act 83 = .ok (.invokevirtual 73, 3) := by decide +kernel
theorem dX4_act_86 : decode cX4_act 86 = .ok (.goto 23, 3) := by decide +kernel
theorem dX4_act_89 : decode cX4_act 89 = .ok (.aload_n 3, 1) := by decide +kernel
theorem dX4_act_90 : decode cX4_act 90 = .ok (.getfield 77, 3) := by decide +kernel
theorem dX4_act_93 : decode cX4_act 93 = .ok (.iload_n 2, 1) := by decide +kernel
theorem dX4_act_94 : decode cX4_act 94 = .ok (.dup2, 1) := by decide +kernel
theorem dX4_act_95 : decode cX4_act 95 = .ok (.iaload, 1) := by decide +kernel
theorem dX4_act_96 : decode cX4_act 96 = .ok (.iconst 1, 1) := by decide +kernel
theorem dX4_act_97 : decode cX4_act 97 = .ok (.iload 4, 2) := by decide +kernel
theorem dX4_act_99 : decode cX4_act 99 = .ok (.ishl, 1) := by decide +kernel
theorem dX4_act_100 : decode cX4_act 100 = .ok (.ior, 1) := by decide +kernel
theorem dX4_act_101 : decode cX4_act 101 = .ok (.iastore, 1) := by decide +kernel
theorem dX4_act_102 : decode cX4_act 102 = .ok (.aload_n 3, 1) := by decide +kernel
theorem dX4_act_103 : decode cX4_act 103 = .ok (.getfield 48, 3) := by decide +kernel
theorem dX4_act_106 : decode cX4_act 106 = .ok (.iload_n 2, 1) := by decide +kernel
theorem dX4_act_107 : decode cX4_act 107 = .ok (.iconst (-1), 1) := by decide +kernel
theorem dX4_act_108 : decode cX4_act 108 = .ok (.iastore, 1) := by decide +kernel
theorem dX4_act_109 : decode cX4_act 109 = .ok (.iconst 1, 1) := by decide +kernel
theorem dX4_act_110 : decode cX4_act 110 = .ok (.ireturn, 1) := by decide +kernel
theorem tX4_act {L : Nat} {xs : Nat → Int32} {N : Nat} : z_AllE (zE L xs N 173) 0 (kX4_act N) :=
  z_ac (j := 1) rfl (z_eI (sp_aload_n (q := 1) dX4_act_0 rfl rfl)) <|
  z_ac (j := 2) rfl (z_eI (sp_getf (C := RX7) (T := TX7) (Nf := 6) dX4_act_1 rfl inX7 (by decide) wf_195 rfl)) <|
  z_ac (j := 3) rfl (z_eI (sp_astore_n (q := 3) dX4_act_4 rfl (by decide) (fun _ _ => rfl) rfl)) <|
  z_ac (j := 4) rfl (z_eI (sp_aload_n (q := 3) dX4_act_5 rfl rfl)) <|
  z_ac (j := 5) rfl (z_eI (sp_getf (C := RX6) (T := TX6) (Nf := 8) dX4_act_6 rfl inX6 (by decide) wf_159 rfl)) <|
  z_ac (j := 6) rfl (z_eI (sp_iload_n (q := 2) dX4_act_9 rfl rfl)) <|
  z_ac (j := 7) rfl (z_eI (sp_iald dX4_act_10 rfl)) <|
  z_ac (j := 8) rfl (z_eI (sp_iconst dX4_act_11 (by decide +kernel) rfl)) <|
  z_ac (j := 9) rfl (z_eI (sp_icmp_ne dX4_act_12 rfl rfl)) <|
  z_ac (j := 10) rfl (z_eI (sp_aload_n (q := 3) dX4_act_15 rfl rfl)) <|
  z_ac (j := 11) rfl (z_eI (sp_getf (C := RX6) (T := TX6) (Nf := 8) dX4_act_16 rfl inX6 (by decide) wf_159 rfl)) <|
  z_ac (j := 12) rfl (z_eI (sp_iload_n (q := 2) dX4_act_19 rfl rfl)) <|
  z_ac (j := 13) rfl (z_eI (sp_aload_n (q := 1) dX4_act_20 rfl rfl)) <|
  z_ac (j := 14) rfl (z_eI (sp_iload_n (q := 2) dX4_act_21 rfl rfl)) <|
  z_ac (j := 15) rfl (z_cV dX4_act_22 wl_692 qX7_nearestAcceptable (by decide +kernel) ⟨_, _, rfl⟩ (z_sn rfl rfl) rfl) <|
  z_ac (j := 16) rfl (z_eI (sp_iast dX4_act_25 rfl)) <|
  z_ac (j := 17) rfl (z_eI (sp_aload_n (q := 3) dX4_act_26 rfl rfl)) <|
  z_ac (j := 18) rfl (z_eI (sp_getf (C := RX6) (T := TX6) (Nf := 8) dX4_act_27 rfl inX6 (by decide) wf_159 rfl)) <|
  z_ac (j := 19) rfl (z_eI (sp_iload_n (q := 2) dX4_act_30 rfl rfl)) <|
  z_ac (j := 20) rfl (z_eI (sp_iald dX4_act_31 rfl)) <|
  z_ac (j := 21) rfl (z_eI (sp_istore dX4_act_32 (by decide) (fun _ _ => rfl) rfl)) <|
  z_ac (j := 22) rfl (z_eI (sp_aload_n (q := 1) dX4_act_34 rfl rfl)) <|
  z_ac (j := 23) rfl (z_eI (sp_getf (C := RX7) (T := TX7) (Nf := 6) dX4_act_35 rfl inX7 (by decide) wf_191 rfl)) <|
  z_ac (j := 24) rfl (z_eI (sp_iload dX4_act_38 rfl)) <|
  z_ac (j := 25) rfl (z_cV dX4_act_40 wl_711 qX3_contains (by decide +kernel) ⟨_, _, rfl⟩ (z_sn rfl rfl) rfl) <|
  z_ac (j := 26) rfl (z_eI (sp_if_ne dX4_act_43 rfl rfl)) <|
  z_ac (j := 27) rfl (z_eI (sp_iconst dX4_act_46 (by decide +kernel) rfl)) <|
  z_ac (j := 28) rfl (z_eR (sr_bool dX4_act_47 rfl)) <|
  z_ac (j := 29) rfl (z_eI (sp_aload_n (q := 3) dX4_act_48 rfl rfl)) <|
  z_ac (j := 30) rfl (z_eI (sp_getf (C := RX6) (T := TX6) (Nf := 8) dX4_act_49 rfl inX6 (by decide) wf_149 rfl)) <|
  z_ac (j := 31) rfl (z_eI (sp_iload_n (q := 2) dX4_act_52 rfl rfl)) <|
  z_ac (j := 32) rfl (z_eI (sp_iald dX4_act_53 rfl)) <|
  z_ac (j := 33) rfl (z_eI (sp_aload_n (q := 1) dX4_act_54 rfl rfl)) <|
  z_ac (j := 34) rfl (z_eI (sp_getf (C := RX7) (T := TX7) (Nf := 6) dX4_act_55 rfl inX7 (by decide) wf_191 rfl)) <|
  z_ac (j := 35) rfl (z_eI (sp_getf (C := RX3) (T := TX3) (Nf := 5) dX4_act_58 rfl inX3 (by decide) wf_117 rfl)) <|
  z_ac (j := 36) rfl (z_eI (sp_iload dX4_act_61 rfl)) <|
  z_ac (j := 37) rfl (z_eI (sp_iald dX4_act_63 rfl)) <|
  z_ac (j := 38) rfl (z_eI (sp_icmp_eq dX4_act_64 rfl rfl)) <|
  z_ac (j := 39) rfl (z_eI (sp_aload_n (q := 0) dX4_act_67 rfl rfl)) <|
  z_ac (j := 40) rfl (z_eI (sp_aload_n (q := 1) dX4_act_68 rfl rfl)) <|
  z_ac (j := 41) rfl (z_eI (sp_iload_n (q := 2) dX4_act_69 rfl rfl)) <|
  z_ac (j := 42) rfl (z_eI (sp_iload dX4_act_70 rfl)) <|
  z_ac (j := 43) rfl (z_cV dX4_act_72 wl_715 qX4_move (by decide +kernel) ⟨_, _, rfl⟩ (z_sn rfl rfl) rfl) <|
  z_ac (j := 44) rfl (z_eI (sp_if_eq dX4_act_75 rfl rfl)) <|
  z_ac (j := 45) rfl (z_eI (sp_aload_n (q := 0) dX4_act_78 rfl rfl)) <|
  z_ac (j := 46) rfl (z_eI (sp_aload_n (q := 1) dX4_act_79 rfl rfl)) <|
  z_ac (j := 47) rfl (z_eI (sp_iload_n (q := 2) dX4_act_80 rfl rfl)) <|
  z_ac (j := 48) rfl (z_eI (sp_iload dX4_act_81 rfl)) <|
  z_ac (j := 49) rfl (z_cV dX4_act_83 wl_752 qX4_settle (by decide +kernel) ⟨_, _, rfl⟩ (z_sn rfl rfl) rfl) <|
  z_ac (j := 50) rfl (z_eI (sp_goto dX4_act_86 rfl)) <|
  z_ac (j := 51) rfl (z_eI (sp_aload_n (q := 3) dX4_act_89 rfl rfl)) <|
  z_ac (j := 52) rfl (z_eI (sp_getf (C := RX6) (T := TX6) (Nf := 8) dX4_act_90 rfl inX6 (by decide) wf_162 rfl)) <|
  z_ac (j := 53) rfl (z_eI (sp_iload_n (q := 2) dX4_act_93 rfl rfl)) <|
  z_ac (j := 54) rfl (z_eI (sp_dup2 dX4_act_94 rfl)) <|
  z_ac (j := 55) rfl (z_eI (sp_iald dX4_act_95 rfl)) <|
  z_ac (j := 56) rfl (z_eI (sp_iconst dX4_act_96 (by decide +kernel) rfl)) <|
  z_ac (j := 57) rfl (z_eI (sp_iload dX4_act_97 rfl)) <|
  z_ac (j := 58) rfl (z_eI (sp_ishl dX4_act_99 rfl)) <|
  z_ac (j := 59) rfl (z_eI (sp_ior dX4_act_100 rfl)) <|
  z_ac (j := 60) rfl (z_eI (sp_iast dX4_act_101 rfl)) <|
  z_ac (j := 61) rfl (z_eI (sp_aload_n (q := 3) dX4_act_102 rfl rfl)) <|
  z_ac (j := 62) rfl (z_eI (sp_getf (C := RX6) (T := TX6) (Nf := 8) dX4_act_103 rfl inX6 (by decide) wf_159 rfl)) <|
  z_ac (j := 63) rfl (z_eI (sp_iload_n (q := 2) dX4_act_106 rfl rfl)) <|
  z_ac (j := 64) rfl (z_eI (sp_iconst dX4_act_107 (by decide +kernel) rfl)) <|
  z_ac (j := 65) rfl (z_eI (sp_iast dX4_act_108 rfl)) <|
  z_ac (j := 66) rfl (z_eI (sp_iconst dX4_act_109 (by decide +kernel) rfl)) <|
  z_ac (j := 67) rfl (z_eR (sr_bool dX4_act_110 rfl)) <| z_an
theorem dX4_move_0 : decode cX4_move 0 = .ok (.aload_n 0, 1) := by decide +kernel
theorem dX4_move_1 : decode cX4_move 1 = .ok (.getfield 11, 3) := by decide +kernel
theorem dX4_move_4 : decode cX4_move 4 = .ok (.iload_n 3, 1) := by decide +kernel
theorem dX4_move_5 : decode cX4_move 5 = .ok (.aaload, 1) := by decide +kernel
theorem dX4_move_6 : decode cX4_move 6 = .ok (.astore 4, 2) := by decide +kernel
theorem dX4_move_8 : decode cX4_move 8 = .ok (.aload 4, 2) := by decide +kernel
theorem dX4_move_10 : decode cX4_move 10 = .ok (.getfield 44, 3) := by decide +kernel
theorem dX4_move_13 : decode cX4_move 13 = .ok (.ifCond .ne 21, 3) := by decide +kernel
theorem dX4_move_16 : decode cX4_move 16 = .ok (.aload 4, 2) := by decide +kernel
theorem dX4_move_18 : decode cX4_move 18 = .ok (.aload_n 1, 1) := by decide +kernel
theorem dX4_move_19 : decode cX4_move 19 = .ok (.getfield 80, 3) := by decide +kernel
theorem dX4_move_22 : decode cX4_move 22 = .ok (.aload_n 1, 1) := by decide +kernel
theorem dX4_move_23 : decode cX4_move 23 = .ok (.getfield 55, 3) := by decide +kernel
theorem dX4_move_26 : decode cX4_move 26 = .ok (.getfield 68, 3) := by decide +kernel
theorem dX4_move_29 : decode cX4_move 29 = .ok (.iload_n 3, 1) := by decide +kernel
theorem dX4_move_30 : decode cX4_move 30 = .ok (.iaload, 1) := by decide +kernel
theorem dX4_move_31 : decode cX4_move 31 = .ok (.invokevirtual 84, 3) := by decide +kernel
theorem dX4_move_34 : decode cX4_move 34 = .ok (.aload_n 1, 1) := by decide +kernel
theorem dX4_move_35 : decode cX4_move 35 = .ok (.getfield 27, 3) := by decide +kernel
theorem dX4_move_38 : decode cX4_move 38 = .ok (.getfield 65, 3) := by decide +kernel
theorem dX4_move_41 : decode cX4_move 41 = .ok (.iload_n 2, 1) := by decide +kernel
theorem dX4_move_42 : decode cX4_move 42 = .ok (.iaload, 1) := by decide +kernel
theorem dX4_move_43 : decode cX4_move 43 = .ok (.istore 5, 2) := by decide +kernel
theorem dX4_move_45 : decode cX4_move 45 = .ok (.aload 4, 2) := by decide +kernel
theorem dX4_move_47 : decode cX4_move 47 = .ok (.aload_n 1, 1) := by decide +kernel
theorem dX4_move_48 : decode cX4_move 48 = .ok (.getfield 80, 3) := by decide +kernel
theorem dX4_move_51 : decode cX4_move 51 = .ok (.iload 5, 2) := by decide +kernel
theorem dX4_move_53 : decode cX4_move 53 = .ok (.invokevirtual 88, 3) := by decide +kernel
theorem dX4_move_56 : decode cX4_move 56 = .ok (.istore 6, 2) := by decide +kernel
theorem dX4_move_58 : decode cX4_move 58 = .ok (.iload 6, 2) := by decide +kernel
theorem dX4_move_60 : decode cX4_move 60 = .ok (.iconst (-1), 1) := by decide +kernel
theorem dX4_move_61 : decode cX4_move 61 = .ok (.if_icmp .ne 5, 3) := by decide +kernel
theorem dX4_move_64 : decode cX4_move 64 = .ok (.iconst 0, 1) := by decide +kernel
theorem dX4_move_65 : decode cX4_move 65 = .ok (.ireturn, 1) := by decide +kernel
theorem dX4_move_66 : decode cX4_move 66 = .ok (.aload_n 1, 1) := by decide +kernel
theorem dX4_move_67 : decode cX4_move 67 = .ok (.getfield 27, 3) := by decide +kernel
theorem dX4_move_70 : decode cX4_move 70 = .ok (.getfield 65, 3) := by decide +kernel
theorem dX4_move_73 : decode cX4_move 73 = .ok (.iload_n 2, 1) := by decide +kernel
theorem dX4_move_74 : decode cX4_move 74 = .ok (.iload 6, 2) := by decide +kernel
theorem dX4_move_76 : decode cX4_move 76 = .ok (.iastore, 1) := by decide +kernel
theorem dX4_move_77 : decode cX4_move 77 = .ok (.aload_n 1, 1) := by decide +kernel
theorem dX4_move_78 : decode cX4_move 78 = .ok (.getfield 27, 3) := by decide +kernel
theorem dX4_move_81 : decode cX4_move 81 = .ok (.getfield 92, 3) := by decide +kernel
theorem dX4_move_84 : decode cX4_move 84 = .ok (.iload_n 2, 1) := by decide +kernel
theorem dX4_move_85 : decode cX4_move 85 = .ok (.dup2, 1) := by decide +kernel
theorem dX4_move_86 : decode cX4_move 86 = .ok (.iaload, 1) := by decide +kernel
theorem dX4_move_87 : decode cX4_move 87 = .ok (.iconst 1, 1) := by decide +kernel
theorem dX4_move_88 : decode cX4_move 88 = .ok (.iadd, 1) := by decide +kernel
theorem dX4_move_89 : decode cX4_move 89 = .ok (.iastore, 1) := by decide +kernel
theorem dX4_move_90 : decode cX4_move 90 = .ok (.aload_n 1, 1) := by decide +kernel
theorem dX4_move_91 : decode cX4_move 91 = .ok (.getfield 80, 3) := by decide +kernel
theorem dX4_move_94 : decode cX4_move 94 = .ok (.iload 5, 2) := by decide +kernel
theorem dX4_move_96 : decode cX4_move 96 = .ok (.invokevirtual 95, 3) := by decide +kernel
theorem dX4_move_99 : decode cX4_move 99 = .ok (.ifCond .eq 7, 3) := by decide +kernel
theorem dX4_move_102 : decode cX4_move 102 = .ok (.aload_n 0, 1) := by decide +kernel
theorem dX4_move_103 : decode cX4_move 103 = .ok (.invokevirtual 24, 3) := by decide +kernel
theorem dX4_move_106 : decode cX4_move 106 = .ok (.iconst 1, 1) := by decide +kernel
theorem dX4_move_107 : decode cX4_move 107 = .ok (.ireturn, 1) := by decide +kernel
theorem tX4_move {L : Nat} {xs : Nat → Int32} {N : Nat} : z_AllE (zE L xs N 174) 0 (kX4_move N) :=
  z_ac (j := 1) rfl (z_eI (sp_aload_n (q := 0) dX4_move_0 rfl rfl)) <|
  z_ac (j := 2) rfl (z_eI (sp_getf (C := RX4) (T := TX4) (Nf := 1) dX4_move_1 rfl inX4 (by decide) wf_299 rfl)) <|
  z_ac (j := 3) rfl (z_eI (sp_iload_n (q := 3) dX4_move_4 rfl rfl)) <|
  z_ac (j := 4) rfl (z_eI (sp_aald dX4_move_5 rfl)) <|
  z_ac (j := 5) rfl (z_eI (sp_astore dX4_move_6 (by decide) (fun _ _ => rfl) rfl)) <|
  z_ac (j := 6) rfl (z_eI (sp_aload dX4_move_8 rfl)) <|
  z_ac (j := 7) rfl (z_eI (sp_getf (C := RX0) (T := TX0) (Nf := 4) dX4_move_10 rfl inX0 (by decide) wf_286 rfl)) <|
  z_ac (j := 8) rfl (z_eI (sp_if_ne dX4_move_13 rfl rfl)) <|
  z_ac (j := 9) rfl (z_eI (sp_aload dX4_move_16 rfl)) <|
  z_ac (j := 10) rfl (z_eI (sp_aload_n (q := 1) dX4_move_18 rfl rfl)) <|
  z_ac (j := 11) rfl (z_eI (sp_getf (C := RX7) (T := TX7) (Nf := 6) dX4_move_19 rfl inX7 (by decide) wf_187 rfl)) <|
  z_ac (j := 12) rfl (z_eI (sp_aload_n (q := 1) dX4_move_22 rfl rfl)) <|
  z_ac (j := 13) rfl (z_eI (sp_getf (C := RX7) (T := TX7) (Nf := 6) dX4_move_23 rfl inX7 (by decide) wf_191 rfl)) <|
  z_ac (j := 14) rfl (z_eI (sp_getf (C := RX3) (T := TX3) (Nf := 5) dX4_move_26 rfl inX3 (by decide) wf_117 rfl)) <|
  z_ac (j := 15) rfl (z_eI (sp_iload_n (q := 3) dX4_move_29 rfl rfl)) <|
  z_ac (j := 16) rfl (z_eI (sp_iald dX4_move_30 rfl)) <|
  z_ac (j := 17) rfl (z_cV dX4_move_31 wl_719 qX0_measureToCell (by decide +kernel) ⟨_, _, rfl⟩ (z_sn rfl rfl) rfl) <|
  z_ac (j := 18) rfl (z_eI (sp_aload_n (q := 1) dX4_move_34 rfl rfl)) <|
  z_ac (j := 19) rfl (z_eI (sp_getf (C := RX7) (T := TX7) (Nf := 6) dX4_move_35 rfl inX7 (by decide) wf_195 rfl)) <|
  z_ac (j := 20) rfl (z_eI (sp_getf (C := RX6) (T := TX6) (Nf := 8) dX4_move_38 rfl inX6 (by decide) wf_149 rfl)) <|
  z_ac (j := 21) rfl (z_eI (sp_iload_n (q := 2) dX4_move_41 rfl rfl)) <|
  z_ac (j := 22) rfl (z_eI (sp_iald dX4_move_42 rfl)) <|
  z_ac (j := 23) rfl (z_eI (sp_istore dX4_move_43 (by decide) (fun _ _ => rfl) rfl)) <|
  z_ac (j := 24) rfl (z_eI (sp_aload dX4_move_45 rfl)) <|
  z_ac (j := 25) rfl (z_eI (sp_aload_n (q := 1) dX4_move_47 rfl rfl)) <|
  z_ac (j := 26) rfl (z_eI (sp_getf (C := RX7) (T := TX7) (Nf := 6) dX4_move_48 rfl inX7 (by decide) wf_187 rfl)) <|
  z_ac (j := 27) rfl (z_eI (sp_iload dX4_move_51 rfl)) <|
  z_ac (j := 28) rfl (z_cV dX4_move_53 wl_744 qX0_nextCell (by decide +kernel) ⟨_, _, rfl⟩ (z_sn rfl rfl) rfl) <|
  z_ac (j := 29) rfl (z_eI (sp_istore dX4_move_56 (by decide) (fun _ _ => rfl) rfl)) <|
  z_ac (j := 30) rfl (z_eI (sp_iload dX4_move_58 rfl)) <|
  z_ac (j := 31) rfl (z_eI (sp_iconst dX4_move_60 (by decide +kernel) rfl)) <|
  z_ac (j := 32) rfl (z_eI (sp_icmp_ne dX4_move_61 rfl rfl)) <|
  z_ac (j := 33) rfl (z_eI (sp_iconst dX4_move_64 (by decide +kernel) rfl)) <|
  z_ac (j := 34) rfl (z_eR (sr_bool dX4_move_65 rfl)) <|
  z_ac (j := 35) rfl (z_eI (sp_aload_n (q := 1) dX4_move_66 rfl rfl)) <|
  z_ac (j := 36) rfl (z_eI (sp_getf (C := RX7) (T := TX7) (Nf := 6) dX4_move_67 rfl inX7 (by decide) wf_195 rfl)) <|
  z_ac (j := 37) rfl (z_eI (sp_getf (C := RX6) (T := TX6) (Nf := 8) dX4_move_70 rfl inX6 (by decide) wf_149 rfl)) <|
  z_ac (j := 38) rfl (z_eI (sp_iload_n (q := 2) dX4_move_73 rfl rfl)) <|
  z_ac (j := 39) rfl (z_eI (sp_iload dX4_move_74 rfl)) <|
  z_ac (j := 40) rfl (z_eI (sp_iast dX4_move_76 rfl)) <|
  z_ac (j := 41) rfl (z_eI (sp_aload_n (q := 1) dX4_move_77 rfl rfl)) <|
  z_ac (j := 42) rfl (z_eI (sp_getf (C := RX7) (T := TX7) (Nf := 6) dX4_move_78 rfl inX7 (by decide) wf_195 rfl)) <|
  z_ac (j := 43) rfl (z_eI (sp_getf (C := RX6) (T := TX6) (Nf := 8) dX4_move_81 rfl inX6 (by decide) wf_156 rfl)) <|
  z_ac (j := 44) rfl (z_eI (sp_iload_n (q := 2) dX4_move_84 rfl rfl)) <|
  z_ac (j := 45) rfl (z_eI (sp_dup2 dX4_move_85 rfl)) <|
  z_ac (j := 46) rfl (z_eI (sp_iald dX4_move_86 rfl)) <|
  z_ac (j := 47) rfl (z_eI (sp_iconst dX4_move_87 (by decide +kernel) rfl)) <|
  z_ac (j := 48) rfl (z_eI (sp_iadd dX4_move_88 rfl)) <|
  z_ac (j := 49) rfl (z_eI (sp_iast dX4_move_89 rfl)) <|
  z_ac (j := 50) rfl (z_eI (sp_aload_n (q := 1) dX4_move_90 rfl rfl)) <|
  z_ac (j := 51) rfl (z_eI (sp_getf (C := RX7) (T := TX7) (Nf := 6) dX4_move_91 rfl inX7 (by decide) wf_187 rfl)) <|
  z_ac (j := 52) rfl (z_eI (sp_iload dX4_move_94 rfl)) <|
  z_ac (j := 53) rfl (z_cV dX4_move_96 wl_748 qX1_wear (by decide +kernel) ⟨_, _, rfl⟩ (z_sn rfl rfl) rfl) <|
  z_ac (j := 54) rfl (z_eI (sp_if_eq dX4_move_99 rfl rfl)) <|
  z_ac (j := 55) rfl (z_eI (sp_aload_n (q := 0) dX4_move_102 rfl rfl)) <|
  z_ac (j := 56) rfl (z_cV dX4_move_103 wl_684 qX4_forgetWays (by decide +kernel) ⟨_, _, rfl⟩ (z_sn rfl rfl) rfl) <|
  z_ac (j := 57) rfl (z_eI (sp_iconst dX4_move_106 (by decide +kernel) rfl)) <|
  z_ac (j := 58) rfl (z_eR (sr_bool dX4_move_107 rfl)) <| z_an
theorem dX4_settle_0 : decode cX4_settle 0 = .ok (.aload_n 1, 1) := by decide +kernel
theorem dX4_settle_1 : decode cX4_settle 1 = .ok (.getfield 27, 3) := by decide +kernel
theorem dX4_settle_4 : decode cX4_settle 4 = .ok (.astore 4, 2) := by decide +kernel
theorem dX4_settle_6 : decode cX4_settle 6 = .ok (.aload 4, 2) := by decide +kernel
theorem dX4_settle_8 : decode cX4_settle 8 = .ok (.getfield 65, 3) := by decide +kernel
theorem dX4_settle_11 : decode cX4_settle 11 = .ok (.iload_n 2, 1) := by decide +kernel
theorem dX4_settle_12 : decode cX4_settle 12 = .ok (.iaload, 1) := by decide +kernel
theorem dX4_settle_13 : decode cX4_settle 13 = .ok (.istore 5, 2) := by decide +kernel
theorem dX4_settle_15 : decode cX4_settle 15 = .ok (.aload_n 1, 1) := by decide +kernel
theorem dX4_settle_16 : decode cX4_settle 16 = .ok (.getfield 80, 3) := by decide +kernel
theorem dX4_settle_19 : decode cX4_settle 19 = .ok (.getfield 100, 3) := by decide +kernel
theorem dX4_settle_22 : decode cX4_settle 22 = .ok (.iload 5, 2) := by decide +kernel
theorem dX4_settle_24 : decode cX4_settle 24 = .ok (.iaload, 1) := by decide +kernel
theorem dX4_settle_25 : decode cX4_settle 25 = .ok (.bipush 11, 2) := by decide +kernel
theorem dX4_settle_27 : decode cX4_settle 27 = .ok (.if_icmp .ne 17, 3) := by decide +kernel
theorem dX4_settle_30 : decode cX4_settle 30 = .ok (.aload 4, 2) := by decide +kernel
theorem dX4_settle_32 : decode cX4_settle 32 = .ok (.iload_n 2, 1) := by decide +kernel
theorem dX4_settle_33 : decode cX4_settle 33 = .ok (.iconst 1, 1) := by decide +kernel
theorem dX4_settle_34 : decode cX4_settle 34 = .ok (.aload_n 1, 1) := by decide +kernel
theorem dX4_settle_35 : decode cX4_settle 35 = .ok (.getfield 18, 3) := by decide +kernel
theorem dX4_settle_38 : decode cX4_settle 38 = .ok (.invokevirtual 103, 3) := by decide +kernel
theorem dX4_settle_41 : decode cX4_settle 41 = .ok (.goto 58, 3) := by decide +kernel
theorem dX4_settle_44 : decode cX4_settle 44 = .ok (.iload 5, 2) := by decide +kernel
theorem dX4_settle_46 : decode cX4_settle 46 = .ok (.aload_n 1, 1) := by decide +kernel
theorem dX4_settle_47 : decode cX4_settle 47 = .ok (.getfield 55, 3) := by decide +kernel
theorem dX4_settle_50 : decode cX4_settle 50 = .ok (.getfield 68, 3) := by decide +kernel
theorem dX4_settle_53 : decode cX4_settle 53 = .ok (.iload_n 3, 1) := by decide +kernel
theorem dX4_settle_54 : decode cX4_settle 54 = .ok (.iaload, 1) := by decide +kernel
theorem dX4_settle_55 : decode cX4_settle 55 = .ok (.if_icmp .ne 44, 3) := by decide +kernel
theorem dX4_settle_58 : decode cX4_settle 58 = .ok (.aload_n 1, 1) := by decide +kernel
theorem dX4_settle_59 : decode cX4_settle 59 = .ok (.getfield 55, 3) := by decide +kernel
theorem dX4_settle_62 : decode cX4_settle 62 = .ok (.getfield 107, 3) := by decide +kernel
theorem dX4_settle_65 : decode cX4_settle 65 = .ok (.iload_n 3, 1) := by decide +kernel
theorem dX4_settle_66 : decode cX4_settle 66 = .ok (.invokestatic 110, 3) := by decide +kernel
theorem dX4_settle_69 : decode cX4_settle 69 = .ok (.ifCond .eq 13, 3) := by decide +kernel
theorem dX4_settle_72 : decode cX4_settle 72 = .ok (.aload_n 0, 1) := by decide +kernel
theorem dX4_settle_73 : decode cX4_settle 73 = .ok (.aload_n 1, 1) := by decide +kernel
theorem dX4_settle_74 : decode cX4_settle 74 = .ok (.iload_n 2, 1) := by decide +kernel
theorem dX4_settle_75 : decode cX4_settle 75 = .ok (.iload_n 3, 1) := by decide +kernel
theorem dX4_settle_76 : decode cX4_settle 76 = .ok (.invokevirtual 114, 3) := by decide +kernel
theorem dX4_settle_79 : decode cX4_settle 79 = .ok (.goto 20, 3) := by decide +kernel
theorem dX4_settle_82 : decode cX4_settle 82 = .ok (.aload 4, 2) := by decide +kernel
theorem dX4_settle_84 : decode cX4_settle 84 = .ok (.iload_n 2, 1) := by decide +kernel
theorem dX4_settle_85 : decode cX4_settle 85 = .ok (.iconst 2, 1) := by decide +kernel
theorem dX4_settle_86 : decode cX4_settle 86 = .ok (.aload_n 1, 1) := by decide +kernel
theorem dX4_settle_87 : decode cX4_settle 87 = .ok (.getfield 18, 3) := by decide +kernel
theorem dX4_settle_90 : decode cX4_settle 90 = .ok (.invokevirtual 103, 3) := by decide +kernel
theorem dX4_settle_93 : decode cX4_settle 93 = .ok (.aload_n 0, 1) := by decide +kernel
theorem dX4_settle_94 : decode cX4_settle 94 = .ok (.aload_n 1, 1) := by decide +kernel
theorem dX4_settle_95 : decode cX4_settle 95 = .ok (.iload_n 3, 1) := by decide +kernel
theorem dX4_settle_96 : decode cX4_settle 96 = .ok (.invokevirtual 117, 3) := by decide +kernel
theorem dX4_settle_99 : decode cX4_settle 99 = .ok (.return_, 1) := by decide +kernel
theorem tX4_settle {L : Nat} {xs : Nat → Int32} {N : Nat} : z_AllE (zE L xs N 175) 0 (kX4_settle N) :=
  z_ac (j := 1) rfl (z_eI (sp_aload_n (q := 1) dX4_settle_0 rfl rfl)) <|
  z_ac (j := 2) rfl (z_eI (sp_getf (C := RX7) (T := TX7) (Nf := 6) dX4_settle_1 rfl inX7 (by decide) wf_195 rfl)) <|
  z_ac (j := 3) rfl (z_eI (sp_astore dX4_settle_4 (by decide) (fun _ _ => rfl) rfl)) <|
  z_ac (j := 4) rfl (z_eI (sp_aload dX4_settle_6 rfl)) <|
  z_ac (j := 5) rfl (z_eI (sp_getf (C := RX6) (T := TX6) (Nf := 8) dX4_settle_8 rfl inX6 (by decide) wf_149 rfl)) <|
  z_ac (j := 6) rfl (z_eI (sp_iload_n (q := 2) dX4_settle_11 rfl rfl)) <|
  z_ac (j := 7) rfl (z_eI (sp_iald dX4_settle_12 rfl)) <|
  z_ac (j := 8) rfl (z_eI (sp_istore dX4_settle_13 (by decide) (fun _ _ => rfl) rfl)) <|
  z_ac (j := 9) rfl (z_eI (sp_aload_n (q := 1) dX4_settle_15 rfl rfl)) <|
  z_ac (j := 10) rfl (z_eI (sp_getf (C := RX7) (T := TX7) (Nf := 6) dX4_settle_16 rfl inX7 (by decide) wf_187 rfl)) <|
  z_ac (j := 11) rfl (z_eI (sp_getf (C := RX1) (T := TX1) (Nf := 3) dX4_settle_19 rfl inX1 (by decide) wf_92 rfl)) <|
  z_ac (j := 12) rfl (z_eI (sp_iload dX4_settle_22 rfl)) <|
  z_ac (j := 13) rfl (z_eI (sp_iald dX4_settle_24 rfl)) <|
  z_ac (j := 14) rfl (z_eI (sp_bipush dX4_settle_25 (by decide +kernel) rfl)) <|
  z_ac (j := 15) rfl (z_eI (sp_icmp_ne dX4_settle_27 rfl rfl)) <|
  z_ac (j := 16) rfl (z_eI (sp_aload dX4_settle_30 rfl)) <|
  z_ac (j := 17) rfl (z_eI (sp_iload_n (q := 2) dX4_settle_32 rfl rfl)) <|
  z_ac (j := 18) rfl (z_eI (sp_iconst dX4_settle_33 (by decide +kernel) rfl)) <|
  z_ac (j := 19) rfl (z_eI (sp_aload_n (q := 1) dX4_settle_34 rfl rfl)) <|
  z_ac (j := 20) rfl (z_eI (sp_getf (C := RX7) (T := TX7) (Nf := 6) dX4_settle_35 rfl inX7 (by decide) wf_204 rfl)) <|
  z_ac (j := 21) rfl (z_cV dX4_settle_38 wl_756 qX6_finish (by decide +kernel) ⟨_, _, rfl⟩ (z_sn rfl rfl) rfl) <|
  z_ac (j := 22) rfl (z_eI (sp_goto dX4_settle_41 rfl)) <|
  z_ac (j := 23) rfl (z_eI (sp_iload dX4_settle_44 rfl)) <|
  z_ac (j := 24) rfl (z_eI (sp_aload_n (q := 1) dX4_settle_46 rfl rfl)) <|
  z_ac (j := 25) rfl (z_eI (sp_getf (C := RX7) (T := TX7) (Nf := 6) dX4_settle_47 rfl inX7 (by decide) wf_191 rfl)) <|
  z_ac (j := 26) rfl (z_eI (sp_getf (C := RX3) (T := TX3) (Nf := 5) dX4_settle_50 rfl inX3 (by decide) wf_117 rfl)) <|
  z_ac (j := 27) rfl (z_eI (sp_iload_n (q := 3) dX4_settle_53 rfl rfl)) <|
  z_ac (j := 28) rfl (z_eI (sp_iald dX4_settle_54 rfl)) <|
  z_ac (j := 29) rfl (z_eI (sp_icmp_ne dX4_settle_55 rfl rfl)) <|
  z_ac (j := 30) rfl (z_eI (sp_aload_n (q := 1) dX4_settle_58 rfl rfl)) <|
  z_ac (j := 31) rfl (z_eI (sp_getf (C := RX7) (T := TX7) (Nf := 6) dX4_settle_59 rfl inX7 (by decide) wf_191 rfl)) <|
  z_ac (j := 32) rfl (z_eI (sp_getf (C := RX3) (T := TX3) (Nf := 5) dX4_settle_62 rfl inX3 (by decide) wf_114 rfl)) <|
  z_ac (j := 33) rfl (z_eI (sp_iload_n (q := 3) dX4_settle_65 rfl rfl)) <|
  z_ac (j := 34) rfl (z_cN (host := "FalseLightMarsh") dX4_settle_66 (by decide +kernel) qX8_holds (by decide +kernel) (z_sn rfl rfl) rfl) <|
  z_ac (j := 35) rfl (z_eI (sp_if_eq dX4_settle_69 rfl rfl)) <|
  z_ac (j := 36) rfl (z_eI (sp_aload_n (q := 0) dX4_settle_72 rfl rfl)) <|
  z_ac (j := 37) rfl (z_eI (sp_aload_n (q := 1) dX4_settle_73 rfl rfl)) <|
  z_ac (j := 38) rfl (z_eI (sp_iload_n (q := 2) dX4_settle_74 rfl rfl)) <|
  z_ac (j := 39) rfl (z_eI (sp_iload_n (q := 3) dX4_settle_75 rfl rfl)) <|
  z_ac (j := 40) rfl (z_cV dX4_settle_76 wl_761 qX4_passLight (by decide +kernel) ⟨_, _, rfl⟩ (z_sn rfl rfl) rfl) <|
  z_ac (j := 41) rfl (z_eI (sp_goto dX4_settle_79 rfl)) <|
  z_ac (j := 42) rfl (z_eI (sp_aload dX4_settle_82 rfl)) <|
  z_ac (j := 43) rfl (z_eI (sp_iload_n (q := 2) dX4_settle_84 rfl rfl)) <|
  z_ac (j := 44) rfl (z_eI (sp_iconst dX4_settle_85 (by decide +kernel) rfl)) <|
  z_ac (j := 45) rfl (z_eI (sp_aload_n (q := 1) dX4_settle_86 rfl rfl)) <|
  z_ac (j := 46) rfl (z_eI (sp_getf (C := RX7) (T := TX7) (Nf := 6) dX4_settle_87 rfl inX7 (by decide) wf_204 rfl)) <|
  z_ac (j := 47) rfl (z_cV dX4_settle_90 wl_756 qX6_finish (by decide +kernel) ⟨_, _, rfl⟩ (z_sn rfl rfl) rfl) <|
  z_ac (j := 48) rfl (z_eI (sp_aload_n (q := 0) dX4_settle_93 rfl rfl)) <|
  z_ac (j := 49) rfl (z_eI (sp_aload_n (q := 1) dX4_settle_94 rfl rfl)) <|
  z_ac (j := 50) rfl (z_eI (sp_iload_n (q := 3) dX4_settle_95 rfl rfl)) <|
  z_ac (j := 51) rfl (z_cV dX4_settle_96 wl_766 qX4_warnOthers (by decide +kernel) ⟨_, _, rfl⟩ (z_sn rfl rfl) rfl) <|
  z_ac (j := 52) rfl (z_eW (sv_void dX4_settle_99 rfl)) <| z_an
theorem dX4_passLight_0 : decode cX4_passLight 0 = .ok (.aload_n 1, 1) := by decide +kernel
theorem dX4_passLight_1 : decode cX4_passLight 1 = .ok (.getfield 27, 3) := by decide +kernel
theorem dX4_passLight_4 : decode cX4_passLight 4 = .ok (.astore 4, 2) := by decide +kernel
theorem dX4_passLight_6 : decode cX4_passLight 6 = .ok (.aload 4, 2) := by decide +kernel
theorem dX4_passLight_8 : decode cX4_passLight 8 = .ok (.getfield 77, 3) := by decide +kernel
theorem dX4_passLight_11 : decode cX4_passLight 11 = .ok (.iload_n 2, 1) := by decide +kernel
theorem dX4_passLight_12 : decode cX4_passLight 12 = .ok (.dup2, 1) := by decide +kernel
theorem dX4_passLight_13 : decode cX4_passLight 13 = .ok (.iaload, 1) := by decide +kernel
theorem dX4_passLight_14 : decode cX4_passLight 14 = .ok (.iconst 1, 1) := by decide +kernel
theorem dX4_passLight_15 : decode cX4_passLight 15 = .ok (.iload_n 3, 1) := by decide +kernel
theorem dX4_passLight_16 : decode cX4_passLight 16 = .ok (.ishl, 1) := by decide +kernel
theorem dX4_passLight_17 : decode cX4_passLight 17 = .ok (.ior, 1) := by decide +kernel
theorem dX4_passLight_18 : decode cX4_passLight 18 = .ok (.iastore, 1) := by decide +kernel
theorem dX4_passLight_19 : decode cX4_passLight 19 = .ok (.aload_n 1, 1) := by decide +kernel
theorem dX4_passLight_20 : decode cX4_passLight 20 = .ok (.getfield 55, 3) := by decide +kernel
theorem dX4_passLight_23 : decode cX4_passLight 23 = .ok (.getfield 121, 3) := by decide +kernel
theorem dX4_passLight_26 : decode cX4_passLight 26 = .ok (.iload_n 3, 1) := by decide +kernel
theorem dX4_passLight_27 : decode cX4_passLight 27 = .ok (.iaload, 1) := by decide +kernel
theorem dX4_passLight_28 : decode cX4_passLight 28 = .ok (.istore 5, 2) := by decide +kernel
theorem dX4_passLight_30 : decode cX4_passLight 30 = .ok (.aload_n 1, 1) := by decide +kernel
theorem dX4_passLight_31 : decode cX4_passLight 31 = .ok (.getfield 55, 3) := by decide +kernel
theorem dX4_passLight_34 : decode cX4_passLight 34 = .ok (.iload 5, 2) := by decide +kernel
theorem dX4_passLight_36 : decode cX4_passLight 36 = .ok (.invokevirtual 59, 3) := by decide +kernel
theorem dX4_passLight_39 : decode cX4_passLight 39 = .ok (.ifCond .eq 18, 3) := by decide +kernel
theorem dX4_passLight_42 : decode cX4_passLight 42 = .ok (.aload 4, 2) := by decide +kernel
theorem dX4_passLight_44 : decode cX4_passLight 44 = .ok (.iload_n 2, 1) := by decide +kernel
theorem dX4_passLight_45 : decode cX4_passLight 45 = .ok (.iload 5, 2) := by decide +kernel
theorem dX4_passLight_47 : decode cX4_passLight 47 = .ok (.invokevirtual 124, 3) := by decide +kernel
theorem dX4_passLight_50 : decode cX4_passLight 50 = .ok (.ifCond .ne 7, 3) := by decide +kernel
theorem dX4_passLight_53 : decode cX4_passLight 53 = .ok (.iconst 1, 1) := by decide +kernel
theorem dX4_passLight_54 : decode cX4_passLight 54 = .ok (.goto 4, 3) := by decide +kernel
theorem dX4_passLight_57 : decode cX4_passLight 57 = .ok (.iconst 0, 1) := by decide +kernel
theorem dX4_passLight_58 : decode cX4_passLight 58 = .ok (.istore 6, 2) := by decide +kernel
theorem dX4_passLight_60 : decode cX4_passLight 60 = .ok (.aload 4, 2) := by decide +kernel
theorem dX4_passLight_62 : decode cX4_passLight 62 = .ok (.getfield 48, 3) := by decide +kernel
theorem dX4_passLight_65 : decode cX4_passLight 65 = .ok (.iload_n 2, 1) := by decide +kernel
theorem dX4_passLight_66 : decode cX4_passLight 66 = .ok (.iload 6, 2) := by decide +kernel
theorem dX4_passLight_68 : decode cX4_passLight 68 = .ok (.ifCond .eq 8, 3) := by decide +kernel
theorem dX4_passLight_71 : decode cX4_passLight 71 = .ok (.iload 5, 2) := by decide +kernel
theorem dX4_passLight_73 : decode cX4_passLight 73 = .ok (.goto 4, 3) := by decide +kernel
theorem dX4_passLight_76 : decode cX4_passLight 76 = .ok (.iconst (-1), 1) := by decide +kernel
theorem dX4_passLight_77 : decode cX4_passLight 77 = .ok (.iastore, 1) := by decide +kernel
theorem dX4_passLight_78 : decode cX4_passLight 78 = .ok (.return_, 1) := by decide +kernel
theorem tX4_passLight {L : Nat} {xs : Nat → Int32} {N : Nat} : z_AllE (zE L xs N 176) 0 (kX4_passLight N) :=
  z_ac (j := 1) rfl (z_eI (sp_aload_n (q := 1) dX4_passLight_0 rfl rfl)) <|
  z_ac (j := 2) rfl (z_eI (sp_getf (C := RX7) (T := TX7) (Nf := 6) dX4_passLight_1 rfl inX7 (by decide) wf_195 rfl)) <|
  z_ac (j := 3) rfl (z_eI (sp_astore dX4_passLight_4 (by decide) (fun _ _ => rfl) rfl)) <|
  z_ac (j := 4) rfl (z_eI (sp_aload dX4_passLight_6 rfl)) <|
  z_ac (j := 5) rfl (z_eI (sp_getf (C := RX6) (T := TX6) (Nf := 8) dX4_passLight_8 rfl inX6 (by decide) wf_162 rfl)) <|
  z_ac (j := 6) rfl (z_eI (sp_iload_n (q := 2) dX4_passLight_11 rfl rfl)) <|
  z_ac (j := 7) rfl (z_eI (sp_dup2 dX4_passLight_12 rfl)) <|
  z_ac (j := 8) rfl (z_eI (sp_iald dX4_passLight_13 rfl)) <|
  z_ac (j := 9) rfl (z_eI (sp_iconst dX4_passLight_14 (by decide +kernel) rfl)) <|
  z_ac (j := 10) rfl (z_eI (sp_iload_n (q := 3) dX4_passLight_15 rfl rfl)) <|
  z_ac (j := 11) rfl (z_eI (sp_ishl dX4_passLight_16 rfl)) <|
  z_ac (j := 12) rfl (z_eI (sp_ior dX4_passLight_17 rfl)) <|
  z_ac (j := 13) rfl (z_eI (sp_iast dX4_passLight_18 rfl)) <|
  z_ac (j := 14) rfl (z_eI (sp_aload_n (q := 1) dX4_passLight_19 rfl rfl)) <|
  z_ac (j := 15) rfl (z_eI (sp_getf (C := RX7) (T := TX7) (Nf := 6) dX4_passLight_20 rfl inX7 (by decide) wf_191 rfl)) <|
  z_ac (j := 16) rfl (z_eI (sp_getf (C := RX3) (T := TX3) (Nf := 5) dX4_passLight_23 rfl inX3 (by decide) wf_124 rfl)) <|
  z_ac (j := 17) rfl (z_eI (sp_iload_n (q := 3) dX4_passLight_26 rfl rfl)) <|
  z_ac (j := 18) rfl (z_eI (sp_iald dX4_passLight_27 rfl)) <|
  z_ac (j := 19) rfl (z_eI (sp_istore dX4_passLight_28 (by decide) (fun _ _ => rfl) rfl)) <|
  z_ac (j := 20) rfl (z_eI (sp_aload_n (q := 1) dX4_passLight_30 rfl rfl)) <|
  z_ac (j := 21) rfl (z_eI (sp_getf (C := RX7) (T := TX7) (Nf := 6) dX4_passLight_31 rfl inX7 (by decide) wf_191 rfl)) <|
  z_ac (j := 22) rfl (z_eI (sp_iload dX4_passLight_34 rfl)) <|
  z_ac (j := 23) rfl (z_cV dX4_passLight_36 wl_711 qX3_contains (by decide +kernel) ⟨_, _, rfl⟩ (z_sn rfl rfl) rfl) <|
  z_ac (j := 24) rfl (z_eI (sp_if_eq dX4_passLight_39 rfl rfl)) <|
  z_ac (j := 25) rfl (z_eI (sp_aload dX4_passLight_42 rfl)) <|
  z_ac (j := 26) rfl (z_eI (sp_iload_n (q := 2) dX4_passLight_44 rfl rfl)) <|
  z_ac (j := 27) rfl (z_eI (sp_iload dX4_passLight_45 rfl)) <|
  z_ac (j := 28) rfl (z_cV dX4_passLight_47 wl_765 qX6_shuns (by decide +kernel) ⟨_, _, rfl⟩ (z_sn rfl rfl) rfl) <|
  z_ac (j := 29) rfl (z_eI (sp_if_ne dX4_passLight_50 rfl rfl)) <|
  z_ac (j := 30) rfl (z_eI (sp_iconst dX4_passLight_53 (by decide +kernel) rfl)) <|
  z_ac (j := 31) rfl (z_eI (sp_goto dX4_passLight_54 rfl)) <|
  z_ac (j := 32) rfl (z_eI (sp_iconst dX4_passLight_57 (by decide +kernel) rfl)) <|
  z_ac (j := 33) rfl (z_eI (sp_istore dX4_passLight_58 (by decide) (fun _ _ => rfl) rfl)) <|
  z_ac (j := 34) rfl (z_eI (sp_aload dX4_passLight_60 rfl)) <|
  z_ac (j := 35) rfl (z_eI (sp_getf (C := RX6) (T := TX6) (Nf := 8) dX4_passLight_62 rfl inX6 (by decide) wf_159 rfl)) <|
  z_ac (j := 36) rfl (z_eI (sp_iload_n (q := 2) dX4_passLight_65 rfl rfl)) <|
  z_ac (j := 37) rfl (z_eI (sp_iload dX4_passLight_66 rfl)) <|
  z_ac (j := 38) rfl (z_eI (sp_if_eq dX4_passLight_68 rfl rfl)) <|
  z_ac (j := 39) rfl (z_eI (sp_iload dX4_passLight_71 rfl)) <|
  z_ac (j := 40) rfl (z_eI (sp_goto dX4_passLight_73 rfl)) <|
  z_ac (j := 41) rfl (z_eI (sp_iconst dX4_passLight_76 (by decide +kernel) rfl)) <|
  z_ac (j := 42) rfl (z_eI (sp_iast dX4_passLight_77 rfl)) <|
  z_ac (j := 43) rfl (z_eW (sv_void dX4_passLight_78 rfl)) <| z_an
theorem dX4_warnOthers_0 : decode cX4_warnOthers 0 = .ok (.aload_n 1, 1) := by decide +kernel
theorem dX4_warnOthers_1 : decode cX4_warnOthers 1 = .ok (.getfield 27, 3) := by decide +kernel
theorem dX4_warnOthers_4 : decode cX4_warnOthers 4 = .ok (.astore_n 3, 1) := by decide +kernel
theorem dX4_warnOthers_5 : decode cX4_warnOthers 5 = .ok (.aload_n 1, 1) := by decide +kernel
theorem dX4_warnOthers_6 : decode cX4_warnOthers 6 = .ok (.invokevirtual 127, 3) := by decide +kernel
theorem dX4_warnOthers_9 : decode cX4_warnOthers 9 = .ok (.istore 4, 2) := by decide +kernel
theorem dX4_warnOthers_11 : decode cX4_warnOthers 11 = .ok (.iconst 0, 1) := by decide +kernel
theorem dX4_warnOthers_12 : decode cX4_warnOthers 12 = .ok (.istore 5, 2) := by decide +kernel
theorem dX4_warnOthers_14 : decode cX4_warnOthers 14 = .ok (.iload 5, 2) := by decide +kernel
theorem dX4_warnOthers_16 : decode cX4_warnOthers 16 = .ok (.aload_n 3, 1) := by decide +kernel
theorem dX4_warnOthers_17 : decode cX4_warnOthers 17 = .ok (.getfield 31, 3) := by decide +kernel
theorem dX4_warnOthers_20 : decode cX4_warnOthers 20 = .ok (.if_icmp .ge 63, 3) := by decide +kernel
theorem dX4_warnOthers_23 : decode cX4_warnOthers 23 = .ok (.aload_n 3, 1) := by decide +kernel
theorem dX4_warnOthers_24 : decode cX4_warnOthers 24 = .ok (.getfield 36, 3) := by decide +kernel
theorem dX4_warnOthers_27 : decode cX4_warnOthers 27 = .ok (.iload 5, 2) := by decide +kernel
theorem dX4_warnOthers_29 : decode cX4_warnOthers 29 = .ok (.iaload, 1) := by decide +kernel
theorem dX4_warnOthers_30 : decode cX4_warnOthers 30 = .ok (.ifCond .ne 47, 3) := by decide +kernel
theorem dX4_warnOthers_33 : decode cX4_warnOthers 33 = .ok (.aload_n 1, 1) := by decide +kernel
theorem dX4_warnOthers_34 : decode cX4_warnOthers 34 = .ok (.iload 5, 2) := by decide +kernel
theorem dX4_warnOthers_36 : decode cX4_warnOthers 36 = .ok (.iload_n 2, 1) := by decide +kernel
theorem dX4_warnOthers_37 : decode cX4_warnOthers 37 = .ok (.invokevirtual 131, 3) := by decide +kernel
theorem dX4_warnOthers_40 : decode cX4_warnOthers 40 = .ok (.iload 4, 2) := by decide +kernel
theorem dX4_warnOthers_42 : decode cX4_warnOthers 42 = .ok (.if_icmp .gt 35, 3) := by decide +kernel
theorem dX4_warnOthers_45 : decode cX4_warnOthers 45 = .ok (.aload_n 3, 1) := by decide +kernel
theorem dX4_warnOthers_46 : decode cX4_warnOthers 46 = .ok (.getfield 135, 3) := by decide +kernel
theorem dX4_warnOthers_49 : decode cX4_warnOthers 49 = .ok (.iload 5, 2) := by decide +kernel
theorem dX4_warnOthers_51 : decode cX4_warnOthers 51 = .ok (.dup2, 1) := by decide +kernel
theorem dX4_warnOthers_52 : decode cX4_warnOthers 52 = .ok (.iaload, 1) := by decide +kernel
theorem dX4_warnOthers_53 : decode cX4_warnOthers 53 = .ok (.iconst 1, 1) := by decide +kernel
theorem dX4_warnOthers_54 : decode cX4_warnOthers 54 = .ok (.iload_n 2, 1) := by decide +kernel
theorem dX4_warnOthers_55 : decode cX4_warnOthers 55 = .ok (.ishl, 1) := by decide +kernel
theorem dX4_warnOthers_56 : decode cX4_warnOthers 56 = .ok (.ior, 1) := by decide +kernel
theorem dX4_warnOthers_57 : decode cX4_warnOthers 57 = .ok (.iastore, 1) := by decide +kernel
theorem dX4_warnOthers_58 : decode cX4_warnOthers 58 = .ok (.aload_n 3, 1) := by decide +kernel
theorem dX4_warnOthers_59 : decode cX4_warnOthers 59 = .ok (.getfield 48, 3) := by decide +kernel
theorem dX4_warnOthers_62 : decode cX4_warnOthers 62 = .ok (.iload 5, 2) := by decide +kernel
theorem dX4_warnOthers_64 : decode cX4_warnOthers 64 = .ok (.iaload, 1) := by decide +kernel
theorem dX4_warnOthers_65 : decode cX4_warnOthers 65 = .ok (.iload_n 2, 1) := by decide +kernel
theorem dX4_warnOthers_66 : decode cX4_warnOthers 66 = .ok (.if_icmp .ne 11, 3) := by decide +kernel
theorem dX4_warnOthers_69 : decode cX4_warnOthers 69 = .ok (.aload_n 3, 1) := by decide +kernel
theorem dX4_warnOthers_70 : decode cX4_warnOthers 70 = .ok (.getfield 48, 3) := by decide +kernel
theorem dX4_warnOthers_73 : decode cX4_warnOthers 73 = .ok (.iload 5, 2) := by decide +kernel
theorem dX4_warnOthers_75 : decode cX4_warnOthers 75 = .ok (.iconst (-1), 1) := by decide +kernel
theorem dX4_warnOthers_76 : decode cX4_warnOthers 76 = .ok (.iastore, 1) := by decide +kernel
theorem dX4_warnOthers_77 : decode cX4_warnOthers 77 = .ok (.iinc 5 1, 3) := by decide +kernel
theorem dX4_warnOthers_80 : decode cX4_warnOthers 80 = .ok (.goto (-66), 3) := by decide +kernel
theorem dX4_warnOthers_83 : decode cX4_warnOthers 83 = .ok (.return_, 1) := by decide +kernel
theorem tX4_warnOthers {L : Nat} {xs : Nat → Int32} {N : Nat} : z_AllE (zE L xs N 177) 0 (kX4_warnOthers N) :=
  z_ac (j := 1) rfl (z_eI (sp_aload_n (q := 1) dX4_warnOthers_0 rfl rfl)) <|
  z_ac (j := 2) rfl (z_eI (sp_getf (C := RX7) (T := TX7) (Nf := 6) dX4_warnOthers_1 rfl inX7 (by decide) wf_195 rfl)) <|
  z_ac (j := 3) rfl (z_eI (sp_astore_n (q := 3) dX4_warnOthers_4 rfl (by decide) (fun _ _ => rfl) rfl)) <|
  z_ac (j := 4) rfl (z_eI (sp_aload_n (q := 1) dX4_warnOthers_5 rfl rfl)) <|
  z_ac (j := 5) rfl (z_cV dX4_warnOthers_6 wl_770 qX7_sightNow (by decide +kernel) ⟨_, _, rfl⟩ (z_sn rfl rfl) rfl) <|
  z_ac (j := 6) rfl (z_eI (sp_istore dX4_warnOthers_9 (by decide) (fun _ _ => rfl) rfl)) <|
  z_ac (j := 7) rfl (z_eI (sp_iconst dX4_warnOthers_11 (by decide +kernel) rfl)) <|
  z_ac (j := 8) rfl (z_eI (sp_istore dX4_warnOthers_12 (by decide) (fun _ _ => rfl) rfl)) <|
  z_ac (j := 9) rfl (z_eI (sp_iload dX4_warnOthers_14 rfl)) <|
  z_ac (j := 10) rfl (z_eI (sp_aload_n (q := 3) dX4_warnOthers_16 rfl rfl)) <|
  z_ac (j := 11) rfl (z_eI (sp_getf (C := RX6) (T := TX6) (Nf := 8) dX4_warnOthers_17 rfl inX6 (by decide) wf_145 rfl)) <|
  z_ac (j := 12) rfl (z_eI (sp_icmp_ge dX4_warnOthers_20 rfl rfl)) <|
  z_ac (j := 13) rfl (z_eI (sp_aload_n (q := 3) dX4_warnOthers_23 rfl rfl)) <|
  z_ac (j := 14) rfl (z_eI (sp_getf (C := RX6) (T := TX6) (Nf := 8) dX4_warnOthers_24 rfl inX6 (by decide) wf_153 rfl)) <|
  z_ac (j := 15) rfl (z_eI (sp_iload dX4_warnOthers_27 rfl)) <|
  z_ac (j := 16) rfl (z_eI (sp_iald dX4_warnOthers_29 rfl)) <|
  z_ac (j := 17) rfl (z_eI (sp_if_ne dX4_warnOthers_30 rfl rfl)) <|
  z_ac (j := 18) rfl (z_eI (sp_aload_n (q := 1) dX4_warnOthers_33 rfl rfl)) <|
  z_ac (j := 19) rfl (z_eI (sp_iload dX4_warnOthers_34 rfl)) <|
  z_ac (j := 20) rfl (z_eI (sp_iload_n (q := 2) dX4_warnOthers_36 rfl rfl)) <|
  z_ac (j := 21) rfl (z_cV dX4_warnOthers_37 wl_771 qX7_distanceTo (by decide +kernel) ⟨_, _, rfl⟩ (z_sn rfl rfl) rfl) <|
  z_ac (j := 22) rfl (z_eI (sp_iload dX4_warnOthers_40 rfl)) <|
  z_ac (j := 23) rfl (z_eI (sp_icmp_gt dX4_warnOthers_42 rfl rfl)) <|
  z_ac (j := 24) rfl (z_eI (sp_aload_n (q := 3) dX4_warnOthers_45 rfl rfl)) <|
  z_ac (j := 25) rfl (z_eI (sp_getf (C := RX6) (T := TX6) (Nf := 8) dX4_warnOthers_46 rfl inX6 (by decide) wf_165 rfl)) <|
  z_ac (j := 26) rfl (z_eI (sp_iload dX4_warnOthers_49 rfl)) <|
  z_ac (j := 27) rfl (z_eI (sp_dup2 dX4_warnOthers_51 rfl)) <|
  z_ac (j := 28) rfl (z_eI (sp_iald dX4_warnOthers_52 rfl)) <|
  z_ac (j := 29) rfl (z_eI (sp_iconst dX4_warnOthers_53 (by decide +kernel) rfl)) <|
  z_ac (j := 30) rfl (z_eI (sp_iload_n (q := 2) dX4_warnOthers_54 rfl rfl)) <|
  z_ac (j := 31) rfl (z_eI (sp_ishl dX4_warnOthers_55 rfl)) <|
  z_ac (j := 32) rfl (z_eI (sp_ior dX4_warnOthers_56 rfl)) <|
  z_ac (j := 33) rfl (z_eI (sp_iast dX4_warnOthers_57 rfl)) <|
  z_ac (j := 34) rfl (z_eI (sp_aload_n (q := 3) dX4_warnOthers_58 rfl rfl)) <|
  z_ac (j := 35) rfl (z_eI (sp_getf (C := RX6) (T := TX6) (Nf := 8) dX4_warnOthers_59 rfl inX6 (by decide) wf_159 rfl)) <|
  z_ac (j := 36) rfl (z_eI (sp_iload dX4_warnOthers_62 rfl)) <|
  z_ac (j := 37) rfl (z_eI (sp_iald dX4_warnOthers_64 rfl)) <|
  z_ac (j := 38) rfl (z_eI (sp_iload_n (q := 2) dX4_warnOthers_65 rfl rfl)) <|
  z_ac (j := 39) rfl (z_eI (sp_icmp_ne dX4_warnOthers_66 rfl rfl)) <|
  z_ac (j := 40) rfl (z_eI (sp_aload_n (q := 3) dX4_warnOthers_69 rfl rfl)) <|
  z_ac (j := 41) rfl (z_eI (sp_getf (C := RX6) (T := TX6) (Nf := 8) dX4_warnOthers_70 rfl inX6 (by decide) wf_159 rfl)) <|
  z_ac (j := 42) rfl (z_eI (sp_iload dX4_warnOthers_73 rfl)) <|
  z_ac (j := 43) rfl (z_eI (sp_iconst dX4_warnOthers_75 (by decide +kernel) rfl)) <|
  z_ac (j := 44) rfl (z_eI (sp_iast dX4_warnOthers_76 rfl)) <|
  z_ac (j := 45) rfl (z_eI (sp_iinc dX4_warnOthers_77 (by decide +kernel) (by decide) (fun _ _ => rfl) rfl)) <|
  z_ac (j := 46) rfl (z_eI (sp_goto dX4_warnOthers_80 rfl)) <|
  z_ac (j := 47) rfl (z_eW (sv_void dX4_warnOthers_83 rfl)) <| z_an
theorem dX2_forgetAll_0 : decode cX2_forgetAll 0 = .ok (.aload_n 0, 1) := by decide +kernel
theorem dX2_forgetAll_1 : decode cX2_forgetAll 1 = .ok (.iconst 0, 1) := by decide +kernel
theorem dX2_forgetAll_2 : decode cX2_forgetAll 2 = .ok (.putfield 18, 3) := by decide +kernel
theorem dX2_forgetAll_5 : decode cX2_forgetAll 5 = .ok (.return_, 1) := by decide +kernel
theorem tX2_forgetAll {L : Nat} {xs : Nat → Int32} {N : Nat} : z_AllE (zE L xs N 178) 0 (kX2_forgetAll N) :=
  z_ac (j := 1) rfl (z_eI (sp_aload_n (q := 0) dX2_forgetAll_0 rfl rfl)) <|
  z_ac (j := 2) rfl (z_eI (sp_iconst dX2_forgetAll_1 (by decide +kernel) rfl)) <|
  z_ac (j := 3) rfl (z_eI (sp_putI (C := RX2) (T := TX2) (Nf := 3) dX2_forgetAll_2 rfl inX2 tyX2_ok nmX2 (by decide) wf_229 rfl (by decide +kernel) rfl)) <|
  z_ac (j := 4) rfl (z_eW (sv_void dX2_forgetAll_5 rfl)) <| z_an
theorem dX2_remember_0 : decode cX2_remember 0 = .ok (.aload_n 0, 1) := by decide +kernel
theorem dX2_remember_1 : decode cX2_remember 1 = .ok (.aload_n 0, 1) := by decide +kernel
theorem dX2_remember_2 : decode cX2_remember 2 = .ok (.getfield 22, 3) := by decide +kernel
theorem dX2_remember_5 : decode cX2_remember 5 = .ok (.iconst 1, 1) := by decide +kernel
theorem dX2_remember_6 : decode cX2_remember 6 = .ok (.iadd, 1) := by decide +kernel
theorem dX2_remember_7 : decode cX2_remember 7 = .ok (.bipush 8, 2) := by decide +kernel
theorem dX2_remember_9 : decode cX2_remember 9 = .ok (.irem, 1) := by decide +kernel
theorem dX2_remember_10 : decode cX2_remember 10 = .ok (.putfield 22, 3) := by decide +kernel
theorem dX2_remember_13 : decode cX2_remember 13 = .ok (.aload_n 0, 1) := by decide +kernel
theorem dX2_remember_14 : decode cX2_remember 14 = .ok (.getfield 11, 3) := by decide +kernel
theorem dX2_remember_17 : decode cX2_remember 17 = .ok (.aload_n 0, 1) := by decide +kernel
theorem dX2_remember_18 : decode cX2_remember 18 = .ok (.getfield 22, 3) := by decide +kernel
theorem dX2_remember_21 : decode cX2_remember 21 = .ok (.aaload, 1) := by decide +kernel
theorem dX2_remember_22 : decode cX2_remember 22 = .ok (.aload_n 1, 1) := by decide +kernel
theorem dX2_remember_23 : decode cX2_remember 23 = .ok (.invokevirtual 25, 3) := by decide +kernel
theorem dX2_remember_26 : decode cX2_remember 26 = .ok (.aload_n 0, 1) := by decide +kernel
theorem dX2_remember_27 : decode cX2_remember 27 = .ok (.aload_n 0, 1) := by decide +kernel
theorem dX2_remember_28 : decode cX2_remember 28 = .ok (.getfield 18, 3) := by decide +kernel
theorem dX2_remember_31 : decode cX2_remember 31 = .ok (.iconst 1, 1) := by decide +kernel
theorem dX2_remember_32 : decode cX2_remember 32 = .ok (.iadd, 1) := by decide +kernel
theorem dX2_remember_33 : decode cX2_remember 33 = .ok (.bipush 8, 2) := by decide +kernel
theorem dX2_remember_35 : decode cX2_remember 35 = .ok (.invokestatic 29, 3) := by decide +kernel
theorem dX2_remember_38 : decode cX2_remember 38 = .ok (.putfield 18, 3) := by decide +kernel
theorem dX2_remember_41 : decode cX2_remember 41 = .ok (.return_, 1) := by decide +kernel
theorem tX2_remember {L : Nat} {xs : Nat → Int32} {N : Nat} : z_AllE (zE L xs N 179) 0 (kX2_remember N) :=
  z_ac (j := 1) rfl (z_eI (sp_aload_n (q := 0) dX2_remember_0 rfl rfl)) <|
  z_ac (j := 2) rfl (z_eI (sp_aload_n (q := 0) dX2_remember_1 rfl rfl)) <|
  z_ac (j := 3) rfl (z_eI (sp_getf (C := RX2) (T := TX2) (Nf := 3) dX2_remember_2 rfl inX2 (by decide) wf_231 rfl)) <|
  z_ac (j := 4) rfl (z_eI (sp_iconst dX2_remember_5 (by decide +kernel) rfl)) <|
  z_ac (j := 5) rfl (z_eI (sp_iadd dX2_remember_6 rfl)) <|
  z_ac (j := 6) rfl (z_eI (sp_bipush dX2_remember_7 (by decide +kernel) rfl)) <|
  z_ac (j := 7) rfl (z_eI (sp_irem dX2_remember_9 rfl)) <|
  z_ac (j := 8) rfl (z_eI (sp_putI (C := RX2) (T := TX2) (Nf := 3) dX2_remember_10 rfl inX2 tyX2_ok nmX2 (by decide) wf_231 rfl (by decide +kernel) rfl)) <|
  z_ac (j := 9) rfl (z_eI (sp_aload_n (q := 0) dX2_remember_13 rfl rfl)) <|
  z_ac (j := 10) rfl (z_eI (sp_getf (C := RX2) (T := TX2) (Nf := 3) dX2_remember_14 rfl inX2 (by decide) wf_232 rfl)) <|
  z_ac (j := 11) rfl (z_eI (sp_aload_n (q := 0) dX2_remember_17 rfl rfl)) <|
  z_ac (j := 12) rfl (z_eI (sp_getf (C := RX2) (T := TX2) (Nf := 3) dX2_remember_18 rfl inX2 (by decide) wf_231 rfl)) <|
  z_ac (j := 13) rfl (z_eI (sp_aald dX2_remember_21 rfl)) <|
  z_ac (j := 14) rfl (z_eI (sp_aload_n (q := 1) dX2_remember_22 rfl rfl)) <|
  z_ac (j := 15) rfl (z_cV dX2_remember_23 wl_647 qX7_copyFrom (by decide +kernel) ⟨_, _, rfl⟩ (z_sn rfl rfl) rfl) <|
  z_ac (j := 16) rfl (z_eI (sp_aload_n (q := 0) dX2_remember_26 rfl rfl)) <|
  z_ac (j := 17) rfl (z_eI (sp_aload_n (q := 0) dX2_remember_27 rfl rfl)) <|
  z_ac (j := 18) rfl (z_eI (sp_getf (C := RX2) (T := TX2) (Nf := 3) dX2_remember_28 rfl inX2 (by decide) wf_229 rfl)) <|
  z_ac (j := 19) rfl (z_eI (sp_iconst dX2_remember_31 (by decide +kernel) rfl)) <|
  z_ac (j := 20) rfl (z_eI (sp_iadd dX2_remember_32 rfl)) <|
  z_ac (j := 21) rfl (z_eI (sp_bipush dX2_remember_33 (by decide +kernel) rfl)) <|
  z_ac (j := 22) rfl (z_eI (sp_mmin dX2_remember_35 wl_675 ws_659 wi_51 wc_660 (by decide) (by decide) rfl)) <|
  z_ac (j := 23) rfl (z_eI (sp_putI (C := RX2) (T := TX2) (Nf := 3) dX2_remember_38 rfl inX2 tyX2_ok nmX2 (by decide) wf_229 rfl (by decide +kernel) rfl)) <|
  z_ac (j := 24) rfl (z_eW (sv_void dX2_remember_41 rfl)) <| z_an
theorem dX2_restoreLatest_0 : decode cX2_restoreLatest 0 = .ok (.aload_n 0, 1) := by decide +kernel
theorem dX2_restoreLatest_1 : decode cX2_restoreLatest 1 = .ok (.getfield 18, 3) := by decide +kernel
theorem dX2_restoreLatest_4 : decode cX2_restoreLatest 4 = .ok (.ifCond .ne 4, 3) := by decide +kernel
theorem dX2_restoreLatest_7 : decode cX2_restoreLatest 7 = .ok (.return_, 1) := by decide +kernel
theorem dX2_restoreLatest_8 : decode cX2_restoreLatest 8 = .ok (.aload_n 1, 1) := by decide +kernel
theorem dX2_restoreLatest_9 : decode cX2_restoreLatest 9 = .ok (.aload_n 0, 1) := by decide +kernel
theorem dX2_restoreLatest_10 : decode cX2_restoreLatest 10 = .ok (.getfield 11, 3) := by decide +kernel
theorem dX2_restoreLatest_13 : decode cX2_restoreLatest 13 = .ok (.aload_n 0, 1) := by decide +kernel
theorem dX2_restoreLatest_14 : decode cX2_restoreLatest 14 = .ok (.getfield 22, 3) := by decide +kernel
theorem dX2_restoreLatest_17 : decode cX2_restoreLatest 17 = .ok (.aaload, 1) := by decide +kernel
theorem dX2_restoreLatest_18 : decode cX2_restoreLatest 18 = .ok (.invokevirtual 25, 3) := by decide +kernel
theorem dX2_restoreLatest_21 : decode cX2_restoreLatest 21 = .ok (.aload_n 0, 1) := by decide +kernel
theorem dX2_restoreLatest_22 : decode cX2_restoreLatest 22 = .ok (.aload_n 0, 1) := by decide +kernel
theorem dX2_restoreLatest_23 : decode cX2_restoreLatest 23 = .ok (.getfield 22, 3) := by decide +kernel
theorem dX2_restoreLatest_26 : decode cX2_restoreLatest 26 = .ok (.bipush 8, 2) := by decide +kernel
theorem dX2_restoreLatest_28 : decode cX2_restoreLatest 28 = .ok (.iadd, 1) := by decide +kernel
theorem dX2_restoreLatest_29 : decode cX2_restoreLatest 29 = .ok (.iconst 1, 1) := by decide +kernel
theorem dX2_restoreLatest_30 : decode cX2_restoreLatest 30 = .ok (.isub, 1) := by decide +kernel
theorem dX2_restoreLatest_31 : decode cX2_restoreLatest 31 = .ok (.bipush 8, 2) := by decide +kernel
theorem dX2_restoreLatest_33 : decode cX2_restoreLatest 33 = .ok (.irem, 1) := by decide +kernel
theorem dX2_restoreLatest_34 : decode cX2_restoreLatest 34 = .ok (.putfield 22, 3) := by decide +kernel
theorem dX2_restoreLatest_37 : decode cX2_restoreLatest 37 = .ok (.aload_n 0, 1) := by decide +kernel
theorem dX2_restoreLatest_38 : decode cX2_restoreLatest 38 = .ok (.dup, 1) := by decide +kernel
theorem dX2_restoreLatest_39 : decode cX2_restoreLatest 39 = .ok (.getfield 18, 3) := by decide +kernel
theorem dX2_restoreLatest_42 : decode cX2_restoreLatest 42 = .ok (.iconst 1, 1) := by decide +kernel
theorem dX2_restoreLatest_43 : decode cX2_restoreLatest 43 = .ok (.isub, 1) := by decide +kernel
theorem dX2_restoreLatest_44 : decode cX2_restoreLatest 44 = .ok (.putfield 18, 3) := by decide +kernel
theorem dX2_restoreLatest_47 : decode cX2_restoreLatest 47 = .ok (.return_, 1) := by decide +kernel
theorem tX2_restoreLatest {L : Nat} {xs : Nat → Int32} {N : Nat} : z_AllE (zE L xs N 180) 0 (kX2_restoreLatest N) :=
  z_ac (j := 1) rfl (z_eI (sp_aload_n (q := 0) dX2_restoreLatest_0 rfl rfl)) <|
  z_ac (j := 2) rfl (z_eI (sp_getf (C := RX2) (T := TX2) (Nf := 3) dX2_restoreLatest_1 rfl inX2 (by decide) wf_229 rfl)) <|
  z_ac (j := 3) rfl (z_eI (sp_if_ne dX2_restoreLatest_4 rfl rfl)) <|
  z_ac (j := 4) rfl (z_eW (sv_void dX2_restoreLatest_7 rfl)) <|
  z_ac (j := 5) rfl (z_eI (sp_aload_n (q := 1) dX2_restoreLatest_8 rfl rfl)) <|
  z_ac (j := 6) rfl (z_eI (sp_aload_n (q := 0) dX2_restoreLatest_9 rfl rfl)) <|
  z_ac (j := 7) rfl (z_eI (sp_getf (C := RX2) (T := TX2) (Nf := 3) dX2_restoreLatest_10 rfl inX2 (by decide) wf_232 rfl)) <|
  z_ac (j := 8) rfl (z_eI (sp_aload_n (q := 0) dX2_restoreLatest_13 rfl rfl)) <|
  z_ac (j := 9) rfl (z_eI (sp_getf (C := RX2) (T := TX2) (Nf := 3) dX2_restoreLatest_14 rfl inX2 (by decide) wf_231 rfl)) <|
  z_ac (j := 10) rfl (z_eI (sp_aald dX2_restoreLatest_17 rfl)) <|
  z_ac (j := 11) rfl (z_cV dX2_restoreLatest_18 wl_647 qX7_copyFrom (by decide +kernel) ⟨_, _, rfl⟩ (z_sn rfl rfl) rfl) <|
  z_ac (j := 12) rfl (z_eI (sp_aload_n (q := 0) dX2_restoreLatest_21 rfl rfl)) <|
  z_ac (j := 13) rfl (z_eI (sp_aload_n (q := 0) dX2_restoreLatest_22 rfl rfl)) <|
  z_ac (j := 14) rfl (z_eI (sp_getf (C := RX2) (T := TX2) (Nf := 3) dX2_restoreLatest_23 rfl inX2 (by decide) wf_231 rfl)) <|
  z_ac (j := 15) rfl (z_eI (sp_bipush dX2_restoreLatest_26 (by decide +kernel) rfl)) <|
  z_ac (j := 16) rfl (z_eI (sp_iadd dX2_restoreLatest_28 rfl)) <|
  z_ac (j := 17) rfl (z_eI (sp_iconst dX2_restoreLatest_29 (by decide +kernel) rfl)) <|
  z_ac (j := 18) rfl (z_eI (sp_isub dX2_restoreLatest_30 rfl)) <|
  z_ac (j := 19) rfl (z_eI (sp_bipush dX2_restoreLatest_31 (by decide +kernel) rfl)) <|
  z_ac (j := 20) rfl (z_eI (sp_irem dX2_restoreLatest_33 rfl)) <|
  z_ac (j := 21) rfl (z_eI (sp_putI (C := RX2) (T := TX2) (Nf := 3) dX2_restoreLatest_34 rfl inX2 tyX2_ok nmX2 (by decide) wf_231 rfl (by decide +kernel) rfl)) <|
  z_ac (j := 22) rfl (z_eI (sp_aload_n (q := 0) dX2_restoreLatest_37 rfl rfl)) <|
  z_ac (j := 23) rfl (z_eI (sp_dup dX2_restoreLatest_38 rfl)) <|
  z_ac (j := 24) rfl (z_eI (sp_getf (C := RX2) (T := TX2) (Nf := 3) dX2_restoreLatest_39 rfl inX2 (by decide) wf_229 rfl)) <|
  z_ac (j := 25) rfl (z_eI (sp_iconst dX2_restoreLatest_42 (by decide +kernel) rfl)) <|
  z_ac (j := 26) rfl (z_eI (sp_isub dX2_restoreLatest_43 rfl)) <|
  z_ac (j := 27) rfl (z_eI (sp_putI (C := RX2) (T := TX2) (Nf := 3) dX2_restoreLatest_44 rfl inX2 tyX2_ok nmX2 (by decide) wf_229 rfl (by decide +kernel) rfl)) <|
  z_ac (j := 28) rfl (z_eW (sv_void dX2_restoreLatest_47 rfl)) <| z_an
theorem dX5_putInt_0 : decode cX5_putInt 0 = .ok (.bipush 24, 2) := by decide +kernel
theorem dX5_putInt_2 : decode cX5_putInt 2 = .ok (.istore_n 2, 1) := by decide +kernel
theorem dX5_putInt_3 : decode cX5_putInt 3 = .ok (.iload_n 2, 1) := by decide +kernel
theorem dX5_putInt_4 : decode cX5_putInt 4 = .ok (.ifCond .lt 17, 3) := by decide +kernel
theorem dX5_putInt_7 : decode cX5_putInt 7 = .ok (.aload_n 0, 1) := by decide +kernel
theorem dX5_putInt_8 : decode cX5_putInt 8 = .ok (.iload_n 1, 1) := by decide +kernel
theorem dX5_putInt_9 : decode cX5_putInt 9 = .ok (.iload_n 2, 1) := by decide +kernel
theorem dX5_putInt_10 : decode cX5_putInt 10 = .ok (.iushr, 1) := by decide +kernel
theorem dX5_putInt_11 : decode cX5_putInt 11 = .ok (.i2b, 1) := by decide +kernel
theorem dX5_putInt_12 : decode cX5_putInt 12 = .ok (.invokevirtual 15, 3) := by decide +kernel
theorem dX5_putInt_15 : decode cX5_putInt 15 = .ok (.iinc 2 (-8), 3) := by decide +kernel
theorem dX5_putInt_18 : decode cX5_putInt 18 = .ok (.goto (-15), 3) := by decide +kernel
theorem dX5_putInt_21 : decode cX5_putInt 21 = .ok (.return_, 1) := by decide +kernel
theorem tX5_putInt {L : Nat} {xs : Nat → Int32} {N : Nat} : z_AllE (zE L xs N 181) 0 (kX5_putInt N) :=
  z_ac (j := 1) rfl (z_eI (sp_bipush dX5_putInt_0 (by decide +kernel) rfl)) <|
  z_ac (j := 2) rfl (z_eI (sp_istore_n (q := 2) dX5_putInt_2 rfl (by decide) (fun _ _ => rfl) rfl)) <|
  z_ac (j := 3) rfl (z_eI (sp_iload_n (q := 2) dX5_putInt_3 rfl rfl)) <|
  z_ac (j := 4) rfl (z_eI (sp_if_lt dX5_putInt_4 rfl rfl)) <|
  z_ac (j := 5) rfl (z_eI (sp_aload_n (q := 0) dX5_putInt_7 rfl rfl)) <|
  z_ac (j := 6) rfl (z_eI (sp_iload_n (q := 1) dX5_putInt_8 rfl rfl)) <|
  z_ac (j := 7) rfl (z_eI (sp_iload_n (q := 2) dX5_putInt_9 rfl rfl)) <|
  z_ac (j := 8) rfl (z_eI (sp_iushr dX5_putInt_10 rfl)) <|
  z_ac (j := 9) rfl (z_eI (sp_i2b dX5_putInt_11 rfl)) <|
  z_ac (j := 10) rfl (z_cV dX5_putInt_12 wl_358 qX5_putByte (by decide +kernel) ⟨_, _, rfl⟩ (z_sn rfl rfl) rfl) <|
  z_ac (j := 11) rfl (z_eI (sp_iinc dX5_putInt_15 (by decide +kernel) (by decide) (fun _ _ => rfl) rfl)) <|
  z_ac (j := 12) rfl (z_eI (sp_goto dX5_putInt_18 rfl)) <|
  z_ac (j := 13) rfl (z_eW (sv_void dX5_putInt_21 rfl)) <| z_an
theorem dX5_putText_0 : decode cX5_putText 0 = .ok (.iconst 0, 1) := by decide +kernel
theorem dX5_putText_1 : decode cX5_putText 1 = .ok (.istore_n 2, 1) := by decide +kernel
theorem dX5_putText_2 : decode cX5_putText 2 = .ok (.iload_n 2, 1) := by decide +kernel
theorem dX5_putText_3 : decode cX5_putText 3 = .ok (.aload_n 1, 1) := by decide +kernel
theorem dX5_putText_4 : decode cX5_putText 4 = .ok (.invokevirtual 19, 3) := by decide +kernel
theorem dX5_putText_7 : decode cX5_putText 7 = .ok (.if_icmp .ge 19, 3) := by decide +kernel
theorem dX5_putText_10 : decode cX5_putText 10 = .ok (.aload_n 0, 1) := by decide +kernel
theorem dX5_putText_11 : decode cX5_putText 11 = .ok (.aload_n 1, 1) := by decide +kernel
theorem dX5_putText_12 : decode cX5_putText 12 = .ok (.iload_n 2, 1) := by decide +kernel
theorem dX5_putText_13 : decode cX5_putText 13 = .ok (.invokevirtual 25, 3) := by decide +kernel
theorem dX5_putText_16 : decode cX5_putText 16 = .ok (.i2b, 1) := by decide +kernel
theorem dX5_putText_17 : decode cX5_putText 17 = .ok (.invokevirtual 15, 3) := by decide +kernel
theorem dX5_putText_20 : decode cX5_putText 20 = .ok (.iinc 2 1, 3) := by decide +kernel
theorem dX5_putText_23 : decode cX5_putText 23 = .ok (.goto (-21), 3) := by decide +kernel
theorem dX5_putText_26 : decode cX5_putText 26 = .ok (.return_, 1) := by decide +kernel
theorem tX5_putText {L : Nat} {xs : Nat → Int32} {N : Nat} : z_AllE (zE L xs N 182) 0 (kX5_putText N) :=
  z_ac (j := 1) rfl (z_eI (sp_iconst dX5_putText_0 (by decide +kernel) rfl)) <|
  z_ac (j := 2) rfl (z_eI (sp_istore_n (q := 2) dX5_putText_1 rfl (by decide) (fun _ _ => rfl) rfl)) <|
  z_ac (j := 3) rfl (z_eI (sp_iload_n (q := 2) dX5_putText_2 rfl rfl)) <|
  z_ac (j := 4) rfl (z_eI (sp_aload_n (q := 1) dX5_putText_3 rfl rfl)) <|
  z_ac (j := 5) rfl (z_cT dX5_putText_4 wl_310 qJ0_length_8abf5 (by decide +kernel) rfl (z_sn rfl rfl) rfl) <|
  z_ac (j := 6) rfl (z_eI (sp_icmp_ge dX5_putText_7 rfl rfl)) <|
  z_ac (j := 7) rfl (z_eI (sp_aload_n (q := 0) dX5_putText_10 rfl rfl)) <|
  z_ac (j := 8) rfl (z_eI (sp_aload_n (q := 1) dX5_putText_11 rfl rfl)) <|
  z_ac (j := 9) rfl (z_eI (sp_iload_n (q := 2) dX5_putText_12 rfl rfl)) <|
  z_ac (j := 10) rfl (z_cT dX5_putText_13 wl_320 qJ0_charAt_5068e (by decide +kernel) rfl (z_sn rfl rfl) rfl) <|
  z_ac (j := 11) rfl (z_eI (sp_i2b dX5_putText_16 rfl)) <|
  z_ac (j := 12) rfl (z_cV dX5_putText_17 wl_358 qX5_putByte (by decide +kernel) ⟨_, _, rfl⟩ (z_sn rfl rfl) rfl) <|
  z_ac (j := 13) rfl (z_eI (sp_iinc dX5_putText_20 (by decide +kernel) (by decide) (fun _ _ => rfl) rfl)) <|
  z_ac (j := 14) rfl (z_eI (sp_goto dX5_putText_23 rfl)) <|
  z_ac (j := 15) rfl (z_eW (sv_void dX5_putText_26 rfl)) <| z_an
theorem dX5_putByte_0 : decode cX5_putByte 0 = .ok (.aload_n 0, 1) := by decide +kernel
theorem dX5_putByte_1 : decode cX5_putByte 1 = .ok (.getfield 29, 3) := by decide +kernel
theorem dX5_putByte_4 : decode cX5_putByte 4 = .ok (.sipush 800, 3) := by decide +kernel
theorem dX5_putByte_7 : decode cX5_putByte 7 = .ok (.if_icmp .ge 23, 3) := by decide +kernel
theorem dX5_putByte_10 : decode cX5_putByte 10 = .ok (.aload_n 0, 1) := by decide +kernel
theorem dX5_putByte_11 : decode cX5_putByte 11 = .ok (.getfield 9, 3) := by decide +kernel
theorem dX5_putByte_14 : decode cX5_putByte 14 = .ok (.aload_n 0, 1) := by decide +kernel
theorem dX5_putByte_15 : decode cX5_putByte 15 = .ok (.getfield 29, 3) := by decide +kernel
theorem dX5_putByte_18 : decode cX5_putByte 18 = .ok (.iload_n 1, 1) := by decide +kernel
theorem dX5_putByte_19 : decode cX5_putByte 19 = .ok (.bastore, 1) := by decide +kernel
theorem dX5_putByte_20 : decode cX5_putByte 20 = .ok (.aload_n 0, 1) := by decide +kernel
theorem dX5_putByte_21 : decode cX5_putByte 21 = .ok (.dup, 1) := by decide +kernel
theorem dX5_putByte_22 : decode cX5_putByte 22 = .ok (.getfield 29, 3) := by decide +kernel
theorem dX5_putByte_25 : decode cX5_putByte 25 = .ok (.iconst 1, 1) := by decide +kernel
theorem dX5_putByte_26 : decode cX5_putByte 26 = .ok (.iadd, 1) := by decide +kernel
theorem dX5_putByte_27 : decode cX5_putByte 27 = .ok (.putfield 29, 3) := by decide +kernel
theorem dX5_putByte_30 : decode cX5_putByte 30 = .ok (.return_, 1) := by decide +kernel
theorem tX5_putByte {L : Nat} {xs : Nat → Int32} {N : Nat} : z_AllE (zE L xs N 183) 0 (kX5_putByte N) :=
  z_ac (j := 1) rfl (z_eI (sp_aload_n (q := 0) dX5_putByte_0 rfl rfl)) <|
  z_ac (j := 2) rfl (z_eI (sp_getf (C := RX5) (T := TX5) (Nf := 7) dX5_putByte_1 rfl inX5 (by decide) wf_247 rfl)) <|
  z_ac (j := 3) rfl (z_eI (sp_sipush dX5_putByte_4 (by decide +kernel) rfl)) <|
  z_ac (j := 4) rfl (z_eI (sp_icmp_ge dX5_putByte_7 rfl rfl)) <|
  z_ac (j := 5) rfl (z_eI (sp_aload_n (q := 0) dX5_putByte_10 rfl rfl)) <|
  z_ac (j := 6) rfl (z_eI (sp_getf (C := RX5) (T := TX5) (Nf := 7) dX5_putByte_11 rfl inX5 (by decide) wf_248 rfl)) <|
  z_ac (j := 7) rfl (z_eI (sp_aload_n (q := 0) dX5_putByte_14 rfl rfl)) <|
  z_ac (j := 8) rfl (z_eI (sp_getf (C := RX5) (T := TX5) (Nf := 7) dX5_putByte_15 rfl inX5 (by decide) wf_247 rfl)) <|
  z_ac (j := 9) rfl (z_eI (sp_iload_n (q := 1) dX5_putByte_18 rfl rfl)) <|
  z_ac (j := 10) rfl (z_eI (sp_bast dX5_putByte_19 rfl)) <|
  z_ac (j := 11) rfl (z_eI (sp_aload_n (q := 0) dX5_putByte_20 rfl rfl)) <|
  z_ac (j := 12) rfl (z_eI (sp_dup dX5_putByte_21 rfl)) <|
  z_ac (j := 13) rfl (z_eI (sp_getf (C := RX5) (T := TX5) (Nf := 7) dX5_putByte_22 rfl inX5 (by decide) wf_247 rfl)) <|
  z_ac (j := 14) rfl (z_eI (sp_iconst dX5_putByte_25 (by decide +kernel) rfl)) <|
  z_ac (j := 15) rfl (z_eI (sp_iadd dX5_putByte_26 rfl)) <|
  z_ac (j := 16) rfl (z_eI (sp_putI (C := RX5) (T := TX5) (Nf := 7) dX5_putByte_27 rfl inX5 tyX5_ok nmX5 (by decide) wf_247 rfl (by decide +kernel) rfl)) <|
  z_ac (j := 17) rfl (z_eW (sv_void dX5_putByte_30 rfl)) <| z_an
theorem dX5_cutTo_0 : decode cX5_cutTo 0 = .ok (.aload_n 0, 1) := by decide +kernel
theorem dX5_cutTo_1 : decode cX5_cutTo 1 = .ok (.iload_n 1, 1) := by decide +kernel
theorem dX5_cutTo_2 : decode cX5_cutTo 2 = .ok (.putfield 29, 3) := by decide +kernel
theorem dX5_cutTo_5 : decode cX5_cutTo 5 = .ok (.return_, 1) := by decide +kernel
theorem tX5_cutTo {L : Nat} {xs : Nat → Int32} {N : Nat} : z_AllE (zE L xs N 184) 0 (kX5_cutTo N) :=
  z_ac (j := 1) rfl (z_eI (sp_aload_n (q := 0) dX5_cutTo_0 rfl rfl)) <|
  z_ac (j := 2) rfl (z_eI (sp_iload_n (q := 1) dX5_cutTo_1 rfl rfl)) <|
  z_ac (j := 3) rfl (z_eI (sp_putI (C := RX5) (T := TX5) (Nf := 7) dX5_cutTo_2 rfl inX5 tyX5_ok nmX5 (by decide) wf_247 rfl (by decide +kernel) rfl)) <|
  z_ac (j := 4) rfl (z_eW (sv_void dX5_cutTo_5 rfl)) <| z_an
theorem dX5_readInto_0 : decode cX5_readInto 0 = .ok (.aload_n 0, 1) := by decide +kernel
theorem dX5_readInto_1 : decode cX5_readInto 1 = .ok (.iconst 0, 1) := by decide +kernel
theorem dX5_readInto_2 : decode cX5_readInto 2 = .ok (.putfield 32, 3) := by decide +kernel
theorem dX5_readInto_5 : decode cX5_readInto 5 = .ok (.aload_n 0, 1) := by decide +kernel
theorem dX5_readInto_6 : decode cX5_readInto 6 = .ok (.invokevirtual 35, 3) := by decide +kernel
theorem dX5_readInto_9 : decode cX5_readInto 9 = .ok (.aload_n 0, 1) := by decide +kernel
theorem dX5_readInto_10 : decode cX5_readInto 10 = .ok (.aload_n 1, 1) := by decide +kernel
theorem dX5_readInto_11 : decode cX5_readInto 11 = .ok (.invokevirtual 38, 3) := by decide +kernel
theorem dX5_readInto_14 : decode cX5_readInto 14 = .ok (.ifCond .eq 49, 3) := by decide +kernel
theorem dX5_readInto_17 : decode cX5_readInto 17 = .ok (.aload_n 0, 1) := by decide +kernel
theorem dX5_readInto_18 : decode cX5_readInto 18 = .ok (.aload_n 1, 1) := by decide +kernel
theorem dX5_readInto_19 : decode cX5_readInto 19 = .ok (.getfield 42, 3) := by decide +kernel
theorem dX5_readInto_22 : decode cX5_readInto 22 = .ok (.invokevirtual 48, 3) := by decide +kernel
theorem dX5_readInto_25 : decode cX5_readInto 25 = .ok (.ifCond .eq 38, 3) := by decide +kernel
theorem dX5_readInto_28 : decode cX5_readInto 28 = .ok (.aload_n 0, 1) := by decide +kernel
theorem dX5_readInto_29 : decode cX5_readInto 29 = .ok (.aload_n 1, 1) := by decide +kernel
theorem dX5_readInto_30 : decode cX5_readInto 30 = .ok (.invokevirtual 52, 3) := by decide +kernel
theorem dX5_readInto_33 : decode cX5_readInto 33 = .ok (.ifCond .eq 30, 3) := by decide +kernel
theorem dX5_readInto_36 : decode cX5_readInto 36 = .ok (.aload_n 0, 1) := by decide +kernel
theorem dX5_readInto_37 : decode cX5_readInto 37 = .ok (.aload_n 1, 1) := by decide +kernel
theorem dX5_readInto_38 : decode cX5_readInto 38 = .ok (.invokevirtual 55, 3) := by decide +kernel
theorem dX5_readInto_41 : decode cX5_readInto 41 = .ok (.ifCond .eq 22, 3) := by decide +kernel
theorem dX5_readInto_44 : decode cX5_readInto 44 = .ok (.aload_n 0, 1) := by decide +kernel
theorem dX5_readInto_45 : decode cX5_readInto 45 = .ok (.aload_n 1, 1) := by decide +kernel
theorem dX5_readInto_46 : decode cX5_readInto 46 = .ok (.invokevirtual 58, 3) := by decide +kernel
theorem dX5_readInto_49 : decode cX5_readInto 49 = .ok (.ifCond .eq 14, 3) := by decide +kernel
theorem dX5_readInto_52 : decode cX5_readInto 52 = .ok (.aload_n 0, 1) := by decide +kernel
theorem dX5_readInto_53 : decode cX5_readInto 53 = .ok (.getfield 61, 3) := by decide +kernel
theorem dX5_readInto_56 : decode cX5_readInto 56 = .ok (.ifCond .ne 7, 3) := by decide +kernel
theorem dX5_readInto_59 : decode cX5_readInto 59 = .ok (.iconst 1, 1) := by decide +kernel
theorem dX5_readInto_60 : decode cX5_readInto 60 = .ok (.goto 4, 3) := by decide +kernel
theorem dX5_readInto_63 : decode cX5_readInto 63 = .ok (.iconst 0, 1) := by decide +kernel
theorem dX5_readInto_64 : decode cX5_readInto 64 = .ok (.istore_n 2, 1) := by decide +kernel
theorem dX5_readInto_65 : decode cX5_readInto 65 = .ok (.iload_n 2, 1) := by decide +kernel
theorem dX5_readInto_66 : decode cX5_readInto 66 = .ok (.ifCond .eq 7, 3) := by decide +kernel
theorem dX5_readInto_69 : decode cX5_readInto 69 = .ok (.iconst (-1), 1) := by decide +kernel
theorem dX5_readInto_70 : decode cX5_readInto 70 = .ok (.goto 7, 3) := by decide +kernel
theorem dX5_readInto_73 : decode cX5_readInto 73 = .ok (.aload_n 0, 1) := by decide +kernel
theorem dX5_readInto_74 : decode cX5_readInto 74 = .ok (.getfield 64, 3) := by decide +kernel
theorem dX5_readInto_77 : decode cX5_readInto 77 = .ok (.ireturn, 1) := by decide +kernel
theorem tX5_readInto {L : Nat} {xs : Nat → Int32} {N : Nat} : z_AllE (zE L xs N 185) 0 (kX5_readInto N) :=
  z_ac (j := 1) rfl (z_eI (sp_aload_n (q := 0) dX5_readInto_0 rfl rfl)) <|
  z_ac (j := 2) rfl (z_eI (sp_iconst dX5_readInto_1 (by decide +kernel) rfl)) <|
  z_ac (j := 3) rfl (z_eI (sp_putI (C := RX5) (T := TX5) (Nf := 7) dX5_readInto_2 rfl inX5 tyX5_ok nmX5 (by decide) wf_250 rfl (by decide +kernel) rfl)) <|
  z_ac (j := 4) rfl (z_eI (sp_aload_n (q := 0) dX5_readInto_5 rfl rfl)) <|
  z_ac (j := 5) rfl (z_cV dX5_readInto_6 wl_366 qX5_scan (by decide +kernel) ⟨_, _, rfl⟩ (z_sn rfl rfl) rfl) <|
  z_ac (j := 6) rfl (z_eI (sp_aload_n (q := 0) dX5_readInto_9 rfl rfl)) <|
  z_ac (j := 7) rfl (z_eI (sp_aload_n (q := 1) dX5_readInto_10 rfl rfl)) <|
  z_ac (j := 8) rfl (z_cV dX5_readInto_11 wl_377 qX5_readHead (by decide +kernel) ⟨_, _, rfl⟩ (z_sn rfl rfl) rfl) <|
  z_ac (j := 9) rfl (z_eI (sp_if_eq dX5_readInto_14 rfl rfl)) <|
  z_ac (j := 10) rfl (z_eI (sp_aload_n (q := 0) dX5_readInto_17 rfl rfl)) <|
  z_ac (j := 11) rfl (z_eI (sp_aload_n (q := 1) dX5_readInto_18 rfl rfl)) <|
  z_ac (j := 12) rfl (z_eI (sp_getf (C := RX7) (T := TX7) (Nf := 6) dX5_readInto_19 rfl inX7 (by decide) wf_188 rfl)) <|
  z_ac (j := 13) rfl (z_cV dX5_readInto_22 wl_410 qX5_readRows (by decide +kernel) ⟨_, _, rfl⟩ (z_sn rfl rfl) rfl) <|
  z_ac (j := 14) rfl (z_eI (sp_if_eq dX5_readInto_25 rfl rfl)) <|
  z_ac (j := 15) rfl (z_eI (sp_aload_n (q := 0) dX5_readInto_28 rfl rfl)) <|
  z_ac (j := 16) rfl (z_eI (sp_aload_n (q := 1) dX5_readInto_29 rfl rfl)) <|
  z_ac (j := 17) rfl (z_cV dX5_readInto_30 wl_425 qX5_readFogs (by decide +kernel) ⟨_, _, rfl⟩ (z_sn rfl rfl) rfl) <|
  z_ac (j := 18) rfl (z_eI (sp_if_eq dX5_readInto_33 rfl rfl)) <|
  z_ac (j := 19) rfl (z_eI (sp_aload_n (q := 0) dX5_readInto_36 rfl rfl)) <|
  z_ac (j := 20) rfl (z_eI (sp_aload_n (q := 1) dX5_readInto_37 rfl rfl)) <|
  z_ac (j := 21) rfl (z_cV dX5_readInto_38 wl_430 qX5_readLights (by decide +kernel) ⟨_, _, rfl⟩ (z_sn rfl rfl) rfl) <|
  z_ac (j := 22) rfl (z_eI (sp_if_eq dX5_readInto_41 rfl rfl)) <|
  z_ac (j := 23) rfl (z_eI (sp_aload_n (q := 0) dX5_readInto_44 rfl rfl)) <|
  z_ac (j := 24) rfl (z_eI (sp_aload_n (q := 1) dX5_readInto_45 rfl rfl)) <|
  z_ac (j := 25) rfl (z_cV dX5_readInto_46 wl_454 qX5_readTravellers (by decide +kernel) ⟨_, _, rfl⟩ (z_sn rfl rfl) rfl) <|
  z_ac (j := 26) rfl (z_eI (sp_if_eq dX5_readInto_49 rfl rfl)) <|
  z_ac (j := 27) rfl (z_eI (sp_aload_n (q := 0) dX5_readInto_52 rfl rfl)) <|
  z_ac (j := 28) rfl (z_eI (sp_getf (C := RX5) (T := TX5) (Nf := 7) dX5_readInto_53 rfl inX5 (by decide) wf_251 rfl)) <|
  z_ac (j := 29) rfl (z_eI (sp_if_ne dX5_readInto_56 rfl rfl)) <|
  z_ac (j := 30) rfl (z_eI (sp_iconst dX5_readInto_59 (by decide +kernel) rfl)) <|
  z_ac (j := 31) rfl (z_eI (sp_goto dX5_readInto_60 rfl)) <|
  z_ac (j := 32) rfl (z_eI (sp_iconst dX5_readInto_63 (by decide +kernel) rfl)) <|
  z_ac (j := 33) rfl (z_eI (sp_istore_n (q := 2) dX5_readInto_64 rfl (by decide) (fun _ _ => rfl) rfl)) <|
  z_ac (j := 34) rfl (z_eI (sp_iload_n (q := 2) dX5_readInto_65 rfl rfl)) <|
  z_ac (j := 35) rfl (z_eI (sp_if_eq dX5_readInto_66 rfl rfl)) <|
  z_ac (j := 36) rfl (z_eI (sp_iconst dX5_readInto_69 (by decide +kernel) rfl)) <|
  z_ac (j := 37) rfl (z_eI (sp_goto dX5_readInto_70 rfl)) <|
  z_ac (j := 38) rfl (z_eI (sp_aload_n (q := 0) dX5_readInto_73 rfl rfl)) <|
  z_ac (j := 39) rfl (z_eI (sp_getf (C := RX5) (T := TX5) (Nf := 7) dX5_readInto_74 rfl inX5 (by decide) wf_249 rfl)) <|
  z_ac (j := 40) rfl (z_eR (sr_int dX5_readInto_77 rfl)) <| z_an
theorem dX5_readHead_0 : decode cX5_readHead 0 = .ok (.aload_n 0, 1) := by decide +kernel
theorem dX5_readHead_1 : decode cX5_readHead 1 = .ok (.ldc 67, 2) := by decide +kernel
theorem dX5_readHead_3 : decode cX5_readHead 3 = .ok (.invokevirtual 69, 3) := by decide +kernel
theorem dX5_readHead_6 : decode cX5_readHead 6 = .ok (.ifCond .eq 13, 3) := by decide +kernel
theorem dX5_readHead_9 : decode cX5_readHead 9 = .ok (.aload_n 0, 1) := by decide +kernel
theorem dX5_readHead_10 : decode cX5_readHead 10 = .ok (.iconst 2, 1) := by decide +kernel
theorem dX5_readHead_11 : decode cX5_readHead 11 = .ok (.bipush 12, 2) := by decide +kernel
theorem dX5_readHead_13 : decode cX5_readHead 13 = .ok (.invokevirtual 73, 3) := by decide +kernel
theorem dX5_readHead_16 : decode cX5_readHead 16 = .ok (.ifCond .ne 5, 3) := by decide +kernel
theorem dX5_readHead_19 : decode cX5_readHead 19 = .ok (.iconst 0, 1) := by decide +kernel
theorem dX5_readHead_20 : decode cX5_readHead 20 = .ok (.ireturn, 1) := by decide +kernel
theorem dX5_readHead_21 : decode cX5_readHead 21 = .ok (.aload_n 0, 1) := by decide +kernel
theorem dX5_readHead_22 : decode cX5_readHead 22 = .ok (.getfield 77, 3) := by decide +kernel
theorem dX5_readHead_25 : decode cX5_readHead 25 = .ok (.istore_n 2, 1) := by decide +kernel
theorem dX5_readHead_26 : decode cX5_readHead 26 = .ok (.aload_n 0, 1) := by decide +kernel
theorem dX5_readHead_27 : decode cX5_readHead 27 = .ok (.iconst 2, 1) := by decide +kernel
theorem dX5_readHead_28 : decode cX5_readHead 28 = .ok (.bipush 12, 2) := by decide +kernel
theorem dX5_readHead_30 : decode cX5_readHead 30 = .ok (.invokevirtual 73, 3) := by decide +kernel
theorem dX5_readHead_33 : decode cX5_readHead 33 = .ok (.ifCond .ne 5, 3) := by decide +kernel
theorem dX5_readHead_36 : decode cX5_readHead 36 = .ok (.iconst 0, 1) := by decide +kernel
theorem dX5_readHead_37 : decode cX5_readHead 37 = .ok (.ireturn, 1) := by decide +kernel
theorem dX5_readHead_38 : decode cX5_readHead 38 = .ok (.aload_n 1, 1) := by decide +kernel
theorem dX5_readHead_39 : decode cX5_readHead 39 = .ok (.iload_n 2, 1) := by decide +kernel
theorem dX5_readHead_40 : decode cX5_readHead 40 = .ok (.aload_n 0, 1) := by decide +kernel
theorem dX5_readHead_41 : decode cX5_readHead 41 = .ok (.getfield 77, 3) := by decide +kernel
theorem dX5_readHead_44 : decode cX5_readHead 44 = .ok (.invokevirtual 80, 3) := by decide +kernel
theorem dX5_readHead_47 : decode cX5_readHead 47 = .ok (.aload_n 0, 1) := by decide +kernel
theorem dX5_readHead_48 : decode cX5_readHead 48 = .ok (.ldc 84, 2) := by decide +kernel
theorem dX5_readHead_50 : decode cX5_readHead 50 = .ok (.invokevirtual 69, 3) := by decide +kernel
theorem dX5_readHead_53 : decode cX5_readHead 53 = .ok (.ifCond .eq 13, 3) := by decide +kernel
theorem dX5_readHead_56 : decode cX5_readHead 56 = .ok (.aload_n 0, 1) := by decide +kernel
theorem dX5_readHead_57 : decode cX5_readHead 57 = .ok (.iconst 0, 1) := by decide +kernel
theorem dX5_readHead_58 : decode cX5_readHead 58 = .ok (.bipush 20, 2) := by decide +kernel
theorem dX5_readHead_60 : decode cX5_readHead 60 = .ok (.invokevirtual 73, 3) := by decide +kernel
theorem dX5_readHead_63 : decode cX5_readHead 63 = .ok (.ifCond .ne 5, 3) := by decide +kernel
theorem dX5_readHead_66 : decode cX5_readHead 66 = .ok (.iconst 0, 1) := by decide +kernel
theorem dX5_readHead_67 : decode cX5_readHead 67 = .ok (.ireturn, 1) := by decide +kernel
theorem dX5_readHead_68 : decode cX5_readHead 68 = .ok (.aload_n 1, 1) := by decide +kernel
theorem dX5_readHead_69 : decode cX5_readHead 69 = .ok (.aload_n 0, 1) := by decide +kernel
theorem dX5_readHead_70 : decode cX5_readHead 70 = .ok (.getfield 77, 3) := by decide +kernel
theorem dX5_readHead_73 : decode cX5_readHead 73 = .ok (.putfield 86, 3) := by decide +kernel
theorem dX5_readHead_76 : decode cX5_readHead 76 = .ok (.aload_n 0, 1) := by decide +kernel
theorem dX5_readHead_77 : decode cX5_readHead 77 = .ok (.invokevirtual 89, 3) := by decide +kernel
theorem dX5_readHead_80 : decode cX5_readHead 80 = .ok (.ireturn, 1) := by decide +kernel
theorem tX5_readHead {L : Nat} {xs : Nat → Int32} {N : Nat} : z_AllE (zE L xs N 186) 0 (kX5_readHead N) :=
  z_ac (j := 1) rfl (z_eI (sp_aload_n (q := 0) dX5_readHead_0 rfl rfl)) <|
  z_ac (j := 2) rfl (z_eI (sp_ldcS (tx := "marsh") dX5_readHead_1 (by decide +kernel) rfl)) <|
  z_ac (j := 3) rfl (z_cV dX5_readHead_3 wl_382 qX5_takeWord (by decide +kernel) ⟨_, _, rfl⟩ (z_sn rfl rfl) rfl) <|
  z_ac (j := 4) rfl (z_eI (sp_if_eq dX5_readHead_6 rfl rfl)) <|
  z_ac (j := 5) rfl (z_eI (sp_aload_n (q := 0) dX5_readHead_9 rfl rfl)) <|
  z_ac (j := 6) rfl (z_eI (sp_iconst dX5_readHead_10 (by decide +kernel) rfl)) <|
  z_ac (j := 7) rfl (z_eI (sp_bipush dX5_readHead_11 (by decide +kernel) rfl)) <|
  z_ac (j := 8) rfl (z_cV dX5_readHead_13 wl_386 qX5_takeNumber (by decide +kernel) ⟨_, _, rfl⟩ (z_sn rfl rfl) rfl) <|
  z_ac (j := 9) rfl (z_eI (sp_if_ne dX5_readHead_16 rfl rfl)) <|
  z_ac (j := 10) rfl (z_eI (sp_iconst dX5_readHead_19 (by decide +kernel) rfl)) <|
  z_ac (j := 11) rfl (z_eR (sr_bool dX5_readHead_20 rfl)) <|
  z_ac (j := 12) rfl (z_eI (sp_aload_n (q := 0) dX5_readHead_21 rfl rfl)) <|
  z_ac (j := 13) rfl (z_eI (sp_getf (C := RX5) (T := TX5) (Nf := 7) dX5_readHead_22 rfl inX5 (by decide) wf_253 rfl)) <|
  z_ac (j := 14) rfl (z_eI (sp_istore_n (q := 2) dX5_readHead_25 rfl (by decide) (fun _ _ => rfl) rfl)) <|
  z_ac (j := 15) rfl (z_eI (sp_aload_n (q := 0) dX5_readHead_26 rfl rfl)) <|
  z_ac (j := 16) rfl (z_eI (sp_iconst dX5_readHead_27 (by decide +kernel) rfl)) <|
  z_ac (j := 17) rfl (z_eI (sp_bipush dX5_readHead_28 (by decide +kernel) rfl)) <|
  z_ac (j := 18) rfl (z_cV dX5_readHead_30 wl_386 qX5_takeNumber (by decide +kernel) ⟨_, _, rfl⟩ (z_sn rfl rfl) rfl) <|
  z_ac (j := 19) rfl (z_eI (sp_if_ne dX5_readHead_33 rfl rfl)) <|
  z_ac (j := 20) rfl (z_eI (sp_iconst dX5_readHead_36 (by decide +kernel) rfl)) <|
  z_ac (j := 21) rfl (z_eR (sr_bool dX5_readHead_37 rfl)) <|
  z_ac (j := 22) rfl (z_eI (sp_aload_n (q := 1) dX5_readHead_38 rfl rfl)) <|
  z_ac (j := 23) rfl (z_eI (sp_iload_n (q := 2) dX5_readHead_39 rfl rfl)) <|
  z_ac (j := 24) rfl (z_eI (sp_aload_n (q := 0) dX5_readHead_40 rfl rfl)) <|
  z_ac (j := 25) rfl (z_eI (sp_getf (C := RX5) (T := TX5) (Nf := 7) dX5_readHead_41 rfl inX5 (by decide) wf_253 rfl)) <|
  z_ac (j := 26) rfl (z_cV dX5_readHead_44 wl_394 qX7_startAnew (by decide +kernel) ⟨_, _, rfl⟩ (z_sn rfl rfl) rfl) <|
  z_ac (j := 27) rfl (z_eI (sp_aload_n (q := 0) dX5_readHead_47 rfl rfl)) <|
  z_ac (j := 28) rfl (z_eI (sp_ldcS (tx := "clear") dX5_readHead_48 (by decide +kernel) rfl)) <|
  z_ac (j := 29) rfl (z_cV dX5_readHead_50 wl_382 qX5_takeWord (by decide +kernel) ⟨_, _, rfl⟩ (z_sn rfl rfl) rfl) <|
  z_ac (j := 30) rfl (z_eI (sp_if_eq dX5_readHead_53 rfl rfl)) <|
  z_ac (j := 31) rfl (z_eI (sp_aload_n (q := 0) dX5_readHead_56 rfl rfl)) <|
  z_ac (j := 32) rfl (z_eI (sp_iconst dX5_readHead_57 (by decide +kernel) rfl)) <|
  z_ac (j := 33) rfl (z_eI (sp_bipush dX5_readHead_58 (by decide +kernel) rfl)) <|
  z_ac (j := 34) rfl (z_cV dX5_readHead_60 wl_386 qX5_takeNumber (by decide +kernel) ⟨_, _, rfl⟩ (z_sn rfl rfl) rfl) <|
  z_ac (j := 35) rfl (z_eI (sp_if_ne dX5_readHead_63 rfl rfl)) <|
  z_ac (j := 36) rfl (z_eI (sp_iconst dX5_readHead_66 (by decide +kernel) rfl)) <|
  z_ac (j := 37) rfl (z_eR (sr_bool dX5_readHead_67 rfl)) <|
  z_ac (j := 38) rfl (z_eI (sp_aload_n (q := 1) dX5_readHead_68 rfl rfl)) <|
  z_ac (j := 39) rfl (z_eI (sp_aload_n (q := 0) dX5_readHead_69 rfl rfl)) <|
  z_ac (j := 40) rfl (z_eI (sp_getf (C := RX5) (T := TX5) (Nf := 7) dX5_readHead_70 rfl inX5 (by decide) wf_253 rfl)) <|
  z_ac (j := 41) rfl (z_eI (sp_putI (C := RX7) (T := TX7) (Nf := 6) dX5_readHead_73 rfl inX7 tyX7_ok nmX7 (by decide) wf_202 rfl (by decide +kernel) rfl)) <|
  z_ac (j := 42) rfl (z_eI (sp_aload_n (q := 0) dX5_readHead_76 rfl rfl)) <|
  z_ac (j := 43) rfl (z_cV dX5_readHead_77 wl_406 qX5_takeSemicolon (by decide +kernel) ⟨_, _, rfl⟩ (z_sn rfl rfl) rfl) <|
  z_ac (j := 44) rfl (z_eR (sr_bool dX5_readHead_80 rfl)) <| z_an
theorem dX5_readRows_0 : decode cX5_readRows 0 = .ok (.iconst 0, 1) := by decide +kernel
theorem dX5_readRows_1 : decode cX5_readRows 1 = .ok (.istore_n 2, 1) := by decide +kernel
theorem dX5_readRows_2 : decode cX5_readRows 2 = .ok (.iload_n 2, 1) := by decide +kernel
theorem dX5_readRows_3 : decode cX5_readRows 3 = .ok (.aload_n 1, 1) := by decide +kernel
theorem dX5_readRows_4 : decode cX5_readRows 4 = .ok (.getfield 93, 3) := by decide +kernel
theorem dX5_readRows_7 : decode cX5_readRows 7 = .ok (.if_icmp .ge 36, 3) := by decide +kernel
theorem dX5_readRows_10 : decode cX5_readRows 10 = .ok (.aload_n 0, 1) := by decide +kernel
theorem dX5_readRows_11 : decode cX5_readRows 11 = .ok (.ldc 98, 2) := by decide +kernel
theorem dX5_readRows_13 : decode cX5_readRows 13 = .ok (.invokevirtual 69, 3) := by decide +kernel
theorem dX5_readRows_16 : decode cX5_readRows 16 = .ok (.ifCond .eq 19, 3) := by decide +kernel
theorem dX5_readRows_19 : decode cX5_readRows 19 = .ok (.aload_n 0, 1) := by decide +kernel
theorem dX5_readRows_20 : decode cX5_readRows 20 = .ok (.aload_n 1, 1) := by decide +kernel
theorem dX5_readRows_21 : decode cX5_readRows 21 = .ok (.iload_n 2, 1) := by decide +kernel
theorem dX5_readRows_22 : decode cX5_readRows 22 = .ok (.invokevirtual 100, 3) := by decide +kernel
theorem dX5_readRows_25 : decode cX5_readRows 25 = .ok (.ifCond .eq 10, 3) := by decide +kernel
theorem dX5_readRows_28 : decode cX5_readRows 28 = .ok (.aload_n 0, 1) := by decide +kernel
theorem dX5_readRows_29 : decode cX5_readRows 29 = .ok (.invokevirtual 89, 3) := by decide +kernel
theorem dX5_readRows_32 : decode cX5_readRows 32 = .ok (.ifCond .ne 5, 3) := by decide +kernel
theorem dX5_readRows_35 : decode cX5_readRows 35 = .ok (.iconst 0, 1) := by decide +kernel
theorem dX5_readRows_36 : decode cX5_readRows 36 = .ok (.ireturn, 1) := by decide +kernel
theorem dX5_readRows_37 : decode cX5_readRows 37 = .ok (.iinc 2 1, 3) := by decide +kernel
theorem dX5_readRows_40 : decode cX5_readRows 40 = .ok (.goto (-38), 3) := by decide +kernel
theorem dX5_readRows_43 : decode cX5_readRows 43 = .ok (.iconst 1, 1) := by decide +kernel
theorem dX5_readRows_44 : decode cX5_readRows 44 = .ok (.ireturn, 1) := by decide +kernel
theorem tX5_readRows {L : Nat} {xs : Nat → Int32} {N : Nat} : z_AllE (zE L xs N 187) 0 (kX5_readRows N) :=
  z_ac (j := 1) rfl (z_eI (sp_iconst dX5_readRows_0 (by decide +kernel) rfl)) <|
  z_ac (j := 2) rfl (z_eI (sp_istore_n (q := 2) dX5_readRows_1 rfl (by decide) (fun _ _ => rfl) rfl)) <|
  z_ac (j := 3) rfl (z_eI (sp_iload_n (q := 2) dX5_readRows_2 rfl rfl)) <|
  z_ac (j := 4) rfl (z_eI (sp_aload_n (q := 1) dX5_readRows_3 rfl rfl)) <|
  z_ac (j := 5) rfl (z_eI (sp_getf (C := RX1) (T := TX1) (Nf := 3) dX5_readRows_4 rfl inX1 (by decide) wf_88 rfl)) <|
  z_ac (j := 6) rfl (z_eI (sp_icmp_ge dX5_readRows_7 rfl rfl)) <|
  z_ac (j := 7) rfl (z_eI (sp_aload_n (q := 0) dX5_readRows_10 rfl rfl)) <|
  z_ac (j := 8) rfl (z_eI (sp_ldcS (tx := "row") dX5_readRows_11 (by decide +kernel) rfl)) <|
  z_ac (j := 9) rfl (z_cV dX5_readRows_13 wl_382 qX5_takeWord (by decide +kernel) ⟨_, _, rfl⟩ (z_sn rfl rfl) rfl) <|
  z_ac (j := 10) rfl (z_eI (sp_if_eq dX5_readRows_16 rfl rfl)) <|
  z_ac (j := 11) rfl (z_eI (sp_aload_n (q := 0) dX5_readRows_19 rfl rfl)) <|
  z_ac (j := 12) rfl (z_eI (sp_aload_n (q := 1) dX5_readRows_20 rfl rfl)) <|
  z_ac (j := 13) rfl (z_eI (sp_iload_n (q := 2) dX5_readRows_21 rfl rfl)) <|
  z_ac (j := 14) rfl (z_cV dX5_readRows_22 wl_415 qX5_takeCells (by decide +kernel) ⟨_, _, rfl⟩ (z_sn rfl rfl) rfl) <|
  z_ac (j := 15) rfl (z_eI (sp_if_eq dX5_readRows_25 rfl rfl)) <|
  z_ac (j := 16) rfl (z_eI (sp_aload_n (q := 0) dX5_readRows_28 rfl rfl)) <|
  z_ac (j := 17) rfl (z_cV dX5_readRows_29 wl_406 qX5_takeSemicolon (by decide +kernel) ⟨_, _, rfl⟩ (z_sn rfl rfl) rfl) <|
  z_ac (j := 18) rfl (z_eI (sp_if_ne dX5_readRows_32 rfl rfl)) <|
  z_ac (j := 19) rfl (z_eI (sp_iconst dX5_readRows_35 (by decide +kernel) rfl)) <|
  z_ac (j := 20) rfl (z_eR (sr_bool dX5_readRows_36 rfl)) <|
  z_ac (j := 21) rfl (z_eI (sp_iinc dX5_readRows_37 (by decide +kernel) (by decide) (fun _ _ => rfl) rfl)) <|
  z_ac (j := 22) rfl (z_eI (sp_goto dX5_readRows_40 rfl)) <|
  z_ac (j := 23) rfl (z_eI (sp_iconst dX5_readRows_43 (by decide +kernel) rfl)) <|
  z_ac (j := 24) rfl (z_eR (sr_bool dX5_readRows_44 rfl)) <| z_an
theorem dX5_readFogs_0 : decode cX5_readFogs 0 = .ok (.iconst 0, 1) := by decide +kernel
theorem dX5_readFogs_1 : decode cX5_readFogs 1 = .ok (.istore_n 2, 1) := by decide +kernel
theorem dX5_readFogs_2 : decode cX5_readFogs 2 = .ok (.iload_n 2, 1) := by decide +kernel
theorem dX5_readFogs_3 : decode cX5_readFogs 3 = .ok (.sipush 800, 3) := by decide +kernel
theorem dX5_readFogs_6 : decode cX5_readFogs 6 = .ok (.if_icmp .ge 66, 3) := by decide +kernel
theorem dX5_readFogs_9 : decode cX5_readFogs 9 = .ok (.aload_n 0, 1) := by decide +kernel
theorem dX5_readFogs_10 : decode cX5_readFogs 10 = .ok (.ldc 104, 2) := by decide +kernel
theorem dX5_readFogs_12 : decode cX5_readFogs 12 = .ok (.invokevirtual 69, 3) := by decide +kernel
theorem dX5_readFogs_15 : decode cX5_readFogs 15 = .ok (.ifCond .eq 57, 3) := by decide +kernel
theorem dX5_readFogs_18 : decode cX5_readFogs 18 = .ok (.aload_n 0, 1) := by decide +kernel
theorem dX5_readFogs_19 : decode cX5_readFogs 19 = .ok (.iconst 0, 1) := by decide +kernel
theorem dX5_readFogs_20 : decode cX5_readFogs 20 = .ok (.bipush 23, 2) := by decide +kernel
theorem dX5_readFogs_22 : decode cX5_readFogs 22 = .ok (.invokevirtual 73, 3) := by decide +kernel
theorem dX5_readFogs_25 : decode cX5_readFogs 25 = .ok (.ifCond .ne 5, 3) := by decide +kernel
theorem dX5_readFogs_28 : decode cX5_readFogs 28 = .ok (.iconst 0, 1) := by decide +kernel
theorem dX5_readFogs_29 : decode cX5_readFogs 29 = .ok (.ireturn, 1) := by decide +kernel
theorem dX5_readFogs_30 : decode cX5_readFogs 30 = .ok (.aload_n 0, 1) := by decide +kernel
theorem dX5_readFogs_31 : decode cX5_readFogs 31 = .ok (.getfield 77, 3) := by decide +kernel
theorem dX5_readFogs_34 : decode cX5_readFogs 34 = .ok (.istore_n 3, 1) := by decide +kernel
theorem dX5_readFogs_35 : decode cX5_readFogs 35 = .ok (.aload_n 0, 1) := by decide +kernel
theorem dX5_readFogs_36 : decode cX5_readFogs 36 = .ok (.iconst 0, 1) := by decide +kernel
theorem dX5_readFogs_37 : decode cX5_readFogs 37 = .ok (.bipush 9, 2) := by decide +kernel
theorem dX5_readFogs_39 : decode cX5_readFogs 39 = .ok (.invokevirtual 73, 3) := by decide +kernel
theorem dX5_readFogs_42 : decode cX5_readFogs 42 = .ok (.ifCond .ne 5, 3) := by decide +kernel
theorem dX5_readFogs_45 : decode cX5_readFogs 45 = .ok (.iconst 0, 1) := by decide +kernel
theorem dX5_readFogs_46 : decode cX5_readFogs 46 = .ok (.ireturn, 1) := by decide +kernel
theorem dX5_readFogs_47 : decode cX5_readFogs 47 = .ok (.aload_n 1, 1) := by decide +kernel
theorem dX5_readFogs_48 : decode cX5_readFogs 48 = .ok (.getfield 106, 3) := by decide +kernel
theorem dX5_readFogs_51 : decode cX5_readFogs 51 = .ok (.iload_n 3, 1) := by decide +kernel
theorem dX5_readFogs_52 : decode cX5_readFogs 52 = .ok (.aload_n 0, 1) := by decide +kernel
theorem dX5_readFogs_53 : decode cX5_readFogs 53 = .ok (.getfield 77, 3) := by decide +kernel
theorem dX5_readFogs_56 : decode cX5_readFogs 56 = .ok (.iastore, 1) := by decide +kernel
theorem dX5_readFogs_57 : decode cX5_readFogs 57 = .ok (.aload_n 0, 1) := by decide +kernel
theorem dX5_readFogs_58 : decode cX5_readFogs 58 = .ok (.invokevirtual 89, 3) := by decide +kernel
theorem dX5_readFogs_61 : decode cX5_readFogs 61 = .ok (.ifCond .ne 5, 3) := by decide +kernel
theorem dX5_readFogs_64 : decode cX5_readFogs 64 = .ok (.iconst 0, 1) := by decide +kernel
theorem dX5_readFogs_65 : decode cX5_readFogs 65 = .ok (.ireturn, 1) := by decide +kernel
theorem dX5_readFogs_66 : decode cX5_readFogs 66 = .ok (.iinc 2 1, 3) := by decide +kernel
theorem dX5_readFogs_69 : decode cX5_readFogs 69 = .ok (.goto (-67), 3) := by decide +kernel
theorem dX5_readFogs_72 : decode cX5_readFogs 72 = .ok (.iconst 1, 1) := by decide +kernel
theorem dX5_readFogs_73 : decode cX5_readFogs 73 = .ok (.ireturn, 1) := by decide +kernel
theorem tX5_readFogs {L : Nat} {xs : Nat → Int32} {N : Nat} : z_AllE (zE L xs N 188) 0 (kX5_readFogs N) :=
  z_ac (j := 1) rfl (z_eI (sp_iconst dX5_readFogs_0 (by decide +kernel) rfl)) <|
  z_ac (j := 2) rfl (z_eI (sp_istore_n (q := 2) dX5_readFogs_1 rfl (by decide) (fun _ _ => rfl) rfl)) <|
  z_ac (j := 3) rfl (z_eI (sp_iload_n (q := 2) dX5_readFogs_2 rfl rfl)) <|
  z_ac (j := 4) rfl (z_eI (sp_sipush dX5_readFogs_3 (by decide +kernel) rfl)) <|
  z_ac (j := 5) rfl (z_eI (sp_icmp_ge dX5_readFogs_6 rfl rfl)) <|
  z_ac (j := 6) rfl (z_eI (sp_aload_n (q := 0) dX5_readFogs_9 rfl rfl)) <|
  z_ac (j := 7) rfl (z_eI (sp_ldcS (tx := "fog") dX5_readFogs_10 (by decide +kernel) rfl)) <|
  z_ac (j := 8) rfl (z_cV dX5_readFogs_12 wl_382 qX5_takeWord (by decide +kernel) ⟨_, _, rfl⟩ (z_sn rfl rfl) rfl) <|
  z_ac (j := 9) rfl (z_eI (sp_if_eq dX5_readFogs_15 rfl rfl)) <|
  z_ac (j := 10) rfl (z_eI (sp_aload_n (q := 0) dX5_readFogs_18 rfl rfl)) <|
  z_ac (j := 11) rfl (z_eI (sp_iconst dX5_readFogs_19 (by decide +kernel) rfl)) <|
  z_ac (j := 12) rfl (z_eI (sp_bipush dX5_readFogs_20 (by decide +kernel) rfl)) <|
  z_ac (j := 13) rfl (z_cV dX5_readFogs_22 wl_386 qX5_takeNumber (by decide +kernel) ⟨_, _, rfl⟩ (z_sn rfl rfl) rfl) <|
  z_ac (j := 14) rfl (z_eI (sp_if_ne dX5_readFogs_25 rfl rfl)) <|
  z_ac (j := 15) rfl (z_eI (sp_iconst dX5_readFogs_28 (by decide +kernel) rfl)) <|
  z_ac (j := 16) rfl (z_eR (sr_bool dX5_readFogs_29 rfl)) <|
  z_ac (j := 17) rfl (z_eI (sp_aload_n (q := 0) dX5_readFogs_30 rfl rfl)) <|
  z_ac (j := 18) rfl (z_eI (sp_getf (C := RX5) (T := TX5) (Nf := 7) dX5_readFogs_31 rfl inX5 (by decide) wf_253 rfl)) <|
  z_ac (j := 19) rfl (z_eI (sp_istore_n (q := 3) dX5_readFogs_34 rfl (by decide) (fun _ _ => rfl) rfl)) <|
  z_ac (j := 20) rfl (z_eI (sp_aload_n (q := 0) dX5_readFogs_35 rfl rfl)) <|
  z_ac (j := 21) rfl (z_eI (sp_iconst dX5_readFogs_36 (by decide +kernel) rfl)) <|
  z_ac (j := 22) rfl (z_eI (sp_bipush dX5_readFogs_37 (by decide +kernel) rfl)) <|
  z_ac (j := 23) rfl (z_cV dX5_readFogs_39 wl_386 qX5_takeNumber (by decide +kernel) ⟨_, _, rfl⟩ (z_sn rfl rfl) rfl) <|
  z_ac (j := 24) rfl (z_eI (sp_if_ne dX5_readFogs_42 rfl rfl)) <|
  z_ac (j := 25) rfl (z_eI (sp_iconst dX5_readFogs_45 (by decide +kernel) rfl)) <|
  z_ac (j := 26) rfl (z_eR (sr_bool dX5_readFogs_46 rfl)) <|
  z_ac (j := 27) rfl (z_eI (sp_aload_n (q := 1) dX5_readFogs_47 rfl rfl)) <|
  z_ac (j := 28) rfl (z_eI (sp_getf (C := RX7) (T := TX7) (Nf := 6) dX5_readFogs_48 rfl inX7 (by decide) wf_199 rfl)) <|
  z_ac (j := 29) rfl (z_eI (sp_iload_n (q := 3) dX5_readFogs_51 rfl rfl)) <|
  z_ac (j := 30) rfl (z_eI (sp_aload_n (q := 0) dX5_readFogs_52 rfl rfl)) <|
  z_ac (j := 31) rfl (z_eI (sp_getf (C := RX5) (T := TX5) (Nf := 7) dX5_readFogs_53 rfl inX5 (by decide) wf_253 rfl)) <|
  z_ac (j := 32) rfl (z_eI (sp_iast dX5_readFogs_56 rfl)) <|
  z_ac (j := 33) rfl (z_eI (sp_aload_n (q := 0) dX5_readFogs_57 rfl rfl)) <|
  z_ac (j := 34) rfl (z_cV dX5_readFogs_58 wl_406 qX5_takeSemicolon (by decide +kernel) ⟨_, _, rfl⟩ (z_sn rfl rfl) rfl) <|
  z_ac (j := 35) rfl (z_eI (sp_if_ne dX5_readFogs_61 rfl rfl)) <|
  z_ac (j := 36) rfl (z_eI (sp_iconst dX5_readFogs_64 (by decide +kernel) rfl)) <|
  z_ac (j := 37) rfl (z_eR (sr_bool dX5_readFogs_65 rfl)) <|
  z_ac (j := 38) rfl (z_eI (sp_iinc dX5_readFogs_66 (by decide +kernel) (by decide) (fun _ _ => rfl) rfl)) <|
  z_ac (j := 39) rfl (z_eI (sp_goto dX5_readFogs_69 rfl)) <|
  z_ac (j := 40) rfl (z_eI (sp_iconst dX5_readFogs_72 (by decide +kernel) rfl)) <|
  z_ac (j := 41) rfl (z_eR (sr_bool dX5_readFogs_73 rfl)) <| z_an
theorem dX5_readLights_0 : decode cX5_readLights 0 = .ok (.iconst 0, 1) := by decide +kernel
theorem dX5_readLights_1 : decode cX5_readLights 1 = .ok (.istore_n 2, 1) := by decide +kernel
theorem dX5_readLights_2 : decode cX5_readLights 2 = .ok (.iload_n 2, 1) := by decide +kernel
theorem dX5_readLights_3 : decode cX5_readLights 3 = .ok (.bipush 8, 2) := by decide +kernel
theorem dX5_readLights_5 : decode cX5_readLights 5 = .ok (.if_icmp .ge 28, 3) := by decide +kernel
theorem dX5_readLights_8 : decode cX5_readLights 8 = .ok (.aload_n 0, 1) := by decide +kernel
theorem dX5_readLights_9 : decode cX5_readLights 9 = .ok (.ldc 109, 2) := by decide +kernel
theorem dX5_readLights_11 : decode cX5_readLights 11 = .ok (.invokevirtual 69, 3) := by decide +kernel
theorem dX5_readLights_14 : decode cX5_readLights 14 = .ok (.ifCond .eq 19, 3) := by decide +kernel
theorem dX5_readLights_17 : decode cX5_readLights 17 = .ok (.aload_n 0, 1) := by decide +kernel
theorem dX5_readLights_18 : decode cX5_readLights 18 = .ok (.aload_n 1, 1) := by decide +kernel
theorem dX5_readLights_19 : decode cX5_readLights 19 = .ok (.invokevirtual 111, 3) := by decide +kernel
theorem dX5_readLights_22 : decode cX5_readLights 22 = .ok (.ifCond .ne 5, 3) := by decide +kernel
theorem dX5_readLights_25 : decode cX5_readLights 25 = .ok (.iconst 0, 1) := by decide +kernel
theorem dX5_readLights_26 : decode cX5_readLights 26 = .ok (.ireturn, 1) := by decide +kernel
theorem dX5_readLights_27 : decode cX5_readLights 27 = .ok (.iinc 2 1, 3) := by decide +kernel
theorem dX5_readLights_30 : decode cX5_readLights 30 = .ok (.goto (-28), 3) := by decide +kernel
theorem dX5_readLights_33 : decode cX5_readLights 33 = .ok (.iconst 1, 1) := by decide +kernel
theorem dX5_readLights_34 : decode cX5_readLights 34 = .ok (.ireturn, 1) := by decide +kernel
theorem tX5_readLights {L : Nat} {xs : Nat → Int32} {N : Nat} : z_AllE (zE L xs N 189) 0 (kX5_readLights N) :=
  z_ac (j := 1) rfl (z_eI (sp_iconst dX5_readLights_0 (by decide +kernel) rfl)) <|
  z_ac (j := 2) rfl (z_eI (sp_istore_n (q := 2) dX5_readLights_1 rfl (by decide) (fun _ _ => rfl) rfl)) <|
  z_ac (j := 3) rfl (z_eI (sp_iload_n (q := 2) dX5_readLights_2 rfl rfl)) <|
  z_ac (j := 4) rfl (z_eI (sp_bipush dX5_readLights_3 (by decide +kernel) rfl)) <|
  z_ac (j := 5) rfl (z_eI (sp_icmp_ge dX5_readLights_5 rfl rfl)) <|
  z_ac (j := 6) rfl (z_eI (sp_aload_n (q := 0) dX5_readLights_8 rfl rfl)) <|
  z_ac (j := 7) rfl (z_eI (sp_ldcS (tx := "light") dX5_readLights_9 (by decide +kernel) rfl)) <|
  z_ac (j := 8) rfl (z_cV dX5_readLights_11 wl_382 qX5_takeWord (by decide +kernel) ⟨_, _, rfl⟩ (z_sn rfl rfl) rfl) <|
  z_ac (j := 9) rfl (z_eI (sp_if_eq dX5_readLights_14 rfl rfl)) <|
  z_ac (j := 10) rfl (z_eI (sp_aload_n (q := 0) dX5_readLights_17 rfl rfl)) <|
  z_ac (j := 11) rfl (z_eI (sp_aload_n (q := 1) dX5_readLights_18 rfl rfl)) <|
  z_ac (j := 12) rfl (z_cV dX5_readLights_19 wl_435 qX5_readLight (by decide +kernel) ⟨_, _, rfl⟩ (z_sn rfl rfl) rfl) <|
  z_ac (j := 13) rfl (z_eI (sp_if_ne dX5_readLights_22 rfl rfl)) <|
  z_ac (j := 14) rfl (z_eI (sp_iconst dX5_readLights_25 (by decide +kernel) rfl)) <|
  z_ac (j := 15) rfl (z_eR (sr_bool dX5_readLights_26 rfl)) <|
  z_ac (j := 16) rfl (z_eI (sp_iinc dX5_readLights_27 (by decide +kernel) (by decide) (fun _ _ => rfl) rfl)) <|
  z_ac (j := 17) rfl (z_eI (sp_goto dX5_readLights_30 rfl)) <|
  z_ac (j := 18) rfl (z_eI (sp_iconst dX5_readLights_33 (by decide +kernel) rfl)) <|
  z_ac (j := 19) rfl (z_eR (sr_bool dX5_readLights_34 rfl)) <| z_an
theorem dX5_readLight_0 : decode cX5_readLight 0 = .ok (.aload_n 0, 1) := by decide +kernel
theorem dX5_readLight_1 : decode cX5_readLight 1 = .ok (.iconst 0, 1) := by decide +kernel
theorem dX5_readLight_2 : decode cX5_readLight 2 = .ok (.aload_n 1, 1) := by decide +kernel
theorem dX5_readLight_3 : decode cX5_readLight 3 = .ok (.getfield 42, 3) := by decide +kernel
theorem dX5_readLight_6 : decode cX5_readLight 6 = .ok (.getfield 114, 3) := by decide +kernel
theorem dX5_readLight_9 : decode cX5_readLight 9 = .ok (.iconst 1, 1) := by decide +kernel
theorem dX5_readLight_10 : decode cX5_readLight 10 = .ok (.isub, 1) := by decide +kernel
theorem dX5_readLight_11 : decode cX5_readLight 11 = .ok (.invokevirtual 73, 3) := by decide +kernel
theorem dX5_readLight_14 : decode cX5_readLight 14 = .ok (.ifCond .ne 5, 3) := by decide +kernel
theorem dX5_readLight_17 : decode cX5_readLight 17 = .ok (.iconst 0, 1) := by decide +kernel
theorem dX5_readLight_18 : decode cX5_readLight 18 = .ok (.ireturn, 1) := by decide +kernel
theorem dX5_readLight_19 : decode cX5_readLight 19 = .ok (.aload_n 0, 1) := by decide +kernel
theorem dX5_readLight_20 : decode cX5_readLight 20 = .ok (.getfield 77, 3) := by decide +kernel
theorem dX5_readLight_23 : decode cX5_readLight 23 = .ok (.istore_n 2, 1) := by decide +kernel
theorem dX5_readLight_24 : decode cX5_readLight 24 = .ok (.aload_n 0, 1) := by decide +kernel
theorem dX5_readLight_25 : decode cX5_readLight 25 = .ok (.iconst 0, 1) := by decide +kernel
theorem dX5_readLight_26 : decode cX5_readLight 26 = .ok (.aload_n 1, 1) := by decide +kernel
theorem dX5_readLight_27 : decode cX5_readLight 27 = .ok (.getfield 42, 3) := by decide +kernel
theorem dX5_readLight_30 : decode cX5_readLight 30 = .ok (.getfield 93, 3) := by decide +kernel
theorem dX5_readLight_33 : decode cX5_readLight 33 = .ok (.iconst 1, 1) := by decide +kernel
theorem dX5_readLight_34 : decode cX5_readLight 34 = .ok (.isub, 1) := by decide +kernel
theorem dX5_readLight_35 : decode cX5_readLight 35 = .ok (.invokevirtual 117, 3) := by decide +kernel
theorem dX5_readLight_38 : decode cX5_readLight 38 = .ok (.ifCond .eq 18, 3) := by decide +kernel
theorem dX5_readLight_41 : decode cX5_readLight 41 = .ok (.aload_n 1, 1) := by decide +kernel
theorem dX5_readLight_42 : decode cX5_readLight 42 = .ok (.iload_n 2, 1) := by decide +kernel
theorem dX5_readLight_43 : decode cX5_readLight 43 = .ok (.aload_n 0, 1) := by decide +kernel
theorem dX5_readLight_44 : decode cX5_readLight 44 = .ok (.getfield 120, 3) := by decide +kernel
theorem dX5_readLight_47 : decode cX5_readLight 47 = .ok (.invokestatic 123, 3) := by decide +kernel
theorem dX5_readLight_50 : decode cX5_readLight 50 = .ok (.invokevirtual 127, 3) := by decide +kernel
theorem dX5_readLight_53 : decode cX5_readLight 53 = .ok (.ifCond .ne 5, 3) := by decide +kernel
theorem dX5_readLight_56 : decode cX5_readLight 56 = .ok (.iconst 0, 1) := by decide +kernel
theorem dX5_readLight_57 : decode cX5_readLight 57 = .ok (.ireturn, 1) := by decide +kernel
theorem dX5_readLight_58 : decode cX5_readLight 58 = .ok (.iload_n 2, 1) := by decide +kernel
theorem dX5_readLight_59 : decode cX5_readLight 59 = .ok (.aload_n 0, 1) := by decide +kernel
theorem dX5_readLight_60 : decode cX5_readLight 60 = .ok (.getfield 120, 3) := by decide +kernel
theorem dX5_readLight_63 : decode cX5_readLight 63 = .ok (.invokestatic 123, 3) := by decide +kernel
theorem dX5_readLight_66 : decode cX5_readLight 66 = .ok (.istore_n 3, 1) := by decide +kernel
theorem dX5_readLight_67 : decode cX5_readLight 67 = .ok (.aload_n 0, 1) := by decide +kernel
theorem dX5_readLight_68 : decode cX5_readLight 68 = .ok (.invokevirtual 35, 3) := by decide +kernel
theorem dX5_readLight_71 : decode cX5_readLight 71 = .ok (.aload_n 0, 1) := by decide +kernel
theorem dX5_readLight_72 : decode cX5_readLight 72 = .ok (.iconst 0, 1) := by decide +kernel
theorem dX5_readLight_73 : decode cX5_readLight 73 = .ok (.bipush 9, 2) := by decide +kernel
theorem dX5_readLight_75 : decode cX5_readLight 75 = .ok (.invokevirtual 73, 3) := by decide +kernel
theorem dX5_readLight_78 : decode cX5_readLight 78 = .ok (.ifCond .ne 5, 3) := by decide +kernel
theorem dX5_readLight_81 : decode cX5_readLight 81 = .ok (.iconst 0, 1) := by decide +kernel
theorem dX5_readLight_82 : decode cX5_readLight 82 = .ok (.ireturn, 1) := by decide +kernel
theorem dX5_readLight_83 : decode cX5_readLight 83 = .ok (.aload_n 0, 1) := by decide +kernel
theorem dX5_readLight_84 : decode cX5_readLight 84 = .ok (.getfield 77, 3) := by decide +kernel
theorem dX5_readLight_87 : decode cX5_readLight 87 = .ok (.istore 4, 2) := by decide +kernel
theorem dX5_readLight_89 : decode cX5_readLight 89 = .ok (.aload_n 0, 1) := by decide +kernel
theorem dX5_readLight_90 : decode cX5_readLight 90 = .ok (.ldc 131, 2) := by decide +kernel
theorem dX5_readLight_92 : decode cX5_readLight 92 = .ok (.invokevirtual 69, 3) := by decide +kernel
theorem dX5_readLight_95 : decode cX5_readLight 95 = .ok (.istore 5, 2) := by decide +kernel
theorem dX5_readLight_97 : decode cX5_readLight 97 = .ok (.iload 5, 2) := by decide +kernel
theorem dX5_readLight_99 : decode cX5_readLight 99 = .ok (.ifCond .ne 14, 3) := by decide +kernel
theorem dX5_readLight_102 : decode cX5_readLight 102 = .ok (.aload_n 0, 1) := by decide +kernel
theorem dX5_readLight_103 : decode cX5_readLight 103 = .ok (.ldc 133, 2) := by decide +kernel
theorem dX5_readLight_105 : decode cX5_readLight 105 = .ok (.invokevirtual 69, 3) := by decide +kernel
theorem dX5_readLight_108 : decode cX5_readLight 108 = .ok (.ifCond .ne 5, 3) := by decide +kernel
theorem dX5_readLight_111 : decode cX5_readLight 111 = .ok (.iconst 0, 1) := by decide +kernel
theorem dX5_readLight_112 : decode cX5_readLight 112 = .ok (.ireturn, 1) := by decide +kernel
theorem dX5_readLight_113 : decode cX5_readLight 113 = .ok (.aload_n 1, 1) := by decide +kernel
theorem dX5_readLight_114 : decode cX5_readLight 114 = .ok (.getfield 135, 3) := by decide +kernel
theorem dX5_readLight_117 : decode cX5_readLight 117 = .ok (.iload_n 3, 1) := by decide +kernel
theorem dX5_readLight_118 : decode cX5_readLight 118 = .ok (.iload 4, 2) := by decide +kernel
theorem dX5_readLight_120 : decode cX5_readLight 120 = .ok (.iload 5, 2) := by decide +kernel
theorem dX5_readLight_122 : decode cX5_readLight 122 = .ok (.invokevirtual 139, 3) := by decide +kernel
theorem dX5_readLight_125 : decode cX5_readLight 125 = .ok (.istore 6, 2) := by decide +kernel
theorem dX5_readLight_127 : decode cX5_readLight 127 = .ok (.iload 6, 2) := by decide +kernel
theorem dX5_readLight_129 : decode cX5_readLight 129 = .ok (.iconst (-1), 1) := by decide +kernel
theorem dX5_readLight_130 : decode cX5_readLight 130 = .ok (.if_icmp .eq 40, 3) := by decide +kernel
theorem dX5_readLight_133 : decode cX5_readLight 133 = .ok (.aload_n 0, 1) := by decide +kernel
theorem dX5_readLight_134 : decode cX5_readLight 134 = .ok (.ldc 145, 2) := by decide +kernel
theorem dX5_readLight_136 : decode cX5_readLight 136 = .ok (.invokevirtual 69, 3) := by decide +kernel
theorem dX5_readLight_139 : decode cX5_readLight 139 = .ok (.ifCond .eq 31, 3) := by decide +kernel
theorem dX5_readLight_142 : decode cX5_readLight 142 = .ok (.aload_n 0, 1) := by decide +kernel
theorem dX5_readLight_143 : decode cX5_readLight 143 = .ok (.iconst 0, 1) := by decide +kernel
theorem dX5_readLight_144 : decode cX5_readLight 144 = .ok (.iload 6, 2) := by decide +kernel
theorem dX5_readLight_146 : decode cX5_readLight 146 = .ok (.iconst 1, 1) := by decide +kernel
theorem dX5_readLight_147 : decode cX5_readLight 147 = .ok (.isub, 1) := by decide +kernel
theorem dX5_readLight_148 : decode cX5_readLight 148 = .ok (.invokevirtual 73, 3) := by decide +kernel
theorem dX5_readLight_151 : decode cX5_readLight 151 = .ok (.ifCond .ne 5, 3) := by decide +kernel
theorem dX5_readLight_154 : decode cX5_readLight 154 = .ok (.iconst 0, 1) := by decide +kernel
theorem dX5_readLight_155 : decode cX5_readLight 155 = .ok (.ireturn, 1) := by decide +kernel
theorem dX5_readLight_156 : decode cX5_readLight 156 = .ok (.aload_n 1, 1) := by decide +kernel
theorem dX5_readLight_157 : decode cX5_readLight 157 = .ok (.getfield 135, 3) := by decide +kernel
theorem dX5_readLight_160 : decode cX5_readLight 160 = .ok (.getfield 147, 3) := by decide +kernel
theorem dX5_readLight_163 : decode cX5_readLight 163 = .ok (.iload 6, 2) := by decide +kernel
theorem dX5_readLight_165 : decode cX5_readLight 165 = .ok (.aload_n 0, 1) := by decide +kernel
theorem dX5_readLight_166 : decode cX5_readLight 166 = .ok (.getfield 77, 3) := by decide +kernel
theorem dX5_readLight_169 : decode cX5_readLight 169 = .ok (.iastore, 1) := by decide +kernel
theorem dX5_readLight_170 : decode cX5_readLight 170 = .ok (.aload_n 0, 1) := by decide +kernel
theorem dX5_readLight_171 : decode cX5_readLight 171 = .ok (.invokevirtual 89, 3) := by decide +kernel
theorem dX5_readLight_174 : decode cX5_readLight 174 = .ok (.ireturn, 1) := by decide +kernel
set_option maxRecDepth 10000 in
theorem tX5_readLight {L : Nat} {xs : Nat → Int32} {N : Nat} : z_AllE (zE L xs N 190) 0 (kX5_readLight N) :=
  z_ac (j := 1) rfl (z_eI (sp_aload_n (q := 0) dX5_readLight_0 rfl rfl)) <|
  z_ac (j := 2) rfl (z_eI (sp_iconst dX5_readLight_1 (by decide +kernel) rfl)) <|
  z_ac (j := 3) rfl (z_eI (sp_aload_n (q := 1) dX5_readLight_2 rfl rfl)) <|
  z_ac (j := 4) rfl (z_eI (sp_getf (C := RX7) (T := TX7) (Nf := 6) dX5_readLight_3 rfl inX7 (by decide) wf_188 rfl)) <|
  z_ac (j := 5) rfl (z_eI (sp_getf (C := RX1) (T := TX1) (Nf := 3) dX5_readLight_6 rfl inX1 (by decide) wf_84 rfl)) <|
  z_ac (j := 6) rfl (z_eI (sp_iconst dX5_readLight_9 (by decide +kernel) rfl)) <|
  z_ac (j := 7) rfl (z_eI (sp_isub dX5_readLight_10 rfl)) <|
  z_ac (j := 8) rfl (z_cV dX5_readLight_11 wl_386 qX5_takeNumber (by decide +kernel) ⟨_, _, rfl⟩ (z_sn rfl rfl) rfl) <|
  z_ac (j := 9) rfl (z_eI (sp_if_ne dX5_readLight_14 rfl rfl)) <|
  z_ac (j := 10) rfl (z_eI (sp_iconst dX5_readLight_17 (by decide +kernel) rfl)) <|
  z_ac (j := 11) rfl (z_eR (sr_bool dX5_readLight_18 rfl)) <|
  z_ac (j := 12) rfl (z_eI (sp_aload_n (q := 0) dX5_readLight_19 rfl rfl)) <|
  z_ac (j := 13) rfl (z_eI (sp_getf (C := RX5) (T := TX5) (Nf := 7) dX5_readLight_20 rfl inX5 (by decide) wf_253 rfl)) <|
  z_ac (j := 14) rfl (z_eI (sp_istore_n (q := 2) dX5_readLight_23 rfl (by decide) (fun _ _ => rfl) rfl)) <|
  z_ac (j := 15) rfl (z_eI (sp_aload_n (q := 0) dX5_readLight_24 rfl rfl)) <|
  z_ac (j := 16) rfl (z_eI (sp_iconst dX5_readLight_25 (by decide +kernel) rfl)) <|
  z_ac (j := 17) rfl (z_eI (sp_aload_n (q := 1) dX5_readLight_26 rfl rfl)) <|
  z_ac (j := 18) rfl (z_eI (sp_getf (C := RX7) (T := TX7) (Nf := 6) dX5_readLight_27 rfl inX7 (by decide) wf_188 rfl)) <|
  z_ac (j := 19) rfl (z_eI (sp_getf (C := RX1) (T := TX1) (Nf := 3) dX5_readLight_30 rfl inX1 (by decide) wf_88 rfl)) <|
  z_ac (j := 20) rfl (z_eI (sp_iconst dX5_readLight_33 (by decide +kernel) rfl)) <|
  z_ac (j := 21) rfl (z_eI (sp_isub dX5_readLight_34 rfl)) <|
  z_ac (j := 22) rfl (z_cV dX5_readLight_35 wl_390 qX5_isNumber (by decide +kernel) ⟨_, _, rfl⟩ (z_sn rfl rfl) rfl) <|
  z_ac (j := 23) rfl (z_eI (sp_if_eq dX5_readLight_38 rfl rfl)) <|
  z_ac (j := 24) rfl (z_eI (sp_aload_n (q := 1) dX5_readLight_41 rfl rfl)) <|
  z_ac (j := 25) rfl (z_eI (sp_iload_n (q := 2) dX5_readLight_42 rfl rfl)) <|
  z_ac (j := 26) rfl (z_eI (sp_aload_n (q := 0) dX5_readLight_43 rfl rfl)) <|
  z_ac (j := 27) rfl (z_eI (sp_getf (C := RX5) (T := TX5) (Nf := 7) dX5_readLight_44 rfl inX5 (by decide) wf_252 rfl)) <|
  z_ac (j := 28) rfl (z_cN (host := "FalseLightMarsh") dX5_readLight_47 (by decide +kernel) qX8_cellAt (by decide +kernel) (z_sn rfl rfl) rfl) <|
  z_ac (j := 29) rfl (z_cV dX5_readLight_50 wl_439 qX7_takesLight (by decide +kernel) ⟨_, _, rfl⟩ (z_sn rfl rfl) rfl) <|
  z_ac (j := 30) rfl (z_eI (sp_if_ne dX5_readLight_53 rfl rfl)) <|
  z_ac (j := 31) rfl (z_eI (sp_iconst dX5_readLight_56 (by decide +kernel) rfl)) <|
  z_ac (j := 32) rfl (z_eR (sr_bool dX5_readLight_57 rfl)) <|
  z_ac (j := 33) rfl (z_eI (sp_iload_n (q := 2) dX5_readLight_58 rfl rfl)) <|
  z_ac (j := 34) rfl (z_eI (sp_aload_n (q := 0) dX5_readLight_59 rfl rfl)) <|
  z_ac (j := 35) rfl (z_eI (sp_getf (C := RX5) (T := TX5) (Nf := 7) dX5_readLight_60 rfl inX5 (by decide) wf_252 rfl)) <|
  z_ac (j := 36) rfl (z_cN (host := "FalseLightMarsh") dX5_readLight_63 (by decide +kernel) qX8_cellAt (by decide +kernel) (z_sn rfl rfl) rfl) <|
  z_ac (j := 37) rfl (z_eI (sp_istore_n (q := 3) dX5_readLight_66 rfl (by decide) (fun _ _ => rfl) rfl)) <|
  z_ac (j := 38) rfl (z_eI (sp_aload_n (q := 0) dX5_readLight_67 rfl rfl)) <|
  z_ac (j := 39) rfl (z_cV dX5_readLight_68 wl_366 qX5_scan (by decide +kernel) ⟨_, _, rfl⟩ (z_sn rfl rfl) rfl) <|
  z_ac (j := 40) rfl (z_eI (sp_aload_n (q := 0) dX5_readLight_71 rfl rfl)) <|
  z_ac (j := 41) rfl (z_eI (sp_iconst dX5_readLight_72 (by decide +kernel) rfl)) <|
  z_ac (j := 42) rfl (z_eI (sp_bipush dX5_readLight_73 (by decide +kernel) rfl)) <|
  z_ac (j := 43) rfl (z_cV dX5_readLight_75 wl_386 qX5_takeNumber (by decide +kernel) ⟨_, _, rfl⟩ (z_sn rfl rfl) rfl) <|
  z_ac (j := 44) rfl (z_eI (sp_if_ne dX5_readLight_78 rfl rfl)) <|
  z_ac (j := 45) rfl (z_eI (sp_iconst dX5_readLight_81 (by decide +kernel) rfl)) <|
  z_ac (j := 46) rfl (z_eR (sr_bool dX5_readLight_82 rfl)) <|
  z_ac (j := 47) rfl (z_eI (sp_aload_n (q := 0) dX5_readLight_83 rfl rfl)) <|
  z_ac (j := 48) rfl (z_eI (sp_getf (C := RX5) (T := TX5) (Nf := 7) dX5_readLight_84 rfl inX5 (by decide) wf_253 rfl)) <|
  z_ac (j := 49) rfl (z_eI (sp_istore dX5_readLight_87 (by decide) (fun _ _ => rfl) rfl)) <|
  z_ac (j := 50) rfl (z_eI (sp_aload_n (q := 0) dX5_readLight_89 rfl rfl)) <|
  z_ac (j := 51) rfl (z_eI (sp_ldcS (tx := "true") dX5_readLight_90 (by decide +kernel) rfl)) <|
  z_ac (j := 52) rfl (z_cV dX5_readLight_92 wl_382 qX5_takeWord (by decide +kernel) ⟨_, _, rfl⟩ (z_sn rfl rfl) rfl) <|
  z_ac (j := 53) rfl (z_eI (sp_istore dX5_readLight_95 (by decide) (fun _ _ => rfl) rfl)) <|
  z_ac (j := 54) rfl (z_eI (sp_iload dX5_readLight_97 rfl)) <|
  z_ac (j := 55) rfl (z_eI (sp_if_ne dX5_readLight_99 rfl rfl)) <|
  z_ac (j := 56) rfl (z_eI (sp_aload_n (q := 0) dX5_readLight_102 rfl rfl)) <|
  z_ac (j := 57) rfl (z_eI (sp_ldcS (tx := "false") dX5_readLight_103 (by decide +kernel) rfl)) <|
  z_ac (j := 58) rfl (z_cV dX5_readLight_105 wl_382 qX5_takeWord (by decide +kernel) ⟨_, _, rfl⟩ (z_sn rfl rfl) rfl) <|
  z_ac (j := 59) rfl (z_eI (sp_if_ne dX5_readLight_108 rfl rfl)) <|
  z_ac (j := 60) rfl (z_eI (sp_iconst dX5_readLight_111 (by decide +kernel) rfl)) <|
  z_ac (j := 61) rfl (z_eR (sr_bool dX5_readLight_112 rfl)) <|
  z_ac (j := 62) rfl (z_eI (sp_aload_n (q := 1) dX5_readLight_113 rfl rfl)) <|
  z_ac (j := 63) rfl (z_eI (sp_getf (C := RX7) (T := TX7) (Nf := 6) dX5_readLight_114 rfl inX7 (by decide) wf_192 rfl)) <|
  z_ac (j := 64) rfl (z_eI (sp_iload_n (q := 3) dX5_readLight_117 rfl rfl)) <|
  z_ac (j := 65) rfl (z_eI (sp_iload dX5_readLight_118 rfl)) <|
  z_ac (j := 66) rfl (z_eI (sp_iload dX5_readLight_120 rfl)) <|
  z_ac (j := 67) rfl (z_cV dX5_readLight_122 wl_449 qX3_put (by decide +kernel) ⟨_, _, rfl⟩ (z_sn rfl rfl) rfl) <|
  z_ac (j := 68) rfl (z_eI (sp_istore dX5_readLight_125 (by decide) (fun _ _ => rfl) rfl)) <|
  z_ac (j := 69) rfl (z_eI (sp_iload dX5_readLight_127 rfl)) <|
  z_ac (j := 70) rfl (z_eI (sp_iconst dX5_readLight_129 (by decide +kernel) rfl)) <|
  z_ac (j := 71) rfl (z_eI (sp_icmp_eq dX5_readLight_130 rfl rfl)) <|
  z_ac (j := 72) rfl (z_eI (sp_aload_n (q := 0) dX5_readLight_133 rfl rfl)) <|
  z_ac (j := 73) rfl (z_eI (sp_ldcS (tx := "next") dX5_readLight_134 (by decide +kernel) rfl)) <|
  z_ac (j := 74) rfl (z_cV dX5_readLight_136 wl_382 qX5_takeWord (by decide +kernel) ⟨_, _, rfl⟩ (z_sn rfl rfl) rfl) <|
  z_ac (j := 75) rfl (z_eI (sp_if_eq dX5_readLight_139 rfl rfl)) <|
  z_ac (j := 76) rfl (z_eI (sp_aload_n (q := 0) dX5_readLight_142 rfl rfl)) <|
  z_ac (j := 77) rfl (z_eI (sp_iconst dX5_readLight_143 (by decide +kernel) rfl)) <|
  z_ac (j := 78) rfl (z_eI (sp_iload dX5_readLight_144 rfl)) <|
  z_ac (j := 79) rfl (z_eI (sp_iconst dX5_readLight_146 (by decide +kernel) rfl)) <|
  z_ac (j := 80) rfl (z_eI (sp_isub dX5_readLight_147 rfl)) <|
  z_ac (j := 81) rfl (z_cV dX5_readLight_148 wl_386 qX5_takeNumber (by decide +kernel) ⟨_, _, rfl⟩ (z_sn rfl rfl) rfl) <|
  z_ac (j := 82) rfl (z_eI (sp_if_ne dX5_readLight_151 rfl rfl)) <|
  z_ac (j := 83) rfl (z_eI (sp_iconst dX5_readLight_154 (by decide +kernel) rfl)) <|
  z_ac (j := 84) rfl (z_eR (sr_bool dX5_readLight_155 rfl)) <|
  z_ac (j := 85) rfl (z_eI (sp_aload_n (q := 1) dX5_readLight_156 rfl rfl)) <|
  z_ac (j := 86) rfl (z_eI (sp_getf (C := RX7) (T := TX7) (Nf := 6) dX5_readLight_157 rfl inX7 (by decide) wf_192 rfl)) <|
  z_ac (j := 87) rfl (z_eI (sp_getf (C := RX3) (T := TX3) (Nf := 5) dX5_readLight_160 rfl inX3 (by decide) wf_125 rfl)) <|
  z_ac (j := 88) rfl (z_eI (sp_iload dX5_readLight_163 rfl)) <|
  z_ac (j := 89) rfl (z_eI (sp_aload_n (q := 0) dX5_readLight_165 rfl rfl)) <|
  z_ac (j := 90) rfl (z_eI (sp_getf (C := RX5) (T := TX5) (Nf := 7) dX5_readLight_166 rfl inX5 (by decide) wf_253 rfl)) <|
  z_ac (j := 91) rfl (z_eI (sp_iast dX5_readLight_169 rfl)) <|
  z_ac (j := 92) rfl (z_eI (sp_aload_n (q := 0) dX5_readLight_170 rfl rfl)) <|
  z_ac (j := 93) rfl (z_cV dX5_readLight_171 wl_406 qX5_takeSemicolon (by decide +kernel) ⟨_, _, rfl⟩ (z_sn rfl rfl) rfl) <|
  z_ac (j := 94) rfl (z_eR (sr_bool dX5_readLight_174 rfl)) <| z_an
theorem dX5_readTravellers_0 : decode cX5_readTravellers 0 = .ok (.iconst 0, 1) := by decide +kernel
theorem dX5_readTravellers_1 : decode cX5_readTravellers 1 = .ok (.istore_n 2, 1) := by decide +kernel
theorem dX5_readTravellers_2 : decode cX5_readTravellers 2 = .ok (.iload_n 2, 1) := by decide +kernel
theorem dX5_readTravellers_3 : decode cX5_readTravellers 3 = .ok (.bipush 6, 2) := by decide +kernel
theorem dX5_readTravellers_5 : decode cX5_readTravellers 5 = .ok (.if_icmp .ge 108, 3) := by decide +kernel
theorem dX5_readTravellers_8 : decode cX5_readTravellers 8 = .ok (.aload_n 0, 1) := by decide +kernel
theorem dX5_readTravellers_9 : decode cX5_readTravellers 9 = .ok (.ldc 149, 2) := by decide +kernel
theorem dX5_readTravellers_11 : decode cX5_readTravellers 11 = .ok (.invokevirtual 69, 3) := by decide +kernel
theorem dX5_readTravellers_14 : decode cX5_readTravellers 14 = .ok (.ifCond .eq 99, 3) := by decide +kernel
theorem dX5_readTravellers_17 : decode cX5_readTravellers 17 = .ok (.aload_n 0, 1) := by decide +kernel
theorem dX5_readTravellers_18 : decode cX5_readTravellers 18 = .ok (.iconst 0, 1) := by decide +kernel
theorem dX5_readTravellers_19 : decode cX5_readTravellers 19 = .ok (.aload_n 1, 1) := by decide +kernel
theorem dX5_readTravellers_20 : decode cX5_readTravellers 20 = .ok (.getfield 42, 3) := by decide +kernel
theorem dX5_readTravellers_23 : decode cX5_readTravellers 23 = .ok (.getfield 114, 3) := by decide +kernel
theorem dX5_readTravellers_26 : decode cX5_readTravellers 26 = .ok (.iconst 1, 1) := by decide +kernel
theorem dX5_readTravellers_27 : decode cX5_readTravellers 27 = .ok (.isub, 1) := by decide +kernel
theorem dX5_readTravellers_28 : decode cX5_readTravellers 28 = .ok (.invokevirtual 73, 3) := by decide +kernel
theorem dX5_readTravellers_31 : decode cX5_readTravellers 31 = .ok (.ifCond .ne 5, 3) := by decide +kernel
theorem dX5_readTravellers_34 : decode cX5_readTravellers 34 = .ok (.iconst 0, 1) := by decide +kernel
theorem dX5_readTravellers_35 : decode cX5_readTravellers 35 = .ok (.ireturn, 1) := by decide +kernel
theorem dX5_readTravellers_36 : decode cX5_readTravellers 36 = .ok (.aload_n 0, 1) := by decide +kernel
theorem dX5_readTravellers_37 : decode cX5_readTravellers 37 = .ok (.getfield 77, 3) := by decide +kernel
theorem dX5_readTravellers_40 : decode cX5_readTravellers 40 = .ok (.istore_n 3, 1) := by decide +kernel
theorem dX5_readTravellers_41 : decode cX5_readTravellers 41 = .ok (.aload_n 0, 1) := by decide +kernel
theorem dX5_readTravellers_42 : decode cX5_readTravellers 42 = .ok (.iconst 0, 1) := by decide +kernel
theorem dX5_readTravellers_43 : decode cX5_readTravellers 43 = .ok (.aload_n 1, 1) := by decide +kernel
theorem dX5_readTravellers_44 : decode cX5_readTravellers 44 = .ok (.getfield 42, 3) := by decide +kernel
theorem dX5_readTravellers_47 : decode cX5_readTravellers 47 = .ok (.getfield 93, 3) := by decide +kernel
theorem dX5_readTravellers_50 : decode cX5_readTravellers 50 = .ok (.iconst 1, 1) := by decide +kernel
theorem dX5_readTravellers_51 : decode cX5_readTravellers 51 = .ok (.isub, 1) := by decide +kernel
theorem dX5_readTravellers_52 : decode cX5_readTravellers 52 = .ok (.invokevirtual 117, 3) := by decide +kernel
theorem dX5_readTravellers_55 : decode cX5_readTravellers 55 = .ok (.ifCond .eq 21, 3) := by decide +kernel
theorem dX5_readTravellers_58 : decode cX5_readTravellers 58 = .ok (.aload_n 1, 1) := by decide +kernel
theorem dX5_readTravellers_59 : decode cX5_readTravellers 59 = .ok (.getfield 42, 3) := by decide +kernel
theorem dX5_readTravellers_62 : decode cX5_readTravellers 62 = .ok (.iload_n 3, 1) := by decide +kernel
theorem dX5_readTravellers_63 : decode cX5_readTravellers 63 = .ok (.aload_n 0, 1) := by decide +kernel
theorem dX5_readTravellers_64 : decode cX5_readTravellers 64 = .ok (.getfield 120, 3) := by decide +kernel
theorem dX5_readTravellers_67 : decode cX5_readTravellers 67 = .ok (.invokestatic 123, 3) := by decide +kernel
theorem dX5_readTravellers_70 : decode cX5_readTravellers 70 = .ok (.invokevirtual 151, 3) := by decide +kernel
theorem dX5_readTravellers_73 : decode cX5_readTravellers 73 = .ok (.ifCond .ne 5, 3) := by decide +kernel
theorem dX5_readTravellers_76 : decode cX5_readTravellers 76 = .ok (.iconst 0, 1) := by decide +kernel
theorem dX5_readTravellers_77 : decode cX5_readTravellers 77 = .ok (.ireturn, 1) := by decide +kernel
theorem dX5_readTravellers_78 : decode cX5_readTravellers 78 = .ok (.aload_n 1, 1) := by decide +kernel
theorem dX5_readTravellers_79 : decode cX5_readTravellers 79 = .ok (.getfield 154, 3) := by decide +kernel
theorem dX5_readTravellers_82 : decode cX5_readTravellers 82 = .ok (.iload_n 3, 1) := by decide +kernel
theorem dX5_readTravellers_83 : decode cX5_readTravellers 83 = .ok (.aload_n 0, 1) := by decide +kernel
theorem dX5_readTravellers_84 : decode cX5_readTravellers 84 = .ok (.getfield 120, 3) := by decide +kernel
theorem dX5_readTravellers_87 : decode cX5_readTravellers 87 = .ok (.invokestatic 123, 3) := by decide +kernel
theorem dX5_readTravellers_90 : decode cX5_readTravellers 90 = .ok (.invokevirtual 158, 3) := by decide +kernel
theorem dX5_readTravellers_93 : decode cX5_readTravellers 93 = .ok (.pop, 1) := by decide +kernel
theorem dX5_readTravellers_94 : decode cX5_readTravellers 94 = .ok (.aload_n 0, 1) := by decide +kernel
theorem dX5_readTravellers_95 : decode cX5_readTravellers 95 = .ok (.invokevirtual 35, 3) := by decide +kernel
theorem dX5_readTravellers_98 : decode cX5_readTravellers 98 = .ok (.aload_n 0, 1) := by decide +kernel
theorem dX5_readTravellers_99 : decode cX5_readTravellers 99 = .ok (.invokevirtual 89, 3) := by decide +kernel
theorem dX5_readTravellers_102 : decode cX5_readTravellers 102 = .ok (.ifCond .ne 5, 3) := by decide +kernel
theorem dX5_readTravellers_105 : decode cX5_readTravellers 105 = .ok (.iconst 0, 1) := by decide +kernel
theorem dX5_readTravellers_106 : decode cX5_readTravellers 106 = .ok (.ireturn, 1) := by decide +kernel
theorem dX5_readTravellers_107 : decode cX5_readTravellers 107 = .ok (.iinc 2 1, 3) := by decide +kernel
theorem dX5_readTravellers_110 : decode cX5_readTravellers 110 = .ok (.goto (-108), 3) := by decide +kernel
theorem dX5_readTravellers_113 : decode cX5_readTravellers 113 = .ok (.iconst 1, 1) := by decide +kernel
theorem dX5_readTravellers_114 : decode cX5_readTravellers 114 = .ok (.ireturn, 1) := by decide +kernel
theorem tX5_readTravellers {L : Nat} {xs : Nat → Int32} {N : Nat} : z_AllE (zE L xs N 191) 0 (kX5_readTravellers N) :=
  z_ac (j := 1) rfl (z_eI (sp_iconst dX5_readTravellers_0 (by decide +kernel) rfl)) <|
  z_ac (j := 2) rfl (z_eI (sp_istore_n (q := 2) dX5_readTravellers_1 rfl (by decide) (fun _ _ => rfl) rfl)) <|
  z_ac (j := 3) rfl (z_eI (sp_iload_n (q := 2) dX5_readTravellers_2 rfl rfl)) <|
  z_ac (j := 4) rfl (z_eI (sp_bipush dX5_readTravellers_3 (by decide +kernel) rfl)) <|
  z_ac (j := 5) rfl (z_eI (sp_icmp_ge dX5_readTravellers_5 rfl rfl)) <|
  z_ac (j := 6) rfl (z_eI (sp_aload_n (q := 0) dX5_readTravellers_8 rfl rfl)) <|
  z_ac (j := 7) rfl (z_eI (sp_ldcS (tx := "traveller") dX5_readTravellers_9 (by decide +kernel) rfl)) <|
  z_ac (j := 8) rfl (z_cV dX5_readTravellers_11 wl_382 qX5_takeWord (by decide +kernel) ⟨_, _, rfl⟩ (z_sn rfl rfl) rfl) <|
  z_ac (j := 9) rfl (z_eI (sp_if_eq dX5_readTravellers_14 rfl rfl)) <|
  z_ac (j := 10) rfl (z_eI (sp_aload_n (q := 0) dX5_readTravellers_17 rfl rfl)) <|
  z_ac (j := 11) rfl (z_eI (sp_iconst dX5_readTravellers_18 (by decide +kernel) rfl)) <|
  z_ac (j := 12) rfl (z_eI (sp_aload_n (q := 1) dX5_readTravellers_19 rfl rfl)) <|
  z_ac (j := 13) rfl (z_eI (sp_getf (C := RX7) (T := TX7) (Nf := 6) dX5_readTravellers_20 rfl inX7 (by decide) wf_188 rfl)) <|
  z_ac (j := 14) rfl (z_eI (sp_getf (C := RX1) (T := TX1) (Nf := 3) dX5_readTravellers_23 rfl inX1 (by decide) wf_84 rfl)) <|
  z_ac (j := 15) rfl (z_eI (sp_iconst dX5_readTravellers_26 (by decide +kernel) rfl)) <|
  z_ac (j := 16) rfl (z_eI (sp_isub dX5_readTravellers_27 rfl)) <|
  z_ac (j := 17) rfl (z_cV dX5_readTravellers_28 wl_386 qX5_takeNumber (by decide +kernel) ⟨_, _, rfl⟩ (z_sn rfl rfl) rfl) <|
  z_ac (j := 18) rfl (z_eI (sp_if_ne dX5_readTravellers_31 rfl rfl)) <|
  z_ac (j := 19) rfl (z_eI (sp_iconst dX5_readTravellers_34 (by decide +kernel) rfl)) <|
  z_ac (j := 20) rfl (z_eR (sr_bool dX5_readTravellers_35 rfl)) <|
  z_ac (j := 21) rfl (z_eI (sp_aload_n (q := 0) dX5_readTravellers_36 rfl rfl)) <|
  z_ac (j := 22) rfl (z_eI (sp_getf (C := RX5) (T := TX5) (Nf := 7) dX5_readTravellers_37 rfl inX5 (by decide) wf_253 rfl)) <|
  z_ac (j := 23) rfl (z_eI (sp_istore_n (q := 3) dX5_readTravellers_40 rfl (by decide) (fun _ _ => rfl) rfl)) <|
  z_ac (j := 24) rfl (z_eI (sp_aload_n (q := 0) dX5_readTravellers_41 rfl rfl)) <|
  z_ac (j := 25) rfl (z_eI (sp_iconst dX5_readTravellers_42 (by decide +kernel) rfl)) <|
  z_ac (j := 26) rfl (z_eI (sp_aload_n (q := 1) dX5_readTravellers_43 rfl rfl)) <|
  z_ac (j := 27) rfl (z_eI (sp_getf (C := RX7) (T := TX7) (Nf := 6) dX5_readTravellers_44 rfl inX7 (by decide) wf_188 rfl)) <|
  z_ac (j := 28) rfl (z_eI (sp_getf (C := RX1) (T := TX1) (Nf := 3) dX5_readTravellers_47 rfl inX1 (by decide) wf_88 rfl)) <|
  z_ac (j := 29) rfl (z_eI (sp_iconst dX5_readTravellers_50 (by decide +kernel) rfl)) <|
  z_ac (j := 30) rfl (z_eI (sp_isub dX5_readTravellers_51 rfl)) <|
  z_ac (j := 31) rfl (z_cV dX5_readTravellers_52 wl_390 qX5_isNumber (by decide +kernel) ⟨_, _, rfl⟩ (z_sn rfl rfl) rfl) <|
  z_ac (j := 32) rfl (z_eI (sp_if_eq dX5_readTravellers_55 rfl rfl)) <|
  z_ac (j := 33) rfl (z_eI (sp_aload_n (q := 1) dX5_readTravellers_58 rfl rfl)) <|
  z_ac (j := 34) rfl (z_eI (sp_getf (C := RX7) (T := TX7) (Nf := 6) dX5_readTravellers_59 rfl inX7 (by decide) wf_188 rfl)) <|
  z_ac (j := 35) rfl (z_eI (sp_iload_n (q := 3) dX5_readTravellers_62 rfl rfl)) <|
  z_ac (j := 36) rfl (z_eI (sp_aload_n (q := 0) dX5_readTravellers_63 rfl rfl)) <|
  z_ac (j := 37) rfl (z_eI (sp_getf (C := RX5) (T := TX5) (Nf := 7) dX5_readTravellers_64 rfl inX5 (by decide) wf_252 rfl)) <|
  z_ac (j := 38) rfl (z_cN (host := "FalseLightMarsh") dX5_readTravellers_67 (by decide +kernel) qX8_cellAt (by decide +kernel) (z_sn rfl rfl) rfl) <|
  z_ac (j := 39) rfl (z_cV dX5_readTravellers_70 wl_459 qX1_takesTraveller (by decide +kernel) ⟨_, _, rfl⟩ (z_sn rfl rfl) rfl) <|
  z_ac (j := 40) rfl (z_eI (sp_if_ne dX5_readTravellers_73 rfl rfl)) <|
  z_ac (j := 41) rfl (z_eI (sp_iconst dX5_readTravellers_76 (by decide +kernel) rfl)) <|
  z_ac (j := 42) rfl (z_eR (sr_bool dX5_readTravellers_77 rfl)) <|
  z_ac (j := 43) rfl (z_eI (sp_aload_n (q := 1) dX5_readTravellers_78 rfl rfl)) <|
  z_ac (j := 44) rfl (z_eI (sp_getf (C := RX7) (T := TX7) (Nf := 6) dX5_readTravellers_79 rfl inX7 (by decide) wf_197 rfl)) <|
  z_ac (j := 45) rfl (z_eI (sp_iload_n (q := 3) dX5_readTravellers_82 rfl rfl)) <|
  z_ac (j := 46) rfl (z_eI (sp_aload_n (q := 0) dX5_readTravellers_83 rfl rfl)) <|
  z_ac (j := 47) rfl (z_eI (sp_getf (C := RX5) (T := TX5) (Nf := 7) dX5_readTravellers_84 rfl inX5 (by decide) wf_252 rfl)) <|
  z_ac (j := 48) rfl (z_cN (host := "FalseLightMarsh") dX5_readTravellers_87 (by decide +kernel) qX8_cellAt (by decide +kernel) (z_sn rfl rfl) rfl) <|
  z_ac (j := 49) rfl (z_cV dX5_readTravellers_90 wl_463 qX6_put (by decide +kernel) ⟨_, _, rfl⟩ (z_sn rfl rfl) rfl) <|
  z_ac (j := 50) rfl (z_eI (sp_pop dX5_readTravellers_93 rfl)) <|
  z_ac (j := 51) rfl (z_eI (sp_aload_n (q := 0) dX5_readTravellers_94 rfl rfl)) <|
  z_ac (j := 52) rfl (z_cV dX5_readTravellers_95 wl_366 qX5_scan (by decide +kernel) ⟨_, _, rfl⟩ (z_sn rfl rfl) rfl) <|
  z_ac (j := 53) rfl (z_eI (sp_aload_n (q := 0) dX5_readTravellers_98 rfl rfl)) <|
  z_ac (j := 54) rfl (z_cV dX5_readTravellers_99 wl_406 qX5_takeSemicolon (by decide +kernel) ⟨_, _, rfl⟩ (z_sn rfl rfl) rfl) <|
  z_ac (j := 55) rfl (z_eI (sp_if_ne dX5_readTravellers_102 rfl rfl)) <|
  z_ac (j := 56) rfl (z_eI (sp_iconst dX5_readTravellers_105 (by decide +kernel) rfl)) <|
  z_ac (j := 57) rfl (z_eR (sr_bool dX5_readTravellers_106 rfl)) <|
  z_ac (j := 58) rfl (z_eI (sp_iinc dX5_readTravellers_107 (by decide +kernel) (by decide) (fun _ _ => rfl) rfl)) <|
  z_ac (j := 59) rfl (z_eI (sp_goto dX5_readTravellers_110 rfl)) <|
  z_ac (j := 60) rfl (z_eI (sp_iconst dX5_readTravellers_113 (by decide +kernel) rfl)) <|
  z_ac (j := 61) rfl (z_eR (sr_bool dX5_readTravellers_114 rfl)) <| z_an
theorem dX5_takeWord_0 : decode cX5_takeWord 0 = .ok (.aload_n 0, 1) := by decide +kernel
theorem dX5_takeWord_1 : decode cX5_takeWord 1 = .ok (.getfield 61, 3) := by decide +kernel
theorem dX5_takeWord_4 : decode cX5_takeWord 4 = .ok (.iconst 1, 1) := by decide +kernel
theorem dX5_takeWord_5 : decode cX5_takeWord 5 = .ok (.if_icmp .ne 19, 3) := by decide +kernel
theorem dX5_takeWord_8 : decode cX5_takeWord 8 = .ok (.aload_n 0, 1) := by decide +kernel
theorem dX5_takeWord_9 : decode cX5_takeWord 9 = .ok (.getfield 32, 3) := by decide +kernel
theorem dX5_takeWord_12 : decode cX5_takeWord 12 = .ok (.aload_n 0, 1) := by decide +kernel
theorem dX5_takeWord_13 : decode cX5_takeWord 13 = .ok (.getfield 64, 3) := by decide +kernel
theorem dX5_takeWord_16 : decode cX5_takeWord 16 = .ok (.isub, 1) := by decide +kernel
theorem dX5_takeWord_17 : decode cX5_takeWord 17 = .ok (.aload_n 1, 1) := by decide +kernel
theorem dX5_takeWord_18 : decode cX5_takeWord 18 = .ok (.invokevirtual 19, 3) := by decide +kernel
theorem dX5_takeWord_21 : decode cX5_takeWord 21 = .ok (.if_icmp .eq 5, 3) := by decide +kernel
theorem dX5_takeWord_24 : decode cX5_takeWord 24 = .ok (.iconst 0, 1) := by decide +kernel
theorem dX5_takeWord_25 : decode cX5_takeWord 25 = .ok (.ireturn, 1) := by decide +kernel
theorem dX5_takeWord_26 : decode cX5_takeWord 26 = .ok (.iconst 0, 1) := by decide +kernel
theorem dX5_takeWord_27 : decode cX5_takeWord 27 = .ok (.istore_n 2, 1) := by decide +kernel
theorem dX5_takeWord_28 : decode cX5_takeWord 28 = .ok (.iload_n 2, 1) := by decide +kernel
theorem dX5_takeWord_29 : decode cX5_takeWord 29 = .ok (.aload_n 1, 1) := by decide +kernel
theorem dX5_takeWord_30 : decode cX5_takeWord 30 = .ok (.invokevirtual 19, 3) := by decide +kernel
theorem dX5_takeWord_33 : decode cX5_takeWord 33 = .ok (.if_icmp .ge 30, 3) := by decide +kernel
theorem dX5_takeWord_36 : decode cX5_takeWord 36 = .ok (.aload_n 0, 1) := by decide +kernel
theorem dX5_takeWord_37 : decode cX5_takeWord 37 = .ok (.getfield 9, 3) := by decide +kernel
theorem dX5_takeWord_40 : decode cX5_takeWord 40 = .ok (.aload_n 0, 1) := by decide +kernel
theorem dX5_takeWord_41 : decode cX5_takeWord 41 = .ok (.getfield 64, 3) := by decide +kernel
theorem dX5_takeWord_44 : decode cX5_takeWord 44 = .ok (.iload_n 2, 1) := by decide +kernel
theorem dX5_takeWord_45 : decode cX5_takeWord 45 = .ok (.iadd, 1) := by decide +kernel
theorem dX5_takeWord_46 : decode cX5_takeWord 46 = .ok (.baload, 1) := by decide +kernel
theorem dX5_takeWord_47 : decode cX5_takeWord 47 = .ok (.aload_n 1, 1) := by decide +kernel
theorem dX5_takeWord_48 : decode cX5_takeWord 48 = .ok (.iload_n 2, 1) := by decide +kernel
theorem dX5_takeWord_49 : decode cX5_takeWord 49 = .ok (.invokevirtual 25, 3) := by decide +kernel
theorem dX5_takeWord_52 : decode cX5_takeWord 52 = .ok (.if_icmp .eq 5, 3) := by decide +kernel
theorem dX5_takeWord_55 : decode cX5_takeWord 55 = .ok (.iconst 0, 1) := by decide +kernel
theorem dX5_takeWord_56 : decode cX5_takeWord 56 = .ok (.ireturn, 1) := by decide +kernel
theorem dX5_takeWord_57 : decode cX5_takeWord 57 = .ok (.iinc 2 1, 3) := by decide +kernel
theorem dX5_takeWord_60 : decode cX5_takeWord 60 = .ok (.goto (-32), 3) := by decide +kernel
theorem dX5_takeWord_63 : decode cX5_takeWord 63 = .ok (.aload_n 0, 1) := by decide +kernel
theorem dX5_takeWord_64 : decode cX5_takeWord 64 = .ok (.invokevirtual 35, 3) := by decide +kernel
theorem dX5_takeWord_67 : decode cX5_takeWord 67 = .ok (.iconst 1, 1) := by decide +kernel
theorem dX5_takeWord_68 : decode cX5_takeWord 68 = .ok (.ireturn, 1) := by decide +kernel
theorem tX5_takeWord {L : Nat} {xs : Nat → Int32} {N : Nat} : z_AllE (zE L xs N 192) 0 (kX5_takeWord N) :=
  z_ac (j := 1) rfl (z_eI (sp_aload_n (q := 0) dX5_takeWord_0 rfl rfl)) <|
  z_ac (j := 2) rfl (z_eI (sp_getf (C := RX5) (T := TX5) (Nf := 7) dX5_takeWord_1 rfl inX5 (by decide) wf_251 rfl)) <|
  z_ac (j := 3) rfl (z_eI (sp_iconst dX5_takeWord_4 (by decide +kernel) rfl)) <|
  z_ac (j := 4) rfl (z_eI (sp_icmp_ne dX5_takeWord_5 rfl rfl)) <|
  z_ac (j := 5) rfl (z_eI (sp_aload_n (q := 0) dX5_takeWord_8 rfl rfl)) <|
  z_ac (j := 6) rfl (z_eI (sp_getf (C := RX5) (T := TX5) (Nf := 7) dX5_takeWord_9 rfl inX5 (by decide) wf_250 rfl)) <|
  z_ac (j := 7) rfl (z_eI (sp_aload_n (q := 0) dX5_takeWord_12 rfl rfl)) <|
  z_ac (j := 8) rfl (z_eI (sp_getf (C := RX5) (T := TX5) (Nf := 7) dX5_takeWord_13 rfl inX5 (by decide) wf_249 rfl)) <|
  z_ac (j := 9) rfl (z_eI (sp_isub dX5_takeWord_16 rfl)) <|
  z_ac (j := 10) rfl (z_eI (sp_aload_n (q := 1) dX5_takeWord_17 rfl rfl)) <|
  z_ac (j := 11) rfl (z_cT dX5_takeWord_18 wl_310 qJ0_length_8abf5 (by decide +kernel) rfl (z_sn rfl rfl) rfl) <|
  z_ac (j := 12) rfl (z_eI (sp_icmp_eq dX5_takeWord_21 rfl rfl)) <|
  z_ac (j := 13) rfl (z_eI (sp_iconst dX5_takeWord_24 (by decide +kernel) rfl)) <|
  z_ac (j := 14) rfl (z_eR (sr_bool dX5_takeWord_25 rfl)) <|
  z_ac (j := 15) rfl (z_eI (sp_iconst dX5_takeWord_26 (by decide +kernel) rfl)) <|
  z_ac (j := 16) rfl (z_eI (sp_istore_n (q := 2) dX5_takeWord_27 rfl (by decide) (fun _ _ => rfl) rfl)) <|
  z_ac (j := 17) rfl (z_eI (sp_iload_n (q := 2) dX5_takeWord_28 rfl rfl)) <|
  z_ac (j := 18) rfl (z_eI (sp_aload_n (q := 1) dX5_takeWord_29 rfl rfl)) <|
  z_ac (j := 19) rfl (z_cT dX5_takeWord_30 wl_310 qJ0_length_8abf5 (by decide +kernel) rfl (z_sn rfl rfl) rfl) <|
  z_ac (j := 20) rfl (z_eI (sp_icmp_ge dX5_takeWord_33 rfl rfl)) <|
  z_ac (j := 21) rfl (z_eI (sp_aload_n (q := 0) dX5_takeWord_36 rfl rfl)) <|
  z_ac (j := 22) rfl (z_eI (sp_getf (C := RX5) (T := TX5) (Nf := 7) dX5_takeWord_37 rfl inX5 (by decide) wf_248 rfl)) <|
  z_ac (j := 23) rfl (z_eI (sp_aload_n (q := 0) dX5_takeWord_40 rfl rfl)) <|
  z_ac (j := 24) rfl (z_eI (sp_getf (C := RX5) (T := TX5) (Nf := 7) dX5_takeWord_41 rfl inX5 (by decide) wf_249 rfl)) <|
  z_ac (j := 25) rfl (z_eI (sp_iload_n (q := 2) dX5_takeWord_44 rfl rfl)) <|
  z_ac (j := 26) rfl (z_eI (sp_iadd dX5_takeWord_45 rfl)) <|
  z_ac (j := 27) rfl (z_eI (sp_bald dX5_takeWord_46 rfl)) <|
  z_ac (j := 28) rfl (z_eI (sp_aload_n (q := 1) dX5_takeWord_47 rfl rfl)) <|
  z_ac (j := 29) rfl (z_eI (sp_iload_n (q := 2) dX5_takeWord_48 rfl rfl)) <|
  z_ac (j := 30) rfl (z_cT dX5_takeWord_49 wl_320 qJ0_charAt_5068e (by decide +kernel) rfl (z_sn rfl rfl) rfl) <|
  z_ac (j := 31) rfl (z_eI (sp_icmp_eq dX5_takeWord_52 rfl rfl)) <|
  z_ac (j := 32) rfl (z_eI (sp_iconst dX5_takeWord_55 (by decide +kernel) rfl)) <|
  z_ac (j := 33) rfl (z_eR (sr_bool dX5_takeWord_56 rfl)) <|
  z_ac (j := 34) rfl (z_eI (sp_iinc dX5_takeWord_57 (by decide +kernel) (by decide) (fun _ _ => rfl) rfl)) <|
  z_ac (j := 35) rfl (z_eI (sp_goto dX5_takeWord_60 rfl)) <|
  z_ac (j := 36) rfl (z_eI (sp_aload_n (q := 0) dX5_takeWord_63 rfl rfl)) <|
  z_ac (j := 37) rfl (z_cV dX5_takeWord_64 wl_366 qX5_scan (by decide +kernel) ⟨_, _, rfl⟩ (z_sn rfl rfl) rfl) <|
  z_ac (j := 38) rfl (z_eI (sp_iconst dX5_takeWord_67 (by decide +kernel) rfl)) <|
  z_ac (j := 39) rfl (z_eR (sr_bool dX5_takeWord_68 rfl)) <| z_an
theorem dX5_isNumber_0 : decode cX5_isNumber 0 = .ok (.aload_n 0, 1) := by decide +kernel
theorem dX5_isNumber_1 : decode cX5_isNumber 1 = .ok (.getfield 61, 3) := by decide +kernel
theorem dX5_isNumber_4 : decode cX5_isNumber 4 = .ok (.iconst 2, 1) := by decide +kernel
theorem dX5_isNumber_5 : decode cX5_isNumber 5 = .ok (.if_icmp .ne 23, 3) := by decide +kernel
theorem dX5_isNumber_8 : decode cX5_isNumber 8 = .ok (.aload_n 0, 1) := by decide +kernel
theorem dX5_isNumber_9 : decode cX5_isNumber 9 = .ok (.getfield 120, 3) := by decide +kernel
theorem dX5_isNumber_12 : decode cX5_isNumber 12 = .ok (.iload_n 1, 1) := by decide +kernel
theorem dX5_isNumber_13 : decode cX5_isNumber 13 = .ok (.if_icmp .lt 15, 3) := by decide +kernel
theorem dX5_isNumber_16 : decode cX5_isNumber 16 = .ok (.aload_n 0, 1) := by decide +kernel
theorem dX5_isNumber_17 : decode cX5_isNumber 17 = .ok (.getfield 120, 3) := by decide +kernel
theorem dX5_isNumber_20 : decode cX5_isNumber 20 = .ok (.iload_n 2, 1) := by decide +kernel
theorem dX5_isNumber_21 : decode cX5_isNumber 21 = .ok (.if_icmp .gt 7, 3) := by decide +kernel
theorem dX5_isNumber_24 : decode cX5_isNumber 24 = .ok (.iconst 1, 1) := by decide +kernel
theorem dX5_isNumber_25 : decode cX5_isNumber 25 = .ok (.goto 4, 3) := by decide +kernel
theorem dX5_isNumber_28 : decode cX5_isNumber 28 = .ok (.iconst 0, 1) := by decide +kernel
theorem dX5_isNumber_29 : decode cX5_isNumber 29 = .ok (.ireturn, 1) := by decide +kernel
theorem tX5_isNumber {L : Nat} {xs : Nat → Int32} {N : Nat} : z_AllE (zE L xs N 193) 0 (kX5_isNumber N) :=
  z_ac (j := 1) rfl (z_eI (sp_aload_n (q := 0) dX5_isNumber_0 rfl rfl)) <|
  z_ac (j := 2) rfl (z_eI (sp_getf (C := RX5) (T := TX5) (Nf := 7) dX5_isNumber_1 rfl inX5 (by decide) wf_251 rfl)) <|
  z_ac (j := 3) rfl (z_eI (sp_iconst dX5_isNumber_4 (by decide +kernel) rfl)) <|
  z_ac (j := 4) rfl (z_eI (sp_icmp_ne dX5_isNumber_5 rfl rfl)) <|
  z_ac (j := 5) rfl (z_eI (sp_aload_n (q := 0) dX5_isNumber_8 rfl rfl)) <|
  z_ac (j := 6) rfl (z_eI (sp_getf (C := RX5) (T := TX5) (Nf := 7) dX5_isNumber_9 rfl inX5 (by decide) wf_252 rfl)) <|
  z_ac (j := 7) rfl (z_eI (sp_iload_n (q := 1) dX5_isNumber_12 rfl rfl)) <|
  z_ac (j := 8) rfl (z_eI (sp_icmp_lt dX5_isNumber_13 rfl rfl)) <|
  z_ac (j := 9) rfl (z_eI (sp_aload_n (q := 0) dX5_isNumber_16 rfl rfl)) <|
  z_ac (j := 10) rfl (z_eI (sp_getf (C := RX5) (T := TX5) (Nf := 7) dX5_isNumber_17 rfl inX5 (by decide) wf_252 rfl)) <|
  z_ac (j := 11) rfl (z_eI (sp_iload_n (q := 2) dX5_isNumber_20 rfl rfl)) <|
  z_ac (j := 12) rfl (z_eI (sp_icmp_gt dX5_isNumber_21 rfl rfl)) <|
  z_ac (j := 13) rfl (z_eI (sp_iconst dX5_isNumber_24 (by decide +kernel) rfl)) <|
  z_ac (j := 14) rfl (z_eI (sp_goto dX5_isNumber_25 rfl)) <|
  z_ac (j := 15) rfl (z_eI (sp_iconst dX5_isNumber_28 (by decide +kernel) rfl)) <|
  z_ac (j := 16) rfl (z_eR (sr_bool dX5_isNumber_29 rfl)) <| z_an
theorem dX5_takeNumber_0 : decode cX5_takeNumber 0 = .ok (.aload_n 0, 1) := by decide +kernel
theorem dX5_takeNumber_1 : decode cX5_takeNumber 1 = .ok (.iload_n 1, 1) := by decide +kernel
theorem dX5_takeNumber_2 : decode cX5_takeNumber 2 = .ok (.iload_n 2, 1) := by decide +kernel
theorem dX5_takeNumber_3 : decode cX5_takeNumber 3 = .ok (.invokevirtual 117, 3) := by decide +kernel
theorem dX5_takeNumber_6 : decode cX5_takeNumber 6 = .ok (.ifCond .ne 5, 3) := by decide +kernel
theorem dX5_takeNumber_9 : decode cX5_takeNumber 9 = .ok (.iconst 0, 1) := by decide +kernel
theorem dX5_takeNumber_10 : decode cX5_takeNumber 10 = .ok (.ireturn, 1) := by decide +kernel
theorem dX5_takeNumber_11 : decode cX5_takeNumber 11 = .ok (.aload_n 0, 1) := by decide +kernel
theorem dX5_takeNumber_12 : decode cX5_takeNumber 12 = .ok (.aload_n 0, 1) := by decide +kernel
theorem dX5_takeNumber_13 : decode cX5_takeNumber 13 = .ok (.getfield 120, 3) := by decide +kernel
theorem dX5_takeNumber_16 : decode cX5_takeNumber 16 = .ok (.putfield 77, 3) := by decide +kernel
theorem dX5_takeNumber_19 : decode cX5_takeNumber 19 = .ok (.aload_n 0, 1) := by decide +kernel
theorem dX5_takeNumber_20 : decode cX5_takeNumber 20 = .ok (.invokevirtual 35, 3) := by decide +kernel
theorem dX5_takeNumber_23 : decode cX5_takeNumber 23 = .ok (.iconst 1, 1) := by decide +kernel
theorem dX5_takeNumber_24 : decode cX5_takeNumber 24 = .ok (.ireturn, 1) := by decide +kernel
theorem tX5_takeNumber {L : Nat} {xs : Nat → Int32} {N : Nat} : z_AllE (zE L xs N 194) 0 (kX5_takeNumber N) :=
  z_ac (j := 1) rfl (z_eI (sp_aload_n (q := 0) dX5_takeNumber_0 rfl rfl)) <|
  z_ac (j := 2) rfl (z_eI (sp_iload_n (q := 1) dX5_takeNumber_1 rfl rfl)) <|
  z_ac (j := 3) rfl (z_eI (sp_iload_n (q := 2) dX5_takeNumber_2 rfl rfl)) <|
  z_ac (j := 4) rfl (z_cV dX5_takeNumber_3 wl_390 qX5_isNumber (by decide +kernel) ⟨_, _, rfl⟩ (z_sn rfl rfl) rfl) <|
  z_ac (j := 5) rfl (z_eI (sp_if_ne dX5_takeNumber_6 rfl rfl)) <|
  z_ac (j := 6) rfl (z_eI (sp_iconst dX5_takeNumber_9 (by decide +kernel) rfl)) <|
  z_ac (j := 7) rfl (z_eR (sr_bool dX5_takeNumber_10 rfl)) <|
  z_ac (j := 8) rfl (z_eI (sp_aload_n (q := 0) dX5_takeNumber_11 rfl rfl)) <|
  z_ac (j := 9) rfl (z_eI (sp_aload_n (q := 0) dX5_takeNumber_12 rfl rfl)) <|
  z_ac (j := 10) rfl (z_eI (sp_getf (C := RX5) (T := TX5) (Nf := 7) dX5_takeNumber_13 rfl inX5 (by decide) wf_252 rfl)) <|
  z_ac (j := 11) rfl (z_eI (sp_putI (C := RX5) (T := TX5) (Nf := 7) dX5_takeNumber_16 rfl inX5 tyX5_ok nmX5 (by decide) wf_253 rfl (by decide +kernel) rfl)) <|
  z_ac (j := 12) rfl (z_eI (sp_aload_n (q := 0) dX5_takeNumber_19 rfl rfl)) <|
  z_ac (j := 13) rfl (z_cV dX5_takeNumber_20 wl_366 qX5_scan (by decide +kernel) ⟨_, _, rfl⟩ (z_sn rfl rfl) rfl) <|
  z_ac (j := 14) rfl (z_eI (sp_iconst dX5_takeNumber_23 (by decide +kernel) rfl)) <|
  z_ac (j := 15) rfl (z_eR (sr_bool dX5_takeNumber_24 rfl)) <| z_an
theorem dX5_takeSemicolon_0 : decode cX5_takeSemicolon 0 = .ok (.aload_n 0, 1) := by decide +kernel
theorem dX5_takeSemicolon_1 : decode cX5_takeSemicolon 1 = .ok (.getfield 61, 3) := by decide +kernel
theorem dX5_takeSemicolon_4 : decode cX5_takeSemicolon 4 = .ok (.iconst 3, 1) := by decide +kernel
theorem dX5_takeSemicolon_5 : decode cX5_takeSemicolon 5 = .ok (.if_icmp .eq 5, 3) := by decide +kernel
theorem dX5_takeSemicolon_8 : decode cX5_takeSemicolon 8 = .ok (.iconst 0, 1) := by decide +kernel
theorem dX5_takeSemicolon_9 : decode cX5_takeSemicolon 9 = .ok (.ireturn, 1) := by decide +kernel
theorem dX5_takeSemicolon_10 : decode cX5_takeSemicolon 10 = .ok (.aload_n 0, 1) := by decide +kernel
theorem dX5_takeSemicolon_11 : decode cX5_takeSemicolon 11 = .ok (.invokevirtual 35, 3) := by decide +kernel
theorem dX5_takeSemicolon_14 : decode cX5_takeSemicolon 14 = .ok (.iconst 1, 1) := by decide +kernel
theorem dX5_takeSemicolon_15 : decode cX5_takeSemicolon 15 = .ok (.ireturn, 1) := by decide +kernel
theorem tX5_takeSemicolon {L : Nat} {xs : Nat → Int32} {N : Nat} : z_AllE (zE L xs N 195) 0 (kX5_takeSemicolon N) :=
  z_ac (j := 1) rfl (z_eI (sp_aload_n (q := 0) dX5_takeSemicolon_0 rfl rfl)) <|
  z_ac (j := 2) rfl (z_eI (sp_getf (C := RX5) (T := TX5) (Nf := 7) dX5_takeSemicolon_1 rfl inX5 (by decide) wf_251 rfl)) <|
  z_ac (j := 3) rfl (z_eI (sp_iconst dX5_takeSemicolon_4 (by decide +kernel) rfl)) <|
  z_ac (j := 4) rfl (z_eI (sp_icmp_eq dX5_takeSemicolon_5 rfl rfl)) <|
  z_ac (j := 5) rfl (z_eI (sp_iconst dX5_takeSemicolon_8 (by decide +kernel) rfl)) <|
  z_ac (j := 6) rfl (z_eR (sr_bool dX5_takeSemicolon_9 rfl)) <|
  z_ac (j := 7) rfl (z_eI (sp_aload_n (q := 0) dX5_takeSemicolon_10 rfl rfl)) <|
  z_ac (j := 8) rfl (z_cV dX5_takeSemicolon_11 wl_366 qX5_scan (by decide +kernel) ⟨_, _, rfl⟩ (z_sn rfl rfl) rfl) <|
  z_ac (j := 9) rfl (z_eI (sp_iconst dX5_takeSemicolon_14 (by decide +kernel) rfl)) <|
  z_ac (j := 10) rfl (z_eR (sr_bool dX5_takeSemicolon_15 rfl)) <| z_an
theorem dX5_takeCells_0 : decode cX5_takeCells 0 = .ok (.aload_n 0, 1) := by decide +kernel
theorem dX5_takeCells_1 : decode cX5_takeCells 1 = .ok (.getfield 61, 3) := by decide +kernel
theorem dX5_takeCells_4 : decode cX5_takeCells 4 = .ok (.iconst 1, 1) := by decide +kernel
theorem dX5_takeCells_5 : decode cX5_takeCells 5 = .ok (.if_icmp .ne 19, 3) := by decide +kernel
theorem dX5_takeCells_8 : decode cX5_takeCells 8 = .ok (.aload_n 0, 1) := by decide +kernel
theorem dX5_takeCells_9 : decode cX5_takeCells 9 = .ok (.getfield 32, 3) := by decide +kernel
theorem dX5_takeCells_12 : decode cX5_takeCells 12 = .ok (.aload_n 0, 1) := by decide +kernel
theorem dX5_takeCells_13 : decode cX5_takeCells 13 = .ok (.getfield 64, 3) := by decide +kernel
theorem dX5_takeCells_16 : decode cX5_takeCells 16 = .ok (.isub, 1) := by decide +kernel
theorem dX5_takeCells_17 : decode cX5_takeCells 17 = .ok (.aload_n 1, 1) := by decide +kernel
theorem dX5_takeCells_18 : decode cX5_takeCells 18 = .ok (.getfield 114, 3) := by decide +kernel
theorem dX5_takeCells_21 : decode cX5_takeCells 21 = .ok (.if_icmp .eq 5, 3) := by decide +kernel
theorem dX5_takeCells_24 : decode cX5_takeCells 24 = .ok (.iconst 0, 1) := by decide +kernel
theorem dX5_takeCells_25 : decode cX5_takeCells 25 = .ok (.ireturn, 1) := by decide +kernel
theorem dX5_takeCells_26 : decode cX5_takeCells 26 = .ok (.iconst 0, 1) := by decide +kernel
theorem dX5_takeCells_27 : decode cX5_takeCells 27 = .ok (.istore_n 3, 1) := by decide +kernel
theorem dX5_takeCells_28 : decode cX5_takeCells 28 = .ok (.iload_n 3, 1) := by decide +kernel
theorem dX5_takeCells_29 : decode cX5_takeCells 29 = .ok (.aload_n 1, 1) := by decide +kernel
theorem dX5_takeCells_30 : decode cX5_takeCells 30 = .ok (.getfield 114, 3) := by decide +kernel
theorem dX5_takeCells_33 : decode cX5_takeCells 33 = .ok (.if_icmp .ge 45, 3) := by decide +kernel
theorem dX5_takeCells_36 : decode cX5_takeCells 36 = .ok (.aload_n 0, 1) := by decide +kernel
theorem dX5_takeCells_37 : decode cX5_takeCells 37 = .ok (.getfield 9, 3) := by decide +kernel
theorem dX5_takeCells_40 : decode cX5_takeCells 40 = .ok (.aload_n 0, 1) := by decide +kernel
theorem dX5_takeCells_41 : decode cX5_takeCells 41 = .ok (.getfield 64, 3) := by decide +kernel
theorem dX5_takeCells_44 : decode cX5_takeCells 44 = .ok (.iload_n 3, 1) := by decide +kernel
theorem dX5_takeCells_45 : decode cX5_takeCells 45 = .ok (.iadd, 1) := by decide +kernel
theorem dX5_takeCells_46 : decode cX5_takeCells 46 = .ok (.baload, 1) := by decide +kernel
theorem dX5_takeCells_47 : decode cX5_takeCells 47 = .ok (.invokestatic 163, 3) := by decide +kernel
theorem dX5_takeCells_50 : decode cX5_takeCells 50 = .ok (.istore 4, 2) := by decide +kernel
theorem dX5_takeCells_52 : decode cX5_takeCells 52 = .ok (.iload 4, 2) := by decide +kernel
theorem dX5_takeCells_54 : decode cX5_takeCells 54 = .ok (.iconst (-1), 1) := by decide +kernel
theorem dX5_takeCells_55 : decode cX5_takeCells 55 = .ok (.if_icmp .ne 5, 3) := by decide +kernel
theorem dX5_takeCells_58 : decode cX5_takeCells 58 = .ok (.iconst 0, 1) := by decide +kernel
theorem dX5_takeCells_59 : decode cX5_takeCells 59 = .ok (.ireturn, 1) := by decide +kernel
theorem dX5_takeCells_60 : decode cX5_takeCells 60 = .ok (.aload_n 1, 1) := by decide +kernel
theorem dX5_takeCells_61 : decode cX5_takeCells 61 = .ok (.getfield 167, 3) := by decide +kernel
theorem dX5_takeCells_64 : decode cX5_takeCells 64 = .ok (.iload_n 3, 1) := by decide +kernel
theorem dX5_takeCells_65 : decode cX5_takeCells 65 = .ok (.iload_n 2, 1) := by decide +kernel
theorem dX5_takeCells_66 : decode cX5_takeCells 66 = .ok (.invokestatic 123, 3) := by decide +kernel
theorem dX5_takeCells_69 : decode cX5_takeCells 69 = .ok (.iload 4, 2) := by decide +kernel
theorem dX5_takeCells_71 : decode cX5_takeCells 71 = .ok (.iastore, 1) := by decide +kernel
theorem dX5_takeCells_72 : decode cX5_takeCells 72 = .ok (.iinc 3 1, 3) := by decide +kernel
theorem dX5_takeCells_75 : decode cX5_takeCells 75 = .ok (.goto (-47), 3) := by decide +kernel
theorem dX5_takeCells_78 : decode cX5_takeCells 78 = .ok (.aload_n 0, 1) := by decide +kernel
theorem dX5_takeCells_79 : decode cX5_takeCells 79 = .ok (.invokevirtual 35, 3) := by decide +kernel
theorem dX5_takeCells_82 : decode cX5_takeCells 82 = .ok (.iconst 1, 1) := by decide +kernel
theorem dX5_takeCells_83 : decode cX5_takeCells 83 = .ok (.ireturn, 1) := by decide +kernel
theorem tX5_takeCells {L : Nat} {xs : Nat → Int32} {N : Nat} : z_AllE (zE L xs N 196) 0 (kX5_takeCells N) :=
  z_ac (j := 1) rfl (z_eI (sp_aload_n (q := 0) dX5_takeCells_0 rfl rfl)) <|
  z_ac (j := 2) rfl (z_eI (sp_getf (C := RX5) (T := TX5) (Nf := 7) dX5_takeCells_1 rfl inX5 (by decide) wf_251 rfl)) <|
  z_ac (j := 3) rfl (z_eI (sp_iconst dX5_takeCells_4 (by decide +kernel) rfl)) <|
  z_ac (j := 4) rfl (z_eI (sp_icmp_ne dX5_takeCells_5 rfl rfl)) <|
  z_ac (j := 5) rfl (z_eI (sp_aload_n (q := 0) dX5_takeCells_8 rfl rfl)) <|
  z_ac (j := 6) rfl (z_eI (sp_getf (C := RX5) (T := TX5) (Nf := 7) dX5_takeCells_9 rfl inX5 (by decide) wf_250 rfl)) <|
  z_ac (j := 7) rfl (z_eI (sp_aload_n (q := 0) dX5_takeCells_12 rfl rfl)) <|
  z_ac (j := 8) rfl (z_eI (sp_getf (C := RX5) (T := TX5) (Nf := 7) dX5_takeCells_13 rfl inX5 (by decide) wf_249 rfl)) <|
  z_ac (j := 9) rfl (z_eI (sp_isub dX5_takeCells_16 rfl)) <|
  z_ac (j := 10) rfl (z_eI (sp_aload_n (q := 1) dX5_takeCells_17 rfl rfl)) <|
  z_ac (j := 11) rfl (z_eI (sp_getf (C := RX1) (T := TX1) (Nf := 3) dX5_takeCells_18 rfl inX1 (by decide) wf_84 rfl)) <|
  z_ac (j := 12) rfl (z_eI (sp_icmp_eq dX5_takeCells_21 rfl rfl)) <|
  z_ac (j := 13) rfl (z_eI (sp_iconst dX5_takeCells_24 (by decide +kernel) rfl)) <|
  z_ac (j := 14) rfl (z_eR (sr_bool dX5_takeCells_25 rfl)) <|
  z_ac (j := 15) rfl (z_eI (sp_iconst dX5_takeCells_26 (by decide +kernel) rfl)) <|
  z_ac (j := 16) rfl (z_eI (sp_istore_n (q := 3) dX5_takeCells_27 rfl (by decide) (fun _ _ => rfl) rfl)) <|
  z_ac (j := 17) rfl (z_eI (sp_iload_n (q := 3) dX5_takeCells_28 rfl rfl)) <|
  z_ac (j := 18) rfl (z_eI (sp_aload_n (q := 1) dX5_takeCells_29 rfl rfl)) <|
  z_ac (j := 19) rfl (z_eI (sp_getf (C := RX1) (T := TX1) (Nf := 3) dX5_takeCells_30 rfl inX1 (by decide) wf_84 rfl)) <|
  z_ac (j := 20) rfl (z_eI (sp_icmp_ge dX5_takeCells_33 rfl rfl)) <|
  z_ac (j := 21) rfl (z_eI (sp_aload_n (q := 0) dX5_takeCells_36 rfl rfl)) <|
  z_ac (j := 22) rfl (z_eI (sp_getf (C := RX5) (T := TX5) (Nf := 7) dX5_takeCells_37 rfl inX5 (by decide) wf_248 rfl)) <|
  z_ac (j := 23) rfl (z_eI (sp_aload_n (q := 0) dX5_takeCells_40 rfl rfl)) <|
  z_ac (j := 24) rfl (z_eI (sp_getf (C := RX5) (T := TX5) (Nf := 7) dX5_takeCells_41 rfl inX5 (by decide) wf_249 rfl)) <|
  z_ac (j := 25) rfl (z_eI (sp_iload_n (q := 3) dX5_takeCells_44 rfl rfl)) <|
  z_ac (j := 26) rfl (z_eI (sp_iadd dX5_takeCells_45 rfl)) <|
  z_ac (j := 27) rfl (z_eI (sp_bald dX5_takeCells_46 rfl)) <|
  z_ac (j := 28) rfl (z_cS dX5_takeCells_47 wl_419 qX5_groundOf (by decide +kernel) (z_sn rfl rfl) rfl) <|
  z_ac (j := 29) rfl (z_eI (sp_istore dX5_takeCells_50 (by decide) (fun _ _ => rfl) rfl)) <|
  z_ac (j := 30) rfl (z_eI (sp_iload dX5_takeCells_52 rfl)) <|
  z_ac (j := 31) rfl (z_eI (sp_iconst dX5_takeCells_54 (by decide +kernel) rfl)) <|
  z_ac (j := 32) rfl (z_eI (sp_icmp_ne dX5_takeCells_55 rfl rfl)) <|
  z_ac (j := 33) rfl (z_eI (sp_iconst dX5_takeCells_58 (by decide +kernel) rfl)) <|
  z_ac (j := 34) rfl (z_eR (sr_bool dX5_takeCells_59 rfl)) <|
  z_ac (j := 35) rfl (z_eI (sp_aload_n (q := 1) dX5_takeCells_60 rfl rfl)) <|
  z_ac (j := 36) rfl (z_eI (sp_getf (C := RX1) (T := TX1) (Nf := 3) dX5_takeCells_61 rfl inX1 (by decide) wf_95 rfl)) <|
  z_ac (j := 37) rfl (z_eI (sp_iload_n (q := 3) dX5_takeCells_64 rfl rfl)) <|
  z_ac (j := 38) rfl (z_eI (sp_iload_n (q := 2) dX5_takeCells_65 rfl rfl)) <|
  z_ac (j := 39) rfl (z_cN (host := "FalseLightMarsh") dX5_takeCells_66 (by decide +kernel) qX8_cellAt (by decide +kernel) (z_sn rfl rfl) rfl) <|
  z_ac (j := 40) rfl (z_eI (sp_iload dX5_takeCells_69 rfl)) <|
  z_ac (j := 41) rfl (z_eI (sp_iast dX5_takeCells_71 rfl)) <|
  z_ac (j := 42) rfl (z_eI (sp_iinc dX5_takeCells_72 (by decide +kernel) (by decide) (fun _ _ => rfl) rfl)) <|
  z_ac (j := 43) rfl (z_eI (sp_goto dX5_takeCells_75 rfl)) <|
  z_ac (j := 44) rfl (z_eI (sp_aload_n (q := 0) dX5_takeCells_78 rfl rfl)) <|
  z_ac (j := 45) rfl (z_cV dX5_takeCells_79 wl_366 qX5_scan (by decide +kernel) ⟨_, _, rfl⟩ (z_sn rfl rfl) rfl) <|
  z_ac (j := 46) rfl (z_eI (sp_iconst dX5_takeCells_82 (by decide +kernel) rfl)) <|
  z_ac (j := 47) rfl (z_eR (sr_bool dX5_takeCells_83 rfl)) <| z_an
theorem dX5_groundOf_0 : decode cX5_groundOf 0 = .ok (.iload_n 0, 1) := by decide +kernel
theorem dX5_groundOf_1 : decode cX5_groundOf 1 = .ok (.lookupswitch 53 #[(102, 43), (104, 48), (112, 51), (119, 46)], 43) := by decide +kernel
theorem dX5_groundOf_44 : decode cX5_groundOf 44 = .ok (.bipush 10, 2) := by decide +kernel
theorem dX5_groundOf_46 : decode cX5_groundOf 46 = .ok (.ireturn, 1) := by decide +kernel
theorem dX5_groundOf_47 : decode cX5_groundOf 47 = .ok (.iconst 0, 1) := by decide +kernel
theorem dX5_groundOf_48 : decode cX5_groundOf 48 = .ok (.ireturn, 1) := by decide +kernel
theorem dX5_groundOf_49 : decode cX5_groundOf 49 = .ok (.bipush 11, 2) := by decide +kernel
theorem dX5_groundOf_51 : decode cX5_groundOf 51 = .ok (.ireturn, 1) := by decide +kernel
theorem dX5_groundOf_52 : decode cX5_groundOf 52 = .ok (.iconst 3, 1) := by decide +kernel
theorem dX5_groundOf_53 : decode cX5_groundOf 53 = .ok (.ireturn, 1) := by decide +kernel
theorem dX5_groundOf_54 : decode cX5_groundOf 54 = .ok (.iconst (-1), 1) := by decide +kernel
theorem dX5_groundOf_55 : decode cX5_groundOf 55 = .ok (.ireturn, 1) := by decide +kernel
theorem tX5_groundOf {L : Nat} {xs : Nat → Int32} {N : Nat} : z_AllE (zE L xs N 197) 0 (kX5_groundOf N) :=
  z_ac (j := 1) rfl (z_eI (sp_iload_n (q := 0) dX5_groundOf_0 rfl rfl)) <|
  z_ac (j := 2) rfl (z_eI (sp_lsw dX5_groundOf_1 (by decide +kernel) (by intro z; change ((zP 197 1 : Nat) : Int) + (if (102 : Int) = z then (43 : Int) else if (104 : Int) = z then (48 : Int) else if (112 : Int) = z then (51 : Int) else if (119 : Int) = z then (46 : Int) else (53 : Int)) = ((zP 197 (if (102 : Int) = z then 2 else if (104 : Int) = z then 6 else if (112 : Int) = z then 8 else if (119 : Int) = z then 4 else 10) : Nat) : Int); (repeat' split) <;> rfl))) <|
  z_ac (j := 3) rfl (z_eI (sp_bipush dX5_groundOf_44 (by decide +kernel) rfl)) <|
  z_ac (j := 4) rfl (z_eR (sr_int dX5_groundOf_46 rfl)) <|
  z_ac (j := 5) rfl (z_eI (sp_iconst dX5_groundOf_47 (by decide +kernel) rfl)) <|
  z_ac (j := 6) rfl (z_eR (sr_int dX5_groundOf_48 rfl)) <|
  z_ac (j := 7) rfl (z_eI (sp_bipush dX5_groundOf_49 (by decide +kernel) rfl)) <|
  z_ac (j := 8) rfl (z_eR (sr_int dX5_groundOf_51 rfl)) <|
  z_ac (j := 9) rfl (z_eI (sp_iconst dX5_groundOf_52 (by decide +kernel) rfl)) <|
  z_ac (j := 10) rfl (z_eR (sr_int dX5_groundOf_53 rfl)) <|
  z_ac (j := 11) rfl (z_eI (sp_iconst dX5_groundOf_54 (by decide +kernel) rfl)) <|
  z_ac (j := 12) rfl (z_eR (sr_int dX5_groundOf_55 rfl)) <| z_an
