/-! Each entry of the tables is sound (printed by wip/whole/gen12.py). -/
theorem dX9_acts_0 : decode cX9_acts 0 = .ok (.aload_n 1, 1) := by decide +kernel
theorem dX9_acts_1 : decode cX9_acts 1 = .ok (.iload_n 2, 1) := by decide +kernel
theorem dX9_acts_2 : decode cX9_acts 2 = .ok (.iconst 3, 1) := by decide +kernel
theorem dX9_acts_3 : decode cX9_acts 3 = .ok (.invokestatic 95, 3) := by decide +kernel
theorem dX9_acts_6 : decode cX9_acts 6 = .ok (.iaload, 1) := by decide +kernel
theorem dX9_acts_7 : decode cX9_acts 7 = .ok (.ifCond .ge 15, 3) := by decide +kernel
theorem dX9_acts_10 : decode cX9_acts 10 = .ok (.aload_n 1, 1) := by decide +kernel
theorem dX9_acts_11 : decode cX9_acts 11 = .ok (.iload_n 2, 1) := by decide +kernel
theorem dX9_acts_12 : decode cX9_acts 12 = .ok (.iconst 3, 1) := by decide +kernel
theorem dX9_acts_13 : decode cX9_acts 13 = .ok (.invokestatic 95, 3) := by decide +kernel
theorem dX9_acts_16 : decode cX9_acts 16 = .ok (.aload_n 1, 1) := by decide +kernel
theorem dX9_acts_17 : decode cX9_acts 17 = .ok (.iload_n 2, 1) := by decide +kernel
theorem dX9_acts_18 : decode cX9_acts 18 = .ok (.invokestatic 142, 3) := by decide +kernel
theorem dX9_acts_21 : decode cX9_acts 21 = .ok (.iastore, 1) := by decide +kernel
theorem dX9_acts_22 : decode cX9_acts 22 = .ok (.aload_n 1, 1) := by decide +kernel
theorem dX9_acts_23 : decode cX9_acts 23 = .ok (.iload_n 2, 1) := by decide +kernel
theorem dX9_acts_24 : decode cX9_acts 24 = .ok (.iconst 3, 1) := by decide +kernel
theorem dX9_acts_25 : decode cX9_acts 25 = .ok (.invokestatic 95, 3) := by decide +kernel
theorem dX9_acts_28 : decode cX9_acts 28 = .ok (.iaload, 1) := by decide +kernel
theorem dX9_acts_29 : decode cX9_acts 29 = .ok (.istore_n 3, 1) := by decide +kernel
theorem dX9_acts_30 : decode cX9_acts 30 = .ok (.iload_n 3, 1) := by decide +kernel
theorem dX9_acts_31 : decode cX9_acts 31 = .ok (.ifCond .ge 4, 3) := by decide +kernel
theorem dX9_acts_34 : decode cX9_acts 34 = .ok (.return_, 1) := by decide +kernel
theorem dX9_acts_35 : decode cX9_acts 35 = .ok (.aload_n 1, 1) := by decide +kernel
theorem dX9_acts_36 : decode cX9_acts 36 = .ok (.iload_n 2, 1) := by decide +kernel
theorem dX9_acts_37 : decode cX9_acts 37 = .ok (.iload_n 3, 1) := by decide +kernel
theorem dX9_acts_38 : decode cX9_acts 38 = .ok (.invokestatic 146, 3) := by decide +kernel
theorem dX9_acts_41 : decode cX9_acts 41 = .ok (.ifCond .ne 25, 3) := by decide +kernel
theorem dX9_acts_44 : decode cX9_acts 44 = .ok (.aload_n 0, 1) := by decide +kernel
theorem dX9_acts_45 : decode cX9_acts 45 = .ok (.aload_n 1, 1) := by decide +kernel
theorem dX9_acts_46 : decode cX9_acts 46 = .ok (.iload_n 2, 1) := by decide +kernel
theorem dX9_acts_47 : decode cX9_acts 47 = .ok (.iload_n 3, 1) := by decide +kernel
theorem dX9_acts_48 : decode cX9_acts 48 = .ok (.invokevirtual 149, 3) := by decide +kernel
theorem dX9_acts_51 : decode cX9_acts 51 = .ok (.ifCond .ne 15, 3) := by decide +kernel
theorem dX9_acts_54 : decode cX9_acts 54 = .ok (.aload_n 1, 1) := by decide +kernel
theorem dX9_acts_55 : decode cX9_acts 55 = .ok (.iload_n 2, 1) := by decide +kernel
theorem dX9_acts_56 : decode cX9_acts 56 = .ok (.iload_n 3, 1) := by decide +kernel
theorem dX9_acts_57 : decode cX9_acts 57 = .ok (.invokestatic 139, 3) := by decide +kernel
theorem dX9_acts_60 : decode cX9_acts 60 = .ok (.aload_n 1, 1) := by decide +kernel
theorem dX9_acts_61 : decode cX9_acts 61 = .ok (.iload_n 2, 1) := by decide +kernel
theorem dX9_acts_62 : decode cX9_acts 62 = .ok (.invokestatic 135, 3) := by decide +kernel
theorem dX9_acts_65 : decode cX9_acts 65 = .ok (.return_, 1) := by decide +kernel
theorem dX9_acts_66 : decode cX9_acts 66 = .ok (.aload_n 1, 1) := by decide +kernel
theorem dX9_acts_67 : decode cX9_acts 67 = .ok (.aload_n 1, 1) := by decide +kernel
theorem dX9_acts_68 : decode cX9_acts 68 = .ok (.iload_n 2, 1) := by decide +kernel
theorem dX9_acts_69 : decode cX9_acts 69 = .ok (.iconst 0, 1) := by decide +kernel
theorem dX9_acts_70 : decode cX9_acts 70 = .ok (.invokestatic 95, 3) := by decide +kernel
theorem dX9_acts_73 : decode cX9_acts 73 = .ok (.iaload, 1) := by decide +kernel
theorem dX9_acts_74 : decode cX9_acts 74 = .ok (.aload_n 1, 1) := by decide +kernel
theorem dX9_acts_75 : decode cX9_acts 75 = .ok (.iload_n 2, 1) := by decide +kernel
theorem dX9_acts_76 : decode cX9_acts 76 = .ok (.iconst 1, 1) := by decide +kernel
theorem dX9_acts_77 : decode cX9_acts 77 = .ok (.invokestatic 95, 3) := by decide +kernel
theorem dX9_acts_80 : decode cX9_acts 80 = .ok (.iaload, 1) := by decide +kernel
theorem dX9_acts_81 : decode cX9_acts 81 = .ok (.invokestatic 45, 3) := by decide +kernel
theorem dX9_acts_84 : decode cX9_acts 84 = .ok (.iaload, 1) := by decide +kernel
theorem dX9_acts_85 : decode cX9_acts 85 = .ok (.iconst 2, 1) := by decide +kernel
theorem dX9_acts_86 : decode cX9_acts 86 = .ok (.if_icmp .ne 19, 3) := by decide +kernel
theorem dX9_acts_89 : decode cX9_acts 89 = .ok (.aload_n 1, 1) := by decide +kernel
theorem dX9_acts_90 : decode cX9_acts 90 = .ok (.iload_n 2, 1) := by decide +kernel
theorem dX9_acts_91 : decode cX9_acts 91 = .ok (.iconst 2, 1) := by decide +kernel
theorem dX9_acts_92 : decode cX9_acts 92 = .ok (.invokestatic 95, 3) := by decide +kernel
theorem dX9_acts_95 : decode cX9_acts 95 = .ok (.iconst 1, 1) := by decide +kernel
theorem dX9_acts_96 : decode cX9_acts 96 = .ok (.iastore, 1) := by decide +kernel
theorem dX9_acts_97 : decode cX9_acts 97 = .ok (.aload_n 1, 1) := by decide +kernel
theorem dX9_acts_98 : decode cX9_acts 98 = .ok (.iload_n 2, 1) := by decide +kernel
theorem dX9_acts_99 : decode cX9_acts 99 = .ok (.invokestatic 135, 3) := by decide +kernel
theorem dX9_acts_102 : decode cX9_acts 102 = .ok (.goto 37, 3) := by decide +kernel
theorem dX9_acts_105 : decode cX9_acts 105 = .ok (.aload_n 1, 1) := by decide +kernel
theorem dX9_acts_106 : decode cX9_acts 106 = .ok (.iload_n 2, 1) := by decide +kernel
theorem dX9_acts_107 : decode cX9_acts 107 = .ok (.iload_n 3, 1) := by decide +kernel
theorem dX9_acts_108 : decode cX9_acts 108 = .ok (.invokestatic 146, 3) := by decide +kernel
theorem dX9_acts_111 : decode cX9_acts 111 = .ok (.ifCond .eq 28, 3) := by decide +kernel
theorem dX9_acts_114 : decode cX9_acts 114 = .ok (.aload_n 1, 1) := by decide +kernel
theorem dX9_acts_115 : decode cX9_acts 115 = .ok (.iload_n 3, 1) := by decide +kernel
theorem dX9_acts_116 : decode cX9_acts 116 = .ok (.iconst 3, 1) := by decide +kernel
theorem dX9_acts_117 : decode cX9_acts 117 = .ok (.invokestatic 101, 3) := by decide +kernel
theorem dX9_acts_120 : decode cX9_acts 120 = .ok (.iaload, 1) := by decide +kernel
theorem dX9_acts_121 : decode cX9_acts 121 = .ok (.ifCond .ne 12, 3) := by decide +kernel
theorem dX9_acts_124 : decode cX9_acts 124 = .ok (.aload_n 1, 1) := by decide +kernel
theorem dX9_acts_125 : decode cX9_acts 125 = .ok (.iload_n 2, 1) := by decide +kernel
theorem dX9_acts_126 : decode cX9_acts 126 = .ok (.iload_n 3, 1) := by decide +kernel
theorem dX9_acts_127 : decode cX9_acts 127 = .ok (.invokestatic 152, 3) := by decide +kernel
theorem dX9_acts_130 : decode cX9_acts 130 = .ok (.goto 9, 3) := by decide +kernel
theorem dX9_acts_133 : decode cX9_acts 133 = .ok (.aload_n 1, 1) := by decide +kernel
theorem dX9_acts_134 : decode cX9_acts 134 = .ok (.iload_n 2, 1) := by decide +kernel
theorem dX9_acts_135 : decode cX9_acts 135 = .ok (.iload_n 3, 1) := by decide +kernel
theorem dX9_acts_136 : decode cX9_acts 136 = .ok (.invokestatic 155, 3) := by decide +kernel
theorem dX9_acts_139 : decode cX9_acts 139 = .ok (.return_, 1) := by decide +kernel
theorem tX9_acts {L : Nat} {xs : Nat → Int32} {N : Nat} : z_AllE (zE L xs N 40) 0 (kX9_acts N) :=
  z_ac (j := 1) rfl (z_eI (sp_aload_n (q := 1) dX9_acts_0 rfl rfl)) <|
  z_ac (j := 2) rfl (z_eI (sp_iload_n (q := 2) dX9_acts_1 rfl rfl)) <|
  z_ac (j := 3) rfl (z_eI (sp_iconst dX9_acts_2 (by decide +kernel) rfl)) <|
  z_ac (j := 4) rfl (z_cS dX9_acts_3 wl_1521 qX9_walkerAt (by decide +kernel) (z_sn rfl rfl) rfl) <|
  z_ac (j := 5) rfl (z_eI (sp_iald dX9_acts_6 rfl)) <|
  z_ac (j := 6) rfl (z_eI (sp_if_ge dX9_acts_7 rfl rfl)) <|
  z_ac (j := 7) rfl (z_eI (sp_aload_n (q := 1) dX9_acts_10 rfl rfl)) <|
  z_ac (j := 8) rfl (z_eI (sp_iload_n (q := 2) dX9_acts_11 rfl rfl)) <|
  z_ac (j := 9) rfl (z_eI (sp_iconst dX9_acts_12 (by decide +kernel) rfl)) <|
  z_ac (j := 10) rfl (z_cS dX9_acts_13 wl_1521 qX9_walkerAt (by decide +kernel) (z_sn rfl rfl) rfl) <|
  z_ac (j := 11) rfl (z_eI (sp_aload_n (q := 1) dX9_acts_16 rfl rfl)) <|
  z_ac (j := 12) rfl (z_eI (sp_iload_n (q := 2) dX9_acts_17 rfl rfl)) <|
  z_ac (j := 13) rfl (z_cS dX9_acts_18 wl_1772 qX9_nearestOf (by decide +kernel) (z_sn rfl rfl) rfl) <|
  z_ac (j := 14) rfl (z_eI (sp_iast dX9_acts_21 rfl)) <|
  z_ac (j := 15) rfl (z_eI (sp_aload_n (q := 1) dX9_acts_22 rfl rfl)) <|
  z_ac (j := 16) rfl (z_eI (sp_iload_n (q := 2) dX9_acts_23 rfl rfl)) <|
  z_ac (j := 17) rfl (z_eI (sp_iconst dX9_acts_24 (by decide +kernel) rfl)) <|
  z_ac (j := 18) rfl (z_cS dX9_acts_25 wl_1521 qX9_walkerAt (by decide +kernel) (z_sn rfl rfl) rfl) <|
  z_ac (j := 19) rfl (z_eI (sp_iald dX9_acts_28 rfl)) <|
  z_ac (j := 20) rfl (z_eI (sp_istore_n (q := 3) dX9_acts_29 rfl (by decide) (fun _ _ => rfl) rfl)) <|
  z_ac (j := 21) rfl (z_eI (sp_iload_n (q := 3) dX9_acts_30 rfl rfl)) <|
  z_ac (j := 22) rfl (z_eI (sp_if_ge dX9_acts_31 rfl rfl)) <|
  z_ac (j := 23) rfl (z_eW (sv_void dX9_acts_34 rfl)) <|
  z_ac (j := 24) rfl (z_eI (sp_aload_n (q := 1) dX9_acts_35 rfl rfl)) <|
  z_ac (j := 25) rfl (z_eI (sp_iload_n (q := 2) dX9_acts_36 rfl rfl)) <|
  z_ac (j := 26) rfl (z_eI (sp_iload_n (q := 3) dX9_acts_37 rfl rfl)) <|
  z_ac (j := 27) rfl (z_cS dX9_acts_38 wl_1817 qX9_isOn (by decide +kernel) (z_sn rfl rfl) rfl) <|
  z_ac (j := 28) rfl (z_eI (sp_if_ne dX9_acts_41 rfl rfl)) <|
  z_ac (j := 29) rfl (z_eI (sp_aload_n (q := 0) dX9_acts_44 rfl rfl)) <|
  z_ac (j := 30) rfl (z_eI (sp_aload_n (q := 1) dX9_acts_45 rfl rfl)) <|
  z_ac (j := 31) rfl (z_eI (sp_iload_n (q := 2) dX9_acts_46 rfl rfl)) <|
  z_ac (j := 32) rfl (z_eI (sp_iload_n (q := 3) dX9_acts_47 rfl rfl)) <|
  z_ac (j := 33) rfl (z_cV dX9_acts_48 wl_1820 qX9_moves (by decide +kernel) ⟨_, _, rfl⟩ (z_sn rfl rfl) rfl) <|
  z_ac (j := 34) rfl (z_eI (sp_if_ne dX9_acts_51 rfl rfl)) <|
  z_ac (j := 35) rfl (z_eI (sp_aload_n (q := 1) dX9_acts_54 rfl rfl)) <|
  z_ac (j := 36) rfl (z_eI (sp_iload_n (q := 2) dX9_acts_55 rfl rfl)) <|
  z_ac (j := 37) rfl (z_eI (sp_iload_n (q := 3) dX9_acts_56 rfl rfl)) <|
  z_ac (j := 38) rfl (z_cS dX9_acts_57 wl_1827 qX9_passes (by decide +kernel) (z_sn rfl rfl) rfl) <|
  z_ac (j := 39) rfl (z_eI (sp_aload_n (q := 1) dX9_acts_60 rfl rfl)) <|
  z_ac (j := 40) rfl (z_eI (sp_iload_n (q := 2) dX9_acts_61 rfl rfl)) <|
  z_ac (j := 41) rfl (z_cS dX9_acts_62 wl_1830 qX9_forgetsTarget (by decide +kernel) (z_sn rfl rfl) rfl) <|
  z_ac (j := 42) rfl (z_eW (sv_void dX9_acts_65 rfl)) <|
  z_ac (j := 43) rfl (z_eI (sp_aload_n (q := 1) dX9_acts_66 rfl rfl)) <|
  z_ac (j := 44) rfl (z_eI (sp_aload_n (q := 1) dX9_acts_67 rfl rfl)) <|
  z_ac (j := 45) rfl (z_eI (sp_iload_n (q := 2) dX9_acts_68 rfl rfl)) <|
  z_ac (j := 46) rfl (z_eI (sp_iconst dX9_acts_69 (by decide +kernel) rfl)) <|
  z_ac (j := 47) rfl (z_cS dX9_acts_70 wl_1521 qX9_walkerAt (by decide +kernel) (z_sn rfl rfl) rfl) <|
  z_ac (j := 48) rfl (z_eI (sp_iald dX9_acts_73 rfl)) <|
  z_ac (j := 49) rfl (z_eI (sp_aload_n (q := 1) dX9_acts_74 rfl rfl)) <|
  z_ac (j := 50) rfl (z_eI (sp_iload_n (q := 2) dX9_acts_75 rfl rfl)) <|
  z_ac (j := 51) rfl (z_eI (sp_iconst dX9_acts_76 (by decide +kernel) rfl)) <|
  z_ac (j := 52) rfl (z_cS dX9_acts_77 wl_1521 qX9_walkerAt (by decide +kernel) (z_sn rfl rfl) rfl) <|
  z_ac (j := 53) rfl (z_eI (sp_iald dX9_acts_80 rfl)) <|
  z_ac (j := 54) rfl (z_cS dX9_acts_81 wl_1343 qX9_cellAt (by decide +kernel) (z_sn rfl rfl) rfl) <|
  z_ac (j := 55) rfl (z_eI (sp_iald dX9_acts_84 rfl)) <|
  z_ac (j := 56) rfl (z_eI (sp_iconst dX9_acts_85 (by decide +kernel) rfl)) <|
  z_ac (j := 57) rfl (z_eI (sp_icmp_ne dX9_acts_86 rfl rfl)) <|
  z_ac (j := 58) rfl (z_eI (sp_aload_n (q := 1) dX9_acts_89 rfl rfl)) <|
  z_ac (j := 59) rfl (z_eI (sp_iload_n (q := 2) dX9_acts_90 rfl rfl)) <|
  z_ac (j := 60) rfl (z_eI (sp_iconst dX9_acts_91 (by decide +kernel) rfl)) <|
  z_ac (j := 61) rfl (z_cS dX9_acts_92 wl_1521 qX9_walkerAt (by decide +kernel) (z_sn rfl rfl) rfl) <|
  z_ac (j := 62) rfl (z_eI (sp_iconst dX9_acts_95 (by decide +kernel) rfl)) <|
  z_ac (j := 63) rfl (z_eI (sp_iast dX9_acts_96 rfl)) <|
  z_ac (j := 64) rfl (z_eI (sp_aload_n (q := 1) dX9_acts_97 rfl rfl)) <|
  z_ac (j := 65) rfl (z_eI (sp_iload_n (q := 2) dX9_acts_98 rfl rfl)) <|
  z_ac (j := 66) rfl (z_cS dX9_acts_99 wl_1830 qX9_forgetsTarget (by decide +kernel) (z_sn rfl rfl) rfl) <|
  z_ac (j := 67) rfl (z_eI (sp_goto dX9_acts_102 rfl)) <|
  z_ac (j := 68) rfl (z_eI (sp_aload_n (q := 1) dX9_acts_105 rfl rfl)) <|
  z_ac (j := 69) rfl (z_eI (sp_iload_n (q := 2) dX9_acts_106 rfl rfl)) <|
  z_ac (j := 70) rfl (z_eI (sp_iload_n (q := 3) dX9_acts_107 rfl rfl)) <|
  z_ac (j := 71) rfl (z_cS dX9_acts_108 wl_1817 qX9_isOn (by decide +kernel) (z_sn rfl rfl) rfl) <|
  z_ac (j := 72) rfl (z_eI (sp_if_eq dX9_acts_111 rfl rfl)) <|
  z_ac (j := 73) rfl (z_eI (sp_aload_n (q := 1) dX9_acts_114 rfl rfl)) <|
  z_ac (j := 74) rfl (z_eI (sp_iload_n (q := 3) dX9_acts_115 rfl rfl)) <|
  z_ac (j := 75) rfl (z_eI (sp_iconst dX9_acts_116 (by decide +kernel) rfl)) <|
  z_ac (j := 76) rfl (z_cS dX9_acts_117 wl_1504 qX9_lightAt (by decide +kernel) (z_sn rfl rfl) rfl) <|
  z_ac (j := 77) rfl (z_eI (sp_iald dX9_acts_120 rfl)) <|
  z_ac (j := 78) rfl (z_eI (sp_if_ne dX9_acts_121 rfl rfl)) <|
  z_ac (j := 79) rfl (z_eI (sp_aload_n (q := 1) dX9_acts_124 rfl rfl)) <|
  z_ac (j := 80) rfl (z_eI (sp_iload_n (q := 2) dX9_acts_125 rfl rfl)) <|
  z_ac (j := 81) rfl (z_eI (sp_iload_n (q := 3) dX9_acts_126 rfl rfl)) <|
  z_ac (j := 82) rfl (z_cS dX9_acts_127 wl_1833 qX9_sinks (by decide +kernel) (z_sn rfl rfl) rfl) <|
  z_ac (j := 83) rfl (z_eI (sp_goto dX9_acts_130 rfl)) <|
  z_ac (j := 84) rfl (z_eI (sp_aload_n (q := 1) dX9_acts_133 rfl rfl)) <|
  z_ac (j := 85) rfl (z_eI (sp_iload_n (q := 2) dX9_acts_134 rfl rfl)) <|
  z_ac (j := 86) rfl (z_eI (sp_iload_n (q := 3) dX9_acts_135 rfl rfl)) <|
  z_ac (j := 87) rfl (z_cS dX9_acts_136 wl_1836 qX9_goesOn (by decide +kernel) (z_sn rfl rfl) rfl) <|
  z_ac (j := 88) rfl (z_eW (sv_void dX9_acts_139 rfl)) <| z_an
theorem dX9_ticks_0 : decode cX9_ticks 0 = .ok (.aload_n 1, 1) := by decide +kernel
theorem dX9_ticks_1 : decode cX9_ticks 1 = .ok (.iconst 3, 1) := by decide +kernel
theorem dX9_ticks_2 : decode cX9_ticks 2 = .ok (.dup2, 1) := by decide +kernel
theorem dX9_ticks_3 : decode cX9_ticks 3 = .ok (.iaload, 1) := by decide +kernel
theorem dX9_ticks_4 : decode cX9_ticks 4 = .ok (.iconst 1, 1) := by decide +kernel
theorem dX9_ticks_5 : decode cX9_ticks 5 = .ok (.iadd, 1) := by decide +kernel
theorem dX9_ticks_6 : decode cX9_ticks 6 = .ok (.iastore, 1) := by decide +kernel
theorem dX9_ticks_7 : decode cX9_ticks 7 = .ok (.iconst 0, 1) := by decide +kernel
theorem dX9_ticks_8 : decode cX9_ticks 8 = .ok (.istore_n 2, 1) := by decide +kernel
theorem dX9_ticks_9 : decode cX9_ticks 9 = .ok (.iload_n 2, 1) := by decide +kernel
theorem dX9_ticks_10 : decode cX9_ticks 10 = .ok (.aload_n 1, 1) := by decide +kernel
theorem dX9_ticks_11 : decode cX9_ticks 11 = .ok (.iconst 5, 1) := by decide +kernel
theorem dX9_ticks_12 : decode cX9_ticks 12 = .ok (.iaload, 1) := by decide +kernel
theorem dX9_ticks_13 : decode cX9_ticks 13 = .ok (.if_icmp .ge 25, 3) := by decide +kernel
theorem dX9_ticks_16 : decode cX9_ticks 16 = .ok (.aload_n 1, 1) := by decide +kernel
theorem dX9_ticks_17 : decode cX9_ticks 17 = .ok (.iload_n 2, 1) := by decide +kernel
theorem dX9_ticks_18 : decode cX9_ticks 18 = .ok (.iconst 2, 1) := by decide +kernel
theorem dX9_ticks_19 : decode cX9_ticks 19 = .ok (.invokestatic 95, 3) := by decide +kernel
theorem dX9_ticks_22 : decode cX9_ticks 22 = .ok (.iaload, 1) := by decide +kernel
theorem dX9_ticks_23 : decode cX9_ticks 23 = .ok (.ifCond .ne 9, 3) := by decide +kernel
theorem dX9_ticks_26 : decode cX9_ticks 26 = .ok (.aload_n 0, 1) := by decide +kernel
theorem dX9_ticks_27 : decode cX9_ticks 27 = .ok (.aload_n 1, 1) := by decide +kernel
theorem dX9_ticks_28 : decode cX9_ticks 28 = .ok (.iload_n 2, 1) := by decide +kernel
theorem dX9_ticks_29 : decode cX9_ticks 29 = .ok (.invokevirtual 158, 3) := by decide +kernel
theorem dX9_ticks_32 : decode cX9_ticks 32 = .ok (.iinc 2 1, 3) := by decide +kernel
theorem dX9_ticks_35 : decode cX9_ticks 35 = .ok (.goto (-26), 3) := by decide +kernel
theorem dX9_ticks_38 : decode cX9_ticks 38 = .ok (.return_, 1) := by decide +kernel
theorem tX9_ticks {L : Nat} {xs : Nat → Int32} {N : Nat} : z_AllE (zE L xs N 41) 0 (kX9_ticks N) :=
  z_ac (j := 1) rfl (z_eI (sp_aload_n (q := 1) dX9_ticks_0 rfl rfl)) <|
  z_ac (j := 2) rfl (z_eI (sp_iconst dX9_ticks_1 (by decide +kernel) rfl)) <|
  z_ac (j := 3) rfl (z_eI (sp_dup2 dX9_ticks_2 rfl)) <|
  z_ac (j := 4) rfl (z_eI (sp_iald dX9_ticks_3 rfl)) <|
  z_ac (j := 5) rfl (z_eI (sp_iconst dX9_ticks_4 (by decide +kernel) rfl)) <|
  z_ac (j := 6) rfl (z_eI (sp_iadd dX9_ticks_5 rfl)) <|
  z_ac (j := 7) rfl (z_eI (sp_iast dX9_ticks_6 rfl)) <|
  z_ac (j := 8) rfl (z_eI (sp_iconst dX9_ticks_7 (by decide +kernel) rfl)) <|
  z_ac (j := 9) rfl (z_eI (sp_istore_n (q := 2) dX9_ticks_8 rfl (by decide) (fun _ _ => rfl) rfl)) <|
  z_ac (j := 10) rfl (z_eI (sp_iload_n (q := 2) dX9_ticks_9 rfl rfl)) <|
  z_ac (j := 11) rfl (z_eI (sp_aload_n (q := 1) dX9_ticks_10 rfl rfl)) <|
  z_ac (j := 12) rfl (z_eI (sp_iconst dX9_ticks_11 (by decide +kernel) rfl)) <|
  z_ac (j := 13) rfl (z_eI (sp_iald dX9_ticks_12 rfl)) <|
  z_ac (j := 14) rfl (z_eI (sp_icmp_ge dX9_ticks_13 rfl rfl)) <|
  z_ac (j := 15) rfl (z_eI (sp_aload_n (q := 1) dX9_ticks_16 rfl rfl)) <|
  z_ac (j := 16) rfl (z_eI (sp_iload_n (q := 2) dX9_ticks_17 rfl rfl)) <|
  z_ac (j := 17) rfl (z_eI (sp_iconst dX9_ticks_18 (by decide +kernel) rfl)) <|
  z_ac (j := 18) rfl (z_cS dX9_ticks_19 wl_1521 qX9_walkerAt (by decide +kernel) (z_sn rfl rfl) rfl) <|
  z_ac (j := 19) rfl (z_eI (sp_iald dX9_ticks_22 rfl)) <|
  z_ac (j := 20) rfl (z_eI (sp_if_ne dX9_ticks_23 rfl rfl)) <|
  z_ac (j := 21) rfl (z_eI (sp_aload_n (q := 0) dX9_ticks_26 rfl rfl)) <|
  z_ac (j := 22) rfl (z_eI (sp_aload_n (q := 1) dX9_ticks_27 rfl rfl)) <|
  z_ac (j := 23) rfl (z_eI (sp_iload_n (q := 2) dX9_ticks_28 rfl rfl)) <|
  z_ac (j := 24) rfl (z_cV dX9_ticks_29 wl_1813 qX9_acts (by decide +kernel) ⟨_, _, rfl⟩ (z_sn rfl rfl) rfl) <|
  z_ac (j := 25) rfl (z_eI (sp_iinc dX9_ticks_32 (by decide +kernel) (by decide) (fun _ _ => rfl) rfl)) <|
  z_ac (j := 26) rfl (z_eI (sp_goto dX9_ticks_35 rfl)) <|
  z_ac (j := 27) rfl (z_eW (sv_void dX9_ticks_38 rfl)) <| z_an
theorem dX9_ticksMany_0 : decode cX9_ticksMany 0 = .ok (.iconst 0, 1) := by decide +kernel
theorem dX9_ticksMany_1 : decode cX9_ticksMany 1 = .ok (.istore_n 3, 1) := by decide +kernel
theorem dX9_ticksMany_2 : decode cX9_ticksMany 2 = .ok (.iload_n 3, 1) := by decide +kernel
theorem dX9_ticksMany_3 : decode cX9_ticksMany 3 = .ok (.iload_n 2, 1) := by decide +kernel
theorem dX9_ticksMany_4 : decode cX9_ticksMany 4 = .ok (.if_icmp .ge 14, 3) := by decide +kernel
theorem dX9_ticksMany_7 : decode cX9_ticksMany 7 = .ok (.aload_n 0, 1) := by decide +kernel
theorem dX9_ticksMany_8 : decode cX9_ticksMany 8 = .ok (.aload_n 1, 1) := by decide +kernel
theorem dX9_ticksMany_9 : decode cX9_ticksMany 9 = .ok (.invokevirtual 161, 3) := by decide +kernel
theorem dX9_ticksMany_12 : decode cX9_ticksMany 12 = .ok (.iinc 3 1, 3) := by decide +kernel
theorem dX9_ticksMany_15 : decode cX9_ticksMany 15 = .ok (.goto (-13), 3) := by decide +kernel
theorem dX9_ticksMany_18 : decode cX9_ticksMany 18 = .ok (.return_, 1) := by decide +kernel
theorem tX9_ticksMany {L : Nat} {xs : Nat → Int32} {N : Nat} : z_AllE (zE L xs N 42) 0 (kX9_ticksMany N) :=
  z_ac (j := 1) rfl (z_eI (sp_iconst dX9_ticksMany_0 (by decide +kernel) rfl)) <|
  z_ac (j := 2) rfl (z_eI (sp_istore_n (q := 3) dX9_ticksMany_1 rfl (by decide) (fun _ _ => rfl) rfl)) <|
  z_ac (j := 3) rfl (z_eI (sp_iload_n (q := 3) dX9_ticksMany_2 rfl rfl)) <|
  z_ac (j := 4) rfl (z_eI (sp_iload_n (q := 2) dX9_ticksMany_3 rfl rfl)) <|
  z_ac (j := 5) rfl (z_eI (sp_icmp_ge dX9_ticksMany_4 rfl rfl)) <|
  z_ac (j := 6) rfl (z_eI (sp_aload_n (q := 0) dX9_ticksMany_7 rfl rfl)) <|
  z_ac (j := 7) rfl (z_eI (sp_aload_n (q := 1) dX9_ticksMany_8 rfl rfl)) <|
  z_ac (j := 8) rfl (z_cV dX9_ticksMany_9 wl_1809 qX9_ticks (by decide +kernel) ⟨_, _, rfl⟩ (z_sn rfl rfl) rfl) <|
  z_ac (j := 9) rfl (z_eI (sp_iinc dX9_ticksMany_12 (by decide +kernel) (by decide) (fun _ _ => rfl) rfl)) <|
  z_ac (j := 10) rfl (z_eI (sp_goto dX9_ticksMany_15 rfl)) <|
  z_ac (j := 11) rfl (z_eW (sv_void dX9_ticksMany_18 rfl)) <| z_an
theorem dX9_countOf_0 : decode cX9_countOf 0 = .ok (.iconst 0, 1) := by decide +kernel
theorem dX9_countOf_1 : decode cX9_countOf 1 = .ok (.istore_n 2, 1) := by decide +kernel
theorem dX9_countOf_2 : decode cX9_countOf 2 = .ok (.iconst 0, 1) := by decide +kernel
theorem dX9_countOf_3 : decode cX9_countOf 3 = .ok (.istore_n 3, 1) := by decide +kernel
theorem dX9_countOf_4 : decode cX9_countOf 4 = .ok (.iload_n 3, 1) := by decide +kernel
theorem dX9_countOf_5 : decode cX9_countOf 5 = .ok (.aload_n 0, 1) := by decide +kernel
theorem dX9_countOf_6 : decode cX9_countOf 6 = .ok (.iconst 5, 1) := by decide +kernel
theorem dX9_countOf_7 : decode cX9_countOf 7 = .ok (.iaload, 1) := by decide +kernel
theorem dX9_countOf_8 : decode cX9_countOf 8 = .ok (.if_icmp .ge 23, 3) := by decide +kernel
theorem dX9_countOf_11 : decode cX9_countOf 11 = .ok (.aload_n 0, 1) := by decide +kernel
theorem dX9_countOf_12 : decode cX9_countOf 12 = .ok (.iload_n 3, 1) := by decide +kernel
theorem dX9_countOf_13 : decode cX9_countOf 13 = .ok (.iconst 2, 1) := by decide +kernel
theorem dX9_countOf_14 : decode cX9_countOf 14 = .ok (.invokestatic 95, 3) := by decide +kernel
theorem dX9_countOf_17 : decode cX9_countOf 17 = .ok (.iaload, 1) := by decide +kernel
theorem dX9_countOf_18 : decode cX9_countOf 18 = .ok (.iload_n 1, 1) := by decide +kernel
theorem dX9_countOf_19 : decode cX9_countOf 19 = .ok (.if_icmp .ne 6, 3) := by decide +kernel
theorem dX9_countOf_22 : decode cX9_countOf 22 = .ok (.iinc 2 1, 3) := by decide +kernel
theorem dX9_countOf_25 : decode cX9_countOf 25 = .ok (.iinc 3 1, 3) := by decide +kernel
theorem dX9_countOf_28 : decode cX9_countOf 28 = .ok (.goto (-24), 3) := by decide +kernel
theorem dX9_countOf_31 : decode cX9_countOf 31 = .ok (.iload_n 2, 1) := by decide +kernel
theorem dX9_countOf_32 : decode cX9_countOf 32 = .ok (.ireturn, 1) := by decide +kernel
theorem tX9_countOf {L : Nat} {xs : Nat → Int32} {N : Nat} : z_AllE (zE L xs N 43) 0 (kX9_countOf N) :=
  z_ac (j := 1) rfl (z_eI (sp_iconst dX9_countOf_0 (by decide +kernel) rfl)) <|
  z_ac (j := 2) rfl (z_eI (sp_istore_n (q := 2) dX9_countOf_1 rfl (by decide) (fun _ _ => rfl) rfl)) <|
  z_ac (j := 3) rfl (z_eI (sp_iconst dX9_countOf_2 (by decide +kernel) rfl)) <|
  z_ac (j := 4) rfl (z_eI (sp_istore_n (q := 3) dX9_countOf_3 rfl (by decide) (fun _ _ => rfl) rfl)) <|
  z_ac (j := 5) rfl (z_eI (sp_iload_n (q := 3) dX9_countOf_4 rfl rfl)) <|
  z_ac (j := 6) rfl (z_eI (sp_aload_n (q := 0) dX9_countOf_5 rfl rfl)) <|
  z_ac (j := 7) rfl (z_eI (sp_iconst dX9_countOf_6 (by decide +kernel) rfl)) <|
  z_ac (j := 8) rfl (z_eI (sp_iald dX9_countOf_7 rfl)) <|
  z_ac (j := 9) rfl (z_eI (sp_icmp_ge dX9_countOf_8 rfl rfl)) <|
  z_ac (j := 10) rfl (z_eI (sp_aload_n (q := 0) dX9_countOf_11 rfl rfl)) <|
  z_ac (j := 11) rfl (z_eI (sp_iload_n (q := 3) dX9_countOf_12 rfl rfl)) <|
  z_ac (j := 12) rfl (z_eI (sp_iconst dX9_countOf_13 (by decide +kernel) rfl)) <|
  z_ac (j := 13) rfl (z_cS dX9_countOf_14 wl_1521 qX9_walkerAt (by decide +kernel) (z_sn rfl rfl) rfl) <|
  z_ac (j := 14) rfl (z_eI (sp_iald dX9_countOf_17 rfl)) <|
  z_ac (j := 15) rfl (z_eI (sp_iload_n (q := 1) dX9_countOf_18 rfl rfl)) <|
  z_ac (j := 16) rfl (z_eI (sp_icmp_ne dX9_countOf_19 rfl rfl)) <|
  z_ac (j := 17) rfl (z_eI (sp_iinc dX9_countOf_22 (by decide +kernel) (by decide) (fun _ _ => rfl) rfl)) <|
  z_ac (j := 18) rfl (z_eI (sp_iinc dX9_countOf_25 (by decide +kernel) (by decide) (fun _ _ => rfl) rfl)) <|
  z_ac (j := 19) rfl (z_eI (sp_goto dX9_countOf_28 rfl)) <|
  z_ac (j := 20) rfl (z_eI (sp_iload_n (q := 2) dX9_countOf_31 rfl rfl)) <|
  z_ac (j := 21) rfl (z_eR (sr_int dX9_countOf_32 rfl)) <| z_an
theorem dX9_append_0 : decode cX9_append 0 = .ok (.aload_n 0, 1) := by decide +kernel
theorem dX9_append_1 : decode cX9_append 1 = .ok (.iconst 0, 1) := by decide +kernel
theorem dX9_append_2 : decode cX9_append 2 = .ok (.putfield 49, 3) := by decide +kernel
theorem dX9_append_5 : decode cX9_append 5 = .ok (.aload_n 0, 1) := by decide +kernel
theorem dX9_append_6 : decode cX9_append 6 = .ok (.getfield 164, 3) := by decide +kernel
theorem dX9_append_9 : decode cX9_append 9 = .ok (.bipush 20, 2) := by decide +kernel
theorem dX9_append_11 : decode cX9_append 11 = .ok (.iadd, 1) := by decide +kernel
theorem dX9_append_12 : decode cX9_append 12 = .ok (.sipush 800, 3) := by decide +kernel
theorem dX9_append_15 : decode cX9_append 15 = .ok (.if_icmp .le 9, 3) := by decide +kernel
theorem dX9_append_18 : decode cX9_append 18 = .ok (.aload_n 0, 1) := by decide +kernel
theorem dX9_append_19 : decode cX9_append 19 = .ok (.iconst 1, 1) := by decide +kernel
theorem dX9_append_20 : decode cX9_append 20 = .ok (.invokevirtual 167, 3) := by decide +kernel
theorem dX9_append_23 : decode cX9_append 23 = .ok (.ireturn, 1) := by decide +kernel
theorem dX9_append_24 : decode cX9_append 24 = .ok (.iconst 0, 1) := by decide +kernel
theorem dX9_append_25 : decode cX9_append 25 = .ok (.istore 6, 2) := by decide +kernel
theorem dX9_append_27 : decode cX9_append 27 = .ok (.iload 6, 2) := by decide +kernel
theorem dX9_append_29 : decode cX9_append 29 = .ok (.bipush 20, 2) := by decide +kernel
theorem dX9_append_31 : decode cX9_append 31 = .ok (.if_icmp .ge 93, 3) := by decide +kernel
theorem dX9_append_34 : decode cX9_append 34 = .ok (.iload 6, 2) := by decide +kernel
theorem dX9_append_36 : decode cX9_append 36 = .ok (.iconst 4, 1) := by decide +kernel
theorem dX9_append_37 : decode cX9_append 37 = .ok (.if_icmp .ge 7, 3) := by decide +kernel
theorem dX9_append_40 : decode cX9_append 40 = .ok (.iload_n 1, 1) := by decide +kernel
theorem dX9_append_41 : decode cX9_append 41 = .ok (.goto 39, 3) := by decide +kernel
theorem dX9_append_44 : decode cX9_append 44 = .ok (.iload 6, 2) := by decide +kernel
theorem dX9_append_46 : decode cX9_append 46 = .ok (.bipush 8, 2) := by decide +kernel
theorem dX9_append_48 : decode cX9_append 48 = .ok (.if_icmp .ge 7, 3) := by decide +kernel
theorem dX9_append_51 : decode cX9_append 51 = .ok (.iload_n 2, 1) := by decide +kernel
theorem dX9_append_52 : decode cX9_append 52 = .ok (.goto 28, 3) := by decide +kernel
theorem dX9_append_55 : decode cX9_append 55 = .ok (.iload 6, 2) := by decide +kernel
theorem dX9_append_57 : decode cX9_append 57 = .ok (.bipush 12, 2) := by decide +kernel
theorem dX9_append_59 : decode cX9_append 59 = .ok (.if_icmp .ge 7, 3) := by decide +kernel
theorem dX9_append_62 : decode cX9_append 62 = .ok (.iload_n 3, 1) := by decide +kernel
theorem dX9_append_63 : decode cX9_append 63 = .ok (.goto 17, 3) := by decide +kernel
theorem dX9_append_66 : decode cX9_append 66 = .ok (.iload 6, 2) := by decide +kernel
theorem dX9_append_68 : decode cX9_append 68 = .ok (.bipush 16, 2) := by decide +kernel
theorem dX9_append_70 : decode cX9_append 70 = .ok (.if_icmp .ge 8, 3) := by decide +kernel
theorem dX9_append_73 : decode cX9_append 73 = .ok (.iload 4, 2) := by decide +kernel
theorem dX9_append_75 : decode cX9_append 75 = .ok (.goto 5, 3) := by decide +kernel
theorem dX9_append_78 : decode cX9_append 78 = .ok (.iload 5, 2) := by decide +kernel
theorem dX9_append_80 : decode cX9_append 80 = .ok (.istore 7, 2) := by decide +kernel
theorem dX9_append_82 : decode cX9_append 82 = .ok (.aload_n 0, 1) := by decide +kernel
theorem dX9_append_83 : decode cX9_append 83 = .ok (.getfield 29, 3) := by decide +kernel
theorem dX9_append_86 : decode cX9_append 86 = .ok (.aload_n 0, 1) := by decide +kernel
theorem dX9_append_87 : decode cX9_append 87 = .ok (.getfield 164, 3) := by decide +kernel
theorem dX9_append_90 : decode cX9_append 90 = .ok (.iload 7, 2) := by decide +kernel
theorem dX9_append_92 : decode cX9_append 92 = .ok (.bipush 24, 2) := by decide +kernel
theorem dX9_append_94 : decode cX9_append 94 = .ok (.bipush 8, 2) := by decide +kernel
theorem dX9_append_96 : decode cX9_append 96 = .ok (.iload 6, 2) := by decide +kernel
theorem dX9_append_98 : decode cX9_append 98 = .ok (.iconst 4, 1) := by decide +kernel
theorem dX9_append_99 : decode cX9_append 99 = .ok (.irem, 1) := by decide +kernel
theorem dX9_append_100 : decode cX9_append 100 = .ok (.imul, 1) := by decide +kernel
theorem dX9_append_101 : decode cX9_append 101 = .ok (.isub, 1) := by decide +kernel
theorem dX9_append_102 : decode cX9_append 102 = .ok (.ishr, 1) := by decide +kernel
theorem dX9_append_103 : decode cX9_append 103 = .ok (.sipush 255, 3) := by decide +kernel
theorem dX9_append_106 : decode cX9_append 106 = .ok (.iand, 1) := by decide +kernel
theorem dX9_append_107 : decode cX9_append 107 = .ok (.iastore, 1) := by decide +kernel
theorem dX9_append_108 : decode cX9_append 108 = .ok (.aload_n 0, 1) := by decide +kernel
theorem dX9_append_109 : decode cX9_append 109 = .ok (.dup, 1) := by decide +kernel
theorem dX9_append_110 : decode cX9_append 110 = .ok (.getfield 164, 3) := by decide +kernel
theorem dX9_append_113 : decode cX9_append 113 = .ok (.iconst 1, 1) := by decide +kernel
theorem dX9_append_114 : decode cX9_append 114 = .ok (.iadd, 1) := by decide +kernel
theorem dX9_append_115 : decode cX9_append 115 = .ok (.putfield 164, 3) := by decide +kernel
theorem dX9_append_118 : decode cX9_append 118 = .ok (.iinc 6 1, 3) := by decide +kernel
theorem dX9_append_121 : decode cX9_append 121 = .ok (.goto (-94), 3) := by decide +kernel
theorem dX9_append_124 : decode cX9_append 124 = .ok (.aload_n 0, 1) := by decide +kernel
theorem dX9_append_125 : decode cX9_append 125 = .ok (.getfield 164, 3) := by decide +kernel
theorem dX9_append_128 : decode cX9_append 128 = .ok (.ireturn, 1) := by decide +kernel
theorem tX9_append {L : Nat} {xs : Nat → Int32} {N : Nat} : z_AllE (zE L xs N 44) 0 (kX9_append N) :=
  z_ac (j := 1) rfl (z_eI (sp_aload_n (q := 0) dX9_append_0 rfl rfl)) <|
  z_ac (j := 2) rfl (z_eI (sp_iconst dX9_append_1 (by decide +kernel) rfl)) <|
  z_ac (j := 3) rfl (z_eI (sp_putI (C := RX9) (T := TX9) (Nf := 23) dX9_append_2 rfl inX9 tyX9_ok nmX9 (by decide) wf_1356 rfl (by decide +kernel) rfl)) <|
  z_ac (j := 4) rfl (z_eI (sp_aload_n (q := 0) dX9_append_5 rfl rfl)) <|
  z_ac (j := 5) rfl (z_eI (sp_getf (C := RX9) (T := TX9) (Nf := 23) dX9_append_6 rfl inX9 (by decide) wf_1354 rfl)) <|
  z_ac (j := 6) rfl (z_eI (sp_bipush dX9_append_9 (by decide +kernel) rfl)) <|
  z_ac (j := 7) rfl (z_eI (sp_iadd dX9_append_11 rfl)) <|
  z_ac (j := 8) rfl (z_eI (sp_sipush dX9_append_12 (by decide +kernel) rfl)) <|
  z_ac (j := 9) rfl (z_eI (sp_icmp_le dX9_append_15 rfl rfl)) <|
  z_ac (j := 10) rfl (z_eI (sp_aload_n (q := 0) dX9_append_18 rfl rfl)) <|
  z_ac (j := 11) rfl (z_eI (sp_iconst dX9_append_19 (by decide +kernel) rfl)) <|
  z_ac (j := 12) rfl (z_cV dX9_append_20 wl_1424 qX9_fails (by decide +kernel) ⟨_, _, rfl⟩ (z_sn rfl rfl) rfl) <|
  z_ac (j := 13) rfl (z_eR (sr_int dX9_append_23 rfl)) <|
  z_ac (j := 14) rfl (z_eI (sp_iconst dX9_append_24 (by decide +kernel) rfl)) <|
  z_ac (j := 15) rfl (z_eI (sp_istore dX9_append_25 (by decide) (fun _ _ => rfl) rfl)) <|
  z_ac (j := 16) rfl (z_eI (sp_iload dX9_append_27 rfl)) <|
  z_ac (j := 17) rfl (z_eI (sp_bipush dX9_append_29 (by decide +kernel) rfl)) <|
  z_ac (j := 18) rfl (z_eI (sp_icmp_ge dX9_append_31 rfl rfl)) <|
  z_ac (j := 19) rfl (z_eI (sp_iload dX9_append_34 rfl)) <|
  z_ac (j := 20) rfl (z_eI (sp_iconst dX9_append_36 (by decide +kernel) rfl)) <|
  z_ac (j := 21) rfl (z_eI (sp_icmp_ge dX9_append_37 rfl rfl)) <|
  z_ac (j := 22) rfl (z_eI (sp_iload_n (q := 1) dX9_append_40 rfl rfl)) <|
  z_ac (j := 23) rfl (z_eI (sp_goto dX9_append_41 rfl)) <|
  z_ac (j := 24) rfl (z_eI (sp_iload dX9_append_44 rfl)) <|
  z_ac (j := 25) rfl (z_eI (sp_bipush dX9_append_46 (by decide +kernel) rfl)) <|
  z_ac (j := 26) rfl (z_eI (sp_icmp_ge dX9_append_48 rfl rfl)) <|
  z_ac (j := 27) rfl (z_eI (sp_iload_n (q := 2) dX9_append_51 rfl rfl)) <|
  z_ac (j := 28) rfl (z_eI (sp_goto dX9_append_52 rfl)) <|
  z_ac (j := 29) rfl (z_eI (sp_iload dX9_append_55 rfl)) <|
  z_ac (j := 30) rfl (z_eI (sp_bipush dX9_append_57 (by decide +kernel) rfl)) <|
  z_ac (j := 31) rfl (z_eI (sp_icmp_ge dX9_append_59 rfl rfl)) <|
  z_ac (j := 32) rfl (z_eI (sp_iload_n (q := 3) dX9_append_62 rfl rfl)) <|
  z_ac (j := 33) rfl (z_eI (sp_goto dX9_append_63 rfl)) <|
  z_ac (j := 34) rfl (z_eI (sp_iload dX9_append_66 rfl)) <|
  z_ac (j := 35) rfl (z_eI (sp_bipush dX9_append_68 (by decide +kernel) rfl)) <|
  z_ac (j := 36) rfl (z_eI (sp_icmp_ge dX9_append_70 rfl rfl)) <|
  z_ac (j := 37) rfl (z_eI (sp_iload dX9_append_73 rfl)) <|
  z_ac (j := 38) rfl (z_eI (sp_goto dX9_append_75 rfl)) <|
  z_ac (j := 39) rfl (z_eI (sp_iload dX9_append_78 rfl)) <|
  z_ac (j := 40) rfl (z_eI (sp_istore dX9_append_80 (by decide) (fun _ _ => rfl) rfl)) <|
  z_ac (j := 41) rfl (z_eI (sp_aload_n (q := 0) dX9_append_82 rfl rfl)) <|
  z_ac (j := 42) rfl (z_eI (sp_getf (C := RX9) (T := TX9) (Nf := 23) dX9_append_83 rfl inX9 (by decide) wf_1353 rfl)) <|
  z_ac (j := 43) rfl (z_eI (sp_aload_n (q := 0) dX9_append_86 rfl rfl)) <|
  z_ac (j := 44) rfl (z_eI (sp_getf (C := RX9) (T := TX9) (Nf := 23) dX9_append_87 rfl inX9 (by decide) wf_1354 rfl)) <|
  z_ac (j := 45) rfl (z_eI (sp_iload dX9_append_90 rfl)) <|
  z_ac (j := 46) rfl (z_eI (sp_bipush dX9_append_92 (by decide +kernel) rfl)) <|
  z_ac (j := 47) rfl (z_eI (sp_bipush dX9_append_94 (by decide +kernel) rfl)) <|
  z_ac (j := 48) rfl (z_eI (sp_iload dX9_append_96 rfl)) <|
  z_ac (j := 49) rfl (z_eI (sp_iconst dX9_append_98 (by decide +kernel) rfl)) <|
  z_ac (j := 50) rfl (z_eI (sp_irem dX9_append_99 rfl)) <|
  z_ac (j := 51) rfl (z_eI (sp_imul dX9_append_100 rfl)) <|
  z_ac (j := 52) rfl (z_eI (sp_isub dX9_append_101 rfl)) <|
  z_ac (j := 53) rfl (z_eI (sp_ishr dX9_append_102 rfl)) <|
  z_ac (j := 54) rfl (z_eI (sp_sipush dX9_append_103 (by decide +kernel) rfl)) <|
  z_ac (j := 55) rfl (z_eI (sp_iand dX9_append_106 rfl)) <|
  z_ac (j := 56) rfl (z_eI (sp_iast dX9_append_107 rfl)) <|
  z_ac (j := 57) rfl (z_eI (sp_aload_n (q := 0) dX9_append_108 rfl rfl)) <|
  z_ac (j := 58) rfl (z_eI (sp_dup dX9_append_109 rfl)) <|
  z_ac (j := 59) rfl (z_eI (sp_getf (C := RX9) (T := TX9) (Nf := 23) dX9_append_110 rfl inX9 (by decide) wf_1354 rfl)) <|
  z_ac (j := 60) rfl (z_eI (sp_iconst dX9_append_113 (by decide +kernel) rfl)) <|
  z_ac (j := 61) rfl (z_eI (sp_iadd dX9_append_114 rfl)) <|
  z_ac (j := 62) rfl (z_eI (sp_putI (C := RX9) (T := TX9) (Nf := 23) dX9_append_115 rfl inX9 tyX9_ok nmX9 (by decide) wf_1354 rfl (by decide +kernel) rfl)) <|
  z_ac (j := 63) rfl (z_eI (sp_iinc dX9_append_118 (by decide +kernel) (by decide) (fun _ _ => rfl) rfl)) <|
  z_ac (j := 64) rfl (z_eI (sp_goto dX9_append_121 rfl)) <|
  z_ac (j := 65) rfl (z_eI (sp_aload_n (q := 0) dX9_append_124 rfl rfl)) <|
  z_ac (j := 66) rfl (z_eI (sp_getf (C := RX9) (T := TX9) (Nf := 23) dX9_append_125 rfl inX9 (by decide) wf_1354 rfl)) <|
  z_ac (j := 67) rfl (z_eR (sr_int dX9_append_128 rfl)) <| z_an
theorem dX9_shorten_0 : decode cX9_shorten 0 = .ok (.aload_n 0, 1) := by decide +kernel
theorem dX9_shorten_1 : decode cX9_shorten 1 = .ok (.iconst 0, 1) := by decide +kernel
theorem dX9_shorten_2 : decode cX9_shorten 2 = .ok (.putfield 49, 3) := by decide +kernel
theorem dX9_shorten_5 : decode cX9_shorten 5 = .ok (.iload_n 1, 1) := by decide +kernel
theorem dX9_shorten_6 : decode cX9_shorten 6 = .ok (.iconst 0, 1) := by decide +kernel
theorem dX9_shorten_7 : decode cX9_shorten 7 = .ok (.aload_n 0, 1) := by decide +kernel
theorem dX9_shorten_8 : decode cX9_shorten 8 = .ok (.getfield 164, 3) := by decide +kernel
theorem dX9_shorten_11 : decode cX9_shorten 11 = .ok (.invokestatic 56, 3) := by decide +kernel
theorem dX9_shorten_14 : decode cX9_shorten 14 = .ok (.ifCond .ne 9, 3) := by decide +kernel
theorem dX9_shorten_17 : decode cX9_shorten 17 = .ok (.aload_n 0, 1) := by decide +kernel
theorem dX9_shorten_18 : decode cX9_shorten 18 = .ok (.iconst 1, 1) := by decide +kernel
theorem dX9_shorten_19 : decode cX9_shorten 19 = .ok (.invokevirtual 167, 3) := by decide +kernel
theorem dX9_shorten_22 : decode cX9_shorten 22 = .ok (.ireturn, 1) := by decide +kernel
theorem dX9_shorten_23 : decode cX9_shorten 23 = .ok (.aload_n 0, 1) := by decide +kernel
theorem dX9_shorten_24 : decode cX9_shorten 24 = .ok (.iload_n 1, 1) := by decide +kernel
theorem dX9_shorten_25 : decode cX9_shorten 25 = .ok (.putfield 164, 3) := by decide +kernel
theorem dX9_shorten_28 : decode cX9_shorten 28 = .ok (.aload_n 0, 1) := by decide +kernel
theorem dX9_shorten_29 : decode cX9_shorten 29 = .ok (.getfield 164, 3) := by decide +kernel
theorem dX9_shorten_32 : decode cX9_shorten 32 = .ok (.ireturn, 1) := by decide +kernel
theorem tX9_shorten {L : Nat} {xs : Nat → Int32} {N : Nat} : z_AllE (zE L xs N 45) 0 (kX9_shorten N) :=
  z_ac (j := 1) rfl (z_eI (sp_aload_n (q := 0) dX9_shorten_0 rfl rfl)) <|
  z_ac (j := 2) rfl (z_eI (sp_iconst dX9_shorten_1 (by decide +kernel) rfl)) <|
  z_ac (j := 3) rfl (z_eI (sp_putI (C := RX9) (T := TX9) (Nf := 23) dX9_shorten_2 rfl inX9 tyX9_ok nmX9 (by decide) wf_1356 rfl (by decide +kernel) rfl)) <|
  z_ac (j := 4) rfl (z_eI (sp_iload_n (q := 1) dX9_shorten_5 rfl rfl)) <|
  z_ac (j := 5) rfl (z_eI (sp_iconst dX9_shorten_6 (by decide +kernel) rfl)) <|
  z_ac (j := 6) rfl (z_eI (sp_aload_n (q := 0) dX9_shorten_7 rfl rfl)) <|
  z_ac (j := 7) rfl (z_eI (sp_getf (C := RX9) (T := TX9) (Nf := 23) dX9_shorten_8 rfl inX9 (by decide) wf_1354 rfl)) <|
  z_ac (j := 8) rfl (z_cS dX9_shorten_11 wl_1432 qX9_in (by decide +kernel) (z_sn rfl rfl) rfl) <|
  z_ac (j := 9) rfl (z_eI (sp_if_ne dX9_shorten_14 rfl rfl)) <|
  z_ac (j := 10) rfl (z_eI (sp_aload_n (q := 0) dX9_shorten_17 rfl rfl)) <|
  z_ac (j := 11) rfl (z_eI (sp_iconst dX9_shorten_18 (by decide +kernel) rfl)) <|
  z_ac (j := 12) rfl (z_cV dX9_shorten_19 wl_1424 qX9_fails (by decide +kernel) ⟨_, _, rfl⟩ (z_sn rfl rfl) rfl) <|
  z_ac (j := 13) rfl (z_eR (sr_int dX9_shorten_22 rfl)) <|
  z_ac (j := 14) rfl (z_eI (sp_aload_n (q := 0) dX9_shorten_23 rfl rfl)) <|
  z_ac (j := 15) rfl (z_eI (sp_iload_n (q := 1) dX9_shorten_24 rfl rfl)) <|
  z_ac (j := 16) rfl (z_eI (sp_putI (C := RX9) (T := TX9) (Nf := 23) dX9_shorten_25 rfl inX9 tyX9_ok nmX9 (by decide) wf_1354 rfl (by decide +kernel) rfl)) <|
  z_ac (j := 17) rfl (z_eI (sp_aload_n (q := 0) dX9_shorten_28 rfl rfl)) <|
  z_ac (j := 18) rfl (z_eI (sp_getf (C := RX9) (T := TX9) (Nf := 23) dX9_shorten_29 rfl inX9 (by decide) wf_1354 rfl)) <|
  z_ac (j := 19) rfl (z_eR (sr_int dX9_shorten_32 rfl)) <| z_an
theorem dX9_isSmall_0 : decode cX9_isSmall 0 = .ok (.iload_n 1, 1) := by decide +kernel
theorem dX9_isSmall_1 : decode cX9_isSmall 1 = .ok (.aload_n 0, 1) := by decide +kernel
theorem dX9_isSmall_2 : decode cX9_isSmall 2 = .ok (.getfield 164, 3) := by decide +kernel
theorem dX9_isSmall_5 : decode cX9_isSmall 5 = .ok (.if_icmp .ge 29, 3) := by decide +kernel
theorem dX9_isSmall_8 : decode cX9_isSmall 8 = .ok (.aload_n 0, 1) := by decide +kernel
theorem dX9_isSmall_9 : decode cX9_isSmall 9 = .ok (.getfield 29, 3) := by decide +kernel
theorem dX9_isSmall_12 : decode cX9_isSmall 12 = .ok (.iload_n 1, 1) := by decide +kernel
theorem dX9_isSmall_13 : decode cX9_isSmall 13 = .ok (.iaload, 1) := by decide +kernel
theorem dX9_isSmall_14 : decode cX9_isSmall 14 = .ok (.bipush 97, 2) := by decide +kernel
theorem dX9_isSmall_16 : decode cX9_isSmall 16 = .ok (.if_icmp .lt 18, 3) := by decide +kernel
theorem dX9_isSmall_19 : decode cX9_isSmall 19 = .ok (.aload_n 0, 1) := by decide +kernel
theorem dX9_isSmall_20 : decode cX9_isSmall 20 = .ok (.getfield 29, 3) := by decide +kernel
theorem dX9_isSmall_23 : decode cX9_isSmall 23 = .ok (.iload_n 1, 1) := by decide +kernel
theorem dX9_isSmall_24 : decode cX9_isSmall 24 = .ok (.iaload, 1) := by decide +kernel
theorem dX9_isSmall_25 : decode cX9_isSmall 25 = .ok (.bipush 122, 2) := by decide +kernel
theorem dX9_isSmall_27 : decode cX9_isSmall 27 = .ok (.if_icmp .gt 7, 3) := by decide +kernel
theorem dX9_isSmall_30 : decode cX9_isSmall 30 = .ok (.iconst 1, 1) := by decide +kernel
theorem dX9_isSmall_31 : decode cX9_isSmall 31 = .ok (.goto 4, 3) := by decide +kernel
theorem dX9_isSmall_34 : decode cX9_isSmall 34 = .ok (.iconst 0, 1) := by decide +kernel
theorem dX9_isSmall_35 : decode cX9_isSmall 35 = .ok (.ireturn, 1) := by decide +kernel
theorem tX9_isSmall {L : Nat} {xs : Nat → Int32} {N : Nat} : z_AllE (zE L xs N 46) 0 (kX9_isSmall N) :=
  z_ac (j := 1) rfl (z_eI (sp_iload_n (q := 1) dX9_isSmall_0 rfl rfl)) <|
  z_ac (j := 2) rfl (z_eI (sp_aload_n (q := 0) dX9_isSmall_1 rfl rfl)) <|
  z_ac (j := 3) rfl (z_eI (sp_getf (C := RX9) (T := TX9) (Nf := 23) dX9_isSmall_2 rfl inX9 (by decide) wf_1354 rfl)) <|
  z_ac (j := 4) rfl (z_eI (sp_icmp_ge dX9_isSmall_5 rfl rfl)) <|
  z_ac (j := 5) rfl (z_eI (sp_aload_n (q := 0) dX9_isSmall_8 rfl rfl)) <|
  z_ac (j := 6) rfl (z_eI (sp_getf (C := RX9) (T := TX9) (Nf := 23) dX9_isSmall_9 rfl inX9 (by decide) wf_1353 rfl)) <|
  z_ac (j := 7) rfl (z_eI (sp_iload_n (q := 1) dX9_isSmall_12 rfl rfl)) <|
  z_ac (j := 8) rfl (z_eI (sp_iald dX9_isSmall_13 rfl)) <|
  z_ac (j := 9) rfl (z_eI (sp_bipush dX9_isSmall_14 (by decide +kernel) rfl)) <|
  z_ac (j := 10) rfl (z_eI (sp_icmp_lt dX9_isSmall_16 rfl rfl)) <|
  z_ac (j := 11) rfl (z_eI (sp_aload_n (q := 0) dX9_isSmall_19 rfl rfl)) <|
  z_ac (j := 12) rfl (z_eI (sp_getf (C := RX9) (T := TX9) (Nf := 23) dX9_isSmall_20 rfl inX9 (by decide) wf_1353 rfl)) <|
  z_ac (j := 13) rfl (z_eI (sp_iload_n (q := 1) dX9_isSmall_23 rfl rfl)) <|
  z_ac (j := 14) rfl (z_eI (sp_iald dX9_isSmall_24 rfl)) <|
  z_ac (j := 15) rfl (z_eI (sp_bipush dX9_isSmall_25 (by decide +kernel) rfl)) <|
  z_ac (j := 16) rfl (z_eI (sp_icmp_gt dX9_isSmall_27 rfl rfl)) <|
  z_ac (j := 17) rfl (z_eI (sp_iconst dX9_isSmall_30 (by decide +kernel) rfl)) <|
  z_ac (j := 18) rfl (z_eI (sp_goto dX9_isSmall_31 rfl)) <|
  z_ac (j := 19) rfl (z_eI (sp_iconst dX9_isSmall_34 (by decide +kernel) rfl)) <|
  z_ac (j := 20) rfl (z_eR (sr_bool dX9_isSmall_35 rfl)) <| z_an
theorem dX9_isDigit_0 : decode cX9_isDigit 0 = .ok (.iload_n 1, 1) := by decide +kernel
theorem dX9_isDigit_1 : decode cX9_isDigit 1 = .ok (.aload_n 0, 1) := by decide +kernel
theorem dX9_isDigit_2 : decode cX9_isDigit 2 = .ok (.getfield 164, 3) := by decide +kernel
theorem dX9_isDigit_5 : decode cX9_isDigit 5 = .ok (.if_icmp .ge 29, 3) := by decide +kernel
theorem dX9_isDigit_8 : decode cX9_isDigit 8 = .ok (.aload_n 0, 1) := by decide +kernel
theorem dX9_isDigit_9 : decode cX9_isDigit 9 = .ok (.getfield 29, 3) := by decide +kernel
theorem dX9_isDigit_12 : decode cX9_isDigit 12 = .ok (.iload_n 1, 1) := by decide +kernel
theorem dX9_isDigit_13 : decode cX9_isDigit 13 = .ok (.iaload, 1) := by decide +kernel
theorem dX9_isDigit_14 : decode cX9_isDigit 14 = .ok (.bipush 48, 2) := by decide +kernel
theorem dX9_isDigit_16 : decode cX9_isDigit 16 = .ok (.if_icmp .lt 18, 3) := by decide +kernel
theorem dX9_isDigit_19 : decode cX9_isDigit 19 = .ok (.aload_n 0, 1) := by decide +kernel
theorem dX9_isDigit_20 : decode cX9_isDigit 20 = .ok (.getfield 29, 3) := by decide +kernel
theorem dX9_isDigit_23 : decode cX9_isDigit 23 = .ok (.iload_n 1, 1) := by decide +kernel
theorem dX9_isDigit_24 : decode cX9_isDigit 24 = .ok (.iaload, 1) := by decide +kernel
theorem dX9_isDigit_25 : decode cX9_isDigit 25 = .ok (.bipush 57, 2) := by decide +kernel
theorem dX9_isDigit_27 : decode cX9_isDigit 27 = .ok (.if_icmp .gt 7, 3) := by decide +kernel
theorem dX9_isDigit_30 : decode cX9_isDigit 30 = .ok (.iconst 1, 1) := by decide +kernel
theorem dX9_isDigit_31 : decode cX9_isDigit 31 = .ok (.goto 4, 3) := by decide +kernel
theorem dX9_isDigit_34 : decode cX9_isDigit 34 = .ok (.iconst 0, 1) := by decide +kernel
theorem dX9_isDigit_35 : decode cX9_isDigit 35 = .ok (.ireturn, 1) := by decide +kernel
theorem tX9_isDigit {L : Nat} {xs : Nat → Int32} {N : Nat} : z_AllE (zE L xs N 47) 0 (kX9_isDigit N) :=
  z_ac (j := 1) rfl (z_eI (sp_iload_n (q := 1) dX9_isDigit_0 rfl rfl)) <|
  z_ac (j := 2) rfl (z_eI (sp_aload_n (q := 0) dX9_isDigit_1 rfl rfl)) <|
  z_ac (j := 3) rfl (z_eI (sp_getf (C := RX9) (T := TX9) (Nf := 23) dX9_isDigit_2 rfl inX9 (by decide) wf_1354 rfl)) <|
  z_ac (j := 4) rfl (z_eI (sp_icmp_ge dX9_isDigit_5 rfl rfl)) <|
  z_ac (j := 5) rfl (z_eI (sp_aload_n (q := 0) dX9_isDigit_8 rfl rfl)) <|
  z_ac (j := 6) rfl (z_eI (sp_getf (C := RX9) (T := TX9) (Nf := 23) dX9_isDigit_9 rfl inX9 (by decide) wf_1353 rfl)) <|
  z_ac (j := 7) rfl (z_eI (sp_iload_n (q := 1) dX9_isDigit_12 rfl rfl)) <|
  z_ac (j := 8) rfl (z_eI (sp_iald dX9_isDigit_13 rfl)) <|
  z_ac (j := 9) rfl (z_eI (sp_bipush dX9_isDigit_14 (by decide +kernel) rfl)) <|
  z_ac (j := 10) rfl (z_eI (sp_icmp_lt dX9_isDigit_16 rfl rfl)) <|
  z_ac (j := 11) rfl (z_eI (sp_aload_n (q := 0) dX9_isDigit_19 rfl rfl)) <|
  z_ac (j := 12) rfl (z_eI (sp_getf (C := RX9) (T := TX9) (Nf := 23) dX9_isDigit_20 rfl inX9 (by decide) wf_1353 rfl)) <|
  z_ac (j := 13) rfl (z_eI (sp_iload_n (q := 1) dX9_isDigit_23 rfl rfl)) <|
  z_ac (j := 14) rfl (z_eI (sp_iald dX9_isDigit_24 rfl)) <|
  z_ac (j := 15) rfl (z_eI (sp_bipush dX9_isDigit_25 (by decide +kernel) rfl)) <|
  z_ac (j := 16) rfl (z_eI (sp_icmp_gt dX9_isDigit_27 rfl rfl)) <|
  z_ac (j := 17) rfl (z_eI (sp_iconst dX9_isDigit_30 (by decide +kernel) rfl)) <|
  z_ac (j := 18) rfl (z_eI (sp_goto dX9_isDigit_31 rfl)) <|
  z_ac (j := 19) rfl (z_eI (sp_iconst dX9_isDigit_34 (by decide +kernel) rfl)) <|
  z_ac (j := 20) rfl (z_eR (sr_bool dX9_isDigit_35 rfl)) <| z_an
theorem dX9_next_0 : decode cX9_next 0 = .ok (.aload_n 0, 1) := by decide +kernel
theorem dX9_next_1 : decode cX9_next 1 = .ok (.getfield 170, 3) := by decide +kernel
theorem dX9_next_4 : decode cX9_next 4 = .ok (.aload_n 0, 1) := by decide +kernel
theorem dX9_next_5 : decode cX9_next 5 = .ok (.getfield 164, 3) := by decide +kernel
theorem dX9_next_8 : decode cX9_next 8 = .ok (.if_icmp .ge 44, 3) := by decide +kernel
theorem dX9_next_11 : decode cX9_next 11 = .ok (.aload_n 0, 1) := by decide +kernel
theorem dX9_next_12 : decode cX9_next 12 = .ok (.getfield 29, 3) := by decide +kernel
theorem dX9_next_15 : decode cX9_next 15 = .ok (.aload_n 0, 1) := by decide +kernel
theorem dX9_next_16 : decode cX9_next 16 = .ok (.getfield 170, 3) := by decide +kernel
theorem dX9_next_19 : decode cX9_next 19 = .ok (.iaload, 1) := by decide +kernel
theorem dX9_next_20 : decode cX9_next 20 = .ok (.bipush 32, 2) := by decide +kernel
theorem dX9_next_22 : decode cX9_next 22 = .ok (.if_icmp .eq 17, 3) := by decide +kernel
theorem dX9_next_25 : decode cX9_next 25 = .ok (.aload_n 0, 1) := by decide +kernel
theorem dX9_next_26 : decode cX9_next 26 = .ok (.getfield 29, 3) := by decide +kernel
theorem dX9_next_29 : decode cX9_next 29 = .ok (.aload_n 0, 1) := by decide +kernel
theorem dX9_next_30 : decode cX9_next 30 = .ok (.getfield 170, 3) := by decide +kernel
theorem dX9_next_33 : decode cX9_next 33 = .ok (.iaload, 1) := by decide +kernel
theorem dX9_next_34 : decode cX9_next 34 = .ok (.bipush 10, 2) := by decide +kernel
theorem dX9_next_36 : decode cX9_next 36 = .ok (.if_icmp .ne 16, 3) := by decide +kernel
theorem dX9_next_39 : decode cX9_next 39 = .ok (.aload_n 0, 1) := by decide +kernel
theorem dX9_next_40 : decode cX9_next 40 = .ok (.dup, 1) := by decide +kernel
theorem dX9_next_41 : decode cX9_next 41 = .ok (.getfield 170, 3) := by decide +kernel
theorem dX9_next_44 : decode cX9_next 44 = .ok (.iconst 1, 1) := by decide +kernel
theorem dX9_next_45 : decode cX9_next 45 = .ok (.iadd, 1) := by decide +kernel
theorem dX9_next_46 : decode cX9_next 46 = .ok (.putfield 170, 3) := by decide +kernel
theorem dX9_next_49 : decode cX9_next 49 = .ok (.goto (-49), 3) := by decide +kernel
theorem dX9_next_52 : decode cX9_next 52 = .ok (.aload_n 0, 1) := by decide +kernel
theorem dX9_next_53 : decode cX9_next 53 = .ok (.aload_n 0, 1) := by decide +kernel
theorem dX9_next_54 : decode cX9_next 54 = .ok (.getfield 170, 3) := by decide +kernel
theorem dX9_next_57 : decode cX9_next 57 = .ok (.putfield 173, 3) := by decide +kernel
theorem dX9_next_60 : decode cX9_next 60 = .ok (.aload_n 0, 1) := by decide +kernel
theorem dX9_next_61 : decode cX9_next 61 = .ok (.iconst 0, 1) := by decide +kernel
theorem dX9_next_62 : decode cX9_next 62 = .ok (.putfield 176, 3) := by decide +kernel
theorem dX9_next_65 : decode cX9_next 65 = .ok (.aload_n 0, 1) := by decide +kernel
theorem dX9_next_66 : decode cX9_next 66 = .ok (.lconst 0, 1) := by decide +kernel
theorem dX9_next_67 : decode cX9_next 67 = .ok (.putfield 179, 3) := by decide +kernel
theorem dX9_next_70 : decode cX9_next 70 = .ok (.aload_n 0, 1) := by decide +kernel
theorem dX9_next_71 : decode cX9_next 71 = .ok (.getfield 170, 3) := by decide +kernel
theorem dX9_next_74 : decode cX9_next 74 = .ok (.aload_n 0, 1) := by decide +kernel
theorem dX9_next_75 : decode cX9_next 75 = .ok (.getfield 164, 3) := by decide +kernel
theorem dX9_next_78 : decode cX9_next 78 = .ok (.if_icmp .ne 11, 3) := by decide +kernel
theorem dX9_next_81 : decode cX9_next 81 = .ok (.aload_n 0, 1) := by decide +kernel
theorem dX9_next_82 : decode cX9_next 82 = .ok (.iconst 0, 1) := by decide +kernel
theorem dX9_next_83 : decode cX9_next 83 = .ok (.putfield 183, 3) := by decide +kernel
theorem dX9_next_86 : decode cX9_next 86 = .ok (.goto 72, 3) := by decide +kernel
theorem dX9_next_89 : decode cX9_next 89 = .ok (.aload_n 0, 1) := by decide +kernel
theorem dX9_next_90 : decode cX9_next 90 = .ok (.aload_n 0, 1) := by decide +kernel
theorem dX9_next_91 : decode cX9_next 91 = .ok (.getfield 170, 3) := by decide +kernel
theorem dX9_next_94 : decode cX9_next 94 = .ok (.invokevirtual 186, 3) := by decide +kernel
theorem dX9_next_97 : decode cX9_next 97 = .ok (.ifCond .eq 10, 3) := by decide +kernel
theorem dX9_next_100 : decode cX9_next 100 = .ok (.aload_n 0, 1) := by decide +kernel
theorem dX9_next_101 : decode cX9_next 101 = .ok (.invokevirtual 190, 3) := by decide +kernel
theorem dX9_next_104 : decode cX9_next 104 = .ok (.goto 54, 3) := by decide +kernel
theorem dX9_next_107 : decode cX9_next 107 = .ok (.aload_n 0, 1) := by decide +kernel
theorem dX9_next_108 : decode cX9_next 108 = .ok (.aload_n 0, 1) := by decide +kernel
theorem dX9_next_109 : decode cX9_next 109 = .ok (.getfield 170, 3) := by decide +kernel
theorem dX9_next_112 : decode cX9_next 112 = .ok (.invokevirtual 193, 3) := by decide +kernel
theorem dX9_next_115 : decode cX9_next 115 = .ok (.ifCond .eq 10, 3) := by decide +kernel
theorem dX9_next_118 : decode cX9_next 118 = .ok (.aload_n 0, 1) := by decide +kernel
theorem dX9_next_119 : decode cX9_next 119 = .ok (.invokevirtual 196, 3) := by decide +kernel
theorem dX9_next_122 : decode cX9_next 122 = .ok (.goto 36, 3) := by decide +kernel
theorem dX9_next_125 : decode cX9_next 125 = .ok (.aload_n 0, 1) := by decide +kernel
theorem dX9_next_126 : decode cX9_next 126 = .ok (.aload_n 0, 1) := by decide +kernel
theorem dX9_next_127 : decode cX9_next 127 = .ok (.getfield 29, 3) := by decide +kernel
theorem dX9_next_130 : decode cX9_next 130 = .ok (.aload_n 0, 1) := by decide +kernel
theorem dX9_next_131 : decode cX9_next 131 = .ok (.getfield 170, 3) := by decide +kernel
theorem dX9_next_134 : decode cX9_next 134 = .ok (.iaload, 1) := by decide +kernel
theorem dX9_next_135 : decode cX9_next 135 = .ok (.bipush 59, 2) := by decide +kernel
theorem dX9_next_137 : decode cX9_next 137 = .ok (.if_icmp .ne 7, 3) := by decide +kernel
theorem dX9_next_140 : decode cX9_next 140 = .ok (.iconst 3, 1) := by decide +kernel
theorem dX9_next_141 : decode cX9_next 141 = .ok (.goto 4, 3) := by decide +kernel
theorem dX9_next_144 : decode cX9_next 144 = .ok (.iconst 4, 1) := by decide +kernel
theorem dX9_next_145 : decode cX9_next 145 = .ok (.putfield 183, 3) := by decide +kernel
theorem dX9_next_148 : decode cX9_next 148 = .ok (.aload_n 0, 1) := by decide +kernel
theorem dX9_next_149 : decode cX9_next 149 = .ok (.dup, 1) := by decide +kernel
theorem dX9_next_150 : decode cX9_next 150 = .ok (.getfield 170, 3) := by decide +kernel
theorem dX9_next_153 : decode cX9_next 153 = .ok (.iconst 1, 1) := by decide +kernel
theorem dX9_next_154 : decode cX9_next 154 = .ok (.iadd, 1) := by decide +kernel
theorem dX9_next_155 : decode cX9_next 155 = .ok (.putfield 170, 3) := by decide +kernel
theorem dX9_next_158 : decode cX9_next 158 = .ok (.return_, 1) := by decide +kernel
theorem tX9_next {L : Nat} {xs : Nat → Int32} {N : Nat} : z_AllE (zE L xs N 48) 0 (kX9_next N) :=
  z_ac (j := 1) rfl (z_eI (sp_aload_n (q := 0) dX9_next_0 rfl rfl)) <|
  z_ac (j := 2) rfl (z_eI (sp_getf (C := RX9) (T := TX9) (Nf := 23) dX9_next_1 rfl inX9 (by decide) wf_1361 rfl)) <|
  z_ac (j := 3) rfl (z_eI (sp_aload_n (q := 0) dX9_next_4 rfl rfl)) <|
  z_ac (j := 4) rfl (z_eI (sp_getf (C := RX9) (T := TX9) (Nf := 23) dX9_next_5 rfl inX9 (by decide) wf_1354 rfl)) <|
  z_ac (j := 5) rfl (z_eI (sp_icmp_ge dX9_next_8 rfl rfl)) <|
  z_ac (j := 6) rfl (z_eI (sp_aload_n (q := 0) dX9_next_11 rfl rfl)) <|
  z_ac (j := 7) rfl (z_eI (sp_getf (C := RX9) (T := TX9) (Nf := 23) dX9_next_12 rfl inX9 (by decide) wf_1353 rfl)) <|
  z_ac (j := 8) rfl (z_eI (sp_aload_n (q := 0) dX9_next_15 rfl rfl)) <|
  z_ac (j := 9) rfl (z_eI (sp_getf (C := RX9) (T := TX9) (Nf := 23) dX9_next_16 rfl inX9 (by decide) wf_1361 rfl)) <|
  z_ac (j := 10) rfl (z_eI (sp_iald dX9_next_19 rfl)) <|
  z_ac (j := 11) rfl (z_eI (sp_bipush dX9_next_20 (by decide +kernel) rfl)) <|
  z_ac (j := 12) rfl (z_eI (sp_icmp_eq dX9_next_22 rfl rfl)) <|
  z_ac (j := 13) rfl (z_eI (sp_aload_n (q := 0) dX9_next_25 rfl rfl)) <|
  z_ac (j := 14) rfl (z_eI (sp_getf (C := RX9) (T := TX9) (Nf := 23) dX9_next_26 rfl inX9 (by decide) wf_1353 rfl)) <|
  z_ac (j := 15) rfl (z_eI (sp_aload_n (q := 0) dX9_next_29 rfl rfl)) <|
  z_ac (j := 16) rfl (z_eI (sp_getf (C := RX9) (T := TX9) (Nf := 23) dX9_next_30 rfl inX9 (by decide) wf_1361 rfl)) <|
  z_ac (j := 17) rfl (z_eI (sp_iald dX9_next_33 rfl)) <|
  z_ac (j := 18) rfl (z_eI (sp_bipush dX9_next_34 (by decide +kernel) rfl)) <|
  z_ac (j := 19) rfl (z_eI (sp_icmp_ne dX9_next_36 rfl rfl)) <|
  z_ac (j := 20) rfl (z_eI (sp_aload_n (q := 0) dX9_next_39 rfl rfl)) <|
  z_ac (j := 21) rfl (z_eI (sp_dup dX9_next_40 rfl)) <|
  z_ac (j := 22) rfl (z_eI (sp_getf (C := RX9) (T := TX9) (Nf := 23) dX9_next_41 rfl inX9 (by decide) wf_1361 rfl)) <|
  z_ac (j := 23) rfl (z_eI (sp_iconst dX9_next_44 (by decide +kernel) rfl)) <|
  z_ac (j := 24) rfl (z_eI (sp_iadd dX9_next_45 rfl)) <|
  z_ac (j := 25) rfl (z_eI (sp_putI (C := RX9) (T := TX9) (Nf := 23) dX9_next_46 rfl inX9 tyX9_ok nmX9 (by decide) wf_1361 rfl (by decide +kernel) rfl)) <|
  z_ac (j := 26) rfl (z_eI (sp_goto dX9_next_49 rfl)) <|
  z_ac (j := 27) rfl (z_eI (sp_aload_n (q := 0) dX9_next_52 rfl rfl)) <|
  z_ac (j := 28) rfl (z_eI (sp_aload_n (q := 0) dX9_next_53 rfl rfl)) <|
  z_ac (j := 29) rfl (z_eI (sp_getf (C := RX9) (T := TX9) (Nf := 23) dX9_next_54 rfl inX9 (by decide) wf_1361 rfl)) <|
  z_ac (j := 30) rfl (z_eI (sp_putI (C := RX9) (T := TX9) (Nf := 23) dX9_next_57 rfl inX9 tyX9_ok nmX9 (by decide) wf_1362 rfl (by decide +kernel) rfl)) <|
  z_ac (j := 31) rfl (z_eI (sp_aload_n (q := 0) dX9_next_60 rfl rfl)) <|
  z_ac (j := 32) rfl (z_eI (sp_iconst dX9_next_61 (by decide +kernel) rfl)) <|
  z_ac (j := 33) rfl (z_eI (sp_putI (C := RX9) (T := TX9) (Nf := 23) dX9_next_62 rfl inX9 tyX9_ok nmX9 (by decide) wf_1364 rfl (by decide +kernel) rfl)) <|
  z_ac (j := 34) rfl (z_eI (sp_aload_n (q := 0) dX9_next_65 rfl rfl)) <|
  z_ac (j := 35) rfl (z_eI (sp_lconst (n := 0) dX9_next_66 (by decide +kernel) rfl)) <|
  z_ac (j := 36) rfl (z_eI (sp_putL (C := RX9) (T := TX9) (Nf := 23) dX9_next_67 rfl inX9 tyX9_ok nmX9 (by decide) wf_1365 rfl (by decide +kernel) rfl)) <|
  z_ac (j := 37) rfl (z_eI (sp_aload_n (q := 0) dX9_next_70 rfl rfl)) <|
  z_ac (j := 38) rfl (z_eI (sp_getf (C := RX9) (T := TX9) (Nf := 23) dX9_next_71 rfl inX9 (by decide) wf_1361 rfl)) <|
  z_ac (j := 39) rfl (z_eI (sp_aload_n (q := 0) dX9_next_74 rfl rfl)) <|
  z_ac (j := 40) rfl (z_eI (sp_getf (C := RX9) (T := TX9) (Nf := 23) dX9_next_75 rfl inX9 (by decide) wf_1354 rfl)) <|
  z_ac (j := 41) rfl (z_eI (sp_icmp_ne dX9_next_78 rfl rfl)) <|
  z_ac (j := 42) rfl (z_eI (sp_aload_n (q := 0) dX9_next_81 rfl rfl)) <|
  z_ac (j := 43) rfl (z_eI (sp_iconst dX9_next_82 (by decide +kernel) rfl)) <|
  z_ac (j := 44) rfl (z_eI (sp_putI (C := RX9) (T := TX9) (Nf := 23) dX9_next_83 rfl inX9 tyX9_ok nmX9 (by decide) wf_1363 rfl (by decide +kernel) rfl)) <|
  z_ac (j := 45) rfl (z_eI (sp_goto dX9_next_86 rfl)) <|
  z_ac (j := 46) rfl (z_eI (sp_aload_n (q := 0) dX9_next_89 rfl rfl)) <|
  z_ac (j := 47) rfl (z_eI (sp_aload_n (q := 0) dX9_next_90 rfl rfl)) <|
  z_ac (j := 48) rfl (z_eI (sp_getf (C := RX9) (T := TX9) (Nf := 23) dX9_next_91 rfl inX9 (by decide) wf_1361 rfl)) <|
  z_ac (j := 49) rfl (z_cV dX9_next_94 wl_1443 qX9_isSmall (by decide +kernel) ⟨_, _, rfl⟩ (z_sn rfl rfl) rfl) <|
  z_ac (j := 50) rfl (z_eI (sp_if_eq dX9_next_97 rfl rfl)) <|
  z_ac (j := 51) rfl (z_eI (sp_aload_n (q := 0) dX9_next_100 rfl rfl)) <|
  z_ac (j := 52) rfl (z_cV dX9_next_101 wl_1447 qX9_nextWord (by decide +kernel) ⟨_, _, rfl⟩ (z_sn rfl rfl) rfl) <|
  z_ac (j := 53) rfl (z_eI (sp_goto dX9_next_104 rfl)) <|
  z_ac (j := 54) rfl (z_eI (sp_aload_n (q := 0) dX9_next_107 rfl rfl)) <|
  z_ac (j := 55) rfl (z_eI (sp_aload_n (q := 0) dX9_next_108 rfl rfl)) <|
  z_ac (j := 56) rfl (z_eI (sp_getf (C := RX9) (T := TX9) (Nf := 23) dX9_next_109 rfl inX9 (by decide) wf_1361 rfl)) <|
  z_ac (j := 57) rfl (z_cV dX9_next_112 wl_1453 qX9_isDigit (by decide +kernel) ⟨_, _, rfl⟩ (z_sn rfl rfl) rfl) <|
  z_ac (j := 58) rfl (z_eI (sp_if_eq dX9_next_115 rfl rfl)) <|
  z_ac (j := 59) rfl (z_eI (sp_aload_n (q := 0) dX9_next_118 rfl rfl)) <|
  z_ac (j := 60) rfl (z_cV dX9_next_119 wl_1457 qX9_nextNumber (by decide +kernel) ⟨_, _, rfl⟩ (z_sn rfl rfl) rfl) <|
  z_ac (j := 61) rfl (z_eI (sp_goto dX9_next_122 rfl)) <|
  z_ac (j := 62) rfl (z_eI (sp_aload_n (q := 0) dX9_next_125 rfl rfl)) <|
  z_ac (j := 63) rfl (z_eI (sp_aload_n (q := 0) dX9_next_126 rfl rfl)) <|
  z_ac (j := 64) rfl (z_eI (sp_getf (C := RX9) (T := TX9) (Nf := 23) dX9_next_127 rfl inX9 (by decide) wf_1353 rfl)) <|
  z_ac (j := 65) rfl (z_eI (sp_aload_n (q := 0) dX9_next_130 rfl rfl)) <|
  z_ac (j := 66) rfl (z_eI (sp_getf (C := RX9) (T := TX9) (Nf := 23) dX9_next_131 rfl inX9 (by decide) wf_1361 rfl)) <|
  z_ac (j := 67) rfl (z_eI (sp_iald dX9_next_134 rfl)) <|
  z_ac (j := 68) rfl (z_eI (sp_bipush dX9_next_135 (by decide +kernel) rfl)) <|
  z_ac (j := 69) rfl (z_eI (sp_icmp_ne dX9_next_137 rfl rfl)) <|
  z_ac (j := 70) rfl (z_eI (sp_iconst dX9_next_140 (by decide +kernel) rfl)) <|
  z_ac (j := 71) rfl (z_eI (sp_goto dX9_next_141 rfl)) <|
  z_ac (j := 72) rfl (z_eI (sp_iconst dX9_next_144 (by decide +kernel) rfl)) <|
  z_ac (j := 73) rfl (z_eI (sp_putI (C := RX9) (T := TX9) (Nf := 23) dX9_next_145 rfl inX9 tyX9_ok nmX9 (by decide) wf_1363 rfl (by decide +kernel) rfl)) <|
  z_ac (j := 74) rfl (z_eI (sp_aload_n (q := 0) dX9_next_148 rfl rfl)) <|
  z_ac (j := 75) rfl (z_eI (sp_dup dX9_next_149 rfl)) <|
  z_ac (j := 76) rfl (z_eI (sp_getf (C := RX9) (T := TX9) (Nf := 23) dX9_next_150 rfl inX9 (by decide) wf_1361 rfl)) <|
  z_ac (j := 77) rfl (z_eI (sp_iconst dX9_next_153 (by decide +kernel) rfl)) <|
  z_ac (j := 78) rfl (z_eI (sp_iadd dX9_next_154 rfl)) <|
  z_ac (j := 79) rfl (z_eI (sp_putI (C := RX9) (T := TX9) (Nf := 23) dX9_next_155 rfl inX9 tyX9_ok nmX9 (by decide) wf_1361 rfl (by decide +kernel) rfl)) <|
  z_ac (j := 80) rfl (z_eW (sv_void dX9_next_158 rfl)) <| z_an
theorem dX9_nextWord_0 : decode cX9_nextWord 0 = .ok (.aload_n 0, 1) := by decide +kernel
theorem dX9_nextWord_1 : decode cX9_nextWord 1 = .ok (.aload_n 0, 1) := by decide +kernel
theorem dX9_nextWord_2 : decode cX9_nextWord 2 = .ok (.getfield 170, 3) := by decide +kernel
theorem dX9_nextWord_5 : decode cX9_nextWord 5 = .ok (.invokevirtual 186, 3) := by decide +kernel
theorem dX9_nextWord_8 : decode cX9_nextWord 8 = .ok (.ifCond .eq 57, 3) := by decide +kernel
theorem dX9_nextWord_11 : decode cX9_nextWord 11 = .ok (.aload_n 0, 1) := by decide +kernel
theorem dX9_nextWord_12 : decode cX9_nextWord 12 = .ok (.getfield 170, 3) := by decide +kernel
theorem dX9_nextWord_15 : decode cX9_nextWord 15 = .ok (.aload_n 0, 1) := by decide +kernel
theorem dX9_nextWord_16 : decode cX9_nextWord 16 = .ok (.getfield 173, 3) := by decide +kernel
theorem dX9_nextWord_19 : decode cX9_nextWord 19 = .ok (.isub, 1) := by decide +kernel
theorem dX9_nextWord_20 : decode cX9_nextWord 20 = .ok (.bipush 10, 2) := by decide +kernel
theorem dX9_nextWord_22 : decode cX9_nextWord 22 = .ok (.if_icmp .ge 30, 3) := by decide +kernel
theorem dX9_nextWord_25 : decode cX9_nextWord 25 = .ok (.aload_n 0, 1) := by decide +kernel
theorem dX9_nextWord_26 : decode cX9_nextWord 26 = .ok (.ldc2_w 199, 3) := by decide +kernel
theorem dX9_nextWord_29 : decode cX9_nextWord 29 = .ok (.aload_n 0, 1) := by decide +kernel
theorem dX9_nextWord_30 : decode cX9_nextWord 30 = .ok (.getfield 179, 3) := by decide +kernel
theorem dX9_nextWord_33 : decode cX9_nextWord 33 = .ok (.lmul, 1) := by decide +kernel
theorem dX9_nextWord_34 : decode cX9_nextWord 34 = .ok (.aload_n 0, 1) := by decide +kernel
theorem dX9_nextWord_35 : decode cX9_nextWord 35 = .ok (.getfield 29, 3) := by decide +kernel
theorem dX9_nextWord_38 : decode cX9_nextWord 38 = .ok (.aload_n 0, 1) := by decide +kernel
theorem dX9_nextWord_39 : decode cX9_nextWord 39 = .ok (.getfield 170, 3) := by decide +kernel
theorem dX9_nextWord_42 : decode cX9_nextWord 42 = .ok (.iaload, 1) := by decide +kernel
theorem dX9_nextWord_43 : decode cX9_nextWord 43 = .ok (.i2l, 1) := by decide +kernel
theorem dX9_nextWord_44 : decode cX9_nextWord 44 = .ok (.ladd, 1) := by decide +kernel
theorem dX9_nextWord_45 : decode cX9_nextWord 45 = .ok (.ldc2_w 201, 3) := by decide +kernel
theorem dX9_nextWord_48 : decode cX9_nextWord 48 = .ok (.lsub, 1) := by decide +kernel
theorem dX9_nextWord_49 : decode cX9_nextWord 49 = .ok (.putfield 179, 3) := by decide +kernel
theorem dX9_nextWord_52 : decode cX9_nextWord 52 = .ok (.aload_n 0, 1) := by decide +kernel
theorem dX9_nextWord_53 : decode cX9_nextWord 53 = .ok (.dup, 1) := by decide +kernel
theorem dX9_nextWord_54 : decode cX9_nextWord 54 = .ok (.getfield 170, 3) := by decide +kernel
theorem dX9_nextWord_57 : decode cX9_nextWord 57 = .ok (.iconst 1, 1) := by decide +kernel
theorem dX9_nextWord_58 : decode cX9_nextWord 58 = .ok (.iadd, 1) := by decide +kernel
theorem dX9_nextWord_59 : decode cX9_nextWord 59 = .ok (.putfield 170, 3) := by decide +kernel
theorem dX9_nextWord_62 : decode cX9_nextWord 62 = .ok (.goto (-62), 3) := by decide +kernel
theorem dX9_nextWord_65 : decode cX9_nextWord 65 = .ok (.aload_n 0, 1) := by decide +kernel
theorem dX9_nextWord_66 : decode cX9_nextWord 66 = .ok (.iconst 1, 1) := by decide +kernel
theorem dX9_nextWord_67 : decode cX9_nextWord 67 = .ok (.putfield 183, 3) := by decide +kernel
theorem dX9_nextWord_70 : decode cX9_nextWord 70 = .ok (.return_, 1) := by decide +kernel
theorem tX9_nextWord {L : Nat} {xs : Nat → Int32} {N : Nat} : z_AllE (zE L xs N 49) 0 (kX9_nextWord N) :=
  z_ac (j := 1) rfl (z_eI (sp_aload_n (q := 0) dX9_nextWord_0 rfl rfl)) <|
  z_ac (j := 2) rfl (z_eI (sp_aload_n (q := 0) dX9_nextWord_1 rfl rfl)) <|
  z_ac (j := 3) rfl (z_eI (sp_getf (C := RX9) (T := TX9) (Nf := 23) dX9_nextWord_2 rfl inX9 (by decide) wf_1361 rfl)) <|
  z_ac (j := 4) rfl (z_cV dX9_nextWord_5 wl_1443 qX9_isSmall (by decide +kernel) ⟨_, _, rfl⟩ (z_sn rfl rfl) rfl) <|
  z_ac (j := 5) rfl (z_eI (sp_if_eq dX9_nextWord_8 rfl rfl)) <|
  z_ac (j := 6) rfl (z_eI (sp_aload_n (q := 0) dX9_nextWord_11 rfl rfl)) <|
  z_ac (j := 7) rfl (z_eI (sp_getf (C := RX9) (T := TX9) (Nf := 23) dX9_nextWord_12 rfl inX9 (by decide) wf_1361 rfl)) <|
  z_ac (j := 8) rfl (z_eI (sp_aload_n (q := 0) dX9_nextWord_15 rfl rfl)) <|
  z_ac (j := 9) rfl (z_eI (sp_getf (C := RX9) (T := TX9) (Nf := 23) dX9_nextWord_16 rfl inX9 (by decide) wf_1362 rfl)) <|
  z_ac (j := 10) rfl (z_eI (sp_isub dX9_nextWord_19 rfl)) <|
  z_ac (j := 11) rfl (z_eI (sp_bipush dX9_nextWord_20 (by decide +kernel) rfl)) <|
  z_ac (j := 12) rfl (z_eI (sp_icmp_ge dX9_nextWord_22 rfl rfl)) <|
  z_ac (j := 13) rfl (z_eI (sp_aload_n (q := 0) dX9_nextWord_25 rfl rfl)) <|
  z_ac (j := 14) rfl (z_eI (sp_ldc2 dX9_nextWord_26 wk_1451 rfl)) <|
  z_ac (j := 15) rfl (z_eI (sp_aload_n (q := 0) dX9_nextWord_29 rfl rfl)) <|
  z_ac (j := 16) rfl (z_eI (sp_getf (C := RX9) (T := TX9) (Nf := 23) dX9_nextWord_30 rfl inX9 (by decide) wf_1365 rfl)) <|
  z_ac (j := 17) rfl (z_eI (sp_lmul dX9_nextWord_33 rfl)) <|
  z_ac (j := 18) rfl (z_eI (sp_aload_n (q := 0) dX9_nextWord_34 rfl rfl)) <|
  z_ac (j := 19) rfl (z_eI (sp_getf (C := RX9) (T := TX9) (Nf := 23) dX9_nextWord_35 rfl inX9 (by decide) wf_1353 rfl)) <|
  z_ac (j := 20) rfl (z_eI (sp_aload_n (q := 0) dX9_nextWord_38 rfl rfl)) <|
  z_ac (j := 21) rfl (z_eI (sp_getf (C := RX9) (T := TX9) (Nf := 23) dX9_nextWord_39 rfl inX9 (by decide) wf_1361 rfl)) <|
  z_ac (j := 22) rfl (z_eI (sp_iald dX9_nextWord_42 rfl)) <|
  z_ac (j := 23) rfl (z_eI (sp_i2l dX9_nextWord_43 rfl)) <|
  z_ac (j := 24) rfl (z_eI (sp_ladd dX9_nextWord_44 rfl)) <|
  z_ac (j := 25) rfl (z_eI (sp_ldc2 dX9_nextWord_45 wk_1452 rfl)) <|
  z_ac (j := 26) rfl (z_eI (sp_lsub dX9_nextWord_48 rfl)) <|
  z_ac (j := 27) rfl (z_eI (sp_putL (C := RX9) (T := TX9) (Nf := 23) dX9_nextWord_49 rfl inX9 tyX9_ok nmX9 (by decide) wf_1365 rfl (by decide +kernel) rfl)) <|
  z_ac (j := 28) rfl (z_eI (sp_aload_n (q := 0) dX9_nextWord_52 rfl rfl)) <|
  z_ac (j := 29) rfl (z_eI (sp_dup dX9_nextWord_53 rfl)) <|
  z_ac (j := 30) rfl (z_eI (sp_getf (C := RX9) (T := TX9) (Nf := 23) dX9_nextWord_54 rfl inX9 (by decide) wf_1361 rfl)) <|
  z_ac (j := 31) rfl (z_eI (sp_iconst dX9_nextWord_57 (by decide +kernel) rfl)) <|
  z_ac (j := 32) rfl (z_eI (sp_iadd dX9_nextWord_58 rfl)) <|
  z_ac (j := 33) rfl (z_eI (sp_putI (C := RX9) (T := TX9) (Nf := 23) dX9_nextWord_59 rfl inX9 tyX9_ok nmX9 (by decide) wf_1361 rfl (by decide +kernel) rfl)) <|
  z_ac (j := 34) rfl (z_eI (sp_goto dX9_nextWord_62 rfl)) <|
  z_ac (j := 35) rfl (z_eI (sp_aload_n (q := 0) dX9_nextWord_65 rfl rfl)) <|
  z_ac (j := 36) rfl (z_eI (sp_iconst dX9_nextWord_66 (by decide +kernel) rfl)) <|
  z_ac (j := 37) rfl (z_eI (sp_putI (C := RX9) (T := TX9) (Nf := 23) dX9_nextWord_67 rfl inX9 tyX9_ok nmX9 (by decide) wf_1363 rfl (by decide +kernel) rfl)) <|
  z_ac (j := 38) rfl (z_eW (sv_void dX9_nextWord_70 rfl)) <| z_an
theorem dX9_nextNumber_0 : decode cX9_nextNumber 0 = .ok (.aload_n 0, 1) := by decide +kernel
theorem dX9_nextNumber_1 : decode cX9_nextNumber 1 = .ok (.aload_n 0, 1) := by decide +kernel
theorem dX9_nextNumber_2 : decode cX9_nextNumber 2 = .ok (.getfield 170, 3) := by decide +kernel
theorem dX9_nextNumber_5 : decode cX9_nextNumber 5 = .ok (.invokevirtual 193, 3) := by decide +kernel
theorem dX9_nextNumber_8 : decode cX9_nextNumber 8 = .ok (.ifCond .eq 53, 3) := by decide +kernel
theorem dX9_nextNumber_11 : decode cX9_nextNumber 11 = .ok (.aload_n 0, 1) := by decide +kernel
theorem dX9_nextNumber_12 : decode cX9_nextNumber 12 = .ok (.getfield 170, 3) := by decide +kernel
theorem dX9_nextNumber_15 : decode cX9_nextNumber 15 = .ok (.aload_n 0, 1) := by decide +kernel
theorem dX9_nextNumber_16 : decode cX9_nextNumber 16 = .ok (.getfield 173, 3) := by decide +kernel
theorem dX9_nextNumber_19 : decode cX9_nextNumber 19 = .ok (.isub, 1) := by decide +kernel
theorem dX9_nextNumber_20 : decode cX9_nextNumber 20 = .ok (.iconst 3, 1) := by decide +kernel
theorem dX9_nextNumber_21 : decode cX9_nextNumber 21 = .ok (.if_icmp .ge 27, 3) := by decide +kernel
theorem dX9_nextNumber_24 : decode cX9_nextNumber 24 = .ok (.aload_n 0, 1) := by decide +kernel
theorem dX9_nextNumber_25 : decode cX9_nextNumber 25 = .ok (.bipush 10, 2) := by decide +kernel
theorem dX9_nextNumber_27 : decode cX9_nextNumber 27 = .ok (.aload_n 0, 1) := by decide +kernel
theorem dX9_nextNumber_28 : decode cX9_nextNumber 28 = .ok (.getfield 176, 3) := by decide +kernel
theorem dX9_nextNumber_31 : decode cX9_nextNumber 31 = .ok (.imul, 1) := by decide +kernel
theorem dX9_nextNumber_32 : decode cX9_nextNumber 32 = .ok (.aload_n 0, 1) := by decide +kernel
theorem dX9_nextNumber_33 : decode cX9_nextNumber 33 = .ok (.getfield 29, 3) := by decide +kernel
theorem dX9_nextNumber_36 : decode cX9_nextNumber 36 = .ok (.aload_n 0, 1) := by decide +kernel
theorem dX9_nextNumber_37 : decode cX9_nextNumber 37 = .ok (.getfield 170, 3) := by decide +kernel
theorem dX9_nextNumber_40 : decode cX9_nextNumber 40 = .ok (.iaload, 1) := by decide +kernel
theorem dX9_nextNumber_41 : decode cX9_nextNumber 41 = .ok (.iadd, 1) := by decide +kernel
theorem dX9_nextNumber_42 : decode cX9_nextNumber 42 = .ok (.bipush 48, 2) := by decide +kernel
theorem dX9_nextNumber_44 : decode cX9_nextNumber 44 = .ok (.isub, 1) := by decide +kernel
theorem dX9_nextNumber_45 : decode cX9_nextNumber 45 = .ok (.putfield 176, 3) := by decide +kernel
theorem dX9_nextNumber_48 : decode cX9_nextNumber 48 = .ok (.aload_n 0, 1) := by decide +kernel
theorem dX9_nextNumber_49 : decode cX9_nextNumber 49 = .ok (.dup, 1) := by decide +kernel
theorem dX9_nextNumber_50 : decode cX9_nextNumber 50 = .ok (.getfield 170, 3) := by decide +kernel
theorem dX9_nextNumber_53 : decode cX9_nextNumber 53 = .ok (.iconst 1, 1) := by decide +kernel
theorem dX9_nextNumber_54 : decode cX9_nextNumber 54 = .ok (.iadd, 1) := by decide +kernel
theorem dX9_nextNumber_55 : decode cX9_nextNumber 55 = .ok (.putfield 170, 3) := by decide +kernel
theorem dX9_nextNumber_58 : decode cX9_nextNumber 58 = .ok (.goto (-58), 3) := by decide +kernel
theorem dX9_nextNumber_61 : decode cX9_nextNumber 61 = .ok (.aload_n 0, 1) := by decide +kernel
theorem dX9_nextNumber_62 : decode cX9_nextNumber 62 = .ok (.aload_n 0, 1) := by decide +kernel
theorem dX9_nextNumber_63 : decode cX9_nextNumber 63 = .ok (.getfield 170, 3) := by decide +kernel
theorem dX9_nextNumber_66 : decode cX9_nextNumber 66 = .ok (.aload_n 0, 1) := by decide +kernel
theorem dX9_nextNumber_67 : decode cX9_nextNumber 67 = .ok (.getfield 173, 3) := by decide +kernel
theorem dX9_nextNumber_70 : decode cX9_nextNumber 70 = .ok (.isub, 1) := by decide +kernel
theorem dX9_nextNumber_71 : decode cX9_nextNumber 71 = .ok (.iconst 3, 1) := by decide +kernel
theorem dX9_nextNumber_72 : decode cX9_nextNumber 72 = .ok (.if_icmp .le 7, 3) := by decide +kernel
theorem dX9_nextNumber_75 : decode cX9_nextNumber 75 = .ok (.iconst 4, 1) := by decide +kernel
theorem dX9_nextNumber_76 : decode cX9_nextNumber 76 = .ok (.goto 4, 3) := by decide +kernel
theorem dX9_nextNumber_79 : decode cX9_nextNumber 79 = .ok (.iconst 2, 1) := by decide +kernel
theorem dX9_nextNumber_80 : decode cX9_nextNumber 80 = .ok (.putfield 183, 3) := by decide +kernel
theorem dX9_nextNumber_83 : decode cX9_nextNumber 83 = .ok (.return_, 1) := by decide +kernel
theorem tX9_nextNumber {L : Nat} {xs : Nat → Int32} {N : Nat} : z_AllE (zE L xs N 50) 0 (kX9_nextNumber N) :=
  z_ac (j := 1) rfl (z_eI (sp_aload_n (q := 0) dX9_nextNumber_0 rfl rfl)) <|
  z_ac (j := 2) rfl (z_eI (sp_aload_n (q := 0) dX9_nextNumber_1 rfl rfl)) <|
  z_ac (j := 3) rfl (z_eI (sp_getf (C := RX9) (T := TX9) (Nf := 23) dX9_nextNumber_2 rfl inX9 (by decide) wf_1361 rfl)) <|
  z_ac (j := 4) rfl (z_cV dX9_nextNumber_5 wl_1453 qX9_isDigit (by decide +kernel) ⟨_, _, rfl⟩ (z_sn rfl rfl) rfl) <|
  z_ac (j := 5) rfl (z_eI (sp_if_eq dX9_nextNumber_8 rfl rfl)) <|
  z_ac (j := 6) rfl (z_eI (sp_aload_n (q := 0) dX9_nextNumber_11 rfl rfl)) <|
  z_ac (j := 7) rfl (z_eI (sp_getf (C := RX9) (T := TX9) (Nf := 23) dX9_nextNumber_12 rfl inX9 (by decide) wf_1361 rfl)) <|
  z_ac (j := 8) rfl (z_eI (sp_aload_n (q := 0) dX9_nextNumber_15 rfl rfl)) <|
  z_ac (j := 9) rfl (z_eI (sp_getf (C := RX9) (T := TX9) (Nf := 23) dX9_nextNumber_16 rfl inX9 (by decide) wf_1362 rfl)) <|
  z_ac (j := 10) rfl (z_eI (sp_isub dX9_nextNumber_19 rfl)) <|
  z_ac (j := 11) rfl (z_eI (sp_iconst dX9_nextNumber_20 (by decide +kernel) rfl)) <|
  z_ac (j := 12) rfl (z_eI (sp_icmp_ge dX9_nextNumber_21 rfl rfl)) <|
  z_ac (j := 13) rfl (z_eI (sp_aload_n (q := 0) dX9_nextNumber_24 rfl rfl)) <|
  z_ac (j := 14) rfl (z_eI (sp_bipush dX9_nextNumber_25 (by decide +kernel) rfl)) <|
  z_ac (j := 15) rfl (z_eI (sp_aload_n (q := 0) dX9_nextNumber_27 rfl rfl)) <|
  z_ac (j := 16) rfl (z_eI (sp_getf (C := RX9) (T := TX9) (Nf := 23) dX9_nextNumber_28 rfl inX9 (by decide) wf_1364 rfl)) <|
  z_ac (j := 17) rfl (z_eI (sp_imul dX9_nextNumber_31 rfl)) <|
  z_ac (j := 18) rfl (z_eI (sp_aload_n (q := 0) dX9_nextNumber_32 rfl rfl)) <|
  z_ac (j := 19) rfl (z_eI (sp_getf (C := RX9) (T := TX9) (Nf := 23) dX9_nextNumber_33 rfl inX9 (by decide) wf_1353 rfl)) <|
  z_ac (j := 20) rfl (z_eI (sp_aload_n (q := 0) dX9_nextNumber_36 rfl rfl)) <|
  z_ac (j := 21) rfl (z_eI (sp_getf (C := RX9) (T := TX9) (Nf := 23) dX9_nextNumber_37 rfl inX9 (by decide) wf_1361 rfl)) <|
  z_ac (j := 22) rfl (z_eI (sp_iald dX9_nextNumber_40 rfl)) <|
  z_ac (j := 23) rfl (z_eI (sp_iadd dX9_nextNumber_41 rfl)) <|
  z_ac (j := 24) rfl (z_eI (sp_bipush dX9_nextNumber_42 (by decide +kernel) rfl)) <|
  z_ac (j := 25) rfl (z_eI (sp_isub dX9_nextNumber_44 rfl)) <|
  z_ac (j := 26) rfl (z_eI (sp_putI (C := RX9) (T := TX9) (Nf := 23) dX9_nextNumber_45 rfl inX9 tyX9_ok nmX9 (by decide) wf_1364 rfl (by decide +kernel) rfl)) <|
  z_ac (j := 27) rfl (z_eI (sp_aload_n (q := 0) dX9_nextNumber_48 rfl rfl)) <|
  z_ac (j := 28) rfl (z_eI (sp_dup dX9_nextNumber_49 rfl)) <|
  z_ac (j := 29) rfl (z_eI (sp_getf (C := RX9) (T := TX9) (Nf := 23) dX9_nextNumber_50 rfl inX9 (by decide) wf_1361 rfl)) <|
  z_ac (j := 30) rfl (z_eI (sp_iconst dX9_nextNumber_53 (by decide +kernel) rfl)) <|
  z_ac (j := 31) rfl (z_eI (sp_iadd dX9_nextNumber_54 rfl)) <|
  z_ac (j := 32) rfl (z_eI (sp_putI (C := RX9) (T := TX9) (Nf := 23) dX9_nextNumber_55 rfl inX9 tyX9_ok nmX9 (by decide) wf_1361 rfl (by decide +kernel) rfl)) <|
  z_ac (j := 33) rfl (z_eI (sp_goto dX9_nextNumber_58 rfl)) <|
  z_ac (j := 34) rfl (z_eI (sp_aload_n (q := 0) dX9_nextNumber_61 rfl rfl)) <|
  z_ac (j := 35) rfl (z_eI (sp_aload_n (q := 0) dX9_nextNumber_62 rfl rfl)) <|
  z_ac (j := 36) rfl (z_eI (sp_getf (C := RX9) (T := TX9) (Nf := 23) dX9_nextNumber_63 rfl inX9 (by decide) wf_1361 rfl)) <|
  z_ac (j := 37) rfl (z_eI (sp_aload_n (q := 0) dX9_nextNumber_66 rfl rfl)) <|
  z_ac (j := 38) rfl (z_eI (sp_getf (C := RX9) (T := TX9) (Nf := 23) dX9_nextNumber_67 rfl inX9 (by decide) wf_1362 rfl)) <|
  z_ac (j := 39) rfl (z_eI (sp_isub dX9_nextNumber_70 rfl)) <|
  z_ac (j := 40) rfl (z_eI (sp_iconst dX9_nextNumber_71 (by decide +kernel) rfl)) <|
  z_ac (j := 41) rfl (z_eI (sp_icmp_le dX9_nextNumber_72 rfl rfl)) <|
  z_ac (j := 42) rfl (z_eI (sp_iconst dX9_nextNumber_75 (by decide +kernel) rfl)) <|
  z_ac (j := 43) rfl (z_eI (sp_goto dX9_nextNumber_76 rfl)) <|
  z_ac (j := 44) rfl (z_eI (sp_iconst dX9_nextNumber_79 (by decide +kernel) rfl)) <|
  z_ac (j := 45) rfl (z_eI (sp_putI (C := RX9) (T := TX9) (Nf := 23) dX9_nextNumber_80 rfl inX9 tyX9_ok nmX9 (by decide) wf_1363 rfl (by decide +kernel) rfl)) <|
  z_ac (j := 46) rfl (z_eW (sv_void dX9_nextNumber_83 rfl)) <| z_an
theorem dX9_is_0 : decode cX9_is 0 = .ok (.aload_n 0, 1) := by decide +kernel
theorem dX9_is_1 : decode cX9_is 1 = .ok (.getfield 183, 3) := by decide +kernel
theorem dX9_is_4 : decode cX9_is 4 = .ok (.iconst 1, 1) := by decide +kernel
theorem dX9_is_5 : decode cX9_is 5 = .ok (.if_icmp .ne 16, 3) := by decide +kernel
theorem dX9_is_8 : decode cX9_is 8 = .ok (.aload_n 0, 1) := by decide +kernel
theorem dX9_is_9 : decode cX9_is 9 = .ok (.getfield 179, 3) := by decide +kernel
theorem dX9_is_12 : decode cX9_is 12 = .ok (.lload_n 1, 1) := by decide +kernel
theorem dX9_is_13 : decode cX9_is 13 = .ok (.lcmp, 1) := by decide +kernel
theorem dX9_is_14 : decode cX9_is 14 = .ok (.ifCond .ne 7, 3) := by decide +kernel
theorem dX9_is_17 : decode cX9_is 17 = .ok (.iconst 1, 1) := by decide +kernel
theorem dX9_is_18 : decode cX9_is 18 = .ok (.goto 4, 3) := by decide +kernel
theorem dX9_is_21 : decode cX9_is 21 = .ok (.iconst 0, 1) := by decide +kernel
theorem dX9_is_22 : decode cX9_is 22 = .ok (.ireturn, 1) := by decide +kernel
theorem tX9_is {L : Nat} {xs : Nat → Int32} {N : Nat} : z_AllE (zE L xs N 51) 0 (kX9_is N) :=
  z_ac (j := 1) rfl (z_eI (sp_aload_n (q := 0) dX9_is_0 rfl rfl)) <|
  z_ac (j := 2) rfl (z_eI (sp_getf (C := RX9) (T := TX9) (Nf := 23) dX9_is_1 rfl inX9 (by decide) wf_1363 rfl)) <|
  z_ac (j := 3) rfl (z_eI (sp_iconst dX9_is_4 (by decide +kernel) rfl)) <|
  z_ac (j := 4) rfl (z_eI (sp_icmp_ne dX9_is_5 rfl rfl)) <|
  z_ac (j := 5) rfl (z_eI (sp_aload_n (q := 0) dX9_is_8 rfl rfl)) <|
  z_ac (j := 6) rfl (z_eI (sp_getf (C := RX9) (T := TX9) (Nf := 23) dX9_is_9 rfl inX9 (by decide) wf_1365 rfl)) <|
  z_ac (j := 7) rfl (z_eI (sp_lload_n (q := 1) dX9_is_12 rfl rfl)) <|
  z_ac (j := 8) rfl (z_eI (sp_lcmp dX9_is_13 rfl)) <|
  z_ac (j := 9) rfl (z_eI (sp_if_ne dX9_is_14 rfl rfl)) <|
  z_ac (j := 10) rfl (z_eI (sp_iconst dX9_is_17 (by decide +kernel) rfl)) <|
  z_ac (j := 11) rfl (z_eI (sp_goto dX9_is_18 rfl)) <|
  z_ac (j := 12) rfl (z_eI (sp_iconst dX9_is_21 (by decide +kernel) rfl)) <|
  z_ac (j := 13) rfl (z_eR (sr_bool dX9_is_22 rfl)) <| z_an
theorem dX9_takes_0 : decode cX9_takes 0 = .ok (.aload_n 0, 1) := by decide +kernel
theorem dX9_takes_1 : decode cX9_takes 1 = .ok (.getfield 203, 3) := by decide +kernel
theorem dX9_takes_4 : decode cX9_takes 4 = .ok (.ifCond .eq 5, 3) := by decide +kernel
theorem dX9_takes_7 : decode cX9_takes 7 = .ok (.iconst 0, 1) := by decide +kernel
theorem dX9_takes_8 : decode cX9_takes 8 = .ok (.ireturn, 1) := by decide +kernel
theorem dX9_takes_9 : decode cX9_takes 9 = .ok (.iload_n 1, 1) := by decide +kernel
theorem dX9_takes_10 : decode cX9_takes 10 = .ok (.ifCond .ne 18, 3) := by decide +kernel
theorem dX9_takes_13 : decode cX9_takes 13 = .ok (.aload_n 0, 1) := by decide +kernel
theorem dX9_takes_14 : decode cX9_takes 14 = .ok (.iconst 1, 1) := by decide +kernel
theorem dX9_takes_15 : decode cX9_takes 15 = .ok (.putfield 203, 3) := by decide +kernel
theorem dX9_takes_18 : decode cX9_takes 18 = .ok (.aload_n 0, 1) := by decide +kernel
theorem dX9_takes_19 : decode cX9_takes 19 = .ok (.aload_n 0, 1) := by decide +kernel
theorem dX9_takes_20 : decode cX9_takes 20 = .ok (.getfield 173, 3) := by decide +kernel
theorem dX9_takes_23 : decode cX9_takes 23 = .ok (.putfield 32, 3) := by decide +kernel
theorem dX9_takes_26 : decode cX9_takes 26 = .ok (.iconst 0, 1) := by decide +kernel
theorem dX9_takes_27 : decode cX9_takes 27 = .ok (.ireturn, 1) := by decide +kernel
theorem dX9_takes_28 : decode cX9_takes 28 = .ok (.aload_n 0, 1) := by decide +kernel
theorem dX9_takes_29 : decode cX9_takes 29 = .ok (.invokevirtual 207, 3) := by decide +kernel
theorem dX9_takes_32 : decode cX9_takes 32 = .ok (.iconst 1, 1) := by decide +kernel
theorem dX9_takes_33 : decode cX9_takes 33 = .ok (.ireturn, 1) := by decide +kernel
theorem tX9_takes {L : Nat} {xs : Nat → Int32} {N : Nat} : z_AllE (zE L xs N 52) 0 (kX9_takes N) :=
  z_ac (j := 1) rfl (z_eI (sp_aload_n (q := 0) dX9_takes_0 rfl rfl)) <|
  z_ac (j := 2) rfl (z_eI (sp_getf (C := RX9) (T := TX9) (Nf := 23) dX9_takes_1 rfl inX9 (by decide) wf_1366 rfl)) <|
  z_ac (j := 3) rfl (z_eI (sp_if_eq dX9_takes_4 rfl rfl)) <|
  z_ac (j := 4) rfl (z_eI (sp_iconst dX9_takes_7 (by decide +kernel) rfl)) <|
  z_ac (j := 5) rfl (z_eR (sr_bool dX9_takes_8 rfl)) <|
  z_ac (j := 6) rfl (z_eI (sp_iload_n (q := 1) dX9_takes_9 rfl rfl)) <|
  z_ac (j := 7) rfl (z_eI (sp_if_ne dX9_takes_10 rfl rfl)) <|
  z_ac (j := 8) rfl (z_eI (sp_aload_n (q := 0) dX9_takes_13 rfl rfl)) <|
  z_ac (j := 9) rfl (z_eI (sp_iconst dX9_takes_14 (by decide +kernel) rfl)) <|
  z_ac (j := 10) rfl (z_eI (sp_putZ (C := RX9) (T := TX9) (Nf := 23) dX9_takes_15 rfl inX9 tyX9_ok nmX9 (by decide) wf_1366 rfl (by decide +kernel) rfl)) <|
  z_ac (j := 11) rfl (z_eI (sp_aload_n (q := 0) dX9_takes_18 rfl rfl)) <|
  z_ac (j := 12) rfl (z_eI (sp_aload_n (q := 0) dX9_takes_19 rfl rfl)) <|
  z_ac (j := 13) rfl (z_eI (sp_getf (C := RX9) (T := TX9) (Nf := 23) dX9_takes_20 rfl inX9 (by decide) wf_1362 rfl)) <|
  z_ac (j := 14) rfl (z_eI (sp_putI (C := RX9) (T := TX9) (Nf := 23) dX9_takes_23 rfl inX9 tyX9_ok nmX9 (by decide) wf_1355 rfl (by decide +kernel) rfl)) <|
  z_ac (j := 15) rfl (z_eI (sp_iconst dX9_takes_26 (by decide +kernel) rfl)) <|
  z_ac (j := 16) rfl (z_eR (sr_bool dX9_takes_27 rfl)) <|
  z_ac (j := 17) rfl (z_eI (sp_aload_n (q := 0) dX9_takes_28 rfl rfl)) <|
  z_ac (j := 18) rfl (z_cV dX9_takes_29 wl_1439 qX9_next (by decide +kernel) ⟨_, _, rfl⟩ (z_sn rfl rfl) rfl) <|
  z_ac (j := 19) rfl (z_eI (sp_iconst dX9_takes_32 (by decide +kernel) rfl)) <|
  z_ac (j := 20) rfl (z_eR (sr_bool dX9_takes_33 rfl)) <| z_an
theorem dX9_takesNumber_0 : decode cX9_takesNumber 0 = .ok (.aload_n 0, 1) := by decide +kernel
theorem dX9_takesNumber_1 : decode cX9_takesNumber 1 = .ok (.getfield 176, 3) := by decide +kernel
theorem dX9_takesNumber_4 : decode cX9_takesNumber 4 = .ok (.istore_n 3, 1) := by decide +kernel
theorem dX9_takesNumber_5 : decode cX9_takesNumber 5 = .ok (.aload_n 0, 1) := by decide +kernel
theorem dX9_takesNumber_6 : decode cX9_takesNumber 6 = .ok (.aload_n 0, 1) := by decide +kernel
theorem dX9_takesNumber_7 : decode cX9_takesNumber 7 = .ok (.getfield 183, 3) := by decide +kernel
theorem dX9_takesNumber_10 : decode cX9_takesNumber 10 = .ok (.iconst 2, 1) := by decide +kernel
theorem dX9_takesNumber_11 : decode cX9_takesNumber 11 = .ok (.if_icmp .ne 16, 3) := by decide +kernel
theorem dX9_takesNumber_14 : decode cX9_takesNumber 14 = .ok (.iload_n 3, 1) := by decide +kernel
theorem dX9_takesNumber_15 : decode cX9_takesNumber 15 = .ok (.iload_n 1, 1) := by decide +kernel
theorem dX9_takesNumber_16 : decode cX9_takesNumber 16 = .ok (.iload_n 2, 1) := by decide +kernel
theorem dX9_takesNumber_17 : decode cX9_takesNumber 17 = .ok (.invokestatic 56, 3) := by decide +kernel
theorem dX9_takesNumber_20 : decode cX9_takesNumber 20 = .ok (.ifCond .eq 7, 3) := by decide +kernel
theorem dX9_takesNumber_23 : decode cX9_takesNumber 23 = .ok (.iconst 1, 1) := by decide +kernel
theorem dX9_takesNumber_24 : decode cX9_takesNumber 24 = .ok (.goto 4, 3) := by decide +kernel
theorem dX9_takesNumber_27 : decode cX9_takesNumber 27 = .ok (.iconst 0, 1) := by decide +kernel
theorem dX9_takesNumber_28 : decode cX9_takesNumber 28 = .ok (.invokevirtual 210, 3) := by decide +kernel
theorem dX9_takesNumber_31 : decode cX9_takesNumber 31 = .ok (.ifCond .eq 7, 3) := by decide +kernel
theorem dX9_takesNumber_34 : decode cX9_takesNumber 34 = .ok (.iload_n 3, 1) := by decide +kernel
theorem dX9_takesNumber_35 : decode cX9_takesNumber 35 = .ok (.goto 4, 3) := by decide +kernel
theorem dX9_takesNumber_38 : decode cX9_takesNumber 38 = .ok (.iload_n 1, 1) := by decide +kernel
theorem dX9_takesNumber_39 : decode cX9_takesNumber 39 = .ok (.ireturn, 1) := by decide +kernel
theorem tX9_takesNumber {L : Nat} {xs : Nat → Int32} {N : Nat} : z_AllE (zE L xs N 53) 0 (kX9_takesNumber N) :=
  z_ac (j := 1) rfl (z_eI (sp_aload_n (q := 0) dX9_takesNumber_0 rfl rfl)) <|
  z_ac (j := 2) rfl (z_eI (sp_getf (C := RX9) (T := TX9) (Nf := 23) dX9_takesNumber_1 rfl inX9 (by decide) wf_1364 rfl)) <|
  z_ac (j := 3) rfl (z_eI (sp_istore_n (q := 3) dX9_takesNumber_4 rfl (by decide) (fun _ _ => rfl) rfl)) <|
  z_ac (j := 4) rfl (z_eI (sp_aload_n (q := 0) dX9_takesNumber_5 rfl rfl)) <|
  z_ac (j := 5) rfl (z_eI (sp_aload_n (q := 0) dX9_takesNumber_6 rfl rfl)) <|
  z_ac (j := 6) rfl (z_eI (sp_getf (C := RX9) (T := TX9) (Nf := 23) dX9_takesNumber_7 rfl inX9 (by decide) wf_1363 rfl)) <|
  z_ac (j := 7) rfl (z_eI (sp_iconst dX9_takesNumber_10 (by decide +kernel) rfl)) <|
  z_ac (j := 8) rfl (z_eI (sp_icmp_ne dX9_takesNumber_11 rfl rfl)) <|
  z_ac (j := 9) rfl (z_eI (sp_iload_n (q := 3) dX9_takesNumber_14 rfl rfl)) <|
  z_ac (j := 10) rfl (z_eI (sp_iload_n (q := 1) dX9_takesNumber_15 rfl rfl)) <|
  z_ac (j := 11) rfl (z_eI (sp_iload_n (q := 2) dX9_takesNumber_16 rfl rfl)) <|
  z_ac (j := 12) rfl (z_cS dX9_takesNumber_17 wl_1432 qX9_in (by decide +kernel) (z_sn rfl rfl) rfl) <|
  z_ac (j := 13) rfl (z_eI (sp_if_eq dX9_takesNumber_20 rfl rfl)) <|
  z_ac (j := 14) rfl (z_eI (sp_iconst dX9_takesNumber_23 (by decide +kernel) rfl)) <|
  z_ac (j := 15) rfl (z_eI (sp_goto dX9_takesNumber_24 rfl)) <|
  z_ac (j := 16) rfl (z_eI (sp_iconst dX9_takesNumber_27 (by decide +kernel) rfl)) <|
  z_ac (j := 17) rfl (z_cV dX9_takesNumber_28 wl_1470 qX9_takes (by decide +kernel) ⟨_, _, rfl⟩ (z_sn rfl rfl) rfl) <|
  z_ac (j := 18) rfl (z_eI (sp_if_eq dX9_takesNumber_31 rfl rfl)) <|
  z_ac (j := 19) rfl (z_eI (sp_iload_n (q := 3) dX9_takesNumber_34 rfl rfl)) <|
  z_ac (j := 20) rfl (z_eI (sp_goto dX9_takesNumber_35 rfl)) <|
  z_ac (j := 21) rfl (z_eI (sp_iload_n (q := 1) dX9_takesNumber_38 rfl rfl)) <|
  z_ac (j := 22) rfl (z_eR (sr_int dX9_takesNumber_39 rfl)) <| z_an
theorem dX9_cellOf_0 : decode cX9_cellOf 0 = .ok (.iload_n 0, 1) := by decide +kernel
theorem dX9_cellOf_1 : decode cX9_cellOf 1 = .ok (.lookupswitch 52 #[(102, 43), (104, 47), (112, 49), (119, 45)], 43) := by decide +kernel
theorem dX9_cellOf_44 : decode cX9_cellOf 44 = .ok (.iconst 0, 1) := by decide +kernel
theorem dX9_cellOf_45 : decode cX9_cellOf 45 = .ok (.ireturn, 1) := by decide +kernel
theorem dX9_cellOf_46 : decode cX9_cellOf 46 = .ok (.iconst 1, 1) := by decide +kernel
theorem dX9_cellOf_47 : decode cX9_cellOf 47 = .ok (.ireturn, 1) := by decide +kernel
theorem dX9_cellOf_48 : decode cX9_cellOf 48 = .ok (.iconst 2, 1) := by decide +kernel
theorem dX9_cellOf_49 : decode cX9_cellOf 49 = .ok (.ireturn, 1) := by decide +kernel
theorem dX9_cellOf_50 : decode cX9_cellOf 50 = .ok (.bipush 13, 2) := by decide +kernel
theorem dX9_cellOf_52 : decode cX9_cellOf 52 = .ok (.ireturn, 1) := by decide +kernel
theorem dX9_cellOf_53 : decode cX9_cellOf 53 = .ok (.iconst (-1), 1) := by decide +kernel
theorem dX9_cellOf_54 : decode cX9_cellOf 54 = .ok (.ireturn, 1) := by decide +kernel
theorem tX9_cellOf {L : Nat} {xs : Nat → Int32} {N : Nat} : z_AllE (zE L xs N 54) 0 (kX9_cellOf N) :=
  z_ac (j := 1) rfl (z_eI (sp_iload_n (q := 0) dX9_cellOf_0 rfl rfl)) <|
  z_ac (j := 2) rfl (z_eI (sp_lsw dX9_cellOf_1 (by decide +kernel) (by intro z; change ((zP 54 1 : Nat) : Int) + (if (102 : Int) = z then (43 : Int) else if (104 : Int) = z then (47 : Int) else if (112 : Int) = z then (49 : Int) else if (119 : Int) = z then (45 : Int) else (52 : Int)) = ((zP 54 (if (102 : Int) = z then 2 else if (104 : Int) = z then 6 else if (112 : Int) = z then 8 else if (119 : Int) = z then 4 else 10) : Nat) : Int); (repeat' split) <;> rfl))) <|
  z_ac (j := 3) rfl (z_eI (sp_iconst dX9_cellOf_44 (by decide +kernel) rfl)) <|
  z_ac (j := 4) rfl (z_eR (sr_int dX9_cellOf_45 rfl)) <|
  z_ac (j := 5) rfl (z_eI (sp_iconst dX9_cellOf_46 (by decide +kernel) rfl)) <|
  z_ac (j := 6) rfl (z_eR (sr_int dX9_cellOf_47 rfl)) <|
  z_ac (j := 7) rfl (z_eI (sp_iconst dX9_cellOf_48 (by decide +kernel) rfl)) <|
  z_ac (j := 8) rfl (z_eR (sr_int dX9_cellOf_49 rfl)) <|
  z_ac (j := 9) rfl (z_eI (sp_bipush dX9_cellOf_50 (by decide +kernel) rfl)) <|
  z_ac (j := 10) rfl (z_eR (sr_int dX9_cellOf_52 rfl)) <|
  z_ac (j := 11) rfl (z_eI (sp_iconst dX9_cellOf_53 (by decide +kernel) rfl)) <|
  z_ac (j := 12) rfl (z_eR (sr_int dX9_cellOf_54 rfl)) <| z_an
theorem dX9_areCells_0 : decode cX9_areCells 0 = .ok (.aload_n 0, 1) := by decide +kernel
theorem dX9_areCells_1 : decode cX9_areCells 1 = .ok (.getfield 183, 3) := by decide +kernel
theorem dX9_areCells_4 : decode cX9_areCells 4 = .ok (.iconst 1, 1) := by decide +kernel
theorem dX9_areCells_5 : decode cX9_areCells 5 = .ok (.if_icmp .ne 25, 3) := by decide +kernel
theorem dX9_areCells_8 : decode cX9_areCells 8 = .ok (.aload_n 0, 1) := by decide +kernel
theorem dX9_areCells_9 : decode cX9_areCells 9 = .ok (.getfield 170, 3) := by decide +kernel
theorem dX9_areCells_12 : decode cX9_areCells 12 = .ok (.aload_n 0, 1) := by decide +kernel
theorem dX9_areCells_13 : decode cX9_areCells 13 = .ok (.getfield 173, 3) := by decide +kernel
theorem dX9_areCells_16 : decode cX9_areCells 16 = .ok (.isub, 1) := by decide +kernel
theorem dX9_areCells_17 : decode cX9_areCells 17 = .ok (.aload_n 0, 1) := by decide +kernel
theorem dX9_areCells_18 : decode cX9_areCells 18 = .ok (.getfield 13, 3) := by decide +kernel
theorem dX9_areCells_21 : decode cX9_areCells 21 = .ok (.iconst 0, 1) := by decide +kernel
theorem dX9_areCells_22 : decode cX9_areCells 22 = .ok (.iaload, 1) := by decide +kernel
theorem dX9_areCells_23 : decode cX9_areCells 23 = .ok (.if_icmp .ne 7, 3) := by decide +kernel
theorem dX9_areCells_26 : decode cX9_areCells 26 = .ok (.iconst 1, 1) := by decide +kernel
theorem dX9_areCells_27 : decode cX9_areCells 27 = .ok (.goto 4, 3) := by decide +kernel
theorem dX9_areCells_30 : decode cX9_areCells 30 = .ok (.iconst 0, 1) := by decide +kernel
theorem dX9_areCells_31 : decode cX9_areCells 31 = .ok (.istore_n 1, 1) := by decide +kernel
theorem dX9_areCells_32 : decode cX9_areCells 32 = .ok (.aload_n 0, 1) := by decide +kernel
theorem dX9_areCells_33 : decode cX9_areCells 33 = .ok (.getfield 173, 3) := by decide +kernel
theorem dX9_areCells_36 : decode cX9_areCells 36 = .ok (.istore_n 2, 1) := by decide +kernel
theorem dX9_areCells_37 : decode cX9_areCells 37 = .ok (.iload_n 2, 1) := by decide +kernel
theorem dX9_areCells_38 : decode cX9_areCells 38 = .ok (.aload_n 0, 1) := by decide +kernel
theorem dX9_areCells_39 : decode cX9_areCells 39 = .ok (.getfield 170, 3) := by decide +kernel
theorem dX9_areCells_42 : decode cX9_areCells 42 = .ok (.if_icmp .ge 31, 3) := by decide +kernel
theorem dX9_areCells_45 : decode cX9_areCells 45 = .ok (.iload_n 1, 1) := by decide +kernel
theorem dX9_areCells_46 : decode cX9_areCells 46 = .ok (.ifCond .eq 27, 3) := by decide +kernel
theorem dX9_areCells_49 : decode cX9_areCells 49 = .ok (.aload_n 0, 1) := by decide +kernel
theorem dX9_areCells_50 : decode cX9_areCells 50 = .ok (.getfield 29, 3) := by decide +kernel
theorem dX9_areCells_53 : decode cX9_areCells 53 = .ok (.iload_n 2, 1) := by decide +kernel
theorem dX9_areCells_54 : decode cX9_areCells 54 = .ok (.iaload, 1) := by decide +kernel
theorem dX9_areCells_55 : decode cX9_areCells 55 = .ok (.invokestatic 214, 3) := by decide +kernel
theorem dX9_areCells_58 : decode cX9_areCells 58 = .ok (.ifCond .lt 7, 3) := by decide +kernel
theorem dX9_areCells_61 : decode cX9_areCells 61 = .ok (.iconst 1, 1) := by decide +kernel
theorem dX9_areCells_62 : decode cX9_areCells 62 = .ok (.goto 4, 3) := by decide +kernel
theorem dX9_areCells_65 : decode cX9_areCells 65 = .ok (.iconst 0, 1) := by decide +kernel
theorem dX9_areCells_66 : decode cX9_areCells 66 = .ok (.istore_n 1, 1) := by decide +kernel
theorem dX9_areCells_67 : decode cX9_areCells 67 = .ok (.iinc 2 1, 3) := by decide +kernel
theorem dX9_areCells_70 : decode cX9_areCells 70 = .ok (.goto (-33), 3) := by decide +kernel
theorem dX9_areCells_73 : decode cX9_areCells 73 = .ok (.iload_n 1, 1) := by decide +kernel
theorem dX9_areCells_74 : decode cX9_areCells 74 = .ok (.ireturn, 1) := by decide +kernel
theorem tX9_areCells {L : Nat} {xs : Nat → Int32} {N : Nat} : z_AllE (zE L xs N 55) 0 (kX9_areCells N) :=
  z_ac (j := 1) rfl (z_eI (sp_aload_n (q := 0) dX9_areCells_0 rfl rfl)) <|
  z_ac (j := 2) rfl (z_eI (sp_getf (C := RX9) (T := TX9) (Nf := 23) dX9_areCells_1 rfl inX9 (by decide) wf_1363 rfl)) <|
  z_ac (j := 3) rfl (z_eI (sp_iconst dX9_areCells_4 (by decide +kernel) rfl)) <|
  z_ac (j := 4) rfl (z_eI (sp_icmp_ne dX9_areCells_5 rfl rfl)) <|
  z_ac (j := 5) rfl (z_eI (sp_aload_n (q := 0) dX9_areCells_8 rfl rfl)) <|
  z_ac (j := 6) rfl (z_eI (sp_getf (C := RX9) (T := TX9) (Nf := 23) dX9_areCells_9 rfl inX9 (by decide) wf_1361 rfl)) <|
  z_ac (j := 7) rfl (z_eI (sp_aload_n (q := 0) dX9_areCells_12 rfl rfl)) <|
  z_ac (j := 8) rfl (z_eI (sp_getf (C := RX9) (T := TX9) (Nf := 23) dX9_areCells_13 rfl inX9 (by decide) wf_1362 rfl)) <|
  z_ac (j := 9) rfl (z_eI (sp_isub dX9_areCells_16 rfl)) <|
  z_ac (j := 10) rfl (z_eI (sp_aload_n (q := 0) dX9_areCells_17 rfl rfl)) <|
  z_ac (j := 11) rfl (z_eI (sp_getf (C := RX9) (T := TX9) (Nf := 23) dX9_areCells_18 rfl inX9 (by decide) wf_1347 rfl)) <|
  z_ac (j := 12) rfl (z_eI (sp_iconst dX9_areCells_21 (by decide +kernel) rfl)) <|
  z_ac (j := 13) rfl (z_eI (sp_iald dX9_areCells_22 rfl)) <|
  z_ac (j := 14) rfl (z_eI (sp_icmp_ne dX9_areCells_23 rfl rfl)) <|
  z_ac (j := 15) rfl (z_eI (sp_iconst dX9_areCells_26 (by decide +kernel) rfl)) <|
  z_ac (j := 16) rfl (z_eI (sp_goto dX9_areCells_27 rfl)) <|
  z_ac (j := 17) rfl (z_eI (sp_iconst dX9_areCells_30 (by decide +kernel) rfl)) <|
  z_ac (j := 18) rfl (z_eI (sp_istore_n (q := 1) dX9_areCells_31 rfl (by decide) (fun _ _ => rfl) rfl)) <|
  z_ac (j := 19) rfl (z_eI (sp_aload_n (q := 0) dX9_areCells_32 rfl rfl)) <|
  z_ac (j := 20) rfl (z_eI (sp_getf (C := RX9) (T := TX9) (Nf := 23) dX9_areCells_33 rfl inX9 (by decide) wf_1362 rfl)) <|
  z_ac (j := 21) rfl (z_eI (sp_istore_n (q := 2) dX9_areCells_36 rfl (by decide) (fun _ _ => rfl) rfl)) <|
  z_ac (j := 22) rfl (z_eI (sp_iload_n (q := 2) dX9_areCells_37 rfl rfl)) <|
  z_ac (j := 23) rfl (z_eI (sp_aload_n (q := 0) dX9_areCells_38 rfl rfl)) <|
  z_ac (j := 24) rfl (z_eI (sp_getf (C := RX9) (T := TX9) (Nf := 23) dX9_areCells_39 rfl inX9 (by decide) wf_1361 rfl)) <|
  z_ac (j := 25) rfl (z_eI (sp_icmp_ge dX9_areCells_42 rfl rfl)) <|
  z_ac (j := 26) rfl (z_eI (sp_iload_n (q := 1) dX9_areCells_45 rfl rfl)) <|
  z_ac (j := 27) rfl (z_eI (sp_if_eq dX9_areCells_46 rfl rfl)) <|
  z_ac (j := 28) rfl (z_eI (sp_aload_n (q := 0) dX9_areCells_49 rfl rfl)) <|
  z_ac (j := 29) rfl (z_eI (sp_getf (C := RX9) (T := TX9) (Nf := 23) dX9_areCells_50 rfl inX9 (by decide) wf_1353 rfl)) <|
  z_ac (j := 30) rfl (z_eI (sp_iload_n (q := 2) dX9_areCells_53 rfl rfl)) <|
  z_ac (j := 31) rfl (z_eI (sp_iald dX9_areCells_54 rfl)) <|
  z_ac (j := 32) rfl (z_cS dX9_areCells_55 wl_1488 qX9_cellOf (by decide +kernel) (z_sn rfl rfl) rfl) <|
  z_ac (j := 33) rfl (z_eI (sp_if_lt dX9_areCells_58 rfl rfl)) <|
  z_ac (j := 34) rfl (z_eI (sp_iconst dX9_areCells_61 (by decide +kernel) rfl)) <|
  z_ac (j := 35) rfl (z_eI (sp_goto dX9_areCells_62 rfl)) <|
  z_ac (j := 36) rfl (z_eI (sp_iconst dX9_areCells_65 (by decide +kernel) rfl)) <|
  z_ac (j := 37) rfl (z_eI (sp_istore_n (q := 1) dX9_areCells_66 rfl (by decide) (fun _ _ => rfl) rfl)) <|
  z_ac (j := 38) rfl (z_eI (sp_iinc dX9_areCells_67 (by decide +kernel) (by decide) (fun _ _ => rfl) rfl)) <|
  z_ac (j := 39) rfl (z_eI (sp_goto dX9_areCells_70 rfl)) <|
  z_ac (j := 40) rfl (z_eI (sp_iload_n (q := 1) dX9_areCells_73 rfl rfl)) <|
  z_ac (j := 41) rfl (z_eR (sr_bool dX9_areCells_74 rfl)) <| z_an
theorem dX9_readRow_0 : decode cX9_readRow 0 = .ok (.aload_n 0, 1) := by decide +kernel
theorem dX9_readRow_1 : decode cX9_readRow 1 = .ok (.aload_n 0, 1) := by decide +kernel
theorem dX9_readRow_2 : decode cX9_readRow 2 = .ok (.ldc2_w 217, 3) := by decide +kernel
theorem dX9_readRow_5 : decode cX9_readRow 5 = .ok (.invokevirtual 219, 3) := by decide +kernel
theorem dX9_readRow_8 : decode cX9_readRow 8 = .ok (.invokevirtual 210, 3) := by decide +kernel
theorem dX9_readRow_11 : decode cX9_readRow 11 = .ok (.pop, 1) := by decide +kernel
theorem dX9_readRow_12 : decode cX9_readRow 12 = .ok (.aload_n 0, 1) := by decide +kernel
theorem dX9_readRow_13 : decode cX9_readRow 13 = .ok (.getfield 203, 3) := by decide +kernel
theorem dX9_readRow_16 : decode cX9_readRow 16 = .ok (.ifCond .eq 4, 3) := by decide +kernel
theorem dX9_readRow_19 : decode cX9_readRow 19 = .ok (.return_, 1) := by decide +kernel
theorem dX9_readRow_20 : decode cX9_readRow 20 = .ok (.aload_n 0, 1) := by decide +kernel
theorem dX9_readRow_21 : decode cX9_readRow 21 = .ok (.invokevirtual 223, 3) := by decide +kernel
theorem dX9_readRow_24 : decode cX9_readRow 24 = .ok (.ifCond .eq 45, 3) := by decide +kernel
theorem dX9_readRow_27 : decode cX9_readRow 27 = .ok (.iconst 0, 1) := by decide +kernel
theorem dX9_readRow_28 : decode cX9_readRow 28 = .ok (.istore_n 2, 1) := by decide +kernel
theorem dX9_readRow_29 : decode cX9_readRow 29 = .ok (.iload_n 2, 1) := by decide +kernel
theorem dX9_readRow_30 : decode cX9_readRow 30 = .ok (.aload_n 0, 1) := by decide +kernel
theorem dX9_readRow_31 : decode cX9_readRow 31 = .ok (.getfield 13, 3) := by decide +kernel
theorem dX9_readRow_34 : decode cX9_readRow 34 = .ok (.iconst 0, 1) := by decide +kernel
theorem dX9_readRow_35 : decode cX9_readRow 35 = .ok (.iaload, 1) := by decide +kernel
theorem dX9_readRow_36 : decode cX9_readRow 36 = .ok (.if_icmp .ge 33, 3) := by decide +kernel
theorem dX9_readRow_39 : decode cX9_readRow 39 = .ok (.aload_n 0, 1) := by decide +kernel
theorem dX9_readRow_40 : decode cX9_readRow 40 = .ok (.getfield 13, 3) := by decide +kernel
theorem dX9_readRow_43 : decode cX9_readRow 43 = .ok (.iload_n 2, 1) := by decide +kernel
theorem dX9_readRow_44 : decode cX9_readRow 44 = .ok (.iload_n 1, 1) := by decide +kernel
theorem dX9_readRow_45 : decode cX9_readRow 45 = .ok (.invokestatic 45, 3) := by decide +kernel
theorem dX9_readRow_48 : decode cX9_readRow 48 = .ok (.aload_n 0, 1) := by decide +kernel
theorem dX9_readRow_49 : decode cX9_readRow 49 = .ok (.getfield 29, 3) := by decide +kernel
theorem dX9_readRow_52 : decode cX9_readRow 52 = .ok (.aload_n 0, 1) := by decide +kernel
theorem dX9_readRow_53 : decode cX9_readRow 53 = .ok (.getfield 173, 3) := by decide +kernel
theorem dX9_readRow_56 : decode cX9_readRow 56 = .ok (.iload_n 2, 1) := by decide +kernel
theorem dX9_readRow_57 : decode cX9_readRow 57 = .ok (.iadd, 1) := by decide +kernel
theorem dX9_readRow_58 : decode cX9_readRow 58 = .ok (.iaload, 1) := by decide +kernel
theorem dX9_readRow_59 : decode cX9_readRow 59 = .ok (.invokestatic 214, 3) := by decide +kernel
theorem dX9_readRow_62 : decode cX9_readRow 62 = .ok (.iastore, 1) := by decide +kernel
theorem dX9_readRow_63 : decode cX9_readRow 63 = .ok (.iinc 2 1, 3) := by decide +kernel
theorem dX9_readRow_66 : decode cX9_readRow 66 = .ok (.goto (-37), 3) := by decide +kernel
theorem dX9_readRow_69 : decode cX9_readRow 69 = .ok (.aload_n 0, 1) := by decide +kernel
theorem dX9_readRow_70 : decode cX9_readRow 70 = .ok (.aload_n 0, 1) := by decide +kernel
theorem dX9_readRow_71 : decode cX9_readRow 71 = .ok (.invokevirtual 223, 3) := by decide +kernel
theorem dX9_readRow_74 : decode cX9_readRow 74 = .ok (.invokevirtual 210, 3) := by decide +kernel
theorem dX9_readRow_77 : decode cX9_readRow 77 = .ok (.pop, 1) := by decide +kernel
theorem dX9_readRow_78 : decode cX9_readRow 78 = .ok (.aload_n 0, 1) := by decide +kernel
theorem dX9_readRow_79 : decode cX9_readRow 79 = .ok (.aload_n 0, 1) := by decide +kernel
theorem dX9_readRow_80 : decode cX9_readRow 80 = .ok (.getfield 183, 3) := by decide +kernel
theorem dX9_readRow_83 : decode cX9_readRow 83 = .ok (.iconst 3, 1) := by decide +kernel
theorem dX9_readRow_84 : decode cX9_readRow 84 = .ok (.if_icmp .ne 7, 3) := by decide +kernel
theorem dX9_readRow_87 : decode cX9_readRow 87 = .ok (.iconst 1, 1) := by decide +kernel
theorem dX9_readRow_88 : decode cX9_readRow 88 = .ok (.goto 4, 3) := by decide +kernel
theorem dX9_readRow_91 : decode cX9_readRow 91 = .ok (.iconst 0, 1) := by decide +kernel
theorem dX9_readRow_92 : decode cX9_readRow 92 = .ok (.invokevirtual 210, 3) := by decide +kernel
theorem dX9_readRow_95 : decode cX9_readRow 95 = .ok (.pop, 1) := by decide +kernel
theorem dX9_readRow_96 : decode cX9_readRow 96 = .ok (.return_, 1) := by decide +kernel
theorem tX9_readRow {L : Nat} {xs : Nat → Int32} {N : Nat} : z_AllE (zE L xs N 56) 0 (kX9_readRow N) :=
  z_ac (j := 1) rfl (z_eI (sp_aload_n (q := 0) dX9_readRow_0 rfl rfl)) <|
  z_ac (j := 2) rfl (z_eI (sp_aload_n (q := 0) dX9_readRow_1 rfl rfl)) <|
  z_ac (j := 3) rfl (z_eI (sp_ldc2 dX9_readRow_2 wk_1483 rfl)) <|
  z_ac (j := 4) rfl (z_cV dX9_readRow_5 wl_1466 qX9_is (by decide +kernel) ⟨_, _, rfl⟩ (z_sn rfl rfl) rfl) <|
  z_ac (j := 5) rfl (z_cV dX9_readRow_8 wl_1470 qX9_takes (by decide +kernel) ⟨_, _, rfl⟩ (z_sn rfl rfl) rfl) <|
  z_ac (j := 6) rfl (z_eI (sp_pop dX9_readRow_11 rfl)) <|
  z_ac (j := 7) rfl (z_eI (sp_aload_n (q := 0) dX9_readRow_12 rfl rfl)) <|
  z_ac (j := 8) rfl (z_eI (sp_getf (C := RX9) (T := TX9) (Nf := 23) dX9_readRow_13 rfl inX9 (by decide) wf_1366 rfl)) <|
  z_ac (j := 9) rfl (z_eI (sp_if_eq dX9_readRow_16 rfl rfl)) <|
  z_ac (j := 10) rfl (z_eW (sv_void dX9_readRow_19 rfl)) <|
  z_ac (j := 11) rfl (z_eI (sp_aload_n (q := 0) dX9_readRow_20 rfl rfl)) <|
  z_ac (j := 12) rfl (z_cV dX9_readRow_21 wl_1484 qX9_areCells (by decide +kernel) ⟨_, _, rfl⟩ (z_sn rfl rfl) rfl) <|
  z_ac (j := 13) rfl (z_eI (sp_if_eq dX9_readRow_24 rfl rfl)) <|
  z_ac (j := 14) rfl (z_eI (sp_iconst dX9_readRow_27 (by decide +kernel) rfl)) <|
  z_ac (j := 15) rfl (z_eI (sp_istore_n (q := 2) dX9_readRow_28 rfl (by decide) (fun _ _ => rfl) rfl)) <|
  z_ac (j := 16) rfl (z_eI (sp_iload_n (q := 2) dX9_readRow_29 rfl rfl)) <|
  z_ac (j := 17) rfl (z_eI (sp_aload_n (q := 0) dX9_readRow_30 rfl rfl)) <|
  z_ac (j := 18) rfl (z_eI (sp_getf (C := RX9) (T := TX9) (Nf := 23) dX9_readRow_31 rfl inX9 (by decide) wf_1347 rfl)) <|
  z_ac (j := 19) rfl (z_eI (sp_iconst dX9_readRow_34 (by decide +kernel) rfl)) <|
  z_ac (j := 20) rfl (z_eI (sp_iald dX9_readRow_35 rfl)) <|
  z_ac (j := 21) rfl (z_eI (sp_icmp_ge dX9_readRow_36 rfl rfl)) <|
  z_ac (j := 22) rfl (z_eI (sp_aload_n (q := 0) dX9_readRow_39 rfl rfl)) <|
  z_ac (j := 23) rfl (z_eI (sp_getf (C := RX9) (T := TX9) (Nf := 23) dX9_readRow_40 rfl inX9 (by decide) wf_1347 rfl)) <|
  z_ac (j := 24) rfl (z_eI (sp_iload_n (q := 2) dX9_readRow_43 rfl rfl)) <|
  z_ac (j := 25) rfl (z_eI (sp_iload_n (q := 1) dX9_readRow_44 rfl rfl)) <|
  z_ac (j := 26) rfl (z_cS dX9_readRow_45 wl_1343 qX9_cellAt (by decide +kernel) (z_sn rfl rfl) rfl) <|
  z_ac (j := 27) rfl (z_eI (sp_aload_n (q := 0) dX9_readRow_48 rfl rfl)) <|
  z_ac (j := 28) rfl (z_eI (sp_getf (C := RX9) (T := TX9) (Nf := 23) dX9_readRow_49 rfl inX9 (by decide) wf_1353 rfl)) <|
  z_ac (j := 29) rfl (z_eI (sp_aload_n (q := 0) dX9_readRow_52 rfl rfl)) <|
  z_ac (j := 30) rfl (z_eI (sp_getf (C := RX9) (T := TX9) (Nf := 23) dX9_readRow_53 rfl inX9 (by decide) wf_1362 rfl)) <|
  z_ac (j := 31) rfl (z_eI (sp_iload_n (q := 2) dX9_readRow_56 rfl rfl)) <|
  z_ac (j := 32) rfl (z_eI (sp_iadd dX9_readRow_57 rfl)) <|
  z_ac (j := 33) rfl (z_eI (sp_iald dX9_readRow_58 rfl)) <|
  z_ac (j := 34) rfl (z_cS dX9_readRow_59 wl_1488 qX9_cellOf (by decide +kernel) (z_sn rfl rfl) rfl) <|
  z_ac (j := 35) rfl (z_eI (sp_iast dX9_readRow_62 rfl)) <|
  z_ac (j := 36) rfl (z_eI (sp_iinc dX9_readRow_63 (by decide +kernel) (by decide) (fun _ _ => rfl) rfl)) <|
  z_ac (j := 37) rfl (z_eI (sp_goto dX9_readRow_66 rfl)) <|
  z_ac (j := 38) rfl (z_eI (sp_aload_n (q := 0) dX9_readRow_69 rfl rfl)) <|
  z_ac (j := 39) rfl (z_eI (sp_aload_n (q := 0) dX9_readRow_70 rfl rfl)) <|
  z_ac (j := 40) rfl (z_cV dX9_readRow_71 wl_1484 qX9_areCells (by decide +kernel) ⟨_, _, rfl⟩ (z_sn rfl rfl) rfl) <|
  z_ac (j := 41) rfl (z_cV dX9_readRow_74 wl_1470 qX9_takes (by decide +kernel) ⟨_, _, rfl⟩ (z_sn rfl rfl) rfl) <|
  z_ac (j := 42) rfl (z_eI (sp_pop dX9_readRow_77 rfl)) <|
  z_ac (j := 43) rfl (z_eI (sp_aload_n (q := 0) dX9_readRow_78 rfl rfl)) <|
  z_ac (j := 44) rfl (z_eI (sp_aload_n (q := 0) dX9_readRow_79 rfl rfl)) <|
  z_ac (j := 45) rfl (z_eI (sp_getf (C := RX9) (T := TX9) (Nf := 23) dX9_readRow_80 rfl inX9 (by decide) wf_1363 rfl)) <|
  z_ac (j := 46) rfl (z_eI (sp_iconst dX9_readRow_83 (by decide +kernel) rfl)) <|
  z_ac (j := 47) rfl (z_eI (sp_icmp_ne dX9_readRow_84 rfl rfl)) <|
  z_ac (j := 48) rfl (z_eI (sp_iconst dX9_readRow_87 (by decide +kernel) rfl)) <|
  z_ac (j := 49) rfl (z_eI (sp_goto dX9_readRow_88 rfl)) <|
  z_ac (j := 50) rfl (z_eI (sp_iconst dX9_readRow_91 (by decide +kernel) rfl)) <|
  z_ac (j := 51) rfl (z_cV dX9_readRow_92 wl_1470 qX9_takes (by decide +kernel) ⟨_, _, rfl⟩ (z_sn rfl rfl) rfl) <|
  z_ac (j := 52) rfl (z_eI (sp_pop dX9_readRow_95 rfl)) <|
  z_ac (j := 53) rfl (z_eW (sv_void dX9_readRow_96 rfl)) <| z_an
theorem dX9_readFog_0 : decode cX9_readFog 0 = .ok (.aload_n 0, 1) := by decide +kernel
theorem dX9_readFog_1 : decode cX9_readFog 1 = .ok (.invokevirtual 207, 3) := by decide +kernel
theorem dX9_readFog_4 : decode cX9_readFog 4 = .ok (.aload_n 0, 1) := by decide +kernel
theorem dX9_readFog_5 : decode cX9_readFog 5 = .ok (.iconst 0, 1) := by decide +kernel
theorem dX9_readFog_6 : decode cX9_readFog 6 = .ok (.bipush 23, 2) := by decide +kernel
theorem dX9_readFog_8 : decode cX9_readFog 8 = .ok (.invokevirtual 227, 3) := by decide +kernel
theorem dX9_readFog_11 : decode cX9_readFog 11 = .ok (.istore_n 1, 1) := by decide +kernel
theorem dX9_readFog_12 : decode cX9_readFog 12 = .ok (.aload_n 0, 1) := by decide +kernel
theorem dX9_readFog_13 : decode cX9_readFog 13 = .ok (.iconst 0, 1) := by decide +kernel
theorem dX9_readFog_14 : decode cX9_readFog 14 = .ok (.bipush 9, 2) := by decide +kernel
theorem dX9_readFog_16 : decode cX9_readFog 16 = .ok (.invokevirtual 227, 3) := by decide +kernel
theorem dX9_readFog_19 : decode cX9_readFog 19 = .ok (.istore_n 2, 1) := by decide +kernel
theorem dX9_readFog_20 : decode cX9_readFog 20 = .ok (.aload_n 0, 1) := by decide +kernel
theorem dX9_readFog_21 : decode cX9_readFog 21 = .ok (.aload_n 0, 1) := by decide +kernel
theorem dX9_readFog_22 : decode cX9_readFog 22 = .ok (.getfield 183, 3) := by decide +kernel
theorem dX9_readFog_25 : decode cX9_readFog 25 = .ok (.iconst 3, 1) := by decide +kernel
theorem dX9_readFog_26 : decode cX9_readFog 26 = .ok (.if_icmp .ne 7, 3) := by decide +kernel
theorem dX9_readFog_29 : decode cX9_readFog 29 = .ok (.iconst 1, 1) := by decide +kernel
theorem dX9_readFog_30 : decode cX9_readFog 30 = .ok (.goto 4, 3) := by decide +kernel
theorem dX9_readFog_33 : decode cX9_readFog 33 = .ok (.iconst 0, 1) := by decide +kernel
theorem dX9_readFog_34 : decode cX9_readFog 34 = .ok (.invokevirtual 210, 3) := by decide +kernel
theorem dX9_readFog_37 : decode cX9_readFog 37 = .ok (.ifCond .eq 13, 3) := by decide +kernel
theorem dX9_readFog_40 : decode cX9_readFog 40 = .ok (.aload_n 0, 1) := by decide +kernel
theorem dX9_readFog_41 : decode cX9_readFog 41 = .ok (.getfield 13, 3) := by decide +kernel
theorem dX9_readFog_44 : decode cX9_readFog 44 = .ok (.bipush 6, 2) := by decide +kernel
theorem dX9_readFog_46 : decode cX9_readFog 46 = .ok (.iload_n 1, 1) := by decide +kernel
theorem dX9_readFog_47 : decode cX9_readFog 47 = .ok (.iadd, 1) := by decide +kernel
theorem dX9_readFog_48 : decode cX9_readFog 48 = .ok (.iload_n 2, 1) := by decide +kernel
theorem dX9_readFog_49 : decode cX9_readFog 49 = .ok (.iastore, 1) := by decide +kernel
theorem dX9_readFog_50 : decode cX9_readFog 50 = .ok (.return_, 1) := by decide +kernel
theorem tX9_readFog {L : Nat} {xs : Nat → Int32} {N : Nat} : z_AllE (zE L xs N 57) 0 (kX9_readFog N) :=
  z_ac (j := 1) rfl (z_eI (sp_aload_n (q := 0) dX9_readFog_0 rfl rfl)) <|
  z_ac (j := 2) rfl (z_cV dX9_readFog_1 wl_1439 qX9_next (by decide +kernel) ⟨_, _, rfl⟩ (z_sn rfl rfl) rfl) <|
  z_ac (j := 3) rfl (z_eI (sp_aload_n (q := 0) dX9_readFog_4 rfl rfl)) <|
  z_ac (j := 4) rfl (z_eI (sp_iconst dX9_readFog_5 (by decide +kernel) rfl)) <|
  z_ac (j := 5) rfl (z_eI (sp_bipush dX9_readFog_6 (by decide +kernel) rfl)) <|
  z_ac (j := 6) rfl (z_cV dX9_readFog_8 wl_1474 qX9_takesNumber (by decide +kernel) ⟨_, _, rfl⟩ (z_sn rfl rfl) rfl) <|
  z_ac (j := 7) rfl (z_eI (sp_istore_n (q := 1) dX9_readFog_11 rfl (by decide) (fun _ _ => rfl) rfl)) <|
  z_ac (j := 8) rfl (z_eI (sp_aload_n (q := 0) dX9_readFog_12 rfl rfl)) <|
  z_ac (j := 9) rfl (z_eI (sp_iconst dX9_readFog_13 (by decide +kernel) rfl)) <|
  z_ac (j := 10) rfl (z_eI (sp_bipush dX9_readFog_14 (by decide +kernel) rfl)) <|
  z_ac (j := 11) rfl (z_cV dX9_readFog_16 wl_1474 qX9_takesNumber (by decide +kernel) ⟨_, _, rfl⟩ (z_sn rfl rfl) rfl) <|
  z_ac (j := 12) rfl (z_eI (sp_istore_n (q := 2) dX9_readFog_19 rfl (by decide) (fun _ _ => rfl) rfl)) <|
  z_ac (j := 13) rfl (z_eI (sp_aload_n (q := 0) dX9_readFog_20 rfl rfl)) <|
  z_ac (j := 14) rfl (z_eI (sp_aload_n (q := 0) dX9_readFog_21 rfl rfl)) <|
  z_ac (j := 15) rfl (z_eI (sp_getf (C := RX9) (T := TX9) (Nf := 23) dX9_readFog_22 rfl inX9 (by decide) wf_1363 rfl)) <|
  z_ac (j := 16) rfl (z_eI (sp_iconst dX9_readFog_25 (by decide +kernel) rfl)) <|
  z_ac (j := 17) rfl (z_eI (sp_icmp_ne dX9_readFog_26 rfl rfl)) <|
  z_ac (j := 18) rfl (z_eI (sp_iconst dX9_readFog_29 (by decide +kernel) rfl)) <|
  z_ac (j := 19) rfl (z_eI (sp_goto dX9_readFog_30 rfl)) <|
  z_ac (j := 20) rfl (z_eI (sp_iconst dX9_readFog_33 (by decide +kernel) rfl)) <|
  z_ac (j := 21) rfl (z_cV dX9_readFog_34 wl_1470 qX9_takes (by decide +kernel) ⟨_, _, rfl⟩ (z_sn rfl rfl) rfl) <|
  z_ac (j := 22) rfl (z_eI (sp_if_eq dX9_readFog_37 rfl rfl)) <|
  z_ac (j := 23) rfl (z_eI (sp_aload_n (q := 0) dX9_readFog_40 rfl rfl)) <|
  z_ac (j := 24) rfl (z_eI (sp_getf (C := RX9) (T := TX9) (Nf := 23) dX9_readFog_41 rfl inX9 (by decide) wf_1347 rfl)) <|
  z_ac (j := 25) rfl (z_eI (sp_bipush dX9_readFog_44 (by decide +kernel) rfl)) <|
  z_ac (j := 26) rfl (z_eI (sp_iload_n (q := 1) dX9_readFog_46 rfl rfl)) <|
  z_ac (j := 27) rfl (z_eI (sp_iadd dX9_readFog_47 rfl)) <|
  z_ac (j := 28) rfl (z_eI (sp_iload_n (q := 2) dX9_readFog_48 rfl rfl)) <|
  z_ac (j := 29) rfl (z_eI (sp_iast dX9_readFog_49 rfl)) <|
  z_ac (j := 30) rfl (z_eW (sv_void dX9_readFog_50 rfl)) <| z_an
theorem dX9_readLight_0 : decode cX9_readLight 0 = .ok (.aload_n 0, 1) := by decide +kernel
theorem dX9_readLight_1 : decode cX9_readLight 1 = .ok (.aload_n 0, 1) := by decide +kernel
theorem dX9_readLight_2 : decode cX9_readLight 2 = .ok (.getfield 13, 3) := by decide +kernel
theorem dX9_readLight_5 : decode cX9_readLight 5 = .ok (.iconst 4, 1) := by decide +kernel
theorem dX9_readLight_6 : decode cX9_readLight 6 = .ok (.iaload, 1) := by decide +kernel
theorem dX9_readLight_7 : decode cX9_readLight 7 = .ok (.bipush 8, 2) := by decide +kernel
theorem dX9_readLight_9 : decode cX9_readLight 9 = .ok (.if_icmp .ge 7, 3) := by decide +kernel
theorem dX9_readLight_12 : decode cX9_readLight 12 = .ok (.iconst 1, 1) := by decide +kernel
theorem dX9_readLight_13 : decode cX9_readLight 13 = .ok (.goto 4, 3) := by decide +kernel
theorem dX9_readLight_16 : decode cX9_readLight 16 = .ok (.iconst 0, 1) := by decide +kernel
theorem dX9_readLight_17 : decode cX9_readLight 17 = .ok (.invokevirtual 210, 3) := by decide +kernel
theorem dX9_readLight_20 : decode cX9_readLight 20 = .ok (.ifCond .ne 4, 3) := by decide +kernel
theorem dX9_readLight_23 : decode cX9_readLight 23 = .ok (.return_, 1) := by decide +kernel
theorem dX9_readLight_24 : decode cX9_readLight 24 = .ok (.aload_n 0, 1) := by decide +kernel
theorem dX9_readLight_25 : decode cX9_readLight 25 = .ok (.iconst 0, 1) := by decide +kernel
theorem dX9_readLight_26 : decode cX9_readLight 26 = .ok (.aload_n 0, 1) := by decide +kernel
theorem dX9_readLight_27 : decode cX9_readLight 27 = .ok (.getfield 13, 3) := by decide +kernel
theorem dX9_readLight_30 : decode cX9_readLight 30 = .ok (.iconst 0, 1) := by decide +kernel
theorem dX9_readLight_31 : decode cX9_readLight 31 = .ok (.iaload, 1) := by decide +kernel
theorem dX9_readLight_32 : decode cX9_readLight 32 = .ok (.iconst 1, 1) := by decide +kernel
theorem dX9_readLight_33 : decode cX9_readLight 33 = .ok (.isub, 1) := by decide +kernel
theorem dX9_readLight_34 : decode cX9_readLight 34 = .ok (.invokevirtual 227, 3) := by decide +kernel
theorem dX9_readLight_37 : decode cX9_readLight 37 = .ok (.istore_n 1, 1) := by decide +kernel
theorem dX9_readLight_38 : decode cX9_readLight 38 = .ok (.aload_n 0, 1) := by decide +kernel
theorem dX9_readLight_39 : decode cX9_readLight 39 = .ok (.getfield 176, 3) := by decide +kernel
theorem dX9_readLight_42 : decode cX9_readLight 42 = .ok (.istore_n 2, 1) := by decide +kernel
theorem dX9_readLight_43 : decode cX9_readLight 43 = .ok (.aload_n 0, 1) := by decide +kernel
theorem dX9_readLight_44 : decode cX9_readLight 44 = .ok (.aload_n 0, 1) := by decide +kernel
theorem dX9_readLight_45 : decode cX9_readLight 45 = .ok (.getfield 183, 3) := by decide +kernel
theorem dX9_readLight_48 : decode cX9_readLight 48 = .ok (.iconst 2, 1) := by decide +kernel
theorem dX9_readLight_49 : decode cX9_readLight 49 = .ok (.if_icmp .ne 43, 3) := by decide +kernel
theorem dX9_readLight_52 : decode cX9_readLight 52 = .ok (.iload_n 2, 1) := by decide +kernel
theorem dX9_readLight_53 : decode cX9_readLight 53 = .ok (.aload_n 0, 1) := by decide +kernel
theorem dX9_readLight_54 : decode cX9_readLight 54 = .ok (.getfield 13, 3) := by decide +kernel
theorem dX9_readLight_57 : decode cX9_readLight 57 = .ok (.iconst 1, 1) := by decide +kernel
theorem dX9_readLight_58 : decode cX9_readLight 58 = .ok (.iaload, 1) := by decide +kernel
theorem dX9_readLight_59 : decode cX9_readLight 59 = .ok (.if_icmp .ge 33, 3) := by decide +kernel
theorem dX9_readLight_62 : decode cX9_readLight 62 = .ok (.aload_n 0, 1) := by decide +kernel
theorem dX9_readLight_63 : decode cX9_readLight 63 = .ok (.getfield 13, 3) := by decide +kernel
theorem dX9_readLight_66 : decode cX9_readLight 66 = .ok (.iload_n 1, 1) := by decide +kernel
theorem dX9_readLight_67 : decode cX9_readLight 67 = .ok (.iload_n 2, 1) := by decide +kernel
theorem dX9_readLight_68 : decode cX9_readLight 68 = .ok (.invokestatic 45, 3) := by decide +kernel
theorem dX9_readLight_71 : decode cX9_readLight 71 = .ok (.iaload, 1) := by decide +kernel
theorem dX9_readLight_72 : decode cX9_readLight 72 = .ok (.iconst 1, 1) := by decide +kernel
theorem dX9_readLight_73 : decode cX9_readLight 73 = .ok (.if_icmp .eq 19, 3) := by decide +kernel
theorem dX9_readLight_76 : decode cX9_readLight 76 = .ok (.aload_n 0, 1) := by decide +kernel
theorem dX9_readLight_77 : decode cX9_readLight 77 = .ok (.getfield 13, 3) := by decide +kernel
theorem dX9_readLight_80 : decode cX9_readLight 80 = .ok (.iload_n 1, 1) := by decide +kernel
theorem dX9_readLight_81 : decode cX9_readLight 81 = .ok (.iload_n 2, 1) := by decide +kernel
theorem dX9_readLight_82 : decode cX9_readLight 82 = .ok (.invokestatic 230, 3) := by decide +kernel
theorem dX9_readLight_85 : decode cX9_readLight 85 = .ok (.ifCond .ge 7, 3) := by decide +kernel
theorem dX9_readLight_88 : decode cX9_readLight 88 = .ok (.iconst 1, 1) := by decide +kernel
theorem dX9_readLight_89 : decode cX9_readLight 89 = .ok (.goto 4, 3) := by decide +kernel
theorem dX9_readLight_92 : decode cX9_readLight 92 = .ok (.iconst 0, 1) := by decide +kernel
theorem dX9_readLight_93 : decode cX9_readLight 93 = .ok (.invokevirtual 210, 3) := by decide +kernel
theorem dX9_readLight_96 : decode cX9_readLight 96 = .ok (.ifCond .ne 4, 3) := by decide +kernel
theorem dX9_readLight_99 : decode cX9_readLight 99 = .ok (.return_, 1) := by decide +kernel
theorem dX9_readLight_100 : decode cX9_readLight 100 = .ok (.aload_n 0, 1) := by decide +kernel
theorem dX9_readLight_101 : decode cX9_readLight 101 = .ok (.iconst 0, 1) := by decide +kernel
theorem dX9_readLight_102 : decode cX9_readLight 102 = .ok (.bipush 9, 2) := by decide +kernel
theorem dX9_readLight_104 : decode cX9_readLight 104 = .ok (.invokevirtual 227, 3) := by decide +kernel
theorem dX9_readLight_107 : decode cX9_readLight 107 = .ok (.istore_n 3, 1) := by decide +kernel
theorem dX9_readLight_108 : decode cX9_readLight 108 = .ok (.aload_n 0, 1) := by decide +kernel
theorem dX9_readLight_109 : decode cX9_readLight 109 = .ok (.ldc2_w 233, 3) := by decide +kernel
theorem dX9_readLight_112 : decode cX9_readLight 112 = .ok (.invokevirtual 219, 3) := by decide +kernel
theorem dX9_readLight_115 : decode cX9_readLight 115 = .ok (.ifCond .eq 7, 3) := by decide +kernel
theorem dX9_readLight_118 : decode cX9_readLight 118 = .ok (.iconst 1, 1) := by decide +kernel
theorem dX9_readLight_119 : decode cX9_readLight 119 = .ok (.goto 4, 3) := by decide +kernel
theorem dX9_readLight_122 : decode cX9_readLight 122 = .ok (.iconst 0, 1) := by decide +kernel
theorem dX9_readLight_123 : decode cX9_readLight 123 = .ok (.istore 4, 2) := by decide +kernel
theorem dX9_readLight_125 : decode cX9_readLight 125 = .ok (.iconst (-1), 1) := by decide +kernel
theorem dX9_readLight_126 : decode cX9_readLight 126 = .ok (.istore 5, 2) := by decide +kernel
theorem dX9_readLight_128 : decode cX9_readLight 128 = .ok (.aload_n 0, 1) := by decide +kernel
theorem dX9_readLight_129 : decode cX9_readLight 129 = .ok (.aload_n 0, 1) := by decide +kernel
theorem dX9_readLight_130 : decode cX9_readLight 130 = .ok (.ldc2_w 233, 3) := by decide +kernel
theorem dX9_readLight_133 : decode cX9_readLight 133 = .ok (.invokevirtual 219, 3) := by decide +kernel
theorem dX9_readLight_136 : decode cX9_readLight 136 = .ok (.ifCond .ne 13, 3) := by decide +kernel
theorem dX9_readLight_139 : decode cX9_readLight 139 = .ok (.aload_n 0, 1) := by decide +kernel
theorem dX9_readLight_140 : decode cX9_readLight 140 = .ok (.ldc2_w 235, 3) := by decide +kernel
theorem dX9_readLight_143 : decode cX9_readLight 143 = .ok (.invokevirtual 219, 3) := by decide +kernel
theorem dX9_readLight_146 : decode cX9_readLight 146 = .ok (.ifCond .eq 7, 3) := by decide +kernel
theorem dX9_readLight_149 : decode cX9_readLight 149 = .ok (.iconst 1, 1) := by decide +kernel
theorem dX9_readLight_150 : decode cX9_readLight 150 = .ok (.goto 4, 3) := by decide +kernel
theorem dX9_readLight_153 : decode cX9_readLight 153 = .ok (.iconst 0, 1) := by decide +kernel
theorem dX9_readLight_154 : decode cX9_readLight 154 = .ok (.invokevirtual 210, 3) := by decide +kernel
theorem dX9_readLight_157 : decode cX9_readLight 157 = .ok (.pop, 1) := by decide +kernel
theorem dX9_readLight_158 : decode cX9_readLight 158 = .ok (.aload_n 0, 1) := by decide +kernel
theorem dX9_readLight_159 : decode cX9_readLight 159 = .ok (.getfield 203, 3) := by decide +kernel
theorem dX9_readLight_162 : decode cX9_readLight 162 = .ok (.ifCond .ne 32, 3) := by decide +kernel
theorem dX9_readLight_165 : decode cX9_readLight 165 = .ok (.aload_n 0, 1) := by decide +kernel
theorem dX9_readLight_166 : decode cX9_readLight 166 = .ok (.ldc2_w 237, 3) := by decide +kernel
theorem dX9_readLight_169 : decode cX9_readLight 169 = .ok (.invokevirtual 219, 3) := by decide +kernel
theorem dX9_readLight_172 : decode cX9_readLight 172 = .ok (.ifCond .eq 22, 3) := by decide +kernel
theorem dX9_readLight_175 : decode cX9_readLight 175 = .ok (.aload_n 0, 1) := by decide +kernel
theorem dX9_readLight_176 : decode cX9_readLight 176 = .ok (.invokevirtual 207, 3) := by decide +kernel
theorem dX9_readLight_179 : decode cX9_readLight 179 = .ok (.aload_n 0, 1) := by decide +kernel
theorem dX9_readLight_180 : decode cX9_readLight 180 = .ok (.iconst 0, 1) := by decide +kernel
theorem dX9_readLight_181 : decode cX9_readLight 181 = .ok (.aload_n 0, 1) := by decide +kernel
theorem dX9_readLight_182 : decode cX9_readLight 182 = .ok (.getfield 13, 3) := by decide +kernel
theorem dX9_readLight_185 : decode cX9_readLight 185 = .ok (.iconst 4, 1) := by decide +kernel
theorem dX9_readLight_186 : decode cX9_readLight 186 = .ok (.iaload, 1) := by decide +kernel
theorem dX9_readLight_187 : decode cX9_readLight 187 = .ok (.iconst 1, 1) := by decide +kernel
theorem dX9_readLight_188 : decode cX9_readLight 188 = .ok (.isub, 1) := by decide +kernel
theorem dX9_readLight_189 : decode cX9_readLight 189 = .ok (.invokevirtual 227, 3) := by decide +kernel
theorem dX9_readLight_192 : decode cX9_readLight 192 = .ok (.istore 5, 2) := by decide +kernel
theorem dX9_readLight_194 : decode cX9_readLight 194 = .ok (.aload_n 0, 1) := by decide +kernel
theorem dX9_readLight_195 : decode cX9_readLight 195 = .ok (.aload_n 0, 1) := by decide +kernel
theorem dX9_readLight_196 : decode cX9_readLight 196 = .ok (.getfield 183, 3) := by decide +kernel
theorem dX9_readLight_199 : decode cX9_readLight 199 = .ok (.iconst 3, 1) := by decide +kernel
theorem dX9_readLight_200 : decode cX9_readLight 200 = .ok (.if_icmp .ne 7, 3) := by decide +kernel
theorem dX9_readLight_203 : decode cX9_readLight 203 = .ok (.iconst 1, 1) := by decide +kernel
theorem dX9_readLight_204 : decode cX9_readLight 204 = .ok (.goto 4, 3) := by decide +kernel
theorem dX9_readLight_207 : decode cX9_readLight 207 = .ok (.iconst 0, 1) := by decide +kernel
theorem dX9_readLight_208 : decode cX9_readLight 208 = .ok (.invokevirtual 210, 3) := by decide +kernel
theorem dX9_readLight_211 : decode cX9_readLight 211 = .ok (.ifCond .ne 4, 3) := by decide +kernel
theorem dX9_readLight_214 : decode cX9_readLight 214 = .ok (.return_, 1) := by decide +kernel
theorem dX9_readLight_215 : decode cX9_readLight 215 = .ok (.aload_n 0, 1) := by decide +kernel
theorem dX9_readLight_216 : decode cX9_readLight 216 = .ok (.getfield 13, 3) := by decide +kernel
theorem dX9_readLight_219 : decode cX9_readLight 219 = .ok (.iload_n 1, 1) := by decide +kernel
theorem dX9_readLight_220 : decode cX9_readLight 220 = .ok (.iload_n 2, 1) := by decide +kernel
theorem dX9_readLight_221 : decode cX9_readLight 221 = .ok (.iload_n 3, 1) := by decide +kernel
theorem dX9_readLight_222 : decode cX9_readLight 222 = .ok (.iload 4, 2) := by decide +kernel
theorem dX9_readLight_224 : decode cX9_readLight 224 = .ok (.invokestatic 239, 3) := by decide +kernel
theorem dX9_readLight_227 : decode cX9_readLight 227 = .ok (.pop, 1) := by decide +kernel
theorem dX9_readLight_228 : decode cX9_readLight 228 = .ok (.aload_n 0, 1) := by decide +kernel
theorem dX9_readLight_229 : decode cX9_readLight 229 = .ok (.getfield 13, 3) := by decide +kernel
theorem dX9_readLight_232 : decode cX9_readLight 232 = .ok (.aload_n 0, 1) := by decide +kernel
theorem dX9_readLight_233 : decode cX9_readLight 233 = .ok (.getfield 13, 3) := by decide +kernel
theorem dX9_readLight_236 : decode cX9_readLight 236 = .ok (.iconst 4, 1) := by decide +kernel
theorem dX9_readLight_237 : decode cX9_readLight 237 = .ok (.iaload, 1) := by decide +kernel
theorem dX9_readLight_238 : decode cX9_readLight 238 = .ok (.iconst 1, 1) := by decide +kernel
theorem dX9_readLight_239 : decode cX9_readLight 239 = .ok (.isub, 1) := by decide +kernel
theorem dX9_readLight_240 : decode cX9_readLight 240 = .ok (.iconst 4, 1) := by decide +kernel
theorem dX9_readLight_241 : decode cX9_readLight 241 = .ok (.invokestatic 101, 3) := by decide +kernel
theorem dX9_readLight_244 : decode cX9_readLight 244 = .ok (.iload 5, 2) := by decide +kernel
theorem dX9_readLight_246 : decode cX9_readLight 246 = .ok (.iastore, 1) := by decide +kernel
theorem dX9_readLight_247 : decode cX9_readLight 247 = .ok (.return_, 1) := by decide +kernel
set_option maxRecDepth 10000 in
theorem tX9_readLight {L : Nat} {xs : Nat → Int32} {N : Nat} : z_AllE (zE L xs N 58) 0 (kX9_readLight N) :=
  z_ac (j := 1) rfl (z_eI (sp_aload_n (q := 0) dX9_readLight_0 rfl rfl)) <|
  z_ac (j := 2) rfl (z_eI (sp_aload_n (q := 0) dX9_readLight_1 rfl rfl)) <|
  z_ac (j := 3) rfl (z_eI (sp_getf (C := RX9) (T := TX9) (Nf := 23) dX9_readLight_2 rfl inX9 (by decide) wf_1347 rfl)) <|
  z_ac (j := 4) rfl (z_eI (sp_iconst dX9_readLight_5 (by decide +kernel) rfl)) <|
  z_ac (j := 5) rfl (z_eI (sp_iald dX9_readLight_6 rfl)) <|
  z_ac (j := 6) rfl (z_eI (sp_bipush dX9_readLight_7 (by decide +kernel) rfl)) <|
  z_ac (j := 7) rfl (z_eI (sp_icmp_ge dX9_readLight_9 rfl rfl)) <|
  z_ac (j := 8) rfl (z_eI (sp_iconst dX9_readLight_12 (by decide +kernel) rfl)) <|
  z_ac (j := 9) rfl (z_eI (sp_goto dX9_readLight_13 rfl)) <|
  z_ac (j := 10) rfl (z_eI (sp_iconst dX9_readLight_16 (by decide +kernel) rfl)) <|
  z_ac (j := 11) rfl (z_cV dX9_readLight_17 wl_1470 qX9_takes (by decide +kernel) ⟨_, _, rfl⟩ (z_sn rfl rfl) rfl) <|
  z_ac (j := 12) rfl (z_eI (sp_if_ne dX9_readLight_20 rfl rfl)) <|
  z_ac (j := 13) rfl (z_eW (sv_void dX9_readLight_23 rfl)) <|
  z_ac (j := 14) rfl (z_eI (sp_aload_n (q := 0) dX9_readLight_24 rfl rfl)) <|
  z_ac (j := 15) rfl (z_eI (sp_iconst dX9_readLight_25 (by decide +kernel) rfl)) <|
  z_ac (j := 16) rfl (z_eI (sp_aload_n (q := 0) dX9_readLight_26 rfl rfl)) <|
  z_ac (j := 17) rfl (z_eI (sp_getf (C := RX9) (T := TX9) (Nf := 23) dX9_readLight_27 rfl inX9 (by decide) wf_1347 rfl)) <|
  z_ac (j := 18) rfl (z_eI (sp_iconst dX9_readLight_30 (by decide +kernel) rfl)) <|
  z_ac (j := 19) rfl (z_eI (sp_iald dX9_readLight_31 rfl)) <|
  z_ac (j := 20) rfl (z_eI (sp_iconst dX9_readLight_32 (by decide +kernel) rfl)) <|
  z_ac (j := 21) rfl (z_eI (sp_isub dX9_readLight_33 rfl)) <|
  z_ac (j := 22) rfl (z_cV dX9_readLight_34 wl_1474 qX9_takesNumber (by decide +kernel) ⟨_, _, rfl⟩ (z_sn rfl rfl) rfl) <|
  z_ac (j := 23) rfl (z_eI (sp_istore_n (q := 1) dX9_readLight_37 rfl (by decide) (fun _ _ => rfl) rfl)) <|
  z_ac (j := 24) rfl (z_eI (sp_aload_n (q := 0) dX9_readLight_38 rfl rfl)) <|
  z_ac (j := 25) rfl (z_eI (sp_getf (C := RX9) (T := TX9) (Nf := 23) dX9_readLight_39 rfl inX9 (by decide) wf_1364 rfl)) <|
  z_ac (j := 26) rfl (z_eI (sp_istore_n (q := 2) dX9_readLight_42 rfl (by decide) (fun _ _ => rfl) rfl)) <|
  z_ac (j := 27) rfl (z_eI (sp_aload_n (q := 0) dX9_readLight_43 rfl rfl)) <|
  z_ac (j := 28) rfl (z_eI (sp_aload_n (q := 0) dX9_readLight_44 rfl rfl)) <|
  z_ac (j := 29) rfl (z_eI (sp_getf (C := RX9) (T := TX9) (Nf := 23) dX9_readLight_45 rfl inX9 (by decide) wf_1363 rfl)) <|
  z_ac (j := 30) rfl (z_eI (sp_iconst dX9_readLight_48 (by decide +kernel) rfl)) <|
  z_ac (j := 31) rfl (z_eI (sp_icmp_ne dX9_readLight_49 rfl rfl)) <|
  z_ac (j := 32) rfl (z_eI (sp_iload_n (q := 2) dX9_readLight_52 rfl rfl)) <|
  z_ac (j := 33) rfl (z_eI (sp_aload_n (q := 0) dX9_readLight_53 rfl rfl)) <|
  z_ac (j := 34) rfl (z_eI (sp_getf (C := RX9) (T := TX9) (Nf := 23) dX9_readLight_54 rfl inX9 (by decide) wf_1347 rfl)) <|
  z_ac (j := 35) rfl (z_eI (sp_iconst dX9_readLight_57 (by decide +kernel) rfl)) <|
  z_ac (j := 36) rfl (z_eI (sp_iald dX9_readLight_58 rfl)) <|
  z_ac (j := 37) rfl (z_eI (sp_icmp_ge dX9_readLight_59 rfl rfl)) <|
  z_ac (j := 38) rfl (z_eI (sp_aload_n (q := 0) dX9_readLight_62 rfl rfl)) <|
  z_ac (j := 39) rfl (z_eI (sp_getf (C := RX9) (T := TX9) (Nf := 23) dX9_readLight_63 rfl inX9 (by decide) wf_1347 rfl)) <|
  z_ac (j := 40) rfl (z_eI (sp_iload_n (q := 1) dX9_readLight_66 rfl rfl)) <|
  z_ac (j := 41) rfl (z_eI (sp_iload_n (q := 2) dX9_readLight_67 rfl rfl)) <|
  z_ac (j := 42) rfl (z_cS dX9_readLight_68 wl_1343 qX9_cellAt (by decide +kernel) (z_sn rfl rfl) rfl) <|
  z_ac (j := 43) rfl (z_eI (sp_iald dX9_readLight_71 rfl)) <|
  z_ac (j := 44) rfl (z_eI (sp_iconst dX9_readLight_72 (by decide +kernel) rfl)) <|
  z_ac (j := 45) rfl (z_eI (sp_icmp_eq dX9_readLight_73 rfl rfl)) <|
  z_ac (j := 46) rfl (z_eI (sp_aload_n (q := 0) dX9_readLight_76 rfl rfl)) <|
  z_ac (j := 47) rfl (z_eI (sp_getf (C := RX9) (T := TX9) (Nf := 23) dX9_readLight_77 rfl inX9 (by decide) wf_1347 rfl)) <|
  z_ac (j := 48) rfl (z_eI (sp_iload_n (q := 1) dX9_readLight_80 rfl rfl)) <|
  z_ac (j := 49) rfl (z_eI (sp_iload_n (q := 2) dX9_readLight_81 rfl rfl)) <|
  z_ac (j := 50) rfl (z_cS dX9_readLight_82 wl_1501 qX9_lightOn (by decide +kernel) (z_sn rfl rfl) rfl) <|
  z_ac (j := 51) rfl (z_eI (sp_if_ge dX9_readLight_85 rfl rfl)) <|
  z_ac (j := 52) rfl (z_eI (sp_iconst dX9_readLight_88 (by decide +kernel) rfl)) <|
  z_ac (j := 53) rfl (z_eI (sp_goto dX9_readLight_89 rfl)) <|
  z_ac (j := 54) rfl (z_eI (sp_iconst dX9_readLight_92 (by decide +kernel) rfl)) <|
  z_ac (j := 55) rfl (z_cV dX9_readLight_93 wl_1470 qX9_takes (by decide +kernel) ⟨_, _, rfl⟩ (z_sn rfl rfl) rfl) <|
  z_ac (j := 56) rfl (z_eI (sp_if_ne dX9_readLight_96 rfl rfl)) <|
  z_ac (j := 57) rfl (z_eW (sv_void dX9_readLight_99 rfl)) <|
  z_ac (j := 58) rfl (z_eI (sp_aload_n (q := 0) dX9_readLight_100 rfl rfl)) <|
  z_ac (j := 59) rfl (z_eI (sp_iconst dX9_readLight_101 (by decide +kernel) rfl)) <|
  z_ac (j := 60) rfl (z_eI (sp_bipush dX9_readLight_102 (by decide +kernel) rfl)) <|
  z_ac (j := 61) rfl (z_cV dX9_readLight_104 wl_1474 qX9_takesNumber (by decide +kernel) ⟨_, _, rfl⟩ (z_sn rfl rfl) rfl) <|
  z_ac (j := 62) rfl (z_eI (sp_istore_n (q := 3) dX9_readLight_107 rfl (by decide) (fun _ _ => rfl) rfl)) <|
  z_ac (j := 63) rfl (z_eI (sp_aload_n (q := 0) dX9_readLight_108 rfl rfl)) <|
  z_ac (j := 64) rfl (z_eI (sp_ldc2 dX9_readLight_109 wk_1507 rfl)) <|
  z_ac (j := 65) rfl (z_cV dX9_readLight_112 wl_1466 qX9_is (by decide +kernel) ⟨_, _, rfl⟩ (z_sn rfl rfl) rfl) <|
  z_ac (j := 66) rfl (z_eI (sp_if_eq dX9_readLight_115 rfl rfl)) <|
  z_ac (j := 67) rfl (z_eI (sp_iconst dX9_readLight_118 (by decide +kernel) rfl)) <|
  z_ac (j := 68) rfl (z_eI (sp_goto dX9_readLight_119 rfl)) <|
  z_ac (j := 69) rfl (z_eI (sp_iconst dX9_readLight_122 (by decide +kernel) rfl)) <|
  z_ac (j := 70) rfl (z_eI (sp_istore dX9_readLight_123 (by decide) (fun _ _ => rfl) rfl)) <|
  z_ac (j := 71) rfl (z_eI (sp_iconst dX9_readLight_125 (by decide +kernel) rfl)) <|
  z_ac (j := 72) rfl (z_eI (sp_istore dX9_readLight_126 (by decide) (fun _ _ => rfl) rfl)) <|
  z_ac (j := 73) rfl (z_eI (sp_aload_n (q := 0) dX9_readLight_128 rfl rfl)) <|
  z_ac (j := 74) rfl (z_eI (sp_aload_n (q := 0) dX9_readLight_129 rfl rfl)) <|
  z_ac (j := 75) rfl (z_eI (sp_ldc2 dX9_readLight_130 wk_1507 rfl)) <|
  z_ac (j := 76) rfl (z_cV dX9_readLight_133 wl_1466 qX9_is (by decide +kernel) ⟨_, _, rfl⟩ (z_sn rfl rfl) rfl) <|
  z_ac (j := 77) rfl (z_eI (sp_if_ne dX9_readLight_136 rfl rfl)) <|
  z_ac (j := 78) rfl (z_eI (sp_aload_n (q := 0) dX9_readLight_139 rfl rfl)) <|
  z_ac (j := 79) rfl (z_eI (sp_ldc2 dX9_readLight_140 wk_1508 rfl)) <|
  z_ac (j := 80) rfl (z_cV dX9_readLight_143 wl_1466 qX9_is (by decide +kernel) ⟨_, _, rfl⟩ (z_sn rfl rfl) rfl) <|
  z_ac (j := 81) rfl (z_eI (sp_if_eq dX9_readLight_146 rfl rfl)) <|
  z_ac (j := 82) rfl (z_eI (sp_iconst dX9_readLight_149 (by decide +kernel) rfl)) <|
  z_ac (j := 83) rfl (z_eI (sp_goto dX9_readLight_150 rfl)) <|
  z_ac (j := 84) rfl (z_eI (sp_iconst dX9_readLight_153 (by decide +kernel) rfl)) <|
  z_ac (j := 85) rfl (z_cV dX9_readLight_154 wl_1470 qX9_takes (by decide +kernel) ⟨_, _, rfl⟩ (z_sn rfl rfl) rfl) <|
  z_ac (j := 86) rfl (z_eI (sp_pop dX9_readLight_157 rfl)) <|
  z_ac (j := 87) rfl (z_eI (sp_aload_n (q := 0) dX9_readLight_158 rfl rfl)) <|
  z_ac (j := 88) rfl (z_eI (sp_getf (C := RX9) (T := TX9) (Nf := 23) dX9_readLight_159 rfl inX9 (by decide) wf_1366 rfl)) <|
  z_ac (j := 89) rfl (z_eI (sp_if_ne dX9_readLight_162 rfl rfl)) <|
  z_ac (j := 90) rfl (z_eI (sp_aload_n (q := 0) dX9_readLight_165 rfl rfl)) <|
  z_ac (j := 91) rfl (z_eI (sp_ldc2 dX9_readLight_166 wk_1509 rfl)) <|
  z_ac (j := 92) rfl (z_cV dX9_readLight_169 wl_1466 qX9_is (by decide +kernel) ⟨_, _, rfl⟩ (z_sn rfl rfl) rfl) <|
  z_ac (j := 93) rfl (z_eI (sp_if_eq dX9_readLight_172 rfl rfl)) <|
  z_ac (j := 94) rfl (z_eI (sp_aload_n (q := 0) dX9_readLight_175 rfl rfl)) <|
  z_ac (j := 95) rfl (z_cV dX9_readLight_176 wl_1439 qX9_next (by decide +kernel) ⟨_, _, rfl⟩ (z_sn rfl rfl) rfl) <|
  z_ac (j := 96) rfl (z_eI (sp_aload_n (q := 0) dX9_readLight_179 rfl rfl)) <|
  z_ac (j := 97) rfl (z_eI (sp_iconst dX9_readLight_180 (by decide +kernel) rfl)) <|
  z_ac (j := 98) rfl (z_eI (sp_aload_n (q := 0) dX9_readLight_181 rfl rfl)) <|
  z_ac (j := 99) rfl (z_eI (sp_getf (C := RX9) (T := TX9) (Nf := 23) dX9_readLight_182 rfl inX9 (by decide) wf_1347 rfl)) <|
  z_ac (j := 100) rfl (z_eI (sp_iconst dX9_readLight_185 (by decide +kernel) rfl)) <|
  z_ac (j := 101) rfl (z_eI (sp_iald dX9_readLight_186 rfl)) <|
  z_ac (j := 102) rfl (z_eI (sp_iconst dX9_readLight_187 (by decide +kernel) rfl)) <|
  z_ac (j := 103) rfl (z_eI (sp_isub dX9_readLight_188 rfl)) <|
  z_ac (j := 104) rfl (z_cV dX9_readLight_189 wl_1474 qX9_takesNumber (by decide +kernel) ⟨_, _, rfl⟩ (z_sn rfl rfl) rfl) <|
  z_ac (j := 105) rfl (z_eI (sp_istore dX9_readLight_192 (by decide) (fun _ _ => rfl) rfl)) <|
  z_ac (j := 106) rfl (z_eI (sp_aload_n (q := 0) dX9_readLight_194 rfl rfl)) <|
  z_ac (j := 107) rfl (z_eI (sp_aload_n (q := 0) dX9_readLight_195 rfl rfl)) <|
  z_ac (j := 108) rfl (z_eI (sp_getf (C := RX9) (T := TX9) (Nf := 23) dX9_readLight_196 rfl inX9 (by decide) wf_1363 rfl)) <|
  z_ac (j := 109) rfl (z_eI (sp_iconst dX9_readLight_199 (by decide +kernel) rfl)) <|
  z_ac (j := 110) rfl (z_eI (sp_icmp_ne dX9_readLight_200 rfl rfl)) <|
  z_ac (j := 111) rfl (z_eI (sp_iconst dX9_readLight_203 (by decide +kernel) rfl)) <|
  z_ac (j := 112) rfl (z_eI (sp_goto dX9_readLight_204 rfl)) <|
  z_ac (j := 113) rfl (z_eI (sp_iconst dX9_readLight_207 (by decide +kernel) rfl)) <|
  z_ac (j := 114) rfl (z_cV dX9_readLight_208 wl_1470 qX9_takes (by decide +kernel) ⟨_, _, rfl⟩ (z_sn rfl rfl) rfl) <|
  z_ac (j := 115) rfl (z_eI (sp_if_ne dX9_readLight_211 rfl rfl)) <|
  z_ac (j := 116) rfl (z_eW (sv_void dX9_readLight_214 rfl)) <|
  z_ac (j := 117) rfl (z_eI (sp_aload_n (q := 0) dX9_readLight_215 rfl rfl)) <|
  z_ac (j := 118) rfl (z_eI (sp_getf (C := RX9) (T := TX9) (Nf := 23) dX9_readLight_216 rfl inX9 (by decide) wf_1347 rfl)) <|
  z_ac (j := 119) rfl (z_eI (sp_iload_n (q := 1) dX9_readLight_219 rfl rfl)) <|
  z_ac (j := 120) rfl (z_eI (sp_iload_n (q := 2) dX9_readLight_220 rfl rfl)) <|
  z_ac (j := 121) rfl (z_eI (sp_iload_n (q := 3) dX9_readLight_221 rfl rfl)) <|
  z_ac (j := 122) rfl (z_eI (sp_iload dX9_readLight_222 rfl)) <|
  z_ac (j := 123) rfl (z_cS dX9_readLight_224 wl_1510 qX9_addsLight (by decide +kernel) (z_sn rfl rfl) rfl) <|
  z_ac (j := 124) rfl (z_eI (sp_pop dX9_readLight_227 rfl)) <|
  z_ac (j := 125) rfl (z_eI (sp_aload_n (q := 0) dX9_readLight_228 rfl rfl)) <|
  z_ac (j := 126) rfl (z_eI (sp_getf (C := RX9) (T := TX9) (Nf := 23) dX9_readLight_229 rfl inX9 (by decide) wf_1347 rfl)) <|
  z_ac (j := 127) rfl (z_eI (sp_aload_n (q := 0) dX9_readLight_232 rfl rfl)) <|
  z_ac (j := 128) rfl (z_eI (sp_getf (C := RX9) (T := TX9) (Nf := 23) dX9_readLight_233 rfl inX9 (by decide) wf_1347 rfl)) <|
  z_ac (j := 129) rfl (z_eI (sp_iconst dX9_readLight_236 (by decide +kernel) rfl)) <|
  z_ac (j := 130) rfl (z_eI (sp_iald dX9_readLight_237 rfl)) <|
  z_ac (j := 131) rfl (z_eI (sp_iconst dX9_readLight_238 (by decide +kernel) rfl)) <|
  z_ac (j := 132) rfl (z_eI (sp_isub dX9_readLight_239 rfl)) <|
  z_ac (j := 133) rfl (z_eI (sp_iconst dX9_readLight_240 (by decide +kernel) rfl)) <|
  z_ac (j := 134) rfl (z_cS dX9_readLight_241 wl_1504 qX9_lightAt (by decide +kernel) (z_sn rfl rfl) rfl) <|
  z_ac (j := 135) rfl (z_eI (sp_iload dX9_readLight_244 rfl)) <|
  z_ac (j := 136) rfl (z_eI (sp_iast dX9_readLight_246 rfl)) <|
  z_ac (j := 137) rfl (z_eW (sv_void dX9_readLight_247 rfl)) <| z_an
theorem dX9_readTraveller_0 : decode cX9_readTraveller 0 = .ok (.aload_n 0, 1) := by decide +kernel
theorem dX9_readTraveller_1 : decode cX9_readTraveller 1 = .ok (.aload_n 0, 1) := by decide +kernel
theorem dX9_readTraveller_2 : decode cX9_readTraveller 2 = .ok (.getfield 13, 3) := by decide +kernel
theorem dX9_readTraveller_5 : decode cX9_readTraveller 5 = .ok (.iconst 5, 1) := by decide +kernel
theorem dX9_readTraveller_6 : decode cX9_readTraveller 6 = .ok (.iaload, 1) := by decide +kernel
theorem dX9_readTraveller_7 : decode cX9_readTraveller 7 = .ok (.bipush 6, 2) := by decide +kernel
theorem dX9_readTraveller_9 : decode cX9_readTraveller 9 = .ok (.if_icmp .ge 7, 3) := by decide +kernel
theorem dX9_readTraveller_12 : decode cX9_readTraveller 12 = .ok (.iconst 1, 1) := by decide +kernel
theorem dX9_readTraveller_13 : decode cX9_readTraveller 13 = .ok (.goto 4, 3) := by decide +kernel
theorem dX9_readTraveller_16 : decode cX9_readTraveller 16 = .ok (.iconst 0, 1) := by decide +kernel
theorem dX9_readTraveller_17 : decode cX9_readTraveller 17 = .ok (.invokevirtual 210, 3) := by decide +kernel
theorem dX9_readTraveller_20 : decode cX9_readTraveller 20 = .ok (.ifCond .ne 4, 3) := by decide +kernel
theorem dX9_readTraveller_23 : decode cX9_readTraveller 23 = .ok (.return_, 1) := by decide +kernel
theorem dX9_readTraveller_24 : decode cX9_readTraveller 24 = .ok (.aload_n 0, 1) := by decide +kernel
theorem dX9_readTraveller_25 : decode cX9_readTraveller 25 = .ok (.iconst 0, 1) := by decide +kernel
theorem dX9_readTraveller_26 : decode cX9_readTraveller 26 = .ok (.aload_n 0, 1) := by decide +kernel
theorem dX9_readTraveller_27 : decode cX9_readTraveller 27 = .ok (.getfield 13, 3) := by decide +kernel
theorem dX9_readTraveller_30 : decode cX9_readTraveller 30 = .ok (.iconst 0, 1) := by decide +kernel
theorem dX9_readTraveller_31 : decode cX9_readTraveller 31 = .ok (.iaload, 1) := by decide +kernel
theorem dX9_readTraveller_32 : decode cX9_readTraveller 32 = .ok (.iconst 1, 1) := by decide +kernel
theorem dX9_readTraveller_33 : decode cX9_readTraveller 33 = .ok (.isub, 1) := by decide +kernel
theorem dX9_readTraveller_34 : decode cX9_readTraveller 34 = .ok (.invokevirtual 227, 3) := by decide +kernel
theorem dX9_readTraveller_37 : decode cX9_readTraveller 37 = .ok (.istore_n 1, 1) := by decide +kernel
theorem dX9_readTraveller_38 : decode cX9_readTraveller 38 = .ok (.aload_n 0, 1) := by decide +kernel
theorem dX9_readTraveller_39 : decode cX9_readTraveller 39 = .ok (.getfield 176, 3) := by decide +kernel
theorem dX9_readTraveller_42 : decode cX9_readTraveller 42 = .ok (.istore_n 2, 1) := by decide +kernel
theorem dX9_readTraveller_43 : decode cX9_readTraveller 43 = .ok (.aload_n 0, 1) := by decide +kernel
theorem dX9_readTraveller_44 : decode cX9_readTraveller 44 = .ok (.aload_n 0, 1) := by decide +kernel
theorem dX9_readTraveller_45 : decode cX9_readTraveller 45 = .ok (.getfield 183, 3) := by decide +kernel
theorem dX9_readTraveller_48 : decode cX9_readTraveller 48 = .ok (.iconst 2, 1) := by decide +kernel
theorem dX9_readTraveller_49 : decode cX9_readTraveller 49 = .ok (.if_icmp .ne 45, 3) := by decide +kernel
theorem dX9_readTraveller_52 : decode cX9_readTraveller 52 = .ok (.iload_n 2, 1) := by decide +kernel
theorem dX9_readTraveller_53 : decode cX9_readTraveller 53 = .ok (.aload_n 0, 1) := by decide +kernel
theorem dX9_readTraveller_54 : decode cX9_readTraveller 54 = .ok (.getfield 13, 3) := by decide +kernel
theorem dX9_readTraveller_57 : decode cX9_readTraveller 57 = .ok (.iconst 1, 1) := by decide +kernel
theorem dX9_readTraveller_58 : decode cX9_readTraveller 58 = .ok (.iaload, 1) := by decide +kernel
theorem dX9_readTraveller_59 : decode cX9_readTraveller 59 = .ok (.if_icmp .ge 35, 3) := by decide +kernel
theorem dX9_readTraveller_62 : decode cX9_readTraveller 62 = .ok (.aload_n 0, 1) := by decide +kernel
theorem dX9_readTraveller_63 : decode cX9_readTraveller 63 = .ok (.getfield 13, 3) := by decide +kernel
theorem dX9_readTraveller_66 : decode cX9_readTraveller 66 = .ok (.iload_n 1, 1) := by decide +kernel
theorem dX9_readTraveller_67 : decode cX9_readTraveller 67 = .ok (.iload_n 2, 1) := by decide +kernel
theorem dX9_readTraveller_68 : decode cX9_readTraveller 68 = .ok (.invokestatic 45, 3) := by decide +kernel
theorem dX9_readTraveller_71 : decode cX9_readTraveller 71 = .ok (.iaload, 1) := by decide +kernel
theorem dX9_readTraveller_72 : decode cX9_readTraveller 72 = .ok (.iconst 1, 1) := by decide +kernel
theorem dX9_readTraveller_73 : decode cX9_readTraveller 73 = .ok (.if_icmp .eq 21, 3) := by decide +kernel
theorem dX9_readTraveller_76 : decode cX9_readTraveller 76 = .ok (.aload_n 0, 1) := by decide +kernel
theorem dX9_readTraveller_77 : decode cX9_readTraveller 77 = .ok (.getfield 13, 3) := by decide +kernel
theorem dX9_readTraveller_80 : decode cX9_readTraveller 80 = .ok (.iload_n 1, 1) := by decide +kernel
theorem dX9_readTraveller_81 : decode cX9_readTraveller 81 = .ok (.iload_n 2, 1) := by decide +kernel
theorem dX9_readTraveller_82 : decode cX9_readTraveller 82 = .ok (.invokestatic 45, 3) := by decide +kernel
theorem dX9_readTraveller_85 : decode cX9_readTraveller 85 = .ok (.iaload, 1) := by decide +kernel
theorem dX9_readTraveller_86 : decode cX9_readTraveller 86 = .ok (.iconst 2, 1) := by decide +kernel
theorem dX9_readTraveller_87 : decode cX9_readTraveller 87 = .ok (.if_icmp .eq 7, 3) := by decide +kernel
theorem dX9_readTraveller_90 : decode cX9_readTraveller 90 = .ok (.iconst 1, 1) := by decide +kernel
theorem dX9_readTraveller_91 : decode cX9_readTraveller 91 = .ok (.goto 4, 3) := by decide +kernel
theorem dX9_readTraveller_94 : decode cX9_readTraveller 94 = .ok (.iconst 0, 1) := by decide +kernel
theorem dX9_readTraveller_95 : decode cX9_readTraveller 95 = .ok (.invokevirtual 210, 3) := by decide +kernel
theorem dX9_readTraveller_98 : decode cX9_readTraveller 98 = .ok (.ifCond .ne 4, 3) := by decide +kernel
theorem dX9_readTraveller_101 : decode cX9_readTraveller 101 = .ok (.return_, 1) := by decide +kernel
theorem dX9_readTraveller_102 : decode cX9_readTraveller 102 = .ok (.aload_n 0, 1) := by decide +kernel
theorem dX9_readTraveller_103 : decode cX9_readTraveller 103 = .ok (.aload_n 0, 1) := by decide +kernel
theorem dX9_readTraveller_104 : decode cX9_readTraveller 104 = .ok (.getfield 183, 3) := by decide +kernel
theorem dX9_readTraveller_107 : decode cX9_readTraveller 107 = .ok (.iconst 3, 1) := by decide +kernel
theorem dX9_readTraveller_108 : decode cX9_readTraveller 108 = .ok (.if_icmp .ne 7, 3) := by decide +kernel
theorem dX9_readTraveller_111 : decode cX9_readTraveller 111 = .ok (.iconst 1, 1) := by decide +kernel
theorem dX9_readTraveller_112 : decode cX9_readTraveller 112 = .ok (.goto 4, 3) := by decide +kernel
theorem dX9_readTraveller_115 : decode cX9_readTraveller 115 = .ok (.iconst 0, 1) := by decide +kernel
theorem dX9_readTraveller_116 : decode cX9_readTraveller 116 = .ok (.invokevirtual 210, 3) := by decide +kernel
theorem dX9_readTraveller_119 : decode cX9_readTraveller 119 = .ok (.ifCond .eq 13, 3) := by decide +kernel
theorem dX9_readTraveller_122 : decode cX9_readTraveller 122 = .ok (.aload_n 0, 1) := by decide +kernel
theorem dX9_readTraveller_123 : decode cX9_readTraveller 123 = .ok (.getfield 13, 3) := by decide +kernel
theorem dX9_readTraveller_126 : decode cX9_readTraveller 126 = .ok (.iload_n 1, 1) := by decide +kernel
theorem dX9_readTraveller_127 : decode cX9_readTraveller 127 = .ok (.iload_n 2, 1) := by decide +kernel
theorem dX9_readTraveller_128 : decode cX9_readTraveller 128 = .ok (.invokestatic 243, 3) := by decide +kernel
theorem dX9_readTraveller_131 : decode cX9_readTraveller 131 = .ok (.pop, 1) := by decide +kernel
theorem dX9_readTraveller_132 : decode cX9_readTraveller 132 = .ok (.return_, 1) := by decide +kernel
theorem tX9_readTraveller {L : Nat} {xs : Nat → Int32} {N : Nat} : z_AllE (zE L xs N 59) 0 (kX9_readTraveller N) :=
  z_ac (j := 1) rfl (z_eI (sp_aload_n (q := 0) dX9_readTraveller_0 rfl rfl)) <|
  z_ac (j := 2) rfl (z_eI (sp_aload_n (q := 0) dX9_readTraveller_1 rfl rfl)) <|
  z_ac (j := 3) rfl (z_eI (sp_getf (C := RX9) (T := TX9) (Nf := 23) dX9_readTraveller_2 rfl inX9 (by decide) wf_1347 rfl)) <|
  z_ac (j := 4) rfl (z_eI (sp_iconst dX9_readTraveller_5 (by decide +kernel) rfl)) <|
  z_ac (j := 5) rfl (z_eI (sp_iald dX9_readTraveller_6 rfl)) <|
  z_ac (j := 6) rfl (z_eI (sp_bipush dX9_readTraveller_7 (by decide +kernel) rfl)) <|
  z_ac (j := 7) rfl (z_eI (sp_icmp_ge dX9_readTraveller_9 rfl rfl)) <|
  z_ac (j := 8) rfl (z_eI (sp_iconst dX9_readTraveller_12 (by decide +kernel) rfl)) <|
  z_ac (j := 9) rfl (z_eI (sp_goto dX9_readTraveller_13 rfl)) <|
  z_ac (j := 10) rfl (z_eI (sp_iconst dX9_readTraveller_16 (by decide +kernel) rfl)) <|
  z_ac (j := 11) rfl (z_cV dX9_readTraveller_17 wl_1470 qX9_takes (by decide +kernel) ⟨_, _, rfl⟩ (z_sn rfl rfl) rfl) <|
  z_ac (j := 12) rfl (z_eI (sp_if_ne dX9_readTraveller_20 rfl rfl)) <|
  z_ac (j := 13) rfl (z_eW (sv_void dX9_readTraveller_23 rfl)) <|
  z_ac (j := 14) rfl (z_eI (sp_aload_n (q := 0) dX9_readTraveller_24 rfl rfl)) <|
  z_ac (j := 15) rfl (z_eI (sp_iconst dX9_readTraveller_25 (by decide +kernel) rfl)) <|
  z_ac (j := 16) rfl (z_eI (sp_aload_n (q := 0) dX9_readTraveller_26 rfl rfl)) <|
  z_ac (j := 17) rfl (z_eI (sp_getf (C := RX9) (T := TX9) (Nf := 23) dX9_readTraveller_27 rfl inX9 (by decide) wf_1347 rfl)) <|
  z_ac (j := 18) rfl (z_eI (sp_iconst dX9_readTraveller_30 (by decide +kernel) rfl)) <|
  z_ac (j := 19) rfl (z_eI (sp_iald dX9_readTraveller_31 rfl)) <|
  z_ac (j := 20) rfl (z_eI (sp_iconst dX9_readTraveller_32 (by decide +kernel) rfl)) <|
  z_ac (j := 21) rfl (z_eI (sp_isub dX9_readTraveller_33 rfl)) <|
  z_ac (j := 22) rfl (z_cV dX9_readTraveller_34 wl_1474 qX9_takesNumber (by decide +kernel) ⟨_, _, rfl⟩ (z_sn rfl rfl) rfl) <|
  z_ac (j := 23) rfl (z_eI (sp_istore_n (q := 1) dX9_readTraveller_37 rfl (by decide) (fun _ _ => rfl) rfl)) <|
  z_ac (j := 24) rfl (z_eI (sp_aload_n (q := 0) dX9_readTraveller_38 rfl rfl)) <|
  z_ac (j := 25) rfl (z_eI (sp_getf (C := RX9) (T := TX9) (Nf := 23) dX9_readTraveller_39 rfl inX9 (by decide) wf_1364 rfl)) <|
  z_ac (j := 26) rfl (z_eI (sp_istore_n (q := 2) dX9_readTraveller_42 rfl (by decide) (fun _ _ => rfl) rfl)) <|
  z_ac (j := 27) rfl (z_eI (sp_aload_n (q := 0) dX9_readTraveller_43 rfl rfl)) <|
  z_ac (j := 28) rfl (z_eI (sp_aload_n (q := 0) dX9_readTraveller_44 rfl rfl)) <|
  z_ac (j := 29) rfl (z_eI (sp_getf (C := RX9) (T := TX9) (Nf := 23) dX9_readTraveller_45 rfl inX9 (by decide) wf_1363 rfl)) <|
  z_ac (j := 30) rfl (z_eI (sp_iconst dX9_readTraveller_48 (by decide +kernel) rfl)) <|
  z_ac (j := 31) rfl (z_eI (sp_icmp_ne dX9_readTraveller_49 rfl rfl)) <|
  z_ac (j := 32) rfl (z_eI (sp_iload_n (q := 2) dX9_readTraveller_52 rfl rfl)) <|
  z_ac (j := 33) rfl (z_eI (sp_aload_n (q := 0) dX9_readTraveller_53 rfl rfl)) <|
  z_ac (j := 34) rfl (z_eI (sp_getf (C := RX9) (T := TX9) (Nf := 23) dX9_readTraveller_54 rfl inX9 (by decide) wf_1347 rfl)) <|
  z_ac (j := 35) rfl (z_eI (sp_iconst dX9_readTraveller_57 (by decide +kernel) rfl)) <|
  z_ac (j := 36) rfl (z_eI (sp_iald dX9_readTraveller_58 rfl)) <|
  z_ac (j := 37) rfl (z_eI (sp_icmp_ge dX9_readTraveller_59 rfl rfl)) <|
  z_ac (j := 38) rfl (z_eI (sp_aload_n (q := 0) dX9_readTraveller_62 rfl rfl)) <|
  z_ac (j := 39) rfl (z_eI (sp_getf (C := RX9) (T := TX9) (Nf := 23) dX9_readTraveller_63 rfl inX9 (by decide) wf_1347 rfl)) <|
  z_ac (j := 40) rfl (z_eI (sp_iload_n (q := 1) dX9_readTraveller_66 rfl rfl)) <|
  z_ac (j := 41) rfl (z_eI (sp_iload_n (q := 2) dX9_readTraveller_67 rfl rfl)) <|
  z_ac (j := 42) rfl (z_cS dX9_readTraveller_68 wl_1343 qX9_cellAt (by decide +kernel) (z_sn rfl rfl) rfl) <|
  z_ac (j := 43) rfl (z_eI (sp_iald dX9_readTraveller_71 rfl)) <|
  z_ac (j := 44) rfl (z_eI (sp_iconst dX9_readTraveller_72 (by decide +kernel) rfl)) <|
  z_ac (j := 45) rfl (z_eI (sp_icmp_eq dX9_readTraveller_73 rfl rfl)) <|
  z_ac (j := 46) rfl (z_eI (sp_aload_n (q := 0) dX9_readTraveller_76 rfl rfl)) <|
  z_ac (j := 47) rfl (z_eI (sp_getf (C := RX9) (T := TX9) (Nf := 23) dX9_readTraveller_77 rfl inX9 (by decide) wf_1347 rfl)) <|
  z_ac (j := 48) rfl (z_eI (sp_iload_n (q := 1) dX9_readTraveller_80 rfl rfl)) <|
  z_ac (j := 49) rfl (z_eI (sp_iload_n (q := 2) dX9_readTraveller_81 rfl rfl)) <|
  z_ac (j := 50) rfl (z_cS dX9_readTraveller_82 wl_1343 qX9_cellAt (by decide +kernel) (z_sn rfl rfl) rfl) <|
  z_ac (j := 51) rfl (z_eI (sp_iald dX9_readTraveller_85 rfl)) <|
  z_ac (j := 52) rfl (z_eI (sp_iconst dX9_readTraveller_86 (by decide +kernel) rfl)) <|
  z_ac (j := 53) rfl (z_eI (sp_icmp_eq dX9_readTraveller_87 rfl rfl)) <|
  z_ac (j := 54) rfl (z_eI (sp_iconst dX9_readTraveller_90 (by decide +kernel) rfl)) <|
  z_ac (j := 55) rfl (z_eI (sp_goto dX9_readTraveller_91 rfl)) <|
  z_ac (j := 56) rfl (z_eI (sp_iconst dX9_readTraveller_94 (by decide +kernel) rfl)) <|
  z_ac (j := 57) rfl (z_cV dX9_readTraveller_95 wl_1470 qX9_takes (by decide +kernel) ⟨_, _, rfl⟩ (z_sn rfl rfl) rfl) <|
  z_ac (j := 58) rfl (z_eI (sp_if_ne dX9_readTraveller_98 rfl rfl)) <|
  z_ac (j := 59) rfl (z_eW (sv_void dX9_readTraveller_101 rfl)) <|
  z_ac (j := 60) rfl (z_eI (sp_aload_n (q := 0) dX9_readTraveller_102 rfl rfl)) <|
  z_ac (j := 61) rfl (z_eI (sp_aload_n (q := 0) dX9_readTraveller_103 rfl rfl)) <|
  z_ac (j := 62) rfl (z_eI (sp_getf (C := RX9) (T := TX9) (Nf := 23) dX9_readTraveller_104 rfl inX9 (by decide) wf_1363 rfl)) <|
  z_ac (j := 63) rfl (z_eI (sp_iconst dX9_readTraveller_107 (by decide +kernel) rfl)) <|
  z_ac (j := 64) rfl (z_eI (sp_icmp_ne dX9_readTraveller_108 rfl rfl)) <|
  z_ac (j := 65) rfl (z_eI (sp_iconst dX9_readTraveller_111 (by decide +kernel) rfl)) <|
  z_ac (j := 66) rfl (z_eI (sp_goto dX9_readTraveller_112 rfl)) <|
  z_ac (j := 67) rfl (z_eI (sp_iconst dX9_readTraveller_115 (by decide +kernel) rfl)) <|
  z_ac (j := 68) rfl (z_cV dX9_readTraveller_116 wl_1470 qX9_takes (by decide +kernel) ⟨_, _, rfl⟩ (z_sn rfl rfl) rfl) <|
  z_ac (j := 69) rfl (z_eI (sp_if_eq dX9_readTraveller_119 rfl rfl)) <|
  z_ac (j := 70) rfl (z_eI (sp_aload_n (q := 0) dX9_readTraveller_122 rfl rfl)) <|
  z_ac (j := 71) rfl (z_eI (sp_getf (C := RX9) (T := TX9) (Nf := 23) dX9_readTraveller_123 rfl inX9 (by decide) wf_1347 rfl)) <|
  z_ac (j := 72) rfl (z_eI (sp_iload_n (q := 1) dX9_readTraveller_126 rfl rfl)) <|
  z_ac (j := 73) rfl (z_eI (sp_iload_n (q := 2) dX9_readTraveller_127 rfl rfl)) <|
  z_ac (j := 74) rfl (z_cS dX9_readTraveller_128 wl_1518 qX9_addsWalker (by decide +kernel) (z_sn rfl rfl) rfl) <|
  z_ac (j := 75) rfl (z_eI (sp_pop dX9_readTraveller_131 rfl)) <|
  z_ac (j := 76) rfl (z_eW (sv_void dX9_readTraveller_132 rfl)) <| z_an
theorem dX9_addsLight_0 : decode cX9_addsLight 0 = .ok (.aload_n 0, 1) := by decide +kernel
theorem dX9_addsLight_1 : decode cX9_addsLight 1 = .ok (.iconst 4, 1) := by decide +kernel
theorem dX9_addsLight_2 : decode cX9_addsLight 2 = .ok (.iaload, 1) := by decide +kernel
theorem dX9_addsLight_3 : decode cX9_addsLight 3 = .ok (.istore 5, 2) := by decide +kernel
theorem dX9_addsLight_5 : decode cX9_addsLight 5 = .ok (.aload_n 0, 1) := by decide +kernel
theorem dX9_addsLight_6 : decode cX9_addsLight 6 = .ok (.iload 5, 2) := by decide +kernel
theorem dX9_addsLight_8 : decode cX9_addsLight 8 = .ok (.iconst 0, 1) := by decide +kernel
theorem dX9_addsLight_9 : decode cX9_addsLight 9 = .ok (.invokestatic 101, 3) := by decide +kernel
theorem dX9_addsLight_12 : decode cX9_addsLight 12 = .ok (.iload_n 1, 1) := by decide +kernel
theorem dX9_addsLight_13 : decode cX9_addsLight 13 = .ok (.iastore, 1) := by decide +kernel
theorem dX9_addsLight_14 : decode cX9_addsLight 14 = .ok (.aload_n 0, 1) := by decide +kernel
theorem dX9_addsLight_15 : decode cX9_addsLight 15 = .ok (.iload 5, 2) := by decide +kernel
theorem dX9_addsLight_17 : decode cX9_addsLight 17 = .ok (.iconst 1, 1) := by decide +kernel
theorem dX9_addsLight_18 : decode cX9_addsLight 18 = .ok (.invokestatic 101, 3) := by decide +kernel
theorem dX9_addsLight_21 : decode cX9_addsLight 21 = .ok (.iload_n 2, 1) := by decide +kernel
theorem dX9_addsLight_22 : decode cX9_addsLight 22 = .ok (.iastore, 1) := by decide +kernel
theorem dX9_addsLight_23 : decode cX9_addsLight 23 = .ok (.aload_n 0, 1) := by decide +kernel
theorem dX9_addsLight_24 : decode cX9_addsLight 24 = .ok (.iload 5, 2) := by decide +kernel
theorem dX9_addsLight_26 : decode cX9_addsLight 26 = .ok (.iconst 2, 1) := by decide +kernel
theorem dX9_addsLight_27 : decode cX9_addsLight 27 = .ok (.invokestatic 101, 3) := by decide +kernel
theorem dX9_addsLight_30 : decode cX9_addsLight 30 = .ok (.iload_n 3, 1) := by decide +kernel
theorem dX9_addsLight_31 : decode cX9_addsLight 31 = .ok (.iastore, 1) := by decide +kernel
theorem dX9_addsLight_32 : decode cX9_addsLight 32 = .ok (.aload_n 0, 1) := by decide +kernel
theorem dX9_addsLight_33 : decode cX9_addsLight 33 = .ok (.iload 5, 2) := by decide +kernel
theorem dX9_addsLight_35 : decode cX9_addsLight 35 = .ok (.iconst 3, 1) := by decide +kernel
theorem dX9_addsLight_36 : decode cX9_addsLight 36 = .ok (.invokestatic 101, 3) := by decide +kernel
theorem dX9_addsLight_39 : decode cX9_addsLight 39 = .ok (.iload 4, 2) := by decide +kernel
theorem dX9_addsLight_41 : decode cX9_addsLight 41 = .ok (.iastore, 1) := by decide +kernel
theorem dX9_addsLight_42 : decode cX9_addsLight 42 = .ok (.aload_n 0, 1) := by decide +kernel
theorem dX9_addsLight_43 : decode cX9_addsLight 43 = .ok (.iload 5, 2) := by decide +kernel
theorem dX9_addsLight_45 : decode cX9_addsLight 45 = .ok (.iconst 4, 1) := by decide +kernel
theorem dX9_addsLight_46 : decode cX9_addsLight 46 = .ok (.invokestatic 101, 3) := by decide +kernel
theorem dX9_addsLight_49 : decode cX9_addsLight 49 = .ok (.iconst (-1), 1) := by decide +kernel
theorem dX9_addsLight_50 : decode cX9_addsLight 50 = .ok (.iastore, 1) := by decide +kernel
theorem dX9_addsLight_51 : decode cX9_addsLight 51 = .ok (.aload_n 0, 1) := by decide +kernel
theorem dX9_addsLight_52 : decode cX9_addsLight 52 = .ok (.iconst 4, 1) := by decide +kernel
theorem dX9_addsLight_53 : decode cX9_addsLight 53 = .ok (.dup2, 1) := by decide +kernel
theorem dX9_addsLight_54 : decode cX9_addsLight 54 = .ok (.iaload, 1) := by decide +kernel
theorem dX9_addsLight_55 : decode cX9_addsLight 55 = .ok (.iconst 1, 1) := by decide +kernel
theorem dX9_addsLight_56 : decode cX9_addsLight 56 = .ok (.iadd, 1) := by decide +kernel
theorem dX9_addsLight_57 : decode cX9_addsLight 57 = .ok (.iastore, 1) := by decide +kernel
theorem dX9_addsLight_58 : decode cX9_addsLight 58 = .ok (.iload 5, 2) := by decide +kernel
theorem dX9_addsLight_60 : decode cX9_addsLight 60 = .ok (.ireturn, 1) := by decide +kernel
theorem tX9_addsLight {L : Nat} {xs : Nat → Int32} {N : Nat} : z_AllE (zE L xs N 60) 0 (kX9_addsLight N) :=
  z_ac (j := 1) rfl (z_eI (sp_aload_n (q := 0) dX9_addsLight_0 rfl rfl)) <|
  z_ac (j := 2) rfl (z_eI (sp_iconst dX9_addsLight_1 (by decide +kernel) rfl)) <|
  z_ac (j := 3) rfl (z_eI (sp_iald dX9_addsLight_2 rfl)) <|
  z_ac (j := 4) rfl (z_eI (sp_istore dX9_addsLight_3 (by decide) (fun _ _ => rfl) rfl)) <|
  z_ac (j := 5) rfl (z_eI (sp_aload_n (q := 0) dX9_addsLight_5 rfl rfl)) <|
  z_ac (j := 6) rfl (z_eI (sp_iload dX9_addsLight_6 rfl)) <|
  z_ac (j := 7) rfl (z_eI (sp_iconst dX9_addsLight_8 (by decide +kernel) rfl)) <|
  z_ac (j := 8) rfl (z_cS dX9_addsLight_9 wl_1504 qX9_lightAt (by decide +kernel) (z_sn rfl rfl) rfl) <|
  z_ac (j := 9) rfl (z_eI (sp_iload_n (q := 1) dX9_addsLight_12 rfl rfl)) <|
  z_ac (j := 10) rfl (z_eI (sp_iast dX9_addsLight_13 rfl)) <|
  z_ac (j := 11) rfl (z_eI (sp_aload_n (q := 0) dX9_addsLight_14 rfl rfl)) <|
  z_ac (j := 12) rfl (z_eI (sp_iload dX9_addsLight_15 rfl)) <|
  z_ac (j := 13) rfl (z_eI (sp_iconst dX9_addsLight_17 (by decide +kernel) rfl)) <|
  z_ac (j := 14) rfl (z_cS dX9_addsLight_18 wl_1504 qX9_lightAt (by decide +kernel) (z_sn rfl rfl) rfl) <|
  z_ac (j := 15) rfl (z_eI (sp_iload_n (q := 2) dX9_addsLight_21 rfl rfl)) <|
  z_ac (j := 16) rfl (z_eI (sp_iast dX9_addsLight_22 rfl)) <|
  z_ac (j := 17) rfl (z_eI (sp_aload_n (q := 0) dX9_addsLight_23 rfl rfl)) <|
  z_ac (j := 18) rfl (z_eI (sp_iload dX9_addsLight_24 rfl)) <|
  z_ac (j := 19) rfl (z_eI (sp_iconst dX9_addsLight_26 (by decide +kernel) rfl)) <|
  z_ac (j := 20) rfl (z_cS dX9_addsLight_27 wl_1504 qX9_lightAt (by decide +kernel) (z_sn rfl rfl) rfl) <|
  z_ac (j := 21) rfl (z_eI (sp_iload_n (q := 3) dX9_addsLight_30 rfl rfl)) <|
  z_ac (j := 22) rfl (z_eI (sp_iast dX9_addsLight_31 rfl)) <|
  z_ac (j := 23) rfl (z_eI (sp_aload_n (q := 0) dX9_addsLight_32 rfl rfl)) <|
  z_ac (j := 24) rfl (z_eI (sp_iload dX9_addsLight_33 rfl)) <|
  z_ac (j := 25) rfl (z_eI (sp_iconst dX9_addsLight_35 (by decide +kernel) rfl)) <|
  z_ac (j := 26) rfl (z_cS dX9_addsLight_36 wl_1504 qX9_lightAt (by decide +kernel) (z_sn rfl rfl) rfl) <|
  z_ac (j := 27) rfl (z_eI (sp_iload dX9_addsLight_39 rfl)) <|
  z_ac (j := 28) rfl (z_eI (sp_iast dX9_addsLight_41 rfl)) <|
  z_ac (j := 29) rfl (z_eI (sp_aload_n (q := 0) dX9_addsLight_42 rfl rfl)) <|
  z_ac (j := 30) rfl (z_eI (sp_iload dX9_addsLight_43 rfl)) <|
  z_ac (j := 31) rfl (z_eI (sp_iconst dX9_addsLight_45 (by decide +kernel) rfl)) <|
  z_ac (j := 32) rfl (z_cS dX9_addsLight_46 wl_1504 qX9_lightAt (by decide +kernel) (z_sn rfl rfl) rfl) <|
  z_ac (j := 33) rfl (z_eI (sp_iconst dX9_addsLight_49 (by decide +kernel) rfl)) <|
  z_ac (j := 34) rfl (z_eI (sp_iast dX9_addsLight_50 rfl)) <|
  z_ac (j := 35) rfl (z_eI (sp_aload_n (q := 0) dX9_addsLight_51 rfl rfl)) <|
  z_ac (j := 36) rfl (z_eI (sp_iconst dX9_addsLight_52 (by decide +kernel) rfl)) <|
  z_ac (j := 37) rfl (z_eI (sp_dup2 dX9_addsLight_53 rfl)) <|
  z_ac (j := 38) rfl (z_eI (sp_iald dX9_addsLight_54 rfl)) <|
  z_ac (j := 39) rfl (z_eI (sp_iconst dX9_addsLight_55 (by decide +kernel) rfl)) <|
  z_ac (j := 40) rfl (z_eI (sp_iadd dX9_addsLight_56 rfl)) <|
  z_ac (j := 41) rfl (z_eI (sp_iast dX9_addsLight_57 rfl)) <|
  z_ac (j := 42) rfl (z_eI (sp_iload dX9_addsLight_58 rfl)) <|
  z_ac (j := 43) rfl (z_eR (sr_int dX9_addsLight_60 rfl)) <| z_an
