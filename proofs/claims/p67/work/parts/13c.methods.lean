/-! Each entry of the tables is sound (printed by wip/p67/gen12.py). -/
theorem dX5_scan_0 : decode cX5_scan 0 = .ok (.aload_n 0, 1) := by decide +kernel
theorem dX5_scan_1 : decode cX5_scan 1 = .ok (.aload_n 0, 1) := by decide +kernel
theorem dX5_scan_2 : decode cX5_scan 2 = .ok (.getfield 32, 3) := by decide +kernel
theorem dX5_scan_5 : decode cX5_scan 5 = .ok (.putfield 64, 3) := by decide +kernel
theorem dX5_scan_8 : decode cX5_scan 8 = .ok (.aload_n 0, 1) := by decide +kernel
theorem dX5_scan_9 : decode cX5_scan 9 = .ok (.getfield 64, 3) := by decide +kernel
theorem dX5_scan_12 : decode cX5_scan 12 = .ok (.aload_n 0, 1) := by decide +kernel
theorem dX5_scan_13 : decode cX5_scan 13 = .ok (.getfield 29, 3) := by decide +kernel
theorem dX5_scan_16 : decode cX5_scan 16 = .ok (.if_icmp .ge 32, 3) := by decide +kernel
theorem dX5_scan_19 : decode cX5_scan 19 = .ok (.aload_n 0, 1) := by decide +kernel
theorem dX5_scan_20 : decode cX5_scan 20 = .ok (.getfield 9, 3) := by decide +kernel
theorem dX5_scan_23 : decode cX5_scan 23 = .ok (.aload_n 0, 1) := by decide +kernel
theorem dX5_scan_24 : decode cX5_scan 24 = .ok (.getfield 64, 3) := by decide +kernel
theorem dX5_scan_27 : decode cX5_scan 27 = .ok (.baload, 1) := by decide +kernel
theorem dX5_scan_28 : decode cX5_scan 28 = .ok (.invokestatic 170, 3) := by decide +kernel
theorem dX5_scan_31 : decode cX5_scan 31 = .ok (.iconst 5, 1) := by decide +kernel
theorem dX5_scan_32 : decode cX5_scan 32 = .ok (.if_icmp .ne 16, 3) := by decide +kernel
theorem dX5_scan_35 : decode cX5_scan 35 = .ok (.aload_n 0, 1) := by decide +kernel
theorem dX5_scan_36 : decode cX5_scan 36 = .ok (.dup, 1) := by decide +kernel
theorem dX5_scan_37 : decode cX5_scan 37 = .ok (.getfield 64, 3) := by decide +kernel
theorem dX5_scan_40 : decode cX5_scan 40 = .ok (.iconst 1, 1) := by decide +kernel
theorem dX5_scan_41 : decode cX5_scan 41 = .ok (.iadd, 1) := by decide +kernel
theorem dX5_scan_42 : decode cX5_scan 42 = .ok (.putfield 64, 3) := by decide +kernel
theorem dX5_scan_45 : decode cX5_scan 45 = .ok (.goto (-37), 3) := by decide +kernel
theorem dX5_scan_48 : decode cX5_scan 48 = .ok (.aload_n 0, 1) := by decide +kernel
theorem dX5_scan_49 : decode cX5_scan 49 = .ok (.aload_n 0, 1) := by decide +kernel
theorem dX5_scan_50 : decode cX5_scan 50 = .ok (.getfield 64, 3) := by decide +kernel
theorem dX5_scan_53 : decode cX5_scan 53 = .ok (.putfield 32, 3) := by decide +kernel
theorem dX5_scan_56 : decode cX5_scan 56 = .ok (.aload_n 0, 1) := by decide +kernel
theorem dX5_scan_57 : decode cX5_scan 57 = .ok (.getfield 64, 3) := by decide +kernel
theorem dX5_scan_60 : decode cX5_scan 60 = .ok (.aload_n 0, 1) := by decide +kernel
theorem dX5_scan_61 : decode cX5_scan 61 = .ok (.getfield 29, 3) := by decide +kernel
theorem dX5_scan_64 : decode cX5_scan 64 = .ok (.if_icmp .lt 9, 3) := by decide +kernel
theorem dX5_scan_67 : decode cX5_scan 67 = .ok (.aload_n 0, 1) := by decide +kernel
theorem dX5_scan_68 : decode cX5_scan 68 = .ok (.iconst 0, 1) := by decide +kernel
theorem dX5_scan_69 : decode cX5_scan 69 = .ok (.putfield 61, 3) := by decide +kernel
theorem dX5_scan_72 : decode cX5_scan 72 = .ok (.return_, 1) := by decide +kernel
theorem dX5_scan_73 : decode cX5_scan 73 = .ok (.aload_n 0, 1) := by decide +kernel
theorem dX5_scan_74 : decode cX5_scan 74 = .ok (.aload_n 0, 1) := by decide +kernel
theorem dX5_scan_75 : decode cX5_scan 75 = .ok (.getfield 9, 3) := by decide +kernel
theorem dX5_scan_78 : decode cX5_scan 78 = .ok (.aload_n 0, 1) := by decide +kernel
theorem dX5_scan_79 : decode cX5_scan 79 = .ok (.getfield 64, 3) := by decide +kernel
theorem dX5_scan_82 : decode cX5_scan 82 = .ok (.baload, 1) := by decide +kernel
theorem dX5_scan_83 : decode cX5_scan 83 = .ok (.invokestatic 170, 3) := by decide +kernel
theorem dX5_scan_86 : decode cX5_scan 86 = .ok (.putfield 61, 3) := by decide +kernel
theorem dX5_scan_89 : decode cX5_scan 89 = .ok (.aload_n 0, 1) := by decide +kernel
theorem dX5_scan_90 : decode cX5_scan 90 = .ok (.dup, 1) := by decide +kernel
theorem dX5_scan_91 : decode cX5_scan 91 = .ok (.getfield 32, 3) := by decide +kernel
theorem dX5_scan_94 : decode cX5_scan 94 = .ok (.iconst 1, 1) := by decide +kernel
theorem dX5_scan_95 : decode cX5_scan 95 = .ok (.iadd, 1) := by decide +kernel
theorem dX5_scan_96 : decode cX5_scan 96 = .ok (.putfield 32, 3) := by decide +kernel
theorem dX5_scan_99 : decode cX5_scan 99 = .ok (.aload_n 0, 1) := by decide +kernel
theorem dX5_scan_100 : decode cX5_scan 100 = .ok (.getfield 61, 3) := by decide +kernel
theorem dX5_scan_103 : decode cX5_scan 103 = .ok (.iconst 1, 1) := by decide +kernel
theorem dX5_scan_104 : decode cX5_scan 104 = .ok (.if_icmp .eq 11, 3) := by decide +kernel
theorem dX5_scan_107 : decode cX5_scan 107 = .ok (.aload_n 0, 1) := by decide +kernel
theorem dX5_scan_108 : decode cX5_scan 108 = .ok (.getfield 61, 3) := by decide +kernel
theorem dX5_scan_111 : decode cX5_scan 111 = .ok (.iconst 2, 1) := by decide +kernel
theorem dX5_scan_112 : decode cX5_scan 112 = .ok (.if_icmp .ne 46, 3) := by decide +kernel
theorem dX5_scan_115 : decode cX5_scan 115 = .ok (.aload_n 0, 1) := by decide +kernel
theorem dX5_scan_116 : decode cX5_scan 116 = .ok (.getfield 32, 3) := by decide +kernel
theorem dX5_scan_119 : decode cX5_scan 119 = .ok (.aload_n 0, 1) := by decide +kernel
theorem dX5_scan_120 : decode cX5_scan 120 = .ok (.getfield 29, 3) := by decide +kernel
theorem dX5_scan_123 : decode cX5_scan 123 = .ok (.if_icmp .ge 35, 3) := by decide +kernel
theorem dX5_scan_126 : decode cX5_scan 126 = .ok (.aload_n 0, 1) := by decide +kernel
theorem dX5_scan_127 : decode cX5_scan 127 = .ok (.getfield 9, 3) := by decide +kernel
theorem dX5_scan_130 : decode cX5_scan 130 = .ok (.aload_n 0, 1) := by decide +kernel
theorem dX5_scan_131 : decode cX5_scan 131 = .ok (.getfield 32, 3) := by decide +kernel
theorem dX5_scan_134 : decode cX5_scan 134 = .ok (.baload, 1) := by decide +kernel
theorem dX5_scan_135 : decode cX5_scan 135 = .ok (.invokestatic 170, 3) := by decide +kernel
theorem dX5_scan_138 : decode cX5_scan 138 = .ok (.aload_n 0, 1) := by decide +kernel
theorem dX5_scan_139 : decode cX5_scan 139 = .ok (.getfield 61, 3) := by decide +kernel
theorem dX5_scan_142 : decode cX5_scan 142 = .ok (.if_icmp .ne 16, 3) := by decide +kernel
theorem dX5_scan_145 : decode cX5_scan 145 = .ok (.aload_n 0, 1) := by decide +kernel
theorem dX5_scan_146 : decode cX5_scan 146 = .ok (.dup, 1) := by decide +kernel
theorem dX5_scan_147 : decode cX5_scan 147 = .ok (.getfield 32, 3) := by decide +kernel
theorem dX5_scan_150 : decode cX5_scan 150 = .ok (.iconst 1, 1) := by decide +kernel
theorem dX5_scan_151 : decode cX5_scan 151 = .ok (.iadd, 1) := by decide +kernel
theorem dX5_scan_152 : decode cX5_scan 152 = .ok (.putfield 32, 3) := by decide +kernel
theorem dX5_scan_155 : decode cX5_scan 155 = .ok (.goto (-40), 3) := by decide +kernel
theorem dX5_scan_158 : decode cX5_scan 158 = .ok (.aload_n 0, 1) := by decide +kernel
theorem dX5_scan_159 : decode cX5_scan 159 = .ok (.getfield 61, 3) := by decide +kernel
theorem dX5_scan_162 : decode cX5_scan 162 = .ok (.iconst 2, 1) := by decide +kernel
theorem dX5_scan_163 : decode cX5_scan 163 = .ok (.if_icmp .ne 7, 3) := by decide +kernel
theorem dX5_scan_166 : decode cX5_scan 166 = .ok (.aload_n 0, 1) := by decide +kernel
theorem dX5_scan_167 : decode cX5_scan 167 = .ok (.invokevirtual 173, 3) := by decide +kernel
theorem dX5_scan_170 : decode cX5_scan 170 = .ok (.return_, 1) := by decide +kernel
theorem tX5_scan {L : Nat} {xs : Nat → Int32} {N : Nat} : z_AllE (zE L xs N 198) 0 (kX5_scan N) :=
  z_ac (j := 1) rfl (z_eI (sp_aload_n (q := 0) dX5_scan_0 rfl rfl)) <|
  z_ac (j := 2) rfl (z_eI (sp_aload_n (q := 0) dX5_scan_1 rfl rfl)) <|
  z_ac (j := 3) rfl (z_eI (sp_getf (C := RX5) (T := TX5) (Nf := 7) dX5_scan_2 rfl inX5 (by decide) wf_250 rfl)) <|
  z_ac (j := 4) rfl (z_eI (sp_putI (C := RX5) (T := TX5) (Nf := 7) dX5_scan_5 rfl inX5 tyX5_ok nmX5 (by decide) wf_249 rfl (by decide +kernel) rfl)) <|
  z_ac (j := 5) rfl (z_eI (sp_aload_n (q := 0) dX5_scan_8 rfl rfl)) <|
  z_ac (j := 6) rfl (z_eI (sp_getf (C := RX5) (T := TX5) (Nf := 7) dX5_scan_9 rfl inX5 (by decide) wf_249 rfl)) <|
  z_ac (j := 7) rfl (z_eI (sp_aload_n (q := 0) dX5_scan_12 rfl rfl)) <|
  z_ac (j := 8) rfl (z_eI (sp_getf (C := RX5) (T := TX5) (Nf := 7) dX5_scan_13 rfl inX5 (by decide) wf_247 rfl)) <|
  z_ac (j := 9) rfl (z_eI (sp_icmp_ge dX5_scan_16 rfl rfl)) <|
  z_ac (j := 10) rfl (z_eI (sp_aload_n (q := 0) dX5_scan_19 rfl rfl)) <|
  z_ac (j := 11) rfl (z_eI (sp_getf (C := RX5) (T := TX5) (Nf := 7) dX5_scan_20 rfl inX5 (by decide) wf_248 rfl)) <|
  z_ac (j := 12) rfl (z_eI (sp_aload_n (q := 0) dX5_scan_23 rfl rfl)) <|
  z_ac (j := 13) rfl (z_eI (sp_getf (C := RX5) (T := TX5) (Nf := 7) dX5_scan_24 rfl inX5 (by decide) wf_249 rfl)) <|
  z_ac (j := 14) rfl (z_eI (sp_bald dX5_scan_27 rfl)) <|
  z_ac (j := 15) rfl (z_cS dX5_scan_28 wl_370 qX5_kindOf (by decide +kernel) (z_sn rfl rfl) rfl) <|
  z_ac (j := 16) rfl (z_eI (sp_iconst dX5_scan_31 (by decide +kernel) rfl)) <|
  z_ac (j := 17) rfl (z_eI (sp_icmp_ne dX5_scan_32 rfl rfl)) <|
  z_ac (j := 18) rfl (z_eI (sp_aload_n (q := 0) dX5_scan_35 rfl rfl)) <|
  z_ac (j := 19) rfl (z_eI (sp_dup dX5_scan_36 rfl)) <|
  z_ac (j := 20) rfl (z_eI (sp_getf (C := RX5) (T := TX5) (Nf := 7) dX5_scan_37 rfl inX5 (by decide) wf_249 rfl)) <|
  z_ac (j := 21) rfl (z_eI (sp_iconst dX5_scan_40 (by decide +kernel) rfl)) <|
  z_ac (j := 22) rfl (z_eI (sp_iadd dX5_scan_41 rfl)) <|
  z_ac (j := 23) rfl (z_eI (sp_putI (C := RX5) (T := TX5) (Nf := 7) dX5_scan_42 rfl inX5 tyX5_ok nmX5 (by decide) wf_249 rfl (by decide +kernel) rfl)) <|
  z_ac (j := 24) rfl (z_eI (sp_goto dX5_scan_45 rfl)) <|
  z_ac (j := 25) rfl (z_eI (sp_aload_n (q := 0) dX5_scan_48 rfl rfl)) <|
  z_ac (j := 26) rfl (z_eI (sp_aload_n (q := 0) dX5_scan_49 rfl rfl)) <|
  z_ac (j := 27) rfl (z_eI (sp_getf (C := RX5) (T := TX5) (Nf := 7) dX5_scan_50 rfl inX5 (by decide) wf_249 rfl)) <|
  z_ac (j := 28) rfl (z_eI (sp_putI (C := RX5) (T := TX5) (Nf := 7) dX5_scan_53 rfl inX5 tyX5_ok nmX5 (by decide) wf_250 rfl (by decide +kernel) rfl)) <|
  z_ac (j := 29) rfl (z_eI (sp_aload_n (q := 0) dX5_scan_56 rfl rfl)) <|
  z_ac (j := 30) rfl (z_eI (sp_getf (C := RX5) (T := TX5) (Nf := 7) dX5_scan_57 rfl inX5 (by decide) wf_249 rfl)) <|
  z_ac (j := 31) rfl (z_eI (sp_aload_n (q := 0) dX5_scan_60 rfl rfl)) <|
  z_ac (j := 32) rfl (z_eI (sp_getf (C := RX5) (T := TX5) (Nf := 7) dX5_scan_61 rfl inX5 (by decide) wf_247 rfl)) <|
  z_ac (j := 33) rfl (z_eI (sp_icmp_lt dX5_scan_64 rfl rfl)) <|
  z_ac (j := 34) rfl (z_eI (sp_aload_n (q := 0) dX5_scan_67 rfl rfl)) <|
  z_ac (j := 35) rfl (z_eI (sp_iconst dX5_scan_68 (by decide +kernel) rfl)) <|
  z_ac (j := 36) rfl (z_eI (sp_putI (C := RX5) (T := TX5) (Nf := 7) dX5_scan_69 rfl inX5 tyX5_ok nmX5 (by decide) wf_251 rfl (by decide +kernel) rfl)) <|
  z_ac (j := 37) rfl (z_eW (sv_void dX5_scan_72 rfl)) <|
  z_ac (j := 38) rfl (z_eI (sp_aload_n (q := 0) dX5_scan_73 rfl rfl)) <|
  z_ac (j := 39) rfl (z_eI (sp_aload_n (q := 0) dX5_scan_74 rfl rfl)) <|
  z_ac (j := 40) rfl (z_eI (sp_getf (C := RX5) (T := TX5) (Nf := 7) dX5_scan_75 rfl inX5 (by decide) wf_248 rfl)) <|
  z_ac (j := 41) rfl (z_eI (sp_aload_n (q := 0) dX5_scan_78 rfl rfl)) <|
  z_ac (j := 42) rfl (z_eI (sp_getf (C := RX5) (T := TX5) (Nf := 7) dX5_scan_79 rfl inX5 (by decide) wf_249 rfl)) <|
  z_ac (j := 43) rfl (z_eI (sp_bald dX5_scan_82 rfl)) <|
  z_ac (j := 44) rfl (z_cS dX5_scan_83 wl_370 qX5_kindOf (by decide +kernel) (z_sn rfl rfl) rfl) <|
  z_ac (j := 45) rfl (z_eI (sp_putI (C := RX5) (T := TX5) (Nf := 7) dX5_scan_86 rfl inX5 tyX5_ok nmX5 (by decide) wf_251 rfl (by decide +kernel) rfl)) <|
  z_ac (j := 46) rfl (z_eI (sp_aload_n (q := 0) dX5_scan_89 rfl rfl)) <|
  z_ac (j := 47) rfl (z_eI (sp_dup dX5_scan_90 rfl)) <|
  z_ac (j := 48) rfl (z_eI (sp_getf (C := RX5) (T := TX5) (Nf := 7) dX5_scan_91 rfl inX5 (by decide) wf_250 rfl)) <|
  z_ac (j := 49) rfl (z_eI (sp_iconst dX5_scan_94 (by decide +kernel) rfl)) <|
  z_ac (j := 50) rfl (z_eI (sp_iadd dX5_scan_95 rfl)) <|
  z_ac (j := 51) rfl (z_eI (sp_putI (C := RX5) (T := TX5) (Nf := 7) dX5_scan_96 rfl inX5 tyX5_ok nmX5 (by decide) wf_250 rfl (by decide +kernel) rfl)) <|
  z_ac (j := 52) rfl (z_eI (sp_aload_n (q := 0) dX5_scan_99 rfl rfl)) <|
  z_ac (j := 53) rfl (z_eI (sp_getf (C := RX5) (T := TX5) (Nf := 7) dX5_scan_100 rfl inX5 (by decide) wf_251 rfl)) <|
  z_ac (j := 54) rfl (z_eI (sp_iconst dX5_scan_103 (by decide +kernel) rfl)) <|
  z_ac (j := 55) rfl (z_eI (sp_icmp_eq dX5_scan_104 rfl rfl)) <|
  z_ac (j := 56) rfl (z_eI (sp_aload_n (q := 0) dX5_scan_107 rfl rfl)) <|
  z_ac (j := 57) rfl (z_eI (sp_getf (C := RX5) (T := TX5) (Nf := 7) dX5_scan_108 rfl inX5 (by decide) wf_251 rfl)) <|
  z_ac (j := 58) rfl (z_eI (sp_iconst dX5_scan_111 (by decide +kernel) rfl)) <|
  z_ac (j := 59) rfl (z_eI (sp_icmp_ne dX5_scan_112 rfl rfl)) <|
  z_ac (j := 60) rfl (z_eI (sp_aload_n (q := 0) dX5_scan_115 rfl rfl)) <|
  z_ac (j := 61) rfl (z_eI (sp_getf (C := RX5) (T := TX5) (Nf := 7) dX5_scan_116 rfl inX5 (by decide) wf_250 rfl)) <|
  z_ac (j := 62) rfl (z_eI (sp_aload_n (q := 0) dX5_scan_119 rfl rfl)) <|
  z_ac (j := 63) rfl (z_eI (sp_getf (C := RX5) (T := TX5) (Nf := 7) dX5_scan_120 rfl inX5 (by decide) wf_247 rfl)) <|
  z_ac (j := 64) rfl (z_eI (sp_icmp_ge dX5_scan_123 rfl rfl)) <|
  z_ac (j := 65) rfl (z_eI (sp_aload_n (q := 0) dX5_scan_126 rfl rfl)) <|
  z_ac (j := 66) rfl (z_eI (sp_getf (C := RX5) (T := TX5) (Nf := 7) dX5_scan_127 rfl inX5 (by decide) wf_248 rfl)) <|
  z_ac (j := 67) rfl (z_eI (sp_aload_n (q := 0) dX5_scan_130 rfl rfl)) <|
  z_ac (j := 68) rfl (z_eI (sp_getf (C := RX5) (T := TX5) (Nf := 7) dX5_scan_131 rfl inX5 (by decide) wf_250 rfl)) <|
  z_ac (j := 69) rfl (z_eI (sp_bald dX5_scan_134 rfl)) <|
  z_ac (j := 70) rfl (z_cS dX5_scan_135 wl_370 qX5_kindOf (by decide +kernel) (z_sn rfl rfl) rfl) <|
  z_ac (j := 71) rfl (z_eI (sp_aload_n (q := 0) dX5_scan_138 rfl rfl)) <|
  z_ac (j := 72) rfl (z_eI (sp_getf (C := RX5) (T := TX5) (Nf := 7) dX5_scan_139 rfl inX5 (by decide) wf_251 rfl)) <|
  z_ac (j := 73) rfl (z_eI (sp_icmp_ne dX5_scan_142 rfl rfl)) <|
  z_ac (j := 74) rfl (z_eI (sp_aload_n (q := 0) dX5_scan_145 rfl rfl)) <|
  z_ac (j := 75) rfl (z_eI (sp_dup dX5_scan_146 rfl)) <|
  z_ac (j := 76) rfl (z_eI (sp_getf (C := RX5) (T := TX5) (Nf := 7) dX5_scan_147 rfl inX5 (by decide) wf_250 rfl)) <|
  z_ac (j := 77) rfl (z_eI (sp_iconst dX5_scan_150 (by decide +kernel) rfl)) <|
  z_ac (j := 78) rfl (z_eI (sp_iadd dX5_scan_151 rfl)) <|
  z_ac (j := 79) rfl (z_eI (sp_putI (C := RX5) (T := TX5) (Nf := 7) dX5_scan_152 rfl inX5 tyX5_ok nmX5 (by decide) wf_250 rfl (by decide +kernel) rfl)) <|
  z_ac (j := 80) rfl (z_eI (sp_goto dX5_scan_155 rfl)) <|
  z_ac (j := 81) rfl (z_eI (sp_aload_n (q := 0) dX5_scan_158 rfl rfl)) <|
  z_ac (j := 82) rfl (z_eI (sp_getf (C := RX5) (T := TX5) (Nf := 7) dX5_scan_159 rfl inX5 (by decide) wf_251 rfl)) <|
  z_ac (j := 83) rfl (z_eI (sp_iconst dX5_scan_162 (by decide +kernel) rfl)) <|
  z_ac (j := 84) rfl (z_eI (sp_icmp_ne dX5_scan_163 rfl rfl)) <|
  z_ac (j := 85) rfl (z_eI (sp_aload_n (q := 0) dX5_scan_166 rfl rfl)) <|
  z_ac (j := 86) rfl (z_cV dX5_scan_167 wl_373 qX5_readNumber (by decide +kernel) ⟨_, _, rfl⟩ (z_sn rfl rfl) rfl) <|
  z_ac (j := 87) rfl (z_eW (sv_void dX5_scan_170 rfl)) <| z_an
theorem dX5_readNumber_0 : decode cX5_readNumber 0 = .ok (.aload_n 0, 1) := by decide +kernel
theorem dX5_readNumber_1 : decode cX5_readNumber 1 = .ok (.getfield 32, 3) := by decide +kernel
theorem dX5_readNumber_4 : decode cX5_readNumber 4 = .ok (.aload_n 0, 1) := by decide +kernel
theorem dX5_readNumber_5 : decode cX5_readNumber 5 = .ok (.getfield 64, 3) := by decide +kernel
theorem dX5_readNumber_8 : decode cX5_readNumber 8 = .ok (.isub, 1) := by decide +kernel
theorem dX5_readNumber_9 : decode cX5_readNumber 9 = .ok (.iconst 3, 1) := by decide +kernel
theorem dX5_readNumber_10 : decode cX5_readNumber 10 = .ok (.if_icmp .le 9, 3) := by decide +kernel
theorem dX5_readNumber_13 : decode cX5_readNumber 13 = .ok (.aload_n 0, 1) := by decide +kernel
theorem dX5_readNumber_14 : decode cX5_readNumber 14 = .ok (.iconst 4, 1) := by decide +kernel
theorem dX5_readNumber_15 : decode cX5_readNumber 15 = .ok (.putfield 61, 3) := by decide +kernel
theorem dX5_readNumber_18 : decode cX5_readNumber 18 = .ok (.return_, 1) := by decide +kernel
theorem dX5_readNumber_19 : decode cX5_readNumber 19 = .ok (.aload_n 0, 1) := by decide +kernel
theorem dX5_readNumber_20 : decode cX5_readNumber 20 = .ok (.iconst 0, 1) := by decide +kernel
theorem dX5_readNumber_21 : decode cX5_readNumber 21 = .ok (.putfield 120, 3) := by decide +kernel
theorem dX5_readNumber_24 : decode cX5_readNumber 24 = .ok (.aload_n 0, 1) := by decide +kernel
theorem dX5_readNumber_25 : decode cX5_readNumber 25 = .ok (.getfield 64, 3) := by decide +kernel
theorem dX5_readNumber_28 : decode cX5_readNumber 28 = .ok (.istore_n 1, 1) := by decide +kernel
theorem dX5_readNumber_29 : decode cX5_readNumber 29 = .ok (.iload_n 1, 1) := by decide +kernel
theorem dX5_readNumber_30 : decode cX5_readNumber 30 = .ok (.aload_n 0, 1) := by decide +kernel
theorem dX5_readNumber_31 : decode cX5_readNumber 31 = .ok (.getfield 32, 3) := by decide +kernel
theorem dX5_readNumber_34 : decode cX5_readNumber 34 = .ok (.if_icmp .ge 30, 3) := by decide +kernel
theorem dX5_readNumber_37 : decode cX5_readNumber 37 = .ok (.aload_n 0, 1) := by decide +kernel
theorem dX5_readNumber_38 : decode cX5_readNumber 38 = .ok (.aload_n 0, 1) := by decide +kernel
theorem dX5_readNumber_39 : decode cX5_readNumber 39 = .ok (.getfield 120, 3) := by decide +kernel
theorem dX5_readNumber_42 : decode cX5_readNumber 42 = .ok (.bipush 10, 2) := by decide +kernel
theorem dX5_readNumber_44 : decode cX5_readNumber 44 = .ok (.imul, 1) := by decide +kernel
theorem dX5_readNumber_45 : decode cX5_readNumber 45 = .ok (.aload_n 0, 1) := by decide +kernel
theorem dX5_readNumber_46 : decode cX5_readNumber 46 = .ok (.getfield 9, 3) := by decide +kernel
theorem dX5_readNumber_49 : decode cX5_readNumber 49 = .ok (.iload_n 1, 1) := by decide +kernel
theorem dX5_readNumber_50 : decode cX5_readNumber 50 = .ok (.baload, 1) := by decide +kernel
theorem dX5_readNumber_51 : decode cX5_readNumber 51 = .ok (.iadd, 1) := by decide +kernel
theorem dX5_readNumber_52 : decode cX5_readNumber 52 = .ok (.bipush 48, 2) := by decide +kernel
theorem dX5_readNumber_54 : decode cX5_readNumber 54 = .ok (.isub, 1) := by decide +kernel
theorem dX5_readNumber_55 : decode cX5_readNumber 55 = .ok (.putfield 120, 3) := by decide +kernel
theorem dX5_readNumber_58 : decode cX5_readNumber 58 = .ok (.iinc 1 1, 3) := by decide +kernel
theorem dX5_readNumber_61 : decode cX5_readNumber 61 = .ok (.goto (-32), 3) := by decide +kernel
theorem dX5_readNumber_64 : decode cX5_readNumber 64 = .ok (.return_, 1) := by decide +kernel
theorem tX5_readNumber {L : Nat} {xs : Nat → Int32} {N : Nat} : z_AllE (zE L xs N 199) 0 (kX5_readNumber N) :=
  z_ac (j := 1) rfl (z_eI (sp_aload_n (q := 0) dX5_readNumber_0 rfl rfl)) <|
  z_ac (j := 2) rfl (z_eI (sp_getf (C := RX5) (T := TX5) (Nf := 7) dX5_readNumber_1 rfl inX5 (by decide) wf_250 rfl)) <|
  z_ac (j := 3) rfl (z_eI (sp_aload_n (q := 0) dX5_readNumber_4 rfl rfl)) <|
  z_ac (j := 4) rfl (z_eI (sp_getf (C := RX5) (T := TX5) (Nf := 7) dX5_readNumber_5 rfl inX5 (by decide) wf_249 rfl)) <|
  z_ac (j := 5) rfl (z_eI (sp_isub dX5_readNumber_8 rfl)) <|
  z_ac (j := 6) rfl (z_eI (sp_iconst dX5_readNumber_9 (by decide +kernel) rfl)) <|
  z_ac (j := 7) rfl (z_eI (sp_icmp_le dX5_readNumber_10 rfl rfl)) <|
  z_ac (j := 8) rfl (z_eI (sp_aload_n (q := 0) dX5_readNumber_13 rfl rfl)) <|
  z_ac (j := 9) rfl (z_eI (sp_iconst dX5_readNumber_14 (by decide +kernel) rfl)) <|
  z_ac (j := 10) rfl (z_eI (sp_putI (C := RX5) (T := TX5) (Nf := 7) dX5_readNumber_15 rfl inX5 tyX5_ok nmX5 (by decide) wf_251 rfl (by decide +kernel) rfl)) <|
  z_ac (j := 11) rfl (z_eW (sv_void dX5_readNumber_18 rfl)) <|
  z_ac (j := 12) rfl (z_eI (sp_aload_n (q := 0) dX5_readNumber_19 rfl rfl)) <|
  z_ac (j := 13) rfl (z_eI (sp_iconst dX5_readNumber_20 (by decide +kernel) rfl)) <|
  z_ac (j := 14) rfl (z_eI (sp_putI (C := RX5) (T := TX5) (Nf := 7) dX5_readNumber_21 rfl inX5 tyX5_ok nmX5 (by decide) wf_252 rfl (by decide +kernel) rfl)) <|
  z_ac (j := 15) rfl (z_eI (sp_aload_n (q := 0) dX5_readNumber_24 rfl rfl)) <|
  z_ac (j := 16) rfl (z_eI (sp_getf (C := RX5) (T := TX5) (Nf := 7) dX5_readNumber_25 rfl inX5 (by decide) wf_249 rfl)) <|
  z_ac (j := 17) rfl (z_eI (sp_istore_n (q := 1) dX5_readNumber_28 rfl (by decide) (fun _ _ => rfl) rfl)) <|
  z_ac (j := 18) rfl (z_eI (sp_iload_n (q := 1) dX5_readNumber_29 rfl rfl)) <|
  z_ac (j := 19) rfl (z_eI (sp_aload_n (q := 0) dX5_readNumber_30 rfl rfl)) <|
  z_ac (j := 20) rfl (z_eI (sp_getf (C := RX5) (T := TX5) (Nf := 7) dX5_readNumber_31 rfl inX5 (by decide) wf_250 rfl)) <|
  z_ac (j := 21) rfl (z_eI (sp_icmp_ge dX5_readNumber_34 rfl rfl)) <|
  z_ac (j := 22) rfl (z_eI (sp_aload_n (q := 0) dX5_readNumber_37 rfl rfl)) <|
  z_ac (j := 23) rfl (z_eI (sp_aload_n (q := 0) dX5_readNumber_38 rfl rfl)) <|
  z_ac (j := 24) rfl (z_eI (sp_getf (C := RX5) (T := TX5) (Nf := 7) dX5_readNumber_39 rfl inX5 (by decide) wf_252 rfl)) <|
  z_ac (j := 25) rfl (z_eI (sp_bipush dX5_readNumber_42 (by decide +kernel) rfl)) <|
  z_ac (j := 26) rfl (z_eI (sp_imul dX5_readNumber_44 rfl)) <|
  z_ac (j := 27) rfl (z_eI (sp_aload_n (q := 0) dX5_readNumber_45 rfl rfl)) <|
  z_ac (j := 28) rfl (z_eI (sp_getf (C := RX5) (T := TX5) (Nf := 7) dX5_readNumber_46 rfl inX5 (by decide) wf_248 rfl)) <|
  z_ac (j := 29) rfl (z_eI (sp_iload_n (q := 1) dX5_readNumber_49 rfl rfl)) <|
  z_ac (j := 30) rfl (z_eI (sp_bald dX5_readNumber_50 rfl)) <|
  z_ac (j := 31) rfl (z_eI (sp_iadd dX5_readNumber_51 rfl)) <|
  z_ac (j := 32) rfl (z_eI (sp_bipush dX5_readNumber_52 (by decide +kernel) rfl)) <|
  z_ac (j := 33) rfl (z_eI (sp_isub dX5_readNumber_54 rfl)) <|
  z_ac (j := 34) rfl (z_eI (sp_putI (C := RX5) (T := TX5) (Nf := 7) dX5_readNumber_55 rfl inX5 tyX5_ok nmX5 (by decide) wf_252 rfl (by decide +kernel) rfl)) <|
  z_ac (j := 35) rfl (z_eI (sp_iinc dX5_readNumber_58 (by decide +kernel) (by decide) (fun _ _ => rfl) rfl)) <|
  z_ac (j := 36) rfl (z_eI (sp_goto dX5_readNumber_61 rfl)) <|
  z_ac (j := 37) rfl (z_eW (sv_void dX5_readNumber_64 rfl)) <| z_an
theorem dX5_kindOf_0 : decode cX5_kindOf 0 = .ok (.iload_n 0, 1) := by decide +kernel
theorem dX5_kindOf_1 : decode cX5_kindOf 1 = .ok (.bipush 97, 2) := by decide +kernel
theorem dX5_kindOf_3 : decode cX5_kindOf 3 = .ok (.if_icmp .lt 11, 3) := by decide +kernel
theorem dX5_kindOf_6 : decode cX5_kindOf 6 = .ok (.iload_n 0, 1) := by decide +kernel
theorem dX5_kindOf_7 : decode cX5_kindOf 7 = .ok (.bipush 122, 2) := by decide +kernel
theorem dX5_kindOf_9 : decode cX5_kindOf 9 = .ok (.if_icmp .gt 5, 3) := by decide +kernel
theorem dX5_kindOf_12 : decode cX5_kindOf 12 = .ok (.iconst 1, 1) := by decide +kernel
theorem dX5_kindOf_13 : decode cX5_kindOf 13 = .ok (.ireturn, 1) := by decide +kernel
theorem dX5_kindOf_14 : decode cX5_kindOf 14 = .ok (.iload_n 0, 1) := by decide +kernel
theorem dX5_kindOf_15 : decode cX5_kindOf 15 = .ok (.bipush 48, 2) := by decide +kernel
theorem dX5_kindOf_17 : decode cX5_kindOf 17 = .ok (.if_icmp .lt 11, 3) := by decide +kernel
theorem dX5_kindOf_20 : decode cX5_kindOf 20 = .ok (.iload_n 0, 1) := by decide +kernel
theorem dX5_kindOf_21 : decode cX5_kindOf 21 = .ok (.bipush 57, 2) := by decide +kernel
theorem dX5_kindOf_23 : decode cX5_kindOf 23 = .ok (.if_icmp .gt 5, 3) := by decide +kernel
theorem dX5_kindOf_26 : decode cX5_kindOf 26 = .ok (.iconst 2, 1) := by decide +kernel
theorem dX5_kindOf_27 : decode cX5_kindOf 27 = .ok (.ireturn, 1) := by decide +kernel
theorem dX5_kindOf_28 : decode cX5_kindOf 28 = .ok (.iload_n 0, 1) := by decide +kernel
theorem dX5_kindOf_29 : decode cX5_kindOf 29 = .ok (.lookupswitch 39 #[(10, 37), (32, 37), (59, 35)], 35) := by decide +kernel
theorem dX5_kindOf_64 : decode cX5_kindOf 64 = .ok (.iconst 3, 1) := by decide +kernel
theorem dX5_kindOf_65 : decode cX5_kindOf 65 = .ok (.ireturn, 1) := by decide +kernel
theorem dX5_kindOf_66 : decode cX5_kindOf 66 = .ok (.iconst 5, 1) := by decide +kernel
theorem dX5_kindOf_67 : decode cX5_kindOf 67 = .ok (.ireturn, 1) := by decide +kernel
theorem dX5_kindOf_68 : decode cX5_kindOf 68 = .ok (.iconst 4, 1) := by decide +kernel
theorem dX5_kindOf_69 : decode cX5_kindOf 69 = .ok (.ireturn, 1) := by decide +kernel
theorem tX5_kindOf {L : Nat} {xs : Nat → Int32} {N : Nat} : z_AllE (zE L xs N 200) 0 (kX5_kindOf N) :=
  z_ac (j := 1) rfl (z_eI (sp_iload_n (q := 0) dX5_kindOf_0 rfl rfl)) <|
  z_ac (j := 2) rfl (z_eI (sp_bipush dX5_kindOf_1 (by decide +kernel) rfl)) <|
  z_ac (j := 3) rfl (z_eI (sp_icmp_lt dX5_kindOf_3 rfl rfl)) <|
  z_ac (j := 4) rfl (z_eI (sp_iload_n (q := 0) dX5_kindOf_6 rfl rfl)) <|
  z_ac (j := 5) rfl (z_eI (sp_bipush dX5_kindOf_7 (by decide +kernel) rfl)) <|
  z_ac (j := 6) rfl (z_eI (sp_icmp_gt dX5_kindOf_9 rfl rfl)) <|
  z_ac (j := 7) rfl (z_eI (sp_iconst dX5_kindOf_12 (by decide +kernel) rfl)) <|
  z_ac (j := 8) rfl (z_eR (sr_int dX5_kindOf_13 rfl)) <|
  z_ac (j := 9) rfl (z_eI (sp_iload_n (q := 0) dX5_kindOf_14 rfl rfl)) <|
  z_ac (j := 10) rfl (z_eI (sp_bipush dX5_kindOf_15 (by decide +kernel) rfl)) <|
  z_ac (j := 11) rfl (z_eI (sp_icmp_lt dX5_kindOf_17 rfl rfl)) <|
  z_ac (j := 12) rfl (z_eI (sp_iload_n (q := 0) dX5_kindOf_20 rfl rfl)) <|
  z_ac (j := 13) rfl (z_eI (sp_bipush dX5_kindOf_21 (by decide +kernel) rfl)) <|
  z_ac (j := 14) rfl (z_eI (sp_icmp_gt dX5_kindOf_23 rfl rfl)) <|
  z_ac (j := 15) rfl (z_eI (sp_iconst dX5_kindOf_26 (by decide +kernel) rfl)) <|
  z_ac (j := 16) rfl (z_eR (sr_int dX5_kindOf_27 rfl)) <|
  z_ac (j := 17) rfl (z_eI (sp_iload_n (q := 0) dX5_kindOf_28 rfl rfl)) <|
  z_ac (j := 18) rfl (z_eI (sp_lsw dX5_kindOf_29 (by decide +kernel) (by intro z; change ((zP 200 17 : Nat) : Int) + (if (10 : Int) = z then (37 : Int) else if (32 : Int) = z then (37 : Int) else if (59 : Int) = z then (35 : Int) else (39 : Int)) = ((zP 200 (if (10 : Int) = z then 20 else if (32 : Int) = z then 20 else if (59 : Int) = z then 18 else 22) : Nat) : Int); (repeat' split) <;> rfl))) <|
  z_ac (j := 19) rfl (z_eI (sp_iconst dX5_kindOf_64 (by decide +kernel) rfl)) <|
  z_ac (j := 20) rfl (z_eR (sr_int dX5_kindOf_65 rfl)) <|
  z_ac (j := 21) rfl (z_eI (sp_iconst dX5_kindOf_66 (by decide +kernel) rfl)) <|
  z_ac (j := 22) rfl (z_eR (sr_int dX5_kindOf_67 rfl)) <|
  z_ac (j := 23) rfl (z_eI (sp_iconst dX5_kindOf_68 (by decide +kernel) rfl)) <|
  z_ac (j := 24) rfl (z_eR (sr_int dX5_kindOf_69 rfl)) <| z_an
theorem dX8_append_0 : decode cX8_append 0 = .ok (.aload_n 0, 1) := by decide +kernel
theorem dX8_append_1 : decode cX8_append 1 = .ok (.getfield 37, 3) := by decide +kernel
theorem dX8_append_4 : decode cX8_append 4 = .ok (.getfield 80, 3) := by decide +kernel
theorem dX8_append_7 : decode cX8_append 7 = .ok (.bipush 20, 2) := by decide +kernel
theorem dX8_append_9 : decode cX8_append 9 = .ok (.iadd, 1) := by decide +kernel
theorem dX8_append_10 : decode cX8_append 10 = .ok (.sipush 800, 3) := by decide +kernel
theorem dX8_append_13 : decode cX8_append 13 = .ok (.if_icmp .le 13, 3) := by decide +kernel
theorem dX8_append_16 : decode cX8_append 16 = .ok (.new 83, 3) := by decide +kernel
theorem dX8_append_19 : decode cX8_append 19 = .ok (.dup, 1) := by decide +kernel
theorem dX8_append_20 : decode cX8_append 20 = .ok (.ldc 85, 2) := by decide +kernel
theorem dX8_append_22 : decode cX8_append 22 = .ok (.invokespecial 87, 3) := by decide +kernel
theorem dX8_append_25 : decode cX8_append 25 = .ok (.athrow, 1) := by decide +kernel
theorem dX8_append_26 : decode cX8_append 26 = .ok (.aload_n 0, 1) := by decide +kernel
theorem dX8_append_27 : decode cX8_append 27 = .ok (.getfield 37, 3) := by decide +kernel
theorem dX8_append_30 : decode cX8_append 30 = .ok (.iload_n 1, 1) := by decide +kernel
theorem dX8_append_31 : decode cX8_append 31 = .ok (.invokevirtual 89, 3) := by decide +kernel
theorem dX8_append_34 : decode cX8_append 34 = .ok (.aload_n 0, 1) := by decide +kernel
theorem dX8_append_35 : decode cX8_append 35 = .ok (.getfield 37, 3) := by decide +kernel
theorem dX8_append_38 : decode cX8_append 38 = .ok (.iload_n 2, 1) := by decide +kernel
theorem dX8_append_39 : decode cX8_append 39 = .ok (.invokevirtual 89, 3) := by decide +kernel
theorem dX8_append_42 : decode cX8_append 42 = .ok (.aload_n 0, 1) := by decide +kernel
theorem dX8_append_43 : decode cX8_append 43 = .ok (.getfield 37, 3) := by decide +kernel
theorem dX8_append_46 : decode cX8_append 46 = .ok (.iload_n 3, 1) := by decide +kernel
theorem dX8_append_47 : decode cX8_append 47 = .ok (.invokevirtual 89, 3) := by decide +kernel
theorem dX8_append_50 : decode cX8_append 50 = .ok (.aload_n 0, 1) := by decide +kernel
theorem dX8_append_51 : decode cX8_append 51 = .ok (.getfield 37, 3) := by decide +kernel
theorem dX8_append_54 : decode cX8_append 54 = .ok (.iload 4, 2) := by decide +kernel
theorem dX8_append_56 : decode cX8_append 56 = .ok (.invokevirtual 89, 3) := by decide +kernel
theorem dX8_append_59 : decode cX8_append 59 = .ok (.aload_n 0, 1) := by decide +kernel
theorem dX8_append_60 : decode cX8_append 60 = .ok (.getfield 37, 3) := by decide +kernel
theorem dX8_append_63 : decode cX8_append 63 = .ok (.iload 5, 2) := by decide +kernel
theorem dX8_append_65 : decode cX8_append 65 = .ok (.invokevirtual 89, 3) := by decide +kernel
theorem dX8_append_68 : decode cX8_append 68 = .ok (.aload_n 0, 1) := by decide +kernel
theorem dX8_append_69 : decode cX8_append 69 = .ok (.getfield 37, 3) := by decide +kernel
theorem dX8_append_72 : decode cX8_append 72 = .ok (.getfield 80, 3) := by decide +kernel
theorem dX8_append_75 : decode cX8_append 75 = .ok (.ireturn, 1) := by decide +kernel
theorem tX8_append {L : Nat} {xs : Nat → Int32} {N : Nat} : z_AllE (zE L xs N 201) 0 (kX8_append N) :=
  z_ac (j := 1) rfl (z_eI (sp_aload_n (q := 0) dX8_append_0 rfl rfl)) <|
  z_ac (j := 2) rfl (z_eI (sp_getf (C := RX8) (T := TX8) (Nf := 11) dX8_append_1 rfl inX8 (by decide) wf_476 rfl)) <|
  z_ac (j := 3) rfl (z_eI (sp_getf (C := RX5) (T := TX5) (Nf := 7) dX8_append_4 rfl inX5 (by decide) wf_246 rfl)) <|
  z_ac (j := 4) rfl (z_eI (sp_bipush dX8_append_7 (by decide +kernel) rfl)) <|
  z_ac (j := 5) rfl (z_eI (sp_iadd dX8_append_9 rfl)) <|
  z_ac (j := 6) rfl (z_eI (sp_sipush dX8_append_10 (by decide +kernel) rfl)) <|
  z_ac (j := 7) rfl (z_eI (sp_icmp_le dX8_append_13 rfl rfl)) <|
  z_ac (j := 8) rfl (z_tS rfl rfl (by decide +kernel) zTr0 (zmsg85) dX8_append_16 dX8_append_19 dX8_append_20 dX8_append_22 dX8_append_25 rfl (by decide +kernel)) <|
  z_ac (j := 9) rfl (z_eI sp_none) <|
  z_ac (j := 10) rfl (z_eI sp_none) <|
  z_ac (j := 11) rfl (z_eI sp_none) <|
  z_ac (j := 12) rfl (z_eI sp_none) <|
  z_ac (j := 13) rfl (z_eI (sp_aload_n (q := 0) dX8_append_26 rfl rfl)) <|
  z_ac (j := 14) rfl (z_eI (sp_getf (C := RX8) (T := TX8) (Nf := 11) dX8_append_27 rfl inX8 (by decide) wf_476 rfl)) <|
  z_ac (j := 15) rfl (z_eI (sp_iload_n (q := 1) dX8_append_30 rfl rfl)) <|
  z_ac (j := 16) rfl (z_cV dX8_append_31 wl_931 qX5_putInt (by decide +kernel) ⟨_, _, rfl⟩ (z_sn rfl rfl) rfl) <|
  z_ac (j := 17) rfl (z_eI (sp_aload_n (q := 0) dX8_append_34 rfl rfl)) <|
  z_ac (j := 18) rfl (z_eI (sp_getf (C := RX8) (T := TX8) (Nf := 11) dX8_append_35 rfl inX8 (by decide) wf_476 rfl)) <|
  z_ac (j := 19) rfl (z_eI (sp_iload_n (q := 2) dX8_append_38 rfl rfl)) <|
  z_ac (j := 20) rfl (z_cV dX8_append_39 wl_931 qX5_putInt (by decide +kernel) ⟨_, _, rfl⟩ (z_sn rfl rfl) rfl) <|
  z_ac (j := 21) rfl (z_eI (sp_aload_n (q := 0) dX8_append_42 rfl rfl)) <|
  z_ac (j := 22) rfl (z_eI (sp_getf (C := RX8) (T := TX8) (Nf := 11) dX8_append_43 rfl inX8 (by decide) wf_476 rfl)) <|
  z_ac (j := 23) rfl (z_eI (sp_iload_n (q := 3) dX8_append_46 rfl rfl)) <|
  z_ac (j := 24) rfl (z_cV dX8_append_47 wl_931 qX5_putInt (by decide +kernel) ⟨_, _, rfl⟩ (z_sn rfl rfl) rfl) <|
  z_ac (j := 25) rfl (z_eI (sp_aload_n (q := 0) dX8_append_50 rfl rfl)) <|
  z_ac (j := 26) rfl (z_eI (sp_getf (C := RX8) (T := TX8) (Nf := 11) dX8_append_51 rfl inX8 (by decide) wf_476 rfl)) <|
  z_ac (j := 27) rfl (z_eI (sp_iload dX8_append_54 rfl)) <|
  z_ac (j := 28) rfl (z_cV dX8_append_56 wl_931 qX5_putInt (by decide +kernel) ⟨_, _, rfl⟩ (z_sn rfl rfl) rfl) <|
  z_ac (j := 29) rfl (z_eI (sp_aload_n (q := 0) dX8_append_59 rfl rfl)) <|
  z_ac (j := 30) rfl (z_eI (sp_getf (C := RX8) (T := TX8) (Nf := 11) dX8_append_60 rfl inX8 (by decide) wf_476 rfl)) <|
  z_ac (j := 31) rfl (z_eI (sp_iload dX8_append_63 rfl)) <|
  z_ac (j := 32) rfl (z_cV dX8_append_65 wl_931 qX5_putInt (by decide +kernel) ⟨_, _, rfl⟩ (z_sn rfl rfl) rfl) <|
  z_ac (j := 33) rfl (z_eI (sp_aload_n (q := 0) dX8_append_68 rfl rfl)) <|
  z_ac (j := 34) rfl (z_eI (sp_getf (C := RX8) (T := TX8) (Nf := 11) dX8_append_69 rfl inX8 (by decide) wf_476 rfl)) <|
  z_ac (j := 35) rfl (z_eI (sp_getf (C := RX5) (T := TX5) (Nf := 7) dX8_append_72 rfl inX5 (by decide) wf_246 rfl)) <|
  z_ac (j := 36) rfl (z_eR (sr_int dX8_append_75 rfl)) <| z_an
theorem dX8_shorten_0 : decode cX8_shorten 0 = .ok (.iload_n 1, 1) := by decide +kernel
theorem dX8_shorten_1 : decode cX8_shorten 1 = .ok (.ifCond .lt 14, 3) := by decide +kernel
theorem dX8_shorten_4 : decode cX8_shorten 4 = .ok (.iload_n 1, 1) := by decide +kernel
theorem dX8_shorten_5 : decode cX8_shorten 5 = .ok (.aload_n 0, 1) := by decide +kernel
theorem dX8_shorten_6 : decode cX8_shorten 6 = .ok (.getfield 37, 3) := by decide +kernel
theorem dX8_shorten_9 : decode cX8_shorten 9 = .ok (.getfield 80, 3) := by decide +kernel
theorem dX8_shorten_12 : decode cX8_shorten 12 = .ok (.if_icmp .le 13, 3) := by decide +kernel
theorem dX8_shorten_15 : decode cX8_shorten 15 = .ok (.new 92, 3) := by decide +kernel
theorem dX8_shorten_18 : decode cX8_shorten 18 = .ok (.dup, 1) := by decide +kernel
theorem dX8_shorten_19 : decode cX8_shorten 19 = .ok (.ldc 94, 2) := by decide +kernel
theorem dX8_shorten_21 : decode cX8_shorten 21 = .ok (.invokespecial 96, 3) := by decide +kernel
theorem dX8_shorten_24 : decode cX8_shorten 24 = .ok (.athrow, 1) := by decide +kernel
theorem dX8_shorten_25 : decode cX8_shorten 25 = .ok (.aload_n 0, 1) := by decide +kernel
theorem dX8_shorten_26 : decode cX8_shorten 26 = .ok (.getfield 37, 3) := by decide +kernel
theorem dX8_shorten_29 : decode cX8_shorten 29 = .ok (.iload_n 1, 1) := by decide +kernel
theorem dX8_shorten_30 : decode cX8_shorten 30 = .ok (.invokevirtual 76, 3) := by decide +kernel
theorem dX8_shorten_33 : decode cX8_shorten 33 = .ok (.iload_n 1, 1) := by decide +kernel
theorem dX8_shorten_34 : decode cX8_shorten 34 = .ok (.ireturn, 1) := by decide +kernel
theorem tX8_shorten {L : Nat} {xs : Nat → Int32} {N : Nat} : z_AllE (zE L xs N 202) 0 (kX8_shorten N) :=
  z_ac (j := 1) rfl (z_eI (sp_iload_n (q := 1) dX8_shorten_0 rfl rfl)) <|
  z_ac (j := 2) rfl (z_eI (sp_if_lt dX8_shorten_1 rfl rfl)) <|
  z_ac (j := 3) rfl (z_eI (sp_iload_n (q := 1) dX8_shorten_4 rfl rfl)) <|
  z_ac (j := 4) rfl (z_eI (sp_aload_n (q := 0) dX8_shorten_5 rfl rfl)) <|
  z_ac (j := 5) rfl (z_eI (sp_getf (C := RX8) (T := TX8) (Nf := 11) dX8_shorten_6 rfl inX8 (by decide) wf_476 rfl)) <|
  z_ac (j := 6) rfl (z_eI (sp_getf (C := RX5) (T := TX5) (Nf := 7) dX8_shorten_9 rfl inX5 (by decide) wf_246 rfl)) <|
  z_ac (j := 7) rfl (z_eI (sp_icmp_le dX8_shorten_12 rfl rfl)) <|
  z_ac (j := 8) rfl (z_tS rfl rfl (by decide +kernel) zTr1 (zmsg94) dX8_shorten_15 dX8_shorten_18 dX8_shorten_19 dX8_shorten_21 dX8_shorten_24 rfl (by decide +kernel)) <|
  z_ac (j := 9) rfl (z_eI sp_none) <|
  z_ac (j := 10) rfl (z_eI sp_none) <|
  z_ac (j := 11) rfl (z_eI sp_none) <|
  z_ac (j := 12) rfl (z_eI sp_none) <|
  z_ac (j := 13) rfl (z_eI (sp_aload_n (q := 0) dX8_shorten_25 rfl rfl)) <|
  z_ac (j := 14) rfl (z_eI (sp_getf (C := RX8) (T := TX8) (Nf := 11) dX8_shorten_26 rfl inX8 (by decide) wf_476 rfl)) <|
  z_ac (j := 15) rfl (z_eI (sp_iload_n (q := 1) dX8_shorten_29 rfl rfl)) <|
  z_ac (j := 16) rfl (z_cV dX8_shorten_30 wl_467 qX5_cutTo (by decide +kernel) ⟨_, _, rfl⟩ (z_sn rfl rfl) rfl) <|
  z_ac (j := 17) rfl (z_eI (sp_iload_n (q := 1) dX8_shorten_33 rfl rfl)) <|
  z_ac (j := 18) rfl (z_eR (sr_int dX8_shorten_34 rfl)) <| z_an
theorem dX8_load_0 : decode cX8_load 0 = .ok (.aload_n 0, 1) := by decide +kernel
theorem dX8_load_1 : decode cX8_load 1 = .ok (.aload_n 0, 1) := by decide +kernel
theorem dX8_load_2 : decode cX8_load 2 = .ok (.getfield 37, 3) := by decide +kernel
theorem dX8_load_5 : decode cX8_load 5 = .ok (.aload_n 0, 1) := by decide +kernel
theorem dX8_load_6 : decode cX8_load 6 = .ok (.getfield 16, 3) := by decide +kernel
theorem dX8_load_9 : decode cX8_load 9 = .ok (.invokevirtual 69, 3) := by decide +kernel
theorem dX8_load_12 : decode cX8_load 12 = .ok (.putfield 73, 3) := by decide +kernel
theorem dX8_load_15 : decode cX8_load 15 = .ok (.aload_n 0, 1) := by decide +kernel
theorem dX8_load_16 : decode cX8_load 16 = .ok (.getfield 37, 3) := by decide +kernel
theorem dX8_load_19 : decode cX8_load 19 = .ok (.iconst 0, 1) := by decide +kernel
theorem dX8_load_20 : decode cX8_load 20 = .ok (.invokevirtual 76, 3) := by decide +kernel
theorem dX8_load_23 : decode cX8_load 23 = .ok (.aload_n 0, 1) := by decide +kernel
theorem dX8_load_24 : decode cX8_load 24 = .ok (.getfield 73, 3) := by decide +kernel
theorem dX8_load_27 : decode cX8_load 27 = .ok (.iconst (-1), 1) := by decide +kernel
theorem dX8_load_28 : decode cX8_load 28 = .ok (.if_icmp .eq 13, 3) := by decide +kernel
theorem dX8_load_31 : decode cX8_load 31 = .ok (.new 92, 3) := by decide +kernel
theorem dX8_load_34 : decode cX8_load 34 = .ok (.dup, 1) := by decide +kernel
theorem dX8_load_35 : decode cX8_load 35 = .ok (.ldc 97, 2) := by decide +kernel
theorem dX8_load_37 : decode cX8_load 37 = .ok (.invokespecial 96, 3) := by decide +kernel
theorem dX8_load_40 : decode cX8_load 40 = .ok (.athrow, 1) := by decide +kernel
theorem dX8_load_41 : decode cX8_load 41 = .ok (.aload_n 0, 1) := by decide +kernel
theorem dX8_load_42 : decode cX8_load 42 = .ok (.getfield 12, 3) := by decide +kernel
theorem dX8_load_45 : decode cX8_load 45 = .ok (.aload_n 0, 1) := by decide +kernel
theorem dX8_load_46 : decode cX8_load 46 = .ok (.getfield 16, 3) := by decide +kernel
theorem dX8_load_49 : decode cX8_load 49 = .ok (.invokevirtual 99, 3) := by decide +kernel
theorem dX8_load_52 : decode cX8_load 52 = .ok (.aload_n 0, 1) := by decide +kernel
theorem dX8_load_53 : decode cX8_load 53 = .ok (.getfield 22, 3) := by decide +kernel
theorem dX8_load_56 : decode cX8_load 56 = .ok (.invokevirtual 103, 3) := by decide +kernel
theorem dX8_load_59 : decode cX8_load 59 = .ok (.iconst 0, 1) := by decide +kernel
theorem dX8_load_60 : decode cX8_load 60 = .ok (.istore_n 1, 1) := by decide +kernel
theorem dX8_load_61 : decode cX8_load 61 = .ok (.iload_n 1, 1) := by decide +kernel
theorem dX8_load_62 : decode cX8_load 62 = .ok (.iconst 2, 1) := by decide +kernel
theorem dX8_load_63 : decode cX8_load 63 = .ok (.if_icmp .ge 16, 3) := by decide +kernel
theorem dX8_load_66 : decode cX8_load 66 = .ok (.aload_n 0, 1) := by decide +kernel
theorem dX8_load_67 : decode cX8_load 67 = .ok (.getfield 30, 3) := by decide +kernel
theorem dX8_load_70 : decode cX8_load 70 = .ok (.iload_n 1, 1) := by decide +kernel
theorem dX8_load_71 : decode cX8_load 71 = .ok (.iconst 0, 1) := by decide +kernel
theorem dX8_load_72 : decode cX8_load 72 = .ok (.bastore, 1) := by decide +kernel
theorem dX8_load_73 : decode cX8_load 73 = .ok (.iinc 1 1, 3) := by decide +kernel
theorem dX8_load_76 : decode cX8_load 76 = .ok (.goto (-15), 3) := by decide +kernel
theorem dX8_load_79 : decode cX8_load 79 = .ok (.aload_n 0, 1) := by decide +kernel
theorem dX8_load_80 : decode cX8_load 80 = .ok (.getfield 12, 3) := by decide +kernel
theorem dX8_load_83 : decode cX8_load 83 = .ok (.getfield 106, 3) := by decide +kernel
theorem dX8_load_86 : decode cX8_load 86 = .ok (.getfield 110, 3) := by decide +kernel
theorem dX8_load_89 : decode cX8_load 89 = .ok (.ireturn, 1) := by decide +kernel
theorem tX8_load {L : Nat} {xs : Nat → Int32} {N : Nat} : z_AllE (zE L xs N 203) 0 (kX8_load N) :=
  z_ac (j := 1) rfl (z_eI (sp_aload_n (q := 0) dX8_load_0 rfl rfl)) <|
  z_ac (j := 2) rfl (z_eI (sp_aload_n (q := 0) dX8_load_1 rfl rfl)) <|
  z_ac (j := 3) rfl (z_eI (sp_getf (C := RX8) (T := TX8) (Nf := 11) dX8_load_2 rfl inX8 (by decide) wf_476 rfl)) <|
  z_ac (j := 4) rfl (z_eI (sp_aload_n (q := 0) dX8_load_5 rfl rfl)) <|
  z_ac (j := 5) rfl (z_eI (sp_getf (C := RX8) (T := TX8) (Nf := 11) dX8_load_6 rfl inX8 (by decide) wf_472 rfl)) <|
  z_ac (j := 6) rfl (z_cV dX8_load_9 wl_362 qX5_readInto (by decide +kernel) ⟨_, _, rfl⟩ (z_sn rfl rfl) rfl) <|
  z_ac (j := 7) rfl (z_eI (sp_putI (C := RX8) (T := TX8) (Nf := 11) dX8_load_12 rfl inX8 tyX8_ok nmX8 (by decide) wf_481 rfl (by decide +kernel) rfl)) <|
  z_ac (j := 8) rfl (z_eI (sp_aload_n (q := 0) dX8_load_15 rfl rfl)) <|
  z_ac (j := 9) rfl (z_eI (sp_getf (C := RX8) (T := TX8) (Nf := 11) dX8_load_16 rfl inX8 (by decide) wf_476 rfl)) <|
  z_ac (j := 10) rfl (z_eI (sp_iconst dX8_load_19 (by decide +kernel) rfl)) <|
  z_ac (j := 11) rfl (z_cV dX8_load_20 wl_467 qX5_cutTo (by decide +kernel) ⟨_, _, rfl⟩ (z_sn rfl rfl) rfl) <|
  z_ac (j := 12) rfl (z_eI (sp_aload_n (q := 0) dX8_load_23 rfl rfl)) <|
  z_ac (j := 13) rfl (z_eI (sp_getf (C := RX8) (T := TX8) (Nf := 11) dX8_load_24 rfl inX8 (by decide) wf_481 rfl)) <|
  z_ac (j := 14) rfl (z_eI (sp_iconst dX8_load_27 (by decide +kernel) rfl)) <|
  z_ac (j := 15) rfl (z_eI (sp_icmp_eq dX8_load_28 rfl rfl)) <|
  z_ac (j := 16) rfl (z_tS rfl rfl (by decide +kernel) zTr1 (zmsg97) dX8_load_31 dX8_load_34 dX8_load_35 dX8_load_37 dX8_load_40 rfl (by decide +kernel)) <|
  z_ac (j := 17) rfl (z_eI sp_none) <|
  z_ac (j := 18) rfl (z_eI sp_none) <|
  z_ac (j := 19) rfl (z_eI sp_none) <|
  z_ac (j := 20) rfl (z_eI sp_none) <|
  z_ac (j := 21) rfl (z_eI (sp_aload_n (q := 0) dX8_load_41 rfl rfl)) <|
  z_ac (j := 22) rfl (z_eI (sp_getf (C := RX8) (T := TX8) (Nf := 11) dX8_load_42 rfl inX8 (by decide) wf_471 rfl)) <|
  z_ac (j := 23) rfl (z_eI (sp_aload_n (q := 0) dX8_load_45 rfl rfl)) <|
  z_ac (j := 24) rfl (z_eI (sp_getf (C := RX8) (T := TX8) (Nf := 11) dX8_load_46 rfl inX8 (by decide) wf_472 rfl)) <|
  z_ac (j := 25) rfl (z_cV dX8_load_49 wl_911 qX7_copyFrom (by decide +kernel) ⟨_, _, rfl⟩ (z_sn rfl rfl) rfl) <|
  z_ac (j := 26) rfl (z_eI (sp_aload_n (q := 0) dX8_load_52 rfl rfl)) <|
  z_ac (j := 27) rfl (z_eI (sp_getf (C := RX8) (T := TX8) (Nf := 11) dX8_load_53 rfl inX8 (by decide) wf_473 rfl)) <|
  z_ac (j := 28) rfl (z_cV dX8_load_56 wl_922 qX2_forgetAll (by decide +kernel) ⟨_, _, rfl⟩ (z_sn rfl rfl) rfl) <|
  z_ac (j := 29) rfl (z_eI (sp_iconst dX8_load_59 (by decide +kernel) rfl)) <|
  z_ac (j := 30) rfl (z_eI (sp_istore_n (q := 1) dX8_load_60 rfl (by decide) (fun _ _ => rfl) rfl)) <|
  z_ac (j := 31) rfl (z_eI (sp_iload_n (q := 1) dX8_load_61 rfl rfl)) <|
  z_ac (j := 32) rfl (z_eI (sp_iconst dX8_load_62 (by decide +kernel) rfl)) <|
  z_ac (j := 33) rfl (z_eI (sp_icmp_ge dX8_load_63 rfl rfl)) <|
  z_ac (j := 34) rfl (z_eI (sp_aload_n (q := 0) dX8_load_66 rfl rfl)) <|
  z_ac (j := 35) rfl (z_eI (sp_getf (C := RX8) (T := TX8) (Nf := 11) dX8_load_67 rfl inX8 (by decide) wf_475 rfl)) <|
  z_ac (j := 36) rfl (z_eI (sp_iload_n (q := 1) dX8_load_70 rfl rfl)) <|
  z_ac (j := 37) rfl (z_eI (sp_iconst dX8_load_71 (by decide +kernel) rfl)) <|
  z_ac (j := 38) rfl (z_eI (sp_zast dX8_load_72 rfl)) <|
  z_ac (j := 39) rfl (z_eI (sp_iinc dX8_load_73 (by decide +kernel) (by decide) (fun _ _ => rfl) rfl)) <|
  z_ac (j := 40) rfl (z_eI (sp_goto dX8_load_76 rfl)) <|
  z_ac (j := 41) rfl (z_eI (sp_aload_n (q := 0) dX8_load_79 rfl rfl)) <|
  z_ac (j := 42) rfl (z_eI (sp_getf (C := RX8) (T := TX8) (Nf := 11) dX8_load_80 rfl inX8 (by decide) wf_471 rfl)) <|
  z_ac (j := 43) rfl (z_eI (sp_getf (C := RX7) (T := TX7) (Nf := 6) dX8_load_83 rfl inX7 (by decide) wf_196 rfl)) <|
  z_ac (j := 44) rfl (z_eI (sp_getf (C := RX6) (T := TX6) (Nf := 8) dX8_load_86 rfl inX6 (by decide) wf_147 rfl)) <|
  z_ac (j := 45) rfl (z_eR (sr_int dX8_load_89 rfl)) <| z_an
theorem dX8_hasError_0 : decode cX8_hasError 0 = .ok (.aload_n 0, 1) := by decide +kernel
theorem dX8_hasError_1 : decode cX8_hasError 1 = .ok (.getfield 73, 3) := by decide +kernel
theorem dX8_hasError_4 : decode cX8_hasError 4 = .ok (.iconst (-1), 1) := by decide +kernel
theorem dX8_hasError_5 : decode cX8_hasError 5 = .ok (.if_icmp .eq 7, 3) := by decide +kernel
theorem dX8_hasError_8 : decode cX8_hasError 8 = .ok (.iconst 1, 1) := by decide +kernel
theorem dX8_hasError_9 : decode cX8_hasError 9 = .ok (.goto 4, 3) := by decide +kernel
theorem dX8_hasError_12 : decode cX8_hasError 12 = .ok (.iconst 0, 1) := by decide +kernel
theorem dX8_hasError_13 : decode cX8_hasError 13 = .ok (.ireturn, 1) := by decide +kernel
theorem tX8_hasError {L : Nat} {xs : Nat → Int32} {N : Nat} : z_AllE (zE L xs N 204) 0 (kX8_hasError N) :=
  z_ac (j := 1) rfl (z_eI (sp_aload_n (q := 0) dX8_hasError_0 rfl rfl)) <|
  z_ac (j := 2) rfl (z_eI (sp_getf (C := RX8) (T := TX8) (Nf := 11) dX8_hasError_1 rfl inX8 (by decide) wf_481 rfl)) <|
  z_ac (j := 3) rfl (z_eI (sp_iconst dX8_hasError_4 (by decide +kernel) rfl)) <|
  z_ac (j := 4) rfl (z_eI (sp_icmp_eq dX8_hasError_5 rfl rfl)) <|
  z_ac (j := 5) rfl (z_eI (sp_iconst dX8_hasError_8 (by decide +kernel) rfl)) <|
  z_ac (j := 6) rfl (z_eI (sp_goto dX8_hasError_9 rfl)) <|
  z_ac (j := 7) rfl (z_eI (sp_iconst dX8_hasError_12 (by decide +kernel) rfl)) <|
  z_ac (j := 8) rfl (z_eR (sr_bool dX8_hasError_13 rfl)) <| z_an
theorem dX8_errorOffset_0 : decode cX8_errorOffset 0 = .ok (.aload_n 0, 1) := by decide +kernel
theorem dX8_errorOffset_1 : decode cX8_errorOffset 1 = .ok (.getfield 73, 3) := by decide +kernel
theorem dX8_errorOffset_4 : decode cX8_errorOffset 4 = .ok (.iconst (-1), 1) := by decide +kernel
theorem dX8_errorOffset_5 : decode cX8_errorOffset 5 = .ok (.if_icmp .ne 13, 3) := by decide +kernel
theorem dX8_errorOffset_8 : decode cX8_errorOffset 8 = .ok (.new 115, 3) := by decide +kernel
theorem dX8_errorOffset_11 : decode cX8_errorOffset 11 = .ok (.dup, 1) := by decide +kernel
theorem dX8_errorOffset_12 : decode cX8_errorOffset 12 = .ok (.ldc 117, 2) := by decide +kernel
theorem dX8_errorOffset_14 : decode cX8_errorOffset 14 = .ok (.invokespecial 119, 3) := by decide +kernel
theorem dX8_errorOffset_17 : decode cX8_errorOffset 17 = .ok (.athrow, 1) := by decide +kernel
theorem dX8_errorOffset_18 : decode cX8_errorOffset 18 = .ok (.aload_n 0, 1) := by decide +kernel
theorem dX8_errorOffset_19 : decode cX8_errorOffset 19 = .ok (.getfield 73, 3) := by decide +kernel
theorem dX8_errorOffset_22 : decode cX8_errorOffset 22 = .ok (.ireturn, 1) := by decide +kernel
theorem tX8_errorOffset {L : Nat} {xs : Nat → Int32} {N : Nat} : z_AllE (zE L xs N 205) 0 (kX8_errorOffset N) :=
  z_ac (j := 1) rfl (z_eI (sp_aload_n (q := 0) dX8_errorOffset_0 rfl rfl)) <|
  z_ac (j := 2) rfl (z_eI (sp_getf (C := RX8) (T := TX8) (Nf := 11) dX8_errorOffset_1 rfl inX8 (by decide) wf_481 rfl)) <|
  z_ac (j := 3) rfl (z_eI (sp_iconst dX8_errorOffset_4 (by decide +kernel) rfl)) <|
  z_ac (j := 4) rfl (z_eI (sp_icmp_ne dX8_errorOffset_5 rfl rfl)) <|
  z_ac (j := 5) rfl (z_tSN rfl rfl (by decide +kernel) zTr2 (zmsg117) dX8_errorOffset_8 dX8_errorOffset_11 dX8_errorOffset_12 dX8_errorOffset_14 dX8_errorOffset_17 rfl (by decide +kernel)) <|
  z_ac (j := 6) rfl (z_eI sp_none) <|
  z_ac (j := 7) rfl (z_eI sp_none) <|
  z_ac (j := 8) rfl (z_eI sp_none) <|
  z_ac (j := 9) rfl (z_eI sp_none) <|
  z_ac (j := 10) rfl (z_eI (sp_aload_n (q := 0) dX8_errorOffset_18 rfl rfl)) <|
  z_ac (j := 11) rfl (z_eI (sp_getf (C := RX8) (T := TX8) (Nf := 11) dX8_errorOffset_19 rfl inX8 (by decide) wf_481 rfl)) <|
  z_ac (j := 12) rfl (z_eR (sr_int dX8_errorOffset_22 rfl)) <| z_an
theorem dX8_width_0 : decode cX8_width 0 = .ok (.aload_n 0, 1) := by decide +kernel
theorem dX8_width_1 : decode cX8_width 1 = .ok (.getfield 12, 3) := by decide +kernel
theorem dX8_width_4 : decode cX8_width 4 = .ok (.getfield 120, 3) := by decide +kernel
theorem dX8_width_7 : decode cX8_width 7 = .ok (.getfield 124, 3) := by decide +kernel
theorem dX8_width_10 : decode cX8_width 10 = .ok (.ireturn, 1) := by decide +kernel
theorem tX8_width {L : Nat} {xs : Nat → Int32} {N : Nat} : z_AllE (zE L xs N 206) 0 (kX8_width N) :=
  z_ac (j := 1) rfl (z_eI (sp_aload_n (q := 0) dX8_width_0 rfl rfl)) <|
  z_ac (j := 2) rfl (z_eI (sp_getf (C := RX8) (T := TX8) (Nf := 11) dX8_width_1 rfl inX8 (by decide) wf_471 rfl)) <|
  z_ac (j := 3) rfl (z_eI (sp_getf (C := RX7) (T := TX7) (Nf := 6) dX8_width_4 rfl inX7 (by decide) wf_189 rfl)) <|
  z_ac (j := 4) rfl (z_eI (sp_getf (C := RX1) (T := TX1) (Nf := 3) dX8_width_7 rfl inX1 (by decide) wf_83 rfl)) <|
  z_ac (j := 5) rfl (z_eR (sr_int dX8_width_10 rfl)) <| z_an
theorem dX8_height_0 : decode cX8_height 0 = .ok (.aload_n 0, 1) := by decide +kernel
theorem dX8_height_1 : decode cX8_height 1 = .ok (.getfield 12, 3) := by decide +kernel
theorem dX8_height_4 : decode cX8_height 4 = .ok (.getfield 120, 3) := by decide +kernel
theorem dX8_height_7 : decode cX8_height 7 = .ok (.getfield 129, 3) := by decide +kernel
theorem dX8_height_10 : decode cX8_height 10 = .ok (.ireturn, 1) := by decide +kernel
theorem tX8_height {L : Nat} {xs : Nat → Int32} {N : Nat} : z_AllE (zE L xs N 207) 0 (kX8_height N) :=
  z_ac (j := 1) rfl (z_eI (sp_aload_n (q := 0) dX8_height_0 rfl rfl)) <|
  z_ac (j := 2) rfl (z_eI (sp_getf (C := RX8) (T := TX8) (Nf := 11) dX8_height_1 rfl inX8 (by decide) wf_471 rfl)) <|
  z_ac (j := 3) rfl (z_eI (sp_getf (C := RX7) (T := TX7) (Nf := 6) dX8_height_4 rfl inX7 (by decide) wf_189 rfl)) <|
  z_ac (j := 4) rfl (z_eI (sp_getf (C := RX1) (T := TX1) (Nf := 3) dX8_height_7 rfl inX1 (by decide) wf_89 rfl)) <|
  z_ac (j := 5) rfl (z_eR (sr_int dX8_height_10 rfl)) <| z_an
theorem dX8_isWater_0 : decode cX8_isWater 0 = .ok (.aload_n 0, 1) := by decide +kernel
theorem dX8_isWater_1 : decode cX8_isWater 1 = .ok (.getfield 12, 3) := by decide +kernel
theorem dX8_isWater_4 : decode cX8_isWater 4 = .ok (.getfield 120, 3) := by decide +kernel
theorem dX8_isWater_7 : decode cX8_isWater 7 = .ok (.getfield 132, 3) := by decide +kernel
theorem dX8_isWater_10 : decode cX8_isWater 10 = .ok (.aload_n 0, 1) := by decide +kernel
theorem dX8_isWater_11 : decode cX8_isWater 11 = .ok (.iload_n 1, 1) := by decide +kernel
theorem dX8_isWater_12 : decode cX8_isWater 12 = .ok (.iload_n 2, 1) := by decide +kernel
theorem dX8_isWater_13 : decode cX8_isWater 13 = .ok (.invokevirtual 136, 3) := by decide +kernel
theorem dX8_isWater_16 : decode cX8_isWater 16 = .ok (.iaload, 1) := by decide +kernel
theorem dX8_isWater_17 : decode cX8_isWater 17 = .ok (.ifCond .ne 7, 3) := by decide +kernel
theorem dX8_isWater_20 : decode cX8_isWater 20 = .ok (.iconst 1, 1) := by decide +kernel
theorem dX8_isWater_21 : decode cX8_isWater 21 = .ok (.goto 4, 3) := by decide +kernel
theorem dX8_isWater_24 : decode cX8_isWater 24 = .ok (.iconst 0, 1) := by decide +kernel
theorem dX8_isWater_25 : decode cX8_isWater 25 = .ok (.ireturn, 1) := by decide +kernel
theorem tX8_isWater {L : Nat} {xs : Nat → Int32} {N : Nat} : z_AllE (zE L xs N 208) 0 (kX8_isWater N) :=
  z_ac (j := 1) rfl (z_eI (sp_aload_n (q := 0) dX8_isWater_0 rfl rfl)) <|
  z_ac (j := 2) rfl (z_eI (sp_getf (C := RX8) (T := TX8) (Nf := 11) dX8_isWater_1 rfl inX8 (by decide) wf_471 rfl)) <|
  z_ac (j := 3) rfl (z_eI (sp_getf (C := RX7) (T := TX7) (Nf := 6) dX8_isWater_4 rfl inX7 (by decide) wf_189 rfl)) <|
  z_ac (j := 4) rfl (z_eI (sp_getf (C := RX1) (T := TX1) (Nf := 3) dX8_isWater_7 rfl inX1 (by decide) wf_94 rfl)) <|
  z_ac (j := 5) rfl (z_eI (sp_aload_n (q := 0) dX8_isWater_10 rfl rfl)) <|
  z_ac (j := 6) rfl (z_eI (sp_iload_n (q := 1) dX8_isWater_11 rfl rfl)) <|
  z_ac (j := 7) rfl (z_eI (sp_iload_n (q := 2) dX8_isWater_12 rfl rfl)) <|
  z_ac (j := 8) rfl (z_cV dX8_isWater_13 wl_776 qX8_requireCell (by decide +kernel) ⟨_, _, rfl⟩ (z_sn rfl rfl) rfl) <|
  z_ac (j := 9) rfl (z_eI (sp_iald dX8_isWater_16 rfl)) <|
  z_ac (j := 10) rfl (z_eI (sp_if_ne dX8_isWater_17 rfl rfl)) <|
  z_ac (j := 11) rfl (z_eI (sp_iconst dX8_isWater_20 (by decide +kernel) rfl)) <|
  z_ac (j := 12) rfl (z_eI (sp_goto dX8_isWater_21 rfl)) <|
  z_ac (j := 13) rfl (z_eI (sp_iconst dX8_isWater_24 (by decide +kernel) rfl)) <|
  z_ac (j := 14) rfl (z_eR (sr_bool dX8_isWater_25 rfl)) <| z_an
theorem dX8_isHut_0 : decode cX8_isHut 0 = .ok (.aload_n 0, 1) := by decide +kernel
theorem dX8_isHut_1 : decode cX8_isHut 1 = .ok (.getfield 12, 3) := by decide +kernel
theorem dX8_isHut_4 : decode cX8_isHut 4 = .ok (.getfield 120, 3) := by decide +kernel
theorem dX8_isHut_7 : decode cX8_isHut 7 = .ok (.getfield 132, 3) := by decide +kernel
theorem dX8_isHut_10 : decode cX8_isHut 10 = .ok (.aload_n 0, 1) := by decide +kernel
theorem dX8_isHut_11 : decode cX8_isHut 11 = .ok (.iload_n 1, 1) := by decide +kernel
theorem dX8_isHut_12 : decode cX8_isHut 12 = .ok (.iload_n 2, 1) := by decide +kernel
theorem dX8_isHut_13 : decode cX8_isHut 13 = .ok (.invokevirtual 136, 3) := by decide +kernel
theorem dX8_isHut_16 : decode cX8_isHut 16 = .ok (.iaload, 1) := by decide +kernel
theorem dX8_isHut_17 : decode cX8_isHut 17 = .ok (.bipush 11, 2) := by decide +kernel
theorem dX8_isHut_19 : decode cX8_isHut 19 = .ok (.if_icmp .ne 7, 3) := by decide +kernel
theorem dX8_isHut_22 : decode cX8_isHut 22 = .ok (.iconst 1, 1) := by decide +kernel
theorem dX8_isHut_23 : decode cX8_isHut 23 = .ok (.goto 4, 3) := by decide +kernel
theorem dX8_isHut_26 : decode cX8_isHut 26 = .ok (.iconst 0, 1) := by decide +kernel
theorem dX8_isHut_27 : decode cX8_isHut 27 = .ok (.ireturn, 1) := by decide +kernel
theorem tX8_isHut {L : Nat} {xs : Nat → Int32} {N : Nat} : z_AllE (zE L xs N 209) 0 (kX8_isHut N) :=
  z_ac (j := 1) rfl (z_eI (sp_aload_n (q := 0) dX8_isHut_0 rfl rfl)) <|
  z_ac (j := 2) rfl (z_eI (sp_getf (C := RX8) (T := TX8) (Nf := 11) dX8_isHut_1 rfl inX8 (by decide) wf_471 rfl)) <|
  z_ac (j := 3) rfl (z_eI (sp_getf (C := RX7) (T := TX7) (Nf := 6) dX8_isHut_4 rfl inX7 (by decide) wf_189 rfl)) <|
  z_ac (j := 4) rfl (z_eI (sp_getf (C := RX1) (T := TX1) (Nf := 3) dX8_isHut_7 rfl inX1 (by decide) wf_94 rfl)) <|
  z_ac (j := 5) rfl (z_eI (sp_aload_n (q := 0) dX8_isHut_10 rfl rfl)) <|
  z_ac (j := 6) rfl (z_eI (sp_iload_n (q := 1) dX8_isHut_11 rfl rfl)) <|
  z_ac (j := 7) rfl (z_eI (sp_iload_n (q := 2) dX8_isHut_12 rfl rfl)) <|
  z_ac (j := 8) rfl (z_cV dX8_isHut_13 wl_776 qX8_requireCell (by decide +kernel) ⟨_, _, rfl⟩ (z_sn rfl rfl) rfl) <|
  z_ac (j := 9) rfl (z_eI (sp_iald dX8_isHut_16 rfl)) <|
  z_ac (j := 10) rfl (z_eI (sp_bipush dX8_isHut_17 (by decide +kernel) rfl)) <|
  z_ac (j := 11) rfl (z_eI (sp_icmp_ne dX8_isHut_19 rfl rfl)) <|
  z_ac (j := 12) rfl (z_eI (sp_iconst dX8_isHut_22 (by decide +kernel) rfl)) <|
  z_ac (j := 13) rfl (z_eI (sp_goto dX8_isHut_23 rfl)) <|
  z_ac (j := 14) rfl (z_eI (sp_iconst dX8_isHut_26 (by decide +kernel) rfl)) <|
  z_ac (j := 15) rfl (z_eR (sr_bool dX8_isHut_27 rfl)) <| z_an
theorem dX8_isPlank_0 : decode cX8_isPlank 0 = .ok (.aload_n 0, 1) := by decide +kernel
theorem dX8_isPlank_1 : decode cX8_isPlank 1 = .ok (.getfield 12, 3) := by decide +kernel
theorem dX8_isPlank_4 : decode cX8_isPlank 4 = .ok (.getfield 120, 3) := by decide +kernel
theorem dX8_isPlank_7 : decode cX8_isPlank 7 = .ok (.aload_n 0, 1) := by decide +kernel
theorem dX8_isPlank_8 : decode cX8_isPlank 8 = .ok (.iload_n 1, 1) := by decide +kernel
theorem dX8_isPlank_9 : decode cX8_isPlank 9 = .ok (.iload_n 2, 1) := by decide +kernel
theorem dX8_isPlank_10 : decode cX8_isPlank 10 = .ok (.invokevirtual 136, 3) := by decide +kernel
theorem dX8_isPlank_13 : decode cX8_isPlank 13 = .ok (.invokevirtual 140, 3) := by decide +kernel
theorem dX8_isPlank_16 : decode cX8_isPlank 16 = .ok (.ireturn, 1) := by decide +kernel
theorem tX8_isPlank {L : Nat} {xs : Nat → Int32} {N : Nat} : z_AllE (zE L xs N 210) 0 (kX8_isPlank N) :=
  z_ac (j := 1) rfl (z_eI (sp_aload_n (q := 0) dX8_isPlank_0 rfl rfl)) <|
  z_ac (j := 2) rfl (z_eI (sp_getf (C := RX8) (T := TX8) (Nf := 11) dX8_isPlank_1 rfl inX8 (by decide) wf_471 rfl)) <|
  z_ac (j := 3) rfl (z_eI (sp_getf (C := RX7) (T := TX7) (Nf := 6) dX8_isPlank_4 rfl inX7 (by decide) wf_189 rfl)) <|
  z_ac (j := 4) rfl (z_eI (sp_aload_n (q := 0) dX8_isPlank_7 rfl rfl)) <|
  z_ac (j := 5) rfl (z_eI (sp_iload_n (q := 1) dX8_isPlank_8 rfl rfl)) <|
  z_ac (j := 6) rfl (z_eI (sp_iload_n (q := 2) dX8_isPlank_9 rfl rfl)) <|
  z_ac (j := 7) rfl (z_cV dX8_isPlank_10 wl_776 qX8_requireCell (by decide +kernel) ⟨_, _, rfl⟩ (z_sn rfl rfl) rfl) <|
  z_ac (j := 8) rfl (z_cV dX8_isPlank_13 wl_957 qX1_holdsPlank (by decide +kernel) ⟨_, _, rfl⟩ (z_sn rfl rfl) rfl) <|
  z_ac (j := 9) rfl (z_eR (sr_bool dX8_isPlank_16 rfl)) <| z_an
theorem dX8_plankStrength_0 : decode cX8_plankStrength 0 = .ok (.aload_n 0, 1) := by decide +kernel
theorem dX8_plankStrength_1 : decode cX8_plankStrength 1 = .ok (.iload_n 1, 1) := by decide +kernel
theorem dX8_plankStrength_2 : decode cX8_plankStrength 2 = .ok (.iload_n 2, 1) := by decide +kernel
theorem dX8_plankStrength_3 : decode cX8_plankStrength 3 = .ok (.invokevirtual 136, 3) := by decide +kernel
theorem dX8_plankStrength_6 : decode cX8_plankStrength 6 = .ok (.istore_n 3, 1) := by decide +kernel
theorem dX8_plankStrength_7 : decode cX8_plankStrength 7 = .ok (.aload_n 0, 1) := by decide +kernel
theorem dX8_plankStrength_8 : decode cX8_plankStrength 8 = .ok (.getfield 12, 3) := by decide +kernel
theorem dX8_plankStrength_11 : decode cX8_plankStrength 11 = .ok (.getfield 120, 3) := by decide +kernel
theorem dX8_plankStrength_14 : decode cX8_plankStrength 14 = .ok (.iload_n 3, 1) := by decide +kernel
theorem dX8_plankStrength_15 : decode cX8_plankStrength 15 = .ok (.invokevirtual 140, 3) := by decide +kernel
theorem dX8_plankStrength_18 : decode cX8_plankStrength 18 = .ok (.ifCond .ne 13, 3) := by decide +kernel
theorem dX8_plankStrength_21 : decode cX8_plankStrength 21 = .ok (.new 115, 3) := by decide +kernel
theorem dX8_plankStrength_24 : decode cX8_plankStrength 24 = .ok (.dup, 1) := by decide +kernel
theorem dX8_plankStrength_25 : decode cX8_plankStrength 25 = .ok (.ldc 144, 2) := by decide +kernel
theorem dX8_plankStrength_27 : decode cX8_plankStrength 27 = .ok (.invokespecial 119, 3) := by decide +kernel
theorem dX8_plankStrength_30 : decode cX8_plankStrength 30 = .ok (.athrow, 1) := by decide +kernel
theorem dX8_plankStrength_31 : decode cX8_plankStrength 31 = .ok (.aload_n 0, 1) := by decide +kernel
theorem dX8_plankStrength_32 : decode cX8_plankStrength 32 = .ok (.getfield 12, 3) := by decide +kernel
theorem dX8_plankStrength_35 : decode cX8_plankStrength 35 = .ok (.getfield 120, 3) := by decide +kernel
theorem dX8_plankStrength_38 : decode cX8_plankStrength 38 = .ok (.getfield 132, 3) := by decide +kernel
theorem dX8_plankStrength_41 : decode cX8_plankStrength 41 = .ok (.iload_n 3, 1) := by decide +kernel
theorem dX8_plankStrength_42 : decode cX8_plankStrength 42 = .ok (.iaload, 1) := by decide +kernel
theorem dX8_plankStrength_43 : decode cX8_plankStrength 43 = .ok (.ireturn, 1) := by decide +kernel
theorem tX8_plankStrength {L : Nat} {xs : Nat → Int32} {N : Nat} : z_AllE (zE L xs N 211) 0 (kX8_plankStrength N) :=
  z_ac (j := 1) rfl (z_eI (sp_aload_n (q := 0) dX8_plankStrength_0 rfl rfl)) <|
  z_ac (j := 2) rfl (z_eI (sp_iload_n (q := 1) dX8_plankStrength_1 rfl rfl)) <|
  z_ac (j := 3) rfl (z_eI (sp_iload_n (q := 2) dX8_plankStrength_2 rfl rfl)) <|
  z_ac (j := 4) rfl (z_cV dX8_plankStrength_3 wl_776 qX8_requireCell (by decide +kernel) ⟨_, _, rfl⟩ (z_sn rfl rfl) rfl) <|
  z_ac (j := 5) rfl (z_eI (sp_istore_n (q := 3) dX8_plankStrength_6 rfl (by decide) (fun _ _ => rfl) rfl)) <|
  z_ac (j := 6) rfl (z_eI (sp_aload_n (q := 0) dX8_plankStrength_7 rfl rfl)) <|
  z_ac (j := 7) rfl (z_eI (sp_getf (C := RX8) (T := TX8) (Nf := 11) dX8_plankStrength_8 rfl inX8 (by decide) wf_471 rfl)) <|
  z_ac (j := 8) rfl (z_eI (sp_getf (C := RX7) (T := TX7) (Nf := 6) dX8_plankStrength_11 rfl inX7 (by decide) wf_189 rfl)) <|
  z_ac (j := 9) rfl (z_eI (sp_iload_n (q := 3) dX8_plankStrength_14 rfl rfl)) <|
  z_ac (j := 10) rfl (z_cV dX8_plankStrength_15 wl_957 qX1_holdsPlank (by decide +kernel) ⟨_, _, rfl⟩ (z_sn rfl rfl) rfl) <|
  z_ac (j := 11) rfl (z_eI (sp_if_ne dX8_plankStrength_18 rfl rfl)) <|
  z_ac (j := 12) rfl (z_tSN rfl rfl (by decide +kernel) zTr2 (zmsg144) dX8_plankStrength_21 dX8_plankStrength_24 dX8_plankStrength_25 dX8_plankStrength_27 dX8_plankStrength_30 rfl (by decide +kernel)) <|
  z_ac (j := 13) rfl (z_eI sp_none) <|
  z_ac (j := 14) rfl (z_eI sp_none) <|
  z_ac (j := 15) rfl (z_eI sp_none) <|
  z_ac (j := 16) rfl (z_eI sp_none) <|
  z_ac (j := 17) rfl (z_eI (sp_aload_n (q := 0) dX8_plankStrength_31 rfl rfl)) <|
  z_ac (j := 18) rfl (z_eI (sp_getf (C := RX8) (T := TX8) (Nf := 11) dX8_plankStrength_32 rfl inX8 (by decide) wf_471 rfl)) <|
  z_ac (j := 19) rfl (z_eI (sp_getf (C := RX7) (T := TX7) (Nf := 6) dX8_plankStrength_35 rfl inX7 (by decide) wf_189 rfl)) <|
  z_ac (j := 20) rfl (z_eI (sp_getf (C := RX1) (T := TX1) (Nf := 3) dX8_plankStrength_38 rfl inX1 (by decide) wf_94 rfl)) <|
  z_ac (j := 21) rfl (z_eI (sp_iload_n (q := 3) dX8_plankStrength_41 rfl rfl)) <|
  z_ac (j := 22) rfl (z_eI (sp_iald dX8_plankStrength_42 rfl)) <|
  z_ac (j := 23) rfl (z_eR (sr_int dX8_plankStrength_43 rfl)) <| z_an
theorem dX8_plankCount_0 : decode cX8_plankCount 0 = .ok (.aload_n 0, 1) := by decide +kernel
theorem dX8_plankCount_1 : decode cX8_plankCount 1 = .ok (.getfield 12, 3) := by decide +kernel
theorem dX8_plankCount_4 : decode cX8_plankCount 4 = .ok (.getfield 120, 3) := by decide +kernel
theorem dX8_plankCount_7 : decode cX8_plankCount 7 = .ok (.invokevirtual 146, 3) := by decide +kernel
theorem dX8_plankCount_10 : decode cX8_plankCount 10 = .ok (.ireturn, 1) := by decide +kernel
theorem tX8_plankCount {L : Nat} {xs : Nat → Int32} {N : Nat} : z_AllE (zE L xs N 212) 0 (kX8_plankCount N) :=
  z_ac (j := 1) rfl (z_eI (sp_aload_n (q := 0) dX8_plankCount_0 rfl rfl)) <|
  z_ac (j := 2) rfl (z_eI (sp_getf (C := RX8) (T := TX8) (Nf := 11) dX8_plankCount_1 rfl inX8 (by decide) wf_471 rfl)) <|
  z_ac (j := 3) rfl (z_eI (sp_getf (C := RX7) (T := TX7) (Nf := 6) dX8_plankCount_4 rfl inX7 (by decide) wf_189 rfl)) <|
  z_ac (j := 4) rfl (z_cV dX8_plankCount_7 wl_521 qX1_countPlanks (by decide +kernel) ⟨_, _, rfl⟩ (z_sn rfl rfl) rfl) <|
  z_ac (j := 5) rfl (z_eR (sr_int dX8_plankCount_10 rfl)) <| z_an
theorem dX8_pathLength_0 : decode cX8_pathLength 0 = .ok (.aload_n 0, 1) := by decide +kernel
theorem dX8_pathLength_1 : decode cX8_pathLength 1 = .ok (.iload_n 1, 1) := by decide +kernel
theorem dX8_pathLength_2 : decode cX8_pathLength 2 = .ok (.iload_n 2, 1) := by decide +kernel
theorem dX8_pathLength_3 : decode cX8_pathLength 3 = .ok (.invokevirtual 136, 3) := by decide +kernel
theorem dX8_pathLength_6 : decode cX8_pathLength 6 = .ok (.istore 5, 2) := by decide +kernel
theorem dX8_pathLength_8 : decode cX8_pathLength 8 = .ok (.aload_n 0, 1) := by decide +kernel
theorem dX8_pathLength_9 : decode cX8_pathLength 9 = .ok (.iload_n 3, 1) := by decide +kernel
theorem dX8_pathLength_10 : decode cX8_pathLength 10 = .ok (.iload 4, 2) := by decide +kernel
theorem dX8_pathLength_12 : decode cX8_pathLength 12 = .ok (.invokevirtual 136, 3) := by decide +kernel
theorem dX8_pathLength_15 : decode cX8_pathLength 15 = .ok (.istore 6, 2) := by decide +kernel
theorem dX8_pathLength_17 : decode cX8_pathLength 17 = .ok (.aload_n 0, 1) := by decide +kernel
theorem dX8_pathLength_18 : decode cX8_pathLength 18 = .ok (.getfield 51, 3) := by decide +kernel
theorem dX8_pathLength_21 : decode cX8_pathLength 21 = .ok (.aload_n 0, 1) := by decide +kernel
theorem dX8_pathLength_22 : decode cX8_pathLength 22 = .ok (.getfield 12, 3) := by decide +kernel
theorem dX8_pathLength_25 : decode cX8_pathLength 25 = .ok (.getfield 120, 3) := by decide +kernel
theorem dX8_pathLength_28 : decode cX8_pathLength 28 = .ok (.iload 6, 2) := by decide +kernel
theorem dX8_pathLength_30 : decode cX8_pathLength 30 = .ok (.invokevirtual 150, 3) := by decide +kernel
theorem dX8_pathLength_33 : decode cX8_pathLength 33 = .ok (.aload_n 0, 1) := by decide +kernel
theorem dX8_pathLength_34 : decode cX8_pathLength 34 = .ok (.getfield 51, 3) := by decide +kernel
theorem dX8_pathLength_37 : decode cX8_pathLength 37 = .ok (.getfield 154, 3) := by decide +kernel
theorem dX8_pathLength_40 : decode cX8_pathLength 40 = .ok (.iload 5, 2) := by decide +kernel
theorem dX8_pathLength_42 : decode cX8_pathLength 42 = .ok (.iaload, 1) := by decide +kernel
theorem dX8_pathLength_43 : decode cX8_pathLength 43 = .ok (.invokestatic 157, 3) := by decide +kernel
theorem dX8_pathLength_46 : decode cX8_pathLength 46 = .ok (.ireturn, 1) := by decide +kernel
theorem tX8_pathLength {L : Nat} {xs : Nat → Int32} {N : Nat} : z_AllE (zE L xs N 213) 0 (kX8_pathLength N) :=
  z_ac (j := 1) rfl (z_eI (sp_aload_n (q := 0) dX8_pathLength_0 rfl rfl)) <|
  z_ac (j := 2) rfl (z_eI (sp_iload_n (q := 1) dX8_pathLength_1 rfl rfl)) <|
  z_ac (j := 3) rfl (z_eI (sp_iload_n (q := 2) dX8_pathLength_2 rfl rfl)) <|
  z_ac (j := 4) rfl (z_cV dX8_pathLength_3 wl_776 qX8_requireCell (by decide +kernel) ⟨_, _, rfl⟩ (z_sn rfl rfl) rfl) <|
  z_ac (j := 5) rfl (z_eI (sp_istore dX8_pathLength_6 (by decide) (fun _ _ => rfl) rfl)) <|
  z_ac (j := 6) rfl (z_eI (sp_aload_n (q := 0) dX8_pathLength_8 rfl rfl)) <|
  z_ac (j := 7) rfl (z_eI (sp_iload_n (q := 3) dX8_pathLength_9 rfl rfl)) <|
  z_ac (j := 8) rfl (z_eI (sp_iload dX8_pathLength_10 rfl)) <|
  z_ac (j := 9) rfl (z_cV dX8_pathLength_12 wl_776 qX8_requireCell (by decide +kernel) ⟨_, _, rfl⟩ (z_sn rfl rfl) rfl) <|
  z_ac (j := 10) rfl (z_eI (sp_istore dX8_pathLength_15 (by decide) (fun _ _ => rfl) rfl)) <|
  z_ac (j := 11) rfl (z_eI (sp_aload_n (q := 0) dX8_pathLength_17 rfl rfl)) <|
  z_ac (j := 12) rfl (z_eI (sp_getf (C := RX8) (T := TX8) (Nf := 11) dX8_pathLength_18 rfl inX8 (by decide) wf_478 rfl)) <|
  z_ac (j := 13) rfl (z_eI (sp_aload_n (q := 0) dX8_pathLength_21 rfl rfl)) <|
  z_ac (j := 14) rfl (z_eI (sp_getf (C := RX8) (T := TX8) (Nf := 11) dX8_pathLength_22 rfl inX8 (by decide) wf_471 rfl)) <|
  z_ac (j := 15) rfl (z_eI (sp_getf (C := RX7) (T := TX7) (Nf := 6) dX8_pathLength_25 rfl inX7 (by decide) wf_189 rfl)) <|
  z_ac (j := 16) rfl (z_eI (sp_iload dX8_pathLength_28 rfl)) <|
  z_ac (j := 17) rfl (z_cV dX8_pathLength_30 wl_967 qX0_measureToCell (by decide +kernel) ⟨_, _, rfl⟩ (z_sn rfl rfl) rfl) <|
  z_ac (j := 18) rfl (z_eI (sp_aload_n (q := 0) dX8_pathLength_33 rfl rfl)) <|
  z_ac (j := 19) rfl (z_eI (sp_getf (C := RX8) (T := TX8) (Nf := 11) dX8_pathLength_34 rfl inX8 (by decide) wf_478 rfl)) <|
  z_ac (j := 20) rfl (z_eI (sp_getf (C := RX0) (T := TX0) (Nf := 4) dX8_pathLength_37 rfl inX0 (by decide) wf_285 rfl)) <|
  z_ac (j := 21) rfl (z_eI (sp_iload dX8_pathLength_40 rfl)) <|
  z_ac (j := 22) rfl (z_eI (sp_iald dX8_pathLength_42 rfl)) <|
  z_ac (j := 23) rfl (z_cS dX8_pathLength_43 wl_968 qX8_requirePath (by decide +kernel) (z_sn rfl rfl) rfl) <|
  z_ac (j := 24) rfl (z_eR (sr_int dX8_pathLength_46 rfl)) <| z_an
theorem dX8_stepsToHut_0 : decode cX8_stepsToHut 0 = .ok (.aload_n 0, 1) := by decide +kernel
theorem dX8_stepsToHut_1 : decode cX8_stepsToHut 1 = .ok (.iload_n 1, 1) := by decide +kernel
theorem dX8_stepsToHut_2 : decode cX8_stepsToHut 2 = .ok (.iload_n 2, 1) := by decide +kernel
theorem dX8_stepsToHut_3 : decode cX8_stepsToHut 3 = .ok (.invokevirtual 136, 3) := by decide +kernel
theorem dX8_stepsToHut_6 : decode cX8_stepsToHut 6 = .ok (.istore_n 3, 1) := by decide +kernel
theorem dX8_stepsToHut_7 : decode cX8_stepsToHut 7 = .ok (.aload_n 0, 1) := by decide +kernel
theorem dX8_stepsToHut_8 : decode cX8_stepsToHut 8 = .ok (.getfield 51, 3) := by decide +kernel
theorem dX8_stepsToHut_11 : decode cX8_stepsToHut 11 = .ok (.aload_n 0, 1) := by decide +kernel
theorem dX8_stepsToHut_12 : decode cX8_stepsToHut 12 = .ok (.getfield 12, 3) := by decide +kernel
theorem dX8_stepsToHut_15 : decode cX8_stepsToHut 15 = .ok (.getfield 120, 3) := by decide +kernel
theorem dX8_stepsToHut_18 : decode cX8_stepsToHut 18 = .ok (.invokevirtual 161, 3) := by decide +kernel
theorem dX8_stepsToHut_21 : decode cX8_stepsToHut 21 = .ok (.aload_n 0, 1) := by decide +kernel
theorem dX8_stepsToHut_22 : decode cX8_stepsToHut 22 = .ok (.getfield 51, 3) := by decide +kernel
theorem dX8_stepsToHut_25 : decode cX8_stepsToHut 25 = .ok (.getfield 154, 3) := by decide +kernel
theorem dX8_stepsToHut_28 : decode cX8_stepsToHut 28 = .ok (.iload_n 3, 1) := by decide +kernel
theorem dX8_stepsToHut_29 : decode cX8_stepsToHut 29 = .ok (.iaload, 1) := by decide +kernel
theorem dX8_stepsToHut_30 : decode cX8_stepsToHut 30 = .ok (.invokestatic 157, 3) := by decide +kernel
theorem dX8_stepsToHut_33 : decode cX8_stepsToHut 33 = .ok (.ireturn, 1) := by decide +kernel
theorem tX8_stepsToHut {L : Nat} {xs : Nat → Int32} {N : Nat} : z_AllE (zE L xs N 214) 0 (kX8_stepsToHut N) :=
  z_ac (j := 1) rfl (z_eI (sp_aload_n (q := 0) dX8_stepsToHut_0 rfl rfl)) <|
  z_ac (j := 2) rfl (z_eI (sp_iload_n (q := 1) dX8_stepsToHut_1 rfl rfl)) <|
  z_ac (j := 3) rfl (z_eI (sp_iload_n (q := 2) dX8_stepsToHut_2 rfl rfl)) <|
  z_ac (j := 4) rfl (z_cV dX8_stepsToHut_3 wl_776 qX8_requireCell (by decide +kernel) ⟨_, _, rfl⟩ (z_sn rfl rfl) rfl) <|
  z_ac (j := 5) rfl (z_eI (sp_istore_n (q := 3) dX8_stepsToHut_6 rfl (by decide) (fun _ _ => rfl) rfl)) <|
  z_ac (j := 6) rfl (z_eI (sp_aload_n (q := 0) dX8_stepsToHut_7 rfl rfl)) <|
  z_ac (j := 7) rfl (z_eI (sp_getf (C := RX8) (T := TX8) (Nf := 11) dX8_stepsToHut_8 rfl inX8 (by decide) wf_478 rfl)) <|
  z_ac (j := 8) rfl (z_eI (sp_aload_n (q := 0) dX8_stepsToHut_11 rfl rfl)) <|
  z_ac (j := 9) rfl (z_eI (sp_getf (C := RX8) (T := TX8) (Nf := 11) dX8_stepsToHut_12 rfl inX8 (by decide) wf_471 rfl)) <|
  z_ac (j := 10) rfl (z_eI (sp_getf (C := RX7) (T := TX7) (Nf := 6) dX8_stepsToHut_15 rfl inX7 (by decide) wf_189 rfl)) <|
  z_ac (j := 11) rfl (z_cV dX8_stepsToHut_18 wl_976 qX0_measureToHuts (by decide +kernel) ⟨_, _, rfl⟩ (z_sn rfl rfl) rfl) <|
  z_ac (j := 12) rfl (z_eI (sp_aload_n (q := 0) dX8_stepsToHut_21 rfl rfl)) <|
  z_ac (j := 13) rfl (z_eI (sp_getf (C := RX8) (T := TX8) (Nf := 11) dX8_stepsToHut_22 rfl inX8 (by decide) wf_478 rfl)) <|
  z_ac (j := 14) rfl (z_eI (sp_getf (C := RX0) (T := TX0) (Nf := 4) dX8_stepsToHut_25 rfl inX0 (by decide) wf_285 rfl)) <|
  z_ac (j := 15) rfl (z_eI (sp_iload_n (q := 3) dX8_stepsToHut_28 rfl rfl)) <|
  z_ac (j := 16) rfl (z_eI (sp_iald dX8_stepsToHut_29 rfl)) <|
  z_ac (j := 17) rfl (z_cS dX8_stepsToHut_30 wl_968 qX8_requirePath (by decide +kernel) (z_sn rfl rfl) rfl) <|
  z_ac (j := 18) rfl (z_eR (sr_int dX8_stepsToHut_33 rfl)) <| z_an
theorem dX8_time_0 : decode cX8_time 0 = .ok (.aload_n 0, 1) := by decide +kernel
theorem dX8_time_1 : decode cX8_time 1 = .ok (.getfield 12, 3) := by decide +kernel
theorem dX8_time_4 : decode cX8_time 4 = .ok (.getfield 165, 3) := by decide +kernel
theorem dX8_time_7 : decode cX8_time 7 = .ok (.ireturn, 1) := by decide +kernel
theorem tX8_time {L : Nat} {xs : Nat → Int32} {N : Nat} : z_AllE (zE L xs N 215) 0 (kX8_time N) :=
  z_ac (j := 1) rfl (z_eI (sp_aload_n (q := 0) dX8_time_0 rfl rfl)) <|
  z_ac (j := 2) rfl (z_eI (sp_getf (C := RX8) (T := TX8) (Nf := 11) dX8_time_1 rfl inX8 (by decide) wf_471 rfl)) <|
  z_ac (j := 3) rfl (z_eI (sp_getf (C := RX7) (T := TX7) (Nf := 6) dX8_time_4 rfl inX7 (by decide) wf_206 rfl)) <|
  z_ac (j := 4) rfl (z_eR (sr_int dX8_time_7 rfl)) <| z_an
theorem dX8_clearness_0 : decode cX8_clearness 0 = .ok (.aload_n 0, 1) := by decide +kernel
theorem dX8_clearness_1 : decode cX8_clearness 1 = .ok (.getfield 12, 3) := by decide +kernel
theorem dX8_clearness_4 : decode cX8_clearness 4 = .ok (.getfield 168, 3) := by decide +kernel
theorem dX8_clearness_7 : decode cX8_clearness 7 = .ok (.ireturn, 1) := by decide +kernel
theorem tX8_clearness {L : Nat} {xs : Nat → Int32} {N : Nat} : z_AllE (zE L xs N 216) 0 (kX8_clearness N) :=
  z_ac (j := 1) rfl (z_eI (sp_aload_n (q := 0) dX8_clearness_0 rfl rfl)) <|
  z_ac (j := 2) rfl (z_eI (sp_getf (C := RX8) (T := TX8) (Nf := 11) dX8_clearness_1 rfl inX8 (by decide) wf_471 rfl)) <|
  z_ac (j := 3) rfl (z_eI (sp_getf (C := RX7) (T := TX7) (Nf := 6) dX8_clearness_4 rfl inX7 (by decide) wf_203 rfl)) <|
  z_ac (j := 4) rfl (z_eR (sr_int dX8_clearness_7 rfl)) <| z_an
theorem dX8_fog_0 : decode cX8_fog 0 = .ok (.aload_n 0, 1) := by decide +kernel
theorem dX8_fog_1 : decode cX8_fog 1 = .ok (.iload_n 1, 1) := by decide +kernel
theorem dX8_fog_2 : decode cX8_fog 2 = .ok (.invokevirtual 171, 3) := by decide +kernel
theorem dX8_fog_5 : decode cX8_fog 5 = .ok (.aload_n 0, 1) := by decide +kernel
theorem dX8_fog_6 : decode cX8_fog 6 = .ok (.getfield 12, 3) := by decide +kernel
theorem dX8_fog_9 : decode cX8_fog 9 = .ok (.getfield 174, 3) := by decide +kernel
theorem dX8_fog_12 : decode cX8_fog 12 = .ok (.iload_n 1, 1) := by decide +kernel
theorem dX8_fog_13 : decode cX8_fog 13 = .ok (.iaload, 1) := by decide +kernel
theorem dX8_fog_14 : decode cX8_fog 14 = .ok (.ireturn, 1) := by decide +kernel
theorem tX8_fog {L : Nat} {xs : Nat → Int32} {N : Nat} : z_AllE (zE L xs N 217) 0 (kX8_fog N) :=
  z_ac (j := 1) rfl (z_eI (sp_aload_n (q := 0) dX8_fog_0 rfl rfl)) <|
  z_ac (j := 2) rfl (z_eI (sp_iload_n (q := 1) dX8_fog_1 rfl rfl)) <|
  z_ac (j := 3) rfl (z_cV dX8_fog_2 wl_872 qX8_requireHour (by decide +kernel) ⟨_, _, rfl⟩ (z_sn rfl rfl) rfl) <|
  z_ac (j := 4) rfl (z_eI (sp_aload_n (q := 0) dX8_fog_5 rfl rfl)) <|
  z_ac (j := 5) rfl (z_eI (sp_getf (C := RX8) (T := TX8) (Nf := 11) dX8_fog_6 rfl inX8 (by decide) wf_471 rfl)) <|
  z_ac (j := 6) rfl (z_eI (sp_getf (C := RX7) (T := TX7) (Nf := 6) dX8_fog_9 rfl inX7 (by decide) wf_200 rfl)) <|
  z_ac (j := 7) rfl (z_eI (sp_iload_n (q := 1) dX8_fog_12 rfl rfl)) <|
  z_ac (j := 8) rfl (z_eI (sp_iald dX8_fog_13 rfl)) <|
  z_ac (j := 9) rfl (z_eR (sr_int dX8_fog_14 rfl)) <| z_an
theorem dX8_sight_0 : decode cX8_sight 0 = .ok (.aload_n 0, 1) := by decide +kernel
theorem dX8_sight_1 : decode cX8_sight 1 = .ok (.getfield 12, 3) := by decide +kernel
theorem dX8_sight_4 : decode cX8_sight 4 = .ok (.invokevirtual 177, 3) := by decide +kernel
theorem dX8_sight_7 : decode cX8_sight 7 = .ok (.ireturn, 1) := by decide +kernel
theorem tX8_sight {L : Nat} {xs : Nat → Int32} {N : Nat} : z_AllE (zE L xs N 218) 0 (kX8_sight N) :=
  z_ac (j := 1) rfl (z_eI (sp_aload_n (q := 0) dX8_sight_0 rfl rfl)) <|
  z_ac (j := 2) rfl (z_eI (sp_getf (C := RX8) (T := TX8) (Nf := 11) dX8_sight_1 rfl inX8 (by decide) wf_471 rfl)) <|
  z_ac (j := 3) rfl (z_cV dX8_sight_4 wl_534 qX7_sightNow (by decide +kernel) ⟨_, _, rfl⟩ (z_sn rfl rfl) rfl) <|
  z_ac (j := 4) rfl (z_eR (sr_int dX8_sight_7 rfl)) <| z_an
theorem dX8_lightCount_0 : decode cX8_lightCount 0 = .ok (.aload_n 0, 1) := by decide +kernel
theorem dX8_lightCount_1 : decode cX8_lightCount 1 = .ok (.getfield 12, 3) := by decide +kernel
theorem dX8_lightCount_4 : decode cX8_lightCount 4 = .ok (.getfield 180, 3) := by decide +kernel
theorem dX8_lightCount_7 : decode cX8_lightCount 7 = .ok (.getfield 184, 3) := by decide +kernel
theorem dX8_lightCount_10 : decode cX8_lightCount 10 = .ok (.ireturn, 1) := by decide +kernel
theorem tX8_lightCount {L : Nat} {xs : Nat → Int32} {N : Nat} : z_AllE (zE L xs N 219) 0 (kX8_lightCount N) :=
  z_ac (j := 1) rfl (z_eI (sp_aload_n (q := 0) dX8_lightCount_0 rfl rfl)) <|
  z_ac (j := 2) rfl (z_eI (sp_getf (C := RX8) (T := TX8) (Nf := 11) dX8_lightCount_1 rfl inX8 (by decide) wf_471 rfl)) <|
  z_ac (j := 3) rfl (z_eI (sp_getf (C := RX7) (T := TX7) (Nf := 6) dX8_lightCount_4 rfl inX7 (by decide) wf_193 rfl)) <|
  z_ac (j := 4) rfl (z_eI (sp_getf (C := RX3) (T := TX3) (Nf := 5) dX8_lightCount_7 rfl inX3 (by decide) wf_112 rfl)) <|
  z_ac (j := 5) rfl (z_eR (sr_int dX8_lightCount_10 rfl)) <| z_an
theorem dX8_lightColumn_0 : decode cX8_lightColumn 0 = .ok (.aload_n 0, 1) := by decide +kernel
theorem dX8_lightColumn_1 : decode cX8_lightColumn 1 = .ok (.iload_n 1, 1) := by decide +kernel
theorem dX8_lightColumn_2 : decode cX8_lightColumn 2 = .ok (.invokevirtual 187, 3) := by decide +kernel
theorem dX8_lightColumn_5 : decode cX8_lightColumn 5 = .ok (.aload_n 0, 1) := by decide +kernel
theorem dX8_lightColumn_6 : decode cX8_lightColumn 6 = .ok (.getfield 12, 3) := by decide +kernel
theorem dX8_lightColumn_9 : decode cX8_lightColumn 9 = .ok (.getfield 180, 3) := by decide +kernel
theorem dX8_lightColumn_12 : decode cX8_lightColumn 12 = .ok (.getfield 190, 3) := by decide +kernel
theorem dX8_lightColumn_15 : decode cX8_lightColumn 15 = .ok (.iload_n 1, 1) := by decide +kernel
theorem dX8_lightColumn_16 : decode cX8_lightColumn 16 = .ok (.iaload, 1) := by decide +kernel
theorem dX8_lightColumn_17 : decode cX8_lightColumn 17 = .ok (.invokestatic 193, 3) := by decide +kernel
theorem dX8_lightColumn_20 : decode cX8_lightColumn 20 = .ok (.ireturn, 1) := by decide +kernel
theorem tX8_lightColumn {L : Nat} {xs : Nat → Int32} {N : Nat} : z_AllE (zE L xs N 220) 0 (kX8_lightColumn N) :=
  z_ac (j := 1) rfl (z_eI (sp_aload_n (q := 0) dX8_lightColumn_0 rfl rfl)) <|
  z_ac (j := 2) rfl (z_eI (sp_iload_n (q := 1) dX8_lightColumn_1 rfl rfl)) <|
  z_ac (j := 3) rfl (z_cV dX8_lightColumn_2 wl_816 qX8_requireLight (by decide +kernel) ⟨_, _, rfl⟩ (z_sn rfl rfl) rfl) <|
  z_ac (j := 4) rfl (z_eI (sp_aload_n (q := 0) dX8_lightColumn_5 rfl rfl)) <|
  z_ac (j := 5) rfl (z_eI (sp_getf (C := RX8) (T := TX8) (Nf := 11) dX8_lightColumn_6 rfl inX8 (by decide) wf_471 rfl)) <|
  z_ac (j := 6) rfl (z_eI (sp_getf (C := RX7) (T := TX7) (Nf := 6) dX8_lightColumn_9 rfl inX7 (by decide) wf_193 rfl)) <|
  z_ac (j := 7) rfl (z_eI (sp_getf (C := RX3) (T := TX3) (Nf := 5) dX8_lightColumn_12 rfl inX3 (by decide) wf_119 rfl)) <|
  z_ac (j := 8) rfl (z_eI (sp_iload_n (q := 1) dX8_lightColumn_15 rfl rfl)) <|
  z_ac (j := 9) rfl (z_eI (sp_iald dX8_lightColumn_16 rfl)) <|
  z_ac (j := 10) rfl (z_cS dX8_lightColumn_17 wl_989 qX8_columnOf (by decide +kernel) (z_sn rfl rfl) rfl) <|
  z_ac (j := 11) rfl (z_eR (sr_int dX8_lightColumn_20 rfl)) <| z_an
theorem dX8_lightRow_0 : decode cX8_lightRow 0 = .ok (.aload_n 0, 1) := by decide +kernel
theorem dX8_lightRow_1 : decode cX8_lightRow 1 = .ok (.iload_n 1, 1) := by decide +kernel
theorem dX8_lightRow_2 : decode cX8_lightRow 2 = .ok (.invokevirtual 187, 3) := by decide +kernel
theorem dX8_lightRow_5 : decode cX8_lightRow 5 = .ok (.aload_n 0, 1) := by decide +kernel
theorem dX8_lightRow_6 : decode cX8_lightRow 6 = .ok (.getfield 12, 3) := by decide +kernel
theorem dX8_lightRow_9 : decode cX8_lightRow 9 = .ok (.getfield 180, 3) := by decide +kernel
theorem dX8_lightRow_12 : decode cX8_lightRow 12 = .ok (.getfield 190, 3) := by decide +kernel
theorem dX8_lightRow_15 : decode cX8_lightRow 15 = .ok (.iload_n 1, 1) := by decide +kernel
theorem dX8_lightRow_16 : decode cX8_lightRow 16 = .ok (.iaload, 1) := by decide +kernel
theorem dX8_lightRow_17 : decode cX8_lightRow 17 = .ok (.invokestatic 196, 3) := by decide +kernel
theorem dX8_lightRow_20 : decode cX8_lightRow 20 = .ok (.ireturn, 1) := by decide +kernel
theorem tX8_lightRow {L : Nat} {xs : Nat → Int32} {N : Nat} : z_AllE (zE L xs N 221) 0 (kX8_lightRow N) :=
  z_ac (j := 1) rfl (z_eI (sp_aload_n (q := 0) dX8_lightRow_0 rfl rfl)) <|
  z_ac (j := 2) rfl (z_eI (sp_iload_n (q := 1) dX8_lightRow_1 rfl rfl)) <|
  z_ac (j := 3) rfl (z_cV dX8_lightRow_2 wl_816 qX8_requireLight (by decide +kernel) ⟨_, _, rfl⟩ (z_sn rfl rfl) rfl) <|
  z_ac (j := 4) rfl (z_eI (sp_aload_n (q := 0) dX8_lightRow_5 rfl rfl)) <|
  z_ac (j := 5) rfl (z_eI (sp_getf (C := RX8) (T := TX8) (Nf := 11) dX8_lightRow_6 rfl inX8 (by decide) wf_471 rfl)) <|
  z_ac (j := 6) rfl (z_eI (sp_getf (C := RX7) (T := TX7) (Nf := 6) dX8_lightRow_9 rfl inX7 (by decide) wf_193 rfl)) <|
  z_ac (j := 7) rfl (z_eI (sp_getf (C := RX3) (T := TX3) (Nf := 5) dX8_lightRow_12 rfl inX3 (by decide) wf_119 rfl)) <|
  z_ac (j := 8) rfl (z_eI (sp_iload_n (q := 1) dX8_lightRow_15 rfl rfl)) <|
  z_ac (j := 9) rfl (z_eI (sp_iald dX8_lightRow_16 rfl)) <|
  z_ac (j := 10) rfl (z_cS dX8_lightRow_17 wl_996 qX8_rowOf (by decide +kernel) (z_sn rfl rfl) rfl) <|
  z_ac (j := 11) rfl (z_eR (sr_int dX8_lightRow_20 rfl)) <| z_an
theorem dX8_brightness_0 : decode cX8_brightness 0 = .ok (.aload_n 0, 1) := by decide +kernel
theorem dX8_brightness_1 : decode cX8_brightness 1 = .ok (.iload_n 1, 1) := by decide +kernel
theorem dX8_brightness_2 : decode cX8_brightness 2 = .ok (.invokevirtual 187, 3) := by decide +kernel
theorem dX8_brightness_5 : decode cX8_brightness 5 = .ok (.aload_n 0, 1) := by decide +kernel
theorem dX8_brightness_6 : decode cX8_brightness 6 = .ok (.getfield 12, 3) := by decide +kernel
theorem dX8_brightness_9 : decode cX8_brightness 9 = .ok (.getfield 180, 3) := by decide +kernel
theorem dX8_brightness_12 : decode cX8_brightness 12 = .ok (.getfield 199, 3) := by decide +kernel
theorem dX8_brightness_15 : decode cX8_brightness 15 = .ok (.iload_n 1, 1) := by decide +kernel
theorem dX8_brightness_16 : decode cX8_brightness 16 = .ok (.iaload, 1) := by decide +kernel
theorem dX8_brightness_17 : decode cX8_brightness 17 = .ok (.ireturn, 1) := by decide +kernel
theorem tX8_brightness {L : Nat} {xs : Nat → Int32} {N : Nat} : z_AllE (zE L xs N 222) 0 (kX8_brightness N) :=
  z_ac (j := 1) rfl (z_eI (sp_aload_n (q := 0) dX8_brightness_0 rfl rfl)) <|
  z_ac (j := 2) rfl (z_eI (sp_iload_n (q := 1) dX8_brightness_1 rfl rfl)) <|
  z_ac (j := 3) rfl (z_cV dX8_brightness_2 wl_816 qX8_requireLight (by decide +kernel) ⟨_, _, rfl⟩ (z_sn rfl rfl) rfl) <|
  z_ac (j := 4) rfl (z_eI (sp_aload_n (q := 0) dX8_brightness_5 rfl rfl)) <|
  z_ac (j := 5) rfl (z_eI (sp_getf (C := RX8) (T := TX8) (Nf := 11) dX8_brightness_6 rfl inX8 (by decide) wf_471 rfl)) <|
  z_ac (j := 6) rfl (z_eI (sp_getf (C := RX7) (T := TX7) (Nf := 6) dX8_brightness_9 rfl inX7 (by decide) wf_193 rfl)) <|
  z_ac (j := 7) rfl (z_eI (sp_getf (C := RX3) (T := TX3) (Nf := 5) dX8_brightness_12 rfl inX3 (by decide) wf_122 rfl)) <|
  z_ac (j := 8) rfl (z_eI (sp_iload_n (q := 1) dX8_brightness_15 rfl rfl)) <|
  z_ac (j := 9) rfl (z_eI (sp_iald dX8_brightness_16 rfl)) <|
  z_ac (j := 10) rfl (z_eR (sr_int dX8_brightness_17 rfl)) <| z_an
theorem dX8_isTrueLight_0 : decode cX8_isTrueLight 0 = .ok (.aload_n 0, 1) := by decide +kernel
theorem dX8_isTrueLight_1 : decode cX8_isTrueLight 1 = .ok (.iload_n 1, 1) := by decide +kernel
theorem dX8_isTrueLight_2 : decode cX8_isTrueLight 2 = .ok (.invokevirtual 187, 3) := by decide +kernel
theorem dX8_isTrueLight_5 : decode cX8_isTrueLight 5 = .ok (.aload_n 0, 1) := by decide +kernel
theorem dX8_isTrueLight_6 : decode cX8_isTrueLight 6 = .ok (.getfield 12, 3) := by decide +kernel
theorem dX8_isTrueLight_9 : decode cX8_isTrueLight 9 = .ok (.getfield 180, 3) := by decide +kernel
theorem dX8_isTrueLight_12 : decode cX8_isTrueLight 12 = .ok (.getfield 202, 3) := by decide +kernel
theorem dX8_isTrueLight_15 : decode cX8_isTrueLight 15 = .ok (.iload_n 1, 1) := by decide +kernel
theorem dX8_isTrueLight_16 : decode cX8_isTrueLight 16 = .ok (.invokestatic 205, 3) := by decide +kernel
theorem dX8_isTrueLight_19 : decode cX8_isTrueLight 19 = .ok (.ireturn, 1) := by decide +kernel
theorem tX8_isTrueLight {L : Nat} {xs : Nat → Int32} {N : Nat} : z_AllE (zE L xs N 223) 0 (kX8_isTrueLight N) :=
  z_ac (j := 1) rfl (z_eI (sp_aload_n (q := 0) dX8_isTrueLight_0 rfl rfl)) <|
  z_ac (j := 2) rfl (z_eI (sp_iload_n (q := 1) dX8_isTrueLight_1 rfl rfl)) <|
  z_ac (j := 3) rfl (z_cV dX8_isTrueLight_2 wl_816 qX8_requireLight (by decide +kernel) ⟨_, _, rfl⟩ (z_sn rfl rfl) rfl) <|
  z_ac (j := 4) rfl (z_eI (sp_aload_n (q := 0) dX8_isTrueLight_5 rfl rfl)) <|
  z_ac (j := 5) rfl (z_eI (sp_getf (C := RX8) (T := TX8) (Nf := 11) dX8_isTrueLight_6 rfl inX8 (by decide) wf_471 rfl)) <|
  z_ac (j := 6) rfl (z_eI (sp_getf (C := RX7) (T := TX7) (Nf := 6) dX8_isTrueLight_9 rfl inX7 (by decide) wf_193 rfl)) <|
  z_ac (j := 7) rfl (z_eI (sp_getf (C := RX3) (T := TX3) (Nf := 5) dX8_isTrueLight_12 rfl inX3 (by decide) wf_115 rfl)) <|
  z_ac (j := 8) rfl (z_eI (sp_iload_n (q := 1) dX8_isTrueLight_15 rfl rfl)) <|
  z_ac (j := 9) rfl (z_cS dX8_isTrueLight_16 wl_1007 qX8_holds (by decide +kernel) (z_sn rfl rfl) rfl) <|
  z_ac (j := 10) rfl (z_eR (sr_bool dX8_isTrueLight_19 rfl)) <| z_an
theorem dX8_hasSuccessor_0 : decode cX8_hasSuccessor 0 = .ok (.aload_n 0, 1) := by decide +kernel
theorem dX8_hasSuccessor_1 : decode cX8_hasSuccessor 1 = .ok (.iload_n 1, 1) := by decide +kernel
theorem dX8_hasSuccessor_2 : decode cX8_hasSuccessor 2 = .ok (.invokevirtual 187, 3) := by decide +kernel
theorem dX8_hasSuccessor_5 : decode cX8_hasSuccessor 5 = .ok (.aload_n 0, 1) := by decide +kernel
theorem dX8_hasSuccessor_6 : decode cX8_hasSuccessor 6 = .ok (.getfield 12, 3) := by decide +kernel
theorem dX8_hasSuccessor_9 : decode cX8_hasSuccessor 9 = .ok (.getfield 180, 3) := by decide +kernel
theorem dX8_hasSuccessor_12 : decode cX8_hasSuccessor 12 = .ok (.getfield 209, 3) := by decide +kernel
theorem dX8_hasSuccessor_15 : decode cX8_hasSuccessor 15 = .ok (.iload_n 1, 1) := by decide +kernel
theorem dX8_hasSuccessor_16 : decode cX8_hasSuccessor 16 = .ok (.iaload, 1) := by decide +kernel
theorem dX8_hasSuccessor_17 : decode cX8_hasSuccessor 17 = .ok (.iconst (-1), 1) := by decide +kernel
theorem dX8_hasSuccessor_18 : decode cX8_hasSuccessor 18 = .ok (.if_icmp .eq 7, 3) := by decide +kernel
theorem dX8_hasSuccessor_21 : decode cX8_hasSuccessor 21 = .ok (.iconst 1, 1) := by decide +kernel
theorem dX8_hasSuccessor_22 : decode cX8_hasSuccessor 22 = .ok (.goto 4, 3) := by decide +kernel
theorem dX8_hasSuccessor_25 : decode cX8_hasSuccessor 25 = .ok (.iconst 0, 1) := by decide +kernel
theorem dX8_hasSuccessor_26 : decode cX8_hasSuccessor 26 = .ok (.ireturn, 1) := by decide +kernel
theorem tX8_hasSuccessor {L : Nat} {xs : Nat → Int32} {N : Nat} : z_AllE (zE L xs N 224) 0 (kX8_hasSuccessor N) :=
  z_ac (j := 1) rfl (z_eI (sp_aload_n (q := 0) dX8_hasSuccessor_0 rfl rfl)) <|
  z_ac (j := 2) rfl (z_eI (sp_iload_n (q := 1) dX8_hasSuccessor_1 rfl rfl)) <|
  z_ac (j := 3) rfl (z_cV dX8_hasSuccessor_2 wl_816 qX8_requireLight (by decide +kernel) ⟨_, _, rfl⟩ (z_sn rfl rfl) rfl) <|
  z_ac (j := 4) rfl (z_eI (sp_aload_n (q := 0) dX8_hasSuccessor_5 rfl rfl)) <|
  z_ac (j := 5) rfl (z_eI (sp_getf (C := RX8) (T := TX8) (Nf := 11) dX8_hasSuccessor_6 rfl inX8 (by decide) wf_471 rfl)) <|
  z_ac (j := 6) rfl (z_eI (sp_getf (C := RX7) (T := TX7) (Nf := 6) dX8_hasSuccessor_9 rfl inX7 (by decide) wf_193 rfl)) <|
  z_ac (j := 7) rfl (z_eI (sp_getf (C := RX3) (T := TX3) (Nf := 5) dX8_hasSuccessor_12 rfl inX3 (by decide) wf_126 rfl)) <|
  z_ac (j := 8) rfl (z_eI (sp_iload_n (q := 1) dX8_hasSuccessor_15 rfl rfl)) <|
  z_ac (j := 9) rfl (z_eI (sp_iald dX8_hasSuccessor_16 rfl)) <|
  z_ac (j := 10) rfl (z_eI (sp_iconst dX8_hasSuccessor_17 (by decide +kernel) rfl)) <|
  z_ac (j := 11) rfl (z_eI (sp_icmp_eq dX8_hasSuccessor_18 rfl rfl)) <|
  z_ac (j := 12) rfl (z_eI (sp_iconst dX8_hasSuccessor_21 (by decide +kernel) rfl)) <|
  z_ac (j := 13) rfl (z_eI (sp_goto dX8_hasSuccessor_22 rfl)) <|
  z_ac (j := 14) rfl (z_eI (sp_iconst dX8_hasSuccessor_25 (by decide +kernel) rfl)) <|
  z_ac (j := 15) rfl (z_eR (sr_bool dX8_hasSuccessor_26 rfl)) <| z_an
theorem dX8_successor_0 : decode cX8_successor 0 = .ok (.aload_n 0, 1) := by decide +kernel
theorem dX8_successor_1 : decode cX8_successor 1 = .ok (.iload_n 1, 1) := by decide +kernel
theorem dX8_successor_2 : decode cX8_successor 2 = .ok (.invokevirtual 187, 3) := by decide +kernel
theorem dX8_successor_5 : decode cX8_successor 5 = .ok (.aload_n 0, 1) := by decide +kernel
theorem dX8_successor_6 : decode cX8_successor 6 = .ok (.iload_n 1, 1) := by decide +kernel
theorem dX8_successor_7 : decode cX8_successor 7 = .ok (.invokevirtual 212, 3) := by decide +kernel
theorem dX8_successor_10 : decode cX8_successor 10 = .ok (.ireturn, 1) := by decide +kernel
theorem tX8_successor {L : Nat} {xs : Nat → Int32} {N : Nat} : z_AllE (zE L xs N 225) 0 (kX8_successor N) :=
  z_ac (j := 1) rfl (z_eI (sp_aload_n (q := 0) dX8_successor_0 rfl rfl)) <|
  z_ac (j := 2) rfl (z_eI (sp_iload_n (q := 1) dX8_successor_1 rfl rfl)) <|
  z_ac (j := 3) rfl (z_cV dX8_successor_2 wl_816 qX8_requireLight (by decide +kernel) ⟨_, _, rfl⟩ (z_sn rfl rfl) rfl) <|
  z_ac (j := 4) rfl (z_eI (sp_aload_n (q := 0) dX8_successor_5 rfl rfl)) <|
  z_ac (j := 5) rfl (z_eI (sp_iload_n (q := 1) dX8_successor_6 rfl rfl)) <|
  z_ac (j := 6) rfl (z_cV dX8_successor_7 wl_837 qX8_requireSuccessor (by decide +kernel) ⟨_, _, rfl⟩ (z_sn rfl rfl) rfl) <|
  z_ac (j := 7) rfl (z_eR (sr_int dX8_successor_10 rfl)) <| z_an
theorem dX8_followers_0 : decode cX8_followers 0 = .ok (.aload_n 0, 1) := by decide +kernel
theorem dX8_followers_1 : decode cX8_followers 1 = .ok (.iload_n 1, 1) := by decide +kernel
theorem dX8_followers_2 : decode cX8_followers 2 = .ok (.invokevirtual 187, 3) := by decide +kernel
theorem dX8_followers_5 : decode cX8_followers 5 = .ok (.aload_n 0, 1) := by decide +kernel
theorem dX8_followers_6 : decode cX8_followers 6 = .ok (.getfield 12, 3) := by decide +kernel
theorem dX8_followers_9 : decode cX8_followers 9 = .ok (.getfield 106, 3) := by decide +kernel
theorem dX8_followers_12 : decode cX8_followers 12 = .ok (.iload_n 1, 1) := by decide +kernel
theorem dX8_followers_13 : decode cX8_followers 13 = .ok (.invokevirtual 215, 3) := by decide +kernel
theorem dX8_followers_16 : decode cX8_followers 16 = .ok (.ireturn, 1) := by decide +kernel
theorem tX8_followers {L : Nat} {xs : Nat → Int32} {N : Nat} : z_AllE (zE L xs N 226) 0 (kX8_followers N) :=
  z_ac (j := 1) rfl (z_eI (sp_aload_n (q := 0) dX8_followers_0 rfl rfl)) <|
  z_ac (j := 2) rfl (z_eI (sp_iload_n (q := 1) dX8_followers_1 rfl rfl)) <|
  z_ac (j := 3) rfl (z_cV dX8_followers_2 wl_816 qX8_requireLight (by decide +kernel) ⟨_, _, rfl⟩ (z_sn rfl rfl) rfl) <|
  z_ac (j := 4) rfl (z_eI (sp_aload_n (q := 0) dX8_followers_5 rfl rfl)) <|
  z_ac (j := 5) rfl (z_eI (sp_getf (C := RX8) (T := TX8) (Nf := 11) dX8_followers_6 rfl inX8 (by decide) wf_471 rfl)) <|
  z_ac (j := 6) rfl (z_eI (sp_getf (C := RX7) (T := TX7) (Nf := 6) dX8_followers_9 rfl inX7 (by decide) wf_196 rfl)) <|
  z_ac (j := 7) rfl (z_eI (sp_iload_n (q := 1) dX8_followers_12 rfl rfl)) <|
  z_ac (j := 8) rfl (z_cV dX8_followers_13 wl_1020 qX6_countFollowing (by decide +kernel) ⟨_, _, rfl⟩ (z_sn rfl rfl) rfl) <|
  z_ac (j := 9) rfl (z_eR (sr_int dX8_followers_16 rfl)) <| z_an
theorem dX8_leadsAstray_0 : decode cX8_leadsAstray 0 = .ok (.aload_n 0, 1) := by decide +kernel
theorem dX8_leadsAstray_1 : decode cX8_leadsAstray 1 = .ok (.iload_n 1, 1) := by decide +kernel
theorem dX8_leadsAstray_2 : decode cX8_leadsAstray 2 = .ok (.invokevirtual 187, 3) := by decide +kernel
theorem dX8_leadsAstray_5 : decode cX8_leadsAstray 5 = .ok (.aload_n 0, 1) := by decide +kernel
theorem dX8_leadsAstray_6 : decode cX8_leadsAstray 6 = .ok (.getfield 12, 3) := by decide +kernel
theorem dX8_leadsAstray_9 : decode cX8_leadsAstray 9 = .ok (.getfield 180, 3) := by decide +kernel
theorem dX8_leadsAstray_12 : decode cX8_leadsAstray 12 = .ok (.iload_n 1, 1) := by decide +kernel
theorem dX8_leadsAstray_13 : decode cX8_leadsAstray 13 = .ok (.invokevirtual 218, 3) := by decide +kernel
theorem dX8_leadsAstray_16 : decode cX8_leadsAstray 16 = .ok (.ireturn, 1) := by decide +kernel
theorem tX8_leadsAstray {L : Nat} {xs : Nat → Int32} {N : Nat} : z_AllE (zE L xs N 227) 0 (kX8_leadsAstray N) :=
  z_ac (j := 1) rfl (z_eI (sp_aload_n (q := 0) dX8_leadsAstray_0 rfl rfl)) <|
  z_ac (j := 2) rfl (z_eI (sp_iload_n (q := 1) dX8_leadsAstray_1 rfl rfl)) <|
  z_ac (j := 3) rfl (z_cV dX8_leadsAstray_2 wl_816 qX8_requireLight (by decide +kernel) ⟨_, _, rfl⟩ (z_sn rfl rfl) rfl) <|
  z_ac (j := 4) rfl (z_eI (sp_aload_n (q := 0) dX8_leadsAstray_5 rfl rfl)) <|
  z_ac (j := 5) rfl (z_eI (sp_getf (C := RX8) (T := TX8) (Nf := 11) dX8_leadsAstray_6 rfl inX8 (by decide) wf_471 rfl)) <|
  z_ac (j := 6) rfl (z_eI (sp_getf (C := RX7) (T := TX7) (Nf := 6) dX8_leadsAstray_9 rfl inX7 (by decide) wf_193 rfl)) <|
  z_ac (j := 7) rfl (z_eI (sp_iload_n (q := 1) dX8_leadsAstray_12 rfl rfl)) <|
  z_ac (j := 8) rfl (z_cV dX8_leadsAstray_13 wl_1028 qX3_goesWrong (by decide +kernel) ⟨_, _, rfl⟩ (z_sn rfl rfl) rfl) <|
  z_ac (j := 9) rfl (z_eR (sr_bool dX8_leadsAstray_16 rfl)) <| z_an
theorem dX8_travellerCount_0 : decode cX8_travellerCount 0 = .ok (.aload_n 0, 1) := by decide +kernel
theorem dX8_travellerCount_1 : decode cX8_travellerCount 1 = .ok (.getfield 12, 3) := by decide +kernel
theorem dX8_travellerCount_4 : decode cX8_travellerCount 4 = .ok (.getfield 106, 3) := by decide +kernel
theorem dX8_travellerCount_7 : decode cX8_travellerCount 7 = .ok (.getfield 110, 3) := by decide +kernel
theorem dX8_travellerCount_10 : decode cX8_travellerCount 10 = .ok (.ireturn, 1) := by decide +kernel
theorem tX8_travellerCount {L : Nat} {xs : Nat → Int32} {N : Nat} : z_AllE (zE L xs N 228) 0 (kX8_travellerCount N) :=
  z_ac (j := 1) rfl (z_eI (sp_aload_n (q := 0) dX8_travellerCount_0 rfl rfl)) <|
  z_ac (j := 2) rfl (z_eI (sp_getf (C := RX8) (T := TX8) (Nf := 11) dX8_travellerCount_1 rfl inX8 (by decide) wf_471 rfl)) <|
  z_ac (j := 3) rfl (z_eI (sp_getf (C := RX7) (T := TX7) (Nf := 6) dX8_travellerCount_4 rfl inX7 (by decide) wf_196 rfl)) <|
  z_ac (j := 4) rfl (z_eI (sp_getf (C := RX6) (T := TX6) (Nf := 8) dX8_travellerCount_7 rfl inX6 (by decide) wf_147 rfl)) <|
  z_ac (j := 5) rfl (z_eR (sr_int dX8_travellerCount_10 rfl)) <| z_an
theorem dX8_travellerColumn_0 : decode cX8_travellerColumn 0 = .ok (.aload_n 0, 1) := by decide +kernel
theorem dX8_travellerColumn_1 : decode cX8_travellerColumn 1 = .ok (.iload_n 1, 1) := by decide +kernel
theorem dX8_travellerColumn_2 : decode cX8_travellerColumn 2 = .ok (.invokevirtual 221, 3) := by decide +kernel
theorem dX8_travellerColumn_5 : decode cX8_travellerColumn 5 = .ok (.aload_n 0, 1) := by decide +kernel
theorem dX8_travellerColumn_6 : decode cX8_travellerColumn 6 = .ok (.getfield 12, 3) := by decide +kernel
theorem dX8_travellerColumn_9 : decode cX8_travellerColumn 9 = .ok (.getfield 106, 3) := by decide +kernel
theorem dX8_travellerColumn_12 : decode cX8_travellerColumn 12 = .ok (.getfield 224, 3) := by decide +kernel
theorem dX8_travellerColumn_15 : decode cX8_travellerColumn 15 = .ok (.iload_n 1, 1) := by decide +kernel
theorem dX8_travellerColumn_16 : decode cX8_travellerColumn 16 = .ok (.iaload, 1) := by decide +kernel
theorem dX8_travellerColumn_17 : decode cX8_travellerColumn 17 = .ok (.invokestatic 193, 3) := by decide +kernel
theorem dX8_travellerColumn_20 : decode cX8_travellerColumn 20 = .ok (.ireturn, 1) := by decide +kernel
theorem tX8_travellerColumn {L : Nat} {xs : Nat → Int32} {N : Nat} : z_AllE (zE L xs N 229) 0 (kX8_travellerColumn N) :=
  z_ac (j := 1) rfl (z_eI (sp_aload_n (q := 0) dX8_travellerColumn_0 rfl rfl)) <|
  z_ac (j := 2) rfl (z_eI (sp_iload_n (q := 1) dX8_travellerColumn_1 rfl rfl)) <|
  z_ac (j := 3) rfl (z_cV dX8_travellerColumn_2 wl_882 qX8_requireTraveller (by decide +kernel) ⟨_, _, rfl⟩ (z_sn rfl rfl) rfl) <|
  z_ac (j := 4) rfl (z_eI (sp_aload_n (q := 0) dX8_travellerColumn_5 rfl rfl)) <|
  z_ac (j := 5) rfl (z_eI (sp_getf (C := RX8) (T := TX8) (Nf := 11) dX8_travellerColumn_6 rfl inX8 (by decide) wf_471 rfl)) <|
  z_ac (j := 6) rfl (z_eI (sp_getf (C := RX7) (T := TX7) (Nf := 6) dX8_travellerColumn_9 rfl inX7 (by decide) wf_196 rfl)) <|
  z_ac (j := 7) rfl (z_eI (sp_getf (C := RX6) (T := TX6) (Nf := 8) dX8_travellerColumn_12 rfl inX6 (by decide) wf_151 rfl)) <|
  z_ac (j := 8) rfl (z_eI (sp_iload_n (q := 1) dX8_travellerColumn_15 rfl rfl)) <|
  z_ac (j := 9) rfl (z_eI (sp_iald dX8_travellerColumn_16 rfl)) <|
  z_ac (j := 10) rfl (z_cS dX8_travellerColumn_17 wl_989 qX8_columnOf (by decide +kernel) (z_sn rfl rfl) rfl) <|
  z_ac (j := 11) rfl (z_eR (sr_int dX8_travellerColumn_20 rfl)) <| z_an
theorem dX8_travellerRow_0 : decode cX8_travellerRow 0 = .ok (.aload_n 0, 1) := by decide +kernel
theorem dX8_travellerRow_1 : decode cX8_travellerRow 1 = .ok (.iload_n 1, 1) := by decide +kernel
theorem dX8_travellerRow_2 : decode cX8_travellerRow 2 = .ok (.invokevirtual 221, 3) := by decide +kernel
theorem dX8_travellerRow_5 : decode cX8_travellerRow 5 = .ok (.aload_n 0, 1) := by decide +kernel
theorem dX8_travellerRow_6 : decode cX8_travellerRow 6 = .ok (.getfield 12, 3) := by decide +kernel
theorem dX8_travellerRow_9 : decode cX8_travellerRow 9 = .ok (.getfield 106, 3) := by decide +kernel
theorem dX8_travellerRow_12 : decode cX8_travellerRow 12 = .ok (.getfield 224, 3) := by decide +kernel
theorem dX8_travellerRow_15 : decode cX8_travellerRow 15 = .ok (.iload_n 1, 1) := by decide +kernel
theorem dX8_travellerRow_16 : decode cX8_travellerRow 16 = .ok (.iaload, 1) := by decide +kernel
theorem dX8_travellerRow_17 : decode cX8_travellerRow 17 = .ok (.invokestatic 196, 3) := by decide +kernel
theorem dX8_travellerRow_20 : decode cX8_travellerRow 20 = .ok (.ireturn, 1) := by decide +kernel
theorem tX8_travellerRow {L : Nat} {xs : Nat → Int32} {N : Nat} : z_AllE (zE L xs N 230) 0 (kX8_travellerRow N) :=
  z_ac (j := 1) rfl (z_eI (sp_aload_n (q := 0) dX8_travellerRow_0 rfl rfl)) <|
  z_ac (j := 2) rfl (z_eI (sp_iload_n (q := 1) dX8_travellerRow_1 rfl rfl)) <|
  z_ac (j := 3) rfl (z_cV dX8_travellerRow_2 wl_882 qX8_requireTraveller (by decide +kernel) ⟨_, _, rfl⟩ (z_sn rfl rfl) rfl) <|
  z_ac (j := 4) rfl (z_eI (sp_aload_n (q := 0) dX8_travellerRow_5 rfl rfl)) <|
  z_ac (j := 5) rfl (z_eI (sp_getf (C := RX8) (T := TX8) (Nf := 11) dX8_travellerRow_6 rfl inX8 (by decide) wf_471 rfl)) <|
  z_ac (j := 6) rfl (z_eI (sp_getf (C := RX7) (T := TX7) (Nf := 6) dX8_travellerRow_9 rfl inX7 (by decide) wf_196 rfl)) <|
  z_ac (j := 7) rfl (z_eI (sp_getf (C := RX6) (T := TX6) (Nf := 8) dX8_travellerRow_12 rfl inX6 (by decide) wf_151 rfl)) <|
  z_ac (j := 8) rfl (z_eI (sp_iload_n (q := 1) dX8_travellerRow_15 rfl rfl)) <|
  z_ac (j := 9) rfl (z_eI (sp_iald dX8_travellerRow_16 rfl)) <|
  z_ac (j := 10) rfl (z_cS dX8_travellerRow_17 wl_996 qX8_rowOf (by decide +kernel) (z_sn rfl rfl) rfl) <|
  z_ac (j := 11) rfl (z_eR (sr_int dX8_travellerRow_20 rfl)) <| z_an
theorem dX8_isWalking_0 : decode cX8_isWalking 0 = .ok (.aload_n 0, 1) := by decide +kernel
theorem dX8_isWalking_1 : decode cX8_isWalking 1 = .ok (.iload_n 1, 1) := by decide +kernel
theorem dX8_isWalking_2 : decode cX8_isWalking 2 = .ok (.invokevirtual 221, 3) := by decide +kernel
theorem dX8_isWalking_5 : decode cX8_isWalking 5 = .ok (.aload_n 0, 1) := by decide +kernel
theorem dX8_isWalking_6 : decode cX8_isWalking 6 = .ok (.getfield 12, 3) := by decide +kernel
theorem dX8_isWalking_9 : decode cX8_isWalking 9 = .ok (.getfield 106, 3) := by decide +kernel
theorem dX8_isWalking_12 : decode cX8_isWalking 12 = .ok (.getfield 225, 3) := by decide +kernel
theorem dX8_isWalking_15 : decode cX8_isWalking 15 = .ok (.iload_n 1, 1) := by decide +kernel
theorem dX8_isWalking_16 : decode cX8_isWalking 16 = .ok (.iaload, 1) := by decide +kernel
theorem dX8_isWalking_17 : decode cX8_isWalking 17 = .ok (.ifCond .ne 7, 3) := by decide +kernel
theorem dX8_isWalking_20 : decode cX8_isWalking 20 = .ok (.iconst 1, 1) := by decide +kernel
theorem dX8_isWalking_21 : decode cX8_isWalking 21 = .ok (.goto 4, 3) := by decide +kernel
theorem dX8_isWalking_24 : decode cX8_isWalking 24 = .ok (.iconst 0, 1) := by decide +kernel
theorem dX8_isWalking_25 : decode cX8_isWalking 25 = .ok (.ireturn, 1) := by decide +kernel
theorem tX8_isWalking {L : Nat} {xs : Nat → Int32} {N : Nat} : z_AllE (zE L xs N 231) 0 (kX8_isWalking N) :=
  z_ac (j := 1) rfl (z_eI (sp_aload_n (q := 0) dX8_isWalking_0 rfl rfl)) <|
  z_ac (j := 2) rfl (z_eI (sp_iload_n (q := 1) dX8_isWalking_1 rfl rfl)) <|
  z_ac (j := 3) rfl (z_cV dX8_isWalking_2 wl_882 qX8_requireTraveller (by decide +kernel) ⟨_, _, rfl⟩ (z_sn rfl rfl) rfl) <|
  z_ac (j := 4) rfl (z_eI (sp_aload_n (q := 0) dX8_isWalking_5 rfl rfl)) <|
  z_ac (j := 5) rfl (z_eI (sp_getf (C := RX8) (T := TX8) (Nf := 11) dX8_isWalking_6 rfl inX8 (by decide) wf_471 rfl)) <|
  z_ac (j := 6) rfl (z_eI (sp_getf (C := RX7) (T := TX7) (Nf := 6) dX8_isWalking_9 rfl inX7 (by decide) wf_196 rfl)) <|
  z_ac (j := 7) rfl (z_eI (sp_getf (C := RX6) (T := TX6) (Nf := 8) dX8_isWalking_12 rfl inX6 (by decide) wf_154 rfl)) <|
  z_ac (j := 8) rfl (z_eI (sp_iload_n (q := 1) dX8_isWalking_15 rfl rfl)) <|
  z_ac (j := 9) rfl (z_eI (sp_iald dX8_isWalking_16 rfl)) <|
  z_ac (j := 10) rfl (z_eI (sp_if_ne dX8_isWalking_17 rfl rfl)) <|
  z_ac (j := 11) rfl (z_eI (sp_iconst dX8_isWalking_20 (by decide +kernel) rfl)) <|
  z_ac (j := 12) rfl (z_eI (sp_goto dX8_isWalking_21 rfl)) <|
  z_ac (j := 13) rfl (z_eI (sp_iconst dX8_isWalking_24 (by decide +kernel) rfl)) <|
  z_ac (j := 14) rfl (z_eR (sr_bool dX8_isWalking_25 rfl)) <| z_an
theorem dX8_hasArrived_0 : decode cX8_hasArrived 0 = .ok (.aload_n 0, 1) := by decide +kernel
theorem dX8_hasArrived_1 : decode cX8_hasArrived 1 = .ok (.iload_n 1, 1) := by decide +kernel
theorem dX8_hasArrived_2 : decode cX8_hasArrived 2 = .ok (.invokevirtual 221, 3) := by decide +kernel
theorem dX8_hasArrived_5 : decode cX8_hasArrived 5 = .ok (.aload_n 0, 1) := by decide +kernel
theorem dX8_hasArrived_6 : decode cX8_hasArrived 6 = .ok (.getfield 12, 3) := by decide +kernel
theorem dX8_hasArrived_9 : decode cX8_hasArrived 9 = .ok (.getfield 106, 3) := by decide +kernel
theorem dX8_hasArrived_12 : decode cX8_hasArrived 12 = .ok (.getfield 225, 3) := by decide +kernel
theorem dX8_hasArrived_15 : decode cX8_hasArrived 15 = .ok (.iload_n 1, 1) := by decide +kernel
theorem dX8_hasArrived_16 : decode cX8_hasArrived 16 = .ok (.iaload, 1) := by decide +kernel
theorem dX8_hasArrived_17 : decode cX8_hasArrived 17 = .ok (.iconst 1, 1) := by decide +kernel
theorem dX8_hasArrived_18 : decode cX8_hasArrived 18 = .ok (.if_icmp .ne 7, 3) := by decide +kernel
theorem dX8_hasArrived_21 : decode cX8_hasArrived 21 = .ok (.iconst 1, 1) := by decide +kernel
theorem dX8_hasArrived_22 : decode cX8_hasArrived 22 = .ok (.goto 4, 3) := by decide +kernel
theorem dX8_hasArrived_25 : decode cX8_hasArrived 25 = .ok (.iconst 0, 1) := by decide +kernel
theorem dX8_hasArrived_26 : decode cX8_hasArrived 26 = .ok (.ireturn, 1) := by decide +kernel
theorem tX8_hasArrived {L : Nat} {xs : Nat → Int32} {N : Nat} : z_AllE (zE L xs N 232) 0 (kX8_hasArrived N) :=
  z_ac (j := 1) rfl (z_eI (sp_aload_n (q := 0) dX8_hasArrived_0 rfl rfl)) <|
  z_ac (j := 2) rfl (z_eI (sp_iload_n (q := 1) dX8_hasArrived_1 rfl rfl)) <|
  z_ac (j := 3) rfl (z_cV dX8_hasArrived_2 wl_882 qX8_requireTraveller (by decide +kernel) ⟨_, _, rfl⟩ (z_sn rfl rfl) rfl) <|
  z_ac (j := 4) rfl (z_eI (sp_aload_n (q := 0) dX8_hasArrived_5 rfl rfl)) <|
  z_ac (j := 5) rfl (z_eI (sp_getf (C := RX8) (T := TX8) (Nf := 11) dX8_hasArrived_6 rfl inX8 (by decide) wf_471 rfl)) <|
  z_ac (j := 6) rfl (z_eI (sp_getf (C := RX7) (T := TX7) (Nf := 6) dX8_hasArrived_9 rfl inX7 (by decide) wf_196 rfl)) <|
  z_ac (j := 7) rfl (z_eI (sp_getf (C := RX6) (T := TX6) (Nf := 8) dX8_hasArrived_12 rfl inX6 (by decide) wf_154 rfl)) <|
  z_ac (j := 8) rfl (z_eI (sp_iload_n (q := 1) dX8_hasArrived_15 rfl rfl)) <|
  z_ac (j := 9) rfl (z_eI (sp_iald dX8_hasArrived_16 rfl)) <|
  z_ac (j := 10) rfl (z_eI (sp_iconst dX8_hasArrived_17 (by decide +kernel) rfl)) <|
  z_ac (j := 11) rfl (z_eI (sp_icmp_ne dX8_hasArrived_18 rfl rfl)) <|
  z_ac (j := 12) rfl (z_eI (sp_iconst dX8_hasArrived_21 (by decide +kernel) rfl)) <|
  z_ac (j := 13) rfl (z_eI (sp_goto dX8_hasArrived_22 rfl)) <|
  z_ac (j := 14) rfl (z_eI (sp_iconst dX8_hasArrived_25 (by decide +kernel) rfl)) <|
  z_ac (j := 15) rfl (z_eR (sr_bool dX8_hasArrived_26 rfl)) <| z_an
theorem dX8_hasSunk_0 : decode cX8_hasSunk 0 = .ok (.aload_n 0, 1) := by decide +kernel
theorem dX8_hasSunk_1 : decode cX8_hasSunk 1 = .ok (.iload_n 1, 1) := by decide +kernel
theorem dX8_hasSunk_2 : decode cX8_hasSunk 2 = .ok (.invokevirtual 221, 3) := by decide +kernel
theorem dX8_hasSunk_5 : decode cX8_hasSunk 5 = .ok (.aload_n 0, 1) := by decide +kernel
theorem dX8_hasSunk_6 : decode cX8_hasSunk 6 = .ok (.getfield 12, 3) := by decide +kernel
theorem dX8_hasSunk_9 : decode cX8_hasSunk 9 = .ok (.getfield 106, 3) := by decide +kernel
theorem dX8_hasSunk_12 : decode cX8_hasSunk 12 = .ok (.getfield 225, 3) := by decide +kernel
theorem dX8_hasSunk_15 : decode cX8_hasSunk 15 = .ok (.iload_n 1, 1) := by decide +kernel
theorem dX8_hasSunk_16 : decode cX8_hasSunk 16 = .ok (.iaload, 1) := by decide +kernel
theorem dX8_hasSunk_17 : decode cX8_hasSunk 17 = .ok (.iconst 2, 1) := by decide +kernel
theorem dX8_hasSunk_18 : decode cX8_hasSunk 18 = .ok (.if_icmp .ne 7, 3) := by decide +kernel
theorem dX8_hasSunk_21 : decode cX8_hasSunk 21 = .ok (.iconst 1, 1) := by decide +kernel
theorem dX8_hasSunk_22 : decode cX8_hasSunk 22 = .ok (.goto 4, 3) := by decide +kernel
theorem dX8_hasSunk_25 : decode cX8_hasSunk 25 = .ok (.iconst 0, 1) := by decide +kernel
theorem dX8_hasSunk_26 : decode cX8_hasSunk 26 = .ok (.ireturn, 1) := by decide +kernel
theorem tX8_hasSunk {L : Nat} {xs : Nat → Int32} {N : Nat} : z_AllE (zE L xs N 233) 0 (kX8_hasSunk N) :=
  z_ac (j := 1) rfl (z_eI (sp_aload_n (q := 0) dX8_hasSunk_0 rfl rfl)) <|
  z_ac (j := 2) rfl (z_eI (sp_iload_n (q := 1) dX8_hasSunk_1 rfl rfl)) <|
  z_ac (j := 3) rfl (z_cV dX8_hasSunk_2 wl_882 qX8_requireTraveller (by decide +kernel) ⟨_, _, rfl⟩ (z_sn rfl rfl) rfl) <|
  z_ac (j := 4) rfl (z_eI (sp_aload_n (q := 0) dX8_hasSunk_5 rfl rfl)) <|
  z_ac (j := 5) rfl (z_eI (sp_getf (C := RX8) (T := TX8) (Nf := 11) dX8_hasSunk_6 rfl inX8 (by decide) wf_471 rfl)) <|
  z_ac (j := 6) rfl (z_eI (sp_getf (C := RX7) (T := TX7) (Nf := 6) dX8_hasSunk_9 rfl inX7 (by decide) wf_196 rfl)) <|
  z_ac (j := 7) rfl (z_eI (sp_getf (C := RX6) (T := TX6) (Nf := 8) dX8_hasSunk_12 rfl inX6 (by decide) wf_154 rfl)) <|
  z_ac (j := 8) rfl (z_eI (sp_iload_n (q := 1) dX8_hasSunk_15 rfl rfl)) <|
  z_ac (j := 9) rfl (z_eI (sp_iald dX8_hasSunk_16 rfl)) <|
  z_ac (j := 10) rfl (z_eI (sp_iconst dX8_hasSunk_17 (by decide +kernel) rfl)) <|
  z_ac (j := 11) rfl (z_eI (sp_icmp_ne dX8_hasSunk_18 rfl rfl)) <|
  z_ac (j := 12) rfl (z_eI (sp_iconst dX8_hasSunk_21 (by decide +kernel) rfl)) <|
  z_ac (j := 13) rfl (z_eI (sp_goto dX8_hasSunk_22 rfl)) <|
  z_ac (j := 14) rfl (z_eI (sp_iconst dX8_hasSunk_25 (by decide +kernel) rfl)) <|
  z_ac (j := 15) rfl (z_eR (sr_bool dX8_hasSunk_26 rfl)) <| z_an
theorem dX8_stepsTaken_0 : decode cX8_stepsTaken 0 = .ok (.aload_n 0, 1) := by decide +kernel
theorem dX8_stepsTaken_1 : decode cX8_stepsTaken 1 = .ok (.iload_n 1, 1) := by decide +kernel
theorem dX8_stepsTaken_2 : decode cX8_stepsTaken 2 = .ok (.invokevirtual 221, 3) := by decide +kernel
theorem dX8_stepsTaken_5 : decode cX8_stepsTaken 5 = .ok (.aload_n 0, 1) := by decide +kernel
theorem dX8_stepsTaken_6 : decode cX8_stepsTaken 6 = .ok (.getfield 12, 3) := by decide +kernel
theorem dX8_stepsTaken_9 : decode cX8_stepsTaken 9 = .ok (.getfield 106, 3) := by decide +kernel
theorem dX8_stepsTaken_12 : decode cX8_stepsTaken 12 = .ok (.getfield 228, 3) := by decide +kernel
theorem dX8_stepsTaken_15 : decode cX8_stepsTaken 15 = .ok (.iload_n 1, 1) := by decide +kernel
theorem dX8_stepsTaken_16 : decode cX8_stepsTaken 16 = .ok (.iaload, 1) := by decide +kernel
theorem dX8_stepsTaken_17 : decode cX8_stepsTaken 17 = .ok (.ireturn, 1) := by decide +kernel
theorem tX8_stepsTaken {L : Nat} {xs : Nat → Int32} {N : Nat} : z_AllE (zE L xs N 234) 0 (kX8_stepsTaken N) :=
  z_ac (j := 1) rfl (z_eI (sp_aload_n (q := 0) dX8_stepsTaken_0 rfl rfl)) <|
  z_ac (j := 2) rfl (z_eI (sp_iload_n (q := 1) dX8_stepsTaken_1 rfl rfl)) <|
  z_ac (j := 3) rfl (z_cV dX8_stepsTaken_2 wl_882 qX8_requireTraveller (by decide +kernel) ⟨_, _, rfl⟩ (z_sn rfl rfl) rfl) <|
  z_ac (j := 4) rfl (z_eI (sp_aload_n (q := 0) dX8_stepsTaken_5 rfl rfl)) <|
  z_ac (j := 5) rfl (z_eI (sp_getf (C := RX8) (T := TX8) (Nf := 11) dX8_stepsTaken_6 rfl inX8 (by decide) wf_471 rfl)) <|
  z_ac (j := 6) rfl (z_eI (sp_getf (C := RX7) (T := TX7) (Nf := 6) dX8_stepsTaken_9 rfl inX7 (by decide) wf_196 rfl)) <|
  z_ac (j := 7) rfl (z_eI (sp_getf (C := RX6) (T := TX6) (Nf := 8) dX8_stepsTaken_12 rfl inX6 (by decide) wf_157 rfl)) <|
  z_ac (j := 8) rfl (z_eI (sp_iload_n (q := 1) dX8_stepsTaken_15 rfl rfl)) <|
  z_ac (j := 9) rfl (z_eI (sp_iald dX8_stepsTaken_16 rfl)) <|
  z_ac (j := 10) rfl (z_eR (sr_int dX8_stepsTaken_17 rfl)) <| z_an
theorem dX8_hasTarget_0 : decode cX8_hasTarget 0 = .ok (.aload_n 0, 1) := by decide +kernel
theorem dX8_hasTarget_1 : decode cX8_hasTarget 1 = .ok (.iload_n 1, 1) := by decide +kernel
theorem dX8_hasTarget_2 : decode cX8_hasTarget 2 = .ok (.invokevirtual 221, 3) := by decide +kernel
theorem dX8_hasTarget_5 : decode cX8_hasTarget 5 = .ok (.aload_n 0, 1) := by decide +kernel
theorem dX8_hasTarget_6 : decode cX8_hasTarget 6 = .ok (.getfield 12, 3) := by decide +kernel
theorem dX8_hasTarget_9 : decode cX8_hasTarget 9 = .ok (.getfield 106, 3) := by decide +kernel
theorem dX8_hasTarget_12 : decode cX8_hasTarget 12 = .ok (.getfield 229, 3) := by decide +kernel
theorem dX8_hasTarget_15 : decode cX8_hasTarget 15 = .ok (.iload_n 1, 1) := by decide +kernel
theorem dX8_hasTarget_16 : decode cX8_hasTarget 16 = .ok (.iaload, 1) := by decide +kernel
theorem dX8_hasTarget_17 : decode cX8_hasTarget 17 = .ok (.iconst (-1), 1) := by decide +kernel
theorem dX8_hasTarget_18 : decode cX8_hasTarget 18 = .ok (.if_icmp .eq 7, 3) := by decide +kernel
theorem dX8_hasTarget_21 : decode cX8_hasTarget 21 = .ok (.iconst 1, 1) := by decide +kernel
theorem dX8_hasTarget_22 : decode cX8_hasTarget 22 = .ok (.goto 4, 3) := by decide +kernel
theorem dX8_hasTarget_25 : decode cX8_hasTarget 25 = .ok (.iconst 0, 1) := by decide +kernel
theorem dX8_hasTarget_26 : decode cX8_hasTarget 26 = .ok (.ireturn, 1) := by decide +kernel
theorem tX8_hasTarget {L : Nat} {xs : Nat → Int32} {N : Nat} : z_AllE (zE L xs N 235) 0 (kX8_hasTarget N) :=
  z_ac (j := 1) rfl (z_eI (sp_aload_n (q := 0) dX8_hasTarget_0 rfl rfl)) <|
  z_ac (j := 2) rfl (z_eI (sp_iload_n (q := 1) dX8_hasTarget_1 rfl rfl)) <|
  z_ac (j := 3) rfl (z_cV dX8_hasTarget_2 wl_882 qX8_requireTraveller (by decide +kernel) ⟨_, _, rfl⟩ (z_sn rfl rfl) rfl) <|
  z_ac (j := 4) rfl (z_eI (sp_aload_n (q := 0) dX8_hasTarget_5 rfl rfl)) <|
  z_ac (j := 5) rfl (z_eI (sp_getf (C := RX8) (T := TX8) (Nf := 11) dX8_hasTarget_6 rfl inX8 (by decide) wf_471 rfl)) <|
  z_ac (j := 6) rfl (z_eI (sp_getf (C := RX7) (T := TX7) (Nf := 6) dX8_hasTarget_9 rfl inX7 (by decide) wf_196 rfl)) <|
  z_ac (j := 7) rfl (z_eI (sp_getf (C := RX6) (T := TX6) (Nf := 8) dX8_hasTarget_12 rfl inX6 (by decide) wf_160 rfl)) <|
  z_ac (j := 8) rfl (z_eI (sp_iload_n (q := 1) dX8_hasTarget_15 rfl rfl)) <|
  z_ac (j := 9) rfl (z_eI (sp_iald dX8_hasTarget_16 rfl)) <|
  z_ac (j := 10) rfl (z_eI (sp_iconst dX8_hasTarget_17 (by decide +kernel) rfl)) <|
  z_ac (j := 11) rfl (z_eI (sp_icmp_eq dX8_hasTarget_18 rfl rfl)) <|
  z_ac (j := 12) rfl (z_eI (sp_iconst dX8_hasTarget_21 (by decide +kernel) rfl)) <|
  z_ac (j := 13) rfl (z_eI (sp_goto dX8_hasTarget_22 rfl)) <|
  z_ac (j := 14) rfl (z_eI (sp_iconst dX8_hasTarget_25 (by decide +kernel) rfl)) <|
  z_ac (j := 15) rfl (z_eR (sr_bool dX8_hasTarget_26 rfl)) <| z_an
theorem dX8_target_0 : decode cX8_target 0 = .ok (.aload_n 0, 1) := by decide +kernel
theorem dX8_target_1 : decode cX8_target 1 = .ok (.iload_n 1, 1) := by decide +kernel
theorem dX8_target_2 : decode cX8_target 2 = .ok (.invokevirtual 221, 3) := by decide +kernel
theorem dX8_target_5 : decode cX8_target 5 = .ok (.aload_n 0, 1) := by decide +kernel
theorem dX8_target_6 : decode cX8_target 6 = .ok (.getfield 12, 3) := by decide +kernel
theorem dX8_target_9 : decode cX8_target 9 = .ok (.getfield 106, 3) := by decide +kernel
theorem dX8_target_12 : decode cX8_target 12 = .ok (.getfield 229, 3) := by decide +kernel
theorem dX8_target_15 : decode cX8_target 15 = .ok (.iload_n 1, 1) := by decide +kernel
theorem dX8_target_16 : decode cX8_target 16 = .ok (.iaload, 1) := by decide +kernel
theorem dX8_target_17 : decode cX8_target 17 = .ok (.istore_n 2, 1) := by decide +kernel
theorem dX8_target_18 : decode cX8_target 18 = .ok (.iload_n 2, 1) := by decide +kernel
theorem dX8_target_19 : decode cX8_target 19 = .ok (.iconst (-1), 1) := by decide +kernel
theorem dX8_target_20 : decode cX8_target 20 = .ok (.if_icmp .ne 13, 3) := by decide +kernel
theorem dX8_target_23 : decode cX8_target 23 = .ok (.new 115, 3) := by decide +kernel
theorem dX8_target_26 : decode cX8_target 26 = .ok (.dup, 1) := by decide +kernel
theorem dX8_target_27 : decode cX8_target 27 = .ok (.ldc 232, 2) := by decide +kernel
theorem dX8_target_29 : decode cX8_target 29 = .ok (.invokespecial 119, 3) := by decide +kernel
theorem dX8_target_32 : decode cX8_target 32 = .ok (.athrow, 1) := by decide +kernel
theorem dX8_target_33 : decode cX8_target 33 = .ok (.iload_n 2, 1) := by decide +kernel
theorem dX8_target_34 : decode cX8_target 34 = .ok (.ireturn, 1) := by decide +kernel
theorem tX8_target {L : Nat} {xs : Nat → Int32} {N : Nat} : z_AllE (zE L xs N 236) 0 (kX8_target N) :=
  z_ac (j := 1) rfl (z_eI (sp_aload_n (q := 0) dX8_target_0 rfl rfl)) <|
  z_ac (j := 2) rfl (z_eI (sp_iload_n (q := 1) dX8_target_1 rfl rfl)) <|
  z_ac (j := 3) rfl (z_cV dX8_target_2 wl_882 qX8_requireTraveller (by decide +kernel) ⟨_, _, rfl⟩ (z_sn rfl rfl) rfl) <|
  z_ac (j := 4) rfl (z_eI (sp_aload_n (q := 0) dX8_target_5 rfl rfl)) <|
  z_ac (j := 5) rfl (z_eI (sp_getf (C := RX8) (T := TX8) (Nf := 11) dX8_target_6 rfl inX8 (by decide) wf_471 rfl)) <|
  z_ac (j := 6) rfl (z_eI (sp_getf (C := RX7) (T := TX7) (Nf := 6) dX8_target_9 rfl inX7 (by decide) wf_196 rfl)) <|
  z_ac (j := 7) rfl (z_eI (sp_getf (C := RX6) (T := TX6) (Nf := 8) dX8_target_12 rfl inX6 (by decide) wf_160 rfl)) <|
  z_ac (j := 8) rfl (z_eI (sp_iload_n (q := 1) dX8_target_15 rfl rfl)) <|
  z_ac (j := 9) rfl (z_eI (sp_iald dX8_target_16 rfl)) <|
  z_ac (j := 10) rfl (z_eI (sp_istore_n (q := 2) dX8_target_17 rfl (by decide) (fun _ _ => rfl) rfl)) <|
  z_ac (j := 11) rfl (z_eI (sp_iload_n (q := 2) dX8_target_18 rfl rfl)) <|
  z_ac (j := 12) rfl (z_eI (sp_iconst dX8_target_19 (by decide +kernel) rfl)) <|
  z_ac (j := 13) rfl (z_eI (sp_icmp_ne dX8_target_20 rfl rfl)) <|
  z_ac (j := 14) rfl (z_tSN rfl rfl (by decide +kernel) zTr2 (zmsg232) dX8_target_23 dX8_target_26 dX8_target_27 dX8_target_29 dX8_target_32 rfl (by decide +kernel)) <|
  z_ac (j := 15) rfl (z_eI sp_none) <|
  z_ac (j := 16) rfl (z_eI sp_none) <|
  z_ac (j := 17) rfl (z_eI sp_none) <|
  z_ac (j := 18) rfl (z_eI sp_none) <|
  z_ac (j := 19) rfl (z_eI (sp_iload_n (q := 2) dX8_target_33 rfl rfl)) <|
  z_ac (j := 20) rfl (z_eR (sr_int dX8_target_34 rfl)) <| z_an
theorem dX8_hasPassed_0 : decode cX8_hasPassed 0 = .ok (.aload_n 0, 1) := by decide +kernel
theorem dX8_hasPassed_1 : decode cX8_hasPassed 1 = .ok (.iload_n 1, 1) := by decide +kernel
theorem dX8_hasPassed_2 : decode cX8_hasPassed 2 = .ok (.invokevirtual 221, 3) := by decide +kernel
theorem dX8_hasPassed_5 : decode cX8_hasPassed 5 = .ok (.aload_n 0, 1) := by decide +kernel
theorem dX8_hasPassed_6 : decode cX8_hasPassed 6 = .ok (.iload_n 2, 1) := by decide +kernel
theorem dX8_hasPassed_7 : decode cX8_hasPassed 7 = .ok (.invokevirtual 187, 3) := by decide +kernel
theorem dX8_hasPassed_10 : decode cX8_hasPassed 10 = .ok (.aload_n 0, 1) := by decide +kernel
theorem dX8_hasPassed_11 : decode cX8_hasPassed 11 = .ok (.getfield 12, 3) := by decide +kernel
theorem dX8_hasPassed_14 : decode cX8_hasPassed 14 = .ok (.getfield 106, 3) := by decide +kernel
theorem dX8_hasPassed_17 : decode cX8_hasPassed 17 = .ok (.getfield 234, 3) := by decide +kernel
theorem dX8_hasPassed_20 : decode cX8_hasPassed 20 = .ok (.iload_n 1, 1) := by decide +kernel
theorem dX8_hasPassed_21 : decode cX8_hasPassed 21 = .ok (.iaload, 1) := by decide +kernel
theorem dX8_hasPassed_22 : decode cX8_hasPassed 22 = .ok (.iload_n 2, 1) := by decide +kernel
theorem dX8_hasPassed_23 : decode cX8_hasPassed 23 = .ok (.invokestatic 205, 3) := by decide +kernel
theorem dX8_hasPassed_26 : decode cX8_hasPassed 26 = .ok (.ireturn, 1) := by decide +kernel
theorem tX8_hasPassed {L : Nat} {xs : Nat → Int32} {N : Nat} : z_AllE (zE L xs N 237) 0 (kX8_hasPassed N) :=
  z_ac (j := 1) rfl (z_eI (sp_aload_n (q := 0) dX8_hasPassed_0 rfl rfl)) <|
  z_ac (j := 2) rfl (z_eI (sp_iload_n (q := 1) dX8_hasPassed_1 rfl rfl)) <|
  z_ac (j := 3) rfl (z_cV dX8_hasPassed_2 wl_882 qX8_requireTraveller (by decide +kernel) ⟨_, _, rfl⟩ (z_sn rfl rfl) rfl) <|
  z_ac (j := 4) rfl (z_eI (sp_aload_n (q := 0) dX8_hasPassed_5 rfl rfl)) <|
  z_ac (j := 5) rfl (z_eI (sp_iload_n (q := 2) dX8_hasPassed_6 rfl rfl)) <|
  z_ac (j := 6) rfl (z_cV dX8_hasPassed_7 wl_816 qX8_requireLight (by decide +kernel) ⟨_, _, rfl⟩ (z_sn rfl rfl) rfl) <|
  z_ac (j := 7) rfl (z_eI (sp_aload_n (q := 0) dX8_hasPassed_10 rfl rfl)) <|
  z_ac (j := 8) rfl (z_eI (sp_getf (C := RX8) (T := TX8) (Nf := 11) dX8_hasPassed_11 rfl inX8 (by decide) wf_471 rfl)) <|
  z_ac (j := 9) rfl (z_eI (sp_getf (C := RX7) (T := TX7) (Nf := 6) dX8_hasPassed_14 rfl inX7 (by decide) wf_196 rfl)) <|
  z_ac (j := 10) rfl (z_eI (sp_getf (C := RX6) (T := TX6) (Nf := 8) dX8_hasPassed_17 rfl inX6 (by decide) wf_163 rfl)) <|
  z_ac (j := 11) rfl (z_eI (sp_iload_n (q := 1) dX8_hasPassed_20 rfl rfl)) <|
  z_ac (j := 12) rfl (z_eI (sp_iald dX8_hasPassed_21 rfl)) <|
  z_ac (j := 13) rfl (z_eI (sp_iload_n (q := 2) dX8_hasPassed_22 rfl rfl)) <|
  z_ac (j := 14) rfl (z_cS dX8_hasPassed_23 wl_1007 qX8_holds (by decide +kernel) (z_sn rfl rfl) rfl) <|
  z_ac (j := 15) rfl (z_eR (sr_bool dX8_hasPassed_26 rfl)) <| z_an
theorem dX8_distrusts_0 : decode cX8_distrusts 0 = .ok (.aload_n 0, 1) := by decide +kernel
theorem dX8_distrusts_1 : decode cX8_distrusts 1 = .ok (.iload_n 1, 1) := by decide +kernel
theorem dX8_distrusts_2 : decode cX8_distrusts 2 = .ok (.invokevirtual 221, 3) := by decide +kernel
theorem dX8_distrusts_5 : decode cX8_distrusts 5 = .ok (.aload_n 0, 1) := by decide +kernel
theorem dX8_distrusts_6 : decode cX8_distrusts 6 = .ok (.iload_n 2, 1) := by decide +kernel
theorem dX8_distrusts_7 : decode cX8_distrusts 7 = .ok (.invokevirtual 187, 3) := by decide +kernel
theorem dX8_distrusts_10 : decode cX8_distrusts 10 = .ok (.aload_n 0, 1) := by decide +kernel
theorem dX8_distrusts_11 : decode cX8_distrusts 11 = .ok (.getfield 12, 3) := by decide +kernel
theorem dX8_distrusts_14 : decode cX8_distrusts 14 = .ok (.getfield 106, 3) := by decide +kernel
theorem dX8_distrusts_17 : decode cX8_distrusts 17 = .ok (.getfield 237, 3) := by decide +kernel
theorem dX8_distrusts_20 : decode cX8_distrusts 20 = .ok (.iload_n 1, 1) := by decide +kernel
theorem dX8_distrusts_21 : decode cX8_distrusts 21 = .ok (.iaload, 1) := by decide +kernel
theorem dX8_distrusts_22 : decode cX8_distrusts 22 = .ok (.iload_n 2, 1) := by decide +kernel
theorem dX8_distrusts_23 : decode cX8_distrusts 23 = .ok (.invokestatic 205, 3) := by decide +kernel
theorem dX8_distrusts_26 : decode cX8_distrusts 26 = .ok (.ireturn, 1) := by decide +kernel
theorem tX8_distrusts {L : Nat} {xs : Nat → Int32} {N : Nat} : z_AllE (zE L xs N 238) 0 (kX8_distrusts N) :=
  z_ac (j := 1) rfl (z_eI (sp_aload_n (q := 0) dX8_distrusts_0 rfl rfl)) <|
  z_ac (j := 2) rfl (z_eI (sp_iload_n (q := 1) dX8_distrusts_1 rfl rfl)) <|
  z_ac (j := 3) rfl (z_cV dX8_distrusts_2 wl_882 qX8_requireTraveller (by decide +kernel) ⟨_, _, rfl⟩ (z_sn rfl rfl) rfl) <|
  z_ac (j := 4) rfl (z_eI (sp_aload_n (q := 0) dX8_distrusts_5 rfl rfl)) <|
  z_ac (j := 5) rfl (z_eI (sp_iload_n (q := 2) dX8_distrusts_6 rfl rfl)) <|
  z_ac (j := 6) rfl (z_cV dX8_distrusts_7 wl_816 qX8_requireLight (by decide +kernel) ⟨_, _, rfl⟩ (z_sn rfl rfl) rfl) <|
  z_ac (j := 7) rfl (z_eI (sp_aload_n (q := 0) dX8_distrusts_10 rfl rfl)) <|
  z_ac (j := 8) rfl (z_eI (sp_getf (C := RX8) (T := TX8) (Nf := 11) dX8_distrusts_11 rfl inX8 (by decide) wf_471 rfl)) <|
  z_ac (j := 9) rfl (z_eI (sp_getf (C := RX7) (T := TX7) (Nf := 6) dX8_distrusts_14 rfl inX7 (by decide) wf_196 rfl)) <|
  z_ac (j := 10) rfl (z_eI (sp_getf (C := RX6) (T := TX6) (Nf := 8) dX8_distrusts_17 rfl inX6 (by decide) wf_166 rfl)) <|
  z_ac (j := 11) rfl (z_eI (sp_iload_n (q := 1) dX8_distrusts_20 rfl rfl)) <|
  z_ac (j := 12) rfl (z_eI (sp_iald dX8_distrusts_21 rfl)) <|
  z_ac (j := 13) rfl (z_eI (sp_iload_n (q := 2) dX8_distrusts_22 rfl rfl)) <|
  z_ac (j := 14) rfl (z_cS dX8_distrusts_23 wl_1007 qX8_holds (by decide +kernel) (z_sn rfl rfl) rfl) <|
  z_ac (j := 15) rfl (z_eR (sr_bool dX8_distrusts_26 rfl)) <| z_an
theorem dX8_sees_0 : decode cX8_sees 0 = .ok (.aload_n 0, 1) := by decide +kernel
theorem dX8_sees_1 : decode cX8_sees 1 = .ok (.iload_n 1, 1) := by decide +kernel
theorem dX8_sees_2 : decode cX8_sees 2 = .ok (.invokevirtual 221, 3) := by decide +kernel
theorem dX8_sees_5 : decode cX8_sees 5 = .ok (.aload_n 0, 1) := by decide +kernel
theorem dX8_sees_6 : decode cX8_sees 6 = .ok (.iload_n 2, 1) := by decide +kernel
theorem dX8_sees_7 : decode cX8_sees 7 = .ok (.invokevirtual 187, 3) := by decide +kernel
theorem dX8_sees_10 : decode cX8_sees 10 = .ok (.aload_n 0, 1) := by decide +kernel
theorem dX8_sees_11 : decode cX8_sees 11 = .ok (.getfield 12, 3) := by decide +kernel
theorem dX8_sees_14 : decode cX8_sees 14 = .ok (.iload_n 1, 1) := by decide +kernel
theorem dX8_sees_15 : decode cX8_sees 15 = .ok (.iload_n 2, 1) := by decide +kernel
theorem dX8_sees_16 : decode cX8_sees 16 = .ok (.invokevirtual 240, 3) := by decide +kernel
theorem dX8_sees_19 : decode cX8_sees 19 = .ok (.aload_n 0, 1) := by decide +kernel
theorem dX8_sees_20 : decode cX8_sees 20 = .ok (.getfield 12, 3) := by decide +kernel
theorem dX8_sees_23 : decode cX8_sees 23 = .ok (.invokevirtual 177, 3) := by decide +kernel
theorem dX8_sees_26 : decode cX8_sees 26 = .ok (.aload_n 0, 1) := by decide +kernel
theorem dX8_sees_27 : decode cX8_sees 27 = .ok (.getfield 12, 3) := by decide +kernel
theorem dX8_sees_30 : decode cX8_sees 30 = .ok (.getfield 180, 3) := by decide +kernel
theorem dX8_sees_33 : decode cX8_sees 33 = .ok (.getfield 199, 3) := by decide +kernel
theorem dX8_sees_36 : decode cX8_sees 36 = .ok (.iload_n 2, 1) := by decide +kernel
theorem dX8_sees_37 : decode cX8_sees 37 = .ok (.iaload, 1) := by decide +kernel
theorem dX8_sees_38 : decode cX8_sees 38 = .ok (.iadd, 1) := by decide +kernel
theorem dX8_sees_39 : decode cX8_sees 39 = .ok (.if_icmp .gt 7, 3) := by decide +kernel
theorem dX8_sees_42 : decode cX8_sees 42 = .ok (.iconst 1, 1) := by decide +kernel
theorem dX8_sees_43 : decode cX8_sees 43 = .ok (.goto 4, 3) := by decide +kernel
theorem dX8_sees_46 : decode cX8_sees 46 = .ok (.iconst 0, 1) := by decide +kernel
theorem dX8_sees_47 : decode cX8_sees 47 = .ok (.ireturn, 1) := by decide +kernel
theorem tX8_sees {L : Nat} {xs : Nat → Int32} {N : Nat} : z_AllE (zE L xs N 239) 0 (kX8_sees N) :=
  z_ac (j := 1) rfl (z_eI (sp_aload_n (q := 0) dX8_sees_0 rfl rfl)) <|
  z_ac (j := 2) rfl (z_eI (sp_iload_n (q := 1) dX8_sees_1 rfl rfl)) <|
  z_ac (j := 3) rfl (z_cV dX8_sees_2 wl_882 qX8_requireTraveller (by decide +kernel) ⟨_, _, rfl⟩ (z_sn rfl rfl) rfl) <|
  z_ac (j := 4) rfl (z_eI (sp_aload_n (q := 0) dX8_sees_5 rfl rfl)) <|
  z_ac (j := 5) rfl (z_eI (sp_iload_n (q := 2) dX8_sees_6 rfl rfl)) <|
  z_ac (j := 6) rfl (z_cV dX8_sees_7 wl_816 qX8_requireLight (by decide +kernel) ⟨_, _, rfl⟩ (z_sn rfl rfl) rfl) <|
  z_ac (j := 7) rfl (z_eI (sp_aload_n (q := 0) dX8_sees_10 rfl rfl)) <|
  z_ac (j := 8) rfl (z_eI (sp_getf (C := RX8) (T := TX8) (Nf := 11) dX8_sees_11 rfl inX8 (by decide) wf_471 rfl)) <|
  z_ac (j := 9) rfl (z_eI (sp_iload_n (q := 1) dX8_sees_14 rfl rfl)) <|
  z_ac (j := 10) rfl (z_eI (sp_iload_n (q := 2) dX8_sees_15 rfl rfl)) <|
  z_ac (j := 11) rfl (z_cV dX8_sees_16 wl_892 qX7_distanceTo (by decide +kernel) ⟨_, _, rfl⟩ (z_sn rfl rfl) rfl) <|
  z_ac (j := 12) rfl (z_eI (sp_aload_n (q := 0) dX8_sees_19 rfl rfl)) <|
  z_ac (j := 13) rfl (z_eI (sp_getf (C := RX8) (T := TX8) (Nf := 11) dX8_sees_20 rfl inX8 (by decide) wf_471 rfl)) <|
  z_ac (j := 14) rfl (z_cV dX8_sees_23 wl_534 qX7_sightNow (by decide +kernel) ⟨_, _, rfl⟩ (z_sn rfl rfl) rfl) <|
  z_ac (j := 15) rfl (z_eI (sp_aload_n (q := 0) dX8_sees_26 rfl rfl)) <|
  z_ac (j := 16) rfl (z_eI (sp_getf (C := RX8) (T := TX8) (Nf := 11) dX8_sees_27 rfl inX8 (by decide) wf_471 rfl)) <|
  z_ac (j := 17) rfl (z_eI (sp_getf (C := RX7) (T := TX7) (Nf := 6) dX8_sees_30 rfl inX7 (by decide) wf_193 rfl)) <|
  z_ac (j := 18) rfl (z_eI (sp_getf (C := RX3) (T := TX3) (Nf := 5) dX8_sees_33 rfl inX3 (by decide) wf_122 rfl)) <|
  z_ac (j := 19) rfl (z_eI (sp_iload_n (q := 2) dX8_sees_36 rfl rfl)) <|
  z_ac (j := 20) rfl (z_eI (sp_iald dX8_sees_37 rfl)) <|
  z_ac (j := 21) rfl (z_eI (sp_iadd dX8_sees_38 rfl)) <|
  z_ac (j := 22) rfl (z_eI (sp_icmp_gt dX8_sees_39 rfl rfl)) <|
  z_ac (j := 23) rfl (z_eI (sp_iconst dX8_sees_42 (by decide +kernel) rfl)) <|
  z_ac (j := 24) rfl (z_eI (sp_goto dX8_sees_43 rfl)) <|
  z_ac (j := 25) rfl (z_eI (sp_iconst dX8_sees_46 (by decide +kernel) rfl)) <|
  z_ac (j := 26) rfl (z_eR (sr_bool dX8_sees_47 rfl)) <| z_an
theorem dX8_nearestLight_0 : decode cX8_nearestLight 0 = .ok (.aload_n 0, 1) := by decide +kernel
theorem dX8_nearestLight_1 : decode cX8_nearestLight 1 = .ok (.iload_n 1, 1) := by decide +kernel
theorem dX8_nearestLight_2 : decode cX8_nearestLight 2 = .ok (.invokevirtual 221, 3) := by decide +kernel
theorem dX8_nearestLight_5 : decode cX8_nearestLight 5 = .ok (.aload_n 0, 1) := by decide +kernel
theorem dX8_nearestLight_6 : decode cX8_nearestLight 6 = .ok (.getfield 12, 3) := by decide +kernel
theorem dX8_nearestLight_9 : decode cX8_nearestLight 9 = .ok (.iload_n 1, 1) := by decide +kernel
theorem dX8_nearestLight_10 : decode cX8_nearestLight 10 = .ok (.invokevirtual 243, 3) := by decide +kernel
theorem dX8_nearestLight_13 : decode cX8_nearestLight 13 = .ok (.istore_n 2, 1) := by decide +kernel
theorem dX8_nearestLight_14 : decode cX8_nearestLight 14 = .ok (.iload_n 2, 1) := by decide +kernel
theorem dX8_nearestLight_15 : decode cX8_nearestLight 15 = .ok (.iconst (-1), 1) := by decide +kernel
theorem dX8_nearestLight_16 : decode cX8_nearestLight 16 = .ok (.if_icmp .ne 13, 3) := by decide +kernel
theorem dX8_nearestLight_19 : decode cX8_nearestLight 19 = .ok (.new 115, 3) := by decide +kernel
theorem dX8_nearestLight_22 : decode cX8_nearestLight 22 = .ok (.dup, 1) := by decide +kernel
theorem dX8_nearestLight_23 : decode cX8_nearestLight 23 = .ok (.ldc 246, 2) := by decide +kernel
theorem dX8_nearestLight_25 : decode cX8_nearestLight 25 = .ok (.invokespecial 119, 3) := by decide +kernel
theorem dX8_nearestLight_28 : decode cX8_nearestLight 28 = .ok (.athrow, 1) := by decide +kernel
theorem dX8_nearestLight_29 : decode cX8_nearestLight 29 = .ok (.iload_n 2, 1) := by decide +kernel
theorem dX8_nearestLight_30 : decode cX8_nearestLight 30 = .ok (.ireturn, 1) := by decide +kernel
theorem tX8_nearestLight {L : Nat} {xs : Nat → Int32} {N : Nat} : z_AllE (zE L xs N 240) 0 (kX8_nearestLight N) :=
  z_ac (j := 1) rfl (z_eI (sp_aload_n (q := 0) dX8_nearestLight_0 rfl rfl)) <|
  z_ac (j := 2) rfl (z_eI (sp_iload_n (q := 1) dX8_nearestLight_1 rfl rfl)) <|
  z_ac (j := 3) rfl (z_cV dX8_nearestLight_2 wl_882 qX8_requireTraveller (by decide +kernel) ⟨_, _, rfl⟩ (z_sn rfl rfl) rfl) <|
  z_ac (j := 4) rfl (z_eI (sp_aload_n (q := 0) dX8_nearestLight_5 rfl rfl)) <|
  z_ac (j := 5) rfl (z_eI (sp_getf (C := RX8) (T := TX8) (Nf := 11) dX8_nearestLight_6 rfl inX8 (by decide) wf_471 rfl)) <|
  z_ac (j := 6) rfl (z_eI (sp_iload_n (q := 1) dX8_nearestLight_9 rfl rfl)) <|
  z_ac (j := 7) rfl (z_cV dX8_nearestLight_10 wl_1078 qX7_nearestAcceptable (by decide +kernel) ⟨_, _, rfl⟩ (z_sn rfl rfl) rfl) <|
  z_ac (j := 8) rfl (z_eI (sp_istore_n (q := 2) dX8_nearestLight_13 rfl (by decide) (fun _ _ => rfl) rfl)) <|
  z_ac (j := 9) rfl (z_eI (sp_iload_n (q := 2) dX8_nearestLight_14 rfl rfl)) <|
  z_ac (j := 10) rfl (z_eI (sp_iconst dX8_nearestLight_15 (by decide +kernel) rfl)) <|
  z_ac (j := 11) rfl (z_eI (sp_icmp_ne dX8_nearestLight_16 rfl rfl)) <|
  z_ac (j := 12) rfl (z_tSN rfl rfl (by decide +kernel) zTr2 (zmsg246) dX8_nearestLight_19 dX8_nearestLight_22 dX8_nearestLight_23 dX8_nearestLight_25 dX8_nearestLight_28 rfl (by decide +kernel)) <|
  z_ac (j := 13) rfl (z_eI sp_none) <|
  z_ac (j := 14) rfl (z_eI sp_none) <|
  z_ac (j := 15) rfl (z_eI sp_none) <|
  z_ac (j := 16) rfl (z_eI sp_none) <|
  z_ac (j := 17) rfl (z_eI (sp_iload_n (q := 2) dX8_nearestLight_29 rfl rfl)) <|
  z_ac (j := 18) rfl (z_eR (sr_int dX8_nearestLight_30 rfl)) <| z_an
theorem dX8_walkingCount_0 : decode cX8_walkingCount 0 = .ok (.aload_n 0, 1) := by decide +kernel
theorem dX8_walkingCount_1 : decode cX8_walkingCount 1 = .ok (.getfield 12, 3) := by decide +kernel
theorem dX8_walkingCount_4 : decode cX8_walkingCount 4 = .ok (.getfield 106, 3) := by decide +kernel
theorem dX8_walkingCount_7 : decode cX8_walkingCount 7 = .ok (.iconst 0, 1) := by decide +kernel
theorem dX8_walkingCount_8 : decode cX8_walkingCount 8 = .ok (.invokevirtual 248, 3) := by decide +kernel
theorem dX8_walkingCount_11 : decode cX8_walkingCount 11 = .ok (.ireturn, 1) := by decide +kernel
theorem tX8_walkingCount {L : Nat} {xs : Nat → Int32} {N : Nat} : z_AllE (zE L xs N 241) 0 (kX8_walkingCount N) :=
  z_ac (j := 1) rfl (z_eI (sp_aload_n (q := 0) dX8_walkingCount_0 rfl rfl)) <|
  z_ac (j := 2) rfl (z_eI (sp_getf (C := RX8) (T := TX8) (Nf := 11) dX8_walkingCount_1 rfl inX8 (by decide) wf_471 rfl)) <|
  z_ac (j := 3) rfl (z_eI (sp_getf (C := RX7) (T := TX7) (Nf := 6) dX8_walkingCount_4 rfl inX7 (by decide) wf_196 rfl)) <|
  z_ac (j := 4) rfl (z_eI (sp_iconst dX8_walkingCount_7 (by decide +kernel) rfl)) <|
  z_ac (j := 5) rfl (z_cV dX8_walkingCount_8 wl_676 qX6_countIn (by decide +kernel) ⟨_, _, rfl⟩ (z_sn rfl rfl) rfl) <|
  z_ac (j := 6) rfl (z_eR (sr_int dX8_walkingCount_11 rfl)) <| z_an
theorem dX8_arrivedCount_0 : decode cX8_arrivedCount 0 = .ok (.aload_n 0, 1) := by decide +kernel
theorem dX8_arrivedCount_1 : decode cX8_arrivedCount 1 = .ok (.getfield 12, 3) := by decide +kernel
theorem dX8_arrivedCount_4 : decode cX8_arrivedCount 4 = .ok (.getfield 106, 3) := by decide +kernel
theorem dX8_arrivedCount_7 : decode cX8_arrivedCount 7 = .ok (.iconst 1, 1) := by decide +kernel
theorem dX8_arrivedCount_8 : decode cX8_arrivedCount 8 = .ok (.invokevirtual 248, 3) := by decide +kernel
theorem dX8_arrivedCount_11 : decode cX8_arrivedCount 11 = .ok (.ireturn, 1) := by decide +kernel
theorem tX8_arrivedCount {L : Nat} {xs : Nat → Int32} {N : Nat} : z_AllE (zE L xs N 242) 0 (kX8_arrivedCount N) :=
  z_ac (j := 1) rfl (z_eI (sp_aload_n (q := 0) dX8_arrivedCount_0 rfl rfl)) <|
  z_ac (j := 2) rfl (z_eI (sp_getf (C := RX8) (T := TX8) (Nf := 11) dX8_arrivedCount_1 rfl inX8 (by decide) wf_471 rfl)) <|
  z_ac (j := 3) rfl (z_eI (sp_getf (C := RX7) (T := TX7) (Nf := 6) dX8_arrivedCount_4 rfl inX7 (by decide) wf_196 rfl)) <|
  z_ac (j := 4) rfl (z_eI (sp_iconst dX8_arrivedCount_7 (by decide +kernel) rfl)) <|
  z_ac (j := 5) rfl (z_cV dX8_arrivedCount_8 wl_676 qX6_countIn (by decide +kernel) ⟨_, _, rfl⟩ (z_sn rfl rfl) rfl) <|
  z_ac (j := 6) rfl (z_eR (sr_int dX8_arrivedCount_11 rfl)) <| z_an
theorem dX8_sunkCount_0 : decode cX8_sunkCount 0 = .ok (.aload_n 0, 1) := by decide +kernel
theorem dX8_sunkCount_1 : decode cX8_sunkCount 1 = .ok (.getfield 12, 3) := by decide +kernel
theorem dX8_sunkCount_4 : decode cX8_sunkCount 4 = .ok (.getfield 106, 3) := by decide +kernel
theorem dX8_sunkCount_7 : decode cX8_sunkCount 7 = .ok (.iconst 2, 1) := by decide +kernel
theorem dX8_sunkCount_8 : decode cX8_sunkCount 8 = .ok (.invokevirtual 248, 3) := by decide +kernel
theorem dX8_sunkCount_11 : decode cX8_sunkCount 11 = .ok (.ireturn, 1) := by decide +kernel
theorem tX8_sunkCount {L : Nat} {xs : Nat → Int32} {N : Nat} : z_AllE (zE L xs N 243) 0 (kX8_sunkCount N) :=
  z_ac (j := 1) rfl (z_eI (sp_aload_n (q := 0) dX8_sunkCount_0 rfl rfl)) <|
  z_ac (j := 2) rfl (z_eI (sp_getf (C := RX8) (T := TX8) (Nf := 11) dX8_sunkCount_1 rfl inX8 (by decide) wf_471 rfl)) <|
  z_ac (j := 3) rfl (z_eI (sp_getf (C := RX7) (T := TX7) (Nf := 6) dX8_sunkCount_4 rfl inX7 (by decide) wf_196 rfl)) <|
  z_ac (j := 4) rfl (z_eI (sp_iconst dX8_sunkCount_7 (by decide +kernel) rfl)) <|
  z_ac (j := 5) rfl (z_cV dX8_sunkCount_8 wl_676 qX6_countIn (by decide +kernel) ⟨_, _, rfl⟩ (z_sn rfl rfl) rfl) <|
  z_ac (j := 6) rfl (z_eR (sr_int dX8_sunkCount_11 rfl)) <| z_an
theorem dX8_arrivedShare_0 : decode cX8_arrivedShare 0 = .ok (.aload_n 0, 1) := by decide +kernel
theorem dX8_arrivedShare_1 : decode cX8_arrivedShare 1 = .ok (.getfield 12, 3) := by decide +kernel
theorem dX8_arrivedShare_4 : decode cX8_arrivedShare 4 = .ok (.getfield 106, 3) := by decide +kernel
theorem dX8_arrivedShare_7 : decode cX8_arrivedShare 7 = .ok (.getfield 110, 3) := by decide +kernel
theorem dX8_arrivedShare_10 : decode cX8_arrivedShare 10 = .ok (.istore_n 1, 1) := by decide +kernel
theorem dX8_arrivedShare_11 : decode cX8_arrivedShare 11 = .ok (.iload_n 1, 1) := by decide +kernel
theorem dX8_arrivedShare_12 : decode cX8_arrivedShare 12 = .ok (.ifCond .ne 5, 3) := by decide +kernel
theorem dX8_arrivedShare_15 : decode cX8_arrivedShare 15 = .ok (.fconst 0, 1) := by decide +kernel
theorem dX8_arrivedShare_16 : decode cX8_arrivedShare 16 = .ok (.freturn, 1) := by decide +kernel
theorem dX8_arrivedShare_17 : decode cX8_arrivedShare 17 = .ok (.aload_n 0, 1) := by decide +kernel
theorem dX8_arrivedShare_18 : decode cX8_arrivedShare 18 = .ok (.getfield 12, 3) := by decide +kernel
theorem dX8_arrivedShare_21 : decode cX8_arrivedShare 21 = .ok (.getfield 106, 3) := by decide +kernel
theorem dX8_arrivedShare_24 : decode cX8_arrivedShare 24 = .ok (.iconst 1, 1) := by decide +kernel
theorem dX8_arrivedShare_25 : decode cX8_arrivedShare 25 = .ok (.invokevirtual 248, 3) := by decide +kernel
theorem dX8_arrivedShare_28 : decode cX8_arrivedShare 28 = .ok (.i2f, 1) := by decide +kernel
theorem dX8_arrivedShare_29 : decode cX8_arrivedShare 29 = .ok (.iload_n 1, 1) := by decide +kernel
theorem dX8_arrivedShare_30 : decode cX8_arrivedShare 30 = .ok (.i2f, 1) := by decide +kernel
theorem dX8_arrivedShare_31 : decode cX8_arrivedShare 31 = .ok (.fdiv, 1) := by decide +kernel
theorem dX8_arrivedShare_32 : decode cX8_arrivedShare 32 = .ok (.freturn, 1) := by decide +kernel
theorem tX8_arrivedShare {L : Nat} {xs : Nat → Int32} {N : Nat} : z_AllE (zE L xs N 244) 0 (kX8_arrivedShare N) :=
  z_ac (j := 1) rfl (z_eI (sp_aload_n (q := 0) dX8_arrivedShare_0 rfl rfl)) <|
  z_ac (j := 2) rfl (z_eI (sp_getf (C := RX8) (T := TX8) (Nf := 11) dX8_arrivedShare_1 rfl inX8 (by decide) wf_471 rfl)) <|
  z_ac (j := 3) rfl (z_eI (sp_getf (C := RX7) (T := TX7) (Nf := 6) dX8_arrivedShare_4 rfl inX7 (by decide) wf_196 rfl)) <|
  z_ac (j := 4) rfl (z_eI (sp_getf (C := RX6) (T := TX6) (Nf := 8) dX8_arrivedShare_7 rfl inX6 (by decide) wf_147 rfl)) <|
  z_ac (j := 5) rfl (z_eI (sp_istore_n (q := 1) dX8_arrivedShare_10 rfl (by decide) (fun _ _ => rfl) rfl)) <|
  z_ac (j := 6) rfl (z_eI (sp_iload_n (q := 1) dX8_arrivedShare_11 rfl rfl)) <|
  z_ac (j := 7) rfl (z_eI (sp_if_ne dX8_arrivedShare_12 rfl rfl)) <|
  z_ac (j := 8) rfl (z_eI (sp_fconst0 dX8_arrivedShare_15 rfl)) <|
  z_ac (j := 9) rfl (z_eR (sr_float dX8_arrivedShare_16 rfl)) <|
  z_ac (j := 10) rfl (z_eI (sp_aload_n (q := 0) dX8_arrivedShare_17 rfl rfl)) <|
  z_ac (j := 11) rfl (z_eI (sp_getf (C := RX8) (T := TX8) (Nf := 11) dX8_arrivedShare_18 rfl inX8 (by decide) wf_471 rfl)) <|
  z_ac (j := 12) rfl (z_eI (sp_getf (C := RX7) (T := TX7) (Nf := 6) dX8_arrivedShare_21 rfl inX7 (by decide) wf_196 rfl)) <|
  z_ac (j := 13) rfl (z_eI (sp_iconst dX8_arrivedShare_24 (by decide +kernel) rfl)) <|
  z_ac (j := 14) rfl (z_cV dX8_arrivedShare_25 wl_676 qX6_countIn (by decide +kernel) ⟨_, _, rfl⟩ (z_sn rfl rfl) rfl) <|
  z_ac (j := 15) rfl (z_eI (sp_i2f dX8_arrivedShare_28 rfl)) <|
  z_ac (j := 16) rfl (z_eI (sp_iload_n (q := 1) dX8_arrivedShare_29 rfl rfl)) <|
  z_ac (j := 17) rfl (z_eI (sp_i2f dX8_arrivedShare_30 rfl)) <|
  z_ac (j := 18) rfl (z_eI (sp_fdiv dX8_arrivedShare_31 rfl)) <|
  z_ac (j := 19) rfl (z_eR (sr_float dX8_arrivedShare_32 rfl)) <| z_an
theorem dX8_meanSteps_0 : decode cX8_meanSteps 0 = .ok (.aload_n 0, 1) := by decide +kernel
theorem dX8_meanSteps_1 : decode cX8_meanSteps 1 = .ok (.getfield 12, 3) := by decide +kernel
theorem dX8_meanSteps_4 : decode cX8_meanSteps 4 = .ok (.getfield 106, 3) := by decide +kernel
theorem dX8_meanSteps_7 : decode cX8_meanSteps 7 = .ok (.getfield 110, 3) := by decide +kernel
theorem dX8_meanSteps_10 : decode cX8_meanSteps 10 = .ok (.istore_n 1, 1) := by decide +kernel
theorem dX8_meanSteps_11 : decode cX8_meanSteps 11 = .ok (.iload_n 1, 1) := by decide +kernel
theorem dX8_meanSteps_12 : decode cX8_meanSteps 12 = .ok (.ifCond .ne 5, 3) := by decide +kernel
theorem dX8_meanSteps_15 : decode cX8_meanSteps 15 = .ok (.dconst 0, 1) := by decide +kernel
theorem dX8_meanSteps_16 : decode cX8_meanSteps 16 = .ok (.dreturn, 1) := by decide +kernel
theorem dX8_meanSteps_17 : decode cX8_meanSteps 17 = .ok (.aload_n 0, 1) := by decide +kernel
theorem dX8_meanSteps_18 : decode cX8_meanSteps 18 = .ok (.getfield 12, 3) := by decide +kernel
theorem dX8_meanSteps_21 : decode cX8_meanSteps 21 = .ok (.getfield 106, 3) := by decide +kernel
theorem dX8_meanSteps_24 : decode cX8_meanSteps 24 = .ok (.invokevirtual 251, 3) := by decide +kernel
theorem dX8_meanSteps_27 : decode cX8_meanSteps 27 = .ok (.i2d, 1) := by decide +kernel
theorem dX8_meanSteps_28 : decode cX8_meanSteps 28 = .ok (.iload_n 1, 1) := by decide +kernel
theorem dX8_meanSteps_29 : decode cX8_meanSteps 29 = .ok (.i2d, 1) := by decide +kernel
theorem dX8_meanSteps_30 : decode cX8_meanSteps 30 = .ok (.ddiv, 1) := by decide +kernel
theorem dX8_meanSteps_31 : decode cX8_meanSteps 31 = .ok (.dreturn, 1) := by decide +kernel
theorem tX8_meanSteps {L : Nat} {xs : Nat → Int32} {N : Nat} : z_AllE (zE L xs N 245) 0 (kX8_meanSteps N) :=
  z_ac (j := 1) rfl (z_eI (sp_aload_n (q := 0) dX8_meanSteps_0 rfl rfl)) <|
  z_ac (j := 2) rfl (z_eI (sp_getf (C := RX8) (T := TX8) (Nf := 11) dX8_meanSteps_1 rfl inX8 (by decide) wf_471 rfl)) <|
  z_ac (j := 3) rfl (z_eI (sp_getf (C := RX7) (T := TX7) (Nf := 6) dX8_meanSteps_4 rfl inX7 (by decide) wf_196 rfl)) <|
  z_ac (j := 4) rfl (z_eI (sp_getf (C := RX6) (T := TX6) (Nf := 8) dX8_meanSteps_7 rfl inX6 (by decide) wf_147 rfl)) <|
  z_ac (j := 5) rfl (z_eI (sp_istore_n (q := 1) dX8_meanSteps_10 rfl (by decide) (fun _ _ => rfl) rfl)) <|
  z_ac (j := 6) rfl (z_eI (sp_iload_n (q := 1) dX8_meanSteps_11 rfl rfl)) <|
  z_ac (j := 7) rfl (z_eI (sp_if_ne dX8_meanSteps_12 rfl rfl)) <|
  z_ac (j := 8) rfl (z_eI (sp_dconst0 dX8_meanSteps_15 rfl)) <|
  z_ac (j := 9) rfl (z_eR (sr_double dX8_meanSteps_16 rfl)) <|
  z_ac (j := 10) rfl (z_eI (sp_aload_n (q := 0) dX8_meanSteps_17 rfl rfl)) <|
  z_ac (j := 11) rfl (z_eI (sp_getf (C := RX8) (T := TX8) (Nf := 11) dX8_meanSteps_18 rfl inX8 (by decide) wf_471 rfl)) <|
  z_ac (j := 12) rfl (z_eI (sp_getf (C := RX7) (T := TX7) (Nf := 6) dX8_meanSteps_21 rfl inX7 (by decide) wf_196 rfl)) <|
  z_ac (j := 13) rfl (z_cV dX8_meanSteps_24 wl_1429 qX6_sumOfSteps (by decide +kernel) ⟨_, _, rfl⟩ (z_sn rfl rfl) rfl) <|
  z_ac (j := 14) rfl (z_eI (sp_i2d dX8_meanSteps_27 rfl)) <|
  z_ac (j := 15) rfl (z_eI (sp_iload_n (q := 1) dX8_meanSteps_28 rfl rfl)) <|
  z_ac (j := 16) rfl (z_eI (sp_i2d dX8_meanSteps_29 rfl)) <|
  z_ac (j := 17) rfl (z_eI (sp_ddiv dX8_meanSteps_30 rfl)) <|
  z_ac (j := 18) rfl (z_eR (sr_double dX8_meanSteps_31 rfl)) <| z_an
theorem dX8_ticksUntilDone_0 : decode cX8_ticksUntilDone 0 = .ok (.aload_n 0, 1) := by decide +kernel
theorem dX8_ticksUntilDone_1 : decode cX8_ticksUntilDone 1 = .ok (.iload_n 1, 1) := by decide +kernel
theorem dX8_ticksUntilDone_2 : decode cX8_ticksUntilDone 2 = .ok (.invokevirtual 221, 3) := by decide +kernel
theorem dX8_ticksUntilDone_5 : decode cX8_ticksUntilDone 5 = .ok (.aload_n 0, 1) := by decide +kernel
theorem dX8_ticksUntilDone_6 : decode cX8_ticksUntilDone 6 = .ok (.iload_n 1, 1) := by decide +kernel
theorem dX8_ticksUntilDone_7 : decode cX8_ticksUntilDone 7 = .ok (.invokevirtual 254, 3) := by decide +kernel
theorem dX8_ticksUntilDone_10 : decode cX8_ticksUntilDone 10 = .ok (.aload_n 0, 1) := by decide +kernel
theorem dX8_ticksUntilDone_11 : decode cX8_ticksUntilDone 11 = .ok (.getfield 16, 3) := by decide +kernel
theorem dX8_ticksUntilDone_14 : decode cX8_ticksUntilDone 14 = .ok (.aload_n 0, 1) := by decide +kernel
theorem dX8_ticksUntilDone_15 : decode cX8_ticksUntilDone 15 = .ok (.getfield 12, 3) := by decide +kernel
theorem dX8_ticksUntilDone_18 : decode cX8_ticksUntilDone 18 = .ok (.invokevirtual 99, 3) := by decide +kernel
theorem dX8_ticksUntilDone_21 : decode cX8_ticksUntilDone 21 = .ok (.aload_n 0, 1) := by decide +kernel
theorem dX8_ticksUntilDone_22 : decode cX8_ticksUntilDone 22 = .ok (.getfield 44, 3) := by decide +kernel
theorem dX8_ticksUntilDone_25 : decode cX8_ticksUntilDone 25 = .ok (.aload_n 0, 1) := by decide +kernel
theorem dX8_ticksUntilDone_26 : decode cX8_ticksUntilDone 26 = .ok (.getfield 16, 3) := by decide +kernel
theorem dX8_ticksUntilDone_29 : decode cX8_ticksUntilDone 29 = .ok (.sipush 300, 3) := by decide +kernel
theorem dX8_ticksUntilDone_32 : decode cX8_ticksUntilDone 32 = .ok (.invokevirtual 257, 3) := by decide +kernel
theorem dX8_ticksUntilDone_35 : decode cX8_ticksUntilDone 35 = .ok (.aload_n 0, 1) := by decide +kernel
theorem dX8_ticksUntilDone_36 : decode cX8_ticksUntilDone 36 = .ok (.getfield 16, 3) := by decide +kernel
theorem dX8_ticksUntilDone_39 : decode cX8_ticksUntilDone 39 = .ok (.getfield 106, 3) := by decide +kernel
theorem dX8_ticksUntilDone_42 : decode cX8_ticksUntilDone 42 = .ok (.getfield 225, 3) := by decide +kernel
theorem dX8_ticksUntilDone_45 : decode cX8_ticksUntilDone 45 = .ok (.iload_n 1, 1) := by decide +kernel
theorem dX8_ticksUntilDone_46 : decode cX8_ticksUntilDone 46 = .ok (.iaload, 1) := by decide +kernel
theorem dX8_ticksUntilDone_47 : decode cX8_ticksUntilDone 47 = .ok (.ifCond .ne 14, 3) := by decide +kernel
theorem dX8_ticksUntilDone_50 : decode cX8_ticksUntilDone 50 = .ok (.new 115, 3) := by decide +kernel
theorem dX8_ticksUntilDone_53 : decode cX8_ticksUntilDone 53 = .ok (.dup, 1) := by decide +kernel
theorem dX8_ticksUntilDone_54 : decode cX8_ticksUntilDone 54 = .ok (.ldc_w 261, 3) := by decide +kernel
theorem dX8_ticksUntilDone_57 : decode cX8_ticksUntilDone 57 = .ok (.invokespecial 119, 3) := by decide +kernel
theorem dX8_ticksUntilDone_60 : decode cX8_ticksUntilDone 60 = .ok (.athrow, 1) := by decide +kernel
theorem dX8_ticksUntilDone_61 : decode cX8_ticksUntilDone 61 = .ok (.aload_n 0, 1) := by decide +kernel
theorem dX8_ticksUntilDone_62 : decode cX8_ticksUntilDone 62 = .ok (.getfield 16, 3) := by decide +kernel
theorem dX8_ticksUntilDone_65 : decode cX8_ticksUntilDone 65 = .ok (.getfield 106, 3) := by decide +kernel
theorem dX8_ticksUntilDone_68 : decode cX8_ticksUntilDone 68 = .ok (.getfield 263, 3) := by decide +kernel
theorem dX8_ticksUntilDone_71 : decode cX8_ticksUntilDone 71 = .ok (.iload_n 1, 1) := by decide +kernel
theorem dX8_ticksUntilDone_72 : decode cX8_ticksUntilDone 72 = .ok (.iaload, 1) := by decide +kernel
theorem dX8_ticksUntilDone_73 : decode cX8_ticksUntilDone 73 = .ok (.aload_n 0, 1) := by decide +kernel
theorem dX8_ticksUntilDone_74 : decode cX8_ticksUntilDone 74 = .ok (.getfield 12, 3) := by decide +kernel
theorem dX8_ticksUntilDone_77 : decode cX8_ticksUntilDone 77 = .ok (.getfield 165, 3) := by decide +kernel
theorem dX8_ticksUntilDone_80 : decode cX8_ticksUntilDone 80 = .ok (.isub, 1) := by decide +kernel
theorem dX8_ticksUntilDone_81 : decode cX8_ticksUntilDone 81 = .ok (.ireturn, 1) := by decide +kernel
theorem tX8_ticksUntilDone {L : Nat} {xs : Nat → Int32} {N : Nat} : z_AllE (zE L xs N 246) 0 (kX8_ticksUntilDone N) :=
  z_ac (j := 1) rfl (z_eI (sp_aload_n (q := 0) dX8_ticksUntilDone_0 rfl rfl)) <|
  z_ac (j := 2) rfl (z_eI (sp_iload_n (q := 1) dX8_ticksUntilDone_1 rfl rfl)) <|
  z_ac (j := 3) rfl (z_cV dX8_ticksUntilDone_2 wl_882 qX8_requireTraveller (by decide +kernel) ⟨_, _, rfl⟩ (z_sn rfl rfl) rfl) <|
  z_ac (j := 4) rfl (z_eI (sp_aload_n (q := 0) dX8_ticksUntilDone_5 rfl rfl)) <|
  z_ac (j := 5) rfl (z_eI (sp_iload_n (q := 1) dX8_ticksUntilDone_6 rfl rfl)) <|
  z_ac (j := 6) rfl (z_cV dX8_ticksUntilDone_7 wl_887 qX8_requireWalking (by decide +kernel) ⟨_, _, rfl⟩ (z_sn rfl rfl) rfl) <|
  z_ac (j := 7) rfl (z_eI (sp_aload_n (q := 0) dX8_ticksUntilDone_10 rfl rfl)) <|
  z_ac (j := 8) rfl (z_eI (sp_getf (C := RX8) (T := TX8) (Nf := 11) dX8_ticksUntilDone_11 rfl inX8 (by decide) wf_472 rfl)) <|
  z_ac (j := 9) rfl (z_eI (sp_aload_n (q := 0) dX8_ticksUntilDone_14 rfl rfl)) <|
  z_ac (j := 10) rfl (z_eI (sp_getf (C := RX8) (T := TX8) (Nf := 11) dX8_ticksUntilDone_15 rfl inX8 (by decide) wf_471 rfl)) <|
  z_ac (j := 11) rfl (z_cV dX8_ticksUntilDone_18 wl_911 qX7_copyFrom (by decide +kernel) ⟨_, _, rfl⟩ (z_sn rfl rfl) rfl) <|
  z_ac (j := 12) rfl (z_eI (sp_aload_n (q := 0) dX8_ticksUntilDone_21 rfl rfl)) <|
  z_ac (j := 13) rfl (z_eI (sp_getf (C := RX8) (T := TX8) (Nf := 11) dX8_ticksUntilDone_22 rfl inX8 (by decide) wf_477 rfl)) <|
  z_ac (j := 14) rfl (z_eI (sp_aload_n (q := 0) dX8_ticksUntilDone_25 rfl rfl)) <|
  z_ac (j := 15) rfl (z_eI (sp_getf (C := RX8) (T := TX8) (Nf := 11) dX8_ticksUntilDone_26 rfl inX8 (by decide) wf_472 rfl)) <|
  z_ac (j := 16) rfl (z_eI (sp_sipush dX8_ticksUntilDone_29 (by decide +kernel) rfl)) <|
  z_ac (j := 17) rfl (z_cV dX8_ticksUntilDone_32 wl_680 qX4_run (by decide +kernel) ⟨_, _, rfl⟩ (z_sn rfl rfl) rfl) <|
  z_ac (j := 18) rfl (z_eI (sp_aload_n (q := 0) dX8_ticksUntilDone_35 rfl rfl)) <|
  z_ac (j := 19) rfl (z_eI (sp_getf (C := RX8) (T := TX8) (Nf := 11) dX8_ticksUntilDone_36 rfl inX8 (by decide) wf_472 rfl)) <|
  z_ac (j := 20) rfl (z_eI (sp_getf (C := RX7) (T := TX7) (Nf := 6) dX8_ticksUntilDone_39 rfl inX7 (by decide) wf_196 rfl)) <|
  z_ac (j := 21) rfl (z_eI (sp_getf (C := RX6) (T := TX6) (Nf := 8) dX8_ticksUntilDone_42 rfl inX6 (by decide) wf_154 rfl)) <|
  z_ac (j := 22) rfl (z_eI (sp_iload_n (q := 1) dX8_ticksUntilDone_45 rfl rfl)) <|
  z_ac (j := 23) rfl (z_eI (sp_iald dX8_ticksUntilDone_46 rfl)) <|
  z_ac (j := 24) rfl (z_eI (sp_if_ne dX8_ticksUntilDone_47 rfl rfl)) <|
  z_ac (j := 25) rfl (z_tWN rfl rfl (by decide +kernel) zTr2 (zmsg261) dX8_ticksUntilDone_50 dX8_ticksUntilDone_53 dX8_ticksUntilDone_54 dX8_ticksUntilDone_57 dX8_ticksUntilDone_60 rfl (by decide +kernel)) <|
  z_ac (j := 26) rfl (z_eI sp_none) <|
  z_ac (j := 27) rfl (z_eI sp_none) <|
  z_ac (j := 28) rfl (z_eI sp_none) <|
  z_ac (j := 29) rfl (z_eI sp_none) <|
  z_ac (j := 30) rfl (z_eI (sp_aload_n (q := 0) dX8_ticksUntilDone_61 rfl rfl)) <|
  z_ac (j := 31) rfl (z_eI (sp_getf (C := RX8) (T := TX8) (Nf := 11) dX8_ticksUntilDone_62 rfl inX8 (by decide) wf_472 rfl)) <|
  z_ac (j := 32) rfl (z_eI (sp_getf (C := RX7) (T := TX7) (Nf := 6) dX8_ticksUntilDone_65 rfl inX7 (by decide) wf_196 rfl)) <|
  z_ac (j := 33) rfl (z_eI (sp_getf (C := RX6) (T := TX6) (Nf := 8) dX8_ticksUntilDone_68 rfl inX6 (by decide) wf_168 rfl)) <|
  z_ac (j := 34) rfl (z_eI (sp_iload_n (q := 1) dX8_ticksUntilDone_71 rfl rfl)) <|
  z_ac (j := 35) rfl (z_eI (sp_iald dX8_ticksUntilDone_72 rfl)) <|
  z_ac (j := 36) rfl (z_eI (sp_aload_n (q := 0) dX8_ticksUntilDone_73 rfl rfl)) <|
  z_ac (j := 37) rfl (z_eI (sp_getf (C := RX8) (T := TX8) (Nf := 11) dX8_ticksUntilDone_74 rfl inX8 (by decide) wf_471 rfl)) <|
  z_ac (j := 38) rfl (z_eI (sp_getf (C := RX7) (T := TX7) (Nf := 6) dX8_ticksUntilDone_77 rfl inX7 (by decide) wf_206 rfl)) <|
  z_ac (j := 39) rfl (z_eI (sp_isub dX8_ticksUntilDone_80 rfl)) <|
  z_ac (j := 40) rfl (z_eR (sr_int dX8_ticksUntilDone_81 rfl)) <| z_an
theorem dX8_willArrive_0 : decode cX8_willArrive 0 = .ok (.aload_n 0, 1) := by decide +kernel
theorem dX8_willArrive_1 : decode cX8_willArrive 1 = .ok (.iload_n 1, 1) := by decide +kernel
theorem dX8_willArrive_2 : decode cX8_willArrive 2 = .ok (.invokevirtual 221, 3) := by decide +kernel
theorem dX8_willArrive_5 : decode cX8_willArrive 5 = .ok (.aload_n 0, 1) := by decide +kernel
theorem dX8_willArrive_6 : decode cX8_willArrive 6 = .ok (.getfield 16, 3) := by decide +kernel
theorem dX8_willArrive_9 : decode cX8_willArrive 9 = .ok (.aload_n 0, 1) := by decide +kernel
theorem dX8_willArrive_10 : decode cX8_willArrive 10 = .ok (.getfield 12, 3) := by decide +kernel
theorem dX8_willArrive_13 : decode cX8_willArrive 13 = .ok (.invokevirtual 99, 3) := by decide +kernel
theorem dX8_willArrive_16 : decode cX8_willArrive 16 = .ok (.aload_n 0, 1) := by decide +kernel
theorem dX8_willArrive_17 : decode cX8_willArrive 17 = .ok (.getfield 44, 3) := by decide +kernel
theorem dX8_willArrive_20 : decode cX8_willArrive 20 = .ok (.aload_n 0, 1) := by decide +kernel
theorem dX8_willArrive_21 : decode cX8_willArrive 21 = .ok (.getfield 16, 3) := by decide +kernel
theorem dX8_willArrive_24 : decode cX8_willArrive 24 = .ok (.sipush 300, 3) := by decide +kernel
theorem dX8_willArrive_27 : decode cX8_willArrive 27 = .ok (.invokevirtual 257, 3) := by decide +kernel
theorem dX8_willArrive_30 : decode cX8_willArrive 30 = .ok (.aload_n 0, 1) := by decide +kernel
theorem dX8_willArrive_31 : decode cX8_willArrive 31 = .ok (.getfield 16, 3) := by decide +kernel
theorem dX8_willArrive_34 : decode cX8_willArrive 34 = .ok (.getfield 106, 3) := by decide +kernel
theorem dX8_willArrive_37 : decode cX8_willArrive 37 = .ok (.getfield 225, 3) := by decide +kernel
theorem dX8_willArrive_40 : decode cX8_willArrive 40 = .ok (.iload_n 1, 1) := by decide +kernel
theorem dX8_willArrive_41 : decode cX8_willArrive 41 = .ok (.iaload, 1) := by decide +kernel
theorem dX8_willArrive_42 : decode cX8_willArrive 42 = .ok (.iconst 1, 1) := by decide +kernel
theorem dX8_willArrive_43 : decode cX8_willArrive 43 = .ok (.if_icmp .ne 7, 3) := by decide +kernel
theorem dX8_willArrive_46 : decode cX8_willArrive 46 = .ok (.iconst 1, 1) := by decide +kernel
theorem dX8_willArrive_47 : decode cX8_willArrive 47 = .ok (.goto 4, 3) := by decide +kernel
theorem dX8_willArrive_50 : decode cX8_willArrive 50 = .ok (.iconst 0, 1) := by decide +kernel
theorem dX8_willArrive_51 : decode cX8_willArrive 51 = .ok (.ireturn, 1) := by decide +kernel
theorem tX8_willArrive {L : Nat} {xs : Nat → Int32} {N : Nat} : z_AllE (zE L xs N 247) 0 (kX8_willArrive N) :=
  z_ac (j := 1) rfl (z_eI (sp_aload_n (q := 0) dX8_willArrive_0 rfl rfl)) <|
  z_ac (j := 2) rfl (z_eI (sp_iload_n (q := 1) dX8_willArrive_1 rfl rfl)) <|
  z_ac (j := 3) rfl (z_cV dX8_willArrive_2 wl_882 qX8_requireTraveller (by decide +kernel) ⟨_, _, rfl⟩ (z_sn rfl rfl) rfl) <|
  z_ac (j := 4) rfl (z_eI (sp_aload_n (q := 0) dX8_willArrive_5 rfl rfl)) <|
  z_ac (j := 5) rfl (z_eI (sp_getf (C := RX8) (T := TX8) (Nf := 11) dX8_willArrive_6 rfl inX8 (by decide) wf_472 rfl)) <|
  z_ac (j := 6) rfl (z_eI (sp_aload_n (q := 0) dX8_willArrive_9 rfl rfl)) <|
  z_ac (j := 7) rfl (z_eI (sp_getf (C := RX8) (T := TX8) (Nf := 11) dX8_willArrive_10 rfl inX8 (by decide) wf_471 rfl)) <|
  z_ac (j := 8) rfl (z_cV dX8_willArrive_13 wl_911 qX7_copyFrom (by decide +kernel) ⟨_, _, rfl⟩ (z_sn rfl rfl) rfl) <|
  z_ac (j := 9) rfl (z_eI (sp_aload_n (q := 0) dX8_willArrive_16 rfl rfl)) <|
  z_ac (j := 10) rfl (z_eI (sp_getf (C := RX8) (T := TX8) (Nf := 11) dX8_willArrive_17 rfl inX8 (by decide) wf_477 rfl)) <|
  z_ac (j := 11) rfl (z_eI (sp_aload_n (q := 0) dX8_willArrive_20 rfl rfl)) <|
  z_ac (j := 12) rfl (z_eI (sp_getf (C := RX8) (T := TX8) (Nf := 11) dX8_willArrive_21 rfl inX8 (by decide) wf_472 rfl)) <|
  z_ac (j := 13) rfl (z_eI (sp_sipush dX8_willArrive_24 (by decide +kernel) rfl)) <|
  z_ac (j := 14) rfl (z_cV dX8_willArrive_27 wl_680 qX4_run (by decide +kernel) ⟨_, _, rfl⟩ (z_sn rfl rfl) rfl) <|
  z_ac (j := 15) rfl (z_eI (sp_aload_n (q := 0) dX8_willArrive_30 rfl rfl)) <|
  z_ac (j := 16) rfl (z_eI (sp_getf (C := RX8) (T := TX8) (Nf := 11) dX8_willArrive_31 rfl inX8 (by decide) wf_472 rfl)) <|
  z_ac (j := 17) rfl (z_eI (sp_getf (C := RX7) (T := TX7) (Nf := 6) dX8_willArrive_34 rfl inX7 (by decide) wf_196 rfl)) <|
  z_ac (j := 18) rfl (z_eI (sp_getf (C := RX6) (T := TX6) (Nf := 8) dX8_willArrive_37 rfl inX6 (by decide) wf_154 rfl)) <|
  z_ac (j := 19) rfl (z_eI (sp_iload_n (q := 1) dX8_willArrive_40 rfl rfl)) <|
  z_ac (j := 20) rfl (z_eI (sp_iald dX8_willArrive_41 rfl)) <|
  z_ac (j := 21) rfl (z_eI (sp_iconst dX8_willArrive_42 (by decide +kernel) rfl)) <|
  z_ac (j := 22) rfl (z_eI (sp_icmp_ne dX8_willArrive_43 rfl rfl)) <|
  z_ac (j := 23) rfl (z_eI (sp_iconst dX8_willArrive_46 (by decide +kernel) rfl)) <|
  z_ac (j := 24) rfl (z_eI (sp_goto dX8_willArrive_47 rfl)) <|
  z_ac (j := 25) rfl (z_eI (sp_iconst dX8_willArrive_50 (by decide +kernel) rfl)) <|
  z_ac (j := 26) rfl (z_eR (sr_bool dX8_willArrive_51 rfl)) <| z_an
theorem dX8_arrivedAfter_0 : decode cX8_arrivedAfter 0 = .ok (.iload_n 1, 1) := by decide +kernel
theorem dX8_arrivedAfter_1 : decode cX8_arrivedAfter 1 = .ok (.invokestatic 266, 3) := by decide +kernel
theorem dX8_arrivedAfter_4 : decode cX8_arrivedAfter 4 = .ok (.aload_n 0, 1) := by decide +kernel
theorem dX8_arrivedAfter_5 : decode cX8_arrivedAfter 5 = .ok (.getfield 16, 3) := by decide +kernel
theorem dX8_arrivedAfter_8 : decode cX8_arrivedAfter 8 = .ok (.aload_n 0, 1) := by decide +kernel
theorem dX8_arrivedAfter_9 : decode cX8_arrivedAfter 9 = .ok (.getfield 12, 3) := by decide +kernel
theorem dX8_arrivedAfter_12 : decode cX8_arrivedAfter 12 = .ok (.invokevirtual 99, 3) := by decide +kernel
theorem dX8_arrivedAfter_15 : decode cX8_arrivedAfter 15 = .ok (.aload_n 0, 1) := by decide +kernel
theorem dX8_arrivedAfter_16 : decode cX8_arrivedAfter 16 = .ok (.getfield 44, 3) := by decide +kernel
theorem dX8_arrivedAfter_19 : decode cX8_arrivedAfter 19 = .ok (.aload_n 0, 1) := by decide +kernel
theorem dX8_arrivedAfter_20 : decode cX8_arrivedAfter 20 = .ok (.getfield 16, 3) := by decide +kernel
theorem dX8_arrivedAfter_23 : decode cX8_arrivedAfter 23 = .ok (.iload_n 1, 1) := by decide +kernel
theorem dX8_arrivedAfter_24 : decode cX8_arrivedAfter 24 = .ok (.invokevirtual 257, 3) := by decide +kernel
theorem dX8_arrivedAfter_27 : decode cX8_arrivedAfter 27 = .ok (.aload_n 0, 1) := by decide +kernel
theorem dX8_arrivedAfter_28 : decode cX8_arrivedAfter 28 = .ok (.getfield 16, 3) := by decide +kernel
theorem dX8_arrivedAfter_31 : decode cX8_arrivedAfter 31 = .ok (.getfield 106, 3) := by decide +kernel
theorem dX8_arrivedAfter_34 : decode cX8_arrivedAfter 34 = .ok (.iconst 1, 1) := by decide +kernel
theorem dX8_arrivedAfter_35 : decode cX8_arrivedAfter 35 = .ok (.invokevirtual 248, 3) := by decide +kernel
theorem dX8_arrivedAfter_38 : decode cX8_arrivedAfter 38 = .ok (.ireturn, 1) := by decide +kernel
theorem tX8_arrivedAfter {L : Nat} {xs : Nat → Int32} {N : Nat} : z_AllE (zE L xs N 248) 0 (kX8_arrivedAfter N) :=
  z_ac (j := 1) rfl (z_eI (sp_iload_n (q := 1) dX8_arrivedAfter_0 rfl rfl)) <|
  z_ac (j := 2) rfl (z_cS dX8_arrivedAfter_1 wl_1093 qX8_requireFuture (by decide +kernel) (z_sn rfl rfl) rfl) <|
  z_ac (j := 3) rfl (z_eI (sp_aload_n (q := 0) dX8_arrivedAfter_4 rfl rfl)) <|
  z_ac (j := 4) rfl (z_eI (sp_getf (C := RX8) (T := TX8) (Nf := 11) dX8_arrivedAfter_5 rfl inX8 (by decide) wf_472 rfl)) <|
  z_ac (j := 5) rfl (z_eI (sp_aload_n (q := 0) dX8_arrivedAfter_8 rfl rfl)) <|
  z_ac (j := 6) rfl (z_eI (sp_getf (C := RX8) (T := TX8) (Nf := 11) dX8_arrivedAfter_9 rfl inX8 (by decide) wf_471 rfl)) <|
  z_ac (j := 7) rfl (z_cV dX8_arrivedAfter_12 wl_911 qX7_copyFrom (by decide +kernel) ⟨_, _, rfl⟩ (z_sn rfl rfl) rfl) <|
  z_ac (j := 8) rfl (z_eI (sp_aload_n (q := 0) dX8_arrivedAfter_15 rfl rfl)) <|
  z_ac (j := 9) rfl (z_eI (sp_getf (C := RX8) (T := TX8) (Nf := 11) dX8_arrivedAfter_16 rfl inX8 (by decide) wf_477 rfl)) <|
  z_ac (j := 10) rfl (z_eI (sp_aload_n (q := 0) dX8_arrivedAfter_19 rfl rfl)) <|
  z_ac (j := 11) rfl (z_eI (sp_getf (C := RX8) (T := TX8) (Nf := 11) dX8_arrivedAfter_20 rfl inX8 (by decide) wf_472 rfl)) <|
  z_ac (j := 12) rfl (z_eI (sp_iload_n (q := 1) dX8_arrivedAfter_23 rfl rfl)) <|
  z_ac (j := 13) rfl (z_cV dX8_arrivedAfter_24 wl_680 qX4_run (by decide +kernel) ⟨_, _, rfl⟩ (z_sn rfl rfl) rfl) <|
  z_ac (j := 14) rfl (z_eI (sp_aload_n (q := 0) dX8_arrivedAfter_27 rfl rfl)) <|
  z_ac (j := 15) rfl (z_eI (sp_getf (C := RX8) (T := TX8) (Nf := 11) dX8_arrivedAfter_28 rfl inX8 (by decide) wf_472 rfl)) <|
  z_ac (j := 16) rfl (z_eI (sp_getf (C := RX7) (T := TX7) (Nf := 6) dX8_arrivedAfter_31 rfl inX7 (by decide) wf_196 rfl)) <|
  z_ac (j := 17) rfl (z_eI (sp_iconst dX8_arrivedAfter_34 (by decide +kernel) rfl)) <|
  z_ac (j := 18) rfl (z_cV dX8_arrivedAfter_35 wl_676 qX6_countIn (by decide +kernel) ⟨_, _, rfl⟩ (z_sn rfl rfl) rfl) <|
  z_ac (j := 19) rfl (z_eR (sr_int dX8_arrivedAfter_38 rfl)) <| z_an
theorem dX8_sunkAfter_0 : decode cX8_sunkAfter 0 = .ok (.iload_n 1, 1) := by decide +kernel
theorem dX8_sunkAfter_1 : decode cX8_sunkAfter 1 = .ok (.invokestatic 266, 3) := by decide +kernel
theorem dX8_sunkAfter_4 : decode cX8_sunkAfter 4 = .ok (.aload_n 0, 1) := by decide +kernel
theorem dX8_sunkAfter_5 : decode cX8_sunkAfter 5 = .ok (.getfield 16, 3) := by decide +kernel
theorem dX8_sunkAfter_8 : decode cX8_sunkAfter 8 = .ok (.aload_n 0, 1) := by decide +kernel
theorem dX8_sunkAfter_9 : decode cX8_sunkAfter 9 = .ok (.getfield 12, 3) := by decide +kernel
theorem dX8_sunkAfter_12 : decode cX8_sunkAfter 12 = .ok (.invokevirtual 99, 3) := by decide +kernel
theorem dX8_sunkAfter_15 : decode cX8_sunkAfter 15 = .ok (.aload_n 0, 1) := by decide +kernel
theorem dX8_sunkAfter_16 : decode cX8_sunkAfter 16 = .ok (.getfield 44, 3) := by decide +kernel
theorem dX8_sunkAfter_19 : decode cX8_sunkAfter 19 = .ok (.aload_n 0, 1) := by decide +kernel
theorem dX8_sunkAfter_20 : decode cX8_sunkAfter 20 = .ok (.getfield 16, 3) := by decide +kernel
theorem dX8_sunkAfter_23 : decode cX8_sunkAfter 23 = .ok (.iload_n 1, 1) := by decide +kernel
theorem dX8_sunkAfter_24 : decode cX8_sunkAfter 24 = .ok (.invokevirtual 257, 3) := by decide +kernel
theorem dX8_sunkAfter_27 : decode cX8_sunkAfter 27 = .ok (.aload_n 0, 1) := by decide +kernel
theorem dX8_sunkAfter_28 : decode cX8_sunkAfter 28 = .ok (.getfield 16, 3) := by decide +kernel
theorem dX8_sunkAfter_31 : decode cX8_sunkAfter 31 = .ok (.getfield 106, 3) := by decide +kernel
theorem dX8_sunkAfter_34 : decode cX8_sunkAfter 34 = .ok (.iconst 2, 1) := by decide +kernel
theorem dX8_sunkAfter_35 : decode cX8_sunkAfter 35 = .ok (.invokevirtual 248, 3) := by decide +kernel
theorem dX8_sunkAfter_38 : decode cX8_sunkAfter 38 = .ok (.ireturn, 1) := by decide +kernel
theorem tX8_sunkAfter {L : Nat} {xs : Nat → Int32} {N : Nat} : z_AllE (zE L xs N 249) 0 (kX8_sunkAfter N) :=
  z_ac (j := 1) rfl (z_eI (sp_iload_n (q := 1) dX8_sunkAfter_0 rfl rfl)) <|
  z_ac (j := 2) rfl (z_cS dX8_sunkAfter_1 wl_1093 qX8_requireFuture (by decide +kernel) (z_sn rfl rfl) rfl) <|
  z_ac (j := 3) rfl (z_eI (sp_aload_n (q := 0) dX8_sunkAfter_4 rfl rfl)) <|
  z_ac (j := 4) rfl (z_eI (sp_getf (C := RX8) (T := TX8) (Nf := 11) dX8_sunkAfter_5 rfl inX8 (by decide) wf_472 rfl)) <|
  z_ac (j := 5) rfl (z_eI (sp_aload_n (q := 0) dX8_sunkAfter_8 rfl rfl)) <|
  z_ac (j := 6) rfl (z_eI (sp_getf (C := RX8) (T := TX8) (Nf := 11) dX8_sunkAfter_9 rfl inX8 (by decide) wf_471 rfl)) <|
  z_ac (j := 7) rfl (z_cV dX8_sunkAfter_12 wl_911 qX7_copyFrom (by decide +kernel) ⟨_, _, rfl⟩ (z_sn rfl rfl) rfl) <|
  z_ac (j := 8) rfl (z_eI (sp_aload_n (q := 0) dX8_sunkAfter_15 rfl rfl)) <|
  z_ac (j := 9) rfl (z_eI (sp_getf (C := RX8) (T := TX8) (Nf := 11) dX8_sunkAfter_16 rfl inX8 (by decide) wf_477 rfl)) <|
  z_ac (j := 10) rfl (z_eI (sp_aload_n (q := 0) dX8_sunkAfter_19 rfl rfl)) <|
  z_ac (j := 11) rfl (z_eI (sp_getf (C := RX8) (T := TX8) (Nf := 11) dX8_sunkAfter_20 rfl inX8 (by decide) wf_472 rfl)) <|
  z_ac (j := 12) rfl (z_eI (sp_iload_n (q := 1) dX8_sunkAfter_23 rfl rfl)) <|
  z_ac (j := 13) rfl (z_cV dX8_sunkAfter_24 wl_680 qX4_run (by decide +kernel) ⟨_, _, rfl⟩ (z_sn rfl rfl) rfl) <|
  z_ac (j := 14) rfl (z_eI (sp_aload_n (q := 0) dX8_sunkAfter_27 rfl rfl)) <|
  z_ac (j := 15) rfl (z_eI (sp_getf (C := RX8) (T := TX8) (Nf := 11) dX8_sunkAfter_28 rfl inX8 (by decide) wf_472 rfl)) <|
  z_ac (j := 16) rfl (z_eI (sp_getf (C := RX7) (T := TX7) (Nf := 6) dX8_sunkAfter_31 rfl inX7 (by decide) wf_196 rfl)) <|
  z_ac (j := 17) rfl (z_eI (sp_iconst dX8_sunkAfter_34 (by decide +kernel) rfl)) <|
  z_ac (j := 18) rfl (z_cV dX8_sunkAfter_35 wl_676 qX6_countIn (by decide +kernel) ⟨_, _, rfl⟩ (z_sn rfl rfl) rfl) <|
  z_ac (j := 19) rfl (z_eR (sr_int dX8_sunkAfter_38 rfl)) <| z_an
theorem dX8_bestClearness_0 : decode cX8_bestClearness 0 = .ok (.iconst 0, 1) := by decide +kernel
theorem dX8_bestClearness_1 : decode cX8_bestClearness 1 = .ok (.istore_n 1, 1) := by decide +kernel
theorem dX8_bestClearness_2 : decode cX8_bestClearness 2 = .ok (.iconst (-1), 1) := by decide +kernel
theorem dX8_bestClearness_3 : decode cX8_bestClearness 3 = .ok (.istore_n 2, 1) := by decide +kernel
theorem dX8_bestClearness_4 : decode cX8_bestClearness 4 = .ok (.iconst 0, 1) := by decide +kernel
theorem dX8_bestClearness_5 : decode cX8_bestClearness 5 = .ok (.istore_n 3, 1) := by decide +kernel
theorem dX8_bestClearness_6 : decode cX8_bestClearness 6 = .ok (.iload_n 3, 1) := by decide +kernel
theorem dX8_bestClearness_7 : decode cX8_bestClearness 7 = .ok (.bipush 20, 2) := by decide +kernel
theorem dX8_bestClearness_9 : decode cX8_bestClearness 9 = .ok (.if_icmp .gt 66, 3) := by decide +kernel
theorem dX8_bestClearness_12 : decode cX8_bestClearness 12 = .ok (.aload_n 0, 1) := by decide +kernel
theorem dX8_bestClearness_13 : decode cX8_bestClearness 13 = .ok (.getfield 16, 3) := by decide +kernel
theorem dX8_bestClearness_16 : decode cX8_bestClearness 16 = .ok (.aload_n 0, 1) := by decide +kernel
theorem dX8_bestClearness_17 : decode cX8_bestClearness 17 = .ok (.getfield 12, 3) := by decide +kernel
theorem dX8_bestClearness_20 : decode cX8_bestClearness 20 = .ok (.invokevirtual 99, 3) := by decide +kernel
theorem dX8_bestClearness_23 : decode cX8_bestClearness 23 = .ok (.aload_n 0, 1) := by decide +kernel
theorem dX8_bestClearness_24 : decode cX8_bestClearness 24 = .ok (.getfield 16, 3) := by decide +kernel
theorem dX8_bestClearness_27 : decode cX8_bestClearness 27 = .ok (.iload_n 3, 1) := by decide +kernel
theorem dX8_bestClearness_28 : decode cX8_bestClearness 28 = .ok (.putfield 168, 3) := by decide +kernel
theorem dX8_bestClearness_31 : decode cX8_bestClearness 31 = .ok (.aload_n 0, 1) := by decide +kernel
theorem dX8_bestClearness_32 : decode cX8_bestClearness 32 = .ok (.getfield 44, 3) := by decide +kernel
theorem dX8_bestClearness_35 : decode cX8_bestClearness 35 = .ok (.aload_n 0, 1) := by decide +kernel
theorem dX8_bestClearness_36 : decode cX8_bestClearness 36 = .ok (.getfield 16, 3) := by decide +kernel
theorem dX8_bestClearness_39 : decode cX8_bestClearness 39 = .ok (.sipush 300, 3) := by decide +kernel
theorem dX8_bestClearness_42 : decode cX8_bestClearness 42 = .ok (.invokevirtual 257, 3) := by decide +kernel
theorem dX8_bestClearness_45 : decode cX8_bestClearness 45 = .ok (.aload_n 0, 1) := by decide +kernel
theorem dX8_bestClearness_46 : decode cX8_bestClearness 46 = .ok (.getfield 16, 3) := by decide +kernel
theorem dX8_bestClearness_49 : decode cX8_bestClearness 49 = .ok (.getfield 106, 3) := by decide +kernel
theorem dX8_bestClearness_52 : decode cX8_bestClearness 52 = .ok (.iconst 1, 1) := by decide +kernel
theorem dX8_bestClearness_53 : decode cX8_bestClearness 53 = .ok (.invokevirtual 248, 3) := by decide +kernel
theorem dX8_bestClearness_56 : decode cX8_bestClearness 56 = .ok (.istore 4, 2) := by decide +kernel
theorem dX8_bestClearness_58 : decode cX8_bestClearness 58 = .ok (.iload 4, 2) := by decide +kernel
theorem dX8_bestClearness_60 : decode cX8_bestClearness 60 = .ok (.iload_n 2, 1) := by decide +kernel
theorem dX8_bestClearness_61 : decode cX8_bestClearness 61 = .ok (.if_icmp .le 8, 3) := by decide +kernel
theorem dX8_bestClearness_64 : decode cX8_bestClearness 64 = .ok (.iload 4, 2) := by decide +kernel
theorem dX8_bestClearness_66 : decode cX8_bestClearness 66 = .ok (.istore_n 2, 1) := by decide +kernel
theorem dX8_bestClearness_67 : decode cX8_bestClearness 67 = .ok (.iload_n 3, 1) := by decide +kernel
theorem dX8_bestClearness_68 : decode cX8_bestClearness 68 = .ok (.istore_n 1, 1) := by decide +kernel
theorem dX8_bestClearness_69 : decode cX8_bestClearness 69 = .ok (.iinc 3 1, 3) := by decide +kernel
theorem dX8_bestClearness_72 : decode cX8_bestClearness 72 = .ok (.goto (-66), 3) := by decide +kernel
theorem dX8_bestClearness_75 : decode cX8_bestClearness 75 = .ok (.iload_n 1, 1) := by decide +kernel
theorem dX8_bestClearness_76 : decode cX8_bestClearness 76 = .ok (.ireturn, 1) := by decide +kernel
theorem tX8_bestClearness {L : Nat} {xs : Nat → Int32} {N : Nat} : z_AllE (zE L xs N 250) 0 (kX8_bestClearness N) :=
  z_ac (j := 1) rfl (z_eI (sp_iconst dX8_bestClearness_0 (by decide +kernel) rfl)) <|
  z_ac (j := 2) rfl (z_eI (sp_istore_n (q := 1) dX8_bestClearness_1 rfl (by decide) (fun _ _ => rfl) rfl)) <|
  z_ac (j := 3) rfl (z_eI (sp_iconst dX8_bestClearness_2 (by decide +kernel) rfl)) <|
  z_ac (j := 4) rfl (z_eI (sp_istore_n (q := 2) dX8_bestClearness_3 rfl (by decide) (fun _ _ => rfl) rfl)) <|
  z_ac (j := 5) rfl (z_eI (sp_iconst dX8_bestClearness_4 (by decide +kernel) rfl)) <|
  z_ac (j := 6) rfl (z_eI (sp_istore_n (q := 3) dX8_bestClearness_5 rfl (by decide) (fun _ _ => rfl) rfl)) <|
  z_ac (j := 7) rfl (z_eI (sp_iload_n (q := 3) dX8_bestClearness_6 rfl rfl)) <|
  z_ac (j := 8) rfl (z_eI (sp_bipush dX8_bestClearness_7 (by decide +kernel) rfl)) <|
  z_ac (j := 9) rfl (z_eI (sp_icmp_gt dX8_bestClearness_9 rfl rfl)) <|
  z_ac (j := 10) rfl (z_eI (sp_aload_n (q := 0) dX8_bestClearness_12 rfl rfl)) <|
  z_ac (j := 11) rfl (z_eI (sp_getf (C := RX8) (T := TX8) (Nf := 11) dX8_bestClearness_13 rfl inX8 (by decide) wf_472 rfl)) <|
  z_ac (j := 12) rfl (z_eI (sp_aload_n (q := 0) dX8_bestClearness_16 rfl rfl)) <|
  z_ac (j := 13) rfl (z_eI (sp_getf (C := RX8) (T := TX8) (Nf := 11) dX8_bestClearness_17 rfl inX8 (by decide) wf_471 rfl)) <|
  z_ac (j := 14) rfl (z_cV dX8_bestClearness_20 wl_911 qX7_copyFrom (by decide +kernel) ⟨_, _, rfl⟩ (z_sn rfl rfl) rfl) <|
  z_ac (j := 15) rfl (z_eI (sp_aload_n (q := 0) dX8_bestClearness_23 rfl rfl)) <|
  z_ac (j := 16) rfl (z_eI (sp_getf (C := RX8) (T := TX8) (Nf := 11) dX8_bestClearness_24 rfl inX8 (by decide) wf_472 rfl)) <|
  z_ac (j := 17) rfl (z_eI (sp_iload_n (q := 3) dX8_bestClearness_27 rfl rfl)) <|
  z_ac (j := 18) rfl (z_eI (sp_putI (C := RX7) (T := TX7) (Nf := 6) dX8_bestClearness_28 rfl inX7 tyX7_ok nmX7 (by decide) wf_203 rfl (by decide +kernel) rfl)) <|
  z_ac (j := 19) rfl (z_eI (sp_aload_n (q := 0) dX8_bestClearness_31 rfl rfl)) <|
  z_ac (j := 20) rfl (z_eI (sp_getf (C := RX8) (T := TX8) (Nf := 11) dX8_bestClearness_32 rfl inX8 (by decide) wf_477 rfl)) <|
  z_ac (j := 21) rfl (z_eI (sp_aload_n (q := 0) dX8_bestClearness_35 rfl rfl)) <|
  z_ac (j := 22) rfl (z_eI (sp_getf (C := RX8) (T := TX8) (Nf := 11) dX8_bestClearness_36 rfl inX8 (by decide) wf_472 rfl)) <|
  z_ac (j := 23) rfl (z_eI (sp_sipush dX8_bestClearness_39 (by decide +kernel) rfl)) <|
  z_ac (j := 24) rfl (z_cV dX8_bestClearness_42 wl_680 qX4_run (by decide +kernel) ⟨_, _, rfl⟩ (z_sn rfl rfl) rfl) <|
  z_ac (j := 25) rfl (z_eI (sp_aload_n (q := 0) dX8_bestClearness_45 rfl rfl)) <|
  z_ac (j := 26) rfl (z_eI (sp_getf (C := RX8) (T := TX8) (Nf := 11) dX8_bestClearness_46 rfl inX8 (by decide) wf_472 rfl)) <|
  z_ac (j := 27) rfl (z_eI (sp_getf (C := RX7) (T := TX7) (Nf := 6) dX8_bestClearness_49 rfl inX7 (by decide) wf_196 rfl)) <|
  z_ac (j := 28) rfl (z_eI (sp_iconst dX8_bestClearness_52 (by decide +kernel) rfl)) <|
  z_ac (j := 29) rfl (z_cV dX8_bestClearness_53 wl_676 qX6_countIn (by decide +kernel) ⟨_, _, rfl⟩ (z_sn rfl rfl) rfl) <|
  z_ac (j := 30) rfl (z_eI (sp_istore dX8_bestClearness_56 (by decide) (fun _ _ => rfl) rfl)) <|
  z_ac (j := 31) rfl (z_eI (sp_iload dX8_bestClearness_58 rfl)) <|
  z_ac (j := 32) rfl (z_eI (sp_iload_n (q := 2) dX8_bestClearness_60 rfl rfl)) <|
  z_ac (j := 33) rfl (z_eI (sp_icmp_le dX8_bestClearness_61 rfl rfl)) <|
  z_ac (j := 34) rfl (z_eI (sp_iload dX8_bestClearness_64 rfl)) <|
  z_ac (j := 35) rfl (z_eI (sp_istore_n (q := 2) dX8_bestClearness_66 rfl (by decide) (fun _ _ => rfl) rfl)) <|
  z_ac (j := 36) rfl (z_eI (sp_iload_n (q := 3) dX8_bestClearness_67 rfl rfl)) <|
  z_ac (j := 37) rfl (z_eI (sp_istore_n (q := 1) dX8_bestClearness_68 rfl (by decide) (fun _ _ => rfl) rfl)) <|
  z_ac (j := 38) rfl (z_eI (sp_iinc dX8_bestClearness_69 (by decide +kernel) (by decide) (fun _ _ => rfl) rfl)) <|
  z_ac (j := 39) rfl (z_eI (sp_goto dX8_bestClearness_72 rfl)) <|
  z_ac (j := 40) rfl (z_eI (sp_iload_n (q := 1) dX8_bestClearness_75 rfl rfl)) <|
  z_ac (j := 41) rfl (z_eR (sr_int dX8_bestClearness_76 rfl)) <| z_an
