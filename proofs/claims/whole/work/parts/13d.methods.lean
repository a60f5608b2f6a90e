/-! Each entry of the tables is sound (printed by wip/whole/gen12.py). -/
theorem dX9_nearestLight_0 : decode cX9_nearestLight 0 = .ok (.aload_n 0, 1) := by decide +kernel
theorem dX9_nearestLight_1 : decode cX9_nearestLight 1 = .ok (.iconst 0, 1) := by decide +kernel
theorem dX9_nearestLight_2 : decode cX9_nearestLight 2 = .ok (.putfield 49, 3) := by decide +kernel
theorem dX9_nearestLight_5 : decode cX9_nearestLight 5 = .ok (.aload_n 0, 1) := by decide +kernel
theorem dX9_nearestLight_6 : decode cX9_nearestLight 6 = .ok (.iload_n 1, 1) := by decide +kernel
theorem dX9_nearestLight_7 : decode cX9_nearestLight 7 = .ok (.invokevirtual 298, 3) := by decide +kernel
theorem dX9_nearestLight_10 : decode cX9_nearestLight 10 = .ok (.ifCond .ne 9, 3) := by decide +kernel
theorem dX9_nearestLight_13 : decode cX9_nearestLight 13 = .ok (.aload_n 0, 1) := by decide +kernel
theorem dX9_nearestLight_14 : decode cX9_nearestLight 14 = .ok (.iconst 1, 1) := by decide +kernel
theorem dX9_nearestLight_15 : decode cX9_nearestLight 15 = .ok (.invokevirtual 167, 3) := by decide +kernel
theorem dX9_nearestLight_18 : decode cX9_nearestLight 18 = .ok (.ireturn, 1) := by decide +kernel
theorem dX9_nearestLight_19 : decode cX9_nearestLight 19 = .ok (.aload_n 0, 1) := by decide +kernel
theorem dX9_nearestLight_20 : decode cX9_nearestLight 20 = .ok (.getfield 7, 3) := by decide +kernel
theorem dX9_nearestLight_23 : decode cX9_nearestLight 23 = .ok (.iload_n 1, 1) := by decide +kernel
theorem dX9_nearestLight_24 : decode cX9_nearestLight 24 = .ok (.invokestatic 142, 3) := by decide +kernel
theorem dX9_nearestLight_27 : decode cX9_nearestLight 27 = .ok (.istore_n 2, 1) := by decide +kernel
theorem dX9_nearestLight_28 : decode cX9_nearestLight 28 = .ok (.iload_n 2, 1) := by decide +kernel
theorem dX9_nearestLight_29 : decode cX9_nearestLight 29 = .ok (.ifCond .ge 11, 3) := by decide +kernel
theorem dX9_nearestLight_32 : decode cX9_nearestLight 32 = .ok (.aload_n 0, 1) := by decide +kernel
theorem dX9_nearestLight_33 : decode cX9_nearestLight 33 = .ok (.iconst 2, 1) := by decide +kernel
theorem dX9_nearestLight_34 : decode cX9_nearestLight 34 = .ok (.invokevirtual 167, 3) := by decide +kernel
theorem dX9_nearestLight_37 : decode cX9_nearestLight 37 = .ok (.goto 4, 3) := by decide +kernel
theorem dX9_nearestLight_40 : decode cX9_nearestLight 40 = .ok (.iload_n 2, 1) := by decide +kernel
theorem dX9_nearestLight_41 : decode cX9_nearestLight 41 = .ok (.ireturn, 1) := by decide +kernel
theorem tX9_nearestLight {L : Nat} {xs : Nat → Int32} {N : Nat} : z_AllE (zE L xs N 105) 0 (kX9_nearestLight N) :=
  z_ac (j := 1) rfl (z_eI (sp_aload_n (q := 0) dX9_nearestLight_0 rfl rfl)) <|
  z_ac (j := 2) rfl (z_eI (sp_iconst dX9_nearestLight_1 (by decide +kernel) rfl)) <|
  z_ac (j := 3) rfl (z_eI (sp_putI (C := RX9) (T := TX9) (Nf := 23) dX9_nearestLight_2 rfl inX9 tyX9_ok nmX9 (by decide) wf_1356 rfl (by decide +kernel) rfl)) <|
  z_ac (j := 4) rfl (z_eI (sp_aload_n (q := 0) dX9_nearestLight_5 rfl rfl)) <|
  z_ac (j := 5) rfl (z_eI (sp_iload_n (q := 1) dX9_nearestLight_6 rfl rfl)) <|
  z_ac (j := 6) rfl (z_cV dX9_nearestLight_7 wl_1704 qX9_isWalker (by decide +kernel) ⟨_, _, rfl⟩ (z_sn rfl rfl) rfl) <|
  z_ac (j := 7) rfl (z_eI (sp_if_ne dX9_nearestLight_10 rfl rfl)) <|
  z_ac (j := 8) rfl (z_eI (sp_aload_n (q := 0) dX9_nearestLight_13 rfl rfl)) <|
  z_ac (j := 9) rfl (z_eI (sp_iconst dX9_nearestLight_14 (by decide +kernel) rfl)) <|
  z_ac (j := 10) rfl (z_cV dX9_nearestLight_15 wl_1424 qX9_fails (by decide +kernel) ⟨_, _, rfl⟩ (z_sn rfl rfl) rfl) <|
  z_ac (j := 11) rfl (z_eR (sr_int dX9_nearestLight_18 rfl)) <|
  z_ac (j := 12) rfl (z_eI (sp_aload_n (q := 0) dX9_nearestLight_19 rfl rfl)) <|
  z_ac (j := 13) rfl (z_eI (sp_getf (C := RX9) (T := TX9) (Nf := 23) dX9_nearestLight_20 rfl inX9 (by decide) wf_1346 rfl)) <|
  z_ac (j := 14) rfl (z_eI (sp_iload_n (q := 1) dX9_nearestLight_23 rfl rfl)) <|
  z_ac (j := 15) rfl (z_cS dX9_nearestLight_24 wl_1772 qX9_nearestOf (by decide +kernel) (z_sn rfl rfl) rfl) <|
  z_ac (j := 16) rfl (z_eI (sp_istore_n (q := 2) dX9_nearestLight_27 rfl (by decide) (fun _ _ => rfl) rfl)) <|
  z_ac (j := 17) rfl (z_eI (sp_iload_n (q := 2) dX9_nearestLight_28 rfl rfl)) <|
  z_ac (j := 18) rfl (z_eI (sp_if_ge dX9_nearestLight_29 rfl rfl)) <|
  z_ac (j := 19) rfl (z_eI (sp_aload_n (q := 0) dX9_nearestLight_32 rfl rfl)) <|
  z_ac (j := 20) rfl (z_eI (sp_iconst dX9_nearestLight_33 (by decide +kernel) rfl)) <|
  z_ac (j := 21) rfl (z_cV dX9_nearestLight_34 wl_1424 qX9_fails (by decide +kernel) ⟨_, _, rfl⟩ (z_sn rfl rfl) rfl) <|
  z_ac (j := 22) rfl (z_eI (sp_goto dX9_nearestLight_37 rfl)) <|
  z_ac (j := 23) rfl (z_eI (sp_iload_n (q := 2) dX9_nearestLight_40 rfl rfl)) <|
  z_ac (j := 24) rfl (z_eR (sr_int dX9_nearestLight_41 rfl)) <| z_an
theorem dX9_walkingCount_0 : decode cX9_walkingCount 0 = .ok (.aload_n 0, 1) := by decide +kernel
theorem dX9_walkingCount_1 : decode cX9_walkingCount 1 = .ok (.iconst 0, 1) := by decide +kernel
theorem dX9_walkingCount_2 : decode cX9_walkingCount 2 = .ok (.putfield 49, 3) := by decide +kernel
theorem dX9_walkingCount_5 : decode cX9_walkingCount 5 = .ok (.aload_n 0, 1) := by decide +kernel
theorem dX9_walkingCount_6 : decode cX9_walkingCount 6 = .ok (.getfield 7, 3) := by decide +kernel
theorem dX9_walkingCount_9 : decode cX9_walkingCount 9 = .ok (.iconst 0, 1) := by decide +kernel
theorem dX9_walkingCount_10 : decode cX9_walkingCount 10 = .ok (.invokestatic 310, 3) := by decide +kernel
theorem dX9_walkingCount_13 : decode cX9_walkingCount 13 = .ok (.ireturn, 1) := by decide +kernel
theorem tX9_walkingCount {L : Nat} {xs : Nat → Int32} {N : Nat} : z_AllE (zE L xs N 106) 0 (kX9_walkingCount N) :=
  z_ac (j := 1) rfl (z_eI (sp_aload_n (q := 0) dX9_walkingCount_0 rfl rfl)) <|
  z_ac (j := 2) rfl (z_eI (sp_iconst dX9_walkingCount_1 (by decide +kernel) rfl)) <|
  z_ac (j := 3) rfl (z_eI (sp_putI (C := RX9) (T := TX9) (Nf := 23) dX9_walkingCount_2 rfl inX9 tyX9_ok nmX9 (by decide) wf_1356 rfl (by decide +kernel) rfl)) <|
  z_ac (j := 4) rfl (z_eI (sp_aload_n (q := 0) dX9_walkingCount_5 rfl rfl)) <|
  z_ac (j := 5) rfl (z_eI (sp_getf (C := RX9) (T := TX9) (Nf := 23) dX9_walkingCount_6 rfl inX9 (by decide) wf_1346 rfl)) <|
  z_ac (j := 6) rfl (z_eI (sp_iconst dX9_walkingCount_9 (by decide +kernel) rfl)) <|
  z_ac (j := 7) rfl (z_cS dX9_walkingCount_10 wl_1782 qX9_countOf (by decide +kernel) (z_sn rfl rfl) rfl) <|
  z_ac (j := 8) rfl (z_eR (sr_int dX9_walkingCount_13 rfl)) <| z_an
theorem dX9_arrivedCount_0 : decode cX9_arrivedCount 0 = .ok (.aload_n 0, 1) := by decide +kernel
theorem dX9_arrivedCount_1 : decode cX9_arrivedCount 1 = .ok (.iconst 0, 1) := by decide +kernel
theorem dX9_arrivedCount_2 : decode cX9_arrivedCount 2 = .ok (.putfield 49, 3) := by decide +kernel
theorem dX9_arrivedCount_5 : decode cX9_arrivedCount 5 = .ok (.aload_n 0, 1) := by decide +kernel
theorem dX9_arrivedCount_6 : decode cX9_arrivedCount 6 = .ok (.getfield 7, 3) := by decide +kernel
theorem dX9_arrivedCount_9 : decode cX9_arrivedCount 9 = .ok (.iconst 1, 1) := by decide +kernel
theorem dX9_arrivedCount_10 : decode cX9_arrivedCount 10 = .ok (.invokestatic 310, 3) := by decide +kernel
theorem dX9_arrivedCount_13 : decode cX9_arrivedCount 13 = .ok (.ireturn, 1) := by decide +kernel
theorem tX9_arrivedCount {L : Nat} {xs : Nat → Int32} {N : Nat} : z_AllE (zE L xs N 107) 0 (kX9_arrivedCount N) :=
  z_ac (j := 1) rfl (z_eI (sp_aload_n (q := 0) dX9_arrivedCount_0 rfl rfl)) <|
  z_ac (j := 2) rfl (z_eI (sp_iconst dX9_arrivedCount_1 (by decide +kernel) rfl)) <|
  z_ac (j := 3) rfl (z_eI (sp_putI (C := RX9) (T := TX9) (Nf := 23) dX9_arrivedCount_2 rfl inX9 tyX9_ok nmX9 (by decide) wf_1356 rfl (by decide +kernel) rfl)) <|
  z_ac (j := 4) rfl (z_eI (sp_aload_n (q := 0) dX9_arrivedCount_5 rfl rfl)) <|
  z_ac (j := 5) rfl (z_eI (sp_getf (C := RX9) (T := TX9) (Nf := 23) dX9_arrivedCount_6 rfl inX9 (by decide) wf_1346 rfl)) <|
  z_ac (j := 6) rfl (z_eI (sp_iconst dX9_arrivedCount_9 (by decide +kernel) rfl)) <|
  z_ac (j := 7) rfl (z_cS dX9_arrivedCount_10 wl_1782 qX9_countOf (by decide +kernel) (z_sn rfl rfl) rfl) <|
  z_ac (j := 8) rfl (z_eR (sr_int dX9_arrivedCount_13 rfl)) <| z_an
theorem dX9_sunkCount_0 : decode cX9_sunkCount 0 = .ok (.aload_n 0, 1) := by decide +kernel
theorem dX9_sunkCount_1 : decode cX9_sunkCount 1 = .ok (.iconst 0, 1) := by decide +kernel
theorem dX9_sunkCount_2 : decode cX9_sunkCount 2 = .ok (.putfield 49, 3) := by decide +kernel
theorem dX9_sunkCount_5 : decode cX9_sunkCount 5 = .ok (.aload_n 0, 1) := by decide +kernel
theorem dX9_sunkCount_6 : decode cX9_sunkCount 6 = .ok (.getfield 7, 3) := by decide +kernel
theorem dX9_sunkCount_9 : decode cX9_sunkCount 9 = .ok (.iconst 2, 1) := by decide +kernel
theorem dX9_sunkCount_10 : decode cX9_sunkCount 10 = .ok (.invokestatic 310, 3) := by decide +kernel
theorem dX9_sunkCount_13 : decode cX9_sunkCount 13 = .ok (.ireturn, 1) := by decide +kernel
theorem tX9_sunkCount {L : Nat} {xs : Nat → Int32} {N : Nat} : z_AllE (zE L xs N 108) 0 (kX9_sunkCount N) :=
  z_ac (j := 1) rfl (z_eI (sp_aload_n (q := 0) dX9_sunkCount_0 rfl rfl)) <|
  z_ac (j := 2) rfl (z_eI (sp_iconst dX9_sunkCount_1 (by decide +kernel) rfl)) <|
  z_ac (j := 3) rfl (z_eI (sp_putI (C := RX9) (T := TX9) (Nf := 23) dX9_sunkCount_2 rfl inX9 tyX9_ok nmX9 (by decide) wf_1356 rfl (by decide +kernel) rfl)) <|
  z_ac (j := 4) rfl (z_eI (sp_aload_n (q := 0) dX9_sunkCount_5 rfl rfl)) <|
  z_ac (j := 5) rfl (z_eI (sp_getf (C := RX9) (T := TX9) (Nf := 23) dX9_sunkCount_6 rfl inX9 (by decide) wf_1346 rfl)) <|
  z_ac (j := 6) rfl (z_eI (sp_iconst dX9_sunkCount_9 (by decide +kernel) rfl)) <|
  z_ac (j := 7) rfl (z_cS dX9_sunkCount_10 wl_1782 qX9_countOf (by decide +kernel) (z_sn rfl rfl) rfl) <|
  z_ac (j := 8) rfl (z_eR (sr_int dX9_sunkCount_13 rfl)) <| z_an
theorem dX9_arrivedShare_0 : decode cX9_arrivedShare 0 = .ok (.aload_n 0, 1) := by decide +kernel
theorem dX9_arrivedShare_1 : decode cX9_arrivedShare 1 = .ok (.iconst 0, 1) := by decide +kernel
theorem dX9_arrivedShare_2 : decode cX9_arrivedShare 2 = .ok (.putfield 49, 3) := by decide +kernel
theorem dX9_arrivedShare_5 : decode cX9_arrivedShare 5 = .ok (.aload_n 0, 1) := by decide +kernel
theorem dX9_arrivedShare_6 : decode cX9_arrivedShare 6 = .ok (.getfield 7, 3) := by decide +kernel
theorem dX9_arrivedShare_9 : decode cX9_arrivedShare 9 = .ok (.iconst 5, 1) := by decide +kernel
theorem dX9_arrivedShare_10 : decode cX9_arrivedShare 10 = .ok (.iaload, 1) := by decide +kernel
theorem dX9_arrivedShare_11 : decode cX9_arrivedShare 11 = .ok (.ifCond .ne 7, 3) := by decide +kernel
theorem dX9_arrivedShare_14 : decode cX9_arrivedShare 14 = .ok (.fconst 0, 1) := by decide +kernel
theorem dX9_arrivedShare_15 : decode cX9_arrivedShare 15 = .ok (.goto 20, 3) := by decide +kernel
theorem dX9_arrivedShare_18 : decode cX9_arrivedShare 18 = .ok (.aload_n 0, 1) := by decide +kernel
theorem dX9_arrivedShare_19 : decode cX9_arrivedShare 19 = .ok (.getfield 7, 3) := by decide +kernel
theorem dX9_arrivedShare_22 : decode cX9_arrivedShare 22 = .ok (.iconst 1, 1) := by decide +kernel
theorem dX9_arrivedShare_23 : decode cX9_arrivedShare 23 = .ok (.invokestatic 310, 3) := by decide +kernel
theorem dX9_arrivedShare_26 : decode cX9_arrivedShare 26 = .ok (.i2f, 1) := by decide +kernel
theorem dX9_arrivedShare_27 : decode cX9_arrivedShare 27 = .ok (.aload_n 0, 1) := by decide +kernel
theorem dX9_arrivedShare_28 : decode cX9_arrivedShare 28 = .ok (.getfield 7, 3) := by decide +kernel
theorem dX9_arrivedShare_31 : decode cX9_arrivedShare 31 = .ok (.iconst 5, 1) := by decide +kernel
theorem dX9_arrivedShare_32 : decode cX9_arrivedShare 32 = .ok (.iaload, 1) := by decide +kernel
theorem dX9_arrivedShare_33 : decode cX9_arrivedShare 33 = .ok (.i2f, 1) := by decide +kernel
theorem dX9_arrivedShare_34 : decode cX9_arrivedShare 34 = .ok (.fdiv, 1) := by decide +kernel
theorem dX9_arrivedShare_35 : decode cX9_arrivedShare 35 = .ok (.freturn, 1) := by decide +kernel
theorem tX9_arrivedShare {L : Nat} {xs : Nat → Int32} {N : Nat} : z_AllE (zE L xs N 109) 0 (kX9_arrivedShare N) :=
  z_ac (j := 1) rfl (z_eI (sp_aload_n (q := 0) dX9_arrivedShare_0 rfl rfl)) <|
  z_ac (j := 2) rfl (z_eI (sp_iconst dX9_arrivedShare_1 (by decide +kernel) rfl)) <|
  z_ac (j := 3) rfl (z_eI (sp_putI (C := RX9) (T := TX9) (Nf := 23) dX9_arrivedShare_2 rfl inX9 tyX9_ok nmX9 (by decide) wf_1356 rfl (by decide +kernel) rfl)) <|
  z_ac (j := 4) rfl (z_eI (sp_aload_n (q := 0) dX9_arrivedShare_5 rfl rfl)) <|
  z_ac (j := 5) rfl (z_eI (sp_getf (C := RX9) (T := TX9) (Nf := 23) dX9_arrivedShare_6 rfl inX9 (by decide) wf_1346 rfl)) <|
  z_ac (j := 6) rfl (z_eI (sp_iconst dX9_arrivedShare_9 (by decide +kernel) rfl)) <|
  z_ac (j := 7) rfl (z_eI (sp_iald dX9_arrivedShare_10 rfl)) <|
  z_ac (j := 8) rfl (z_eI (sp_if_ne dX9_arrivedShare_11 rfl rfl)) <|
  z_ac (j := 9) rfl (z_eI (sp_fconst0 dX9_arrivedShare_14 rfl)) <|
  z_ac (j := 10) rfl (z_eI (sp_goto dX9_arrivedShare_15 rfl)) <|
  z_ac (j := 11) rfl (z_eI (sp_aload_n (q := 0) dX9_arrivedShare_18 rfl rfl)) <|
  z_ac (j := 12) rfl (z_eI (sp_getf (C := RX9) (T := TX9) (Nf := 23) dX9_arrivedShare_19 rfl inX9 (by decide) wf_1346 rfl)) <|
  z_ac (j := 13) rfl (z_eI (sp_iconst dX9_arrivedShare_22 (by decide +kernel) rfl)) <|
  z_ac (j := 14) rfl (z_cS dX9_arrivedShare_23 wl_1782 qX9_countOf (by decide +kernel) (z_sn rfl rfl) rfl) <|
  z_ac (j := 15) rfl (z_eI (sp_i2f dX9_arrivedShare_26 rfl)) <|
  z_ac (j := 16) rfl (z_eI (sp_aload_n (q := 0) dX9_arrivedShare_27 rfl rfl)) <|
  z_ac (j := 17) rfl (z_eI (sp_getf (C := RX9) (T := TX9) (Nf := 23) dX9_arrivedShare_28 rfl inX9 (by decide) wf_1346 rfl)) <|
  z_ac (j := 18) rfl (z_eI (sp_iconst dX9_arrivedShare_31 (by decide +kernel) rfl)) <|
  z_ac (j := 19) rfl (z_eI (sp_iald dX9_arrivedShare_32 rfl)) <|
  z_ac (j := 20) rfl (z_eI (sp_i2f dX9_arrivedShare_33 rfl)) <|
  z_ac (j := 21) rfl (z_eI (sp_fdiv dX9_arrivedShare_34 rfl)) <|
  z_ac (j := 22) rfl (z_eR (sr_float dX9_arrivedShare_35 rfl)) <| z_an
theorem dX9_meanSteps_0 : decode cX9_meanSteps 0 = .ok (.aload_n 0, 1) := by decide +kernel
theorem dX9_meanSteps_1 : decode cX9_meanSteps 1 = .ok (.iconst 0, 1) := by decide +kernel
theorem dX9_meanSteps_2 : decode cX9_meanSteps 2 = .ok (.putfield 49, 3) := by decide +kernel
theorem dX9_meanSteps_5 : decode cX9_meanSteps 5 = .ok (.iconst 0, 1) := by decide +kernel
theorem dX9_meanSteps_6 : decode cX9_meanSteps 6 = .ok (.istore_n 1, 1) := by decide +kernel
theorem dX9_meanSteps_7 : decode cX9_meanSteps 7 = .ok (.iconst 0, 1) := by decide +kernel
theorem dX9_meanSteps_8 : decode cX9_meanSteps 8 = .ok (.istore_n 2, 1) := by decide +kernel
theorem dX9_meanSteps_9 : decode cX9_meanSteps 9 = .ok (.iload_n 2, 1) := by decide +kernel
theorem dX9_meanSteps_10 : decode cX9_meanSteps 10 = .ok (.aload_n 0, 1) := by decide +kernel
theorem dX9_meanSteps_11 : decode cX9_meanSteps 11 = .ok (.getfield 7, 3) := by decide +kernel
theorem dX9_meanSteps_14 : decode cX9_meanSteps 14 = .ok (.iconst 5, 1) := by decide +kernel
theorem dX9_meanSteps_15 : decode cX9_meanSteps 15 = .ok (.iaload, 1) := by decide +kernel
theorem dX9_meanSteps_16 : decode cX9_meanSteps 16 = .ok (.if_icmp .ge 23, 3) := by decide +kernel
theorem dX9_meanSteps_19 : decode cX9_meanSteps 19 = .ok (.iload_n 1, 1) := by decide +kernel
theorem dX9_meanSteps_20 : decode cX9_meanSteps 20 = .ok (.aload_n 0, 1) := by decide +kernel
theorem dX9_meanSteps_21 : decode cX9_meanSteps 21 = .ok (.getfield 7, 3) := by decide +kernel
theorem dX9_meanSteps_24 : decode cX9_meanSteps 24 = .ok (.iload_n 2, 1) := by decide +kernel
theorem dX9_meanSteps_25 : decode cX9_meanSteps 25 = .ok (.bipush 6, 2) := by decide +kernel
theorem dX9_meanSteps_27 : decode cX9_meanSteps 27 = .ok (.invokestatic 95, 3) := by decide +kernel
theorem dX9_meanSteps_30 : decode cX9_meanSteps 30 = .ok (.iaload, 1) := by decide +kernel
theorem dX9_meanSteps_31 : decode cX9_meanSteps 31 = .ok (.iadd, 1) := by decide +kernel
theorem dX9_meanSteps_32 : decode cX9_meanSteps 32 = .ok (.istore_n 1, 1) := by decide +kernel
theorem dX9_meanSteps_33 : decode cX9_meanSteps 33 = .ok (.iinc 2 1, 3) := by decide +kernel
theorem dX9_meanSteps_36 : decode cX9_meanSteps 36 = .ok (.goto (-27), 3) := by decide +kernel
theorem dX9_meanSteps_39 : decode cX9_meanSteps 39 = .ok (.aload_n 0, 1) := by decide +kernel
theorem dX9_meanSteps_40 : decode cX9_meanSteps 40 = .ok (.getfield 7, 3) := by decide +kernel
theorem dX9_meanSteps_43 : decode cX9_meanSteps 43 = .ok (.iconst 5, 1) := by decide +kernel
theorem dX9_meanSteps_44 : decode cX9_meanSteps 44 = .ok (.iaload, 1) := by decide +kernel
theorem dX9_meanSteps_45 : decode cX9_meanSteps 45 = .ok (.ifCond .ne 7, 3) := by decide +kernel
theorem dX9_meanSteps_48 : decode cX9_meanSteps 48 = .ok (.dconst 0, 1) := by decide +kernel
theorem dX9_meanSteps_49 : decode cX9_meanSteps 49 = .ok (.goto 13, 3) := by decide +kernel
theorem dX9_meanSteps_52 : decode cX9_meanSteps 52 = .ok (.iload_n 1, 1) := by decide +kernel
theorem dX9_meanSteps_53 : decode cX9_meanSteps 53 = .ok (.i2d, 1) := by decide +kernel
theorem dX9_meanSteps_54 : decode cX9_meanSteps 54 = .ok (.aload_n 0, 1) := by decide +kernel
theorem dX9_meanSteps_55 : decode cX9_meanSteps 55 = .ok (.getfield 7, 3) := by decide +kernel
theorem dX9_meanSteps_58 : decode cX9_meanSteps 58 = .ok (.iconst 5, 1) := by decide +kernel
theorem dX9_meanSteps_59 : decode cX9_meanSteps 59 = .ok (.iaload, 1) := by decide +kernel
theorem dX9_meanSteps_60 : decode cX9_meanSteps 60 = .ok (.i2d, 1) := by decide +kernel
theorem dX9_meanSteps_61 : decode cX9_meanSteps 61 = .ok (.ddiv, 1) := by decide +kernel
theorem dX9_meanSteps_62 : decode cX9_meanSteps 62 = .ok (.dreturn, 1) := by decide +kernel
theorem tX9_meanSteps {L : Nat} {xs : Nat → Int32} {N : Nat} : z_AllE (zE L xs N 110) 0 (kX9_meanSteps N) :=
  z_ac (j := 1) rfl (z_eI (sp_aload_n (q := 0) dX9_meanSteps_0 rfl rfl)) <|
  z_ac (j := 2) rfl (z_eI (sp_iconst dX9_meanSteps_1 (by decide +kernel) rfl)) <|
  z_ac (j := 3) rfl (z_eI (sp_putI (C := RX9) (T := TX9) (Nf := 23) dX9_meanSteps_2 rfl inX9 tyX9_ok nmX9 (by decide) wf_1356 rfl (by decide +kernel) rfl)) <|
  z_ac (j := 4) rfl (z_eI (sp_iconst dX9_meanSteps_5 (by decide +kernel) rfl)) <|
  z_ac (j := 5) rfl (z_eI (sp_istore_n (q := 1) dX9_meanSteps_6 rfl (by decide) (fun _ _ => rfl) rfl)) <|
  z_ac (j := 6) rfl (z_eI (sp_iconst dX9_meanSteps_7 (by decide +kernel) rfl)) <|
  z_ac (j := 7) rfl (z_eI (sp_istore_n (q := 2) dX9_meanSteps_8 rfl (by decide) (fun _ _ => rfl) rfl)) <|
  z_ac (j := 8) rfl (z_eI (sp_iload_n (q := 2) dX9_meanSteps_9 rfl rfl)) <|
  z_ac (j := 9) rfl (z_eI (sp_aload_n (q := 0) dX9_meanSteps_10 rfl rfl)) <|
  z_ac (j := 10) rfl (z_eI (sp_getf (C := RX9) (T := TX9) (Nf := 23) dX9_meanSteps_11 rfl inX9 (by decide) wf_1346 rfl)) <|
  z_ac (j := 11) rfl (z_eI (sp_iconst dX9_meanSteps_14 (by decide +kernel) rfl)) <|
  z_ac (j := 12) rfl (z_eI (sp_iald dX9_meanSteps_15 rfl)) <|
  z_ac (j := 13) rfl (z_eI (sp_icmp_ge dX9_meanSteps_16 rfl rfl)) <|
  z_ac (j := 14) rfl (z_eI (sp_iload_n (q := 1) dX9_meanSteps_19 rfl rfl)) <|
  z_ac (j := 15) rfl (z_eI (sp_aload_n (q := 0) dX9_meanSteps_20 rfl rfl)) <|
  z_ac (j := 16) rfl (z_eI (sp_getf (C := RX9) (T := TX9) (Nf := 23) dX9_meanSteps_21 rfl inX9 (by decide) wf_1346 rfl)) <|
  z_ac (j := 17) rfl (z_eI (sp_iload_n (q := 2) dX9_meanSteps_24 rfl rfl)) <|
  z_ac (j := 18) rfl (z_eI (sp_bipush dX9_meanSteps_25 (by decide +kernel) rfl)) <|
  z_ac (j := 19) rfl (z_cS dX9_meanSteps_27 wl_1521 qX9_walkerAt (by decide +kernel) (z_sn rfl rfl) rfl) <|
  z_ac (j := 20) rfl (z_eI (sp_iald dX9_meanSteps_30 rfl)) <|
  z_ac (j := 21) rfl (z_eI (sp_iadd dX9_meanSteps_31 rfl)) <|
  z_ac (j := 22) rfl (z_eI (sp_istore_n (q := 1) dX9_meanSteps_32 rfl (by decide) (fun _ _ => rfl) rfl)) <|
  z_ac (j := 23) rfl (z_eI (sp_iinc dX9_meanSteps_33 (by decide +kernel) (by decide) (fun _ _ => rfl) rfl)) <|
  z_ac (j := 24) rfl (z_eI (sp_goto dX9_meanSteps_36 rfl)) <|
  z_ac (j := 25) rfl (z_eI (sp_aload_n (q := 0) dX9_meanSteps_39 rfl rfl)) <|
  z_ac (j := 26) rfl (z_eI (sp_getf (C := RX9) (T := TX9) (Nf := 23) dX9_meanSteps_40 rfl inX9 (by decide) wf_1346 rfl)) <|
  z_ac (j := 27) rfl (z_eI (sp_iconst dX9_meanSteps_43 (by decide +kernel) rfl)) <|
  z_ac (j := 28) rfl (z_eI (sp_iald dX9_meanSteps_44 rfl)) <|
  z_ac (j := 29) rfl (z_eI (sp_if_ne dX9_meanSteps_45 rfl rfl)) <|
  z_ac (j := 30) rfl (z_eI (sp_dconst0 dX9_meanSteps_48 rfl)) <|
  z_ac (j := 31) rfl (z_eI (sp_goto dX9_meanSteps_49 rfl)) <|
  z_ac (j := 32) rfl (z_eI (sp_iload_n (q := 1) dX9_meanSteps_52 rfl rfl)) <|
  z_ac (j := 33) rfl (z_eI (sp_i2d dX9_meanSteps_53 rfl)) <|
  z_ac (j := 34) rfl (z_eI (sp_aload_n (q := 0) dX9_meanSteps_54 rfl rfl)) <|
  z_ac (j := 35) rfl (z_eI (sp_getf (C := RX9) (T := TX9) (Nf := 23) dX9_meanSteps_55 rfl inX9 (by decide) wf_1346 rfl)) <|
  z_ac (j := 36) rfl (z_eI (sp_iconst dX9_meanSteps_58 (by decide +kernel) rfl)) <|
  z_ac (j := 37) rfl (z_eI (sp_iald dX9_meanSteps_59 rfl)) <|
  z_ac (j := 38) rfl (z_eI (sp_i2d dX9_meanSteps_60 rfl)) <|
  z_ac (j := 39) rfl (z_eI (sp_ddiv dX9_meanSteps_61 rfl)) <|
  z_ac (j := 40) rfl (z_eR (sr_double dX9_meanSteps_62 rfl)) <| z_an
theorem dX9_ticksUntilDone_0 : decode cX9_ticksUntilDone 0 = .ok (.aload_n 0, 1) := by decide +kernel
theorem dX9_ticksUntilDone_1 : decode cX9_ticksUntilDone 1 = .ok (.iconst 0, 1) := by decide +kernel
theorem dX9_ticksUntilDone_2 : decode cX9_ticksUntilDone 2 = .ok (.putfield 49, 3) := by decide +kernel
theorem dX9_ticksUntilDone_5 : decode cX9_ticksUntilDone 5 = .ok (.aload_n 0, 1) := by decide +kernel
theorem dX9_ticksUntilDone_6 : decode cX9_ticksUntilDone 6 = .ok (.iload_n 1, 1) := by decide +kernel
theorem dX9_ticksUntilDone_7 : decode cX9_ticksUntilDone 7 = .ok (.invokevirtual 298, 3) := by decide +kernel
theorem dX9_ticksUntilDone_10 : decode cX9_ticksUntilDone 10 = .ok (.ifCond .ne 9, 3) := by decide +kernel
theorem dX9_ticksUntilDone_13 : decode cX9_ticksUntilDone 13 = .ok (.aload_n 0, 1) := by decide +kernel
theorem dX9_ticksUntilDone_14 : decode cX9_ticksUntilDone 14 = .ok (.iconst 1, 1) := by decide +kernel
theorem dX9_ticksUntilDone_15 : decode cX9_ticksUntilDone 15 = .ok (.invokevirtual 167, 3) := by decide +kernel
theorem dX9_ticksUntilDone_18 : decode cX9_ticksUntilDone 18 = .ok (.ireturn, 1) := by decide +kernel
theorem dX9_ticksUntilDone_19 : decode cX9_ticksUntilDone 19 = .ok (.aload_n 0, 1) := by decide +kernel
theorem dX9_ticksUntilDone_20 : decode cX9_ticksUntilDone 20 = .ok (.getfield 7, 3) := by decide +kernel
theorem dX9_ticksUntilDone_23 : decode cX9_ticksUntilDone 23 = .ok (.iload_n 1, 1) := by decide +kernel
theorem dX9_ticksUntilDone_24 : decode cX9_ticksUntilDone 24 = .ok (.iconst 2, 1) := by decide +kernel
theorem dX9_ticksUntilDone_25 : decode cX9_ticksUntilDone 25 = .ok (.invokestatic 95, 3) := by decide +kernel
theorem dX9_ticksUntilDone_28 : decode cX9_ticksUntilDone 28 = .ok (.iaload, 1) := by decide +kernel
theorem dX9_ticksUntilDone_29 : decode cX9_ticksUntilDone 29 = .ok (.ifCond .eq 9, 3) := by decide +kernel
theorem dX9_ticksUntilDone_32 : decode cX9_ticksUntilDone 32 = .ok (.aload_n 0, 1) := by decide +kernel
theorem dX9_ticksUntilDone_33 : decode cX9_ticksUntilDone 33 = .ok (.iconst 2, 1) := by decide +kernel
theorem dX9_ticksUntilDone_34 : decode cX9_ticksUntilDone 34 = .ok (.invokevirtual 167, 3) := by decide +kernel
theorem dX9_ticksUntilDone_37 : decode cX9_ticksUntilDone 37 = .ok (.ireturn, 1) := by decide +kernel
theorem dX9_ticksUntilDone_38 : decode cX9_ticksUntilDone 38 = .ok (.aload_n 0, 1) := by decide +kernel
theorem dX9_ticksUntilDone_39 : decode cX9_ticksUntilDone 39 = .ok (.invokevirtual 313, 3) := by decide +kernel
theorem dX9_ticksUntilDone_42 : decode cX9_ticksUntilDone 42 = .ok (.iconst 1, 1) := by decide +kernel
theorem dX9_ticksUntilDone_43 : decode cX9_ticksUntilDone 43 = .ok (.istore_n 2, 1) := by decide +kernel
theorem dX9_ticksUntilDone_44 : decode cX9_ticksUntilDone 44 = .ok (.iload_n 2, 1) := by decide +kernel
theorem dX9_ticksUntilDone_45 : decode cX9_ticksUntilDone 45 = .ok (.sipush 300, 3) := by decide +kernel
theorem dX9_ticksUntilDone_48 : decode cX9_ticksUntilDone 48 = .ok (.if_icmp .gt 32, 3) := by decide +kernel
theorem dX9_ticksUntilDone_51 : decode cX9_ticksUntilDone 51 = .ok (.aload_n 0, 1) := by decide +kernel
theorem dX9_ticksUntilDone_52 : decode cX9_ticksUntilDone 52 = .ok (.aload_n 0, 1) := by decide +kernel
theorem dX9_ticksUntilDone_53 : decode cX9_ticksUntilDone 53 = .ok (.getfield 16, 3) := by decide +kernel
theorem dX9_ticksUntilDone_56 : decode cX9_ticksUntilDone 56 = .ok (.invokevirtual 161, 3) := by decide +kernel
theorem dX9_ticksUntilDone_59 : decode cX9_ticksUntilDone 59 = .ok (.aload_n 0, 1) := by decide +kernel
theorem dX9_ticksUntilDone_60 : decode cX9_ticksUntilDone 60 = .ok (.getfield 16, 3) := by decide +kernel
theorem dX9_ticksUntilDone_63 : decode cX9_ticksUntilDone 63 = .ok (.iload_n 1, 1) := by decide +kernel
theorem dX9_ticksUntilDone_64 : decode cX9_ticksUntilDone 64 = .ok (.iconst 2, 1) := by decide +kernel
theorem dX9_ticksUntilDone_65 : decode cX9_ticksUntilDone 65 = .ok (.invokestatic 95, 3) := by decide +kernel
theorem dX9_ticksUntilDone_68 : decode cX9_ticksUntilDone 68 = .ok (.iaload, 1) := by decide +kernel
theorem dX9_ticksUntilDone_69 : decode cX9_ticksUntilDone 69 = .ok (.ifCond .eq 5, 3) := by decide +kernel
theorem dX9_ticksUntilDone_72 : decode cX9_ticksUntilDone 72 = .ok (.iload_n 2, 1) := by decide +kernel
theorem dX9_ticksUntilDone_73 : decode cX9_ticksUntilDone 73 = .ok (.ireturn, 1) := by decide +kernel
theorem dX9_ticksUntilDone_74 : decode cX9_ticksUntilDone 74 = .ok (.iinc 2 1, 3) := by decide +kernel
theorem dX9_ticksUntilDone_77 : decode cX9_ticksUntilDone 77 = .ok (.goto (-33), 3) := by decide +kernel
theorem dX9_ticksUntilDone_80 : decode cX9_ticksUntilDone 80 = .ok (.aload_n 0, 1) := by decide +kernel
theorem dX9_ticksUntilDone_81 : decode cX9_ticksUntilDone 81 = .ok (.iconst 3, 1) := by decide +kernel
theorem dX9_ticksUntilDone_82 : decode cX9_ticksUntilDone 82 = .ok (.invokevirtual 167, 3) := by decide +kernel
theorem dX9_ticksUntilDone_85 : decode cX9_ticksUntilDone 85 = .ok (.ireturn, 1) := by decide +kernel
theorem tX9_ticksUntilDone {L : Nat} {xs : Nat → Int32} {N : Nat} : z_AllE (zE L xs N 111) 0 (kX9_ticksUntilDone N) :=
  z_ac (j := 1) rfl (z_eI (sp_aload_n (q := 0) dX9_ticksUntilDone_0 rfl rfl)) <|
  z_ac (j := 2) rfl (z_eI (sp_iconst dX9_ticksUntilDone_1 (by decide +kernel) rfl)) <|
  z_ac (j := 3) rfl (z_eI (sp_putI (C := RX9) (T := TX9) (Nf := 23) dX9_ticksUntilDone_2 rfl inX9 tyX9_ok nmX9 (by decide) wf_1356 rfl (by decide +kernel) rfl)) <|
  z_ac (j := 4) rfl (z_eI (sp_aload_n (q := 0) dX9_ticksUntilDone_5 rfl rfl)) <|
  z_ac (j := 5) rfl (z_eI (sp_iload_n (q := 1) dX9_ticksUntilDone_6 rfl rfl)) <|
  z_ac (j := 6) rfl (z_cV dX9_ticksUntilDone_7 wl_1704 qX9_isWalker (by decide +kernel) ⟨_, _, rfl⟩ (z_sn rfl rfl) rfl) <|
  z_ac (j := 7) rfl (z_eI (sp_if_ne dX9_ticksUntilDone_10 rfl rfl)) <|
  z_ac (j := 8) rfl (z_eI (sp_aload_n (q := 0) dX9_ticksUntilDone_13 rfl rfl)) <|
  z_ac (j := 9) rfl (z_eI (sp_iconst dX9_ticksUntilDone_14 (by decide +kernel) rfl)) <|
  z_ac (j := 10) rfl (z_cV dX9_ticksUntilDone_15 wl_1424 qX9_fails (by decide +kernel) ⟨_, _, rfl⟩ (z_sn rfl rfl) rfl) <|
  z_ac (j := 11) rfl (z_eR (sr_int dX9_ticksUntilDone_18 rfl)) <|
  z_ac (j := 12) rfl (z_eI (sp_aload_n (q := 0) dX9_ticksUntilDone_19 rfl rfl)) <|
  z_ac (j := 13) rfl (z_eI (sp_getf (C := RX9) (T := TX9) (Nf := 23) dX9_ticksUntilDone_20 rfl inX9 (by decide) wf_1346 rfl)) <|
  z_ac (j := 14) rfl (z_eI (sp_iload_n (q := 1) dX9_ticksUntilDone_23 rfl rfl)) <|
  z_ac (j := 15) rfl (z_eI (sp_iconst dX9_ticksUntilDone_24 (by decide +kernel) rfl)) <|
  z_ac (j := 16) rfl (z_cS dX9_ticksUntilDone_25 wl_1521 qX9_walkerAt (by decide +kernel) (z_sn rfl rfl) rfl) <|
  z_ac (j := 17) rfl (z_eI (sp_iald dX9_ticksUntilDone_28 rfl)) <|
  z_ac (j := 18) rfl (z_eI (sp_if_eq dX9_ticksUntilDone_29 rfl rfl)) <|
  z_ac (j := 19) rfl (z_eI (sp_aload_n (q := 0) dX9_ticksUntilDone_32 rfl rfl)) <|
  z_ac (j := 20) rfl (z_eI (sp_iconst dX9_ticksUntilDone_33 (by decide +kernel) rfl)) <|
  z_ac (j := 21) rfl (z_cV dX9_ticksUntilDone_34 wl_1424 qX9_fails (by decide +kernel) ⟨_, _, rfl⟩ (z_sn rfl rfl) rfl) <|
  z_ac (j := 22) rfl (z_eR (sr_int dX9_ticksUntilDone_37 rfl)) <|
  z_ac (j := 23) rfl (z_eI (sp_aload_n (q := 0) dX9_ticksUntilDone_38 rfl rfl)) <|
  z_ac (j := 24) rfl (z_cV dX9_ticksUntilDone_39 wl_1805 qX9_takesSpare (by decide +kernel) ⟨_, _, rfl⟩ (z_sn rfl rfl) rfl) <|
  z_ac (j := 25) rfl (z_eI (sp_iconst dX9_ticksUntilDone_42 (by decide +kernel) rfl)) <|
  z_ac (j := 26) rfl (z_eI (sp_istore_n (q := 2) dX9_ticksUntilDone_43 rfl (by decide) (fun _ _ => rfl) rfl)) <|
  z_ac (j := 27) rfl (z_eI (sp_iload_n (q := 2) dX9_ticksUntilDone_44 rfl rfl)) <|
  z_ac (j := 28) rfl (z_eI (sp_sipush dX9_ticksUntilDone_45 (by decide +kernel) rfl)) <|
  z_ac (j := 29) rfl (z_eI (sp_icmp_gt dX9_ticksUntilDone_48 rfl rfl)) <|
  z_ac (j := 30) rfl (z_eI (sp_aload_n (q := 0) dX9_ticksUntilDone_51 rfl rfl)) <|
  z_ac (j := 31) rfl (z_eI (sp_aload_n (q := 0) dX9_ticksUntilDone_52 rfl rfl)) <|
  z_ac (j := 32) rfl (z_eI (sp_getf (C := RX9) (T := TX9) (Nf := 23) dX9_ticksUntilDone_53 rfl inX9 (by decide) wf_1348 rfl)) <|
  z_ac (j := 33) rfl (z_cV dX9_ticksUntilDone_56 wl_1809 qX9_ticks (by decide +kernel) ⟨_, _, rfl⟩ (z_sn rfl rfl) rfl) <|
  z_ac (j := 34) rfl (z_eI (sp_aload_n (q := 0) dX9_ticksUntilDone_59 rfl rfl)) <|
  z_ac (j := 35) rfl (z_eI (sp_getf (C := RX9) (T := TX9) (Nf := 23) dX9_ticksUntilDone_60 rfl inX9 (by decide) wf_1348 rfl)) <|
  z_ac (j := 36) rfl (z_eI (sp_iload_n (q := 1) dX9_ticksUntilDone_63 rfl rfl)) <|
  z_ac (j := 37) rfl (z_eI (sp_iconst dX9_ticksUntilDone_64 (by decide +kernel) rfl)) <|
  z_ac (j := 38) rfl (z_cS dX9_ticksUntilDone_65 wl_1521 qX9_walkerAt (by decide +kernel) (z_sn rfl rfl) rfl) <|
  z_ac (j := 39) rfl (z_eI (sp_iald dX9_ticksUntilDone_68 rfl)) <|
  z_ac (j := 40) rfl (z_eI (sp_if_eq dX9_ticksUntilDone_69 rfl rfl)) <|
  z_ac (j := 41) rfl (z_eI (sp_iload_n (q := 2) dX9_ticksUntilDone_72 rfl rfl)) <|
  z_ac (j := 42) rfl (z_eR (sr_int dX9_ticksUntilDone_73 rfl)) <|
  z_ac (j := 43) rfl (z_eI (sp_iinc dX9_ticksUntilDone_74 (by decide +kernel) (by decide) (fun _ _ => rfl) rfl)) <|
  z_ac (j := 44) rfl (z_eI (sp_goto dX9_ticksUntilDone_77 rfl)) <|
  z_ac (j := 45) rfl (z_eI (sp_aload_n (q := 0) dX9_ticksUntilDone_80 rfl rfl)) <|
  z_ac (j := 46) rfl (z_eI (sp_iconst dX9_ticksUntilDone_81 (by decide +kernel) rfl)) <|
  z_ac (j := 47) rfl (z_cV dX9_ticksUntilDone_82 wl_1424 qX9_fails (by decide +kernel) ⟨_, _, rfl⟩ (z_sn rfl rfl) rfl) <|
  z_ac (j := 48) rfl (z_eR (sr_int dX9_ticksUntilDone_85 rfl)) <| z_an
theorem dX9_willArrive_0 : decode cX9_willArrive 0 = .ok (.aload_n 0, 1) := by decide +kernel
theorem dX9_willArrive_1 : decode cX9_willArrive 1 = .ok (.iconst 0, 1) := by decide +kernel
theorem dX9_willArrive_2 : decode cX9_willArrive 2 = .ok (.putfield 49, 3) := by decide +kernel
theorem dX9_willArrive_5 : decode cX9_willArrive 5 = .ok (.aload_n 0, 1) := by decide +kernel
theorem dX9_willArrive_6 : decode cX9_willArrive 6 = .ok (.iload_n 1, 1) := by decide +kernel
theorem dX9_willArrive_7 : decode cX9_willArrive 7 = .ok (.invokevirtual 298, 3) := by decide +kernel
theorem dX9_willArrive_10 : decode cX9_willArrive 10 = .ok (.ifCond .ne 9, 3) := by decide +kernel
theorem dX9_willArrive_13 : decode cX9_willArrive 13 = .ok (.aload_n 0, 1) := by decide +kernel
theorem dX9_willArrive_14 : decode cX9_willArrive 14 = .ok (.iconst 1, 1) := by decide +kernel
theorem dX9_willArrive_15 : decode cX9_willArrive 15 = .ok (.invokevirtual 278, 3) := by decide +kernel
theorem dX9_willArrive_18 : decode cX9_willArrive 18 = .ok (.ireturn, 1) := by decide +kernel
theorem dX9_willArrive_19 : decode cX9_willArrive 19 = .ok (.aload_n 0, 1) := by decide +kernel
theorem dX9_willArrive_20 : decode cX9_willArrive 20 = .ok (.invokevirtual 313, 3) := by decide +kernel
theorem dX9_willArrive_23 : decode cX9_willArrive 23 = .ok (.aload_n 0, 1) := by decide +kernel
theorem dX9_willArrive_24 : decode cX9_willArrive 24 = .ok (.aload_n 0, 1) := by decide +kernel
theorem dX9_willArrive_25 : decode cX9_willArrive 25 = .ok (.getfield 16, 3) := by decide +kernel
theorem dX9_willArrive_28 : decode cX9_willArrive 28 = .ok (.sipush 300, 3) := by decide +kernel
theorem dX9_willArrive_31 : decode cX9_willArrive 31 = .ok (.invokevirtual 316, 3) := by decide +kernel
theorem dX9_willArrive_34 : decode cX9_willArrive 34 = .ok (.aload_n 0, 1) := by decide +kernel
theorem dX9_willArrive_35 : decode cX9_willArrive 35 = .ok (.getfield 16, 3) := by decide +kernel
theorem dX9_willArrive_38 : decode cX9_willArrive 38 = .ok (.iload_n 1, 1) := by decide +kernel
theorem dX9_willArrive_39 : decode cX9_willArrive 39 = .ok (.iconst 2, 1) := by decide +kernel
theorem dX9_willArrive_40 : decode cX9_willArrive 40 = .ok (.invokestatic 95, 3) := by decide +kernel
theorem dX9_willArrive_43 : decode cX9_willArrive 43 = .ok (.iaload, 1) := by decide +kernel
theorem dX9_willArrive_44 : decode cX9_willArrive 44 = .ok (.iconst 1, 1) := by decide +kernel
theorem dX9_willArrive_45 : decode cX9_willArrive 45 = .ok (.if_icmp .ne 7, 3) := by decide +kernel
theorem dX9_willArrive_48 : decode cX9_willArrive 48 = .ok (.iconst 1, 1) := by decide +kernel
theorem dX9_willArrive_49 : decode cX9_willArrive 49 = .ok (.goto 4, 3) := by decide +kernel
theorem dX9_willArrive_52 : decode cX9_willArrive 52 = .ok (.iconst 0, 1) := by decide +kernel
theorem dX9_willArrive_53 : decode cX9_willArrive 53 = .ok (.ireturn, 1) := by decide +kernel
theorem tX9_willArrive {L : Nat} {xs : Nat → Int32} {N : Nat} : z_AllE (zE L xs N 112) 0 (kX9_willArrive N) :=
  z_ac (j := 1) rfl (z_eI (sp_aload_n (q := 0) dX9_willArrive_0 rfl rfl)) <|
  z_ac (j := 2) rfl (z_eI (sp_iconst dX9_willArrive_1 (by decide +kernel) rfl)) <|
  z_ac (j := 3) rfl (z_eI (sp_putI (C := RX9) (T := TX9) (Nf := 23) dX9_willArrive_2 rfl inX9 tyX9_ok nmX9 (by decide) wf_1356 rfl (by decide +kernel) rfl)) <|
  z_ac (j := 4) rfl (z_eI (sp_aload_n (q := 0) dX9_willArrive_5 rfl rfl)) <|
  z_ac (j := 5) rfl (z_eI (sp_iload_n (q := 1) dX9_willArrive_6 rfl rfl)) <|
  z_ac (j := 6) rfl (z_cV dX9_willArrive_7 wl_1704 qX9_isWalker (by decide +kernel) ⟨_, _, rfl⟩ (z_sn rfl rfl) rfl) <|
  z_ac (j := 7) rfl (z_eI (sp_if_ne dX9_willArrive_10 rfl rfl)) <|
  z_ac (j := 8) rfl (z_eI (sp_aload_n (q := 0) dX9_willArrive_13 rfl rfl)) <|
  z_ac (j := 9) rfl (z_eI (sp_iconst dX9_willArrive_14 (by decide +kernel) rfl)) <|
  z_ac (j := 10) rfl (z_cV dX9_willArrive_15 wl_1554 qX9_isFailed (by decide +kernel) ⟨_, _, rfl⟩ (z_sn rfl rfl) rfl) <|
  z_ac (j := 11) rfl (z_eR (sr_bool dX9_willArrive_18 rfl)) <|
  z_ac (j := 12) rfl (z_eI (sp_aload_n (q := 0) dX9_willArrive_19 rfl rfl)) <|
  z_ac (j := 13) rfl (z_cV dX9_willArrive_20 wl_1805 qX9_takesSpare (by decide +kernel) ⟨_, _, rfl⟩ (z_sn rfl rfl) rfl) <|
  z_ac (j := 14) rfl (z_eI (sp_aload_n (q := 0) dX9_willArrive_23 rfl rfl)) <|
  z_ac (j := 15) rfl (z_eI (sp_aload_n (q := 0) dX9_willArrive_24 rfl rfl)) <|
  z_ac (j := 16) rfl (z_eI (sp_getf (C := RX9) (T := TX9) (Nf := 23) dX9_willArrive_25 rfl inX9 (by decide) wf_1348 rfl)) <|
  z_ac (j := 17) rfl (z_eI (sp_sipush dX9_willArrive_28 (by decide +kernel) rfl)) <|
  z_ac (j := 18) rfl (z_cV dX9_willArrive_31 wl_1843 qX9_ticksMany (by decide +kernel) ⟨_, _, rfl⟩ (z_sn rfl rfl) rfl) <|
  z_ac (j := 19) rfl (z_eI (sp_aload_n (q := 0) dX9_willArrive_34 rfl rfl)) <|
  z_ac (j := 20) rfl (z_eI (sp_getf (C := RX9) (T := TX9) (Nf := 23) dX9_willArrive_35 rfl inX9 (by decide) wf_1348 rfl)) <|
  z_ac (j := 21) rfl (z_eI (sp_iload_n (q := 1) dX9_willArrive_38 rfl rfl)) <|
  z_ac (j := 22) rfl (z_eI (sp_iconst dX9_willArrive_39 (by decide +kernel) rfl)) <|
  z_ac (j := 23) rfl (z_cS dX9_willArrive_40 wl_1521 qX9_walkerAt (by decide +kernel) (z_sn rfl rfl) rfl) <|
  z_ac (j := 24) rfl (z_eI (sp_iald dX9_willArrive_43 rfl)) <|
  z_ac (j := 25) rfl (z_eI (sp_iconst dX9_willArrive_44 (by decide +kernel) rfl)) <|
  z_ac (j := 26) rfl (z_eI (sp_icmp_ne dX9_willArrive_45 rfl rfl)) <|
  z_ac (j := 27) rfl (z_eI (sp_iconst dX9_willArrive_48 (by decide +kernel) rfl)) <|
  z_ac (j := 28) rfl (z_eI (sp_goto dX9_willArrive_49 rfl)) <|
  z_ac (j := 29) rfl (z_eI (sp_iconst dX9_willArrive_52 (by decide +kernel) rfl)) <|
  z_ac (j := 30) rfl (z_eR (sr_bool dX9_willArrive_53 rfl)) <| z_an
theorem dX9_countAfter_0 : decode cX9_countAfter 0 = .ok (.aload_n 0, 1) := by decide +kernel
theorem dX9_countAfter_1 : decode cX9_countAfter 1 = .ok (.iconst 0, 1) := by decide +kernel
theorem dX9_countAfter_2 : decode cX9_countAfter 2 = .ok (.putfield 49, 3) := by decide +kernel
theorem dX9_countAfter_5 : decode cX9_countAfter 5 = .ok (.iload_n 1, 1) := by decide +kernel
theorem dX9_countAfter_6 : decode cX9_countAfter 6 = .ok (.iconst 0, 1) := by decide +kernel
theorem dX9_countAfter_7 : decode cX9_countAfter 7 = .ok (.sipush 300, 3) := by decide +kernel
theorem dX9_countAfter_10 : decode cX9_countAfter 10 = .ok (.invokestatic 56, 3) := by decide +kernel
theorem dX9_countAfter_13 : decode cX9_countAfter 13 = .ok (.ifCond .ne 9, 3) := by decide +kernel
theorem dX9_countAfter_16 : decode cX9_countAfter 16 = .ok (.aload_n 0, 1) := by decide +kernel
theorem dX9_countAfter_17 : decode cX9_countAfter 17 = .ok (.iconst 1, 1) := by decide +kernel
theorem dX9_countAfter_18 : decode cX9_countAfter 18 = .ok (.invokevirtual 167, 3) := by decide +kernel
theorem dX9_countAfter_21 : decode cX9_countAfter 21 = .ok (.ireturn, 1) := by decide +kernel
theorem dX9_countAfter_22 : decode cX9_countAfter 22 = .ok (.aload_n 0, 1) := by decide +kernel
theorem dX9_countAfter_23 : decode cX9_countAfter 23 = .ok (.invokevirtual 313, 3) := by decide +kernel
theorem dX9_countAfter_26 : decode cX9_countAfter 26 = .ok (.aload_n 0, 1) := by decide +kernel
theorem dX9_countAfter_27 : decode cX9_countAfter 27 = .ok (.aload_n 0, 1) := by decide +kernel
theorem dX9_countAfter_28 : decode cX9_countAfter 28 = .ok (.getfield 16, 3) := by decide +kernel
theorem dX9_countAfter_31 : decode cX9_countAfter 31 = .ok (.iload_n 1, 1) := by decide +kernel
theorem dX9_countAfter_32 : decode cX9_countAfter 32 = .ok (.invokevirtual 316, 3) := by decide +kernel
theorem dX9_countAfter_35 : decode cX9_countAfter 35 = .ok (.aload_n 0, 1) := by decide +kernel
theorem dX9_countAfter_36 : decode cX9_countAfter 36 = .ok (.getfield 16, 3) := by decide +kernel
theorem dX9_countAfter_39 : decode cX9_countAfter 39 = .ok (.iload_n 2, 1) := by decide +kernel
theorem dX9_countAfter_40 : decode cX9_countAfter 40 = .ok (.invokestatic 310, 3) := by decide +kernel
theorem dX9_countAfter_43 : decode cX9_countAfter 43 = .ok (.ireturn, 1) := by decide +kernel
theorem tX9_countAfter {L : Nat} {xs : Nat → Int32} {N : Nat} : z_AllE (zE L xs N 113) 0 (kX9_countAfter N) :=
  z_ac (j := 1) rfl (z_eI (sp_aload_n (q := 0) dX9_countAfter_0 rfl rfl)) <|
  z_ac (j := 2) rfl (z_eI (sp_iconst dX9_countAfter_1 (by decide +kernel) rfl)) <|
  z_ac (j := 3) rfl (z_eI (sp_putI (C := RX9) (T := TX9) (Nf := 23) dX9_countAfter_2 rfl inX9 tyX9_ok nmX9 (by decide) wf_1356 rfl (by decide +kernel) rfl)) <|
  z_ac (j := 4) rfl (z_eI (sp_iload_n (q := 1) dX9_countAfter_5 rfl rfl)) <|
  z_ac (j := 5) rfl (z_eI (sp_iconst dX9_countAfter_6 (by decide +kernel) rfl)) <|
  z_ac (j := 6) rfl (z_eI (sp_sipush dX9_countAfter_7 (by decide +kernel) rfl)) <|
  z_ac (j := 7) rfl (z_cS dX9_countAfter_10 wl_1432 qX9_in (by decide +kernel) (z_sn rfl rfl) rfl) <|
  z_ac (j := 8) rfl (z_eI (sp_if_ne dX9_countAfter_13 rfl rfl)) <|
  z_ac (j := 9) rfl (z_eI (sp_aload_n (q := 0) dX9_countAfter_16 rfl rfl)) <|
  z_ac (j := 10) rfl (z_eI (sp_iconst dX9_countAfter_17 (by decide +kernel) rfl)) <|
  z_ac (j := 11) rfl (z_cV dX9_countAfter_18 wl_1424 qX9_fails (by decide +kernel) ⟨_, _, rfl⟩ (z_sn rfl rfl) rfl) <|
  z_ac (j := 12) rfl (z_eR (sr_int dX9_countAfter_21 rfl)) <|
  z_ac (j := 13) rfl (z_eI (sp_aload_n (q := 0) dX9_countAfter_22 rfl rfl)) <|
  z_ac (j := 14) rfl (z_cV dX9_countAfter_23 wl_1805 qX9_takesSpare (by decide +kernel) ⟨_, _, rfl⟩ (z_sn rfl rfl) rfl) <|
  z_ac (j := 15) rfl (z_eI (sp_aload_n (q := 0) dX9_countAfter_26 rfl rfl)) <|
  z_ac (j := 16) rfl (z_eI (sp_aload_n (q := 0) dX9_countAfter_27 rfl rfl)) <|
  z_ac (j := 17) rfl (z_eI (sp_getf (C := RX9) (T := TX9) (Nf := 23) dX9_countAfter_28 rfl inX9 (by decide) wf_1348 rfl)) <|
  z_ac (j := 18) rfl (z_eI (sp_iload_n (q := 1) dX9_countAfter_31 rfl rfl)) <|
  z_ac (j := 19) rfl (z_cV dX9_countAfter_32 wl_1843 qX9_ticksMany (by decide +kernel) ⟨_, _, rfl⟩ (z_sn rfl rfl) rfl) <|
  z_ac (j := 20) rfl (z_eI (sp_aload_n (q := 0) dX9_countAfter_35 rfl rfl)) <|
  z_ac (j := 21) rfl (z_eI (sp_getf (C := RX9) (T := TX9) (Nf := 23) dX9_countAfter_36 rfl inX9 (by decide) wf_1348 rfl)) <|
  z_ac (j := 22) rfl (z_eI (sp_iload_n (q := 2) dX9_countAfter_39 rfl rfl)) <|
  z_ac (j := 23) rfl (z_cS dX9_countAfter_40 wl_1782 qX9_countOf (by decide +kernel) (z_sn rfl rfl) rfl) <|
  z_ac (j := 24) rfl (z_eR (sr_int dX9_countAfter_43 rfl)) <| z_an
theorem dX9_arrivedAfter_0 : decode cX9_arrivedAfter 0 = .ok (.aload_n 0, 1) := by decide +kernel
theorem dX9_arrivedAfter_1 : decode cX9_arrivedAfter 1 = .ok (.iload_n 1, 1) := by decide +kernel
theorem dX9_arrivedAfter_2 : decode cX9_arrivedAfter 2 = .ok (.iconst 1, 1) := by decide +kernel
theorem dX9_arrivedAfter_3 : decode cX9_arrivedAfter 3 = .ok (.invokevirtual 319, 3) := by decide +kernel
theorem dX9_arrivedAfter_6 : decode cX9_arrivedAfter 6 = .ok (.ireturn, 1) := by decide +kernel
theorem tX9_arrivedAfter {L : Nat} {xs : Nat → Int32} {N : Nat} : z_AllE (zE L xs N 114) 0 (kX9_arrivedAfter N) :=
  z_ac (j := 1) rfl (z_eI (sp_aload_n (q := 0) dX9_arrivedAfter_0 rfl rfl)) <|
  z_ac (j := 2) rfl (z_eI (sp_iload_n (q := 1) dX9_arrivedAfter_1 rfl rfl)) <|
  z_ac (j := 3) rfl (z_eI (sp_iconst dX9_arrivedAfter_2 (by decide +kernel) rfl)) <|
  z_ac (j := 4) rfl (z_cV dX9_arrivedAfter_3 wl_1851 qX9_countAfter (by decide +kernel) ⟨_, _, rfl⟩ (z_sn rfl rfl) rfl) <|
  z_ac (j := 5) rfl (z_eR (sr_int dX9_arrivedAfter_6 rfl)) <| z_an
theorem dX9_sunkAfter_0 : decode cX9_sunkAfter 0 = .ok (.aload_n 0, 1) := by decide +kernel
theorem dX9_sunkAfter_1 : decode cX9_sunkAfter 1 = .ok (.iload_n 1, 1) := by decide +kernel
theorem dX9_sunkAfter_2 : decode cX9_sunkAfter 2 = .ok (.iconst 2, 1) := by decide +kernel
theorem dX9_sunkAfter_3 : decode cX9_sunkAfter 3 = .ok (.invokevirtual 319, 3) := by decide +kernel
theorem dX9_sunkAfter_6 : decode cX9_sunkAfter 6 = .ok (.ireturn, 1) := by decide +kernel
theorem tX9_sunkAfter {L : Nat} {xs : Nat → Int32} {N : Nat} : z_AllE (zE L xs N 115) 0 (kX9_sunkAfter N) :=
  z_ac (j := 1) rfl (z_eI (sp_aload_n (q := 0) dX9_sunkAfter_0 rfl rfl)) <|
  z_ac (j := 2) rfl (z_eI (sp_iload_n (q := 1) dX9_sunkAfter_1 rfl rfl)) <|
  z_ac (j := 3) rfl (z_eI (sp_iconst dX9_sunkAfter_2 (by decide +kernel) rfl)) <|
  z_ac (j := 4) rfl (z_cV dX9_sunkAfter_3 wl_1851 qX9_countAfter (by decide +kernel) ⟨_, _, rfl⟩ (z_sn rfl rfl) rfl) <|
  z_ac (j := 5) rfl (z_eR (sr_int dX9_sunkAfter_6 rfl)) <| z_an
theorem dX9_bestClearness_0 : decode cX9_bestClearness 0 = .ok (.aload_n 0, 1) := by decide +kernel
theorem dX9_bestClearness_1 : decode cX9_bestClearness 1 = .ok (.iconst 0, 1) := by decide +kernel
theorem dX9_bestClearness_2 : decode cX9_bestClearness 2 = .ok (.putfield 49, 3) := by decide +kernel
theorem dX9_bestClearness_5 : decode cX9_bestClearness 5 = .ok (.iconst 0, 1) := by decide +kernel
theorem dX9_bestClearness_6 : decode cX9_bestClearness 6 = .ok (.istore_n 1, 1) := by decide +kernel
theorem dX9_bestClearness_7 : decode cX9_bestClearness 7 = .ok (.iconst (-1), 1) := by decide +kernel
theorem dX9_bestClearness_8 : decode cX9_bestClearness 8 = .ok (.istore_n 2, 1) := by decide +kernel
theorem dX9_bestClearness_9 : decode cX9_bestClearness 9 = .ok (.iconst 0, 1) := by decide +kernel
theorem dX9_bestClearness_10 : decode cX9_bestClearness 10 = .ok (.istore_n 3, 1) := by decide +kernel
theorem dX9_bestClearness_11 : decode cX9_bestClearness 11 = .ok (.iload_n 3, 1) := by decide +kernel
theorem dX9_bestClearness_12 : decode cX9_bestClearness 12 = .ok (.bipush 20, 2) := by decide +kernel
theorem dX9_bestClearness_14 : decode cX9_bestClearness 14 = .ok (.if_icmp .gt 57, 3) := by decide +kernel
theorem dX9_bestClearness_17 : decode cX9_bestClearness 17 = .ok (.aload_n 0, 1) := by decide +kernel
theorem dX9_bestClearness_18 : decode cX9_bestClearness 18 = .ok (.invokevirtual 313, 3) := by decide +kernel
theorem dX9_bestClearness_21 : decode cX9_bestClearness 21 = .ok (.aload_n 0, 1) := by decide +kernel
theorem dX9_bestClearness_22 : decode cX9_bestClearness 22 = .ok (.getfield 16, 3) := by decide +kernel
theorem dX9_bestClearness_25 : decode cX9_bestClearness 25 = .ok (.iconst 2, 1) := by decide +kernel
theorem dX9_bestClearness_26 : decode cX9_bestClearness 26 = .ok (.iload_n 3, 1) := by decide +kernel
theorem dX9_bestClearness_27 : decode cX9_bestClearness 27 = .ok (.iastore, 1) := by decide +kernel
theorem dX9_bestClearness_28 : decode cX9_bestClearness 28 = .ok (.aload_n 0, 1) := by decide +kernel
theorem dX9_bestClearness_29 : decode cX9_bestClearness 29 = .ok (.aload_n 0, 1) := by decide +kernel
theorem dX9_bestClearness_30 : decode cX9_bestClearness 30 = .ok (.getfield 16, 3) := by decide +kernel
theorem dX9_bestClearness_33 : decode cX9_bestClearness 33 = .ok (.sipush 300, 3) := by decide +kernel
theorem dX9_bestClearness_36 : decode cX9_bestClearness 36 = .ok (.invokevirtual 316, 3) := by decide +kernel
theorem dX9_bestClearness_39 : decode cX9_bestClearness 39 = .ok (.aload_n 0, 1) := by decide +kernel
theorem dX9_bestClearness_40 : decode cX9_bestClearness 40 = .ok (.getfield 16, 3) := by decide +kernel
theorem dX9_bestClearness_43 : decode cX9_bestClearness 43 = .ok (.iconst 1, 1) := by decide +kernel
theorem dX9_bestClearness_44 : decode cX9_bestClearness 44 = .ok (.invokestatic 310, 3) := by decide +kernel
theorem dX9_bestClearness_47 : decode cX9_bestClearness 47 = .ok (.iload_n 2, 1) := by decide +kernel
theorem dX9_bestClearness_48 : decode cX9_bestClearness 48 = .ok (.if_icmp .gt 6, 3) := by decide +kernel
theorem dX9_bestClearness_51 : decode cX9_bestClearness 51 = .ok (.goto 14, 3) := by decide +kernel
theorem dX9_bestClearness_54 : decode cX9_bestClearness 54 = .ok (.iload_n 3, 1) := by decide +kernel
theorem dX9_bestClearness_55 : decode cX9_bestClearness 55 = .ok (.istore_n 1, 1) := by decide +kernel
theorem dX9_bestClearness_56 : decode cX9_bestClearness 56 = .ok (.aload_n 0, 1) := by decide +kernel
theorem dX9_bestClearness_57 : decode cX9_bestClearness 57 = .ok (.getfield 16, 3) := by decide +kernel
theorem dX9_bestClearness_60 : decode cX9_bestClearness 60 = .ok (.iconst 1, 1) := by decide +kernel
theorem dX9_bestClearness_61 : decode cX9_bestClearness 61 = .ok (.invokestatic 310, 3) := by decide +kernel
theorem dX9_bestClearness_64 : decode cX9_bestClearness 64 = .ok (.istore_n 2, 1) := by decide +kernel
theorem dX9_bestClearness_65 : decode cX9_bestClearness 65 = .ok (.iinc 3 1, 3) := by decide +kernel
theorem dX9_bestClearness_68 : decode cX9_bestClearness 68 = .ok (.goto (-57), 3) := by decide +kernel
theorem dX9_bestClearness_71 : decode cX9_bestClearness 71 = .ok (.iload_n 1, 1) := by decide +kernel
theorem dX9_bestClearness_72 : decode cX9_bestClearness 72 = .ok (.ireturn, 1) := by decide +kernel
theorem tX9_bestClearness {L : Nat} {xs : Nat → Int32} {N : Nat} : z_AllE (zE L xs N 116) 0 (kX9_bestClearness N) :=
  z_ac (j := 1) rfl (z_eI (sp_aload_n (q := 0) dX9_bestClearness_0 rfl rfl)) <|
  z_ac (j := 2) rfl (z_eI (sp_iconst dX9_bestClearness_1 (by decide +kernel) rfl)) <|
  z_ac (j := 3) rfl (z_eI (sp_putI (C := RX9) (T := TX9) (Nf := 23) dX9_bestClearness_2 rfl inX9 tyX9_ok nmX9 (by decide) wf_1356 rfl (by decide +kernel) rfl)) <|
  z_ac (j := 4) rfl (z_eI (sp_iconst dX9_bestClearness_5 (by decide +kernel) rfl)) <|
  z_ac (j := 5) rfl (z_eI (sp_istore_n (q := 1) dX9_bestClearness_6 rfl (by decide) (fun _ _ => rfl) rfl)) <|
  z_ac (j := 6) rfl (z_eI (sp_iconst dX9_bestClearness_7 (by decide +kernel) rfl)) <|
  z_ac (j := 7) rfl (z_eI (sp_istore_n (q := 2) dX9_bestClearness_8 rfl (by decide) (fun _ _ => rfl) rfl)) <|
  z_ac (j := 8) rfl (z_eI (sp_iconst dX9_bestClearness_9 (by decide +kernel) rfl)) <|
  z_ac (j := 9) rfl (z_eI (sp_istore_n (q := 3) dX9_bestClearness_10 rfl (by decide) (fun _ _ => rfl) rfl)) <|
  z_ac (j := 10) rfl (z_eI (sp_iload_n (q := 3) dX9_bestClearness_11 rfl rfl)) <|
  z_ac (j := 11) rfl (z_eI (sp_bipush dX9_bestClearness_12 (by decide +kernel) rfl)) <|
  z_ac (j := 12) rfl (z_eI (sp_icmp_gt dX9_bestClearness_14 rfl rfl)) <|
  z_ac (j := 13) rfl (z_eI (sp_aload_n (q := 0) dX9_bestClearness_17 rfl rfl)) <|
  z_ac (j := 14) rfl (z_cV dX9_bestClearness_18 wl_1805 qX9_takesSpare (by decide +kernel) ⟨_, _, rfl⟩ (z_sn rfl rfl) rfl) <|
  z_ac (j := 15) rfl (z_eI (sp_aload_n (q := 0) dX9_bestClearness_21 rfl rfl)) <|
  z_ac (j := 16) rfl (z_eI (sp_getf (C := RX9) (T := TX9) (Nf := 23) dX9_bestClearness_22 rfl inX9 (by decide) wf_1348 rfl)) <|
  z_ac (j := 17) rfl (z_eI (sp_iconst dX9_bestClearness_25 (by decide +kernel) rfl)) <|
  z_ac (j := 18) rfl (z_eI (sp_iload_n (q := 3) dX9_bestClearness_26 rfl rfl)) <|
  z_ac (j := 19) rfl (z_eI (sp_iast dX9_bestClearness_27 rfl)) <|
  z_ac (j := 20) rfl (z_eI (sp_aload_n (q := 0) dX9_bestClearness_28 rfl rfl)) <|
  z_ac (j := 21) rfl (z_eI (sp_aload_n (q := 0) dX9_bestClearness_29 rfl rfl)) <|
  z_ac (j := 22) rfl (z_eI (sp_getf (C := RX9) (T := TX9) (Nf := 23) dX9_bestClearness_30 rfl inX9 (by decide) wf_1348 rfl)) <|
  z_ac (j := 23) rfl (z_eI (sp_sipush dX9_bestClearness_33 (by decide +kernel) rfl)) <|
  z_ac (j := 24) rfl (z_cV dX9_bestClearness_36 wl_1843 qX9_ticksMany (by decide +kernel) ⟨_, _, rfl⟩ (z_sn rfl rfl) rfl) <|
  z_ac (j := 25) rfl (z_eI (sp_aload_n (q := 0) dX9_bestClearness_39 rfl rfl)) <|
  z_ac (j := 26) rfl (z_eI (sp_getf (C := RX9) (T := TX9) (Nf := 23) dX9_bestClearness_40 rfl inX9 (by decide) wf_1348 rfl)) <|
  z_ac (j := 27) rfl (z_eI (sp_iconst dX9_bestClearness_43 (by decide +kernel) rfl)) <|
  z_ac (j := 28) rfl (z_cS dX9_bestClearness_44 wl_1782 qX9_countOf (by decide +kernel) (z_sn rfl rfl) rfl) <|
  z_ac (j := 29) rfl (z_eI (sp_iload_n (q := 2) dX9_bestClearness_47 rfl rfl)) <|
  z_ac (j := 30) rfl (z_eI (sp_icmp_gt dX9_bestClearness_48 rfl rfl)) <|
  z_ac (j := 31) rfl (z_eI (sp_goto dX9_bestClearness_51 rfl)) <|
  z_ac (j := 32) rfl (z_eI (sp_iload_n (q := 3) dX9_bestClearness_54 rfl rfl)) <|
  z_ac (j := 33) rfl (z_eI (sp_istore_n (q := 1) dX9_bestClearness_55 rfl (by decide) (fun _ _ => rfl) rfl)) <|
  z_ac (j := 34) rfl (z_eI (sp_aload_n (q := 0) dX9_bestClearness_56 rfl rfl)) <|
  z_ac (j := 35) rfl (z_eI (sp_getf (C := RX9) (T := TX9) (Nf := 23) dX9_bestClearness_57 rfl inX9 (by decide) wf_1348 rfl)) <|
  z_ac (j := 36) rfl (z_eI (sp_iconst dX9_bestClearness_60 (by decide +kernel) rfl)) <|
  z_ac (j := 37) rfl (z_cS dX9_bestClearness_61 wl_1782 qX9_countOf (by decide +kernel) (z_sn rfl rfl) rfl) <|
  z_ac (j := 38) rfl (z_eI (sp_istore_n (q := 2) dX9_bestClearness_64 rfl (by decide) (fun _ _ => rfl) rfl)) <|
  z_ac (j := 39) rfl (z_eI (sp_iinc dX9_bestClearness_65 (by decide +kernel) (by decide) (fun _ _ => rfl) rfl)) <|
  z_ac (j := 40) rfl (z_eI (sp_goto dX9_bestClearness_68 rfl)) <|
  z_ac (j := 41) rfl (z_eI (sp_iload_n (q := 1) dX9_bestClearness_71 rfl rfl)) <|
  z_ac (j := 42) rfl (z_eR (sr_int dX9_bestClearness_72 rfl)) <| z_an
theorem dX9_keepsForUndo_0 : decode cX9_keepsForUndo 0 = .ok (.aload_n 0, 1) := by decide +kernel
theorem dX9_keepsForUndo_1 : decode cX9_keepsForUndo 1 = .ok (.getfield 249, 3) := by decide +kernel
theorem dX9_keepsForUndo_4 : decode cX9_keepsForUndo 4 = .ok (.bipush 8, 2) := by decide +kernel
theorem dX9_keepsForUndo_6 : decode cX9_keepsForUndo 6 = .ok (.if_icmp .ne 50, 3) := by decide +kernel
theorem dX9_keepsForUndo_9 : decode cX9_keepsForUndo 9 = .ok (.iconst 1, 1) := by decide +kernel
theorem dX9_keepsForUndo_10 : decode cX9_keepsForUndo 10 = .ok (.istore_n 1, 1) := by decide +kernel
theorem dX9_keepsForUndo_11 : decode cX9_keepsForUndo 11 = .ok (.iload_n 1, 1) := by decide +kernel
theorem dX9_keepsForUndo_12 : decode cX9_keepsForUndo 12 = .ok (.bipush 8, 2) := by decide +kernel
theorem dX9_keepsForUndo_14 : decode cX9_keepsForUndo 14 = .ok (.if_icmp .ge 32, 3) := by decide +kernel
theorem dX9_keepsForUndo_17 : decode cX9_keepsForUndo 17 = .ok (.aload_n 0, 1) := by decide +kernel
theorem dX9_keepsForUndo_18 : decode cX9_keepsForUndo 18 = .ok (.getfield 19, 3) := by decide +kernel
theorem dX9_keepsForUndo_21 : decode cX9_keepsForUndo 21 = .ok (.sipush 256, 3) := by decide +kernel
theorem dX9_keepsForUndo_24 : decode cX9_keepsForUndo 24 = .ok (.iload_n 1, 1) := by decide +kernel
theorem dX9_keepsForUndo_25 : decode cX9_keepsForUndo 25 = .ok (.imul, 1) := by decide +kernel
theorem dX9_keepsForUndo_26 : decode cX9_keepsForUndo 26 = .ok (.aload_n 0, 1) := by decide +kernel
theorem dX9_keepsForUndo_27 : decode cX9_keepsForUndo 27 = .ok (.getfield 19, 3) := by decide +kernel
theorem dX9_keepsForUndo_30 : decode cX9_keepsForUndo 30 = .ok (.sipush 256, 3) := by decide +kernel
theorem dX9_keepsForUndo_33 : decode cX9_keepsForUndo 33 = .ok (.iload_n 1, 1) := by decide +kernel
theorem dX9_keepsForUndo_34 : decode cX9_keepsForUndo 34 = .ok (.iconst 1, 1) := by decide +kernel
theorem dX9_keepsForUndo_35 : decode cX9_keepsForUndo 35 = .ok (.isub, 1) := by decide +kernel
theorem dX9_keepsForUndo_36 : decode cX9_keepsForUndo 36 = .ok (.imul, 1) := by decide +kernel
theorem dX9_keepsForUndo_37 : decode cX9_keepsForUndo 37 = .ok (.invokestatic 52, 3) := by decide +kernel
theorem dX9_keepsForUndo_40 : decode cX9_keepsForUndo 40 = .ok (.iinc 1 1, 3) := by decide +kernel
theorem dX9_keepsForUndo_43 : decode cX9_keepsForUndo 43 = .ok (.goto (-32), 3) := by decide +kernel
theorem dX9_keepsForUndo_46 : decode cX9_keepsForUndo 46 = .ok (.aload_n 0, 1) := by decide +kernel
theorem dX9_keepsForUndo_47 : decode cX9_keepsForUndo 47 = .ok (.dup, 1) := by decide +kernel
theorem dX9_keepsForUndo_48 : decode cX9_keepsForUndo 48 = .ok (.getfield 249, 3) := by decide +kernel
theorem dX9_keepsForUndo_51 : decode cX9_keepsForUndo 51 = .ok (.iconst 1, 1) := by decide +kernel
theorem dX9_keepsForUndo_52 : decode cX9_keepsForUndo 52 = .ok (.isub, 1) := by decide +kernel
theorem dX9_keepsForUndo_53 : decode cX9_keepsForUndo 53 = .ok (.putfield 249, 3) := by decide +kernel
theorem dX9_keepsForUndo_56 : decode cX9_keepsForUndo 56 = .ok (.aload_n 0, 1) := by decide +kernel
theorem dX9_keepsForUndo_57 : decode cX9_keepsForUndo 57 = .ok (.getfield 7, 3) := by decide +kernel
theorem dX9_keepsForUndo_60 : decode cX9_keepsForUndo 60 = .ok (.iconst 0, 1) := by decide +kernel
theorem dX9_keepsForUndo_61 : decode cX9_keepsForUndo 61 = .ok (.aload_n 0, 1) := by decide +kernel
theorem dX9_keepsForUndo_62 : decode cX9_keepsForUndo 62 = .ok (.getfield 19, 3) := by decide +kernel
theorem dX9_keepsForUndo_65 : decode cX9_keepsForUndo 65 = .ok (.sipush 256, 3) := by decide +kernel
theorem dX9_keepsForUndo_68 : decode cX9_keepsForUndo 68 = .ok (.aload_n 0, 1) := by decide +kernel
theorem dX9_keepsForUndo_69 : decode cX9_keepsForUndo 69 = .ok (.getfield 249, 3) := by decide +kernel
theorem dX9_keepsForUndo_72 : decode cX9_keepsForUndo 72 = .ok (.imul, 1) := by decide +kernel
theorem dX9_keepsForUndo_73 : decode cX9_keepsForUndo 73 = .ok (.invokestatic 52, 3) := by decide +kernel
theorem dX9_keepsForUndo_76 : decode cX9_keepsForUndo 76 = .ok (.aload_n 0, 1) := by decide +kernel
theorem dX9_keepsForUndo_77 : decode cX9_keepsForUndo 77 = .ok (.dup, 1) := by decide +kernel
theorem dX9_keepsForUndo_78 : decode cX9_keepsForUndo 78 = .ok (.getfield 249, 3) := by decide +kernel
theorem dX9_keepsForUndo_81 : decode cX9_keepsForUndo 81 = .ok (.iconst 1, 1) := by decide +kernel
theorem dX9_keepsForUndo_82 : decode cX9_keepsForUndo 82 = .ok (.iadd, 1) := by decide +kernel
theorem dX9_keepsForUndo_83 : decode cX9_keepsForUndo 83 = .ok (.putfield 249, 3) := by decide +kernel
theorem dX9_keepsForUndo_86 : decode cX9_keepsForUndo 86 = .ok (.return_, 1) := by decide +kernel
theorem tX9_keepsForUndo {L : Nat} {xs : Nat → Int32} {N : Nat} : z_AllE (zE L xs N 117) 0 (kX9_keepsForUndo N) :=
  z_ac (j := 1) rfl (z_eI (sp_aload_n (q := 0) dX9_keepsForUndo_0 rfl rfl)) <|
  z_ac (j := 2) rfl (z_eI (sp_getf (C := RX9) (T := TX9) (Nf := 23) dX9_keepsForUndo_1 rfl inX9 (by decide) wf_1352 rfl)) <|
  z_ac (j := 3) rfl (z_eI (sp_bipush dX9_keepsForUndo_4 (by decide +kernel) rfl)) <|
  z_ac (j := 4) rfl (z_eI (sp_icmp_ne dX9_keepsForUndo_6 rfl rfl)) <|
  z_ac (j := 5) rfl (z_eI (sp_iconst dX9_keepsForUndo_9 (by decide +kernel) rfl)) <|
  z_ac (j := 6) rfl (z_eI (sp_istore_n (q := 1) dX9_keepsForUndo_10 rfl (by decide) (fun _ _ => rfl) rfl)) <|
  z_ac (j := 7) rfl (z_eI (sp_iload_n (q := 1) dX9_keepsForUndo_11 rfl rfl)) <|
  z_ac (j := 8) rfl (z_eI (sp_bipush dX9_keepsForUndo_12 (by decide +kernel) rfl)) <|
  z_ac (j := 9) rfl (z_eI (sp_icmp_ge dX9_keepsForUndo_14 rfl rfl)) <|
  z_ac (j := 10) rfl (z_eI (sp_aload_n (q := 0) dX9_keepsForUndo_17 rfl rfl)) <|
  z_ac (j := 11) rfl (z_eI (sp_getf (C := RX9) (T := TX9) (Nf := 23) dX9_keepsForUndo_18 rfl inX9 (by decide) wf_1349 rfl)) <|
  z_ac (j := 12) rfl (z_eI (sp_sipush dX9_keepsForUndo_21 (by decide +kernel) rfl)) <|
  z_ac (j := 13) rfl (z_eI (sp_iload_n (q := 1) dX9_keepsForUndo_24 rfl rfl)) <|
  z_ac (j := 14) rfl (z_eI (sp_imul dX9_keepsForUndo_25 rfl)) <|
  z_ac (j := 15) rfl (z_eI (sp_aload_n (q := 0) dX9_keepsForUndo_26 rfl rfl)) <|
  z_ac (j := 16) rfl (z_eI (sp_getf (C := RX9) (T := TX9) (Nf := 23) dX9_keepsForUndo_27 rfl inX9 (by decide) wf_1349 rfl)) <|
  z_ac (j := 17) rfl (z_eI (sp_sipush dX9_keepsForUndo_30 (by decide +kernel) rfl)) <|
  z_ac (j := 18) rfl (z_eI (sp_iload_n (q := 1) dX9_keepsForUndo_33 rfl rfl)) <|
  z_ac (j := 19) rfl (z_eI (sp_iconst dX9_keepsForUndo_34 (by decide +kernel) rfl)) <|
  z_ac (j := 20) rfl (z_eI (sp_isub dX9_keepsForUndo_35 rfl)) <|
  z_ac (j := 21) rfl (z_eI (sp_imul dX9_keepsForUndo_36 rfl)) <|
  z_ac (j := 22) rfl (z_cS dX9_keepsForUndo_37 wl_1524 qX9_layRow (by decide +kernel) (z_sn rfl rfl) rfl) <|
  z_ac (j := 23) rfl (z_eI (sp_iinc dX9_keepsForUndo_40 (by decide +kernel) (by decide) (fun _ _ => rfl) rfl)) <|
  z_ac (j := 24) rfl (z_eI (sp_goto dX9_keepsForUndo_43 rfl)) <|
  z_ac (j := 25) rfl (z_eI (sp_aload_n (q := 0) dX9_keepsForUndo_46 rfl rfl)) <|
  z_ac (j := 26) rfl (z_eI (sp_dup dX9_keepsForUndo_47 rfl)) <|
  z_ac (j := 27) rfl (z_eI (sp_getf (C := RX9) (T := TX9) (Nf := 23) dX9_keepsForUndo_48 rfl inX9 (by decide) wf_1352 rfl)) <|
  z_ac (j := 28) rfl (z_eI (sp_iconst dX9_keepsForUndo_51 (by decide +kernel) rfl)) <|
  z_ac (j := 29) rfl (z_eI (sp_isub dX9_keepsForUndo_52 rfl)) <|
  z_ac (j := 30) rfl (z_eI (sp_putI (C := RX9) (T := TX9) (Nf := 23) dX9_keepsForUndo_53 rfl inX9 tyX9_ok nmX9 (by decide) wf_1352 rfl (by decide +kernel) rfl)) <|
  z_ac (j := 31) rfl (z_eI (sp_aload_n (q := 0) dX9_keepsForUndo_56 rfl rfl)) <|
  z_ac (j := 32) rfl (z_eI (sp_getf (C := RX9) (T := TX9) (Nf := 23) dX9_keepsForUndo_57 rfl inX9 (by decide) wf_1346 rfl)) <|
  z_ac (j := 33) rfl (z_eI (sp_iconst dX9_keepsForUndo_60 (by decide +kernel) rfl)) <|
  z_ac (j := 34) rfl (z_eI (sp_aload_n (q := 0) dX9_keepsForUndo_61 rfl rfl)) <|
  z_ac (j := 35) rfl (z_eI (sp_getf (C := RX9) (T := TX9) (Nf := 23) dX9_keepsForUndo_62 rfl inX9 (by decide) wf_1349 rfl)) <|
  z_ac (j := 36) rfl (z_eI (sp_sipush dX9_keepsForUndo_65 (by decide +kernel) rfl)) <|
  z_ac (j := 37) rfl (z_eI (sp_aload_n (q := 0) dX9_keepsForUndo_68 rfl rfl)) <|
  z_ac (j := 38) rfl (z_eI (sp_getf (C := RX9) (T := TX9) (Nf := 23) dX9_keepsForUndo_69 rfl inX9 (by decide) wf_1352 rfl)) <|
  z_ac (j := 39) rfl (z_eI (sp_imul dX9_keepsForUndo_72 rfl)) <|
  z_ac (j := 40) rfl (z_cS dX9_keepsForUndo_73 wl_1524 qX9_layRow (by decide +kernel) (z_sn rfl rfl) rfl) <|
  z_ac (j := 41) rfl (z_eI (sp_aload_n (q := 0) dX9_keepsForUndo_76 rfl rfl)) <|
  z_ac (j := 42) rfl (z_eI (sp_dup dX9_keepsForUndo_77 rfl)) <|
  z_ac (j := 43) rfl (z_eI (sp_getf (C := RX9) (T := TX9) (Nf := 23) dX9_keepsForUndo_78 rfl inX9 (by decide) wf_1352 rfl)) <|
  z_ac (j := 44) rfl (z_eI (sp_iconst dX9_keepsForUndo_81 (by decide +kernel) rfl)) <|
  z_ac (j := 45) rfl (z_eI (sp_iadd dX9_keepsForUndo_82 rfl)) <|
  z_ac (j := 46) rfl (z_eI (sp_putI (C := RX9) (T := TX9) (Nf := 23) dX9_keepsForUndo_83 rfl inX9 tyX9_ok nmX9 (by decide) wf_1352 rfl (by decide +kernel) rfl)) <|
  z_ac (j := 47) rfl (z_eW (sv_void dX9_keepsForUndo_86 rfl)) <| z_an
theorem dX9_tick_0 : decode cX9_tick 0 = .ok (.aload_n 0, 1) := by decide +kernel
theorem dX9_tick_1 : decode cX9_tick 1 = .ok (.iconst 0, 1) := by decide +kernel
theorem dX9_tick_2 : decode cX9_tick 2 = .ok (.putfield 49, 3) := by decide +kernel
theorem dX9_tick_5 : decode cX9_tick 5 = .ok (.iload_n 1, 1) := by decide +kernel
theorem dX9_tick_6 : decode cX9_tick 6 = .ok (.iconst 1, 1) := by decide +kernel
theorem dX9_tick_7 : decode cX9_tick 7 = .ok (.bipush 100, 2) := by decide +kernel
theorem dX9_tick_9 : decode cX9_tick 9 = .ok (.invokestatic 56, 3) := by decide +kernel
theorem dX9_tick_12 : decode cX9_tick 12 = .ok (.ifCond .ne 9, 3) := by decide +kernel
theorem dX9_tick_15 : decode cX9_tick 15 = .ok (.aload_n 0, 1) := by decide +kernel
theorem dX9_tick_16 : decode cX9_tick 16 = .ok (.iconst 1, 1) := by decide +kernel
theorem dX9_tick_17 : decode cX9_tick 17 = .ok (.invokevirtual 167, 3) := by decide +kernel
theorem dX9_tick_20 : decode cX9_tick 20 = .ok (.ireturn, 1) := by decide +kernel
theorem dX9_tick_21 : decode cX9_tick 21 = .ok (.aload_n 0, 1) := by decide +kernel
theorem dX9_tick_22 : decode cX9_tick 22 = .ok (.getfield 7, 3) := by decide +kernel
theorem dX9_tick_25 : decode cX9_tick 25 = .ok (.iconst 3, 1) := by decide +kernel
theorem dX9_tick_26 : decode cX9_tick 26 = .ok (.iaload, 1) := by decide +kernel
theorem dX9_tick_27 : decode cX9_tick 27 = .ok (.iload_n 1, 1) := by decide +kernel
theorem dX9_tick_28 : decode cX9_tick 28 = .ok (.iadd, 1) := by decide +kernel
theorem dX9_tick_29 : decode cX9_tick 29 = .ok (.sipush 9999, 3) := by decide +kernel
theorem dX9_tick_32 : decode cX9_tick 32 = .ok (.if_icmp .le 9, 3) := by decide +kernel
theorem dX9_tick_35 : decode cX9_tick 35 = .ok (.aload_n 0, 1) := by decide +kernel
theorem dX9_tick_36 : decode cX9_tick 36 = .ok (.iconst 2, 1) := by decide +kernel
theorem dX9_tick_37 : decode cX9_tick 37 = .ok (.invokevirtual 167, 3) := by decide +kernel
theorem dX9_tick_40 : decode cX9_tick 40 = .ok (.ireturn, 1) := by decide +kernel
theorem dX9_tick_41 : decode cX9_tick 41 = .ok (.aload_n 0, 1) := by decide +kernel
theorem dX9_tick_42 : decode cX9_tick 42 = .ok (.invokevirtual 322, 3) := by decide +kernel
theorem dX9_tick_45 : decode cX9_tick 45 = .ok (.aload_n 0, 1) := by decide +kernel
theorem dX9_tick_46 : decode cX9_tick 46 = .ok (.getfield 7, 3) := by decide +kernel
theorem dX9_tick_49 : decode cX9_tick 49 = .ok (.iconst 1, 1) := by decide +kernel
theorem dX9_tick_50 : decode cX9_tick 50 = .ok (.invokestatic 310, 3) := by decide +kernel
theorem dX9_tick_53 : decode cX9_tick 53 = .ok (.istore_n 2, 1) := by decide +kernel
theorem dX9_tick_54 : decode cX9_tick 54 = .ok (.aload_n 0, 1) := by decide +kernel
theorem dX9_tick_55 : decode cX9_tick 55 = .ok (.aload_n 0, 1) := by decide +kernel
theorem dX9_tick_56 : decode cX9_tick 56 = .ok (.getfield 7, 3) := by decide +kernel
theorem dX9_tick_59 : decode cX9_tick 59 = .ok (.iload_n 1, 1) := by decide +kernel
theorem dX9_tick_60 : decode cX9_tick 60 = .ok (.invokevirtual 316, 3) := by decide +kernel
theorem dX9_tick_63 : decode cX9_tick 63 = .ok (.aload_n 0, 1) := by decide +kernel
theorem dX9_tick_64 : decode cX9_tick 64 = .ok (.getfield 7, 3) := by decide +kernel
theorem dX9_tick_67 : decode cX9_tick 67 = .ok (.iconst 1, 1) := by decide +kernel
theorem dX9_tick_68 : decode cX9_tick 68 = .ok (.invokestatic 310, 3) := by decide +kernel
theorem dX9_tick_71 : decode cX9_tick 71 = .ok (.iload_n 2, 1) := by decide +kernel
theorem dX9_tick_72 : decode cX9_tick 72 = .ok (.isub, 1) := by decide +kernel
theorem dX9_tick_73 : decode cX9_tick 73 = .ok (.ireturn, 1) := by decide +kernel
theorem tX9_tick {L : Nat} {xs : Nat → Int32} {N : Nat} : z_AllE (zE L xs N 118) 0 (kX9_tick N) :=
  z_ac (j := 1) rfl (z_eI (sp_aload_n (q := 0) dX9_tick_0 rfl rfl)) <|
  z_ac (j := 2) rfl (z_eI (sp_iconst dX9_tick_1 (by decide +kernel) rfl)) <|
  z_ac (j := 3) rfl (z_eI (sp_putI (C := RX9) (T := TX9) (Nf := 23) dX9_tick_2 rfl inX9 tyX9_ok nmX9 (by decide) wf_1356 rfl (by decide +kernel) rfl)) <|
  z_ac (j := 4) rfl (z_eI (sp_iload_n (q := 1) dX9_tick_5 rfl rfl)) <|
  z_ac (j := 5) rfl (z_eI (sp_iconst dX9_tick_6 (by decide +kernel) rfl)) <|
  z_ac (j := 6) rfl (z_eI (sp_bipush dX9_tick_7 (by decide +kernel) rfl)) <|
  z_ac (j := 7) rfl (z_cS dX9_tick_9 wl_1432 qX9_in (by decide +kernel) (z_sn rfl rfl) rfl) <|
  z_ac (j := 8) rfl (z_eI (sp_if_ne dX9_tick_12 rfl rfl)) <|
  z_ac (j := 9) rfl (z_eI (sp_aload_n (q := 0) dX9_tick_15 rfl rfl)) <|
  z_ac (j := 10) rfl (z_eI (sp_iconst dX9_tick_16 (by decide +kernel) rfl)) <|
  z_ac (j := 11) rfl (z_cV dX9_tick_17 wl_1424 qX9_fails (by decide +kernel) ⟨_, _, rfl⟩ (z_sn rfl rfl) rfl) <|
  z_ac (j := 12) rfl (z_eR (sr_int dX9_tick_20 rfl)) <|
  z_ac (j := 13) rfl (z_eI (sp_aload_n (q := 0) dX9_tick_21 rfl rfl)) <|
  z_ac (j := 14) rfl (z_eI (sp_getf (C := RX9) (T := TX9) (Nf := 23) dX9_tick_22 rfl inX9 (by decide) wf_1346 rfl)) <|
  z_ac (j := 15) rfl (z_eI (sp_iconst dX9_tick_25 (by decide +kernel) rfl)) <|
  z_ac (j := 16) rfl (z_eI (sp_iald dX9_tick_26 rfl)) <|
  z_ac (j := 17) rfl (z_eI (sp_iload_n (q := 1) dX9_tick_27 rfl rfl)) <|
  z_ac (j := 18) rfl (z_eI (sp_iadd dX9_tick_28 rfl)) <|
  z_ac (j := 19) rfl (z_eI (sp_sipush dX9_tick_29 (by decide +kernel) rfl)) <|
  z_ac (j := 20) rfl (z_eI (sp_icmp_le dX9_tick_32 rfl rfl)) <|
  z_ac (j := 21) rfl (z_eI (sp_aload_n (q := 0) dX9_tick_35 rfl rfl)) <|
  z_ac (j := 22) rfl (z_eI (sp_iconst dX9_tick_36 (by decide +kernel) rfl)) <|
  z_ac (j := 23) rfl (z_cV dX9_tick_37 wl_1424 qX9_fails (by decide +kernel) ⟨_, _, rfl⟩ (z_sn rfl rfl) rfl) <|
  z_ac (j := 24) rfl (z_eR (sr_int dX9_tick_40 rfl)) <|
  z_ac (j := 25) rfl (z_eI (sp_aload_n (q := 0) dX9_tick_41 rfl rfl)) <|
  z_ac (j := 26) rfl (z_cV dX9_tick_42 wl_1867 qX9_keepsForUndo (by decide +kernel) ⟨_, _, rfl⟩ (z_sn rfl rfl) rfl) <|
  z_ac (j := 27) rfl (z_eI (sp_aload_n (q := 0) dX9_tick_45 rfl rfl)) <|
  z_ac (j := 28) rfl (z_eI (sp_getf (C := RX9) (T := TX9) (Nf := 23) dX9_tick_46 rfl inX9 (by decide) wf_1346 rfl)) <|
  z_ac (j := 29) rfl (z_eI (sp_iconst dX9_tick_49 (by decide +kernel) rfl)) <|
  z_ac (j := 30) rfl (z_cS dX9_tick_50 wl_1782 qX9_countOf (by decide +kernel) (z_sn rfl rfl) rfl) <|
  z_ac (j := 31) rfl (z_eI (sp_istore_n (q := 2) dX9_tick_53 rfl (by decide) (fun _ _ => rfl) rfl)) <|
  z_ac (j := 32) rfl (z_eI (sp_aload_n (q := 0) dX9_tick_54 rfl rfl)) <|
  z_ac (j := 33) rfl (z_eI (sp_aload_n (q := 0) dX9_tick_55 rfl rfl)) <|
  z_ac (j := 34) rfl (z_eI (sp_getf (C := RX9) (T := TX9) (Nf := 23) dX9_tick_56 rfl inX9 (by decide) wf_1346 rfl)) <|
  z_ac (j := 35) rfl (z_eI (sp_iload_n (q := 1) dX9_tick_59 rfl rfl)) <|
  z_ac (j := 36) rfl (z_cV dX9_tick_60 wl_1843 qX9_ticksMany (by decide +kernel) ⟨_, _, rfl⟩ (z_sn rfl rfl) rfl) <|
  z_ac (j := 37) rfl (z_eI (sp_aload_n (q := 0) dX9_tick_63 rfl rfl)) <|
  z_ac (j := 38) rfl (z_eI (sp_getf (C := RX9) (T := TX9) (Nf := 23) dX9_tick_64 rfl inX9 (by decide) wf_1346 rfl)) <|
  z_ac (j := 39) rfl (z_eI (sp_iconst dX9_tick_67 (by decide +kernel) rfl)) <|
  z_ac (j := 40) rfl (z_cS dX9_tick_68 wl_1782 qX9_countOf (by decide +kernel) (z_sn rfl rfl) rfl) <|
  z_ac (j := 41) rfl (z_eI (sp_iload_n (q := 2) dX9_tick_71 rfl rfl)) <|
  z_ac (j := 42) rfl (z_eI (sp_isub dX9_tick_72 rfl)) <|
  z_ac (j := 43) rfl (z_eR (sr_int dX9_tick_73 rfl)) <| z_an
theorem dX9_addLight_0 : decode cX9_addLight 0 = .ok (.aload_n 0, 1) := by decide +kernel
theorem dX9_addLight_1 : decode cX9_addLight 1 = .ok (.iconst 0, 1) := by decide +kernel
theorem dX9_addLight_2 : decode cX9_addLight 2 = .ok (.putfield 49, 3) := by decide +kernel
theorem dX9_addLight_5 : decode cX9_addLight 5 = .ok (.aload_n 0, 1) := by decide +kernel
theorem dX9_addLight_6 : decode cX9_addLight 6 = .ok (.iload_n 1, 1) := by decide +kernel
theorem dX9_addLight_7 : decode cX9_addLight 7 = .ok (.iload_n 2, 1) := by decide +kernel
theorem dX9_addLight_8 : decode cX9_addLight 8 = .ok (.invokevirtual 275, 3) := by decide +kernel
theorem dX9_addLight_11 : decode cX9_addLight 11 = .ok (.ifCond .ne 9, 3) := by decide +kernel
theorem dX9_addLight_14 : decode cX9_addLight 14 = .ok (.aload_n 0, 1) := by decide +kernel
theorem dX9_addLight_15 : decode cX9_addLight 15 = .ok (.iconst 1, 1) := by decide +kernel
theorem dX9_addLight_16 : decode cX9_addLight 16 = .ok (.invokevirtual 167, 3) := by decide +kernel
theorem dX9_addLight_19 : decode cX9_addLight 19 = .ok (.ireturn, 1) := by decide +kernel
theorem dX9_addLight_20 : decode cX9_addLight 20 = .ok (.iload_n 3, 1) := by decide +kernel
theorem dX9_addLight_21 : decode cX9_addLight 21 = .ok (.iconst 0, 1) := by decide +kernel
theorem dX9_addLight_22 : decode cX9_addLight 22 = .ok (.bipush 9, 2) := by decide +kernel
theorem dX9_addLight_24 : decode cX9_addLight 24 = .ok (.invokestatic 56, 3) := by decide +kernel
theorem dX9_addLight_27 : decode cX9_addLight 27 = .ok (.ifCond .ne 9, 3) := by decide +kernel
theorem dX9_addLight_30 : decode cX9_addLight 30 = .ok (.aload_n 0, 1) := by decide +kernel
theorem dX9_addLight_31 : decode cX9_addLight 31 = .ok (.iconst 2, 1) := by decide +kernel
theorem dX9_addLight_32 : decode cX9_addLight 32 = .ok (.invokevirtual 167, 3) := by decide +kernel
theorem dX9_addLight_35 : decode cX9_addLight 35 = .ok (.ireturn, 1) := by decide +kernel
theorem dX9_addLight_36 : decode cX9_addLight 36 = .ok (.aload_n 0, 1) := by decide +kernel
theorem dX9_addLight_37 : decode cX9_addLight 37 = .ok (.getfield 7, 3) := by decide +kernel
theorem dX9_addLight_40 : decode cX9_addLight 40 = .ok (.iconst 4, 1) := by decide +kernel
theorem dX9_addLight_41 : decode cX9_addLight 41 = .ok (.iaload, 1) := by decide +kernel
theorem dX9_addLight_42 : decode cX9_addLight 42 = .ok (.bipush 8, 2) := by decide +kernel
theorem dX9_addLight_44 : decode cX9_addLight 44 = .ok (.if_icmp .eq 29, 3) := by decide +kernel
theorem dX9_addLight_47 : decode cX9_addLight 47 = .ok (.aload_n 0, 1) := by decide +kernel
theorem dX9_addLight_48 : decode cX9_addLight 48 = .ok (.getfield 7, 3) := by decide +kernel
theorem dX9_addLight_51 : decode cX9_addLight 51 = .ok (.iload_n 1, 1) := by decide +kernel
theorem dX9_addLight_52 : decode cX9_addLight 52 = .ok (.iload_n 2, 1) := by decide +kernel
theorem dX9_addLight_53 : decode cX9_addLight 53 = .ok (.invokestatic 45, 3) := by decide +kernel
theorem dX9_addLight_56 : decode cX9_addLight 56 = .ok (.iaload, 1) := by decide +kernel
theorem dX9_addLight_57 : decode cX9_addLight 57 = .ok (.iconst 1, 1) := by decide +kernel
theorem dX9_addLight_58 : decode cX9_addLight 58 = .ok (.if_icmp .eq 15, 3) := by decide +kernel
theorem dX9_addLight_61 : decode cX9_addLight 61 = .ok (.aload_n 0, 1) := by decide +kernel
theorem dX9_addLight_62 : decode cX9_addLight 62 = .ok (.getfield 7, 3) := by decide +kernel
theorem dX9_addLight_65 : decode cX9_addLight 65 = .ok (.iload_n 1, 1) := by decide +kernel
theorem dX9_addLight_66 : decode cX9_addLight 66 = .ok (.iload_n 2, 1) := by decide +kernel
theorem dX9_addLight_67 : decode cX9_addLight 67 = .ok (.invokestatic 230, 3) := by decide +kernel
theorem dX9_addLight_70 : decode cX9_addLight 70 = .ok (.ifCond .lt 9, 3) := by decide +kernel
theorem dX9_addLight_73 : decode cX9_addLight 73 = .ok (.aload_n 0, 1) := by decide +kernel
theorem dX9_addLight_74 : decode cX9_addLight 74 = .ok (.iconst 3, 1) := by decide +kernel
theorem dX9_addLight_75 : decode cX9_addLight 75 = .ok (.invokevirtual 167, 3) := by decide +kernel
theorem dX9_addLight_78 : decode cX9_addLight 78 = .ok (.ireturn, 1) := by decide +kernel
theorem dX9_addLight_79 : decode cX9_addLight 79 = .ok (.aload_n 0, 1) := by decide +kernel
theorem dX9_addLight_80 : decode cX9_addLight 80 = .ok (.invokevirtual 322, 3) := by decide +kernel
theorem dX9_addLight_83 : decode cX9_addLight 83 = .ok (.aload_n 0, 1) := by decide +kernel
theorem dX9_addLight_84 : decode cX9_addLight 84 = .ok (.getfield 7, 3) := by decide +kernel
theorem dX9_addLight_87 : decode cX9_addLight 87 = .ok (.iload_n 1, 1) := by decide +kernel
theorem dX9_addLight_88 : decode cX9_addLight 88 = .ok (.iload_n 2, 1) := by decide +kernel
theorem dX9_addLight_89 : decode cX9_addLight 89 = .ok (.iload_n 3, 1) := by decide +kernel
theorem dX9_addLight_90 : decode cX9_addLight 90 = .ok (.iload 4, 2) := by decide +kernel
theorem dX9_addLight_92 : decode cX9_addLight 92 = .ok (.ifCond .eq 7, 3) := by decide +kernel
theorem dX9_addLight_95 : decode cX9_addLight 95 = .ok (.iconst 1, 1) := by decide +kernel
theorem dX9_addLight_96 : decode cX9_addLight 96 = .ok (.goto 4, 3) := by decide +kernel
theorem dX9_addLight_99 : decode cX9_addLight 99 = .ok (.iconst 0, 1) := by decide +kernel
theorem dX9_addLight_100 : decode cX9_addLight 100 = .ok (.invokestatic 239, 3) := by decide +kernel
theorem dX9_addLight_103 : decode cX9_addLight 103 = .ok (.ireturn, 1) := by decide +kernel
theorem tX9_addLight {L : Nat} {xs : Nat → Int32} {N : Nat} : z_AllE (zE L xs N 119) 0 (kX9_addLight N) :=
  z_ac (j := 1) rfl (z_eI (sp_aload_n (q := 0) dX9_addLight_0 rfl rfl)) <|
  z_ac (j := 2) rfl (z_eI (sp_iconst dX9_addLight_1 (by decide +kernel) rfl)) <|
  z_ac (j := 3) rfl (z_eI (sp_putI (C := RX9) (T := TX9) (Nf := 23) dX9_addLight_2 rfl inX9 tyX9_ok nmX9 (by decide) wf_1356 rfl (by decide +kernel) rfl)) <|
  z_ac (j := 4) rfl (z_eI (sp_aload_n (q := 0) dX9_addLight_5 rfl rfl)) <|
  z_ac (j := 5) rfl (z_eI (sp_iload_n (q := 1) dX9_addLight_6 rfl rfl)) <|
  z_ac (j := 6) rfl (z_eI (sp_iload_n (q := 2) dX9_addLight_7 rfl rfl)) <|
  z_ac (j := 7) rfl (z_cV dX9_addLight_8 wl_1547 qX9_isCell (by decide +kernel) ⟨_, _, rfl⟩ (z_sn rfl rfl) rfl) <|
  z_ac (j := 8) rfl (z_eI (sp_if_ne dX9_addLight_11 rfl rfl)) <|
  z_ac (j := 9) rfl (z_eI (sp_aload_n (q := 0) dX9_addLight_14 rfl rfl)) <|
  z_ac (j := 10) rfl (z_eI (sp_iconst dX9_addLight_15 (by decide +kernel) rfl)) <|
  z_ac (j := 11) rfl (z_cV dX9_addLight_16 wl_1424 qX9_fails (by decide +kernel) ⟨_, _, rfl⟩ (z_sn rfl rfl) rfl) <|
  z_ac (j := 12) rfl (z_eR (sr_int dX9_addLight_19 rfl)) <|
  z_ac (j := 13) rfl (z_eI (sp_iload_n (q := 3) dX9_addLight_20 rfl rfl)) <|
  z_ac (j := 14) rfl (z_eI (sp_iconst dX9_addLight_21 (by decide +kernel) rfl)) <|
  z_ac (j := 15) rfl (z_eI (sp_bipush dX9_addLight_22 (by decide +kernel) rfl)) <|
  z_ac (j := 16) rfl (z_cS dX9_addLight_24 wl_1432 qX9_in (by decide +kernel) (z_sn rfl rfl) rfl) <|
  z_ac (j := 17) rfl (z_eI (sp_if_ne dX9_addLight_27 rfl rfl)) <|
  z_ac (j := 18) rfl (z_eI (sp_aload_n (q := 0) dX9_addLight_30 rfl rfl)) <|
  z_ac (j := 19) rfl (z_eI (sp_iconst dX9_addLight_31 (by decide +kernel) rfl)) <|
  z_ac (j := 20) rfl (z_cV dX9_addLight_32 wl_1424 qX9_fails (by decide +kernel) ⟨_, _, rfl⟩ (z_sn rfl rfl) rfl) <|
  z_ac (j := 21) rfl (z_eR (sr_int dX9_addLight_35 rfl)) <|
  z_ac (j := 22) rfl (z_eI (sp_aload_n (q := 0) dX9_addLight_36 rfl rfl)) <|
  z_ac (j := 23) rfl (z_eI (sp_getf (C := RX9) (T := TX9) (Nf := 23) dX9_addLight_37 rfl inX9 (by decide) wf_1346 rfl)) <|
  z_ac (j := 24) rfl (z_eI (sp_iconst dX9_addLight_40 (by decide +kernel) rfl)) <|
  z_ac (j := 25) rfl (z_eI (sp_iald dX9_addLight_41 rfl)) <|
  z_ac (j := 26) rfl (z_eI (sp_bipush dX9_addLight_42 (by decide +kernel) rfl)) <|
  z_ac (j := 27) rfl (z_eI (sp_icmp_eq dX9_addLight_44 rfl rfl)) <|
  z_ac (j := 28) rfl (z_eI (sp_aload_n (q := 0) dX9_addLight_47 rfl rfl)) <|
  z_ac (j := 29) rfl (z_eI (sp_getf (C := RX9) (T := TX9) (Nf := 23) dX9_addLight_48 rfl inX9 (by decide) wf_1346 rfl)) <|
  z_ac (j := 30) rfl (z_eI (sp_iload_n (q := 1) dX9_addLight_51 rfl rfl)) <|
  z_ac (j := 31) rfl (z_eI (sp_iload_n (q := 2) dX9_addLight_52 rfl rfl)) <|
  z_ac (j := 32) rfl (z_cS dX9_addLight_53 wl_1343 qX9_cellAt (by decide +kernel) (z_sn rfl rfl) rfl) <|
  z_ac (j := 33) rfl (z_eI (sp_iald dX9_addLight_56 rfl)) <|
  z_ac (j := 34) rfl (z_eI (sp_iconst dX9_addLight_57 (by decide +kernel) rfl)) <|
  z_ac (j := 35) rfl (z_eI (sp_icmp_eq dX9_addLight_58 rfl rfl)) <|
  z_ac (j := 36) rfl (z_eI (sp_aload_n (q := 0) dX9_addLight_61 rfl rfl)) <|
  z_ac (j := 37) rfl (z_eI (sp_getf (C := RX9) (T := TX9) (Nf := 23) dX9_addLight_62 rfl inX9 (by decide) wf_1346 rfl)) <|
  z_ac (j := 38) rfl (z_eI (sp_iload_n (q := 1) dX9_addLight_65 rfl rfl)) <|
  z_ac (j := 39) rfl (z_eI (sp_iload_n (q := 2) dX9_addLight_66 rfl rfl)) <|
  z_ac (j := 40) rfl (z_cS dX9_addLight_67 wl_1501 qX9_lightOn (by decide +kernel) (z_sn rfl rfl) rfl) <|
  z_ac (j := 41) rfl (z_eI (sp_if_lt dX9_addLight_70 rfl rfl)) <|
  z_ac (j := 42) rfl (z_eI (sp_aload_n (q := 0) dX9_addLight_73 rfl rfl)) <|
  z_ac (j := 43) rfl (z_eI (sp_iconst dX9_addLight_74 (by decide +kernel) rfl)) <|
  z_ac (j := 44) rfl (z_cV dX9_addLight_75 wl_1424 qX9_fails (by decide +kernel) ⟨_, _, rfl⟩ (z_sn rfl rfl) rfl) <|
  z_ac (j := 45) rfl (z_eR (sr_int dX9_addLight_78 rfl)) <|
  z_ac (j := 46) rfl (z_eI (sp_aload_n (q := 0) dX9_addLight_79 rfl rfl)) <|
  z_ac (j := 47) rfl (z_cV dX9_addLight_80 wl_1867 qX9_keepsForUndo (by decide +kernel) ⟨_, _, rfl⟩ (z_sn rfl rfl) rfl) <|
  z_ac (j := 48) rfl (z_eI (sp_aload_n (q := 0) dX9_addLight_83 rfl rfl)) <|
  z_ac (j := 49) rfl (z_eI (sp_getf (C := RX9) (T := TX9) (Nf := 23) dX9_addLight_84 rfl inX9 (by decide) wf_1346 rfl)) <|
  z_ac (j := 50) rfl (z_eI (sp_iload_n (q := 1) dX9_addLight_87 rfl rfl)) <|
  z_ac (j := 51) rfl (z_eI (sp_iload_n (q := 2) dX9_addLight_88 rfl rfl)) <|
  z_ac (j := 52) rfl (z_eI (sp_iload_n (q := 3) dX9_addLight_89 rfl rfl)) <|
  z_ac (j := 53) rfl (z_eI (sp_iload dX9_addLight_90 rfl)) <|
  z_ac (j := 54) rfl (z_eI (sp_if_eq dX9_addLight_92 rfl rfl)) <|
  z_ac (j := 55) rfl (z_eI (sp_iconst dX9_addLight_95 (by decide +kernel) rfl)) <|
  z_ac (j := 56) rfl (z_eI (sp_goto dX9_addLight_96 rfl)) <|
  z_ac (j := 57) rfl (z_eI (sp_iconst dX9_addLight_99 (by decide +kernel) rfl)) <|
  z_ac (j := 58) rfl (z_cS dX9_addLight_100 wl_1510 qX9_addsLight (by decide +kernel) (z_sn rfl rfl) rfl) <|
  z_ac (j := 59) rfl (z_eR (sr_int dX9_addLight_103 rfl)) <| z_an
theorem dX9_addTraveller_0 : decode cX9_addTraveller 0 = .ok (.aload_n 0, 1) := by decide +kernel
theorem dX9_addTraveller_1 : decode cX9_addTraveller 1 = .ok (.iconst 0, 1) := by decide +kernel
theorem dX9_addTraveller_2 : decode cX9_addTraveller 2 = .ok (.putfield 49, 3) := by decide +kernel
theorem dX9_addTraveller_5 : decode cX9_addTraveller 5 = .ok (.aload_n 0, 1) := by decide +kernel
theorem dX9_addTraveller_6 : decode cX9_addTraveller 6 = .ok (.iload_n 1, 1) := by decide +kernel
theorem dX9_addTraveller_7 : decode cX9_addTraveller 7 = .ok (.iload_n 2, 1) := by decide +kernel
theorem dX9_addTraveller_8 : decode cX9_addTraveller 8 = .ok (.invokevirtual 275, 3) := by decide +kernel
theorem dX9_addTraveller_11 : decode cX9_addTraveller 11 = .ok (.ifCond .ne 9, 3) := by decide +kernel
theorem dX9_addTraveller_14 : decode cX9_addTraveller 14 = .ok (.aload_n 0, 1) := by decide +kernel
theorem dX9_addTraveller_15 : decode cX9_addTraveller 15 = .ok (.iconst 1, 1) := by decide +kernel
theorem dX9_addTraveller_16 : decode cX9_addTraveller 16 = .ok (.invokevirtual 167, 3) := by decide +kernel
theorem dX9_addTraveller_19 : decode cX9_addTraveller 19 = .ok (.ireturn, 1) := by decide +kernel
theorem dX9_addTraveller_20 : decode cX9_addTraveller 20 = .ok (.aload_n 0, 1) := by decide +kernel
theorem dX9_addTraveller_21 : decode cX9_addTraveller 21 = .ok (.getfield 7, 3) := by decide +kernel
theorem dX9_addTraveller_24 : decode cX9_addTraveller 24 = .ok (.iconst 5, 1) := by decide +kernel
theorem dX9_addTraveller_25 : decode cX9_addTraveller 25 = .ok (.iaload, 1) := by decide +kernel
theorem dX9_addTraveller_26 : decode cX9_addTraveller 26 = .ok (.bipush 6, 2) := by decide +kernel
theorem dX9_addTraveller_28 : decode cX9_addTraveller 28 = .ok (.if_icmp .eq 31, 3) := by decide +kernel
theorem dX9_addTraveller_31 : decode cX9_addTraveller 31 = .ok (.aload_n 0, 1) := by decide +kernel
theorem dX9_addTraveller_32 : decode cX9_addTraveller 32 = .ok (.getfield 7, 3) := by decide +kernel
theorem dX9_addTraveller_35 : decode cX9_addTraveller 35 = .ok (.iload_n 1, 1) := by decide +kernel
theorem dX9_addTraveller_36 : decode cX9_addTraveller 36 = .ok (.iload_n 2, 1) := by decide +kernel
theorem dX9_addTraveller_37 : decode cX9_addTraveller 37 = .ok (.invokestatic 45, 3) := by decide +kernel
theorem dX9_addTraveller_40 : decode cX9_addTraveller 40 = .ok (.iaload, 1) := by decide +kernel
theorem dX9_addTraveller_41 : decode cX9_addTraveller 41 = .ok (.iconst 1, 1) := by decide +kernel
theorem dX9_addTraveller_42 : decode cX9_addTraveller 42 = .ok (.if_icmp .eq 17, 3) := by decide +kernel
theorem dX9_addTraveller_45 : decode cX9_addTraveller 45 = .ok (.aload_n 0, 1) := by decide +kernel
theorem dX9_addTraveller_46 : decode cX9_addTraveller 46 = .ok (.getfield 7, 3) := by decide +kernel
theorem dX9_addTraveller_49 : decode cX9_addTraveller 49 = .ok (.iload_n 1, 1) := by decide +kernel
theorem dX9_addTraveller_50 : decode cX9_addTraveller 50 = .ok (.iload_n 2, 1) := by decide +kernel
theorem dX9_addTraveller_51 : decode cX9_addTraveller 51 = .ok (.invokestatic 45, 3) := by decide +kernel
theorem dX9_addTraveller_54 : decode cX9_addTraveller 54 = .ok (.iaload, 1) := by decide +kernel
theorem dX9_addTraveller_55 : decode cX9_addTraveller 55 = .ok (.iconst 2, 1) := by decide +kernel
theorem dX9_addTraveller_56 : decode cX9_addTraveller 56 = .ok (.if_icmp .ne 9, 3) := by decide +kernel
theorem dX9_addTraveller_59 : decode cX9_addTraveller 59 = .ok (.aload_n 0, 1) := by decide +kernel
theorem dX9_addTraveller_60 : decode cX9_addTraveller 60 = .ok (.iconst 2, 1) := by decide +kernel
theorem dX9_addTraveller_61 : decode cX9_addTraveller 61 = .ok (.invokevirtual 167, 3) := by decide +kernel
theorem dX9_addTraveller_64 : decode cX9_addTraveller 64 = .ok (.ireturn, 1) := by decide +kernel
theorem dX9_addTraveller_65 : decode cX9_addTraveller 65 = .ok (.aload_n 0, 1) := by decide +kernel
theorem dX9_addTraveller_66 : decode cX9_addTraveller 66 = .ok (.invokevirtual 322, 3) := by decide +kernel
theorem dX9_addTraveller_69 : decode cX9_addTraveller 69 = .ok (.aload_n 0, 1) := by decide +kernel
theorem dX9_addTraveller_70 : decode cX9_addTraveller 70 = .ok (.getfield 7, 3) := by decide +kernel
theorem dX9_addTraveller_73 : decode cX9_addTraveller 73 = .ok (.iload_n 1, 1) := by decide +kernel
theorem dX9_addTraveller_74 : decode cX9_addTraveller 74 = .ok (.iload_n 2, 1) := by decide +kernel
theorem dX9_addTraveller_75 : decode cX9_addTraveller 75 = .ok (.invokestatic 243, 3) := by decide +kernel
theorem dX9_addTraveller_78 : decode cX9_addTraveller 78 = .ok (.ireturn, 1) := by decide +kernel
theorem tX9_addTraveller {L : Nat} {xs : Nat → Int32} {N : Nat} : z_AllE (zE L xs N 120) 0 (kX9_addTraveller N) :=
  z_ac (j := 1) rfl (z_eI (sp_aload_n (q := 0) dX9_addTraveller_0 rfl rfl)) <|
  z_ac (j := 2) rfl (z_eI (sp_iconst dX9_addTraveller_1 (by decide +kernel) rfl)) <|
  z_ac (j := 3) rfl (z_eI (sp_putI (C := RX9) (T := TX9) (Nf := 23) dX9_addTraveller_2 rfl inX9 tyX9_ok nmX9 (by decide) wf_1356 rfl (by decide +kernel) rfl)) <|
  z_ac (j := 4) rfl (z_eI (sp_aload_n (q := 0) dX9_addTraveller_5 rfl rfl)) <|
  z_ac (j := 5) rfl (z_eI (sp_iload_n (q := 1) dX9_addTraveller_6 rfl rfl)) <|
  z_ac (j := 6) rfl (z_eI (sp_iload_n (q := 2) dX9_addTraveller_7 rfl rfl)) <|
  z_ac (j := 7) rfl (z_cV dX9_addTraveller_8 wl_1547 qX9_isCell (by decide +kernel) ⟨_, _, rfl⟩ (z_sn rfl rfl) rfl) <|
  z_ac (j := 8) rfl (z_eI (sp_if_ne dX9_addTraveller_11 rfl rfl)) <|
  z_ac (j := 9) rfl (z_eI (sp_aload_n (q := 0) dX9_addTraveller_14 rfl rfl)) <|
  z_ac (j := 10) rfl (z_eI (sp_iconst dX9_addTraveller_15 (by decide +kernel) rfl)) <|
  z_ac (j := 11) rfl (z_cV dX9_addTraveller_16 wl_1424 qX9_fails (by decide +kernel) ⟨_, _, rfl⟩ (z_sn rfl rfl) rfl) <|
  z_ac (j := 12) rfl (z_eR (sr_int dX9_addTraveller_19 rfl)) <|
  z_ac (j := 13) rfl (z_eI (sp_aload_n (q := 0) dX9_addTraveller_20 rfl rfl)) <|
  z_ac (j := 14) rfl (z_eI (sp_getf (C := RX9) (T := TX9) (Nf := 23) dX9_addTraveller_21 rfl inX9 (by decide) wf_1346 rfl)) <|
  z_ac (j := 15) rfl (z_eI (sp_iconst dX9_addTraveller_24 (by decide +kernel) rfl)) <|
  z_ac (j := 16) rfl (z_eI (sp_iald dX9_addTraveller_25 rfl)) <|
  z_ac (j := 17) rfl (z_eI (sp_bipush dX9_addTraveller_26 (by decide +kernel) rfl)) <|
  z_ac (j := 18) rfl (z_eI (sp_icmp_eq dX9_addTraveller_28 rfl rfl)) <|
  z_ac (j := 19) rfl (z_eI (sp_aload_n (q := 0) dX9_addTraveller_31 rfl rfl)) <|
  z_ac (j := 20) rfl (z_eI (sp_getf (C := RX9) (T := TX9) (Nf := 23) dX9_addTraveller_32 rfl inX9 (by decide) wf_1346 rfl)) <|
  z_ac (j := 21) rfl (z_eI (sp_iload_n (q := 1) dX9_addTraveller_35 rfl rfl)) <|
  z_ac (j := 22) rfl (z_eI (sp_iload_n (q := 2) dX9_addTraveller_36 rfl rfl)) <|
  z_ac (j := 23) rfl (z_cS dX9_addTraveller_37 wl_1343 qX9_cellAt (by decide +kernel) (z_sn rfl rfl) rfl) <|
  z_ac (j := 24) rfl (z_eI (sp_iald dX9_addTraveller_40 rfl)) <|
  z_ac (j := 25) rfl (z_eI (sp_iconst dX9_addTraveller_41 (by decide +kernel) rfl)) <|
  z_ac (j := 26) rfl (z_eI (sp_icmp_eq dX9_addTraveller_42 rfl rfl)) <|
  z_ac (j := 27) rfl (z_eI (sp_aload_n (q := 0) dX9_addTraveller_45 rfl rfl)) <|
  z_ac (j := 28) rfl (z_eI (sp_getf (C := RX9) (T := TX9) (Nf := 23) dX9_addTraveller_46 rfl inX9 (by decide) wf_1346 rfl)) <|
  z_ac (j := 29) rfl (z_eI (sp_iload_n (q := 1) dX9_addTraveller_49 rfl rfl)) <|
  z_ac (j := 30) rfl (z_eI (sp_iload_n (q := 2) dX9_addTraveller_50 rfl rfl)) <|
  z_ac (j := 31) rfl (z_cS dX9_addTraveller_51 wl_1343 qX9_cellAt (by decide +kernel) (z_sn rfl rfl) rfl) <|
  z_ac (j := 32) rfl (z_eI (sp_iald dX9_addTraveller_54 rfl)) <|
  z_ac (j := 33) rfl (z_eI (sp_iconst dX9_addTraveller_55 (by decide +kernel) rfl)) <|
  z_ac (j := 34) rfl (z_eI (sp_icmp_ne dX9_addTraveller_56 rfl rfl)) <|
  z_ac (j := 35) rfl (z_eI (sp_aload_n (q := 0) dX9_addTraveller_59 rfl rfl)) <|
  z_ac (j := 36) rfl (z_eI (sp_iconst dX9_addTraveller_60 (by decide +kernel) rfl)) <|
  z_ac (j := 37) rfl (z_cV dX9_addTraveller_61 wl_1424 qX9_fails (by decide +kernel) ⟨_, _, rfl⟩ (z_sn rfl rfl) rfl) <|
  z_ac (j := 38) rfl (z_eR (sr_int dX9_addTraveller_64 rfl)) <|
  z_ac (j := 39) rfl (z_eI (sp_aload_n (q := 0) dX9_addTraveller_65 rfl rfl)) <|
  z_ac (j := 40) rfl (z_cV dX9_addTraveller_66 wl_1867 qX9_keepsForUndo (by decide +kernel) ⟨_, _, rfl⟩ (z_sn rfl rfl) rfl) <|
  z_ac (j := 41) rfl (z_eI (sp_aload_n (q := 0) dX9_addTraveller_69 rfl rfl)) <|
  z_ac (j := 42) rfl (z_eI (sp_getf (C := RX9) (T := TX9) (Nf := 23) dX9_addTraveller_70 rfl inX9 (by decide) wf_1346 rfl)) <|
  z_ac (j := 43) rfl (z_eI (sp_iload_n (q := 1) dX9_addTraveller_73 rfl rfl)) <|
  z_ac (j := 44) rfl (z_eI (sp_iload_n (q := 2) dX9_addTraveller_74 rfl rfl)) <|
  z_ac (j := 45) rfl (z_cS dX9_addTraveller_75 wl_1518 qX9_addsWalker (by decide +kernel) (z_sn rfl rfl) rfl) <|
  z_ac (j := 46) rfl (z_eR (sr_int dX9_addTraveller_78 rfl)) <| z_an
theorem dX9_setSuccessor_0 : decode cX9_setSuccessor 0 = .ok (.aload_n 0, 1) := by decide +kernel
theorem dX9_setSuccessor_1 : decode cX9_setSuccessor 1 = .ok (.iconst 0, 1) := by decide +kernel
theorem dX9_setSuccessor_2 : decode cX9_setSuccessor 2 = .ok (.putfield 49, 3) := by decide +kernel
theorem dX9_setSuccessor_5 : decode cX9_setSuccessor 5 = .ok (.aload_n 0, 1) := by decide +kernel
theorem dX9_setSuccessor_6 : decode cX9_setSuccessor 6 = .ok (.iload_n 1, 1) := by decide +kernel
theorem dX9_setSuccessor_7 : decode cX9_setSuccessor 7 = .ok (.invokevirtual 288, 3) := by decide +kernel
theorem dX9_setSuccessor_10 : decode cX9_setSuccessor 10 = .ok (.ifCond .eq 11, 3) := by decide +kernel
theorem dX9_setSuccessor_13 : decode cX9_setSuccessor 13 = .ok (.aload_n 0, 1) := by decide +kernel
theorem dX9_setSuccessor_14 : decode cX9_setSuccessor 14 = .ok (.iload_n 2, 1) := by decide +kernel
theorem dX9_setSuccessor_15 : decode cX9_setSuccessor 15 = .ok (.invokevirtual 288, 3) := by decide +kernel
theorem dX9_setSuccessor_18 : decode cX9_setSuccessor 18 = .ok (.ifCond .ne 9, 3) := by decide +kernel
theorem dX9_setSuccessor_21 : decode cX9_setSuccessor 21 = .ok (.aload_n 0, 1) := by decide +kernel
theorem dX9_setSuccessor_22 : decode cX9_setSuccessor 22 = .ok (.iconst 1, 1) := by decide +kernel
theorem dX9_setSuccessor_23 : decode cX9_setSuccessor 23 = .ok (.invokevirtual 167, 3) := by decide +kernel
theorem dX9_setSuccessor_26 : decode cX9_setSuccessor 26 = .ok (.ireturn, 1) := by decide +kernel
theorem dX9_setSuccessor_27 : decode cX9_setSuccessor 27 = .ok (.iload_n 1, 1) := by decide +kernel
theorem dX9_setSuccessor_28 : decode cX9_setSuccessor 28 = .ok (.iload_n 2, 1) := by decide +kernel
theorem dX9_setSuccessor_29 : decode cX9_setSuccessor 29 = .ok (.if_icmp .ne 9, 3) := by decide +kernel
theorem dX9_setSuccessor_32 : decode cX9_setSuccessor 32 = .ok (.aload_n 0, 1) := by decide +kernel
theorem dX9_setSuccessor_33 : decode cX9_setSuccessor 33 = .ok (.iconst 2, 1) := by decide +kernel
theorem dX9_setSuccessor_34 : decode cX9_setSuccessor 34 = .ok (.invokevirtual 167, 3) := by decide +kernel
theorem dX9_setSuccessor_37 : decode cX9_setSuccessor 37 = .ok (.ireturn, 1) := by decide +kernel
theorem dX9_setSuccessor_38 : decode cX9_setSuccessor 38 = .ok (.aload_n 0, 1) := by decide +kernel
theorem dX9_setSuccessor_39 : decode cX9_setSuccessor 39 = .ok (.invokevirtual 322, 3) := by decide +kernel
theorem dX9_setSuccessor_42 : decode cX9_setSuccessor 42 = .ok (.aload_n 0, 1) := by decide +kernel
theorem dX9_setSuccessor_43 : decode cX9_setSuccessor 43 = .ok (.getfield 7, 3) := by decide +kernel
theorem dX9_setSuccessor_46 : decode cX9_setSuccessor 46 = .ok (.iload_n 1, 1) := by decide +kernel
theorem dX9_setSuccessor_47 : decode cX9_setSuccessor 47 = .ok (.iconst 4, 1) := by decide +kernel
theorem dX9_setSuccessor_48 : decode cX9_setSuccessor 48 = .ok (.invokestatic 101, 3) := by decide +kernel
theorem dX9_setSuccessor_51 : decode cX9_setSuccessor 51 = .ok (.iload_n 2, 1) := by decide +kernel
theorem dX9_setSuccessor_52 : decode cX9_setSuccessor 52 = .ok (.iastore, 1) := by decide +kernel
theorem dX9_setSuccessor_53 : decode cX9_setSuccessor 53 = .ok (.iconst 0, 1) := by decide +kernel
theorem dX9_setSuccessor_54 : decode cX9_setSuccessor 54 = .ok (.istore_n 3, 1) := by decide +kernel
theorem dX9_setSuccessor_55 : decode cX9_setSuccessor 55 = .ok (.iconst 0, 1) := by decide +kernel
theorem dX9_setSuccessor_56 : decode cX9_setSuccessor 56 = .ok (.istore 4, 2) := by decide +kernel
theorem dX9_setSuccessor_58 : decode cX9_setSuccessor 58 = .ok (.iload 4, 2) := by decide +kernel
theorem dX9_setSuccessor_60 : decode cX9_setSuccessor 60 = .ok (.aload_n 0, 1) := by decide +kernel
theorem dX9_setSuccessor_61 : decode cX9_setSuccessor 61 = .ok (.getfield 7, 3) := by decide +kernel
theorem dX9_setSuccessor_64 : decode cX9_setSuccessor 64 = .ok (.iconst 4, 1) := by decide +kernel
theorem dX9_setSuccessor_65 : decode cX9_setSuccessor 65 = .ok (.iaload, 1) := by decide +kernel
theorem dX9_setSuccessor_66 : decode cX9_setSuccessor 66 = .ok (.if_icmp .ge 24, 3) := by decide +kernel
theorem dX9_setSuccessor_69 : decode cX9_setSuccessor 69 = .ok (.aload_n 0, 1) := by decide +kernel
theorem dX9_setSuccessor_70 : decode cX9_setSuccessor 70 = .ok (.getfield 7, 3) := by decide +kernel
theorem dX9_setSuccessor_73 : decode cX9_setSuccessor 73 = .ok (.iload 4, 2) := by decide +kernel
theorem dX9_setSuccessor_75 : decode cX9_setSuccessor 75 = .ok (.invokestatic 294, 3) := by decide +kernel
theorem dX9_setSuccessor_78 : decode cX9_setSuccessor 78 = .ok (.ifCond .eq 6, 3) := by decide +kernel
theorem dX9_setSuccessor_81 : decode cX9_setSuccessor 81 = .ok (.iinc 3 1, 3) := by decide +kernel
theorem dX9_setSuccessor_84 : decode cX9_setSuccessor 84 = .ok (.iinc 4 1, 3) := by decide +kernel
theorem dX9_setSuccessor_87 : decode cX9_setSuccessor 87 = .ok (.goto (-29), 3) := by decide +kernel
theorem dX9_setSuccessor_90 : decode cX9_setSuccessor 90 = .ok (.iload_n 3, 1) := by decide +kernel
theorem dX9_setSuccessor_91 : decode cX9_setSuccessor 91 = .ok (.ireturn, 1) := by decide +kernel
theorem tX9_setSuccessor {L : Nat} {xs : Nat → Int32} {N : Nat} : z_AllE (zE L xs N 121) 0 (kX9_setSuccessor N) :=
  z_ac (j := 1) rfl (z_eI (sp_aload_n (q := 0) dX9_setSuccessor_0 rfl rfl)) <|
  z_ac (j := 2) rfl (z_eI (sp_iconst dX9_setSuccessor_1 (by decide +kernel) rfl)) <|
  z_ac (j := 3) rfl (z_eI (sp_putI (C := RX9) (T := TX9) (Nf := 23) dX9_setSuccessor_2 rfl inX9 tyX9_ok nmX9 (by decide) wf_1356 rfl (by decide +kernel) rfl)) <|
  z_ac (j := 4) rfl (z_eI (sp_aload_n (q := 0) dX9_setSuccessor_5 rfl rfl)) <|
  z_ac (j := 5) rfl (z_eI (sp_iload_n (q := 1) dX9_setSuccessor_6 rfl rfl)) <|
  z_ac (j := 6) rfl (z_cV dX9_setSuccessor_7 wl_1654 qX9_isLight (by decide +kernel) ⟨_, _, rfl⟩ (z_sn rfl rfl) rfl) <|
  z_ac (j := 7) rfl (z_eI (sp_if_eq dX9_setSuccessor_10 rfl rfl)) <|
  z_ac (j := 8) rfl (z_eI (sp_aload_n (q := 0) dX9_setSuccessor_13 rfl rfl)) <|
  z_ac (j := 9) rfl (z_eI (sp_iload_n (q := 2) dX9_setSuccessor_14 rfl rfl)) <|
  z_ac (j := 10) rfl (z_cV dX9_setSuccessor_15 wl_1654 qX9_isLight (by decide +kernel) ⟨_, _, rfl⟩ (z_sn rfl rfl) rfl) <|
  z_ac (j := 11) rfl (z_eI (sp_if_ne dX9_setSuccessor_18 rfl rfl)) <|
  z_ac (j := 12) rfl (z_eI (sp_aload_n (q := 0) dX9_setSuccessor_21 rfl rfl)) <|
  z_ac (j := 13) rfl (z_eI (sp_iconst dX9_setSuccessor_22 (by decide +kernel) rfl)) <|
  z_ac (j := 14) rfl (z_cV dX9_setSuccessor_23 wl_1424 qX9_fails (by decide +kernel) ⟨_, _, rfl⟩ (z_sn rfl rfl) rfl) <|
  z_ac (j := 15) rfl (z_eR (sr_int dX9_setSuccessor_26 rfl)) <|
  z_ac (j := 16) rfl (z_eI (sp_iload_n (q := 1) dX9_setSuccessor_27 rfl rfl)) <|
  z_ac (j := 17) rfl (z_eI (sp_iload_n (q := 2) dX9_setSuccessor_28 rfl rfl)) <|
  z_ac (j := 18) rfl (z_eI (sp_icmp_ne dX9_setSuccessor_29 rfl rfl)) <|
  z_ac (j := 19) rfl (z_eI (sp_aload_n (q := 0) dX9_setSuccessor_32 rfl rfl)) <|
  z_ac (j := 20) rfl (z_eI (sp_iconst dX9_setSuccessor_33 (by decide +kernel) rfl)) <|
  z_ac (j := 21) rfl (z_cV dX9_setSuccessor_34 wl_1424 qX9_fails (by decide +kernel) ⟨_, _, rfl⟩ (z_sn rfl rfl) rfl) <|
  z_ac (j := 22) rfl (z_eR (sr_int dX9_setSuccessor_37 rfl)) <|
  z_ac (j := 23) rfl (z_eI (sp_aload_n (q := 0) dX9_setSuccessor_38 rfl rfl)) <|
  z_ac (j := 24) rfl (z_cV dX9_setSuccessor_39 wl_1867 qX9_keepsForUndo (by decide +kernel) ⟨_, _, rfl⟩ (z_sn rfl rfl) rfl) <|
  z_ac (j := 25) rfl (z_eI (sp_aload_n (q := 0) dX9_setSuccessor_42 rfl rfl)) <|
  z_ac (j := 26) rfl (z_eI (sp_getf (C := RX9) (T := TX9) (Nf := 23) dX9_setSuccessor_43 rfl inX9 (by decide) wf_1346 rfl)) <|
  z_ac (j := 27) rfl (z_eI (sp_iload_n (q := 1) dX9_setSuccessor_46 rfl rfl)) <|
  z_ac (j := 28) rfl (z_eI (sp_iconst dX9_setSuccessor_47 (by decide +kernel) rfl)) <|
  z_ac (j := 29) rfl (z_cS dX9_setSuccessor_48 wl_1504 qX9_lightAt (by decide +kernel) (z_sn rfl rfl) rfl) <|
  z_ac (j := 30) rfl (z_eI (sp_iload_n (q := 2) dX9_setSuccessor_51 rfl rfl)) <|
  z_ac (j := 31) rfl (z_eI (sp_iast dX9_setSuccessor_52 rfl)) <|
  z_ac (j := 32) rfl (z_eI (sp_iconst dX9_setSuccessor_53 (by decide +kernel) rfl)) <|
  z_ac (j := 33) rfl (z_eI (sp_istore_n (q := 3) dX9_setSuccessor_54 rfl (by decide) (fun _ _ => rfl) rfl)) <|
  z_ac (j := 34) rfl (z_eI (sp_iconst dX9_setSuccessor_55 (by decide +kernel) rfl)) <|
  z_ac (j := 35) rfl (z_eI (sp_istore dX9_setSuccessor_56 (by decide) (fun _ _ => rfl) rfl)) <|
  z_ac (j := 36) rfl (z_eI (sp_iload dX9_setSuccessor_58 rfl)) <|
  z_ac (j := 37) rfl (z_eI (sp_aload_n (q := 0) dX9_setSuccessor_60 rfl rfl)) <|
  z_ac (j := 38) rfl (z_eI (sp_getf (C := RX9) (T := TX9) (Nf := 23) dX9_setSuccessor_61 rfl inX9 (by decide) wf_1346 rfl)) <|
  z_ac (j := 39) rfl (z_eI (sp_iconst dX9_setSuccessor_64 (by decide +kernel) rfl)) <|
  z_ac (j := 40) rfl (z_eI (sp_iald dX9_setSuccessor_65 rfl)) <|
  z_ac (j := 41) rfl (z_eI (sp_icmp_ge dX9_setSuccessor_66 rfl rfl)) <|
  z_ac (j := 42) rfl (z_eI (sp_aload_n (q := 0) dX9_setSuccessor_69 rfl rfl)) <|
  z_ac (j := 43) rfl (z_eI (sp_getf (C := RX9) (T := TX9) (Nf := 23) dX9_setSuccessor_70 rfl inX9 (by decide) wf_1346 rfl)) <|
  z_ac (j := 44) rfl (z_eI (sp_iload dX9_setSuccessor_73 rfl)) <|
  z_ac (j := 45) rfl (z_cS dX9_setSuccessor_75 wl_1686 qX9_isAstray (by decide +kernel) (z_sn rfl rfl) rfl) <|
  z_ac (j := 46) rfl (z_eI (sp_if_eq dX9_setSuccessor_78 rfl rfl)) <|
  z_ac (j := 47) rfl (z_eI (sp_iinc dX9_setSuccessor_81 (by decide +kernel) (by decide) (fun _ _ => rfl) rfl)) <|
  z_ac (j := 48) rfl (z_eI (sp_iinc dX9_setSuccessor_84 (by decide +kernel) (by decide) (fun _ _ => rfl) rfl)) <|
  z_ac (j := 49) rfl (z_eI (sp_goto dX9_setSuccessor_87 rfl)) <|
  z_ac (j := 50) rfl (z_eI (sp_iload_n (q := 3) dX9_setSuccessor_90 rfl rfl)) <|
  z_ac (j := 51) rfl (z_eR (sr_int dX9_setSuccessor_91 rfl)) <| z_an
theorem dX9_clearSuccessor_0 : decode cX9_clearSuccessor 0 = .ok (.aload_n 0, 1) := by decide +kernel
theorem dX9_clearSuccessor_1 : decode cX9_clearSuccessor 1 = .ok (.iconst 0, 1) := by decide +kernel
theorem dX9_clearSuccessor_2 : decode cX9_clearSuccessor 2 = .ok (.putfield 49, 3) := by decide +kernel
theorem dX9_clearSuccessor_5 : decode cX9_clearSuccessor 5 = .ok (.aload_n 0, 1) := by decide +kernel
theorem dX9_clearSuccessor_6 : decode cX9_clearSuccessor 6 = .ok (.iload_n 1, 1) := by decide +kernel
theorem dX9_clearSuccessor_7 : decode cX9_clearSuccessor 7 = .ok (.invokevirtual 288, 3) := by decide +kernel
theorem dX9_clearSuccessor_10 : decode cX9_clearSuccessor 10 = .ok (.ifCond .ne 9, 3) := by decide +kernel
theorem dX9_clearSuccessor_13 : decode cX9_clearSuccessor 13 = .ok (.aload_n 0, 1) := by decide +kernel
theorem dX9_clearSuccessor_14 : decode cX9_clearSuccessor 14 = .ok (.iconst 1, 1) := by decide +kernel
theorem dX9_clearSuccessor_15 : decode cX9_clearSuccessor 15 = .ok (.invokevirtual 167, 3) := by decide +kernel
theorem dX9_clearSuccessor_18 : decode cX9_clearSuccessor 18 = .ok (.ireturn, 1) := by decide +kernel
theorem dX9_clearSuccessor_19 : decode cX9_clearSuccessor 19 = .ok (.aload_n 0, 1) := by decide +kernel
theorem dX9_clearSuccessor_20 : decode cX9_clearSuccessor 20 = .ok (.getfield 7, 3) := by decide +kernel
theorem dX9_clearSuccessor_23 : decode cX9_clearSuccessor 23 = .ok (.iload_n 1, 1) := by decide +kernel
theorem dX9_clearSuccessor_24 : decode cX9_clearSuccessor 24 = .ok (.iconst 4, 1) := by decide +kernel
theorem dX9_clearSuccessor_25 : decode cX9_clearSuccessor 25 = .ok (.invokestatic 101, 3) := by decide +kernel
theorem dX9_clearSuccessor_28 : decode cX9_clearSuccessor 28 = .ok (.iaload, 1) := by decide +kernel
theorem dX9_clearSuccessor_29 : decode cX9_clearSuccessor 29 = .ok (.istore_n 2, 1) := by decide +kernel
theorem dX9_clearSuccessor_30 : decode cX9_clearSuccessor 30 = .ok (.iload_n 2, 1) := by decide +kernel
theorem dX9_clearSuccessor_31 : decode cX9_clearSuccessor 31 = .ok (.ifCond .ge 9, 3) := by decide +kernel
theorem dX9_clearSuccessor_34 : decode cX9_clearSuccessor 34 = .ok (.aload_n 0, 1) := by decide +kernel
theorem dX9_clearSuccessor_35 : decode cX9_clearSuccessor 35 = .ok (.iconst 2, 1) := by decide +kernel
theorem dX9_clearSuccessor_36 : decode cX9_clearSuccessor 36 = .ok (.invokevirtual 167, 3) := by decide +kernel
theorem dX9_clearSuccessor_39 : decode cX9_clearSuccessor 39 = .ok (.ireturn, 1) := by decide +kernel
theorem dX9_clearSuccessor_40 : decode cX9_clearSuccessor 40 = .ok (.aload_n 0, 1) := by decide +kernel
theorem dX9_clearSuccessor_41 : decode cX9_clearSuccessor 41 = .ok (.invokevirtual 322, 3) := by decide +kernel
theorem dX9_clearSuccessor_44 : decode cX9_clearSuccessor 44 = .ok (.aload_n 0, 1) := by decide +kernel
theorem dX9_clearSuccessor_45 : decode cX9_clearSuccessor 45 = .ok (.getfield 7, 3) := by decide +kernel
theorem dX9_clearSuccessor_48 : decode cX9_clearSuccessor 48 = .ok (.iload_n 1, 1) := by decide +kernel
theorem dX9_clearSuccessor_49 : decode cX9_clearSuccessor 49 = .ok (.iconst 4, 1) := by decide +kernel
theorem dX9_clearSuccessor_50 : decode cX9_clearSuccessor 50 = .ok (.invokestatic 101, 3) := by decide +kernel
theorem dX9_clearSuccessor_53 : decode cX9_clearSuccessor 53 = .ok (.iconst (-1), 1) := by decide +kernel
theorem dX9_clearSuccessor_54 : decode cX9_clearSuccessor 54 = .ok (.iastore, 1) := by decide +kernel
theorem dX9_clearSuccessor_55 : decode cX9_clearSuccessor 55 = .ok (.iload_n 2, 1) := by decide +kernel
theorem dX9_clearSuccessor_56 : decode cX9_clearSuccessor 56 = .ok (.ireturn, 1) := by decide +kernel
theorem tX9_clearSuccessor {L : Nat} {xs : Nat → Int32} {N : Nat} : z_AllE (zE L xs N 122) 0 (kX9_clearSuccessor N) :=
  z_ac (j := 1) rfl (z_eI (sp_aload_n (q := 0) dX9_clearSuccessor_0 rfl rfl)) <|
  z_ac (j := 2) rfl (z_eI (sp_iconst dX9_clearSuccessor_1 (by decide +kernel) rfl)) <|
  z_ac (j := 3) rfl (z_eI (sp_putI (C := RX9) (T := TX9) (Nf := 23) dX9_clearSuccessor_2 rfl inX9 tyX9_ok nmX9 (by decide) wf_1356 rfl (by decide +kernel) rfl)) <|
  z_ac (j := 4) rfl (z_eI (sp_aload_n (q := 0) dX9_clearSuccessor_5 rfl rfl)) <|
  z_ac (j := 5) rfl (z_eI (sp_iload_n (q := 1) dX9_clearSuccessor_6 rfl rfl)) <|
  z_ac (j := 6) rfl (z_cV dX9_clearSuccessor_7 wl_1654 qX9_isLight (by decide +kernel) ⟨_, _, rfl⟩ (z_sn rfl rfl) rfl) <|
  z_ac (j := 7) rfl (z_eI (sp_if_ne dX9_clearSuccessor_10 rfl rfl)) <|
  z_ac (j := 8) rfl (z_eI (sp_aload_n (q := 0) dX9_clearSuccessor_13 rfl rfl)) <|
  z_ac (j := 9) rfl (z_eI (sp_iconst dX9_clearSuccessor_14 (by decide +kernel) rfl)) <|
  z_ac (j := 10) rfl (z_cV dX9_clearSuccessor_15 wl_1424 qX9_fails (by decide +kernel) ⟨_, _, rfl⟩ (z_sn rfl rfl) rfl) <|
  z_ac (j := 11) rfl (z_eR (sr_int dX9_clearSuccessor_18 rfl)) <|
  z_ac (j := 12) rfl (z_eI (sp_aload_n (q := 0) dX9_clearSuccessor_19 rfl rfl)) <|
  z_ac (j := 13) rfl (z_eI (sp_getf (C := RX9) (T := TX9) (Nf := 23) dX9_clearSuccessor_20 rfl inX9 (by decide) wf_1346 rfl)) <|
  z_ac (j := 14) rfl (z_eI (sp_iload_n (q := 1) dX9_clearSuccessor_23 rfl rfl)) <|
  z_ac (j := 15) rfl (z_eI (sp_iconst dX9_clearSuccessor_24 (by decide +kernel) rfl)) <|
  z_ac (j := 16) rfl (z_cS dX9_clearSuccessor_25 wl_1504 qX9_lightAt (by decide +kernel) (z_sn rfl rfl) rfl) <|
  z_ac (j := 17) rfl (z_eI (sp_iald dX9_clearSuccessor_28 rfl)) <|
  z_ac (j := 18) rfl (z_eI (sp_istore_n (q := 2) dX9_clearSuccessor_29 rfl (by decide) (fun _ _ => rfl) rfl)) <|
  z_ac (j := 19) rfl (z_eI (sp_iload_n (q := 2) dX9_clearSuccessor_30 rfl rfl)) <|
  z_ac (j := 20) rfl (z_eI (sp_if_ge dX9_clearSuccessor_31 rfl rfl)) <|
  z_ac (j := 21) rfl (z_eI (sp_aload_n (q := 0) dX9_clearSuccessor_34 rfl rfl)) <|
  z_ac (j := 22) rfl (z_eI (sp_iconst dX9_clearSuccessor_35 (by decide +kernel) rfl)) <|
  z_ac (j := 23) rfl (z_cV dX9_clearSuccessor_36 wl_1424 qX9_fails (by decide +kernel) ⟨_, _, rfl⟩ (z_sn rfl rfl) rfl) <|
  z_ac (j := 24) rfl (z_eR (sr_int dX9_clearSuccessor_39 rfl)) <|
  z_ac (j := 25) rfl (z_eI (sp_aload_n (q := 0) dX9_clearSuccessor_40 rfl rfl)) <|
  z_ac (j := 26) rfl (z_cV dX9_clearSuccessor_41 wl_1867 qX9_keepsForUndo (by decide +kernel) ⟨_, _, rfl⟩ (z_sn rfl rfl) rfl) <|
  z_ac (j := 27) rfl (z_eI (sp_aload_n (q := 0) dX9_clearSuccessor_44 rfl rfl)) <|
  z_ac (j := 28) rfl (z_eI (sp_getf (C := RX9) (T := TX9) (Nf := 23) dX9_clearSuccessor_45 rfl inX9 (by decide) wf_1346 rfl)) <|
  z_ac (j := 29) rfl (z_eI (sp_iload_n (q := 1) dX9_clearSuccessor_48 rfl rfl)) <|
  z_ac (j := 30) rfl (z_eI (sp_iconst dX9_clearSuccessor_49 (by decide +kernel) rfl)) <|
  z_ac (j := 31) rfl (z_cS dX9_clearSuccessor_50 wl_1504 qX9_lightAt (by decide +kernel) (z_sn rfl rfl) rfl) <|
  z_ac (j := 32) rfl (z_eI (sp_iconst dX9_clearSuccessor_53 (by decide +kernel) rfl)) <|
  z_ac (j := 33) rfl (z_eI (sp_iast dX9_clearSuccessor_54 rfl)) <|
  z_ac (j := 34) rfl (z_eI (sp_iload_n (q := 2) dX9_clearSuccessor_55 rfl rfl)) <|
  z_ac (j := 35) rfl (z_eR (sr_int dX9_clearSuccessor_56 rfl)) <| z_an
theorem dX9_layPlank_0 : decode cX9_layPlank 0 = .ok (.aload_n 0, 1) := by decide +kernel
theorem dX9_layPlank_1 : decode cX9_layPlank 1 = .ok (.iconst 0, 1) := by decide +kernel
theorem dX9_layPlank_2 : decode cX9_layPlank 2 = .ok (.putfield 49, 3) := by decide +kernel
theorem dX9_layPlank_5 : decode cX9_layPlank 5 = .ok (.aload_n 0, 1) := by decide +kernel
theorem dX9_layPlank_6 : decode cX9_layPlank 6 = .ok (.iload_n 1, 1) := by decide +kernel
theorem dX9_layPlank_7 : decode cX9_layPlank 7 = .ok (.iload_n 2, 1) := by decide +kernel
theorem dX9_layPlank_8 : decode cX9_layPlank 8 = .ok (.invokevirtual 275, 3) := by decide +kernel
theorem dX9_layPlank_11 : decode cX9_layPlank 11 = .ok (.ifCond .ne 9, 3) := by decide +kernel
theorem dX9_layPlank_14 : decode cX9_layPlank 14 = .ok (.aload_n 0, 1) := by decide +kernel
theorem dX9_layPlank_15 : decode cX9_layPlank 15 = .ok (.iconst 1, 1) := by decide +kernel
theorem dX9_layPlank_16 : decode cX9_layPlank 16 = .ok (.invokevirtual 167, 3) := by decide +kernel
theorem dX9_layPlank_19 : decode cX9_layPlank 19 = .ok (.ireturn, 1) := by decide +kernel
theorem dX9_layPlank_20 : decode cX9_layPlank 20 = .ok (.iload_n 3, 1) := by decide +kernel
theorem dX9_layPlank_21 : decode cX9_layPlank 21 = .ok (.iconst 1, 1) := by decide +kernel
theorem dX9_layPlank_22 : decode cX9_layPlank 22 = .ok (.bipush 9, 2) := by decide +kernel
theorem dX9_layPlank_24 : decode cX9_layPlank 24 = .ok (.invokestatic 56, 3) := by decide +kernel
theorem dX9_layPlank_27 : decode cX9_layPlank 27 = .ok (.ifCond .ne 9, 3) := by decide +kernel
theorem dX9_layPlank_30 : decode cX9_layPlank 30 = .ok (.aload_n 0, 1) := by decide +kernel
theorem dX9_layPlank_31 : decode cX9_layPlank 31 = .ok (.iconst 2, 1) := by decide +kernel
theorem dX9_layPlank_32 : decode cX9_layPlank 32 = .ok (.invokevirtual 167, 3) := by decide +kernel
theorem dX9_layPlank_35 : decode cX9_layPlank 35 = .ok (.ireturn, 1) := by decide +kernel
theorem dX9_layPlank_36 : decode cX9_layPlank 36 = .ok (.aload_n 0, 1) := by decide +kernel
theorem dX9_layPlank_37 : decode cX9_layPlank 37 = .ok (.getfield 7, 3) := by decide +kernel
theorem dX9_layPlank_40 : decode cX9_layPlank 40 = .ok (.iload_n 1, 1) := by decide +kernel
theorem dX9_layPlank_41 : decode cX9_layPlank 41 = .ok (.iload_n 2, 1) := by decide +kernel
theorem dX9_layPlank_42 : decode cX9_layPlank 42 = .ok (.invokestatic 45, 3) := by decide +kernel
theorem dX9_layPlank_45 : decode cX9_layPlank 45 = .ok (.iaload, 1) := by decide +kernel
theorem dX9_layPlank_46 : decode cX9_layPlank 46 = .ok (.istore 4, 2) := by decide +kernel
theorem dX9_layPlank_48 : decode cX9_layPlank 48 = .ok (.iload 4, 2) := by decide +kernel
theorem dX9_layPlank_50 : decode cX9_layPlank 50 = .ok (.ifCond .eq 9, 3) := by decide +kernel
theorem dX9_layPlank_53 : decode cX9_layPlank 53 = .ok (.iload 4, 2) := by decide +kernel
theorem dX9_layPlank_55 : decode cX9_layPlank 55 = .ok (.iconst 2, 1) := by decide +kernel
theorem dX9_layPlank_56 : decode cX9_layPlank 56 = .ok (.if_icmp .ne 9, 3) := by decide +kernel
theorem dX9_layPlank_59 : decode cX9_layPlank 59 = .ok (.aload_n 0, 1) := by decide +kernel
theorem dX9_layPlank_60 : decode cX9_layPlank 60 = .ok (.iconst 3, 1) := by decide +kernel
theorem dX9_layPlank_61 : decode cX9_layPlank 61 = .ok (.invokevirtual 167, 3) := by decide +kernel
theorem dX9_layPlank_64 : decode cX9_layPlank 64 = .ok (.ireturn, 1) := by decide +kernel
theorem dX9_layPlank_65 : decode cX9_layPlank 65 = .ok (.aload_n 0, 1) := by decide +kernel
theorem dX9_layPlank_66 : decode cX9_layPlank 66 = .ok (.invokevirtual 322, 3) := by decide +kernel
theorem dX9_layPlank_69 : decode cX9_layPlank 69 = .ok (.aload_n 0, 1) := by decide +kernel
theorem dX9_layPlank_70 : decode cX9_layPlank 70 = .ok (.getfield 7, 3) := by decide +kernel
theorem dX9_layPlank_73 : decode cX9_layPlank 73 = .ok (.iload_n 1, 1) := by decide +kernel
theorem dX9_layPlank_74 : decode cX9_layPlank 74 = .ok (.iload_n 2, 1) := by decide +kernel
theorem dX9_layPlank_75 : decode cX9_layPlank 75 = .ok (.invokestatic 45, 3) := by decide +kernel
theorem dX9_layPlank_78 : decode cX9_layPlank 78 = .ok (.bipush 10, 2) := by decide +kernel
theorem dX9_layPlank_80 : decode cX9_layPlank 80 = .ok (.iload_n 3, 1) := by decide +kernel
theorem dX9_layPlank_81 : decode cX9_layPlank 81 = .ok (.iadd, 1) := by decide +kernel
theorem dX9_layPlank_82 : decode cX9_layPlank 82 = .ok (.iastore, 1) := by decide +kernel
theorem dX9_layPlank_83 : decode cX9_layPlank 83 = .ok (.aload_n 0, 1) := by decide +kernel
theorem dX9_layPlank_84 : decode cX9_layPlank 84 = .ok (.invokevirtual 281, 3) := by decide +kernel
theorem dX9_layPlank_87 : decode cX9_layPlank 87 = .ok (.ireturn, 1) := by decide +kernel
theorem tX9_layPlank {L : Nat} {xs : Nat → Int32} {N : Nat} : z_AllE (zE L xs N 123) 0 (kX9_layPlank N) :=
  z_ac (j := 1) rfl (z_eI (sp_aload_n (q := 0) dX9_layPlank_0 rfl rfl)) <|
  z_ac (j := 2) rfl (z_eI (sp_iconst dX9_layPlank_1 (by decide +kernel) rfl)) <|
  z_ac (j := 3) rfl (z_eI (sp_putI (C := RX9) (T := TX9) (Nf := 23) dX9_layPlank_2 rfl inX9 tyX9_ok nmX9 (by decide) wf_1356 rfl (by decide +kernel) rfl)) <|
  z_ac (j := 4) rfl (z_eI (sp_aload_n (q := 0) dX9_layPlank_5 rfl rfl)) <|
  z_ac (j := 5) rfl (z_eI (sp_iload_n (q := 1) dX9_layPlank_6 rfl rfl)) <|
  z_ac (j := 6) rfl (z_eI (sp_iload_n (q := 2) dX9_layPlank_7 rfl rfl)) <|
  z_ac (j := 7) rfl (z_cV dX9_layPlank_8 wl_1547 qX9_isCell (by decide +kernel) ⟨_, _, rfl⟩ (z_sn rfl rfl) rfl) <|
  z_ac (j := 8) rfl (z_eI (sp_if_ne dX9_layPlank_11 rfl rfl)) <|
  z_ac (j := 9) rfl (z_eI (sp_aload_n (q := 0) dX9_layPlank_14 rfl rfl)) <|
  z_ac (j := 10) rfl (z_eI (sp_iconst dX9_layPlank_15 (by decide +kernel) rfl)) <|
  z_ac (j := 11) rfl (z_cV dX9_layPlank_16 wl_1424 qX9_fails (by decide +kernel) ⟨_, _, rfl⟩ (z_sn rfl rfl) rfl) <|
  z_ac (j := 12) rfl (z_eR (sr_int dX9_layPlank_19 rfl)) <|
  z_ac (j := 13) rfl (z_eI (sp_iload_n (q := 3) dX9_layPlank_20 rfl rfl)) <|
  z_ac (j := 14) rfl (z_eI (sp_iconst dX9_layPlank_21 (by decide +kernel) rfl)) <|
  z_ac (j := 15) rfl (z_eI (sp_bipush dX9_layPlank_22 (by decide +kernel) rfl)) <|
  z_ac (j := 16) rfl (z_cS dX9_layPlank_24 wl_1432 qX9_in (by decide +kernel) (z_sn rfl rfl) rfl) <|
  z_ac (j := 17) rfl (z_eI (sp_if_ne dX9_layPlank_27 rfl rfl)) <|
  z_ac (j := 18) rfl (z_eI (sp_aload_n (q := 0) dX9_layPlank_30 rfl rfl)) <|
  z_ac (j := 19) rfl (z_eI (sp_iconst dX9_layPlank_31 (by decide +kernel) rfl)) <|
  z_ac (j := 20) rfl (z_cV dX9_layPlank_32 wl_1424 qX9_fails (by decide +kernel) ⟨_, _, rfl⟩ (z_sn rfl rfl) rfl) <|
  z_ac (j := 21) rfl (z_eR (sr_int dX9_layPlank_35 rfl)) <|
  z_ac (j := 22) rfl (z_eI (sp_aload_n (q := 0) dX9_layPlank_36 rfl rfl)) <|
  z_ac (j := 23) rfl (z_eI (sp_getf (C := RX9) (T := TX9) (Nf := 23) dX9_layPlank_37 rfl inX9 (by decide) wf_1346 rfl)) <|
  z_ac (j := 24) rfl (z_eI (sp_iload_n (q := 1) dX9_layPlank_40 rfl rfl)) <|
  z_ac (j := 25) rfl (z_eI (sp_iload_n (q := 2) dX9_layPlank_41 rfl rfl)) <|
  z_ac (j := 26) rfl (z_cS dX9_layPlank_42 wl_1343 qX9_cellAt (by decide +kernel) (z_sn rfl rfl) rfl) <|
  z_ac (j := 27) rfl (z_eI (sp_iald dX9_layPlank_45 rfl)) <|
  z_ac (j := 28) rfl (z_eI (sp_istore dX9_layPlank_46 (by decide) (fun _ _ => rfl) rfl)) <|
  z_ac (j := 29) rfl (z_eI (sp_iload dX9_layPlank_48 rfl)) <|
  z_ac (j := 30) rfl (z_eI (sp_if_eq dX9_layPlank_50 rfl rfl)) <|
  z_ac (j := 31) rfl (z_eI (sp_iload dX9_layPlank_53 rfl)) <|
  z_ac (j := 32) rfl (z_eI (sp_iconst dX9_layPlank_55 (by decide +kernel) rfl)) <|
  z_ac (j := 33) rfl (z_eI (sp_icmp_ne dX9_layPlank_56 rfl rfl)) <|
  z_ac (j := 34) rfl (z_eI (sp_aload_n (q := 0) dX9_layPlank_59 rfl rfl)) <|
  z_ac (j := 35) rfl (z_eI (sp_iconst dX9_layPlank_60 (by decide +kernel) rfl)) <|
  z_ac (j := 36) rfl (z_cV dX9_layPlank_61 wl_1424 qX9_fails (by decide +kernel) ⟨_, _, rfl⟩ (z_sn rfl rfl) rfl) <|
  z_ac (j := 37) rfl (z_eR (sr_int dX9_layPlank_64 rfl)) <|
  z_ac (j := 38) rfl (z_eI (sp_aload_n (q := 0) dX9_layPlank_65 rfl rfl)) <|
  z_ac (j := 39) rfl (z_cV dX9_layPlank_66 wl_1867 qX9_keepsForUndo (by decide +kernel) ⟨_, _, rfl⟩ (z_sn rfl rfl) rfl) <|
  z_ac (j := 40) rfl (z_eI (sp_aload_n (q := 0) dX9_layPlank_69 rfl rfl)) <|
  z_ac (j := 41) rfl (z_eI (sp_getf (C := RX9) (T := TX9) (Nf := 23) dX9_layPlank_70 rfl inX9 (by decide) wf_1346 rfl)) <|
  z_ac (j := 42) rfl (z_eI (sp_iload_n (q := 1) dX9_layPlank_73 rfl rfl)) <|
  z_ac (j := 43) rfl (z_eI (sp_iload_n (q := 2) dX9_layPlank_74 rfl rfl)) <|
  z_ac (j := 44) rfl (z_cS dX9_layPlank_75 wl_1343 qX9_cellAt (by decide +kernel) (z_sn rfl rfl) rfl) <|
  z_ac (j := 45) rfl (z_eI (sp_bipush dX9_layPlank_78 (by decide +kernel) rfl)) <|
  z_ac (j := 46) rfl (z_eI (sp_iload_n (q := 3) dX9_layPlank_80 rfl rfl)) <|
  z_ac (j := 47) rfl (z_eI (sp_iadd dX9_layPlank_81 rfl)) <|
  z_ac (j := 48) rfl (z_eI (sp_iast dX9_layPlank_82 rfl)) <|
  z_ac (j := 49) rfl (z_eI (sp_aload_n (q := 0) dX9_layPlank_83 rfl rfl)) <|
  z_ac (j := 50) rfl (z_cV dX9_layPlank_84 wl_1574 qX9_planks (by decide +kernel) ⟨_, _, rfl⟩ (z_sn rfl rfl) rfl) <|
  z_ac (j := 51) rfl (z_eR (sr_int dX9_layPlank_87 rfl)) <| z_an
theorem dX9_setClearness_0 : decode cX9_setClearness 0 = .ok (.aload_n 0, 1) := by decide +kernel
theorem dX9_setClearness_1 : decode cX9_setClearness 1 = .ok (.iconst 0, 1) := by decide +kernel
theorem dX9_setClearness_2 : decode cX9_setClearness 2 = .ok (.putfield 49, 3) := by decide +kernel
theorem dX9_setClearness_5 : decode cX9_setClearness 5 = .ok (.iload_n 1, 1) := by decide +kernel
theorem dX9_setClearness_6 : decode cX9_setClearness 6 = .ok (.iconst 0, 1) := by decide +kernel
theorem dX9_setClearness_7 : decode cX9_setClearness 7 = .ok (.bipush 20, 2) := by decide +kernel
theorem dX9_setClearness_9 : decode cX9_setClearness 9 = .ok (.invokestatic 56, 3) := by decide +kernel
theorem dX9_setClearness_12 : decode cX9_setClearness 12 = .ok (.ifCond .ne 9, 3) := by decide +kernel
theorem dX9_setClearness_15 : decode cX9_setClearness 15 = .ok (.aload_n 0, 1) := by decide +kernel
theorem dX9_setClearness_16 : decode cX9_setClearness 16 = .ok (.iconst 1, 1) := by decide +kernel
theorem dX9_setClearness_17 : decode cX9_setClearness 17 = .ok (.invokevirtual 167, 3) := by decide +kernel
theorem dX9_setClearness_20 : decode cX9_setClearness 20 = .ok (.ireturn, 1) := by decide +kernel
theorem dX9_setClearness_21 : decode cX9_setClearness 21 = .ok (.aload_n 0, 1) := by decide +kernel
theorem dX9_setClearness_22 : decode cX9_setClearness 22 = .ok (.invokevirtual 322, 3) := by decide +kernel
theorem dX9_setClearness_25 : decode cX9_setClearness 25 = .ok (.aload_n 0, 1) := by decide +kernel
theorem dX9_setClearness_26 : decode cX9_setClearness 26 = .ok (.getfield 7, 3) := by decide +kernel
theorem dX9_setClearness_29 : decode cX9_setClearness 29 = .ok (.iconst 2, 1) := by decide +kernel
theorem dX9_setClearness_30 : decode cX9_setClearness 30 = .ok (.iaload, 1) := by decide +kernel
theorem dX9_setClearness_31 : decode cX9_setClearness 31 = .ok (.istore_n 2, 1) := by decide +kernel
theorem dX9_setClearness_32 : decode cX9_setClearness 32 = .ok (.aload_n 0, 1) := by decide +kernel
theorem dX9_setClearness_33 : decode cX9_setClearness 33 = .ok (.getfield 7, 3) := by decide +kernel
theorem dX9_setClearness_36 : decode cX9_setClearness 36 = .ok (.iconst 2, 1) := by decide +kernel
theorem dX9_setClearness_37 : decode cX9_setClearness 37 = .ok (.iload_n 1, 1) := by decide +kernel
theorem dX9_setClearness_38 : decode cX9_setClearness 38 = .ok (.iastore, 1) := by decide +kernel
theorem dX9_setClearness_39 : decode cX9_setClearness 39 = .ok (.iload_n 2, 1) := by decide +kernel
theorem dX9_setClearness_40 : decode cX9_setClearness 40 = .ok (.ireturn, 1) := by decide +kernel
theorem tX9_setClearness {L : Nat} {xs : Nat → Int32} {N : Nat} : z_AllE (zE L xs N 124) 0 (kX9_setClearness N) :=
  z_ac (j := 1) rfl (z_eI (sp_aload_n (q := 0) dX9_setClearness_0 rfl rfl)) <|
  z_ac (j := 2) rfl (z_eI (sp_iconst dX9_setClearness_1 (by decide +kernel) rfl)) <|
  z_ac (j := 3) rfl (z_eI (sp_putI (C := RX9) (T := TX9) (Nf := 23) dX9_setClearness_2 rfl inX9 tyX9_ok nmX9 (by decide) wf_1356 rfl (by decide +kernel) rfl)) <|
  z_ac (j := 4) rfl (z_eI (sp_iload_n (q := 1) dX9_setClearness_5 rfl rfl)) <|
  z_ac (j := 5) rfl (z_eI (sp_iconst dX9_setClearness_6 (by decide +kernel) rfl)) <|
  z_ac (j := 6) rfl (z_eI (sp_bipush dX9_setClearness_7 (by decide +kernel) rfl)) <|
  z_ac (j := 7) rfl (z_cS dX9_setClearness_9 wl_1432 qX9_in (by decide +kernel) (z_sn rfl rfl) rfl) <|
  z_ac (j := 8) rfl (z_eI (sp_if_ne dX9_setClearness_12 rfl rfl)) <|
  z_ac (j := 9) rfl (z_eI (sp_aload_n (q := 0) dX9_setClearness_15 rfl rfl)) <|
  z_ac (j := 10) rfl (z_eI (sp_iconst dX9_setClearness_16 (by decide +kernel) rfl)) <|
  z_ac (j := 11) rfl (z_cV dX9_setClearness_17 wl_1424 qX9_fails (by decide +kernel) ⟨_, _, rfl⟩ (z_sn rfl rfl) rfl) <|
  z_ac (j := 12) rfl (z_eR (sr_int dX9_setClearness_20 rfl)) <|
  z_ac (j := 13) rfl (z_eI (sp_aload_n (q := 0) dX9_setClearness_21 rfl rfl)) <|
  z_ac (j := 14) rfl (z_cV dX9_setClearness_22 wl_1867 qX9_keepsForUndo (by decide +kernel) ⟨_, _, rfl⟩ (z_sn rfl rfl) rfl) <|
  z_ac (j := 15) rfl (z_eI (sp_aload_n (q := 0) dX9_setClearness_25 rfl rfl)) <|
  z_ac (j := 16) rfl (z_eI (sp_getf (C := RX9) (T := TX9) (Nf := 23) dX9_setClearness_26 rfl inX9 (by decide) wf_1346 rfl)) <|
  z_ac (j := 17) rfl (z_eI (sp_iconst dX9_setClearness_29 (by decide +kernel) rfl)) <|
  z_ac (j := 18) rfl (z_eI (sp_iald dX9_setClearness_30 rfl)) <|
  z_ac (j := 19) rfl (z_eI (sp_istore_n (q := 2) dX9_setClearness_31 rfl (by decide) (fun _ _ => rfl) rfl)) <|
  z_ac (j := 20) rfl (z_eI (sp_aload_n (q := 0) dX9_setClearness_32 rfl rfl)) <|
  z_ac (j := 21) rfl (z_eI (sp_getf (C := RX9) (T := TX9) (Nf := 23) dX9_setClearness_33 rfl inX9 (by decide) wf_1346 rfl)) <|
  z_ac (j := 22) rfl (z_eI (sp_iconst dX9_setClearness_36 (by decide +kernel) rfl)) <|
  z_ac (j := 23) rfl (z_eI (sp_iload_n (q := 1) dX9_setClearness_37 rfl rfl)) <|
  z_ac (j := 24) rfl (z_eI (sp_iast dX9_setClearness_38 rfl)) <|
  z_ac (j := 25) rfl (z_eI (sp_iload_n (q := 2) dX9_setClearness_39 rfl rfl)) <|
  z_ac (j := 26) rfl (z_eR (sr_int dX9_setClearness_40 rfl)) <| z_an
theorem dX9_setFog_0 : decode cX9_setFog 0 = .ok (.aload_n 0, 1) := by decide +kernel
theorem dX9_setFog_1 : decode cX9_setFog 1 = .ok (.iconst 0, 1) := by decide +kernel
theorem dX9_setFog_2 : decode cX9_setFog 2 = .ok (.putfield 49, 3) := by decide +kernel
theorem dX9_setFog_5 : decode cX9_setFog 5 = .ok (.iload_n 1, 1) := by decide +kernel
theorem dX9_setFog_6 : decode cX9_setFog 6 = .ok (.iconst 0, 1) := by decide +kernel
theorem dX9_setFog_7 : decode cX9_setFog 7 = .ok (.bipush 23, 2) := by decide +kernel
theorem dX9_setFog_9 : decode cX9_setFog 9 = .ok (.invokestatic 56, 3) := by decide +kernel
theorem dX9_setFog_12 : decode cX9_setFog 12 = .ok (.ifCond .ne 9, 3) := by decide +kernel
theorem dX9_setFog_15 : decode cX9_setFog 15 = .ok (.aload_n 0, 1) := by decide +kernel
theorem dX9_setFog_16 : decode cX9_setFog 16 = .ok (.iconst 1, 1) := by decide +kernel
theorem dX9_setFog_17 : decode cX9_setFog 17 = .ok (.invokevirtual 167, 3) := by decide +kernel
theorem dX9_setFog_20 : decode cX9_setFog 20 = .ok (.ireturn, 1) := by decide +kernel
theorem dX9_setFog_21 : decode cX9_setFog 21 = .ok (.iload_n 2, 1) := by decide +kernel
theorem dX9_setFog_22 : decode cX9_setFog 22 = .ok (.iconst 0, 1) := by decide +kernel
theorem dX9_setFog_23 : decode cX9_setFog 23 = .ok (.bipush 9, 2) := by decide +kernel
theorem dX9_setFog_25 : decode cX9_setFog 25 = .ok (.invokestatic 56, 3) := by decide +kernel
theorem dX9_setFog_28 : decode cX9_setFog 28 = .ok (.ifCond .ne 9, 3) := by decide +kernel
theorem dX9_setFog_31 : decode cX9_setFog 31 = .ok (.aload_n 0, 1) := by decide +kernel
theorem dX9_setFog_32 : decode cX9_setFog 32 = .ok (.iconst 2, 1) := by decide +kernel
theorem dX9_setFog_33 : decode cX9_setFog 33 = .ok (.invokevirtual 167, 3) := by decide +kernel
theorem dX9_setFog_36 : decode cX9_setFog 36 = .ok (.ireturn, 1) := by decide +kernel
theorem dX9_setFog_37 : decode cX9_setFog 37 = .ok (.aload_n 0, 1) := by decide +kernel
theorem dX9_setFog_38 : decode cX9_setFog 38 = .ok (.invokevirtual 322, 3) := by decide +kernel
theorem dX9_setFog_41 : decode cX9_setFog 41 = .ok (.aload_n 0, 1) := by decide +kernel
theorem dX9_setFog_42 : decode cX9_setFog 42 = .ok (.getfield 7, 3) := by decide +kernel
theorem dX9_setFog_45 : decode cX9_setFog 45 = .ok (.bipush 6, 2) := by decide +kernel
theorem dX9_setFog_47 : decode cX9_setFog 47 = .ok (.iload_n 1, 1) := by decide +kernel
theorem dX9_setFog_48 : decode cX9_setFog 48 = .ok (.iadd, 1) := by decide +kernel
theorem dX9_setFog_49 : decode cX9_setFog 49 = .ok (.iaload, 1) := by decide +kernel
theorem dX9_setFog_50 : decode cX9_setFog 50 = .ok (.istore_n 3, 1) := by decide +kernel
theorem dX9_setFog_51 : decode cX9_setFog 51 = .ok (.aload_n 0, 1) := by decide +kernel
theorem dX9_setFog_52 : decode cX9_setFog 52 = .ok (.getfield 7, 3) := by decide +kernel
theorem dX9_setFog_55 : decode cX9_setFog 55 = .ok (.bipush 6, 2) := by decide +kernel
theorem dX9_setFog_57 : decode cX9_setFog 57 = .ok (.iload_n 1, 1) := by decide +kernel
theorem dX9_setFog_58 : decode cX9_setFog 58 = .ok (.iadd, 1) := by decide +kernel
theorem dX9_setFog_59 : decode cX9_setFog 59 = .ok (.iload_n 2, 1) := by decide +kernel
theorem dX9_setFog_60 : decode cX9_setFog 60 = .ok (.iastore, 1) := by decide +kernel
theorem dX9_setFog_61 : decode cX9_setFog 61 = .ok (.iload_n 3, 1) := by decide +kernel
theorem dX9_setFog_62 : decode cX9_setFog 62 = .ok (.ireturn, 1) := by decide +kernel
theorem tX9_setFog {L : Nat} {xs : Nat → Int32} {N : Nat} : z_AllE (zE L xs N 125) 0 (kX9_setFog N) :=
  z_ac (j := 1) rfl (z_eI (sp_aload_n (q := 0) dX9_setFog_0 rfl rfl)) <|
  z_ac (j := 2) rfl (z_eI (sp_iconst dX9_setFog_1 (by decide +kernel) rfl)) <|
  z_ac (j := 3) rfl (z_eI (sp_putI (C := RX9) (T := TX9) (Nf := 23) dX9_setFog_2 rfl inX9 tyX9_ok nmX9 (by decide) wf_1356 rfl (by decide +kernel) rfl)) <|
  z_ac (j := 4) rfl (z_eI (sp_iload_n (q := 1) dX9_setFog_5 rfl rfl)) <|
  z_ac (j := 5) rfl (z_eI (sp_iconst dX9_setFog_6 (by decide +kernel) rfl)) <|
  z_ac (j := 6) rfl (z_eI (sp_bipush dX9_setFog_7 (by decide +kernel) rfl)) <|
  z_ac (j := 7) rfl (z_cS dX9_setFog_9 wl_1432 qX9_in (by decide +kernel) (z_sn rfl rfl) rfl) <|
  z_ac (j := 8) rfl (z_eI (sp_if_ne dX9_setFog_12 rfl rfl)) <|
  z_ac (j := 9) rfl (z_eI (sp_aload_n (q := 0) dX9_setFog_15 rfl rfl)) <|
  z_ac (j := 10) rfl (z_eI (sp_iconst dX9_setFog_16 (by decide +kernel) rfl)) <|
  z_ac (j := 11) rfl (z_cV dX9_setFog_17 wl_1424 qX9_fails (by decide +kernel) ⟨_, _, rfl⟩ (z_sn rfl rfl) rfl) <|
  z_ac (j := 12) rfl (z_eR (sr_int dX9_setFog_20 rfl)) <|
  z_ac (j := 13) rfl (z_eI (sp_iload_n (q := 2) dX9_setFog_21 rfl rfl)) <|
  z_ac (j := 14) rfl (z_eI (sp_iconst dX9_setFog_22 (by decide +kernel) rfl)) <|
  z_ac (j := 15) rfl (z_eI (sp_bipush dX9_setFog_23 (by decide +kernel) rfl)) <|
  z_ac (j := 16) rfl (z_cS dX9_setFog_25 wl_1432 qX9_in (by decide +kernel) (z_sn rfl rfl) rfl) <|
  z_ac (j := 17) rfl (z_eI (sp_if_ne dX9_setFog_28 rfl rfl)) <|
  z_ac (j := 18) rfl (z_eI (sp_aload_n (q := 0) dX9_setFog_31 rfl rfl)) <|
  z_ac (j := 19) rfl (z_eI (sp_iconst dX9_setFog_32 (by decide +kernel) rfl)) <|
  z_ac (j := 20) rfl (z_cV dX9_setFog_33 wl_1424 qX9_fails (by decide +kernel) ⟨_, _, rfl⟩ (z_sn rfl rfl) rfl) <|
  z_ac (j := 21) rfl (z_eR (sr_int dX9_setFog_36 rfl)) <|
  z_ac (j := 22) rfl (z_eI (sp_aload_n (q := 0) dX9_setFog_37 rfl rfl)) <|
  z_ac (j := 23) rfl (z_cV dX9_setFog_38 wl_1867 qX9_keepsForUndo (by decide +kernel) ⟨_, _, rfl⟩ (z_sn rfl rfl) rfl) <|
  z_ac (j := 24) rfl (z_eI (sp_aload_n (q := 0) dX9_setFog_41 rfl rfl)) <|
  z_ac (j := 25) rfl (z_eI (sp_getf (C := RX9) (T := TX9) (Nf := 23) dX9_setFog_42 rfl inX9 (by decide) wf_1346 rfl)) <|
  z_ac (j := 26) rfl (z_eI (sp_bipush dX9_setFog_45 (by decide +kernel) rfl)) <|
  z_ac (j := 27) rfl (z_eI (sp_iload_n (q := 1) dX9_setFog_47 rfl rfl)) <|
  z_ac (j := 28) rfl (z_eI (sp_iadd dX9_setFog_48 rfl)) <|
  z_ac (j := 29) rfl (z_eI (sp_iald dX9_setFog_49 rfl)) <|
  z_ac (j := 30) rfl (z_eI (sp_istore_n (q := 3) dX9_setFog_50 rfl (by decide) (fun _ _ => rfl) rfl)) <|
  z_ac (j := 31) rfl (z_eI (sp_aload_n (q := 0) dX9_setFog_51 rfl rfl)) <|
  z_ac (j := 32) rfl (z_eI (sp_getf (C := RX9) (T := TX9) (Nf := 23) dX9_setFog_52 rfl inX9 (by decide) wf_1346 rfl)) <|
  z_ac (j := 33) rfl (z_eI (sp_bipush dX9_setFog_55 (by decide +kernel) rfl)) <|
  z_ac (j := 34) rfl (z_eI (sp_iload_n (q := 1) dX9_setFog_57 rfl rfl)) <|
  z_ac (j := 35) rfl (z_eI (sp_iadd dX9_setFog_58 rfl)) <|
  z_ac (j := 36) rfl (z_eI (sp_iload_n (q := 2) dX9_setFog_59 rfl rfl)) <|
  z_ac (j := 37) rfl (z_eI (sp_iast dX9_setFog_60 rfl)) <|
  z_ac (j := 38) rfl (z_eI (sp_iload_n (q := 3) dX9_setFog_61 rfl rfl)) <|
  z_ac (j := 39) rfl (z_eR (sr_int dX9_setFog_62 rfl)) <| z_an
theorem dX9_setTarget_0 : decode cX9_setTarget 0 = .ok (.aload_n 0, 1) := by decide +kernel
theorem dX9_setTarget_1 : decode cX9_setTarget 1 = .ok (.iconst 0, 1) := by decide +kernel
theorem dX9_setTarget_2 : decode cX9_setTarget 2 = .ok (.putfield 49, 3) := by decide +kernel
theorem dX9_setTarget_5 : decode cX9_setTarget 5 = .ok (.aload_n 0, 1) := by decide +kernel
theorem dX9_setTarget_6 : decode cX9_setTarget 6 = .ok (.iload_n 1, 1) := by decide +kernel
theorem dX9_setTarget_7 : decode cX9_setTarget 7 = .ok (.invokevirtual 298, 3) := by decide +kernel
theorem dX9_setTarget_10 : decode cX9_setTarget 10 = .ok (.ifCond .eq 11, 3) := by decide +kernel
theorem dX9_setTarget_13 : decode cX9_setTarget 13 = .ok (.aload_n 0, 1) := by decide +kernel
theorem dX9_setTarget_14 : decode cX9_setTarget 14 = .ok (.iload_n 2, 1) := by decide +kernel
theorem dX9_setTarget_15 : decode cX9_setTarget 15 = .ok (.invokevirtual 288, 3) := by decide +kernel
theorem dX9_setTarget_18 : decode cX9_setTarget 18 = .ok (.ifCond .ne 9, 3) := by decide +kernel
theorem dX9_setTarget_21 : decode cX9_setTarget 21 = .ok (.aload_n 0, 1) := by decide +kernel
theorem dX9_setTarget_22 : decode cX9_setTarget 22 = .ok (.iconst 1, 1) := by decide +kernel
theorem dX9_setTarget_23 : decode cX9_setTarget 23 = .ok (.invokevirtual 167, 3) := by decide +kernel
theorem dX9_setTarget_26 : decode cX9_setTarget 26 = .ok (.ireturn, 1) := by decide +kernel
theorem dX9_setTarget_27 : decode cX9_setTarget 27 = .ok (.aload_n 0, 1) := by decide +kernel
theorem dX9_setTarget_28 : decode cX9_setTarget 28 = .ok (.getfield 7, 3) := by decide +kernel
theorem dX9_setTarget_31 : decode cX9_setTarget 31 = .ok (.iload_n 1, 1) := by decide +kernel
theorem dX9_setTarget_32 : decode cX9_setTarget 32 = .ok (.iconst 2, 1) := by decide +kernel
theorem dX9_setTarget_33 : decode cX9_setTarget 33 = .ok (.invokestatic 95, 3) := by decide +kernel
theorem dX9_setTarget_36 : decode cX9_setTarget 36 = .ok (.iaload, 1) := by decide +kernel
theorem dX9_setTarget_37 : decode cX9_setTarget 37 = .ok (.ifCond .eq 9, 3) := by decide +kernel
theorem dX9_setTarget_40 : decode cX9_setTarget 40 = .ok (.aload_n 0, 1) := by decide +kernel
theorem dX9_setTarget_41 : decode cX9_setTarget 41 = .ok (.iconst 2, 1) := by decide +kernel
theorem dX9_setTarget_42 : decode cX9_setTarget 42 = .ok (.invokevirtual 167, 3) := by decide +kernel
theorem dX9_setTarget_45 : decode cX9_setTarget 45 = .ok (.ireturn, 1) := by decide +kernel
theorem dX9_setTarget_46 : decode cX9_setTarget 46 = .ok (.aload_n 0, 1) := by decide +kernel
theorem dX9_setTarget_47 : decode cX9_setTarget 47 = .ok (.invokevirtual 322, 3) := by decide +kernel
theorem dX9_setTarget_50 : decode cX9_setTarget 50 = .ok (.aload_n 0, 1) := by decide +kernel
theorem dX9_setTarget_51 : decode cX9_setTarget 51 = .ok (.getfield 7, 3) := by decide +kernel
theorem dX9_setTarget_54 : decode cX9_setTarget 54 = .ok (.iload_n 1, 1) := by decide +kernel
theorem dX9_setTarget_55 : decode cX9_setTarget 55 = .ok (.iconst 3, 1) := by decide +kernel
theorem dX9_setTarget_56 : decode cX9_setTarget 56 = .ok (.invokestatic 95, 3) := by decide +kernel
theorem dX9_setTarget_59 : decode cX9_setTarget 59 = .ok (.iload_n 2, 1) := by decide +kernel
theorem dX9_setTarget_60 : decode cX9_setTarget 60 = .ok (.iastore, 1) := by decide +kernel
theorem dX9_setTarget_61 : decode cX9_setTarget 61 = .ok (.aload_n 0, 1) := by decide +kernel
theorem dX9_setTarget_62 : decode cX9_setTarget 62 = .ok (.getfield 7, 3) := by decide +kernel
theorem dX9_setTarget_65 : decode cX9_setTarget 65 = .ok (.iload_n 1, 1) := by decide +kernel
theorem dX9_setTarget_66 : decode cX9_setTarget 66 = .ok (.iload_n 2, 1) := by decide +kernel
theorem dX9_setTarget_67 : decode cX9_setTarget 67 = .ok (.invokestatic 107, 3) := by decide +kernel
theorem dX9_setTarget_70 : decode cX9_setTarget 70 = .ok (.ireturn, 1) := by decide +kernel
theorem tX9_setTarget {L : Nat} {xs : Nat → Int32} {N : Nat} : z_AllE (zE L xs N 126) 0 (kX9_setTarget N) :=
  z_ac (j := 1) rfl (z_eI (sp_aload_n (q := 0) dX9_setTarget_0 rfl rfl)) <|
  z_ac (j := 2) rfl (z_eI (sp_iconst dX9_setTarget_1 (by decide +kernel) rfl)) <|
  z_ac (j := 3) rfl (z_eI (sp_putI (C := RX9) (T := TX9) (Nf := 23) dX9_setTarget_2 rfl inX9 tyX9_ok nmX9 (by decide) wf_1356 rfl (by decide +kernel) rfl)) <|
  z_ac (j := 4) rfl (z_eI (sp_aload_n (q := 0) dX9_setTarget_5 rfl rfl)) <|
  z_ac (j := 5) rfl (z_eI (sp_iload_n (q := 1) dX9_setTarget_6 rfl rfl)) <|
  z_ac (j := 6) rfl (z_cV dX9_setTarget_7 wl_1704 qX9_isWalker (by decide +kernel) ⟨_, _, rfl⟩ (z_sn rfl rfl) rfl) <|
  z_ac (j := 7) rfl (z_eI (sp_if_eq dX9_setTarget_10 rfl rfl)) <|
  z_ac (j := 8) rfl (z_eI (sp_aload_n (q := 0) dX9_setTarget_13 rfl rfl)) <|
  z_ac (j := 9) rfl (z_eI (sp_iload_n (q := 2) dX9_setTarget_14 rfl rfl)) <|
  z_ac (j := 10) rfl (z_cV dX9_setTarget_15 wl_1654 qX9_isLight (by decide +kernel) ⟨_, _, rfl⟩ (z_sn rfl rfl) rfl) <|
  z_ac (j := 11) rfl (z_eI (sp_if_ne dX9_setTarget_18 rfl rfl)) <|
  z_ac (j := 12) rfl (z_eI (sp_aload_n (q := 0) dX9_setTarget_21 rfl rfl)) <|
  z_ac (j := 13) rfl (z_eI (sp_iconst dX9_setTarget_22 (by decide +kernel) rfl)) <|
  z_ac (j := 14) rfl (z_cV dX9_setTarget_23 wl_1424 qX9_fails (by decide +kernel) ⟨_, _, rfl⟩ (z_sn rfl rfl) rfl) <|
  z_ac (j := 15) rfl (z_eR (sr_int dX9_setTarget_26 rfl)) <|
  z_ac (j := 16) rfl (z_eI (sp_aload_n (q := 0) dX9_setTarget_27 rfl rfl)) <|
  z_ac (j := 17) rfl (z_eI (sp_getf (C := RX9) (T := TX9) (Nf := 23) dX9_setTarget_28 rfl inX9 (by decide) wf_1346 rfl)) <|
  z_ac (j := 18) rfl (z_eI (sp_iload_n (q := 1) dX9_setTarget_31 rfl rfl)) <|
  z_ac (j := 19) rfl (z_eI (sp_iconst dX9_setTarget_32 (by decide +kernel) rfl)) <|
  z_ac (j := 20) rfl (z_cS dX9_setTarget_33 wl_1521 qX9_walkerAt (by decide +kernel) (z_sn rfl rfl) rfl) <|
  z_ac (j := 21) rfl (z_eI (sp_iald dX9_setTarget_36 rfl)) <|
  z_ac (j := 22) rfl (z_eI (sp_if_eq dX9_setTarget_37 rfl rfl)) <|
  z_ac (j := 23) rfl (z_eI (sp_aload_n (q := 0) dX9_setTarget_40 rfl rfl)) <|
  z_ac (j := 24) rfl (z_eI (sp_iconst dX9_setTarget_41 (by decide +kernel) rfl)) <|
  z_ac (j := 25) rfl (z_cV dX9_setTarget_42 wl_1424 qX9_fails (by decide +kernel) ⟨_, _, rfl⟩ (z_sn rfl rfl) rfl) <|
  z_ac (j := 26) rfl (z_eR (sr_int dX9_setTarget_45 rfl)) <|
  z_ac (j := 27) rfl (z_eI (sp_aload_n (q := 0) dX9_setTarget_46 rfl rfl)) <|
  z_ac (j := 28) rfl (z_cV dX9_setTarget_47 wl_1867 qX9_keepsForUndo (by decide +kernel) ⟨_, _, rfl⟩ (z_sn rfl rfl) rfl) <|
  z_ac (j := 29) rfl (z_eI (sp_aload_n (q := 0) dX9_setTarget_50 rfl rfl)) <|
  z_ac (j := 30) rfl (z_eI (sp_getf (C := RX9) (T := TX9) (Nf := 23) dX9_setTarget_51 rfl inX9 (by decide) wf_1346 rfl)) <|
  z_ac (j := 31) rfl (z_eI (sp_iload_n (q := 1) dX9_setTarget_54 rfl rfl)) <|
  z_ac (j := 32) rfl (z_eI (sp_iconst dX9_setTarget_55 (by decide +kernel) rfl)) <|
  z_ac (j := 33) rfl (z_cS dX9_setTarget_56 wl_1521 qX9_walkerAt (by decide +kernel) (z_sn rfl rfl) rfl) <|
  z_ac (j := 34) rfl (z_eI (sp_iload_n (q := 2) dX9_setTarget_59 rfl rfl)) <|
  z_ac (j := 35) rfl (z_eI (sp_iast dX9_setTarget_60 rfl)) <|
  z_ac (j := 36) rfl (z_eI (sp_aload_n (q := 0) dX9_setTarget_61 rfl rfl)) <|
  z_ac (j := 37) rfl (z_eI (sp_getf (C := RX9) (T := TX9) (Nf := 23) dX9_setTarget_62 rfl inX9 (by decide) wf_1346 rfl)) <|
  z_ac (j := 38) rfl (z_eI (sp_iload_n (q := 1) dX9_setTarget_65 rfl rfl)) <|
  z_ac (j := 39) rfl (z_eI (sp_iload_n (q := 2) dX9_setTarget_66 rfl rfl)) <|
  z_ac (j := 40) rfl (z_cS dX9_setTarget_67 wl_1759 qX9_farFromLight (by decide +kernel) (z_sn rfl rfl) rfl) <|
  z_ac (j := 41) rfl (z_eR (sr_int dX9_setTarget_70 rfl)) <| z_an
theorem dX9_undo_0 : decode cX9_undo 0 = .ok (.aload_n 0, 1) := by decide +kernel
theorem dX9_undo_1 : decode cX9_undo 1 = .ok (.iconst 0, 1) := by decide +kernel
theorem dX9_undo_2 : decode cX9_undo 2 = .ok (.putfield 49, 3) := by decide +kernel
theorem dX9_undo_5 : decode cX9_undo 5 = .ok (.aload_n 0, 1) := by decide +kernel
theorem dX9_undo_6 : decode cX9_undo 6 = .ok (.getfield 249, 3) := by decide +kernel
theorem dX9_undo_9 : decode cX9_undo 9 = .ok (.ifCond .ne 9, 3) := by decide +kernel
theorem dX9_undo_12 : decode cX9_undo 12 = .ok (.aload_n 0, 1) := by decide +kernel
theorem dX9_undo_13 : decode cX9_undo 13 = .ok (.iconst 1, 1) := by decide +kernel
theorem dX9_undo_14 : decode cX9_undo 14 = .ok (.invokevirtual 167, 3) := by decide +kernel
theorem dX9_undo_17 : decode cX9_undo 17 = .ok (.ireturn, 1) := by decide +kernel
theorem dX9_undo_18 : decode cX9_undo 18 = .ok (.aload_n 0, 1) := by decide +kernel
theorem dX9_undo_19 : decode cX9_undo 19 = .ok (.dup, 1) := by decide +kernel
theorem dX9_undo_20 : decode cX9_undo 20 = .ok (.getfield 249, 3) := by decide +kernel
theorem dX9_undo_23 : decode cX9_undo 23 = .ok (.iconst 1, 1) := by decide +kernel
theorem dX9_undo_24 : decode cX9_undo 24 = .ok (.isub, 1) := by decide +kernel
theorem dX9_undo_25 : decode cX9_undo 25 = .ok (.putfield 249, 3) := by decide +kernel
theorem dX9_undo_28 : decode cX9_undo 28 = .ok (.aload_n 0, 1) := by decide +kernel
theorem dX9_undo_29 : decode cX9_undo 29 = .ok (.getfield 19, 3) := by decide +kernel
theorem dX9_undo_32 : decode cX9_undo 32 = .ok (.sipush 256, 3) := by decide +kernel
theorem dX9_undo_35 : decode cX9_undo 35 = .ok (.aload_n 0, 1) := by decide +kernel
theorem dX9_undo_36 : decode cX9_undo 36 = .ok (.getfield 249, 3) := by decide +kernel
theorem dX9_undo_39 : decode cX9_undo 39 = .ok (.imul, 1) := by decide +kernel
theorem dX9_undo_40 : decode cX9_undo 40 = .ok (.aload_n 0, 1) := by decide +kernel
theorem dX9_undo_41 : decode cX9_undo 41 = .ok (.getfield 7, 3) := by decide +kernel
theorem dX9_undo_44 : decode cX9_undo 44 = .ok (.iconst 0, 1) := by decide +kernel
theorem dX9_undo_45 : decode cX9_undo 45 = .ok (.invokestatic 52, 3) := by decide +kernel
theorem dX9_undo_48 : decode cX9_undo 48 = .ok (.aload_n 0, 1) := by decide +kernel
theorem dX9_undo_49 : decode cX9_undo 49 = .ok (.getfield 249, 3) := by decide +kernel
theorem dX9_undo_52 : decode cX9_undo 52 = .ok (.ireturn, 1) := by decide +kernel
theorem tX9_undo {L : Nat} {xs : Nat → Int32} {N : Nat} : z_AllE (zE L xs N 127) 0 (kX9_undo N) :=
  z_ac (j := 1) rfl (z_eI (sp_aload_n (q := 0) dX9_undo_0 rfl rfl)) <|
  z_ac (j := 2) rfl (z_eI (sp_iconst dX9_undo_1 (by decide +kernel) rfl)) <|
  z_ac (j := 3) rfl (z_eI (sp_putI (C := RX9) (T := TX9) (Nf := 23) dX9_undo_2 rfl inX9 tyX9_ok nmX9 (by decide) wf_1356 rfl (by decide +kernel) rfl)) <|
  z_ac (j := 4) rfl (z_eI (sp_aload_n (q := 0) dX9_undo_5 rfl rfl)) <|
  z_ac (j := 5) rfl (z_eI (sp_getf (C := RX9) (T := TX9) (Nf := 23) dX9_undo_6 rfl inX9 (by decide) wf_1352 rfl)) <|
  z_ac (j := 6) rfl (z_eI (sp_if_ne dX9_undo_9 rfl rfl)) <|
  z_ac (j := 7) rfl (z_eI (sp_aload_n (q := 0) dX9_undo_12 rfl rfl)) <|
  z_ac (j := 8) rfl (z_eI (sp_iconst dX9_undo_13 (by decide +kernel) rfl)) <|
  z_ac (j := 9) rfl (z_cV dX9_undo_14 wl_1424 qX9_fails (by decide +kernel) ⟨_, _, rfl⟩ (z_sn rfl rfl) rfl) <|
  z_ac (j := 10) rfl (z_eR (sr_int dX9_undo_17 rfl)) <|
  z_ac (j := 11) rfl (z_eI (sp_aload_n (q := 0) dX9_undo_18 rfl rfl)) <|
  z_ac (j := 12) rfl (z_eI (sp_dup dX9_undo_19 rfl)) <|
  z_ac (j := 13) rfl (z_eI (sp_getf (C := RX9) (T := TX9) (Nf := 23) dX9_undo_20 rfl inX9 (by decide) wf_1352 rfl)) <|
  z_ac (j := 14) rfl (z_eI (sp_iconst dX9_undo_23 (by decide +kernel) rfl)) <|
  z_ac (j := 15) rfl (z_eI (sp_isub dX9_undo_24 rfl)) <|
  z_ac (j := 16) rfl (z_eI (sp_putI (C := RX9) (T := TX9) (Nf := 23) dX9_undo_25 rfl inX9 tyX9_ok nmX9 (by decide) wf_1352 rfl (by decide +kernel) rfl)) <|
  z_ac (j := 17) rfl (z_eI (sp_aload_n (q := 0) dX9_undo_28 rfl rfl)) <|
  z_ac (j := 18) rfl (z_eI (sp_getf (C := RX9) (T := TX9) (Nf := 23) dX9_undo_29 rfl inX9 (by decide) wf_1349 rfl)) <|
  z_ac (j := 19) rfl (z_eI (sp_sipush dX9_undo_32 (by decide +kernel) rfl)) <|
  z_ac (j := 20) rfl (z_eI (sp_aload_n (q := 0) dX9_undo_35 rfl rfl)) <|
  z_ac (j := 21) rfl (z_eI (sp_getf (C := RX9) (T := TX9) (Nf := 23) dX9_undo_36 rfl inX9 (by decide) wf_1352 rfl)) <|
  z_ac (j := 22) rfl (z_eI (sp_imul dX9_undo_39 rfl)) <|
  z_ac (j := 23) rfl (z_eI (sp_aload_n (q := 0) dX9_undo_40 rfl rfl)) <|
  z_ac (j := 24) rfl (z_eI (sp_getf (C := RX9) (T := TX9) (Nf := 23) dX9_undo_41 rfl inX9 (by decide) wf_1346 rfl)) <|
  z_ac (j := 25) rfl (z_eI (sp_iconst dX9_undo_44 (by decide +kernel) rfl)) <|
  z_ac (j := 26) rfl (z_cS dX9_undo_45 wl_1524 qX9_layRow (by decide +kernel) (z_sn rfl rfl) rfl) <|
  z_ac (j := 27) rfl (z_eI (sp_aload_n (q := 0) dX9_undo_48 rfl rfl)) <|
  z_ac (j := 28) rfl (z_eI (sp_getf (C := RX9) (T := TX9) (Nf := 23) dX9_undo_49 rfl inX9 (by decide) wf_1352 rfl)) <|
  z_ac (j := 29) rfl (z_eR (sr_int dX9_undo_52 rfl)) <| z_an
theorem dX9_saveSnapshot_0 : decode cX9_saveSnapshot 0 = .ok (.aload_n 0, 1) := by decide +kernel
theorem dX9_saveSnapshot_1 : decode cX9_saveSnapshot 1 = .ok (.iconst 0, 1) := by decide +kernel
theorem dX9_saveSnapshot_2 : decode cX9_saveSnapshot 2 = .ok (.putfield 49, 3) := by decide +kernel
theorem dX9_saveSnapshot_5 : decode cX9_saveSnapshot 5 = .ok (.iload_n 1, 1) := by decide +kernel
theorem dX9_saveSnapshot_6 : decode cX9_saveSnapshot 6 = .ok (.iconst 0, 1) := by decide +kernel
theorem dX9_saveSnapshot_7 : decode cX9_saveSnapshot 7 = .ok (.iconst 1, 1) := by decide +kernel
theorem dX9_saveSnapshot_8 : decode cX9_saveSnapshot 8 = .ok (.invokestatic 56, 3) := by decide +kernel
theorem dX9_saveSnapshot_11 : decode cX9_saveSnapshot 11 = .ok (.ifCond .ne 9, 3) := by decide +kernel
theorem dX9_saveSnapshot_14 : decode cX9_saveSnapshot 14 = .ok (.aload_n 0, 1) := by decide +kernel
theorem dX9_saveSnapshot_15 : decode cX9_saveSnapshot 15 = .ok (.iconst 1, 1) := by decide +kernel
theorem dX9_saveSnapshot_16 : decode cX9_saveSnapshot 16 = .ok (.invokevirtual 167, 3) := by decide +kernel
theorem dX9_saveSnapshot_19 : decode cX9_saveSnapshot 19 = .ok (.ireturn, 1) := by decide +kernel
theorem dX9_saveSnapshot_20 : decode cX9_saveSnapshot 20 = .ok (.aload_n 0, 1) := by decide +kernel
theorem dX9_saveSnapshot_21 : decode cX9_saveSnapshot 21 = .ok (.getfield 7, 3) := by decide +kernel
theorem dX9_saveSnapshot_24 : decode cX9_saveSnapshot 24 = .ok (.iconst 0, 1) := by decide +kernel
theorem dX9_saveSnapshot_25 : decode cX9_saveSnapshot 25 = .ok (.aload_n 0, 1) := by decide +kernel
theorem dX9_saveSnapshot_26 : decode cX9_saveSnapshot 26 = .ok (.getfield 22, 3) := by decide +kernel
theorem dX9_saveSnapshot_29 : decode cX9_saveSnapshot 29 = .ok (.sipush 256, 3) := by decide +kernel
theorem dX9_saveSnapshot_32 : decode cX9_saveSnapshot 32 = .ok (.iload_n 1, 1) := by decide +kernel
theorem dX9_saveSnapshot_33 : decode cX9_saveSnapshot 33 = .ok (.imul, 1) := by decide +kernel
theorem dX9_saveSnapshot_34 : decode cX9_saveSnapshot 34 = .ok (.invokestatic 52, 3) := by decide +kernel
theorem dX9_saveSnapshot_37 : decode cX9_saveSnapshot 37 = .ok (.aload_n 0, 1) := by decide +kernel
theorem dX9_saveSnapshot_38 : decode cX9_saveSnapshot 38 = .ok (.getfield 25, 3) := by decide +kernel
theorem dX9_saveSnapshot_41 : decode cX9_saveSnapshot 41 = .ok (.iload_n 1, 1) := by decide +kernel
theorem dX9_saveSnapshot_42 : decode cX9_saveSnapshot 42 = .ok (.iconst 1, 1) := by decide +kernel
theorem dX9_saveSnapshot_43 : decode cX9_saveSnapshot 43 = .ok (.bastore, 1) := by decide +kernel
theorem dX9_saveSnapshot_44 : decode cX9_saveSnapshot 44 = .ok (.aload_n 0, 1) := by decide +kernel
theorem dX9_saveSnapshot_45 : decode cX9_saveSnapshot 45 = .ok (.getfield 7, 3) := by decide +kernel
theorem dX9_saveSnapshot_48 : decode cX9_saveSnapshot 48 = .ok (.iconst 3, 1) := by decide +kernel
theorem dX9_saveSnapshot_49 : decode cX9_saveSnapshot 49 = .ok (.iaload, 1) := by decide +kernel
theorem dX9_saveSnapshot_50 : decode cX9_saveSnapshot 50 = .ok (.ireturn, 1) := by decide +kernel
theorem tX9_saveSnapshot {L : Nat} {xs : Nat → Int32} {N : Nat} : z_AllE (zE L xs N 128) 0 (kX9_saveSnapshot N) :=
  z_ac (j := 1) rfl (z_eI (sp_aload_n (q := 0) dX9_saveSnapshot_0 rfl rfl)) <|
  z_ac (j := 2) rfl (z_eI (sp_iconst dX9_saveSnapshot_1 (by decide +kernel) rfl)) <|
  z_ac (j := 3) rfl (z_eI (sp_putI (C := RX9) (T := TX9) (Nf := 23) dX9_saveSnapshot_2 rfl inX9 tyX9_ok nmX9 (by decide) wf_1356 rfl (by decide +kernel) rfl)) <|
  z_ac (j := 4) rfl (z_eI (sp_iload_n (q := 1) dX9_saveSnapshot_5 rfl rfl)) <|
  z_ac (j := 5) rfl (z_eI (sp_iconst dX9_saveSnapshot_6 (by decide +kernel) rfl)) <|
  z_ac (j := 6) rfl (z_eI (sp_iconst dX9_saveSnapshot_7 (by decide +kernel) rfl)) <|
  z_ac (j := 7) rfl (z_cS dX9_saveSnapshot_8 wl_1432 qX9_in (by decide +kernel) (z_sn rfl rfl) rfl) <|
  z_ac (j := 8) rfl (z_eI (sp_if_ne dX9_saveSnapshot_11 rfl rfl)) <|
  z_ac (j := 9) rfl (z_eI (sp_aload_n (q := 0) dX9_saveSnapshot_14 rfl rfl)) <|
  z_ac (j := 10) rfl (z_eI (sp_iconst dX9_saveSnapshot_15 (by decide +kernel) rfl)) <|
  z_ac (j := 11) rfl (z_cV dX9_saveSnapshot_16 wl_1424 qX9_fails (by decide +kernel) ⟨_, _, rfl⟩ (z_sn rfl rfl) rfl) <|
  z_ac (j := 12) rfl (z_eR (sr_int dX9_saveSnapshot_19 rfl)) <|
  z_ac (j := 13) rfl (z_eI (sp_aload_n (q := 0) dX9_saveSnapshot_20 rfl rfl)) <|
  z_ac (j := 14) rfl (z_eI (sp_getf (C := RX9) (T := TX9) (Nf := 23) dX9_saveSnapshot_21 rfl inX9 (by decide) wf_1346 rfl)) <|
  z_ac (j := 15) rfl (z_eI (sp_iconst dX9_saveSnapshot_24 (by decide +kernel) rfl)) <|
  z_ac (j := 16) rfl (z_eI (sp_aload_n (q := 0) dX9_saveSnapshot_25 rfl rfl)) <|
  z_ac (j := 17) rfl (z_eI (sp_getf (C := RX9) (T := TX9) (Nf := 23) dX9_saveSnapshot_26 rfl inX9 (by decide) wf_1350 rfl)) <|
  z_ac (j := 18) rfl (z_eI (sp_sipush dX9_saveSnapshot_29 (by decide +kernel) rfl)) <|
  z_ac (j := 19) rfl (z_eI (sp_iload_n (q := 1) dX9_saveSnapshot_32 rfl rfl)) <|
  z_ac (j := 20) rfl (z_eI (sp_imul dX9_saveSnapshot_33 rfl)) <|
  z_ac (j := 21) rfl (z_cS dX9_saveSnapshot_34 wl_1524 qX9_layRow (by decide +kernel) (z_sn rfl rfl) rfl) <|
  z_ac (j := 22) rfl (z_eI (sp_aload_n (q := 0) dX9_saveSnapshot_37 rfl rfl)) <|
  z_ac (j := 23) rfl (z_eI (sp_getf (C := RX9) (T := TX9) (Nf := 23) dX9_saveSnapshot_38 rfl inX9 (by decide) wf_1351 rfl)) <|
  z_ac (j := 24) rfl (z_eI (sp_iload_n (q := 1) dX9_saveSnapshot_41 rfl rfl)) <|
  z_ac (j := 25) rfl (z_eI (sp_iconst dX9_saveSnapshot_42 (by decide +kernel) rfl)) <|
  z_ac (j := 26) rfl (z_eI (sp_zast dX9_saveSnapshot_43 rfl)) <|
  z_ac (j := 27) rfl (z_eI (sp_aload_n (q := 0) dX9_saveSnapshot_44 rfl rfl)) <|
  z_ac (j := 28) rfl (z_eI (sp_getf (C := RX9) (T := TX9) (Nf := 23) dX9_saveSnapshot_45 rfl inX9 (by decide) wf_1346 rfl)) <|
  z_ac (j := 29) rfl (z_eI (sp_iconst dX9_saveSnapshot_48 (by decide +kernel) rfl)) <|
  z_ac (j := 30) rfl (z_eI (sp_iald dX9_saveSnapshot_49 rfl)) <|
  z_ac (j := 31) rfl (z_eR (sr_int dX9_saveSnapshot_50 rfl)) <| z_an
theorem dX9_restoreSnapshot_0 : decode cX9_restoreSnapshot 0 = .ok (.aload_n 0, 1) := by decide +kernel
theorem dX9_restoreSnapshot_1 : decode cX9_restoreSnapshot 1 = .ok (.iconst 0, 1) := by decide +kernel
theorem dX9_restoreSnapshot_2 : decode cX9_restoreSnapshot 2 = .ok (.putfield 49, 3) := by decide +kernel
theorem dX9_restoreSnapshot_5 : decode cX9_restoreSnapshot 5 = .ok (.iload_n 1, 1) := by decide +kernel
theorem dX9_restoreSnapshot_6 : decode cX9_restoreSnapshot 6 = .ok (.iconst 0, 1) := by decide +kernel
theorem dX9_restoreSnapshot_7 : decode cX9_restoreSnapshot 7 = .ok (.iconst 1, 1) := by decide +kernel
theorem dX9_restoreSnapshot_8 : decode cX9_restoreSnapshot 8 = .ok (.invokestatic 56, 3) := by decide +kernel
theorem dX9_restoreSnapshot_11 : decode cX9_restoreSnapshot 11 = .ok (.ifCond .ne 9, 3) := by decide +kernel
theorem dX9_restoreSnapshot_14 : decode cX9_restoreSnapshot 14 = .ok (.aload_n 0, 1) := by decide +kernel
theorem dX9_restoreSnapshot_15 : decode cX9_restoreSnapshot 15 = .ok (.iconst 1, 1) := by decide +kernel
theorem dX9_restoreSnapshot_16 : decode cX9_restoreSnapshot 16 = .ok (.invokevirtual 167, 3) := by decide +kernel
theorem dX9_restoreSnapshot_19 : decode cX9_restoreSnapshot 19 = .ok (.ireturn, 1) := by decide +kernel
theorem dX9_restoreSnapshot_20 : decode cX9_restoreSnapshot 20 = .ok (.aload_n 0, 1) := by decide +kernel
theorem dX9_restoreSnapshot_21 : decode cX9_restoreSnapshot 21 = .ok (.getfield 25, 3) := by decide +kernel
theorem dX9_restoreSnapshot_24 : decode cX9_restoreSnapshot 24 = .ok (.iload_n 1, 1) := by decide +kernel
theorem dX9_restoreSnapshot_25 : decode cX9_restoreSnapshot 25 = .ok (.baload, 1) := by decide +kernel
theorem dX9_restoreSnapshot_26 : decode cX9_restoreSnapshot 26 = .ok (.ifCond .ne 9, 3) := by decide +kernel
theorem dX9_restoreSnapshot_29 : decode cX9_restoreSnapshot 29 = .ok (.aload_n 0, 1) := by decide +kernel
theorem dX9_restoreSnapshot_30 : decode cX9_restoreSnapshot 30 = .ok (.iconst 2, 1) := by decide +kernel
theorem dX9_restoreSnapshot_31 : decode cX9_restoreSnapshot 31 = .ok (.invokevirtual 167, 3) := by decide +kernel
theorem dX9_restoreSnapshot_34 : decode cX9_restoreSnapshot 34 = .ok (.ireturn, 1) := by decide +kernel
theorem dX9_restoreSnapshot_35 : decode cX9_restoreSnapshot 35 = .ok (.aload_n 0, 1) := by decide +kernel
theorem dX9_restoreSnapshot_36 : decode cX9_restoreSnapshot 36 = .ok (.invokevirtual 322, 3) := by decide +kernel
theorem dX9_restoreSnapshot_39 : decode cX9_restoreSnapshot 39 = .ok (.aload_n 0, 1) := by decide +kernel
theorem dX9_restoreSnapshot_40 : decode cX9_restoreSnapshot 40 = .ok (.getfield 22, 3) := by decide +kernel
theorem dX9_restoreSnapshot_43 : decode cX9_restoreSnapshot 43 = .ok (.sipush 256, 3) := by decide +kernel
theorem dX9_restoreSnapshot_46 : decode cX9_restoreSnapshot 46 = .ok (.iload_n 1, 1) := by decide +kernel
theorem dX9_restoreSnapshot_47 : decode cX9_restoreSnapshot 47 = .ok (.imul, 1) := by decide +kernel
theorem dX9_restoreSnapshot_48 : decode cX9_restoreSnapshot 48 = .ok (.aload_n 0, 1) := by decide +kernel
theorem dX9_restoreSnapshot_49 : decode cX9_restoreSnapshot 49 = .ok (.getfield 7, 3) := by decide +kernel
theorem dX9_restoreSnapshot_52 : decode cX9_restoreSnapshot 52 = .ok (.iconst 0, 1) := by decide +kernel
theorem dX9_restoreSnapshot_53 : decode cX9_restoreSnapshot 53 = .ok (.invokestatic 52, 3) := by decide +kernel
theorem dX9_restoreSnapshot_56 : decode cX9_restoreSnapshot 56 = .ok (.aload_n 0, 1) := by decide +kernel
theorem dX9_restoreSnapshot_57 : decode cX9_restoreSnapshot 57 = .ok (.getfield 7, 3) := by decide +kernel
theorem dX9_restoreSnapshot_60 : decode cX9_restoreSnapshot 60 = .ok (.iconst 3, 1) := by decide +kernel
theorem dX9_restoreSnapshot_61 : decode cX9_restoreSnapshot 61 = .ok (.iaload, 1) := by decide +kernel
theorem dX9_restoreSnapshot_62 : decode cX9_restoreSnapshot 62 = .ok (.ireturn, 1) := by decide +kernel
theorem tX9_restoreSnapshot {L : Nat} {xs : Nat → Int32} {N : Nat} : z_AllE (zE L xs N 129) 0 (kX9_restoreSnapshot N) :=
  z_ac (j := 1) rfl (z_eI (sp_aload_n (q := 0) dX9_restoreSnapshot_0 rfl rfl)) <|
  z_ac (j := 2) rfl (z_eI (sp_iconst dX9_restoreSnapshot_1 (by decide +kernel) rfl)) <|
  z_ac (j := 3) rfl (z_eI (sp_putI (C := RX9) (T := TX9) (Nf := 23) dX9_restoreSnapshot_2 rfl inX9 tyX9_ok nmX9 (by decide) wf_1356 rfl (by decide +kernel) rfl)) <|
  z_ac (j := 4) rfl (z_eI (sp_iload_n (q := 1) dX9_restoreSnapshot_5 rfl rfl)) <|
  z_ac (j := 5) rfl (z_eI (sp_iconst dX9_restoreSnapshot_6 (by decide +kernel) rfl)) <|
  z_ac (j := 6) rfl (z_eI (sp_iconst dX9_restoreSnapshot_7 (by decide +kernel) rfl)) <|
  z_ac (j := 7) rfl (z_cS dX9_restoreSnapshot_8 wl_1432 qX9_in (by decide +kernel) (z_sn rfl rfl) rfl) <|
  z_ac (j := 8) rfl (z_eI (sp_if_ne dX9_restoreSnapshot_11 rfl rfl)) <|
  z_ac (j := 9) rfl (z_eI (sp_aload_n (q := 0) dX9_restoreSnapshot_14 rfl rfl)) <|
  z_ac (j := 10) rfl (z_eI (sp_iconst dX9_restoreSnapshot_15 (by decide +kernel) rfl)) <|
  z_ac (j := 11) rfl (z_cV dX9_restoreSnapshot_16 wl_1424 qX9_fails (by decide +kernel) ⟨_, _, rfl⟩ (z_sn rfl rfl) rfl) <|
  z_ac (j := 12) rfl (z_eR (sr_int dX9_restoreSnapshot_19 rfl)) <|
  z_ac (j := 13) rfl (z_eI (sp_aload_n (q := 0) dX9_restoreSnapshot_20 rfl rfl)) <|
  z_ac (j := 14) rfl (z_eI (sp_getf (C := RX9) (T := TX9) (Nf := 23) dX9_restoreSnapshot_21 rfl inX9 (by decide) wf_1351 rfl)) <|
  z_ac (j := 15) rfl (z_eI (sp_iload_n (q := 1) dX9_restoreSnapshot_24 rfl rfl)) <|
  z_ac (j := 16) rfl (z_eI (sp_zald dX9_restoreSnapshot_25 rfl)) <|
  z_ac (j := 17) rfl (z_eI (sp_if_ne dX9_restoreSnapshot_26 rfl rfl)) <|
  z_ac (j := 18) rfl (z_eI (sp_aload_n (q := 0) dX9_restoreSnapshot_29 rfl rfl)) <|
  z_ac (j := 19) rfl (z_eI (sp_iconst dX9_restoreSnapshot_30 (by decide +kernel) rfl)) <|
  z_ac (j := 20) rfl (z_cV dX9_restoreSnapshot_31 wl_1424 qX9_fails (by decide +kernel) ⟨_, _, rfl⟩ (z_sn rfl rfl) rfl) <|
  z_ac (j := 21) rfl (z_eR (sr_int dX9_restoreSnapshot_34 rfl)) <|
  z_ac (j := 22) rfl (z_eI (sp_aload_n (q := 0) dX9_restoreSnapshot_35 rfl rfl)) <|
  z_ac (j := 23) rfl (z_cV dX9_restoreSnapshot_36 wl_1867 qX9_keepsForUndo (by decide +kernel) ⟨_, _, rfl⟩ (z_sn rfl rfl) rfl) <|
  z_ac (j := 24) rfl (z_eI (sp_aload_n (q := 0) dX9_restoreSnapshot_39 rfl rfl)) <|
  z_ac (j := 25) rfl (z_eI (sp_getf (C := RX9) (T := TX9) (Nf := 23) dX9_restoreSnapshot_40 rfl inX9 (by decide) wf_1350 rfl)) <|
  z_ac (j := 26) rfl (z_eI (sp_sipush dX9_restoreSnapshot_43 (by decide +kernel) rfl)) <|
  z_ac (j := 27) rfl (z_eI (sp_iload_n (q := 1) dX9_restoreSnapshot_46 rfl rfl)) <|
  z_ac (j := 28) rfl (z_eI (sp_imul dX9_restoreSnapshot_47 rfl)) <|
  z_ac (j := 29) rfl (z_eI (sp_aload_n (q := 0) dX9_restoreSnapshot_48 rfl rfl)) <|
  z_ac (j := 30) rfl (z_eI (sp_getf (C := RX9) (T := TX9) (Nf := 23) dX9_restoreSnapshot_49 rfl inX9 (by decide) wf_1346 rfl)) <|
  z_ac (j := 31) rfl (z_eI (sp_iconst dX9_restoreSnapshot_52 (by decide +kernel) rfl)) <|
  z_ac (j := 32) rfl (z_cS dX9_restoreSnapshot_53 wl_1524 qX9_layRow (by decide +kernel) (z_sn rfl rfl) rfl) <|
  z_ac (j := 33) rfl (z_eI (sp_aload_n (q := 0) dX9_restoreSnapshot_56 rfl rfl)) <|
  z_ac (j := 34) rfl (z_eI (sp_getf (C := RX9) (T := TX9) (Nf := 23) dX9_restoreSnapshot_57 rfl inX9 (by decide) wf_1346 rfl)) <|
  z_ac (j := 35) rfl (z_eI (sp_iconst dX9_restoreSnapshot_60 (by decide +kernel) rfl)) <|
  z_ac (j := 36) rfl (z_eI (sp_iald dX9_restoreSnapshot_61 rfl)) <|
  z_ac (j := 37) rfl (z_eR (sr_int dX9_restoreSnapshot_62 rfl)) <| z_an
theorem dX9_puts_0 : decode cX9_puts 0 = .ok (.aload_n 0, 1) := by decide +kernel
theorem dX9_puts_1 : decode cX9_puts 1 = .ok (.getfield 42, 3) := by decide +kernel
theorem dX9_puts_4 : decode cX9_puts 4 = .ok (.aload_n 0, 1) := by decide +kernel
theorem dX9_puts_5 : decode cX9_puts 5 = .ok (.getfield 325, 3) := by decide +kernel
theorem dX9_puts_8 : decode cX9_puts 8 = .ok (.iload_n 1, 1) := by decide +kernel
theorem dX9_puts_9 : decode cX9_puts 9 = .ok (.iastore, 1) := by decide +kernel
theorem dX9_puts_10 : decode cX9_puts 10 = .ok (.aload_n 0, 1) := by decide +kernel
theorem dX9_puts_11 : decode cX9_puts 11 = .ok (.dup, 1) := by decide +kernel
theorem dX9_puts_12 : decode cX9_puts 12 = .ok (.getfield 325, 3) := by decide +kernel
theorem dX9_puts_15 : decode cX9_puts 15 = .ok (.iconst 1, 1) := by decide +kernel
theorem dX9_puts_16 : decode cX9_puts 16 = .ok (.iadd, 1) := by decide +kernel
theorem dX9_puts_17 : decode cX9_puts 17 = .ok (.putfield 325, 3) := by decide +kernel
theorem dX9_puts_20 : decode cX9_puts 20 = .ok (.return_, 1) := by decide +kernel
theorem tX9_puts {L : Nat} {xs : Nat → Int32} {N : Nat} : z_AllE (zE L xs N 130) 0 (kX9_puts N) :=
  z_ac (j := 1) rfl (z_eI (sp_aload_n (q := 0) dX9_puts_0 rfl rfl)) <|
  z_ac (j := 2) rfl (z_eI (sp_getf (C := RX9) (T := TX9) (Nf := 23) dX9_puts_1 rfl inX9 (by decide) wf_1367 rfl)) <|
  z_ac (j := 3) rfl (z_eI (sp_aload_n (q := 0) dX9_puts_4 rfl rfl)) <|
  z_ac (j := 4) rfl (z_eI (sp_getf (C := RX9) (T := TX9) (Nf := 23) dX9_puts_5 rfl inX9 (by decide) wf_1368 rfl)) <|
  z_ac (j := 5) rfl (z_eI (sp_iload_n (q := 1) dX9_puts_8 rfl rfl)) <|
  z_ac (j := 6) rfl (z_eI (sp_iast dX9_puts_9 rfl)) <|
  z_ac (j := 7) rfl (z_eI (sp_aload_n (q := 0) dX9_puts_10 rfl rfl)) <|
  z_ac (j := 8) rfl (z_eI (sp_dup dX9_puts_11 rfl)) <|
  z_ac (j := 9) rfl (z_eI (sp_getf (C := RX9) (T := TX9) (Nf := 23) dX9_puts_12 rfl inX9 (by decide) wf_1368 rfl)) <|
  z_ac (j := 10) rfl (z_eI (sp_iconst dX9_puts_15 (by decide +kernel) rfl)) <|
  z_ac (j := 11) rfl (z_eI (sp_iadd dX9_puts_16 rfl)) <|
  z_ac (j := 12) rfl (z_eI (sp_putI (C := RX9) (T := TX9) (Nf := 23) dX9_puts_17 rfl inX9 tyX9_ok nmX9 (by decide) wf_1368 rfl (by decide +kernel) rfl)) <|
  z_ac (j := 13) rfl (z_eW (sv_void dX9_puts_20 rfl)) <| z_an
theorem dX9_walkerOn_0 : decode cX9_walkerOn 0 = .ok (.iconst 0, 1) := by decide +kernel
theorem dX9_walkerOn_1 : decode cX9_walkerOn 1 = .ok (.istore_n 3, 1) := by decide +kernel
theorem dX9_walkerOn_2 : decode cX9_walkerOn 2 = .ok (.iload_n 3, 1) := by decide +kernel
theorem dX9_walkerOn_3 : decode cX9_walkerOn 3 = .ok (.aload_n 0, 1) := by decide +kernel
theorem dX9_walkerOn_4 : decode cX9_walkerOn 4 = .ok (.getfield 7, 3) := by decide +kernel
theorem dX9_walkerOn_7 : decode cX9_walkerOn 7 = .ok (.iconst 5, 1) := by decide +kernel
theorem dX9_walkerOn_8 : decode cX9_walkerOn 8 = .ok (.iaload, 1) := by decide +kernel
theorem dX9_walkerOn_9 : decode cX9_walkerOn 9 = .ok (.if_icmp .ge 37, 3) := by decide +kernel
theorem dX9_walkerOn_12 : decode cX9_walkerOn 12 = .ok (.aload_n 0, 1) := by decide +kernel
theorem dX9_walkerOn_13 : decode cX9_walkerOn 13 = .ok (.getfield 7, 3) := by decide +kernel
theorem dX9_walkerOn_16 : decode cX9_walkerOn 16 = .ok (.iload_n 3, 1) := by decide +kernel
theorem dX9_walkerOn_17 : decode cX9_walkerOn 17 = .ok (.iconst 2, 1) := by decide +kernel
theorem dX9_walkerOn_18 : decode cX9_walkerOn 18 = .ok (.invokestatic 95, 3) := by decide +kernel
theorem dX9_walkerOn_21 : decode cX9_walkerOn 21 = .ok (.iaload, 1) := by decide +kernel
theorem dX9_walkerOn_22 : decode cX9_walkerOn 22 = .ok (.ifCond .ne 18, 3) := by decide +kernel
theorem dX9_walkerOn_25 : decode cX9_walkerOn 25 = .ok (.aload_n 0, 1) := by decide +kernel
theorem dX9_walkerOn_26 : decode cX9_walkerOn 26 = .ok (.getfield 7, 3) := by decide +kernel
theorem dX9_walkerOn_29 : decode cX9_walkerOn 29 = .ok (.iload_n 3, 1) := by decide +kernel
theorem dX9_walkerOn_30 : decode cX9_walkerOn 30 = .ok (.iload_n 1, 1) := by decide +kernel
theorem dX9_walkerOn_31 : decode cX9_walkerOn 31 = .ok (.iload_n 2, 1) := by decide +kernel
theorem dX9_walkerOn_32 : decode cX9_walkerOn 32 = .ok (.invokestatic 104, 3) := by decide +kernel
theorem dX9_walkerOn_35 : decode cX9_walkerOn 35 = .ok (.ifCond .ne 5, 3) := by decide +kernel
theorem dX9_walkerOn_38 : decode cX9_walkerOn 38 = .ok (.iload_n 3, 1) := by decide +kernel
theorem dX9_walkerOn_39 : decode cX9_walkerOn 39 = .ok (.ireturn, 1) := by decide +kernel
theorem dX9_walkerOn_40 : decode cX9_walkerOn 40 = .ok (.iinc 3 1, 3) := by decide +kernel
theorem dX9_walkerOn_43 : decode cX9_walkerOn 43 = .ok (.goto (-41), 3) := by decide +kernel
theorem dX9_walkerOn_46 : decode cX9_walkerOn 46 = .ok (.iconst (-1), 1) := by decide +kernel
theorem dX9_walkerOn_47 : decode cX9_walkerOn 47 = .ok (.ireturn, 1) := by decide +kernel
theorem tX9_walkerOn {L : Nat} {xs : Nat → Int32} {N : Nat} : z_AllE (zE L xs N 131) 0 (kX9_walkerOn N) :=
  z_ac (j := 1) rfl (z_eI (sp_iconst dX9_walkerOn_0 (by decide +kernel) rfl)) <|
  z_ac (j := 2) rfl (z_eI (sp_istore_n (q := 3) dX9_walkerOn_1 rfl (by decide) (fun _ _ => rfl) rfl)) <|
  z_ac (j := 3) rfl (z_eI (sp_iload_n (q := 3) dX9_walkerOn_2 rfl rfl)) <|
  z_ac (j := 4) rfl (z_eI (sp_aload_n (q := 0) dX9_walkerOn_3 rfl rfl)) <|
  z_ac (j := 5) rfl (z_eI (sp_getf (C := RX9) (T := TX9) (Nf := 23) dX9_walkerOn_4 rfl inX9 (by decide) wf_1346 rfl)) <|
  z_ac (j := 6) rfl (z_eI (sp_iconst dX9_walkerOn_7 (by decide +kernel) rfl)) <|
  z_ac (j := 7) rfl (z_eI (sp_iald dX9_walkerOn_8 rfl)) <|
  z_ac (j := 8) rfl (z_eI (sp_icmp_ge dX9_walkerOn_9 rfl rfl)) <|
  z_ac (j := 9) rfl (z_eI (sp_aload_n (q := 0) dX9_walkerOn_12 rfl rfl)) <|
  z_ac (j := 10) rfl (z_eI (sp_getf (C := RX9) (T := TX9) (Nf := 23) dX9_walkerOn_13 rfl inX9 (by decide) wf_1346 rfl)) <|
  z_ac (j := 11) rfl (z_eI (sp_iload_n (q := 3) dX9_walkerOn_16 rfl rfl)) <|
  z_ac (j := 12) rfl (z_eI (sp_iconst dX9_walkerOn_17 (by decide +kernel) rfl)) <|
  z_ac (j := 13) rfl (z_cS dX9_walkerOn_18 wl_1521 qX9_walkerAt (by decide +kernel) (z_sn rfl rfl) rfl) <|
  z_ac (j := 14) rfl (z_eI (sp_iald dX9_walkerOn_21 rfl)) <|
  z_ac (j := 15) rfl (z_eI (sp_if_ne dX9_walkerOn_22 rfl rfl)) <|
  z_ac (j := 16) rfl (z_eI (sp_aload_n (q := 0) dX9_walkerOn_25 rfl rfl)) <|
  z_ac (j := 17) rfl (z_eI (sp_getf (C := RX9) (T := TX9) (Nf := 23) dX9_walkerOn_26 rfl inX9 (by decide) wf_1346 rfl)) <|
  z_ac (j := 18) rfl (z_eI (sp_iload_n (q := 3) dX9_walkerOn_29 rfl rfl)) <|
  z_ac (j := 19) rfl (z_eI (sp_iload_n (q := 1) dX9_walkerOn_30 rfl rfl)) <|
  z_ac (j := 20) rfl (z_eI (sp_iload_n (q := 2) dX9_walkerOn_31 rfl rfl)) <|
  z_ac (j := 21) rfl (z_cS dX9_walkerOn_32 wl_1762 qX9_farFrom (by decide +kernel) (z_sn rfl rfl) rfl) <|
  z_ac (j := 22) rfl (z_eI (sp_if_ne dX9_walkerOn_35 rfl rfl)) <|
  z_ac (j := 23) rfl (z_eI (sp_iload_n (q := 3) dX9_walkerOn_38 rfl rfl)) <|
  z_ac (j := 24) rfl (z_eR (sr_int dX9_walkerOn_39 rfl)) <|
  z_ac (j := 25) rfl (z_eI (sp_iinc dX9_walkerOn_40 (by decide +kernel) (by decide) (fun _ _ => rfl) rfl)) <|
  z_ac (j := 26) rfl (z_eI (sp_goto dX9_walkerOn_43 rfl)) <|
  z_ac (j := 27) rfl (z_eI (sp_iconst dX9_walkerOn_46 (by decide +kernel) rfl)) <|
  z_ac (j := 28) rfl (z_eR (sr_int dX9_walkerOn_47 rfl)) <| z_an
theorem dX9_signOf_0 : decode cX9_signOf 0 = .ok (.aload_n 0, 1) := by decide +kernel
theorem dX9_signOf_1 : decode cX9_signOf 1 = .ok (.iload_n 1, 1) := by decide +kernel
theorem dX9_signOf_2 : decode cX9_signOf 2 = .ok (.iload_n 2, 1) := by decide +kernel
theorem dX9_signOf_3 : decode cX9_signOf 3 = .ok (.invokevirtual 328, 3) := by decide +kernel
theorem dX9_signOf_6 : decode cX9_signOf 6 = .ok (.istore_n 3, 1) := by decide +kernel
theorem dX9_signOf_7 : decode cX9_signOf 7 = .ok (.aload_n 0, 1) := by decide +kernel
theorem dX9_signOf_8 : decode cX9_signOf 8 = .ok (.getfield 7, 3) := by decide +kernel
theorem dX9_signOf_11 : decode cX9_signOf 11 = .ok (.iload_n 1, 1) := by decide +kernel
theorem dX9_signOf_12 : decode cX9_signOf 12 = .ok (.iload_n 2, 1) := by decide +kernel
theorem dX9_signOf_13 : decode cX9_signOf 13 = .ok (.invokestatic 45, 3) := by decide +kernel
theorem dX9_signOf_16 : decode cX9_signOf 16 = .ok (.iaload, 1) := by decide +kernel
theorem dX9_signOf_17 : decode cX9_signOf 17 = .ok (.istore 4, 2) := by decide +kernel
theorem dX9_signOf_19 : decode cX9_signOf 19 = .ok (.iload_n 3, 1) := by decide +kernel
theorem dX9_signOf_20 : decode cX9_signOf 20 = .ok (.ifCond .lt 8, 3) := by decide +kernel
theorem dX9_signOf_23 : decode cX9_signOf 23 = .ok (.bipush 48, 2) := by decide +kernel
theorem dX9_signOf_25 : decode cX9_signOf 25 = .ok (.iload_n 3, 1) := by decide +kernel
theorem dX9_signOf_26 : decode cX9_signOf 26 = .ok (.iadd, 1) := by decide +kernel
theorem dX9_signOf_27 : decode cX9_signOf 27 = .ok (.ireturn, 1) := by decide +kernel
theorem dX9_signOf_28 : decode cX9_signOf 28 = .ok (.aload_n 0, 1) := by decide +kernel
theorem dX9_signOf_29 : decode cX9_signOf 29 = .ok (.getfield 7, 3) := by decide +kernel
theorem dX9_signOf_32 : decode cX9_signOf 32 = .ok (.iload_n 1, 1) := by decide +kernel
theorem dX9_signOf_33 : decode cX9_signOf 33 = .ok (.iload_n 2, 1) := by decide +kernel
theorem dX9_signOf_34 : decode cX9_signOf 34 = .ok (.invokestatic 230, 3) := by decide +kernel
theorem dX9_signOf_37 : decode cX9_signOf 37 = .ok (.ifCond .lt 6, 3) := by decide +kernel
theorem dX9_signOf_40 : decode cX9_signOf 40 = .ok (.bipush 42, 2) := by decide +kernel
theorem dX9_signOf_42 : decode cX9_signOf 42 = .ok (.ireturn, 1) := by decide +kernel
theorem dX9_signOf_43 : decode cX9_signOf 43 = .ok (.iload 4, 2) := by decide +kernel
theorem dX9_signOf_45 : decode cX9_signOf 45 = .ok (.ifCond .ne 8, 3) := by decide +kernel
theorem dX9_signOf_48 : decode cX9_signOf 48 = .ok (.bipush 102, 2) := by decide +kernel
theorem dX9_signOf_50 : decode cX9_signOf 50 = .ok (.goto 27, 3) := by decide +kernel
theorem dX9_signOf_53 : decode cX9_signOf 53 = .ok (.iload 4, 2) := by decide +kernel
theorem dX9_signOf_55 : decode cX9_signOf 55 = .ok (.iconst 1, 1) := by decide +kernel
theorem dX9_signOf_56 : decode cX9_signOf 56 = .ok (.if_icmp .ne 8, 3) := by decide +kernel
theorem dX9_signOf_59 : decode cX9_signOf 59 = .ok (.bipush 119, 2) := by decide +kernel
theorem dX9_signOf_61 : decode cX9_signOf 61 = .ok (.goto 16, 3) := by decide +kernel
theorem dX9_signOf_64 : decode cX9_signOf 64 = .ok (.iload 4, 2) := by decide +kernel
theorem dX9_signOf_66 : decode cX9_signOf 66 = .ok (.iconst 2, 1) := by decide +kernel
theorem dX9_signOf_67 : decode cX9_signOf 67 = .ok (.if_icmp .ne 8, 3) := by decide +kernel
theorem dX9_signOf_70 : decode cX9_signOf 70 = .ok (.bipush 104, 2) := by decide +kernel
theorem dX9_signOf_72 : decode cX9_signOf 72 = .ok (.goto 5, 3) := by decide +kernel
theorem dX9_signOf_75 : decode cX9_signOf 75 = .ok (.bipush 112, 2) := by decide +kernel
theorem dX9_signOf_77 : decode cX9_signOf 77 = .ok (.ireturn, 1) := by decide +kernel
theorem tX9_signOf {L : Nat} {xs : Nat → Int32} {N : Nat} : z_AllE (zE L xs N 132) 0 (kX9_signOf N) :=
  z_ac (j := 1) rfl (z_eI (sp_aload_n (q := 0) dX9_signOf_0 rfl rfl)) <|
  z_ac (j := 2) rfl (z_eI (sp_iload_n (q := 1) dX9_signOf_1 rfl rfl)) <|
  z_ac (j := 3) rfl (z_eI (sp_iload_n (q := 2) dX9_signOf_2 rfl rfl)) <|
  z_ac (j := 4) rfl (z_cV dX9_signOf_3 wl_1923 qX9_walkerOn (by decide +kernel) ⟨_, _, rfl⟩ (z_sn rfl rfl) rfl) <|
  z_ac (j := 5) rfl (z_eI (sp_istore_n (q := 3) dX9_signOf_6 rfl (by decide) (fun _ _ => rfl) rfl)) <|
  z_ac (j := 6) rfl (z_eI (sp_aload_n (q := 0) dX9_signOf_7 rfl rfl)) <|
  z_ac (j := 7) rfl (z_eI (sp_getf (C := RX9) (T := TX9) (Nf := 23) dX9_signOf_8 rfl inX9 (by decide) wf_1346 rfl)) <|
  z_ac (j := 8) rfl (z_eI (sp_iload_n (q := 1) dX9_signOf_11 rfl rfl)) <|
  z_ac (j := 9) rfl (z_eI (sp_iload_n (q := 2) dX9_signOf_12 rfl rfl)) <|
  z_ac (j := 10) rfl (z_cS dX9_signOf_13 wl_1343 qX9_cellAt (by decide +kernel) (z_sn rfl rfl) rfl) <|
  z_ac (j := 11) rfl (z_eI (sp_iald dX9_signOf_16 rfl)) <|
  z_ac (j := 12) rfl (z_eI (sp_istore dX9_signOf_17 (by decide) (fun _ _ => rfl) rfl)) <|
  z_ac (j := 13) rfl (z_eI (sp_iload_n (q := 3) dX9_signOf_19 rfl rfl)) <|
  z_ac (j := 14) rfl (z_eI (sp_if_lt dX9_signOf_20 rfl rfl)) <|
  z_ac (j := 15) rfl (z_eI (sp_bipush dX9_signOf_23 (by decide +kernel) rfl)) <|
  z_ac (j := 16) rfl (z_eI (sp_iload_n (q := 3) dX9_signOf_25 rfl rfl)) <|
  z_ac (j := 17) rfl (z_eI (sp_iadd dX9_signOf_26 rfl)) <|
  z_ac (j := 18) rfl (z_eR (sr_int dX9_signOf_27 rfl)) <|
  z_ac (j := 19) rfl (z_eI (sp_aload_n (q := 0) dX9_signOf_28 rfl rfl)) <|
  z_ac (j := 20) rfl (z_eI (sp_getf (C := RX9) (T := TX9) (Nf := 23) dX9_signOf_29 rfl inX9 (by decide) wf_1346 rfl)) <|
  z_ac (j := 21) rfl (z_eI (sp_iload_n (q := 1) dX9_signOf_32 rfl rfl)) <|
  z_ac (j := 22) rfl (z_eI (sp_iload_n (q := 2) dX9_signOf_33 rfl rfl)) <|
  z_ac (j := 23) rfl (z_cS dX9_signOf_34 wl_1501 qX9_lightOn (by decide +kernel) (z_sn rfl rfl) rfl) <|
  z_ac (j := 24) rfl (z_eI (sp_if_lt dX9_signOf_37 rfl rfl)) <|
  z_ac (j := 25) rfl (z_eI (sp_bipush dX9_signOf_40 (by decide +kernel) rfl)) <|
  z_ac (j := 26) rfl (z_eR (sr_int dX9_signOf_42 rfl)) <|
  z_ac (j := 27) rfl (z_eI (sp_iload dX9_signOf_43 rfl)) <|
  z_ac (j := 28) rfl (z_eI (sp_if_ne dX9_signOf_45 rfl rfl)) <|
  z_ac (j := 29) rfl (z_eI (sp_bipush dX9_signOf_48 (by decide +kernel) rfl)) <|
  z_ac (j := 30) rfl (z_eI (sp_goto dX9_signOf_50 rfl)) <|
  z_ac (j := 31) rfl (z_eI (sp_iload dX9_signOf_53 rfl)) <|
  z_ac (j := 32) rfl (z_eI (sp_iconst dX9_signOf_55 (by decide +kernel) rfl)) <|
  z_ac (j := 33) rfl (z_eI (sp_icmp_ne dX9_signOf_56 rfl rfl)) <|
  z_ac (j := 34) rfl (z_eI (sp_bipush dX9_signOf_59 (by decide +kernel) rfl)) <|
  z_ac (j := 35) rfl (z_eI (sp_goto dX9_signOf_61 rfl)) <|
  z_ac (j := 36) rfl (z_eI (sp_iload dX9_signOf_64 rfl)) <|
  z_ac (j := 37) rfl (z_eI (sp_iconst dX9_signOf_66 (by decide +kernel) rfl)) <|
  z_ac (j := 38) rfl (z_eI (sp_icmp_ne dX9_signOf_67 rfl rfl)) <|
  z_ac (j := 39) rfl (z_eI (sp_bipush dX9_signOf_70 (by decide +kernel) rfl)) <|
  z_ac (j := 40) rfl (z_eI (sp_goto dX9_signOf_72 rfl)) <|
  z_ac (j := 41) rfl (z_eI (sp_bipush dX9_signOf_75 (by decide +kernel) rfl)) <|
  z_ac (j := 42) rfl (z_eR (sr_int dX9_signOf_77 rfl)) <| z_an
