/-! Each entry of the tables is sound (printed by wip/whole/gen12.py). -/
theorem zmsg85 : (85, "the input buffer is full") ∈ zMs := by decide +kernel
theorem zmsg94 : (94, "no such length") ∈ zMs := by decide +kernel
theorem zmsg97 : (97, "the text has an error") ∈ zMs := by decide +kernel
theorem zmsg117 : (117, "no error") ∈ zMs := by decide +kernel
theorem zmsg144 : (144, "no plank") ∈ zMs := by decide +kernel
theorem zmsg232 : (232, "no target") ∈ zMs := by decide +kernel
theorem zmsg246 : (246, "no light is acceptable") ∈ zMs := by decide +kernel
theorem zmsg261 : (261, "still walking") ∈ zMs := by decide +kernel
theorem zmsg269 : (269, "count is out of range") ∈ zMs := by decide +kernel
theorem zmsg271 : (271, "the time would exceed its limit") ∈ zMs := by decide +kernel
theorem zmsg276 : (276, "brightness is out of range") ∈ zMs := by decide +kernel
theorem zmsg281 : (281, "no light can be added here") ∈ zMs := by decide +kernel
theorem zmsg290 : (290, "no traveller can be added here") ∈ zMs := by decide +kernel
theorem zmsg294 : (294, "a light cannot succeed itself") ∈ zMs := by decide +kernel
theorem zmsg299 : (299, "strength is out of range") ∈ zMs := by decide +kernel
theorem zmsg301 : (301, "a plank needs water or a plank") ∈ zMs := by decide +kernel
theorem zmsg303 : (303, "clearness is out of range") ∈ zMs := by decide +kernel
theorem zmsg305 : (305, "fog is out of range") ∈ zMs := by decide +kernel
theorem zmsg308 : (308, "nothing to undo") ∈ zMs := by decide +kernel
theorem zmsg316 : (316, "the slot is empty") ∈ zMs := by decide +kernel
theorem zmsg327 : (327, "no such byte") ∈ zMs := by decide +kernel
theorem zmsg333 : (333, "no such cell") ∈ zMs := by decide +kernel
theorem zmsg335 : (335, "no such hour") ∈ zMs := by decide +kernel
theorem zmsg339 : (339, "no such light") ∈ zMs := by decide +kernel
theorem zmsg341 : (341, "no such traveller") ∈ zMs := by decide +kernel
theorem zmsg343 : (343, "no such slot") ∈ zMs := by decide +kernel
theorem zmsg345 : (345, "the traveller is not walking") ∈ zMs := by decide +kernel
theorem zmsg347 : (347, "no successor") ∈ zMs := by decide +kernel
theorem zmsg349 : (349, "no path") ∈ zMs := by decide +kernel
theorem zmsg351 : (351, "ticks is out of range") ∈ zMs := by decide +kernel
theorem dX9_thrown_0 : decode cX9_thrown 0 = .ok (.aload_n 0, 1) := by decide +kernel
theorem dX9_thrown_1 : decode cX9_thrown 1 = .ok (.getfield 49, 3) := by decide +kernel
theorem dX9_thrown_4 : decode cX9_thrown 4 = .ok (.ireturn, 1) := by decide +kernel
theorem tX9_thrown {L : Nat} {xs : Nat → Int32} {N : Nat} : z_AllE (zE L xs N 0) 0 (kX9_thrown N) :=
  z_ac (j := 1) rfl (z_eI (sp_aload_n (q := 0) dX9_thrown_0 rfl rfl)) <|
  z_ac (j := 2) rfl (z_eI (sp_getf (C := RX9) (T := TX9) (Nf := 23) dX9_thrown_1 rfl inX9 (by decide) wf_1356 rfl)) <|
  z_ac (j := 3) rfl (z_eR (sr_int dX9_thrown_4 rfl)) <| z_an
theorem dX9_fails_0 : decode cX9_fails 0 = .ok (.aload_n 0, 1) := by decide +kernel
theorem dX9_fails_1 : decode cX9_fails 1 = .ok (.iload_n 1, 1) := by decide +kernel
theorem dX9_fails_2 : decode cX9_fails 2 = .ok (.putfield 49, 3) := by decide +kernel
theorem dX9_fails_5 : decode cX9_fails 5 = .ok (.iconst 0, 1) := by decide +kernel
theorem dX9_fails_6 : decode cX9_fails 6 = .ok (.ireturn, 1) := by decide +kernel
theorem tX9_fails {L : Nat} {xs : Nat → Int32} {N : Nat} : z_AllE (zE L xs N 1) 0 (kX9_fails N) :=
  z_ac (j := 1) rfl (z_eI (sp_aload_n (q := 0) dX9_fails_0 rfl rfl)) <|
  z_ac (j := 2) rfl (z_eI (sp_iload_n (q := 1) dX9_fails_1 rfl rfl)) <|
  z_ac (j := 3) rfl (z_eI (sp_putI (C := RX9) (T := TX9) (Nf := 23) dX9_fails_2 rfl inX9 tyX9_ok nmX9 (by decide) wf_1356 rfl (by decide +kernel) rfl)) <|
  z_ac (j := 4) rfl (z_eI (sp_iconst dX9_fails_5 (by decide +kernel) rfl)) <|
  z_ac (j := 5) rfl (z_eR (sr_int dX9_fails_6 rfl)) <| z_an
theorem dX9_isFailed_0 : decode cX9_isFailed 0 = .ok (.aload_n 0, 1) := by decide +kernel
theorem dX9_isFailed_1 : decode cX9_isFailed 1 = .ok (.iload_n 1, 1) := by decide +kernel
theorem dX9_isFailed_2 : decode cX9_isFailed 2 = .ok (.putfield 49, 3) := by decide +kernel
theorem dX9_isFailed_5 : decode cX9_isFailed 5 = .ok (.iconst 0, 1) := by decide +kernel
theorem dX9_isFailed_6 : decode cX9_isFailed 6 = .ok (.ireturn, 1) := by decide +kernel
theorem tX9_isFailed {L : Nat} {xs : Nat → Int32} {N : Nat} : z_AllE (zE L xs N 2) 0 (kX9_isFailed N) :=
  z_ac (j := 1) rfl (z_eI (sp_aload_n (q := 0) dX9_isFailed_0 rfl rfl)) <|
  z_ac (j := 2) rfl (z_eI (sp_iload_n (q := 1) dX9_isFailed_1 rfl rfl)) <|
  z_ac (j := 3) rfl (z_eI (sp_putI (C := RX9) (T := TX9) (Nf := 23) dX9_isFailed_2 rfl inX9 tyX9_ok nmX9 (by decide) wf_1356 rfl (by decide +kernel) rfl)) <|
  z_ac (j := 4) rfl (z_eI (sp_iconst dX9_isFailed_5 (by decide +kernel) rfl)) <|
  z_ac (j := 5) rfl (z_eR (sr_bool dX9_isFailed_6 rfl)) <| z_an
theorem dX9_in_0 : decode cX9_in 0 = .ok (.iload_n 1, 1) := by decide +kernel
theorem dX9_in_1 : decode cX9_in 1 = .ok (.iload_n 0, 1) := by decide +kernel
theorem dX9_in_2 : decode cX9_in 2 = .ok (.if_icmp .gt 12, 3) := by decide +kernel
theorem dX9_in_5 : decode cX9_in 5 = .ok (.iload_n 0, 1) := by decide +kernel
theorem dX9_in_6 : decode cX9_in 6 = .ok (.iload_n 2, 1) := by decide +kernel
theorem dX9_in_7 : decode cX9_in 7 = .ok (.if_icmp .gt 7, 3) := by decide +kernel
theorem dX9_in_10 : decode cX9_in 10 = .ok (.iconst 1, 1) := by decide +kernel
theorem dX9_in_11 : decode cX9_in 11 = .ok (.goto 4, 3) := by decide +kernel
theorem dX9_in_14 : decode cX9_in 14 = .ok (.iconst 0, 1) := by decide +kernel
theorem dX9_in_15 : decode cX9_in 15 = .ok (.ireturn, 1) := by decide +kernel
theorem tX9_in {L : Nat} {xs : Nat → Int32} {N : Nat} : z_AllE (zE L xs N 3) 0 (kX9_in N) :=
  z_ac (j := 1) rfl (z_eI (sp_iload_n (q := 1) dX9_in_0 rfl rfl)) <|
  z_ac (j := 2) rfl (z_eI (sp_iload_n (q := 0) dX9_in_1 rfl rfl)) <|
  z_ac (j := 3) rfl (z_eI (sp_icmp_gt dX9_in_2 rfl rfl)) <|
  z_ac (j := 4) rfl (z_eI (sp_iload_n (q := 0) dX9_in_5 rfl rfl)) <|
  z_ac (j := 5) rfl (z_eI (sp_iload_n (q := 2) dX9_in_6 rfl rfl)) <|
  z_ac (j := 6) rfl (z_eI (sp_icmp_gt dX9_in_7 rfl rfl)) <|
  z_ac (j := 7) rfl (z_eI (sp_iconst dX9_in_10 (by decide +kernel) rfl)) <|
  z_ac (j := 8) rfl (z_eI (sp_goto dX9_in_11 rfl)) <|
  z_ac (j := 9) rfl (z_eI (sp_iconst dX9_in_14 (by decide +kernel) rfl)) <|
  z_ac (j := 10) rfl (z_eR (sr_bool dX9_in_15 rfl)) <| z_an
theorem dX9_layRow_0 : decode cX9_layRow 0 = .ok (.iconst 0, 1) := by decide +kernel
theorem dX9_layRow_1 : decode cX9_layRow 1 = .ok (.istore 4, 2) := by decide +kernel
theorem dX9_layRow_3 : decode cX9_layRow 3 = .ok (.iload 4, 2) := by decide +kernel
theorem dX9_layRow_5 : decode cX9_layRow 5 = .ok (.sipush 256, 3) := by decide +kernel
theorem dX9_layRow_8 : decode cX9_layRow 8 = .ok (.if_icmp .ge 21, 3) := by decide +kernel
theorem dX9_layRow_11 : decode cX9_layRow 11 = .ok (.aload_n 2, 1) := by decide +kernel
theorem dX9_layRow_12 : decode cX9_layRow 12 = .ok (.iload_n 3, 1) := by decide +kernel
theorem dX9_layRow_13 : decode cX9_layRow 13 = .ok (.iload 4, 2) := by decide +kernel
theorem dX9_layRow_15 : decode cX9_layRow 15 = .ok (.iadd, 1) := by decide +kernel
theorem dX9_layRow_16 : decode cX9_layRow 16 = .ok (.aload_n 0, 1) := by decide +kernel
theorem dX9_layRow_17 : decode cX9_layRow 17 = .ok (.iload_n 1, 1) := by decide +kernel
theorem dX9_layRow_18 : decode cX9_layRow 18 = .ok (.iload 4, 2) := by decide +kernel
theorem dX9_layRow_20 : decode cX9_layRow 20 = .ok (.iadd, 1) := by decide +kernel
theorem dX9_layRow_21 : decode cX9_layRow 21 = .ok (.iaload, 1) := by decide +kernel
theorem dX9_layRow_22 : decode cX9_layRow 22 = .ok (.iastore, 1) := by decide +kernel
theorem dX9_layRow_23 : decode cX9_layRow 23 = .ok (.iinc 4 1, 3) := by decide +kernel
theorem dX9_layRow_26 : decode cX9_layRow 26 = .ok (.goto (-23), 3) := by decide +kernel
theorem dX9_layRow_29 : decode cX9_layRow 29 = .ok (.return_, 1) := by decide +kernel
theorem tX9_layRow {L : Nat} {xs : Nat → Int32} {N : Nat} : z_AllE (zE L xs N 4) 0 (kX9_layRow N) :=
  z_ac (j := 1) rfl (z_eI (sp_iconst dX9_layRow_0 (by decide +kernel) rfl)) <|
  z_ac (j := 2) rfl (z_eI (sp_istore dX9_layRow_1 (by decide) (fun _ _ => rfl) rfl)) <|
  z_ac (j := 3) rfl (z_eI (sp_iload dX9_layRow_3 rfl)) <|
  z_ac (j := 4) rfl (z_eI (sp_sipush dX9_layRow_5 (by decide +kernel) rfl)) <|
  z_ac (j := 5) rfl (z_eI (sp_icmp_ge dX9_layRow_8 rfl rfl)) <|
  z_ac (j := 6) rfl (z_eI (sp_aload_n (q := 2) dX9_layRow_11 rfl rfl)) <|
  z_ac (j := 7) rfl (z_eI (sp_iload_n (q := 3) dX9_layRow_12 rfl rfl)) <|
  z_ac (j := 8) rfl (z_eI (sp_iload dX9_layRow_13 rfl)) <|
  z_ac (j := 9) rfl (z_eI (sp_iadd dX9_layRow_15 rfl)) <|
  z_ac (j := 10) rfl (z_eI (sp_aload_n (q := 0) dX9_layRow_16 rfl rfl)) <|
  z_ac (j := 11) rfl (z_eI (sp_iload_n (q := 1) dX9_layRow_17 rfl rfl)) <|
  z_ac (j := 12) rfl (z_eI (sp_iload dX9_layRow_18 rfl)) <|
  z_ac (j := 13) rfl (z_eI (sp_iadd dX9_layRow_20 rfl)) <|
  z_ac (j := 14) rfl (z_eI (sp_iald dX9_layRow_21 rfl)) <|
  z_ac (j := 15) rfl (z_eI (sp_iast dX9_layRow_22 rfl)) <|
  z_ac (j := 16) rfl (z_eI (sp_iinc dX9_layRow_23 (by decide +kernel) (by decide) (fun _ _ => rfl) rfl)) <|
  z_ac (j := 17) rfl (z_eI (sp_goto dX9_layRow_26 rfl)) <|
  z_ac (j := 18) rfl (z_eW (sv_void dX9_layRow_29 rfl)) <| z_an
theorem dX9_takesSpare_0 : decode cX9_takesSpare 0 = .ok (.aload_n 0, 1) := by decide +kernel
theorem dX9_takesSpare_1 : decode cX9_takesSpare 1 = .ok (.getfield 7, 3) := by decide +kernel
theorem dX9_takesSpare_4 : decode cX9_takesSpare 4 = .ok (.iconst 0, 1) := by decide +kernel
theorem dX9_takesSpare_5 : decode cX9_takesSpare 5 = .ok (.aload_n 0, 1) := by decide +kernel
theorem dX9_takesSpare_6 : decode cX9_takesSpare 6 = .ok (.getfield 16, 3) := by decide +kernel
theorem dX9_takesSpare_9 : decode cX9_takesSpare 9 = .ok (.iconst 0, 1) := by decide +kernel
theorem dX9_takesSpare_10 : decode cX9_takesSpare 10 = .ok (.invokestatic 52, 3) := by decide +kernel
theorem dX9_takesSpare_13 : decode cX9_takesSpare 13 = .ok (.return_, 1) := by decide +kernel
theorem tX9_takesSpare {L : Nat} {xs : Nat → Int32} {N : Nat} : z_AllE (zE L xs N 5) 0 (kX9_takesSpare N) :=
  z_ac (j := 1) rfl (z_eI (sp_aload_n (q := 0) dX9_takesSpare_0 rfl rfl)) <|
  z_ac (j := 2) rfl (z_eI (sp_getf (C := RX9) (T := TX9) (Nf := 23) dX9_takesSpare_1 rfl inX9 (by decide) wf_1346 rfl)) <|
  z_ac (j := 3) rfl (z_eI (sp_iconst dX9_takesSpare_4 (by decide +kernel) rfl)) <|
  z_ac (j := 4) rfl (z_eI (sp_aload_n (q := 0) dX9_takesSpare_5 rfl rfl)) <|
  z_ac (j := 5) rfl (z_eI (sp_getf (C := RX9) (T := TX9) (Nf := 23) dX9_takesSpare_6 rfl inX9 (by decide) wf_1348 rfl)) <|
  z_ac (j := 6) rfl (z_eI (sp_iconst dX9_takesSpare_9 (by decide +kernel) rfl)) <|
  z_ac (j := 7) rfl (z_cS dX9_takesSpare_10 wl_1524 qX9_layRow (by decide +kernel) (z_sn rfl rfl) rfl) <|
  z_ac (j := 8) rfl (z_eW (sv_void dX9_takesSpare_13 rfl)) <| z_an
theorem dX9_cellAt_0 : decode cX9_cellAt 0 = .ok (.bipush 30, 2) := by decide +kernel
theorem dX9_cellAt_2 : decode cX9_cellAt 2 = .ok (.bipush 12, 2) := by decide +kernel
theorem dX9_cellAt_4 : decode cX9_cellAt 4 = .ok (.iload_n 1, 1) := by decide +kernel
theorem dX9_cellAt_5 : decode cX9_cellAt 5 = .ok (.imul, 1) := by decide +kernel
theorem dX9_cellAt_6 : decode cX9_cellAt 6 = .ok (.iadd, 1) := by decide +kernel
theorem dX9_cellAt_7 : decode cX9_cellAt 7 = .ok (.iload_n 0, 1) := by decide +kernel
theorem dX9_cellAt_8 : decode cX9_cellAt 8 = .ok (.iadd, 1) := by decide +kernel
theorem dX9_cellAt_9 : decode cX9_cellAt 9 = .ok (.ireturn, 1) := by decide +kernel
theorem tX9_cellAt {L : Nat} {xs : Nat → Int32} {N : Nat} : z_AllE (zE L xs N 6) 0 (kX9_cellAt N) :=
  z_ac (j := 1) rfl (z_eI (sp_bipush dX9_cellAt_0 (by decide +kernel) rfl)) <|
  z_ac (j := 2) rfl (z_eI (sp_bipush dX9_cellAt_2 (by decide +kernel) rfl)) <|
  z_ac (j := 3) rfl (z_eI (sp_iload_n (q := 1) dX9_cellAt_4 rfl rfl)) <|
  z_ac (j := 4) rfl (z_eI (sp_imul dX9_cellAt_5 rfl)) <|
  z_ac (j := 5) rfl (z_eI (sp_iadd dX9_cellAt_6 rfl)) <|
  z_ac (j := 6) rfl (z_eI (sp_iload_n (q := 0) dX9_cellAt_7 rfl rfl)) <|
  z_ac (j := 7) rfl (z_eI (sp_iadd dX9_cellAt_8 rfl)) <|
  z_ac (j := 8) rfl (z_eR (sr_int dX9_cellAt_9 rfl)) <| z_an
theorem dX9_lightAt_0 : decode cX9_lightAt 0 = .ok (.sipush 174, 3) := by decide +kernel
theorem dX9_lightAt_3 : decode cX9_lightAt 3 = .ok (.iconst 5, 1) := by decide +kernel
theorem dX9_lightAt_4 : decode cX9_lightAt 4 = .ok (.iload_n 0, 1) := by decide +kernel
theorem dX9_lightAt_5 : decode cX9_lightAt 5 = .ok (.imul, 1) := by decide +kernel
theorem dX9_lightAt_6 : decode cX9_lightAt 6 = .ok (.iadd, 1) := by decide +kernel
theorem dX9_lightAt_7 : decode cX9_lightAt 7 = .ok (.iload_n 1, 1) := by decide +kernel
theorem dX9_lightAt_8 : decode cX9_lightAt 8 = .ok (.iadd, 1) := by decide +kernel
theorem dX9_lightAt_9 : decode cX9_lightAt 9 = .ok (.ireturn, 1) := by decide +kernel
theorem tX9_lightAt {L : Nat} {xs : Nat → Int32} {N : Nat} : z_AllE (zE L xs N 7) 0 (kX9_lightAt N) :=
  z_ac (j := 1) rfl (z_eI (sp_sipush dX9_lightAt_0 (by decide +kernel) rfl)) <|
  z_ac (j := 2) rfl (z_eI (sp_iconst dX9_lightAt_3 (by decide +kernel) rfl)) <|
  z_ac (j := 3) rfl (z_eI (sp_iload_n (q := 0) dX9_lightAt_4 rfl rfl)) <|
  z_ac (j := 4) rfl (z_eI (sp_imul dX9_lightAt_5 rfl)) <|
  z_ac (j := 5) rfl (z_eI (sp_iadd dX9_lightAt_6 rfl)) <|
  z_ac (j := 6) rfl (z_eI (sp_iload_n (q := 1) dX9_lightAt_7 rfl rfl)) <|
  z_ac (j := 7) rfl (z_eI (sp_iadd dX9_lightAt_8 rfl)) <|
  z_ac (j := 8) rfl (z_eR (sr_int dX9_lightAt_9 rfl)) <| z_an
theorem dX9_walkerAt_0 : decode cX9_walkerAt 0 = .ok (.sipush 214, 3) := by decide +kernel
theorem dX9_walkerAt_3 : decode cX9_walkerAt 3 = .ok (.bipush 7, 2) := by decide +kernel
theorem dX9_walkerAt_5 : decode cX9_walkerAt 5 = .ok (.iload_n 0, 1) := by decide +kernel
theorem dX9_walkerAt_6 : decode cX9_walkerAt 6 = .ok (.imul, 1) := by decide +kernel
theorem dX9_walkerAt_7 : decode cX9_walkerAt 7 = .ok (.iadd, 1) := by decide +kernel
theorem dX9_walkerAt_8 : decode cX9_walkerAt 8 = .ok (.iload_n 1, 1) := by decide +kernel
theorem dX9_walkerAt_9 : decode cX9_walkerAt 9 = .ok (.iadd, 1) := by decide +kernel
theorem dX9_walkerAt_10 : decode cX9_walkerAt 10 = .ok (.ireturn, 1) := by decide +kernel
theorem tX9_walkerAt {L : Nat} {xs : Nat → Int32} {N : Nat} : z_AllE (zE L xs N 8) 0 (kX9_walkerAt N) :=
  z_ac (j := 1) rfl (z_eI (sp_sipush dX9_walkerAt_0 (by decide +kernel) rfl)) <|
  z_ac (j := 2) rfl (z_eI (sp_bipush dX9_walkerAt_3 (by decide +kernel) rfl)) <|
  z_ac (j := 3) rfl (z_eI (sp_iload_n (q := 0) dX9_walkerAt_5 rfl rfl)) <|
  z_ac (j := 4) rfl (z_eI (sp_imul dX9_walkerAt_6 rfl)) <|
  z_ac (j := 5) rfl (z_eI (sp_iadd dX9_walkerAt_7 rfl)) <|
  z_ac (j := 6) rfl (z_eI (sp_iload_n (q := 1) dX9_walkerAt_8 rfl rfl)) <|
  z_ac (j := 7) rfl (z_eI (sp_iadd dX9_walkerAt_9 rfl)) <|
  z_ac (j := 8) rfl (z_eR (sr_int dX9_walkerAt_10 rfl)) <| z_an
theorem dX9_isInside_0 : decode cX9_isInside 0 = .ok (.iload_n 1, 1) := by decide +kernel
theorem dX9_isInside_1 : decode cX9_isInside 1 = .ok (.iconst 0, 1) := by decide +kernel
theorem dX9_isInside_2 : decode cX9_isInside 2 = .ok (.aload_n 0, 1) := by decide +kernel
theorem dX9_isInside_3 : decode cX9_isInside 3 = .ok (.iconst 0, 1) := by decide +kernel
theorem dX9_isInside_4 : decode cX9_isInside 4 = .ok (.iaload, 1) := by decide +kernel
theorem dX9_isInside_5 : decode cX9_isInside 5 = .ok (.iconst 1, 1) := by decide +kernel
theorem dX9_isInside_6 : decode cX9_isInside 6 = .ok (.isub, 1) := by decide +kernel
theorem dX9_isInside_7 : decode cX9_isInside 7 = .ok (.invokestatic 56, 3) := by decide +kernel
theorem dX9_isInside_10 : decode cX9_isInside 10 = .ok (.ifCond .eq 20, 3) := by decide +kernel
theorem dX9_isInside_13 : decode cX9_isInside 13 = .ok (.iload_n 2, 1) := by decide +kernel
theorem dX9_isInside_14 : decode cX9_isInside 14 = .ok (.iconst 0, 1) := by decide +kernel
theorem dX9_isInside_15 : decode cX9_isInside 15 = .ok (.aload_n 0, 1) := by decide +kernel
theorem dX9_isInside_16 : decode cX9_isInside 16 = .ok (.iconst 1, 1) := by decide +kernel
theorem dX9_isInside_17 : decode cX9_isInside 17 = .ok (.iaload, 1) := by decide +kernel
theorem dX9_isInside_18 : decode cX9_isInside 18 = .ok (.iconst 1, 1) := by decide +kernel
theorem dX9_isInside_19 : decode cX9_isInside 19 = .ok (.isub, 1) := by decide +kernel
theorem dX9_isInside_20 : decode cX9_isInside 20 = .ok (.invokestatic 56, 3) := by decide +kernel
theorem dX9_isInside_23 : decode cX9_isInside 23 = .ok (.ifCond .eq 7, 3) := by decide +kernel
theorem dX9_isInside_26 : decode cX9_isInside 26 = .ok (.iconst 1, 1) := by decide +kernel
theorem dX9_isInside_27 : decode cX9_isInside 27 = .ok (.goto 4, 3) := by decide +kernel
theorem dX9_isInside_30 : decode cX9_isInside 30 = .ok (.iconst 0, 1) := by decide +kernel
theorem dX9_isInside_31 : decode cX9_isInside 31 = .ok (.ireturn, 1) := by decide +kernel
theorem tX9_isInside {L : Nat} {xs : Nat → Int32} {N : Nat} : z_AllE (zE L xs N 9) 0 (kX9_isInside N) :=
  z_ac (j := 1) rfl (z_eI (sp_iload_n (q := 1) dX9_isInside_0 rfl rfl)) <|
  z_ac (j := 2) rfl (z_eI (sp_iconst dX9_isInside_1 (by decide +kernel) rfl)) <|
  z_ac (j := 3) rfl (z_eI (sp_aload_n (q := 0) dX9_isInside_2 rfl rfl)) <|
  z_ac (j := 4) rfl (z_eI (sp_iconst dX9_isInside_3 (by decide +kernel) rfl)) <|
  z_ac (j := 5) rfl (z_eI (sp_iald dX9_isInside_4 rfl)) <|
  z_ac (j := 6) rfl (z_eI (sp_iconst dX9_isInside_5 (by decide +kernel) rfl)) <|
  z_ac (j := 7) rfl (z_eI (sp_isub dX9_isInside_6 rfl)) <|
  z_ac (j := 8) rfl (z_cS dX9_isInside_7 wl_1432 qX9_in (by decide +kernel) (z_sn rfl rfl) rfl) <|
  z_ac (j := 9) rfl (z_eI (sp_if_eq dX9_isInside_10 rfl rfl)) <|
  z_ac (j := 10) rfl (z_eI (sp_iload_n (q := 2) dX9_isInside_13 rfl rfl)) <|
  z_ac (j := 11) rfl (z_eI (sp_iconst dX9_isInside_14 (by decide +kernel) rfl)) <|
  z_ac (j := 12) rfl (z_eI (sp_aload_n (q := 0) dX9_isInside_15 rfl rfl)) <|
  z_ac (j := 13) rfl (z_eI (sp_iconst dX9_isInside_16 (by decide +kernel) rfl)) <|
  z_ac (j := 14) rfl (z_eI (sp_iald dX9_isInside_17 rfl)) <|
  z_ac (j := 15) rfl (z_eI (sp_iconst dX9_isInside_18 (by decide +kernel) rfl)) <|
  z_ac (j := 16) rfl (z_eI (sp_isub dX9_isInside_19 rfl)) <|
  z_ac (j := 17) rfl (z_cS dX9_isInside_20 wl_1432 qX9_in (by decide +kernel) (z_sn rfl rfl) rfl) <|
  z_ac (j := 18) rfl (z_eI (sp_if_eq dX9_isInside_23 rfl rfl)) <|
  z_ac (j := 19) rfl (z_eI (sp_iconst dX9_isInside_26 (by decide +kernel) rfl)) <|
  z_ac (j := 20) rfl (z_eI (sp_goto dX9_isInside_27 rfl)) <|
  z_ac (j := 21) rfl (z_eI (sp_iconst dX9_isInside_30 (by decide +kernel) rfl)) <|
  z_ac (j := 22) rfl (z_eR (sr_bool dX9_isInside_31 rfl)) <| z_an
theorem dX9_isCell_0 : decode cX9_isCell 0 = .ok (.aload_n 0, 1) := by decide +kernel
theorem dX9_isCell_1 : decode cX9_isCell 1 = .ok (.getfield 7, 3) := by decide +kernel
theorem dX9_isCell_4 : decode cX9_isCell 4 = .ok (.iload_n 1, 1) := by decide +kernel
theorem dX9_isCell_5 : decode cX9_isCell 5 = .ok (.iload_n 2, 1) := by decide +kernel
theorem dX9_isCell_6 : decode cX9_isCell 6 = .ok (.invokestatic 60, 3) := by decide +kernel
theorem dX9_isCell_9 : decode cX9_isCell 9 = .ok (.ireturn, 1) := by decide +kernel
theorem tX9_isCell {L : Nat} {xs : Nat → Int32} {N : Nat} : z_AllE (zE L xs N 10) 0 (kX9_isCell N) :=
  z_ac (j := 1) rfl (z_eI (sp_aload_n (q := 0) dX9_isCell_0 rfl rfl)) <|
  z_ac (j := 2) rfl (z_eI (sp_getf (C := RX9) (T := TX9) (Nf := 23) dX9_isCell_1 rfl inX9 (by decide) wf_1346 rfl)) <|
  z_ac (j := 3) rfl (z_eI (sp_iload_n (q := 1) dX9_isCell_4 rfl rfl)) <|
  z_ac (j := 4) rfl (z_eI (sp_iload_n (q := 2) dX9_isCell_5 rfl rfl)) <|
  z_ac (j := 5) rfl (z_cS dX9_isCell_6 wl_1551 qX9_isInside (by decide +kernel) (z_sn rfl rfl) rfl) <|
  z_ac (j := 6) rfl (z_eR (sr_bool dX9_isCell_9 rfl)) <| z_an
theorem dX9_isLight_0 : decode cX9_isLight 0 = .ok (.iload_n 1, 1) := by decide +kernel
theorem dX9_isLight_1 : decode cX9_isLight 1 = .ok (.iconst 0, 1) := by decide +kernel
theorem dX9_isLight_2 : decode cX9_isLight 2 = .ok (.aload_n 0, 1) := by decide +kernel
theorem dX9_isLight_3 : decode cX9_isLight 3 = .ok (.getfield 7, 3) := by decide +kernel
theorem dX9_isLight_6 : decode cX9_isLight 6 = .ok (.iconst 4, 1) := by decide +kernel
theorem dX9_isLight_7 : decode cX9_isLight 7 = .ok (.iaload, 1) := by decide +kernel
theorem dX9_isLight_8 : decode cX9_isLight 8 = .ok (.iconst 1, 1) := by decide +kernel
theorem dX9_isLight_9 : decode cX9_isLight 9 = .ok (.isub, 1) := by decide +kernel
theorem dX9_isLight_10 : decode cX9_isLight 10 = .ok (.invokestatic 56, 3) := by decide +kernel
theorem dX9_isLight_13 : decode cX9_isLight 13 = .ok (.ireturn, 1) := by decide +kernel
theorem tX9_isLight {L : Nat} {xs : Nat → Int32} {N : Nat} : z_AllE (zE L xs N 11) 0 (kX9_isLight N) :=
  z_ac (j := 1) rfl (z_eI (sp_iload_n (q := 1) dX9_isLight_0 rfl rfl)) <|
  z_ac (j := 2) rfl (z_eI (sp_iconst dX9_isLight_1 (by decide +kernel) rfl)) <|
  z_ac (j := 3) rfl (z_eI (sp_aload_n (q := 0) dX9_isLight_2 rfl rfl)) <|
  z_ac (j := 4) rfl (z_eI (sp_getf (C := RX9) (T := TX9) (Nf := 23) dX9_isLight_3 rfl inX9 (by decide) wf_1346 rfl)) <|
  z_ac (j := 5) rfl (z_eI (sp_iconst dX9_isLight_6 (by decide +kernel) rfl)) <|
  z_ac (j := 6) rfl (z_eI (sp_iald dX9_isLight_7 rfl)) <|
  z_ac (j := 7) rfl (z_eI (sp_iconst dX9_isLight_8 (by decide +kernel) rfl)) <|
  z_ac (j := 8) rfl (z_eI (sp_isub dX9_isLight_9 rfl)) <|
  z_ac (j := 9) rfl (z_cS dX9_isLight_10 wl_1432 qX9_in (by decide +kernel) (z_sn rfl rfl) rfl) <|
  z_ac (j := 10) rfl (z_eR (sr_bool dX9_isLight_13 rfl)) <| z_an
theorem dX9_isWalker_0 : decode cX9_isWalker 0 = .ok (.iload_n 1, 1) := by decide +kernel
theorem dX9_isWalker_1 : decode cX9_isWalker 1 = .ok (.iconst 0, 1) := by decide +kernel
theorem dX9_isWalker_2 : decode cX9_isWalker 2 = .ok (.aload_n 0, 1) := by decide +kernel
theorem dX9_isWalker_3 : decode cX9_isWalker 3 = .ok (.getfield 7, 3) := by decide +kernel
theorem dX9_isWalker_6 : decode cX9_isWalker 6 = .ok (.iconst 5, 1) := by decide +kernel
theorem dX9_isWalker_7 : decode cX9_isWalker 7 = .ok (.iaload, 1) := by decide +kernel
theorem dX9_isWalker_8 : decode cX9_isWalker 8 = .ok (.iconst 1, 1) := by decide +kernel
theorem dX9_isWalker_9 : decode cX9_isWalker 9 = .ok (.isub, 1) := by decide +kernel
theorem dX9_isWalker_10 : decode cX9_isWalker 10 = .ok (.invokestatic 56, 3) := by decide +kernel
theorem dX9_isWalker_13 : decode cX9_isWalker 13 = .ok (.ireturn, 1) := by decide +kernel
theorem tX9_isWalker {L : Nat} {xs : Nat → Int32} {N : Nat} : z_AllE (zE L xs N 12) 0 (kX9_isWalker N) :=
  z_ac (j := 1) rfl (z_eI (sp_iload_n (q := 1) dX9_isWalker_0 rfl rfl)) <|
  z_ac (j := 2) rfl (z_eI (sp_iconst dX9_isWalker_1 (by decide +kernel) rfl)) <|
  z_ac (j := 3) rfl (z_eI (sp_aload_n (q := 0) dX9_isWalker_2 rfl rfl)) <|
  z_ac (j := 4) rfl (z_eI (sp_getf (C := RX9) (T := TX9) (Nf := 23) dX9_isWalker_3 rfl inX9 (by decide) wf_1346 rfl)) <|
  z_ac (j := 5) rfl (z_eI (sp_iconst dX9_isWalker_6 (by decide +kernel) rfl)) <|
  z_ac (j := 6) rfl (z_eI (sp_iald dX9_isWalker_7 rfl)) <|
  z_ac (j := 7) rfl (z_eI (sp_iconst dX9_isWalker_8 (by decide +kernel) rfl)) <|
  z_ac (j := 8) rfl (z_eI (sp_isub dX9_isWalker_9 rfl)) <|
  z_ac (j := 9) rfl (z_cS dX9_isWalker_10 wl_1432 qX9_in (by decide +kernel) (z_sn rfl rfl) rfl) <|
  z_ac (j := 10) rfl (z_eR (sr_bool dX9_isWalker_13 rfl)) <| z_an
theorem dX9_placeOf_0 : decode cX9_placeOf 0 = .ok (.bipush 12, 2) := by decide +kernel
theorem dX9_placeOf_2 : decode cX9_placeOf 2 = .ok (.iload_n 1, 1) := by decide +kernel
theorem dX9_placeOf_3 : decode cX9_placeOf 3 = .ok (.imul, 1) := by decide +kernel
theorem dX9_placeOf_4 : decode cX9_placeOf 4 = .ok (.iload_n 0, 1) := by decide +kernel
theorem dX9_placeOf_5 : decode cX9_placeOf 5 = .ok (.iadd, 1) := by decide +kernel
theorem dX9_placeOf_6 : decode cX9_placeOf 6 = .ok (.ireturn, 1) := by decide +kernel
theorem tX9_placeOf {L : Nat} {xs : Nat → Int32} {N : Nat} : z_AllE (zE L xs N 13) 0 (kX9_placeOf N) :=
  z_ac (j := 1) rfl (z_eI (sp_bipush dX9_placeOf_0 (by decide +kernel) rfl)) <|
  z_ac (j := 2) rfl (z_eI (sp_iload_n (q := 1) dX9_placeOf_2 rfl rfl)) <|
  z_ac (j := 3) rfl (z_eI (sp_imul dX9_placeOf_3 rfl)) <|
  z_ac (j := 4) rfl (z_eI (sp_iload_n (q := 0) dX9_placeOf_4 rfl rfl)) <|
  z_ac (j := 5) rfl (z_eI (sp_iadd dX9_placeOf_5 rfl)) <|
  z_ac (j := 6) rfl (z_eR (sr_int dX9_placeOf_6 rfl)) <| z_an
theorem dX9_columnBy_0 : decode cX9_columnBy 0 = .ok (.iload_n 0, 1) := by decide +kernel
theorem dX9_columnBy_1 : decode cX9_columnBy 1 = .ok (.iconst 1, 1) := by decide +kernel
theorem dX9_columnBy_2 : decode cX9_columnBy 2 = .ok (.if_icmp .ne 7, 3) := by decide +kernel
theorem dX9_columnBy_5 : decode cX9_columnBy 5 = .ok (.iconst 1, 1) := by decide +kernel
theorem dX9_columnBy_6 : decode cX9_columnBy 6 = .ok (.goto 13, 3) := by decide +kernel
theorem dX9_columnBy_9 : decode cX9_columnBy 9 = .ok (.iload_n 0, 1) := by decide +kernel
theorem dX9_columnBy_10 : decode cX9_columnBy 10 = .ok (.iconst 3, 1) := by decide +kernel
theorem dX9_columnBy_11 : decode cX9_columnBy 11 = .ok (.if_icmp .ne 7, 3) := by decide +kernel
theorem dX9_columnBy_14 : decode cX9_columnBy 14 = .ok (.iconst (-1), 1) := by decide +kernel
theorem dX9_columnBy_15 : decode cX9_columnBy 15 = .ok (.goto 4, 3) := by decide +kernel
theorem dX9_columnBy_18 : decode cX9_columnBy 18 = .ok (.iconst 0, 1) := by decide +kernel
theorem dX9_columnBy_19 : decode cX9_columnBy 19 = .ok (.ireturn, 1) := by decide +kernel
theorem tX9_columnBy {L : Nat} {xs : Nat → Int32} {N : Nat} : z_AllE (zE L xs N 14) 0 (kX9_columnBy N) :=
  z_ac (j := 1) rfl (z_eI (sp_iload_n (q := 0) dX9_columnBy_0 rfl rfl)) <|
  z_ac (j := 2) rfl (z_eI (sp_iconst dX9_columnBy_1 (by decide +kernel) rfl)) <|
  z_ac (j := 3) rfl (z_eI (sp_icmp_ne dX9_columnBy_2 rfl rfl)) <|
  z_ac (j := 4) rfl (z_eI (sp_iconst dX9_columnBy_5 (by decide +kernel) rfl)) <|
  z_ac (j := 5) rfl (z_eI (sp_goto dX9_columnBy_6 rfl)) <|
  z_ac (j := 6) rfl (z_eI (sp_iload_n (q := 0) dX9_columnBy_9 rfl rfl)) <|
  z_ac (j := 7) rfl (z_eI (sp_iconst dX9_columnBy_10 (by decide +kernel) rfl)) <|
  z_ac (j := 8) rfl (z_eI (sp_icmp_ne dX9_columnBy_11 rfl rfl)) <|
  z_ac (j := 9) rfl (z_eI (sp_iconst dX9_columnBy_14 (by decide +kernel) rfl)) <|
  z_ac (j := 10) rfl (z_eI (sp_goto dX9_columnBy_15 rfl)) <|
  z_ac (j := 11) rfl (z_eI (sp_iconst dX9_columnBy_18 (by decide +kernel) rfl)) <|
  z_ac (j := 12) rfl (z_eR (sr_int dX9_columnBy_19 rfl)) <| z_an
theorem dX9_rowBy_0 : decode cX9_rowBy 0 = .ok (.iload_n 0, 1) := by decide +kernel
theorem dX9_rowBy_1 : decode cX9_rowBy 1 = .ok (.ifCond .ne 7, 3) := by decide +kernel
theorem dX9_rowBy_4 : decode cX9_rowBy 4 = .ok (.iconst (-1), 1) := by decide +kernel
theorem dX9_rowBy_5 : decode cX9_rowBy 5 = .ok (.goto 13, 3) := by decide +kernel
theorem dX9_rowBy_8 : decode cX9_rowBy 8 = .ok (.iload_n 0, 1) := by decide +kernel
theorem dX9_rowBy_9 : decode cX9_rowBy 9 = .ok (.iconst 2, 1) := by decide +kernel
theorem dX9_rowBy_10 : decode cX9_rowBy 10 = .ok (.if_icmp .ne 7, 3) := by decide +kernel
theorem dX9_rowBy_13 : decode cX9_rowBy 13 = .ok (.iconst 1, 1) := by decide +kernel
theorem dX9_rowBy_14 : decode cX9_rowBy 14 = .ok (.goto 4, 3) := by decide +kernel
theorem dX9_rowBy_17 : decode cX9_rowBy 17 = .ok (.iconst 0, 1) := by decide +kernel
theorem dX9_rowBy_18 : decode cX9_rowBy 18 = .ok (.ireturn, 1) := by decide +kernel
theorem tX9_rowBy {L : Nat} {xs : Nat → Int32} {N : Nat} : z_AllE (zE L xs N 15) 0 (kX9_rowBy N) :=
  z_ac (j := 1) rfl (z_eI (sp_iload_n (q := 0) dX9_rowBy_0 rfl rfl)) <|
  z_ac (j := 2) rfl (z_eI (sp_if_ne dX9_rowBy_1 rfl rfl)) <|
  z_ac (j := 3) rfl (z_eI (sp_iconst dX9_rowBy_4 (by decide +kernel) rfl)) <|
  z_ac (j := 4) rfl (z_eI (sp_goto dX9_rowBy_5 rfl)) <|
  z_ac (j := 5) rfl (z_eI (sp_iload_n (q := 0) dX9_rowBy_8 rfl rfl)) <|
  z_ac (j := 6) rfl (z_eI (sp_iconst dX9_rowBy_9 (by decide +kernel) rfl)) <|
  z_ac (j := 7) rfl (z_eI (sp_icmp_ne dX9_rowBy_10 rfl rfl)) <|
  z_ac (j := 8) rfl (z_eI (sp_iconst dX9_rowBy_13 (by decide +kernel) rfl)) <|
  z_ac (j := 9) rfl (z_eI (sp_goto dX9_rowBy_14 rfl)) <|
  z_ac (j := 10) rfl (z_eI (sp_iconst dX9_rowBy_17 (by decide +kernel) rfl)) <|
  z_ac (j := 11) rfl (z_eR (sr_int dX9_rowBy_18 rfl)) <| z_an
theorem dX9_clearsSteps_0 : decode cX9_clearsSteps 0 = .ok (.iconst 0, 1) := by decide +kernel
theorem dX9_clearsSteps_1 : decode cX9_clearsSteps 1 = .ok (.istore_n 1, 1) := by decide +kernel
theorem dX9_clearsSteps_2 : decode cX9_clearsSteps 2 = .ok (.iload_n 1, 1) := by decide +kernel
theorem dX9_clearsSteps_3 : decode cX9_clearsSteps 3 = .ok (.sipush 144, 3) := by decide +kernel
theorem dX9_clearsSteps_6 : decode cX9_clearsSteps 6 = .ok (.if_icmp .ge 16, 3) := by decide +kernel
theorem dX9_clearsSteps_9 : decode cX9_clearsSteps 9 = .ok (.aload_n 0, 1) := by decide +kernel
theorem dX9_clearsSteps_10 : decode cX9_clearsSteps 10 = .ok (.getfield 36, 3) := by decide +kernel
theorem dX9_clearsSteps_13 : decode cX9_clearsSteps 13 = .ok (.iload_n 1, 1) := by decide +kernel
theorem dX9_clearsSteps_14 : decode cX9_clearsSteps 14 = .ok (.iconst (-1), 1) := by decide +kernel
theorem dX9_clearsSteps_15 : decode cX9_clearsSteps 15 = .ok (.iastore, 1) := by decide +kernel
theorem dX9_clearsSteps_16 : decode cX9_clearsSteps 16 = .ok (.iinc 1 1, 3) := by decide +kernel
theorem dX9_clearsSteps_19 : decode cX9_clearsSteps 19 = .ok (.goto (-17), 3) := by decide +kernel
theorem dX9_clearsSteps_22 : decode cX9_clearsSteps 22 = .ok (.aload_n 0, 1) := by decide +kernel
theorem dX9_clearsSteps_23 : decode cX9_clearsSteps 23 = .ok (.iconst 0, 1) := by decide +kernel
theorem dX9_clearsSteps_24 : decode cX9_clearsSteps 24 = .ok (.putfield 64, 3) := by decide +kernel
theorem dX9_clearsSteps_27 : decode cX9_clearsSteps 27 = .ok (.aload_n 0, 1) := by decide +kernel
theorem dX9_clearsSteps_28 : decode cX9_clearsSteps 28 = .ok (.iconst 0, 1) := by decide +kernel
theorem dX9_clearsSteps_29 : decode cX9_clearsSteps 29 = .ok (.putfield 67, 3) := by decide +kernel
theorem dX9_clearsSteps_32 : decode cX9_clearsSteps 32 = .ok (.return_, 1) := by decide +kernel
theorem tX9_clearsSteps {L : Nat} {xs : Nat → Int32} {N : Nat} : z_AllE (zE L xs N 16) 0 (kX9_clearsSteps N) :=
  z_ac (j := 1) rfl (z_eI (sp_iconst dX9_clearsSteps_0 (by decide +kernel) rfl)) <|
  z_ac (j := 2) rfl (z_eI (sp_istore_n (q := 1) dX9_clearsSteps_1 rfl (by decide) (fun _ _ => rfl) rfl)) <|
  z_ac (j := 3) rfl (z_eI (sp_iload_n (q := 1) dX9_clearsSteps_2 rfl rfl)) <|
  z_ac (j := 4) rfl (z_eI (sp_sipush dX9_clearsSteps_3 (by decide +kernel) rfl)) <|
  z_ac (j := 5) rfl (z_eI (sp_icmp_ge dX9_clearsSteps_6 rfl rfl)) <|
  z_ac (j := 6) rfl (z_eI (sp_aload_n (q := 0) dX9_clearsSteps_9 rfl rfl)) <|
  z_ac (j := 7) rfl (z_eI (sp_getf (C := RX9) (T := TX9) (Nf := 23) dX9_clearsSteps_10 rfl inX9 (by decide) wf_1357 rfl)) <|
  z_ac (j := 8) rfl (z_eI (sp_iload_n (q := 1) dX9_clearsSteps_13 rfl rfl)) <|
  z_ac (j := 9) rfl (z_eI (sp_iconst dX9_clearsSteps_14 (by decide +kernel) rfl)) <|
  z_ac (j := 10) rfl (z_eI (sp_iast dX9_clearsSteps_15 rfl)) <|
  z_ac (j := 11) rfl (z_eI (sp_iinc dX9_clearsSteps_16 (by decide +kernel) (by decide) (fun _ _ => rfl) rfl)) <|
  z_ac (j := 12) rfl (z_eI (sp_goto dX9_clearsSteps_19 rfl)) <|
  z_ac (j := 13) rfl (z_eI (sp_aload_n (q := 0) dX9_clearsSteps_22 rfl rfl)) <|
  z_ac (j := 14) rfl (z_eI (sp_iconst dX9_clearsSteps_23 (by decide +kernel) rfl)) <|
  z_ac (j := 15) rfl (z_eI (sp_putI (C := RX9) (T := TX9) (Nf := 23) dX9_clearsSteps_24 rfl inX9 tyX9_ok nmX9 (by decide) wf_1359 rfl (by decide +kernel) rfl)) <|
  z_ac (j := 16) rfl (z_eI (sp_aload_n (q := 0) dX9_clearsSteps_27 rfl rfl)) <|
  z_ac (j := 17) rfl (z_eI (sp_iconst dX9_clearsSteps_28 (by decide +kernel) rfl)) <|
  z_ac (j := 18) rfl (z_eI (sp_putI (C := RX9) (T := TX9) (Nf := 23) dX9_clearsSteps_29 rfl inX9 tyX9_ok nmX9 (by decide) wf_1360 rfl (by decide +kernel) rfl)) <|
  z_ac (j := 19) rfl (z_eW (sv_void dX9_clearsSteps_32 rfl)) <| z_an
theorem dX9_reaches_0 : decode cX9_reaches 0 = .ok (.aload_n 0, 1) := by decide +kernel
theorem dX9_reaches_1 : decode cX9_reaches 1 = .ok (.getfield 36, 3) := by decide +kernel
theorem dX9_reaches_4 : decode cX9_reaches 4 = .ok (.iload_n 1, 1) := by decide +kernel
theorem dX9_reaches_5 : decode cX9_reaches 5 = .ok (.iload_n 2, 1) := by decide +kernel
theorem dX9_reaches_6 : decode cX9_reaches 6 = .ok (.iastore, 1) := by decide +kernel
theorem dX9_reaches_7 : decode cX9_reaches 7 = .ok (.aload_n 0, 1) := by decide +kernel
theorem dX9_reaches_8 : decode cX9_reaches 8 = .ok (.getfield 39, 3) := by decide +kernel
theorem dX9_reaches_11 : decode cX9_reaches 11 = .ok (.aload_n 0, 1) := by decide +kernel
theorem dX9_reaches_12 : decode cX9_reaches 12 = .ok (.getfield 67, 3) := by decide +kernel
theorem dX9_reaches_15 : decode cX9_reaches 15 = .ok (.iload_n 1, 1) := by decide +kernel
theorem dX9_reaches_16 : decode cX9_reaches 16 = .ok (.iastore, 1) := by decide +kernel
theorem dX9_reaches_17 : decode cX9_reaches 17 = .ok (.aload_n 0, 1) := by decide +kernel
theorem dX9_reaches_18 : decode cX9_reaches 18 = .ok (.dup, 1) := by decide +kernel
theorem dX9_reaches_19 : decode cX9_reaches 19 = .ok (.getfield 67, 3) := by decide +kernel
theorem dX9_reaches_22 : decode cX9_reaches 22 = .ok (.iconst 1, 1) := by decide +kernel
theorem dX9_reaches_23 : decode cX9_reaches 23 = .ok (.iadd, 1) := by decide +kernel
theorem dX9_reaches_24 : decode cX9_reaches 24 = .ok (.putfield 67, 3) := by decide +kernel
theorem dX9_reaches_27 : decode cX9_reaches 27 = .ok (.return_, 1) := by decide +kernel
theorem tX9_reaches {L : Nat} {xs : Nat → Int32} {N : Nat} : z_AllE (zE L xs N 17) 0 (kX9_reaches N) :=
  z_ac (j := 1) rfl (z_eI (sp_aload_n (q := 0) dX9_reaches_0 rfl rfl)) <|
  z_ac (j := 2) rfl (z_eI (sp_getf (C := RX9) (T := TX9) (Nf := 23) dX9_reaches_1 rfl inX9 (by decide) wf_1357 rfl)) <|
  z_ac (j := 3) rfl (z_eI (sp_iload_n (q := 1) dX9_reaches_4 rfl rfl)) <|
  z_ac (j := 4) rfl (z_eI (sp_iload_n (q := 2) dX9_reaches_5 rfl rfl)) <|
  z_ac (j := 5) rfl (z_eI (sp_iast dX9_reaches_6 rfl)) <|
  z_ac (j := 6) rfl (z_eI (sp_aload_n (q := 0) dX9_reaches_7 rfl rfl)) <|
  z_ac (j := 7) rfl (z_eI (sp_getf (C := RX9) (T := TX9) (Nf := 23) dX9_reaches_8 rfl inX9 (by decide) wf_1358 rfl)) <|
  z_ac (j := 8) rfl (z_eI (sp_aload_n (q := 0) dX9_reaches_11 rfl rfl)) <|
  z_ac (j := 9) rfl (z_eI (sp_getf (C := RX9) (T := TX9) (Nf := 23) dX9_reaches_12 rfl inX9 (by decide) wf_1360 rfl)) <|
  z_ac (j := 10) rfl (z_eI (sp_iload_n (q := 1) dX9_reaches_15 rfl rfl)) <|
  z_ac (j := 11) rfl (z_eI (sp_iast dX9_reaches_16 rfl)) <|
  z_ac (j := 12) rfl (z_eI (sp_aload_n (q := 0) dX9_reaches_17 rfl rfl)) <|
  z_ac (j := 13) rfl (z_eI (sp_dup dX9_reaches_18 rfl)) <|
  z_ac (j := 14) rfl (z_eI (sp_getf (C := RX9) (T := TX9) (Nf := 23) dX9_reaches_19 rfl inX9 (by decide) wf_1360 rfl)) <|
  z_ac (j := 15) rfl (z_eI (sp_iconst dX9_reaches_22 (by decide +kernel) rfl)) <|
  z_ac (j := 16) rfl (z_eI (sp_iadd dX9_reaches_23 rfl)) <|
  z_ac (j := 17) rfl (z_eI (sp_putI (C := RX9) (T := TX9) (Nf := 23) dX9_reaches_24 rfl inX9 tyX9_ok nmX9 (by decide) wf_1360 rfl (by decide +kernel) rfl)) <|
  z_ac (j := 18) rfl (z_eW (sv_void dX9_reaches_27 rfl)) <| z_an
theorem dX9_spreads_0 : decode cX9_spreads 0 = .ok (.aload_n 0, 1) := by decide +kernel
theorem dX9_spreads_1 : decode cX9_spreads 1 = .ok (.getfield 64, 3) := by decide +kernel
theorem dX9_spreads_4 : decode cX9_spreads 4 = .ok (.aload_n 0, 1) := by decide +kernel
theorem dX9_spreads_5 : decode cX9_spreads 5 = .ok (.getfield 67, 3) := by decide +kernel
theorem dX9_spreads_8 : decode cX9_spreads 8 = .ok (.if_icmp .ge 133, 3) := by decide +kernel
theorem dX9_spreads_11 : decode cX9_spreads 11 = .ok (.aload_n 0, 1) := by decide +kernel
theorem dX9_spreads_12 : decode cX9_spreads 12 = .ok (.getfield 39, 3) := by decide +kernel
theorem dX9_spreads_15 : decode cX9_spreads 15 = .ok (.aload_n 0, 1) := by decide +kernel
theorem dX9_spreads_16 : decode cX9_spreads 16 = .ok (.getfield 64, 3) := by decide +kernel
theorem dX9_spreads_19 : decode cX9_spreads 19 = .ok (.iaload, 1) := by decide +kernel
theorem dX9_spreads_20 : decode cX9_spreads 20 = .ok (.istore_n 2, 1) := by decide +kernel
theorem dX9_spreads_21 : decode cX9_spreads 21 = .ok (.iload_n 2, 1) := by decide +kernel
theorem dX9_spreads_22 : decode cX9_spreads 22 = .ok (.bipush 12, 2) := by decide +kernel
theorem dX9_spreads_24 : decode cX9_spreads 24 = .ok (.irem, 1) := by decide +kernel
theorem dX9_spreads_25 : decode cX9_spreads 25 = .ok (.istore_n 3, 1) := by decide +kernel
theorem dX9_spreads_26 : decode cX9_spreads 26 = .ok (.iload_n 2, 1) := by decide +kernel
theorem dX9_spreads_27 : decode cX9_spreads 27 = .ok (.bipush 12, 2) := by decide +kernel
theorem dX9_spreads_29 : decode cX9_spreads 29 = .ok (.idiv, 1) := by decide +kernel
theorem dX9_spreads_30 : decode cX9_spreads 30 = .ok (.istore 4, 2) := by decide +kernel
theorem dX9_spreads_32 : decode cX9_spreads 32 = .ok (.aload_n 0, 1) := by decide +kernel
theorem dX9_spreads_33 : decode cX9_spreads 33 = .ok (.dup, 1) := by decide +kernel
theorem dX9_spreads_34 : decode cX9_spreads 34 = .ok (.getfield 64, 3) := by decide +kernel
theorem dX9_spreads_37 : decode cX9_spreads 37 = .ok (.iconst 1, 1) := by decide +kernel
theorem dX9_spreads_38 : decode cX9_spreads 38 = .ok (.iadd, 1) := by decide +kernel
theorem dX9_spreads_39 : decode cX9_spreads 39 = .ok (.putfield 64, 3) := by decide +kernel
theorem dX9_spreads_42 : decode cX9_spreads 42 = .ok (.iconst 0, 1) := by decide +kernel
theorem dX9_spreads_43 : decode cX9_spreads 43 = .ok (.istore 5, 2) := by decide +kernel
theorem dX9_spreads_45 : decode cX9_spreads 45 = .ok (.iload 5, 2) := by decide +kernel
theorem dX9_spreads_47 : decode cX9_spreads 47 = .ok (.iconst 4, 1) := by decide +kernel
theorem dX9_spreads_48 : decode cX9_spreads 48 = .ok (.if_icmp .ge 90, 3) := by decide +kernel
theorem dX9_spreads_51 : decode cX9_spreads 51 = .ok (.iload_n 3, 1) := by decide +kernel
theorem dX9_spreads_52 : decode cX9_spreads 52 = .ok (.iload 5, 2) := by decide +kernel
theorem dX9_spreads_54 : decode cX9_spreads 54 = .ok (.invokestatic 70, 3) := by decide +kernel
theorem dX9_spreads_57 : decode cX9_spreads 57 = .ok (.iadd, 1) := by decide +kernel
theorem dX9_spreads_58 : decode cX9_spreads 58 = .ok (.istore 6, 2) := by decide +kernel
theorem dX9_spreads_60 : decode cX9_spreads 60 = .ok (.iload 4, 2) := by decide +kernel
theorem dX9_spreads_62 : decode cX9_spreads 62 = .ok (.iload 5, 2) := by decide +kernel
theorem dX9_spreads_64 : decode cX9_spreads 64 = .ok (.invokestatic 74, 3) := by decide +kernel
theorem dX9_spreads_67 : decode cX9_spreads 67 = .ok (.iadd, 1) := by decide +kernel
theorem dX9_spreads_68 : decode cX9_spreads 68 = .ok (.istore 7, 2) := by decide +kernel
theorem dX9_spreads_70 : decode cX9_spreads 70 = .ok (.aload_n 1, 1) := by decide +kernel
theorem dX9_spreads_71 : decode cX9_spreads 71 = .ok (.iload 6, 2) := by decide +kernel
theorem dX9_spreads_73 : decode cX9_spreads 73 = .ok (.iload 7, 2) := by decide +kernel
theorem dX9_spreads_75 : decode cX9_spreads 75 = .ok (.invokestatic 60, 3) := by decide +kernel
theorem dX9_spreads_78 : decode cX9_spreads 78 = .ok (.ifCond .eq 54, 3) := by decide +kernel
theorem dX9_spreads_81 : decode cX9_spreads 81 = .ok (.aload_n 1, 1) := by decide +kernel
theorem dX9_spreads_82 : decode cX9_spreads 82 = .ok (.iload 6, 2) := by decide +kernel
theorem dX9_spreads_84 : decode cX9_spreads 84 = .ok (.iload 7, 2) := by decide +kernel
theorem dX9_spreads_86 : decode cX9_spreads 86 = .ok (.invokestatic 45, 3) := by decide +kernel
theorem dX9_spreads_89 : decode cX9_spreads 89 = .ok (.iaload, 1) := by decide +kernel
theorem dX9_spreads_90 : decode cX9_spreads 90 = .ok (.iconst 1, 1) := by decide +kernel
theorem dX9_spreads_91 : decode cX9_spreads 91 = .ok (.if_icmp .ne 6, 3) := by decide +kernel
theorem dX9_spreads_94 : decode cX9_spreads 94 = .ok (.goto 38, 3) := by decide +kernel
theorem dX9_spreads_97 : decode cX9_spreads 97 = .ok (.aload_n 0, 1) := by decide +kernel
theorem dX9_spreads_98 : decode cX9_spreads 98 = .ok (.getfield 36, 3) := by decide +kernel
theorem dX9_spreads_101 : decode cX9_spreads 101 = .ok (.iload 6, 2) := by decide +kernel
theorem dX9_spreads_103 : decode cX9_spreads 103 = .ok (.iload 7, 2) := by decide +kernel
theorem dX9_spreads_105 : decode cX9_spreads 105 = .ok (.invokestatic 77, 3) := by decide +kernel
theorem dX9_spreads_108 : decode cX9_spreads 108 = .ok (.iaload, 1) := by decide +kernel
theorem dX9_spreads_109 : decode cX9_spreads 109 = .ok (.iconst (-1), 1) := by decide +kernel
theorem dX9_spreads_110 : decode cX9_spreads 110 = .ok (.if_icmp .ne 22, 3) := by decide +kernel
theorem dX9_spreads_113 : decode cX9_spreads 113 = .ok (.aload_n 0, 1) := by decide +kernel
theorem dX9_spreads_114 : decode cX9_spreads 114 = .ok (.iload 6, 2) := by decide +kernel
theorem dX9_spreads_116 : decode cX9_spreads 116 = .ok (.iload 7, 2) := by decide +kernel
theorem dX9_spreads_118 : decode cX9_spreads 118 = .ok (.invokestatic 77, 3) := by decide +kernel
theorem dX9_spreads_121 : decode cX9_spreads 121 = .ok (.aload_n 0, 1) := by decide +kernel
theorem dX9_spreads_122 : decode cX9_spreads 122 = .ok (.getfield 36, 3) := by decide +kernel
theorem dX9_spreads_125 : decode cX9_spreads 125 = .ok (.iload_n 2, 1) := by decide +kernel
theorem dX9_spreads_126 : decode cX9_spreads 126 = .ok (.iaload, 1) := by decide +kernel
theorem dX9_spreads_127 : decode cX9_spreads 127 = .ok (.iconst 1, 1) := by decide +kernel
theorem dX9_spreads_128 : decode cX9_spreads 128 = .ok (.iadd, 1) := by decide +kernel
theorem dX9_spreads_129 : decode cX9_spreads 129 = .ok (.invokevirtual 80, 3) := by decide +kernel
theorem dX9_spreads_132 : decode cX9_spreads 132 = .ok (.iinc 5 1, 3) := by decide +kernel
theorem dX9_spreads_135 : decode cX9_spreads 135 = .ok (.goto (-90), 3) := by decide +kernel
theorem dX9_spreads_138 : decode cX9_spreads 138 = .ok (.goto (-138), 3) := by decide +kernel
theorem dX9_spreads_141 : decode cX9_spreads 141 = .ok (.return_, 1) := by decide +kernel
theorem tX9_spreads {L : Nat} {xs : Nat → Int32} {N : Nat} : z_AllE (zE L xs N 18) 0 (kX9_spreads N) :=
  z_ac (j := 1) rfl (z_eI (sp_aload_n (q := 0) dX9_spreads_0 rfl rfl)) <|
  z_ac (j := 2) rfl (z_eI (sp_getf (C := RX9) (T := TX9) (Nf := 23) dX9_spreads_1 rfl inX9 (by decide) wf_1359 rfl)) <|
  z_ac (j := 3) rfl (z_eI (sp_aload_n (q := 0) dX9_spreads_4 rfl rfl)) <|
  z_ac (j := 4) rfl (z_eI (sp_getf (C := RX9) (T := TX9) (Nf := 23) dX9_spreads_5 rfl inX9 (by decide) wf_1360 rfl)) <|
  z_ac (j := 5) rfl (z_eI (sp_icmp_ge dX9_spreads_8 rfl rfl)) <|
  z_ac (j := 6) rfl (z_eI (sp_aload_n (q := 0) dX9_spreads_11 rfl rfl)) <|
  z_ac (j := 7) rfl (z_eI (sp_getf (C := RX9) (T := TX9) (Nf := 23) dX9_spreads_12 rfl inX9 (by decide) wf_1358 rfl)) <|
  z_ac (j := 8) rfl (z_eI (sp_aload_n (q := 0) dX9_spreads_15 rfl rfl)) <|
  z_ac (j := 9) rfl (z_eI (sp_getf (C := RX9) (T := TX9) (Nf := 23) dX9_spreads_16 rfl inX9 (by decide) wf_1359 rfl)) <|
  z_ac (j := 10) rfl (z_eI (sp_iald dX9_spreads_19 rfl)) <|
  z_ac (j := 11) rfl (z_eI (sp_istore_n (q := 2) dX9_spreads_20 rfl (by decide) (fun _ _ => rfl) rfl)) <|
  z_ac (j := 12) rfl (z_eI (sp_iload_n (q := 2) dX9_spreads_21 rfl rfl)) <|
  z_ac (j := 13) rfl (z_eI (sp_bipush dX9_spreads_22 (by decide +kernel) rfl)) <|
  z_ac (j := 14) rfl (z_eI (sp_irem dX9_spreads_24 rfl)) <|
  z_ac (j := 15) rfl (z_eI (sp_istore_n (q := 3) dX9_spreads_25 rfl (by decide) (fun _ _ => rfl) rfl)) <|
  z_ac (j := 16) rfl (z_eI (sp_iload_n (q := 2) dX9_spreads_26 rfl rfl)) <|
  z_ac (j := 17) rfl (z_eI (sp_bipush dX9_spreads_27 (by decide +kernel) rfl)) <|
  z_ac (j := 18) rfl (z_eI (sp_idiv dX9_spreads_29 rfl)) <|
  z_ac (j := 19) rfl (z_eI (sp_istore dX9_spreads_30 (by decide) (fun _ _ => rfl) rfl)) <|
  z_ac (j := 20) rfl (z_eI (sp_aload_n (q := 0) dX9_spreads_32 rfl rfl)) <|
  z_ac (j := 21) rfl (z_eI (sp_dup dX9_spreads_33 rfl)) <|
  z_ac (j := 22) rfl (z_eI (sp_getf (C := RX9) (T := TX9) (Nf := 23) dX9_spreads_34 rfl inX9 (by decide) wf_1359 rfl)) <|
  z_ac (j := 23) rfl (z_eI (sp_iconst dX9_spreads_37 (by decide +kernel) rfl)) <|
  z_ac (j := 24) rfl (z_eI (sp_iadd dX9_spreads_38 rfl)) <|
  z_ac (j := 25) rfl (z_eI (sp_putI (C := RX9) (T := TX9) (Nf := 23) dX9_spreads_39 rfl inX9 tyX9_ok nmX9 (by decide) wf_1359 rfl (by decide +kernel) rfl)) <|
  z_ac (j := 26) rfl (z_eI (sp_iconst dX9_spreads_42 (by decide +kernel) rfl)) <|
  z_ac (j := 27) rfl (z_eI (sp_istore dX9_spreads_43 (by decide) (fun _ _ => rfl) rfl)) <|
  z_ac (j := 28) rfl (z_eI (sp_iload dX9_spreads_45 rfl)) <|
  z_ac (j := 29) rfl (z_eI (sp_iconst dX9_spreads_47 (by decide +kernel) rfl)) <|
  z_ac (j := 30) rfl (z_eI (sp_icmp_ge dX9_spreads_48 rfl rfl)) <|
  z_ac (j := 31) rfl (z_eI (sp_iload_n (q := 3) dX9_spreads_51 rfl rfl)) <|
  z_ac (j := 32) rfl (z_eI (sp_iload dX9_spreads_52 rfl)) <|
  z_ac (j := 33) rfl (z_cS dX9_spreads_54 wl_1601 qX9_columnBy (by decide +kernel) (z_sn rfl rfl) rfl) <|
  z_ac (j := 34) rfl (z_eI (sp_iadd dX9_spreads_57 rfl)) <|
  z_ac (j := 35) rfl (z_eI (sp_istore dX9_spreads_58 (by decide) (fun _ _ => rfl) rfl)) <|
  z_ac (j := 36) rfl (z_eI (sp_iload dX9_spreads_60 rfl)) <|
  z_ac (j := 37) rfl (z_eI (sp_iload dX9_spreads_62 rfl)) <|
  z_ac (j := 38) rfl (z_cS dX9_spreads_64 wl_1604 qX9_rowBy (by decide +kernel) (z_sn rfl rfl) rfl) <|
  z_ac (j := 39) rfl (z_eI (sp_iadd dX9_spreads_67 rfl)) <|
  z_ac (j := 40) rfl (z_eI (sp_istore dX9_spreads_68 (by decide) (fun _ _ => rfl) rfl)) <|
  z_ac (j := 41) rfl (z_eI (sp_aload_n (q := 1) dX9_spreads_70 rfl rfl)) <|
  z_ac (j := 42) rfl (z_eI (sp_iload dX9_spreads_71 rfl)) <|
  z_ac (j := 43) rfl (z_eI (sp_iload dX9_spreads_73 rfl)) <|
  z_ac (j := 44) rfl (z_cS dX9_spreads_75 wl_1551 qX9_isInside (by decide +kernel) (z_sn rfl rfl) rfl) <|
  z_ac (j := 45) rfl (z_eI (sp_if_eq dX9_spreads_78 rfl rfl)) <|
  z_ac (j := 46) rfl (z_eI (sp_aload_n (q := 1) dX9_spreads_81 rfl rfl)) <|
  z_ac (j := 47) rfl (z_eI (sp_iload dX9_spreads_82 rfl)) <|
  z_ac (j := 48) rfl (z_eI (sp_iload dX9_spreads_84 rfl)) <|
  z_ac (j := 49) rfl (z_cS dX9_spreads_86 wl_1343 qX9_cellAt (by decide +kernel) (z_sn rfl rfl) rfl) <|
  z_ac (j := 50) rfl (z_eI (sp_iald dX9_spreads_89 rfl)) <|
  z_ac (j := 51) rfl (z_eI (sp_iconst dX9_spreads_90 (by decide +kernel) rfl)) <|
  z_ac (j := 52) rfl (z_eI (sp_icmp_ne dX9_spreads_91 rfl rfl)) <|
  z_ac (j := 53) rfl (z_eI (sp_goto dX9_spreads_94 rfl)) <|
  z_ac (j := 54) rfl (z_eI (sp_aload_n (q := 0) dX9_spreads_97 rfl rfl)) <|
  z_ac (j := 55) rfl (z_eI (sp_getf (C := RX9) (T := TX9) (Nf := 23) dX9_spreads_98 rfl inX9 (by decide) wf_1357 rfl)) <|
  z_ac (j := 56) rfl (z_eI (sp_iload dX9_spreads_101 rfl)) <|
  z_ac (j := 57) rfl (z_eI (sp_iload dX9_spreads_103 rfl)) <|
  z_ac (j := 58) rfl (z_cS dX9_spreads_105 wl_1590 qX9_placeOf (by decide +kernel) (z_sn rfl rfl) rfl) <|
  z_ac (j := 59) rfl (z_eI (sp_iald dX9_spreads_108 rfl)) <|
  z_ac (j := 60) rfl (z_eI (sp_iconst dX9_spreads_109 (by decide +kernel) rfl)) <|
  z_ac (j := 61) rfl (z_eI (sp_icmp_ne dX9_spreads_110 rfl rfl)) <|
  z_ac (j := 62) rfl (z_eI (sp_aload_n (q := 0) dX9_spreads_113 rfl rfl)) <|
  z_ac (j := 63) rfl (z_eI (sp_iload dX9_spreads_114 rfl)) <|
  z_ac (j := 64) rfl (z_eI (sp_iload dX9_spreads_116 rfl)) <|
  z_ac (j := 65) rfl (z_cS dX9_spreads_118 wl_1590 qX9_placeOf (by decide +kernel) (z_sn rfl rfl) rfl) <|
  z_ac (j := 66) rfl (z_eI (sp_aload_n (q := 0) dX9_spreads_121 rfl rfl)) <|
  z_ac (j := 67) rfl (z_eI (sp_getf (C := RX9) (T := TX9) (Nf := 23) dX9_spreads_122 rfl inX9 (by decide) wf_1357 rfl)) <|
  z_ac (j := 68) rfl (z_eI (sp_iload_n (q := 2) dX9_spreads_125 rfl rfl)) <|
  z_ac (j := 69) rfl (z_eI (sp_iald dX9_spreads_126 rfl)) <|
  z_ac (j := 70) rfl (z_eI (sp_iconst dX9_spreads_127 (by decide +kernel) rfl)) <|
  z_ac (j := 71) rfl (z_eI (sp_iadd dX9_spreads_128 rfl)) <|
  z_ac (j := 72) rfl (z_cV dX9_spreads_129 wl_1593 qX9_reaches (by decide +kernel) ⟨_, _, rfl⟩ (z_sn rfl rfl) rfl) <|
  z_ac (j := 73) rfl (z_eI (sp_iinc dX9_spreads_132 (by decide +kernel) (by decide) (fun _ _ => rfl) rfl)) <|
  z_ac (j := 74) rfl (z_eI (sp_goto dX9_spreads_135 rfl)) <|
  z_ac (j := 75) rfl (z_eI (sp_goto dX9_spreads_138 rfl)) <|
  z_ac (j := 76) rfl (z_eW (sv_void dX9_spreads_141 rfl)) <| z_an
theorem dX9_spreadsTo_0 : decode cX9_spreadsTo 0 = .ok (.aload_n 0, 1) := by decide +kernel
theorem dX9_spreadsTo_1 : decode cX9_spreadsTo 1 = .ok (.invokevirtual 84, 3) := by decide +kernel
theorem dX9_spreadsTo_4 : decode cX9_spreadsTo 4 = .ok (.aload_n 0, 1) := by decide +kernel
theorem dX9_spreadsTo_5 : decode cX9_spreadsTo 5 = .ok (.iload_n 2, 1) := by decide +kernel
theorem dX9_spreadsTo_6 : decode cX9_spreadsTo 6 = .ok (.iload_n 3, 1) := by decide +kernel
theorem dX9_spreadsTo_7 : decode cX9_spreadsTo 7 = .ok (.invokestatic 77, 3) := by decide +kernel
theorem dX9_spreadsTo_10 : decode cX9_spreadsTo 10 = .ok (.iconst 0, 1) := by decide +kernel
theorem dX9_spreadsTo_11 : decode cX9_spreadsTo 11 = .ok (.invokevirtual 80, 3) := by decide +kernel
theorem dX9_spreadsTo_14 : decode cX9_spreadsTo 14 = .ok (.aload_n 1, 1) := by decide +kernel
theorem dX9_spreadsTo_15 : decode cX9_spreadsTo 15 = .ok (.iload_n 2, 1) := by decide +kernel
theorem dX9_spreadsTo_16 : decode cX9_spreadsTo 16 = .ok (.iload_n 3, 1) := by decide +kernel
theorem dX9_spreadsTo_17 : decode cX9_spreadsTo 17 = .ok (.invokestatic 45, 3) := by decide +kernel
theorem dX9_spreadsTo_20 : decode cX9_spreadsTo 20 = .ok (.iaload, 1) := by decide +kernel
theorem dX9_spreadsTo_21 : decode cX9_spreadsTo 21 = .ok (.iconst 1, 1) := by decide +kernel
theorem dX9_spreadsTo_22 : decode cX9_spreadsTo 22 = .ok (.if_icmp .eq 8, 3) := by decide +kernel
theorem dX9_spreadsTo_25 : decode cX9_spreadsTo 25 = .ok (.aload_n 0, 1) := by decide +kernel
theorem dX9_spreadsTo_26 : decode cX9_spreadsTo 26 = .ok (.aload_n 1, 1) := by decide +kernel
theorem dX9_spreadsTo_27 : decode cX9_spreadsTo 27 = .ok (.invokevirtual 87, 3) := by decide +kernel
theorem dX9_spreadsTo_30 : decode cX9_spreadsTo 30 = .ok (.return_, 1) := by decide +kernel
theorem tX9_spreadsTo {L : Nat} {xs : Nat → Int32} {N : Nat} : z_AllE (zE L xs N 19) 0 (kX9_spreadsTo N) :=
  z_ac (j := 1) rfl (z_eI (sp_aload_n (q := 0) dX9_spreadsTo_0 rfl rfl)) <|
  z_ac (j := 2) rfl (z_cV dX9_spreadsTo_1 wl_1586 qX9_clearsSteps (by decide +kernel) ⟨_, _, rfl⟩ (z_sn rfl rfl) rfl) <|
  z_ac (j := 3) rfl (z_eI (sp_aload_n (q := 0) dX9_spreadsTo_4 rfl rfl)) <|
  z_ac (j := 4) rfl (z_eI (sp_iload_n (q := 2) dX9_spreadsTo_5 rfl rfl)) <|
  z_ac (j := 5) rfl (z_eI (sp_iload_n (q := 3) dX9_spreadsTo_6 rfl rfl)) <|
  z_ac (j := 6) rfl (z_cS dX9_spreadsTo_7 wl_1590 qX9_placeOf (by decide +kernel) (z_sn rfl rfl) rfl) <|
  z_ac (j := 7) rfl (z_eI (sp_iconst dX9_spreadsTo_10 (by decide +kernel) rfl)) <|
  z_ac (j := 8) rfl (z_cV dX9_spreadsTo_11 wl_1593 qX9_reaches (by decide +kernel) ⟨_, _, rfl⟩ (z_sn rfl rfl) rfl) <|
  z_ac (j := 9) rfl (z_eI (sp_aload_n (q := 1) dX9_spreadsTo_14 rfl rfl)) <|
  z_ac (j := 10) rfl (z_eI (sp_iload_n (q := 2) dX9_spreadsTo_15 rfl rfl)) <|
  z_ac (j := 11) rfl (z_eI (sp_iload_n (q := 3) dX9_spreadsTo_16 rfl rfl)) <|
  z_ac (j := 12) rfl (z_cS dX9_spreadsTo_17 wl_1343 qX9_cellAt (by decide +kernel) (z_sn rfl rfl) rfl) <|
  z_ac (j := 13) rfl (z_eI (sp_iald dX9_spreadsTo_20 rfl)) <|
  z_ac (j := 14) rfl (z_eI (sp_iconst dX9_spreadsTo_21 (by decide +kernel) rfl)) <|
  z_ac (j := 15) rfl (z_eI (sp_icmp_eq dX9_spreadsTo_22 rfl rfl)) <|
  z_ac (j := 16) rfl (z_eI (sp_aload_n (q := 0) dX9_spreadsTo_25 rfl rfl)) <|
  z_ac (j := 17) rfl (z_eI (sp_aload_n (q := 1) dX9_spreadsTo_26 rfl rfl)) <|
  z_ac (j := 18) rfl (z_cV dX9_spreadsTo_27 wl_1597 qX9_spreads (by decide +kernel) ⟨_, _, rfl⟩ (z_sn rfl rfl) rfl) <|
  z_ac (j := 19) rfl (z_eW (sv_void dX9_spreadsTo_30 rfl)) <| z_an
theorem dX9_spreadsToHuts_0 : decode cX9_spreadsToHuts 0 = .ok (.aload_n 0, 1) := by decide +kernel
theorem dX9_spreadsToHuts_1 : decode cX9_spreadsToHuts 1 = .ok (.invokevirtual 84, 3) := by decide +kernel
theorem dX9_spreadsToHuts_4 : decode cX9_spreadsToHuts 4 = .ok (.iconst 0, 1) := by decide +kernel
theorem dX9_spreadsToHuts_5 : decode cX9_spreadsToHuts 5 = .ok (.istore_n 2, 1) := by decide +kernel
theorem dX9_spreadsToHuts_6 : decode cX9_spreadsToHuts 6 = .ok (.iload_n 2, 1) := by decide +kernel
theorem dX9_spreadsToHuts_7 : decode cX9_spreadsToHuts 7 = .ok (.aload_n 1, 1) := by decide +kernel
theorem dX9_spreadsToHuts_8 : decode cX9_spreadsToHuts 8 = .ok (.iconst 1, 1) := by decide +kernel
theorem dX9_spreadsToHuts_9 : decode cX9_spreadsToHuts 9 = .ok (.iaload, 1) := by decide +kernel
theorem dX9_spreadsToHuts_10 : decode cX9_spreadsToHuts 10 = .ok (.if_icmp .ge 45, 3) := by decide +kernel
theorem dX9_spreadsToHuts_13 : decode cX9_spreadsToHuts 13 = .ok (.iconst 0, 1) := by decide +kernel
theorem dX9_spreadsToHuts_14 : decode cX9_spreadsToHuts 14 = .ok (.istore_n 3, 1) := by decide +kernel
theorem dX9_spreadsToHuts_15 : decode cX9_spreadsToHuts 15 = .ok (.iload_n 3, 1) := by decide +kernel
theorem dX9_spreadsToHuts_16 : decode cX9_spreadsToHuts 16 = .ok (.aload_n 1, 1) := by decide +kernel
theorem dX9_spreadsToHuts_17 : decode cX9_spreadsToHuts 17 = .ok (.iconst 0, 1) := by decide +kernel
theorem dX9_spreadsToHuts_18 : decode cX9_spreadsToHuts 18 = .ok (.iaload, 1) := by decide +kernel
theorem dX9_spreadsToHuts_19 : decode cX9_spreadsToHuts 19 = .ok (.if_icmp .ge 30, 3) := by decide +kernel
theorem dX9_spreadsToHuts_22 : decode cX9_spreadsToHuts 22 = .ok (.aload_n 1, 1) := by decide +kernel
theorem dX9_spreadsToHuts_23 : decode cX9_spreadsToHuts 23 = .ok (.iload_n 3, 1) := by decide +kernel
theorem dX9_spreadsToHuts_24 : decode cX9_spreadsToHuts 24 = .ok (.iload_n 2, 1) := by decide +kernel
theorem dX9_spreadsToHuts_25 : decode cX9_spreadsToHuts 25 = .ok (.invokestatic 45, 3) := by decide +kernel
theorem dX9_spreadsToHuts_28 : decode cX9_spreadsToHuts 28 = .ok (.iaload, 1) := by decide +kernel
theorem dX9_spreadsToHuts_29 : decode cX9_spreadsToHuts 29 = .ok (.iconst 2, 1) := by decide +kernel
theorem dX9_spreadsToHuts_30 : decode cX9_spreadsToHuts 30 = .ok (.if_icmp .ne 13, 3) := by decide +kernel
theorem dX9_spreadsToHuts_33 : decode cX9_spreadsToHuts 33 = .ok (.aload_n 0, 1) := by decide +kernel
theorem dX9_spreadsToHuts_34 : decode cX9_spreadsToHuts 34 = .ok (.iload_n 3, 1) := by decide +kernel
theorem dX9_spreadsToHuts_35 : decode cX9_spreadsToHuts 35 = .ok (.iload_n 2, 1) := by decide +kernel
theorem dX9_spreadsToHuts_36 : decode cX9_spreadsToHuts 36 = .ok (.invokestatic 77, 3) := by decide +kernel
theorem dX9_spreadsToHuts_39 : decode cX9_spreadsToHuts 39 = .ok (.iconst 0, 1) := by decide +kernel
theorem dX9_spreadsToHuts_40 : decode cX9_spreadsToHuts 40 = .ok (.invokevirtual 80, 3) := by decide +kernel
theorem dX9_spreadsToHuts_43 : decode cX9_spreadsToHuts 43 = .ok (.iinc 3 1, 3) := by decide +kernel
theorem dX9_spreadsToHuts_46 : decode cX9_spreadsToHuts 46 = .ok (.goto (-31), 3) := by decide +kernel
theorem dX9_spreadsToHuts_49 : decode cX9_spreadsToHuts 49 = .ok (.iinc 2 1, 3) := by decide +kernel
theorem dX9_spreadsToHuts_52 : decode cX9_spreadsToHuts 52 = .ok (.goto (-46), 3) := by decide +kernel
theorem dX9_spreadsToHuts_55 : decode cX9_spreadsToHuts 55 = .ok (.aload_n 0, 1) := by decide +kernel
theorem dX9_spreadsToHuts_56 : decode cX9_spreadsToHuts 56 = .ok (.aload_n 1, 1) := by decide +kernel
theorem dX9_spreadsToHuts_57 : decode cX9_spreadsToHuts 57 = .ok (.invokevirtual 87, 3) := by decide +kernel
theorem dX9_spreadsToHuts_60 : decode cX9_spreadsToHuts 60 = .ok (.return_, 1) := by decide +kernel
theorem tX9_spreadsToHuts {L : Nat} {xs : Nat → Int32} {N : Nat} : z_AllE (zE L xs N 20) 0 (kX9_spreadsToHuts N) :=
  z_ac (j := 1) rfl (z_eI (sp_aload_n (q := 0) dX9_spreadsToHuts_0 rfl rfl)) <|
  z_ac (j := 2) rfl (z_cV dX9_spreadsToHuts_1 wl_1586 qX9_clearsSteps (by decide +kernel) ⟨_, _, rfl⟩ (z_sn rfl rfl) rfl) <|
  z_ac (j := 3) rfl (z_eI (sp_iconst dX9_spreadsToHuts_4 (by decide +kernel) rfl)) <|
  z_ac (j := 4) rfl (z_eI (sp_istore_n (q := 2) dX9_spreadsToHuts_5 rfl (by decide) (fun _ _ => rfl) rfl)) <|
  z_ac (j := 5) rfl (z_eI (sp_iload_n (q := 2) dX9_spreadsToHuts_6 rfl rfl)) <|
  z_ac (j := 6) rfl (z_eI (sp_aload_n (q := 1) dX9_spreadsToHuts_7 rfl rfl)) <|
  z_ac (j := 7) rfl (z_eI (sp_iconst dX9_spreadsToHuts_8 (by decide +kernel) rfl)) <|
  z_ac (j := 8) rfl (z_eI (sp_iald dX9_spreadsToHuts_9 rfl)) <|
  z_ac (j := 9) rfl (z_eI (sp_icmp_ge dX9_spreadsToHuts_10 rfl rfl)) <|
  z_ac (j := 10) rfl (z_eI (sp_iconst dX9_spreadsToHuts_13 (by decide +kernel) rfl)) <|
  z_ac (j := 11) rfl (z_eI (sp_istore_n (q := 3) dX9_spreadsToHuts_14 rfl (by decide) (fun _ _ => rfl) rfl)) <|
  z_ac (j := 12) rfl (z_eI (sp_iload_n (q := 3) dX9_spreadsToHuts_15 rfl rfl)) <|
  z_ac (j := 13) rfl (z_eI (sp_aload_n (q := 1) dX9_spreadsToHuts_16 rfl rfl)) <|
  z_ac (j := 14) rfl (z_eI (sp_iconst dX9_spreadsToHuts_17 (by decide +kernel) rfl)) <|
  z_ac (j := 15) rfl (z_eI (sp_iald dX9_spreadsToHuts_18 rfl)) <|
  z_ac (j := 16) rfl (z_eI (sp_icmp_ge dX9_spreadsToHuts_19 rfl rfl)) <|
  z_ac (j := 17) rfl (z_eI (sp_aload_n (q := 1) dX9_spreadsToHuts_22 rfl rfl)) <|
  z_ac (j := 18) rfl (z_eI (sp_iload_n (q := 3) dX9_spreadsToHuts_23 rfl rfl)) <|
  z_ac (j := 19) rfl (z_eI (sp_iload_n (q := 2) dX9_spreadsToHuts_24 rfl rfl)) <|
  z_ac (j := 20) rfl (z_cS dX9_spreadsToHuts_25 wl_1343 qX9_cellAt (by decide +kernel) (z_sn rfl rfl) rfl) <|
  z_ac (j := 21) rfl (z_eI (sp_iald dX9_spreadsToHuts_28 rfl)) <|
  z_ac (j := 22) rfl (z_eI (sp_iconst dX9_spreadsToHuts_29 (by decide +kernel) rfl)) <|
  z_ac (j := 23) rfl (z_eI (sp_icmp_ne dX9_spreadsToHuts_30 rfl rfl)) <|
  z_ac (j := 24) rfl (z_eI (sp_aload_n (q := 0) dX9_spreadsToHuts_33 rfl rfl)) <|
  z_ac (j := 25) rfl (z_eI (sp_iload_n (q := 3) dX9_spreadsToHuts_34 rfl rfl)) <|
  z_ac (j := 26) rfl (z_eI (sp_iload_n (q := 2) dX9_spreadsToHuts_35 rfl rfl)) <|
  z_ac (j := 27) rfl (z_cS dX9_spreadsToHuts_36 wl_1590 qX9_placeOf (by decide +kernel) (z_sn rfl rfl) rfl) <|
  z_ac (j := 28) rfl (z_eI (sp_iconst dX9_spreadsToHuts_39 (by decide +kernel) rfl)) <|
  z_ac (j := 29) rfl (z_cV dX9_spreadsToHuts_40 wl_1593 qX9_reaches (by decide +kernel) ⟨_, _, rfl⟩ (z_sn rfl rfl) rfl) <|
  z_ac (j := 30) rfl (z_eI (sp_iinc dX9_spreadsToHuts_43 (by decide +kernel) (by decide) (fun _ _ => rfl) rfl)) <|
  z_ac (j := 31) rfl (z_eI (sp_goto dX9_spreadsToHuts_46 rfl)) <|
  z_ac (j := 32) rfl (z_eI (sp_iinc dX9_spreadsToHuts_49 (by decide +kernel) (by decide) (fun _ _ => rfl) rfl)) <|
  z_ac (j := 33) rfl (z_eI (sp_goto dX9_spreadsToHuts_52 rfl)) <|
  z_ac (j := 34) rfl (z_eI (sp_aload_n (q := 0) dX9_spreadsToHuts_55 rfl rfl)) <|
  z_ac (j := 35) rfl (z_eI (sp_aload_n (q := 1) dX9_spreadsToHuts_56 rfl rfl)) <|
  z_ac (j := 36) rfl (z_cV dX9_spreadsToHuts_57 wl_1597 qX9_spreads (by decide +kernel) ⟨_, _, rfl⟩ (z_sn rfl rfl) rfl) <|
  z_ac (j := 37) rfl (z_eW (sv_void dX9_spreadsToHuts_60 rfl)) <| z_an
theorem dX9_stepsFrom_0 : decode cX9_stepsFrom 0 = .ok (.aload_n 0, 1) := by decide +kernel
theorem dX9_stepsFrom_1 : decode cX9_stepsFrom 1 = .ok (.getfield 36, 3) := by decide +kernel
theorem dX9_stepsFrom_4 : decode cX9_stepsFrom 4 = .ok (.iload_n 2, 1) := by decide +kernel
theorem dX9_stepsFrom_5 : decode cX9_stepsFrom 5 = .ok (.iload_n 3, 1) := by decide +kernel
theorem dX9_stepsFrom_6 : decode cX9_stepsFrom 6 = .ok (.invokestatic 77, 3) := by decide +kernel
theorem dX9_stepsFrom_9 : decode cX9_stepsFrom 9 = .ok (.iaload, 1) := by decide +kernel
theorem dX9_stepsFrom_10 : decode cX9_stepsFrom 10 = .ok (.ifCond .lt 14, 3) := by decide +kernel
theorem dX9_stepsFrom_13 : decode cX9_stepsFrom 13 = .ok (.aload_n 0, 1) := by decide +kernel
theorem dX9_stepsFrom_14 : decode cX9_stepsFrom 14 = .ok (.getfield 36, 3) := by decide +kernel
theorem dX9_stepsFrom_17 : decode cX9_stepsFrom 17 = .ok (.iload_n 2, 1) := by decide +kernel
theorem dX9_stepsFrom_18 : decode cX9_stepsFrom 18 = .ok (.iload_n 3, 1) := by decide +kernel
theorem dX9_stepsFrom_19 : decode cX9_stepsFrom 19 = .ok (.invokestatic 77, 3) := by decide +kernel
theorem dX9_stepsFrom_22 : decode cX9_stepsFrom 22 = .ok (.iaload, 1) := by decide +kernel
theorem dX9_stepsFrom_23 : decode cX9_stepsFrom 23 = .ok (.ireturn, 1) := by decide +kernel
theorem dX9_stepsFrom_24 : decode cX9_stepsFrom 24 = .ok (.aload_n 1, 1) := by decide +kernel
theorem dX9_stepsFrom_25 : decode cX9_stepsFrom 25 = .ok (.iload_n 2, 1) := by decide +kernel
theorem dX9_stepsFrom_26 : decode cX9_stepsFrom 26 = .ok (.iload_n 3, 1) := by decide +kernel
theorem dX9_stepsFrom_27 : decode cX9_stepsFrom 27 = .ok (.invokestatic 45, 3) := by decide +kernel
theorem dX9_stepsFrom_30 : decode cX9_stepsFrom 30 = .ok (.iaload, 1) := by decide +kernel
theorem dX9_stepsFrom_31 : decode cX9_stepsFrom 31 = .ok (.iconst 1, 1) := by decide +kernel
theorem dX9_stepsFrom_32 : decode cX9_stepsFrom 32 = .ok (.if_icmp .eq 5, 3) := by decide +kernel
theorem dX9_stepsFrom_35 : decode cX9_stepsFrom 35 = .ok (.iconst (-1), 1) := by decide +kernel
theorem dX9_stepsFrom_36 : decode cX9_stepsFrom 36 = .ok (.ireturn, 1) := by decide +kernel
theorem dX9_stepsFrom_37 : decode cX9_stepsFrom 37 = .ok (.iconst (-1), 1) := by decide +kernel
theorem dX9_stepsFrom_38 : decode cX9_stepsFrom 38 = .ok (.istore 4, 2) := by decide +kernel
theorem dX9_stepsFrom_40 : decode cX9_stepsFrom 40 = .ok (.iconst 0, 1) := by decide +kernel
theorem dX9_stepsFrom_41 : decode cX9_stepsFrom 41 = .ok (.istore 5, 2) := by decide +kernel
theorem dX9_stepsFrom_43 : decode cX9_stepsFrom 43 = .ok (.iload 5, 2) := by decide +kernel
theorem dX9_stepsFrom_45 : decode cX9_stepsFrom 45 = .ok (.iconst 4, 1) := by decide +kernel
theorem dX9_stepsFrom_46 : decode cX9_stepsFrom 46 = .ok (.if_icmp .ge 45, 3) := by decide +kernel
theorem dX9_stepsFrom_49 : decode cX9_stepsFrom 49 = .ok (.aload_n 0, 1) := by decide +kernel
theorem dX9_stepsFrom_50 : decode cX9_stepsFrom 50 = .ok (.aload_n 1, 1) := by decide +kernel
theorem dX9_stepsFrom_51 : decode cX9_stepsFrom 51 = .ok (.iload_n 2, 1) := by decide +kernel
theorem dX9_stepsFrom_52 : decode cX9_stepsFrom 52 = .ok (.iload_n 3, 1) := by decide +kernel
theorem dX9_stepsFrom_53 : decode cX9_stepsFrom 53 = .ok (.iload 5, 2) := by decide +kernel
theorem dX9_stepsFrom_55 : decode cX9_stepsFrom 55 = .ok (.invokevirtual 91, 3) := by decide +kernel
theorem dX9_stepsFrom_58 : decode cX9_stepsFrom 58 = .ok (.istore 6, 2) := by decide +kernel
theorem dX9_stepsFrom_60 : decode cX9_stepsFrom 60 = .ok (.iload 6, 2) := by decide +kernel
theorem dX9_stepsFrom_62 : decode cX9_stepsFrom 62 = .ok (.ifCond .lt 23, 3) := by decide +kernel
theorem dX9_stepsFrom_65 : decode cX9_stepsFrom 65 = .ok (.iload 4, 2) := by decide +kernel
theorem dX9_stepsFrom_67 : decode cX9_stepsFrom 67 = .ok (.ifCond .lt 12, 3) := by decide +kernel
theorem dX9_stepsFrom_70 : decode cX9_stepsFrom 70 = .ok (.iload 6, 2) := by decide +kernel
theorem dX9_stepsFrom_72 : decode cX9_stepsFrom 72 = .ok (.iconst 1, 1) := by decide +kernel
theorem dX9_stepsFrom_73 : decode cX9_stepsFrom 73 = .ok (.iadd, 1) := by decide +kernel
theorem dX9_stepsFrom_74 : decode cX9_stepsFrom 74 = .ok (.iload 4, 2) := by decide +kernel
theorem dX9_stepsFrom_76 : decode cX9_stepsFrom 76 = .ok (.if_icmp .ge 9, 3) := by decide +kernel
theorem dX9_stepsFrom_79 : decode cX9_stepsFrom 79 = .ok (.iload 6, 2) := by decide +kernel
theorem dX9_stepsFrom_81 : decode cX9_stepsFrom 81 = .ok (.iconst 1, 1) := by decide +kernel
theorem dX9_stepsFrom_82 : decode cX9_stepsFrom 82 = .ok (.iadd, 1) := by decide +kernel
theorem dX9_stepsFrom_83 : decode cX9_stepsFrom 83 = .ok (.istore 4, 2) := by decide +kernel
theorem dX9_stepsFrom_85 : decode cX9_stepsFrom 85 = .ok (.iinc 5 1, 3) := by decide +kernel
theorem dX9_stepsFrom_88 : decode cX9_stepsFrom 88 = .ok (.goto (-45), 3) := by decide +kernel
theorem dX9_stepsFrom_91 : decode cX9_stepsFrom 91 = .ok (.iload 4, 2) := by decide +kernel
theorem dX9_stepsFrom_93 : decode cX9_stepsFrom 93 = .ok (.ireturn, 1) := by decide +kernel
theorem tX9_stepsFrom {L : Nat} {xs : Nat → Int32} {N : Nat} : z_AllE (zE L xs N 21) 0 (kX9_stepsFrom N) :=
  z_ac (j := 1) rfl (z_eI (sp_aload_n (q := 0) dX9_stepsFrom_0 rfl rfl)) <|
  z_ac (j := 2) rfl (z_eI (sp_getf (C := RX9) (T := TX9) (Nf := 23) dX9_stepsFrom_1 rfl inX9 (by decide) wf_1357 rfl)) <|
  z_ac (j := 3) rfl (z_eI (sp_iload_n (q := 2) dX9_stepsFrom_4 rfl rfl)) <|
  z_ac (j := 4) rfl (z_eI (sp_iload_n (q := 3) dX9_stepsFrom_5 rfl rfl)) <|
  z_ac (j := 5) rfl (z_cS dX9_stepsFrom_6 wl_1590 qX9_placeOf (by decide +kernel) (z_sn rfl rfl) rfl) <|
  z_ac (j := 6) rfl (z_eI (sp_iald dX9_stepsFrom_9 rfl)) <|
  z_ac (j := 7) rfl (z_eI (sp_if_lt dX9_stepsFrom_10 rfl rfl)) <|
  z_ac (j := 8) rfl (z_eI (sp_aload_n (q := 0) dX9_stepsFrom_13 rfl rfl)) <|
  z_ac (j := 9) rfl (z_eI (sp_getf (C := RX9) (T := TX9) (Nf := 23) dX9_stepsFrom_14 rfl inX9 (by decide) wf_1357 rfl)) <|
  z_ac (j := 10) rfl (z_eI (sp_iload_n (q := 2) dX9_stepsFrom_17 rfl rfl)) <|
  z_ac (j := 11) rfl (z_eI (sp_iload_n (q := 3) dX9_stepsFrom_18 rfl rfl)) <|
  z_ac (j := 12) rfl (z_cS dX9_stepsFrom_19 wl_1590 qX9_placeOf (by decide +kernel) (z_sn rfl rfl) rfl) <|
  z_ac (j := 13) rfl (z_eI (sp_iald dX9_stepsFrom_22 rfl)) <|
  z_ac (j := 14) rfl (z_eR (sr_int dX9_stepsFrom_23 rfl)) <|
  z_ac (j := 15) rfl (z_eI (sp_aload_n (q := 1) dX9_stepsFrom_24 rfl rfl)) <|
  z_ac (j := 16) rfl (z_eI (sp_iload_n (q := 2) dX9_stepsFrom_25 rfl rfl)) <|
  z_ac (j := 17) rfl (z_eI (sp_iload_n (q := 3) dX9_stepsFrom_26 rfl rfl)) <|
  z_ac (j := 18) rfl (z_cS dX9_stepsFrom_27 wl_1343 qX9_cellAt (by decide +kernel) (z_sn rfl rfl) rfl) <|
  z_ac (j := 19) rfl (z_eI (sp_iald dX9_stepsFrom_30 rfl)) <|
  z_ac (j := 20) rfl (z_eI (sp_iconst dX9_stepsFrom_31 (by decide +kernel) rfl)) <|
  z_ac (j := 21) rfl (z_eI (sp_icmp_eq dX9_stepsFrom_32 rfl rfl)) <|
  z_ac (j := 22) rfl (z_eI (sp_iconst dX9_stepsFrom_35 (by decide +kernel) rfl)) <|
  z_ac (j := 23) rfl (z_eR (sr_int dX9_stepsFrom_36 rfl)) <|
  z_ac (j := 24) rfl (z_eI (sp_iconst dX9_stepsFrom_37 (by decide +kernel) rfl)) <|
  z_ac (j := 25) rfl (z_eI (sp_istore dX9_stepsFrom_38 (by decide) (fun _ _ => rfl) rfl)) <|
  z_ac (j := 26) rfl (z_eI (sp_iconst dX9_stepsFrom_40 (by decide +kernel) rfl)) <|
  z_ac (j := 27) rfl (z_eI (sp_istore dX9_stepsFrom_41 (by decide) (fun _ _ => rfl) rfl)) <|
  z_ac (j := 28) rfl (z_eI (sp_iload dX9_stepsFrom_43 rfl)) <|
  z_ac (j := 29) rfl (z_eI (sp_iconst dX9_stepsFrom_45 (by decide +kernel) rfl)) <|
  z_ac (j := 30) rfl (z_eI (sp_icmp_ge dX9_stepsFrom_46 rfl rfl)) <|
  z_ac (j := 31) rfl (z_eI (sp_aload_n (q := 0) dX9_stepsFrom_49 rfl rfl)) <|
  z_ac (j := 32) rfl (z_eI (sp_aload_n (q := 1) dX9_stepsFrom_50 rfl rfl)) <|
  z_ac (j := 33) rfl (z_eI (sp_iload_n (q := 2) dX9_stepsFrom_51 rfl rfl)) <|
  z_ac (j := 34) rfl (z_eI (sp_iload_n (q := 3) dX9_stepsFrom_52 rfl rfl)) <|
  z_ac (j := 35) rfl (z_eI (sp_iload dX9_stepsFrom_53 rfl)) <|
  z_ac (j := 36) rfl (z_cV dX9_stepsFrom_55 wl_1611 qX9_stepsBy (by decide +kernel) ⟨_, _, rfl⟩ (z_sn rfl rfl) rfl) <|
  z_ac (j := 37) rfl (z_eI (sp_istore dX9_stepsFrom_58 (by decide) (fun _ _ => rfl) rfl)) <|
  z_ac (j := 38) rfl (z_eI (sp_iload dX9_stepsFrom_60 rfl)) <|
  z_ac (j := 39) rfl (z_eI (sp_if_lt dX9_stepsFrom_62 rfl rfl)) <|
  z_ac (j := 40) rfl (z_eI (sp_iload dX9_stepsFrom_65 rfl)) <|
  z_ac (j := 41) rfl (z_eI (sp_if_lt dX9_stepsFrom_67 rfl rfl)) <|
  z_ac (j := 42) rfl (z_eI (sp_iload dX9_stepsFrom_70 rfl)) <|
  z_ac (j := 43) rfl (z_eI (sp_iconst dX9_stepsFrom_72 (by decide +kernel) rfl)) <|
  z_ac (j := 44) rfl (z_eI (sp_iadd dX9_stepsFrom_73 rfl)) <|
  z_ac (j := 45) rfl (z_eI (sp_iload dX9_stepsFrom_74 rfl)) <|
  z_ac (j := 46) rfl (z_eI (sp_icmp_ge dX9_stepsFrom_76 rfl rfl)) <|
  z_ac (j := 47) rfl (z_eI (sp_iload dX9_stepsFrom_79 rfl)) <|
  z_ac (j := 48) rfl (z_eI (sp_iconst dX9_stepsFrom_81 (by decide +kernel) rfl)) <|
  z_ac (j := 49) rfl (z_eI (sp_iadd dX9_stepsFrom_82 rfl)) <|
  z_ac (j := 50) rfl (z_eI (sp_istore dX9_stepsFrom_83 (by decide) (fun _ _ => rfl) rfl)) <|
  z_ac (j := 51) rfl (z_eI (sp_iinc dX9_stepsFrom_85 (by decide +kernel) (by decide) (fun _ _ => rfl) rfl)) <|
  z_ac (j := 52) rfl (z_eI (sp_goto dX9_stepsFrom_88 rfl)) <|
  z_ac (j := 53) rfl (z_eI (sp_iload dX9_stepsFrom_91 rfl)) <|
  z_ac (j := 54) rfl (z_eR (sr_int dX9_stepsFrom_93 rfl)) <| z_an
theorem dX9_stepsBy_0 : decode cX9_stepsBy 0 = .ok (.iload_n 2, 1) := by decide +kernel
theorem dX9_stepsBy_1 : decode cX9_stepsBy 1 = .ok (.iload 4, 2) := by decide +kernel
theorem dX9_stepsBy_3 : decode cX9_stepsBy 3 = .ok (.invokestatic 70, 3) := by decide +kernel
theorem dX9_stepsBy_6 : decode cX9_stepsBy 6 = .ok (.iadd, 1) := by decide +kernel
theorem dX9_stepsBy_7 : decode cX9_stepsBy 7 = .ok (.istore 5, 2) := by decide +kernel
theorem dX9_stepsBy_9 : decode cX9_stepsBy 9 = .ok (.iload_n 3, 1) := by decide +kernel
theorem dX9_stepsBy_10 : decode cX9_stepsBy 10 = .ok (.iload 4, 2) := by decide +kernel
theorem dX9_stepsBy_12 : decode cX9_stepsBy 12 = .ok (.invokestatic 74, 3) := by decide +kernel
theorem dX9_stepsBy_15 : decode cX9_stepsBy 15 = .ok (.iadd, 1) := by decide +kernel
theorem dX9_stepsBy_16 : decode cX9_stepsBy 16 = .ok (.istore 6, 2) := by decide +kernel
theorem dX9_stepsBy_18 : decode cX9_stepsBy 18 = .ok (.aload_n 1, 1) := by decide +kernel
theorem dX9_stepsBy_19 : decode cX9_stepsBy 19 = .ok (.iload 5, 2) := by decide +kernel
theorem dX9_stepsBy_21 : decode cX9_stepsBy 21 = .ok (.iload 6, 2) := by decide +kernel
theorem dX9_stepsBy_23 : decode cX9_stepsBy 23 = .ok (.invokestatic 60, 3) := by decide +kernel
theorem dX9_stepsBy_26 : decode cX9_stepsBy 26 = .ok (.ifCond .eq 16, 3) := by decide +kernel
theorem dX9_stepsBy_29 : decode cX9_stepsBy 29 = .ok (.aload_n 1, 1) := by decide +kernel
theorem dX9_stepsBy_30 : decode cX9_stepsBy 30 = .ok (.iload 5, 2) := by decide +kernel
theorem dX9_stepsBy_32 : decode cX9_stepsBy 32 = .ok (.iload 6, 2) := by decide +kernel
theorem dX9_stepsBy_34 : decode cX9_stepsBy 34 = .ok (.invokestatic 45, 3) := by decide +kernel
theorem dX9_stepsBy_37 : decode cX9_stepsBy 37 = .ok (.iaload, 1) := by decide +kernel
theorem dX9_stepsBy_38 : decode cX9_stepsBy 38 = .ok (.iconst 1, 1) := by decide +kernel
theorem dX9_stepsBy_39 : decode cX9_stepsBy 39 = .ok (.if_icmp .ne 5, 3) := by decide +kernel
theorem dX9_stepsBy_42 : decode cX9_stepsBy 42 = .ok (.iconst (-1), 1) := by decide +kernel
theorem dX9_stepsBy_43 : decode cX9_stepsBy 43 = .ok (.ireturn, 1) := by decide +kernel
theorem dX9_stepsBy_44 : decode cX9_stepsBy 44 = .ok (.aload_n 0, 1) := by decide +kernel
theorem dX9_stepsBy_45 : decode cX9_stepsBy 45 = .ok (.getfield 36, 3) := by decide +kernel
theorem dX9_stepsBy_48 : decode cX9_stepsBy 48 = .ok (.iload 5, 2) := by decide +kernel
theorem dX9_stepsBy_50 : decode cX9_stepsBy 50 = .ok (.iload 6, 2) := by decide +kernel
theorem dX9_stepsBy_52 : decode cX9_stepsBy 52 = .ok (.invokestatic 77, 3) := by decide +kernel
theorem dX9_stepsBy_55 : decode cX9_stepsBy 55 = .ok (.iaload, 1) := by decide +kernel
theorem dX9_stepsBy_56 : decode cX9_stepsBy 56 = .ok (.ireturn, 1) := by decide +kernel
theorem tX9_stepsBy {L : Nat} {xs : Nat → Int32} {N : Nat} : z_AllE (zE L xs N 22) 0 (kX9_stepsBy N) :=
  z_ac (j := 1) rfl (z_eI (sp_iload_n (q := 2) dX9_stepsBy_0 rfl rfl)) <|
  z_ac (j := 2) rfl (z_eI (sp_iload dX9_stepsBy_1 rfl)) <|
  z_ac (j := 3) rfl (z_cS dX9_stepsBy_3 wl_1601 qX9_columnBy (by decide +kernel) (z_sn rfl rfl) rfl) <|
  z_ac (j := 4) rfl (z_eI (sp_iadd dX9_stepsBy_6 rfl)) <|
  z_ac (j := 5) rfl (z_eI (sp_istore dX9_stepsBy_7 (by decide) (fun _ _ => rfl) rfl)) <|
  z_ac (j := 6) rfl (z_eI (sp_iload_n (q := 3) dX9_stepsBy_9 rfl rfl)) <|
  z_ac (j := 7) rfl (z_eI (sp_iload dX9_stepsBy_10 rfl)) <|
  z_ac (j := 8) rfl (z_cS dX9_stepsBy_12 wl_1604 qX9_rowBy (by decide +kernel) (z_sn rfl rfl) rfl) <|
  z_ac (j := 9) rfl (z_eI (sp_iadd dX9_stepsBy_15 rfl)) <|
  z_ac (j := 10) rfl (z_eI (sp_istore dX9_stepsBy_16 (by decide) (fun _ _ => rfl) rfl)) <|
  z_ac (j := 11) rfl (z_eI (sp_aload_n (q := 1) dX9_stepsBy_18 rfl rfl)) <|
  z_ac (j := 12) rfl (z_eI (sp_iload dX9_stepsBy_19 rfl)) <|
  z_ac (j := 13) rfl (z_eI (sp_iload dX9_stepsBy_21 rfl)) <|
  z_ac (j := 14) rfl (z_cS dX9_stepsBy_23 wl_1551 qX9_isInside (by decide +kernel) (z_sn rfl rfl) rfl) <|
  z_ac (j := 15) rfl (z_eI (sp_if_eq dX9_stepsBy_26 rfl rfl)) <|
  z_ac (j := 16) rfl (z_eI (sp_aload_n (q := 1) dX9_stepsBy_29 rfl rfl)) <|
  z_ac (j := 17) rfl (z_eI (sp_iload dX9_stepsBy_30 rfl)) <|
  z_ac (j := 18) rfl (z_eI (sp_iload dX9_stepsBy_32 rfl)) <|
  z_ac (j := 19) rfl (z_cS dX9_stepsBy_34 wl_1343 qX9_cellAt (by decide +kernel) (z_sn rfl rfl) rfl) <|
  z_ac (j := 20) rfl (z_eI (sp_iald dX9_stepsBy_37 rfl)) <|
  z_ac (j := 21) rfl (z_eI (sp_iconst dX9_stepsBy_38 (by decide +kernel) rfl)) <|
  z_ac (j := 22) rfl (z_eI (sp_icmp_ne dX9_stepsBy_39 rfl rfl)) <|
  z_ac (j := 23) rfl (z_eI (sp_iconst dX9_stepsBy_42 (by decide +kernel) rfl)) <|
  z_ac (j := 24) rfl (z_eR (sr_int dX9_stepsBy_43 rfl)) <|
  z_ac (j := 25) rfl (z_eI (sp_aload_n (q := 0) dX9_stepsBy_44 rfl rfl)) <|
  z_ac (j := 26) rfl (z_eI (sp_getf (C := RX9) (T := TX9) (Nf := 23) dX9_stepsBy_45 rfl inX9 (by decide) wf_1357 rfl)) <|
  z_ac (j := 27) rfl (z_eI (sp_iload dX9_stepsBy_48 rfl)) <|
  z_ac (j := 28) rfl (z_eI (sp_iload dX9_stepsBy_50 rfl)) <|
  z_ac (j := 29) rfl (z_cS dX9_stepsBy_52 wl_1590 qX9_placeOf (by decide +kernel) (z_sn rfl rfl) rfl) <|
  z_ac (j := 30) rfl (z_eI (sp_iald dX9_stepsBy_55 rfl)) <|
  z_ac (j := 31) rfl (z_eR (sr_int dX9_stepsBy_56 rfl)) <| z_an
theorem dX9_sightOf_0 : decode cX9_sightOf 0 = .ok (.aload_n 0, 1) := by decide +kernel
theorem dX9_sightOf_1 : decode cX9_sightOf 1 = .ok (.iconst 2, 1) := by decide +kernel
theorem dX9_sightOf_2 : decode cX9_sightOf 2 = .ok (.iaload, 1) := by decide +kernel
theorem dX9_sightOf_3 : decode cX9_sightOf 3 = .ok (.aload_n 0, 1) := by decide +kernel
theorem dX9_sightOf_4 : decode cX9_sightOf 4 = .ok (.bipush 6, 2) := by decide +kernel
theorem dX9_sightOf_6 : decode cX9_sightOf 6 = .ok (.aload_n 0, 1) := by decide +kernel
theorem dX9_sightOf_7 : decode cX9_sightOf 7 = .ok (.iconst 3, 1) := by decide +kernel
theorem dX9_sightOf_8 : decode cX9_sightOf 8 = .ok (.iaload, 1) := by decide +kernel
theorem dX9_sightOf_9 : decode cX9_sightOf 9 = .ok (.bipush 24, 2) := by decide +kernel
theorem dX9_sightOf_11 : decode cX9_sightOf 11 = .ok (.irem, 1) := by decide +kernel
theorem dX9_sightOf_12 : decode cX9_sightOf 12 = .ok (.iadd, 1) := by decide +kernel
theorem dX9_sightOf_13 : decode cX9_sightOf 13 = .ok (.iaload, 1) := by decide +kernel
theorem dX9_sightOf_14 : decode cX9_sightOf 14 = .ok (.isub, 1) := by decide +kernel
theorem dX9_sightOf_15 : decode cX9_sightOf 15 = .ok (.istore_n 1, 1) := by decide +kernel
theorem dX9_sightOf_16 : decode cX9_sightOf 16 = .ok (.iload_n 1, 1) := by decide +kernel
theorem dX9_sightOf_17 : decode cX9_sightOf 17 = .ok (.ifCond .ge 7, 3) := by decide +kernel
theorem dX9_sightOf_20 : decode cX9_sightOf 20 = .ok (.iconst 0, 1) := by decide +kernel
theorem dX9_sightOf_21 : decode cX9_sightOf 21 = .ok (.goto 4, 3) := by decide +kernel
theorem dX9_sightOf_24 : decode cX9_sightOf 24 = .ok (.iload_n 1, 1) := by decide +kernel
theorem dX9_sightOf_25 : decode cX9_sightOf 25 = .ok (.ireturn, 1) := by decide +kernel
theorem tX9_sightOf {L : Nat} {xs : Nat → Int32} {N : Nat} : z_AllE (zE L xs N 23) 0 (kX9_sightOf N) :=
  z_ac (j := 1) rfl (z_eI (sp_aload_n (q := 0) dX9_sightOf_0 rfl rfl)) <|
  z_ac (j := 2) rfl (z_eI (sp_iconst dX9_sightOf_1 (by decide +kernel) rfl)) <|
  z_ac (j := 3) rfl (z_eI (sp_iald dX9_sightOf_2 rfl)) <|
  z_ac (j := 4) rfl (z_eI (sp_aload_n (q := 0) dX9_sightOf_3 rfl rfl)) <|
  z_ac (j := 5) rfl (z_eI (sp_bipush dX9_sightOf_4 (by decide +kernel) rfl)) <|
  z_ac (j := 6) rfl (z_eI (sp_aload_n (q := 0) dX9_sightOf_6 rfl rfl)) <|
  z_ac (j := 7) rfl (z_eI (sp_iconst dX9_sightOf_7 (by decide +kernel) rfl)) <|
  z_ac (j := 8) rfl (z_eI (sp_iald dX9_sightOf_8 rfl)) <|
  z_ac (j := 9) rfl (z_eI (sp_bipush dX9_sightOf_9 (by decide +kernel) rfl)) <|
  z_ac (j := 10) rfl (z_eI (sp_irem dX9_sightOf_11 rfl)) <|
  z_ac (j := 11) rfl (z_eI (sp_iadd dX9_sightOf_12 rfl)) <|
  z_ac (j := 12) rfl (z_eI (sp_iald dX9_sightOf_13 rfl)) <|
  z_ac (j := 13) rfl (z_eI (sp_isub dX9_sightOf_14 rfl)) <|
  z_ac (j := 14) rfl (z_eI (sp_istore_n (q := 1) dX9_sightOf_15 rfl (by decide) (fun _ _ => rfl) rfl)) <|
  z_ac (j := 15) rfl (z_eI (sp_iload_n (q := 1) dX9_sightOf_16 rfl rfl)) <|
  z_ac (j := 16) rfl (z_eI (sp_if_ge dX9_sightOf_17 rfl rfl)) <|
  z_ac (j := 17) rfl (z_eI (sp_iconst dX9_sightOf_20 (by decide +kernel) rfl)) <|
  z_ac (j := 18) rfl (z_eI (sp_goto dX9_sightOf_21 rfl)) <|
  z_ac (j := 19) rfl (z_eI (sp_iload_n (q := 1) dX9_sightOf_24 rfl rfl)) <|
  z_ac (j := 20) rfl (z_eR (sr_int dX9_sightOf_25 rfl)) <| z_an
theorem dX9_apart_0 : decode cX9_apart 0 = .ok (.iload_n 0, 1) := by decide +kernel
theorem dX9_apart_1 : decode cX9_apart 1 = .ok (.iload_n 1, 1) := by decide +kernel
theorem dX9_apart_2 : decode cX9_apart 2 = .ok (.if_icmp .ge 9, 3) := by decide +kernel
theorem dX9_apart_5 : decode cX9_apart 5 = .ok (.iload_n 1, 1) := by decide +kernel
theorem dX9_apart_6 : decode cX9_apart 6 = .ok (.iload_n 0, 1) := by decide +kernel
theorem dX9_apart_7 : decode cX9_apart 7 = .ok (.isub, 1) := by decide +kernel
theorem dX9_apart_8 : decode cX9_apart 8 = .ok (.goto 6, 3) := by decide +kernel
theorem dX9_apart_11 : decode cX9_apart 11 = .ok (.iload_n 0, 1) := by decide +kernel
theorem dX9_apart_12 : decode cX9_apart 12 = .ok (.iload_n 1, 1) := by decide +kernel
theorem dX9_apart_13 : decode cX9_apart 13 = .ok (.isub, 1) := by decide +kernel
theorem dX9_apart_14 : decode cX9_apart 14 = .ok (.ireturn, 1) := by decide +kernel
theorem tX9_apart {L : Nat} {xs : Nat → Int32} {N : Nat} : z_AllE (zE L xs N 24) 0 (kX9_apart N) :=
  z_ac (j := 1) rfl (z_eI (sp_iload_n (q := 0) dX9_apart_0 rfl rfl)) <|
  z_ac (j := 2) rfl (z_eI (sp_iload_n (q := 1) dX9_apart_1 rfl rfl)) <|
  z_ac (j := 3) rfl (z_eI (sp_icmp_ge dX9_apart_2 rfl rfl)) <|
  z_ac (j := 4) rfl (z_eI (sp_iload_n (q := 1) dX9_apart_5 rfl rfl)) <|
  z_ac (j := 5) rfl (z_eI (sp_iload_n (q := 0) dX9_apart_6 rfl rfl)) <|
  z_ac (j := 6) rfl (z_eI (sp_isub dX9_apart_7 rfl)) <|
  z_ac (j := 7) rfl (z_eI (sp_goto dX9_apart_8 rfl)) <|
  z_ac (j := 8) rfl (z_eI (sp_iload_n (q := 0) dX9_apart_11 rfl rfl)) <|
  z_ac (j := 9) rfl (z_eI (sp_iload_n (q := 1) dX9_apart_12 rfl rfl)) <|
  z_ac (j := 10) rfl (z_eI (sp_isub dX9_apart_13 rfl)) <|
  z_ac (j := 11) rfl (z_eR (sr_int dX9_apart_14 rfl)) <| z_an
theorem dX9_farFrom_0 : decode cX9_farFrom 0 = .ok (.aload_n 0, 1) := by decide +kernel
theorem dX9_farFrom_1 : decode cX9_farFrom 1 = .ok (.iload_n 1, 1) := by decide +kernel
theorem dX9_farFrom_2 : decode cX9_farFrom 2 = .ok (.iconst 0, 1) := by decide +kernel
theorem dX9_farFrom_3 : decode cX9_farFrom 3 = .ok (.invokestatic 95, 3) := by decide +kernel
theorem dX9_farFrom_6 : decode cX9_farFrom 6 = .ok (.iaload, 1) := by decide +kernel
theorem dX9_farFrom_7 : decode cX9_farFrom 7 = .ok (.iload_n 2, 1) := by decide +kernel
theorem dX9_farFrom_8 : decode cX9_farFrom 8 = .ok (.invokestatic 98, 3) := by decide +kernel
theorem dX9_farFrom_11 : decode cX9_farFrom 11 = .ok (.aload_n 0, 1) := by decide +kernel
theorem dX9_farFrom_12 : decode cX9_farFrom 12 = .ok (.iload_n 1, 1) := by decide +kernel
theorem dX9_farFrom_13 : decode cX9_farFrom 13 = .ok (.iconst 1, 1) := by decide +kernel
theorem dX9_farFrom_14 : decode cX9_farFrom 14 = .ok (.invokestatic 95, 3) := by decide +kernel
theorem dX9_farFrom_17 : decode cX9_farFrom 17 = .ok (.iaload, 1) := by decide +kernel
theorem dX9_farFrom_18 : decode cX9_farFrom 18 = .ok (.iload_n 3, 1) := by decide +kernel
theorem dX9_farFrom_19 : decode cX9_farFrom 19 = .ok (.invokestatic 98, 3) := by decide +kernel
theorem dX9_farFrom_22 : decode cX9_farFrom 22 = .ok (.iadd, 1) := by decide +kernel
theorem dX9_farFrom_23 : decode cX9_farFrom 23 = .ok (.ireturn, 1) := by decide +kernel
theorem tX9_farFrom {L : Nat} {xs : Nat → Int32} {N : Nat} : z_AllE (zE L xs N 25) 0 (kX9_farFrom N) :=
  z_ac (j := 1) rfl (z_eI (sp_aload_n (q := 0) dX9_farFrom_0 rfl rfl)) <|
  z_ac (j := 2) rfl (z_eI (sp_iload_n (q := 1) dX9_farFrom_1 rfl rfl)) <|
  z_ac (j := 3) rfl (z_eI (sp_iconst dX9_farFrom_2 (by decide +kernel) rfl)) <|
  z_ac (j := 4) rfl (z_cS dX9_farFrom_3 wl_1521 qX9_walkerAt (by decide +kernel) (z_sn rfl rfl) rfl) <|
  z_ac (j := 5) rfl (z_eI (sp_iald dX9_farFrom_6 rfl)) <|
  z_ac (j := 6) rfl (z_eI (sp_iload_n (q := 2) dX9_farFrom_7 rfl rfl)) <|
  z_ac (j := 7) rfl (z_cS dX9_farFrom_8 wl_1765 qX9_apart (by decide +kernel) (z_sn rfl rfl) rfl) <|
  z_ac (j := 8) rfl (z_eI (sp_aload_n (q := 0) dX9_farFrom_11 rfl rfl)) <|
  z_ac (j := 9) rfl (z_eI (sp_iload_n (q := 1) dX9_farFrom_12 rfl rfl)) <|
  z_ac (j := 10) rfl (z_eI (sp_iconst dX9_farFrom_13 (by decide +kernel) rfl)) <|
  z_ac (j := 11) rfl (z_cS dX9_farFrom_14 wl_1521 qX9_walkerAt (by decide +kernel) (z_sn rfl rfl) rfl) <|
  z_ac (j := 12) rfl (z_eI (sp_iald dX9_farFrom_17 rfl)) <|
  z_ac (j := 13) rfl (z_eI (sp_iload_n (q := 3) dX9_farFrom_18 rfl rfl)) <|
  z_ac (j := 14) rfl (z_cS dX9_farFrom_19 wl_1765 qX9_apart (by decide +kernel) (z_sn rfl rfl) rfl) <|
  z_ac (j := 15) rfl (z_eI (sp_iadd dX9_farFrom_22 rfl)) <|
  z_ac (j := 16) rfl (z_eR (sr_int dX9_farFrom_23 rfl)) <| z_an
theorem dX9_farFromLight_0 : decode cX9_farFromLight 0 = .ok (.aload_n 0, 1) := by decide +kernel
theorem dX9_farFromLight_1 : decode cX9_farFromLight 1 = .ok (.iload_n 1, 1) := by decide +kernel
theorem dX9_farFromLight_2 : decode cX9_farFromLight 2 = .ok (.aload_n 0, 1) := by decide +kernel
theorem dX9_farFromLight_3 : decode cX9_farFromLight 3 = .ok (.iload_n 2, 1) := by decide +kernel
theorem dX9_farFromLight_4 : decode cX9_farFromLight 4 = .ok (.iconst 0, 1) := by decide +kernel
theorem dX9_farFromLight_5 : decode cX9_farFromLight 5 = .ok (.invokestatic 101, 3) := by decide +kernel
theorem dX9_farFromLight_8 : decode cX9_farFromLight 8 = .ok (.iaload, 1) := by decide +kernel
theorem dX9_farFromLight_9 : decode cX9_farFromLight 9 = .ok (.aload_n 0, 1) := by decide +kernel
theorem dX9_farFromLight_10 : decode cX9_farFromLight 10 = .ok (.iload_n 2, 1) := by decide +kernel
theorem dX9_farFromLight_11 : decode cX9_farFromLight 11 = .ok (.iconst 1, 1) := by decide +kernel
theorem dX9_farFromLight_12 : decode cX9_farFromLight 12 = .ok (.invokestatic 101, 3) := by decide +kernel
theorem dX9_farFromLight_15 : decode cX9_farFromLight 15 = .ok (.iaload, 1) := by decide +kernel
theorem dX9_farFromLight_16 : decode cX9_farFromLight 16 = .ok (.invokestatic 104, 3) := by decide +kernel
theorem dX9_farFromLight_19 : decode cX9_farFromLight 19 = .ok (.ireturn, 1) := by decide +kernel
theorem tX9_farFromLight {L : Nat} {xs : Nat → Int32} {N : Nat} : z_AllE (zE L xs N 26) 0 (kX9_farFromLight N) :=
  z_ac (j := 1) rfl (z_eI (sp_aload_n (q := 0) dX9_farFromLight_0 rfl rfl)) <|
  z_ac (j := 2) rfl (z_eI (sp_iload_n (q := 1) dX9_farFromLight_1 rfl rfl)) <|
  z_ac (j := 3) rfl (z_eI (sp_aload_n (q := 0) dX9_farFromLight_2 rfl rfl)) <|
  z_ac (j := 4) rfl (z_eI (sp_iload_n (q := 2) dX9_farFromLight_3 rfl rfl)) <|
  z_ac (j := 5) rfl (z_eI (sp_iconst dX9_farFromLight_4 (by decide +kernel) rfl)) <|
  z_ac (j := 6) rfl (z_cS dX9_farFromLight_5 wl_1504 qX9_lightAt (by decide +kernel) (z_sn rfl rfl) rfl) <|
  z_ac (j := 7) rfl (z_eI (sp_iald dX9_farFromLight_8 rfl)) <|
  z_ac (j := 8) rfl (z_eI (sp_aload_n (q := 0) dX9_farFromLight_9 rfl rfl)) <|
  z_ac (j := 9) rfl (z_eI (sp_iload_n (q := 2) dX9_farFromLight_10 rfl rfl)) <|
  z_ac (j := 10) rfl (z_eI (sp_iconst dX9_farFromLight_11 (by decide +kernel) rfl)) <|
  z_ac (j := 11) rfl (z_cS dX9_farFromLight_12 wl_1504 qX9_lightAt (by decide +kernel) (z_sn rfl rfl) rfl) <|
  z_ac (j := 12) rfl (z_eI (sp_iald dX9_farFromLight_15 rfl)) <|
  z_ac (j := 13) rfl (z_cS dX9_farFromLight_16 wl_1762 qX9_farFrom (by decide +kernel) (z_sn rfl rfl) rfl) <|
  z_ac (j := 14) rfl (z_eR (sr_int dX9_farFromLight_19 rfl)) <| z_an
theorem dX9_isSeen_0 : decode cX9_isSeen 0 = .ok (.aload_n 0, 1) := by decide +kernel
theorem dX9_isSeen_1 : decode cX9_isSeen 1 = .ok (.iload_n 1, 1) := by decide +kernel
theorem dX9_isSeen_2 : decode cX9_isSeen 2 = .ok (.iload_n 2, 1) := by decide +kernel
theorem dX9_isSeen_3 : decode cX9_isSeen 3 = .ok (.invokestatic 107, 3) := by decide +kernel
theorem dX9_isSeen_6 : decode cX9_isSeen 6 = .ok (.aload_n 0, 1) := by decide +kernel
theorem dX9_isSeen_7 : decode cX9_isSeen 7 = .ok (.invokestatic 111, 3) := by decide +kernel
theorem dX9_isSeen_10 : decode cX9_isSeen 10 = .ok (.aload_n 0, 1) := by decide +kernel
theorem dX9_isSeen_11 : decode cX9_isSeen 11 = .ok (.iload_n 2, 1) := by decide +kernel
theorem dX9_isSeen_12 : decode cX9_isSeen 12 = .ok (.iconst 2, 1) := by decide +kernel
theorem dX9_isSeen_13 : decode cX9_isSeen 13 = .ok (.invokestatic 101, 3) := by decide +kernel
theorem dX9_isSeen_16 : decode cX9_isSeen 16 = .ok (.iaload, 1) := by decide +kernel
theorem dX9_isSeen_17 : decode cX9_isSeen 17 = .ok (.iadd, 1) := by decide +kernel
theorem dX9_isSeen_18 : decode cX9_isSeen 18 = .ok (.if_icmp .gt 7, 3) := by decide +kernel
theorem dX9_isSeen_21 : decode cX9_isSeen 21 = .ok (.iconst 1, 1) := by decide +kernel
theorem dX9_isSeen_22 : decode cX9_isSeen 22 = .ok (.goto 4, 3) := by decide +kernel
theorem dX9_isSeen_25 : decode cX9_isSeen 25 = .ok (.iconst 0, 1) := by decide +kernel
theorem dX9_isSeen_26 : decode cX9_isSeen 26 = .ok (.ireturn, 1) := by decide +kernel
theorem tX9_isSeen {L : Nat} {xs : Nat → Int32} {N : Nat} : z_AllE (zE L xs N 27) 0 (kX9_isSeen N) :=
  z_ac (j := 1) rfl (z_eI (sp_aload_n (q := 0) dX9_isSeen_0 rfl rfl)) <|
  z_ac (j := 2) rfl (z_eI (sp_iload_n (q := 1) dX9_isSeen_1 rfl rfl)) <|
  z_ac (j := 3) rfl (z_eI (sp_iload_n (q := 2) dX9_isSeen_2 rfl rfl)) <|
  z_ac (j := 4) rfl (z_cS dX9_isSeen_3 wl_1759 qX9_farFromLight (by decide +kernel) (z_sn rfl rfl) rfl) <|
  z_ac (j := 5) rfl (z_eI (sp_aload_n (q := 0) dX9_isSeen_6 rfl rfl)) <|
  z_ac (j := 6) rfl (z_cS dX9_isSeen_7 wl_1639 qX9_sightOf (by decide +kernel) (z_sn rfl rfl) rfl) <|
  z_ac (j := 7) rfl (z_eI (sp_aload_n (q := 0) dX9_isSeen_10 rfl rfl)) <|
  z_ac (j := 8) rfl (z_eI (sp_iload_n (q := 2) dX9_isSeen_11 rfl rfl)) <|
  z_ac (j := 9) rfl (z_eI (sp_iconst dX9_isSeen_12 (by decide +kernel) rfl)) <|
  z_ac (j := 10) rfl (z_cS dX9_isSeen_13 wl_1504 qX9_lightAt (by decide +kernel) (z_sn rfl rfl) rfl) <|
  z_ac (j := 11) rfl (z_eI (sp_iald dX9_isSeen_16 rfl)) <|
  z_ac (j := 12) rfl (z_eI (sp_iadd dX9_isSeen_17 rfl)) <|
  z_ac (j := 13) rfl (z_eI (sp_icmp_gt dX9_isSeen_18 rfl rfl)) <|
  z_ac (j := 14) rfl (z_eI (sp_iconst dX9_isSeen_21 (by decide +kernel) rfl)) <|
  z_ac (j := 15) rfl (z_eI (sp_goto dX9_isSeen_22 rfl)) <|
  z_ac (j := 16) rfl (z_eI (sp_iconst dX9_isSeen_25 (by decide +kernel) rfl)) <|
  z_ac (j := 17) rfl (z_eR (sr_bool dX9_isSeen_26 rfl)) <| z_an
theorem dX9_has_0 : decode cX9_has 0 = .ok (.iload_n 0, 1) := by decide +kernel
theorem dX9_has_1 : decode cX9_has 1 = .ok (.iload_n 1, 1) := by decide +kernel
theorem dX9_has_2 : decode cX9_has 2 = .ok (.ishr, 1) := by decide +kernel
theorem dX9_has_3 : decode cX9_has 3 = .ok (.iconst 1, 1) := by decide +kernel
theorem dX9_has_4 : decode cX9_has 4 = .ok (.iand, 1) := by decide +kernel
theorem dX9_has_5 : decode cX9_has 5 = .ok (.iconst 1, 1) := by decide +kernel
theorem dX9_has_6 : decode cX9_has 6 = .ok (.if_icmp .ne 7, 3) := by decide +kernel
theorem dX9_has_9 : decode cX9_has 9 = .ok (.iconst 1, 1) := by decide +kernel
theorem dX9_has_10 : decode cX9_has 10 = .ok (.goto 4, 3) := by decide +kernel
theorem dX9_has_13 : decode cX9_has 13 = .ok (.iconst 0, 1) := by decide +kernel
theorem dX9_has_14 : decode cX9_has 14 = .ok (.ireturn, 1) := by decide +kernel
theorem tX9_has {L : Nat} {xs : Nat → Int32} {N : Nat} : z_AllE (zE L xs N 28) 0 (kX9_has N) :=
  z_ac (j := 1) rfl (z_eI (sp_iload_n (q := 0) dX9_has_0 rfl rfl)) <|
  z_ac (j := 2) rfl (z_eI (sp_iload_n (q := 1) dX9_has_1 rfl rfl)) <|
  z_ac (j := 3) rfl (z_eI (sp_ishr dX9_has_2 rfl)) <|
  z_ac (j := 4) rfl (z_eI (sp_iconst dX9_has_3 (by decide +kernel) rfl)) <|
  z_ac (j := 5) rfl (z_eI (sp_iand dX9_has_4 rfl)) <|
  z_ac (j := 6) rfl (z_eI (sp_iconst dX9_has_5 (by decide +kernel) rfl)) <|
  z_ac (j := 7) rfl (z_eI (sp_icmp_ne dX9_has_6 rfl rfl)) <|
  z_ac (j := 8) rfl (z_eI (sp_iconst dX9_has_9 (by decide +kernel) rfl)) <|
  z_ac (j := 9) rfl (z_eI (sp_goto dX9_has_10 rfl)) <|
  z_ac (j := 10) rfl (z_eI (sp_iconst dX9_has_13 (by decide +kernel) rfl)) <|
  z_ac (j := 11) rfl (z_eR (sr_bool dX9_has_14 rfl)) <| z_an
theorem dX9_isAcceptable_0 : decode cX9_isAcceptable 0 = .ok (.aload_n 0, 1) := by decide +kernel
theorem dX9_isAcceptable_1 : decode cX9_isAcceptable 1 = .ok (.iload_n 1, 1) := by decide +kernel
theorem dX9_isAcceptable_2 : decode cX9_isAcceptable 2 = .ok (.iload_n 2, 1) := by decide +kernel
theorem dX9_isAcceptable_3 : decode cX9_isAcceptable 3 = .ok (.invokestatic 115, 3) := by decide +kernel
theorem dX9_isAcceptable_6 : decode cX9_isAcceptable 6 = .ok (.ifCond .eq 35, 3) := by decide +kernel
theorem dX9_isAcceptable_9 : decode cX9_isAcceptable 9 = .ok (.aload_n 0, 1) := by decide +kernel
theorem dX9_isAcceptable_10 : decode cX9_isAcceptable 10 = .ok (.iload_n 1, 1) := by decide +kernel
theorem dX9_isAcceptable_11 : decode cX9_isAcceptable 11 = .ok (.iconst 4, 1) := by decide +kernel
theorem dX9_isAcceptable_12 : decode cX9_isAcceptable 12 = .ok (.invokestatic 95, 3) := by decide +kernel
theorem dX9_isAcceptable_15 : decode cX9_isAcceptable 15 = .ok (.iaload, 1) := by decide +kernel
theorem dX9_isAcceptable_16 : decode cX9_isAcceptable 16 = .ok (.iload_n 2, 1) := by decide +kernel
theorem dX9_isAcceptable_17 : decode cX9_isAcceptable 17 = .ok (.invokestatic 118, 3) := by decide +kernel
theorem dX9_isAcceptable_20 : decode cX9_isAcceptable 20 = .ok (.ifCond .ne 21, 3) := by decide +kernel
theorem dX9_isAcceptable_23 : decode cX9_isAcceptable 23 = .ok (.aload_n 0, 1) := by decide +kernel
theorem dX9_isAcceptable_24 : decode cX9_isAcceptable 24 = .ok (.iload_n 1, 1) := by decide +kernel
theorem dX9_isAcceptable_25 : decode cX9_isAcceptable 25 = .ok (.iconst 5, 1) := by decide +kernel
theorem dX9_isAcceptable_26 : decode cX9_isAcceptable 26 = .ok (.invokestatic 95, 3) := by decide +kernel
theorem dX9_isAcceptable_29 : decode cX9_isAcceptable 29 = .ok (.iaload, 1) := by decide +kernel
theorem dX9_isAcceptable_30 : decode cX9_isAcceptable 30 = .ok (.iload_n 2, 1) := by decide +kernel
theorem dX9_isAcceptable_31 : decode cX9_isAcceptable 31 = .ok (.invokestatic 118, 3) := by decide +kernel
theorem dX9_isAcceptable_34 : decode cX9_isAcceptable 34 = .ok (.ifCond .ne 7, 3) := by decide +kernel
theorem dX9_isAcceptable_37 : decode cX9_isAcceptable 37 = .ok (.iconst 1, 1) := by decide +kernel
theorem dX9_isAcceptable_38 : decode cX9_isAcceptable 38 = .ok (.goto 4, 3) := by decide +kernel
theorem dX9_isAcceptable_41 : decode cX9_isAcceptable 41 = .ok (.iconst 0, 1) := by decide +kernel
theorem dX9_isAcceptable_42 : decode cX9_isAcceptable 42 = .ok (.ireturn, 1) := by decide +kernel
theorem tX9_isAcceptable {L : Nat} {xs : Nat → Int32} {N : Nat} : z_AllE (zE L xs N 29) 0 (kX9_isAcceptable N) :=
  z_ac (j := 1) rfl (z_eI (sp_aload_n (q := 0) dX9_isAcceptable_0 rfl rfl)) <|
  z_ac (j := 2) rfl (z_eI (sp_iload_n (q := 1) dX9_isAcceptable_1 rfl rfl)) <|
  z_ac (j := 3) rfl (z_eI (sp_iload_n (q := 2) dX9_isAcceptable_2 rfl rfl)) <|
  z_ac (j := 4) rfl (z_cS dX9_isAcceptable_3 wl_1756 qX9_isSeen (by decide +kernel) (z_sn rfl rfl) rfl) <|
  z_ac (j := 5) rfl (z_eI (sp_if_eq dX9_isAcceptable_6 rfl rfl)) <|
  z_ac (j := 6) rfl (z_eI (sp_aload_n (q := 0) dX9_isAcceptable_9 rfl rfl)) <|
  z_ac (j := 7) rfl (z_eI (sp_iload_n (q := 1) dX9_isAcceptable_10 rfl rfl)) <|
  z_ac (j := 8) rfl (z_eI (sp_iconst dX9_isAcceptable_11 (by decide +kernel) rfl)) <|
  z_ac (j := 9) rfl (z_cS dX9_isAcceptable_12 wl_1521 qX9_walkerAt (by decide +kernel) (z_sn rfl rfl) rfl) <|
  z_ac (j := 10) rfl (z_eI (sp_iald dX9_isAcceptable_15 rfl)) <|
  z_ac (j := 11) rfl (z_eI (sp_iload_n (q := 2) dX9_isAcceptable_16 rfl rfl)) <|
  z_ac (j := 12) rfl (z_cS dX9_isAcceptable_17 wl_1689 qX9_has (by decide +kernel) (z_sn rfl rfl) rfl) <|
  z_ac (j := 13) rfl (z_eI (sp_if_ne dX9_isAcceptable_20 rfl rfl)) <|
  z_ac (j := 14) rfl (z_eI (sp_aload_n (q := 0) dX9_isAcceptable_23 rfl rfl)) <|
  z_ac (j := 15) rfl (z_eI (sp_iload_n (q := 1) dX9_isAcceptable_24 rfl rfl)) <|
  z_ac (j := 16) rfl (z_eI (sp_iconst dX9_isAcceptable_25 (by decide +kernel) rfl)) <|
  z_ac (j := 17) rfl (z_cS dX9_isAcceptable_26 wl_1521 qX9_walkerAt (by decide +kernel) (z_sn rfl rfl) rfl) <|
  z_ac (j := 18) rfl (z_eI (sp_iald dX9_isAcceptable_29 rfl)) <|
  z_ac (j := 19) rfl (z_eI (sp_iload_n (q := 2) dX9_isAcceptable_30 rfl rfl)) <|
  z_ac (j := 20) rfl (z_cS dX9_isAcceptable_31 wl_1689 qX9_has (by decide +kernel) (z_sn rfl rfl) rfl) <|
  z_ac (j := 21) rfl (z_eI (sp_if_ne dX9_isAcceptable_34 rfl rfl)) <|
  z_ac (j := 22) rfl (z_eI (sp_iconst dX9_isAcceptable_37 (by decide +kernel) rfl)) <|
  z_ac (j := 23) rfl (z_eI (sp_goto dX9_isAcceptable_38 rfl)) <|
  z_ac (j := 24) rfl (z_eI (sp_iconst dX9_isAcceptable_41 (by decide +kernel) rfl)) <|
  z_ac (j := 25) rfl (z_eR (sr_bool dX9_isAcceptable_42 rfl)) <| z_an
theorem dX9_nearestOf_0 : decode cX9_nearestOf 0 = .ok (.iconst (-1), 1) := by decide +kernel
theorem dX9_nearestOf_1 : decode cX9_nearestOf 1 = .ok (.istore_n 2, 1) := by decide +kernel
theorem dX9_nearestOf_2 : decode cX9_nearestOf 2 = .ok (.iconst 0, 1) := by decide +kernel
theorem dX9_nearestOf_3 : decode cX9_nearestOf 3 = .ok (.istore_n 3, 1) := by decide +kernel
theorem dX9_nearestOf_4 : decode cX9_nearestOf 4 = .ok (.iload_n 3, 1) := by decide +kernel
theorem dX9_nearestOf_5 : decode cX9_nearestOf 5 = .ok (.aload_n 0, 1) := by decide +kernel
theorem dX9_nearestOf_6 : decode cX9_nearestOf 6 = .ok (.iconst 4, 1) := by decide +kernel
theorem dX9_nearestOf_7 : decode cX9_nearestOf 7 = .ok (.iaload, 1) := by decide +kernel
theorem dX9_nearestOf_8 : decode cX9_nearestOf 8 = .ok (.if_icmp .ge 42, 3) := by decide +kernel
theorem dX9_nearestOf_11 : decode cX9_nearestOf 11 = .ok (.aload_n 0, 1) := by decide +kernel
theorem dX9_nearestOf_12 : decode cX9_nearestOf 12 = .ok (.iload_n 1, 1) := by decide +kernel
theorem dX9_nearestOf_13 : decode cX9_nearestOf 13 = .ok (.iload_n 3, 1) := by decide +kernel
theorem dX9_nearestOf_14 : decode cX9_nearestOf 14 = .ok (.invokestatic 122, 3) := by decide +kernel
theorem dX9_nearestOf_17 : decode cX9_nearestOf 17 = .ok (.ifCond .ne 6, 3) := by decide +kernel
theorem dX9_nearestOf_20 : decode cX9_nearestOf 20 = .ok (.goto 24, 3) := by decide +kernel
theorem dX9_nearestOf_23 : decode cX9_nearestOf 23 = .ok (.iload_n 2, 1) := by decide +kernel
theorem dX9_nearestOf_24 : decode cX9_nearestOf 24 = .ok (.ifCond .lt 18, 3) := by decide +kernel
theorem dX9_nearestOf_27 : decode cX9_nearestOf 27 = .ok (.aload_n 0, 1) := by decide +kernel
theorem dX9_nearestOf_28 : decode cX9_nearestOf 28 = .ok (.iload_n 1, 1) := by decide +kernel
theorem dX9_nearestOf_29 : decode cX9_nearestOf 29 = .ok (.iload_n 3, 1) := by decide +kernel
theorem dX9_nearestOf_30 : decode cX9_nearestOf 30 = .ok (.invokestatic 107, 3) := by decide +kernel
theorem dX9_nearestOf_33 : decode cX9_nearestOf 33 = .ok (.aload_n 0, 1) := by decide +kernel
theorem dX9_nearestOf_34 : decode cX9_nearestOf 34 = .ok (.iload_n 1, 1) := by decide +kernel
theorem dX9_nearestOf_35 : decode cX9_nearestOf 35 = .ok (.iload_n 2, 1) := by decide +kernel
theorem dX9_nearestOf_36 : decode cX9_nearestOf 36 = .ok (.invokestatic 107, 3) := by decide +kernel
theorem dX9_nearestOf_39 : decode cX9_nearestOf 39 = .ok (.if_icmp .ge 5, 3) := by decide +kernel
theorem dX9_nearestOf_42 : decode cX9_nearestOf 42 = .ok (.iload_n 3, 1) := by decide +kernel
theorem dX9_nearestOf_43 : decode cX9_nearestOf 43 = .ok (.istore_n 2, 1) := by decide +kernel
theorem dX9_nearestOf_44 : decode cX9_nearestOf 44 = .ok (.iinc 3 1, 3) := by decide +kernel
theorem dX9_nearestOf_47 : decode cX9_nearestOf 47 = .ok (.goto (-43), 3) := by decide +kernel
theorem dX9_nearestOf_50 : decode cX9_nearestOf 50 = .ok (.iload_n 2, 1) := by decide +kernel
theorem dX9_nearestOf_51 : decode cX9_nearestOf 51 = .ok (.ireturn, 1) := by decide +kernel
theorem tX9_nearestOf {L : Nat} {xs : Nat → Int32} {N : Nat} : z_AllE (zE L xs N 30) 0 (kX9_nearestOf N) :=
  z_ac (j := 1) rfl (z_eI (sp_iconst dX9_nearestOf_0 (by decide +kernel) rfl)) <|
  z_ac (j := 2) rfl (z_eI (sp_istore_n (q := 2) dX9_nearestOf_1 rfl (by decide) (fun _ _ => rfl) rfl)) <|
  z_ac (j := 3) rfl (z_eI (sp_iconst dX9_nearestOf_2 (by decide +kernel) rfl)) <|
  z_ac (j := 4) rfl (z_eI (sp_istore_n (q := 3) dX9_nearestOf_3 rfl (by decide) (fun _ _ => rfl) rfl)) <|
  z_ac (j := 5) rfl (z_eI (sp_iload_n (q := 3) dX9_nearestOf_4 rfl rfl)) <|
  z_ac (j := 6) rfl (z_eI (sp_aload_n (q := 0) dX9_nearestOf_5 rfl rfl)) <|
  z_ac (j := 7) rfl (z_eI (sp_iconst dX9_nearestOf_6 (by decide +kernel) rfl)) <|
  z_ac (j := 8) rfl (z_eI (sp_iald dX9_nearestOf_7 rfl)) <|
  z_ac (j := 9) rfl (z_eI (sp_icmp_ge dX9_nearestOf_8 rfl rfl)) <|
  z_ac (j := 10) rfl (z_eI (sp_aload_n (q := 0) dX9_nearestOf_11 rfl rfl)) <|
  z_ac (j := 11) rfl (z_eI (sp_iload_n (q := 1) dX9_nearestOf_12 rfl rfl)) <|
  z_ac (j := 12) rfl (z_eI (sp_iload_n (q := 3) dX9_nearestOf_13 rfl rfl)) <|
  z_ac (j := 13) rfl (z_cS dX9_nearestOf_14 wl_1775 qX9_isAcceptable (by decide +kernel) (z_sn rfl rfl) rfl) <|
  z_ac (j := 14) rfl (z_eI (sp_if_ne dX9_nearestOf_17 rfl rfl)) <|
  z_ac (j := 15) rfl (z_eI (sp_goto dX9_nearestOf_20 rfl)) <|
  z_ac (j := 16) rfl (z_eI (sp_iload_n (q := 2) dX9_nearestOf_23 rfl rfl)) <|
  z_ac (j := 17) rfl (z_eI (sp_if_lt dX9_nearestOf_24 rfl rfl)) <|
  z_ac (j := 18) rfl (z_eI (sp_aload_n (q := 0) dX9_nearestOf_27 rfl rfl)) <|
  z_ac (j := 19) rfl (z_eI (sp_iload_n (q := 1) dX9_nearestOf_28 rfl rfl)) <|
  z_ac (j := 20) rfl (z_eI (sp_iload_n (q := 3) dX9_nearestOf_29 rfl rfl)) <|
  z_ac (j := 21) rfl (z_cS dX9_nearestOf_30 wl_1759 qX9_farFromLight (by decide +kernel) (z_sn rfl rfl) rfl) <|
  z_ac (j := 22) rfl (z_eI (sp_aload_n (q := 0) dX9_nearestOf_33 rfl rfl)) <|
  z_ac (j := 23) rfl (z_eI (sp_iload_n (q := 1) dX9_nearestOf_34 rfl rfl)) <|
  z_ac (j := 24) rfl (z_eI (sp_iload_n (q := 2) dX9_nearestOf_35 rfl rfl)) <|
  z_ac (j := 25) rfl (z_cS dX9_nearestOf_36 wl_1759 qX9_farFromLight (by decide +kernel) (z_sn rfl rfl) rfl) <|
  z_ac (j := 26) rfl (z_eI (sp_icmp_ge dX9_nearestOf_39 rfl rfl)) <|
  z_ac (j := 27) rfl (z_eI (sp_iload_n (q := 3) dX9_nearestOf_42 rfl rfl)) <|
  z_ac (j := 28) rfl (z_eI (sp_istore_n (q := 2) dX9_nearestOf_43 rfl (by decide) (fun _ _ => rfl) rfl)) <|
  z_ac (j := 29) rfl (z_eI (sp_iinc dX9_nearestOf_44 (by decide +kernel) (by decide) (fun _ _ => rfl) rfl)) <|
  z_ac (j := 30) rfl (z_eI (sp_goto dX9_nearestOf_47 rfl)) <|
  z_ac (j := 31) rfl (z_eI (sp_iload_n (q := 2) dX9_nearestOf_50 rfl rfl)) <|
  z_ac (j := 32) rfl (z_eR (sr_int dX9_nearestOf_51 rfl)) <| z_an
theorem dX9_lightOn_0 : decode cX9_lightOn 0 = .ok (.iconst 0, 1) := by decide +kernel
theorem dX9_lightOn_1 : decode cX9_lightOn 1 = .ok (.istore_n 3, 1) := by decide +kernel
theorem dX9_lightOn_2 : decode cX9_lightOn 2 = .ok (.iload_n 3, 1) := by decide +kernel
theorem dX9_lightOn_3 : decode cX9_lightOn 3 = .ok (.aload_n 0, 1) := by decide +kernel
theorem dX9_lightOn_4 : decode cX9_lightOn 4 = .ok (.iconst 4, 1) := by decide +kernel
theorem dX9_lightOn_5 : decode cX9_lightOn 5 = .ok (.iaload, 1) := by decide +kernel
theorem dX9_lightOn_6 : decode cX9_lightOn 6 = .ok (.if_icmp .ge 33, 3) := by decide +kernel
theorem dX9_lightOn_9 : decode cX9_lightOn 9 = .ok (.aload_n 0, 1) := by decide +kernel
theorem dX9_lightOn_10 : decode cX9_lightOn 10 = .ok (.iload_n 3, 1) := by decide +kernel
theorem dX9_lightOn_11 : decode cX9_lightOn 11 = .ok (.iconst 0, 1) := by decide +kernel
theorem dX9_lightOn_12 : decode cX9_lightOn 12 = .ok (.invokestatic 101, 3) := by decide +kernel
theorem dX9_lightOn_15 : decode cX9_lightOn 15 = .ok (.iaload, 1) := by decide +kernel
theorem dX9_lightOn_16 : decode cX9_lightOn 16 = .ok (.iload_n 1, 1) := by decide +kernel
theorem dX9_lightOn_17 : decode cX9_lightOn 17 = .ok (.if_icmp .ne 16, 3) := by decide +kernel
theorem dX9_lightOn_20 : decode cX9_lightOn 20 = .ok (.aload_n 0, 1) := by decide +kernel
theorem dX9_lightOn_21 : decode cX9_lightOn 21 = .ok (.iload_n 3, 1) := by decide +kernel
theorem dX9_lightOn_22 : decode cX9_lightOn 22 = .ok (.iconst 1, 1) := by decide +kernel
theorem dX9_lightOn_23 : decode cX9_lightOn 23 = .ok (.invokestatic 101, 3) := by decide +kernel
theorem dX9_lightOn_26 : decode cX9_lightOn 26 = .ok (.iaload, 1) := by decide +kernel
theorem dX9_lightOn_27 : decode cX9_lightOn 27 = .ok (.iload_n 2, 1) := by decide +kernel
theorem dX9_lightOn_28 : decode cX9_lightOn 28 = .ok (.if_icmp .ne 5, 3) := by decide +kernel
theorem dX9_lightOn_31 : decode cX9_lightOn 31 = .ok (.iload_n 3, 1) := by decide +kernel
theorem dX9_lightOn_32 : decode cX9_lightOn 32 = .ok (.ireturn, 1) := by decide +kernel
theorem dX9_lightOn_33 : decode cX9_lightOn 33 = .ok (.iinc 3 1, 3) := by decide +kernel
theorem dX9_lightOn_36 : decode cX9_lightOn 36 = .ok (.goto (-34), 3) := by decide +kernel
theorem dX9_lightOn_39 : decode cX9_lightOn 39 = .ok (.iconst (-1), 1) := by decide +kernel
theorem dX9_lightOn_40 : decode cX9_lightOn 40 = .ok (.ireturn, 1) := by decide +kernel
theorem tX9_lightOn {L : Nat} {xs : Nat → Int32} {N : Nat} : z_AllE (zE L xs N 31) 0 (kX9_lightOn N) :=
  z_ac (j := 1) rfl (z_eI (sp_iconst dX9_lightOn_0 (by decide +kernel) rfl)) <|
  z_ac (j := 2) rfl (z_eI (sp_istore_n (q := 3) dX9_lightOn_1 rfl (by decide) (fun _ _ => rfl) rfl)) <|
  z_ac (j := 3) rfl (z_eI (sp_iload_n (q := 3) dX9_lightOn_2 rfl rfl)) <|
  z_ac (j := 4) rfl (z_eI (sp_aload_n (q := 0) dX9_lightOn_3 rfl rfl)) <|
  z_ac (j := 5) rfl (z_eI (sp_iconst dX9_lightOn_4 (by decide +kernel) rfl)) <|
  z_ac (j := 6) rfl (z_eI (sp_iald dX9_lightOn_5 rfl)) <|
  z_ac (j := 7) rfl (z_eI (sp_icmp_ge dX9_lightOn_6 rfl rfl)) <|
  z_ac (j := 8) rfl (z_eI (sp_aload_n (q := 0) dX9_lightOn_9 rfl rfl)) <|
  z_ac (j := 9) rfl (z_eI (sp_iload_n (q := 3) dX9_lightOn_10 rfl rfl)) <|
  z_ac (j := 10) rfl (z_eI (sp_iconst dX9_lightOn_11 (by decide +kernel) rfl)) <|
  z_ac (j := 11) rfl (z_cS dX9_lightOn_12 wl_1504 qX9_lightAt (by decide +kernel) (z_sn rfl rfl) rfl) <|
  z_ac (j := 12) rfl (z_eI (sp_iald dX9_lightOn_15 rfl)) <|
  z_ac (j := 13) rfl (z_eI (sp_iload_n (q := 1) dX9_lightOn_16 rfl rfl)) <|
  z_ac (j := 14) rfl (z_eI (sp_icmp_ne dX9_lightOn_17 rfl rfl)) <|
  z_ac (j := 15) rfl (z_eI (sp_aload_n (q := 0) dX9_lightOn_20 rfl rfl)) <|
  z_ac (j := 16) rfl (z_eI (sp_iload_n (q := 3) dX9_lightOn_21 rfl rfl)) <|
  z_ac (j := 17) rfl (z_eI (sp_iconst dX9_lightOn_22 (by decide +kernel) rfl)) <|
  z_ac (j := 18) rfl (z_cS dX9_lightOn_23 wl_1504 qX9_lightAt (by decide +kernel) (z_sn rfl rfl) rfl) <|
  z_ac (j := 19) rfl (z_eI (sp_iald dX9_lightOn_26 rfl)) <|
  z_ac (j := 20) rfl (z_eI (sp_iload_n (q := 2) dX9_lightOn_27 rfl rfl)) <|
  z_ac (j := 21) rfl (z_eI (sp_icmp_ne dX9_lightOn_28 rfl rfl)) <|
  z_ac (j := 22) rfl (z_eI (sp_iload_n (q := 3) dX9_lightOn_31 rfl rfl)) <|
  z_ac (j := 23) rfl (z_eR (sr_int dX9_lightOn_32 rfl)) <|
  z_ac (j := 24) rfl (z_eI (sp_iinc dX9_lightOn_33 (by decide +kernel) (by decide) (fun _ _ => rfl) rfl)) <|
  z_ac (j := 25) rfl (z_eI (sp_goto dX9_lightOn_36 rfl)) <|
  z_ac (j := 26) rfl (z_eI (sp_iconst dX9_lightOn_39 (by decide +kernel) rfl)) <|
  z_ac (j := 27) rfl (z_eR (sr_int dX9_lightOn_40 rfl)) <| z_an
theorem dX9_isAstray_0 : decode cX9_isAstray 0 = .ok (.iload_n 1, 1) := by decide +kernel
theorem dX9_isAstray_1 : decode cX9_isAstray 1 = .ok (.istore_n 2, 1) := by decide +kernel
theorem dX9_isAstray_2 : decode cX9_isAstray 2 = .ok (.iconst 0, 1) := by decide +kernel
theorem dX9_isAstray_3 : decode cX9_isAstray 3 = .ok (.istore_n 3, 1) := by decide +kernel
theorem dX9_isAstray_4 : decode cX9_isAstray 4 = .ok (.iload_n 2, 1) := by decide +kernel
theorem dX9_isAstray_5 : decode cX9_isAstray 5 = .ok (.ifCond .lt 40, 3) := by decide +kernel
theorem dX9_isAstray_8 : decode cX9_isAstray 8 = .ok (.aload_n 0, 1) := by decide +kernel
theorem dX9_isAstray_9 : decode cX9_isAstray 9 = .ok (.iload_n 2, 1) := by decide +kernel
theorem dX9_isAstray_10 : decode cX9_isAstray 10 = .ok (.iconst 3, 1) := by decide +kernel
theorem dX9_isAstray_11 : decode cX9_isAstray 11 = .ok (.invokestatic 101, 3) := by decide +kernel
theorem dX9_isAstray_14 : decode cX9_isAstray 14 = .ok (.iaload, 1) := by decide +kernel
theorem dX9_isAstray_15 : decode cX9_isAstray 15 = .ok (.ifCond .eq 11, 3) := by decide +kernel
theorem dX9_isAstray_18 : decode cX9_isAstray 18 = .ok (.iload_n 3, 1) := by decide +kernel
theorem dX9_isAstray_19 : decode cX9_isAstray 19 = .ok (.iload_n 2, 1) := by decide +kernel
theorem dX9_isAstray_20 : decode cX9_isAstray 20 = .ok (.invokestatic 118, 3) := by decide +kernel
theorem dX9_isAstray_23 : decode cX9_isAstray 23 = .ok (.ifCond .eq 5, 3) := by decide +kernel
theorem dX9_isAstray_26 : decode cX9_isAstray 26 = .ok (.iconst 1, 1) := by decide +kernel
theorem dX9_isAstray_27 : decode cX9_isAstray 27 = .ok (.ireturn, 1) := by decide +kernel
theorem dX9_isAstray_28 : decode cX9_isAstray 28 = .ok (.iload_n 3, 1) := by decide +kernel
theorem dX9_isAstray_29 : decode cX9_isAstray 29 = .ok (.iconst 1, 1) := by decide +kernel
theorem dX9_isAstray_30 : decode cX9_isAstray 30 = .ok (.iload_n 2, 1) := by decide +kernel
theorem dX9_isAstray_31 : decode cX9_isAstray 31 = .ok (.ishl, 1) := by decide +kernel
theorem dX9_isAstray_32 : decode cX9_isAstray 32 = .ok (.ior, 1) := by decide +kernel
theorem dX9_isAstray_33 : decode cX9_isAstray 33 = .ok (.istore_n 3, 1) := by decide +kernel
theorem dX9_isAstray_34 : decode cX9_isAstray 34 = .ok (.aload_n 0, 1) := by decide +kernel
theorem dX9_isAstray_35 : decode cX9_isAstray 35 = .ok (.iload_n 2, 1) := by decide +kernel
theorem dX9_isAstray_36 : decode cX9_isAstray 36 = .ok (.iconst 4, 1) := by decide +kernel
theorem dX9_isAstray_37 : decode cX9_isAstray 37 = .ok (.invokestatic 101, 3) := by decide +kernel
theorem dX9_isAstray_40 : decode cX9_isAstray 40 = .ok (.iaload, 1) := by decide +kernel
theorem dX9_isAstray_41 : decode cX9_isAstray 41 = .ok (.istore_n 2, 1) := by decide +kernel
theorem dX9_isAstray_42 : decode cX9_isAstray 42 = .ok (.goto (-38), 3) := by decide +kernel
theorem dX9_isAstray_45 : decode cX9_isAstray 45 = .ok (.iconst 0, 1) := by decide +kernel
theorem dX9_isAstray_46 : decode cX9_isAstray 46 = .ok (.ireturn, 1) := by decide +kernel
theorem tX9_isAstray {L : Nat} {xs : Nat → Int32} {N : Nat} : z_AllE (zE L xs N 32) 0 (kX9_isAstray N) :=
  z_ac (j := 1) rfl (z_eI (sp_iload_n (q := 1) dX9_isAstray_0 rfl rfl)) <|
  z_ac (j := 2) rfl (z_eI (sp_istore_n (q := 2) dX9_isAstray_1 rfl (by decide) (fun _ _ => rfl) rfl)) <|
  z_ac (j := 3) rfl (z_eI (sp_iconst dX9_isAstray_2 (by decide +kernel) rfl)) <|
  z_ac (j := 4) rfl (z_eI (sp_istore_n (q := 3) dX9_isAstray_3 rfl (by decide) (fun _ _ => rfl) rfl)) <|
  z_ac (j := 5) rfl (z_eI (sp_iload_n (q := 2) dX9_isAstray_4 rfl rfl)) <|
  z_ac (j := 6) rfl (z_eI (sp_if_lt dX9_isAstray_5 rfl rfl)) <|
  z_ac (j := 7) rfl (z_eI (sp_aload_n (q := 0) dX9_isAstray_8 rfl rfl)) <|
  z_ac (j := 8) rfl (z_eI (sp_iload_n (q := 2) dX9_isAstray_9 rfl rfl)) <|
  z_ac (j := 9) rfl (z_eI (sp_iconst dX9_isAstray_10 (by decide +kernel) rfl)) <|
  z_ac (j := 10) rfl (z_cS dX9_isAstray_11 wl_1504 qX9_lightAt (by decide +kernel) (z_sn rfl rfl) rfl) <|
  z_ac (j := 11) rfl (z_eI (sp_iald dX9_isAstray_14 rfl)) <|
  z_ac (j := 12) rfl (z_eI (sp_if_eq dX9_isAstray_15 rfl rfl)) <|
  z_ac (j := 13) rfl (z_eI (sp_iload_n (q := 3) dX9_isAstray_18 rfl rfl)) <|
  z_ac (j := 14) rfl (z_eI (sp_iload_n (q := 2) dX9_isAstray_19 rfl rfl)) <|
  z_ac (j := 15) rfl (z_cS dX9_isAstray_20 wl_1689 qX9_has (by decide +kernel) (z_sn rfl rfl) rfl) <|
  z_ac (j := 16) rfl (z_eI (sp_if_eq dX9_isAstray_23 rfl rfl)) <|
  z_ac (j := 17) rfl (z_eI (sp_iconst dX9_isAstray_26 (by decide +kernel) rfl)) <|
  z_ac (j := 18) rfl (z_eR (sr_bool dX9_isAstray_27 rfl)) <|
  z_ac (j := 19) rfl (z_eI (sp_iload_n (q := 3) dX9_isAstray_28 rfl rfl)) <|
  z_ac (j := 20) rfl (z_eI (sp_iconst dX9_isAstray_29 (by decide +kernel) rfl)) <|
  z_ac (j := 21) rfl (z_eI (sp_iload_n (q := 2) dX9_isAstray_30 rfl rfl)) <|
  z_ac (j := 22) rfl (z_eI (sp_ishl dX9_isAstray_31 rfl)) <|
  z_ac (j := 23) rfl (z_eI (sp_ior dX9_isAstray_32 rfl)) <|
  z_ac (j := 24) rfl (z_eI (sp_istore_n (q := 3) dX9_isAstray_33 rfl (by decide) (fun _ _ => rfl) rfl)) <|
  z_ac (j := 25) rfl (z_eI (sp_aload_n (q := 0) dX9_isAstray_34 rfl rfl)) <|
  z_ac (j := 26) rfl (z_eI (sp_iload_n (q := 2) dX9_isAstray_35 rfl rfl)) <|
  z_ac (j := 27) rfl (z_eI (sp_iconst dX9_isAstray_36 (by decide +kernel) rfl)) <|
  z_ac (j := 28) rfl (z_cS dX9_isAstray_37 wl_1504 qX9_lightAt (by decide +kernel) (z_sn rfl rfl) rfl) <|
  z_ac (j := 29) rfl (z_eI (sp_iald dX9_isAstray_40 rfl)) <|
  z_ac (j := 30) rfl (z_eI (sp_istore_n (q := 2) dX9_isAstray_41 rfl (by decide) (fun _ _ => rfl) rfl)) <|
  z_ac (j := 31) rfl (z_eI (sp_goto dX9_isAstray_42 rfl)) <|
  z_ac (j := 32) rfl (z_eI (sp_iconst dX9_isAstray_45 (by decide +kernel) rfl)) <|
  z_ac (j := 33) rfl (z_eR (sr_bool dX9_isAstray_46 rfl)) <| z_an
theorem dX9_forgetsTarget_0 : decode cX9_forgetsTarget 0 = .ok (.aload_n 0, 1) := by decide +kernel
theorem dX9_forgetsTarget_1 : decode cX9_forgetsTarget 1 = .ok (.iload_n 1, 1) := by decide +kernel
theorem dX9_forgetsTarget_2 : decode cX9_forgetsTarget 2 = .ok (.iconst 3, 1) := by decide +kernel
theorem dX9_forgetsTarget_3 : decode cX9_forgetsTarget 3 = .ok (.invokestatic 95, 3) := by decide +kernel
theorem dX9_forgetsTarget_6 : decode cX9_forgetsTarget 6 = .ok (.iconst (-1), 1) := by decide +kernel
theorem dX9_forgetsTarget_7 : decode cX9_forgetsTarget 7 = .ok (.iastore, 1) := by decide +kernel
theorem dX9_forgetsTarget_8 : decode cX9_forgetsTarget 8 = .ok (.return_, 1) := by decide +kernel
theorem tX9_forgetsTarget {L : Nat} {xs : Nat → Int32} {N : Nat} : z_AllE (zE L xs N 33) 0 (kX9_forgetsTarget N) :=
  z_ac (j := 1) rfl (z_eI (sp_aload_n (q := 0) dX9_forgetsTarget_0 rfl rfl)) <|
  z_ac (j := 2) rfl (z_eI (sp_iload_n (q := 1) dX9_forgetsTarget_1 rfl rfl)) <|
  z_ac (j := 3) rfl (z_eI (sp_iconst dX9_forgetsTarget_2 (by decide +kernel) rfl)) <|
  z_ac (j := 4) rfl (z_cS dX9_forgetsTarget_3 wl_1521 qX9_walkerAt (by decide +kernel) (z_sn rfl rfl) rfl) <|
  z_ac (j := 5) rfl (z_eI (sp_iconst dX9_forgetsTarget_6 (by decide +kernel) rfl)) <|
  z_ac (j := 6) rfl (z_eI (sp_iast dX9_forgetsTarget_7 rfl)) <|
  z_ac (j := 7) rfl (z_eW (sv_void dX9_forgetsTarget_8 rfl)) <| z_an
theorem dX9_passes_0 : decode cX9_passes 0 = .ok (.aload_n 0, 1) := by decide +kernel
theorem dX9_passes_1 : decode cX9_passes 1 = .ok (.iload_n 1, 1) := by decide +kernel
theorem dX9_passes_2 : decode cX9_passes 2 = .ok (.iconst 4, 1) := by decide +kernel
theorem dX9_passes_3 : decode cX9_passes 3 = .ok (.invokestatic 95, 3) := by decide +kernel
theorem dX9_passes_6 : decode cX9_passes 6 = .ok (.dup2, 1) := by decide +kernel
theorem dX9_passes_7 : decode cX9_passes 7 = .ok (.iaload, 1) := by decide +kernel
theorem dX9_passes_8 : decode cX9_passes 8 = .ok (.iconst 1, 1) := by decide +kernel
theorem dX9_passes_9 : decode cX9_passes 9 = .ok (.iload_n 2, 1) := by decide +kernel
theorem dX9_passes_10 : decode cX9_passes 10 = .ok (.ishl, 1) := by decide +kernel
theorem dX9_passes_11 : decode cX9_passes 11 = .ok (.ior, 1) := by decide +kernel
theorem dX9_passes_12 : decode cX9_passes 12 = .ok (.iastore, 1) := by decide +kernel
theorem dX9_passes_13 : decode cX9_passes 13 = .ok (.return_, 1) := by decide +kernel
theorem tX9_passes {L : Nat} {xs : Nat → Int32} {N : Nat} : z_AllE (zE L xs N 34) 0 (kX9_passes N) :=
  z_ac (j := 1) rfl (z_eI (sp_aload_n (q := 0) dX9_passes_0 rfl rfl)) <|
  z_ac (j := 2) rfl (z_eI (sp_iload_n (q := 1) dX9_passes_1 rfl rfl)) <|
  z_ac (j := 3) rfl (z_eI (sp_iconst dX9_passes_2 (by decide +kernel) rfl)) <|
  z_ac (j := 4) rfl (z_cS dX9_passes_3 wl_1521 qX9_walkerAt (by decide +kernel) (z_sn rfl rfl) rfl) <|
  z_ac (j := 5) rfl (z_eI (sp_dup2 dX9_passes_6 rfl)) <|
  z_ac (j := 6) rfl (z_eI (sp_iald dX9_passes_7 rfl)) <|
  z_ac (j := 7) rfl (z_eI (sp_iconst dX9_passes_8 (by decide +kernel) rfl)) <|
  z_ac (j := 8) rfl (z_eI (sp_iload_n (q := 2) dX9_passes_9 rfl rfl)) <|
  z_ac (j := 9) rfl (z_eI (sp_ishl dX9_passes_10 rfl)) <|
  z_ac (j := 10) rfl (z_eI (sp_ior dX9_passes_11 rfl)) <|
  z_ac (j := 11) rfl (z_eI (sp_iast dX9_passes_12 rfl)) <|
  z_ac (j := 12) rfl (z_eW (sv_void dX9_passes_13 rfl)) <| z_an
theorem dX9_leaves_0 : decode cX9_leaves 0 = .ok (.aload_n 0, 1) := by decide +kernel
theorem dX9_leaves_1 : decode cX9_leaves 1 = .ok (.iload_n 1, 1) := by decide +kernel
theorem dX9_leaves_2 : decode cX9_leaves 2 = .ok (.iload_n 2, 1) := by decide +kernel
theorem dX9_leaves_3 : decode cX9_leaves 3 = .ok (.invokestatic 45, 3) := by decide +kernel
theorem dX9_leaves_6 : decode cX9_leaves 6 = .ok (.iaload, 1) := by decide +kernel
theorem dX9_leaves_7 : decode cX9_leaves 7 = .ok (.istore_n 3, 1) := by decide +kernel
theorem dX9_leaves_8 : decode cX9_leaves 8 = .ok (.iload_n 3, 1) := by decide +kernel
theorem dX9_leaves_9 : decode cX9_leaves 9 = .ok (.bipush 10, 2) := by decide +kernel
theorem dX9_leaves_11 : decode cX9_leaves 11 = .ok (.if_icmp .ge 4, 3) := by decide +kernel
theorem dX9_leaves_14 : decode cX9_leaves 14 = .ok (.return_, 1) := by decide +kernel
theorem dX9_leaves_15 : decode cX9_leaves 15 = .ok (.aload_n 0, 1) := by decide +kernel
theorem dX9_leaves_16 : decode cX9_leaves 16 = .ok (.iload_n 1, 1) := by decide +kernel
theorem dX9_leaves_17 : decode cX9_leaves 17 = .ok (.iload_n 2, 1) := by decide +kernel
theorem dX9_leaves_18 : decode cX9_leaves 18 = .ok (.invokestatic 45, 3) := by decide +kernel
theorem dX9_leaves_21 : decode cX9_leaves 21 = .ok (.iload_n 3, 1) := by decide +kernel
theorem dX9_leaves_22 : decode cX9_leaves 22 = .ok (.bipush 11, 2) := by decide +kernel
theorem dX9_leaves_24 : decode cX9_leaves 24 = .ok (.if_icmp .ne 7, 3) := by decide +kernel
theorem dX9_leaves_27 : decode cX9_leaves 27 = .ok (.iconst 1, 1) := by decide +kernel
theorem dX9_leaves_28 : decode cX9_leaves 28 = .ok (.goto 6, 3) := by decide +kernel
theorem dX9_leaves_31 : decode cX9_leaves 31 = .ok (.iload_n 3, 1) := by decide +kernel
theorem dX9_leaves_32 : decode cX9_leaves 32 = .ok (.iconst 1, 1) := by decide +kernel
theorem dX9_leaves_33 : decode cX9_leaves 33 = .ok (.isub, 1) := by decide +kernel
theorem dX9_leaves_34 : decode cX9_leaves 34 = .ok (.iastore, 1) := by decide +kernel
theorem dX9_leaves_35 : decode cX9_leaves 35 = .ok (.return_, 1) := by decide +kernel
theorem tX9_leaves {L : Nat} {xs : Nat → Int32} {N : Nat} : z_AllE (zE L xs N 35) 0 (kX9_leaves N) :=
  z_ac (j := 1) rfl (z_eI (sp_aload_n (q := 0) dX9_leaves_0 rfl rfl)) <|
  z_ac (j := 2) rfl (z_eI (sp_iload_n (q := 1) dX9_leaves_1 rfl rfl)) <|
  z_ac (j := 3) rfl (z_eI (sp_iload_n (q := 2) dX9_leaves_2 rfl rfl)) <|
  z_ac (j := 4) rfl (z_cS dX9_leaves_3 wl_1343 qX9_cellAt (by decide +kernel) (z_sn rfl rfl) rfl) <|
  z_ac (j := 5) rfl (z_eI (sp_iald dX9_leaves_6 rfl)) <|
  z_ac (j := 6) rfl (z_eI (sp_istore_n (q := 3) dX9_leaves_7 rfl (by decide) (fun _ _ => rfl) rfl)) <|
  z_ac (j := 7) rfl (z_eI (sp_iload_n (q := 3) dX9_leaves_8 rfl rfl)) <|
  z_ac (j := 8) rfl (z_eI (sp_bipush dX9_leaves_9 (by decide +kernel) rfl)) <|
  z_ac (j := 9) rfl (z_eI (sp_icmp_ge dX9_leaves_11 rfl rfl)) <|
  z_ac (j := 10) rfl (z_eW (sv_void dX9_leaves_14 rfl)) <|
  z_ac (j := 11) rfl (z_eI (sp_aload_n (q := 0) dX9_leaves_15 rfl rfl)) <|
  z_ac (j := 12) rfl (z_eI (sp_iload_n (q := 1) dX9_leaves_16 rfl rfl)) <|
  z_ac (j := 13) rfl (z_eI (sp_iload_n (q := 2) dX9_leaves_17 rfl rfl)) <|
  z_ac (j := 14) rfl (z_cS dX9_leaves_18 wl_1343 qX9_cellAt (by decide +kernel) (z_sn rfl rfl) rfl) <|
  z_ac (j := 15) rfl (z_eI (sp_iload_n (q := 3) dX9_leaves_21 rfl rfl)) <|
  z_ac (j := 16) rfl (z_eI (sp_bipush dX9_leaves_22 (by decide +kernel) rfl)) <|
  z_ac (j := 17) rfl (z_eI (sp_icmp_ne dX9_leaves_24 rfl rfl)) <|
  z_ac (j := 18) rfl (z_eI (sp_iconst dX9_leaves_27 (by decide +kernel) rfl)) <|
  z_ac (j := 19) rfl (z_eI (sp_goto dX9_leaves_28 rfl)) <|
  z_ac (j := 20) rfl (z_eI (sp_iload_n (q := 3) dX9_leaves_31 rfl rfl)) <|
  z_ac (j := 21) rfl (z_eI (sp_iconst dX9_leaves_32 (by decide +kernel) rfl)) <|
  z_ac (j := 22) rfl (z_eI (sp_isub dX9_leaves_33 rfl)) <|
  z_ac (j := 23) rfl (z_eI (sp_iast dX9_leaves_34 rfl)) <|
  z_ac (j := 24) rfl (z_eW (sv_void dX9_leaves_35 rfl)) <| z_an
theorem dX9_isOn_0 : decode cX9_isOn 0 = .ok (.aload_n 0, 1) := by decide +kernel
theorem dX9_isOn_1 : decode cX9_isOn 1 = .ok (.iload_n 1, 1) := by decide +kernel
theorem dX9_isOn_2 : decode cX9_isOn 2 = .ok (.iconst 0, 1) := by decide +kernel
theorem dX9_isOn_3 : decode cX9_isOn 3 = .ok (.invokestatic 95, 3) := by decide +kernel
theorem dX9_isOn_6 : decode cX9_isOn 6 = .ok (.iaload, 1) := by decide +kernel
theorem dX9_isOn_7 : decode cX9_isOn 7 = .ok (.aload_n 0, 1) := by decide +kernel
theorem dX9_isOn_8 : decode cX9_isOn 8 = .ok (.iload_n 2, 1) := by decide +kernel
theorem dX9_isOn_9 : decode cX9_isOn 9 = .ok (.iconst 0, 1) := by decide +kernel
theorem dX9_isOn_10 : decode cX9_isOn 10 = .ok (.invokestatic 101, 3) := by decide +kernel
theorem dX9_isOn_13 : decode cX9_isOn 13 = .ok (.iaload, 1) := by decide +kernel
theorem dX9_isOn_14 : decode cX9_isOn 14 = .ok (.if_icmp .ne 24, 3) := by decide +kernel
theorem dX9_isOn_17 : decode cX9_isOn 17 = .ok (.aload_n 0, 1) := by decide +kernel
theorem dX9_isOn_18 : decode cX9_isOn 18 = .ok (.iload_n 1, 1) := by decide +kernel
theorem dX9_isOn_19 : decode cX9_isOn 19 = .ok (.iconst 1, 1) := by decide +kernel
theorem dX9_isOn_20 : decode cX9_isOn 20 = .ok (.invokestatic 95, 3) := by decide +kernel
theorem dX9_isOn_23 : decode cX9_isOn 23 = .ok (.iaload, 1) := by decide +kernel
theorem dX9_isOn_24 : decode cX9_isOn 24 = .ok (.aload_n 0, 1) := by decide +kernel
theorem dX9_isOn_25 : decode cX9_isOn 25 = .ok (.iload_n 2, 1) := by decide +kernel
theorem dX9_isOn_26 : decode cX9_isOn 26 = .ok (.iconst 1, 1) := by decide +kernel
theorem dX9_isOn_27 : decode cX9_isOn 27 = .ok (.invokestatic 101, 3) := by decide +kernel
theorem dX9_isOn_30 : decode cX9_isOn 30 = .ok (.iaload, 1) := by decide +kernel
theorem dX9_isOn_31 : decode cX9_isOn 31 = .ok (.if_icmp .ne 7, 3) := by decide +kernel
theorem dX9_isOn_34 : decode cX9_isOn 34 = .ok (.iconst 1, 1) := by decide +kernel
theorem dX9_isOn_35 : decode cX9_isOn 35 = .ok (.goto 4, 3) := by decide +kernel
theorem dX9_isOn_38 : decode cX9_isOn 38 = .ok (.iconst 0, 1) := by decide +kernel
theorem dX9_isOn_39 : decode cX9_isOn 39 = .ok (.ireturn, 1) := by decide +kernel
theorem tX9_isOn {L : Nat} {xs : Nat → Int32} {N : Nat} : z_AllE (zE L xs N 36) 0 (kX9_isOn N) :=
  z_ac (j := 1) rfl (z_eI (sp_aload_n (q := 0) dX9_isOn_0 rfl rfl)) <|
  z_ac (j := 2) rfl (z_eI (sp_iload_n (q := 1) dX9_isOn_1 rfl rfl)) <|
  z_ac (j := 3) rfl (z_eI (sp_iconst dX9_isOn_2 (by decide +kernel) rfl)) <|
  z_ac (j := 4) rfl (z_cS dX9_isOn_3 wl_1521 qX9_walkerAt (by decide +kernel) (z_sn rfl rfl) rfl) <|
  z_ac (j := 5) rfl (z_eI (sp_iald dX9_isOn_6 rfl)) <|
  z_ac (j := 6) rfl (z_eI (sp_aload_n (q := 0) dX9_isOn_7 rfl rfl)) <|
  z_ac (j := 7) rfl (z_eI (sp_iload_n (q := 2) dX9_isOn_8 rfl rfl)) <|
  z_ac (j := 8) rfl (z_eI (sp_iconst dX9_isOn_9 (by decide +kernel) rfl)) <|
  z_ac (j := 9) rfl (z_cS dX9_isOn_10 wl_1504 qX9_lightAt (by decide +kernel) (z_sn rfl rfl) rfl) <|
  z_ac (j := 10) rfl (z_eI (sp_iald dX9_isOn_13 rfl)) <|
  z_ac (j := 11) rfl (z_eI (sp_icmp_ne dX9_isOn_14 rfl rfl)) <|
  z_ac (j := 12) rfl (z_eI (sp_aload_n (q := 0) dX9_isOn_17 rfl rfl)) <|
  z_ac (j := 13) rfl (z_eI (sp_iload_n (q := 1) dX9_isOn_18 rfl rfl)) <|
  z_ac (j := 14) rfl (z_eI (sp_iconst dX9_isOn_19 (by decide +kernel) rfl)) <|
  z_ac (j := 15) rfl (z_cS dX9_isOn_20 wl_1521 qX9_walkerAt (by decide +kernel) (z_sn rfl rfl) rfl) <|
  z_ac (j := 16) rfl (z_eI (sp_iald dX9_isOn_23 rfl)) <|
  z_ac (j := 17) rfl (z_eI (sp_aload_n (q := 0) dX9_isOn_24 rfl rfl)) <|
  z_ac (j := 18) rfl (z_eI (sp_iload_n (q := 2) dX9_isOn_25 rfl rfl)) <|
  z_ac (j := 19) rfl (z_eI (sp_iconst dX9_isOn_26 (by decide +kernel) rfl)) <|
  z_ac (j := 20) rfl (z_cS dX9_isOn_27 wl_1504 qX9_lightAt (by decide +kernel) (z_sn rfl rfl) rfl) <|
  z_ac (j := 21) rfl (z_eI (sp_iald dX9_isOn_30 rfl)) <|
  z_ac (j := 22) rfl (z_eI (sp_icmp_ne dX9_isOn_31 rfl rfl)) <|
  z_ac (j := 23) rfl (z_eI (sp_iconst dX9_isOn_34 (by decide +kernel) rfl)) <|
  z_ac (j := 24) rfl (z_eI (sp_goto dX9_isOn_35 rfl)) <|
  z_ac (j := 25) rfl (z_eI (sp_iconst dX9_isOn_38 (by decide +kernel) rfl)) <|
  z_ac (j := 26) rfl (z_eR (sr_bool dX9_isOn_39 rfl)) <| z_an
theorem dX9_moves_0 : decode cX9_moves 0 = .ok (.aload_n 1, 1) := by decide +kernel
theorem dX9_moves_1 : decode cX9_moves 1 = .ok (.iload_n 2, 1) := by decide +kernel
theorem dX9_moves_2 : decode cX9_moves 2 = .ok (.iconst 0, 1) := by decide +kernel
theorem dX9_moves_3 : decode cX9_moves 3 = .ok (.invokestatic 95, 3) := by decide +kernel
theorem dX9_moves_6 : decode cX9_moves 6 = .ok (.iaload, 1) := by decide +kernel
theorem dX9_moves_7 : decode cX9_moves 7 = .ok (.istore 4, 2) := by decide +kernel
theorem dX9_moves_9 : decode cX9_moves 9 = .ok (.aload_n 1, 1) := by decide +kernel
theorem dX9_moves_10 : decode cX9_moves 10 = .ok (.iload_n 2, 1) := by decide +kernel
theorem dX9_moves_11 : decode cX9_moves 11 = .ok (.iconst 1, 1) := by decide +kernel
theorem dX9_moves_12 : decode cX9_moves 12 = .ok (.invokestatic 95, 3) := by decide +kernel
theorem dX9_moves_15 : decode cX9_moves 15 = .ok (.iaload, 1) := by decide +kernel
theorem dX9_moves_16 : decode cX9_moves 16 = .ok (.istore 5, 2) := by decide +kernel
theorem dX9_moves_18 : decode cX9_moves 18 = .ok (.aload_n 0, 1) := by decide +kernel
theorem dX9_moves_19 : decode cX9_moves 19 = .ok (.aload_n 1, 1) := by decide +kernel
theorem dX9_moves_20 : decode cX9_moves 20 = .ok (.aload_n 1, 1) := by decide +kernel
theorem dX9_moves_21 : decode cX9_moves 21 = .ok (.iload_n 3, 1) := by decide +kernel
theorem dX9_moves_22 : decode cX9_moves 22 = .ok (.iconst 0, 1) := by decide +kernel
theorem dX9_moves_23 : decode cX9_moves 23 = .ok (.invokestatic 101, 3) := by decide +kernel
theorem dX9_moves_26 : decode cX9_moves 26 = .ok (.iaload, 1) := by decide +kernel
theorem dX9_moves_27 : decode cX9_moves 27 = .ok (.aload_n 1, 1) := by decide +kernel
theorem dX9_moves_28 : decode cX9_moves 28 = .ok (.iload_n 3, 1) := by decide +kernel
theorem dX9_moves_29 : decode cX9_moves 29 = .ok (.iconst 1, 1) := by decide +kernel
theorem dX9_moves_30 : decode cX9_moves 30 = .ok (.invokestatic 101, 3) := by decide +kernel
theorem dX9_moves_33 : decode cX9_moves 33 = .ok (.iaload, 1) := by decide +kernel
theorem dX9_moves_34 : decode cX9_moves 34 = .ok (.invokevirtual 125, 3) := by decide +kernel
theorem dX9_moves_37 : decode cX9_moves 37 = .ok (.aload_n 0, 1) := by decide +kernel
theorem dX9_moves_38 : decode cX9_moves 38 = .ok (.aload_n 1, 1) := by decide +kernel
theorem dX9_moves_39 : decode cX9_moves 39 = .ok (.iload 4, 2) := by decide +kernel
theorem dX9_moves_41 : decode cX9_moves 41 = .ok (.iload 5, 2) := by decide +kernel
theorem dX9_moves_43 : decode cX9_moves 43 = .ok (.invokevirtual 129, 3) := by decide +kernel
theorem dX9_moves_46 : decode cX9_moves 46 = .ok (.istore 6, 2) := by decide +kernel
theorem dX9_moves_48 : decode cX9_moves 48 = .ok (.iload 6, 2) := by decide +kernel
theorem dX9_moves_50 : decode cX9_moves 50 = .ok (.ifCond .ge 5, 3) := by decide +kernel
theorem dX9_moves_53 : decode cX9_moves 53 = .ok (.iconst 0, 1) := by decide +kernel
theorem dX9_moves_54 : decode cX9_moves 54 = .ok (.ireturn, 1) := by decide +kernel
theorem dX9_moves_55 : decode cX9_moves 55 = .ok (.iconst 0, 1) := by decide +kernel
theorem dX9_moves_56 : decode cX9_moves 56 = .ok (.istore 7, 2) := by decide +kernel
theorem dX9_moves_58 : decode cX9_moves 58 = .ok (.aload_n 0, 1) := by decide +kernel
theorem dX9_moves_59 : decode cX9_moves 59 = .ok (.aload_n 1, 1) := by decide +kernel
theorem dX9_moves_60 : decode cX9_moves 60 = .ok (.iload 4, 2) := by decide +kernel
theorem dX9_moves_62 : decode cX9_moves 62 = .ok (.iload 5, 2) := by decide +kernel
theorem dX9_moves_64 : decode cX9_moves 64 = .ok (.iload 7, 2) := by decide +kernel
theorem dX9_moves_66 : decode cX9_moves 66 = .ok (.invokevirtual 91, 3) := by decide +kernel
theorem dX9_moves_69 : decode cX9_moves 69 = .ok (.iload 6, 2) := by decide +kernel
theorem dX9_moves_71 : decode cX9_moves 71 = .ok (.iconst 1, 1) := by decide +kernel
theorem dX9_moves_72 : decode cX9_moves 72 = .ok (.isub, 1) := by decide +kernel
theorem dX9_moves_73 : decode cX9_moves 73 = .ok (.if_icmp .eq 9, 3) := by decide +kernel
theorem dX9_moves_76 : decode cX9_moves 76 = .ok (.iinc 7 1, 3) := by decide +kernel
theorem dX9_moves_79 : decode cX9_moves 79 = .ok (.goto (-21), 3) := by decide +kernel
theorem dX9_moves_82 : decode cX9_moves 82 = .ok (.aload_n 1, 1) := by decide +kernel
theorem dX9_moves_83 : decode cX9_moves 83 = .ok (.iload_n 2, 1) := by decide +kernel
theorem dX9_moves_84 : decode cX9_moves 84 = .ok (.iconst 0, 1) := by decide +kernel
theorem dX9_moves_85 : decode cX9_moves 85 = .ok (.invokestatic 95, 3) := by decide +kernel
theorem dX9_moves_88 : decode cX9_moves 88 = .ok (.iload 4, 2) := by decide +kernel
theorem dX9_moves_90 : decode cX9_moves 90 = .ok (.iload 7, 2) := by decide +kernel
theorem dX9_moves_92 : decode cX9_moves 92 = .ok (.invokestatic 70, 3) := by decide +kernel
theorem dX9_moves_95 : decode cX9_moves 95 = .ok (.iadd, 1) := by decide +kernel
theorem dX9_moves_96 : decode cX9_moves 96 = .ok (.iastore, 1) := by decide +kernel
theorem dX9_moves_97 : decode cX9_moves 97 = .ok (.aload_n 1, 1) := by decide +kernel
theorem dX9_moves_98 : decode cX9_moves 98 = .ok (.iload_n 2, 1) := by decide +kernel
theorem dX9_moves_99 : decode cX9_moves 99 = .ok (.iconst 1, 1) := by decide +kernel
theorem dX9_moves_100 : decode cX9_moves 100 = .ok (.invokestatic 95, 3) := by decide +kernel
theorem dX9_moves_103 : decode cX9_moves 103 = .ok (.iload 5, 2) := by decide +kernel
theorem dX9_moves_105 : decode cX9_moves 105 = .ok (.iload 7, 2) := by decide +kernel
theorem dX9_moves_107 : decode cX9_moves 107 = .ok (.invokestatic 74, 3) := by decide +kernel
theorem dX9_moves_110 : decode cX9_moves 110 = .ok (.iadd, 1) := by decide +kernel
theorem dX9_moves_111 : decode cX9_moves 111 = .ok (.iastore, 1) := by decide +kernel
theorem dX9_moves_112 : decode cX9_moves 112 = .ok (.aload_n 1, 1) := by decide +kernel
theorem dX9_moves_113 : decode cX9_moves 113 = .ok (.iload_n 2, 1) := by decide +kernel
theorem dX9_moves_114 : decode cX9_moves 114 = .ok (.bipush 6, 2) := by decide +kernel
theorem dX9_moves_116 : decode cX9_moves 116 = .ok (.invokestatic 95, 3) := by decide +kernel
theorem dX9_moves_119 : decode cX9_moves 119 = .ok (.dup2, 1) := by decide +kernel
theorem dX9_moves_120 : decode cX9_moves 120 = .ok (.iaload, 1) := by decide +kernel
theorem dX9_moves_121 : decode cX9_moves 121 = .ok (.iconst 1, 1) := by decide +kernel
theorem dX9_moves_122 : decode cX9_moves 122 = .ok (.iadd, 1) := by decide +kernel
theorem dX9_moves_123 : decode cX9_moves 123 = .ok (.iastore, 1) := by decide +kernel
theorem dX9_moves_124 : decode cX9_moves 124 = .ok (.aload_n 1, 1) := by decide +kernel
theorem dX9_moves_125 : decode cX9_moves 125 = .ok (.iload 4, 2) := by decide +kernel
theorem dX9_moves_127 : decode cX9_moves 127 = .ok (.iload 5, 2) := by decide +kernel
theorem dX9_moves_129 : decode cX9_moves 129 = .ok (.invokestatic 132, 3) := by decide +kernel
theorem dX9_moves_132 : decode cX9_moves 132 = .ok (.iconst 1, 1) := by decide +kernel
theorem dX9_moves_133 : decode cX9_moves 133 = .ok (.ireturn, 1) := by decide +kernel
theorem tX9_moves {L : Nat} {xs : Nat → Int32} {N : Nat} : z_AllE (zE L xs N 37) 0 (kX9_moves N) :=
  z_ac (j := 1) rfl (z_eI (sp_aload_n (q := 1) dX9_moves_0 rfl rfl)) <|
  z_ac (j := 2) rfl (z_eI (sp_iload_n (q := 2) dX9_moves_1 rfl rfl)) <|
  z_ac (j := 3) rfl (z_eI (sp_iconst dX9_moves_2 (by decide +kernel) rfl)) <|
  z_ac (j := 4) rfl (z_cS dX9_moves_3 wl_1521 qX9_walkerAt (by decide +kernel) (z_sn rfl rfl) rfl) <|
  z_ac (j := 5) rfl (z_eI (sp_iald dX9_moves_6 rfl)) <|
  z_ac (j := 6) rfl (z_eI (sp_istore dX9_moves_7 (by decide) (fun _ _ => rfl) rfl)) <|
  z_ac (j := 7) rfl (z_eI (sp_aload_n (q := 1) dX9_moves_9 rfl rfl)) <|
  z_ac (j := 8) rfl (z_eI (sp_iload_n (q := 2) dX9_moves_10 rfl rfl)) <|
  z_ac (j := 9) rfl (z_eI (sp_iconst dX9_moves_11 (by decide +kernel) rfl)) <|
  z_ac (j := 10) rfl (z_cS dX9_moves_12 wl_1521 qX9_walkerAt (by decide +kernel) (z_sn rfl rfl) rfl) <|
  z_ac (j := 11) rfl (z_eI (sp_iald dX9_moves_15 rfl)) <|
  z_ac (j := 12) rfl (z_eI (sp_istore dX9_moves_16 (by decide) (fun _ _ => rfl) rfl)) <|
  z_ac (j := 13) rfl (z_eI (sp_aload_n (q := 0) dX9_moves_18 rfl rfl)) <|
  z_ac (j := 14) rfl (z_eI (sp_aload_n (q := 1) dX9_moves_19 rfl rfl)) <|
  z_ac (j := 15) rfl (z_eI (sp_aload_n (q := 1) dX9_moves_20 rfl rfl)) <|
  z_ac (j := 16) rfl (z_eI (sp_iload_n (q := 3) dX9_moves_21 rfl rfl)) <|
  z_ac (j := 17) rfl (z_eI (sp_iconst dX9_moves_22 (by decide +kernel) rfl)) <|
  z_ac (j := 18) rfl (z_cS dX9_moves_23 wl_1504 qX9_lightAt (by decide +kernel) (z_sn rfl rfl) rfl) <|
  z_ac (j := 19) rfl (z_eI (sp_iald dX9_moves_26 rfl)) <|
  z_ac (j := 20) rfl (z_eI (sp_aload_n (q := 1) dX9_moves_27 rfl rfl)) <|
  z_ac (j := 21) rfl (z_eI (sp_iload_n (q := 3) dX9_moves_28 rfl rfl)) <|
  z_ac (j := 22) rfl (z_eI (sp_iconst dX9_moves_29 (by decide +kernel) rfl)) <|
  z_ac (j := 23) rfl (z_cS dX9_moves_30 wl_1504 qX9_lightAt (by decide +kernel) (z_sn rfl rfl) rfl) <|
  z_ac (j := 24) rfl (z_eI (sp_iald dX9_moves_33 rfl)) <|
  z_ac (j := 25) rfl (z_cV dX9_moves_34 wl_1582 qX9_spreadsTo (by decide +kernel) ⟨_, _, rfl⟩ (z_sn rfl rfl) rfl) <|
  z_ac (j := 26) rfl (z_eI (sp_aload_n (q := 0) dX9_moves_37 rfl rfl)) <|
  z_ac (j := 27) rfl (z_eI (sp_aload_n (q := 1) dX9_moves_38 rfl rfl)) <|
  z_ac (j := 28) rfl (z_eI (sp_iload dX9_moves_39 rfl)) <|
  z_ac (j := 29) rfl (z_eI (sp_iload dX9_moves_41 rfl)) <|
  z_ac (j := 30) rfl (z_cV dX9_moves_43 wl_1607 qX9_stepsFrom (by decide +kernel) ⟨_, _, rfl⟩ (z_sn rfl rfl) rfl) <|
  z_ac (j := 31) rfl (z_eI (sp_istore dX9_moves_46 (by decide) (fun _ _ => rfl) rfl)) <|
  z_ac (j := 32) rfl (z_eI (sp_iload dX9_moves_48 rfl)) <|
  z_ac (j := 33) rfl (z_eI (sp_if_ge dX9_moves_50 rfl rfl)) <|
  z_ac (j := 34) rfl (z_eI (sp_iconst dX9_moves_53 (by decide +kernel) rfl)) <|
  z_ac (j := 35) rfl (z_eR (sr_bool dX9_moves_54 rfl)) <|
  z_ac (j := 36) rfl (z_eI (sp_iconst dX9_moves_55 (by decide +kernel) rfl)) <|
  z_ac (j := 37) rfl (z_eI (sp_istore dX9_moves_56 (by decide) (fun _ _ => rfl) rfl)) <|
  z_ac (j := 38) rfl (z_eI (sp_aload_n (q := 0) dX9_moves_58 rfl rfl)) <|
  z_ac (j := 39) rfl (z_eI (sp_aload_n (q := 1) dX9_moves_59 rfl rfl)) <|
  z_ac (j := 40) rfl (z_eI (sp_iload dX9_moves_60 rfl)) <|
  z_ac (j := 41) rfl (z_eI (sp_iload dX9_moves_62 rfl)) <|
  z_ac (j := 42) rfl (z_eI (sp_iload dX9_moves_64 rfl)) <|
  z_ac (j := 43) rfl (z_cV dX9_moves_66 wl_1611 qX9_stepsBy (by decide +kernel) ⟨_, _, rfl⟩ (z_sn rfl rfl) rfl) <|
  z_ac (j := 44) rfl (z_eI (sp_iload dX9_moves_69 rfl)) <|
  z_ac (j := 45) rfl (z_eI (sp_iconst dX9_moves_71 (by decide +kernel) rfl)) <|
  z_ac (j := 46) rfl (z_eI (sp_isub dX9_moves_72 rfl)) <|
  z_ac (j := 47) rfl (z_eI (sp_icmp_eq dX9_moves_73 rfl rfl)) <|
  z_ac (j := 48) rfl (z_eI (sp_iinc dX9_moves_76 (by decide +kernel) (by decide) (fun _ _ => rfl) rfl)) <|
  z_ac (j := 49) rfl (z_eI (sp_goto dX9_moves_79 rfl)) <|
  z_ac (j := 50) rfl (z_eI (sp_aload_n (q := 1) dX9_moves_82 rfl rfl)) <|
  z_ac (j := 51) rfl (z_eI (sp_iload_n (q := 2) dX9_moves_83 rfl rfl)) <|
  z_ac (j := 52) rfl (z_eI (sp_iconst dX9_moves_84 (by decide +kernel) rfl)) <|
  z_ac (j := 53) rfl (z_cS dX9_moves_85 wl_1521 qX9_walkerAt (by decide +kernel) (z_sn rfl rfl) rfl) <|
  z_ac (j := 54) rfl (z_eI (sp_iload dX9_moves_88 rfl)) <|
  z_ac (j := 55) rfl (z_eI (sp_iload dX9_moves_90 rfl)) <|
  z_ac (j := 56) rfl (z_cS dX9_moves_92 wl_1601 qX9_columnBy (by decide +kernel) (z_sn rfl rfl) rfl) <|
  z_ac (j := 57) rfl (z_eI (sp_iadd dX9_moves_95 rfl)) <|
  z_ac (j := 58) rfl (z_eI (sp_iast dX9_moves_96 rfl)) <|
  z_ac (j := 59) rfl (z_eI (sp_aload_n (q := 1) dX9_moves_97 rfl rfl)) <|
  z_ac (j := 60) rfl (z_eI (sp_iload_n (q := 2) dX9_moves_98 rfl rfl)) <|
  z_ac (j := 61) rfl (z_eI (sp_iconst dX9_moves_99 (by decide +kernel) rfl)) <|
  z_ac (j := 62) rfl (z_cS dX9_moves_100 wl_1521 qX9_walkerAt (by decide +kernel) (z_sn rfl rfl) rfl) <|
  z_ac (j := 63) rfl (z_eI (sp_iload dX9_moves_103 rfl)) <|
  z_ac (j := 64) rfl (z_eI (sp_iload dX9_moves_105 rfl)) <|
  z_ac (j := 65) rfl (z_cS dX9_moves_107 wl_1604 qX9_rowBy (by decide +kernel) (z_sn rfl rfl) rfl) <|
  z_ac (j := 66) rfl (z_eI (sp_iadd dX9_moves_110 rfl)) <|
  z_ac (j := 67) rfl (z_eI (sp_iast dX9_moves_111 rfl)) <|
  z_ac (j := 68) rfl (z_eI (sp_aload_n (q := 1) dX9_moves_112 rfl rfl)) <|
  z_ac (j := 69) rfl (z_eI (sp_iload_n (q := 2) dX9_moves_113 rfl rfl)) <|
  z_ac (j := 70) rfl (z_eI (sp_bipush dX9_moves_114 (by decide +kernel) rfl)) <|
  z_ac (j := 71) rfl (z_cS dX9_moves_116 wl_1521 qX9_walkerAt (by decide +kernel) (z_sn rfl rfl) rfl) <|
  z_ac (j := 72) rfl (z_eI (sp_dup2 dX9_moves_119 rfl)) <|
  z_ac (j := 73) rfl (z_eI (sp_iald dX9_moves_120 rfl)) <|
  z_ac (j := 74) rfl (z_eI (sp_iconst dX9_moves_121 (by decide +kernel) rfl)) <|
  z_ac (j := 75) rfl (z_eI (sp_iadd dX9_moves_122 rfl)) <|
  z_ac (j := 76) rfl (z_eI (sp_iast dX9_moves_123 rfl)) <|
  z_ac (j := 77) rfl (z_eI (sp_aload_n (q := 1) dX9_moves_124 rfl rfl)) <|
  z_ac (j := 78) rfl (z_eI (sp_iload dX9_moves_125 rfl)) <|
  z_ac (j := 79) rfl (z_eI (sp_iload dX9_moves_127 rfl)) <|
  z_ac (j := 80) rfl (z_cS dX9_moves_129 wl_1824 qX9_leaves (by decide +kernel) (z_sn rfl rfl) rfl) <|
  z_ac (j := 81) rfl (z_eI (sp_iconst dX9_moves_132 (by decide +kernel) rfl)) <|
  z_ac (j := 82) rfl (z_eR (sr_bool dX9_moves_133 rfl)) <| z_an
theorem dX9_sinks_0 : decode cX9_sinks 0 = .ok (.aload_n 0, 1) := by decide +kernel
theorem dX9_sinks_1 : decode cX9_sinks 1 = .ok (.iload_n 1, 1) := by decide +kernel
theorem dX9_sinks_2 : decode cX9_sinks 2 = .ok (.iconst 2, 1) := by decide +kernel
theorem dX9_sinks_3 : decode cX9_sinks 3 = .ok (.invokestatic 95, 3) := by decide +kernel
theorem dX9_sinks_6 : decode cX9_sinks 6 = .ok (.iconst 2, 1) := by decide +kernel
theorem dX9_sinks_7 : decode cX9_sinks 7 = .ok (.iastore, 1) := by decide +kernel
theorem dX9_sinks_8 : decode cX9_sinks 8 = .ok (.aload_n 0, 1) := by decide +kernel
theorem dX9_sinks_9 : decode cX9_sinks 9 = .ok (.iload_n 1, 1) := by decide +kernel
theorem dX9_sinks_10 : decode cX9_sinks 10 = .ok (.invokestatic 135, 3) := by decide +kernel
theorem dX9_sinks_13 : decode cX9_sinks 13 = .ok (.iconst 0, 1) := by decide +kernel
theorem dX9_sinks_14 : decode cX9_sinks 14 = .ok (.istore_n 3, 1) := by decide +kernel
theorem dX9_sinks_15 : decode cX9_sinks 15 = .ok (.iload_n 3, 1) := by decide +kernel
theorem dX9_sinks_16 : decode cX9_sinks 16 = .ok (.aload_n 0, 1) := by decide +kernel
theorem dX9_sinks_17 : decode cX9_sinks 17 = .ok (.iconst 5, 1) := by decide +kernel
theorem dX9_sinks_18 : decode cX9_sinks 18 = .ok (.iaload, 1) := by decide +kernel
theorem dX9_sinks_19 : decode cX9_sinks 19 = .ok (.if_icmp .ge 69, 3) := by decide +kernel
theorem dX9_sinks_22 : decode cX9_sinks 22 = .ok (.iload_n 3, 1) := by decide +kernel
theorem dX9_sinks_23 : decode cX9_sinks 23 = .ok (.iload_n 1, 1) := by decide +kernel
theorem dX9_sinks_24 : decode cX9_sinks 24 = .ok (.if_icmp .eq 58, 3) := by decide +kernel
theorem dX9_sinks_27 : decode cX9_sinks 27 = .ok (.aload_n 0, 1) := by decide +kernel
theorem dX9_sinks_28 : decode cX9_sinks 28 = .ok (.iload_n 3, 1) := by decide +kernel
theorem dX9_sinks_29 : decode cX9_sinks 29 = .ok (.iconst 2, 1) := by decide +kernel
theorem dX9_sinks_30 : decode cX9_sinks 30 = .ok (.invokestatic 95, 3) := by decide +kernel
theorem dX9_sinks_33 : decode cX9_sinks 33 = .ok (.iaload, 1) := by decide +kernel
theorem dX9_sinks_34 : decode cX9_sinks 34 = .ok (.ifCond .ne 48, 3) := by decide +kernel
theorem dX9_sinks_37 : decode cX9_sinks 37 = .ok (.aload_n 0, 1) := by decide +kernel
theorem dX9_sinks_38 : decode cX9_sinks 38 = .ok (.iload_n 3, 1) := by decide +kernel
theorem dX9_sinks_39 : decode cX9_sinks 39 = .ok (.iload_n 2, 1) := by decide +kernel
theorem dX9_sinks_40 : decode cX9_sinks 40 = .ok (.invokestatic 107, 3) := by decide +kernel
theorem dX9_sinks_43 : decode cX9_sinks 43 = .ok (.aload_n 0, 1) := by decide +kernel
theorem dX9_sinks_44 : decode cX9_sinks 44 = .ok (.invokestatic 111, 3) := by decide +kernel
theorem dX9_sinks_47 : decode cX9_sinks 47 = .ok (.if_icmp .le 6, 3) := by decide +kernel
theorem dX9_sinks_50 : decode cX9_sinks 50 = .ok (.goto 32, 3) := by decide +kernel
theorem dX9_sinks_53 : decode cX9_sinks 53 = .ok (.aload_n 0, 1) := by decide +kernel
theorem dX9_sinks_54 : decode cX9_sinks 54 = .ok (.iload_n 3, 1) := by decide +kernel
theorem dX9_sinks_55 : decode cX9_sinks 55 = .ok (.iconst 5, 1) := by decide +kernel
theorem dX9_sinks_56 : decode cX9_sinks 56 = .ok (.invokestatic 95, 3) := by decide +kernel
theorem dX9_sinks_59 : decode cX9_sinks 59 = .ok (.dup2, 1) := by decide +kernel
theorem dX9_sinks_60 : decode cX9_sinks 60 = .ok (.iaload, 1) := by decide +kernel
theorem dX9_sinks_61 : decode cX9_sinks 61 = .ok (.iconst 1, 1) := by decide +kernel
theorem dX9_sinks_62 : decode cX9_sinks 62 = .ok (.iload_n 2, 1) := by decide +kernel
theorem dX9_sinks_63 : decode cX9_sinks 63 = .ok (.ishl, 1) := by decide +kernel
theorem dX9_sinks_64 : decode cX9_sinks 64 = .ok (.ior, 1) := by decide +kernel
theorem dX9_sinks_65 : decode cX9_sinks 65 = .ok (.iastore, 1) := by decide +kernel
theorem dX9_sinks_66 : decode cX9_sinks 66 = .ok (.aload_n 0, 1) := by decide +kernel
theorem dX9_sinks_67 : decode cX9_sinks 67 = .ok (.iload_n 3, 1) := by decide +kernel
theorem dX9_sinks_68 : decode cX9_sinks 68 = .ok (.iconst 3, 1) := by decide +kernel
theorem dX9_sinks_69 : decode cX9_sinks 69 = .ok (.invokestatic 95, 3) := by decide +kernel
theorem dX9_sinks_72 : decode cX9_sinks 72 = .ok (.iaload, 1) := by decide +kernel
theorem dX9_sinks_73 : decode cX9_sinks 73 = .ok (.iload_n 2, 1) := by decide +kernel
theorem dX9_sinks_74 : decode cX9_sinks 74 = .ok (.if_icmp .ne 8, 3) := by decide +kernel
theorem dX9_sinks_77 : decode cX9_sinks 77 = .ok (.aload_n 0, 1) := by decide +kernel
theorem dX9_sinks_78 : decode cX9_sinks 78 = .ok (.iload_n 3, 1) := by decide +kernel
theorem dX9_sinks_79 : decode cX9_sinks 79 = .ok (.invokestatic 135, 3) := by decide +kernel
theorem dX9_sinks_82 : decode cX9_sinks 82 = .ok (.iinc 3 1, 3) := by decide +kernel
theorem dX9_sinks_85 : decode cX9_sinks 85 = .ok (.goto (-70), 3) := by decide +kernel
theorem dX9_sinks_88 : decode cX9_sinks 88 = .ok (.return_, 1) := by decide +kernel
theorem tX9_sinks {L : Nat} {xs : Nat → Int32} {N : Nat} : z_AllE (zE L xs N 38) 0 (kX9_sinks N) :=
  z_ac (j := 1) rfl (z_eI (sp_aload_n (q := 0) dX9_sinks_0 rfl rfl)) <|
  z_ac (j := 2) rfl (z_eI (sp_iload_n (q := 1) dX9_sinks_1 rfl rfl)) <|
  z_ac (j := 3) rfl (z_eI (sp_iconst dX9_sinks_2 (by decide +kernel) rfl)) <|
  z_ac (j := 4) rfl (z_cS dX9_sinks_3 wl_1521 qX9_walkerAt (by decide +kernel) (z_sn rfl rfl) rfl) <|
  z_ac (j := 5) rfl (z_eI (sp_iconst dX9_sinks_6 (by decide +kernel) rfl)) <|
  z_ac (j := 6) rfl (z_eI (sp_iast dX9_sinks_7 rfl)) <|
  z_ac (j := 7) rfl (z_eI (sp_aload_n (q := 0) dX9_sinks_8 rfl rfl)) <|
  z_ac (j := 8) rfl (z_eI (sp_iload_n (q := 1) dX9_sinks_9 rfl rfl)) <|
  z_ac (j := 9) rfl (z_cS dX9_sinks_10 wl_1830 qX9_forgetsTarget (by decide +kernel) (z_sn rfl rfl) rfl) <|
  z_ac (j := 10) rfl (z_eI (sp_iconst dX9_sinks_13 (by decide +kernel) rfl)) <|
  z_ac (j := 11) rfl (z_eI (sp_istore_n (q := 3) dX9_sinks_14 rfl (by decide) (fun _ _ => rfl) rfl)) <|
  z_ac (j := 12) rfl (z_eI (sp_iload_n (q := 3) dX9_sinks_15 rfl rfl)) <|
  z_ac (j := 13) rfl (z_eI (sp_aload_n (q := 0) dX9_sinks_16 rfl rfl)) <|
  z_ac (j := 14) rfl (z_eI (sp_iconst dX9_sinks_17 (by decide +kernel) rfl)) <|
  z_ac (j := 15) rfl (z_eI (sp_iald dX9_sinks_18 rfl)) <|
  z_ac (j := 16) rfl (z_eI (sp_icmp_ge dX9_sinks_19 rfl rfl)) <|
  z_ac (j := 17) rfl (z_eI (sp_iload_n (q := 3) dX9_sinks_22 rfl rfl)) <|
  z_ac (j := 18) rfl (z_eI (sp_iload_n (q := 1) dX9_sinks_23 rfl rfl)) <|
  z_ac (j := 19) rfl (z_eI (sp_icmp_eq dX9_sinks_24 rfl rfl)) <|
  z_ac (j := 20) rfl (z_eI (sp_aload_n (q := 0) dX9_sinks_27 rfl rfl)) <|
  z_ac (j := 21) rfl (z_eI (sp_iload_n (q := 3) dX9_sinks_28 rfl rfl)) <|
  z_ac (j := 22) rfl (z_eI (sp_iconst dX9_sinks_29 (by decide +kernel) rfl)) <|
  z_ac (j := 23) rfl (z_cS dX9_sinks_30 wl_1521 qX9_walkerAt (by decide +kernel) (z_sn rfl rfl) rfl) <|
  z_ac (j := 24) rfl (z_eI (sp_iald dX9_sinks_33 rfl)) <|
  z_ac (j := 25) rfl (z_eI (sp_if_ne dX9_sinks_34 rfl rfl)) <|
  z_ac (j := 26) rfl (z_eI (sp_aload_n (q := 0) dX9_sinks_37 rfl rfl)) <|
  z_ac (j := 27) rfl (z_eI (sp_iload_n (q := 3) dX9_sinks_38 rfl rfl)) <|
  z_ac (j := 28) rfl (z_eI (sp_iload_n (q := 2) dX9_sinks_39 rfl rfl)) <|
  z_ac (j := 29) rfl (z_cS dX9_sinks_40 wl_1759 qX9_farFromLight (by decide +kernel) (z_sn rfl rfl) rfl) <|
  z_ac (j := 30) rfl (z_eI (sp_aload_n (q := 0) dX9_sinks_43 rfl rfl)) <|
  z_ac (j := 31) rfl (z_cS dX9_sinks_44 wl_1639 qX9_sightOf (by decide +kernel) (z_sn rfl rfl) rfl) <|
  z_ac (j := 32) rfl (z_eI (sp_icmp_le dX9_sinks_47 rfl rfl)) <|
  z_ac (j := 33) rfl (z_eI (sp_goto dX9_sinks_50 rfl)) <|
  z_ac (j := 34) rfl (z_eI (sp_aload_n (q := 0) dX9_sinks_53 rfl rfl)) <|
  z_ac (j := 35) rfl (z_eI (sp_iload_n (q := 3) dX9_sinks_54 rfl rfl)) <|
  z_ac (j := 36) rfl (z_eI (sp_iconst dX9_sinks_55 (by decide +kernel) rfl)) <|
  z_ac (j := 37) rfl (z_cS dX9_sinks_56 wl_1521 qX9_walkerAt (by decide +kernel) (z_sn rfl rfl) rfl) <|
  z_ac (j := 38) rfl (z_eI (sp_dup2 dX9_sinks_59 rfl)) <|
  z_ac (j := 39) rfl (z_eI (sp_iald dX9_sinks_60 rfl)) <|
  z_ac (j := 40) rfl (z_eI (sp_iconst dX9_sinks_61 (by decide +kernel) rfl)) <|
  z_ac (j := 41) rfl (z_eI (sp_iload_n (q := 2) dX9_sinks_62 rfl rfl)) <|
  z_ac (j := 42) rfl (z_eI (sp_ishl dX9_sinks_63 rfl)) <|
  z_ac (j := 43) rfl (z_eI (sp_ior dX9_sinks_64 rfl)) <|
  z_ac (j := 44) rfl (z_eI (sp_iast dX9_sinks_65 rfl)) <|
  z_ac (j := 45) rfl (z_eI (sp_aload_n (q := 0) dX9_sinks_66 rfl rfl)) <|
  z_ac (j := 46) rfl (z_eI (sp_iload_n (q := 3) dX9_sinks_67 rfl rfl)) <|
  z_ac (j := 47) rfl (z_eI (sp_iconst dX9_sinks_68 (by decide +kernel) rfl)) <|
  z_ac (j := 48) rfl (z_cS dX9_sinks_69 wl_1521 qX9_walkerAt (by decide +kernel) (z_sn rfl rfl) rfl) <|
  z_ac (j := 49) rfl (z_eI (sp_iald dX9_sinks_72 rfl)) <|
  z_ac (j := 50) rfl (z_eI (sp_iload_n (q := 2) dX9_sinks_73 rfl rfl)) <|
  z_ac (j := 51) rfl (z_eI (sp_icmp_ne dX9_sinks_74 rfl rfl)) <|
  z_ac (j := 52) rfl (z_eI (sp_aload_n (q := 0) dX9_sinks_77 rfl rfl)) <|
  z_ac (j := 53) rfl (z_eI (sp_iload_n (q := 3) dX9_sinks_78 rfl rfl)) <|
  z_ac (j := 54) rfl (z_cS dX9_sinks_79 wl_1830 qX9_forgetsTarget (by decide +kernel) (z_sn rfl rfl) rfl) <|
  z_ac (j := 55) rfl (z_eI (sp_iinc dX9_sinks_82 (by decide +kernel) (by decide) (fun _ _ => rfl) rfl)) <|
  z_ac (j := 56) rfl (z_eI (sp_goto dX9_sinks_85 rfl)) <|
  z_ac (j := 57) rfl (z_eW (sv_void dX9_sinks_88 rfl)) <| z_an
theorem dX9_goesOn_0 : decode cX9_goesOn 0 = .ok (.aload_n 0, 1) := by decide +kernel
theorem dX9_goesOn_1 : decode cX9_goesOn 1 = .ok (.iload_n 1, 1) := by decide +kernel
theorem dX9_goesOn_2 : decode cX9_goesOn 2 = .ok (.iload_n 2, 1) := by decide +kernel
theorem dX9_goesOn_3 : decode cX9_goesOn 3 = .ok (.invokestatic 139, 3) := by decide +kernel
theorem dX9_goesOn_6 : decode cX9_goesOn 6 = .ok (.aload_n 0, 1) := by decide +kernel
theorem dX9_goesOn_7 : decode cX9_goesOn 7 = .ok (.iload_n 2, 1) := by decide +kernel
theorem dX9_goesOn_8 : decode cX9_goesOn 8 = .ok (.iconst 4, 1) := by decide +kernel
theorem dX9_goesOn_9 : decode cX9_goesOn 9 = .ok (.invokestatic 101, 3) := by decide +kernel
theorem dX9_goesOn_12 : decode cX9_goesOn 12 = .ok (.iaload, 1) := by decide +kernel
theorem dX9_goesOn_13 : decode cX9_goesOn 13 = .ok (.istore_n 3, 1) := by decide +kernel
theorem dX9_goesOn_14 : decode cX9_goesOn 14 = .ok (.iload_n 3, 1) := by decide +kernel
theorem dX9_goesOn_15 : decode cX9_goesOn 15 = .ok (.ifCond .lt 35, 3) := by decide +kernel
theorem dX9_goesOn_18 : decode cX9_goesOn 18 = .ok (.aload_n 0, 1) := by decide +kernel
theorem dX9_goesOn_19 : decode cX9_goesOn 19 = .ok (.iload_n 1, 1) := by decide +kernel
theorem dX9_goesOn_20 : decode cX9_goesOn 20 = .ok (.iconst 4, 1) := by decide +kernel
theorem dX9_goesOn_21 : decode cX9_goesOn 21 = .ok (.invokestatic 95, 3) := by decide +kernel
theorem dX9_goesOn_24 : decode cX9_goesOn 24 = .ok (.iaload, 1) := by decide +kernel
theorem dX9_goesOn_25 : decode cX9_goesOn 25 = .ok (.iload_n 3, 1) := by decide +kernel
theorem dX9_goesOn_26 : decode cX9_goesOn 26 = .ok (.invokestatic 118, 3) := by decide +kernel
theorem dX9_goesOn_29 : decode cX9_goesOn 29 = .ok (.ifCond .ne 21, 3) := by decide +kernel
theorem dX9_goesOn_32 : decode cX9_goesOn 32 = .ok (.aload_n 0, 1) := by decide +kernel
theorem dX9_goesOn_33 : decode cX9_goesOn 33 = .ok (.iload_n 1, 1) := by decide +kernel
theorem dX9_goesOn_34 : decode cX9_goesOn 34 = .ok (.iconst 5, 1) := by decide +kernel
theorem dX9_goesOn_35 : decode cX9_goesOn 35 = .ok (.invokestatic 95, 3) := by decide +kernel
theorem dX9_goesOn_38 : decode cX9_goesOn 38 = .ok (.iaload, 1) := by decide +kernel
theorem dX9_goesOn_39 : decode cX9_goesOn 39 = .ok (.iload_n 3, 1) := by decide +kernel
theorem dX9_goesOn_40 : decode cX9_goesOn 40 = .ok (.invokestatic 118, 3) := by decide +kernel
theorem dX9_goesOn_43 : decode cX9_goesOn 43 = .ok (.ifCond .ne 7, 3) := by decide +kernel
theorem dX9_goesOn_46 : decode cX9_goesOn 46 = .ok (.iconst 1, 1) := by decide +kernel
theorem dX9_goesOn_47 : decode cX9_goesOn 47 = .ok (.goto 4, 3) := by decide +kernel
theorem dX9_goesOn_50 : decode cX9_goesOn 50 = .ok (.iconst 0, 1) := by decide +kernel
theorem dX9_goesOn_51 : decode cX9_goesOn 51 = .ok (.istore 4, 2) := by decide +kernel
theorem dX9_goesOn_53 : decode cX9_goesOn 53 = .ok (.aload_n 0, 1) := by decide +kernel
theorem dX9_goesOn_54 : decode cX9_goesOn 54 = .ok (.iload_n 1, 1) := by decide +kernel
theorem dX9_goesOn_55 : decode cX9_goesOn 55 = .ok (.iconst 3, 1) := by decide +kernel
theorem dX9_goesOn_56 : decode cX9_goesOn 56 = .ok (.invokestatic 95, 3) := by decide +kernel
theorem dX9_goesOn_59 : decode cX9_goesOn 59 = .ok (.iload 4, 2) := by decide +kernel
theorem dX9_goesOn_61 : decode cX9_goesOn 61 = .ok (.ifCond .eq 7, 3) := by decide +kernel
theorem dX9_goesOn_64 : decode cX9_goesOn 64 = .ok (.iload_n 3, 1) := by decide +kernel
theorem dX9_goesOn_65 : decode cX9_goesOn 65 = .ok (.goto 4, 3) := by decide +kernel
theorem dX9_goesOn_68 : decode cX9_goesOn 68 = .ok (.iconst (-1), 1) := by decide +kernel
theorem dX9_goesOn_69 : decode cX9_goesOn 69 = .ok (.iastore, 1) := by decide +kernel
theorem dX9_goesOn_70 : decode cX9_goesOn 70 = .ok (.return_, 1) := by decide +kernel
theorem tX9_goesOn {L : Nat} {xs : Nat → Int32} {N : Nat} : z_AllE (zE L xs N 39) 0 (kX9_goesOn N) :=
  z_ac (j := 1) rfl (z_eI (sp_aload_n (q := 0) dX9_goesOn_0 rfl rfl)) <|
  z_ac (j := 2) rfl (z_eI (sp_iload_n (q := 1) dX9_goesOn_1 rfl rfl)) <|
  z_ac (j := 3) rfl (z_eI (sp_iload_n (q := 2) dX9_goesOn_2 rfl rfl)) <|
  z_ac (j := 4) rfl (z_cS dX9_goesOn_3 wl_1827 qX9_passes (by decide +kernel) (z_sn rfl rfl) rfl) <|
  z_ac (j := 5) rfl (z_eI (sp_aload_n (q := 0) dX9_goesOn_6 rfl rfl)) <|
  z_ac (j := 6) rfl (z_eI (sp_iload_n (q := 2) dX9_goesOn_7 rfl rfl)) <|
  z_ac (j := 7) rfl (z_eI (sp_iconst dX9_goesOn_8 (by decide +kernel) rfl)) <|
  z_ac (j := 8) rfl (z_cS dX9_goesOn_9 wl_1504 qX9_lightAt (by decide +kernel) (z_sn rfl rfl) rfl) <|
  z_ac (j := 9) rfl (z_eI (sp_iald dX9_goesOn_12 rfl)) <|
  z_ac (j := 10) rfl (z_eI (sp_istore_n (q := 3) dX9_goesOn_13 rfl (by decide) (fun _ _ => rfl) rfl)) <|
  z_ac (j := 11) rfl (z_eI (sp_iload_n (q := 3) dX9_goesOn_14 rfl rfl)) <|
  z_ac (j := 12) rfl (z_eI (sp_if_lt dX9_goesOn_15 rfl rfl)) <|
  z_ac (j := 13) rfl (z_eI (sp_aload_n (q := 0) dX9_goesOn_18 rfl rfl)) <|
  z_ac (j := 14) rfl (z_eI (sp_iload_n (q := 1) dX9_goesOn_19 rfl rfl)) <|
  z_ac (j := 15) rfl (z_eI (sp_iconst dX9_goesOn_20 (by decide +kernel) rfl)) <|
  z_ac (j := 16) rfl (z_cS dX9_goesOn_21 wl_1521 qX9_walkerAt (by decide +kernel) (z_sn rfl rfl) rfl) <|
  z_ac (j := 17) rfl (z_eI (sp_iald dX9_goesOn_24 rfl)) <|
  z_ac (j := 18) rfl (z_eI (sp_iload_n (q := 3) dX9_goesOn_25 rfl rfl)) <|
  z_ac (j := 19) rfl (z_cS dX9_goesOn_26 wl_1689 qX9_has (by decide +kernel) (z_sn rfl rfl) rfl) <|
  z_ac (j := 20) rfl (z_eI (sp_if_ne dX9_goesOn_29 rfl rfl)) <|
  z_ac (j := 21) rfl (z_eI (sp_aload_n (q := 0) dX9_goesOn_32 rfl rfl)) <|
  z_ac (j := 22) rfl (z_eI (sp_iload_n (q := 1) dX9_goesOn_33 rfl rfl)) <|
  z_ac (j := 23) rfl (z_eI (sp_iconst dX9_goesOn_34 (by decide +kernel) rfl)) <|
  z_ac (j := 24) rfl (z_cS dX9_goesOn_35 wl_1521 qX9_walkerAt (by decide +kernel) (z_sn rfl rfl) rfl) <|
  z_ac (j := 25) rfl (z_eI (sp_iald dX9_goesOn_38 rfl)) <|
  z_ac (j := 26) rfl (z_eI (sp_iload_n (q := 3) dX9_goesOn_39 rfl rfl)) <|
  z_ac (j := 27) rfl (z_cS dX9_goesOn_40 wl_1689 qX9_has (by decide +kernel) (z_sn rfl rfl) rfl) <|
  z_ac (j := 28) rfl (z_eI (sp_if_ne dX9_goesOn_43 rfl rfl)) <|
  z_ac (j := 29) rfl (z_eI (sp_iconst dX9_goesOn_46 (by decide +kernel) rfl)) <|
  z_ac (j := 30) rfl (z_eI (sp_goto dX9_goesOn_47 rfl)) <|
  z_ac (j := 31) rfl (z_eI (sp_iconst dX9_goesOn_50 (by decide +kernel) rfl)) <|
  z_ac (j := 32) rfl (z_eI (sp_istore dX9_goesOn_51 (by decide) (fun _ _ => rfl) rfl)) <|
  z_ac (j := 33) rfl (z_eI (sp_aload_n (q := 0) dX9_goesOn_53 rfl rfl)) <|
  z_ac (j := 34) rfl (z_eI (sp_iload_n (q := 1) dX9_goesOn_54 rfl rfl)) <|
  z_ac (j := 35) rfl (z_eI (sp_iconst dX9_goesOn_55 (by decide +kernel) rfl)) <|
  z_ac (j := 36) rfl (z_cS dX9_goesOn_56 wl_1521 qX9_walkerAt (by decide +kernel) (z_sn rfl rfl) rfl) <|
  z_ac (j := 37) rfl (z_eI (sp_iload dX9_goesOn_59 rfl)) <|
  z_ac (j := 38) rfl (z_eI (sp_if_eq dX9_goesOn_61 rfl rfl)) <|
  z_ac (j := 39) rfl (z_eI (sp_iload_n (q := 3) dX9_goesOn_64 rfl rfl)) <|
  z_ac (j := 40) rfl (z_eI (sp_goto dX9_goesOn_65 rfl)) <|
  z_ac (j := 41) rfl (z_eI (sp_iconst dX9_goesOn_68 (by decide +kernel) rfl)) <|
  z_ac (j := 42) rfl (z_eI (sp_iast dX9_goesOn_69 rfl)) <|
  z_ac (j := 43) rfl (z_eW (sv_void dX9_goesOn_70 rfl)) <| z_an
